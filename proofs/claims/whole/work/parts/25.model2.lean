/-- is the case c touched on the day d, by the reference's bits -/
abbrev tb (tw : Nat → Nat) (c d : Nat) : Bool := (tw (3126 * c + d / 32)).testBit (d % 32)
theorem ubit {a k : Nat} (ha : a < 2 ^ 32) (hk : k < 32) : ((Int32.toUInt32 (nI a) >>> (Int32.toUInt32 (nI k) &&& Int32.toUInt32 31)).toInt32 &&& 1) = nI (a / 2 ^ k % 2) := by
  rw [pk_ushrN ha (nI k) k ((by decide +kernel : ∀ n, n < 32 → (((nI n).toUInt32 &&& Int32.toUInt32 31).toBitVec % 32).toNat = n) k hk), show (1 : Int32) = nI 1 from rfl, nI_and, Nat.and_one_is_mod]
theorem ubit_iff {a k : Nat} (ha : a < 2 ^ 32) (hk : k < 32) : ((Int32.toUInt32 (nI a) >>> (Int32.toUInt32 (nI k) &&& Int32.toUInt32 31)).toInt32 &&& 1) = 1 ↔ a.testBit k = true := by
  rw [ubit ha hk, show (1 : Int32) = nI 1 from rfl, nI_eq (by omega) (by decide), Nat.testBit_eq_decide_div_mod_eq, decide_eq_true_iff]
theorem nI_zW {a : Nat} (h : a < 2 ^ 32) : nI a = 0 ↔ a = 0 := by
  constructor
  · intro e
    have := congrArg (fun z => z.toBitVec.toNat) e
    have h2 : (nI a).toBitVec.toNat = 0 := this
    rw [pk_tn h] at h2
    exact h2
  · intro e; subst e; rfl
theorem nI_div32 {d : Nat} (h : d < 2 ^ 31) : nI d / 32 = nI (d / 32) := pk_div (d := 32) h (by decide) (by decide)
theorem nI_rem32 {d : Nat} (h : d < 2 ^ 31) : nI d - nI d / 32 * 32 = nI (d % 32) := pk_rem (d := 32) h (by decide) (by decide)
theorem nI_ixt (c d : Nat) : (3126 : Int32) * nI c + nI (d / 32) = nI (3126 * c + d / 32) := by
  rw [show (3126 : Int32) = nI 3126 from rfl, nI_mul, nI_add]
/-- the latest day below x with a property, plus 1 -/
def lx (p : Nat → Bool) : Nat → Nat
  | 0 => 0
  | x + 1 => if p x then x + 1 else lx p x
theorem lx_le (p : Nat → Bool) : ∀ x, lx p x ≤ x
  | 0 => Nat.le_refl _
  | x + 1 => by
    unfold lx
    have := lx_le p x
    split <;> omega
theorem lx_skip (p : Nat → Bool) {x : Nat} : ∀ k, k ≤ x → (∀ e, x - k ≤ e → e < x → p e = false) → lx p x = lx p (x - k)
  | 0, _, _ => rfl
  | k + 1, h, hp => by
    have ih := lx_skip p k (by omega) (fun e h1 h2 => hp e (by omega) h2)
    rw [ih]
    obtain ⟨y, hy⟩ : ∃ y, x - k = y + 1 := ⟨x - k - 1, by omega⟩
    rw [hy, show x - (k + 1) = y by omega]
    exact if_neg (by rw [hp y (by omega) (by omega)]; decide)
set_option maxHeartbeats 4000000 in
set_option maxRecDepth 100000 in
theorem c_MO_isTouched {l : Launch} {D : va_G} {cI cZ cO cJ : ClassId} {eA eM : Nat} {f : g_F} {bd : Nat → Nat} {th : Int32} {L nc : Nat} {pt ot : Nat → Int32} {n : Nat} {P Du S Wy tw ct PF DF : Nat → Nat} {GF : Nat → Bool} {pz pm : Nat} {O Le : Nat → Nat} {Sl : Nat → Bool} (hR : mo_R cI cZ f bd th L nc pt ot n P Du S Wy tw ct PF DF GF pz pm O Le Sl) (hB : mo_B L nc n P Du S Wy tw ct PF DF pz pm O Le) {k dd : Nat} (hk : k < 24) (hdd : dd < 100032) : g_C l y_MO_isTouched b_MO_isTouched 3 (some .boolean) { frames := 0, cells := 0, slots := 0, locals := 0 } D g_cl (g_tys cI cZ cO cJ) (z_Z eA eM) [.ref (bd 0), .int (nI k), .int (nI dd)] f (fun r f2 => r = some (.int (bI (tb tw k dd))) ∧ f2 = f) (fun _ => False) := by
  refine g_ofW [(0, .ref (bd 0)), (1, .int (nI k)), (2, .int (nI dd))] (by decide +kernel) (Nat.le_of_ble_eq_true rfl) rfl ?_
  intro p e s m args below meth c X ht hin
  obtain ⟨hM, h1, h2, h3, h4, h5, h6, h7, h8, h9, h10, h11, h12, h13, h14⟩ := id hR
  obtain ⟨⟨hL1, hL5⟩, hnc, hUB, htw, hct, hPF, hDF, ⟨hpz, hpm, hO8⟩, hLe⟩ := id hB
  obtain ⟨hn8, hP, hDu, hS, hWy⟩ := id hUB
  have hix : 3126 * k + dd / 32 < 75024 := by omega
  refine g_aload_n X d_MO_isTouched_0 0 rfl ?_
  refine g_get (ci := 5) (C := R_MO) (T := F_MO) (N := 20) (v := .ref (bd 7)) X i_MO rfl hM 10 (by decide) q_607 (fun _ h9 => h9) rfl d_MO_isTouched_1 ?_
  refine g_sipush (v := 3126) X d_MO_isTouched_4 (by decide) ?_
  refine g_iload_n X d_MO_isTouched_7 1 rfl ?_
  refine g_imul X d_MO_isTouched_8 ?_
  refine g_eqi (y := nI (3126 * k)) (nI_mul 3126 k) ?_
  refine g_iload_n X d_MO_isTouched_9 2 rfl ?_
  refine g_bipush (v := 32) X d_MO_isTouched_10 (by decide) ?_
  refine g_idiv X d_MO_isTouched_12 (by decide) ?_
  refine g_eqi (y := nI (dd / 32)) (nI_div32 (by omega)) ?_
  refine g_iadd X d_MO_isTouched_13 ?_
  refine g_eqi (y := nI (3126 * k + dd / 32)) (nI_add _ _) ?_
  refine g_iald (t0 := 0) (v := nI (tw (3126 * k + dd / 32))) X h7 rfl (nI_ix (hix) (by decide)) (nI_cl (g := fun q9 => nI (tw q9)) (Nat.lt_trans (hix) (by decide))) d_MO_isTouched_14 ?_
  refine g_iload_n X d_MO_isTouched_15 2 rfl ?_
  refine g_bipush (v := 32) X d_MO_isTouched_16 (by decide) ?_
  refine g_irem X d_MO_isTouched_18 (by decide) ?_
  refine g_eqi (y := nI (dd % 32)) (nI_rem32 (by omega)) ?_
  refine g_iushr (v := (Int32.toUInt32 (nI (tw (3126 * k + dd / 32))) >>> (Int32.toUInt32 (nI (dd % 32)) &&& Int32.toUInt32 31)).toInt32) X d_MO_isTouched_19 rfl ?_
  refine g_iconst (v := 1) X d_MO_isTouched_20 (by decide) ?_
  refine g_iand X d_MO_isTouched_21 ?_
  refine g_iconst (v := 1) X d_MO_isTouched_22 (by decide) ?_
  refine g_icmp_ne X 30 d_MO_isTouched_23 (by decide) (fun c23 => ?_) (fun c23 => ?_)
  · skip
    refine g_iconst (v := 0) X d_MO_isTouched_30 (by decide) ?_
    exact g_zret X rfl (by decide) (⟨by rw [show tb tw k dd = false from bt_nt (fun z => c23 ((ubit_iff (htw _) (by omega)).mpr z))]; rfl, rfl⟩) (Nat.le_of_ble_eq_true rfl) (Nat.le_of_ble_eq_true rfl) d_MO_isTouched_31
  · skip
    refine g_iconst (v := 1) X d_MO_isTouched_26 (by decide) ?_
    refine g_goto X 31 d_MO_isTouched_27 (by decide) ?_
    exact g_zret X rfl (by decide) (⟨by rw [show tb tw k dd = true from (ubit_iff (htw _) (by omega)).mp c23]; rfl, rfl⟩) (Nat.le_of_ble_eq_true rfl) (Nat.le_of_ble_eq_true rfl) d_MO_isTouched_31
theorem fI_31 {y : Nat} (h : y % 32 = 31) : nI y - 32 = fI (y - 31) := by
  obtain ⟨z, rfl⟩ : ∃ z, y = z + 31 := ⟨y - 31, by omega⟩
  rw [Nat.add_sub_cancel, ← nI_add, show nI 31 = (31 : Int32) from rfl]
  show nI z + 31 - 32 = nI z - 1
  rw [Int32.sub_eq_add_neg, Int32.add_assoc, show (31 : Int32) + -32 = -1 by decide, ← Int32.sub_eq_add_neg]
set_option maxHeartbeats 4000000 in
set_option maxRecDepth 100000 in
theorem L_MO_lastTouch {p : Program} {l : Launch} {e : Env} {s : State} {m : MethodId} {args : Array Value} {below : List Frame} {meth : Method} {c : Code} {Q : State → Prop} {A : Nat → Prop} {D : va_G} {cI cZ cO cJ : ClassId} {eA eM : Nat} {f : g_F} {bd : Nat → Nat} {th : Int32} {L nc : Nat} {pt ot : Nat → Int32} {n : Nat} {P Du S Wy tw ct PF DF : Nat → Nat} {GF : Nat → Bool} {pz pm : Nat} {O Le : Nat → Nat} {Sl : Nat → Bool} (hR : mo_R cI cZ f bd th L nc pt ot n P Du S Wy tw ct PF DF GF pz pm O Le Sl) (hB : mo_B L nc n P Du S Wy tw ct PF DF pz pm O Le) {k res : Nat} (hk : k < 24) (X : g_X p s m args meth c b_MO_lastTouch 4 (some .int) g_T y_MO_lastTouch.cls D g_cl (g_tys cI cZ cO cJ) A (z_Z eA eM)) (kk : ∀ x : Nat, x ≤ 100001 → lx (tb tw k) x = res → (x = 0 ∨ tb tw k (x - 1) = true) → g_W p l e { frames := 1, cells := 0, slots := 0, locals := 22 } s m args below meth c 4 D g_cl A f 0 0 Q 67 [(3, .int (fI x)), (0, .ref (bd 0)), (1, .int (nI k))] []) : ∀ (d : Nat), (d ≤ 100001) → (lx (tb tw k) d = res) → g_W p l e { frames := 1, cells := 0, slots := 0, locals := 22 } s m args below meth c 4 D g_cl A f 0 0 Q 13 [(3, .int (fI d)), (0, .ref (bd 0)), (1, .int (nI k))] [] := by
  obtain ⟨hM, h1, h2, h3, h4, h5, h6, h7, h8, h9, h10, h11, h12, h13, h14⟩ := id hR
  obtain ⟨⟨hL1, hL5⟩, hnc, hUB, htw, hct, hPF, hDF, ⟨hpz, hpm, hO8⟩, hLe⟩ := id hB
  obtain ⟨hn8, hP, hDu, hS, hWy⟩ := id hUB
  intro d
  induction d using Nat.strongRecOn with
  | _ d ih =>
    intro hd hr
    refine g_iload_n X d_MO_lastTouch_13 0 rfl ?_
    refine g_if_lt X 67 d_MO_lastTouch_14 (by decide) (fun c14 => ?_) (fun c14 => ?_)
    · skip
      have e : d = 0 := by
        have := c14
        rw [Int32.lt_iff_toInt_lt, fI_toInt (by omega), Int32.toInt_zero] at this
        omega
      subst e
      exact kk 0 (by omega) hr (Or.inl rfl)
    · skip
      obtain ⟨y_, rfl⟩ : ∃ y_, d = y_ + 1 := ⟨d - 1, by
        have : d ≠ 0 := fun z => c14 (by rw [z]; decide)
        omega⟩
      refine g_lv (lv' := [(3, .int (nI y_)), (0, .ref (bd 0)), (1, .int (nI k))]) [0, 1, 2] (by rw [fI_s]; rfl) ?_
      skip
      refine g_aload_n X d_MO_lastTouch_17 1 rfl ?_
      refine g_iload_n X d_MO_lastTouch_18 2 rfl ?_
      refine g_iload_n X d_MO_lastTouch_19 0 rfl ?_
      refine g_callV (ci := 5) (As := [.int (nI k), .int (nI y_)]) (rest := []) X (z_ok eA eM) rfl rfl hM (c_MO_isTouched hR hB (k := k) (dd := y_) hk (by omega)) v_MO_isTouched q_715 q_s23 q_713 rfl rfl (Nat.le_of_ble_eq_true rfl) d_MO_lastTouch_20 ⟨(Nat.le_of_ble_eq_true rfl), (Nat.le_of_ble_eq_true rfl)⟩ ⟨(Nat.le_of_ble_eq_true rfl), (Nat.le_of_ble_eq_true rfl)⟩ (g_K.no (fun _ h => h)) (fun r_ f2_ hp => ?_)
      obtain ⟨rfl, hf_⟩ := hp
      subst f2_
      refine g_st (st2 := [.int (bI (tb tw k y_))]) rfl ?_
      refine g_if_ne X 67 d_MO_lastTouch_23 (by decide) (fun c23 => ?_) (fun c23 => ?_)
      · skip
        have hb9 : tb tw k y_ = true := bt_nf (fun z => c23 (bI_z.mpr z))
        refine g_lv (lv' := [(3, .int (fI (y_ + 1))), (0, .ref (bd 0)), (1, .int (nI k))]) [0, 1, 2] (by rw [fI_s]; rfl) (kk (y_ + 1) hd hr (Or.inr hb9))
      · skip
        have hb9 : tb tw k y_ = false := bI_z.mp c23
        have hs9 : lx (tb tw k) (y_ + 1) = lx (tb tw k) y_ := if_neg (by rw [hb9]; decide)
        refine g_iload_n X d_MO_lastTouch_26 0 rfl ?_
        refine g_bipush (v := 32) X d_MO_lastTouch_27 (by decide) ?_
        refine g_irem X d_MO_lastTouch_29 (by decide) ?_
        refine g_eqi (y := nI (y_ % 32)) (nI_rem32 (by omega)) ?_
        refine g_bipush (v := 31) X d_MO_lastTouch_30 (by decide) ?_
        refine g_icmp_ne X 60 d_MO_lastTouch_32 (by decide) (fun c32 => ?_) (fun c32 => ?_)
        · skip
          refine g_iload_n X d_MO_lastTouch_60 0 rfl ?_
          refine g_iconst (v := 1) X d_MO_lastTouch_61 (by decide) ?_
          refine g_isub X d_MO_lastTouch_62 ?_
          refine g_eqi (y := fI y_) (rfl) ?_
          refine g_istore_n (lv' := [(3, .int (fI y_)), (0, .ref (bd 0)), (1, .int (nI k))]) X d_MO_lastTouch_63 rfl (by decide) rfl ?_
          refine g_goto X 13 d_MO_lastTouch_64 (by decide) ?_
          exact g_lv [0, 1, 2] rfl (ih y_ (by omega) (by omega) (hs9.symm.trans hr))
        · skip
          have h31 : y_ % 32 = 31 := (nI_eq (b := 31) (by omega) (by decide)).mp c32
          refine g_aload_n X d_MO_lastTouch_35 1 rfl ?_
          refine g_get (ci := 5) (C := R_MO) (T := F_MO) (N := 20) (v := .ref (bd 7)) X i_MO rfl hM 10 (by decide) q_607 (fun _ h9 => h9) rfl d_MO_lastTouch_36 ?_
          refine g_sipush (v := 3126) X d_MO_lastTouch_39 (by decide) ?_
          refine g_iload_n X d_MO_lastTouch_42 2 rfl ?_
          refine g_imul X d_MO_lastTouch_43 ?_
          refine g_eqi (y := nI (3126 * k)) (nI_mul 3126 k) ?_
          refine g_iload_n X d_MO_lastTouch_44 0 rfl ?_
          refine g_bipush (v := 32) X d_MO_lastTouch_45 (by decide) ?_
          refine g_idiv X d_MO_lastTouch_47 (by decide) ?_
          refine g_eqi (y := nI (y_ / 32)) (nI_div32 (by omega)) ?_
          refine g_iadd X d_MO_lastTouch_48 ?_
          refine g_eqi (y := nI (3126 * k + y_ / 32)) (nI_add _ _) ?_
          refine g_iald (t0 := 0) (v := nI (tw (3126 * k + y_ / 32))) X h7 rfl (nI_ix ((by omega : 3126 * k + y_ / 32 < 75024)) (by decide)) (nI_cl (g := fun q9 => nI (tw q9)) (Nat.lt_trans ((by omega : 3126 * k + y_ / 32 < 75024)) (by decide))) d_MO_lastTouch_49 ?_
          refine g_if_ne X 60 d_MO_lastTouch_50 (by decide) (fun c50 => ?_) (fun c50 => ?_)
          · skip
            refine g_iload_n X d_MO_lastTouch_60 0 rfl ?_
            refine g_iconst (v := 1) X d_MO_lastTouch_61 (by decide) ?_
            refine g_isub X d_MO_lastTouch_62 ?_
            refine g_eqi (y := fI y_) (rfl) ?_
            refine g_istore_n (lv' := [(3, .int (fI y_)), (0, .ref (bd 0)), (1, .int (nI k))]) X d_MO_lastTouch_63 rfl (by decide) rfl ?_
            refine g_goto X 13 d_MO_lastTouch_64 (by decide) ?_
            exact g_lv [0, 1, 2] rfl (ih y_ (by omega) (by omega) (hs9.symm.trans hr))
          · skip
            have hz9 : tw (3126 * k + y_ / 32) = 0 := (nI_zW (htw _)).mp c50
            have hs8 : lx (tb tw k) (y_ + 1) = lx (tb tw k) (y_ - 31) := (lx_skip (tb tw k) 32 (by omega) (fun e h1 h2 => by
              show (tw (3126 * k + e / 32)).testBit (e % 32) = false
              rw [show e / 32 = y_ / 32 by omega, hz9]; exact Nat.zero_testBit _)).trans (by rw [show y_ + 1 - 32 = y_ - 31 by omega])
            refine g_iload_n X d_MO_lastTouch_53 0 rfl ?_
            refine g_bipush (v := 32) X d_MO_lastTouch_54 (by decide) ?_
            refine g_isub X d_MO_lastTouch_56 ?_
            refine g_eqi (y := fI (y_ - 31)) (fI_31 h31) ?_
            refine g_goto X 63 d_MO_lastTouch_57 (by decide) ?_
            refine g_istore_n (lv' := [(3, .int (fI (y_ - 31))), (0, .ref (bd 0)), (1, .int (nI k))]) X d_MO_lastTouch_63 rfl (by decide) rfl ?_
            refine g_goto X 13 d_MO_lastTouch_64 (by decide) ?_
            exact g_lv [0, 1, 2] rfl (ih (y_ - 31) (by omega) (by omega) (hs8.symm.trans hr))
set_option maxHeartbeats 4000000 in
set_option maxRecDepth 100000 in
theorem c_MO_lastTouch {l : Launch} {D : va_G} {cI cZ cO cJ : ClassId} {eA eM : Nat} {f : g_F} {bd : Nat → Nat} {th : Int32} {L nc : Nat} {pt ot : Nat → Int32} {n : Nat} {P Du S Wy tw ct PF DF : Nat → Nat} {GF : Nat → Bool} {pz pm : Nat} {O Le : Nat → Nat} {Sl : Nat → Bool} (hR : mo_R cI cZ f bd th L nc pt ot n P Du S Wy tw ct PF DF GF pz pm O Le Sl) (hB : mo_B L nc n P Du S Wy tw ct PF DF pz pm O Le) {k dd : Nat} (hk : k < 24) (hdd : dd < 2 ^ 30) : g_C l y_MO_lastTouch b_MO_lastTouch 4 (some .int) { frames := 1, cells := 0, slots := 0, locals := 22 } D g_cl (g_tys cI cZ cO cJ) (z_Z eA eM) [.ref (bd 0), .int (nI k), .int (nI dd)] f (fun r f2 => r = some (.int (fI (lx (tb tw k) (min dd 100000 + 1)))) ∧ f2 = f) (fun _ => False) := by
  refine g_ofW [(0, .ref (bd 0)), (1, .int (nI k)), (2, .int (nI dd))] (by decide +kernel) (Nat.le_of_ble_eq_true rfl) rfl ?_
  intro p e s m args below meth c X ht hin
  obtain ⟨hM, h1, h2, h3, h4, h5, h6, h7, h8, h9, h10, h11, h12, h13, h14⟩ := id hR
  obtain ⟨⟨hL1, hL5⟩, hnc, hUB, htw, hct, hPF, hDF, ⟨hpz, hpm, hO8⟩, hLe⟩ := id hB
  obtain ⟨hn8, hP, hDu, hS, hWy⟩ := id hUB
  refine g_iload_n X d_MO_lastTouch_0 2 rfl ?_
  refine g_ldc (v := 100000) X q_696 d_MO_lastTouch_1 ?_
  refine g_icmp_le X 11 d_MO_lastTouch_3 (by decide) (fun c3 => ?_) (fun c3 => ?_)
  · skip
    refine g_iload_n X d_MO_lastTouch_11 2 rfl ?_
    refine g_eqi (y := fI (min dd 100000 + 1)) (by rw [fI_s, Nat.min_eq_left ((nI_leI (b := 100000) (by omega) (by decide)).mp c3)]) ?_
    refine g_istore_n (lv' := [(3, .int (fI (min dd 100000 + 1))), (0, .ref (bd 0)), (1, .int (nI k)), (2, .int (nI dd))]) X d_MO_lastTouch_12 rfl (by decide) rfl ?_
    refine g_lv [0, 1, 2] rfl (L_MO_lastTouch hR hB hk X ?_ (min dd 100000 + 1) (by omega) rfl)
    intro x hx hr hb
    refine g_iload_n X d_MO_lastTouch_67 0 rfl ?_
    refine g_if_ge X 75 d_MO_lastTouch_68 (by decide) (fun c68 => ?_) (fun c68 => ?_)
    · refine g_iload_n X d_MO_lastTouch_75 0 rfl ?_
      have hx0 : x ≠ 0 := fun z => by subst z; exact absurd c68 (by decide)
      obtain ⟨y, rfl⟩ : ∃ y, x = y + 1 := ⟨x - 1, by omega⟩
      have hbb : tb tw k y = true := hb.elim (fun z => absurd z (by omega)) (fun z => z)
      exact g_iret X rfl ⟨by rw [← hr, show lx (tb tw k) (y + 1) = y + 1 from if_pos hbb], rfl⟩ (Nat.le_of_ble_eq_true rfl) (Nat.le_of_ble_eq_true rfl) d_MO_lastTouch_76
    · have hx0 : x = 0 := by
        have := c68
        rw [Int32.le_iff_toInt_le, fI_toInt (by omega), Int32.toInt_zero] at this
        omega
      subst hx0
      refine g_iconst (v := -1) X d_MO_lastTouch_71 (by decide) ?_
      refine g_goto X 76 d_MO_lastTouch_72 (by decide) ?_
      exact g_iret X rfl ⟨by rw [← hr]; rfl, rfl⟩ (Nat.le_of_ble_eq_true rfl) (Nat.le_of_ble_eq_true rfl) d_MO_lastTouch_76
  · skip
    refine g_ldc (v := 100000) X q_696 d_MO_lastTouch_6 ?_
    refine g_goto X 12 d_MO_lastTouch_8 (by decide) ?_
    refine g_eqi (y := fI (min dd 100000 + 1)) (by rw [fI_s, Nat.min_eq_right (Nat.le_of_lt (Nat.lt_of_not_le (fun z => c3 ((nI_leI (b := 100000) (by omega) (by decide)).mpr z))))]; rfl) ?_
    refine g_istore_n (lv' := [(3, .int (fI (min dd 100000 + 1))), (0, .ref (bd 0)), (1, .int (nI k)), (2, .int (nI dd))]) X d_MO_lastTouch_12 rfl (by decide) rfl ?_
    refine g_lv [0, 1, 2] rfl (L_MO_lastTouch hR hB hk X ?_ (min dd 100000 + 1) (by omega) rfl)
    intro x hx hr hb
    refine g_iload_n X d_MO_lastTouch_67 0 rfl ?_
    refine g_if_ge X 75 d_MO_lastTouch_68 (by decide) (fun c68 => ?_) (fun c68 => ?_)
    · refine g_iload_n X d_MO_lastTouch_75 0 rfl ?_
      have hx0 : x ≠ 0 := fun z => by subst z; exact absurd c68 (by decide)
      obtain ⟨y, rfl⟩ : ∃ y, x = y + 1 := ⟨x - 1, by omega⟩
      have hbb : tb tw k y = true := hb.elim (fun z => absurd z (by omega)) (fun z => z)
      exact g_iret X rfl ⟨by rw [← hr, show lx (tb tw k) (y + 1) = y + 1 from if_pos hbb], rfl⟩ (Nat.le_of_ble_eq_true rfl) (Nat.le_of_ble_eq_true rfl) d_MO_lastTouch_76
    · have hx0 : x = 0 := by
        have := c68
        rw [Int32.le_iff_toInt_le, fI_toInt (by omega), Int32.toInt_zero] at this
        omega
      subst hx0
      refine g_iconst (v := -1) X d_MO_lastTouch_71 (by decide) ?_
      refine g_goto X 76 d_MO_lastTouch_72 (by decide) ?_
      exact g_iret X rfl ⟨by rw [← hr]; rfl, rfl⟩ (Nat.le_of_ble_eq_true rfl) (Nat.le_of_ble_eq_true rfl) d_MO_lastTouch_76
/-- the row of a person's latest counting result so far, plus 1 -/
def bw (L : Nat) (PF DF : Nat → Nat) (k pe dd lt : Nat) : Nat → Nat
  | 0 => 0
  | i + 1 => if (PF (32 * k + i) = pe ∧ DF (32 * k + i) ≤ dd ∧ ¬ nI (DF (32 * k + i)) < nI dd - nI L ∧ lt ≤ DF (32 * k + i)) ∧ (bw L PF DF k pe dd lt i = 0 ∨ DF (bw L PF DF k pe dd lt i - 1) < DF (32 * k + i)) then 32 * k + i + 1 else bw L PF DF k pe dd lt i
theorem bw_le (L : Nat) (PF DF : Nat → Nat) (k pe dd lt : Nat) : ∀ i, bw L PF DF k pe dd lt i ≤ 32 * k + i
  | 0 => Nat.zero_le _
  | i + 1 => by
    unfold bw
    have := bw_le L PF DF k pe dd lt i
    split <;> omega
def bwv (GF : Nat → Bool) (x : Nat) : Int32 := if x = 0 then -1 else bI (GF (x - 1))
set_option maxHeartbeats 4000000 in
set_option maxRecDepth 100000 in
theorem L_MO_wordOf {p : Program} {l : Launch} {e : Env} {s : State} {m : MethodId} {args : Array Value} {below : List Frame} {meth : Method} {c : Code} {Q : State → Prop} {A : Nat → Prop} {D : va_G} {cI cZ cO cJ : ClassId} {eA eM : Nat} {f : g_F} {bd : Nat → Nat} {th : Int32} {L nc : Nat} {pt ot : Nat → Int32} {n : Nat} {P Du S Wy tw ct PF DF : Nat → Nat} {GF : Nat → Bool} {pz pm : Nat} {O Le : Nat → Nat} {Sl : Nat → Bool} (hR : mo_R cI cZ f bd th L nc pt ot n P Du S Wy tw ct PF DF GF pz pm O Le Sl) (hB : mo_B L nc n P Du S Wy tw ct PF DF pz pm O Le) {k pe dd lt : Nat} (hk : k < 24) (hpe : pe < 10) (hdd : dd < 2 ^ 30) (hlt : lt < 2 ^ 30) (X : g_X p s m args meth c b_MO_wordOf 9 (some .int) g_T y_MO_wordOf.cls D g_cl (g_tys cI cZ cO cJ) A (z_Z eA eM)) (kk : g_W p l e { frames := 0, cells := 0, slots := 0, locals := 0 } s m args below meth c 9 D g_cl A f 0 0 Q 126 [(6, .int (nI (ct k))), (5, .int (fI (bw L PF DF k pe dd lt (ct k)))), (0, .ref (bd 0)), (1, .int (nI k)), (2, .int (nI pe)), (3, .int (nI dd)), (4, .int (fI lt))] []) : ∀ (d : Nat) (i : Nat), (i + d = ct k) → g_W p l e { frames := 0, cells := 0, slots := 0, locals := 0 } s m args below meth c 9 D g_cl A f 0 0 Q 6 [(6, .int (nI i)), (5, .int (fI (bw L PF DF k pe dd lt i))), (0, .ref (bd 0)), (1, .int (nI k)), (2, .int (nI pe)), (3, .int (nI dd)), (4, .int (fI lt))] [] := by
  obtain ⟨hM, h1, h2, h3, h4, h5, h6, h7, h8, h9, h10, h11, h12, h13, h14⟩ := id hR
  obtain ⟨⟨hL1, hL5⟩, hnc, hUB, htw, hct, hPF, hDF, ⟨hpz, hpm, hO8⟩, hLe⟩ := id hB
  obtain ⟨hn8, hP, hDu, hS, hWy⟩ := id hUB
  intro d
  induction d using Nat.strongRecOn with
  | _ d ih =>
    intro i hi
    refine g_iload X d_MO_wordOf_6 0 rfl ?_
    refine g_aload_n X d_MO_wordOf_8 2 rfl ?_
    refine g_get (ci := 5) (C := R_MO) (T := F_MO) (N := 20) (v := .ref (bd 8)) X i_MO rfl hM 11 (by decide) q_608 (fun _ h9 => h9) rfl d_MO_wordOf_9 ?_
    refine g_iload_n X d_MO_wordOf_12 3 rfl ?_
    refine g_iald (t0 := 0) (v := nI (ct k)) X h8 rfl (nI_ix ((by omega : k < 24)) (by decide)) (nI_cl (g := fun q9 => nI (ct q9)) (Nat.lt_trans ((by omega : k < 24)) (by decide))) d_MO_wordOf_13 ?_
    refine g_icmp_ge X 126 d_MO_wordOf_14 (by decide) (fun c14 => ?_) (fun c14 => ?_)
    · skip
      have e : i = ct k := by have := hct k; have := (nI_leI (by omega) (by omega)).mp c14; omega
      subst e
      exact kk
    · skip
      have hctk := hct k
      have hlt2 : i < ct k := Nat.lt_of_not_le (fun z => c14 ((nI_leI (by omega) (by omega)).mpr z))
      have hbw := bw_le L PF DF k pe dd lt i
      have hdf := hDF (32 * k + i)
      have hpf := hPF (32 * k + i)
      refine g_bipush (v := 32) X d_MO_wordOf_17 (by decide) ?_
      refine g_iload_n X d_MO_wordOf_19 3 rfl ?_
      refine g_imul X d_MO_wordOf_20 ?_
      refine g_eqi (y := nI (32 * k)) (nI_mul 32 k) ?_
      refine g_iload X d_MO_wordOf_21 0 rfl ?_
      refine g_iadd X d_MO_wordOf_23 ?_
      refine g_eqi (y := nI (32 * k + i)) (nI_add _ _) ?_
      refine g_istore (lv' := [(7, .int (nI (32 * k + i))), (6, .int (nI i)), (5, .int (fI (bw L PF DF k pe dd lt i))), (0, .ref (bd 0)), (1, .int (nI k)), (2, .int (nI pe)), (3, .int (nI dd)), (4, .int (fI lt))]) X d_MO_wordOf_24 (by decide) rfl ?_
      refine g_aload_n X d_MO_wordOf_26 3 rfl ?_
      refine g_get (ci := 5) (C := R_MO) (T := F_MO) (N := 20) (v := .ref (bd 9)) X i_MO rfl hM 12 (by decide) q_609 (fun _ h9 => h9) rfl d_MO_wordOf_27 ?_
      refine g_iload X d_MO_wordOf_30 0 rfl ?_
      refine g_iald (t0 := 0) (v := nI (PF (32 * k + i))) X h9 rfl (nI_ix ((by omega : 32 * k + i < 768)) (by decide)) (nI_cl (g := fun q9 => nI (PF q9)) (Nat.lt_trans ((by omega : 32 * k + i < 768)) (by decide))) d_MO_wordOf_32 ?_
      refine g_iload_n X d_MO_wordOf_33 5 rfl ?_
      refine g_icmp_ne X 80 d_MO_wordOf_34 (by decide) (fun c34 => ?_) (fun c34 => ?_)
      · skip
        refine g_iconst (v := 0) X d_MO_wordOf_80 (by decide) ?_
        have hIS : ¬ (PF (32 * k + i) = pe ∧ DF (32 * k + i) ≤ dd ∧ ¬ nI (DF (32 * k + i)) < nI dd - nI L ∧ lt ≤ DF (32 * k + i)) := fun z => by first | exact c34 (by rw [z.1]) | exact absurd z.2.1 (Nat.not_le.mpr ((nI_ltI (by omega) (by omega)).mp c45)) | exact z.2.2.1 c61 | exact absurd z.2.2.2 (by have h9 := (fI_le (by omega) (by omega)).mp c73; omega)
        refine g_eqi (y := bI (decide (PF (32 * k + i) = pe ∧ DF (32 * k + i) ≤ dd ∧ ¬ nI (DF (32 * k + i)) < nI dd - nI L ∧ lt ≤ DF (32 * k + i)))) (by rw [decide_eq_false hIS]; rfl) ?_
        refine g_istore (lv' := [(8, .int (bI (decide (PF (32 * k + i) = pe ∧ DF (32 * k + i) ≤ dd ∧ ¬ nI (DF (32 * k + i)) < nI dd - nI L ∧ lt ≤ DF (32 * k + i))))), (7, .int (nI (32 * k + i))), (6, .int (nI i)), (5, .int (fI (bw L PF DF k pe dd lt i))), (0, .ref (bd 0)), (1, .int (nI k)), (2, .int (nI pe)), (3, .int (nI dd)), (4, .int (fI lt))]) X d_MO_wordOf_81 (by decide) rfl ?_
        refine g_iload X d_MO_wordOf_83 0 rfl ?_
        refine g_if_eq X 116 d_MO_wordOf_85 (by decide) (fun c85 => ?_) (fun c85 => ?_)
        · skip
          have e : bw L PF DF k pe dd lt (i + 1) = bw L PF DF k pe dd lt i := if_neg (fun z => of_decide_eq_false (bI_z.mp c85) z.1)
          refine g_iload X d_MO_wordOf_116 3 rfl ?_
          refine g_istore (lv' := [(5, .int (fI (bw L PF DF k pe dd lt i))), (8, .int (bI (decide (PF (32 * k + i) = pe ∧ DF (32 * k + i) ≤ dd ∧ ¬ nI (DF (32 * k + i)) < nI dd - nI L ∧ lt ≤ DF (32 * k + i))))), (7, .int (nI (32 * k + i))), (6, .int (nI i)), (0, .ref (bd 0)), (1, .int (nI k)), (2, .int (nI pe)), (3, .int (nI dd)), (4, .int (fI lt))]) X d_MO_wordOf_118 (by decide) rfl ?_
          refine g_iinc (lv' := [(6, .int (nI (i + 1))), (5, .int (fI (bw L PF DF k pe dd lt i))), (8, .int (bI (decide (PF (32 * k + i) = pe ∧ DF (32 * k + i) ≤ dd ∧ ¬ nI (DF (32 * k + i)) < nI dd - nI L ∧ lt ≤ DF (32 * k + i))))), (7, .int (nI (32 * k + i))), (0, .ref (bd 0)), (1, .int (nI k)), (2, .int (nI pe)), (3, .int (nI dd)), (4, .int (fI lt))]) X d_MO_wordOf_120 3 rfl (nI_1 i) (by decide) rfl ?_
          refine g_goto X 6 d_MO_wordOf_123 (by decide) ?_
          refine g_lv (lv' := [(6, .int (nI (i + 1))), (5, .int (fI (bw L PF DF k pe dd lt (i + 1)))), (0, .ref (bd 0)), (1, .int (nI k)), (2, .int (nI pe)), (3, .int (nI dd)), (4, .int (fI lt))]) [0, 1, 4, 5, 6, 7, 8] (by rw [e]; rfl) (ih (d - 1) (by omega) (i + 1) (by omega))
        · skip
          refine g_iload X d_MO_wordOf_88 3 rfl ?_
          refine g_iconst (v := (-1)) X d_MO_wordOf_90 (by decide) ?_
          refine g_icmp_eq X 111 d_MO_wordOf_91 (by decide) (fun c91 => ?_) (fun c91 => ?_)
          · skip
            have e : bw L PF DF k pe dd lt (i + 1) = 32 * k + i + 1 := if_pos ⟨of_decide_eq_true (bt_nf (fun z => c85 (bI_z.mpr z))), Or.inl ((fI_n (by omega)).mp c91)⟩
            refine g_iload X d_MO_wordOf_111 1 rfl ?_
            refine g_goto X 118 d_MO_wordOf_113 (by decide) ?_
            refine g_istore (lv' := [(5, .int (nI (32 * k + i))), (8, .int (bI (decide (PF (32 * k + i) = pe ∧ DF (32 * k + i) ≤ dd ∧ ¬ nI (DF (32 * k + i)) < nI dd - nI L ∧ lt ≤ DF (32 * k + i))))), (7, .int (nI (32 * k + i))), (6, .int (nI i)), (0, .ref (bd 0)), (1, .int (nI k)), (2, .int (nI pe)), (3, .int (nI dd)), (4, .int (fI lt))]) X d_MO_wordOf_118 (by decide) rfl ?_
            refine g_iinc (lv' := [(6, .int (nI (i + 1))), (5, .int (nI (32 * k + i))), (8, .int (bI (decide (PF (32 * k + i) = pe ∧ DF (32 * k + i) ≤ dd ∧ ¬ nI (DF (32 * k + i)) < nI dd - nI L ∧ lt ≤ DF (32 * k + i))))), (7, .int (nI (32 * k + i))), (0, .ref (bd 0)), (1, .int (nI k)), (2, .int (nI pe)), (3, .int (nI dd)), (4, .int (fI lt))]) X d_MO_wordOf_120 3 rfl (nI_1 i) (by decide) rfl ?_
            refine g_goto X 6 d_MO_wordOf_123 (by decide) ?_
            refine g_lv (lv' := [(6, .int (nI (i + 1))), (5, .int (fI (bw L PF DF k pe dd lt (i + 1)))), (0, .ref (bd 0)), (1, .int (nI k)), (2, .int (nI pe)), (3, .int (nI dd)), (4, .int (fI lt))]) [0, 1, 4, 5, 6, 7, 8] (by rw [e, fI_s]; rfl) (ih (d - 1) (by omega) (i + 1) (by omega))
          · skip
            have hb0 : bw L PF DF k pe dd lt i ≠ 0 := fun z => c91 ((fI_n (by omega)).mpr z)
            have hdf2 := hDF (bw L PF DF k pe dd lt i - 1)
            refine g_aload_n X d_MO_wordOf_94 4 rfl ?_
            refine g_get (ci := 5) (C := R_MO) (T := F_MO) (N := 20) (v := .ref (bd 10)) X i_MO rfl hM 13 (by decide) q_610 (fun _ h9 => h9) rfl d_MO_wordOf_95 ?_
            refine g_iload X d_MO_wordOf_98 1 rfl ?_
            refine g_iald (t0 := 0) (v := nI (DF (32 * k + i))) X h10 rfl (nI_ix ((by omega : 32 * k + i < 768)) (by decide)) (nI_cl (g := fun q9 => nI (DF q9)) (Nat.lt_trans ((by omega : 32 * k + i < 768)) (by decide))) d_MO_wordOf_100 ?_
            refine g_aload_n X d_MO_wordOf_101 4 rfl ?_
            refine g_get (ci := 5) (C := R_MO) (T := F_MO) (N := 20) (v := .ref (bd 10)) X i_MO rfl hM 13 (by decide) q_610 (fun _ h9 => h9) rfl d_MO_wordOf_102 ?_
            refine g_iload X d_MO_wordOf_105 3 rfl ?_
            refine g_iald (t0 := 0) (v := nI (DF (bw L PF DF k pe dd lt i - 1))) X h10 rfl (by rw [show fI (bw L PF DF k pe dd lt i) = nI (bw L PF DF k pe dd lt i - 1) from nI_m1 (by omega)]; exact nI_ix (by omega : bw L PF DF k pe dd lt i - 1 < 768) (by decide)) (by rw [show fI (bw L PF DF k pe dd lt i) = nI (bw L PF DF k pe dd lt i - 1) from nI_m1 (by omega)]; exact nI_cl (g := fun q9 => nI (DF q9)) (by omega)) d_MO_wordOf_107 ?_
            refine g_icmp_le X 116 d_MO_wordOf_108 (by decide) (fun c108 => ?_) (fun c108 => ?_)
            · skip
              have e : bw L PF DF k pe dd lt (i + 1) = bw L PF DF k pe dd lt i := if_neg (fun z => z.2.elim hb0 (fun z2 => absurd z2 (Nat.not_lt.mpr ((nI_leI (by omega) (by omega)).mp c108))))
              refine g_iload X d_MO_wordOf_116 3 rfl ?_
              refine g_istore (lv' := [(5, .int (fI (bw L PF DF k pe dd lt i))), (8, .int (bI (decide (PF (32 * k + i) = pe ∧ DF (32 * k + i) ≤ dd ∧ ¬ nI (DF (32 * k + i)) < nI dd - nI L ∧ lt ≤ DF (32 * k + i))))), (7, .int (nI (32 * k + i))), (6, .int (nI i)), (0, .ref (bd 0)), (1, .int (nI k)), (2, .int (nI pe)), (3, .int (nI dd)), (4, .int (fI lt))]) X d_MO_wordOf_118 (by decide) rfl ?_
              refine g_iinc (lv' := [(6, .int (nI (i + 1))), (5, .int (fI (bw L PF DF k pe dd lt i))), (8, .int (bI (decide (PF (32 * k + i) = pe ∧ DF (32 * k + i) ≤ dd ∧ ¬ nI (DF (32 * k + i)) < nI dd - nI L ∧ lt ≤ DF (32 * k + i))))), (7, .int (nI (32 * k + i))), (0, .ref (bd 0)), (1, .int (nI k)), (2, .int (nI pe)), (3, .int (nI dd)), (4, .int (fI lt))]) X d_MO_wordOf_120 3 rfl (nI_1 i) (by decide) rfl ?_
              refine g_goto X 6 d_MO_wordOf_123 (by decide) ?_
              refine g_lv (lv' := [(6, .int (nI (i + 1))), (5, .int (fI (bw L PF DF k pe dd lt (i + 1)))), (0, .ref (bd 0)), (1, .int (nI k)), (2, .int (nI pe)), (3, .int (nI dd)), (4, .int (fI lt))]) [0, 1, 4, 5, 6, 7, 8] (by rw [e]; rfl) (ih (d - 1) (by omega) (i + 1) (by omega))
            · skip
              have e : bw L PF DF k pe dd lt (i + 1) = 32 * k + i + 1 := if_pos ⟨of_decide_eq_true (bt_nf (fun z => c85 (bI_z.mpr z))), Or.inr (Nat.lt_of_not_le (fun z => c108 ((nI_leI (by omega) (by omega)).mpr z)))⟩
              refine g_iload X d_MO_wordOf_111 1 rfl ?_
              refine g_goto X 118 d_MO_wordOf_113 (by decide) ?_
              refine g_istore (lv' := [(5, .int (nI (32 * k + i))), (8, .int (bI (decide (PF (32 * k + i) = pe ∧ DF (32 * k + i) ≤ dd ∧ ¬ nI (DF (32 * k + i)) < nI dd - nI L ∧ lt ≤ DF (32 * k + i))))), (7, .int (nI (32 * k + i))), (6, .int (nI i)), (0, .ref (bd 0)), (1, .int (nI k)), (2, .int (nI pe)), (3, .int (nI dd)), (4, .int (fI lt))]) X d_MO_wordOf_118 (by decide) rfl ?_
              refine g_iinc (lv' := [(6, .int (nI (i + 1))), (5, .int (nI (32 * k + i))), (8, .int (bI (decide (PF (32 * k + i) = pe ∧ DF (32 * k + i) ≤ dd ∧ ¬ nI (DF (32 * k + i)) < nI dd - nI L ∧ lt ≤ DF (32 * k + i))))), (7, .int (nI (32 * k + i))), (0, .ref (bd 0)), (1, .int (nI k)), (2, .int (nI pe)), (3, .int (nI dd)), (4, .int (fI lt))]) X d_MO_wordOf_120 3 rfl (nI_1 i) (by decide) rfl ?_
              refine g_goto X 6 d_MO_wordOf_123 (by decide) ?_
              refine g_lv (lv' := [(6, .int (nI (i + 1))), (5, .int (fI (bw L PF DF k pe dd lt (i + 1)))), (0, .ref (bd 0)), (1, .int (nI k)), (2, .int (nI pe)), (3, .int (nI dd)), (4, .int (fI lt))]) [0, 1, 4, 5, 6, 7, 8] (by rw [e, fI_s]; rfl) (ih (d - 1) (by omega) (i + 1) (by omega))
      · skip
        refine g_aload_n X d_MO_wordOf_37 3 rfl ?_
        refine g_get (ci := 5) (C := R_MO) (T := F_MO) (N := 20) (v := .ref (bd 10)) X i_MO rfl hM 13 (by decide) q_610 (fun _ h9 => h9) rfl d_MO_wordOf_38 ?_
        refine g_iload X d_MO_wordOf_41 0 rfl ?_
        refine g_iald (t0 := 0) (v := nI (DF (32 * k + i))) X h10 rfl (nI_ix ((by omega : 32 * k + i < 768)) (by decide)) (nI_cl (g := fun q9 => nI (DF q9)) (Nat.lt_trans ((by omega : 32 * k + i < 768)) (by decide))) d_MO_wordOf_43 ?_
        refine g_iload_n X d_MO_wordOf_44 6 rfl ?_
        refine g_icmp_gt X 80 d_MO_wordOf_45 (by decide) (fun c45 => ?_) (fun c45 => ?_)
        · skip
          refine g_iconst (v := 0) X d_MO_wordOf_80 (by decide) ?_
          have hIS : ¬ (PF (32 * k + i) = pe ∧ DF (32 * k + i) ≤ dd ∧ ¬ nI (DF (32 * k + i)) < nI dd - nI L ∧ lt ≤ DF (32 * k + i)) := fun z => by first | exact c34 (by rw [z.1]) | exact absurd z.2.1 (Nat.not_le.mpr ((nI_ltI (by omega) (by omega)).mp c45)) | exact z.2.2.1 c61 | exact absurd z.2.2.2 (by have h9 := (fI_le (by omega) (by omega)).mp c73; omega)
          refine g_eqi (y := bI (decide (PF (32 * k + i) = pe ∧ DF (32 * k + i) ≤ dd ∧ ¬ nI (DF (32 * k + i)) < nI dd - nI L ∧ lt ≤ DF (32 * k + i)))) (by rw [decide_eq_false hIS]; rfl) ?_
          refine g_istore (lv' := [(8, .int (bI (decide (PF (32 * k + i) = pe ∧ DF (32 * k + i) ≤ dd ∧ ¬ nI (DF (32 * k + i)) < nI dd - nI L ∧ lt ≤ DF (32 * k + i))))), (7, .int (nI (32 * k + i))), (6, .int (nI i)), (5, .int (fI (bw L PF DF k pe dd lt i))), (0, .ref (bd 0)), (1, .int (nI k)), (2, .int (nI pe)), (3, .int (nI dd)), (4, .int (fI lt))]) X d_MO_wordOf_81 (by decide) rfl ?_
          refine g_iload X d_MO_wordOf_83 0 rfl ?_
          refine g_if_eq X 116 d_MO_wordOf_85 (by decide) (fun c85 => ?_) (fun c85 => ?_)
          · skip
            have e : bw L PF DF k pe dd lt (i + 1) = bw L PF DF k pe dd lt i := if_neg (fun z => of_decide_eq_false (bI_z.mp c85) z.1)
            refine g_iload X d_MO_wordOf_116 3 rfl ?_
            refine g_istore (lv' := [(5, .int (fI (bw L PF DF k pe dd lt i))), (8, .int (bI (decide (PF (32 * k + i) = pe ∧ DF (32 * k + i) ≤ dd ∧ ¬ nI (DF (32 * k + i)) < nI dd - nI L ∧ lt ≤ DF (32 * k + i))))), (7, .int (nI (32 * k + i))), (6, .int (nI i)), (0, .ref (bd 0)), (1, .int (nI k)), (2, .int (nI pe)), (3, .int (nI dd)), (4, .int (fI lt))]) X d_MO_wordOf_118 (by decide) rfl ?_
            refine g_iinc (lv' := [(6, .int (nI (i + 1))), (5, .int (fI (bw L PF DF k pe dd lt i))), (8, .int (bI (decide (PF (32 * k + i) = pe ∧ DF (32 * k + i) ≤ dd ∧ ¬ nI (DF (32 * k + i)) < nI dd - nI L ∧ lt ≤ DF (32 * k + i))))), (7, .int (nI (32 * k + i))), (0, .ref (bd 0)), (1, .int (nI k)), (2, .int (nI pe)), (3, .int (nI dd)), (4, .int (fI lt))]) X d_MO_wordOf_120 3 rfl (nI_1 i) (by decide) rfl ?_
            refine g_goto X 6 d_MO_wordOf_123 (by decide) ?_
            refine g_lv (lv' := [(6, .int (nI (i + 1))), (5, .int (fI (bw L PF DF k pe dd lt (i + 1)))), (0, .ref (bd 0)), (1, .int (nI k)), (2, .int (nI pe)), (3, .int (nI dd)), (4, .int (fI lt))]) [0, 1, 4, 5, 6, 7, 8] (by rw [e]; rfl) (ih (d - 1) (by omega) (i + 1) (by omega))
          · skip
            refine g_iload X d_MO_wordOf_88 3 rfl ?_
            refine g_iconst (v := (-1)) X d_MO_wordOf_90 (by decide) ?_
            refine g_icmp_eq X 111 d_MO_wordOf_91 (by decide) (fun c91 => ?_) (fun c91 => ?_)
            · skip
              have e : bw L PF DF k pe dd lt (i + 1) = 32 * k + i + 1 := if_pos ⟨of_decide_eq_true (bt_nf (fun z => c85 (bI_z.mpr z))), Or.inl ((fI_n (by omega)).mp c91)⟩
              refine g_iload X d_MO_wordOf_111 1 rfl ?_
              refine g_goto X 118 d_MO_wordOf_113 (by decide) ?_
              refine g_istore (lv' := [(5, .int (nI (32 * k + i))), (8, .int (bI (decide (PF (32 * k + i) = pe ∧ DF (32 * k + i) ≤ dd ∧ ¬ nI (DF (32 * k + i)) < nI dd - nI L ∧ lt ≤ DF (32 * k + i))))), (7, .int (nI (32 * k + i))), (6, .int (nI i)), (0, .ref (bd 0)), (1, .int (nI k)), (2, .int (nI pe)), (3, .int (nI dd)), (4, .int (fI lt))]) X d_MO_wordOf_118 (by decide) rfl ?_
              refine g_iinc (lv' := [(6, .int (nI (i + 1))), (5, .int (nI (32 * k + i))), (8, .int (bI (decide (PF (32 * k + i) = pe ∧ DF (32 * k + i) ≤ dd ∧ ¬ nI (DF (32 * k + i)) < nI dd - nI L ∧ lt ≤ DF (32 * k + i))))), (7, .int (nI (32 * k + i))), (0, .ref (bd 0)), (1, .int (nI k)), (2, .int (nI pe)), (3, .int (nI dd)), (4, .int (fI lt))]) X d_MO_wordOf_120 3 rfl (nI_1 i) (by decide) rfl ?_
              refine g_goto X 6 d_MO_wordOf_123 (by decide) ?_
              refine g_lv (lv' := [(6, .int (nI (i + 1))), (5, .int (fI (bw L PF DF k pe dd lt (i + 1)))), (0, .ref (bd 0)), (1, .int (nI k)), (2, .int (nI pe)), (3, .int (nI dd)), (4, .int (fI lt))]) [0, 1, 4, 5, 6, 7, 8] (by rw [e, fI_s]; rfl) (ih (d - 1) (by omega) (i + 1) (by omega))
            · skip
              have hb0 : bw L PF DF k pe dd lt i ≠ 0 := fun z => c91 ((fI_n (by omega)).mpr z)
              have hdf2 := hDF (bw L PF DF k pe dd lt i - 1)
              refine g_aload_n X d_MO_wordOf_94 4 rfl ?_
              refine g_get (ci := 5) (C := R_MO) (T := F_MO) (N := 20) (v := .ref (bd 10)) X i_MO rfl hM 13 (by decide) q_610 (fun _ h9 => h9) rfl d_MO_wordOf_95 ?_
              refine g_iload X d_MO_wordOf_98 1 rfl ?_
              refine g_iald (t0 := 0) (v := nI (DF (32 * k + i))) X h10 rfl (nI_ix ((by omega : 32 * k + i < 768)) (by decide)) (nI_cl (g := fun q9 => nI (DF q9)) (Nat.lt_trans ((by omega : 32 * k + i < 768)) (by decide))) d_MO_wordOf_100 ?_
              refine g_aload_n X d_MO_wordOf_101 4 rfl ?_
              refine g_get (ci := 5) (C := R_MO) (T := F_MO) (N := 20) (v := .ref (bd 10)) X i_MO rfl hM 13 (by decide) q_610 (fun _ h9 => h9) rfl d_MO_wordOf_102 ?_
              refine g_iload X d_MO_wordOf_105 3 rfl ?_
              refine g_iald (t0 := 0) (v := nI (DF (bw L PF DF k pe dd lt i - 1))) X h10 rfl (by rw [show fI (bw L PF DF k pe dd lt i) = nI (bw L PF DF k pe dd lt i - 1) from nI_m1 (by omega)]; exact nI_ix (by omega : bw L PF DF k pe dd lt i - 1 < 768) (by decide)) (by rw [show fI (bw L PF DF k pe dd lt i) = nI (bw L PF DF k pe dd lt i - 1) from nI_m1 (by omega)]; exact nI_cl (g := fun q9 => nI (DF q9)) (by omega)) d_MO_wordOf_107 ?_
              refine g_icmp_le X 116 d_MO_wordOf_108 (by decide) (fun c108 => ?_) (fun c108 => ?_)
              · skip
                have e : bw L PF DF k pe dd lt (i + 1) = bw L PF DF k pe dd lt i := if_neg (fun z => z.2.elim hb0 (fun z2 => absurd z2 (Nat.not_lt.mpr ((nI_leI (by omega) (by omega)).mp c108))))
                refine g_iload X d_MO_wordOf_116 3 rfl ?_
                refine g_istore (lv' := [(5, .int (fI (bw L PF DF k pe dd lt i))), (8, .int (bI (decide (PF (32 * k + i) = pe ∧ DF (32 * k + i) ≤ dd ∧ ¬ nI (DF (32 * k + i)) < nI dd - nI L ∧ lt ≤ DF (32 * k + i))))), (7, .int (nI (32 * k + i))), (6, .int (nI i)), (0, .ref (bd 0)), (1, .int (nI k)), (2, .int (nI pe)), (3, .int (nI dd)), (4, .int (fI lt))]) X d_MO_wordOf_118 (by decide) rfl ?_
                refine g_iinc (lv' := [(6, .int (nI (i + 1))), (5, .int (fI (bw L PF DF k pe dd lt i))), (8, .int (bI (decide (PF (32 * k + i) = pe ∧ DF (32 * k + i) ≤ dd ∧ ¬ nI (DF (32 * k + i)) < nI dd - nI L ∧ lt ≤ DF (32 * k + i))))), (7, .int (nI (32 * k + i))), (0, .ref (bd 0)), (1, .int (nI k)), (2, .int (nI pe)), (3, .int (nI dd)), (4, .int (fI lt))]) X d_MO_wordOf_120 3 rfl (nI_1 i) (by decide) rfl ?_
                refine g_goto X 6 d_MO_wordOf_123 (by decide) ?_
                refine g_lv (lv' := [(6, .int (nI (i + 1))), (5, .int (fI (bw L PF DF k pe dd lt (i + 1)))), (0, .ref (bd 0)), (1, .int (nI k)), (2, .int (nI pe)), (3, .int (nI dd)), (4, .int (fI lt))]) [0, 1, 4, 5, 6, 7, 8] (by rw [e]; rfl) (ih (d - 1) (by omega) (i + 1) (by omega))
              · skip
                have e : bw L PF DF k pe dd lt (i + 1) = 32 * k + i + 1 := if_pos ⟨of_decide_eq_true (bt_nf (fun z => c85 (bI_z.mpr z))), Or.inr (Nat.lt_of_not_le (fun z => c108 ((nI_leI (by omega) (by omega)).mpr z)))⟩
                refine g_iload X d_MO_wordOf_111 1 rfl ?_
                refine g_goto X 118 d_MO_wordOf_113 (by decide) ?_
                refine g_istore (lv' := [(5, .int (nI (32 * k + i))), (8, .int (bI (decide (PF (32 * k + i) = pe ∧ DF (32 * k + i) ≤ dd ∧ ¬ nI (DF (32 * k + i)) < nI dd - nI L ∧ lt ≤ DF (32 * k + i))))), (7, .int (nI (32 * k + i))), (6, .int (nI i)), (0, .ref (bd 0)), (1, .int (nI k)), (2, .int (nI pe)), (3, .int (nI dd)), (4, .int (fI lt))]) X d_MO_wordOf_118 (by decide) rfl ?_
                refine g_iinc (lv' := [(6, .int (nI (i + 1))), (5, .int (nI (32 * k + i))), (8, .int (bI (decide (PF (32 * k + i) = pe ∧ DF (32 * k + i) ≤ dd ∧ ¬ nI (DF (32 * k + i)) < nI dd - nI L ∧ lt ≤ DF (32 * k + i))))), (7, .int (nI (32 * k + i))), (0, .ref (bd 0)), (1, .int (nI k)), (2, .int (nI pe)), (3, .int (nI dd)), (4, .int (fI lt))]) X d_MO_wordOf_120 3 rfl (nI_1 i) (by decide) rfl ?_
                refine g_goto X 6 d_MO_wordOf_123 (by decide) ?_
                refine g_lv (lv' := [(6, .int (nI (i + 1))), (5, .int (fI (bw L PF DF k pe dd lt (i + 1)))), (0, .ref (bd 0)), (1, .int (nI k)), (2, .int (nI pe)), (3, .int (nI dd)), (4, .int (fI lt))]) [0, 1, 4, 5, 6, 7, 8] (by rw [e, fI_s]; rfl) (ih (d - 1) (by omega) (i + 1) (by omega))
        · skip
          refine g_aload_n X d_MO_wordOf_48 3 rfl ?_
          refine g_get (ci := 5) (C := R_MO) (T := F_MO) (N := 20) (v := .ref (bd 10)) X i_MO rfl hM 13 (by decide) q_610 (fun _ h9 => h9) rfl d_MO_wordOf_49 ?_
          refine g_iload X d_MO_wordOf_52 0 rfl ?_
          refine g_iald (t0 := 0) (v := nI (DF (32 * k + i))) X h10 rfl (nI_ix ((by omega : 32 * k + i < 768)) (by decide)) (nI_cl (g := fun q9 => nI (DF q9)) (Nat.lt_trans ((by omega : 32 * k + i < 768)) (by decide))) d_MO_wordOf_54 ?_
          refine g_iload_n X d_MO_wordOf_55 6 rfl ?_
          refine g_aload_n X d_MO_wordOf_56 3 rfl ?_
          refine g_get (ci := 5) (C := R_MO) (T := F_MO) (N := 20) (v := .int (nI L)) X i_MO rfl hM 1 (by decide) q_598 (fun _ h9 => h9) rfl d_MO_wordOf_57 ?_
          refine g_isub X d_MO_wordOf_60 ?_
          refine g_icmp_lt X 80 d_MO_wordOf_61 (by decide) (fun c61 => ?_) (fun c61 => ?_)
          · skip
            refine g_iconst (v := 0) X d_MO_wordOf_80 (by decide) ?_
            have hIS : ¬ (PF (32 * k + i) = pe ∧ DF (32 * k + i) ≤ dd ∧ ¬ nI (DF (32 * k + i)) < nI dd - nI L ∧ lt ≤ DF (32 * k + i)) := fun z => by first | exact c34 (by rw [z.1]) | exact absurd z.2.1 (Nat.not_le.mpr ((nI_ltI (by omega) (by omega)).mp c45)) | exact z.2.2.1 c61 | exact absurd z.2.2.2 (by have h9 := (fI_le (by omega) (by omega)).mp c73; omega)
            refine g_eqi (y := bI (decide (PF (32 * k + i) = pe ∧ DF (32 * k + i) ≤ dd ∧ ¬ nI (DF (32 * k + i)) < nI dd - nI L ∧ lt ≤ DF (32 * k + i)))) (by rw [decide_eq_false hIS]; rfl) ?_
            refine g_istore (lv' := [(8, .int (bI (decide (PF (32 * k + i) = pe ∧ DF (32 * k + i) ≤ dd ∧ ¬ nI (DF (32 * k + i)) < nI dd - nI L ∧ lt ≤ DF (32 * k + i))))), (7, .int (nI (32 * k + i))), (6, .int (nI i)), (5, .int (fI (bw L PF DF k pe dd lt i))), (0, .ref (bd 0)), (1, .int (nI k)), (2, .int (nI pe)), (3, .int (nI dd)), (4, .int (fI lt))]) X d_MO_wordOf_81 (by decide) rfl ?_
            refine g_iload X d_MO_wordOf_83 0 rfl ?_
            refine g_if_eq X 116 d_MO_wordOf_85 (by decide) (fun c85 => ?_) (fun c85 => ?_)
            · skip
              have e : bw L PF DF k pe dd lt (i + 1) = bw L PF DF k pe dd lt i := if_neg (fun z => of_decide_eq_false (bI_z.mp c85) z.1)
              refine g_iload X d_MO_wordOf_116 3 rfl ?_
              refine g_istore (lv' := [(5, .int (fI (bw L PF DF k pe dd lt i))), (8, .int (bI (decide (PF (32 * k + i) = pe ∧ DF (32 * k + i) ≤ dd ∧ ¬ nI (DF (32 * k + i)) < nI dd - nI L ∧ lt ≤ DF (32 * k + i))))), (7, .int (nI (32 * k + i))), (6, .int (nI i)), (0, .ref (bd 0)), (1, .int (nI k)), (2, .int (nI pe)), (3, .int (nI dd)), (4, .int (fI lt))]) X d_MO_wordOf_118 (by decide) rfl ?_
              refine g_iinc (lv' := [(6, .int (nI (i + 1))), (5, .int (fI (bw L PF DF k pe dd lt i))), (8, .int (bI (decide (PF (32 * k + i) = pe ∧ DF (32 * k + i) ≤ dd ∧ ¬ nI (DF (32 * k + i)) < nI dd - nI L ∧ lt ≤ DF (32 * k + i))))), (7, .int (nI (32 * k + i))), (0, .ref (bd 0)), (1, .int (nI k)), (2, .int (nI pe)), (3, .int (nI dd)), (4, .int (fI lt))]) X d_MO_wordOf_120 3 rfl (nI_1 i) (by decide) rfl ?_
              refine g_goto X 6 d_MO_wordOf_123 (by decide) ?_
              refine g_lv (lv' := [(6, .int (nI (i + 1))), (5, .int (fI (bw L PF DF k pe dd lt (i + 1)))), (0, .ref (bd 0)), (1, .int (nI k)), (2, .int (nI pe)), (3, .int (nI dd)), (4, .int (fI lt))]) [0, 1, 4, 5, 6, 7, 8] (by rw [e]; rfl) (ih (d - 1) (by omega) (i + 1) (by omega))
            · skip
              refine g_iload X d_MO_wordOf_88 3 rfl ?_
              refine g_iconst (v := (-1)) X d_MO_wordOf_90 (by decide) ?_
              refine g_icmp_eq X 111 d_MO_wordOf_91 (by decide) (fun c91 => ?_) (fun c91 => ?_)
              · skip
                have e : bw L PF DF k pe dd lt (i + 1) = 32 * k + i + 1 := if_pos ⟨of_decide_eq_true (bt_nf (fun z => c85 (bI_z.mpr z))), Or.inl ((fI_n (by omega)).mp c91)⟩
                refine g_iload X d_MO_wordOf_111 1 rfl ?_
                refine g_goto X 118 d_MO_wordOf_113 (by decide) ?_
                refine g_istore (lv' := [(5, .int (nI (32 * k + i))), (8, .int (bI (decide (PF (32 * k + i) = pe ∧ DF (32 * k + i) ≤ dd ∧ ¬ nI (DF (32 * k + i)) < nI dd - nI L ∧ lt ≤ DF (32 * k + i))))), (7, .int (nI (32 * k + i))), (6, .int (nI i)), (0, .ref (bd 0)), (1, .int (nI k)), (2, .int (nI pe)), (3, .int (nI dd)), (4, .int (fI lt))]) X d_MO_wordOf_118 (by decide) rfl ?_
                refine g_iinc (lv' := [(6, .int (nI (i + 1))), (5, .int (nI (32 * k + i))), (8, .int (bI (decide (PF (32 * k + i) = pe ∧ DF (32 * k + i) ≤ dd ∧ ¬ nI (DF (32 * k + i)) < nI dd - nI L ∧ lt ≤ DF (32 * k + i))))), (7, .int (nI (32 * k + i))), (0, .ref (bd 0)), (1, .int (nI k)), (2, .int (nI pe)), (3, .int (nI dd)), (4, .int (fI lt))]) X d_MO_wordOf_120 3 rfl (nI_1 i) (by decide) rfl ?_
                refine g_goto X 6 d_MO_wordOf_123 (by decide) ?_
                refine g_lv (lv' := [(6, .int (nI (i + 1))), (5, .int (fI (bw L PF DF k pe dd lt (i + 1)))), (0, .ref (bd 0)), (1, .int (nI k)), (2, .int (nI pe)), (3, .int (nI dd)), (4, .int (fI lt))]) [0, 1, 4, 5, 6, 7, 8] (by rw [e, fI_s]; rfl) (ih (d - 1) (by omega) (i + 1) (by omega))
              · skip
                have hb0 : bw L PF DF k pe dd lt i ≠ 0 := fun z => c91 ((fI_n (by omega)).mpr z)
                have hdf2 := hDF (bw L PF DF k pe dd lt i - 1)
                refine g_aload_n X d_MO_wordOf_94 4 rfl ?_
                refine g_get (ci := 5) (C := R_MO) (T := F_MO) (N := 20) (v := .ref (bd 10)) X i_MO rfl hM 13 (by decide) q_610 (fun _ h9 => h9) rfl d_MO_wordOf_95 ?_
                refine g_iload X d_MO_wordOf_98 1 rfl ?_
                refine g_iald (t0 := 0) (v := nI (DF (32 * k + i))) X h10 rfl (nI_ix ((by omega : 32 * k + i < 768)) (by decide)) (nI_cl (g := fun q9 => nI (DF q9)) (Nat.lt_trans ((by omega : 32 * k + i < 768)) (by decide))) d_MO_wordOf_100 ?_
                refine g_aload_n X d_MO_wordOf_101 4 rfl ?_
                refine g_get (ci := 5) (C := R_MO) (T := F_MO) (N := 20) (v := .ref (bd 10)) X i_MO rfl hM 13 (by decide) q_610 (fun _ h9 => h9) rfl d_MO_wordOf_102 ?_
                refine g_iload X d_MO_wordOf_105 3 rfl ?_
                refine g_iald (t0 := 0) (v := nI (DF (bw L PF DF k pe dd lt i - 1))) X h10 rfl (by rw [show fI (bw L PF DF k pe dd lt i) = nI (bw L PF DF k pe dd lt i - 1) from nI_m1 (by omega)]; exact nI_ix (by omega : bw L PF DF k pe dd lt i - 1 < 768) (by decide)) (by rw [show fI (bw L PF DF k pe dd lt i) = nI (bw L PF DF k pe dd lt i - 1) from nI_m1 (by omega)]; exact nI_cl (g := fun q9 => nI (DF q9)) (by omega)) d_MO_wordOf_107 ?_
                refine g_icmp_le X 116 d_MO_wordOf_108 (by decide) (fun c108 => ?_) (fun c108 => ?_)
                · skip
                  have e : bw L PF DF k pe dd lt (i + 1) = bw L PF DF k pe dd lt i := if_neg (fun z => z.2.elim hb0 (fun z2 => absurd z2 (Nat.not_lt.mpr ((nI_leI (by omega) (by omega)).mp c108))))
                  refine g_iload X d_MO_wordOf_116 3 rfl ?_
                  refine g_istore (lv' := [(5, .int (fI (bw L PF DF k pe dd lt i))), (8, .int (bI (decide (PF (32 * k + i) = pe ∧ DF (32 * k + i) ≤ dd ∧ ¬ nI (DF (32 * k + i)) < nI dd - nI L ∧ lt ≤ DF (32 * k + i))))), (7, .int (nI (32 * k + i))), (6, .int (nI i)), (0, .ref (bd 0)), (1, .int (nI k)), (2, .int (nI pe)), (3, .int (nI dd)), (4, .int (fI lt))]) X d_MO_wordOf_118 (by decide) rfl ?_
                  refine g_iinc (lv' := [(6, .int (nI (i + 1))), (5, .int (fI (bw L PF DF k pe dd lt i))), (8, .int (bI (decide (PF (32 * k + i) = pe ∧ DF (32 * k + i) ≤ dd ∧ ¬ nI (DF (32 * k + i)) < nI dd - nI L ∧ lt ≤ DF (32 * k + i))))), (7, .int (nI (32 * k + i))), (0, .ref (bd 0)), (1, .int (nI k)), (2, .int (nI pe)), (3, .int (nI dd)), (4, .int (fI lt))]) X d_MO_wordOf_120 3 rfl (nI_1 i) (by decide) rfl ?_
                  refine g_goto X 6 d_MO_wordOf_123 (by decide) ?_
                  refine g_lv (lv' := [(6, .int (nI (i + 1))), (5, .int (fI (bw L PF DF k pe dd lt (i + 1)))), (0, .ref (bd 0)), (1, .int (nI k)), (2, .int (nI pe)), (3, .int (nI dd)), (4, .int (fI lt))]) [0, 1, 4, 5, 6, 7, 8] (by rw [e]; rfl) (ih (d - 1) (by omega) (i + 1) (by omega))
                · skip
                  have e : bw L PF DF k pe dd lt (i + 1) = 32 * k + i + 1 := if_pos ⟨of_decide_eq_true (bt_nf (fun z => c85 (bI_z.mpr z))), Or.inr (Nat.lt_of_not_le (fun z => c108 ((nI_leI (by omega) (by omega)).mpr z)))⟩
                  refine g_iload X d_MO_wordOf_111 1 rfl ?_
                  refine g_goto X 118 d_MO_wordOf_113 (by decide) ?_
                  refine g_istore (lv' := [(5, .int (nI (32 * k + i))), (8, .int (bI (decide (PF (32 * k + i) = pe ∧ DF (32 * k + i) ≤ dd ∧ ¬ nI (DF (32 * k + i)) < nI dd - nI L ∧ lt ≤ DF (32 * k + i))))), (7, .int (nI (32 * k + i))), (6, .int (nI i)), (0, .ref (bd 0)), (1, .int (nI k)), (2, .int (nI pe)), (3, .int (nI dd)), (4, .int (fI lt))]) X d_MO_wordOf_118 (by decide) rfl ?_
                  refine g_iinc (lv' := [(6, .int (nI (i + 1))), (5, .int (nI (32 * k + i))), (8, .int (bI (decide (PF (32 * k + i) = pe ∧ DF (32 * k + i) ≤ dd ∧ ¬ nI (DF (32 * k + i)) < nI dd - nI L ∧ lt ≤ DF (32 * k + i))))), (7, .int (nI (32 * k + i))), (0, .ref (bd 0)), (1, .int (nI k)), (2, .int (nI pe)), (3, .int (nI dd)), (4, .int (fI lt))]) X d_MO_wordOf_120 3 rfl (nI_1 i) (by decide) rfl ?_
                  refine g_goto X 6 d_MO_wordOf_123 (by decide) ?_
                  refine g_lv (lv' := [(6, .int (nI (i + 1))), (5, .int (fI (bw L PF DF k pe dd lt (i + 1)))), (0, .ref (bd 0)), (1, .int (nI k)), (2, .int (nI pe)), (3, .int (nI dd)), (4, .int (fI lt))]) [0, 1, 4, 5, 6, 7, 8] (by rw [e, fI_s]; rfl) (ih (d - 1) (by omega) (i + 1) (by omega))
          · skip
            refine g_aload_n X d_MO_wordOf_64 3 rfl ?_
            refine g_get (ci := 5) (C := R_MO) (T := F_MO) (N := 20) (v := .ref (bd 10)) X i_MO rfl hM 13 (by decide) q_610 (fun _ h9 => h9) rfl d_MO_wordOf_65 ?_
            refine g_iload X d_MO_wordOf_68 0 rfl ?_
            refine g_iald (t0 := 0) (v := nI (DF (32 * k + i))) X h10 rfl (nI_ix ((by omega : 32 * k + i < 768)) (by decide)) (nI_cl (g := fun q9 => nI (DF q9)) (Nat.lt_trans ((by omega : 32 * k + i < 768)) (by decide))) d_MO_wordOf_70 ?_
            refine g_iload X d_MO_wordOf_71 7 rfl ?_
            refine g_icmp_le X 80 d_MO_wordOf_73 (by decide) (fun c73 => ?_) (fun c73 => ?_)
            · skip
              refine g_iconst (v := 0) X d_MO_wordOf_80 (by decide) ?_
              have hIS : ¬ (PF (32 * k + i) = pe ∧ DF (32 * k + i) ≤ dd ∧ ¬ nI (DF (32 * k + i)) < nI dd - nI L ∧ lt ≤ DF (32 * k + i)) := fun z => by first | exact c34 (by rw [z.1]) | exact absurd z.2.1 (Nat.not_le.mpr ((nI_ltI (by omega) (by omega)).mp c45)) | exact z.2.2.1 c61 | exact absurd z.2.2.2 (by have h9 := (fI_le (by omega) (by omega)).mp c73; omega)
              refine g_eqi (y := bI (decide (PF (32 * k + i) = pe ∧ DF (32 * k + i) ≤ dd ∧ ¬ nI (DF (32 * k + i)) < nI dd - nI L ∧ lt ≤ DF (32 * k + i)))) (by rw [decide_eq_false hIS]; rfl) ?_
              refine g_istore (lv' := [(8, .int (bI (decide (PF (32 * k + i) = pe ∧ DF (32 * k + i) ≤ dd ∧ ¬ nI (DF (32 * k + i)) < nI dd - nI L ∧ lt ≤ DF (32 * k + i))))), (7, .int (nI (32 * k + i))), (6, .int (nI i)), (5, .int (fI (bw L PF DF k pe dd lt i))), (0, .ref (bd 0)), (1, .int (nI k)), (2, .int (nI pe)), (3, .int (nI dd)), (4, .int (fI lt))]) X d_MO_wordOf_81 (by decide) rfl ?_
              refine g_iload X d_MO_wordOf_83 0 rfl ?_
              refine g_if_eq X 116 d_MO_wordOf_85 (by decide) (fun c85 => ?_) (fun c85 => ?_)
              · skip
                have e : bw L PF DF k pe dd lt (i + 1) = bw L PF DF k pe dd lt i := if_neg (fun z => of_decide_eq_false (bI_z.mp c85) z.1)
                refine g_iload X d_MO_wordOf_116 3 rfl ?_
                refine g_istore (lv' := [(5, .int (fI (bw L PF DF k pe dd lt i))), (8, .int (bI (decide (PF (32 * k + i) = pe ∧ DF (32 * k + i) ≤ dd ∧ ¬ nI (DF (32 * k + i)) < nI dd - nI L ∧ lt ≤ DF (32 * k + i))))), (7, .int (nI (32 * k + i))), (6, .int (nI i)), (0, .ref (bd 0)), (1, .int (nI k)), (2, .int (nI pe)), (3, .int (nI dd)), (4, .int (fI lt))]) X d_MO_wordOf_118 (by decide) rfl ?_
                refine g_iinc (lv' := [(6, .int (nI (i + 1))), (5, .int (fI (bw L PF DF k pe dd lt i))), (8, .int (bI (decide (PF (32 * k + i) = pe ∧ DF (32 * k + i) ≤ dd ∧ ¬ nI (DF (32 * k + i)) < nI dd - nI L ∧ lt ≤ DF (32 * k + i))))), (7, .int (nI (32 * k + i))), (0, .ref (bd 0)), (1, .int (nI k)), (2, .int (nI pe)), (3, .int (nI dd)), (4, .int (fI lt))]) X d_MO_wordOf_120 3 rfl (nI_1 i) (by decide) rfl ?_
                refine g_goto X 6 d_MO_wordOf_123 (by decide) ?_
                refine g_lv (lv' := [(6, .int (nI (i + 1))), (5, .int (fI (bw L PF DF k pe dd lt (i + 1)))), (0, .ref (bd 0)), (1, .int (nI k)), (2, .int (nI pe)), (3, .int (nI dd)), (4, .int (fI lt))]) [0, 1, 4, 5, 6, 7, 8] (by rw [e]; rfl) (ih (d - 1) (by omega) (i + 1) (by omega))
              · skip
                refine g_iload X d_MO_wordOf_88 3 rfl ?_
                refine g_iconst (v := (-1)) X d_MO_wordOf_90 (by decide) ?_
                refine g_icmp_eq X 111 d_MO_wordOf_91 (by decide) (fun c91 => ?_) (fun c91 => ?_)
                · skip
                  have e : bw L PF DF k pe dd lt (i + 1) = 32 * k + i + 1 := if_pos ⟨of_decide_eq_true (bt_nf (fun z => c85 (bI_z.mpr z))), Or.inl ((fI_n (by omega)).mp c91)⟩
                  refine g_iload X d_MO_wordOf_111 1 rfl ?_
                  refine g_goto X 118 d_MO_wordOf_113 (by decide) ?_
                  refine g_istore (lv' := [(5, .int (nI (32 * k + i))), (8, .int (bI (decide (PF (32 * k + i) = pe ∧ DF (32 * k + i) ≤ dd ∧ ¬ nI (DF (32 * k + i)) < nI dd - nI L ∧ lt ≤ DF (32 * k + i))))), (7, .int (nI (32 * k + i))), (6, .int (nI i)), (0, .ref (bd 0)), (1, .int (nI k)), (2, .int (nI pe)), (3, .int (nI dd)), (4, .int (fI lt))]) X d_MO_wordOf_118 (by decide) rfl ?_
                  refine g_iinc (lv' := [(6, .int (nI (i + 1))), (5, .int (nI (32 * k + i))), (8, .int (bI (decide (PF (32 * k + i) = pe ∧ DF (32 * k + i) ≤ dd ∧ ¬ nI (DF (32 * k + i)) < nI dd - nI L ∧ lt ≤ DF (32 * k + i))))), (7, .int (nI (32 * k + i))), (0, .ref (bd 0)), (1, .int (nI k)), (2, .int (nI pe)), (3, .int (nI dd)), (4, .int (fI lt))]) X d_MO_wordOf_120 3 rfl (nI_1 i) (by decide) rfl ?_
                  refine g_goto X 6 d_MO_wordOf_123 (by decide) ?_
                  refine g_lv (lv' := [(6, .int (nI (i + 1))), (5, .int (fI (bw L PF DF k pe dd lt (i + 1)))), (0, .ref (bd 0)), (1, .int (nI k)), (2, .int (nI pe)), (3, .int (nI dd)), (4, .int (fI lt))]) [0, 1, 4, 5, 6, 7, 8] (by rw [e, fI_s]; rfl) (ih (d - 1) (by omega) (i + 1) (by omega))
                · skip
                  have hb0 : bw L PF DF k pe dd lt i ≠ 0 := fun z => c91 ((fI_n (by omega)).mpr z)
                  have hdf2 := hDF (bw L PF DF k pe dd lt i - 1)
                  refine g_aload_n X d_MO_wordOf_94 4 rfl ?_
                  refine g_get (ci := 5) (C := R_MO) (T := F_MO) (N := 20) (v := .ref (bd 10)) X i_MO rfl hM 13 (by decide) q_610 (fun _ h9 => h9) rfl d_MO_wordOf_95 ?_
                  refine g_iload X d_MO_wordOf_98 1 rfl ?_
                  refine g_iald (t0 := 0) (v := nI (DF (32 * k + i))) X h10 rfl (nI_ix ((by omega : 32 * k + i < 768)) (by decide)) (nI_cl (g := fun q9 => nI (DF q9)) (Nat.lt_trans ((by omega : 32 * k + i < 768)) (by decide))) d_MO_wordOf_100 ?_
                  refine g_aload_n X d_MO_wordOf_101 4 rfl ?_
                  refine g_get (ci := 5) (C := R_MO) (T := F_MO) (N := 20) (v := .ref (bd 10)) X i_MO rfl hM 13 (by decide) q_610 (fun _ h9 => h9) rfl d_MO_wordOf_102 ?_
                  refine g_iload X d_MO_wordOf_105 3 rfl ?_
                  refine g_iald (t0 := 0) (v := nI (DF (bw L PF DF k pe dd lt i - 1))) X h10 rfl (by rw [show fI (bw L PF DF k pe dd lt i) = nI (bw L PF DF k pe dd lt i - 1) from nI_m1 (by omega)]; exact nI_ix (by omega : bw L PF DF k pe dd lt i - 1 < 768) (by decide)) (by rw [show fI (bw L PF DF k pe dd lt i) = nI (bw L PF DF k pe dd lt i - 1) from nI_m1 (by omega)]; exact nI_cl (g := fun q9 => nI (DF q9)) (by omega)) d_MO_wordOf_107 ?_
                  refine g_icmp_le X 116 d_MO_wordOf_108 (by decide) (fun c108 => ?_) (fun c108 => ?_)
                  · skip
                    have e : bw L PF DF k pe dd lt (i + 1) = bw L PF DF k pe dd lt i := if_neg (fun z => z.2.elim hb0 (fun z2 => absurd z2 (Nat.not_lt.mpr ((nI_leI (by omega) (by omega)).mp c108))))
                    refine g_iload X d_MO_wordOf_116 3 rfl ?_
                    refine g_istore (lv' := [(5, .int (fI (bw L PF DF k pe dd lt i))), (8, .int (bI (decide (PF (32 * k + i) = pe ∧ DF (32 * k + i) ≤ dd ∧ ¬ nI (DF (32 * k + i)) < nI dd - nI L ∧ lt ≤ DF (32 * k + i))))), (7, .int (nI (32 * k + i))), (6, .int (nI i)), (0, .ref (bd 0)), (1, .int (nI k)), (2, .int (nI pe)), (3, .int (nI dd)), (4, .int (fI lt))]) X d_MO_wordOf_118 (by decide) rfl ?_
                    refine g_iinc (lv' := [(6, .int (nI (i + 1))), (5, .int (fI (bw L PF DF k pe dd lt i))), (8, .int (bI (decide (PF (32 * k + i) = pe ∧ DF (32 * k + i) ≤ dd ∧ ¬ nI (DF (32 * k + i)) < nI dd - nI L ∧ lt ≤ DF (32 * k + i))))), (7, .int (nI (32 * k + i))), (0, .ref (bd 0)), (1, .int (nI k)), (2, .int (nI pe)), (3, .int (nI dd)), (4, .int (fI lt))]) X d_MO_wordOf_120 3 rfl (nI_1 i) (by decide) rfl ?_
                    refine g_goto X 6 d_MO_wordOf_123 (by decide) ?_
                    refine g_lv (lv' := [(6, .int (nI (i + 1))), (5, .int (fI (bw L PF DF k pe dd lt (i + 1)))), (0, .ref (bd 0)), (1, .int (nI k)), (2, .int (nI pe)), (3, .int (nI dd)), (4, .int (fI lt))]) [0, 1, 4, 5, 6, 7, 8] (by rw [e]; rfl) (ih (d - 1) (by omega) (i + 1) (by omega))
                  · skip
                    have e : bw L PF DF k pe dd lt (i + 1) = 32 * k + i + 1 := if_pos ⟨of_decide_eq_true (bt_nf (fun z => c85 (bI_z.mpr z))), Or.inr (Nat.lt_of_not_le (fun z => c108 ((nI_leI (by omega) (by omega)).mpr z)))⟩
                    refine g_iload X d_MO_wordOf_111 1 rfl ?_
                    refine g_goto X 118 d_MO_wordOf_113 (by decide) ?_
                    refine g_istore (lv' := [(5, .int (nI (32 * k + i))), (8, .int (bI (decide (PF (32 * k + i) = pe ∧ DF (32 * k + i) ≤ dd ∧ ¬ nI (DF (32 * k + i)) < nI dd - nI L ∧ lt ≤ DF (32 * k + i))))), (7, .int (nI (32 * k + i))), (6, .int (nI i)), (0, .ref (bd 0)), (1, .int (nI k)), (2, .int (nI pe)), (3, .int (nI dd)), (4, .int (fI lt))]) X d_MO_wordOf_118 (by decide) rfl ?_
                    refine g_iinc (lv' := [(6, .int (nI (i + 1))), (5, .int (nI (32 * k + i))), (8, .int (bI (decide (PF (32 * k + i) = pe ∧ DF (32 * k + i) ≤ dd ∧ ¬ nI (DF (32 * k + i)) < nI dd - nI L ∧ lt ≤ DF (32 * k + i))))), (7, .int (nI (32 * k + i))), (0, .ref (bd 0)), (1, .int (nI k)), (2, .int (nI pe)), (3, .int (nI dd)), (4, .int (fI lt))]) X d_MO_wordOf_120 3 rfl (nI_1 i) (by decide) rfl ?_
                    refine g_goto X 6 d_MO_wordOf_123 (by decide) ?_
                    refine g_lv (lv' := [(6, .int (nI (i + 1))), (5, .int (fI (bw L PF DF k pe dd lt (i + 1)))), (0, .ref (bd 0)), (1, .int (nI k)), (2, .int (nI pe)), (3, .int (nI dd)), (4, .int (fI lt))]) [0, 1, 4, 5, 6, 7, 8] (by rw [e, fI_s]; rfl) (ih (d - 1) (by omega) (i + 1) (by omega))
            · skip
              refine g_iconst (v := 1) X d_MO_wordOf_76 (by decide) ?_
              refine g_goto X 81 d_MO_wordOf_77 (by decide) ?_
              have hIS : (PF (32 * k + i) = pe ∧ DF (32 * k + i) ≤ dd ∧ ¬ nI (DF (32 * k + i)) < nI dd - nI L ∧ lt ≤ DF (32 * k + i)) := ⟨(nI_eq (by omega) (by omega)).mp c34, Nat.le_of_not_lt (fun z => c45 ((nI_ltI (by omega) (by omega)).mpr z)), c61, Nat.le_of_not_lt (fun z => c73 ((fI_le (by omega) (by omega)).mpr z))⟩
              refine g_eqi (y := bI (decide (PF (32 * k + i) = pe ∧ DF (32 * k + i) ≤ dd ∧ ¬ nI (DF (32 * k + i)) < nI dd - nI L ∧ lt ≤ DF (32 * k + i)))) (by rw [decide_eq_true hIS]; rfl) ?_
              refine g_istore (lv' := [(8, .int (bI (decide (PF (32 * k + i) = pe ∧ DF (32 * k + i) ≤ dd ∧ ¬ nI (DF (32 * k + i)) < nI dd - nI L ∧ lt ≤ DF (32 * k + i))))), (7, .int (nI (32 * k + i))), (6, .int (nI i)), (5, .int (fI (bw L PF DF k pe dd lt i))), (0, .ref (bd 0)), (1, .int (nI k)), (2, .int (nI pe)), (3, .int (nI dd)), (4, .int (fI lt))]) X d_MO_wordOf_81 (by decide) rfl ?_
              refine g_iload X d_MO_wordOf_83 0 rfl ?_
              refine g_if_eq X 116 d_MO_wordOf_85 (by decide) (fun c85 => ?_) (fun c85 => ?_)
              · skip
                have e : bw L PF DF k pe dd lt (i + 1) = bw L PF DF k pe dd lt i := if_neg (fun z => of_decide_eq_false (bI_z.mp c85) z.1)
                refine g_iload X d_MO_wordOf_116 3 rfl ?_
                refine g_istore (lv' := [(5, .int (fI (bw L PF DF k pe dd lt i))), (8, .int (bI (decide (PF (32 * k + i) = pe ∧ DF (32 * k + i) ≤ dd ∧ ¬ nI (DF (32 * k + i)) < nI dd - nI L ∧ lt ≤ DF (32 * k + i))))), (7, .int (nI (32 * k + i))), (6, .int (nI i)), (0, .ref (bd 0)), (1, .int (nI k)), (2, .int (nI pe)), (3, .int (nI dd)), (4, .int (fI lt))]) X d_MO_wordOf_118 (by decide) rfl ?_
                refine g_iinc (lv' := [(6, .int (nI (i + 1))), (5, .int (fI (bw L PF DF k pe dd lt i))), (8, .int (bI (decide (PF (32 * k + i) = pe ∧ DF (32 * k + i) ≤ dd ∧ ¬ nI (DF (32 * k + i)) < nI dd - nI L ∧ lt ≤ DF (32 * k + i))))), (7, .int (nI (32 * k + i))), (0, .ref (bd 0)), (1, .int (nI k)), (2, .int (nI pe)), (3, .int (nI dd)), (4, .int (fI lt))]) X d_MO_wordOf_120 3 rfl (nI_1 i) (by decide) rfl ?_
                refine g_goto X 6 d_MO_wordOf_123 (by decide) ?_
                refine g_lv (lv' := [(6, .int (nI (i + 1))), (5, .int (fI (bw L PF DF k pe dd lt (i + 1)))), (0, .ref (bd 0)), (1, .int (nI k)), (2, .int (nI pe)), (3, .int (nI dd)), (4, .int (fI lt))]) [0, 1, 4, 5, 6, 7, 8] (by rw [e]; rfl) (ih (d - 1) (by omega) (i + 1) (by omega))
              · skip
                refine g_iload X d_MO_wordOf_88 3 rfl ?_
                refine g_iconst (v := (-1)) X d_MO_wordOf_90 (by decide) ?_
                refine g_icmp_eq X 111 d_MO_wordOf_91 (by decide) (fun c91 => ?_) (fun c91 => ?_)
                · skip
                  have e : bw L PF DF k pe dd lt (i + 1) = 32 * k + i + 1 := if_pos ⟨of_decide_eq_true (bt_nf (fun z => c85 (bI_z.mpr z))), Or.inl ((fI_n (by omega)).mp c91)⟩
                  refine g_iload X d_MO_wordOf_111 1 rfl ?_
                  refine g_goto X 118 d_MO_wordOf_113 (by decide) ?_
                  refine g_istore (lv' := [(5, .int (nI (32 * k + i))), (8, .int (bI (decide (PF (32 * k + i) = pe ∧ DF (32 * k + i) ≤ dd ∧ ¬ nI (DF (32 * k + i)) < nI dd - nI L ∧ lt ≤ DF (32 * k + i))))), (7, .int (nI (32 * k + i))), (6, .int (nI i)), (0, .ref (bd 0)), (1, .int (nI k)), (2, .int (nI pe)), (3, .int (nI dd)), (4, .int (fI lt))]) X d_MO_wordOf_118 (by decide) rfl ?_
                  refine g_iinc (lv' := [(6, .int (nI (i + 1))), (5, .int (nI (32 * k + i))), (8, .int (bI (decide (PF (32 * k + i) = pe ∧ DF (32 * k + i) ≤ dd ∧ ¬ nI (DF (32 * k + i)) < nI dd - nI L ∧ lt ≤ DF (32 * k + i))))), (7, .int (nI (32 * k + i))), (0, .ref (bd 0)), (1, .int (nI k)), (2, .int (nI pe)), (3, .int (nI dd)), (4, .int (fI lt))]) X d_MO_wordOf_120 3 rfl (nI_1 i) (by decide) rfl ?_
                  refine g_goto X 6 d_MO_wordOf_123 (by decide) ?_
                  refine g_lv (lv' := [(6, .int (nI (i + 1))), (5, .int (fI (bw L PF DF k pe dd lt (i + 1)))), (0, .ref (bd 0)), (1, .int (nI k)), (2, .int (nI pe)), (3, .int (nI dd)), (4, .int (fI lt))]) [0, 1, 4, 5, 6, 7, 8] (by rw [e, fI_s]; rfl) (ih (d - 1) (by omega) (i + 1) (by omega))
                · skip
                  have hb0 : bw L PF DF k pe dd lt i ≠ 0 := fun z => c91 ((fI_n (by omega)).mpr z)
                  have hdf2 := hDF (bw L PF DF k pe dd lt i - 1)
                  refine g_aload_n X d_MO_wordOf_94 4 rfl ?_
                  refine g_get (ci := 5) (C := R_MO) (T := F_MO) (N := 20) (v := .ref (bd 10)) X i_MO rfl hM 13 (by decide) q_610 (fun _ h9 => h9) rfl d_MO_wordOf_95 ?_
                  refine g_iload X d_MO_wordOf_98 1 rfl ?_
                  refine g_iald (t0 := 0) (v := nI (DF (32 * k + i))) X h10 rfl (nI_ix ((by omega : 32 * k + i < 768)) (by decide)) (nI_cl (g := fun q9 => nI (DF q9)) (Nat.lt_trans ((by omega : 32 * k + i < 768)) (by decide))) d_MO_wordOf_100 ?_
                  refine g_aload_n X d_MO_wordOf_101 4 rfl ?_
                  refine g_get (ci := 5) (C := R_MO) (T := F_MO) (N := 20) (v := .ref (bd 10)) X i_MO rfl hM 13 (by decide) q_610 (fun _ h9 => h9) rfl d_MO_wordOf_102 ?_
                  refine g_iload X d_MO_wordOf_105 3 rfl ?_
                  refine g_iald (t0 := 0) (v := nI (DF (bw L PF DF k pe dd lt i - 1))) X h10 rfl (by rw [show fI (bw L PF DF k pe dd lt i) = nI (bw L PF DF k pe dd lt i - 1) from nI_m1 (by omega)]; exact nI_ix (by omega : bw L PF DF k pe dd lt i - 1 < 768) (by decide)) (by rw [show fI (bw L PF DF k pe dd lt i) = nI (bw L PF DF k pe dd lt i - 1) from nI_m1 (by omega)]; exact nI_cl (g := fun q9 => nI (DF q9)) (by omega)) d_MO_wordOf_107 ?_
                  refine g_icmp_le X 116 d_MO_wordOf_108 (by decide) (fun c108 => ?_) (fun c108 => ?_)
                  · skip
                    have e : bw L PF DF k pe dd lt (i + 1) = bw L PF DF k pe dd lt i := if_neg (fun z => z.2.elim hb0 (fun z2 => absurd z2 (Nat.not_lt.mpr ((nI_leI (by omega) (by omega)).mp c108))))
                    refine g_iload X d_MO_wordOf_116 3 rfl ?_
                    refine g_istore (lv' := [(5, .int (fI (bw L PF DF k pe dd lt i))), (8, .int (bI (decide (PF (32 * k + i) = pe ∧ DF (32 * k + i) ≤ dd ∧ ¬ nI (DF (32 * k + i)) < nI dd - nI L ∧ lt ≤ DF (32 * k + i))))), (7, .int (nI (32 * k + i))), (6, .int (nI i)), (0, .ref (bd 0)), (1, .int (nI k)), (2, .int (nI pe)), (3, .int (nI dd)), (4, .int (fI lt))]) X d_MO_wordOf_118 (by decide) rfl ?_
                    refine g_iinc (lv' := [(6, .int (nI (i + 1))), (5, .int (fI (bw L PF DF k pe dd lt i))), (8, .int (bI (decide (PF (32 * k + i) = pe ∧ DF (32 * k + i) ≤ dd ∧ ¬ nI (DF (32 * k + i)) < nI dd - nI L ∧ lt ≤ DF (32 * k + i))))), (7, .int (nI (32 * k + i))), (0, .ref (bd 0)), (1, .int (nI k)), (2, .int (nI pe)), (3, .int (nI dd)), (4, .int (fI lt))]) X d_MO_wordOf_120 3 rfl (nI_1 i) (by decide) rfl ?_
                    refine g_goto X 6 d_MO_wordOf_123 (by decide) ?_
                    refine g_lv (lv' := [(6, .int (nI (i + 1))), (5, .int (fI (bw L PF DF k pe dd lt (i + 1)))), (0, .ref (bd 0)), (1, .int (nI k)), (2, .int (nI pe)), (3, .int (nI dd)), (4, .int (fI lt))]) [0, 1, 4, 5, 6, 7, 8] (by rw [e]; rfl) (ih (d - 1) (by omega) (i + 1) (by omega))
                  · skip
                    have e : bw L PF DF k pe dd lt (i + 1) = 32 * k + i + 1 := if_pos ⟨of_decide_eq_true (bt_nf (fun z => c85 (bI_z.mpr z))), Or.inr (Nat.lt_of_not_le (fun z => c108 ((nI_leI (by omega) (by omega)).mpr z)))⟩
                    refine g_iload X d_MO_wordOf_111 1 rfl ?_
                    refine g_goto X 118 d_MO_wordOf_113 (by decide) ?_
                    refine g_istore (lv' := [(5, .int (nI (32 * k + i))), (8, .int (bI (decide (PF (32 * k + i) = pe ∧ DF (32 * k + i) ≤ dd ∧ ¬ nI (DF (32 * k + i)) < nI dd - nI L ∧ lt ≤ DF (32 * k + i))))), (7, .int (nI (32 * k + i))), (6, .int (nI i)), (0, .ref (bd 0)), (1, .int (nI k)), (2, .int (nI pe)), (3, .int (nI dd)), (4, .int (fI lt))]) X d_MO_wordOf_118 (by decide) rfl ?_
                    refine g_iinc (lv' := [(6, .int (nI (i + 1))), (5, .int (nI (32 * k + i))), (8, .int (bI (decide (PF (32 * k + i) = pe ∧ DF (32 * k + i) ≤ dd ∧ ¬ nI (DF (32 * k + i)) < nI dd - nI L ∧ lt ≤ DF (32 * k + i))))), (7, .int (nI (32 * k + i))), (0, .ref (bd 0)), (1, .int (nI k)), (2, .int (nI pe)), (3, .int (nI dd)), (4, .int (fI lt))]) X d_MO_wordOf_120 3 rfl (nI_1 i) (by decide) rfl ?_
                    refine g_goto X 6 d_MO_wordOf_123 (by decide) ?_
                    refine g_lv (lv' := [(6, .int (nI (i + 1))), (5, .int (fI (bw L PF DF k pe dd lt (i + 1)))), (0, .ref (bd 0)), (1, .int (nI k)), (2, .int (nI pe)), (3, .int (nI dd)), (4, .int (fI lt))]) [0, 1, 4, 5, 6, 7, 8] (by rw [e, fI_s]; rfl) (ih (d - 1) (by omega) (i + 1) (by omega))
set_option maxHeartbeats 4000000 in
set_option maxRecDepth 100000 in
theorem c_MO_wordOf {l : Launch} {D : va_G} {cI cZ cO cJ : ClassId} {eA eM : Nat} {f : g_F} {bd : Nat → Nat} {th : Int32} {L nc : Nat} {pt ot : Nat → Int32} {n : Nat} {P Du S Wy tw ct PF DF : Nat → Nat} {GF : Nat → Bool} {pz pm : Nat} {O Le : Nat → Nat} {Sl : Nat → Bool} (hR : mo_R cI cZ f bd th L nc pt ot n P Du S Wy tw ct PF DF GF pz pm O Le Sl) (hB : mo_B L nc n P Du S Wy tw ct PF DF pz pm O Le) {k pe dd lt : Nat} (hk : k < 24) (hpe : pe < 10) (hdd : dd < 2 ^ 30) (hlt : lt < 2 ^ 30) : g_C l y_MO_wordOf b_MO_wordOf 9 (some .int) { frames := 0, cells := 0, slots := 0, locals := 0 } D g_cl (g_tys cI cZ cO cJ) (z_Z eA eM) [.ref (bd 0), .int (nI k), .int (nI pe), .int (nI dd), .int (fI lt)] f (fun r f2 => r = some (.int (bwv GF (bw L PF DF k pe dd lt (ct k)))) ∧ f2 = f) (fun _ => False) := by
  refine g_ofW [(0, .ref (bd 0)), (1, .int (nI k)), (2, .int (nI pe)), (3, .int (nI dd)), (4, .int (fI lt))] (by decide +kernel) (Nat.le_of_ble_eq_true rfl) rfl ?_
  intro p e s m args below meth c X ht hin
  obtain ⟨hM, h1, h2, h3, h4, h5, h6, h7, h8, h9, h10, h11, h12, h13, h14⟩ := id hR
  obtain ⟨⟨hL1, hL5⟩, hnc, hUB, htw, hct, hPF, hDF, ⟨hpz, hpm, hO8⟩, hLe⟩ := id hB
  obtain ⟨hn8, hP, hDu, hS, hWy⟩ := id hUB
  refine g_iconst (v := (-1)) X d_MO_wordOf_0 (by decide) ?_
  refine g_istore (lv' := [(5, .int (-1)), (0, .ref (bd 0)), (1, .int (nI k)), (2, .int (nI pe)), (3, .int (nI dd)), (4, .int (fI lt))]) X d_MO_wordOf_1 (by decide) rfl ?_
  refine g_iconst (v := 0) X d_MO_wordOf_3 (by decide) ?_
  refine g_istore (lv' := [(6, .int 0), (5, .int (-1)), (0, .ref (bd 0)), (1, .int (nI k)), (2, .int (nI pe)), (3, .int (nI dd)), (4, .int (fI lt))]) X d_MO_wordOf_4 (by decide) rfl ?_
  refine g_lv [0, 1, 2, 3, 4, 5, 6] rfl (L_MO_wordOf hR hB hk hpe hdd hlt X ?_ (ct k) 0 (by omega))
  have hbw := bw_le L PF DF k pe dd lt (ct k)
  have hctk := hct k
  refine g_iload X d_MO_wordOf_126 1 rfl ?_
  refine g_iconst (v := (-1)) X d_MO_wordOf_128 (by decide) ?_
  refine g_icmp_ne X 136 d_MO_wordOf_129 (by decide) (fun c129 => ?_) (fun c129 => ?_)
  · skip
    have hb0 : bw L PF DF k pe dd lt (ct k) ≠ 0 := fun z => c129 ((fI_n (by omega)).mpr z)
    refine g_aload_n X d_MO_wordOf_136 2 rfl ?_
    refine g_get (ci := 5) (C := R_MO) (T := F_MO) (N := 20) (v := .ref (bd 11)) X i_MO rfl hM 14 (by decide) q_611 (fun _ h9 => h9) rfl d_MO_wordOf_137 ?_
    refine g_iload X d_MO_wordOf_140 1 rfl ?_
    refine g_zald (t0 := 1) (v := bI (GF (bw L PF DF k pe dd lt (ct k) - 1))) X h11 rfl (by rw [show fI (bw L PF DF k pe dd lt (ct k)) = nI (bw L PF DF k pe dd lt (ct k) - 1) from nI_m1 (by omega)]; exact nI_ix (by omega : bw L PF DF k pe dd lt (ct k) - 1 < 768) (by decide)) (by rw [show fI (bw L PF DF k pe dd lt (ct k)) = nI (bw L PF DF k pe dd lt (ct k) - 1) from nI_m1 (by omega)]; exact nI_cl (g := fun q9 => bI (GF q9)) (by omega)) d_MO_wordOf_142 ?_
    refine g_if_eq X 150 d_MO_wordOf_143 (by decide) (fun c143 => ?_) (fun c143 => ?_)
    · skip
      refine g_iconst (v := 0) X d_MO_wordOf_150 (by decide) ?_
      exact g_iret X rfl (⟨by rw [show bwv GF (bw L PF DF k pe dd lt (ct k)) = 0 from (if_neg hb0).trans (by rw [bI_z.mp c143]; rfl)], rfl⟩) (Nat.le_of_ble_eq_true rfl) (Nat.le_of_ble_eq_true rfl) d_MO_wordOf_151
    · skip
      refine g_iconst (v := 1) X d_MO_wordOf_146 (by decide) ?_
      refine g_goto X 151 d_MO_wordOf_147 (by decide) ?_
      exact g_iret X rfl (⟨by rw [show bwv GF (bw L PF DF k pe dd lt (ct k)) = 1 from (if_neg hb0).trans (by rw [bt_nf (fun z => c143 (bI_z.mpr z))]; rfl)], rfl⟩) (Nat.le_of_ble_eq_true rfl) (Nat.le_of_ble_eq_true rfl) d_MO_wordOf_151
  · skip
    refine g_iconst (v := (-1)) X d_MO_wordOf_132 (by decide) ?_
    refine g_goto X 151 d_MO_wordOf_133 (by decide) ?_
    exact g_iret X rfl (⟨by rw [show bwv GF (bw L PF DF k pe dd lt (ct k)) = -1 from if_pos ((fI_n (by omega)).mp c129)], rfl⟩) (Nat.le_of_ble_eq_true rfl) (Nat.le_of_ble_eq_true rfl) d_MO_wordOf_151
