/-! how many bits a number below 2 ^ 24 has, byte by byte -/
def bc1 (a : Nat) : Nat := a - (a / 2 &&& 1431655765)
def bc2 (a : Nat) : Nat := (bc1 a &&& 858993459) + (bc1 a / 4 &&& 858993459)
def bc3 (a : Nat) : Nat := (bc2 a + bc2 a / 16) &&& 252645135
def bc4 (a : Nat) : Nat := bc3 a + bc3 a / 256
def bc5 (a : Nat) : Nat := bc4 a + bc4 a / 65536
theorem tb256 {a b j : Nat} (hb : b < 256) : (256 * a + b).testBit j = if j < 8 then b.testBit j else a.testBit (j - 8) := Nat.testBit_two_pow_mul_add (i := 8) a hb j
theorem and256 {a b c d : Nat} (hb : b < 256) (hd : d < 256) : (256 * a + b) &&& (256 * c + d) = 256 * (a &&& c) + (b &&& d) := by
  have hbd : b &&& d < 256 := Nat.lt_of_le_of_lt Nat.and_le_left hb
  apply Nat.eq_of_testBit_eq
  intro j
  rw [Nat.testBit_and, tb256 hb, tb256 hd, tb256 hbd]
  split
  · rw [Nat.testBit_and]
  · rw [Nat.testBit_and]
def t1 (b : Nat) : Nat := b - (b / 2 &&& 85)
def t2 (b : Nat) : Nat := (t1 b &&& 51) + (t1 b / 4 &&& 51)
def t3 (b : Nat) : Nat := (t2 b + t2 b / 16) &&& 15
theorem and_half : ∀ b, b < 256 → ∀ r, r < 2 → (128 * r + b / 2) &&& 85 = b / 2 &&& 85 := by decide +kernel
theorem and_four : ∀ b, b < 256 → ∀ r, r < 4 → (64 * r + b / 4) &&& 51 = b / 4 &&& 51 := by decide +kernel
theorem t_bd : ∀ b, b < 256 → t1 b < 256 ∧ t2 b < 256 ∧ t2 b / 16 ≤ 4 ∧ t2 b % 16 ≤ 4 ∧ t3 b = szo b 8 ∧ (b / 2 &&& 85) ≤ b := by decide +kernel
theorem s1_step {a b c : Nat} (hb : b < 256) (hc : (a / 2 &&& c) ≤ a) : (256 * a + b) - ((256 * a + b) / 2 &&& (256 * c + 85)) = 256 * (a - (a / 2 &&& c)) + t1 b := by
  have h1 : (256 * a + b) / 2 = 256 * (a / 2) + (128 * (a % 2) + b / 2) := by omega
  rw [h1, and256 (by omega) (by decide), and_half b hb (a % 2) (by omega)]
  have := (t_bd b hb).2.2.2.2.2
  unfold t1
  omega
theorem s2_step {a b c : Nat} (hb : b < 256) : ((256 * a + b) &&& (256 * c + 51)) + ((256 * a + b) / 4 &&& (256 * c + 51)) = 256 * ((a &&& c) + (a / 4 &&& c)) + ((b &&& 51) + (b / 4 &&& 51)) := by
  have h1 : (256 * a + b) / 4 = 256 * (a / 4) + (64 * (a % 4) + b / 4) := by omega
  rw [h1, and256 hb (by decide), and256 (by omega) (by decide), and_four b hb (a % 4) (by omega)]
  omega
theorem and15 (x : Nat) : x &&& 15 = x % 16 := Nat.and_two_pow_sub_one_eq_mod x 4
theorem s3_step {a b c : Nat} (hb : b / 16 ≤ 4 ∧ b % 16 ≤ 4) (ha : a % 16 ≤ 4) : ((256 * a + b) + (256 * a + b) / 16) &&& (256 * c + 15) = 256 * ((a + a / 16) &&& c) + ((b + b / 16) &&& 15) := by
  have h1 : (256 * a + b) + (256 * a + b) / 16 = 256 * (a + a / 16) + (16 * (a % 16) + b + b / 16) := by omega
  rw [h1, and256 (by omega) (by decide), and15, and15]
  omega
theorem szo_split {x : Nat} : ∀ i, szo x (i + 8) = szo (x % 256) 8 + szo (x / 256) i
  | 0 => by
    show szo x 8 = szo (x % 256) 8 + 0
    have h : ∀ j, j ≤ 8 → szo x j = szo (x % 256) j := by
      intro j
      induction j with
      | zero => intro _; rfl
      | succ j ih =>
        intro hj
        unfold szo
        rw [ih (by omega), show (x % 256).testBit j = x.testBit j from by rw [show (256 : Nat) = 2 ^ 8 from rfl, Nat.testBit_mod_two_pow, decide_eq_true (by omega : j < 8), Bool.true_and]]
    rw [h 8 (Nat.le_refl _), Nat.add_zero]
  | i + 1 => by
    have ih := szo_split (x := x) i
    have hb : x.testBit (i + 8) = (x / 256).testBit i := by rw [show (256 : Nat) = 2 ^ 8 from rfl, Nat.testBit_div_two_pow]
    show (if x.testBit (i + 8) then szo x (i + 8) + 1 else szo x (i + 8)) = _
    rw [ih, hb, show szo (x / 256) (i + 1) = if (x / 256).testBit i then szo (x / 256) i + 1 else szo (x / 256) i from rfl]
    split
    · omega
    · rfl
theorem bc_ok {a : Nat} (ha : a < 2 ^ 24) : bc5 a &&& 63 = szo a 24 := by
  obtain ⟨x, y, z, hx, hy, hz, rfl⟩ : ∃ x y z, x < 256 ∧ y < 256 ∧ z < 256 ∧ a = 256 * (256 * z + y) + x := ⟨a % 256, a / 256 % 256, a / 65536, by omega, by omega, by omega, by omega⟩
  have bx := t_bd x hx
  have by_ := t_bd y hy
  have bz := t_bd z hz
  have e0 : z - (z / 2 &&& 21845) = t1 z := by
    have h := s1_step (a := 0) (b := z) (c := 85) hz (by decide)
    rw [show 256 * 0 + z = z by omega, show 256 * 85 + 85 = 21845 by decide] at h
    rw [h]
    show 256 * (0 - (0 / 2 &&& 85)) + t1 z = t1 z
    rw [show (0 - (0 / 2 &&& 85)) = 0 by decide]; omega
  have hle : ∀ q m : Nat, (q / 2 &&& m) ≤ q := fun q m => Nat.le_trans Nat.and_le_left (Nat.div_le_self _ _)
  have e1 : bc1 (256 * (256 * z + y) + x) = 256 * (256 * t1 z + t1 y) + t1 x := by
    unfold bc1
    rw [show 1431655765 = 256 * (256 * 21845 + 85) + 85 by decide, s1_step hx (hle _ _), s1_step hy (hle _ _), e0]
  have f0 : (t1 z &&& 13107) + (t1 z / 4 &&& 13107) = t2 z := by
    have h := s2_step (a := 0) (b := t1 z) (c := 51) bz.1
    rw [show 256 * 0 + t1 z = t1 z by omega, show 256 * 51 + 51 = 13107 by decide] at h
    rw [h]
    show 256 * ((0 &&& 51) + (0 / 4 &&& 51)) + t2 z = t2 z
    rw [show ((0 &&& 51) + (0 / 4 &&& 51)) = 0 by decide]; omega
  have e2 : bc2 (256 * (256 * z + y) + x) = 256 * (256 * t2 z + t2 y) + t2 x := by
    unfold bc2
    rw [e1, show 858993459 = 256 * (256 * 13107 + 51) + 51 by decide, s2_step bx.1, s2_step by_.1, f0]
    rfl
  have g0 : (t2 z + t2 z / 16) &&& 3855 = t3 z := by
    have h := s3_step (a := 0) (b := t2 z) (c := 15) ⟨bz.2.2.1, bz.2.2.2.1⟩ (by decide)
    rw [show 256 * 0 + t2 z = t2 z by omega, show 256 * 15 + 15 = 3855 by decide] at h
    rw [h]
    show 256 * ((0 + 0 / 16) &&& 15) + t3 z = t3 z
    rw [show ((0 + 0 / 16) &&& 15) = 0 by decide]; omega
  have e3 : bc3 (256 * (256 * z + y) + x) = 256 * (256 * szo z 8 + szo y 8) + szo x 8 := by
    unfold bc3
    rw [e2, show 252645135 = 256 * (256 * 3855 + 15) + 15 by decide, s3_step ⟨bx.2.2.1, bx.2.2.2.1⟩ (by omega), s3_step ⟨by_.2.2.1, by_.2.2.2.1⟩ bz.2.2.2.1, g0, bz.2.2.2.2.1]
    show 256 * (256 * szo z 8 + t3 y) + t3 x = _
    rw [bx.2.2.2.2.1, by_.2.2.2.2.1]
  have zx := szo_le x 8
  have zy := szo_le y 8
  have zz := szo_le z 8
  have e4 : bc4 (256 * (256 * z + y) + x) = 65536 * szo z 8 + 256 * (szo z 8 + szo y 8) + (szo x 8 + szo y 8) := by
    unfold bc4
    rw [e3]
    omega
  have e5 : bc5 (256 * (256 * z + y) + x) = 65536 * szo z 8 + 256 * (szo z 8 + szo y 8) + (szo x 8 + szo y 8 + szo z 8) := by
    unfold bc5
    rw [e4]
    omega
  rw [e5, show (63 : Nat) = 2 ^ 6 - 1 from rfl, Nat.and_two_pow_sub_one_eq_mod, show (24 : Nat) = 16 + 8 from rfl, szo_split 16, show (16 : Nat) = 8 + 8 from rfl, szo_split 8]
  rw [show (256 * (256 * z + y) + x) % 256 = x by omega, show (256 * (256 * z + y) + x) / 256 = 256 * z + y by omega, show (256 * z + y) % 256 = y by omega, show (256 * z + y) / 256 = z by omega]
  omega
theorem bc_bd {a : Nat} (ha : a < 2 ^ 24) : bc1 a < 2 ^ 24 ∧ bc2 a < 2 ^ 31 ∧ bc3 a < 2 ^ 29 ∧ bc4 a < 2 ^ 30 := by
  have h1 : bc1 a < 2 ^ 24 := Nat.lt_of_le_of_lt (Nat.sub_le _ _) ha
  have h2 : bc2 a < 2 ^ 31 := by
    have u : (bc1 a &&& 858993459) ≤ 858993459 := Nat.and_le_right
    have v : (bc1 a / 4 &&& 858993459) ≤ 858993459 := Nat.and_le_right
    unfold bc2; omega
  have h3 : bc3 a < 2 ^ 29 := by
    have u : bc3 a ≤ 252645135 := Nat.and_le_right
    omega
  exact ⟨h1, h2, h3, by unfold bc4; omega⟩
set_option maxHeartbeats 4000000 in
set_option maxRecDepth 100000 in
theorem c_IN_bitCount {l : Launch} {D : va_G} {cI cZ cO cJ : ClassId} {eA eM : Nat} {f : g_F} {a : Nat} (ha : a < 2 ^ 24) : g_C l y_IN_bitCount b_IN_bitCount 1 (some .int) { frames := 0, cells := 0, slots := 0, locals := 0 } D g_cl (g_tys cI cZ cO cJ) (z_Z eA eM) [.int (nI a)] f (fun r f2 => r = some (.int (nI (szo a 24))) ∧ f2 = f) (fun _ => False) := by
  refine g_ofW [(0, .int (nI a))] (by decide +kernel) (Nat.le_of_ble_eq_true rfl) rfl ?_
  intro p e s m args below meth c X ht hin
  obtain ⟨hb1, hb2, hb3, hb4⟩ := bc_bd ha
  refine g_iload_n X d_IN_bitCount_0 0 rfl ?_
  refine g_iload_n X d_IN_bitCount_1 0 rfl ?_
  refine g_iconst (v := 1) X d_IN_bitCount_2 (by decide) ?_
  refine g_iushr (v := (Int32.toUInt32 (nI a) >>> (Int32.toUInt32 1 &&& Int32.toUInt32 31)).toInt32) X d_IN_bitCount_3 rfl ?_
  refine g_eqi (y := nI (a / 2)) (pk_ushrN (by omega) 1 1 (by decide)) ?_
  refine g_ldcw (v := 1431655765) X q_406 d_IN_bitCount_4 ?_
  refine g_eqi (y := nI 1431655765) rfl ?_
  refine g_iand X d_IN_bitCount_7 ?_
  refine g_eqi (y := nI (a / 2 &&& 1431655765)) (nI_and _ _) ?_
  refine g_isub X d_IN_bitCount_8 ?_
  refine g_eqi (y := nI (bc1 a)) (nI_sub (Nat.le_trans Nat.and_le_left (Nat.div_le_self _ _))) ?_
  refine g_istore_n (lv' := [(0, .int (nI (bc1 a)))]) X d_IN_bitCount_9 rfl (by decide) rfl ?_
  refine g_iload_n X d_IN_bitCount_10 0 rfl ?_
  refine g_ldcw (v := 858993459) X q_407 d_IN_bitCount_11 ?_
  refine g_eqi (y := nI 858993459) rfl ?_
  refine g_iand X d_IN_bitCount_14 ?_
  refine g_eqi (y := nI (bc1 a &&& 858993459)) (nI_and _ _) ?_
  refine g_iload_n X d_IN_bitCount_15 0 rfl ?_
  refine g_iconst (v := 2) X d_IN_bitCount_16 (by decide) ?_
  refine g_iushr (v := (Int32.toUInt32 (nI (bc1 a)) >>> (Int32.toUInt32 2 &&& Int32.toUInt32 31)).toInt32) X d_IN_bitCount_17 rfl ?_
  refine g_eqi (y := nI (bc1 a / 4)) (pk_ushrN (by omega) 2 2 (by decide)) ?_
  refine g_ldcw (v := 858993459) X q_407 d_IN_bitCount_18 ?_
  refine g_eqi (y := nI 858993459) rfl ?_
  refine g_iand X d_IN_bitCount_21 ?_
  refine g_eqi (y := nI (bc1 a / 4 &&& 858993459)) (nI_and _ _) ?_
  refine g_iadd X d_IN_bitCount_22 ?_
  refine g_eqi (y := nI (bc2 a)) (nI_add _ _) ?_
  refine g_istore_n (lv' := [(0, .int (nI (bc2 a)))]) X d_IN_bitCount_23 rfl (by decide) rfl ?_
  refine g_iload_n X d_IN_bitCount_24 0 rfl ?_
  refine g_iload_n X d_IN_bitCount_25 0 rfl ?_
  refine g_iconst (v := 4) X d_IN_bitCount_26 (by decide) ?_
  refine g_iushr (v := (Int32.toUInt32 (nI (bc2 a)) >>> (Int32.toUInt32 4 &&& Int32.toUInt32 31)).toInt32) X d_IN_bitCount_27 rfl ?_
  refine g_eqi (y := nI (bc2 a / 16)) (pk_ushrN (by omega) 4 4 (by decide)) ?_
  refine g_iadd X d_IN_bitCount_28 ?_
  refine g_eqi (y := nI (bc2 a + bc2 a / 16)) (nI_add _ _) ?_
  refine g_ldcw (v := 252645135) X q_408 d_IN_bitCount_29 ?_
  refine g_eqi (y := nI 252645135) rfl ?_
  refine g_iand X d_IN_bitCount_32 ?_
  refine g_eqi (y := nI (bc3 a)) (nI_and _ _) ?_
  refine g_istore_n (lv' := [(0, .int (nI (bc3 a)))]) X d_IN_bitCount_33 rfl (by decide) rfl ?_
  refine g_iload_n X d_IN_bitCount_34 0 rfl ?_
  refine g_iload_n X d_IN_bitCount_35 0 rfl ?_
  refine g_bipush (v := 8) X d_IN_bitCount_36 (by decide) ?_
  refine g_iushr (v := (Int32.toUInt32 (nI (bc3 a)) >>> (Int32.toUInt32 8 &&& Int32.toUInt32 31)).toInt32) X d_IN_bitCount_38 rfl ?_
  refine g_eqi (y := nI (bc3 a / 256)) (pk_ushrN (by omega) 8 8 (by decide)) ?_
  refine g_iadd X d_IN_bitCount_39 ?_
  refine g_eqi (y := nI (bc4 a)) (nI_add _ _) ?_
  refine g_istore_n (lv' := [(0, .int (nI (bc4 a)))]) X d_IN_bitCount_40 rfl (by decide) rfl ?_
  refine g_iload_n X d_IN_bitCount_41 0 rfl ?_
  refine g_iload_n X d_IN_bitCount_42 0 rfl ?_
  refine g_bipush (v := 16) X d_IN_bitCount_43 (by decide) ?_
  refine g_iushr (v := (Int32.toUInt32 (nI (bc4 a)) >>> (Int32.toUInt32 16 &&& Int32.toUInt32 31)).toInt32) X d_IN_bitCount_45 rfl ?_
  refine g_eqi (y := nI (bc4 a / 65536)) (pk_ushrN (by omega) 16 16 (by decide)) ?_
  refine g_iadd X d_IN_bitCount_46 ?_
  refine g_eqi (y := nI (bc5 a)) (nI_add _ _) ?_
  refine g_istore_n (lv' := [(0, .int (nI (bc5 a)))]) X d_IN_bitCount_47 rfl (by decide) rfl ?_
  refine g_iload_n X d_IN_bitCount_48 0 rfl ?_
  refine g_bipush (v := 63) X d_IN_bitCount_49 (by decide) ?_
  refine g_iand X d_IN_bitCount_51 ?_
  refine g_eqi (y := nI (szo a 24)) ((nI_and (bc5 a) 63).trans (by rw [bc_ok ha])) ?_
  exact g_iret X rfl (⟨rfl, rfl⟩) (Nat.le_of_ble_eq_true rfl) (Nat.le_of_ble_eq_true rfl) d_IN_bitCount_52
set_option maxHeartbeats 4000000 in
set_option maxRecDepth 100000 in
theorem c_CL_change {l : Launch} {D : va_G} {cI cZ cO cJ : ClassId} {eA eM : Nat} (hl : l.stackTraces = false) {f : g_F} {ad : Nat → Nat} {L nc : Nat} {pt ot : Nat → Int32} {per dy : Nat → Nat → Nat} {gd : Nat → Nat → Bool} {ct : Nat → Nat} {td ts : Nat → Nat} {tn : Nat} {P Du S Wy Re : Nat → Nat} {n : Nat} {O : Nat → Nat} {pl ps cap : Nat} {mc : Int32} (hR : cl_R cI cZ cO f ad L nc pt ot per dy gd ct td ts tn P Du S Wy Re n O pl ps cap mc) (hB : cl_B L nc per dy ct td ts tn P Du S Wy Re n O pl ps) (hIn : ∀ i j, i < 13 + 4 * nc → j < 13 + 4 * nc → ad i = ad j → i = j) (ht5 : tn < 512) {x y : Int32} : g_C l y_CL_change b_CL_change 4 (some .int) { frames := 8, cells := 2, slots := 12, locals := 125 } D g_cl (g_tys cI cZ cO cJ) (z_Z eA eM) [.ref (ad 0), .int x, .int y] f (fun r f2 => ∃ dd, inR x 30 ∧ dd < 100001 ∧ y = nI dd ∧ r = some (.int (nI (szo (bset (fun k => decide (pt k = x ∨ ot k = x)) nc) 24))) ∧ ((∃ i, i < tn ∧ td i = dd ∧ (∀ j, j < i → td j ≠ dd) ∧ f2 = g_u f (ad 5) (.inl (cI, 512, .inl (fun q9 => nI ((va_up ts i (ts i ||| bset (fun k => decide (pt k = x ∨ ot k = x)) nc)) q9))))) ∨ ((∀ j, j < tn → td j ≠ dd) ∧ bset (fun k => decide (pt k = x ∨ ot k = x)) nc = 0 ∧ f2 = f) ∨ ((∀ j, j < tn → td j ≠ dd) ∧ bset (fun k => decide (pt k = x ∨ ot k = x)) nc ≠ 0 ∧ f2 = g_u (g_u (g_u f (ad 4) (.inl (cI, 512, .inl (fun q9 => nI ((va_up td tn dd) q9))))) (ad 5) (.inl (cI, 512, .inl (fun q9 => nI ((va_up ts tn (bset (fun k => decide (pt k = x ∨ ot k = x)) nc)) q9))))) (ad 3) (.inr (1, [.ref (ad 4), .ref (ad 5), .int (nI (tn + 1))]))))) (fun E => E = "java/lang/IllegalArgumentException" ∧ ¬ (inR x 30 ∧ inR y 100001)) := by
  refine g_ofW [(0, .ref (ad 0)), (1, .int x), (2, .int y)] (by decide +kernel) (Nat.le_of_ble_eq_true rfl) rfl ?_
  intro p e s m args below meth c X ht hin
  obtain ⟨hO0, hAL, hTL, hTU, hPL, hCS⟩ := id hR
  obtain ⟨⟨hL1, hL5⟩, hnc, hCB, hTB, hUB, hRe, hpl8, hO8, hps⟩ := id hB
  obtain ⟨hQ, hn, hcap, hE⟩ := id hAL
  have hG := hTL.1
  have hT := hTU.1
  refine g_iload_n X d_CL_change_0 1 rfl ?_
  refine g_bipush (v := 30) X d_CL_change_1 (by decide) ?_
  refine g_callS (As := [.int x, .int 30]) (rest := []) X (z_ok eA eM) (c_CL_needBelow hl (f := f) (x := x) (b := 30)) v_CL_needBelow q_142 q_141 rfl rfl (Nat.le_of_ble_eq_true rfl) d_CL_change_3 ⟨(Nat.le_of_ble_eq_true rfl), (Nat.le_of_ble_eq_true rfl)⟩ ⟨(Nat.le_of_ble_eq_true rfl), (Nat.le_of_ble_eq_true rfl)⟩ (g_K.out X ht (fun E_ h_ => ⟨h_.1, fun z => h_.2.elim ((inR_iff (n := 30) (by decide)).mpr z.1).1 (fun v_ => v_ ((inR_iff (n := 30) (by decide)).mpr z.1).2)⟩) (Nat.le_of_ble_eq_true rfl) (Nat.le_of_ble_eq_true rfl)) (fun r_ f2_ hp => ?_)
  obtain ⟨⟨rfl, hf_⟩, hw_⟩ := hp
  refine g_st (st2 := []) rfl ?_
  have hf_ := hf_.symm
  subst hf_
  have hx3 : inR x 30 := (inR_iff (n := 30) (by decide)).mp hw_
  refine g_iload_n X d_CL_change_6 2 rfl ?_
  refine g_callS (As := [.int y]) (rest := []) X (z_ok eA eM) (c_CL_needDay hl (f := f) (x := y)) v_CL_needDay q_388 q_387 rfl rfl (Nat.le_of_ble_eq_true rfl) d_CL_change_7 ⟨(Nat.le_of_ble_eq_true rfl), (Nat.le_of_ble_eq_true rfl)⟩ ⟨(Nat.le_of_ble_eq_true rfl), (Nat.le_of_ble_eq_true rfl)⟩ (g_K.out X ht (fun E_ h_ => ⟨h_.1, fun z => h_.2.elim (inD_iff.mpr z.2).1 (fun v_ => v_ (inD_iff.mpr z.2).2)⟩) (Nat.le_of_ble_eq_true rfl) (Nat.le_of_ble_eq_true rfl)) (fun r_ f2_ hp => ?_)
  obtain ⟨⟨rfl, hf_⟩, hw_⟩ := hp
  refine g_st (st2 := []) rfl ?_
  have hf_ := hf_.symm
  subst hf_
  obtain ⟨dd, hd, rfl⟩ := inD_iff.mp hw_
  refine g_aload_n X d_CL_change_10 0 rfl ?_
  refine g_iload_n X d_CL_change_11 1 rfl ?_
  refine g_callV (ci := 3) (As := [.int x]) (rest := []) X (z_ok eA eM) rfl rfl hO0 (c_CL_casesWith hR hB (x := x)) v_CL_casesWith q_393 q_s5 q_391 rfl rfl (Nat.le_of_ble_eq_true rfl) d_CL_change_12 ⟨(Nat.le_of_ble_eq_true rfl), (Nat.le_of_ble_eq_true rfl)⟩ ⟨(Nat.le_of_ble_eq_true rfl), (Nat.le_of_ble_eq_true rfl)⟩ (g_K.no (fun _ h => h)) (fun r_ f2_ hp => ?_)
  obtain ⟨rfl, hf_⟩ := hp
  subst f2_
  refine g_st (st2 := [.int (nI (bset (fun k => decide (pt k = x ∨ ot k = x)) nc))]) rfl ?_
  refine g_istore_n (lv' := [(3, .int (nI (bset (fun k => decide (pt k = x ∨ ot k = x)) nc))), (0, .ref (ad 0)), (1, .int x), (2, .int (nI dd))]) X d_CL_change_15 rfl (by decide) rfl ?_
  refine g_aload_n X d_CL_change_16 1 rfl ?_
  refine g_get (ci := 3) (C := R_CL) (T := F_CL) (N := 7) (v := .ref (ad 3)) X i_CL rfl hO0 2 (by decide) q_105 (fun _ h9 => h9) rfl d_CL_change_17 ?_
  refine g_iload_n X d_CL_change_20 3 rfl ?_
  refine g_iload_n X d_CL_change_21 0 rfl ?_
  have hset : bset (fun k => decide (pt k = x ∨ ot k = x)) nc < 2 ^ 24 := bset_lt31 _ hnc
  have h45 : ad (4 + 0) ≠ ad (4 + 1) := fun z => absurd (hIn 4 5 (by omega) (by omega) z) (by decide)
  refine g_callV (ci := 1) (As := [.int (nI dd), .int (nI (bset (fun k => decide (pt k = x ∨ ot k = x)) nc))]) (rest := []) X (z_ok eA eM) rfl rfl hG (c_TL_note hTL hTB (dd := dd) (s0 := bset (fun k => decide (pt k = x ∨ ot k = x)) nc) h45 (by omega) hset ht5) v_TL_note q_400 q_401 q_399 rfl rfl (Nat.le_of_ble_eq_true rfl) d_CL_change_22 ⟨(Nat.le_of_ble_eq_true rfl), (Nat.le_of_ble_eq_true rfl)⟩ ⟨(Nat.le_of_ble_eq_true rfl), (Nat.le_of_ble_eq_true rfl)⟩ (g_K.no (fun _ h => h)) (fun r_ f2_ hp => ?_)
  obtain ⟨rfl, hnt⟩ := hp
  refine g_st (st2 := []) rfl ?_
  refine g_iload_n X d_CL_change_25 0 rfl ?_
  refine g_callS (As := [.int (nI (bset (fun k => decide (pt k = x ∨ ot k = x)) nc))]) (rest := []) X (z_ok eA eM) (c_IN_bitCount (f := f2_) (a := bset (fun k => decide (pt k = x ∨ ot k = x)) nc) hset) v_IN_bitCount q_404 q_403 rfl rfl (Nat.le_of_ble_eq_true rfl) d_CL_change_26 ⟨(Nat.le_of_ble_eq_true rfl), (Nat.le_of_ble_eq_true rfl)⟩ ⟨(Nat.le_of_ble_eq_true rfl), (Nat.le_of_ble_eq_true rfl)⟩ (g_K.no (fun _ h => h)) (fun r_ f3_ hp => ?_)
  obtain ⟨rfl, hf9_⟩ := hp
  refine g_st (st2 := [.int (nI (szo (bset (fun k => decide (pt k = x ∨ ot k = x)) nc) 24))]) rfl ?_
  exact g_iret X rfl (⟨dd, hx3, hd, rfl, rfl, by rw [hf9_]; exact hnt⟩) (Nat.le_of_ble_eq_true rfl) (Nat.le_of_ble_eq_true rfl) d_CL_change_29
