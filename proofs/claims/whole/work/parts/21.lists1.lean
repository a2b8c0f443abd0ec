/-- the system's cells. ad: 0 the object, 1 the list, 2 its array, 3 the touch log, 4 5 its arrays, 6 the tours, 7 .. 11 their arrays, 12 the plan; case k: 13 + 4 k, its arrays behind it -/
def cl_R (cI cZ cO : ClassId) (f : g_F) (ad : Nat → Nat) (L nc : Nat) (pt ot : Nat → Int32) (per dy : Nat → Nat → Nat) (gd : Nat → Nat → Bool) (ct : Nat → Nat) (td ts : Nat → Nat) (tn : Nat) (P Du S Wy Re : Nat → Nat) (n : Nat) (O : Nat → Nat) (pl ps cap : Nat) (mc : Int32) : Prop :=
  f (ad 0) = some (.inr (3, [.int (nI L), .ref (ad 1), .ref (ad 3), .ref (ad 6), .ref (ad 12), .int (nI pl), .int (nI ps)])) ∧ al_R cO f (ad 1) (ad 2) (fun k => ad (13 + 4 * k)) nc cap mc ∧ tl_R cI f (ad 3) (fun i => ad (4 + i)) td ts tn ∧ tu_R cI f (ad 6) (fun i => ad (7 + i)) P Du S Wy Re n ∧ f (ad 12) = some (.inl (cI, 8, .inl (fun q9 => nI (O q9)))) ∧
  (∀ k, k < nc → cs_R cI cZ f (ad (13 + 4 * k)) (ad (14 + 4 * k)) (ad (15 + 4 * k)) (ad (16 + 4 * k)) (pt k) (ot k) (per k) (dy k) (gd k) (ct k))
/-- what the numbers keep to -/
def cl_B (L nc : Nat) (per dy : Nat → Nat → Nat) (ct : Nat → Nat) (td ts : Nat → Nat) (tn : Nat) (P Du S Wy Re : Nat → Nat) (n : Nat) (O : Nat → Nat) (pl ps : Nat) : Prop :=
  (1 ≤ L ∧ L ≤ 5000) ∧ nc ≤ 24 ∧ (∀ k, cs_B (per k) (dy k) (ct k)) ∧ tl_B td ts tn ∧ tu_B P Du S Wy n ∧ (∀ i, Re i ≤ 2 ^ 28) ∧ (pl ≤ 8 ∧ (∀ i, O i < 8) ∧ ps ≤ 160000)
/-- the first day whose results count on a day -/
def fcd (dd L lt : Nat) : Int32 := if nI dd - nI L < nI lt then nI lt else nI dd - nI L
/-- how many of the first persons say v -/
def cnw (w : Nat → Int32) (v : Int32) : Nat → Nat
  | 0 => 0
  | i + 1 => if w i = v then cnw w v i + 1 else cnw w v i
theorem cnw_le (w : Nat → Int32) (v : Int32) : ∀ i, cnw w v i ≤ i
  | 0 => Nat.le_refl _
  | i + 1 => by
    unfold cnw
    have := cnw_le w v i
    split <;> omega
/-- the state by the numbers of good and bad words -/
def stv (g b : Nat) : Nat := if 0 < b then (if 0 < g then 2 else 1) else if 2 ≤ g then 3 else 0
/-- a person's word, a case's state on a day -/
abbrev wrd (L : Nat) (per dy : Nat → Nat → Nat) (gd : Nat → Nat → Bool) (ct : Nat → Nat) (td ts : Nat → Nat) (tn k dd pe : Nat) : Int32 := (wd (per k) (dy k) (gd k) pe (fcd dd L (ltst td ts k dd tn)) dd (ct k)).2
def sta (L : Nat) (per dy : Nat → Nat → Nat) (gd : Nat → Nat → Bool) (ct : Nat → Nat) (td ts : Nat → Nat) (tn k dd : Nat) : Nat := stv (cnw (wrd L per dy gd ct td ts tn k dd) 1 10) (cnw (wrd L per dy gd ct td ts tn k dd) 0 10)
/-- the cases below a number with a property, as a set -/
def bset (p : Nat → Bool) : Nat → Nat
  | 0 => 0
  | i + 1 => if p i then bset p i ||| 2 ^ i else bset p i
theorem bset_lt (p : Nat → Bool) : ∀ i, bset p i < 2 ^ i
  | 0 => (by decide : 0 < 2 ^ 0)
  | i + 1 => by
    unfold bset
    have h := bset_lt p i
    have h2 : bset p i < 2 ^ (i + 1) := Nat.lt_trans h (Nat.pow_lt_pow_right (by decide) (by omega))
    split
    · exact or_lt h2 (Nat.pow_lt_pow_right (by decide) (by omega))
    · exact h2
theorem bset_lt31 (p : Nat → Bool) {i : Nat} (h : i ≤ 24) : bset p i < 2 ^ 24 := Nat.lt_of_lt_of_le (bset_lt p i) (Nat.pow_le_pow_right (by decide) h)
set_option maxHeartbeats 4000000 in
set_option maxRecDepth 100000 in
theorem L_CL_caseOf {p : Program} {l : Launch} {e : Env} {s : State} {m : MethodId} {args : Array Value} {below : List Frame} {meth : Method} {c : Code} {Q : State → Prop} {A : Nat → Prop} {D : va_G} {cI cZ cO cJ : ClassId} {eA eM : Nat} {f : g_F} {ad : Nat → Nat} {L nc : Nat} {pt ot : Nat → Int32} {per dy : Nat → Nat → Nat} {gd : Nat → Nat → Bool} {ct : Nat → Nat} {td ts : Nat → Nat} {tn : Nat} {P Du S Wy Re : Nat → Nat} {n : Nat} {O : Nat → Nat} {pl ps cap : Nat} {mc : Int32} (hR : cl_R cI cZ cO f ad L nc pt ot per dy gd ct td ts tn P Du S Wy Re n O pl ps cap mc) (hB : cl_B L nc per dy ct td ts tn P Du S Wy Re n O pl ps) {x y : Int32} (X : g_X p s m args meth c b_CL_caseOf 4 (some .int) g_T y_CL_caseOf.cls D g_cl (g_tys cI cZ cO cJ) A (z_Z eA eM)) (k40 : (∀ j, j < nc → ¬ ((pt j = x ∧ ot j = y) ∨ (pt j = y ∧ ot j = x))) → g_W p l e { frames := 3, cells := 0, slots := 0, locals := 64 } s m args below meth c 4 D g_cl A f 0 0 Q 40 [(3, .int (nI nc)), (0, .ref (ad 0)), (1, .int x), (2, .int y)] []) (k32 : ∀ i, i < nc → (∀ j, j < i → ¬ ((pt j = x ∧ ot j = y) ∨ (pt j = y ∧ ot j = x))) → ((pt i = x ∧ ot i = y) ∨ (pt i = y ∧ ot i = x)) → g_W p l e { frames := 3, cells := 0, slots := 0, locals := 64 } s m args below meth c 4 D g_cl A f 0 0 Q 32 [(3, .int (nI i)), (0, .ref (ad 0)), (1, .int x), (2, .int y)] []) : ∀ (d : Nat) (i : Nat), (i + d = nc) → (∀ j, j < i → ¬ ((pt j = x ∧ ot j = y) ∨ (pt j = y ∧ ot j = x))) → g_W p l e { frames := 3, cells := 0, slots := 0, locals := 64 } s m args below meth c 4 D g_cl A f 0 0 Q 2 [(3, .int (nI i)), (0, .ref (ad 0)), (1, .int x), (2, .int y)] [] := by
  obtain ⟨hO0, hAL, hTL, hTU, hPL, hCS⟩ := id hR
  obtain ⟨⟨hL1, hL5⟩, hnc, hCB, hTB, hUB, hRe, hpl8, hO8, hps⟩ := id hB
  obtain ⟨hQ, hn, hcap, hE⟩ := id hAL
  have hG := hTL.1
  have hT := hTU.1
  intro d
  induction d using Nat.strongRecOn with
  | _ d ih =>
    intro i hi hj
    refine g_iload_n X d_CL_caseOf_2 0 rfl ?_
    refine g_aload_n X d_CL_caseOf_3 1 rfl ?_
    refine g_get (ci := 3) (C := R_CL) (T := F_CL) (N := 7) (v := .ref (ad 1)) X i_CL rfl hO0 1 (by decide) q_104 (fun _ h9 => h9) rfl d_CL_caseOf_4 ?_
    refine g_callV (ci := 0) (As := []) (rest := [.int (nI i)]) X (z_ok eA eM) rfl rfl hQ (c_AL_size hAL) v_AL_size q_223 q_224 q_222 rfl rfl (Nat.le_of_ble_eq_true rfl) d_CL_caseOf_7 ⟨(Nat.le_of_ble_eq_true rfl), (Nat.le_of_ble_eq_true rfl)⟩ ⟨(Nat.le_of_ble_eq_true rfl), (Nat.le_of_ble_eq_true rfl)⟩ (g_K.no (fun _ h => h)) (fun r_ f2_ hp => ?_)
    obtain ⟨rfl, hf_⟩ := hp
    subst f2_
    refine g_st (st2 := [.int (nI nc), .int (nI i)]) rfl ?_
    refine g_icmp_ge X 40 d_CL_caseOf_10 (by decide) (fun c10 => ?_) (fun c10 => ?_)
    · skip
      have e : i = nc := by have := (nI_leI (by omega) (by omega)).mp c10; omega
      subst e
      exact k40 hj
    · skip
      have hlt : i < nc := Nat.lt_of_not_le (fun z => c10 ((nI_leI (by omega) (by omega)).mpr z))
      refine g_aload_n X d_CL_caseOf_13 1 rfl ?_
      refine g_get (ci := 3) (C := R_CL) (T := F_CL) (N := 7) (v := .ref (ad 1)) X i_CL rfl hO0 1 (by decide) q_104 (fun _ h9 => h9) rfl d_CL_caseOf_14 ?_
      refine g_iload_n X d_CL_caseOf_17 0 rfl ?_
      refine g_callV (ci := 0) (As := [.int (nI i)]) (rest := []) X (z_ok eA eM) rfl rfl hQ (c_AL_get hAL (i := i) (hlt)) v_AL_get q_227 q_228 q_226 rfl rfl (Nat.le_of_ble_eq_true rfl) d_CL_caseOf_18 ⟨(Nat.le_of_ble_eq_true rfl), (Nat.le_of_ble_eq_true rfl)⟩ ⟨(Nat.le_of_ble_eq_true rfl), (Nat.le_of_ble_eq_true rfl)⟩ (g_K.no (fun _ h => h)) (fun r_ f2_ hp => ?_)
      obtain ⟨rfl, hf_⟩ := hp
      subst f2_
      refine g_st (st2 := [.ref (ad (13 + 4 * i))]) rfl ?_
      have hcs := hCS i (hlt)
      have hcq := hcs.1
      refine g_cast (ci := 4) (nm := "CaseLists$Case") X q_240 rfl X.2.2.2.2.2.2.2.2.1.1 hcq d_CL_caseOf_21 ?_
      refine g_iload_n X d_CL_caseOf_24 2 rfl ?_
      refine g_iload_n X d_CL_caseOf_25 3 rfl ?_
      refine g_callV (ci := 4) (As := [.int x, .int y]) (rest := []) X (z_ok eA eM) rfl rfl hcq (c_CS_isOf hcs (hCB i) (x := x) (y := y)) v_CS_isOf q_242 q_243 q_241 rfl rfl (Nat.le_of_ble_eq_true rfl) d_CL_caseOf_26 ⟨(Nat.le_of_ble_eq_true rfl), (Nat.le_of_ble_eq_true rfl)⟩ ⟨(Nat.le_of_ble_eq_true rfl), (Nat.le_of_ble_eq_true rfl)⟩ (g_K.no (fun _ h => h)) (fun r_ f2_ hp => ?_)
      obtain ⟨rfl, hf_⟩ := hp
      subst f2_
      refine g_st (st2 := [.int (bI (decide ((pt i = x ∧ ot i = y) ∨ (pt i = y ∧ ot i = x))))]) rfl ?_
      refine g_if_eq X 34 d_CL_caseOf_29 (by decide) (fun c29 => ?_) (fun c29 => ?_)
      · skip
        have hne : ¬ ((pt i = x ∧ ot i = y) ∨ (pt i = y ∧ ot i = x)) := of_decide_eq_false (bI_z.mp c29)
        refine g_iinc (lv' := [(3, .int (nI (i + 1))), (0, .ref (ad 0)), (1, .int x), (2, .int y)]) X d_CL_caseOf_34 0 rfl (nI_1 i) (by decide) rfl ?_
        refine g_goto X 2 d_CL_caseOf_37 (by decide) ?_
        exact ih (d - 1) (by omega) (i + 1) (by omega) (fun j h9 => by
          by_cases e : j = i
          · rw [e]; exact hne
          · exact hj j (by omega))
      · skip
        have heq : (pt i = x ∧ ot i = y) ∨ (pt i = y ∧ ot i = x) := of_decide_eq_true (bt_nf (fun z => c29 (bI_z.mpr z)))
        exact k32 i hlt hj heq
set_option maxHeartbeats 4000000 in
set_option maxRecDepth 100000 in
theorem c_CL_caseOf {l : Launch} {D : va_G} {cI cZ cO cJ : ClassId} {eA eM : Nat} {f : g_F} {ad : Nat → Nat} {L nc : Nat} {pt ot : Nat → Int32} {per dy : Nat → Nat → Nat} {gd : Nat → Nat → Bool} {ct : Nat → Nat} {td ts : Nat → Nat} {tn : Nat} {P Du S Wy Re : Nat → Nat} {n : Nat} {O : Nat → Nat} {pl ps cap : Nat} {mc : Int32} (hR : cl_R cI cZ cO f ad L nc pt ot per dy gd ct td ts tn P Du S Wy Re n O pl ps cap mc) (hB : cl_B L nc per dy ct td ts tn P Du S Wy Re n O pl ps) {x y : Int32} : g_C l y_CL_caseOf b_CL_caseOf 4 (some .int) { frames := 3, cells := 0, slots := 0, locals := 64 } D g_cl (g_tys cI cZ cO cJ) (z_Z eA eM) [.ref (ad 0), .int x, .int y] f (fun r f2 => (((∀ j, j < nc → ¬ ((pt j = x ∧ ot j = y) ∨ (pt j = y ∧ ot j = x))) ∧ r = some (.int (-1))) ∨ ∃ i, i < nc ∧ (∀ j, j < i → ¬ ((pt j = x ∧ ot j = y) ∨ (pt j = y ∧ ot j = x))) ∧ ((pt i = x ∧ ot i = y) ∨ (pt i = y ∧ ot i = x)) ∧ r = some (.int (nI i))) ∧ f2 = f) (fun _ => False) := by
  refine g_ofW [(0, .ref (ad 0)), (1, .int x), (2, .int y)] (by decide +kernel) (Nat.le_of_ble_eq_true rfl) rfl ?_
  intro p e s m args below meth c X ht hin
  obtain ⟨hO0, hAL, hTL, hTU, hPL, hCS⟩ := id hR
  obtain ⟨⟨hL1, hL5⟩, hnc, hCB, hTB, hUB, hRe, hpl8, hO8, hps⟩ := id hB
  obtain ⟨hQ, hn, hcap, hE⟩ := id hAL
  have hG := hTL.1
  have hT := hTU.1
  refine g_iconst (v := 0) X d_CL_caseOf_0 (by decide) ?_
  refine g_istore_n (lv' := [(3, .int 0), (0, .ref (ad 0)), (1, .int x), (2, .int y)]) X d_CL_caseOf_1 rfl (by decide) rfl ?_
  refine L_CL_caseOf hR hB X ?_ ?_ nc 0 (by omega) (fun j h => absurd h (by omega))
  · intro hj
    refine g_iconst (v := (-1)) X d_CL_caseOf_40 (by decide) ?_
    exact g_iret X rfl (⟨Or.inl ⟨hj, rfl⟩, rfl⟩) (Nat.le_of_ble_eq_true rfl) (Nat.le_of_ble_eq_true rfl) d_CL_caseOf_41
  · intro i hi hj h3
    refine g_iload_n X d_CL_caseOf_32 0 rfl ?_
    exact g_iret X rfl (⟨Or.inr ⟨i, hi, hj, h3, rfl⟩, rfl⟩) (Nat.le_of_ble_eq_true rfl) (Nat.le_of_ble_eq_true rfl) d_CL_caseOf_33
set_option maxHeartbeats 4000000 in
set_option maxRecDepth 100000 in
theorem L_CL_casesWith {p : Program} {l : Launch} {e : Env} {s : State} {m : MethodId} {args : Array Value} {below : List Frame} {meth : Method} {c : Code} {Q : State → Prop} {A : Nat → Prop} {D : va_G} {cI cZ cO cJ : ClassId} {eA eM : Nat} {f : g_F} {ad : Nat → Nat} {L nc : Nat} {pt ot : Nat → Int32} {per dy : Nat → Nat → Nat} {gd : Nat → Nat → Bool} {ct : Nat → Nat} {td ts : Nat → Nat} {tn : Nat} {P Du S Wy Re : Nat → Nat} {n : Nat} {O : Nat → Nat} {pl ps cap : Nat} {mc : Int32} (hR : cl_R cI cZ cO f ad L nc pt ot per dy gd ct td ts tn P Du S Wy Re n O pl ps cap mc) (hB : cl_B L nc per dy ct td ts tn P Du S Wy Re n O pl ps) {x : Int32} (X : g_X p s m args meth c b_CL_casesWith 4 (some .int) g_T y_CL_casesWith.cls D g_cl (g_tys cI cZ cO cJ) A (z_Z eA eM)) (kk : g_W p l e { frames := 3, cells := 0, slots := 0, locals := 64 } s m args below meth c 4 D g_cl A f 0 0 Q 45 [(3, .int (nI nc)), (2, .int (nI (bset (fun k => decide (pt k = x ∨ ot k = x)) nc))), (0, .ref (ad 0)), (1, .int x)] []) : ∀ (d : Nat) (i : Nat), (i + d = nc) → g_W p l e { frames := 3, cells := 0, slots := 0, locals := 64 } s m args below meth c 4 D g_cl A f 0 0 Q 4 [(3, .int (nI i)), (2, .int (nI (bset (fun k => decide (pt k = x ∨ ot k = x)) i))), (0, .ref (ad 0)), (1, .int x)] [] := by
  obtain ⟨hO0, hAL, hTL, hTU, hPL, hCS⟩ := id hR
  obtain ⟨⟨hL1, hL5⟩, hnc, hCB, hTB, hUB, hRe, hpl8, hO8, hps⟩ := id hB
  obtain ⟨hQ, hn, hcap, hE⟩ := id hAL
  have hG := hTL.1
  have hT := hTU.1
  intro d
  induction d using Nat.strongRecOn with
  | _ d ih =>
    intro i hi
    refine g_iload_n X d_CL_casesWith_4 0 rfl ?_
    refine g_aload_n X d_CL_casesWith_5 2 rfl ?_
    refine g_get (ci := 3) (C := R_CL) (T := F_CL) (N := 7) (v := .ref (ad 1)) X i_CL rfl hO0 1 (by decide) q_104 (fun _ h9 => h9) rfl d_CL_casesWith_6 ?_
    refine g_callV (ci := 0) (As := []) (rest := [.int (nI i)]) X (z_ok eA eM) rfl rfl hQ (c_AL_size hAL) v_AL_size q_223 q_224 q_222 rfl rfl (Nat.le_of_ble_eq_true rfl) d_CL_casesWith_9 ⟨(Nat.le_of_ble_eq_true rfl), (Nat.le_of_ble_eq_true rfl)⟩ ⟨(Nat.le_of_ble_eq_true rfl), (Nat.le_of_ble_eq_true rfl)⟩ (g_K.no (fun _ h => h)) (fun r_ f2_ hp => ?_)
    obtain ⟨rfl, hf_⟩ := hp
    subst f2_
    refine g_st (st2 := [.int (nI nc), .int (nI i)]) rfl ?_
    refine g_icmp_ge X 45 d_CL_casesWith_12 (by decide) (fun c12 => ?_) (fun c12 => ?_)
    · skip
      have e : i = nc := by have := (nI_leI (by omega) (by omega)).mp c12; omega
      subst e
      exact kk
    · skip
      have hlt : i < nc := Nat.lt_of_not_le (fun z => c12 ((nI_leI (by omega) (by omega)).mpr z))
      refine g_aload_n X d_CL_casesWith_15 2 rfl ?_
      refine g_get (ci := 3) (C := R_CL) (T := F_CL) (N := 7) (v := .ref (ad 1)) X i_CL rfl hO0 1 (by decide) q_104 (fun _ h9 => h9) rfl d_CL_casesWith_16 ?_
      refine g_iload_n X d_CL_casesWith_19 0 rfl ?_
      refine g_callV (ci := 0) (As := [.int (nI i)]) (rest := []) X (z_ok eA eM) rfl rfl hQ (c_AL_get hAL (i := i) (hlt)) v_AL_get q_227 q_228 q_226 rfl rfl (Nat.le_of_ble_eq_true rfl) d_CL_casesWith_20 ⟨(Nat.le_of_ble_eq_true rfl), (Nat.le_of_ble_eq_true rfl)⟩ ⟨(Nat.le_of_ble_eq_true rfl), (Nat.le_of_ble_eq_true rfl)⟩ (g_K.no (fun _ h => h)) (fun r_ f2_ hp => ?_)
      obtain ⟨rfl, hf_⟩ := hp
      subst f2_
      refine g_st (st2 := [.ref (ad (13 + 4 * i))]) rfl ?_
      have hcs := hCS i (hlt)
      have hcq := hcs.1
      refine g_cast (ci := 4) (nm := "CaseLists$Case") X q_240 rfl X.2.2.2.2.2.2.2.2.1.1 hcq d_CL_casesWith_23 ?_
      refine g_iload_n X d_CL_casesWith_26 3 rfl ?_
      refine g_callV (ci := 4) (As := [.int x]) (rest := []) X (z_ok eA eM) rfl rfl hcq (c_CS_has hcs (hCB i) (x := x)) v_CS_has q_396 q_397 q_395 rfl rfl (Nat.le_of_ble_eq_true rfl) d_CL_casesWith_27 ⟨(Nat.le_of_ble_eq_true rfl), (Nat.le_of_ble_eq_true rfl)⟩ ⟨(Nat.le_of_ble_eq_true rfl), (Nat.le_of_ble_eq_true rfl)⟩ (g_K.no (fun _ h => h)) (fun r_ f2_ hp => ?_)
      obtain ⟨rfl, hf_⟩ := hp
      subst f2_
      refine g_st (st2 := [.int (bI (decide (pt i = x ∨ ot i = x)))]) rfl ?_
      refine g_if_eq X 39 d_CL_casesWith_30 (by decide) (fun c30 => ?_) (fun c30 => ?_)
      · skip
        have e : bset (fun k => decide (pt k = x ∨ ot k = x)) (i + 1) = bset (fun k => decide (pt k = x ∨ ot k = x)) i := if_neg (fun z => absurd ((bI_z.mp c30).symm.trans (show decide (pt i = x ∨ ot i = x) = true from z)) (by decide))
        refine g_iinc (lv' := [(3, .int (nI (i + 1))), (2, .int (nI (bset (fun k => decide (pt k = x ∨ ot k = x)) i))), (0, .ref (ad 0)), (1, .int x)]) X d_CL_casesWith_39 0 rfl (nI_1 i) (by decide) rfl ?_
        refine g_goto X 4 d_CL_casesWith_42 (by decide) ?_
        rw [← e]
        exact g_lv [0, 1, 2, 3] rfl (ih (d - 1) (by omega) (i + 1) (by omega))
      · skip
        have e : bset (fun k => decide (pt k = x ∨ ot k = x)) (i + 1) = bset (fun k => decide (pt k = x ∨ ot k = x)) i ||| 2 ^ i := if_pos (bt_nf (fun z => c30 (bI_z.mpr z)))
        refine g_iload_n X d_CL_casesWith_33 1 rfl ?_
        refine g_iconst (v := 1) X d_CL_casesWith_34 (by decide) ?_
        refine g_iload_n X d_CL_casesWith_35 0 rfl ?_
        refine g_ishl X d_CL_casesWith_36 ?_
        refine g_eqi (y := nI (2 ^ i)) (nI_bit (by omega)) ?_
        refine g_ior X d_CL_casesWith_37 ?_
        refine g_eqi (y := nI (bset (fun k => decide (pt k = x ∨ ot k = x)) i ||| 2 ^ i)) (nI_or _ _) ?_
        refine g_istore_n (lv' := [(2, .int (nI (bset (fun k => decide (pt k = x ∨ ot k = x)) i ||| 2 ^ i))), (3, .int (nI i)), (0, .ref (ad 0)), (1, .int x)]) X d_CL_casesWith_38 rfl (by decide) rfl ?_
        refine g_iinc (lv' := [(3, .int (nI (i + 1))), (2, .int (nI (bset (fun k => decide (pt k = x ∨ ot k = x)) i ||| 2 ^ i))), (0, .ref (ad 0)), (1, .int x)]) X d_CL_casesWith_39 1 rfl (nI_1 i) (by decide) rfl ?_
        refine g_goto X 4 d_CL_casesWith_42 (by decide) ?_
        rw [← e]
        exact g_lv [0, 1, 2, 3] rfl (ih (d - 1) (by omega) (i + 1) (by omega))
set_option maxHeartbeats 4000000 in
set_option maxRecDepth 100000 in
theorem c_CL_casesWith {l : Launch} {D : va_G} {cI cZ cO cJ : ClassId} {eA eM : Nat} {f : g_F} {ad : Nat → Nat} {L nc : Nat} {pt ot : Nat → Int32} {per dy : Nat → Nat → Nat} {gd : Nat → Nat → Bool} {ct : Nat → Nat} {td ts : Nat → Nat} {tn : Nat} {P Du S Wy Re : Nat → Nat} {n : Nat} {O : Nat → Nat} {pl ps cap : Nat} {mc : Int32} (hR : cl_R cI cZ cO f ad L nc pt ot per dy gd ct td ts tn P Du S Wy Re n O pl ps cap mc) (hB : cl_B L nc per dy ct td ts tn P Du S Wy Re n O pl ps) {x : Int32} : g_C l y_CL_casesWith b_CL_casesWith 4 (some .int) { frames := 3, cells := 0, slots := 0, locals := 64 } D g_cl (g_tys cI cZ cO cJ) (z_Z eA eM) [.ref (ad 0), .int x] f (fun r f2 => r = some (.int (nI (bset (fun k => decide (pt k = x ∨ ot k = x)) nc))) ∧ f2 = f) (fun _ => False) := by
  refine g_ofW [(0, .ref (ad 0)), (1, .int x)] (by decide +kernel) (Nat.le_of_ble_eq_true rfl) rfl ?_
  intro p e s m args below meth c X ht hin
  obtain ⟨hO0, hAL, hTL, hTU, hPL, hCS⟩ := id hR
  obtain ⟨⟨hL1, hL5⟩, hnc, hCB, hTB, hUB, hRe, hpl8, hO8, hps⟩ := id hB
  obtain ⟨hQ, hn, hcap, hE⟩ := id hAL
  have hG := hTL.1
  have hT := hTU.1
  refine g_iconst (v := 0) X d_CL_casesWith_0 (by decide) ?_
  refine g_istore_n (lv' := [(2, .int 0), (0, .ref (ad 0)), (1, .int x)]) X d_CL_casesWith_1 rfl (by decide) rfl ?_
  refine g_iconst (v := 0) X d_CL_casesWith_2 (by decide) ?_
  refine g_istore_n (lv' := [(3, .int 0), (2, .int 0), (0, .ref (ad 0)), (1, .int x)]) X d_CL_casesWith_3 rfl (by decide) rfl ?_
  refine L_CL_casesWith hR hB X ?_ nc 0 (by omega)
  exact g_iload_n X d_CL_casesWith_45 1 rfl (g_iret X rfl ⟨rfl, rfl⟩ (Nat.le_of_ble_eq_true rfl) (Nat.le_of_ble_eq_true rfl) d_CL_casesWith_46)
theorem fI_1 (x : Nat) : fI x + 1 = nI x := by
  show nI x - 1 + 1 = nI x
  exact Int32.sub_add_cancel _ _
set_option maxHeartbeats 4000000 in
set_option maxRecDepth 100000 in
theorem c_CL_firstCountingDay {l : Launch} {D : va_G} {cI cZ cO cJ : ClassId} {eA eM : Nat} {f : g_F} {ad : Nat → Nat} {L nc : Nat} {pt ot : Nat → Int32} {per dy : Nat → Nat → Nat} {gd : Nat → Nat → Bool} {ct : Nat → Nat} {td ts : Nat → Nat} {tn : Nat} {P Du S Wy Re : Nat → Nat} {n : Nat} {O : Nat → Nat} {pl ps cap : Nat} {mc : Int32} (hR : cl_R cI cZ cO f ad L nc pt ot per dy gd ct td ts tn P Du S Wy Re n O pl ps cap mc) (hB : cl_B L nc per dy ct td ts tn P Du S Wy Re n O pl ps) {k dd : Nat} (hk : k < nc) (hdd : dd < 2 ^ 30) : g_C l y_CL_firstCountingDay b_CL_firstCountingDay 3 (some .int) { frames := 2, cells := 0, slots := 0, locals := 45 } D g_cl (g_tys cI cZ cO cJ) (z_Z eA eM) [.ref (ad 0), .int (nI k), .int (nI dd)] f (fun r f2 => r = some (.int (fcd dd L (ltst td ts k dd tn))) ∧ f2 = f) (fun _ => False) := by
  refine g_ofW [(0, .ref (ad 0)), (1, .int (nI k)), (2, .int (nI dd))] (by decide +kernel) (Nat.le_of_ble_eq_true rfl) rfl ?_
  intro p e s m args below meth c X ht hin
  obtain ⟨hO0, hAL, hTL, hTU, hPL, hCS⟩ := id hR
  obtain ⟨⟨hL1, hL5⟩, hnc, hCB, hTB, hUB, hRe, hpl8, hO8, hps⟩ := id hB
  obtain ⟨hQ, hn, hcap, hE⟩ := id hAL
  have hG := hTL.1
  have hT := hTU.1
  refine g_iload_n X d_CL_firstCountingDay_0 2 rfl ?_
  refine g_aload_n X d_CL_firstCountingDay_1 0 rfl ?_
  refine g_get (ci := 3) (C := R_CL) (T := F_CL) (N := 7) (v := .int (nI L)) X i_CL rfl hO0 0 (by decide) q_103 (fun _ h9 => h9) rfl d_CL_firstCountingDay_2 ?_
  refine g_isub X d_CL_firstCountingDay_5 ?_
  refine g_aload_n X d_CL_firstCountingDay_6 0 rfl ?_
  refine g_get (ci := 3) (C := R_CL) (T := F_CL) (N := 7) (v := .ref (ad 3)) X i_CL rfl hO0 2 (by decide) q_105 (fun _ h9 => h9) rfl d_CL_firstCountingDay_7 ?_
  refine g_iload_n X d_CL_firstCountingDay_10 1 rfl ?_
  refine g_iload_n X d_CL_firstCountingDay_11 2 rfl ?_
  refine g_callV (ci := 1) (As := [.int (nI k), .int (nI dd)]) (rest := [.int ((nI dd) - (nI L))]) X (z_ok eA eM) rfl rfl hG (c_TL_latest hTL hTB (k := k) (dd := dd) (by omega) hdd) v_TL_latest q_449 q_450 q_448 rfl rfl (Nat.le_of_ble_eq_true rfl) d_CL_firstCountingDay_12 ⟨(Nat.le_of_ble_eq_true rfl), (Nat.le_of_ble_eq_true rfl)⟩ ⟨(Nat.le_of_ble_eq_true rfl), (Nat.le_of_ble_eq_true rfl)⟩ (g_K.no (fun _ h => h)) (fun r_ f2_ hp => ?_)
  obtain ⟨rfl, hf_⟩ := hp
  subst f2_
  refine g_st (st2 := [.int (fI (ltst td ts k dd tn)), .int ((nI dd) - (nI L))]) rfl ?_
  refine g_iconst (v := 1) X d_CL_firstCountingDay_15 (by decide) ?_
  refine g_iadd X d_CL_firstCountingDay_16 ?_
  refine g_eqi (y := nI (ltst td ts k dd tn)) (fI_1 _) ?_
  refine g_mmaxI X q_32 (Nat.le_of_ble_eq_true rfl) (Nat.le_of_ble_eq_true rfl) (Nat.le_of_ble_eq_true rfl) (Nat.le_of_ble_eq_true rfl) d_CL_firstCountingDay_17 ?_
  exact g_iret X rfl (⟨rfl, rfl⟩) (Nat.le_of_ble_eq_true rfl) (Nat.le_of_ble_eq_true rfl) d_CL_firstCountingDay_20
set_option maxHeartbeats 4000000 in
set_option maxRecDepth 100000 in
theorem L_CL_stateOn {p : Program} {l : Launch} {e : Env} {s : State} {m : MethodId} {args : Array Value} {below : List Frame} {meth : Method} {c : Code} {Q : State → Prop} {A : Nat → Prop} {D : va_G} {cI cZ cO cJ : ClassId} {eA eM : Nat} {f : g_F} {ad : Nat → Nat} {L nc : Nat} {pt ot : Nat → Int32} {per dy : Nat → Nat → Nat} {gd : Nat → Nat → Bool} {ct : Nat → Nat} {td ts : Nat → Nat} {tn : Nat} {P Du S Wy Re : Nat → Nat} {n : Nat} {O : Nat → Nat} {pl ps cap : Nat} {mc : Int32} (hR : cl_R cI cZ cO f ad L nc pt ot per dy gd ct td ts tn P Du S Wy Re n O pl ps cap mc) (hB : cl_B L nc per dy ct td ts tn P Du S Wy Re n O pl ps) {k dd : Nat} (hk : k < nc) (hdd : dd < 2 ^ 30) (X : g_X p s m args meth c b_CL_stateOn 9 (some .int) g_T y_CL_stateOn.cls D g_cl (g_tys cI cZ cO cJ) A (z_Z eA eM)) (kk : g_W p l e { frames := 3, cells := 0, slots := 0, locals := 67 } s m args below meth c 9 D g_cl A f 0 0 Q 73 [(7, .int (nI 10)), (6, .int (nI (cnw (wrd L per dy gd ct td ts tn k dd) 0 10))), (5, .int (nI (cnw (wrd L per dy gd ct td ts tn k dd) 1 10))), (4, .int (fcd dd L (ltst td ts k dd tn))), (3, .ref (ad (13 + 4 * k))), (0, .ref (ad 0)), (1, .int (nI k)), (2, .int (nI dd))] []) : ∀ (d : Nat) (i : Nat), (i + d = 10) → g_W p l e { frames := 3, cells := 0, slots := 0, locals := 67 } s m args below meth c 9 D g_cl A f 0 0 Q 29 [(7, .int (nI i)), (6, .int (nI (cnw (wrd L per dy gd ct td ts tn k dd) 0 i))), (5, .int (nI (cnw (wrd L per dy gd ct td ts tn k dd) 1 i))), (4, .int (fcd dd L (ltst td ts k dd tn))), (3, .ref (ad (13 + 4 * k))), (0, .ref (ad 0)), (1, .int (nI k)), (2, .int (nI dd))] [] := by
  obtain ⟨hO0, hAL, hTL, hTU, hPL, hCS⟩ := id hR
  obtain ⟨⟨hL1, hL5⟩, hnc, hCB, hTB, hUB, hRe, hpl8, hO8, hps⟩ := id hB
  obtain ⟨hQ, hn, hcap, hE⟩ := id hAL
  have hG := hTL.1
  have hT := hTU.1
  have hcs := hCS k hk
  have hcq := hcs.1
  intro d
  induction d using Nat.strongRecOn with
  | _ d ih =>
    intro i hi
    refine g_iload X d_CL_stateOn_29 0 rfl ?_
    refine g_bipush (v := 10) X d_CL_stateOn_31 (by decide) ?_
    refine g_icmp_ge X 73 d_CL_stateOn_33 (by decide) (fun c33 => ?_) (fun c33 => ?_)
    · skip
      have e : i = 10 := by have := (nI_leI (a := 10) (b := i) (by decide) (by omega)).mp c33; omega
      subst e
      exact kk
    · skip
      have hlt : i < 10 := Nat.lt_of_not_le (fun z => c33 ((nI_leI (a := 10) (b := i) (by decide) (by omega)).mpr z))
      refine g_aload_n X d_CL_stateOn_36 4 rfl ?_
      refine g_iload X d_CL_stateOn_37 0 rfl ?_
      refine g_iload X d_CL_stateOn_39 3 rfl ?_
      refine g_iload_n X d_CL_stateOn_41 7 rfl ?_
      refine g_callV (ci := 4) (As := [.int (nI i), .int (fcd dd L (ltst td ts k dd tn)), .int (nI dd)]) (rest := []) X (z_ok eA eM) rfl rfl hcq (c_CS_wordOf hcs (hCB k) (pe := i) (dd := dd) (fs := fcd dd L (ltst td ts k dd tn)) (by omega) hdd) v_CS_wordOf q_454 q_455 q_453 rfl rfl (Nat.le_of_ble_eq_true rfl) d_CL_stateOn_42 ⟨(Nat.le_of_ble_eq_true rfl), (Nat.le_of_ble_eq_true rfl)⟩ ⟨(Nat.le_of_ble_eq_true rfl), (Nat.le_of_ble_eq_true rfl)⟩ (g_K.no (fun _ h => h)) (fun r_ f2_ hp => ?_)
      obtain ⟨rfl, hf_⟩ := hp
      subst f2_
      refine g_st (st2 := [.int (wrd L per dy gd ct td ts tn k dd i)]) rfl ?_
      refine g_istore (lv' := [(8, .int (wrd L per dy gd ct td ts tn k dd i)), (7, .int (nI i)), (6, .int (nI (cnw (wrd L per dy gd ct td ts tn k dd) 0 i))), (5, .int (nI (cnw (wrd L per dy gd ct td ts tn k dd) 1 i))), (4, .int (fcd dd L (ltst td ts k dd tn))), (3, .ref (ad (13 + 4 * k))), (0, .ref (ad 0)), (1, .int (nI k)), (2, .int (nI dd))]) X d_CL_stateOn_45 (by decide) rfl ?_
      refine g_iload X d_CL_stateOn_47 0 rfl ?_
      refine g_iconst (v := 1) X d_CL_stateOn_49 (by decide) ?_
      refine g_icmp_ne X 59 d_CL_stateOn_50 (by decide) (fun c50 => ?_) (fun c50 => ?_)
      · skip
        have e1 : cnw (wrd L per dy gd ct td ts tn k dd) 1 (i + 1) = cnw (wrd L per dy gd ct td ts tn k dd) 1 i := if_neg c50
        refine g_iload X d_CL_stateOn_59 0 rfl ?_
        refine g_if_ne X 67 d_CL_stateOn_61 (by decide) (fun c61 => ?_) (fun c61 => ?_)
        · skip
          have e0 : cnw (wrd L per dy gd ct td ts tn k dd) 0 (i + 1) = cnw (wrd L per dy gd ct td ts tn k dd) 0 i := if_neg c61
          refine g_iinc (lv' := [(7, .int (nI (i + 1))), (8, .int (wrd L per dy gd ct td ts tn k dd i)), (6, .int (nI (cnw (wrd L per dy gd ct td ts tn k dd) 0 i))), (5, .int (nI (cnw (wrd L per dy gd ct td ts tn k dd) 1 i))), (4, .int (fcd dd L (ltst td ts k dd tn))), (3, .ref (ad (13 + 4 * k))), (0, .ref (ad 0)), (1, .int (nI k)), (2, .int (nI dd))]) X d_CL_stateOn_67 1 rfl (nI_1 i) (by decide) rfl ?_
          refine g_goto X 29 d_CL_stateOn_70 (by decide) ?_
          refine g_lv (lv' := [(7, .int (nI (i + 1))), (6, .int (nI (cnw (wrd L per dy gd ct td ts tn k dd) 0 (i + 1)))), (5, .int (nI (cnw (wrd L per dy gd ct td ts tn k dd) 1 (i + 1)))), (4, .int (fcd dd L (ltst td ts k dd tn))), (3, .ref (ad (13 + 4 * k))), (0, .ref (ad 0)), (1, .int (nI k)), (2, .int (nI dd))]) [0, 2, 3, 4, 5, 6, 7, 8] (by rw [e0, e1]; rfl) (ih (d - 1) (by omega) (i + 1) (by omega))
        · skip
          have e0 : cnw (wrd L per dy gd ct td ts tn k dd) 0 (i + 1) = cnw (wrd L per dy gd ct td ts tn k dd) 0 i + 1 := if_pos c61
          refine g_iinc (lv' := [(6, .int (nI (cnw (wrd L per dy gd ct td ts tn k dd) 0 i + 1))), (8, .int (wrd L per dy gd ct td ts tn k dd i)), (7, .int (nI i)), (5, .int (nI (cnw (wrd L per dy gd ct td ts tn k dd) 1 i))), (4, .int (fcd dd L (ltst td ts k dd tn))), (3, .ref (ad (13 + 4 * k))), (0, .ref (ad 0)), (1, .int (nI k)), (2, .int (nI dd))]) X d_CL_stateOn_64 2 rfl (nI_1 _) (by decide) rfl ?_
          refine g_iinc (lv' := [(7, .int (nI (i + 1))), (6, .int (nI (cnw (wrd L per dy gd ct td ts tn k dd) 0 i + 1))), (8, .int (wrd L per dy gd ct td ts tn k dd i)), (5, .int (nI (cnw (wrd L per dy gd ct td ts tn k dd) 1 i))), (4, .int (fcd dd L (ltst td ts k dd tn))), (3, .ref (ad (13 + 4 * k))), (0, .ref (ad 0)), (1, .int (nI k)), (2, .int (nI dd))]) X d_CL_stateOn_67 2 rfl (nI_1 i) (by decide) rfl ?_
          refine g_goto X 29 d_CL_stateOn_70 (by decide) ?_
          refine g_lv (lv' := [(7, .int (nI (i + 1))), (6, .int (nI (cnw (wrd L per dy gd ct td ts tn k dd) 0 (i + 1)))), (5, .int (nI (cnw (wrd L per dy gd ct td ts tn k dd) 1 (i + 1)))), (4, .int (fcd dd L (ltst td ts k dd tn))), (3, .ref (ad (13 + 4 * k))), (0, .ref (ad 0)), (1, .int (nI k)), (2, .int (nI dd))]) [0, 1, 3, 4, 5, 6, 7, 8] (by rw [e0, e1]; rfl) (ih (d - 1) (by omega) (i + 1) (by omega))
      · skip
        have e1 : cnw (wrd L per dy gd ct td ts tn k dd) 1 (i + 1) = cnw (wrd L per dy gd ct td ts tn k dd) 1 i + 1 := if_pos c50
        have e0 : cnw (wrd L per dy gd ct td ts tn k dd) 0 (i + 1) = cnw (wrd L per dy gd ct td ts tn k dd) 0 i := if_neg (fun z => by rw [c50] at z; exact absurd z (by decide))
        refine g_iinc (lv' := [(5, .int (nI (cnw (wrd L per dy gd ct td ts tn k dd) 1 i + 1))), (8, .int (wrd L per dy gd ct td ts tn k dd i)), (7, .int (nI i)), (6, .int (nI (cnw (wrd L per dy gd ct td ts tn k dd) 0 i))), (4, .int (fcd dd L (ltst td ts k dd tn))), (3, .ref (ad (13 + 4 * k))), (0, .ref (ad 0)), (1, .int (nI k)), (2, .int (nI dd))]) X d_CL_stateOn_53 3 rfl (nI_1 _) (by decide) rfl ?_
        refine g_goto X 67 d_CL_stateOn_56 (by decide) ?_
        refine g_iinc (lv' := [(7, .int (nI (i + 1))), (5, .int (nI (cnw (wrd L per dy gd ct td ts tn k dd) 1 i + 1))), (8, .int (wrd L per dy gd ct td ts tn k dd i)), (6, .int (nI (cnw (wrd L per dy gd ct td ts tn k dd) 0 i))), (4, .int (fcd dd L (ltst td ts k dd tn))), (3, .ref (ad (13 + 4 * k))), (0, .ref (ad 0)), (1, .int (nI k)), (2, .int (nI dd))]) X d_CL_stateOn_67 2 rfl (nI_1 i) (by decide) rfl ?_
        refine g_goto X 29 d_CL_stateOn_70 (by decide) ?_
        refine g_lv (lv' := [(7, .int (nI (i + 1))), (6, .int (nI (cnw (wrd L per dy gd ct td ts tn k dd) 0 (i + 1)))), (5, .int (nI (cnw (wrd L per dy gd ct td ts tn k dd) 1 (i + 1)))), (4, .int (fcd dd L (ltst td ts k dd tn))), (3, .ref (ad (13 + 4 * k))), (0, .ref (ad 0)), (1, .int (nI k)), (2, .int (nI dd))]) [0, 3, 1, 4, 5, 6, 7, 8] (by rw [e0, e1]; rfl) (ih (d - 1) (by omega) (i + 1) (by omega))
set_option maxHeartbeats 4000000 in
set_option maxRecDepth 100000 in
theorem c_CL_stateOn {l : Launch} {D : va_G} {cI cZ cO cJ : ClassId} {eA eM : Nat} {f : g_F} {ad : Nat → Nat} {L nc : Nat} {pt ot : Nat → Int32} {per dy : Nat → Nat → Nat} {gd : Nat → Nat → Bool} {ct : Nat → Nat} {td ts : Nat → Nat} {tn : Nat} {P Du S Wy Re : Nat → Nat} {n : Nat} {O : Nat → Nat} {pl ps cap : Nat} {mc : Int32} (hR : cl_R cI cZ cO f ad L nc pt ot per dy gd ct td ts tn P Du S Wy Re n O pl ps cap mc) (hB : cl_B L nc per dy ct td ts tn P Du S Wy Re n O pl ps) {k dd : Nat} (hk : k < nc) (hdd : dd < 2 ^ 30) : g_C l y_CL_stateOn b_CL_stateOn 9 (some .int) { frames := 3, cells := 0, slots := 0, locals := 67 } D g_cl (g_tys cI cZ cO cJ) (z_Z eA eM) [.ref (ad 0), .int (nI k), .int (nI dd)] f (fun r f2 => r = some (.int (nI (sta L per dy gd ct td ts tn k dd))) ∧ f2 = f) (fun _ => False) := by
  refine g_ofW [(0, .ref (ad 0)), (1, .int (nI k)), (2, .int (nI dd))] (by decide +kernel) (Nat.le_of_ble_eq_true rfl) rfl ?_
  intro p e s m args below meth c X ht hin
  obtain ⟨hO0, hAL, hTL, hTU, hPL, hCS⟩ := id hR
  obtain ⟨⟨hL1, hL5⟩, hnc, hCB, hTB, hUB, hRe, hpl8, hO8, hps⟩ := id hB
  obtain ⟨hQ, hn, hcap, hE⟩ := id hAL
  have hG := hTL.1
  have hT := hTU.1
  refine g_aload_n X d_CL_stateOn_0 0 rfl ?_
  refine g_get (ci := 3) (C := R_CL) (T := F_CL) (N := 7) (v := .ref (ad 1)) X i_CL rfl hO0 1 (by decide) q_104 (fun _ h9 => h9) rfl d_CL_stateOn_1 ?_
  refine g_iload_n X d_CL_stateOn_4 1 rfl ?_
  refine g_callV (ci := 0) (As := [.int (nI k)]) (rest := []) X (z_ok eA eM) rfl rfl hQ (c_AL_get hAL (i := k) (hk)) v_AL_get q_227 q_228 q_226 rfl rfl (Nat.le_of_ble_eq_true rfl) d_CL_stateOn_5 ⟨(Nat.le_of_ble_eq_true rfl), (Nat.le_of_ble_eq_true rfl)⟩ ⟨(Nat.le_of_ble_eq_true rfl), (Nat.le_of_ble_eq_true rfl)⟩ (g_K.no (fun _ h => h)) (fun r_ f2_ hp => ?_)
  obtain ⟨rfl, hf_⟩ := hp
  subst f2_
  refine g_st (st2 := [.ref (ad (13 + 4 * k))]) rfl ?_
  have hcs := hCS k (hk)
  have hcq := hcs.1
  refine g_cast (ci := 4) (nm := "CaseLists$Case") X q_240 rfl X.2.2.2.2.2.2.2.2.1.1 hcq d_CL_stateOn_8 ?_
  refine g_astore_n (lv' := [(3, .ref (ad (13 + 4 * k))), (0, .ref (ad 0)), (1, .int (nI k)), (2, .int (nI dd))]) X d_CL_stateOn_11 rfl (by decide) rfl ?_
  refine g_aload_n X d_CL_stateOn_12 1 rfl ?_
  refine g_iload_n X d_CL_stateOn_13 2 rfl ?_
  refine g_iload_n X d_CL_stateOn_14 3 rfl ?_
  refine g_callV (ci := 3) (As := [.int (nI k), .int (nI dd)]) (rest := []) X (z_ok eA eM) rfl rfl hO0 (c_CL_firstCountingDay hR hB hk hdd) v_CL_firstCountingDay q_446 q_s8 q_444 rfl rfl (Nat.le_of_ble_eq_true rfl) d_CL_stateOn_15 ⟨(Nat.le_of_ble_eq_true rfl), (Nat.le_of_ble_eq_true rfl)⟩ ⟨(Nat.le_of_ble_eq_true rfl), (Nat.le_of_ble_eq_true rfl)⟩ (g_K.no (fun _ h => h)) (fun r_ f2_ hp => ?_)
  obtain ⟨rfl, hf_⟩ := hp
  subst f2_
  refine g_st (st2 := [.int (fcd dd L (ltst td ts k dd tn))]) rfl ?_
  refine g_istore (lv' := [(4, .int (fcd dd L (ltst td ts k dd tn))), (3, .ref (ad (13 + 4 * k))), (0, .ref (ad 0)), (1, .int (nI k)), (2, .int (nI dd))]) X d_CL_stateOn_18 (by decide) rfl ?_
  refine g_iconst (v := 0) X d_CL_stateOn_20 (by decide) ?_
  refine g_istore (lv' := [(5, .int 0), (4, .int (fcd dd L (ltst td ts k dd tn))), (3, .ref (ad (13 + 4 * k))), (0, .ref (ad 0)), (1, .int (nI k)), (2, .int (nI dd))]) X d_CL_stateOn_21 (by decide) rfl ?_
  refine g_iconst (v := 0) X d_CL_stateOn_23 (by decide) ?_
  refine g_istore (lv' := [(6, .int 0), (5, .int 0), (4, .int (fcd dd L (ltst td ts k dd tn))), (3, .ref (ad (13 + 4 * k))), (0, .ref (ad 0)), (1, .int (nI k)), (2, .int (nI dd))]) X d_CL_stateOn_24 (by decide) rfl ?_
  refine g_iconst (v := 0) X d_CL_stateOn_26 (by decide) ?_
  refine g_istore (lv' := [(7, .int 0), (6, .int 0), (5, .int 0), (4, .int (fcd dd L (ltst td ts k dd tn))), (3, .ref (ad (13 + 4 * k))), (0, .ref (ad 0)), (1, .int (nI k)), (2, .int (nI dd))]) X d_CL_stateOn_27 (by decide) rfl ?_
  refine g_lv [0, 1, 2, 3, 4, 5, 6, 7] rfl (L_CL_stateOn hR hB hk hdd X ?_ 10 0 (by omega))
  refine g_iload X d_CL_stateOn_73 1 rfl ?_
  refine g_if_le X 89 d_CL_stateOn_75 (by decide) (fun c75 => ?_) (fun c75 => ?_)
  · skip
    refine g_iload X d_CL_stateOn_89 2 rfl ?_
    refine g_iconst (v := 2) X d_CL_stateOn_91 (by decide) ?_
    refine g_icmp_lt X 99 d_CL_stateOn_92 (by decide) (fun c92 => ?_) (fun c92 => ?_)
    · skip
      refine g_iconst (v := 0) X d_CL_stateOn_99 (by decide) ?_
      exact g_iret X rfl (⟨by rw [show sta L per dy gd ct td ts tn k dd = 0 from (if_neg (Nat.not_lt.mpr ((nI_leI (a := cnw (wrd L per dy gd ct td ts tn k dd) 0 10) (b := 0) (by have := cnw_le (wrd L per dy gd ct td ts tn k dd) 0 10; have := cnw_le (wrd L per dy gd ct td ts tn k dd) 1 10; omega) (by decide)).mp c75))).trans (if_neg (Nat.not_le.mpr ((nI_ltI (b := 2) (by have := cnw_le (wrd L per dy gd ct td ts tn k dd) 1 10; omega) (by decide)).mp c92)))]; rfl, rfl⟩) (Nat.le_of_ble_eq_true rfl) (Nat.le_of_ble_eq_true rfl) d_CL_stateOn_100
    · skip
      refine g_iconst (v := 3) X d_CL_stateOn_95 (by decide) ?_
      refine g_goto X 100 d_CL_stateOn_96 (by decide) ?_
      exact g_iret X rfl (⟨by rw [show sta L per dy gd ct td ts tn k dd = 3 from (if_neg (Nat.not_lt.mpr ((nI_leI (a := cnw (wrd L per dy gd ct td ts tn k dd) 0 10) (b := 0) (by have := cnw_le (wrd L per dy gd ct td ts tn k dd) 0 10; have := cnw_le (wrd L per dy gd ct td ts tn k dd) 1 10; omega) (by decide)).mp c75))).trans (if_pos (Nat.le_of_not_lt (fun z => c92 ((nI_ltI (b := 2) (by have := cnw_le (wrd L per dy gd ct td ts tn k dd) 1 10; omega) (by decide)).mpr z))))]; rfl, rfl⟩) (Nat.le_of_ble_eq_true rfl) (Nat.le_of_ble_eq_true rfl) d_CL_stateOn_100
  · skip
    refine g_iload X d_CL_stateOn_78 2 rfl ?_
    refine g_if_le X 87 d_CL_stateOn_80 (by decide) (fun c80 => ?_) (fun c80 => ?_)
    · skip
      refine g_iconst (v := 1) X d_CL_stateOn_87 (by decide) ?_
      exact g_iret X rfl (⟨by rw [show sta L per dy gd ct td ts tn k dd = 1 from (if_pos (Nat.lt_of_not_le (fun z => c75 ((nI_leI (a := cnw (wrd L per dy gd ct td ts tn k dd) 0 10) (b := 0) (by have := cnw_le (wrd L per dy gd ct td ts tn k dd) 0 10; have := cnw_le (wrd L per dy gd ct td ts tn k dd) 1 10; omega) (by decide)).mpr z)))).trans (if_neg (Nat.not_lt.mpr ((nI_leI (a := cnw (wrd L per dy gd ct td ts tn k dd) 1 10) (b := 0) (by have := cnw_le (wrd L per dy gd ct td ts tn k dd) 0 10; have := cnw_le (wrd L per dy gd ct td ts tn k dd) 1 10; omega) (by decide)).mp c80)))]; rfl, rfl⟩) (Nat.le_of_ble_eq_true rfl) (Nat.le_of_ble_eq_true rfl) d_CL_stateOn_88
    · skip
      refine g_iconst (v := 2) X d_CL_stateOn_83 (by decide) ?_
      refine g_goto X 88 d_CL_stateOn_84 (by decide) ?_
      exact g_iret X rfl (⟨by rw [show sta L per dy gd ct td ts tn k dd = 2 from (if_pos (Nat.lt_of_not_le (fun z => c75 ((nI_leI (a := cnw (wrd L per dy gd ct td ts tn k dd) 0 10) (b := 0) (by have := cnw_le (wrd L per dy gd ct td ts tn k dd) 0 10; have := cnw_le (wrd L per dy gd ct td ts tn k dd) 1 10; omega) (by decide)).mpr z)))).trans (if_pos (Nat.lt_of_not_le (fun z => c80 ((nI_leI (a := cnw (wrd L per dy gd ct td ts tn k dd) 1 10) (b := 0) (by have := cnw_le (wrd L per dy gd ct td ts tn k dd) 0 10; have := cnw_le (wrd L per dy gd ct td ts tn k dd) 1 10; omega) (by decide)).mpr z))))]; rfl, rfl⟩) (Nat.le_of_ble_eq_true rfl) (Nat.le_of_ble_eq_true rfl) d_CL_stateOn_88
theorem stv_lt (g b : Nat) : stv g b < 4 := by
  unfold stv
  split
  · split <;> decide
  · split <;> decide
set_option maxHeartbeats 4000000 in
set_option maxRecDepth 100000 in
theorem L_CL_unprovedCases {p : Program} {l : Launch} {e : Env} {s : State} {m : MethodId} {args : Array Value} {below : List Frame} {meth : Method} {c : Code} {Q : State → Prop} {A : Nat → Prop} {D : va_G} {cI cZ cO cJ : ClassId} {eA eM : Nat} {f : g_F} {ad : Nat → Nat} {L nc : Nat} {pt ot : Nat → Int32} {per dy : Nat → Nat → Nat} {gd : Nat → Nat → Bool} {ct : Nat → Nat} {td ts : Nat → Nat} {tn : Nat} {P Du S Wy Re : Nat → Nat} {n : Nat} {O : Nat → Nat} {pl ps cap : Nat} {mc : Int32} (hR : cl_R cI cZ cO f ad L nc pt ot per dy gd ct td ts tn P Du S Wy Re n O pl ps cap mc) (hB : cl_B L nc per dy ct td ts tn P Du S Wy Re n O pl ps) {dd : Nat} (hdd : dd < 2 ^ 30) (X : g_X p s m args meth c b_CL_unprovedCases 4 (some .int) g_T y_CL_unprovedCases.cls D g_cl (g_tys cI cZ cO cJ) A (z_Z eA eM)) (kk : g_W p l e { frames := 4, cells := 0, slots := 0, locals := 95 } s m args below meth c 4 D g_cl A f 0 0 Q 37 [(3, .int (nI nc)), (2, .int (nI (bset (fun k => decide (sta L per dy gd ct td ts tn k dd ≠ 3)) nc))), (0, .ref (ad 0)), (1, .int (nI dd))] []) : ∀ (d : Nat) (i : Nat), (i + d = nc) → g_W p l e { frames := 4, cells := 0, slots := 0, locals := 95 } s m args below meth c 4 D g_cl A f 0 0 Q 4 [(3, .int (nI i)), (2, .int (nI (bset (fun k => decide (sta L per dy gd ct td ts tn k dd ≠ 3)) i))), (0, .ref (ad 0)), (1, .int (nI dd))] [] := by
  obtain ⟨hO0, hAL, hTL, hTU, hPL, hCS⟩ := id hR
  obtain ⟨⟨hL1, hL5⟩, hnc, hCB, hTB, hUB, hRe, hpl8, hO8, hps⟩ := id hB
  obtain ⟨hQ, hn, hcap, hE⟩ := id hAL
  have hG := hTL.1
  have hT := hTU.1
  intro d
  induction d using Nat.strongRecOn with
  | _ d ih =>
    intro i hi
    refine g_iload_n X d_CL_unprovedCases_4 0 rfl ?_
    refine g_aload_n X d_CL_unprovedCases_5 2 rfl ?_
    refine g_get (ci := 3) (C := R_CL) (T := F_CL) (N := 7) (v := .ref (ad 1)) X i_CL rfl hO0 1 (by decide) q_104 (fun _ h9 => h9) rfl d_CL_unprovedCases_6 ?_
    refine g_callV (ci := 0) (As := []) (rest := [.int (nI i)]) X (z_ok eA eM) rfl rfl hQ (c_AL_size hAL) v_AL_size q_223 q_224 q_222 rfl rfl (Nat.le_of_ble_eq_true rfl) d_CL_unprovedCases_9 ⟨(Nat.le_of_ble_eq_true rfl), (Nat.le_of_ble_eq_true rfl)⟩ ⟨(Nat.le_of_ble_eq_true rfl), (Nat.le_of_ble_eq_true rfl)⟩ (g_K.no (fun _ h => h)) (fun r_ f2_ hp => ?_)
    obtain ⟨rfl, hf_⟩ := hp
    subst f2_
    refine g_st (st2 := [.int (nI nc), .int (nI i)]) rfl ?_
    refine g_icmp_ge X 37 d_CL_unprovedCases_12 (by decide) (fun c12 => ?_) (fun c12 => ?_)
    · skip
      have e : i = nc := by have := (nI_leI (by omega) (by omega)).mp c12; omega
      subst e
      exact kk
    · skip
      have hlt : i < nc := Nat.lt_of_not_le (fun z => c12 ((nI_leI (by omega) (by omega)).mpr z))
      refine g_aload_n X d_CL_unprovedCases_15 2 rfl ?_
      refine g_iload_n X d_CL_unprovedCases_16 0 rfl ?_
      refine g_iload_n X d_CL_unprovedCases_17 3 rfl ?_
      refine g_callV (ci := 3) (As := [.int (nI i), .int (nI dd)]) (rest := []) X (z_ok eA eM) rfl rfl hO0 (c_CL_stateOn hR hB (k := i) (dd := dd) (hlt) hdd) v_CL_stateOn q_442 q_s7 q_440 rfl rfl (Nat.le_of_ble_eq_true rfl) d_CL_unprovedCases_18 ⟨(Nat.le_of_ble_eq_true rfl), (Nat.le_of_ble_eq_true rfl)⟩ ⟨(Nat.le_of_ble_eq_true rfl), (Nat.le_of_ble_eq_true rfl)⟩ (g_K.no (fun _ h => h)) (fun r_ f2_ hp => ?_)
      obtain ⟨rfl, hf_⟩ := hp
      subst f2_
      refine g_st (st2 := [.int (nI (sta L per dy gd ct td ts tn i dd))]) rfl ?_
      refine g_iconst (v := 3) X d_CL_unprovedCases_21 (by decide) ?_
      refine g_icmp_eq X 31 d_CL_unprovedCases_22 (by decide) (fun c22 => ?_) (fun c22 => ?_)
      · skip
        have e : bset (fun k => decide (sta L per dy gd ct td ts tn k dd ≠ 3)) (i + 1) = bset (fun k => decide (sta L per dy gd ct td ts tn k dd ≠ 3)) i := if_neg (fun z => of_decide_eq_true (p := sta L per dy gd ct td ts tn i dd ≠ 3) z ((nI_eq (b := 3) (Nat.lt_trans (stv_lt _ _) (by decide)) (by decide)).mp c22))
        refine g_iinc (lv' := [(3, .int (nI (i + 1))), (2, .int (nI (bset (fun k => decide (sta L per dy gd ct td ts tn k dd ≠ 3)) i))), (0, .ref (ad 0)), (1, .int (nI dd))]) X d_CL_unprovedCases_31 0 rfl (nI_1 i) (by decide) rfl ?_
        refine g_goto X 4 d_CL_unprovedCases_34 (by decide) ?_
        rw [← e]
        exact g_lv [0, 1, 2, 3] rfl (ih (d - 1) (by omega) (i + 1) (by omega))
      · skip
        have e : bset (fun k => decide (sta L per dy gd ct td ts tn k dd ≠ 3)) (i + 1) = bset (fun k => decide (sta L per dy gd ct td ts tn k dd ≠ 3)) i ||| 2 ^ i := if_pos (decide_eq_true (p := sta L per dy gd ct td ts tn i dd ≠ 3) (fun z => c22 (by rw [z]; rfl)))
        refine g_iload_n X d_CL_unprovedCases_25 1 rfl ?_
        refine g_iconst (v := 1) X d_CL_unprovedCases_26 (by decide) ?_
        refine g_iload_n X d_CL_unprovedCases_27 0 rfl ?_
        refine g_ishl X d_CL_unprovedCases_28 ?_
        refine g_eqi (y := nI (2 ^ i)) (nI_bit (by omega)) ?_
        refine g_ior X d_CL_unprovedCases_29 ?_
        refine g_eqi (y := nI (bset (fun k => decide (sta L per dy gd ct td ts tn k dd ≠ 3)) i ||| 2 ^ i)) (nI_or _ _) ?_
        refine g_istore_n (lv' := [(2, .int (nI (bset (fun k => decide (sta L per dy gd ct td ts tn k dd ≠ 3)) i ||| 2 ^ i))), (3, .int (nI i)), (0, .ref (ad 0)), (1, .int (nI dd))]) X d_CL_unprovedCases_30 rfl (by decide) rfl ?_
        refine g_iinc (lv' := [(3, .int (nI (i + 1))), (2, .int (nI (bset (fun k => decide (sta L per dy gd ct td ts tn k dd ≠ 3)) i ||| 2 ^ i))), (0, .ref (ad 0)), (1, .int (nI dd))]) X d_CL_unprovedCases_31 1 rfl (nI_1 i) (by decide) rfl ?_
        refine g_goto X 4 d_CL_unprovedCases_34 (by decide) ?_
        rw [← e]
        exact g_lv [0, 1, 2, 3] rfl (ih (d - 1) (by omega) (i + 1) (by omega))
set_option maxHeartbeats 4000000 in
set_option maxRecDepth 100000 in
theorem c_CL_unprovedCases {l : Launch} {D : va_G} {cI cZ cO cJ : ClassId} {eA eM : Nat} {f : g_F} {ad : Nat → Nat} {L nc : Nat} {pt ot : Nat → Int32} {per dy : Nat → Nat → Nat} {gd : Nat → Nat → Bool} {ct : Nat → Nat} {td ts : Nat → Nat} {tn : Nat} {P Du S Wy Re : Nat → Nat} {n : Nat} {O : Nat → Nat} {pl ps cap : Nat} {mc : Int32} (hR : cl_R cI cZ cO f ad L nc pt ot per dy gd ct td ts tn P Du S Wy Re n O pl ps cap mc) (hB : cl_B L nc per dy ct td ts tn P Du S Wy Re n O pl ps) {dd : Nat} (hdd : dd < 2 ^ 30) : g_C l y_CL_unprovedCases b_CL_unprovedCases 4 (some .int) { frames := 4, cells := 0, slots := 0, locals := 95 } D g_cl (g_tys cI cZ cO cJ) (z_Z eA eM) [.ref (ad 0), .int (nI dd)] f (fun r f2 => r = some (.int (nI (bset (fun k => decide (sta L per dy gd ct td ts tn k dd ≠ 3)) nc))) ∧ f2 = f) (fun _ => False) := by
  refine g_ofW [(0, .ref (ad 0)), (1, .int (nI dd))] (by decide +kernel) (Nat.le_of_ble_eq_true rfl) rfl ?_
  intro p e s m args below meth c X ht hin
  obtain ⟨hO0, hAL, hTL, hTU, hPL, hCS⟩ := id hR
  obtain ⟨⟨hL1, hL5⟩, hnc, hCB, hTB, hUB, hRe, hpl8, hO8, hps⟩ := id hB
  obtain ⟨hQ, hn, hcap, hE⟩ := id hAL
  have hG := hTL.1
  have hT := hTU.1
  refine g_iconst (v := 0) X d_CL_unprovedCases_0 (by decide) ?_
  refine g_istore_n (lv' := [(2, .int 0), (0, .ref (ad 0)), (1, .int (nI dd))]) X d_CL_unprovedCases_1 rfl (by decide) rfl ?_
  refine g_iconst (v := 0) X d_CL_unprovedCases_2 (by decide) ?_
  refine g_istore_n (lv' := [(3, .int 0), (2, .int 0), (0, .ref (ad 0)), (1, .int (nI dd))]) X d_CL_unprovedCases_3 rfl (by decide) rfl ?_
  refine L_CL_unprovedCases hR hB hdd X ?_ nc 0 (by omega)
  exact g_iload_n X d_CL_unprovedCases_37 1 rfl (g_iret X rfl ⟨rfl, rfl⟩ (Nat.le_of_ble_eq_true rfl) (Nat.le_of_ble_eq_true rfl) d_CL_unprovedCases_38)
/-- the next turn of a case behind a day -/
def mxt (x : Nat) : Nat := if x = 0 then 105001 else min 105001 (x - 1)
theorem mxt_lt (x : Nat) : mxt x ≤ 105001 := by
  unfold mxt
  split
  · exact Nat.le_refl _
  · exact Nat.min_le_left _ _
abbrev nxt (L : Nat) (dy : Nat → Nat → Nat) (ct : Nat → Nat) (td ts : Nat → Nat) (tn k dd : Nat) : Nat := ntn (dy k) dd L (mxt (nbh td ts k dd tn)) (ct k)
set_option maxHeartbeats 4000000 in
set_option maxRecDepth 100000 in
theorem c_CL_nextTurn {l : Launch} {D : va_G} {cI cZ cO cJ : ClassId} {eA eM : Nat} {f : g_F} {ad : Nat → Nat} {L nc : Nat} {pt ot : Nat → Int32} {per dy : Nat → Nat → Nat} {gd : Nat → Nat → Bool} {ct : Nat → Nat} {td ts : Nat → Nat} {tn : Nat} {P Du S Wy Re : Nat → Nat} {n : Nat} {O : Nat → Nat} {pl ps cap : Nat} {mc : Int32} (hR : cl_R cI cZ cO f ad L nc pt ot per dy gd ct td ts tn P Du S Wy Re n O pl ps cap mc) (hB : cl_B L nc per dy ct td ts tn P Du S Wy Re n O pl ps) {k dd : Nat} (hk : k < nc) (hdd : dd < 2 ^ 30) : g_C l y_CL_nextTurn b_CL_nextTurn 5 (some .int) { frames := 3, cells := 0, slots := 0, locals := 64 } D g_cl (g_tys cI cZ cO cJ) (z_Z eA eM) [.ref (ad 0), .int (nI k), .int (nI dd)] f (fun r f2 => r = some (.int (nI (nxt L dy ct td ts tn k dd))) ∧ f2 = f) (fun _ => False) := by
  refine g_ofW [(0, .ref (ad 0)), (1, .int (nI k)), (2, .int (nI dd))] (by decide +kernel) (Nat.le_of_ble_eq_true rfl) rfl ?_
  intro p e s m args below meth c X ht hin
  obtain ⟨hO0, hAL, hTL, hTU, hPL, hCS⟩ := id hR
  obtain ⟨⟨hL1, hL5⟩, hnc, hCB, hTB, hUB, hRe, hpl8, hO8, hps⟩ := id hB
  obtain ⟨hQ, hn, hcap, hE⟩ := id hAL
  have hG := hTL.1
  have hT := hTU.1
  refine g_ldc (v := 105001) X q_573 d_CL_nextTurn_0 ?_
  refine g_istore_n (lv' := [(3, .int 105001), (0, .ref (ad 0)), (1, .int (nI k)), (2, .int (nI dd))]) X d_CL_nextTurn_2 rfl (by decide) rfl ?_
  refine g_aload_n X d_CL_nextTurn_3 1 rfl ?_
  refine g_get (ci := 3) (C := R_CL) (T := F_CL) (N := 7) (v := .ref (ad 3)) X i_CL rfl hO0 2 (by decide) q_105 (fun _ h9 => h9) rfl d_CL_nextTurn_4 ?_
  refine g_iload_n X d_CL_nextTurn_7 2 rfl ?_
  refine g_iload_n X d_CL_nextTurn_8 3 rfl ?_
  refine g_callV (ci := 1) (As := [.int (nI k), .int (nI dd)]) (rest := []) X (z_ok eA eM) rfl rfl hG (c_TL_nextBehind hTL hTB (k := k) (dd := dd) (by omega) hdd) v_TL_nextBehind q_575 q_576 q_574 rfl rfl (Nat.le_of_ble_eq_true rfl) d_CL_nextTurn_9 ⟨(Nat.le_of_ble_eq_true rfl), (Nat.le_of_ble_eq_true rfl)⟩ ⟨(Nat.le_of_ble_eq_true rfl), (Nat.le_of_ble_eq_true rfl)⟩ (g_K.no (fun _ h => h)) (fun r_ f2_ hp => ?_)
  obtain ⟨rfl, hf_⟩ := hp
  subst f2_
  refine g_st (st2 := [.int (fI (nbh td ts k dd tn))]) rfl ?_
  refine g_istore (lv' := [(4, .int (fI (nbh td ts k dd tn))), (3, .int 105001), (0, .ref (ad 0)), (1, .int (nI k)), (2, .int (nI dd))]) X d_CL_nextTurn_12 (by decide) rfl ?_
  refine g_iload X d_CL_nextTurn_14 0 rfl ?_
  refine g_iconst (v := (-1)) X d_CL_nextTurn_16 (by decide) ?_
  refine g_icmp_eq X 27 d_CL_nextTurn_17 (by decide) (fun c17 => ?_) (fun c17 => ?_)
  · skip
    refine g_aload_n X d_CL_nextTurn_27 2 rfl ?_
    refine g_get (ci := 3) (C := R_CL) (T := F_CL) (N := 7) (v := .ref (ad 1)) X i_CL rfl hO0 1 (by decide) q_104 (fun _ h9 => h9) rfl d_CL_nextTurn_28 ?_
    refine g_iload_n X d_CL_nextTurn_31 3 rfl ?_
    refine g_callV (ci := 0) (As := [.int (nI k)]) (rest := []) X (z_ok eA eM) rfl rfl hQ (c_AL_get hAL (i := k) (hk)) v_AL_get q_227 q_228 q_226 rfl rfl (Nat.le_of_ble_eq_true rfl) d_CL_nextTurn_32 ⟨(Nat.le_of_ble_eq_true rfl), (Nat.le_of_ble_eq_true rfl)⟩ ⟨(Nat.le_of_ble_eq_true rfl), (Nat.le_of_ble_eq_true rfl)⟩ (g_K.no (fun _ h => h)) (fun r_ f2_ hp => ?_)
    obtain ⟨rfl, hf_⟩ := hp
    subst f2_
    refine g_st (st2 := [.ref (ad (13 + 4 * k))]) rfl ?_
    have hcs := hCS k (hk)
    have hcq := hcs.1
    refine g_cast (ci := 4) (nm := "CaseLists$Case") X q_240 rfl X.2.2.2.2.2.2.2.2.1.1 hcq d_CL_nextTurn_35 ?_
    refine g_iload_n X d_CL_nextTurn_38 4 rfl ?_
    refine g_aload_n X d_CL_nextTurn_39 2 rfl ?_
    refine g_get (ci := 3) (C := R_CL) (T := F_CL) (N := 7) (v := .int (nI L)) X i_CL rfl hO0 0 (by decide) q_103 (fun _ h9 => h9) rfl d_CL_nextTurn_40 ?_
    refine g_iload_n X d_CL_nextTurn_43 1 rfl ?_
    have hnb := nbh_le hTB.2.1 (ts := ts) k dd tn
    refine g_eqi (y := nI (mxt (nbh td ts k dd tn))) (by rw [show mxt (nbh td ts k dd tn) = 105001 from if_pos ((fI_n (by omega)).mp c17)]; rfl) ?_
    refine g_callV (ci := 4) (As := [.int (nI dd), .int (nI L), .int (nI (mxt (nbh td ts k dd tn)))]) (rest := []) X (z_ok eA eM) rfl rfl hcq (c_CS_nextTurn hcs (hCB k) (dd := dd) (L := L) (M := mxt (nbh td ts k dd tn)) hdd hL5 (Nat.lt_of_le_of_lt (mxt_lt _) (by decide))) v_CS_nextTurn q_579 q_580 q_578 rfl rfl (Nat.le_of_ble_eq_true rfl) d_CL_nextTurn_44 ⟨(Nat.le_of_ble_eq_true rfl), (Nat.le_of_ble_eq_true rfl)⟩ ⟨(Nat.le_of_ble_eq_true rfl), (Nat.le_of_ble_eq_true rfl)⟩ (g_K.no (fun _ h => h)) (fun r_ f2_ hp => ?_)
    obtain ⟨rfl, hf_⟩ := hp
    subst f2_
    refine g_st (st2 := [.int (nI (nxt L dy ct td ts tn k dd))]) rfl ?_
    exact g_iret X rfl (⟨rfl, rfl⟩) (Nat.le_of_ble_eq_true rfl) (Nat.le_of_ble_eq_true rfl) d_CL_nextTurn_47
  · skip
    refine g_iload_n X d_CL_nextTurn_20 1 rfl ?_
    refine g_iload X d_CL_nextTurn_21 0 rfl ?_
    have hnb := nbh_le hTB.2.1 (ts := ts) k dd tn
    have hx0 : nbh td ts k dd tn ≠ 0 := fun z => c17 ((fI_n (by omega)).mpr z)
    have hfx : fI (nbh td ts k dd tn) = nI (nbh td ts k dd tn - 1) := nI_m1 (by omega)
    refine g_eqi hfx ?_
    refine g_mmin (a := 105001) (b := nbh td ts k dd tn - 1) X q_29 (by decide) (by omega) (Nat.le_of_ble_eq_true rfl) (Nat.le_of_ble_eq_true rfl) (Nat.le_of_ble_eq_true rfl) (Nat.le_of_ble_eq_true rfl) d_CL_nextTurn_23 ?_
    refine g_istore_n (lv' := [(3, .int (nI (min 105001 (nbh td ts k dd tn - 1)))), (4, .int (fI (nbh td ts k dd tn))), (0, .ref (ad 0)), (1, .int (nI k)), (2, .int (nI dd))]) X d_CL_nextTurn_26 rfl (by decide) rfl ?_
    refine g_aload_n X d_CL_nextTurn_27 2 rfl ?_
    refine g_get (ci := 3) (C := R_CL) (T := F_CL) (N := 7) (v := .ref (ad 1)) X i_CL rfl hO0 1 (by decide) q_104 (fun _ h9 => h9) rfl d_CL_nextTurn_28 ?_
    refine g_iload_n X d_CL_nextTurn_31 3 rfl ?_
    refine g_callV (ci := 0) (As := [.int (nI k)]) (rest := []) X (z_ok eA eM) rfl rfl hQ (c_AL_get hAL (i := k) (hk)) v_AL_get q_227 q_228 q_226 rfl rfl (Nat.le_of_ble_eq_true rfl) d_CL_nextTurn_32 ⟨(Nat.le_of_ble_eq_true rfl), (Nat.le_of_ble_eq_true rfl)⟩ ⟨(Nat.le_of_ble_eq_true rfl), (Nat.le_of_ble_eq_true rfl)⟩ (g_K.no (fun _ h => h)) (fun r_ f2_ hp => ?_)
    obtain ⟨rfl, hf_⟩ := hp
    subst f2_
    refine g_st (st2 := [.ref (ad (13 + 4 * k))]) rfl ?_
    have hcs := hCS k (hk)
    have hcq := hcs.1
    refine g_cast (ci := 4) (nm := "CaseLists$Case") X q_240 rfl X.2.2.2.2.2.2.2.2.1.1 hcq d_CL_nextTurn_35 ?_
    refine g_iload_n X d_CL_nextTurn_38 4 rfl ?_
    refine g_aload_n X d_CL_nextTurn_39 2 rfl ?_
    refine g_get (ci := 3) (C := R_CL) (T := F_CL) (N := 7) (v := .int (nI L)) X i_CL rfl hO0 0 (by decide) q_103 (fun _ h9 => h9) rfl d_CL_nextTurn_40 ?_
    refine g_iload_n X d_CL_nextTurn_43 0 rfl ?_
    refine g_eqi (y := nI (mxt (nbh td ts k dd tn))) (by rw [show mxt (nbh td ts k dd tn) = min 105001 (nbh td ts k dd tn - 1) from if_neg hx0]) ?_
    refine g_callV (ci := 4) (As := [.int (nI dd), .int (nI L), .int (nI (mxt (nbh td ts k dd tn)))]) (rest := []) X (z_ok eA eM) rfl rfl hcq (c_CS_nextTurn hcs (hCB k) (dd := dd) (L := L) (M := mxt (nbh td ts k dd tn)) hdd hL5 (Nat.lt_of_le_of_lt (mxt_lt _) (by decide))) v_CS_nextTurn q_579 q_580 q_578 rfl rfl (Nat.le_of_ble_eq_true rfl) d_CL_nextTurn_44 ⟨(Nat.le_of_ble_eq_true rfl), (Nat.le_of_ble_eq_true rfl)⟩ ⟨(Nat.le_of_ble_eq_true rfl), (Nat.le_of_ble_eq_true rfl)⟩ (g_K.no (fun _ h => h)) (fun r_ f2_ hp => ?_)
    obtain ⟨rfl, hf_⟩ := hp
    subst f2_
    refine g_st (st2 := [.int (nI (nxt L dy ct td ts tn k dd))]) rfl ?_
    exact g_iret X rfl (⟨rfl, rfl⟩) (Nat.le_of_ble_eq_true rfl) (Nat.le_of_ble_eq_true rfl) d_CL_nextTurn_47
