/-- an int that is a number below n; between two numbers -/
def inR (x : Int32) (n : Nat) : Prop := ∃ j, j < n ∧ x = nI j
theorem inR_iff {x : Int32} {n : Nat} (hn : n < 2 ^ 30) : (¬ x < 0 ∧ x ≤ nI n - 1) ↔ inR x n := by
  constructor
  · intro h
    obtain ⟨j, hj, rfl⟩ := nI_of h.1
    refine ⟨j, ?_, rfl⟩
    have h2 := h.2
    rw [Int32.le_iff_toInt_le, nI_toInt hj, show nI n - 1 = fI n from rfl, fI_toInt hn] at h2
    omega
  · rintro ⟨j, hj, rfl⟩
    refine ⟨nI_pos (by omega), ?_⟩
    rw [Int32.le_iff_toInt_le, nI_toInt (by omega), show nI n - 1 = fI n from rfl, fI_toInt hn]
    omega
theorem inD_iff {x : Int32} : (¬ x < 0 ∧ x ≤ 100000) ↔ inR x 100001 := inR_iff (n := 100001) (by decide)
def inW (x : Int32) (lo hi : Nat) : Prop := ∃ j, lo ≤ j ∧ j ≤ hi ∧ x = nI j
theorem inW_iff {x : Int32} {lo hi : Nat} (hl : lo < 2 ^ 31) (hh : hi < 2 ^ 31) : (¬ x < nI lo ∧ x ≤ nI hi) ↔ inW x lo hi := by
  constructor
  · intro h
    have h0 : ¬ x < 0 := fun z => h.1 (by
      rw [Int32.lt_iff_toInt_lt] at z ⊢
      rw [nI_toInt hl]
      rw [Int32.toInt_zero] at z
      omega)
    obtain ⟨j, hj, rfl⟩ := nI_of h0
    exact ⟨j, Nat.le_of_not_lt (fun z => h.1 ((nI_ltI hj hl).mpr z)), (nI_leI hj hh).mp h.2, rfl⟩
  · rintro ⟨j, h1, h2, rfl⟩
    exact ⟨fun z => absurd ((nI_ltI (by omega) hl).mp z) (by omega), (nI_leI (by omega) hh).mpr h2⟩
theorem inN_iff {x : Int32} : (¬ x < 0 ∧ x ≤ 2147483647) ↔ ¬ x < 0 := ⟨fun h => h.1, fun h => ⟨h, by
  rw [Int32.le_iff_toInt_le, show (2147483647 : Int32).toInt = 2147483647 by decide]
  have := x.toInt_lt
  omega⟩⟩
/-- the l-th of the cases from i on with a property -/
def nthc (p : Nat → Bool) : Nat → Nat → Nat → Int32
  | 0, _, _ => -1
  | d + 1, i, l => if p i then (if l = 0 then nI i else nthc p d (i + 1) (l - 1)) else nthc p d (i + 1) l
theorem nthc_s (p : Nat → Bool) (d i l : Nat) : nthc p (d + 1) i l = if p i then (if l = 0 then nI i else nthc p d (i + 1) (l - 1)) else nthc p d (i + 1) l := rfl
/-- the first turn from a day on that isn't proved -/
def prv (st nx : Nat → Nat) : Nat → Nat → Nat
  | 0, a => a
  | d + 1, a => if st a = 3 then prv st nx d (nx a) else a
theorem prv_s (st nx : Nat → Nat) (d a : Nat) : prv st nx (d + 1) a = if st a = 3 then prv st nx d (nx a) else a := rfl
set_option maxHeartbeats 4000000 in
set_option maxRecDepth 100000 in
theorem c_CL_seconds {l : Launch} {D : va_G} {cI cZ cO cJ : ClassId} {eA eM : Nat} {f : g_F} {ad : Nat → Nat} {L nc : Nat} {pt ot : Nat → Int32} {per dy : Nat → Nat → Nat} {gd : Nat → Nat → Bool} {ct : Nat → Nat} {td ts : Nat → Nat} {tn : Nat} {P Du S Wy Re : Nat → Nat} {n : Nat} {O : Nat → Nat} {pl ps cap : Nat} {mc : Int32} (hR : cl_R cI cZ cO f ad L nc pt ot per dy gd ct td ts tn P Du S Wy Re n O pl ps cap mc) (hB : cl_B L nc per dy ct td ts tn P Du S Wy Re n O pl ps) : g_C l y_CL_seconds b_CL_seconds 1 (some .int) { frames := 0, cells := 0, slots := 0, locals := 0 } D g_cl (g_tys cI cZ cO cJ) (z_Z eA eM) [.ref (ad 0)] f (fun r f2 => r = some (.int (nI ps)) ∧ f2 = f) (fun _ => False) := by
  refine g_ofW [(0, .ref (ad 0))] (by decide +kernel) (Nat.le_of_ble_eq_true rfl) rfl ?_
  intro p e s m args below meth c X ht hin
  obtain ⟨hO0, hAL, hTL, hTU, hPL, hCS⟩ := id hR
  obtain ⟨⟨hL1, hL5⟩, hnc, hCB, hTB, hUB, hRe, hpl8, hO8, hps⟩ := id hB
  obtain ⟨hQ, hn, hcap, hE⟩ := id hAL
  have hG := hTL.1
  have hT := hTU.1
  refine g_aload_n X d_CL_seconds_0 0 rfl ?_
  refine g_get (ci := 3) (C := R_CL) (T := F_CL) (N := 7) (v := .int (nI ps)) X i_CL rfl hO0 6 (by decide) q_109 (fun _ h9 => h9) rfl d_CL_seconds_1 ?_
  exact g_iret X rfl (⟨rfl, rfl⟩) (Nat.le_of_ble_eq_true rfl) (Nat.le_of_ble_eq_true rfl) d_CL_seconds_4
set_option maxHeartbeats 4000000 in
set_option maxRecDepth 100000 in
theorem c_CL_planned {l : Launch} {D : va_G} {cI cZ cO cJ : ClassId} {eA eM : Nat} (hl : l.stackTraces = false) {f : g_F} {ad : Nat → Nat} {L nc : Nat} {pt ot : Nat → Int32} {per dy : Nat → Nat → Nat} {gd : Nat → Nat → Bool} {ct : Nat → Nat} {td ts : Nat → Nat} {tn : Nat} {P Du S Wy Re : Nat → Nat} {n : Nat} {O : Nat → Nat} {pl ps cap : Nat} {mc : Int32} (hR : cl_R cI cZ cO f ad L nc pt ot per dy gd ct td ts tn P Du S Wy Re n O pl ps cap mc) (hB : cl_B L nc per dy ct td ts tn P Du S Wy Re n O pl ps) {x : Int32} : g_C l y_CL_planned b_CL_planned 2 (some .int) { frames := 8, cells := 1, slots := 6, locals := 125 } D g_cl (g_tys cI cZ cO cJ) (z_Z eA eM) [.ref (ad 0), .int x] f (fun r f2 => (∃ k, k < pl ∧ x = nI k ∧ r = some (.int (nI (O k)))) ∧ f2 = f) (fun E => E = "java/lang/IllegalArgumentException" ∧ ¬ (inR x pl)) := by
  refine g_ofW [(0, .ref (ad 0)), (1, .int x)] (by decide +kernel) (Nat.le_of_ble_eq_true rfl) rfl ?_
  intro p e s m args below meth c X ht hin
  obtain ⟨hO0, hAL, hTL, hTU, hPL, hCS⟩ := id hR
  obtain ⟨⟨hL1, hL5⟩, hnc, hCB, hTB, hUB, hRe, hpl8, hO8, hps⟩ := id hB
  obtain ⟨hQ, hn, hcap, hE⟩ := id hAL
  have hG := hTL.1
  have hT := hTU.1
  refine g_iload_n X d_CL_planned_0 1 rfl ?_
  refine g_aload_n X d_CL_planned_1 0 rfl ?_
  refine g_get (ci := 3) (C := R_CL) (T := F_CL) (N := 7) (v := .int (nI pl)) X i_CL rfl hO0 5 (by decide) q_108 (fun _ h9 => h9) rfl d_CL_planned_2 ?_
  refine g_callS (As := [.int x, .int (nI pl)]) (rest := []) X (z_ok eA eM) (c_CL_needBelow hl (f := f) (x := x) (b := nI (pl))) v_CL_needBelow q_142 q_141 rfl rfl (Nat.le_of_ble_eq_true rfl) d_CL_planned_5 ⟨(Nat.le_of_ble_eq_true rfl), (Nat.le_of_ble_eq_true rfl)⟩ ⟨(Nat.le_of_ble_eq_true rfl), (Nat.le_of_ble_eq_true rfl)⟩ (g_K.out X ht (fun E_ h_ => ⟨h_.1, fun z => h_.2.elim ((inR_iff (n := pl) (by omega)).mpr z).1 (fun v_ => v_ ((inR_iff (n := pl) (by omega)).mpr z).2)⟩) (Nat.le_of_ble_eq_true rfl) (Nat.le_of_ble_eq_true rfl)) (fun r_ f2_ hp => ?_)
  obtain ⟨⟨rfl, hf_⟩, hw_⟩ := hp
  refine g_st (st2 := []) rfl ?_
  have hf_ := hf_.symm
  subst hf_
  obtain ⟨k, hk, rfl⟩ := (inR_iff (n := pl) (by omega)).mp hw_
  refine g_aload_n X d_CL_planned_8 0 rfl ?_
  refine g_get (ci := 3) (C := R_CL) (T := F_CL) (N := 7) (v := .ref (ad 12)) X i_CL rfl hO0 4 (by decide) q_107 (fun _ h9 => h9) rfl d_CL_planned_9 ?_
  refine g_iload_n X d_CL_planned_12 1 rfl ?_
  refine g_iald (t0 := 0) (v := nI (O k)) X hPL rfl (nI_ix ((by omega : k < 8)) (by decide)) (nI_cl (g := fun q9 => nI (O q9)) (Nat.lt_trans ((by omega : k < 8)) (by decide))) d_CL_planned_13 ?_
  exact g_iret X rfl (⟨⟨k, hk, rfl, rfl⟩, rfl⟩) (Nat.le_of_ble_eq_true rfl) (Nat.le_of_ble_eq_true rfl) d_CL_planned_14
set_option maxHeartbeats 4000000 in
set_option maxRecDepth 100000 in
theorem c_CL_state {l : Launch} {D : va_G} {cI cZ cO cJ : ClassId} {eA eM : Nat} (hl : l.stackTraces = false) {f : g_F} {ad : Nat → Nat} {L nc : Nat} {pt ot : Nat → Int32} {per dy : Nat → Nat → Nat} {gd : Nat → Nat → Bool} {ct : Nat → Nat} {td ts : Nat → Nat} {tn : Nat} {P Du S Wy Re : Nat → Nat} {n : Nat} {O : Nat → Nat} {pl ps cap : Nat} {mc : Int32} (hR : cl_R cI cZ cO f ad L nc pt ot per dy gd ct td ts tn P Du S Wy Re n O pl ps cap mc) (hB : cl_B L nc per dy ct td ts tn P Du S Wy Re n O pl ps) {x y : Int32} : g_C l y_CL_state b_CL_state 3 (some .int) { frames := 8, cells := 2, slots := 12, locals := 125 } D g_cl (g_tys cI cZ cO cJ) (z_Z eA eM) [.ref (ad 0), .int x, .int y] f (fun r f2 => (∃ k dd, k < nc ∧ dd < 100001 ∧ x = nI k ∧ y = nI dd ∧ r = some (.int (nI (sta L per dy gd ct td ts tn k dd)))) ∧ f2 = f) (fun E => E = "java/lang/IllegalArgumentException" ∧ ¬ (inR x nc ∧ inR y 100001)) := by
  refine g_ofW [(0, .ref (ad 0)), (1, .int x), (2, .int y)] (by decide +kernel) (Nat.le_of_ble_eq_true rfl) rfl ?_
  intro p e s m args below meth c X ht hin
  obtain ⟨hO0, hAL, hTL, hTU, hPL, hCS⟩ := id hR
  obtain ⟨⟨hL1, hL5⟩, hnc, hCB, hTB, hUB, hRe, hpl8, hO8, hps⟩ := id hB
  obtain ⟨hQ, hn, hcap, hE⟩ := id hAL
  have hG := hTL.1
  have hT := hTU.1
  refine g_iload_n X d_CL_state_0 1 rfl ?_
  refine g_aload_n X d_CL_state_1 0 rfl ?_
  refine g_get (ci := 3) (C := R_CL) (T := F_CL) (N := 7) (v := .ref (ad 1)) X i_CL rfl hO0 1 (by decide) q_104 (fun _ h9 => h9) rfl d_CL_state_2 ?_
  refine g_callV (ci := 0) (As := []) (rest := [.int x]) X (z_ok eA eM) rfl rfl hQ (c_AL_size hAL) v_AL_size q_223 q_224 q_222 rfl rfl (Nat.le_of_ble_eq_true rfl) d_CL_state_5 ⟨(Nat.le_of_ble_eq_true rfl), (Nat.le_of_ble_eq_true rfl)⟩ ⟨(Nat.le_of_ble_eq_true rfl), (Nat.le_of_ble_eq_true rfl)⟩ (g_K.no (fun _ h => h)) (fun r_ f2_ hp => ?_)
  obtain ⟨rfl, hf_⟩ := hp
  subst f2_
  refine g_st (st2 := [.int (nI nc), .int x]) rfl ?_
  refine g_callS (As := [.int x, .int (nI nc)]) (rest := []) X (z_ok eA eM) (c_CL_needBelow hl (f := f) (x := x) (b := nI (nc))) v_CL_needBelow q_142 q_141 rfl rfl (Nat.le_of_ble_eq_true rfl) d_CL_state_8 ⟨(Nat.le_of_ble_eq_true rfl), (Nat.le_of_ble_eq_true rfl)⟩ ⟨(Nat.le_of_ble_eq_true rfl), (Nat.le_of_ble_eq_true rfl)⟩ (g_K.out X ht (fun E_ h_ => ⟨h_.1, fun z => h_.2.elim ((inR_iff (n := nc) (by omega)).mpr z.1).1 (fun v_ => v_ ((inR_iff (n := nc) (by omega)).mpr z.1).2)⟩) (Nat.le_of_ble_eq_true rfl) (Nat.le_of_ble_eq_true rfl)) (fun r_ f2_ hp => ?_)
  obtain ⟨⟨rfl, hf_⟩, hw_⟩ := hp
  refine g_st (st2 := []) rfl ?_
  have hf_ := hf_.symm
  subst hf_
  obtain ⟨k, hk, rfl⟩ := (inR_iff (n := nc) (by omega)).mp hw_
  refine g_iload_n X d_CL_state_11 2 rfl ?_
  refine g_callS (As := [.int y]) (rest := []) X (z_ok eA eM) (c_CL_needDay hl (f := f) (x := y)) v_CL_needDay q_388 q_387 rfl rfl (Nat.le_of_ble_eq_true rfl) d_CL_state_12 ⟨(Nat.le_of_ble_eq_true rfl), (Nat.le_of_ble_eq_true rfl)⟩ ⟨(Nat.le_of_ble_eq_true rfl), (Nat.le_of_ble_eq_true rfl)⟩ (g_K.out X ht (fun E_ h_ => ⟨h_.1, fun z => h_.2.elim (inD_iff.mpr z.2).1 (fun v_ => v_ (inD_iff.mpr z.2).2)⟩) (Nat.le_of_ble_eq_true rfl) (Nat.le_of_ble_eq_true rfl)) (fun r_ f2_ hp => ?_)
  obtain ⟨⟨rfl, hf_⟩, hw_⟩ := hp
  refine g_st (st2 := []) rfl ?_
  have hf_ := hf_.symm
  subst hf_
  obtain ⟨dd, hd, rfl⟩ := inD_iff.mp hw_
  refine g_aload_n X d_CL_state_15 0 rfl ?_
  refine g_iload_n X d_CL_state_16 1 rfl ?_
  refine g_iload_n X d_CL_state_17 2 rfl ?_
  refine g_callV (ci := 3) (As := [.int (nI k), .int (nI dd)]) (rest := []) X (z_ok eA eM) rfl rfl hO0 (c_CL_stateOn hR hB (k := k) (dd := dd) hk (by omega)) v_CL_stateOn q_442 q_s7 q_440 rfl rfl (Nat.le_of_ble_eq_true rfl) d_CL_state_18 ⟨(Nat.le_of_ble_eq_true rfl), (Nat.le_of_ble_eq_true rfl)⟩ ⟨(Nat.le_of_ble_eq_true rfl), (Nat.le_of_ble_eq_true rfl)⟩ (g_K.no (fun _ h => h)) (fun r_ f2_ hp => ?_)
  obtain ⟨rfl, hf_⟩ := hp
  subst f2_
  refine g_st (st2 := [.int (nI (sta L per dy gd ct td ts tn k dd))]) rfl ?_
  exact g_iret X rfl (⟨⟨k, dd, hk, hd, rfl, rfl, rfl⟩, rfl⟩) (Nat.le_of_ble_eq_true rfl) (Nat.le_of_ble_eq_true rfl) d_CL_state_21
set_option maxHeartbeats 4000000 in
set_option maxRecDepth 100000 in
theorem c_CL_touched {l : Launch} {D : va_G} {cI cZ cO cJ : ClassId} {eA eM : Nat} (hl : l.stackTraces = false) {f : g_F} {ad : Nat → Nat} {L nc : Nat} {pt ot : Nat → Int32} {per dy : Nat → Nat → Nat} {gd : Nat → Nat → Bool} {ct : Nat → Nat} {td ts : Nat → Nat} {tn : Nat} {P Du S Wy Re : Nat → Nat} {n : Nat} {O : Nat → Nat} {pl ps cap : Nat} {mc : Int32} (hR : cl_R cI cZ cO f ad L nc pt ot per dy gd ct td ts tn P Du S Wy Re n O pl ps cap mc) (hB : cl_B L nc per dy ct td ts tn P Du S Wy Re n O pl ps) {x y : Int32} : g_C l y_CL_touched b_CL_touched 3 (some .int) { frames := 8, cells := 2, slots := 12, locals := 125 } D g_cl (g_tys cI cZ cO cJ) (z_Z eA eM) [.ref (ad 0), .int x, .int y] f (fun r f2 => (∃ k dd, k < nc ∧ dd < 100001 ∧ x = nI k ∧ y = nI dd ∧ r = some (.int (fI (ltst td ts k dd tn)))) ∧ f2 = f) (fun E => E = "java/lang/IllegalArgumentException" ∧ ¬ (inR x nc ∧ inR y 100001)) := by
  refine g_ofW [(0, .ref (ad 0)), (1, .int x), (2, .int y)] (by decide +kernel) (Nat.le_of_ble_eq_true rfl) rfl ?_
  intro p e s m args below meth c X ht hin
  obtain ⟨hO0, hAL, hTL, hTU, hPL, hCS⟩ := id hR
  obtain ⟨⟨hL1, hL5⟩, hnc, hCB, hTB, hUB, hRe, hpl8, hO8, hps⟩ := id hB
  obtain ⟨hQ, hn, hcap, hE⟩ := id hAL
  have hG := hTL.1
  have hT := hTU.1
  refine g_iload_n X d_CL_touched_0 1 rfl ?_
  refine g_aload_n X d_CL_touched_1 0 rfl ?_
  refine g_get (ci := 3) (C := R_CL) (T := F_CL) (N := 7) (v := .ref (ad 1)) X i_CL rfl hO0 1 (by decide) q_104 (fun _ h9 => h9) rfl d_CL_touched_2 ?_
  refine g_callV (ci := 0) (As := []) (rest := [.int x]) X (z_ok eA eM) rfl rfl hQ (c_AL_size hAL) v_AL_size q_223 q_224 q_222 rfl rfl (Nat.le_of_ble_eq_true rfl) d_CL_touched_5 ⟨(Nat.le_of_ble_eq_true rfl), (Nat.le_of_ble_eq_true rfl)⟩ ⟨(Nat.le_of_ble_eq_true rfl), (Nat.le_of_ble_eq_true rfl)⟩ (g_K.no (fun _ h => h)) (fun r_ f2_ hp => ?_)
  obtain ⟨rfl, hf_⟩ := hp
  subst f2_
  refine g_st (st2 := [.int (nI nc), .int x]) rfl ?_
  refine g_callS (As := [.int x, .int (nI nc)]) (rest := []) X (z_ok eA eM) (c_CL_needBelow hl (f := f) (x := x) (b := nI (nc))) v_CL_needBelow q_142 q_141 rfl rfl (Nat.le_of_ble_eq_true rfl) d_CL_touched_8 ⟨(Nat.le_of_ble_eq_true rfl), (Nat.le_of_ble_eq_true rfl)⟩ ⟨(Nat.le_of_ble_eq_true rfl), (Nat.le_of_ble_eq_true rfl)⟩ (g_K.out X ht (fun E_ h_ => ⟨h_.1, fun z => h_.2.elim ((inR_iff (n := nc) (by omega)).mpr z.1).1 (fun v_ => v_ ((inR_iff (n := nc) (by omega)).mpr z.1).2)⟩) (Nat.le_of_ble_eq_true rfl) (Nat.le_of_ble_eq_true rfl)) (fun r_ f2_ hp => ?_)
  obtain ⟨⟨rfl, hf_⟩, hw_⟩ := hp
  refine g_st (st2 := []) rfl ?_
  have hf_ := hf_.symm
  subst hf_
  obtain ⟨k, hk, rfl⟩ := (inR_iff (n := nc) (by omega)).mp hw_
  refine g_iload_n X d_CL_touched_11 2 rfl ?_
  refine g_callS (As := [.int y]) (rest := []) X (z_ok eA eM) (c_CL_needDay hl (f := f) (x := y)) v_CL_needDay q_388 q_387 rfl rfl (Nat.le_of_ble_eq_true rfl) d_CL_touched_12 ⟨(Nat.le_of_ble_eq_true rfl), (Nat.le_of_ble_eq_true rfl)⟩ ⟨(Nat.le_of_ble_eq_true rfl), (Nat.le_of_ble_eq_true rfl)⟩ (g_K.out X ht (fun E_ h_ => ⟨h_.1, fun z => h_.2.elim (inD_iff.mpr z.2).1 (fun v_ => v_ (inD_iff.mpr z.2).2)⟩) (Nat.le_of_ble_eq_true rfl) (Nat.le_of_ble_eq_true rfl)) (fun r_ f2_ hp => ?_)
  obtain ⟨⟨rfl, hf_⟩, hw_⟩ := hp
  refine g_st (st2 := []) rfl ?_
  have hf_ := hf_.symm
  subst hf_
  obtain ⟨dd, hd, rfl⟩ := inD_iff.mp hw_
  refine g_aload_n X d_CL_touched_15 0 rfl ?_
  refine g_get (ci := 3) (C := R_CL) (T := F_CL) (N := 7) (v := .ref (ad 3)) X i_CL rfl hO0 2 (by decide) q_105 (fun _ h9 => h9) rfl d_CL_touched_16 ?_
  refine g_iload_n X d_CL_touched_19 1 rfl ?_
  refine g_iload_n X d_CL_touched_20 2 rfl ?_
  refine g_callV (ci := 1) (As := [.int (nI k), .int (nI dd)]) (rest := []) X (z_ok eA eM) rfl rfl hG (c_TL_latest hTL hTB (k := k) (dd := dd) (by omega) (by omega)) v_TL_latest q_449 q_450 q_448 rfl rfl (Nat.le_of_ble_eq_true rfl) d_CL_touched_21 ⟨(Nat.le_of_ble_eq_true rfl), (Nat.le_of_ble_eq_true rfl)⟩ ⟨(Nat.le_of_ble_eq_true rfl), (Nat.le_of_ble_eq_true rfl)⟩ (g_K.no (fun _ h => h)) (fun r_ f2_ hp => ?_)
  obtain ⟨rfl, hf_⟩ := hp
  subst f2_
  refine g_st (st2 := [.int (fI (ltst td ts k dd tn))]) rfl ?_
  exact g_iret X rfl (⟨⟨k, dd, hk, hd, rfl, rfl, rfl⟩, rfl⟩) (Nat.le_of_ble_eq_true rfl) (Nat.le_of_ble_eq_true rfl) d_CL_touched_24
set_option maxHeartbeats 4000000 in
set_option maxRecDepth 100000 in
theorem c_CL_word {l : Launch} {D : va_G} {cI cZ cO cJ : ClassId} {eA eM : Nat} (hl : l.stackTraces = false) {f : g_F} {ad : Nat → Nat} {L nc : Nat} {pt ot : Nat → Int32} {per dy : Nat → Nat → Nat} {gd : Nat → Nat → Bool} {ct : Nat → Nat} {td ts : Nat → Nat} {tn : Nat} {P Du S Wy Re : Nat → Nat} {n : Nat} {O : Nat → Nat} {pl ps cap : Nat} {mc : Int32} (hR : cl_R cI cZ cO f ad L nc pt ot per dy gd ct td ts tn P Du S Wy Re n O pl ps cap mc) (hB : cl_B L nc per dy ct td ts tn P Du S Wy Re n O pl ps) {x y w : Int32} : g_C l y_CL_word b_CL_word 4 (some .int) { frames := 8, cells := 3, slots := 18, locals := 125 } D g_cl (g_tys cI cZ cO cJ) (z_Z eA eM) [.ref (ad 0), .int x, .int y, .int w] f (fun r f2 => (∃ k pe dd, k < nc ∧ pe < 10 ∧ dd < 100001 ∧ x = nI k ∧ y = nI pe ∧ w = nI dd ∧ r = some (.int (wrd L per dy gd ct td ts tn k dd pe))) ∧ f2 = f) (fun E => E = "java/lang/IllegalArgumentException" ∧ ¬ (inR x nc ∧ inR y 10 ∧ inR w 100001)) := by
  refine g_ofW [(0, .ref (ad 0)), (1, .int x), (2, .int y), (3, .int w)] (by decide +kernel) (Nat.le_of_ble_eq_true rfl) rfl ?_
  intro p e s m args below meth c X ht hin
  obtain ⟨hO0, hAL, hTL, hTU, hPL, hCS⟩ := id hR
  obtain ⟨⟨hL1, hL5⟩, hnc, hCB, hTB, hUB, hRe, hpl8, hO8, hps⟩ := id hB
  obtain ⟨hQ, hn, hcap, hE⟩ := id hAL
  have hG := hTL.1
  have hT := hTU.1
  refine g_iload_n X d_CL_word_0 1 rfl ?_
  refine g_aload_n X d_CL_word_1 0 rfl ?_
  refine g_get (ci := 3) (C := R_CL) (T := F_CL) (N := 7) (v := .ref (ad 1)) X i_CL rfl hO0 1 (by decide) q_104 (fun _ h9 => h9) rfl d_CL_word_2 ?_
  refine g_callV (ci := 0) (As := []) (rest := [.int x]) X (z_ok eA eM) rfl rfl hQ (c_AL_size hAL) v_AL_size q_223 q_224 q_222 rfl rfl (Nat.le_of_ble_eq_true rfl) d_CL_word_5 ⟨(Nat.le_of_ble_eq_true rfl), (Nat.le_of_ble_eq_true rfl)⟩ ⟨(Nat.le_of_ble_eq_true rfl), (Nat.le_of_ble_eq_true rfl)⟩ (g_K.no (fun _ h => h)) (fun r_ f2_ hp => ?_)
  obtain ⟨rfl, hf_⟩ := hp
  subst f2_
  refine g_st (st2 := [.int (nI nc), .int x]) rfl ?_
  refine g_callS (As := [.int x, .int (nI nc)]) (rest := []) X (z_ok eA eM) (c_CL_needBelow hl (f := f) (x := x) (b := nI (nc))) v_CL_needBelow q_142 q_141 rfl rfl (Nat.le_of_ble_eq_true rfl) d_CL_word_8 ⟨(Nat.le_of_ble_eq_true rfl), (Nat.le_of_ble_eq_true rfl)⟩ ⟨(Nat.le_of_ble_eq_true rfl), (Nat.le_of_ble_eq_true rfl)⟩ (g_K.out X ht (fun E_ h_ => ⟨h_.1, fun z => h_.2.elim ((inR_iff (n := nc) (by omega)).mpr z.1).1 (fun v_ => v_ ((inR_iff (n := nc) (by omega)).mpr z.1).2)⟩) (Nat.le_of_ble_eq_true rfl) (Nat.le_of_ble_eq_true rfl)) (fun r_ f2_ hp => ?_)
  obtain ⟨⟨rfl, hf_⟩, hw_⟩ := hp
  refine g_st (st2 := []) rfl ?_
  have hf_ := hf_.symm
  subst hf_
  obtain ⟨k, hk, rfl⟩ := (inR_iff (n := nc) (by omega)).mp hw_
  refine g_iload_n X d_CL_word_11 2 rfl ?_
  refine g_bipush (v := 10) X d_CL_word_12 (by decide) ?_
  refine g_callS (As := [.int y, .int 10]) (rest := []) X (z_ok eA eM) (c_CL_needBelow hl (f := f) (x := y) (b := 10)) v_CL_needBelow q_142 q_141 rfl rfl (Nat.le_of_ble_eq_true rfl) d_CL_word_14 ⟨(Nat.le_of_ble_eq_true rfl), (Nat.le_of_ble_eq_true rfl)⟩ ⟨(Nat.le_of_ble_eq_true rfl), (Nat.le_of_ble_eq_true rfl)⟩ (g_K.out X ht (fun E_ h_ => ⟨h_.1, fun z => h_.2.elim ((inR_iff (n := 10) (by decide)).mpr z.2.1).1 (fun v_ => v_ ((inR_iff (n := 10) (by decide)).mpr z.2.1).2)⟩) (Nat.le_of_ble_eq_true rfl) (Nat.le_of_ble_eq_true rfl)) (fun r_ f2_ hp => ?_)
  obtain ⟨⟨rfl, hf_⟩, hw_⟩ := hp
  refine g_st (st2 := []) rfl ?_
  have hf_ := hf_.symm
  subst hf_
  obtain ⟨pe, hpe, rfl⟩ := (inR_iff (n := 10) (by decide)).mp hw_
  refine g_iload_n X d_CL_word_17 3 rfl ?_
  refine g_callS (As := [.int w]) (rest := []) X (z_ok eA eM) (c_CL_needDay hl (f := f) (x := w)) v_CL_needDay q_388 q_387 rfl rfl (Nat.le_of_ble_eq_true rfl) d_CL_word_18 ⟨(Nat.le_of_ble_eq_true rfl), (Nat.le_of_ble_eq_true rfl)⟩ ⟨(Nat.le_of_ble_eq_true rfl), (Nat.le_of_ble_eq_true rfl)⟩ (g_K.out X ht (fun E_ h_ => ⟨h_.1, fun z => h_.2.elim (inD_iff.mpr z.2.2).1 (fun v_ => v_ (inD_iff.mpr z.2.2).2)⟩) (Nat.le_of_ble_eq_true rfl) (Nat.le_of_ble_eq_true rfl)) (fun r_ f2_ hp => ?_)
  obtain ⟨⟨rfl, hf_⟩, hw_⟩ := hp
  refine g_st (st2 := []) rfl ?_
  have hf_ := hf_.symm
  subst hf_
  obtain ⟨dd, hd, rfl⟩ := inD_iff.mp hw_
  refine g_aload_n X d_CL_word_21 0 rfl ?_
  refine g_get (ci := 3) (C := R_CL) (T := F_CL) (N := 7) (v := .ref (ad 1)) X i_CL rfl hO0 1 (by decide) q_104 (fun _ h9 => h9) rfl d_CL_word_22 ?_
  refine g_iload_n X d_CL_word_25 1 rfl ?_
  refine g_callV (ci := 0) (As := [.int (nI k)]) (rest := []) X (z_ok eA eM) rfl rfl hQ (c_AL_get hAL (i := k) (hk)) v_AL_get q_227 q_228 q_226 rfl rfl (Nat.le_of_ble_eq_true rfl) d_CL_word_26 ⟨(Nat.le_of_ble_eq_true rfl), (Nat.le_of_ble_eq_true rfl)⟩ ⟨(Nat.le_of_ble_eq_true rfl), (Nat.le_of_ble_eq_true rfl)⟩ (g_K.no (fun _ h => h)) (fun r_ f2_ hp => ?_)
  obtain ⟨rfl, hf_⟩ := hp
  subst f2_
  refine g_st (st2 := [.ref (ad (13 + 4 * k))]) rfl ?_
  have hcs := hCS k (hk)
  have hcq := hcs.1
  refine g_cast (ci := 4) (nm := "CaseLists$Case") X q_240 rfl X.2.2.2.2.2.2.2.2.1.1 hcq d_CL_word_29 ?_
  refine g_iload_n X d_CL_word_32 2 rfl ?_
  refine g_aload_n X d_CL_word_33 0 rfl ?_
  refine g_iload_n X d_CL_word_34 1 rfl ?_
  refine g_iload_n X d_CL_word_35 3 rfl ?_
  refine g_callV (ci := 3) (As := [.int (nI k), .int (nI dd)]) (rest := [.int (nI pe), .ref (ad (13 + 4 * k))]) X (z_ok eA eM) rfl rfl hO0 (c_CL_firstCountingDay hR hB (k := k) (dd := dd) hk (by omega)) v_CL_firstCountingDay q_446 q_s8 q_444 rfl rfl (Nat.le_of_ble_eq_true rfl) d_CL_word_36 ⟨(Nat.le_of_ble_eq_true rfl), (Nat.le_of_ble_eq_true rfl)⟩ ⟨(Nat.le_of_ble_eq_true rfl), (Nat.le_of_ble_eq_true rfl)⟩ (g_K.no (fun _ h => h)) (fun r_ f2_ hp => ?_)
  obtain ⟨rfl, hf_⟩ := hp
  subst f2_
  refine g_st (st2 := [.int (fcd dd L (ltst td ts k dd tn)), .int (nI pe), .ref (ad (13 + 4 * k))]) rfl ?_
  refine g_iload_n X d_CL_word_39 3 rfl ?_
  refine g_callV (ci := 4) (As := [.int (nI pe), .int (fcd dd L (ltst td ts k dd tn)), .int (nI dd)]) (rest := []) X (z_ok eA eM) rfl rfl hcq (c_CS_wordOf hcs (hCB k) (pe := pe) (dd := dd) (fs := fcd dd L (ltst td ts k dd tn)) hpe (by omega)) v_CS_wordOf q_454 q_455 q_453 rfl rfl (Nat.le_of_ble_eq_true rfl) d_CL_word_40 ⟨(Nat.le_of_ble_eq_true rfl), (Nat.le_of_ble_eq_true rfl)⟩ ⟨(Nat.le_of_ble_eq_true rfl), (Nat.le_of_ble_eq_true rfl)⟩ (g_K.no (fun _ h => h)) (fun r_ f2_ hp => ?_)
  obtain ⟨rfl, hf_⟩ := hp
  subst f2_
  refine g_st (st2 := [.int (wrd L per dy gd ct td ts tn k dd pe)]) rfl ?_
  exact g_iret X rfl (⟨⟨k, pe, dd, hk, hpe, hd, rfl, rfl, rfl, rfl⟩, rfl⟩) (Nat.le_of_ble_eq_true rfl) (Nat.le_of_ble_eq_true rfl) d_CL_word_43
set_option maxHeartbeats 4000000 in
set_option maxRecDepth 100000 in
theorem c_CL_from {l : Launch} {D : va_G} {cI cZ cO cJ : ClassId} {eA eM : Nat} (hl : l.stackTraces = false) {f : g_F} {ad : Nat → Nat} {L nc : Nat} {pt ot : Nat → Int32} {per dy : Nat → Nat → Nat} {gd : Nat → Nat → Bool} {ct : Nat → Nat} {td ts : Nat → Nat} {tn : Nat} {P Du S Wy Re : Nat → Nat} {n : Nat} {O : Nat → Nat} {pl ps cap : Nat} {mc : Int32} (hR : cl_R cI cZ cO f ad L nc pt ot per dy gd ct td ts tn P Du S Wy Re n O pl ps cap mc) (hB : cl_B L nc per dy ct td ts tn P Du S Wy Re n O pl ps) (hIn : ∀ i j, i < 13 + 4 * nc → j < 13 + 4 * nc → ad i = ad j → i = j) {x : Int32} : g_C l y_CL_from b_CL_from 2 (some .int) { frames := 8, cells := 1, slots := 6, locals := 125 } D g_cl (g_tys cI cZ cO cJ) (z_Z eA eM) [.ref (ad 0), .int x] f (fun r f2 => ∃ k, k < n ∧ x = nI k ∧ ((S k = 0 ∧ r = some (.int (-1)) ∧ f2 = f) ∨ (S k ≠ 0 ∧ ∃ Re2 : Nat → Nat, bellA P Du S Wy n (orS S (2 ^ n - 1) n) Re2 0 ∧ r = some (.int (nI (wF Du Re2 k / 16))) ∧ f2 = tu_w cI f (fun i => ad (7 + i)) Re2))) (fun E => E = "java/lang/IllegalArgumentException" ∧ ¬ (inR x n)) := by
  refine g_ofW [(0, .ref (ad 0)), (1, .int x)] (by decide +kernel) (Nat.le_of_ble_eq_true rfl) rfl ?_
  intro p e s m args below meth c X ht hin
  obtain ⟨hO0, hAL, hTL, hTU, hPL, hCS⟩ := id hR
  obtain ⟨⟨hL1, hL5⟩, hnc, hCB, hTB, hUB, hRe, hpl8, hO8, hps⟩ := id hB
  obtain ⟨hQ, hn, hcap, hE⟩ := id hAL
  have hG := hTL.1
  have hT := hTU.1
  have hn8 := hUB.1
  have hI : ∀ i j, i < 5 → j < 5 → ad (7 + i) = ad (7 + j) → i = j := fun i j h1 h2 h3 => by have := hIn (7 + i) (7 + j) (by omega) (by omega) h3; omega
  refine g_iload_n X d_CL_from_0 1 rfl ?_
  refine g_aload_n X d_CL_from_1 0 rfl ?_
  refine g_get (ci := 3) (C := R_CL) (T := F_CL) (N := 7) (v := .ref (ad 6)) X i_CL rfl hO0 3 (by decide) q_106 (fun _ h9 => h9) rfl d_CL_from_2 ?_
  refine g_callV (ci := 2) (As := []) (rest := [.int x]) X (z_ok eA eM) rfl rfl hT (c_TU_actCount hTU hUB) v_TU_actCount q_348 q_349 q_347 rfl rfl (Nat.le_of_ble_eq_true rfl) d_CL_from_5 ⟨(Nat.le_of_ble_eq_true rfl), (Nat.le_of_ble_eq_true rfl)⟩ ⟨(Nat.le_of_ble_eq_true rfl), (Nat.le_of_ble_eq_true rfl)⟩ (g_K.no (fun _ h => h)) (fun r_ f2_ hp => ?_)
  obtain ⟨rfl, hf_⟩ := hp
  subst f2_
  refine g_st (st2 := [.int (nI n), .int x]) rfl ?_
  refine g_callS (As := [.int x, .int (nI n)]) (rest := []) X (z_ok eA eM) (c_CL_needBelow hl (f := f) (x := x) (b := nI (n))) v_CL_needBelow q_142 q_141 rfl rfl (Nat.le_of_ble_eq_true rfl) d_CL_from_8 ⟨(Nat.le_of_ble_eq_true rfl), (Nat.le_of_ble_eq_true rfl)⟩ ⟨(Nat.le_of_ble_eq_true rfl), (Nat.le_of_ble_eq_true rfl)⟩ (g_K.out X ht (fun E_ h_ => ⟨h_.1, fun z => h_.2.elim ((inR_iff (n := n) (by omega)).mpr z).1 (fun v_ => v_ ((inR_iff (n := n) (by omega)).mpr z).2)⟩) (Nat.le_of_ble_eq_true rfl) (Nat.le_of_ble_eq_true rfl)) (fun r_ f2_ hp => ?_)
  obtain ⟨⟨rfl, hf_⟩, hw_⟩ := hp
  refine g_st (st2 := []) rfl ?_
  have hf_ := hf_.symm
  subst hf_
  obtain ⟨k, hk, rfl⟩ := (inR_iff (n := n) (by omega)).mp hw_
  refine g_aload_n X d_CL_from_11 0 rfl ?_
  refine g_get (ci := 3) (C := R_CL) (T := F_CL) (N := 7) (v := .ref (ad 6)) X i_CL rfl hO0 3 (by decide) q_106 (fun _ h9 => h9) rfl d_CL_from_12 ?_
  refine g_iload_n X d_CL_from_15 1 rfl ?_
  refine g_callV (ci := 2) (As := [.int (nI k)]) (rest := []) X (z_ok eA eM) rfl rfl hT (c_TU_leastSecondsFrom hTU hUB hRe hI (i := k) (by omega)) v_TU_leastSecondsFrom q_525 q_526 q_524 rfl rfl (Nat.le_of_ble_eq_true rfl) d_CL_from_16 ⟨(Nat.le_of_ble_eq_true rfl), (Nat.le_of_ble_eq_true rfl)⟩ ⟨(Nat.le_of_ble_eq_true rfl), (Nat.le_of_ble_eq_true rfl)⟩ (g_K.no (fun _ h => h)) (fun r_ f2_ hp => ?_)
  rcases hp with ⟨h1_, rfl, rfl⟩ | ⟨h1_, Re2, h2_, rfl, rfl⟩
  · exact g_iret X rfl ⟨k, hk, rfl, Or.inl ⟨h1_, rfl, rfl⟩⟩ (Nat.le_of_ble_eq_true rfl) (Nat.le_of_ble_eq_true rfl) d_CL_from_19
  · exact g_iret X rfl ⟨k, hk, rfl, Or.inr ⟨h1_, Re2, h2_, rfl, rfl⟩⟩ (Nat.le_of_ble_eq_true rfl) (Nat.le_of_ble_eq_true rfl) d_CL_from_19
set_option maxHeartbeats 4000000 in
set_option maxRecDepth 100000 in
theorem L_CL_listed {p : Program} {l : Launch} {e : Env} {s : State} {m : MethodId} {args : Array Value} {below : List Frame} {meth : Method} {c : Code} {Q : State → Prop} {A : Nat → Prop} {D : va_G} {cI cZ cO cJ : ClassId} {eA eM : Nat} {f : g_F} {ad : Nat → Nat} {L nc : Nat} {pt ot : Nat → Int32} {per dy : Nat → Nat → Nat} {gd : Nat → Nat → Bool} {ct : Nat → Nat} {td ts : Nat → Nat} {tn : Nat} {P Du S Wy Re : Nat → Nat} {n : Nat} {O : Nat → Nat} {pl ps cap : Nat} {mc : Int32} (hR : cl_R cI cZ cO f ad L nc pt ot per dy gd ct td ts tn P Du S Wy Re n O pl ps cap mc) (hB : cl_B L nc per dy ct td ts tn P Du S Wy Re n O pl ps) {dd v : Nat} {res : Int32} (hdd : dd < 2 ^ 30) (hv : v < 4) (X : g_X p s m args meth c b_CL_listed 6 (some .int) g_T y_CL_listed.cls D g_cl (g_tys cI cZ cO cJ) A (z_Z eA eM)) (k59 : res = -1 → g_W p l e { frames := 8, cells := 3, slots := 18, locals := 125 } s m args below meth c 6 D g_cl A f 3 18 Q 59 [(0, .ref (ad 0))] []) (k47 : ∀ i, res = nI i → g_W p l e { frames := 8, cells := 3, slots := 18, locals := 125 } s m args below meth c 6 D g_cl A f 3 18 Q 47 [(5, .int (nI i))] []) : ∀ (d : Nat) (i l_ : Nat), (i + d = nc) → (l_ < 2 ^ 31) → (nthc (fun k => decide (sta L per dy gd ct td ts tn k dd = v)) d i l_ = res) → g_W p l e { frames := 8, cells := 3, slots := 18, locals := 125 } s m args below meth c 6 D g_cl A f 3 18 Q 19 [(5, .int (nI i)), (4, .int (nI l_)), (0, .ref (ad 0)), (1, .int (nI v)), (2, .int (nI dd))] [] := by
  obtain ⟨hO0, hAL, hTL, hTU, hPL, hCS⟩ := id hR
  obtain ⟨⟨hL1, hL5⟩, hnc, hCB, hTB, hUB, hRe, hpl8, hO8, hps⟩ := id hB
  obtain ⟨hQ, hn, hcap, hE⟩ := id hAL
  have hG := hTL.1
  have hT := hTU.1
  intro d
  induction d using Nat.strongRecOn with
  | _ d ih =>
    intro i l_ hi hl_ hr
    refine g_iload X d_CL_listed_19 0 rfl ?_
    refine g_aload_n X d_CL_listed_21 2 rfl ?_
    refine g_get (ci := 3) (C := R_CL) (T := F_CL) (N := 7) (v := .ref (ad 1)) X i_CL rfl hO0 1 (by decide) q_104 (fun _ h9 => h9) rfl d_CL_listed_22 ?_
    refine g_callV (ci := 0) (As := []) (rest := [.int (nI i)]) X (z_ok eA eM) rfl rfl hQ (c_AL_size hAL) v_AL_size q_223 q_224 q_222 rfl rfl (Nat.le_of_ble_eq_true rfl) d_CL_listed_25 ⟨(Nat.le_of_ble_eq_true rfl), (Nat.le_of_ble_eq_true rfl)⟩ ⟨(Nat.le_of_ble_eq_true rfl), (Nat.le_of_ble_eq_true rfl)⟩ (g_K.no (fun _ h => h)) (fun r_ f2_ hp => ?_)
    obtain ⟨rfl, hf_⟩ := hp
    subst f2_
    refine g_st (st2 := [.int (nI nc), .int (nI i)]) rfl ?_
    refine g_icmp_ge X 59 d_CL_listed_28 (by decide) (fun c28 => ?_) (fun c28 => ?_)
    · skip
      have e : d = 0 := by have := (nI_leI (by omega) (by omega)).mp c28; omega
      subst e
      exact g_lv [2] rfl (k59 hr.symm)
    · skip
      have hlt : i < nc := Nat.lt_of_not_le (fun z => c28 ((nI_leI (by omega) (by omega)).mpr z))
      obtain ⟨d, rfl⟩ : ∃ d9, d = d9 + 1 := ⟨d - 1, by omega⟩
      rw [nthc_s] at hr
      refine g_aload_n X d_CL_listed_31 2 rfl ?_
      refine g_iload X d_CL_listed_32 0 rfl ?_
      refine g_iload_n X d_CL_listed_34 4 rfl ?_
      refine g_callV (ci := 3) (As := [.int (nI i), .int (nI dd)]) (rest := []) X (z_ok eA eM) rfl rfl hO0 (c_CL_stateOn hR hB (k := i) (dd := dd) (hlt) hdd) v_CL_stateOn q_442 q_s7 q_440 rfl rfl (Nat.le_of_ble_eq_true rfl) d_CL_listed_35 ⟨(Nat.le_of_ble_eq_true rfl), (Nat.le_of_ble_eq_true rfl)⟩ ⟨(Nat.le_of_ble_eq_true rfl), (Nat.le_of_ble_eq_true rfl)⟩ (g_K.no (fun _ h => h)) (fun r_ f2_ hp => ?_)
      obtain ⟨rfl, hf_⟩ := hp
      subst f2_
      refine g_st (st2 := [.int (nI (sta L per dy gd ct td ts tn i dd))]) rfl ?_
      refine g_iload_n X d_CL_listed_38 3 rfl ?_
      refine g_icmp_ne X 53 d_CL_listed_39 (by decide) (fun c39 => ?_) (fun c39 => ?_)
      · skip
        rw [if_neg (fun z => c39 (by rw [of_decide_eq_true (p := sta L per dy gd ct td ts tn i dd = v) z]))] at hr
        refine g_iinc (lv' := [(5, .int (nI (i + 1))), (4, .int (nI l_)), (0, .ref (ad 0)), (1, .int (nI v)), (2, .int (nI dd))]) X d_CL_listed_53 0 rfl (nI_1 i) (by decide) rfl ?_
        refine g_goto X 19 d_CL_listed_56 (by decide) ?_
        exact g_lv [0, 1, 2, 3, 4] rfl (ih d (by omega) (i + 1) (l_) (by omega) (by omega) hr)
      · skip
        rw [if_pos (decide_eq_true (p := sta L per dy gd ct td ts tn i dd = v) ((nI_eq (Nat.lt_trans (stv_lt _ _) (by decide)) (by omega)).mp c39))] at hr
        refine g_iload X d_CL_listed_42 1 rfl ?_
        refine g_if_ne X 50 d_CL_listed_44 (by decide) (fun c44 => ?_) (fun c44 => ?_)
        · skip
          have hl0 : 0 < l_ := Nat.pos_of_ne_zero (fun z => c44 ((nI_z hl_).mpr z))
          rw [if_neg (by omega)] at hr
          refine g_iinc (lv' := [(4, .int (nI (l_ - 1))), (5, .int (nI i)), (0, .ref (ad 0)), (1, .int (nI v)), (2, .int (nI dd))]) X d_CL_listed_50 1 rfl (nI_dec hl0) (by decide) rfl ?_
          refine g_iinc (lv' := [(5, .int (nI (i + 1))), (4, .int (nI (l_ - 1))), (0, .ref (ad 0)), (1, .int (nI v)), (2, .int (nI dd))]) X d_CL_listed_53 1 rfl (nI_1 i) (by decide) rfl ?_
          refine g_goto X 19 d_CL_listed_56 (by decide) ?_
          exact g_lv [0, 1, 2, 3, 4] rfl (ih d (by omega) (i + 1) (l_ - 1) (by omega) (by omega) hr)
        · skip
          rw [if_pos ((nI_z hl_).mp c44)] at hr
          exact g_lv [0] rfl (k47 i hr.symm)
set_option maxHeartbeats 4000000 in
set_option maxRecDepth 100000 in
theorem c_CL_listed {l : Launch} {D : va_G} {cI cZ cO cJ : ClassId} {eA eM : Nat} (hl : l.stackTraces = false) {f : g_F} {ad : Nat → Nat} {L nc : Nat} {pt ot : Nat → Int32} {per dy : Nat → Nat → Nat} {gd : Nat → Nat → Bool} {ct : Nat → Nat} {td ts : Nat → Nat} {tn : Nat} {P Du S Wy Re : Nat → Nat} {n : Nat} {O : Nat → Nat} {pl ps cap : Nat} {mc : Int32} (hR : cl_R cI cZ cO f ad L nc pt ot per dy gd ct td ts tn P Du S Wy Re n O pl ps cap mc) (hB : cl_B L nc per dy ct td ts tn P Du S Wy Re n O pl ps) {x y w : Int32} : g_C l y_CL_listed b_CL_listed 6 (some .int) { frames := 8, cells := 3, slots := 18, locals := 125 } D g_cl (g_tys cI cZ cO cJ) (z_Z eA eM) [.ref (ad 0), .int x, .int y, .int w] f (fun r f2 => (∃ v dd kk, v < 4 ∧ dd < 100001 ∧ kk < 2 ^ 31 ∧ x = nI v ∧ y = nI dd ∧ w = nI kk ∧ r = some (.int (nthc (fun k => decide (sta L per dy gd ct td ts tn k dd = v)) nc 0 kk))) ∧ f2 = f) (fun E => E = "java/lang/IllegalArgumentException" ∧ ¬ (inR x 4 ∧ inR y 100001 ∧ ¬ w < 0)) := by
  refine g_ofW [(0, .ref (ad 0)), (1, .int x), (2, .int y), (3, .int w)] (by decide +kernel) (Nat.le_of_ble_eq_true rfl) rfl ?_
  intro p e s m args below meth c X ht hin
  obtain ⟨hO0, hAL, hTL, hTU, hPL, hCS⟩ := id hR
  obtain ⟨⟨hL1, hL5⟩, hnc, hCB, hTB, hUB, hRe, hpl8, hO8, hps⟩ := id hB
  obtain ⟨hQ, hn, hcap, hE⟩ := id hAL
  have hG := hTL.1
  have hT := hTU.1
  refine g_iload_n X d_CL_listed_0 1 rfl ?_
  refine g_iconst (v := 4) X d_CL_listed_1 (by decide) ?_
  refine g_callS (As := [.int x, .int 4]) (rest := []) X (z_ok eA eM) (c_CL_needBelow hl (f := f) (x := x) (b := 4)) v_CL_needBelow q_142 q_141 rfl rfl (Nat.le_of_ble_eq_true rfl) d_CL_listed_2 ⟨(Nat.le_of_ble_eq_true rfl), (Nat.le_of_ble_eq_true rfl)⟩ ⟨(Nat.le_of_ble_eq_true rfl), (Nat.le_of_ble_eq_true rfl)⟩ (g_K.out X ht (fun E_ h_ => ⟨h_.1, fun z => h_.2.elim ((inR_iff (n := 4) (by decide)).mpr z.1).1 (fun v_ => v_ ((inR_iff (n := 4) (by decide)).mpr z.1).2)⟩) (Nat.le_of_ble_eq_true rfl) (Nat.le_of_ble_eq_true rfl)) (fun r_ f2_ hp => ?_)
  obtain ⟨⟨rfl, hf_⟩, hw_⟩ := hp
  refine g_st (st2 := []) rfl ?_
  have hf_ := hf_.symm
  subst hf_
  obtain ⟨v, hv, rfl⟩ := (inR_iff (n := 4) (by decide)).mp hw_
  refine g_iload_n X d_CL_listed_5 2 rfl ?_
  refine g_callS (As := [.int y]) (rest := []) X (z_ok eA eM) (c_CL_needDay hl (f := f) (x := y)) v_CL_needDay q_388 q_387 rfl rfl (Nat.le_of_ble_eq_true rfl) d_CL_listed_6 ⟨(Nat.le_of_ble_eq_true rfl), (Nat.le_of_ble_eq_true rfl)⟩ ⟨(Nat.le_of_ble_eq_true rfl), (Nat.le_of_ble_eq_true rfl)⟩ (g_K.out X ht (fun E_ h_ => ⟨h_.1, fun z => h_.2.elim (inD_iff.mpr z.2.1).1 (fun v_ => v_ (inD_iff.mpr z.2.1).2)⟩) (Nat.le_of_ble_eq_true rfl) (Nat.le_of_ble_eq_true rfl)) (fun r_ f2_ hp => ?_)
  obtain ⟨⟨rfl, hf_⟩, hw_⟩ := hp
  refine g_st (st2 := []) rfl ?_
  have hf_ := hf_.symm
  subst hf_
  obtain ⟨dd, hd, rfl⟩ := inD_iff.mp hw_
  refine g_iload_n X d_CL_listed_9 3 rfl ?_
  refine g_callS (As := [.int w]) (rest := []) X (z_ok eA eM) (c_CL_needNotNegative hl (f := f) (x := w)) v_CL_needNotNegative q_551 q_550 rfl rfl (Nat.le_of_ble_eq_true rfl) d_CL_listed_10 ⟨(Nat.le_of_ble_eq_true rfl), (Nat.le_of_ble_eq_true rfl)⟩ ⟨(Nat.le_of_ble_eq_true rfl), (Nat.le_of_ble_eq_true rfl)⟩ (g_K.out X ht (fun E_ h_ => ⟨h_.1, fun z => h_.2.elim z.2.2 (fun v_ => v_ (inN_iff.mpr z.2.2).2)⟩) (Nat.le_of_ble_eq_true rfl) (Nat.le_of_ble_eq_true rfl)) (fun r_ f2_ hp => ?_)
  obtain ⟨⟨rfl, hf_⟩, hw_⟩ := hp
  refine g_st (st2 := []) rfl ?_
  have hf_ := hf_.symm
  subst hf_
  obtain ⟨kk, hkk, rfl⟩ := nI_of hw_.1
  refine g_iload_n X d_CL_listed_13 3 rfl ?_
  refine g_istore (lv' := [(4, .int (nI kk)), (0, .ref (ad 0)), (1, .int (nI v)), (2, .int (nI dd)), (3, .int (nI kk))]) X d_CL_listed_14 (by decide) rfl ?_
  refine g_iconst (v := 0) X d_CL_listed_16 (by decide) ?_
  refine g_istore (lv' := [(5, .int 0), (4, .int (nI kk)), (0, .ref (ad 0)), (1, .int (nI v)), (2, .int (nI dd)), (3, .int (nI kk))]) X d_CL_listed_17 (by decide) rfl ?_
  refine g_lv [0, 1, 2, 3, 4] rfl (L_CL_listed hR hB (dd := dd) (v := v) (by omega) hv X ?_ ?_ nc 0 kk (by omega) hkk rfl)
  · intro hr
    exact g_iconst (v := -1) X d_CL_listed_59 (by decide) (g_iret X rfl ⟨⟨v, dd, kk, hv, hd, hkk, rfl, rfl, rfl, by rw [hr]⟩, rfl⟩ (Nat.le_of_ble_eq_true rfl) (Nat.le_of_ble_eq_true rfl) d_CL_listed_60)
  · intro i hr
    exact g_iload X d_CL_listed_47 0 rfl (g_iret X rfl ⟨⟨v, dd, kk, hv, hd, hkk, rfl, rfl, rfl, by rw [hr]⟩, rfl⟩ (Nat.le_of_ble_eq_true rfl) (Nat.le_of_ble_eq_true rfl) d_CL_listed_49)
set_option maxHeartbeats 4000000 in
set_option maxRecDepth 100000 in
theorem L_CL_hidden {p : Program} {l : Launch} {e : Env} {s : State} {m : MethodId} {args : Array Value} {below : List Frame} {meth : Method} {c : Code} {Q : State → Prop} {A : Nat → Prop} {D : va_G} {cI cZ cO cJ : ClassId} {eA eM : Nat} {f : g_F} {ad : Nat → Nat} {L nc : Nat} {pt ot : Nat → Int32} {per dy : Nat → Nat → Nat} {gd : Nat → Nat → Bool} {ct : Nat → Nat} {td ts : Nat → Nat} {tn : Nat} {P Du S Wy Re : Nat → Nat} {n : Nat} {O : Nat → Nat} {pl ps cap : Nat} {mc : Int32} (hR : cl_R cI cZ cO f ad L nc pt ot per dy gd ct td ts tn P Du S Wy Re n O pl ps cap mc) (hB : cl_B L nc per dy ct td ts tn P Du S Wy Re n O pl ps) {res : Int32} (X : g_X p s m args meth c b_CL_hidden 5 (some .int) g_T y_CL_hidden.cls D g_cl (g_tys cI cZ cO cJ) A (z_Z eA eM)) (k54 : res = -1 → g_W p l e { frames := 7, cells := 1, slots := 6, locals := 102 } s m args below meth c 5 D g_cl A f 1 6 Q 54 [(0, .ref (ad 0))] []) (k42 : ∀ i, res = nI i → g_W p l e { frames := 7, cells := 1, slots := 6, locals := 102 } s m args below meth c 5 D g_cl A f 1 6 Q 42 [(4, .int (nI i))] []) : ∀ (d : Nat) (i l_ : Nat), (i + d = nc) → (l_ < 2 ^ 31) → (nthc (fun k => !(Nat.testBit (orS S (2 ^ n - 1) n) k)) d i l_ = res) → g_W p l e { frames := 7, cells := 1, slots := 6, locals := 102 } s m args below meth c 5 D g_cl A f 1 6 Q 17 [(4, .int (nI i)), (3, .int (nI l_)), (2, .int (nI (orS S (2 ^ n - 1) n))), (0, .ref (ad 0))] [] := by
  obtain ⟨hO0, hAL, hTL, hTU, hPL, hCS⟩ := id hR
  obtain ⟨⟨hL1, hL5⟩, hnc, hCB, hTB, hUB, hRe, hpl8, hO8, hps⟩ := id hB
  obtain ⟨hQ, hn, hcap, hE⟩ := id hAL
  have hG := hTL.1
  have hT := hTU.1
  intro d
  induction d using Nat.strongRecOn with
  | _ d ih =>
    intro i l_ hi hl_ hr
    refine g_iload X d_CL_hidden_17 0 rfl ?_
    refine g_aload_n X d_CL_hidden_19 3 rfl ?_
    refine g_get (ci := 3) (C := R_CL) (T := F_CL) (N := 7) (v := .ref (ad 1)) X i_CL rfl hO0 1 (by decide) q_104 (fun _ h9 => h9) rfl d_CL_hidden_20 ?_
    refine g_callV (ci := 0) (As := []) (rest := [.int (nI i)]) X (z_ok eA eM) rfl rfl hQ (c_AL_size hAL) v_AL_size q_223 q_224 q_222 rfl rfl (Nat.le_of_ble_eq_true rfl) d_CL_hidden_23 ⟨(Nat.le_of_ble_eq_true rfl), (Nat.le_of_ble_eq_true rfl)⟩ ⟨(Nat.le_of_ble_eq_true rfl), (Nat.le_of_ble_eq_true rfl)⟩ (g_K.no (fun _ h => h)) (fun r_ f2_ hp => ?_)
    obtain ⟨rfl, hf_⟩ := hp
    subst f2_
    refine g_st (st2 := [.int (nI nc), .int (nI i)]) rfl ?_
    refine g_icmp_ge X 54 d_CL_hidden_26 (by decide) (fun c26 => ?_) (fun c26 => ?_)
    · skip
      have e : d = 0 := by have := (nI_leI (by omega) (by omega)).mp c26; omega
      subst e
      exact g_lv [3] rfl (k54 hr.symm)
    · skip
      have hlt : i < nc := Nat.lt_of_not_le (fun z => c26 ((nI_leI (by omega) (by omega)).mpr z))
      obtain ⟨d, rfl⟩ : ∃ d9, d = d9 + 1 := ⟨d - 1, by omega⟩
      rw [nthc_s] at hr
      refine g_iload_n X d_CL_hidden_29 2 rfl ?_
      refine g_iload X d_CL_hidden_30 0 rfl ?_
      refine g_callS (As := [.int (nI (orS S (2 ^ n - 1) n)), .int (nI i)]) (rest := []) X (z_ok eA eM) (c_CL_holds (f := f) (a := orS S (2 ^ n - 1) n) (k := i) (Nat.lt_trans (orS_lt hUB.2.2.2.1 _ n) (by decide)) (by omega)) v_CL_holds q_367 q_561 rfl rfl (Nat.le_of_ble_eq_true rfl) d_CL_hidden_32 ⟨(Nat.le_of_ble_eq_true rfl), (Nat.le_of_ble_eq_true rfl)⟩ ⟨(Nat.le_of_ble_eq_true rfl), (Nat.le_of_ble_eq_true rfl)⟩ (g_K.no (fun _ h => h)) (fun r_ f2_ hp => ?_)
      obtain ⟨rfl, hf_⟩ := hp
      subst f2_
      refine g_st (st2 := [.int (bI (Nat.testBit (orS S (2 ^ n - 1) n) i))]) rfl ?_
      refine g_if_ne X 48 d_CL_hidden_35 (by decide) (fun c35 => ?_) (fun c35 => ?_)
      · skip
        have hb9 : Nat.testBit (orS S (2 ^ n - 1) n) i = true := bt_nf (fun z => c35 (bI_z.mpr z))
        rw [if_neg (by show ¬ (!(Nat.testBit (orS S (2 ^ n - 1) n) i)) = true; rw [hb9]; decide)] at hr
        refine g_iinc (lv' := [(4, .int (nI (i + 1))), (3, .int (nI l_)), (2, .int (nI (orS S (2 ^ n - 1) n))), (0, .ref (ad 0))]) X d_CL_hidden_48 0 rfl (nI_1 i) (by decide) rfl ?_
        refine g_goto X 17 d_CL_hidden_51 (by decide) ?_
        exact g_lv [0, 1, 2, 3] rfl (ih d (by omega) (i + 1) (l_) (by omega) (by omega) hr)
      · skip
        have hb9 : Nat.testBit (orS S (2 ^ n - 1) n) i = false := bI_z.mp c35
        rw [if_pos (by show (!(Nat.testBit (orS S (2 ^ n - 1) n) i)) = true; rw [hb9]; rfl)] at hr
        refine g_iload_n X d_CL_hidden_38 1 rfl ?_
        refine g_if_ne X 45 d_CL_hidden_39 (by decide) (fun c39 => ?_) (fun c39 => ?_)
        · skip
          have hl0 : 0 < l_ := Nat.pos_of_ne_zero (fun z => c39 ((nI_z hl_).mpr z))
          rw [if_neg (by omega)] at hr
          refine g_iinc (lv' := [(3, .int (nI (l_ - 1))), (4, .int (nI i)), (2, .int (nI (orS S (2 ^ n - 1) n))), (0, .ref (ad 0))]) X d_CL_hidden_45 1 rfl (nI_dec hl0) (by decide) rfl ?_
          refine g_iinc (lv' := [(4, .int (nI (i + 1))), (3, .int (nI (l_ - 1))), (2, .int (nI (orS S (2 ^ n - 1) n))), (0, .ref (ad 0))]) X d_CL_hidden_48 1 rfl (nI_1 i) (by decide) rfl ?_
          refine g_goto X 17 d_CL_hidden_51 (by decide) ?_
          exact g_lv [0, 1, 2, 3] rfl (ih d (by omega) (i + 1) (l_ - 1) (by omega) (by omega) hr)
        · skip
          rw [if_pos ((nI_z hl_).mp c39)] at hr
          exact g_lv [0] rfl (k42 i hr.symm)
set_option maxHeartbeats 4000000 in
set_option maxRecDepth 100000 in
theorem c_CL_hidden {l : Launch} {D : va_G} {cI cZ cO cJ : ClassId} {eA eM : Nat} (hl : l.stackTraces = false) {f : g_F} {ad : Nat → Nat} {L nc : Nat} {pt ot : Nat → Int32} {per dy : Nat → Nat → Nat} {gd : Nat → Nat → Bool} {ct : Nat → Nat} {td ts : Nat → Nat} {tn : Nat} {P Du S Wy Re : Nat → Nat} {n : Nat} {O : Nat → Nat} {pl ps cap : Nat} {mc : Int32} (hR : cl_R cI cZ cO f ad L nc pt ot per dy gd ct td ts tn P Du S Wy Re n O pl ps cap mc) (hB : cl_B L nc per dy ct td ts tn P Du S Wy Re n O pl ps) {w : Int32} : g_C l y_CL_hidden b_CL_hidden 5 (some .int) { frames := 7, cells := 1, slots := 6, locals := 102 } D g_cl (g_tys cI cZ cO cJ) (z_Z eA eM) [.ref (ad 0), .int w] f (fun r f2 => (∃ kk, kk < 2 ^ 31 ∧ w = nI kk ∧ r = some (.int (nthc (fun k => !(Nat.testBit (orS S (2 ^ n - 1) n) k)) nc 0 kk))) ∧ f2 = f) (fun E => E = "java/lang/IllegalArgumentException" ∧ ¬ (¬ w < 0)) := by
  refine g_ofW [(0, .ref (ad 0)), (1, .int w)] (by decide +kernel) (Nat.le_of_ble_eq_true rfl) rfl ?_
  intro p e s m args below meth c X ht hin
  obtain ⟨hO0, hAL, hTL, hTU, hPL, hCS⟩ := id hR
  obtain ⟨⟨hL1, hL5⟩, hnc, hCB, hTB, hUB, hRe, hpl8, hO8, hps⟩ := id hB
  obtain ⟨hQ, hn, hcap, hE⟩ := id hAL
  have hG := hTL.1
  have hT := hTU.1
  refine g_iload_n X d_CL_hidden_0 1 rfl ?_
  refine g_callS (As := [.int w]) (rest := []) X (z_ok eA eM) (c_CL_needNotNegative hl (f := f) (x := w)) v_CL_needNotNegative q_551 q_550 rfl rfl (Nat.le_of_ble_eq_true rfl) d_CL_hidden_1 ⟨(Nat.le_of_ble_eq_true rfl), (Nat.le_of_ble_eq_true rfl)⟩ ⟨(Nat.le_of_ble_eq_true rfl), (Nat.le_of_ble_eq_true rfl)⟩ (g_K.out X ht (fun E_ h_ => ⟨h_.1, fun z => h_.2.elim z (fun v_ => v_ (inN_iff.mpr z).2)⟩) (Nat.le_of_ble_eq_true rfl) (Nat.le_of_ble_eq_true rfl)) (fun r_ f2_ hp => ?_)
  obtain ⟨⟨rfl, hf_⟩, hw_⟩ := hp
  refine g_st (st2 := []) rfl ?_
  have hf_ := hf_.symm
  subst hf_
  obtain ⟨kk, hkk, rfl⟩ := nI_of hw_.1
  refine g_aload_n X d_CL_hidden_4 0 rfl ?_
  refine g_get (ci := 3) (C := R_CL) (T := F_CL) (N := 7) (v := .ref (ad 6)) X i_CL rfl hO0 3 (by decide) q_106 (fun _ h9 => h9) rfl d_CL_hidden_5 ?_
  refine g_callV (ci := 2) (As := []) (rest := []) X (z_ok eA eM) rfl rfl hT (c_TU_shownByAny hTU hUB) v_TU_shownByAny q_458 q_459 q_457 rfl rfl (Nat.le_of_ble_eq_true rfl) d_CL_hidden_8 ⟨(Nat.le_of_ble_eq_true rfl), (Nat.le_of_ble_eq_true rfl)⟩ ⟨(Nat.le_of_ble_eq_true rfl), (Nat.le_of_ble_eq_true rfl)⟩ (g_K.no (fun _ h => h)) (fun r_ f2_ hp => ?_)
  obtain ⟨rfl, hf_⟩ := hp
  subst f2_
  refine g_st (st2 := [.int (nI (orS S (2 ^ n - 1) n))]) rfl ?_
  refine g_istore_n (lv' := [(2, .int (nI (orS S (2 ^ n - 1) n))), (0, .ref (ad 0)), (1, .int (nI kk))]) X d_CL_hidden_11 rfl (by decide) rfl ?_
  refine g_iload_n X d_CL_hidden_12 2 rfl ?_
  refine g_istore_n (lv' := [(3, .int (nI kk)), (2, .int (nI (orS S (2 ^ n - 1) n))), (0, .ref (ad 0)), (1, .int (nI kk))]) X d_CL_hidden_13 rfl (by decide) rfl ?_
  refine g_iconst (v := 0) X d_CL_hidden_14 (by decide) ?_
  refine g_istore (lv' := [(4, .int 0), (3, .int (nI kk)), (2, .int (nI (orS S (2 ^ n - 1) n))), (0, .ref (ad 0)), (1, .int (nI kk))]) X d_CL_hidden_15 (by decide) rfl ?_
  refine g_lv [0, 1, 2, 3] rfl (L_CL_hidden hR hB X ?_ ?_ nc 0 kk (by omega) hkk rfl)
  · intro hr
    exact g_iconst (v := -1) X d_CL_hidden_54 (by decide) (g_iret X rfl ⟨⟨kk, hkk, rfl, by rw [hr]⟩, rfl⟩ (Nat.le_of_ble_eq_true rfl) (Nat.le_of_ble_eq_true rfl) d_CL_hidden_55)
  · intro i hr
    exact g_iload X d_CL_hidden_42 0 rfl (g_iret X rfl ⟨⟨kk, hkk, rfl, by rw [hr]⟩, rfl⟩ (Nat.le_of_ble_eq_true rfl) (Nat.le_of_ble_eq_true rfl) d_CL_hidden_44)
set_option maxHeartbeats 4000000 in
set_option maxRecDepth 100000 in
theorem L_CL_proves {p : Program} {l : Launch} {e : Env} {s : State} {m : MethodId} {args : Array Value} {below : List Frame} {meth : Method} {c : Code} {Q : State → Prop} {A : Nat → Prop} {D : va_G} {cI cZ cO cJ : ClassId} {eA eM : Nat} {f : g_F} {ad : Nat → Nat} {L nc : Nat} {pt ot : Nat → Int32} {per dy : Nat → Nat → Nat} {gd : Nat → Nat → Bool} {ct : Nat → Nat} {td ts : Nat → Nat} {tn : Nat} {P Du S Wy Re : Nat → Nat} {n : Nat} {O : Nat → Nat} {pl ps cap : Nat} {mc : Int32} (hR : cl_R cI cZ cO f ad L nc pt ot per dy gd ct td ts tn P Du S Wy Re n O pl ps cap mc) (hB : cl_B L nc per dy ct td ts tn P Du S Wy Re n O pl ps) {k res : Nat} (hk : k < nc) (X : g_X p s m args meth c b_CL_proves 5 (some .int) g_T y_CL_proves.cls D g_cl (g_tys cI cZ cO cJ) A (z_Z eA eM)) (k53 : g_W p l e { frames := 8, cells := 2, slots := 12, locals := 125 } s m args below meth c 5 D g_cl A f 2 12 Q 53 [(3, .int (nI res))] []) (k38 : g_W p l e { frames := 8, cells := 2, slots := 12, locals := 125 } s m args below meth c 5 D g_cl A f 2 12 Q 38 [(3, .int (nI res))] []) : ∀ (d : Nat) (i a_ : Nat), (i + d = 577) → (a_ < 2 ^ 30) → (prv (fun a_ => sta L per dy gd ct td ts tn k a_) (fun a_ => nxt L dy ct td ts tn k a_) d a_ = res) → g_W p l e { frames := 8, cells := 2, slots := 12, locals := 125 } s m args below meth c 5 D g_cl A f 2 12 Q 20 [(4, .int (nI i)), (3, .int (nI a_)), (0, .ref (ad 0)), (1, .int (nI k))] [] := by
  obtain ⟨hO0, hAL, hTL, hTU, hPL, hCS⟩ := id hR
  obtain ⟨⟨hL1, hL5⟩, hnc, hCB, hTB, hUB, hRe, hpl8, hO8, hps⟩ := id hB
  obtain ⟨hQ, hn, hcap, hE⟩ := id hAL
  have hG := hTL.1
  have hT := hTU.1
  intro d
  induction d using Nat.strongRecOn with
  | _ d ih =>
    intro i a_ hi ha_ hr
    refine g_iload X d_CL_proves_20 0 rfl ?_
    refine g_sipush (v := 576) X d_CL_proves_22 (by decide) ?_
    refine g_icmp_gt X 53 d_CL_proves_25 (by decide) (fun c25 => ?_) (fun c25 => ?_)
    · skip
      have e : d = 0 := by have := (nI_ltI (a := 576) (by decide) (by omega)).mp c25; omega
      subst e
      have hr : a_ = res := hr
      subst hr
      exact g_lv [1] rfl k53
    · skip
      have hlt : i < 577 := Nat.lt_succ_of_le (Nat.le_of_not_lt (fun z => c25 ((nI_ltI (a := 576) (b := i) (by decide) (by omega)).mpr z)))
      obtain ⟨d, rfl⟩ : ∃ d9, d = d9 + 1 := ⟨d - 1, by omega⟩
      rw [prv_s] at hr
      refine g_aload_n X d_CL_proves_28 2 rfl ?_
      refine g_iload_n X d_CL_proves_29 3 rfl ?_
      refine g_iload_n X d_CL_proves_30 1 rfl ?_
      refine g_callV (ci := 3) (As := [.int (nI k), .int (nI a_)]) (rest := []) X (z_ok eA eM) rfl rfl hO0 (c_CL_stateOn hR hB (k := k) (dd := a_) hk ha_) v_CL_stateOn q_442 q_s7 q_440 rfl rfl (Nat.le_of_ble_eq_true rfl) d_CL_proves_31 ⟨(Nat.le_of_ble_eq_true rfl), (Nat.le_of_ble_eq_true rfl)⟩ ⟨(Nat.le_of_ble_eq_true rfl), (Nat.le_of_ble_eq_true rfl)⟩ (g_K.no (fun _ h => h)) (fun r_ f2_ hp => ?_)
      obtain ⟨rfl, hf_⟩ := hp
      subst f2_
      refine g_st (st2 := [.int (nI (sta L per dy gd ct td ts tn k a_))]) rfl ?_
      refine g_iconst (v := 3) X d_CL_proves_34 (by decide) ?_
      refine g_icmp_eq X 40 d_CL_proves_35 (by decide) (fun c35 => ?_) (fun c35 => ?_)
      · skip
        rw [if_pos (show sta L per dy gd ct td ts tn k a_ = 3 from (nI_eq (b := 3) (Nat.lt_trans (stv_lt _ _) (by decide)) (by decide)).mp c35)] at hr
        have hnl : nxt L dy ct td ts tn k a_ ≤ 105001 := Nat.le_trans (ntn_le _ _ _ _ _) (mxt_lt _)
        refine g_aload_n X d_CL_proves_40 2 rfl ?_
        refine g_iload_n X d_CL_proves_41 3 rfl ?_
        refine g_iload_n X d_CL_proves_42 1 rfl ?_
        refine g_callV (ci := 3) (As := [.int (nI k), .int (nI a_)]) (rest := []) X (z_ok eA eM) rfl rfl hO0 (c_CL_nextTurn hR hB (k := k) (dd := a_) hk ha_) v_CL_nextTurn q_571 q_s18 q_569 rfl rfl (Nat.le_of_ble_eq_true rfl) d_CL_proves_43 ⟨(Nat.le_of_ble_eq_true rfl), (Nat.le_of_ble_eq_true rfl)⟩ ⟨(Nat.le_of_ble_eq_true rfl), (Nat.le_of_ble_eq_true rfl)⟩ (g_K.no (fun _ h => h)) (fun r_ f2_ hp => ?_)
        obtain ⟨rfl, hf_⟩ := hp
        subst f2_
        refine g_st (st2 := [.int (nI (nxt L dy ct td ts tn k a_))]) rfl ?_
        refine g_istore_n (lv' := [(3, .int (nI (nxt L dy ct td ts tn k a_))), (4, .int (nI i)), (0, .ref (ad 0)), (1, .int (nI k))]) X d_CL_proves_46 rfl (by decide) rfl ?_
        refine g_iinc (lv' := [(4, .int (nI (i + 1))), (3, .int (nI (nxt L dy ct td ts tn k a_))), (0, .ref (ad 0)), (1, .int (nI k))]) X d_CL_proves_47 1 rfl (nI_1 i) (by decide) rfl ?_
        refine g_goto X 20 d_CL_proves_50 (by decide) ?_
        exact g_lv [0, 1, 2, 3] rfl (ih d (by omega) (i + 1) (nxt L dy ct td ts tn k a_) (by omega) (by omega) hr)
      · skip
        rw [if_neg (fun z => c35 (by rw [z]; rfl))] at hr
        subst hr
        exact g_lv [1] rfl k38
set_option maxHeartbeats 4000000 in
set_option maxRecDepth 100000 in
theorem c_CL_proves {l : Launch} {D : va_G} {cI cZ cO cJ : ClassId} {eA eM : Nat} (hl : l.stackTraces = false) {f : g_F} {ad : Nat → Nat} {L nc : Nat} {pt ot : Nat → Int32} {per dy : Nat → Nat → Nat} {gd : Nat → Nat → Bool} {ct : Nat → Nat} {td ts : Nat → Nat} {tn : Nat} {P Du S Wy Re : Nat → Nat} {n : Nat} {O : Nat → Nat} {pl ps cap : Nat} {mc : Int32} (hR : cl_R cI cZ cO f ad L nc pt ot per dy gd ct td ts tn P Du S Wy Re n O pl ps cap mc) (hB : cl_B L nc per dy ct td ts tn P Du S Wy Re n O pl ps) {x y : Int32} : g_C l y_CL_proves b_CL_proves 5 (some .int) { frames := 8, cells := 2, slots := 12, locals := 125 } D g_cl (g_tys cI cZ cO cJ) (z_Z eA eM) [.ref (ad 0), .int x, .int y] f (fun r f2 => (∃ k dd, k < nc ∧ dd < 100001 ∧ x = nI k ∧ y = nI dd ∧ r = some (.int (nI (prv (fun a_ => sta L per dy gd ct td ts tn k a_) (fun a_ => nxt L dy ct td ts tn k a_) 577 dd)))) ∧ f2 = f) (fun E => E = "java/lang/IllegalArgumentException" ∧ ¬ (inR x nc ∧ inR y 100001)) := by
  refine g_ofW [(0, .ref (ad 0)), (1, .int x), (2, .int y)] (by decide +kernel) (Nat.le_of_ble_eq_true rfl) rfl ?_
  intro p e s m args below meth c X ht hin
  obtain ⟨hO0, hAL, hTL, hTU, hPL, hCS⟩ := id hR
  obtain ⟨⟨hL1, hL5⟩, hnc, hCB, hTB, hUB, hRe, hpl8, hO8, hps⟩ := id hB
  obtain ⟨hQ, hn, hcap, hE⟩ := id hAL
  have hG := hTL.1
  have hT := hTU.1
  refine g_iload_n X d_CL_proves_0 1 rfl ?_
  refine g_aload_n X d_CL_proves_1 0 rfl ?_
  refine g_get (ci := 3) (C := R_CL) (T := F_CL) (N := 7) (v := .ref (ad 1)) X i_CL rfl hO0 1 (by decide) q_104 (fun _ h9 => h9) rfl d_CL_proves_2 ?_
  refine g_callV (ci := 0) (As := []) (rest := [.int x]) X (z_ok eA eM) rfl rfl hQ (c_AL_size hAL) v_AL_size q_223 q_224 q_222 rfl rfl (Nat.le_of_ble_eq_true rfl) d_CL_proves_5 ⟨(Nat.le_of_ble_eq_true rfl), (Nat.le_of_ble_eq_true rfl)⟩ ⟨(Nat.le_of_ble_eq_true rfl), (Nat.le_of_ble_eq_true rfl)⟩ (g_K.no (fun _ h => h)) (fun r_ f2_ hp => ?_)
  obtain ⟨rfl, hf_⟩ := hp
  subst f2_
  refine g_st (st2 := [.int (nI nc), .int x]) rfl ?_
  refine g_callS (As := [.int x, .int (nI nc)]) (rest := []) X (z_ok eA eM) (c_CL_needBelow hl (f := f) (x := x) (b := nI (nc))) v_CL_needBelow q_142 q_141 rfl rfl (Nat.le_of_ble_eq_true rfl) d_CL_proves_8 ⟨(Nat.le_of_ble_eq_true rfl), (Nat.le_of_ble_eq_true rfl)⟩ ⟨(Nat.le_of_ble_eq_true rfl), (Nat.le_of_ble_eq_true rfl)⟩ (g_K.out X ht (fun E_ h_ => ⟨h_.1, fun z => h_.2.elim ((inR_iff (n := nc) (by omega)).mpr z.1).1 (fun v_ => v_ ((inR_iff (n := nc) (by omega)).mpr z.1).2)⟩) (Nat.le_of_ble_eq_true rfl) (Nat.le_of_ble_eq_true rfl)) (fun r_ f2_ hp => ?_)
  obtain ⟨⟨rfl, hf_⟩, hw_⟩ := hp
  refine g_st (st2 := []) rfl ?_
  have hf_ := hf_.symm
  subst hf_
  obtain ⟨k, hk, rfl⟩ := (inR_iff (n := nc) (by omega)).mp hw_
  refine g_iload_n X d_CL_proves_11 2 rfl ?_
  refine g_callS (As := [.int y]) (rest := []) X (z_ok eA eM) (c_CL_needDay hl (f := f) (x := y)) v_CL_needDay q_388 q_387 rfl rfl (Nat.le_of_ble_eq_true rfl) d_CL_proves_12 ⟨(Nat.le_of_ble_eq_true rfl), (Nat.le_of_ble_eq_true rfl)⟩ ⟨(Nat.le_of_ble_eq_true rfl), (Nat.le_of_ble_eq_true rfl)⟩ (g_K.out X ht (fun E_ h_ => ⟨h_.1, fun z => h_.2.elim (inD_iff.mpr z.2).1 (fun v_ => v_ (inD_iff.mpr z.2).2)⟩) (Nat.le_of_ble_eq_true rfl) (Nat.le_of_ble_eq_true rfl)) (fun r_ f2_ hp => ?_)
  obtain ⟨⟨rfl, hf_⟩, hw_⟩ := hp
  refine g_st (st2 := []) rfl ?_
  have hf_ := hf_.symm
  subst hf_
  obtain ⟨dd, hd, rfl⟩ := inD_iff.mp hw_
  refine g_iload_n X d_CL_proves_15 2 rfl ?_
  refine g_istore_n (lv' := [(3, .int (nI dd)), (0, .ref (ad 0)), (1, .int (nI k)), (2, .int (nI dd))]) X d_CL_proves_16 rfl (by decide) rfl ?_
  refine g_iconst (v := 0) X d_CL_proves_17 (by decide) ?_
  refine g_istore (lv' := [(4, .int 0), (3, .int (nI dd)), (0, .ref (ad 0)), (1, .int (nI k)), (2, .int (nI dd))]) X d_CL_proves_18 (by decide) rfl ?_
  refine g_lv [0, 1, 2, 3] rfl (L_CL_proves hR hB hk X ?_ ?_ 577 0 dd (by omega) (by omega) rfl)
  · exact g_iload_n X d_CL_proves_53 0 rfl (g_iret X rfl ⟨⟨k, dd, hk, hd, rfl, rfl, rfl⟩, rfl⟩ (Nat.le_of_ble_eq_true rfl) (Nat.le_of_ble_eq_true rfl) d_CL_proves_54)
  · exact g_iload_n X d_CL_proves_38 0 rfl (g_iret X rfl ⟨⟨k, dd, hk, hd, rfl, rfl, rfl⟩, rfl⟩ (Nat.le_of_ble_eq_true rfl) (Nat.le_of_ble_eq_true rfl) d_CL_proves_39)
