/-- a case's cells: its points, and its results -/
def cs_R (cI cZ : ClassId) (f : g_F) (q qp qd qg : Nat) (pt ot : Int32) (per dy : Nat → Nat) (gd : Nat → Bool) (ct : Nat) : Prop :=
  f q = some (.inr (4, [.int pt, .int ot, .ref qp, .ref qd, .ref qg, .int (nI ct)])) ∧ f qp = some (.inl (cI, 32, .inl (fun q9 => nI (per q9)))) ∧ f qd = some (.inl (cI, 32, .inl (fun q9 => nI (dy q9)))) ∧ f qg = some (.inl (cZ, 32, .inl (fun q9 => bI (gd q9))))
def cs_B (per dy : Nat → Nat) (ct : Nat) : Prop := ct ≤ 32 ∧ (∀ i, per i < 10) ∧ ∀ i, dy i ≤ 100000
theorem upd_bI {g : Nat → Bool} {j : Nat} {x : Bool} (h : j < 2 ^ 31) : upd (fun i => bI (g i)) (nI j).toNatClampNeg (vp_nar .boolean (bI x)) = fun i => bI (va_up g j x i) := by
  rw [nI_clamp h, show vp_nar .boolean (bI x) = bI x by cases x <;> decide]
  funext i
  by_cases hi : i = j
  · subst hi; simp [upd, va_up]
  · simp [upd, va_up, hi]
/-- the latest counting result of a person so far: its day plus 1, what it says -/
def wd (per dy : Nat → Nat) (gd : Nat → Bool) (pe : Nat) (fs : Int32) (dd : Nat) : Nat → Nat × Int32
  | 0 => (0, -1)
  | i + 1 => if per i = pe ∧ ¬ nI (dy i) < fs ∧ dy i ≤ dd ∧ (wd per dy gd pe fs dd i).1 < dy i + 1 then (dy i + 1, bI (gd i)) else wd per dy gd pe fs dd i
theorem wd_le {per dy : Nat → Nat} (h : ∀ i, dy i ≤ 100000) (gd : Nat → Bool) (pe : Nat) (fs : Int32) (dd : Nat) : ∀ i, (wd per dy gd pe fs dd i).1 ≤ 100001
  | 0 => Nat.zero_le _
  | i + 1 => by
    unfold wd
    split
    · have := h i; show dy i + 1 ≤ _; omega
    · exact wd_le h gd pe fs dd i
/-- the next day on which a result begins or ceases to count -/
def ntn (dy : Nat → Nat) (dd L M : Nat) : Nat → Nat
  | 0 => M
  | i + 1 => if dd < dy i then min (ntn dy dd L M i) (dy i) else if dd < dy i + L + 1 then min (ntn dy dd L M i) (dy i + L + 1) else ntn dy dd L M i
theorem ntn_le (dy : Nat → Nat) (dd L M : Nat) : ∀ i, ntn dy dd L M i ≤ M
  | 0 => Nat.le_refl _
  | i + 1 => by
    unfold ntn
    have := ntn_le dy dd L M i
    split
    · exact Nat.le_trans (Nat.min_le_left _ _) this
    · split
      · exact Nat.le_trans (Nat.min_le_left _ _) this
      · exact this
set_option maxHeartbeats 4000000 in
set_option maxRecDepth 100000 in
theorem c_CS_isOf {l : Launch} {D : va_G} {cI cZ cO cJ : ClassId} {eA eM : Nat} {f : g_F} {q qp qd qg : Nat} {pt ot : Int32} {per dy : Nat → Nat} {gd : Nat → Bool} {ct : Nat} (hR : cs_R cI cZ f q qp qd qg pt ot per dy gd ct) (hB : cs_B per dy ct) {x y : Int32} : g_C l y_CS_isOf b_CS_isOf 3 (some .boolean) { frames := 0, cells := 0, slots := 0, locals := 0 } D g_cl (g_tys cI cZ cO cJ) (z_Z eA eM) [.ref q, .int x, .int y] f (fun r f2 => r = some (.int (bI (decide ((pt = x ∧ ot = y) ∨ (pt = y ∧ ot = x))))) ∧ f2 = f) (fun _ => False) := by
  refine g_ofW [(0, .ref q), (1, .int x), (2, .int y)] (by decide +kernel) (Nat.le_of_ble_eq_true rfl) rfl ?_
  intro p e s m args below meth c X ht hin
  obtain ⟨hQ, h0, h1, h2⟩ := id hR
  obtain ⟨hct, hper, hdy⟩ := id hB
  refine g_aload_n X d_CS_isOf_0 0 rfl ?_
  refine g_get (ci := 4) (C := R_CS) (T := F_CS) (N := 6) (v := .int pt) X i_CS rfl hQ 0 (by decide) q_269 (fun _ h9 => h9) rfl d_CS_isOf_1 ?_
  refine g_iload_n X d_CS_isOf_4 1 rfl ?_
  refine g_icmp_ne X 16 d_CS_isOf_5 (by decide) (fun c5 => ?_) (fun c5 => ?_)
  · skip
    refine g_aload_n X d_CS_isOf_16 0 rfl ?_
    refine g_get (ci := 4) (C := R_CS) (T := F_CS) (N := 6) (v := .int pt) X i_CS rfl hQ 0 (by decide) q_269 (fun _ h9 => h9) rfl d_CS_isOf_17 ?_
    refine g_iload_n X d_CS_isOf_20 2 rfl ?_
    refine g_icmp_ne X 36 d_CS_isOf_21 (by decide) (fun c21 => ?_) (fun c21 => ?_)
    · skip
      refine g_iconst (v := 0) X d_CS_isOf_36 (by decide) ?_
      exact g_zret X rfl (by decide) (⟨by rw [decide_eq_false (show ¬ ((pt = x ∧ ot = y) ∨ (pt = y ∧ ot = x)) from fun z => by rcases z with z | z <;> first | exact c5 z.1 | exact c13 z.2 | exact c21 z.1 | exact c29 z.2)]; rfl, rfl⟩) (Nat.le_of_ble_eq_true rfl) (Nat.le_of_ble_eq_true rfl) d_CS_isOf_37
    · skip
      refine g_aload_n X d_CS_isOf_24 0 rfl ?_
      refine g_get (ci := 4) (C := R_CS) (T := F_CS) (N := 6) (v := .int ot) X i_CS rfl hQ 1 (by decide) q_270 (fun _ h9 => h9) rfl d_CS_isOf_25 ?_
      refine g_iload_n X d_CS_isOf_28 1 rfl ?_
      refine g_icmp_ne X 36 d_CS_isOf_29 (by decide) (fun c29 => ?_) (fun c29 => ?_)
      · skip
        refine g_iconst (v := 0) X d_CS_isOf_36 (by decide) ?_
        exact g_zret X rfl (by decide) (⟨by rw [decide_eq_false (show ¬ ((pt = x ∧ ot = y) ∨ (pt = y ∧ ot = x)) from fun z => by rcases z with z | z <;> first | exact c5 z.1 | exact c13 z.2 | exact c21 z.1 | exact c29 z.2)]; rfl, rfl⟩) (Nat.le_of_ble_eq_true rfl) (Nat.le_of_ble_eq_true rfl) d_CS_isOf_37
      · skip
        refine g_iconst (v := 1) X d_CS_isOf_32 (by decide) ?_
        refine g_goto X 37 d_CS_isOf_33 (by decide) ?_
        exact g_zret X rfl (by decide) (⟨by rw [decide_eq_true (show (pt = x ∧ ot = y) ∨ (pt = y ∧ ot = x) by first | exact Or.inl ⟨c5, c13⟩ | exact Or.inr ⟨c21, c29⟩)]; rfl, rfl⟩) (Nat.le_of_ble_eq_true rfl) (Nat.le_of_ble_eq_true rfl) d_CS_isOf_37
  · skip
    refine g_aload_n X d_CS_isOf_8 0 rfl ?_
    refine g_get (ci := 4) (C := R_CS) (T := F_CS) (N := 6) (v := .int ot) X i_CS rfl hQ 1 (by decide) q_270 (fun _ h9 => h9) rfl d_CS_isOf_9 ?_
    refine g_iload_n X d_CS_isOf_12 2 rfl ?_
    refine g_icmp_eq X 32 d_CS_isOf_13 (by decide) (fun c13 => ?_) (fun c13 => ?_)
    · skip
      refine g_iconst (v := 1) X d_CS_isOf_32 (by decide) ?_
      refine g_goto X 37 d_CS_isOf_33 (by decide) ?_
      exact g_zret X rfl (by decide) (⟨by rw [decide_eq_true (show (pt = x ∧ ot = y) ∨ (pt = y ∧ ot = x) by first | exact Or.inl ⟨c5, c13⟩ | exact Or.inr ⟨c21, c29⟩)]; rfl, rfl⟩) (Nat.le_of_ble_eq_true rfl) (Nat.le_of_ble_eq_true rfl) d_CS_isOf_37
    · skip
      refine g_aload_n X d_CS_isOf_16 0 rfl ?_
      refine g_get (ci := 4) (C := R_CS) (T := F_CS) (N := 6) (v := .int pt) X i_CS rfl hQ 0 (by decide) q_269 (fun _ h9 => h9) rfl d_CS_isOf_17 ?_
      refine g_iload_n X d_CS_isOf_20 2 rfl ?_
      refine g_icmp_ne X 36 d_CS_isOf_21 (by decide) (fun c21 => ?_) (fun c21 => ?_)
      · skip
        refine g_iconst (v := 0) X d_CS_isOf_36 (by decide) ?_
        exact g_zret X rfl (by decide) (⟨by rw [decide_eq_false (show ¬ ((pt = x ∧ ot = y) ∨ (pt = y ∧ ot = x)) from fun z => by rcases z with z | z <;> first | exact c5 z.1 | exact c13 z.2 | exact c21 z.1 | exact c29 z.2)]; rfl, rfl⟩) (Nat.le_of_ble_eq_true rfl) (Nat.le_of_ble_eq_true rfl) d_CS_isOf_37
      · skip
        refine g_aload_n X d_CS_isOf_24 0 rfl ?_
        refine g_get (ci := 4) (C := R_CS) (T := F_CS) (N := 6) (v := .int ot) X i_CS rfl hQ 1 (by decide) q_270 (fun _ h9 => h9) rfl d_CS_isOf_25 ?_
        refine g_iload_n X d_CS_isOf_28 1 rfl ?_
        refine g_icmp_ne X 36 d_CS_isOf_29 (by decide) (fun c29 => ?_) (fun c29 => ?_)
        · skip
          refine g_iconst (v := 0) X d_CS_isOf_36 (by decide) ?_
          exact g_zret X rfl (by decide) (⟨by rw [decide_eq_false (show ¬ ((pt = x ∧ ot = y) ∨ (pt = y ∧ ot = x)) from fun z => by rcases z with z | z <;> first | exact c5 z.1 | exact c13 z.2 | exact c21 z.1 | exact c29 z.2)]; rfl, rfl⟩) (Nat.le_of_ble_eq_true rfl) (Nat.le_of_ble_eq_true rfl) d_CS_isOf_37
        · skip
          refine g_iconst (v := 1) X d_CS_isOf_32 (by decide) ?_
          refine g_goto X 37 d_CS_isOf_33 (by decide) ?_
          exact g_zret X rfl (by decide) (⟨by rw [decide_eq_true (show (pt = x ∧ ot = y) ∨ (pt = y ∧ ot = x) by first | exact Or.inl ⟨c5, c13⟩ | exact Or.inr ⟨c21, c29⟩)]; rfl, rfl⟩) (Nat.le_of_ble_eq_true rfl) (Nat.le_of_ble_eq_true rfl) d_CS_isOf_37
set_option maxHeartbeats 4000000 in
set_option maxRecDepth 100000 in
theorem c_CS_has {l : Launch} {D : va_G} {cI cZ cO cJ : ClassId} {eA eM : Nat} {f : g_F} {q qp qd qg : Nat} {pt ot : Int32} {per dy : Nat → Nat} {gd : Nat → Bool} {ct : Nat} (hR : cs_R cI cZ f q qp qd qg pt ot per dy gd ct) (hB : cs_B per dy ct) {x : Int32} : g_C l y_CS_has b_CS_has 2 (some .boolean) { frames := 0, cells := 0, slots := 0, locals := 0 } D g_cl (g_tys cI cZ cO cJ) (z_Z eA eM) [.ref q, .int x] f (fun r f2 => r = some (.int (bI (decide (pt = x ∨ ot = x)))) ∧ f2 = f) (fun _ => False) := by
  refine g_ofW [(0, .ref q), (1, .int x)] (by decide +kernel) (Nat.le_of_ble_eq_true rfl) rfl ?_
  intro p e s m args below meth c X ht hin
  obtain ⟨hQ, h0, h1, h2⟩ := id hR
  obtain ⟨hct, hper, hdy⟩ := id hB
  refine g_aload_n X d_CS_has_0 0 rfl ?_
  refine g_get (ci := 4) (C := R_CS) (T := F_CS) (N := 6) (v := .int pt) X i_CS rfl hQ 0 (by decide) q_269 (fun _ h9 => h9) rfl d_CS_has_1 ?_
  refine g_iload_n X d_CS_has_4 1 rfl ?_
  refine g_icmp_eq X 16 d_CS_has_5 (by decide) (fun c5 => ?_) (fun c5 => ?_)
  · skip
    refine g_iconst (v := 1) X d_CS_has_16 (by decide) ?_
    refine g_goto X 21 d_CS_has_17 (by decide) ?_
    exact g_zret X rfl (by decide) (⟨by rw [decide_eq_true (show pt = x ∨ ot = x by first | exact Or.inl c5 | exact Or.inr c13)]; rfl, rfl⟩) (Nat.le_of_ble_eq_true rfl) (Nat.le_of_ble_eq_true rfl) d_CS_has_21
  · skip
    refine g_aload_n X d_CS_has_8 0 rfl ?_
    refine g_get (ci := 4) (C := R_CS) (T := F_CS) (N := 6) (v := .int ot) X i_CS rfl hQ 1 (by decide) q_270 (fun _ h9 => h9) rfl d_CS_has_9 ?_
    refine g_iload_n X d_CS_has_12 1 rfl ?_
    refine g_icmp_ne X 20 d_CS_has_13 (by decide) (fun c13 => ?_) (fun c13 => ?_)
    · skip
      refine g_iconst (v := 0) X d_CS_has_20 (by decide) ?_
      exact g_zret X rfl (by decide) (⟨by rw [decide_eq_false (show ¬ (pt = x ∨ ot = x) from fun z => z.elim c5 c13)]; rfl, rfl⟩) (Nat.le_of_ble_eq_true rfl) (Nat.le_of_ble_eq_true rfl) d_CS_has_21
    · skip
      refine g_iconst (v := 1) X d_CS_has_16 (by decide) ?_
      refine g_goto X 21 d_CS_has_17 (by decide) ?_
      exact g_zret X rfl (by decide) (⟨by rw [decide_eq_true (show pt = x ∨ ot = x by first | exact Or.inl c5 | exact Or.inr c13)]; rfl, rfl⟩) (Nat.le_of_ble_eq_true rfl) (Nat.le_of_ble_eq_true rfl) d_CS_has_21
set_option maxHeartbeats 4000000 in
set_option maxRecDepth 100000 in
theorem c_CS_resultCount {l : Launch} {D : va_G} {cI cZ cO cJ : ClassId} {eA eM : Nat} {f : g_F} {q qp qd qg : Nat} {pt ot : Int32} {per dy : Nat → Nat} {gd : Nat → Bool} {ct : Nat} (hR : cs_R cI cZ f q qp qd qg pt ot per dy gd ct) (hB : cs_B per dy ct) : g_C l y_CS_resultCount b_CS_resultCount 1 (some .int) { frames := 0, cells := 0, slots := 0, locals := 0 } D g_cl (g_tys cI cZ cO cJ) (z_Z eA eM) [.ref q] f (fun r f2 => r = some (.int (nI ct)) ∧ f2 = f) (fun _ => False) := by
  refine g_ofW [(0, .ref q)] (by decide +kernel) (Nat.le_of_ble_eq_true rfl) rfl ?_
  intro p e s m args below meth c X ht hin
  obtain ⟨hQ, h0, h1, h2⟩ := id hR
  obtain ⟨hct, hper, hdy⟩ := id hB
  refine g_aload_n X d_CS_resultCount_0 0 rfl ?_
  refine g_get (ci := 4) (C := R_CS) (T := F_CS) (N := 6) (v := .int (nI ct)) X i_CS rfl hQ 5 (by decide) q_274 (fun _ h9 => h9) rfl d_CS_resultCount_1 ?_
  exact g_iret X rfl (⟨rfl, rfl⟩) (Nat.le_of_ble_eq_true rfl) (Nat.le_of_ble_eq_true rfl) d_CS_resultCount_4
set_option maxHeartbeats 4000000 in
set_option maxRecDepth 100000 in
theorem L_CS_rowOf {p : Program} {l : Launch} {e : Env} {s : State} {m : MethodId} {args : Array Value} {below : List Frame} {meth : Method} {c : Code} {Q : State → Prop} {A : Nat → Prop} {D : va_G} {cI cZ cO cJ : ClassId} {eA eM : Nat} {f : g_F} {q qp qd qg : Nat} {pt ot : Int32} {per dy : Nat → Nat} {gd : Nat → Bool} {ct : Nat} (hR : cs_R cI cZ f q qp qd qg pt ot per dy gd ct) (hB : cs_B per dy ct) {pe dd : Nat} (hpe : pe < 10) (hdd : dd < 2 ^ 30) (X : g_X p s m args meth c b_CS_rowOf 4 (some .int) g_T y_CS_rowOf.cls D g_cl (g_tys cI cZ cO cJ) A (z_Z eA eM)) (k38 : (∀ j, j < ct → ¬ (per j = pe ∧ dy j = dd)) → g_W p l e { frames := 0, cells := 0, slots := 0, locals := 0 } s m args below meth c 4 D g_cl A f 0 0 Q 38 [(3, .int (nI ct)), (0, .ref q), (1, .int (nI pe)), (2, .int (nI dd))] []) (k30 : ∀ i, i < ct → (∀ j, j < i → ¬ (per j = pe ∧ dy j = dd)) → per i = pe → dy i = dd → g_W p l e { frames := 0, cells := 0, slots := 0, locals := 0 } s m args below meth c 4 D g_cl A f 0 0 Q 30 [(3, .int (nI i)), (0, .ref q), (1, .int (nI pe)), (2, .int (nI dd))] []) : ∀ (d : Nat) (i : Nat), (i + d = ct) → (∀ j, j < i → ¬ (per j = pe ∧ dy j = dd)) → g_W p l e { frames := 0, cells := 0, slots := 0, locals := 0 } s m args below meth c 4 D g_cl A f 0 0 Q 2 [(3, .int (nI i)), (0, .ref q), (1, .int (nI pe)), (2, .int (nI dd))] [] := by
  obtain ⟨hQ, h0, h1, h2⟩ := id hR
  obtain ⟨hct, hper, hdy⟩ := id hB
  intro d
  induction d using Nat.strongRecOn with
  | _ d ih =>
    intro i hi hj
    refine g_iload_n X d_CS_rowOf_2 0 rfl ?_
    refine g_aload_n X d_CS_rowOf_3 1 rfl ?_
    refine g_get (ci := 4) (C := R_CS) (T := F_CS) (N := 6) (v := .int (nI ct)) X i_CS rfl hQ 5 (by decide) q_274 (fun _ h9 => h9) rfl d_CS_rowOf_4 ?_
    refine g_icmp_ge X 38 d_CS_rowOf_7 (by decide) (fun c7 => ?_) (fun c7 => ?_)
    · skip
      have e : i = ct := by have := (nI_leI (by omega) (by omega)).mp c7; omega
      subst e
      exact k38 hj
    · skip
      have hlt : i < ct := Nat.lt_of_not_le (fun z => c7 ((nI_leI (by omega) (by omega)).mpr z))
      refine g_aload_n X d_CS_rowOf_10 1 rfl ?_
      refine g_get (ci := 4) (C := R_CS) (T := F_CS) (N := 6) (v := .ref qp) X i_CS rfl hQ 2 (by decide) q_271 (fun _ h9 => h9) rfl d_CS_rowOf_11 ?_
      refine g_iload_n X d_CS_rowOf_14 0 rfl ?_
      refine g_iald (t0 := 0) (v := nI (per i)) X h0 rfl (nI_ix ((by omega : i < 32)) (by decide)) (nI_cl (g := fun q9 => nI (per q9)) (Nat.lt_trans ((by omega : i < 32)) (by decide))) d_CS_rowOf_15 ?_
      refine g_iload_n X d_CS_rowOf_16 2 rfl ?_
      refine g_icmp_ne X 32 d_CS_rowOf_17 (by decide) (fun c17 => ?_) (fun c17 => ?_)
      · skip
        have hne : ¬ (per i = pe ∧ dy i = dd) := fun z => c17 (by rw [z.1])
        refine g_iinc (lv' := [(3, .int (nI (i + 1))), (0, .ref q), (1, .int (nI pe)), (2, .int (nI dd))]) X d_CS_rowOf_32 0 rfl (nI_1 i) (by decide) rfl ?_
        refine g_goto X 2 d_CS_rowOf_35 (by decide) ?_
        exact ih (d - 1) (by omega) (i + 1) (by omega) (fun j h9 => by
          by_cases e : j = i
          · rw [e]; exact hne
          · exact hj j (by omega))
      · skip
        refine g_aload_n X d_CS_rowOf_20 1 rfl ?_
        refine g_get (ci := 4) (C := R_CS) (T := F_CS) (N := 6) (v := .ref qd) X i_CS rfl hQ 3 (by decide) q_272 (fun _ h9 => h9) rfl d_CS_rowOf_21 ?_
        refine g_iload_n X d_CS_rowOf_24 0 rfl ?_
        refine g_iald (t0 := 0) (v := nI (dy i)) X h1 rfl (nI_ix ((by omega : i < 32)) (by decide)) (nI_cl (g := fun q9 => nI (dy q9)) (Nat.lt_trans ((by omega : i < 32)) (by decide))) d_CS_rowOf_25 ?_
        refine g_iload_n X d_CS_rowOf_26 3 rfl ?_
        refine g_icmp_ne X 32 d_CS_rowOf_27 (by decide) (fun c27 => ?_) (fun c27 => ?_)
        · skip
          have hne : ¬ (per i = pe ∧ dy i = dd) := fun z => c27 (by rw [z.2])
          refine g_iinc (lv' := [(3, .int (nI (i + 1))), (0, .ref q), (1, .int (nI pe)), (2, .int (nI dd))]) X d_CS_rowOf_32 0 rfl (nI_1 i) (by decide) rfl ?_
          refine g_goto X 2 d_CS_rowOf_35 (by decide) ?_
          exact ih (d - 1) (by omega) (i + 1) (by omega) (fun j h9 => by
            by_cases e : j = i
            · rw [e]; exact hne
            · exact hj j (by omega))
        · skip
          exact k30 i hlt hj ((nI_eq (by have := hper i; omega) (by omega)).mp c17) ((nI_eq (by have := hdy i; omega) (by omega)).mp c27)
set_option maxHeartbeats 4000000 in
set_option maxRecDepth 100000 in
theorem c_CS_rowOf {l : Launch} {D : va_G} {cI cZ cO cJ : ClassId} {eA eM : Nat} {f : g_F} {q qp qd qg : Nat} {pt ot : Int32} {per dy : Nat → Nat} {gd : Nat → Bool} {ct : Nat} (hR : cs_R cI cZ f q qp qd qg pt ot per dy gd ct) (hB : cs_B per dy ct) {pe dd : Nat} (hpe : pe < 10) (hdd : dd < 2 ^ 30) : g_C l y_CS_rowOf b_CS_rowOf 4 (some .int) { frames := 0, cells := 0, slots := 0, locals := 0 } D g_cl (g_tys cI cZ cO cJ) (z_Z eA eM) [.ref q, .int (nI pe), .int (nI dd)] f (fun r f2 => (∃ i, i ≤ ct ∧ (∀ j, j < i → ¬ (per j = pe ∧ dy j = dd)) ∧ (i < ct → per i = pe ∧ dy i = dd) ∧ r = some (.int (nI i))) ∧ f2 = f) (fun _ => False) := by
  refine g_ofW [(0, .ref q), (1, .int (nI pe)), (2, .int (nI dd))] (by decide +kernel) (Nat.le_of_ble_eq_true rfl) rfl ?_
  intro p e s m args below meth c X ht hin
  obtain ⟨hQ, h0, h1, h2⟩ := id hR
  obtain ⟨hct, hper, hdy⟩ := id hB
  refine g_iconst (v := 0) X d_CS_rowOf_0 (by decide) ?_
  refine g_istore_n (lv' := [(3, .int 0), (0, .ref q), (1, .int (nI pe)), (2, .int (nI dd))]) X d_CS_rowOf_1 rfl (by decide) rfl ?_
  refine L_CS_rowOf hR hB hpe hdd X ?_ ?_ ct 0 (by omega) (fun j h => absurd h (by omega))
  · intro hj
    refine g_aload_n X d_CS_rowOf_38 1 rfl ?_
    refine g_get (ci := 4) (C := R_CS) (T := F_CS) (N := 6) (v := .int (nI ct)) X i_CS rfl hQ 5 (by decide) q_274 (fun _ h9 => h9) rfl d_CS_rowOf_39 ?_
    exact g_iret X rfl (⟨⟨ct, Nat.le_refl _, hj, fun h => absurd h (Nat.lt_irrefl _), rfl⟩, rfl⟩) (Nat.le_of_ble_eq_true rfl) (Nat.le_of_ble_eq_true rfl) d_CS_rowOf_42
  · intro i hi hj h3 h4
    refine g_iload_n X d_CS_rowOf_30 0 rfl ?_
    exact g_iret X rfl (⟨⟨i, Nat.le_of_lt hi, hj, fun _ => ⟨h3, h4⟩, rfl⟩, rfl⟩) (Nat.le_of_ble_eq_true rfl) (Nat.le_of_ble_eq_true rfl) d_CS_rowOf_31
set_option maxHeartbeats 4000000 in
set_option maxRecDepth 100000 in
theorem c_CS_tell {l : Launch} {D : va_G} {cI cZ cO cJ : ClassId} {eA eM : Nat} {f : g_F} {q qp qd qg : Nat} {pt ot : Int32} {per dy : Nat → Nat} {gd : Nat → Bool} {ct : Nat} (hR : cs_R cI cZ f q qp qd qg pt ot per dy gd ct) (hB : cs_B per dy ct) (hI1 : qp ≠ qd) (hI2 : qp ≠ qg) (hI3 : qd ≠ qg) {i pe dd : Nat} {b : Bool} (hi : i < 32) : g_C l y_CS_tell b_CS_tell 5 none { frames := 1, cells := 0, slots := 0, locals := 21 } D g_cl (g_tys cI cZ cO cJ) (z_Z eA eM) [.ref q, .int (nI i), .int (nI pe), .int (nI dd), .int (bI b)] f (fun r f2 => r = none ∧ f2 = g_u (g_u (g_u (g_u f qp (.inl (cI, 32, .inl (fun q9 => nI ((va_up per i pe) q9))))) qd (.inl (cI, 32, .inl (fun q9 => nI ((va_up dy i dd) q9))))) qg (.inl (cZ, 32, .inl (fun q9 => bI ((va_up gd i b) q9))))) q (.inr (4, [.int pt, .int ot, .ref qp, .ref qd, .ref qg, .int (nI (max ct (i + 1)))]))) (fun _ => False) := by
  refine g_ofW [(0, .ref q), (1, .int (nI i)), (2, .int (nI pe)), (3, .int (nI dd)), (4, .int (bI b))] (by decide +kernel) (Nat.le_of_ble_eq_true rfl) rfl ?_
  intro p e s m args below meth c X ht hin
  obtain ⟨hQ, h0, h1, h2⟩ := id hR
  obtain ⟨hct, hper, hdy⟩ := id hB
  refine g_iload_n X d_CS_tell_0 1 rfl ?_
  refine g_if_lt X 10 d_CS_tell_1 (by decide) (fun c1 => ?_) (fun c1 => ?_)
  · skip
    exact absurd c1 (nI_pos (by omega))
  · skip
    refine g_iload_n X d_CS_tell_4 1 rfl ?_
    refine g_bipush (v := 32) X d_CS_tell_5 (by decide) ?_
    refine g_icmp_lt X 11 d_CS_tell_7 (by decide) (fun c7 => ?_) (fun c7 => ?_)
    · skip
      refine g_aload_n X d_CS_tell_11 0 rfl ?_
      refine g_get (ci := 4) (C := R_CS) (T := F_CS) (N := 6) (v := .ref qp) X i_CS rfl hQ 2 (by decide) q_271 (fun _ h9 => h9) rfl d_CS_tell_12 ?_
      refine g_iload_n X d_CS_tell_15 1 rfl ?_
      refine g_iload_n X d_CS_tell_16 2 rfl ?_
      refine g_iast (t0 := 0) (g2 := fun q9 => nI ((va_up per i pe) q9)) X h0 rfl (nI_ix (hi) (by decide)) (upd_nI (g := per) (Nat.lt_trans (hi) (by decide))) d_CS_tell_17 ?_
      generalize ef_1 : g_u f qp (.inl (cI, 32, .inl (fun q9 => nI ((va_up per i pe) q9)))) = f_1
      have h_2 : f_1 q = some (.inr (4, [.int pt, .int ot, .ref qp, .ref qd, .ref qg, .int (nI ct)])) := by rw [← ef_1]; exact (g_u_n (tu_ne hQ h0)).trans hQ
      have h_3 : f_1 qp = some (.inl (cI, 32, .inl (fun q9 => nI ((va_up per i pe) q9)))) := by rw [← ef_1]; exact g_u_s
      have h_4 : f_1 qd = some (.inl (cI, 32, .inl (fun q9 => nI (dy q9)))) := by rw [← ef_1]; exact (g_u_n (Ne.symm hI1)).trans h1
      have h_5 : f_1 qg = some (.inl (cZ, 32, .inl (fun q9 => bI (gd q9)))) := by rw [← ef_1]; exact (g_u_n (Ne.symm hI2)).trans h2
      refine g_aload_n X d_CS_tell_18 0 rfl ?_
      refine g_get (ci := 4) (C := R_CS) (T := F_CS) (N := 6) (v := .ref qd) X i_CS rfl h_2 3 (by decide) q_272 (fun _ h9 => h9) rfl d_CS_tell_19 ?_
      refine g_iload_n X d_CS_tell_22 1 rfl ?_
      refine g_iload_n X d_CS_tell_23 3 rfl ?_
      refine g_iast (t0 := 0) (g2 := fun q9 => nI ((va_up dy i dd) q9)) X h_4 rfl (nI_ix (hi) (by decide)) (upd_nI (g := dy) (Nat.lt_trans (hi) (by decide))) d_CS_tell_24 ?_
      generalize ef_6 : g_u f_1 qd (.inl (cI, 32, .inl (fun q9 => nI ((va_up dy i dd) q9)))) = f_6
      have h_7 : f_6 q = some (.inr (4, [.int pt, .int ot, .ref qp, .ref qd, .ref qg, .int (nI ct)])) := by rw [← ef_6]; exact (g_u_n (tu_ne h_2 h_4)).trans h_2
      have h_8 : f_6 qp = some (.inl (cI, 32, .inl (fun q9 => nI ((va_up per i pe) q9)))) := by rw [← ef_6]; exact (g_u_n (hI1)).trans h_3
      have h_9 : f_6 qd = some (.inl (cI, 32, .inl (fun q9 => nI ((va_up dy i dd) q9)))) := by rw [← ef_6]; exact g_u_s
      have h_10 : f_6 qg = some (.inl (cZ, 32, .inl (fun q9 => bI (gd q9)))) := by rw [← ef_6]; exact (g_u_n (Ne.symm hI3)).trans h_5
      refine g_aload_n X d_CS_tell_25 0 rfl ?_
      refine g_get (ci := 4) (C := R_CS) (T := F_CS) (N := 6) (v := .ref qg) X i_CS rfl h_7 4 (by decide) q_273 (fun _ h9 => h9) rfl d_CS_tell_26 ?_
      refine g_iload_n X d_CS_tell_29 1 rfl ?_
      refine g_iload X d_CS_tell_30 4 rfl ?_
      refine g_zast (t0 := 1) (g2 := fun q9 => bI ((va_up gd i b) q9)) X h_10 rfl (nI_ix hi (by decide)) (upd_bI (Nat.lt_trans hi (by decide))) d_CS_tell_32 ?_
      generalize ef_11 : g_u f_6 qg (.inl (cZ, 32, .inl (fun q9 => bI ((va_up gd i b) q9)))) = f_11
      have h_12 : f_11 q = some (.inr (4, [.int pt, .int ot, .ref qp, .ref qd, .ref qg, .int (nI ct)])) := by rw [← ef_11]; exact (g_u_n (tu_ne h_7 h_10)).trans h_7
      have h_13 : f_11 qp = some (.inl (cI, 32, .inl (fun q9 => nI ((va_up per i pe) q9)))) := by rw [← ef_11]; exact (g_u_n (hI2)).trans h_8
      have h_14 : f_11 qd = some (.inl (cI, 32, .inl (fun q9 => nI ((va_up dy i dd) q9)))) := by rw [← ef_11]; exact (g_u_n (hI3)).trans h_9
      have h_15 : f_11 qg = some (.inl (cZ, 32, .inl (fun q9 => bI ((va_up gd i b) q9)))) := by rw [← ef_11]; exact g_u_s
      refine g_aload_n X d_CS_tell_33 0 rfl ?_
      refine g_aload_n X d_CS_tell_34 0 rfl ?_
      refine g_get (ci := 4) (C := R_CS) (T := F_CS) (N := 6) (v := .int (nI ct)) X i_CS rfl h_12 5 (by decide) q_274 (fun _ h9 => h9) rfl d_CS_tell_35 ?_
      refine g_iload_n X d_CS_tell_38 1 rfl ?_
      refine g_iconst (v := 1) X d_CS_tell_39 (by decide) ?_
      refine g_iadd X d_CS_tell_40 ?_
      refine g_eqi (y := nI (i + 1)) (nI_1 i) ?_
      refine g_mmax (a := ct) (b := i + 1) X q_424 (by omega) (by omega) (Nat.le_of_ble_eq_true rfl) (Nat.le_of_ble_eq_true rfl) (Nat.le_of_ble_eq_true rfl) (Nat.le_of_ble_eq_true rfl) d_CS_tell_41 ?_
      refine g_put (ci := 4) (C := R_CS) (T := F_CS) (N := 6) (ty := .int) (fs2 := [.int pt, .int ot, .ref qp, .ref qd, .ref qg, .int (nI (max ct (i + 1)))]) X i_CS t_CS t_CS_ok n_CS rfl h_12 5 (by decide) q_274 (fun _ h9 => h9) rfl (by decide +kernel) rfl rfl (Nat.le_of_ble_eq_true rfl) rfl d_CS_tell_44 ?_
      generalize ef_16 : g_u f_11 q (.inr (4, [.int pt, .int ot, .ref qp, .ref qd, .ref qg, .int (nI (max ct (i + 1)))])) = f_16
      have h_17 : f_16 q = some (.inr (4, [.int pt, .int ot, .ref qp, .ref qd, .ref qg, .int (nI (max ct (i + 1)))])) := by rw [← ef_16]; exact g_u_s
      have h_18 : f_16 qp = some (.inl (cI, 32, .inl (fun q9 => nI ((va_up per i pe) q9)))) := by rw [← ef_16]; exact (g_u_n (Ne.symm (tu_ne h_12 h_13))).trans h_13
      have h_19 : f_16 qd = some (.inl (cI, 32, .inl (fun q9 => nI ((va_up dy i dd) q9)))) := by rw [← ef_16]; exact (g_u_n (Ne.symm (tu_ne h_12 h_14))).trans h_14
      have h_20 : f_16 qg = some (.inl (cZ, 32, .inl (fun q9 => bI ((va_up gd i b) q9)))) := by rw [← ef_16]; exact (g_u_n (Ne.symm (tu_ne h_12 h_15))).trans h_15
      exact g_vret X rfl (⟨rfl, by rw [← ef_16, ← ef_11, ← ef_6, ← ef_1]⟩) (Nat.le_of_ble_eq_true rfl) (Nat.le_of_ble_eq_true rfl) d_CS_tell_47
    · skip
      exact absurd ((nI_ltI (b := 32) (by omega) (by decide)).mpr hi) c7
set_option maxHeartbeats 4000000 in
set_option maxRecDepth 100000 in
theorem L_CS_wordOf {p : Program} {l : Launch} {e : Env} {s : State} {m : MethodId} {args : Array Value} {below : List Frame} {meth : Method} {c : Code} {Q : State → Prop} {A : Nat → Prop} {D : va_G} {cI cZ cO cJ : ClassId} {eA eM : Nat} {f : g_F} {q qp qd qg : Nat} {pt ot : Int32} {per dy : Nat → Nat} {gd : Nat → Bool} {ct : Nat} (hR : cs_R cI cZ f q qp qd qg pt ot per dy gd ct) (hB : cs_B per dy ct) {pe dd : Nat} {fs : Int32} (hpe : pe < 10) (hdd : dd < 2 ^ 30) (X : g_X p s m args meth c b_CS_wordOf 7 (some .int) g_T y_CS_wordOf.cls D g_cl (g_tys cI cZ cO cJ) A (z_Z eA eM)) (kk : g_W p l e { frames := 0, cells := 0, slots := 0, locals := 0 } s m args below meth c 7 D g_cl A f 0 0 Q 95 [(6, .int (nI ct)), (5, .int ((wd per dy gd pe fs dd ct).2)), (4, .int (fI (wd per dy gd pe fs dd ct).1)), (0, .ref q), (1, .int (nI pe)), (2, .int fs), (3, .int (nI dd))] []) : ∀ (d : Nat) (i : Nat), (i + d = ct) → g_W p l e { frames := 0, cells := 0, slots := 0, locals := 0 } s m args below meth c 7 D g_cl A f 0 0 Q 9 [(6, .int (nI i)), (5, .int ((wd per dy gd pe fs dd i).2)), (4, .int (fI (wd per dy gd pe fs dd i).1)), (0, .ref q), (1, .int (nI pe)), (2, .int fs), (3, .int (nI dd))] [] := by
  obtain ⟨hQ, h0, h1, h2⟩ := id hR
  obtain ⟨hct, hper, hdy⟩ := id hB
  intro d
  induction d using Nat.strongRecOn with
  | _ d ih =>
    intro i hi
    refine g_iload X d_CS_wordOf_9 0 rfl ?_
    refine g_aload_n X d_CS_wordOf_11 3 rfl ?_
    refine g_get (ci := 4) (C := R_CS) (T := F_CS) (N := 6) (v := .int (nI ct)) X i_CS rfl hQ 5 (by decide) q_274 (fun _ h9 => h9) rfl d_CS_wordOf_12 ?_
    refine g_icmp_ge X 95 d_CS_wordOf_15 (by decide) (fun c15 => ?_) (fun c15 => ?_)
    · skip
      have e : i = ct := by have := (nI_leI (by omega) (by omega)).mp c15; omega
      subst e
      exact kk
    · skip
      have hlt : i < ct := Nat.lt_of_not_le (fun z => c15 ((nI_leI (by omega) (by omega)).mpr z))
      have hla := wd_le (per := per) hdy gd pe fs dd i
      have hdi := hdy i
      have hpi := hper i
      refine g_aload_n X d_CS_wordOf_18 3 rfl ?_
      refine g_get (ci := 4) (C := R_CS) (T := F_CS) (N := 6) (v := .ref qp) X i_CS rfl hQ 2 (by decide) q_271 (fun _ h9 => h9) rfl d_CS_wordOf_19 ?_
      refine g_iload X d_CS_wordOf_22 0 rfl ?_
      refine g_iald (t0 := 0) (v := nI (per i)) X h0 rfl (nI_ix ((by omega : i < 32)) (by decide)) (nI_cl (g := fun q9 => nI (per q9)) (Nat.lt_trans ((by omega : i < 32)) (by decide))) d_CS_wordOf_24 ?_
      refine g_iload_n X d_CS_wordOf_25 4 rfl ?_
      refine g_icmp_ne X 89 d_CS_wordOf_26 (by decide) (fun c26 => ?_) (fun c26 => ?_)
      · skip
        have e : wd per dy gd pe fs dd (i + 1) = wd per dy gd pe fs dd i := if_neg (fun z => c26 (by rw [z.1]))
        refine g_iinc (lv' := [(6, .int (nI (i + 1))), (5, .int ((wd per dy gd pe fs dd i).2)), (4, .int (fI (wd per dy gd pe fs dd i).1)), (0, .ref q), (1, .int (nI pe)), (2, .int fs), (3, .int (nI dd))]) X d_CS_wordOf_89 0 rfl (nI_1 i) (by decide) rfl ?_
        refine g_goto X 9 d_CS_wordOf_92 (by decide) ?_
        refine g_lv (lv' := [(6, .int (nI (i + 1))), (5, .int ((wd per dy gd pe fs dd (i + 1)).2)), (4, .int (fI (wd per dy gd pe fs dd (i + 1)).1)), (0, .ref q), (1, .int (nI pe)), (2, .int fs), (3, .int (nI dd))]) [0, 1, 2, 3, 4, 5, 6] (by rw [e]; rfl) (ih (d - 1) (by omega) (i + 1) (by omega))
      · skip
        have h26 : per i = pe := (nI_eq (by omega) (by omega)).mp c26
        refine g_aload_n X d_CS_wordOf_29 3 rfl ?_
        refine g_get (ci := 4) (C := R_CS) (T := F_CS) (N := 6) (v := .ref qd) X i_CS rfl hQ 3 (by decide) q_272 (fun _ h9 => h9) rfl d_CS_wordOf_30 ?_
        refine g_iload X d_CS_wordOf_33 0 rfl ?_
        refine g_iald (t0 := 0) (v := nI (dy i)) X h1 rfl (nI_ix ((by omega : i < 32)) (by decide)) (nI_cl (g := fun q9 => nI (dy q9)) (Nat.lt_trans ((by omega : i < 32)) (by decide))) d_CS_wordOf_35 ?_
        refine g_iload_n X d_CS_wordOf_36 5 rfl ?_
        refine g_icmp_lt X 89 d_CS_wordOf_37 (by decide) (fun c37 => ?_) (fun c37 => ?_)
        · skip
          have e : wd per dy gd pe fs dd (i + 1) = wd per dy gd pe fs dd i := if_neg (fun z => z.2.1 c37)
          refine g_iinc (lv' := [(6, .int (nI (i + 1))), (5, .int ((wd per dy gd pe fs dd i).2)), (4, .int (fI (wd per dy gd pe fs dd i).1)), (0, .ref q), (1, .int (nI pe)), (2, .int fs), (3, .int (nI dd))]) X d_CS_wordOf_89 0 rfl (nI_1 i) (by decide) rfl ?_
          refine g_goto X 9 d_CS_wordOf_92 (by decide) ?_
          refine g_lv (lv' := [(6, .int (nI (i + 1))), (5, .int ((wd per dy gd pe fs dd (i + 1)).2)), (4, .int (fI (wd per dy gd pe fs dd (i + 1)).1)), (0, .ref q), (1, .int (nI pe)), (2, .int fs), (3, .int (nI dd))]) [0, 1, 2, 3, 4, 5, 6] (by rw [e]; rfl) (ih (d - 1) (by omega) (i + 1) (by omega))
        · skip
          refine g_aload_n X d_CS_wordOf_40 3 rfl ?_
          refine g_get (ci := 4) (C := R_CS) (T := F_CS) (N := 6) (v := .ref qd) X i_CS rfl hQ 3 (by decide) q_272 (fun _ h9 => h9) rfl d_CS_wordOf_41 ?_
          refine g_iload X d_CS_wordOf_44 0 rfl ?_
          refine g_iald (t0 := 0) (v := nI (dy i)) X h1 rfl (nI_ix ((by omega : i < 32)) (by decide)) (nI_cl (g := fun q9 => nI (dy q9)) (Nat.lt_trans ((by omega : i < 32)) (by decide))) d_CS_wordOf_46 ?_
          refine g_iload_n X d_CS_wordOf_47 6 rfl ?_
          refine g_icmp_gt X 89 d_CS_wordOf_48 (by decide) (fun c48 => ?_) (fun c48 => ?_)
          · skip
            have e : wd per dy gd pe fs dd (i + 1) = wd per dy gd pe fs dd i := if_neg (fun z => absurd z.2.2.1 (Nat.not_le.mpr ((nI_ltI (by omega) (by omega)).mp c48)))
            refine g_iinc (lv' := [(6, .int (nI (i + 1))), (5, .int ((wd per dy gd pe fs dd i).2)), (4, .int (fI (wd per dy gd pe fs dd i).1)), (0, .ref q), (1, .int (nI pe)), (2, .int fs), (3, .int (nI dd))]) X d_CS_wordOf_89 0 rfl (nI_1 i) (by decide) rfl ?_
            refine g_goto X 9 d_CS_wordOf_92 (by decide) ?_
            refine g_lv (lv' := [(6, .int (nI (i + 1))), (5, .int ((wd per dy gd pe fs dd (i + 1)).2)), (4, .int (fI (wd per dy gd pe fs dd (i + 1)).1)), (0, .ref q), (1, .int (nI pe)), (2, .int fs), (3, .int (nI dd))]) [0, 1, 2, 3, 4, 5, 6] (by rw [e]; rfl) (ih (d - 1) (by omega) (i + 1) (by omega))
          · skip
            have h48 : dy i ≤ dd := Nat.le_of_not_lt (fun z => c48 ((nI_ltI (by omega) (by omega)).mpr z))
            refine g_aload_n X d_CS_wordOf_51 3 rfl ?_
            refine g_get (ci := 4) (C := R_CS) (T := F_CS) (N := 6) (v := .ref qd) X i_CS rfl hQ 3 (by decide) q_272 (fun _ h9 => h9) rfl d_CS_wordOf_52 ?_
            refine g_iload X d_CS_wordOf_55 0 rfl ?_
            refine g_iald (t0 := 0) (v := nI (dy i)) X h1 rfl (nI_ix ((by omega : i < 32)) (by decide)) (nI_cl (g := fun q9 => nI (dy q9)) (Nat.lt_trans ((by omega : i < 32)) (by decide))) d_CS_wordOf_57 ?_
            refine g_iload X d_CS_wordOf_58 2 rfl ?_
            refine g_icmp_le X 89 d_CS_wordOf_60 (by decide) (fun c60 => ?_) (fun c60 => ?_)
            · skip
              have e : wd per dy gd pe fs dd (i + 1) = wd per dy gd pe fs dd i := if_neg (fun z => absurd z.2.2.2 (Nat.not_lt.mpr ((fI_le (by omega) (by omega)).mp c60)))
              refine g_iinc (lv' := [(6, .int (nI (i + 1))), (5, .int ((wd per dy gd pe fs dd i).2)), (4, .int (fI (wd per dy gd pe fs dd i).1)), (0, .ref q), (1, .int (nI pe)), (2, .int fs), (3, .int (nI dd))]) X d_CS_wordOf_89 0 rfl (nI_1 i) (by decide) rfl ?_
              refine g_goto X 9 d_CS_wordOf_92 (by decide) ?_
              refine g_lv (lv' := [(6, .int (nI (i + 1))), (5, .int ((wd per dy gd pe fs dd (i + 1)).2)), (4, .int (fI (wd per dy gd pe fs dd (i + 1)).1)), (0, .ref q), (1, .int (nI pe)), (2, .int fs), (3, .int (nI dd))]) [0, 1, 2, 3, 4, 5, 6] (by rw [e]; rfl) (ih (d - 1) (by omega) (i + 1) (by omega))
            · skip
              have e : wd per dy gd pe fs dd (i + 1) = (dy i + 1, bI (gd i)) := if_pos ⟨h26, c37, h48, Nat.lt_of_not_le (fun z => c60 ((fI_le (by omega) (by omega)).mpr z))⟩
              refine g_aload_n X d_CS_wordOf_63 3 rfl ?_
              refine g_get (ci := 4) (C := R_CS) (T := F_CS) (N := 6) (v := .ref qd) X i_CS rfl hQ 3 (by decide) q_272 (fun _ h9 => h9) rfl d_CS_wordOf_64 ?_
              refine g_iload X d_CS_wordOf_67 0 rfl ?_
              refine g_iald (t0 := 0) (v := nI (dy i)) X h1 rfl (nI_ix ((by omega : i < 32)) (by decide)) (nI_cl (g := fun q9 => nI (dy q9)) (Nat.lt_trans ((by omega : i < 32)) (by decide))) d_CS_wordOf_69 ?_
              refine g_istore (lv' := [(4, .int (nI (dy i))), (6, .int (nI i)), (5, .int ((wd per dy gd pe fs dd i).2)), (0, .ref q), (1, .int (nI pe)), (2, .int fs), (3, .int (nI dd))]) X d_CS_wordOf_70 (by decide) rfl ?_
              refine g_aload_n X d_CS_wordOf_72 3 rfl ?_
              refine g_get (ci := 4) (C := R_CS) (T := F_CS) (N := 6) (v := .ref qg) X i_CS rfl hQ 4 (by decide) q_273 (fun _ h9 => h9) rfl d_CS_wordOf_73 ?_
              refine g_iload X d_CS_wordOf_76 1 rfl ?_
              refine g_zald (t0 := 1) (v := bI (gd i)) X h2 rfl (nI_ix (by omega : i < 32) (by decide)) (nI_cl (g := fun q9 => bI (gd q9)) (by omega)) d_CS_wordOf_78 ?_
              refine g_if_eq X 86 d_CS_wordOf_79 (by decide) (fun c79 => ?_) (fun c79 => ?_)
              · skip
                refine g_iconst (v := 0) X d_CS_wordOf_86 (by decide) ?_
                refine g_istore (lv' := [(5, .int 0), (4, .int (nI (dy i))), (6, .int (nI i)), (0, .ref q), (1, .int (nI pe)), (2, .int fs), (3, .int (nI dd))]) X d_CS_wordOf_87 (by decide) rfl ?_
                refine g_iinc (lv' := [(6, .int (nI (i + 1))), (5, .int 0), (4, .int (nI (dy i))), (0, .ref q), (1, .int (nI pe)), (2, .int fs), (3, .int (nI dd))]) X d_CS_wordOf_89 2 rfl (nI_1 i) (by decide) rfl ?_
                refine g_goto X 9 d_CS_wordOf_92 (by decide) ?_
                refine g_lv (lv' := [(6, .int (nI (i + 1))), (5, .int ((wd per dy gd pe fs dd (i + 1)).2)), (4, .int (fI (wd per dy gd pe fs dd (i + 1)).1)), (0, .ref q), (1, .int (nI pe)), (2, .int fs), (3, .int (nI dd))]) [0, 1, 2, 3, 4, 5, 6] (by rw [e, fI_s, show bI (gd i) = 0 by rw [bI_z.mp c79]; rfl]; rfl) (ih (d - 1) (by omega) (i + 1) (by omega))
              · skip
                refine g_iconst (v := 1) X d_CS_wordOf_82 (by decide) ?_
                refine g_goto X 87 d_CS_wordOf_83 (by decide) ?_
                refine g_istore (lv' := [(5, .int 1), (4, .int (nI (dy i))), (6, .int (nI i)), (0, .ref q), (1, .int (nI pe)), (2, .int fs), (3, .int (nI dd))]) X d_CS_wordOf_87 (by decide) rfl ?_
                refine g_iinc (lv' := [(6, .int (nI (i + 1))), (5, .int 1), (4, .int (nI (dy i))), (0, .ref q), (1, .int (nI pe)), (2, .int fs), (3, .int (nI dd))]) X d_CS_wordOf_89 2 rfl (nI_1 i) (by decide) rfl ?_
                refine g_goto X 9 d_CS_wordOf_92 (by decide) ?_
                refine g_lv (lv' := [(6, .int (nI (i + 1))), (5, .int ((wd per dy gd pe fs dd (i + 1)).2)), (4, .int (fI (wd per dy gd pe fs dd (i + 1)).1)), (0, .ref q), (1, .int (nI pe)), (2, .int fs), (3, .int (nI dd))]) [0, 1, 2, 3, 4, 5, 6] (by rw [e, fI_s, show bI (gd i) = 1 by rw [bt_nf (fun z => c79 (bI_z.mpr z))]; rfl]; rfl) (ih (d - 1) (by omega) (i + 1) (by omega))
set_option maxHeartbeats 4000000 in
set_option maxRecDepth 100000 in
theorem c_CS_wordOf {l : Launch} {D : va_G} {cI cZ cO cJ : ClassId} {eA eM : Nat} {f : g_F} {q qp qd qg : Nat} {pt ot : Int32} {per dy : Nat → Nat} {gd : Nat → Bool} {ct : Nat} (hR : cs_R cI cZ f q qp qd qg pt ot per dy gd ct) (hB : cs_B per dy ct) {pe dd : Nat} {fs : Int32} (hpe : pe < 10) (hdd : dd < 2 ^ 30) : g_C l y_CS_wordOf b_CS_wordOf 7 (some .int) { frames := 0, cells := 0, slots := 0, locals := 0 } D g_cl (g_tys cI cZ cO cJ) (z_Z eA eM) [.ref q, .int (nI pe), .int fs, .int (nI dd)] f (fun r f2 => r = some (.int (wd per dy gd pe fs dd ct).2) ∧ f2 = f) (fun _ => False) := by
  refine g_ofW [(0, .ref q), (1, .int (nI pe)), (2, .int fs), (3, .int (nI dd))] (by decide +kernel) (Nat.le_of_ble_eq_true rfl) rfl ?_
  intro p e s m args below meth c X ht hin
  refine g_iconst (v := (-1)) X d_CS_wordOf_0 (by decide) ?_
  refine g_istore (lv' := [(4, .int (-1)), (0, .ref q), (1, .int (nI pe)), (2, .int fs), (3, .int (nI dd))]) X d_CS_wordOf_1 (by decide) rfl ?_
  refine g_iconst (v := (-1)) X d_CS_wordOf_3 (by decide) ?_
  refine g_istore (lv' := [(5, .int (-1)), (4, .int (-1)), (0, .ref q), (1, .int (nI pe)), (2, .int fs), (3, .int (nI dd))]) X d_CS_wordOf_4 (by decide) rfl ?_
  refine g_iconst (v := 0) X d_CS_wordOf_6 (by decide) ?_
  refine g_istore (lv' := [(6, .int 0), (5, .int (-1)), (4, .int (-1)), (0, .ref q), (1, .int (nI pe)), (2, .int fs), (3, .int (nI dd))]) X d_CS_wordOf_7 (by decide) rfl ?_
  refine g_lv [0, 1, 2, 3, 4, 5, 6] rfl (L_CS_wordOf hR hB hpe hdd X ?_ ct 0 (by omega))
  exact g_iload X d_CS_wordOf_95 1 rfl (g_iret X rfl ⟨rfl, rfl⟩ (Nat.le_of_ble_eq_true rfl) (Nat.le_of_ble_eq_true rfl) d_CS_wordOf_97)
set_option maxHeartbeats 4000000 in
set_option maxRecDepth 100000 in
theorem L_CS_nextTurn {p : Program} {l : Launch} {e : Env} {s : State} {m : MethodId} {args : Array Value} {below : List Frame} {meth : Method} {c : Code} {Q : State → Prop} {A : Nat → Prop} {D : va_G} {cI cZ cO cJ : ClassId} {eA eM : Nat} {f : g_F} {q qp qd qg : Nat} {pt ot : Int32} {per dy : Nat → Nat} {gd : Nat → Bool} {ct : Nat} (hR : cs_R cI cZ f q qp qd qg pt ot per dy gd ct) (hB : cs_B per dy ct) {dd L M : Nat} (hdd : dd < 2 ^ 30) (hL : L ≤ 5000) (hM : M < 2 ^ 30) (X : g_X p s m args meth c b_CS_nextTurn 7 (some .int) g_T y_CS_nextTurn.cls D g_cl (g_tys cI cZ cO cJ) A (z_Z eA eM)) (kk : g_W p l e { frames := 1, cells := 0, slots := 0, locals := 21 } s m args below meth c 7 D g_cl A f 0 0 Q 77 [(5, .int (nI ct)), (4, .int (nI (ntn dy dd L M ct))), (0, .ref q), (1, .int (nI dd)), (2, .int (nI L)), (3, .int (nI M))] []) : ∀ (d : Nat) (i : Nat), (i + d = ct) → g_W p l e { frames := 1, cells := 0, slots := 0, locals := 21 } s m args below meth c 7 D g_cl A f 0 0 Q 6 [(5, .int (nI i)), (4, .int (nI (ntn dy dd L M i))), (0, .ref q), (1, .int (nI dd)), (2, .int (nI L)), (3, .int (nI M))] [] := by
  obtain ⟨hQ, h0, h1, h2⟩ := id hR
  obtain ⟨hct, hper, hdy⟩ := id hB
  intro d
  induction d using Nat.strongRecOn with
  | _ d ih =>
    intro i hi
    refine g_iload X d_CS_nextTurn_6 0 rfl ?_
    refine g_aload_n X d_CS_nextTurn_8 2 rfl ?_
    refine g_get (ci := 4) (C := R_CS) (T := F_CS) (N := 6) (v := .int (nI ct)) X i_CS rfl hQ 5 (by decide) q_274 (fun _ h9 => h9) rfl d_CS_nextTurn_9 ?_
    refine g_icmp_ge X 77 d_CS_nextTurn_12 (by decide) (fun c12 => ?_) (fun c12 => ?_)
    · skip
      have e : i = ct := by have := (nI_leI (by omega) (by omega)).mp c12; omega
      subst e
      exact kk
    · skip
      have hlt : i < ct := Nat.lt_of_not_le (fun z => c12 ((nI_leI (by omega) (by omega)).mpr z))
      have hnl := ntn_le dy dd L M i
      have hdi := hdy i
      refine g_aload_n X d_CS_nextTurn_15 2 rfl ?_
      refine g_get (ci := 4) (C := R_CS) (T := F_CS) (N := 6) (v := .ref qd) X i_CS rfl hQ 3 (by decide) q_272 (fun _ h9 => h9) rfl d_CS_nextTurn_16 ?_
      refine g_iload X d_CS_nextTurn_19 0 rfl ?_
      refine g_iald (t0 := 0) (v := nI (dy i)) X h1 rfl (nI_ix ((by omega : i < 32)) (by decide)) (nI_cl (g := fun q9 => nI (dy q9)) (Nat.lt_trans ((by omega : i < 32)) (by decide))) d_CS_nextTurn_21 ?_
      refine g_iload_n X d_CS_nextTurn_22 4 rfl ?_
      refine g_iadd X d_CS_nextTurn_23 ?_
      refine g_eqi (y := nI (dy i + L)) (nI_add _ _) ?_
      refine g_iconst (v := 1) X d_CS_nextTurn_24 (by decide) ?_
      refine g_iadd X d_CS_nextTurn_25 ?_
      refine g_eqi (y := nI (dy i + L + 1)) (nI_1 _) ?_
      refine g_istore (lv' := [(6, .int (nI (dy i + L + 1))), (5, .int (nI i)), (4, .int (nI (ntn dy dd L M i))), (0, .ref q), (1, .int (nI dd)), (2, .int (nI L)), (3, .int (nI M))]) X d_CS_nextTurn_26 (by decide) rfl ?_
      refine g_aload_n X d_CS_nextTurn_28 3 rfl ?_
      refine g_get (ci := 4) (C := R_CS) (T := F_CS) (N := 6) (v := .ref qd) X i_CS rfl hQ 3 (by decide) q_272 (fun _ h9 => h9) rfl d_CS_nextTurn_29 ?_
      refine g_iload X d_CS_nextTurn_32 1 rfl ?_
      refine g_iald (t0 := 0) (v := nI (dy i)) X h1 rfl (nI_ix ((by omega : i < 32)) (by decide)) (nI_cl (g := fun q9 => nI (dy q9)) (Nat.lt_trans ((by omega : i < 32)) (by decide))) d_CS_nextTurn_34 ?_
      refine g_iload_n X d_CS_nextTurn_35 4 rfl ?_
      refine g_icmp_le X 56 d_CS_nextTurn_36 (by decide) (fun c36 => ?_) (fun c36 => ?_)
      · skip
        have h36 : ¬ dd < dy i := Nat.not_lt.mpr ((nI_leI (by omega) (by omega)).mp c36)
        refine g_iload X d_CS_nextTurn_56 0 rfl ?_
        refine g_iload_n X d_CS_nextTurn_58 4 rfl ?_
        refine g_icmp_le X 71 d_CS_nextTurn_59 (by decide) (fun c59 => ?_) (fun c59 => ?_)
        · skip
          have e : ntn dy dd L M (i + 1) = ntn dy dd L M i := (if_neg h36).trans (if_neg (Nat.not_lt.mpr ((nI_leI (by omega) (by omega)).mp c59)))
          refine g_iinc (lv' := [(5, .int (nI (i + 1))), (6, .int (nI (dy i + L + 1))), (4, .int (nI (ntn dy dd L M i))), (0, .ref q), (1, .int (nI dd)), (2, .int (nI L)), (3, .int (nI M))]) X d_CS_nextTurn_71 1 rfl (nI_1 i) (by decide) rfl ?_
          refine g_goto X 6 d_CS_nextTurn_74 (by decide) ?_
          refine g_lv (lv' := [(5, .int (nI (i + 1))), (4, .int (nI (ntn dy dd L M (i + 1)))), (0, .ref q), (1, .int (nI dd)), (2, .int (nI L)), (3, .int (nI M))]) [0, 2, 3, 4, 5, 6] (by rw [e]; rfl) (ih (d - 1) (by omega) (i + 1) (by omega))
        · skip
          have e : ntn dy dd L M (i + 1) = min (ntn dy dd L M i) (dy i + L + 1) := (if_neg h36).trans (if_pos (Nat.lt_of_not_le (fun z => c59 ((nI_leI (by omega) (by omega)).mpr z))))
          refine g_iload X d_CS_nextTurn_62 2 rfl ?_
          refine g_iload X d_CS_nextTurn_64 0 rfl ?_
          refine g_mmin (a := ntn dy dd L M i) (b := dy i + L + 1) X q_582 (by omega) (by omega) (Nat.le_of_ble_eq_true rfl) (Nat.le_of_ble_eq_true rfl) (Nat.le_of_ble_eq_true rfl) (Nat.le_of_ble_eq_true rfl) d_CS_nextTurn_66 ?_
          refine g_istore (lv' := [(4, .int (nI (min (ntn dy dd L M i) (dy i + L + 1)))), (6, .int (nI (dy i + L + 1))), (5, .int (nI i)), (0, .ref q), (1, .int (nI dd)), (2, .int (nI L)), (3, .int (nI M))]) X d_CS_nextTurn_69 (by decide) rfl ?_
          refine g_iinc (lv' := [(5, .int (nI (i + 1))), (4, .int (nI (min (ntn dy dd L M i) (dy i + L + 1)))), (6, .int (nI (dy i + L + 1))), (0, .ref q), (1, .int (nI dd)), (2, .int (nI L)), (3, .int (nI M))]) X d_CS_nextTurn_71 2 rfl (nI_1 i) (by decide) rfl ?_
          refine g_goto X 6 d_CS_nextTurn_74 (by decide) ?_
          refine g_lv (lv' := [(5, .int (nI (i + 1))), (4, .int (nI (ntn dy dd L M (i + 1)))), (0, .ref q), (1, .int (nI dd)), (2, .int (nI L)), (3, .int (nI M))]) [0, 1, 3, 4, 5, 6] (by rw [e]; rfl) (ih (d - 1) (by omega) (i + 1) (by omega))
      · skip
        have h36 : dd < dy i := Nat.lt_of_not_le (fun z => c36 ((nI_leI (by omega) (by omega)).mpr z))
        have e : ntn dy dd L M (i + 1) = min (ntn dy dd L M i) (dy i) := if_pos h36
        refine g_iload X d_CS_nextTurn_39 2 rfl ?_
        refine g_aload_n X d_CS_nextTurn_41 3 rfl ?_
        refine g_get (ci := 4) (C := R_CS) (T := F_CS) (N := 6) (v := .ref qd) X i_CS rfl hQ 3 (by decide) q_272 (fun _ h9 => h9) rfl d_CS_nextTurn_42 ?_
        refine g_iload X d_CS_nextTurn_45 1 rfl ?_
        refine g_iald (t0 := 0) (v := nI (dy i)) X h1 rfl (nI_ix ((by omega : i < 32)) (by decide)) (nI_cl (g := fun q9 => nI (dy q9)) (Nat.lt_trans ((by omega : i < 32)) (by decide))) d_CS_nextTurn_47 ?_
        refine g_mmin (a := ntn dy dd L M i) (b := dy i) X q_582 (by omega) (by omega) (Nat.le_of_ble_eq_true rfl) (Nat.le_of_ble_eq_true rfl) (Nat.le_of_ble_eq_true rfl) (Nat.le_of_ble_eq_true rfl) d_CS_nextTurn_48 ?_
        refine g_istore (lv' := [(4, .int (nI (min (ntn dy dd L M i) (dy i)))), (6, .int (nI (dy i + L + 1))), (5, .int (nI i)), (0, .ref q), (1, .int (nI dd)), (2, .int (nI L)), (3, .int (nI M))]) X d_CS_nextTurn_51 (by decide) rfl ?_
        refine g_goto X 71 d_CS_nextTurn_53 (by decide) ?_
        refine g_iinc (lv' := [(5, .int (nI (i + 1))), (4, .int (nI (min (ntn dy dd L M i) (dy i)))), (6, .int (nI (dy i + L + 1))), (0, .ref q), (1, .int (nI dd)), (2, .int (nI L)), (3, .int (nI M))]) X d_CS_nextTurn_71 2 rfl (nI_1 i) (by decide) rfl ?_
        refine g_goto X 6 d_CS_nextTurn_74 (by decide) ?_
        refine g_lv (lv' := [(5, .int (nI (i + 1))), (4, .int (nI (ntn dy dd L M (i + 1)))), (0, .ref q), (1, .int (nI dd)), (2, .int (nI L)), (3, .int (nI M))]) [0, 1, 3, 4, 5, 6] (by rw [e]; rfl) (ih (d - 1) (by omega) (i + 1) (by omega))
set_option maxHeartbeats 4000000 in
set_option maxRecDepth 100000 in
theorem c_CS_nextTurn {l : Launch} {D : va_G} {cI cZ cO cJ : ClassId} {eA eM : Nat} {f : g_F} {q qp qd qg : Nat} {pt ot : Int32} {per dy : Nat → Nat} {gd : Nat → Bool} {ct : Nat} (hR : cs_R cI cZ f q qp qd qg pt ot per dy gd ct) (hB : cs_B per dy ct) {dd L M : Nat} (hdd : dd < 2 ^ 30) (hL : L ≤ 5000) (hM : M < 2 ^ 30) : g_C l y_CS_nextTurn b_CS_nextTurn 7 (some .int) { frames := 1, cells := 0, slots := 0, locals := 21 } D g_cl (g_tys cI cZ cO cJ) (z_Z eA eM) [.ref q, .int (nI dd), .int (nI L), .int (nI M)] f (fun r f2 => r = some (.int (nI (ntn dy dd L M ct))) ∧ f2 = f) (fun _ => False) := by
  refine g_ofW [(0, .ref q), (1, .int (nI dd)), (2, .int (nI L)), (3, .int (nI M))] (by decide +kernel) (Nat.le_of_ble_eq_true rfl) rfl ?_
  intro p e s m args below meth c X ht hin
  refine g_iload_n X d_CS_nextTurn_0 3 rfl ?_
  refine g_istore (lv' := [(4, .int (nI M)), (0, .ref q), (1, .int (nI dd)), (2, .int (nI L)), (3, .int (nI M))]) X d_CS_nextTurn_1 (by decide) rfl ?_
  refine g_iconst (v := 0) X d_CS_nextTurn_3 (by decide) ?_
  refine g_istore (lv' := [(5, .int 0), (4, .int (nI M)), (0, .ref q), (1, .int (nI dd)), (2, .int (nI L)), (3, .int (nI M))]) X d_CS_nextTurn_4 (by decide) rfl ?_
  refine g_lv [0, 1, 2, 3, 4, 5] rfl (L_CS_nextTurn hR hB hdd hL hM X ?_ ct 0 (by omega))
  exact g_iload X d_CS_nextTurn_77 1 rfl (g_iret X rfl ⟨rfl, rfl⟩ (Nat.le_of_ble_eq_true rfl) (Nat.le_of_ble_eq_true rfl) d_CS_nextTurn_79)
