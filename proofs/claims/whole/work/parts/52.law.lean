theorem g_b01 {p : Program} {l : Launch} {e : Env} {R : Room} {s : State} {m : MethodId} {args : Array Value} {below : List Frame} {meth : Method} {c : Code} {cells slots : Nat} {Q : State → Prop} {cc : ByteArray} {pc nL : Nat} {D : va_G} {cl : List vw_C} {tys : List (ClassId × FieldType)} {A : Nat → Prop} {f : g_F} {lv : List (Nat × Value)} {st : List Value} {own : String} {ret : Option FieldType} {Z : (Nat → Prop) → State → Heap → Prop} (X : g_X p s m args meth c cc nL ret g_T own D cl tys A Z) {v : Int32} (d0 : decode cc pc = .ok (.ifCond .eq 7, 3)) (d1 : decode cc (pc + 3) = .ok (.iconst 1, 1)) (d2 : decode cc (pc + 4) = .ok (.goto 4, 3)) (d3 : decode cc (pc + 7) = .ok (.iconst 0, 1)) (kk : g_W p l e R s m args below meth c nL D cl A f cells slots Q (pc + 8) lv (.int (bI (decide (¬ v = 0))) :: st)) : g_W p l e R s m args below meth c nL D cl A f cells slots Q pc lv (.int v :: st) := by
  refine g_if_eq X (pc + 7) d0 (by omega) (fun h => ?_) (fun h => ?_)
  · refine g_iconst (v := 0) X d3 (by decide) ?_
    refine g_eqi (y := bI (decide (¬ v = 0))) (by rw [decide_eq_false (fun z => z h)]; rfl) ?_
    exact kk
  · refine g_iconst (v := 1) X d1 (by decide) ?_
    refine g_goto X (pc + 8) d2 (by omega) ?_
    refine g_eqi (y := bI (decide (¬ v = 0))) (by rw [decide_eq_true h]; rfl) ?_
    exact kk
theorem lg_cmp_self (x : Int64) : lg_cmp x x = 0 := by
  simp [lg_cmp]
theorem nI_ex (x : Int32) : ∃ n, x = nI n := ⟨x.toBitVec.toNat, by
  apply Int32.toBitVec_inj.mp
  simp [nI]⟩
theorem law15 (x : Int32) : ∃ k, k < 16 ∧ x &&& 15 = nI k := by
  obtain ⟨n, rfl⟩ := nI_ex x
  exact ⟨n &&& 15, Nat.lt_of_le_of_lt Nat.and_le_right (by decide), nI_and n 15⟩
theorem law_lim {L i : Nat} (hL : L < 2 ^ 30) (hi : i < 2 ^ 30) (h : ¬ (nI L - 5 < nI i)) : i + 5 ≤ L := by
  rw [Int32.lt_iff_toInt_lt, show (nI L - 5).toInt = _ from pk_sub_toInt (b := 5) hL (by decide), nI_toInt (by omega)] at h
  omega
set_option maxHeartbeats 4000000 in
set_option maxRecDepth 100000 in
theorem law_fault {p : Program} {l : Launch} {e : Env} {s : State} {m : MethodId} {args : Array Value} {below : List Frame} {meth : Method} {c : Code} {Q : State → Prop} {A : Nat → Prop} {D : va_G} {cI cZ cO cJ : ClassId} {eA eM : Nat} {b L : Nat} {xs : Nat → Int32} (X : g_X p s m args meth c code 7 (some .boolean) g_T "CaseListsLaw" D g_cl (g_tys cI cZ cO cJ) A (z_Z eA eM)) (hX : va_X b L xs s s.heap) (hbA : ¬ A b) (hl : l.stackTraces = false) {f : g_F} {a0 b0 ob cnt : Nat} {g : Nat → Int64} {th : Int32} {cells slots j : Nat} (h : SIM cI cZ cO cJ eA f a0 b0 ob cnt g th) (h5 : cnt < 512) (hj : 5 * j + 6 ≤ L) (hL : L ≤ 2561) (hc : cells + 9 ≤ 601024) (hs : slots + 166 ≤ 7293000) (kk : ∀ (f2 : g_F) (g2 : Nat → Int64) (t2 : Int32), SIM cI cZ cO cJ eA f2 a0 b0 ob (cnt + 1) g2 t2 → g_W p l e { frames := 12, cells := 601024, slots := 7293000, locals := 440 } s m args below meth c 7 D g_cl A f2 (cells + 9) (slots + 166) Q 1224 [(4, .int (nI (1 + 5 * j))), (3, .ref ob), (2, .ref b0), (1, .ref a0), (0, .ref b)] []) : g_W p l e { frames := 12, cells := 601024, slots := 7293000, locals := 440 } s m args below meth c 7 D g_cl A f cells slots Q 128 [(4, .int (nI (1 + 5 * j))), (3, .ref ob), (2, .ref b0), (1, .ref a0), (0, .ref b)] [] := by
  refine g_aload_n X d_LW_law_128 3 rfl ?_
  refine g_aload_n X d_LW_law_129 4 rfl ?_
  refine g_iload X d_LW_law_130 0 rfl ?_
  refine g_iconst (v := 1) X d_LW_law_132 (by decide) ?_
  refine g_iadd X d_LW_law_133 ?_
  refine g_eqi (y := nI (1 + 5 * j + 1)) (nI_add (1 + 5 * j) 1) ?_
  refine g_sld (v := xs (1 + 5 * j + 1)) X hX hbA (nI_ix (by omega) (by omega)) (nI_cl (by omega)) d_LW_law_134 ?_
  refine g_aload_n X d_LW_law_135 4 rfl ?_
  refine g_iload X d_LW_law_136 0 rfl ?_
  refine g_iconst (v := 2) X d_LW_law_138 (by decide) ?_
  refine g_iadd X d_LW_law_139 ?_
  refine g_eqi (y := nI (1 + 5 * j + 2)) (nI_add (1 + 5 * j) 2) ?_
  refine g_sld (v := xs (1 + 5 * j + 2)) X hX hbA (nI_ix (by omega) (by omega)) (nI_cl (by omega)) d_LW_law_140 ?_
  refine g_aload_n X d_LW_law_141 1 rfl ?_
  refine g_callSH (As := [.ref a0, .int (xs (1 + 5 * j + 1)), .int (xs (1 + 5 * j + 2)), .ref ob]) (rest := []) X (z_ok eA eM) (lw_fault hl h h5) v_LW_fault q_133 q_132 rfl rfl (Nat.le_of_ble_eq_true rfl) d_LW_law_142 ⟨(Nat.le_of_ble_eq_true rfl), (Nat.le_of_ble_eq_true rfl)⟩ ⟨show cells + 9 ≤ 601024 by omega, show slots + 166 ≤ 7293000 by omega⟩ (fun r_ f2 hp => ?_)
  obtain ⟨k_, rfl, ⟨fs9, hm9⟩, hC9⟩ := hp
  refine g_st (st2 := [.int k_]) rfl ?_
  refine g_istore (lv' := [(5, .int k_), (4, .int (nI (1 + 5 * j))), (3, .ref ob), (2, .ref b0), (1, .ref a0), (0, .ref b)]) X d_LW_law_145 (by decide) rfl ?_
  refine g_aload_n X d_LW_law_147 3 rfl ?_
  refine g_aload_n X d_LW_law_148 5 rfl ?_
  refine g_iload X d_LW_law_149 1 rfl ?_
  refine g_iconst (v := 1) X d_LW_law_151 (by decide) ?_
  refine g_iadd X d_LW_law_152 ?_
  refine g_eqi (y := nI (1 + 5 * j + 1)) (nI_add (1 + 5 * j) 1) ?_
  refine g_sld (v := xs (1 + 5 * j + 1)) X hX hbA (nI_ix (by omega) (by omega)) (nI_cl (by omega)) d_LW_law_153 ?_
  refine g_aload_n X d_LW_law_154 5 rfl ?_
  refine g_iload X d_LW_law_155 1 rfl ?_
  refine g_iconst (v := 2) X d_LW_law_157 (by decide) ?_
  refine g_iadd X d_LW_law_158 ?_
  refine g_eqi (y := nI (1 + 5 * j + 2)) (nI_add (1 + 5 * j) 2) ?_
  refine g_sld (v := xs (1 + 5 * j + 2)) X hX hbA (nI_ix (by omega) (by omega)) (nI_cl (by omega)) d_LW_law_159 ?_
  refine g_callV (ci := 5) (As := [.int (xs (1 + 5 * j + 1)), .int (xs (1 + 5 * j + 2))]) (rest := []) X (z_ok eA eM) rfl rfl hm9 hC9 v_MO_fault q_663 q_664 q_662 rfl rfl (Nat.le_of_ble_eq_true rfl) d_LW_law_160 ⟨(Nat.le_of_ble_eq_true rfl), (Nat.le_of_ble_eq_true rfl)⟩ ⟨show cells + 9 + 0 ≤ 601024 by omega, show slots + 166 + 0 ≤ 7293000 by omega⟩ (g_K.no (fun _ h => h)) (fun r2_ f3 hp2 => ?_)
  obtain ⟨w_, rfl, g2, hs9, h0_⟩ := hp2
  refine g_st (st2 := [.int w_]) rfl ?_
  refine g_istore (lv' := [(6, .int w_), (5, .int k_), (4, .int (nI (1 + 5 * j))), (3, .ref ob), (2, .ref b0), (1, .ref a0), (0, .ref b)]) X d_LW_law_163 (by decide) rfl ?_
  refine g_aload_n X d_LW_law_165 4 rfl ?_
  obtain ⟨fs8, hm8⟩ := sim_mo hs9
  refine g_callV (ci := 5) (As := []) (rest := []) X (z_ok eA eM) rfl rfl hm8 (sim_thrown hs9) v_MO_thrown q_659 q_660 q_658 rfl rfl (Nat.le_of_ble_eq_true rfl) d_LW_law_166 ⟨(Nat.le_of_ble_eq_true rfl), (Nat.le_of_ble_eq_true rfl)⟩ ⟨show cells + 9 + 0 + 0 ≤ 601024 by omega, show slots + 166 + 0 + 0 ≤ 7293000 by omega⟩ (g_K.no (fun _ h => h)) (fun r3_ f4 hp3 => ?_)
  obtain ⟨rfl, hf4⟩ := hp3
  rw [hf4]
  refine g_st (st2 := [.int k_]) rfl ?_
  refine g_iload X d_LW_law_169 1 rfl ?_
  refine g_icmp_eq X 176 d_LW_law_171 (by decide) (fun c171 => ?_) (fun c171 => ?_)
  · skip
    refine g_iload X d_LW_law_176 1 rfl ?_
    refine g_if_ne X 193 d_LW_law_178 (by decide) (fun c178 => ?_) (fun c178 => ?_)
    · skip
      refine g_goto X 1224 d_LW_law_193 (by decide) ?_
      exact g_wid (show cells + 9 + 0 + 0 ≤ cells + 9 by omega) (show slots + 166 + 0 + 0 ≤ slots + 166 by omega) (g_lv [2, 3, 4, 5, 6] rfl (kk _ _ _ hs9))
    · skip
      refine g_aload_n X d_LW_law_181 3 rfl ?_
      refine g_iconst (v := 0) X d_LW_law_182 (by decide) ?_
      refine g_lald (v := g2 0) X (sim_ob hs9) (nI_ix (j := 0) (n := 1) (by decide) (by decide)) rfl d_LW_law_183 ?_
      refine g_iload X d_LW_law_184 0 rfl ?_
      refine g_i2l X d_LW_law_186 ?_
      refine g_lcmp X d_LW_law_187 ?_
      refine g_if_eq X 193 d_LW_law_188 (by decide) (fun c188 => ?_) (fun c188 => ?_)
      · skip
        refine g_goto X 1224 d_LW_law_193 (by decide) ?_
        exact g_wid (show cells + 9 + 0 + 0 ≤ cells + 9 by omega) (show slots + 166 + 0 + 0 ≤ slots + 166 by omega) (g_lv [2, 3, 4, 5, 6] rfl (kk _ _ _ hs9))
      · skip
        exact absurd (by rw [h0_ c178]; exact lg_cmp_self _) c188
  · skip
    exact absurd rfl c171
set_option maxHeartbeats 4000000 in
set_option maxRecDepth 100000 in
theorem law_act {p : Program} {l : Launch} {e : Env} {s : State} {m : MethodId} {args : Array Value} {below : List Frame} {meth : Method} {c : Code} {Q : State → Prop} {A : Nat → Prop} {D : va_G} {cI cZ cO cJ : ClassId} {eA eM : Nat} {b L : Nat} {xs : Nat → Int32} (X : g_X p s m args meth c code 7 (some .boolean) g_T "CaseListsLaw" D g_cl (g_tys cI cZ cO cJ) A (z_Z eA eM)) (hX : va_X b L xs s s.heap) (hbA : ¬ A b) (hl : l.stackTraces = false) {f : g_F} {a0 b0 ob cnt : Nat} {g : Nat → Int64} {th : Int32} {cells slots j : Nat} (h : SIM cI cZ cO cJ eA f a0 b0 ob cnt g th) (h5 : cnt < 512) (hj : 5 * j + 6 ≤ L) (hL : L ≤ 2561) (hc : cells + 9 ≤ 601024) (hs : slots + 166 ≤ 7293000) (kk : ∀ (f2 : g_F) (g2 : Nat → Int64) (t2 : Int32), SIM cI cZ cO cJ eA f2 a0 b0 ob (cnt + 1) g2 t2 → g_W p l e { frames := 12, cells := 601024, slots := 7293000, locals := 440 } s m args below meth c 7 D g_cl A f2 (cells + 9) (slots + 166) Q 1224 [(4, .int (nI (1 + 5 * j))), (3, .ref ob), (2, .ref b0), (1, .ref a0), (0, .ref b)] []) : g_W p l e { frames := 12, cells := 601024, slots := 7293000, locals := 440 } s m args below meth c 7 D g_cl A f cells slots Q 196 [(4, .int (nI (1 + 5 * j))), (3, .ref ob), (2, .ref b0), (1, .ref a0), (0, .ref b)] [] := by
  refine g_aload_n X d_LW_law_196 3 rfl ?_
  refine g_aload_n X d_LW_law_197 4 rfl ?_
  refine g_iload X d_LW_law_198 0 rfl ?_
  refine g_iconst (v := 1) X d_LW_law_200 (by decide) ?_
  refine g_iadd X d_LW_law_201 ?_
  refine g_eqi (y := nI (1 + 5 * j + 1)) (nI_add (1 + 5 * j) 1) ?_
  refine g_sld (v := xs (1 + 5 * j + 1)) X hX hbA (nI_ix (by omega) (by omega)) (nI_cl (by omega)) d_LW_law_202 ?_
  refine g_aload_n X d_LW_law_203 4 rfl ?_
  refine g_iload X d_LW_law_204 0 rfl ?_
  refine g_iconst (v := 2) X d_LW_law_206 (by decide) ?_
  refine g_iadd X d_LW_law_207 ?_
  refine g_eqi (y := nI (1 + 5 * j + 2)) (nI_add (1 + 5 * j) 2) ?_
  refine g_sld (v := xs (1 + 5 * j + 2)) X hX hbA (nI_ix (by omega) (by omega)) (nI_cl (by omega)) d_LW_law_208 ?_
  refine g_aload_n X d_LW_law_209 1 rfl ?_
  refine g_callSH (As := [.ref a0, .int (xs (1 + 5 * j + 1)), .int (xs (1 + 5 * j + 2)), .ref ob]) (rest := []) X (z_ok eA eM) (lw_act hl h h5) v_LW_act q_341 q_340 rfl rfl (Nat.le_of_ble_eq_true rfl) d_LW_law_210 ⟨(Nat.le_of_ble_eq_true rfl), (Nat.le_of_ble_eq_true rfl)⟩ ⟨show cells + 3 ≤ 601024 by omega, show slots + 18 ≤ 7293000 by omega⟩ (fun r_ f2 hp => ?_)
  obtain ⟨k_, rfl, ⟨fs9, hm9⟩, hC9⟩ := hp
  refine g_st (st2 := [.int k_]) rfl ?_
  refine g_istore (lv' := [(5, .int k_), (4, .int (nI (1 + 5 * j))), (3, .ref ob), (2, .ref b0), (1, .ref a0), (0, .ref b)]) X d_LW_law_213 (by decide) rfl ?_
  refine g_aload_n X d_LW_law_215 3 rfl ?_
  refine g_aload_n X d_LW_law_216 5 rfl ?_
  refine g_iload X d_LW_law_217 1 rfl ?_
  refine g_iconst (v := 1) X d_LW_law_219 (by decide) ?_
  refine g_iadd X d_LW_law_220 ?_
  refine g_eqi (y := nI (1 + 5 * j + 1)) (nI_add (1 + 5 * j) 1) ?_
  refine g_sld (v := xs (1 + 5 * j + 1)) X hX hbA (nI_ix (by omega) (by omega)) (nI_cl (by omega)) d_LW_law_221 ?_
  refine g_aload_n X d_LW_law_222 5 rfl ?_
  refine g_iload X d_LW_law_223 1 rfl ?_
  refine g_iconst (v := 2) X d_LW_law_225 (by decide) ?_
  refine g_iadd X d_LW_law_226 ?_
  refine g_eqi (y := nI (1 + 5 * j + 2)) (nI_add (1 + 5 * j) 2) ?_
  refine g_sld (v := xs (1 + 5 * j + 2)) X hX hbA (nI_ix (by omega) (by omega)) (nI_cl (by omega)) d_LW_law_227 ?_
  refine g_callV (ci := 5) (As := [.int (xs (1 + 5 * j + 1)), .int (xs (1 + 5 * j + 2))]) (rest := []) X (z_ok eA eM) rfl rfl hm9 hC9 v_MO_act q_674 q_675 q_673 rfl rfl (Nat.le_of_ble_eq_true rfl) d_LW_law_228 ⟨(Nat.le_of_ble_eq_true rfl), (Nat.le_of_ble_eq_true rfl)⟩ ⟨show cells + 3 + 0 ≤ 601024 by omega, show slots + 18 + 0 ≤ 7293000 by omega⟩ (g_K.no (fun _ h => h)) (fun r2_ f3 hp2 => ?_)
  obtain ⟨w_, rfl, g2, hs9, h0_⟩ := hp2
  refine g_st (st2 := [.int w_]) rfl ?_
  refine g_istore (lv' := [(6, .int w_), (5, .int k_), (4, .int (nI (1 + 5 * j))), (3, .ref ob), (2, .ref b0), (1, .ref a0), (0, .ref b)]) X d_LW_law_231 (by decide) rfl ?_
  refine g_aload_n X d_LW_law_233 4 rfl ?_
  obtain ⟨fs8, hm8⟩ := sim_mo hs9
  refine g_callV (ci := 5) (As := []) (rest := []) X (z_ok eA eM) rfl rfl hm8 (sim_thrown hs9) v_MO_thrown q_659 q_660 q_658 rfl rfl (Nat.le_of_ble_eq_true rfl) d_LW_law_234 ⟨(Nat.le_of_ble_eq_true rfl), (Nat.le_of_ble_eq_true rfl)⟩ ⟨show cells + 3 + 0 + 0 ≤ 601024 by omega, show slots + 18 + 0 + 0 ≤ 7293000 by omega⟩ (g_K.no (fun _ h => h)) (fun r3_ f4 hp3 => ?_)
  obtain ⟨rfl, hf4⟩ := hp3
  rw [hf4]
  refine g_st (st2 := [.int k_]) rfl ?_
  refine g_iload X d_LW_law_237 1 rfl ?_
  refine g_icmp_eq X 244 d_LW_law_239 (by decide) (fun c239 => ?_) (fun c239 => ?_)
  · skip
    refine g_iload X d_LW_law_244 1 rfl ?_
    refine g_if_ne X 261 d_LW_law_246 (by decide) (fun c246 => ?_) (fun c246 => ?_)
    · skip
      refine g_goto X 1224 d_LW_law_261 (by decide) ?_
      exact g_wid (show cells + 3 + 0 + 0 ≤ cells + 9 by omega) (show slots + 18 + 0 + 0 ≤ slots + 166 by omega) (g_lv [2, 3, 4, 5, 6] rfl (kk _ _ _ hs9))
    · skip
      refine g_aload_n X d_LW_law_249 3 rfl ?_
      refine g_iconst (v := 0) X d_LW_law_250 (by decide) ?_
      refine g_lald (v := g2 0) X (sim_ob hs9) (nI_ix (j := 0) (n := 1) (by decide) (by decide)) rfl d_LW_law_251 ?_
      refine g_iload X d_LW_law_252 0 rfl ?_
      refine g_i2l X d_LW_law_254 ?_
      refine g_lcmp X d_LW_law_255 ?_
      refine g_if_eq X 261 d_LW_law_256 (by decide) (fun c256 => ?_) (fun c256 => ?_)
      · skip
        refine g_goto X 1224 d_LW_law_261 (by decide) ?_
        exact g_wid (show cells + 3 + 0 + 0 ≤ cells + 9 by omega) (show slots + 18 + 0 + 0 ≤ slots + 166 by omega) (g_lv [2, 3, 4, 5, 6] rfl (kk _ _ _ hs9))
      · skip
        exact absurd (by rw [h0_ c246]; exact lg_cmp_self _) c256
  · skip
    exact absurd rfl c239
set_option maxHeartbeats 4000000 in
set_option maxRecDepth 100000 in
theorem law_shows {p : Program} {l : Launch} {e : Env} {s : State} {m : MethodId} {args : Array Value} {below : List Frame} {meth : Method} {c : Code} {Q : State → Prop} {A : Nat → Prop} {D : va_G} {cI cZ cO cJ : ClassId} {eA eM : Nat} {b L : Nat} {xs : Nat → Int32} (X : g_X p s m args meth c code 7 (some .boolean) g_T "CaseListsLaw" D g_cl (g_tys cI cZ cO cJ) A (z_Z eA eM)) (hX : va_X b L xs s s.heap) (hbA : ¬ A b) (hl : l.stackTraces = false) {f : g_F} {a0 b0 ob cnt : Nat} {g : Nat → Int64} {th : Int32} {cells slots j : Nat} (h : SIM cI cZ cO cJ eA f a0 b0 ob cnt g th) (h5 : cnt < 512) (hj : 5 * j + 6 ≤ L) (hL : L ≤ 2561) (hc : cells + 9 ≤ 601024) (hs : slots + 166 ≤ 7293000) (kk : ∀ (f2 : g_F) (g2 : Nat → Int64) (t2 : Int32), SIM cI cZ cO cJ eA f2 a0 b0 ob (cnt + 1) g2 t2 → g_W p l e { frames := 12, cells := 601024, slots := 7293000, locals := 440 } s m args below meth c 7 D g_cl A f2 (cells + 9) (slots + 166) Q 1224 [(4, .int (nI (1 + 5 * j))), (3, .ref ob), (2, .ref b0), (1, .ref a0), (0, .ref b)] []) : g_W p l e { frames := 12, cells := 601024, slots := 7293000, locals := 440 } s m args below meth c 7 D g_cl A f cells slots Q 264 [(4, .int (nI (1 + 5 * j))), (3, .ref ob), (2, .ref b0), (1, .ref a0), (0, .ref b)] [] := by
  refine g_aload_n X d_LW_law_264 3 rfl ?_
  refine g_aload_n X d_LW_law_265 4 rfl ?_
  refine g_iload X d_LW_law_266 0 rfl ?_
  refine g_iconst (v := 1) X d_LW_law_268 (by decide) ?_
  refine g_iadd X d_LW_law_269 ?_
  refine g_eqi (y := nI (1 + 5 * j + 1)) (nI_add (1 + 5 * j) 1) ?_
  refine g_sld (v := xs (1 + 5 * j + 1)) X hX hbA (nI_ix (by omega) (by omega)) (nI_cl (by omega)) d_LW_law_270 ?_
  refine g_aload_n X d_LW_law_271 4 rfl ?_
  refine g_iload X d_LW_law_272 0 rfl ?_
  refine g_iconst (v := 2) X d_LW_law_274 (by decide) ?_
  refine g_iadd X d_LW_law_275 ?_
  refine g_eqi (y := nI (1 + 5 * j + 2)) (nI_add (1 + 5 * j) 2) ?_
  refine g_sld (v := xs (1 + 5 * j + 2)) X hX hbA (nI_ix (by omega) (by omega)) (nI_cl (by omega)) d_LW_law_276 ?_
  refine g_aload_n X d_LW_law_277 4 rfl ?_
  refine g_iload X d_LW_law_278 0 rfl ?_
  refine g_iconst (v := 3) X d_LW_law_280 (by decide) ?_
  refine g_iadd X d_LW_law_281 ?_
  refine g_eqi (y := nI (1 + 5 * j + 3)) (nI_add (1 + 5 * j) 3) ?_
  refine g_sld (v := xs (1 + 5 * j + 3)) X hX hbA (nI_ix (by omega) (by omega)) (nI_cl (by omega)) d_LW_law_282 ?_
  refine g_b01 X d_LW_law_283 d_LW_law_286 d_LW_law_287 d_LW_law_290 ?_
  refine g_aload_n X d_LW_law_291 1 rfl ?_
  refine g_callSH (As := [.ref a0, .int (xs (1 + 5 * j + 1)), .int (xs (1 + 5 * j + 2)), .int (bI (decide (¬ xs (1 + 5 * j + 3) = 0))), .ref ob]) (rest := []) X (z_ok eA eM) (lw_shows hl h h5) v_LW_shows q_356 q_355 rfl rfl (Nat.le_of_ble_eq_true rfl) d_LW_law_292 ⟨(Nat.le_of_ble_eq_true rfl), (Nat.le_of_ble_eq_true rfl)⟩ ⟨show cells + 2 ≤ 601024 by omega, show slots + 12 ≤ 7293000 by omega⟩ (fun r_ f2 hp => ?_)
  obtain ⟨k_, rfl, ⟨fs9, hm9⟩, hC9⟩ := hp
  refine g_st (st2 := [.int k_]) rfl ?_
  refine g_istore (lv' := [(5, .int k_), (4, .int (nI (1 + 5 * j))), (3, .ref ob), (2, .ref b0), (1, .ref a0), (0, .ref b)]) X d_LW_law_295 (by decide) rfl ?_
  refine g_aload_n X d_LW_law_297 3 rfl ?_
  refine g_aload_n X d_LW_law_298 5 rfl ?_
  refine g_iload X d_LW_law_299 1 rfl ?_
  refine g_iconst (v := 1) X d_LW_law_301 (by decide) ?_
  refine g_iadd X d_LW_law_302 ?_
  refine g_eqi (y := nI (1 + 5 * j + 1)) (nI_add (1 + 5 * j) 1) ?_
  refine g_sld (v := xs (1 + 5 * j + 1)) X hX hbA (nI_ix (by omega) (by omega)) (nI_cl (by omega)) d_LW_law_303 ?_
  refine g_aload_n X d_LW_law_304 5 rfl ?_
  refine g_iload X d_LW_law_305 1 rfl ?_
  refine g_iconst (v := 2) X d_LW_law_307 (by decide) ?_
  refine g_iadd X d_LW_law_308 ?_
  refine g_eqi (y := nI (1 + 5 * j + 2)) (nI_add (1 + 5 * j) 2) ?_
  refine g_sld (v := xs (1 + 5 * j + 2)) X hX hbA (nI_ix (by omega) (by omega)) (nI_cl (by omega)) d_LW_law_309 ?_
  refine g_aload_n X d_LW_law_310 5 rfl ?_
  refine g_iload X d_LW_law_311 1 rfl ?_
  refine g_iconst (v := 3) X d_LW_law_313 (by decide) ?_
  refine g_iadd X d_LW_law_314 ?_
  refine g_eqi (y := nI (1 + 5 * j + 3)) (nI_add (1 + 5 * j) 3) ?_
  refine g_sld (v := xs (1 + 5 * j + 3)) X hX hbA (nI_ix (by omega) (by omega)) (nI_cl (by omega)) d_LW_law_315 ?_
  refine g_b01 X d_LW_law_316 d_LW_law_319 d_LW_law_320 d_LW_law_323 ?_
  refine g_callV (ci := 5) (As := [.int (xs (1 + 5 * j + 1)), .int (xs (1 + 5 * j + 2)), .int (bI (decide (¬ xs (1 + 5 * j + 3) = 0)))]) (rest := []) X (z_ok eA eM) rfl rfl hm9 hC9 v_MO_shows q_678 q_679 q_677 rfl rfl (Nat.le_of_ble_eq_true rfl) d_LW_law_324 ⟨(Nat.le_of_ble_eq_true rfl), (Nat.le_of_ble_eq_true rfl)⟩ ⟨show cells + 2 + 0 ≤ 601024 by omega, show slots + 12 + 0 ≤ 7293000 by omega⟩ (g_K.no (fun _ h => h)) (fun r2_ f3 hp2 => ?_)
  obtain ⟨w_, rfl, g2, hs9, h0_⟩ := hp2
  refine g_st (st2 := [.int w_]) rfl ?_
  refine g_istore (lv' := [(6, .int w_), (5, .int k_), (4, .int (nI (1 + 5 * j))), (3, .ref ob), (2, .ref b0), (1, .ref a0), (0, .ref b)]) X d_LW_law_327 (by decide) rfl ?_
  refine g_aload_n X d_LW_law_329 4 rfl ?_
  obtain ⟨fs8, hm8⟩ := sim_mo hs9
  refine g_callV (ci := 5) (As := []) (rest := []) X (z_ok eA eM) rfl rfl hm8 (sim_thrown hs9) v_MO_thrown q_659 q_660 q_658 rfl rfl (Nat.le_of_ble_eq_true rfl) d_LW_law_330 ⟨(Nat.le_of_ble_eq_true rfl), (Nat.le_of_ble_eq_true rfl)⟩ ⟨show cells + 2 + 0 + 0 ≤ 601024 by omega, show slots + 12 + 0 + 0 ≤ 7293000 by omega⟩ (g_K.no (fun _ h => h)) (fun r3_ f4 hp3 => ?_)
  obtain ⟨rfl, hf4⟩ := hp3
  rw [hf4]
  refine g_st (st2 := [.int k_]) rfl ?_
  refine g_iload X d_LW_law_333 1 rfl ?_
  refine g_icmp_eq X 340 d_LW_law_335 (by decide) (fun c335 => ?_) (fun c335 => ?_)
  · skip
    refine g_iload X d_LW_law_340 1 rfl ?_
    refine g_if_ne X 364 d_LW_law_342 (by decide) (fun c342 => ?_) (fun c342 => ?_)
    · skip
      refine g_goto X 1224 d_LW_law_364 (by decide) ?_
      exact g_wid (show cells + 2 + 0 + 0 ≤ cells + 9 by omega) (show slots + 12 + 0 + 0 ≤ slots + 166 by omega) (g_lv [2, 3, 4, 5, 6] rfl (kk _ _ _ hs9))
    · skip
      refine g_aload_n X d_LW_law_345 3 rfl ?_
      refine g_iconst (v := 0) X d_LW_law_346 (by decide) ?_
      refine g_lald (v := g2 0) X (sim_ob hs9) (nI_ix (j := 0) (n := 1) (by decide) (by decide)) rfl d_LW_law_347 ?_
      refine g_iload X d_LW_law_348 0 rfl ?_
      refine g_if_eq X 357 d_LW_law_350 (by decide) (fun c350 => ?_) (fun c350 => ?_)
      · skip
        refine g_lconst (v := 0) X d_LW_law_357 (by decide) ?_
        refine g_lcmp X d_LW_law_358 ?_
        refine g_if_eq X 364 d_LW_law_359 (by decide) (fun c359 => ?_) (fun c359 => ?_)
        · skip
          refine g_goto X 1224 d_LW_law_364 (by decide) ?_
          exact g_wid (show cells + 2 + 0 + 0 ≤ cells + 9 by omega) (show slots + 12 + 0 + 0 ≤ slots + 166 by omega) (g_lv [2, 3, 4, 5, 6] rfl (kk _ _ _ hs9))
        · skip
          exact absurd (by rw [h0_ c342, if_pos c350]; exact lg_cmp_self _) c359
      · skip
        refine g_lconst (v := 1) X d_LW_law_353 (by decide) ?_
        refine g_goto X 358 d_LW_law_354 (by decide) ?_
        refine g_lcmp X d_LW_law_358 ?_
        refine g_if_eq X 364 d_LW_law_359 (by decide) (fun c359 => ?_) (fun c359 => ?_)
        · skip
          refine g_goto X 1224 d_LW_law_364 (by decide) ?_
          exact g_wid (show cells + 2 + 0 + 0 ≤ cells + 9 by omega) (show slots + 12 + 0 + 0 ≤ slots + 166 by omega) (g_lv [2, 3, 4, 5, 6] rfl (kk _ _ _ hs9))
        · skip
          exact absurd (by rw [h0_ c342, if_neg c350]; exact lg_cmp_self _) c359
  · skip
    exact absurd rfl c335
set_option maxHeartbeats 4000000 in
set_option maxRecDepth 100000 in
theorem law_way {p : Program} {l : Launch} {e : Env} {s : State} {m : MethodId} {args : Array Value} {below : List Frame} {meth : Method} {c : Code} {Q : State → Prop} {A : Nat → Prop} {D : va_G} {cI cZ cO cJ : ClassId} {eA eM : Nat} {b L : Nat} {xs : Nat → Int32} (X : g_X p s m args meth c code 7 (some .boolean) g_T "CaseListsLaw" D g_cl (g_tys cI cZ cO cJ) A (z_Z eA eM)) (hX : va_X b L xs s s.heap) (hbA : ¬ A b) (hl : l.stackTraces = false) {f : g_F} {a0 b0 ob cnt : Nat} {g : Nat → Int64} {th : Int32} {cells slots j : Nat} (h : SIM cI cZ cO cJ eA f a0 b0 ob cnt g th) (h5 : cnt < 512) (hj : 5 * j + 6 ≤ L) (hL : L ≤ 2561) (hc : cells + 9 ≤ 601024) (hs : slots + 166 ≤ 7293000) (kk : ∀ (f2 : g_F) (g2 : Nat → Int64) (t2 : Int32), SIM cI cZ cO cJ eA f2 a0 b0 ob (cnt + 1) g2 t2 → g_W p l e { frames := 12, cells := 601024, slots := 7293000, locals := 440 } s m args below meth c 7 D g_cl A f2 (cells + 9) (slots + 166) Q 1224 [(4, .int (nI (1 + 5 * j))), (3, .ref ob), (2, .ref b0), (1, .ref a0), (0, .ref b)] []) : g_W p l e { frames := 12, cells := 601024, slots := 7293000, locals := 440 } s m args below meth c 7 D g_cl A f cells slots Q 367 [(4, .int (nI (1 + 5 * j))), (3, .ref ob), (2, .ref b0), (1, .ref a0), (0, .ref b)] [] := by
  refine g_aload_n X d_LW_law_367 3 rfl ?_
  refine g_aload_n X d_LW_law_368 4 rfl ?_
  refine g_iload X d_LW_law_369 0 rfl ?_
  refine g_iconst (v := 1) X d_LW_law_371 (by decide) ?_
  refine g_iadd X d_LW_law_372 ?_
  refine g_eqi (y := nI (1 + 5 * j + 1)) (nI_add (1 + 5 * j) 1) ?_
  refine g_sld (v := xs (1 + 5 * j + 1)) X hX hbA (nI_ix (by omega) (by omega)) (nI_cl (by omega)) d_LW_law_373 ?_
  refine g_aload_n X d_LW_law_374 4 rfl ?_
  refine g_iload X d_LW_law_375 0 rfl ?_
  refine g_iconst (v := 2) X d_LW_law_377 (by decide) ?_
  refine g_iadd X d_LW_law_378 ?_
  refine g_eqi (y := nI (1 + 5 * j + 2)) (nI_add (1 + 5 * j) 2) ?_
  refine g_sld (v := xs (1 + 5 * j + 2)) X hX hbA (nI_ix (by omega) (by omega)) (nI_cl (by omega)) d_LW_law_379 ?_
  refine g_aload_n X d_LW_law_380 4 rfl ?_
  refine g_iload X d_LW_law_381 0 rfl ?_
  refine g_iconst (v := 3) X d_LW_law_383 (by decide) ?_
  refine g_iadd X d_LW_law_384 ?_
  refine g_eqi (y := nI (1 + 5 * j + 3)) (nI_add (1 + 5 * j) 3) ?_
  refine g_sld (v := xs (1 + 5 * j + 3)) X hX hbA (nI_ix (by omega) (by omega)) (nI_cl (by omega)) d_LW_law_385 ?_
  refine g_aload_n X d_LW_law_386 1 rfl ?_
  refine g_callSH (As := [.ref a0, .int (xs (1 + 5 * j + 1)), .int (xs (1 + 5 * j + 2)), .int (xs (1 + 5 * j + 3)), .ref ob]) (rest := []) X (z_ok eA eM) (lw_way hl h h5) v_LW_way q_370 q_369 rfl rfl (Nat.le_of_ble_eq_true rfl) d_LW_law_387 ⟨(Nat.le_of_ble_eq_true rfl), (Nat.le_of_ble_eq_true rfl)⟩ ⟨show cells + 4 ≤ 601024 by omega, show slots + 24 ≤ 7293000 by omega⟩ (fun r_ f2 hp => ?_)
  obtain ⟨k_, rfl, ⟨fs9, hm9⟩, hC9⟩ := hp
  refine g_st (st2 := [.int k_]) rfl ?_
  refine g_istore (lv' := [(5, .int k_), (4, .int (nI (1 + 5 * j))), (3, .ref ob), (2, .ref b0), (1, .ref a0), (0, .ref b)]) X d_LW_law_390 (by decide) rfl ?_
  refine g_aload_n X d_LW_law_392 3 rfl ?_
  refine g_aload_n X d_LW_law_393 5 rfl ?_
  refine g_iload X d_LW_law_394 1 rfl ?_
  refine g_iconst (v := 1) X d_LW_law_396 (by decide) ?_
  refine g_iadd X d_LW_law_397 ?_
  refine g_eqi (y := nI (1 + 5 * j + 1)) (nI_add (1 + 5 * j) 1) ?_
  refine g_sld (v := xs (1 + 5 * j + 1)) X hX hbA (nI_ix (by omega) (by omega)) (nI_cl (by omega)) d_LW_law_398 ?_
  refine g_aload_n X d_LW_law_399 5 rfl ?_
  refine g_iload X d_LW_law_400 1 rfl ?_
  refine g_iconst (v := 2) X d_LW_law_402 (by decide) ?_
  refine g_iadd X d_LW_law_403 ?_
  refine g_eqi (y := nI (1 + 5 * j + 2)) (nI_add (1 + 5 * j) 2) ?_
  refine g_sld (v := xs (1 + 5 * j + 2)) X hX hbA (nI_ix (by omega) (by omega)) (nI_cl (by omega)) d_LW_law_404 ?_
  refine g_aload_n X d_LW_law_405 5 rfl ?_
  refine g_iload X d_LW_law_406 1 rfl ?_
  refine g_iconst (v := 3) X d_LW_law_408 (by decide) ?_
  refine g_iadd X d_LW_law_409 ?_
  refine g_eqi (y := nI (1 + 5 * j + 3)) (nI_add (1 + 5 * j) 3) ?_
  refine g_sld (v := xs (1 + 5 * j + 3)) X hX hbA (nI_ix (by omega) (by omega)) (nI_cl (by omega)) d_LW_law_410 ?_
  refine g_callV (ci := 5) (As := [.int (xs (1 + 5 * j + 1)), .int (xs (1 + 5 * j + 2)), .int (xs (1 + 5 * j + 3))]) (rest := []) X (z_ok eA eM) rfl rfl hm9 hC9 v_MO_way q_686 q_687 q_685 rfl rfl (Nat.le_of_ble_eq_true rfl) d_LW_law_411 ⟨(Nat.le_of_ble_eq_true rfl), (Nat.le_of_ble_eq_true rfl)⟩ ⟨show cells + 4 + 0 ≤ 601024 by omega, show slots + 24 + 0 ≤ 7293000 by omega⟩ (g_K.no (fun _ h => h)) (fun r2_ f3 hp2 => ?_)
  obtain ⟨w_, rfl, g2, hs9, h0_⟩ := hp2
  refine g_st (st2 := [.int w_]) rfl ?_
  refine g_istore (lv' := [(6, .int w_), (5, .int k_), (4, .int (nI (1 + 5 * j))), (3, .ref ob), (2, .ref b0), (1, .ref a0), (0, .ref b)]) X d_LW_law_414 (by decide) rfl ?_
  refine g_aload_n X d_LW_law_416 4 rfl ?_
  obtain ⟨fs8, hm8⟩ := sim_mo hs9
  refine g_callV (ci := 5) (As := []) (rest := []) X (z_ok eA eM) rfl rfl hm8 (sim_thrown hs9) v_MO_thrown q_659 q_660 q_658 rfl rfl (Nat.le_of_ble_eq_true rfl) d_LW_law_417 ⟨(Nat.le_of_ble_eq_true rfl), (Nat.le_of_ble_eq_true rfl)⟩ ⟨show cells + 4 + 0 + 0 ≤ 601024 by omega, show slots + 24 + 0 + 0 ≤ 7293000 by omega⟩ (g_K.no (fun _ h => h)) (fun r3_ f4 hp3 => ?_)
  obtain ⟨rfl, hf4⟩ := hp3
  rw [hf4]
  refine g_st (st2 := [.int k_]) rfl ?_
  refine g_iload X d_LW_law_420 1 rfl ?_
  refine g_icmp_eq X 427 d_LW_law_422 (by decide) (fun c422 => ?_) (fun c422 => ?_)
  · skip
    refine g_iload X d_LW_law_427 1 rfl ?_
    refine g_if_ne X 444 d_LW_law_429 (by decide) (fun c429 => ?_) (fun c429 => ?_)
    · skip
      refine g_goto X 1224 d_LW_law_444 (by decide) ?_
      exact g_wid (show cells + 4 + 0 + 0 ≤ cells + 9 by omega) (show slots + 24 + 0 + 0 ≤ slots + 166 by omega) (g_lv [2, 3, 4, 5, 6] rfl (kk _ _ _ hs9))
    · skip
      refine g_aload_n X d_LW_law_432 3 rfl ?_
      refine g_iconst (v := 0) X d_LW_law_433 (by decide) ?_
      refine g_lald (v := g2 0) X (sim_ob hs9) (nI_ix (j := 0) (n := 1) (by decide) (by decide)) rfl d_LW_law_434 ?_
      refine g_iload X d_LW_law_435 0 rfl ?_
      refine g_i2l X d_LW_law_437 ?_
      refine g_lcmp X d_LW_law_438 ?_
      refine g_if_eq X 444 d_LW_law_439 (by decide) (fun c439 => ?_) (fun c439 => ?_)
      · skip
        refine g_goto X 1224 d_LW_law_444 (by decide) ?_
        exact g_wid (show cells + 4 + 0 + 0 ≤ cells + 9 by omega) (show slots + 24 + 0 + 0 ≤ slots + 166 by omega) (g_lv [2, 3, 4, 5, 6] rfl (kk _ _ _ hs9))
      · skip
        exact absurd (by rw [h0_ c429]; exact lg_cmp_self _) c439
  · skip
    exact absurd rfl c422
set_option maxHeartbeats 4000000 in
set_option maxRecDepth 100000 in
theorem law_change {p : Program} {l : Launch} {e : Env} {s : State} {m : MethodId} {args : Array Value} {below : List Frame} {meth : Method} {c : Code} {Q : State → Prop} {A : Nat → Prop} {D : va_G} {cI cZ cO cJ : ClassId} {eA eM : Nat} {b L : Nat} {xs : Nat → Int32} (X : g_X p s m args meth c code 7 (some .boolean) g_T "CaseListsLaw" D g_cl (g_tys cI cZ cO cJ) A (z_Z eA eM)) (hX : va_X b L xs s s.heap) (hbA : ¬ A b) (hl : l.stackTraces = false) {f : g_F} {a0 b0 ob cnt : Nat} {g : Nat → Int64} {th : Int32} {cells slots j : Nat} (h : SIM cI cZ cO cJ eA f a0 b0 ob cnt g th) (h5 : cnt < 512) (hj : 5 * j + 6 ≤ L) (hL : L ≤ 2561) (hc : cells + 9 ≤ 601024) (hs : slots + 166 ≤ 7293000) (kk : ∀ (f2 : g_F) (g2 : Nat → Int64) (t2 : Int32), SIM cI cZ cO cJ eA f2 a0 b0 ob (cnt + 1) g2 t2 → g_W p l e { frames := 12, cells := 601024, slots := 7293000, locals := 440 } s m args below meth c 7 D g_cl A f2 (cells + 9) (slots + 166) Q 1224 [(4, .int (nI (1 + 5 * j))), (3, .ref ob), (2, .ref b0), (1, .ref a0), (0, .ref b)] []) : g_W p l e { frames := 12, cells := 601024, slots := 7293000, locals := 440 } s m args below meth c 7 D g_cl A f cells slots Q 447 [(4, .int (nI (1 + 5 * j))), (3, .ref ob), (2, .ref b0), (1, .ref a0), (0, .ref b)] [] := by
  refine g_aload_n X d_LW_law_447 3 rfl ?_
  refine g_aload_n X d_LW_law_448 4 rfl ?_
  refine g_iload X d_LW_law_449 0 rfl ?_
  refine g_iconst (v := 1) X d_LW_law_451 (by decide) ?_
  refine g_iadd X d_LW_law_452 ?_
  refine g_eqi (y := nI (1 + 5 * j + 1)) (nI_add (1 + 5 * j) 1) ?_
  refine g_sld (v := xs (1 + 5 * j + 1)) X hX hbA (nI_ix (by omega) (by omega)) (nI_cl (by omega)) d_LW_law_453 ?_
  refine g_aload_n X d_LW_law_454 4 rfl ?_
  refine g_iload X d_LW_law_455 0 rfl ?_
  refine g_iconst (v := 2) X d_LW_law_457 (by decide) ?_
  refine g_iadd X d_LW_law_458 ?_
  refine g_eqi (y := nI (1 + 5 * j + 2)) (nI_add (1 + 5 * j) 2) ?_
  refine g_sld (v := xs (1 + 5 * j + 2)) X hX hbA (nI_ix (by omega) (by omega)) (nI_cl (by omega)) d_LW_law_459 ?_
  refine g_aload_n X d_LW_law_460 1 rfl ?_
  refine g_callSH (As := [.ref a0, .int (xs (1 + 5 * j + 1)), .int (xs (1 + 5 * j + 2)), .ref ob]) (rest := []) X (z_ok eA eM) (lw_change hl h h5) v_LW_change q_381 q_380 rfl rfl (Nat.le_of_ble_eq_true rfl) d_LW_law_461 ⟨(Nat.le_of_ble_eq_true rfl), (Nat.le_of_ble_eq_true rfl)⟩ ⟨show cells + 2 ≤ 601024 by omega, show slots + 12 ≤ 7293000 by omega⟩ (fun r_ f2 hp => ?_)
  obtain ⟨k_, rfl, ⟨fs9, hm9⟩, hC9⟩ := hp
  refine g_st (st2 := [.int k_]) rfl ?_
  refine g_istore (lv' := [(5, .int k_), (4, .int (nI (1 + 5 * j))), (3, .ref ob), (2, .ref b0), (1, .ref a0), (0, .ref b)]) X d_LW_law_464 (by decide) rfl ?_
  refine g_aload_n X d_LW_law_466 3 rfl ?_
  refine g_aload_n X d_LW_law_467 5 rfl ?_
  refine g_iload X d_LW_law_468 1 rfl ?_
  refine g_iconst (v := 1) X d_LW_law_470 (by decide) ?_
  refine g_iadd X d_LW_law_471 ?_
  refine g_eqi (y := nI (1 + 5 * j + 1)) (nI_add (1 + 5 * j) 1) ?_
  refine g_sld (v := xs (1 + 5 * j + 1)) X hX hbA (nI_ix (by omega) (by omega)) (nI_cl (by omega)) d_LW_law_472 ?_
  refine g_aload_n X d_LW_law_473 5 rfl ?_
  refine g_iload X d_LW_law_474 1 rfl ?_
  refine g_iconst (v := 2) X d_LW_law_476 (by decide) ?_
  refine g_iadd X d_LW_law_477 ?_
  refine g_eqi (y := nI (1 + 5 * j + 2)) (nI_add (1 + 5 * j) 2) ?_
  refine g_sld (v := xs (1 + 5 * j + 2)) X hX hbA (nI_ix (by omega) (by omega)) (nI_cl (by omega)) d_LW_law_478 ?_
  refine g_callV (ci := 5) (As := [.int (xs (1 + 5 * j + 1)), .int (xs (1 + 5 * j + 2))]) (rest := []) X (z_ok eA eM) rfl rfl hm9 hC9 v_MO_change q_690 q_691 q_689 rfl rfl (Nat.le_of_ble_eq_true rfl) d_LW_law_479 ⟨(Nat.le_of_ble_eq_true rfl), (Nat.le_of_ble_eq_true rfl)⟩ ⟨show cells + 2 + 0 ≤ 601024 by omega, show slots + 12 + 0 ≤ 7293000 by omega⟩ (g_K.no (fun _ h => h)) (fun r2_ f3 hp2 => ?_)
  obtain ⟨w_, rfl, g2, hs9, h0_⟩ := hp2
  refine g_st (st2 := [.int w_]) rfl ?_
  refine g_istore (lv' := [(6, .int w_), (5, .int k_), (4, .int (nI (1 + 5 * j))), (3, .ref ob), (2, .ref b0), (1, .ref a0), (0, .ref b)]) X d_LW_law_482 (by decide) rfl ?_
  refine g_aload_n X d_LW_law_484 4 rfl ?_
  obtain ⟨fs8, hm8⟩ := sim_mo hs9
  refine g_callV (ci := 5) (As := []) (rest := []) X (z_ok eA eM) rfl rfl hm8 (sim_thrown hs9) v_MO_thrown q_659 q_660 q_658 rfl rfl (Nat.le_of_ble_eq_true rfl) d_LW_law_485 ⟨(Nat.le_of_ble_eq_true rfl), (Nat.le_of_ble_eq_true rfl)⟩ ⟨show cells + 2 + 0 + 0 ≤ 601024 by omega, show slots + 12 + 0 + 0 ≤ 7293000 by omega⟩ (g_K.no (fun _ h => h)) (fun r3_ f4 hp3 => ?_)
  obtain ⟨rfl, hf4⟩ := hp3
  rw [hf4]
  refine g_st (st2 := [.int k_]) rfl ?_
  refine g_iload X d_LW_law_488 1 rfl ?_
  refine g_icmp_eq X 495 d_LW_law_490 (by decide) (fun c490 => ?_) (fun c490 => ?_)
  · skip
    refine g_iload X d_LW_law_495 1 rfl ?_
    refine g_if_ne X 512 d_LW_law_497 (by decide) (fun c497 => ?_) (fun c497 => ?_)
    · skip
      refine g_goto X 1224 d_LW_law_512 (by decide) ?_
      exact g_wid (show cells + 2 + 0 + 0 ≤ cells + 9 by omega) (show slots + 12 + 0 + 0 ≤ slots + 166 by omega) (g_lv [2, 3, 4, 5, 6] rfl (kk _ _ _ hs9))
    · skip
      refine g_aload_n X d_LW_law_500 3 rfl ?_
      refine g_iconst (v := 0) X d_LW_law_501 (by decide) ?_
      refine g_lald (v := g2 0) X (sim_ob hs9) (nI_ix (j := 0) (n := 1) (by decide) (by decide)) rfl d_LW_law_502 ?_
      refine g_iload X d_LW_law_503 0 rfl ?_
      refine g_i2l X d_LW_law_505 ?_
      refine g_lcmp X d_LW_law_506 ?_
      refine g_if_eq X 512 d_LW_law_507 (by decide) (fun c507 => ?_) (fun c507 => ?_)
      · skip
        refine g_goto X 1224 d_LW_law_512 (by decide) ?_
        exact g_wid (show cells + 2 + 0 + 0 ≤ cells + 9 by omega) (show slots + 12 + 0 + 0 ≤ slots + 166 by omega) (g_lv [2, 3, 4, 5, 6] rfl (kk _ _ _ hs9))
      · skip
        exact absurd (by rw [h0_ c497]; exact lg_cmp_self _) c507
  · skip
    exact absurd rfl c490
set_option maxHeartbeats 4000000 in
set_option maxRecDepth 100000 in
theorem law_result {p : Program} {l : Launch} {e : Env} {s : State} {m : MethodId} {args : Array Value} {below : List Frame} {meth : Method} {c : Code} {Q : State → Prop} {A : Nat → Prop} {D : va_G} {cI cZ cO cJ : ClassId} {eA eM : Nat} {b L : Nat} {xs : Nat → Int32} (X : g_X p s m args meth c code 7 (some .boolean) g_T "CaseListsLaw" D g_cl (g_tys cI cZ cO cJ) A (z_Z eA eM)) (hX : va_X b L xs s s.heap) (hbA : ¬ A b) (hl : l.stackTraces = false) {f : g_F} {a0 b0 ob cnt : Nat} {g : Nat → Int64} {th : Int32} {cells slots j : Nat} (h : SIM cI cZ cO cJ eA f a0 b0 ob cnt g th) (h5 : cnt < 512) (hj : 5 * j + 6 ≤ L) (hL : L ≤ 2561) (hc : cells + 9 ≤ 601024) (hs : slots + 166 ≤ 7293000) (kk : ∀ (f2 : g_F) (g2 : Nat → Int64) (t2 : Int32), SIM cI cZ cO cJ eA f2 a0 b0 ob (cnt + 1) g2 t2 → g_W p l e { frames := 12, cells := 601024, slots := 7293000, locals := 440 } s m args below meth c 7 D g_cl A f2 (cells + 9) (slots + 166) Q 1224 [(4, .int (nI (1 + 5 * j))), (3, .ref ob), (2, .ref b0), (1, .ref a0), (0, .ref b)] []) : g_W p l e { frames := 12, cells := 601024, slots := 7293000, locals := 440 } s m args below meth c 7 D g_cl A f cells slots Q 515 [(4, .int (nI (1 + 5 * j))), (3, .ref ob), (2, .ref b0), (1, .ref a0), (0, .ref b)] [] := by
  refine g_aload_n X d_LW_law_515 3 rfl ?_
  refine g_aload_n X d_LW_law_516 4 rfl ?_
  refine g_iload X d_LW_law_517 0 rfl ?_
  refine g_iconst (v := 1) X d_LW_law_519 (by decide) ?_
  refine g_iadd X d_LW_law_520 ?_
  refine g_eqi (y := nI (1 + 5 * j + 1)) (nI_add (1 + 5 * j) 1) ?_
  refine g_sld (v := xs (1 + 5 * j + 1)) X hX hbA (nI_ix (by omega) (by omega)) (nI_cl (by omega)) d_LW_law_521 ?_
  refine g_aload_n X d_LW_law_522 4 rfl ?_
  refine g_iload X d_LW_law_523 0 rfl ?_
  refine g_iconst (v := 2) X d_LW_law_525 (by decide) ?_
  refine g_iadd X d_LW_law_526 ?_
  refine g_eqi (y := nI (1 + 5 * j + 2)) (nI_add (1 + 5 * j) 2) ?_
  refine g_sld (v := xs (1 + 5 * j + 2)) X hX hbA (nI_ix (by omega) (by omega)) (nI_cl (by omega)) d_LW_law_527 ?_
  refine g_aload_n X d_LW_law_528 4 rfl ?_
  refine g_iload X d_LW_law_529 0 rfl ?_
  refine g_iconst (v := 3) X d_LW_law_531 (by decide) ?_
  refine g_iadd X d_LW_law_532 ?_
  refine g_eqi (y := nI (1 + 5 * j + 3)) (nI_add (1 + 5 * j) 3) ?_
  refine g_sld (v := xs (1 + 5 * j + 3)) X hX hbA (nI_ix (by omega) (by omega)) (nI_cl (by omega)) d_LW_law_533 ?_
  refine g_aload_n X d_LW_law_534 4 rfl ?_
  refine g_iload X d_LW_law_535 0 rfl ?_
  refine g_iconst (v := 4) X d_LW_law_537 (by decide) ?_
  refine g_iadd X d_LW_law_538 ?_
  refine g_eqi (y := nI (1 + 5 * j + 4)) (nI_add (1 + 5 * j) 4) ?_
  refine g_sld (v := xs (1 + 5 * j + 4)) X hX hbA (nI_ix (by omega) (by omega)) (nI_cl (by omega)) d_LW_law_539 ?_
  refine g_b01 X d_LW_law_540 d_LW_law_543 d_LW_law_544 d_LW_law_547 ?_
  refine g_aload_n X d_LW_law_548 1 rfl ?_
  refine g_callSH (As := [.ref a0, .int (xs (1 + 5 * j + 1)), .int (xs (1 + 5 * j + 2)), .int (xs (1 + 5 * j + 3)), .int (bI (decide (¬ xs (1 + 5 * j + 4) = 0))), .ref ob]) (rest := []) X (z_ok eA eM) (lw_result hl h h5) v_LW_result q_410 q_409 rfl rfl (Nat.le_of_ble_eq_true rfl) d_LW_law_549 ⟨(Nat.le_of_ble_eq_true rfl), (Nat.le_of_ble_eq_true rfl)⟩ ⟨show cells + 4 ≤ 601024 by omega, show slots + 24 ≤ 7293000 by omega⟩ (fun r_ f2 hp => ?_)
  obtain ⟨k_, rfl, ⟨fs9, hm9⟩, hC9⟩ := hp
  refine g_st (st2 := [.int k_]) rfl ?_
  refine g_istore (lv' := [(5, .int k_), (4, .int (nI (1 + 5 * j))), (3, .ref ob), (2, .ref b0), (1, .ref a0), (0, .ref b)]) X d_LW_law_552 (by decide) rfl ?_
  refine g_aload_n X d_LW_law_554 3 rfl ?_
  refine g_aload_n X d_LW_law_555 5 rfl ?_
  refine g_iload X d_LW_law_556 1 rfl ?_
  refine g_iconst (v := 1) X d_LW_law_558 (by decide) ?_
  refine g_iadd X d_LW_law_559 ?_
  refine g_eqi (y := nI (1 + 5 * j + 1)) (nI_add (1 + 5 * j) 1) ?_
  refine g_sld (v := xs (1 + 5 * j + 1)) X hX hbA (nI_ix (by omega) (by omega)) (nI_cl (by omega)) d_LW_law_560 ?_
  refine g_aload_n X d_LW_law_561 5 rfl ?_
  refine g_iload X d_LW_law_562 1 rfl ?_
  refine g_iconst (v := 2) X d_LW_law_564 (by decide) ?_
  refine g_iadd X d_LW_law_565 ?_
  refine g_eqi (y := nI (1 + 5 * j + 2)) (nI_add (1 + 5 * j) 2) ?_
  refine g_sld (v := xs (1 + 5 * j + 2)) X hX hbA (nI_ix (by omega) (by omega)) (nI_cl (by omega)) d_LW_law_566 ?_
  refine g_aload_n X d_LW_law_567 5 rfl ?_
  refine g_iload X d_LW_law_568 1 rfl ?_
  refine g_iconst (v := 3) X d_LW_law_570 (by decide) ?_
  refine g_iadd X d_LW_law_571 ?_
  refine g_eqi (y := nI (1 + 5 * j + 3)) (nI_add (1 + 5 * j) 3) ?_
  refine g_sld (v := xs (1 + 5 * j + 3)) X hX hbA (nI_ix (by omega) (by omega)) (nI_cl (by omega)) d_LW_law_572 ?_
  refine g_aload_n X d_LW_law_573 5 rfl ?_
  refine g_iload X d_LW_law_574 1 rfl ?_
  refine g_iconst (v := 4) X d_LW_law_576 (by decide) ?_
  refine g_iadd X d_LW_law_577 ?_
  refine g_eqi (y := nI (1 + 5 * j + 4)) (nI_add (1 + 5 * j) 4) ?_
  refine g_sld (v := xs (1 + 5 * j + 4)) X hX hbA (nI_ix (by omega) (by omega)) (nI_cl (by omega)) d_LW_law_578 ?_
  refine g_b01 X d_LW_law_579 d_LW_law_582 d_LW_law_583 d_LW_law_586 ?_
  refine g_callV (ci := 5) (As := [.int (xs (1 + 5 * j + 1)), .int (xs (1 + 5 * j + 2)), .int (xs (1 + 5 * j + 3)), .int (bI (decide (¬ xs (1 + 5 * j + 4) = 0)))]) (rest := []) X (z_ok eA eM) rfl rfl hm9 hC9 v_MO_result q_698 q_699 q_697 rfl rfl (Nat.le_of_ble_eq_true rfl) d_LW_law_587 ⟨(Nat.le_of_ble_eq_true rfl), (Nat.le_of_ble_eq_true rfl)⟩ ⟨show cells + 4 + 0 ≤ 601024 by omega, show slots + 24 + 0 ≤ 7293000 by omega⟩ (g_K.no (fun _ h => h)) (fun r2_ f3 hp2 => ?_)
  obtain ⟨w_, rfl, g2, hs9, h0_⟩ := hp2
  refine g_st (st2 := [.int w_]) rfl ?_
  refine g_istore (lv' := [(6, .int w_), (5, .int k_), (4, .int (nI (1 + 5 * j))), (3, .ref ob), (2, .ref b0), (1, .ref a0), (0, .ref b)]) X d_LW_law_590 (by decide) rfl ?_
  refine g_aload_n X d_LW_law_592 4 rfl ?_
  obtain ⟨fs8, hm8⟩ := sim_mo hs9
  refine g_callV (ci := 5) (As := []) (rest := []) X (z_ok eA eM) rfl rfl hm8 (sim_thrown hs9) v_MO_thrown q_659 q_660 q_658 rfl rfl (Nat.le_of_ble_eq_true rfl) d_LW_law_593 ⟨(Nat.le_of_ble_eq_true rfl), (Nat.le_of_ble_eq_true rfl)⟩ ⟨show cells + 4 + 0 + 0 ≤ 601024 by omega, show slots + 24 + 0 + 0 ≤ 7293000 by omega⟩ (g_K.no (fun _ h => h)) (fun r3_ f4 hp3 => ?_)
  obtain ⟨rfl, hf4⟩ := hp3
  rw [hf4]
  refine g_st (st2 := [.int k_]) rfl ?_
  refine g_iload X d_LW_law_596 1 rfl ?_
  refine g_icmp_eq X 603 d_LW_law_598 (by decide) (fun c598 => ?_) (fun c598 => ?_)
  · skip
    refine g_iload X d_LW_law_603 1 rfl ?_
    refine g_if_ne X 620 d_LW_law_605 (by decide) (fun c605 => ?_) (fun c605 => ?_)
    · skip
      refine g_goto X 1224 d_LW_law_620 (by decide) ?_
      exact g_wid (show cells + 4 + 0 + 0 ≤ cells + 9 by omega) (show slots + 24 + 0 + 0 ≤ slots + 166 by omega) (g_lv [2, 3, 4, 5, 6] rfl (kk _ _ _ hs9))
    · skip
      refine g_aload_n X d_LW_law_608 3 rfl ?_
      refine g_iconst (v := 0) X d_LW_law_609 (by decide) ?_
      refine g_lald (v := g2 0) X (sim_ob hs9) (nI_ix (j := 0) (n := 1) (by decide) (by decide)) rfl d_LW_law_610 ?_
      refine g_iload X d_LW_law_611 0 rfl ?_
      refine g_i2l X d_LW_law_613 ?_
      refine g_lcmp X d_LW_law_614 ?_
      refine g_if_eq X 620 d_LW_law_615 (by decide) (fun c615 => ?_) (fun c615 => ?_)
      · skip
        refine g_goto X 1224 d_LW_law_620 (by decide) ?_
        exact g_wid (show cells + 4 + 0 + 0 ≤ cells + 9 by omega) (show slots + 24 + 0 + 0 ≤ slots + 166 by omega) (g_lv [2, 3, 4, 5, 6] rfl (kk _ _ _ hs9))
      · skip
        exact absurd (by rw [h0_ c605]; exact lg_cmp_self _) c615
  · skip
    exact absurd rfl c598
set_option maxHeartbeats 4000000 in
set_option maxRecDepth 100000 in
theorem law_plan {p : Program} {l : Launch} {e : Env} {s : State} {m : MethodId} {args : Array Value} {below : List Frame} {meth : Method} {c : Code} {Q : State → Prop} {A : Nat → Prop} {D : va_G} {cI cZ cO cJ : ClassId} {eA eM : Nat} {b L : Nat} {xs : Nat → Int32} (X : g_X p s m args meth c code 7 (some .boolean) g_T "CaseListsLaw" D g_cl (g_tys cI cZ cO cJ) A (z_Z eA eM)) (hX : va_X b L xs s s.heap) (hbA : ¬ A b) (hl : l.stackTraces = false) {f : g_F} {a0 b0 ob cnt : Nat} {g : Nat → Int64} {th : Int32} {cells slots j : Nat} (h : SIM cI cZ cO cJ eA f a0 b0 ob cnt g th) (h5 : cnt < 512) (hj : 5 * j + 6 ≤ L) (hL : L ≤ 2561) (hc : cells + 9 ≤ 601024) (hs : slots + 166 ≤ 7293000) (kk : ∀ (f2 : g_F) (g2 : Nat → Int64) (t2 : Int32), SIM cI cZ cO cJ eA f2 a0 b0 ob (cnt + 1) g2 t2 → g_W p l e { frames := 12, cells := 601024, slots := 7293000, locals := 440 } s m args below meth c 7 D g_cl A f2 (cells + 9) (slots + 166) Q 1224 [(4, .int (nI (1 + 5 * j))), (3, .ref ob), (2, .ref b0), (1, .ref a0), (0, .ref b)] []) : g_W p l e { frames := 12, cells := 601024, slots := 7293000, locals := 440 } s m args below meth c 7 D g_cl A f cells slots Q 623 [(4, .int (nI (1 + 5 * j))), (3, .ref ob), (2, .ref b0), (1, .ref a0), (0, .ref b)] [] := by
  refine g_aload_n X d_LW_law_623 3 rfl ?_
  refine g_aload_n X d_LW_law_624 4 rfl ?_
  refine g_iload X d_LW_law_625 0 rfl ?_
  refine g_iconst (v := 1) X d_LW_law_627 (by decide) ?_
  refine g_iadd X d_LW_law_628 ?_
  refine g_eqi (y := nI (1 + 5 * j + 1)) (nI_add (1 + 5 * j) 1) ?_
  refine g_sld (v := xs (1 + 5 * j + 1)) X hX hbA (nI_ix (by omega) (by omega)) (nI_cl (by omega)) d_LW_law_629 ?_
  refine g_aload_n X d_LW_law_630 1 rfl ?_
  refine g_callSH (As := [.ref a0, .int (xs (1 + 5 * j + 1)), .ref ob]) (rest := []) X (z_ok eA eM) (lw_plan hl h h5) v_LW_plan q_430 q_429 rfl rfl (Nat.le_of_ble_eq_true rfl) d_LW_law_631 ⟨(Nat.le_of_ble_eq_true rfl), (Nat.le_of_ble_eq_true rfl)⟩ ⟨show cells + 1 ≤ 601024 by omega, show slots + 6 ≤ 7293000 by omega⟩ (fun r_ f2 hp => ?_)
  obtain ⟨k_, rfl, ⟨fs9, hm9⟩, hC9⟩ := hp
  refine g_st (st2 := [.int k_]) rfl ?_
  refine g_istore (lv' := [(5, .int k_), (4, .int (nI (1 + 5 * j))), (3, .ref ob), (2, .ref b0), (1, .ref a0), (0, .ref b)]) X d_LW_law_634 (by decide) rfl ?_
  refine g_aload_n X d_LW_law_636 3 rfl ?_
  refine g_aload_n X d_LW_law_637 5 rfl ?_
  refine g_iload X d_LW_law_638 1 rfl ?_
  refine g_iconst (v := 1) X d_LW_law_640 (by decide) ?_
  refine g_iadd X d_LW_law_641 ?_
  refine g_eqi (y := nI (1 + 5 * j + 1)) (nI_add (1 + 5 * j) 1) ?_
  refine g_sld (v := xs (1 + 5 * j + 1)) X hX hbA (nI_ix (by omega) (by omega)) (nI_cl (by omega)) d_LW_law_642 ?_
  refine g_callV (ci := 5) (As := [.int (xs (1 + 5 * j + 1))]) (rest := []) X (z_ok eA eM) rfl rfl hm9 hC9 v_MO_plan q_751 q_752 q_750 rfl rfl (Nat.le_of_ble_eq_true rfl) d_LW_law_643 ⟨(Nat.le_of_ble_eq_true rfl), (Nat.le_of_ble_eq_true rfl)⟩ ⟨show cells + 1 + 0 ≤ 601024 by omega, show slots + 6 + 0 ≤ 7293000 by omega⟩ (g_K.no (fun _ h => h)) (fun r2_ f3 hp2 => ?_)
  obtain ⟨w_, rfl, g2, hs9, h0_⟩ := hp2
  refine g_st (st2 := [.int w_]) rfl ?_
  refine g_istore (lv' := [(6, .int w_), (5, .int k_), (4, .int (nI (1 + 5 * j))), (3, .ref ob), (2, .ref b0), (1, .ref a0), (0, .ref b)]) X d_LW_law_646 (by decide) rfl ?_
  refine g_aload_n X d_LW_law_648 4 rfl ?_
  obtain ⟨fs8, hm8⟩ := sim_mo hs9
  refine g_callV (ci := 5) (As := []) (rest := []) X (z_ok eA eM) rfl rfl hm8 (sim_thrown hs9) v_MO_thrown q_659 q_660 q_658 rfl rfl (Nat.le_of_ble_eq_true rfl) d_LW_law_649 ⟨(Nat.le_of_ble_eq_true rfl), (Nat.le_of_ble_eq_true rfl)⟩ ⟨show cells + 1 + 0 + 0 ≤ 601024 by omega, show slots + 6 + 0 + 0 ≤ 7293000 by omega⟩ (g_K.no (fun _ h => h)) (fun r3_ f4 hp3 => ?_)
  obtain ⟨rfl, hf4⟩ := hp3
  rw [hf4]
  refine g_st (st2 := [.int k_]) rfl ?_
  refine g_iload X d_LW_law_652 1 rfl ?_
  refine g_icmp_eq X 659 d_LW_law_654 (by decide) (fun c654 => ?_) (fun c654 => ?_)
  · skip
    refine g_iload X d_LW_law_659 1 rfl ?_
    refine g_if_ne X 676 d_LW_law_661 (by decide) (fun c661 => ?_) (fun c661 => ?_)
    · skip
      refine g_goto X 1224 d_LW_law_676 (by decide) ?_
      exact g_wid (show cells + 1 + 0 + 0 ≤ cells + 9 by omega) (show slots + 6 + 0 + 0 ≤ slots + 166 by omega) (g_lv [2, 3, 4, 5, 6] rfl (kk _ _ _ hs9))
    · skip
      refine g_aload_n X d_LW_law_664 3 rfl ?_
      refine g_iconst (v := 0) X d_LW_law_665 (by decide) ?_
      refine g_lald (v := g2 0) X (sim_ob hs9) (nI_ix (j := 0) (n := 1) (by decide) (by decide)) rfl d_LW_law_666 ?_
      refine g_iload X d_LW_law_667 0 rfl ?_
      refine g_i2l X d_LW_law_669 ?_
      refine g_lcmp X d_LW_law_670 ?_
      refine g_if_eq X 676 d_LW_law_671 (by decide) (fun c671 => ?_) (fun c671 => ?_)
      · skip
        refine g_goto X 1224 d_LW_law_676 (by decide) ?_
        exact g_wid (show cells + 1 + 0 + 0 ≤ cells + 9 by omega) (show slots + 6 + 0 + 0 ≤ slots + 166 by omega) (g_lv [2, 3, 4, 5, 6] rfl (kk _ _ _ hs9))
      · skip
        exact absurd (by rw [h0_ c661]; exact lg_cmp_self _) c671
  · skip
    exact absurd rfl c654
set_option maxHeartbeats 4000000 in
set_option maxRecDepth 100000 in
theorem law_planned {p : Program} {l : Launch} {e : Env} {s : State} {m : MethodId} {args : Array Value} {below : List Frame} {meth : Method} {c : Code} {Q : State → Prop} {A : Nat → Prop} {D : va_G} {cI cZ cO cJ : ClassId} {eA eM : Nat} {b L : Nat} {xs : Nat → Int32} (X : g_X p s m args meth c code 7 (some .boolean) g_T "CaseListsLaw" D g_cl (g_tys cI cZ cO cJ) A (z_Z eA eM)) (hX : va_X b L xs s s.heap) (hbA : ¬ A b) (hl : l.stackTraces = false) {f : g_F} {a0 b0 ob cnt : Nat} {g : Nat → Int64} {th : Int32} {cells slots j : Nat} (h : SIM cI cZ cO cJ eA f a0 b0 ob cnt g th) (h5 : cnt < 512) (hj : 5 * j + 6 ≤ L) (hL : L ≤ 2561) (hc : cells + 9 ≤ 601024) (hs : slots + 166 ≤ 7293000) (kk : ∀ (f2 : g_F) (g2 : Nat → Int64) (t2 : Int32), SIM cI cZ cO cJ eA f2 a0 b0 ob (cnt + 1) g2 t2 → g_W p l e { frames := 12, cells := 601024, slots := 7293000, locals := 440 } s m args below meth c 7 D g_cl A f2 (cells + 9) (slots + 166) Q 1224 [(4, .int (nI (1 + 5 * j))), (3, .ref ob), (2, .ref b0), (1, .ref a0), (0, .ref b)] []) : g_W p l e { frames := 12, cells := 601024, slots := 7293000, locals := 440 } s m args below meth c 7 D g_cl A f cells slots Q 679 [(4, .int (nI (1 + 5 * j))), (3, .ref ob), (2, .ref b0), (1, .ref a0), (0, .ref b)] [] := by
  refine g_aload_n X d_LW_law_679 3 rfl ?_
  refine g_aload_n X d_LW_law_680 4 rfl ?_
  refine g_iload X d_LW_law_681 0 rfl ?_
  refine g_iconst (v := 1) X d_LW_law_683 (by decide) ?_
  refine g_iadd X d_LW_law_684 ?_
  refine g_eqi (y := nI (1 + 5 * j + 1)) (nI_add (1 + 5 * j) 1) ?_
  refine g_sld (v := xs (1 + 5 * j + 1)) X hX hbA (nI_ix (by omega) (by omega)) (nI_cl (by omega)) d_LW_law_685 ?_
  refine g_aload_n X d_LW_law_686 1 rfl ?_
  refine g_callSH (As := [.ref a0, .int (xs (1 + 5 * j + 1)), .ref ob]) (rest := []) X (z_ok eA eM) (lw_planned hl h h5) v_LW_planned q_511 q_510 rfl rfl (Nat.le_of_ble_eq_true rfl) d_LW_law_687 ⟨(Nat.le_of_ble_eq_true rfl), (Nat.le_of_ble_eq_true rfl)⟩ ⟨show cells + 1 ≤ 601024 by omega, show slots + 6 ≤ 7293000 by omega⟩ (fun r_ f2 hp => ?_)
  obtain ⟨k_, rfl, ⟨fs9, hm9⟩, hC9⟩ := hp
  refine g_st (st2 := [.int k_]) rfl ?_
  refine g_istore (lv' := [(5, .int k_), (4, .int (nI (1 + 5 * j))), (3, .ref ob), (2, .ref b0), (1, .ref a0), (0, .ref b)]) X d_LW_law_690 (by decide) rfl ?_
  refine g_aload_n X d_LW_law_692 3 rfl ?_
  refine g_aload_n X d_LW_law_693 5 rfl ?_
  refine g_iload X d_LW_law_694 1 rfl ?_
  refine g_iconst (v := 1) X d_LW_law_696 (by decide) ?_
  refine g_iadd X d_LW_law_697 ?_
  refine g_eqi (y := nI (1 + 5 * j + 1)) (nI_add (1 + 5 * j) 1) ?_
  refine g_sld (v := xs (1 + 5 * j + 1)) X hX hbA (nI_ix (by omega) (by omega)) (nI_cl (by omega)) d_LW_law_698 ?_
  refine g_callV (ci := 5) (As := [.int (xs (1 + 5 * j + 1))]) (rest := []) X (z_ok eA eM) rfl rfl hm9 hC9 v_MO_planned q_781 q_782 q_780 rfl rfl (Nat.le_of_ble_eq_true rfl) d_LW_law_699 ⟨(Nat.le_of_ble_eq_true rfl), (Nat.le_of_ble_eq_true rfl)⟩ ⟨show cells + 1 + 0 ≤ 601024 by omega, show slots + 6 + 0 ≤ 7293000 by omega⟩ (g_K.no (fun _ h => h)) (fun r2_ f3 hp2 => ?_)
  obtain ⟨w_, rfl, g2, hs9, h0_⟩ := hp2
  refine g_st (st2 := [.int w_]) rfl ?_
  refine g_istore (lv' := [(6, .int w_), (5, .int k_), (4, .int (nI (1 + 5 * j))), (3, .ref ob), (2, .ref b0), (1, .ref a0), (0, .ref b)]) X d_LW_law_702 (by decide) rfl ?_
  refine g_aload_n X d_LW_law_704 4 rfl ?_
  obtain ⟨fs8, hm8⟩ := sim_mo hs9
  refine g_callV (ci := 5) (As := []) (rest := []) X (z_ok eA eM) rfl rfl hm8 (sim_thrown hs9) v_MO_thrown q_659 q_660 q_658 rfl rfl (Nat.le_of_ble_eq_true rfl) d_LW_law_705 ⟨(Nat.le_of_ble_eq_true rfl), (Nat.le_of_ble_eq_true rfl)⟩ ⟨show cells + 1 + 0 + 0 ≤ 601024 by omega, show slots + 6 + 0 + 0 ≤ 7293000 by omega⟩ (g_K.no (fun _ h => h)) (fun r3_ f4 hp3 => ?_)
  obtain ⟨rfl, hf4⟩ := hp3
  rw [hf4]
  refine g_st (st2 := [.int k_]) rfl ?_
  refine g_iload X d_LW_law_708 1 rfl ?_
  refine g_icmp_eq X 715 d_LW_law_710 (by decide) (fun c710 => ?_) (fun c710 => ?_)
  · skip
    refine g_iload X d_LW_law_715 1 rfl ?_
    refine g_if_ne X 732 d_LW_law_717 (by decide) (fun c717 => ?_) (fun c717 => ?_)
    · skip
      refine g_goto X 1224 d_LW_law_732 (by decide) ?_
      exact g_wid (show cells + 1 + 0 + 0 ≤ cells + 9 by omega) (show slots + 6 + 0 + 0 ≤ slots + 166 by omega) (g_lv [2, 3, 4, 5, 6] rfl (kk _ _ _ hs9))
    · skip
      refine g_aload_n X d_LW_law_720 3 rfl ?_
      refine g_iconst (v := 0) X d_LW_law_721 (by decide) ?_
      refine g_lald (v := g2 0) X (sim_ob hs9) (nI_ix (j := 0) (n := 1) (by decide) (by decide)) rfl d_LW_law_722 ?_
      refine g_iload X d_LW_law_723 0 rfl ?_
      refine g_i2l X d_LW_law_725 ?_
      refine g_lcmp X d_LW_law_726 ?_
      refine g_if_eq X 732 d_LW_law_727 (by decide) (fun c727 => ?_) (fun c727 => ?_)
      · skip
        refine g_goto X 1224 d_LW_law_732 (by decide) ?_
        exact g_wid (show cells + 1 + 0 + 0 ≤ cells + 9 by omega) (show slots + 6 + 0 + 0 ≤ slots + 166 by omega) (g_lv [2, 3, 4, 5, 6] rfl (kk _ _ _ hs9))
      · skip
        exact absurd (by rw [h0_ c717]; exact lg_cmp_self _) c727
  · skip
    exact absurd rfl c710
set_option maxHeartbeats 4000000 in
set_option maxRecDepth 100000 in
theorem law_seconds {p : Program} {l : Launch} {e : Env} {s : State} {m : MethodId} {args : Array Value} {below : List Frame} {meth : Method} {c : Code} {Q : State → Prop} {A : Nat → Prop} {D : va_G} {cI cZ cO cJ : ClassId} {eA eM : Nat} {b L : Nat} {xs : Nat → Int32} (X : g_X p s m args meth c code 7 (some .boolean) g_T "CaseListsLaw" D g_cl (g_tys cI cZ cO cJ) A (z_Z eA eM)) (hX : va_X b L xs s s.heap) (hbA : ¬ A b) (hl : l.stackTraces = false) {f : g_F} {a0 b0 ob cnt : Nat} {g : Nat → Int64} {th : Int32} {cells slots j : Nat} (h : SIM cI cZ cO cJ eA f a0 b0 ob cnt g th) (h5 : cnt < 512) (hj : 5 * j + 6 ≤ L) (hL : L ≤ 2561) (hc : cells + 9 ≤ 601024) (hs : slots + 166 ≤ 7293000) (kk : ∀ (f2 : g_F) (g2 : Nat → Int64) (t2 : Int32), SIM cI cZ cO cJ eA f2 a0 b0 ob (cnt + 1) g2 t2 → g_W p l e { frames := 12, cells := 601024, slots := 7293000, locals := 440 } s m args below meth c 7 D g_cl A f2 (cells + 9) (slots + 166) Q 1224 [(4, .int (nI (1 + 5 * j))), (3, .ref ob), (2, .ref b0), (1, .ref a0), (0, .ref b)] []) : g_W p l e { frames := 12, cells := 601024, slots := 7293000, locals := 440 } s m args below meth c 7 D g_cl A f cells slots Q 735 [(4, .int (nI (1 + 5 * j))), (3, .ref ob), (2, .ref b0), (1, .ref a0), (0, .ref b)] [] := by
  refine g_aload_n X d_LW_law_735 3 rfl ?_
  obtain ⟨fs7, hm7⟩ := sim_cl h
  refine g_callV (ci := 3) (As := []) (rest := []) X (z_ok eA eM) rfl rfl hm7 (sim_secs h) v_CL_seconds q_126 q_127 q_125 rfl rfl (Nat.le_of_ble_eq_true rfl) d_LW_law_736 ⟨(Nat.le_of_ble_eq_true rfl), (Nat.le_of_ble_eq_true rfl)⟩ ⟨show cells + 0 ≤ 601024 by omega, show slots + 0 ≤ 7293000 by omega⟩ (g_K.no (fun _ h => h)) (fun r_ f2 hp => ?_)
  obtain ⟨v_, rfl, hf2, hC9⟩ := hp
  rw [hf2]
  refine g_st (st2 := [.int v_]) rfl ?_
  refine g_aload_n X d_LW_law_739 2 rfl ?_
  obtain ⟨fs8, hm8⟩ := sim_mo h
  refine g_callV (ci := 5) (As := []) (rest := [.int v_]) X (z_ok eA eM) rfl rfl hm8 hC9 v_MO_seconds q_785 q_786 q_784 rfl rfl (Nat.le_of_ble_eq_true rfl) d_LW_law_740 ⟨(Nat.le_of_ble_eq_true rfl), (Nat.le_of_ble_eq_true rfl)⟩ ⟨show cells + 0 + 0 ≤ 601024 by omega, show slots + 0 + 0 ≤ 7293000 by omega⟩ (g_K.no (fun _ h => h)) (fun r2_ f3 hp2 => ?_)
  obtain ⟨rfl, hs9⟩ := hp2
  refine g_st (st2 := [.int v_, .int v_]) rfl ?_
  refine g_icmp_eq X 1224 d_LW_law_743 (by decide) (fun c743 => ?_) (fun c743 => ?_)
  · skip
    exact g_wid (show cells + 0 + 0 ≤ cells + 9 by omega) (show slots + 0 + 0 ≤ slots + 166 by omega) (g_lv [0, 1, 2, 3, 4] rfl (kk _ _ _ hs9))
  · skip
    exact absurd rfl c743
set_option maxHeartbeats 4000000 in
set_option maxRecDepth 100000 in
theorem law_from {p : Program} {l : Launch} {e : Env} {s : State} {m : MethodId} {args : Array Value} {below : List Frame} {meth : Method} {c : Code} {Q : State → Prop} {A : Nat → Prop} {D : va_G} {cI cZ cO cJ : ClassId} {eA eM : Nat} {b L : Nat} {xs : Nat → Int32} (X : g_X p s m args meth c code 7 (some .boolean) g_T "CaseListsLaw" D g_cl (g_tys cI cZ cO cJ) A (z_Z eA eM)) (hX : va_X b L xs s s.heap) (hbA : ¬ A b) (hl : l.stackTraces = false) {f : g_F} {a0 b0 ob cnt : Nat} {g : Nat → Int64} {th : Int32} {cells slots j : Nat} (h : SIM cI cZ cO cJ eA f a0 b0 ob cnt g th) (h5 : cnt < 512) (hj : 5 * j + 6 ≤ L) (hL : L ≤ 2561) (hc : cells + 9 ≤ 601024) (hs : slots + 166 ≤ 7293000) (kk : ∀ (f2 : g_F) (g2 : Nat → Int64) (t2 : Int32), SIM cI cZ cO cJ eA f2 a0 b0 ob (cnt + 1) g2 t2 → g_W p l e { frames := 12, cells := 601024, slots := 7293000, locals := 440 } s m args below meth c 7 D g_cl A f2 (cells + 9) (slots + 166) Q 1224 [(4, .int (nI (1 + 5 * j))), (3, .ref ob), (2, .ref b0), (1, .ref a0), (0, .ref b)] []) : g_W p l e { frames := 12, cells := 601024, slots := 7293000, locals := 440 } s m args below meth c 7 D g_cl A f cells slots Q 748 [(4, .int (nI (1 + 5 * j))), (3, .ref ob), (2, .ref b0), (1, .ref a0), (0, .ref b)] [] := by
  refine g_aload_n X d_LW_law_748 3 rfl ?_
  refine g_aload_n X d_LW_law_749 4 rfl ?_
  refine g_iload X d_LW_law_750 0 rfl ?_
  refine g_iconst (v := 1) X d_LW_law_752 (by decide) ?_
  refine g_iadd X d_LW_law_753 ?_
  refine g_eqi (y := nI (1 + 5 * j + 1)) (nI_add (1 + 5 * j) 1) ?_
  refine g_sld (v := xs (1 + 5 * j + 1)) X hX hbA (nI_ix (by omega) (by omega)) (nI_cl (by omega)) d_LW_law_754 ?_
  refine g_aload_n X d_LW_law_755 1 rfl ?_
  refine g_callSH (As := [.ref a0, .int (xs (1 + 5 * j + 1)), .ref ob]) (rest := []) X (z_ok eA eM) (lw_from hl h h5) v_LW_from q_518 q_517 rfl rfl (Nat.le_of_ble_eq_true rfl) d_LW_law_756 ⟨(Nat.le_of_ble_eq_true rfl), (Nat.le_of_ble_eq_true rfl)⟩ ⟨show cells + 1 ≤ 601024 by omega, show slots + 6 ≤ 7293000 by omega⟩ (fun r_ f2 hp => ?_)
  obtain ⟨k_, rfl, ⟨fs9, hm9⟩, hC9⟩ := hp
  refine g_st (st2 := [.int k_]) rfl ?_
  refine g_istore (lv' := [(5, .int k_), (4, .int (nI (1 + 5 * j))), (3, .ref ob), (2, .ref b0), (1, .ref a0), (0, .ref b)]) X d_LW_law_759 (by decide) rfl ?_
  refine g_aload_n X d_LW_law_761 3 rfl ?_
  refine g_aload_n X d_LW_law_762 5 rfl ?_
  refine g_iload X d_LW_law_763 1 rfl ?_
  refine g_iconst (v := 1) X d_LW_law_765 (by decide) ?_
  refine g_iadd X d_LW_law_766 ?_
  refine g_eqi (y := nI (1 + 5 * j + 1)) (nI_add (1 + 5 * j) 1) ?_
  refine g_sld (v := xs (1 + 5 * j + 1)) X hX hbA (nI_ix (by omega) (by omega)) (nI_cl (by omega)) d_LW_law_767 ?_
  refine g_callV (ci := 5) (As := [.int (xs (1 + 5 * j + 1))]) (rest := []) X (z_ok eA eM) rfl rfl hm9 hC9 v_MO_from q_789 q_790 q_788 rfl rfl (Nat.le_of_ble_eq_true rfl) d_LW_law_768 ⟨(Nat.le_of_ble_eq_true rfl), (Nat.le_of_ble_eq_true rfl)⟩ ⟨show cells + 1 + 0 ≤ 601024 by omega, show slots + 6 + 0 ≤ 7293000 by omega⟩ (g_K.no (fun _ h => h)) (fun r2_ f3 hp2 => ?_)
  obtain ⟨w_, rfl, g2, hs9, h0_⟩ := hp2
  refine g_st (st2 := [.int w_]) rfl ?_
  refine g_istore (lv' := [(6, .int w_), (5, .int k_), (4, .int (nI (1 + 5 * j))), (3, .ref ob), (2, .ref b0), (1, .ref a0), (0, .ref b)]) X d_LW_law_771 (by decide) rfl ?_
  refine g_aload_n X d_LW_law_773 4 rfl ?_
  obtain ⟨fs8, hm8⟩ := sim_mo hs9
  refine g_callV (ci := 5) (As := []) (rest := []) X (z_ok eA eM) rfl rfl hm8 (sim_thrown hs9) v_MO_thrown q_659 q_660 q_658 rfl rfl (Nat.le_of_ble_eq_true rfl) d_LW_law_774 ⟨(Nat.le_of_ble_eq_true rfl), (Nat.le_of_ble_eq_true rfl)⟩ ⟨show cells + 1 + 0 + 0 ≤ 601024 by omega, show slots + 6 + 0 + 0 ≤ 7293000 by omega⟩ (g_K.no (fun _ h => h)) (fun r3_ f4 hp3 => ?_)
  obtain ⟨rfl, hf4⟩ := hp3
  rw [hf4]
  refine g_st (st2 := [.int k_]) rfl ?_
  refine g_iload X d_LW_law_777 1 rfl ?_
  refine g_icmp_eq X 784 d_LW_law_779 (by decide) (fun c779 => ?_) (fun c779 => ?_)
  · skip
    refine g_iload X d_LW_law_784 1 rfl ?_
    refine g_if_ne X 801 d_LW_law_786 (by decide) (fun c786 => ?_) (fun c786 => ?_)
    · skip
      refine g_goto X 1224 d_LW_law_801 (by decide) ?_
      exact g_wid (show cells + 1 + 0 + 0 ≤ cells + 9 by omega) (show slots + 6 + 0 + 0 ≤ slots + 166 by omega) (g_lv [2, 3, 4, 5, 6] rfl (kk _ _ _ hs9))
    · skip
      refine g_aload_n X d_LW_law_789 3 rfl ?_
      refine g_iconst (v := 0) X d_LW_law_790 (by decide) ?_
      refine g_lald (v := g2 0) X (sim_ob hs9) (nI_ix (j := 0) (n := 1) (by decide) (by decide)) rfl d_LW_law_791 ?_
      refine g_iload X d_LW_law_792 0 rfl ?_
      refine g_i2l X d_LW_law_794 ?_
      refine g_lcmp X d_LW_law_795 ?_
      refine g_if_eq X 801 d_LW_law_796 (by decide) (fun c796 => ?_) (fun c796 => ?_)
      · skip
        refine g_goto X 1224 d_LW_law_801 (by decide) ?_
        exact g_wid (show cells + 1 + 0 + 0 ≤ cells + 9 by omega) (show slots + 6 + 0 + 0 ≤ slots + 166 by omega) (g_lv [2, 3, 4, 5, 6] rfl (kk _ _ _ hs9))
      · skip
        exact absurd (by rw [h0_ c786]; exact lg_cmp_self _) c796
  · skip
    exact absurd rfl c779
set_option maxHeartbeats 4000000 in
set_option maxRecDepth 100000 in
theorem law_state {p : Program} {l : Launch} {e : Env} {s : State} {m : MethodId} {args : Array Value} {below : List Frame} {meth : Method} {c : Code} {Q : State → Prop} {A : Nat → Prop} {D : va_G} {cI cZ cO cJ : ClassId} {eA eM : Nat} {b L : Nat} {xs : Nat → Int32} (X : g_X p s m args meth c code 7 (some .boolean) g_T "CaseListsLaw" D g_cl (g_tys cI cZ cO cJ) A (z_Z eA eM)) (hX : va_X b L xs s s.heap) (hbA : ¬ A b) (hl : l.stackTraces = false) {f : g_F} {a0 b0 ob cnt : Nat} {g : Nat → Int64} {th : Int32} {cells slots j : Nat} (h : SIM cI cZ cO cJ eA f a0 b0 ob cnt g th) (h5 : cnt < 512) (hj : 5 * j + 6 ≤ L) (hL : L ≤ 2561) (hc : cells + 9 ≤ 601024) (hs : slots + 166 ≤ 7293000) (kk : ∀ (f2 : g_F) (g2 : Nat → Int64) (t2 : Int32), SIM cI cZ cO cJ eA f2 a0 b0 ob (cnt + 1) g2 t2 → g_W p l e { frames := 12, cells := 601024, slots := 7293000, locals := 440 } s m args below meth c 7 D g_cl A f2 (cells + 9) (slots + 166) Q 1224 [(4, .int (nI (1 + 5 * j))), (3, .ref ob), (2, .ref b0), (1, .ref a0), (0, .ref b)] []) : g_W p l e { frames := 12, cells := 601024, slots := 7293000, locals := 440 } s m args below meth c 7 D g_cl A f cells slots Q 804 [(4, .int (nI (1 + 5 * j))), (3, .ref ob), (2, .ref b0), (1, .ref a0), (0, .ref b)] [] := by
  refine g_aload_n X d_LW_law_804 3 rfl ?_
  refine g_aload_n X d_LW_law_805 4 rfl ?_
  refine g_iload X d_LW_law_806 0 rfl ?_
  refine g_iconst (v := 1) X d_LW_law_808 (by decide) ?_
  refine g_iadd X d_LW_law_809 ?_
  refine g_eqi (y := nI (1 + 5 * j + 1)) (nI_add (1 + 5 * j) 1) ?_
  refine g_sld (v := xs (1 + 5 * j + 1)) X hX hbA (nI_ix (by omega) (by omega)) (nI_cl (by omega)) d_LW_law_810 ?_
  refine g_aload_n X d_LW_law_811 4 rfl ?_
  refine g_iload X d_LW_law_812 0 rfl ?_
  refine g_iconst (v := 2) X d_LW_law_814 (by decide) ?_
  refine g_iadd X d_LW_law_815 ?_
  refine g_eqi (y := nI (1 + 5 * j + 2)) (nI_add (1 + 5 * j) 2) ?_
  refine g_sld (v := xs (1 + 5 * j + 2)) X hX hbA (nI_ix (by omega) (by omega)) (nI_cl (by omega)) d_LW_law_816 ?_
  refine g_aload_n X d_LW_law_817 1 rfl ?_
  refine g_callSH (As := [.ref a0, .int (xs (1 + 5 * j + 1)), .int (xs (1 + 5 * j + 2)), .ref ob]) (rest := []) X (z_ok eA eM) (lw_state hl h h5) v_LW_state q_530 q_529 rfl rfl (Nat.le_of_ble_eq_true rfl) d_LW_law_818 ⟨(Nat.le_of_ble_eq_true rfl), (Nat.le_of_ble_eq_true rfl)⟩ ⟨show cells + 2 ≤ 601024 by omega, show slots + 12 ≤ 7293000 by omega⟩ (fun r_ f2 hp => ?_)
  obtain ⟨k_, rfl, ⟨fs9, hm9⟩, hC9⟩ := hp
  refine g_st (st2 := [.int k_]) rfl ?_
  refine g_istore (lv' := [(5, .int k_), (4, .int (nI (1 + 5 * j))), (3, .ref ob), (2, .ref b0), (1, .ref a0), (0, .ref b)]) X d_LW_law_821 (by decide) rfl ?_
  refine g_aload_n X d_LW_law_823 3 rfl ?_
  refine g_aload_n X d_LW_law_824 5 rfl ?_
  refine g_iload X d_LW_law_825 1 rfl ?_
  refine g_iconst (v := 1) X d_LW_law_827 (by decide) ?_
  refine g_iadd X d_LW_law_828 ?_
  refine g_eqi (y := nI (1 + 5 * j + 1)) (nI_add (1 + 5 * j) 1) ?_
  refine g_sld (v := xs (1 + 5 * j + 1)) X hX hbA (nI_ix (by omega) (by omega)) (nI_cl (by omega)) d_LW_law_829 ?_
  refine g_aload_n X d_LW_law_830 5 rfl ?_
  refine g_iload X d_LW_law_831 1 rfl ?_
  refine g_iconst (v := 2) X d_LW_law_833 (by decide) ?_
  refine g_iadd X d_LW_law_834 ?_
  refine g_eqi (y := nI (1 + 5 * j + 2)) (nI_add (1 + 5 * j) 2) ?_
  refine g_sld (v := xs (1 + 5 * j + 2)) X hX hbA (nI_ix (by omega) (by omega)) (nI_cl (by omega)) d_LW_law_835 ?_
  refine g_callV (ci := 5) (As := [.int (xs (1 + 5 * j + 1)), .int (xs (1 + 5 * j + 2))]) (rest := []) X (z_ok eA eM) rfl rfl hm9 hC9 v_MO_state q_702 q_703 q_701 rfl rfl (Nat.le_of_ble_eq_true rfl) d_LW_law_836 ⟨(Nat.le_of_ble_eq_true rfl), (Nat.le_of_ble_eq_true rfl)⟩ ⟨show cells + 2 + 0 ≤ 601024 by omega, show slots + 12 + 0 ≤ 7293000 by omega⟩ (g_K.no (fun _ h => h)) (fun r2_ f3 hp2 => ?_)
  obtain ⟨w_, rfl, g2, hs9, h0_⟩ := hp2
  refine g_st (st2 := [.int w_]) rfl ?_
  refine g_istore (lv' := [(6, .int w_), (5, .int k_), (4, .int (nI (1 + 5 * j))), (3, .ref ob), (2, .ref b0), (1, .ref a0), (0, .ref b)]) X d_LW_law_839 (by decide) rfl ?_
  refine g_aload_n X d_LW_law_841 4 rfl ?_
  obtain ⟨fs8, hm8⟩ := sim_mo hs9
  refine g_callV (ci := 5) (As := []) (rest := []) X (z_ok eA eM) rfl rfl hm8 (sim_thrown hs9) v_MO_thrown q_659 q_660 q_658 rfl rfl (Nat.le_of_ble_eq_true rfl) d_LW_law_842 ⟨(Nat.le_of_ble_eq_true rfl), (Nat.le_of_ble_eq_true rfl)⟩ ⟨show cells + 2 + 0 + 0 ≤ 601024 by omega, show slots + 12 + 0 + 0 ≤ 7293000 by omega⟩ (g_K.no (fun _ h => h)) (fun r3_ f4 hp3 => ?_)
  obtain ⟨rfl, hf4⟩ := hp3
  rw [hf4]
  refine g_st (st2 := [.int k_]) rfl ?_
  refine g_iload X d_LW_law_845 1 rfl ?_
  refine g_icmp_eq X 852 d_LW_law_847 (by decide) (fun c847 => ?_) (fun c847 => ?_)
  · skip
    refine g_iload X d_LW_law_852 1 rfl ?_
    refine g_if_ne X 869 d_LW_law_854 (by decide) (fun c854 => ?_) (fun c854 => ?_)
    · skip
      refine g_goto X 1224 d_LW_law_869 (by decide) ?_
      exact g_wid (show cells + 2 + 0 + 0 ≤ cells + 9 by omega) (show slots + 12 + 0 + 0 ≤ slots + 166 by omega) (g_lv [2, 3, 4, 5, 6] rfl (kk _ _ _ hs9))
    · skip
      refine g_aload_n X d_LW_law_857 3 rfl ?_
      refine g_iconst (v := 0) X d_LW_law_858 (by decide) ?_
      refine g_lald (v := g2 0) X (sim_ob hs9) (nI_ix (j := 0) (n := 1) (by decide) (by decide)) rfl d_LW_law_859 ?_
      refine g_iload X d_LW_law_860 0 rfl ?_
      refine g_i2l X d_LW_law_862 ?_
      refine g_lcmp X d_LW_law_863 ?_
      refine g_if_eq X 869 d_LW_law_864 (by decide) (fun c864 => ?_) (fun c864 => ?_)
      · skip
        refine g_goto X 1224 d_LW_law_869 (by decide) ?_
        exact g_wid (show cells + 2 + 0 + 0 ≤ cells + 9 by omega) (show slots + 12 + 0 + 0 ≤ slots + 166 by omega) (g_lv [2, 3, 4, 5, 6] rfl (kk _ _ _ hs9))
      · skip
        exact absurd (by rw [h0_ c854]; exact lg_cmp_self _) c864
  · skip
    exact absurd rfl c847
set_option maxHeartbeats 4000000 in
set_option maxRecDepth 100000 in
theorem law_word {p : Program} {l : Launch} {e : Env} {s : State} {m : MethodId} {args : Array Value} {below : List Frame} {meth : Method} {c : Code} {Q : State → Prop} {A : Nat → Prop} {D : va_G} {cI cZ cO cJ : ClassId} {eA eM : Nat} {b L : Nat} {xs : Nat → Int32} (X : g_X p s m args meth c code 7 (some .boolean) g_T "CaseListsLaw" D g_cl (g_tys cI cZ cO cJ) A (z_Z eA eM)) (hX : va_X b L xs s s.heap) (hbA : ¬ A b) (hl : l.stackTraces = false) {f : g_F} {a0 b0 ob cnt : Nat} {g : Nat → Int64} {th : Int32} {cells slots j : Nat} (h : SIM cI cZ cO cJ eA f a0 b0 ob cnt g th) (h5 : cnt < 512) (hj : 5 * j + 6 ≤ L) (hL : L ≤ 2561) (hc : cells + 9 ≤ 601024) (hs : slots + 166 ≤ 7293000) (kk : ∀ (f2 : g_F) (g2 : Nat → Int64) (t2 : Int32), SIM cI cZ cO cJ eA f2 a0 b0 ob (cnt + 1) g2 t2 → g_W p l e { frames := 12, cells := 601024, slots := 7293000, locals := 440 } s m args below meth c 7 D g_cl A f2 (cells + 9) (slots + 166) Q 1224 [(4, .int (nI (1 + 5 * j))), (3, .ref ob), (2, .ref b0), (1, .ref a0), (0, .ref b)] []) : g_W p l e { frames := 12, cells := 601024, slots := 7293000, locals := 440 } s m args below meth c 7 D g_cl A f cells slots Q 872 [(4, .int (nI (1 + 5 * j))), (3, .ref ob), (2, .ref b0), (1, .ref a0), (0, .ref b)] [] := by
  refine g_aload_n X d_LW_law_872 3 rfl ?_
  refine g_aload_n X d_LW_law_873 4 rfl ?_
  refine g_iload X d_LW_law_874 0 rfl ?_
  refine g_iconst (v := 1) X d_LW_law_876 (by decide) ?_
  refine g_iadd X d_LW_law_877 ?_
  refine g_eqi (y := nI (1 + 5 * j + 1)) (nI_add (1 + 5 * j) 1) ?_
  refine g_sld (v := xs (1 + 5 * j + 1)) X hX hbA (nI_ix (by omega) (by omega)) (nI_cl (by omega)) d_LW_law_878 ?_
  refine g_aload_n X d_LW_law_879 4 rfl ?_
  refine g_iload X d_LW_law_880 0 rfl ?_
  refine g_iconst (v := 2) X d_LW_law_882 (by decide) ?_
  refine g_iadd X d_LW_law_883 ?_
  refine g_eqi (y := nI (1 + 5 * j + 2)) (nI_add (1 + 5 * j) 2) ?_
  refine g_sld (v := xs (1 + 5 * j + 2)) X hX hbA (nI_ix (by omega) (by omega)) (nI_cl (by omega)) d_LW_law_884 ?_
  refine g_aload_n X d_LW_law_885 4 rfl ?_
  refine g_iload X d_LW_law_886 0 rfl ?_
  refine g_iconst (v := 3) X d_LW_law_888 (by decide) ?_
  refine g_iadd X d_LW_law_889 ?_
  refine g_eqi (y := nI (1 + 5 * j + 3)) (nI_add (1 + 5 * j) 3) ?_
  refine g_sld (v := xs (1 + 5 * j + 3)) X hX hbA (nI_ix (by omega) (by omega)) (nI_cl (by omega)) d_LW_law_890 ?_
  refine g_aload_n X d_LW_law_891 1 rfl ?_
  refine g_callSH (As := [.ref a0, .int (xs (1 + 5 * j + 1)), .int (xs (1 + 5 * j + 2)), .int (xs (1 + 5 * j + 3)), .ref ob]) (rest := []) X (z_ok eA eM) (lw_word hl h h5) v_LW_word q_537 q_536 rfl rfl (Nat.le_of_ble_eq_true rfl) d_LW_law_892 ⟨(Nat.le_of_ble_eq_true rfl), (Nat.le_of_ble_eq_true rfl)⟩ ⟨show cells + 3 ≤ 601024 by omega, show slots + 18 ≤ 7293000 by omega⟩ (fun r_ f2 hp => ?_)
  obtain ⟨k_, rfl, ⟨fs9, hm9⟩, hC9⟩ := hp
  refine g_st (st2 := [.int k_]) rfl ?_
  refine g_istore (lv' := [(5, .int k_), (4, .int (nI (1 + 5 * j))), (3, .ref ob), (2, .ref b0), (1, .ref a0), (0, .ref b)]) X d_LW_law_895 (by decide) rfl ?_
  refine g_aload_n X d_LW_law_897 3 rfl ?_
  refine g_aload_n X d_LW_law_898 5 rfl ?_
  refine g_iload X d_LW_law_899 1 rfl ?_
  refine g_iconst (v := 1) X d_LW_law_901 (by decide) ?_
  refine g_iadd X d_LW_law_902 ?_
  refine g_eqi (y := nI (1 + 5 * j + 1)) (nI_add (1 + 5 * j) 1) ?_
  refine g_sld (v := xs (1 + 5 * j + 1)) X hX hbA (nI_ix (by omega) (by omega)) (nI_cl (by omega)) d_LW_law_903 ?_
  refine g_aload_n X d_LW_law_904 5 rfl ?_
  refine g_iload X d_LW_law_905 1 rfl ?_
  refine g_iconst (v := 2) X d_LW_law_907 (by decide) ?_
  refine g_iadd X d_LW_law_908 ?_
  refine g_eqi (y := nI (1 + 5 * j + 2)) (nI_add (1 + 5 * j) 2) ?_
  refine g_sld (v := xs (1 + 5 * j + 2)) X hX hbA (nI_ix (by omega) (by omega)) (nI_cl (by omega)) d_LW_law_909 ?_
  refine g_aload_n X d_LW_law_910 5 rfl ?_
  refine g_iload X d_LW_law_911 1 rfl ?_
  refine g_iconst (v := 3) X d_LW_law_913 (by decide) ?_
  refine g_iadd X d_LW_law_914 ?_
  refine g_eqi (y := nI (1 + 5 * j + 3)) (nI_add (1 + 5 * j) 3) ?_
  refine g_sld (v := xs (1 + 5 * j + 3)) X hX hbA (nI_ix (by omega) (by omega)) (nI_cl (by omega)) d_LW_law_915 ?_
  refine g_callV (ci := 5) (As := [.int (xs (1 + 5 * j + 1)), .int (xs (1 + 5 * j + 2)), .int (xs (1 + 5 * j + 3))]) (rest := []) X (z_ok eA eM) rfl rfl hm9 hC9 v_MO_word q_722 q_723 q_721 rfl rfl (Nat.le_of_ble_eq_true rfl) d_LW_law_916 ⟨(Nat.le_of_ble_eq_true rfl), (Nat.le_of_ble_eq_true rfl)⟩ ⟨show cells + 3 + 0 ≤ 601024 by omega, show slots + 18 + 0 ≤ 7293000 by omega⟩ (g_K.no (fun _ h => h)) (fun r2_ f3 hp2 => ?_)
  obtain ⟨w_, rfl, g2, hs9, h0_⟩ := hp2
  refine g_st (st2 := [.int w_]) rfl ?_
  refine g_istore (lv' := [(6, .int w_), (5, .int k_), (4, .int (nI (1 + 5 * j))), (3, .ref ob), (2, .ref b0), (1, .ref a0), (0, .ref b)]) X d_LW_law_919 (by decide) rfl ?_
  refine g_aload_n X d_LW_law_921 4 rfl ?_
  obtain ⟨fs8, hm8⟩ := sim_mo hs9
  refine g_callV (ci := 5) (As := []) (rest := []) X (z_ok eA eM) rfl rfl hm8 (sim_thrown hs9) v_MO_thrown q_659 q_660 q_658 rfl rfl (Nat.le_of_ble_eq_true rfl) d_LW_law_922 ⟨(Nat.le_of_ble_eq_true rfl), (Nat.le_of_ble_eq_true rfl)⟩ ⟨show cells + 3 + 0 + 0 ≤ 601024 by omega, show slots + 18 + 0 + 0 ≤ 7293000 by omega⟩ (g_K.no (fun _ h => h)) (fun r3_ f4 hp3 => ?_)
  obtain ⟨rfl, hf4⟩ := hp3
  rw [hf4]
  refine g_st (st2 := [.int k_]) rfl ?_
  refine g_iload X d_LW_law_925 1 rfl ?_
  refine g_icmp_eq X 932 d_LW_law_927 (by decide) (fun c927 => ?_) (fun c927 => ?_)
  · skip
    refine g_iload X d_LW_law_932 1 rfl ?_
    refine g_if_ne X 949 d_LW_law_934 (by decide) (fun c934 => ?_) (fun c934 => ?_)
    · skip
      refine g_goto X 1224 d_LW_law_949 (by decide) ?_
      exact g_wid (show cells + 3 + 0 + 0 ≤ cells + 9 by omega) (show slots + 18 + 0 + 0 ≤ slots + 166 by omega) (g_lv [2, 3, 4, 5, 6] rfl (kk _ _ _ hs9))
    · skip
      refine g_aload_n X d_LW_law_937 3 rfl ?_
      refine g_iconst (v := 0) X d_LW_law_938 (by decide) ?_
      refine g_lald (v := g2 0) X (sim_ob hs9) (nI_ix (j := 0) (n := 1) (by decide) (by decide)) rfl d_LW_law_939 ?_
      refine g_iload X d_LW_law_940 0 rfl ?_
      refine g_i2l X d_LW_law_942 ?_
      refine g_lcmp X d_LW_law_943 ?_
      refine g_if_eq X 949 d_LW_law_944 (by decide) (fun c944 => ?_) (fun c944 => ?_)
      · skip
        refine g_goto X 1224 d_LW_law_949 (by decide) ?_
        exact g_wid (show cells + 3 + 0 + 0 ≤ cells + 9 by omega) (show slots + 18 + 0 + 0 ≤ slots + 166 by omega) (g_lv [2, 3, 4, 5, 6] rfl (kk _ _ _ hs9))
      · skip
        exact absurd (by rw [h0_ c934]; exact lg_cmp_self _) c944
  · skip
    exact absurd rfl c927
set_option maxHeartbeats 4000000 in
set_option maxRecDepth 100000 in
theorem law_listed {p : Program} {l : Launch} {e : Env} {s : State} {m : MethodId} {args : Array Value} {below : List Frame} {meth : Method} {c : Code} {Q : State → Prop} {A : Nat → Prop} {D : va_G} {cI cZ cO cJ : ClassId} {eA eM : Nat} {b L : Nat} {xs : Nat → Int32} (X : g_X p s m args meth c code 7 (some .boolean) g_T "CaseListsLaw" D g_cl (g_tys cI cZ cO cJ) A (z_Z eA eM)) (hX : va_X b L xs s s.heap) (hbA : ¬ A b) (hl : l.stackTraces = false) {f : g_F} {a0 b0 ob cnt : Nat} {g : Nat → Int64} {th : Int32} {cells slots j : Nat} (h : SIM cI cZ cO cJ eA f a0 b0 ob cnt g th) (h5 : cnt < 512) (hj : 5 * j + 6 ≤ L) (hL : L ≤ 2561) (hc : cells + 9 ≤ 601024) (hs : slots + 166 ≤ 7293000) (kk : ∀ (f2 : g_F) (g2 : Nat → Int64) (t2 : Int32), SIM cI cZ cO cJ eA f2 a0 b0 ob (cnt + 1) g2 t2 → g_W p l e { frames := 12, cells := 601024, slots := 7293000, locals := 440 } s m args below meth c 7 D g_cl A f2 (cells + 9) (slots + 166) Q 1224 [(4, .int (nI (1 + 5 * j))), (3, .ref ob), (2, .ref b0), (1, .ref a0), (0, .ref b)] []) : g_W p l e { frames := 12, cells := 601024, slots := 7293000, locals := 440 } s m args below meth c 7 D g_cl A f cells slots Q 952 [(4, .int (nI (1 + 5 * j))), (3, .ref ob), (2, .ref b0), (1, .ref a0), (0, .ref b)] [] := by
  refine g_aload_n X d_LW_law_952 3 rfl ?_
  refine g_aload_n X d_LW_law_953 4 rfl ?_
  refine g_iload X d_LW_law_954 0 rfl ?_
  refine g_iconst (v := 1) X d_LW_law_956 (by decide) ?_
  refine g_iadd X d_LW_law_957 ?_
  refine g_eqi (y := nI (1 + 5 * j + 1)) (nI_add (1 + 5 * j) 1) ?_
  refine g_sld (v := xs (1 + 5 * j + 1)) X hX hbA (nI_ix (by omega) (by omega)) (nI_cl (by omega)) d_LW_law_958 ?_
  refine g_aload_n X d_LW_law_959 4 rfl ?_
  refine g_iload X d_LW_law_960 0 rfl ?_
  refine g_iconst (v := 2) X d_LW_law_962 (by decide) ?_
  refine g_iadd X d_LW_law_963 ?_
  refine g_eqi (y := nI (1 + 5 * j + 2)) (nI_add (1 + 5 * j) 2) ?_
  refine g_sld (v := xs (1 + 5 * j + 2)) X hX hbA (nI_ix (by omega) (by omega)) (nI_cl (by omega)) d_LW_law_964 ?_
  refine g_aload_n X d_LW_law_965 4 rfl ?_
  refine g_iload X d_LW_law_966 0 rfl ?_
  refine g_iconst (v := 3) X d_LW_law_968 (by decide) ?_
  refine g_iadd X d_LW_law_969 ?_
  refine g_eqi (y := nI (1 + 5 * j + 3)) (nI_add (1 + 5 * j) 3) ?_
  refine g_sld (v := xs (1 + 5 * j + 3)) X hX hbA (nI_ix (by omega) (by omega)) (nI_cl (by omega)) d_LW_law_970 ?_
  refine g_aload_n X d_LW_law_971 1 rfl ?_
  refine g_callSH (As := [.ref a0, .int (xs (1 + 5 * j + 1)), .int (xs (1 + 5 * j + 2)), .int (xs (1 + 5 * j + 3)), .ref ob]) (rest := []) X (z_ok eA eM) (lw_listed hl h h5) v_LW_listed q_544 q_543 rfl rfl (Nat.le_of_ble_eq_true rfl) d_LW_law_972 ⟨(Nat.le_of_ble_eq_true rfl), (Nat.le_of_ble_eq_true rfl)⟩ ⟨show cells + 3 ≤ 601024 by omega, show slots + 18 ≤ 7293000 by omega⟩ (fun r_ f2 hp => ?_)
  obtain ⟨k_, rfl, ⟨fs9, hm9⟩, hC9⟩ := hp
  refine g_st (st2 := [.int k_]) rfl ?_
  refine g_istore (lv' := [(5, .int k_), (4, .int (nI (1 + 5 * j))), (3, .ref ob), (2, .ref b0), (1, .ref a0), (0, .ref b)]) X d_LW_law_975 (by decide) rfl ?_
  refine g_aload_n X d_LW_law_977 3 rfl ?_
  refine g_aload_n X d_LW_law_978 5 rfl ?_
  refine g_iload X d_LW_law_979 1 rfl ?_
  refine g_iconst (v := 1) X d_LW_law_981 (by decide) ?_
  refine g_iadd X d_LW_law_982 ?_
  refine g_eqi (y := nI (1 + 5 * j + 1)) (nI_add (1 + 5 * j) 1) ?_
  refine g_sld (v := xs (1 + 5 * j + 1)) X hX hbA (nI_ix (by omega) (by omega)) (nI_cl (by omega)) d_LW_law_983 ?_
  refine g_aload_n X d_LW_law_984 5 rfl ?_
  refine g_iload X d_LW_law_985 1 rfl ?_
  refine g_iconst (v := 2) X d_LW_law_987 (by decide) ?_
  refine g_iadd X d_LW_law_988 ?_
  refine g_eqi (y := nI (1 + 5 * j + 2)) (nI_add (1 + 5 * j) 2) ?_
  refine g_sld (v := xs (1 + 5 * j + 2)) X hX hbA (nI_ix (by omega) (by omega)) (nI_cl (by omega)) d_LW_law_989 ?_
  refine g_aload_n X d_LW_law_990 5 rfl ?_
  refine g_iload X d_LW_law_991 1 rfl ?_
  refine g_iconst (v := 3) X d_LW_law_993 (by decide) ?_
  refine g_iadd X d_LW_law_994 ?_
  refine g_eqi (y := nI (1 + 5 * j + 3)) (nI_add (1 + 5 * j) 3) ?_
  refine g_sld (v := xs (1 + 5 * j + 3)) X hX hbA (nI_ix (by omega) (by omega)) (nI_cl (by omega)) d_LW_law_995 ?_
  refine g_callV (ci := 5) (As := [.int (xs (1 + 5 * j + 1)), .int (xs (1 + 5 * j + 2)), .int (xs (1 + 5 * j + 3))]) (rest := []) X (z_ok eA eM) rfl rfl hm9 hC9 v_MO_listed q_726 q_727 q_725 rfl rfl (Nat.le_of_ble_eq_true rfl) d_LW_law_996 ⟨(Nat.le_of_ble_eq_true rfl), (Nat.le_of_ble_eq_true rfl)⟩ ⟨show cells + 3 + 0 ≤ 601024 by omega, show slots + 18 + 0 ≤ 7293000 by omega⟩ (g_K.no (fun _ h => h)) (fun r2_ f3 hp2 => ?_)
  obtain ⟨w_, rfl, g2, hs9, h0_⟩ := hp2
  refine g_st (st2 := [.int w_]) rfl ?_
  refine g_istore (lv' := [(6, .int w_), (5, .int k_), (4, .int (nI (1 + 5 * j))), (3, .ref ob), (2, .ref b0), (1, .ref a0), (0, .ref b)]) X d_LW_law_999 (by decide) rfl ?_
  refine g_aload_n X d_LW_law_1001 4 rfl ?_
  obtain ⟨fs8, hm8⟩ := sim_mo hs9
  refine g_callV (ci := 5) (As := []) (rest := []) X (z_ok eA eM) rfl rfl hm8 (sim_thrown hs9) v_MO_thrown q_659 q_660 q_658 rfl rfl (Nat.le_of_ble_eq_true rfl) d_LW_law_1002 ⟨(Nat.le_of_ble_eq_true rfl), (Nat.le_of_ble_eq_true rfl)⟩ ⟨show cells + 3 + 0 + 0 ≤ 601024 by omega, show slots + 18 + 0 + 0 ≤ 7293000 by omega⟩ (g_K.no (fun _ h => h)) (fun r3_ f4 hp3 => ?_)
  obtain ⟨rfl, hf4⟩ := hp3
  rw [hf4]
  refine g_st (st2 := [.int k_]) rfl ?_
  refine g_iload X d_LW_law_1005 1 rfl ?_
  refine g_icmp_eq X 1012 d_LW_law_1007 (by decide) (fun c1007 => ?_) (fun c1007 => ?_)
  · skip
    refine g_iload X d_LW_law_1012 1 rfl ?_
    refine g_if_ne X 1029 d_LW_law_1014 (by decide) (fun c1014 => ?_) (fun c1014 => ?_)
    · skip
      refine g_goto X 1224 d_LW_law_1029 (by decide) ?_
      exact g_wid (show cells + 3 + 0 + 0 ≤ cells + 9 by omega) (show slots + 18 + 0 + 0 ≤ slots + 166 by omega) (g_lv [2, 3, 4, 5, 6] rfl (kk _ _ _ hs9))
    · skip
      refine g_aload_n X d_LW_law_1017 3 rfl ?_
      refine g_iconst (v := 0) X d_LW_law_1018 (by decide) ?_
      refine g_lald (v := g2 0) X (sim_ob hs9) (nI_ix (j := 0) (n := 1) (by decide) (by decide)) rfl d_LW_law_1019 ?_
      refine g_iload X d_LW_law_1020 0 rfl ?_
      refine g_i2l X d_LW_law_1022 ?_
      refine g_lcmp X d_LW_law_1023 ?_
      refine g_if_eq X 1029 d_LW_law_1024 (by decide) (fun c1024 => ?_) (fun c1024 => ?_)
      · skip
        refine g_goto X 1224 d_LW_law_1029 (by decide) ?_
        exact g_wid (show cells + 3 + 0 + 0 ≤ cells + 9 by omega) (show slots + 18 + 0 + 0 ≤ slots + 166 by omega) (g_lv [2, 3, 4, 5, 6] rfl (kk _ _ _ hs9))
      · skip
        exact absurd (by rw [h0_ c1014]; exact lg_cmp_self _) c1024
  · skip
    exact absurd rfl c1007
set_option maxHeartbeats 4000000 in
set_option maxRecDepth 100000 in
theorem law_hidden {p : Program} {l : Launch} {e : Env} {s : State} {m : MethodId} {args : Array Value} {below : List Frame} {meth : Method} {c : Code} {Q : State → Prop} {A : Nat → Prop} {D : va_G} {cI cZ cO cJ : ClassId} {eA eM : Nat} {b L : Nat} {xs : Nat → Int32} (X : g_X p s m args meth c code 7 (some .boolean) g_T "CaseListsLaw" D g_cl (g_tys cI cZ cO cJ) A (z_Z eA eM)) (hX : va_X b L xs s s.heap) (hbA : ¬ A b) (hl : l.stackTraces = false) {f : g_F} {a0 b0 ob cnt : Nat} {g : Nat → Int64} {th : Int32} {cells slots j : Nat} (h : SIM cI cZ cO cJ eA f a0 b0 ob cnt g th) (h5 : cnt < 512) (hj : 5 * j + 6 ≤ L) (hL : L ≤ 2561) (hc : cells + 9 ≤ 601024) (hs : slots + 166 ≤ 7293000) (kk : ∀ (f2 : g_F) (g2 : Nat → Int64) (t2 : Int32), SIM cI cZ cO cJ eA f2 a0 b0 ob (cnt + 1) g2 t2 → g_W p l e { frames := 12, cells := 601024, slots := 7293000, locals := 440 } s m args below meth c 7 D g_cl A f2 (cells + 9) (slots + 166) Q 1224 [(4, .int (nI (1 + 5 * j))), (3, .ref ob), (2, .ref b0), (1, .ref a0), (0, .ref b)] []) : g_W p l e { frames := 12, cells := 601024, slots := 7293000, locals := 440 } s m args below meth c 7 D g_cl A f cells slots Q 1032 [(4, .int (nI (1 + 5 * j))), (3, .ref ob), (2, .ref b0), (1, .ref a0), (0, .ref b)] [] := by
  refine g_aload_n X d_LW_law_1032 3 rfl ?_
  refine g_aload_n X d_LW_law_1033 4 rfl ?_
  refine g_iload X d_LW_law_1034 0 rfl ?_
  refine g_iconst (v := 1) X d_LW_law_1036 (by decide) ?_
  refine g_iadd X d_LW_law_1037 ?_
  refine g_eqi (y := nI (1 + 5 * j + 1)) (nI_add (1 + 5 * j) 1) ?_
  refine g_sld (v := xs (1 + 5 * j + 1)) X hX hbA (nI_ix (by omega) (by omega)) (nI_cl (by omega)) d_LW_law_1038 ?_
  refine g_aload_n X d_LW_law_1039 1 rfl ?_
  refine g_callSH (As := [.ref a0, .int (xs (1 + 5 * j + 1)), .ref ob]) (rest := []) X (z_ok eA eM) (lw_hidden hl h h5) v_LW_hidden q_555 q_554 rfl rfl (Nat.le_of_ble_eq_true rfl) d_LW_law_1040 ⟨(Nat.le_of_ble_eq_true rfl), (Nat.le_of_ble_eq_true rfl)⟩ ⟨show cells + 1 ≤ 601024 by omega, show slots + 6 ≤ 7293000 by omega⟩ (fun r_ f2 hp => ?_)
  obtain ⟨k_, rfl, ⟨fs9, hm9⟩, hC9⟩ := hp
  refine g_st (st2 := [.int k_]) rfl ?_
  refine g_istore (lv' := [(5, .int k_), (4, .int (nI (1 + 5 * j))), (3, .ref ob), (2, .ref b0), (1, .ref a0), (0, .ref b)]) X d_LW_law_1043 (by decide) rfl ?_
  refine g_aload_n X d_LW_law_1045 3 rfl ?_
  refine g_aload_n X d_LW_law_1046 5 rfl ?_
  refine g_iload X d_LW_law_1047 1 rfl ?_
  refine g_iconst (v := 1) X d_LW_law_1049 (by decide) ?_
  refine g_iadd X d_LW_law_1050 ?_
  refine g_eqi (y := nI (1 + 5 * j + 1)) (nI_add (1 + 5 * j) 1) ?_
  refine g_sld (v := xs (1 + 5 * j + 1)) X hX hbA (nI_ix (by omega) (by omega)) (nI_cl (by omega)) d_LW_law_1051 ?_
  refine g_callV (ci := 5) (As := [.int (xs (1 + 5 * j + 1))]) (rest := []) X (z_ok eA eM) rfl rfl hm9 hC9 v_MO_hidden q_730 q_731 q_729 rfl rfl (Nat.le_of_ble_eq_true rfl) d_LW_law_1052 ⟨(Nat.le_of_ble_eq_true rfl), (Nat.le_of_ble_eq_true rfl)⟩ ⟨show cells + 1 + 0 ≤ 601024 by omega, show slots + 6 + 0 ≤ 7293000 by omega⟩ (g_K.no (fun _ h => h)) (fun r2_ f3 hp2 => ?_)
  obtain ⟨w_, rfl, g2, hs9, h0_⟩ := hp2
  refine g_st (st2 := [.int w_]) rfl ?_
  refine g_istore (lv' := [(6, .int w_), (5, .int k_), (4, .int (nI (1 + 5 * j))), (3, .ref ob), (2, .ref b0), (1, .ref a0), (0, .ref b)]) X d_LW_law_1055 (by decide) rfl ?_
  refine g_aload_n X d_LW_law_1057 4 rfl ?_
  obtain ⟨fs8, hm8⟩ := sim_mo hs9
  refine g_callV (ci := 5) (As := []) (rest := []) X (z_ok eA eM) rfl rfl hm8 (sim_thrown hs9) v_MO_thrown q_659 q_660 q_658 rfl rfl (Nat.le_of_ble_eq_true rfl) d_LW_law_1058 ⟨(Nat.le_of_ble_eq_true rfl), (Nat.le_of_ble_eq_true rfl)⟩ ⟨show cells + 1 + 0 + 0 ≤ 601024 by omega, show slots + 6 + 0 + 0 ≤ 7293000 by omega⟩ (g_K.no (fun _ h => h)) (fun r3_ f4 hp3 => ?_)
  obtain ⟨rfl, hf4⟩ := hp3
  rw [hf4]
  refine g_st (st2 := [.int k_]) rfl ?_
  refine g_iload X d_LW_law_1061 1 rfl ?_
  refine g_icmp_eq X 1068 d_LW_law_1063 (by decide) (fun c1063 => ?_) (fun c1063 => ?_)
  · skip
    refine g_iload X d_LW_law_1068 1 rfl ?_
    refine g_if_ne X 1085 d_LW_law_1070 (by decide) (fun c1070 => ?_) (fun c1070 => ?_)
    · skip
      refine g_goto X 1224 d_LW_law_1085 (by decide) ?_
      exact g_wid (show cells + 1 + 0 + 0 ≤ cells + 9 by omega) (show slots + 6 + 0 + 0 ≤ slots + 166 by omega) (g_lv [2, 3, 4, 5, 6] rfl (kk _ _ _ hs9))
    · skip
      refine g_aload_n X d_LW_law_1073 3 rfl ?_
      refine g_iconst (v := 0) X d_LW_law_1074 (by decide) ?_
      refine g_lald (v := g2 0) X (sim_ob hs9) (nI_ix (j := 0) (n := 1) (by decide) (by decide)) rfl d_LW_law_1075 ?_
      refine g_iload X d_LW_law_1076 0 rfl ?_
      refine g_i2l X d_LW_law_1078 ?_
      refine g_lcmp X d_LW_law_1079 ?_
      refine g_if_eq X 1085 d_LW_law_1080 (by decide) (fun c1080 => ?_) (fun c1080 => ?_)
      · skip
        refine g_goto X 1224 d_LW_law_1085 (by decide) ?_
        exact g_wid (show cells + 1 + 0 + 0 ≤ cells + 9 by omega) (show slots + 6 + 0 + 0 ≤ slots + 166 by omega) (g_lv [2, 3, 4, 5, 6] rfl (kk _ _ _ hs9))
      · skip
        exact absurd (by rw [h0_ c1070]; exact lg_cmp_self _) c1080
  · skip
    exact absurd rfl c1063
set_option maxHeartbeats 4000000 in
set_option maxRecDepth 100000 in
theorem law_proves {p : Program} {l : Launch} {e : Env} {s : State} {m : MethodId} {args : Array Value} {below : List Frame} {meth : Method} {c : Code} {Q : State → Prop} {A : Nat → Prop} {D : va_G} {cI cZ cO cJ : ClassId} {eA eM : Nat} {b L : Nat} {xs : Nat → Int32} (X : g_X p s m args meth c code 7 (some .boolean) g_T "CaseListsLaw" D g_cl (g_tys cI cZ cO cJ) A (z_Z eA eM)) (hX : va_X b L xs s s.heap) (hbA : ¬ A b) (hl : l.stackTraces = false) {f : g_F} {a0 b0 ob cnt : Nat} {g : Nat → Int64} {th : Int32} {cells slots j : Nat} (h : SIM cI cZ cO cJ eA f a0 b0 ob cnt g th) (h5 : cnt < 512) (hj : 5 * j + 6 ≤ L) (hL : L ≤ 2561) (hc : cells + 9 ≤ 601024) (hs : slots + 166 ≤ 7293000) (kk : ∀ (f2 : g_F) (g2 : Nat → Int64) (t2 : Int32), SIM cI cZ cO cJ eA f2 a0 b0 ob (cnt + 1) g2 t2 → g_W p l e { frames := 12, cells := 601024, slots := 7293000, locals := 440 } s m args below meth c 7 D g_cl A f2 (cells + 9) (slots + 166) Q 1224 [(4, .int (nI (1 + 5 * j))), (3, .ref ob), (2, .ref b0), (1, .ref a0), (0, .ref b)] []) : g_W p l e { frames := 12, cells := 601024, slots := 7293000, locals := 440 } s m args below meth c 7 D g_cl A f cells slots Q 1088 [(4, .int (nI (1 + 5 * j))), (3, .ref ob), (2, .ref b0), (1, .ref a0), (0, .ref b)] [] := by
  refine g_aload_n X d_LW_law_1088 3 rfl ?_
  refine g_aload_n X d_LW_law_1089 4 rfl ?_
  refine g_iload X d_LW_law_1090 0 rfl ?_
  refine g_iconst (v := 1) X d_LW_law_1092 (by decide) ?_
  refine g_iadd X d_LW_law_1093 ?_
  refine g_eqi (y := nI (1 + 5 * j + 1)) (nI_add (1 + 5 * j) 1) ?_
  refine g_sld (v := xs (1 + 5 * j + 1)) X hX hbA (nI_ix (by omega) (by omega)) (nI_cl (by omega)) d_LW_law_1094 ?_
  refine g_aload_n X d_LW_law_1095 4 rfl ?_
  refine g_iload X d_LW_law_1096 0 rfl ?_
  refine g_iconst (v := 2) X d_LW_law_1098 (by decide) ?_
  refine g_iadd X d_LW_law_1099 ?_
  refine g_eqi (y := nI (1 + 5 * j + 2)) (nI_add (1 + 5 * j) 2) ?_
  refine g_sld (v := xs (1 + 5 * j + 2)) X hX hbA (nI_ix (by omega) (by omega)) (nI_cl (by omega)) d_LW_law_1100 ?_
  refine g_aload_n X d_LW_law_1101 1 rfl ?_
  refine g_callSH (As := [.ref a0, .int (xs (1 + 5 * j + 1)), .int (xs (1 + 5 * j + 2)), .ref ob]) (rest := []) X (z_ok eA eM) (lw_proves hl h h5) v_LW_proves q_563 q_562 rfl rfl (Nat.le_of_ble_eq_true rfl) d_LW_law_1102 ⟨(Nat.le_of_ble_eq_true rfl), (Nat.le_of_ble_eq_true rfl)⟩ ⟨show cells + 2 ≤ 601024 by omega, show slots + 12 ≤ 7293000 by omega⟩ (fun r_ f2 hp => ?_)
  obtain ⟨k_, rfl, ⟨fs9, hm9⟩, hC9⟩ := hp
  refine g_st (st2 := [.int k_]) rfl ?_
  refine g_istore (lv' := [(5, .int k_), (4, .int (nI (1 + 5 * j))), (3, .ref ob), (2, .ref b0), (1, .ref a0), (0, .ref b)]) X d_LW_law_1105 (by decide) rfl ?_
  refine g_aload_n X d_LW_law_1107 3 rfl ?_
  refine g_aload_n X d_LW_law_1108 5 rfl ?_
  refine g_iload X d_LW_law_1109 1 rfl ?_
  refine g_iconst (v := 1) X d_LW_law_1111 (by decide) ?_
  refine g_iadd X d_LW_law_1112 ?_
  refine g_eqi (y := nI (1 + 5 * j + 1)) (nI_add (1 + 5 * j) 1) ?_
  refine g_sld (v := xs (1 + 5 * j + 1)) X hX hbA (nI_ix (by omega) (by omega)) (nI_cl (by omega)) d_LW_law_1113 ?_
  refine g_aload_n X d_LW_law_1114 5 rfl ?_
  refine g_iload X d_LW_law_1115 1 rfl ?_
  refine g_iconst (v := 2) X d_LW_law_1117 (by decide) ?_
  refine g_iadd X d_LW_law_1118 ?_
  refine g_eqi (y := nI (1 + 5 * j + 2)) (nI_add (1 + 5 * j) 2) ?_
  refine g_sld (v := xs (1 + 5 * j + 2)) X hX hbA (nI_ix (by omega) (by omega)) (nI_cl (by omega)) d_LW_law_1119 ?_
  refine g_callV (ci := 5) (As := [.int (xs (1 + 5 * j + 1)), .int (xs (1 + 5 * j + 2))]) (rest := []) X (z_ok eA eM) rfl rfl hm9 hC9 v_MO_proves q_738 q_739 q_737 rfl rfl (Nat.le_of_ble_eq_true rfl) d_LW_law_1120 ⟨(Nat.le_of_ble_eq_true rfl), (Nat.le_of_ble_eq_true rfl)⟩ ⟨show cells + 2 + 0 ≤ 601024 by omega, show slots + 12 + 0 ≤ 7293000 by omega⟩ (g_K.no (fun _ h => h)) (fun r2_ f3 hp2 => ?_)
  obtain ⟨w_, rfl, g2, hs9, h0_⟩ := hp2
  refine g_st (st2 := [.int w_]) rfl ?_
  refine g_istore (lv' := [(6, .int w_), (5, .int k_), (4, .int (nI (1 + 5 * j))), (3, .ref ob), (2, .ref b0), (1, .ref a0), (0, .ref b)]) X d_LW_law_1123 (by decide) rfl ?_
  refine g_aload_n X d_LW_law_1125 4 rfl ?_
  obtain ⟨fs8, hm8⟩ := sim_mo hs9
  refine g_callV (ci := 5) (As := []) (rest := []) X (z_ok eA eM) rfl rfl hm8 (sim_thrown hs9) v_MO_thrown q_659 q_660 q_658 rfl rfl (Nat.le_of_ble_eq_true rfl) d_LW_law_1126 ⟨(Nat.le_of_ble_eq_true rfl), (Nat.le_of_ble_eq_true rfl)⟩ ⟨show cells + 2 + 0 + 0 ≤ 601024 by omega, show slots + 12 + 0 + 0 ≤ 7293000 by omega⟩ (g_K.no (fun _ h => h)) (fun r3_ f4 hp3 => ?_)
  obtain ⟨rfl, hf4⟩ := hp3
  rw [hf4]
  refine g_st (st2 := [.int k_]) rfl ?_
  refine g_iload X d_LW_law_1129 1 rfl ?_
  refine g_icmp_eq X 1136 d_LW_law_1131 (by decide) (fun c1131 => ?_) (fun c1131 => ?_)
  · skip
    refine g_iload X d_LW_law_1136 1 rfl ?_
    refine g_if_ne X 1153 d_LW_law_1138 (by decide) (fun c1138 => ?_) (fun c1138 => ?_)
    · skip
      refine g_goto X 1224 d_LW_law_1153 (by decide) ?_
      exact g_wid (show cells + 2 + 0 + 0 ≤ cells + 9 by omega) (show slots + 12 + 0 + 0 ≤ slots + 166 by omega) (g_lv [2, 3, 4, 5, 6] rfl (kk _ _ _ hs9))
    · skip
      refine g_aload_n X d_LW_law_1141 3 rfl ?_
      refine g_iconst (v := 0) X d_LW_law_1142 (by decide) ?_
      refine g_lald (v := g2 0) X (sim_ob hs9) (nI_ix (j := 0) (n := 1) (by decide) (by decide)) rfl d_LW_law_1143 ?_
      refine g_iload X d_LW_law_1144 0 rfl ?_
      refine g_i2l X d_LW_law_1146 ?_
      refine g_lcmp X d_LW_law_1147 ?_
      refine g_if_eq X 1153 d_LW_law_1148 (by decide) (fun c1148 => ?_) (fun c1148 => ?_)
      · skip
        refine g_goto X 1224 d_LW_law_1153 (by decide) ?_
        exact g_wid (show cells + 2 + 0 + 0 ≤ cells + 9 by omega) (show slots + 12 + 0 + 0 ≤ slots + 166 by omega) (g_lv [2, 3, 4, 5, 6] rfl (kk _ _ _ hs9))
      · skip
        exact absurd (by rw [h0_ c1138]; exact lg_cmp_self _) c1148
  · skip
    exact absurd rfl c1131
set_option maxHeartbeats 4000000 in
set_option maxRecDepth 100000 in
theorem law_touched {p : Program} {l : Launch} {e : Env} {s : State} {m : MethodId} {args : Array Value} {below : List Frame} {meth : Method} {c : Code} {Q : State → Prop} {A : Nat → Prop} {D : va_G} {cI cZ cO cJ : ClassId} {eA eM : Nat} {b L : Nat} {xs : Nat → Int32} (X : g_X p s m args meth c code 7 (some .boolean) g_T "CaseListsLaw" D g_cl (g_tys cI cZ cO cJ) A (z_Z eA eM)) (hX : va_X b L xs s s.heap) (hbA : ¬ A b) (hl : l.stackTraces = false) {f : g_F} {a0 b0 ob cnt : Nat} {g : Nat → Int64} {th : Int32} {cells slots j : Nat} (h : SIM cI cZ cO cJ eA f a0 b0 ob cnt g th) (h5 : cnt < 512) (hj : 5 * j + 6 ≤ L) (hL : L ≤ 2561) (hc : cells + 9 ≤ 601024) (hs : slots + 166 ≤ 7293000) (kk : ∀ (f2 : g_F) (g2 : Nat → Int64) (t2 : Int32), SIM cI cZ cO cJ eA f2 a0 b0 ob (cnt + 1) g2 t2 → g_W p l e { frames := 12, cells := 601024, slots := 7293000, locals := 440 } s m args below meth c 7 D g_cl A f2 (cells + 9) (slots + 166) Q 1224 [(4, .int (nI (1 + 5 * j))), (3, .ref ob), (2, .ref b0), (1, .ref a0), (0, .ref b)] []) : g_W p l e { frames := 12, cells := 601024, slots := 7293000, locals := 440 } s m args below meth c 7 D g_cl A f cells slots Q 1156 [(4, .int (nI (1 + 5 * j))), (3, .ref ob), (2, .ref b0), (1, .ref a0), (0, .ref b)] [] := by
  refine g_aload_n X d_LW_law_1156 3 rfl ?_
  refine g_aload_n X d_LW_law_1157 4 rfl ?_
  refine g_iload X d_LW_law_1158 0 rfl ?_
  refine g_iconst (v := 1) X d_LW_law_1160 (by decide) ?_
  refine g_iadd X d_LW_law_1161 ?_
  refine g_eqi (y := nI (1 + 5 * j + 1)) (nI_add (1 + 5 * j) 1) ?_
  refine g_sld (v := xs (1 + 5 * j + 1)) X hX hbA (nI_ix (by omega) (by omega)) (nI_cl (by omega)) d_LW_law_1162 ?_
  refine g_aload_n X d_LW_law_1163 4 rfl ?_
  refine g_iload X d_LW_law_1164 0 rfl ?_
  refine g_iconst (v := 2) X d_LW_law_1166 (by decide) ?_
  refine g_iadd X d_LW_law_1167 ?_
  refine g_eqi (y := nI (1 + 5 * j + 2)) (nI_add (1 + 5 * j) 2) ?_
  refine g_sld (v := xs (1 + 5 * j + 2)) X hX hbA (nI_ix (by omega) (by omega)) (nI_cl (by omega)) d_LW_law_1168 ?_
  refine g_aload_n X d_LW_law_1169 1 rfl ?_
  refine g_callSH (As := [.ref a0, .int (xs (1 + 5 * j + 1)), .int (xs (1 + 5 * j + 2)), .ref ob]) (rest := []) X (z_ok eA eM) (lw_touched hl h h5) v_LW_touched q_584 q_583 rfl rfl (Nat.le_of_ble_eq_true rfl) d_LW_law_1170 ⟨(Nat.le_of_ble_eq_true rfl), (Nat.le_of_ble_eq_true rfl)⟩ ⟨show cells + 2 ≤ 601024 by omega, show slots + 12 ≤ 7293000 by omega⟩ (fun r_ f2 hp => ?_)
  obtain ⟨k_, rfl, ⟨fs9, hm9⟩, hC9⟩ := hp
  refine g_st (st2 := [.int k_]) rfl ?_
  refine g_istore (lv' := [(5, .int k_), (4, .int (nI (1 + 5 * j))), (3, .ref ob), (2, .ref b0), (1, .ref a0), (0, .ref b)]) X d_LW_law_1173 (by decide) rfl ?_
  refine g_aload_n X d_LW_law_1175 3 rfl ?_
  refine g_aload_n X d_LW_law_1176 5 rfl ?_
  refine g_iload X d_LW_law_1177 1 rfl ?_
  refine g_iconst (v := 1) X d_LW_law_1179 (by decide) ?_
  refine g_iadd X d_LW_law_1180 ?_
  refine g_eqi (y := nI (1 + 5 * j + 1)) (nI_add (1 + 5 * j) 1) ?_
  refine g_sld (v := xs (1 + 5 * j + 1)) X hX hbA (nI_ix (by omega) (by omega)) (nI_cl (by omega)) d_LW_law_1181 ?_
  refine g_aload_n X d_LW_law_1182 5 rfl ?_
  refine g_iload X d_LW_law_1183 1 rfl ?_
  refine g_iconst (v := 2) X d_LW_law_1185 (by decide) ?_
  refine g_iadd X d_LW_law_1186 ?_
  refine g_eqi (y := nI (1 + 5 * j + 2)) (nI_add (1 + 5 * j) 2) ?_
  refine g_sld (v := xs (1 + 5 * j + 2)) X hX hbA (nI_ix (by omega) (by omega)) (nI_cl (by omega)) d_LW_law_1187 ?_
  refine g_callV (ci := 5) (As := [.int (xs (1 + 5 * j + 1)), .int (xs (1 + 5 * j + 2))]) (rest := []) X (z_ok eA eM) rfl rfl hm9 hC9 v_MO_touched q_747 q_748 q_746 rfl rfl (Nat.le_of_ble_eq_true rfl) d_LW_law_1188 ⟨(Nat.le_of_ble_eq_true rfl), (Nat.le_of_ble_eq_true rfl)⟩ ⟨show cells + 2 + 0 ≤ 601024 by omega, show slots + 12 + 0 ≤ 7293000 by omega⟩ (g_K.no (fun _ h => h)) (fun r2_ f3 hp2 => ?_)
  obtain ⟨w_, rfl, g2, hs9, h0_⟩ := hp2
  refine g_st (st2 := [.int w_]) rfl ?_
  refine g_istore (lv' := [(6, .int w_), (5, .int k_), (4, .int (nI (1 + 5 * j))), (3, .ref ob), (2, .ref b0), (1, .ref a0), (0, .ref b)]) X d_LW_law_1191 (by decide) rfl ?_
  refine g_aload_n X d_LW_law_1193 4 rfl ?_
  obtain ⟨fs8, hm8⟩ := sim_mo hs9
  refine g_callV (ci := 5) (As := []) (rest := []) X (z_ok eA eM) rfl rfl hm8 (sim_thrown hs9) v_MO_thrown q_659 q_660 q_658 rfl rfl (Nat.le_of_ble_eq_true rfl) d_LW_law_1194 ⟨(Nat.le_of_ble_eq_true rfl), (Nat.le_of_ble_eq_true rfl)⟩ ⟨show cells + 2 + 0 + 0 ≤ 601024 by omega, show slots + 12 + 0 + 0 ≤ 7293000 by omega⟩ (g_K.no (fun _ h => h)) (fun r3_ f4 hp3 => ?_)
  obtain ⟨rfl, hf4⟩ := hp3
  rw [hf4]
  refine g_st (st2 := [.int k_]) rfl ?_
  refine g_iload X d_LW_law_1197 1 rfl ?_
  refine g_icmp_eq X 1204 d_LW_law_1199 (by decide) (fun c1199 => ?_) (fun c1199 => ?_)
  · skip
    refine g_iload X d_LW_law_1204 1 rfl ?_
    refine g_if_ne X 1221 d_LW_law_1206 (by decide) (fun c1206 => ?_) (fun c1206 => ?_)
    · skip
      refine g_goto X 1224 d_LW_law_1221 (by decide) ?_
      exact g_wid (show cells + 2 + 0 + 0 ≤ cells + 9 by omega) (show slots + 12 + 0 + 0 ≤ slots + 166 by omega) (g_lv [2, 3, 4, 5, 6] rfl (kk _ _ _ hs9))
    · skip
      refine g_aload_n X d_LW_law_1209 3 rfl ?_
      refine g_iconst (v := 0) X d_LW_law_1210 (by decide) ?_
      refine g_lald (v := g2 0) X (sim_ob hs9) (nI_ix (j := 0) (n := 1) (by decide) (by decide)) rfl d_LW_law_1211 ?_
      refine g_iload X d_LW_law_1212 0 rfl ?_
      refine g_i2l X d_LW_law_1214 ?_
      refine g_lcmp X d_LW_law_1215 ?_
      refine g_if_eq X 1221 d_LW_law_1216 (by decide) (fun c1216 => ?_) (fun c1216 => ?_)
      · skip
        refine g_goto X 1224 d_LW_law_1221 (by decide) ?_
        exact g_wid (show cells + 2 + 0 + 0 ≤ cells + 9 by omega) (show slots + 12 + 0 + 0 ≤ slots + 166 by omega) (g_lv [2, 3, 4, 5, 6] rfl (kk _ _ _ hs9))
      · skip
        exact absurd (by rw [h0_ c1206]; exact lg_cmp_self _) c1216
  · skip
    exact absurd rfl c1199
set_option maxHeartbeats 4000000 in
set_option maxRecDepth 100000 in
theorem law_loop {p : Program} {l : Launch} {e : Env} {s : State} {m : MethodId} {args : Array Value} {below : List Frame} {meth : Method} {c : Code} {Q : State → Prop} {A : Nat → Prop} {D : va_G} {cI cZ cO cJ : ClassId} {eA eM : Nat} {b L : Nat} {xs : Nat → Int32} (X : g_X p s m args meth c code 7 (some .boolean) g_T "CaseListsLaw" D g_cl (g_tys cI cZ cO cJ) A (z_Z eA eM)) (hX : va_X b L xs s s.heap) (hbA : ¬ A b) (hl : l.stackTraces = false) (hL : L ≤ 2561) {a0 b0 ob c0 s0 : Nat} (hc0 : c0 ≤ 100) (hs0 : s0 ≤ 100000) (kend : ∀ f : g_F, g_W p l e { frames := 12, cells := 601024, slots := 7293000, locals := 440 } s m args below meth c 7 D g_cl A f 601024 7293000 Q 1230 [] []) : ∀ (d j : Nat) (f : g_F) (g : Nat → Int64) (th : Int32), (L + 5 ≤ 5 * j + d ∧ 5 * j ≤ L + 5) → SIM cI cZ cO cJ eA f a0 b0 ob j g th → g_W p l e { frames := 12, cells := 601024, slots := 7293000, locals := 440 } s m args below meth c 7 D g_cl A f (c0 + 9 * j) (s0 + 166 * j) Q 33 [(4, .int (nI (1 + 5 * j))), (3, .ref ob), (2, .ref b0), (1, .ref a0), (0, .ref b)] [] := by
  intro d
  induction d using Nat.strongRecOn with
  | _ d ih =>
    intro j f g th hd h
    refine g_iload X d_LW_law_33 0 rfl ?_
    refine g_aload_n X d_LW_law_35 4 rfl ?_
    refine g_slen X hX hbA d_LW_law_36 ?_
    refine g_iconst (v := 5) X d_LW_law_37 (by decide) ?_
    refine g_isub X d_LW_law_38 ?_
    refine g_icmp_gt X 1230 d_LW_law_39 (by decide) (fun c39 => ?_) (fun c39 => ?_)
    · skip
      exact g_wid (show c0 + 9 * j ≤ 601024 by omega) (show s0 + 166 * j ≤ 7293000 by omega) (g_lv [] rfl (kend f))
    · skip
      have hj : 5 * j + 6 ≤ L := by have := law_lim (by omega) (by omega) c39; omega
      refine g_aload_n X d_LW_law_42 4 rfl ?_
      refine g_iload X d_LW_law_43 0 rfl ?_
      refine g_sld (v := xs (1 + 5 * j)) X hX hbA (nI_ix (by omega) (by omega)) (nI_cl (by omega)) d_LW_law_45 ?_
      refine g_bipush (v := 15) X d_LW_law_46 (by decide) ?_
      refine g_iand X d_LW_law_48 ?_
      obtain ⟨k, hk, ek⟩ := law15 (xs (1 + 5 * j))
      refine g_eqi ek ?_
      have kk9 : ∀ (f2 : g_F) (g2 : Nat → Int64) (t2 : Int32), SIM cI cZ cO cJ eA f2 a0 b0 ob (j + 1) g2 t2 → g_W p l e { frames := 12, cells := 601024, slots := 7293000, locals := 440 } s m args below meth c 7 D g_cl A f2 (c0 + 9 * j + 9) (s0 + 166 * j + 166) Q 1224 [(4, .int (nI (1 + 5 * j))), (3, .ref ob), (2, .ref b0), (1, .ref a0), (0, .ref b)] [] := fun f2 g2 t2 h2 => by
        refine g_iinc (lv' := [(4, .int (nI (1 + 5 * (j + 1)))), (3, .ref ob), (2, .ref b0), (1, .ref a0), (0, .ref b)]) X d_LW_law_1224 0 rfl ((nI_add (1 + 5 * j) 5).trans (by rw [show 1 + 5 * j + 5 = 1 + 5 * (j + 1) by omega])) (by decide) rfl ?_
        refine g_goto X 33 d_LW_law_1227 (by decide) ?_
        exact g_wid (show c0 + 9 * j + 9 ≤ c0 + 9 * (j + 1) by omega) (show s0 + 166 * j + 166 ≤ s0 + 166 * (j + 1) by omega) (ih (d - 1) (by omega) (j + 1) f2 g2 t2 (by omega) h2)
      match k, hk with
      | 0, _ => exact g_table X d_LW_law_49 (by decide) (by decide) (off := 79) rfl (tgt := 128) (by decide) (law_fault X hX hbA hl h (by omega) hj hL (by omega) (by omega) kk9)
      | 1, _ => exact g_table X d_LW_law_49 (by decide) (by decide) (off := 147) rfl (tgt := 196) (by decide) (law_act X hX hbA hl h (by omega) hj hL (by omega) (by omega) kk9)
      | 2, _ => exact g_table X d_LW_law_49 (by decide) (by decide) (off := 215) rfl (tgt := 264) (by decide) (law_shows X hX hbA hl h (by omega) hj hL (by omega) (by omega) kk9)
      | 3, _ => exact g_table X d_LW_law_49 (by decide) (by decide) (off := 318) rfl (tgt := 367) (by decide) (law_way X hX hbA hl h (by omega) hj hL (by omega) (by omega) kk9)
      | 4, _ => exact g_table X d_LW_law_49 (by decide) (by decide) (off := 398) rfl (tgt := 447) (by decide) (law_change X hX hbA hl h (by omega) hj hL (by omega) (by omega) kk9)
      | 5, _ => exact g_table X d_LW_law_49 (by decide) (by decide) (off := 466) rfl (tgt := 515) (by decide) (law_result X hX hbA hl h (by omega) hj hL (by omega) (by omega) kk9)
      | 6, _ => exact g_table X d_LW_law_49 (by decide) (by decide) (off := 574) rfl (tgt := 623) (by decide) (law_plan X hX hbA hl h (by omega) hj hL (by omega) (by omega) kk9)
      | 7, _ => exact g_table X d_LW_law_49 (by decide) (by decide) (off := 630) rfl (tgt := 679) (by decide) (law_planned X hX hbA hl h (by omega) hj hL (by omega) (by omega) kk9)
      | 8, _ => exact g_table X d_LW_law_49 (by decide) (by decide) (off := 686) rfl (tgt := 735) (by decide) (law_seconds X hX hbA hl h (by omega) hj hL (by omega) (by omega) kk9)
      | 9, _ => exact g_table X d_LW_law_49 (by decide) (by decide) (off := 699) rfl (tgt := 748) (by decide) (law_from X hX hbA hl h (by omega) hj hL (by omega) (by omega) kk9)
      | 10, _ => exact g_table X d_LW_law_49 (by decide) (by decide) (off := 755) rfl (tgt := 804) (by decide) (law_state X hX hbA hl h (by omega) hj hL (by omega) (by omega) kk9)
      | 11, _ => exact g_table X d_LW_law_49 (by decide) (by decide) (off := 823) rfl (tgt := 872) (by decide) (law_word X hX hbA hl h (by omega) hj hL (by omega) (by omega) kk9)
      | 12, _ => exact g_table X d_LW_law_49 (by decide) (by decide) (off := 903) rfl (tgt := 952) (by decide) (law_listed X hX hbA hl h (by omega) hj hL (by omega) (by omega) kk9)
      | 13, _ => exact g_table X d_LW_law_49 (by decide) (by decide) (off := 983) rfl (tgt := 1032) (by decide) (law_hidden X hX hbA hl h (by omega) hj hL (by omega) (by omega) kk9)
      | 14, _ => exact g_table X d_LW_law_49 (by decide) (by decide) (off := 1039) rfl (tgt := 1088) (by decide) (law_proves X hX hbA hl h (by omega) hj hL (by omega) (by omega) kk9)
      | 15, _ => exact g_table X d_LW_law_49 (by decide) (by decide) (off := 1107) rfl (tgt := 1156) (by decide) (law_touched X hX hbA hl h (by omega) hj hL (by omega) (by omega) kk9)
      | k + 16, hk => exact absurd hk (by omega)
