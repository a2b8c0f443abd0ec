set_option maxHeartbeats 4000000 in
set_option maxRecDepth 100000 in
theorem c_CL_needWithin {l : Launch} {D : va_G} {cI cZ cO cJ : ClassId} {eA eM : Nat} (hl : l.stackTraces = false) {f : g_F} {x a b : Int32} : g_C l y_CL_needWithin b_CL_needWithin 3 none { frames := 6, cells := 1, slots := 6, locals := 82 } D g_cl (g_tys cI cZ cO cJ) (z_Z eA eM) [.int x, .int a, .int b] f (fun r f2 => (r = none ∧ f2 = f) ∧ ¬ x < a ∧ x ≤ b) (fun E => E = "java/lang/IllegalArgumentException" ∧ (x < a ∨ ¬ x ≤ b)) := by
  refine g_ofW [(0, .int x), (1, .int a), (2, .int b)] (by decide +kernel) (Nat.le_of_ble_eq_true rfl) rfl ?_
  intro p e s m args below meth c X ht hin
  refine g_iload_n X d_CL_needWithin_0 0 rfl ?_
  refine g_iload_n X d_CL_needWithin_1 1 rfl ?_
  refine g_icmp_lt X 10 d_CL_needWithin_2 (by decide) (fun c2 => ?_) (fun c2 => ?_)
  · skip
    exact g_throwS (cls := "java/lang/IllegalArgumentException") (text := "a number is out of its bounds") (names := ["java/lang/RuntimeException", "java/lang/Exception"]) (ik := 166) (is := 173) (ic := 170) X hl (by decide +kernel) (by decide +kernel) q_147 q_12 X.2.2.2.2.2.2.2.2.2.2.1.1 (z_hatIA X.1.2.2.2.2 X.2.2.2.2.2) (by decide +kernel) X.2.2.2.2.2.2.2.2.2.1.1 X.2.2.2.2.2.2.2.2.2.1.2 ht d_CL_needWithin_10 d_CL_needWithin_13 d_CL_needWithin_14 d_CL_needWithin_16 d_CL_needWithin_19 (Nat.le_of_ble_eq_true rfl) (Nat.le_of_ble_eq_true rfl) (Nat.le_of_ble_eq_true rfl) (Nat.le_of_ble_eq_true rfl) (⟨rfl, Or.inl c2⟩) (Nat.le_of_ble_eq_true rfl) (Nat.le_of_ble_eq_true rfl)
  · skip
    refine g_iload_n X d_CL_needWithin_5 0 rfl ?_
    refine g_iload_n X d_CL_needWithin_6 2 rfl ?_
    refine g_icmp_le X 20 d_CL_needWithin_7 (by decide) (fun c7 => ?_) (fun c7 => ?_)
    · skip
      exact g_vret X rfl (⟨⟨rfl, rfl⟩, c2, c7⟩) (Nat.le_of_ble_eq_true rfl) (Nat.le_of_ble_eq_true rfl) d_CL_needWithin_20
    · skip
      exact g_throwS (cls := "java/lang/IllegalArgumentException") (text := "a number is out of its bounds") (names := ["java/lang/RuntimeException", "java/lang/Exception"]) (ik := 166) (is := 173) (ic := 170) X hl (by decide +kernel) (by decide +kernel) q_147 q_12 X.2.2.2.2.2.2.2.2.2.2.1.1 (z_hatIA X.1.2.2.2.2 X.2.2.2.2.2) (by decide +kernel) X.2.2.2.2.2.2.2.2.2.1.1 X.2.2.2.2.2.2.2.2.2.1.2 ht d_CL_needWithin_10 d_CL_needWithin_13 d_CL_needWithin_14 d_CL_needWithin_16 d_CL_needWithin_19 (Nat.le_of_ble_eq_true rfl) (Nat.le_of_ble_eq_true rfl) (Nat.le_of_ble_eq_true rfl) (Nat.le_of_ble_eq_true rfl) (⟨rfl, Or.inr c7⟩) (Nat.le_of_ble_eq_true rfl) (Nat.le_of_ble_eq_true rfl)
set_option maxHeartbeats 4000000 in
set_option maxRecDepth 100000 in
theorem c_CL_needOther {l : Launch} {D : va_G} {cI cZ cO cJ : ClassId} {eA eM : Nat} (hl : l.stackTraces = false) {f : g_F} {x y : Int32} : g_C l y_CL_needOther b_CL_needOther 2 none { frames := 6, cells := 1, slots := 6, locals := 82 } D g_cl (g_tys cI cZ cO cJ) (z_Z eA eM) [.int x, .int y] f (fun r f2 => (r = none ∧ f2 = f) ∧ ¬ x = y) (fun E => E = "java/lang/IllegalArgumentException" ∧ x = y) := by
  refine g_ofW [(0, .int x), (1, .int y)] (by decide +kernel) (Nat.le_of_ble_eq_true rfl) rfl ?_
  intro p e s m args below meth c X ht hin
  refine g_iload_n X d_CL_needOther_0 0 rfl ?_
  refine g_iload_n X d_CL_needOther_1 1 rfl ?_
  refine g_icmp_ne X 15 d_CL_needOther_2 (by decide) (fun c2 => ?_) (fun c2 => ?_)
  · skip
    exact g_vret X rfl (⟨⟨rfl, rfl⟩, c2⟩) (Nat.le_of_ble_eq_true rfl) (Nat.le_of_ble_eq_true rfl) d_CL_needOther_15
  · skip
    exact g_throwS (cls := "java/lang/IllegalArgumentException") (text := "both are one") (names := ["java/lang/RuntimeException", "java/lang/Exception"]) (ik := 166) (is := 175) (ic := 170) X hl (by decide +kernel) (by decide +kernel) q_147 q_12 X.2.2.2.2.2.2.2.2.2.2.1.2.1 (z_hatIA X.1.2.2.2.2 X.2.2.2.2.2) (by decide +kernel) X.2.2.2.2.2.2.2.2.2.1.1 X.2.2.2.2.2.2.2.2.2.1.2 ht d_CL_needOther_5 d_CL_needOther_8 d_CL_needOther_9 d_CL_needOther_11 d_CL_needOther_14 (Nat.le_of_ble_eq_true rfl) (Nat.le_of_ble_eq_true rfl) (Nat.le_of_ble_eq_true rfl) (Nat.le_of_ble_eq_true rfl) (⟨rfl, c2⟩) (Nat.le_of_ble_eq_true rfl) (Nat.le_of_ble_eq_true rfl)
set_option maxHeartbeats 4000000 in
set_option maxRecDepth 100000 in
theorem c_CL_needRoom {l : Launch} {D : va_G} {cI cZ cO cJ : ClassId} {eA eM : Nat} (hl : l.stackTraces = false) {f : g_F} {x y : Int32} : g_C l y_CL_needRoom b_CL_needRoom 2 none { frames := 6, cells := 1, slots := 6, locals := 82 } D g_cl (g_tys cI cZ cO cJ) (z_Z eA eM) [.int x, .int y] f (fun r f2 => (r = none ∧ f2 = f) ∧ x < y) (fun E => E = "java/lang/IllegalStateException" ∧ ¬ x < y) := by
  refine g_ofW [(0, .int x), (1, .int y)] (by decide +kernel) (Nat.le_of_ble_eq_true rfl) rfl ?_
  intro p e s m args below meth c X ht hin
  refine g_iload_n X d_CL_needRoom_0 0 rfl ?_
  refine g_iload_n X d_CL_needRoom_1 1 rfl ?_
  refine g_icmp_lt X 15 d_CL_needRoom_2 (by decide) (fun c2 => ?_) (fun c2 => ?_)
  · skip
    exact g_vret X rfl (⟨⟨rfl, rfl⟩, c2⟩) (Nat.le_of_ble_eq_true rfl) (Nat.le_of_ble_eq_true rfl) d_CL_needRoom_15
  · skip
    exact g_throwS (cls := "java/lang/IllegalStateException") (text := "there is no room for one more") (names := ["java/lang/RuntimeException", "java/lang/Exception"]) (ik := 177) (is := 179) (ic := 181) X hl (by decide +kernel) (by decide +kernel) q_248 q_15 X.2.2.2.2.2.2.2.2.2.2.1.2.2.1 (z_hatIS X.1.2.2.2.2 X.2.2.2.2.2) (by decide +kernel) X.2.2.2.2.2.2.2.2.2.1.1 X.2.2.2.2.2.2.2.2.2.1.2 ht d_CL_needRoom_5 d_CL_needRoom_8 d_CL_needRoom_9 d_CL_needRoom_11 d_CL_needRoom_14 (Nat.le_of_ble_eq_true rfl) (Nat.le_of_ble_eq_true rfl) (Nat.le_of_ble_eq_true rfl) (Nat.le_of_ble_eq_true rfl) (⟨rfl, c2⟩) (Nat.le_of_ble_eq_true rfl) (Nat.le_of_ble_eq_true rfl)
set_option maxHeartbeats 4000000 in
set_option maxRecDepth 100000 in
theorem c_CL_needBelow {l : Launch} {D : va_G} {cI cZ cO cJ : ClassId} {eA eM : Nat} (hl : l.stackTraces = false) {f : g_F} {x b : Int32} : g_C l y_CL_needBelow b_CL_needBelow 2 none { frames := 7, cells := 1, slots := 6, locals := 104 } D g_cl (g_tys cI cZ cO cJ) (z_Z eA eM) [.int x, .int b] f (fun r f2 => (r = none ∧ f2 = f) ∧ ¬ x < 0 ∧ x ≤ b - 1) (fun E => E = "java/lang/IllegalArgumentException" ∧ (x < 0 ∨ ¬ x ≤ b - 1)) := by
  refine g_ofW [(0, .int x), (1, .int b)] (by decide +kernel) (Nat.le_of_ble_eq_true rfl) rfl ?_
  intro p e s m args below meth c X ht hin
  refine g_iload_n X d_CL_needBelow_0 0 rfl ?_
  refine g_iconst (v := 0) X d_CL_needBelow_1 (by decide) ?_
  refine g_iload_n X d_CL_needBelow_2 1 rfl ?_
  refine g_iconst (v := 1) X d_CL_needBelow_3 (by decide) ?_
  refine g_isub X d_CL_needBelow_4 ?_
  refine g_callS (As := [.int x, .int 0, .int (b - 1)]) (rest := []) X (z_ok eA eM) (c_CL_needWithin hl (f := f) (x := x) (a := 0) (b := b - 1)) v_CL_needWithin q_145 q_144 rfl rfl (Nat.le_of_ble_eq_true rfl) d_CL_needBelow_5 ⟨(Nat.le_of_ble_eq_true rfl), (Nat.le_of_ble_eq_true rfl)⟩ ⟨(Nat.le_of_ble_eq_true rfl), (Nat.le_of_ble_eq_true rfl)⟩ (g_K.out X ht (fun _ h => h) (Nat.le_of_ble_eq_true rfl) (Nat.le_of_ble_eq_true rfl)) (fun r_ f2_ hp => ?_)
  obtain ⟨⟨rfl, hf_⟩, hw_⟩ := hp
  refine g_st (st2 := []) rfl ?_
  exact g_vret X rfl (⟨⟨rfl, hf_⟩, hw_⟩) (Nat.le_of_ble_eq_true rfl) (Nat.le_of_ble_eq_true rfl) d_CL_needBelow_8
set_option maxHeartbeats 4000000 in
set_option maxRecDepth 100000 in
theorem c_CL_needDay {l : Launch} {D : va_G} {cI cZ cO cJ : ClassId} {eA eM : Nat} (hl : l.stackTraces = false) {f : g_F} {x : Int32} : g_C l y_CL_needDay b_CL_needDay 1 none { frames := 7, cells := 1, slots := 6, locals := 104 } D g_cl (g_tys cI cZ cO cJ) (z_Z eA eM) [.int x] f (fun r f2 => (r = none ∧ f2 = f) ∧ ¬ x < 0 ∧ x ≤ 100000) (fun E => E = "java/lang/IllegalArgumentException" ∧ (x < 0 ∨ ¬ x ≤ 100000)) := by
  refine g_ofW [(0, .int x)] (by decide +kernel) (Nat.le_of_ble_eq_true rfl) rfl ?_
  intro p e s m args below meth c X ht hin
  refine g_iload_n X d_CL_needDay_0 0 rfl ?_
  refine g_iconst (v := 0) X d_CL_needDay_1 (by decide) ?_
  refine g_ldc (v := 100000) X q_390 d_CL_needDay_2 ?_
  refine g_callS (As := [.int x, .int 0, .int 100000]) (rest := []) X (z_ok eA eM) (c_CL_needWithin hl (f := f) (x := x) (a := 0) (b := 100000)) v_CL_needWithin q_145 q_144 rfl rfl (Nat.le_of_ble_eq_true rfl) d_CL_needDay_4 ⟨(Nat.le_of_ble_eq_true rfl), (Nat.le_of_ble_eq_true rfl)⟩ ⟨(Nat.le_of_ble_eq_true rfl), (Nat.le_of_ble_eq_true rfl)⟩ (g_K.out X ht (fun _ h => h) (Nat.le_of_ble_eq_true rfl) (Nat.le_of_ble_eq_true rfl)) (fun r_ f2_ hp => ?_)
  obtain ⟨⟨rfl, hf_⟩, hw_⟩ := hp
  refine g_st (st2 := []) rfl ?_
  exact g_vret X rfl (⟨⟨rfl, hf_⟩, hw_⟩) (Nat.le_of_ble_eq_true rfl) (Nat.le_of_ble_eq_true rfl) d_CL_needDay_7
theorem needMax (x : Int32) : x ≤ 2147483647 := by
  rw [Int32.le_iff_toInt_le, show (2147483647 : Int32).toInt = 2147483647 by decide]
  have := x.toInt_lt
  omega
set_option maxHeartbeats 4000000 in
set_option maxRecDepth 100000 in
theorem c_CL_needNotNegative {l : Launch} {D : va_G} {cI cZ cO cJ : ClassId} {eA eM : Nat} (hl : l.stackTraces = false) {f : g_F} {x : Int32} : g_C l y_CL_needNotNegative b_CL_needNotNegative 1 none { frames := 6, cells := 1, slots := 6, locals := 82 } D g_cl (g_tys cI cZ cO cJ) (z_Z eA eM) [.int x] f (fun r f2 => (r = none ∧ f2 = f) ∧ ¬ x < 0 ∧ x ≤ 2147483647) (fun E => E = "java/lang/IllegalArgumentException" ∧ (x < 0 ∨ ¬ x ≤ 2147483647)) := by
  refine g_ofW [(0, .int x)] (by decide +kernel) (Nat.le_of_ble_eq_true rfl) rfl ?_
  intro p e s m args below meth c X ht hin
  refine g_iload_n X d_CL_needNotNegative_0 0 rfl ?_
  refine g_if_ge X 14 d_CL_needNotNegative_1 (by decide) (fun c1 => ?_) (fun c1 => ?_)
  · skip
    exact g_vret X rfl (⟨⟨rfl, rfl⟩, Int32.not_lt.mpr c1, needMax x⟩) (Nat.le_of_ble_eq_true rfl) (Nat.le_of_ble_eq_true rfl) d_CL_needNotNegative_14
  · skip
    exact g_throwS (cls := "java/lang/IllegalArgumentException") (text := "k is below 0") (names := ["java/lang/RuntimeException", "java/lang/Exception"]) (ik := 166) (is := 168) (ic := 170) X hl (by decide +kernel) (by decide +kernel) q_147 q_12 X.2.2.2.2.2.2.2.2.2.2.1.2.2.2 (z_hatIA X.1.2.2.2.2 X.2.2.2.2.2) (by decide +kernel) X.2.2.2.2.2.2.2.2.2.1.1 X.2.2.2.2.2.2.2.2.2.1.2 ht d_CL_needNotNegative_4 d_CL_needNotNegative_7 d_CL_needNotNegative_8 d_CL_needNotNegative_10 d_CL_needNotNegative_13 (Nat.le_of_ble_eq_true rfl) (Nat.le_of_ble_eq_true rfl) (Nat.le_of_ble_eq_true rfl) (Nat.le_of_ble_eq_true rfl) (⟨rfl, Or.inl (Int32.not_le.mp c1)⟩) (Nat.le_of_ble_eq_true rfl) (Nat.le_of_ble_eq_true rfl)
