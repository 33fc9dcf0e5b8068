set_option maxRecDepth 100000 in
set_option maxHeartbeats 4000000 in
theorem c_X0_count (l : Launch) (D : va_G) (cI cZ : ClassId) (q0 b1 : Nat) (ac : Int32) (ax : Int32) : RO l D cI cZ yX0_count cX0_count 1 (some .int) (mR 0 0) [.ref q0] [(q0, .inr (0, [.ref b1, .int ac, .int ax]))] (some (.int ac)) := by
  refine RO.of (by decide +kernel) (Nat.le_of_ble_eq_true rfl) ?_
  intro p e s m args below meth c ls Q CF hr hlk hP hE hQ hl
  have hx := CF.1
  have hb := CF.2.1
  have hl : lv_has ls 1 [(0, .ref q0)] := hl
  refine lv_aload_n hx hb dX0_count_0 rfl (lv_at hl 0 rfl) ?_
  refine r_get (C := RX0) (T := TX0) (N := 3) (v := .int ac) CF hE hP 0 rfl rfl inG0 1 (by decide) tw_1_106 rfl rfl dX0_count_1 ?_
  exact ro_ret CF hQ hr hlk rfl dX0_count_4 rfl
set_option maxRecDepth 100000 in
set_option maxHeartbeats 4000000 in
theorem c_X0_clear (l : Launch) (D : va_G) (cI cZ : ClassId) (q0 b1 : Nat) (ac : Int32) (ax : Int32) : MU l D cI cZ yX0_clear cX0_clear 1 none (mR 0 0) [.ref q0] [(q0, .inr (0, [.ref b1, .int ac, .int ax]))] [(q0, .inr (0, [.ref b1, .int 0, .int ax]))] none := by
  refine MU.of (by decide +kernel) (Nat.le_of_ble_eq_true rfl) ?_
  intro p e s m args below meth c ls Q A CF hr hlk hP hE hD hS hQ hl
  have hx := CF.1
  have hb := CF.2.1
  have hl : lv_has ls 1 [(0, .ref q0)] := hl
  refine lv_aload_n hx hb dX0_clear_0 rfl (lv_at hl 0 rfl) ?_
  refine lv_iconst (v := 0) hx hb dX0_clear_1 (by decide) ?_
  refine r_put (C := RX0) (T := TX0) (N := 3) (ws' := [(q0, .inr (0, [.ref b1, .int 0, .int ax]))]) CF hE hP hD hS 0 rfl rfl inG0 tyX0 tyX0_ok nmX0 1 (by decide) tw_1_106 rfl rfl rfl rfl (Nat.le_of_ble_eq_true rfl) dX0_clear_2 rfl (fun H locs hP hD hS => ?_)
  exact mu_retv CF hQ hr hlk hP hS dX0_clear_5 rfl
theorem lk_X0_27 : mLkV RX0 27 yX4_store cX4_store 3 none 2 := ⟨⟨tw_2_128, tw_1_8, tw_2_131, ⟨by decide +kernel, by decide +kernel, by decide +kernel⟩⟩, tw_2_129, tw_2_130⟩
set_option maxRecDepth 100000 in
set_option maxHeartbeats 4000000 in
theorem c_X0_remember (l : Launch) (D : va_G) (cI cZ : ClassId) (q0 b1 b2 b3 q3 q4 q5 q6 : Nat) (ac : Int32) (ax : Int32) (ah : Nat → Int32) (nw : Nat → Int32) : MU l D cI cZ yX0_remember cX0_remember 2 none (mR 3 69) [.ref q0, .ref q3] [(q0, .inr (0, [.ref b1, .int ac, .int ax])), (b1, .inr (4, [.ref b2])), (b2, .inr (2, [.ref b3])), (b3, .inl (cI, 210, .inl ah)), (q3, .inr (1, [.ref q4, .ref q5])), (q5, .inr (2, [.ref q6])), (q6, .inl (cI, 15, .inl nw))] [(q0, .inr (0, [.ref b1, .int (if 14 < (ac + 1) then 14 else (ac + 1)), .int ((ax + 1) - (ax + 1) / 14 * 14)])), (b1, .inr (4, [.ref b2])), (b2, .inr (2, [.ref b3])), (b3, .inl (cI, 210, .inl ((B_X2_copy_3 210 15 nw (ax * 15) 0 ah 15)))), (q3, .inr (1, [.ref q4, .ref q5])), (q5, .inr (2, [.ref q6])), (q6, .inl (cI, 15, .inl nw))] none := by
  refine MU.of (by decide +kernel) (Nat.le_of_ble_eq_true rfl) ?_
  intro p e s m args below meth c ls Q A CF hr hlk hP hE hD hS hQ hl
  have hx := CF.1
  have hb := CF.2.1
  have hl : lv_has ls 2 [(0, .ref q0), (1, .ref q3)] := hl
  refine lv_aload_n hx hb dX0_remember_0 rfl (lv_at hl 0 rfl) ?_
  refine r_get (C := RX0) (T := TX0) (N := 3) (v := .ref b1) CF hE hP 0 rfl rfl inG0 0 (by decide) tw_1_105 rfl rfl dX0_remember_1 ?_
  refine lv_aload_n hx hb dX0_remember_4 rfl (lv_at hl 0 rfl) ?_
  refine r_get (C := RX0) (T := TX0) (N := 3) (v := .int ax) CF hE hP 0 rfl rfl inG0 2 (by decide) tw_1_107 rfl rfl dX0_remember_5 ?_
  refine lv_aload_n hx hb dX0_remember_8 rfl (lv_at hl 1 rfl) ?_
  refine mu_Vv (y := yX4_store) (As := [.int ax, .ref q3]) (rest := []) (q0 := 1) (ws' := [(q0, .inr (0, [.ref b1, .int ac, .int ax])), (b1, .inr (4, [.ref b2])), (b2, .inr (2, [.ref b3])), (b3, .inl (cI, 210, .inl ((B_X2_copy_3 210 15 nw (ax * 15) 0 ah 15)))), (q3, .inr (1, [.ref q4, .ref q5])), (q5, .inr (2, [.ref q6])), (q6, .inl (cI, 15, .inl nw))]) (ad := [q0, b1, b2, b3, q3, q5, q6]) CF (c_X4_store l D cI cZ b1 b2 b3 q3 q4 q5 q6 210 ah nw ax (by omega)) lk_X0_27 hP hE hD hS [1, 2, 3, 4, 5, 6] rfl (by decide) (Nat.le_of_ble_eq_true rfl) rfl rfl rfl rfl rfl rfl hl.1 rfl (Nat.le_of_ble_eq_true rfl) ⟨Nat.le_of_ble_eq_true rfl, Nat.le_of_ble_eq_true rfl, rfl, rfl⟩ ⟨Nat.zero_le _, Nat.zero_le _⟩ dX0_remember_9 (fun H locs hP hD hS => ?_)
  refine lv_aload_n hx hb dX0_remember_12 rfl (lv_at hl 0 rfl) ?_
  refine lv_aload_n hx hb dX0_remember_13 rfl (lv_at hl 0 rfl) ?_
  refine r_get (C := RX0) (T := TX0) (N := 3) (v := .int ax) CF hE hP 0 rfl rfl inG0 2 (by decide) tw_1_107 rfl rfl dX0_remember_14 ?_
  refine lv_iconst (v := 1) hx hb dX0_remember_17 (by decide) ?_
  refine lv_iadd hx hb dX0_remember_18 ?_
  refine lv_bipush (v := 14) hx hb dX0_remember_19 (by decide) ?_
  refine lv_irem hx hb dX0_remember_21 (by decide) ?_
  refine r_put (C := RX0) (T := TX0) (N := 3) (ws' := [(q0, .inr (0, [.ref b1, .int ac, .int ((ax + 1) - (ax + 1) / 14 * 14)])), (b1, .inr (4, [.ref b2])), (b2, .inr (2, [.ref b3])), (b3, .inl (cI, 210, .inl ((B_X2_copy_3 210 15 nw (ax * 15) 0 ah 15)))), (q3, .inr (1, [.ref q4, .ref q5])), (q5, .inr (2, [.ref q6])), (q6, .inl (cI, 15, .inl nw))]) CF hE hP hD hS 0 rfl rfl inG0 tyX0 tyX0_ok nmX0 2 (by decide) tw_1_107 rfl rfl rfl rfl (Nat.le_of_ble_eq_true rfl) dX0_remember_22 rfl (fun H locs hP hD hS => ?_)
  refine lv_aload_n hx hb dX0_remember_25 rfl (lv_at hl 0 rfl) ?_
  refine lv_aload_n hx hb dX0_remember_26 rfl (lv_at hl 0 rfl) ?_
  refine r_get (C := RX0) (T := TX0) (N := 3) (v := .int ac) CF hE hP 0 rfl rfl inG0 1 (by decide) tw_1_106 rfl rfl dX0_remember_27 ?_
  refine lv_iconst (v := 1) hx hb dX0_remember_30 (by decide) ?_
  refine lv_iadd hx hb dX0_remember_31 ?_
  refine lv_bipush (v := 14) hx hb dX0_remember_32 (by decide) ?_
  refine r_mmin (rest := [.ref q0]) CF hl.1 tw_2_138 ⟨Nat.le_of_ble_eq_true rfl, Nat.le_of_ble_eq_true rfl, Nat.zero_le _, Nat.zero_le _⟩ dX0_remember_34 ⟨tw_2_108, tw_1_4, tw_2_109⟩ ?_
  refine r_put (C := RX0) (T := TX0) (N := 3) (ws' := [(q0, .inr (0, [.ref b1, .int (if 14 < (ac + 1) then 14 else (ac + 1)), .int ((ax + 1) - (ax + 1) / 14 * 14)])), (b1, .inr (4, [.ref b2])), (b2, .inr (2, [.ref b3])), (b3, .inl (cI, 210, .inl ((B_X2_copy_3 210 15 nw (ax * 15) 0 ah 15)))), (q3, .inr (1, [.ref q4, .ref q5])), (q5, .inr (2, [.ref q6])), (q6, .inl (cI, 15, .inl nw))]) CF hE hP hD hS 0 rfl rfl inG0 tyX0 tyX0_ok nmX0 1 (by decide) tw_1_106 rfl rfl rfl rfl (Nat.le_of_ble_eq_true rfl) dX0_remember_37 rfl (fun H locs hP hD hS => ?_)
  exact mu_retv CF hQ hr hlk hP hS dX0_remember_40 rfl
theorem lk_X0_37 : mLkV RX0 37 yX4_fetch cX4_fetch 3 none 2 := ⟨⟨tw_2_204, tw_1_8, tw_2_207, ⟨by decide +kernel, by decide +kernel, by decide +kernel⟩⟩, tw_2_205, tw_2_206⟩
def f_X0_takeBack (ac : Int32) : Int32 :=
  (if ac ≤ 0 then ac else (ac - 1))
def f_X0_takeBack_nw (ac : Int32) (ax : Int32) (ah : Nat → Int32) (nw : Nat → Int32) : Nat → Int32 :=
  (if ac ≤ 0 then nw else ((B_X2_copy_3 15 210 ah 0 ((((ax + 14) - 1) - ((ax + 14) - 1) / 14 * 14) * 15) nw 15)))
def f_X0_takeBack_ac (ac : Int32) : Int32 :=
  (if ac ≤ 0 then ac else (ac - 1))
def f_X0_takeBack_ax (ac : Int32) (ax : Int32) : Int32 :=
  (if ac ≤ 0 then ax else (((ax + 14) - 1) - ((ax + 14) - 1) / 14 * 14))
set_option maxRecDepth 100000 in
set_option maxHeartbeats 4000000 in
theorem c_X0_takeBack (l : Launch) (D : va_G) (cI cZ : ClassId) (q0 b1 b2 b3 q3 q4 q5 q6 : Nat) (ac : Int32) (ax : Int32) (ah : Nat → Int32) (nw : Nat → Int32) : MU l D cI cZ yX0_takeBack cX0_takeBack 2 (some .int) (mR 3 69) [.ref q0, .ref q3] [(q0, .inr (0, [.ref b1, .int ac, .int ax])), (b1, .inr (4, [.ref b2])), (b2, .inr (2, [.ref b3])), (b3, .inl (cI, 210, .inl ah)), (q3, .inr (1, [.ref q4, .ref q5])), (q5, .inr (2, [.ref q6])), (q6, .inl (cI, 15, .inl nw))] [(q0, .inr (0, [.ref b1, .int (f_X0_takeBack_ac ac), .int (f_X0_takeBack_ax ac ax)])), (b1, .inr (4, [.ref b2])), (b2, .inr (2, [.ref b3])), (b3, .inl (cI, 210, .inl ah)), (q3, .inr (1, [.ref q4, .ref q5])), (q5, .inr (2, [.ref q6])), (q6, .inl (cI, 15, .inl (f_X0_takeBack_nw ac ax ah nw)))] (some (.int (f_X0_takeBack ac))) := by
  refine MU.of (by decide +kernel) (Nat.le_of_ble_eq_true rfl) ?_
  intro p e s m args below meth c ls Q A CF hr hlk hP hE hD hS hQ hl
  have hx := CF.1
  have hb := CF.2.1
  have hl : lv_has ls 2 [(0, .ref q0), (1, .ref q3)] := hl
  refine lv_aload_n hx hb dX0_takeBack_0 rfl (lv_at hl 0 rfl) ?_
  refine r_get (C := RX0) (T := TX0) (N := 3) (v := .int ac) CF hE hP 0 rfl rfl inG0 1 (by decide) tw_1_106 rfl rfl dX0_takeBack_1 ?_
  refine lv_if_le (tgt := 45) hx hb dX0_takeBack_4 (by decide) (fun c_1 => ?_) (fun c_1 => ?_)
  · refine lv_aload_n hx hb dX0_takeBack_45 rfl (lv_at hl 0 rfl) ?_
    refine r_get (C := RX0) (T := TX0) (N := 3) (v := .int ac) CF hE hP 0 rfl rfl inG0 1 (by decide) tw_1_106 rfl rfl dX0_takeBack_46 ?_
    have e_0 : (f_X0_takeBack_nw ac ax ah nw) = nw := by rw [f_X0_takeBack_nw, if_pos c_1]
    have e_1 : (f_X0_takeBack_ac ac) = ac := by rw [f_X0_takeBack_ac, if_pos c_1]
    have e_2 : (f_X0_takeBack_ax ac ax) = ax := by rw [f_X0_takeBack_ax, if_pos c_1]
    exact mu_reti CF hQ hr hlk rfl hP hS dX0_takeBack_49 (by rw [f_X0_takeBack, if_pos c_1]) (by rw [e_0, e_1, e_2])
  · refine lv_aload_n hx hb dX0_takeBack_7 rfl (lv_at hl 0 rfl) ?_
    refine lv_aload_n hx hb dX0_takeBack_8 rfl (lv_at hl 0 rfl) ?_
    refine r_get (C := RX0) (T := TX0) (N := 3) (v := .int ax) CF hE hP 0 rfl rfl inG0 2 (by decide) tw_1_107 rfl rfl dX0_takeBack_9 ?_
    refine lv_bipush (v := 14) hx hb dX0_takeBack_12 (by decide) ?_
    refine lv_iadd hx hb dX0_takeBack_14 ?_
    refine lv_iconst (v := 1) hx hb dX0_takeBack_15 (by decide) ?_
    refine lv_isub hx hb dX0_takeBack_16 ?_
    refine lv_bipush (v := 14) hx hb dX0_takeBack_17 (by decide) ?_
    refine lv_irem hx hb dX0_takeBack_19 (by decide) ?_
    refine r_put (C := RX0) (T := TX0) (N := 3) (ws' := [(q0, .inr (0, [.ref b1, .int ac, .int (((ax + 14) - 1) - ((ax + 14) - 1) / 14 * 14)])), (b1, .inr (4, [.ref b2])), (b2, .inr (2, [.ref b3])), (b3, .inl (cI, 210, .inl ah)), (q3, .inr (1, [.ref q4, .ref q5])), (q5, .inr (2, [.ref q6])), (q6, .inl (cI, 15, .inl nw))]) CF hE hP hD hS 0 rfl rfl inG0 tyX0 tyX0_ok nmX0 2 (by decide) tw_1_107 rfl rfl rfl rfl (Nat.le_of_ble_eq_true rfl) dX0_takeBack_20 rfl (fun H locs hP hD hS => ?_)
    refine lv_aload_n hx hb dX0_takeBack_23 rfl (lv_at hl 0 rfl) ?_
    refine lv_dup hx hb dX0_takeBack_24 rfl ?_
    refine r_get (C := RX0) (T := TX0) (N := 3) (v := .int ac) CF hE hP 0 rfl rfl inG0 1 (by decide) tw_1_106 rfl rfl dX0_takeBack_25 ?_
    refine lv_iconst (v := 1) hx hb dX0_takeBack_28 (by decide) ?_
    refine lv_isub hx hb dX0_takeBack_29 ?_
    refine r_put (C := RX0) (T := TX0) (N := 3) (ws' := [(q0, .inr (0, [.ref b1, .int (ac - 1), .int (((ax + 14) - 1) - ((ax + 14) - 1) / 14 * 14)])), (b1, .inr (4, [.ref b2])), (b2, .inr (2, [.ref b3])), (b3, .inl (cI, 210, .inl ah)), (q3, .inr (1, [.ref q4, .ref q5])), (q5, .inr (2, [.ref q6])), (q6, .inl (cI, 15, .inl nw))]) CF hE hP hD hS 0 rfl rfl inG0 tyX0 tyX0_ok nmX0 1 (by decide) tw_1_106 rfl rfl rfl rfl (Nat.le_of_ble_eq_true rfl) dX0_takeBack_30 rfl (fun H locs hP hD hS => ?_)
    refine lv_aload_n hx hb dX0_takeBack_33 rfl (lv_at hl 0 rfl) ?_
    refine r_get (C := RX0) (T := TX0) (N := 3) (v := .ref b1) CF hE hP 0 rfl rfl inG0 0 (by decide) tw_1_105 rfl rfl dX0_takeBack_34 ?_
    refine lv_aload_n hx hb dX0_takeBack_37 rfl (lv_at hl 0 rfl) ?_
    refine r_get (C := RX0) (T := TX0) (N := 3) (v := .int (((ax + 14) - 1) - ((ax + 14) - 1) / 14 * 14)) CF hE hP 0 rfl rfl inG0 2 (by decide) tw_1_107 rfl rfl dX0_takeBack_38 ?_
    refine lv_aload_n hx hb dX0_takeBack_41 rfl (lv_at hl 1 rfl) ?_
    refine mu_Vv (y := yX4_fetch) (As := [.int (((ax + 14) - 1) - ((ax + 14) - 1) / 14 * 14), .ref q3]) (rest := []) (q0 := 1) (ws' := [(q0, .inr (0, [.ref b1, .int (ac - 1), .int (((ax + 14) - 1) - ((ax + 14) - 1) / 14 * 14)])), (b1, .inr (4, [.ref b2])), (b2, .inr (2, [.ref b3])), (b3, .inl (cI, 210, .inl ah)), (q3, .inr (1, [.ref q4, .ref q5])), (q5, .inr (2, [.ref q6])), (q6, .inl (cI, 15, .inl ((B_X2_copy_3 15 210 ah 0 ((((ax + 14) - 1) - ((ax + 14) - 1) / 14 * 14) * 15) nw 15))))]) (ad := [q0, b1, b2, b3, q3, q5, q6]) CF (c_X4_fetch l D cI cZ b1 b2 b3 q3 q4 q5 q6 210 ah nw (((ax + 14) - 1) - ((ax + 14) - 1) / 14 * 14) (by omega)) lk_X0_37 hP hE hD hS [1, 2, 3, 4, 5, 6] rfl (by decide) (Nat.le_of_ble_eq_true rfl) rfl rfl rfl rfl rfl rfl hl.1 rfl (Nat.le_of_ble_eq_true rfl) ⟨Nat.le_of_ble_eq_true rfl, Nat.le_of_ble_eq_true rfl, rfl, rfl⟩ ⟨Nat.zero_le _, Nat.zero_le _⟩ dX0_takeBack_42 (fun H locs hP hD hS => ?_)
    refine lv_aload_n hx hb dX0_takeBack_45 rfl (lv_at hl 0 rfl) ?_
    refine r_get (C := RX0) (T := TX0) (N := 3) (v := .int (ac - 1)) CF hE hP 0 rfl rfl inG0 1 (by decide) tw_1_106 rfl rfl dX0_takeBack_46 ?_
    have e_0 : (f_X0_takeBack_nw ac ax ah nw) = ((B_X2_copy_3 15 210 ah 0 ((((ax + 14) - 1) - ((ax + 14) - 1) / 14 * 14) * 15) nw 15)) := by rw [f_X0_takeBack_nw, if_neg c_1]
    have e_1 : (f_X0_takeBack_ac ac) = (ac - 1) := by rw [f_X0_takeBack_ac, if_neg c_1]
    have e_2 : (f_X0_takeBack_ax ac ax) = (((ax + 14) - 1) - ((ax + 14) - 1) / 14 * 14) := by rw [f_X0_takeBack_ax, if_neg c_1]
    exact mu_reti CF hQ hr hlk rfl hP hS dX0_takeBack_49 (by rw [f_X0_takeBack, if_neg c_1]) (by rw [e_0, e_1, e_2])
theorem lk_X1_24 : mLkV RX1 24 yX2_at cX2_at 2 (some .int) 1 := ⟨⟨tw_2_50, tw_1_3, tw_1_200, ⟨by decide +kernel, by decide +kernel, by decide +kernel⟩⟩, tw_1_198, tw_1_199⟩
set_option maxRecDepth 100000 in
set_option maxHeartbeats 4000000 in
theorem c_X1_told (l : Launch) (D : va_G) (cI cZ : ClassId) (q0 t0 q1 q2 : Nat) (nw : Nat → Int32) (a1 : Int32) : RO l D cI cZ yX1_told cX1_told 2 (some .int) (mR 1 21) [.ref q0, .int a1] [(q0, .inr (1, [.ref t0, .ref q1])), (q1, .inr (2, [.ref q2])), (q2, .inl (cI, 15, .inl nw))] (some (.int (f_X2_at 15 nw (0 + a1)))) := by
  refine RO.of (by decide +kernel) (Nat.le_of_ble_eq_true rfl) ?_
  intro p e s m args below meth c ls Q CF hr hlk hP hE hQ hl
  have hx := CF.1
  have hb := CF.2.1
  have hl : lv_has ls 2 [(0, .ref q0), (1, .int a1)] := hl
  refine lv_aload_n hx hb dX1_told_0 rfl (lv_at hl 0 rfl) ?_
  refine r_get (C := RX1) (T := TX1) (N := 2) (v := .ref q1) CF hE hP 0 rfl rfl inG1 1 (by decide) tw_1_80 rfl rfl dX1_told_1 ?_
  refine lv_iconst (v := 0) hx hb dX1_told_4 (by decide) ?_
  refine lv_iload_n hx hb dX1_told_5 rfl (lv_at hl 1 rfl) ?_
  refine lv_iadd hx hb dX1_told_6 ?_
  refine ro_V (y := yX2_at) (As := [.int (0 + a1)]) (rest := []) (q0 := 1) CF (c_X2_at l D cI cZ q1 q2 15 nw (0 + a1) (by omega)) lk_X1_24 hP hE [1, 2] rfl rfl rfl rfl hl.1 rfl (Nat.le_of_ble_eq_true rfl) ⟨Nat.le_of_ble_eq_true rfl, Nat.le_of_ble_eq_true rfl, rfl, rfl⟩ ⟨Nat.zero_le _, Nat.zero_le _⟩ dX1_told_7 ?_
  exact ro_ret CF hQ hr hlk rfl dX1_told_10 rfl
set_option maxRecDepth 100000 in
set_option maxHeartbeats 4000000 in
theorem c_X1_seat (l : Launch) (D : va_G) (cI cZ : ClassId) (q0 t0 q1 q2 : Nat) (nw : Nat → Int32) (a1 : Int32) : RO l D cI cZ yX1_seat cX1_seat 2 (some .int) (mR 1 21) [.ref q0, .int a1] [(q0, .inr (1, [.ref t0, .ref q1])), (q1, .inr (2, [.ref q2])), (q2, .inl (cI, 15, .inl nw))] (some (.int (f_X2_at 15 nw (5 + a1)))) := by
  refine RO.of (by decide +kernel) (Nat.le_of_ble_eq_true rfl) ?_
  intro p e s m args below meth c ls Q CF hr hlk hP hE hQ hl
  have hx := CF.1
  have hb := CF.2.1
  have hl : lv_has ls 2 [(0, .ref q0), (1, .int a1)] := hl
  refine lv_aload_n hx hb dX1_seat_0 rfl (lv_at hl 0 rfl) ?_
  refine r_get (C := RX1) (T := TX1) (N := 2) (v := .ref q1) CF hE hP 0 rfl rfl inG1 1 (by decide) tw_1_80 rfl rfl dX1_seat_1 ?_
  refine lv_iconst (v := 5) hx hb dX1_seat_4 (by decide) ?_
  refine lv_iload_n hx hb dX1_seat_5 rfl (lv_at hl 1 rfl) ?_
  refine lv_iadd hx hb dX1_seat_6 ?_
  refine ro_V (y := yX2_at) (As := [.int (5 + a1)]) (rest := []) (q0 := 1) CF (c_X2_at l D cI cZ q1 q2 15 nw (5 + a1) (by omega)) lk_X1_24 hP hE [1, 2] rfl rfl rfl rfl hl.1 rfl (Nat.le_of_ble_eq_true rfl) ⟨Nat.le_of_ble_eq_true rfl, Nat.le_of_ble_eq_true rfl, rfl, rfl⟩ ⟨Nat.zero_le _, Nat.zero_le _⟩ dX1_seat_7 ?_
  exact ro_ret CF hQ hr hlk rfl dX1_seat_10 rfl
set_option maxRecDepth 100000 in
set_option maxHeartbeats 4000000 in
theorem c_X1_fines (l : Launch) (D : va_G) (cI cZ : ClassId) (q0 t0 q1 q2 : Nat) (nw : Nat → Int32) (a1 : Int32) : RO l D cI cZ yX1_fines cX1_fines 2 (some .int) (mR 1 21) [.ref q0, .int a1] [(q0, .inr (1, [.ref t0, .ref q1])), (q1, .inr (2, [.ref q2])), (q2, .inl (cI, 15, .inl nw))] (some (.int (f_X2_at 15 nw (10 + a1)))) := by
  refine RO.of (by decide +kernel) (Nat.le_of_ble_eq_true rfl) ?_
  intro p e s m args below meth c ls Q CF hr hlk hP hE hQ hl
  have hx := CF.1
  have hb := CF.2.1
  have hl : lv_has ls 2 [(0, .ref q0), (1, .int a1)] := hl
  refine lv_aload_n hx hb dX1_fines_0 rfl (lv_at hl 0 rfl) ?_
  refine r_get (C := RX1) (T := TX1) (N := 2) (v := .ref q1) CF hE hP 0 rfl rfl inG1 1 (by decide) tw_1_80 rfl rfl dX1_fines_1 ?_
  refine lv_bipush (v := 10) hx hb dX1_fines_4 (by decide) ?_
  refine lv_iload_n hx hb dX1_fines_6 rfl (lv_at hl 1 rfl) ?_
  refine lv_iadd hx hb dX1_fines_7 ?_
  refine ro_V (y := yX2_at) (As := [.int (10 + a1)]) (rest := []) (q0 := 1) CF (c_X2_at l D cI cZ q1 q2 15 nw (10 + a1) (by omega)) lk_X1_24 hP hE [1, 2] rfl rfl rfl rfl hl.1 rfl (Nat.le_of_ble_eq_true rfl) ⟨Nat.le_of_ble_eq_true rfl, Nat.le_of_ble_eq_true rfl, rfl, rfl⟩ ⟨Nat.zero_le _, Nat.zero_le _⟩ dX1_fines_8 ?_
  exact ro_ret CF hQ hr hlk rfl dX1_fines_11 rfl
theorem lk_X1_28 : mLkV RX1 28 yX2_put cX2_put 3 none 2 := ⟨⟨tw_2_16, tw_1_3, tw_1_172, ⟨by decide +kernel, by decide +kernel, by decide +kernel⟩⟩, tw_1_170, tw_1_171⟩
set_option maxRecDepth 100000 in
set_option maxHeartbeats 4000000 in
theorem c_X1_setTold (l : Launch) (D : va_G) (cI cZ : ClassId) (q0 t0 q1 q2 : Nat) (nw : Nat → Int32) (a1 : Int32) (a2 : Int32) : MU l D cI cZ yX1_setTold cX1_setTold 3 none (mR 1 22) [.ref q0, .int a1, .int a2] [(q0, .inr (1, [.ref t0, .ref q1])), (q1, .inr (2, [.ref q2])), (q2, .inl (cI, 15, .inl nw))] [(q0, .inr (1, [.ref t0, .ref q1])), (q1, .inr (2, [.ref q2])), (q2, .inl (cI, 15, .inl (f_X2_put_sf 15 nw (0 + a1) a2)))] none := by
  refine MU.of (by decide +kernel) (Nat.le_of_ble_eq_true rfl) ?_
  intro p e s m args below meth c ls Q A CF hr hlk hP hE hD hS hQ hl
  have hx := CF.1
  have hb := CF.2.1
  have hl : lv_has ls 3 [(0, .ref q0), (1, .int a1), (2, .int a2)] := hl
  refine lv_aload_n hx hb dX1_setTold_0 rfl (lv_at hl 0 rfl) ?_
  refine r_get (C := RX1) (T := TX1) (N := 2) (v := .ref q1) CF hE hP 0 rfl rfl inG1 1 (by decide) tw_1_80 rfl rfl dX1_setTold_1 ?_
  refine lv_iconst (v := 0) hx hb dX1_setTold_4 (by decide) ?_
  refine lv_iload_n hx hb dX1_setTold_5 rfl (lv_at hl 1 rfl) ?_
  refine lv_iadd hx hb dX1_setTold_6 ?_
  refine lv_iload_n hx hb dX1_setTold_7 rfl (lv_at hl 2 rfl) ?_
  refine mu_Vv (y := yX2_put) (As := [.int (0 + a1), .int a2]) (rest := []) (q0 := 1) (ws' := [(q0, .inr (1, [.ref t0, .ref q1])), (q1, .inr (2, [.ref q2])), (q2, .inl (cI, 15, .inl (f_X2_put_sf 15 nw (0 + a1) a2)))]) (ad := [q0, q1, q2]) CF (c_X2_put l D cI cZ q1 q2 15 nw (0 + a1) a2 (by omega)) lk_X1_28 hP hE hD hS [1, 2] rfl (by decide) (Nat.le_of_ble_eq_true rfl) rfl rfl rfl rfl rfl rfl hl.1 rfl (Nat.le_of_ble_eq_true rfl) ⟨Nat.le_of_ble_eq_true rfl, Nat.le_of_ble_eq_true rfl, rfl, rfl⟩ ⟨Nat.zero_le _, Nat.zero_le _⟩ dX1_setTold_8 (fun H locs hP hD hS => ?_)
  exact mu_retv CF hQ hr hlk hP hS dX1_setTold_11 rfl
set_option maxRecDepth 100000 in
set_option maxHeartbeats 4000000 in
theorem c_X1_setSeat (l : Launch) (D : va_G) (cI cZ : ClassId) (q0 t0 q1 q2 : Nat) (nw : Nat → Int32) (a1 : Int32) (a2 : Int32) : MU l D cI cZ yX1_setSeat cX1_setSeat 3 none (mR 1 22) [.ref q0, .int a1, .int a2] [(q0, .inr (1, [.ref t0, .ref q1])), (q1, .inr (2, [.ref q2])), (q2, .inl (cI, 15, .inl nw))] [(q0, .inr (1, [.ref t0, .ref q1])), (q1, .inr (2, [.ref q2])), (q2, .inl (cI, 15, .inl (f_X2_put_sf 15 nw (5 + a1) a2)))] none := by
  refine MU.of (by decide +kernel) (Nat.le_of_ble_eq_true rfl) ?_
  intro p e s m args below meth c ls Q A CF hr hlk hP hE hD hS hQ hl
  have hx := CF.1
  have hb := CF.2.1
  have hl : lv_has ls 3 [(0, .ref q0), (1, .int a1), (2, .int a2)] := hl
  refine lv_aload_n hx hb dX1_setSeat_0 rfl (lv_at hl 0 rfl) ?_
  refine r_get (C := RX1) (T := TX1) (N := 2) (v := .ref q1) CF hE hP 0 rfl rfl inG1 1 (by decide) tw_1_80 rfl rfl dX1_setSeat_1 ?_
  refine lv_iconst (v := 5) hx hb dX1_setSeat_4 (by decide) ?_
  refine lv_iload_n hx hb dX1_setSeat_5 rfl (lv_at hl 1 rfl) ?_
  refine lv_iadd hx hb dX1_setSeat_6 ?_
  refine lv_iload_n hx hb dX1_setSeat_7 rfl (lv_at hl 2 rfl) ?_
  refine mu_Vv (y := yX2_put) (As := [.int (5 + a1), .int a2]) (rest := []) (q0 := 1) (ws' := [(q0, .inr (1, [.ref t0, .ref q1])), (q1, .inr (2, [.ref q2])), (q2, .inl (cI, 15, .inl (f_X2_put_sf 15 nw (5 + a1) a2)))]) (ad := [q0, q1, q2]) CF (c_X2_put l D cI cZ q1 q2 15 nw (5 + a1) a2 (by omega)) lk_X1_28 hP hE hD hS [1, 2] rfl (by decide) (Nat.le_of_ble_eq_true rfl) rfl rfl rfl rfl rfl rfl hl.1 rfl (Nat.le_of_ble_eq_true rfl) ⟨Nat.le_of_ble_eq_true rfl, Nat.le_of_ble_eq_true rfl, rfl, rfl⟩ ⟨Nat.zero_le _, Nat.zero_le _⟩ dX1_setSeat_8 (fun H locs hP hD hS => ?_)
  exact mu_retv CF hQ hr hlk hP hS dX1_setSeat_11 rfl
theorem lk_X1_32 : mLkV RX1 32 yX1_fines cX1_fines 2 (some .int) 1 := ⟨⟨tw_2_46, tw_1_6, tw_2_49, ⟨by decide +kernel, by decide +kernel, by decide +kernel⟩⟩, tw_2_47, tw_2_48⟩
set_option maxRecDepth 100000 in
set_option maxHeartbeats 4000000 in
theorem c_X1_fine (l : Launch) (D : va_G) (cI cZ : ClassId) (q0 t0 q1 q2 : Nat) (nw : Nat → Int32) (a1 : Int32) (a2 : Int32) : MU l D cI cZ yX1_fine cX1_fine 3 none (mR 2 42) [.ref q0, .int a1, .int a2] [(q0, .inr (1, [.ref t0, .ref q1])), (q1, .inr (2, [.ref q2])), (q2, .inl (cI, 15, .inl nw))] [(q0, .inr (1, [.ref t0, .ref q1])), (q1, .inr (2, [.ref q2])), (q2, .inl (cI, 15, .inl (f_X2_put_sf 15 nw (10 + a1) ((f_X2_at 15 nw (10 + a1)) + a2))))] none := by
  refine MU.of (by decide +kernel) (Nat.le_of_ble_eq_true rfl) ?_
  intro p e s m args below meth c ls Q A CF hr hlk hP hE hD hS hQ hl
  have hx := CF.1
  have hb := CF.2.1
  have hl : lv_has ls 3 [(0, .ref q0), (1, .int a1), (2, .int a2)] := hl
  refine lv_aload_n hx hb dX1_fine_0 rfl (lv_at hl 0 rfl) ?_
  refine r_get (C := RX1) (T := TX1) (N := 2) (v := .ref q1) CF hE hP 0 rfl rfl inG1 1 (by decide) tw_1_80 rfl rfl dX1_fine_1 ?_
  refine lv_bipush (v := 10) hx hb dX1_fine_4 (by decide) ?_
  refine lv_iload_n hx hb dX1_fine_6 rfl (lv_at hl 1 rfl) ?_
  refine lv_iadd hx hb dX1_fine_7 ?_
  refine lv_aload_n hx hb dX1_fine_8 rfl (lv_at hl 0 rfl) ?_
  refine lv_iload_n hx hb dX1_fine_9 rfl (lv_at hl 1 rfl) ?_
  refine ro_V (y := yX1_fines) (As := [.int a1]) (rest := [.int (10 + a1), .ref q1]) (q0 := 0) CF (c_X1_fines l D cI cZ q0 t0 q1 q2 nw a1) lk_X1_32 hP hE [0, 1, 2] rfl rfl rfl rfl hl.1 rfl (Nat.le_of_ble_eq_true rfl) ⟨Nat.le_of_ble_eq_true rfl, Nat.le_of_ble_eq_true rfl, rfl, rfl⟩ ⟨Nat.zero_le _, Nat.zero_le _⟩ dX1_fine_10 ?_
  refine lv_iload_n hx hb dX1_fine_13 rfl (lv_at hl 2 rfl) ?_
  refine lv_iadd hx hb dX1_fine_14 ?_
  refine mu_Vv (y := yX2_put) (As := [.int (10 + a1), .int ((f_X2_at 15 nw (10 + a1)) + a2)]) (rest := []) (q0 := 1) (ws' := [(q0, .inr (1, [.ref t0, .ref q1])), (q1, .inr (2, [.ref q2])), (q2, .inl (cI, 15, .inl (f_X2_put_sf 15 nw (10 + a1) ((f_X2_at 15 nw (10 + a1)) + a2))))]) (ad := [q0, q1, q2]) CF (c_X2_put l D cI cZ q1 q2 15 nw (10 + a1) ((f_X2_at 15 nw (10 + a1)) + a2) (by omega)) lk_X1_28 hP hE hD hS [1, 2] rfl (by decide) (Nat.le_of_ble_eq_true rfl) rfl rfl rfl rfl rfl rfl hl.1 rfl (Nat.le_of_ble_eq_true rfl) ⟨Nat.le_of_ble_eq_true rfl, Nat.le_of_ble_eq_true rfl, rfl, rfl⟩ ⟨Nat.zero_le _, Nat.zero_le _⟩ dX1_fine_15 (fun H locs hP hD hS => ?_)
  exact mu_retv CF hQ hr hlk hP hS dX1_fine_18 rfl
theorem lk_X1_35 : mLkV RX1 35 yX2_fill cX2_fill 3 none 1 := ⟨⟨tw_1_232, tw_1_3, tw_1_235, ⟨by decide +kernel, by decide +kernel, by decide +kernel⟩⟩, tw_1_233, tw_1_234⟩
set_option maxRecDepth 100000 in
set_option maxHeartbeats 4000000 in
theorem c_X1_clear (l : Launch) (D : va_G) (cI cZ : ClassId) (q0 t0 q1 q2 : Nat) (nw : Nat → Int32) : MU l D cI cZ yX1_clear cX1_clear 1 none (mR 1 22) [.ref q0] [(q0, .inr (1, [.ref t0, .ref q1])), (q1, .inr (2, [.ref q2])), (q2, .inl (cI, 15, .inl nw))] [(q0, .inr (1, [.ref t0, .ref q1])), (q1, .inr (2, [.ref q2])), (q2, .inl (cI, 15, .inl ((B_X2_fill_2 0 nw 15))))] none := by
  refine MU.of (by decide +kernel) (Nat.le_of_ble_eq_true rfl) ?_
  intro p e s m args below meth c ls Q A CF hr hlk hP hE hD hS hQ hl
  have hx := CF.1
  have hb := CF.2.1
  have hl : lv_has ls 1 [(0, .ref q0)] := hl
  refine lv_aload_n hx hb dX1_clear_0 rfl (lv_at hl 0 rfl) ?_
  refine r_get (C := RX1) (T := TX1) (N := 2) (v := .ref q1) CF hE hP 0 rfl rfl inG1 1 (by decide) tw_1_80 rfl rfl dX1_clear_1 ?_
  refine lv_iconst (v := 0) hx hb dX1_clear_4 (by decide) ?_
  refine mu_Vv (y := yX2_fill) (As := [.int 0]) (rest := []) (q0 := 1) (ws' := [(q0, .inr (1, [.ref t0, .ref q1])), (q1, .inr (2, [.ref q2])), (q2, .inl (cI, 15, .inl ((B_X2_fill_2 0 nw 15))))]) (ad := [q0, q1, q2]) CF (c_X2_fill l D cI cZ q1 q2 15 nw 0 (by omega)) lk_X1_35 hP hE hD hS [1, 2] rfl (by decide) (Nat.le_of_ble_eq_true rfl) rfl rfl rfl rfl rfl rfl hl.1 rfl (Nat.le_of_ble_eq_true rfl) ⟨Nat.le_of_ble_eq_true rfl, Nat.le_of_ble_eq_true rfl, rfl, rfl⟩ ⟨Nat.zero_le _, Nat.zero_le _⟩ dX1_clear_5 (fun H locs hP hD hS => ?_)
  exact mu_retv CF hQ hr hlk hP hS dX1_clear_8 rfl
theorem lk_X1_38 : mLkV RX1 38 yX2_copy cX2_copy 6 none 4 := ⟨⟨tw_2_225, tw_1_3, tw_2_135, ⟨by decide +kernel, by decide +kernel, by decide +kernel⟩⟩, tw_2_133, tw_2_134⟩
set_option maxRecDepth 100000 in
set_option maxHeartbeats 4000000 in
theorem c_X1_become (l : Launch) (D : va_G) (cI cZ : ClassId) (q0 t0 q1 q2 q3 t3 q4 q5 : Nat) (nw : Nat → Int32) (nv : Nat → Int32) : MU l D cI cZ yX1_become cX1_become 2 none (mR 2 47) [.ref q0, .ref q3] [(q0, .inr (1, [.ref t0, .ref q1])), (q1, .inr (2, [.ref q2])), (q2, .inl (cI, 15, .inl nw)), (q3, .inr (1, [.ref t3, .ref q4])), (q4, .inr (2, [.ref q5])), (q5, .inl (cI, 15, .inl nv))] [(q0, .inr (1, [.ref t0, .ref q1])), (q1, .inr (2, [.ref q2])), (q2, .inl (cI, 15, .inl ((B_X2_copy_3 15 15 nv 0 0 nw 15)))), (q3, .inr (1, [.ref t3, .ref q4])), (q4, .inr (2, [.ref q5])), (q5, .inl (cI, 15, .inl nv))] none := by
  refine MU.of (by decide +kernel) (Nat.le_of_ble_eq_true rfl) ?_
  intro p e s m args below meth c ls Q A CF hr hlk hP hE hD hS hQ hl
  have hx := CF.1
  have hb := CF.2.1
  have hl : lv_has ls 2 [(0, .ref q0), (1, .ref q3)] := hl
  refine lv_aload_n hx hb dX1_become_0 rfl (lv_at hl 0 rfl) ?_
  refine r_get (C := RX1) (T := TX1) (N := 2) (v := .ref q1) CF hE hP 0 rfl rfl inG1 1 (by decide) tw_1_80 rfl rfl dX1_become_1 ?_
  refine lv_iconst (v := 0) hx hb dX1_become_4 (by decide) ?_
  refine lv_aload_n hx hb dX1_become_5 rfl (lv_at hl 1 rfl) ?_
  refine r_get (C := RX1) (T := TX1) (N := 2) (v := .ref q4) CF hE hP 3 rfl rfl inG1 1 (by decide) tw_1_80 rfl rfl dX1_become_6 ?_
  refine lv_iconst (v := 0) hx hb dX1_become_9 (by decide) ?_
  refine lv_bipush (v := 15) hx hb dX1_become_10 (by decide) ?_
  refine mu_Vv (y := yX2_copy) (As := [.int 0, .ref q4, .int 0, .int 15]) (rest := []) (q0 := 1) (ws' := [(q0, .inr (1, [.ref t0, .ref q1])), (q1, .inr (2, [.ref q2])), (q2, .inl (cI, 15, .inl ((B_X2_copy_3 15 15 nv 0 0 nw 15)))), (q3, .inr (1, [.ref t3, .ref q4])), (q4, .inr (2, [.ref q5])), (q5, .inl (cI, 15, .inl nv))]) (ad := [q0, q1, q2, q3, q4, q5]) CF (c_X2_copy l D cI cZ q1 q2 q4 q5 15 15 nw nv 0 0 15 15 (nf_c 15) (by omega) (by omega) (by omega)) lk_X1_38 hP hE hD hS [1, 2, 4, 5] rfl (by decide) (Nat.le_of_ble_eq_true rfl) rfl rfl rfl rfl rfl rfl hl.1 rfl (Nat.le_of_ble_eq_true rfl) ⟨Nat.le_of_ble_eq_true rfl, Nat.le_of_ble_eq_true rfl, rfl, rfl⟩ ⟨Nat.zero_le _, Nat.zero_le _⟩ dX1_become_12 (fun H locs hP hD hS => ?_)
  exact mu_retv CF hQ hr hlk hP hS dX1_become_15 rfl
theorem lk_X1_42 : mLkV RX1 42 yX1_told cX1_told 2 (some .int) 1 := ⟨⟨tw_2_59, tw_1_6, tw_2_62, ⟨by decide +kernel, by decide +kernel, by decide +kernel⟩⟩, tw_2_60, tw_2_61⟩
theorem lk_X1_45 : mLkV RX1 45 yX5_closure cX5_closure 6 (some .int) 1 := ⟨⟨tw_2_63, tw_1_2, tw_2_66, ⟨by decide +kernel, by decide +kernel, by decide +kernel⟩⟩, tw_2_64, tw_2_65⟩
set_option maxRecDepth 100000 in
set_option maxHeartbeats 4000000 in
theorem c_X1_known (l : Launch) (D : va_G) (cI cZ : ClassId) (q0 t0 q1 q2 t1 t3 t5 t4 t6 : Nat) (nw : Nat → Int32) (nP : Nat) (nR : Nat) (nd : Nat → Int32) (gv : Nat → Int32) (a1 : Int32) (hR : nR ≤ 4) : RO l D cI cZ yX1_known cX1_known 2 (some .int) (mR 2 46) [.ref q0, .int a1] [(q0, .inr (1, [.ref t0, .ref q1])), (q1, .inr (2, [.ref q2])), (q2, .inl (cI, 15, .inl nw)), (t0, .inr (5, [.ref t1, .ref t3, .ref t5, .int (nI nP), .int (nI nR)])), (t3, .inr (2, [.ref t4])), (t4, .inl (cI, 4, .inl nd)), (t5, .inr (2, [.ref t6])), (t6, .inl (cI, 4, .inl gv))] (some (.int ((B_X5_closure_4 nR nd gv (f_X2_at 15 nw (0 + a1)) nR)))) := by
  refine RO.of (by decide +kernel) (Nat.le_of_ble_eq_true rfl) ?_
  intro p e s m args below meth c ls Q CF hr hlk hP hE hQ hl
  have hx := CF.1
  have hb := CF.2.1
  have hl : lv_has ls 2 [(0, .ref q0), (1, .int a1)] := hl
  refine lv_aload_n hx hb dX1_known_0 rfl (lv_at hl 0 rfl) ?_
  refine r_get (C := RX1) (T := TX1) (N := 2) (v := .ref t0) CF hE hP 0 rfl rfl inG1 0 (by decide) tw_1_79 rfl rfl dX1_known_1 ?_
  refine lv_aload_n hx hb dX1_known_4 rfl (lv_at hl 0 rfl) ?_
  refine lv_iload_n hx hb dX1_known_5 rfl (lv_at hl 1 rfl) ?_
  refine ro_V (y := yX1_told) (As := [.int a1]) (rest := [.ref t0]) (q0 := 0) CF (c_X1_told l D cI cZ q0 t0 q1 q2 nw a1) lk_X1_42 hP hE [0, 1, 2] rfl rfl rfl rfl hl.1 rfl (Nat.le_of_ble_eq_true rfl) ⟨Nat.le_of_ble_eq_true rfl, Nat.le_of_ble_eq_true rfl, rfl, rfl⟩ ⟨Nat.zero_le _, Nat.zero_le _⟩ dX1_known_6 ?_
  refine ro_V (y := yX5_closure) (As := [.int (f_X2_at 15 nw (0 + a1))]) (rest := []) (q0 := 3) CF (c_X5_closure l D cI cZ t0 t1 t3 t5 t4 t6 nP nR nd gv (f_X2_at 15 nw (0 + a1)) (by omega)) lk_X1_45 hP hE [3, 4, 5, 6, 7] rfl rfl rfl rfl hl.1 rfl (Nat.le_of_ble_eq_true rfl) ⟨Nat.le_of_ble_eq_true rfl, Nat.le_of_ble_eq_true rfl, rfl, rfl⟩ ⟨Nat.zero_le _, Nat.zero_le _⟩ dX1_known_9 ?_
  exact ro_ret CF hQ hr hlk rfl dX1_known_12 rfl
theorem lk_X1_50 : mLkV RX1 50 yX5_people cX5_people 1 (some .int) 0 := ⟨⟨tw_2_45, tw_1_2, tw_2_32, ⟨by decide +kernel, by decide +kernel, by decide +kernel⟩⟩, tw_2_30, tw_2_31⟩
theorem lk_X1_54 : mLkV RX1 54 yX1_known cX1_known 2 (some .int) 1 := ⟨⟨tw_2_55, tw_1_6, tw_2_58, ⟨by decide +kernel, by decide +kernel, by decide +kernel⟩⟩, tw_2_56, tw_2_57⟩
def S_X1_knownBySomebody_4 (nw : Nat → Int32) (nR : Nat) (nd : Nat → Int32) (gv : Nat → Int32) (k4 : Nat) (x4_0 : Int32) : (Int32) :=
  (x4_0 ||| ((B_X5_closure_4 nR nd gv (f_X2_at 15 nw (0 + (nI k4))) nR)))
def B_X1_knownBySomebody_4 (nw : Nat → Int32) (nR : Nat) (nd : Nat → Int32) (gv : Nat → Int32) (i0 : Int32) : Nat → (Int32)
  | 0 => i0
  | k + 1 => S_X1_knownBySomebody_4 nw nR nd gv k (B_X1_knownBySomebody_4 nw nR nd gv i0 k)
set_option maxRecDepth 100000 in
set_option maxHeartbeats 4000000 in
theorem c_X1_knownBySomebody (l : Launch) (D : va_G) (cI cZ : ClassId) (q0 t0 q1 q2 t1 t3 t5 t4 t6 : Nat) (nw : Nat → Int32) (nP : Nat) (nR : Nat) (nd : Nat → Int32) (gv : Nat → Int32) (hP5 : nP ≤ 5) (hR : nR ≤ 4) : RO l D cI cZ yX1_knownBySomebody cX1_knownBySomebody 3 (some .int) (mR 3 67) [.ref q0] [(q0, .inr (1, [.ref t0, .ref q1])), (q1, .inr (2, [.ref q2])), (q2, .inl (cI, 15, .inl nw)), (t0, .inr (5, [.ref t1, .ref t3, .ref t5, .int (nI nP), .int (nI nR)])), (t3, .inr (2, [.ref t4])), (t4, .inl (cI, 4, .inl nd)), (t5, .inr (2, [.ref t6])), (t6, .inl (cI, 4, .inl gv))] (some (.int ((B_X1_knownBySomebody_4 nw nR nd gv 0 nP)))) := by
  refine RO.of (by decide +kernel) (Nat.le_of_ble_eq_true rfl) ?_
  intro p e s m args below meth c ls Q CF hr hlk hP hE hQ hl
  have hx := CF.1
  have hb := CF.2.1
  have hl : lv_has ls 3 [(0, .ref q0)] := hl
  refine lv_iconst (v := 0) hx hb dX1_knownBySomebody_0 (by decide) ?_
  refine lv_istore_n (lv' := [(1, .int 0), (0, .ref q0)]) hx hb dX1_knownBySomebody_1 rfl hl (by decide) rfl (fun ls hl => ?_)
  refine lv_iconst (v := 0) hx hb dX1_knownBySomebody_2 (by decide) ?_
  refine lv_istore_n (lv' := [(2, .int 0), (1, .int 0), (0, .ref q0)]) hx hb dX1_knownBySomebody_3 rfl hl (by decide) rfl (fun ls hl => ?_)
  have LOOP_4 : ∀ (n_4 k4 : Nat) (x4_0 : Int32) (ls : Array Slot), k4 ≤ nP → nP - k4 < n_4 → (B_X1_knownBySomebody_4 nw nR nd gv 0 k4) = x4_0 → lv_has ls 3 [(2, .int (nI k4)), (1, .int x4_0), (0, .ref q0)] → W p l e (mR 3 67) s m args below meth c s.heap [] 0 0 Q (F0 m 4 ls []) := by
    intro n_4
    induction n_4 with
    | zero => intro k4 x4_0 ls hk_4 hn_4 hB_4 hl; exact absurd hn_4 (Nat.not_lt_zero _)
    | succ n_4 ih_4 =>
      intro k4 x4_0 ls hk_4 hn_4 hB_4 hl
      refine lv_iload_n hx hb dX1_knownBySomebody_4 rfl (lv_at hl 0 rfl) ?_
      refine lv_aload_n hx hb dX1_knownBySomebody_5 rfl (lv_at hl 2 rfl) ?_
      refine r_get (C := RX1) (T := TX1) (N := 2) (v := .ref t0) CF hE hP 0 rfl rfl inG1 0 (by decide) tw_1_79 rfl rfl dX1_knownBySomebody_6 ?_
      refine ro_V (y := yX5_people) (As := []) (rest := [.int (nI k4)]) (q0 := 3) CF (c_X5_people l D cI cZ t0 t1 t3 t5 nP nR) lk_X1_50 hP hE [3] rfl rfl rfl rfl hl.1 rfl (Nat.le_of_ble_eq_true rfl) ⟨Nat.le_of_ble_eq_true rfl, Nat.le_of_ble_eq_true rfl, rfl, rfl⟩ ⟨Nat.zero_le _, Nat.zero_le _⟩ dX1_knownBySomebody_9 ?_
      refine lv_icmp_ge (tgt := 29) hx hb dX1_knownBySomebody_12 (by decide) (fun c_1 => ?_) (fun c_1 => ?_)
      · have o_1 : nP ≤ k4 := (cle (rfl : nI nP = nI nP) (rfl : nI k4 = nI k4) (by omega) (by omega)).mp c_1
        have hkN : nP = k4 := by omega
        subst hkN
        subst hB_4
        refine lv_iload_n hx hb dX1_knownBySomebody_29 rfl (lv_at hl 1 rfl) ?_
        exact ro_ret CF hQ hr hlk rfl dX1_knownBySomebody_30 rfl
      · have o_1 : ¬ nP ≤ k4 := fun h => c_1 ((cle (rfl : nI nP = nI nP) (rfl : nI k4 = nI k4) (by omega) (by omega)).mpr h)
        refine lv_iload_n hx hb dX1_knownBySomebody_15 rfl (lv_at hl 1 rfl) ?_
        refine lv_aload_n hx hb dX1_knownBySomebody_16 rfl (lv_at hl 2 rfl) ?_
        refine lv_iload_n hx hb dX1_knownBySomebody_17 rfl (lv_at hl 0 rfl) ?_
        refine ro_V (y := yX1_known) (As := [.int (nI k4)]) (rest := [.int x4_0]) (q0 := 0) CF (c_X1_known l D cI cZ q0 t0 q1 q2 t1 t3 t5 t4 t6 nw nP nR nd gv (nI k4) (by omega)) lk_X1_54 hP hE [0, 1, 2, 3, 4, 5, 6, 7] rfl rfl rfl rfl hl.1 rfl (Nat.le_of_ble_eq_true rfl) ⟨Nat.le_of_ble_eq_true rfl, Nat.le_of_ble_eq_true rfl, rfl, rfl⟩ ⟨Nat.zero_le _, Nat.zero_le _⟩ dX1_knownBySomebody_18 ?_
        refine lv_ior hx hb dX1_knownBySomebody_21 ?_
        refine lv_istore_n (lv' := [(1, .int (x4_0 ||| ((B_X5_closure_4 nR nd gv (f_X2_at 15 nw (0 + (nI k4))) nR)))), (2, .int (nI k4)), (0, .ref q0)]) hx hb dX1_knownBySomebody_22 rfl hl (by decide) rfl (fun ls hl => ?_)
        refine lv_iinc (v := (nI (k4 + 1))) (lv' := [(2, .int (nI (k4 + 1))), (1, .int (x4_0 ||| ((B_X5_closure_4 nR nd gv (f_X2_at 15 nw (0 + (nI k4))) nR)))), (0, .ref q0)]) hx hb dX1_knownBySomebody_23 hl (k := 1) rfl (nf_inc 1 (rfl : nI k4 = nI k4)) (by decide) rfl (fun ls hl => ?_)
        refine lv_goto (tgt := 4) hx hb dX1_knownBySomebody_26 (by decide) ?_
        have hB2 : B_X1_knownBySomebody_4 nw nR nd gv 0 (k4 + 1) = (x4_0 ||| ((B_X5_closure_4 nR nd gv (f_X2_at 15 nw (0 + (nI k4))) nR))) := by
          rw [B_X1_knownBySomebody_4, hB_4]
          rw [S_X1_knownBySomebody_4]
        exact ih_4 (k4 + 1) (x4_0 ||| ((B_X5_closure_4 nR nd gv (f_X2_at 15 nw (0 + (nI k4))) nR))) _ (by omega) (by omega) hB2 (lv_sub hl [0, 1, 2] rfl)
  have e_k : 0 = nI (0) := (nf_c 0).trans (congrArg nI (by omega))
  rw [e_k] at hl
  exact LOOP_4 (nP - 0 + 1) 0 0 _ (Nat.zero_le _) (by omega) rfl (lv_sub hl [0, 1, 2] rfl)
def S_X1_allFines_4 (nw : Nat → Int32) (k4 : Nat) (x4_0 : Int32) : (Int32) :=
  (x4_0 + (f_X2_at 15 nw (10 + (nI k4))))
def B_X1_allFines_4 (nw : Nat → Int32) (i0 : Int32) : Nat → (Int32)
  | 0 => i0
  | k + 1 => S_X1_allFines_4 nw k (B_X1_allFines_4 nw i0 k)
set_option maxRecDepth 100000 in
set_option maxHeartbeats 4000000 in
theorem c_X1_allFines (l : Launch) (D : va_G) (cI cZ : ClassId) (q0 t0 q1 q2 t1 t3 t5 : Nat) (nw : Nat → Int32) (nP : Nat) (nR : Nat) (hP5 : nP ≤ 5) : RO l D cI cZ yX1_allFines cX1_allFines 3 (some .int) (mR 2 42) [.ref q0] [(q0, .inr (1, [.ref t0, .ref q1])), (q1, .inr (2, [.ref q2])), (q2, .inl (cI, 15, .inl nw)), (t0, .inr (5, [.ref t1, .ref t3, .ref t5, .int (nI nP), .int (nI nR)]))] (some (.int ((B_X1_allFines_4 nw 0 nP)))) := by
  refine RO.of (by decide +kernel) (Nat.le_of_ble_eq_true rfl) ?_
  intro p e s m args below meth c ls Q CF hr hlk hP hE hQ hl
  have hx := CF.1
  have hb := CF.2.1
  have hl : lv_has ls 3 [(0, .ref q0)] := hl
  refine lv_iconst (v := 0) hx hb dX1_allFines_0 (by decide) ?_
  refine lv_istore_n (lv' := [(1, .int 0), (0, .ref q0)]) hx hb dX1_allFines_1 rfl hl (by decide) rfl (fun ls hl => ?_)
  refine lv_iconst (v := 0) hx hb dX1_allFines_2 (by decide) ?_
  refine lv_istore_n (lv' := [(2, .int 0), (1, .int 0), (0, .ref q0)]) hx hb dX1_allFines_3 rfl hl (by decide) rfl (fun ls hl => ?_)
  have LOOP_4 : ∀ (n_4 k4 : Nat) (x4_0 : Int32) (ls : Array Slot), k4 ≤ nP → nP - k4 < n_4 → (B_X1_allFines_4 nw 0 k4) = x4_0 → lv_has ls 3 [(2, .int (nI k4)), (1, .int x4_0), (0, .ref q0)] → W p l e (mR 2 42) s m args below meth c s.heap [] 0 0 Q (F0 m 4 ls []) := by
    intro n_4
    induction n_4 with
    | zero => intro k4 x4_0 ls hk_4 hn_4 hB_4 hl; exact absurd hn_4 (Nat.not_lt_zero _)
    | succ n_4 ih_4 =>
      intro k4 x4_0 ls hk_4 hn_4 hB_4 hl
      refine lv_iload_n hx hb dX1_allFines_4 rfl (lv_at hl 0 rfl) ?_
      refine lv_aload_n hx hb dX1_allFines_5 rfl (lv_at hl 2 rfl) ?_
      refine r_get (C := RX1) (T := TX1) (N := 2) (v := .ref t0) CF hE hP 0 rfl rfl inG1 0 (by decide) tw_1_79 rfl rfl dX1_allFines_6 ?_
      refine ro_V (y := yX5_people) (As := []) (rest := [.int (nI k4)]) (q0 := 3) CF (c_X5_people l D cI cZ t0 t1 t3 t5 nP nR) lk_X1_50 hP hE [3] rfl rfl rfl rfl hl.1 rfl (Nat.le_of_ble_eq_true rfl) ⟨Nat.le_of_ble_eq_true rfl, Nat.le_of_ble_eq_true rfl, rfl, rfl⟩ ⟨Nat.zero_le _, Nat.zero_le _⟩ dX1_allFines_9 ?_
      refine lv_icmp_ge (tgt := 29) hx hb dX1_allFines_12 (by decide) (fun c_1 => ?_) (fun c_1 => ?_)
      · have o_1 : nP ≤ k4 := (cle (rfl : nI nP = nI nP) (rfl : nI k4 = nI k4) (by omega) (by omega)).mp c_1
        have hkN : nP = k4 := by omega
        subst hkN
        subst hB_4
        refine lv_iload_n hx hb dX1_allFines_29 rfl (lv_at hl 1 rfl) ?_
        exact ro_ret CF hQ hr hlk rfl dX1_allFines_30 rfl
      · have o_1 : ¬ nP ≤ k4 := fun h => c_1 ((cle (rfl : nI nP = nI nP) (rfl : nI k4 = nI k4) (by omega) (by omega)).mpr h)
        refine lv_iload_n hx hb dX1_allFines_15 rfl (lv_at hl 1 rfl) ?_
        refine lv_aload_n hx hb dX1_allFines_16 rfl (lv_at hl 2 rfl) ?_
        refine lv_iload_n hx hb dX1_allFines_17 rfl (lv_at hl 0 rfl) ?_
        refine ro_V (y := yX1_fines) (As := [.int (nI k4)]) (rest := [.int x4_0]) (q0 := 0) CF (c_X1_fines l D cI cZ q0 t0 q1 q2 nw (nI k4)) lk_X1_32 hP hE [0, 1, 2] rfl rfl rfl rfl hl.1 rfl (Nat.le_of_ble_eq_true rfl) ⟨Nat.le_of_ble_eq_true rfl, Nat.le_of_ble_eq_true rfl, rfl, rfl⟩ ⟨Nat.zero_le _, Nat.zero_le _⟩ dX1_allFines_18 ?_
        refine lv_iadd hx hb dX1_allFines_21 ?_
        refine lv_istore_n (lv' := [(1, .int (x4_0 + (f_X2_at 15 nw (10 + (nI k4))))), (2, .int (nI k4)), (0, .ref q0)]) hx hb dX1_allFines_22 rfl hl (by decide) rfl (fun ls hl => ?_)
        refine lv_iinc (v := (nI (k4 + 1))) (lv' := [(2, .int (nI (k4 + 1))), (1, .int (x4_0 + (f_X2_at 15 nw (10 + (nI k4))))), (0, .ref q0)]) hx hb dX1_allFines_23 hl (k := 1) rfl (nf_inc 1 (rfl : nI k4 = nI k4)) (by decide) rfl (fun ls hl => ?_)
        refine lv_goto (tgt := 4) hx hb dX1_allFines_26 (by decide) ?_
        have hB2 : B_X1_allFines_4 nw 0 (k4 + 1) = (x4_0 + (f_X2_at 15 nw (10 + (nI k4)))) := by
          rw [B_X1_allFines_4, hB_4]
          rw [S_X1_allFines_4]
        exact ih_4 (k4 + 1) (x4_0 + (f_X2_at 15 nw (10 + (nI k4)))) _ (by omega) (by omega) hB2 (lv_sub hl [0, 1, 2] rfl)
  have e_k : 0 = nI (0) := (nf_c 0).trans (congrArg nI (by omega))
  rw [e_k] at hl
  exact LOOP_4 (nP - 0 + 1) 0 0 _ (Nat.zero_le _) (by omega) rfl (lv_sub hl [0, 1, 2] rfl)
theorem ln_X1_57 : mLkN RX1 57 yX7_contains RX7 cX7_contains 2 (some .boolean) 2 := ⟨by decide +kernel, tw_1_1, tw_2_155, ⟨by decide +kernel, by decide +kernel, by decide +kernel⟩, tw_2_154⟩
def S_X1_knowers_4 (nw : Nat → Int32) (nR : Nat) (nd : Nat → Int32) (gv : Nat → Int32) (a1 : Int32) (k4 : Nat) (x4_0 : Int32) : (Int32) :=
  (if (f_X7_contains ((B_X5_closure_4 nR nd gv (f_X2_at 15 nw (0 + (nI k4))) nR)) a1) = 0 then x4_0 else (x4_0 ||| ((1 : Int32) <<< (((nI k4) : Int32) &&& 31))))
def B_X1_knowers_4 (nw : Nat → Int32) (nR : Nat) (nd : Nat → Int32) (gv : Nat → Int32) (a1 : Int32) (i0 : Int32) : Nat → (Int32)
  | 0 => i0
  | k + 1 => S_X1_knowers_4 nw nR nd gv a1 k (B_X1_knowers_4 nw nR nd gv a1 i0 k)
set_option maxRecDepth 100000 in
set_option maxHeartbeats 4000000 in
theorem c_X1_knowers (l : Launch) (D : va_G) (cI cZ : ClassId) (q0 t0 q1 q2 t1 t3 t5 t4 t6 : Nat) (nw : Nat → Int32) (nP : Nat) (nR : Nat) (nd : Nat → Int32) (gv : Nat → Int32) (a1 : Int32) (hP5 : nP ≤ 5) (hR : nR ≤ 4) : RO l D cI cZ yX1_knowers cX1_knowers 4 (some .int) (mR 3 67) [.ref q0, .int a1] [(q0, .inr (1, [.ref t0, .ref q1])), (q1, .inr (2, [.ref q2])), (q2, .inl (cI, 15, .inl nw)), (t0, .inr (5, [.ref t1, .ref t3, .ref t5, .int (nI nP), .int (nI nR)])), (t3, .inr (2, [.ref t4])), (t4, .inl (cI, 4, .inl nd)), (t5, .inr (2, [.ref t6])), (t6, .inl (cI, 4, .inl gv))] (some (.int ((B_X1_knowers_4 nw nR nd gv a1 0 nP)))) := by
  refine RO.of (by decide +kernel) (Nat.le_of_ble_eq_true rfl) ?_
  intro p e s m args below meth c ls Q CF hr hlk hP hE hQ hl
  have hx := CF.1
  have hb := CF.2.1
  have hl : lv_has ls 4 [(0, .ref q0), (1, .int a1)] := hl
  refine lv_iconst (v := 0) hx hb dX1_knowers_0 (by decide) ?_
  refine lv_istore_n (lv' := [(2, .int 0), (0, .ref q0), (1, .int a1)]) hx hb dX1_knowers_1 rfl hl (by decide) rfl (fun ls hl => ?_)
  refine lv_iconst (v := 0) hx hb dX1_knowers_2 (by decide) ?_
  refine lv_istore_n (lv' := [(3, .int 0), (2, .int 0), (0, .ref q0), (1, .int a1)]) hx hb dX1_knowers_3 rfl hl (by decide) rfl (fun ls hl => ?_)
  have LOOP_4 : ∀ (n_4 k4 : Nat) (x4_0 : Int32) (ls : Array Slot), k4 ≤ nP → nP - k4 < n_4 → (B_X1_knowers_4 nw nR nd gv a1 0 k4) = x4_0 → lv_has ls 4 [(3, .int (nI k4)), (2, .int x4_0), (0, .ref q0), (1, .int a1)] → W p l e (mR 3 67) s m args below meth c s.heap [] 0 0 Q (F0 m 4 ls []) := by
    intro n_4
    induction n_4 with
    | zero => intro k4 x4_0 ls hk_4 hn_4 hB_4 hl; exact absurd hn_4 (Nat.not_lt_zero _)
    | succ n_4 ih_4 =>
      intro k4 x4_0 ls hk_4 hn_4 hB_4 hl
      refine lv_iload_n hx hb dX1_knowers_4 rfl (lv_at hl 0 rfl) ?_
      refine lv_aload_n hx hb dX1_knowers_5 rfl (lv_at hl 2 rfl) ?_
      refine r_get (C := RX1) (T := TX1) (N := 2) (v := .ref t0) CF hE hP 0 rfl rfl inG1 0 (by decide) tw_1_79 rfl rfl dX1_knowers_6 ?_
      refine ro_V (y := yX5_people) (As := []) (rest := [.int (nI k4)]) (q0 := 3) CF (c_X5_people l D cI cZ t0 t1 t3 t5 nP nR) lk_X1_50 hP hE [3] rfl rfl rfl rfl hl.1 rfl (Nat.le_of_ble_eq_true rfl) ⟨Nat.le_of_ble_eq_true rfl, Nat.le_of_ble_eq_true rfl, rfl, rfl⟩ ⟨Nat.zero_le _, Nat.zero_le _⟩ dX1_knowers_9 ?_
      refine lv_icmp_ge (tgt := 39) hx hb dX1_knowers_12 (by decide) (fun c_1 => ?_) (fun c_1 => ?_)
      · have o_1 : nP ≤ k4 := (cle (rfl : nI nP = nI nP) (rfl : nI k4 = nI k4) (by omega) (by omega)).mp c_1
        have hkN : nP = k4 := by omega
        subst hkN
        subst hB_4
        refine lv_iload_n hx hb dX1_knowers_39 rfl (lv_at hl 1 rfl) ?_
        exact ro_ret CF hQ hr hlk rfl dX1_knowers_40 rfl
      · have o_1 : ¬ nP ≤ k4 := fun h => c_1 ((cle (rfl : nI nP = nI nP) (rfl : nI k4 = nI k4) (by omega) (by omega)).mpr h)
        refine lv_aload_n hx hb dX1_knowers_15 rfl (lv_at hl 2 rfl) ?_
        refine lv_iload_n hx hb dX1_knowers_16 rfl (lv_at hl 0 rfl) ?_
        refine ro_V (y := yX1_known) (As := [.int (nI k4)]) (rest := []) (q0 := 0) CF (c_X1_known l D cI cZ q0 t0 q1 q2 t1 t3 t5 t4 t6 nw nP nR nd gv (nI k4) (by omega)) lk_X1_54 hP hE [0, 1, 2, 3, 4, 5, 6, 7] rfl rfl rfl rfl hl.1 rfl (Nat.le_of_ble_eq_true rfl) ⟨Nat.le_of_ble_eq_true rfl, Nat.le_of_ble_eq_true rfl, rfl, rfl⟩ ⟨Nat.zero_le _, Nat.zero_le _⟩ dX1_knowers_17 ?_
        refine lv_iload_n hx hb dX1_knowers_20 rfl (lv_at hl 3 rfl) ?_
        refine ro_N (y := yX7_contains) (As := [.int ((B_X5_closure_4 nR nd gv (f_X2_at 15 nw (0 + (nI k4))) nR)), .int a1]) (rest := []) CF (c_X7_contains l D cI cZ ((B_X5_closure_4 nR nd gv (f_X2_at 15 nw (0 + (nI k4))) nR)) a1) ln_X1_57 hE rfl hl.1 rfl (Nat.le_of_ble_eq_true rfl) ⟨Nat.le_of_ble_eq_true rfl, Nat.le_of_ble_eq_true rfl, rfl, rfl⟩ ⟨Nat.zero_le _, Nat.zero_le _⟩ dX1_knowers_21 ?_
        refine lv_if_eq (tgt := 33) hx hb dX1_knowers_24 (by decide) (fun c_2 => ?_) (fun c_2 => ?_)
        · refine lv_iinc (v := (nI (k4 + 1))) (lv' := [(3, .int (nI (k4 + 1))), (2, .int x4_0), (0, .ref q0), (1, .int a1)]) hx hb dX1_knowers_33 hl (k := 0) rfl (nf_inc 1 (rfl : nI k4 = nI k4)) (by decide) rfl (fun ls hl => ?_)
          refine lv_goto (tgt := 4) hx hb dX1_knowers_36 (by decide) ?_
          have hB2 : B_X1_knowers_4 nw nR nd gv a1 0 (k4 + 1) = x4_0 := by
            rw [B_X1_knowers_4, hB_4]
            rw [S_X1_knowers_4, if_pos c_2]
          exact ih_4 (k4 + 1) x4_0 _ (by omega) (by omega) hB2 (lv_sub hl [0, 1, 2, 3] rfl)
        · refine lv_iload_n hx hb dX1_knowers_27 rfl (lv_at hl 1 rfl) ?_
          refine lv_iconst (v := 1) hx hb dX1_knowers_28 (by decide) ?_
          refine lv_iload_n hx hb dX1_knowers_29 rfl (lv_at hl 0 rfl) ?_
          refine lv_ishl hx hb dX1_knowers_30 ?_
          refine lv_ior hx hb dX1_knowers_31 ?_
          refine lv_istore_n (lv' := [(2, .int (x4_0 ||| ((1 : Int32) <<< (((nI k4) : Int32) &&& 31)))), (3, .int (nI k4)), (0, .ref q0), (1, .int a1)]) hx hb dX1_knowers_32 rfl hl (by decide) rfl (fun ls hl => ?_)
          refine lv_iinc (v := (nI (k4 + 1))) (lv' := [(3, .int (nI (k4 + 1))), (2, .int (x4_0 ||| ((1 : Int32) <<< (((nI k4) : Int32) &&& 31)))), (0, .ref q0), (1, .int a1)]) hx hb dX1_knowers_33 hl (k := 1) rfl (nf_inc 1 (rfl : nI k4 = nI k4)) (by decide) rfl (fun ls hl => ?_)
          refine lv_goto (tgt := 4) hx hb dX1_knowers_36 (by decide) ?_
          have hB2 : B_X1_knowers_4 nw nR nd gv a1 0 (k4 + 1) = (x4_0 ||| ((1 : Int32) <<< (((nI k4) : Int32) &&& 31))) := by
            rw [B_X1_knowers_4, hB_4]
            rw [S_X1_knowers_4, if_neg c_2]
          exact ih_4 (k4 + 1) (x4_0 ||| ((1 : Int32) <<< (((nI k4) : Int32) &&& 31))) _ (by omega) (by omega) hB2 (lv_sub hl [0, 1, 2, 3] rfl)
  have e_k : 0 = nI (0) := (nf_c 0).trans (congrArg nI (by omega))
  rw [e_k] at hl
  exact LOOP_4 (nP - 0 + 1) 0 0 _ (Nat.zero_le _) (by omega) rfl (lv_sub hl [0, 1, 2, 3] rfl)
theorem lk_X1_61 : mLkV RX1 61 yX1_seat cX1_seat 2 (some .int) 1 := ⟨⟨tw_2_103, tw_1_6, tw_2_93, ⟨by decide +kernel, by decide +kernel, by decide +kernel⟩⟩, tw_2_91, tw_2_92⟩
def f_X1_distance (nw : Nat → Int32) (nP : Nat) (a1 : Int32) (a2 : Int32) : Int32 :=
  (if ((nI nP) - (if 0 ≤ ((f_X2_at 15 nw (5 + a1)) - (f_X2_at 15 nw (5 + a2))) then ((f_X2_at 15 nw (5 + a1)) - (f_X2_at 15 nw (5 + a2))) else 0 - ((f_X2_at 15 nw (5 + a1)) - (f_X2_at 15 nw (5 + a2))))) < (if 0 ≤ ((f_X2_at 15 nw (5 + a1)) - (f_X2_at 15 nw (5 + a2))) then ((f_X2_at 15 nw (5 + a1)) - (f_X2_at 15 nw (5 + a2))) else 0 - ((f_X2_at 15 nw (5 + a1)) - (f_X2_at 15 nw (5 + a2)))) then ((nI nP) - (if 0 ≤ ((f_X2_at 15 nw (5 + a1)) - (f_X2_at 15 nw (5 + a2))) then ((f_X2_at 15 nw (5 + a1)) - (f_X2_at 15 nw (5 + a2))) else 0 - ((f_X2_at 15 nw (5 + a1)) - (f_X2_at 15 nw (5 + a2))))) else (if 0 ≤ ((f_X2_at 15 nw (5 + a1)) - (f_X2_at 15 nw (5 + a2))) then ((f_X2_at 15 nw (5 + a1)) - (f_X2_at 15 nw (5 + a2))) else 0 - ((f_X2_at 15 nw (5 + a1)) - (f_X2_at 15 nw (5 + a2)))))
set_option maxRecDepth 100000 in
set_option maxHeartbeats 4000000 in
theorem c_X1_distance (l : Launch) (D : va_G) (cI cZ : ClassId) (q0 t0 q1 q2 t1 t3 t5 : Nat) (nw : Nat → Int32) (nP : Nat) (nR : Nat) (a1 : Int32) (a2 : Int32) : RO l D cI cZ yX1_distance cX1_distance 4 (some .int) (mR 2 42) [.ref q0, .int a1, .int a2] [(q0, .inr (1, [.ref t0, .ref q1])), (q1, .inr (2, [.ref q2])), (q2, .inl (cI, 15, .inl nw)), (t0, .inr (5, [.ref t1, .ref t3, .ref t5, .int (nI nP), .int (nI nR)]))] (some (.int (f_X1_distance nw nP a1 a2))) := by
  refine RO.of (by decide +kernel) (Nat.le_of_ble_eq_true rfl) ?_
  intro p e s m args below meth c ls Q CF hr hlk hP hE hQ hl
  have hx := CF.1
  have hb := CF.2.1
  have hl : lv_has ls 4 [(0, .ref q0), (1, .int a1), (2, .int a2)] := hl
  refine lv_aload_n hx hb dX1_distance_0 rfl (lv_at hl 0 rfl) ?_
  refine lv_iload_n hx hb dX1_distance_1 rfl (lv_at hl 1 rfl) ?_
  refine ro_V (y := yX1_seat) (As := [.int a1]) (rest := []) (q0 := 0) CF (c_X1_seat l D cI cZ q0 t0 q1 q2 nw a1) lk_X1_61 hP hE [0, 1, 2] rfl rfl rfl rfl hl.1 rfl (Nat.le_of_ble_eq_true rfl) ⟨Nat.le_of_ble_eq_true rfl, Nat.le_of_ble_eq_true rfl, rfl, rfl⟩ ⟨Nat.zero_le _, Nat.zero_le _⟩ dX1_distance_2 ?_
  refine lv_aload_n hx hb dX1_distance_5 rfl (lv_at hl 0 rfl) ?_
  refine lv_iload_n hx hb dX1_distance_6 rfl (lv_at hl 2 rfl) ?_
  refine ro_V (y := yX1_seat) (As := [.int a2]) (rest := [.int (f_X2_at 15 nw (5 + a1))]) (q0 := 0) CF (c_X1_seat l D cI cZ q0 t0 q1 q2 nw a2) lk_X1_61 hP hE [0, 1, 2] rfl rfl rfl rfl hl.1 rfl (Nat.le_of_ble_eq_true rfl) ⟨Nat.le_of_ble_eq_true rfl, Nat.le_of_ble_eq_true rfl, rfl, rfl⟩ ⟨Nat.zero_le _, Nat.zero_le _⟩ dX1_distance_7 ?_
  refine lv_isub hx hb dX1_distance_10 ?_
  refine r_mabs (rest := []) CF hl.1 tw_2_104 ⟨Nat.le_of_ble_eq_true rfl, Nat.le_of_ble_eq_true rfl, Nat.zero_le _, Nat.zero_le _⟩ dX1_distance_11 ⟨tw_2_105, tw_1_4, tw_2_106⟩ ?_
  refine lv_istore_n (lv' := [(3, .int (if 0 ≤ ((f_X2_at 15 nw (5 + a1)) - (f_X2_at 15 nw (5 + a2))) then ((f_X2_at 15 nw (5 + a1)) - (f_X2_at 15 nw (5 + a2))) else 0 - ((f_X2_at 15 nw (5 + a1)) - (f_X2_at 15 nw (5 + a2))))), (0, .ref q0), (1, .int a1), (2, .int a2)]) hx hb dX1_distance_14 rfl hl (by decide) rfl (fun ls hl => ?_)
  refine lv_iload_n hx hb dX1_distance_15 rfl (lv_at hl 0 rfl) ?_
  refine lv_aload_n hx hb dX1_distance_16 rfl (lv_at hl 1 rfl) ?_
  refine r_get (C := RX1) (T := TX1) (N := 2) (v := .ref t0) CF hE hP 0 rfl rfl inG1 0 (by decide) tw_1_79 rfl rfl dX1_distance_17 ?_
  refine ro_V (y := yX5_people) (As := []) (rest := [.int (if 0 ≤ ((f_X2_at 15 nw (5 + a1)) - (f_X2_at 15 nw (5 + a2))) then ((f_X2_at 15 nw (5 + a1)) - (f_X2_at 15 nw (5 + a2))) else 0 - ((f_X2_at 15 nw (5 + a1)) - (f_X2_at 15 nw (5 + a2))))]) (q0 := 3) CF (c_X5_people l D cI cZ t0 t1 t3 t5 nP nR) lk_X1_50 hP hE [3] rfl rfl rfl rfl hl.1 rfl (Nat.le_of_ble_eq_true rfl) ⟨Nat.le_of_ble_eq_true rfl, Nat.le_of_ble_eq_true rfl, rfl, rfl⟩ ⟨Nat.zero_le _, Nat.zero_le _⟩ dX1_distance_20 ?_
  refine lv_iload_n hx hb dX1_distance_23 rfl (lv_at hl 0 rfl) ?_
  refine lv_isub hx hb dX1_distance_24 ?_
  refine r_mmin (rest := []) CF hl.1 tw_2_107 ⟨Nat.le_of_ble_eq_true rfl, Nat.le_of_ble_eq_true rfl, Nat.zero_le _, Nat.zero_le _⟩ dX1_distance_25 ⟨tw_2_108, tw_1_4, tw_2_109⟩ ?_
  exact ro_ret CF hQ hr hlk rfl dX1_distance_28 (by rw [f_X1_distance])
theorem lk_X1_73 : mLkV RX1 73 yX5_kind cX5_kind 2 (some .int) 1 := ⟨⟨tw_2_147, tw_1_2, tw_2_87, ⟨by decide +kernel, by decide +kernel, by decide +kernel⟩⟩, tw_2_85, tw_2_86⟩
theorem lk_X1_76 : mLkV RX1 76 yX1_distance cX1_distance 4 (some .int) 2 := ⟨⟨tw_2_148, tw_1_6, tw_2_102, ⟨by decide +kernel, by decide +kernel, by decide +kernel⟩⟩, tw_2_100, tw_2_101⟩
def S_X1_ears_5 (nw : Nat → Int32) (nP : Nat) (kd : Nat → Int32) (a1 : Int32) (a2 : Int32) (k5 : Nat) (x5_0 : Int32) : (Int32) :=
  (if (f_X2_at 5 kd (nI k5)) = 1 then (if (nI k5) = a1 then x5_0 else (if 1 < (f_X1_distance nw nP (nI k5) a1) then x5_0 else (x5_0 ||| ((1 : Int32) <<< (((nI k5) : Int32) &&& 31))))) else (if (nI k5) = a1 then x5_0 else (if a2 < (f_X1_distance nw nP (nI k5) a1) then x5_0 else (x5_0 ||| ((1 : Int32) <<< (((nI k5) : Int32) &&& 31))))))
def B_X1_ears_5 (nw : Nat → Int32) (nP : Nat) (kd : Nat → Int32) (a1 : Int32) (a2 : Int32) (i0 : Int32) : Nat → (Int32)
  | 0 => i0
  | k + 1 => S_X1_ears_5 nw nP kd a1 a2 k (B_X1_ears_5 nw nP kd a1 a2 i0 k)
set_option maxRecDepth 100000 in
set_option maxHeartbeats 4000000 in
theorem c_X1_ears (l : Launch) (D : va_G) (cI cZ : ClassId) (q0 t0 q1 q2 t1 t3 t5 t2 : Nat) (nw : Nat → Int32) (nP : Nat) (nR : Nat) (kd : Nat → Int32) (a1 : Int32) (a2 : Int32) (hP5 : nP ≤ 5) : RO l D cI cZ yX1_ears cX1_ears 6 (some .int) (mR 3 65) [.ref q0, .int a1, .int a2] [(q0, .inr (1, [.ref t0, .ref q1])), (q1, .inr (2, [.ref q2])), (q2, .inl (cI, 15, .inl nw)), (t0, .inr (5, [.ref t1, .ref t3, .ref t5, .int (nI nP), .int (nI nR)])), (t1, .inr (2, [.ref t2])), (t2, .inl (cI, 5, .inl kd))] (some (.int ((B_X1_ears_5 nw nP kd a1 a2 0 nP)))) := by
  refine RO.of (by decide +kernel) (Nat.le_of_ble_eq_true rfl) ?_
  intro p e s m args below meth c ls Q CF hr hlk hP hE hQ hl
  have hx := CF.1
  have hb := CF.2.1
  have hl : lv_has ls 6 [(0, .ref q0), (1, .int a1), (2, .int a2)] := hl
  refine lv_iconst (v := 0) hx hb dX1_ears_0 (by decide) ?_
  refine lv_istore_n (lv' := [(3, .int 0), (0, .ref q0), (1, .int a1), (2, .int a2)]) hx hb dX1_ears_1 rfl hl (by decide) rfl (fun ls hl => ?_)
  refine lv_iconst (v := 0) hx hb dX1_ears_2 (by decide) ?_
  refine lv_istore (lv' := [(4, .int 0), (3, .int 0), (0, .ref q0), (1, .int a1), (2, .int a2)]) hx hb dX1_ears_3 hl (by decide) rfl (fun ls hl => ?_)
  have LOOP_5 : ∀ (n_5 k5 : Nat) (x5_0 : Int32) (ls : Array Slot), k5 ≤ nP → nP - k5 < n_5 → (B_X1_ears_5 nw nP kd a1 a2 0 k5) = x5_0 → lv_has ls 6 [(4, .int (nI k5)), (3, .int x5_0), (0, .ref q0), (1, .int a1), (2, .int a2)] → W p l e (mR 3 65) s m args below meth c s.heap [] 0 0 Q (F0 m 5 ls []) := by
    intro n_5
    induction n_5 with
    | zero => intro k5 x5_0 ls hk_5 hn_5 hB_5 hl; exact absurd hn_5 (Nat.not_lt_zero _)
    | succ n_5 ih_5 =>
      intro k5 x5_0 ls hk_5 hn_5 hB_5 hl
      refine lv_iload hx hb dX1_ears_5 (lv_at hl 0 rfl) ?_
      refine lv_aload_n hx hb dX1_ears_7 rfl (lv_at hl 2 rfl) ?_
      refine r_get (C := RX1) (T := TX1) (N := 2) (v := .ref t0) CF hE hP 0 rfl rfl inG1 0 (by decide) tw_1_79 rfl rfl dX1_ears_8 ?_
      refine ro_V (y := yX5_people) (As := []) (rest := [.int (nI k5)]) (q0 := 3) CF (c_X5_people l D cI cZ t0 t1 t3 t5 nP nR) lk_X1_50 hP hE [3] rfl rfl rfl rfl hl.1 rfl (Nat.le_of_ble_eq_true rfl) ⟨Nat.le_of_ble_eq_true rfl, Nat.le_of_ble_eq_true rfl, rfl, rfl⟩ ⟨Nat.zero_le _, Nat.zero_le _⟩ dX1_ears_11 ?_
      refine lv_icmp_ge (tgt := 68) hx hb dX1_ears_14 (by decide) (fun c_1 => ?_) (fun c_1 => ?_)
      · have o_1 : nP ≤ k5 := (cle (rfl : nI nP = nI nP) (rfl : nI k5 = nI k5) (by omega) (by omega)).mp c_1
        have hkN : nP = k5 := by omega
        subst hkN
        subst hB_5
        refine lv_iload_n hx hb dX1_ears_68 rfl (lv_at hl 1 rfl) ?_
        exact ro_ret CF hQ hr hlk rfl dX1_ears_69 rfl
      · have o_1 : ¬ nP ≤ k5 := fun h => c_1 ((cle (rfl : nI nP = nI nP) (rfl : nI k5 = nI k5) (by omega) (by omega)).mpr h)
        refine lv_aload_n hx hb dX1_ears_17 rfl (lv_at hl 2 rfl) ?_
        refine r_get (C := RX1) (T := TX1) (N := 2) (v := .ref t0) CF hE hP 0 rfl rfl inG1 0 (by decide) tw_1_79 rfl rfl dX1_ears_18 ?_
        refine lv_iload hx hb dX1_ears_21 (lv_at hl 0 rfl) ?_
        refine ro_V (y := yX5_kind) (As := [.int (nI k5)]) (rest := []) (q0 := 3) CF (c_X5_kind l D cI cZ t0 t1 t3 t5 t2 nP nR kd (nI k5)) lk_X1_73 hP hE [3, 4, 5] rfl rfl rfl rfl hl.1 rfl (Nat.le_of_ble_eq_true rfl) ⟨Nat.le_of_ble_eq_true rfl, Nat.le_of_ble_eq_true rfl, rfl, rfl⟩ ⟨Nat.zero_le _, Nat.zero_le _⟩ dX1_ears_23 ?_
        refine lv_iconst (v := 1) hx hb dX1_ears_26 (by decide) ?_
        refine lv_icmp_ne (tgt := 34) hx hb dX1_ears_27 (by decide) (fun c_2 => ?_) (fun c_2 => ?_)
        · refine lv_iload_n hx hb dX1_ears_34 rfl (lv_at hl 4 rfl) ?_
          refine lv_istore (lv' := [(5, .int a2), (4, .int (nI k5)), (3, .int x5_0), (0, .ref q0), (1, .int a1), (2, .int a2)]) hx hb dX1_ears_35 hl (by decide) rfl (fun ls hl => ?_)
          refine lv_iload hx hb dX1_ears_37 (lv_at hl 1 rfl) ?_
          refine lv_iload_n hx hb dX1_ears_39 rfl (lv_at hl 4 rfl) ?_
          refine lv_icmp_eq (tgt := 62) hx hb dX1_ears_40 (by decide) (fun c_3 => ?_) (fun c_3 => ?_)
          · refine lv_iinc (v := (nI (k5 + 1))) (lv' := [(4, .int (nI (k5 + 1))), (5, .int a2), (3, .int x5_0), (0, .ref q0), (1, .int a1), (2, .int a2)]) hx hb dX1_ears_62 hl (k := 1) rfl (nf_inc 1 (rfl : nI k5 = nI k5)) (by decide) rfl (fun ls hl => ?_)
            refine lv_goto (tgt := 5) hx hb dX1_ears_65 (by decide) ?_
            have hB2 : B_X1_ears_5 nw nP kd a1 a2 0 (k5 + 1) = x5_0 := by
              rw [B_X1_ears_5, hB_5]
              rw [S_X1_ears_5, if_neg c_2, if_pos c_3]
            exact ih_5 (k5 + 1) x5_0 _ (by omega) (by omega) hB2 (lv_sub hl [0, 2, 3, 4, 5] rfl)
          · refine lv_aload_n hx hb dX1_ears_43 rfl (lv_at hl 3 rfl) ?_
            refine lv_iload hx hb dX1_ears_44 (lv_at hl 1 rfl) ?_
            refine lv_iload_n hx hb dX1_ears_46 rfl (lv_at hl 4 rfl) ?_
            refine ro_V (y := yX1_distance) (As := [.int (nI k5), .int a1]) (rest := []) (q0 := 0) CF (c_X1_distance l D cI cZ q0 t0 q1 q2 t1 t3 t5 nw nP nR (nI k5) a1) lk_X1_76 hP hE [0, 1, 2, 3] rfl rfl rfl rfl hl.1 rfl (Nat.le_of_ble_eq_true rfl) ⟨Nat.le_of_ble_eq_true rfl, Nat.le_of_ble_eq_true rfl, rfl, rfl⟩ ⟨Nat.zero_le _, Nat.zero_le _⟩ dX1_ears_47 ?_
            refine lv_iload hx hb dX1_ears_50 (lv_at hl 0 rfl) ?_
            refine lv_icmp_gt (tgt := 62) hx hb dX1_ears_52 (by decide) (fun c_4 => ?_) (fun c_4 => ?_)
            · refine lv_iinc (v := (nI (k5 + 1))) (lv' := [(4, .int (nI (k5 + 1))), (5, .int a2), (3, .int x5_0), (0, .ref q0), (1, .int a1), (2, .int a2)]) hx hb dX1_ears_62 hl (k := 1) rfl (nf_inc 1 (rfl : nI k5 = nI k5)) (by decide) rfl (fun ls hl => ?_)
              refine lv_goto (tgt := 5) hx hb dX1_ears_65 (by decide) ?_
              have hB2 : B_X1_ears_5 nw nP kd a1 a2 0 (k5 + 1) = x5_0 := by
                rw [B_X1_ears_5, hB_5]
                rw [S_X1_ears_5, if_neg c_2, if_neg c_3, if_pos c_4]
              exact ih_5 (k5 + 1) x5_0 _ (by omega) (by omega) hB2 (lv_sub hl [0, 2, 3, 4, 5] rfl)
            · refine lv_iload_n hx hb dX1_ears_55 rfl (lv_at hl 2 rfl) ?_
              refine lv_iconst (v := 1) hx hb dX1_ears_56 (by decide) ?_
              refine lv_iload hx hb dX1_ears_57 (lv_at hl 1 rfl) ?_
              refine lv_ishl hx hb dX1_ears_59 ?_
              refine lv_ior hx hb dX1_ears_60 ?_
              refine lv_istore_n (lv' := [(3, .int (x5_0 ||| ((1 : Int32) <<< (((nI k5) : Int32) &&& 31)))), (5, .int a2), (4, .int (nI k5)), (0, .ref q0), (1, .int a1), (2, .int a2)]) hx hb dX1_ears_61 rfl hl (by decide) rfl (fun ls hl => ?_)
              refine lv_iinc (v := (nI (k5 + 1))) (lv' := [(4, .int (nI (k5 + 1))), (3, .int (x5_0 ||| ((1 : Int32) <<< (((nI k5) : Int32) &&& 31)))), (5, .int a2), (0, .ref q0), (1, .int a1), (2, .int a2)]) hx hb dX1_ears_62 hl (k := 2) rfl (nf_inc 1 (rfl : nI k5 = nI k5)) (by decide) rfl (fun ls hl => ?_)
              refine lv_goto (tgt := 5) hx hb dX1_ears_65 (by decide) ?_
              have hB2 : B_X1_ears_5 nw nP kd a1 a2 0 (k5 + 1) = (x5_0 ||| ((1 : Int32) <<< (((nI k5) : Int32) &&& 31))) := by
                rw [B_X1_ears_5, hB_5]
                rw [S_X1_ears_5, if_neg c_2, if_neg c_3, if_neg c_4]
              exact ih_5 (k5 + 1) (x5_0 ||| ((1 : Int32) <<< (((nI k5) : Int32) &&& 31))) _ (by omega) (by omega) hB2 (lv_sub hl [0, 1, 3, 4, 5] rfl)
        · refine lv_iconst (v := 1) hx hb dX1_ears_30 (by decide) ?_
          refine lv_goto (tgt := 35) hx hb dX1_ears_31 (by decide) ?_
          refine lv_istore (lv' := [(5, .int 1), (4, .int (nI k5)), (3, .int x5_0), (0, .ref q0), (1, .int a1), (2, .int a2)]) hx hb dX1_ears_35 hl (by decide) rfl (fun ls hl => ?_)
          refine lv_iload hx hb dX1_ears_37 (lv_at hl 1 rfl) ?_
          refine lv_iload_n hx hb dX1_ears_39 rfl (lv_at hl 4 rfl) ?_
          refine lv_icmp_eq (tgt := 62) hx hb dX1_ears_40 (by decide) (fun c_5 => ?_) (fun c_5 => ?_)
          · refine lv_iinc (v := (nI (k5 + 1))) (lv' := [(4, .int (nI (k5 + 1))), (5, .int 1), (3, .int x5_0), (0, .ref q0), (1, .int a1), (2, .int a2)]) hx hb dX1_ears_62 hl (k := 1) rfl (nf_inc 1 (rfl : nI k5 = nI k5)) (by decide) rfl (fun ls hl => ?_)
            refine lv_goto (tgt := 5) hx hb dX1_ears_65 (by decide) ?_
            have hB2 : B_X1_ears_5 nw nP kd a1 a2 0 (k5 + 1) = x5_0 := by
              rw [B_X1_ears_5, hB_5]
              rw [S_X1_ears_5, if_pos c_2, if_pos c_5]
            exact ih_5 (k5 + 1) x5_0 _ (by omega) (by omega) hB2 (lv_sub hl [0, 2, 3, 4, 5] rfl)
          · refine lv_aload_n hx hb dX1_ears_43 rfl (lv_at hl 3 rfl) ?_
            refine lv_iload hx hb dX1_ears_44 (lv_at hl 1 rfl) ?_
            refine lv_iload_n hx hb dX1_ears_46 rfl (lv_at hl 4 rfl) ?_
            refine ro_V (y := yX1_distance) (As := [.int (nI k5), .int a1]) (rest := []) (q0 := 0) CF (c_X1_distance l D cI cZ q0 t0 q1 q2 t1 t3 t5 nw nP nR (nI k5) a1) lk_X1_76 hP hE [0, 1, 2, 3] rfl rfl rfl rfl hl.1 rfl (Nat.le_of_ble_eq_true rfl) ⟨Nat.le_of_ble_eq_true rfl, Nat.le_of_ble_eq_true rfl, rfl, rfl⟩ ⟨Nat.zero_le _, Nat.zero_le _⟩ dX1_ears_47 ?_
            refine lv_iload hx hb dX1_ears_50 (lv_at hl 0 rfl) ?_
            refine lv_icmp_gt (tgt := 62) hx hb dX1_ears_52 (by decide) (fun c_6 => ?_) (fun c_6 => ?_)
            · refine lv_iinc (v := (nI (k5 + 1))) (lv' := [(4, .int (nI (k5 + 1))), (5, .int 1), (3, .int x5_0), (0, .ref q0), (1, .int a1), (2, .int a2)]) hx hb dX1_ears_62 hl (k := 1) rfl (nf_inc 1 (rfl : nI k5 = nI k5)) (by decide) rfl (fun ls hl => ?_)
              refine lv_goto (tgt := 5) hx hb dX1_ears_65 (by decide) ?_
              have hB2 : B_X1_ears_5 nw nP kd a1 a2 0 (k5 + 1) = x5_0 := by
                rw [B_X1_ears_5, hB_5]
                rw [S_X1_ears_5, if_pos c_2, if_neg c_5, if_pos c_6]
              exact ih_5 (k5 + 1) x5_0 _ (by omega) (by omega) hB2 (lv_sub hl [0, 2, 3, 4, 5] rfl)
            · refine lv_iload_n hx hb dX1_ears_55 rfl (lv_at hl 2 rfl) ?_
              refine lv_iconst (v := 1) hx hb dX1_ears_56 (by decide) ?_
              refine lv_iload hx hb dX1_ears_57 (lv_at hl 1 rfl) ?_
              refine lv_ishl hx hb dX1_ears_59 ?_
              refine lv_ior hx hb dX1_ears_60 ?_
              refine lv_istore_n (lv' := [(3, .int (x5_0 ||| ((1 : Int32) <<< (((nI k5) : Int32) &&& 31)))), (5, .int 1), (4, .int (nI k5)), (0, .ref q0), (1, .int a1), (2, .int a2)]) hx hb dX1_ears_61 rfl hl (by decide) rfl (fun ls hl => ?_)
              refine lv_iinc (v := (nI (k5 + 1))) (lv' := [(4, .int (nI (k5 + 1))), (3, .int (x5_0 ||| ((1 : Int32) <<< (((nI k5) : Int32) &&& 31)))), (5, .int 1), (0, .ref q0), (1, .int a1), (2, .int a2)]) hx hb dX1_ears_62 hl (k := 2) rfl (nf_inc 1 (rfl : nI k5 = nI k5)) (by decide) rfl (fun ls hl => ?_)
              refine lv_goto (tgt := 5) hx hb dX1_ears_65 (by decide) ?_
              have hB2 : B_X1_ears_5 nw nP kd a1 a2 0 (k5 + 1) = (x5_0 ||| ((1 : Int32) <<< (((nI k5) : Int32) &&& 31))) := by
                rw [B_X1_ears_5, hB_5]
                rw [S_X1_ears_5, if_pos c_2, if_neg c_5, if_neg c_6]
              exact ih_5 (k5 + 1) (x5_0 ||| ((1 : Int32) <<< (((nI k5) : Int32) &&& 31))) _ (by omega) (by omega) hB2 (lv_sub hl [0, 1, 3, 4, 5] rfl)
  have e_k : 0 = nI (0) := (nf_c 0).trans (congrArg nI (by omega))
  rw [e_k] at hl
  exact LOOP_5 (nP - 0 + 1) 0 0 _ (Nat.zero_le _) (by omega) rfl (lv_sub hl [0, 1, 2, 3, 4] rfl)
def S_X1_sitter_2 (nw : Nat → Int32) (nP : Nat) (a1 : Int32) (rec : Nat → ((Int32))) (k2 : Nat) : (Int32) :=
  (if (nI nP) ≤ (nI k2) then 0 else (if (f_X2_at 15 nw (5 + (nI k2))) = a1 then (nI k2) else (rec (k2 + 1) )))
def L_X1_sitter_2 (nw : Nat → Int32) (nP : Nat) (a1 : Int32) : Nat → Nat → ((Int32))
  | 0, _ => 0
  | n + 1, k => S_X1_sitter_2 nw nP a1 (L_X1_sitter_2 nw nP a1 n) k
set_option maxRecDepth 100000 in
set_option maxHeartbeats 4000000 in
theorem c_X1_sitter (l : Launch) (D : va_G) (cI cZ : ClassId) (q0 t0 q1 q2 t1 t3 t5 : Nat) (nw : Nat → Int32) (nP : Nat) (nR : Nat) (a1 : Int32) (hP5 : nP ≤ 5) : RO l D cI cZ yX1_sitter cX1_sitter 3 (some .int) (mR 2 42) [.ref q0, .int a1] [(q0, .inr (1, [.ref t0, .ref q1])), (q1, .inr (2, [.ref q2])), (q2, .inl (cI, 15, .inl nw)), (t0, .inr (5, [.ref t1, .ref t3, .ref t5, .int (nI nP), .int (nI nR)]))] (some (.int ((L_X1_sitter_2 nw nP a1 (nP + 1) 0)))) := by
  refine RO.of (by decide +kernel) (Nat.le_of_ble_eq_true rfl) ?_
  intro p e s m args below meth c ls Q CF hr hlk hP hE hQ hl
  have hx := CF.1
  have hb := CF.2.1
  have hl : lv_has ls 3 [(0, .ref q0), (1, .int a1)] := hl
  refine lv_iconst (v := 0) hx hb dX1_sitter_0 (by decide) ?_
  refine lv_istore_n (lv' := [(2, .int 0), (0, .ref q0), (1, .int a1)]) hx hb dX1_sitter_1 rfl hl (by decide) rfl (fun ls hl => ?_)
  have LOOP_2 : ∀ (n_2 k2 : Nat) (ls : Array Slot), k2 ≤ nP → nP - k2 < n_2 → L_X1_sitter_2 nw nP a1 n_2 k2  = L_X1_sitter_2 nw nP a1 (nP + 1) 0 → lv_has ls 3 [(2, .int (nI k2)), (0, .ref q0), (1, .int a1)] → W p l e (mR 2 42) s m args below meth c s.heap [] 0 0 Q (F0 m 2 ls []) := by
    intro n_2
    induction n_2 with
    | zero => intro k2 ls hk_2 hn_2 hR_2 hl; exact absurd hn_2 (Nat.not_lt_zero _)
    | succ n_2 ih_2 =>
      intro k2 ls hk_2 hn_2 hR_2 hl
      refine lv_iload_n hx hb dX1_sitter_2 rfl (lv_at hl 0 rfl) ?_
      refine lv_aload_n hx hb dX1_sitter_3 rfl (lv_at hl 1 rfl) ?_
      refine r_get (C := RX1) (T := TX1) (N := 2) (v := .ref t0) CF hE hP 0 rfl rfl inG1 0 (by decide) tw_1_79 rfl rfl dX1_sitter_4 ?_
      refine ro_V (y := yX5_people) (As := []) (rest := [.int (nI k2)]) (q0 := 3) CF (c_X5_people l D cI cZ t0 t1 t3 t5 nP nR) lk_X1_50 hP hE [3] rfl rfl rfl rfl hl.1 rfl (Nat.le_of_ble_eq_true rfl) ⟨Nat.le_of_ble_eq_true rfl, Nat.le_of_ble_eq_true rfl, rfl, rfl⟩ ⟨Nat.zero_le _, Nat.zero_le _⟩ dX1_sitter_7 ?_
      refine lv_icmp_ge (tgt := 30) hx hb dX1_sitter_10 (by decide) (fun c_2 => ?_) (fun c_2 => ?_)
      · have o_2 : nP ≤ k2 := (cle (rfl : nI nP = nI nP) (rfl : nI k2 = nI k2) (by omega) (by omega)).mp c_2
        refine lv_iconst (v := 0) hx hb dX1_sitter_30 (by decide) ?_
        have hq_1 : L_X1_sitter_2 nw nP a1 (nP + 1) 0 = 0 := by
          rw [← hR_2]
          show S_X1_sitter_2 nw nP a1 (L_X1_sitter_2 nw nP a1 n_2) k2  = _
          rw [S_X1_sitter_2, if_pos c_2]
        exact ro_ret CF hQ hr hlk rfl dX1_sitter_31 (by rw [hq_1])
      · have o_2 : ¬ nP ≤ k2 := fun h => c_2 ((cle (rfl : nI nP = nI nP) (rfl : nI k2 = nI k2) (by omega) (by omega)).mpr h)
        refine lv_aload_n hx hb dX1_sitter_13 rfl (lv_at hl 1 rfl) ?_
        refine lv_iload_n hx hb dX1_sitter_14 rfl (lv_at hl 0 rfl) ?_
        refine ro_V (y := yX1_seat) (As := [.int (nI k2)]) (rest := []) (q0 := 0) CF (c_X1_seat l D cI cZ q0 t0 q1 q2 nw (nI k2)) lk_X1_61 hP hE [0, 1, 2] rfl rfl rfl rfl hl.1 rfl (Nat.le_of_ble_eq_true rfl) ⟨Nat.le_of_ble_eq_true rfl, Nat.le_of_ble_eq_true rfl, rfl, rfl⟩ ⟨Nat.zero_le _, Nat.zero_le _⟩ dX1_sitter_15 ?_
        refine lv_iload_n hx hb dX1_sitter_18 rfl (lv_at hl 2 rfl) ?_
        refine lv_icmp_ne (tgt := 24) hx hb dX1_sitter_19 (by decide) (fun c_3 => ?_) (fun c_3 => ?_)
        · refine lv_iinc (v := (nI (k2 + 1))) (lv' := [(2, .int (nI (k2 + 1))), (0, .ref q0), (1, .int a1)]) hx hb dX1_sitter_24 hl (k := 0) rfl (nf_inc 1 (rfl : nI k2 = nI k2)) (by decide) rfl (fun ls hl => ?_)
          refine lv_goto (tgt := 2) hx hb dX1_sitter_27 (by decide) ?_
          have hR2 : L_X1_sitter_2 nw nP a1 n_2 (k2 + 1)  = L_X1_sitter_2 nw nP a1 (nP + 1) 0 := by
            rw [← hR_2]
            show _ = S_X1_sitter_2 nw nP a1 (L_X1_sitter_2 nw nP a1 n_2) k2 
            rw [S_X1_sitter_2, if_neg c_2, if_neg c_3]
          exact ih_2 (k2 + 1) _ (by omega) (by omega) hR2 (lv_sub hl [0, 1, 2] rfl)
        · refine lv_iload_n hx hb dX1_sitter_22 rfl (lv_at hl 0 rfl) ?_
          have hq_1 : L_X1_sitter_2 nw nP a1 (nP + 1) 0 = (nI k2) := by
            rw [← hR_2]
            show S_X1_sitter_2 nw nP a1 (L_X1_sitter_2 nw nP a1 n_2) k2  = _
            rw [S_X1_sitter_2, if_neg c_2, if_pos c_3]
          exact ro_ret CF hQ hr hlk rfl dX1_sitter_23 (by rw [hq_1])
  have e_k : 0 = nI (0) := (nf_c 0).trans (congrArg nI (by omega))
  rw [e_k] at hl
  exact LOOP_2 (nP + 1) 0 _ (Nat.zero_le _) (by omega) rfl (lv_sub hl [0, 1, 2] rfl)
theorem lk_X1_97 : mLkV RX1 97 yX1_sitter cX1_sitter 3 (some .int) 1 := ⟨⟨tw_2_160, tw_1_6, tw_2_163, ⟨by decide +kernel, by decide +kernel, by decide +kernel⟩⟩, tw_2_162, tp_1_7⟩
def S_X1_firstBold_11 (nw : Nat → Int32) (nP : Nat) (kd : Nat → Int32) (a1 : Int32) (a2 : Int32) (rec : Nat → ((Int32))) (k11 : Nat) : (Int32) :=
  (if (nI nP) ≤ (nI (1 + k11)) then (-9) else (if (f_X7_contains a2 ((L_X1_sitter_2 nw nP (((f_X2_at 15 nw (5 + a1)) + (nI (1 + k11))) - ((f_X2_at 15 nw (5 + a1)) + (nI (1 + k11))) / (nI nP) * (nI nP)) (nP + 1) 0))) = 0 then (rec (k11 + 1) ) else (if (f_X2_at 5 kd ((L_X1_sitter_2 nw nP (((f_X2_at 15 nw (5 + a1)) + (nI (1 + k11))) - ((f_X2_at 15 nw (5 + a1)) + (nI (1 + k11))) / (nI nP) * (nI nP)) (nP + 1) 0))) = 2 then (rec (k11 + 1) ) else ((L_X1_sitter_2 nw nP (((f_X2_at 15 nw (5 + a1)) + (nI (1 + k11))) - ((f_X2_at 15 nw (5 + a1)) + (nI (1 + k11))) / (nI nP) * (nI nP)) (nP + 1) 0)))))
def L_X1_firstBold_11 (nw : Nat → Int32) (nP : Nat) (kd : Nat → Int32) (a1 : Int32) (a2 : Int32) : Nat → Nat → ((Int32))
  | 0, _ => 0
  | n + 1, k => S_X1_firstBold_11 nw nP kd a1 a2 (L_X1_firstBold_11 nw nP kd a1 a2 n) k
set_option maxRecDepth 100000 in
set_option maxHeartbeats 4000000 in
theorem c_X1_firstBold (l : Launch) (D : va_G) (cI cZ : ClassId) (q0 t0 q1 q2 t1 t3 t5 t2 : Nat) (nw : Nat → Int32) (nP : Nat) (nR : Nat) (kd : Nat → Int32) (a1 : Int32) (a2 : Int32) (hP5 : nP ≤ 5) : RO l D cI cZ yX1_firstBold cX1_firstBold 6 (some .int) (mR 3 64) [.ref q0, .int a1, .int a2] [(q0, .inr (1, [.ref t0, .ref q1])), (q1, .inr (2, [.ref q2])), (q2, .inl (cI, 15, .inl nw)), (t0, .inr (5, [.ref t1, .ref t3, .ref t5, .int (nI nP), .int (nI nR)])), (t1, .inr (2, [.ref t2])), (t2, .inl (cI, 5, .inl kd))] (some (.int ((L_X1_firstBold_11 nw nP kd a1 a2 ((nP - 1) + 1) 0)))) := by
  refine RO.of (by decide +kernel) (Nat.le_of_ble_eq_true rfl) ?_
  intro p e s m args below meth c ls Q CF hr hlk hP hE hQ hl
  have hx := CF.1
  have hb := CF.2.1
  have hl : lv_has ls 6 [(0, .ref q0), (1, .int a1), (2, .int a2)] := hl
  refine lv_aload_n hx hb dX1_firstBold_0 rfl (lv_at hl 0 rfl) ?_
  refine r_get (C := RX1) (T := TX1) (N := 2) (v := .ref t0) CF hE hP 0 rfl rfl inG1 0 (by decide) tw_1_79 rfl rfl dX1_firstBold_1 ?_
  refine ro_V (y := yX5_people) (As := []) (rest := []) (q0 := 3) CF (c_X5_people l D cI cZ t0 t1 t3 t5 nP nR) lk_X1_50 hP hE [3] rfl rfl rfl rfl hl.1 rfl (Nat.le_of_ble_eq_true rfl) ⟨Nat.le_of_ble_eq_true rfl, Nat.le_of_ble_eq_true rfl, rfl, rfl⟩ ⟨Nat.zero_le _, Nat.zero_le _⟩ dX1_firstBold_4 ?_
  refine lv_istore_n (lv' := [(3, .int (nI nP)), (0, .ref q0), (1, .int a1), (2, .int a2)]) hx hb dX1_firstBold_7 rfl hl (by decide) rfl (fun ls hl => ?_)
  refine lv_iconst (v := 1) hx hb dX1_firstBold_8 (by decide) ?_
  refine lv_istore (lv' := [(4, .int 1), (3, .int (nI nP)), (0, .ref q0), (1, .int a1), (2, .int a2)]) hx hb dX1_firstBold_9 hl (by decide) rfl (fun ls hl => ?_)
  have LOOP_11 : ∀ (n_11 k11 : Nat) (ls : Array Slot), k11 ≤ nP - 1 → nP - 1 - k11 < n_11 → L_X1_firstBold_11 nw nP kd a1 a2 n_11 k11  = L_X1_firstBold_11 nw nP kd a1 a2 ((nP - 1) + 1) 0 → lv_has ls 6 [(4, .int (nI (1 + k11))), (3, .int (nI nP)), (0, .ref q0), (1, .int a1), (2, .int a2)] → W p l e (mR 3 64) s m args below meth c s.heap [] 0 0 Q (F0 m 11 ls []) := by
    intro n_11
    induction n_11 with
    | zero => intro k11 ls hk_11 hn_11 hR_11 hl; exact absurd hn_11 (Nat.not_lt_zero _)
    | succ n_11 ih_11 =>
      intro k11 ls hk_11 hn_11 hR_11 hl
      refine lv_iload hx hb dX1_firstBold_11 (lv_at hl 0 rfl) ?_
      refine lv_iload_n hx hb dX1_firstBold_13 rfl (lv_at hl 1 rfl) ?_
      refine lv_icmp_ge (tgt := 64) hx hb dX1_firstBold_14 (by decide) (fun c_2 => ?_) (fun c_2 => ?_)
      · have o_2 : nP ≤ (1 + k11) := (cle (rfl : nI nP = nI nP) (rfl : nI (1 + k11) = nI (1 + k11)) (by omega) (by omega)).mp c_2
        refine lv_bipush (v := (-9)) hx hb dX1_firstBold_64 (by decide) ?_
        have hq_1 : L_X1_firstBold_11 nw nP kd a1 a2 ((nP - 1) + 1) 0 = (-9) := by
          rw [← hR_11]
          show S_X1_firstBold_11 nw nP kd a1 a2 (L_X1_firstBold_11 nw nP kd a1 a2 n_11) k11  = _
          rw [S_X1_firstBold_11, if_pos c_2]
        exact ro_ret CF hQ hr hlk rfl dX1_firstBold_66 (by rw [hq_1])
      · have o_2 : ¬ nP ≤ (1 + k11) := fun h => c_2 ((cle (rfl : nI nP = nI nP) (rfl : nI (1 + k11) = nI (1 + k11)) (by omega) (by omega)).mpr h)
        refine lv_aload_n hx hb dX1_firstBold_17 rfl (lv_at hl 2 rfl) ?_
        refine lv_aload_n hx hb dX1_firstBold_18 rfl (lv_at hl 2 rfl) ?_
        refine lv_iload_n hx hb dX1_firstBold_19 rfl (lv_at hl 3 rfl) ?_
        refine ro_V (y := yX1_seat) (As := [.int a1]) (rest := [.ref q0]) (q0 := 0) CF (c_X1_seat l D cI cZ q0 t0 q1 q2 nw a1) lk_X1_61 hP hE [0, 1, 2] rfl rfl rfl rfl hl.1 rfl (Nat.le_of_ble_eq_true rfl) ⟨Nat.le_of_ble_eq_true rfl, Nat.le_of_ble_eq_true rfl, rfl, rfl⟩ ⟨Nat.zero_le _, Nat.zero_le _⟩ dX1_firstBold_20 ?_
        refine lv_iload hx hb dX1_firstBold_23 (lv_at hl 0 rfl) ?_
        refine lv_iadd hx hb dX1_firstBold_25 ?_
        refine lv_iload_n hx hb dX1_firstBold_26 rfl (lv_at hl 1 rfl) ?_
        refine lv_irem hx hb dX1_firstBold_27 (fun h => absurd ((ceq (rfl : nI nP = nI nP) (nf_c 0) (by omega) (by omega)).mp h) (by omega)) ?_
        refine ro_V (y := yX1_sitter) (As := [.int (((f_X2_at 15 nw (5 + a1)) + (nI (1 + k11))) - ((f_X2_at 15 nw (5 + a1)) + (nI (1 + k11))) / (nI nP) * (nI nP))]) (rest := []) (q0 := 0) CF (c_X1_sitter l D cI cZ q0 t0 q1 q2 t1 t3 t5 nw nP nR (((f_X2_at 15 nw (5 + a1)) + (nI (1 + k11))) - ((f_X2_at 15 nw (5 + a1)) + (nI (1 + k11))) / (nI nP) * (nI nP)) (by omega)) lk_X1_97 hP hE [0, 1, 2, 3] rfl rfl rfl rfl hl.1 rfl (Nat.le_of_ble_eq_true rfl) ⟨Nat.le_of_ble_eq_true rfl, Nat.le_of_ble_eq_true rfl, rfl, rfl⟩ ⟨Nat.zero_le _, Nat.zero_le _⟩ dX1_firstBold_28 ?_
        refine lv_istore (lv' := [(5, .int ((L_X1_sitter_2 nw nP (((f_X2_at 15 nw (5 + a1)) + (nI (1 + k11))) - ((f_X2_at 15 nw (5 + a1)) + (nI (1 + k11))) / (nI nP) * (nI nP)) (nP + 1) 0))), (4, .int (nI (1 + k11))), (3, .int (nI nP)), (0, .ref q0), (1, .int a1), (2, .int a2)]) hx hb dX1_firstBold_31 hl (by decide) rfl (fun ls hl => ?_)
        refine lv_iload_n hx hb dX1_firstBold_33 rfl (lv_at hl 5 rfl) ?_
        refine lv_iload hx hb dX1_firstBold_34 (lv_at hl 0 rfl) ?_
        refine ro_N (y := yX7_contains) (As := [.int a2, .int ((L_X1_sitter_2 nw nP (((f_X2_at 15 nw (5 + a1)) + (nI (1 + k11))) - ((f_X2_at 15 nw (5 + a1)) + (nI (1 + k11))) / (nI nP) * (nI nP)) (nP + 1) 0))]) (rest := []) CF (c_X7_contains l D cI cZ a2 ((L_X1_sitter_2 nw nP (((f_X2_at 15 nw (5 + a1)) + (nI (1 + k11))) - ((f_X2_at 15 nw (5 + a1)) + (nI (1 + k11))) / (nI nP) * (nI nP)) (nP + 1) 0))) ln_X1_57 hE rfl hl.1 rfl (Nat.le_of_ble_eq_true rfl) ⟨Nat.le_of_ble_eq_true rfl, Nat.le_of_ble_eq_true rfl, rfl, rfl⟩ ⟨Nat.zero_le _, Nat.zero_le _⟩ dX1_firstBold_36 ?_
        refine lv_if_eq (tgt := 58) hx hb dX1_firstBold_39 (by decide) (fun c_3 => ?_) (fun c_3 => ?_)
        · refine lv_iinc (v := (nI ((1 + k11) + 1))) (lv' := [(4, .int (nI ((1 + k11) + 1))), (5, .int ((L_X1_sitter_2 nw nP (((f_X2_at 15 nw (5 + a1)) + (nI (1 + k11))) - ((f_X2_at 15 nw (5 + a1)) + (nI (1 + k11))) / (nI nP) * (nI nP)) (nP + 1) 0))), (3, .int (nI nP)), (0, .ref q0), (1, .int a1), (2, .int a2)]) hx hb dX1_firstBold_58 hl (k := 1) rfl (nf_inc 1 (rfl : nI (1 + k11) = nI (1 + k11))) (by decide) rfl (fun ls hl => ?_)
          refine lv_goto (tgt := 11) hx hb dX1_firstBold_61 (by decide) ?_
          have hR2 : L_X1_firstBold_11 nw nP kd a1 a2 n_11 (k11 + 1)  = L_X1_firstBold_11 nw nP kd a1 a2 ((nP - 1) + 1) 0 := by
            rw [← hR_11]
            show _ = S_X1_firstBold_11 nw nP kd a1 a2 (L_X1_firstBold_11 nw nP kd a1 a2 n_11) k11 
            rw [S_X1_firstBold_11, if_neg c_2, if_pos c_3]
          have e_k : (nI ((1 + k11) + 1)) = nI (1 + (k11 + 1)) := (rfl : nI ((1 + k11) + 1) = nI ((1 + k11) + 1)).trans (congrArg nI (by omega))
          rw [e_k] at hl
          exact ih_11 (k11 + 1) _ (by omega) (by omega) hR2 (lv_sub hl [0, 2, 3, 4, 5] rfl)
        · refine lv_aload_n hx hb dX1_firstBold_42 rfl (lv_at hl 3 rfl) ?_
          refine r_get (C := RX1) (T := TX1) (N := 2) (v := .ref t0) CF hE hP 0 rfl rfl inG1 0 (by decide) tw_1_79 rfl rfl dX1_firstBold_43 ?_
          refine lv_iload hx hb dX1_firstBold_46 (lv_at hl 0 rfl) ?_
          refine ro_V (y := yX5_kind) (As := [.int ((L_X1_sitter_2 nw nP (((f_X2_at 15 nw (5 + a1)) + (nI (1 + k11))) - ((f_X2_at 15 nw (5 + a1)) + (nI (1 + k11))) / (nI nP) * (nI nP)) (nP + 1) 0))]) (rest := []) (q0 := 3) CF (c_X5_kind l D cI cZ t0 t1 t3 t5 t2 nP nR kd ((L_X1_sitter_2 nw nP (((f_X2_at 15 nw (5 + a1)) + (nI (1 + k11))) - ((f_X2_at 15 nw (5 + a1)) + (nI (1 + k11))) / (nI nP) * (nI nP)) (nP + 1) 0))) lk_X1_73 hP hE [3, 4, 5] rfl rfl rfl rfl hl.1 rfl (Nat.le_of_ble_eq_true rfl) ⟨Nat.le_of_ble_eq_true rfl, Nat.le_of_ble_eq_true rfl, rfl, rfl⟩ ⟨Nat.zero_le _, Nat.zero_le _⟩ dX1_firstBold_48 ?_
          refine lv_iconst (v := 2) hx hb dX1_firstBold_51 (by decide) ?_
          refine lv_icmp_eq (tgt := 58) hx hb dX1_firstBold_52 (by decide) (fun c_4 => ?_) (fun c_4 => ?_)
          · refine lv_iinc (v := (nI ((1 + k11) + 1))) (lv' := [(4, .int (nI ((1 + k11) + 1))), (5, .int ((L_X1_sitter_2 nw nP (((f_X2_at 15 nw (5 + a1)) + (nI (1 + k11))) - ((f_X2_at 15 nw (5 + a1)) + (nI (1 + k11))) / (nI nP) * (nI nP)) (nP + 1) 0))), (3, .int (nI nP)), (0, .ref q0), (1, .int a1), (2, .int a2)]) hx hb dX1_firstBold_58 hl (k := 1) rfl (nf_inc 1 (rfl : nI (1 + k11) = nI (1 + k11))) (by decide) rfl (fun ls hl => ?_)
            refine lv_goto (tgt := 11) hx hb dX1_firstBold_61 (by decide) ?_
            have hR2 : L_X1_firstBold_11 nw nP kd a1 a2 n_11 (k11 + 1)  = L_X1_firstBold_11 nw nP kd a1 a2 ((nP - 1) + 1) 0 := by
              rw [← hR_11]
              show _ = S_X1_firstBold_11 nw nP kd a1 a2 (L_X1_firstBold_11 nw nP kd a1 a2 n_11) k11 
              rw [S_X1_firstBold_11, if_neg c_2, if_neg c_3, if_pos c_4]
            have e_k : (nI ((1 + k11) + 1)) = nI (1 + (k11 + 1)) := (rfl : nI ((1 + k11) + 1) = nI ((1 + k11) + 1)).trans (congrArg nI (by omega))
            rw [e_k] at hl
            exact ih_11 (k11 + 1) _ (by omega) (by omega) hR2 (lv_sub hl [0, 2, 3, 4, 5] rfl)
          · refine lv_iload hx hb dX1_firstBold_55 (lv_at hl 0 rfl) ?_
            have hq_1 : L_X1_firstBold_11 nw nP kd a1 a2 ((nP - 1) + 1) 0 = ((L_X1_sitter_2 nw nP (((f_X2_at 15 nw (5 + a1)) + (nI (1 + k11))) - ((f_X2_at 15 nw (5 + a1)) + (nI (1 + k11))) / (nI nP) * (nI nP)) (nP + 1) 0)) := by
              rw [← hR_11]
              show S_X1_firstBold_11 nw nP kd a1 a2 (L_X1_firstBold_11 nw nP kd a1 a2 n_11) k11  = _
              rw [S_X1_firstBold_11, if_neg c_2, if_neg c_3, if_neg c_4]
            exact ro_ret CF hQ hr hlk rfl dX1_firstBold_57 (by rw [hq_1])
  have e_k : 1 = nI (1 + 0) := (nf_c 1).trans (congrArg nI (by omega))
  rw [e_k] at hl
  exact LOOP_11 ((nP - 1) + 1) 0 _ (Nat.zero_le _) (by omega) rfl (lv_sub hl [0, 1, 2, 3, 4] rfl)
theorem lk_X1_100 : mLkS RX1 100 yJ6_bitCount_0f7a4 cJ6_bitCount_0f7a4 1 (some .int) 1 := ⟨⟨tw_2_168, tw_1_11, tw_2_170, ⟨by decide +kernel, by decide +kernel, by decide +kernel⟩⟩, tw_2_169⟩
theorem lk_X1_94 : mLkV RX1 94 yX1_fine cX1_fine 3 none 2 := ⟨⟨tw_2_174, tw_1_6, tw_2_177, ⟨by decide +kernel, by decide +kernel, by decide +kernel⟩⟩, tw_2_176, tp_1_9⟩
def S_X1_fineEach_7 (a1 : Int32) (k7 : Nat) (x7_0 : Nat → Int32) : (Nat → Int32) :=
  (if (f_J6_bitCount_0f7a4 a1) ≤ 0 then x7_0 else (if (f_X7_contains a1 (nI k7)) = 0 then x7_0 else (f_X2_put_sf 15 x7_0 (10 + (nI k7)) ((f_X2_at 15 x7_0 (10 + (nI k7))) + (12 / (f_J6_bitCount_0f7a4 a1))))))
def B_X1_fineEach_7 (a1 : Int32) (i0 : Nat → Int32) : Nat → (Nat → Int32)
  | 0 => i0
  | k + 1 => S_X1_fineEach_7 a1 k (B_X1_fineEach_7 a1 i0 k)
set_option maxRecDepth 100000 in
set_option maxHeartbeats 4000000 in
theorem c_X1_fineEach (l : Launch) (D : va_G) (cI cZ : ClassId) (q0 t0 q1 q2 t1 t3 t5 : Nat) (nw : Nat → Int32) (nP : Nat) (nR : Nat) (a1 : Int32) (hP5 : nP ≤ 5) : MU l D cI cZ yX1_fineEach cX1_fineEach 4 none (mR 3 64) [.ref q0, .int a1] [(q0, .inr (1, [.ref t0, .ref q1])), (q1, .inr (2, [.ref q2])), (q2, .inl (cI, 15, .inl nw)), (t0, .inr (5, [.ref t1, .ref t3, .ref t5, .int (nI nP), .int (nI nR)]))] [(q0, .inr (1, [.ref t0, .ref q1])), (q1, .inr (2, [.ref q2])), (q2, .inl (cI, 15, .inl ((B_X1_fineEach_7 a1 nw nP)))), (t0, .inr (5, [.ref t1, .ref t3, .ref t5, .int (nI nP), .int (nI nR)]))] none := by
  refine MU.of (by decide +kernel) (Nat.le_of_ble_eq_true rfl) ?_
  intro p e s m args below meth c ls Q A CF hr hlk hP hE hD hS hQ hl
  have hx := CF.1
  have hb := CF.2.1
  have hl : lv_has ls 4 [(0, .ref q0), (1, .int a1)] := hl
  refine lv_iload_n hx hb dX1_fineEach_0 rfl (lv_at hl 1 rfl) ?_
  refine ro_S (y := yJ6_bitCount_0f7a4) (As := [.int a1]) (rest := []) CF (c_J6_bitCount_0f7a4 l D cI cZ a1) lk_X1_100 hE rfl hl.1 rfl (Nat.le_of_ble_eq_true rfl) ⟨Nat.le_of_ble_eq_true rfl, Nat.le_of_ble_eq_true rfl, rfl, rfl⟩ ⟨Nat.zero_le _, Nat.zero_le _⟩ dX1_fineEach_1 ?_
  refine lv_istore_n (lv' := [(2, .int (f_J6_bitCount_0f7a4 a1)), (0, .ref q0), (1, .int a1)]) hx hb dX1_fineEach_4 rfl hl (by decide) rfl (fun ls hl => ?_)
  refine lv_iconst (v := 0) hx hb dX1_fineEach_5 (by decide) ?_
  refine lv_istore_n (lv' := [(3, .int 0), (2, .int (f_J6_bitCount_0f7a4 a1)), (0, .ref q0), (1, .int a1)]) hx hb dX1_fineEach_6 rfl hl (by decide) rfl (fun ls hl => ?_)
  have LOOP_7 : ∀ (n_7 k7 : Nat) (x7_0 : Nat → Int32) (H : Heap) (locs : List Loc) (ls : Array Slot), k7 ≤ nP → nP - k7 < n_7 → (B_X1_fineEach_7 a1 nw k7) = x7_0 → va_P D vwCl [(q0, .inr (1, [.ref t0, .ref q1])), (q1, .inr (2, [.ref q2])), (q2, .inl (cI, 15, .inl x7_0)), (t0, .inr (5, [.ref t1, .ref t3, .ref t5, .int (nI nP), .int (nI nR)]))] H → va_D A [(q0, .inr (1, [.ref t0, .ref q1])), (q1, .inr (2, [.ref q2])), (q2, .inl (cI, 15, .inl x7_0)), (t0, .inr (5, [.ref t1, .ref t3, .ref t5, .int (nI nP), .int (nI nR)]))] → va_S A s.heap H locs → lv_has ls 4 [(3, .int (nI k7)), (2, .int (f_J6_bitCount_0f7a4 a1)), (0, .ref q0), (1, .int a1)] → W p l e (mR 3 64) s m args below meth c H locs 0 0 Q (F0 m 7 ls []) := by
    intro n_7
    induction n_7 with
    | zero => intro k7 x7_0 H locs ls hk_7 hn_7 hB_7 hP hD hS hl; exact absurd hn_7 (Nat.not_lt_zero _)
    | succ n_7 ih_7 =>
      intro k7 x7_0 H locs ls hk_7 hn_7 hB_7 hP hD hS hl
      refine lv_iload_n hx hb dX1_fineEach_7 rfl (lv_at hl 0 rfl) ?_
      refine lv_aload_n hx hb dX1_fineEach_8 rfl (lv_at hl 2 rfl) ?_
      refine r_get (C := RX1) (T := TX1) (N := 2) (v := .ref t0) CF hE hP 0 rfl rfl inG1 0 (by decide) tw_1_79 rfl rfl dX1_fineEach_9 ?_
      refine ro_V (y := yX5_people) (As := []) (rest := [.int (nI k7)]) (q0 := 3) CF (c_X5_people l D cI cZ t0 t1 t3 t5 nP nR) lk_X1_50 hP hE [3] rfl rfl rfl rfl hl.1 rfl (Nat.le_of_ble_eq_true rfl) ⟨Nat.le_of_ble_eq_true rfl, Nat.le_of_ble_eq_true rfl, rfl, rfl⟩ ⟨Nat.zero_le _, Nat.zero_le _⟩ dX1_fineEach_12 ?_
      refine lv_icmp_ge (tgt := 45) hx hb dX1_fineEach_15 (by decide) (fun c_1 => ?_) (fun c_1 => ?_)
      · have o_1 : nP ≤ k7 := (cle (rfl : nI nP = nI nP) (rfl : nI k7 = nI k7) (by omega) (by omega)).mp c_1
        have hkN : nP = k7 := by omega
        subst hkN
        subst hB_7
        exact mu_retv CF hQ hr hlk hP hS dX1_fineEach_45 rfl
      · have o_1 : ¬ nP ≤ k7 := fun h => c_1 ((cle (rfl : nI nP = nI nP) (rfl : nI k7 = nI k7) (by omega) (by omega)).mpr h)
        refine lv_iload_n hx hb dX1_fineEach_18 rfl (lv_at hl 1 rfl) ?_
        refine lv_if_le (tgt := 39) hx hb dX1_fineEach_19 (by decide) (fun c_2 => ?_) (fun c_2 => ?_)
        · refine lv_iinc (v := (nI (k7 + 1))) (lv' := [(3, .int (nI (k7 + 1))), (2, .int (f_J6_bitCount_0f7a4 a1)), (0, .ref q0), (1, .int a1)]) hx hb dX1_fineEach_39 hl (k := 0) rfl (nf_inc 1 (rfl : nI k7 = nI k7)) (by decide) rfl (fun ls hl => ?_)
          refine lv_goto (tgt := 7) hx hb dX1_fineEach_42 (by decide) ?_
          have hB2 : B_X1_fineEach_7 a1 nw (k7 + 1) = x7_0 := by
            rw [B_X1_fineEach_7, hB_7]
            rw [S_X1_fineEach_7, if_pos c_2]
          exact ih_7 (k7 + 1) x7_0 _ _ _ (by omega) (by omega) hB2 hP hD hS (lv_sub hl [0, 1, 2, 3] rfl)
        · refine lv_iload_n hx hb dX1_fineEach_22 rfl (lv_at hl 3 rfl) ?_
          refine lv_iload_n hx hb dX1_fineEach_23 rfl (lv_at hl 0 rfl) ?_
          refine ro_N (y := yX7_contains) (As := [.int a1, .int (nI k7)]) (rest := []) CF (c_X7_contains l D cI cZ a1 (nI k7)) ln_X1_57 hE rfl hl.1 rfl (Nat.le_of_ble_eq_true rfl) ⟨Nat.le_of_ble_eq_true rfl, Nat.le_of_ble_eq_true rfl, rfl, rfl⟩ ⟨Nat.zero_le _, Nat.zero_le _⟩ dX1_fineEach_24 ?_
          refine lv_if_eq (tgt := 39) hx hb dX1_fineEach_27 (by decide) (fun c_3 => ?_) (fun c_3 => ?_)
          · refine lv_iinc (v := (nI (k7 + 1))) (lv' := [(3, .int (nI (k7 + 1))), (2, .int (f_J6_bitCount_0f7a4 a1)), (0, .ref q0), (1, .int a1)]) hx hb dX1_fineEach_39 hl (k := 0) rfl (nf_inc 1 (rfl : nI k7 = nI k7)) (by decide) rfl (fun ls hl => ?_)
            refine lv_goto (tgt := 7) hx hb dX1_fineEach_42 (by decide) ?_
            have hB2 : B_X1_fineEach_7 a1 nw (k7 + 1) = x7_0 := by
              rw [B_X1_fineEach_7, hB_7]
              rw [S_X1_fineEach_7, if_neg c_2, if_pos c_3]
            exact ih_7 (k7 + 1) x7_0 _ _ _ (by omega) (by omega) hB2 hP hD hS (lv_sub hl [0, 1, 2, 3] rfl)
          · refine lv_aload_n hx hb dX1_fineEach_30 rfl (lv_at hl 2 rfl) ?_
            refine lv_iload_n hx hb dX1_fineEach_31 rfl (lv_at hl 0 rfl) ?_
            refine lv_bipush (v := 12) hx hb dX1_fineEach_32 (by decide) ?_
            refine lv_iload_n hx hb dX1_fineEach_34 rfl (lv_at hl 1 rfl) ?_
            refine lv_idiv hx hb dX1_fineEach_35 (ne_nle (by assumption)) ?_
            refine mu_Vv (y := yX1_fine) (As := [.int (nI k7), .int (12 / (f_J6_bitCount_0f7a4 a1))]) (rest := []) (q0 := 0) (ws' := [(q0, .inr (1, [.ref t0, .ref q1])), (q1, .inr (2, [.ref q2])), (q2, .inl (cI, 15, .inl (f_X2_put_sf 15 x7_0 (10 + (nI k7)) ((f_X2_at 15 x7_0 (10 + (nI k7))) + (12 / (f_J6_bitCount_0f7a4 a1)))))), (t0, .inr (5, [.ref t1, .ref t3, .ref t5, .int (nI nP), .int (nI nR)]))]) (ad := [q0, q1, q2, t0]) CF (c_X1_fine l D cI cZ q0 t0 q1 q2 x7_0 (nI k7) (12 / (f_J6_bitCount_0f7a4 a1))) lk_X1_94 hP hE hD hS [0, 1, 2] rfl (by decide) (Nat.le_of_ble_eq_true rfl) rfl rfl rfl rfl rfl rfl hl.1 rfl (Nat.le_of_ble_eq_true rfl) ⟨Nat.le_of_ble_eq_true rfl, Nat.le_of_ble_eq_true rfl, rfl, rfl⟩ ⟨Nat.zero_le _, Nat.zero_le _⟩ dX1_fineEach_36 (fun H locs hP hD hS => ?_)
            refine lv_iinc (v := (nI (k7 + 1))) (lv' := [(3, .int (nI (k7 + 1))), (2, .int (f_J6_bitCount_0f7a4 a1)), (0, .ref q0), (1, .int a1)]) hx hb dX1_fineEach_39 hl (k := 0) rfl (nf_inc 1 (rfl : nI k7 = nI k7)) (by decide) rfl (fun ls hl => ?_)
            refine lv_goto (tgt := 7) hx hb dX1_fineEach_42 (by decide) ?_
            have hB2 : B_X1_fineEach_7 a1 nw (k7 + 1) = (f_X2_put_sf 15 x7_0 (10 + (nI k7)) ((f_X2_at 15 x7_0 (10 + (nI k7))) + (12 / (f_J6_bitCount_0f7a4 a1)))) := by
              rw [B_X1_fineEach_7, hB_7]
              rw [S_X1_fineEach_7, if_neg c_2, if_neg c_3]
            exact ih_7 (k7 + 1) (f_X2_put_sf 15 x7_0 (10 + (nI k7)) ((f_X2_at 15 x7_0 (10 + (nI k7))) + (12 / (f_J6_bitCount_0f7a4 a1)))) _ _ _ (by omega) (by omega) hB2 hP hD hS (lv_sub hl [0, 1, 2, 3] rfl)
  have e_k : 0 = nI (0) := (nf_c 0).trans (congrArg nI (by omega))
  rw [e_k] at hl
  exact LOOP_7 (nP - 0 + 1) 0 nw _ _ _ (Nat.zero_le _) (by omega) rfl hP hD hS (lv_sub hl [0, 1, 2, 3] rfl)
theorem lk_X1_105 : mLkV RX1 105 yX1_setTold cX1_setTold 3 none 2 := ⟨⟨tw_2_182, tw_1_6, tw_2_15, ⟨by decide +kernel, by decide +kernel, by decide +kernel⟩⟩, tw_2_13, tw_2_14⟩
def S_X1_tellEach_2 (a1 : Int32) (a2 : Int32) (k2 : Nat) (x2_0 : Nat → Int32) : (Nat → Int32) :=
  (if (f_X7_contains a1 (nI k2)) = 0 then x2_0 else (f_X2_put_sf 15 x2_0 (0 + (nI k2)) ((f_X2_at 15 x2_0 (0 + (nI k2))) ||| ((1 : Int32) <<< ((a2 : Int32) &&& 31)))))
def B_X1_tellEach_2 (a1 : Int32) (a2 : Int32) (i0 : Nat → Int32) : Nat → (Nat → Int32)
  | 0 => i0
  | k + 1 => S_X1_tellEach_2 a1 a2 k (B_X1_tellEach_2 a1 a2 i0 k)
set_option maxRecDepth 100000 in
set_option maxHeartbeats 4000000 in
theorem c_X1_tellEach (l : Launch) (D : va_G) (cI cZ : ClassId) (q0 t0 q1 q2 t1 t3 t5 : Nat) (nw : Nat → Int32) (nP : Nat) (nR : Nat) (a1 : Int32) (a2 : Int32) (hP5 : nP ≤ 5) : MU l D cI cZ yX1_tellEach cX1_tellEach 4 none (mR 2 44) [.ref q0, .int a1, .int a2] [(q0, .inr (1, [.ref t0, .ref q1])), (q1, .inr (2, [.ref q2])), (q2, .inl (cI, 15, .inl nw)), (t0, .inr (5, [.ref t1, .ref t3, .ref t5, .int (nI nP), .int (nI nR)]))] [(q0, .inr (1, [.ref t0, .ref q1])), (q1, .inr (2, [.ref q2])), (q2, .inl (cI, 15, .inl ((B_X1_tellEach_2 a1 a2 nw nP)))), (t0, .inr (5, [.ref t1, .ref t3, .ref t5, .int (nI nP), .int (nI nR)]))] none := by
  refine MU.of (by decide +kernel) (Nat.le_of_ble_eq_true rfl) ?_
  intro p e s m args below meth c ls Q A CF hr hlk hP hE hD hS hQ hl
  have hx := CF.1
  have hb := CF.2.1
  have hl : lv_has ls 4 [(0, .ref q0), (1, .int a1), (2, .int a2)] := hl
  refine lv_iconst (v := 0) hx hb dX1_tellEach_0 (by decide) ?_
  refine lv_istore_n (lv' := [(3, .int 0), (0, .ref q0), (1, .int a1), (2, .int a2)]) hx hb dX1_tellEach_1 rfl hl (by decide) rfl (fun ls hl => ?_)
  have LOOP_2 : ∀ (n_2 k2 : Nat) (x2_0 : Nat → Int32) (H : Heap) (locs : List Loc) (ls : Array Slot), k2 ≤ nP → nP - k2 < n_2 → (B_X1_tellEach_2 a1 a2 nw k2) = x2_0 → va_P D vwCl [(q0, .inr (1, [.ref t0, .ref q1])), (q1, .inr (2, [.ref q2])), (q2, .inl (cI, 15, .inl x2_0)), (t0, .inr (5, [.ref t1, .ref t3, .ref t5, .int (nI nP), .int (nI nR)]))] H → va_D A [(q0, .inr (1, [.ref t0, .ref q1])), (q1, .inr (2, [.ref q2])), (q2, .inl (cI, 15, .inl x2_0)), (t0, .inr (5, [.ref t1, .ref t3, .ref t5, .int (nI nP), .int (nI nR)]))] → va_S A s.heap H locs → lv_has ls 4 [(3, .int (nI k2)), (0, .ref q0), (1, .int a1), (2, .int a2)] → W p l e (mR 2 44) s m args below meth c H locs 0 0 Q (F0 m 2 ls []) := by
    intro n_2
    induction n_2 with
    | zero => intro k2 x2_0 H locs ls hk_2 hn_2 hB_2 hP hD hS hl; exact absurd hn_2 (Nat.not_lt_zero _)
    | succ n_2 ih_2 =>
      intro k2 x2_0 H locs ls hk_2 hn_2 hB_2 hP hD hS hl
      refine lv_iload_n hx hb dX1_tellEach_2 rfl (lv_at hl 0 rfl) ?_
      refine lv_aload_n hx hb dX1_tellEach_3 rfl (lv_at hl 1 rfl) ?_
      refine r_get (C := RX1) (T := TX1) (N := 2) (v := .ref t0) CF hE hP 0 rfl rfl inG1 0 (by decide) tw_1_79 rfl rfl dX1_tellEach_4 ?_
      refine ro_V (y := yX5_people) (As := []) (rest := [.int (nI k2)]) (q0 := 3) CF (c_X5_people l D cI cZ t0 t1 t3 t5 nP nR) lk_X1_50 hP hE [3] rfl rfl rfl rfl hl.1 rfl (Nat.le_of_ble_eq_true rfl) ⟨Nat.le_of_ble_eq_true rfl, Nat.le_of_ble_eq_true rfl, rfl, rfl⟩ ⟨Nat.zero_le _, Nat.zero_le _⟩ dX1_tellEach_7 ?_
      refine lv_icmp_ge (tgt := 41) hx hb dX1_tellEach_10 (by decide) (fun c_1 => ?_) (fun c_1 => ?_)
      · have o_1 : nP ≤ k2 := (cle (rfl : nI nP = nI nP) (rfl : nI k2 = nI k2) (by omega) (by omega)).mp c_1
        have hkN : nP = k2 := by omega
        subst hkN
        subst hB_2
        exact mu_retv CF hQ hr hlk hP hS dX1_tellEach_41 rfl
      · have o_1 : ¬ nP ≤ k2 := fun h => c_1 ((cle (rfl : nI nP = nI nP) (rfl : nI k2 = nI k2) (by omega) (by omega)).mpr h)
        refine lv_iload_n hx hb dX1_tellEach_13 rfl (lv_at hl 2 rfl) ?_
        refine lv_iload_n hx hb dX1_tellEach_14 rfl (lv_at hl 0 rfl) ?_
        refine ro_N (y := yX7_contains) (As := [.int a1, .int (nI k2)]) (rest := []) CF (c_X7_contains l D cI cZ a1 (nI k2)) ln_X1_57 hE rfl hl.1 rfl (Nat.le_of_ble_eq_true rfl) ⟨Nat.le_of_ble_eq_true rfl, Nat.le_of_ble_eq_true rfl, rfl, rfl⟩ ⟨Nat.zero_le _, Nat.zero_le _⟩ dX1_tellEach_15 ?_
        refine lv_if_eq (tgt := 35) hx hb dX1_tellEach_18 (by decide) (fun c_2 => ?_) (fun c_2 => ?_)
        · refine lv_iinc (v := (nI (k2 + 1))) (lv' := [(3, .int (nI (k2 + 1))), (0, .ref q0), (1, .int a1), (2, .int a2)]) hx hb dX1_tellEach_35 hl (k := 0) rfl (nf_inc 1 (rfl : nI k2 = nI k2)) (by decide) rfl (fun ls hl => ?_)
          refine lv_goto (tgt := 2) hx hb dX1_tellEach_38 (by decide) ?_
          have hB2 : B_X1_tellEach_2 a1 a2 nw (k2 + 1) = x2_0 := by
            rw [B_X1_tellEach_2, hB_2]
            rw [S_X1_tellEach_2, if_pos c_2]
          exact ih_2 (k2 + 1) x2_0 _ _ _ (by omega) (by omega) hB2 hP hD hS (lv_sub hl [0, 1, 2, 3] rfl)
        · refine lv_aload_n hx hb dX1_tellEach_21 rfl (lv_at hl 1 rfl) ?_
          refine lv_iload_n hx hb dX1_tellEach_22 rfl (lv_at hl 0 rfl) ?_
          refine lv_aload_n hx hb dX1_tellEach_23 rfl (lv_at hl 1 rfl) ?_
          refine lv_iload_n hx hb dX1_tellEach_24 rfl (lv_at hl 0 rfl) ?_
          refine ro_V (y := yX1_told) (As := [.int (nI k2)]) (rest := [.int (nI k2), .ref q0]) (q0 := 0) CF (c_X1_told l D cI cZ q0 t0 q1 q2 x2_0 (nI k2)) lk_X1_42 hP hE [0, 1, 2] rfl rfl rfl rfl hl.1 rfl (Nat.le_of_ble_eq_true rfl) ⟨Nat.le_of_ble_eq_true rfl, Nat.le_of_ble_eq_true rfl, rfl, rfl⟩ ⟨Nat.zero_le _, Nat.zero_le _⟩ dX1_tellEach_25 ?_
          refine lv_iconst (v := 1) hx hb dX1_tellEach_28 (by decide) ?_
          refine lv_iload_n hx hb dX1_tellEach_29 rfl (lv_at hl 3 rfl) ?_
          refine lv_ishl hx hb dX1_tellEach_30 ?_
          refine lv_ior hx hb dX1_tellEach_31 ?_
          refine mu_Vv (y := yX1_setTold) (As := [.int (nI k2), .int ((f_X2_at 15 x2_0 (0 + (nI k2))) ||| ((1 : Int32) <<< ((a2 : Int32) &&& 31)))]) (rest := []) (q0 := 0) (ws' := [(q0, .inr (1, [.ref t0, .ref q1])), (q1, .inr (2, [.ref q2])), (q2, .inl (cI, 15, .inl (f_X2_put_sf 15 x2_0 (0 + (nI k2)) ((f_X2_at 15 x2_0 (0 + (nI k2))) ||| ((1 : Int32) <<< ((a2 : Int32) &&& 31)))))), (t0, .inr (5, [.ref t1, .ref t3, .ref t5, .int (nI nP), .int (nI nR)]))]) (ad := [q0, q1, q2, t0]) CF (c_X1_setTold l D cI cZ q0 t0 q1 q2 x2_0 (nI k2) ((f_X2_at 15 x2_0 (0 + (nI k2))) ||| ((1 : Int32) <<< ((a2 : Int32) &&& 31)))) lk_X1_105 hP hE hD hS [0, 1, 2] rfl (by decide) (Nat.le_of_ble_eq_true rfl) rfl rfl rfl rfl rfl rfl hl.1 rfl (Nat.le_of_ble_eq_true rfl) ⟨Nat.le_of_ble_eq_true rfl, Nat.le_of_ble_eq_true rfl, rfl, rfl⟩ ⟨Nat.zero_le _, Nat.zero_le _⟩ dX1_tellEach_32 (fun H locs hP hD hS => ?_)
          refine lv_iinc (v := (nI (k2 + 1))) (lv' := [(3, .int (nI (k2 + 1))), (0, .ref q0), (1, .int a1), (2, .int a2)]) hx hb dX1_tellEach_35 hl (k := 0) rfl (nf_inc 1 (rfl : nI k2 = nI k2)) (by decide) rfl (fun ls hl => ?_)
          refine lv_goto (tgt := 2) hx hb dX1_tellEach_38 (by decide) ?_
          have hB2 : B_X1_tellEach_2 a1 a2 nw (k2 + 1) = (f_X2_put_sf 15 x2_0 (0 + (nI k2)) ((f_X2_at 15 x2_0 (0 + (nI k2))) ||| ((1 : Int32) <<< ((a2 : Int32) &&& 31)))) := by
            rw [B_X1_tellEach_2, hB_2]
            rw [S_X1_tellEach_2, if_neg c_2]
          exact ih_2 (k2 + 1) (f_X2_put_sf 15 x2_0 (0 + (nI k2)) ((f_X2_at 15 x2_0 (0 + (nI k2))) ||| ((1 : Int32) <<< ((a2 : Int32) &&& 31)))) _ _ _ (by omega) (by omega) hB2 hP hD hS (lv_sub hl [0, 1, 2, 3] rfl)
  have e_k : 0 = nI (0) := (nf_c 0).trans (congrArg nI (by omega))
  rw [e_k] at hl
  exact LOOP_2 (nP - 0 + 1) 0 nw _ _ _ (Nat.zero_le _) (by omega) rfl hP hD hS (lv_sub hl [0, 1, 2, 3] rfl)
theorem lk_X1_79 : mLkV RX1 79 yX1_ears cX1_ears 6 (some .int) 2 := ⟨⟨tw_2_143, tw_1_6, tw_2_146, ⟨by decide +kernel, by decide +kernel, by decide +kernel⟩⟩, tw_2_144, tw_2_145⟩
theorem lk_X1_82 : mLkV RX1 82 yX1_knowers cX1_knowers 4 (some .int) 1 := ⟨⟨tw_2_149, tw_1_6, tw_2_152, ⟨by decide +kernel, by decide +kernel, by decide +kernel⟩⟩, tw_2_150, tw_2_151⟩
theorem lk_X1_85 : mLkV RX1 85 yX1_firstBold cX1_firstBold 6 (some .int) 2 := ⟨⟨tw_2_156, tw_1_6, tw_2_159, ⟨by decide +kernel, by decide +kernel, by decide +kernel⟩⟩, tw_2_158, tp_1_6⟩
theorem lk_X1_91 : mLkV RX1 91 yX1_tellEach cX1_tellEach 4 none 2 := ⟨⟨tw_2_178, tw_1_6, tw_2_181, ⟨by decide +kernel, by decide +kernel, by decide +kernel⟩⟩, tw_2_180, tp_1_10⟩
theorem lk_X1_88 : mLkV RX1 88 yX1_fineEach cX1_fineEach 4 none 1 := ⟨⟨tw_2_164, tw_1_6, tw_2_167, ⟨by decide +kernel, by decide +kernel, by decide +kernel⟩⟩, tw_2_166, tp_1_8⟩
def f_X1_lie (nw : Nat → Int32) (nP : Nat) (nR : Nat) (kd : Nat → Int32) (nd : Nat → Int32) (gv : Nat → Int32) (a1 : Int32) (a2 : Int32) (a3 : Int32) : Int32 :=
  (if ((L_X1_firstBold_11 nw nP kd a1 (((B_X1_ears_5 nw nP kd a1 a3 0 nP)) &&& ((B_X1_knowers_4 nw nR nd gv a2 0 nP))) ((nP - 1) + 1) 0)) = (-9) then (-9) else (if (f_X2_at 5 kd a1) = 3 then ((L_X1_firstBold_11 nw nP kd a1 (((B_X1_ears_5 nw nP kd a1 a3 0 nP)) &&& ((B_X1_knowers_4 nw nR nd gv a2 0 nP))) ((nP - 1) + 1) 0)) else ((L_X1_firstBold_11 nw nP kd a1 (((B_X1_ears_5 nw nP kd a1 a3 0 nP)) &&& ((B_X1_knowers_4 nw nR nd gv a2 0 nP))) ((nP - 1) + 1) 0))))
def f_X1_lie_nw (nw : Nat → Int32) (nP : Nat) (nR : Nat) (kd : Nat → Int32) (nd : Nat → Int32) (gv : Nat → Int32) (a1 : Int32) (a2 : Int32) (a3 : Int32) : Nat → Int32 :=
  (if ((L_X1_firstBold_11 nw nP kd a1 (((B_X1_ears_5 nw nP kd a1 a3 0 nP)) &&& ((B_X1_knowers_4 nw nR nd gv a2 0 nP))) ((nP - 1) + 1) 0)) = (-9) then ((B_X1_fineEach_7 (((B_X1_ears_5 nw nP kd a1 a3 0 nP)) &&& ((B_X1_knowers_4 nw nR nd gv a2 0 nP))) nw nP)) else (if (f_X2_at 5 kd a1) = 3 then ((B_X1_tellEach_2 ((B_X1_ears_5 nw nP kd a1 a3 0 nP)) a2 nw nP)) else (f_X2_put_sf 15 ((B_X1_tellEach_2 ((B_X1_ears_5 nw nP kd a1 a3 0 nP)) a2 nw nP)) (10 + a1) ((f_X2_at 15 ((B_X1_tellEach_2 ((B_X1_ears_5 nw nP kd a1 a3 0 nP)) a2 nw nP)) (10 + a1)) + 1))))
set_option maxRecDepth 100000 in
set_option maxHeartbeats 4000000 in
theorem c_X1_lie (l : Launch) (D : va_G) (cI cZ : ClassId) (q0 t0 q1 q2 t1 t3 t5 t2 t4 t6 : Nat) (nw : Nat → Int32) (nP : Nat) (nR : Nat) (kd : Nat → Int32) (nd : Nat → Int32) (gv : Nat → Int32) (a1 : Int32) (a2 : Int32) (a3 : Int32) (hP5 : nP ≤ 5) (hR : nR ≤ 4) : MU l D cI cZ yX1_lie cX1_lie 7 (some .int) (mR 4 90) [.ref q0, .int a1, .int a2, .int a3] [(q0, .inr (1, [.ref t0, .ref q1])), (q1, .inr (2, [.ref q2])), (q2, .inl (cI, 15, .inl nw)), (t0, .inr (5, [.ref t1, .ref t3, .ref t5, .int (nI nP), .int (nI nR)])), (t1, .inr (2, [.ref t2])), (t2, .inl (cI, 5, .inl kd)), (t3, .inr (2, [.ref t4])), (t4, .inl (cI, 4, .inl nd)), (t5, .inr (2, [.ref t6])), (t6, .inl (cI, 4, .inl gv))] [(q0, .inr (1, [.ref t0, .ref q1])), (q1, .inr (2, [.ref q2])), (q2, .inl (cI, 15, .inl (f_X1_lie_nw nw nP nR kd nd gv a1 a2 a3))), (t0, .inr (5, [.ref t1, .ref t3, .ref t5, .int (nI nP), .int (nI nR)])), (t1, .inr (2, [.ref t2])), (t2, .inl (cI, 5, .inl kd)), (t3, .inr (2, [.ref t4])), (t4, .inl (cI, 4, .inl nd)), (t5, .inr (2, [.ref t6])), (t6, .inl (cI, 4, .inl gv))] (some (.int (f_X1_lie nw nP nR kd nd gv a1 a2 a3))) := by
  refine MU.of (by decide +kernel) (Nat.le_of_ble_eq_true rfl) ?_
  intro p e s m args below meth c ls Q A CF hr hlk hP hE hD hS hQ hl
  have hx := CF.1
  have hb := CF.2.1
  have hl : lv_has ls 7 [(0, .ref q0), (1, .int a1), (2, .int a2), (3, .int a3)] := hl
  refine lv_aload_n hx hb dX1_lie_0 rfl (lv_at hl 0 rfl) ?_
  refine lv_iload_n hx hb dX1_lie_1 rfl (lv_at hl 1 rfl) ?_
  refine lv_iload_n hx hb dX1_lie_2 rfl (lv_at hl 3 rfl) ?_
  refine ro_V (y := yX1_ears) (As := [.int a1, .int a3]) (rest := []) (q0 := 0) CF (c_X1_ears l D cI cZ q0 t0 q1 q2 t1 t3 t5 t2 nw nP nR kd a1 a3 (by omega)) lk_X1_79 hP hE [0, 1, 2, 3, 4, 5] rfl rfl rfl rfl hl.1 rfl (Nat.le_of_ble_eq_true rfl) ⟨Nat.le_of_ble_eq_true rfl, Nat.le_of_ble_eq_true rfl, rfl, rfl⟩ ⟨Nat.zero_le _, Nat.zero_le _⟩ dX1_lie_3 ?_
  refine lv_istore (lv' := [(4, .int ((B_X1_ears_5 nw nP kd a1 a3 0 nP))), (0, .ref q0), (1, .int a1), (2, .int a2), (3, .int a3)]) hx hb dX1_lie_6 hl (by decide) rfl (fun ls hl => ?_)
  refine lv_iload hx hb dX1_lie_8 (lv_at hl 0 rfl) ?_
  refine lv_aload_n hx hb dX1_lie_10 rfl (lv_at hl 1 rfl) ?_
  refine lv_iload_n hx hb dX1_lie_11 rfl (lv_at hl 3 rfl) ?_
  refine ro_V (y := yX1_knowers) (As := [.int a2]) (rest := [.int ((B_X1_ears_5 nw nP kd a1 a3 0 nP))]) (q0 := 0) CF (c_X1_knowers l D cI cZ q0 t0 q1 q2 t1 t3 t5 t4 t6 nw nP nR nd gv a2 (by omega) (by omega)) lk_X1_82 hP hE [0, 1, 2, 3, 6, 7, 8, 9] rfl rfl rfl rfl hl.1 rfl (Nat.le_of_ble_eq_true rfl) ⟨Nat.le_of_ble_eq_true rfl, Nat.le_of_ble_eq_true rfl, rfl, rfl⟩ ⟨Nat.zero_le _, Nat.zero_le _⟩ dX1_lie_12 ?_
  refine lv_iand hx hb dX1_lie_15 ?_
  refine lv_istore (lv' := [(5, .int (((B_X1_ears_5 nw nP kd a1 a3 0 nP)) &&& ((B_X1_knowers_4 nw nR nd gv a2 0 nP)))), (4, .int ((B_X1_ears_5 nw nP kd a1 a3 0 nP))), (0, .ref q0), (1, .int a1), (2, .int a2), (3, .int a3)]) hx hb dX1_lie_16 hl (by decide) rfl (fun ls hl => ?_)
  refine lv_aload_n hx hb dX1_lie_18 rfl (lv_at hl 2 rfl) ?_
  refine lv_iload_n hx hb dX1_lie_19 rfl (lv_at hl 3 rfl) ?_
  refine lv_iload hx hb dX1_lie_20 (lv_at hl 0 rfl) ?_
  refine ro_V (y := yX1_firstBold) (As := [.int a1, .int (((B_X1_ears_5 nw nP kd a1 a3 0 nP)) &&& ((B_X1_knowers_4 nw nR nd gv a2 0 nP)))]) (rest := []) (q0 := 0) CF (c_X1_firstBold l D cI cZ q0 t0 q1 q2 t1 t3 t5 t2 nw nP nR kd a1 (((B_X1_ears_5 nw nP kd a1 a3 0 nP)) &&& ((B_X1_knowers_4 nw nR nd gv a2 0 nP))) (by omega)) lk_X1_85 hP hE [0, 1, 2, 3, 4, 5] rfl rfl rfl rfl hl.1 rfl (Nat.le_of_ble_eq_true rfl) ⟨Nat.le_of_ble_eq_true rfl, Nat.le_of_ble_eq_true rfl, rfl, rfl⟩ ⟨Nat.zero_le _, Nat.zero_le _⟩ dX1_lie_22 ?_
  refine lv_istore (lv' := [(6, .int ((L_X1_firstBold_11 nw nP kd a1 (((B_X1_ears_5 nw nP kd a1 a3 0 nP)) &&& ((B_X1_knowers_4 nw nR nd gv a2 0 nP))) ((nP - 1) + 1) 0))), (5, .int (((B_X1_ears_5 nw nP kd a1 a3 0 nP)) &&& ((B_X1_knowers_4 nw nR nd gv a2 0 nP)))), (4, .int ((B_X1_ears_5 nw nP kd a1 a3 0 nP))), (0, .ref q0), (1, .int a1), (2, .int a2), (3, .int a3)]) hx hb dX1_lie_25 hl (by decide) rfl (fun ls hl => ?_)
  refine lv_iload hx hb dX1_lie_27 (lv_at hl 0 rfl) ?_
  refine lv_bipush (v := (-9)) hx hb dX1_lie_29 (by decide) ?_
  refine lv_icmp_ne (tgt := 43) hx hb dX1_lie_31 (by decide) (fun c_1 => ?_) (fun c_1 => ?_)
  · refine lv_aload_n hx hb dX1_lie_43 rfl (lv_at hl 3 rfl) ?_
    refine lv_iload hx hb dX1_lie_44 (lv_at hl 2 rfl) ?_
    refine lv_iload_n hx hb dX1_lie_46 rfl (lv_at hl 5 rfl) ?_
    refine mu_Vv (y := yX1_tellEach) (As := [.int ((B_X1_ears_5 nw nP kd a1 a3 0 nP)), .int a2]) (rest := []) (q0 := 0) (ws' := [(q0, .inr (1, [.ref t0, .ref q1])), (q1, .inr (2, [.ref q2])), (q2, .inl (cI, 15, .inl ((B_X1_tellEach_2 ((B_X1_ears_5 nw nP kd a1 a3 0 nP)) a2 nw nP)))), (t0, .inr (5, [.ref t1, .ref t3, .ref t5, .int (nI nP), .int (nI nR)])), (t1, .inr (2, [.ref t2])), (t2, .inl (cI, 5, .inl kd)), (t3, .inr (2, [.ref t4])), (t4, .inl (cI, 4, .inl nd)), (t5, .inr (2, [.ref t6])), (t6, .inl (cI, 4, .inl gv))]) (ad := [q0, q1, q2, t0, t1, t2, t3, t4, t5, t6]) CF (c_X1_tellEach l D cI cZ q0 t0 q1 q2 t1 t3 t5 nw nP nR ((B_X1_ears_5 nw nP kd a1 a3 0 nP)) a2 (by omega)) lk_X1_91 hP hE hD hS [0, 1, 2, 3] rfl (by decide) (Nat.le_of_ble_eq_true rfl) rfl rfl rfl rfl rfl rfl hl.1 rfl (Nat.le_of_ble_eq_true rfl) ⟨Nat.le_of_ble_eq_true rfl, Nat.le_of_ble_eq_true rfl, rfl, rfl⟩ ⟨Nat.zero_le _, Nat.zero_le _⟩ dX1_lie_47 (fun H locs hP hD hS => ?_)
    refine lv_aload_n hx hb dX1_lie_50 rfl (lv_at hl 3 rfl) ?_
    refine r_get (C := RX1) (T := TX1) (N := 2) (v := .ref t0) CF hE hP 0 rfl rfl inG1 0 (by decide) tw_1_79 rfl rfl dX1_lie_51 ?_
    refine lv_iload_n hx hb dX1_lie_54 rfl (lv_at hl 4 rfl) ?_
    refine ro_V (y := yX5_kind) (As := [.int a1]) (rest := []) (q0 := 3) CF (c_X5_kind l D cI cZ t0 t1 t3 t5 t2 nP nR kd a1) lk_X1_73 hP hE [3, 4, 5] rfl rfl rfl rfl hl.1 rfl (Nat.le_of_ble_eq_true rfl) ⟨Nat.le_of_ble_eq_true rfl, Nat.le_of_ble_eq_true rfl, rfl, rfl⟩ ⟨Nat.zero_le _, Nat.zero_le _⟩ dX1_lie_55 ?_
    refine lv_iconst (v := 3) hx hb dX1_lie_58 (by decide) ?_
    refine lv_icmp_eq (tgt := 68) hx hb dX1_lie_59 (by decide) (fun c_2 => ?_) (fun c_2 => ?_)
    · refine lv_iload hx hb dX1_lie_68 (lv_at hl 0 rfl) ?_
      have e_0 : (f_X1_lie_nw nw nP nR kd nd gv a1 a2 a3) = ((B_X1_tellEach_2 ((B_X1_ears_5 nw nP kd a1 a3 0 nP)) a2 nw nP)) := by rw [f_X1_lie_nw, if_neg c_1, if_pos c_2]
      exact mu_reti CF hQ hr hlk rfl hP hS dX1_lie_70 (by rw [f_X1_lie, if_neg c_1, if_pos c_2]) (by rw [e_0])
    · refine lv_aload_n hx hb dX1_lie_62 rfl (lv_at hl 3 rfl) ?_
      refine lv_iload_n hx hb dX1_lie_63 rfl (lv_at hl 4 rfl) ?_
      refine lv_iconst (v := 1) hx hb dX1_lie_64 (by decide) ?_
      refine mu_Vv (y := yX1_fine) (As := [.int a1, .int 1]) (rest := []) (q0 := 0) (ws' := [(q0, .inr (1, [.ref t0, .ref q1])), (q1, .inr (2, [.ref q2])), (q2, .inl (cI, 15, .inl (f_X2_put_sf 15 ((B_X1_tellEach_2 ((B_X1_ears_5 nw nP kd a1 a3 0 nP)) a2 nw nP)) (10 + a1) ((f_X2_at 15 ((B_X1_tellEach_2 ((B_X1_ears_5 nw nP kd a1 a3 0 nP)) a2 nw nP)) (10 + a1)) + 1)))), (t0, .inr (5, [.ref t1, .ref t3, .ref t5, .int (nI nP), .int (nI nR)])), (t1, .inr (2, [.ref t2])), (t2, .inl (cI, 5, .inl kd)), (t3, .inr (2, [.ref t4])), (t4, .inl (cI, 4, .inl nd)), (t5, .inr (2, [.ref t6])), (t6, .inl (cI, 4, .inl gv))]) (ad := [q0, q1, q2, t0, t1, t2, t3, t4, t5, t6]) CF (c_X1_fine l D cI cZ q0 t0 q1 q2 ((B_X1_tellEach_2 ((B_X1_ears_5 nw nP kd a1 a3 0 nP)) a2 nw nP)) a1 1) lk_X1_94 hP hE hD hS [0, 1, 2] rfl (by decide) (Nat.le_of_ble_eq_true rfl) rfl rfl rfl rfl rfl rfl hl.1 rfl (Nat.le_of_ble_eq_true rfl) ⟨Nat.le_of_ble_eq_true rfl, Nat.le_of_ble_eq_true rfl, rfl, rfl⟩ ⟨Nat.zero_le _, Nat.zero_le _⟩ dX1_lie_65 (fun H locs hP hD hS => ?_)
      refine lv_iload hx hb dX1_lie_68 (lv_at hl 0 rfl) ?_
      have e_0 : (f_X1_lie_nw nw nP nR kd nd gv a1 a2 a3) = (f_X2_put_sf 15 ((B_X1_tellEach_2 ((B_X1_ears_5 nw nP kd a1 a3 0 nP)) a2 nw nP)) (10 + a1) ((f_X2_at 15 ((B_X1_tellEach_2 ((B_X1_ears_5 nw nP kd a1 a3 0 nP)) a2 nw nP)) (10 + a1)) + 1)) := by rw [f_X1_lie_nw, if_neg c_1, if_neg c_2]
      exact mu_reti CF hQ hr hlk rfl hP hS dX1_lie_70 (by rw [f_X1_lie, if_neg c_1, if_neg c_2]) (by rw [e_0])
  · refine lv_aload_n hx hb dX1_lie_34 rfl (lv_at hl 3 rfl) ?_
    refine lv_iload hx hb dX1_lie_35 (lv_at hl 1 rfl) ?_
    refine mu_Vv (y := yX1_fineEach) (As := [.int (((B_X1_ears_5 nw nP kd a1 a3 0 nP)) &&& ((B_X1_knowers_4 nw nR nd gv a2 0 nP)))]) (rest := []) (q0 := 0) (ws' := [(q0, .inr (1, [.ref t0, .ref q1])), (q1, .inr (2, [.ref q2])), (q2, .inl (cI, 15, .inl ((B_X1_fineEach_7 (((B_X1_ears_5 nw nP kd a1 a3 0 nP)) &&& ((B_X1_knowers_4 nw nR nd gv a2 0 nP))) nw nP)))), (t0, .inr (5, [.ref t1, .ref t3, .ref t5, .int (nI nP), .int (nI nR)])), (t1, .inr (2, [.ref t2])), (t2, .inl (cI, 5, .inl kd)), (t3, .inr (2, [.ref t4])), (t4, .inl (cI, 4, .inl nd)), (t5, .inr (2, [.ref t6])), (t6, .inl (cI, 4, .inl gv))]) (ad := [q0, q1, q2, t0, t1, t2, t3, t4, t5, t6]) CF (c_X1_fineEach l D cI cZ q0 t0 q1 q2 t1 t3 t5 nw nP nR (((B_X1_ears_5 nw nP kd a1 a3 0 nP)) &&& ((B_X1_knowers_4 nw nR nd gv a2 0 nP))) (by omega)) lk_X1_88 hP hE hD hS [0, 1, 2, 3] rfl (by decide) (Nat.le_of_ble_eq_true rfl) rfl rfl rfl rfl rfl rfl hl.1 rfl (Nat.le_of_ble_eq_true rfl) ⟨Nat.le_of_ble_eq_true rfl, Nat.le_of_ble_eq_true rfl, rfl, rfl⟩ ⟨Nat.zero_le _, Nat.zero_le _⟩ dX1_lie_37 (fun H locs hP hD hS => ?_)
    refine lv_bipush (v := (-9)) hx hb dX1_lie_40 (by decide) ?_
    have e_0 : (f_X1_lie_nw nw nP nR kd nd gv a1 a2 a3) = ((B_X1_fineEach_7 (((B_X1_ears_5 nw nP kd a1 a3 0 nP)) &&& ((B_X1_knowers_4 nw nR nd gv a2 0 nP))) nw nP)) := by rw [f_X1_lie_nw, if_pos c_1]
    exact mu_reti CF hQ hr hlk rfl hP hS dX1_lie_42 (by rw [f_X1_lie, if_pos c_1]) (by rw [e_0])
def S_X1_member_5 (nP : Nat) (a1 : Int32) (rec : Nat → (Int32) → ((Int32))) (k5 : Nat) (x5_0 : Int32) : (Int32) :=
  (if (nI nP) ≤ (nI k5) then 0 else (if (f_X7_contains a1 (nI k5)) = 0 then (rec (k5 + 1) x5_0) else (if x5_0 = 0 then (nI k5) else (rec (k5 + 1) (x5_0 + (-1))))))
def L_X1_member_5 (nP : Nat) (a1 : Int32) : Nat → Nat → (Int32) → ((Int32))
  | 0, _, _ => 0
  | n + 1, k, y0 => S_X1_member_5 nP a1 (L_X1_member_5 nP a1 n) k y0
set_option maxRecDepth 100000 in
set_option maxHeartbeats 4000000 in
theorem c_X1_member (l : Launch) (D : va_G) (cI cZ : ClassId) (q0 t0 q1 t1 t3 t5 : Nat) (nP : Nat) (nR : Nat) (a1 : Int32) (a2 : Int32) (hP5 : nP ≤ 5) : RO l D cI cZ yX1_member cX1_member 5 (some .int) (mR 1 21) [.ref q0, .int a1, .int a2] [(q0, .inr (1, [.ref t0, .ref q1])), (t0, .inr (5, [.ref t1, .ref t3, .ref t5, .int (nI nP), .int (nI nR)]))] (some (.int ((L_X1_member_5 nP a1 (nP + 1) 0 a2)))) := by
  refine RO.of (by decide +kernel) (Nat.le_of_ble_eq_true rfl) ?_
  intro p e s m args below meth c ls Q CF hr hlk hP hE hQ hl
  have hx := CF.1
  have hb := CF.2.1
  have hl : lv_has ls 5 [(0, .ref q0), (1, .int a1), (2, .int a2)] := hl
  refine lv_iload_n hx hb dX1_member_0 rfl (lv_at hl 2 rfl) ?_
  refine lv_istore_n (lv' := [(3, .int a2), (0, .ref q0), (1, .int a1), (2, .int a2)]) hx hb dX1_member_1 rfl hl (by decide) rfl (fun ls hl => ?_)
  refine lv_iconst (v := 0) hx hb dX1_member_2 (by decide) ?_
  refine lv_istore (lv' := [(4, .int 0), (3, .int a2), (0, .ref q0), (1, .int a1), (2, .int a2)]) hx hb dX1_member_3 hl (by decide) rfl (fun ls hl => ?_)
  have LOOP_5 : ∀ (n_5 k5 : Nat) (x5_0 : Int32) (ls : Array Slot), k5 ≤ nP → nP - k5 < n_5 → L_X1_member_5 nP a1 n_5 k5 x5_0 = L_X1_member_5 nP a1 (nP + 1) 0 a2 → lv_has ls 5 [(4, .int (nI k5)), (3, .int x5_0), (0, .ref q0), (1, .int a1), (2, .int a2)] → W p l e (mR 1 21) s m args below meth c s.heap [] 0 0 Q (F0 m 5 ls []) := by
    intro n_5
    induction n_5 with
    | zero => intro k5 x5_0 ls hk_5 hn_5 hR_5 hl; exact absurd hn_5 (Nat.not_lt_zero _)
    | succ n_5 ih_5 =>
      intro k5 x5_0 ls hk_5 hn_5 hR_5 hl
      refine lv_iload hx hb dX1_member_5 (lv_at hl 0 rfl) ?_
      refine lv_aload_n hx hb dX1_member_7 rfl (lv_at hl 2 rfl) ?_
      refine r_get (C := RX1) (T := TX1) (N := 2) (v := .ref t0) CF hE hP 0 rfl rfl inG1 0 (by decide) tw_1_79 rfl rfl dX1_member_8 ?_
      refine ro_V (y := yX5_people) (As := []) (rest := [.int (nI k5)]) (q0 := 1) CF (c_X5_people l D cI cZ t0 t1 t3 t5 nP nR) lk_X1_50 hP hE [1] rfl rfl rfl rfl hl.1 rfl (Nat.le_of_ble_eq_true rfl) ⟨Nat.le_of_ble_eq_true rfl, Nat.le_of_ble_eq_true rfl, rfl, rfl⟩ ⟨Nat.zero_le _, Nat.zero_le _⟩ dX1_member_11 ?_
      refine lv_icmp_ge (tgt := 42) hx hb dX1_member_14 (by decide) (fun c_2 => ?_) (fun c_2 => ?_)
      · have o_2 : nP ≤ k5 := (cle (rfl : nI nP = nI nP) (rfl : nI k5 = nI k5) (by omega) (by omega)).mp c_2
        refine lv_iconst (v := 0) hx hb dX1_member_42 (by decide) ?_
        have hq_1 : L_X1_member_5 nP a1 (nP + 1) 0 a2 = 0 := by
          rw [← hR_5]
          show S_X1_member_5 nP a1 (L_X1_member_5 nP a1 n_5) k5 x5_0 = _
          rw [S_X1_member_5, if_pos c_2]
        exact ro_ret CF hQ hr hlk rfl dX1_member_43 (by rw [hq_1])
      · have o_2 : ¬ nP ≤ k5 := fun h => c_2 ((cle (rfl : nI nP = nI nP) (rfl : nI k5 = nI k5) (by omega) (by omega)).mpr h)
        refine lv_iload_n hx hb dX1_member_17 rfl (lv_at hl 3 rfl) ?_
        refine lv_iload hx hb dX1_member_18 (lv_at hl 0 rfl) ?_
        refine ro_N (y := yX7_contains) (As := [.int a1, .int (nI k5)]) (rest := []) CF (c_X7_contains l D cI cZ a1 (nI k5)) ln_X1_57 hE rfl hl.1 rfl (Nat.le_of_ble_eq_true rfl) ⟨Nat.le_of_ble_eq_true rfl, Nat.le_of_ble_eq_true rfl, rfl, rfl⟩ ⟨Nat.zero_le _, Nat.zero_le _⟩ dX1_member_20 ?_
        refine lv_if_eq (tgt := 36) hx hb dX1_member_23 (by decide) (fun c_3 => ?_) (fun c_3 => ?_)
        · refine lv_iinc (v := (nI (k5 + 1))) (lv' := [(4, .int (nI (k5 + 1))), (3, .int x5_0), (0, .ref q0), (1, .int a1), (2, .int a2)]) hx hb dX1_member_36 hl (k := 0) rfl (nf_inc 1 (rfl : nI k5 = nI k5)) (by decide) rfl (fun ls hl => ?_)
          refine lv_goto (tgt := 5) hx hb dX1_member_39 (by decide) ?_
          have hR2 : L_X1_member_5 nP a1 n_5 (k5 + 1) x5_0 = L_X1_member_5 nP a1 (nP + 1) 0 a2 := by
            rw [← hR_5]
            show _ = S_X1_member_5 nP a1 (L_X1_member_5 nP a1 n_5) k5 x5_0
            rw [S_X1_member_5, if_neg c_2, if_pos c_3]
          exact ih_5 (k5 + 1) x5_0 _ (by omega) (by omega) hR2 (lv_sub hl [0, 1, 2, 3, 4] rfl)
        · refine lv_iload_n hx hb dX1_member_26 rfl (lv_at hl 1 rfl) ?_
          refine lv_if_ne (tgt := 33) hx hb dX1_member_27 (by decide) (fun c_4 => ?_) (fun c_4 => ?_)
          · refine lv_iinc (v := (x5_0 + (-1))) (lv' := [(3, .int (x5_0 + (-1))), (4, .int (nI k5)), (0, .ref q0), (1, .int a1), (2, .int a2)]) hx hb dX1_member_33 hl (k := 1) rfl rfl (by decide) rfl (fun ls hl => ?_)
            refine lv_iinc (v := (nI (k5 + 1))) (lv' := [(4, .int (nI (k5 + 1))), (3, .int (x5_0 + (-1))), (0, .ref q0), (1, .int a1), (2, .int a2)]) hx hb dX1_member_36 hl (k := 1) rfl (nf_inc 1 (rfl : nI k5 = nI k5)) (by decide) rfl (fun ls hl => ?_)
            refine lv_goto (tgt := 5) hx hb dX1_member_39 (by decide) ?_
            have hR2 : L_X1_member_5 nP a1 n_5 (k5 + 1) (x5_0 + (-1)) = L_X1_member_5 nP a1 (nP + 1) 0 a2 := by
              rw [← hR_5]
              show _ = S_X1_member_5 nP a1 (L_X1_member_5 nP a1 n_5) k5 x5_0
              rw [S_X1_member_5, if_neg c_2, if_neg c_3, if_neg c_4]
            exact ih_5 (k5 + 1) (x5_0 + (-1)) _ (by omega) (by omega) hR2 (lv_sub hl [0, 1, 2, 3, 4] rfl)
          · refine lv_iload hx hb dX1_member_30 (lv_at hl 0 rfl) ?_
            have hq_1 : L_X1_member_5 nP a1 (nP + 1) 0 a2 = (nI k5) := by
              rw [← hR_5]
              show S_X1_member_5 nP a1 (L_X1_member_5 nP a1 n_5) k5 x5_0 = _
              rw [S_X1_member_5, if_neg c_2, if_neg c_3, if_pos c_4]
            exact ro_ret CF hQ hr hlk rfl dX1_member_32 (by rw [hq_1])
  have e_k : 0 = nI (0) := (nf_c 0).trans (congrArg nI (by omega))
  rw [e_k] at hl
  exact LOOP_5 (nP + 1) 0 a2 _ (Nat.zero_le _) (by omega) rfl (lv_sub hl [0, 1, 2, 3, 4] rfl)
def S_X1_seatFigures_4 (nw : Nat → Int32) (nP : Nat) (k4 : Nat) (x4_0 : Int32) : (Int32) :=
  (((10 * x4_0) + ((L_X1_sitter_2 nw nP (nI k4) (nP + 1) 0))) + 1)
def B_X1_seatFigures_4 (nw : Nat → Int32) (nP : Nat) (i0 : Int32) : Nat → (Int32)
  | 0 => i0
  | k + 1 => S_X1_seatFigures_4 nw nP k (B_X1_seatFigures_4 nw nP i0 k)
set_option maxRecDepth 100000 in
set_option maxHeartbeats 4000000 in
theorem c_X1_seatFigures (l : Launch) (D : va_G) (cI cZ : ClassId) (q0 t0 q1 q2 t1 t3 t5 : Nat) (nw : Nat → Int32) (nP : Nat) (nR : Nat) (hP5 : nP ≤ 5) : RO l D cI cZ yX1_seatFigures cX1_seatFigures 3 (some .int) (mR 3 64) [.ref q0] [(q0, .inr (1, [.ref t0, .ref q1])), (q1, .inr (2, [.ref q2])), (q2, .inl (cI, 15, .inl nw)), (t0, .inr (5, [.ref t1, .ref t3, .ref t5, .int (nI nP), .int (nI nR)]))] (some (.int ((B_X1_seatFigures_4 nw nP 0 nP)))) := by
  refine RO.of (by decide +kernel) (Nat.le_of_ble_eq_true rfl) ?_
  intro p e s m args below meth c ls Q CF hr hlk hP hE hQ hl
  have hx := CF.1
  have hb := CF.2.1
  have hl : lv_has ls 3 [(0, .ref q0)] := hl
  refine lv_iconst (v := 0) hx hb dX1_seatFigures_0 (by decide) ?_
  refine lv_istore_n (lv' := [(1, .int 0), (0, .ref q0)]) hx hb dX1_seatFigures_1 rfl hl (by decide) rfl (fun ls hl => ?_)
  refine lv_iconst (v := 0) hx hb dX1_seatFigures_2 (by decide) ?_
  refine lv_istore_n (lv' := [(2, .int 0), (1, .int 0), (0, .ref q0)]) hx hb dX1_seatFigures_3 rfl hl (by decide) rfl (fun ls hl => ?_)
  have LOOP_4 : ∀ (n_4 k4 : Nat) (x4_0 : Int32) (ls : Array Slot), k4 ≤ nP → nP - k4 < n_4 → (B_X1_seatFigures_4 nw nP 0 k4) = x4_0 → lv_has ls 3 [(2, .int (nI k4)), (1, .int x4_0), (0, .ref q0)] → W p l e (mR 3 64) s m args below meth c s.heap [] 0 0 Q (F0 m 4 ls []) := by
    intro n_4
    induction n_4 with
    | zero => intro k4 x4_0 ls hk_4 hn_4 hB_4 hl; exact absurd hn_4 (Nat.not_lt_zero _)
    | succ n_4 ih_4 =>
      intro k4 x4_0 ls hk_4 hn_4 hB_4 hl
      refine lv_iload_n hx hb dX1_seatFigures_4 rfl (lv_at hl 0 rfl) ?_
      refine lv_aload_n hx hb dX1_seatFigures_5 rfl (lv_at hl 2 rfl) ?_
      refine r_get (C := RX1) (T := TX1) (N := 2) (v := .ref t0) CF hE hP 0 rfl rfl inG1 0 (by decide) tw_1_79 rfl rfl dX1_seatFigures_6 ?_
      refine ro_V (y := yX5_people) (As := []) (rest := [.int (nI k4)]) (q0 := 3) CF (c_X5_people l D cI cZ t0 t1 t3 t5 nP nR) lk_X1_50 hP hE [3] rfl rfl rfl rfl hl.1 rfl (Nat.le_of_ble_eq_true rfl) ⟨Nat.le_of_ble_eq_true rfl, Nat.le_of_ble_eq_true rfl, rfl, rfl⟩ ⟨Nat.zero_le _, Nat.zero_le _⟩ dX1_seatFigures_9 ?_
      refine lv_icmp_ge (tgt := 34) hx hb dX1_seatFigures_12 (by decide) (fun c_1 => ?_) (fun c_1 => ?_)
      · have o_1 : nP ≤ k4 := (cle (rfl : nI nP = nI nP) (rfl : nI k4 = nI k4) (by omega) (by omega)).mp c_1
        have hkN : nP = k4 := by omega
        subst hkN
        subst hB_4
        refine lv_iload_n hx hb dX1_seatFigures_34 rfl (lv_at hl 1 rfl) ?_
        exact ro_ret CF hQ hr hlk rfl dX1_seatFigures_35 rfl
      · have o_1 : ¬ nP ≤ k4 := fun h => c_1 ((cle (rfl : nI nP = nI nP) (rfl : nI k4 = nI k4) (by omega) (by omega)).mpr h)
        refine lv_bipush (v := 10) hx hb dX1_seatFigures_15 (by decide) ?_
        refine lv_iload_n hx hb dX1_seatFigures_17 rfl (lv_at hl 1 rfl) ?_
        refine lv_imul hx hb dX1_seatFigures_18 ?_
        refine lv_aload_n hx hb dX1_seatFigures_19 rfl (lv_at hl 2 rfl) ?_
        refine lv_iload_n hx hb dX1_seatFigures_20 rfl (lv_at hl 0 rfl) ?_
        refine ro_V (y := yX1_sitter) (As := [.int (nI k4)]) (rest := [.int (10 * x4_0)]) (q0 := 0) CF (c_X1_sitter l D cI cZ q0 t0 q1 q2 t1 t3 t5 nw nP nR (nI k4) (by omega)) lk_X1_97 hP hE [0, 1, 2, 3] rfl rfl rfl rfl hl.1 rfl (Nat.le_of_ble_eq_true rfl) ⟨Nat.le_of_ble_eq_true rfl, Nat.le_of_ble_eq_true rfl, rfl, rfl⟩ ⟨Nat.zero_le _, Nat.zero_le _⟩ dX1_seatFigures_21 ?_
        refine lv_iadd hx hb dX1_seatFigures_24 ?_
        refine lv_iconst (v := 1) hx hb dX1_seatFigures_25 (by decide) ?_
        refine lv_iadd hx hb dX1_seatFigures_26 ?_
        refine lv_istore_n (lv' := [(1, .int (((10 * x4_0) + ((L_X1_sitter_2 nw nP (nI k4) (nP + 1) 0))) + 1)), (2, .int (nI k4)), (0, .ref q0)]) hx hb dX1_seatFigures_27 rfl hl (by decide) rfl (fun ls hl => ?_)
        refine lv_iinc (v := (nI (k4 + 1))) (lv' := [(2, .int (nI (k4 + 1))), (1, .int (((10 * x4_0) + ((L_X1_sitter_2 nw nP (nI k4) (nP + 1) 0))) + 1)), (0, .ref q0)]) hx hb dX1_seatFigures_28 hl (k := 1) rfl (nf_inc 1 (rfl : nI k4 = nI k4)) (by decide) rfl (fun ls hl => ?_)
        refine lv_goto (tgt := 4) hx hb dX1_seatFigures_31 (by decide) ?_
        have hB2 : B_X1_seatFigures_4 nw nP 0 (k4 + 1) = (((10 * x4_0) + ((L_X1_sitter_2 nw nP (nI k4) (nP + 1) 0))) + 1) := by
          rw [B_X1_seatFigures_4, hB_4]
          rw [S_X1_seatFigures_4]
        exact ih_4 (k4 + 1) (((10 * x4_0) + ((L_X1_sitter_2 nw nP (nI k4) (nP + 1) 0))) + 1) _ (by omega) (by omega) hB2 (lv_sub hl [0, 1, 2] rfl)
  have e_k : 0 = nI (0) := (nf_c 0).trans (congrArg nI (by omega))
  rw [e_k] at hl
  exact LOOP_4 (nP - 0 + 1) 0 0 _ (Nat.zero_le _) (by omega) rfl (lv_sub hl [0, 1, 2] rfl)
theorem ln_X1_108 : mLkN RX1 108 yX7_factorial RX7 cX7_factorial 3 (some .int) 1 := ⟨by decide +kernel, tw_1_1, tw_2_229, ⟨by decide +kernel, by decide +kernel, by decide +kernel⟩, tw_2_228⟩
theorem lk_X1_114 : mLkV RX1 114 yX1_member cX1_member 5 (some .int) 2 := ⟨⟨tw_2_236, tw_1_6, tw_2_239, ⟨by decide +kernel, by decide +kernel, by decide +kernel⟩⟩, tw_2_238, tp_1_11⟩
theorem lk_X1_117 : mLkV RX1 117 yX1_setSeat cX1_setSeat 3 none 2 := ⟨⟨tw_3_0, tw_1_6, tw_2_20, ⟨by decide +kernel, by decide +kernel, by decide +kernel⟩⟩, tw_2_18, tw_2_19⟩
def h_X1_sitInOrder_59 (x35_0 : Int32) (x35_1 : Int32) : Int32 :=
  (x35_1 / (if (f_J6_bitCount_0f7a4 x35_0) < 1 then 1 else (f_J6_bitCount_0f7a4 x35_0)))
def h_X1_sitInOrder_75 (nP : Nat) (x35_0 : Int32) (x35_1 : Int32) (x35_2 : Int32) : Int32 :=
  ((L_X1_member_5 nP x35_0 (nP + 1) 0 (x35_2 / (if (h_X1_sitInOrder_59 x35_0 x35_1) < 1 then 1 else (h_X1_sitInOrder_59 x35_0 x35_1)))))
def h_X1_sitInOrder_86 (x35_0 : Int32) (x35_1 : Int32) (x35_2 : Int32) : Int32 :=
  (x35_2 - x35_2 / (if (h_X1_sitInOrder_59 x35_0 x35_1) < 1 then 1 else (h_X1_sitInOrder_59 x35_0 x35_1)) * (if (h_X1_sitInOrder_59 x35_0 x35_1) < 1 then 1 else (h_X1_sitInOrder_59 x35_0 x35_1)))
def S_X1_sitInOrder_35 (nw : Nat → Int32) (nP : Nat) (k35 : Nat) (x35_0 : Int32) (x35_1 : Int32) (x35_2 : Int32) (x35_3 : Nat → Int32) : (Int32) × (Int32) × (Int32) × (Nat → Int32) :=
  (if (nI k35) = (f_X2_at 15 nw (5 + 0)) then (x35_0, x35_1, x35_2, x35_3) else ((x35_0 &&& (((1 : Int32) <<< (((h_X1_sitInOrder_75 nP x35_0 x35_1 x35_2) : Int32) &&& 31)) ^^^ (-1))), (h_X1_sitInOrder_59 x35_0 x35_1), (h_X1_sitInOrder_86 x35_0 x35_1 x35_2), (f_X2_put_sf 15 x35_3 (5 + (h_X1_sitInOrder_75 nP x35_0 x35_1 x35_2)) (nI k35))))
def B_X1_sitInOrder_35 (nw : Nat → Int32) (nP : Nat) (i0 : Int32) (i1 : Int32) (i2 : Int32) (i3 : Nat → Int32) : Nat → (Int32) × (Int32) × (Int32) × (Nat → Int32)
  | 0 => (i0, i1, i2, i3)
  | k + 1 => S_X1_sitInOrder_35 nw nP k (B_X1_sitInOrder_35 nw nP i0 i1 i2 i3 k).1 (B_X1_sitInOrder_35 nw nP i0 i1 i2 i3 k).2.1 (B_X1_sitInOrder_35 nw nP i0 i1 i2 i3 k).2.2.1 (B_X1_sitInOrder_35 nw nP i0 i1 i2 i3 k).2.2.2
set_option maxRecDepth 100000 in
set_option maxHeartbeats 4000000 in
theorem c_X1_sitInOrder (l : Launch) (D : va_G) (cI cZ : ClassId) (q0 t0 q1 q2 t1 t3 t5 : Nat) (nw : Nat → Int32) (nP : Nat) (nR : Nat) (a1 : Int32) (hP5 : nP ≤ 5) (hP1 : 1 ≤ nP) : MU l D cI cZ yX1_sitInOrder cX1_sitInOrder 9 none (mR 2 45) [.ref q0, .int a1] [(q0, .inr (1, [.ref t0, .ref q1])), (q1, .inr (2, [.ref q2])), (q2, .inl (cI, 15, .inl nw)), (t0, .inr (5, [.ref t1, .ref t3, .ref t5, .int (nI nP), .int (nI nR)]))] [(q0, .inr (1, [.ref t0, .ref q1])), (q1, .inr (2, [.ref q2])), (q2, .inl (cI, 15, .inl ((B_X1_sitInOrder_35 nw nP (((1 : Int32) <<< (((nI nP) : Int32) &&& 31)) - 2) ((B_X7_factorial_4 1 ((nP - 1) - 1))) a1 nw nP).2.2.2))), (t0, .inr (5, [.ref t1, .ref t3, .ref t5, .int (nI nP), .int (nI nR)]))] none := by
  refine MU.of (by decide +kernel) (Nat.le_of_ble_eq_true rfl) ?_
  intro p e s m args below meth c ls Q A CF hr hlk hP hE hD hS hQ hl
  have hx := CF.1
  have hb := CF.2.1
  have hl : lv_has ls 9 [(0, .ref q0), (1, .int a1)] := hl
  refine lv_aload_n hx hb dX1_sitInOrder_0 rfl (lv_at hl 0 rfl) ?_
  refine r_get (C := RX1) (T := TX1) (N := 2) (v := .ref t0) CF hE hP 0 rfl rfl inG1 0 (by decide) tw_1_79 rfl rfl dX1_sitInOrder_1 ?_
  refine ro_V (y := yX5_people) (As := []) (rest := []) (q0 := 3) CF (c_X5_people l D cI cZ t0 t1 t3 t5 nP nR) lk_X1_50 hP hE [3] rfl rfl rfl rfl hl.1 rfl (Nat.le_of_ble_eq_true rfl) ⟨Nat.le_of_ble_eq_true rfl, Nat.le_of_ble_eq_true rfl, rfl, rfl⟩ ⟨Nat.zero_le _, Nat.zero_le _⟩ dX1_sitInOrder_4 ?_
  refine lv_istore_n (lv' := [(2, .int (nI nP)), (0, .ref q0), (1, .int a1)]) hx hb dX1_sitInOrder_7 rfl hl (by decide) rfl (fun ls hl => ?_)
  refine lv_iconst (v := 1) hx hb dX1_sitInOrder_8 (by decide) ?_
  refine lv_iload_n hx hb dX1_sitInOrder_9 rfl (lv_at hl 0 rfl) ?_
  refine lv_ishl hx hb dX1_sitInOrder_10 ?_
  refine lv_iconst (v := 2) hx hb dX1_sitInOrder_11 (by decide) ?_
  refine lv_isub hx hb dX1_sitInOrder_12 ?_
  refine lv_istore_n (lv' := [(3, .int (((1 : Int32) <<< (((nI nP) : Int32) &&& 31)) - 2)), (2, .int (nI nP)), (0, .ref q0), (1, .int a1)]) hx hb dX1_sitInOrder_13 rfl hl (by decide) rfl (fun ls hl => ?_)
  refine lv_iload_n hx hb dX1_sitInOrder_14 rfl (lv_at hl 1 rfl) ?_
  refine lv_iconst (v := 1) hx hb dX1_sitInOrder_15 (by decide) ?_
  refine lv_isub hx hb dX1_sitInOrder_16 ?_
  refine ro_N (y := yX7_factorial) (As := [.int ((nI nP) - 1)]) (rest := []) CF (c_X7_factorial l D cI cZ ((nI nP) - 1) (nP - 1) (nf_sub (rfl : nI nP = nI nP) (nf_c 1) (by omega)) (by omega)) ln_X1_108 hE rfl hl.1 rfl (Nat.le_of_ble_eq_true rfl) ⟨Nat.le_of_ble_eq_true rfl, Nat.le_of_ble_eq_true rfl, rfl, rfl⟩ ⟨Nat.zero_le _, Nat.zero_le _⟩ dX1_sitInOrder_17 ?_
  refine lv_istore (lv' := [(4, .int ((B_X7_factorial_4 1 ((nP - 1) - 1)))), (3, .int (((1 : Int32) <<< (((nI nP) : Int32) &&& 31)) - 2)), (2, .int (nI nP)), (0, .ref q0), (1, .int a1)]) hx hb dX1_sitInOrder_20 hl (by decide) rfl (fun ls hl => ?_)
  refine lv_iload_n hx hb dX1_sitInOrder_22 rfl (lv_at hl 4 rfl) ?_
  refine lv_istore (lv' := [(5, .int a1), (4, .int ((B_X7_factorial_4 1 ((nP - 1) - 1)))), (3, .int (((1 : Int32) <<< (((nI nP) : Int32) &&& 31)) - 2)), (2, .int (nI nP)), (0, .ref q0), (1, .int a1)]) hx hb dX1_sitInOrder_23 hl (by decide) rfl (fun ls hl => ?_)
  refine lv_aload_n hx hb dX1_sitInOrder_25 rfl (lv_at hl 4 rfl) ?_
  refine lv_iconst (v := 0) hx hb dX1_sitInOrder_26 (by decide) ?_
  refine ro_V (y := yX1_seat) (As := [.int 0]) (rest := []) (q0 := 0) CF (c_X1_seat l D cI cZ q0 t0 q1 q2 nw 0) lk_X1_61 hP hE [0, 1, 2] rfl rfl rfl rfl hl.1 rfl (Nat.le_of_ble_eq_true rfl) ⟨Nat.le_of_ble_eq_true rfl, Nat.le_of_ble_eq_true rfl, rfl, rfl⟩ ⟨Nat.zero_le _, Nat.zero_le _⟩ dX1_sitInOrder_27 ?_
  refine lv_istore (lv' := [(6, .int (f_X2_at 15 nw (5 + 0))), (5, .int a1), (4, .int ((B_X7_factorial_4 1 ((nP - 1) - 1)))), (3, .int (((1 : Int32) <<< (((nI nP) : Int32) &&& 31)) - 2)), (2, .int (nI nP)), (0, .ref q0), (1, .int a1)]) hx hb dX1_sitInOrder_30 hl (by decide) rfl (fun ls hl => ?_)
  refine lv_iconst (v := 0) hx hb dX1_sitInOrder_32 (by decide) ?_
  refine lv_istore (lv' := [(7, .int 0), (6, .int (f_X2_at 15 nw (5 + 0))), (5, .int a1), (4, .int ((B_X7_factorial_4 1 ((nP - 1) - 1)))), (3, .int (((1 : Int32) <<< (((nI nP) : Int32) &&& 31)) - 2)), (2, .int (nI nP)), (0, .ref q0), (1, .int a1)]) hx hb dX1_sitInOrder_33 hl (by decide) rfl (fun ls hl => ?_)
  have LOOP_35 : ∀ (n_35 k35 : Nat) (x35_0 : Int32) (x35_1 : Int32) (x35_2 : Int32) (x35_3 : Nat → Int32) (H : Heap) (locs : List Loc) (ls : Array Slot), k35 ≤ nP → nP - k35 < n_35 → (B_X1_sitInOrder_35 nw nP (((1 : Int32) <<< (((nI nP) : Int32) &&& 31)) - 2) ((B_X7_factorial_4 1 ((nP - 1) - 1))) a1 nw k35) = (x35_0, x35_1, x35_2, x35_3) → va_P D vwCl [(q0, .inr (1, [.ref t0, .ref q1])), (q1, .inr (2, [.ref q2])), (q2, .inl (cI, 15, .inl x35_3)), (t0, .inr (5, [.ref t1, .ref t3, .ref t5, .int (nI nP), .int (nI nR)]))] H → va_D A [(q0, .inr (1, [.ref t0, .ref q1])), (q1, .inr (2, [.ref q2])), (q2, .inl (cI, 15, .inl x35_3)), (t0, .inr (5, [.ref t1, .ref t3, .ref t5, .int (nI nP), .int (nI nR)]))] → va_S A s.heap H locs → lv_has ls 9 [(7, .int (nI k35)), (6, .int (f_X2_at 15 nw (5 + 0))), (5, .int x35_2), (4, .int x35_1), (3, .int x35_0), (2, .int (nI nP)), (0, .ref q0), (1, .int a1)] → W p l e (mR 2 45) s m args below meth c H locs 0 0 Q (F0 m 35 ls []) := by
    intro n_35
    induction n_35 with
    | zero => intro k35 x35_0 x35_1 x35_2 x35_3 H locs ls hk_35 hn_35 hB_35 hP hD hS hl; exact absurd hn_35 (Nat.not_lt_zero _)
    | succ n_35 ih_35 =>
      intro k35 x35_0 x35_1 x35_2 x35_3 H locs ls hk_35 hn_35 hB_35 hP hD hS hl
      refine lv_iload hx hb dX1_sitInOrder_35 (lv_at hl 0 rfl) ?_
      refine lv_iload_n hx hb dX1_sitInOrder_37 rfl (lv_at hl 5 rfl) ?_
      refine lv_icmp_ge (tgt := 111) hx hb dX1_sitInOrder_38 (by decide) (fun c_1 => ?_) (fun c_1 => ?_)
      · have o_1 : nP ≤ k35 := (cle (rfl : nI nP = nI nP) (rfl : nI k35 = nI k35) (by omega) (by omega)).mp c_1
        have hkN : nP = k35 := by omega
        subst hkN
        obtain ⟨rfl, rfl, rfl, rfl⟩ : x35_0 = (B_X1_sitInOrder_35 nw nP (((1 : Int32) <<< (((nI nP) : Int32) &&& 31)) - 2) ((B_X7_factorial_4 1 ((nP - 1) - 1))) a1 nw nP).1 ∧ x35_1 = (B_X1_sitInOrder_35 nw nP (((1 : Int32) <<< (((nI nP) : Int32) &&& 31)) - 2) ((B_X7_factorial_4 1 ((nP - 1) - 1))) a1 nw nP).2.1 ∧ x35_2 = (B_X1_sitInOrder_35 nw nP (((1 : Int32) <<< (((nI nP) : Int32) &&& 31)) - 2) ((B_X7_factorial_4 1 ((nP - 1) - 1))) a1 nw nP).2.2.1 ∧ x35_3 = (B_X1_sitInOrder_35 nw nP (((1 : Int32) <<< (((nI nP) : Int32) &&& 31)) - 2) ((B_X7_factorial_4 1 ((nP - 1) - 1))) a1 nw nP).2.2.2 := by rw [hB_35]; exact ⟨rfl, rfl, rfl, rfl⟩
        exact mu_retv CF hQ hr hlk hP hS dX1_sitInOrder_111 rfl
      · have o_1 : ¬ nP ≤ k35 := fun h => c_1 ((cle (rfl : nI nP = nI nP) (rfl : nI k35 = nI k35) (by omega) (by omega)).mpr h)
        refine lv_iload hx hb dX1_sitInOrder_41 (lv_at hl 0 rfl) ?_
        refine lv_iload hx hb dX1_sitInOrder_43 (lv_at hl 1 rfl) ?_
        refine lv_icmp_eq (tgt := 105) hx hb dX1_sitInOrder_45 (by decide) (fun c_2 => ?_) (fun c_2 => ?_)
        · refine lv_iinc (v := (nI (k35 + 1))) (lv' := [(7, .int (nI (k35 + 1))), (6, .int (f_X2_at 15 nw (5 + 0))), (5, .int x35_2), (4, .int x35_1), (3, .int x35_0), (2, .int (nI nP)), (0, .ref q0), (1, .int a1)]) hx hb dX1_sitInOrder_105 hl (k := 0) rfl (nf_inc 1 (rfl : nI k35 = nI k35)) (by decide) rfl (fun ls hl => ?_)
          refine lv_goto (tgt := 35) hx hb dX1_sitInOrder_108 (by decide) ?_
          have hB2 : B_X1_sitInOrder_35 nw nP (((1 : Int32) <<< (((nI nP) : Int32) &&& 31)) - 2) ((B_X7_factorial_4 1 ((nP - 1) - 1))) a1 nw (k35 + 1) = (x35_0, x35_1, x35_2, x35_3) := by
            rw [B_X1_sitInOrder_35, hB_35]
            show S_X1_sitInOrder_35 nw nP k35 x35_0 x35_1 x35_2 x35_3 = _
            rw [S_X1_sitInOrder_35, if_pos c_2]
          exact ih_35 (k35 + 1) x35_0 x35_1 x35_2 x35_3 _ _ _ (by omega) (by omega) hB2 hP hD hS (lv_sub hl [0, 1, 2, 3, 4, 5, 6, 7] rfl)
        · refine lv_iload hx hb dX1_sitInOrder_48 (lv_at hl 3 rfl) ?_
          refine lv_iload_n hx hb dX1_sitInOrder_50 rfl (lv_at hl 4 rfl) ?_
          refine ro_S (y := yJ6_bitCount_0f7a4) (As := [.int x35_0]) (rest := [.int x35_1]) CF (c_J6_bitCount_0f7a4 l D cI cZ x35_0) lk_X1_100 hE rfl hl.1 rfl (Nat.le_of_ble_eq_true rfl) ⟨Nat.le_of_ble_eq_true rfl, Nat.le_of_ble_eq_true rfl, rfl, rfl⟩ ⟨Nat.zero_le _, Nat.zero_le _⟩ dX1_sitInOrder_51 ?_
          refine lv_iconst (v := 1) hx hb dX1_sitInOrder_54 (by decide) ?_
          refine r_mmax (rest := [.int x35_1]) CF hl.1 tw_2_235 ⟨Nat.le_of_ble_eq_true rfl, Nat.le_of_ble_eq_true rfl, Nat.zero_le _, Nat.zero_le _⟩ dX1_sitInOrder_55 ⟨tw_1_33, tw_1_4, tw_1_34⟩ ?_
          refine lv_idiv hx hb dX1_sitInOrder_58 (ne_max _) ?_
          refine lv_as (z := (h_X1_sitInOrder_59 x35_0 x35_1)) rfl ?_
          refine lv_istore (lv' := [(4, .int (h_X1_sitInOrder_59 x35_0 x35_1)), (7, .int (nI k35)), (6, .int (f_X2_at 15 nw (5 + 0))), (5, .int x35_2), (3, .int x35_0), (2, .int (nI nP)), (0, .ref q0), (1, .int a1)]) hx hb dX1_sitInOrder_59 hl (by decide) rfl (fun ls hl => ?_)
          refine lv_aload_n hx hb dX1_sitInOrder_61 rfl (lv_at hl 6 rfl) ?_
          refine lv_iload_n hx hb dX1_sitInOrder_62 rfl (lv_at hl 4 rfl) ?_
          refine lv_iload hx hb dX1_sitInOrder_63 (lv_at hl 3 rfl) ?_
          refine lv_iload hx hb dX1_sitInOrder_65 (lv_at hl 0 rfl) ?_
          refine lv_iconst (v := 1) hx hb dX1_sitInOrder_67 (by decide) ?_
          refine r_mmax (rest := [.int x35_2, .int x35_0, .ref q0]) CF hl.1 tw_2_235 ⟨Nat.le_of_ble_eq_true rfl, Nat.le_of_ble_eq_true rfl, Nat.zero_le _, Nat.zero_le _⟩ dX1_sitInOrder_68 ⟨tw_1_33, tw_1_4, tw_1_34⟩ ?_
          refine lv_idiv hx hb dX1_sitInOrder_71 (ne_max _) ?_
          refine ro_V (y := yX1_member) (As := [.int x35_0, .int (x35_2 / (if (h_X1_sitInOrder_59 x35_0 x35_1) < 1 then 1 else (h_X1_sitInOrder_59 x35_0 x35_1)))]) (rest := []) (q0 := 0) CF (c_X1_member l D cI cZ q0 t0 q1 t1 t3 t5 nP nR x35_0 (x35_2 / (if (h_X1_sitInOrder_59 x35_0 x35_1) < 1 then 1 else (h_X1_sitInOrder_59 x35_0 x35_1))) (by omega)) lk_X1_114 hP hE [0, 3] rfl rfl rfl rfl hl.1 rfl (Nat.le_of_ble_eq_true rfl) ⟨Nat.le_of_ble_eq_true rfl, Nat.le_of_ble_eq_true rfl, rfl, rfl⟩ ⟨Nat.zero_le _, Nat.zero_le _⟩ dX1_sitInOrder_72 ?_
          refine lv_as (z := (h_X1_sitInOrder_75 nP x35_0 x35_1 x35_2)) rfl ?_
          refine lv_istore (lv' := [(8, .int (h_X1_sitInOrder_75 nP x35_0 x35_1 x35_2)), (4, .int (h_X1_sitInOrder_59 x35_0 x35_1)), (7, .int (nI k35)), (6, .int (f_X2_at 15 nw (5 + 0))), (5, .int x35_2), (3, .int x35_0), (2, .int (nI nP)), (0, .ref q0), (1, .int a1)]) hx hb dX1_sitInOrder_75 hl (by decide) rfl (fun ls hl => ?_)
          refine lv_iload hx hb dX1_sitInOrder_77 (lv_at hl 4 rfl) ?_
          refine lv_iload hx hb dX1_sitInOrder_79 (lv_at hl 1 rfl) ?_
          refine lv_iconst (v := 1) hx hb dX1_sitInOrder_81 (by decide) ?_
          refine r_mmax (rest := [.int x35_2]) CF hl.1 tw_2_235 ⟨Nat.le_of_ble_eq_true rfl, Nat.le_of_ble_eq_true rfl, Nat.zero_le _, Nat.zero_le _⟩ dX1_sitInOrder_82 ⟨tw_1_33, tw_1_4, tw_1_34⟩ ?_
          refine lv_irem hx hb dX1_sitInOrder_85 (ne_max _) ?_
          refine lv_as (z := (h_X1_sitInOrder_86 x35_0 x35_1 x35_2)) rfl ?_
          refine lv_istore (lv' := [(5, .int (h_X1_sitInOrder_86 x35_0 x35_1 x35_2)), (8, .int (h_X1_sitInOrder_75 nP x35_0 x35_1 x35_2)), (4, .int (h_X1_sitInOrder_59 x35_0 x35_1)), (7, .int (nI k35)), (6, .int (f_X2_at 15 nw (5 + 0))), (3, .int x35_0), (2, .int (nI nP)), (0, .ref q0), (1, .int a1)]) hx hb dX1_sitInOrder_86 hl (by decide) rfl (fun ls hl => ?_)
          refine lv_aload_n hx hb dX1_sitInOrder_88 rfl (lv_at hl 7 rfl) ?_
          refine lv_iload hx hb dX1_sitInOrder_89 (lv_at hl 1 rfl) ?_
          refine lv_iload hx hb dX1_sitInOrder_91 (lv_at hl 3 rfl) ?_
          refine mu_Vv (y := yX1_setSeat) (As := [.int (h_X1_sitInOrder_75 nP x35_0 x35_1 x35_2), .int (nI k35)]) (rest := []) (q0 := 0) (ws' := [(q0, .inr (1, [.ref t0, .ref q1])), (q1, .inr (2, [.ref q2])), (q2, .inl (cI, 15, .inl (f_X2_put_sf 15 x35_3 (5 + (h_X1_sitInOrder_75 nP x35_0 x35_1 x35_2)) (nI k35)))), (t0, .inr (5, [.ref t1, .ref t3, .ref t5, .int (nI nP), .int (nI nR)]))]) (ad := [q0, q1, q2, t0]) CF (c_X1_setSeat l D cI cZ q0 t0 q1 q2 x35_3 (h_X1_sitInOrder_75 nP x35_0 x35_1 x35_2) (nI k35)) lk_X1_117 hP hE hD hS [0, 1, 2] rfl (by decide) (Nat.le_of_ble_eq_true rfl) rfl rfl rfl rfl rfl rfl hl.1 rfl (Nat.le_of_ble_eq_true rfl) ⟨Nat.le_of_ble_eq_true rfl, Nat.le_of_ble_eq_true rfl, rfl, rfl⟩ ⟨Nat.zero_le _, Nat.zero_le _⟩ dX1_sitInOrder_93 (fun H locs hP hD hS => ?_)
          refine lv_iload_n hx hb dX1_sitInOrder_96 rfl (lv_at hl 5 rfl) ?_
          refine lv_iconst (v := 1) hx hb dX1_sitInOrder_97 (by decide) ?_
          refine lv_iload hx hb dX1_sitInOrder_98 (lv_at hl 1 rfl) ?_
          refine lv_ishl hx hb dX1_sitInOrder_100 ?_
          refine lv_iconst (v := (-1)) hx hb dX1_sitInOrder_101 (by decide) ?_
          refine lv_ixor hx hb dX1_sitInOrder_102 ?_
          refine lv_iand hx hb dX1_sitInOrder_103 ?_
          refine lv_istore_n (lv' := [(3, .int (x35_0 &&& (((1 : Int32) <<< (((h_X1_sitInOrder_75 nP x35_0 x35_1 x35_2) : Int32) &&& 31)) ^^^ (-1)))), (5, .int (h_X1_sitInOrder_86 x35_0 x35_1 x35_2)), (8, .int (h_X1_sitInOrder_75 nP x35_0 x35_1 x35_2)), (4, .int (h_X1_sitInOrder_59 x35_0 x35_1)), (7, .int (nI k35)), (6, .int (f_X2_at 15 nw (5 + 0))), (2, .int (nI nP)), (0, .ref q0), (1, .int a1)]) hx hb dX1_sitInOrder_104 rfl hl (by decide) rfl (fun ls hl => ?_)
          refine lv_iinc (v := (nI (k35 + 1))) (lv' := [(7, .int (nI (k35 + 1))), (3, .int (x35_0 &&& (((1 : Int32) <<< (((h_X1_sitInOrder_75 nP x35_0 x35_1 x35_2) : Int32) &&& 31)) ^^^ (-1)))), (5, .int (h_X1_sitInOrder_86 x35_0 x35_1 x35_2)), (8, .int (h_X1_sitInOrder_75 nP x35_0 x35_1 x35_2)), (4, .int (h_X1_sitInOrder_59 x35_0 x35_1)), (6, .int (f_X2_at 15 nw (5 + 0))), (2, .int (nI nP)), (0, .ref q0), (1, .int a1)]) hx hb dX1_sitInOrder_105 hl (k := 4) rfl (nf_inc 1 (rfl : nI k35 = nI k35)) (by decide) rfl (fun ls hl => ?_)
          refine lv_goto (tgt := 35) hx hb dX1_sitInOrder_108 (by decide) ?_
          have hB2 : B_X1_sitInOrder_35 nw nP (((1 : Int32) <<< (((nI nP) : Int32) &&& 31)) - 2) ((B_X7_factorial_4 1 ((nP - 1) - 1))) a1 nw (k35 + 1) = ((x35_0 &&& (((1 : Int32) <<< (((h_X1_sitInOrder_75 nP x35_0 x35_1 x35_2) : Int32) &&& 31)) ^^^ (-1))), (h_X1_sitInOrder_59 x35_0 x35_1), (h_X1_sitInOrder_86 x35_0 x35_1 x35_2), (f_X2_put_sf 15 x35_3 (5 + (h_X1_sitInOrder_75 nP x35_0 x35_1 x35_2)) (nI k35))) := by
            rw [B_X1_sitInOrder_35, hB_35]
            show S_X1_sitInOrder_35 nw nP k35 x35_0 x35_1 x35_2 x35_3 = _
            rw [S_X1_sitInOrder_35, if_neg c_2]
          exact ih_35 (k35 + 1) (x35_0 &&& (((1 : Int32) <<< (((h_X1_sitInOrder_75 nP x35_0 x35_1 x35_2) : Int32) &&& 31)) ^^^ (-1))) (h_X1_sitInOrder_59 x35_0 x35_1) (h_X1_sitInOrder_86 x35_0 x35_1 x35_2) (f_X2_put_sf 15 x35_3 (5 + (h_X1_sitInOrder_75 nP x35_0 x35_1 x35_2)) (nI k35)) _ _ _ (by omega) (by omega) hB2 hP hD hS (lv_sub hl [0, 5, 2, 4, 1, 6, 7, 8] rfl)
  have e_k : 0 = nI (0) := (nf_c 0).trans (congrArg nI (by omega))
  rw [e_k] at hl
  exact LOOP_35 (nP - 0 + 1) 0 (((1 : Int32) <<< (((nI nP) : Int32) &&& 31)) - 2) ((B_X7_factorial_4 1 ((nP - 1) - 1))) a1 nw _ _ _ (Nat.zero_le _) (by omega) rfl hP hD hS (lv_sub hl [0, 1, 2, 3, 4, 5, 6, 7] rfl)
