theorem lk_X7_231 : mLkS RX7 231 yX7_isSlot cX7_isSlot 1 (some .boolean) 1 := ⟨⟨tw_3_100, tw_1_1, tw_3_102, ⟨by decide +kernel, by decide +kernel, by decide +kernel⟩⟩, tw_3_101⟩
theorem lk_X7_234 : mLkV RX7 234 yX4_store cX4_store 3 none 2 := ⟨⟨tw_3_103, tw_1_8, tw_2_131, ⟨by decide +kernel, by decide +kernel, by decide +kernel⟩⟩, tw_2_129, tw_2_130⟩
def f_X7_keep (nP : Nat) (nw : Nat → Int32) (a1 : Int32) : Int32 :=
  (if (f_X7_isSlot a1) = 0 then (-1) else ((B_X1_allFines_4 nw 0 nP)))
def f_X7_keep_sl (nw : Nat → Int32) (sl : Nat → Int32) (a1 : Int32) : Nat → Int32 :=
  (if (f_X7_isSlot a1) = 0 then sl else ((B_X2_copy_3 30 15 nw (a1 * 15) 0 sl 15)))
def f_X7_keep_fs (fs : Int32) (a1 : Int32) : Int32 :=
  (if (f_X7_isSlot a1) = 0 then fs else (fs ||| ((1 : Int32) <<< ((a1 : Int32) &&& 31))))
set_option maxRecDepth 100000 in
set_option maxHeartbeats 4000000 in
theorem c_X7_keep (l : Launch) (D : va_G) (cI cZ : ClassId) (q0 x0 t0 n0 d0 b0 s0 e0 t1 t3 t5 n1 n2 s1 s2 : Nat) (fs : Int32) (ch : Int64) (nP : Nat) (nR : Nat) (nw : Nat → Int32) (sl : Nat → Int32) (a1 : Int32) (hP5 : nP ≤ 5) : MU l D cI cZ yX7_keep cX7_keep 2 (some .int) (mR 3 69) [.ref q0, .int a1] [(q0, .inr (7, [.ref x0, .ref t0, .ref n0, .ref d0, .ref b0, .ref s0, .ref e0, .int fs, .long ch])), (t0, .inr (5, [.ref t1, .ref t3, .ref t5, .int (nI nP), .int (nI nR)])), (n0, .inr (1, [.ref t0, .ref n1])), (n1, .inr (2, [.ref n2])), (n2, .inl (cI, 15, .inl nw)), (s0, .inr (4, [.ref s1])), (s1, .inr (2, [.ref s2])), (s2, .inl (cI, 30, .inl sl))] [(q0, .inr (7, [.ref x0, .ref t0, .ref n0, .ref d0, .ref b0, .ref s0, .ref e0, .int (f_X7_keep_fs fs a1), .long ch])), (t0, .inr (5, [.ref t1, .ref t3, .ref t5, .int (nI nP), .int (nI nR)])), (n0, .inr (1, [.ref t0, .ref n1])), (n1, .inr (2, [.ref n2])), (n2, .inl (cI, 15, .inl nw)), (s0, .inr (4, [.ref s1])), (s1, .inr (2, [.ref s2])), (s2, .inl (cI, 30, .inl (f_X7_keep_sl nw sl a1)))] (some (.int (f_X7_keep nP nw a1))) := by
  refine MU.of (by decide +kernel) (Nat.le_of_ble_eq_true rfl) ?_
  intro p e s m args below meth c ls Q A CF hr hlk hP hE hD hS hQ hl
  have hx := CF.1
  have hb := CF.2.1
  have hl : lv_has ls 2 [(0, .ref q0), (1, .int a1)] := hl
  refine lv_iload_n hx hb dX7_keep_0 rfl (lv_at hl 1 rfl) ?_
  refine ro_S (y := yX7_isSlot) (As := [.int a1]) (rest := []) CF (c_X7_isSlot l D cI cZ a1) lk_X7_231 hE rfl hl.1 rfl (Nat.le_of_ble_eq_true rfl) ⟨Nat.le_of_ble_eq_true rfl, Nat.le_of_ble_eq_true rfl, rfl, rfl⟩ ⟨Nat.zero_le _, Nat.zero_le _⟩ dX7_keep_1 ?_
  refine lv_if_ne (tgt := 9) hx hb dX7_keep_4 (by decide) (fun c_1 => ?_) (fun c_1 => ?_)
  · refine lv_aload_n hx hb dX7_keep_9 rfl (lv_at hl 0 rfl) ?_
    refine r_get (C := RX7) (T := TX7) (N := 9) (v := .ref s0) CF hE hP 0 rfl rfl inG7 5 (by decide) tw_1_138 rfl rfl dX7_keep_10 ?_
    refine lv_iload_n hx hb dX7_keep_13 rfl (lv_at hl 1 rfl) ?_
    refine lv_aload_n hx hb dX7_keep_14 rfl (lv_at hl 0 rfl) ?_
    refine r_get (C := RX7) (T := TX7) (N := 9) (v := .ref n0) CF hE hP 0 rfl rfl inG7 2 (by decide) tw_1_135 rfl rfl dX7_keep_15 ?_
    refine mu_Vv (y := yX4_store) (As := [.int a1, .ref n0]) (rest := []) (q0 := 5) (ws' := [(q0, .inr (7, [.ref x0, .ref t0, .ref n0, .ref d0, .ref b0, .ref s0, .ref e0, .int fs, .long ch])), (t0, .inr (5, [.ref t1, .ref t3, .ref t5, .int (nI nP), .int (nI nR)])), (n0, .inr (1, [.ref t0, .ref n1])), (n1, .inr (2, [.ref n2])), (n2, .inl (cI, 15, .inl nw)), (s0, .inr (4, [.ref s1])), (s1, .inr (2, [.ref s2])), (s2, .inl (cI, 30, .inl ((B_X2_copy_3 30 15 nw (a1 * 15) 0 sl 15))))]) (ad := [q0, t0, n0, n1, n2, s0, s1, s2]) CF (c_X4_store l D cI cZ s0 s1 s2 n0 t0 n1 n2 30 sl nw a1 (by omega)) lk_X7_234 hP hE hD hS [5, 6, 7, 2, 3, 4] rfl (by decide) (Nat.le_of_ble_eq_true rfl) rfl rfl rfl rfl rfl rfl hl.1 rfl (Nat.le_of_ble_eq_true rfl) ⟨Nat.le_of_ble_eq_true rfl, Nat.le_of_ble_eq_true rfl, rfl, rfl⟩ ⟨Nat.zero_le _, Nat.zero_le _⟩ dX7_keep_18 (fun H locs hP hD hS => ?_)
    refine lv_aload_n hx hb dX7_keep_21 rfl (lv_at hl 0 rfl) ?_
    refine lv_dup hx hb dX7_keep_22 rfl ?_
    refine r_get (C := RX7) (T := TX7) (N := 9) (v := .int fs) CF hE hP 0 rfl rfl inG7 7 (by decide) tw_1_140 rfl rfl dX7_keep_23 ?_
    refine lv_iconst (v := 1) hx hb dX7_keep_26 (by decide) ?_
    refine lv_iload_n hx hb dX7_keep_27 rfl (lv_at hl 1 rfl) ?_
    refine lv_ishl hx hb dX7_keep_28 ?_
    refine lv_ior hx hb dX7_keep_29 ?_
    refine r_put (C := RX7) (T := TX7) (N := 9) (ws' := [(q0, .inr (7, [.ref x0, .ref t0, .ref n0, .ref d0, .ref b0, .ref s0, .ref e0, .int (fs ||| ((1 : Int32) <<< ((a1 : Int32) &&& 31))), .long ch])), (t0, .inr (5, [.ref t1, .ref t3, .ref t5, .int (nI nP), .int (nI nR)])), (n0, .inr (1, [.ref t0, .ref n1])), (n1, .inr (2, [.ref n2])), (n2, .inl (cI, 15, .inl nw)), (s0, .inr (4, [.ref s1])), (s1, .inr (2, [.ref s2])), (s2, .inl (cI, 30, .inl ((B_X2_copy_3 30 15 nw (a1 * 15) 0 sl 15))))]) CF hE hP hD hS 0 rfl rfl inG7 tyX7 tyX7_ok nmX7 7 (by decide) tw_1_140 rfl rfl rfl rfl (Nat.le_of_ble_eq_true rfl) dX7_keep_30 rfl (fun H locs hP hD hS => ?_)
    refine lv_aload_n hx hb dX7_keep_33 rfl (lv_at hl 0 rfl) ?_
    refine r_get (C := RX7) (T := TX7) (N := 9) (v := .ref n0) CF hE hP 0 rfl rfl inG7 2 (by decide) tw_1_135 rfl rfl dX7_keep_34 ?_
    refine ro_V (y := yX1_allFines) (As := []) (rest := []) (q0 := 2) CF (c_X1_allFines l D cI cZ n0 t0 n1 n2 t1 t3 t5 nw nP nR (by omega)) lk_X7_99 hP hE [2, 3, 4, 1] rfl rfl rfl rfl hl.1 rfl (Nat.le_of_ble_eq_true rfl) ⟨Nat.le_of_ble_eq_true rfl, Nat.le_of_ble_eq_true rfl, rfl, rfl⟩ ⟨Nat.zero_le _, Nat.zero_le _⟩ dX7_keep_37 ?_
    have e_0 : (f_X7_keep_sl nw sl a1) = ((B_X2_copy_3 30 15 nw (a1 * 15) 0 sl 15)) := by rw [f_X7_keep_sl, if_neg c_1]
    have e_1 : (f_X7_keep_fs fs a1) = (fs ||| ((1 : Int32) <<< ((a1 : Int32) &&& 31))) := by rw [f_X7_keep_fs, if_neg c_1]
    exact mu_reti CF hQ hr hlk rfl hP hS dX7_keep_40 (by rw [f_X7_keep, if_neg c_1]) (by rw [e_0, e_1])
  · refine lv_iconst (v := (-1)) hx hb dX7_keep_7 (by decide) ?_
    have e_0 : (f_X7_keep_sl nw sl a1) = sl := by rw [f_X7_keep_sl, if_pos c_1]
    have e_1 : (f_X7_keep_fs fs a1) = fs := by rw [f_X7_keep_fs, if_pos c_1]
    exact mu_reti CF hQ hr hlk rfl hP hS dX7_keep_8 (by rw [f_X7_keep, if_pos c_1]) (by rw [e_0, e_1])
theorem lk_X7_238 : mLkV RX7 238 yX4_fetch cX4_fetch 3 none 2 := ⟨⟨tw_3_108, tw_1_8, tw_2_207, ⟨by decide +kernel, by decide +kernel, by decide +kernel⟩⟩, tw_2_205, tw_2_206⟩
theorem lk_X7_88 : mLkV RX7 88 yX0_clear cX0_clear 1 none 0 := ⟨⟨tw_2_25, tw_1_7, tw_2_28, ⟨by decide +kernel, by decide +kernel, by decide +kernel⟩⟩, tw_2_26, tw_2_27⟩
def f_X7_again (fs : Int32) (nP : Nat) (nw : Nat → Int32) (sl : Nat → Int32) (a1 : Int32) : Int32 :=
  (if (f_X7_isSlot a1) = 0 then (-1) else (if (f_X7_contains fs a1) = 0 then (-3) else ((B_X1_allFines_4 ((B_X2_copy_3 15 30 sl 0 (a1 * 15) nw 15)) 0 nP))))
def f_X7_again_nw (fs : Int32) (nw : Nat → Int32) (sl : Nat → Int32) (a1 : Int32) : Nat → Int32 :=
  (if (f_X7_isSlot a1) = 0 then nw else (if (f_X7_contains fs a1) = 0 then nw else ((B_X2_copy_3 15 30 sl 0 (a1 * 15) nw 15))))
def f_X7_again_ac (fs : Int32) (ac : Int32) (a1 : Int32) : Int32 :=
  (if (f_X7_isSlot a1) = 0 then ac else (if (f_X7_contains fs a1) = 0 then ac else 0))
set_option maxRecDepth 100000 in
set_option maxHeartbeats 4000000 in
theorem c_X7_again (l : Launch) (D : va_G) (cI cZ : ClassId) (q0 x0 t0 n0 d0 b0 s0 e0 t1 t3 t5 n1 n2 s1 s2 b1 : Nat) (fs : Int32) (ch : Int64) (nP : Nat) (nR : Nat) (nw : Nat → Int32) (sl : Nat → Int32) (ac : Int32) (ax : Int32) (a1 : Int32) (hP5 : nP ≤ 5) : MU l D cI cZ yX7_again cX7_again 2 (some .int) (mR 3 69) [.ref q0, .int a1] [(q0, .inr (7, [.ref x0, .ref t0, .ref n0, .ref d0, .ref b0, .ref s0, .ref e0, .int fs, .long ch])), (t0, .inr (5, [.ref t1, .ref t3, .ref t5, .int (nI nP), .int (nI nR)])), (n0, .inr (1, [.ref t0, .ref n1])), (n1, .inr (2, [.ref n2])), (n2, .inl (cI, 15, .inl nw)), (s0, .inr (4, [.ref s1])), (s1, .inr (2, [.ref s2])), (s2, .inl (cI, 30, .inl sl)), (b0, .inr (0, [.ref b1, .int ac, .int ax]))] [(q0, .inr (7, [.ref x0, .ref t0, .ref n0, .ref d0, .ref b0, .ref s0, .ref e0, .int fs, .long ch])), (t0, .inr (5, [.ref t1, .ref t3, .ref t5, .int (nI nP), .int (nI nR)])), (n0, .inr (1, [.ref t0, .ref n1])), (n1, .inr (2, [.ref n2])), (n2, .inl (cI, 15, .inl (f_X7_again_nw fs nw sl a1))), (s0, .inr (4, [.ref s1])), (s1, .inr (2, [.ref s2])), (s2, .inl (cI, 30, .inl sl)), (b0, .inr (0, [.ref b1, .int (f_X7_again_ac fs ac a1), .int ax]))] (some (.int (f_X7_again fs nP nw sl a1))) := by
  refine MU.of (by decide +kernel) (Nat.le_of_ble_eq_true rfl) ?_
  intro p e s m args below meth c ls Q A CF hr hlk hP hE hD hS hQ hl
  have hx := CF.1
  have hb := CF.2.1
  have hl : lv_has ls 2 [(0, .ref q0), (1, .int a1)] := hl
  refine lv_iload_n hx hb dX7_again_0 rfl (lv_at hl 1 rfl) ?_
  refine ro_S (y := yX7_isSlot) (As := [.int a1]) (rest := []) CF (c_X7_isSlot l D cI cZ a1) lk_X7_231 hE rfl hl.1 rfl (Nat.le_of_ble_eq_true rfl) ⟨Nat.le_of_ble_eq_true rfl, Nat.le_of_ble_eq_true rfl, rfl, rfl⟩ ⟨Nat.zero_le _, Nat.zero_le _⟩ dX7_again_1 ?_
  refine lv_if_ne (tgt := 9) hx hb dX7_again_4 (by decide) (fun c_1 => ?_) (fun c_1 => ?_)
  · refine lv_aload_n hx hb dX7_again_9 rfl (lv_at hl 0 rfl) ?_
    refine r_get (C := RX7) (T := TX7) (N := 9) (v := .int fs) CF hE hP 0 rfl rfl inG7 7 (by decide) tw_1_140 rfl rfl dX7_again_10 ?_
    refine lv_iload_n hx hb dX7_again_13 rfl (lv_at hl 1 rfl) ?_
    refine ro_S (y := yX7_contains) (As := [.int fs, .int a1]) (rest := []) CF (c_X7_contains l D cI cZ fs a1) lk_X7_146 hE rfl hl.1 rfl (Nat.le_of_ble_eq_true rfl) ⟨Nat.le_of_ble_eq_true rfl, Nat.le_of_ble_eq_true rfl, rfl, rfl⟩ ⟨Nat.zero_le _, Nat.zero_le _⟩ dX7_again_14 ?_
    refine lv_if_ne (tgt := 23) hx hb dX7_again_17 (by decide) (fun c_2 => ?_) (fun c_2 => ?_)
    · refine lv_aload_n hx hb dX7_again_23 rfl (lv_at hl 0 rfl) ?_
      refine r_get (C := RX7) (T := TX7) (N := 9) (v := .ref s0) CF hE hP 0 rfl rfl inG7 5 (by decide) tw_1_138 rfl rfl dX7_again_24 ?_
      refine lv_iload_n hx hb dX7_again_27 rfl (lv_at hl 1 rfl) ?_
      refine lv_aload_n hx hb dX7_again_28 rfl (lv_at hl 0 rfl) ?_
      refine r_get (C := RX7) (T := TX7) (N := 9) (v := .ref n0) CF hE hP 0 rfl rfl inG7 2 (by decide) tw_1_135 rfl rfl dX7_again_29 ?_
      refine mu_Vv (y := yX4_fetch) (As := [.int a1, .ref n0]) (rest := []) (q0 := 5) (ws' := [(q0, .inr (7, [.ref x0, .ref t0, .ref n0, .ref d0, .ref b0, .ref s0, .ref e0, .int fs, .long ch])), (t0, .inr (5, [.ref t1, .ref t3, .ref t5, .int (nI nP), .int (nI nR)])), (n0, .inr (1, [.ref t0, .ref n1])), (n1, .inr (2, [.ref n2])), (n2, .inl (cI, 15, .inl ((B_X2_copy_3 15 30 sl 0 (a1 * 15) nw 15)))), (s0, .inr (4, [.ref s1])), (s1, .inr (2, [.ref s2])), (s2, .inl (cI, 30, .inl sl)), (b0, .inr (0, [.ref b1, .int ac, .int ax]))]) (ad := [q0, t0, n0, n1, n2, s0, s1, s2, b0]) CF (c_X4_fetch l D cI cZ s0 s1 s2 n0 t0 n1 n2 30 sl nw a1 (by omega)) lk_X7_238 hP hE hD hS [5, 6, 7, 2, 3, 4] rfl (by decide) (Nat.le_of_ble_eq_true rfl) rfl rfl rfl rfl rfl rfl hl.1 rfl (Nat.le_of_ble_eq_true rfl) ⟨Nat.le_of_ble_eq_true rfl, Nat.le_of_ble_eq_true rfl, rfl, rfl⟩ ⟨Nat.zero_le _, Nat.zero_le _⟩ dX7_again_32 (fun H locs hP hD hS => ?_)
      refine lv_aload_n hx hb dX7_again_35 rfl (lv_at hl 0 rfl) ?_
      refine r_get (C := RX7) (T := TX7) (N := 9) (v := .ref b0) CF hE hP 0 rfl rfl inG7 4 (by decide) tw_1_137 rfl rfl dX7_again_36 ?_
      refine mu_Vv (y := yX0_clear) (As := []) (rest := []) (q0 := 8) (ws' := [(q0, .inr (7, [.ref x0, .ref t0, .ref n0, .ref d0, .ref b0, .ref s0, .ref e0, .int fs, .long ch])), (t0, .inr (5, [.ref t1, .ref t3, .ref t5, .int (nI nP), .int (nI nR)])), (n0, .inr (1, [.ref t0, .ref n1])), (n1, .inr (2, [.ref n2])), (n2, .inl (cI, 15, .inl ((B_X2_copy_3 15 30 sl 0 (a1 * 15) nw 15)))), (s0, .inr (4, [.ref s1])), (s1, .inr (2, [.ref s2])), (s2, .inl (cI, 30, .inl sl)), (b0, .inr (0, [.ref b1, .int 0, .int ax]))]) (ad := [q0, t0, n0, n1, n2, s0, s1, s2, b0]) CF (c_X0_clear l D cI cZ b0 b1 ac ax) lk_X7_88 hP hE hD hS [8] rfl (by decide) (Nat.le_of_ble_eq_true rfl) rfl rfl rfl rfl rfl rfl hl.1 rfl (Nat.le_of_ble_eq_true rfl) ⟨Nat.le_of_ble_eq_true rfl, Nat.le_of_ble_eq_true rfl, rfl, rfl⟩ ⟨Nat.zero_le _, Nat.zero_le _⟩ dX7_again_39 (fun H locs hP hD hS => ?_)
      refine lv_aload_n hx hb dX7_again_42 rfl (lv_at hl 0 rfl) ?_
      refine r_get (C := RX7) (T := TX7) (N := 9) (v := .ref n0) CF hE hP 0 rfl rfl inG7 2 (by decide) tw_1_135 rfl rfl dX7_again_43 ?_
      refine ro_V (y := yX1_allFines) (As := []) (rest := []) (q0 := 2) CF (c_X1_allFines l D cI cZ n0 t0 n1 n2 t1 t3 t5 ((B_X2_copy_3 15 30 sl 0 (a1 * 15) nw 15)) nP nR (by omega)) lk_X7_99 hP hE [2, 3, 4, 1] rfl rfl rfl rfl hl.1 rfl (Nat.le_of_ble_eq_true rfl) ⟨Nat.le_of_ble_eq_true rfl, Nat.le_of_ble_eq_true rfl, rfl, rfl⟩ ⟨Nat.zero_le _, Nat.zero_le _⟩ dX7_again_46 ?_
      have e_0 : (f_X7_again_nw fs nw sl a1) = ((B_X2_copy_3 15 30 sl 0 (a1 * 15) nw 15)) := by rw [f_X7_again_nw, if_neg c_1, if_neg c_2]
      have e_1 : (f_X7_again_ac fs ac a1) = 0 := by rw [f_X7_again_ac, if_neg c_1, if_neg c_2]
      exact mu_reti CF hQ hr hlk rfl hP hS dX7_again_49 (by rw [f_X7_again, if_neg c_1, if_neg c_2]) (by rw [e_0, e_1])
    · refine lv_bipush (v := (-3)) hx hb dX7_again_20 (by decide) ?_
      have e_0 : (f_X7_again_nw fs nw sl a1) = nw := by rw [f_X7_again_nw, if_neg c_1, if_pos c_2]
      have e_1 : (f_X7_again_ac fs ac a1) = ac := by rw [f_X7_again_ac, if_neg c_1, if_pos c_2]
      exact mu_reti CF hQ hr hlk rfl hP hS dX7_again_22 (by rw [f_X7_again, if_neg c_1, if_pos c_2]) (by rw [e_0, e_1])
  · refine lv_iconst (v := (-1)) hx hb dX7_again_7 (by decide) ?_
    have e_0 : (f_X7_again_nw fs nw sl a1) = nw := by rw [f_X7_again_nw, if_pos c_1]
    have e_1 : (f_X7_again_ac fs ac a1) = ac := by rw [f_X7_again_ac, if_pos c_1]
    exact mu_reti CF hQ hr hlk rfl hP hS dX7_again_8 (by rw [f_X7_again, if_pos c_1]) (by rw [e_0, e_1])
