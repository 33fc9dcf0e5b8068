theorem lk_X7_154 : mLkV RX7 154 yX1_setSeat cX1_setSeat 3 none 2 := ⟨⟨tw_2_17, tw_1_6, tw_2_20, ⟨by decide +kernel, by decide +kernel, by decide +kernel⟩⟩, tw_2_18, tw_2_19⟩
def f_X7_change (nP : Nat) (nw : Nat → Int32) (a1 : Int32) (a2 : Int32) : Int32 :=
  (if (f_X7_isPerson nP a1) = 0 then (-1) else (if (f_X7_isPerson nP a2) = 0 then (-1) else (if a1 = a2 then (-2) else (f_X2_at 15 (f_X2_put_sf 15 (f_X2_put_sf 15 nw (5 + a1) (f_X2_at 15 nw (5 + a2))) (5 + a2) (f_X2_at 15 nw (5 + a1))) (5 + a1)))))
def f_X7_change_nw (nP : Nat) (nw : Nat → Int32) (a1 : Int32) (a2 : Int32) : Nat → Int32 :=
  (if (f_X7_isPerson nP a1) = 0 then nw else (if (f_X7_isPerson nP a2) = 0 then nw else (if a1 = a2 then nw else (f_X2_put_sf 15 (f_X2_put_sf 15 nw (5 + a1) (f_X2_at 15 nw (5 + a2))) (5 + a2) (f_X2_at 15 nw (5 + a1))))))
def f_X7_change_ah (nP : Nat) (nw : Nat → Int32) (ax : Int32) (ah : Nat → Int32) (a1 : Int32) (a2 : Int32) : Nat → Int32 :=
  (if (f_X7_isPerson nP a1) = 0 then ah else (if (f_X7_isPerson nP a2) = 0 then ah else (if a1 = a2 then ah else ((B_X2_copy_3 210 15 nw (ax * 15) 0 ah 15)))))
def f_X7_change_ac (nP : Nat) (ac : Int32) (a1 : Int32) (a2 : Int32) : Int32 :=
  (if (f_X7_isPerson nP a1) = 0 then ac else (if (f_X7_isPerson nP a2) = 0 then ac else (if a1 = a2 then ac else (if 14 < (ac + 1) then 14 else (ac + 1)))))
def f_X7_change_ax (nP : Nat) (ax : Int32) (a1 : Int32) (a2 : Int32) : Int32 :=
  (if (f_X7_isPerson nP a1) = 0 then ax else (if (f_X7_isPerson nP a2) = 0 then ax else (if a1 = a2 then ax else ((ax + 1) - (ax + 1) / 14 * 14))))
set_option maxRecDepth 100000 in
set_option maxHeartbeats 4000000 in
theorem c_X7_change (l : Launch) (D : va_G) (cI cZ : ClassId) (q0 x0 t0 n0 d0 b0 s0 e0 t1 t3 t5 n1 n2 b1 b2 b3 : Nat) (fs : Int32) (ch : Int64) (nP : Nat) (nR : Nat) (nw : Nat → Int32) (ac : Int32) (ax : Int32) (ah : Nat → Int32) (a1 : Int32) (a2 : Int32) : MU l D cI cZ yX7_change cX7_change 4 (some .int) (mR 4 90) [.ref q0, .int a1, .int a2] [(q0, .inr (7, [.ref x0, .ref t0, .ref n0, .ref d0, .ref b0, .ref s0, .ref e0, .int fs, .long ch])), (t0, .inr (5, [.ref t1, .ref t3, .ref t5, .int (nI nP), .int (nI nR)])), (n0, .inr (1, [.ref t0, .ref n1])), (n1, .inr (2, [.ref n2])), (n2, .inl (cI, 15, .inl nw)), (b0, .inr (0, [.ref b1, .int ac, .int ax])), (b1, .inr (4, [.ref b2])), (b2, .inr (2, [.ref b3])), (b3, .inl (cI, 210, .inl ah))] [(q0, .inr (7, [.ref x0, .ref t0, .ref n0, .ref d0, .ref b0, .ref s0, .ref e0, .int fs, .long ch])), (t0, .inr (5, [.ref t1, .ref t3, .ref t5, .int (nI nP), .int (nI nR)])), (n0, .inr (1, [.ref t0, .ref n1])), (n1, .inr (2, [.ref n2])), (n2, .inl (cI, 15, .inl (f_X7_change_nw nP nw a1 a2))), (b0, .inr (0, [.ref b1, .int (f_X7_change_ac nP ac a1 a2), .int (f_X7_change_ax nP ax a1 a2)])), (b1, .inr (4, [.ref b2])), (b2, .inr (2, [.ref b3])), (b3, .inl (cI, 210, .inl (f_X7_change_ah nP nw ax ah a1 a2)))] (some (.int (f_X7_change nP nw a1 a2))) := by
  refine MU.of (by decide +kernel) (Nat.le_of_ble_eq_true rfl) ?_
  intro p e s m args below meth c ls Q A CF hr hlk hP hE hD hS hQ hl
  have hx := CF.1
  have hb := CF.2.1
  have hl : lv_has ls 4 [(0, .ref q0), (1, .int a1), (2, .int a2)] := hl
  refine lv_aload_n hx hb dX7_change_0 rfl (lv_at hl 0 rfl) ?_
  refine lv_iload_n hx hb dX7_change_1 rfl (lv_at hl 1 rfl) ?_
  refine ro_V (y := yX7_isPerson) (As := [.int a1]) (rest := []) (q0 := 0) CF (c_X7_isPerson l D cI cZ q0 x0 t0 n0 d0 b0 s0 e0 t1 t3 t5 fs ch nP nR a1) lk_X7_109 hP hE [0, 1] rfl rfl rfl rfl hl.1 rfl (Nat.le_of_ble_eq_true rfl) ⟨Nat.le_of_ble_eq_true rfl, Nat.le_of_ble_eq_true rfl, rfl, rfl⟩ ⟨Nat.zero_le _, Nat.zero_le _⟩ dX7_change_2 ?_
  refine lv_if_eq (tgt := 16) hx hb dX7_change_5 (by decide) (fun c_1 => ?_) (fun c_1 => ?_)
  · refine lv_iconst (v := (-1)) hx hb dX7_change_16 (by decide) ?_
    have e_0 : (f_X7_change_nw nP nw a1 a2) = nw := by rw [f_X7_change_nw, if_pos c_1]
    have e_1 : (f_X7_change_ah nP nw ax ah a1 a2) = ah := by rw [f_X7_change_ah, if_pos c_1]
    have e_2 : (f_X7_change_ac nP ac a1 a2) = ac := by rw [f_X7_change_ac, if_pos c_1]
    have e_3 : (f_X7_change_ax nP ax a1 a2) = ax := by rw [f_X7_change_ax, if_pos c_1]
    exact mu_reti CF hQ hr hlk rfl hP hS dX7_change_17 (by rw [f_X7_change, if_pos c_1]) (by rw [e_0, e_1, e_2, e_3])
  · refine lv_aload_n hx hb dX7_change_8 rfl (lv_at hl 0 rfl) ?_
    refine lv_iload_n hx hb dX7_change_9 rfl (lv_at hl 2 rfl) ?_
    refine ro_V (y := yX7_isPerson) (As := [.int a2]) (rest := []) (q0 := 0) CF (c_X7_isPerson l D cI cZ q0 x0 t0 n0 d0 b0 s0 e0 t1 t3 t5 fs ch nP nR a2) lk_X7_109 hP hE [0, 1] rfl rfl rfl rfl hl.1 rfl (Nat.le_of_ble_eq_true rfl) ⟨Nat.le_of_ble_eq_true rfl, Nat.le_of_ble_eq_true rfl, rfl, rfl⟩ ⟨Nat.zero_le _, Nat.zero_le _⟩ dX7_change_10 ?_
    refine lv_if_ne (tgt := 18) hx hb dX7_change_13 (by decide) (fun c_2 => ?_) (fun c_2 => ?_)
    · refine lv_iload_n hx hb dX7_change_18 rfl (lv_at hl 1 rfl) ?_
      refine lv_iload_n hx hb dX7_change_19 rfl (lv_at hl 2 rfl) ?_
      refine lv_icmp_ne (tgt := 26) hx hb dX7_change_20 (by decide) (fun c_3 => ?_) (fun c_3 => ?_)
      · refine lv_aload_n hx hb dX7_change_26 rfl (lv_at hl 0 rfl) ?_
        refine r_get (C := RX7) (T := TX7) (N := 9) (v := .ref b0) CF hE hP 0 rfl rfl inG7 4 (by decide) tw_1_137 rfl rfl dX7_change_27 ?_
        refine lv_aload_n hx hb dX7_change_30 rfl (lv_at hl 0 rfl) ?_
        refine r_get (C := RX7) (T := TX7) (N := 9) (v := .ref n0) CF hE hP 0 rfl rfl inG7 2 (by decide) tw_1_135 rfl rfl dX7_change_31 ?_
        refine mu_Vv (y := yX0_remember) (As := [.ref n0]) (rest := []) (q0 := 5) (ws' := [(q0, .inr (7, [.ref x0, .ref t0, .ref n0, .ref d0, .ref b0, .ref s0, .ref e0, .int fs, .long ch])), (t0, .inr (5, [.ref t1, .ref t3, .ref t5, .int (nI nP), .int (nI nR)])), (n0, .inr (1, [.ref t0, .ref n1])), (n1, .inr (2, [.ref n2])), (n2, .inl (cI, 15, .inl nw)), (b0, .inr (0, [.ref b1, .int (if 14 < (ac + 1) then 14 else (ac + 1)), .int ((ax + 1) - (ax + 1) / 14 * 14)])), (b1, .inr (4, [.ref b2])), (b2, .inr (2, [.ref b3])), (b3, .inl (cI, 210, .inl ((B_X2_copy_3 210 15 nw (ax * 15) 0 ah 15))))]) (ad := [q0, t0, n0, n1, n2, b0, b1, b2, b3]) CF (c_X0_remember l D cI cZ b0 b1 b2 b3 n0 t0 n1 n2 ac ax ah nw) lk_X7_136 hP hE hD hS [5, 6, 7, 8, 2, 3, 4] rfl (by decide) (Nat.le_of_ble_eq_true rfl) rfl rfl rfl rfl rfl rfl hl.1 rfl (Nat.le_of_ble_eq_true rfl) ⟨Nat.le_of_ble_eq_true rfl, Nat.le_of_ble_eq_true rfl, rfl, rfl⟩ ⟨Nat.zero_le _, Nat.zero_le _⟩ dX7_change_34 (fun H locs hP hD hS => ?_)
        refine lv_aload_n hx hb dX7_change_37 rfl (lv_at hl 0 rfl) ?_
        refine r_get (C := RX7) (T := TX7) (N := 9) (v := .ref n0) CF hE hP 0 rfl rfl inG7 2 (by decide) tw_1_135 rfl rfl dX7_change_38 ?_
        refine lv_iload_n hx hb dX7_change_41 rfl (lv_at hl 1 rfl) ?_
        refine ro_V (y := yX1_seat) (As := [.int a1]) (rest := []) (q0 := 2) CF (c_X1_seat l D cI cZ n0 t0 n1 n2 nw a1) lk_X7_122 hP hE [2, 3, 4] rfl rfl rfl rfl hl.1 rfl (Nat.le_of_ble_eq_true rfl) ⟨Nat.le_of_ble_eq_true rfl, Nat.le_of_ble_eq_true rfl, rfl, rfl⟩ ⟨Nat.zero_le _, Nat.zero_le _⟩ dX7_change_42 ?_
        refine lv_istore_n (lv' := [(3, .int (f_X2_at 15 nw (5 + a1))), (0, .ref q0), (1, .int a1), (2, .int a2)]) hx hb dX7_change_45 rfl hl (by decide) rfl (fun ls hl => ?_)
        refine lv_aload_n hx hb dX7_change_46 rfl (lv_at hl 1 rfl) ?_
        refine r_get (C := RX7) (T := TX7) (N := 9) (v := .ref n0) CF hE hP 0 rfl rfl inG7 2 (by decide) tw_1_135 rfl rfl dX7_change_47 ?_
        refine lv_iload_n hx hb dX7_change_50 rfl (lv_at hl 2 rfl) ?_
        refine lv_aload_n hx hb dX7_change_51 rfl (lv_at hl 1 rfl) ?_
        refine r_get (C := RX7) (T := TX7) (N := 9) (v := .ref n0) CF hE hP 0 rfl rfl inG7 2 (by decide) tw_1_135 rfl rfl dX7_change_52 ?_
        refine lv_iload_n hx hb dX7_change_55 rfl (lv_at hl 3 rfl) ?_
        refine ro_V (y := yX1_seat) (As := [.int a2]) (rest := [.int a1, .ref n0]) (q0 := 2) CF (c_X1_seat l D cI cZ n0 t0 n1 n2 nw a2) lk_X7_122 hP hE [2, 3, 4] rfl rfl rfl rfl hl.1 rfl (Nat.le_of_ble_eq_true rfl) ⟨Nat.le_of_ble_eq_true rfl, Nat.le_of_ble_eq_true rfl, rfl, rfl⟩ ⟨Nat.zero_le _, Nat.zero_le _⟩ dX7_change_56 ?_
        refine mu_Vv (y := yX1_setSeat) (As := [.int a1, .int (f_X2_at 15 nw (5 + a2))]) (rest := []) (q0 := 2) (ws' := [(q0, .inr (7, [.ref x0, .ref t0, .ref n0, .ref d0, .ref b0, .ref s0, .ref e0, .int fs, .long ch])), (t0, .inr (5, [.ref t1, .ref t3, .ref t5, .int (nI nP), .int (nI nR)])), (n0, .inr (1, [.ref t0, .ref n1])), (n1, .inr (2, [.ref n2])), (n2, .inl (cI, 15, .inl (f_X2_put_sf 15 nw (5 + a1) (f_X2_at 15 nw (5 + a2))))), (b0, .inr (0, [.ref b1, .int (if 14 < (ac + 1) then 14 else (ac + 1)), .int ((ax + 1) - (ax + 1) / 14 * 14)])), (b1, .inr (4, [.ref b2])), (b2, .inr (2, [.ref b3])), (b3, .inl (cI, 210, .inl ((B_X2_copy_3 210 15 nw (ax * 15) 0 ah 15))))]) (ad := [q0, t0, n0, n1, n2, b0, b1, b2, b3]) CF (c_X1_setSeat l D cI cZ n0 t0 n1 n2 nw a1 (f_X2_at 15 nw (5 + a2))) lk_X7_154 hP hE hD hS [2, 3, 4] rfl (by decide) (Nat.le_of_ble_eq_true rfl) rfl rfl rfl rfl rfl rfl hl.1 rfl (Nat.le_of_ble_eq_true rfl) ⟨Nat.le_of_ble_eq_true rfl, Nat.le_of_ble_eq_true rfl, rfl, rfl⟩ ⟨Nat.zero_le _, Nat.zero_le _⟩ dX7_change_59 (fun H locs hP hD hS => ?_)
        refine lv_aload_n hx hb dX7_change_62 rfl (lv_at hl 1 rfl) ?_
        refine r_get (C := RX7) (T := TX7) (N := 9) (v := .ref n0) CF hE hP 0 rfl rfl inG7 2 (by decide) tw_1_135 rfl rfl dX7_change_63 ?_
        refine lv_iload_n hx hb dX7_change_66 rfl (lv_at hl 3 rfl) ?_
        refine lv_iload_n hx hb dX7_change_67 rfl (lv_at hl 0 rfl) ?_
        refine mu_Vv (y := yX1_setSeat) (As := [.int a2, .int (f_X2_at 15 nw (5 + a1))]) (rest := []) (q0 := 2) (ws' := [(q0, .inr (7, [.ref x0, .ref t0, .ref n0, .ref d0, .ref b0, .ref s0, .ref e0, .int fs, .long ch])), (t0, .inr (5, [.ref t1, .ref t3, .ref t5, .int (nI nP), .int (nI nR)])), (n0, .inr (1, [.ref t0, .ref n1])), (n1, .inr (2, [.ref n2])), (n2, .inl (cI, 15, .inl (f_X2_put_sf 15 (f_X2_put_sf 15 nw (5 + a1) (f_X2_at 15 nw (5 + a2))) (5 + a2) (f_X2_at 15 nw (5 + a1))))), (b0, .inr (0, [.ref b1, .int (if 14 < (ac + 1) then 14 else (ac + 1)), .int ((ax + 1) - (ax + 1) / 14 * 14)])), (b1, .inr (4, [.ref b2])), (b2, .inr (2, [.ref b3])), (b3, .inl (cI, 210, .inl ((B_X2_copy_3 210 15 nw (ax * 15) 0 ah 15))))]) (ad := [q0, t0, n0, n1, n2, b0, b1, b2, b3]) CF (c_X1_setSeat l D cI cZ n0 t0 n1 n2 (f_X2_put_sf 15 nw (5 + a1) (f_X2_at 15 nw (5 + a2))) a2 (f_X2_at 15 nw (5 + a1))) lk_X7_154 hP hE hD hS [2, 3, 4] rfl (by decide) (Nat.le_of_ble_eq_true rfl) rfl rfl rfl rfl rfl rfl hl.1 rfl (Nat.le_of_ble_eq_true rfl) ⟨Nat.le_of_ble_eq_true rfl, Nat.le_of_ble_eq_true rfl, rfl, rfl⟩ ⟨Nat.zero_le _, Nat.zero_le _⟩ dX7_change_68 (fun H locs hP hD hS => ?_)
        refine lv_aload_n hx hb dX7_change_71 rfl (lv_at hl 1 rfl) ?_
        refine r_get (C := RX7) (T := TX7) (N := 9) (v := .ref n0) CF hE hP 0 rfl rfl inG7 2 (by decide) tw_1_135 rfl rfl dX7_change_72 ?_
        refine lv_iload_n hx hb dX7_change_75 rfl (lv_at hl 2 rfl) ?_
        refine ro_V (y := yX1_seat) (As := [.int a1]) (rest := []) (q0 := 2) CF (c_X1_seat l D cI cZ n0 t0 n1 n2 (f_X2_put_sf 15 (f_X2_put_sf 15 nw (5 + a1) (f_X2_at 15 nw (5 + a2))) (5 + a2) (f_X2_at 15 nw (5 + a1))) a1) lk_X7_122 hP hE [2, 3, 4] rfl rfl rfl rfl hl.1 rfl (Nat.le_of_ble_eq_true rfl) ⟨Nat.le_of_ble_eq_true rfl, Nat.le_of_ble_eq_true rfl, rfl, rfl⟩ ⟨Nat.zero_le _, Nat.zero_le _⟩ dX7_change_76 ?_
        have e_0 : (f_X7_change_nw nP nw a1 a2) = (f_X2_put_sf 15 (f_X2_put_sf 15 nw (5 + a1) (f_X2_at 15 nw (5 + a2))) (5 + a2) (f_X2_at 15 nw (5 + a1))) := by rw [f_X7_change_nw, if_neg c_1, if_neg c_2, if_neg c_3]
        have e_1 : (f_X7_change_ah nP nw ax ah a1 a2) = ((B_X2_copy_3 210 15 nw (ax * 15) 0 ah 15)) := by rw [f_X7_change_ah, if_neg c_1, if_neg c_2, if_neg c_3]
        have e_2 : (f_X7_change_ac nP ac a1 a2) = (if 14 < (ac + 1) then 14 else (ac + 1)) := by rw [f_X7_change_ac, if_neg c_1, if_neg c_2, if_neg c_3]
        have e_3 : (f_X7_change_ax nP ax a1 a2) = ((ax + 1) - (ax + 1) / 14 * 14) := by rw [f_X7_change_ax, if_neg c_1, if_neg c_2, if_neg c_3]
        exact mu_reti CF hQ hr hlk rfl hP hS dX7_change_79 (by rw [f_X7_change, if_neg c_1, if_neg c_2, if_neg c_3]) (by rw [e_0, e_1, e_2, e_3])
      · refine lv_bipush (v := (-2)) hx hb dX7_change_23 (by decide) ?_
        have e_0 : (f_X7_change_nw nP nw a1 a2) = nw := by rw [f_X7_change_nw, if_neg c_1, if_neg c_2, if_pos c_3]
        have e_1 : (f_X7_change_ah nP nw ax ah a1 a2) = ah := by rw [f_X7_change_ah, if_neg c_1, if_neg c_2, if_pos c_3]
        have e_2 : (f_X7_change_ac nP ac a1 a2) = ac := by rw [f_X7_change_ac, if_neg c_1, if_neg c_2, if_pos c_3]
        have e_3 : (f_X7_change_ax nP ax a1 a2) = ax := by rw [f_X7_change_ax, if_neg c_1, if_neg c_2, if_pos c_3]
        exact mu_reti CF hQ hr hlk rfl hP hS dX7_change_25 (by rw [f_X7_change, if_neg c_1, if_neg c_2, if_pos c_3]) (by rw [e_0, e_1, e_2, e_3])
    · refine lv_iconst (v := (-1)) hx hb dX7_change_16 (by decide) ?_
      have e_0 : (f_X7_change_nw nP nw a1 a2) = nw := by rw [f_X7_change_nw, if_neg c_1, if_pos c_2]
      have e_1 : (f_X7_change_ah nP nw ax ah a1 a2) = ah := by rw [f_X7_change_ah, if_neg c_1, if_pos c_2]
      have e_2 : (f_X7_change_ac nP ac a1 a2) = ac := by rw [f_X7_change_ac, if_neg c_1, if_pos c_2]
      have e_3 : (f_X7_change_ax nP ax a1 a2) = ax := by rw [f_X7_change_ax, if_neg c_1, if_pos c_2]
      exact mu_reti CF hQ hr hlk rfl hP hS dX7_change_17 (by rw [f_X7_change, if_neg c_1, if_pos c_2]) (by rw [e_0, e_1, e_2, e_3])
