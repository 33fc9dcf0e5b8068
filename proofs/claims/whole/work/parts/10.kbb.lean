theorem lk_X7_116 : mLkV RX7 116 yX1_told cX1_told 2 (some .int) 1 := ⟨⟨tw_2_88, tw_1_6, tw_2_62, ⟨by decide +kernel, by decide +kernel, by decide +kernel⟩⟩, tw_2_60, tw_2_61⟩
theorem lk_X7_146 : mLkS RX7 146 yX7_contains cX7_contains 2 (some .boolean) 2 := ⟨⟨tw_2_187, tw_1_1, tw_2_155, ⟨by decide +kernel, by decide +kernel, by decide +kernel⟩⟩, tw_2_154⟩
theorem lk_X7_136 : mLkV RX7 136 yX0_remember cX0_remember 2 none 1 := ⟨⟨tw_2_124, tw_1_7, tw_2_127, ⟨by decide +kernel, by decide +kernel, by decide +kernel⟩⟩, tw_2_125, tw_2_126⟩
theorem lk_X7_150 : mLkV RX7 150 yX1_setTold cX1_setTold 3 none 2 := ⟨⟨tw_2_12, tw_1_6, tw_2_15, ⟨by decide +kernel, by decide +kernel, by decide +kernel⟩⟩, tw_2_13, tw_2_14⟩
theorem lk_X7_119 : mLkV RX7 119 yX1_known cX1_known 2 (some .int) 1 := ⟨⟨tw_2_89, tw_1_6, tw_2_58, ⟨by decide +kernel, by decide +kernel, by decide +kernel⟩⟩, tw_2_56, tw_2_57⟩
def f_X7_teach (nP : Nat) (nR : Nat) (nd : Nat → Int32) (gv : Nat → Int32) (nw : Nat → Int32) (a1 : Int32) (a2 : Int32) : Int32 :=
  (if (f_X7_isPerson nP a1) = 0 then (-1) else (if (f_X7_isFact a2) = 0 then (-1) else (if (f_X7_contains (f_X2_at 15 nw (0 + a1)) a2) = 0 then ((B_X5_closure_4 nR nd gv (f_X2_at 15 (f_X2_put_sf 15 nw (0 + a1) ((f_X2_at 15 nw (0 + a1)) ||| ((1 : Int32) <<< ((a2 : Int32) &&& 31)))) (0 + a1)) nR)) else (-3))))
def f_X7_teach_nw (nP : Nat) (nw : Nat → Int32) (a1 : Int32) (a2 : Int32) : Nat → Int32 :=
  (if (f_X7_isPerson nP a1) = 0 then nw else (if (f_X7_isFact a2) = 0 then nw else (if (f_X7_contains (f_X2_at 15 nw (0 + a1)) a2) = 0 then (f_X2_put_sf 15 nw (0 + a1) ((f_X2_at 15 nw (0 + a1)) ||| ((1 : Int32) <<< ((a2 : Int32) &&& 31)))) else nw)))
def f_X7_teach_ah (nP : Nat) (nw : Nat → Int32) (ax : Int32) (ah : Nat → Int32) (a1 : Int32) (a2 : Int32) : Nat → Int32 :=
  (if (f_X7_isPerson nP a1) = 0 then ah else (if (f_X7_isFact a2) = 0 then ah else (if (f_X7_contains (f_X2_at 15 nw (0 + a1)) a2) = 0 then ((B_X2_copy_3 210 15 nw (ax * 15) 0 ah 15)) else ah)))
def f_X7_teach_ac (nP : Nat) (nw : Nat → Int32) (ac : Int32) (a1 : Int32) (a2 : Int32) : Int32 :=
  (if (f_X7_isPerson nP a1) = 0 then ac else (if (f_X7_isFact a2) = 0 then ac else (if (f_X7_contains (f_X2_at 15 nw (0 + a1)) a2) = 0 then (if 14 < (ac + 1) then 14 else (ac + 1)) else ac)))
def f_X7_teach_ax (nP : Nat) (nw : Nat → Int32) (ax : Int32) (a1 : Int32) (a2 : Int32) : Int32 :=
  (if (f_X7_isPerson nP a1) = 0 then ax else (if (f_X7_isFact a2) = 0 then ax else (if (f_X7_contains (f_X2_at 15 nw (0 + a1)) a2) = 0 then ((ax + 1) - (ax + 1) / 14 * 14) else ax)))
set_option maxRecDepth 100000 in
set_option maxHeartbeats 4000000 in
theorem c_X7_teach (l : Launch) (D : va_G) (cI cZ : ClassId) (q0 x0 t0 n0 d0 b0 s0 e0 t1 t3 t5 t4 t6 n1 n2 b1 b2 b3 : Nat) (fs : Int32) (ch : Int64) (nP : Nat) (nR : Nat) (nd : Nat → Int32) (gv : Nat → Int32) (nw : Nat → Int32) (ac : Int32) (ax : Int32) (ah : Nat → Int32) (a1 : Int32) (a2 : Int32) (hR : nR ≤ 4) : MU l D cI cZ yX7_teach cX7_teach 3 (some .int) (mR 4 90) [.ref q0, .int a1, .int a2] [(q0, .inr (7, [.ref x0, .ref t0, .ref n0, .ref d0, .ref b0, .ref s0, .ref e0, .int fs, .long ch])), (t0, .inr (5, [.ref t1, .ref t3, .ref t5, .int (nI nP), .int (nI nR)])), (t3, .inr (2, [.ref t4])), (t4, .inl (cI, 4, .inl nd)), (t5, .inr (2, [.ref t6])), (t6, .inl (cI, 4, .inl gv)), (n0, .inr (1, [.ref t0, .ref n1])), (n1, .inr (2, [.ref n2])), (n2, .inl (cI, 15, .inl nw)), (b0, .inr (0, [.ref b1, .int ac, .int ax])), (b1, .inr (4, [.ref b2])), (b2, .inr (2, [.ref b3])), (b3, .inl (cI, 210, .inl ah))] [(q0, .inr (7, [.ref x0, .ref t0, .ref n0, .ref d0, .ref b0, .ref s0, .ref e0, .int fs, .long ch])), (t0, .inr (5, [.ref t1, .ref t3, .ref t5, .int (nI nP), .int (nI nR)])), (t3, .inr (2, [.ref t4])), (t4, .inl (cI, 4, .inl nd)), (t5, .inr (2, [.ref t6])), (t6, .inl (cI, 4, .inl gv)), (n0, .inr (1, [.ref t0, .ref n1])), (n1, .inr (2, [.ref n2])), (n2, .inl (cI, 15, .inl (f_X7_teach_nw nP nw a1 a2))), (b0, .inr (0, [.ref b1, .int (f_X7_teach_ac nP nw ac a1 a2), .int (f_X7_teach_ax nP nw ax a1 a2)])), (b1, .inr (4, [.ref b2])), (b2, .inr (2, [.ref b3])), (b3, .inl (cI, 210, .inl (f_X7_teach_ah nP nw ax ah a1 a2)))] (some (.int (f_X7_teach nP nR nd gv nw a1 a2))) := by
  refine MU.of (by decide +kernel) (Nat.le_of_ble_eq_true rfl) ?_
  intro p e s m args below meth c ls Q A CF hr hlk hP hE hD hS hQ hl
  have hx := CF.1
  have hb := CF.2.1
  have hl : lv_has ls 3 [(0, .ref q0), (1, .int a1), (2, .int a2)] := hl
  refine lv_aload_n hx hb dX7_teach_0 rfl (lv_at hl 0 rfl) ?_
  refine lv_iload_n hx hb dX7_teach_1 rfl (lv_at hl 1 rfl) ?_
  refine ro_V (y := yX7_isPerson) (As := [.int a1]) (rest := []) (q0 := 0) CF (c_X7_isPerson l D cI cZ q0 x0 t0 n0 d0 b0 s0 e0 t1 t3 t5 fs ch nP nR a1) lk_X7_109 hP hE [0, 1] rfl rfl rfl rfl hl.1 rfl (Nat.le_of_ble_eq_true rfl) ⟨Nat.le_of_ble_eq_true rfl, Nat.le_of_ble_eq_true rfl, rfl, rfl⟩ ⟨Nat.zero_le _, Nat.zero_le _⟩ dX7_teach_2 ?_
  refine lv_if_eq (tgt := 15) hx hb dX7_teach_5 (by decide) (fun c_1 => ?_) (fun c_1 => ?_)
  · refine lv_iconst (v := (-1)) hx hb dX7_teach_15 (by decide) ?_
    have e_0 : (f_X7_teach_nw nP nw a1 a2) = nw := by rw [f_X7_teach_nw, if_pos c_1]
    have e_1 : (f_X7_teach_ah nP nw ax ah a1 a2) = ah := by rw [f_X7_teach_ah, if_pos c_1]
    have e_2 : (f_X7_teach_ac nP nw ac a1 a2) = ac := by rw [f_X7_teach_ac, if_pos c_1]
    have e_3 : (f_X7_teach_ax nP nw ax a1 a2) = ax := by rw [f_X7_teach_ax, if_pos c_1]
    exact mu_reti CF hQ hr hlk rfl hP hS dX7_teach_16 (by rw [f_X7_teach, if_pos c_1]) (by rw [e_0, e_1, e_2, e_3])
  · refine lv_iload_n hx hb dX7_teach_8 rfl (lv_at hl 2 rfl) ?_
    refine ro_S (y := yX7_isFact) (As := [.int a2]) (rest := []) CF (c_X7_isFact l D cI cZ a2) lk_X7_143 hE rfl hl.1 rfl (Nat.le_of_ble_eq_true rfl) ⟨Nat.le_of_ble_eq_true rfl, Nat.le_of_ble_eq_true rfl, rfl, rfl⟩ ⟨Nat.zero_le _, Nat.zero_le _⟩ dX7_teach_9 ?_
    refine lv_if_ne (tgt := 17) hx hb dX7_teach_12 (by decide) (fun c_2 => ?_) (fun c_2 => ?_)
    · refine lv_aload_n hx hb dX7_teach_17 rfl (lv_at hl 0 rfl) ?_
      refine r_get (C := RX7) (T := TX7) (N := 9) (v := .ref n0) CF hE hP 0 rfl rfl inG7 2 (by decide) tw_1_135 rfl rfl dX7_teach_18 ?_
      refine lv_iload_n hx hb dX7_teach_21 rfl (lv_at hl 1 rfl) ?_
      refine ro_V (y := yX1_told) (As := [.int a1]) (rest := []) (q0 := 6) CF (c_X1_told l D cI cZ n0 t0 n1 n2 nw a1) lk_X7_116 hP hE [6, 7, 8] rfl rfl rfl rfl hl.1 rfl (Nat.le_of_ble_eq_true rfl) ⟨Nat.le_of_ble_eq_true rfl, Nat.le_of_ble_eq_true rfl, rfl, rfl⟩ ⟨Nat.zero_le _, Nat.zero_le _⟩ dX7_teach_22 ?_
      refine lv_iload_n hx hb dX7_teach_25 rfl (lv_at hl 2 rfl) ?_
      refine ro_S (y := yX7_contains) (As := [.int (f_X2_at 15 nw (0 + a1)), .int a2]) (rest := []) CF (c_X7_contains l D cI cZ (f_X2_at 15 nw (0 + a1)) a2) lk_X7_146 hE rfl hl.1 rfl (Nat.le_of_ble_eq_true rfl) ⟨Nat.le_of_ble_eq_true rfl, Nat.le_of_ble_eq_true rfl, rfl, rfl⟩ ⟨Nat.zero_le _, Nat.zero_le _⟩ dX7_teach_26 ?_
      refine lv_if_eq (tgt := 35) hx hb dX7_teach_29 (by decide) (fun c_3 => ?_) (fun c_3 => ?_)
      · refine lv_aload_n hx hb dX7_teach_35 rfl (lv_at hl 0 rfl) ?_
        refine r_get (C := RX7) (T := TX7) (N := 9) (v := .ref b0) CF hE hP 0 rfl rfl inG7 4 (by decide) tw_1_137 rfl rfl dX7_teach_36 ?_
        refine lv_aload_n hx hb dX7_teach_39 rfl (lv_at hl 0 rfl) ?_
        refine r_get (C := RX7) (T := TX7) (N := 9) (v := .ref n0) CF hE hP 0 rfl rfl inG7 2 (by decide) tw_1_135 rfl rfl dX7_teach_40 ?_
        refine mu_Vv (y := yX0_remember) (As := [.ref n0]) (rest := []) (q0 := 9) (ws' := [(q0, .inr (7, [.ref x0, .ref t0, .ref n0, .ref d0, .ref b0, .ref s0, .ref e0, .int fs, .long ch])), (t0, .inr (5, [.ref t1, .ref t3, .ref t5, .int (nI nP), .int (nI nR)])), (t3, .inr (2, [.ref t4])), (t4, .inl (cI, 4, .inl nd)), (t5, .inr (2, [.ref t6])), (t6, .inl (cI, 4, .inl gv)), (n0, .inr (1, [.ref t0, .ref n1])), (n1, .inr (2, [.ref n2])), (n2, .inl (cI, 15, .inl nw)), (b0, .inr (0, [.ref b1, .int (if 14 < (ac + 1) then 14 else (ac + 1)), .int ((ax + 1) - (ax + 1) / 14 * 14)])), (b1, .inr (4, [.ref b2])), (b2, .inr (2, [.ref b3])), (b3, .inl (cI, 210, .inl ((B_X2_copy_3 210 15 nw (ax * 15) 0 ah 15))))]) (ad := [q0, t0, t3, t4, t5, t6, n0, n1, n2, b0, b1, b2, b3]) CF (c_X0_remember l D cI cZ b0 b1 b2 b3 n0 t0 n1 n2 ac ax ah nw) lk_X7_136 hP hE hD hS [9, 10, 11, 12, 6, 7, 8] rfl (by decide) (Nat.le_of_ble_eq_true rfl) rfl rfl rfl rfl rfl rfl hl.1 rfl (Nat.le_of_ble_eq_true rfl) ⟨Nat.le_of_ble_eq_true rfl, Nat.le_of_ble_eq_true rfl, rfl, rfl⟩ ⟨Nat.zero_le _, Nat.zero_le _⟩ dX7_teach_43 (fun H locs hP hD hS => ?_)
        refine lv_aload_n hx hb dX7_teach_46 rfl (lv_at hl 0 rfl) ?_
        refine r_get (C := RX7) (T := TX7) (N := 9) (v := .ref n0) CF hE hP 0 rfl rfl inG7 2 (by decide) tw_1_135 rfl rfl dX7_teach_47 ?_
        refine lv_iload_n hx hb dX7_teach_50 rfl (lv_at hl 1 rfl) ?_
        refine lv_aload_n hx hb dX7_teach_51 rfl (lv_at hl 0 rfl) ?_
        refine r_get (C := RX7) (T := TX7) (N := 9) (v := .ref n0) CF hE hP 0 rfl rfl inG7 2 (by decide) tw_1_135 rfl rfl dX7_teach_52 ?_
        refine lv_iload_n hx hb dX7_teach_55 rfl (lv_at hl 1 rfl) ?_
        refine ro_V (y := yX1_told) (As := [.int a1]) (rest := [.int a1, .ref n0]) (q0 := 6) CF (c_X1_told l D cI cZ n0 t0 n1 n2 nw a1) lk_X7_116 hP hE [6, 7, 8] rfl rfl rfl rfl hl.1 rfl (Nat.le_of_ble_eq_true rfl) ⟨Nat.le_of_ble_eq_true rfl, Nat.le_of_ble_eq_true rfl, rfl, rfl⟩ ⟨Nat.zero_le _, Nat.zero_le _⟩ dX7_teach_56 ?_
        refine lv_iconst (v := 1) hx hb dX7_teach_59 (by decide) ?_
        refine lv_iload_n hx hb dX7_teach_60 rfl (lv_at hl 2 rfl) ?_
        refine lv_ishl hx hb dX7_teach_61 ?_
        refine lv_ior hx hb dX7_teach_62 ?_
        refine mu_Vv (y := yX1_setTold) (As := [.int a1, .int ((f_X2_at 15 nw (0 + a1)) ||| ((1 : Int32) <<< ((a2 : Int32) &&& 31)))]) (rest := []) (q0 := 6) (ws' := [(q0, .inr (7, [.ref x0, .ref t0, .ref n0, .ref d0, .ref b0, .ref s0, .ref e0, .int fs, .long ch])), (t0, .inr (5, [.ref t1, .ref t3, .ref t5, .int (nI nP), .int (nI nR)])), (t3, .inr (2, [.ref t4])), (t4, .inl (cI, 4, .inl nd)), (t5, .inr (2, [.ref t6])), (t6, .inl (cI, 4, .inl gv)), (n0, .inr (1, [.ref t0, .ref n1])), (n1, .inr (2, [.ref n2])), (n2, .inl (cI, 15, .inl (f_X2_put_sf 15 nw (0 + a1) ((f_X2_at 15 nw (0 + a1)) ||| ((1 : Int32) <<< ((a2 : Int32) &&& 31)))))), (b0, .inr (0, [.ref b1, .int (if 14 < (ac + 1) then 14 else (ac + 1)), .int ((ax + 1) - (ax + 1) / 14 * 14)])), (b1, .inr (4, [.ref b2])), (b2, .inr (2, [.ref b3])), (b3, .inl (cI, 210, .inl ((B_X2_copy_3 210 15 nw (ax * 15) 0 ah 15))))]) (ad := [q0, t0, t3, t4, t5, t6, n0, n1, n2, b0, b1, b2, b3]) CF (c_X1_setTold l D cI cZ n0 t0 n1 n2 nw a1 ((f_X2_at 15 nw (0 + a1)) ||| ((1 : Int32) <<< ((a2 : Int32) &&& 31)))) lk_X7_150 hP hE hD hS [6, 7, 8] rfl (by decide) (Nat.le_of_ble_eq_true rfl) rfl rfl rfl rfl rfl rfl hl.1 rfl (Nat.le_of_ble_eq_true rfl) ⟨Nat.le_of_ble_eq_true rfl, Nat.le_of_ble_eq_true rfl, rfl, rfl⟩ ⟨Nat.zero_le _, Nat.zero_le _⟩ dX7_teach_63 (fun H locs hP hD hS => ?_)
        refine lv_aload_n hx hb dX7_teach_66 rfl (lv_at hl 0 rfl) ?_
        refine r_get (C := RX7) (T := TX7) (N := 9) (v := .ref n0) CF hE hP 0 rfl rfl inG7 2 (by decide) tw_1_135 rfl rfl dX7_teach_67 ?_
        refine lv_iload_n hx hb dX7_teach_70 rfl (lv_at hl 1 rfl) ?_
        refine ro_V (y := yX1_known) (As := [.int a1]) (rest := []) (q0 := 6) CF (c_X1_known l D cI cZ n0 t0 n1 n2 t1 t3 t5 t4 t6 (f_X2_put_sf 15 nw (0 + a1) ((f_X2_at 15 nw (0 + a1)) ||| ((1 : Int32) <<< ((a2 : Int32) &&& 31)))) nP nR nd gv a1 (by omega)) lk_X7_119 hP hE [6, 7, 8, 1, 2, 3, 4, 5] rfl rfl rfl rfl hl.1 rfl (Nat.le_of_ble_eq_true rfl) ⟨Nat.le_of_ble_eq_true rfl, Nat.le_of_ble_eq_true rfl, rfl, rfl⟩ ⟨Nat.zero_le _, Nat.zero_le _⟩ dX7_teach_71 ?_
        have e_0 : (f_X7_teach_nw nP nw a1 a2) = (f_X2_put_sf 15 nw (0 + a1) ((f_X2_at 15 nw (0 + a1)) ||| ((1 : Int32) <<< ((a2 : Int32) &&& 31)))) := by rw [f_X7_teach_nw, if_neg c_1, if_neg c_2, if_pos c_3]
        have e_1 : (f_X7_teach_ah nP nw ax ah a1 a2) = ((B_X2_copy_3 210 15 nw (ax * 15) 0 ah 15)) := by rw [f_X7_teach_ah, if_neg c_1, if_neg c_2, if_pos c_3]
        have e_2 : (f_X7_teach_ac nP nw ac a1 a2) = (if 14 < (ac + 1) then 14 else (ac + 1)) := by rw [f_X7_teach_ac, if_neg c_1, if_neg c_2, if_pos c_3]
        have e_3 : (f_X7_teach_ax nP nw ax a1 a2) = ((ax + 1) - (ax + 1) / 14 * 14) := by rw [f_X7_teach_ax, if_neg c_1, if_neg c_2, if_pos c_3]
        exact mu_reti CF hQ hr hlk rfl hP hS dX7_teach_74 (by rw [f_X7_teach, if_neg c_1, if_neg c_2, if_pos c_3]) (by rw [e_0, e_1, e_2, e_3])
      · refine lv_bipush (v := (-3)) hx hb dX7_teach_32 (by decide) ?_
        have e_0 : (f_X7_teach_nw nP nw a1 a2) = nw := by rw [f_X7_teach_nw, if_neg c_1, if_neg c_2, if_neg c_3]
        have e_1 : (f_X7_teach_ah nP nw ax ah a1 a2) = ah := by rw [f_X7_teach_ah, if_neg c_1, if_neg c_2, if_neg c_3]
        have e_2 : (f_X7_teach_ac nP nw ac a1 a2) = ac := by rw [f_X7_teach_ac, if_neg c_1, if_neg c_2, if_neg c_3]
        have e_3 : (f_X7_teach_ax nP nw ax a1 a2) = ax := by rw [f_X7_teach_ax, if_neg c_1, if_neg c_2, if_neg c_3]
        exact mu_reti CF hQ hr hlk rfl hP hS dX7_teach_34 (by rw [f_X7_teach, if_neg c_1, if_neg c_2, if_neg c_3]) (by rw [e_0, e_1, e_2, e_3])
    · refine lv_iconst (v := (-1)) hx hb dX7_teach_15 (by decide) ?_
      have e_0 : (f_X7_teach_nw nP nw a1 a2) = nw := by rw [f_X7_teach_nw, if_neg c_1, if_pos c_2]
      have e_1 : (f_X7_teach_ah nP nw ax ah a1 a2) = ah := by rw [f_X7_teach_ah, if_neg c_1, if_pos c_2]
      have e_2 : (f_X7_teach_ac nP nw ac a1 a2) = ac := by rw [f_X7_teach_ac, if_neg c_1, if_pos c_2]
      have e_3 : (f_X7_teach_ax nP nw ax a1 a2) = ax := by rw [f_X7_teach_ax, if_neg c_1, if_pos c_2]
      exact mu_reti CF hQ hr hlk rfl hP hS dX7_teach_16 (by rw [f_X7_teach, if_neg c_1, if_pos c_2]) (by rw [e_0, e_1, e_2, e_3])
def f_X7_forget (nP : Nat) (nR : Nat) (nd : Nat → Int32) (gv : Nat → Int32) (nw : Nat → Int32) (a1 : Int32) (a2 : Int32) : Int32 :=
  (if (f_X7_isPerson nP a1) = 0 then (-1) else (if (f_X7_isFact a2) = 0 then (-1) else (if (f_X7_contains (f_X2_at 15 nw (0 + a1)) a2) = 0 then (-3) else ((B_X5_closure_4 nR nd gv (f_X2_at 15 (f_X2_put_sf 15 nw (0 + a1) ((f_X2_at 15 nw (0 + a1)) &&& (((1 : Int32) <<< ((a2 : Int32) &&& 31)) ^^^ (-1)))) (0 + a1)) nR)))))
def f_X7_forget_nw (nP : Nat) (nw : Nat → Int32) (a1 : Int32) (a2 : Int32) : Nat → Int32 :=
  (if (f_X7_isPerson nP a1) = 0 then nw else (if (f_X7_isFact a2) = 0 then nw else (if (f_X7_contains (f_X2_at 15 nw (0 + a1)) a2) = 0 then nw else (f_X2_put_sf 15 nw (0 + a1) ((f_X2_at 15 nw (0 + a1)) &&& (((1 : Int32) <<< ((a2 : Int32) &&& 31)) ^^^ (-1)))))))
def f_X7_forget_ah (nP : Nat) (nw : Nat → Int32) (ax : Int32) (ah : Nat → Int32) (a1 : Int32) (a2 : Int32) : Nat → Int32 :=
  (if (f_X7_isPerson nP a1) = 0 then ah else (if (f_X7_isFact a2) = 0 then ah else (if (f_X7_contains (f_X2_at 15 nw (0 + a1)) a2) = 0 then ah else ((B_X2_copy_3 210 15 nw (ax * 15) 0 ah 15)))))
def f_X7_forget_ac (nP : Nat) (nw : Nat → Int32) (ac : Int32) (a1 : Int32) (a2 : Int32) : Int32 :=
  (if (f_X7_isPerson nP a1) = 0 then ac else (if (f_X7_isFact a2) = 0 then ac else (if (f_X7_contains (f_X2_at 15 nw (0 + a1)) a2) = 0 then ac else (if 14 < (ac + 1) then 14 else (ac + 1)))))
def f_X7_forget_ax (nP : Nat) (nw : Nat → Int32) (ax : Int32) (a1 : Int32) (a2 : Int32) : Int32 :=
  (if (f_X7_isPerson nP a1) = 0 then ax else (if (f_X7_isFact a2) = 0 then ax else (if (f_X7_contains (f_X2_at 15 nw (0 + a1)) a2) = 0 then ax else ((ax + 1) - (ax + 1) / 14 * 14))))
set_option maxRecDepth 100000 in
set_option maxHeartbeats 4000000 in
theorem c_X7_forget (l : Launch) (D : va_G) (cI cZ : ClassId) (q0 x0 t0 n0 d0 b0 s0 e0 t1 t3 t5 t4 t6 n1 n2 b1 b2 b3 : Nat) (fs : Int32) (ch : Int64) (nP : Nat) (nR : Nat) (nd : Nat → Int32) (gv : Nat → Int32) (nw : Nat → Int32) (ac : Int32) (ax : Int32) (ah : Nat → Int32) (a1 : Int32) (a2 : Int32) (hR : nR ≤ 4) : MU l D cI cZ yX7_forget cX7_forget 3 (some .int) (mR 4 90) [.ref q0, .int a1, .int a2] [(q0, .inr (7, [.ref x0, .ref t0, .ref n0, .ref d0, .ref b0, .ref s0, .ref e0, .int fs, .long ch])), (t0, .inr (5, [.ref t1, .ref t3, .ref t5, .int (nI nP), .int (nI nR)])), (t3, .inr (2, [.ref t4])), (t4, .inl (cI, 4, .inl nd)), (t5, .inr (2, [.ref t6])), (t6, .inl (cI, 4, .inl gv)), (n0, .inr (1, [.ref t0, .ref n1])), (n1, .inr (2, [.ref n2])), (n2, .inl (cI, 15, .inl nw)), (b0, .inr (0, [.ref b1, .int ac, .int ax])), (b1, .inr (4, [.ref b2])), (b2, .inr (2, [.ref b3])), (b3, .inl (cI, 210, .inl ah))] [(q0, .inr (7, [.ref x0, .ref t0, .ref n0, .ref d0, .ref b0, .ref s0, .ref e0, .int fs, .long ch])), (t0, .inr (5, [.ref t1, .ref t3, .ref t5, .int (nI nP), .int (nI nR)])), (t3, .inr (2, [.ref t4])), (t4, .inl (cI, 4, .inl nd)), (t5, .inr (2, [.ref t6])), (t6, .inl (cI, 4, .inl gv)), (n0, .inr (1, [.ref t0, .ref n1])), (n1, .inr (2, [.ref n2])), (n2, .inl (cI, 15, .inl (f_X7_forget_nw nP nw a1 a2))), (b0, .inr (0, [.ref b1, .int (f_X7_forget_ac nP nw ac a1 a2), .int (f_X7_forget_ax nP nw ax a1 a2)])), (b1, .inr (4, [.ref b2])), (b2, .inr (2, [.ref b3])), (b3, .inl (cI, 210, .inl (f_X7_forget_ah nP nw ax ah a1 a2)))] (some (.int (f_X7_forget nP nR nd gv nw a1 a2))) := by
  refine MU.of (by decide +kernel) (Nat.le_of_ble_eq_true rfl) ?_
  intro p e s m args below meth c ls Q A CF hr hlk hP hE hD hS hQ hl
  have hx := CF.1
  have hb := CF.2.1
  have hl : lv_has ls 3 [(0, .ref q0), (1, .int a1), (2, .int a2)] := hl
  refine lv_aload_n hx hb dX7_forget_0 rfl (lv_at hl 0 rfl) ?_
  refine lv_iload_n hx hb dX7_forget_1 rfl (lv_at hl 1 rfl) ?_
  refine ro_V (y := yX7_isPerson) (As := [.int a1]) (rest := []) (q0 := 0) CF (c_X7_isPerson l D cI cZ q0 x0 t0 n0 d0 b0 s0 e0 t1 t3 t5 fs ch nP nR a1) lk_X7_109 hP hE [0, 1] rfl rfl rfl rfl hl.1 rfl (Nat.le_of_ble_eq_true rfl) ⟨Nat.le_of_ble_eq_true rfl, Nat.le_of_ble_eq_true rfl, rfl, rfl⟩ ⟨Nat.zero_le _, Nat.zero_le _⟩ dX7_forget_2 ?_
  refine lv_if_eq (tgt := 15) hx hb dX7_forget_5 (by decide) (fun c_1 => ?_) (fun c_1 => ?_)
  · refine lv_iconst (v := (-1)) hx hb dX7_forget_15 (by decide) ?_
    have e_0 : (f_X7_forget_nw nP nw a1 a2) = nw := by rw [f_X7_forget_nw, if_pos c_1]
    have e_1 : (f_X7_forget_ah nP nw ax ah a1 a2) = ah := by rw [f_X7_forget_ah, if_pos c_1]
    have e_2 : (f_X7_forget_ac nP nw ac a1 a2) = ac := by rw [f_X7_forget_ac, if_pos c_1]
    have e_3 : (f_X7_forget_ax nP nw ax a1 a2) = ax := by rw [f_X7_forget_ax, if_pos c_1]
    exact mu_reti CF hQ hr hlk rfl hP hS dX7_forget_16 (by rw [f_X7_forget, if_pos c_1]) (by rw [e_0, e_1, e_2, e_3])
  · refine lv_iload_n hx hb dX7_forget_8 rfl (lv_at hl 2 rfl) ?_
    refine ro_S (y := yX7_isFact) (As := [.int a2]) (rest := []) CF (c_X7_isFact l D cI cZ a2) lk_X7_143 hE rfl hl.1 rfl (Nat.le_of_ble_eq_true rfl) ⟨Nat.le_of_ble_eq_true rfl, Nat.le_of_ble_eq_true rfl, rfl, rfl⟩ ⟨Nat.zero_le _, Nat.zero_le _⟩ dX7_forget_9 ?_
    refine lv_if_ne (tgt := 17) hx hb dX7_forget_12 (by decide) (fun c_2 => ?_) (fun c_2 => ?_)
    · refine lv_aload_n hx hb dX7_forget_17 rfl (lv_at hl 0 rfl) ?_
      refine r_get (C := RX7) (T := TX7) (N := 9) (v := .ref n0) CF hE hP 0 rfl rfl inG7 2 (by decide) tw_1_135 rfl rfl dX7_forget_18 ?_
      refine lv_iload_n hx hb dX7_forget_21 rfl (lv_at hl 1 rfl) ?_
      refine ro_V (y := yX1_told) (As := [.int a1]) (rest := []) (q0 := 6) CF (c_X1_told l D cI cZ n0 t0 n1 n2 nw a1) lk_X7_116 hP hE [6, 7, 8] rfl rfl rfl rfl hl.1 rfl (Nat.le_of_ble_eq_true rfl) ⟨Nat.le_of_ble_eq_true rfl, Nat.le_of_ble_eq_true rfl, rfl, rfl⟩ ⟨Nat.zero_le _, Nat.zero_le _⟩ dX7_forget_22 ?_
      refine lv_iload_n hx hb dX7_forget_25 rfl (lv_at hl 2 rfl) ?_
      refine ro_S (y := yX7_contains) (As := [.int (f_X2_at 15 nw (0 + a1)), .int a2]) (rest := []) CF (c_X7_contains l D cI cZ (f_X2_at 15 nw (0 + a1)) a2) lk_X7_146 hE rfl hl.1 rfl (Nat.le_of_ble_eq_true rfl) ⟨Nat.le_of_ble_eq_true rfl, Nat.le_of_ble_eq_true rfl, rfl, rfl⟩ ⟨Nat.zero_le _, Nat.zero_le _⟩ dX7_forget_26 ?_
      refine lv_if_ne (tgt := 35) hx hb dX7_forget_29 (by decide) (fun c_3 => ?_) (fun c_3 => ?_)
      · refine lv_aload_n hx hb dX7_forget_35 rfl (lv_at hl 0 rfl) ?_
        refine r_get (C := RX7) (T := TX7) (N := 9) (v := .ref b0) CF hE hP 0 rfl rfl inG7 4 (by decide) tw_1_137 rfl rfl dX7_forget_36 ?_
        refine lv_aload_n hx hb dX7_forget_39 rfl (lv_at hl 0 rfl) ?_
        refine r_get (C := RX7) (T := TX7) (N := 9) (v := .ref n0) CF hE hP 0 rfl rfl inG7 2 (by decide) tw_1_135 rfl rfl dX7_forget_40 ?_
        refine mu_Vv (y := yX0_remember) (As := [.ref n0]) (rest := []) (q0 := 9) (ws' := [(q0, .inr (7, [.ref x0, .ref t0, .ref n0, .ref d0, .ref b0, .ref s0, .ref e0, .int fs, .long ch])), (t0, .inr (5, [.ref t1, .ref t3, .ref t5, .int (nI nP), .int (nI nR)])), (t3, .inr (2, [.ref t4])), (t4, .inl (cI, 4, .inl nd)), (t5, .inr (2, [.ref t6])), (t6, .inl (cI, 4, .inl gv)), (n0, .inr (1, [.ref t0, .ref n1])), (n1, .inr (2, [.ref n2])), (n2, .inl (cI, 15, .inl nw)), (b0, .inr (0, [.ref b1, .int (if 14 < (ac + 1) then 14 else (ac + 1)), .int ((ax + 1) - (ax + 1) / 14 * 14)])), (b1, .inr (4, [.ref b2])), (b2, .inr (2, [.ref b3])), (b3, .inl (cI, 210, .inl ((B_X2_copy_3 210 15 nw (ax * 15) 0 ah 15))))]) (ad := [q0, t0, t3, t4, t5, t6, n0, n1, n2, b0, b1, b2, b3]) CF (c_X0_remember l D cI cZ b0 b1 b2 b3 n0 t0 n1 n2 ac ax ah nw) lk_X7_136 hP hE hD hS [9, 10, 11, 12, 6, 7, 8] rfl (by decide) (Nat.le_of_ble_eq_true rfl) rfl rfl rfl rfl rfl rfl hl.1 rfl (Nat.le_of_ble_eq_true rfl) ⟨Nat.le_of_ble_eq_true rfl, Nat.le_of_ble_eq_true rfl, rfl, rfl⟩ ⟨Nat.zero_le _, Nat.zero_le _⟩ dX7_forget_43 (fun H locs hP hD hS => ?_)
        refine lv_aload_n hx hb dX7_forget_46 rfl (lv_at hl 0 rfl) ?_
        refine r_get (C := RX7) (T := TX7) (N := 9) (v := .ref n0) CF hE hP 0 rfl rfl inG7 2 (by decide) tw_1_135 rfl rfl dX7_forget_47 ?_
        refine lv_iload_n hx hb dX7_forget_50 rfl (lv_at hl 1 rfl) ?_
        refine lv_aload_n hx hb dX7_forget_51 rfl (lv_at hl 0 rfl) ?_
        refine r_get (C := RX7) (T := TX7) (N := 9) (v := .ref n0) CF hE hP 0 rfl rfl inG7 2 (by decide) tw_1_135 rfl rfl dX7_forget_52 ?_
        refine lv_iload_n hx hb dX7_forget_55 rfl (lv_at hl 1 rfl) ?_
        refine ro_V (y := yX1_told) (As := [.int a1]) (rest := [.int a1, .ref n0]) (q0 := 6) CF (c_X1_told l D cI cZ n0 t0 n1 n2 nw a1) lk_X7_116 hP hE [6, 7, 8] rfl rfl rfl rfl hl.1 rfl (Nat.le_of_ble_eq_true rfl) ⟨Nat.le_of_ble_eq_true rfl, Nat.le_of_ble_eq_true rfl, rfl, rfl⟩ ⟨Nat.zero_le _, Nat.zero_le _⟩ dX7_forget_56 ?_
        refine lv_iconst (v := 1) hx hb dX7_forget_59 (by decide) ?_
        refine lv_iload_n hx hb dX7_forget_60 rfl (lv_at hl 2 rfl) ?_
        refine lv_ishl hx hb dX7_forget_61 ?_
        refine lv_iconst (v := (-1)) hx hb dX7_forget_62 (by decide) ?_
        refine lv_ixor hx hb dX7_forget_63 ?_
        refine lv_iand hx hb dX7_forget_64 ?_
        refine mu_Vv (y := yX1_setTold) (As := [.int a1, .int ((f_X2_at 15 nw (0 + a1)) &&& (((1 : Int32) <<< ((a2 : Int32) &&& 31)) ^^^ (-1)))]) (rest := []) (q0 := 6) (ws' := [(q0, .inr (7, [.ref x0, .ref t0, .ref n0, .ref d0, .ref b0, .ref s0, .ref e0, .int fs, .long ch])), (t0, .inr (5, [.ref t1, .ref t3, .ref t5, .int (nI nP), .int (nI nR)])), (t3, .inr (2, [.ref t4])), (t4, .inl (cI, 4, .inl nd)), (t5, .inr (2, [.ref t6])), (t6, .inl (cI, 4, .inl gv)), (n0, .inr (1, [.ref t0, .ref n1])), (n1, .inr (2, [.ref n2])), (n2, .inl (cI, 15, .inl (f_X2_put_sf 15 nw (0 + a1) ((f_X2_at 15 nw (0 + a1)) &&& (((1 : Int32) <<< ((a2 : Int32) &&& 31)) ^^^ (-1)))))), (b0, .inr (0, [.ref b1, .int (if 14 < (ac + 1) then 14 else (ac + 1)), .int ((ax + 1) - (ax + 1) / 14 * 14)])), (b1, .inr (4, [.ref b2])), (b2, .inr (2, [.ref b3])), (b3, .inl (cI, 210, .inl ((B_X2_copy_3 210 15 nw (ax * 15) 0 ah 15))))]) (ad := [q0, t0, t3, t4, t5, t6, n0, n1, n2, b0, b1, b2, b3]) CF (c_X1_setTold l D cI cZ n0 t0 n1 n2 nw a1 ((f_X2_at 15 nw (0 + a1)) &&& (((1 : Int32) <<< ((a2 : Int32) &&& 31)) ^^^ (-1)))) lk_X7_150 hP hE hD hS [6, 7, 8] rfl (by decide) (Nat.le_of_ble_eq_true rfl) rfl rfl rfl rfl rfl rfl hl.1 rfl (Nat.le_of_ble_eq_true rfl) ⟨Nat.le_of_ble_eq_true rfl, Nat.le_of_ble_eq_true rfl, rfl, rfl⟩ ⟨Nat.zero_le _, Nat.zero_le _⟩ dX7_forget_65 (fun H locs hP hD hS => ?_)
        refine lv_aload_n hx hb dX7_forget_68 rfl (lv_at hl 0 rfl) ?_
        refine r_get (C := RX7) (T := TX7) (N := 9) (v := .ref n0) CF hE hP 0 rfl rfl inG7 2 (by decide) tw_1_135 rfl rfl dX7_forget_69 ?_
        refine lv_iload_n hx hb dX7_forget_72 rfl (lv_at hl 1 rfl) ?_
        refine ro_V (y := yX1_known) (As := [.int a1]) (rest := []) (q0 := 6) CF (c_X1_known l D cI cZ n0 t0 n1 n2 t1 t3 t5 t4 t6 (f_X2_put_sf 15 nw (0 + a1) ((f_X2_at 15 nw (0 + a1)) &&& (((1 : Int32) <<< ((a2 : Int32) &&& 31)) ^^^ (-1)))) nP nR nd gv a1 (by omega)) lk_X7_119 hP hE [6, 7, 8, 1, 2, 3, 4, 5] rfl rfl rfl rfl hl.1 rfl (Nat.le_of_ble_eq_true rfl) ⟨Nat.le_of_ble_eq_true rfl, Nat.le_of_ble_eq_true rfl, rfl, rfl⟩ ⟨Nat.zero_le _, Nat.zero_le _⟩ dX7_forget_73 ?_
        have e_0 : (f_X7_forget_nw nP nw a1 a2) = (f_X2_put_sf 15 nw (0 + a1) ((f_X2_at 15 nw (0 + a1)) &&& (((1 : Int32) <<< ((a2 : Int32) &&& 31)) ^^^ (-1)))) := by rw [f_X7_forget_nw, if_neg c_1, if_neg c_2, if_neg c_3]
        have e_1 : (f_X7_forget_ah nP nw ax ah a1 a2) = ((B_X2_copy_3 210 15 nw (ax * 15) 0 ah 15)) := by rw [f_X7_forget_ah, if_neg c_1, if_neg c_2, if_neg c_3]
        have e_2 : (f_X7_forget_ac nP nw ac a1 a2) = (if 14 < (ac + 1) then 14 else (ac + 1)) := by rw [f_X7_forget_ac, if_neg c_1, if_neg c_2, if_neg c_3]
        have e_3 : (f_X7_forget_ax nP nw ax a1 a2) = ((ax + 1) - (ax + 1) / 14 * 14) := by rw [f_X7_forget_ax, if_neg c_1, if_neg c_2, if_neg c_3]
        exact mu_reti CF hQ hr hlk rfl hP hS dX7_forget_76 (by rw [f_X7_forget, if_neg c_1, if_neg c_2, if_neg c_3]) (by rw [e_0, e_1, e_2, e_3])
      · refine lv_bipush (v := (-3)) hx hb dX7_forget_32 (by decide) ?_
        have e_0 : (f_X7_forget_nw nP nw a1 a2) = nw := by rw [f_X7_forget_nw, if_neg c_1, if_neg c_2, if_pos c_3]
        have e_1 : (f_X7_forget_ah nP nw ax ah a1 a2) = ah := by rw [f_X7_forget_ah, if_neg c_1, if_neg c_2, if_pos c_3]
        have e_2 : (f_X7_forget_ac nP nw ac a1 a2) = ac := by rw [f_X7_forget_ac, if_neg c_1, if_neg c_2, if_pos c_3]
        have e_3 : (f_X7_forget_ax nP nw ax a1 a2) = ax := by rw [f_X7_forget_ax, if_neg c_1, if_neg c_2, if_pos c_3]
        exact mu_reti CF hQ hr hlk rfl hP hS dX7_forget_34 (by rw [f_X7_forget, if_neg c_1, if_neg c_2, if_pos c_3]) (by rw [e_0, e_1, e_2, e_3])
    · refine lv_iconst (v := (-1)) hx hb dX7_forget_15 (by decide) ?_
      have e_0 : (f_X7_forget_nw nP nw a1 a2) = nw := by rw [f_X7_forget_nw, if_neg c_1, if_pos c_2]
      have e_1 : (f_X7_forget_ah nP nw ax ah a1 a2) = ah := by rw [f_X7_forget_ah, if_neg c_1, if_pos c_2]
      have e_2 : (f_X7_forget_ac nP nw ac a1 a2) = ac := by rw [f_X7_forget_ac, if_neg c_1, if_pos c_2]
      have e_3 : (f_X7_forget_ax nP nw ax a1 a2) = ax := by rw [f_X7_forget_ax, if_neg c_1, if_pos c_2]
      exact mu_reti CF hQ hr hlk rfl hP hS dX7_forget_16 (by rw [f_X7_forget, if_neg c_1, if_pos c_2]) (by rw [e_0, e_1, e_2, e_3])
theorem lk_X7_140 : mLkV RX7 140 yX1_lie cX1_lie 7 (some .int) 3 := ⟨⟨tw_2_139, tw_1_6, tw_2_142, ⟨by decide +kernel, by decide +kernel, by decide +kernel⟩⟩, tw_2_140, tw_2_141⟩
def f_X7_say (nP : Nat) (nR : Nat) (kd : Nat → Int32) (nd : Nat → Int32) (gv : Nat → Int32) (nw : Nat → Int32) (a1 : Int32) (a2 : Int32) (a3 : Int32) : Int32 :=
  (if (f_X7_refusalToSay nP a1 a2 a3) = 0 then (f_X1_lie nw nP nR kd nd gv a1 a2 a3) else (f_X7_refusalToSay nP a1 a2 a3))
def f_X7_say_nw (nP : Nat) (nR : Nat) (kd : Nat → Int32) (nd : Nat → Int32) (gv : Nat → Int32) (nw : Nat → Int32) (a1 : Int32) (a2 : Int32) (a3 : Int32) : Nat → Int32 :=
  (if (f_X7_refusalToSay nP a1 a2 a3) = 0 then (f_X1_lie_nw nw nP nR kd nd gv a1 a2 a3) else nw)
def f_X7_say_ah (nP : Nat) (nw : Nat → Int32) (ax : Int32) (ah : Nat → Int32) (a1 : Int32) (a2 : Int32) (a3 : Int32) : Nat → Int32 :=
  (if (f_X7_refusalToSay nP a1 a2 a3) = 0 then ((B_X2_copy_3 210 15 nw (ax * 15) 0 ah 15)) else ah)
def f_X7_say_ac (nP : Nat) (ac : Int32) (a1 : Int32) (a2 : Int32) (a3 : Int32) : Int32 :=
  (if (f_X7_refusalToSay nP a1 a2 a3) = 0 then (if 14 < (ac + 1) then 14 else (ac + 1)) else ac)
def f_X7_say_ax (nP : Nat) (ax : Int32) (a1 : Int32) (a2 : Int32) (a3 : Int32) : Int32 :=
  (if (f_X7_refusalToSay nP a1 a2 a3) = 0 then ((ax + 1) - (ax + 1) / 14 * 14) else ax)
set_option maxRecDepth 100000 in
set_option maxHeartbeats 4000000 in
theorem c_X7_say (l : Launch) (D : va_G) (cI cZ : ClassId) (q0 x0 t0 n0 d0 b0 s0 e0 t1 t3 t5 t2 t4 t6 n1 n2 b1 b2 b3 : Nat) (fs : Int32) (ch : Int64) (nP : Nat) (nR : Nat) (kd : Nat → Int32) (nd : Nat → Int32) (gv : Nat → Int32) (nw : Nat → Int32) (ac : Int32) (ax : Int32) (ah : Nat → Int32) (a1 : Int32) (a2 : Int32) (a3 : Int32) (hP5 : nP ≤ 5) (hR : nR ≤ 4) : MU l D cI cZ yX7_say cX7_say 5 (some .int) (mR 5 116) [.ref q0, .int a1, .int a2, .int a3] [(q0, .inr (7, [.ref x0, .ref t0, .ref n0, .ref d0, .ref b0, .ref s0, .ref e0, .int fs, .long ch])), (t0, .inr (5, [.ref t1, .ref t3, .ref t5, .int (nI nP), .int (nI nR)])), (t1, .inr (2, [.ref t2])), (t2, .inl (cI, 5, .inl kd)), (t3, .inr (2, [.ref t4])), (t4, .inl (cI, 4, .inl nd)), (t5, .inr (2, [.ref t6])), (t6, .inl (cI, 4, .inl gv)), (n0, .inr (1, [.ref t0, .ref n1])), (n1, .inr (2, [.ref n2])), (n2, .inl (cI, 15, .inl nw)), (b0, .inr (0, [.ref b1, .int ac, .int ax])), (b1, .inr (4, [.ref b2])), (b2, .inr (2, [.ref b3])), (b3, .inl (cI, 210, .inl ah))] [(q0, .inr (7, [.ref x0, .ref t0, .ref n0, .ref d0, .ref b0, .ref s0, .ref e0, .int fs, .long ch])), (t0, .inr (5, [.ref t1, .ref t3, .ref t5, .int (nI nP), .int (nI nR)])), (t1, .inr (2, [.ref t2])), (t2, .inl (cI, 5, .inl kd)), (t3, .inr (2, [.ref t4])), (t4, .inl (cI, 4, .inl nd)), (t5, .inr (2, [.ref t6])), (t6, .inl (cI, 4, .inl gv)), (n0, .inr (1, [.ref t0, .ref n1])), (n1, .inr (2, [.ref n2])), (n2, .inl (cI, 15, .inl (f_X7_say_nw nP nR kd nd gv nw a1 a2 a3))), (b0, .inr (0, [.ref b1, .int (f_X7_say_ac nP ac a1 a2 a3), .int (f_X7_say_ax nP ax a1 a2 a3)])), (b1, .inr (4, [.ref b2])), (b2, .inr (2, [.ref b3])), (b3, .inl (cI, 210, .inl (f_X7_say_ah nP nw ax ah a1 a2 a3)))] (some (.int (f_X7_say nP nR kd nd gv nw a1 a2 a3))) := by
  refine MU.of (by decide +kernel) (Nat.le_of_ble_eq_true rfl) ?_
  intro p e s m args below meth c ls Q A CF hr hlk hP hE hD hS hQ hl
  have hx := CF.1
  have hb := CF.2.1
  have hl : lv_has ls 5 [(0, .ref q0), (1, .int a1), (2, .int a2), (3, .int a3)] := hl
  refine lv_aload_n hx hb dX7_say_0 rfl (lv_at hl 0 rfl) ?_
  refine lv_iload_n hx hb dX7_say_1 rfl (lv_at hl 1 rfl) ?_
  refine lv_iload_n hx hb dX7_say_2 rfl (lv_at hl 2 rfl) ?_
  refine lv_iload_n hx hb dX7_say_3 rfl (lv_at hl 3 rfl) ?_
  refine ro_V (y := yX7_refusalToSay) (As := [.int a1, .int a2, .int a3]) (rest := []) (q0 := 0) CF (c_X7_refusalToSay l D cI cZ q0 x0 t0 n0 d0 b0 s0 e0 t1 t3 t5 fs ch nP nR a1 a2 a3) lk_X7_132 hP hE [0, 1] rfl rfl rfl rfl hl.1 rfl (Nat.le_of_ble_eq_true rfl) ⟨Nat.le_of_ble_eq_true rfl, Nat.le_of_ble_eq_true rfl, rfl, rfl⟩ ⟨Nat.zero_le _, Nat.zero_le _⟩ dX7_say_4 ?_
  refine lv_istore (lv' := [(4, .int (f_X7_refusalToSay nP a1 a2 a3)), (0, .ref q0), (1, .int a1), (2, .int a2), (3, .int a3)]) hx hb dX7_say_7 hl (by decide) rfl (fun ls hl => ?_)
  refine lv_iload hx hb dX7_say_9 (lv_at hl 0 rfl) ?_
  refine lv_if_eq (tgt := 17) hx hb dX7_say_11 (by decide) (fun c_1 => ?_) (fun c_1 => ?_)
  · refine lv_aload_n hx hb dX7_say_17 rfl (lv_at hl 1 rfl) ?_
    refine r_get (C := RX7) (T := TX7) (N := 9) (v := .ref b0) CF hE hP 0 rfl rfl inG7 4 (by decide) tw_1_137 rfl rfl dX7_say_18 ?_
    refine lv_aload_n hx hb dX7_say_21 rfl (lv_at hl 1 rfl) ?_
    refine r_get (C := RX7) (T := TX7) (N := 9) (v := .ref n0) CF hE hP 0 rfl rfl inG7 2 (by decide) tw_1_135 rfl rfl dX7_say_22 ?_
    refine mu_Vv (y := yX0_remember) (As := [.ref n0]) (rest := []) (q0 := 11) (ws' := [(q0, .inr (7, [.ref x0, .ref t0, .ref n0, .ref d0, .ref b0, .ref s0, .ref e0, .int fs, .long ch])), (t0, .inr (5, [.ref t1, .ref t3, .ref t5, .int (nI nP), .int (nI nR)])), (t1, .inr (2, [.ref t2])), (t2, .inl (cI, 5, .inl kd)), (t3, .inr (2, [.ref t4])), (t4, .inl (cI, 4, .inl nd)), (t5, .inr (2, [.ref t6])), (t6, .inl (cI, 4, .inl gv)), (n0, .inr (1, [.ref t0, .ref n1])), (n1, .inr (2, [.ref n2])), (n2, .inl (cI, 15, .inl nw)), (b0, .inr (0, [.ref b1, .int (if 14 < (ac + 1) then 14 else (ac + 1)), .int ((ax + 1) - (ax + 1) / 14 * 14)])), (b1, .inr (4, [.ref b2])), (b2, .inr (2, [.ref b3])), (b3, .inl (cI, 210, .inl ((B_X2_copy_3 210 15 nw (ax * 15) 0 ah 15))))]) (ad := [q0, t0, t1, t2, t3, t4, t5, t6, n0, n1, n2, b0, b1, b2, b3]) CF (c_X0_remember l D cI cZ b0 b1 b2 b3 n0 t0 n1 n2 ac ax ah nw) lk_X7_136 hP hE hD hS [11, 12, 13, 14, 8, 9, 10] rfl (by decide) (Nat.le_of_ble_eq_true rfl) rfl rfl rfl rfl rfl rfl hl.1 rfl (Nat.le_of_ble_eq_true rfl) ⟨Nat.le_of_ble_eq_true rfl, Nat.le_of_ble_eq_true rfl, rfl, rfl⟩ ⟨Nat.zero_le _, Nat.zero_le _⟩ dX7_say_25 (fun H locs hP hD hS => ?_)
    refine lv_aload_n hx hb dX7_say_28 rfl (lv_at hl 1 rfl) ?_
    refine r_get (C := RX7) (T := TX7) (N := 9) (v := .ref n0) CF hE hP 0 rfl rfl inG7 2 (by decide) tw_1_135 rfl rfl dX7_say_29 ?_
    refine lv_iload_n hx hb dX7_say_32 rfl (lv_at hl 2 rfl) ?_
    refine lv_iload_n hx hb dX7_say_33 rfl (lv_at hl 3 rfl) ?_
    refine lv_iload_n hx hb dX7_say_34 rfl (lv_at hl 4 rfl) ?_
    refine mu_V (y := yX1_lie) (As := [.int a1, .int a2, .int a3]) (rest := []) (q0 := 8) (ws' := [(q0, .inr (7, [.ref x0, .ref t0, .ref n0, .ref d0, .ref b0, .ref s0, .ref e0, .int fs, .long ch])), (t0, .inr (5, [.ref t1, .ref t3, .ref t5, .int (nI nP), .int (nI nR)])), (t1, .inr (2, [.ref t2])), (t2, .inl (cI, 5, .inl kd)), (t3, .inr (2, [.ref t4])), (t4, .inl (cI, 4, .inl nd)), (t5, .inr (2, [.ref t6])), (t6, .inl (cI, 4, .inl gv)), (n0, .inr (1, [.ref t0, .ref n1])), (n1, .inr (2, [.ref n2])), (n2, .inl (cI, 15, .inl (f_X1_lie_nw nw nP nR kd nd gv a1 a2 a3))), (b0, .inr (0, [.ref b1, .int (if 14 < (ac + 1) then 14 else (ac + 1)), .int ((ax + 1) - (ax + 1) / 14 * 14)])), (b1, .inr (4, [.ref b2])), (b2, .inr (2, [.ref b3])), (b3, .inl (cI, 210, .inl ((B_X2_copy_3 210 15 nw (ax * 15) 0 ah 15))))]) (ad := [q0, t0, t1, t2, t3, t4, t5, t6, n0, n1, n2, b0, b1, b2, b3]) CF (c_X1_lie l D cI cZ n0 t0 n1 n2 t1 t3 t5 t2 t4 t6 nw nP nR kd nd gv a1 a2 a3 (by omega) (by omega)) lk_X7_140 hP hE hD hS [8, 9, 10, 1, 2, 3, 4, 5, 6, 7] rfl (by decide) (Nat.le_of_ble_eq_true rfl) rfl rfl rfl rfl rfl rfl hl.1 rfl (Nat.le_of_ble_eq_true rfl) ⟨Nat.le_of_ble_eq_true rfl, Nat.le_of_ble_eq_true rfl, rfl, rfl⟩ ⟨Nat.zero_le _, Nat.zero_le _⟩ dX7_say_35 (fun H locs hP hD hS => ?_)
    have e_0 : (f_X7_say_nw nP nR kd nd gv nw a1 a2 a3) = (f_X1_lie_nw nw nP nR kd nd gv a1 a2 a3) := by rw [f_X7_say_nw, if_pos c_1]
    have e_1 : (f_X7_say_ah nP nw ax ah a1 a2 a3) = ((B_X2_copy_3 210 15 nw (ax * 15) 0 ah 15)) := by rw [f_X7_say_ah, if_pos c_1]
    have e_2 : (f_X7_say_ac nP ac a1 a2 a3) = (if 14 < (ac + 1) then 14 else (ac + 1)) := by rw [f_X7_say_ac, if_pos c_1]
    have e_3 : (f_X7_say_ax nP ax a1 a2 a3) = ((ax + 1) - (ax + 1) / 14 * 14) := by rw [f_X7_say_ax, if_pos c_1]
    exact mu_reti CF hQ hr hlk rfl hP hS dX7_say_38 (by rw [f_X7_say, if_pos c_1]) (by rw [e_0, e_1, e_2, e_3])
  · refine lv_iload hx hb dX7_say_14 (lv_at hl 0 rfl) ?_
    have e_0 : (f_X7_say_nw nP nR kd nd gv nw a1 a2 a3) = nw := by rw [f_X7_say_nw, if_neg c_1]
    have e_1 : (f_X7_say_ah nP nw ax ah a1 a2 a3) = ah := by rw [f_X7_say_ah, if_neg c_1]
    have e_2 : (f_X7_say_ac nP ac a1 a2 a3) = ac := by rw [f_X7_say_ac, if_neg c_1]
    have e_3 : (f_X7_say_ax nP ax a1 a2 a3) = ax := by rw [f_X7_say_ax, if_neg c_1]
    exact mu_reti CF hQ hr hlk rfl hP hS dX7_say_16 (by rw [f_X7_say, if_neg c_1]) (by rw [e_0, e_1, e_2, e_3])
