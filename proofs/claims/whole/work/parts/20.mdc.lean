def f_X8_sign (uT : Nat) (up : Nat) (utx : Nat → Int32) (a1 : Int32) (a2 : Int32) : Int32 :=
  (if (nI up) = (nI uT) then (-9) else (if (f_X8_in (((utx up) - a1).toInt64) 0 a2.toInt64) = 0 then (-9) else ((utx ((up + 1) - 1)) - a1)))
def f_X8_sign_up (uT : Nat) (up : Nat) (utx : Nat → Int32) (a1 : Int32) (a2 : Int32) : Nat :=
  (if (nI up) = (nI uT) then up else (if (f_X8_in (((utx up) - a1).toInt64) 0 a2.toInt64) = 0 then up else (up + 1)))
set_option maxRecDepth 100000 in
set_option maxHeartbeats 4000000 in
theorem c_X8_sign (l : Launch) (D : va_G) (cI cZ : ClassId) (q0 y1 y2 y3 y4 y5 y6 y7 y8 y9 y10 y11 y12 y13 y14 : Nat) (th : Int32) (uT : Nat) (up : Nat) (uP : Nat) (uR : Nat) (vP : Nat) (vR : Nat) (ua : Nat) (us : Nat) (sd : Int64) (z1 : Int32) (z2 : Int32) (z3 : Int32) (z4 : Int32) (z5 : Int32) (z6 : Int32) (z7 : Int32) (utx : Nat → Int32) (a1 : Int32) (a2 : Int32) (hut : uT ≤ 40) (hup : up ≤ uT) : MU l D cI cZ yX8_sign cX8_sign 3 (some .int) (mR 1 25) [.ref q0, .int a1, .int a2] [(q0, .inr (8, [.int th, .ref y1, .int (nI uT), .int (nI up), .int (nI uP), .ref y2, .int (nI uR), .ref y3, .int (nI vP), .ref y4, .ref y5, .int (nI vR), .ref y6, .ref y7, .ref y8, .ref y9, .int (nI ua), .ref y10, .ref y11, .int (nI us), .ref y12, .ref y13, .long sd, .int z1, .int z2, .int z3, .int z4, .int z5, .int z6, .int z7, .ref y14])), (y1, .inl (cI, 40, .inl utx))] [(q0, .inr (8, [.int th, .ref y1, .int (nI uT), .int (nI (f_X8_sign_up uT up utx a1 a2)), .int (nI uP), .ref y2, .int (nI uR), .ref y3, .int (nI vP), .ref y4, .ref y5, .int (nI vR), .ref y6, .ref y7, .ref y8, .ref y9, .int (nI ua), .ref y10, .ref y11, .int (nI us), .ref y12, .ref y13, .long sd, .int z1, .int z2, .int z3, .int z4, .int z5, .int z6, .int z7, .ref y14])), (y1, .inl (cI, 40, .inl utx))] (some (.int (f_X8_sign uT up utx a1 a2))) := by
  refine MU.of (by decide +kernel) (Nat.le_of_ble_eq_true rfl) ?_
  intro p e s m args below meth c ls Q A CF hr hlk hP hE hD hS hQ hl
  have hx := CF.1
  have hb := CF.2.1
  have hl : lv_has ls 3 [(0, .ref q0), (1, .int a1), (2, .int a2)] := hl
  refine lv_aload_n hx hb dX8_sign_0 rfl (lv_at hl 0 rfl) ?_
  refine r_get (C := RX8) (T := TX8) (N := 31) (v := .int (nI up)) CF hE hP 0 rfl rfl inG8 3 (by decide) tw_3_118 rfl rfl dX8_sign_1 ?_
  refine lv_aload_n hx hb dX8_sign_4 rfl (lv_at hl 0 rfl) ?_
  refine r_get (C := RX8) (T := TX8) (N := 31) (v := .int (nI uT)) CF hE hP 0 rfl rfl inG8 2 (by decide) tw_3_117 rfl rfl dX8_sign_5 ?_
  refine lv_icmp_eq (tgt := 32) hx hb dX8_sign_8 (by decide) (fun c_1 => ?_) (fun c_1 => ?_)
  · have o_1 : up = uT := (ceq (rfl : nI up = nI up) (rfl : nI uT = nI uT) (by omega) (by omega)).mp c_1
    refine lv_bipush (v := (-9)) hx hb dX8_sign_32 (by decide) ?_
    have e_0 : (f_X8_sign_up uT up utx a1 a2) = up := by rw [f_X8_sign_up, if_pos c_1]
    exact mu_reti CF hQ hr hlk rfl hP hS dX8_sign_34 (by rw [f_X8_sign, if_pos c_1]) (by rw [e_0])
  · have o_1 : ¬ up = uT := fun h => c_1 ((ceq (rfl : nI up = nI up) (rfl : nI uT = nI uT) (by omega) (by omega)).mpr h)
    refine lv_aload_n hx hb dX8_sign_11 rfl (lv_at hl 0 rfl) ?_
    refine r_get (C := RX8) (T := TX8) (N := 31) (v := .ref y1) CF hE hP 0 rfl rfl inG8 1 (by decide) tw_3_116 rfl rfl dX8_sign_12 ?_
    refine lv_aload_n hx hb dX8_sign_15 rfl (lv_at hl 0 rfl) ?_
    refine r_get (C := RX8) (T := TX8) (N := 31) (v := .int (nI up)) CF hE hP 0 rfl rfl inG8 3 (by decide) tw_3_118 rfl rfl dX8_sign_16 ?_
    refine r_iald (k := 40) (f := utx) CF hE hP 1 rfl up (rfl : nI up = nI up) (by omega) (by decide) dX8_sign_19 ?_
    refine lv_iload_n hx hb dX8_sign_20 rfl (lv_at hl 1 rfl) ?_
    refine lv_isub hx hb dX8_sign_21 ?_
    refine lv_i2l (v := ((utx up) - a1).toInt64) hx hb dX8_sign_22 rfl ?_
    refine lv_lconst (v := 0) hx hb dX8_sign_23 (by decide) ?_
    refine lv_iload_n hx hb dX8_sign_24 rfl (lv_at hl 2 rfl) ?_
    refine lv_i2l (v := a2.toInt64) hx hb dX8_sign_25 rfl ?_
    refine ro_S (y := yX8_in) (As := [.long (((utx up) - a1).toInt64), .long 0, .long a2.toInt64]) (rest := []) CF (c_X8_in l D cI cZ (((utx up) - a1).toInt64) 0 a2.toInt64) lk_X8_60 hE rfl hl.1 rfl (Nat.le_of_ble_eq_true rfl) ⟨Nat.le_of_ble_eq_true rfl, Nat.le_of_ble_eq_true rfl, rfl, rfl⟩ ⟨Nat.zero_le _, Nat.zero_le _⟩ dX8_sign_26 ?_
    refine lv_if_ne (tgt := 35) hx hb dX8_sign_29 (by decide) (fun c_2 => ?_) (fun c_2 => ?_)
    · refine lv_aload_n hx hb dX8_sign_35 rfl (lv_at hl 0 rfl) ?_
      refine lv_dup hx hb dX8_sign_36 rfl ?_
      refine r_get (C := RX8) (T := TX8) (N := 31) (v := .int (nI up)) CF hE hP 0 rfl rfl inG8 3 (by decide) tw_3_118 rfl rfl dX8_sign_37 ?_
      refine lv_iconst (v := 1) hx hb dX8_sign_40 (by decide) ?_
      refine lv_iadd hx hb dX8_sign_41 ?_
      refine lv_as (z := (nI (up + 1))) (nf_add (rfl : nI up = nI up) (nf_c 1)) ?_
      refine r_put (C := RX8) (T := TX8) (N := 31) (ws' := [(q0, .inr (8, [.int th, .ref y1, .int (nI uT), .int (nI (up + 1)), .int (nI uP), .ref y2, .int (nI uR), .ref y3, .int (nI vP), .ref y4, .ref y5, .int (nI vR), .ref y6, .ref y7, .ref y8, .ref y9, .int (nI ua), .ref y10, .ref y11, .int (nI us), .ref y12, .ref y13, .long sd, .int z1, .int z2, .int z3, .int z4, .int z5, .int z6, .int z7, .ref y14])), (y1, .inl (cI, 40, .inl utx))]) CF hE hP hD hS 0 rfl rfl inG8 tyX8 tyX8_ok nmX8 3 (by decide) tw_3_118 rfl rfl rfl rfl (Nat.le_of_ble_eq_true rfl) dX8_sign_42 rfl (fun H locs hP hD hS => ?_)
      refine lv_aload_n hx hb dX8_sign_45 rfl (lv_at hl 0 rfl) ?_
      refine r_get (C := RX8) (T := TX8) (N := 31) (v := .ref y1) CF hE hP 0 rfl rfl inG8 1 (by decide) tw_3_116 rfl rfl dX8_sign_46 ?_
      refine lv_aload_n hx hb dX8_sign_49 rfl (lv_at hl 0 rfl) ?_
      refine r_get (C := RX8) (T := TX8) (N := 31) (v := .int (nI (up + 1))) CF hE hP 0 rfl rfl inG8 3 (by decide) tw_3_118 rfl rfl dX8_sign_50 ?_
      refine lv_iconst (v := 1) hx hb dX8_sign_53 (by decide) ?_
      refine lv_isub hx hb dX8_sign_54 ?_
      refine r_iald (k := 40) (f := utx) CF hE hP 1 rfl ((up + 1) - 1) (nf_sub (rfl : nI (up + 1) = nI (up + 1)) (nf_c 1) (by omega)) (by omega) (by decide) dX8_sign_55 ?_
      refine lv_iload_n hx hb dX8_sign_56 rfl (lv_at hl 1 rfl) ?_
      refine lv_isub hx hb dX8_sign_57 ?_
      have e_0 : (f_X8_sign_up uT up utx a1 a2) = (up + 1) := by rw [f_X8_sign_up, if_neg c_1, if_neg c_2]
      exact mu_reti CF hQ hr hlk rfl hP hS dX8_sign_58 (by rw [f_X8_sign, if_neg c_1, if_neg c_2]) (by rw [e_0])
    · refine lv_bipush (v := (-9)) hx hb dX8_sign_32 (by decide) ?_
      have e_0 : (f_X8_sign_up uT up utx a1 a2) = up := by rw [f_X8_sign_up, if_neg c_1, if_pos c_2]
      exact mu_reti CF hQ hr hlk rfl hP hS dX8_sign_34 (by rw [f_X8_sign, if_neg c_1, if_pos c_2]) (by rw [e_0])
theorem sign_le {uT up : Nat} {utx : Nat → Int32} {a1 a2 : Int32} (h : up ≤ uT) : f_X8_sign_up uT up utx a1 a2 ≤ uT := by
  unfold f_X8_sign_up
  by_cases h1 : nI up = nI uT
  · rw [if_pos h1]; omega
  · rw [if_neg h1]
    have : up ≠ uT := fun e => h1 (by rw [e])
    split <;> omega
theorem sign_ge {uT up : Nat} {utx : Nat → Int32} {a1 a2 : Int32} : up ≤ f_X8_sign_up uT up utx a1 a2 := by
  unfold f_X8_sign_up
  split
  · omega
  · split <;> omega
theorem lk_X8_74 : mLkV RX8 74 yX8_sign cX8_sign 3 (some .int) 2 := ⟨⟨tw_3_238, tw_1_10, tw_4_1, ⟨by decide +kernel, by decide +kernel, by decide +kernel⟩⟩, tw_4_0, tp_2_1⟩
def f_X8_readPerson (uT : Nat) (up : Nat) (utx : Nat → Int32) : Int32 :=
  (if (f_X8_sign uT up utx 48 3) = (-9) then 0 else (if (f_X8_sign uT (f_X8_sign_up uT up utx 48 3) utx 97 7) = (-9) then 0 else (if (f_X8_sign uT (f_X8_sign_up uT (f_X8_sign_up uT up utx 48 3) utx 97 7) utx 97 7) = (-9) then 0 else 1)))
theorem z_f_X8_readPerson (uT : Nat) (up : Nat) (utx : Nat → Int32) : narrow .boolean (.int (f_X8_readPerson uT up utx)) = .int (f_X8_readPerson uT up utx) := by
  unfold f_X8_readPerson
  repeat' split
  all_goals first | rfl
def f_X8_readPerson_up (uT : Nat) (up : Nat) (utx : Nat → Int32) : Nat :=
  (if (f_X8_sign uT up utx 48 3) = (-9) then (f_X8_sign_up uT up utx 48 3) else (if (f_X8_sign uT (f_X8_sign_up uT up utx 48 3) utx 97 7) = (-9) then (f_X8_sign_up uT (f_X8_sign_up uT up utx 48 3) utx 97 7) else (if (f_X8_sign uT (f_X8_sign_up uT (f_X8_sign_up uT up utx 48 3) utx 97 7) utx 97 7) = (-9) then (f_X8_sign_up uT (f_X8_sign_up uT (f_X8_sign_up uT up utx 48 3) utx 97 7) utx 97 7) else (f_X8_sign_up uT (f_X8_sign_up uT (f_X8_sign_up uT up utx 48 3) utx 97 7) utx 97 7))))
def f_X8_readPerson_vP (uT : Nat) (up : Nat) (vP : Nat) (utx : Nat → Int32) : Nat :=
  (if (f_X8_sign uT up utx 48 3) = (-9) then vP else (if (f_X8_sign uT (f_X8_sign_up uT up utx 48 3) utx 97 7) = (-9) then vP else (if (f_X8_sign uT (f_X8_sign_up uT (f_X8_sign_up uT up utx 48 3) utx 97 7) utx 97 7) = (-9) then vP else (vP + 1))))
def f_X8_readPerson_vk (uT : Nat) (up : Nat) (vP : Nat) (utx : Nat → Int32) (vk : Nat → Int32) : Nat → Int32 :=
  (if (f_X8_sign uT up utx 48 3) = (-9) then vk else (if (f_X8_sign uT (f_X8_sign_up uT up utx 48 3) utx 97 7) = (-9) then vk else (if (f_X8_sign uT (f_X8_sign_up uT (f_X8_sign_up uT up utx 48 3) utx 97 7) utx 97 7) = (-9) then vk else (upd vk vP (f_X8_sign uT up utx 48 3)))))
def f_X8_readPerson_vt (uT : Nat) (up : Nat) (vP : Nat) (utx : Nat → Int32) (vt : Nat → Int32) : Nat → Int32 :=
  (if (f_X8_sign uT up utx 48 3) = (-9) then vt else (if (f_X8_sign uT (f_X8_sign_up uT up utx 48 3) utx 97 7) = (-9) then vt else (if (f_X8_sign uT (f_X8_sign_up uT (f_X8_sign_up uT up utx 48 3) utx 97 7) utx 97 7) = (-9) then vt else (upd vt vP ((f_X8_sign uT (f_X8_sign_up uT up utx 48 3) utx 97 7) + (8 * (f_X8_sign uT (f_X8_sign_up uT (f_X8_sign_up uT up utx 48 3) utx 97 7) utx 97 7)))))))
set_option maxRecDepth 100000 in
set_option maxHeartbeats 4000000 in
theorem c_X8_readPerson (l : Launch) (D : va_G) (cI cZ : ClassId) (q0 y1 y2 y3 y4 y5 y6 y7 y8 y9 y10 y11 y12 y13 y14 : Nat) (th : Int32) (uT : Nat) (up : Nat) (uP : Nat) (uR : Nat) (vP : Nat) (vR : Nat) (ua : Nat) (us : Nat) (sd : Int64) (z1 : Int32) (z2 : Int32) (z3 : Int32) (z4 : Int32) (z5 : Int32) (z6 : Int32) (z7 : Int32) (utx : Nat → Int32) (vk : Nat → Int32) (vt : Nat → Int32) (hut : uT ≤ 40) (hup : up ≤ uT) (hvP : vP < 5) : MU l D cI cZ yX8_readPerson cX8_readPerson 4 (some .boolean) (mR 2 47) [.ref q0] [(q0, .inr (8, [.int th, .ref y1, .int (nI uT), .int (nI up), .int (nI uP), .ref y2, .int (nI uR), .ref y3, .int (nI vP), .ref y4, .ref y5, .int (nI vR), .ref y6, .ref y7, .ref y8, .ref y9, .int (nI ua), .ref y10, .ref y11, .int (nI us), .ref y12, .ref y13, .long sd, .int z1, .int z2, .int z3, .int z4, .int z5, .int z6, .int z7, .ref y14])), (y1, .inl (cI, 40, .inl utx)), (y4, .inl (cI, 5, .inl vk)), (y5, .inl (cI, 5, .inl vt))] [(q0, .inr (8, [.int th, .ref y1, .int (nI uT), .int (nI (f_X8_readPerson_up uT up utx)), .int (nI uP), .ref y2, .int (nI uR), .ref y3, .int (nI (f_X8_readPerson_vP uT up vP utx)), .ref y4, .ref y5, .int (nI vR), .ref y6, .ref y7, .ref y8, .ref y9, .int (nI ua), .ref y10, .ref y11, .int (nI us), .ref y12, .ref y13, .long sd, .int z1, .int z2, .int z3, .int z4, .int z5, .int z6, .int z7, .ref y14])), (y1, .inl (cI, 40, .inl utx)), (y4, .inl (cI, 5, .inl (f_X8_readPerson_vk uT up vP utx vk))), (y5, .inl (cI, 5, .inl (f_X8_readPerson_vt uT up vP utx vt)))] (some (.int (f_X8_readPerson uT up utx))) := by
  refine MU.of (by decide +kernel) (Nat.le_of_ble_eq_true rfl) ?_
  intro p e s m args below meth c ls Q A CF hr hlk hP hE hD hS hQ hl
  have hx := CF.1
  have hb := CF.2.1
  have hl : lv_has ls 4 [(0, .ref q0)] := hl
  refine lv_aload_n hx hb dX8_readPerson_0 rfl (lv_at hl 0 rfl) ?_
  refine lv_bipush (v := 48) hx hb dX8_readPerson_1 (by decide) ?_
  refine lv_iconst (v := 3) hx hb dX8_readPerson_3 (by decide) ?_
  refine mu_V (y := yX8_sign) (As := [.int 48, .int 3]) (rest := []) (q0 := 0) (ws' := [(q0, .inr (8, [.int th, .ref y1, .int (nI uT), .int (nI (f_X8_sign_up uT up utx 48 3)), .int (nI uP), .ref y2, .int (nI uR), .ref y3, .int (nI vP), .ref y4, .ref y5, .int (nI vR), .ref y6, .ref y7, .ref y8, .ref y9, .int (nI ua), .ref y10, .ref y11, .int (nI us), .ref y12, .ref y13, .long sd, .int z1, .int z2, .int z3, .int z4, .int z5, .int z6, .int z7, .ref y14])), (y1, .inl (cI, 40, .inl utx)), (y4, .inl (cI, 5, .inl vk)), (y5, .inl (cI, 5, .inl vt))]) (ad := [q0, y1, y4, y5]) CF (c_X8_sign l D cI cZ q0 y1 y2 y3 y4 y5 y6 y7 y8 y9 y10 y11 y12 y13 y14 th uT up uP uR vP vR ua us sd z1 z2 z3 z4 z5 z6 z7 utx 48 3 (by omega) (by omega)) lk_X8_74 hP hE hD hS [0, 1] rfl (by decide) (Nat.le_of_ble_eq_true rfl) rfl rfl rfl rfl rfl rfl hl.1 rfl (Nat.le_of_ble_eq_true rfl) ⟨Nat.le_of_ble_eq_true rfl, Nat.le_of_ble_eq_true rfl, rfl, rfl⟩ ⟨Nat.zero_le _, Nat.zero_le _⟩ dX8_readPerson_4 (fun H locs hP hD hS => ?_)
  have hsl_1 : (f_X8_sign_up uT up utx 48 3) ≤ uT := sign_le (by omega)
  refine lv_istore_n (lv' := [(1, .int (f_X8_sign uT up utx 48 3)), (0, .ref q0)]) hx hb dX8_readPerson_7 rfl hl (by decide) rfl (fun ls hl => ?_)
  refine lv_iload_n hx hb dX8_readPerson_8 rfl (lv_at hl 0 rfl) ?_
  refine lv_bipush (v := (-9)) hx hb dX8_readPerson_9 (by decide) ?_
  refine lv_icmp_ne (tgt := 19) hx hb dX8_readPerson_11 (by decide) (fun c_2 => ?_) (fun c_2 => ?_)
  · refine lv_aload_n hx hb dX8_readPerson_19 rfl (lv_at hl 1 rfl) ?_
    refine lv_bipush (v := 97) hx hb dX8_readPerson_20 (by decide) ?_
    refine lv_bipush (v := 7) hx hb dX8_readPerson_22 (by decide) ?_
    refine mu_V (y := yX8_sign) (As := [.int 97, .int 7]) (rest := []) (q0 := 0) (ws' := [(q0, .inr (8, [.int th, .ref y1, .int (nI uT), .int (nI (f_X8_sign_up uT (f_X8_sign_up uT up utx 48 3) utx 97 7)), .int (nI uP), .ref y2, .int (nI uR), .ref y3, .int (nI vP), .ref y4, .ref y5, .int (nI vR), .ref y6, .ref y7, .ref y8, .ref y9, .int (nI ua), .ref y10, .ref y11, .int (nI us), .ref y12, .ref y13, .long sd, .int z1, .int z2, .int z3, .int z4, .int z5, .int z6, .int z7, .ref y14])), (y1, .inl (cI, 40, .inl utx)), (y4, .inl (cI, 5, .inl vk)), (y5, .inl (cI, 5, .inl vt))]) (ad := [q0, y1, y4, y5]) CF (c_X8_sign l D cI cZ q0 y1 y2 y3 y4 y5 y6 y7 y8 y9 y10 y11 y12 y13 y14 th uT (f_X8_sign_up uT up utx 48 3) uP uR vP vR ua us sd z1 z2 z3 z4 z5 z6 z7 utx 97 7 (by omega) (by omega)) lk_X8_74 hP hE hD hS [0, 1] rfl (by decide) (Nat.le_of_ble_eq_true rfl) rfl rfl rfl rfl rfl rfl hl.1 rfl (Nat.le_of_ble_eq_true rfl) ⟨Nat.le_of_ble_eq_true rfl, Nat.le_of_ble_eq_true rfl, rfl, rfl⟩ ⟨Nat.zero_le _, Nat.zero_le _⟩ dX8_readPerson_24 (fun H locs hP hD hS => ?_)
    have hsl_3 : (f_X8_sign_up uT (f_X8_sign_up uT up utx 48 3) utx 97 7) ≤ uT := sign_le (by omega)
    refine lv_istore_n (lv' := [(2, .int (f_X8_sign uT (f_X8_sign_up uT up utx 48 3) utx 97 7)), (1, .int (f_X8_sign uT up utx 48 3)), (0, .ref q0)]) hx hb dX8_readPerson_27 rfl hl (by decide) rfl (fun ls hl => ?_)
    refine lv_iload_n hx hb dX8_readPerson_28 rfl (lv_at hl 0 rfl) ?_
    refine lv_bipush (v := (-9)) hx hb dX8_readPerson_29 (by decide) ?_
    refine lv_icmp_ne (tgt := 39) hx hb dX8_readPerson_31 (by decide) (fun c_4 => ?_) (fun c_4 => ?_)
    · refine lv_aload_n hx hb dX8_readPerson_39 rfl (lv_at hl 2 rfl) ?_
      refine lv_bipush (v := 97) hx hb dX8_readPerson_40 (by decide) ?_
      refine lv_bipush (v := 7) hx hb dX8_readPerson_42 (by decide) ?_
      refine mu_V (y := yX8_sign) (As := [.int 97, .int 7]) (rest := []) (q0 := 0) (ws' := [(q0, .inr (8, [.int th, .ref y1, .int (nI uT), .int (nI (f_X8_sign_up uT (f_X8_sign_up uT (f_X8_sign_up uT up utx 48 3) utx 97 7) utx 97 7)), .int (nI uP), .ref y2, .int (nI uR), .ref y3, .int (nI vP), .ref y4, .ref y5, .int (nI vR), .ref y6, .ref y7, .ref y8, .ref y9, .int (nI ua), .ref y10, .ref y11, .int (nI us), .ref y12, .ref y13, .long sd, .int z1, .int z2, .int z3, .int z4, .int z5, .int z6, .int z7, .ref y14])), (y1, .inl (cI, 40, .inl utx)), (y4, .inl (cI, 5, .inl vk)), (y5, .inl (cI, 5, .inl vt))]) (ad := [q0, y1, y4, y5]) CF (c_X8_sign l D cI cZ q0 y1 y2 y3 y4 y5 y6 y7 y8 y9 y10 y11 y12 y13 y14 th uT (f_X8_sign_up uT (f_X8_sign_up uT up utx 48 3) utx 97 7) uP uR vP vR ua us sd z1 z2 z3 z4 z5 z6 z7 utx 97 7 (by omega) (by omega)) lk_X8_74 hP hE hD hS [0, 1] rfl (by decide) (Nat.le_of_ble_eq_true rfl) rfl rfl rfl rfl rfl rfl hl.1 rfl (Nat.le_of_ble_eq_true rfl) ⟨Nat.le_of_ble_eq_true rfl, Nat.le_of_ble_eq_true rfl, rfl, rfl⟩ ⟨Nat.zero_le _, Nat.zero_le _⟩ dX8_readPerson_44 (fun H locs hP hD hS => ?_)
      have hsl_5 : (f_X8_sign_up uT (f_X8_sign_up uT (f_X8_sign_up uT up utx 48 3) utx 97 7) utx 97 7) ≤ uT := sign_le (by omega)
      refine lv_istore_n (lv' := [(3, .int (f_X8_sign uT (f_X8_sign_up uT (f_X8_sign_up uT up utx 48 3) utx 97 7) utx 97 7)), (2, .int (f_X8_sign uT (f_X8_sign_up uT up utx 48 3) utx 97 7)), (1, .int (f_X8_sign uT up utx 48 3)), (0, .ref q0)]) hx hb dX8_readPerson_47 rfl hl (by decide) rfl (fun ls hl => ?_)
      refine lv_iload_n hx hb dX8_readPerson_48 rfl (lv_at hl 0 rfl) ?_
      refine lv_bipush (v := (-9)) hx hb dX8_readPerson_49 (by decide) ?_
      refine lv_icmp_ne (tgt := 56) hx hb dX8_readPerson_51 (by decide) (fun c_6 => ?_) (fun c_6 => ?_)
      · refine lv_aload_n hx hb dX8_readPerson_56 rfl (lv_at hl 3 rfl) ?_
        refine r_get (C := RX8) (T := TX8) (N := 31) (v := .ref y4) CF hE hP 0 rfl rfl inG8 9 (by decide) tw_3_124 rfl rfl dX8_readPerson_57 ?_
        refine lv_aload_n hx hb dX8_readPerson_60 rfl (lv_at hl 3 rfl) ?_
        refine r_get (C := RX8) (T := TX8) (N := 31) (v := .int (nI vP)) CF hE hP 0 rfl rfl inG8 8 (by decide) tw_3_123 rfl rfl dX8_readPerson_61 ?_
        refine lv_iload_n hx hb dX8_readPerson_64 rfl (lv_at hl 2 rfl) ?_
        refine r_iast (k := 5) (f := vk) (ws' := [(q0, .inr (8, [.int th, .ref y1, .int (nI uT), .int (nI (f_X8_sign_up uT (f_X8_sign_up uT (f_X8_sign_up uT up utx 48 3) utx 97 7) utx 97 7)), .int (nI uP), .ref y2, .int (nI uR), .ref y3, .int (nI vP), .ref y4, .ref y5, .int (nI vR), .ref y6, .ref y7, .ref y8, .ref y9, .int (nI ua), .ref y10, .ref y11, .int (nI us), .ref y12, .ref y13, .long sd, .int z1, .int z2, .int z3, .int z4, .int z5, .int z6, .int z7, .ref y14])), (y1, .inl (cI, 40, .inl utx)), (y4, .inl (cI, 5, .inl (upd vk vP (f_X8_sign uT up utx 48 3)))), (y5, .inl (cI, 5, .inl vt))]) CF hE hP hD hS 2 rfl vP (rfl : nI vP = nI vP) (by omega) (by decide) dX8_readPerson_65 rfl (fun H locs hP hD hS => ?_)
        refine lv_aload_n hx hb dX8_readPerson_66 rfl (lv_at hl 3 rfl) ?_
        refine r_get (C := RX8) (T := TX8) (N := 31) (v := .ref y5) CF hE hP 0 rfl rfl inG8 10 (by decide) tw_3_125 rfl rfl dX8_readPerson_67 ?_
        refine lv_aload_n hx hb dX8_readPerson_70 rfl (lv_at hl 3 rfl) ?_
        refine r_get (C := RX8) (T := TX8) (N := 31) (v := .int (nI vP)) CF hE hP 0 rfl rfl inG8 8 (by decide) tw_3_123 rfl rfl dX8_readPerson_71 ?_
        refine lv_iload_n hx hb dX8_readPerson_74 rfl (lv_at hl 1 rfl) ?_
        refine lv_bipush (v := 8) hx hb dX8_readPerson_75 (by decide) ?_
        refine lv_iload_n hx hb dX8_readPerson_77 rfl (lv_at hl 0 rfl) ?_
        refine lv_imul hx hb dX8_readPerson_78 ?_
        refine lv_iadd hx hb dX8_readPerson_79 ?_
        refine r_iast (k := 5) (f := vt) (ws' := [(q0, .inr (8, [.int th, .ref y1, .int (nI uT), .int (nI (f_X8_sign_up uT (f_X8_sign_up uT (f_X8_sign_up uT up utx 48 3) utx 97 7) utx 97 7)), .int (nI uP), .ref y2, .int (nI uR), .ref y3, .int (nI vP), .ref y4, .ref y5, .int (nI vR), .ref y6, .ref y7, .ref y8, .ref y9, .int (nI ua), .ref y10, .ref y11, .int (nI us), .ref y12, .ref y13, .long sd, .int z1, .int z2, .int z3, .int z4, .int z5, .int z6, .int z7, .ref y14])), (y1, .inl (cI, 40, .inl utx)), (y4, .inl (cI, 5, .inl (upd vk vP (f_X8_sign uT up utx 48 3)))), (y5, .inl (cI, 5, .inl (upd vt vP ((f_X8_sign uT (f_X8_sign_up uT up utx 48 3) utx 97 7) + (8 * (f_X8_sign uT (f_X8_sign_up uT (f_X8_sign_up uT up utx 48 3) utx 97 7) utx 97 7))))))]) CF hE hP hD hS 3 rfl vP (rfl : nI vP = nI vP) (by omega) (by decide) dX8_readPerson_80 rfl (fun H locs hP hD hS => ?_)
        refine lv_aload_n hx hb dX8_readPerson_81 rfl (lv_at hl 3 rfl) ?_
        refine lv_dup hx hb dX8_readPerson_82 rfl ?_
        refine r_get (C := RX8) (T := TX8) (N := 31) (v := .int (nI vP)) CF hE hP 0 rfl rfl inG8 8 (by decide) tw_3_123 rfl rfl dX8_readPerson_83 ?_
        refine lv_iconst (v := 1) hx hb dX8_readPerson_86 (by decide) ?_
        refine lv_iadd hx hb dX8_readPerson_87 ?_
        refine lv_as (z := (nI (vP + 1))) (nf_add (rfl : nI vP = nI vP) (nf_c 1)) ?_
        refine r_put (C := RX8) (T := TX8) (N := 31) (ws' := [(q0, .inr (8, [.int th, .ref y1, .int (nI uT), .int (nI (f_X8_sign_up uT (f_X8_sign_up uT (f_X8_sign_up uT up utx 48 3) utx 97 7) utx 97 7)), .int (nI uP), .ref y2, .int (nI uR), .ref y3, .int (nI (vP + 1)), .ref y4, .ref y5, .int (nI vR), .ref y6, .ref y7, .ref y8, .ref y9, .int (nI ua), .ref y10, .ref y11, .int (nI us), .ref y12, .ref y13, .long sd, .int z1, .int z2, .int z3, .int z4, .int z5, .int z6, .int z7, .ref y14])), (y1, .inl (cI, 40, .inl utx)), (y4, .inl (cI, 5, .inl (upd vk vP (f_X8_sign uT up utx 48 3)))), (y5, .inl (cI, 5, .inl (upd vt vP ((f_X8_sign uT (f_X8_sign_up uT up utx 48 3) utx 97 7) + (8 * (f_X8_sign uT (f_X8_sign_up uT (f_X8_sign_up uT up utx 48 3) utx 97 7) utx 97 7))))))]) CF hE hP hD hS 0 rfl rfl inG8 tyX8 tyX8_ok nmX8 8 (by decide) tw_3_123 rfl rfl rfl rfl (Nat.le_of_ble_eq_true rfl) dX8_readPerson_88 rfl (fun H locs hP hD hS => ?_)
        refine lv_iconst (v := 1) hx hb dX8_readPerson_91 (by decide) ?_
        have e_0 : (f_X8_readPerson_up uT up utx) = (f_X8_sign_up uT (f_X8_sign_up uT (f_X8_sign_up uT up utx 48 3) utx 97 7) utx 97 7) := by rw [f_X8_readPerson_up, if_neg c_2, if_neg c_4, if_neg c_6]
        have e_1 : (f_X8_readPerson_vP uT up vP utx) = (vP + 1) := by rw [f_X8_readPerson_vP, if_neg c_2, if_neg c_4, if_neg c_6]
        have e_2 : (f_X8_readPerson_vk uT up vP utx vk) = (upd vk vP (f_X8_sign uT up utx 48 3)) := by rw [f_X8_readPerson_vk, if_neg c_2, if_neg c_4, if_neg c_6]
        have e_3 : (f_X8_readPerson_vt uT up vP utx vt) = (upd vt vP ((f_X8_sign uT (f_X8_sign_up uT up utx 48 3) utx 97 7) + (8 * (f_X8_sign uT (f_X8_sign_up uT (f_X8_sign_up uT up utx 48 3) utx 97 7) utx 97 7)))) := by rw [f_X8_readPerson_vt, if_neg c_2, if_neg c_4, if_neg c_6]
        exact mu_reti CF hQ hr hlk rfl hP hS dX8_readPerson_92 (by rw [f_X8_readPerson, if_neg c_2, if_neg c_4, if_neg c_6]) (by rw [e_0, e_1, e_2, e_3])
      · refine lv_iconst (v := 0) hx hb dX8_readPerson_54 (by decide) ?_
        have e_0 : (f_X8_readPerson_up uT up utx) = (f_X8_sign_up uT (f_X8_sign_up uT (f_X8_sign_up uT up utx 48 3) utx 97 7) utx 97 7) := by rw [f_X8_readPerson_up, if_neg c_2, if_neg c_4, if_pos c_6]
        have e_1 : (f_X8_readPerson_vP uT up vP utx) = vP := by rw [f_X8_readPerson_vP, if_neg c_2, if_neg c_4, if_pos c_6]
        have e_2 : (f_X8_readPerson_vk uT up vP utx vk) = vk := by rw [f_X8_readPerson_vk, if_neg c_2, if_neg c_4, if_pos c_6]
        have e_3 : (f_X8_readPerson_vt uT up vP utx vt) = vt := by rw [f_X8_readPerson_vt, if_neg c_2, if_neg c_4, if_pos c_6]
        exact mu_reti CF hQ hr hlk rfl hP hS dX8_readPerson_55 (by rw [f_X8_readPerson, if_neg c_2, if_neg c_4, if_pos c_6]) (by rw [e_0, e_1, e_2, e_3])
    · refine lv_bipush (v := (-9)) hx hb dX8_readPerson_34 (by decide) ?_
      refine lv_goto (tgt := 47) hx hb dX8_readPerson_36 (by decide) ?_
      refine lv_istore_n (lv' := [(3, .int (-9)), (2, .int (f_X8_sign uT (f_X8_sign_up uT up utx 48 3) utx 97 7)), (1, .int (f_X8_sign uT up utx 48 3)), (0, .ref q0)]) hx hb dX8_readPerson_47 rfl hl (by decide) rfl (fun ls hl => ?_)
      refine lv_iload_n hx hb dX8_readPerson_48 rfl (lv_at hl 0 rfl) ?_
      refine lv_bipush (v := (-9)) hx hb dX8_readPerson_49 (by decide) ?_
      refine lv_icmp_ne (tgt := 56) hx hb dX8_readPerson_51 (by decide) (fun c_7 => absurd c_7 (by decide)) (fun _ => ?_)
      refine lv_iconst (v := 0) hx hb dX8_readPerson_54 (by decide) ?_
      have e_0 : (f_X8_readPerson_up uT up utx) = (f_X8_sign_up uT (f_X8_sign_up uT up utx 48 3) utx 97 7) := by rw [f_X8_readPerson_up, if_neg c_2, if_pos c_4]
      have e_1 : (f_X8_readPerson_vP uT up vP utx) = vP := by rw [f_X8_readPerson_vP, if_neg c_2, if_pos c_4]
      have e_2 : (f_X8_readPerson_vk uT up vP utx vk) = vk := by rw [f_X8_readPerson_vk, if_neg c_2, if_pos c_4]
      have e_3 : (f_X8_readPerson_vt uT up vP utx vt) = vt := by rw [f_X8_readPerson_vt, if_neg c_2, if_pos c_4]
      exact mu_reti CF hQ hr hlk rfl hP hS dX8_readPerson_55 (by rw [f_X8_readPerson, if_neg c_2, if_pos c_4]) (by rw [e_0, e_1, e_2, e_3])
  · refine lv_bipush (v := (-9)) hx hb dX8_readPerson_14 (by decide) ?_
    refine lv_goto (tgt := 27) hx hb dX8_readPerson_16 (by decide) ?_
    refine lv_istore_n (lv' := [(2, .int (-9)), (1, .int (f_X8_sign uT up utx 48 3)), (0, .ref q0)]) hx hb dX8_readPerson_27 rfl hl (by decide) rfl (fun ls hl => ?_)
    refine lv_iload_n hx hb dX8_readPerson_28 rfl (lv_at hl 0 rfl) ?_
    refine lv_bipush (v := (-9)) hx hb dX8_readPerson_29 (by decide) ?_
    refine lv_icmp_ne (tgt := 39) hx hb dX8_readPerson_31 (by decide) (fun c_8 => absurd c_8 (by decide)) (fun _ => ?_)
    refine lv_bipush (v := (-9)) hx hb dX8_readPerson_34 (by decide) ?_
    refine lv_goto (tgt := 47) hx hb dX8_readPerson_36 (by decide) ?_
    refine lv_istore_n (lv' := [(3, .int (-9)), (2, .int (-9)), (1, .int (f_X8_sign uT up utx 48 3)), (0, .ref q0)]) hx hb dX8_readPerson_47 rfl hl (by decide) rfl (fun ls hl => ?_)
    refine lv_iload_n hx hb dX8_readPerson_48 rfl (lv_at hl 0 rfl) ?_
    refine lv_bipush (v := (-9)) hx hb dX8_readPerson_49 (by decide) ?_
    refine lv_icmp_ne (tgt := 56) hx hb dX8_readPerson_51 (by decide) (fun c_9 => absurd c_9 (by decide)) (fun _ => ?_)
    refine lv_iconst (v := 0) hx hb dX8_readPerson_54 (by decide) ?_
    have e_0 : (f_X8_readPerson_up uT up utx) = (f_X8_sign_up uT up utx 48 3) := by rw [f_X8_readPerson_up, if_pos c_2]
    have e_1 : (f_X8_readPerson_vP uT up vP utx) = vP := by rw [f_X8_readPerson_vP, if_pos c_2]
    have e_2 : (f_X8_readPerson_vk uT up vP utx vk) = vk := by rw [f_X8_readPerson_vk, if_pos c_2]
    have e_3 : (f_X8_readPerson_vt uT up vP utx vt) = vt := by rw [f_X8_readPerson_vt, if_pos c_2]
    exact mu_reti CF hQ hr hlk rfl hP hS dX8_readPerson_55 (by rw [f_X8_readPerson, if_pos c_2]) (by rw [e_0, e_1, e_2, e_3])
def S_X8_readOne_2 (uT : Nat) (vR : Nat) (utx : Nat → Int32) (rec : Nat → (Nat) → (Nat → Int32) → ((Int32) × (Nat) × (Nat) × (Nat → Int32))) (k2 : Nat) (x2_0 : Nat) (x2_1 : Nat → Int32) : (Int32) × (Nat) × (Nat) × (Nat → Int32) :=
  (if 3 ≤ (nI k2) then (1, x2_0, (vR + 1), x2_1) else (if (f_X8_sign uT x2_0 utx 48 5) = (-9) then (0, (f_X8_sign_up uT x2_0 utx 48 5), vR, x2_1) else (rec (k2 + 1) (f_X8_sign_up uT x2_0 utx 48 5) (upd x2_1 ((3 * vR) + k2) (f_X8_sign uT x2_0 utx 48 5)))))
def L_X8_readOne_2 (uT : Nat) (vR : Nat) (utx : Nat → Int32) : Nat → Nat → (Nat) → (Nat → Int32) → ((Int32) × (Nat) × (Nat) × (Nat → Int32))
  | 0, _, _, _ => (0, 0, 0, (fun _ => 0))
  | n + 1, k, y0, y1 => S_X8_readOne_2 uT vR utx (L_X8_readOne_2 uT vR utx n) k y0 y1
def f_X8_readOne (uT : Nat) (up : Nat) (vR : Nat) (utx : Nat → Int32) (vr : Nat → Int32) : Int32 :=
  ((L_X8_readOne_2 uT vR utx (3 + 1) 0 up vr).1)
def f_X8_readOne_up (uT : Nat) (up : Nat) (vR : Nat) (utx : Nat → Int32) (vr : Nat → Int32) : Nat :=
  ((L_X8_readOne_2 uT vR utx (3 + 1) 0 up vr).2.1)
def f_X8_readOne_vR (uT : Nat) (up : Nat) (vR : Nat) (utx : Nat → Int32) (vr : Nat → Int32) : Nat :=
  ((L_X8_readOne_2 uT vR utx (3 + 1) 0 up vr).2.2.1)
def f_X8_readOne_vr (uT : Nat) (up : Nat) (vR : Nat) (utx : Nat → Int32) (vr : Nat → Int32) : Nat → Int32 :=
  ((L_X8_readOne_2 uT vR utx (3 + 1) 0 up vr).2.2.2)
set_option maxRecDepth 100000 in
set_option maxHeartbeats 4000000 in
theorem c_X8_readOne (l : Launch) (D : va_G) (cI cZ : ClassId) (q0 y1 y2 y3 y4 y5 y6 y7 y8 y9 y10 y11 y12 y13 y14 : Nat) (th : Int32) (uT : Nat) (up : Nat) (uP : Nat) (uR : Nat) (vP : Nat) (vR : Nat) (ua : Nat) (us : Nat) (sd : Int64) (z1 : Int32) (z2 : Int32) (z3 : Int32) (z4 : Int32) (z5 : Int32) (z6 : Int32) (z7 : Int32) (utx : Nat → Int32) (vr : Nat → Int32) (hut : uT ≤ 40) (hup : up ≤ uT) (hvR : vR < 4) : MU l D cI cZ yX8_readOne cX8_readOne 3 (some .boolean) (mR 2 47) [.ref q0] [(q0, .inr (8, [.int th, .ref y1, .int (nI uT), .int (nI up), .int (nI uP), .ref y2, .int (nI uR), .ref y3, .int (nI vP), .ref y4, .ref y5, .int (nI vR), .ref y6, .ref y7, .ref y8, .ref y9, .int (nI ua), .ref y10, .ref y11, .int (nI us), .ref y12, .ref y13, .long sd, .int z1, .int z2, .int z3, .int z4, .int z5, .int z6, .int z7, .ref y14])), (y1, .inl (cI, 40, .inl utx)), (y6, .inl (cI, 12, .inl vr))] [(q0, .inr (8, [.int th, .ref y1, .int (nI uT), .int (nI (f_X8_readOne_up uT up vR utx vr)), .int (nI uP), .ref y2, .int (nI uR), .ref y3, .int (nI vP), .ref y4, .ref y5, .int (nI (f_X8_readOne_vR uT up vR utx vr)), .ref y6, .ref y7, .ref y8, .ref y9, .int (nI ua), .ref y10, .ref y11, .int (nI us), .ref y12, .ref y13, .long sd, .int z1, .int z2, .int z3, .int z4, .int z5, .int z6, .int z7, .ref y14])), (y1, .inl (cI, 40, .inl utx)), (y6, .inl (cI, 12, .inl (f_X8_readOne_vr uT up vR utx vr)))] (some (.int (f_X8_readOne uT up vR utx vr))) := by
  refine MU.of (by decide +kernel) (Nat.le_of_ble_eq_true rfl) ?_
  intro p e s m args below meth c ls Q A CF hr hlk hP hE hD hS hQ hl
  have hx := CF.1
  have hb := CF.2.1
  have hl : lv_has ls 3 [(0, .ref q0)] := hl
  refine lv_iconst (v := 0) hx hb dX8_readOne_0 (by decide) ?_
  refine lv_istore_n (lv' := [(1, .int 0), (0, .ref q0)]) hx hb dX8_readOne_1 rfl hl (by decide) rfl (fun ls hl => ?_)
  have LOOP_2 : ∀ (n_2 k2 : Nat) (x2_0 : Nat) (x2_1 : Nat → Int32) (H : Heap) (locs : List Loc) (ls : Array Slot), k2 ≤ 3 → 3 - k2 < n_2 → L_X8_readOne_2 uT vR utx n_2 k2 x2_0 x2_1 = L_X8_readOne_2 uT vR utx (3 + 1) 0 up vr → (x2_0 ≤ uT) → va_P D vwCl [(q0, .inr (8, [.int th, .ref y1, .int (nI uT), .int (nI x2_0), .int (nI uP), .ref y2, .int (nI uR), .ref y3, .int (nI vP), .ref y4, .ref y5, .int (nI vR), .ref y6, .ref y7, .ref y8, .ref y9, .int (nI ua), .ref y10, .ref y11, .int (nI us), .ref y12, .ref y13, .long sd, .int z1, .int z2, .int z3, .int z4, .int z5, .int z6, .int z7, .ref y14])), (y1, .inl (cI, 40, .inl utx)), (y6, .inl (cI, 12, .inl x2_1))] H → va_D A [(q0, .inr (8, [.int th, .ref y1, .int (nI uT), .int (nI x2_0), .int (nI uP), .ref y2, .int (nI uR), .ref y3, .int (nI vP), .ref y4, .ref y5, .int (nI vR), .ref y6, .ref y7, .ref y8, .ref y9, .int (nI ua), .ref y10, .ref y11, .int (nI us), .ref y12, .ref y13, .long sd, .int z1, .int z2, .int z3, .int z4, .int z5, .int z6, .int z7, .ref y14])), (y1, .inl (cI, 40, .inl utx)), (y6, .inl (cI, 12, .inl x2_1))] → va_S A s.heap H locs → lv_has ls 3 [(1, .int (nI k2)), (0, .ref q0)] → W p l e (mR 2 47) s m args below meth c H locs 0 0 Q (F0 m 2 ls []) := by
    intro n_2
    induction n_2 with
    | zero => intro k2 x2_0 x2_1 H locs ls hk_2 hn_2 hR_2 hi0 hP hD hS hl; exact absurd hn_2 (Nat.not_lt_zero _)
    | succ n_2 ih_2 =>
      intro k2 x2_0 x2_1 H locs ls hk_2 hn_2 hR_2 hi0 hP hD hS hl
      refine lv_iload_n hx hb dX8_readOne_2 rfl (lv_at hl 0 rfl) ?_
      refine lv_iconst (v := 3) hx hb dX8_readOne_3 (by decide) ?_
      refine lv_icmp_ge (tgt := 43) hx hb dX8_readOne_4 (by decide) (fun c_2 => ?_) (fun c_2 => ?_)
      · have o_2 : 3 ≤ k2 := (cle (nf_c 3) (rfl : nI k2 = nI k2) (by omega) (by omega)).mp c_2
        refine lv_aload_n hx hb dX8_readOne_43 rfl (lv_at hl 1 rfl) ?_
        refine lv_dup hx hb dX8_readOne_44 rfl ?_
        refine r_get (C := RX8) (T := TX8) (N := 31) (v := .int (nI vR)) CF hE hP 0 rfl rfl inG8 11 (by decide) tw_3_126 rfl rfl dX8_readOne_45 ?_
        refine lv_iconst (v := 1) hx hb dX8_readOne_48 (by decide) ?_
        refine lv_iadd hx hb dX8_readOne_49 ?_
        refine lv_as (z := (nI (vR + 1))) (nf_add (rfl : nI vR = nI vR) (nf_c 1)) ?_
        refine r_put (C := RX8) (T := TX8) (N := 31) (ws' := [(q0, .inr (8, [.int th, .ref y1, .int (nI uT), .int (nI x2_0), .int (nI uP), .ref y2, .int (nI uR), .ref y3, .int (nI vP), .ref y4, .ref y5, .int (nI (vR + 1)), .ref y6, .ref y7, .ref y8, .ref y9, .int (nI ua), .ref y10, .ref y11, .int (nI us), .ref y12, .ref y13, .long sd, .int z1, .int z2, .int z3, .int z4, .int z5, .int z6, .int z7, .ref y14])), (y1, .inl (cI, 40, .inl utx)), (y6, .inl (cI, 12, .inl x2_1))]) CF hE hP hD hS 0 rfl rfl inG8 tyX8 tyX8_ok nmX8 11 (by decide) tw_3_126 rfl rfl rfl rfl (Nat.le_of_ble_eq_true rfl) dX8_readOne_50 rfl (fun H locs hP hD hS => ?_)
        refine lv_iconst (v := 1) hx hb dX8_readOne_53 (by decide) ?_
        have hq_1 : L_X8_readOne_2 uT vR utx (3 + 1) 0 up vr = (1, x2_0, (vR + 1), x2_1) := by
          rw [← hR_2]
          show S_X8_readOne_2 uT vR utx (L_X8_readOne_2 uT vR utx n_2) k2 x2_0 x2_1 = _
          rw [S_X8_readOne_2, if_pos c_2]
        have e_0 : (f_X8_readOne_up uT up vR utx vr) = x2_0 := by rw [f_X8_readOne_up, hq_1]
        have e_1 : (f_X8_readOne_vR uT up vR utx vr) = (vR + 1) := by rw [f_X8_readOne_vR, hq_1]
        have e_2 : (f_X8_readOne_vr uT up vR utx vr) = x2_1 := by rw [f_X8_readOne_vr, hq_1]
        exact mu_reti CF hQ hr hlk rfl hP hS dX8_readOne_54 (by rw [f_X8_readOne, hq_1]) (by rw [e_0, e_1, e_2])
      · have o_2 : ¬ 3 ≤ k2 := fun h => c_2 ((cle (nf_c 3) (rfl : nI k2 = nI k2) (by omega) (by omega)).mpr h)
        refine lv_aload_n hx hb dX8_readOne_7 rfl (lv_at hl 1 rfl) ?_
        refine lv_bipush (v := 48) hx hb dX8_readOne_8 (by decide) ?_
        refine lv_iconst (v := 5) hx hb dX8_readOne_10 (by decide) ?_
        refine mu_V (y := yX8_sign) (As := [.int 48, .int 5]) (rest := []) (q0 := 0) (ws' := [(q0, .inr (8, [.int th, .ref y1, .int (nI uT), .int (nI (f_X8_sign_up uT x2_0 utx 48 5)), .int (nI uP), .ref y2, .int (nI uR), .ref y3, .int (nI vP), .ref y4, .ref y5, .int (nI vR), .ref y6, .ref y7, .ref y8, .ref y9, .int (nI ua), .ref y10, .ref y11, .int (nI us), .ref y12, .ref y13, .long sd, .int z1, .int z2, .int z3, .int z4, .int z5, .int z6, .int z7, .ref y14])), (y1, .inl (cI, 40, .inl utx)), (y6, .inl (cI, 12, .inl x2_1))]) (ad := [q0, y1, y6]) CF (c_X8_sign l D cI cZ q0 y1 y2 y3 y4 y5 y6 y7 y8 y9 y10 y11 y12 y13 y14 th uT x2_0 uP uR vP vR ua us sd z1 z2 z3 z4 z5 z6 z7 utx 48 5 (by omega) (by omega)) lk_X8_74 hP hE hD hS [0, 1] rfl (by decide) (Nat.le_of_ble_eq_true rfl) rfl rfl rfl rfl rfl rfl hl.1 rfl (Nat.le_of_ble_eq_true rfl) ⟨Nat.le_of_ble_eq_true rfl, Nat.le_of_ble_eq_true rfl, rfl, rfl⟩ ⟨Nat.zero_le _, Nat.zero_le _⟩ dX8_readOne_11 (fun H locs hP hD hS => ?_)
        have hsl_3 : (f_X8_sign_up uT x2_0 utx 48 5) ≤ uT := sign_le (by omega)
        refine lv_istore_n (lv' := [(2, .int (f_X8_sign uT x2_0 utx 48 5)), (1, .int (nI k2)), (0, .ref q0)]) hx hb dX8_readOne_14 rfl hl (by decide) rfl (fun ls hl => ?_)
        refine lv_iload_n hx hb dX8_readOne_15 rfl (lv_at hl 0 rfl) ?_
        refine lv_bipush (v := (-9)) hx hb dX8_readOne_16 (by decide) ?_
        refine lv_icmp_ne (tgt := 23) hx hb dX8_readOne_18 (by decide) (fun c_4 => ?_) (fun c_4 => ?_)
        · refine lv_aload_n hx hb dX8_readOne_23 rfl (lv_at hl 2 rfl) ?_
          refine r_get (C := RX8) (T := TX8) (N := 31) (v := .ref y6) CF hE hP 0 rfl rfl inG8 12 (by decide) tw_3_127 rfl rfl dX8_readOne_24 ?_
          refine lv_iconst (v := 3) hx hb dX8_readOne_27 (by decide) ?_
          refine lv_aload_n hx hb dX8_readOne_28 rfl (lv_at hl 2 rfl) ?_
          refine r_get (C := RX8) (T := TX8) (N := 31) (v := .int (nI vR)) CF hE hP 0 rfl rfl inG8 11 (by decide) tw_3_126 rfl rfl dX8_readOne_29 ?_
          refine lv_imul hx hb dX8_readOne_32 ?_
          refine lv_iload_n hx hb dX8_readOne_33 rfl (lv_at hl 1 rfl) ?_
          refine lv_iadd hx hb dX8_readOne_34 ?_
          refine lv_iload_n hx hb dX8_readOne_35 rfl (lv_at hl 0 rfl) ?_
          refine r_iast (k := 12) (f := x2_1) (ws' := [(q0, .inr (8, [.int th, .ref y1, .int (nI uT), .int (nI (f_X8_sign_up uT x2_0 utx 48 5)), .int (nI uP), .ref y2, .int (nI uR), .ref y3, .int (nI vP), .ref y4, .ref y5, .int (nI vR), .ref y6, .ref y7, .ref y8, .ref y9, .int (nI ua), .ref y10, .ref y11, .int (nI us), .ref y12, .ref y13, .long sd, .int z1, .int z2, .int z3, .int z4, .int z5, .int z6, .int z7, .ref y14])), (y1, .inl (cI, 40, .inl utx)), (y6, .inl (cI, 12, .inl (upd x2_1 ((3 * vR) + k2) (f_X8_sign uT x2_0 utx 48 5))))]) CF hE hP hD hS 2 rfl ((3 * vR) + k2) (nf_add (nf_mul (nf_c 3) (rfl : nI vR = nI vR)) (rfl : nI k2 = nI k2)) (by omega) (by decide) dX8_readOne_36 rfl (fun H locs hP hD hS => ?_)
          refine lv_iinc (v := (nI (k2 + 1))) (lv' := [(1, .int (nI (k2 + 1))), (2, .int (f_X8_sign uT x2_0 utx 48 5)), (0, .ref q0)]) hx hb dX8_readOne_37 hl (k := 1) rfl (nf_inc 1 (rfl : nI k2 = nI k2)) (by decide) rfl (fun ls hl => ?_)
          refine lv_goto (tgt := 2) hx hb dX8_readOne_40 (by decide) ?_
          have hR2 : L_X8_readOne_2 uT vR utx n_2 (k2 + 1) (f_X8_sign_up uT x2_0 utx 48 5) (upd x2_1 ((3 * vR) + k2) (f_X8_sign uT x2_0 utx 48 5)) = L_X8_readOne_2 uT vR utx (3 + 1) 0 up vr := by
            rw [← hR_2]
            show _ = S_X8_readOne_2 uT vR utx (L_X8_readOne_2 uT vR utx n_2) k2 x2_0 x2_1
            rw [S_X8_readOne_2, if_neg c_2, if_neg c_4]
          exact ih_2 (k2 + 1) (f_X8_sign_up uT x2_0 utx 48 5) (upd x2_1 ((3 * vR) + k2) (f_X8_sign uT x2_0 utx 48 5)) _ _ _ (by omega) (by omega) hR2 (by omega) hP hD hS (lv_sub hl [0, 2] rfl)
        · refine lv_iconst (v := 0) hx hb dX8_readOne_21 (by decide) ?_
          have hq_1 : L_X8_readOne_2 uT vR utx (3 + 1) 0 up vr = (0, (f_X8_sign_up uT x2_0 utx 48 5), vR, x2_1) := by
            rw [← hR_2]
            show S_X8_readOne_2 uT vR utx (L_X8_readOne_2 uT vR utx n_2) k2 x2_0 x2_1 = _
            rw [S_X8_readOne_2, if_neg c_2, if_pos c_4]
          have e_0 : (f_X8_readOne_up uT up vR utx vr) = (f_X8_sign_up uT x2_0 utx 48 5) := by rw [f_X8_readOne_up, hq_1]
          have e_1 : (f_X8_readOne_vR uT up vR utx vr) = vR := by rw [f_X8_readOne_vR, hq_1]
          have e_2 : (f_X8_readOne_vr uT up vR utx vr) = x2_1 := by rw [f_X8_readOne_vr, hq_1]
          exact mu_reti CF hQ hr hlk rfl hP hS dX8_readOne_22 (by rw [f_X8_readOne, hq_1]) (by rw [e_0, e_1, e_2])
  have e_k : 0 = nI (0) := (nf_c 0).trans (congrArg nI (by omega))
  rw [e_k] at hl
  exact LOOP_2 (3 + 1) 0 up vr _ _ _ (Nat.zero_le _) (by omega) rfl (by omega) hP hD hS (lv_sub hl [0, 1] rfl)
theorem readOne_01 {uT vR : Nat} {utx : Nat → Int32} : ∀ (n k up : Nat) (vr : Nat → Int32), (L_X8_readOne_2 uT vR utx n k up vr).1 = 0 ∨ (L_X8_readOne_2 uT vR utx n k up vr).1 = 1
  | 0, _, _, _ => Or.inl rfl
  | n + 1, k, up, vr => by
    rw [L_X8_readOne_2, S_X8_readOne_2]
    split
    · exact Or.inr rfl
    · split
      · exact Or.inl rfl
      · exact readOne_01 n _ _ _
theorem z_f_X8_readOne (uT up vR : Nat) (utx vr : Nat → Int32) : narrow .boolean (.int (f_X8_readOne uT up vR utx vr)) = .int (f_X8_readOne uT up vR utx vr) := by
  unfold f_X8_readOne
  rcases readOne_01 (uT := uT) (vR := vR) (utx := utx) (3 + 1) 0 up vr with h | h <;> rw [h] <;> rfl
theorem lk_X8_88 : mLkV RX8 88 yX8_readOne cX8_readOne 3 (some .boolean) 0 := ⟨⟨tw_4_2, tw_1_10, tw_4_5, ⟨by decide +kernel, by decide +kernel, by decide +kernel⟩⟩, tw_4_4, tp_2_2⟩
theorem lk_X8_84 : mLkV RX8 84 yX8_readPerson cX8_readPerson 4 (some .boolean) 0 := ⟨⟨tw_3_234, tw_1_10, tw_3_237, ⟨by decide +kernel, by decide +kernel, by decide +kernel⟩⟩, tw_3_236, tp_2_0⟩
def f_X8_readPart (uT : Nat) (up : Nat) (vP : Nat) (vR : Nat) (utx : Nat → Int32) (vr : Nat → Int32) : Int32 :=
  (if (utx up) = 80 then (if 5 ≤ (nI vP) then (if (utx up) = 82 then (if 4 ≤ (nI vR) then 0 else (f_X8_readOne uT (up + 1) vR utx vr)) else 0) else (f_X8_readPerson uT (up + 1) utx)) else (if (utx up) = 82 then (if 4 ≤ (nI vR) then 0 else (f_X8_readOne uT (up + 1) vR utx vr)) else 0))
theorem z_f_X8_readPart (uT : Nat) (up : Nat) (vP : Nat) (vR : Nat) (utx : Nat → Int32) (vr : Nat → Int32) : narrow .boolean (.int (f_X8_readPart uT up vP vR utx vr)) = .int (f_X8_readPart uT up vP vR utx vr) := by
  unfold f_X8_readPart
  repeat' split
  all_goals first | rfl | exact z_f_X8_readOne _ _ _ _ _ | exact z_f_X8_readPerson _ _ _
def f_X8_readPart_up (uT : Nat) (up : Nat) (vP : Nat) (vR : Nat) (utx : Nat → Int32) (vr : Nat → Int32) : Nat :=
  (if (utx up) = 80 then (if 5 ≤ (nI vP) then (if (utx up) = 82 then (if 4 ≤ (nI vR) then ((up + 1) - 1) else (f_X8_readOne_up uT (up + 1) vR utx vr)) else ((up + 1) - 1)) else (f_X8_readPerson_up uT (up + 1) utx)) else (if (utx up) = 82 then (if 4 ≤ (nI vR) then ((up + 1) - 1) else (f_X8_readOne_up uT (up + 1) vR utx vr)) else ((up + 1) - 1)))
def f_X8_readPart_vP (uT : Nat) (up : Nat) (vP : Nat) (vR : Nat) (utx : Nat → Int32) : Nat :=
  (if (utx up) = 80 then (if 5 ≤ (nI vP) then (if (utx up) = 82 then (if 4 ≤ (nI vR) then vP else vP) else vP) else (f_X8_readPerson_vP uT (up + 1) vP utx)) else (if (utx up) = 82 then (if 4 ≤ (nI vR) then vP else vP) else vP))
def f_X8_readPart_vR (uT : Nat) (up : Nat) (vP : Nat) (vR : Nat) (utx : Nat → Int32) (vr : Nat → Int32) : Nat :=
  (if (utx up) = 80 then (if 5 ≤ (nI vP) then (if (utx up) = 82 then (if 4 ≤ (nI vR) then vR else (f_X8_readOne_vR uT (up + 1) vR utx vr)) else vR) else vR) else (if (utx up) = 82 then (if 4 ≤ (nI vR) then vR else (f_X8_readOne_vR uT (up + 1) vR utx vr)) else vR))
def f_X8_readPart_vk (uT : Nat) (up : Nat) (vP : Nat) (vR : Nat) (utx : Nat → Int32) (vk : Nat → Int32) : Nat → Int32 :=
  (if (utx up) = 80 then (if 5 ≤ (nI vP) then (if (utx up) = 82 then (if 4 ≤ (nI vR) then vk else vk) else vk) else (f_X8_readPerson_vk uT (up + 1) vP utx vk)) else (if (utx up) = 82 then (if 4 ≤ (nI vR) then vk else vk) else vk))
def f_X8_readPart_vt (uT : Nat) (up : Nat) (vP : Nat) (vR : Nat) (utx : Nat → Int32) (vt : Nat → Int32) : Nat → Int32 :=
  (if (utx up) = 80 then (if 5 ≤ (nI vP) then (if (utx up) = 82 then (if 4 ≤ (nI vR) then vt else vt) else vt) else (f_X8_readPerson_vt uT (up + 1) vP utx vt)) else (if (utx up) = 82 then (if 4 ≤ (nI vR) then vt else vt) else vt))
def f_X8_readPart_vr (uT : Nat) (up : Nat) (vP : Nat) (vR : Nat) (utx : Nat → Int32) (vr : Nat → Int32) : Nat → Int32 :=
  (if (utx up) = 80 then (if 5 ≤ (nI vP) then (if (utx up) = 82 then (if 4 ≤ (nI vR) then vr else (f_X8_readOne_vr uT (up + 1) vR utx vr)) else vr) else vr) else (if (utx up) = 82 then (if 4 ≤ (nI vR) then vr else (f_X8_readOne_vr uT (up + 1) vR utx vr)) else vr))
set_option maxRecDepth 100000 in
set_option maxHeartbeats 4000000 in
theorem c_X8_readPart (l : Launch) (D : va_G) (cI cZ : ClassId) (q0 y1 y2 y3 y4 y5 y6 y7 y8 y9 y10 y11 y12 y13 y14 : Nat) (th : Int32) (uT : Nat) (up : Nat) (uP : Nat) (uR : Nat) (vP : Nat) (vR : Nat) (ua : Nat) (us : Nat) (sd : Int64) (z1 : Int32) (z2 : Int32) (z3 : Int32) (z4 : Int32) (z5 : Int32) (z6 : Int32) (z7 : Int32) (utx : Nat → Int32) (vk : Nat → Int32) (vt : Nat → Int32) (vr : Nat → Int32) (hut : uT ≤ 40) (hup : up < uT) (hvP : vP ≤ 5) (hvR : vR ≤ 4) : MU l D cI cZ yX8_readPart cX8_readPart 2 (some .boolean) (mR 3 70) [.ref q0] [(q0, .inr (8, [.int th, .ref y1, .int (nI uT), .int (nI up), .int (nI uP), .ref y2, .int (nI uR), .ref y3, .int (nI vP), .ref y4, .ref y5, .int (nI vR), .ref y6, .ref y7, .ref y8, .ref y9, .int (nI ua), .ref y10, .ref y11, .int (nI us), .ref y12, .ref y13, .long sd, .int z1, .int z2, .int z3, .int z4, .int z5, .int z6, .int z7, .ref y14])), (y1, .inl (cI, 40, .inl utx)), (y4, .inl (cI, 5, .inl vk)), (y5, .inl (cI, 5, .inl vt)), (y6, .inl (cI, 12, .inl vr))] [(q0, .inr (8, [.int th, .ref y1, .int (nI uT), .int (nI (f_X8_readPart_up uT up vP vR utx vr)), .int (nI uP), .ref y2, .int (nI uR), .ref y3, .int (nI (f_X8_readPart_vP uT up vP vR utx)), .ref y4, .ref y5, .int (nI (f_X8_readPart_vR uT up vP vR utx vr)), .ref y6, .ref y7, .ref y8, .ref y9, .int (nI ua), .ref y10, .ref y11, .int (nI us), .ref y12, .ref y13, .long sd, .int z1, .int z2, .int z3, .int z4, .int z5, .int z6, .int z7, .ref y14])), (y1, .inl (cI, 40, .inl utx)), (y4, .inl (cI, 5, .inl (f_X8_readPart_vk uT up vP vR utx vk))), (y5, .inl (cI, 5, .inl (f_X8_readPart_vt uT up vP vR utx vt))), (y6, .inl (cI, 12, .inl (f_X8_readPart_vr uT up vP vR utx vr)))] (some (.int (f_X8_readPart uT up vP vR utx vr))) := by
  refine MU.of (by decide +kernel) (Nat.le_of_ble_eq_true rfl) ?_
  intro p e s m args below meth c ls Q A CF hr hlk hP hE hD hS hQ hl
  have hx := CF.1
  have hb := CF.2.1
  have hl : lv_has ls 2 [(0, .ref q0)] := hl
  refine lv_aload_n hx hb dX8_readPart_0 rfl (lv_at hl 0 rfl) ?_
  refine r_get (C := RX8) (T := TX8) (N := 31) (v := .ref y1) CF hE hP 0 rfl rfl inG8 1 (by decide) tw_3_116 rfl rfl dX8_readPart_1 ?_
  refine lv_aload_n hx hb dX8_readPart_4 rfl (lv_at hl 0 rfl) ?_
  refine r_get (C := RX8) (T := TX8) (N := 31) (v := .int (nI up)) CF hE hP 0 rfl rfl inG8 3 (by decide) tw_3_118 rfl rfl dX8_readPart_5 ?_
  refine r_iald (k := 40) (f := utx) CF hE hP 1 rfl up (rfl : nI up = nI up) (by omega) (by decide) dX8_readPart_8 ?_
  refine lv_istore_n (lv' := [(1, .int (utx up)), (0, .ref q0)]) hx hb dX8_readPart_9 rfl hl (by decide) rfl (fun ls hl => ?_)
  refine lv_aload_n hx hb dX8_readPart_10 rfl (lv_at hl 1 rfl) ?_
  refine lv_dup hx hb dX8_readPart_11 rfl ?_
  refine r_get (C := RX8) (T := TX8) (N := 31) (v := .int (nI up)) CF hE hP 0 rfl rfl inG8 3 (by decide) tw_3_118 rfl rfl dX8_readPart_12 ?_
  refine lv_iconst (v := 1) hx hb dX8_readPart_15 (by decide) ?_
  refine lv_iadd hx hb dX8_readPart_16 ?_
  refine lv_as (z := (nI (up + 1))) (nf_add (rfl : nI up = nI up) (nf_c 1)) ?_
  refine r_put (C := RX8) (T := TX8) (N := 31) (ws' := [(q0, .inr (8, [.int th, .ref y1, .int (nI uT), .int (nI (up + 1)), .int (nI uP), .ref y2, .int (nI uR), .ref y3, .int (nI vP), .ref y4, .ref y5, .int (nI vR), .ref y6, .ref y7, .ref y8, .ref y9, .int (nI ua), .ref y10, .ref y11, .int (nI us), .ref y12, .ref y13, .long sd, .int z1, .int z2, .int z3, .int z4, .int z5, .int z6, .int z7, .ref y14])), (y1, .inl (cI, 40, .inl utx)), (y4, .inl (cI, 5, .inl vk)), (y5, .inl (cI, 5, .inl vt)), (y6, .inl (cI, 12, .inl vr))]) CF hE hP hD hS 0 rfl rfl inG8 tyX8 tyX8_ok nmX8 3 (by decide) tw_3_118 rfl rfl rfl rfl (Nat.le_of_ble_eq_true rfl) dX8_readPart_17 rfl (fun H locs hP hD hS => ?_)
  refine lv_iload_n hx hb dX8_readPart_20 rfl (lv_at hl 0 rfl) ?_
  refine lv_bipush (v := 80) hx hb dX8_readPart_21 (by decide) ?_
  refine lv_icmp_ne (tgt := 39) hx hb dX8_readPart_23 (by decide) (fun c_1 => ?_) (fun c_1 => ?_)
  · refine lv_iload_n hx hb dX8_readPart_39 rfl (lv_at hl 0 rfl) ?_
    refine lv_bipush (v := 82) hx hb dX8_readPart_40 (by decide) ?_
    refine lv_icmp_ne (tgt := 58) hx hb dX8_readPart_42 (by decide) (fun c_2 => ?_) (fun c_2 => ?_)
    · refine lv_aload_n hx hb dX8_readPart_58 rfl (lv_at hl 1 rfl) ?_
      refine lv_dup hx hb dX8_readPart_59 rfl ?_
      refine r_get (C := RX8) (T := TX8) (N := 31) (v := .int (nI (up + 1))) CF hE hP 0 rfl rfl inG8 3 (by decide) tw_3_118 rfl rfl dX8_readPart_60 ?_
      refine lv_iconst (v := 1) hx hb dX8_readPart_63 (by decide) ?_
      refine lv_isub hx hb dX8_readPart_64 ?_
      refine lv_as (z := (nI ((up + 1) - 1))) (nf_sub (rfl : nI (up + 1) = nI (up + 1)) (nf_c 1) (by omega)) ?_
      refine r_put (C := RX8) (T := TX8) (N := 31) (ws' := [(q0, .inr (8, [.int th, .ref y1, .int (nI uT), .int (nI ((up + 1) - 1)), .int (nI uP), .ref y2, .int (nI uR), .ref y3, .int (nI vP), .ref y4, .ref y5, .int (nI vR), .ref y6, .ref y7, .ref y8, .ref y9, .int (nI ua), .ref y10, .ref y11, .int (nI us), .ref y12, .ref y13, .long sd, .int z1, .int z2, .int z3, .int z4, .int z5, .int z6, .int z7, .ref y14])), (y1, .inl (cI, 40, .inl utx)), (y4, .inl (cI, 5, .inl vk)), (y5, .inl (cI, 5, .inl vt)), (y6, .inl (cI, 12, .inl vr))]) CF hE hP hD hS 0 rfl rfl inG8 tyX8 tyX8_ok nmX8 3 (by decide) tw_3_118 rfl rfl rfl rfl (Nat.le_of_ble_eq_true rfl) dX8_readPart_65 rfl (fun H locs hP hD hS => ?_)
      refine lv_iconst (v := 0) hx hb dX8_readPart_68 (by decide) ?_
      have e_0 : (f_X8_readPart_up uT up vP vR utx vr) = ((up + 1) - 1) := by rw [f_X8_readPart_up, if_neg c_1, if_neg c_2]
      have e_1 : (f_X8_readPart_vP uT up vP vR utx) = vP := by rw [f_X8_readPart_vP, if_neg c_1, if_neg c_2]
      have e_2 : (f_X8_readPart_vR uT up vP vR utx vr) = vR := by rw [f_X8_readPart_vR, if_neg c_1, if_neg c_2]
      have e_3 : (f_X8_readPart_vk uT up vP vR utx vk) = vk := by rw [f_X8_readPart_vk, if_neg c_1, if_neg c_2]
      have e_4 : (f_X8_readPart_vt uT up vP vR utx vt) = vt := by rw [f_X8_readPart_vt, if_neg c_1, if_neg c_2]
      have e_5 : (f_X8_readPart_vr uT up vP vR utx vr) = vr := by rw [f_X8_readPart_vr, if_neg c_1, if_neg c_2]
      exact mu_reti CF hQ hr hlk rfl hP hS dX8_readPart_69 (by rw [f_X8_readPart, if_neg c_1, if_neg c_2]) (by rw [e_0, e_1, e_2, e_3, e_4, e_5])
    · refine lv_aload_n hx hb dX8_readPart_45 rfl (lv_at hl 1 rfl) ?_
      refine r_get (C := RX8) (T := TX8) (N := 31) (v := .int (nI vR)) CF hE hP 0 rfl rfl inG8 11 (by decide) tw_3_126 rfl rfl dX8_readPart_46 ?_
      refine lv_iconst (v := 4) hx hb dX8_readPart_49 (by decide) ?_
      refine lv_icmp_ge (tgt := 58) hx hb dX8_readPart_50 (by decide) (fun c_3 => ?_) (fun c_3 => ?_)
      · have o_3 : 4 ≤ vR := (cle (nf_c 4) (rfl : nI vR = nI vR) (by omega) (by omega)).mp c_3
        refine lv_aload_n hx hb dX8_readPart_58 rfl (lv_at hl 1 rfl) ?_
        refine lv_dup hx hb dX8_readPart_59 rfl ?_
        refine r_get (C := RX8) (T := TX8) (N := 31) (v := .int (nI (up + 1))) CF hE hP 0 rfl rfl inG8 3 (by decide) tw_3_118 rfl rfl dX8_readPart_60 ?_
        refine lv_iconst (v := 1) hx hb dX8_readPart_63 (by decide) ?_
        refine lv_isub hx hb dX8_readPart_64 ?_
        refine lv_as (z := (nI ((up + 1) - 1))) (nf_sub (rfl : nI (up + 1) = nI (up + 1)) (nf_c 1) (by omega)) ?_
        refine r_put (C := RX8) (T := TX8) (N := 31) (ws' := [(q0, .inr (8, [.int th, .ref y1, .int (nI uT), .int (nI ((up + 1) - 1)), .int (nI uP), .ref y2, .int (nI uR), .ref y3, .int (nI vP), .ref y4, .ref y5, .int (nI vR), .ref y6, .ref y7, .ref y8, .ref y9, .int (nI ua), .ref y10, .ref y11, .int (nI us), .ref y12, .ref y13, .long sd, .int z1, .int z2, .int z3, .int z4, .int z5, .int z6, .int z7, .ref y14])), (y1, .inl (cI, 40, .inl utx)), (y4, .inl (cI, 5, .inl vk)), (y5, .inl (cI, 5, .inl vt)), (y6, .inl (cI, 12, .inl vr))]) CF hE hP hD hS 0 rfl rfl inG8 tyX8 tyX8_ok nmX8 3 (by decide) tw_3_118 rfl rfl rfl rfl (Nat.le_of_ble_eq_true rfl) dX8_readPart_65 rfl (fun H locs hP hD hS => ?_)
        refine lv_iconst (v := 0) hx hb dX8_readPart_68 (by decide) ?_
        have e_0 : (f_X8_readPart_up uT up vP vR utx vr) = ((up + 1) - 1) := by rw [f_X8_readPart_up, if_neg c_1, if_pos c_2, if_pos c_3]
        have e_1 : (f_X8_readPart_vP uT up vP vR utx) = vP := by rw [f_X8_readPart_vP, if_neg c_1, if_pos c_2, if_pos c_3]
        have e_2 : (f_X8_readPart_vR uT up vP vR utx vr) = vR := by rw [f_X8_readPart_vR, if_neg c_1, if_pos c_2, if_pos c_3]
        have e_3 : (f_X8_readPart_vk uT up vP vR utx vk) = vk := by rw [f_X8_readPart_vk, if_neg c_1, if_pos c_2, if_pos c_3]
        have e_4 : (f_X8_readPart_vt uT up vP vR utx vt) = vt := by rw [f_X8_readPart_vt, if_neg c_1, if_pos c_2, if_pos c_3]
        have e_5 : (f_X8_readPart_vr uT up vP vR utx vr) = vr := by rw [f_X8_readPart_vr, if_neg c_1, if_pos c_2, if_pos c_3]
        exact mu_reti CF hQ hr hlk rfl hP hS dX8_readPart_69 (by rw [f_X8_readPart, if_neg c_1, if_pos c_2, if_pos c_3]) (by rw [e_0, e_1, e_2, e_3, e_4, e_5])
      · have o_3 : ¬ 4 ≤ vR := fun h => c_3 ((cle (nf_c 4) (rfl : nI vR = nI vR) (by omega) (by omega)).mpr h)
        refine lv_aload_n hx hb dX8_readPart_53 rfl (lv_at hl 1 rfl) ?_
        refine mu_V (y := yX8_readOne) (As := []) (rest := []) (q0 := 0) (ws' := [(q0, .inr (8, [.int th, .ref y1, .int (nI uT), .int (nI (f_X8_readOne_up uT (up + 1) vR utx vr)), .int (nI uP), .ref y2, .int (nI uR), .ref y3, .int (nI vP), .ref y4, .ref y5, .int (nI (f_X8_readOne_vR uT (up + 1) vR utx vr)), .ref y6, .ref y7, .ref y8, .ref y9, .int (nI ua), .ref y10, .ref y11, .int (nI us), .ref y12, .ref y13, .long sd, .int z1, .int z2, .int z3, .int z4, .int z5, .int z6, .int z7, .ref y14])), (y1, .inl (cI, 40, .inl utx)), (y4, .inl (cI, 5, .inl vk)), (y5, .inl (cI, 5, .inl vt)), (y6, .inl (cI, 12, .inl (f_X8_readOne_vr uT (up + 1) vR utx vr)))]) (ad := [q0, y1, y4, y5, y6]) CF (c_X8_readOne l D cI cZ q0 y1 y2 y3 y4 y5 y6 y7 y8 y9 y10 y11 y12 y13 y14 th uT (up + 1) uP uR vP vR ua us sd z1 z2 z3 z4 z5 z6 z7 utx vr (by omega) (by omega) (by omega)) lk_X8_88 hP hE hD hS [0, 1, 4] rfl (by decide) (Nat.le_of_ble_eq_true rfl) rfl rfl rfl rfl rfl rfl hl.1 rfl (Nat.le_of_ble_eq_true rfl) ⟨Nat.le_of_ble_eq_true rfl, Nat.le_of_ble_eq_true rfl, rfl, rfl⟩ ⟨Nat.zero_le _, Nat.zero_le _⟩ dX8_readPart_54 (fun H locs hP hD hS => ?_)
        have e_0 : (f_X8_readPart_up uT up vP vR utx vr) = (f_X8_readOne_up uT (up + 1) vR utx vr) := by rw [f_X8_readPart_up, if_neg c_1, if_pos c_2, if_neg c_3]
        have e_1 : (f_X8_readPart_vP uT up vP vR utx) = vP := by rw [f_X8_readPart_vP, if_neg c_1, if_pos c_2, if_neg c_3]
        have e_2 : (f_X8_readPart_vR uT up vP vR utx vr) = (f_X8_readOne_vR uT (up + 1) vR utx vr) := by rw [f_X8_readPart_vR, if_neg c_1, if_pos c_2, if_neg c_3]
        have e_3 : (f_X8_readPart_vk uT up vP vR utx vk) = vk := by rw [f_X8_readPart_vk, if_neg c_1, if_pos c_2, if_neg c_3]
        have e_4 : (f_X8_readPart_vt uT up vP vR utx vt) = vt := by rw [f_X8_readPart_vt, if_neg c_1, if_pos c_2, if_neg c_3]
        have e_5 : (f_X8_readPart_vr uT up vP vR utx vr) = (f_X8_readOne_vr uT (up + 1) vR utx vr) := by rw [f_X8_readPart_vr, if_neg c_1, if_pos c_2, if_neg c_3]
        exact mu_reti CF hQ hr hlk (z_f_X8_readOne _ _ _ _ _) hP hS dX8_readPart_57 (by rw [f_X8_readPart, if_neg c_1, if_pos c_2, if_neg c_3]) (by rw [e_0, e_1, e_2, e_3, e_4, e_5])
  · refine lv_aload_n hx hb dX8_readPart_26 rfl (lv_at hl 1 rfl) ?_
    refine r_get (C := RX8) (T := TX8) (N := 31) (v := .int (nI vP)) CF hE hP 0 rfl rfl inG8 8 (by decide) tw_3_123 rfl rfl dX8_readPart_27 ?_
    refine lv_iconst (v := 5) hx hb dX8_readPart_30 (by decide) ?_
    refine lv_icmp_ge (tgt := 39) hx hb dX8_readPart_31 (by decide) (fun c_4 => ?_) (fun c_4 => ?_)
    · have o_4 : 5 ≤ vP := (cle (nf_c 5) (rfl : nI vP = nI vP) (by omega) (by omega)).mp c_4
      refine lv_iload_n hx hb dX8_readPart_39 rfl (lv_at hl 0 rfl) ?_
      refine lv_bipush (v := 82) hx hb dX8_readPart_40 (by decide) ?_
      refine lv_icmp_ne (tgt := 58) hx hb dX8_readPart_42 (by decide) (fun c_5 => ?_) (fun c_5 => ?_)
      · refine lv_aload_n hx hb dX8_readPart_58 rfl (lv_at hl 1 rfl) ?_
        refine lv_dup hx hb dX8_readPart_59 rfl ?_
        refine r_get (C := RX8) (T := TX8) (N := 31) (v := .int (nI (up + 1))) CF hE hP 0 rfl rfl inG8 3 (by decide) tw_3_118 rfl rfl dX8_readPart_60 ?_
        refine lv_iconst (v := 1) hx hb dX8_readPart_63 (by decide) ?_
        refine lv_isub hx hb dX8_readPart_64 ?_
        refine lv_as (z := (nI ((up + 1) - 1))) (nf_sub (rfl : nI (up + 1) = nI (up + 1)) (nf_c 1) (by omega)) ?_
        refine r_put (C := RX8) (T := TX8) (N := 31) (ws' := [(q0, .inr (8, [.int th, .ref y1, .int (nI uT), .int (nI ((up + 1) - 1)), .int (nI uP), .ref y2, .int (nI uR), .ref y3, .int (nI vP), .ref y4, .ref y5, .int (nI vR), .ref y6, .ref y7, .ref y8, .ref y9, .int (nI ua), .ref y10, .ref y11, .int (nI us), .ref y12, .ref y13, .long sd, .int z1, .int z2, .int z3, .int z4, .int z5, .int z6, .int z7, .ref y14])), (y1, .inl (cI, 40, .inl utx)), (y4, .inl (cI, 5, .inl vk)), (y5, .inl (cI, 5, .inl vt)), (y6, .inl (cI, 12, .inl vr))]) CF hE hP hD hS 0 rfl rfl inG8 tyX8 tyX8_ok nmX8 3 (by decide) tw_3_118 rfl rfl rfl rfl (Nat.le_of_ble_eq_true rfl) dX8_readPart_65 rfl (fun H locs hP hD hS => ?_)
        refine lv_iconst (v := 0) hx hb dX8_readPart_68 (by decide) ?_
        have e_0 : (f_X8_readPart_up uT up vP vR utx vr) = ((up + 1) - 1) := by rw [f_X8_readPart_up, if_pos c_1, if_pos c_4, if_neg c_5]
        have e_1 : (f_X8_readPart_vP uT up vP vR utx) = vP := by rw [f_X8_readPart_vP, if_pos c_1, if_pos c_4, if_neg c_5]
        have e_2 : (f_X8_readPart_vR uT up vP vR utx vr) = vR := by rw [f_X8_readPart_vR, if_pos c_1, if_pos c_4, if_neg c_5]
        have e_3 : (f_X8_readPart_vk uT up vP vR utx vk) = vk := by rw [f_X8_readPart_vk, if_pos c_1, if_pos c_4, if_neg c_5]
        have e_4 : (f_X8_readPart_vt uT up vP vR utx vt) = vt := by rw [f_X8_readPart_vt, if_pos c_1, if_pos c_4, if_neg c_5]
        have e_5 : (f_X8_readPart_vr uT up vP vR utx vr) = vr := by rw [f_X8_readPart_vr, if_pos c_1, if_pos c_4, if_neg c_5]
        exact mu_reti CF hQ hr hlk rfl hP hS dX8_readPart_69 (by rw [f_X8_readPart, if_pos c_1, if_pos c_4, if_neg c_5]) (by rw [e_0, e_1, e_2, e_3, e_4, e_5])
      · refine lv_aload_n hx hb dX8_readPart_45 rfl (lv_at hl 1 rfl) ?_
        refine r_get (C := RX8) (T := TX8) (N := 31) (v := .int (nI vR)) CF hE hP 0 rfl rfl inG8 11 (by decide) tw_3_126 rfl rfl dX8_readPart_46 ?_
        refine lv_iconst (v := 4) hx hb dX8_readPart_49 (by decide) ?_
        refine lv_icmp_ge (tgt := 58) hx hb dX8_readPart_50 (by decide) (fun c_6 => ?_) (fun c_6 => ?_)
        · have o_6 : 4 ≤ vR := (cle (nf_c 4) (rfl : nI vR = nI vR) (by omega) (by omega)).mp c_6
          refine lv_aload_n hx hb dX8_readPart_58 rfl (lv_at hl 1 rfl) ?_
          refine lv_dup hx hb dX8_readPart_59 rfl ?_
          refine r_get (C := RX8) (T := TX8) (N := 31) (v := .int (nI (up + 1))) CF hE hP 0 rfl rfl inG8 3 (by decide) tw_3_118 rfl rfl dX8_readPart_60 ?_
          refine lv_iconst (v := 1) hx hb dX8_readPart_63 (by decide) ?_
          refine lv_isub hx hb dX8_readPart_64 ?_
          refine lv_as (z := (nI ((up + 1) - 1))) (nf_sub (rfl : nI (up + 1) = nI (up + 1)) (nf_c 1) (by omega)) ?_
          refine r_put (C := RX8) (T := TX8) (N := 31) (ws' := [(q0, .inr (8, [.int th, .ref y1, .int (nI uT), .int (nI ((up + 1) - 1)), .int (nI uP), .ref y2, .int (nI uR), .ref y3, .int (nI vP), .ref y4, .ref y5, .int (nI vR), .ref y6, .ref y7, .ref y8, .ref y9, .int (nI ua), .ref y10, .ref y11, .int (nI us), .ref y12, .ref y13, .long sd, .int z1, .int z2, .int z3, .int z4, .int z5, .int z6, .int z7, .ref y14])), (y1, .inl (cI, 40, .inl utx)), (y4, .inl (cI, 5, .inl vk)), (y5, .inl (cI, 5, .inl vt)), (y6, .inl (cI, 12, .inl vr))]) CF hE hP hD hS 0 rfl rfl inG8 tyX8 tyX8_ok nmX8 3 (by decide) tw_3_118 rfl rfl rfl rfl (Nat.le_of_ble_eq_true rfl) dX8_readPart_65 rfl (fun H locs hP hD hS => ?_)
          refine lv_iconst (v := 0) hx hb dX8_readPart_68 (by decide) ?_
          have e_0 : (f_X8_readPart_up uT up vP vR utx vr) = ((up + 1) - 1) := by rw [f_X8_readPart_up, if_pos c_1, if_pos c_4, if_pos c_5, if_pos c_6]
          have e_1 : (f_X8_readPart_vP uT up vP vR utx) = vP := by rw [f_X8_readPart_vP, if_pos c_1, if_pos c_4, if_pos c_5, if_pos c_6]
          have e_2 : (f_X8_readPart_vR uT up vP vR utx vr) = vR := by rw [f_X8_readPart_vR, if_pos c_1, if_pos c_4, if_pos c_5, if_pos c_6]
          have e_3 : (f_X8_readPart_vk uT up vP vR utx vk) = vk := by rw [f_X8_readPart_vk, if_pos c_1, if_pos c_4, if_pos c_5, if_pos c_6]
          have e_4 : (f_X8_readPart_vt uT up vP vR utx vt) = vt := by rw [f_X8_readPart_vt, if_pos c_1, if_pos c_4, if_pos c_5, if_pos c_6]
          have e_5 : (f_X8_readPart_vr uT up vP vR utx vr) = vr := by rw [f_X8_readPart_vr, if_pos c_1, if_pos c_4, if_pos c_5, if_pos c_6]
          exact mu_reti CF hQ hr hlk rfl hP hS dX8_readPart_69 (by rw [f_X8_readPart, if_pos c_1, if_pos c_4, if_pos c_5, if_pos c_6]) (by rw [e_0, e_1, e_2, e_3, e_4, e_5])
        · have o_6 : ¬ 4 ≤ vR := fun h => c_6 ((cle (nf_c 4) (rfl : nI vR = nI vR) (by omega) (by omega)).mpr h)
          refine lv_aload_n hx hb dX8_readPart_53 rfl (lv_at hl 1 rfl) ?_
          refine mu_V (y := yX8_readOne) (As := []) (rest := []) (q0 := 0) (ws' := [(q0, .inr (8, [.int th, .ref y1, .int (nI uT), .int (nI (f_X8_readOne_up uT (up + 1) vR utx vr)), .int (nI uP), .ref y2, .int (nI uR), .ref y3, .int (nI vP), .ref y4, .ref y5, .int (nI (f_X8_readOne_vR uT (up + 1) vR utx vr)), .ref y6, .ref y7, .ref y8, .ref y9, .int (nI ua), .ref y10, .ref y11, .int (nI us), .ref y12, .ref y13, .long sd, .int z1, .int z2, .int z3, .int z4, .int z5, .int z6, .int z7, .ref y14])), (y1, .inl (cI, 40, .inl utx)), (y4, .inl (cI, 5, .inl vk)), (y5, .inl (cI, 5, .inl vt)), (y6, .inl (cI, 12, .inl (f_X8_readOne_vr uT (up + 1) vR utx vr)))]) (ad := [q0, y1, y4, y5, y6]) CF (c_X8_readOne l D cI cZ q0 y1 y2 y3 y4 y5 y6 y7 y8 y9 y10 y11 y12 y13 y14 th uT (up + 1) uP uR vP vR ua us sd z1 z2 z3 z4 z5 z6 z7 utx vr (by omega) (by omega) (by omega)) lk_X8_88 hP hE hD hS [0, 1, 4] rfl (by decide) (Nat.le_of_ble_eq_true rfl) rfl rfl rfl rfl rfl rfl hl.1 rfl (Nat.le_of_ble_eq_true rfl) ⟨Nat.le_of_ble_eq_true rfl, Nat.le_of_ble_eq_true rfl, rfl, rfl⟩ ⟨Nat.zero_le _, Nat.zero_le _⟩ dX8_readPart_54 (fun H locs hP hD hS => ?_)
          have e_0 : (f_X8_readPart_up uT up vP vR utx vr) = (f_X8_readOne_up uT (up + 1) vR utx vr) := by rw [f_X8_readPart_up, if_pos c_1, if_pos c_4, if_pos c_5, if_neg c_6]
          have e_1 : (f_X8_readPart_vP uT up vP vR utx) = vP := by rw [f_X8_readPart_vP, if_pos c_1, if_pos c_4, if_pos c_5, if_neg c_6]
          have e_2 : (f_X8_readPart_vR uT up vP vR utx vr) = (f_X8_readOne_vR uT (up + 1) vR utx vr) := by rw [f_X8_readPart_vR, if_pos c_1, if_pos c_4, if_pos c_5, if_neg c_6]
          have e_3 : (f_X8_readPart_vk uT up vP vR utx vk) = vk := by rw [f_X8_readPart_vk, if_pos c_1, if_pos c_4, if_pos c_5, if_neg c_6]
          have e_4 : (f_X8_readPart_vt uT up vP vR utx vt) = vt := by rw [f_X8_readPart_vt, if_pos c_1, if_pos c_4, if_pos c_5, if_neg c_6]
          have e_5 : (f_X8_readPart_vr uT up vP vR utx vr) = (f_X8_readOne_vr uT (up + 1) vR utx vr) := by rw [f_X8_readPart_vr, if_pos c_1, if_pos c_4, if_pos c_5, if_neg c_6]
          exact mu_reti CF hQ hr hlk (z_f_X8_readOne _ _ _ _ _) hP hS dX8_readPart_57 (by rw [f_X8_readPart, if_pos c_1, if_pos c_4, if_pos c_5, if_neg c_6]) (by rw [e_0, e_1, e_2, e_3, e_4, e_5])
    · have o_4 : ¬ 5 ≤ vP := fun h => c_4 ((cle (nf_c 5) (rfl : nI vP = nI vP) (by omega) (by omega)).mpr h)
      refine lv_aload_n hx hb dX8_readPart_34 rfl (lv_at hl 1 rfl) ?_
      refine mu_V (y := yX8_readPerson) (As := []) (rest := []) (q0 := 0) (ws' := [(q0, .inr (8, [.int th, .ref y1, .int (nI uT), .int (nI (f_X8_readPerson_up uT (up + 1) utx)), .int (nI uP), .ref y2, .int (nI uR), .ref y3, .int (nI (f_X8_readPerson_vP uT (up + 1) vP utx)), .ref y4, .ref y5, .int (nI vR), .ref y6, .ref y7, .ref y8, .ref y9, .int (nI ua), .ref y10, .ref y11, .int (nI us), .ref y12, .ref y13, .long sd, .int z1, .int z2, .int z3, .int z4, .int z5, .int z6, .int z7, .ref y14])), (y1, .inl (cI, 40, .inl utx)), (y4, .inl (cI, 5, .inl (f_X8_readPerson_vk uT (up + 1) vP utx vk))), (y5, .inl (cI, 5, .inl (f_X8_readPerson_vt uT (up + 1) vP utx vt))), (y6, .inl (cI, 12, .inl vr))]) (ad := [q0, y1, y4, y5, y6]) CF (c_X8_readPerson l D cI cZ q0 y1 y2 y3 y4 y5 y6 y7 y8 y9 y10 y11 y12 y13 y14 th uT (up + 1) uP uR vP vR ua us sd z1 z2 z3 z4 z5 z6 z7 utx vk vt (by omega) (by omega) (by omega)) lk_X8_84 hP hE hD hS [0, 1, 2, 3] rfl (by decide) (Nat.le_of_ble_eq_true rfl) rfl rfl rfl rfl rfl rfl hl.1 rfl (Nat.le_of_ble_eq_true rfl) ⟨Nat.le_of_ble_eq_true rfl, Nat.le_of_ble_eq_true rfl, rfl, rfl⟩ ⟨Nat.zero_le _, Nat.zero_le _⟩ dX8_readPart_35 (fun H locs hP hD hS => ?_)
      have e_0 : (f_X8_readPart_up uT up vP vR utx vr) = (f_X8_readPerson_up uT (up + 1) utx) := by rw [f_X8_readPart_up, if_pos c_1, if_neg c_4]
      have e_1 : (f_X8_readPart_vP uT up vP vR utx) = (f_X8_readPerson_vP uT (up + 1) vP utx) := by rw [f_X8_readPart_vP, if_pos c_1, if_neg c_4]
      have e_2 : (f_X8_readPart_vR uT up vP vR utx vr) = vR := by rw [f_X8_readPart_vR, if_pos c_1, if_neg c_4]
      have e_3 : (f_X8_readPart_vk uT up vP vR utx vk) = (f_X8_readPerson_vk uT (up + 1) vP utx vk) := by rw [f_X8_readPart_vk, if_pos c_1, if_neg c_4]
      have e_4 : (f_X8_readPart_vt uT up vP vR utx vt) = (f_X8_readPerson_vt uT (up + 1) vP utx vt) := by rw [f_X8_readPart_vt, if_pos c_1, if_neg c_4]
      have e_5 : (f_X8_readPart_vr uT up vP vR utx vr) = vr := by rw [f_X8_readPart_vr, if_pos c_1, if_neg c_4]
      exact mu_reti CF hQ hr hlk (z_f_X8_readPerson _ _ _) hP hS dX8_readPart_38 (by rw [f_X8_readPart, if_pos c_1, if_neg c_4]) (by rw [e_0, e_1, e_2, e_3, e_4, e_5])
