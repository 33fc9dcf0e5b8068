theorem lk_X8_174 : mLkV RX8 174 yX8_findSeats cX8_findSeats 8 none 4 := ⟨⟨tw_4_109, tw_1_10, tw_4_112, ⟨by decide +kernel, by decide +kernel, by decide +kernel⟩⟩, tw_4_111, tp_2_14⟩
def f_X8_seating (uP : Nat) (uR : Nat) (uk : Nat → Int32) (ur : Nat → Int32) (pg : Nat → Int32) (tr : Nat → Int32) (a1 : Int32) (a2 : Int32) (a3 : Int32) (a4 : Int32) (a5 : Int32) : Int32 :=
  (if (f_X8_noPerson uP a1) = 0 then (if (f_X8_noFact a2) = 0 then (if (f_X8_in a3.toInt64 1 2) = 0 then (-2) else (if a5 = 0 then ((B_X8_findSeats_15 uP uR uk ur pg a1 a1.toNatClampNeg a2 a3 a4 tr (-9) (-9) (uP ^ uP)).2.1) else ((B_X8_findSeats_15 uP uR uk ur pg a1 a1.toNatClampNeg a2 a3 a4 tr (-9) (-9) (uP ^ uP)).2.2))) else (-1)) else (-1))
def f_X8_seating_th (uP : Nat) (a1 : Int32) (a2 : Int32) (a3 : Int32) (a5 : Int32) : Int32 :=
  (if (f_X8_noPerson uP a1) = 0 then (if (f_X8_noFact a2) = 0 then (if (f_X8_in a3.toInt64 1 2) = 0 then 0 else (if a5 = 0 then 0 else 0)) else 0) else 0)
def f_X8_seating_tr (uP : Nat) (uR : Nat) (uk : Nat → Int32) (ur : Nat → Int32) (pg : Nat → Int32) (tr : Nat → Int32) (a1 : Int32) (a2 : Int32) (a3 : Int32) (a4 : Int32) (a5 : Int32) : Nat → Int32 :=
  (if (f_X8_noPerson uP a1) = 0 then (if (f_X8_noFact a2) = 0 then (if (f_X8_in a3.toInt64 1 2) = 0 then tr else (if a5 = 0 then ((B_X8_findSeats_15 uP uR uk ur pg a1 a1.toNatClampNeg a2 a3 a4 tr (-9) (-9) (uP ^ uP)).1) else ((B_X8_findSeats_15 uP uR uk ur pg a1 a1.toNatClampNeg a2 a3 a4 tr (-9) (-9) (uP ^ uP)).1))) else tr) else tr)
def f_X8_seating_z1 (uP : Nat) (uR : Nat) (z1 : Int32) (uk : Nat → Int32) (ur : Nat → Int32) (pg : Nat → Int32) (tr : Nat → Int32) (a1 : Int32) (a2 : Int32) (a3 : Int32) (a4 : Int32) (a5 : Int32) : Int32 :=
  (if (f_X8_noPerson uP a1) = 0 then (if (f_X8_noFact a2) = 0 then (if (f_X8_in a3.toInt64 1 2) = 0 then z1 else (if a5 = 0 then ((B_X8_findSeats_15 uP uR uk ur pg a1 a1.toNatClampNeg a2 a3 a4 tr (-9) (-9) (uP ^ uP)).2.1) else ((B_X8_findSeats_15 uP uR uk ur pg a1 a1.toNatClampNeg a2 a3 a4 tr (-9) (-9) (uP ^ uP)).2.1))) else z1) else z1)
def f_X8_seating_z2 (uP : Nat) (uR : Nat) (z2 : Int32) (uk : Nat → Int32) (ur : Nat → Int32) (pg : Nat → Int32) (tr : Nat → Int32) (a1 : Int32) (a2 : Int32) (a3 : Int32) (a4 : Int32) (a5 : Int32) : Int32 :=
  (if (f_X8_noPerson uP a1) = 0 then (if (f_X8_noFact a2) = 0 then (if (f_X8_in a3.toInt64 1 2) = 0 then z2 else (if a5 = 0 then ((B_X8_findSeats_15 uP uR uk ur pg a1 a1.toNatClampNeg a2 a3 a4 tr (-9) (-9) (uP ^ uP)).2.2) else ((B_X8_findSeats_15 uP uR uk ur pg a1 a1.toNatClampNeg a2 a3 a4 tr (-9) (-9) (uP ^ uP)).2.2))) else z2) else z2)
set_option maxRecDepth 100000 in
set_option maxHeartbeats 4000000 in
theorem c_X8_seating (l : Launch) (D : va_G) (cI cZ : ClassId) (q0 y1 y2 y3 y4 y5 y6 y7 y8 y9 y10 y11 y12 y13 y14 : Nat) (th : Int32) (uT : Nat) (up : Nat) (uP : Nat) (uR : Nat) (vP : Nat) (vR : Nat) (ua : Nat) (us : Nat) (sd : Int64) (z1 : Int32) (z2 : Int32) (z3 : Int32) (z4 : Int32) (z5 : Int32) (z6 : Int32) (z7 : Int32) (uk : Nat → Int32) (ur : Nat → Int32) (pg : Nat → Int32) (tr : Nat → Int32) (a1 : Int32) (a2 : Int32) (a3 : Int32) (a4 : Int32) (a5 : Int32) (hu5 : uP ≤ 5) (hur : uR ≤ 4) : MU l D cI cZ yX8_seating cX8_seating 6 (some .int) (mR 4 102) [.ref q0, .int a1, .int a2, .int a3, .int a4, .int a5] [(q0, .inr (8, [.int th, .ref y1, .int (nI uT), .int (nI up), .int (nI uP), .ref y2, .int (nI uR), .ref y3, .int (nI vP), .ref y4, .ref y5, .int (nI vR), .ref y6, .ref y7, .ref y8, .ref y9, .int (nI ua), .ref y10, .ref y11, .int (nI us), .ref y12, .ref y13, .long sd, .int z1, .int z2, .int z3, .int z4, .int z5, .int z6, .int z7, .ref y14])), (y2, .inl (cI, 5, .inl uk)), (y3, .inl (cI, 12, .inl ur)), (y7, .inl (cI, 15, .inl pg)), (y8, .inl (cI, 15, .inl tr))] [(q0, .inr (8, [.int (f_X8_seating_th uP a1 a2 a3 a5), .ref y1, .int (nI uT), .int (nI up), .int (nI uP), .ref y2, .int (nI uR), .ref y3, .int (nI vP), .ref y4, .ref y5, .int (nI vR), .ref y6, .ref y7, .ref y8, .ref y9, .int (nI ua), .ref y10, .ref y11, .int (nI us), .ref y12, .ref y13, .long sd, .int (f_X8_seating_z1 uP uR z1 uk ur pg tr a1 a2 a3 a4 a5), .int (f_X8_seating_z2 uP uR z2 uk ur pg tr a1 a2 a3 a4 a5), .int z3, .int z4, .int z5, .int z6, .int z7, .ref y14])), (y2, .inl (cI, 5, .inl uk)), (y3, .inl (cI, 12, .inl ur)), (y7, .inl (cI, 15, .inl pg)), (y8, .inl (cI, 15, .inl (f_X8_seating_tr uP uR uk ur pg tr a1 a2 a3 a4 a5)))] (some (.int (f_X8_seating uP uR uk ur pg tr a1 a2 a3 a4 a5))) := by
  refine MU.of (by decide +kernel) (Nat.le_of_ble_eq_true rfl) ?_
  intro p e s m args below meth c ls Q A CF hr hlk hP hE hD hS hQ hl
  have hx := CF.1
  have hb := CF.2.1
  have hl : lv_has ls 6 [(0, .ref q0), (1, .int a1), (2, .int a2), (3, .int a3), (4, .int a4), (5, .int a5)] := hl
  refine lv_aload_n hx hb dX8_seating_0 rfl (lv_at hl 0 rfl) ?_
  refine lv_iconst (v := 0) hx hb dX8_seating_1 (by decide) ?_
  refine r_put (C := RX8) (T := TX8) (N := 31) (ws' := [(q0, .inr (8, [.int 0, .ref y1, .int (nI uT), .int (nI up), .int (nI uP), .ref y2, .int (nI uR), .ref y3, .int (nI vP), .ref y4, .ref y5, .int (nI vR), .ref y6, .ref y7, .ref y8, .ref y9, .int (nI ua), .ref y10, .ref y11, .int (nI us), .ref y12, .ref y13, .long sd, .int z1, .int z2, .int z3, .int z4, .int z5, .int z6, .int z7, .ref y14])), (y2, .inl (cI, 5, .inl uk)), (y3, .inl (cI, 12, .inl ur)), (y7, .inl (cI, 15, .inl pg)), (y8, .inl (cI, 15, .inl tr))]) CF hE hP hD hS 0 rfl rfl inG8 tyX8 tyX8_ok nmX8 0 (by decide) tw_3_115 rfl rfl rfl rfl (Nat.le_of_ble_eq_true rfl) dX8_seating_2 rfl (fun H locs hP hD hS => ?_)
  refine lv_aload_n hx hb dX8_seating_5 rfl (lv_at hl 0 rfl) ?_
  refine lv_iload_n hx hb dX8_seating_6 rfl (lv_at hl 1 rfl) ?_
  refine ro_V (y := yX8_noPerson) (As := [.int a1]) (rest := []) (q0 := 0) CF (c_X8_noPerson l D cI cZ q0 y1 y2 y3 y4 y5 y6 y7 y8 y9 y10 y11 y12 y13 y14 0 uT up uP uR vP vR ua us sd z1 z2 z3 z4 z5 z6 z7 a1) lk_X8_127 hP hE [0] rfl rfl rfl rfl hl.1 rfl (Nat.le_of_ble_eq_true rfl) ⟨Nat.le_of_ble_eq_true rfl, Nat.le_of_ble_eq_true rfl, rfl, rfl⟩ ⟨Nat.zero_le _, Nat.zero_le _⟩ dX8_seating_7 ?_
  refine lv_if_ne (tgt := 20) hx hb dX8_seating_10 (by decide) (fun c_1 => ?_) (fun c_1 => ?_)
  · refine lv_iconst (v := (-1)) hx hb dX8_seating_20 (by decide) ?_
    have e_0 : (f_X8_seating_th uP a1 a2 a3 a5) = 0 := by rw [f_X8_seating_th, if_neg c_1]
    have e_1 : (f_X8_seating_tr uP uR uk ur pg tr a1 a2 a3 a4 a5) = tr := by rw [f_X8_seating_tr, if_neg c_1]
    have e_2 : (f_X8_seating_z1 uP uR z1 uk ur pg tr a1 a2 a3 a4 a5) = z1 := by rw [f_X8_seating_z1, if_neg c_1]
    have e_3 : (f_X8_seating_z2 uP uR z2 uk ur pg tr a1 a2 a3 a4 a5) = z2 := by rw [f_X8_seating_z2, if_neg c_1]
    exact mu_reti CF hQ hr hlk rfl hP hS dX8_seating_21 (by rw [f_X8_seating, if_neg c_1]) (by rw [e_0, e_1, e_2, e_3])
  · have np_2 := noPerson_tn (a1 := a1) hu5 c_1
    have np_2l := np_2.2
    refine lv_iload_n hx hb dX8_seating_13 rfl (lv_at hl 2 rfl) ?_
    refine ro_S (y := yX8_noFact) (As := [.int a2]) (rest := []) CF (c_X8_noFact l D cI cZ a2) lk_X8_148 hE rfl hl.1 rfl (Nat.le_of_ble_eq_true rfl) ⟨Nat.le_of_ble_eq_true rfl, Nat.le_of_ble_eq_true rfl, rfl, rfl⟩ ⟨Nat.zero_le _, Nat.zero_le _⟩ dX8_seating_14 ?_
    refine lv_if_eq (tgt := 22) hx hb dX8_seating_17 (by decide) (fun c_3 => ?_) (fun c_3 => ?_)
    · refine lv_iload_n hx hb dX8_seating_22 rfl (lv_at hl 3 rfl) ?_
      refine lv_i2l (v := a3.toInt64) hx hb dX8_seating_23 rfl ?_
      refine lv_lconst (v := 1) hx hb dX8_seating_24 (by decide) ?_
      refine lv_ldc2 (v := 2) hx hb CF.2.2.2.1 (CF.2.2.2.2 _ (List.mem_cons_of_mem _ tw_4_49)) dX8_seating_25 ?_
      refine ro_S (y := yX8_in) (As := [.long a3.toInt64, .long 1, .long 2]) (rest := []) CF (c_X8_in l D cI cZ a3.toInt64 1 2) lk_X8_60 hE rfl hl.1 rfl (Nat.le_of_ble_eq_true rfl) ⟨Nat.le_of_ble_eq_true rfl, Nat.le_of_ble_eq_true rfl, rfl, rfl⟩ ⟨Nat.zero_le _, Nat.zero_le _⟩ dX8_seating_28 ?_
      refine lv_if_ne (tgt := 37) hx hb dX8_seating_31 (by decide) (fun c_4 => ?_) (fun c_4 => ?_)
      · have ni_5 : (1 : Int32) ≤ a3 ∧ a3 ≤ nI 2 := in_ne (a := 1) (b := nI 2) c_4
        have ni_5n := rng_tn ni_5 (by decide) (by decide)
        have ni_5l := ni_5n.2
        have ni_5g := rng_ge1 ni_5.1
        refine lv_aload_n hx hb dX8_seating_37 rfl (lv_at hl 0 rfl) ?_
        refine lv_iload_n hx hb dX8_seating_38 rfl (lv_at hl 1 rfl) ?_
        refine lv_iload_n hx hb dX8_seating_39 rfl (lv_at hl 2 rfl) ?_
        refine lv_iload_n hx hb dX8_seating_40 rfl (lv_at hl 3 rfl) ?_
        refine lv_iload hx hb dX8_seating_41 (lv_at hl 4 rfl) ?_
        refine mu_Vv (y := yX8_findSeats) (As := [.int a1, .int a2, .int a3, .int a4]) (rest := []) (q0 := 0) (ws' := [(q0, .inr (8, [.int 0, .ref y1, .int (nI uT), .int (nI up), .int (nI uP), .ref y2, .int (nI uR), .ref y3, .int (nI vP), .ref y4, .ref y5, .int (nI vR), .ref y6, .ref y7, .ref y8, .ref y9, .int (nI ua), .ref y10, .ref y11, .int (nI us), .ref y12, .ref y13, .long sd, .int ((B_X8_findSeats_15 uP uR uk ur pg a1 a1.toNatClampNeg a2 a3 a4 tr (-9) (-9) (uP ^ uP)).2.1), .int ((B_X8_findSeats_15 uP uR uk ur pg a1 a1.toNatClampNeg a2 a3 a4 tr (-9) (-9) (uP ^ uP)).2.2), .int z3, .int z4, .int z5, .int z6, .int z7, .ref y14])), (y2, .inl (cI, 5, .inl uk)), (y3, .inl (cI, 12, .inl ur)), (y7, .inl (cI, 15, .inl pg)), (y8, .inl (cI, 15, .inl ((B_X8_findSeats_15 uP uR uk ur pg a1 a1.toNatClampNeg a2 a3 a4 tr (-9) (-9) (uP ^ uP)).1)))]) (ad := [q0, y2, y3, y7, y8]) CF (c_X8_findSeats l D cI cZ q0 y1 y2 y3 y4 y5 y6 y7 y8 y9 y10 y11 y12 y13 y14 0 uT up uP uR vP vR ua us sd z1 z2 z3 z4 z5 z6 z7 uk ur pg tr a1 a1.toNatClampNeg a2 a3 a4 np_2.1 (by omega) (by omega) (by omega) (by omega)) lk_X8_174 hP hE hD hS [0, 1, 2, 3, 4] rfl (by decide) (Nat.le_of_ble_eq_true rfl) rfl rfl rfl rfl rfl rfl hl.1 rfl (Nat.le_of_ble_eq_true rfl) ⟨Nat.le_of_ble_eq_true rfl, Nat.le_of_ble_eq_true rfl, rfl, rfl⟩ ⟨Nat.zero_le _, Nat.zero_le _⟩ dX8_seating_43 (fun H locs hP hD hS => ?_)
        refine lv_iload hx hb dX8_seating_46 (lv_at hl 5 rfl) ?_
        refine lv_if_eq (tgt := 58) hx hb dX8_seating_48 (by decide) (fun c_6 => ?_) (fun c_6 => ?_)
        · refine lv_aload_n hx hb dX8_seating_58 rfl (lv_at hl 0 rfl) ?_
          refine r_get (C := RX8) (T := TX8) (N := 31) (v := .int ((B_X8_findSeats_15 uP uR uk ur pg a1 a1.toNatClampNeg a2 a3 a4 tr (-9) (-9) (uP ^ uP)).2.1)) CF hE hP 0 rfl rfl inG8 23 (by decide) tw_3_138 rfl rfl dX8_seating_59 ?_
          have e_0 : (f_X8_seating_th uP a1 a2 a3 a5) = 0 := by rw [f_X8_seating_th, if_pos c_1, if_pos c_3, if_neg c_4, if_pos c_6]
          have e_1 : (f_X8_seating_tr uP uR uk ur pg tr a1 a2 a3 a4 a5) = ((B_X8_findSeats_15 uP uR uk ur pg a1 a1.toNatClampNeg a2 a3 a4 tr (-9) (-9) (uP ^ uP)).1) := by rw [f_X8_seating_tr, if_pos c_1, if_pos c_3, if_neg c_4, if_pos c_6]
          have e_2 : (f_X8_seating_z1 uP uR z1 uk ur pg tr a1 a2 a3 a4 a5) = ((B_X8_findSeats_15 uP uR uk ur pg a1 a1.toNatClampNeg a2 a3 a4 tr (-9) (-9) (uP ^ uP)).2.1) := by rw [f_X8_seating_z1, if_pos c_1, if_pos c_3, if_neg c_4, if_pos c_6]
          have e_3 : (f_X8_seating_z2 uP uR z2 uk ur pg tr a1 a2 a3 a4 a5) = ((B_X8_findSeats_15 uP uR uk ur pg a1 a1.toNatClampNeg a2 a3 a4 tr (-9) (-9) (uP ^ uP)).2.2) := by rw [f_X8_seating_z2, if_pos c_1, if_pos c_3, if_neg c_4, if_pos c_6]
          exact mu_reti CF hQ hr hlk rfl hP hS dX8_seating_62 (by rw [f_X8_seating, if_pos c_1, if_pos c_3, if_neg c_4, if_pos c_6]) (by rw [e_0, e_1, e_2, e_3])
        · refine lv_aload_n hx hb dX8_seating_51 rfl (lv_at hl 0 rfl) ?_
          refine r_get (C := RX8) (T := TX8) (N := 31) (v := .int ((B_X8_findSeats_15 uP uR uk ur pg a1 a1.toNatClampNeg a2 a3 a4 tr (-9) (-9) (uP ^ uP)).2.2)) CF hE hP 0 rfl rfl inG8 24 (by decide) tw_3_139 rfl rfl dX8_seating_52 ?_
          refine lv_goto (tgt := 62) hx hb dX8_seating_55 (by decide) ?_
          have e_0 : (f_X8_seating_th uP a1 a2 a3 a5) = 0 := by rw [f_X8_seating_th, if_pos c_1, if_pos c_3, if_neg c_4, if_neg c_6]
          have e_1 : (f_X8_seating_tr uP uR uk ur pg tr a1 a2 a3 a4 a5) = ((B_X8_findSeats_15 uP uR uk ur pg a1 a1.toNatClampNeg a2 a3 a4 tr (-9) (-9) (uP ^ uP)).1) := by rw [f_X8_seating_tr, if_pos c_1, if_pos c_3, if_neg c_4, if_neg c_6]
          have e_2 : (f_X8_seating_z1 uP uR z1 uk ur pg tr a1 a2 a3 a4 a5) = ((B_X8_findSeats_15 uP uR uk ur pg a1 a1.toNatClampNeg a2 a3 a4 tr (-9) (-9) (uP ^ uP)).2.1) := by rw [f_X8_seating_z1, if_pos c_1, if_pos c_3, if_neg c_4, if_neg c_6]
          have e_3 : (f_X8_seating_z2 uP uR z2 uk ur pg tr a1 a2 a3 a4 a5) = ((B_X8_findSeats_15 uP uR uk ur pg a1 a1.toNatClampNeg a2 a3 a4 tr (-9) (-9) (uP ^ uP)).2.2) := by rw [f_X8_seating_z2, if_pos c_1, if_pos c_3, if_neg c_4, if_neg c_6]
          exact mu_reti CF hQ hr hlk rfl hP hS dX8_seating_62 (by rw [f_X8_seating, if_pos c_1, if_pos c_3, if_neg c_4, if_neg c_6]) (by rw [e_0, e_1, e_2, e_3])
      · refine lv_bipush (v := (-2)) hx hb dX8_seating_34 (by decide) ?_
        have e_0 : (f_X8_seating_th uP a1 a2 a3 a5) = 0 := by rw [f_X8_seating_th, if_pos c_1, if_pos c_3, if_pos c_4]
        have e_1 : (f_X8_seating_tr uP uR uk ur pg tr a1 a2 a3 a4 a5) = tr := by rw [f_X8_seating_tr, if_pos c_1, if_pos c_3, if_pos c_4]
        have e_2 : (f_X8_seating_z1 uP uR z1 uk ur pg tr a1 a2 a3 a4 a5) = z1 := by rw [f_X8_seating_z1, if_pos c_1, if_pos c_3, if_pos c_4]
        have e_3 : (f_X8_seating_z2 uP uR z2 uk ur pg tr a1 a2 a3 a4 a5) = z2 := by rw [f_X8_seating_z2, if_pos c_1, if_pos c_3, if_pos c_4]
        exact mu_reti CF hQ hr hlk rfl hP hS dX8_seating_36 (by rw [f_X8_seating, if_pos c_1, if_pos c_3, if_pos c_4]) (by rw [e_0, e_1, e_2, e_3])
    · refine lv_iconst (v := (-1)) hx hb dX8_seating_20 (by decide) ?_
      have e_0 : (f_X8_seating_th uP a1 a2 a3 a5) = 0 := by rw [f_X8_seating_th, if_pos c_1, if_neg c_3]
      have e_1 : (f_X8_seating_tr uP uR uk ur pg tr a1 a2 a3 a4 a5) = tr := by rw [f_X8_seating_tr, if_pos c_1, if_neg c_3]
      have e_2 : (f_X8_seating_z1 uP uR z1 uk ur pg tr a1 a2 a3 a4 a5) = z1 := by rw [f_X8_seating_z1, if_pos c_1, if_neg c_3]
      have e_3 : (f_X8_seating_z2 uP uR z2 uk ur pg tr a1 a2 a3 a4 a5) = z2 := by rw [f_X8_seating_z2, if_pos c_1, if_neg c_3]
      exact mu_reti CF hQ hr hlk rfl hP hS dX8_seating_21 (by rw [f_X8_seating, if_pos c_1, if_neg c_3]) (by rw [e_0, e_1, e_2, e_3])
def S_X8_keepFrom_38 (uR : Nat) (ur : Nat → Int32) (pg : Nat → Int32) (a1 : Int32) (a2 : Int32) (k38 : Nat) (x38_0 : Int32) : (Int32) :=
  (if ((nI k38) &&& ((pg (0 + a1.toNatClampNeg)) ^^^ (-1))) = 0 then (if (f_X8_has ((B_X8_closed_4 uR ur ((pg (0 + a1.toNatClampNeg)) &&& ((nI k38) ^^^ (-1))) 4)) a2) = 0 then (if x38_0 = (-9) then (nI k38) else (if ((B_X8_many_4 x38_0 0 6)) ≤ ((B_X8_many_4 (nI k38) 0 6)) then x38_0 else (nI k38))) else x38_0) else x38_0)
def B_X8_keepFrom_38 (uR : Nat) (ur : Nat → Int32) (pg : Nat → Int32) (a1 : Int32) (a2 : Int32) (i0 : Int32) : Nat → (Int32)
  | 0 => i0
  | k + 1 => S_X8_keepFrom_38 uR ur pg a1 a2 k (B_X8_keepFrom_38 uR ur pg a1 a2 i0 k)
def f_X8_keepFrom (uP : Nat) (uR : Nat) (ur : Nat → Int32) (pg : Nat → Int32) (a1 : Int32) (a2 : Int32) : Int32 :=
  (if (f_X8_noPerson uP a1) = 0 then (if (f_X8_noFact a2) = 0 then ((B_X8_keepFrom_38 uR ur pg a1 a2 (-9) 64)) else (-1)) else (-1))
def f_X8_keepFrom_th (uP : Nat) (a1 : Int32) (a2 : Int32) : Int32 :=
  (if (f_X8_noPerson uP a1) = 0 then (if (f_X8_noFact a2) = 0 then 0 else 0) else 0)
set_option maxRecDepth 100000 in
set_option maxHeartbeats 4000000 in
theorem c_X8_keepFrom (l : Launch) (D : va_G) (cI cZ : ClassId) (q0 y1 y2 y3 y4 y5 y6 y7 y8 y9 y10 y11 y12 y13 y14 : Nat) (th : Int32) (uT : Nat) (up : Nat) (uP : Nat) (uR : Nat) (vP : Nat) (vR : Nat) (ua : Nat) (us : Nat) (sd : Int64) (z1 : Int32) (z2 : Int32) (z3 : Int32) (z4 : Int32) (z5 : Int32) (z6 : Int32) (z7 : Int32) (ur : Nat → Int32) (pg : Nat → Int32) (a1 : Int32) (a2 : Int32) (hu5 : uP ≤ 5) (hur : uR ≤ 4) : MU l D cI cZ yX8_keepFrom cX8_keepFrom 7 (some .int) (mR 2 46) [.ref q0, .int a1, .int a2] [(q0, .inr (8, [.int th, .ref y1, .int (nI uT), .int (nI up), .int (nI uP), .ref y2, .int (nI uR), .ref y3, .int (nI vP), .ref y4, .ref y5, .int (nI vR), .ref y6, .ref y7, .ref y8, .ref y9, .int (nI ua), .ref y10, .ref y11, .int (nI us), .ref y12, .ref y13, .long sd, .int z1, .int z2, .int z3, .int z4, .int z5, .int z6, .int z7, .ref y14])), (y3, .inl (cI, 12, .inl ur)), (y7, .inl (cI, 15, .inl pg))] [(q0, .inr (8, [.int (f_X8_keepFrom_th uP a1 a2), .ref y1, .int (nI uT), .int (nI up), .int (nI uP), .ref y2, .int (nI uR), .ref y3, .int (nI vP), .ref y4, .ref y5, .int (nI vR), .ref y6, .ref y7, .ref y8, .ref y9, .int (nI ua), .ref y10, .ref y11, .int (nI us), .ref y12, .ref y13, .long sd, .int z1, .int z2, .int z3, .int z4, .int z5, .int z6, .int z7, .ref y14])), (y3, .inl (cI, 12, .inl ur)), (y7, .inl (cI, 15, .inl pg))] (some (.int (f_X8_keepFrom uP uR ur pg a1 a2))) := by
  refine MU.of (by decide +kernel) (Nat.le_of_ble_eq_true rfl) ?_
  intro p e s m args below meth c ls Q A CF hr hlk hP hE hD hS hQ hl
  have hx := CF.1
  have hb := CF.2.1
  have hl : lv_has ls 7 [(0, .ref q0), (1, .int a1), (2, .int a2)] := hl
  refine lv_aload_n hx hb dX8_keepFrom_0 rfl (lv_at hl 0 rfl) ?_
  refine lv_iconst (v := 0) hx hb dX8_keepFrom_1 (by decide) ?_
  refine r_put (C := RX8) (T := TX8) (N := 31) (ws' := [(q0, .inr (8, [.int 0, .ref y1, .int (nI uT), .int (nI up), .int (nI uP), .ref y2, .int (nI uR), .ref y3, .int (nI vP), .ref y4, .ref y5, .int (nI vR), .ref y6, .ref y7, .ref y8, .ref y9, .int (nI ua), .ref y10, .ref y11, .int (nI us), .ref y12, .ref y13, .long sd, .int z1, .int z2, .int z3, .int z4, .int z5, .int z6, .int z7, .ref y14])), (y3, .inl (cI, 12, .inl ur)), (y7, .inl (cI, 15, .inl pg))]) CF hE hP hD hS 0 rfl rfl inG8 tyX8 tyX8_ok nmX8 0 (by decide) tw_3_115 rfl rfl rfl rfl (Nat.le_of_ble_eq_true rfl) dX8_keepFrom_2 rfl (fun H locs hP hD hS => ?_)
  refine lv_aload_n hx hb dX8_keepFrom_5 rfl (lv_at hl 0 rfl) ?_
  refine lv_iload_n hx hb dX8_keepFrom_6 rfl (lv_at hl 1 rfl) ?_
  refine ro_V (y := yX8_noPerson) (As := [.int a1]) (rest := []) (q0 := 0) CF (c_X8_noPerson l D cI cZ q0 y1 y2 y3 y4 y5 y6 y7 y8 y9 y10 y11 y12 y13 y14 0 uT up uP uR vP vR ua us sd z1 z2 z3 z4 z5 z6 z7 a1) lk_X8_127 hP hE [0] rfl rfl rfl rfl hl.1 rfl (Nat.le_of_ble_eq_true rfl) ⟨Nat.le_of_ble_eq_true rfl, Nat.le_of_ble_eq_true rfl, rfl, rfl⟩ ⟨Nat.zero_le _, Nat.zero_le _⟩ dX8_keepFrom_7 ?_
  refine lv_if_ne (tgt := 20) hx hb dX8_keepFrom_10 (by decide) (fun c_1 => ?_) (fun c_1 => ?_)
  · refine lv_iconst (v := (-1)) hx hb dX8_keepFrom_20 (by decide) ?_
    have e_0 : (f_X8_keepFrom_th uP a1 a2) = 0 := by rw [f_X8_keepFrom_th, if_neg c_1]
    exact mu_reti CF hQ hr hlk rfl hP hS dX8_keepFrom_21 (by rw [f_X8_keepFrom, if_neg c_1]) (by rw [e_0])
  · have np_2 := noPerson_tn (a1 := a1) hu5 c_1
    have np_2l := np_2.2
    refine lv_iload_n hx hb dX8_keepFrom_13 rfl (lv_at hl 2 rfl) ?_
    refine ro_S (y := yX8_noFact) (As := [.int a2]) (rest := []) CF (c_X8_noFact l D cI cZ a2) lk_X8_148 hE rfl hl.1 rfl (Nat.le_of_ble_eq_true rfl) ⟨Nat.le_of_ble_eq_true rfl, Nat.le_of_ble_eq_true rfl, rfl, rfl⟩ ⟨Nat.zero_le _, Nat.zero_le _⟩ dX8_keepFrom_14 ?_
    refine lv_if_eq (tgt := 22) hx hb dX8_keepFrom_17 (by decide) (fun c_3 => ?_) (fun c_3 => ?_)
    · refine lv_aload_n hx hb dX8_keepFrom_22 rfl (lv_at hl 0 rfl) ?_
      refine r_get (C := RX8) (T := TX8) (N := 31) (v := .ref y7) CF hE hP 0 rfl rfl inG8 13 (by decide) tw_3_128 rfl rfl dX8_keepFrom_23 ?_
      refine lv_iconst (v := 0) hx hb dX8_keepFrom_26 (by decide) ?_
      refine lv_iload_n hx hb dX8_keepFrom_27 rfl (lv_at hl 1 rfl) ?_
      refine lv_iadd hx hb dX8_keepFrom_28 ?_
      refine r_iald (k := 15) (f := pg) CF hE hP 2 rfl (0 + a1.toNatClampNeg) (nf_add (nf_c 0) np_2.1) (by omega) (by decide) dX8_keepFrom_29 ?_
      refine lv_istore_n (lv' := [(3, .int (pg (0 + a1.toNatClampNeg))), (0, .ref q0), (1, .int a1), (2, .int a2)]) hx hb dX8_keepFrom_30 rfl hl (by decide) rfl (fun ls hl => ?_)
      refine lv_bipush (v := (-9)) hx hb dX8_keepFrom_31 (by decide) ?_
      refine lv_istore (lv' := [(4, .int (-9)), (3, .int (pg (0 + a1.toNatClampNeg))), (0, .ref q0), (1, .int a1), (2, .int a2)]) hx hb dX8_keepFrom_33 hl (by decide) rfl (fun ls hl => ?_)
      refine lv_iconst (v := 0) hx hb dX8_keepFrom_35 (by decide) ?_
      refine lv_istore (lv' := [(5, .int 0), (4, .int (-9)), (3, .int (pg (0 + a1.toNatClampNeg))), (0, .ref q0), (1, .int a1), (2, .int a2)]) hx hb dX8_keepFrom_36 hl (by decide) rfl (fun ls hl => ?_)
      have LOOP_38 : ∀ (n_38 k38 : Nat) (x38_0 : Int32) (H : Heap) (locs : List Loc) (ls : Array Slot), k38 ≤ 64 → 64 - k38 < n_38 → (B_X8_keepFrom_38 uR ur pg a1 a2 (-9) k38) = x38_0 → va_P D vwCl [(q0, .inr (8, [.int 0, .ref y1, .int (nI uT), .int (nI up), .int (nI uP), .ref y2, .int (nI uR), .ref y3, .int (nI vP), .ref y4, .ref y5, .int (nI vR), .ref y6, .ref y7, .ref y8, .ref y9, .int (nI ua), .ref y10, .ref y11, .int (nI us), .ref y12, .ref y13, .long sd, .int z1, .int z2, .int z3, .int z4, .int z5, .int z6, .int z7, .ref y14])), (y3, .inl (cI, 12, .inl ur)), (y7, .inl (cI, 15, .inl pg))] H → va_D A [(q0, .inr (8, [.int 0, .ref y1, .int (nI uT), .int (nI up), .int (nI uP), .ref y2, .int (nI uR), .ref y3, .int (nI vP), .ref y4, .ref y5, .int (nI vR), .ref y6, .ref y7, .ref y8, .ref y9, .int (nI ua), .ref y10, .ref y11, .int (nI us), .ref y12, .ref y13, .long sd, .int z1, .int z2, .int z3, .int z4, .int z5, .int z6, .int z7, .ref y14])), (y3, .inl (cI, 12, .inl ur)), (y7, .inl (cI, 15, .inl pg))] → va_S A s.heap H locs → lv_has ls 7 [(5, .int (nI k38)), (4, .int x38_0), (3, .int (pg (0 + a1.toNatClampNeg))), (0, .ref q0), (1, .int a1), (2, .int a2)] → W p l e (mR 2 46) s m args below meth c H locs 0 0 Q (F0 m 38 ls []) := by
        intro n_38
        induction n_38 with
        | zero => intro k38 x38_0 H locs ls hk_38 hn_38 hB_38 hP hD hS hl; exact absurd hn_38 (Nat.not_lt_zero _)
        | succ n_38 ih_38 =>
          intro k38 x38_0 H locs ls hk_38 hn_38 hB_38 hP hD hS hl
          refine lv_iload hx hb dX8_keepFrom_38 (lv_at hl 0 rfl) ?_
          refine lv_bipush (v := 63) hx hb dX8_keepFrom_40 (by decide) ?_
          refine lv_icmp_gt (tgt := 118) hx hb dX8_keepFrom_42 (by decide) (fun c_4 => ?_) (fun c_4 => ?_)
          · have o_4 : 63 < k38 := (clt (nf_c 63) (rfl : nI k38 = nI k38) (by omega) (by omega)).mp c_4
            have hkN : 64 = k38 := by omega
            subst hkN
            subst hB_38
            refine lv_iload hx hb dX8_keepFrom_118 (lv_at hl 1 rfl) ?_
            have e_0 : (f_X8_keepFrom_th uP a1 a2) = 0 := by rw [f_X8_keepFrom_th, if_pos c_1, if_pos c_3]
            exact mu_reti CF hQ hr hlk rfl hP hS dX8_keepFrom_120 (by rw [f_X8_keepFrom, if_pos c_1, if_pos c_3]) (by rw [e_0])
          · have o_4 : ¬ 63 < k38 := fun h => c_4 ((clt (nf_c 63) (rfl : nI k38 = nI k38) (by omega) (by omega)).mpr h)
            refine lv_iload hx hb dX8_keepFrom_45 (lv_at hl 0 rfl) ?_
            refine lv_iload_n hx hb dX8_keepFrom_47 rfl (lv_at hl 2 rfl) ?_
            refine lv_iconst (v := (-1)) hx hb dX8_keepFrom_48 (by decide) ?_
            refine lv_ixor hx hb dX8_keepFrom_49 ?_
            refine lv_iand hx hb dX8_keepFrom_50 ?_
            refine lv_if_ne (tgt := 75) hx hb dX8_keepFrom_51 (by decide) (fun c_5 => ?_) (fun c_5 => ?_)
            · refine lv_iconst (v := 0) hx hb dX8_keepFrom_75 (by decide) ?_
              refine lv_istore (lv' := [(6, .int 0), (5, .int (nI k38)), (4, .int x38_0), (3, .int (pg (0 + a1.toNatClampNeg))), (0, .ref q0), (1, .int a1), (2, .int a2)]) hx hb dX8_keepFrom_76 hl (by decide) rfl (fun ls hl => ?_)
              refine lv_iload hx hb dX8_keepFrom_78 (lv_at hl 0 rfl) ?_
              refine lv_if_eq (tgt := 108) hx hb dX8_keepFrom_80 (by decide) (fun _ => ?_) (fun c_6 => absurd c_6 (by decide))
              refine lv_iload hx hb dX8_keepFrom_108 (lv_at hl 2 rfl) ?_
              refine lv_istore (lv' := [(4, .int x38_0), (6, .int 0), (5, .int (nI k38)), (3, .int (pg (0 + a1.toNatClampNeg))), (0, .ref q0), (1, .int a1), (2, .int a2)]) hx hb dX8_keepFrom_110 hl (by decide) rfl (fun ls hl => ?_)
              refine lv_iinc (v := (nI (k38 + 1))) (lv' := [(5, .int (nI (k38 + 1))), (4, .int x38_0), (6, .int 0), (3, .int (pg (0 + a1.toNatClampNeg))), (0, .ref q0), (1, .int a1), (2, .int a2)]) hx hb dX8_keepFrom_112 hl (k := 2) rfl (nf_inc 1 (rfl : nI k38 = nI k38)) (by decide) rfl (fun ls hl => ?_)
              refine lv_goto (tgt := 38) hx hb dX8_keepFrom_115 (by decide) ?_
              have hB2 : B_X8_keepFrom_38 uR ur pg a1 a2 (-9) (k38 + 1) = x38_0 := by
                rw [B_X8_keepFrom_38, hB_38]
                rw [S_X8_keepFrom_38, if_neg c_5]
              exact ih_38 (k38 + 1) x38_0 _ _ _ (by omega) (by omega) hB2 hP hD hS (lv_sub hl [0, 1, 3, 4, 5, 6] rfl)
            · refine lv_aload_n hx hb dX8_keepFrom_54 rfl (lv_at hl 3 rfl) ?_
              refine lv_iload_n hx hb dX8_keepFrom_55 rfl (lv_at hl 2 rfl) ?_
              refine lv_iload hx hb dX8_keepFrom_56 (lv_at hl 0 rfl) ?_
              refine lv_iconst (v := (-1)) hx hb dX8_keepFrom_58 (by decide) ?_
              refine lv_ixor hx hb dX8_keepFrom_59 ?_
              refine lv_iand hx hb dX8_keepFrom_60 ?_
              refine ro_V (y := yX8_closed) (As := [.int ((pg (0 + a1.toNatClampNeg)) &&& ((nI k38) ^^^ (-1)))]) (rest := []) (q0 := 0) CF (c_X8_closed l D cI cZ q0 y1 y2 y3 y4 y5 y6 y7 y8 y9 y10 y11 y12 y13 y14 0 uT up uP uR vP vR ua us sd z1 z2 z3 z4 z5 z6 z7 ur ((pg (0 + a1.toNatClampNeg)) &&& ((nI k38) ^^^ (-1))) (by omega)) lk_X8_116 hP hE [0, 1] rfl rfl rfl rfl hl.1 rfl (Nat.le_of_ble_eq_true rfl) ⟨Nat.le_of_ble_eq_true rfl, Nat.le_of_ble_eq_true rfl, rfl, rfl⟩ ⟨Nat.zero_le _, Nat.zero_le _⟩ dX8_keepFrom_61 ?_
              refine lv_iload_n hx hb dX8_keepFrom_64 rfl (lv_at hl 5 rfl) ?_
              refine ro_S (y := yX8_has) (As := [.int ((B_X8_closed_4 uR ur ((pg (0 + a1.toNatClampNeg)) &&& ((nI k38) ^^^ (-1))) 4)), .int a2]) (rest := []) CF (c_X8_has l D cI cZ ((B_X8_closed_4 uR ur ((pg (0 + a1.toNatClampNeg)) &&& ((nI k38) ^^^ (-1))) 4)) a2) lk_X8_104 hE rfl hl.1 rfl (Nat.le_of_ble_eq_true rfl) ⟨Nat.le_of_ble_eq_true rfl, Nat.le_of_ble_eq_true rfl, rfl, rfl⟩ ⟨Nat.zero_le _, Nat.zero_le _⟩ dX8_keepFrom_65 ?_
              refine lv_if_ne (tgt := 75) hx hb dX8_keepFrom_68 (by decide) (fun c_7 => ?_) (fun c_7 => ?_)
              · refine lv_iconst (v := 0) hx hb dX8_keepFrom_75 (by decide) ?_
                refine lv_istore (lv' := [(6, .int 0), (5, .int (nI k38)), (4, .int x38_0), (3, .int (pg (0 + a1.toNatClampNeg))), (0, .ref q0), (1, .int a1), (2, .int a2)]) hx hb dX8_keepFrom_76 hl (by decide) rfl (fun ls hl => ?_)
                refine lv_iload hx hb dX8_keepFrom_78 (lv_at hl 0 rfl) ?_
                refine lv_if_eq (tgt := 108) hx hb dX8_keepFrom_80 (by decide) (fun _ => ?_) (fun c_8 => absurd c_8 (by decide))
                refine lv_iload hx hb dX8_keepFrom_108 (lv_at hl 2 rfl) ?_
                refine lv_istore (lv' := [(4, .int x38_0), (6, .int 0), (5, .int (nI k38)), (3, .int (pg (0 + a1.toNatClampNeg))), (0, .ref q0), (1, .int a1), (2, .int a2)]) hx hb dX8_keepFrom_110 hl (by decide) rfl (fun ls hl => ?_)
                refine lv_iinc (v := (nI (k38 + 1))) (lv' := [(5, .int (nI (k38 + 1))), (4, .int x38_0), (6, .int 0), (3, .int (pg (0 + a1.toNatClampNeg))), (0, .ref q0), (1, .int a1), (2, .int a2)]) hx hb dX8_keepFrom_112 hl (k := 2) rfl (nf_inc 1 (rfl : nI k38 = nI k38)) (by decide) rfl (fun ls hl => ?_)
                refine lv_goto (tgt := 38) hx hb dX8_keepFrom_115 (by decide) ?_
                have hB2 : B_X8_keepFrom_38 uR ur pg a1 a2 (-9) (k38 + 1) = x38_0 := by
                  rw [B_X8_keepFrom_38, hB_38]
                  rw [S_X8_keepFrom_38, if_pos c_5, if_neg c_7]
                exact ih_38 (k38 + 1) x38_0 _ _ _ (by omega) (by omega) hB2 hP hD hS (lv_sub hl [0, 1, 3, 4, 5, 6] rfl)
              · refine lv_iconst (v := 1) hx hb dX8_keepFrom_71 (by decide) ?_
                refine lv_goto (tgt := 76) hx hb dX8_keepFrom_72 (by decide) ?_
                refine lv_istore (lv' := [(6, .int 1), (5, .int (nI k38)), (4, .int x38_0), (3, .int (pg (0 + a1.toNatClampNeg))), (0, .ref q0), (1, .int a1), (2, .int a2)]) hx hb dX8_keepFrom_76 hl (by decide) rfl (fun ls hl => ?_)
                refine lv_iload hx hb dX8_keepFrom_78 (lv_at hl 0 rfl) ?_
                refine lv_if_eq (tgt := 108) hx hb dX8_keepFrom_80 (by decide) (fun c_9 => absurd c_9 (by decide)) (fun _ => ?_)
                refine lv_iload hx hb dX8_keepFrom_83 (lv_at hl 2 rfl) ?_
                refine lv_bipush (v := (-9)) hx hb dX8_keepFrom_85 (by decide) ?_
                refine lv_icmp_eq (tgt := 103) hx hb dX8_keepFrom_87 (by decide) (fun c_10 => ?_) (fun c_10 => ?_)
                · refine lv_iload hx hb dX8_keepFrom_103 (lv_at hl 1 rfl) ?_
                  refine lv_goto (tgt := 110) hx hb dX8_keepFrom_105 (by decide) ?_
                  refine lv_istore (lv' := [(4, .int (nI k38)), (6, .int 1), (5, .int (nI k38)), (3, .int (pg (0 + a1.toNatClampNeg))), (0, .ref q0), (1, .int a1), (2, .int a2)]) hx hb dX8_keepFrom_110 hl (by decide) rfl (fun ls hl => ?_)
                  refine lv_iinc (v := (nI (k38 + 1))) (lv' := [(5, .int (nI (k38 + 1))), (4, .int (nI k38)), (6, .int 1), (3, .int (pg (0 + a1.toNatClampNeg))), (0, .ref q0), (1, .int a1), (2, .int a2)]) hx hb dX8_keepFrom_112 hl (k := 2) rfl (nf_inc 1 (rfl : nI k38 = nI k38)) (by decide) rfl (fun ls hl => ?_)
                  refine lv_goto (tgt := 38) hx hb dX8_keepFrom_115 (by decide) ?_
                  have hB2 : B_X8_keepFrom_38 uR ur pg a1 a2 (-9) (k38 + 1) = (nI k38) := by
                    rw [B_X8_keepFrom_38, hB_38]
                    rw [S_X8_keepFrom_38, if_pos c_5, if_pos c_7, if_pos c_10]
                  exact ih_38 (k38 + 1) (nI k38) _ _ _ (by omega) (by omega) hB2 hP hD hS (lv_sub hl [0, 1, 3, 4, 5, 6] rfl)
                · refine lv_iload hx hb dX8_keepFrom_90 (lv_at hl 1 rfl) ?_
                  refine ro_S (y := yX8_many) (As := [.int (nI k38)]) (rest := []) CF (c_X8_many l D cI cZ (nI k38)) lk_X8_145 hE rfl hl.1 rfl (Nat.le_of_ble_eq_true rfl) ⟨Nat.le_of_ble_eq_true rfl, Nat.le_of_ble_eq_true rfl, rfl, rfl⟩ ⟨Nat.zero_le _, Nat.zero_le _⟩ dX8_keepFrom_92 ?_
                  refine lv_iload hx hb dX8_keepFrom_95 (lv_at hl 2 rfl) ?_
                  refine ro_S (y := yX8_many) (As := [.int x38_0]) (rest := [.int ((B_X8_many_4 (nI k38) 0 6))]) CF (c_X8_many l D cI cZ x38_0) lk_X8_145 hE rfl hl.1 rfl (Nat.le_of_ble_eq_true rfl) ⟨Nat.le_of_ble_eq_true rfl, Nat.le_of_ble_eq_true rfl, rfl, rfl⟩ ⟨Nat.zero_le _, Nat.zero_le _⟩ dX8_keepFrom_97 ?_
                  refine lv_icmp_ge (tgt := 108) hx hb dX8_keepFrom_100 (by decide) (fun c_11 => ?_) (fun c_11 => ?_)
                  · refine lv_iload hx hb dX8_keepFrom_108 (lv_at hl 2 rfl) ?_
                    refine lv_istore (lv' := [(4, .int x38_0), (6, .int 1), (5, .int (nI k38)), (3, .int (pg (0 + a1.toNatClampNeg))), (0, .ref q0), (1, .int a1), (2, .int a2)]) hx hb dX8_keepFrom_110 hl (by decide) rfl (fun ls hl => ?_)
                    refine lv_iinc (v := (nI (k38 + 1))) (lv' := [(5, .int (nI (k38 + 1))), (4, .int x38_0), (6, .int 1), (3, .int (pg (0 + a1.toNatClampNeg))), (0, .ref q0), (1, .int a1), (2, .int a2)]) hx hb dX8_keepFrom_112 hl (k := 2) rfl (nf_inc 1 (rfl : nI k38 = nI k38)) (by decide) rfl (fun ls hl => ?_)
                    refine lv_goto (tgt := 38) hx hb dX8_keepFrom_115 (by decide) ?_
                    have hB2 : B_X8_keepFrom_38 uR ur pg a1 a2 (-9) (k38 + 1) = x38_0 := by
                      rw [B_X8_keepFrom_38, hB_38]
                      rw [S_X8_keepFrom_38, if_pos c_5, if_pos c_7, if_neg c_10, if_pos c_11]
                    exact ih_38 (k38 + 1) x38_0 _ _ _ (by omega) (by omega) hB2 hP hD hS (lv_sub hl [0, 1, 3, 4, 5, 6] rfl)
                  · refine lv_iload hx hb dX8_keepFrom_103 (lv_at hl 1 rfl) ?_
                    refine lv_goto (tgt := 110) hx hb dX8_keepFrom_105 (by decide) ?_
                    refine lv_istore (lv' := [(4, .int (nI k38)), (6, .int 1), (5, .int (nI k38)), (3, .int (pg (0 + a1.toNatClampNeg))), (0, .ref q0), (1, .int a1), (2, .int a2)]) hx hb dX8_keepFrom_110 hl (by decide) rfl (fun ls hl => ?_)
                    refine lv_iinc (v := (nI (k38 + 1))) (lv' := [(5, .int (nI (k38 + 1))), (4, .int (nI k38)), (6, .int 1), (3, .int (pg (0 + a1.toNatClampNeg))), (0, .ref q0), (1, .int a1), (2, .int a2)]) hx hb dX8_keepFrom_112 hl (k := 2) rfl (nf_inc 1 (rfl : nI k38 = nI k38)) (by decide) rfl (fun ls hl => ?_)
                    refine lv_goto (tgt := 38) hx hb dX8_keepFrom_115 (by decide) ?_
                    have hB2 : B_X8_keepFrom_38 uR ur pg a1 a2 (-9) (k38 + 1) = (nI k38) := by
                      rw [B_X8_keepFrom_38, hB_38]
                      rw [S_X8_keepFrom_38, if_pos c_5, if_pos c_7, if_neg c_10, if_neg c_11]
                    exact ih_38 (k38 + 1) (nI k38) _ _ _ (by omega) (by omega) hB2 hP hD hS (lv_sub hl [0, 1, 3, 4, 5, 6] rfl)
      have e_k : 0 = nI (0) := (nf_c 0).trans (congrArg nI (by omega))
      rw [e_k] at hl
      exact LOOP_38 (64 - 0 + 1) 0 (-9) _ _ _ (Nat.zero_le _) (by omega) rfl hP hD hS (lv_sub hl [0, 1, 2, 3, 4, 5] rfl)
    · refine lv_iconst (v := (-1)) hx hb dX8_keepFrom_20 (by decide) ?_
      have e_0 : (f_X8_keepFrom_th uP a1 a2) = 0 := by rw [f_X8_keepFrom_th, if_pos c_1, if_neg c_3]
      exact mu_reti CF hQ hr hlk rfl hP hS dX8_keepFrom_21 (by rw [f_X8_keepFrom, if_pos c_1, if_neg c_3]) (by rw [e_0])
def S_X8_learn_38 (uR : Nat) (ur : Nat → Int32) (pg : Nat → Int32) (a1 : Int32) (a2 : Int32) (k38 : Nat) (x38_0 : Int32) : (Int32) :=
  (if (f_X8_has (nI k38) a2) = 0 then (if (f_X8_has ((B_X8_closed_4 uR ur ((pg (0 + a1.toNatClampNeg)) ||| (nI k38)) 4)) a2) = 0 then x38_0 else (if x38_0 = (-9) then (nI k38) else (if ((B_X8_many_4 x38_0 0 6)) ≤ ((B_X8_many_4 (nI k38) 0 6)) then x38_0 else (nI k38)))) else x38_0)
def B_X8_learn_38 (uR : Nat) (ur : Nat → Int32) (pg : Nat → Int32) (a1 : Int32) (a2 : Int32) (i0 : Int32) : Nat → (Int32)
  | 0 => i0
  | k + 1 => S_X8_learn_38 uR ur pg a1 a2 k (B_X8_learn_38 uR ur pg a1 a2 i0 k)
def f_X8_learn (uP : Nat) (uR : Nat) (ur : Nat → Int32) (pg : Nat → Int32) (a1 : Int32) (a2 : Int32) : Int32 :=
  (if (f_X8_noPerson uP a1) = 0 then (if (f_X8_noFact a2) = 0 then ((B_X8_learn_38 uR ur pg a1 a2 (-9) 64)) else (-1)) else (-1))
def f_X8_learn_th (uP : Nat) (a1 : Int32) (a2 : Int32) : Int32 :=
  (if (f_X8_noPerson uP a1) = 0 then (if (f_X8_noFact a2) = 0 then 0 else 0) else 0)
set_option maxRecDepth 100000 in
set_option maxHeartbeats 4000000 in
theorem c_X8_learn (l : Launch) (D : va_G) (cI cZ : ClassId) (q0 y1 y2 y3 y4 y5 y6 y7 y8 y9 y10 y11 y12 y13 y14 : Nat) (th : Int32) (uT : Nat) (up : Nat) (uP : Nat) (uR : Nat) (vP : Nat) (vR : Nat) (ua : Nat) (us : Nat) (sd : Int64) (z1 : Int32) (z2 : Int32) (z3 : Int32) (z4 : Int32) (z5 : Int32) (z6 : Int32) (z7 : Int32) (ur : Nat → Int32) (pg : Nat → Int32) (a1 : Int32) (a2 : Int32) (hu5 : uP ≤ 5) (hur : uR ≤ 4) : MU l D cI cZ yX8_learn cX8_learn 7 (some .int) (mR 2 46) [.ref q0, .int a1, .int a2] [(q0, .inr (8, [.int th, .ref y1, .int (nI uT), .int (nI up), .int (nI uP), .ref y2, .int (nI uR), .ref y3, .int (nI vP), .ref y4, .ref y5, .int (nI vR), .ref y6, .ref y7, .ref y8, .ref y9, .int (nI ua), .ref y10, .ref y11, .int (nI us), .ref y12, .ref y13, .long sd, .int z1, .int z2, .int z3, .int z4, .int z5, .int z6, .int z7, .ref y14])), (y3, .inl (cI, 12, .inl ur)), (y7, .inl (cI, 15, .inl pg))] [(q0, .inr (8, [.int (f_X8_learn_th uP a1 a2), .ref y1, .int (nI uT), .int (nI up), .int (nI uP), .ref y2, .int (nI uR), .ref y3, .int (nI vP), .ref y4, .ref y5, .int (nI vR), .ref y6, .ref y7, .ref y8, .ref y9, .int (nI ua), .ref y10, .ref y11, .int (nI us), .ref y12, .ref y13, .long sd, .int z1, .int z2, .int z3, .int z4, .int z5, .int z6, .int z7, .ref y14])), (y3, .inl (cI, 12, .inl ur)), (y7, .inl (cI, 15, .inl pg))] (some (.int (f_X8_learn uP uR ur pg a1 a2))) := by
  refine MU.of (by decide +kernel) (Nat.le_of_ble_eq_true rfl) ?_
  intro p e s m args below meth c ls Q A CF hr hlk hP hE hD hS hQ hl
  have hx := CF.1
  have hb := CF.2.1
  have hl : lv_has ls 7 [(0, .ref q0), (1, .int a1), (2, .int a2)] := hl
  refine lv_aload_n hx hb dX8_learn_0 rfl (lv_at hl 0 rfl) ?_
  refine lv_iconst (v := 0) hx hb dX8_learn_1 (by decide) ?_
  refine r_put (C := RX8) (T := TX8) (N := 31) (ws' := [(q0, .inr (8, [.int 0, .ref y1, .int (nI uT), .int (nI up), .int (nI uP), .ref y2, .int (nI uR), .ref y3, .int (nI vP), .ref y4, .ref y5, .int (nI vR), .ref y6, .ref y7, .ref y8, .ref y9, .int (nI ua), .ref y10, .ref y11, .int (nI us), .ref y12, .ref y13, .long sd, .int z1, .int z2, .int z3, .int z4, .int z5, .int z6, .int z7, .ref y14])), (y3, .inl (cI, 12, .inl ur)), (y7, .inl (cI, 15, .inl pg))]) CF hE hP hD hS 0 rfl rfl inG8 tyX8 tyX8_ok nmX8 0 (by decide) tw_3_115 rfl rfl rfl rfl (Nat.le_of_ble_eq_true rfl) dX8_learn_2 rfl (fun H locs hP hD hS => ?_)
  refine lv_aload_n hx hb dX8_learn_5 rfl (lv_at hl 0 rfl) ?_
  refine lv_iload_n hx hb dX8_learn_6 rfl (lv_at hl 1 rfl) ?_
  refine ro_V (y := yX8_noPerson) (As := [.int a1]) (rest := []) (q0 := 0) CF (c_X8_noPerson l D cI cZ q0 y1 y2 y3 y4 y5 y6 y7 y8 y9 y10 y11 y12 y13 y14 0 uT up uP uR vP vR ua us sd z1 z2 z3 z4 z5 z6 z7 a1) lk_X8_127 hP hE [0] rfl rfl rfl rfl hl.1 rfl (Nat.le_of_ble_eq_true rfl) ⟨Nat.le_of_ble_eq_true rfl, Nat.le_of_ble_eq_true rfl, rfl, rfl⟩ ⟨Nat.zero_le _, Nat.zero_le _⟩ dX8_learn_7 ?_
  refine lv_if_ne (tgt := 20) hx hb dX8_learn_10 (by decide) (fun c_1 => ?_) (fun c_1 => ?_)
  · refine lv_iconst (v := (-1)) hx hb dX8_learn_20 (by decide) ?_
    have e_0 : (f_X8_learn_th uP a1 a2) = 0 := by rw [f_X8_learn_th, if_neg c_1]
    exact mu_reti CF hQ hr hlk rfl hP hS dX8_learn_21 (by rw [f_X8_learn, if_neg c_1]) (by rw [e_0])
  · have np_2 := noPerson_tn (a1 := a1) hu5 c_1
    have np_2l := np_2.2
    refine lv_iload_n hx hb dX8_learn_13 rfl (lv_at hl 2 rfl) ?_
    refine ro_S (y := yX8_noFact) (As := [.int a2]) (rest := []) CF (c_X8_noFact l D cI cZ a2) lk_X8_148 hE rfl hl.1 rfl (Nat.le_of_ble_eq_true rfl) ⟨Nat.le_of_ble_eq_true rfl, Nat.le_of_ble_eq_true rfl, rfl, rfl⟩ ⟨Nat.zero_le _, Nat.zero_le _⟩ dX8_learn_14 ?_
    refine lv_if_eq (tgt := 22) hx hb dX8_learn_17 (by decide) (fun c_3 => ?_) (fun c_3 => ?_)
    · refine lv_aload_n hx hb dX8_learn_22 rfl (lv_at hl 0 rfl) ?_
      refine r_get (C := RX8) (T := TX8) (N := 31) (v := .ref y7) CF hE hP 0 rfl rfl inG8 13 (by decide) tw_3_128 rfl rfl dX8_learn_23 ?_
      refine lv_iconst (v := 0) hx hb dX8_learn_26 (by decide) ?_
      refine lv_iload_n hx hb dX8_learn_27 rfl (lv_at hl 1 rfl) ?_
      refine lv_iadd hx hb dX8_learn_28 ?_
      refine r_iald (k := 15) (f := pg) CF hE hP 2 rfl (0 + a1.toNatClampNeg) (nf_add (nf_c 0) np_2.1) (by omega) (by decide) dX8_learn_29 ?_
      refine lv_istore_n (lv' := [(3, .int (pg (0 + a1.toNatClampNeg))), (0, .ref q0), (1, .int a1), (2, .int a2)]) hx hb dX8_learn_30 rfl hl (by decide) rfl (fun ls hl => ?_)
      refine lv_bipush (v := (-9)) hx hb dX8_learn_31 (by decide) ?_
      refine lv_istore (lv' := [(4, .int (-9)), (3, .int (pg (0 + a1.toNatClampNeg))), (0, .ref q0), (1, .int a1), (2, .int a2)]) hx hb dX8_learn_33 hl (by decide) rfl (fun ls hl => ?_)
      refine lv_iconst (v := 0) hx hb dX8_learn_35 (by decide) ?_
      refine lv_istore (lv' := [(5, .int 0), (4, .int (-9)), (3, .int (pg (0 + a1.toNatClampNeg))), (0, .ref q0), (1, .int a1), (2, .int a2)]) hx hb dX8_learn_36 hl (by decide) rfl (fun ls hl => ?_)
      have LOOP_38 : ∀ (n_38 k38 : Nat) (x38_0 : Int32) (H : Heap) (locs : List Loc) (ls : Array Slot), k38 ≤ 64 → 64 - k38 < n_38 → (B_X8_learn_38 uR ur pg a1 a2 (-9) k38) = x38_0 → va_P D vwCl [(q0, .inr (8, [.int 0, .ref y1, .int (nI uT), .int (nI up), .int (nI uP), .ref y2, .int (nI uR), .ref y3, .int (nI vP), .ref y4, .ref y5, .int (nI vR), .ref y6, .ref y7, .ref y8, .ref y9, .int (nI ua), .ref y10, .ref y11, .int (nI us), .ref y12, .ref y13, .long sd, .int z1, .int z2, .int z3, .int z4, .int z5, .int z6, .int z7, .ref y14])), (y3, .inl (cI, 12, .inl ur)), (y7, .inl (cI, 15, .inl pg))] H → va_D A [(q0, .inr (8, [.int 0, .ref y1, .int (nI uT), .int (nI up), .int (nI uP), .ref y2, .int (nI uR), .ref y3, .int (nI vP), .ref y4, .ref y5, .int (nI vR), .ref y6, .ref y7, .ref y8, .ref y9, .int (nI ua), .ref y10, .ref y11, .int (nI us), .ref y12, .ref y13, .long sd, .int z1, .int z2, .int z3, .int z4, .int z5, .int z6, .int z7, .ref y14])), (y3, .inl (cI, 12, .inl ur)), (y7, .inl (cI, 15, .inl pg))] → va_S A s.heap H locs → lv_has ls 7 [(5, .int (nI k38)), (4, .int x38_0), (3, .int (pg (0 + a1.toNatClampNeg))), (0, .ref q0), (1, .int a1), (2, .int a2)] → W p l e (mR 2 46) s m args below meth c H locs 0 0 Q (F0 m 38 ls []) := by
        intro n_38
        induction n_38 with
        | zero => intro k38 x38_0 H locs ls hk_38 hn_38 hB_38 hP hD hS hl; exact absurd hn_38 (Nat.not_lt_zero _)
        | succ n_38 ih_38 =>
          intro k38 x38_0 H locs ls hk_38 hn_38 hB_38 hP hD hS hl
          refine lv_iload hx hb dX8_learn_38 (lv_at hl 0 rfl) ?_
          refine lv_bipush (v := 63) hx hb dX8_learn_40 (by decide) ?_
          refine lv_icmp_gt (tgt := 116) hx hb dX8_learn_42 (by decide) (fun c_4 => ?_) (fun c_4 => ?_)
          · have o_4 : 63 < k38 := (clt (nf_c 63) (rfl : nI k38 = nI k38) (by omega) (by omega)).mp c_4
            have hkN : 64 = k38 := by omega
            subst hkN
            subst hB_38
            refine lv_iload hx hb dX8_learn_116 (lv_at hl 1 rfl) ?_
            have e_0 : (f_X8_learn_th uP a1 a2) = 0 := by rw [f_X8_learn_th, if_pos c_1, if_pos c_3]
            exact mu_reti CF hQ hr hlk rfl hP hS dX8_learn_118 (by rw [f_X8_learn, if_pos c_1, if_pos c_3]) (by rw [e_0])
          · have o_4 : ¬ 63 < k38 := fun h => c_4 ((clt (nf_c 63) (rfl : nI k38 = nI k38) (by omega) (by omega)).mpr h)
            refine lv_iload hx hb dX8_learn_45 (lv_at hl 0 rfl) ?_
            refine lv_iload_n hx hb dX8_learn_47 rfl (lv_at hl 5 rfl) ?_
            refine ro_S (y := yX8_has) (As := [.int (nI k38), .int a2]) (rest := []) CF (c_X8_has l D cI cZ (nI k38) a2) lk_X8_104 hE rfl hl.1 rfl (Nat.le_of_ble_eq_true rfl) ⟨Nat.le_of_ble_eq_true rfl, Nat.le_of_ble_eq_true rfl, rfl, rfl⟩ ⟨Nat.zero_le _, Nat.zero_le _⟩ dX8_learn_48 ?_
            refine lv_if_ne (tgt := 73) hx hb dX8_learn_51 (by decide) (fun c_5 => ?_) (fun c_5 => ?_)
            · refine lv_iconst (v := 0) hx hb dX8_learn_73 (by decide) ?_
              refine lv_istore (lv' := [(6, .int 0), (5, .int (nI k38)), (4, .int x38_0), (3, .int (pg (0 + a1.toNatClampNeg))), (0, .ref q0), (1, .int a1), (2, .int a2)]) hx hb dX8_learn_74 hl (by decide) rfl (fun ls hl => ?_)
              refine lv_iload hx hb dX8_learn_76 (lv_at hl 0 rfl) ?_
              refine lv_if_eq (tgt := 106) hx hb dX8_learn_78 (by decide) (fun _ => ?_) (fun c_6 => absurd c_6 (by decide))
              refine lv_iload hx hb dX8_learn_106 (lv_at hl 2 rfl) ?_
              refine lv_istore (lv' := [(4, .int x38_0), (6, .int 0), (5, .int (nI k38)), (3, .int (pg (0 + a1.toNatClampNeg))), (0, .ref q0), (1, .int a1), (2, .int a2)]) hx hb dX8_learn_108 hl (by decide) rfl (fun ls hl => ?_)
              refine lv_iinc (v := (nI (k38 + 1))) (lv' := [(5, .int (nI (k38 + 1))), (4, .int x38_0), (6, .int 0), (3, .int (pg (0 + a1.toNatClampNeg))), (0, .ref q0), (1, .int a1), (2, .int a2)]) hx hb dX8_learn_110 hl (k := 2) rfl (nf_inc 1 (rfl : nI k38 = nI k38)) (by decide) rfl (fun ls hl => ?_)
              refine lv_goto (tgt := 38) hx hb dX8_learn_113 (by decide) ?_
              have hB2 : B_X8_learn_38 uR ur pg a1 a2 (-9) (k38 + 1) = x38_0 := by
                rw [B_X8_learn_38, hB_38]
                rw [S_X8_learn_38, if_neg c_5]
              exact ih_38 (k38 + 1) x38_0 _ _ _ (by omega) (by omega) hB2 hP hD hS (lv_sub hl [0, 1, 3, 4, 5, 6] rfl)
            · refine lv_aload_n hx hb dX8_learn_54 rfl (lv_at hl 3 rfl) ?_
              refine lv_iload_n hx hb dX8_learn_55 rfl (lv_at hl 2 rfl) ?_
              refine lv_iload hx hb dX8_learn_56 (lv_at hl 0 rfl) ?_
              refine lv_ior hx hb dX8_learn_58 ?_
              refine ro_V (y := yX8_closed) (As := [.int ((pg (0 + a1.toNatClampNeg)) ||| (nI k38))]) (rest := []) (q0 := 0) CF (c_X8_closed l D cI cZ q0 y1 y2 y3 y4 y5 y6 y7 y8 y9 y10 y11 y12 y13 y14 0 uT up uP uR vP vR ua us sd z1 z2 z3 z4 z5 z6 z7 ur ((pg (0 + a1.toNatClampNeg)) ||| (nI k38)) (by omega)) lk_X8_116 hP hE [0, 1] rfl rfl rfl rfl hl.1 rfl (Nat.le_of_ble_eq_true rfl) ⟨Nat.le_of_ble_eq_true rfl, Nat.le_of_ble_eq_true rfl, rfl, rfl⟩ ⟨Nat.zero_le _, Nat.zero_le _⟩ dX8_learn_59 ?_
              refine lv_iload_n hx hb dX8_learn_62 rfl (lv_at hl 5 rfl) ?_
              refine ro_S (y := yX8_has) (As := [.int ((B_X8_closed_4 uR ur ((pg (0 + a1.toNatClampNeg)) ||| (nI k38)) 4)), .int a2]) (rest := []) CF (c_X8_has l D cI cZ ((B_X8_closed_4 uR ur ((pg (0 + a1.toNatClampNeg)) ||| (nI k38)) 4)) a2) lk_X8_104 hE rfl hl.1 rfl (Nat.le_of_ble_eq_true rfl) ⟨Nat.le_of_ble_eq_true rfl, Nat.le_of_ble_eq_true rfl, rfl, rfl⟩ ⟨Nat.zero_le _, Nat.zero_le _⟩ dX8_learn_63 ?_
              refine lv_if_eq (tgt := 73) hx hb dX8_learn_66 (by decide) (fun c_7 => ?_) (fun c_7 => ?_)
              · refine lv_iconst (v := 0) hx hb dX8_learn_73 (by decide) ?_
                refine lv_istore (lv' := [(6, .int 0), (5, .int (nI k38)), (4, .int x38_0), (3, .int (pg (0 + a1.toNatClampNeg))), (0, .ref q0), (1, .int a1), (2, .int a2)]) hx hb dX8_learn_74 hl (by decide) rfl (fun ls hl => ?_)
                refine lv_iload hx hb dX8_learn_76 (lv_at hl 0 rfl) ?_
                refine lv_if_eq (tgt := 106) hx hb dX8_learn_78 (by decide) (fun _ => ?_) (fun c_8 => absurd c_8 (by decide))
                refine lv_iload hx hb dX8_learn_106 (lv_at hl 2 rfl) ?_
                refine lv_istore (lv' := [(4, .int x38_0), (6, .int 0), (5, .int (nI k38)), (3, .int (pg (0 + a1.toNatClampNeg))), (0, .ref q0), (1, .int a1), (2, .int a2)]) hx hb dX8_learn_108 hl (by decide) rfl (fun ls hl => ?_)
                refine lv_iinc (v := (nI (k38 + 1))) (lv' := [(5, .int (nI (k38 + 1))), (4, .int x38_0), (6, .int 0), (3, .int (pg (0 + a1.toNatClampNeg))), (0, .ref q0), (1, .int a1), (2, .int a2)]) hx hb dX8_learn_110 hl (k := 2) rfl (nf_inc 1 (rfl : nI k38 = nI k38)) (by decide) rfl (fun ls hl => ?_)
                refine lv_goto (tgt := 38) hx hb dX8_learn_113 (by decide) ?_
                have hB2 : B_X8_learn_38 uR ur pg a1 a2 (-9) (k38 + 1) = x38_0 := by
                  rw [B_X8_learn_38, hB_38]
                  rw [S_X8_learn_38, if_pos c_5, if_pos c_7]
                exact ih_38 (k38 + 1) x38_0 _ _ _ (by omega) (by omega) hB2 hP hD hS (lv_sub hl [0, 1, 3, 4, 5, 6] rfl)
              · refine lv_iconst (v := 1) hx hb dX8_learn_69 (by decide) ?_
                refine lv_goto (tgt := 74) hx hb dX8_learn_70 (by decide) ?_
                refine lv_istore (lv' := [(6, .int 1), (5, .int (nI k38)), (4, .int x38_0), (3, .int (pg (0 + a1.toNatClampNeg))), (0, .ref q0), (1, .int a1), (2, .int a2)]) hx hb dX8_learn_74 hl (by decide) rfl (fun ls hl => ?_)
                refine lv_iload hx hb dX8_learn_76 (lv_at hl 0 rfl) ?_
                refine lv_if_eq (tgt := 106) hx hb dX8_learn_78 (by decide) (fun c_9 => absurd c_9 (by decide)) (fun _ => ?_)
                refine lv_iload hx hb dX8_learn_81 (lv_at hl 2 rfl) ?_
                refine lv_bipush (v := (-9)) hx hb dX8_learn_83 (by decide) ?_
                refine lv_icmp_eq (tgt := 101) hx hb dX8_learn_85 (by decide) (fun c_10 => ?_) (fun c_10 => ?_)
                · refine lv_iload hx hb dX8_learn_101 (lv_at hl 1 rfl) ?_
                  refine lv_goto (tgt := 108) hx hb dX8_learn_103 (by decide) ?_
                  refine lv_istore (lv' := [(4, .int (nI k38)), (6, .int 1), (5, .int (nI k38)), (3, .int (pg (0 + a1.toNatClampNeg))), (0, .ref q0), (1, .int a1), (2, .int a2)]) hx hb dX8_learn_108 hl (by decide) rfl (fun ls hl => ?_)
                  refine lv_iinc (v := (nI (k38 + 1))) (lv' := [(5, .int (nI (k38 + 1))), (4, .int (nI k38)), (6, .int 1), (3, .int (pg (0 + a1.toNatClampNeg))), (0, .ref q0), (1, .int a1), (2, .int a2)]) hx hb dX8_learn_110 hl (k := 2) rfl (nf_inc 1 (rfl : nI k38 = nI k38)) (by decide) rfl (fun ls hl => ?_)
                  refine lv_goto (tgt := 38) hx hb dX8_learn_113 (by decide) ?_
                  have hB2 : B_X8_learn_38 uR ur pg a1 a2 (-9) (k38 + 1) = (nI k38) := by
                    rw [B_X8_learn_38, hB_38]
                    rw [S_X8_learn_38, if_pos c_5, if_neg c_7, if_pos c_10]
                  exact ih_38 (k38 + 1) (nI k38) _ _ _ (by omega) (by omega) hB2 hP hD hS (lv_sub hl [0, 1, 3, 4, 5, 6] rfl)
                · refine lv_iload hx hb dX8_learn_88 (lv_at hl 1 rfl) ?_
                  refine ro_S (y := yX8_many) (As := [.int (nI k38)]) (rest := []) CF (c_X8_many l D cI cZ (nI k38)) lk_X8_145 hE rfl hl.1 rfl (Nat.le_of_ble_eq_true rfl) ⟨Nat.le_of_ble_eq_true rfl, Nat.le_of_ble_eq_true rfl, rfl, rfl⟩ ⟨Nat.zero_le _, Nat.zero_le _⟩ dX8_learn_90 ?_
                  refine lv_iload hx hb dX8_learn_93 (lv_at hl 2 rfl) ?_
                  refine ro_S (y := yX8_many) (As := [.int x38_0]) (rest := [.int ((B_X8_many_4 (nI k38) 0 6))]) CF (c_X8_many l D cI cZ x38_0) lk_X8_145 hE rfl hl.1 rfl (Nat.le_of_ble_eq_true rfl) ⟨Nat.le_of_ble_eq_true rfl, Nat.le_of_ble_eq_true rfl, rfl, rfl⟩ ⟨Nat.zero_le _, Nat.zero_le _⟩ dX8_learn_95 ?_
                  refine lv_icmp_ge (tgt := 106) hx hb dX8_learn_98 (by decide) (fun c_11 => ?_) (fun c_11 => ?_)
                  · refine lv_iload hx hb dX8_learn_106 (lv_at hl 2 rfl) ?_
                    refine lv_istore (lv' := [(4, .int x38_0), (6, .int 1), (5, .int (nI k38)), (3, .int (pg (0 + a1.toNatClampNeg))), (0, .ref q0), (1, .int a1), (2, .int a2)]) hx hb dX8_learn_108 hl (by decide) rfl (fun ls hl => ?_)
                    refine lv_iinc (v := (nI (k38 + 1))) (lv' := [(5, .int (nI (k38 + 1))), (4, .int x38_0), (6, .int 1), (3, .int (pg (0 + a1.toNatClampNeg))), (0, .ref q0), (1, .int a1), (2, .int a2)]) hx hb dX8_learn_110 hl (k := 2) rfl (nf_inc 1 (rfl : nI k38 = nI k38)) (by decide) rfl (fun ls hl => ?_)
                    refine lv_goto (tgt := 38) hx hb dX8_learn_113 (by decide) ?_
                    have hB2 : B_X8_learn_38 uR ur pg a1 a2 (-9) (k38 + 1) = x38_0 := by
                      rw [B_X8_learn_38, hB_38]
                      rw [S_X8_learn_38, if_pos c_5, if_neg c_7, if_neg c_10, if_pos c_11]
                    exact ih_38 (k38 + 1) x38_0 _ _ _ (by omega) (by omega) hB2 hP hD hS (lv_sub hl [0, 1, 3, 4, 5, 6] rfl)
                  · refine lv_iload hx hb dX8_learn_101 (lv_at hl 1 rfl) ?_
                    refine lv_goto (tgt := 108) hx hb dX8_learn_103 (by decide) ?_
                    refine lv_istore (lv' := [(4, .int (nI k38)), (6, .int 1), (5, .int (nI k38)), (3, .int (pg (0 + a1.toNatClampNeg))), (0, .ref q0), (1, .int a1), (2, .int a2)]) hx hb dX8_learn_108 hl (by decide) rfl (fun ls hl => ?_)
                    refine lv_iinc (v := (nI (k38 + 1))) (lv' := [(5, .int (nI (k38 + 1))), (4, .int (nI k38)), (6, .int 1), (3, .int (pg (0 + a1.toNatClampNeg))), (0, .ref q0), (1, .int a1), (2, .int a2)]) hx hb dX8_learn_110 hl (k := 2) rfl (nf_inc 1 (rfl : nI k38 = nI k38)) (by decide) rfl (fun ls hl => ?_)
                    refine lv_goto (tgt := 38) hx hb dX8_learn_113 (by decide) ?_
                    have hB2 : B_X8_learn_38 uR ur pg a1 a2 (-9) (k38 + 1) = (nI k38) := by
                      rw [B_X8_learn_38, hB_38]
                      rw [S_X8_learn_38, if_pos c_5, if_neg c_7, if_neg c_10, if_neg c_11]
                    exact ih_38 (k38 + 1) (nI k38) _ _ _ (by omega) (by omega) hB2 hP hD hS (lv_sub hl [0, 1, 3, 4, 5, 6] rfl)
      have e_k : 0 = nI (0) := (nf_c 0).trans (congrArg nI (by omega))
      rw [e_k] at hl
      exact LOOP_38 (64 - 0 + 1) 0 (-9) _ _ _ (Nat.zero_le _) (by omega) rfl hP hD hS (lv_sub hl [0, 1, 2, 3, 4, 5] rfl)
    · refine lv_iconst (v := (-1)) hx hb dX8_learn_20 (by decide) ?_
      have e_0 : (f_X8_learn_th uP a1 a2) = 0 := by rw [f_X8_learn_th, if_pos c_1, if_neg c_3]
      exact mu_reti CF hQ hr hlk rfl hP hS dX8_learn_21 (by rw [f_X8_learn, if_pos c_1, if_neg c_3]) (by rw [e_0])
def f_X8_see (us : Nat) (a1 : Int32) (a2 : Int32) : Int32 :=
  (if (f_X8_noFact a1) = 0 then (if (f_X8_in a2.toInt64 0 1) = 0 then (-2) else (if (nI us) = 6 then (-4) else (nI (us + 1)))) else (-1))
def f_X8_see_th (us : Nat) (a1 : Int32) (a2 : Int32) : Int32 :=
  (if (f_X8_noFact a1) = 0 then (if (f_X8_in a2.toInt64 0 1) = 0 then 0 else (if (nI us) = 6 then 0 else 0)) else 0)
def f_X8_see_sF (us : Nat) (sF : Nat → Int32) (a1 : Int32) (a2 : Int32) : Nat → Int32 :=
  (if (f_X8_noFact a1) = 0 then (if (f_X8_in a2.toInt64 0 1) = 0 then sF else (if (nI us) = 6 then sF else (upd sF us a1))) else sF)
def f_X8_see_sS (us : Nat) (sS : Nat → Int32) (a1 : Int32) (a2 : Int32) : Nat → Int32 :=
  (if (f_X8_noFact a1) = 0 then (if (f_X8_in a2.toInt64 0 1) = 0 then sS else (if (nI us) = 6 then sS else (upd sS us a2))) else sS)
def f_X8_see_us (us : Nat) (a1 : Int32) (a2 : Int32) : Nat :=
  (if (f_X8_noFact a1) = 0 then (if (f_X8_in a2.toInt64 0 1) = 0 then us else (if (nI us) = 6 then us else (us + 1))) else us)
set_option maxRecDepth 100000 in
set_option maxHeartbeats 4000000 in
theorem c_X8_see (l : Launch) (D : va_G) (cI cZ : ClassId) (q0 y1 y2 y3 y4 y5 y6 y7 y8 y9 y10 y11 y12 y13 y14 : Nat) (th : Int32) (uT : Nat) (up : Nat) (uP : Nat) (uR : Nat) (vP : Nat) (vR : Nat) (ua : Nat) (us : Nat) (sd : Int64) (z1 : Int32) (z2 : Int32) (z3 : Int32) (z4 : Int32) (z5 : Int32) (z6 : Int32) (z7 : Int32) (sF : Nat → Int32) (sS : Nat → Int32) (a1 : Int32) (a2 : Int32) (hus : us ≤ 6) : MU l D cI cZ yX8_see cX8_see 3 (some .int) (mR 2 45) [.ref q0, .int a1, .int a2] [(q0, .inr (8, [.int th, .ref y1, .int (nI uT), .int (nI up), .int (nI uP), .ref y2, .int (nI uR), .ref y3, .int (nI vP), .ref y4, .ref y5, .int (nI vR), .ref y6, .ref y7, .ref y8, .ref y9, .int (nI ua), .ref y10, .ref y11, .int (nI us), .ref y12, .ref y13, .long sd, .int z1, .int z2, .int z3, .int z4, .int z5, .int z6, .int z7, .ref y14])), (y12, .inl (cI, 6, .inl sF)), (y13, .inl (cI, 6, .inl sS))] [(q0, .inr (8, [.int (f_X8_see_th us a1 a2), .ref y1, .int (nI uT), .int (nI up), .int (nI uP), .ref y2, .int (nI uR), .ref y3, .int (nI vP), .ref y4, .ref y5, .int (nI vR), .ref y6, .ref y7, .ref y8, .ref y9, .int (nI ua), .ref y10, .ref y11, .int (nI (f_X8_see_us us a1 a2)), .ref y12, .ref y13, .long sd, .int z1, .int z2, .int z3, .int z4, .int z5, .int z6, .int z7, .ref y14])), (y12, .inl (cI, 6, .inl (f_X8_see_sF us sF a1 a2))), (y13, .inl (cI, 6, .inl (f_X8_see_sS us sS a1 a2)))] (some (.int (f_X8_see us a1 a2))) := by
  refine MU.of (by decide +kernel) (Nat.le_of_ble_eq_true rfl) ?_
  intro p e s m args below meth c ls Q A CF hr hlk hP hE hD hS hQ hl
  have hx := CF.1
  have hb := CF.2.1
  have hl : lv_has ls 3 [(0, .ref q0), (1, .int a1), (2, .int a2)] := hl
  refine lv_aload_n hx hb dX8_see_0 rfl (lv_at hl 0 rfl) ?_
  refine lv_iconst (v := 0) hx hb dX8_see_1 (by decide) ?_
  refine r_put (C := RX8) (T := TX8) (N := 31) (ws' := [(q0, .inr (8, [.int 0, .ref y1, .int (nI uT), .int (nI up), .int (nI uP), .ref y2, .int (nI uR), .ref y3, .int (nI vP), .ref y4, .ref y5, .int (nI vR), .ref y6, .ref y7, .ref y8, .ref y9, .int (nI ua), .ref y10, .ref y11, .int (nI us), .ref y12, .ref y13, .long sd, .int z1, .int z2, .int z3, .int z4, .int z5, .int z6, .int z7, .ref y14])), (y12, .inl (cI, 6, .inl sF)), (y13, .inl (cI, 6, .inl sS))]) CF hE hP hD hS 0 rfl rfl inG8 tyX8 tyX8_ok nmX8 0 (by decide) tw_3_115 rfl rfl rfl rfl (Nat.le_of_ble_eq_true rfl) dX8_see_2 rfl (fun H locs hP hD hS => ?_)
  refine lv_iload_n hx hb dX8_see_5 rfl (lv_at hl 1 rfl) ?_
  refine ro_S (y := yX8_noFact) (As := [.int a1]) (rest := []) CF (c_X8_noFact l D cI cZ a1) lk_X8_148 hE rfl hl.1 rfl (Nat.le_of_ble_eq_true rfl) ⟨Nat.le_of_ble_eq_true rfl, Nat.le_of_ble_eq_true rfl, rfl, rfl⟩ ⟨Nat.zero_le _, Nat.zero_le _⟩ dX8_see_6 ?_
  refine lv_if_eq (tgt := 14) hx hb dX8_see_9 (by decide) (fun c_1 => ?_) (fun c_1 => ?_)
  · refine lv_iload_n hx hb dX8_see_14 rfl (lv_at hl 2 rfl) ?_
    refine lv_i2l (v := a2.toInt64) hx hb dX8_see_15 rfl ?_
    refine lv_lconst (v := 0) hx hb dX8_see_16 (by decide) ?_
    refine lv_lconst (v := 1) hx hb dX8_see_17 (by decide) ?_
    refine ro_S (y := yX8_in) (As := [.long a2.toInt64, .long 0, .long 1]) (rest := []) CF (c_X8_in l D cI cZ a2.toInt64 0 1) lk_X8_60 hE rfl hl.1 rfl (Nat.le_of_ble_eq_true rfl) ⟨Nat.le_of_ble_eq_true rfl, Nat.le_of_ble_eq_true rfl, rfl, rfl⟩ ⟨Nat.zero_le _, Nat.zero_le _⟩ dX8_see_18 ?_
    refine lv_if_ne (tgt := 27) hx hb dX8_see_21 (by decide) (fun c_2 => ?_) (fun c_2 => ?_)
    · have ni_3 : (0 : Int32) ≤ a2 ∧ a2 ≤ nI 1 := in_ne (a := 0) (b := nI 1) c_2
      have ni_3n := rng_tn ni_3 (by decide) (by decide)
      have ni_3l := ni_3n.2
      refine lv_aload_n hx hb dX8_see_27 rfl (lv_at hl 0 rfl) ?_
      refine r_get (C := RX8) (T := TX8) (N := 31) (v := .int (nI us)) CF hE hP 0 rfl rfl inG8 19 (by decide) tw_3_134 rfl rfl dX8_see_28 ?_
      refine lv_bipush (v := 6) hx hb dX8_see_31 (by decide) ?_
      refine lv_icmp_ne (tgt := 39) hx hb dX8_see_33 (by decide) (fun c_4 => ?_) (fun c_4 => ?_)
      · have o_4 : ¬ us = 6 := fun h => c_4 ((ceq (rfl : nI us = nI us) (nf_c 6) (by omega) (by omega)).mpr h)
        refine lv_aload_n hx hb dX8_see_39 rfl (lv_at hl 0 rfl) ?_
        refine r_get (C := RX8) (T := TX8) (N := 31) (v := .ref y12) CF hE hP 0 rfl rfl inG8 20 (by decide) tw_3_135 rfl rfl dX8_see_40 ?_
        refine lv_aload_n hx hb dX8_see_43 rfl (lv_at hl 0 rfl) ?_
        refine r_get (C := RX8) (T := TX8) (N := 31) (v := .int (nI us)) CF hE hP 0 rfl rfl inG8 19 (by decide) tw_3_134 rfl rfl dX8_see_44 ?_
        refine lv_iload_n hx hb dX8_see_47 rfl (lv_at hl 1 rfl) ?_
        refine r_iast (k := 6) (f := sF) (ws' := [(q0, .inr (8, [.int 0, .ref y1, .int (nI uT), .int (nI up), .int (nI uP), .ref y2, .int (nI uR), .ref y3, .int (nI vP), .ref y4, .ref y5, .int (nI vR), .ref y6, .ref y7, .ref y8, .ref y9, .int (nI ua), .ref y10, .ref y11, .int (nI us), .ref y12, .ref y13, .long sd, .int z1, .int z2, .int z3, .int z4, .int z5, .int z6, .int z7, .ref y14])), (y12, .inl (cI, 6, .inl (upd sF us a1))), (y13, .inl (cI, 6, .inl sS))]) CF hE hP hD hS 1 rfl us (rfl : nI us = nI us) (by omega) (by decide) dX8_see_48 rfl (fun H locs hP hD hS => ?_)
        refine lv_aload_n hx hb dX8_see_49 rfl (lv_at hl 0 rfl) ?_
        refine r_get (C := RX8) (T := TX8) (N := 31) (v := .ref y13) CF hE hP 0 rfl rfl inG8 21 (by decide) tw_3_136 rfl rfl dX8_see_50 ?_
        refine lv_aload_n hx hb dX8_see_53 rfl (lv_at hl 0 rfl) ?_
        refine r_get (C := RX8) (T := TX8) (N := 31) (v := .int (nI us)) CF hE hP 0 rfl rfl inG8 19 (by decide) tw_3_134 rfl rfl dX8_see_54 ?_
        refine lv_iload_n hx hb dX8_see_57 rfl (lv_at hl 2 rfl) ?_
        refine r_iast (k := 6) (f := sS) (ws' := [(q0, .inr (8, [.int 0, .ref y1, .int (nI uT), .int (nI up), .int (nI uP), .ref y2, .int (nI uR), .ref y3, .int (nI vP), .ref y4, .ref y5, .int (nI vR), .ref y6, .ref y7, .ref y8, .ref y9, .int (nI ua), .ref y10, .ref y11, .int (nI us), .ref y12, .ref y13, .long sd, .int z1, .int z2, .int z3, .int z4, .int z5, .int z6, .int z7, .ref y14])), (y12, .inl (cI, 6, .inl (upd sF us a1))), (y13, .inl (cI, 6, .inl (upd sS us a2)))]) CF hE hP hD hS 2 rfl us (rfl : nI us = nI us) (by omega) (by decide) dX8_see_58 rfl (fun H locs hP hD hS => ?_)
        refine lv_aload_n hx hb dX8_see_59 rfl (lv_at hl 0 rfl) ?_
        refine lv_dup hx hb dX8_see_60 rfl ?_
        refine r_get (C := RX8) (T := TX8) (N := 31) (v := .int (nI us)) CF hE hP 0 rfl rfl inG8 19 (by decide) tw_3_134 rfl rfl dX8_see_61 ?_
        refine lv_iconst (v := 1) hx hb dX8_see_64 (by decide) ?_
        refine lv_iadd hx hb dX8_see_65 ?_
        refine lv_as (z := (nI (us + 1))) (nf_add (rfl : nI us = nI us) (nf_c 1)) ?_
        refine r_put (C := RX8) (T := TX8) (N := 31) (ws' := [(q0, .inr (8, [.int 0, .ref y1, .int (nI uT), .int (nI up), .int (nI uP), .ref y2, .int (nI uR), .ref y3, .int (nI vP), .ref y4, .ref y5, .int (nI vR), .ref y6, .ref y7, .ref y8, .ref y9, .int (nI ua), .ref y10, .ref y11, .int (nI (us + 1)), .ref y12, .ref y13, .long sd, .int z1, .int z2, .int z3, .int z4, .int z5, .int z6, .int z7, .ref y14])), (y12, .inl (cI, 6, .inl (upd sF us a1))), (y13, .inl (cI, 6, .inl (upd sS us a2)))]) CF hE hP hD hS 0 rfl rfl inG8 tyX8 tyX8_ok nmX8 19 (by decide) tw_3_134 rfl rfl rfl rfl (Nat.le_of_ble_eq_true rfl) dX8_see_66 rfl (fun H locs hP hD hS => ?_)
        refine lv_aload_n hx hb dX8_see_69 rfl (lv_at hl 0 rfl) ?_
        refine r_get (C := RX8) (T := TX8) (N := 31) (v := .int (nI (us + 1))) CF hE hP 0 rfl rfl inG8 19 (by decide) tw_3_134 rfl rfl dX8_see_70 ?_
        have e_0 : (f_X8_see_th us a1 a2) = 0 := by rw [f_X8_see_th, if_pos c_1, if_neg c_2, if_neg c_4]
        have e_1 : (f_X8_see_sF us sF a1 a2) = (upd sF us a1) := by rw [f_X8_see_sF, if_pos c_1, if_neg c_2, if_neg c_4]
        have e_2 : (f_X8_see_sS us sS a1 a2) = (upd sS us a2) := by rw [f_X8_see_sS, if_pos c_1, if_neg c_2, if_neg c_4]
        have e_3 : (f_X8_see_us us a1 a2) = (us + 1) := by rw [f_X8_see_us, if_pos c_1, if_neg c_2, if_neg c_4]
        exact mu_reti CF hQ hr hlk rfl hP hS dX8_see_73 (by rw [f_X8_see, if_pos c_1, if_neg c_2, if_neg c_4]) (by rw [e_0, e_1, e_2, e_3])
      · have o_4 : us = 6 := (ceq (rfl : nI us = nI us) (nf_c 6) (by omega) (by omega)).mp c_4
        refine lv_bipush (v := (-4)) hx hb dX8_see_36 (by decide) ?_
        have e_0 : (f_X8_see_th us a1 a2) = 0 := by rw [f_X8_see_th, if_pos c_1, if_neg c_2, if_pos c_4]
        have e_1 : (f_X8_see_sF us sF a1 a2) = sF := by rw [f_X8_see_sF, if_pos c_1, if_neg c_2, if_pos c_4]
        have e_2 : (f_X8_see_sS us sS a1 a2) = sS := by rw [f_X8_see_sS, if_pos c_1, if_neg c_2, if_pos c_4]
        have e_3 : (f_X8_see_us us a1 a2) = us := by rw [f_X8_see_us, if_pos c_1, if_neg c_2, if_pos c_4]
        exact mu_reti CF hQ hr hlk rfl hP hS dX8_see_38 (by rw [f_X8_see, if_pos c_1, if_neg c_2, if_pos c_4]) (by rw [e_0, e_1, e_2, e_3])
    · refine lv_bipush (v := (-2)) hx hb dX8_see_24 (by decide) ?_
      have e_0 : (f_X8_see_th us a1 a2) = 0 := by rw [f_X8_see_th, if_pos c_1, if_pos c_2]
      have e_1 : (f_X8_see_sF us sF a1 a2) = sF := by rw [f_X8_see_sF, if_pos c_1, if_pos c_2]
      have e_2 : (f_X8_see_sS us sS a1 a2) = sS := by rw [f_X8_see_sS, if_pos c_1, if_pos c_2]
      have e_3 : (f_X8_see_us us a1 a2) = us := by rw [f_X8_see_us, if_pos c_1, if_pos c_2]
      exact mu_reti CF hQ hr hlk rfl hP hS dX8_see_26 (by rw [f_X8_see, if_pos c_1, if_pos c_2]) (by rw [e_0, e_1, e_2, e_3])
  · refine lv_iconst (v := (-1)) hx hb dX8_see_12 (by decide) ?_
    have e_0 : (f_X8_see_th us a1 a2) = 0 := by rw [f_X8_see_th, if_neg c_1]
    have e_1 : (f_X8_see_sF us sF a1 a2) = sF := by rw [f_X8_see_sF, if_neg c_1]
    have e_2 : (f_X8_see_sS us sS a1 a2) = sS := by rw [f_X8_see_sS, if_neg c_1]
    have e_3 : (f_X8_see_us us a1 a2) = us := by rw [f_X8_see_us, if_neg c_1]
    exact mu_reti CF hQ hr hlk rfl hP hS dX8_see_13 (by rw [f_X8_see, if_neg c_1]) (by rw [e_0, e_1, e_2, e_3])
set_option maxRecDepth 100000 in
set_option maxHeartbeats 4000000 in
theorem c_X8_unsee (l : Launch) (D : va_G) (cI cZ : ClassId) (q0 y1 y2 y3 y4 y5 y6 y7 y8 y9 y10 y11 y12 y13 y14 : Nat) (th : Int32) (uT : Nat) (up : Nat) (uP : Nat) (uR : Nat) (vP : Nat) (vR : Nat) (ua : Nat) (us : Nat) (sd : Int64) (z1 : Int32) (z2 : Int32) (z3 : Int32) (z4 : Int32) (z5 : Int32) (z6 : Int32) (z7 : Int32) : MU l D cI cZ yX8_unsee cX8_unsee 2 (some .int) (mR 0 0) [.ref q0] [(q0, .inr (8, [.int th, .ref y1, .int (nI uT), .int (nI up), .int (nI uP), .ref y2, .int (nI uR), .ref y3, .int (nI vP), .ref y4, .ref y5, .int (nI vR), .ref y6, .ref y7, .ref y8, .ref y9, .int (nI ua), .ref y10, .ref y11, .int (nI us), .ref y12, .ref y13, .long sd, .int z1, .int z2, .int z3, .int z4, .int z5, .int z6, .int z7, .ref y14]))] [(q0, .inr (8, [.int 0, .ref y1, .int (nI uT), .int (nI up), .int (nI uP), .ref y2, .int (nI uR), .ref y3, .int (nI vP), .ref y4, .ref y5, .int (nI vR), .ref y6, .ref y7, .ref y8, .ref y9, .int (nI ua), .ref y10, .ref y11, .int (nI 0), .ref y12, .ref y13, .long sd, .int z1, .int z2, .int z3, .int z4, .int z5, .int z6, .int z7, .ref y14]))] (some (.int (nI us))) := by
  refine MU.of (by decide +kernel) (Nat.le_of_ble_eq_true rfl) ?_
  intro p e s m args below meth c ls Q A CF hr hlk hP hE hD hS hQ hl
  have hx := CF.1
  have hb := CF.2.1
  have hl : lv_has ls 2 [(0, .ref q0)] := hl
  refine lv_aload_n hx hb dX8_unsee_0 rfl (lv_at hl 0 rfl) ?_
  refine lv_iconst (v := 0) hx hb dX8_unsee_1 (by decide) ?_
  refine r_put (C := RX8) (T := TX8) (N := 31) (ws' := [(q0, .inr (8, [.int 0, .ref y1, .int (nI uT), .int (nI up), .int (nI uP), .ref y2, .int (nI uR), .ref y3, .int (nI vP), .ref y4, .ref y5, .int (nI vR), .ref y6, .ref y7, .ref y8, .ref y9, .int (nI ua), .ref y10, .ref y11, .int (nI us), .ref y12, .ref y13, .long sd, .int z1, .int z2, .int z3, .int z4, .int z5, .int z6, .int z7, .ref y14]))]) CF hE hP hD hS 0 rfl rfl inG8 tyX8 tyX8_ok nmX8 0 (by decide) tw_3_115 rfl rfl rfl rfl (Nat.le_of_ble_eq_true rfl) dX8_unsee_2 rfl (fun H locs hP hD hS => ?_)
  refine lv_aload_n hx hb dX8_unsee_5 rfl (lv_at hl 0 rfl) ?_
  refine r_get (C := RX8) (T := TX8) (N := 31) (v := .int (nI us)) CF hE hP 0 rfl rfl inG8 19 (by decide) tw_3_134 rfl rfl dX8_unsee_6 ?_
  refine lv_istore_n (lv' := [(1, .int (nI us)), (0, .ref q0)]) hx hb dX8_unsee_9 rfl hl (by decide) rfl (fun ls hl => ?_)
  refine lv_aload_n hx hb dX8_unsee_10 rfl (lv_at hl 1 rfl) ?_
  refine lv_iconst (v := 0) hx hb dX8_unsee_11 (by decide) ?_
  refine lv_as (z := (nI 0)) (nf_c 0) ?_
  refine r_put (C := RX8) (T := TX8) (N := 31) (ws' := [(q0, .inr (8, [.int 0, .ref y1, .int (nI uT), .int (nI up), .int (nI uP), .ref y2, .int (nI uR), .ref y3, .int (nI vP), .ref y4, .ref y5, .int (nI vR), .ref y6, .ref y7, .ref y8, .ref y9, .int (nI ua), .ref y10, .ref y11, .int (nI 0), .ref y12, .ref y13, .long sd, .int z1, .int z2, .int z3, .int z4, .int z5, .int z6, .int z7, .ref y14]))]) CF hE hP hD hS 0 rfl rfl inG8 tyX8 tyX8_ok nmX8 19 (by decide) tw_3_134 rfl rfl rfl rfl (Nat.le_of_ble_eq_true rfl) dX8_unsee_12 rfl (fun H locs hP hD hS => ?_)
  refine lv_iload_n hx hb dX8_unsee_15 rfl (lv_at hl 0 rfl) ?_
  exact mu_reti CF hQ hr hlk rfl hP hS dX8_unsee_16 rfl rfl
def S_X8_findMinds_35 (uR : Nat) (ur : Nat → Int32) (sF : Nat → Int32) (sS : Nat → Int32) (k18 : Nat) (k35 : Nat) (x35_0 : Int32) : (Int32) :=
  (if x35_0 = 0 then 0 else (if (sS k35) = 1 then (if (f_X8_has ((B_X8_closed_4 uR ur (nI k18) 4)) (sF k35)) = 1 then 1 else 0) else (if (f_X8_has ((B_X8_closed_4 uR ur (nI k18) 4)) (sF k35)) = 0 then 1 else 0)))
def B_X8_findMinds_35 (uR : Nat) (ur : Nat → Int32) (sF : Nat → Int32) (sS : Nat → Int32) (k18 : Nat) (i0 : Int32) : Nat → (Int32)
  | 0 => i0
  | k + 1 => S_X8_findMinds_35 uR ur sF sS k18 k (B_X8_findMinds_35 uR ur sF sS k18 i0 k)
def S_X8_findMinds_18 (uR : Nat) (us : Nat) (ur : Nat → Int32) (sF : Nat → Int32) (sS : Nat → Int32) (k18 : Nat) (x18_0 : Int32) (x18_1 : Int32) (x18_2 : Int32) : (Int32) × (Int32) × (Int32) :=
  (if ((B_X8_findMinds_35 uR ur sF sS k18 1 us)) = 0 then (x18_0, x18_1, x18_2) else ((x18_0 + 1), (x18_1 &&& ((B_X8_closed_4 uR ur (nI k18) 4))), (x18_2 ||| ((B_X8_closed_4 uR ur (nI k18) 4)))))
def B_X8_findMinds_18 (uR : Nat) (us : Nat) (ur : Nat → Int32) (sF : Nat → Int32) (sS : Nat → Int32) (i0 : Int32) (i1 : Int32) (i2 : Int32) : Nat → (Int32) × (Int32) × (Int32)
  | 0 => (i0, i1, i2)
  | k + 1 => S_X8_findMinds_18 uR us ur sF sS k (B_X8_findMinds_18 uR us ur sF sS i0 i1 i2 k).1 (B_X8_findMinds_18 uR us ur sF sS i0 i1 i2 k).2.1 (B_X8_findMinds_18 uR us ur sF sS i0 i1 i2 k).2.2
set_option maxRecDepth 100000 in
set_option maxHeartbeats 4000000 in
theorem c_X8_findMinds (l : Launch) (D : va_G) (cI cZ : ClassId) (q0 y1 y2 y3 y4 y5 y6 y7 y8 y9 y10 y11 y12 y13 y14 : Nat) (th : Int32) (uT : Nat) (up : Nat) (uP : Nat) (uR : Nat) (vP : Nat) (vR : Nat) (ua : Nat) (us : Nat) (sd : Int64) (z1 : Int32) (z2 : Int32) (z3 : Int32) (z4 : Int32) (z5 : Int32) (z6 : Int32) (z7 : Int32) (ur : Nat → Int32) (sF : Nat → Int32) (sS : Nat → Int32) (hur : uR ≤ 4) (hus : us ≤ 6) : MU l D cI cZ yX8_findMinds cX8_findMinds 5 none (mR 2 46) [.ref q0] [(q0, .inr (8, [.int th, .ref y1, .int (nI uT), .int (nI up), .int (nI uP), .ref y2, .int (nI uR), .ref y3, .int (nI vP), .ref y4, .ref y5, .int (nI vR), .ref y6, .ref y7, .ref y8, .ref y9, .int (nI ua), .ref y10, .ref y11, .int (nI us), .ref y12, .ref y13, .long sd, .int z1, .int z2, .int z3, .int z4, .int z5, .int z6, .int z7, .ref y14])), (y3, .inl (cI, 12, .inl ur)), (y12, .inl (cI, 6, .inl sF)), (y13, .inl (cI, 6, .inl sS))] [(q0, .inr (8, [.int th, .ref y1, .int (nI uT), .int (nI up), .int (nI uP), .ref y2, .int (nI uR), .ref y3, .int (nI vP), .ref y4, .ref y5, .int (nI vR), .ref y6, .ref y7, .ref y8, .ref y9, .int (nI ua), .ref y10, .ref y11, .int (nI us), .ref y12, .ref y13, .long sd, .int z1, .int z2, .int ((B_X8_findMinds_18 uR us ur sF sS 0 63 0 64).1), .int ((B_X8_findMinds_18 uR us ur sF sS 0 63 0 64).2.1), .int ((B_X8_findMinds_18 uR us ur sF sS 0 63 0 64).2.2), .int z6, .int z7, .ref y14])), (y3, .inl (cI, 12, .inl ur)), (y12, .inl (cI, 6, .inl sF)), (y13, .inl (cI, 6, .inl sS))] none := by
  refine MU.of (by decide +kernel) (Nat.le_of_ble_eq_true rfl) ?_
  intro p e s m args below meth c ls Q A CF hr hlk hP hE hD hS hQ hl
  have hx := CF.1
  have hb := CF.2.1
  have hl : lv_has ls 5 [(0, .ref q0)] := hl
  refine lv_aload_n hx hb dX8_findMinds_0 rfl (lv_at hl 0 rfl) ?_
  refine lv_iconst (v := 0) hx hb dX8_findMinds_1 (by decide) ?_
  refine r_put (C := RX8) (T := TX8) (N := 31) (ws' := [(q0, .inr (8, [.int th, .ref y1, .int (nI uT), .int (nI up), .int (nI uP), .ref y2, .int (nI uR), .ref y3, .int (nI vP), .ref y4, .ref y5, .int (nI vR), .ref y6, .ref y7, .ref y8, .ref y9, .int (nI ua), .ref y10, .ref y11, .int (nI us), .ref y12, .ref y13, .long sd, .int z1, .int z2, .int 0, .int z4, .int z5, .int z6, .int z7, .ref y14])), (y3, .inl (cI, 12, .inl ur)), (y12, .inl (cI, 6, .inl sF)), (y13, .inl (cI, 6, .inl sS))]) CF hE hP hD hS 0 rfl rfl inG8 tyX8 tyX8_ok nmX8 25 (by decide) tw_3_140 rfl rfl rfl rfl (Nat.le_of_ble_eq_true rfl) dX8_findMinds_2 rfl (fun H locs hP hD hS => ?_)
  refine lv_aload_n hx hb dX8_findMinds_5 rfl (lv_at hl 0 rfl) ?_
  refine lv_bipush (v := 63) hx hb dX8_findMinds_6 (by decide) ?_
  refine r_put (C := RX8) (T := TX8) (N := 31) (ws' := [(q0, .inr (8, [.int th, .ref y1, .int (nI uT), .int (nI up), .int (nI uP), .ref y2, .int (nI uR), .ref y3, .int (nI vP), .ref y4, .ref y5, .int (nI vR), .ref y6, .ref y7, .ref y8, .ref y9, .int (nI ua), .ref y10, .ref y11, .int (nI us), .ref y12, .ref y13, .long sd, .int z1, .int z2, .int 0, .int 63, .int z5, .int z6, .int z7, .ref y14])), (y3, .inl (cI, 12, .inl ur)), (y12, .inl (cI, 6, .inl sF)), (y13, .inl (cI, 6, .inl sS))]) CF hE hP hD hS 0 rfl rfl inG8 tyX8 tyX8_ok nmX8 26 (by decide) tw_3_141 rfl rfl rfl rfl (Nat.le_of_ble_eq_true rfl) dX8_findMinds_8 rfl (fun H locs hP hD hS => ?_)
  refine lv_aload_n hx hb dX8_findMinds_11 rfl (lv_at hl 0 rfl) ?_
  refine lv_iconst (v := 0) hx hb dX8_findMinds_12 (by decide) ?_
  refine r_put (C := RX8) (T := TX8) (N := 31) (ws' := [(q0, .inr (8, [.int th, .ref y1, .int (nI uT), .int (nI up), .int (nI uP), .ref y2, .int (nI uR), .ref y3, .int (nI vP), .ref y4, .ref y5, .int (nI vR), .ref y6, .ref y7, .ref y8, .ref y9, .int (nI ua), .ref y10, .ref y11, .int (nI us), .ref y12, .ref y13, .long sd, .int z1, .int z2, .int 0, .int 63, .int 0, .int z6, .int z7, .ref y14])), (y3, .inl (cI, 12, .inl ur)), (y12, .inl (cI, 6, .inl sF)), (y13, .inl (cI, 6, .inl sS))]) CF hE hP hD hS 0 rfl rfl inG8 tyX8 tyX8_ok nmX8 27 (by decide) tw_3_142 rfl rfl rfl rfl (Nat.le_of_ble_eq_true rfl) dX8_findMinds_13 rfl (fun H locs hP hD hS => ?_)
  refine lv_iconst (v := 0) hx hb dX8_findMinds_16 (by decide) ?_
  refine lv_istore_n (lv' := [(1, .int 0), (0, .ref q0)]) hx hb dX8_findMinds_17 rfl hl (by decide) rfl (fun ls hl => ?_)
  have LOOP_18 : ∀ (n_18 k18 : Nat) (x18_0 : Int32) (x18_1 : Int32) (x18_2 : Int32) (H : Heap) (locs : List Loc) (ls : Array Slot), k18 ≤ 64 → 64 - k18 < n_18 → (B_X8_findMinds_18 uR us ur sF sS 0 63 0 k18) = (x18_0, x18_1, x18_2) → va_P D vwCl [(q0, .inr (8, [.int th, .ref y1, .int (nI uT), .int (nI up), .int (nI uP), .ref y2, .int (nI uR), .ref y3, .int (nI vP), .ref y4, .ref y5, .int (nI vR), .ref y6, .ref y7, .ref y8, .ref y9, .int (nI ua), .ref y10, .ref y11, .int (nI us), .ref y12, .ref y13, .long sd, .int z1, .int z2, .int x18_0, .int x18_1, .int x18_2, .int z6, .int z7, .ref y14])), (y3, .inl (cI, 12, .inl ur)), (y12, .inl (cI, 6, .inl sF)), (y13, .inl (cI, 6, .inl sS))] H → va_D A [(q0, .inr (8, [.int th, .ref y1, .int (nI uT), .int (nI up), .int (nI uP), .ref y2, .int (nI uR), .ref y3, .int (nI vP), .ref y4, .ref y5, .int (nI vR), .ref y6, .ref y7, .ref y8, .ref y9, .int (nI ua), .ref y10, .ref y11, .int (nI us), .ref y12, .ref y13, .long sd, .int z1, .int z2, .int x18_0, .int x18_1, .int x18_2, .int z6, .int z7, .ref y14])), (y3, .inl (cI, 12, .inl ur)), (y12, .inl (cI, 6, .inl sF)), (y13, .inl (cI, 6, .inl sS))] → va_S A s.heap H locs → lv_has ls 5 [(1, .int (nI k18)), (0, .ref q0)] → W p l e (mR 2 46) s m args below meth c H locs 0 0 Q (F0 m 18 ls []) := by
    intro n_18
    induction n_18 with
    | zero => intro k18 x18_0 x18_1 x18_2 H locs ls hk_18 hn_18 hB_18 hP hD hS hl; exact absurd hn_18 (Nat.not_lt_zero _)
    | succ n_18 ih_18 =>
      intro k18 x18_0 x18_1 x18_2 H locs ls hk_18 hn_18 hB_18 hP hD hS hl
      refine lv_iload_n hx hb dX8_findMinds_18 rfl (lv_at hl 0 rfl) ?_
      refine lv_bipush (v := 63) hx hb dX8_findMinds_19 (by decide) ?_
      refine lv_icmp_gt (tgt := 130) hx hb dX8_findMinds_21 (by decide) (fun c_1 => ?_) (fun c_1 => ?_)
      · have o_1 : 63 < k18 := (clt (nf_c 63) (rfl : nI k18 = nI k18) (by omega) (by omega)).mp c_1
        have hkN : 64 = k18 := by omega
        subst hkN
        obtain ⟨rfl, rfl, rfl⟩ : x18_0 = (B_X8_findMinds_18 uR us ur sF sS 0 63 0 64).1 ∧ x18_1 = (B_X8_findMinds_18 uR us ur sF sS 0 63 0 64).2.1 ∧ x18_2 = (B_X8_findMinds_18 uR us ur sF sS 0 63 0 64).2.2 := by rw [hB_18]; exact ⟨rfl, rfl, rfl⟩
        exact mu_retv CF hQ hr hlk hP hS dX8_findMinds_130 rfl
      · have o_1 : ¬ 63 < k18 := fun h => c_1 ((clt (nf_c 63) (rfl : nI k18 = nI k18) (by omega) (by omega)).mpr h)
        refine lv_aload_n hx hb dX8_findMinds_24 rfl (lv_at hl 1 rfl) ?_
        refine lv_iload_n hx hb dX8_findMinds_25 rfl (lv_at hl 0 rfl) ?_
        refine ro_V (y := yX8_closed) (As := [.int (nI k18)]) (rest := []) (q0 := 0) CF (c_X8_closed l D cI cZ q0 y1 y2 y3 y4 y5 y6 y7 y8 y9 y10 y11 y12 y13 y14 th uT up uP uR vP vR ua us sd z1 z2 x18_0 x18_1 x18_2 z6 z7 ur (nI k18) (by omega)) lk_X8_116 hP hE [0, 1] rfl rfl rfl rfl hl.1 rfl (Nat.le_of_ble_eq_true rfl) ⟨Nat.le_of_ble_eq_true rfl, Nat.le_of_ble_eq_true rfl, rfl, rfl⟩ ⟨Nat.zero_le _, Nat.zero_le _⟩ dX8_findMinds_26 ?_
        refine lv_istore_n (lv' := [(2, .int ((B_X8_closed_4 uR ur (nI k18) 4))), (1, .int (nI k18)), (0, .ref q0)]) hx hb dX8_findMinds_29 rfl hl (by decide) rfl (fun ls hl => ?_)
        refine lv_iconst (v := 1) hx hb dX8_findMinds_30 (by decide) ?_
        refine lv_istore_n (lv' := [(3, .int 1), (2, .int ((B_X8_closed_4 uR ur (nI k18) 4))), (1, .int (nI k18)), (0, .ref q0)]) hx hb dX8_findMinds_31 rfl hl (by decide) rfl (fun ls hl => ?_)
        refine lv_iconst (v := 0) hx hb dX8_findMinds_32 (by decide) ?_
        refine lv_istore (lv' := [(4, .int 0), (3, .int 1), (2, .int ((B_X8_closed_4 uR ur (nI k18) 4))), (1, .int (nI k18)), (0, .ref q0)]) hx hb dX8_findMinds_33 hl (by decide) rfl (fun ls hl => ?_)
        have LOOP_35 : ∀ (n_35 k35 : Nat) (x35_0 : Int32) (H : Heap) (locs : List Loc) (ls : Array Slot), k35 ≤ us → us - k35 < n_35 → (B_X8_findMinds_35 uR ur sF sS k18 1 k35) = x35_0 → va_P D vwCl [(q0, .inr (8, [.int th, .ref y1, .int (nI uT), .int (nI up), .int (nI uP), .ref y2, .int (nI uR), .ref y3, .int (nI vP), .ref y4, .ref y5, .int (nI vR), .ref y6, .ref y7, .ref y8, .ref y9, .int (nI ua), .ref y10, .ref y11, .int (nI us), .ref y12, .ref y13, .long sd, .int z1, .int z2, .int x18_0, .int x18_1, .int x18_2, .int z6, .int z7, .ref y14])), (y3, .inl (cI, 12, .inl ur)), (y12, .inl (cI, 6, .inl sF)), (y13, .inl (cI, 6, .inl sS))] H → va_D A [(q0, .inr (8, [.int th, .ref y1, .int (nI uT), .int (nI up), .int (nI uP), .ref y2, .int (nI uR), .ref y3, .int (nI vP), .ref y4, .ref y5, .int (nI vR), .ref y6, .ref y7, .ref y8, .ref y9, .int (nI ua), .ref y10, .ref y11, .int (nI us), .ref y12, .ref y13, .long sd, .int z1, .int z2, .int x18_0, .int x18_1, .int x18_2, .int z6, .int z7, .ref y14])), (y3, .inl (cI, 12, .inl ur)), (y12, .inl (cI, 6, .inl sF)), (y13, .inl (cI, 6, .inl sS))] → va_S A s.heap H locs → lv_has ls 5 [(4, .int (nI k35)), (3, .int x35_0), (2, .int ((B_X8_closed_4 uR ur (nI k18) 4))), (1, .int (nI k18)), (0, .ref q0)] → W p l e (mR 2 46) s m args below meth c H locs 0 0 Q (F0 m 35 ls []) := by
          intro n_35
          induction n_35 with
          | zero => intro k35 x35_0 H locs ls hk_35 hn_35 hB_35 hP hD hS hl; exact absurd hn_35 (Nat.not_lt_zero _)
          | succ n_35 ih_35 =>
            intro k35 x35_0 H locs ls hk_35 hn_35 hB_35 hP hD hS hl
            refine lv_iload hx hb dX8_findMinds_35 (lv_at hl 0 rfl) ?_
            refine lv_aload_n hx hb dX8_findMinds_37 rfl (lv_at hl 4 rfl) ?_
            refine r_get (C := RX8) (T := TX8) (N := 31) (v := .int (nI us)) CF hE hP 0 rfl rfl inG8 19 (by decide) tw_3_134 rfl rfl dX8_findMinds_38 ?_
            refine lv_icmp_ge (tgt := 90) hx hb dX8_findMinds_41 (by decide) (fun c_2 => ?_) (fun c_2 => ?_)
            · have o_2 : us ≤ k35 := (cle (rfl : nI us = nI us) (rfl : nI k35 = nI k35) (by omega) (by omega)).mp c_2
              have hkN : us = k35 := by omega
              subst hkN
              subst hB_35
              refine lv_iload_n hx hb dX8_findMinds_90 rfl (lv_at hl 1 rfl) ?_
              refine lv_if_eq (tgt := 124) hx hb dX8_findMinds_91 (by decide) (fun c_7 => ?_) (fun c_7 => ?_)
              · refine lv_iinc (v := (nI (k18 + 1))) (lv' := [(1, .int (nI (k18 + 1))), (4, .int (nI us)), (3, .int ((B_X8_findMinds_35 uR ur sF sS k18 1 us))), (2, .int ((B_X8_closed_4 uR ur (nI k18) 4))), (0, .ref q0)]) hx hb dX8_findMinds_124 hl (k := 3) rfl (nf_inc 1 (rfl : nI k18 = nI k18)) (by decide) rfl (fun ls hl => ?_)
                refine lv_goto (tgt := 18) hx hb dX8_findMinds_127 (by decide) ?_
                have hB2 : B_X8_findMinds_18 uR us ur sF sS 0 63 0 (k18 + 1) = (x18_0, x18_1, x18_2) := by
                  rw [B_X8_findMinds_18, hB_18]
                  show S_X8_findMinds_18 uR us ur sF sS k18 x18_0 x18_1 x18_2 = _
                  rw [S_X8_findMinds_18, if_pos c_7]
                exact ih_18 (k18 + 1) x18_0 x18_1 x18_2 _ _ _ (by omega) (by omega) hB2 hP hD hS (lv_sub hl [0, 4] rfl)
              · refine lv_aload_n hx hb dX8_findMinds_94 rfl (lv_at hl 4 rfl) ?_
                refine lv_dup hx hb dX8_findMinds_95 rfl ?_
                refine r_get (C := RX8) (T := TX8) (N := 31) (v := .int x18_0) CF hE hP 0 rfl rfl inG8 25 (by decide) tw_3_140 rfl rfl dX8_findMinds_96 ?_
                refine lv_iconst (v := 1) hx hb dX8_findMinds_99 (by decide) ?_
                refine lv_iadd hx hb dX8_findMinds_100 ?_
                refine r_put (C := RX8) (T := TX8) (N := 31) (ws' := [(q0, .inr (8, [.int th, .ref y1, .int (nI uT), .int (nI up), .int (nI uP), .ref y2, .int (nI uR), .ref y3, .int (nI vP), .ref y4, .ref y5, .int (nI vR), .ref y6, .ref y7, .ref y8, .ref y9, .int (nI ua), .ref y10, .ref y11, .int (nI us), .ref y12, .ref y13, .long sd, .int z1, .int z2, .int (x18_0 + 1), .int x18_1, .int x18_2, .int z6, .int z7, .ref y14])), (y3, .inl (cI, 12, .inl ur)), (y12, .inl (cI, 6, .inl sF)), (y13, .inl (cI, 6, .inl sS))]) CF hE hP hD hS 0 rfl rfl inG8 tyX8 tyX8_ok nmX8 25 (by decide) tw_3_140 rfl rfl rfl rfl (Nat.le_of_ble_eq_true rfl) dX8_findMinds_101 rfl (fun H locs hP hD hS => ?_)
                refine lv_aload_n hx hb dX8_findMinds_104 rfl (lv_at hl 4 rfl) ?_
                refine lv_dup hx hb dX8_findMinds_105 rfl ?_
                refine r_get (C := RX8) (T := TX8) (N := 31) (v := .int x18_1) CF hE hP 0 rfl rfl inG8 26 (by decide) tw_3_141 rfl rfl dX8_findMinds_106 ?_
                refine lv_iload_n hx hb dX8_findMinds_109 rfl (lv_at hl 2 rfl) ?_
                refine lv_iand hx hb dX8_findMinds_110 ?_
                refine r_put (C := RX8) (T := TX8) (N := 31) (ws' := [(q0, .inr (8, [.int th, .ref y1, .int (nI uT), .int (nI up), .int (nI uP), .ref y2, .int (nI uR), .ref y3, .int (nI vP), .ref y4, .ref y5, .int (nI vR), .ref y6, .ref y7, .ref y8, .ref y9, .int (nI ua), .ref y10, .ref y11, .int (nI us), .ref y12, .ref y13, .long sd, .int z1, .int z2, .int (x18_0 + 1), .int (x18_1 &&& ((B_X8_closed_4 uR ur (nI k18) 4))), .int x18_2, .int z6, .int z7, .ref y14])), (y3, .inl (cI, 12, .inl ur)), (y12, .inl (cI, 6, .inl sF)), (y13, .inl (cI, 6, .inl sS))]) CF hE hP hD hS 0 rfl rfl inG8 tyX8 tyX8_ok nmX8 26 (by decide) tw_3_141 rfl rfl rfl rfl (Nat.le_of_ble_eq_true rfl) dX8_findMinds_111 rfl (fun H locs hP hD hS => ?_)
                refine lv_aload_n hx hb dX8_findMinds_114 rfl (lv_at hl 4 rfl) ?_
                refine lv_dup hx hb dX8_findMinds_115 rfl ?_
                refine r_get (C := RX8) (T := TX8) (N := 31) (v := .int x18_2) CF hE hP 0 rfl rfl inG8 27 (by decide) tw_3_142 rfl rfl dX8_findMinds_116 ?_
                refine lv_iload_n hx hb dX8_findMinds_119 rfl (lv_at hl 2 rfl) ?_
                refine lv_ior hx hb dX8_findMinds_120 ?_
                refine r_put (C := RX8) (T := TX8) (N := 31) (ws' := [(q0, .inr (8, [.int th, .ref y1, .int (nI uT), .int (nI up), .int (nI uP), .ref y2, .int (nI uR), .ref y3, .int (nI vP), .ref y4, .ref y5, .int (nI vR), .ref y6, .ref y7, .ref y8, .ref y9, .int (nI ua), .ref y10, .ref y11, .int (nI us), .ref y12, .ref y13, .long sd, .int z1, .int z2, .int (x18_0 + 1), .int (x18_1 &&& ((B_X8_closed_4 uR ur (nI k18) 4))), .int (x18_2 ||| ((B_X8_closed_4 uR ur (nI k18) 4))), .int z6, .int z7, .ref y14])), (y3, .inl (cI, 12, .inl ur)), (y12, .inl (cI, 6, .inl sF)), (y13, .inl (cI, 6, .inl sS))]) CF hE hP hD hS 0 rfl rfl inG8 tyX8 tyX8_ok nmX8 27 (by decide) tw_3_142 rfl rfl rfl rfl (Nat.le_of_ble_eq_true rfl) dX8_findMinds_121 rfl (fun H locs hP hD hS => ?_)
                refine lv_iinc (v := (nI (k18 + 1))) (lv' := [(1, .int (nI (k18 + 1))), (4, .int (nI us)), (3, .int ((B_X8_findMinds_35 uR ur sF sS k18 1 us))), (2, .int ((B_X8_closed_4 uR ur (nI k18) 4))), (0, .ref q0)]) hx hb dX8_findMinds_124 hl (k := 3) rfl (nf_inc 1 (rfl : nI k18 = nI k18)) (by decide) rfl (fun ls hl => ?_)
                refine lv_goto (tgt := 18) hx hb dX8_findMinds_127 (by decide) ?_
                have hB2 : B_X8_findMinds_18 uR us ur sF sS 0 63 0 (k18 + 1) = ((x18_0 + 1), (x18_1 &&& ((B_X8_closed_4 uR ur (nI k18) 4))), (x18_2 ||| ((B_X8_closed_4 uR ur (nI k18) 4)))) := by
                  rw [B_X8_findMinds_18, hB_18]
                  show S_X8_findMinds_18 uR us ur sF sS k18 x18_0 x18_1 x18_2 = _
                  rw [S_X8_findMinds_18, if_neg c_7]
                exact ih_18 (k18 + 1) (x18_0 + 1) (x18_1 &&& ((B_X8_closed_4 uR ur (nI k18) 4))) (x18_2 ||| ((B_X8_closed_4 uR ur (nI k18) 4))) _ _ _ (by omega) (by omega) hB2 hP hD hS (lv_sub hl [0, 4] rfl)
            · have o_2 : ¬ us ≤ k35 := fun h => c_2 ((cle (rfl : nI us = nI us) (rfl : nI k35 = nI k35) (by omega) (by omega)).mpr h)
              refine lv_iload_n hx hb dX8_findMinds_44 rfl (lv_at hl 1 rfl) ?_
              refine lv_if_eq (tgt := 82) hx hb dX8_findMinds_45 (by decide) (fun c_3 => ?_) (fun c_3 => ?_)
              · refine lv_iconst (v := 0) hx hb dX8_findMinds_82 (by decide) ?_
                refine lv_istore_n (lv' := [(3, .int 0), (4, .int (nI k35)), (2, .int ((B_X8_closed_4 uR ur (nI k18) 4))), (1, .int (nI k18)), (0, .ref q0)]) hx hb dX8_findMinds_83 rfl hl (by decide) rfl (fun ls hl => ?_)
                refine lv_iinc (v := (nI (k35 + 1))) (lv' := [(4, .int (nI (k35 + 1))), (3, .int 0), (2, .int ((B_X8_closed_4 uR ur (nI k18) 4))), (1, .int (nI k18)), (0, .ref q0)]) hx hb dX8_findMinds_84 hl (k := 1) rfl (nf_inc 1 (rfl : nI k35 = nI k35)) (by decide) rfl (fun ls hl => ?_)
                refine lv_goto (tgt := 35) hx hb dX8_findMinds_87 (by decide) ?_
                have hB2 : B_X8_findMinds_35 uR ur sF sS k18 1 (k35 + 1) = 0 := by
                  rw [B_X8_findMinds_35, hB_35]
                  rw [S_X8_findMinds_35, if_pos c_3]
                exact ih_35 (k35 + 1) 0 _ _ _ (by omega) (by omega) hB2 hP hD hS (lv_sub hl [0, 1, 2, 3, 4] rfl)
              · refine lv_iload_n hx hb dX8_findMinds_48 rfl (lv_at hl 2 rfl) ?_
                refine lv_aload_n hx hb dX8_findMinds_49 rfl (lv_at hl 4 rfl) ?_
                refine r_get (C := RX8) (T := TX8) (N := 31) (v := .ref y12) CF hE hP 0 rfl rfl inG8 20 (by decide) tw_3_135 rfl rfl dX8_findMinds_50 ?_
                refine lv_iload hx hb dX8_findMinds_53 (lv_at hl 0 rfl) ?_
                refine r_iald (k := 6) (f := sF) CF hE hP 2 rfl k35 (rfl : nI k35 = nI k35) (by omega) (by decide) dX8_findMinds_55 ?_
                refine ro_S (y := yX8_has) (As := [.int ((B_X8_closed_4 uR ur (nI k18) 4)), .int (sF k35)]) (rest := []) CF (c_X8_has l D cI cZ ((B_X8_closed_4 uR ur (nI k18) 4)) (sF k35)) lk_X8_104 hE rfl hl.1 rfl (Nat.le_of_ble_eq_true rfl) ⟨Nat.le_of_ble_eq_true rfl, Nat.le_of_ble_eq_true rfl, rfl, rfl⟩ ⟨Nat.zero_le _, Nat.zero_le _⟩ dX8_findMinds_56 ?_
                refine lv_aload_n hx hb dX8_findMinds_59 rfl (lv_at hl 4 rfl) ?_
                refine r_get (C := RX8) (T := TX8) (N := 31) (v := .ref y13) CF hE hP 0 rfl rfl inG8 21 (by decide) tw_3_136 rfl rfl dX8_findMinds_60 ?_
                refine lv_iload hx hb dX8_findMinds_63 (lv_at hl 0 rfl) ?_
                refine r_iald (k := 6) (f := sS) CF hE hP 3 rfl k35 (rfl : nI k35 = nI k35) (by omega) (by decide) dX8_findMinds_65 ?_
                refine lv_iconst (v := 1) hx hb dX8_findMinds_66 (by decide) ?_
                refine lv_icmp_ne (tgt := 74) hx hb dX8_findMinds_67 (by decide) (fun c_4 => ?_) (fun c_4 => ?_)
                · refine lv_iconst (v := 0) hx hb dX8_findMinds_74 (by decide) ?_
                  refine lv_icmp_ne (tgt := 82) hx hb dX8_findMinds_75 (by decide) (fun c_5 => ?_) (fun c_5 => ?_)
                  · refine lv_iconst (v := 0) hx hb dX8_findMinds_82 (by decide) ?_
                    refine lv_istore_n (lv' := [(3, .int 0), (4, .int (nI k35)), (2, .int ((B_X8_closed_4 uR ur (nI k18) 4))), (1, .int (nI k18)), (0, .ref q0)]) hx hb dX8_findMinds_83 rfl hl (by decide) rfl (fun ls hl => ?_)
                    refine lv_iinc (v := (nI (k35 + 1))) (lv' := [(4, .int (nI (k35 + 1))), (3, .int 0), (2, .int ((B_X8_closed_4 uR ur (nI k18) 4))), (1, .int (nI k18)), (0, .ref q0)]) hx hb dX8_findMinds_84 hl (k := 1) rfl (nf_inc 1 (rfl : nI k35 = nI k35)) (by decide) rfl (fun ls hl => ?_)
                    refine lv_goto (tgt := 35) hx hb dX8_findMinds_87 (by decide) ?_
                    have hB2 : B_X8_findMinds_35 uR ur sF sS k18 1 (k35 + 1) = 0 := by
                      rw [B_X8_findMinds_35, hB_35]
                      rw [S_X8_findMinds_35, if_neg c_3, if_neg c_4, if_neg c_5]
                    exact ih_35 (k35 + 1) 0 _ _ _ (by omega) (by omega) hB2 hP hD hS (lv_sub hl [0, 1, 2, 3, 4] rfl)
                  · refine lv_iconst (v := 1) hx hb dX8_findMinds_78 (by decide) ?_
                    refine lv_goto (tgt := 83) hx hb dX8_findMinds_79 (by decide) ?_
                    refine lv_istore_n (lv' := [(3, .int 1), (4, .int (nI k35)), (2, .int ((B_X8_closed_4 uR ur (nI k18) 4))), (1, .int (nI k18)), (0, .ref q0)]) hx hb dX8_findMinds_83 rfl hl (by decide) rfl (fun ls hl => ?_)
                    refine lv_iinc (v := (nI (k35 + 1))) (lv' := [(4, .int (nI (k35 + 1))), (3, .int 1), (2, .int ((B_X8_closed_4 uR ur (nI k18) 4))), (1, .int (nI k18)), (0, .ref q0)]) hx hb dX8_findMinds_84 hl (k := 1) rfl (nf_inc 1 (rfl : nI k35 = nI k35)) (by decide) rfl (fun ls hl => ?_)
                    refine lv_goto (tgt := 35) hx hb dX8_findMinds_87 (by decide) ?_
                    have hB2 : B_X8_findMinds_35 uR ur sF sS k18 1 (k35 + 1) = 1 := by
                      rw [B_X8_findMinds_35, hB_35]
                      rw [S_X8_findMinds_35, if_neg c_3, if_neg c_4, if_pos c_5]
                    exact ih_35 (k35 + 1) 1 _ _ _ (by omega) (by omega) hB2 hP hD hS (lv_sub hl [0, 1, 2, 3, 4] rfl)
                · refine lv_iconst (v := 1) hx hb dX8_findMinds_70 (by decide) ?_
                  refine lv_goto (tgt := 75) hx hb dX8_findMinds_71 (by decide) ?_
                  refine lv_icmp_ne (tgt := 82) hx hb dX8_findMinds_75 (by decide) (fun c_6 => ?_) (fun c_6 => ?_)
                  · refine lv_iconst (v := 0) hx hb dX8_findMinds_82 (by decide) ?_
                    refine lv_istore_n (lv' := [(3, .int 0), (4, .int (nI k35)), (2, .int ((B_X8_closed_4 uR ur (nI k18) 4))), (1, .int (nI k18)), (0, .ref q0)]) hx hb dX8_findMinds_83 rfl hl (by decide) rfl (fun ls hl => ?_)
                    refine lv_iinc (v := (nI (k35 + 1))) (lv' := [(4, .int (nI (k35 + 1))), (3, .int 0), (2, .int ((B_X8_closed_4 uR ur (nI k18) 4))), (1, .int (nI k18)), (0, .ref q0)]) hx hb dX8_findMinds_84 hl (k := 1) rfl (nf_inc 1 (rfl : nI k35 = nI k35)) (by decide) rfl (fun ls hl => ?_)
                    refine lv_goto (tgt := 35) hx hb dX8_findMinds_87 (by decide) ?_
                    have hB2 : B_X8_findMinds_35 uR ur sF sS k18 1 (k35 + 1) = 0 := by
                      rw [B_X8_findMinds_35, hB_35]
                      rw [S_X8_findMinds_35, if_neg c_3, if_pos c_4, if_neg c_6]
                    exact ih_35 (k35 + 1) 0 _ _ _ (by omega) (by omega) hB2 hP hD hS (lv_sub hl [0, 1, 2, 3, 4] rfl)
                  · refine lv_iconst (v := 1) hx hb dX8_findMinds_78 (by decide) ?_
                    refine lv_goto (tgt := 83) hx hb dX8_findMinds_79 (by decide) ?_
                    refine lv_istore_n (lv' := [(3, .int 1), (4, .int (nI k35)), (2, .int ((B_X8_closed_4 uR ur (nI k18) 4))), (1, .int (nI k18)), (0, .ref q0)]) hx hb dX8_findMinds_83 rfl hl (by decide) rfl (fun ls hl => ?_)
                    refine lv_iinc (v := (nI (k35 + 1))) (lv' := [(4, .int (nI (k35 + 1))), (3, .int 1), (2, .int ((B_X8_closed_4 uR ur (nI k18) 4))), (1, .int (nI k18)), (0, .ref q0)]) hx hb dX8_findMinds_84 hl (k := 1) rfl (nf_inc 1 (rfl : nI k35 = nI k35)) (by decide) rfl (fun ls hl => ?_)
                    refine lv_goto (tgt := 35) hx hb dX8_findMinds_87 (by decide) ?_
                    have hB2 : B_X8_findMinds_35 uR ur sF sS k18 1 (k35 + 1) = 1 := by
                      rw [B_X8_findMinds_35, hB_35]
                      rw [S_X8_findMinds_35, if_neg c_3, if_pos c_4, if_pos c_6]
                    exact ih_35 (k35 + 1) 1 _ _ _ (by omega) (by omega) hB2 hP hD hS (lv_sub hl [0, 1, 2, 3, 4] rfl)
        have e_k : 0 = nI (0) := (nf_c 0).trans (congrArg nI (by omega))
        rw [e_k] at hl
        exact LOOP_35 (us - 0 + 1) 0 1 _ _ _ (Nat.zero_le _) (by omega) rfl hP hD hS (lv_sub hl [0, 1, 2, 3, 4] rfl)
  have e_k : 0 = nI (0) := (nf_c 0).trans (congrArg nI (by omega))
  rw [e_k] at hl
  exact LOOP_18 (64 - 0 + 1) 0 0 63 0 _ _ _ (Nat.zero_le _) (by omega) rfl hP hD hS (lv_sub hl [0, 1] rfl)
theorem lk_X8_199 : mLkV RX8 199 yX8_findMinds cX8_findMinds 5 none 0 := ⟨⟨tw_4_162, tw_1_10, tw_4_165, ⟨by decide +kernel, by decide +kernel, by decide +kernel⟩⟩, tw_4_164, tp_3_1⟩
def f_X8_minds (uR : Nat) (us : Nat) (ur : Nat → Int32) (sF : Nat → Int32) (sS : Nat → Int32) (a1 : Int32) : Int32 :=
  (if (f_X8_in a1.toInt64 0 2) = 0 then (-2) else (if a1 = 0 then ((B_X8_findMinds_18 uR us ur sF sS 0 63 0 64).1) else (if ((B_X8_findMinds_18 uR us ur sF sS 0 63 0 64).1) = 0 then (-9) else (if a1 = 1 then ((B_X8_findMinds_18 uR us ur sF sS 0 63 0 64).2.1) else (63 &&& (((B_X8_findMinds_18 uR us ur sF sS 0 63 0 64).2.2) ^^^ (-1)))))))
def f_X8_minds_th (uR : Nat) (us : Nat) (ur : Nat → Int32) (sF : Nat → Int32) (sS : Nat → Int32) (a1 : Int32) : Int32 :=
  (if (f_X8_in a1.toInt64 0 2) = 0 then 0 else (if a1 = 0 then 0 else (if ((B_X8_findMinds_18 uR us ur sF sS 0 63 0 64).1) = 0 then 0 else (if a1 = 1 then 0 else 0))))
def f_X8_minds_z3 (uR : Nat) (us : Nat) (z3 : Int32) (ur : Nat → Int32) (sF : Nat → Int32) (sS : Nat → Int32) (a1 : Int32) : Int32 :=
  (if (f_X8_in a1.toInt64 0 2) = 0 then z3 else (if a1 = 0 then ((B_X8_findMinds_18 uR us ur sF sS 0 63 0 64).1) else (if ((B_X8_findMinds_18 uR us ur sF sS 0 63 0 64).1) = 0 then ((B_X8_findMinds_18 uR us ur sF sS 0 63 0 64).1) else (if a1 = 1 then ((B_X8_findMinds_18 uR us ur sF sS 0 63 0 64).1) else ((B_X8_findMinds_18 uR us ur sF sS 0 63 0 64).1)))))
def f_X8_minds_z4 (uR : Nat) (us : Nat) (z4 : Int32) (ur : Nat → Int32) (sF : Nat → Int32) (sS : Nat → Int32) (a1 : Int32) : Int32 :=
  (if (f_X8_in a1.toInt64 0 2) = 0 then z4 else (if a1 = 0 then ((B_X8_findMinds_18 uR us ur sF sS 0 63 0 64).2.1) else (if ((B_X8_findMinds_18 uR us ur sF sS 0 63 0 64).1) = 0 then ((B_X8_findMinds_18 uR us ur sF sS 0 63 0 64).2.1) else (if a1 = 1 then ((B_X8_findMinds_18 uR us ur sF sS 0 63 0 64).2.1) else ((B_X8_findMinds_18 uR us ur sF sS 0 63 0 64).2.1)))))
def f_X8_minds_z5 (uR : Nat) (us : Nat) (z5 : Int32) (ur : Nat → Int32) (sF : Nat → Int32) (sS : Nat → Int32) (a1 : Int32) : Int32 :=
  (if (f_X8_in a1.toInt64 0 2) = 0 then z5 else (if a1 = 0 then ((B_X8_findMinds_18 uR us ur sF sS 0 63 0 64).2.2) else (if ((B_X8_findMinds_18 uR us ur sF sS 0 63 0 64).1) = 0 then ((B_X8_findMinds_18 uR us ur sF sS 0 63 0 64).2.2) else (if a1 = 1 then ((B_X8_findMinds_18 uR us ur sF sS 0 63 0 64).2.2) else ((B_X8_findMinds_18 uR us ur sF sS 0 63 0 64).2.2)))))
set_option maxRecDepth 100000 in
set_option maxHeartbeats 4000000 in
theorem c_X8_minds (l : Launch) (D : va_G) (cI cZ : ClassId) (q0 y1 y2 y3 y4 y5 y6 y7 y8 y9 y10 y11 y12 y13 y14 : Nat) (th : Int32) (uT : Nat) (up : Nat) (uP : Nat) (uR : Nat) (vP : Nat) (vR : Nat) (ua : Nat) (us : Nat) (sd : Int64) (z1 : Int32) (z2 : Int32) (z3 : Int32) (z4 : Int32) (z5 : Int32) (z6 : Int32) (z7 : Int32) (ur : Nat → Int32) (sF : Nat → Int32) (sS : Nat → Int32) (a1 : Int32) (hur : uR ≤ 4) (hus : us ≤ 6) : MU l D cI cZ yX8_minds cX8_minds 2 (some .int) (mR 3 70) [.ref q0, .int a1] [(q0, .inr (8, [.int th, .ref y1, .int (nI uT), .int (nI up), .int (nI uP), .ref y2, .int (nI uR), .ref y3, .int (nI vP), .ref y4, .ref y5, .int (nI vR), .ref y6, .ref y7, .ref y8, .ref y9, .int (nI ua), .ref y10, .ref y11, .int (nI us), .ref y12, .ref y13, .long sd, .int z1, .int z2, .int z3, .int z4, .int z5, .int z6, .int z7, .ref y14])), (y3, .inl (cI, 12, .inl ur)), (y12, .inl (cI, 6, .inl sF)), (y13, .inl (cI, 6, .inl sS))] [(q0, .inr (8, [.int (f_X8_minds_th uR us ur sF sS a1), .ref y1, .int (nI uT), .int (nI up), .int (nI uP), .ref y2, .int (nI uR), .ref y3, .int (nI vP), .ref y4, .ref y5, .int (nI vR), .ref y6, .ref y7, .ref y8, .ref y9, .int (nI ua), .ref y10, .ref y11, .int (nI us), .ref y12, .ref y13, .long sd, .int z1, .int z2, .int (f_X8_minds_z3 uR us z3 ur sF sS a1), .int (f_X8_minds_z4 uR us z4 ur sF sS a1), .int (f_X8_minds_z5 uR us z5 ur sF sS a1), .int z6, .int z7, .ref y14])), (y3, .inl (cI, 12, .inl ur)), (y12, .inl (cI, 6, .inl sF)), (y13, .inl (cI, 6, .inl sS))] (some (.int (f_X8_minds uR us ur sF sS a1))) := by
  refine MU.of (by decide +kernel) (Nat.le_of_ble_eq_true rfl) ?_
  intro p e s m args below meth c ls Q A CF hr hlk hP hE hD hS hQ hl
  have hx := CF.1
  have hb := CF.2.1
  have hl : lv_has ls 2 [(0, .ref q0), (1, .int a1)] := hl
  refine lv_aload_n hx hb dX8_minds_0 rfl (lv_at hl 0 rfl) ?_
  refine lv_iconst (v := 0) hx hb dX8_minds_1 (by decide) ?_
  refine r_put (C := RX8) (T := TX8) (N := 31) (ws' := [(q0, .inr (8, [.int 0, .ref y1, .int (nI uT), .int (nI up), .int (nI uP), .ref y2, .int (nI uR), .ref y3, .int (nI vP), .ref y4, .ref y5, .int (nI vR), .ref y6, .ref y7, .ref y8, .ref y9, .int (nI ua), .ref y10, .ref y11, .int (nI us), .ref y12, .ref y13, .long sd, .int z1, .int z2, .int z3, .int z4, .int z5, .int z6, .int z7, .ref y14])), (y3, .inl (cI, 12, .inl ur)), (y12, .inl (cI, 6, .inl sF)), (y13, .inl (cI, 6, .inl sS))]) CF hE hP hD hS 0 rfl rfl inG8 tyX8 tyX8_ok nmX8 0 (by decide) tw_3_115 rfl rfl rfl rfl (Nat.le_of_ble_eq_true rfl) dX8_minds_2 rfl (fun H locs hP hD hS => ?_)
  refine lv_iload_n hx hb dX8_minds_5 rfl (lv_at hl 1 rfl) ?_
  refine lv_i2l (v := a1.toInt64) hx hb dX8_minds_6 rfl ?_
  refine lv_lconst (v := 0) hx hb dX8_minds_7 (by decide) ?_
  refine lv_ldc2 (v := 2) hx hb CF.2.2.2.1 (CF.2.2.2.2 _ (List.mem_cons_of_mem _ tw_4_49)) dX8_minds_8 ?_
  refine ro_S (y := yX8_in) (As := [.long a1.toInt64, .long 0, .long 2]) (rest := []) CF (c_X8_in l D cI cZ a1.toInt64 0 2) lk_X8_60 hE rfl hl.1 rfl (Nat.le_of_ble_eq_true rfl) ⟨Nat.le_of_ble_eq_true rfl, Nat.le_of_ble_eq_true rfl, rfl, rfl⟩ ⟨Nat.zero_le _, Nat.zero_le _⟩ dX8_minds_11 ?_
  refine lv_if_ne (tgt := 20) hx hb dX8_minds_14 (by decide) (fun c_1 => ?_) (fun c_1 => ?_)
  · have ni_2 : (0 : Int32) ≤ a1 ∧ a1 ≤ nI 2 := in_ne (a := 0) (b := nI 2) c_1
    have ni_2n := rng_tn ni_2 (by decide) (by decide)
    have ni_2l := ni_2n.2
    refine lv_aload_n hx hb dX8_minds_20 rfl (lv_at hl 0 rfl) ?_
    refine mu_Vv (y := yX8_findMinds) (As := []) (rest := []) (q0 := 0) (ws' := [(q0, .inr (8, [.int 0, .ref y1, .int (nI uT), .int (nI up), .int (nI uP), .ref y2, .int (nI uR), .ref y3, .int (nI vP), .ref y4, .ref y5, .int (nI vR), .ref y6, .ref y7, .ref y8, .ref y9, .int (nI ua), .ref y10, .ref y11, .int (nI us), .ref y12, .ref y13, .long sd, .int z1, .int z2, .int ((B_X8_findMinds_18 uR us ur sF sS 0 63 0 64).1), .int ((B_X8_findMinds_18 uR us ur sF sS 0 63 0 64).2.1), .int ((B_X8_findMinds_18 uR us ur sF sS 0 63 0 64).2.2), .int z6, .int z7, .ref y14])), (y3, .inl (cI, 12, .inl ur)), (y12, .inl (cI, 6, .inl sF)), (y13, .inl (cI, 6, .inl sS))]) (ad := [q0, y3, y12, y13]) CF (c_X8_findMinds l D cI cZ q0 y1 y2 y3 y4 y5 y6 y7 y8 y9 y10 y11 y12 y13 y14 0 uT up uP uR vP vR ua us sd z1 z2 z3 z4 z5 z6 z7 ur sF sS (by omega) (by omega)) lk_X8_199 hP hE hD hS [0, 1, 2, 3] rfl (by decide) (Nat.le_of_ble_eq_true rfl) rfl rfl rfl rfl rfl rfl hl.1 rfl (Nat.le_of_ble_eq_true rfl) ⟨Nat.le_of_ble_eq_true rfl, Nat.le_of_ble_eq_true rfl, rfl, rfl⟩ ⟨Nat.zero_le _, Nat.zero_le _⟩ dX8_minds_21 (fun H locs hP hD hS => ?_)
    refine lv_iload_n hx hb dX8_minds_24 rfl (lv_at hl 1 rfl) ?_
    refine lv_if_ne (tgt := 33) hx hb dX8_minds_25 (by decide) (fun c_3 => ?_) (fun c_3 => ?_)
    · refine lv_aload_n hx hb dX8_minds_33 rfl (lv_at hl 0 rfl) ?_
      refine r_get (C := RX8) (T := TX8) (N := 31) (v := .int ((B_X8_findMinds_18 uR us ur sF sS 0 63 0 64).1)) CF hE hP 0 rfl rfl inG8 25 (by decide) tw_3_140 rfl rfl dX8_minds_34 ?_
      refine lv_if_ne (tgt := 45) hx hb dX8_minds_37 (by decide) (fun c_4 => ?_) (fun c_4 => ?_)
      · refine lv_iload_n hx hb dX8_minds_45 rfl (lv_at hl 1 rfl) ?_
        refine lv_iconst (v := 1) hx hb dX8_minds_46 (by decide) ?_
        refine lv_icmp_ne (tgt := 57) hx hb dX8_minds_47 (by decide) (fun c_5 => ?_) (fun c_5 => ?_)
        · refine lv_bipush (v := 63) hx hb dX8_minds_57 (by decide) ?_
          refine lv_aload_n hx hb dX8_minds_59 rfl (lv_at hl 0 rfl) ?_
          refine r_get (C := RX8) (T := TX8) (N := 31) (v := .int ((B_X8_findMinds_18 uR us ur sF sS 0 63 0 64).2.2)) CF hE hP 0 rfl rfl inG8 27 (by decide) tw_3_142 rfl rfl dX8_minds_60 ?_
          refine lv_iconst (v := (-1)) hx hb dX8_minds_63 (by decide) ?_
          refine lv_ixor hx hb dX8_minds_64 ?_
          refine lv_iand hx hb dX8_minds_65 ?_
          have e_0 : (f_X8_minds_th uR us ur sF sS a1) = 0 := by rw [f_X8_minds_th, if_neg c_1, if_neg c_3, if_neg c_4, if_neg c_5]
          have e_1 : (f_X8_minds_z3 uR us z3 ur sF sS a1) = ((B_X8_findMinds_18 uR us ur sF sS 0 63 0 64).1) := by rw [f_X8_minds_z3, if_neg c_1, if_neg c_3, if_neg c_4, if_neg c_5]
          have e_2 : (f_X8_minds_z4 uR us z4 ur sF sS a1) = ((B_X8_findMinds_18 uR us ur sF sS 0 63 0 64).2.1) := by rw [f_X8_minds_z4, if_neg c_1, if_neg c_3, if_neg c_4, if_neg c_5]
          have e_3 : (f_X8_minds_z5 uR us z5 ur sF sS a1) = ((B_X8_findMinds_18 uR us ur sF sS 0 63 0 64).2.2) := by rw [f_X8_minds_z5, if_neg c_1, if_neg c_3, if_neg c_4, if_neg c_5]
          exact mu_reti CF hQ hr hlk rfl hP hS dX8_minds_66 (by rw [f_X8_minds, if_neg c_1, if_neg c_3, if_neg c_4, if_neg c_5]) (by rw [e_0, e_1, e_2, e_3])
        · refine lv_aload_n hx hb dX8_minds_50 rfl (lv_at hl 0 rfl) ?_
          refine r_get (C := RX8) (T := TX8) (N := 31) (v := .int ((B_X8_findMinds_18 uR us ur sF sS 0 63 0 64).2.1)) CF hE hP 0 rfl rfl inG8 26 (by decide) tw_3_141 rfl rfl dX8_minds_51 ?_
          refine lv_goto (tgt := 66) hx hb dX8_minds_54 (by decide) ?_
          have e_0 : (f_X8_minds_th uR us ur sF sS a1) = 0 := by rw [f_X8_minds_th, if_neg c_1, if_neg c_3, if_neg c_4, if_pos c_5]
          have e_1 : (f_X8_minds_z3 uR us z3 ur sF sS a1) = ((B_X8_findMinds_18 uR us ur sF sS 0 63 0 64).1) := by rw [f_X8_minds_z3, if_neg c_1, if_neg c_3, if_neg c_4, if_pos c_5]
          have e_2 : (f_X8_minds_z4 uR us z4 ur sF sS a1) = ((B_X8_findMinds_18 uR us ur sF sS 0 63 0 64).2.1) := by rw [f_X8_minds_z4, if_neg c_1, if_neg c_3, if_neg c_4, if_pos c_5]
          have e_3 : (f_X8_minds_z5 uR us z5 ur sF sS a1) = ((B_X8_findMinds_18 uR us ur sF sS 0 63 0 64).2.2) := by rw [f_X8_minds_z5, if_neg c_1, if_neg c_3, if_neg c_4, if_pos c_5]
          exact mu_reti CF hQ hr hlk rfl hP hS dX8_minds_66 (by rw [f_X8_minds, if_neg c_1, if_neg c_3, if_neg c_4, if_pos c_5]) (by rw [e_0, e_1, e_2, e_3])
      · refine lv_bipush (v := (-9)) hx hb dX8_minds_40 (by decide) ?_
        refine lv_goto (tgt := 66) hx hb dX8_minds_42 (by decide) ?_
        have e_0 : (f_X8_minds_th uR us ur sF sS a1) = 0 := by rw [f_X8_minds_th, if_neg c_1, if_neg c_3, if_pos c_4]
        have e_1 : (f_X8_minds_z3 uR us z3 ur sF sS a1) = ((B_X8_findMinds_18 uR us ur sF sS 0 63 0 64).1) := by rw [f_X8_minds_z3, if_neg c_1, if_neg c_3, if_pos c_4]
        have e_2 : (f_X8_minds_z4 uR us z4 ur sF sS a1) = ((B_X8_findMinds_18 uR us ur sF sS 0 63 0 64).2.1) := by rw [f_X8_minds_z4, if_neg c_1, if_neg c_3, if_pos c_4]
        have e_3 : (f_X8_minds_z5 uR us z5 ur sF sS a1) = ((B_X8_findMinds_18 uR us ur sF sS 0 63 0 64).2.2) := by rw [f_X8_minds_z5, if_neg c_1, if_neg c_3, if_pos c_4]
        exact mu_reti CF hQ hr hlk rfl hP hS dX8_minds_66 (by rw [f_X8_minds, if_neg c_1, if_neg c_3, if_pos c_4]) (by rw [e_0, e_1, e_2, e_3])
    · refine lv_aload_n hx hb dX8_minds_28 rfl (lv_at hl 0 rfl) ?_
      refine r_get (C := RX8) (T := TX8) (N := 31) (v := .int ((B_X8_findMinds_18 uR us ur sF sS 0 63 0 64).1)) CF hE hP 0 rfl rfl inG8 25 (by decide) tw_3_140 rfl rfl dX8_minds_29 ?_
      have e_0 : (f_X8_minds_th uR us ur sF sS a1) = 0 := by rw [f_X8_minds_th, if_neg c_1, if_pos c_3]
      have e_1 : (f_X8_minds_z3 uR us z3 ur sF sS a1) = ((B_X8_findMinds_18 uR us ur sF sS 0 63 0 64).1) := by rw [f_X8_minds_z3, if_neg c_1, if_pos c_3]
      have e_2 : (f_X8_minds_z4 uR us z4 ur sF sS a1) = ((B_X8_findMinds_18 uR us ur sF sS 0 63 0 64).2.1) := by rw [f_X8_minds_z4, if_neg c_1, if_pos c_3]
      have e_3 : (f_X8_minds_z5 uR us z5 ur sF sS a1) = ((B_X8_findMinds_18 uR us ur sF sS 0 63 0 64).2.2) := by rw [f_X8_minds_z5, if_neg c_1, if_pos c_3]
      exact mu_reti CF hQ hr hlk rfl hP hS dX8_minds_32 (by rw [f_X8_minds, if_neg c_1, if_pos c_3]) (by rw [e_0, e_1, e_2, e_3])
  · refine lv_bipush (v := (-2)) hx hb dX8_minds_17 (by decide) ?_
    have e_0 : (f_X8_minds_th uR us ur sF sS a1) = 0 := by rw [f_X8_minds_th, if_pos c_1]
    have e_1 : (f_X8_minds_z3 uR us z3 ur sF sS a1) = z3 := by rw [f_X8_minds_z3, if_pos c_1]
    have e_2 : (f_X8_minds_z4 uR us z4 ur sF sS a1) = z4 := by rw [f_X8_minds_z4, if_pos c_1]
    have e_3 : (f_X8_minds_z5 uR us z5 ur sF sS a1) = z5 := by rw [f_X8_minds_z5, if_pos c_1]
    exact mu_reti CF hQ hr hlk rfl hP hS dX8_minds_19 (by rw [f_X8_minds, if_pos c_1]) (by rw [e_0, e_1, e_2, e_3])
theorem lk_X8_208 : mLkS RX8 208 yX8_pays cX8_pays 2 (some .int) 2 := ⟨⟨tw_4_174, tw_1_10, tw_4_176, ⟨by decide +kernel, by decide +kernel, by decide +kernel⟩⟩, tw_4_175⟩
def S_X8_findRests_30 (k13 : Nat) (k20 : Nat) (k30 : Nat) (x30_0 : Int32) : (Int32) :=
  (if x30_0 = 0 then 0 else (if (f_X8_pays (nI k30) (nI k20)) < (f_X8_pays (nI k13) (nI k20)) then 0 else (if (f_X8_pays (nI k30) (nI k13)) < (f_X8_pays (nI k20) (nI k13)) then 0 else 1)))
def B_X8_findRests_30 (k13 : Nat) (k20 : Nat) (i0 : Int32) : Nat → (Int32)
  | 0 => i0
  | k + 1 => S_X8_findRests_30 k13 k20 k (B_X8_findRests_30 k13 k20 i0 k)
def S_X8_findRests_20 (k13 : Nat) (k20 : Nat) (x20_0 : Int32) (x20_1 : Int32) : (Int32) × (Int32) :=
  (if ((B_X8_findRests_30 k13 k20 1 4)) = 0 then (if ((B_X8_findRests_30 k13 k20 1 4)) = 0 then ((x20_0 + 0), x20_1) else ((x20_0 + 1), x20_1)) else (if x20_0 = 0 then (if ((B_X8_findRests_30 k13 k20 1 4)) = 0 then ((x20_0 + 0), ((10 * (nI k13)) + (nI k20))) else ((x20_0 + 1), ((10 * (nI k13)) + (nI k20)))) else (if ((B_X8_findRests_30 k13 k20 1 4)) = 0 then ((x20_0 + 0), x20_1) else ((x20_0 + 1), x20_1))))
def B_X8_findRests_20 (k13 : Nat) (i0 : Int32) (i1 : Int32) : Nat → (Int32) × (Int32)
  | 0 => (i0, i1)
  | k + 1 => S_X8_findRests_20 k13 k (B_X8_findRests_20 k13 i0 i1 k).1 (B_X8_findRests_20 k13 i0 i1 k).2
def S_X8_findRests_13 (k13 : Nat) (x13_0 : Int32) (x13_1 : Int32) : (Int32) × (Int32) :=
  (((B_X8_findRests_20 k13 x13_0 x13_1 4).1), ((B_X8_findRests_20 k13 x13_0 x13_1 4).2))
def B_X8_findRests_13 (i0 : Int32) (i1 : Int32) : Nat → (Int32) × (Int32)
  | 0 => (i0, i1)
  | k + 1 => S_X8_findRests_13 k (B_X8_findRests_13 i0 i1 k).1 (B_X8_findRests_13 i0 i1 k).2
set_option maxRecDepth 100000 in
set_option maxHeartbeats 4000000 in
theorem c_X8_findRests (l : Launch) (D : va_G) (cI cZ : ClassId) (q0 y1 y2 y3 y4 y5 y6 y7 y8 y9 y10 y11 y12 y13 y14 : Nat) (th : Int32) (uT : Nat) (up : Nat) (uP : Nat) (uR : Nat) (vP : Nat) (vR : Nat) (ua : Nat) (us : Nat) (sd : Int64) (z1 : Int32) (z2 : Int32) (z3 : Int32) (z4 : Int32) (z5 : Int32) (z6 : Int32) (z7 : Int32) : MU l D cI cZ yX8_findRests cX8_findRests 5 none (mR 1 21) [.ref q0] [(q0, .inr (8, [.int th, .ref y1, .int (nI uT), .int (nI up), .int (nI uP), .ref y2, .int (nI uR), .ref y3, .int (nI vP), .ref y4, .ref y5, .int (nI vR), .ref y6, .ref y7, .ref y8, .ref y9, .int (nI ua), .ref y10, .ref y11, .int (nI us), .ref y12, .ref y13, .long sd, .int z1, .int z2, .int z3, .int z4, .int z5, .int z6, .int z7, .ref y14]))] [(q0, .inr (8, [.int th, .ref y1, .int (nI uT), .int (nI up), .int (nI uP), .ref y2, .int (nI uR), .ref y3, .int (nI vP), .ref y4, .ref y5, .int (nI vR), .ref y6, .ref y7, .ref y8, .ref y9, .int (nI ua), .ref y10, .ref y11, .int (nI us), .ref y12, .ref y13, .long sd, .int z1, .int z2, .int z3, .int z4, .int z5, .int ((B_X8_findRests_13 0 (-9) 4).1), .int ((B_X8_findRests_13 0 (-9) 4).2), .ref y14]))] none := by
  refine MU.of (by decide +kernel) (Nat.le_of_ble_eq_true rfl) ?_
  intro p e s m args below meth c ls Q A CF hr hlk hP hE hD hS hQ hl
  have hx := CF.1
  have hb := CF.2.1
  have hl : lv_has ls 5 [(0, .ref q0)] := hl
  refine lv_aload_n hx hb dX8_findRests_0 rfl (lv_at hl 0 rfl) ?_
  refine lv_iconst (v := 0) hx hb dX8_findRests_1 (by decide) ?_
  refine r_put (C := RX8) (T := TX8) (N := 31) (ws' := [(q0, .inr (8, [.int th, .ref y1, .int (nI uT), .int (nI up), .int (nI uP), .ref y2, .int (nI uR), .ref y3, .int (nI vP), .ref y4, .ref y5, .int (nI vR), .ref y6, .ref y7, .ref y8, .ref y9, .int (nI ua), .ref y10, .ref y11, .int (nI us), .ref y12, .ref y13, .long sd, .int z1, .int z2, .int z3, .int z4, .int z5, .int 0, .int z7, .ref y14]))]) CF hE hP hD hS 0 rfl rfl inG8 tyX8 tyX8_ok nmX8 28 (by decide) tw_3_143 rfl rfl rfl rfl (Nat.le_of_ble_eq_true rfl) dX8_findRests_2 rfl (fun H locs hP hD hS => ?_)
  refine lv_aload_n hx hb dX8_findRests_5 rfl (lv_at hl 0 rfl) ?_
  refine lv_bipush (v := (-9)) hx hb dX8_findRests_6 (by decide) ?_
  refine r_put (C := RX8) (T := TX8) (N := 31) (ws' := [(q0, .inr (8, [.int th, .ref y1, .int (nI uT), .int (nI up), .int (nI uP), .ref y2, .int (nI uR), .ref y3, .int (nI vP), .ref y4, .ref y5, .int (nI vR), .ref y6, .ref y7, .ref y8, .ref y9, .int (nI ua), .ref y10, .ref y11, .int (nI us), .ref y12, .ref y13, .long sd, .int z1, .int z2, .int z3, .int z4, .int z5, .int 0, .int (-9), .ref y14]))]) CF hE hP hD hS 0 rfl rfl inG8 tyX8 tyX8_ok nmX8 29 (by decide) tw_3_144 rfl rfl rfl rfl (Nat.le_of_ble_eq_true rfl) dX8_findRests_8 rfl (fun H locs hP hD hS => ?_)
  refine lv_iconst (v := 0) hx hb dX8_findRests_11 (by decide) ?_
  refine lv_istore_n (lv' := [(1, .int 0), (0, .ref q0)]) hx hb dX8_findRests_12 rfl hl (by decide) rfl (fun ls hl => ?_)
  have LOOP_13 : ∀ (n_13 k13 : Nat) (x13_0 : Int32) (x13_1 : Int32) (H : Heap) (locs : List Loc) (ls : Array Slot), k13 ≤ 4 → 4 - k13 < n_13 → (B_X8_findRests_13 0 (-9) k13) = (x13_0, x13_1) → va_P D vwCl [(q0, .inr (8, [.int th, .ref y1, .int (nI uT), .int (nI up), .int (nI uP), .ref y2, .int (nI uR), .ref y3, .int (nI vP), .ref y4, .ref y5, .int (nI vR), .ref y6, .ref y7, .ref y8, .ref y9, .int (nI ua), .ref y10, .ref y11, .int (nI us), .ref y12, .ref y13, .long sd, .int z1, .int z2, .int z3, .int z4, .int z5, .int x13_0, .int x13_1, .ref y14]))] H → va_D A [(q0, .inr (8, [.int th, .ref y1, .int (nI uT), .int (nI up), .int (nI uP), .ref y2, .int (nI uR), .ref y3, .int (nI vP), .ref y4, .ref y5, .int (nI vR), .ref y6, .ref y7, .ref y8, .ref y9, .int (nI ua), .ref y10, .ref y11, .int (nI us), .ref y12, .ref y13, .long sd, .int z1, .int z2, .int z3, .int z4, .int z5, .int x13_0, .int x13_1, .ref y14]))] → va_S A s.heap H locs → lv_has ls 5 [(1, .int (nI k13)), (0, .ref q0)] → W p l e (mR 1 21) s m args below meth c H locs 0 0 Q (F0 m 13 ls []) := by
    intro n_13
    induction n_13 with
    | zero => intro k13 x13_0 x13_1 H locs ls hk_13 hn_13 hB_13 hP hD hS hl; exact absurd hn_13 (Nat.not_lt_zero _)
    | succ n_13 ih_13 =>
      intro k13 x13_0 x13_1 H locs ls hk_13 hn_13 hB_13 hP hD hS hl
      refine lv_iload_n hx hb dX8_findRests_13 rfl (lv_at hl 0 rfl) ?_
      refine lv_iconst (v := 4) hx hb dX8_findRests_14 (by decide) ?_
      refine lv_icmp_ge (tgt := 138) hx hb dX8_findRests_15 (by decide) (fun c_1 => ?_) (fun c_1 => ?_)
      · have o_1 : 4 ≤ k13 := (cle (nf_c 4) (rfl : nI k13 = nI k13) (by omega) (by omega)).mp c_1
        have hkN : 4 = k13 := by omega
        subst hkN
        obtain ⟨rfl, rfl⟩ : x13_0 = (B_X8_findRests_13 0 (-9) 4).1 ∧ x13_1 = (B_X8_findRests_13 0 (-9) 4).2 := by rw [hB_13]; exact ⟨rfl, rfl⟩
        exact mu_retv CF hQ hr hlk hP hS dX8_findRests_138 rfl
      · have o_1 : ¬ 4 ≤ k13 := fun h => c_1 ((cle (nf_c 4) (rfl : nI k13 = nI k13) (by omega) (by omega)).mpr h)
        refine lv_iconst (v := 0) hx hb dX8_findRests_18 (by decide) ?_
        refine lv_istore_n (lv' := [(2, .int 0), (1, .int (nI k13)), (0, .ref q0)]) hx hb dX8_findRests_19 rfl hl (by decide) rfl (fun ls hl => ?_)
        have LOOP_20 : ∀ (n_20 k20 : Nat) (x20_0 : Int32) (x20_1 : Int32) (H : Heap) (locs : List Loc) (ls : Array Slot), k20 ≤ 4 → 4 - k20 < n_20 → (B_X8_findRests_20 k13 x13_0 x13_1 k20) = (x20_0, x20_1) → va_P D vwCl [(q0, .inr (8, [.int th, .ref y1, .int (nI uT), .int (nI up), .int (nI uP), .ref y2, .int (nI uR), .ref y3, .int (nI vP), .ref y4, .ref y5, .int (nI vR), .ref y6, .ref y7, .ref y8, .ref y9, .int (nI ua), .ref y10, .ref y11, .int (nI us), .ref y12, .ref y13, .long sd, .int z1, .int z2, .int z3, .int z4, .int z5, .int x20_0, .int x20_1, .ref y14]))] H → va_D A [(q0, .inr (8, [.int th, .ref y1, .int (nI uT), .int (nI up), .int (nI uP), .ref y2, .int (nI uR), .ref y3, .int (nI vP), .ref y4, .ref y5, .int (nI vR), .ref y6, .ref y7, .ref y8, .ref y9, .int (nI ua), .ref y10, .ref y11, .int (nI us), .ref y12, .ref y13, .long sd, .int z1, .int z2, .int z3, .int z4, .int z5, .int x20_0, .int x20_1, .ref y14]))] → va_S A s.heap H locs → lv_has ls 5 [(2, .int (nI k20)), (1, .int (nI k13)), (0, .ref q0)] → W p l e (mR 1 21) s m args below meth c H locs 0 0 Q (F0 m 20 ls []) := by
          intro n_20
          induction n_20 with
          | zero => intro k20 x20_0 x20_1 H locs ls hk_20 hn_20 hB_20 hP hD hS hl; exact absurd hn_20 (Nat.not_lt_zero _)
          | succ n_20 ih_20 =>
            intro k20 x20_0 x20_1 H locs ls hk_20 hn_20 hB_20 hP hD hS hl
            refine lv_iload_n hx hb dX8_findRests_20 rfl (lv_at hl 0 rfl) ?_
            refine lv_iconst (v := 4) hx hb dX8_findRests_21 (by decide) ?_
            refine lv_icmp_ge (tgt := 132) hx hb dX8_findRests_22 (by decide) (fun c_2 => ?_) (fun c_2 => ?_)
            · have o_2 : 4 ≤ k20 := (cle (nf_c 4) (rfl : nI k20 = nI k20) (by omega) (by omega)).mp c_2
              have hkN : 4 = k20 := by omega
              subst hkN
              obtain ⟨rfl, rfl⟩ : x20_0 = (B_X8_findRests_20 k13 x13_0 x13_1 4).1 ∧ x20_1 = (B_X8_findRests_20 k13 x13_0 x13_1 4).2 := by rw [hB_20]; exact ⟨rfl, rfl⟩
              refine lv_iinc (v := (nI (k13 + 1))) (lv' := [(1, .int (nI (k13 + 1))), (2, .int (nI 4)), (0, .ref q0)]) hx hb dX8_findRests_132 hl (k := 1) rfl (nf_inc 1 (rfl : nI k13 = nI k13)) (by decide) rfl (fun ls hl => ?_)
              refine lv_goto (tgt := 13) hx hb dX8_findRests_135 (by decide) ?_
              have hB2 : B_X8_findRests_13 0 (-9) (k13 + 1) = (((B_X8_findRests_20 k13 x13_0 x13_1 4).1), ((B_X8_findRests_20 k13 x13_0 x13_1 4).2)) := by
                rw [B_X8_findRests_13, hB_13]
                show S_X8_findRests_13 k13 x13_0 x13_1 = _
                rw [S_X8_findRests_13]
              exact ih_13 (k13 + 1) ((B_X8_findRests_20 k13 x13_0 x13_1 4).1) ((B_X8_findRests_20 k13 x13_0 x13_1 4).2) _ _ _ (by omega) (by omega) hB2 hP hD hS (lv_sub hl [0, 2] rfl)
            · have o_2 : ¬ 4 ≤ k20 := fun h => c_2 ((cle (nf_c 4) (rfl : nI k20 = nI k20) (by omega) (by omega)).mpr h)
              refine lv_iconst (v := 1) hx hb dX8_findRests_25 (by decide) ?_
              refine lv_istore_n (lv' := [(3, .int 1), (2, .int (nI k20)), (1, .int (nI k13)), (0, .ref q0)]) hx hb dX8_findRests_26 rfl hl (by decide) rfl (fun ls hl => ?_)
              refine lv_iconst (v := 0) hx hb dX8_findRests_27 (by decide) ?_
              refine lv_istore (lv' := [(4, .int 0), (3, .int 1), (2, .int (nI k20)), (1, .int (nI k13)), (0, .ref q0)]) hx hb dX8_findRests_28 hl (by decide) rfl (fun ls hl => ?_)
              have LOOP_30 : ∀ (n_30 k30 : Nat) (x30_0 : Int32) (H : Heap) (locs : List Loc) (ls : Array Slot), k30 ≤ 4 → 4 - k30 < n_30 → (B_X8_findRests_30 k13 k20 1 k30) = x30_0 → va_P D vwCl [(q0, .inr (8, [.int th, .ref y1, .int (nI uT), .int (nI up), .int (nI uP), .ref y2, .int (nI uR), .ref y3, .int (nI vP), .ref y4, .ref y5, .int (nI vR), .ref y6, .ref y7, .ref y8, .ref y9, .int (nI ua), .ref y10, .ref y11, .int (nI us), .ref y12, .ref y13, .long sd, .int z1, .int z2, .int z3, .int z4, .int z5, .int x20_0, .int x20_1, .ref y14]))] H → va_D A [(q0, .inr (8, [.int th, .ref y1, .int (nI uT), .int (nI up), .int (nI uP), .ref y2, .int (nI uR), .ref y3, .int (nI vP), .ref y4, .ref y5, .int (nI vR), .ref y6, .ref y7, .ref y8, .ref y9, .int (nI ua), .ref y10, .ref y11, .int (nI us), .ref y12, .ref y13, .long sd, .int z1, .int z2, .int z3, .int z4, .int z5, .int x20_0, .int x20_1, .ref y14]))] → va_S A s.heap H locs → lv_has ls 5 [(4, .int (nI k30)), (3, .int x30_0), (2, .int (nI k20)), (1, .int (nI k13)), (0, .ref q0)] → W p l e (mR 1 21) s m args below meth c H locs 0 0 Q (F0 m 30 ls []) := by
                intro n_30
                induction n_30 with
                | zero => intro k30 x30_0 H locs ls hk_30 hn_30 hB_30 hP hD hS hl; exact absurd hn_30 (Nat.not_lt_zero _)
                | succ n_30 ih_30 =>
                  intro k30 x30_0 H locs ls hk_30 hn_30 hB_30 hP hD hS hl
                  refine lv_iload hx hb dX8_findRests_30 (lv_at hl 0 rfl) ?_
                  refine lv_iconst (v := 4) hx hb dX8_findRests_32 (by decide) ?_
                  refine lv_icmp_ge (tgt := 80) hx hb dX8_findRests_33 (by decide) (fun c_3 => ?_) (fun c_3 => ?_)
                  · have o_3 : 4 ≤ k30 := (cle (nf_c 4) (rfl : nI k30 = nI k30) (by omega) (by omega)).mp c_3
                    have hkN : 4 = k30 := by omega
                    subst hkN
                    subst hB_30
                    refine lv_aload_n hx hb dX8_findRests_80 rfl (lv_at hl 4 rfl) ?_
                    refine lv_iload_n hx hb dX8_findRests_81 rfl (lv_at hl 1 rfl) ?_
                    refine lv_if_eq (tgt := 101) hx hb dX8_findRests_82 (by decide) (fun c_7 => ?_) (fun c_7 => ?_)
                    · refine lv_aload_n hx hb dX8_findRests_101 rfl (lv_at hl 4 rfl) ?_
                      refine r_get (C := RX8) (T := TX8) (N := 31) (v := .int x20_1) CF hE hP 0 rfl rfl inG8 29 (by decide) tw_3_144 rfl rfl dX8_findRests_102 ?_
                      refine r_put (C := RX8) (T := TX8) (N := 31) (ws' := [(q0, .inr (8, [.int th, .ref y1, .int (nI uT), .int (nI up), .int (nI uP), .ref y2, .int (nI uR), .ref y3, .int (nI vP), .ref y4, .ref y5, .int (nI vR), .ref y6, .ref y7, .ref y8, .ref y9, .int (nI ua), .ref y10, .ref y11, .int (nI us), .ref y12, .ref y13, .long sd, .int z1, .int z2, .int z3, .int z4, .int z5, .int x20_0, .int x20_1, .ref y14]))]) CF hE hP hD hS 0 rfl rfl inG8 tyX8 tyX8_ok nmX8 29 (by decide) tw_3_144 rfl rfl rfl rfl (Nat.le_of_ble_eq_true rfl) dX8_findRests_105 rfl (fun H locs hP hD hS => ?_)
                      refine lv_aload_n hx hb dX8_findRests_108 rfl (lv_at hl 4 rfl) ?_
                      refine lv_dup hx hb dX8_findRests_109 rfl ?_
                      refine r_get (C := RX8) (T := TX8) (N := 31) (v := .int x20_0) CF hE hP 0 rfl rfl inG8 28 (by decide) tw_3_143 rfl rfl dX8_findRests_110 ?_
                      refine lv_iload_n hx hb dX8_findRests_113 rfl (lv_at hl 1 rfl) ?_
                      refine lv_if_eq (tgt := 121) hx hb dX8_findRests_114 (by decide) (fun c_8 => ?_) (fun c_8 => ?_)
                      · refine lv_iconst (v := 0) hx hb dX8_findRests_121 (by decide) ?_
                        refine lv_iadd hx hb dX8_findRests_122 ?_
                        refine r_put (C := RX8) (T := TX8) (N := 31) (ws' := [(q0, .inr (8, [.int th, .ref y1, .int (nI uT), .int (nI up), .int (nI uP), .ref y2, .int (nI uR), .ref y3, .int (nI vP), .ref y4, .ref y5, .int (nI vR), .ref y6, .ref y7, .ref y8, .ref y9, .int (nI ua), .ref y10, .ref y11, .int (nI us), .ref y12, .ref y13, .long sd, .int z1, .int z2, .int z3, .int z4, .int z5, .int (x20_0 + 0), .int x20_1, .ref y14]))]) CF hE hP hD hS 0 rfl rfl inG8 tyX8 tyX8_ok nmX8 28 (by decide) tw_3_143 rfl rfl rfl rfl (Nat.le_of_ble_eq_true rfl) dX8_findRests_123 rfl (fun H locs hP hD hS => ?_)
                        refine lv_iinc (v := (nI (k20 + 1))) (lv' := [(2, .int (nI (k20 + 1))), (4, .int (nI 4)), (3, .int ((B_X8_findRests_30 k13 k20 1 4))), (1, .int (nI k13)), (0, .ref q0)]) hx hb dX8_findRests_126 hl (k := 2) rfl (nf_inc 1 (rfl : nI k20 = nI k20)) (by decide) rfl (fun ls hl => ?_)
                        refine lv_goto (tgt := 20) hx hb dX8_findRests_129 (by decide) ?_
                        have hB2 : B_X8_findRests_20 k13 x13_0 x13_1 (k20 + 1) = ((x20_0 + 0), x20_1) := by
                          rw [B_X8_findRests_20, hB_20]
                          show S_X8_findRests_20 k13 k20 x20_0 x20_1 = _
                          rw [S_X8_findRests_20, if_pos c_7, if_pos c_8]
                        exact ih_20 (k20 + 1) (x20_0 + 0) x20_1 _ _ _ (by omega) (by omega) hB2 hP hD hS (lv_sub hl [0, 3, 4] rfl)
                      · refine lv_iconst (v := 1) hx hb dX8_findRests_117 (by decide) ?_
                        refine lv_goto (tgt := 122) hx hb dX8_findRests_118 (by decide) ?_
                        refine lv_iadd hx hb dX8_findRests_122 ?_
                        refine r_put (C := RX8) (T := TX8) (N := 31) (ws' := [(q0, .inr (8, [.int th, .ref y1, .int (nI uT), .int (nI up), .int (nI uP), .ref y2, .int (nI uR), .ref y3, .int (nI vP), .ref y4, .ref y5, .int (nI vR), .ref y6, .ref y7, .ref y8, .ref y9, .int (nI ua), .ref y10, .ref y11, .int (nI us), .ref y12, .ref y13, .long sd, .int z1, .int z2, .int z3, .int z4, .int z5, .int (x20_0 + 1), .int x20_1, .ref y14]))]) CF hE hP hD hS 0 rfl rfl inG8 tyX8 tyX8_ok nmX8 28 (by decide) tw_3_143 rfl rfl rfl rfl (Nat.le_of_ble_eq_true rfl) dX8_findRests_123 rfl (fun H locs hP hD hS => ?_)
                        refine lv_iinc (v := (nI (k20 + 1))) (lv' := [(2, .int (nI (k20 + 1))), (4, .int (nI 4)), (3, .int ((B_X8_findRests_30 k13 k20 1 4))), (1, .int (nI k13)), (0, .ref q0)]) hx hb dX8_findRests_126 hl (k := 2) rfl (nf_inc 1 (rfl : nI k20 = nI k20)) (by decide) rfl (fun ls hl => ?_)
                        refine lv_goto (tgt := 20) hx hb dX8_findRests_129 (by decide) ?_
                        have hB2 : B_X8_findRests_20 k13 x13_0 x13_1 (k20 + 1) = ((x20_0 + 1), x20_1) := by
                          rw [B_X8_findRests_20, hB_20]
                          show S_X8_findRests_20 k13 k20 x20_0 x20_1 = _
                          rw [S_X8_findRests_20, if_pos c_7, if_neg c_8]
                        exact ih_20 (k20 + 1) (x20_0 + 1) x20_1 _ _ _ (by omega) (by omega) hB2 hP hD hS (lv_sub hl [0, 3, 4] rfl)
                    · refine lv_aload_n hx hb dX8_findRests_85 rfl (lv_at hl 4 rfl) ?_
                      refine r_get (C := RX8) (T := TX8) (N := 31) (v := .int x20_0) CF hE hP 0 rfl rfl inG8 28 (by decide) tw_3_143 rfl rfl dX8_findRests_86 ?_
                      refine lv_if_ne (tgt := 101) hx hb dX8_findRests_89 (by decide) (fun c_9 => ?_) (fun c_9 => ?_)
                      · refine lv_aload_n hx hb dX8_findRests_101 rfl (lv_at hl 4 rfl) ?_
                        refine r_get (C := RX8) (T := TX8) (N := 31) (v := .int x20_1) CF hE hP 0 rfl rfl inG8 29 (by decide) tw_3_144 rfl rfl dX8_findRests_102 ?_
                        refine r_put (C := RX8) (T := TX8) (N := 31) (ws' := [(q0, .inr (8, [.int th, .ref y1, .int (nI uT), .int (nI up), .int (nI uP), .ref y2, .int (nI uR), .ref y3, .int (nI vP), .ref y4, .ref y5, .int (nI vR), .ref y6, .ref y7, .ref y8, .ref y9, .int (nI ua), .ref y10, .ref y11, .int (nI us), .ref y12, .ref y13, .long sd, .int z1, .int z2, .int z3, .int z4, .int z5, .int x20_0, .int x20_1, .ref y14]))]) CF hE hP hD hS 0 rfl rfl inG8 tyX8 tyX8_ok nmX8 29 (by decide) tw_3_144 rfl rfl rfl rfl (Nat.le_of_ble_eq_true rfl) dX8_findRests_105 rfl (fun H locs hP hD hS => ?_)
                        refine lv_aload_n hx hb dX8_findRests_108 rfl (lv_at hl 4 rfl) ?_
                        refine lv_dup hx hb dX8_findRests_109 rfl ?_
                        refine r_get (C := RX8) (T := TX8) (N := 31) (v := .int x20_0) CF hE hP 0 rfl rfl inG8 28 (by decide) tw_3_143 rfl rfl dX8_findRests_110 ?_
                        refine lv_iload_n hx hb dX8_findRests_113 rfl (lv_at hl 1 rfl) ?_
                        refine lv_if_eq (tgt := 121) hx hb dX8_findRests_114 (by decide) (fun c_10 => ?_) (fun c_10 => ?_)
                        · refine lv_iconst (v := 0) hx hb dX8_findRests_121 (by decide) ?_
                          refine lv_iadd hx hb dX8_findRests_122 ?_
                          refine r_put (C := RX8) (T := TX8) (N := 31) (ws' := [(q0, .inr (8, [.int th, .ref y1, .int (nI uT), .int (nI up), .int (nI uP), .ref y2, .int (nI uR), .ref y3, .int (nI vP), .ref y4, .ref y5, .int (nI vR), .ref y6, .ref y7, .ref y8, .ref y9, .int (nI ua), .ref y10, .ref y11, .int (nI us), .ref y12, .ref y13, .long sd, .int z1, .int z2, .int z3, .int z4, .int z5, .int (x20_0 + 0), .int x20_1, .ref y14]))]) CF hE hP hD hS 0 rfl rfl inG8 tyX8 tyX8_ok nmX8 28 (by decide) tw_3_143 rfl rfl rfl rfl (Nat.le_of_ble_eq_true rfl) dX8_findRests_123 rfl (fun H locs hP hD hS => ?_)
                          refine lv_iinc (v := (nI (k20 + 1))) (lv' := [(2, .int (nI (k20 + 1))), (4, .int (nI 4)), (3, .int ((B_X8_findRests_30 k13 k20 1 4))), (1, .int (nI k13)), (0, .ref q0)]) hx hb dX8_findRests_126 hl (k := 2) rfl (nf_inc 1 (rfl : nI k20 = nI k20)) (by decide) rfl (fun ls hl => ?_)
                          refine lv_goto (tgt := 20) hx hb dX8_findRests_129 (by decide) ?_
                          have hB2 : B_X8_findRests_20 k13 x13_0 x13_1 (k20 + 1) = ((x20_0 + 0), x20_1) := by
                            rw [B_X8_findRests_20, hB_20]
                            show S_X8_findRests_20 k13 k20 x20_0 x20_1 = _
                            rw [S_X8_findRests_20, if_neg c_7, if_neg c_9, if_pos c_10]
                          exact ih_20 (k20 + 1) (x20_0 + 0) x20_1 _ _ _ (by omega) (by omega) hB2 hP hD hS (lv_sub hl [0, 3, 4] rfl)
                        · refine lv_iconst (v := 1) hx hb dX8_findRests_117 (by decide) ?_
                          refine lv_goto (tgt := 122) hx hb dX8_findRests_118 (by decide) ?_
                          refine lv_iadd hx hb dX8_findRests_122 ?_
                          refine r_put (C := RX8) (T := TX8) (N := 31) (ws' := [(q0, .inr (8, [.int th, .ref y1, .int (nI uT), .int (nI up), .int (nI uP), .ref y2, .int (nI uR), .ref y3, .int (nI vP), .ref y4, .ref y5, .int (nI vR), .ref y6, .ref y7, .ref y8, .ref y9, .int (nI ua), .ref y10, .ref y11, .int (nI us), .ref y12, .ref y13, .long sd, .int z1, .int z2, .int z3, .int z4, .int z5, .int (x20_0 + 1), .int x20_1, .ref y14]))]) CF hE hP hD hS 0 rfl rfl inG8 tyX8 tyX8_ok nmX8 28 (by decide) tw_3_143 rfl rfl rfl rfl (Nat.le_of_ble_eq_true rfl) dX8_findRests_123 rfl (fun H locs hP hD hS => ?_)
                          refine lv_iinc (v := (nI (k20 + 1))) (lv' := [(2, .int (nI (k20 + 1))), (4, .int (nI 4)), (3, .int ((B_X8_findRests_30 k13 k20 1 4))), (1, .int (nI k13)), (0, .ref q0)]) hx hb dX8_findRests_126 hl (k := 2) rfl (nf_inc 1 (rfl : nI k20 = nI k20)) (by decide) rfl (fun ls hl => ?_)
                          refine lv_goto (tgt := 20) hx hb dX8_findRests_129 (by decide) ?_
                          have hB2 : B_X8_findRests_20 k13 x13_0 x13_1 (k20 + 1) = ((x20_0 + 1), x20_1) := by
                            rw [B_X8_findRests_20, hB_20]
                            show S_X8_findRests_20 k13 k20 x20_0 x20_1 = _
                            rw [S_X8_findRests_20, if_neg c_7, if_neg c_9, if_neg c_10]
                          exact ih_20 (k20 + 1) (x20_0 + 1) x20_1 _ _ _ (by omega) (by omega) hB2 hP hD hS (lv_sub hl [0, 3, 4] rfl)
                      · refine lv_bipush (v := 10) hx hb dX8_findRests_92 (by decide) ?_
                        refine lv_iload_n hx hb dX8_findRests_94 rfl (lv_at hl 3 rfl) ?_
                        refine lv_imul hx hb dX8_findRests_95 ?_
                        refine lv_iload_n hx hb dX8_findRests_96 rfl (lv_at hl 2 rfl) ?_
                        refine lv_iadd hx hb dX8_findRests_97 ?_
                        refine lv_goto (tgt := 105) hx hb dX8_findRests_98 (by decide) ?_
                        refine r_put (C := RX8) (T := TX8) (N := 31) (ws' := [(q0, .inr (8, [.int th, .ref y1, .int (nI uT), .int (nI up), .int (nI uP), .ref y2, .int (nI uR), .ref y3, .int (nI vP), .ref y4, .ref y5, .int (nI vR), .ref y6, .ref y7, .ref y8, .ref y9, .int (nI ua), .ref y10, .ref y11, .int (nI us), .ref y12, .ref y13, .long sd, .int z1, .int z2, .int z3, .int z4, .int z5, .int x20_0, .int ((10 * (nI k13)) + (nI k20)), .ref y14]))]) CF hE hP hD hS 0 rfl rfl inG8 tyX8 tyX8_ok nmX8 29 (by decide) tw_3_144 rfl rfl rfl rfl (Nat.le_of_ble_eq_true rfl) dX8_findRests_105 rfl (fun H locs hP hD hS => ?_)
                        refine lv_aload_n hx hb dX8_findRests_108 rfl (lv_at hl 4 rfl) ?_
                        refine lv_dup hx hb dX8_findRests_109 rfl ?_
                        refine r_get (C := RX8) (T := TX8) (N := 31) (v := .int x20_0) CF hE hP 0 rfl rfl inG8 28 (by decide) tw_3_143 rfl rfl dX8_findRests_110 ?_
                        refine lv_iload_n hx hb dX8_findRests_113 rfl (lv_at hl 1 rfl) ?_
                        refine lv_if_eq (tgt := 121) hx hb dX8_findRests_114 (by decide) (fun c_11 => ?_) (fun c_11 => ?_)
                        · refine lv_iconst (v := 0) hx hb dX8_findRests_121 (by decide) ?_
                          refine lv_iadd hx hb dX8_findRests_122 ?_
                          refine r_put (C := RX8) (T := TX8) (N := 31) (ws' := [(q0, .inr (8, [.int th, .ref y1, .int (nI uT), .int (nI up), .int (nI uP), .ref y2, .int (nI uR), .ref y3, .int (nI vP), .ref y4, .ref y5, .int (nI vR), .ref y6, .ref y7, .ref y8, .ref y9, .int (nI ua), .ref y10, .ref y11, .int (nI us), .ref y12, .ref y13, .long sd, .int z1, .int z2, .int z3, .int z4, .int z5, .int (x20_0 + 0), .int ((10 * (nI k13)) + (nI k20)), .ref y14]))]) CF hE hP hD hS 0 rfl rfl inG8 tyX8 tyX8_ok nmX8 28 (by decide) tw_3_143 rfl rfl rfl rfl (Nat.le_of_ble_eq_true rfl) dX8_findRests_123 rfl (fun H locs hP hD hS => ?_)
                          refine lv_iinc (v := (nI (k20 + 1))) (lv' := [(2, .int (nI (k20 + 1))), (4, .int (nI 4)), (3, .int ((B_X8_findRests_30 k13 k20 1 4))), (1, .int (nI k13)), (0, .ref q0)]) hx hb dX8_findRests_126 hl (k := 2) rfl (nf_inc 1 (rfl : nI k20 = nI k20)) (by decide) rfl (fun ls hl => ?_)
                          refine lv_goto (tgt := 20) hx hb dX8_findRests_129 (by decide) ?_
                          have hB2 : B_X8_findRests_20 k13 x13_0 x13_1 (k20 + 1) = ((x20_0 + 0), ((10 * (nI k13)) + (nI k20))) := by
                            rw [B_X8_findRests_20, hB_20]
                            show S_X8_findRests_20 k13 k20 x20_0 x20_1 = _
                            rw [S_X8_findRests_20, if_neg c_7, if_pos c_9, if_pos c_11]
                          exact ih_20 (k20 + 1) (x20_0 + 0) ((10 * (nI k13)) + (nI k20)) _ _ _ (by omega) (by omega) hB2 hP hD hS (lv_sub hl [0, 3, 4] rfl)
                        · refine lv_iconst (v := 1) hx hb dX8_findRests_117 (by decide) ?_
                          refine lv_goto (tgt := 122) hx hb dX8_findRests_118 (by decide) ?_
                          refine lv_iadd hx hb dX8_findRests_122 ?_
                          refine r_put (C := RX8) (T := TX8) (N := 31) (ws' := [(q0, .inr (8, [.int th, .ref y1, .int (nI uT), .int (nI up), .int (nI uP), .ref y2, .int (nI uR), .ref y3, .int (nI vP), .ref y4, .ref y5, .int (nI vR), .ref y6, .ref y7, .ref y8, .ref y9, .int (nI ua), .ref y10, .ref y11, .int (nI us), .ref y12, .ref y13, .long sd, .int z1, .int z2, .int z3, .int z4, .int z5, .int (x20_0 + 1), .int ((10 * (nI k13)) + (nI k20)), .ref y14]))]) CF hE hP hD hS 0 rfl rfl inG8 tyX8 tyX8_ok nmX8 28 (by decide) tw_3_143 rfl rfl rfl rfl (Nat.le_of_ble_eq_true rfl) dX8_findRests_123 rfl (fun H locs hP hD hS => ?_)
                          refine lv_iinc (v := (nI (k20 + 1))) (lv' := [(2, .int (nI (k20 + 1))), (4, .int (nI 4)), (3, .int ((B_X8_findRests_30 k13 k20 1 4))), (1, .int (nI k13)), (0, .ref q0)]) hx hb dX8_findRests_126 hl (k := 2) rfl (nf_inc 1 (rfl : nI k20 = nI k20)) (by decide) rfl (fun ls hl => ?_)
                          refine lv_goto (tgt := 20) hx hb dX8_findRests_129 (by decide) ?_
                          have hB2 : B_X8_findRests_20 k13 x13_0 x13_1 (k20 + 1) = ((x20_0 + 1), ((10 * (nI k13)) + (nI k20))) := by
                            rw [B_X8_findRests_20, hB_20]
                            show S_X8_findRests_20 k13 k20 x20_0 x20_1 = _
                            rw [S_X8_findRests_20, if_neg c_7, if_pos c_9, if_neg c_11]
                          exact ih_20 (k20 + 1) (x20_0 + 1) ((10 * (nI k13)) + (nI k20)) _ _ _ (by omega) (by omega) hB2 hP hD hS (lv_sub hl [0, 3, 4] rfl)
                  · have o_3 : ¬ 4 ≤ k30 := fun h => c_3 ((cle (nf_c 4) (rfl : nI k30 = nI k30) (by omega) (by omega)).mpr h)
                    refine lv_iload_n hx hb dX8_findRests_36 rfl (lv_at hl 1 rfl) ?_
                    refine lv_if_eq (tgt := 72) hx hb dX8_findRests_37 (by decide) (fun c_4 => ?_) (fun c_4 => ?_)
                    · refine lv_iconst (v := 0) hx hb dX8_findRests_72 (by decide) ?_
                      refine lv_istore_n (lv' := [(3, .int 0), (4, .int (nI k30)), (2, .int (nI k20)), (1, .int (nI k13)), (0, .ref q0)]) hx hb dX8_findRests_73 rfl hl (by decide) rfl (fun ls hl => ?_)
                      refine lv_iinc (v := (nI (k30 + 1))) (lv' := [(4, .int (nI (k30 + 1))), (3, .int 0), (2, .int (nI k20)), (1, .int (nI k13)), (0, .ref q0)]) hx hb dX8_findRests_74 hl (k := 1) rfl (nf_inc 1 (rfl : nI k30 = nI k30)) (by decide) rfl (fun ls hl => ?_)
                      refine lv_goto (tgt := 30) hx hb dX8_findRests_77 (by decide) ?_
                      have hB2 : B_X8_findRests_30 k13 k20 1 (k30 + 1) = 0 := by
                        rw [B_X8_findRests_30, hB_30]
                        rw [S_X8_findRests_30, if_pos c_4]
                      exact ih_30 (k30 + 1) 0 _ _ _ (by omega) (by omega) hB2 hP hD hS (lv_sub hl [0, 1, 2, 3, 4] rfl)
                    · refine lv_iload hx hb dX8_findRests_40 (lv_at hl 0 rfl) ?_
                      refine lv_iload_n hx hb dX8_findRests_42 rfl (lv_at hl 2 rfl) ?_
                      refine ro_S (y := yX8_pays) (As := [.int (nI k30), .int (nI k20)]) (rest := []) CF (c_X8_pays l D cI cZ (nI k30) (nI k20)) lk_X8_208 hE rfl hl.1 rfl (Nat.le_of_ble_eq_true rfl) ⟨Nat.le_of_ble_eq_true rfl, Nat.le_of_ble_eq_true rfl, rfl, rfl⟩ ⟨Nat.zero_le _, Nat.zero_le _⟩ dX8_findRests_43 ?_
                      refine lv_iload_n hx hb dX8_findRests_46 rfl (lv_at hl 3 rfl) ?_
                      refine lv_iload_n hx hb dX8_findRests_47 rfl (lv_at hl 2 rfl) ?_
                      refine ro_S (y := yX8_pays) (As := [.int (nI k13), .int (nI k20)]) (rest := [.int (f_X8_pays (nI k30) (nI k20))]) CF (c_X8_pays l D cI cZ (nI k13) (nI k20)) lk_X8_208 hE rfl hl.1 rfl (Nat.le_of_ble_eq_true rfl) ⟨Nat.le_of_ble_eq_true rfl, Nat.le_of_ble_eq_true rfl, rfl, rfl⟩ ⟨Nat.zero_le _, Nat.zero_le _⟩ dX8_findRests_48 ?_
                      refine lv_icmp_lt (tgt := 72) hx hb dX8_findRests_51 (by decide) (fun c_5 => ?_) (fun c_5 => ?_)
                      · refine lv_iconst (v := 0) hx hb dX8_findRests_72 (by decide) ?_
                        refine lv_istore_n (lv' := [(3, .int 0), (4, .int (nI k30)), (2, .int (nI k20)), (1, .int (nI k13)), (0, .ref q0)]) hx hb dX8_findRests_73 rfl hl (by decide) rfl (fun ls hl => ?_)
                        refine lv_iinc (v := (nI (k30 + 1))) (lv' := [(4, .int (nI (k30 + 1))), (3, .int 0), (2, .int (nI k20)), (1, .int (nI k13)), (0, .ref q0)]) hx hb dX8_findRests_74 hl (k := 1) rfl (nf_inc 1 (rfl : nI k30 = nI k30)) (by decide) rfl (fun ls hl => ?_)
                        refine lv_goto (tgt := 30) hx hb dX8_findRests_77 (by decide) ?_
                        have hB2 : B_X8_findRests_30 k13 k20 1 (k30 + 1) = 0 := by
                          rw [B_X8_findRests_30, hB_30]
                          rw [S_X8_findRests_30, if_neg c_4, if_pos c_5]
                        exact ih_30 (k30 + 1) 0 _ _ _ (by omega) (by omega) hB2 hP hD hS (lv_sub hl [0, 1, 2, 3, 4] rfl)
                      · refine lv_iload hx hb dX8_findRests_54 (lv_at hl 0 rfl) ?_
                        refine lv_iload_n hx hb dX8_findRests_56 rfl (lv_at hl 3 rfl) ?_
                        refine ro_S (y := yX8_pays) (As := [.int (nI k30), .int (nI k13)]) (rest := []) CF (c_X8_pays l D cI cZ (nI k30) (nI k13)) lk_X8_208 hE rfl hl.1 rfl (Nat.le_of_ble_eq_true rfl) ⟨Nat.le_of_ble_eq_true rfl, Nat.le_of_ble_eq_true rfl, rfl, rfl⟩ ⟨Nat.zero_le _, Nat.zero_le _⟩ dX8_findRests_57 ?_
                        refine lv_iload_n hx hb dX8_findRests_60 rfl (lv_at hl 2 rfl) ?_
                        refine lv_iload_n hx hb dX8_findRests_61 rfl (lv_at hl 3 rfl) ?_
                        refine ro_S (y := yX8_pays) (As := [.int (nI k20), .int (nI k13)]) (rest := [.int (f_X8_pays (nI k30) (nI k13))]) CF (c_X8_pays l D cI cZ (nI k20) (nI k13)) lk_X8_208 hE rfl hl.1 rfl (Nat.le_of_ble_eq_true rfl) ⟨Nat.le_of_ble_eq_true rfl, Nat.le_of_ble_eq_true rfl, rfl, rfl⟩ ⟨Nat.zero_le _, Nat.zero_le _⟩ dX8_findRests_62 ?_
                        refine lv_icmp_lt (tgt := 72) hx hb dX8_findRests_65 (by decide) (fun c_6 => ?_) (fun c_6 => ?_)
                        · refine lv_iconst (v := 0) hx hb dX8_findRests_72 (by decide) ?_
                          refine lv_istore_n (lv' := [(3, .int 0), (4, .int (nI k30)), (2, .int (nI k20)), (1, .int (nI k13)), (0, .ref q0)]) hx hb dX8_findRests_73 rfl hl (by decide) rfl (fun ls hl => ?_)
                          refine lv_iinc (v := (nI (k30 + 1))) (lv' := [(4, .int (nI (k30 + 1))), (3, .int 0), (2, .int (nI k20)), (1, .int (nI k13)), (0, .ref q0)]) hx hb dX8_findRests_74 hl (k := 1) rfl (nf_inc 1 (rfl : nI k30 = nI k30)) (by decide) rfl (fun ls hl => ?_)
                          refine lv_goto (tgt := 30) hx hb dX8_findRests_77 (by decide) ?_
                          have hB2 : B_X8_findRests_30 k13 k20 1 (k30 + 1) = 0 := by
                            rw [B_X8_findRests_30, hB_30]
                            rw [S_X8_findRests_30, if_neg c_4, if_neg c_5, if_pos c_6]
                          exact ih_30 (k30 + 1) 0 _ _ _ (by omega) (by omega) hB2 hP hD hS (lv_sub hl [0, 1, 2, 3, 4] rfl)
                        · refine lv_iconst (v := 1) hx hb dX8_findRests_68 (by decide) ?_
                          refine lv_goto (tgt := 73) hx hb dX8_findRests_69 (by decide) ?_
                          refine lv_istore_n (lv' := [(3, .int 1), (4, .int (nI k30)), (2, .int (nI k20)), (1, .int (nI k13)), (0, .ref q0)]) hx hb dX8_findRests_73 rfl hl (by decide) rfl (fun ls hl => ?_)
                          refine lv_iinc (v := (nI (k30 + 1))) (lv' := [(4, .int (nI (k30 + 1))), (3, .int 1), (2, .int (nI k20)), (1, .int (nI k13)), (0, .ref q0)]) hx hb dX8_findRests_74 hl (k := 1) rfl (nf_inc 1 (rfl : nI k30 = nI k30)) (by decide) rfl (fun ls hl => ?_)
                          refine lv_goto (tgt := 30) hx hb dX8_findRests_77 (by decide) ?_
                          have hB2 : B_X8_findRests_30 k13 k20 1 (k30 + 1) = 1 := by
                            rw [B_X8_findRests_30, hB_30]
                            rw [S_X8_findRests_30, if_neg c_4, if_neg c_5, if_neg c_6]
                          exact ih_30 (k30 + 1) 1 _ _ _ (by omega) (by omega) hB2 hP hD hS (lv_sub hl [0, 1, 2, 3, 4] rfl)
              have e_k : 0 = nI (0) := (nf_c 0).trans (congrArg nI (by omega))
              rw [e_k] at hl
              exact LOOP_30 (4 - 0 + 1) 0 1 _ _ _ (Nat.zero_le _) (by omega) rfl hP hD hS (lv_sub hl [0, 1, 2, 3, 4] rfl)
        have e_k : 0 = nI (0) := (nf_c 0).trans (congrArg nI (by omega))
        rw [e_k] at hl
        exact LOOP_20 (4 - 0 + 1) 0 x13_0 x13_1 _ _ _ (Nat.zero_le _) (by omega) rfl hP hD hS (lv_sub hl [0, 1, 2] rfl)
  have e_k : 0 = nI (0) := (nf_c 0).trans (congrArg nI (by omega))
  rw [e_k] at hl
  exact LOOP_13 (4 - 0 + 1) 0 0 (-9) _ _ _ (Nat.zero_le _) (by omega) rfl hP hD hS (lv_sub hl [0, 1] rfl)
theorem lk_X8_211 : mLkV RX8 211 yX8_findRests cX8_findRests 5 none 0 := ⟨⟨tw_4_170, tw_1_10, tw_4_173, ⟨by decide +kernel, by decide +kernel, by decide +kernel⟩⟩, tw_4_172, tp_3_2⟩
def f_X8_rests (a1 : Int32) : Int32 :=
  (if (f_X8_in a1.toInt64 0 1) = 0 then (-2) else (if a1 = 0 then ((B_X8_findRests_13 0 (-9) 4).1) else ((B_X8_findRests_13 0 (-9) 4).2)))
def f_X8_rests_th (a1 : Int32) : Int32 :=
  (if (f_X8_in a1.toInt64 0 1) = 0 then 0 else (if a1 = 0 then 0 else 0))
def f_X8_rests_z6 (z6 : Int32) (a1 : Int32) : Int32 :=
  (if (f_X8_in a1.toInt64 0 1) = 0 then z6 else (if a1 = 0 then ((B_X8_findRests_13 0 (-9) 4).1) else ((B_X8_findRests_13 0 (-9) 4).1)))
def f_X8_rests_z7 (z7 : Int32) (a1 : Int32) : Int32 :=
  (if (f_X8_in a1.toInt64 0 1) = 0 then z7 else (if a1 = 0 then ((B_X8_findRests_13 0 (-9) 4).2) else ((B_X8_findRests_13 0 (-9) 4).2)))
set_option maxRecDepth 100000 in
set_option maxHeartbeats 4000000 in
theorem c_X8_rests (l : Launch) (D : va_G) (cI cZ : ClassId) (q0 y1 y2 y3 y4 y5 y6 y7 y8 y9 y10 y11 y12 y13 y14 : Nat) (th : Int32) (uT : Nat) (up : Nat) (uP : Nat) (uR : Nat) (vP : Nat) (vR : Nat) (ua : Nat) (us : Nat) (sd : Int64) (z1 : Int32) (z2 : Int32) (z3 : Int32) (z4 : Int32) (z5 : Int32) (z6 : Int32) (z7 : Int32) (a1 : Int32) : MU l D cI cZ yX8_rests cX8_rests 2 (some .int) (mR 2 45) [.ref q0, .int a1] [(q0, .inr (8, [.int th, .ref y1, .int (nI uT), .int (nI up), .int (nI uP), .ref y2, .int (nI uR), .ref y3, .int (nI vP), .ref y4, .ref y5, .int (nI vR), .ref y6, .ref y7, .ref y8, .ref y9, .int (nI ua), .ref y10, .ref y11, .int (nI us), .ref y12, .ref y13, .long sd, .int z1, .int z2, .int z3, .int z4, .int z5, .int z6, .int z7, .ref y14]))] [(q0, .inr (8, [.int (f_X8_rests_th a1), .ref y1, .int (nI uT), .int (nI up), .int (nI uP), .ref y2, .int (nI uR), .ref y3, .int (nI vP), .ref y4, .ref y5, .int (nI vR), .ref y6, .ref y7, .ref y8, .ref y9, .int (nI ua), .ref y10, .ref y11, .int (nI us), .ref y12, .ref y13, .long sd, .int z1, .int z2, .int z3, .int z4, .int z5, .int (f_X8_rests_z6 z6 a1), .int (f_X8_rests_z7 z7 a1), .ref y14]))] (some (.int (f_X8_rests a1))) := by
  refine MU.of (by decide +kernel) (Nat.le_of_ble_eq_true rfl) ?_
  intro p e s m args below meth c ls Q A CF hr hlk hP hE hD hS hQ hl
  have hx := CF.1
  have hb := CF.2.1
  have hl : lv_has ls 2 [(0, .ref q0), (1, .int a1)] := hl
  refine lv_aload_n hx hb dX8_rests_0 rfl (lv_at hl 0 rfl) ?_
  refine lv_iconst (v := 0) hx hb dX8_rests_1 (by decide) ?_
  refine r_put (C := RX8) (T := TX8) (N := 31) (ws' := [(q0, .inr (8, [.int 0, .ref y1, .int (nI uT), .int (nI up), .int (nI uP), .ref y2, .int (nI uR), .ref y3, .int (nI vP), .ref y4, .ref y5, .int (nI vR), .ref y6, .ref y7, .ref y8, .ref y9, .int (nI ua), .ref y10, .ref y11, .int (nI us), .ref y12, .ref y13, .long sd, .int z1, .int z2, .int z3, .int z4, .int z5, .int z6, .int z7, .ref y14]))]) CF hE hP hD hS 0 rfl rfl inG8 tyX8 tyX8_ok nmX8 0 (by decide) tw_3_115 rfl rfl rfl rfl (Nat.le_of_ble_eq_true rfl) dX8_rests_2 rfl (fun H locs hP hD hS => ?_)
  refine lv_iload_n hx hb dX8_rests_5 rfl (lv_at hl 1 rfl) ?_
  refine lv_i2l (v := a1.toInt64) hx hb dX8_rests_6 rfl ?_
  refine lv_lconst (v := 0) hx hb dX8_rests_7 (by decide) ?_
  refine lv_lconst (v := 1) hx hb dX8_rests_8 (by decide) ?_
  refine ro_S (y := yX8_in) (As := [.long a1.toInt64, .long 0, .long 1]) (rest := []) CF (c_X8_in l D cI cZ a1.toInt64 0 1) lk_X8_60 hE rfl hl.1 rfl (Nat.le_of_ble_eq_true rfl) ⟨Nat.le_of_ble_eq_true rfl, Nat.le_of_ble_eq_true rfl, rfl, rfl⟩ ⟨Nat.zero_le _, Nat.zero_le _⟩ dX8_rests_9 ?_
  refine lv_if_ne (tgt := 18) hx hb dX8_rests_12 (by decide) (fun c_1 => ?_) (fun c_1 => ?_)
  · have ni_2 : (0 : Int32) ≤ a1 ∧ a1 ≤ nI 1 := in_ne (a := 0) (b := nI 1) c_1
    have ni_2n := rng_tn ni_2 (by decide) (by decide)
    have ni_2l := ni_2n.2
    refine lv_aload_n hx hb dX8_rests_18 rfl (lv_at hl 0 rfl) ?_
    refine mu_Vv (y := yX8_findRests) (As := []) (rest := []) (q0 := 0) (ws' := [(q0, .inr (8, [.int 0, .ref y1, .int (nI uT), .int (nI up), .int (nI uP), .ref y2, .int (nI uR), .ref y3, .int (nI vP), .ref y4, .ref y5, .int (nI vR), .ref y6, .ref y7, .ref y8, .ref y9, .int (nI ua), .ref y10, .ref y11, .int (nI us), .ref y12, .ref y13, .long sd, .int z1, .int z2, .int z3, .int z4, .int z5, .int ((B_X8_findRests_13 0 (-9) 4).1), .int ((B_X8_findRests_13 0 (-9) 4).2), .ref y14]))]) (ad := [q0]) CF (c_X8_findRests l D cI cZ q0 y1 y2 y3 y4 y5 y6 y7 y8 y9 y10 y11 y12 y13 y14 0 uT up uP uR vP vR ua us sd z1 z2 z3 z4 z5 z6 z7) lk_X8_211 hP hE hD hS [0] rfl (by decide) (Nat.le_of_ble_eq_true rfl) rfl rfl rfl rfl rfl rfl hl.1 rfl (Nat.le_of_ble_eq_true rfl) ⟨Nat.le_of_ble_eq_true rfl, Nat.le_of_ble_eq_true rfl, rfl, rfl⟩ ⟨Nat.zero_le _, Nat.zero_le _⟩ dX8_rests_19 (fun H locs hP hD hS => ?_)
    refine lv_iload_n hx hb dX8_rests_22 rfl (lv_at hl 1 rfl) ?_
    refine lv_if_ne (tgt := 33) hx hb dX8_rests_23 (by decide) (fun c_3 => ?_) (fun c_3 => ?_)
    · refine lv_aload_n hx hb dX8_rests_33 rfl (lv_at hl 0 rfl) ?_
      refine r_get (C := RX8) (T := TX8) (N := 31) (v := .int ((B_X8_findRests_13 0 (-9) 4).2)) CF hE hP 0 rfl rfl inG8 29 (by decide) tw_3_144 rfl rfl dX8_rests_34 ?_
      have e_0 : (f_X8_rests_th a1) = 0 := by rw [f_X8_rests_th, if_neg c_1, if_neg c_3]
      have e_1 : (f_X8_rests_z6 z6 a1) = ((B_X8_findRests_13 0 (-9) 4).1) := by rw [f_X8_rests_z6, if_neg c_1, if_neg c_3]
      have e_2 : (f_X8_rests_z7 z7 a1) = ((B_X8_findRests_13 0 (-9) 4).2) := by rw [f_X8_rests_z7, if_neg c_1, if_neg c_3]
      exact mu_reti CF hQ hr hlk rfl hP hS dX8_rests_37 (by rw [f_X8_rests, if_neg c_1, if_neg c_3]) (by rw [e_0, e_1, e_2])
    · refine lv_aload_n hx hb dX8_rests_26 rfl (lv_at hl 0 rfl) ?_
      refine r_get (C := RX8) (T := TX8) (N := 31) (v := .int ((B_X8_findRests_13 0 (-9) 4).1)) CF hE hP 0 rfl rfl inG8 28 (by decide) tw_3_143 rfl rfl dX8_rests_27 ?_
      refine lv_goto (tgt := 37) hx hb dX8_rests_30 (by decide) ?_
      have e_0 : (f_X8_rests_th a1) = 0 := by rw [f_X8_rests_th, if_neg c_1, if_pos c_3]
      have e_1 : (f_X8_rests_z6 z6 a1) = ((B_X8_findRests_13 0 (-9) 4).1) := by rw [f_X8_rests_z6, if_neg c_1, if_pos c_3]
      have e_2 : (f_X8_rests_z7 z7 a1) = ((B_X8_findRests_13 0 (-9) 4).2) := by rw [f_X8_rests_z7, if_neg c_1, if_pos c_3]
      exact mu_reti CF hQ hr hlk rfl hP hS dX8_rests_37 (by rw [f_X8_rests, if_neg c_1, if_pos c_3]) (by rw [e_0, e_1, e_2])
  · refine lv_bipush (v := (-2)) hx hb dX8_rests_15 (by decide) ?_
    have e_0 : (f_X8_rests_th a1) = 0 := by rw [f_X8_rests_th, if_pos c_1]
    have e_1 : (f_X8_rests_z6 z6 a1) = z6 := by rw [f_X8_rests_z6, if_pos c_1]
    have e_2 : (f_X8_rests_z7 z7 a1) = z7 := by rw [f_X8_rests_z7, if_pos c_1]
    exact mu_reti CF hQ hr hlk rfl hP hS dX8_rests_17 (by rw [f_X8_rests, if_pos c_1]) (by rw [e_0, e_1, e_2])
set_option maxRecDepth 100000 in
set_option maxHeartbeats 4000000 in
theorem c_X8_seed (l : Launch) (D : va_G) (cI cZ : ClassId) (q0 y1 y2 y3 y4 y5 y6 y7 y8 y9 y10 y11 y12 y13 y14 : Nat) (th : Int32) (uT : Nat) (up : Nat) (uP : Nat) (uR : Nat) (vP : Nat) (vR : Nat) (ua : Nat) (us : Nat) (sd : Int64) (z1 : Int32) (z2 : Int32) (z3 : Int32) (z4 : Int32) (z5 : Int32) (z6 : Int32) (z7 : Int32) (a1 : Int64) : MU l D cI cZ yX8_seed cX8_seed 5 (some .long) (mR 0 0) [.ref q0, .long a1] [(q0, .inr (8, [.int th, .ref y1, .int (nI uT), .int (nI up), .int (nI uP), .ref y2, .int (nI uR), .ref y3, .int (nI vP), .ref y4, .ref y5, .int (nI vR), .ref y6, .ref y7, .ref y8, .ref y9, .int (nI ua), .ref y10, .ref y11, .int (nI us), .ref y12, .ref y13, .long sd, .int z1, .int z2, .int z3, .int z4, .int z5, .int z6, .int z7, .ref y14]))] [(q0, .inr (8, [.int 0, .ref y1, .int (nI uT), .int (nI up), .int (nI uP), .ref y2, .int (nI uR), .ref y3, .int (nI vP), .ref y4, .ref y5, .int (nI vR), .ref y6, .ref y7, .ref y8, .ref y9, .int (nI ua), .ref y10, .ref y11, .int (nI us), .ref y12, .ref y13, .long a1, .int z1, .int z2, .int z3, .int z4, .int z5, .int z6, .int z7, .ref y14]))] (some (.long sd)) := by
  refine MU.of (by decide +kernel) (Nat.le_of_ble_eq_true rfl) ?_
  intro p e s m args below meth c ls Q A CF hr hlk hP hE hD hS hQ hl
  have hx := CF.1
  have hb := CF.2.1
  have hl : lv_has ls 5 [(0, .ref q0), (1, .long a1)] := hl
  refine lv_aload_n hx hb dX8_seed_0 rfl (lv_at hl 0 rfl) ?_
  refine lv_iconst (v := 0) hx hb dX8_seed_1 (by decide) ?_
  refine r_put (C := RX8) (T := TX8) (N := 31) (ws' := [(q0, .inr (8, [.int 0, .ref y1, .int (nI uT), .int (nI up), .int (nI uP), .ref y2, .int (nI uR), .ref y3, .int (nI vP), .ref y4, .ref y5, .int (nI vR), .ref y6, .ref y7, .ref y8, .ref y9, .int (nI ua), .ref y10, .ref y11, .int (nI us), .ref y12, .ref y13, .long sd, .int z1, .int z2, .int z3, .int z4, .int z5, .int z6, .int z7, .ref y14]))]) CF hE hP hD hS 0 rfl rfl inG8 tyX8 tyX8_ok nmX8 0 (by decide) tw_3_115 rfl rfl rfl rfl (Nat.le_of_ble_eq_true rfl) dX8_seed_2 rfl (fun H locs hP hD hS => ?_)
  refine lv_aload_n hx hb dX8_seed_5 rfl (lv_at hl 0 rfl) ?_
  refine r_get (C := RX8) (T := TX8) (N := 31) (v := .long sd) CF hE hP 0 rfl rfl inG8 22 (by decide) tw_3_137 rfl rfl dX8_seed_6 ?_
  refine lv_lstore_n (lv' := [(3, .long sd), (0, .ref q0), (1, .long a1)]) hx hb dX8_seed_9 rfl hl (by decide) rfl (fun ls hl => ?_)
  refine lv_aload_n hx hb dX8_seed_10 rfl (lv_at hl 1 rfl) ?_
  refine lv_lload_n hx hb dX8_seed_11 rfl (lv_at hl 2 rfl) ?_
  refine r_put (C := RX8) (T := TX8) (N := 31) (ws' := [(q0, .inr (8, [.int 0, .ref y1, .int (nI uT), .int (nI up), .int (nI uP), .ref y2, .int (nI uR), .ref y3, .int (nI vP), .ref y4, .ref y5, .int (nI vR), .ref y6, .ref y7, .ref y8, .ref y9, .int (nI ua), .ref y10, .ref y11, .int (nI us), .ref y12, .ref y13, .long a1, .int z1, .int z2, .int z3, .int z4, .int z5, .int z6, .int z7, .ref y14]))]) CF hE hP hD hS 0 rfl rfl inG8 tyX8 tyX8_ok nmX8 22 (by decide) tw_3_137 rfl rfl rfl rfl (Nat.le_of_ble_eq_true rfl) dX8_seed_12 rfl (fun H locs hP hD hS => ?_)
  refine lv_lload_n hx hb dX8_seed_15 rfl (lv_at hl 0 rfl) ?_
  exact mu_retl CF hQ hr hlk hP hS dX8_seed_16 rfl rfl
def S_X8_keep_26 (pg : Nat → Int32) (a1 : Int32) (k26 : Nat) (x26_0 : Nat → Int32) : (Nat → Int32) :=
  (upd x26_0 ((15 * a1.toNatClampNeg) + k26) (pg k26))
def B_X8_keep_26 (pg : Nat → Int32) (a1 : Int32) (i0 : Nat → Int32) : Nat → (Nat → Int32)
  | 0 => i0
  | k + 1 => S_X8_keep_26 pg a1 k (B_X8_keep_26 pg a1 i0 k)
def f_X8_keep (uP : Nat) (pg : Nat → Int32) (a1 : Int32) : Int32 :=
  (if (f_X8_in a1.toInt64 0 1) = 0 then (-1) else ((B_X8_finesOf_4 pg 0 uP)))
def f_X8_keep_th (a1 : Int32) : Int32 :=
  (if (f_X8_in a1.toInt64 0 1) = 0 then 0 else 0)
def f_X8_keep_kp (pg : Nat → Int32) (kp : Nat → Int32) (a1 : Int32) : Nat → Int32 :=
  (if (f_X8_in a1.toInt64 0 1) = 0 then kp else ((B_X8_keep_26 pg a1 kp 15)))
def f_X8_keep_ik (ik : Nat → Int32) (a1 : Int32) : Nat → Int32 :=
  (if (f_X8_in a1.toInt64 0 1) = 0 then ik else (upd ik a1.toNatClampNeg 1))
set_option maxRecDepth 100000 in
set_option maxHeartbeats 4000000 in
theorem c_X8_keep (l : Launch) (D : va_G) (cI cZ : ClassId) (q0 y1 y2 y3 y4 y5 y6 y7 y8 y9 y10 y11 y12 y13 y14 : Nat) (th : Int32) (uT : Nat) (up : Nat) (uP : Nat) (uR : Nat) (vP : Nat) (vR : Nat) (ua : Nat) (us : Nat) (sd : Int64) (z1 : Int32) (z2 : Int32) (z3 : Int32) (z4 : Int32) (z5 : Int32) (z6 : Int32) (z7 : Int32) (pg : Nat → Int32) (kp : Nat → Int32) (ik : Nat → Int32) (a1 : Int32) (hu5 : uP ≤ 5) : MU l D cI cZ yX8_keep cX8_keep 3 (some .int) (mR 1 25) [.ref q0, .int a1] [(q0, .inr (8, [.int th, .ref y1, .int (nI uT), .int (nI up), .int (nI uP), .ref y2, .int (nI uR), .ref y3, .int (nI vP), .ref y4, .ref y5, .int (nI vR), .ref y6, .ref y7, .ref y8, .ref y9, .int (nI ua), .ref y10, .ref y11, .int (nI us), .ref y12, .ref y13, .long sd, .int z1, .int z2, .int z3, .int z4, .int z5, .int z6, .int z7, .ref y14])), (y7, .inl (cI, 15, .inl pg)), (y10, .inl (cI, 30, .inl kp)), (y11, .inl (cZ, 2, .inl ik))] [(q0, .inr (8, [.int (f_X8_keep_th a1), .ref y1, .int (nI uT), .int (nI up), .int (nI uP), .ref y2, .int (nI uR), .ref y3, .int (nI vP), .ref y4, .ref y5, .int (nI vR), .ref y6, .ref y7, .ref y8, .ref y9, .int (nI ua), .ref y10, .ref y11, .int (nI us), .ref y12, .ref y13, .long sd, .int z1, .int z2, .int z3, .int z4, .int z5, .int z6, .int z7, .ref y14])), (y7, .inl (cI, 15, .inl pg)), (y10, .inl (cI, 30, .inl (f_X8_keep_kp pg kp a1))), (y11, .inl (cZ, 2, .inl (f_X8_keep_ik ik a1)))] (some (.int (f_X8_keep uP pg a1))) := by
  refine MU.of (by decide +kernel) (Nat.le_of_ble_eq_true rfl) ?_
  intro p e s m args below meth c ls Q A CF hr hlk hP hE hD hS hQ hl
  have hx := CF.1
  have hb := CF.2.1
  have hl : lv_has ls 3 [(0, .ref q0), (1, .int a1)] := hl
  refine lv_aload_n hx hb dX8_keep_0 rfl (lv_at hl 0 rfl) ?_
  refine lv_iconst (v := 0) hx hb dX8_keep_1 (by decide) ?_
  refine r_put (C := RX8) (T := TX8) (N := 31) (ws' := [(q0, .inr (8, [.int 0, .ref y1, .int (nI uT), .int (nI up), .int (nI uP), .ref y2, .int (nI uR), .ref y3, .int (nI vP), .ref y4, .ref y5, .int (nI vR), .ref y6, .ref y7, .ref y8, .ref y9, .int (nI ua), .ref y10, .ref y11, .int (nI us), .ref y12, .ref y13, .long sd, .int z1, .int z2, .int z3, .int z4, .int z5, .int z6, .int z7, .ref y14])), (y7, .inl (cI, 15, .inl pg)), (y10, .inl (cI, 30, .inl kp)), (y11, .inl (cZ, 2, .inl ik))]) CF hE hP hD hS 0 rfl rfl inG8 tyX8 tyX8_ok nmX8 0 (by decide) tw_3_115 rfl rfl rfl rfl (Nat.le_of_ble_eq_true rfl) dX8_keep_2 rfl (fun H locs hP hD hS => ?_)
  refine lv_iload_n hx hb dX8_keep_5 rfl (lv_at hl 1 rfl) ?_
  refine lv_i2l (v := a1.toInt64) hx hb dX8_keep_6 rfl ?_
  refine lv_lconst (v := 0) hx hb dX8_keep_7 (by decide) ?_
  refine lv_lconst (v := 1) hx hb dX8_keep_8 (by decide) ?_
  refine ro_S (y := yX8_in) (As := [.long a1.toInt64, .long 0, .long 1]) (rest := []) CF (c_X8_in l D cI cZ a1.toInt64 0 1) lk_X8_60 hE rfl hl.1 rfl (Nat.le_of_ble_eq_true rfl) ⟨Nat.le_of_ble_eq_true rfl, Nat.le_of_ble_eq_true rfl, rfl, rfl⟩ ⟨Nat.zero_le _, Nat.zero_le _⟩ dX8_keep_9 ?_
  refine lv_if_ne (tgt := 17) hx hb dX8_keep_12 (by decide) (fun c_1 => ?_) (fun c_1 => ?_)
  · have ni_2 : (0 : Int32) ≤ a1 ∧ a1 ≤ nI 1 := in_ne (a := 0) (b := nI 1) c_1
    have ni_2n := rng_tn ni_2 (by decide) (by decide)
    have ni_2l := ni_2n.2
    refine lv_aload_n hx hb dX8_keep_17 rfl (lv_at hl 0 rfl) ?_
    refine r_get (C := RX8) (T := TX8) (N := 31) (v := .ref y11) CF hE hP 0 rfl rfl inG8 18 (by decide) tw_3_133 rfl rfl dX8_keep_18 ?_
    refine lv_iload_n hx hb dX8_keep_21 rfl (lv_at hl 1 rfl) ?_
    refine lv_iconst (v := 1) hx hb dX8_keep_22 (by decide) ?_
    refine r_zast (k := 2) (f := ik) (ws' := [(q0, .inr (8, [.int 0, .ref y1, .int (nI uT), .int (nI up), .int (nI uP), .ref y2, .int (nI uR), .ref y3, .int (nI vP), .ref y4, .ref y5, .int (nI vR), .ref y6, .ref y7, .ref y8, .ref y9, .int (nI ua), .ref y10, .ref y11, .int (nI us), .ref y12, .ref y13, .long sd, .int z1, .int z2, .int z3, .int z4, .int z5, .int z6, .int z7, .ref y14])), (y7, .inl (cI, 15, .inl pg)), (y10, .inl (cI, 30, .inl kp)), (y11, .inl (cZ, 2, .inl (upd ik a1.toNatClampNeg 1)))]) CF hE hP hD hS 3 rfl a1.toNatClampNeg ni_2n.1 (by omega) (by decide) rfl dX8_keep_23 rfl (fun H locs hP hD hS => ?_)
    refine lv_iconst (v := 0) hx hb dX8_keep_24 (by decide) ?_
    refine lv_istore_n (lv' := [(2, .int 0), (0, .ref q0), (1, .int a1)]) hx hb dX8_keep_25 rfl hl (by decide) rfl (fun ls hl => ?_)
    have LOOP_26 : ∀ (n_26 k26 : Nat) (x26_0 : Nat → Int32) (H : Heap) (locs : List Loc) (ls : Array Slot), k26 ≤ 15 → 15 - k26 < n_26 → (B_X8_keep_26 pg a1 kp k26) = x26_0 → va_P D vwCl [(q0, .inr (8, [.int 0, .ref y1, .int (nI uT), .int (nI up), .int (nI uP), .ref y2, .int (nI uR), .ref y3, .int (nI vP), .ref y4, .ref y5, .int (nI vR), .ref y6, .ref y7, .ref y8, .ref y9, .int (nI ua), .ref y10, .ref y11, .int (nI us), .ref y12, .ref y13, .long sd, .int z1, .int z2, .int z3, .int z4, .int z5, .int z6, .int z7, .ref y14])), (y7, .inl (cI, 15, .inl pg)), (y10, .inl (cI, 30, .inl x26_0)), (y11, .inl (cZ, 2, .inl (upd ik a1.toNatClampNeg 1)))] H → va_D A [(q0, .inr (8, [.int 0, .ref y1, .int (nI uT), .int (nI up), .int (nI uP), .ref y2, .int (nI uR), .ref y3, .int (nI vP), .ref y4, .ref y5, .int (nI vR), .ref y6, .ref y7, .ref y8, .ref y9, .int (nI ua), .ref y10, .ref y11, .int (nI us), .ref y12, .ref y13, .long sd, .int z1, .int z2, .int z3, .int z4, .int z5, .int z6, .int z7, .ref y14])), (y7, .inl (cI, 15, .inl pg)), (y10, .inl (cI, 30, .inl x26_0)), (y11, .inl (cZ, 2, .inl (upd ik a1.toNatClampNeg 1)))] → va_S A s.heap H locs → lv_has ls 3 [(2, .int (nI k26)), (0, .ref q0), (1, .int a1)] → W p l e (mR 1 25) s m args below meth c H locs 0 0 Q (F0 m 26 ls []) := by
      intro n_26
      induction n_26 with
      | zero => intro k26 x26_0 H locs ls hk_26 hn_26 hB_26 hP hD hS hl; exact absurd hn_26 (Nat.not_lt_zero _)
      | succ n_26 ih_26 =>
        intro k26 x26_0 H locs ls hk_26 hn_26 hB_26 hP hD hS hl
        refine lv_iload_n hx hb dX8_keep_26 rfl (lv_at hl 0 rfl) ?_
        refine lv_bipush (v := 15) hx hb dX8_keep_27 (by decide) ?_
        refine lv_icmp_ge (tgt := 55) hx hb dX8_keep_29 (by decide) (fun c_3 => ?_) (fun c_3 => ?_)
        · have o_3 : 15 ≤ k26 := (cle (nf_c 15) (rfl : nI k26 = nI k26) (by omega) (by omega)).mp c_3
          have hkN : 15 = k26 := by omega
          subst hkN
          subst hB_26
          refine lv_aload_n hx hb dX8_keep_55 rfl (lv_at hl 1 rfl) ?_
          refine lv_aload_n hx hb dX8_keep_56 rfl (lv_at hl 1 rfl) ?_
          refine r_get (C := RX8) (T := TX8) (N := 31) (v := .ref y7) CF hE hP 0 rfl rfl inG8 13 (by decide) tw_3_128 rfl rfl dX8_keep_57 ?_
          refine ro_V (y := yX8_finesOf) (As := [.ref y7]) (rest := []) (q0 := 0) CF (c_X8_finesOf l D cI cZ q0 y1 y2 y3 y4 y5 y6 y7 y8 y9 y10 y11 y12 y13 y14 y7 0 uT up uP uR vP vR ua us sd z1 z2 z3 z4 z5 z6 z7 pg (by omega)) lk_X8_120 hP hE [0, 1] rfl rfl rfl rfl hl.1 rfl (Nat.le_of_ble_eq_true rfl) ⟨Nat.le_of_ble_eq_true rfl, Nat.le_of_ble_eq_true rfl, rfl, rfl⟩ ⟨Nat.zero_le _, Nat.zero_le _⟩ dX8_keep_60 ?_
          have e_0 : (f_X8_keep_th a1) = 0 := by rw [f_X8_keep_th, if_neg c_1]
          have e_1 : (f_X8_keep_kp pg kp a1) = ((B_X8_keep_26 pg a1 kp 15)) := by rw [f_X8_keep_kp, if_neg c_1]
          have e_2 : (f_X8_keep_ik ik a1) = (upd ik a1.toNatClampNeg 1) := by rw [f_X8_keep_ik, if_neg c_1]
          exact mu_reti CF hQ hr hlk rfl hP hS dX8_keep_63 (by rw [f_X8_keep, if_neg c_1]) (by rw [e_0, e_1, e_2])
        · have o_3 : ¬ 15 ≤ k26 := fun h => c_3 ((cle (nf_c 15) (rfl : nI k26 = nI k26) (by omega) (by omega)).mpr h)
          refine lv_aload_n hx hb dX8_keep_32 rfl (lv_at hl 1 rfl) ?_
          refine r_get (C := RX8) (T := TX8) (N := 31) (v := .ref y10) CF hE hP 0 rfl rfl inG8 17 (by decide) tw_3_132 rfl rfl dX8_keep_33 ?_
          refine lv_bipush (v := 15) hx hb dX8_keep_36 (by decide) ?_
          refine lv_iload_n hx hb dX8_keep_38 rfl (lv_at hl 2 rfl) ?_
          refine lv_imul hx hb dX8_keep_39 ?_
          refine lv_iload_n hx hb dX8_keep_40 rfl (lv_at hl 0 rfl) ?_
          refine lv_iadd hx hb dX8_keep_41 ?_
          refine lv_aload_n hx hb dX8_keep_42 rfl (lv_at hl 1 rfl) ?_
          refine r_get (C := RX8) (T := TX8) (N := 31) (v := .ref y7) CF hE hP 0 rfl rfl inG8 13 (by decide) tw_3_128 rfl rfl dX8_keep_43 ?_
          refine lv_iload_n hx hb dX8_keep_46 rfl (lv_at hl 0 rfl) ?_
          refine r_iald (k := 15) (f := pg) CF hE hP 1 rfl k26 (rfl : nI k26 = nI k26) (by omega) (by decide) dX8_keep_47 ?_
          refine r_iast (k := 30) (f := x26_0) (ws' := [(q0, .inr (8, [.int 0, .ref y1, .int (nI uT), .int (nI up), .int (nI uP), .ref y2, .int (nI uR), .ref y3, .int (nI vP), .ref y4, .ref y5, .int (nI vR), .ref y6, .ref y7, .ref y8, .ref y9, .int (nI ua), .ref y10, .ref y11, .int (nI us), .ref y12, .ref y13, .long sd, .int z1, .int z2, .int z3, .int z4, .int z5, .int z6, .int z7, .ref y14])), (y7, .inl (cI, 15, .inl pg)), (y10, .inl (cI, 30, .inl (upd x26_0 ((15 * a1.toNatClampNeg) + k26) (pg k26)))), (y11, .inl (cZ, 2, .inl (upd ik a1.toNatClampNeg 1)))]) CF hE hP hD hS 2 rfl ((15 * a1.toNatClampNeg) + k26) (nf_add (nf_mul (nf_c 15) ni_2n.1) (rfl : nI k26 = nI k26)) (by omega) (by decide) dX8_keep_48 rfl (fun H locs hP hD hS => ?_)
          refine lv_iinc (v := (nI (k26 + 1))) (lv' := [(2, .int (nI (k26 + 1))), (0, .ref q0), (1, .int a1)]) hx hb dX8_keep_49 hl (k := 0) rfl (nf_inc 1 (rfl : nI k26 = nI k26)) (by decide) rfl (fun ls hl => ?_)
          refine lv_goto (tgt := 26) hx hb dX8_keep_52 (by decide) ?_
          have hB2 : B_X8_keep_26 pg a1 kp (k26 + 1) = (upd x26_0 ((15 * a1.toNatClampNeg) + k26) (pg k26)) := by
            rw [B_X8_keep_26, hB_26]
            rw [S_X8_keep_26]
          exact ih_26 (k26 + 1) (upd x26_0 ((15 * a1.toNatClampNeg) + k26) (pg k26)) _ _ _ (by omega) (by omega) hB2 hP hD hS (lv_sub hl [0, 1, 2] rfl)
    have e_k : 0 = nI (0) := (nf_c 0).trans (congrArg nI (by omega))
    rw [e_k] at hl
    exact LOOP_26 (15 - 0 + 1) 0 kp _ _ _ (Nat.zero_le _) (by omega) rfl hP hD hS (lv_sub hl [0, 1, 2] rfl)
  · refine lv_iconst (v := (-1)) hx hb dX8_keep_15 (by decide) ?_
    have e_0 : (f_X8_keep_th a1) = 0 := by rw [f_X8_keep_th, if_pos c_1]
    have e_1 : (f_X8_keep_kp pg kp a1) = kp := by rw [f_X8_keep_kp, if_pos c_1]
    have e_2 : (f_X8_keep_ik ik a1) = ik := by rw [f_X8_keep_ik, if_pos c_1]
    exact mu_reti CF hQ hr hlk rfl hP hS dX8_keep_16 (by rw [f_X8_keep, if_pos c_1]) (by rw [e_0, e_1, e_2])
def S_X8_again_31 (kp : Nat → Int32) (a1 : Int32) (k31 : Nat) (x31_0 : Nat → Int32) : (Nat → Int32) :=
  (upd x31_0 k31 (kp ((15 * a1.toNatClampNeg) + k31)))
def B_X8_again_31 (kp : Nat → Int32) (a1 : Int32) (i0 : Nat → Int32) : Nat → (Nat → Int32)
  | 0 => i0
  | k + 1 => S_X8_again_31 kp a1 k (B_X8_again_31 kp a1 i0 k)
def f_X8_again (uP : Nat) (pg : Nat → Int32) (kp : Nat → Int32) (ik : Nat → Int32) (a1 : Int32) : Int32 :=
  (if (f_X8_in a1.toInt64 0 1) = 0 then (-1) else (if (ik a1.toNatClampNeg) = 0 then (-3) else ((B_X8_finesOf_4 ((B_X8_again_31 kp a1 pg 15)) 0 uP))))
def f_X8_again_th (ik : Nat → Int32) (a1 : Int32) : Int32 :=
  (if (f_X8_in a1.toInt64 0 1) = 0 then 0 else (if (ik a1.toNatClampNeg) = 0 then 0 else 0))
def f_X8_again_pg (pg : Nat → Int32) (kp : Nat → Int32) (ik : Nat → Int32) (a1 : Int32) : Nat → Int32 :=
  (if (f_X8_in a1.toInt64 0 1) = 0 then pg else (if (ik a1.toNatClampNeg) = 0 then pg else ((B_X8_again_31 kp a1 pg 15))))
def f_X8_again_ua (ua : Nat) (ik : Nat → Int32) (a1 : Int32) : Nat :=
  (if (f_X8_in a1.toInt64 0 1) = 0 then ua else (if (ik a1.toNatClampNeg) = 0 then ua else 0))
set_option maxRecDepth 100000 in
set_option maxHeartbeats 4000000 in
theorem c_X8_again (l : Launch) (D : va_G) (cI cZ : ClassId) (q0 y1 y2 y3 y4 y5 y6 y7 y8 y9 y10 y11 y12 y13 y14 : Nat) (th : Int32) (uT : Nat) (up : Nat) (uP : Nat) (uR : Nat) (vP : Nat) (vR : Nat) (ua : Nat) (us : Nat) (sd : Int64) (z1 : Int32) (z2 : Int32) (z3 : Int32) (z4 : Int32) (z5 : Int32) (z6 : Int32) (z7 : Int32) (pg : Nat → Int32) (kp : Nat → Int32) (ik : Nat → Int32) (a1 : Int32) (hu5 : uP ≤ 5) : MU l D cI cZ yX8_again cX8_again 3 (some .int) (mR 1 25) [.ref q0, .int a1] [(q0, .inr (8, [.int th, .ref y1, .int (nI uT), .int (nI up), .int (nI uP), .ref y2, .int (nI uR), .ref y3, .int (nI vP), .ref y4, .ref y5, .int (nI vR), .ref y6, .ref y7, .ref y8, .ref y9, .int (nI ua), .ref y10, .ref y11, .int (nI us), .ref y12, .ref y13, .long sd, .int z1, .int z2, .int z3, .int z4, .int z5, .int z6, .int z7, .ref y14])), (y7, .inl (cI, 15, .inl pg)), (y10, .inl (cI, 30, .inl kp)), (y11, .inl (cZ, 2, .inl ik))] [(q0, .inr (8, [.int (f_X8_again_th ik a1), .ref y1, .int (nI uT), .int (nI up), .int (nI uP), .ref y2, .int (nI uR), .ref y3, .int (nI vP), .ref y4, .ref y5, .int (nI vR), .ref y6, .ref y7, .ref y8, .ref y9, .int (nI (f_X8_again_ua ua ik a1)), .ref y10, .ref y11, .int (nI us), .ref y12, .ref y13, .long sd, .int z1, .int z2, .int z3, .int z4, .int z5, .int z6, .int z7, .ref y14])), (y7, .inl (cI, 15, .inl (f_X8_again_pg pg kp ik a1))), (y10, .inl (cI, 30, .inl kp)), (y11, .inl (cZ, 2, .inl ik))] (some (.int (f_X8_again uP pg kp ik a1))) := by
  refine MU.of (by decide +kernel) (Nat.le_of_ble_eq_true rfl) ?_
  intro p e s m args below meth c ls Q A CF hr hlk hP hE hD hS hQ hl
  have hx := CF.1
  have hb := CF.2.1
  have hl : lv_has ls 3 [(0, .ref q0), (1, .int a1)] := hl
  refine lv_aload_n hx hb dX8_again_0 rfl (lv_at hl 0 rfl) ?_
  refine lv_iconst (v := 0) hx hb dX8_again_1 (by decide) ?_
  refine r_put (C := RX8) (T := TX8) (N := 31) (ws' := [(q0, .inr (8, [.int 0, .ref y1, .int (nI uT), .int (nI up), .int (nI uP), .ref y2, .int (nI uR), .ref y3, .int (nI vP), .ref y4, .ref y5, .int (nI vR), .ref y6, .ref y7, .ref y8, .ref y9, .int (nI ua), .ref y10, .ref y11, .int (nI us), .ref y12, .ref y13, .long sd, .int z1, .int z2, .int z3, .int z4, .int z5, .int z6, .int z7, .ref y14])), (y7, .inl (cI, 15, .inl pg)), (y10, .inl (cI, 30, .inl kp)), (y11, .inl (cZ, 2, .inl ik))]) CF hE hP hD hS 0 rfl rfl inG8 tyX8 tyX8_ok nmX8 0 (by decide) tw_3_115 rfl rfl rfl rfl (Nat.le_of_ble_eq_true rfl) dX8_again_2 rfl (fun H locs hP hD hS => ?_)
  refine lv_iload_n hx hb dX8_again_5 rfl (lv_at hl 1 rfl) ?_
  refine lv_i2l (v := a1.toInt64) hx hb dX8_again_6 rfl ?_
  refine lv_lconst (v := 0) hx hb dX8_again_7 (by decide) ?_
  refine lv_lconst (v := 1) hx hb dX8_again_8 (by decide) ?_
  refine ro_S (y := yX8_in) (As := [.long a1.toInt64, .long 0, .long 1]) (rest := []) CF (c_X8_in l D cI cZ a1.toInt64 0 1) lk_X8_60 hE rfl hl.1 rfl (Nat.le_of_ble_eq_true rfl) ⟨Nat.le_of_ble_eq_true rfl, Nat.le_of_ble_eq_true rfl, rfl, rfl⟩ ⟨Nat.zero_le _, Nat.zero_le _⟩ dX8_again_9 ?_
  refine lv_if_ne (tgt := 17) hx hb dX8_again_12 (by decide) (fun c_1 => ?_) (fun c_1 => ?_)
  · have ni_2 : (0 : Int32) ≤ a1 ∧ a1 ≤ nI 1 := in_ne (a := 0) (b := nI 1) c_1
    have ni_2n := rng_tn ni_2 (by decide) (by decide)
    have ni_2l := ni_2n.2
    refine lv_aload_n hx hb dX8_again_17 rfl (lv_at hl 0 rfl) ?_
    refine r_get (C := RX8) (T := TX8) (N := 31) (v := .ref y11) CF hE hP 0 rfl rfl inG8 18 (by decide) tw_3_133 rfl rfl dX8_again_18 ?_
    refine lv_iload_n hx hb dX8_again_21 rfl (lv_at hl 1 rfl) ?_
    refine r_zald (k := 2) (f := ik) CF hE hP 3 rfl a1.toNatClampNeg ni_2n.1 (by omega) (by decide) dX8_again_22 ?_
    refine lv_if_ne (tgt := 29) hx hb dX8_again_23 (by decide) (fun c_3 => ?_) (fun c_3 => ?_)
    · refine lv_iconst (v := 0) hx hb dX8_again_29 (by decide) ?_
      refine lv_istore_n (lv' := [(2, .int 0), (0, .ref q0), (1, .int a1)]) hx hb dX8_again_30 rfl hl (by decide) rfl (fun ls hl => ?_)
      have LOOP_31 : ∀ (n_31 k31 : Nat) (x31_0 : Nat → Int32) (H : Heap) (locs : List Loc) (ls : Array Slot), k31 ≤ 15 → 15 - k31 < n_31 → (B_X8_again_31 kp a1 pg k31) = x31_0 → va_P D vwCl [(q0, .inr (8, [.int 0, .ref y1, .int (nI uT), .int (nI up), .int (nI uP), .ref y2, .int (nI uR), .ref y3, .int (nI vP), .ref y4, .ref y5, .int (nI vR), .ref y6, .ref y7, .ref y8, .ref y9, .int (nI ua), .ref y10, .ref y11, .int (nI us), .ref y12, .ref y13, .long sd, .int z1, .int z2, .int z3, .int z4, .int z5, .int z6, .int z7, .ref y14])), (y7, .inl (cI, 15, .inl x31_0)), (y10, .inl (cI, 30, .inl kp)), (y11, .inl (cZ, 2, .inl ik))] H → va_D A [(q0, .inr (8, [.int 0, .ref y1, .int (nI uT), .int (nI up), .int (nI uP), .ref y2, .int (nI uR), .ref y3, .int (nI vP), .ref y4, .ref y5, .int (nI vR), .ref y6, .ref y7, .ref y8, .ref y9, .int (nI ua), .ref y10, .ref y11, .int (nI us), .ref y12, .ref y13, .long sd, .int z1, .int z2, .int z3, .int z4, .int z5, .int z6, .int z7, .ref y14])), (y7, .inl (cI, 15, .inl x31_0)), (y10, .inl (cI, 30, .inl kp)), (y11, .inl (cZ, 2, .inl ik))] → va_S A s.heap H locs → lv_has ls 3 [(2, .int (nI k31)), (0, .ref q0), (1, .int a1)] → W p l e (mR 1 25) s m args below meth c H locs 0 0 Q (F0 m 31 ls []) := by
        intro n_31
        induction n_31 with
        | zero => intro k31 x31_0 H locs ls hk_31 hn_31 hB_31 hP hD hS hl; exact absurd hn_31 (Nat.not_lt_zero _)
        | succ n_31 ih_31 =>
          intro k31 x31_0 H locs ls hk_31 hn_31 hB_31 hP hD hS hl
          refine lv_iload_n hx hb dX8_again_31 rfl (lv_at hl 0 rfl) ?_
          refine lv_bipush (v := 15) hx hb dX8_again_32 (by decide) ?_
          refine lv_icmp_ge (tgt := 60) hx hb dX8_again_34 (by decide) (fun c_4 => ?_) (fun c_4 => ?_)
          · have o_4 : 15 ≤ k31 := (cle (nf_c 15) (rfl : nI k31 = nI k31) (by omega) (by omega)).mp c_4
            have hkN : 15 = k31 := by omega
            subst hkN
            subst hB_31
            refine lv_aload_n hx hb dX8_again_60 rfl (lv_at hl 1 rfl) ?_
            refine lv_iconst (v := 0) hx hb dX8_again_61 (by decide) ?_
            refine lv_as (z := (nI 0)) (nf_c 0) ?_
            refine r_put (C := RX8) (T := TX8) (N := 31) (ws' := [(q0, .inr (8, [.int 0, .ref y1, .int (nI uT), .int (nI up), .int (nI uP), .ref y2, .int (nI uR), .ref y3, .int (nI vP), .ref y4, .ref y5, .int (nI vR), .ref y6, .ref y7, .ref y8, .ref y9, .int (nI 0), .ref y10, .ref y11, .int (nI us), .ref y12, .ref y13, .long sd, .int z1, .int z2, .int z3, .int z4, .int z5, .int z6, .int z7, .ref y14])), (y7, .inl (cI, 15, .inl ((B_X8_again_31 kp a1 pg 15)))), (y10, .inl (cI, 30, .inl kp)), (y11, .inl (cZ, 2, .inl ik))]) CF hE hP hD hS 0 rfl rfl inG8 tyX8 tyX8_ok nmX8 16 (by decide) tw_3_131 rfl rfl rfl rfl (Nat.le_of_ble_eq_true rfl) dX8_again_62 rfl (fun H locs hP hD hS => ?_)
            refine lv_aload_n hx hb dX8_again_65 rfl (lv_at hl 1 rfl) ?_
            refine lv_aload_n hx hb dX8_again_66 rfl (lv_at hl 1 rfl) ?_
            refine r_get (C := RX8) (T := TX8) (N := 31) (v := .ref y7) CF hE hP 0 rfl rfl inG8 13 (by decide) tw_3_128 rfl rfl dX8_again_67 ?_
            refine ro_V (y := yX8_finesOf) (As := [.ref y7]) (rest := []) (q0 := 0) CF (c_X8_finesOf l D cI cZ q0 y1 y2 y3 y4 y5 y6 y7 y8 y9 y10 y11 y12 y13 y14 y7 0 uT up uP uR vP vR 0 us sd z1 z2 z3 z4 z5 z6 z7 ((B_X8_again_31 kp a1 pg 15)) (by omega)) lk_X8_120 hP hE [0, 1] rfl rfl rfl rfl hl.1 rfl (Nat.le_of_ble_eq_true rfl) ⟨Nat.le_of_ble_eq_true rfl, Nat.le_of_ble_eq_true rfl, rfl, rfl⟩ ⟨Nat.zero_le _, Nat.zero_le _⟩ dX8_again_70 ?_
            have e_0 : (f_X8_again_th ik a1) = 0 := by rw [f_X8_again_th, if_neg c_1, if_neg c_3]
            have e_1 : (f_X8_again_pg pg kp ik a1) = ((B_X8_again_31 kp a1 pg 15)) := by rw [f_X8_again_pg, if_neg c_1, if_neg c_3]
            have e_2 : (f_X8_again_ua ua ik a1) = 0 := by rw [f_X8_again_ua, if_neg c_1, if_neg c_3]
            exact mu_reti CF hQ hr hlk rfl hP hS dX8_again_73 (by rw [f_X8_again, if_neg c_1, if_neg c_3]) (by rw [e_0, e_1, e_2])
          · have o_4 : ¬ 15 ≤ k31 := fun h => c_4 ((cle (nf_c 15) (rfl : nI k31 = nI k31) (by omega) (by omega)).mpr h)
            refine lv_aload_n hx hb dX8_again_37 rfl (lv_at hl 1 rfl) ?_
            refine r_get (C := RX8) (T := TX8) (N := 31) (v := .ref y7) CF hE hP 0 rfl rfl inG8 13 (by decide) tw_3_128 rfl rfl dX8_again_38 ?_
            refine lv_iload_n hx hb dX8_again_41 rfl (lv_at hl 0 rfl) ?_
            refine lv_aload_n hx hb dX8_again_42 rfl (lv_at hl 1 rfl) ?_
            refine r_get (C := RX8) (T := TX8) (N := 31) (v := .ref y10) CF hE hP 0 rfl rfl inG8 17 (by decide) tw_3_132 rfl rfl dX8_again_43 ?_
            refine lv_bipush (v := 15) hx hb dX8_again_46 (by decide) ?_
            refine lv_iload_n hx hb dX8_again_48 rfl (lv_at hl 2 rfl) ?_
            refine lv_imul hx hb dX8_again_49 ?_
            refine lv_iload_n hx hb dX8_again_50 rfl (lv_at hl 0 rfl) ?_
            refine lv_iadd hx hb dX8_again_51 ?_
            refine r_iald (k := 30) (f := kp) CF hE hP 2 rfl ((15 * a1.toNatClampNeg) + k31) (nf_add (nf_mul (nf_c 15) ni_2n.1) (rfl : nI k31 = nI k31)) (by omega) (by decide) dX8_again_52 ?_
            refine r_iast (k := 15) (f := x31_0) (ws' := [(q0, .inr (8, [.int 0, .ref y1, .int (nI uT), .int (nI up), .int (nI uP), .ref y2, .int (nI uR), .ref y3, .int (nI vP), .ref y4, .ref y5, .int (nI vR), .ref y6, .ref y7, .ref y8, .ref y9, .int (nI ua), .ref y10, .ref y11, .int (nI us), .ref y12, .ref y13, .long sd, .int z1, .int z2, .int z3, .int z4, .int z5, .int z6, .int z7, .ref y14])), (y7, .inl (cI, 15, .inl (upd x31_0 k31 (kp ((15 * a1.toNatClampNeg) + k31))))), (y10, .inl (cI, 30, .inl kp)), (y11, .inl (cZ, 2, .inl ik))]) CF hE hP hD hS 1 rfl k31 (rfl : nI k31 = nI k31) (by omega) (by decide) dX8_again_53 rfl (fun H locs hP hD hS => ?_)
            refine lv_iinc (v := (nI (k31 + 1))) (lv' := [(2, .int (nI (k31 + 1))), (0, .ref q0), (1, .int a1)]) hx hb dX8_again_54 hl (k := 0) rfl (nf_inc 1 (rfl : nI k31 = nI k31)) (by decide) rfl (fun ls hl => ?_)
            refine lv_goto (tgt := 31) hx hb dX8_again_57 (by decide) ?_
            have hB2 : B_X8_again_31 kp a1 pg (k31 + 1) = (upd x31_0 k31 (kp ((15 * a1.toNatClampNeg) + k31))) := by
              rw [B_X8_again_31, hB_31]
              rw [S_X8_again_31]
            exact ih_31 (k31 + 1) (upd x31_0 k31 (kp ((15 * a1.toNatClampNeg) + k31))) _ _ _ (by omega) (by omega) hB2 hP hD hS (lv_sub hl [0, 1, 2] rfl)
      have e_k : 0 = nI (0) := (nf_c 0).trans (congrArg nI (by omega))
      rw [e_k] at hl
      exact LOOP_31 (15 - 0 + 1) 0 pg _ _ _ (Nat.zero_le _) (by omega) rfl hP hD hS (lv_sub hl [0, 1, 2] rfl)
    · refine lv_bipush (v := (-3)) hx hb dX8_again_26 (by decide) ?_
      have e_0 : (f_X8_again_th ik a1) = 0 := by rw [f_X8_again_th, if_neg c_1, if_pos c_3]
      have e_1 : (f_X8_again_pg pg kp ik a1) = pg := by rw [f_X8_again_pg, if_neg c_1, if_pos c_3]
      have e_2 : (f_X8_again_ua ua ik a1) = ua := by rw [f_X8_again_ua, if_neg c_1, if_pos c_3]
      exact mu_reti CF hQ hr hlk rfl hP hS dX8_again_28 (by rw [f_X8_again, if_neg c_1, if_pos c_3]) (by rw [e_0, e_1, e_2])
  · refine lv_iconst (v := (-1)) hx hb dX8_again_15 (by decide) ?_
    have e_0 : (f_X8_again_th ik a1) = 0 := by rw [f_X8_again_th, if_pos c_1]
    have e_1 : (f_X8_again_pg pg kp ik a1) = pg := by rw [f_X8_again_pg, if_pos c_1]
    have e_2 : (f_X8_again_ua ua ik a1) = ua := by rw [f_X8_again_ua, if_pos c_1]
    exact mu_reti CF hQ hr hlk rfl hP hS dX8_again_16 (by rw [f_X8_again, if_pos c_1]) (by rw [e_0, e_1, e_2])
