theorem lk_X7_96 : mLkV RX7 96 yX5_rules cX5_rules 1 (some .int) 0 := ⟨⟨tw_2_33, tw_1_2, tw_2_36, ⟨by decide +kernel, by decide +kernel, by decide +kernel⟩⟩, tw_2_34, tw_2_35⟩
theorem lk_X7_99 : mLkV RX7 99 yX1_allFines cX1_allFines 3 (some .int) 0 := ⟨⟨tw_2_41, tw_1_6, tw_2_44, ⟨by decide +kernel, by decide +kernel, by decide +kernel⟩⟩, tw_2_42, tw_2_43⟩
theorem lk_X7_102 : mLkV RX7 102 yX1_knownBySomebody cX1_knownBySomebody 3 (some .int) 0 := ⟨⟨tw_2_51, tw_1_6, tw_2_54, ⟨by decide +kernel, by decide +kernel, by decide +kernel⟩⟩, tw_2_52, tw_2_53⟩
theorem lk_X7_108 : mLkV RX7 108 yX3_count cX3_count 1 (some .int) 0 := ⟨⟨tw_2_72, tw_1_9, tw_2_75, ⟨by decide +kernel, by decide +kernel, by decide +kernel⟩⟩, tw_2_73, tw_2_74⟩
theorem lk_X7_72 : mLkV RX7 72 yX6_length cX6_length 1 (some .int) 0 := ⟨⟨tw_1_236, tw_1_5, tw_1_239, ⟨by decide +kernel, by decide +kernel, by decide +kernel⟩⟩, tw_1_237, tw_1_238⟩
def f_X7_about (nT : Nat) (nP : Nat) (nR : Nat) (nd : Nat → Int32) (gv : Nat → Int32) (nw : Nat → Int32) (ac : Int32) (sc : Int32) (a1 : Int32) : Int32 :=
  (if a1 = 0 then (nI nP) else (if a1 = 1 then (nI nR) else (if a1 = 2 then ((B_X1_allFines_4 nw 0 nP)) else (if a1 = 3 then ((B_X1_knownBySomebody_4 nw nR nd gv 0 nP)) else (if a1 = 4 then ac else (if a1 = 5 then sc else (if a1 = 6 then (nI nT) else (-2))))))))
set_option maxRecDepth 100000 in
set_option maxHeartbeats 4000000 in
theorem c_X7_about (l : Launch) (D : va_G) (cI cZ : ClassId) (q0 x0 t0 n0 d0 b0 s0 e0 x1 t1 t3 t5 t4 t6 n1 n2 b1 : Nat) (fs : Int32) (ch : Int64) (nT : Nat) (nP : Nat) (nR : Nat) (nd : Nat → Int32) (gv : Nat → Int32) (nw : Nat → Int32) (ac : Int32) (ax : Int32) (sc : Int32) (su : Int32) (sp : Int32) (a1 : Int32) (hP5 : nP ≤ 5) (hR : nR ≤ 4) : RO l D cI cZ yX7_about cX7_about 2 (some .int) (mR 4 89) [.ref q0, .int a1] [(q0, .inr (7, [.ref x0, .ref t0, .ref n0, .ref d0, .ref b0, .ref s0, .ref e0, .int fs, .long ch])), (x0, .inr (6, [.ref x1, .int (nI nT)])), (t0, .inr (5, [.ref t1, .ref t3, .ref t5, .int (nI nP), .int (nI nR)])), (t3, .inr (2, [.ref t4])), (t4, .inl (cI, 4, .inl nd)), (t5, .inr (2, [.ref t6])), (t6, .inl (cI, 4, .inl gv)), (n0, .inr (1, [.ref t0, .ref n1])), (n1, .inr (2, [.ref n2])), (n2, .inl (cI, 15, .inl nw)), (b0, .inr (0, [.ref b1, .int ac, .int ax])), (e0, .inr (3, [.int sc, .int su, .int sp]))] (some (.int (f_X7_about nT nP nR nd gv nw ac sc a1))) := by
  refine RO.of (by decide +kernel) (Nat.le_of_ble_eq_true rfl) ?_
  intro p e s m args below meth c ls Q CF hr hlk hP hE hQ hl
  have hx := CF.1
  have hb := CF.2.1
  have hl : lv_has ls 2 [(0, .ref q0), (1, .int a1)] := hl
  refine lv_iload_n hx hb dX7_about_0 rfl (lv_at hl 1 rfl) ?_
  by_cases c_1 : a1 = 0
  · refine lv_tableIn (tgt := 44) (off := 43) hx hb dX7_about_1 (by rw [c_1]; decide) (by rw [c_1]; decide) (by rw [c_1]; rfl) (by decide) ?_
    refine lv_aload_n hx hb dX7_about_44 rfl (lv_at hl 0 rfl) ?_
    refine r_get (C := RX7) (T := TX7) (N := 9) (v := .ref t0) CF hE hP 0 rfl rfl inG7 1 (by decide) tw_1_134 rfl rfl dX7_about_45 ?_
    refine ro_V (y := yX5_people) (As := []) (rest := []) (q0 := 2) CF (c_X5_people l D cI cZ t0 t1 t3 t5 nP nR) lk_X7_93 hP hE [2] rfl rfl rfl rfl hl.1 rfl (Nat.le_of_ble_eq_true rfl) ⟨Nat.le_of_ble_eq_true rfl, Nat.le_of_ble_eq_true rfl, rfl, rfl⟩ ⟨Nat.zero_le _, Nat.zero_le _⟩ dX7_about_48 ?_
    exact ro_ret CF hQ hr hlk rfl dX7_about_51 (by rw [f_X7_about, if_pos c_1])
  · by_cases c_2 : a1 = 1
    · refine lv_tableIn (tgt := 52) (off := 51) hx hb dX7_about_1 (by rw [c_2]; decide) (by rw [c_2]; decide) (by rw [c_2]; rfl) (by decide) ?_
      refine lv_aload_n hx hb dX7_about_52 rfl (lv_at hl 0 rfl) ?_
      refine r_get (C := RX7) (T := TX7) (N := 9) (v := .ref t0) CF hE hP 0 rfl rfl inG7 1 (by decide) tw_1_134 rfl rfl dX7_about_53 ?_
      refine ro_V (y := yX5_rules) (As := []) (rest := []) (q0 := 2) CF (c_X5_rules l D cI cZ t0 t1 t3 t5 nP nR) lk_X7_96 hP hE [2] rfl rfl rfl rfl hl.1 rfl (Nat.le_of_ble_eq_true rfl) ⟨Nat.le_of_ble_eq_true rfl, Nat.le_of_ble_eq_true rfl, rfl, rfl⟩ ⟨Nat.zero_le _, Nat.zero_le _⟩ dX7_about_56 ?_
      exact ro_ret CF hQ hr hlk rfl dX7_about_59 (by rw [f_X7_about, if_neg c_1, if_pos c_2])
    · by_cases c_3 : a1 = 2
      · refine lv_tableIn (tgt := 60) (off := 59) hx hb dX7_about_1 (by rw [c_3]; decide) (by rw [c_3]; decide) (by rw [c_3]; rfl) (by decide) ?_
        refine lv_aload_n hx hb dX7_about_60 rfl (lv_at hl 0 rfl) ?_
        refine r_get (C := RX7) (T := TX7) (N := 9) (v := .ref n0) CF hE hP 0 rfl rfl inG7 2 (by decide) tw_1_135 rfl rfl dX7_about_61 ?_
        refine ro_V (y := yX1_allFines) (As := []) (rest := []) (q0 := 7) CF (c_X1_allFines l D cI cZ n0 t0 n1 n2 t1 t3 t5 nw nP nR (by omega)) lk_X7_99 hP hE [7, 8, 9, 2] rfl rfl rfl rfl hl.1 rfl (Nat.le_of_ble_eq_true rfl) ⟨Nat.le_of_ble_eq_true rfl, Nat.le_of_ble_eq_true rfl, rfl, rfl⟩ ⟨Nat.zero_le _, Nat.zero_le _⟩ dX7_about_64 ?_
        exact ro_ret CF hQ hr hlk rfl dX7_about_67 (by rw [f_X7_about, if_neg c_1, if_neg c_2, if_pos c_3])
      · by_cases c_4 : a1 = 3
        · refine lv_tableIn (tgt := 68) (off := 67) hx hb dX7_about_1 (by rw [c_4]; decide) (by rw [c_4]; decide) (by rw [c_4]; rfl) (by decide) ?_
          refine lv_aload_n hx hb dX7_about_68 rfl (lv_at hl 0 rfl) ?_
          refine r_get (C := RX7) (T := TX7) (N := 9) (v := .ref n0) CF hE hP 0 rfl rfl inG7 2 (by decide) tw_1_135 rfl rfl dX7_about_69 ?_
          refine ro_V (y := yX1_knownBySomebody) (As := []) (rest := []) (q0 := 7) CF (c_X1_knownBySomebody l D cI cZ n0 t0 n1 n2 t1 t3 t5 t4 t6 nw nP nR nd gv (by omega) (by omega)) lk_X7_102 hP hE [7, 8, 9, 2, 3, 4, 5, 6] rfl rfl rfl rfl hl.1 rfl (Nat.le_of_ble_eq_true rfl) ⟨Nat.le_of_ble_eq_true rfl, Nat.le_of_ble_eq_true rfl, rfl, rfl⟩ ⟨Nat.zero_le _, Nat.zero_le _⟩ dX7_about_72 ?_
          exact ro_ret CF hQ hr hlk rfl dX7_about_75 (by rw [f_X7_about, if_neg c_1, if_neg c_2, if_neg c_3, if_pos c_4])
        · by_cases c_5 : a1 = 4
          · refine lv_tableIn (tgt := 76) (off := 75) hx hb dX7_about_1 (by rw [c_5]; decide) (by rw [c_5]; decide) (by rw [c_5]; rfl) (by decide) ?_
            refine lv_aload_n hx hb dX7_about_76 rfl (lv_at hl 0 rfl) ?_
            refine r_get (C := RX7) (T := TX7) (N := 9) (v := .ref b0) CF hE hP 0 rfl rfl inG7 4 (by decide) tw_1_137 rfl rfl dX7_about_77 ?_
            refine ro_V (y := yX0_count) (As := []) (rest := []) (q0 := 10) CF (c_X0_count l D cI cZ b0 b1 ac ax) lk_X7_105 hP hE [10] rfl rfl rfl rfl hl.1 rfl (Nat.le_of_ble_eq_true rfl) ⟨Nat.le_of_ble_eq_true rfl, Nat.le_of_ble_eq_true rfl, rfl, rfl⟩ ⟨Nat.zero_le _, Nat.zero_le _⟩ dX7_about_80 ?_
            exact ro_ret CF hQ hr hlk rfl dX7_about_83 (by rw [f_X7_about, if_neg c_1, if_neg c_2, if_neg c_3, if_neg c_4, if_pos c_5])
          · by_cases c_6 : a1 = 5
            · refine lv_tableIn (tgt := 84) (off := 83) hx hb dX7_about_1 (by rw [c_6]; decide) (by rw [c_6]; decide) (by rw [c_6]; rfl) (by decide) ?_
              refine lv_aload_n hx hb dX7_about_84 rfl (lv_at hl 0 rfl) ?_
              refine r_get (C := RX7) (T := TX7) (N := 9) (v := .ref e0) CF hE hP 0 rfl rfl inG7 6 (by decide) tw_1_139 rfl rfl dX7_about_85 ?_
              refine ro_V (y := yX3_count) (As := []) (rest := []) (q0 := 11) CF (c_X3_count l D cI cZ e0 sc su sp) lk_X7_108 hP hE [11] rfl rfl rfl rfl hl.1 rfl (Nat.le_of_ble_eq_true rfl) ⟨Nat.le_of_ble_eq_true rfl, Nat.le_of_ble_eq_true rfl, rfl, rfl⟩ ⟨Nat.zero_le _, Nat.zero_le _⟩ dX7_about_88 ?_
              exact ro_ret CF hQ hr hlk rfl dX7_about_91 (by rw [f_X7_about, if_neg c_1, if_neg c_2, if_neg c_3, if_neg c_4, if_neg c_5, if_pos c_6])
            · by_cases c_7 : a1 = 6
              · refine lv_tableIn (tgt := 92) (off := 91) hx hb dX7_about_1 (by rw [c_7]; decide) (by rw [c_7]; decide) (by rw [c_7]; rfl) (by decide) ?_
                refine lv_aload_n hx hb dX7_about_92 rfl (lv_at hl 0 rfl) ?_
                refine r_get (C := RX7) (T := TX7) (N := 9) (v := .ref x0) CF hE hP 0 rfl rfl inG7 0 (by decide) tw_1_133 rfl rfl dX7_about_93 ?_
                refine ro_V (y := yX6_length) (As := []) (rest := []) (q0 := 1) CF (c_X6_length l D cI cZ x0 x1 nT) lk_X7_72 hP hE [1] rfl rfl rfl rfl hl.1 rfl (Nat.le_of_ble_eq_true rfl) ⟨Nat.le_of_ble_eq_true rfl, Nat.le_of_ble_eq_true rfl, rfl, rfl⟩ ⟨Nat.zero_le _, Nat.zero_le _⟩ dX7_about_96 ?_
                exact ro_ret CF hQ hr hlk rfl dX7_about_99 (by rw [f_X7_about, if_neg c_1, if_neg c_2, if_neg c_3, if_neg c_4, if_neg c_5, if_neg c_6, if_pos c_7])
              · have z_0 : a1.toInt ≠ 0 := fun z => c_1 (Int32.toInt_inj.mp z)
                have z_1 : a1.toInt ≠ 1 := fun z => c_2 (Int32.toInt_inj.mp z)
                have z_2 : a1.toInt ≠ 2 := fun z => c_3 (Int32.toInt_inj.mp z)
                have z_3 : a1.toInt ≠ 3 := fun z => c_4 (Int32.toInt_inj.mp z)
                have z_4 : a1.toInt ≠ 4 := fun z => c_5 (Int32.toInt_inj.mp z)
                have z_5 : a1.toInt ≠ 5 := fun z => c_6 (Int32.toInt_inj.mp z)
                have z_6 : a1.toInt ≠ 6 := fun z => c_7 (Int32.toInt_inj.mp z)
                refine lv_tableOut (tgt := 100) hx hb dX7_about_1 (by omega) (by decide) ?_
                refine lv_bipush (v := (-2)) hx hb dX7_about_100 (by decide) ?_
                exact ro_ret CF hQ hr hlk rfl dX7_about_102 (by rw [f_X7_about, if_neg c_1, if_neg c_2, if_neg c_3, if_neg c_4, if_neg c_5, if_neg c_6, if_neg c_7])
theorem lk_X7_113 : mLkV RX7 113 yX5_kind cX5_kind 2 (some .int) 1 := ⟨⟨tw_2_84, tw_1_2, tw_2_87, ⟨by decide +kernel, by decide +kernel, by decide +kernel⟩⟩, tw_2_85, tw_2_86⟩
theorem lk_X7_122 : mLkV RX7 122 yX1_seat cX1_seat 2 (some .int) 1 := ⟨⟨tw_2_90, tw_1_6, tw_2_93, ⟨by decide +kernel, by decide +kernel, by decide +kernel⟩⟩, tw_2_91, tw_2_92⟩
theorem lk_X7_125 : mLkV RX7 125 yX1_fines cX1_fines 2 (some .int) 1 := ⟨⟨tw_2_94, tw_1_6, tw_2_49, ⟨by decide +kernel, by decide +kernel, by decide +kernel⟩⟩, tw_2_47, tw_2_48⟩
def f_X7_person (nP : Nat) (nR : Nat) (kd : Nat → Int32) (nd : Nat → Int32) (gv : Nat → Int32) (nw : Nat → Int32) (a1 : Int32) (a2 : Int32) : Int32 :=
  (if (f_X7_isPerson nP a1) = 0 then (-1) else (if a2 = 0 then (f_X2_at 5 kd a1) else (if a2 = 1 then (f_X2_at 15 nw (0 + a1)) else (if a2 = 2 then ((B_X5_closure_4 nR nd gv (f_X2_at 15 nw (0 + a1)) nR)) else (if a2 = 3 then (f_X2_at 15 nw (5 + a1)) else (if a2 = 4 then (f_X2_at 15 nw (10 + a1)) else (-2)))))))
set_option maxRecDepth 100000 in
set_option maxHeartbeats 4000000 in
theorem c_X7_person (l : Launch) (D : va_G) (cI cZ : ClassId) (q0 x0 t0 n0 d0 b0 s0 e0 t1 t3 t5 t2 t4 t6 n1 n2 : Nat) (fs : Int32) (ch : Int64) (nP : Nat) (nR : Nat) (kd : Nat → Int32) (nd : Nat → Int32) (gv : Nat → Int32) (nw : Nat → Int32) (a1 : Int32) (a2 : Int32) (hR : nR ≤ 4) : RO l D cI cZ yX7_person cX7_person 3 (some .int) (mR 3 67) [.ref q0, .int a1, .int a2] [(q0, .inr (7, [.ref x0, .ref t0, .ref n0, .ref d0, .ref b0, .ref s0, .ref e0, .int fs, .long ch])), (t0, .inr (5, [.ref t1, .ref t3, .ref t5, .int (nI nP), .int (nI nR)])), (t1, .inr (2, [.ref t2])), (t2, .inl (cI, 5, .inl kd)), (t3, .inr (2, [.ref t4])), (t4, .inl (cI, 4, .inl nd)), (t5, .inr (2, [.ref t6])), (t6, .inl (cI, 4, .inl gv)), (n0, .inr (1, [.ref t0, .ref n1])), (n1, .inr (2, [.ref n2])), (n2, .inl (cI, 15, .inl nw))] (some (.int (f_X7_person nP nR kd nd gv nw a1 a2))) := by
  refine RO.of (by decide +kernel) (Nat.le_of_ble_eq_true rfl) ?_
  intro p e s m args below meth c ls Q CF hr hlk hP hE hQ hl
  have hx := CF.1
  have hb := CF.2.1
  have hl : lv_has ls 3 [(0, .ref q0), (1, .int a1), (2, .int a2)] := hl
  refine lv_aload_n hx hb dX7_person_0 rfl (lv_at hl 0 rfl) ?_
  refine lv_iload_n hx hb dX7_person_1 rfl (lv_at hl 1 rfl) ?_
  refine ro_V (y := yX7_isPerson) (As := [.int a1]) (rest := []) (q0 := 0) CF (c_X7_isPerson l D cI cZ q0 x0 t0 n0 d0 b0 s0 e0 t1 t3 t5 fs ch nP nR a1) lk_X7_109 hP hE [0, 1] rfl rfl rfl rfl hl.1 rfl (Nat.le_of_ble_eq_true rfl) ⟨Nat.le_of_ble_eq_true rfl, Nat.le_of_ble_eq_true rfl, rfl, rfl⟩ ⟨Nat.zero_le _, Nat.zero_le _⟩ dX7_person_2 ?_
  refine lv_if_ne (tgt := 10) hx hb dX7_person_5 (by decide) (fun c_1 => ?_) (fun c_1 => ?_)
  · refine lv_iload_n hx hb dX7_person_10 rfl (lv_at hl 2 rfl) ?_
    by_cases c_2 : a2 = 0
    · refine lv_tableIn (tgt := 44) (off := 33) hx hb dX7_person_11 (by rw [c_2]; decide) (by rw [c_2]; decide) (by rw [c_2]; rfl) (by decide) ?_
      refine lv_aload_n hx hb dX7_person_44 rfl (lv_at hl 0 rfl) ?_
      refine r_get (C := RX7) (T := TX7) (N := 9) (v := .ref t0) CF hE hP 0 rfl rfl inG7 1 (by decide) tw_1_134 rfl rfl dX7_person_45 ?_
      refine lv_iload_n hx hb dX7_person_48 rfl (lv_at hl 1 rfl) ?_
      refine ro_V (y := yX5_kind) (As := [.int a1]) (rest := []) (q0 := 1) CF (c_X5_kind l D cI cZ t0 t1 t3 t5 t2 nP nR kd a1) lk_X7_113 hP hE [1, 2, 3] rfl rfl rfl rfl hl.1 rfl (Nat.le_of_ble_eq_true rfl) ⟨Nat.le_of_ble_eq_true rfl, Nat.le_of_ble_eq_true rfl, rfl, rfl⟩ ⟨Nat.zero_le _, Nat.zero_le _⟩ dX7_person_49 ?_
      exact ro_ret CF hQ hr hlk rfl dX7_person_52 (by rw [f_X7_person, if_neg c_1, if_pos c_2])
    · by_cases c_3 : a2 = 1
      · refine lv_tableIn (tgt := 53) (off := 42) hx hb dX7_person_11 (by rw [c_3]; decide) (by rw [c_3]; decide) (by rw [c_3]; rfl) (by decide) ?_
        refine lv_aload_n hx hb dX7_person_53 rfl (lv_at hl 0 rfl) ?_
        refine r_get (C := RX7) (T := TX7) (N := 9) (v := .ref n0) CF hE hP 0 rfl rfl inG7 2 (by decide) tw_1_135 rfl rfl dX7_person_54 ?_
        refine lv_iload_n hx hb dX7_person_57 rfl (lv_at hl 1 rfl) ?_
        refine ro_V (y := yX1_told) (As := [.int a1]) (rest := []) (q0 := 8) CF (c_X1_told l D cI cZ n0 t0 n1 n2 nw a1) lk_X7_116 hP hE [8, 9, 10] rfl rfl rfl rfl hl.1 rfl (Nat.le_of_ble_eq_true rfl) ⟨Nat.le_of_ble_eq_true rfl, Nat.le_of_ble_eq_true rfl, rfl, rfl⟩ ⟨Nat.zero_le _, Nat.zero_le _⟩ dX7_person_58 ?_
        exact ro_ret CF hQ hr hlk rfl dX7_person_61 (by rw [f_X7_person, if_neg c_1, if_neg c_2, if_pos c_3])
      · by_cases c_4 : a2 = 2
        · refine lv_tableIn (tgt := 62) (off := 51) hx hb dX7_person_11 (by rw [c_4]; decide) (by rw [c_4]; decide) (by rw [c_4]; rfl) (by decide) ?_
          refine lv_aload_n hx hb dX7_person_62 rfl (lv_at hl 0 rfl) ?_
          refine r_get (C := RX7) (T := TX7) (N := 9) (v := .ref n0) CF hE hP 0 rfl rfl inG7 2 (by decide) tw_1_135 rfl rfl dX7_person_63 ?_
          refine lv_iload_n hx hb dX7_person_66 rfl (lv_at hl 1 rfl) ?_
          refine ro_V (y := yX1_known) (As := [.int a1]) (rest := []) (q0 := 8) CF (c_X1_known l D cI cZ n0 t0 n1 n2 t1 t3 t5 t4 t6 nw nP nR nd gv a1 (by omega)) lk_X7_119 hP hE [8, 9, 10, 1, 4, 5, 6, 7] rfl rfl rfl rfl hl.1 rfl (Nat.le_of_ble_eq_true rfl) ⟨Nat.le_of_ble_eq_true rfl, Nat.le_of_ble_eq_true rfl, rfl, rfl⟩ ⟨Nat.zero_le _, Nat.zero_le _⟩ dX7_person_67 ?_
          exact ro_ret CF hQ hr hlk rfl dX7_person_70 (by rw [f_X7_person, if_neg c_1, if_neg c_2, if_neg c_3, if_pos c_4])
        · by_cases c_5 : a2 = 3
          · refine lv_tableIn (tgt := 71) (off := 60) hx hb dX7_person_11 (by rw [c_5]; decide) (by rw [c_5]; decide) (by rw [c_5]; rfl) (by decide) ?_
            refine lv_aload_n hx hb dX7_person_71 rfl (lv_at hl 0 rfl) ?_
            refine r_get (C := RX7) (T := TX7) (N := 9) (v := .ref n0) CF hE hP 0 rfl rfl inG7 2 (by decide) tw_1_135 rfl rfl dX7_person_72 ?_
            refine lv_iload_n hx hb dX7_person_75 rfl (lv_at hl 1 rfl) ?_
            refine ro_V (y := yX1_seat) (As := [.int a1]) (rest := []) (q0 := 8) CF (c_X1_seat l D cI cZ n0 t0 n1 n2 nw a1) lk_X7_122 hP hE [8, 9, 10] rfl rfl rfl rfl hl.1 rfl (Nat.le_of_ble_eq_true rfl) ⟨Nat.le_of_ble_eq_true rfl, Nat.le_of_ble_eq_true rfl, rfl, rfl⟩ ⟨Nat.zero_le _, Nat.zero_le _⟩ dX7_person_76 ?_
            exact ro_ret CF hQ hr hlk rfl dX7_person_79 (by rw [f_X7_person, if_neg c_1, if_neg c_2, if_neg c_3, if_neg c_4, if_pos c_5])
          · by_cases c_6 : a2 = 4
            · refine lv_tableIn (tgt := 80) (off := 69) hx hb dX7_person_11 (by rw [c_6]; decide) (by rw [c_6]; decide) (by rw [c_6]; rfl) (by decide) ?_
              refine lv_aload_n hx hb dX7_person_80 rfl (lv_at hl 0 rfl) ?_
              refine r_get (C := RX7) (T := TX7) (N := 9) (v := .ref n0) CF hE hP 0 rfl rfl inG7 2 (by decide) tw_1_135 rfl rfl dX7_person_81 ?_
              refine lv_iload_n hx hb dX7_person_84 rfl (lv_at hl 1 rfl) ?_
              refine ro_V (y := yX1_fines) (As := [.int a1]) (rest := []) (q0 := 8) CF (c_X1_fines l D cI cZ n0 t0 n1 n2 nw a1) lk_X7_125 hP hE [8, 9, 10] rfl rfl rfl rfl hl.1 rfl (Nat.le_of_ble_eq_true rfl) ⟨Nat.le_of_ble_eq_true rfl, Nat.le_of_ble_eq_true rfl, rfl, rfl⟩ ⟨Nat.zero_le _, Nat.zero_le _⟩ dX7_person_85 ?_
              exact ro_ret CF hQ hr hlk rfl dX7_person_88 (by rw [f_X7_person, if_neg c_1, if_neg c_2, if_neg c_3, if_neg c_4, if_neg c_5, if_pos c_6])
            · have z_0 : a2.toInt ≠ 0 := fun z => c_2 (Int32.toInt_inj.mp z)
              have z_1 : a2.toInt ≠ 1 := fun z => c_3 (Int32.toInt_inj.mp z)
              have z_2 : a2.toInt ≠ 2 := fun z => c_4 (Int32.toInt_inj.mp z)
              have z_3 : a2.toInt ≠ 3 := fun z => c_5 (Int32.toInt_inj.mp z)
              have z_4 : a2.toInt ≠ 4 := fun z => c_6 (Int32.toInt_inj.mp z)
              refine lv_tableOut (tgt := 89) hx hb dX7_person_11 (by omega) (by decide) ?_
              refine lv_bipush (v := (-2)) hx hb dX7_person_89 (by decide) ?_
              exact ro_ret CF hQ hr hlk rfl dX7_person_91 (by rw [f_X7_person, if_neg c_1, if_neg c_2, if_neg c_3, if_neg c_4, if_neg c_5, if_neg c_6])
  · refine lv_iconst (v := (-1)) hx hb dX7_person_8 (by decide) ?_
    exact ro_ret CF hQ hr hlk rfl dX7_person_9 (by rw [f_X7_person, if_pos c_1])
def S_X7_safe_31 (nP : Nat) (nR : Nat) (kd : Nat → Int32) (nd : Nat → Int32) (gv : Nat → Int32) (nw : Nat → Int32) (a1 : Int32) (a2 : Int32) (k31 : Nat) (x31_0 : Int32) : (Int32) :=
  (if (f_X7_contains ((B_X1_ears_5 nw nP kd a1 a2 0 nP)) (nI k31)) = 0 then x31_0 else (x31_0 ||| ((B_X5_closure_4 nR nd gv (f_X2_at 15 nw (0 + (nI k31))) nR))))
def B_X7_safe_31 (nP : Nat) (nR : Nat) (kd : Nat → Int32) (nd : Nat → Int32) (gv : Nat → Int32) (nw : Nat → Int32) (a1 : Int32) (a2 : Int32) (i0 : Int32) : Nat → (Int32)
  | 0 => i0
  | k + 1 => S_X7_safe_31 nP nR kd nd gv nw a1 a2 k (B_X7_safe_31 nP nR kd nd gv nw a1 a2 i0 k)
def f_X7_safe (nP : Nat) (nR : Nat) (kd : Nat → Int32) (nd : Nat → Int32) (gv : Nat → Int32) (nw : Nat → Int32) (a1 : Int32) (a2 : Int32) : Int32 :=
  (if (f_X7_refusalToSay nP a1 0 a2) = 0 then (63 &&& (((B_X7_safe_31 nP nR kd nd gv nw a1 a2 0 nP)) ^^^ (-1))) else (f_X7_refusalToSay nP a1 0 a2))
set_option maxRecDepth 100000 in
set_option maxHeartbeats 4000000 in
theorem c_X7_safe (l : Launch) (D : va_G) (cI cZ : ClassId) (q0 x0 t0 n0 d0 b0 s0 e0 t1 t3 t5 t2 t4 t6 n1 n2 : Nat) (fs : Int32) (ch : Int64) (nP : Nat) (nR : Nat) (kd : Nat → Int32) (nd : Nat → Int32) (gv : Nat → Int32) (nw : Nat → Int32) (a1 : Int32) (a2 : Int32) (hP5 : nP ≤ 5) (hR : nR ≤ 4) : RO l D cI cZ yX7_safe cX7_safe 7 (some .int) (mR 4 90) [.ref q0, .int a1, .int a2] [(q0, .inr (7, [.ref x0, .ref t0, .ref n0, .ref d0, .ref b0, .ref s0, .ref e0, .int fs, .long ch])), (t0, .inr (5, [.ref t1, .ref t3, .ref t5, .int (nI nP), .int (nI nR)])), (t1, .inr (2, [.ref t2])), (t2, .inl (cI, 5, .inl kd)), (t3, .inr (2, [.ref t4])), (t4, .inl (cI, 4, .inl nd)), (t5, .inr (2, [.ref t6])), (t6, .inl (cI, 4, .inl gv)), (n0, .inr (1, [.ref t0, .ref n1])), (n1, .inr (2, [.ref n2])), (n2, .inl (cI, 15, .inl nw))] (some (.int (f_X7_safe nP nR kd nd gv nw a1 a2))) := by
  refine RO.of (by decide +kernel) (Nat.le_of_ble_eq_true rfl) ?_
  intro p e s m args below meth c ls Q CF hr hlk hP hE hQ hl
  have hx := CF.1
  have hb := CF.2.1
  have hl : lv_has ls 7 [(0, .ref q0), (1, .int a1), (2, .int a2)] := hl
  refine lv_aload_n hx hb dX7_safe_0 rfl (lv_at hl 0 rfl) ?_
  refine lv_iload_n hx hb dX7_safe_1 rfl (lv_at hl 1 rfl) ?_
  refine lv_iconst (v := 0) hx hb dX7_safe_2 (by decide) ?_
  refine lv_iload_n hx hb dX7_safe_3 rfl (lv_at hl 2 rfl) ?_
  refine ro_V (y := yX7_refusalToSay) (As := [.int a1, .int 0, .int a2]) (rest := []) (q0 := 0) CF (c_X7_refusalToSay l D cI cZ q0 x0 t0 n0 d0 b0 s0 e0 t1 t3 t5 fs ch nP nR a1 0 a2) lk_X7_132 hP hE [0, 1] rfl rfl rfl rfl hl.1 rfl (Nat.le_of_ble_eq_true rfl) ⟨Nat.le_of_ble_eq_true rfl, Nat.le_of_ble_eq_true rfl, rfl, rfl⟩ ⟨Nat.zero_le _, Nat.zero_le _⟩ dX7_safe_4 ?_
  refine lv_istore_n (lv' := [(3, .int (f_X7_refusalToSay nP a1 0 a2)), (0, .ref q0), (1, .int a1), (2, .int a2)]) hx hb dX7_safe_7 rfl hl (by decide) rfl (fun ls hl => ?_)
  refine lv_iload_n hx hb dX7_safe_8 rfl (lv_at hl 0 rfl) ?_
  refine lv_if_eq (tgt := 14) hx hb dX7_safe_9 (by decide) (fun c_1 => ?_) (fun c_1 => ?_)
  · refine lv_aload_n hx hb dX7_safe_14 rfl (lv_at hl 1 rfl) ?_
    refine r_get (C := RX7) (T := TX7) (N := 9) (v := .ref n0) CF hE hP 0 rfl rfl inG7 2 (by decide) tw_1_135 rfl rfl dX7_safe_15 ?_
    refine lv_iload_n hx hb dX7_safe_18 rfl (lv_at hl 2 rfl) ?_
    refine lv_iload_n hx hb dX7_safe_19 rfl (lv_at hl 3 rfl) ?_
    refine ro_V (y := yX1_ears) (As := [.int a1, .int a2]) (rest := []) (q0 := 8) CF (c_X1_ears l D cI cZ n0 t0 n1 n2 t1 t3 t5 t2 nw nP nR kd a1 a2 (by omega)) lk_X7_161 hP hE [8, 9, 10, 1, 2, 3] rfl rfl rfl rfl hl.1 rfl (Nat.le_of_ble_eq_true rfl) ⟨Nat.le_of_ble_eq_true rfl, Nat.le_of_ble_eq_true rfl, rfl, rfl⟩ ⟨Nat.zero_le _, Nat.zero_le _⟩ dX7_safe_20 ?_
    refine lv_istore (lv' := [(4, .int ((B_X1_ears_5 nw nP kd a1 a2 0 nP))), (3, .int (f_X7_refusalToSay nP a1 0 a2)), (0, .ref q0), (1, .int a1), (2, .int a2)]) hx hb dX7_safe_23 hl (by decide) rfl (fun ls hl => ?_)
    refine lv_iconst (v := 0) hx hb dX7_safe_25 (by decide) ?_
    refine lv_istore (lv' := [(5, .int 0), (4, .int ((B_X1_ears_5 nw nP kd a1 a2 0 nP))), (3, .int (f_X7_refusalToSay nP a1 0 a2)), (0, .ref q0), (1, .int a1), (2, .int a2)]) hx hb dX7_safe_26 hl (by decide) rfl (fun ls hl => ?_)
    refine lv_iconst (v := 0) hx hb dX7_safe_28 (by decide) ?_
    refine lv_istore (lv' := [(6, .int 0), (5, .int 0), (4, .int ((B_X1_ears_5 nw nP kd a1 a2 0 nP))), (3, .int (f_X7_refusalToSay nP a1 0 a2)), (0, .ref q0), (1, .int a1), (2, .int a2)]) hx hb dX7_safe_29 hl (by decide) rfl (fun ls hl => ?_)
    have LOOP_31 : ∀ (n_31 k31 : Nat) (x31_0 : Int32) (ls : Array Slot), k31 ≤ nP → nP - k31 < n_31 → (B_X7_safe_31 nP nR kd nd gv nw a1 a2 0 k31) = x31_0 → lv_has ls 7 [(6, .int (nI k31)), (5, .int x31_0), (4, .int ((B_X1_ears_5 nw nP kd a1 a2 0 nP))), (3, .int (f_X7_refusalToSay nP a1 0 a2)), (0, .ref q0), (1, .int a1), (2, .int a2)] → W p l e (mR 4 90) s m args below meth c s.heap [] 0 0 Q (F0 m 31 ls []) := by
      intro n_31
      induction n_31 with
      | zero => intro k31 x31_0 ls hk_31 hn_31 hB_31 hl; exact absurd hn_31 (Nat.not_lt_zero _)
      | succ n_31 ih_31 =>
        intro k31 x31_0 ls hk_31 hn_31 hB_31 hl
        refine lv_iload hx hb dX7_safe_31 (lv_at hl 0 rfl) ?_
        refine lv_aload_n hx hb dX7_safe_33 rfl (lv_at hl 4 rfl) ?_
        refine r_get (C := RX7) (T := TX7) (N := 9) (v := .ref t0) CF hE hP 0 rfl rfl inG7 1 (by decide) tw_1_134 rfl rfl dX7_safe_34 ?_
        refine ro_V (y := yX5_people) (As := []) (rest := [.int (nI k31)]) (q0 := 1) CF (c_X5_people l D cI cZ t0 t1 t3 t5 nP nR) lk_X7_93 hP hE [1] rfl rfl rfl rfl hl.1 rfl (Nat.le_of_ble_eq_true rfl) ⟨Nat.le_of_ble_eq_true rfl, Nat.le_of_ble_eq_true rfl, rfl, rfl⟩ ⟨Nat.zero_le _, Nat.zero_le _⟩ dX7_safe_37 ?_
        refine lv_icmp_ge (tgt := 73) hx hb dX7_safe_40 (by decide) (fun c_2 => ?_) (fun c_2 => ?_)
        · have o_2 : nP ≤ k31 := (cle (rfl : nI nP = nI nP) (rfl : nI k31 = nI k31) (by omega) (by omega)).mp c_2
          have hkN : nP = k31 := by omega
          subst hkN
          subst hB_31
          refine lv_bipush (v := 63) hx hb dX7_safe_73 (by decide) ?_
          refine lv_iload hx hb dX7_safe_75 (lv_at hl 1 rfl) ?_
          refine lv_iconst (v := (-1)) hx hb dX7_safe_77 (by decide) ?_
          refine lv_ixor hx hb dX7_safe_78 ?_
          refine lv_iand hx hb dX7_safe_79 ?_
          exact ro_ret CF hQ hr hlk rfl dX7_safe_80 (by rw [f_X7_safe, if_pos c_1])
        · have o_2 : ¬ nP ≤ k31 := fun h => c_2 ((cle (rfl : nI nP = nI nP) (rfl : nI k31 = nI k31) (by omega) (by omega)).mpr h)
          refine lv_iload hx hb dX7_safe_43 (lv_at hl 2 rfl) ?_
          refine lv_iload hx hb dX7_safe_45 (lv_at hl 0 rfl) ?_
          refine ro_S (y := yX7_contains) (As := [.int ((B_X1_ears_5 nw nP kd a1 a2 0 nP)), .int (nI k31)]) (rest := []) CF (c_X7_contains l D cI cZ ((B_X1_ears_5 nw nP kd a1 a2 0 nP)) (nI k31)) lk_X7_146 hE rfl hl.1 rfl (Nat.le_of_ble_eq_true rfl) ⟨Nat.le_of_ble_eq_true rfl, Nat.le_of_ble_eq_true rfl, rfl, rfl⟩ ⟨Nat.zero_le _, Nat.zero_le _⟩ dX7_safe_47 ?_
          refine lv_if_eq (tgt := 67) hx hb dX7_safe_50 (by decide) (fun c_3 => ?_) (fun c_3 => ?_)
          · refine lv_iinc (v := (nI (k31 + 1))) (lv' := [(6, .int (nI (k31 + 1))), (5, .int x31_0), (4, .int ((B_X1_ears_5 nw nP kd a1 a2 0 nP))), (3, .int (f_X7_refusalToSay nP a1 0 a2)), (0, .ref q0), (1, .int a1), (2, .int a2)]) hx hb dX7_safe_67 hl (k := 0) rfl (nf_inc 1 (rfl : nI k31 = nI k31)) (by decide) rfl (fun ls hl => ?_)
            refine lv_goto (tgt := 31) hx hb dX7_safe_70 (by decide) ?_
            have hB2 : B_X7_safe_31 nP nR kd nd gv nw a1 a2 0 (k31 + 1) = x31_0 := by
              rw [B_X7_safe_31, hB_31]
              rw [S_X7_safe_31, if_pos c_3]
            exact ih_31 (k31 + 1) x31_0 _ (by omega) (by omega) hB2 (lv_sub hl [0, 1, 2, 3, 4, 5, 6] rfl)
          · refine lv_iload hx hb dX7_safe_53 (lv_at hl 1 rfl) ?_
            refine lv_aload_n hx hb dX7_safe_55 rfl (lv_at hl 4 rfl) ?_
            refine r_get (C := RX7) (T := TX7) (N := 9) (v := .ref n0) CF hE hP 0 rfl rfl inG7 2 (by decide) tw_1_135 rfl rfl dX7_safe_56 ?_
            refine lv_iload hx hb dX7_safe_59 (lv_at hl 0 rfl) ?_
            refine ro_V (y := yX1_known) (As := [.int (nI k31)]) (rest := [.int x31_0]) (q0 := 8) CF (c_X1_known l D cI cZ n0 t0 n1 n2 t1 t3 t5 t4 t6 nw nP nR nd gv (nI k31) (by omega)) lk_X7_119 hP hE [8, 9, 10, 1, 4, 5, 6, 7] rfl rfl rfl rfl hl.1 rfl (Nat.le_of_ble_eq_true rfl) ⟨Nat.le_of_ble_eq_true rfl, Nat.le_of_ble_eq_true rfl, rfl, rfl⟩ ⟨Nat.zero_le _, Nat.zero_le _⟩ dX7_safe_61 ?_
            refine lv_ior hx hb dX7_safe_64 ?_
            refine lv_istore (lv' := [(5, .int (x31_0 ||| ((B_X5_closure_4 nR nd gv (f_X2_at 15 nw (0 + (nI k31))) nR)))), (6, .int (nI k31)), (4, .int ((B_X1_ears_5 nw nP kd a1 a2 0 nP))), (3, .int (f_X7_refusalToSay nP a1 0 a2)), (0, .ref q0), (1, .int a1), (2, .int a2)]) hx hb dX7_safe_65 hl (by decide) rfl (fun ls hl => ?_)
            refine lv_iinc (v := (nI (k31 + 1))) (lv' := [(6, .int (nI (k31 + 1))), (5, .int (x31_0 ||| ((B_X5_closure_4 nR nd gv (f_X2_at 15 nw (0 + (nI k31))) nR)))), (4, .int ((B_X1_ears_5 nw nP kd a1 a2 0 nP))), (3, .int (f_X7_refusalToSay nP a1 0 a2)), (0, .ref q0), (1, .int a1), (2, .int a2)]) hx hb dX7_safe_67 hl (k := 1) rfl (nf_inc 1 (rfl : nI k31 = nI k31)) (by decide) rfl (fun ls hl => ?_)
            refine lv_goto (tgt := 31) hx hb dX7_safe_70 (by decide) ?_
            have hB2 : B_X7_safe_31 nP nR kd nd gv nw a1 a2 0 (k31 + 1) = (x31_0 ||| ((B_X5_closure_4 nR nd gv (f_X2_at 15 nw (0 + (nI k31))) nR))) := by
              rw [B_X7_safe_31, hB_31]
              rw [S_X7_safe_31, if_neg c_3]
            exact ih_31 (k31 + 1) (x31_0 ||| ((B_X5_closure_4 nR nd gv (f_X2_at 15 nw (0 + (nI k31))) nR))) _ (by omega) (by omega) hB2 (lv_sub hl [0, 1, 2, 3, 4, 5, 6] rfl)
    have e_k : 0 = nI (0) := (nf_c 0).trans (congrArg nI (by omega))
    rw [e_k] at hl
    exact LOOP_31 (nP - 0 + 1) 0 0 _ (Nat.zero_le _) (by omega) rfl (lv_sub hl [0, 1, 2, 3, 4, 5, 6] rfl)
  · refine lv_iload_n hx hb dX7_safe_12 rfl (lv_at hl 0 rfl) ?_
    exact ro_ret CF hQ hr hlk rfl dX7_safe_13 (by rw [f_X7_safe, if_neg c_1])
theorem lk_X7_184 : mLkV RX7 184 yX5_closure cX5_closure 6 (some .int) 1 := ⟨⟨tw_3_10, tw_1_2, tw_2_66, ⟨by decide +kernel, by decide +kernel, by decide +kernel⟩⟩, tw_2_64, tw_2_65⟩
theorem lk_X7_187 : mLkS RX7 187 yX7_isSmaller cX7_isSmaller 2 (some .boolean) 2 := ⟨⟨tw_3_11, tw_1_1, tw_3_13, ⟨by decide +kernel, by decide +kernel, by decide +kernel⟩⟩, tw_3_12⟩
def S_X7_keepFrom_33 (nR : Nat) (nd : Nat → Int32) (gv : Nat → Int32) (nw : Nat → Int32) (a1 : Int32) (a2 : Int32) (k33 : Nat) (x33_0 : Int32) : (Int32) :=
  (if ((nI k33) &&& ((f_X2_at 15 nw (0 + a1)) ^^^ (-1))) = 0 then (if (f_X7_contains ((B_X5_closure_4 nR nd gv ((f_X2_at 15 nw (0 + a1)) &&& ((nI k33) ^^^ (-1))) nR)) a2) = 0 then (if (f_X7_isSmaller (nI k33) x33_0) = 0 then x33_0 else (nI k33)) else x33_0) else x33_0)
def B_X7_keepFrom_33 (nR : Nat) (nd : Nat → Int32) (gv : Nat → Int32) (nw : Nat → Int32) (a1 : Int32) (a2 : Int32) (i0 : Int32) : Nat → (Int32)
  | 0 => i0
  | k + 1 => S_X7_keepFrom_33 nR nd gv nw a1 a2 k (B_X7_keepFrom_33 nR nd gv nw a1 a2 i0 k)
def f_X7_keepFrom (nP : Nat) (nR : Nat) (nd : Nat → Int32) (gv : Nat → Int32) (nw : Nat → Int32) (a1 : Int32) (a2 : Int32) : Int32 :=
  (if (f_X7_isPerson nP a1) = 0 then (-1) else (if (f_X7_isFact a2) = 0 then (-1) else ((B_X7_keepFrom_33 nR nd gv nw a1 a2 (-9) 64))))
set_option maxRecDepth 100000 in
set_option maxHeartbeats 4000000 in
theorem c_X7_keepFrom (l : Launch) (D : va_G) (cI cZ : ClassId) (q0 x0 t0 n0 d0 b0 s0 e0 t1 t3 t5 t4 t6 n1 n2 : Nat) (fs : Int32) (ch : Int64) (nP : Nat) (nR : Nat) (nd : Nat → Int32) (gv : Nat → Int32) (nw : Nat → Int32) (a1 : Int32) (a2 : Int32) (hR : nR ≤ 4) : RO l D cI cZ yX7_keepFrom cX7_keepFrom 7 (some .int) (mR 2 46) [.ref q0, .int a1, .int a2] [(q0, .inr (7, [.ref x0, .ref t0, .ref n0, .ref d0, .ref b0, .ref s0, .ref e0, .int fs, .long ch])), (t0, .inr (5, [.ref t1, .ref t3, .ref t5, .int (nI nP), .int (nI nR)])), (t3, .inr (2, [.ref t4])), (t4, .inl (cI, 4, .inl nd)), (t5, .inr (2, [.ref t6])), (t6, .inl (cI, 4, .inl gv)), (n0, .inr (1, [.ref t0, .ref n1])), (n1, .inr (2, [.ref n2])), (n2, .inl (cI, 15, .inl nw))] (some (.int (f_X7_keepFrom nP nR nd gv nw a1 a2))) := by
  refine RO.of (by decide +kernel) (Nat.le_of_ble_eq_true rfl) ?_
  intro p e s m args below meth c ls Q CF hr hlk hP hE hQ hl
  have hx := CF.1
  have hb := CF.2.1
  have hl : lv_has ls 7 [(0, .ref q0), (1, .int a1), (2, .int a2)] := hl
  refine lv_aload_n hx hb dX7_keepFrom_0 rfl (lv_at hl 0 rfl) ?_
  refine lv_iload_n hx hb dX7_keepFrom_1 rfl (lv_at hl 1 rfl) ?_
  refine ro_V (y := yX7_isPerson) (As := [.int a1]) (rest := []) (q0 := 0) CF (c_X7_isPerson l D cI cZ q0 x0 t0 n0 d0 b0 s0 e0 t1 t3 t5 fs ch nP nR a1) lk_X7_109 hP hE [0, 1] rfl rfl rfl rfl hl.1 rfl (Nat.le_of_ble_eq_true rfl) ⟨Nat.le_of_ble_eq_true rfl, Nat.le_of_ble_eq_true rfl, rfl, rfl⟩ ⟨Nat.zero_le _, Nat.zero_le _⟩ dX7_keepFrom_2 ?_
  refine lv_if_eq (tgt := 15) hx hb dX7_keepFrom_5 (by decide) (fun c_1 => ?_) (fun c_1 => ?_)
  · refine lv_iconst (v := (-1)) hx hb dX7_keepFrom_15 (by decide) ?_
    exact ro_ret CF hQ hr hlk rfl dX7_keepFrom_16 (by rw [f_X7_keepFrom, if_pos c_1])
  · refine lv_iload_n hx hb dX7_keepFrom_8 rfl (lv_at hl 2 rfl) ?_
    refine ro_S (y := yX7_isFact) (As := [.int a2]) (rest := []) CF (c_X7_isFact l D cI cZ a2) lk_X7_143 hE rfl hl.1 rfl (Nat.le_of_ble_eq_true rfl) ⟨Nat.le_of_ble_eq_true rfl, Nat.le_of_ble_eq_true rfl, rfl, rfl⟩ ⟨Nat.zero_le _, Nat.zero_le _⟩ dX7_keepFrom_9 ?_
    refine lv_if_ne (tgt := 17) hx hb dX7_keepFrom_12 (by decide) (fun c_2 => ?_) (fun c_2 => ?_)
    · refine lv_aload_n hx hb dX7_keepFrom_17 rfl (lv_at hl 0 rfl) ?_
      refine r_get (C := RX7) (T := TX7) (N := 9) (v := .ref n0) CF hE hP 0 rfl rfl inG7 2 (by decide) tw_1_135 rfl rfl dX7_keepFrom_18 ?_
      refine lv_iload_n hx hb dX7_keepFrom_21 rfl (lv_at hl 1 rfl) ?_
      refine ro_V (y := yX1_told) (As := [.int a1]) (rest := []) (q0 := 6) CF (c_X1_told l D cI cZ n0 t0 n1 n2 nw a1) lk_X7_116 hP hE [6, 7, 8] rfl rfl rfl rfl hl.1 rfl (Nat.le_of_ble_eq_true rfl) ⟨Nat.le_of_ble_eq_true rfl, Nat.le_of_ble_eq_true rfl, rfl, rfl⟩ ⟨Nat.zero_le _, Nat.zero_le _⟩ dX7_keepFrom_22 ?_
      refine lv_istore_n (lv' := [(3, .int (f_X2_at 15 nw (0 + a1))), (0, .ref q0), (1, .int a1), (2, .int a2)]) hx hb dX7_keepFrom_25 rfl hl (by decide) rfl (fun ls hl => ?_)
      refine lv_bipush (v := (-9)) hx hb dX7_keepFrom_26 (by decide) ?_
      refine lv_istore (lv' := [(4, .int (-9)), (3, .int (f_X2_at 15 nw (0 + a1))), (0, .ref q0), (1, .int a1), (2, .int a2)]) hx hb dX7_keepFrom_28 hl (by decide) rfl (fun ls hl => ?_)
      refine lv_iconst (v := 0) hx hb dX7_keepFrom_30 (by decide) ?_
      refine lv_istore (lv' := [(5, .int 0), (4, .int (-9)), (3, .int (f_X2_at 15 nw (0 + a1))), (0, .ref q0), (1, .int a1), (2, .int a2)]) hx hb dX7_keepFrom_31 hl (by decide) rfl (fun ls hl => ?_)
      have LOOP_33 : ∀ (n_33 k33 : Nat) (x33_0 : Int32) (ls : Array Slot), k33 ≤ 64 → 64 - k33 < n_33 → (B_X7_keepFrom_33 nR nd gv nw a1 a2 (-9) k33) = x33_0 → lv_has ls 7 [(5, .int (nI k33)), (4, .int x33_0), (3, .int (f_X2_at 15 nw (0 + a1))), (0, .ref q0), (1, .int a1), (2, .int a2)] → W p l e (mR 2 46) s m args below meth c s.heap [] 0 0 Q (F0 m 33 ls []) := by
        intro n_33
        induction n_33 with
        | zero => intro k33 x33_0 ls hk_33 hn_33 hB_33 hl; exact absurd hn_33 (Nat.not_lt_zero _)
        | succ n_33 ih_33 =>
          intro k33 x33_0 ls hk_33 hn_33 hB_33 hl
          refine lv_iload hx hb dX7_keepFrom_33 (lv_at hl 0 rfl) ?_
          refine lv_bipush (v := 63) hx hb dX7_keepFrom_35 (by decide) ?_
          refine lv_icmp_gt (tgt := 101) hx hb dX7_keepFrom_37 (by decide) (fun c_3 => ?_) (fun c_3 => ?_)
          · have o_3 : 63 < k33 := (clt (nf_c 63) (rfl : nI k33 = nI k33) (by omega) (by omega)).mp c_3
            have hkN : 64 = k33 := by omega
            subst hkN
            subst hB_33
            refine lv_iload hx hb dX7_keepFrom_101 (lv_at hl 1 rfl) ?_
            exact ro_ret CF hQ hr hlk rfl dX7_keepFrom_103 (by rw [f_X7_keepFrom, if_neg c_1, if_neg c_2])
          · have o_3 : ¬ 63 < k33 := fun h => c_3 ((clt (nf_c 63) (rfl : nI k33 = nI k33) (by omega) (by omega)).mpr h)
            refine lv_iload hx hb dX7_keepFrom_40 (lv_at hl 0 rfl) ?_
            refine lv_iload_n hx hb dX7_keepFrom_42 rfl (lv_at hl 2 rfl) ?_
            refine lv_iconst (v := (-1)) hx hb dX7_keepFrom_43 (by decide) ?_
            refine lv_ixor hx hb dX7_keepFrom_44 ?_
            refine lv_iand hx hb dX7_keepFrom_45 ?_
            refine lv_if_ne (tgt := 73) hx hb dX7_keepFrom_46 (by decide) (fun c_4 => ?_) (fun c_4 => ?_)
            · refine lv_iconst (v := 0) hx hb dX7_keepFrom_73 (by decide) ?_
              refine lv_istore (lv' := [(6, .int 0), (5, .int (nI k33)), (4, .int x33_0), (3, .int (f_X2_at 15 nw (0 + a1))), (0, .ref q0), (1, .int a1), (2, .int a2)]) hx hb dX7_keepFrom_74 hl (by decide) rfl (fun ls hl => ?_)
              refine lv_iload hx hb dX7_keepFrom_76 (lv_at hl 0 rfl) ?_
              refine lv_if_eq (tgt := 95) hx hb dX7_keepFrom_78 (by decide) (fun _ => ?_) (fun c_5 => absurd c_5 (by decide))
              refine lv_iinc (v := (nI (k33 + 1))) (lv' := [(5, .int (nI (k33 + 1))), (6, .int 0), (4, .int x33_0), (3, .int (f_X2_at 15 nw (0 + a1))), (0, .ref q0), (1, .int a1), (2, .int a2)]) hx hb dX7_keepFrom_95 hl (k := 1) rfl (nf_inc 1 (rfl : nI k33 = nI k33)) (by decide) rfl (fun ls hl => ?_)
              refine lv_goto (tgt := 33) hx hb dX7_keepFrom_98 (by decide) ?_
              have hB2 : B_X7_keepFrom_33 nR nd gv nw a1 a2 (-9) (k33 + 1) = x33_0 := by
                rw [B_X7_keepFrom_33, hB_33]
                rw [S_X7_keepFrom_33, if_neg c_4]
              exact ih_33 (k33 + 1) x33_0 _ (by omega) (by omega) hB2 (lv_sub hl [0, 2, 3, 4, 5, 6] rfl)
            · refine lv_aload_n hx hb dX7_keepFrom_49 rfl (lv_at hl 3 rfl) ?_
              refine r_get (C := RX7) (T := TX7) (N := 9) (v := .ref t0) CF hE hP 0 rfl rfl inG7 1 (by decide) tw_1_134 rfl rfl dX7_keepFrom_50 ?_
              refine lv_iload_n hx hb dX7_keepFrom_53 rfl (lv_at hl 2 rfl) ?_
              refine lv_iload hx hb dX7_keepFrom_54 (lv_at hl 0 rfl) ?_
              refine lv_iconst (v := (-1)) hx hb dX7_keepFrom_56 (by decide) ?_
              refine lv_ixor hx hb dX7_keepFrom_57 ?_
              refine lv_iand hx hb dX7_keepFrom_58 ?_
              refine ro_V (y := yX5_closure) (As := [.int ((f_X2_at 15 nw (0 + a1)) &&& ((nI k33) ^^^ (-1)))]) (rest := []) (q0 := 1) CF (c_X5_closure l D cI cZ t0 t1 t3 t5 t4 t6 nP nR nd gv ((f_X2_at 15 nw (0 + a1)) &&& ((nI k33) ^^^ (-1))) (by omega)) lk_X7_184 hP hE [1, 2, 3, 4, 5] rfl rfl rfl rfl hl.1 rfl (Nat.le_of_ble_eq_true rfl) ⟨Nat.le_of_ble_eq_true rfl, Nat.le_of_ble_eq_true rfl, rfl, rfl⟩ ⟨Nat.zero_le _, Nat.zero_le _⟩ dX7_keepFrom_59 ?_
              refine lv_iload_n hx hb dX7_keepFrom_62 rfl (lv_at hl 5 rfl) ?_
              refine ro_S (y := yX7_contains) (As := [.int ((B_X5_closure_4 nR nd gv ((f_X2_at 15 nw (0 + a1)) &&& ((nI k33) ^^^ (-1))) nR)), .int a2]) (rest := []) CF (c_X7_contains l D cI cZ ((B_X5_closure_4 nR nd gv ((f_X2_at 15 nw (0 + a1)) &&& ((nI k33) ^^^ (-1))) nR)) a2) lk_X7_146 hE rfl hl.1 rfl (Nat.le_of_ble_eq_true rfl) ⟨Nat.le_of_ble_eq_true rfl, Nat.le_of_ble_eq_true rfl, rfl, rfl⟩ ⟨Nat.zero_le _, Nat.zero_le _⟩ dX7_keepFrom_63 ?_
              refine lv_if_ne (tgt := 73) hx hb dX7_keepFrom_66 (by decide) (fun c_6 => ?_) (fun c_6 => ?_)
              · refine lv_iconst (v := 0) hx hb dX7_keepFrom_73 (by decide) ?_
                refine lv_istore (lv' := [(6, .int 0), (5, .int (nI k33)), (4, .int x33_0), (3, .int (f_X2_at 15 nw (0 + a1))), (0, .ref q0), (1, .int a1), (2, .int a2)]) hx hb dX7_keepFrom_74 hl (by decide) rfl (fun ls hl => ?_)
                refine lv_iload hx hb dX7_keepFrom_76 (lv_at hl 0 rfl) ?_
                refine lv_if_eq (tgt := 95) hx hb dX7_keepFrom_78 (by decide) (fun _ => ?_) (fun c_7 => absurd c_7 (by decide))
                refine lv_iinc (v := (nI (k33 + 1))) (lv' := [(5, .int (nI (k33 + 1))), (6, .int 0), (4, .int x33_0), (3, .int (f_X2_at 15 nw (0 + a1))), (0, .ref q0), (1, .int a1), (2, .int a2)]) hx hb dX7_keepFrom_95 hl (k := 1) rfl (nf_inc 1 (rfl : nI k33 = nI k33)) (by decide) rfl (fun ls hl => ?_)
                refine lv_goto (tgt := 33) hx hb dX7_keepFrom_98 (by decide) ?_
                have hB2 : B_X7_keepFrom_33 nR nd gv nw a1 a2 (-9) (k33 + 1) = x33_0 := by
                  rw [B_X7_keepFrom_33, hB_33]
                  rw [S_X7_keepFrom_33, if_pos c_4, if_neg c_6]
                exact ih_33 (k33 + 1) x33_0 _ (by omega) (by omega) hB2 (lv_sub hl [0, 2, 3, 4, 5, 6] rfl)
              · refine lv_iconst (v := 1) hx hb dX7_keepFrom_69 (by decide) ?_
                refine lv_goto (tgt := 74) hx hb dX7_keepFrom_70 (by decide) ?_
                refine lv_istore (lv' := [(6, .int 1), (5, .int (nI k33)), (4, .int x33_0), (3, .int (f_X2_at 15 nw (0 + a1))), (0, .ref q0), (1, .int a1), (2, .int a2)]) hx hb dX7_keepFrom_74 hl (by decide) rfl (fun ls hl => ?_)
                refine lv_iload hx hb dX7_keepFrom_76 (lv_at hl 0 rfl) ?_
                refine lv_if_eq (tgt := 95) hx hb dX7_keepFrom_78 (by decide) (fun c_8 => absurd c_8 (by decide)) (fun _ => ?_)
                refine lv_iload hx hb dX7_keepFrom_81 (lv_at hl 1 rfl) ?_
                refine lv_iload hx hb dX7_keepFrom_83 (lv_at hl 2 rfl) ?_
                refine ro_S (y := yX7_isSmaller) (As := [.int (nI k33), .int x33_0]) (rest := []) CF (c_X7_isSmaller l D cI cZ (nI k33) x33_0) lk_X7_187 hE rfl hl.1 rfl (Nat.le_of_ble_eq_true rfl) ⟨Nat.le_of_ble_eq_true rfl, Nat.le_of_ble_eq_true rfl, rfl, rfl⟩ ⟨Nat.zero_le _, Nat.zero_le _⟩ dX7_keepFrom_85 ?_
                refine lv_if_eq (tgt := 95) hx hb dX7_keepFrom_88 (by decide) (fun c_9 => ?_) (fun c_9 => ?_)
                · refine lv_iinc (v := (nI (k33 + 1))) (lv' := [(5, .int (nI (k33 + 1))), (6, .int 1), (4, .int x33_0), (3, .int (f_X2_at 15 nw (0 + a1))), (0, .ref q0), (1, .int a1), (2, .int a2)]) hx hb dX7_keepFrom_95 hl (k := 1) rfl (nf_inc 1 (rfl : nI k33 = nI k33)) (by decide) rfl (fun ls hl => ?_)
                  refine lv_goto (tgt := 33) hx hb dX7_keepFrom_98 (by decide) ?_
                  have hB2 : B_X7_keepFrom_33 nR nd gv nw a1 a2 (-9) (k33 + 1) = x33_0 := by
                    rw [B_X7_keepFrom_33, hB_33]
                    rw [S_X7_keepFrom_33, if_pos c_4, if_pos c_6, if_pos c_9]
                  exact ih_33 (k33 + 1) x33_0 _ (by omega) (by omega) hB2 (lv_sub hl [0, 2, 3, 4, 5, 6] rfl)
                · refine lv_iload hx hb dX7_keepFrom_91 (lv_at hl 1 rfl) ?_
                  refine lv_istore (lv' := [(4, .int (nI k33)), (6, .int 1), (5, .int (nI k33)), (3, .int (f_X2_at 15 nw (0 + a1))), (0, .ref q0), (1, .int a1), (2, .int a2)]) hx hb dX7_keepFrom_93 hl (by decide) rfl (fun ls hl => ?_)
                  refine lv_iinc (v := (nI (k33 + 1))) (lv' := [(5, .int (nI (k33 + 1))), (4, .int (nI k33)), (6, .int 1), (3, .int (f_X2_at 15 nw (0 + a1))), (0, .ref q0), (1, .int a1), (2, .int a2)]) hx hb dX7_keepFrom_95 hl (k := 2) rfl (nf_inc 1 (rfl : nI k33 = nI k33)) (by decide) rfl (fun ls hl => ?_)
                  refine lv_goto (tgt := 33) hx hb dX7_keepFrom_98 (by decide) ?_
                  have hB2 : B_X7_keepFrom_33 nR nd gv nw a1 a2 (-9) (k33 + 1) = (nI k33) := by
                    rw [B_X7_keepFrom_33, hB_33]
                    rw [S_X7_keepFrom_33, if_pos c_4, if_pos c_6, if_neg c_9]
                  exact ih_33 (k33 + 1) (nI k33) _ (by omega) (by omega) hB2 (lv_sub hl [0, 1, 3, 4, 5, 6] rfl)
      have e_k : 0 = nI (0) := (nf_c 0).trans (congrArg nI (by omega))
      rw [e_k] at hl
      exact LOOP_33 (64 - 0 + 1) 0 (-9) _ (Nat.zero_le _) (by omega) rfl (lv_sub hl [0, 1, 2, 3, 4, 5] rfl)
    · refine lv_iconst (v := (-1)) hx hb dX7_keepFrom_15 (by decide) ?_
      exact ro_ret CF hQ hr hlk rfl dX7_keepFrom_16 (by rw [f_X7_keepFrom, if_neg c_1, if_pos c_2])
def S_X7_learn_33 (nR : Nat) (nd : Nat → Int32) (gv : Nat → Int32) (nw : Nat → Int32) (a1 : Int32) (a2 : Int32) (k33 : Nat) (x33_0 : Int32) : (Int32) :=
  (if (f_X7_contains (nI k33) a2) = 0 then (if (f_X7_contains ((B_X5_closure_4 nR nd gv ((f_X2_at 15 nw (0 + a1)) ||| (nI k33)) nR)) a2) = 0 then x33_0 else (if (f_X7_isSmaller (nI k33) x33_0) = 0 then x33_0 else (nI k33))) else x33_0)
def B_X7_learn_33 (nR : Nat) (nd : Nat → Int32) (gv : Nat → Int32) (nw : Nat → Int32) (a1 : Int32) (a2 : Int32) (i0 : Int32) : Nat → (Int32)
  | 0 => i0
  | k + 1 => S_X7_learn_33 nR nd gv nw a1 a2 k (B_X7_learn_33 nR nd gv nw a1 a2 i0 k)
def f_X7_learn (nP : Nat) (nR : Nat) (nd : Nat → Int32) (gv : Nat → Int32) (nw : Nat → Int32) (a1 : Int32) (a2 : Int32) : Int32 :=
  (if (f_X7_isPerson nP a1) = 0 then (-1) else (if (f_X7_isFact a2) = 0 then (-1) else ((B_X7_learn_33 nR nd gv nw a1 a2 (-9) 64))))
set_option maxRecDepth 100000 in
set_option maxHeartbeats 4000000 in
theorem c_X7_learn (l : Launch) (D : va_G) (cI cZ : ClassId) (q0 x0 t0 n0 d0 b0 s0 e0 t1 t3 t5 t4 t6 n1 n2 : Nat) (fs : Int32) (ch : Int64) (nP : Nat) (nR : Nat) (nd : Nat → Int32) (gv : Nat → Int32) (nw : Nat → Int32) (a1 : Int32) (a2 : Int32) (hR : nR ≤ 4) : RO l D cI cZ yX7_learn cX7_learn 7 (some .int) (mR 2 46) [.ref q0, .int a1, .int a2] [(q0, .inr (7, [.ref x0, .ref t0, .ref n0, .ref d0, .ref b0, .ref s0, .ref e0, .int fs, .long ch])), (t0, .inr (5, [.ref t1, .ref t3, .ref t5, .int (nI nP), .int (nI nR)])), (t3, .inr (2, [.ref t4])), (t4, .inl (cI, 4, .inl nd)), (t5, .inr (2, [.ref t6])), (t6, .inl (cI, 4, .inl gv)), (n0, .inr (1, [.ref t0, .ref n1])), (n1, .inr (2, [.ref n2])), (n2, .inl (cI, 15, .inl nw))] (some (.int (f_X7_learn nP nR nd gv nw a1 a2))) := by
  refine RO.of (by decide +kernel) (Nat.le_of_ble_eq_true rfl) ?_
  intro p e s m args below meth c ls Q CF hr hlk hP hE hQ hl
  have hx := CF.1
  have hb := CF.2.1
  have hl : lv_has ls 7 [(0, .ref q0), (1, .int a1), (2, .int a2)] := hl
  refine lv_aload_n hx hb dX7_learn_0 rfl (lv_at hl 0 rfl) ?_
  refine lv_iload_n hx hb dX7_learn_1 rfl (lv_at hl 1 rfl) ?_
  refine ro_V (y := yX7_isPerson) (As := [.int a1]) (rest := []) (q0 := 0) CF (c_X7_isPerson l D cI cZ q0 x0 t0 n0 d0 b0 s0 e0 t1 t3 t5 fs ch nP nR a1) lk_X7_109 hP hE [0, 1] rfl rfl rfl rfl hl.1 rfl (Nat.le_of_ble_eq_true rfl) ⟨Nat.le_of_ble_eq_true rfl, Nat.le_of_ble_eq_true rfl, rfl, rfl⟩ ⟨Nat.zero_le _, Nat.zero_le _⟩ dX7_learn_2 ?_
  refine lv_if_eq (tgt := 15) hx hb dX7_learn_5 (by decide) (fun c_1 => ?_) (fun c_1 => ?_)
  · refine lv_iconst (v := (-1)) hx hb dX7_learn_15 (by decide) ?_
    exact ro_ret CF hQ hr hlk rfl dX7_learn_16 (by rw [f_X7_learn, if_pos c_1])
  · refine lv_iload_n hx hb dX7_learn_8 rfl (lv_at hl 2 rfl) ?_
    refine ro_S (y := yX7_isFact) (As := [.int a2]) (rest := []) CF (c_X7_isFact l D cI cZ a2) lk_X7_143 hE rfl hl.1 rfl (Nat.le_of_ble_eq_true rfl) ⟨Nat.le_of_ble_eq_true rfl, Nat.le_of_ble_eq_true rfl, rfl, rfl⟩ ⟨Nat.zero_le _, Nat.zero_le _⟩ dX7_learn_9 ?_
    refine lv_if_ne (tgt := 17) hx hb dX7_learn_12 (by decide) (fun c_2 => ?_) (fun c_2 => ?_)
    · refine lv_aload_n hx hb dX7_learn_17 rfl (lv_at hl 0 rfl) ?_
      refine r_get (C := RX7) (T := TX7) (N := 9) (v := .ref n0) CF hE hP 0 rfl rfl inG7 2 (by decide) tw_1_135 rfl rfl dX7_learn_18 ?_
      refine lv_iload_n hx hb dX7_learn_21 rfl (lv_at hl 1 rfl) ?_
      refine ro_V (y := yX1_told) (As := [.int a1]) (rest := []) (q0 := 6) CF (c_X1_told l D cI cZ n0 t0 n1 n2 nw a1) lk_X7_116 hP hE [6, 7, 8] rfl rfl rfl rfl hl.1 rfl (Nat.le_of_ble_eq_true rfl) ⟨Nat.le_of_ble_eq_true rfl, Nat.le_of_ble_eq_true rfl, rfl, rfl⟩ ⟨Nat.zero_le _, Nat.zero_le _⟩ dX7_learn_22 ?_
      refine lv_istore_n (lv' := [(3, .int (f_X2_at 15 nw (0 + a1))), (0, .ref q0), (1, .int a1), (2, .int a2)]) hx hb dX7_learn_25 rfl hl (by decide) rfl (fun ls hl => ?_)
      refine lv_bipush (v := (-9)) hx hb dX7_learn_26 (by decide) ?_
      refine lv_istore (lv' := [(4, .int (-9)), (3, .int (f_X2_at 15 nw (0 + a1))), (0, .ref q0), (1, .int a1), (2, .int a2)]) hx hb dX7_learn_28 hl (by decide) rfl (fun ls hl => ?_)
      refine lv_iconst (v := 0) hx hb dX7_learn_30 (by decide) ?_
      refine lv_istore (lv' := [(5, .int 0), (4, .int (-9)), (3, .int (f_X2_at 15 nw (0 + a1))), (0, .ref q0), (1, .int a1), (2, .int a2)]) hx hb dX7_learn_31 hl (by decide) rfl (fun ls hl => ?_)
      have LOOP_33 : ∀ (n_33 k33 : Nat) (x33_0 : Int32) (ls : Array Slot), k33 ≤ 64 → 64 - k33 < n_33 → (B_X7_learn_33 nR nd gv nw a1 a2 (-9) k33) = x33_0 → lv_has ls 7 [(5, .int (nI k33)), (4, .int x33_0), (3, .int (f_X2_at 15 nw (0 + a1))), (0, .ref q0), (1, .int a1), (2, .int a2)] → W p l e (mR 2 46) s m args below meth c s.heap [] 0 0 Q (F0 m 33 ls []) := by
        intro n_33
        induction n_33 with
        | zero => intro k33 x33_0 ls hk_33 hn_33 hB_33 hl; exact absurd hn_33 (Nat.not_lt_zero _)
        | succ n_33 ih_33 =>
          intro k33 x33_0 ls hk_33 hn_33 hB_33 hl
          refine lv_iload hx hb dX7_learn_33 (lv_at hl 0 rfl) ?_
          refine lv_bipush (v := 63) hx hb dX7_learn_35 (by decide) ?_
          refine lv_icmp_gt (tgt := 99) hx hb dX7_learn_37 (by decide) (fun c_3 => ?_) (fun c_3 => ?_)
          · have o_3 : 63 < k33 := (clt (nf_c 63) (rfl : nI k33 = nI k33) (by omega) (by omega)).mp c_3
            have hkN : 64 = k33 := by omega
            subst hkN
            subst hB_33
            refine lv_iload hx hb dX7_learn_99 (lv_at hl 1 rfl) ?_
            exact ro_ret CF hQ hr hlk rfl dX7_learn_101 (by rw [f_X7_learn, if_neg c_1, if_neg c_2])
          · have o_3 : ¬ 63 < k33 := fun h => c_3 ((clt (nf_c 63) (rfl : nI k33 = nI k33) (by omega) (by omega)).mpr h)
            refine lv_iload hx hb dX7_learn_40 (lv_at hl 0 rfl) ?_
            refine lv_iload_n hx hb dX7_learn_42 rfl (lv_at hl 5 rfl) ?_
            refine ro_S (y := yX7_contains) (As := [.int (nI k33), .int a2]) (rest := []) CF (c_X7_contains l D cI cZ (nI k33) a2) lk_X7_146 hE rfl hl.1 rfl (Nat.le_of_ble_eq_true rfl) ⟨Nat.le_of_ble_eq_true rfl, Nat.le_of_ble_eq_true rfl, rfl, rfl⟩ ⟨Nat.zero_le _, Nat.zero_le _⟩ dX7_learn_43 ?_
            refine lv_if_ne (tgt := 71) hx hb dX7_learn_46 (by decide) (fun c_4 => ?_) (fun c_4 => ?_)
            · refine lv_iconst (v := 0) hx hb dX7_learn_71 (by decide) ?_
              refine lv_istore (lv' := [(6, .int 0), (5, .int (nI k33)), (4, .int x33_0), (3, .int (f_X2_at 15 nw (0 + a1))), (0, .ref q0), (1, .int a1), (2, .int a2)]) hx hb dX7_learn_72 hl (by decide) rfl (fun ls hl => ?_)
              refine lv_iload hx hb dX7_learn_74 (lv_at hl 0 rfl) ?_
              refine lv_if_eq (tgt := 93) hx hb dX7_learn_76 (by decide) (fun _ => ?_) (fun c_5 => absurd c_5 (by decide))
              refine lv_iinc (v := (nI (k33 + 1))) (lv' := [(5, .int (nI (k33 + 1))), (6, .int 0), (4, .int x33_0), (3, .int (f_X2_at 15 nw (0 + a1))), (0, .ref q0), (1, .int a1), (2, .int a2)]) hx hb dX7_learn_93 hl (k := 1) rfl (nf_inc 1 (rfl : nI k33 = nI k33)) (by decide) rfl (fun ls hl => ?_)
              refine lv_goto (tgt := 33) hx hb dX7_learn_96 (by decide) ?_
              have hB2 : B_X7_learn_33 nR nd gv nw a1 a2 (-9) (k33 + 1) = x33_0 := by
                rw [B_X7_learn_33, hB_33]
                rw [S_X7_learn_33, if_neg c_4]
              exact ih_33 (k33 + 1) x33_0 _ (by omega) (by omega) hB2 (lv_sub hl [0, 2, 3, 4, 5, 6] rfl)
            · refine lv_aload_n hx hb dX7_learn_49 rfl (lv_at hl 3 rfl) ?_
              refine r_get (C := RX7) (T := TX7) (N := 9) (v := .ref t0) CF hE hP 0 rfl rfl inG7 1 (by decide) tw_1_134 rfl rfl dX7_learn_50 ?_
              refine lv_iload_n hx hb dX7_learn_53 rfl (lv_at hl 2 rfl) ?_
              refine lv_iload hx hb dX7_learn_54 (lv_at hl 0 rfl) ?_
              refine lv_ior hx hb dX7_learn_56 ?_
              refine ro_V (y := yX5_closure) (As := [.int ((f_X2_at 15 nw (0 + a1)) ||| (nI k33))]) (rest := []) (q0 := 1) CF (c_X5_closure l D cI cZ t0 t1 t3 t5 t4 t6 nP nR nd gv ((f_X2_at 15 nw (0 + a1)) ||| (nI k33)) (by omega)) lk_X7_184 hP hE [1, 2, 3, 4, 5] rfl rfl rfl rfl hl.1 rfl (Nat.le_of_ble_eq_true rfl) ⟨Nat.le_of_ble_eq_true rfl, Nat.le_of_ble_eq_true rfl, rfl, rfl⟩ ⟨Nat.zero_le _, Nat.zero_le _⟩ dX7_learn_57 ?_
              refine lv_iload_n hx hb dX7_learn_60 rfl (lv_at hl 5 rfl) ?_
              refine ro_S (y := yX7_contains) (As := [.int ((B_X5_closure_4 nR nd gv ((f_X2_at 15 nw (0 + a1)) ||| (nI k33)) nR)), .int a2]) (rest := []) CF (c_X7_contains l D cI cZ ((B_X5_closure_4 nR nd gv ((f_X2_at 15 nw (0 + a1)) ||| (nI k33)) nR)) a2) lk_X7_146 hE rfl hl.1 rfl (Nat.le_of_ble_eq_true rfl) ⟨Nat.le_of_ble_eq_true rfl, Nat.le_of_ble_eq_true rfl, rfl, rfl⟩ ⟨Nat.zero_le _, Nat.zero_le _⟩ dX7_learn_61 ?_
              refine lv_if_eq (tgt := 71) hx hb dX7_learn_64 (by decide) (fun c_6 => ?_) (fun c_6 => ?_)
              · refine lv_iconst (v := 0) hx hb dX7_learn_71 (by decide) ?_
                refine lv_istore (lv' := [(6, .int 0), (5, .int (nI k33)), (4, .int x33_0), (3, .int (f_X2_at 15 nw (0 + a1))), (0, .ref q0), (1, .int a1), (2, .int a2)]) hx hb dX7_learn_72 hl (by decide) rfl (fun ls hl => ?_)
                refine lv_iload hx hb dX7_learn_74 (lv_at hl 0 rfl) ?_
                refine lv_if_eq (tgt := 93) hx hb dX7_learn_76 (by decide) (fun _ => ?_) (fun c_7 => absurd c_7 (by decide))
                refine lv_iinc (v := (nI (k33 + 1))) (lv' := [(5, .int (nI (k33 + 1))), (6, .int 0), (4, .int x33_0), (3, .int (f_X2_at 15 nw (0 + a1))), (0, .ref q0), (1, .int a1), (2, .int a2)]) hx hb dX7_learn_93 hl (k := 1) rfl (nf_inc 1 (rfl : nI k33 = nI k33)) (by decide) rfl (fun ls hl => ?_)
                refine lv_goto (tgt := 33) hx hb dX7_learn_96 (by decide) ?_
                have hB2 : B_X7_learn_33 nR nd gv nw a1 a2 (-9) (k33 + 1) = x33_0 := by
                  rw [B_X7_learn_33, hB_33]
                  rw [S_X7_learn_33, if_pos c_4, if_pos c_6]
                exact ih_33 (k33 + 1) x33_0 _ (by omega) (by omega) hB2 (lv_sub hl [0, 2, 3, 4, 5, 6] rfl)
              · refine lv_iconst (v := 1) hx hb dX7_learn_67 (by decide) ?_
                refine lv_goto (tgt := 72) hx hb dX7_learn_68 (by decide) ?_
                refine lv_istore (lv' := [(6, .int 1), (5, .int (nI k33)), (4, .int x33_0), (3, .int (f_X2_at 15 nw (0 + a1))), (0, .ref q0), (1, .int a1), (2, .int a2)]) hx hb dX7_learn_72 hl (by decide) rfl (fun ls hl => ?_)
                refine lv_iload hx hb dX7_learn_74 (lv_at hl 0 rfl) ?_
                refine lv_if_eq (tgt := 93) hx hb dX7_learn_76 (by decide) (fun c_8 => absurd c_8 (by decide)) (fun _ => ?_)
                refine lv_iload hx hb dX7_learn_79 (lv_at hl 1 rfl) ?_
                refine lv_iload hx hb dX7_learn_81 (lv_at hl 2 rfl) ?_
                refine ro_S (y := yX7_isSmaller) (As := [.int (nI k33), .int x33_0]) (rest := []) CF (c_X7_isSmaller l D cI cZ (nI k33) x33_0) lk_X7_187 hE rfl hl.1 rfl (Nat.le_of_ble_eq_true rfl) ⟨Nat.le_of_ble_eq_true rfl, Nat.le_of_ble_eq_true rfl, rfl, rfl⟩ ⟨Nat.zero_le _, Nat.zero_le _⟩ dX7_learn_83 ?_
                refine lv_if_eq (tgt := 93) hx hb dX7_learn_86 (by decide) (fun c_9 => ?_) (fun c_9 => ?_)
                · refine lv_iinc (v := (nI (k33 + 1))) (lv' := [(5, .int (nI (k33 + 1))), (6, .int 1), (4, .int x33_0), (3, .int (f_X2_at 15 nw (0 + a1))), (0, .ref q0), (1, .int a1), (2, .int a2)]) hx hb dX7_learn_93 hl (k := 1) rfl (nf_inc 1 (rfl : nI k33 = nI k33)) (by decide) rfl (fun ls hl => ?_)
                  refine lv_goto (tgt := 33) hx hb dX7_learn_96 (by decide) ?_
                  have hB2 : B_X7_learn_33 nR nd gv nw a1 a2 (-9) (k33 + 1) = x33_0 := by
                    rw [B_X7_learn_33, hB_33]
                    rw [S_X7_learn_33, if_pos c_4, if_neg c_6, if_pos c_9]
                  exact ih_33 (k33 + 1) x33_0 _ (by omega) (by omega) hB2 (lv_sub hl [0, 2, 3, 4, 5, 6] rfl)
                · refine lv_iload hx hb dX7_learn_89 (lv_at hl 1 rfl) ?_
                  refine lv_istore (lv' := [(4, .int (nI k33)), (6, .int 1), (5, .int (nI k33)), (3, .int (f_X2_at 15 nw (0 + a1))), (0, .ref q0), (1, .int a1), (2, .int a2)]) hx hb dX7_learn_91 hl (by decide) rfl (fun ls hl => ?_)
                  refine lv_iinc (v := (nI (k33 + 1))) (lv' := [(5, .int (nI (k33 + 1))), (4, .int (nI k33)), (6, .int 1), (3, .int (f_X2_at 15 nw (0 + a1))), (0, .ref q0), (1, .int a1), (2, .int a2)]) hx hb dX7_learn_93 hl (k := 2) rfl (nf_inc 1 (rfl : nI k33 = nI k33)) (by decide) rfl (fun ls hl => ?_)
                  refine lv_goto (tgt := 33) hx hb dX7_learn_96 (by decide) ?_
                  have hB2 : B_X7_learn_33 nR nd gv nw a1 a2 (-9) (k33 + 1) = (nI k33) := by
                    rw [B_X7_learn_33, hB_33]
                    rw [S_X7_learn_33, if_pos c_4, if_neg c_6, if_neg c_9]
                  exact ih_33 (k33 + 1) (nI k33) _ (by omega) (by omega) hB2 (lv_sub hl [0, 1, 3, 4, 5, 6] rfl)
      have e_k : 0 = nI (0) := (nf_c 0).trans (congrArg nI (by omega))
      rw [e_k] at hl
      exact LOOP_33 (64 - 0 + 1) 0 (-9) _ (Nat.zero_le _) (by omega) rfl (lv_sub hl [0, 1, 2, 3, 4, 5] rfl)
    · refine lv_iconst (v := (-1)) hx hb dX7_learn_15 (by decide) ?_
      exact ro_ret CF hQ hr hlk rfl dX7_learn_16 (by rw [f_X7_learn, if_neg c_1, if_pos c_2])
def f_X7_isPutRight (nP : Nat) (nR : Nat) (kd : Nat → Int32) (nd : Nat → Int32) (gv : Nat → Int32) (dw : Nat → Int32) (a1 : Int32) (a2 : Int32) (a3 : Int32) : Int32 :=
  (if (f_X7_refusalToSay nP a1 a2 a3) = 0 then (if (f_X1_lie dw nP nR kd nd gv a1 a2 a3) = (-9) then 0 else 1) else 0)
theorem z_f_X7_isPutRight (nP : Nat) (nR : Nat) (kd : Nat → Int32) (nd : Nat → Int32) (gv : Nat → Int32) (dw : Nat → Int32) (a1 : Int32) (a2 : Int32) (a3 : Int32) : narrow .boolean (.int (f_X7_isPutRight nP nR kd nd gv dw a1 a2 a3)) = .int (f_X7_isPutRight nP nR kd nd gv dw a1 a2 a3) := by
  unfold f_X7_isPutRight
  repeat' split
  all_goals first | rfl
def f_X7_isPutRight_dw (nP : Nat) (nR : Nat) (kd : Nat → Int32) (nd : Nat → Int32) (gv : Nat → Int32) (dw : Nat → Int32) (a1 : Int32) (a2 : Int32) (a3 : Int32) : Nat → Int32 :=
  (if (f_X7_refusalToSay nP a1 a2 a3) = 0 then (if (f_X1_lie dw nP nR kd nd gv a1 a2 a3) = (-9) then (f_X1_lie_nw dw nP nR kd nd gv a1 a2 a3) else (f_X1_lie_nw dw nP nR kd nd gv a1 a2 a3)) else dw)
set_option maxRecDepth 100000 in
set_option maxHeartbeats 4000000 in
theorem c_X7_isPutRight (l : Launch) (D : va_G) (cI cZ : ClassId) (q0 x0 t0 n0 d0 b0 s0 e0 t1 t3 t5 t2 t4 t6 d1 d2 : Nat) (fs : Int32) (ch : Int64) (nP : Nat) (nR : Nat) (kd : Nat → Int32) (nd : Nat → Int32) (gv : Nat → Int32) (dw : Nat → Int32) (a1 : Int32) (a2 : Int32) (a3 : Int32) (hP5 : nP ≤ 5) (hR : nR ≤ 4) : MU l D cI cZ yX7_isPutRight cX7_isPutRight 4 (some .boolean) (mR 5 116) [.ref q0, .int a1, .int a2, .int a3] [(q0, .inr (7, [.ref x0, .ref t0, .ref n0, .ref d0, .ref b0, .ref s0, .ref e0, .int fs, .long ch])), (t0, .inr (5, [.ref t1, .ref t3, .ref t5, .int (nI nP), .int (nI nR)])), (t1, .inr (2, [.ref t2])), (t2, .inl (cI, 5, .inl kd)), (t3, .inr (2, [.ref t4])), (t4, .inl (cI, 4, .inl nd)), (t5, .inr (2, [.ref t6])), (t6, .inl (cI, 4, .inl gv)), (d0, .inr (1, [.ref t0, .ref d1])), (d1, .inr (2, [.ref d2])), (d2, .inl (cI, 15, .inl dw))] [(q0, .inr (7, [.ref x0, .ref t0, .ref n0, .ref d0, .ref b0, .ref s0, .ref e0, .int fs, .long ch])), (t0, .inr (5, [.ref t1, .ref t3, .ref t5, .int (nI nP), .int (nI nR)])), (t1, .inr (2, [.ref t2])), (t2, .inl (cI, 5, .inl kd)), (t3, .inr (2, [.ref t4])), (t4, .inl (cI, 4, .inl nd)), (t5, .inr (2, [.ref t6])), (t6, .inl (cI, 4, .inl gv)), (d0, .inr (1, [.ref t0, .ref d1])), (d1, .inr (2, [.ref d2])), (d2, .inl (cI, 15, .inl (f_X7_isPutRight_dw nP nR kd nd gv dw a1 a2 a3)))] (some (.int (f_X7_isPutRight nP nR kd nd gv dw a1 a2 a3))) := by
  refine MU.of (by decide +kernel) (Nat.le_of_ble_eq_true rfl) ?_
  intro p e s m args below meth c ls Q A CF hr hlk hP hE hD hS hQ hl
  have hx := CF.1
  have hb := CF.2.1
  have hl : lv_has ls 4 [(0, .ref q0), (1, .int a1), (2, .int a2), (3, .int a3)] := hl
  refine lv_aload_n hx hb dX7_isPutRight_0 rfl (lv_at hl 0 rfl) ?_
  refine lv_iload_n hx hb dX7_isPutRight_1 rfl (lv_at hl 1 rfl) ?_
  refine lv_iload_n hx hb dX7_isPutRight_2 rfl (lv_at hl 2 rfl) ?_
  refine lv_iload_n hx hb dX7_isPutRight_3 rfl (lv_at hl 3 rfl) ?_
  refine ro_V (y := yX7_refusalToSay) (As := [.int a1, .int a2, .int a3]) (rest := []) (q0 := 0) CF (c_X7_refusalToSay l D cI cZ q0 x0 t0 n0 d0 b0 s0 e0 t1 t3 t5 fs ch nP nR a1 a2 a3) lk_X7_132 hP hE [0, 1] rfl rfl rfl rfl hl.1 rfl (Nat.le_of_ble_eq_true rfl) ⟨Nat.le_of_ble_eq_true rfl, Nat.le_of_ble_eq_true rfl, rfl, rfl⟩ ⟨Nat.zero_le _, Nat.zero_le _⟩ dX7_isPutRight_4 ?_
  refine lv_if_ne (tgt := 29) hx hb dX7_isPutRight_7 (by decide) (fun c_1 => ?_) (fun c_1 => ?_)
  · refine lv_iconst (v := 0) hx hb dX7_isPutRight_29 (by decide) ?_
    have e_0 : (f_X7_isPutRight_dw nP nR kd nd gv dw a1 a2 a3) = dw := by rw [f_X7_isPutRight_dw, if_neg c_1]
    exact mu_reti CF hQ hr hlk rfl hP hS dX7_isPutRight_30 (by rw [f_X7_isPutRight, if_neg c_1]) (by rw [e_0])
  · refine lv_aload_n hx hb dX7_isPutRight_10 rfl (lv_at hl 0 rfl) ?_
    refine r_get (C := RX7) (T := TX7) (N := 9) (v := .ref d0) CF hE hP 0 rfl rfl inG7 3 (by decide) tw_1_136 rfl rfl dX7_isPutRight_11 ?_
    refine lv_iload_n hx hb dX7_isPutRight_14 rfl (lv_at hl 1 rfl) ?_
    refine lv_iload_n hx hb dX7_isPutRight_15 rfl (lv_at hl 2 rfl) ?_
    refine lv_iload_n hx hb dX7_isPutRight_16 rfl (lv_at hl 3 rfl) ?_
    refine mu_V (y := yX1_lie) (As := [.int a1, .int a2, .int a3]) (rest := []) (q0 := 8) (ws' := [(q0, .inr (7, [.ref x0, .ref t0, .ref n0, .ref d0, .ref b0, .ref s0, .ref e0, .int fs, .long ch])), (t0, .inr (5, [.ref t1, .ref t3, .ref t5, .int (nI nP), .int (nI nR)])), (t1, .inr (2, [.ref t2])), (t2, .inl (cI, 5, .inl kd)), (t3, .inr (2, [.ref t4])), (t4, .inl (cI, 4, .inl nd)), (t5, .inr (2, [.ref t6])), (t6, .inl (cI, 4, .inl gv)), (d0, .inr (1, [.ref t0, .ref d1])), (d1, .inr (2, [.ref d2])), (d2, .inl (cI, 15, .inl (f_X1_lie_nw dw nP nR kd nd gv a1 a2 a3)))]) (ad := [q0, t0, t1, t2, t3, t4, t5, t6, d0, d1, d2]) CF (c_X1_lie l D cI cZ d0 t0 d1 d2 t1 t3 t5 t2 t4 t6 dw nP nR kd nd gv a1 a2 a3 (by omega) (by omega)) lk_X7_140 hP hE hD hS [8, 9, 10, 1, 2, 3, 4, 5, 6, 7] rfl (by decide) (Nat.le_of_ble_eq_true rfl) rfl rfl rfl rfl rfl rfl hl.1 rfl (Nat.le_of_ble_eq_true rfl) ⟨Nat.le_of_ble_eq_true rfl, Nat.le_of_ble_eq_true rfl, rfl, rfl⟩ ⟨Nat.zero_le _, Nat.zero_le _⟩ dX7_isPutRight_17 (fun H locs hP hD hS => ?_)
    refine lv_bipush (v := (-9)) hx hb dX7_isPutRight_20 (by decide) ?_
    refine lv_icmp_eq (tgt := 29) hx hb dX7_isPutRight_22 (by decide) (fun c_2 => ?_) (fun c_2 => ?_)
    · refine lv_iconst (v := 0) hx hb dX7_isPutRight_29 (by decide) ?_
      have e_0 : (f_X7_isPutRight_dw nP nR kd nd gv dw a1 a2 a3) = (f_X1_lie_nw dw nP nR kd nd gv a1 a2 a3) := by rw [f_X7_isPutRight_dw, if_pos c_1, if_pos c_2]
      exact mu_reti CF hQ hr hlk rfl hP hS dX7_isPutRight_30 (by rw [f_X7_isPutRight, if_pos c_1, if_pos c_2]) (by rw [e_0])
    · refine lv_iconst (v := 1) hx hb dX7_isPutRight_25 (by decide) ?_
      refine lv_goto (tgt := 30) hx hb dX7_isPutRight_26 (by decide) ?_
      have e_0 : (f_X7_isPutRight_dw nP nR kd nd gv dw a1 a2 a3) = (f_X1_lie_nw dw nP nR kd nd gv a1 a2 a3) := by rw [f_X7_isPutRight_dw, if_pos c_1, if_neg c_2]
      exact mu_reti CF hQ hr hlk rfl hP hS dX7_isPutRight_30 (by rw [f_X7_isPutRight, if_pos c_1, if_neg c_2]) (by rw [e_0])
def S_X7_factsTogether_4 (nw : Nat → Int32) (a1 : Int32) (k4 : Nat) (x4_0 : Int32) : (Int32) :=
  (if (f_X7_contains a1 (nI k4)) = 0 then x4_0 else (x4_0 ||| (f_X2_at 15 nw (0 + (nI k4)))))
def B_X7_factsTogether_4 (nw : Nat → Int32) (a1 : Int32) (i0 : Int32) : Nat → (Int32)
  | 0 => i0
  | k + 1 => S_X7_factsTogether_4 nw a1 k (B_X7_factsTogether_4 nw a1 i0 k)
set_option maxRecDepth 100000 in
set_option maxHeartbeats 4000000 in
theorem c_X7_factsTogether (l : Launch) (D : va_G) (cI cZ : ClassId) (q0 x0 t0 n0 d0 b0 s0 e0 t1 t3 t5 t4 t6 n1 n2 : Nat) (fs : Int32) (ch : Int64) (nP : Nat) (nR : Nat) (nd : Nat → Int32) (gv : Nat → Int32) (nw : Nat → Int32) (a1 : Int32) (hP5 : nP ≤ 5) (hR : nR ≤ 4) : RO l D cI cZ yX7_factsTogether cX7_factsTogether 4 (some .int) (mR 2 46) [.ref q0, .int a1] [(q0, .inr (7, [.ref x0, .ref t0, .ref n0, .ref d0, .ref b0, .ref s0, .ref e0, .int fs, .long ch])), (t0, .inr (5, [.ref t1, .ref t3, .ref t5, .int (nI nP), .int (nI nR)])), (t3, .inr (2, [.ref t4])), (t4, .inl (cI, 4, .inl nd)), (t5, .inr (2, [.ref t6])), (t6, .inl (cI, 4, .inl gv)), (n0, .inr (1, [.ref t0, .ref n1])), (n1, .inr (2, [.ref n2])), (n2, .inl (cI, 15, .inl nw))] (some (.int (f_J6_bitCount_0f7a4 ((B_X5_closure_4 nR nd gv ((B_X7_factsTogether_4 nw a1 0 nP)) nR))))) := by
  refine RO.of (by decide +kernel) (Nat.le_of_ble_eq_true rfl) ?_
  intro p e s m args below meth c ls Q CF hr hlk hP hE hQ hl
  have hx := CF.1
  have hb := CF.2.1
  have hl : lv_has ls 4 [(0, .ref q0), (1, .int a1)] := hl
  refine lv_iconst (v := 0) hx hb dX7_factsTogether_0 (by decide) ?_
  refine lv_istore_n (lv' := [(2, .int 0), (0, .ref q0), (1, .int a1)]) hx hb dX7_factsTogether_1 rfl hl (by decide) rfl (fun ls hl => ?_)
  refine lv_iconst (v := 0) hx hb dX7_factsTogether_2 (by decide) ?_
  refine lv_istore_n (lv' := [(3, .int 0), (2, .int 0), (0, .ref q0), (1, .int a1)]) hx hb dX7_factsTogether_3 rfl hl (by decide) rfl (fun ls hl => ?_)
  have LOOP_4 : ∀ (n_4 k4 : Nat) (x4_0 : Int32) (ls : Array Slot), k4 ≤ nP → nP - k4 < n_4 → (B_X7_factsTogether_4 nw a1 0 k4) = x4_0 → lv_has ls 4 [(3, .int (nI k4)), (2, .int x4_0), (0, .ref q0), (1, .int a1)] → W p l e (mR 2 46) s m args below meth c s.heap [] 0 0 Q (F0 m 4 ls []) := by
    intro n_4
    induction n_4 with
    | zero => intro k4 x4_0 ls hk_4 hn_4 hB_4 hl; exact absurd hn_4 (Nat.not_lt_zero _)
    | succ n_4 ih_4 =>
      intro k4 x4_0 ls hk_4 hn_4 hB_4 hl
      refine lv_iload_n hx hb dX7_factsTogether_4 rfl (lv_at hl 0 rfl) ?_
      refine lv_aload_n hx hb dX7_factsTogether_5 rfl (lv_at hl 2 rfl) ?_
      refine r_get (C := RX7) (T := TX7) (N := 9) (v := .ref t0) CF hE hP 0 rfl rfl inG7 1 (by decide) tw_1_134 rfl rfl dX7_factsTogether_6 ?_
      refine ro_V (y := yX5_people) (As := []) (rest := [.int (nI k4)]) (q0 := 1) CF (c_X5_people l D cI cZ t0 t1 t3 t5 nP nR) lk_X7_93 hP hE [1] rfl rfl rfl rfl hl.1 rfl (Nat.le_of_ble_eq_true rfl) ⟨Nat.le_of_ble_eq_true rfl, Nat.le_of_ble_eq_true rfl, rfl, rfl⟩ ⟨Nat.zero_le _, Nat.zero_le _⟩ dX7_factsTogether_9 ?_
      refine lv_icmp_ge (tgt := 40) hx hb dX7_factsTogether_12 (by decide) (fun c_1 => ?_) (fun c_1 => ?_)
      · have o_1 : nP ≤ k4 := (cle (rfl : nI nP = nI nP) (rfl : nI k4 = nI k4) (by omega) (by omega)).mp c_1
        have hkN : nP = k4 := by omega
        subst hkN
        subst hB_4
        refine lv_aload_n hx hb dX7_factsTogether_40 rfl (lv_at hl 2 rfl) ?_
        refine r_get (C := RX7) (T := TX7) (N := 9) (v := .ref t0) CF hE hP 0 rfl rfl inG7 1 (by decide) tw_1_134 rfl rfl dX7_factsTogether_41 ?_
        refine lv_iload_n hx hb dX7_factsTogether_44 rfl (lv_at hl 1 rfl) ?_
        refine ro_V (y := yX5_closure) (As := [.int ((B_X7_factsTogether_4 nw a1 0 nP))]) (rest := []) (q0 := 1) CF (c_X5_closure l D cI cZ t0 t1 t3 t5 t4 t6 nP nR nd gv ((B_X7_factsTogether_4 nw a1 0 nP)) (by omega)) lk_X7_184 hP hE [1, 2, 3, 4, 5] rfl rfl rfl rfl hl.1 rfl (Nat.le_of_ble_eq_true rfl) ⟨Nat.le_of_ble_eq_true rfl, Nat.le_of_ble_eq_true rfl, rfl, rfl⟩ ⟨Nat.zero_le _, Nat.zero_le _⟩ dX7_factsTogether_45 ?_
        refine ro_S (y := yJ6_bitCount_0f7a4) (As := [.int ((B_X5_closure_4 nR nd gv ((B_X7_factsTogether_4 nw a1 0 nP)) nR))]) (rest := []) CF (c_J6_bitCount_0f7a4 l D cI cZ ((B_X5_closure_4 nR nd gv ((B_X7_factsTogether_4 nw a1 0 nP)) nR))) lk_X7_176 hE rfl hl.1 rfl (Nat.le_of_ble_eq_true rfl) ⟨Nat.le_of_ble_eq_true rfl, Nat.le_of_ble_eq_true rfl, rfl, rfl⟩ ⟨Nat.zero_le _, Nat.zero_le _⟩ dX7_factsTogether_48 ?_
        exact ro_ret CF hQ hr hlk rfl dX7_factsTogether_51 rfl
      · have o_1 : ¬ nP ≤ k4 := fun h => c_1 ((cle (rfl : nI nP = nI nP) (rfl : nI k4 = nI k4) (by omega) (by omega)).mpr h)
        refine lv_iload_n hx hb dX7_factsTogether_15 rfl (lv_at hl 3 rfl) ?_
        refine lv_iload_n hx hb dX7_factsTogether_16 rfl (lv_at hl 0 rfl) ?_
        refine ro_S (y := yX7_contains) (As := [.int a1, .int (nI k4)]) (rest := []) CF (c_X7_contains l D cI cZ a1 (nI k4)) lk_X7_146 hE rfl hl.1 rfl (Nat.le_of_ble_eq_true rfl) ⟨Nat.le_of_ble_eq_true rfl, Nat.le_of_ble_eq_true rfl, rfl, rfl⟩ ⟨Nat.zero_le _, Nat.zero_le _⟩ dX7_factsTogether_17 ?_
        refine lv_if_eq (tgt := 34) hx hb dX7_factsTogether_20 (by decide) (fun c_2 => ?_) (fun c_2 => ?_)
        · refine lv_iinc (v := (nI (k4 + 1))) (lv' := [(3, .int (nI (k4 + 1))), (2, .int x4_0), (0, .ref q0), (1, .int a1)]) hx hb dX7_factsTogether_34 hl (k := 0) rfl (nf_inc 1 (rfl : nI k4 = nI k4)) (by decide) rfl (fun ls hl => ?_)
          refine lv_goto (tgt := 4) hx hb dX7_factsTogether_37 (by decide) ?_
          have hB2 : B_X7_factsTogether_4 nw a1 0 (k4 + 1) = x4_0 := by
            rw [B_X7_factsTogether_4, hB_4]
            rw [S_X7_factsTogether_4, if_pos c_2]
          exact ih_4 (k4 + 1) x4_0 _ (by omega) (by omega) hB2 (lv_sub hl [0, 1, 2, 3] rfl)
        · refine lv_iload_n hx hb dX7_factsTogether_23 rfl (lv_at hl 1 rfl) ?_
          refine lv_aload_n hx hb dX7_factsTogether_24 rfl (lv_at hl 2 rfl) ?_
          refine r_get (C := RX7) (T := TX7) (N := 9) (v := .ref n0) CF hE hP 0 rfl rfl inG7 2 (by decide) tw_1_135 rfl rfl dX7_factsTogether_25 ?_
          refine lv_iload_n hx hb dX7_factsTogether_28 rfl (lv_at hl 0 rfl) ?_
          refine ro_V (y := yX1_told) (As := [.int (nI k4)]) (rest := [.int x4_0]) (q0 := 6) CF (c_X1_told l D cI cZ n0 t0 n1 n2 nw (nI k4)) lk_X7_116 hP hE [6, 7, 8] rfl rfl rfl rfl hl.1 rfl (Nat.le_of_ble_eq_true rfl) ⟨Nat.le_of_ble_eq_true rfl, Nat.le_of_ble_eq_true rfl, rfl, rfl⟩ ⟨Nat.zero_le _, Nat.zero_le _⟩ dX7_factsTogether_29 ?_
          refine lv_ior hx hb dX7_factsTogether_32 ?_
          refine lv_istore_n (lv' := [(2, .int (x4_0 ||| (f_X2_at 15 nw (0 + (nI k4))))), (3, .int (nI k4)), (0, .ref q0), (1, .int a1)]) hx hb dX7_factsTogether_33 rfl hl (by decide) rfl (fun ls hl => ?_)
          refine lv_iinc (v := (nI (k4 + 1))) (lv' := [(3, .int (nI (k4 + 1))), (2, .int (x4_0 ||| (f_X2_at 15 nw (0 + (nI k4))))), (0, .ref q0), (1, .int a1)]) hx hb dX7_factsTogether_34 hl (k := 1) rfl (nf_inc 1 (rfl : nI k4 = nI k4)) (by decide) rfl (fun ls hl => ?_)
          refine lv_goto (tgt := 4) hx hb dX7_factsTogether_37 (by decide) ?_
          have hB2 : B_X7_factsTogether_4 nw a1 0 (k4 + 1) = (x4_0 ||| (f_X2_at 15 nw (0 + (nI k4)))) := by
            rw [B_X7_factsTogether_4, hB_4]
            rw [S_X7_factsTogether_4, if_neg c_2]
          exact ih_4 (k4 + 1) (x4_0 ||| (f_X2_at 15 nw (0 + (nI k4)))) _ (by omega) (by omega) hB2 (lv_sub hl [0, 1, 2, 3] rfl)
  have e_k : 0 = nI (0) := (nf_c 0).trans (congrArg nI (by omega))
  rw [e_k] at hl
  exact LOOP_4 (nP - 0 + 1) 0 0 _ (Nat.zero_le _) (by omega) rfl (lv_sub hl [0, 1, 2, 3] rfl)
theorem lk_X7_214 : mLkV RX7 214 yX3_allows cX3_allows 2 (some .boolean) 1 := ⟨⟨tw_3_67, tw_1_9, tw_3_70, ⟨by decide +kernel, by decide +kernel, by decide +kernel⟩⟩, tw_3_68, tw_3_69⟩
def S_X7_minds_23 (nR : Nat) (nd : Nat → Int32) (gv : Nat → Int32) (su : Int32) (sp : Int32) (k23 : Nat) (x23_0 : Int32) (x23_1 : Int32) (x23_2 : Int32) : (Int32) × (Int32) × (Int32) :=
  (if (f_X3_allows su sp ((B_X5_closure_4 nR nd gv (nI k23) nR))) = 0 then (x23_0, x23_1, x23_2) else ((x23_0 + 1), (x23_1 &&& ((B_X5_closure_4 nR nd gv (nI k23) nR))), (x23_2 ||| ((B_X5_closure_4 nR nd gv (nI k23) nR)))))
def B_X7_minds_23 (nR : Nat) (nd : Nat → Int32) (gv : Nat → Int32) (su : Int32) (sp : Int32) (i0 : Int32) (i1 : Int32) (i2 : Int32) : Nat → (Int32) × (Int32) × (Int32)
  | 0 => (i0, i1, i2)
  | k + 1 => S_X7_minds_23 nR nd gv su sp k (B_X7_minds_23 nR nd gv su sp i0 i1 i2 k).1 (B_X7_minds_23 nR nd gv su sp i0 i1 i2 k).2.1 (B_X7_minds_23 nR nd gv su sp i0 i1 i2 k).2.2
def f_X7_minds (nR : Nat) (nd : Nat → Int32) (gv : Nat → Int32) (su : Int32) (sp : Int32) (a1 : Int32) : Int32 :=
  (if a1 < 0 then (-2) else (if a1 ≤ 2 then (if a1 = 0 then ((B_X7_minds_23 nR nd gv su sp 0 63 0 64).1) else (if ((B_X7_minds_23 nR nd gv su sp 0 63 0 64).1) = 0 then (-9) else (if a1 = 1 then ((B_X7_minds_23 nR nd gv su sp 0 63 0 64).2.1) else (63 &&& (((B_X7_minds_23 nR nd gv su sp 0 63 0 64).2.2) ^^^ (-1)))))) else (-2)))
set_option maxRecDepth 100000 in
set_option maxHeartbeats 4000000 in
theorem c_X7_minds (l : Launch) (D : va_G) (cI cZ : ClassId) (q0 x0 t0 n0 d0 b0 s0 e0 t1 t3 t5 t4 t6 : Nat) (fs : Int32) (ch : Int64) (nP : Nat) (nR : Nat) (nd : Nat → Int32) (gv : Nat → Int32) (sc : Int32) (su : Int32) (sp : Int32) (a1 : Int32) (hR : nR ≤ 4) : RO l D cI cZ yX7_minds cX7_minds 7 (some .int) (mR 2 46) [.ref q0, .int a1] [(q0, .inr (7, [.ref x0, .ref t0, .ref n0, .ref d0, .ref b0, .ref s0, .ref e0, .int fs, .long ch])), (t0, .inr (5, [.ref t1, .ref t3, .ref t5, .int (nI nP), .int (nI nR)])), (t3, .inr (2, [.ref t4])), (t4, .inl (cI, 4, .inl nd)), (t5, .inr (2, [.ref t6])), (t6, .inl (cI, 4, .inl gv)), (e0, .inr (3, [.int sc, .int su, .int sp]))] (some (.int (f_X7_minds nR nd gv su sp a1))) := by
  refine RO.of (by decide +kernel) (Nat.le_of_ble_eq_true rfl) ?_
  intro p e s m args below meth c ls Q CF hr hlk hP hE hQ hl
  have hx := CF.1
  have hb := CF.2.1
  have hl : lv_has ls 7 [(0, .ref q0), (1, .int a1)] := hl
  refine lv_iload_n hx hb dX7_minds_0 rfl (lv_at hl 1 rfl) ?_
  refine lv_if_lt (tgt := 9) hx hb dX7_minds_1 (by decide) (fun c_1 => ?_) (fun c_1 => ?_)
  · refine lv_bipush (v := (-2)) hx hb dX7_minds_9 (by decide) ?_
    exact ro_ret CF hQ hr hlk rfl dX7_minds_11 (by rw [f_X7_minds, if_pos c_1])
  · refine lv_iload_n hx hb dX7_minds_4 rfl (lv_at hl 1 rfl) ?_
    refine lv_iconst (v := 2) hx hb dX7_minds_5 (by decide) ?_
    refine lv_icmp_le (tgt := 12) hx hb dX7_minds_6 (by decide) (fun c_2 => ?_) (fun c_2 => ?_)
    · refine lv_iconst (v := 0) hx hb dX7_minds_12 (by decide) ?_
      refine lv_istore_n (lv' := [(2, .int 0), (0, .ref q0), (1, .int a1)]) hx hb dX7_minds_13 rfl hl (by decide) rfl (fun ls hl => ?_)
      refine lv_bipush (v := 63) hx hb dX7_minds_14 (by decide) ?_
      refine lv_istore_n (lv' := [(3, .int 63), (2, .int 0), (0, .ref q0), (1, .int a1)]) hx hb dX7_minds_16 rfl hl (by decide) rfl (fun ls hl => ?_)
      refine lv_iconst (v := 0) hx hb dX7_minds_17 (by decide) ?_
      refine lv_istore (lv' := [(4, .int 0), (3, .int 63), (2, .int 0), (0, .ref q0), (1, .int a1)]) hx hb dX7_minds_18 hl (by decide) rfl (fun ls hl => ?_)
      refine lv_iconst (v := 0) hx hb dX7_minds_20 (by decide) ?_
      refine lv_istore (lv' := [(5, .int 0), (4, .int 0), (3, .int 63), (2, .int 0), (0, .ref q0), (1, .int a1)]) hx hb dX7_minds_21 hl (by decide) rfl (fun ls hl => ?_)
      have LOOP_23 : ∀ (n_23 k23 : Nat) (x23_0 : Int32) (x23_1 : Int32) (x23_2 : Int32) (ls : Array Slot), k23 ≤ 64 → 64 - k23 < n_23 → (B_X7_minds_23 nR nd gv su sp 0 63 0 k23) = (x23_0, x23_1, x23_2) → lv_has ls 7 [(5, .int (nI k23)), (4, .int x23_2), (3, .int x23_1), (2, .int x23_0), (0, .ref q0), (1, .int a1)] → W p l e (mR 2 46) s m args below meth c s.heap [] 0 0 Q (F0 m 23 ls []) := by
        intro n_23
        induction n_23 with
        | zero => intro k23 x23_0 x23_1 x23_2 ls hk_23 hn_23 hB_23 hl; exact absurd hn_23 (Nat.not_lt_zero _)
        | succ n_23 ih_23 =>
          intro k23 x23_0 x23_1 x23_2 ls hk_23 hn_23 hB_23 hl
          refine lv_iload hx hb dX7_minds_23 (lv_at hl 0 rfl) ?_
          refine lv_bipush (v := 63) hx hb dX7_minds_25 (by decide) ?_
          refine lv_icmp_gt (tgt := 74) hx hb dX7_minds_27 (by decide) (fun c_3 => ?_) (fun c_3 => ?_)
          · have o_3 : 63 < k23 := (clt (nf_c 63) (rfl : nI k23 = nI k23) (by omega) (by omega)).mp c_3
            have hkN : 64 = k23 := by omega
            subst hkN
            obtain ⟨rfl, rfl, rfl⟩ : x23_0 = (B_X7_minds_23 nR nd gv su sp 0 63 0 64).1 ∧ x23_1 = (B_X7_minds_23 nR nd gv su sp 0 63 0 64).2.1 ∧ x23_2 = (B_X7_minds_23 nR nd gv su sp 0 63 0 64).2.2 := by rw [hB_23]; exact ⟨rfl, rfl, rfl⟩
            refine lv_iload_n hx hb dX7_minds_74 rfl (lv_at hl 5 rfl) ?_
            refine lv_if_ne (tgt := 80) hx hb dX7_minds_75 (by decide) (fun c_5 => ?_) (fun c_5 => ?_)
            · refine lv_iload_n hx hb dX7_minds_80 rfl (lv_at hl 3 rfl) ?_
              refine lv_if_ne (tgt := 87) hx hb dX7_minds_81 (by decide) (fun c_6 => ?_) (fun c_6 => ?_)
              · refine lv_iload_n hx hb dX7_minds_87 rfl (lv_at hl 5 rfl) ?_
                refine lv_iconst (v := 1) hx hb dX7_minds_88 (by decide) ?_
                refine lv_icmp_ne (tgt := 96) hx hb dX7_minds_89 (by decide) (fun c_7 => ?_) (fun c_7 => ?_)
                · refine lv_bipush (v := 63) hx hb dX7_minds_96 (by decide) ?_
                  refine lv_iload hx hb dX7_minds_98 (lv_at hl 1 rfl) ?_
                  refine lv_iconst (v := (-1)) hx hb dX7_minds_100 (by decide) ?_
                  refine lv_ixor hx hb dX7_minds_101 ?_
                  refine lv_iand hx hb dX7_minds_102 ?_
                  exact ro_ret CF hQ hr hlk rfl dX7_minds_103 (by rw [f_X7_minds, if_neg c_1, if_pos c_2, if_neg c_5, if_neg c_6, if_neg c_7])
                · refine lv_iload_n hx hb dX7_minds_92 rfl (lv_at hl 2 rfl) ?_
                  refine lv_goto (tgt := 103) hx hb dX7_minds_93 (by decide) ?_
                  exact ro_ret CF hQ hr hlk rfl dX7_minds_103 (by rw [f_X7_minds, if_neg c_1, if_pos c_2, if_neg c_5, if_neg c_6, if_pos c_7])
              · refine lv_bipush (v := (-9)) hx hb dX7_minds_84 (by decide) ?_
                exact ro_ret CF hQ hr hlk rfl dX7_minds_86 (by rw [f_X7_minds, if_neg c_1, if_pos c_2, if_neg c_5, if_pos c_6])
            · refine lv_iload_n hx hb dX7_minds_78 rfl (lv_at hl 3 rfl) ?_
              exact ro_ret CF hQ hr hlk rfl dX7_minds_79 (by rw [f_X7_minds, if_neg c_1, if_pos c_2, if_pos c_5])
          · have o_3 : ¬ 63 < k23 := fun h => c_3 ((clt (nf_c 63) (rfl : nI k23 = nI k23) (by omega) (by omega)).mpr h)
            refine lv_aload_n hx hb dX7_minds_30 rfl (lv_at hl 4 rfl) ?_
            refine r_get (C := RX7) (T := TX7) (N := 9) (v := .ref t0) CF hE hP 0 rfl rfl inG7 1 (by decide) tw_1_134 rfl rfl dX7_minds_31 ?_
            refine lv_iload hx hb dX7_minds_34 (lv_at hl 0 rfl) ?_
            refine ro_V (y := yX5_closure) (As := [.int (nI k23)]) (rest := []) (q0 := 1) CF (c_X5_closure l D cI cZ t0 t1 t3 t5 t4 t6 nP nR nd gv (nI k23) (by omega)) lk_X7_184 hP hE [1, 2, 3, 4, 5] rfl rfl rfl rfl hl.1 rfl (Nat.le_of_ble_eq_true rfl) ⟨Nat.le_of_ble_eq_true rfl, Nat.le_of_ble_eq_true rfl, rfl, rfl⟩ ⟨Nat.zero_le _, Nat.zero_le _⟩ dX7_minds_36 ?_
            refine lv_istore (lv' := [(6, .int ((B_X5_closure_4 nR nd gv (nI k23) nR))), (5, .int (nI k23)), (4, .int x23_2), (3, .int x23_1), (2, .int x23_0), (0, .ref q0), (1, .int a1)]) hx hb dX7_minds_39 hl (by decide) rfl (fun ls hl => ?_)
            refine lv_aload_n hx hb dX7_minds_41 rfl (lv_at hl 5 rfl) ?_
            refine r_get (C := RX7) (T := TX7) (N := 9) (v := .ref e0) CF hE hP 0 rfl rfl inG7 6 (by decide) tw_1_139 rfl rfl dX7_minds_42 ?_
            refine lv_iload hx hb dX7_minds_45 (lv_at hl 0 rfl) ?_
            refine ro_V (y := yX3_allows) (As := [.int ((B_X5_closure_4 nR nd gv (nI k23) nR))]) (rest := []) (q0 := 6) CF (c_X3_allows l D cI cZ e0 sc su sp ((B_X5_closure_4 nR nd gv (nI k23) nR))) lk_X7_214 hP hE [6] rfl rfl rfl rfl hl.1 rfl (Nat.le_of_ble_eq_true rfl) ⟨Nat.le_of_ble_eq_true rfl, Nat.le_of_ble_eq_true rfl, rfl, rfl⟩ ⟨Nat.zero_le _, Nat.zero_le _⟩ dX7_minds_47 ?_
            refine lv_if_eq (tgt := 68) hx hb dX7_minds_50 (by decide) (fun c_4 => ?_) (fun c_4 => ?_)
            · refine lv_iinc (v := (nI (k23 + 1))) (lv' := [(5, .int (nI (k23 + 1))), (6, .int ((B_X5_closure_4 nR nd gv (nI k23) nR))), (4, .int x23_2), (3, .int x23_1), (2, .int x23_0), (0, .ref q0), (1, .int a1)]) hx hb dX7_minds_68 hl (k := 1) rfl (nf_inc 1 (rfl : nI k23 = nI k23)) (by decide) rfl (fun ls hl => ?_)
              refine lv_goto (tgt := 23) hx hb dX7_minds_71 (by decide) ?_
              have hB2 : B_X7_minds_23 nR nd gv su sp 0 63 0 (k23 + 1) = (x23_0, x23_1, x23_2) := by
                rw [B_X7_minds_23, hB_23]
                show S_X7_minds_23 nR nd gv su sp k23 x23_0 x23_1 x23_2 = _
                rw [S_X7_minds_23, if_pos c_4]
              exact ih_23 (k23 + 1) x23_0 x23_1 x23_2 _ (by omega) (by omega) hB2 (lv_sub hl [0, 2, 3, 4, 5, 6] rfl)
            · refine lv_iinc (v := (x23_0 + 1)) (lv' := [(2, .int (x23_0 + 1)), (6, .int ((B_X5_closure_4 nR nd gv (nI k23) nR))), (5, .int (nI k23)), (4, .int x23_2), (3, .int x23_1), (0, .ref q0), (1, .int a1)]) hx hb dX7_minds_53 hl (k := 4) rfl rfl (by decide) rfl (fun ls hl => ?_)
              refine lv_iload_n hx hb dX7_minds_56 rfl (lv_at hl 4 rfl) ?_
              refine lv_iload hx hb dX7_minds_57 (lv_at hl 1 rfl) ?_
              refine lv_iand hx hb dX7_minds_59 ?_
              refine lv_istore_n (lv' := [(3, .int (x23_1 &&& ((B_X5_closure_4 nR nd gv (nI k23) nR)))), (2, .int (x23_0 + 1)), (6, .int ((B_X5_closure_4 nR nd gv (nI k23) nR))), (5, .int (nI k23)), (4, .int x23_2), (0, .ref q0), (1, .int a1)]) hx hb dX7_minds_60 rfl hl (by decide) rfl (fun ls hl => ?_)
              refine lv_iload hx hb dX7_minds_61 (lv_at hl 4 rfl) ?_
              refine lv_iload hx hb dX7_minds_63 (lv_at hl 2 rfl) ?_
              refine lv_ior hx hb dX7_minds_65 ?_
              refine lv_istore (lv' := [(4, .int (x23_2 ||| ((B_X5_closure_4 nR nd gv (nI k23) nR)))), (3, .int (x23_1 &&& ((B_X5_closure_4 nR nd gv (nI k23) nR)))), (2, .int (x23_0 + 1)), (6, .int ((B_X5_closure_4 nR nd gv (nI k23) nR))), (5, .int (nI k23)), (0, .ref q0), (1, .int a1)]) hx hb dX7_minds_66 hl (by decide) rfl (fun ls hl => ?_)
              refine lv_iinc (v := (nI (k23 + 1))) (lv' := [(5, .int (nI (k23 + 1))), (4, .int (x23_2 ||| ((B_X5_closure_4 nR nd gv (nI k23) nR)))), (3, .int (x23_1 &&& ((B_X5_closure_4 nR nd gv (nI k23) nR)))), (2, .int (x23_0 + 1)), (6, .int ((B_X5_closure_4 nR nd gv (nI k23) nR))), (0, .ref q0), (1, .int a1)]) hx hb dX7_minds_68 hl (k := 4) rfl (nf_inc 1 (rfl : nI k23 = nI k23)) (by decide) rfl (fun ls hl => ?_)
              refine lv_goto (tgt := 23) hx hb dX7_minds_71 (by decide) ?_
              have hB2 : B_X7_minds_23 nR nd gv su sp 0 63 0 (k23 + 1) = ((x23_0 + 1), (x23_1 &&& ((B_X5_closure_4 nR nd gv (nI k23) nR))), (x23_2 ||| ((B_X5_closure_4 nR nd gv (nI k23) nR)))) := by
                rw [B_X7_minds_23, hB_23]
                show S_X7_minds_23 nR nd gv su sp k23 x23_0 x23_1 x23_2 = _
                rw [S_X7_minds_23, if_neg c_4]
              exact ih_23 (k23 + 1) (x23_0 + 1) (x23_1 &&& ((B_X5_closure_4 nR nd gv (nI k23) nR))) (x23_2 ||| ((B_X5_closure_4 nR nd gv (nI k23) nR))) _ (by omega) (by omega) hB2 (lv_sub hl [0, 1, 2, 3, 5, 6] rfl)
      have e_k : 0 = nI (0) := (nf_c 0).trans (congrArg nI (by omega))
      rw [e_k] at hl
      exact LOOP_23 (64 - 0 + 1) 0 0 63 0 _ (Nat.zero_le _) (by omega) rfl (lv_sub hl [0, 1, 2, 3, 4, 5] rfl)
    · refine lv_bipush (v := (-2)) hx hb dX7_minds_9 (by decide) ?_
      exact ro_ret CF hQ hr hlk rfl dX7_minds_11 (by rw [f_X7_minds, if_neg c_1, if_neg c_2])
theorem lk_X7_217 : mLkS RX7 217 yX7_isBestWait cX7_isBestWait 3 (some .boolean) 2 := ⟨⟨tw_3_75, tw_1_1, tw_3_77, ⟨by decide +kernel, by decide +kernel, by decide +kernel⟩⟩, tw_3_76⟩
def S_X7_rests_29 (k20 : Nat) (k29 : Nat) (x29_0 : Int32) (x29_1 : Int32) : (Int32) × (Int32) :=
  (if ((L_X7_isBestWait_2 (nI k20) (nI k29) (4 + 1) 0)) = 0 then (x29_0, x29_1) else (if ((L_X7_isBestWait_2 (nI k29) (nI k20) (4 + 1) 0)) = 0 then (x29_0, x29_1) else (if x29_0 = 0 then ((x29_0 + 1), ((10 * (nI k20)) + (nI k29))) else ((x29_0 + 1), x29_1))))
def B_X7_rests_29 (k20 : Nat) (i0 : Int32) (i1 : Int32) : Nat → (Int32) × (Int32)
  | 0 => (i0, i1)
  | k + 1 => S_X7_rests_29 k20 k (B_X7_rests_29 k20 i0 i1 k).1 (B_X7_rests_29 k20 i0 i1 k).2
def S_X7_rests_20 (k20 : Nat) (x20_0 : Int32) (x20_1 : Int32) : (Int32) × (Int32) :=
  (((B_X7_rests_29 k20 x20_0 x20_1 4).1), ((B_X7_rests_29 k20 x20_0 x20_1 4).2))
def B_X7_rests_20 (i0 : Int32) (i1 : Int32) : Nat → (Int32) × (Int32)
  | 0 => (i0, i1)
  | k + 1 => S_X7_rests_20 k (B_X7_rests_20 i0 i1 k).1 (B_X7_rests_20 i0 i1 k).2
def f_X7_rests (a1 : Int32) : Int32 :=
  (if a1 < 0 then (-2) else (if a1 ≤ 1 then (if a1 = 0 then ((B_X7_rests_20 0 (-9) 4).1) else ((B_X7_rests_20 0 (-9) 4).2)) else (-2)))
set_option maxRecDepth 100000 in
set_option maxHeartbeats 4000000 in
theorem c_X7_rests (l : Launch) (D : va_G) (cI cZ : ClassId) (q0 x0 t0 n0 d0 b0 s0 e0 : Nat) (fs : Int32) (ch : Int64) (a1 : Int32) : RO l D cI cZ yX7_rests cX7_rests 6 (some .int) (mR 3 64) [.ref q0, .int a1] [(q0, .inr (7, [.ref x0, .ref t0, .ref n0, .ref d0, .ref b0, .ref s0, .ref e0, .int fs, .long ch]))] (some (.int (f_X7_rests a1))) := by
  refine RO.of (by decide +kernel) (Nat.le_of_ble_eq_true rfl) ?_
  intro p e s m args below meth c ls Q CF hr hlk hP hE hQ hl
  have hx := CF.1
  have hb := CF.2.1
  have hl : lv_has ls 6 [(0, .ref q0), (1, .int a1)] := hl
  refine lv_iload_n hx hb dX7_rests_0 rfl (lv_at hl 1 rfl) ?_
  refine lv_if_lt (tgt := 9) hx hb dX7_rests_1 (by decide) (fun c_1 => ?_) (fun c_1 => ?_)
  · refine lv_bipush (v := (-2)) hx hb dX7_rests_9 (by decide) ?_
    exact ro_ret CF hQ hr hlk rfl dX7_rests_11 (by rw [f_X7_rests, if_pos c_1])
  · refine lv_iload_n hx hb dX7_rests_4 rfl (lv_at hl 1 rfl) ?_
    refine lv_iconst (v := 1) hx hb dX7_rests_5 (by decide) ?_
    refine lv_icmp_le (tgt := 12) hx hb dX7_rests_6 (by decide) (fun c_2 => ?_) (fun c_2 => ?_)
    · refine lv_iconst (v := 0) hx hb dX7_rests_12 (by decide) ?_
      refine lv_istore_n (lv' := [(2, .int 0), (0, .ref q0), (1, .int a1)]) hx hb dX7_rests_13 rfl hl (by decide) rfl (fun ls hl => ?_)
      refine lv_bipush (v := (-9)) hx hb dX7_rests_14 (by decide) ?_
      refine lv_istore_n (lv' := [(3, .int (-9)), (2, .int 0), (0, .ref q0), (1, .int a1)]) hx hb dX7_rests_16 rfl hl (by decide) rfl (fun ls hl => ?_)
      refine lv_iconst (v := 0) hx hb dX7_rests_17 (by decide) ?_
      refine lv_istore (lv' := [(4, .int 0), (3, .int (-9)), (2, .int 0), (0, .ref q0), (1, .int a1)]) hx hb dX7_rests_18 hl (by decide) rfl (fun ls hl => ?_)
      have LOOP_20 : ∀ (n_20 k20 : Nat) (x20_0 : Int32) (x20_1 : Int32) (ls : Array Slot), k20 ≤ 4 → 4 - k20 < n_20 → (B_X7_rests_20 0 (-9) k20) = (x20_0, x20_1) → lv_has ls 6 [(4, .int (nI k20)), (3, .int x20_1), (2, .int x20_0), (0, .ref q0), (1, .int a1)] → W p l e (mR 3 64) s m args below meth c s.heap [] 0 0 Q (F0 m 20 ls []) := by
        intro n_20
        induction n_20 with
        | zero => intro k20 x20_0 x20_1 ls hk_20 hn_20 hB_20 hl; exact absurd hn_20 (Nat.not_lt_zero _)
        | succ n_20 ih_20 =>
          intro k20 x20_0 x20_1 ls hk_20 hn_20 hB_20 hl
          refine lv_iload hx hb dX7_rests_20 (lv_at hl 0 rfl) ?_
          refine lv_iconst (v := 3) hx hb dX7_rests_22 (by decide) ?_
          refine lv_icmp_gt (tgt := 87) hx hb dX7_rests_23 (by decide) (fun c_3 => ?_) (fun c_3 => ?_)
          · have o_3 : 3 < k20 := (clt (nf_c 3) (rfl : nI k20 = nI k20) (by omega) (by omega)).mp c_3
            have hkN : 4 = k20 := by omega
            subst hkN
            obtain ⟨rfl, rfl⟩ : x20_0 = (B_X7_rests_20 0 (-9) 4).1 ∧ x20_1 = (B_X7_rests_20 0 (-9) 4).2 := by rw [hB_20]; exact ⟨rfl, rfl⟩
            refine lv_iload_n hx hb dX7_rests_87 rfl (lv_at hl 4 rfl) ?_
            refine lv_if_ne (tgt := 95) hx hb dX7_rests_88 (by decide) (fun c_8 => ?_) (fun c_8 => ?_)
            · refine lv_iload_n hx hb dX7_rests_95 rfl (lv_at hl 1 rfl) ?_
              exact ro_ret CF hQ hr hlk rfl dX7_rests_96 (by rw [f_X7_rests, if_neg c_1, if_pos c_2, if_neg c_8])
            · refine lv_iload_n hx hb dX7_rests_91 rfl (lv_at hl 2 rfl) ?_
              refine lv_goto (tgt := 96) hx hb dX7_rests_92 (by decide) ?_
              exact ro_ret CF hQ hr hlk rfl dX7_rests_96 (by rw [f_X7_rests, if_neg c_1, if_pos c_2, if_pos c_8])
          · have o_3 : ¬ 3 < k20 := fun h => c_3 ((clt (nf_c 3) (rfl : nI k20 = nI k20) (by omega) (by omega)).mpr h)
            refine lv_iconst (v := 0) hx hb dX7_rests_26 (by decide) ?_
            refine lv_istore (lv' := [(5, .int 0), (4, .int (nI k20)), (3, .int x20_1), (2, .int x20_0), (0, .ref q0), (1, .int a1)]) hx hb dX7_rests_27 hl (by decide) rfl (fun ls hl => ?_)
            have LOOP_29 : ∀ (n_29 k29 : Nat) (x29_0 : Int32) (x29_1 : Int32) (ls : Array Slot), k29 ≤ 4 → 4 - k29 < n_29 → (B_X7_rests_29 k20 x20_0 x20_1 k29) = (x29_0, x29_1) → lv_has ls 6 [(5, .int (nI k29)), (4, .int (nI k20)), (3, .int x29_1), (2, .int x29_0), (0, .ref q0), (1, .int a1)] → W p l e (mR 3 64) s m args below meth c s.heap [] 0 0 Q (F0 m 29 ls []) := by
              intro n_29
              induction n_29 with
              | zero => intro k29 x29_0 x29_1 ls hk_29 hn_29 hB_29 hl; exact absurd hn_29 (Nat.not_lt_zero _)
              | succ n_29 ih_29 =>
                intro k29 x29_0 x29_1 ls hk_29 hn_29 hB_29 hl
                refine lv_iload hx hb dX7_rests_29 (lv_at hl 0 rfl) ?_
                refine lv_iconst (v := 3) hx hb dX7_rests_31 (by decide) ?_
                refine lv_icmp_gt (tgt := 81) hx hb dX7_rests_32 (by decide) (fun c_4 => ?_) (fun c_4 => ?_)
                · have o_4 : 3 < k29 := (clt (nf_c 3) (rfl : nI k29 = nI k29) (by omega) (by omega)).mp c_4
                  have hkN : 4 = k29 := by omega
                  subst hkN
                  obtain ⟨rfl, rfl⟩ : x29_0 = (B_X7_rests_29 k20 x20_0 x20_1 4).1 ∧ x29_1 = (B_X7_rests_29 k20 x20_0 x20_1 4).2 := by rw [hB_29]; exact ⟨rfl, rfl⟩
                  refine lv_iinc (v := (nI (k20 + 1))) (lv' := [(4, .int (nI (k20 + 1))), (5, .int (nI 4)), (3, .int ((B_X7_rests_29 k20 x20_0 x20_1 4).2)), (2, .int ((B_X7_rests_29 k20 x20_0 x20_1 4).1)), (0, .ref q0), (1, .int a1)]) hx hb dX7_rests_81 hl (k := 1) rfl (nf_inc 1 (rfl : nI k20 = nI k20)) (by decide) rfl (fun ls hl => ?_)
                  refine lv_goto (tgt := 20) hx hb dX7_rests_84 (by decide) ?_
                  have hB2 : B_X7_rests_20 0 (-9) (k20 + 1) = (((B_X7_rests_29 k20 x20_0 x20_1 4).1), ((B_X7_rests_29 k20 x20_0 x20_1 4).2)) := by
                    rw [B_X7_rests_20, hB_20]
                    show S_X7_rests_20 k20 x20_0 x20_1 = _
                    rw [S_X7_rests_20]
                  exact ih_20 (k20 + 1) ((B_X7_rests_29 k20 x20_0 x20_1 4).1) ((B_X7_rests_29 k20 x20_0 x20_1 4).2) _ (by omega) (by omega) hB2 (lv_sub hl [0, 2, 3, 4, 5] rfl)
                · have o_4 : ¬ 3 < k29 := fun h => c_4 ((clt (nf_c 3) (rfl : nI k29 = nI k29) (by omega) (by omega)).mpr h)
                  refine lv_iload hx hb dX7_rests_35 (lv_at hl 1 rfl) ?_
                  refine lv_iload hx hb dX7_rests_37 (lv_at hl 0 rfl) ?_
                  refine ro_S (y := yX7_isBestWait) (As := [.int (nI k20), .int (nI k29)]) (rest := []) CF (c_X7_isBestWait l D cI cZ (nI k20) (nI k29)) lk_X7_217 hE rfl hl.1 rfl (Nat.le_of_ble_eq_true rfl) ⟨Nat.le_of_ble_eq_true rfl, Nat.le_of_ble_eq_true rfl, rfl, rfl⟩ ⟨Nat.zero_le _, Nat.zero_le _⟩ dX7_rests_39 ?_
                  refine lv_if_eq (tgt := 75) hx hb dX7_rests_42 (by decide) (fun c_5 => ?_) (fun c_5 => ?_)
                  · refine lv_iinc (v := (nI (k29 + 1))) (lv' := [(5, .int (nI (k29 + 1))), (4, .int (nI k20)), (3, .int x29_1), (2, .int x29_0), (0, .ref q0), (1, .int a1)]) hx hb dX7_rests_75 hl (k := 0) rfl (nf_inc 1 (rfl : nI k29 = nI k29)) (by decide) rfl (fun ls hl => ?_)
                    refine lv_goto (tgt := 29) hx hb dX7_rests_78 (by decide) ?_
                    have hB2 : B_X7_rests_29 k20 x20_0 x20_1 (k29 + 1) = (x29_0, x29_1) := by
                      rw [B_X7_rests_29, hB_29]
                      show S_X7_rests_29 k20 k29 x29_0 x29_1 = _
                      rw [S_X7_rests_29, if_pos c_5]
                    exact ih_29 (k29 + 1) x29_0 x29_1 _ (by omega) (by omega) hB2 (lv_sub hl [0, 1, 2, 3, 4, 5] rfl)
                  · refine lv_iload hx hb dX7_rests_45 (lv_at hl 0 rfl) ?_
                    refine lv_iload hx hb dX7_rests_47 (lv_at hl 1 rfl) ?_
                    refine ro_S (y := yX7_isBestWait) (As := [.int (nI k29), .int (nI k20)]) (rest := []) CF (c_X7_isBestWait l D cI cZ (nI k29) (nI k20)) lk_X7_217 hE rfl hl.1 rfl (Nat.le_of_ble_eq_true rfl) ⟨Nat.le_of_ble_eq_true rfl, Nat.le_of_ble_eq_true rfl, rfl, rfl⟩ ⟨Nat.zero_le _, Nat.zero_le _⟩ dX7_rests_49 ?_
                    refine lv_if_eq (tgt := 75) hx hb dX7_rests_52 (by decide) (fun c_6 => ?_) (fun c_6 => ?_)
                    · refine lv_iinc (v := (nI (k29 + 1))) (lv' := [(5, .int (nI (k29 + 1))), (4, .int (nI k20)), (3, .int x29_1), (2, .int x29_0), (0, .ref q0), (1, .int a1)]) hx hb dX7_rests_75 hl (k := 0) rfl (nf_inc 1 (rfl : nI k29 = nI k29)) (by decide) rfl (fun ls hl => ?_)
                      refine lv_goto (tgt := 29) hx hb dX7_rests_78 (by decide) ?_
                      have hB2 : B_X7_rests_29 k20 x20_0 x20_1 (k29 + 1) = (x29_0, x29_1) := by
                        rw [B_X7_rests_29, hB_29]
                        show S_X7_rests_29 k20 k29 x29_0 x29_1 = _
                        rw [S_X7_rests_29, if_neg c_5, if_pos c_6]
                      exact ih_29 (k29 + 1) x29_0 x29_1 _ (by omega) (by omega) hB2 (lv_sub hl [0, 1, 2, 3, 4, 5] rfl)
                    · refine lv_iload_n hx hb dX7_rests_55 rfl (lv_at hl 3 rfl) ?_
                      refine lv_if_ne (tgt := 70) hx hb dX7_rests_56 (by decide) (fun c_7 => ?_) (fun c_7 => ?_)
                      · refine lv_iload_n hx hb dX7_rests_70 rfl (lv_at hl 2 rfl) ?_
                        refine lv_istore_n (lv' := [(3, .int x29_1), (5, .int (nI k29)), (4, .int (nI k20)), (2, .int x29_0), (0, .ref q0), (1, .int a1)]) hx hb dX7_rests_71 rfl hl (by decide) rfl (fun ls hl => ?_)
                        refine lv_iinc (v := (x29_0 + 1)) (lv' := [(2, .int (x29_0 + 1)), (3, .int x29_1), (5, .int (nI k29)), (4, .int (nI k20)), (0, .ref q0), (1, .int a1)]) hx hb dX7_rests_72 hl (k := 3) rfl rfl (by decide) rfl (fun ls hl => ?_)
                        refine lv_iinc (v := (nI (k29 + 1))) (lv' := [(5, .int (nI (k29 + 1))), (2, .int (x29_0 + 1)), (3, .int x29_1), (4, .int (nI k20)), (0, .ref q0), (1, .int a1)]) hx hb dX7_rests_75 hl (k := 2) rfl (nf_inc 1 (rfl : nI k29 = nI k29)) (by decide) rfl (fun ls hl => ?_)
                        refine lv_goto (tgt := 29) hx hb dX7_rests_78 (by decide) ?_
                        have hB2 : B_X7_rests_29 k20 x20_0 x20_1 (k29 + 1) = ((x29_0 + 1), x29_1) := by
                          rw [B_X7_rests_29, hB_29]
                          show S_X7_rests_29 k20 k29 x29_0 x29_1 = _
                          rw [S_X7_rests_29, if_neg c_5, if_neg c_6, if_neg c_7]
                        exact ih_29 (k29 + 1) (x29_0 + 1) x29_1 _ (by omega) (by omega) hB2 (lv_sub hl [0, 3, 2, 1, 4, 5] rfl)
                      · refine lv_bipush (v := 10) hx hb dX7_rests_59 (by decide) ?_
                        refine lv_iload hx hb dX7_rests_61 (lv_at hl 1 rfl) ?_
                        refine lv_imul hx hb dX7_rests_63 ?_
                        refine lv_iload hx hb dX7_rests_64 (lv_at hl 0 rfl) ?_
                        refine lv_iadd hx hb dX7_rests_66 ?_
                        refine lv_goto (tgt := 71) hx hb dX7_rests_67 (by decide) ?_
                        refine lv_istore_n (lv' := [(3, .int ((10 * (nI k20)) + (nI k29))), (5, .int (nI k29)), (4, .int (nI k20)), (2, .int x29_0), (0, .ref q0), (1, .int a1)]) hx hb dX7_rests_71 rfl hl (by decide) rfl (fun ls hl => ?_)
                        refine lv_iinc (v := (x29_0 + 1)) (lv' := [(2, .int (x29_0 + 1)), (3, .int ((10 * (nI k20)) + (nI k29))), (5, .int (nI k29)), (4, .int (nI k20)), (0, .ref q0), (1, .int a1)]) hx hb dX7_rests_72 hl (k := 3) rfl rfl (by decide) rfl (fun ls hl => ?_)
                        refine lv_iinc (v := (nI (k29 + 1))) (lv' := [(5, .int (nI (k29 + 1))), (2, .int (x29_0 + 1)), (3, .int ((10 * (nI k20)) + (nI k29))), (4, .int (nI k20)), (0, .ref q0), (1, .int a1)]) hx hb dX7_rests_75 hl (k := 2) rfl (nf_inc 1 (rfl : nI k29 = nI k29)) (by decide) rfl (fun ls hl => ?_)
                        refine lv_goto (tgt := 29) hx hb dX7_rests_78 (by decide) ?_
                        have hB2 : B_X7_rests_29 k20 x20_0 x20_1 (k29 + 1) = ((x29_0 + 1), ((10 * (nI k20)) + (nI k29))) := by
                          rw [B_X7_rests_29, hB_29]
                          show S_X7_rests_29 k20 k29 x29_0 x29_1 = _
                          rw [S_X7_rests_29, if_neg c_5, if_neg c_6, if_pos c_7]
                        exact ih_29 (k29 + 1) (x29_0 + 1) ((10 * (nI k20)) + (nI k29)) _ (by omega) (by omega) hB2 (lv_sub hl [0, 3, 2, 1, 4, 5] rfl)
            have e_k : 0 = nI (0) := (nf_c 0).trans (congrArg nI (by omega))
            rw [e_k] at hl
            exact LOOP_29 (4 - 0 + 1) 0 x20_0 x20_1 _ (Nat.zero_le _) (by omega) rfl (lv_sub hl [0, 1, 2, 3, 4, 5] rfl)
      have e_k : 0 = nI (0) := (nf_c 0).trans (congrArg nI (by omega))
      rw [e_k] at hl
      exact LOOP_20 (4 - 0 + 1) 0 0 (-9) _ (Nat.zero_le _) (by omega) rfl (lv_sub hl [0, 1, 2, 3, 4] rfl)
    · refine lv_bipush (v := (-2)) hx hb dX7_rests_9 (by decide) ?_
      exact ro_ret CF hQ hr hlk rfl dX7_rests_11 (by rw [f_X7_rests, if_neg c_1, if_neg c_2])
