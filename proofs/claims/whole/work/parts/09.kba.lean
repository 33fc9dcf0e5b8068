theorem lk_X7_93 : mLkV RX7 93 yX5_people cX5_people 1 (some .int) 0 := ⟨⟨tw_2_29, tw_1_2, tw_2_32, ⟨by decide +kernel, by decide +kernel, by decide +kernel⟩⟩, tw_2_30, tw_2_31⟩
def f_X7_isPerson (nP : Nat) (a1 : Int32) : Int32 :=
  (if a1 < 0 then 0 else (if (nI nP) ≤ a1 then 0 else 1))
theorem z_f_X7_isPerson (nP : Nat) (a1 : Int32) : narrow .boolean (.int (f_X7_isPerson nP a1)) = .int (f_X7_isPerson nP a1) := by
  unfold f_X7_isPerson
  repeat' split
  all_goals first | rfl
set_option maxRecDepth 100000 in
set_option maxHeartbeats 4000000 in
theorem c_X7_isPerson (l : Launch) (D : va_G) (cI cZ : ClassId) (q0 x0 t0 n0 d0 b0 s0 e0 t1 t3 t5 : Nat) (fs : Int32) (ch : Int64) (nP : Nat) (nR : Nat) (a1 : Int32) : RO l D cI cZ yX7_isPerson cX7_isPerson 2 (some .boolean) (mR 1 20) [.ref q0, .int a1] [(q0, .inr (7, [.ref x0, .ref t0, .ref n0, .ref d0, .ref b0, .ref s0, .ref e0, .int fs, .long ch])), (t0, .inr (5, [.ref t1, .ref t3, .ref t5, .int (nI nP), .int (nI nR)]))] (some (.int (f_X7_isPerson nP a1))) := by
  refine RO.of (by decide +kernel) (Nat.le_of_ble_eq_true rfl) ?_
  intro p e s m args below meth c ls Q CF hr hlk hP hE hQ hl
  have hx := CF.1
  have hb := CF.2.1
  have hl : lv_has ls 2 [(0, .ref q0), (1, .int a1)] := hl
  refine lv_iload_n hx hb dX7_isPerson_0 rfl (lv_at hl 1 rfl) ?_
  refine lv_if_lt (tgt := 19) hx hb dX7_isPerson_1 (by decide) (fun c_1 => ?_) (fun c_1 => ?_)
  · refine lv_iconst (v := 0) hx hb dX7_isPerson_19 (by decide) ?_
    exact ro_ret CF hQ hr hlk rfl dX7_isPerson_20 (by rw [f_X7_isPerson, if_pos c_1])
  · refine lv_iload_n hx hb dX7_isPerson_4 rfl (lv_at hl 1 rfl) ?_
    refine lv_aload_n hx hb dX7_isPerson_5 rfl (lv_at hl 0 rfl) ?_
    refine r_get (C := RX7) (T := TX7) (N := 9) (v := .ref t0) CF hE hP 0 rfl rfl inG7 1 (by decide) tw_1_134 rfl rfl dX7_isPerson_6 ?_
    refine ro_V (y := yX5_people) (As := []) (rest := [.int a1]) (q0 := 1) CF (c_X5_people l D cI cZ t0 t1 t3 t5 nP nR) lk_X7_93 hP hE [1] rfl rfl rfl rfl hl.1 rfl (Nat.le_of_ble_eq_true rfl) ⟨Nat.le_of_ble_eq_true rfl, Nat.le_of_ble_eq_true rfl, rfl, rfl⟩ ⟨Nat.zero_le _, Nat.zero_le _⟩ dX7_isPerson_9 ?_
    refine lv_icmp_ge (tgt := 19) hx hb dX7_isPerson_12 (by decide) (fun c_2 => ?_) (fun c_2 => ?_)
    · refine lv_iconst (v := 0) hx hb dX7_isPerson_19 (by decide) ?_
      exact ro_ret CF hQ hr hlk rfl dX7_isPerson_20 (by rw [f_X7_isPerson, if_neg c_1, if_pos c_2])
    · refine lv_iconst (v := 1) hx hb dX7_isPerson_15 (by decide) ?_
      refine lv_goto (tgt := 20) hx hb dX7_isPerson_16 (by decide) ?_
      exact ro_ret CF hQ hr hlk rfl dX7_isPerson_20 (by rw [f_X7_isPerson, if_neg c_1, if_neg c_2])
theorem lk_X7_109 : mLkV RX7 109 yX7_isPerson cX7_isPerson 2 (some .boolean) 1 := ⟨⟨tw_2_80, tw_1_1, tw_2_83, ⟨by decide +kernel, by decide +kernel, by decide +kernel⟩⟩, tw_2_82, tp_1_4⟩
theorem lk_X7_143 : mLkS RX7 143 yX7_isFact cX7_isFact 1 (some .boolean) 1 := ⟨⟨tw_2_118, tw_1_1, tw_2_120, ⟨by decide +kernel, by decide +kernel, by decide +kernel⟩⟩, tw_2_119⟩
theorem lk_X7_241 : mLkS RX7 241 yX7_isVoice cX7_isVoice 1 (some .boolean) 1 := ⟨⟨tw_2_121, tw_1_1, tw_2_123, ⟨by decide +kernel, by decide +kernel, by decide +kernel⟩⟩, tw_2_122⟩
def f_X7_refusalToSay (nP : Nat) (a1 : Int32) (a2 : Int32) (a3 : Int32) : Int32 :=
  (if (f_X7_isPerson nP a1) = 0 then (-1) else (if (f_X7_isFact a2) = 0 then (-1) else (if (f_X7_isVoice a3) = 0 then (-2) else 0)))
set_option maxRecDepth 100000 in
set_option maxHeartbeats 4000000 in
theorem c_X7_refusalToSay (l : Launch) (D : va_G) (cI cZ : ClassId) (q0 x0 t0 n0 d0 b0 s0 e0 t1 t3 t5 : Nat) (fs : Int32) (ch : Int64) (nP : Nat) (nR : Nat) (a1 : Int32) (a2 : Int32) (a3 : Int32) : RO l D cI cZ yX7_refusalToSay cX7_refusalToSay 4 (some .int) (mR 2 41) [.ref q0, .int a1, .int a2, .int a3] [(q0, .inr (7, [.ref x0, .ref t0, .ref n0, .ref d0, .ref b0, .ref s0, .ref e0, .int fs, .long ch])), (t0, .inr (5, [.ref t1, .ref t3, .ref t5, .int (nI nP), .int (nI nR)]))] (some (.int (f_X7_refusalToSay nP a1 a2 a3))) := by
  refine RO.of (by decide +kernel) (Nat.le_of_ble_eq_true rfl) ?_
  intro p e s m args below meth c ls Q CF hr hlk hP hE hQ hl
  have hx := CF.1
  have hb := CF.2.1
  have hl : lv_has ls 4 [(0, .ref q0), (1, .int a1), (2, .int a2), (3, .int a3)] := hl
  refine lv_aload_n hx hb dX7_refusalToSay_0 rfl (lv_at hl 0 rfl) ?_
  refine lv_iload_n hx hb dX7_refusalToSay_1 rfl (lv_at hl 1 rfl) ?_
  refine ro_V (y := yX7_isPerson) (As := [.int a1]) (rest := []) (q0 := 0) CF (c_X7_isPerson l D cI cZ q0 x0 t0 n0 d0 b0 s0 e0 t1 t3 t5 fs ch nP nR a1) lk_X7_109 hP hE [0, 1] rfl rfl rfl rfl hl.1 rfl (Nat.le_of_ble_eq_true rfl) ⟨Nat.le_of_ble_eq_true rfl, Nat.le_of_ble_eq_true rfl, rfl, rfl⟩ ⟨Nat.zero_le _, Nat.zero_le _⟩ dX7_refusalToSay_2 ?_
  refine lv_if_eq (tgt := 15) hx hb dX7_refusalToSay_5 (by decide) (fun c_1 => ?_) (fun c_1 => ?_)
  · refine lv_iconst (v := (-1)) hx hb dX7_refusalToSay_15 (by decide) ?_
    exact ro_ret CF hQ hr hlk rfl dX7_refusalToSay_16 (by rw [f_X7_refusalToSay, if_pos c_1])
  · refine lv_iload_n hx hb dX7_refusalToSay_8 rfl (lv_at hl 2 rfl) ?_
    refine ro_S (y := yX7_isFact) (As := [.int a2]) (rest := []) CF (c_X7_isFact l D cI cZ a2) lk_X7_143 hE rfl hl.1 rfl (Nat.le_of_ble_eq_true rfl) ⟨Nat.le_of_ble_eq_true rfl, Nat.le_of_ble_eq_true rfl, rfl, rfl⟩ ⟨Nat.zero_le _, Nat.zero_le _⟩ dX7_refusalToSay_9 ?_
    refine lv_if_ne (tgt := 17) hx hb dX7_refusalToSay_12 (by decide) (fun c_2 => ?_) (fun c_2 => ?_)
    · refine lv_iload_n hx hb dX7_refusalToSay_17 rfl (lv_at hl 3 rfl) ?_
      refine ro_S (y := yX7_isVoice) (As := [.int a3]) (rest := []) CF (c_X7_isVoice l D cI cZ a3) lk_X7_241 hE rfl hl.1 rfl (Nat.le_of_ble_eq_true rfl) ⟨Nat.le_of_ble_eq_true rfl, Nat.le_of_ble_eq_true rfl, rfl, rfl⟩ ⟨Nat.zero_le _, Nat.zero_le _⟩ dX7_refusalToSay_18 ?_
      refine lv_if_eq (tgt := 28) hx hb dX7_refusalToSay_21 (by decide) (fun c_3 => ?_) (fun c_3 => ?_)
      · refine lv_bipush (v := (-2)) hx hb dX7_refusalToSay_28 (by decide) ?_
        exact ro_ret CF hQ hr hlk rfl dX7_refusalToSay_30 (by rw [f_X7_refusalToSay, if_neg c_1, if_neg c_2, if_pos c_3])
      · refine lv_iconst (v := 0) hx hb dX7_refusalToSay_24 (by decide) ?_
        refine lv_goto (tgt := 30) hx hb dX7_refusalToSay_25 (by decide) ?_
        exact ro_ret CF hQ hr hlk rfl dX7_refusalToSay_30 (by rw [f_X7_refusalToSay, if_neg c_1, if_neg c_2, if_neg c_3])
    · refine lv_iconst (v := (-1)) hx hb dX7_refusalToSay_15 (by decide) ?_
      exact ro_ret CF hQ hr hlk rfl dX7_refusalToSay_16 (by rw [f_X7_refusalToSay, if_neg c_1, if_pos c_2])
theorem lk_X7_58 : mLkV RX7 58 yX6_append cX6_append 2 (some .int) 1 := ⟨⟨tw_1_165, tw_1_5, tw_1_168, ⟨by decide +kernel, by decide +kernel, by decide +kernel⟩⟩, tw_1_166, tw_1_167⟩
def f_X7_write (nT : Nat) (a1 : Int32) : Int32 :=
  (if a1 < 0 then (-2) else (if a1 ≤ 255 then (f_X6_append nT) else (-2)))
def f_X7_write_tx (nT : Nat) (tx : Nat → Int32) (a1 : Int32) : Nat → Int32 :=
  (if a1 < 0 then tx else (if a1 ≤ 255 then (f_X6_append_tx nT tx a1) else tx))
def f_X7_write_nT (nT : Nat) (a1 : Int32) : Nat :=
  (if a1 < 0 then nT else (if a1 ≤ 255 then (f_X6_append_nT nT) else nT))
set_option maxRecDepth 100000 in
set_option maxHeartbeats 4000000 in
theorem c_X7_write (l : Launch) (D : va_G) (cI cZ : ClassId) (q0 x0 t0 n0 d0 b0 s0 e0 x1 x2 : Nat) (fs : Int32) (ch : Int64) (nT : Nat) (tx : Nat → Int32) (a1 : Int32) : MU l D cI cZ yX7_write cX7_write 2 (some .int) (mR 2 43) [.ref q0, .int a1] [(q0, .inr (7, [.ref x0, .ref t0, .ref n0, .ref d0, .ref b0, .ref s0, .ref e0, .int fs, .long ch])), (x0, .inr (6, [.ref x1, .int (nI nT)])), (x1, .inr (2, [.ref x2])), (x2, .inl (cI, 40, .inl tx))] [(q0, .inr (7, [.ref x0, .ref t0, .ref n0, .ref d0, .ref b0, .ref s0, .ref e0, .int fs, .long ch])), (x0, .inr (6, [.ref x1, .int (nI (f_X7_write_nT nT a1))])), (x1, .inr (2, [.ref x2])), (x2, .inl (cI, 40, .inl (f_X7_write_tx nT tx a1)))] (some (.int (f_X7_write nT a1))) := by
  refine MU.of (by decide +kernel) (Nat.le_of_ble_eq_true rfl) ?_
  intro p e s m args below meth c ls Q A CF hr hlk hP hE hD hS hQ hl
  have hx := CF.1
  have hb := CF.2.1
  have hl : lv_has ls 2 [(0, .ref q0), (1, .int a1)] := hl
  refine lv_iload_n hx hb dX7_write_0 rfl (lv_at hl 1 rfl) ?_
  refine lv_if_lt (tgt := 11) hx hb dX7_write_1 (by decide) (fun c_1 => ?_) (fun c_1 => ?_)
  · refine lv_bipush (v := (-2)) hx hb dX7_write_11 (by decide) ?_
    have e_0 : (f_X7_write_tx nT tx a1) = tx := by rw [f_X7_write_tx, if_pos c_1]
    have e_1 : (f_X7_write_nT nT a1) = nT := by rw [f_X7_write_nT, if_pos c_1]
    exact mu_reti CF hQ hr hlk rfl hP hS dX7_write_13 (by rw [f_X7_write, if_pos c_1]) (by rw [e_0, e_1])
  · refine lv_iload_n hx hb dX7_write_4 rfl (lv_at hl 1 rfl) ?_
    refine lv_sipush (v := 255) hx hb dX7_write_5 (by decide) ?_
    refine lv_icmp_le (tgt := 14) hx hb dX7_write_8 (by decide) (fun c_2 => ?_) (fun c_2 => ?_)
    · refine lv_aload_n hx hb dX7_write_14 rfl (lv_at hl 0 rfl) ?_
      refine r_get (C := RX7) (T := TX7) (N := 9) (v := .ref x0) CF hE hP 0 rfl rfl inG7 0 (by decide) tw_1_133 rfl rfl dX7_write_15 ?_
      refine lv_iload_n hx hb dX7_write_18 rfl (lv_at hl 1 rfl) ?_
      refine mu_V (y := yX6_append) (As := [.int a1]) (rest := []) (q0 := 1) (ws' := [(q0, .inr (7, [.ref x0, .ref t0, .ref n0, .ref d0, .ref b0, .ref s0, .ref e0, .int fs, .long ch])), (x0, .inr (6, [.ref x1, .int (nI (f_X6_append_nT nT))])), (x1, .inr (2, [.ref x2])), (x2, .inl (cI, 40, .inl (f_X6_append_tx nT tx a1)))]) (ad := [q0, x0, x1, x2]) CF (c_X6_append l D cI cZ x0 x1 x2 nT tx a1) lk_X7_58 hP hE hD hS [1, 2, 3] rfl (by decide) (Nat.le_of_ble_eq_true rfl) rfl rfl rfl rfl rfl rfl hl.1 rfl (Nat.le_of_ble_eq_true rfl) ⟨Nat.le_of_ble_eq_true rfl, Nat.le_of_ble_eq_true rfl, rfl, rfl⟩ ⟨Nat.zero_le _, Nat.zero_le _⟩ dX7_write_19 (fun H locs hP hD hS => ?_)
      have e_0 : (f_X7_write_tx nT tx a1) = (f_X6_append_tx nT tx a1) := by rw [f_X7_write_tx, if_neg c_1, if_pos c_2]
      have e_1 : (f_X7_write_nT nT a1) = (f_X6_append_nT nT) := by rw [f_X7_write_nT, if_neg c_1, if_pos c_2]
      exact mu_reti CF hQ hr hlk rfl hP hS dX7_write_22 (by rw [f_X7_write, if_neg c_1, if_pos c_2]) (by rw [e_0, e_1])
    · refine lv_bipush (v := (-2)) hx hb dX7_write_11 (by decide) ?_
      have e_0 : (f_X7_write_tx nT tx a1) = tx := by rw [f_X7_write_tx, if_neg c_1, if_neg c_2]
      have e_1 : (f_X7_write_nT nT a1) = nT := by rw [f_X7_write_nT, if_neg c_1, if_neg c_2]
      exact mu_reti CF hQ hr hlk rfl hP hS dX7_write_13 (by rw [f_X7_write, if_neg c_1, if_neg c_2]) (by rw [e_0, e_1])
theorem lk_X7_62 : mLkV RX7 62 yX6_clear cX6_clear 2 (some .int) 0 := ⟨⟨tw_1_177, tw_1_5, tw_1_180, ⟨by decide +kernel, by decide +kernel, by decide +kernel⟩⟩, tw_1_178, tw_1_179⟩
set_option maxRecDepth 100000 in
set_option maxHeartbeats 4000000 in
theorem c_X7_wipe (l : Launch) (D : va_G) (cI cZ : ClassId) (q0 x0 t0 n0 d0 b0 s0 e0 x1 : Nat) (fs : Int32) (ch : Int64) (nT : Nat) : MU l D cI cZ yX7_wipe cX7_wipe 1 (some .int) (mR 1 21) [.ref q0] [(q0, .inr (7, [.ref x0, .ref t0, .ref n0, .ref d0, .ref b0, .ref s0, .ref e0, .int fs, .long ch])), (x0, .inr (6, [.ref x1, .int (nI nT)]))] [(q0, .inr (7, [.ref x0, .ref t0, .ref n0, .ref d0, .ref b0, .ref s0, .ref e0, .int fs, .long ch])), (x0, .inr (6, [.ref x1, .int (nI 0)]))] (some (.int (nI nT))) := by
  refine MU.of (by decide +kernel) (Nat.le_of_ble_eq_true rfl) ?_
  intro p e s m args below meth c ls Q A CF hr hlk hP hE hD hS hQ hl
  have hx := CF.1
  have hb := CF.2.1
  have hl : lv_has ls 1 [(0, .ref q0)] := hl
  refine lv_aload_n hx hb dX7_wipe_0 rfl (lv_at hl 0 rfl) ?_
  refine r_get (C := RX7) (T := TX7) (N := 9) (v := .ref x0) CF hE hP 0 rfl rfl inG7 0 (by decide) tw_1_133 rfl rfl dX7_wipe_1 ?_
  refine mu_V (y := yX6_clear) (As := []) (rest := []) (q0 := 1) (ws' := [(q0, .inr (7, [.ref x0, .ref t0, .ref n0, .ref d0, .ref b0, .ref s0, .ref e0, .int fs, .long ch])), (x0, .inr (6, [.ref x1, .int (nI 0)]))]) (ad := [q0, x0]) CF (c_X6_clear l D cI cZ x0 x1 nT) lk_X7_62 hP hE hD hS [1] rfl (by decide) (Nat.le_of_ble_eq_true rfl) rfl rfl rfl rfl rfl rfl hl.1 rfl (Nat.le_of_ble_eq_true rfl) ⟨Nat.le_of_ble_eq_true rfl, Nat.le_of_ble_eq_true rfl, rfl, rfl⟩ ⟨Nat.zero_le _, Nat.zero_le _⟩ dX7_wipe_4 (fun H locs hP hD hS => ?_)
  exact mu_reti CF hQ hr hlk rfl hP hS dX7_wipe_7 rfl rfl
theorem lk_X7_66 : mLkV RX7 66 yX6_firstFault cX6_firstFault 2 (some .int) 0 := ⟨⟨tw_1_185, tw_1_5, tw_1_188, ⟨by decide +kernel, by decide +kernel, by decide +kernel⟩⟩, tw_1_186, tw_1_187⟩
set_option maxRecDepth 100000 in
set_option maxHeartbeats 4000000 in
theorem c_X7_fault (l : Launch) (D : va_G) (cI cZ : ClassId) (q0 x0 t0 n0 d0 b0 s0 e0 x1 x2 : Nat) (fs : Int32) (ch : Int64) (nT : Nat) (tx : Nat → Int32) (hT : nT ≤ 40) : RO l D cI cZ yX7_fault cX7_fault 1 (some .int) (mR 6 130) [.ref q0] [(q0, .inr (7, [.ref x0, .ref t0, .ref n0, .ref d0, .ref b0, .ref s0, .ref e0, .int fs, .long ch])), (x0, .inr (6, [.ref x1, .int (nI nT)])), (x1, .inr (2, [.ref x2])), (x2, .inl (cI, 40, .inl tx))] (some (.int ((L_X6_firstFault_2 nT tx (nT + 1) 0)))) := by
  refine RO.of (by decide +kernel) (Nat.le_of_ble_eq_true rfl) ?_
  intro p e s m args below meth c ls Q CF hr hlk hP hE hQ hl
  have hx := CF.1
  have hb := CF.2.1
  have hl : lv_has ls 1 [(0, .ref q0)] := hl
  refine lv_aload_n hx hb dX7_fault_0 rfl (lv_at hl 0 rfl) ?_
  refine r_get (C := RX7) (T := TX7) (N := 9) (v := .ref x0) CF hE hP 0 rfl rfl inG7 0 (by decide) tw_1_133 rfl rfl dX7_fault_1 ?_
  refine ro_V (y := yX6_firstFault) (As := []) (rest := []) (q0 := 1) CF (c_X6_firstFault l D cI cZ x0 x1 x2 nT tx (by omega)) lk_X7_66 hP hE [1, 2, 3] rfl rfl rfl rfl hl.1 rfl (Nat.le_of_ble_eq_true rfl) ⟨Nat.le_of_ble_eq_true rfl, Nat.le_of_ble_eq_true rfl, rfl, rfl⟩ ⟨Nat.zero_le _, Nat.zero_le _⟩ dX7_fault_4 ?_
  exact ro_ret CF hQ hr hlk rfl dX7_fault_7 rfl
theorem lk_X7_128 : mLkV RX7 128 yX1_distance cX1_distance 4 (some .int) 2 := ⟨⟨tw_2_99, tw_1_6, tw_2_102, ⟨by decide +kernel, by decide +kernel, by decide +kernel⟩⟩, tw_2_100, tw_2_101⟩
def f_X7_far (nP : Nat) (nw : Nat → Int32) (a1 : Int32) (a2 : Int32) : Int32 :=
  (if (f_X7_isPerson nP a1) = 0 then (-1) else (if (f_X7_isPerson nP a2) = 0 then (-1) else (f_X1_distance nw nP a1 a2)))
set_option maxRecDepth 100000 in
set_option maxHeartbeats 4000000 in
theorem c_X7_far (l : Launch) (D : va_G) (cI cZ : ClassId) (q0 x0 t0 n0 d0 b0 s0 e0 t1 t3 t5 n1 n2 : Nat) (fs : Int32) (ch : Int64) (nP : Nat) (nR : Nat) (nw : Nat → Int32) (a1 : Int32) (a2 : Int32) : RO l D cI cZ yX7_far cX7_far 3 (some .int) (mR 3 65) [.ref q0, .int a1, .int a2] [(q0, .inr (7, [.ref x0, .ref t0, .ref n0, .ref d0, .ref b0, .ref s0, .ref e0, .int fs, .long ch])), (t0, .inr (5, [.ref t1, .ref t3, .ref t5, .int (nI nP), .int (nI nR)])), (n0, .inr (1, [.ref t0, .ref n1])), (n1, .inr (2, [.ref n2])), (n2, .inl (cI, 15, .inl nw))] (some (.int (f_X7_far nP nw a1 a2))) := by
  refine RO.of (by decide +kernel) (Nat.le_of_ble_eq_true rfl) ?_
  intro p e s m args below meth c ls Q CF hr hlk hP hE hQ hl
  have hx := CF.1
  have hb := CF.2.1
  have hl : lv_has ls 3 [(0, .ref q0), (1, .int a1), (2, .int a2)] := hl
  refine lv_aload_n hx hb dX7_far_0 rfl (lv_at hl 0 rfl) ?_
  refine lv_iload_n hx hb dX7_far_1 rfl (lv_at hl 1 rfl) ?_
  refine ro_V (y := yX7_isPerson) (As := [.int a1]) (rest := []) (q0 := 0) CF (c_X7_isPerson l D cI cZ q0 x0 t0 n0 d0 b0 s0 e0 t1 t3 t5 fs ch nP nR a1) lk_X7_109 hP hE [0, 1] rfl rfl rfl rfl hl.1 rfl (Nat.le_of_ble_eq_true rfl) ⟨Nat.le_of_ble_eq_true rfl, Nat.le_of_ble_eq_true rfl, rfl, rfl⟩ ⟨Nat.zero_le _, Nat.zero_le _⟩ dX7_far_2 ?_
  refine lv_if_eq (tgt := 16) hx hb dX7_far_5 (by decide) (fun c_1 => ?_) (fun c_1 => ?_)
  · refine lv_iconst (v := (-1)) hx hb dX7_far_16 (by decide) ?_
    exact ro_ret CF hQ hr hlk rfl dX7_far_17 (by rw [f_X7_far, if_pos c_1])
  · refine lv_aload_n hx hb dX7_far_8 rfl (lv_at hl 0 rfl) ?_
    refine lv_iload_n hx hb dX7_far_9 rfl (lv_at hl 2 rfl) ?_
    refine ro_V (y := yX7_isPerson) (As := [.int a2]) (rest := []) (q0 := 0) CF (c_X7_isPerson l D cI cZ q0 x0 t0 n0 d0 b0 s0 e0 t1 t3 t5 fs ch nP nR a2) lk_X7_109 hP hE [0, 1] rfl rfl rfl rfl hl.1 rfl (Nat.le_of_ble_eq_true rfl) ⟨Nat.le_of_ble_eq_true rfl, Nat.le_of_ble_eq_true rfl, rfl, rfl⟩ ⟨Nat.zero_le _, Nat.zero_le _⟩ dX7_far_10 ?_
    refine lv_if_ne (tgt := 18) hx hb dX7_far_13 (by decide) (fun c_2 => ?_) (fun c_2 => ?_)
    · refine lv_aload_n hx hb dX7_far_18 rfl (lv_at hl 0 rfl) ?_
      refine r_get (C := RX7) (T := TX7) (N := 9) (v := .ref n0) CF hE hP 0 rfl rfl inG7 2 (by decide) tw_1_135 rfl rfl dX7_far_19 ?_
      refine lv_iload_n hx hb dX7_far_22 rfl (lv_at hl 1 rfl) ?_
      refine lv_iload_n hx hb dX7_far_23 rfl (lv_at hl 2 rfl) ?_
      refine ro_V (y := yX1_distance) (As := [.int a1, .int a2]) (rest := []) (q0 := 2) CF (c_X1_distance l D cI cZ n0 t0 n1 n2 t1 t3 t5 nw nP nR a1 a2) lk_X7_128 hP hE [2, 3, 4, 1] rfl rfl rfl rfl hl.1 rfl (Nat.le_of_ble_eq_true rfl) ⟨Nat.le_of_ble_eq_true rfl, Nat.le_of_ble_eq_true rfl, rfl, rfl⟩ ⟨Nat.zero_le _, Nat.zero_le _⟩ dX7_far_24 ?_
      exact ro_ret CF hQ hr hlk rfl dX7_far_27 (by rw [f_X7_far, if_neg c_1, if_neg c_2])
    · refine lv_iconst (v := (-1)) hx hb dX7_far_16 (by decide) ?_
      exact ro_ret CF hQ hr hlk rfl dX7_far_17 (by rw [f_X7_far, if_neg c_1, if_pos c_2])
theorem lk_X7_132 : mLkV RX7 132 yX7_refusalToSay cX7_refusalToSay 4 (some .int) 3 := ⟨⟨tw_2_114, tw_1_1, tw_2_117, ⟨by decide +kernel, by decide +kernel, by decide +kernel⟩⟩, tw_2_116, tp_1_5⟩
theorem lk_X7_161 : mLkV RX7 161 yX1_ears cX1_ears 6 (some .int) 2 := ⟨⟨tw_2_212, tw_1_6, tw_2_146, ⟨by decide +kernel, by decide +kernel, by decide +kernel⟩⟩, tw_2_144, tw_2_145⟩
def f_X7_hearers (nP : Nat) (kd : Nat → Int32) (nw : Nat → Int32) (a1 : Int32) (a2 : Int32) : Int32 :=
  (if (f_X7_refusalToSay nP a1 0 a2) = 0 then ((B_X1_ears_5 nw nP kd a1 a2 0 nP)) else (f_X7_refusalToSay nP a1 0 a2))
set_option maxRecDepth 100000 in
set_option maxHeartbeats 4000000 in
theorem c_X7_hearers (l : Launch) (D : va_G) (cI cZ : ClassId) (q0 x0 t0 n0 d0 b0 s0 e0 t1 t3 t5 t2 n1 n2 : Nat) (fs : Int32) (ch : Int64) (nP : Nat) (nR : Nat) (kd : Nat → Int32) (nw : Nat → Int32) (a1 : Int32) (a2 : Int32) (hP5 : nP ≤ 5) : RO l D cI cZ yX7_hearers cX7_hearers 4 (some .int) (mR 4 90) [.ref q0, .int a1, .int a2] [(q0, .inr (7, [.ref x0, .ref t0, .ref n0, .ref d0, .ref b0, .ref s0, .ref e0, .int fs, .long ch])), (t0, .inr (5, [.ref t1, .ref t3, .ref t5, .int (nI nP), .int (nI nR)])), (t1, .inr (2, [.ref t2])), (t2, .inl (cI, 5, .inl kd)), (n0, .inr (1, [.ref t0, .ref n1])), (n1, .inr (2, [.ref n2])), (n2, .inl (cI, 15, .inl nw))] (some (.int (f_X7_hearers nP kd nw a1 a2))) := by
  refine RO.of (by decide +kernel) (Nat.le_of_ble_eq_true rfl) ?_
  intro p e s m args below meth c ls Q CF hr hlk hP hE hQ hl
  have hx := CF.1
  have hb := CF.2.1
  have hl : lv_has ls 4 [(0, .ref q0), (1, .int a1), (2, .int a2)] := hl
  refine lv_aload_n hx hb dX7_hearers_0 rfl (lv_at hl 0 rfl) ?_
  refine lv_iload_n hx hb dX7_hearers_1 rfl (lv_at hl 1 rfl) ?_
  refine lv_iconst (v := 0) hx hb dX7_hearers_2 (by decide) ?_
  refine lv_iload_n hx hb dX7_hearers_3 rfl (lv_at hl 2 rfl) ?_
  refine ro_V (y := yX7_refusalToSay) (As := [.int a1, .int 0, .int a2]) (rest := []) (q0 := 0) CF (c_X7_refusalToSay l D cI cZ q0 x0 t0 n0 d0 b0 s0 e0 t1 t3 t5 fs ch nP nR a1 0 a2) lk_X7_132 hP hE [0, 1] rfl rfl rfl rfl hl.1 rfl (Nat.le_of_ble_eq_true rfl) ⟨Nat.le_of_ble_eq_true rfl, Nat.le_of_ble_eq_true rfl, rfl, rfl⟩ ⟨Nat.zero_le _, Nat.zero_le _⟩ dX7_hearers_4 ?_
  refine lv_istore_n (lv' := [(3, .int (f_X7_refusalToSay nP a1 0 a2)), (0, .ref q0), (1, .int a1), (2, .int a2)]) hx hb dX7_hearers_7 rfl hl (by decide) rfl (fun ls hl => ?_)
  refine lv_iload_n hx hb dX7_hearers_8 rfl (lv_at hl 0 rfl) ?_
  refine lv_if_eq (tgt := 16) hx hb dX7_hearers_9 (by decide) (fun c_1 => ?_) (fun c_1 => ?_)
  · refine lv_aload_n hx hb dX7_hearers_16 rfl (lv_at hl 1 rfl) ?_
    refine r_get (C := RX7) (T := TX7) (N := 9) (v := .ref n0) CF hE hP 0 rfl rfl inG7 2 (by decide) tw_1_135 rfl rfl dX7_hearers_17 ?_
    refine lv_iload_n hx hb dX7_hearers_20 rfl (lv_at hl 2 rfl) ?_
    refine lv_iload_n hx hb dX7_hearers_21 rfl (lv_at hl 3 rfl) ?_
    refine ro_V (y := yX1_ears) (As := [.int a1, .int a2]) (rest := []) (q0 := 4) CF (c_X1_ears l D cI cZ n0 t0 n1 n2 t1 t3 t5 t2 nw nP nR kd a1 a2 (by omega)) lk_X7_161 hP hE [4, 5, 6, 1, 2, 3] rfl rfl rfl rfl hl.1 rfl (Nat.le_of_ble_eq_true rfl) ⟨Nat.le_of_ble_eq_true rfl, Nat.le_of_ble_eq_true rfl, rfl, rfl⟩ ⟨Nat.zero_le _, Nat.zero_le _⟩ dX7_hearers_22 ?_
    exact ro_ret CF hQ hr hlk rfl dX7_hearers_25 (by rw [f_X7_hearers, if_pos c_1])
  · refine lv_iload_n hx hb dX7_hearers_12 rfl (lv_at hl 0 rfl) ?_
    refine lv_goto (tgt := 25) hx hb dX7_hearers_13 (by decide) ?_
    exact ro_ret CF hQ hr hlk rfl dX7_hearers_25 (by rw [f_X7_hearers, if_neg c_1])
theorem lk_X7_209 : mLkV RX7 209 yX3_add cX3_add 3 (some .int) 2 := ⟨⟨tw_3_51, tw_1_9, tw_3_54, ⟨by decide +kernel, by decide +kernel, by decide +kernel⟩⟩, tw_3_52, tw_3_53⟩
def f_X7_see (sc : Int32) (a1 : Int32) (a2 : Int32) : Int32 :=
  (if (f_X7_isFact a1) = 0 then (-1) else (if a2 < 0 then (-2) else (if a2 ≤ 1 then (if a2 = 1 then (f_X3_add sc 1) else (f_X3_add sc 0)) else (-2))))
def f_X7_see_sc (sc : Int32) (a1 : Int32) (a2 : Int32) : Int32 :=
  (if (f_X7_isFact a1) = 0 then sc else (if a2 < 0 then sc else (if a2 ≤ 1 then (if a2 = 1 then (f_X3_add_sc sc 1) else (f_X3_add_sc sc 0)) else sc)))
def f_X7_see_su (sc : Int32) (su : Int32) (a1 : Int32) (a2 : Int32) : Int32 :=
  (if (f_X7_isFact a1) = 0 then su else (if a2 < 0 then su else (if a2 ≤ 1 then (if a2 = 1 then (f_X3_add_su sc su a1 1) else (f_X3_add_su sc su a1 0)) else su)))
def f_X7_see_sp (sc : Int32) (sp : Int32) (a1 : Int32) (a2 : Int32) : Int32 :=
  (if (f_X7_isFact a1) = 0 then sp else (if a2 < 0 then sp else (if a2 ≤ 1 then (if a2 = 1 then (f_X3_add_sp sc sp a1 1) else (f_X3_add_sp sc sp a1 0)) else sp)))
set_option maxRecDepth 100000 in
set_option maxHeartbeats 4000000 in
theorem c_X7_see (l : Launch) (D : va_G) (cI cZ : ClassId) (q0 x0 t0 n0 d0 b0 s0 e0 : Nat) (fs : Int32) (ch : Int64) (sc : Int32) (su : Int32) (sp : Int32) (a1 : Int32) (a2 : Int32) : MU l D cI cZ yX7_see cX7_see 3 (some .int) (mR 1 22) [.ref q0, .int a1, .int a2] [(q0, .inr (7, [.ref x0, .ref t0, .ref n0, .ref d0, .ref b0, .ref s0, .ref e0, .int fs, .long ch])), (e0, .inr (3, [.int sc, .int su, .int sp]))] [(q0, .inr (7, [.ref x0, .ref t0, .ref n0, .ref d0, .ref b0, .ref s0, .ref e0, .int fs, .long ch])), (e0, .inr (3, [.int (f_X7_see_sc sc a1 a2), .int (f_X7_see_su sc su a1 a2), .int (f_X7_see_sp sc sp a1 a2)]))] (some (.int (f_X7_see sc a1 a2))) := by
  refine MU.of (by decide +kernel) (Nat.le_of_ble_eq_true rfl) ?_
  intro p e s m args below meth c ls Q A CF hr hlk hP hE hD hS hQ hl
  have hx := CF.1
  have hb := CF.2.1
  have hl : lv_has ls 3 [(0, .ref q0), (1, .int a1), (2, .int a2)] := hl
  refine lv_iload_n hx hb dX7_see_0 rfl (lv_at hl 1 rfl) ?_
  refine ro_S (y := yX7_isFact) (As := [.int a1]) (rest := []) CF (c_X7_isFact l D cI cZ a1) lk_X7_143 hE rfl hl.1 rfl (Nat.le_of_ble_eq_true rfl) ⟨Nat.le_of_ble_eq_true rfl, Nat.le_of_ble_eq_true rfl, rfl, rfl⟩ ⟨Nat.zero_le _, Nat.zero_le _⟩ dX7_see_1 ?_
  refine lv_if_ne (tgt := 9) hx hb dX7_see_4 (by decide) (fun c_1 => ?_) (fun c_1 => ?_)
  · refine lv_iload_n hx hb dX7_see_9 rfl (lv_at hl 2 rfl) ?_
    refine lv_if_lt (tgt := 18) hx hb dX7_see_10 (by decide) (fun c_2 => ?_) (fun c_2 => ?_)
    · refine lv_bipush (v := (-2)) hx hb dX7_see_18 (by decide) ?_
      have e_0 : (f_X7_see_sc sc a1 a2) = sc := by rw [f_X7_see_sc, if_neg c_1, if_pos c_2]
      have e_1 : (f_X7_see_su sc su a1 a2) = su := by rw [f_X7_see_su, if_neg c_1, if_pos c_2]
      have e_2 : (f_X7_see_sp sc sp a1 a2) = sp := by rw [f_X7_see_sp, if_neg c_1, if_pos c_2]
      exact mu_reti CF hQ hr hlk rfl hP hS dX7_see_20 (by rw [f_X7_see, if_neg c_1, if_pos c_2]) (by rw [e_0, e_1, e_2])
    · refine lv_iload_n hx hb dX7_see_13 rfl (lv_at hl 2 rfl) ?_
      refine lv_iconst (v := 1) hx hb dX7_see_14 (by decide) ?_
      refine lv_icmp_le (tgt := 21) hx hb dX7_see_15 (by decide) (fun c_3 => ?_) (fun c_3 => ?_)
      · refine lv_aload_n hx hb dX7_see_21 rfl (lv_at hl 0 rfl) ?_
        refine r_get (C := RX7) (T := TX7) (N := 9) (v := .ref e0) CF hE hP 0 rfl rfl inG7 6 (by decide) tw_1_139 rfl rfl dX7_see_22 ?_
        refine lv_iload_n hx hb dX7_see_25 rfl (lv_at hl 1 rfl) ?_
        refine lv_iload_n hx hb dX7_see_26 rfl (lv_at hl 2 rfl) ?_
        refine lv_iconst (v := 1) hx hb dX7_see_27 (by decide) ?_
        refine lv_icmp_ne (tgt := 35) hx hb dX7_see_28 (by decide) (fun c_4 => ?_) (fun c_4 => ?_)
        · refine lv_iconst (v := 0) hx hb dX7_see_35 (by decide) ?_
          refine mu_V (y := yX3_add) (As := [.int a1, .int 0]) (rest := []) (q0 := 1) (ws' := [(q0, .inr (7, [.ref x0, .ref t0, .ref n0, .ref d0, .ref b0, .ref s0, .ref e0, .int fs, .long ch])), (e0, .inr (3, [.int (f_X3_add_sc sc 0), .int (f_X3_add_su sc su a1 0), .int (f_X3_add_sp sc sp a1 0)]))]) (ad := [q0, e0]) CF (c_X3_add l D cI cZ e0 sc su sp a1 0) lk_X7_209 hP hE hD hS [1] rfl (by decide) (Nat.le_of_ble_eq_true rfl) rfl rfl rfl rfl rfl rfl hl.1 rfl (Nat.le_of_ble_eq_true rfl) ⟨Nat.le_of_ble_eq_true rfl, Nat.le_of_ble_eq_true rfl, rfl, rfl⟩ ⟨Nat.zero_le _, Nat.zero_le _⟩ dX7_see_36 (fun H locs hP hD hS => ?_)
          have e_0 : (f_X7_see_sc sc a1 a2) = (f_X3_add_sc sc 0) := by rw [f_X7_see_sc, if_neg c_1, if_neg c_2, if_pos c_3, if_neg c_4]
          have e_1 : (f_X7_see_su sc su a1 a2) = (f_X3_add_su sc su a1 0) := by rw [f_X7_see_su, if_neg c_1, if_neg c_2, if_pos c_3, if_neg c_4]
          have e_2 : (f_X7_see_sp sc sp a1 a2) = (f_X3_add_sp sc sp a1 0) := by rw [f_X7_see_sp, if_neg c_1, if_neg c_2, if_pos c_3, if_neg c_4]
          exact mu_reti CF hQ hr hlk rfl hP hS dX7_see_39 (by rw [f_X7_see, if_neg c_1, if_neg c_2, if_pos c_3, if_neg c_4]) (by rw [e_0, e_1, e_2])
        · refine lv_iconst (v := 1) hx hb dX7_see_31 (by decide) ?_
          refine lv_goto (tgt := 36) hx hb dX7_see_32 (by decide) ?_
          refine mu_V (y := yX3_add) (As := [.int a1, .int 1]) (rest := []) (q0 := 1) (ws' := [(q0, .inr (7, [.ref x0, .ref t0, .ref n0, .ref d0, .ref b0, .ref s0, .ref e0, .int fs, .long ch])), (e0, .inr (3, [.int (f_X3_add_sc sc 1), .int (f_X3_add_su sc su a1 1), .int (f_X3_add_sp sc sp a1 1)]))]) (ad := [q0, e0]) CF (c_X3_add l D cI cZ e0 sc su sp a1 1) lk_X7_209 hP hE hD hS [1] rfl (by decide) (Nat.le_of_ble_eq_true rfl) rfl rfl rfl rfl rfl rfl hl.1 rfl (Nat.le_of_ble_eq_true rfl) ⟨Nat.le_of_ble_eq_true rfl, Nat.le_of_ble_eq_true rfl, rfl, rfl⟩ ⟨Nat.zero_le _, Nat.zero_le _⟩ dX7_see_36 (fun H locs hP hD hS => ?_)
          have e_0 : (f_X7_see_sc sc a1 a2) = (f_X3_add_sc sc 1) := by rw [f_X7_see_sc, if_neg c_1, if_neg c_2, if_pos c_3, if_pos c_4]
          have e_1 : (f_X7_see_su sc su a1 a2) = (f_X3_add_su sc su a1 1) := by rw [f_X7_see_su, if_neg c_1, if_neg c_2, if_pos c_3, if_pos c_4]
          have e_2 : (f_X7_see_sp sc sp a1 a2) = (f_X3_add_sp sc sp a1 1) := by rw [f_X7_see_sp, if_neg c_1, if_neg c_2, if_pos c_3, if_pos c_4]
          exact mu_reti CF hQ hr hlk rfl hP hS dX7_see_39 (by rw [f_X7_see, if_neg c_1, if_neg c_2, if_pos c_3, if_pos c_4]) (by rw [e_0, e_1, e_2])
      · refine lv_bipush (v := (-2)) hx hb dX7_see_18 (by decide) ?_
        have e_0 : (f_X7_see_sc sc a1 a2) = sc := by rw [f_X7_see_sc, if_neg c_1, if_neg c_2, if_neg c_3]
        have e_1 : (f_X7_see_su sc su a1 a2) = su := by rw [f_X7_see_su, if_neg c_1, if_neg c_2, if_neg c_3]
        have e_2 : (f_X7_see_sp sc sp a1 a2) = sp := by rw [f_X7_see_sp, if_neg c_1, if_neg c_2, if_neg c_3]
        exact mu_reti CF hQ hr hlk rfl hP hS dX7_see_20 (by rw [f_X7_see, if_neg c_1, if_neg c_2, if_neg c_3]) (by rw [e_0, e_1, e_2])
  · refine lv_iconst (v := (-1)) hx hb dX7_see_7 (by decide) ?_
    have e_0 : (f_X7_see_sc sc a1 a2) = sc := by rw [f_X7_see_sc, if_pos c_1]
    have e_1 : (f_X7_see_su sc su a1 a2) = su := by rw [f_X7_see_su, if_pos c_1]
    have e_2 : (f_X7_see_sp sc sp a1 a2) = sp := by rw [f_X7_see_sp, if_pos c_1]
    exact mu_reti CF hQ hr hlk rfl hP hS dX7_see_8 (by rw [f_X7_see, if_pos c_1]) (by rw [e_0, e_1, e_2])
theorem lk_X7_213 : mLkV RX7 213 yX3_clear cX3_clear 2 (some .int) 0 := ⟨⟨tw_3_59, tw_1_9, tw_3_62, ⟨by decide +kernel, by decide +kernel, by decide +kernel⟩⟩, tw_3_60, tw_3_61⟩
set_option maxRecDepth 100000 in
set_option maxHeartbeats 4000000 in
theorem c_X7_unsee (l : Launch) (D : va_G) (cI cZ : ClassId) (q0 x0 t0 n0 d0 b0 s0 e0 : Nat) (fs : Int32) (ch : Int64) (sc : Int32) (su : Int32) (sp : Int32) : MU l D cI cZ yX7_unsee cX7_unsee 1 (some .int) (mR 1 21) [.ref q0] [(q0, .inr (7, [.ref x0, .ref t0, .ref n0, .ref d0, .ref b0, .ref s0, .ref e0, .int fs, .long ch])), (e0, .inr (3, [.int sc, .int su, .int sp]))] [(q0, .inr (7, [.ref x0, .ref t0, .ref n0, .ref d0, .ref b0, .ref s0, .ref e0, .int fs, .long ch])), (e0, .inr (3, [.int 0, .int 0, .int 0]))] (some (.int sc)) := by
  refine MU.of (by decide +kernel) (Nat.le_of_ble_eq_true rfl) ?_
  intro p e s m args below meth c ls Q A CF hr hlk hP hE hD hS hQ hl
  have hx := CF.1
  have hb := CF.2.1
  have hl : lv_has ls 1 [(0, .ref q0)] := hl
  refine lv_aload_n hx hb dX7_unsee_0 rfl (lv_at hl 0 rfl) ?_
  refine r_get (C := RX7) (T := TX7) (N := 9) (v := .ref e0) CF hE hP 0 rfl rfl inG7 6 (by decide) tw_1_139 rfl rfl dX7_unsee_1 ?_
  refine mu_V (y := yX3_clear) (As := []) (rest := []) (q0 := 1) (ws' := [(q0, .inr (7, [.ref x0, .ref t0, .ref n0, .ref d0, .ref b0, .ref s0, .ref e0, .int fs, .long ch])), (e0, .inr (3, [.int 0, .int 0, .int 0]))]) (ad := [q0, e0]) CF (c_X3_clear l D cI cZ e0 sc su sp) lk_X7_213 hP hE hD hS [1] rfl (by decide) (Nat.le_of_ble_eq_true rfl) rfl rfl rfl rfl rfl rfl hl.1 rfl (Nat.le_of_ble_eq_true rfl) ⟨Nat.le_of_ble_eq_true rfl, Nat.le_of_ble_eq_true rfl, rfl, rfl⟩ ⟨Nat.zero_le _, Nat.zero_le _⟩ dX7_unsee_4 (fun H locs hP hD hS => ?_)
  exact mu_reti CF hQ hr hlk rfl hP hS dX7_unsee_7 rfl rfl
set_option maxRecDepth 100000 in
set_option maxHeartbeats 4000000 in
theorem c_X7_seed (l : Launch) (D : va_G) (cI cZ : ClassId) (q0 x0 t0 n0 d0 b0 s0 e0 : Nat) (fs : Int32) (ch : Int64) (a1 : Int64) : MU l D cI cZ yX7_seed cX7_seed 5 (some .long) (mR 0 0) [.ref q0, .long a1] [(q0, .inr (7, [.ref x0, .ref t0, .ref n0, .ref d0, .ref b0, .ref s0, .ref e0, .int fs, .long ch]))] [(q0, .inr (7, [.ref x0, .ref t0, .ref n0, .ref d0, .ref b0, .ref s0, .ref e0, .int fs, .long a1]))] (some (.long ch)) := by
  refine MU.of (by decide +kernel) (Nat.le_of_ble_eq_true rfl) ?_
  intro p e s m args below meth c ls Q A CF hr hlk hP hE hD hS hQ hl
  have hx := CF.1
  have hb := CF.2.1
  have hl : lv_has ls 5 [(0, .ref q0), (1, .long a1)] := hl
  refine lv_aload_n hx hb dX7_seed_0 rfl (lv_at hl 0 rfl) ?_
  refine r_get (C := RX7) (T := TX7) (N := 9) (v := .long ch) CF hE hP 0 rfl rfl inG7 8 (by decide) tw_1_141 rfl rfl dX7_seed_1 ?_
  refine lv_lstore_n (lv' := [(3, .long ch), (0, .ref q0), (1, .long a1)]) hx hb dX7_seed_4 rfl hl (by decide) rfl (fun ls hl => ?_)
  refine lv_aload_n hx hb dX7_seed_5 rfl (lv_at hl 1 rfl) ?_
  refine lv_lload_n hx hb dX7_seed_6 rfl (lv_at hl 2 rfl) ?_
  refine r_put (C := RX7) (T := TX7) (N := 9) (ws' := [(q0, .inr (7, [.ref x0, .ref t0, .ref n0, .ref d0, .ref b0, .ref s0, .ref e0, .int fs, .long a1]))]) CF hE hP hD hS 0 rfl rfl inG7 tyX7 tyX7_ok nmX7 8 (by decide) tw_1_141 rfl rfl rfl rfl (Nat.le_of_ble_eq_true rfl) dX7_seed_7 rfl (fun H locs hP hD hS => ?_)
  refine lv_lload_n hx hb dX7_seed_10 rfl (lv_at hl 0 rfl) ?_
  exact mu_retl CF hQ hr hlk hP hS dX7_seed_11 rfl rfl
theorem lk_X7_105 : mLkV RX7 105 yX0_count cX0_count 1 (some .int) 0 := ⟨⟨tw_2_68, tw_1_7, tw_2_71, ⟨by decide +kernel, by decide +kernel, by decide +kernel⟩⟩, tw_2_69, tw_2_70⟩
theorem lk_X7_157 : mLkV RX7 157 yX0_takeBack cX0_takeBack 2 (some .int) 1 := ⟨⟨tw_2_200, tw_1_7, tw_2_203, ⟨by decide +kernel, by decide +kernel, by decide +kernel⟩⟩, tw_2_201, tw_2_202⟩
def f_X7_undo (ac : Int32) : Int32 :=
  (if ac = 0 then (-3) else (f_X0_takeBack ac))
def f_X7_undo_nw (nw : Nat → Int32) (ac : Int32) (ax : Int32) (ah : Nat → Int32) : Nat → Int32 :=
  (if ac = 0 then nw else (f_X0_takeBack_nw ac ax ah nw))
def f_X7_undo_ac (ac : Int32) : Int32 :=
  (if ac = 0 then ac else (f_X0_takeBack_ac ac))
def f_X7_undo_ax (ac : Int32) (ax : Int32) : Int32 :=
  (if ac = 0 then ax else (f_X0_takeBack_ax ac ax))
set_option maxRecDepth 100000 in
set_option maxHeartbeats 4000000 in
theorem c_X7_undo (l : Launch) (D : va_G) (cI cZ : ClassId) (q0 x0 t0 n0 d0 b0 s0 e0 n1 n2 b1 b2 b3 : Nat) (fs : Int32) (ch : Int64) (nw : Nat → Int32) (ac : Int32) (ax : Int32) (ah : Nat → Int32) : MU l D cI cZ yX7_undo cX7_undo 1 (some .int) (mR 4 90) [.ref q0] [(q0, .inr (7, [.ref x0, .ref t0, .ref n0, .ref d0, .ref b0, .ref s0, .ref e0, .int fs, .long ch])), (n0, .inr (1, [.ref t0, .ref n1])), (n1, .inr (2, [.ref n2])), (n2, .inl (cI, 15, .inl nw)), (b0, .inr (0, [.ref b1, .int ac, .int ax])), (b1, .inr (4, [.ref b2])), (b2, .inr (2, [.ref b3])), (b3, .inl (cI, 210, .inl ah))] [(q0, .inr (7, [.ref x0, .ref t0, .ref n0, .ref d0, .ref b0, .ref s0, .ref e0, .int fs, .long ch])), (n0, .inr (1, [.ref t0, .ref n1])), (n1, .inr (2, [.ref n2])), (n2, .inl (cI, 15, .inl (f_X7_undo_nw nw ac ax ah))), (b0, .inr (0, [.ref b1, .int (f_X7_undo_ac ac), .int (f_X7_undo_ax ac ax)])), (b1, .inr (4, [.ref b2])), (b2, .inr (2, [.ref b3])), (b3, .inl (cI, 210, .inl ah))] (some (.int (f_X7_undo ac))) := by
  refine MU.of (by decide +kernel) (Nat.le_of_ble_eq_true rfl) ?_
  intro p e s m args below meth c ls Q A CF hr hlk hP hE hD hS hQ hl
  have hx := CF.1
  have hb := CF.2.1
  have hl : lv_has ls 1 [(0, .ref q0)] := hl
  refine lv_aload_n hx hb dX7_undo_0 rfl (lv_at hl 0 rfl) ?_
  refine r_get (C := RX7) (T := TX7) (N := 9) (v := .ref b0) CF hE hP 0 rfl rfl inG7 4 (by decide) tw_1_137 rfl rfl dX7_undo_1 ?_
  refine ro_V (y := yX0_count) (As := []) (rest := []) (q0 := 4) CF (c_X0_count l D cI cZ b0 b1 ac ax) lk_X7_105 hP hE [4] rfl rfl rfl rfl hl.1 rfl (Nat.le_of_ble_eq_true rfl) ⟨Nat.le_of_ble_eq_true rfl, Nat.le_of_ble_eq_true rfl, rfl, rfl⟩ ⟨Nat.zero_le _, Nat.zero_le _⟩ dX7_undo_4 ?_
  refine lv_if_ne (tgt := 13) hx hb dX7_undo_7 (by decide) (fun c_1 => ?_) (fun c_1 => ?_)
  · refine lv_aload_n hx hb dX7_undo_13 rfl (lv_at hl 0 rfl) ?_
    refine r_get (C := RX7) (T := TX7) (N := 9) (v := .ref b0) CF hE hP 0 rfl rfl inG7 4 (by decide) tw_1_137 rfl rfl dX7_undo_14 ?_
    refine lv_aload_n hx hb dX7_undo_17 rfl (lv_at hl 0 rfl) ?_
    refine r_get (C := RX7) (T := TX7) (N := 9) (v := .ref n0) CF hE hP 0 rfl rfl inG7 2 (by decide) tw_1_135 rfl rfl dX7_undo_18 ?_
    refine mu_V (y := yX0_takeBack) (As := [.ref n0]) (rest := []) (q0 := 4) (ws' := [(q0, .inr (7, [.ref x0, .ref t0, .ref n0, .ref d0, .ref b0, .ref s0, .ref e0, .int fs, .long ch])), (n0, .inr (1, [.ref t0, .ref n1])), (n1, .inr (2, [.ref n2])), (n2, .inl (cI, 15, .inl (f_X0_takeBack_nw ac ax ah nw))), (b0, .inr (0, [.ref b1, .int (f_X0_takeBack_ac ac), .int (f_X0_takeBack_ax ac ax)])), (b1, .inr (4, [.ref b2])), (b2, .inr (2, [.ref b3])), (b3, .inl (cI, 210, .inl ah))]) (ad := [q0, n0, n1, n2, b0, b1, b2, b3]) CF (c_X0_takeBack l D cI cZ b0 b1 b2 b3 n0 t0 n1 n2 ac ax ah nw) lk_X7_157 hP hE hD hS [4, 5, 6, 7, 1, 2, 3] rfl (by decide) (Nat.le_of_ble_eq_true rfl) rfl rfl rfl rfl rfl rfl hl.1 rfl (Nat.le_of_ble_eq_true rfl) ⟨Nat.le_of_ble_eq_true rfl, Nat.le_of_ble_eq_true rfl, rfl, rfl⟩ ⟨Nat.zero_le _, Nat.zero_le _⟩ dX7_undo_21 (fun H locs hP hD hS => ?_)
    have e_0 : (f_X7_undo_nw nw ac ax ah) = (f_X0_takeBack_nw ac ax ah nw) := by rw [f_X7_undo_nw, if_neg c_1]
    have e_1 : (f_X7_undo_ac ac) = (f_X0_takeBack_ac ac) := by rw [f_X7_undo_ac, if_neg c_1]
    have e_2 : (f_X7_undo_ax ac ax) = (f_X0_takeBack_ax ac ax) := by rw [f_X7_undo_ax, if_neg c_1]
    exact mu_reti CF hQ hr hlk rfl hP hS dX7_undo_24 (by rw [f_X7_undo, if_neg c_1]) (by rw [e_0, e_1, e_2])
  · refine lv_bipush (v := (-3)) hx hb dX7_undo_10 (by decide) ?_
    have e_0 : (f_X7_undo_nw nw ac ax ah) = nw := by rw [f_X7_undo_nw, if_pos c_1]
    have e_1 : (f_X7_undo_ac ac) = ac := by rw [f_X7_undo_ac, if_pos c_1]
    have e_2 : (f_X7_undo_ax ac ax) = ax := by rw [f_X7_undo_ax, if_pos c_1]
    exact mu_reti CF hQ hr hlk rfl hP hS dX7_undo_12 (by rw [f_X7_undo, if_pos c_1]) (by rw [e_0, e_1, e_2])
