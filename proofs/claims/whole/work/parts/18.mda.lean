def f_X8_in (a0 : Int64) (a2 : Int64) (a4 : Int64) : Int32 :=
  (if (lg_cmp a0 a2) < 0 then 0 else (if 0 < (lg_cmp a0 a4) then 0 else 1))
theorem z_f_X8_in (a0 : Int64) (a2 : Int64) (a4 : Int64) : narrow .boolean (.int (f_X8_in a0 a2 a4)) = .int (f_X8_in a0 a2 a4) := by
  unfold f_X8_in
  repeat' split
  all_goals first | rfl
set_option maxRecDepth 100000 in
set_option maxHeartbeats 4000000 in
theorem c_X8_in (l : Launch) (D : va_G) (cI cZ : ClassId) (a0 : Int64) (a2 : Int64) (a4 : Int64) : RO l D cI cZ yX8_in cX8_in 6 (some .boolean) (mR 0 0) [.long a0, .long a2, .long a4] [] (some (.int (f_X8_in a0 a2 a4))) := by
  refine RO.of (by decide +kernel) (Nat.le_of_ble_eq_true rfl) ?_
  intro p e s m args below meth c ls Q CF hr hlk hP hE hQ hl
  have hx := CF.1
  have hb := CF.2.1
  have hl : lv_has ls 6 [(0, .long a0), (2, .long a2), (4, .long a4)] := hl
  refine lv_lload_n hx hb dX8_in_0 rfl (lv_at hl 0 rfl) ?_
  refine lv_lload_n hx hb dX8_in_1 rfl (lv_at hl 1 rfl) ?_
  refine W.lcmp hx hb dX8_in_2 ?_
  refine lv_if_lt (tgt := 17) hx hb dX8_in_3 (by decide) (fun c_1 => ?_) (fun c_1 => ?_)
  · refine lv_iconst (v := 0) hx hb dX8_in_17 (by decide) ?_
    exact ro_ret CF hQ hr hlk rfl dX8_in_18 (by rw [f_X8_in, if_pos c_1])
  · refine lv_lload_n hx hb dX8_in_6 rfl (lv_at hl 0 rfl) ?_
    refine lv_lload hx hb dX8_in_7 (lv_at hl 2 rfl) ?_
    refine W.lcmp hx hb dX8_in_9 ?_
    refine lv_if_gt (tgt := 17) hx hb dX8_in_10 (by decide) (fun c_2 => ?_) (fun c_2 => ?_)
    · refine lv_iconst (v := 0) hx hb dX8_in_17 (by decide) ?_
      exact ro_ret CF hQ hr hlk rfl dX8_in_18 (by rw [f_X8_in, if_neg c_1, if_pos c_2])
    · refine lv_iconst (v := 1) hx hb dX8_in_13 (by decide) ?_
      refine lv_goto (tgt := 18) hx hb dX8_in_14 (by decide) ?_
      exact ro_ret CF hQ hr hlk rfl dX8_in_18 (by rw [f_X8_in, if_neg c_1, if_neg c_2])
def f_X8_has (a0 : Int32) (a1 : Int32) : Int32 :=
  (if (((a0 : Int32) >>> ((a1 : Int32) &&& 31)) &&& 1) = 1 then 1 else 0)
theorem z_f_X8_has (a0 : Int32) (a1 : Int32) : narrow .boolean (.int (f_X8_has a0 a1)) = .int (f_X8_has a0 a1) := by
  unfold f_X8_has
  repeat' split
  all_goals first | rfl
set_option maxRecDepth 100000 in
set_option maxHeartbeats 4000000 in
theorem c_X8_has (l : Launch) (D : va_G) (cI cZ : ClassId) (a0 : Int32) (a1 : Int32) : RO l D cI cZ yX8_has cX8_has 2 (some .boolean) (mR 0 0) [.int a0, .int a1] [] (some (.int (f_X8_has a0 a1))) := by
  refine RO.of (by decide +kernel) (Nat.le_of_ble_eq_true rfl) ?_
  intro p e s m args below meth c ls Q CF hr hlk hP hE hQ hl
  have hx := CF.1
  have hb := CF.2.1
  have hl : lv_has ls 2 [(0, .int a0), (1, .int a1)] := hl
  refine lv_iload_n hx hb dX8_has_0 rfl (lv_at hl 0 rfl) ?_
  refine lv_iload_n hx hb dX8_has_1 rfl (lv_at hl 1 rfl) ?_
  refine lv_ishr hx hb dX8_has_2 ?_
  refine lv_iconst (v := 1) hx hb dX8_has_3 (by decide) ?_
  refine lv_iand hx hb dX8_has_4 ?_
  refine lv_iconst (v := 1) hx hb dX8_has_5 (by decide) ?_
  refine lv_icmp_ne (tgt := 13) hx hb dX8_has_6 (by decide) (fun c_1 => ?_) (fun c_1 => ?_)
  · refine lv_iconst (v := 0) hx hb dX8_has_13 (by decide) ?_
    exact ro_ret CF hQ hr hlk rfl dX8_has_14 (by rw [f_X8_has, if_neg c_1])
  · refine lv_iconst (v := 1) hx hb dX8_has_9 (by decide) ?_
    refine lv_goto (tgt := 14) hx hb dX8_has_10 (by decide) ?_
    exact ro_ret CF hQ hr hlk rfl dX8_has_14 (by rw [f_X8_has, if_pos c_1])
def S_X8_many_4 (a0 : Int32) (k4 : Nat) (x4_0 : Int32) : (Int32) :=
  (x4_0 + (((a0 : Int32) >>> (((nI k4) : Int32) &&& 31)) &&& 1))
def B_X8_many_4 (a0 : Int32) (i0 : Int32) : Nat → (Int32)
  | 0 => i0
  | k + 1 => S_X8_many_4 a0 k (B_X8_many_4 a0 i0 k)
set_option maxRecDepth 100000 in
set_option maxHeartbeats 4000000 in
theorem c_X8_many (l : Launch) (D : va_G) (cI cZ : ClassId) (a0 : Int32) : RO l D cI cZ yX8_many cX8_many 3 (some .int) (mR 0 0) [.int a0] [] (some (.int ((B_X8_many_4 a0 0 6)))) := by
  refine RO.of (by decide +kernel) (Nat.le_of_ble_eq_true rfl) ?_
  intro p e s m args below meth c ls Q CF hr hlk hP hE hQ hl
  have hx := CF.1
  have hb := CF.2.1
  have hl : lv_has ls 3 [(0, .int a0)] := hl
  refine lv_iconst (v := 0) hx hb dX8_many_0 (by decide) ?_
  refine lv_istore_n (lv' := [(1, .int 0), (0, .int a0)]) hx hb dX8_many_1 rfl hl (by decide) rfl (fun ls hl => ?_)
  refine lv_iconst (v := 0) hx hb dX8_many_2 (by decide) ?_
  refine lv_istore_n (lv' := [(2, .int 0), (1, .int 0), (0, .int a0)]) hx hb dX8_many_3 rfl hl (by decide) rfl (fun ls hl => ?_)
  have LOOP_4 : ∀ (n_4 k4 : Nat) (x4_0 : Int32) (ls : Array Slot), k4 ≤ 6 → 6 - k4 < n_4 → (B_X8_many_4 a0 0 k4) = x4_0 → lv_has ls 3 [(2, .int (nI k4)), (1, .int x4_0), (0, .int a0)] → W p l e (mR 0 0) s m args below meth c s.heap [] 0 0 Q (F0 m 4 ls []) := by
    intro n_4
    induction n_4 with
    | zero => intro k4 x4_0 ls hk_4 hn_4 hB_4 hl; exact absurd hn_4 (Nat.not_lt_zero _)
    | succ n_4 ih_4 =>
      intro k4 x4_0 ls hk_4 hn_4 hB_4 hl
      refine lv_iload_n hx hb dX8_many_4 rfl (lv_at hl 0 rfl) ?_
      refine lv_bipush (v := 6) hx hb dX8_many_5 (by decide) ?_
      refine lv_icmp_ge (tgt := 24) hx hb dX8_many_7 (by decide) (fun c_1 => ?_) (fun c_1 => ?_)
      · have o_1 : 6 ≤ k4 := (cle (nf_c 6) (rfl : nI k4 = nI k4) (by omega) (by omega)).mp c_1
        have hkN : 6 = k4 := by omega
        subst hkN
        subst hB_4
        refine lv_iload_n hx hb dX8_many_24 rfl (lv_at hl 1 rfl) ?_
        exact ro_ret CF hQ hr hlk rfl dX8_many_25 rfl
      · have o_1 : ¬ 6 ≤ k4 := fun h => c_1 ((cle (nf_c 6) (rfl : nI k4 = nI k4) (by omega) (by omega)).mpr h)
        refine lv_iload_n hx hb dX8_many_10 rfl (lv_at hl 1 rfl) ?_
        refine lv_iload_n hx hb dX8_many_11 rfl (lv_at hl 2 rfl) ?_
        refine lv_iload_n hx hb dX8_many_12 rfl (lv_at hl 0 rfl) ?_
        refine lv_ishr hx hb dX8_many_13 ?_
        refine lv_iconst (v := 1) hx hb dX8_many_14 (by decide) ?_
        refine lv_iand hx hb dX8_many_15 ?_
        refine lv_iadd hx hb dX8_many_16 ?_
        refine lv_istore_n (lv' := [(1, .int (x4_0 + (((a0 : Int32) >>> (((nI k4) : Int32) &&& 31)) &&& 1))), (2, .int (nI k4)), (0, .int a0)]) hx hb dX8_many_17 rfl hl (by decide) rfl (fun ls hl => ?_)
        refine lv_iinc (v := (nI (k4 + 1))) (lv' := [(2, .int (nI (k4 + 1))), (1, .int (x4_0 + (((a0 : Int32) >>> (((nI k4) : Int32) &&& 31)) &&& 1))), (0, .int a0)]) hx hb dX8_many_18 hl (k := 1) rfl (nf_inc 1 (rfl : nI k4 = nI k4)) (by decide) rfl (fun ls hl => ?_)
        refine lv_goto (tgt := 4) hx hb dX8_many_21 (by decide) ?_
        have hB2 : B_X8_many_4 a0 0 (k4 + 1) = (x4_0 + (((a0 : Int32) >>> (((nI k4) : Int32) &&& 31)) &&& 1)) := by
          rw [B_X8_many_4, hB_4]
          rw [S_X8_many_4]
        exact ih_4 (k4 + 1) (x4_0 + (((a0 : Int32) >>> (((nI k4) : Int32) &&& 31)) &&& 1)) _ (by omega) (by omega) hB2 (lv_sub hl [0, 1, 2] rfl)
  have e_k : 0 = nI (0) := (nf_c 0).trans (congrArg nI (by omega))
  rw [e_k] at hl
  exact LOOP_4 (6 - 0 + 1) 0 0 _ (Nat.zero_le _) (by omega) rfl (lv_sub hl [0, 1, 2] rfl)
theorem lk_X8_60 : mLkS RX8 60 yX8_in cX8_in 6 (some .boolean) 3 := ⟨⟨tw_3_215, tw_1_10, tw_3_217, ⟨by decide +kernel, by decide +kernel, by decide +kernel⟩⟩, tw_3_216⟩
def f_X8_noPerson (uP : Nat) (a1 : Int32) : Int32 :=
  (if (f_X8_in a1.toInt64 0 (((nI uP) - 1).toInt64)) = 0 then 1 else 0)
theorem z_f_X8_noPerson (uP : Nat) (a1 : Int32) : narrow .boolean (.int (f_X8_noPerson uP a1)) = .int (f_X8_noPerson uP a1) := by
  unfold f_X8_noPerson
  repeat' split
  all_goals first | rfl | exact z_f_X8_in _ _ _
set_option maxRecDepth 100000 in
set_option maxHeartbeats 4000000 in
theorem c_X8_noPerson (l : Launch) (D : va_G) (cI cZ : ClassId) (q0 y1 y2 y3 y4 y5 y6 y7 y8 y9 y10 y11 y12 y13 y14 : Nat) (th : Int32) (uT : Nat) (up : Nat) (uP : Nat) (uR : Nat) (vP : Nat) (vR : Nat) (ua : Nat) (us : Nat) (sd : Int64) (z1 : Int32) (z2 : Int32) (z3 : Int32) (z4 : Int32) (z5 : Int32) (z6 : Int32) (z7 : Int32) (a1 : Int32) : RO l D cI cZ yX8_noPerson cX8_noPerson 2 (some .boolean) (mR 1 25) [.ref q0, .int a1] [(q0, .inr (8, [.int th, .ref y1, .int (nI uT), .int (nI up), .int (nI uP), .ref y2, .int (nI uR), .ref y3, .int (nI vP), .ref y4, .ref y5, .int (nI vR), .ref y6, .ref y7, .ref y8, .ref y9, .int (nI ua), .ref y10, .ref y11, .int (nI us), .ref y12, .ref y13, .long sd, .int z1, .int z2, .int z3, .int z4, .int z5, .int z6, .int z7, .ref y14]))] (some (.int (f_X8_noPerson uP a1))) := by
  refine RO.of (by decide +kernel) (Nat.le_of_ble_eq_true rfl) ?_
  intro p e s m args below meth c ls Q CF hr hlk hP hE hQ hl
  have hx := CF.1
  have hb := CF.2.1
  have hl : lv_has ls 2 [(0, .ref q0), (1, .int a1)] := hl
  refine lv_iload_n hx hb dX8_noPerson_0 rfl (lv_at hl 1 rfl) ?_
  refine lv_i2l (v := a1.toInt64) hx hb dX8_noPerson_1 rfl ?_
  refine lv_lconst (v := 0) hx hb dX8_noPerson_2 (by decide) ?_
  refine lv_aload_n hx hb dX8_noPerson_3 rfl (lv_at hl 0 rfl) ?_
  refine r_get (C := RX8) (T := TX8) (N := 31) (v := .int (nI uP)) CF hE hP 0 rfl rfl inG8 4 (by decide) tw_3_119 rfl rfl dX8_noPerson_4 ?_
  refine lv_iconst (v := 1) hx hb dX8_noPerson_7 (by decide) ?_
  refine lv_isub hx hb dX8_noPerson_8 ?_
  refine lv_i2l (v := ((nI uP) - 1).toInt64) hx hb dX8_noPerson_9 rfl ?_
  refine ro_S (y := yX8_in) (As := [.long a1.toInt64, .long 0, .long (((nI uP) - 1).toInt64)]) (rest := []) CF (c_X8_in l D cI cZ a1.toInt64 0 (((nI uP) - 1).toInt64)) lk_X8_60 hE rfl hl.1 rfl (Nat.le_of_ble_eq_true rfl) ⟨Nat.le_of_ble_eq_true rfl, Nat.le_of_ble_eq_true rfl, rfl, rfl⟩ ⟨Nat.zero_le _, Nat.zero_le _⟩ dX8_noPerson_10 ?_
  refine lv_if_ne (tgt := 20) hx hb dX8_noPerson_13 (by decide) (fun c_1 => ?_) (fun c_1 => ?_)
  · refine lv_iconst (v := 0) hx hb dX8_noPerson_20 (by decide) ?_
    exact ro_ret CF hQ hr hlk rfl dX8_noPerson_21 (by rw [f_X8_noPerson, if_neg c_1])
  · refine lv_iconst (v := 1) hx hb dX8_noPerson_16 (by decide) ?_
    refine lv_goto (tgt := 21) hx hb dX8_noPerson_17 (by decide) ?_
    exact ro_ret CF hQ hr hlk rfl dX8_noPerson_21 (by rw [f_X8_noPerson, if_pos c_1])
def f_X8_noFact (a0 : Int32) : Int32 :=
  (if (f_X8_in a0.toInt64 0 5) = 0 then 1 else 0)
theorem z_f_X8_noFact (a0 : Int32) : narrow .boolean (.int (f_X8_noFact a0)) = .int (f_X8_noFact a0) := by
  unfold f_X8_noFact
  repeat' split
  all_goals first | rfl | exact z_f_X8_in _ _ _
set_option maxRecDepth 100000 in
set_option maxHeartbeats 4000000 in
theorem c_X8_noFact (l : Launch) (D : va_G) (cI cZ : ClassId) (a0 : Int32) : RO l D cI cZ yX8_noFact cX8_noFact 1 (some .boolean) (mR 1 25) [.int a0] [] (some (.int (f_X8_noFact a0))) := by
  refine RO.of (by decide +kernel) (Nat.le_of_ble_eq_true rfl) ?_
  intro p e s m args below meth c ls Q CF hr hlk hP hE hQ hl
  have hx := CF.1
  have hb := CF.2.1
  have hl : lv_has ls 1 [(0, .int a0)] := hl
  refine lv_iload_n hx hb dX8_noFact_0 rfl (lv_at hl 0 rfl) ?_
  refine lv_i2l (v := a0.toInt64) hx hb dX8_noFact_1 rfl ?_
  refine lv_lconst (v := 0) hx hb dX8_noFact_2 (by decide) ?_
  refine lv_ldc2 (v := 5) hx hb CF.2.2.2.1 (CF.2.2.2.2 _ (List.mem_cons_of_mem _ tw_4_48)) dX8_noFact_3 ?_
  refine ro_S (y := yX8_in) (As := [.long a0.toInt64, .long 0, .long 5]) (rest := []) CF (c_X8_in l D cI cZ a0.toInt64 0 5) lk_X8_60 hE rfl hl.1 rfl (Nat.le_of_ble_eq_true rfl) ⟨Nat.le_of_ble_eq_true rfl, Nat.le_of_ble_eq_true rfl, rfl, rfl⟩ ⟨Nat.zero_le _, Nat.zero_le _⟩ dX8_noFact_6 ?_
  refine lv_if_ne (tgt := 16) hx hb dX8_noFact_9 (by decide) (fun c_1 => ?_) (fun c_1 => ?_)
  · refine lv_iconst (v := 0) hx hb dX8_noFact_16 (by decide) ?_
    exact ro_ret CF hQ hr hlk rfl dX8_noFact_17 (by rw [f_X8_noFact, if_neg c_1])
  · refine lv_iconst (v := 1) hx hb dX8_noFact_12 (by decide) ?_
    refine lv_goto (tgt := 17) hx hb dX8_noFact_13 (by decide) ?_
    exact ro_ret CF hQ hr hlk rfl dX8_noFact_17 (by rw [f_X8_noFact, if_pos c_1])
theorem lk_X8_104 : mLkS RX8 104 yX8_has cX8_has 2 (some .boolean) 2 := ⟨⟨tw_4_18, tw_1_10, tw_4_20, ⟨by decide +kernel, by decide +kernel, by decide +kernel⟩⟩, tw_4_19⟩
def S_X8_closed_12 (ur : Nat → Int32) (k12 : Nat) (x12_0 : Int32) : (Int32) :=
  (if (f_X8_has x12_0 (ur (3 * k12))) = 0 then (x12_0 ||| 0) else (if (f_X8_has x12_0 (ur ((3 * k12) + 1))) = 0 then (x12_0 ||| 0) else (x12_0 ||| ((1 : Int32) <<< (((ur ((3 * k12) + 2)) : Int32) &&& 31)))))
def B_X8_closed_12 (ur : Nat → Int32) (i0 : Int32) : Nat → (Int32)
  | 0 => i0
  | k + 1 => S_X8_closed_12 ur k (B_X8_closed_12 ur i0 k)
def S_X8_closed_4 (uR : Nat) (ur : Nat → Int32) (k4 : Nat) (x4_0 : Int32) : (Int32) :=
  ((B_X8_closed_12 ur x4_0 uR))
def B_X8_closed_4 (uR : Nat) (ur : Nat → Int32) (i0 : Int32) : Nat → (Int32)
  | 0 => i0
  | k + 1 => S_X8_closed_4 uR ur k (B_X8_closed_4 uR ur i0 k)
set_option maxRecDepth 100000 in
set_option maxHeartbeats 4000000 in
theorem c_X8_closed (l : Launch) (D : va_G) (cI cZ : ClassId) (q0 y1 y2 y3 y4 y5 y6 y7 y8 y9 y10 y11 y12 y13 y14 : Nat) (th : Int32) (uT : Nat) (up : Nat) (uP : Nat) (uR : Nat) (vP : Nat) (vR : Nat) (ua : Nat) (us : Nat) (sd : Int64) (z1 : Int32) (z2 : Int32) (z3 : Int32) (z4 : Int32) (z5 : Int32) (z6 : Int32) (z7 : Int32) (ur : Nat → Int32) (a1 : Int32) (hur : uR ≤ 4) : RO l D cI cZ yX8_closed cX8_closed 6 (some .int) (mR 1 21) [.ref q0, .int a1] [(q0, .inr (8, [.int th, .ref y1, .int (nI uT), .int (nI up), .int (nI uP), .ref y2, .int (nI uR), .ref y3, .int (nI vP), .ref y4, .ref y5, .int (nI vR), .ref y6, .ref y7, .ref y8, .ref y9, .int (nI ua), .ref y10, .ref y11, .int (nI us), .ref y12, .ref y13, .long sd, .int z1, .int z2, .int z3, .int z4, .int z5, .int z6, .int z7, .ref y14])), (y3, .inl (cI, 12, .inl ur))] (some (.int ((B_X8_closed_4 uR ur a1 4)))) := by
  refine RO.of (by decide +kernel) (Nat.le_of_ble_eq_true rfl) ?_
  intro p e s m args below meth c ls Q CF hr hlk hP hE hQ hl
  have hx := CF.1
  have hb := CF.2.1
  have hl : lv_has ls 6 [(0, .ref q0), (1, .int a1)] := hl
  refine lv_iload_n hx hb dX8_closed_0 rfl (lv_at hl 1 rfl) ?_
  refine lv_istore_n (lv' := [(2, .int a1), (0, .ref q0), (1, .int a1)]) hx hb dX8_closed_1 rfl hl (by decide) rfl (fun ls hl => ?_)
  refine lv_iconst (v := 0) hx hb dX8_closed_2 (by decide) ?_
  refine lv_istore_n (lv' := [(3, .int 0), (2, .int a1), (0, .ref q0), (1, .int a1)]) hx hb dX8_closed_3 rfl hl (by decide) rfl (fun ls hl => ?_)
  have LOOP_4 : ∀ (n_4 k4 : Nat) (x4_0 : Int32) (ls : Array Slot), k4 ≤ 4 → 4 - k4 < n_4 → (B_X8_closed_4 uR ur a1 k4) = x4_0 → lv_has ls 6 [(3, .int (nI k4)), (2, .int x4_0), (0, .ref q0), (1, .int a1)] → W p l e (mR 1 21) s m args below meth c s.heap [] 0 0 Q (F0 m 4 ls []) := by
    intro n_4
    induction n_4 with
    | zero => intro k4 x4_0 ls hk_4 hn_4 hB_4 hl; exact absurd hn_4 (Nat.not_lt_zero _)
    | succ n_4 ih_4 =>
      intro k4 x4_0 ls hk_4 hn_4 hB_4 hl
      refine lv_iload_n hx hb dX8_closed_4 rfl (lv_at hl 0 rfl) ?_
      refine lv_iconst (v := 4) hx hb dX8_closed_5 (by decide) ?_
      refine lv_icmp_ge (tgt := 99) hx hb dX8_closed_6 (by decide) (fun c_1 => ?_) (fun c_1 => ?_)
      · have o_1 : 4 ≤ k4 := (cle (nf_c 4) (rfl : nI k4 = nI k4) (by omega) (by omega)).mp c_1
        have hkN : 4 = k4 := by omega
        subst hkN
        subst hB_4
        refine lv_iload_n hx hb dX8_closed_99 rfl (lv_at hl 1 rfl) ?_
        exact ro_ret CF hQ hr hlk rfl dX8_closed_100 rfl
      · have o_1 : ¬ 4 ≤ k4 := fun h => c_1 ((cle (nf_c 4) (rfl : nI k4 = nI k4) (by omega) (by omega)).mpr h)
        refine lv_iconst (v := 0) hx hb dX8_closed_9 (by decide) ?_
        refine lv_istore (lv' := [(4, .int 0), (3, .int (nI k4)), (2, .int x4_0), (0, .ref q0), (1, .int a1)]) hx hb dX8_closed_10 hl (by decide) rfl (fun ls hl => ?_)
        have LOOP_12 : ∀ (n_12 k12 : Nat) (x12_0 : Int32) (ls : Array Slot), k12 ≤ uR → uR - k12 < n_12 → (B_X8_closed_12 ur x4_0 k12) = x12_0 → lv_has ls 6 [(4, .int (nI k12)), (3, .int (nI k4)), (2, .int x12_0), (0, .ref q0), (1, .int a1)] → W p l e (mR 1 21) s m args below meth c s.heap [] 0 0 Q (F0 m 12 ls []) := by
          intro n_12
          induction n_12 with
          | zero => intro k12 x12_0 ls hk_12 hn_12 hB_12 hl; exact absurd hn_12 (Nat.not_lt_zero _)
          | succ n_12 ih_12 =>
            intro k12 x12_0 ls hk_12 hn_12 hB_12 hl
            refine lv_iload hx hb dX8_closed_12 (lv_at hl 0 rfl) ?_
            refine lv_aload_n hx hb dX8_closed_14 rfl (lv_at hl 3 rfl) ?_
            refine r_get (C := RX8) (T := TX8) (N := 31) (v := .int (nI uR)) CF hE hP 0 rfl rfl inG8 6 (by decide) tw_3_121 rfl rfl dX8_closed_15 ?_
            refine lv_icmp_ge (tgt := 93) hx hb dX8_closed_18 (by decide) (fun c_2 => ?_) (fun c_2 => ?_)
            · have o_2 : uR ≤ k12 := (cle (rfl : nI uR = nI uR) (rfl : nI k12 = nI k12) (by omega) (by omega)).mp c_2
              have hkN : uR = k12 := by omega
              subst hkN
              subst hB_12
              refine lv_iinc (v := (nI (k4 + 1))) (lv' := [(3, .int (nI (k4 + 1))), (4, .int (nI uR)), (2, .int ((B_X8_closed_12 ur x4_0 uR))), (0, .ref q0), (1, .int a1)]) hx hb dX8_closed_93 hl (k := 1) rfl (nf_inc 1 (rfl : nI k4 = nI k4)) (by decide) rfl (fun ls hl => ?_)
              refine lv_goto (tgt := 4) hx hb dX8_closed_96 (by decide) ?_
              have hB2 : B_X8_closed_4 uR ur a1 (k4 + 1) = ((B_X8_closed_12 ur x4_0 uR)) := by
                rw [B_X8_closed_4, hB_4]
                rw [S_X8_closed_4]
              exact ih_4 (k4 + 1) ((B_X8_closed_12 ur x4_0 uR)) _ (by omega) (by omega) hB2 (lv_sub hl [0, 2, 3, 4] rfl)
            · have o_2 : ¬ uR ≤ k12 := fun h => c_2 ((cle (rfl : nI uR = nI uR) (rfl : nI k12 = nI k12) (by omega) (by omega)).mpr h)
              refine lv_iload_n hx hb dX8_closed_21 rfl (lv_at hl 2 rfl) ?_
              refine lv_aload_n hx hb dX8_closed_22 rfl (lv_at hl 3 rfl) ?_
              refine r_get (C := RX8) (T := TX8) (N := 31) (v := .ref y3) CF hE hP 0 rfl rfl inG8 7 (by decide) tw_3_122 rfl rfl dX8_closed_23 ?_
              refine lv_iconst (v := 3) hx hb dX8_closed_26 (by decide) ?_
              refine lv_iload hx hb dX8_closed_27 (lv_at hl 0 rfl) ?_
              refine lv_imul hx hb dX8_closed_29 ?_
              refine r_iald (k := 12) (f := ur) CF hE hP 1 rfl (3 * k12) (nf_mul (nf_c 3) (rfl : nI k12 = nI k12)) (by omega) (by decide) dX8_closed_30 ?_
              refine ro_S (y := yX8_has) (As := [.int x12_0, .int (ur (3 * k12))]) (rest := []) CF (c_X8_has l D cI cZ x12_0 (ur (3 * k12))) lk_X8_104 hE rfl hl.1 rfl (Nat.le_of_ble_eq_true rfl) ⟨Nat.le_of_ble_eq_true rfl, Nat.le_of_ble_eq_true rfl, rfl, rfl⟩ ⟨Nat.zero_le _, Nat.zero_le _⟩ dX8_closed_31 ?_
              refine lv_if_eq (tgt := 59) hx hb dX8_closed_34 (by decide) (fun c_3 => ?_) (fun c_3 => ?_)
              · refine lv_iconst (v := 0) hx hb dX8_closed_59 (by decide) ?_
                refine lv_istore (lv' := [(5, .int 0), (4, .int (nI k12)), (3, .int (nI k4)), (2, .int x12_0), (0, .ref q0), (1, .int a1)]) hx hb dX8_closed_60 hl (by decide) rfl (fun ls hl => ?_)
                refine lv_iload_n hx hb dX8_closed_62 rfl (lv_at hl 3 rfl) ?_
                refine lv_iload hx hb dX8_closed_63 (lv_at hl 0 rfl) ?_
                refine lv_if_eq (tgt := 84) hx hb dX8_closed_65 (by decide) (fun _ => ?_) (fun c_4 => absurd c_4 (by decide))
                refine lv_iconst (v := 0) hx hb dX8_closed_84 (by decide) ?_
                refine lv_ior hx hb dX8_closed_85 ?_
                refine lv_istore_n (lv' := [(2, .int (x12_0 ||| 0)), (5, .int 0), (4, .int (nI k12)), (3, .int (nI k4)), (0, .ref q0), (1, .int a1)]) hx hb dX8_closed_86 rfl hl (by decide) rfl (fun ls hl => ?_)
                refine lv_iinc (v := (nI (k12 + 1))) (lv' := [(4, .int (nI (k12 + 1))), (2, .int (x12_0 ||| 0)), (5, .int 0), (3, .int (nI k4)), (0, .ref q0), (1, .int a1)]) hx hb dX8_closed_87 hl (k := 2) rfl (nf_inc 1 (rfl : nI k12 = nI k12)) (by decide) rfl (fun ls hl => ?_)
                refine lv_goto (tgt := 12) hx hb dX8_closed_90 (by decide) ?_
                have hB2 : B_X8_closed_12 ur x4_0 (k12 + 1) = (x12_0 ||| 0) := by
                  rw [B_X8_closed_12, hB_12]
                  rw [S_X8_closed_12, if_pos c_3]
                exact ih_12 (k12 + 1) (x12_0 ||| 0) _ (by omega) (by omega) hB2 (lv_sub hl [0, 3, 1, 4, 5] rfl)
              · refine lv_iload_n hx hb dX8_closed_37 rfl (lv_at hl 2 rfl) ?_
                refine lv_aload_n hx hb dX8_closed_38 rfl (lv_at hl 3 rfl) ?_
                refine r_get (C := RX8) (T := TX8) (N := 31) (v := .ref y3) CF hE hP 0 rfl rfl inG8 7 (by decide) tw_3_122 rfl rfl dX8_closed_39 ?_
                refine lv_iconst (v := 3) hx hb dX8_closed_42 (by decide) ?_
                refine lv_iload hx hb dX8_closed_43 (lv_at hl 0 rfl) ?_
                refine lv_imul hx hb dX8_closed_45 ?_
                refine lv_iconst (v := 1) hx hb dX8_closed_46 (by decide) ?_
                refine lv_iadd hx hb dX8_closed_47 ?_
                refine r_iald (k := 12) (f := ur) CF hE hP 1 rfl ((3 * k12) + 1) (nf_add (nf_mul (nf_c 3) (rfl : nI k12 = nI k12)) (nf_c 1)) (by omega) (by decide) dX8_closed_48 ?_
                refine ro_S (y := yX8_has) (As := [.int x12_0, .int (ur ((3 * k12) + 1))]) (rest := []) CF (c_X8_has l D cI cZ x12_0 (ur ((3 * k12) + 1))) lk_X8_104 hE rfl hl.1 rfl (Nat.le_of_ble_eq_true rfl) ⟨Nat.le_of_ble_eq_true rfl, Nat.le_of_ble_eq_true rfl, rfl, rfl⟩ ⟨Nat.zero_le _, Nat.zero_le _⟩ dX8_closed_49 ?_
                refine lv_if_eq (tgt := 59) hx hb dX8_closed_52 (by decide) (fun c_5 => ?_) (fun c_5 => ?_)
                · refine lv_iconst (v := 0) hx hb dX8_closed_59 (by decide) ?_
                  refine lv_istore (lv' := [(5, .int 0), (4, .int (nI k12)), (3, .int (nI k4)), (2, .int x12_0), (0, .ref q0), (1, .int a1)]) hx hb dX8_closed_60 hl (by decide) rfl (fun ls hl => ?_)
                  refine lv_iload_n hx hb dX8_closed_62 rfl (lv_at hl 3 rfl) ?_
                  refine lv_iload hx hb dX8_closed_63 (lv_at hl 0 rfl) ?_
                  refine lv_if_eq (tgt := 84) hx hb dX8_closed_65 (by decide) (fun _ => ?_) (fun c_6 => absurd c_6 (by decide))
                  refine lv_iconst (v := 0) hx hb dX8_closed_84 (by decide) ?_
                  refine lv_ior hx hb dX8_closed_85 ?_
                  refine lv_istore_n (lv' := [(2, .int (x12_0 ||| 0)), (5, .int 0), (4, .int (nI k12)), (3, .int (nI k4)), (0, .ref q0), (1, .int a1)]) hx hb dX8_closed_86 rfl hl (by decide) rfl (fun ls hl => ?_)
                  refine lv_iinc (v := (nI (k12 + 1))) (lv' := [(4, .int (nI (k12 + 1))), (2, .int (x12_0 ||| 0)), (5, .int 0), (3, .int (nI k4)), (0, .ref q0), (1, .int a1)]) hx hb dX8_closed_87 hl (k := 2) rfl (nf_inc 1 (rfl : nI k12 = nI k12)) (by decide) rfl (fun ls hl => ?_)
                  refine lv_goto (tgt := 12) hx hb dX8_closed_90 (by decide) ?_
                  have hB2 : B_X8_closed_12 ur x4_0 (k12 + 1) = (x12_0 ||| 0) := by
                    rw [B_X8_closed_12, hB_12]
                    rw [S_X8_closed_12, if_neg c_3, if_pos c_5]
                  exact ih_12 (k12 + 1) (x12_0 ||| 0) _ (by omega) (by omega) hB2 (lv_sub hl [0, 3, 1, 4, 5] rfl)
                · refine lv_iconst (v := 1) hx hb dX8_closed_55 (by decide) ?_
                  refine lv_goto (tgt := 60) hx hb dX8_closed_56 (by decide) ?_
                  refine lv_istore (lv' := [(5, .int 1), (4, .int (nI k12)), (3, .int (nI k4)), (2, .int x12_0), (0, .ref q0), (1, .int a1)]) hx hb dX8_closed_60 hl (by decide) rfl (fun ls hl => ?_)
                  refine lv_iload_n hx hb dX8_closed_62 rfl (lv_at hl 3 rfl) ?_
                  refine lv_iload hx hb dX8_closed_63 (lv_at hl 0 rfl) ?_
                  refine lv_if_eq (tgt := 84) hx hb dX8_closed_65 (by decide) (fun c_7 => absurd c_7 (by decide)) (fun _ => ?_)
                  refine lv_iconst (v := 1) hx hb dX8_closed_68 (by decide) ?_
                  refine lv_aload_n hx hb dX8_closed_69 rfl (lv_at hl 4 rfl) ?_
                  refine r_get (C := RX8) (T := TX8) (N := 31) (v := .ref y3) CF hE hP 0 rfl rfl inG8 7 (by decide) tw_3_122 rfl rfl dX8_closed_70 ?_
                  refine lv_iconst (v := 3) hx hb dX8_closed_73 (by decide) ?_
                  refine lv_iload hx hb dX8_closed_74 (lv_at hl 1 rfl) ?_
                  refine lv_imul hx hb dX8_closed_76 ?_
                  refine lv_iconst (v := 2) hx hb dX8_closed_77 (by decide) ?_
                  refine lv_iadd hx hb dX8_closed_78 ?_
                  refine r_iald (k := 12) (f := ur) CF hE hP 1 rfl ((3 * k12) + 2) (nf_add (nf_mul (nf_c 3) (rfl : nI k12 = nI k12)) (nf_c 2)) (by omega) (by decide) dX8_closed_79 ?_
                  refine lv_ishl hx hb dX8_closed_80 ?_
                  refine lv_goto (tgt := 85) hx hb dX8_closed_81 (by decide) ?_
                  refine lv_ior hx hb dX8_closed_85 ?_
                  refine lv_istore_n (lv' := [(2, .int (x12_0 ||| ((1 : Int32) <<< (((ur ((3 * k12) + 2)) : Int32) &&& 31)))), (5, .int 1), (4, .int (nI k12)), (3, .int (nI k4)), (0, .ref q0), (1, .int a1)]) hx hb dX8_closed_86 rfl hl (by decide) rfl (fun ls hl => ?_)
                  refine lv_iinc (v := (nI (k12 + 1))) (lv' := [(4, .int (nI (k12 + 1))), (2, .int (x12_0 ||| ((1 : Int32) <<< (((ur ((3 * k12) + 2)) : Int32) &&& 31)))), (5, .int 1), (3, .int (nI k4)), (0, .ref q0), (1, .int a1)]) hx hb dX8_closed_87 hl (k := 2) rfl (nf_inc 1 (rfl : nI k12 = nI k12)) (by decide) rfl (fun ls hl => ?_)
                  refine lv_goto (tgt := 12) hx hb dX8_closed_90 (by decide) ?_
                  have hB2 : B_X8_closed_12 ur x4_0 (k12 + 1) = (x12_0 ||| ((1 : Int32) <<< (((ur ((3 * k12) + 2)) : Int32) &&& 31))) := by
                    rw [B_X8_closed_12, hB_12]
                    rw [S_X8_closed_12, if_neg c_3, if_neg c_5]
                  exact ih_12 (k12 + 1) (x12_0 ||| ((1 : Int32) <<< (((ur ((3 * k12) + 2)) : Int32) &&& 31))) _ (by omega) (by omega) hB2 (lv_sub hl [0, 3, 1, 4, 5] rfl)
        have e_k : 0 = nI (0) := (nf_c 0).trans (congrArg nI (by omega))
        rw [e_k] at hl
        exact LOOP_12 (uR - 0 + 1) 0 x4_0 _ (Nat.zero_le _) (by omega) rfl (lv_sub hl [0, 1, 2, 3, 4] rfl)
  have e_k : 0 = nI (0) := (nf_c 0).trans (congrArg nI (by omega))
  rw [e_k] at hl
  exact LOOP_4 (4 - 0 + 1) 0 a1 _ (Nat.zero_le _) (by omega) rfl (lv_sub hl [0, 1, 2, 3] rfl)
def f_X8_farOf (uP : Nat) (tt : Nat → Int32) (n2 : Nat) (n3 : Nat) : Int32 :=
  (if 0 ≤ ((tt (5 + n2)) - (tt (5 + n3))) then (if ((nI uP) - ((tt (5 + n2)) - (tt (5 + n3)))) ≤ ((tt (5 + n2)) - (tt (5 + n3))) then ((nI uP) - ((tt (5 + n2)) - (tt (5 + n3)))) else ((tt (5 + n2)) - (tt (5 + n3)))) else (if ((nI uP) - (-((tt (5 + n2)) - (tt (5 + n3))))) ≤ (-((tt (5 + n2)) - (tt (5 + n3)))) then ((nI uP) - (-((tt (5 + n2)) - (tt (5 + n3))))) else (-((tt (5 + n2)) - (tt (5 + n3))))))
set_option maxRecDepth 100000 in
set_option maxHeartbeats 4000000 in
theorem c_X8_farOf (l : Launch) (D : va_G) (cI cZ : ClassId) (q0 y1 y2 y3 y4 y5 y6 y7 y8 y9 y10 y11 y12 y13 y14 qt : Nat) (th : Int32) (uT : Nat) (up : Nat) (uP : Nat) (uR : Nat) (vP : Nat) (vR : Nat) (ua : Nat) (us : Nat) (sd : Int64) (z1 : Int32) (z2 : Int32) (z3 : Int32) (z4 : Int32) (z5 : Int32) (z6 : Int32) (z7 : Int32) (tt : Nat → Int32) (a2 : Int32) (n2 : Nat) (a3 : Int32) (n3 : Nat) (h_a2 : a2 = nI n2) (h_a3 : a3 = nI n3) (hn25 : n2 < 5) (hn35 : n3 < 5) : RO l D cI cZ yX8_farOf cX8_farOf 5 (some .int) (mR 0 0) [.ref q0, .ref qt, .int a2, .int a3] [(q0, .inr (8, [.int th, .ref y1, .int (nI uT), .int (nI up), .int (nI uP), .ref y2, .int (nI uR), .ref y3, .int (nI vP), .ref y4, .ref y5, .int (nI vR), .ref y6, .ref y7, .ref y8, .ref y9, .int (nI ua), .ref y10, .ref y11, .int (nI us), .ref y12, .ref y13, .long sd, .int z1, .int z2, .int z3, .int z4, .int z5, .int z6, .int z7, .ref y14])), (qt, .inl (cI, 15, .inl tt))] (some (.int (f_X8_farOf uP tt n2 n3))) := by
  refine RO.of (by decide +kernel) (Nat.le_of_ble_eq_true rfl) ?_
  intro p e s m args below meth c ls Q CF hr hlk hP hE hQ hl
  have hx := CF.1
  have hb := CF.2.1
  have hl : lv_has ls 5 [(0, .ref q0), (1, .ref qt), (2, .int a2), (3, .int a3)] := hl
  refine lv_aload_n hx hb dX8_farOf_0 rfl (lv_at hl 1 rfl) ?_
  refine lv_iconst (v := 5) hx hb dX8_farOf_1 (by decide) ?_
  refine lv_iload_n hx hb dX8_farOf_2 rfl (lv_at hl 2 rfl) ?_
  refine lv_iadd hx hb dX8_farOf_3 ?_
  refine r_iald (k := 15) (f := tt) CF hE hP 1 rfl (5 + n2) (nf_add (nf_c 5) h_a2) (by omega) (by decide) dX8_farOf_4 ?_
  refine lv_aload_n hx hb dX8_farOf_5 rfl (lv_at hl 1 rfl) ?_
  refine lv_iconst (v := 5) hx hb dX8_farOf_6 (by decide) ?_
  refine lv_iload_n hx hb dX8_farOf_7 rfl (lv_at hl 3 rfl) ?_
  refine lv_iadd hx hb dX8_farOf_8 ?_
  refine r_iald (k := 15) (f := tt) CF hE hP 1 rfl (5 + n3) (nf_add (nf_c 5) h_a3) (by omega) (by decide) dX8_farOf_9 ?_
  refine lv_isub hx hb dX8_farOf_10 ?_
  refine lv_istore (lv' := [(4, .int ((tt (5 + n2)) - (tt (5 + n3)))), (0, .ref q0), (1, .ref qt), (2, .int a2), (3, .int a3)]) hx hb dX8_farOf_11 hl (by decide) rfl (fun ls hl => ?_)
  refine lv_iload hx hb dX8_farOf_13 (lv_at hl 0 rfl) ?_
  refine lv_if_ge (tgt := 24) hx hb dX8_farOf_15 (by decide) (fun c_1 => ?_) (fun c_1 => ?_)
  · refine lv_iload hx hb dX8_farOf_24 (lv_at hl 0 rfl) ?_
    refine lv_istore (lv' := [(4, .int ((tt (5 + n2)) - (tt (5 + n3)))), (0, .ref q0), (1, .ref qt), (2, .int a2), (3, .int a3)]) hx hb dX8_farOf_26 hl (by decide) rfl (fun ls hl => ?_)
    refine lv_iload hx hb dX8_farOf_28 (lv_at hl 0 rfl) ?_
    refine lv_aload_n hx hb dX8_farOf_30 rfl (lv_at hl 1 rfl) ?_
    refine r_get (C := RX8) (T := TX8) (N := 31) (v := .int (nI uP)) CF hE hP 0 rfl rfl inG8 4 (by decide) tw_3_119 rfl rfl dX8_farOf_31 ?_
    refine lv_iload hx hb dX8_farOf_34 (lv_at hl 0 rfl) ?_
    refine lv_isub hx hb dX8_farOf_36 ?_
    refine lv_icmp_ge (tgt := 45) hx hb dX8_farOf_37 (by decide) (fun c_2 => ?_) (fun c_2 => ?_)
    · refine lv_aload_n hx hb dX8_farOf_45 rfl (lv_at hl 1 rfl) ?_
      refine r_get (C := RX8) (T := TX8) (N := 31) (v := .int (nI uP)) CF hE hP 0 rfl rfl inG8 4 (by decide) tw_3_119 rfl rfl dX8_farOf_46 ?_
      refine lv_iload hx hb dX8_farOf_49 (lv_at hl 0 rfl) ?_
      refine lv_isub hx hb dX8_farOf_51 ?_
      exact ro_ret CF hQ hr hlk rfl dX8_farOf_52 (by rw [f_X8_farOf, if_pos c_1, if_pos c_2])
    · refine lv_iload hx hb dX8_farOf_40 (lv_at hl 0 rfl) ?_
      refine lv_goto (tgt := 52) hx hb dX8_farOf_42 (by decide) ?_
      exact ro_ret CF hQ hr hlk rfl dX8_farOf_52 (by rw [f_X8_farOf, if_pos c_1, if_neg c_2])
  · refine lv_iload hx hb dX8_farOf_18 (lv_at hl 0 rfl) ?_
    refine lv_ineg hx hb dX8_farOf_20 ?_
    refine lv_goto (tgt := 26) hx hb dX8_farOf_21 (by decide) ?_
    refine lv_istore (lv' := [(4, .int (-((tt (5 + n2)) - (tt (5 + n3))))), (0, .ref q0), (1, .ref qt), (2, .int a2), (3, .int a3)]) hx hb dX8_farOf_26 hl (by decide) rfl (fun ls hl => ?_)
    refine lv_iload hx hb dX8_farOf_28 (lv_at hl 0 rfl) ?_
    refine lv_aload_n hx hb dX8_farOf_30 rfl (lv_at hl 1 rfl) ?_
    refine r_get (C := RX8) (T := TX8) (N := 31) (v := .int (nI uP)) CF hE hP 0 rfl rfl inG8 4 (by decide) tw_3_119 rfl rfl dX8_farOf_31 ?_
    refine lv_iload hx hb dX8_farOf_34 (lv_at hl 0 rfl) ?_
    refine lv_isub hx hb dX8_farOf_36 ?_
    refine lv_icmp_ge (tgt := 45) hx hb dX8_farOf_37 (by decide) (fun c_3 => ?_) (fun c_3 => ?_)
    · refine lv_aload_n hx hb dX8_farOf_45 rfl (lv_at hl 1 rfl) ?_
      refine r_get (C := RX8) (T := TX8) (N := 31) (v := .int (nI uP)) CF hE hP 0 rfl rfl inG8 4 (by decide) tw_3_119 rfl rfl dX8_farOf_46 ?_
      refine lv_iload hx hb dX8_farOf_49 (lv_at hl 0 rfl) ?_
      refine lv_isub hx hb dX8_farOf_51 ?_
      exact ro_ret CF hQ hr hlk rfl dX8_farOf_52 (by rw [f_X8_farOf, if_neg c_1, if_pos c_3])
    · refine lv_iload hx hb dX8_farOf_40 (lv_at hl 0 rfl) ?_
      refine lv_goto (tgt := 52) hx hb dX8_farOf_42 (by decide) ?_
      exact ro_ret CF hQ hr hlk rfl dX8_farOf_52 (by rw [f_X8_farOf, if_neg c_1, if_neg c_3])
theorem lk_X8_108 : mLkV RX8 108 yX8_farOf cX8_farOf 5 (some .int) 3 := ⟨⟨tw_4_37, tw_1_10, tw_4_40, ⟨by decide +kernel, by decide +kernel, by decide +kernel⟩⟩, tw_4_39, tp_2_6⟩
def f_X8_hears (uP : Nat) (uk : Nat → Int32) (tt : Nat → Int32) (a2 : Int32) (n2 : Nat) (a3 : Int32) (n3 : Nat) (a4 : Int32) : Int32 :=
  (if (uk n2) = 1 then (if a2 = a3 then 0 else (if 1 < (f_X8_farOf uP tt n2 n3) then 0 else 1)) else (if a2 = a3 then 0 else (if a4 < (f_X8_farOf uP tt n2 n3) then 0 else 1)))
theorem z_f_X8_hears (uP : Nat) (uk : Nat → Int32) (tt : Nat → Int32) (a2 : Int32) (n2 : Nat) (a3 : Int32) (n3 : Nat) (a4 : Int32) : narrow .boolean (.int (f_X8_hears uP uk tt a2 n2 a3 n3 a4)) = .int (f_X8_hears uP uk tt a2 n2 a3 n3 a4) := by
  unfold f_X8_hears
  repeat' split
  all_goals first | rfl
set_option maxRecDepth 100000 in
set_option maxHeartbeats 4000000 in
theorem c_X8_hears (l : Launch) (D : va_G) (cI cZ : ClassId) (q0 y1 y2 y3 y4 y5 y6 y7 y8 y9 y10 y11 y12 y13 y14 qt : Nat) (th : Int32) (uT : Nat) (up : Nat) (uP : Nat) (uR : Nat) (vP : Nat) (vR : Nat) (ua : Nat) (us : Nat) (sd : Int64) (z1 : Int32) (z2 : Int32) (z3 : Int32) (z4 : Int32) (z5 : Int32) (z6 : Int32) (z7 : Int32) (uk : Nat → Int32) (tt : Nat → Int32) (a2 : Int32) (n2 : Nat) (a3 : Int32) (n3 : Nat) (a4 : Int32) (h_a2 : a2 = nI n2) (h_a3 : a3 = nI n3) (hn25 : n2 < 5) (hn35 : n3 < 5) : RO l D cI cZ yX8_hears cX8_hears 6 (some .boolean) (mR 1 24) [.ref q0, .ref qt, .int a2, .int a3, .int a4] [(q0, .inr (8, [.int th, .ref y1, .int (nI uT), .int (nI up), .int (nI uP), .ref y2, .int (nI uR), .ref y3, .int (nI vP), .ref y4, .ref y5, .int (nI vR), .ref y6, .ref y7, .ref y8, .ref y9, .int (nI ua), .ref y10, .ref y11, .int (nI us), .ref y12, .ref y13, .long sd, .int z1, .int z2, .int z3, .int z4, .int z5, .int z6, .int z7, .ref y14])), (y2, .inl (cI, 5, .inl uk)), (qt, .inl (cI, 15, .inl tt))] (some (.int (f_X8_hears uP uk tt a2 n2 a3 n3 a4))) := by
  refine RO.of (by decide +kernel) (Nat.le_of_ble_eq_true rfl) ?_
  intro p e s m args below meth c ls Q CF hr hlk hP hE hQ hl
  have hx := CF.1
  have hb := CF.2.1
  have hl : lv_has ls 6 [(0, .ref q0), (1, .ref qt), (2, .int a2), (3, .int a3), (4, .int a4)] := hl
  refine lv_aload_n hx hb dX8_hears_0 rfl (lv_at hl 0 rfl) ?_
  refine r_get (C := RX8) (T := TX8) (N := 31) (v := .ref y2) CF hE hP 0 rfl rfl inG8 5 (by decide) tw_3_120 rfl rfl dX8_hears_1 ?_
  refine lv_iload_n hx hb dX8_hears_4 rfl (lv_at hl 2 rfl) ?_
  refine r_iald (k := 5) (f := uk) CF hE hP 1 rfl n2 h_a2 (by omega) (by decide) dX8_hears_5 ?_
  refine lv_iconst (v := 1) hx hb dX8_hears_6 (by decide) ?_
  refine lv_icmp_ne (tgt := 14) hx hb dX8_hears_7 (by decide) (fun c_1 => ?_) (fun c_1 => ?_)
  · refine lv_iload hx hb dX8_hears_14 (lv_at hl 4 rfl) ?_
    refine lv_istore (lv' := [(5, .int a4), (0, .ref q0), (1, .ref qt), (2, .int a2), (3, .int a3), (4, .int a4)]) hx hb dX8_hears_16 hl (by decide) rfl (fun ls hl => ?_)
    refine lv_iload_n hx hb dX8_hears_18 rfl (lv_at hl 3 rfl) ?_
    refine lv_iload_n hx hb dX8_hears_19 rfl (lv_at hl 4 rfl) ?_
    refine lv_icmp_eq (tgt := 39) hx hb dX8_hears_20 (by decide) (fun c_2 => ?_) (fun c_2 => ?_)
    · refine lv_iconst (v := 0) hx hb dX8_hears_39 (by decide) ?_
      exact ro_ret CF hQ hr hlk rfl dX8_hears_40 (by rw [f_X8_hears, if_neg c_1, if_pos c_2])
    · refine lv_aload_n hx hb dX8_hears_23 rfl (lv_at hl 1 rfl) ?_
      refine lv_aload_n hx hb dX8_hears_24 rfl (lv_at hl 2 rfl) ?_
      refine lv_iload_n hx hb dX8_hears_25 rfl (lv_at hl 3 rfl) ?_
      refine lv_iload_n hx hb dX8_hears_26 rfl (lv_at hl 4 rfl) ?_
      refine ro_V (y := yX8_farOf) (As := [.ref qt, .int a2, .int a3]) (rest := []) (q0 := 0) CF (c_X8_farOf l D cI cZ q0 y1 y2 y3 y4 y5 y6 y7 y8 y9 y10 y11 y12 y13 y14 qt th uT up uP uR vP vR ua us sd z1 z2 z3 z4 z5 z6 z7 tt a2 n2 a3 n3 h_a2 h_a3 (by omega) (by omega)) lk_X8_108 hP hE [0, 2] rfl rfl rfl rfl hl.1 rfl (Nat.le_of_ble_eq_true rfl) ⟨Nat.le_of_ble_eq_true rfl, Nat.le_of_ble_eq_true rfl, rfl, rfl⟩ ⟨Nat.zero_le _, Nat.zero_le _⟩ dX8_hears_27 ?_
      refine lv_iload hx hb dX8_hears_30 (lv_at hl 0 rfl) ?_
      refine lv_icmp_gt (tgt := 39) hx hb dX8_hears_32 (by decide) (fun c_3 => ?_) (fun c_3 => ?_)
      · refine lv_iconst (v := 0) hx hb dX8_hears_39 (by decide) ?_
        exact ro_ret CF hQ hr hlk rfl dX8_hears_40 (by rw [f_X8_hears, if_neg c_1, if_neg c_2, if_pos c_3])
      · refine lv_iconst (v := 1) hx hb dX8_hears_35 (by decide) ?_
        refine lv_goto (tgt := 40) hx hb dX8_hears_36 (by decide) ?_
        exact ro_ret CF hQ hr hlk rfl dX8_hears_40 (by rw [f_X8_hears, if_neg c_1, if_neg c_2, if_neg c_3])
  · refine lv_iconst (v := 1) hx hb dX8_hears_10 (by decide) ?_
    refine lv_goto (tgt := 16) hx hb dX8_hears_11 (by decide) ?_
    refine lv_istore (lv' := [(5, .int 1), (0, .ref q0), (1, .ref qt), (2, .int a2), (3, .int a3), (4, .int a4)]) hx hb dX8_hears_16 hl (by decide) rfl (fun ls hl => ?_)
    refine lv_iload_n hx hb dX8_hears_18 rfl (lv_at hl 3 rfl) ?_
    refine lv_iload_n hx hb dX8_hears_19 rfl (lv_at hl 4 rfl) ?_
    refine lv_icmp_eq (tgt := 39) hx hb dX8_hears_20 (by decide) (fun c_4 => ?_) (fun c_4 => ?_)
    · refine lv_iconst (v := 0) hx hb dX8_hears_39 (by decide) ?_
      exact ro_ret CF hQ hr hlk rfl dX8_hears_40 (by rw [f_X8_hears, if_pos c_1, if_pos c_4])
    · refine lv_aload_n hx hb dX8_hears_23 rfl (lv_at hl 1 rfl) ?_
      refine lv_aload_n hx hb dX8_hears_24 rfl (lv_at hl 2 rfl) ?_
      refine lv_iload_n hx hb dX8_hears_25 rfl (lv_at hl 3 rfl) ?_
      refine lv_iload_n hx hb dX8_hears_26 rfl (lv_at hl 4 rfl) ?_
      refine ro_V (y := yX8_farOf) (As := [.ref qt, .int a2, .int a3]) (rest := []) (q0 := 0) CF (c_X8_farOf l D cI cZ q0 y1 y2 y3 y4 y5 y6 y7 y8 y9 y10 y11 y12 y13 y14 qt th uT up uP uR vP vR ua us sd z1 z2 z3 z4 z5 z6 z7 tt a2 n2 a3 n3 h_a2 h_a3 (by omega) (by omega)) lk_X8_108 hP hE [0, 2] rfl rfl rfl rfl hl.1 rfl (Nat.le_of_ble_eq_true rfl) ⟨Nat.le_of_ble_eq_true rfl, Nat.le_of_ble_eq_true rfl, rfl, rfl⟩ ⟨Nat.zero_le _, Nat.zero_le _⟩ dX8_hears_27 ?_
      refine lv_iload hx hb dX8_hears_30 (lv_at hl 0 rfl) ?_
      refine lv_icmp_gt (tgt := 39) hx hb dX8_hears_32 (by decide) (fun c_5 => ?_) (fun c_5 => ?_)
      · refine lv_iconst (v := 0) hx hb dX8_hears_39 (by decide) ?_
        exact ro_ret CF hQ hr hlk rfl dX8_hears_40 (by rw [f_X8_hears, if_pos c_1, if_neg c_4, if_pos c_5])
      · refine lv_iconst (v := 1) hx hb dX8_hears_35 (by decide) ?_
        refine lv_goto (tgt := 40) hx hb dX8_hears_36 (by decide) ?_
        exact ro_ret CF hQ hr hlk rfl dX8_hears_40 (by rw [f_X8_hears, if_pos c_1, if_neg c_4, if_neg c_5])
theorem lk_X8_112 : mLkV RX8 112 yX8_hears cX8_hears 6 (some .boolean) 4 := ⟨⟨tw_4_62, tw_1_10, tw_4_65, ⟨by decide +kernel, by decide +kernel, by decide +kernel⟩⟩, tw_4_64, tp_2_10⟩
def S_X8_hearersOf_6 (uP : Nat) (uk : Nat → Int32) (tt : Nat → Int32) (a2 : Int32) (n2 : Nat) (a3 : Int32) (k6 : Nat) (x6_0 : Int32) : (Int32) :=
  (if (f_X8_hears uP uk tt (nI k6) k6 a2 n2 a3) = 0 then (x6_0 ||| 0) else (x6_0 ||| ((1 : Int32) <<< (((nI k6) : Int32) &&& 31))))
def B_X8_hearersOf_6 (uP : Nat) (uk : Nat → Int32) (tt : Nat → Int32) (a2 : Int32) (n2 : Nat) (a3 : Int32) (i0 : Int32) : Nat → (Int32)
  | 0 => i0
  | k + 1 => S_X8_hearersOf_6 uP uk tt a2 n2 a3 k (B_X8_hearersOf_6 uP uk tt a2 n2 a3 i0 k)
set_option maxRecDepth 100000 in
set_option maxHeartbeats 4000000 in
theorem c_X8_hearersOf (l : Launch) (D : va_G) (cI cZ : ClassId) (q0 y1 y2 y3 y4 y5 y6 y7 y8 y9 y10 y11 y12 y13 y14 qt : Nat) (th : Int32) (uT : Nat) (up : Nat) (uP : Nat) (uR : Nat) (vP : Nat) (vR : Nat) (ua : Nat) (us : Nat) (sd : Int64) (z1 : Int32) (z2 : Int32) (z3 : Int32) (z4 : Int32) (z5 : Int32) (z6 : Int32) (z7 : Int32) (uk : Nat → Int32) (tt : Nat → Int32) (a2 : Int32) (n2 : Nat) (a3 : Int32) (h_a2 : a2 = nI n2) (hu5 : uP ≤ 5) (hn25 : n2 < 5) : RO l D cI cZ yX8_hearersOf cX8_hearersOf 6 (some .int) (mR 2 49) [.ref q0, .ref qt, .int a2, .int a3] [(q0, .inr (8, [.int th, .ref y1, .int (nI uT), .int (nI up), .int (nI uP), .ref y2, .int (nI uR), .ref y3, .int (nI vP), .ref y4, .ref y5, .int (nI vR), .ref y6, .ref y7, .ref y8, .ref y9, .int (nI ua), .ref y10, .ref y11, .int (nI us), .ref y12, .ref y13, .long sd, .int z1, .int z2, .int z3, .int z4, .int z5, .int z6, .int z7, .ref y14])), (y2, .inl (cI, 5, .inl uk)), (qt, .inl (cI, 15, .inl tt))] (some (.int ((B_X8_hearersOf_6 uP uk tt a2 n2 a3 0 uP)))) := by
  refine RO.of (by decide +kernel) (Nat.le_of_ble_eq_true rfl) ?_
  intro p e s m args below meth c ls Q CF hr hlk hP hE hQ hl
  have hx := CF.1
  have hb := CF.2.1
  have hl : lv_has ls 6 [(0, .ref q0), (1, .ref qt), (2, .int a2), (3, .int a3)] := hl
  refine lv_iconst (v := 0) hx hb dX8_hearersOf_0 (by decide) ?_
  refine lv_istore (lv' := [(4, .int 0), (0, .ref q0), (1, .ref qt), (2, .int a2), (3, .int a3)]) hx hb dX8_hearersOf_1 hl (by decide) rfl (fun ls hl => ?_)
  refine lv_iconst (v := 0) hx hb dX8_hearersOf_3 (by decide) ?_
  refine lv_istore (lv' := [(5, .int 0), (4, .int 0), (0, .ref q0), (1, .ref qt), (2, .int a2), (3, .int a3)]) hx hb dX8_hearersOf_4 hl (by decide) rfl (fun ls hl => ?_)
  have LOOP_6 : ∀ (n_6 k6 : Nat) (x6_0 : Int32) (ls : Array Slot), k6 ≤ uP → uP - k6 < n_6 → (B_X8_hearersOf_6 uP uk tt a2 n2 a3 0 k6) = x6_0 → lv_has ls 6 [(5, .int (nI k6)), (4, .int x6_0), (0, .ref q0), (1, .ref qt), (2, .int a2), (3, .int a3)] → W p l e (mR 2 49) s m args below meth c s.heap [] 0 0 Q (F0 m 6 ls []) := by
    intro n_6
    induction n_6 with
    | zero => intro k6 x6_0 ls hk_6 hn_6 hB_6 hl; exact absurd hn_6 (Nat.not_lt_zero _)
    | succ n_6 ih_6 =>
      intro k6 x6_0 ls hk_6 hn_6 hB_6 hl
      refine lv_iload hx hb dX8_hearersOf_6 (lv_at hl 0 rfl) ?_
      refine lv_aload_n hx hb dX8_hearersOf_8 rfl (lv_at hl 2 rfl) ?_
      refine r_get (C := RX8) (T := TX8) (N := 31) (v := .int (nI uP)) CF hE hP 0 rfl rfl inG8 4 (by decide) tw_3_119 rfl rfl dX8_hearersOf_9 ?_
      refine lv_icmp_ge (tgt := 46) hx hb dX8_hearersOf_12 (by decide) (fun c_1 => ?_) (fun c_1 => ?_)
      · have o_1 : uP ≤ k6 := (cle (rfl : nI uP = nI uP) (rfl : nI k6 = nI k6) (by omega) (by omega)).mp c_1
        have hkN : uP = k6 := by omega
        subst hkN
        subst hB_6
        refine lv_iload hx hb dX8_hearersOf_46 (lv_at hl 1 rfl) ?_
        exact ro_ret CF hQ hr hlk rfl dX8_hearersOf_48 rfl
      · have o_1 : ¬ uP ≤ k6 := fun h => c_1 ((cle (rfl : nI uP = nI uP) (rfl : nI k6 = nI k6) (by omega) (by omega)).mpr h)
        refine lv_iload hx hb dX8_hearersOf_15 (lv_at hl 1 rfl) ?_
        refine lv_aload_n hx hb dX8_hearersOf_17 rfl (lv_at hl 2 rfl) ?_
        refine lv_aload_n hx hb dX8_hearersOf_18 rfl (lv_at hl 3 rfl) ?_
        refine lv_iload hx hb dX8_hearersOf_19 (lv_at hl 0 rfl) ?_
        refine lv_iload_n hx hb dX8_hearersOf_21 rfl (lv_at hl 4 rfl) ?_
        refine lv_iload_n hx hb dX8_hearersOf_22 rfl (lv_at hl 5 rfl) ?_
        refine ro_V (y := yX8_hears) (As := [.ref qt, .int (nI k6), .int a2, .int a3]) (rest := [.int x6_0]) (q0 := 0) CF (c_X8_hears l D cI cZ q0 y1 y2 y3 y4 y5 y6 y7 y8 y9 y10 y11 y12 y13 y14 qt th uT up uP uR vP vR ua us sd z1 z2 z3 z4 z5 z6 z7 uk tt (nI k6) k6 a2 n2 a3 (rfl : nI k6 = nI k6) h_a2 (by omega) (by omega)) lk_X8_112 hP hE [0, 1, 2] rfl rfl rfl rfl hl.1 rfl (Nat.le_of_ble_eq_true rfl) ⟨Nat.le_of_ble_eq_true rfl, Nat.le_of_ble_eq_true rfl, rfl, rfl⟩ ⟨Nat.zero_le _, Nat.zero_le _⟩ dX8_hearersOf_23 ?_
        refine lv_if_eq (tgt := 36) hx hb dX8_hearersOf_26 (by decide) (fun c_2 => ?_) (fun c_2 => ?_)
        · refine lv_iconst (v := 0) hx hb dX8_hearersOf_36 (by decide) ?_
          refine lv_ior hx hb dX8_hearersOf_37 ?_
          refine lv_istore (lv' := [(4, .int (x6_0 ||| 0)), (5, .int (nI k6)), (0, .ref q0), (1, .ref qt), (2, .int a2), (3, .int a3)]) hx hb dX8_hearersOf_38 hl (by decide) rfl (fun ls hl => ?_)
          refine lv_iinc (v := (nI (k6 + 1))) (lv' := [(5, .int (nI (k6 + 1))), (4, .int (x6_0 ||| 0)), (0, .ref q0), (1, .ref qt), (2, .int a2), (3, .int a3)]) hx hb dX8_hearersOf_40 hl (k := 1) rfl (nf_inc 1 (rfl : nI k6 = nI k6)) (by decide) rfl (fun ls hl => ?_)
          refine lv_goto (tgt := 6) hx hb dX8_hearersOf_43 (by decide) ?_
          have hB2 : B_X8_hearersOf_6 uP uk tt a2 n2 a3 0 (k6 + 1) = (x6_0 ||| 0) := by
            rw [B_X8_hearersOf_6, hB_6]
            rw [S_X8_hearersOf_6, if_pos c_2]
          exact ih_6 (k6 + 1) (x6_0 ||| 0) _ (by omega) (by omega) hB2 (lv_sub hl [0, 1, 2, 3, 4, 5] rfl)
        · refine lv_iconst (v := 1) hx hb dX8_hearersOf_29 (by decide) ?_
          refine lv_iload hx hb dX8_hearersOf_30 (lv_at hl 0 rfl) ?_
          refine lv_ishl hx hb dX8_hearersOf_32 ?_
          refine lv_goto (tgt := 37) hx hb dX8_hearersOf_33 (by decide) ?_
          refine lv_ior hx hb dX8_hearersOf_37 ?_
          refine lv_istore (lv' := [(4, .int (x6_0 ||| ((1 : Int32) <<< (((nI k6) : Int32) &&& 31)))), (5, .int (nI k6)), (0, .ref q0), (1, .ref qt), (2, .int a2), (3, .int a3)]) hx hb dX8_hearersOf_38 hl (by decide) rfl (fun ls hl => ?_)
          refine lv_iinc (v := (nI (k6 + 1))) (lv' := [(5, .int (nI (k6 + 1))), (4, .int (x6_0 ||| ((1 : Int32) <<< (((nI k6) : Int32) &&& 31)))), (0, .ref q0), (1, .ref qt), (2, .int a2), (3, .int a3)]) hx hb dX8_hearersOf_40 hl (k := 1) rfl (nf_inc 1 (rfl : nI k6 = nI k6)) (by decide) rfl (fun ls hl => ?_)
          refine lv_goto (tgt := 6) hx hb dX8_hearersOf_43 (by decide) ?_
          have hB2 : B_X8_hearersOf_6 uP uk tt a2 n2 a3 0 (k6 + 1) = (x6_0 ||| ((1 : Int32) <<< (((nI k6) : Int32) &&& 31))) := by
            rw [B_X8_hearersOf_6, hB_6]
            rw [S_X8_hearersOf_6, if_neg c_2]
          exact ih_6 (k6 + 1) (x6_0 ||| ((1 : Int32) <<< (((nI k6) : Int32) &&& 31))) _ (by omega) (by omega) hB2 (lv_sub hl [0, 1, 2, 3, 4, 5] rfl)
  have e_k : 0 = nI (0) := (nf_c 0).trans (congrArg nI (by omega))
  rw [e_k] at hl
  exact LOOP_6 (uP - 0 + 1) 0 0 _ (Nat.zero_le _) (by omega) rfl (lv_sub hl [0, 1, 2, 3, 4, 5] rfl)
theorem lk_X8_116 : mLkV RX8 116 yX8_closed cX8_closed 6 (some .int) 1 := ⟨⟨tw_4_14, tw_1_10, tw_4_17, ⟨by decide +kernel, by decide +kernel, by decide +kernel⟩⟩, tw_4_16, tp_2_3⟩
def S_X8_knowersOf_6 (uP : Nat) (uR : Nat) (uk : Nat → Int32) (ur : Nat → Int32) (tt : Nat → Int32) (a2 : Int32) (n2 : Nat) (a3 : Int32) (a4 : Int32) (k6 : Nat) (x6_0 : Int32) : (Int32) :=
  (if (f_X8_hears uP uk tt (nI k6) k6 a2 n2 a4) = 0 then (x6_0 ||| 0) else (if (f_X8_has ((B_X8_closed_4 uR ur (tt (0 + k6)) 4)) a3) = 0 then (x6_0 ||| 0) else (x6_0 ||| ((1 : Int32) <<< (((nI k6) : Int32) &&& 31)))))
def B_X8_knowersOf_6 (uP : Nat) (uR : Nat) (uk : Nat → Int32) (ur : Nat → Int32) (tt : Nat → Int32) (a2 : Int32) (n2 : Nat) (a3 : Int32) (a4 : Int32) (i0 : Int32) : Nat → (Int32)
  | 0 => i0
  | k + 1 => S_X8_knowersOf_6 uP uR uk ur tt a2 n2 a3 a4 k (B_X8_knowersOf_6 uP uR uk ur tt a2 n2 a3 a4 i0 k)
set_option maxRecDepth 100000 in
set_option maxHeartbeats 4000000 in
theorem c_X8_knowersOf (l : Launch) (D : va_G) (cI cZ : ClassId) (q0 y1 y2 y3 y4 y5 y6 y7 y8 y9 y10 y11 y12 y13 y14 qt : Nat) (th : Int32) (uT : Nat) (up : Nat) (uP : Nat) (uR : Nat) (vP : Nat) (vR : Nat) (ua : Nat) (us : Nat) (sd : Int64) (z1 : Int32) (z2 : Int32) (z3 : Int32) (z4 : Int32) (z5 : Int32) (z6 : Int32) (z7 : Int32) (uk : Nat → Int32) (ur : Nat → Int32) (tt : Nat → Int32) (a2 : Int32) (n2 : Nat) (a3 : Int32) (a4 : Int32) (h_a2 : a2 = nI n2) (hu5 : uP ≤ 5) (hur : uR ≤ 4) (hn25 : n2 < 5) : RO l D cI cZ yX8_knowersOf cX8_knowersOf 7 (some .int) (mR 2 49) [.ref q0, .ref qt, .int a2, .int a3, .int a4] [(q0, .inr (8, [.int th, .ref y1, .int (nI uT), .int (nI up), .int (nI uP), .ref y2, .int (nI uR), .ref y3, .int (nI vP), .ref y4, .ref y5, .int (nI vR), .ref y6, .ref y7, .ref y8, .ref y9, .int (nI ua), .ref y10, .ref y11, .int (nI us), .ref y12, .ref y13, .long sd, .int z1, .int z2, .int z3, .int z4, .int z5, .int z6, .int z7, .ref y14])), (y2, .inl (cI, 5, .inl uk)), (y3, .inl (cI, 12, .inl ur)), (qt, .inl (cI, 15, .inl tt))] (some (.int ((B_X8_knowersOf_6 uP uR uk ur tt a2 n2 a3 a4 0 uP)))) := by
  refine RO.of (by decide +kernel) (Nat.le_of_ble_eq_true rfl) ?_
  intro p e s m args below meth c ls Q CF hr hlk hP hE hQ hl
  have hx := CF.1
  have hb := CF.2.1
  have hl : lv_has ls 7 [(0, .ref q0), (1, .ref qt), (2, .int a2), (3, .int a3), (4, .int a4)] := hl
  refine lv_iconst (v := 0) hx hb dX8_knowersOf_0 (by decide) ?_
  refine lv_istore (lv' := [(5, .int 0), (0, .ref q0), (1, .ref qt), (2, .int a2), (3, .int a3), (4, .int a4)]) hx hb dX8_knowersOf_1 hl (by decide) rfl (fun ls hl => ?_)
  refine lv_iconst (v := 0) hx hb dX8_knowersOf_3 (by decide) ?_
  refine lv_istore (lv' := [(6, .int 0), (5, .int 0), (0, .ref q0), (1, .ref qt), (2, .int a2), (3, .int a3), (4, .int a4)]) hx hb dX8_knowersOf_4 hl (by decide) rfl (fun ls hl => ?_)
  have LOOP_6 : ∀ (n_6 k6 : Nat) (x6_0 : Int32) (ls : Array Slot), k6 ≤ uP → uP - k6 < n_6 → (B_X8_knowersOf_6 uP uR uk ur tt a2 n2 a3 a4 0 k6) = x6_0 → lv_has ls 7 [(6, .int (nI k6)), (5, .int x6_0), (0, .ref q0), (1, .ref qt), (2, .int a2), (3, .int a3), (4, .int a4)] → W p l e (mR 2 49) s m args below meth c s.heap [] 0 0 Q (F0 m 6 ls []) := by
    intro n_6
    induction n_6 with
    | zero => intro k6 x6_0 ls hk_6 hn_6 hB_6 hl; exact absurd hn_6 (Nat.not_lt_zero _)
    | succ n_6 ih_6 =>
      intro k6 x6_0 ls hk_6 hn_6 hB_6 hl
      refine lv_iload hx hb dX8_knowersOf_6 (lv_at hl 0 rfl) ?_
      refine lv_aload_n hx hb dX8_knowersOf_8 rfl (lv_at hl 2 rfl) ?_
      refine r_get (C := RX8) (T := TX8) (N := 31) (v := .int (nI uP)) CF hE hP 0 rfl rfl inG8 4 (by decide) tw_3_119 rfl rfl dX8_knowersOf_9 ?_
      refine lv_icmp_ge (tgt := 64) hx hb dX8_knowersOf_12 (by decide) (fun c_1 => ?_) (fun c_1 => ?_)
      · have o_1 : uP ≤ k6 := (cle (rfl : nI uP = nI uP) (rfl : nI k6 = nI k6) (by omega) (by omega)).mp c_1
        have hkN : uP = k6 := by omega
        subst hkN
        subst hB_6
        refine lv_iload hx hb dX8_knowersOf_64 (lv_at hl 1 rfl) ?_
        exact ro_ret CF hQ hr hlk rfl dX8_knowersOf_66 rfl
      · have o_1 : ¬ uP ≤ k6 := fun h => c_1 ((cle (rfl : nI uP = nI uP) (rfl : nI k6 = nI k6) (by omega) (by omega)).mpr h)
        refine lv_iload hx hb dX8_knowersOf_15 (lv_at hl 1 rfl) ?_
        refine lv_aload_n hx hb dX8_knowersOf_17 rfl (lv_at hl 2 rfl) ?_
        refine lv_aload_n hx hb dX8_knowersOf_18 rfl (lv_at hl 3 rfl) ?_
        refine lv_iload hx hb dX8_knowersOf_19 (lv_at hl 0 rfl) ?_
        refine lv_iload_n hx hb dX8_knowersOf_21 rfl (lv_at hl 4 rfl) ?_
        refine lv_iload hx hb dX8_knowersOf_22 (lv_at hl 6 rfl) ?_
        refine ro_V (y := yX8_hears) (As := [.ref qt, .int (nI k6), .int a2, .int a4]) (rest := [.int x6_0]) (q0 := 0) CF (c_X8_hears l D cI cZ q0 y1 y2 y3 y4 y5 y6 y7 y8 y9 y10 y11 y12 y13 y14 qt th uT up uP uR vP vR ua us sd z1 z2 z3 z4 z5 z6 z7 uk tt (nI k6) k6 a2 n2 a4 (rfl : nI k6 = nI k6) h_a2 (by omega) (by omega)) lk_X8_112 hP hE [0, 1, 3] rfl rfl rfl rfl hl.1 rfl (Nat.le_of_ble_eq_true rfl) ⟨Nat.le_of_ble_eq_true rfl, Nat.le_of_ble_eq_true rfl, rfl, rfl⟩ ⟨Nat.zero_le _, Nat.zero_le _⟩ dX8_knowersOf_24 ?_
        refine lv_if_eq (tgt := 54) hx hb dX8_knowersOf_27 (by decide) (fun c_2 => ?_) (fun c_2 => ?_)
        · refine lv_iconst (v := 0) hx hb dX8_knowersOf_54 (by decide) ?_
          refine lv_ior hx hb dX8_knowersOf_55 ?_
          refine lv_istore (lv' := [(5, .int (x6_0 ||| 0)), (6, .int (nI k6)), (0, .ref q0), (1, .ref qt), (2, .int a2), (3, .int a3), (4, .int a4)]) hx hb dX8_knowersOf_56 hl (by decide) rfl (fun ls hl => ?_)
          refine lv_iinc (v := (nI (k6 + 1))) (lv' := [(6, .int (nI (k6 + 1))), (5, .int (x6_0 ||| 0)), (0, .ref q0), (1, .ref qt), (2, .int a2), (3, .int a3), (4, .int a4)]) hx hb dX8_knowersOf_58 hl (k := 1) rfl (nf_inc 1 (rfl : nI k6 = nI k6)) (by decide) rfl (fun ls hl => ?_)
          refine lv_goto (tgt := 6) hx hb dX8_knowersOf_61 (by decide) ?_
          have hB2 : B_X8_knowersOf_6 uP uR uk ur tt a2 n2 a3 a4 0 (k6 + 1) = (x6_0 ||| 0) := by
            rw [B_X8_knowersOf_6, hB_6]
            rw [S_X8_knowersOf_6, if_pos c_2]
          exact ih_6 (k6 + 1) (x6_0 ||| 0) _ (by omega) (by omega) hB2 (lv_sub hl [0, 1, 2, 3, 4, 5, 6] rfl)
        · refine lv_aload_n hx hb dX8_knowersOf_30 rfl (lv_at hl 2 rfl) ?_
          refine lv_aload_n hx hb dX8_knowersOf_31 rfl (lv_at hl 3 rfl) ?_
          refine lv_iconst (v := 0) hx hb dX8_knowersOf_32 (by decide) ?_
          refine lv_iload hx hb dX8_knowersOf_33 (lv_at hl 0 rfl) ?_
          refine lv_iadd hx hb dX8_knowersOf_35 ?_
          refine r_iald (k := 15) (f := tt) CF hE hP 3 rfl (0 + k6) (nf_add (nf_c 0) (rfl : nI k6 = nI k6)) (by omega) (by decide) dX8_knowersOf_36 ?_
          refine ro_V (y := yX8_closed) (As := [.int (tt (0 + k6))]) (rest := [.int x6_0]) (q0 := 0) CF (c_X8_closed l D cI cZ q0 y1 y2 y3 y4 y5 y6 y7 y8 y9 y10 y11 y12 y13 y14 th uT up uP uR vP vR ua us sd z1 z2 z3 z4 z5 z6 z7 ur (tt (0 + k6)) (by omega)) lk_X8_116 hP hE [0, 2] rfl rfl rfl rfl hl.1 rfl (Nat.le_of_ble_eq_true rfl) ⟨Nat.le_of_ble_eq_true rfl, Nat.le_of_ble_eq_true rfl, rfl, rfl⟩ ⟨Nat.zero_le _, Nat.zero_le _⟩ dX8_knowersOf_37 ?_
          refine lv_iload_n hx hb dX8_knowersOf_40 rfl (lv_at hl 5 rfl) ?_
          refine ro_S (y := yX8_has) (As := [.int ((B_X8_closed_4 uR ur (tt (0 + k6)) 4)), .int a3]) (rest := [.int x6_0]) CF (c_X8_has l D cI cZ ((B_X8_closed_4 uR ur (tt (0 + k6)) 4)) a3) lk_X8_104 hE rfl hl.1 rfl (Nat.le_of_ble_eq_true rfl) ⟨Nat.le_of_ble_eq_true rfl, Nat.le_of_ble_eq_true rfl, rfl, rfl⟩ ⟨Nat.zero_le _, Nat.zero_le _⟩ dX8_knowersOf_41 ?_
          refine lv_if_eq (tgt := 54) hx hb dX8_knowersOf_44 (by decide) (fun c_3 => ?_) (fun c_3 => ?_)
          · refine lv_iconst (v := 0) hx hb dX8_knowersOf_54 (by decide) ?_
            refine lv_ior hx hb dX8_knowersOf_55 ?_
            refine lv_istore (lv' := [(5, .int (x6_0 ||| 0)), (6, .int (nI k6)), (0, .ref q0), (1, .ref qt), (2, .int a2), (3, .int a3), (4, .int a4)]) hx hb dX8_knowersOf_56 hl (by decide) rfl (fun ls hl => ?_)
            refine lv_iinc (v := (nI (k6 + 1))) (lv' := [(6, .int (nI (k6 + 1))), (5, .int (x6_0 ||| 0)), (0, .ref q0), (1, .ref qt), (2, .int a2), (3, .int a3), (4, .int a4)]) hx hb dX8_knowersOf_58 hl (k := 1) rfl (nf_inc 1 (rfl : nI k6 = nI k6)) (by decide) rfl (fun ls hl => ?_)
            refine lv_goto (tgt := 6) hx hb dX8_knowersOf_61 (by decide) ?_
            have hB2 : B_X8_knowersOf_6 uP uR uk ur tt a2 n2 a3 a4 0 (k6 + 1) = (x6_0 ||| 0) := by
              rw [B_X8_knowersOf_6, hB_6]
              rw [S_X8_knowersOf_6, if_neg c_2, if_pos c_3]
            exact ih_6 (k6 + 1) (x6_0 ||| 0) _ (by omega) (by omega) hB2 (lv_sub hl [0, 1, 2, 3, 4, 5, 6] rfl)
          · refine lv_iconst (v := 1) hx hb dX8_knowersOf_47 (by decide) ?_
            refine lv_iload hx hb dX8_knowersOf_48 (lv_at hl 0 rfl) ?_
            refine lv_ishl hx hb dX8_knowersOf_50 ?_
            refine lv_goto (tgt := 55) hx hb dX8_knowersOf_51 (by decide) ?_
            refine lv_ior hx hb dX8_knowersOf_55 ?_
            refine lv_istore (lv' := [(5, .int (x6_0 ||| ((1 : Int32) <<< (((nI k6) : Int32) &&& 31)))), (6, .int (nI k6)), (0, .ref q0), (1, .ref qt), (2, .int a2), (3, .int a3), (4, .int a4)]) hx hb dX8_knowersOf_56 hl (by decide) rfl (fun ls hl => ?_)
            refine lv_iinc (v := (nI (k6 + 1))) (lv' := [(6, .int (nI (k6 + 1))), (5, .int (x6_0 ||| ((1 : Int32) <<< (((nI k6) : Int32) &&& 31)))), (0, .ref q0), (1, .ref qt), (2, .int a2), (3, .int a3), (4, .int a4)]) hx hb dX8_knowersOf_58 hl (k := 1) rfl (nf_inc 1 (rfl : nI k6 = nI k6)) (by decide) rfl (fun ls hl => ?_)
            refine lv_goto (tgt := 6) hx hb dX8_knowersOf_61 (by decide) ?_
            have hB2 : B_X8_knowersOf_6 uP uR uk ur tt a2 n2 a3 a4 0 (k6 + 1) = (x6_0 ||| ((1 : Int32) <<< (((nI k6) : Int32) &&& 31))) := by
              rw [B_X8_knowersOf_6, hB_6]
              rw [S_X8_knowersOf_6, if_neg c_2, if_neg c_3]
            exact ih_6 (k6 + 1) (x6_0 ||| ((1 : Int32) <<< (((nI k6) : Int32) &&& 31))) _ (by omega) (by omega) hB2 (lv_sub hl [0, 1, 2, 3, 4, 5, 6] rfl)
  have e_k : 0 = nI (0) := (nf_c 0).trans (congrArg nI (by omega))
  rw [e_k] at hl
  exact LOOP_6 (uP - 0 + 1) 0 0 _ (Nat.zero_le _) (by omega) rfl (lv_sub hl [0, 1, 2, 3, 4, 5, 6] rfl)
def S_X8_finesOf_4 (tt : Nat → Int32) (k4 : Nat) (x4_0 : Int32) : (Int32) :=
  (x4_0 + (tt (10 + k4)))
def B_X8_finesOf_4 (tt : Nat → Int32) (i0 : Int32) : Nat → (Int32)
  | 0 => i0
  | k + 1 => S_X8_finesOf_4 tt k (B_X8_finesOf_4 tt i0 k)
set_option maxRecDepth 100000 in
set_option maxHeartbeats 4000000 in
theorem c_X8_finesOf (l : Launch) (D : va_G) (cI cZ : ClassId) (q0 y1 y2 y3 y4 y5 y6 y7 y8 y9 y10 y11 y12 y13 y14 qt : Nat) (th : Int32) (uT : Nat) (up : Nat) (uP : Nat) (uR : Nat) (vP : Nat) (vR : Nat) (ua : Nat) (us : Nat) (sd : Int64) (z1 : Int32) (z2 : Int32) (z3 : Int32) (z4 : Int32) (z5 : Int32) (z6 : Int32) (z7 : Int32) (tt : Nat → Int32) (hu5 : uP ≤ 5) : RO l D cI cZ yX8_finesOf cX8_finesOf 4 (some .int) (mR 0 0) [.ref q0, .ref qt] [(q0, .inr (8, [.int th, .ref y1, .int (nI uT), .int (nI up), .int (nI uP), .ref y2, .int (nI uR), .ref y3, .int (nI vP), .ref y4, .ref y5, .int (nI vR), .ref y6, .ref y7, .ref y8, .ref y9, .int (nI ua), .ref y10, .ref y11, .int (nI us), .ref y12, .ref y13, .long sd, .int z1, .int z2, .int z3, .int z4, .int z5, .int z6, .int z7, .ref y14])), (qt, .inl (cI, 15, .inl tt))] (some (.int ((B_X8_finesOf_4 tt 0 uP)))) := by
  refine RO.of (by decide +kernel) (Nat.le_of_ble_eq_true rfl) ?_
  intro p e s m args below meth c ls Q CF hr hlk hP hE hQ hl
  have hx := CF.1
  have hb := CF.2.1
  have hl : lv_has ls 4 [(0, .ref q0), (1, .ref qt)] := hl
  refine lv_iconst (v := 0) hx hb dX8_finesOf_0 (by decide) ?_
  refine lv_istore_n (lv' := [(2, .int 0), (0, .ref q0), (1, .ref qt)]) hx hb dX8_finesOf_1 rfl hl (by decide) rfl (fun ls hl => ?_)
  refine lv_iconst (v := 0) hx hb dX8_finesOf_2 (by decide) ?_
  refine lv_istore_n (lv' := [(3, .int 0), (2, .int 0), (0, .ref q0), (1, .ref qt)]) hx hb dX8_finesOf_3 rfl hl (by decide) rfl (fun ls hl => ?_)
  have LOOP_4 : ∀ (n_4 k4 : Nat) (x4_0 : Int32) (ls : Array Slot), k4 ≤ uP → uP - k4 < n_4 → (B_X8_finesOf_4 tt 0 k4) = x4_0 → lv_has ls 4 [(3, .int (nI k4)), (2, .int x4_0), (0, .ref q0), (1, .ref qt)] → W p l e (mR 0 0) s m args below meth c s.heap [] 0 0 Q (F0 m 4 ls []) := by
    intro n_4
    induction n_4 with
    | zero => intro k4 x4_0 ls hk_4 hn_4 hB_4 hl; exact absurd hn_4 (Nat.not_lt_zero _)
    | succ n_4 ih_4 =>
      intro k4 x4_0 ls hk_4 hn_4 hB_4 hl
      refine lv_iload_n hx hb dX8_finesOf_4 rfl (lv_at hl 0 rfl) ?_
      refine lv_aload_n hx hb dX8_finesOf_5 rfl (lv_at hl 2 rfl) ?_
      refine r_get (C := RX8) (T := TX8) (N := 31) (v := .int (nI uP)) CF hE hP 0 rfl rfl inG8 4 (by decide) tw_3_119 rfl rfl dX8_finesOf_6 ?_
      refine lv_icmp_ge (tgt := 27) hx hb dX8_finesOf_9 (by decide) (fun c_1 => ?_) (fun c_1 => ?_)
      · have o_1 : uP ≤ k4 := (cle (rfl : nI uP = nI uP) (rfl : nI k4 = nI k4) (by omega) (by omega)).mp c_1
        have hkN : uP = k4 := by omega
        subst hkN
        subst hB_4
        refine lv_iload_n hx hb dX8_finesOf_27 rfl (lv_at hl 1 rfl) ?_
        exact ro_ret CF hQ hr hlk rfl dX8_finesOf_28 rfl
      · have o_1 : ¬ uP ≤ k4 := fun h => c_1 ((cle (rfl : nI uP = nI uP) (rfl : nI k4 = nI k4) (by omega) (by omega)).mpr h)
        refine lv_iload_n hx hb dX8_finesOf_12 rfl (lv_at hl 1 rfl) ?_
        refine lv_aload_n hx hb dX8_finesOf_13 rfl (lv_at hl 3 rfl) ?_
        refine lv_bipush (v := 10) hx hb dX8_finesOf_14 (by decide) ?_
        refine lv_iload_n hx hb dX8_finesOf_16 rfl (lv_at hl 0 rfl) ?_
        refine lv_iadd hx hb dX8_finesOf_17 ?_
        refine r_iald (k := 15) (f := tt) CF hE hP 1 rfl (10 + k4) (nf_add (nf_c 10) (rfl : nI k4 = nI k4)) (by omega) (by decide) dX8_finesOf_18 ?_
        refine lv_iadd hx hb dX8_finesOf_19 ?_
        refine lv_istore_n (lv' := [(2, .int (x4_0 + (tt (10 + k4)))), (3, .int (nI k4)), (0, .ref q0), (1, .ref qt)]) hx hb dX8_finesOf_20 rfl hl (by decide) rfl (fun ls hl => ?_)
        refine lv_iinc (v := (nI (k4 + 1))) (lv' := [(3, .int (nI (k4 + 1))), (2, .int (x4_0 + (tt (10 + k4)))), (0, .ref q0), (1, .ref qt)]) hx hb dX8_finesOf_21 hl (k := 1) rfl (nf_inc 1 (rfl : nI k4 = nI k4)) (by decide) rfl (fun ls hl => ?_)
        refine lv_goto (tgt := 4) hx hb dX8_finesOf_24 (by decide) ?_
        have hB2 : B_X8_finesOf_4 tt 0 (k4 + 1) = (x4_0 + (tt (10 + k4))) := by
          rw [B_X8_finesOf_4, hB_4]
          rw [S_X8_finesOf_4]
        exact ih_4 (k4 + 1) (x4_0 + (tt (10 + k4))) _ (by omega) (by omega) hB2 (lv_sub hl [0, 1, 2, 3] rfl)
  have e_k : 0 = nI (0) := (nf_c 0).trans (congrArg nI (by omega))
  rw [e_k] at hl
  exact LOOP_4 (uP - 0 + 1) 0 0 _ (Nat.zero_le _) (by omega) rfl (lv_sub hl [0, 1, 2, 3] rfl)
def S_X8_sitter_6 (tt : Nat → Int32) (a2 : Int32) (k6 : Nat) (x6_0 : Int32) : (Int32) :=
  (if (tt (5 + k6)) = a2 then (nI k6) else x6_0)
def B_X8_sitter_6 (tt : Nat → Int32) (a2 : Int32) (i0 : Int32) : Nat → (Int32)
  | 0 => i0
  | k + 1 => S_X8_sitter_6 tt a2 k (B_X8_sitter_6 tt a2 i0 k)
set_option maxRecDepth 100000 in
set_option maxHeartbeats 4000000 in
theorem c_X8_sitter (l : Launch) (D : va_G) (cI cZ : ClassId) (q0 y1 y2 y3 y4 y5 y6 y7 y8 y9 y10 y11 y12 y13 y14 qt : Nat) (th : Int32) (uT : Nat) (up : Nat) (uP : Nat) (uR : Nat) (vP : Nat) (vR : Nat) (ua : Nat) (us : Nat) (sd : Int64) (z1 : Int32) (z2 : Int32) (z3 : Int32) (z4 : Int32) (z5 : Int32) (z6 : Int32) (z7 : Int32) (tt : Nat → Int32) (a2 : Int32) (hu5 : uP ≤ 5) : RO l D cI cZ yX8_sitter cX8_sitter 5 (some .int) (mR 0 0) [.ref q0, .ref qt, .int a2] [(q0, .inr (8, [.int th, .ref y1, .int (nI uT), .int (nI up), .int (nI uP), .ref y2, .int (nI uR), .ref y3, .int (nI vP), .ref y4, .ref y5, .int (nI vR), .ref y6, .ref y7, .ref y8, .ref y9, .int (nI ua), .ref y10, .ref y11, .int (nI us), .ref y12, .ref y13, .long sd, .int z1, .int z2, .int z3, .int z4, .int z5, .int z6, .int z7, .ref y14])), (qt, .inl (cI, 15, .inl tt))] (some (.int ((B_X8_sitter_6 tt a2 (-9) uP)))) := by
  refine RO.of (by decide +kernel) (Nat.le_of_ble_eq_true rfl) ?_
  intro p e s m args below meth c ls Q CF hr hlk hP hE hQ hl
  have hx := CF.1
  have hb := CF.2.1
  have hl : lv_has ls 5 [(0, .ref q0), (1, .ref qt), (2, .int a2)] := hl
  refine lv_bipush (v := (-9)) hx hb dX8_sitter_0 (by decide) ?_
  refine lv_istore_n (lv' := [(3, .int (-9)), (0, .ref q0), (1, .ref qt), (2, .int a2)]) hx hb dX8_sitter_2 rfl hl (by decide) rfl (fun ls hl => ?_)
  refine lv_iconst (v := 0) hx hb dX8_sitter_3 (by decide) ?_
  refine lv_istore (lv' := [(4, .int 0), (3, .int (-9)), (0, .ref q0), (1, .ref qt), (2, .int a2)]) hx hb dX8_sitter_4 hl (by decide) rfl (fun ls hl => ?_)
  have LOOP_6 : ∀ (n_6 k6 : Nat) (x6_0 : Int32) (ls : Array Slot), k6 ≤ uP → uP - k6 < n_6 → (B_X8_sitter_6 tt a2 (-9) k6) = x6_0 → lv_has ls 5 [(4, .int (nI k6)), (3, .int x6_0), (0, .ref q0), (1, .ref qt), (2, .int a2)] → W p l e (mR 0 0) s m args below meth c s.heap [] 0 0 Q (F0 m 6 ls []) := by
    intro n_6
    induction n_6 with
    | zero => intro k6 x6_0 ls hk_6 hn_6 hB_6 hl; exact absurd hn_6 (Nat.not_lt_zero _)
    | succ n_6 ih_6 =>
      intro k6 x6_0 ls hk_6 hn_6 hB_6 hl
      refine lv_iload hx hb dX8_sitter_6 (lv_at hl 0 rfl) ?_
      refine lv_aload_n hx hb dX8_sitter_8 rfl (lv_at hl 2 rfl) ?_
      refine r_get (C := RX8) (T := TX8) (N := 31) (v := .int (nI uP)) CF hE hP 0 rfl rfl inG8 4 (by decide) tw_3_119 rfl rfl dX8_sitter_9 ?_
      refine lv_icmp_ge (tgt := 38) hx hb dX8_sitter_12 (by decide) (fun c_1 => ?_) (fun c_1 => ?_)
      · have o_1 : uP ≤ k6 := (cle (rfl : nI uP = nI uP) (rfl : nI k6 = nI k6) (by omega) (by omega)).mp c_1
        have hkN : uP = k6 := by omega
        subst hkN
        subst hB_6
        refine lv_iload_n hx hb dX8_sitter_38 rfl (lv_at hl 1 rfl) ?_
        exact ro_ret CF hQ hr hlk rfl dX8_sitter_39 rfl
      · have o_1 : ¬ uP ≤ k6 := fun h => c_1 ((cle (rfl : nI uP = nI uP) (rfl : nI k6 = nI k6) (by omega) (by omega)).mpr h)
        refine lv_aload_n hx hb dX8_sitter_15 rfl (lv_at hl 3 rfl) ?_
        refine lv_iconst (v := 5) hx hb dX8_sitter_16 (by decide) ?_
        refine lv_iload hx hb dX8_sitter_17 (lv_at hl 0 rfl) ?_
        refine lv_iadd hx hb dX8_sitter_19 ?_
        refine r_iald (k := 15) (f := tt) CF hE hP 1 rfl (5 + k6) (nf_add (nf_c 5) (rfl : nI k6 = nI k6)) (by omega) (by decide) dX8_sitter_20 ?_
        refine lv_iload_n hx hb dX8_sitter_21 rfl (lv_at hl 4 rfl) ?_
        refine lv_icmp_ne (tgt := 30) hx hb dX8_sitter_22 (by decide) (fun c_2 => ?_) (fun c_2 => ?_)
        · refine lv_iload_n hx hb dX8_sitter_30 rfl (lv_at hl 1 rfl) ?_
          refine lv_istore_n (lv' := [(3, .int x6_0), (4, .int (nI k6)), (0, .ref q0), (1, .ref qt), (2, .int a2)]) hx hb dX8_sitter_31 rfl hl (by decide) rfl (fun ls hl => ?_)
          refine lv_iinc (v := (nI (k6 + 1))) (lv' := [(4, .int (nI (k6 + 1))), (3, .int x6_0), (0, .ref q0), (1, .ref qt), (2, .int a2)]) hx hb dX8_sitter_32 hl (k := 1) rfl (nf_inc 1 (rfl : nI k6 = nI k6)) (by decide) rfl (fun ls hl => ?_)
          refine lv_goto (tgt := 6) hx hb dX8_sitter_35 (by decide) ?_
          have hB2 : B_X8_sitter_6 tt a2 (-9) (k6 + 1) = x6_0 := by
            rw [B_X8_sitter_6, hB_6]
            rw [S_X8_sitter_6, if_neg c_2]
          exact ih_6 (k6 + 1) x6_0 _ (by omega) (by omega) hB2 (lv_sub hl [0, 1, 2, 3, 4] rfl)
        · refine lv_iload hx hb dX8_sitter_25 (lv_at hl 0 rfl) ?_
          refine lv_goto (tgt := 31) hx hb dX8_sitter_27 (by decide) ?_
          refine lv_istore_n (lv' := [(3, .int (nI k6)), (4, .int (nI k6)), (0, .ref q0), (1, .ref qt), (2, .int a2)]) hx hb dX8_sitter_31 rfl hl (by decide) rfl (fun ls hl => ?_)
          refine lv_iinc (v := (nI (k6 + 1))) (lv' := [(4, .int (nI (k6 + 1))), (3, .int (nI k6)), (0, .ref q0), (1, .ref qt), (2, .int a2)]) hx hb dX8_sitter_32 hl (k := 1) rfl (nf_inc 1 (rfl : nI k6 = nI k6)) (by decide) rfl (fun ls hl => ?_)
          refine lv_goto (tgt := 6) hx hb dX8_sitter_35 (by decide) ?_
          have hB2 : B_X8_sitter_6 tt a2 (-9) (k6 + 1) = (nI k6) := by
            rw [B_X8_sitter_6, hB_6]
            rw [S_X8_sitter_6, if_pos c_2]
          exact ih_6 (k6 + 1) (nI k6) _ (by omega) (by omega) hB2 (lv_sub hl [0, 1, 2, 3, 4] rfl)
  have e_k : 0 = nI (0) := (nf_c 0).trans (congrArg nI (by omega))
  rw [e_k] at hl
  exact LOOP_6 (uP - 0 + 1) 0 (-9) _ (Nat.zero_le _) (by omega) rfl (lv_sub hl [0, 1, 2, 3, 4] rfl)
def S_X8_power_4 (a0 : Int32) (k4 : Nat) (x4_0 : Int32) : (Int32) :=
  (x4_0 * a0)
def B_X8_power_4 (a0 : Int32) (i0 : Int32) : Nat → (Int32)
  | 0 => i0
  | k + 1 => S_X8_power_4 a0 k (B_X8_power_4 a0 i0 k)
set_option maxRecDepth 100000 in
set_option maxHeartbeats 4000000 in
theorem c_X8_power (l : Launch) (D : va_G) (cI cZ : ClassId) (a0 : Int32) (a1 : Int32) (n1 : Nat) (h_a1 : a1 = nI n1) (hn1 : n1 < 2 ^ 30) : RO l D cI cZ yX8_power cX8_power 4 (some .int) (mR 0 0) [.int a0, .int a1] [] (some (.int ((B_X8_power_4 a0 1 n1)))) := by
  refine RO.of (by decide +kernel) (Nat.le_of_ble_eq_true rfl) ?_
  intro p e s m args below meth c ls Q CF hr hlk hP hE hQ hl
  have hx := CF.1
  have hb := CF.2.1
  have hl : lv_has ls 4 [(0, .int a0), (1, .int a1)] := hl
  refine lv_iconst (v := 1) hx hb dX8_power_0 (by decide) ?_
  refine lv_istore_n (lv' := [(2, .int 1), (0, .int a0), (1, .int a1)]) hx hb dX8_power_1 rfl hl (by decide) rfl (fun ls hl => ?_)
  refine lv_iconst (v := 0) hx hb dX8_power_2 (by decide) ?_
  refine lv_istore_n (lv' := [(3, .int 0), (2, .int 1), (0, .int a0), (1, .int a1)]) hx hb dX8_power_3 rfl hl (by decide) rfl (fun ls hl => ?_)
  have LOOP_4 : ∀ (n_4 k4 : Nat) (x4_0 : Int32) (ls : Array Slot), k4 ≤ n1 → n1 - k4 < n_4 → (B_X8_power_4 a0 1 k4) = x4_0 → lv_has ls 4 [(3, .int (nI k4)), (2, .int x4_0), (0, .int a0), (1, .int a1)] → W p l e (mR 0 0) s m args below meth c s.heap [] 0 0 Q (F0 m 4 ls []) := by
    intro n_4
    induction n_4 with
    | zero => intro k4 x4_0 ls hk_4 hn_4 hB_4 hl; exact absurd hn_4 (Nat.not_lt_zero _)
    | succ n_4 ih_4 =>
      intro k4 x4_0 ls hk_4 hn_4 hB_4 hl
      refine lv_iload_n hx hb dX8_power_4 rfl (lv_at hl 0 rfl) ?_
      refine lv_iload_n hx hb dX8_power_5 rfl (lv_at hl 3 rfl) ?_
      refine lv_icmp_ge (tgt := 19) hx hb dX8_power_6 (by decide) (fun c_1 => ?_) (fun c_1 => ?_)
      · have o_1 : n1 ≤ k4 := (cle h_a1 (rfl : nI k4 = nI k4) (by omega) (by omega)).mp c_1
        have hkN : n1 = k4 := by omega
        subst hkN
        subst hB_4
        refine lv_iload_n hx hb dX8_power_19 rfl (lv_at hl 1 rfl) ?_
        exact ro_ret CF hQ hr hlk rfl dX8_power_20 rfl
      · have o_1 : ¬ n1 ≤ k4 := fun h => c_1 ((cle h_a1 (rfl : nI k4 = nI k4) (by omega) (by omega)).mpr h)
        refine lv_iload_n hx hb dX8_power_9 rfl (lv_at hl 1 rfl) ?_
        refine lv_iload_n hx hb dX8_power_10 rfl (lv_at hl 2 rfl) ?_
        refine lv_imul hx hb dX8_power_11 ?_
        refine lv_istore_n (lv' := [(2, .int (x4_0 * a0)), (3, .int (nI k4)), (0, .int a0), (1, .int a1)]) hx hb dX8_power_12 rfl hl (by decide) rfl (fun ls hl => ?_)
        refine lv_iinc (v := (nI (k4 + 1))) (lv' := [(3, .int (nI (k4 + 1))), (2, .int (x4_0 * a0)), (0, .int a0), (1, .int a1)]) hx hb dX8_power_13 hl (k := 1) rfl (nf_inc 1 (rfl : nI k4 = nI k4)) (by decide) rfl (fun ls hl => ?_)
        refine lv_goto (tgt := 4) hx hb dX8_power_16 (by decide) ?_
        have hB2 : B_X8_power_4 a0 1 (k4 + 1) = (x4_0 * a0) := by
          rw [B_X8_power_4, hB_4]
          rw [S_X8_power_4]
        exact ih_4 (k4 + 1) (x4_0 * a0) _ (by omega) (by omega) hB2 (lv_sub hl [0, 1, 2, 3] rfl)
  have e_k : 0 = nI (0) := (nf_c 0).trans (congrArg nI (by omega))
  rw [e_k] at hl
  exact LOOP_4 (n1 - 0 + 1) 0 1 _ (Nat.zero_le _) (by omega) rfl (lv_sub hl [0, 1, 2, 3] rfl)
def S_X8_ways_4 (k4 : Nat) (x4_0 : Int32) : (Int32) :=
  (x4_0 * (nI (2 + k4)))
def B_X8_ways_4 (i0 : Int32) : Nat → (Int32)
  | 0 => i0
  | k + 1 => S_X8_ways_4 k (B_X8_ways_4 i0 k)
set_option maxRecDepth 100000 in
set_option maxHeartbeats 4000000 in
theorem c_X8_ways (l : Launch) (D : va_G) (cI cZ : ClassId) (a0 : Int32) (n0 : Nat) (h_a0 : a0 = nI n0) (hn0 : n0 < 2 ^ 30) : RO l D cI cZ yX8_ways cX8_ways 3 (some .int) (mR 0 0) [.int a0] [] (some (.int ((B_X8_ways_4 1 (n0 - 1))))) := by
  refine RO.of (by decide +kernel) (Nat.le_of_ble_eq_true rfl) ?_
  intro p e s m args below meth c ls Q CF hr hlk hP hE hQ hl
  have hx := CF.1
  have hb := CF.2.1
  have hl : lv_has ls 3 [(0, .int a0)] := hl
  refine lv_iconst (v := 1) hx hb dX8_ways_0 (by decide) ?_
  refine lv_istore_n (lv' := [(1, .int 1), (0, .int a0)]) hx hb dX8_ways_1 rfl hl (by decide) rfl (fun ls hl => ?_)
  refine lv_iconst (v := 2) hx hb dX8_ways_2 (by decide) ?_
  refine lv_istore_n (lv' := [(2, .int 2), (1, .int 1), (0, .int a0)]) hx hb dX8_ways_3 rfl hl (by decide) rfl (fun ls hl => ?_)
  have LOOP_4 : ∀ (n_4 k4 : Nat) (x4_0 : Int32) (ls : Array Slot), k4 ≤ n0 - 1 → n0 - 1 - k4 < n_4 → (B_X8_ways_4 1 k4) = x4_0 → lv_has ls 3 [(2, .int (nI (2 + k4))), (1, .int x4_0), (0, .int a0)] → W p l e (mR 0 0) s m args below meth c s.heap [] 0 0 Q (F0 m 4 ls []) := by
    intro n_4
    induction n_4 with
    | zero => intro k4 x4_0 ls hk_4 hn_4 hB_4 hl; exact absurd hn_4 (Nat.not_lt_zero _)
    | succ n_4 ih_4 =>
      intro k4 x4_0 ls hk_4 hn_4 hB_4 hl
      refine lv_iload_n hx hb dX8_ways_4 rfl (lv_at hl 0 rfl) ?_
      refine lv_iload_n hx hb dX8_ways_5 rfl (lv_at hl 2 rfl) ?_
      refine lv_icmp_gt (tgt := 19) hx hb dX8_ways_6 (by decide) (fun c_1 => ?_) (fun c_1 => ?_)
      · have o_1 : n0 < (2 + k4) := (clt h_a0 (rfl : nI (2 + k4) = nI (2 + k4)) (by omega) (by omega)).mp c_1
        have hkN : (n0 - 1) = k4 := by omega
        subst hkN
        subst hB_4
        refine lv_iload_n hx hb dX8_ways_19 rfl (lv_at hl 1 rfl) ?_
        exact ro_ret CF hQ hr hlk rfl dX8_ways_20 rfl
      · have o_1 : ¬ n0 < (2 + k4) := fun h => c_1 ((clt h_a0 (rfl : nI (2 + k4) = nI (2 + k4)) (by omega) (by omega)).mpr h)
        refine lv_iload_n hx hb dX8_ways_9 rfl (lv_at hl 1 rfl) ?_
        refine lv_iload_n hx hb dX8_ways_10 rfl (lv_at hl 0 rfl) ?_
        refine lv_imul hx hb dX8_ways_11 ?_
        refine lv_istore_n (lv' := [(1, .int (x4_0 * (nI (2 + k4)))), (2, .int (nI (2 + k4))), (0, .int a0)]) hx hb dX8_ways_12 rfl hl (by decide) rfl (fun ls hl => ?_)
        refine lv_iinc (v := (nI ((2 + k4) + 1))) (lv' := [(2, .int (nI ((2 + k4) + 1))), (1, .int (x4_0 * (nI (2 + k4)))), (0, .int a0)]) hx hb dX8_ways_13 hl (k := 1) rfl (nf_inc 1 (rfl : nI (2 + k4) = nI (2 + k4))) (by decide) rfl (fun ls hl => ?_)
        refine lv_goto (tgt := 4) hx hb dX8_ways_16 (by decide) ?_
        have hB2 : B_X8_ways_4 1 (k4 + 1) = (x4_0 * (nI (2 + k4))) := by
          rw [B_X8_ways_4, hB_4]
          rw [S_X8_ways_4]
        have e_k : (nI ((2 + k4) + 1)) = nI (2 + (k4 + 1)) := (rfl : nI ((2 + k4) + 1) = nI ((2 + k4) + 1)).trans (congrArg nI (by omega))
        rw [e_k] at hl
        exact ih_4 (k4 + 1) (x4_0 * (nI (2 + k4))) _ (by omega) (by omega) hB2 (lv_sub hl [0, 1, 2] rfl)
  have e_k : 2 = nI (2 + 0) := (nf_c 2).trans (congrArg nI (by omega))
  rw [e_k] at hl
  exact LOOP_4 ((n0 - 1) - 0 + 1) 0 1 _ (Nat.zero_le _) (by omega) rfl (lv_sub hl [0, 1, 2] rfl)
def f_X8_pays (a0 : Int32) (a1 : Int32) : Int32 :=
  (if a0 = 3 then (if a1 = 3 then 6 else (if a1 < a0 then (1 + a1) else (3 + a0))) else (if a1 < a0 then (1 + a1) else (3 + a0)))
set_option maxRecDepth 100000 in
set_option maxHeartbeats 4000000 in
theorem c_X8_pays (l : Launch) (D : va_G) (cI cZ : ClassId) (a0 : Int32) (a1 : Int32) : RO l D cI cZ yX8_pays cX8_pays 2 (some .int) (mR 0 0) [.int a0, .int a1] [] (some (.int (f_X8_pays a0 a1))) := by
  refine RO.of (by decide +kernel) (Nat.le_of_ble_eq_true rfl) ?_
  intro p e s m args below meth c ls Q CF hr hlk hP hE hQ hl
  have hx := CF.1
  have hb := CF.2.1
  have hl : lv_has ls 2 [(0, .int a0), (1, .int a1)] := hl
  refine lv_iload_n hx hb dX8_pays_0 rfl (lv_at hl 0 rfl) ?_
  refine lv_iconst (v := 3) hx hb dX8_pays_1 (by decide) ?_
  refine lv_icmp_ne (tgt := 13) hx hb dX8_pays_2 (by decide) (fun c_1 => ?_) (fun c_1 => ?_)
  · refine lv_iload_n hx hb dX8_pays_13 rfl (lv_at hl 0 rfl) ?_
    refine lv_iload_n hx hb dX8_pays_14 rfl (lv_at hl 1 rfl) ?_
    refine lv_icmp_gt (tgt := 24) hx hb dX8_pays_15 (by decide) (fun c_2 => ?_) (fun c_2 => ?_)
    · refine lv_iconst (v := 1) hx hb dX8_pays_24 (by decide) ?_
      refine lv_iload_n hx hb dX8_pays_25 rfl (lv_at hl 1 rfl) ?_
      refine lv_iadd hx hb dX8_pays_26 ?_
      exact ro_ret CF hQ hr hlk rfl dX8_pays_27 (by rw [f_X8_pays, if_neg c_1, if_pos c_2])
    · refine lv_iconst (v := 3) hx hb dX8_pays_18 (by decide) ?_
      refine lv_iload_n hx hb dX8_pays_19 rfl (lv_at hl 0 rfl) ?_
      refine lv_iadd hx hb dX8_pays_20 ?_
      refine lv_goto (tgt := 27) hx hb dX8_pays_21 (by decide) ?_
      exact ro_ret CF hQ hr hlk rfl dX8_pays_27 (by rw [f_X8_pays, if_neg c_1, if_neg c_2])
  · refine lv_iload_n hx hb dX8_pays_5 rfl (lv_at hl 1 rfl) ?_
    refine lv_iconst (v := 3) hx hb dX8_pays_6 (by decide) ?_
    refine lv_icmp_ne (tgt := 13) hx hb dX8_pays_7 (by decide) (fun c_3 => ?_) (fun c_3 => ?_)
    · refine lv_iload_n hx hb dX8_pays_13 rfl (lv_at hl 0 rfl) ?_
      refine lv_iload_n hx hb dX8_pays_14 rfl (lv_at hl 1 rfl) ?_
      refine lv_icmp_gt (tgt := 24) hx hb dX8_pays_15 (by decide) (fun c_4 => ?_) (fun c_4 => ?_)
      · refine lv_iconst (v := 1) hx hb dX8_pays_24 (by decide) ?_
        refine lv_iload_n hx hb dX8_pays_25 rfl (lv_at hl 1 rfl) ?_
        refine lv_iadd hx hb dX8_pays_26 ?_
        exact ro_ret CF hQ hr hlk rfl dX8_pays_27 (by rw [f_X8_pays, if_pos c_1, if_neg c_3, if_pos c_4])
      · refine lv_iconst (v := 3) hx hb dX8_pays_18 (by decide) ?_
        refine lv_iload_n hx hb dX8_pays_19 rfl (lv_at hl 0 rfl) ?_
        refine lv_iadd hx hb dX8_pays_20 ?_
        refine lv_goto (tgt := 27) hx hb dX8_pays_21 (by decide) ?_
        exact ro_ret CF hQ hr hlk rfl dX8_pays_27 (by rw [f_X8_pays, if_pos c_1, if_neg c_3, if_neg c_4])
    · refine lv_bipush (v := 6) hx hb dX8_pays_10 (by decide) ?_
      exact ro_ret CF hQ hr hlk rfl dX8_pays_12 (by rw [f_X8_pays, if_pos c_1, if_pos c_3])
