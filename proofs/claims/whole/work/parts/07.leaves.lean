def h_J6_bitCount_0f7a4_9 (a0 : Int32) : Int32 :=
  (a0 - (((a0 : Int32).toUInt32 >>> ((1 : Int32).toUInt32 &&& Int32.toUInt32 31)).toInt32 &&& 1431655765))
def h_J6_bitCount_0f7a4_23 (a0 : Int32) : Int32 :=
  (((h_J6_bitCount_0f7a4_9 a0) &&& 858993459) + ((((h_J6_bitCount_0f7a4_9 a0) : Int32).toUInt32 >>> ((2 : Int32).toUInt32 &&& Int32.toUInt32 31)).toInt32 &&& 858993459))
def h_J6_bitCount_0f7a4_33 (a0 : Int32) : Int32 :=
  (((h_J6_bitCount_0f7a4_23 a0) + (((h_J6_bitCount_0f7a4_23 a0) : Int32).toUInt32 >>> ((4 : Int32).toUInt32 &&& Int32.toUInt32 31)).toInt32) &&& 252645135)
def h_J6_bitCount_0f7a4_40 (a0 : Int32) : Int32 :=
  ((h_J6_bitCount_0f7a4_33 a0) + (((h_J6_bitCount_0f7a4_33 a0) : Int32).toUInt32 >>> ((8 : Int32).toUInt32 &&& Int32.toUInt32 31)).toInt32)
def h_J6_bitCount_0f7a4_47 (a0 : Int32) : Int32 :=
  ((h_J6_bitCount_0f7a4_40 a0) + (((h_J6_bitCount_0f7a4_40 a0) : Int32).toUInt32 >>> ((16 : Int32).toUInt32 &&& Int32.toUInt32 31)).toInt32)
def f_J6_bitCount_0f7a4 (a0 : Int32) : Int32 :=
  ((h_J6_bitCount_0f7a4_47 a0) &&& 63)
set_option maxRecDepth 100000 in
set_option maxHeartbeats 4000000 in
theorem c_J6_bitCount_0f7a4 (l : Launch) (D : va_G) (cI cZ : ClassId) (a0 : Int32) : RO l D cI cZ yJ6_bitCount_0f7a4 cJ6_bitCount_0f7a4 1 (some .int) (mR 0 0) [.int a0] [] (some (.int (f_J6_bitCount_0f7a4 a0))) := by
  refine RO.of (by decide +kernel) (Nat.le_of_ble_eq_true rfl) ?_
  intro p e s m args below meth c ls Q CF hr hlk hP hE hQ hl
  have hx := CF.1
  have hb := CF.2.1
  have hl : lv_has ls 1 [(0, .int a0)] := hl
  refine lv_iload_n hx hb dJ6_bitCount_0f7a4_0 rfl (lv_at hl 0 rfl) ?_
  refine lv_iload_n hx hb dJ6_bitCount_0f7a4_1 rfl (lv_at hl 0 rfl) ?_
  refine lv_iconst (v := 1) hx hb dJ6_bitCount_0f7a4_2 (by decide) ?_
  refine lv_iushr hx hb dJ6_bitCount_0f7a4_3 rfl ?_
  refine lv_ldcw (v := 1431655765) hx hb CF.2.2.2.1 (CF.2.2.2.2 _ (List.mem_cons_of_mem _ tw_2_171)) dJ6_bitCount_0f7a4_4 ?_
  refine lv_iand hx hb dJ6_bitCount_0f7a4_7 ?_
  refine lv_isub hx hb dJ6_bitCount_0f7a4_8 ?_
  refine lv_as (z := (h_J6_bitCount_0f7a4_9 a0)) rfl ?_
  refine lv_istore_n (lv' := [(0, .int (h_J6_bitCount_0f7a4_9 a0))]) hx hb dJ6_bitCount_0f7a4_9 rfl hl (by decide) rfl (fun ls hl => ?_)
  refine lv_iload_n hx hb dJ6_bitCount_0f7a4_10 rfl (lv_at hl 0 rfl) ?_
  refine lv_ldcw (v := 858993459) hx hb CF.2.2.2.1 (CF.2.2.2.2 _ (List.mem_cons_of_mem _ tw_2_172)) dJ6_bitCount_0f7a4_11 ?_
  refine lv_iand hx hb dJ6_bitCount_0f7a4_14 ?_
  refine lv_iload_n hx hb dJ6_bitCount_0f7a4_15 rfl (lv_at hl 0 rfl) ?_
  refine lv_iconst (v := 2) hx hb dJ6_bitCount_0f7a4_16 (by decide) ?_
  refine lv_iushr hx hb dJ6_bitCount_0f7a4_17 rfl ?_
  refine lv_ldcw (v := 858993459) hx hb CF.2.2.2.1 (CF.2.2.2.2 _ (List.mem_cons_of_mem _ tw_2_172)) dJ6_bitCount_0f7a4_18 ?_
  refine lv_iand hx hb dJ6_bitCount_0f7a4_21 ?_
  refine lv_iadd hx hb dJ6_bitCount_0f7a4_22 ?_
  refine lv_as (z := (h_J6_bitCount_0f7a4_23 a0)) rfl ?_
  refine lv_istore_n (lv' := [(0, .int (h_J6_bitCount_0f7a4_23 a0))]) hx hb dJ6_bitCount_0f7a4_23 rfl hl (by decide) rfl (fun ls hl => ?_)
  refine lv_iload_n hx hb dJ6_bitCount_0f7a4_24 rfl (lv_at hl 0 rfl) ?_
  refine lv_iload_n hx hb dJ6_bitCount_0f7a4_25 rfl (lv_at hl 0 rfl) ?_
  refine lv_iconst (v := 4) hx hb dJ6_bitCount_0f7a4_26 (by decide) ?_
  refine lv_iushr hx hb dJ6_bitCount_0f7a4_27 rfl ?_
  refine lv_iadd hx hb dJ6_bitCount_0f7a4_28 ?_
  refine lv_ldcw (v := 252645135) hx hb CF.2.2.2.1 (CF.2.2.2.2 _ (List.mem_cons_of_mem _ tw_2_173)) dJ6_bitCount_0f7a4_29 ?_
  refine lv_iand hx hb dJ6_bitCount_0f7a4_32 ?_
  refine lv_as (z := (h_J6_bitCount_0f7a4_33 a0)) rfl ?_
  refine lv_istore_n (lv' := [(0, .int (h_J6_bitCount_0f7a4_33 a0))]) hx hb dJ6_bitCount_0f7a4_33 rfl hl (by decide) rfl (fun ls hl => ?_)
  refine lv_iload_n hx hb dJ6_bitCount_0f7a4_34 rfl (lv_at hl 0 rfl) ?_
  refine lv_iload_n hx hb dJ6_bitCount_0f7a4_35 rfl (lv_at hl 0 rfl) ?_
  refine lv_bipush (v := 8) hx hb dJ6_bitCount_0f7a4_36 (by decide) ?_
  refine lv_iushr hx hb dJ6_bitCount_0f7a4_38 rfl ?_
  refine lv_iadd hx hb dJ6_bitCount_0f7a4_39 ?_
  refine lv_as (z := (h_J6_bitCount_0f7a4_40 a0)) rfl ?_
  refine lv_istore_n (lv' := [(0, .int (h_J6_bitCount_0f7a4_40 a0))]) hx hb dJ6_bitCount_0f7a4_40 rfl hl (by decide) rfl (fun ls hl => ?_)
  refine lv_iload_n hx hb dJ6_bitCount_0f7a4_41 rfl (lv_at hl 0 rfl) ?_
  refine lv_iload_n hx hb dJ6_bitCount_0f7a4_42 rfl (lv_at hl 0 rfl) ?_
  refine lv_bipush (v := 16) hx hb dJ6_bitCount_0f7a4_43 (by decide) ?_
  refine lv_iushr hx hb dJ6_bitCount_0f7a4_45 rfl ?_
  refine lv_iadd hx hb dJ6_bitCount_0f7a4_46 ?_
  refine lv_as (z := (h_J6_bitCount_0f7a4_47 a0)) rfl ?_
  refine lv_istore_n (lv' := [(0, .int (h_J6_bitCount_0f7a4_47 a0))]) hx hb dJ6_bitCount_0f7a4_47 rfl hl (by decide) rfl (fun ls hl => ?_)
  refine lv_iload_n hx hb dJ6_bitCount_0f7a4_48 rfl (lv_at hl 0 rfl) ?_
  refine lv_bipush (v := 63) hx hb dJ6_bitCount_0f7a4_49 (by decide) ?_
  refine lv_iand hx hb dJ6_bitCount_0f7a4_51 ?_
  exact ro_ret CF hQ hr hlk rfl dJ6_bitCount_0f7a4_52 (by rw [f_J6_bitCount_0f7a4])
def f_X2_at (sz : Nat) (sf : Nat → Int32) (a1 : Int32) : Int32 :=
  (if a1 < 0 then 0 else (if (nI sz) ≤ a1 then 0 else (sf a1.toNatClampNeg)))
set_option maxRecDepth 100000 in
set_option maxHeartbeats 4000000 in
theorem c_X2_at (l : Launch) (D : va_G) (cI cZ : ClassId) (q0 q1 : Nat) (sz : Nat) (sf : Nat → Int32) (a1 : Int32) (hsz : sz < 2 ^ 31) : RO l D cI cZ yX2_at cX2_at 2 (some .int) (mR 0 0) [.ref q0, .int a1] [(q0, .inr (2, [.ref q1])), (q1, .inl (cI, sz, .inl sf))] (some (.int (f_X2_at sz sf a1))) := by
  refine RO.of (by decide +kernel) (Nat.le_of_ble_eq_true rfl) ?_
  intro p e s m args below meth c ls Q CF hr hlk hP hE hQ hl
  have hx := CF.1
  have hb := CF.2.1
  have hl : lv_has ls 2 [(0, .ref q0), (1, .int a1)] := hl
  refine lv_iload_n hx hb dX2_at_0 rfl (lv_at hl 1 rfl) ?_
  refine lv_if_lt (tgt := 22) hx hb dX2_at_1 (by decide) (fun c_1 => ?_) (fun c_1 => ?_)
  · refine lv_iconst (v := 0) hx hb dX2_at_22 (by decide) ?_
    exact ro_ret CF hQ hr hlk rfl dX2_at_23 (by rw [f_X2_at, if_pos c_1])
  · refine lv_iload_n hx hb dX2_at_4 rfl (lv_at hl 1 rfl) ?_
    refine lv_aload_n hx hb dX2_at_5 rfl (lv_at hl 0 rfl) ?_
    refine r_get (C := RX2) (T := TX2) (N := 1) (v := .ref q1) CF hE hP 0 rfl rfl inG2 0 (by decide) tw_1_35 rfl rfl dX2_at_6 ?_
    refine r_alen (k := sz) (f := sf) CF hE hP 1 rfl dX2_at_9 ?_
    refine lv_icmp_ge (tgt := 22) hx hb dX2_at_10 (by decide) (fun c_2 => ?_) (fun c_2 => ?_)
    · refine lv_iconst (v := 0) hx hb dX2_at_22 (by decide) ?_
      exact ro_ret CF hQ hr hlk rfl dX2_at_23 (by rw [f_X2_at, if_neg c_1, if_pos c_2])
    · have nf1 : a1 = nI a1.toNatClampNeg := nf_tn (by assumption)
      have lt1 : a1.toNatClampNeg < sz := tn_lt (by assumption) (by assumption) rfl hsz
      refine lv_aload_n hx hb dX2_at_13 rfl (lv_at hl 0 rfl) ?_
      refine r_get (C := RX2) (T := TX2) (N := 1) (v := .ref q1) CF hE hP 0 rfl rfl inG2 0 (by decide) tw_1_35 rfl rfl dX2_at_14 ?_
      refine lv_iload_n hx hb dX2_at_17 rfl (lv_at hl 1 rfl) ?_
      refine r_iald (k := sz) (f := sf) CF hE hP 1 rfl a1.toNatClampNeg nf1 (by omega) (by omega) dX2_at_18 ?_
      refine lv_goto (tgt := 23) hx hb dX2_at_19 (by decide) ?_
      exact ro_ret CF hQ hr hlk rfl dX2_at_23 (by rw [f_X2_at, if_neg c_1, if_neg c_2])
def f_X2_put_sf (sz : Nat) (sf : Nat → Int32) (a1 : Int32) (a2 : Int32) : Nat → Int32 :=
  (if a1 < 0 then sf else (if (nI sz) ≤ a1 then sf else (upd sf a1.toNatClampNeg a2)))
set_option maxRecDepth 100000 in
set_option maxHeartbeats 4000000 in
theorem c_X2_put (l : Launch) (D : va_G) (cI cZ : ClassId) (q0 q1 : Nat) (sz : Nat) (sf : Nat → Int32) (a1 : Int32) (a2 : Int32) (hsz : sz < 2 ^ 31) : MU l D cI cZ yX2_put cX2_put 3 none (mR 0 0) [.ref q0, .int a1, .int a2] [(q0, .inr (2, [.ref q1])), (q1, .inl (cI, sz, .inl sf))] [(q0, .inr (2, [.ref q1])), (q1, .inl (cI, sz, .inl (f_X2_put_sf sz sf a1 a2)))] none := by
  refine MU.of (by decide +kernel) (Nat.le_of_ble_eq_true rfl) ?_
  intro p e s m args below meth c ls Q A CF hr hlk hP hE hD hS hQ hl
  have hx := CF.1
  have hb := CF.2.1
  have hl : lv_has ls 3 [(0, .ref q0), (1, .int a1), (2, .int a2)] := hl
  refine lv_iload_n hx hb dX2_put_0 rfl (lv_at hl 1 rfl) ?_
  refine lv_if_lt (tgt := 20) hx hb dX2_put_1 (by decide) (fun c_1 => ?_) (fun c_1 => ?_)
  · have e_0 : (f_X2_put_sf sz sf a1 a2) = sf := by rw [f_X2_put_sf, if_pos c_1]
    exact mu_retv CF hQ hr hlk hP hS dX2_put_20 (by rw [e_0])
  · refine lv_iload_n hx hb dX2_put_4 rfl (lv_at hl 1 rfl) ?_
    refine lv_aload_n hx hb dX2_put_5 rfl (lv_at hl 0 rfl) ?_
    refine r_get (C := RX2) (T := TX2) (N := 1) (v := .ref q1) CF hE hP 0 rfl rfl inG2 0 (by decide) tw_1_35 rfl rfl dX2_put_6 ?_
    refine r_alen (k := sz) (f := sf) CF hE hP 1 rfl dX2_put_9 ?_
    refine lv_icmp_ge (tgt := 20) hx hb dX2_put_10 (by decide) (fun c_2 => ?_) (fun c_2 => ?_)
    · have e_0 : (f_X2_put_sf sz sf a1 a2) = sf := by rw [f_X2_put_sf, if_neg c_1, if_pos c_2]
      exact mu_retv CF hQ hr hlk hP hS dX2_put_20 (by rw [e_0])
    · have nf1 : a1 = nI a1.toNatClampNeg := nf_tn (by assumption)
      have lt1 : a1.toNatClampNeg < sz := tn_lt (by assumption) (by assumption) rfl hsz
      refine lv_aload_n hx hb dX2_put_13 rfl (lv_at hl 0 rfl) ?_
      refine r_get (C := RX2) (T := TX2) (N := 1) (v := .ref q1) CF hE hP 0 rfl rfl inG2 0 (by decide) tw_1_35 rfl rfl dX2_put_14 ?_
      refine lv_iload_n hx hb dX2_put_17 rfl (lv_at hl 1 rfl) ?_
      refine lv_iload_n hx hb dX2_put_18 rfl (lv_at hl 2 rfl) ?_
      refine r_iast (k := sz) (f := sf) (ws' := [(q0, .inr (2, [.ref q1])), (q1, .inl (cI, sz, .inl (upd sf a1.toNatClampNeg a2)))]) CF hE hP hD hS 1 rfl a1.toNatClampNeg nf1 (by omega) (by omega) dX2_put_19 rfl (fun H locs hP hD hS => ?_)
      have e_0 : (f_X2_put_sf sz sf a1 a2) = (upd sf a1.toNatClampNeg a2) := by rw [f_X2_put_sf, if_neg c_1, if_neg c_2]
      exact mu_retv CF hQ hr hlk hP hS dX2_put_20 (by rw [e_0])
def S_X2_fill_2 (a1 : Int32) (k1 : Nat) (x1_0 : Nat → Int32) : (Nat → Int32) :=
  (upd x1_0 k1 a1)
def B_X2_fill_2 (a1 : Int32) (i0 : Nat → Int32) : Nat → (Nat → Int32)
  | 0 => i0
  | k + 1 => S_X2_fill_2 a1 k (B_X2_fill_2 a1 i0 k)
set_option maxRecDepth 100000 in
set_option maxHeartbeats 4000000 in
theorem c_X2_fill (l : Launch) (D : va_G) (cI cZ : ClassId) (q0 q1 : Nat) (sz : Nat) (sf : Nat → Int32) (a1 : Int32) (hsz : sz < 2 ^ 31) : MU l D cI cZ yX2_fill cX2_fill 3 none (mR 0 0) [.ref q0, .int a1] [(q0, .inr (2, [.ref q1])), (q1, .inl (cI, sz, .inl sf))] [(q0, .inr (2, [.ref q1])), (q1, .inl (cI, sz, .inl ((B_X2_fill_2 a1 sf sz))))] none := by
  refine MU.of (by decide +kernel) (Nat.le_of_ble_eq_true rfl) ?_
  intro p e s m args below meth c ls Q A CF hr hlk hP hE hD hS hQ hl
  have hx := CF.1
  have hb := CF.2.1
  have hl : lv_has ls 3 [(0, .ref q0), (1, .int a1)] := hl
  refine lv_iconst (v := 0) hx hb dX2_fill_0 (by decide) ?_
  refine lv_istore_n (lv' := [(2, .int 0), (0, .ref q0), (1, .int a1)]) hx hb dX2_fill_1 rfl hl (by decide) rfl (fun ls hl => ?_)
  have LOOP_2 : ∀ (n k1 : Nat) (x1_0 : Nat → Int32) (H : Heap) (locs : List Loc) (ls : Array Slot), k1 ≤ sz → sz - k1 < n → (B_X2_fill_2 a1 sf k1) = x1_0 → va_P D vwCl [(q0, .inr (2, [.ref q1])), (q1, .inl (cI, sz, .inl x1_0))] H → va_D A [(q0, .inr (2, [.ref q1])), (q1, .inl (cI, sz, .inl x1_0))] → va_S A s.heap H locs → lv_has ls 3 [(2, .int (nI k1)), (0, .ref q0), (1, .int a1)] → W p l e (mR 0 0) s m args below meth c H locs 0 0 Q (F0 m 2 ls []) := by
    intro n
    induction n with
    | zero => intro k1 x1_0 H locs ls hk hn hB hP hD hS hl; exact absurd hn (Nat.not_lt_zero _)
    | succ n ih =>
      intro k1 x1_0 H locs ls hk hn hB hP hD hS hl
      refine lv_iload_n hx hb dX2_fill_2 rfl (lv_at hl 0 rfl) ?_
      refine lv_aload_n hx hb dX2_fill_3 rfl (lv_at hl 1 rfl) ?_
      refine r_get (C := RX2) (T := TX2) (N := 1) (v := .ref q1) CF hE hP 0 rfl rfl inG2 0 (by decide) tw_1_35 rfl rfl dX2_fill_4 ?_
      refine r_alen (k := sz) (f := x1_0) CF hE hP 1 rfl dX2_fill_7 ?_
      refine lv_icmp_ge (tgt := 24) hx hb dX2_fill_8 (by decide) (fun c_2 => ?_) (fun c_2 => ?_)
      · have o_2 : sz ≤ k1 := (cle (rfl : nI sz = nI sz) (rfl : nI k1 = nI k1) (by omega) (by omega)).mp c_2
        have hkN : sz = k1 := by omega
        subst hkN
        subst hB
        exact mu_retv CF hQ hr hlk hP hS dX2_fill_24 rfl
      · have o_2 : ¬ sz ≤ k1 := fun h => c_2 ((cle (rfl : nI sz = nI sz) (rfl : nI k1 = nI k1) (by omega) (by omega)).mpr h)
        refine lv_aload_n hx hb dX2_fill_11 rfl (lv_at hl 1 rfl) ?_
        refine r_get (C := RX2) (T := TX2) (N := 1) (v := .ref q1) CF hE hP 0 rfl rfl inG2 0 (by decide) tw_1_35 rfl rfl dX2_fill_12 ?_
        refine lv_iload_n hx hb dX2_fill_15 rfl (lv_at hl 0 rfl) ?_
        refine lv_iload_n hx hb dX2_fill_16 rfl (lv_at hl 2 rfl) ?_
        refine r_iast (k := sz) (f := x1_0) (ws' := [(q0, .inr (2, [.ref q1])), (q1, .inl (cI, sz, .inl (upd x1_0 k1 a1)))]) CF hE hP hD hS 1 rfl k1 (rfl : nI k1 = nI k1) (by omega) (by omega) dX2_fill_17 rfl (fun H locs hP hD hS => ?_)
        refine lv_iinc (v := (nI (k1 + 1))) (lv' := [(2, .int (nI (k1 + 1))), (0, .ref q0), (1, .int a1)]) hx hb dX2_fill_18 hl (k := 0) rfl (nf_inc 1 (rfl : nI k1 = nI k1)) (by decide) rfl (fun ls hl => ?_)
        refine lv_goto (tgt := 2) hx hb dX2_fill_21 (by decide) ?_
        have hB2 : B_X2_fill_2 a1 sf (k1 + 1) = (upd x1_0 k1 a1) := by
          rw [B_X2_fill_2, hB]
          rw [S_X2_fill_2]
        exact ih (k1 + 1) (upd x1_0 k1 a1) _ _ _ (by omega) (by omega) hB2 hP hD hS (lv_sub hl [0, 1, 2] rfl)
  exact LOOP_2 (sz - 0 + 1) 0 sf _ _ _ (Nat.zero_le _) (by omega) rfl hP hD hS (by rw [show nI 0 = 0 from rfl]; exact lv_sub hl [0, 1, 2] rfl)
