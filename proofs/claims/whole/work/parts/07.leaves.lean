def h_J6_bitCount_0f7a4_9 (a0 : Int32) : Int32 :=
  (a0 - (((a0 : Int32).toUInt32 >>> ((1 : Int32).toUInt32 &&& Int32.toUInt32 31)).toInt32 &&& 1431655765))
def h_J6_bitCount_0f7a4_23 (a0 : Int32) : Int32 :=
  (((h_J6_bitCount_0f7a4_9 a0) &&& 858993459) + ((((h_J6_bitCount_0f7a4_9 a0) : Int32).toUInt32 >>> ((2 : Int32).toUInt32 &&& Int32.toUInt32 31)).toInt32 &&& 858993459))
def h_J6_bitCount_0f7a4_33 (a0 : Int32) : Int32 :=
  (((h_J6_bitCount_0f7a4_23 a0) + (((h_J6_bitCount_0f7a4_23 a0) : Int32).toUInt32 >>> ((4 : Int32).toUInt32 &&& Int32.toUInt32 31)).toInt32) &&& 252645135)
def h_J6_bitCount_0f7a4_40 (a0 : Int32) : Int32 :=
  ((h_J6_bitCount_0f7a4_33 a0) + (((h_J6_bitCount_0f7a4_33 a0) : Int32).toUInt32 >>> ((8 : Int32).toUInt32 &&& Int32.toUInt32 31)).toInt32)
def h_J6_bitCount_0f7a4_47 (a0 : Int32) : Int32 :=
  ((h_J6_bitCount_0f7a4_40 a0) + (((h_J6_bitCount_0f7a4_40 a0) : Int32).toUInt32 >>> ((16 : Int32).toUInt32 &&& Int32.toUInt32 31)).toInt32)
def f_J6_bitCount_0f7a4 (a0 : Int32) : Int32 :=
  ((h_J6_bitCount_0f7a4_47 a0) &&& 63)
set_option maxRecDepth 100000 in
set_option maxHeartbeats 4000000 in
theorem c_J6_bitCount_0f7a4 (l : Launch) (D : va_G) (cI cZ : ClassId) (a0 : Int32) : RO l D cI cZ yJ6_bitCount_0f7a4 cJ6_bitCount_0f7a4 1 (some .int) (mR 0 0) [.int a0] [] (some (.int (f_J6_bitCount_0f7a4 a0))) := by
  refine RO.of (by decide +kernel) (Nat.le_of_ble_eq_true rfl) ?_
  intro p e s m args below meth c ls Q CF hr hlk hP hE hQ hl
  have hx := CF.1
  have hb := CF.2.1
  have hl : lv_has ls 1 [(0, .int a0)] := hl
  refine lv_iload_n hx hb dJ6_bitCount_0f7a4_0 rfl (lv_at hl 0 rfl) ?_
  refine lv_iload_n hx hb dJ6_bitCount_0f7a4_1 rfl (lv_at hl 0 rfl) ?_
  refine lv_iconst (v := 1) hx hb dJ6_bitCount_0f7a4_2 (by decide) ?_
  refine lv_iushr hx hb dJ6_bitCount_0f7a4_3 rfl ?_
  refine lv_ldcw (v := 1431655765) hx hb CF.2.2.2.1 (CF.2.2.2.2 _ (List.mem_cons_of_mem _ tw_2_171)) dJ6_bitCount_0f7a4_4 ?_
  refine lv_iand hx hb dJ6_bitCount_0f7a4_7 ?_
  refine lv_isub hx hb dJ6_bitCount_0f7a4_8 ?_
  refine lv_as (z := (h_J6_bitCount_0f7a4_9 a0)) rfl ?_
  refine lv_istore_n (lv' := [(0, .int (h_J6_bitCount_0f7a4_9 a0))]) hx hb dJ6_bitCount_0f7a4_9 rfl hl (by decide) rfl (fun ls hl => ?_)
  refine lv_iload_n hx hb dJ6_bitCount_0f7a4_10 rfl (lv_at hl 0 rfl) ?_
  refine lv_ldcw (v := 858993459) hx hb CF.2.2.2.1 (CF.2.2.2.2 _ (List.mem_cons_of_mem _ tw_2_172)) dJ6_bitCount_0f7a4_11 ?_
  refine lv_iand hx hb dJ6_bitCount_0f7a4_14 ?_
  refine lv_iload_n hx hb dJ6_bitCount_0f7a4_15 rfl (lv_at hl 0 rfl) ?_
  refine lv_iconst (v := 2) hx hb dJ6_bitCount_0f7a4_16 (by decide) ?_
  refine lv_iushr hx hb dJ6_bitCount_0f7a4_17 rfl ?_
  refine lv_ldcw (v := 858993459) hx hb CF.2.2.2.1 (CF.2.2.2.2 _ (List.mem_cons_of_mem _ tw_2_172)) dJ6_bitCount_0f7a4_18 ?_
  refine lv_iand hx hb dJ6_bitCount_0f7a4_21 ?_
  refine lv_iadd hx hb dJ6_bitCount_0f7a4_22 ?_
  refine lv_as (z := (h_J6_bitCount_0f7a4_23 a0)) rfl ?_
  refine lv_istore_n (lv' := [(0, .int (h_J6_bitCount_0f7a4_23 a0))]) hx hb dJ6_bitCount_0f7a4_23 rfl hl (by decide) rfl (fun ls hl => ?_)
  refine lv_iload_n hx hb dJ6_bitCount_0f7a4_24 rfl (lv_at hl 0 rfl) ?_
  refine lv_iload_n hx hb dJ6_bitCount_0f7a4_25 rfl (lv_at hl 0 rfl) ?_
  refine lv_iconst (v := 4) hx hb dJ6_bitCount_0f7a4_26 (by decide) ?_
  refine lv_iushr hx hb dJ6_bitCount_0f7a4_27 rfl ?_
  refine lv_iadd hx hb dJ6_bitCount_0f7a4_28 ?_
  refine lv_ldcw (v := 252645135) hx hb CF.2.2.2.1 (CF.2.2.2.2 _ (List.mem_cons_of_mem _ tw_2_173)) dJ6_bitCount_0f7a4_29 ?_
  refine lv_iand hx hb dJ6_bitCount_0f7a4_32 ?_
  refine lv_as (z := (h_J6_bitCount_0f7a4_33 a0)) rfl ?_
  refine lv_istore_n (lv' := [(0, .int (h_J6_bitCount_0f7a4_33 a0))]) hx hb dJ6_bitCount_0f7a4_33 rfl hl (by decide) rfl (fun ls hl => ?_)
  refine lv_iload_n hx hb dJ6_bitCount_0f7a4_34 rfl (lv_at hl 0 rfl) ?_
  refine lv_iload_n hx hb dJ6_bitCount_0f7a4_35 rfl (lv_at hl 0 rfl) ?_
  refine lv_bipush (v := 8) hx hb dJ6_bitCount_0f7a4_36 (by decide) ?_
  refine lv_iushr hx hb dJ6_bitCount_0f7a4_38 rfl ?_
  refine lv_iadd hx hb dJ6_bitCount_0f7a4_39 ?_
  refine lv_as (z := (h_J6_bitCount_0f7a4_40 a0)) rfl ?_
  refine lv_istore_n (lv' := [(0, .int (h_J6_bitCount_0f7a4_40 a0))]) hx hb dJ6_bitCount_0f7a4_40 rfl hl (by decide) rfl (fun ls hl => ?_)
  refine lv_iload_n hx hb dJ6_bitCount_0f7a4_41 rfl (lv_at hl 0 rfl) ?_
  refine lv_iload_n hx hb dJ6_bitCount_0f7a4_42 rfl (lv_at hl 0 rfl) ?_
  refine lv_bipush (v := 16) hx hb dJ6_bitCount_0f7a4_43 (by decide) ?_
  refine lv_iushr hx hb dJ6_bitCount_0f7a4_45 rfl ?_
  refine lv_iadd hx hb dJ6_bitCount_0f7a4_46 ?_
  refine lv_as (z := (h_J6_bitCount_0f7a4_47 a0)) rfl ?_
  refine lv_istore_n (lv' := [(0, .int (h_J6_bitCount_0f7a4_47 a0))]) hx hb dJ6_bitCount_0f7a4_47 rfl hl (by decide) rfl (fun ls hl => ?_)
  refine lv_iload_n hx hb dJ6_bitCount_0f7a4_48 rfl (lv_at hl 0 rfl) ?_
  refine lv_bipush (v := 63) hx hb dJ6_bitCount_0f7a4_49 (by decide) ?_
  refine lv_iand hx hb dJ6_bitCount_0f7a4_51 ?_
  exact ro_ret CF hQ hr hlk rfl dJ6_bitCount_0f7a4_52 (by rw [f_J6_bitCount_0f7a4])
def f_X2_at (sz : Nat) (sf : Nat → Int32) (a1 : Int32) : Int32 :=
  (if a1 < 0 then 0 else (if (nI sz) ≤ a1 then 0 else (sf a1.toNatClampNeg)))
set_option maxRecDepth 100000 in
set_option maxHeartbeats 4000000 in
theorem c_X2_at (l : Launch) (D : va_G) (cI cZ : ClassId) (q0 q1 : Nat) (sz : Nat) (sf : Nat → Int32) (a1 : Int32) (hsz : sz < 2 ^ 31) : RO l D cI cZ yX2_at cX2_at 2 (some .int) (mR 0 0) [.ref q0, .int a1] [(q0, .inr (2, [.ref q1])), (q1, .inl (cI, sz, .inl sf))] (some (.int (f_X2_at sz sf a1))) := by
  refine RO.of (by decide +kernel) (Nat.le_of_ble_eq_true rfl) ?_
  intro p e s m args below meth c ls Q CF hr hlk hP hE hQ hl
  have hx := CF.1
  have hb := CF.2.1
  have hl : lv_has ls 2 [(0, .ref q0), (1, .int a1)] := hl
  refine lv_iload_n hx hb dX2_at_0 rfl (lv_at hl 1 rfl) ?_
  refine lv_if_lt (tgt := 22) hx hb dX2_at_1 (by decide) (fun c_1 => ?_) (fun c_1 => ?_)
  · refine lv_iconst (v := 0) hx hb dX2_at_22 (by decide) ?_
    exact ro_ret CF hQ hr hlk rfl dX2_at_23 (by rw [f_X2_at, if_pos c_1])
  · refine lv_iload_n hx hb dX2_at_4 rfl (lv_at hl 1 rfl) ?_
    refine lv_aload_n hx hb dX2_at_5 rfl (lv_at hl 0 rfl) ?_
    refine r_get (C := RX2) (T := TX2) (N := 1) (v := .ref q1) CF hE hP 0 rfl rfl inG2 0 (by decide) tw_1_35 rfl rfl dX2_at_6 ?_
    refine r_alen (k := sz) (f := sf) CF hE hP 1 rfl dX2_at_9 ?_
    refine lv_icmp_ge (tgt := 22) hx hb dX2_at_10 (by decide) (fun c_2 => ?_) (fun c_2 => ?_)
    · refine lv_iconst (v := 0) hx hb dX2_at_22 (by decide) ?_
      exact ro_ret CF hQ hr hlk rfl dX2_at_23 (by rw [f_X2_at, if_neg c_1, if_pos c_2])
    · have nf1 : a1 = nI a1.toNatClampNeg := nf_tn (by assumption)
      have lt1 : a1.toNatClampNeg < sz := tn_lt (by assumption) (by assumption) rfl hsz
      refine lv_aload_n hx hb dX2_at_13 rfl (lv_at hl 0 rfl) ?_
      refine r_get (C := RX2) (T := TX2) (N := 1) (v := .ref q1) CF hE hP 0 rfl rfl inG2 0 (by decide) tw_1_35 rfl rfl dX2_at_14 ?_
      refine lv_iload_n hx hb dX2_at_17 rfl (lv_at hl 1 rfl) ?_
      refine r_iald (k := sz) (f := sf) CF hE hP 1 rfl a1.toNatClampNeg nf1 (by omega) (by omega) dX2_at_18 ?_
      refine lv_goto (tgt := 23) hx hb dX2_at_19 (by decide) ?_
      exact ro_ret CF hQ hr hlk rfl dX2_at_23 (by rw [f_X2_at, if_neg c_1, if_neg c_2])
def f_X2_put_sf (sz : Nat) (sf : Nat → Int32) (a1 : Int32) (a2 : Int32) : Nat → Int32 :=
  (if a1 < 0 then sf else (if (nI sz) ≤ a1 then sf else (upd sf a1.toNatClampNeg a2)))
set_option maxRecDepth 100000 in
set_option maxHeartbeats 4000000 in
theorem c_X2_put (l : Launch) (D : va_G) (cI cZ : ClassId) (q0 q1 : Nat) (sz : Nat) (sf : Nat → Int32) (a1 : Int32) (a2 : Int32) (hsz : sz < 2 ^ 31) : MU l D cI cZ yX2_put cX2_put 3 none (mR 0 0) [.ref q0, .int a1, .int a2] [(q0, .inr (2, [.ref q1])), (q1, .inl (cI, sz, .inl sf))] [(q0, .inr (2, [.ref q1])), (q1, .inl (cI, sz, .inl (f_X2_put_sf sz sf a1 a2)))] none := by
  refine MU.of (by decide +kernel) (Nat.le_of_ble_eq_true rfl) ?_
  intro p e s m args below meth c ls Q A CF hr hlk hP hE hD hS hQ hl
  have hx := CF.1
  have hb := CF.2.1
  have hl : lv_has ls 3 [(0, .ref q0), (1, .int a1), (2, .int a2)] := hl
  refine lv_iload_n hx hb dX2_put_0 rfl (lv_at hl 1 rfl) ?_
  refine lv_if_lt (tgt := 20) hx hb dX2_put_1 (by decide) (fun c_1 => ?_) (fun c_1 => ?_)
  · have e_0 : (f_X2_put_sf sz sf a1 a2) = sf := by rw [f_X2_put_sf, if_pos c_1]
    exact mu_retv CF hQ hr hlk hP hS dX2_put_20 (by rw [e_0])
  · refine lv_iload_n hx hb dX2_put_4 rfl (lv_at hl 1 rfl) ?_
    refine lv_aload_n hx hb dX2_put_5 rfl (lv_at hl 0 rfl) ?_
    refine r_get (C := RX2) (T := TX2) (N := 1) (v := .ref q1) CF hE hP 0 rfl rfl inG2 0 (by decide) tw_1_35 rfl rfl dX2_put_6 ?_
    refine r_alen (k := sz) (f := sf) CF hE hP 1 rfl dX2_put_9 ?_
    refine lv_icmp_ge (tgt := 20) hx hb dX2_put_10 (by decide) (fun c_2 => ?_) (fun c_2 => ?_)
    · have e_0 : (f_X2_put_sf sz sf a1 a2) = sf := by rw [f_X2_put_sf, if_neg c_1, if_pos c_2]
      exact mu_retv CF hQ hr hlk hP hS dX2_put_20 (by rw [e_0])
    · have nf1 : a1 = nI a1.toNatClampNeg := nf_tn (by assumption)
      have lt1 : a1.toNatClampNeg < sz := tn_lt (by assumption) (by assumption) rfl hsz
      refine lv_aload_n hx hb dX2_put_13 rfl (lv_at hl 0 rfl) ?_
      refine r_get (C := RX2) (T := TX2) (N := 1) (v := .ref q1) CF hE hP 0 rfl rfl inG2 0 (by decide) tw_1_35 rfl rfl dX2_put_14 ?_
      refine lv_iload_n hx hb dX2_put_17 rfl (lv_at hl 1 rfl) ?_
      refine lv_iload_n hx hb dX2_put_18 rfl (lv_at hl 2 rfl) ?_
      refine r_iast (k := sz) (f := sf) (ws' := [(q0, .inr (2, [.ref q1])), (q1, .inl (cI, sz, .inl (upd sf a1.toNatClampNeg a2)))]) CF hE hP hD hS 1 rfl a1.toNatClampNeg nf1 (by omega) (by omega) dX2_put_19 rfl (fun H locs hP hD hS => ?_)
      have e_0 : (f_X2_put_sf sz sf a1 a2) = (upd sf a1.toNatClampNeg a2) := by rw [f_X2_put_sf, if_neg c_1, if_neg c_2]
      exact mu_retv CF hQ hr hlk hP hS dX2_put_20 (by rw [e_0])
def S_X2_fill_2 (a1 : Int32) (k2 : Nat) (x2_0 : Nat → Int32) : (Nat → Int32) :=
  (upd x2_0 k2 a1)
def B_X2_fill_2 (a1 : Int32) (i0 : Nat → Int32) : Nat → (Nat → Int32)
  | 0 => i0
  | k + 1 => S_X2_fill_2 a1 k (B_X2_fill_2 a1 i0 k)
set_option maxRecDepth 100000 in
set_option maxHeartbeats 4000000 in
theorem c_X2_fill (l : Launch) (D : va_G) (cI cZ : ClassId) (q0 q1 : Nat) (sz : Nat) (sf : Nat → Int32) (a1 : Int32) (hsz : sz < 2 ^ 31) : MU l D cI cZ yX2_fill cX2_fill 3 none (mR 0 0) [.ref q0, .int a1] [(q0, .inr (2, [.ref q1])), (q1, .inl (cI, sz, .inl sf))] [(q0, .inr (2, [.ref q1])), (q1, .inl (cI, sz, .inl ((B_X2_fill_2 a1 sf sz))))] none := by
  refine MU.of (by decide +kernel) (Nat.le_of_ble_eq_true rfl) ?_
  intro p e s m args below meth c ls Q A CF hr hlk hP hE hD hS hQ hl
  have hx := CF.1
  have hb := CF.2.1
  have hl : lv_has ls 3 [(0, .ref q0), (1, .int a1)] := hl
  refine lv_iconst (v := 0) hx hb dX2_fill_0 (by decide) ?_
  refine lv_istore_n (lv' := [(2, .int 0), (0, .ref q0), (1, .int a1)]) hx hb dX2_fill_1 rfl hl (by decide) rfl (fun ls hl => ?_)
  have LOOP_2 : ∀ (n_2 k2 : Nat) (x2_0 : Nat → Int32) (H : Heap) (locs : List Loc) (ls : Array Slot), k2 ≤ sz → sz - k2 < n_2 → (B_X2_fill_2 a1 sf k2) = x2_0 → va_P D vwCl [(q0, .inr (2, [.ref q1])), (q1, .inl (cI, sz, .inl x2_0))] H → va_D A [(q0, .inr (2, [.ref q1])), (q1, .inl (cI, sz, .inl x2_0))] → va_S A s.heap H locs → lv_has ls 3 [(2, .int (nI k2)), (0, .ref q0), (1, .int a1)] → W p l e (mR 0 0) s m args below meth c H locs 0 0 Q (F0 m 2 ls []) := by
    intro n_2
    induction n_2 with
    | zero => intro k2 x2_0 H locs ls hk_2 hn_2 hB_2 hP hD hS hl; exact absurd hn_2 (Nat.not_lt_zero _)
    | succ n_2 ih_2 =>
      intro k2 x2_0 H locs ls hk_2 hn_2 hB_2 hP hD hS hl
      refine lv_iload_n hx hb dX2_fill_2 rfl (lv_at hl 0 rfl) ?_
      refine lv_aload_n hx hb dX2_fill_3 rfl (lv_at hl 1 rfl) ?_
      refine r_get (C := RX2) (T := TX2) (N := 1) (v := .ref q1) CF hE hP 0 rfl rfl inG2 0 (by decide) tw_1_35 rfl rfl dX2_fill_4 ?_
      refine r_alen (k := sz) (f := x2_0) CF hE hP 1 rfl dX2_fill_7 ?_
      refine lv_icmp_ge (tgt := 24) hx hb dX2_fill_8 (by decide) (fun c_1 => ?_) (fun c_1 => ?_)
      · have o_1 : sz ≤ k2 := (cle (rfl : nI sz = nI sz) (rfl : nI k2 = nI k2) (by omega) (by omega)).mp c_1
        have hkN : sz = k2 := by omega
        subst hkN
        subst hB_2
        exact mu_retv CF hQ hr hlk hP hS dX2_fill_24 rfl
      · have o_1 : ¬ sz ≤ k2 := fun h => c_1 ((cle (rfl : nI sz = nI sz) (rfl : nI k2 = nI k2) (by omega) (by omega)).mpr h)
        refine lv_aload_n hx hb dX2_fill_11 rfl (lv_at hl 1 rfl) ?_
        refine r_get (C := RX2) (T := TX2) (N := 1) (v := .ref q1) CF hE hP 0 rfl rfl inG2 0 (by decide) tw_1_35 rfl rfl dX2_fill_12 ?_
        refine lv_iload_n hx hb dX2_fill_15 rfl (lv_at hl 0 rfl) ?_
        refine lv_iload_n hx hb dX2_fill_16 rfl (lv_at hl 2 rfl) ?_
        refine r_iast (k := sz) (f := x2_0) (ws' := [(q0, .inr (2, [.ref q1])), (q1, .inl (cI, sz, .inl (upd x2_0 k2 a1)))]) CF hE hP hD hS 1 rfl k2 (rfl : nI k2 = nI k2) (by omega) (by omega) dX2_fill_17 rfl (fun H locs hP hD hS => ?_)
        refine lv_iinc (v := (nI (k2 + 1))) (lv' := [(2, .int (nI (k2 + 1))), (0, .ref q0), (1, .int a1)]) hx hb dX2_fill_18 hl (k := 0) rfl (nf_inc 1 (rfl : nI k2 = nI k2)) (by decide) rfl (fun ls hl => ?_)
        refine lv_goto (tgt := 2) hx hb dX2_fill_21 (by decide) ?_
        have hB2 : B_X2_fill_2 a1 sf (k2 + 1) = (upd x2_0 k2 a1) := by
          rw [B_X2_fill_2, hB_2]
          rw [S_X2_fill_2]
        exact ih_2 (k2 + 1) (upd x2_0 k2 a1) _ _ _ (by omega) (by omega) hB2 hP hD hS (lv_sub hl [0, 1, 2] rfl)
  have e_k : 0 = nI (0) := (nf_c 0).trans (congrArg nI (by omega))
  rw [e_k] at hl
  exact LOOP_2 (sz - 0 + 1) 0 sf _ _ _ (Nat.zero_le _) (by omega) rfl hP hD hS (lv_sub hl [0, 1, 2] rfl)
theorem lk_X2_19 : mLkV RX2 19 yX2_at cX2_at 2 (some .int) 1 := ⟨⟨tw_2_136, tw_1_3, tw_1_200, ⟨by decide +kernel, by decide +kernel, by decide +kernel⟩⟩, tw_1_198, tw_1_199⟩
theorem lk_X2_23 : mLkV RX2 23 yX2_put cX2_put 3 none 2 := ⟨⟨tw_2_137, tw_1_3, tw_1_172, ⟨by decide +kernel, by decide +kernel, by decide +kernel⟩⟩, tw_1_170, tw_1_171⟩
def S_X2_copy_3 (sz : Nat) (sy : Nat) (sg : Nat → Int32) (a1 : Int32) (a3 : Int32) (k3 : Nat) (x3_0 : Nat → Int32) : (Nat → Int32) :=
  (f_X2_put_sf sz x3_0 (a1 + (nI k3)) (f_X2_at sy sg (a3 + (nI k3))))
def B_X2_copy_3 (sz : Nat) (sy : Nat) (sg : Nat → Int32) (a1 : Int32) (a3 : Int32) (i0 : Nat → Int32) : Nat → (Nat → Int32)
  | 0 => i0
  | k + 1 => S_X2_copy_3 sz sy sg a1 a3 k (B_X2_copy_3 sz sy sg a1 a3 i0 k)
set_option maxRecDepth 100000 in
set_option maxHeartbeats 4000000 in
theorem c_X2_copy (l : Launch) (D : va_G) (cI cZ : ClassId) (q0 q1 q2 q3 : Nat) (sz : Nat) (sy : Nat) (sf : Nat → Int32) (sg : Nat → Int32) (a1 : Int32) (a3 : Int32) (a4 : Int32) (n4 : Nat) (h_a4 : a4 = nI n4) (hsz : sz < 2 ^ 31) (hsy : sy < 2 ^ 31) (hn4 : n4 < 2 ^ 31) : MU l D cI cZ yX2_copy cX2_copy 6 none (mR 1 22) [.ref q0, .int a1, .ref q2, .int a3, .int a4] [(q0, .inr (2, [.ref q1])), (q1, .inl (cI, sz, .inl sf)), (q2, .inr (2, [.ref q3])), (q3, .inl (cI, sy, .inl sg))] [(q0, .inr (2, [.ref q1])), (q1, .inl (cI, sz, .inl ((B_X2_copy_3 sz sy sg a1 a3 sf n4)))), (q2, .inr (2, [.ref q3])), (q3, .inl (cI, sy, .inl sg))] none := by
  refine MU.of (by decide +kernel) (Nat.le_of_ble_eq_true rfl) ?_
  intro p e s m args below meth c ls Q A CF hr hlk hP hE hD hS hQ hl
  have hx := CF.1
  have hb := CF.2.1
  have hl : lv_has ls 6 [(0, .ref q0), (1, .int a1), (2, .ref q2), (3, .int a3), (4, .int a4)] := hl
  refine lv_iconst (v := 0) hx hb dX2_copy_0 (by decide) ?_
  refine lv_istore (lv' := [(5, .int 0), (0, .ref q0), (1, .int a1), (2, .ref q2), (3, .int a3), (4, .int a4)]) hx hb dX2_copy_1 hl (by decide) rfl (fun ls hl => ?_)
  have LOOP_3 : ∀ (n_3 k3 : Nat) (x3_0 : Nat → Int32) (H : Heap) (locs : List Loc) (ls : Array Slot), k3 ≤ n4 → n4 - k3 < n_3 → (B_X2_copy_3 sz sy sg a1 a3 sf k3) = x3_0 → va_P D vwCl [(q0, .inr (2, [.ref q1])), (q1, .inl (cI, sz, .inl x3_0)), (q2, .inr (2, [.ref q3])), (q3, .inl (cI, sy, .inl sg))] H → va_D A [(q0, .inr (2, [.ref q1])), (q1, .inl (cI, sz, .inl x3_0)), (q2, .inr (2, [.ref q3])), (q3, .inl (cI, sy, .inl sg))] → va_S A s.heap H locs → lv_has ls 6 [(5, .int (nI k3)), (0, .ref q0), (1, .int a1), (2, .ref q2), (3, .int a3), (4, .int a4)] → W p l e (mR 1 22) s m args below meth c H locs 0 0 Q (F0 m 3 ls []) := by
    intro n_3
    induction n_3 with
    | zero => intro k3 x3_0 H locs ls hk_3 hn_3 hB_3 hP hD hS hl; exact absurd hn_3 (Nat.not_lt_zero _)
    | succ n_3 ih_3 =>
      intro k3 x3_0 H locs ls hk_3 hn_3 hB_3 hP hD hS hl
      refine lv_iload hx hb dX2_copy_3 (lv_at hl 0 rfl) ?_
      refine lv_iload hx hb dX2_copy_5 (lv_at hl 5 rfl) ?_
      refine lv_icmp_ge (tgt := 32) hx hb dX2_copy_7 (by decide) (fun c_1 => ?_) (fun c_1 => ?_)
      · have o_1 : n4 ≤ k3 := (cle h_a4 (rfl : nI k3 = nI k3) (by omega) (by omega)).mp c_1
        have hkN : n4 = k3 := by omega
        subst hkN
        subst hB_3
        exact mu_retv CF hQ hr hlk hP hS dX2_copy_32 rfl
      · have o_1 : ¬ n4 ≤ k3 := fun h => c_1 ((cle h_a4 (rfl : nI k3 = nI k3) (by omega) (by omega)).mpr h)
        refine lv_aload_n hx hb dX2_copy_10 rfl (lv_at hl 1 rfl) ?_
        refine lv_iload_n hx hb dX2_copy_11 rfl (lv_at hl 2 rfl) ?_
        refine lv_iload hx hb dX2_copy_12 (lv_at hl 0 rfl) ?_
        refine lv_iadd hx hb dX2_copy_14 ?_
        refine lv_aload_n hx hb dX2_copy_15 rfl (lv_at hl 3 rfl) ?_
        refine lv_iload_n hx hb dX2_copy_16 rfl (lv_at hl 4 rfl) ?_
        refine lv_iload hx hb dX2_copy_17 (lv_at hl 0 rfl) ?_
        refine lv_iadd hx hb dX2_copy_19 ?_
        refine ro_V (y := yX2_at) (As := [.int (a3 + (nI k3))]) (rest := [.int (a1 + (nI k3)), .ref q0]) (q0 := 2) CF (c_X2_at l D cI cZ q2 q3 sy sg (a3 + (nI k3)) (by omega)) lk_X2_19 hP hE [2, 3] rfl rfl rfl rfl hl.1 rfl (Nat.le_of_ble_eq_true rfl) ⟨Nat.le_of_ble_eq_true rfl, Nat.le_of_ble_eq_true rfl, rfl, rfl⟩ ⟨Nat.zero_le _, Nat.zero_le _⟩ dX2_copy_20 ?_
        refine mu_Vv (y := yX2_put) (As := [.int (a1 + (nI k3)), .int (f_X2_at sy sg (a3 + (nI k3)))]) (rest := []) (q0 := 0) (ws' := [(q0, .inr (2, [.ref q1])), (q1, .inl (cI, sz, .inl (f_X2_put_sf sz x3_0 (a1 + (nI k3)) (f_X2_at sy sg (a3 + (nI k3)))))), (q2, .inr (2, [.ref q3])), (q3, .inl (cI, sy, .inl sg))]) (ad := [q0, q1, q2, q3]) CF (c_X2_put l D cI cZ q0 q1 sz x3_0 (a1 + (nI k3)) (f_X2_at sy sg (a3 + (nI k3))) (by omega)) lk_X2_23 hP hE hD hS [0, 1] rfl (by decide) (Nat.le_of_ble_eq_true rfl) rfl rfl rfl rfl rfl rfl hl.1 rfl (Nat.le_of_ble_eq_true rfl) ⟨Nat.le_of_ble_eq_true rfl, Nat.le_of_ble_eq_true rfl, rfl, rfl⟩ ⟨Nat.zero_le _, Nat.zero_le _⟩ dX2_copy_23 (fun H locs hP hD hS => ?_)
        refine lv_iinc (v := (nI (k3 + 1))) (lv' := [(5, .int (nI (k3 + 1))), (0, .ref q0), (1, .int a1), (2, .ref q2), (3, .int a3), (4, .int a4)]) hx hb dX2_copy_26 hl (k := 0) rfl (nf_inc 1 (rfl : nI k3 = nI k3)) (by decide) rfl (fun ls hl => ?_)
        refine lv_goto (tgt := 3) hx hb dX2_copy_29 (by decide) ?_
        have hB2 : B_X2_copy_3 sz sy sg a1 a3 sf (k3 + 1) = (f_X2_put_sf sz x3_0 (a1 + (nI k3)) (f_X2_at sy sg (a3 + (nI k3)))) := by
          rw [B_X2_copy_3, hB_3]
          rw [S_X2_copy_3]
        exact ih_3 (k3 + 1) (f_X2_put_sf sz x3_0 (a1 + (nI k3)) (f_X2_at sy sg (a3 + (nI k3)))) _ _ _ (by omega) (by omega) hB2 hP hD hS (lv_sub hl [0, 1, 2, 3, 4, 5] rfl)
  have e_k : 0 = nI (0) := (nf_c 0).trans (congrArg nI (by omega))
  rw [e_k] at hl
  exact LOOP_3 (n4 - 0 + 1) 0 sf _ _ _ (Nat.zero_le _) (by omega) rfl hP hD hS (lv_sub hl [0, 1, 2, 3, 4, 5] rfl)
set_option maxRecDepth 100000 in
set_option maxHeartbeats 4000000 in
theorem c_X3_count (l : Launch) (D : va_G) (cI cZ : ClassId) (q0 : Nat) (sc : Int32) (su : Int32) (sp : Int32) : RO l D cI cZ yX3_count cX3_count 1 (some .int) (mR 0 0) [.ref q0] [(q0, .inr (3, [.int sc, .int su, .int sp]))] (some (.int sc)) := by
  refine RO.of (by decide +kernel) (Nat.le_of_ble_eq_true rfl) ?_
  intro p e s m args below meth c ls Q CF hr hlk hP hE hQ hl
  have hx := CF.1
  have hb := CF.2.1
  have hl : lv_has ls 1 [(0, .ref q0)] := hl
  refine lv_aload_n hx hb dX3_count_0 rfl (lv_at hl 0 rfl) ?_
  refine r_get (C := RX3) (T := TX3) (N := 3) (v := .int sc) CF hE hP 0 rfl rfl inG3 0 (by decide) tw_1_123 rfl rfl dX3_count_1 ?_
  exact ro_ret CF hQ hr hlk rfl dX3_count_4 rfl
def f_X3_add (sc : Int32) (a2 : Int32) : Int32 :=
  (if sc < 6 then (if a2 = 0 then (sc + 1) else (sc + 1)) else (-4))
def f_X3_add_sc (sc : Int32) (a2 : Int32) : Int32 :=
  (if sc < 6 then (if a2 = 0 then (sc + 1) else (sc + 1)) else sc)
def f_X3_add_su (sc : Int32) (su : Int32) (a1 : Int32) (a2 : Int32) : Int32 :=
  (if sc < 6 then (if a2 = 0 then su else (su ||| ((1 : Int32) <<< ((a1 : Int32) &&& 31)))) else su)
def f_X3_add_sp (sc : Int32) (sp : Int32) (a1 : Int32) (a2 : Int32) : Int32 :=
  (if sc < 6 then (if a2 = 0 then (sp ||| ((1 : Int32) <<< ((a1 : Int32) &&& 31))) else sp) else sp)
set_option maxRecDepth 100000 in
set_option maxHeartbeats 4000000 in
theorem c_X3_add (l : Launch) (D : va_G) (cI cZ : ClassId) (q0 : Nat) (sc : Int32) (su : Int32) (sp : Int32) (a1 : Int32) (a2 : Int32) : MU l D cI cZ yX3_add cX3_add 3 (some .int) (mR 0 0) [.ref q0, .int a1, .int a2] [(q0, .inr (3, [.int sc, .int su, .int sp]))] [(q0, .inr (3, [.int (f_X3_add_sc sc a2), .int (f_X3_add_su sc su a1 a2), .int (f_X3_add_sp sc sp a1 a2)]))] (some (.int (f_X3_add sc a2))) := by
  refine MU.of (by decide +kernel) (Nat.le_of_ble_eq_true rfl) ?_
  intro p e s m args below meth c ls Q A CF hr hlk hP hE hD hS hQ hl
  have hx := CF.1
  have hb := CF.2.1
  have hl : lv_has ls 3 [(0, .ref q0), (1, .int a1), (2, .int a2)] := hl
  refine lv_aload_n hx hb dX3_add_0 rfl (lv_at hl 0 rfl) ?_
  refine r_get (C := RX3) (T := TX3) (N := 3) (v := .int sc) CF hE hP 0 rfl rfl inG3 0 (by decide) tw_1_123 rfl rfl dX3_add_1 ?_
  refine lv_bipush (v := 6) hx hb dX3_add_4 (by decide) ?_
  refine lv_icmp_lt (tgt := 12) hx hb dX3_add_6 (by decide) (fun c_1 => ?_) (fun c_1 => ?_)
  · refine lv_iload_n hx hb dX3_add_12 rfl (lv_at hl 2 rfl) ?_
    refine lv_if_eq (tgt := 31) hx hb dX3_add_13 (by decide) (fun c_2 => ?_) (fun c_2 => ?_)
    · refine lv_aload_n hx hb dX3_add_31 rfl (lv_at hl 0 rfl) ?_
      refine lv_dup hx hb dX3_add_32 rfl ?_
      refine r_get (C := RX3) (T := TX3) (N := 3) (v := .int sp) CF hE hP 0 rfl rfl inG3 2 (by decide) tw_1_125 rfl rfl dX3_add_33 ?_
      refine lv_iconst (v := 1) hx hb dX3_add_36 (by decide) ?_
      refine lv_iload_n hx hb dX3_add_37 rfl (lv_at hl 1 rfl) ?_
      refine lv_ishl hx hb dX3_add_38 ?_
      refine lv_ior hx hb dX3_add_39 ?_
      refine r_put (C := RX3) (T := TX3) (N := 3) (ws' := [(q0, .inr (3, [.int sc, .int su, .int (sp ||| ((1 : Int32) <<< ((a1 : Int32) &&& 31)))]))]) CF hE hP hD hS 0 rfl rfl inG3 tyX3 tyX3_ok nmX3 2 (by decide) tw_1_125 rfl rfl rfl rfl (Nat.le_of_ble_eq_true rfl) dX3_add_40 rfl (fun H locs hP hD hS => ?_)
      refine lv_aload_n hx hb dX3_add_43 rfl (lv_at hl 0 rfl) ?_
      refine lv_dup hx hb dX3_add_44 rfl ?_
      refine r_get (C := RX3) (T := TX3) (N := 3) (v := .int sc) CF hE hP 0 rfl rfl inG3 0 (by decide) tw_1_123 rfl rfl dX3_add_45 ?_
      refine lv_iconst (v := 1) hx hb dX3_add_48 (by decide) ?_
      refine lv_iadd hx hb dX3_add_49 ?_
      refine r_put (C := RX3) (T := TX3) (N := 3) (ws' := [(q0, .inr (3, [.int (sc + 1), .int su, .int (sp ||| ((1 : Int32) <<< ((a1 : Int32) &&& 31)))]))]) CF hE hP hD hS 0 rfl rfl inG3 tyX3 tyX3_ok nmX3 0 (by decide) tw_1_123 rfl rfl rfl rfl (Nat.le_of_ble_eq_true rfl) dX3_add_50 rfl (fun H locs hP hD hS => ?_)
      refine lv_aload_n hx hb dX3_add_53 rfl (lv_at hl 0 rfl) ?_
      refine r_get (C := RX3) (T := TX3) (N := 3) (v := .int (sc + 1)) CF hE hP 0 rfl rfl inG3 0 (by decide) tw_1_123 rfl rfl dX3_add_54 ?_
      have e_0 : (f_X3_add_sc sc a2) = (sc + 1) := by rw [f_X3_add_sc, if_pos c_1, if_pos c_2]
      have e_1 : (f_X3_add_su sc su a1 a2) = su := by rw [f_X3_add_su, if_pos c_1, if_pos c_2]
      have e_2 : (f_X3_add_sp sc sp a1 a2) = (sp ||| ((1 : Int32) <<< ((a1 : Int32) &&& 31))) := by rw [f_X3_add_sp, if_pos c_1, if_pos c_2]
      exact mu_reti CF hQ hr hlk rfl hP hS dX3_add_57 (by rw [f_X3_add, if_pos c_1, if_pos c_2]) (by rw [e_0, e_1, e_2])
    · refine lv_aload_n hx hb dX3_add_16 rfl (lv_at hl 0 rfl) ?_
      refine lv_dup hx hb dX3_add_17 rfl ?_
      refine r_get (C := RX3) (T := TX3) (N := 3) (v := .int su) CF hE hP 0 rfl rfl inG3 1 (by decide) tw_1_124 rfl rfl dX3_add_18 ?_
      refine lv_iconst (v := 1) hx hb dX3_add_21 (by decide) ?_
      refine lv_iload_n hx hb dX3_add_22 rfl (lv_at hl 1 rfl) ?_
      refine lv_ishl hx hb dX3_add_23 ?_
      refine lv_ior hx hb dX3_add_24 ?_
      refine r_put (C := RX3) (T := TX3) (N := 3) (ws' := [(q0, .inr (3, [.int sc, .int (su ||| ((1 : Int32) <<< ((a1 : Int32) &&& 31))), .int sp]))]) CF hE hP hD hS 0 rfl rfl inG3 tyX3 tyX3_ok nmX3 1 (by decide) tw_1_124 rfl rfl rfl rfl (Nat.le_of_ble_eq_true rfl) dX3_add_25 rfl (fun H locs hP hD hS => ?_)
      refine lv_goto (tgt := 43) hx hb dX3_add_28 (by decide) ?_
      refine lv_aload_n hx hb dX3_add_43 rfl (lv_at hl 0 rfl) ?_
      refine lv_dup hx hb dX3_add_44 rfl ?_
      refine r_get (C := RX3) (T := TX3) (N := 3) (v := .int sc) CF hE hP 0 rfl rfl inG3 0 (by decide) tw_1_123 rfl rfl dX3_add_45 ?_
      refine lv_iconst (v := 1) hx hb dX3_add_48 (by decide) ?_
      refine lv_iadd hx hb dX3_add_49 ?_
      refine r_put (C := RX3) (T := TX3) (N := 3) (ws' := [(q0, .inr (3, [.int (sc + 1), .int (su ||| ((1 : Int32) <<< ((a1 : Int32) &&& 31))), .int sp]))]) CF hE hP hD hS 0 rfl rfl inG3 tyX3 tyX3_ok nmX3 0 (by decide) tw_1_123 rfl rfl rfl rfl (Nat.le_of_ble_eq_true rfl) dX3_add_50 rfl (fun H locs hP hD hS => ?_)
      refine lv_aload_n hx hb dX3_add_53 rfl (lv_at hl 0 rfl) ?_
      refine r_get (C := RX3) (T := TX3) (N := 3) (v := .int (sc + 1)) CF hE hP 0 rfl rfl inG3 0 (by decide) tw_1_123 rfl rfl dX3_add_54 ?_
      have e_0 : (f_X3_add_sc sc a2) = (sc + 1) := by rw [f_X3_add_sc, if_pos c_1, if_neg c_2]
      have e_1 : (f_X3_add_su sc su a1 a2) = (su ||| ((1 : Int32) <<< ((a1 : Int32) &&& 31))) := by rw [f_X3_add_su, if_pos c_1, if_neg c_2]
      have e_2 : (f_X3_add_sp sc sp a1 a2) = sp := by rw [f_X3_add_sp, if_pos c_1, if_neg c_2]
      exact mu_reti CF hQ hr hlk rfl hP hS dX3_add_57 (by rw [f_X3_add, if_pos c_1, if_neg c_2]) (by rw [e_0, e_1, e_2])
  · refine lv_bipush (v := (-4)) hx hb dX3_add_9 (by decide) ?_
    have e_0 : (f_X3_add_sc sc a2) = sc := by rw [f_X3_add_sc, if_neg c_1]
    have e_1 : (f_X3_add_su sc su a1 a2) = su := by rw [f_X3_add_su, if_neg c_1]
    have e_2 : (f_X3_add_sp sc sp a1 a2) = sp := by rw [f_X3_add_sp, if_neg c_1]
    exact mu_reti CF hQ hr hlk rfl hP hS dX3_add_11 (by rw [f_X3_add, if_neg c_1]) (by rw [e_0, e_1, e_2])
set_option maxRecDepth 100000 in
set_option maxHeartbeats 4000000 in
theorem c_X3_clear (l : Launch) (D : va_G) (cI cZ : ClassId) (q0 : Nat) (sc : Int32) (su : Int32) (sp : Int32) : MU l D cI cZ yX3_clear cX3_clear 2 (some .int) (mR 0 0) [.ref q0] [(q0, .inr (3, [.int sc, .int su, .int sp]))] [(q0, .inr (3, [.int 0, .int 0, .int 0]))] (some (.int sc)) := by
  refine MU.of (by decide +kernel) (Nat.le_of_ble_eq_true rfl) ?_
  intro p e s m args below meth c ls Q A CF hr hlk hP hE hD hS hQ hl
  have hx := CF.1
  have hb := CF.2.1
  have hl : lv_has ls 2 [(0, .ref q0)] := hl
  refine lv_aload_n hx hb dX3_clear_0 rfl (lv_at hl 0 rfl) ?_
  refine r_get (C := RX3) (T := TX3) (N := 3) (v := .int sc) CF hE hP 0 rfl rfl inG3 0 (by decide) tw_1_123 rfl rfl dX3_clear_1 ?_
  refine lv_istore_n (lv' := [(1, .int sc), (0, .ref q0)]) hx hb dX3_clear_4 rfl hl (by decide) rfl (fun ls hl => ?_)
  refine lv_aload_n hx hb dX3_clear_5 rfl (lv_at hl 1 rfl) ?_
  refine lv_iconst (v := 0) hx hb dX3_clear_6 (by decide) ?_
  refine r_put (C := RX3) (T := TX3) (N := 3) (ws' := [(q0, .inr (3, [.int 0, .int su, .int sp]))]) CF hE hP hD hS 0 rfl rfl inG3 tyX3 tyX3_ok nmX3 0 (by decide) tw_1_123 rfl rfl rfl rfl (Nat.le_of_ble_eq_true rfl) dX3_clear_7 rfl (fun H locs hP hD hS => ?_)
  refine lv_aload_n hx hb dX3_clear_10 rfl (lv_at hl 1 rfl) ?_
  refine lv_iconst (v := 0) hx hb dX3_clear_11 (by decide) ?_
  refine r_put (C := RX3) (T := TX3) (N := 3) (ws' := [(q0, .inr (3, [.int 0, .int 0, .int sp]))]) CF hE hP hD hS 0 rfl rfl inG3 tyX3 tyX3_ok nmX3 1 (by decide) tw_1_124 rfl rfl rfl rfl (Nat.le_of_ble_eq_true rfl) dX3_clear_12 rfl (fun H locs hP hD hS => ?_)
  refine lv_aload_n hx hb dX3_clear_15 rfl (lv_at hl 1 rfl) ?_
  refine lv_iconst (v := 0) hx hb dX3_clear_16 (by decide) ?_
  refine r_put (C := RX3) (T := TX3) (N := 3) (ws' := [(q0, .inr (3, [.int 0, .int 0, .int 0]))]) CF hE hP hD hS 0 rfl rfl inG3 tyX3 tyX3_ok nmX3 2 (by decide) tw_1_125 rfl rfl rfl rfl (Nat.le_of_ble_eq_true rfl) dX3_clear_17 rfl (fun H locs hP hD hS => ?_)
  refine lv_iload_n hx hb dX3_clear_20 rfl (lv_at hl 0 rfl) ?_
  exact mu_reti CF hQ hr hlk rfl hP hS dX3_clear_21 rfl rfl
def f_X3_allows (su : Int32) (sp : Int32) (a1 : Int32) : Int32 :=
  (if (a1 &&& su) = su then (if (a1 &&& sp) = 0 then 1 else 0) else 0)
theorem z_f_X3_allows (su : Int32) (sp : Int32) (a1 : Int32) : narrow .boolean (.int (f_X3_allows su sp a1)) = .int (f_X3_allows su sp a1) := by
  unfold f_X3_allows
  repeat' split
  all_goals first | rfl
set_option maxRecDepth 100000 in
set_option maxHeartbeats 4000000 in
theorem c_X3_allows (l : Launch) (D : va_G) (cI cZ : ClassId) (q0 : Nat) (sc : Int32) (su : Int32) (sp : Int32) (a1 : Int32) : RO l D cI cZ yX3_allows cX3_allows 2 (some .boolean) (mR 0 0) [.ref q0, .int a1] [(q0, .inr (3, [.int sc, .int su, .int sp]))] (some (.int (f_X3_allows su sp a1))) := by
  refine RO.of (by decide +kernel) (Nat.le_of_ble_eq_true rfl) ?_
  intro p e s m args below meth c ls Q CF hr hlk hP hE hQ hl
  have hx := CF.1
  have hb := CF.2.1
  have hl : lv_has ls 2 [(0, .ref q0), (1, .int a1)] := hl
  refine lv_iload_n hx hb dX3_allows_0 rfl (lv_at hl 1 rfl) ?_
  refine lv_aload_n hx hb dX3_allows_1 rfl (lv_at hl 0 rfl) ?_
  refine r_get (C := RX3) (T := TX3) (N := 3) (v := .int su) CF hE hP 0 rfl rfl inG3 1 (by decide) tw_1_124 rfl rfl dX3_allows_2 ?_
  refine lv_iand hx hb dX3_allows_5 ?_
  refine lv_aload_n hx hb dX3_allows_6 rfl (lv_at hl 0 rfl) ?_
  refine r_get (C := RX3) (T := TX3) (N := 3) (v := .int su) CF hE hP 0 rfl rfl inG3 1 (by decide) tw_1_124 rfl rfl dX3_allows_7 ?_
  refine lv_icmp_ne (tgt := 26) hx hb dX3_allows_10 (by decide) (fun c_1 => ?_) (fun c_1 => ?_)
  · refine lv_iconst (v := 0) hx hb dX3_allows_26 (by decide) ?_
    exact ro_ret CF hQ hr hlk rfl dX3_allows_27 (by rw [f_X3_allows, if_neg c_1])
  · refine lv_iload_n hx hb dX3_allows_13 rfl (lv_at hl 1 rfl) ?_
    refine lv_aload_n hx hb dX3_allows_14 rfl (lv_at hl 0 rfl) ?_
    refine r_get (C := RX3) (T := TX3) (N := 3) (v := .int sp) CF hE hP 0 rfl rfl inG3 2 (by decide) tw_1_125 rfl rfl dX3_allows_15 ?_
    refine lv_iand hx hb dX3_allows_18 ?_
    refine lv_if_ne (tgt := 26) hx hb dX3_allows_19 (by decide) (fun c_2 => ?_) (fun c_2 => ?_)
    · refine lv_iconst (v := 0) hx hb dX3_allows_26 (by decide) ?_
      exact ro_ret CF hQ hr hlk rfl dX3_allows_27 (by rw [f_X3_allows, if_pos c_1, if_neg c_2])
    · refine lv_iconst (v := 1) hx hb dX3_allows_22 (by decide) ?_
      refine lv_goto (tgt := 27) hx hb dX3_allows_23 (by decide) ?_
      exact ro_ret CF hQ hr hlk rfl dX3_allows_27 (by rw [f_X3_allows, if_pos c_1, if_pos c_2])
theorem lk_X4_21 : mLkV RX4 21 yX2_copy cX2_copy 6 none 4 := ⟨⟨tw_2_132, tw_1_3, tw_2_135, ⟨by decide +kernel, by decide +kernel, by decide +kernel⟩⟩, tw_2_133, tw_2_134⟩
set_option maxRecDepth 100000 in
set_option maxHeartbeats 4000000 in
theorem c_X4_store (l : Launch) (D : va_G) (cI cZ : ClassId) (q0 q1 q2 q3 q4 q5 q6 : Nat) (sz : Nat) (sf : Nat → Int32) (nw : Nat → Int32) (a1 : Int32) (hsz : sz < 2 ^ 31) : MU l D cI cZ yX4_store cX4_store 3 none (mR 2 47) [.ref q0, .int a1, .ref q3] [(q0, .inr (4, [.ref q1])), (q1, .inr (2, [.ref q2])), (q2, .inl (cI, sz, .inl sf)), (q3, .inr (1, [.ref q4, .ref q5])), (q5, .inr (2, [.ref q6])), (q6, .inl (cI, 15, .inl nw))] [(q0, .inr (4, [.ref q1])), (q1, .inr (2, [.ref q2])), (q2, .inl (cI, sz, .inl ((B_X2_copy_3 sz 15 nw (a1 * 15) 0 sf 15)))), (q3, .inr (1, [.ref q4, .ref q5])), (q5, .inr (2, [.ref q6])), (q6, .inl (cI, 15, .inl nw))] none := by
  refine MU.of (by decide +kernel) (Nat.le_of_ble_eq_true rfl) ?_
  intro p e s m args below meth c ls Q A CF hr hlk hP hE hD hS hQ hl
  have hx := CF.1
  have hb := CF.2.1
  have hl : lv_has ls 3 [(0, .ref q0), (1, .int a1), (2, .ref q3)] := hl
  refine lv_aload_n hx hb dX4_store_0 rfl (lv_at hl 0 rfl) ?_
  refine r_get (C := RX4) (T := TX4) (N := 1) (v := .ref q1) CF hE hP 0 rfl rfl inG4 0 (by decide) tw_1_101 rfl rfl dX4_store_1 ?_
  refine lv_iload_n hx hb dX4_store_4 rfl (lv_at hl 1 rfl) ?_
  refine lv_bipush (v := 15) hx hb dX4_store_5 (by decide) ?_
  refine lv_imul hx hb dX4_store_7 ?_
  refine lv_aload_n hx hb dX4_store_8 rfl (lv_at hl 2 rfl) ?_
  refine r_getN (C := RX1) (T := TX1) (N := 2) (v := .ref q5) (host := RX7) CF hE hP 3 rfl rfl inG1 1 (by decide) (by decide +kernel) rfl rfl dX4_store_9 ?_
  refine lv_iconst (v := 0) hx hb dX4_store_12 (by decide) ?_
  refine lv_bipush (v := 15) hx hb dX4_store_13 (by decide) ?_
  refine mu_Vv (y := yX2_copy) (As := [.int (a1 * 15), .ref q5, .int 0, .int 15]) (rest := []) (q0 := 1) (ws' := [(q0, .inr (4, [.ref q1])), (q1, .inr (2, [.ref q2])), (q2, .inl (cI, sz, .inl ((B_X2_copy_3 sz 15 nw (a1 * 15) 0 sf 15)))), (q3, .inr (1, [.ref q4, .ref q5])), (q5, .inr (2, [.ref q6])), (q6, .inl (cI, 15, .inl nw))]) (ad := [q0, q1, q2, q3, q5, q6]) CF (c_X2_copy l D cI cZ q1 q2 q5 q6 sz 15 sf nw (a1 * 15) 0 15 15 (nf_c 15) (by omega) (by omega) (by omega)) lk_X4_21 hP hE hD hS [1, 2, 4, 5] rfl (by decide) (Nat.le_of_ble_eq_true rfl) rfl rfl rfl rfl rfl rfl hl.1 rfl (Nat.le_of_ble_eq_true rfl) ⟨Nat.le_of_ble_eq_true rfl, Nat.le_of_ble_eq_true rfl, rfl, rfl⟩ ⟨Nat.zero_le _, Nat.zero_le _⟩ dX4_store_15 (fun H locs hP hD hS => ?_)
  exact mu_retv CF hQ hr hlk hP hS dX4_store_18 rfl
set_option maxRecDepth 100000 in
set_option maxHeartbeats 4000000 in
theorem c_X4_fetch (l : Launch) (D : va_G) (cI cZ : ClassId) (q0 q1 q2 q3 q4 q5 q6 : Nat) (sz : Nat) (sf : Nat → Int32) (nw : Nat → Int32) (a1 : Int32) (hsz : sz < 2 ^ 31) : MU l D cI cZ yX4_fetch cX4_fetch 3 none (mR 2 47) [.ref q0, .int a1, .ref q3] [(q0, .inr (4, [.ref q1])), (q1, .inr (2, [.ref q2])), (q2, .inl (cI, sz, .inl sf)), (q3, .inr (1, [.ref q4, .ref q5])), (q5, .inr (2, [.ref q6])), (q6, .inl (cI, 15, .inl nw))] [(q0, .inr (4, [.ref q1])), (q1, .inr (2, [.ref q2])), (q2, .inl (cI, sz, .inl sf)), (q3, .inr (1, [.ref q4, .ref q5])), (q5, .inr (2, [.ref q6])), (q6, .inl (cI, 15, .inl ((B_X2_copy_3 15 sz sf 0 (a1 * 15) nw 15))))] none := by
  refine MU.of (by decide +kernel) (Nat.le_of_ble_eq_true rfl) ?_
  intro p e s m args below meth c ls Q A CF hr hlk hP hE hD hS hQ hl
  have hx := CF.1
  have hb := CF.2.1
  have hl : lv_has ls 3 [(0, .ref q0), (1, .int a1), (2, .ref q3)] := hl
  refine lv_aload_n hx hb dX4_fetch_0 rfl (lv_at hl 2 rfl) ?_
  refine r_getN (C := RX1) (T := TX1) (N := 2) (v := .ref q5) (host := RX7) CF hE hP 3 rfl rfl inG1 1 (by decide) (by decide +kernel) rfl rfl dX4_fetch_1 ?_
  refine lv_iconst (v := 0) hx hb dX4_fetch_4 (by decide) ?_
  refine lv_aload_n hx hb dX4_fetch_5 rfl (lv_at hl 0 rfl) ?_
  refine r_get (C := RX4) (T := TX4) (N := 1) (v := .ref q1) CF hE hP 0 rfl rfl inG4 0 (by decide) tw_1_101 rfl rfl dX4_fetch_6 ?_
  refine lv_iload_n hx hb dX4_fetch_9 rfl (lv_at hl 1 rfl) ?_
  refine lv_bipush (v := 15) hx hb dX4_fetch_10 (by decide) ?_
  refine lv_imul hx hb dX4_fetch_12 ?_
  refine lv_bipush (v := 15) hx hb dX4_fetch_13 (by decide) ?_
  refine mu_Vv (y := yX2_copy) (As := [.int 0, .ref q1, .int (a1 * 15), .int 15]) (rest := []) (q0 := 4) (ws' := [(q0, .inr (4, [.ref q1])), (q1, .inr (2, [.ref q2])), (q2, .inl (cI, sz, .inl sf)), (q3, .inr (1, [.ref q4, .ref q5])), (q5, .inr (2, [.ref q6])), (q6, .inl (cI, 15, .inl ((B_X2_copy_3 15 sz sf 0 (a1 * 15) nw 15))))]) (ad := [q0, q1, q2, q3, q5, q6]) CF (c_X2_copy l D cI cZ q5 q6 q1 q2 15 sz nw sf 0 (a1 * 15) 15 15 (nf_c 15) (by omega) (by omega) (by omega)) lk_X4_21 hP hE hD hS [4, 5, 1, 2] rfl (by decide) (Nat.le_of_ble_eq_true rfl) rfl rfl rfl rfl rfl rfl hl.1 rfl (Nat.le_of_ble_eq_true rfl) ⟨Nat.le_of_ble_eq_true rfl, Nat.le_of_ble_eq_true rfl, rfl, rfl⟩ ⟨Nat.zero_le _, Nat.zero_le _⟩ dX4_fetch_15 (fun H locs hP hD hS => ?_)
  exact mu_retv CF hQ hr hlk hP hS dX4_fetch_18 rfl
set_option maxRecDepth 100000 in
set_option maxHeartbeats 4000000 in
theorem c_X5_people (l : Launch) (D : va_G) (cI cZ : ClassId) (q0 t1 t3 t5 : Nat) (nP : Nat) (nR : Nat) : RO l D cI cZ yX5_people cX5_people 1 (some .int) (mR 0 0) [.ref q0] [(q0, .inr (5, [.ref t1, .ref t3, .ref t5, .int (nI nP), .int (nI nR)]))] (some (.int (nI nP))) := by
  refine RO.of (by decide +kernel) (Nat.le_of_ble_eq_true rfl) ?_
  intro p e s m args below meth c ls Q CF hr hlk hP hE hQ hl
  have hx := CF.1
  have hb := CF.2.1
  have hl : lv_has ls 1 [(0, .ref q0)] := hl
  refine lv_aload_n hx hb dX5_people_0 rfl (lv_at hl 0 rfl) ?_
  refine r_get (C := RX5) (T := TX5) (N := 5) (v := .int (nI nP)) CF hE hP 0 rfl rfl inG5 3 (by decide) tw_1_43 rfl rfl dX5_people_1 ?_
  exact ro_ret CF hQ hr hlk rfl dX5_people_4 rfl
set_option maxRecDepth 100000 in
set_option maxHeartbeats 4000000 in
theorem c_X5_rules (l : Launch) (D : va_G) (cI cZ : ClassId) (q0 t1 t3 t5 : Nat) (nP : Nat) (nR : Nat) : RO l D cI cZ yX5_rules cX5_rules 1 (some .int) (mR 0 0) [.ref q0] [(q0, .inr (5, [.ref t1, .ref t3, .ref t5, .int (nI nP), .int (nI nR)]))] (some (.int (nI nR))) := by
  refine RO.of (by decide +kernel) (Nat.le_of_ble_eq_true rfl) ?_
  intro p e s m args below meth c ls Q CF hr hlk hP hE hQ hl
  have hx := CF.1
  have hb := CF.2.1
  have hl : lv_has ls 1 [(0, .ref q0)] := hl
  refine lv_aload_n hx hb dX5_rules_0 rfl (lv_at hl 0 rfl) ?_
  refine r_get (C := RX5) (T := TX5) (N := 5) (v := .int (nI nR)) CF hE hP 0 rfl rfl inG5 4 (by decide) tw_1_44 rfl rfl dX5_rules_1 ?_
  exact ro_ret CF hQ hr hlk rfl dX5_rules_4 rfl
theorem lk_X5_33 : mLkV RX5 33 yX2_at cX2_at 2 (some .int) 1 := ⟨⟨tw_2_67, tw_1_3, tw_1_200, ⟨by decide +kernel, by decide +kernel, by decide +kernel⟩⟩, tw_1_198, tw_1_199⟩
set_option maxRecDepth 100000 in
set_option maxHeartbeats 4000000 in
theorem c_X5_kind (l : Launch) (D : va_G) (cI cZ : ClassId) (q0 t1 t3 t5 t2 : Nat) (nP : Nat) (nR : Nat) (kd : Nat → Int32) (a1 : Int32) : RO l D cI cZ yX5_kind cX5_kind 2 (some .int) (mR 1 21) [.ref q0, .int a1] [(q0, .inr (5, [.ref t1, .ref t3, .ref t5, .int (nI nP), .int (nI nR)])), (t1, .inr (2, [.ref t2])), (t2, .inl (cI, 5, .inl kd))] (some (.int (f_X2_at 5 kd a1))) := by
  refine RO.of (by decide +kernel) (Nat.le_of_ble_eq_true rfl) ?_
  intro p e s m args below meth c ls Q CF hr hlk hP hE hQ hl
  have hx := CF.1
  have hb := CF.2.1
  have hl : lv_has ls 2 [(0, .ref q0), (1, .int a1)] := hl
  refine lv_aload_n hx hb dX5_kind_0 rfl (lv_at hl 0 rfl) ?_
  refine r_get (C := RX5) (T := TX5) (N := 5) (v := .ref t1) CF hE hP 0 rfl rfl inG5 0 (by decide) tw_1_40 rfl rfl dX5_kind_1 ?_
  refine lv_iload_n hx hb dX5_kind_4 rfl (lv_at hl 1 rfl) ?_
  refine ro_V (y := yX2_at) (As := [.int a1]) (rest := []) (q0 := 1) CF (c_X2_at l D cI cZ t1 t2 5 kd a1 (by omega)) lk_X5_33 hP hE [1, 2] rfl rfl rfl rfl hl.1 rfl (Nat.le_of_ble_eq_true rfl) ⟨Nat.le_of_ble_eq_true rfl, Nat.le_of_ble_eq_true rfl, rfl, rfl⟩ ⟨Nat.zero_le _, Nat.zero_le _⟩ dX5_kind_5 ?_
  exact ro_ret CF hQ hr hlk rfl dX5_kind_8 rfl
set_option maxRecDepth 100000 in
set_option maxHeartbeats 4000000 in
theorem c_X5_clear (l : Launch) (D : va_G) (cI cZ : ClassId) (q0 t1 t3 t5 : Nat) (nP : Nat) (nR : Nat) : MU l D cI cZ yX5_clear cX5_clear 1 none (mR 0 0) [.ref q0] [(q0, .inr (5, [.ref t1, .ref t3, .ref t5, .int (nI nP), .int (nI nR)]))] [(q0, .inr (5, [.ref t1, .ref t3, .ref t5, .int (nI 0), .int (nI 0)]))] none := by
  refine MU.of (by decide +kernel) (Nat.le_of_ble_eq_true rfl) ?_
  intro p e s m args below meth c ls Q A CF hr hlk hP hE hD hS hQ hl
  have hx := CF.1
  have hb := CF.2.1
  have hl : lv_has ls 1 [(0, .ref q0)] := hl
  refine lv_aload_n hx hb dX5_clear_0 rfl (lv_at hl 0 rfl) ?_
  refine lv_iconst (v := 0) hx hb dX5_clear_1 (by decide) ?_
  refine lv_as (z := (nI 0)) (nf_c 0) ?_
  refine r_put (C := RX5) (T := TX5) (N := 5) (ws' := [(q0, .inr (5, [.ref t1, .ref t3, .ref t5, .int (nI 0), .int (nI nR)]))]) CF hE hP hD hS 0 rfl rfl inG5 tyX5 tyX5_ok nmX5 3 (by decide) tw_1_43 rfl rfl rfl rfl (Nat.le_of_ble_eq_true rfl) dX5_clear_2 rfl (fun H locs hP hD hS => ?_)
  refine lv_aload_n hx hb dX5_clear_5 rfl (lv_at hl 0 rfl) ?_
  refine lv_iconst (v := 0) hx hb dX5_clear_6 (by decide) ?_
  refine lv_as (z := (nI 0)) (nf_c 0) ?_
  refine r_put (C := RX5) (T := TX5) (N := 5) (ws' := [(q0, .inr (5, [.ref t1, .ref t3, .ref t5, .int (nI 0), .int (nI 0)]))]) CF hE hP hD hS 0 rfl rfl inG5 tyX5 tyX5_ok nmX5 4 (by decide) tw_1_44 rfl rfl rfl rfl (Nat.le_of_ble_eq_true rfl) dX5_clear_7 rfl (fun H locs hP hD hS => ?_)
  exact mu_retv CF hQ hr hlk hP hS dX5_clear_10 rfl
theorem lk_X5_37 : mLkV RX5 37 yX2_put cX2_put 3 none 2 := ⟨⟨tw_2_10, tw_1_3, tw_1_172, ⟨by decide +kernel, by decide +kernel, by decide +kernel⟩⟩, tw_1_170, tw_1_171⟩
def f_X5_addPerson (nP : Nat) : Int32 :=
  (if 5 ≤ (nI nP) then (nI nP) else (nI nP))
def f_X5_addPerson_kd (nP : Nat) (kd : Nat → Int32) (a1 : Int32) : Nat → Int32 :=
  (if 5 ≤ (nI nP) then kd else (f_X2_put_sf 5 kd (nI nP) a1))
def f_X5_addPerson_nP (nP : Nat) : Nat :=
  (if 5 ≤ (nI nP) then nP else (nP + 1))
set_option maxRecDepth 100000 in
set_option maxHeartbeats 4000000 in
theorem c_X5_addPerson (l : Launch) (D : va_G) (cI cZ : ClassId) (q0 t1 t3 t5 t2 : Nat) (nP : Nat) (nR : Nat) (kd : Nat → Int32) (a1 : Int32) : MU l D cI cZ yX5_addPerson cX5_addPerson 3 (some .int) (mR 1 22) [.ref q0, .int a1] [(q0, .inr (5, [.ref t1, .ref t3, .ref t5, .int (nI nP), .int (nI nR)])), (t1, .inr (2, [.ref t2])), (t2, .inl (cI, 5, .inl kd))] [(q0, .inr (5, [.ref t1, .ref t3, .ref t5, .int (nI (f_X5_addPerson_nP nP)), .int (nI nR)])), (t1, .inr (2, [.ref t2])), (t2, .inl (cI, 5, .inl (f_X5_addPerson_kd nP kd a1)))] (some (.int (f_X5_addPerson nP))) := by
  refine MU.of (by decide +kernel) (Nat.le_of_ble_eq_true rfl) ?_
  intro p e s m args below meth c ls Q A CF hr hlk hP hE hD hS hQ hl
  have hx := CF.1
  have hb := CF.2.1
  have hl : lv_has ls 3 [(0, .ref q0), (1, .int a1)] := hl
  refine lv_aload_n hx hb dX5_addPerson_0 rfl (lv_at hl 0 rfl) ?_
  refine r_get (C := RX5) (T := TX5) (N := 5) (v := .int (nI nP)) CF hE hP 0 rfl rfl inG5 3 (by decide) tw_1_43 rfl rfl dX5_addPerson_1 ?_
  refine lv_istore_n (lv' := [(2, .int (nI nP)), (0, .ref q0), (1, .int a1)]) hx hb dX5_addPerson_4 rfl hl (by decide) rfl (fun ls hl => ?_)
  refine lv_aload_n hx hb dX5_addPerson_5 rfl (lv_at hl 1 rfl) ?_
  refine r_get (C := RX5) (T := TX5) (N := 5) (v := .int (nI nP)) CF hE hP 0 rfl rfl inG5 3 (by decide) tw_1_43 rfl rfl dX5_addPerson_6 ?_
  refine lv_iconst (v := 5) hx hb dX5_addPerson_9 (by decide) ?_
  refine lv_icmp_ge (tgt := 32) hx hb dX5_addPerson_10 (by decide) (fun c_1 => ?_) (fun c_1 => ?_)
  · refine lv_iload_n hx hb dX5_addPerson_32 rfl (lv_at hl 0 rfl) ?_
    have e_0 : (f_X5_addPerson_kd nP kd a1) = kd := by rw [f_X5_addPerson_kd, if_pos c_1]
    have e_1 : (f_X5_addPerson_nP nP) = nP := by rw [f_X5_addPerson_nP, if_pos c_1]
    exact mu_reti CF hQ hr hlk rfl hP hS dX5_addPerson_33 (by rw [f_X5_addPerson, if_pos c_1]) (by rw [e_0, e_1])
  · refine lv_aload_n hx hb dX5_addPerson_13 rfl (lv_at hl 1 rfl) ?_
    refine r_get (C := RX5) (T := TX5) (N := 5) (v := .ref t1) CF hE hP 0 rfl rfl inG5 0 (by decide) tw_1_40 rfl rfl dX5_addPerson_14 ?_
    refine lv_iload_n hx hb dX5_addPerson_17 rfl (lv_at hl 0 rfl) ?_
    refine lv_iload_n hx hb dX5_addPerson_18 rfl (lv_at hl 2 rfl) ?_
    refine mu_Vv (y := yX2_put) (As := [.int (nI nP), .int a1]) (rest := []) (q0 := 1) (ws' := [(q0, .inr (5, [.ref t1, .ref t3, .ref t5, .int (nI nP), .int (nI nR)])), (t1, .inr (2, [.ref t2])), (t2, .inl (cI, 5, .inl (f_X2_put_sf 5 kd (nI nP) a1)))]) (ad := [q0, t1, t2]) CF (c_X2_put l D cI cZ t1 t2 5 kd (nI nP) a1 (by omega)) lk_X5_37 hP hE hD hS [1, 2] rfl (by decide) (Nat.le_of_ble_eq_true rfl) rfl rfl rfl rfl rfl rfl hl.1 rfl (Nat.le_of_ble_eq_true rfl) ⟨Nat.le_of_ble_eq_true rfl, Nat.le_of_ble_eq_true rfl, rfl, rfl⟩ ⟨Nat.zero_le _, Nat.zero_le _⟩ dX5_addPerson_19 (fun H locs hP hD hS => ?_)
    refine lv_aload_n hx hb dX5_addPerson_22 rfl (lv_at hl 1 rfl) ?_
    refine lv_dup hx hb dX5_addPerson_23 rfl ?_
    refine r_get (C := RX5) (T := TX5) (N := 5) (v := .int (nI nP)) CF hE hP 0 rfl rfl inG5 3 (by decide) tw_1_43 rfl rfl dX5_addPerson_24 ?_
    refine lv_iconst (v := 1) hx hb dX5_addPerson_27 (by decide) ?_
    refine lv_iadd hx hb dX5_addPerson_28 ?_
    refine lv_as (z := (nI (nP + 1))) (nf_add (rfl : nI nP = nI nP) (nf_c 1)) ?_
    refine r_put (C := RX5) (T := TX5) (N := 5) (ws' := [(q0, .inr (5, [.ref t1, .ref t3, .ref t5, .int (nI (nP + 1)), .int (nI nR)])), (t1, .inr (2, [.ref t2])), (t2, .inl (cI, 5, .inl (f_X2_put_sf 5 kd (nI nP) a1)))]) CF hE hP hD hS 0 rfl rfl inG5 tyX5 tyX5_ok nmX5 3 (by decide) tw_1_43 rfl rfl rfl rfl (Nat.le_of_ble_eq_true rfl) dX5_addPerson_29 rfl (fun H locs hP hD hS => ?_)
    refine lv_iload_n hx hb dX5_addPerson_32 rfl (lv_at hl 0 rfl) ?_
    have e_0 : (f_X5_addPerson_kd nP kd a1) = (f_X2_put_sf 5 kd (nI nP) a1) := by rw [f_X5_addPerson_kd, if_neg c_1]
    have e_1 : (f_X5_addPerson_nP nP) = (nP + 1) := by rw [f_X5_addPerson_nP, if_neg c_1]
    exact mu_reti CF hQ hr hlk rfl hP hS dX5_addPerson_33 (by rw [f_X5_addPerson, if_neg c_1]) (by rw [e_0, e_1])
def f_X5_addRule_nd (nR : Nat) (nd : Nat → Int32) (a1 : Int32) (a2 : Int32) : Nat → Int32 :=
  (if 4 ≤ (nI nR) then nd else (f_X2_put_sf 4 nd (nI nR) (((1 : Int32) <<< ((a1 : Int32) &&& 31)) ||| ((1 : Int32) <<< ((a2 : Int32) &&& 31)))))
def f_X5_addRule_gv (nR : Nat) (gv : Nat → Int32) (a3 : Int32) : Nat → Int32 :=
  (if 4 ≤ (nI nR) then gv else (f_X2_put_sf 4 gv (nI nR) ((1 : Int32) <<< ((a3 : Int32) &&& 31))))
def f_X5_addRule_nR (nR : Nat) : Nat :=
  (if 4 ≤ (nI nR) then nR else (nR + 1))
set_option maxRecDepth 100000 in
set_option maxHeartbeats 4000000 in
theorem c_X5_addRule (l : Launch) (D : va_G) (cI cZ : ClassId) (q0 t1 t3 t5 t4 t6 : Nat) (nP : Nat) (nR : Nat) (nd : Nat → Int32) (gv : Nat → Int32) (a1 : Int32) (a2 : Int32) (a3 : Int32) : MU l D cI cZ yX5_addRule cX5_addRule 4 none (mR 1 22) [.ref q0, .int a1, .int a2, .int a3] [(q0, .inr (5, [.ref t1, .ref t3, .ref t5, .int (nI nP), .int (nI nR)])), (t3, .inr (2, [.ref t4])), (t4, .inl (cI, 4, .inl nd)), (t5, .inr (2, [.ref t6])), (t6, .inl (cI, 4, .inl gv))] [(q0, .inr (5, [.ref t1, .ref t3, .ref t5, .int (nI nP), .int (nI (f_X5_addRule_nR nR))])), (t3, .inr (2, [.ref t4])), (t4, .inl (cI, 4, .inl (f_X5_addRule_nd nR nd a1 a2))), (t5, .inr (2, [.ref t6])), (t6, .inl (cI, 4, .inl (f_X5_addRule_gv nR gv a3)))] none := by
  refine MU.of (by decide +kernel) (Nat.le_of_ble_eq_true rfl) ?_
  intro p e s m args below meth c ls Q A CF hr hlk hP hE hD hS hQ hl
  have hx := CF.1
  have hb := CF.2.1
  have hl : lv_has ls 4 [(0, .ref q0), (1, .int a1), (2, .int a2), (3, .int a3)] := hl
  refine lv_aload_n hx hb dX5_addRule_0 rfl (lv_at hl 0 rfl) ?_
  refine r_get (C := RX5) (T := TX5) (N := 5) (v := .int (nI nR)) CF hE hP 0 rfl rfl inG5 4 (by decide) tw_1_44 rfl rfl dX5_addRule_1 ?_
  refine lv_iconst (v := 4) hx hb dX5_addRule_4 (by decide) ?_
  refine lv_icmp_ge (tgt := 50) hx hb dX5_addRule_5 (by decide) (fun c_1 => ?_) (fun c_1 => ?_)
  · have e_0 : (f_X5_addRule_nd nR nd a1 a2) = nd := by rw [f_X5_addRule_nd, if_pos c_1]
    have e_1 : (f_X5_addRule_gv nR gv a3) = gv := by rw [f_X5_addRule_gv, if_pos c_1]
    have e_2 : (f_X5_addRule_nR nR) = nR := by rw [f_X5_addRule_nR, if_pos c_1]
    exact mu_retv CF hQ hr hlk hP hS dX5_addRule_50 (by rw [e_0, e_1, e_2])
  · refine lv_aload_n hx hb dX5_addRule_8 rfl (lv_at hl 0 rfl) ?_
    refine r_get (C := RX5) (T := TX5) (N := 5) (v := .ref t3) CF hE hP 0 rfl rfl inG5 1 (by decide) tw_1_41 rfl rfl dX5_addRule_9 ?_
    refine lv_aload_n hx hb dX5_addRule_12 rfl (lv_at hl 0 rfl) ?_
    refine r_get (C := RX5) (T := TX5) (N := 5) (v := .int (nI nR)) CF hE hP 0 rfl rfl inG5 4 (by decide) tw_1_44 rfl rfl dX5_addRule_13 ?_
    refine lv_iconst (v := 1) hx hb dX5_addRule_16 (by decide) ?_
    refine lv_iload_n hx hb dX5_addRule_17 rfl (lv_at hl 1 rfl) ?_
    refine lv_ishl hx hb dX5_addRule_18 ?_
    refine lv_iconst (v := 1) hx hb dX5_addRule_19 (by decide) ?_
    refine lv_iload_n hx hb dX5_addRule_20 rfl (lv_at hl 2 rfl) ?_
    refine lv_ishl hx hb dX5_addRule_21 ?_
    refine lv_ior hx hb dX5_addRule_22 ?_
    refine mu_Vv (y := yX2_put) (As := [.int (nI nR), .int (((1 : Int32) <<< ((a1 : Int32) &&& 31)) ||| ((1 : Int32) <<< ((a2 : Int32) &&& 31)))]) (rest := []) (q0 := 1) (ws' := [(q0, .inr (5, [.ref t1, .ref t3, .ref t5, .int (nI nP), .int (nI nR)])), (t3, .inr (2, [.ref t4])), (t4, .inl (cI, 4, .inl (f_X2_put_sf 4 nd (nI nR) (((1 : Int32) <<< ((a1 : Int32) &&& 31)) ||| ((1 : Int32) <<< ((a2 : Int32) &&& 31)))))), (t5, .inr (2, [.ref t6])), (t6, .inl (cI, 4, .inl gv))]) (ad := [q0, t3, t4, t5, t6]) CF (c_X2_put l D cI cZ t3 t4 4 nd (nI nR) (((1 : Int32) <<< ((a1 : Int32) &&& 31)) ||| ((1 : Int32) <<< ((a2 : Int32) &&& 31))) (by omega)) lk_X5_37 hP hE hD hS [1, 2] rfl (by decide) (Nat.le_of_ble_eq_true rfl) rfl rfl rfl rfl rfl rfl hl.1 rfl (Nat.le_of_ble_eq_true rfl) ⟨Nat.le_of_ble_eq_true rfl, Nat.le_of_ble_eq_true rfl, rfl, rfl⟩ ⟨Nat.zero_le _, Nat.zero_le _⟩ dX5_addRule_23 (fun H locs hP hD hS => ?_)
    refine lv_aload_n hx hb dX5_addRule_26 rfl (lv_at hl 0 rfl) ?_
    refine r_get (C := RX5) (T := TX5) (N := 5) (v := .ref t5) CF hE hP 0 rfl rfl inG5 2 (by decide) tw_1_42 rfl rfl dX5_addRule_27 ?_
    refine lv_aload_n hx hb dX5_addRule_30 rfl (lv_at hl 0 rfl) ?_
    refine r_get (C := RX5) (T := TX5) (N := 5) (v := .int (nI nR)) CF hE hP 0 rfl rfl inG5 4 (by decide) tw_1_44 rfl rfl dX5_addRule_31 ?_
    refine lv_iconst (v := 1) hx hb dX5_addRule_34 (by decide) ?_
    refine lv_iload_n hx hb dX5_addRule_35 rfl (lv_at hl 3 rfl) ?_
    refine lv_ishl hx hb dX5_addRule_36 ?_
    refine mu_Vv (y := yX2_put) (As := [.int (nI nR), .int ((1 : Int32) <<< ((a3 : Int32) &&& 31))]) (rest := []) (q0 := 3) (ws' := [(q0, .inr (5, [.ref t1, .ref t3, .ref t5, .int (nI nP), .int (nI nR)])), (t3, .inr (2, [.ref t4])), (t4, .inl (cI, 4, .inl (f_X2_put_sf 4 nd (nI nR) (((1 : Int32) <<< ((a1 : Int32) &&& 31)) ||| ((1 : Int32) <<< ((a2 : Int32) &&& 31)))))), (t5, .inr (2, [.ref t6])), (t6, .inl (cI, 4, .inl (f_X2_put_sf 4 gv (nI nR) ((1 : Int32) <<< ((a3 : Int32) &&& 31)))))]) (ad := [q0, t3, t4, t5, t6]) CF (c_X2_put l D cI cZ t5 t6 4 gv (nI nR) ((1 : Int32) <<< ((a3 : Int32) &&& 31)) (by omega)) lk_X5_37 hP hE hD hS [3, 4] rfl (by decide) (Nat.le_of_ble_eq_true rfl) rfl rfl rfl rfl rfl rfl hl.1 rfl (Nat.le_of_ble_eq_true rfl) ⟨Nat.le_of_ble_eq_true rfl, Nat.le_of_ble_eq_true rfl, rfl, rfl⟩ ⟨Nat.zero_le _, Nat.zero_le _⟩ dX5_addRule_37 (fun H locs hP hD hS => ?_)
    refine lv_aload_n hx hb dX5_addRule_40 rfl (lv_at hl 0 rfl) ?_
    refine lv_dup hx hb dX5_addRule_41 rfl ?_
    refine r_get (C := RX5) (T := TX5) (N := 5) (v := .int (nI nR)) CF hE hP 0 rfl rfl inG5 4 (by decide) tw_1_44 rfl rfl dX5_addRule_42 ?_
    refine lv_iconst (v := 1) hx hb dX5_addRule_45 (by decide) ?_
    refine lv_iadd hx hb dX5_addRule_46 ?_
    refine lv_as (z := (nI (nR + 1))) (nf_add (rfl : nI nR = nI nR) (nf_c 1)) ?_
    refine r_put (C := RX5) (T := TX5) (N := 5) (ws' := [(q0, .inr (5, [.ref t1, .ref t3, .ref t5, .int (nI nP), .int (nI (nR + 1))])), (t3, .inr (2, [.ref t4])), (t4, .inl (cI, 4, .inl (f_X2_put_sf 4 nd (nI nR) (((1 : Int32) <<< ((a1 : Int32) &&& 31)) ||| ((1 : Int32) <<< ((a2 : Int32) &&& 31)))))), (t5, .inr (2, [.ref t6])), (t6, .inl (cI, 4, .inl (f_X2_put_sf 4 gv (nI nR) ((1 : Int32) <<< ((a3 : Int32) &&& 31)))))]) CF hE hP hD hS 0 rfl rfl inG5 tyX5 tyX5_ok nmX5 4 (by decide) tw_1_44 rfl rfl rfl rfl (Nat.le_of_ble_eq_true rfl) dX5_addRule_47 rfl (fun H locs hP hD hS => ?_)
    have e_0 : (f_X5_addRule_nd nR nd a1 a2) = (f_X2_put_sf 4 nd (nI nR) (((1 : Int32) <<< ((a1 : Int32) &&& 31)) ||| ((1 : Int32) <<< ((a2 : Int32) &&& 31)))) := by rw [f_X5_addRule_nd, if_neg c_1]
    have e_1 : (f_X5_addRule_gv nR gv a3) = (f_X2_put_sf 4 gv (nI nR) ((1 : Int32) <<< ((a3 : Int32) &&& 31))) := by rw [f_X5_addRule_gv, if_neg c_1]
    have e_2 : (f_X5_addRule_nR nR) = (nR + 1) := by rw [f_X5_addRule_nR, if_neg c_1]
    exact mu_retv CF hQ hr hlk hP hS dX5_addRule_50 (by rw [e_0, e_1, e_2])
def S_X5_closure_15 (nd : Nat → Int32) (gv : Nat → Int32) (k15 : Nat) (x15_0 : Int32) : (Int32) :=
  (if (x15_0 &&& (f_X2_at 4 nd (nI k15))) = (f_X2_at 4 nd (nI k15)) then (x15_0 ||| (f_X2_at 4 gv (nI k15))) else x15_0)
def B_X5_closure_15 (nd : Nat → Int32) (gv : Nat → Int32) (i0 : Int32) : Nat → (Int32)
  | 0 => i0
  | k + 1 => S_X5_closure_15 nd gv k (B_X5_closure_15 nd gv i0 k)
def S_X5_closure_4 (nR : Nat) (nd : Nat → Int32) (gv : Nat → Int32) (k4 : Nat) (x4_0 : Int32) : (Int32) :=
  ((B_X5_closure_15 nd gv x4_0 nR))
def B_X5_closure_4 (nR : Nat) (nd : Nat → Int32) (gv : Nat → Int32) (i0 : Int32) : Nat → (Int32)
  | 0 => i0
  | k + 1 => S_X5_closure_4 nR nd gv k (B_X5_closure_4 nR nd gv i0 k)
set_option maxRecDepth 100000 in
set_option maxHeartbeats 4000000 in
theorem c_X5_closure (l : Launch) (D : va_G) (cI cZ : ClassId) (q0 t1 t3 t5 t4 t6 : Nat) (nP : Nat) (nR : Nat) (nd : Nat → Int32) (gv : Nat → Int32) (a1 : Int32) (hR : nR ≤ 4) : RO l D cI cZ yX5_closure cX5_closure 6 (some .int) (mR 1 21) [.ref q0, .int a1] [(q0, .inr (5, [.ref t1, .ref t3, .ref t5, .int (nI nP), .int (nI nR)])), (t3, .inr (2, [.ref t4])), (t4, .inl (cI, 4, .inl nd)), (t5, .inr (2, [.ref t6])), (t6, .inl (cI, 4, .inl gv))] (some (.int ((B_X5_closure_4 nR nd gv a1 nR)))) := by
  refine RO.of (by decide +kernel) (Nat.le_of_ble_eq_true rfl) ?_
  intro p e s m args below meth c ls Q CF hr hlk hP hE hQ hl
  have hx := CF.1
  have hb := CF.2.1
  have hl : lv_has ls 6 [(0, .ref q0), (1, .int a1)] := hl
  refine lv_iload_n hx hb dX5_closure_0 rfl (lv_at hl 1 rfl) ?_
  refine lv_istore_n (lv' := [(2, .int a1), (0, .ref q0), (1, .int a1)]) hx hb dX5_closure_1 rfl hl (by decide) rfl (fun ls hl => ?_)
  refine lv_iconst (v := 0) hx hb dX5_closure_2 (by decide) ?_
  refine lv_istore_n (lv' := [(3, .int 0), (2, .int a1), (0, .ref q0), (1, .int a1)]) hx hb dX5_closure_3 rfl hl (by decide) rfl (fun ls hl => ?_)
  have LOOP_4 : ∀ (n_4 k4 : Nat) (x4_0 : Int32) (ls : Array Slot), k4 ≤ nR → nR - k4 < n_4 → (B_X5_closure_4 nR nd gv a1 k4) = x4_0 → lv_has ls 6 [(3, .int (nI k4)), (2, .int x4_0), (0, .ref q0), (1, .int a1)] → W p l e (mR 1 21) s m args below meth c s.heap [] 0 0 Q (F0 m 4 ls []) := by
    intro n_4
    induction n_4 with
    | zero => intro k4 x4_0 ls hk_4 hn_4 hB_4 hl; exact absurd hn_4 (Nat.not_lt_zero _)
    | succ n_4 ih_4 =>
      intro k4 x4_0 ls hk_4 hn_4 hB_4 hl
      refine lv_iload_n hx hb dX5_closure_4 rfl (lv_at hl 0 rfl) ?_
      refine lv_aload_n hx hb dX5_closure_5 rfl (lv_at hl 2 rfl) ?_
      refine r_get (C := RX5) (T := TX5) (N := 5) (v := .int (nI nR)) CF hE hP 0 rfl rfl inG5 4 (by decide) tw_1_44 rfl rfl dX5_closure_6 ?_
      refine lv_icmp_ge (tgt := 68) hx hb dX5_closure_9 (by decide) (fun c_1 => ?_) (fun c_1 => ?_)
      · have o_1 : nR ≤ k4 := (cle (rfl : nI nR = nI nR) (rfl : nI k4 = nI k4) (by omega) (by omega)).mp c_1
        have hkN : nR = k4 := by omega
        subst hkN
        subst hB_4
        refine lv_iload_n hx hb dX5_closure_68 rfl (lv_at hl 1 rfl) ?_
        exact ro_ret CF hQ hr hlk rfl dX5_closure_69 rfl
      · have o_1 : ¬ nR ≤ k4 := fun h => c_1 ((cle (rfl : nI nR = nI nR) (rfl : nI k4 = nI k4) (by omega) (by omega)).mpr h)
        refine lv_iconst (v := 0) hx hb dX5_closure_12 (by decide) ?_
        refine lv_istore (lv' := [(4, .int 0), (3, .int (nI k4)), (2, .int x4_0), (0, .ref q0), (1, .int a1)]) hx hb dX5_closure_13 hl (by decide) rfl (fun ls hl => ?_)
        have LOOP_15 : ∀ (n_15 k15 : Nat) (x15_0 : Int32) (ls : Array Slot), k15 ≤ nR → nR - k15 < n_15 → (B_X5_closure_15 nd gv x4_0 k15) = x15_0 → lv_has ls 6 [(4, .int (nI k15)), (3, .int (nI k4)), (2, .int x15_0), (0, .ref q0), (1, .int a1)] → W p l e (mR 1 21) s m args below meth c s.heap [] 0 0 Q (F0 m 15 ls []) := by
          intro n_15
          induction n_15 with
          | zero => intro k15 x15_0 ls hk_15 hn_15 hB_15 hl; exact absurd hn_15 (Nat.not_lt_zero _)
          | succ n_15 ih_15 =>
            intro k15 x15_0 ls hk_15 hn_15 hB_15 hl
            refine lv_iload hx hb dX5_closure_15 (lv_at hl 0 rfl) ?_
            refine lv_aload_n hx hb dX5_closure_17 rfl (lv_at hl 3 rfl) ?_
            refine r_get (C := RX5) (T := TX5) (N := 5) (v := .int (nI nR)) CF hE hP 0 rfl rfl inG5 4 (by decide) tw_1_44 rfl rfl dX5_closure_18 ?_
            refine lv_icmp_ge (tgt := 62) hx hb dX5_closure_21 (by decide) (fun c_2 => ?_) (fun c_2 => ?_)
            · have o_2 : nR ≤ k15 := (cle (rfl : nI nR = nI nR) (rfl : nI k15 = nI k15) (by omega) (by omega)).mp c_2
              have hkN : nR = k15 := by omega
              subst hkN
              subst hB_15
              refine lv_iinc (v := (nI (k4 + 1))) (lv' := [(3, .int (nI (k4 + 1))), (4, .int (nI nR)), (2, .int ((B_X5_closure_15 nd gv x4_0 nR))), (0, .ref q0), (1, .int a1)]) hx hb dX5_closure_62 hl (k := 1) rfl (nf_inc 1 (rfl : nI k4 = nI k4)) (by decide) rfl (fun ls hl => ?_)
              refine lv_goto (tgt := 4) hx hb dX5_closure_65 (by decide) ?_
              have hB2 : B_X5_closure_4 nR nd gv a1 (k4 + 1) = ((B_X5_closure_15 nd gv x4_0 nR)) := by
                rw [B_X5_closure_4, hB_4]
                rw [S_X5_closure_4]
              exact ih_4 (k4 + 1) ((B_X5_closure_15 nd gv x4_0 nR)) _ (by omega) (by omega) hB2 (lv_sub hl [0, 2, 3, 4] rfl)
            · have o_2 : ¬ nR ≤ k15 := fun h => c_2 ((cle (rfl : nI nR = nI nR) (rfl : nI k15 = nI k15) (by omega) (by omega)).mpr h)
              refine lv_aload_n hx hb dX5_closure_24 rfl (lv_at hl 3 rfl) ?_
              refine r_get (C := RX5) (T := TX5) (N := 5) (v := .ref t3) CF hE hP 0 rfl rfl inG5 1 (by decide) tw_1_41 rfl rfl dX5_closure_25 ?_
              refine lv_iload hx hb dX5_closure_28 (lv_at hl 0 rfl) ?_
              refine ro_V (y := yX2_at) (As := [.int (nI k15)]) (rest := []) (q0 := 1) CF (c_X2_at l D cI cZ t3 t4 4 nd (nI k15) (by omega)) lk_X5_33 hP hE [1, 2] rfl rfl rfl rfl hl.1 rfl (Nat.le_of_ble_eq_true rfl) ⟨Nat.le_of_ble_eq_true rfl, Nat.le_of_ble_eq_true rfl, rfl, rfl⟩ ⟨Nat.zero_le _, Nat.zero_le _⟩ dX5_closure_30 ?_
              refine lv_istore (lv' := [(5, .int (f_X2_at 4 nd (nI k15))), (4, .int (nI k15)), (3, .int (nI k4)), (2, .int x15_0), (0, .ref q0), (1, .int a1)]) hx hb dX5_closure_33 hl (by decide) rfl (fun ls hl => ?_)
              refine lv_iload_n hx hb dX5_closure_35 rfl (lv_at hl 3 rfl) ?_
              refine lv_iload hx hb dX5_closure_36 (lv_at hl 0 rfl) ?_
              refine lv_iand hx hb dX5_closure_38 ?_
              refine lv_iload hx hb dX5_closure_39 (lv_at hl 0 rfl) ?_
              refine lv_icmp_ne (tgt := 56) hx hb dX5_closure_41 (by decide) (fun c_3 => ?_) (fun c_3 => ?_)
              · refine lv_iinc (v := (nI (k15 + 1))) (lv' := [(4, .int (nI (k15 + 1))), (5, .int (f_X2_at 4 nd (nI k15))), (3, .int (nI k4)), (2, .int x15_0), (0, .ref q0), (1, .int a1)]) hx hb dX5_closure_56 hl (k := 1) rfl (nf_inc 1 (rfl : nI k15 = nI k15)) (by decide) rfl (fun ls hl => ?_)
                refine lv_goto (tgt := 15) hx hb dX5_closure_59 (by decide) ?_
                have hB2 : B_X5_closure_15 nd gv x4_0 (k15 + 1) = x15_0 := by
                  rw [B_X5_closure_15, hB_15]
                  rw [S_X5_closure_15, if_neg c_3]
                exact ih_15 (k15 + 1) x15_0 _ (by omega) (by omega) hB2 (lv_sub hl [0, 2, 3, 4, 5] rfl)
              · refine lv_iload_n hx hb dX5_closure_44 rfl (lv_at hl 3 rfl) ?_
                refine lv_aload_n hx hb dX5_closure_45 rfl (lv_at hl 4 rfl) ?_
                refine r_get (C := RX5) (T := TX5) (N := 5) (v := .ref t5) CF hE hP 0 rfl rfl inG5 2 (by decide) tw_1_42 rfl rfl dX5_closure_46 ?_
                refine lv_iload hx hb dX5_closure_49 (lv_at hl 1 rfl) ?_
                refine ro_V (y := yX2_at) (As := [.int (nI k15)]) (rest := [.int x15_0]) (q0 := 3) CF (c_X2_at l D cI cZ t5 t6 4 gv (nI k15) (by omega)) lk_X5_33 hP hE [3, 4] rfl rfl rfl rfl hl.1 rfl (Nat.le_of_ble_eq_true rfl) ⟨Nat.le_of_ble_eq_true rfl, Nat.le_of_ble_eq_true rfl, rfl, rfl⟩ ⟨Nat.zero_le _, Nat.zero_le _⟩ dX5_closure_51 ?_
                refine lv_ior hx hb dX5_closure_54 ?_
                refine lv_istore_n (lv' := [(2, .int (x15_0 ||| (f_X2_at 4 gv (nI k15)))), (5, .int (f_X2_at 4 nd (nI k15))), (4, .int (nI k15)), (3, .int (nI k4)), (0, .ref q0), (1, .int a1)]) hx hb dX5_closure_55 rfl hl (by decide) rfl (fun ls hl => ?_)
                refine lv_iinc (v := (nI (k15 + 1))) (lv' := [(4, .int (nI (k15 + 1))), (2, .int (x15_0 ||| (f_X2_at 4 gv (nI k15)))), (5, .int (f_X2_at 4 nd (nI k15))), (3, .int (nI k4)), (0, .ref q0), (1, .int a1)]) hx hb dX5_closure_56 hl (k := 2) rfl (nf_inc 1 (rfl : nI k15 = nI k15)) (by decide) rfl (fun ls hl => ?_)
                refine lv_goto (tgt := 15) hx hb dX5_closure_59 (by decide) ?_
                have hB2 : B_X5_closure_15 nd gv x4_0 (k15 + 1) = (x15_0 ||| (f_X2_at 4 gv (nI k15))) := by
                  rw [B_X5_closure_15, hB_15]
                  rw [S_X5_closure_15, if_pos c_3]
                exact ih_15 (k15 + 1) (x15_0 ||| (f_X2_at 4 gv (nI k15))) _ (by omega) (by omega) hB2 (lv_sub hl [0, 3, 1, 4, 5] rfl)
        have e_k : 0 = nI (0) := (nf_c 0).trans (congrArg nI (by omega))
        rw [e_k] at hl
        exact LOOP_15 (nR - 0 + 1) 0 x4_0 _ (Nat.zero_le _) (by omega) rfl (lv_sub hl [0, 1, 2, 3, 4] rfl)
  have e_k : 0 = nI (0) := (nf_c 0).trans (congrArg nI (by omega))
  rw [e_k] at hl
  exact LOOP_4 (nR - 0 + 1) 0 a1 _ (Nat.zero_le _) (by omega) rfl (lv_sub hl [0, 1, 2, 3] rfl)
set_option maxRecDepth 100000 in
set_option maxHeartbeats 4000000 in
theorem c_X6_length (l : Launch) (D : va_G) (cI cZ : ClassId) (q0 q1 : Nat) (nT : Nat) : RO l D cI cZ yX6_length cX6_length 1 (some .int) (mR 0 0) [.ref q0] [(q0, .inr (6, [.ref q1, .int (nI nT)]))] (some (.int (nI nT))) := by
  refine RO.of (by decide +kernel) (Nat.le_of_ble_eq_true rfl) ?_
  intro p e s m args below meth c ls Q CF hr hlk hP hE hQ hl
  have hx := CF.1
  have hb := CF.2.1
  have hl : lv_has ls 1 [(0, .ref q0)] := hl
  refine lv_aload_n hx hb dX6_length_0 rfl (lv_at hl 0 rfl) ?_
  refine r_get (C := RX6) (T := TX6) (N := 2) (v := .int (nI nT)) CF hE hP 0 rfl rfl inG6 1 (by decide) tw_1_65 rfl rfl dX6_length_1 ?_
  exact ro_ret CF hQ hr hlk rfl dX6_length_4 rfl
theorem lk_X6_24 : mLkV RX6 24 yX2_at cX2_at 2 (some .int) 1 := ⟨⟨tw_1_197, tw_1_3, tw_1_200, ⟨by decide +kernel, by decide +kernel, by decide +kernel⟩⟩, tw_1_198, tw_1_199⟩
set_option maxRecDepth 100000 in
set_option maxHeartbeats 4000000 in
theorem c_X6_at (l : Launch) (D : va_G) (cI cZ : ClassId) (q0 q1 q2 : Nat) (nT : Nat) (tx : Nat → Int32) (a1 : Int32) : RO l D cI cZ yX6_at cX6_at 2 (some .int) (mR 1 21) [.ref q0, .int a1] [(q0, .inr (6, [.ref q1, .int (nI nT)])), (q1, .inr (2, [.ref q2])), (q2, .inl (cI, 40, .inl tx))] (some (.int (f_X2_at 40 tx a1))) := by
  refine RO.of (by decide +kernel) (Nat.le_of_ble_eq_true rfl) ?_
  intro p e s m args below meth c ls Q CF hr hlk hP hE hQ hl
  have hx := CF.1
  have hb := CF.2.1
  have hl : lv_has ls 2 [(0, .ref q0), (1, .int a1)] := hl
  refine lv_aload_n hx hb dX6_at_0 rfl (lv_at hl 0 rfl) ?_
  refine r_get (C := RX6) (T := TX6) (N := 2) (v := .ref q1) CF hE hP 0 rfl rfl inG6 0 (by decide) tw_1_64 rfl rfl dX6_at_1 ?_
  refine lv_iload_n hx hb dX6_at_4 rfl (lv_at hl 1 rfl) ?_
  refine ro_V (y := yX2_at) (As := [.int a1]) (rest := []) (q0 := 1) CF (c_X2_at l D cI cZ q1 q2 40 tx a1 (by omega)) lk_X6_24 hP hE [1, 2] rfl rfl rfl rfl hl.1 rfl (Nat.le_of_ble_eq_true rfl) ⟨Nat.le_of_ble_eq_true rfl, Nat.le_of_ble_eq_true rfl, rfl, rfl⟩ ⟨Nat.zero_le _, Nat.zero_le _⟩ dX6_at_5 ?_
  exact ro_ret CF hQ hr hlk rfl dX6_at_8 rfl
set_option maxRecDepth 100000 in
set_option maxHeartbeats 4000000 in
theorem c_X6_digit (l : Launch) (D : va_G) (cI cZ : ClassId) (q0 q1 q2 : Nat) (nT : Nat) (tx : Nat → Int32) (a1 : Int32) : RO l D cI cZ yX6_digit cX6_digit 2 (some .int) (mR 1 21) [.ref q0, .int a1] [(q0, .inr (6, [.ref q1, .int (nI nT)])), (q1, .inr (2, [.ref q2])), (q2, .inl (cI, 40, .inl tx))] (some (.int ((f_X2_at 40 tx a1) - 48))) := by
  refine RO.of (by decide +kernel) (Nat.le_of_ble_eq_true rfl) ?_
  intro p e s m args below meth c ls Q CF hr hlk hP hE hQ hl
  have hx := CF.1
  have hb := CF.2.1
  have hl : lv_has ls 2 [(0, .ref q0), (1, .int a1)] := hl
  refine lv_aload_n hx hb dX6_digit_0 rfl (lv_at hl 0 rfl) ?_
  refine r_get (C := RX6) (T := TX6) (N := 2) (v := .ref q1) CF hE hP 0 rfl rfl inG6 0 (by decide) tw_1_64 rfl rfl dX6_digit_1 ?_
  refine lv_iload_n hx hb dX6_digit_4 rfl (lv_at hl 1 rfl) ?_
  refine ro_V (y := yX2_at) (As := [.int a1]) (rest := []) (q0 := 1) CF (c_X2_at l D cI cZ q1 q2 40 tx a1 (by omega)) lk_X6_24 hP hE [1, 2] rfl rfl rfl rfl hl.1 rfl (Nat.le_of_ble_eq_true rfl) ⟨Nat.le_of_ble_eq_true rfl, Nat.le_of_ble_eq_true rfl, rfl, rfl⟩ ⟨Nat.zero_le _, Nat.zero_le _⟩ dX6_digit_5 ?_
  refine lv_bipush (v := 48) hx hb dX6_digit_8 (by decide) ?_
  refine lv_isub hx hb dX6_digit_10 ?_
  exact ro_ret CF hQ hr hlk rfl dX6_digit_11 rfl
set_option maxRecDepth 100000 in
set_option maxHeartbeats 4000000 in
theorem c_X6_letter (l : Launch) (D : va_G) (cI cZ : ClassId) (q0 q1 q2 : Nat) (nT : Nat) (tx : Nat → Int32) (a1 : Int32) : RO l D cI cZ yX6_letter cX6_letter 2 (some .int) (mR 1 21) [.ref q0, .int a1] [(q0, .inr (6, [.ref q1, .int (nI nT)])), (q1, .inr (2, [.ref q2])), (q2, .inl (cI, 40, .inl tx))] (some (.int ((f_X2_at 40 tx a1) - 97))) := by
  refine RO.of (by decide +kernel) (Nat.le_of_ble_eq_true rfl) ?_
  intro p e s m args below meth c ls Q CF hr hlk hP hE hQ hl
  have hx := CF.1
  have hb := CF.2.1
  have hl : lv_has ls 2 [(0, .ref q0), (1, .int a1)] := hl
  refine lv_aload_n hx hb dX6_letter_0 rfl (lv_at hl 0 rfl) ?_
  refine r_get (C := RX6) (T := TX6) (N := 2) (v := .ref q1) CF hE hP 0 rfl rfl inG6 0 (by decide) tw_1_64 rfl rfl dX6_letter_1 ?_
  refine lv_iload_n hx hb dX6_letter_4 rfl (lv_at hl 1 rfl) ?_
  refine ro_V (y := yX2_at) (As := [.int a1]) (rest := []) (q0 := 1) CF (c_X2_at l D cI cZ q1 q2 40 tx a1 (by omega)) lk_X6_24 hP hE [1, 2] rfl rfl rfl rfl hl.1 rfl (Nat.le_of_ble_eq_true rfl) ⟨Nat.le_of_ble_eq_true rfl, Nat.le_of_ble_eq_true rfl, rfl, rfl⟩ ⟨Nat.zero_le _, Nat.zero_le _⟩ dX6_letter_5 ?_
  refine lv_bipush (v := 97) hx hb dX6_letter_8 (by decide) ?_
  refine lv_isub hx hb dX6_letter_10 ?_
  exact ro_ret CF hQ hr hlk rfl dX6_letter_11 rfl
theorem lk_X6_28 : mLkV RX6 28 yX2_put cX2_put 3 none 2 := ⟨⟨tw_1_169, tw_1_3, tw_1_172, ⟨by decide +kernel, by decide +kernel, by decide +kernel⟩⟩, tw_1_170, tw_1_171⟩
def f_X6_append (nT : Nat) : Int32 :=
  (if (nI nT) < 40 then (nI (nT + 1)) else (-4))
def f_X6_append_tx (nT : Nat) (tx : Nat → Int32) (a1 : Int32) : Nat → Int32 :=
  (if (nI nT) < 40 then (f_X2_put_sf 40 tx (nI nT) a1) else tx)
def f_X6_append_nT (nT : Nat) : Nat :=
  (if (nI nT) < 40 then (nT + 1) else nT)
set_option maxRecDepth 100000 in
set_option maxHeartbeats 4000000 in
theorem c_X6_append (l : Launch) (D : va_G) (cI cZ : ClassId) (q0 q1 q2 : Nat) (nT : Nat) (tx : Nat → Int32) (a1 : Int32) : MU l D cI cZ yX6_append cX6_append 2 (some .int) (mR 1 22) [.ref q0, .int a1] [(q0, .inr (6, [.ref q1, .int (nI nT)])), (q1, .inr (2, [.ref q2])), (q2, .inl (cI, 40, .inl tx))] [(q0, .inr (6, [.ref q1, .int (nI (f_X6_append_nT nT))])), (q1, .inr (2, [.ref q2])), (q2, .inl (cI, 40, .inl (f_X6_append_tx nT tx a1)))] (some (.int (f_X6_append nT))) := by
  refine MU.of (by decide +kernel) (Nat.le_of_ble_eq_true rfl) ?_
  intro p e s m args below meth c ls Q A CF hr hlk hP hE hD hS hQ hl
  have hx := CF.1
  have hb := CF.2.1
  have hl : lv_has ls 2 [(0, .ref q0), (1, .int a1)] := hl
  refine lv_aload_n hx hb dX6_append_0 rfl (lv_at hl 0 rfl) ?_
  refine r_get (C := RX6) (T := TX6) (N := 2) (v := .int (nI nT)) CF hE hP 0 rfl rfl inG6 1 (by decide) tw_1_65 rfl rfl dX6_append_1 ?_
  refine lv_bipush (v := 40) hx hb dX6_append_4 (by decide) ?_
  refine lv_icmp_lt (tgt := 12) hx hb dX6_append_6 (by decide) (fun c_1 => ?_) (fun c_1 => ?_)
  · refine lv_aload_n hx hb dX6_append_12 rfl (lv_at hl 0 rfl) ?_
    refine r_get (C := RX6) (T := TX6) (N := 2) (v := .ref q1) CF hE hP 0 rfl rfl inG6 0 (by decide) tw_1_64 rfl rfl dX6_append_13 ?_
    refine lv_aload_n hx hb dX6_append_16 rfl (lv_at hl 0 rfl) ?_
    refine r_get (C := RX6) (T := TX6) (N := 2) (v := .int (nI nT)) CF hE hP 0 rfl rfl inG6 1 (by decide) tw_1_65 rfl rfl dX6_append_17 ?_
    refine lv_iload_n hx hb dX6_append_20 rfl (lv_at hl 1 rfl) ?_
    refine mu_Vv (y := yX2_put) (As := [.int (nI nT), .int a1]) (rest := []) (q0 := 1) (ws' := [(q0, .inr (6, [.ref q1, .int (nI nT)])), (q1, .inr (2, [.ref q2])), (q2, .inl (cI, 40, .inl (f_X2_put_sf 40 tx (nI nT) a1)))]) (ad := [q0, q1, q2]) CF (c_X2_put l D cI cZ q1 q2 40 tx (nI nT) a1 (by omega)) lk_X6_28 hP hE hD hS [1, 2] rfl (by decide) (Nat.le_of_ble_eq_true rfl) rfl rfl rfl rfl rfl rfl hl.1 rfl (Nat.le_of_ble_eq_true rfl) ⟨Nat.le_of_ble_eq_true rfl, Nat.le_of_ble_eq_true rfl, rfl, rfl⟩ ⟨Nat.zero_le _, Nat.zero_le _⟩ dX6_append_21 (fun H locs hP hD hS => ?_)
    refine lv_aload_n hx hb dX6_append_24 rfl (lv_at hl 0 rfl) ?_
    refine lv_dup hx hb dX6_append_25 rfl ?_
    refine r_get (C := RX6) (T := TX6) (N := 2) (v := .int (nI nT)) CF hE hP 0 rfl rfl inG6 1 (by decide) tw_1_65 rfl rfl dX6_append_26 ?_
    refine lv_iconst (v := 1) hx hb dX6_append_29 (by decide) ?_
    refine lv_iadd hx hb dX6_append_30 ?_
    refine lv_as (z := (nI (nT + 1))) (nf_add (rfl : nI nT = nI nT) (nf_c 1)) ?_
    refine r_put (C := RX6) (T := TX6) (N := 2) (ws' := [(q0, .inr (6, [.ref q1, .int (nI (nT + 1))])), (q1, .inr (2, [.ref q2])), (q2, .inl (cI, 40, .inl (f_X2_put_sf 40 tx (nI nT) a1)))]) CF hE hP hD hS 0 rfl rfl inG6 tyX6 tyX6_ok nmX6 1 (by decide) tw_1_65 rfl rfl rfl rfl (Nat.le_of_ble_eq_true rfl) dX6_append_31 rfl (fun H locs hP hD hS => ?_)
    refine lv_aload_n hx hb dX6_append_34 rfl (lv_at hl 0 rfl) ?_
    refine r_get (C := RX6) (T := TX6) (N := 2) (v := .int (nI (nT + 1))) CF hE hP 0 rfl rfl inG6 1 (by decide) tw_1_65 rfl rfl dX6_append_35 ?_
    have e_0 : (f_X6_append_tx nT tx a1) = (f_X2_put_sf 40 tx (nI nT) a1) := by rw [f_X6_append_tx, if_pos c_1]
    have e_1 : (f_X6_append_nT nT) = (nT + 1) := by rw [f_X6_append_nT, if_pos c_1]
    exact mu_reti CF hQ hr hlk rfl hP hS dX6_append_38 (by rw [f_X6_append, if_pos c_1]) (by rw [e_0, e_1])
  · refine lv_bipush (v := (-4)) hx hb dX6_append_9 (by decide) ?_
    have e_0 : (f_X6_append_tx nT tx a1) = tx := by rw [f_X6_append_tx, if_neg c_1]
    have e_1 : (f_X6_append_nT nT) = nT := by rw [f_X6_append_nT, if_neg c_1]
    exact mu_reti CF hQ hr hlk rfl hP hS dX6_append_11 (by rw [f_X6_append, if_neg c_1]) (by rw [e_0, e_1])
set_option maxRecDepth 100000 in
set_option maxHeartbeats 4000000 in
theorem c_X6_clear (l : Launch) (D : va_G) (cI cZ : ClassId) (q0 q1 : Nat) (nT : Nat) : MU l D cI cZ yX6_clear cX6_clear 2 (some .int) (mR 0 0) [.ref q0] [(q0, .inr (6, [.ref q1, .int (nI nT)]))] [(q0, .inr (6, [.ref q1, .int (nI 0)]))] (some (.int (nI nT))) := by
  refine MU.of (by decide +kernel) (Nat.le_of_ble_eq_true rfl) ?_
  intro p e s m args below meth c ls Q A CF hr hlk hP hE hD hS hQ hl
  have hx := CF.1
  have hb := CF.2.1
  have hl : lv_has ls 2 [(0, .ref q0)] := hl
  refine lv_aload_n hx hb dX6_clear_0 rfl (lv_at hl 0 rfl) ?_
  refine r_get (C := RX6) (T := TX6) (N := 2) (v := .int (nI nT)) CF hE hP 0 rfl rfl inG6 1 (by decide) tw_1_65 rfl rfl dX6_clear_1 ?_
  refine lv_istore_n (lv' := [(1, .int (nI nT)), (0, .ref q0)]) hx hb dX6_clear_4 rfl hl (by decide) rfl (fun ls hl => ?_)
  refine lv_aload_n hx hb dX6_clear_5 rfl (lv_at hl 1 rfl) ?_
  refine lv_iconst (v := 0) hx hb dX6_clear_6 (by decide) ?_
  refine lv_as (z := (nI 0)) (nf_c 0) ?_
  refine r_put (C := RX6) (T := TX6) (N := 2) (ws' := [(q0, .inr (6, [.ref q1, .int (nI 0)]))]) CF hE hP hD hS 0 rfl rfl inG6 tyX6 tyX6_ok nmX6 1 (by decide) tw_1_65 rfl rfl rfl rfl (Nat.le_of_ble_eq_true rfl) dX6_clear_7 rfl (fun H locs hP hD hS => ?_)
  refine lv_iload_n hx hb dX6_clear_10 rfl (lv_at hl 0 rfl) ?_
  exact mu_reti CF hQ hr hlk rfl hP hS dX6_clear_11 rfl rfl
def f_X6_isBetween (a0 : Int32) (a1 : Int32) : Int32 :=
  (if a0 < 0 then 0 else (if a1 < a0 then 0 else 1))
theorem z_f_X6_isBetween (a0 : Int32) (a1 : Int32) : narrow .boolean (.int (f_X6_isBetween a0 a1)) = .int (f_X6_isBetween a0 a1) := by
  unfold f_X6_isBetween
  repeat' split
  all_goals first | rfl
set_option maxRecDepth 100000 in
set_option maxHeartbeats 4000000 in
theorem c_X6_isBetween (l : Launch) (D : va_G) (cI cZ : ClassId) (a0 : Int32) (a1 : Int32) : RO l D cI cZ yX6_isBetween cX6_isBetween 2 (some .boolean) (mR 0 0) [.int a0, .int a1] [] (some (.int (f_X6_isBetween a0 a1))) := by
  refine RO.of (by decide +kernel) (Nat.le_of_ble_eq_true rfl) ?_
  intro p e s m args below meth c ls Q CF hr hlk hP hE hQ hl
  have hx := CF.1
  have hb := CF.2.1
  have hl : lv_has ls 2 [(0, .int a0), (1, .int a1)] := hl
  refine lv_iload_n hx hb dX6_isBetween_0 rfl (lv_at hl 0 rfl) ?_
  refine lv_if_lt (tgt := 13) hx hb dX6_isBetween_1 (by decide) (fun c_1 => ?_) (fun c_1 => ?_)
  · refine lv_iconst (v := 0) hx hb dX6_isBetween_13 (by decide) ?_
    exact ro_ret CF hQ hr hlk rfl dX6_isBetween_14 (by rw [f_X6_isBetween, if_pos c_1])
  · refine lv_iload_n hx hb dX6_isBetween_4 rfl (lv_at hl 0 rfl) ?_
    refine lv_iload_n hx hb dX6_isBetween_5 rfl (lv_at hl 1 rfl) ?_
    refine lv_icmp_gt (tgt := 13) hx hb dX6_isBetween_6 (by decide) (fun c_2 => ?_) (fun c_2 => ?_)
    · refine lv_iconst (v := 0) hx hb dX6_isBetween_13 (by decide) ?_
      exact ro_ret CF hQ hr hlk rfl dX6_isBetween_14 (by rw [f_X6_isBetween, if_neg c_1, if_pos c_2])
    · refine lv_iconst (v := 1) hx hb dX6_isBetween_9 (by decide) ?_
      refine lv_goto (tgt := 14) hx hb dX6_isBetween_10 (by decide) ?_
      exact ro_ret CF hQ hr hlk rfl dX6_isBetween_14 (by rw [f_X6_isBetween, if_neg c_1, if_neg c_2])
theorem lk_X6_36 : mLkV RX6 36 yX6_at cX6_at 2 (some .int) 1 := ⟨⟨tw_1_193, tw_1_5, tw_1_196, ⟨by decide +kernel, by decide +kernel, by decide +kernel⟩⟩, tw_1_194, tw_1_195⟩
def S_X6_partsAhead_5 (tx : Nat → Int32) (a2 : Int32) (k5 : Nat) (x5_0 : Int32) : (Int32) :=
  (if (f_X2_at 40 tx (nI (1 + 4 * k5))) = a2 then (x5_0 + 1) else x5_0)
def B_X6_partsAhead_5 (tx : Nat → Int32) (a2 : Int32) (i0 : Int32) : Nat → (Int32)
  | 0 => i0
  | k + 1 => S_X6_partsAhead_5 tx a2 k (B_X6_partsAhead_5 tx a2 i0 k)
set_option maxRecDepth 100000 in
set_option maxHeartbeats 4000000 in
theorem c_X6_partsAhead (l : Launch) (D : va_G) (cI cZ : ClassId) (q0 q1 q2 : Nat) (nT : Nat) (tx : Nat → Int32) (a1 : Int32) (n1 : Nat) (a2 : Int32) (h_a1 : a1 = nI n1) (hn1 : n1 ≤ 40) : RO l D cI cZ yX6_partsAhead cX6_partsAhead 5 (some .int) (mR 2 42) [.ref q0, .int a1, .int a2] [(q0, .inr (6, [.ref q1, .int (nI nT)])), (q1, .inr (2, [.ref q2])), (q2, .inl (cI, 40, .inl tx))] (some (.int ((B_X6_partsAhead_5 tx a2 0 ((n1 + 2) / 4))))) := by
  refine RO.of (by decide +kernel) (Nat.le_of_ble_eq_true rfl) ?_
  intro p e s m args below meth c ls Q CF hr hlk hP hE hQ hl
  have hx := CF.1
  have hb := CF.2.1
  have hl : lv_has ls 5 [(0, .ref q0), (1, .int a1), (2, .int a2)] := hl
  refine lv_iconst (v := 0) hx hb dX6_partsAhead_0 (by decide) ?_
  refine lv_istore_n (lv' := [(3, .int 0), (0, .ref q0), (1, .int a1), (2, .int a2)]) hx hb dX6_partsAhead_1 rfl hl (by decide) rfl (fun ls hl => ?_)
  refine lv_iconst (v := 1) hx hb dX6_partsAhead_2 (by decide) ?_
  refine lv_istore (lv' := [(4, .int 1), (3, .int 0), (0, .ref q0), (1, .int a1), (2, .int a2)]) hx hb dX6_partsAhead_3 hl (by decide) rfl (fun ls hl => ?_)
  have LOOP_5 : ∀ (n_5 k5 : Nat) (x5_0 : Int32) (ls : Array Slot), k5 ≤ (n1 + 2) / 4 → (n1 + 2) / 4 - k5 < n_5 → (B_X6_partsAhead_5 tx a2 0 k5) = x5_0 → lv_has ls 5 [(4, .int (nI (1 + 4 * k5))), (3, .int x5_0), (0, .ref q0), (1, .int a1), (2, .int a2)] → W p l e (mR 2 42) s m args below meth c s.heap [] 0 0 Q (F0 m 5 ls []) := by
    intro n_5
    induction n_5 with
    | zero => intro k5 x5_0 ls hk_5 hn_5 hB_5 hl; exact absurd hn_5 (Nat.not_lt_zero _)
    | succ n_5 ih_5 =>
      intro k5 x5_0 ls hk_5 hn_5 hB_5 hl
      refine lv_iload hx hb dX6_partsAhead_5 (lv_at hl 0 rfl) ?_
      refine lv_iload_n hx hb dX6_partsAhead_7 rfl (lv_at hl 3 rfl) ?_
      refine lv_icmp_ge (tgt := 30) hx hb dX6_partsAhead_8 (by decide) (fun c_1 => ?_) (fun c_1 => ?_)
      · have o_1 : n1 ≤ (1 + 4 * k5) := (cle h_a1 (rfl : nI (1 + 4 * k5) = nI (1 + 4 * k5)) (by omega) (by omega)).mp c_1
        have hkN : ((n1 + 2) / 4) = k5 := by omega
        subst hkN
        subst hB_5
        refine lv_iload_n hx hb dX6_partsAhead_30 rfl (lv_at hl 1 rfl) ?_
        exact ro_ret CF hQ hr hlk rfl dX6_partsAhead_31 rfl
      · have o_1 : ¬ n1 ≤ (1 + 4 * k5) := fun h => c_1 ((cle h_a1 (rfl : nI (1 + 4 * k5) = nI (1 + 4 * k5)) (by omega) (by omega)).mpr h)
        refine lv_aload_n hx hb dX6_partsAhead_11 rfl (lv_at hl 2 rfl) ?_
        refine lv_iload hx hb dX6_partsAhead_12 (lv_at hl 0 rfl) ?_
        refine ro_V (y := yX6_at) (As := [.int (nI (1 + 4 * k5))]) (rest := []) (q0 := 0) CF (c_X6_at l D cI cZ q0 q1 q2 nT tx (nI (1 + 4 * k5))) lk_X6_36 hP hE [0, 1, 2] rfl rfl rfl rfl hl.1 rfl (Nat.le_of_ble_eq_true rfl) ⟨Nat.le_of_ble_eq_true rfl, Nat.le_of_ble_eq_true rfl, rfl, rfl⟩ ⟨Nat.zero_le _, Nat.zero_le _⟩ dX6_partsAhead_14 ?_
        refine lv_iload_n hx hb dX6_partsAhead_17 rfl (lv_at hl 4 rfl) ?_
        refine lv_icmp_ne (tgt := 24) hx hb dX6_partsAhead_18 (by decide) (fun c_2 => ?_) (fun c_2 => ?_)
        · refine lv_iinc (v := (nI ((1 + 4 * k5) + 4))) (lv' := [(4, .int (nI ((1 + 4 * k5) + 4))), (3, .int x5_0), (0, .ref q0), (1, .int a1), (2, .int a2)]) hx hb dX6_partsAhead_24 hl (k := 0) rfl (nf_inc 4 (rfl : nI (1 + 4 * k5) = nI (1 + 4 * k5))) (by decide) rfl (fun ls hl => ?_)
          refine lv_goto (tgt := 5) hx hb dX6_partsAhead_27 (by decide) ?_
          have hB2 : B_X6_partsAhead_5 tx a2 0 (k5 + 1) = x5_0 := by
            rw [B_X6_partsAhead_5, hB_5]
            rw [S_X6_partsAhead_5, if_neg c_2]
          have e_k : (nI ((1 + 4 * k5) + 4)) = nI (1 + 4 * (k5 + 1)) := (rfl : nI ((1 + 4 * k5) + 4) = nI ((1 + 4 * k5) + 4)).trans (congrArg nI (by omega))
          rw [e_k] at hl
          exact ih_5 (k5 + 1) x5_0 _ (by omega) (by omega) hB2 (lv_sub hl [0, 1, 2, 3, 4] rfl)
        · refine lv_iinc (v := (x5_0 + 1)) (lv' := [(3, .int (x5_0 + 1)), (4, .int (nI (1 + 4 * k5))), (0, .ref q0), (1, .int a1), (2, .int a2)]) hx hb dX6_partsAhead_21 hl (k := 1) rfl rfl (by decide) rfl (fun ls hl => ?_)
          refine lv_iinc (v := (nI ((1 + 4 * k5) + 4))) (lv' := [(4, .int (nI ((1 + 4 * k5) + 4))), (3, .int (x5_0 + 1)), (0, .ref q0), (1, .int a1), (2, .int a2)]) hx hb dX6_partsAhead_24 hl (k := 1) rfl (nf_inc 4 (rfl : nI (1 + 4 * k5) = nI (1 + 4 * k5))) (by decide) rfl (fun ls hl => ?_)
          refine lv_goto (tgt := 5) hx hb dX6_partsAhead_27 (by decide) ?_
          have hB2 : B_X6_partsAhead_5 tx a2 0 (k5 + 1) = (x5_0 + 1) := by
            rw [B_X6_partsAhead_5, hB_5]
            rw [S_X6_partsAhead_5, if_pos c_2]
          have e_k : (nI ((1 + 4 * k5) + 4)) = nI (1 + 4 * (k5 + 1)) := (rfl : nI ((1 + 4 * k5) + 4) = nI ((1 + 4 * k5) + 4)).trans (congrArg nI (by omega))
          rw [e_k] at hl
          exact ih_5 (k5 + 1) (x5_0 + 1) _ (by omega) (by omega) hB2 (lv_sub hl [0, 1, 2, 3, 4] rfl)
  have e_k : 1 = nI (1 + 4 * 0) := (nf_c 1).trans (congrArg nI (by omega))
  rw [e_k] at hl
  exact LOOP_5 (((n1 + 2) / 4) - 0 + 1) 0 0 _ (Nat.zero_le _) (by omega) rfl (lv_sub hl [0, 1, 2, 3, 4] rfl)
theorem lk_X6_50 : mLkV RX6 50 yX6_partsAhead cX6_partsAhead 5 (some .int) 2 := ⟨⟨tw_1_205, tw_1_5, tw_1_208, ⟨by decide +kernel, by decide +kernel, by decide +kernel⟩⟩, tw_1_207, tp_1_2⟩
def f_X6_startsPart (tx : Nat → Int32) (a1 : Int32) (n1 : Nat) : Int32 :=
  (if (f_X2_at 40 tx a1) = 80 then (if 5 ≤ ((B_X6_partsAhead_5 tx 80 0 ((n1 + 2) / 4))) then 0 else 1) else (if (f_X2_at 40 tx a1) = 82 then (if 4 ≤ ((B_X6_partsAhead_5 tx 82 0 ((n1 + 2) / 4))) then 0 else 1) else 0))
theorem z_f_X6_startsPart (tx : Nat → Int32) (a1 : Int32) (n1 : Nat) : narrow .boolean (.int (f_X6_startsPart tx a1 n1)) = .int (f_X6_startsPart tx a1 n1) := by
  unfold f_X6_startsPart
  repeat' split
  all_goals first | rfl
set_option maxRecDepth 100000 in
set_option maxHeartbeats 4000000 in
theorem c_X6_startsPart (l : Launch) (D : va_G) (cI cZ : ClassId) (q0 q1 q2 : Nat) (nT : Nat) (tx : Nat → Int32) (a1 : Int32) (n1 : Nat) (h_a1 : a1 = nI n1) (hn1 : n1 ≤ 40) : RO l D cI cZ yX6_startsPart cX6_startsPart 2 (some .boolean) (mR 3 66) [.ref q0, .int a1] [(q0, .inr (6, [.ref q1, .int (nI nT)])), (q1, .inr (2, [.ref q2])), (q2, .inl (cI, 40, .inl tx))] (some (.int (f_X6_startsPart tx a1 n1))) := by
  refine RO.of (by decide +kernel) (Nat.le_of_ble_eq_true rfl) ?_
  intro p e s m args below meth c ls Q CF hr hlk hP hE hQ hl
  have hx := CF.1
  have hb := CF.2.1
  have hl : lv_has ls 2 [(0, .ref q0), (1, .int a1)] := hl
  refine lv_aload_n hx hb dX6_startsPart_0 rfl (lv_at hl 0 rfl) ?_
  refine lv_iload_n hx hb dX6_startsPart_1 rfl (lv_at hl 1 rfl) ?_
  refine ro_V (y := yX6_at) (As := [.int a1]) (rest := []) (q0 := 0) CF (c_X6_at l D cI cZ q0 q1 q2 nT tx a1) lk_X6_36 hP hE [0, 1, 2] rfl rfl rfl rfl hl.1 rfl (Nat.le_of_ble_eq_true rfl) ⟨Nat.le_of_ble_eq_true rfl, Nat.le_of_ble_eq_true rfl, rfl, rfl⟩ ⟨Nat.zero_le _, Nat.zero_le _⟩ dX6_startsPart_2 ?_
  refine lv_bipush (v := 80) hx hb dX6_startsPart_5 (by decide) ?_
  refine lv_icmp_ne (tgt := 27) hx hb dX6_startsPart_7 (by decide) (fun c_1 => ?_) (fun c_1 => ?_)
  · refine lv_aload_n hx hb dX6_startsPart_27 rfl (lv_at hl 0 rfl) ?_
    refine lv_iload_n hx hb dX6_startsPart_28 rfl (lv_at hl 1 rfl) ?_
    refine ro_V (y := yX6_at) (As := [.int a1]) (rest := []) (q0 := 0) CF (c_X6_at l D cI cZ q0 q1 q2 nT tx a1) lk_X6_36 hP hE [0, 1, 2] rfl rfl rfl rfl hl.1 rfl (Nat.le_of_ble_eq_true rfl) ⟨Nat.le_of_ble_eq_true rfl, Nat.le_of_ble_eq_true rfl, rfl, rfl⟩ ⟨Nat.zero_le _, Nat.zero_le _⟩ dX6_startsPart_29 ?_
    refine lv_bipush (v := 82) hx hb dX6_startsPart_32 (by decide) ?_
    refine lv_icmp_ne (tgt := 52) hx hb dX6_startsPart_34 (by decide) (fun c_2 => ?_) (fun c_2 => ?_)
    · refine lv_iconst (v := 0) hx hb dX6_startsPart_52 (by decide) ?_
      exact ro_ret CF hQ hr hlk rfl dX6_startsPart_53 (by rw [f_X6_startsPart, if_neg c_1, if_neg c_2])
    · refine lv_aload_n hx hb dX6_startsPart_37 rfl (lv_at hl 0 rfl) ?_
      refine lv_iload_n hx hb dX6_startsPart_38 rfl (lv_at hl 1 rfl) ?_
      refine lv_bipush (v := 82) hx hb dX6_startsPart_39 (by decide) ?_
      refine ro_V (y := yX6_partsAhead) (As := [.int a1, .int 82]) (rest := []) (q0 := 0) CF (c_X6_partsAhead l D cI cZ q0 q1 q2 nT tx a1 n1 82 h_a1 (by omega)) lk_X6_50 hP hE [0, 1, 2] rfl rfl rfl rfl hl.1 rfl (Nat.le_of_ble_eq_true rfl) ⟨Nat.le_of_ble_eq_true rfl, Nat.le_of_ble_eq_true rfl, rfl, rfl⟩ ⟨Nat.zero_le _, Nat.zero_le _⟩ dX6_startsPart_41 ?_
      refine lv_iconst (v := 4) hx hb dX6_startsPart_44 (by decide) ?_
      refine lv_icmp_ge (tgt := 52) hx hb dX6_startsPart_45 (by decide) (fun c_3 => ?_) (fun c_3 => ?_)
      · refine lv_iconst (v := 0) hx hb dX6_startsPart_52 (by decide) ?_
        exact ro_ret CF hQ hr hlk rfl dX6_startsPart_53 (by rw [f_X6_startsPart, if_neg c_1, if_pos c_2, if_pos c_3])
      · refine lv_iconst (v := 1) hx hb dX6_startsPart_48 (by decide) ?_
        refine lv_goto (tgt := 53) hx hb dX6_startsPart_49 (by decide) ?_
        exact ro_ret CF hQ hr hlk rfl dX6_startsPart_53 (by rw [f_X6_startsPart, if_neg c_1, if_pos c_2, if_neg c_3])
  · refine lv_aload_n hx hb dX6_startsPart_10 rfl (lv_at hl 0 rfl) ?_
    refine lv_iload_n hx hb dX6_startsPart_11 rfl (lv_at hl 1 rfl) ?_
    refine lv_bipush (v := 80) hx hb dX6_startsPart_12 (by decide) ?_
    refine ro_V (y := yX6_partsAhead) (As := [.int a1, .int 80]) (rest := []) (q0 := 0) CF (c_X6_partsAhead l D cI cZ q0 q1 q2 nT tx a1 n1 80 h_a1 (by omega)) lk_X6_50 hP hE [0, 1, 2] rfl rfl rfl rfl hl.1 rfl (Nat.le_of_ble_eq_true rfl) ⟨Nat.le_of_ble_eq_true rfl, Nat.le_of_ble_eq_true rfl, rfl, rfl⟩ ⟨Nat.zero_le _, Nat.zero_le _⟩ dX6_startsPart_14 ?_
    refine lv_iconst (v := 5) hx hb dX6_startsPart_17 (by decide) ?_
    refine lv_icmp_ge (tgt := 25) hx hb dX6_startsPart_18 (by decide) (fun c_4 => ?_) (fun c_4 => ?_)
    · refine lv_iconst (v := 0) hx hb dX6_startsPart_25 (by decide) ?_
      exact ro_ret CF hQ hr hlk rfl dX6_startsPart_26 (by rw [f_X6_startsPart, if_pos c_1, if_pos c_4])
    · refine lv_iconst (v := 1) hx hb dX6_startsPart_21 (by decide) ?_
      refine lv_goto (tgt := 26) hx hb dX6_startsPart_22 (by decide) ?_
      exact ro_ret CF hQ hr hlk rfl dX6_startsPart_26 (by rw [f_X6_startsPart, if_pos c_1, if_neg c_4])
theorem lk_X6_47 : mLkV RX6 47 yX6_letter cX6_letter 2 (some .int) 1 := ⟨⟨tw_1_216, tw_1_5, tw_1_219, ⟨by decide +kernel, by decide +kernel, by decide +kernel⟩⟩, tw_1_217, tw_1_218⟩
theorem lk_X6_43 : mLkS RX6 43 yX6_isBetween cX6_isBetween 2 (some .boolean) 2 := ⟨⟨tw_1_213, tw_1_5, tw_1_215, ⟨by decide +kernel, by decide +kernel, by decide +kernel⟩⟩, tw_1_214⟩
theorem lk_X6_40 : mLkV RX6 40 yX6_digit cX6_digit 2 (some .int) 1 := ⟨⟨tw_1_209, tw_1_5, tw_1_212, ⟨by decide +kernel, by decide +kernel, by decide +kernel⟩⟩, tw_1_210, tw_1_211⟩
theorem lk_X6_37 : mLkV RX6 37 yX6_startsPart cX6_startsPart 2 (some .boolean) 1 := ⟨⟨tw_1_201, tw_1_5, tw_1_204, ⟨by decide +kernel, by decide +kernel, by decide +kernel⟩⟩, tw_1_203, tp_1_1⟩
def f_X6_fits (tx : Nat → Int32) (a1 : Int32) (n1 : Nat) : Int32 :=
  (if a1 = 0 then (if (f_X2_at 40 tx 0) = 75 then 1 else 0) else (if ((a1 - 1) - (a1 - 1) / 4 * 4) = 0 then (f_X6_startsPart tx a1 n1) else (if (f_X2_at 40 tx (a1 - ((a1 - 1) - (a1 - 1) / 4 * 4))) = 82 then (f_X6_isBetween ((f_X2_at 40 tx a1) - 48) 5) else (if ((a1 - 1) - (a1 - 1) / 4 * 4) = 1 then (f_X6_isBetween ((f_X2_at 40 tx a1) - 48) 3) else (f_X6_isBetween ((f_X2_at 40 tx a1) - 97) 7)))))
theorem z_f_X6_fits (tx : Nat → Int32) (a1 : Int32) (n1 : Nat) : narrow .boolean (.int (f_X6_fits tx a1 n1)) = .int (f_X6_fits tx a1 n1) := by
  unfold f_X6_fits
  repeat' split
  all_goals first | rfl | exact z_f_X6_isBetween _ _ | exact z_f_X6_startsPart _ _ _
set_option maxRecDepth 100000 in
set_option maxHeartbeats 4000000 in
theorem c_X6_fits (l : Launch) (D : va_G) (cI cZ : ClassId) (q0 q1 q2 : Nat) (nT : Nat) (tx : Nat → Int32) (a1 : Int32) (n1 : Nat) (h_a1 : a1 = nI n1) (hn1 : n1 ≤ 40) : RO l D cI cZ yX6_fits cX6_fits 3 (some .boolean) (mR 4 87) [.ref q0, .int a1] [(q0, .inr (6, [.ref q1, .int (nI nT)])), (q1, .inr (2, [.ref q2])), (q2, .inl (cI, 40, .inl tx))] (some (.int (f_X6_fits tx a1 n1))) := by
  refine RO.of (by decide +kernel) (Nat.le_of_ble_eq_true rfl) ?_
  intro p e s m args below meth c ls Q CF hr hlk hP hE hQ hl
  have hx := CF.1
  have hb := CF.2.1
  have hl : lv_has ls 3 [(0, .ref q0), (1, .int a1)] := hl
  refine lv_iload_n hx hb dX6_fits_0 rfl (lv_at hl 1 rfl) ?_
  refine lv_if_ne (tgt := 20) hx hb dX6_fits_1 (by decide) (fun c_1 => ?_) (fun c_1 => ?_)
  · refine lv_iload_n hx hb dX6_fits_20 rfl (lv_at hl 1 rfl) ?_
    refine lv_iconst (v := 1) hx hb dX6_fits_21 (by decide) ?_
    refine lv_isub hx hb dX6_fits_22 ?_
    refine lv_iconst (v := 4) hx hb dX6_fits_23 (by decide) ?_
    refine lv_irem hx hb dX6_fits_24 (by decide) ?_
    refine lv_istore_n (lv' := [(2, .int ((a1 - 1) - (a1 - 1) / 4 * 4)), (0, .ref q0), (1, .int a1)]) hx hb dX6_fits_25 rfl hl (by decide) rfl (fun ls hl => ?_)
    refine lv_iload_n hx hb dX6_fits_26 rfl (lv_at hl 0 rfl) ?_
    refine lv_if_ne (tgt := 36) hx hb dX6_fits_27 (by decide) (fun c_2 => ?_) (fun c_2 => ?_)
    · refine lv_aload_n hx hb dX6_fits_36 rfl (lv_at hl 1 rfl) ?_
      refine lv_iload_n hx hb dX6_fits_37 rfl (lv_at hl 2 rfl) ?_
      refine lv_iload_n hx hb dX6_fits_38 rfl (lv_at hl 0 rfl) ?_
      refine lv_isub hx hb dX6_fits_39 ?_
      refine ro_V (y := yX6_at) (As := [.int (a1 - ((a1 - 1) - (a1 - 1) / 4 * 4))]) (rest := []) (q0 := 0) CF (c_X6_at l D cI cZ q0 q1 q2 nT tx (a1 - ((a1 - 1) - (a1 - 1) / 4 * 4))) lk_X6_36 hP hE [0, 1, 2] rfl rfl rfl rfl hl.1 rfl (Nat.le_of_ble_eq_true rfl) ⟨Nat.le_of_ble_eq_true rfl, Nat.le_of_ble_eq_true rfl, rfl, rfl⟩ ⟨Nat.zero_le _, Nat.zero_le _⟩ dX6_fits_40 ?_
      refine lv_bipush (v := 82) hx hb dX6_fits_43 (by decide) ?_
      refine lv_icmp_ne (tgt := 58) hx hb dX6_fits_45 (by decide) (fun c_3 => ?_) (fun c_3 => ?_)
      · refine lv_iload_n hx hb dX6_fits_58 rfl (lv_at hl 0 rfl) ?_
        refine lv_iconst (v := 1) hx hb dX6_fits_59 (by decide) ?_
        refine lv_icmp_ne (tgt := 75) hx hb dX6_fits_60 (by decide) (fun c_4 => ?_) (fun c_4 => ?_)
        · refine lv_aload_n hx hb dX6_fits_75 rfl (lv_at hl 1 rfl) ?_
          refine lv_iload_n hx hb dX6_fits_76 rfl (lv_at hl 2 rfl) ?_
          refine ro_V (y := yX6_letter) (As := [.int a1]) (rest := []) (q0 := 0) CF (c_X6_letter l D cI cZ q0 q1 q2 nT tx a1) lk_X6_47 hP hE [0, 1, 2] rfl rfl rfl rfl hl.1 rfl (Nat.le_of_ble_eq_true rfl) ⟨Nat.le_of_ble_eq_true rfl, Nat.le_of_ble_eq_true rfl, rfl, rfl⟩ ⟨Nat.zero_le _, Nat.zero_le _⟩ dX6_fits_77 ?_
          refine lv_bipush (v := 7) hx hb dX6_fits_80 (by decide) ?_
          refine ro_S (y := yX6_isBetween) (As := [.int ((f_X2_at 40 tx a1) - 97), .int 7]) (rest := []) CF (c_X6_isBetween l D cI cZ ((f_X2_at 40 tx a1) - 97) 7) lk_X6_43 hE rfl hl.1 rfl (Nat.le_of_ble_eq_true rfl) ⟨Nat.le_of_ble_eq_true rfl, Nat.le_of_ble_eq_true rfl, rfl, rfl⟩ ⟨Nat.zero_le _, Nat.zero_le _⟩ dX6_fits_82 ?_
          exact ro_ret CF hQ hr hlk (z_f_X6_isBetween _ _) dX6_fits_85 (by rw [f_X6_fits, if_neg c_1, if_neg c_2, if_neg c_3, if_neg c_4])
        · refine lv_aload_n hx hb dX6_fits_63 rfl (lv_at hl 1 rfl) ?_
          refine lv_iload_n hx hb dX6_fits_64 rfl (lv_at hl 2 rfl) ?_
          refine ro_V (y := yX6_digit) (As := [.int a1]) (rest := []) (q0 := 0) CF (c_X6_digit l D cI cZ q0 q1 q2 nT tx a1) lk_X6_40 hP hE [0, 1, 2] rfl rfl rfl rfl hl.1 rfl (Nat.le_of_ble_eq_true rfl) ⟨Nat.le_of_ble_eq_true rfl, Nat.le_of_ble_eq_true rfl, rfl, rfl⟩ ⟨Nat.zero_le _, Nat.zero_le _⟩ dX6_fits_65 ?_
          refine lv_iconst (v := 3) hx hb dX6_fits_68 (by decide) ?_
          refine ro_S (y := yX6_isBetween) (As := [.int ((f_X2_at 40 tx a1) - 48), .int 3]) (rest := []) CF (c_X6_isBetween l D cI cZ ((f_X2_at 40 tx a1) - 48) 3) lk_X6_43 hE rfl hl.1 rfl (Nat.le_of_ble_eq_true rfl) ⟨Nat.le_of_ble_eq_true rfl, Nat.le_of_ble_eq_true rfl, rfl, rfl⟩ ⟨Nat.zero_le _, Nat.zero_le _⟩ dX6_fits_69 ?_
          refine lv_goto (tgt := 85) hx hb dX6_fits_72 (by decide) ?_
          exact ro_ret CF hQ hr hlk (z_f_X6_isBetween _ _) dX6_fits_85 (by rw [f_X6_fits, if_neg c_1, if_neg c_2, if_neg c_3, if_pos c_4])
      · refine lv_aload_n hx hb dX6_fits_48 rfl (lv_at hl 1 rfl) ?_
        refine lv_iload_n hx hb dX6_fits_49 rfl (lv_at hl 2 rfl) ?_
        refine ro_V (y := yX6_digit) (As := [.int a1]) (rest := []) (q0 := 0) CF (c_X6_digit l D cI cZ q0 q1 q2 nT tx a1) lk_X6_40 hP hE [0, 1, 2] rfl rfl rfl rfl hl.1 rfl (Nat.le_of_ble_eq_true rfl) ⟨Nat.le_of_ble_eq_true rfl, Nat.le_of_ble_eq_true rfl, rfl, rfl⟩ ⟨Nat.zero_le _, Nat.zero_le _⟩ dX6_fits_50 ?_
        refine lv_iconst (v := 5) hx hb dX6_fits_53 (by decide) ?_
        refine ro_S (y := yX6_isBetween) (As := [.int ((f_X2_at 40 tx a1) - 48), .int 5]) (rest := []) CF (c_X6_isBetween l D cI cZ ((f_X2_at 40 tx a1) - 48) 5) lk_X6_43 hE rfl hl.1 rfl (Nat.le_of_ble_eq_true rfl) ⟨Nat.le_of_ble_eq_true rfl, Nat.le_of_ble_eq_true rfl, rfl, rfl⟩ ⟨Nat.zero_le _, Nat.zero_le _⟩ dX6_fits_54 ?_
        exact ro_ret CF hQ hr hlk (z_f_X6_isBetween _ _) dX6_fits_57 (by rw [f_X6_fits, if_neg c_1, if_neg c_2, if_pos c_3])
    · refine lv_aload_n hx hb dX6_fits_30 rfl (lv_at hl 1 rfl) ?_
      refine lv_iload_n hx hb dX6_fits_31 rfl (lv_at hl 2 rfl) ?_
      refine ro_V (y := yX6_startsPart) (As := [.int a1]) (rest := []) (q0 := 0) CF (c_X6_startsPart l D cI cZ q0 q1 q2 nT tx a1 n1 h_a1 (by omega)) lk_X6_37 hP hE [0, 1, 2] rfl rfl rfl rfl hl.1 rfl (Nat.le_of_ble_eq_true rfl) ⟨Nat.le_of_ble_eq_true rfl, Nat.le_of_ble_eq_true rfl, rfl, rfl⟩ ⟨Nat.zero_le _, Nat.zero_le _⟩ dX6_fits_32 ?_
      exact ro_ret CF hQ hr hlk (z_f_X6_startsPart _ _ _) dX6_fits_35 (by rw [f_X6_fits, if_neg c_1, if_pos c_2])
  · refine lv_aload_n hx hb dX6_fits_4 rfl (lv_at hl 0 rfl) ?_
    refine lv_iconst (v := 0) hx hb dX6_fits_5 (by decide) ?_
    refine ro_V (y := yX6_at) (As := [.int 0]) (rest := []) (q0 := 0) CF (c_X6_at l D cI cZ q0 q1 q2 nT tx 0) lk_X6_36 hP hE [0, 1, 2] rfl rfl rfl rfl hl.1 rfl (Nat.le_of_ble_eq_true rfl) ⟨Nat.le_of_ble_eq_true rfl, Nat.le_of_ble_eq_true rfl, rfl, rfl⟩ ⟨Nat.zero_le _, Nat.zero_le _⟩ dX6_fits_6 ?_
    refine lv_bipush (v := 75) hx hb dX6_fits_9 (by decide) ?_
    refine lv_icmp_ne (tgt := 18) hx hb dX6_fits_11 (by decide) (fun c_5 => ?_) (fun c_5 => ?_)
    · refine lv_iconst (v := 0) hx hb dX6_fits_18 (by decide) ?_
      exact ro_ret CF hQ hr hlk rfl dX6_fits_19 (by rw [f_X6_fits, if_pos c_1, if_neg c_5])
    · refine lv_iconst (v := 1) hx hb dX6_fits_14 (by decide) ?_
      refine lv_goto (tgt := 19) hx hb dX6_fits_15 (by decide) ?_
      exact ro_ret CF hQ hr hlk rfl dX6_fits_19 (by rw [f_X6_fits, if_pos c_1, if_pos c_5])
theorem lk_X6_32 : mLkV RX6 32 yX6_fits cX6_fits 3 (some .boolean) 1 := ⟨⟨tw_1_189, tw_1_5, tw_1_192, ⟨by decide +kernel, by decide +kernel, by decide +kernel⟩⟩, tw_1_191, tp_1_0⟩
def S_X6_firstFault_2 (nT : Nat) (tx : Nat → Int32) (rec : Nat → ((Int32))) (k2 : Nat) : (Int32) :=
  (if (nI nT) ≤ (nI k2) then (if (nI nT) ≤ 0 then (nI nT) else (if (((nI nT) - 1) - ((nI nT) - 1) / 4 * 4) = 0 then (-9) else (nI nT))) else (if (f_X6_fits tx (nI k2) k2) = 0 then (nI k2) else (rec (k2 + 1) )))
def L_X6_firstFault_2 (nT : Nat) (tx : Nat → Int32) : Nat → Nat → ((Int32))
  | 0, _ => 0
  | n + 1, k => S_X6_firstFault_2 nT tx (L_X6_firstFault_2 nT tx n) k
set_option maxRecDepth 100000 in
set_option maxHeartbeats 4000000 in
theorem c_X6_firstFault (l : Launch) (D : va_G) (cI cZ : ClassId) (q0 q1 q2 : Nat) (nT : Nat) (tx : Nat → Int32) (hT : nT ≤ 40) : RO l D cI cZ yX6_firstFault cX6_firstFault 2 (some .int) (mR 5 109) [.ref q0] [(q0, .inr (6, [.ref q1, .int (nI nT)])), (q1, .inr (2, [.ref q2])), (q2, .inl (cI, 40, .inl tx))] (some (.int ((L_X6_firstFault_2 nT tx (nT + 1) 0)))) := by
  refine RO.of (by decide +kernel) (Nat.le_of_ble_eq_true rfl) ?_
  intro p e s m args below meth c ls Q CF hr hlk hP hE hQ hl
  have hx := CF.1
  have hb := CF.2.1
  have hl : lv_has ls 2 [(0, .ref q0)] := hl
  refine lv_iconst (v := 0) hx hb dX6_firstFault_0 (by decide) ?_
  refine lv_istore_n (lv' := [(1, .int 0), (0, .ref q0)]) hx hb dX6_firstFault_1 rfl hl (by decide) rfl (fun ls hl => ?_)
  have LOOP_2 : ∀ (n_2 k2 : Nat) (ls : Array Slot), k2 ≤ nT → nT - k2 < n_2 → L_X6_firstFault_2 nT tx n_2 k2  = L_X6_firstFault_2 nT tx (nT + 1) 0 → lv_has ls 2 [(1, .int (nI k2)), (0, .ref q0)] → W p l e (mR 5 109) s m args below meth c s.heap [] 0 0 Q (F0 m 2 ls []) := by
    intro n_2
    induction n_2 with
    | zero => intro k2 ls hk_2 hn_2 hR_2 hl; exact absurd hn_2 (Nat.not_lt_zero _)
    | succ n_2 ih_2 =>
      intro k2 ls hk_2 hn_2 hR_2 hl
      refine lv_iload_n hx hb dX6_firstFault_2 rfl (lv_at hl 0 rfl) ?_
      refine lv_aload_n hx hb dX6_firstFault_3 rfl (lv_at hl 1 rfl) ?_
      refine r_get (C := RX6) (T := TX6) (N := 2) (v := .int (nI nT)) CF hE hP 0 rfl rfl inG6 1 (by decide) tw_1_65 rfl rfl dX6_firstFault_4 ?_
      refine lv_icmp_ge (tgt := 26) hx hb dX6_firstFault_7 (by decide) (fun c_2 => ?_) (fun c_2 => ?_)
      · have o_2 : nT ≤ k2 := (cle (rfl : nI nT = nI nT) (rfl : nI k2 = nI k2) (by omega) (by omega)).mp c_2
        refine lv_aload_n hx hb dX6_firstFault_26 rfl (lv_at hl 1 rfl) ?_
        refine r_get (C := RX6) (T := TX6) (N := 2) (v := .int (nI nT)) CF hE hP 0 rfl rfl inG6 1 (by decide) tw_1_65 rfl rfl dX6_firstFault_27 ?_
        refine lv_if_le (tgt := 48) hx hb dX6_firstFault_30 (by decide) (fun c_3 => ?_) (fun c_3 => ?_)
        · refine lv_iconst (v := 0) hx hb dX6_firstFault_48 (by decide) ?_
          refine lv_istore_n (lv' := [(1, .int 0), (0, .ref q0)]) hx hb dX6_firstFault_49 rfl hl (by decide) rfl (fun ls hl => ?_)
          refine lv_iload_n hx hb dX6_firstFault_50 rfl (lv_at hl 0 rfl) ?_
          refine lv_if_eq (tgt := 59) hx hb dX6_firstFault_51 (by decide) (fun _ => ?_) (fun c_4 => absurd c_4 (by decide))
          refine lv_aload_n hx hb dX6_firstFault_59 rfl (lv_at hl 1 rfl) ?_
          refine r_get (C := RX6) (T := TX6) (N := 2) (v := .int (nI nT)) CF hE hP 0 rfl rfl inG6 1 (by decide) tw_1_65 rfl rfl dX6_firstFault_60 ?_
          have hq_1 : L_X6_firstFault_2 nT tx (nT + 1) 0 = (nI nT) := by
            rw [← hR_2]
            show S_X6_firstFault_2 nT tx (L_X6_firstFault_2 nT tx n_2) k2  = _
            rw [S_X6_firstFault_2, if_pos c_2, if_pos c_3]
          exact ro_ret CF hQ hr hlk rfl dX6_firstFault_63 (by rw [hq_1])
        · refine lv_aload_n hx hb dX6_firstFault_33 rfl (lv_at hl 1 rfl) ?_
          refine r_get (C := RX6) (T := TX6) (N := 2) (v := .int (nI nT)) CF hE hP 0 rfl rfl inG6 1 (by decide) tw_1_65 rfl rfl dX6_firstFault_34 ?_
          refine lv_iconst (v := 1) hx hb dX6_firstFault_37 (by decide) ?_
          refine lv_isub hx hb dX6_firstFault_38 ?_
          refine lv_iconst (v := 4) hx hb dX6_firstFault_39 (by decide) ?_
          refine lv_irem hx hb dX6_firstFault_40 (by decide) ?_
          refine lv_if_ne (tgt := 48) hx hb dX6_firstFault_41 (by decide) (fun c_5 => ?_) (fun c_5 => ?_)
          · refine lv_iconst (v := 0) hx hb dX6_firstFault_48 (by decide) ?_
            refine lv_istore_n (lv' := [(1, .int 0), (0, .ref q0)]) hx hb dX6_firstFault_49 rfl hl (by decide) rfl (fun ls hl => ?_)
            refine lv_iload_n hx hb dX6_firstFault_50 rfl (lv_at hl 0 rfl) ?_
            refine lv_if_eq (tgt := 59) hx hb dX6_firstFault_51 (by decide) (fun _ => ?_) (fun c_6 => absurd c_6 (by decide))
            refine lv_aload_n hx hb dX6_firstFault_59 rfl (lv_at hl 1 rfl) ?_
            refine r_get (C := RX6) (T := TX6) (N := 2) (v := .int (nI nT)) CF hE hP 0 rfl rfl inG6 1 (by decide) tw_1_65 rfl rfl dX6_firstFault_60 ?_
            have hq_1 : L_X6_firstFault_2 nT tx (nT + 1) 0 = (nI nT) := by
              rw [← hR_2]
              show S_X6_firstFault_2 nT tx (L_X6_firstFault_2 nT tx n_2) k2  = _
              rw [S_X6_firstFault_2, if_pos c_2, if_neg c_3, if_neg c_5]
            exact ro_ret CF hQ hr hlk rfl dX6_firstFault_63 (by rw [hq_1])
          · refine lv_iconst (v := 1) hx hb dX6_firstFault_44 (by decide) ?_
            refine lv_goto (tgt := 49) hx hb dX6_firstFault_45 (by decide) ?_
            refine lv_istore_n (lv' := [(1, .int 1), (0, .ref q0)]) hx hb dX6_firstFault_49 rfl hl (by decide) rfl (fun ls hl => ?_)
            refine lv_iload_n hx hb dX6_firstFault_50 rfl (lv_at hl 0 rfl) ?_
            refine lv_if_eq (tgt := 59) hx hb dX6_firstFault_51 (by decide) (fun c_7 => absurd c_7 (by decide)) (fun _ => ?_)
            refine lv_bipush (v := (-9)) hx hb dX6_firstFault_54 (by decide) ?_
            refine lv_goto (tgt := 63) hx hb dX6_firstFault_56 (by decide) ?_
            have hq_1 : L_X6_firstFault_2 nT tx (nT + 1) 0 = (-9) := by
              rw [← hR_2]
              show S_X6_firstFault_2 nT tx (L_X6_firstFault_2 nT tx n_2) k2  = _
              rw [S_X6_firstFault_2, if_pos c_2, if_neg c_3, if_pos c_5]
            exact ro_ret CF hQ hr hlk rfl dX6_firstFault_63 (by rw [hq_1])
      · have o_2 : ¬ nT ≤ k2 := fun h => c_2 ((cle (rfl : nI nT = nI nT) (rfl : nI k2 = nI k2) (by omega) (by omega)).mpr h)
        refine lv_aload_n hx hb dX6_firstFault_10 rfl (lv_at hl 1 rfl) ?_
        refine lv_iload_n hx hb dX6_firstFault_11 rfl (lv_at hl 0 rfl) ?_
        refine ro_V (y := yX6_fits) (As := [.int (nI k2)]) (rest := []) (q0 := 0) CF (c_X6_fits l D cI cZ q0 q1 q2 nT tx (nI k2) k2 (rfl : nI k2 = nI k2) (by omega)) lk_X6_32 hP hE [0, 1, 2] rfl rfl rfl rfl hl.1 rfl (Nat.le_of_ble_eq_true rfl) ⟨Nat.le_of_ble_eq_true rfl, Nat.le_of_ble_eq_true rfl, rfl, rfl⟩ ⟨Nat.zero_le _, Nat.zero_le _⟩ dX6_firstFault_12 ?_
        refine lv_if_ne (tgt := 20) hx hb dX6_firstFault_15 (by decide) (fun c_8 => ?_) (fun c_8 => ?_)
        · refine lv_iinc (v := (nI (k2 + 1))) (lv' := [(1, .int (nI (k2 + 1))), (0, .ref q0)]) hx hb dX6_firstFault_20 hl (k := 0) rfl (nf_inc 1 (rfl : nI k2 = nI k2)) (by decide) rfl (fun ls hl => ?_)
          refine lv_goto (tgt := 2) hx hb dX6_firstFault_23 (by decide) ?_
          have hR2 : L_X6_firstFault_2 nT tx n_2 (k2 + 1)  = L_X6_firstFault_2 nT tx (nT + 1) 0 := by
            rw [← hR_2]
            show _ = S_X6_firstFault_2 nT tx (L_X6_firstFault_2 nT tx n_2) k2 
            rw [S_X6_firstFault_2, if_neg c_2, if_neg c_8]
          exact ih_2 (k2 + 1) _ (by omega) (by omega) hR2 (lv_sub hl [0, 1] rfl)
        · refine lv_iload_n hx hb dX6_firstFault_18 rfl (lv_at hl 0 rfl) ?_
          have hq_1 : L_X6_firstFault_2 nT tx (nT + 1) 0 = (nI k2) := by
            rw [← hR_2]
            show S_X6_firstFault_2 nT tx (L_X6_firstFault_2 nT tx n_2) k2  = _
            rw [S_X6_firstFault_2, if_neg c_2, if_pos c_8]
          exact ro_ret CF hQ hr hlk rfl dX6_firstFault_19 (by rw [hq_1])
  have e_k : 0 = nI (0) := (nf_c 0).trans (congrArg nI (by omega))
  rw [e_k] at hl
  exact LOOP_2 (nT + 1) 0 _ (Nat.zero_le _) (by omega) rfl (lv_sub hl [0, 1] rfl)
def f_X7_contains (a0 : Int32) (a1 : Int32) : Int32 :=
  (if (((a0 : Int32) >>> ((a1 : Int32) &&& 31)) &&& 1) = 1 then 1 else 0)
theorem z_f_X7_contains (a0 : Int32) (a1 : Int32) : narrow .boolean (.int (f_X7_contains a0 a1)) = .int (f_X7_contains a0 a1) := by
  unfold f_X7_contains
  repeat' split
  all_goals first | rfl
set_option maxRecDepth 100000 in
set_option maxHeartbeats 4000000 in
theorem c_X7_contains (l : Launch) (D : va_G) (cI cZ : ClassId) (a0 : Int32) (a1 : Int32) : RO l D cI cZ yX7_contains cX7_contains 2 (some .boolean) (mR 0 0) [.int a0, .int a1] [] (some (.int (f_X7_contains a0 a1))) := by
  refine RO.of (by decide +kernel) (Nat.le_of_ble_eq_true rfl) ?_
  intro p e s m args below meth c ls Q CF hr hlk hP hE hQ hl
  have hx := CF.1
  have hb := CF.2.1
  have hl : lv_has ls 2 [(0, .int a0), (1, .int a1)] := hl
  refine lv_iload_n hx hb dX7_contains_0 rfl (lv_at hl 0 rfl) ?_
  refine lv_iload_n hx hb dX7_contains_1 rfl (lv_at hl 1 rfl) ?_
  refine lv_ishr hx hb dX7_contains_2 ?_
  refine lv_iconst (v := 1) hx hb dX7_contains_3 (by decide) ?_
  refine lv_iand hx hb dX7_contains_4 ?_
  refine lv_iconst (v := 1) hx hb dX7_contains_5 (by decide) ?_
  refine lv_icmp_ne (tgt := 13) hx hb dX7_contains_6 (by decide) (fun c_1 => ?_) (fun c_1 => ?_)
  · refine lv_iconst (v := 0) hx hb dX7_contains_13 (by decide) ?_
    exact ro_ret CF hQ hr hlk rfl dX7_contains_14 (by rw [f_X7_contains, if_neg c_1])
  · refine lv_iconst (v := 1) hx hb dX7_contains_9 (by decide) ?_
    refine lv_goto (tgt := 14) hx hb dX7_contains_10 (by decide) ?_
    exact ro_ret CF hQ hr hlk rfl dX7_contains_14 (by rw [f_X7_contains, if_pos c_1])
def f_X7_isFact (a0 : Int32) : Int32 :=
  (if a0 < 0 then 0 else (if 6 ≤ a0 then 0 else 1))
theorem z_f_X7_isFact (a0 : Int32) : narrow .boolean (.int (f_X7_isFact a0)) = .int (f_X7_isFact a0) := by
  unfold f_X7_isFact
  repeat' split
  all_goals first | rfl
set_option maxRecDepth 100000 in
set_option maxHeartbeats 4000000 in
theorem c_X7_isFact (l : Launch) (D : va_G) (cI cZ : ClassId) (a0 : Int32) : RO l D cI cZ yX7_isFact cX7_isFact 1 (some .boolean) (mR 0 0) [.int a0] [] (some (.int (f_X7_isFact a0))) := by
  refine RO.of (by decide +kernel) (Nat.le_of_ble_eq_true rfl) ?_
  intro p e s m args below meth c ls Q CF hr hlk hP hE hQ hl
  have hx := CF.1
  have hb := CF.2.1
  have hl : lv_has ls 1 [(0, .int a0)] := hl
  refine lv_iload_n hx hb dX7_isFact_0 rfl (lv_at hl 0 rfl) ?_
  refine lv_if_lt (tgt := 14) hx hb dX7_isFact_1 (by decide) (fun c_1 => ?_) (fun c_1 => ?_)
  · refine lv_iconst (v := 0) hx hb dX7_isFact_14 (by decide) ?_
    exact ro_ret CF hQ hr hlk rfl dX7_isFact_15 (by rw [f_X7_isFact, if_pos c_1])
  · refine lv_iload_n hx hb dX7_isFact_4 rfl (lv_at hl 0 rfl) ?_
    refine lv_bipush (v := 6) hx hb dX7_isFact_5 (by decide) ?_
    refine lv_icmp_ge (tgt := 14) hx hb dX7_isFact_7 (by decide) (fun c_2 => ?_) (fun c_2 => ?_)
    · refine lv_iconst (v := 0) hx hb dX7_isFact_14 (by decide) ?_
      exact ro_ret CF hQ hr hlk rfl dX7_isFact_15 (by rw [f_X7_isFact, if_neg c_1, if_pos c_2])
    · refine lv_iconst (v := 1) hx hb dX7_isFact_10 (by decide) ?_
      refine lv_goto (tgt := 15) hx hb dX7_isFact_11 (by decide) ?_
      exact ro_ret CF hQ hr hlk rfl dX7_isFact_15 (by rw [f_X7_isFact, if_neg c_1, if_neg c_2])
def f_X7_isVoice (a0 : Int32) : Int32 :=
  (if a0 < 1 then 0 else (if 2 < a0 then 0 else 1))
theorem z_f_X7_isVoice (a0 : Int32) : narrow .boolean (.int (f_X7_isVoice a0)) = .int (f_X7_isVoice a0) := by
  unfold f_X7_isVoice
  repeat' split
  all_goals first | rfl
set_option maxRecDepth 100000 in
set_option maxHeartbeats 4000000 in
theorem c_X7_isVoice (l : Launch) (D : va_G) (cI cZ : ClassId) (a0 : Int32) : RO l D cI cZ yX7_isVoice cX7_isVoice 1 (some .boolean) (mR 0 0) [.int a0] [] (some (.int (f_X7_isVoice a0))) := by
  refine RO.of (by decide +kernel) (Nat.le_of_ble_eq_true rfl) ?_
  intro p e s m args below meth c ls Q CF hr hlk hP hE hQ hl
  have hx := CF.1
  have hb := CF.2.1
  have hl : lv_has ls 1 [(0, .int a0)] := hl
  refine lv_iload_n hx hb dX7_isVoice_0 rfl (lv_at hl 0 rfl) ?_
  refine lv_iconst (v := 1) hx hb dX7_isVoice_1 (by decide) ?_
  refine lv_icmp_lt (tgt := 14) hx hb dX7_isVoice_2 (by decide) (fun c_1 => ?_) (fun c_1 => ?_)
  · refine lv_iconst (v := 0) hx hb dX7_isVoice_14 (by decide) ?_
    exact ro_ret CF hQ hr hlk rfl dX7_isVoice_15 (by rw [f_X7_isVoice, if_pos c_1])
  · refine lv_iload_n hx hb dX7_isVoice_5 rfl (lv_at hl 0 rfl) ?_
    refine lv_iconst (v := 2) hx hb dX7_isVoice_6 (by decide) ?_
    refine lv_icmp_gt (tgt := 14) hx hb dX7_isVoice_7 (by decide) (fun c_2 => ?_) (fun c_2 => ?_)
    · refine lv_iconst (v := 0) hx hb dX7_isVoice_14 (by decide) ?_
      exact ro_ret CF hQ hr hlk rfl dX7_isVoice_15 (by rw [f_X7_isVoice, if_neg c_1, if_pos c_2])
    · refine lv_iconst (v := 1) hx hb dX7_isVoice_10 (by decide) ?_
      refine lv_goto (tgt := 15) hx hb dX7_isVoice_11 (by decide) ?_
      exact ro_ret CF hQ hr hlk rfl dX7_isVoice_15 (by rw [f_X7_isVoice, if_neg c_1, if_neg c_2])
def f_X7_isSlot (a0 : Int32) : Int32 :=
  (if a0 < 0 then 0 else (if 2 ≤ a0 then 0 else 1))
theorem z_f_X7_isSlot (a0 : Int32) : narrow .boolean (.int (f_X7_isSlot a0)) = .int (f_X7_isSlot a0) := by
  unfold f_X7_isSlot
  repeat' split
  all_goals first | rfl
set_option maxRecDepth 100000 in
set_option maxHeartbeats 4000000 in
theorem c_X7_isSlot (l : Launch) (D : va_G) (cI cZ : ClassId) (a0 : Int32) : RO l D cI cZ yX7_isSlot cX7_isSlot 1 (some .boolean) (mR 0 0) [.int a0] [] (some (.int (f_X7_isSlot a0))) := by
  refine RO.of (by decide +kernel) (Nat.le_of_ble_eq_true rfl) ?_
  intro p e s m args below meth c ls Q CF hr hlk hP hE hQ hl
  have hx := CF.1
  have hb := CF.2.1
  have hl : lv_has ls 1 [(0, .int a0)] := hl
  refine lv_iload_n hx hb dX7_isSlot_0 rfl (lv_at hl 0 rfl) ?_
  refine lv_if_lt (tgt := 13) hx hb dX7_isSlot_1 (by decide) (fun c_1 => ?_) (fun c_1 => ?_)
  · refine lv_iconst (v := 0) hx hb dX7_isSlot_13 (by decide) ?_
    exact ro_ret CF hQ hr hlk rfl dX7_isSlot_14 (by rw [f_X7_isSlot, if_pos c_1])
  · refine lv_iload_n hx hb dX7_isSlot_4 rfl (lv_at hl 0 rfl) ?_
    refine lv_iconst (v := 2) hx hb dX7_isSlot_5 (by decide) ?_
    refine lv_icmp_ge (tgt := 13) hx hb dX7_isSlot_6 (by decide) (fun c_2 => ?_) (fun c_2 => ?_)
    · refine lv_iconst (v := 0) hx hb dX7_isSlot_13 (by decide) ?_
      exact ro_ret CF hQ hr hlk rfl dX7_isSlot_14 (by rw [f_X7_isSlot, if_neg c_1, if_pos c_2])
    · refine lv_iconst (v := 1) hx hb dX7_isSlot_9 (by decide) ?_
      refine lv_goto (tgt := 14) hx hb dX7_isSlot_10 (by decide) ?_
      exact ro_ret CF hQ hr hlk rfl dX7_isSlot_14 (by rw [f_X7_isSlot, if_neg c_1, if_neg c_2])
def S_X7_factorial_4 (k4 : Nat) (x4_0 : Int32) : (Int32) :=
  (x4_0 * (nI (2 + k4)))
def B_X7_factorial_4 (i0 : Int32) : Nat → (Int32)
  | 0 => i0
  | k + 1 => S_X7_factorial_4 k (B_X7_factorial_4 i0 k)
set_option maxRecDepth 100000 in
set_option maxHeartbeats 4000000 in
theorem c_X7_factorial (l : Launch) (D : va_G) (cI cZ : ClassId) (a0 : Int32) (n0 : Nat) (h_a0 : a0 = nI n0) (hn0 : n0 < 2 ^ 30) : RO l D cI cZ yX7_factorial cX7_factorial 3 (some .int) (mR 0 0) [.int a0] [] (some (.int ((B_X7_factorial_4 1 (n0 - 1))))) := by
  refine RO.of (by decide +kernel) (Nat.le_of_ble_eq_true rfl) ?_
  intro p e s m args below meth c ls Q CF hr hlk hP hE hQ hl
  have hx := CF.1
  have hb := CF.2.1
  have hl : lv_has ls 3 [(0, .int a0)] := hl
  refine lv_iconst (v := 1) hx hb dX7_factorial_0 (by decide) ?_
  refine lv_istore_n (lv' := [(1, .int 1), (0, .int a0)]) hx hb dX7_factorial_1 rfl hl (by decide) rfl (fun ls hl => ?_)
  refine lv_iconst (v := 2) hx hb dX7_factorial_2 (by decide) ?_
  refine lv_istore_n (lv' := [(2, .int 2), (1, .int 1), (0, .int a0)]) hx hb dX7_factorial_3 rfl hl (by decide) rfl (fun ls hl => ?_)
  have LOOP_4 : ∀ (n_4 k4 : Nat) (x4_0 : Int32) (ls : Array Slot), k4 ≤ n0 - 1 → n0 - 1 - k4 < n_4 → (B_X7_factorial_4 1 k4) = x4_0 → lv_has ls 3 [(2, .int (nI (2 + k4))), (1, .int x4_0), (0, .int a0)] → W p l e (mR 0 0) s m args below meth c s.heap [] 0 0 Q (F0 m 4 ls []) := by
    intro n_4
    induction n_4 with
    | zero => intro k4 x4_0 ls hk_4 hn_4 hB_4 hl; exact absurd hn_4 (Nat.not_lt_zero _)
    | succ n_4 ih_4 =>
      intro k4 x4_0 ls hk_4 hn_4 hB_4 hl
      refine lv_iload_n hx hb dX7_factorial_4 rfl (lv_at hl 0 rfl) ?_
      refine lv_iload_n hx hb dX7_factorial_5 rfl (lv_at hl 2 rfl) ?_
      refine lv_icmp_gt (tgt := 19) hx hb dX7_factorial_6 (by decide) (fun c_1 => ?_) (fun c_1 => ?_)
      · have o_1 : n0 < (2 + k4) := (clt h_a0 (rfl : nI (2 + k4) = nI (2 + k4)) (by omega) (by omega)).mp c_1
        have hkN : (n0 - 1) = k4 := by omega
        subst hkN
        subst hB_4
        refine lv_iload_n hx hb dX7_factorial_19 rfl (lv_at hl 1 rfl) ?_
        exact ro_ret CF hQ hr hlk rfl dX7_factorial_20 rfl
      · have o_1 : ¬ n0 < (2 + k4) := fun h => c_1 ((clt h_a0 (rfl : nI (2 + k4) = nI (2 + k4)) (by omega) (by omega)).mpr h)
        refine lv_iload_n hx hb dX7_factorial_9 rfl (lv_at hl 1 rfl) ?_
        refine lv_iload_n hx hb dX7_factorial_10 rfl (lv_at hl 0 rfl) ?_
        refine lv_imul hx hb dX7_factorial_11 ?_
        refine lv_istore_n (lv' := [(1, .int (x4_0 * (nI (2 + k4)))), (2, .int (nI (2 + k4))), (0, .int a0)]) hx hb dX7_factorial_12 rfl hl (by decide) rfl (fun ls hl => ?_)
        refine lv_iinc (v := (nI ((2 + k4) + 1))) (lv' := [(2, .int (nI ((2 + k4) + 1))), (1, .int (x4_0 * (nI (2 + k4)))), (0, .int a0)]) hx hb dX7_factorial_13 hl (k := 1) rfl (nf_inc 1 (rfl : nI (2 + k4) = nI (2 + k4))) (by decide) rfl (fun ls hl => ?_)
        refine lv_goto (tgt := 4) hx hb dX7_factorial_16 (by decide) ?_
        have hB2 : B_X7_factorial_4 1 (k4 + 1) = (x4_0 * (nI (2 + k4))) := by
          rw [B_X7_factorial_4, hB_4]
          rw [S_X7_factorial_4]
        have e_k : (nI ((2 + k4) + 1)) = nI (2 + (k4 + 1)) := (rfl : nI ((2 + k4) + 1) = nI ((2 + k4) + 1)).trans (congrArg nI (by omega))
        rw [e_k] at hl
        exact ih_4 (k4 + 1) (x4_0 * (nI (2 + k4))) _ (by omega) (by omega) hB2 (lv_sub hl [0, 1, 2] rfl)
  have e_k : 2 = nI (2 + 0) := (nf_c 2).trans (congrArg nI (by omega))
  rw [e_k] at hl
  exact LOOP_4 ((n0 - 1) - 0 + 1) 0 1 _ (Nat.zero_le _) (by omega) rfl (lv_sub hl [0, 1, 2] rfl)
def S_X7_power_4 (a0 : Int32) (k4 : Nat) (x4_0 : Int32) : (Int32) :=
  (x4_0 * a0)
def B_X7_power_4 (a0 : Int32) (i0 : Int32) : Nat → (Int32)
  | 0 => i0
  | k + 1 => S_X7_power_4 a0 k (B_X7_power_4 a0 i0 k)
set_option maxRecDepth 100000 in
set_option maxHeartbeats 4000000 in
theorem c_X7_power (l : Launch) (D : va_G) (cI cZ : ClassId) (a0 : Int32) (a1 : Int32) (n1 : Nat) (h_a1 : a1 = nI n1) (hn1 : n1 < 2 ^ 30) : RO l D cI cZ yX7_power cX7_power 4 (some .int) (mR 0 0) [.int a0, .int a1] [] (some (.int ((B_X7_power_4 a0 1 n1)))) := by
  refine RO.of (by decide +kernel) (Nat.le_of_ble_eq_true rfl) ?_
  intro p e s m args below meth c ls Q CF hr hlk hP hE hQ hl
  have hx := CF.1
  have hb := CF.2.1
  have hl : lv_has ls 4 [(0, .int a0), (1, .int a1)] := hl
  refine lv_iconst (v := 1) hx hb dX7_power_0 (by decide) ?_
  refine lv_istore_n (lv' := [(2, .int 1), (0, .int a0), (1, .int a1)]) hx hb dX7_power_1 rfl hl (by decide) rfl (fun ls hl => ?_)
  refine lv_iconst (v := 0) hx hb dX7_power_2 (by decide) ?_
  refine lv_istore_n (lv' := [(3, .int 0), (2, .int 1), (0, .int a0), (1, .int a1)]) hx hb dX7_power_3 rfl hl (by decide) rfl (fun ls hl => ?_)
  have LOOP_4 : ∀ (n_4 k4 : Nat) (x4_0 : Int32) (ls : Array Slot), k4 ≤ n1 → n1 - k4 < n_4 → (B_X7_power_4 a0 1 k4) = x4_0 → lv_has ls 4 [(3, .int (nI k4)), (2, .int x4_0), (0, .int a0), (1, .int a1)] → W p l e (mR 0 0) s m args below meth c s.heap [] 0 0 Q (F0 m 4 ls []) := by
    intro n_4
    induction n_4 with
    | zero => intro k4 x4_0 ls hk_4 hn_4 hB_4 hl; exact absurd hn_4 (Nat.not_lt_zero _)
    | succ n_4 ih_4 =>
      intro k4 x4_0 ls hk_4 hn_4 hB_4 hl
      refine lv_iload_n hx hb dX7_power_4 rfl (lv_at hl 0 rfl) ?_
      refine lv_iload_n hx hb dX7_power_5 rfl (lv_at hl 3 rfl) ?_
      refine lv_icmp_ge (tgt := 19) hx hb dX7_power_6 (by decide) (fun c_1 => ?_) (fun c_1 => ?_)
      · have o_1 : n1 ≤ k4 := (cle h_a1 (rfl : nI k4 = nI k4) (by omega) (by omega)).mp c_1
        have hkN : n1 = k4 := by omega
        subst hkN
        subst hB_4
        refine lv_iload_n hx hb dX7_power_19 rfl (lv_at hl 1 rfl) ?_
        exact ro_ret CF hQ hr hlk rfl dX7_power_20 rfl
      · have o_1 : ¬ n1 ≤ k4 := fun h => c_1 ((cle h_a1 (rfl : nI k4 = nI k4) (by omega) (by omega)).mpr h)
        refine lv_iload_n hx hb dX7_power_9 rfl (lv_at hl 1 rfl) ?_
        refine lv_iload_n hx hb dX7_power_10 rfl (lv_at hl 2 rfl) ?_
        refine lv_imul hx hb dX7_power_11 ?_
        refine lv_istore_n (lv' := [(2, .int (x4_0 * a0)), (3, .int (nI k4)), (0, .int a0), (1, .int a1)]) hx hb dX7_power_12 rfl hl (by decide) rfl (fun ls hl => ?_)
        refine lv_iinc (v := (nI (k4 + 1))) (lv' := [(3, .int (nI (k4 + 1))), (2, .int (x4_0 * a0)), (0, .int a0), (1, .int a1)]) hx hb dX7_power_13 hl (k := 1) rfl (nf_inc 1 (rfl : nI k4 = nI k4)) (by decide) rfl (fun ls hl => ?_)
        refine lv_goto (tgt := 4) hx hb dX7_power_16 (by decide) ?_
        have hB2 : B_X7_power_4 a0 1 (k4 + 1) = (x4_0 * a0) := by
          rw [B_X7_power_4, hB_4]
          rw [S_X7_power_4]
        exact ih_4 (k4 + 1) (x4_0 * a0) _ (by omega) (by omega) hB2 (lv_sub hl [0, 1, 2, 3] rfl)
  have e_k : 0 = nI (0) := (nf_c 0).trans (congrArg nI (by omega))
  rw [e_k] at hl
  exact LOOP_4 (n1 - 0 + 1) 0 1 _ (Nat.zero_le _) (by omega) rfl (lv_sub hl [0, 1, 2, 3] rfl)
theorem lk_X7_220 : mLkS RX7 220 yX7_power cX7_power 4 (some .int) 2 := ⟨⟨tw_3_25, tw_1_1, tw_3_27, ⟨by decide +kernel, by decide +kernel, by decide +kernel⟩⟩, tw_3_26⟩
set_option maxRecDepth 100000 in
set_option maxHeartbeats 4000000 in
theorem c_X7_thousands (l : Launch) (D : va_G) (cI cZ : ClassId) (a0 : Int32) (n0 : Nat) (h_a0 : a0 = nI n0) (hn0 : n0 < 2 ^ 30) : RO l D cI cZ yX7_thousands cX7_thousands 1 (some .int) (mR 1 23) [.int a0] [] (some (.int ((B_X7_power_4 1000 1 n0)))) := by
  refine RO.of (by decide +kernel) (Nat.le_of_ble_eq_true rfl) ?_
  intro p e s m args below meth c ls Q CF hr hlk hP hE hQ hl
  have hx := CF.1
  have hb := CF.2.1
  have hl : lv_has ls 1 [(0, .int a0)] := hl
  refine lv_sipush (v := 1000) hx hb dX7_thousands_0 (by decide) ?_
  refine lv_iload_n hx hb dX7_thousands_3 rfl (lv_at hl 0 rfl) ?_
  refine ro_S (y := yX7_power) (As := [.int 1000, .int a0]) (rest := []) CF (c_X7_power l D cI cZ 1000 a0 n0 h_a0 (by omega)) lk_X7_220 hE rfl hl.1 rfl (Nat.le_of_ble_eq_true rfl) ⟨Nat.le_of_ble_eq_true rfl, Nat.le_of_ble_eq_true rfl, rfl, rfl⟩ ⟨Nat.zero_le _, Nat.zero_le _⟩ dX7_thousands_4 ?_
  exact ro_ret CF hQ hr hlk rfl dX7_thousands_7 rfl
theorem lk_X7_176 : mLkS RX7 176 yJ6_bitCount_0f7a4 cJ6_bitCount_0f7a4 1 (some .int) 1 := ⟨⟨tw_3_1, tw_1_11, tw_2_170, ⟨by decide +kernel, by decide +kernel, by decide +kernel⟩⟩, tw_2_169⟩
def f_X7_isSmaller (a0 : Int32) (a1 : Int32) : Int32 :=
  (if a1 = (-9) then 1 else (if (f_J6_bitCount_0f7a4 a1) ≤ (f_J6_bitCount_0f7a4 a0) then 0 else 1))
theorem z_f_X7_isSmaller (a0 : Int32) (a1 : Int32) : narrow .boolean (.int (f_X7_isSmaller a0 a1)) = .int (f_X7_isSmaller a0 a1) := by
  unfold f_X7_isSmaller
  repeat' split
  all_goals first | rfl
set_option maxRecDepth 100000 in
set_option maxHeartbeats 4000000 in
theorem c_X7_isSmaller (l : Launch) (D : va_G) (cI cZ : ClassId) (a0 : Int32) (a1 : Int32) : RO l D cI cZ yX7_isSmaller cX7_isSmaller 2 (some .boolean) (mR 1 20) [.int a0, .int a1] [] (some (.int (f_X7_isSmaller a0 a1))) := by
  refine RO.of (by decide +kernel) (Nat.le_of_ble_eq_true rfl) ?_
  intro p e s m args below meth c ls Q CF hr hlk hP hE hQ hl
  have hx := CF.1
  have hb := CF.2.1
  have hl : lv_has ls 2 [(0, .int a0), (1, .int a1)] := hl
  refine lv_iload_n hx hb dX7_isSmaller_0 rfl (lv_at hl 1 rfl) ?_
  refine lv_bipush (v := (-9)) hx hb dX7_isSmaller_1 (by decide) ?_
  refine lv_icmp_eq (tgt := 17) hx hb dX7_isSmaller_3 (by decide) (fun c_1 => ?_) (fun c_1 => ?_)
  · refine lv_iconst (v := 1) hx hb dX7_isSmaller_17 (by decide) ?_
    refine lv_goto (tgt := 22) hx hb dX7_isSmaller_18 (by decide) ?_
    exact ro_ret CF hQ hr hlk rfl dX7_isSmaller_22 (by rw [f_X7_isSmaller, if_pos c_1])
  · refine lv_iload_n hx hb dX7_isSmaller_6 rfl (lv_at hl 0 rfl) ?_
    refine ro_S (y := yJ6_bitCount_0f7a4) (As := [.int a0]) (rest := []) CF (c_J6_bitCount_0f7a4 l D cI cZ a0) lk_X7_176 hE rfl hl.1 rfl (Nat.le_of_ble_eq_true rfl) ⟨Nat.le_of_ble_eq_true rfl, Nat.le_of_ble_eq_true rfl, rfl, rfl⟩ ⟨Nat.zero_le _, Nat.zero_le _⟩ dX7_isSmaller_7 ?_
    refine lv_iload_n hx hb dX7_isSmaller_10 rfl (lv_at hl 1 rfl) ?_
    refine ro_S (y := yJ6_bitCount_0f7a4) (As := [.int a1]) (rest := [.int (f_J6_bitCount_0f7a4 a0)]) CF (c_J6_bitCount_0f7a4 l D cI cZ a1) lk_X7_176 hE rfl hl.1 rfl (Nat.le_of_ble_eq_true rfl) ⟨Nat.le_of_ble_eq_true rfl, Nat.le_of_ble_eq_true rfl, rfl, rfl⟩ ⟨Nat.zero_le _, Nat.zero_le _⟩ dX7_isSmaller_11 ?_
    refine lv_icmp_ge (tgt := 21) hx hb dX7_isSmaller_14 (by decide) (fun c_2 => ?_) (fun c_2 => ?_)
    · refine lv_iconst (v := 0) hx hb dX7_isSmaller_21 (by decide) ?_
      exact ro_ret CF hQ hr hlk rfl dX7_isSmaller_22 (by rw [f_X7_isSmaller, if_neg c_1, if_pos c_2])
    · refine lv_iconst (v := 1) hx hb dX7_isSmaller_17 (by decide) ?_
      refine lv_goto (tgt := 22) hx hb dX7_isSmaller_18 (by decide) ?_
      exact ro_ret CF hQ hr hlk rfl dX7_isSmaller_22 (by rw [f_X7_isSmaller, if_neg c_1, if_neg c_2])
def f_X7_waitCost (a0 : Int32) (a1 : Int32) : Int32 :=
  (if a0 = 3 then (if a1 = 3 then 6 else (if a1 < a0 then ((if a1 < a0 then a1 else a0) + 1) else ((if a1 < a0 then a1 else a0) + 3))) else (if a1 < a0 then ((if a1 < a0 then a1 else a0) + 1) else ((if a1 < a0 then a1 else a0) + 3)))
set_option maxRecDepth 100000 in
set_option maxHeartbeats 4000000 in
theorem c_X7_waitCost (l : Launch) (D : va_G) (cI cZ : ClassId) (a0 : Int32) (a1 : Int32) : RO l D cI cZ yX7_waitCost cX7_waitCost 2 (some .int) (mR 1 21) [.int a0, .int a1] [] (some (.int (f_X7_waitCost a0 a1))) := by
  refine RO.of (by decide +kernel) (Nat.le_of_ble_eq_true rfl) ?_
  intro p e s m args below meth c ls Q CF hr hlk hP hE hQ hl
  have hx := CF.1
  have hb := CF.2.1
  have hl : lv_has ls 2 [(0, .int a0), (1, .int a1)] := hl
  refine lv_iload_n hx hb dX7_waitCost_0 rfl (lv_at hl 0 rfl) ?_
  refine lv_iconst (v := 3) hx hb dX7_waitCost_1 (by decide) ?_
  refine lv_icmp_ne (tgt := 13) hx hb dX7_waitCost_2 (by decide) (fun c_1 => ?_) (fun c_1 => ?_)
  · refine lv_iload_n hx hb dX7_waitCost_13 rfl (lv_at hl 0 rfl) ?_
    refine lv_iload_n hx hb dX7_waitCost_14 rfl (lv_at hl 1 rfl) ?_
    refine r_mmin (rest := []) CF hl.1 tw_3_81 ⟨Nat.le_of_ble_eq_true rfl, Nat.le_of_ble_eq_true rfl, Nat.zero_le _, Nat.zero_le _⟩ dX7_waitCost_15 ⟨tw_2_108, tw_1_4, tw_2_109⟩ ?_
    refine lv_iload_n hx hb dX7_waitCost_18 rfl (lv_at hl 0 rfl) ?_
    refine lv_iload_n hx hb dX7_waitCost_19 rfl (lv_at hl 1 rfl) ?_
    refine lv_icmp_gt (tgt := 27) hx hb dX7_waitCost_20 (by decide) (fun c_2 => ?_) (fun c_2 => ?_)
    · refine lv_iconst (v := 1) hx hb dX7_waitCost_27 (by decide) ?_
      refine lv_iadd hx hb dX7_waitCost_28 ?_
      exact ro_ret CF hQ hr hlk rfl dX7_waitCost_29 (by rw [f_X7_waitCost, if_neg c_1, if_pos c_2])
    · refine lv_iconst (v := 3) hx hb dX7_waitCost_23 (by decide) ?_
      refine lv_goto (tgt := 28) hx hb dX7_waitCost_24 (by decide) ?_
      refine lv_iadd hx hb dX7_waitCost_28 ?_
      exact ro_ret CF hQ hr hlk rfl dX7_waitCost_29 (by rw [f_X7_waitCost, if_neg c_1, if_neg c_2])
  · refine lv_iload_n hx hb dX7_waitCost_5 rfl (lv_at hl 1 rfl) ?_
    refine lv_iconst (v := 3) hx hb dX7_waitCost_6 (by decide) ?_
    refine lv_icmp_ne (tgt := 13) hx hb dX7_waitCost_7 (by decide) (fun c_3 => ?_) (fun c_3 => ?_)
    · refine lv_iload_n hx hb dX7_waitCost_13 rfl (lv_at hl 0 rfl) ?_
      refine lv_iload_n hx hb dX7_waitCost_14 rfl (lv_at hl 1 rfl) ?_
      refine r_mmin (rest := []) CF hl.1 tw_3_81 ⟨Nat.le_of_ble_eq_true rfl, Nat.le_of_ble_eq_true rfl, Nat.zero_le _, Nat.zero_le _⟩ dX7_waitCost_15 ⟨tw_2_108, tw_1_4, tw_2_109⟩ ?_
      refine lv_iload_n hx hb dX7_waitCost_18 rfl (lv_at hl 0 rfl) ?_
      refine lv_iload_n hx hb dX7_waitCost_19 rfl (lv_at hl 1 rfl) ?_
      refine lv_icmp_gt (tgt := 27) hx hb dX7_waitCost_20 (by decide) (fun c_4 => ?_) (fun c_4 => ?_)
      · refine lv_iconst (v := 1) hx hb dX7_waitCost_27 (by decide) ?_
        refine lv_iadd hx hb dX7_waitCost_28 ?_
        exact ro_ret CF hQ hr hlk rfl dX7_waitCost_29 (by rw [f_X7_waitCost, if_pos c_1, if_neg c_3, if_pos c_4])
      · refine lv_iconst (v := 3) hx hb dX7_waitCost_23 (by decide) ?_
        refine lv_goto (tgt := 28) hx hb dX7_waitCost_24 (by decide) ?_
        refine lv_iadd hx hb dX7_waitCost_28 ?_
        exact ro_ret CF hQ hr hlk rfl dX7_waitCost_29 (by rw [f_X7_waitCost, if_pos c_1, if_neg c_3, if_neg c_4])
    · refine lv_bipush (v := 6) hx hb dX7_waitCost_10 (by decide) ?_
      exact ro_ret CF hQ hr hlk rfl dX7_waitCost_12 (by rw [f_X7_waitCost, if_pos c_1, if_pos c_3])
theorem lk_X7_250 : mLkS RX7 250 yX7_waitCost cX7_waitCost 2 (some .int) 2 := ⟨⟨tw_3_78, tw_1_1, tw_3_80, ⟨by decide +kernel, by decide +kernel, by decide +kernel⟩⟩, tw_3_79⟩
def S_X7_isBestWait_2 (a0 : Int32) (a1 : Int32) (rec : Nat → ((Int32))) (k2 : Nat) : (Int32) :=
  (if 3 < (nI k2) then 1 else (if (f_X7_waitCost a0 a1) ≤ (f_X7_waitCost (nI k2) a1) then (rec (k2 + 1) ) else 0))
def L_X7_isBestWait_2 (a0 : Int32) (a1 : Int32) : Nat → Nat → ((Int32))
  | 0, _ => 0
  | n + 1, k => S_X7_isBestWait_2 a0 a1 (L_X7_isBestWait_2 a0 a1 n) k
set_option maxRecDepth 100000 in
set_option maxHeartbeats 4000000 in
theorem c_X7_isBestWait (l : Launch) (D : va_G) (cI cZ : ClassId) (a0 : Int32) (a1 : Int32) : RO l D cI cZ yX7_isBestWait cX7_isBestWait 3 (some .boolean) (mR 2 42) [.int a0, .int a1] [] (some (.int ((L_X7_isBestWait_2 a0 a1 (4 + 1) 0)))) := by
  refine RO.of (by decide +kernel) (Nat.le_of_ble_eq_true rfl) ?_
  intro p e s m args below meth c ls Q CF hr hlk hP hE hQ hl
  have hx := CF.1
  have hb := CF.2.1
  have hl : lv_has ls 3 [(0, .int a0), (1, .int a1)] := hl
  refine lv_iconst (v := 0) hx hb dX7_isBestWait_0 (by decide) ?_
  refine lv_istore_n (lv' := [(2, .int 0), (0, .int a0), (1, .int a1)]) hx hb dX7_isBestWait_1 rfl hl (by decide) rfl (fun ls hl => ?_)
  have LOOP_2 : ∀ (n_2 k2 : Nat) (ls : Array Slot), k2 ≤ 4 → 4 - k2 < n_2 → L_X7_isBestWait_2 a0 a1 n_2 k2  = L_X7_isBestWait_2 a0 a1 (4 + 1) 0 → lv_has ls 3 [(2, .int (nI k2)), (0, .int a0), (1, .int a1)] → W p l e (mR 2 42) s m args below meth c s.heap [] 0 0 Q (F0 m 2 ls []) := by
    intro n_2
    induction n_2 with
    | zero => intro k2 ls hk_2 hn_2 hR_2 hl; exact absurd hn_2 (Nat.not_lt_zero _)
    | succ n_2 ih_2 =>
      intro k2 ls hk_2 hn_2 hR_2 hl
      refine lv_iload_n hx hb dX7_isBestWait_2 rfl (lv_at hl 0 rfl) ?_
      refine lv_iconst (v := 3) hx hb dX7_isBestWait_3 (by decide) ?_
      refine lv_icmp_gt (tgt := 28) hx hb dX7_isBestWait_4 (by decide) (fun c_2 => ?_) (fun c_2 => ?_)
      · have o_2 : 3 < k2 := (clt (nf_c 3) (rfl : nI k2 = nI k2) (by omega) (by omega)).mp c_2
        refine lv_iconst (v := 1) hx hb dX7_isBestWait_28 (by decide) ?_
        have hq_1 : L_X7_isBestWait_2 a0 a1 (4 + 1) 0 = 1 := by
          rw [← hR_2]
          show S_X7_isBestWait_2 a0 a1 (L_X7_isBestWait_2 a0 a1 n_2) k2  = _
          rw [S_X7_isBestWait_2, if_pos c_2]
        exact ro_ret CF hQ hr hlk rfl dX7_isBestWait_29 (by rw [hq_1])
      · have o_2 : ¬ 3 < k2 := fun h => c_2 ((clt (nf_c 3) (rfl : nI k2 = nI k2) (by omega) (by omega)).mpr h)
        refine lv_iload_n hx hb dX7_isBestWait_7 rfl (lv_at hl 0 rfl) ?_
        refine lv_iload_n hx hb dX7_isBestWait_8 rfl (lv_at hl 2 rfl) ?_
        refine ro_S (y := yX7_waitCost) (As := [.int (nI k2), .int a1]) (rest := []) CF (c_X7_waitCost l D cI cZ (nI k2) a1) lk_X7_250 hE rfl hl.1 rfl (Nat.le_of_ble_eq_true rfl) ⟨Nat.le_of_ble_eq_true rfl, Nat.le_of_ble_eq_true rfl, rfl, rfl⟩ ⟨Nat.zero_le _, Nat.zero_le _⟩ dX7_isBestWait_9 ?_
        refine lv_iload_n hx hb dX7_isBestWait_12 rfl (lv_at hl 1 rfl) ?_
        refine lv_iload_n hx hb dX7_isBestWait_13 rfl (lv_at hl 2 rfl) ?_
        refine ro_S (y := yX7_waitCost) (As := [.int a0, .int a1]) (rest := [.int (f_X7_waitCost (nI k2) a1)]) CF (c_X7_waitCost l D cI cZ a0 a1) lk_X7_250 hE rfl hl.1 rfl (Nat.le_of_ble_eq_true rfl) ⟨Nat.le_of_ble_eq_true rfl, Nat.le_of_ble_eq_true rfl, rfl, rfl⟩ ⟨Nat.zero_le _, Nat.zero_le _⟩ dX7_isBestWait_14 ?_
        refine lv_icmp_ge (tgt := 22) hx hb dX7_isBestWait_17 (by decide) (fun c_3 => ?_) (fun c_3 => ?_)
        · refine lv_iinc (v := (nI (k2 + 1))) (lv' := [(2, .int (nI (k2 + 1))), (0, .int a0), (1, .int a1)]) hx hb dX7_isBestWait_22 hl (k := 0) rfl (nf_inc 1 (rfl : nI k2 = nI k2)) (by decide) rfl (fun ls hl => ?_)
          refine lv_goto (tgt := 2) hx hb dX7_isBestWait_25 (by decide) ?_
          have hR2 : L_X7_isBestWait_2 a0 a1 n_2 (k2 + 1)  = L_X7_isBestWait_2 a0 a1 (4 + 1) 0 := by
            rw [← hR_2]
            show _ = S_X7_isBestWait_2 a0 a1 (L_X7_isBestWait_2 a0 a1 n_2) k2 
            rw [S_X7_isBestWait_2, if_neg c_2, if_pos c_3]
          exact ih_2 (k2 + 1) _ (by omega) (by omega) hR2 (lv_sub hl [0, 1, 2] rfl)
        · refine lv_iconst (v := 0) hx hb dX7_isBestWait_20 (by decide) ?_
          have hq_1 : L_X7_isBestWait_2 a0 a1 (4 + 1) 0 = 0 := by
            rw [← hR_2]
            show S_X7_isBestWait_2 a0 a1 (L_X7_isBestWait_2 a0 a1 n_2) k2  = _
            rw [S_X7_isBestWait_2, if_neg c_2, if_neg c_3]
          exact ro_ret CF hQ hr hlk rfl dX7_isBestWait_21 (by rw [hq_1])
  have e_k : 0 = nI (0) := (nf_c 0).trans (congrArg nI (by omega))
  rw [e_k] at hl
  exact LOOP_2 (4 + 1) 0 _ (Nat.zero_le _) (by omega) rfl (lv_sub hl [0, 1, 2] rfl)
def S_X7_commonDivisor_7 (rec : Nat → (Int32) → (Int32) → ((Int32))) (k7 : Nat) (x7_0 : Int32) (x7_1 : Int32) : (Int32) :=
  (if 64 ≤ (nI k7) then x7_0 else (if x7_1 = 0 then x7_0 else (rec (k7 + 1) x7_1 (x7_0 - x7_0 / x7_1 * x7_1))))
def L_X7_commonDivisor_7 : Nat → Nat → (Int32) → (Int32) → ((Int32))
  | 0, _, _, _ => 0
  | n + 1, k, y0, y1 => S_X7_commonDivisor_7 (L_X7_commonDivisor_7 n) k y0 y1
set_option maxRecDepth 100000 in
set_option maxHeartbeats 4000000 in
theorem c_X7_commonDivisor (l : Launch) (D : va_G) (cI cZ : ClassId) (a0 : Int32) (a1 : Int32) : RO l D cI cZ yX7_commonDivisor cX7_commonDivisor 6 (some .int) (mR 0 0) [.int a0, .int a1] [] (some (.int ((L_X7_commonDivisor_7 (64 + 1) 0 a0 a1)))) := by
  refine RO.of (by decide +kernel) (Nat.le_of_ble_eq_true rfl) ?_
  intro p e s m args below meth c ls Q CF hr hlk hP hE hQ hl
  have hx := CF.1
  have hb := CF.2.1
  have hl : lv_has ls 6 [(0, .int a0), (1, .int a1)] := hl
  refine lv_iload_n hx hb dX7_commonDivisor_0 rfl (lv_at hl 0 rfl) ?_
  refine lv_istore_n (lv' := [(2, .int a0), (0, .int a0), (1, .int a1)]) hx hb dX7_commonDivisor_1 rfl hl (by decide) rfl (fun ls hl => ?_)
  refine lv_iload_n hx hb dX7_commonDivisor_2 rfl (lv_at hl 2 rfl) ?_
  refine lv_istore_n (lv' := [(3, .int a1), (2, .int a0), (0, .int a0), (1, .int a1)]) hx hb dX7_commonDivisor_3 rfl hl (by decide) rfl (fun ls hl => ?_)
  refine lv_iconst (v := 0) hx hb dX7_commonDivisor_4 (by decide) ?_
  refine lv_istore (lv' := [(4, .int 0), (3, .int a1), (2, .int a0), (0, .int a0), (1, .int a1)]) hx hb dX7_commonDivisor_5 hl (by decide) rfl (fun ls hl => ?_)
  have LOOP_7 : ∀ (n_7 k7 : Nat) (x7_0 : Int32) (x7_1 : Int32) (ls : Array Slot), k7 ≤ 64 → 64 - k7 < n_7 → L_X7_commonDivisor_7 n_7 k7 x7_0 x7_1 = L_X7_commonDivisor_7 (64 + 1) 0 a0 a1 → lv_has ls 6 [(4, .int (nI k7)), (3, .int x7_1), (2, .int x7_0), (0, .int a0), (1, .int a1)] → W p l e (mR 0 0) s m args below meth c s.heap [] 0 0 Q (F0 m 7 ls []) := by
    intro n_7
    induction n_7 with
    | zero => intro k7 x7_0 x7_1 ls hk_7 hn_7 hR_7 hl; exact absurd hn_7 (Nat.not_lt_zero _)
    | succ n_7 ih_7 =>
      intro k7 x7_0 x7_1 ls hk_7 hn_7 hR_7 hl
      refine lv_iload hx hb dX7_commonDivisor_7 (lv_at hl 0 rfl) ?_
      refine lv_bipush (v := 64) hx hb dX7_commonDivisor_9 (by decide) ?_
      refine lv_icmp_ge (tgt := 34) hx hb dX7_commonDivisor_11 (by decide) (fun c_2 => ?_) (fun c_2 => ?_)
      · have o_2 : 64 ≤ k7 := (cle (nf_c 64) (rfl : nI k7 = nI k7) (by omega) (by omega)).mp c_2
        refine lv_iload_n hx hb dX7_commonDivisor_34 rfl (lv_at hl 2 rfl) ?_
        have hq_1 : L_X7_commonDivisor_7 (64 + 1) 0 a0 a1 = x7_0 := by
          rw [← hR_7]
          show S_X7_commonDivisor_7 (L_X7_commonDivisor_7 n_7) k7 x7_0 x7_1 = _
          rw [S_X7_commonDivisor_7, if_pos c_2]
        exact ro_ret CF hQ hr hlk rfl dX7_commonDivisor_35 (by rw [hq_1])
      · have o_2 : ¬ 64 ≤ k7 := fun h => c_2 ((cle (nf_c 64) (rfl : nI k7 = nI k7) (by omega) (by omega)).mpr h)
        refine lv_iload_n hx hb dX7_commonDivisor_14 rfl (lv_at hl 1 rfl) ?_
        refine lv_if_eq (tgt := 34) hx hb dX7_commonDivisor_15 (by decide) (fun c_3 => ?_) (fun c_3 => ?_)
        · refine lv_iload_n hx hb dX7_commonDivisor_34 rfl (lv_at hl 2 rfl) ?_
          have hq_1 : L_X7_commonDivisor_7 (64 + 1) 0 a0 a1 = x7_0 := by
            rw [← hR_7]
            show S_X7_commonDivisor_7 (L_X7_commonDivisor_7 n_7) k7 x7_0 x7_1 = _
            rw [S_X7_commonDivisor_7, if_neg c_2, if_pos c_3]
          exact ro_ret CF hQ hr hlk rfl dX7_commonDivisor_35 (by rw [hq_1])
        · refine lv_iload_n hx hb dX7_commonDivisor_18 rfl (lv_at hl 2 rfl) ?_
          refine lv_iload_n hx hb dX7_commonDivisor_19 rfl (lv_at hl 1 rfl) ?_
          refine lv_irem hx hb dX7_commonDivisor_20 (by assumption) ?_
          refine lv_istore (lv' := [(5, .int (x7_0 - x7_0 / x7_1 * x7_1)), (4, .int (nI k7)), (3, .int x7_1), (2, .int x7_0), (0, .int a0), (1, .int a1)]) hx hb dX7_commonDivisor_21 hl (by decide) rfl (fun ls hl => ?_)
          refine lv_iload_n hx hb dX7_commonDivisor_23 rfl (lv_at hl 2 rfl) ?_
          refine lv_istore_n (lv' := [(2, .int x7_1), (5, .int (x7_0 - x7_0 / x7_1 * x7_1)), (4, .int (nI k7)), (3, .int x7_1), (0, .int a0), (1, .int a1)]) hx hb dX7_commonDivisor_24 rfl hl (by decide) rfl (fun ls hl => ?_)
          refine lv_iload hx hb dX7_commonDivisor_25 (lv_at hl 1 rfl) ?_
          refine lv_istore_n (lv' := [(3, .int (x7_0 - x7_0 / x7_1 * x7_1)), (2, .int x7_1), (5, .int (x7_0 - x7_0 / x7_1 * x7_1)), (4, .int (nI k7)), (0, .int a0), (1, .int a1)]) hx hb dX7_commonDivisor_27 rfl hl (by decide) rfl (fun ls hl => ?_)
          refine lv_iinc (v := (nI (k7 + 1))) (lv' := [(4, .int (nI (k7 + 1))), (3, .int (x7_0 - x7_0 / x7_1 * x7_1)), (2, .int x7_1), (5, .int (x7_0 - x7_0 / x7_1 * x7_1)), (0, .int a0), (1, .int a1)]) hx hb dX7_commonDivisor_28 hl (k := 3) rfl (nf_inc 1 (rfl : nI k7 = nI k7)) (by decide) rfl (fun ls hl => ?_)
          refine lv_goto (tgt := 7) hx hb dX7_commonDivisor_31 (by decide) ?_
          have hR2 : L_X7_commonDivisor_7 n_7 (k7 + 1) x7_1 (x7_0 - x7_0 / x7_1 * x7_1) = L_X7_commonDivisor_7 (64 + 1) 0 a0 a1 := by
            rw [← hR_7]
            show _ = S_X7_commonDivisor_7 (L_X7_commonDivisor_7 n_7) k7 x7_0 x7_1
            rw [S_X7_commonDivisor_7, if_neg c_2, if_neg c_3]
          exact ih_7 (k7 + 1) x7_1 (x7_0 - x7_0 / x7_1 * x7_1) _ (by omega) (by omega) hR2 (lv_sub hl [0, 1, 2, 4, 5] rfl)
  have e_k : 0 = nI (0) := (nf_c 0).trans (congrArg nI (by omega))
  rw [e_k] at hl
  exact LOOP_7 (64 + 1) 0 a0 a1 _ (Nat.zero_le _) (by omega) rfl (lv_sub hl [0, 1, 2, 3, 4] rfl)
theorem lk_X7_256 : mLkS RX7 256 yX7_commonDivisor cX7_commonDivisor 6 (some .int) 2 := ⟨⟨tw_3_44, tw_1_1, tw_3_46, ⟨by decide +kernel, by decide +kernel, by decide +kernel⟩⟩, tw_3_45⟩
def f_X7_lowestTerm (a0 : Int32) (a1 : Int32) (a2 : Int32) : Int32 :=
  (if a2 = 0 then (a1 / (if ((L_X7_commonDivisor_7 (64 + 1) 0 a0 a1)) < 1 then 1 else ((L_X7_commonDivisor_7 (64 + 1) 0 a0 a1)))) else (a0 / (if ((L_X7_commonDivisor_7 (64 + 1) 0 a0 a1)) < 1 then 1 else ((L_X7_commonDivisor_7 (64 + 1) 0 a0 a1)))))
set_option maxRecDepth 100000 in
set_option maxHeartbeats 4000000 in
theorem c_X7_lowestTerm (l : Launch) (D : va_G) (cI cZ : ClassId) (a0 : Int32) (a1 : Int32) (a2 : Int32) : RO l D cI cZ yX7_lowestTerm cX7_lowestTerm 4 (some .int) (mR 1 25) [.int a0, .int a1, .int a2] [] (some (.int (f_X7_lowestTerm a0 a1 a2))) := by
  refine RO.of (by decide +kernel) (Nat.le_of_ble_eq_true rfl) ?_
  intro p e s m args below meth c ls Q CF hr hlk hP hE hQ hl
  have hx := CF.1
  have hb := CF.2.1
  have hl : lv_has ls 4 [(0, .int a0), (1, .int a1), (2, .int a2)] := hl
  refine lv_iload_n hx hb dX7_lowestTerm_0 rfl (lv_at hl 0 rfl) ?_
  refine lv_iload_n hx hb dX7_lowestTerm_1 rfl (lv_at hl 1 rfl) ?_
  refine ro_S (y := yX7_commonDivisor) (As := [.int a0, .int a1]) (rest := []) CF (c_X7_commonDivisor l D cI cZ a0 a1) lk_X7_256 hE rfl hl.1 rfl (Nat.le_of_ble_eq_true rfl) ⟨Nat.le_of_ble_eq_true rfl, Nat.le_of_ble_eq_true rfl, rfl, rfl⟩ ⟨Nat.zero_le _, Nat.zero_le _⟩ dX7_lowestTerm_2 ?_
  refine lv_iconst (v := 1) hx hb dX7_lowestTerm_5 (by decide) ?_
  refine r_mmax (rest := []) CF hl.1 tw_3_28 ⟨Nat.le_of_ble_eq_true rfl, Nat.le_of_ble_eq_true rfl, Nat.zero_le _, Nat.zero_le _⟩ dX7_lowestTerm_6 ⟨tw_1_33, tw_1_4, tw_1_34⟩ ?_
  refine lv_istore_n (lv' := [(3, .int (if ((L_X7_commonDivisor_7 (64 + 1) 0 a0 a1)) < 1 then 1 else ((L_X7_commonDivisor_7 (64 + 1) 0 a0 a1)))), (0, .int a0), (1, .int a1), (2, .int a2)]) hx hb dX7_lowestTerm_9 rfl hl (by decide) rfl (fun ls hl => ?_)
  refine lv_iload_n hx hb dX7_lowestTerm_10 rfl (lv_at hl 3 rfl) ?_
  refine lv_if_eq (tgt := 18) hx hb dX7_lowestTerm_11 (by decide) (fun c_1 => ?_) (fun c_1 => ?_)
  · refine lv_iload_n hx hb dX7_lowestTerm_18 rfl (lv_at hl 2 rfl) ?_
    refine lv_iload_n hx hb dX7_lowestTerm_19 rfl (lv_at hl 0 rfl) ?_
    refine lv_idiv hx hb dX7_lowestTerm_20 (ne_max _) ?_
    exact ro_ret CF hQ hr hlk rfl dX7_lowestTerm_21 (by rw [f_X7_lowestTerm, if_pos c_1])
  · refine lv_iload_n hx hb dX7_lowestTerm_14 rfl (lv_at hl 1 rfl) ?_
    refine lv_goto (tgt := 19) hx hb dX7_lowestTerm_15 (by decide) ?_
    refine lv_iload_n hx hb dX7_lowestTerm_19 rfl (lv_at hl 0 rfl) ?_
    refine lv_idiv hx hb dX7_lowestTerm_20 (ne_max _) ?_
    exact ro_ret CF hQ hr hlk rfl dX7_lowestTerm_21 (by rw [f_X7_lowestTerm, if_neg c_1])
