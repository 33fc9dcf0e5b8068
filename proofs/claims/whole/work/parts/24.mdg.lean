def h_X8_evenings_59 (x26_0 : Int64) : Int32 :=
  ((((((x26_0 * 6364136223846793005) + 1442695040888963407).toUInt64 >>> ((33 : Int32).toInt64.toUInt64 &&& Int64.toUInt64 63)).toInt64) - ((((x26_0 * 6364136223846793005) + 1442695040888963407).toUInt64 >>> ((33 : Int32).toInt64.toUInt64 &&& Int64.toUInt64 63)).toInt64) / 60 * 60).toInt32)
def S_X8_evenings_26 (uP : Nat) (uR : Nat) (uk : Nat → Int32) (ur : Nat → Int32) (k26 : Nat) (x26_0 : Int64) (x26_1 : Nat → Int32) : (Int64) × (Nat → Int32) :=
  (if (f_X8_noPerson uP ((h_X8_evenings_59 x26_0) / 12)) = 0 then (if 6 ≤ ((h_X8_evenings_59 x26_0) - (h_X8_evenings_59 x26_0) / 12 * 12) then (((x26_0 * 6364136223846793005) + 1442695040888963407), (f_X8_goSay_tt uP uR uk ur x26_1 ((h_X8_evenings_59 x26_0) / 12) (((h_X8_evenings_59 x26_0) / 12).toNatClampNeg) ((h_X8_evenings_59 x26_0) - (h_X8_evenings_59 x26_0) / 6 * 6) 2)) else (((x26_0 * 6364136223846793005) + 1442695040888963407), (f_X8_goSay_tt uP uR uk ur x26_1 ((h_X8_evenings_59 x26_0) / 12) (((h_X8_evenings_59 x26_0) / 12).toNatClampNeg) ((h_X8_evenings_59 x26_0) - (h_X8_evenings_59 x26_0) / 6 * 6) 1))) else (((x26_0 * 6364136223846793005) + 1442695040888963407), x26_1))
def B_X8_evenings_26 (uP : Nat) (uR : Nat) (uk : Nat → Int32) (ur : Nat → Int32) (i0 : Int64) (i1 : Nat → Int32) : Nat → (Int64) × (Nat → Int32)
  | 0 => (i0, i1)
  | k + 1 => S_X8_evenings_26 uP uR uk ur k (B_X8_evenings_26 uP uR uk ur i0 i1 k).1 (B_X8_evenings_26 uP uR uk ur i0 i1 k).2
def f_X8_evenings (uP : Nat) (uR : Nat) (sd : Int64) (uk : Nat → Int32) (ur : Nat → Int32) (pg : Nat → Int32) (tr : Nat → Int32) (a1 : Int32) : Int32 :=
  (if (f_X8_in a1.toInt64 1 30) = 0 then (-2) else (((B_X8_finesOf_4 ((B_X8_evenings_26 uP uR uk ur sd ((B_X8_begin_2 pg tr 15)) a1.toNatClampNeg).2) 0 uP)) - ((B_X8_finesOf_4 pg 0 uP))))
def f_X8_evenings_th (a1 : Int32) : Int32 :=
  (if (f_X8_in a1.toInt64 1 30) = 0 then 0 else 0)
def f_X8_evenings_sd (uP : Nat) (uR : Nat) (sd : Int64) (uk : Nat → Int32) (ur : Nat → Int32) (pg : Nat → Int32) (tr : Nat → Int32) (a1 : Int32) : Int64 :=
  (if (f_X8_in a1.toInt64 1 30) = 0 then sd else ((B_X8_evenings_26 uP uR uk ur sd ((B_X8_begin_2 pg tr 15)) a1.toNatClampNeg).1))
def f_X8_evenings_tr (uP : Nat) (uR : Nat) (sd : Int64) (uk : Nat → Int32) (ur : Nat → Int32) (pg : Nat → Int32) (tr : Nat → Int32) (a1 : Int32) : Nat → Int32 :=
  (if (f_X8_in a1.toInt64 1 30) = 0 then tr else ((B_X8_evenings_26 uP uR uk ur sd ((B_X8_begin_2 pg tr 15)) a1.toNatClampNeg).2))
set_option maxRecDepth 100000 in
set_option maxHeartbeats 4000000 in
theorem c_X8_evenings (l : Launch) (D : va_G) (cI cZ : ClassId) (q0 y1 y2 y3 y4 y5 y6 y7 y8 y9 y10 y11 y12 y13 y14 : Nat) (sg : Nat → Nat) (th : Int32) (uT : Nat) (up : Nat) (uP : Nat) (uR : Nat) (vP : Nat) (vR : Nat) (ua : Nat) (us : Nat) (sd : Int64) (z1 : Int32) (z2 : Int32) (z3 : Int32) (z4 : Int32) (z5 : Int32) (z6 : Int32) (z7 : Int32) (uk : Nat → Int32) (ur : Nat → Int32) (pg : Nat → Int32) (tr : Nat → Int32) (a1 : Int32) (hu5 : uP ≤ 5) (hur : uR ≤ 4) (hsg1 : ∀ i, i < uP → pg (5 + i) = nI (sg i) ∧ sg i < uP) (hsg2 : ∀ j, j < uP → ∃ i, i < uP ∧ sg i = j) : MU l D cI cZ yX8_evenings cX8_evenings 4 (some .int) (mR 4 103) [.ref q0, .int a1] [(q0, .inr (8, [.int th, .ref y1, .int (nI uT), .int (nI up), .int (nI uP), .ref y2, .int (nI uR), .ref y3, .int (nI vP), .ref y4, .ref y5, .int (nI vR), .ref y6, .ref y7, .ref y8, .ref y9, .int (nI ua), .ref y10, .ref y11, .int (nI us), .ref y12, .ref y13, .long sd, .int z1, .int z2, .int z3, .int z4, .int z5, .int z6, .int z7, .ref y14])), (y2, .inl (cI, 5, .inl uk)), (y3, .inl (cI, 12, .inl ur)), (y7, .inl (cI, 15, .inl pg)), (y8, .inl (cI, 15, .inl tr))] [(q0, .inr (8, [.int (f_X8_evenings_th a1), .ref y1, .int (nI uT), .int (nI up), .int (nI uP), .ref y2, .int (nI uR), .ref y3, .int (nI vP), .ref y4, .ref y5, .int (nI vR), .ref y6, .ref y7, .ref y8, .ref y9, .int (nI ua), .ref y10, .ref y11, .int (nI us), .ref y12, .ref y13, .long (f_X8_evenings_sd uP uR sd uk ur pg tr a1), .int z1, .int z2, .int z3, .int z4, .int z5, .int z6, .int z7, .ref y14])), (y2, .inl (cI, 5, .inl uk)), (y3, .inl (cI, 12, .inl ur)), (y7, .inl (cI, 15, .inl pg)), (y8, .inl (cI, 15, .inl (f_X8_evenings_tr uP uR sd uk ur pg tr a1)))] (some (.int (f_X8_evenings uP uR sd uk ur pg tr a1))) := by
  refine MU.of (by decide +kernel) (Nat.le_of_ble_eq_true rfl) ?_
  intro p e s m args below meth c ls Q A CF hr hlk hP hE hD hS hQ hl
  have hx := CF.1
  have hb := CF.2.1
  have hl : lv_has ls 4 [(0, .ref q0), (1, .int a1)] := hl
  refine lv_aload_n hx hb dX8_evenings_0 rfl (lv_at hl 0 rfl) ?_
  refine lv_iconst (v := 0) hx hb dX8_evenings_1 (by decide) ?_
  refine r_put (C := RX8) (T := TX8) (N := 31) (ws' := [(q0, .inr (8, [.int 0, .ref y1, .int (nI uT), .int (nI up), .int (nI uP), .ref y2, .int (nI uR), .ref y3, .int (nI vP), .ref y4, .ref y5, .int (nI vR), .ref y6, .ref y7, .ref y8, .ref y9, .int (nI ua), .ref y10, .ref y11, .int (nI us), .ref y12, .ref y13, .long sd, .int z1, .int z2, .int z3, .int z4, .int z5, .int z6, .int z7, .ref y14])), (y2, .inl (cI, 5, .inl uk)), (y3, .inl (cI, 12, .inl ur)), (y7, .inl (cI, 15, .inl pg)), (y8, .inl (cI, 15, .inl tr))]) CF hE hP hD hS 0 rfl rfl inG8 tyX8 tyX8_ok nmX8 0 (by decide) tw_3_115 rfl rfl rfl rfl (Nat.le_of_ble_eq_true rfl) dX8_evenings_2 rfl (fun H locs hP hD hS => ?_)
  refine lv_iload_n hx hb dX8_evenings_5 rfl (lv_at hl 1 rfl) ?_
  refine lv_i2l (v := a1.toInt64) hx hb dX8_evenings_6 rfl ?_
  refine lv_lconst (v := 1) hx hb dX8_evenings_7 (by decide) ?_
  refine lv_ldc2 (v := 30) hx hb CF.2.2.2.1 (CF.2.2.2.2 _ (List.mem_cons_of_mem _ tw_4_190)) dX8_evenings_8 ?_
  refine ro_S (y := yX8_in) (As := [.long a1.toInt64, .long 1, .long 30]) (rest := []) CF (c_X8_in l D cI cZ a1.toInt64 1 30) lk_X8_60 hE rfl hl.1 rfl (Nat.le_of_ble_eq_true rfl) ⟨Nat.le_of_ble_eq_true rfl, Nat.le_of_ble_eq_true rfl, rfl, rfl⟩ ⟨Nat.zero_le _, Nat.zero_le _⟩ dX8_evenings_11 ?_
  refine lv_if_ne (tgt := 20) hx hb dX8_evenings_14 (by decide) (fun c_1 => ?_) (fun c_1 => ?_)
  · have ni_2 : (1 : Int32) ≤ a1 ∧ a1 ≤ nI 30 := in_ne (a := 1) (b := nI 30) c_1
    have ni_2n := rng_tn ni_2 (by decide) (by decide)
    have ni_2l := ni_2n.2
    have ni_2g := rng_ge1 ni_2.1
    refine lv_aload_n hx hb dX8_evenings_20 rfl (lv_at hl 0 rfl) ?_
    refine mu_Vv (y := yX8_begin) (As := []) (rest := []) (q0 := 0) (ws' := [(q0, .inr (8, [.int 0, .ref y1, .int (nI uT), .int (nI up), .int (nI uP), .ref y2, .int (nI uR), .ref y3, .int (nI vP), .ref y4, .ref y5, .int (nI vR), .ref y6, .ref y7, .ref y8, .ref y9, .int (nI ua), .ref y10, .ref y11, .int (nI us), .ref y12, .ref y13, .long sd, .int z1, .int z2, .int z3, .int z4, .int z5, .int z6, .int z7, .ref y14])), (y2, .inl (cI, 5, .inl uk)), (y3, .inl (cI, 12, .inl ur)), (y7, .inl (cI, 15, .inl pg)), (y8, .inl (cI, 15, .inl ((B_X8_begin_2 pg tr 15))))]) (ad := [q0, y2, y3, y7, y8]) CF (c_X8_begin l D cI cZ q0 y1 y2 y3 y4 y5 y6 y7 y8 y9 y10 y11 y12 y13 y14 0 uT up uP uR vP vR ua us sd z1 z2 z3 z4 z5 z6 z7 pg tr) lk_X8_159 hP hE hD hS [0, 3, 4] rfl (by decide) (Nat.le_of_ble_eq_true rfl) rfl rfl rfl rfl rfl rfl hl.1 rfl (Nat.le_of_ble_eq_true rfl) ⟨Nat.le_of_ble_eq_true rfl, Nat.le_of_ble_eq_true rfl, rfl, rfl⟩ ⟨Nat.zero_le _, Nat.zero_le _⟩ dX8_evenings_21 (fun H locs hP hD hS => ?_)
    refine lv_iconst (v := 0) hx hb dX8_evenings_24 (by decide) ?_
    refine lv_istore_n (lv' := [(2, .int 0), (0, .ref q0), (1, .int a1)]) hx hb dX8_evenings_25 rfl hl (by decide) rfl (fun ls hl => ?_)
    have LOOP_26 : ∀ (n_26 k26 : Nat) (x26_0 : Int64) (x26_1 : Nat → Int32) (H : Heap) (locs : List Loc) (ls : Array Slot), k26 ≤ a1.toNatClampNeg → a1.toNatClampNeg - k26 < n_26 → (B_X8_evenings_26 uP uR uk ur sd ((B_X8_begin_2 pg tr 15)) k26) = (x26_0, x26_1) → (∀ i, i < uP → x26_1 (5 + i) = nI (sg i) ∧ sg i < uP) → va_P D vwCl [(q0, .inr (8, [.int 0, .ref y1, .int (nI uT), .int (nI up), .int (nI uP), .ref y2, .int (nI uR), .ref y3, .int (nI vP), .ref y4, .ref y5, .int (nI vR), .ref y6, .ref y7, .ref y8, .ref y9, .int (nI ua), .ref y10, .ref y11, .int (nI us), .ref y12, .ref y13, .long x26_0, .int z1, .int z2, .int z3, .int z4, .int z5, .int z6, .int z7, .ref y14])), (y2, .inl (cI, 5, .inl uk)), (y3, .inl (cI, 12, .inl ur)), (y7, .inl (cI, 15, .inl pg)), (y8, .inl (cI, 15, .inl x26_1))] H → va_D A [(q0, .inr (8, [.int 0, .ref y1, .int (nI uT), .int (nI up), .int (nI uP), .ref y2, .int (nI uR), .ref y3, .int (nI vP), .ref y4, .ref y5, .int (nI vR), .ref y6, .ref y7, .ref y8, .ref y9, .int (nI ua), .ref y10, .ref y11, .int (nI us), .ref y12, .ref y13, .long x26_0, .int z1, .int z2, .int z3, .int z4, .int z5, .int z6, .int z7, .ref y14])), (y2, .inl (cI, 5, .inl uk)), (y3, .inl (cI, 12, .inl ur)), (y7, .inl (cI, 15, .inl pg)), (y8, .inl (cI, 15, .inl x26_1))] → va_S A s.heap H locs → lv_has ls 4 [(2, .int (nI k26)), (0, .ref q0), (1, .int a1)] → W p l e (mR 4 103) s m args below meth c H locs 0 0 Q (F0 m 26 ls []) := by
      intro n_26
      induction n_26 with
      | zero => intro k26 x26_0 x26_1 H locs ls hk_26 hn_26 hB_26 hx1 hP hD hS hl; exact absurd hn_26 (Nat.not_lt_zero _)
      | succ n_26 ih_26 =>
        intro k26 x26_0 x26_1 H locs ls hk_26 hn_26 hB_26 hx1 hP hD hS hl
        refine lv_iload_n hx hb dX8_evenings_26 rfl (lv_at hl 0 rfl) ?_
        refine lv_iload_n hx hb dX8_evenings_27 rfl (lv_at hl 2 rfl) ?_
        refine lv_icmp_ge (tgt := 108) hx hb dX8_evenings_28 (by decide) (fun c_3 => ?_) (fun c_3 => ?_)
        · have o_3 : a1.toNatClampNeg ≤ k26 := (cle ni_2n.1 (rfl : nI k26 = nI k26) (by omega) (by omega)).mp c_3
          have hkN : a1.toNatClampNeg = k26 := by omega
          subst hkN
          obtain ⟨rfl, rfl⟩ : x26_0 = (B_X8_evenings_26 uP uR uk ur sd ((B_X8_begin_2 pg tr 15)) a1.toNatClampNeg).1 ∧ x26_1 = (B_X8_evenings_26 uP uR uk ur sd ((B_X8_begin_2 pg tr 15)) a1.toNatClampNeg).2 := by rw [hB_26]; exact ⟨rfl, rfl⟩
          refine lv_aload_n hx hb dX8_evenings_108 rfl (lv_at hl 1 rfl) ?_
          refine lv_aload_n hx hb dX8_evenings_109 rfl (lv_at hl 1 rfl) ?_
          refine r_get (C := RX8) (T := TX8) (N := 31) (v := .ref y8) CF hE hP 0 rfl rfl inG8 14 (by decide) tw_3_129 rfl rfl dX8_evenings_110 ?_
          refine ro_V (y := yX8_finesOf) (As := [.ref y8]) (rest := []) (q0 := 0) CF (c_X8_finesOf l D cI cZ q0 y1 y2 y3 y4 y5 y6 y7 y8 y9 y10 y11 y12 y13 y14 y8 0 uT up uP uR vP vR ua us ((B_X8_evenings_26 uP uR uk ur sd ((B_X8_begin_2 pg tr 15)) a1.toNatClampNeg).1) z1 z2 z3 z4 z5 z6 z7 ((B_X8_evenings_26 uP uR uk ur sd ((B_X8_begin_2 pg tr 15)) a1.toNatClampNeg).2) (by omega)) lk_X8_120 hP hE [0, 4] rfl rfl rfl rfl hl.1 rfl (Nat.le_of_ble_eq_true rfl) ⟨Nat.le_of_ble_eq_true rfl, Nat.le_of_ble_eq_true rfl, rfl, rfl⟩ ⟨Nat.zero_le _, Nat.zero_le _⟩ dX8_evenings_113 ?_
          refine lv_aload_n hx hb dX8_evenings_116 rfl (lv_at hl 1 rfl) ?_
          refine lv_aload_n hx hb dX8_evenings_117 rfl (lv_at hl 1 rfl) ?_
          refine r_get (C := RX8) (T := TX8) (N := 31) (v := .ref y7) CF hE hP 0 rfl rfl inG8 13 (by decide) tw_3_128 rfl rfl dX8_evenings_118 ?_
          refine ro_V (y := yX8_finesOf) (As := [.ref y7]) (rest := [.int ((B_X8_finesOf_4 ((B_X8_evenings_26 uP uR uk ur sd ((B_X8_begin_2 pg tr 15)) a1.toNatClampNeg).2) 0 uP))]) (q0 := 0) CF (c_X8_finesOf l D cI cZ q0 y1 y2 y3 y4 y5 y6 y7 y8 y9 y10 y11 y12 y13 y14 y7 0 uT up uP uR vP vR ua us ((B_X8_evenings_26 uP uR uk ur sd ((B_X8_begin_2 pg tr 15)) a1.toNatClampNeg).1) z1 z2 z3 z4 z5 z6 z7 pg (by omega)) lk_X8_120 hP hE [0, 3] rfl rfl rfl rfl hl.1 rfl (Nat.le_of_ble_eq_true rfl) ⟨Nat.le_of_ble_eq_true rfl, Nat.le_of_ble_eq_true rfl, rfl, rfl⟩ ⟨Nat.zero_le _, Nat.zero_le _⟩ dX8_evenings_121 ?_
          refine lv_isub hx hb dX8_evenings_124 ?_
          have e_0 : (f_X8_evenings_th a1) = 0 := by rw [f_X8_evenings_th, if_neg c_1]
          have e_1 : (f_X8_evenings_sd uP uR sd uk ur pg tr a1) = ((B_X8_evenings_26 uP uR uk ur sd ((B_X8_begin_2 pg tr 15)) a1.toNatClampNeg).1) := by rw [f_X8_evenings_sd, if_neg c_1]
          have e_2 : (f_X8_evenings_tr uP uR sd uk ur pg tr a1) = ((B_X8_evenings_26 uP uR uk ur sd ((B_X8_begin_2 pg tr 15)) a1.toNatClampNeg).2) := by rw [f_X8_evenings_tr, if_neg c_1]
          exact mu_reti CF hQ hr hlk rfl hP hS dX8_evenings_125 (by rw [f_X8_evenings, if_neg c_1]) (by rw [e_0, e_1, e_2])
        · have o_3 : ¬ a1.toNatClampNeg ≤ k26 := fun h => c_3 ((cle ni_2n.1 (rfl : nI k26 = nI k26) (by omega) (by omega)).mpr h)
          refine lv_aload_n hx hb dX8_evenings_31 rfl (lv_at hl 1 rfl) ?_
          refine lv_aload_n hx hb dX8_evenings_32 rfl (lv_at hl 1 rfl) ?_
          refine r_get (C := RX8) (T := TX8) (N := 31) (v := .long x26_0) CF hE hP 0 rfl rfl inG8 22 (by decide) tw_3_137 rfl rfl dX8_evenings_33 ?_
          refine lv_ldc2 (v := 6364136223846793005) hx hb CF.2.2.2.1 (CF.2.2.2.2 _ (List.mem_cons_of_mem _ tw_4_191)) dX8_evenings_36 ?_
          refine lv_lmul hx hb dX8_evenings_39 ?_
          refine lv_ldc2 (v := 1442695040888963407) hx hb CF.2.2.2.1 (CF.2.2.2.2 _ (List.mem_cons_of_mem _ tw_4_192)) dX8_evenings_40 ?_
          refine lv_ladd hx hb dX8_evenings_43 ?_
          refine r_put (C := RX8) (T := TX8) (N := 31) (ws' := [(q0, .inr (8, [.int 0, .ref y1, .int (nI uT), .int (nI up), .int (nI uP), .ref y2, .int (nI uR), .ref y3, .int (nI vP), .ref y4, .ref y5, .int (nI vR), .ref y6, .ref y7, .ref y8, .ref y9, .int (nI ua), .ref y10, .ref y11, .int (nI us), .ref y12, .ref y13, .long ((x26_0 * 6364136223846793005) + 1442695040888963407), .int z1, .int z2, .int z3, .int z4, .int z5, .int z6, .int z7, .ref y14])), (y2, .inl (cI, 5, .inl uk)), (y3, .inl (cI, 12, .inl ur)), (y7, .inl (cI, 15, .inl pg)), (y8, .inl (cI, 15, .inl x26_1))]) CF hE hP hD hS 0 rfl rfl inG8 tyX8 tyX8_ok nmX8 22 (by decide) tw_3_137 rfl rfl rfl rfl (Nat.le_of_ble_eq_true rfl) dX8_evenings_44 rfl (fun H locs hP hD hS => ?_)
          refine lv_aload_n hx hb dX8_evenings_47 rfl (lv_at hl 1 rfl) ?_
          refine r_get (C := RX8) (T := TX8) (N := 31) (v := .long ((x26_0 * 6364136223846793005) + 1442695040888963407)) CF hE hP 0 rfl rfl inG8 22 (by decide) tw_3_137 rfl rfl dX8_evenings_48 ?_
          refine lv_bipush (v := 33) hx hb dX8_evenings_51 (by decide) ?_
          refine lv_lushr (v := (((x26_0 * 6364136223846793005) + 1442695040888963407).toUInt64 >>> ((33 : Int32).toInt64.toUInt64 &&& Int64.toUInt64 63)).toInt64) hx hb dX8_evenings_53 rfl ?_
          refine lv_ldc2 (v := 60) hx hb CF.2.2.2.1 (CF.2.2.2.2 _ (List.mem_cons_of_mem _ tw_4_193)) dX8_evenings_54 ?_
          refine lv_lrem hx hb dX8_evenings_57 (by decide) ?_
          refine lv_l2i (v := (((((x26_0 * 6364136223846793005) + 1442695040888963407).toUInt64 >>> ((33 : Int32).toInt64.toUInt64 &&& Int64.toUInt64 63)).toInt64) - ((((x26_0 * 6364136223846793005) + 1442695040888963407).toUInt64 >>> ((33 : Int32).toInt64.toUInt64 &&& Int64.toUInt64 63)).toInt64) / 60 * 60).toInt32) hx hb dX8_evenings_58 rfl ?_
          refine lv_as (z := (h_X8_evenings_59 x26_0)) rfl ?_
          refine lv_istore_n (lv' := [(3, .int (h_X8_evenings_59 x26_0)), (2, .int (nI k26)), (0, .ref q0), (1, .int a1)]) hx hb dX8_evenings_59 rfl hl (by decide) rfl (fun ls hl => ?_)
          refine lv_aload_n hx hb dX8_evenings_60 rfl (lv_at hl 2 rfl) ?_
          refine lv_iload_n hx hb dX8_evenings_61 rfl (lv_at hl 0 rfl) ?_
          refine lv_bipush (v := 12) hx hb dX8_evenings_62 (by decide) ?_
          refine lv_idiv hx hb dX8_evenings_64 (by decide) ?_
          refine ro_V (y := yX8_noPerson) (As := [.int ((h_X8_evenings_59 x26_0) / 12)]) (rest := []) (q0 := 0) CF (c_X8_noPerson l D cI cZ q0 y1 y2 y3 y4 y5 y6 y7 y8 y9 y10 y11 y12 y13 y14 0 uT up uP uR vP vR ua us ((x26_0 * 6364136223846793005) + 1442695040888963407) z1 z2 z3 z4 z5 z6 z7 ((h_X8_evenings_59 x26_0) / 12)) lk_X8_127 hP hE [0] rfl rfl rfl rfl hl.1 rfl (Nat.le_of_ble_eq_true rfl) ⟨Nat.le_of_ble_eq_true rfl, Nat.le_of_ble_eq_true rfl, rfl, rfl⟩ ⟨Nat.zero_le _, Nat.zero_le _⟩ dX8_evenings_65 ?_
          refine lv_if_ne (tgt := 102) hx hb dX8_evenings_68 (by decide) (fun c_4 => ?_) (fun c_4 => ?_)
          · refine lv_iinc (v := (nI (k26 + 1))) (lv' := [(2, .int (nI (k26 + 1))), (3, .int (h_X8_evenings_59 x26_0)), (0, .ref q0), (1, .int a1)]) hx hb dX8_evenings_102 hl (k := 1) rfl (nf_inc 1 (rfl : nI k26 = nI k26)) (by decide) rfl (fun ls hl => ?_)
            refine lv_goto (tgt := 26) hx hb dX8_evenings_105 (by decide) ?_
            have hB2 : B_X8_evenings_26 uP uR uk ur sd ((B_X8_begin_2 pg tr 15)) (k26 + 1) = (((x26_0 * 6364136223846793005) + 1442695040888963407), x26_1) := by
              rw [B_X8_evenings_26, hB_26]
              show S_X8_evenings_26 uP uR uk ur k26 x26_0 x26_1 = _
              rw [S_X8_evenings_26, if_neg c_4]
            exact ih_26 (k26 + 1) ((x26_0 * 6364136223846793005) + 1442695040888963407) x26_1 _ _ _ (by omega) (by omega) hB2 (by first | exact hx1 | exact goSay_sg hu5 hx1) hP hD hS (lv_sub hl [0, 2, 3] rfl)
          · have np_5 := noPerson_tn (a1 := ((h_X8_evenings_59 x26_0) / 12)) hu5 c_4
            have np_5l := np_5.2
            refine lv_aload_n hx hb dX8_evenings_71 rfl (lv_at hl 2 rfl) ?_
            refine lv_aload_n hx hb dX8_evenings_72 rfl (lv_at hl 2 rfl) ?_
            refine r_get (C := RX8) (T := TX8) (N := 31) (v := .ref y8) CF hE hP 0 rfl rfl inG8 14 (by decide) tw_3_129 rfl rfl dX8_evenings_73 ?_
            refine lv_iload_n hx hb dX8_evenings_76 rfl (lv_at hl 0 rfl) ?_
            refine lv_bipush (v := 12) hx hb dX8_evenings_77 (by decide) ?_
            refine lv_idiv hx hb dX8_evenings_79 (by decide) ?_
            refine lv_iload_n hx hb dX8_evenings_80 rfl (lv_at hl 0 rfl) ?_
            refine lv_bipush (v := 6) hx hb dX8_evenings_81 (by decide) ?_
            refine lv_irem hx hb dX8_evenings_83 (by decide) ?_
            refine lv_iload_n hx hb dX8_evenings_84 rfl (lv_at hl 0 rfl) ?_
            refine lv_bipush (v := 12) hx hb dX8_evenings_85 (by decide) ?_
            refine lv_irem hx hb dX8_evenings_87 (by decide) ?_
            refine lv_bipush (v := 6) hx hb dX8_evenings_88 (by decide) ?_
            refine lv_icmp_ge (tgt := 97) hx hb dX8_evenings_90 (by decide) (fun c_6 => ?_) (fun c_6 => ?_)
            · refine lv_iconst (v := 2) hx hb dX8_evenings_97 (by decide) ?_
              refine mu_V (y := yX8_goSay) (As := [.ref y8, .int ((h_X8_evenings_59 x26_0) / 12), .int ((h_X8_evenings_59 x26_0) - (h_X8_evenings_59 x26_0) / 6 * 6), .int 2]) (rest := []) (q0 := 0) (ws' := [(q0, .inr (8, [.int 0, .ref y1, .int (nI uT), .int (nI up), .int (nI uP), .ref y2, .int (nI uR), .ref y3, .int (nI vP), .ref y4, .ref y5, .int (nI vR), .ref y6, .ref y7, .ref y8, .ref y9, .int (nI ua), .ref y10, .ref y11, .int (nI us), .ref y12, .ref y13, .long ((x26_0 * 6364136223846793005) + 1442695040888963407), .int z1, .int z2, .int z3, .int z4, .int z5, .int z6, .int z7, .ref y14])), (y2, .inl (cI, 5, .inl uk)), (y3, .inl (cI, 12, .inl ur)), (y7, .inl (cI, 15, .inl pg)), (y8, .inl (cI, 15, .inl (f_X8_goSay_tt uP uR uk ur x26_1 ((h_X8_evenings_59 x26_0) / 12) (((h_X8_evenings_59 x26_0) / 12).toNatClampNeg) ((h_X8_evenings_59 x26_0) - (h_X8_evenings_59 x26_0) / 6 * 6) 2)))]) (ad := [q0, y2, y3, y7, y8]) CF (c_X8_goSay l D cI cZ q0 y1 y2 y3 y4 y5 y6 y7 y8 y9 y10 y11 y12 y13 y14 y8 sg 0 uT up uP uR vP vR ua us ((x26_0 * 6364136223846793005) + 1442695040888963407) z1 z2 z3 z4 z5 z6 z7 uk ur x26_1 ((h_X8_evenings_59 x26_0) / 12) (((h_X8_evenings_59 x26_0) / 12).toNatClampNeg) ((h_X8_evenings_59 x26_0) - (h_X8_evenings_59 x26_0) / 6 * 6) 2 np_5.1 (by omega) (by omega) (by omega) hx1 hsg2) lk_X8_156 hP hE hD hS [0, 1, 2, 4] rfl (by decide) (Nat.le_of_ble_eq_true rfl) rfl rfl rfl rfl rfl rfl hl.1 rfl (Nat.le_of_ble_eq_true rfl) ⟨Nat.le_of_ble_eq_true rfl, Nat.le_of_ble_eq_true rfl, rfl, rfl⟩ ⟨Nat.zero_le _, Nat.zero_le _⟩ dX8_evenings_98 (fun H locs hP hD hS => ?_)
              refine lv_pop hx hb dX8_evenings_101 rfl ?_
              refine lv_iinc (v := (nI (k26 + 1))) (lv' := [(2, .int (nI (k26 + 1))), (3, .int (h_X8_evenings_59 x26_0)), (0, .ref q0), (1, .int a1)]) hx hb dX8_evenings_102 hl (k := 1) rfl (nf_inc 1 (rfl : nI k26 = nI k26)) (by decide) rfl (fun ls hl => ?_)
              refine lv_goto (tgt := 26) hx hb dX8_evenings_105 (by decide) ?_
              have hB2 : B_X8_evenings_26 uP uR uk ur sd ((B_X8_begin_2 pg tr 15)) (k26 + 1) = (((x26_0 * 6364136223846793005) + 1442695040888963407), (f_X8_goSay_tt uP uR uk ur x26_1 ((h_X8_evenings_59 x26_0) / 12) (((h_X8_evenings_59 x26_0) / 12).toNatClampNeg) ((h_X8_evenings_59 x26_0) - (h_X8_evenings_59 x26_0) / 6 * 6) 2)) := by
                rw [B_X8_evenings_26, hB_26]
                show S_X8_evenings_26 uP uR uk ur k26 x26_0 x26_1 = _
                rw [S_X8_evenings_26, if_pos c_4, if_pos c_6]
              exact ih_26 (k26 + 1) ((x26_0 * 6364136223846793005) + 1442695040888963407) (f_X8_goSay_tt uP uR uk ur x26_1 ((h_X8_evenings_59 x26_0) / 12) (((h_X8_evenings_59 x26_0) / 12).toNatClampNeg) ((h_X8_evenings_59 x26_0) - (h_X8_evenings_59 x26_0) / 6 * 6) 2) _ _ _ (by omega) (by omega) hB2 (by first | exact hx1 | exact goSay_sg hu5 hx1) hP hD hS (lv_sub hl [0, 2, 3] rfl)
            · refine lv_iconst (v := 1) hx hb dX8_evenings_93 (by decide) ?_
              refine lv_goto (tgt := 98) hx hb dX8_evenings_94 (by decide) ?_
              refine mu_V (y := yX8_goSay) (As := [.ref y8, .int ((h_X8_evenings_59 x26_0) / 12), .int ((h_X8_evenings_59 x26_0) - (h_X8_evenings_59 x26_0) / 6 * 6), .int 1]) (rest := []) (q0 := 0) (ws' := [(q0, .inr (8, [.int 0, .ref y1, .int (nI uT), .int (nI up), .int (nI uP), .ref y2, .int (nI uR), .ref y3, .int (nI vP), .ref y4, .ref y5, .int (nI vR), .ref y6, .ref y7, .ref y8, .ref y9, .int (nI ua), .ref y10, .ref y11, .int (nI us), .ref y12, .ref y13, .long ((x26_0 * 6364136223846793005) + 1442695040888963407), .int z1, .int z2, .int z3, .int z4, .int z5, .int z6, .int z7, .ref y14])), (y2, .inl (cI, 5, .inl uk)), (y3, .inl (cI, 12, .inl ur)), (y7, .inl (cI, 15, .inl pg)), (y8, .inl (cI, 15, .inl (f_X8_goSay_tt uP uR uk ur x26_1 ((h_X8_evenings_59 x26_0) / 12) (((h_X8_evenings_59 x26_0) / 12).toNatClampNeg) ((h_X8_evenings_59 x26_0) - (h_X8_evenings_59 x26_0) / 6 * 6) 1)))]) (ad := [q0, y2, y3, y7, y8]) CF (c_X8_goSay l D cI cZ q0 y1 y2 y3 y4 y5 y6 y7 y8 y9 y10 y11 y12 y13 y14 y8 sg 0 uT up uP uR vP vR ua us ((x26_0 * 6364136223846793005) + 1442695040888963407) z1 z2 z3 z4 z5 z6 z7 uk ur x26_1 ((h_X8_evenings_59 x26_0) / 12) (((h_X8_evenings_59 x26_0) / 12).toNatClampNeg) ((h_X8_evenings_59 x26_0) - (h_X8_evenings_59 x26_0) / 6 * 6) 1 np_5.1 (by omega) (by omega) (by omega) hx1 hsg2) lk_X8_156 hP hE hD hS [0, 1, 2, 4] rfl (by decide) (Nat.le_of_ble_eq_true rfl) rfl rfl rfl rfl rfl rfl hl.1 rfl (Nat.le_of_ble_eq_true rfl) ⟨Nat.le_of_ble_eq_true rfl, Nat.le_of_ble_eq_true rfl, rfl, rfl⟩ ⟨Nat.zero_le _, Nat.zero_le _⟩ dX8_evenings_98 (fun H locs hP hD hS => ?_)
              refine lv_pop hx hb dX8_evenings_101 rfl ?_
              refine lv_iinc (v := (nI (k26 + 1))) (lv' := [(2, .int (nI (k26 + 1))), (3, .int (h_X8_evenings_59 x26_0)), (0, .ref q0), (1, .int a1)]) hx hb dX8_evenings_102 hl (k := 1) rfl (nf_inc 1 (rfl : nI k26 = nI k26)) (by decide) rfl (fun ls hl => ?_)
              refine lv_goto (tgt := 26) hx hb dX8_evenings_105 (by decide) ?_
              have hB2 : B_X8_evenings_26 uP uR uk ur sd ((B_X8_begin_2 pg tr 15)) (k26 + 1) = (((x26_0 * 6364136223846793005) + 1442695040888963407), (f_X8_goSay_tt uP uR uk ur x26_1 ((h_X8_evenings_59 x26_0) / 12) (((h_X8_evenings_59 x26_0) / 12).toNatClampNeg) ((h_X8_evenings_59 x26_0) - (h_X8_evenings_59 x26_0) / 6 * 6) 1)) := by
                rw [B_X8_evenings_26, hB_26]
                show S_X8_evenings_26 uP uR uk ur k26 x26_0 x26_1 = _
                rw [S_X8_evenings_26, if_pos c_4, if_neg c_6]
              exact ih_26 (k26 + 1) ((x26_0 * 6364136223846793005) + 1442695040888963407) (f_X8_goSay_tt uP uR uk ur x26_1 ((h_X8_evenings_59 x26_0) / 12) (((h_X8_evenings_59 x26_0) / 12).toNatClampNeg) ((h_X8_evenings_59 x26_0) - (h_X8_evenings_59 x26_0) / 6 * 6) 1) _ _ _ (by omega) (by omega) hB2 (by first | exact hx1 | exact goSay_sg hu5 hx1) hP hD hS (lv_sub hl [0, 2, 3] rfl)
    have e_k : 0 = nI (0) := (nf_c 0).trans (congrArg nI (by omega))
    rw [e_k] at hl
    exact LOOP_26 (a1.toNatClampNeg - 0 + 1) 0 sd ((B_X8_begin_2 pg tr 15)) _ _ _ (Nat.zero_le _) (by omega) rfl (begin_sg hu5 hsg1) hP hD hS (lv_sub hl [0, 1, 2] rfl)
  · refine lv_bipush (v := (-2)) hx hb dX8_evenings_17 (by decide) ?_
    have e_0 : (f_X8_evenings_th a1) = 0 := by rw [f_X8_evenings_th, if_pos c_1]
    have e_1 : (f_X8_evenings_sd uP uR sd uk ur pg tr a1) = sd := by rw [f_X8_evenings_sd, if_pos c_1]
    have e_2 : (f_X8_evenings_tr uP uR sd uk ur pg tr a1) = tr := by rw [f_X8_evenings_tr, if_pos c_1]
    exact mu_reti CF hQ hr hlk rfl hP hS dX8_evenings_19 (by rw [f_X8_evenings, if_pos c_1]) (by rw [e_0, e_1, e_2])
def h_X8_judge_67 (a1 : Int32) (a2 : Int32) (k45 : Nat) : Int32 :=
  ((a2 / ((B_X8_power_4 1000 1 ((a1.toNatClampNeg - 1) - k45)))) - (a2 / ((B_X8_power_4 1000 1 ((a1.toNatClampNeg - 1) - k45)))) / 1000 * 1000)
def h_X8_judge_76 (a1 : Int32) (a2 : Int32) (k45 : Nat) : Int32 :=
  (((h_X8_judge_67 a1 a2 k45) / 100) - 1)
def h_X8_judge_88 (a1 : Int32) (a2 : Int32) (k45 : Nat) : Int32 :=
  ((((h_X8_judge_67 a1 a2 k45) / 10) - ((h_X8_judge_67 a1 a2 k45) / 10) / 10 * 10) - 1)
def h_X8_judge_95 (a1 : Int32) (a2 : Int32) (k45 : Nat) : Int32 :=
  ((h_X8_judge_67 a1 a2 k45) - (h_X8_judge_67 a1 a2 k45) / 10 * 10)
def S_X8_judge_45 (uP : Nat) (uR : Nat) (uk : Nat → Int32) (ur : Nat → Int32) (a1 : Int32) (a2 : Int32) (rec : Nat → (Nat → Int32) → ((Int32) × (Int32) × (Nat → Int32))) (k45 : Nat) (x45_0 : Nat → Int32) : (Int32) × (Int32) × (Nat → Int32) :=
  (if a1 ≤ (nI k45) then ((-9), 0, x45_0) else (if (f_X8_noPerson uP (h_X8_judge_76 a1 a2 k45)) = 0 then (if (f_X8_noFact (h_X8_judge_88 a1 a2 k45)) = 0 then (if (f_X8_in ((h_X8_judge_95 a1 a2 k45).toInt64) 1 2) = 0 then ((nI k45), 0, x45_0) else (if (f_X8_goSay uP uR uk ur x45_0 (h_X8_judge_76 a1 a2 k45) ((h_X8_judge_76 a1 a2 k45).toNatClampNeg) (h_X8_judge_88 a1 a2 k45) (h_X8_judge_95 a1 a2 k45)) = (-9) then ((nI k45), 0, (f_X8_goSay_tt uP uR uk ur x45_0 (h_X8_judge_76 a1 a2 k45) ((h_X8_judge_76 a1 a2 k45).toNatClampNeg) (h_X8_judge_88 a1 a2 k45) (h_X8_judge_95 a1 a2 k45))) else (rec (k45 + 1) (f_X8_goSay_tt uP uR uk ur x45_0 (h_X8_judge_76 a1 a2 k45) ((h_X8_judge_76 a1 a2 k45).toNatClampNeg) (h_X8_judge_88 a1 a2 k45) (h_X8_judge_95 a1 a2 k45))))) else ((nI k45), 0, x45_0)) else ((nI k45), 0, x45_0)))
def L_X8_judge_45 (uP : Nat) (uR : Nat) (uk : Nat → Int32) (ur : Nat → Int32) (a1 : Int32) (a2 : Int32) : Nat → Nat → (Nat → Int32) → ((Int32) × (Int32) × (Nat → Int32))
  | 0, _, _ => (0, 0, (fun _ => 0))
  | n + 1, k, y0 => S_X8_judge_45 uP uR uk ur a1 a2 (L_X8_judge_45 uP uR uk ur a1 a2 n) k y0
def f_X8_judge (uP : Nat) (uR : Nat) (uk : Nat → Int32) (ur : Nat → Int32) (pg : Nat → Int32) (tr : Nat → Int32) (a1 : Int32) (a2 : Int32) : Int32 :=
  (if (f_X8_in a1.toInt64 1 3) = 0 then (-2) else (if (f_X8_in a2.toInt64 0 ((((B_X8_power_4 1000 1 a1.toNatClampNeg)) - 1).toInt64)) = 0 then (-2) else ((L_X8_judge_45 uP uR uk ur a1 a2 (a1.toNatClampNeg + 1) 0 ((B_X8_begin_2 pg tr 15))).1)))
def f_X8_judge_th (uP : Nat) (uR : Nat) (uk : Nat → Int32) (ur : Nat → Int32) (pg : Nat → Int32) (tr : Nat → Int32) (a1 : Int32) (a2 : Int32) : Int32 :=
  (if (f_X8_in a1.toInt64 1 3) = 0 then 0 else (if (f_X8_in a2.toInt64 0 ((((B_X8_power_4 1000 1 a1.toNatClampNeg)) - 1).toInt64)) = 0 then 0 else ((L_X8_judge_45 uP uR uk ur a1 a2 (a1.toNatClampNeg + 1) 0 ((B_X8_begin_2 pg tr 15))).2.1)))
def f_X8_judge_tr (uP : Nat) (uR : Nat) (uk : Nat → Int32) (ur : Nat → Int32) (pg : Nat → Int32) (tr : Nat → Int32) (a1 : Int32) (a2 : Int32) : Nat → Int32 :=
  (if (f_X8_in a1.toInt64 1 3) = 0 then tr else (if (f_X8_in a2.toInt64 0 ((((B_X8_power_4 1000 1 a1.toNatClampNeg)) - 1).toInt64)) = 0 then tr else ((L_X8_judge_45 uP uR uk ur a1 a2 (a1.toNatClampNeg + 1) 0 ((B_X8_begin_2 pg tr 15))).2.2)))
set_option maxRecDepth 100000 in
set_option maxHeartbeats 4000000 in
theorem c_X8_judge (l : Launch) (D : va_G) (cI cZ : ClassId) (q0 y1 y2 y3 y4 y5 y6 y7 y8 y9 y10 y11 y12 y13 y14 : Nat) (sg : Nat → Nat) (th : Int32) (uT : Nat) (up : Nat) (uP : Nat) (uR : Nat) (vP : Nat) (vR : Nat) (ua : Nat) (us : Nat) (sd : Int64) (z1 : Int32) (z2 : Int32) (z3 : Int32) (z4 : Int32) (z5 : Int32) (z6 : Int32) (z7 : Int32) (uk : Nat → Int32) (ur : Nat → Int32) (pg : Nat → Int32) (tr : Nat → Int32) (a1 : Int32) (a2 : Int32) (hu5 : uP ≤ 5) (hur : uR ≤ 4) (hsg1 : ∀ i, i < uP → pg (5 + i) = nI (sg i) ∧ sg i < uP) (hsg2 : ∀ j, j < uP → ∃ i, i < uP ∧ sg i = j) : MU l D cI cZ yX8_judge cX8_judge 8 (some .int) (mR 4 103) [.ref q0, .int a1, .int a2] [(q0, .inr (8, [.int th, .ref y1, .int (nI uT), .int (nI up), .int (nI uP), .ref y2, .int (nI uR), .ref y3, .int (nI vP), .ref y4, .ref y5, .int (nI vR), .ref y6, .ref y7, .ref y8, .ref y9, .int (nI ua), .ref y10, .ref y11, .int (nI us), .ref y12, .ref y13, .long sd, .int z1, .int z2, .int z3, .int z4, .int z5, .int z6, .int z7, .ref y14])), (y2, .inl (cI, 5, .inl uk)), (y3, .inl (cI, 12, .inl ur)), (y7, .inl (cI, 15, .inl pg)), (y8, .inl (cI, 15, .inl tr))] [(q0, .inr (8, [.int (f_X8_judge_th uP uR uk ur pg tr a1 a2), .ref y1, .int (nI uT), .int (nI up), .int (nI uP), .ref y2, .int (nI uR), .ref y3, .int (nI vP), .ref y4, .ref y5, .int (nI vR), .ref y6, .ref y7, .ref y8, .ref y9, .int (nI ua), .ref y10, .ref y11, .int (nI us), .ref y12, .ref y13, .long sd, .int z1, .int z2, .int z3, .int z4, .int z5, .int z6, .int z7, .ref y14])), (y2, .inl (cI, 5, .inl uk)), (y3, .inl (cI, 12, .inl ur)), (y7, .inl (cI, 15, .inl pg)), (y8, .inl (cI, 15, .inl (f_X8_judge_tr uP uR uk ur pg tr a1 a2)))] (some (.int (f_X8_judge uP uR uk ur pg tr a1 a2))) := by
  refine MU.of (by decide +kernel) (Nat.le_of_ble_eq_true rfl) ?_
  intro p e s m args below meth c ls Q A CF hr hlk hP hE hD hS hQ hl
  have hx := CF.1
  have hb := CF.2.1
  have hl : lv_has ls 8 [(0, .ref q0), (1, .int a1), (2, .int a2)] := hl
  refine lv_aload_n hx hb dX8_judge_0 rfl (lv_at hl 0 rfl) ?_
  refine lv_iconst (v := 0) hx hb dX8_judge_1 (by decide) ?_
  refine r_put (C := RX8) (T := TX8) (N := 31) (ws' := [(q0, .inr (8, [.int 0, .ref y1, .int (nI uT), .int (nI up), .int (nI uP), .ref y2, .int (nI uR), .ref y3, .int (nI vP), .ref y4, .ref y5, .int (nI vR), .ref y6, .ref y7, .ref y8, .ref y9, .int (nI ua), .ref y10, .ref y11, .int (nI us), .ref y12, .ref y13, .long sd, .int z1, .int z2, .int z3, .int z4, .int z5, .int z6, .int z7, .ref y14])), (y2, .inl (cI, 5, .inl uk)), (y3, .inl (cI, 12, .inl ur)), (y7, .inl (cI, 15, .inl pg)), (y8, .inl (cI, 15, .inl tr))]) CF hE hP hD hS 0 rfl rfl inG8 tyX8 tyX8_ok nmX8 0 (by decide) tw_3_115 rfl rfl rfl rfl (Nat.le_of_ble_eq_true rfl) dX8_judge_2 rfl (fun H locs hP hD hS => ?_)
  refine lv_iload_n hx hb dX8_judge_5 rfl (lv_at hl 1 rfl) ?_
  refine lv_i2l (v := a1.toInt64) hx hb dX8_judge_6 rfl ?_
  refine lv_lconst (v := 1) hx hb dX8_judge_7 (by decide) ?_
  refine lv_ldc2 (v := 3) hx hb CF.2.2.2.1 (CF.2.2.2.2 _ (List.mem_cons_of_mem _ tw_4_136)) dX8_judge_8 ?_
  refine ro_S (y := yX8_in) (As := [.long a1.toInt64, .long 1, .long 3]) (rest := []) CF (c_X8_in l D cI cZ a1.toInt64 1 3) lk_X8_60 hE rfl hl.1 rfl (Nat.le_of_ble_eq_true rfl) ⟨Nat.le_of_ble_eq_true rfl, Nat.le_of_ble_eq_true rfl, rfl, rfl⟩ ⟨Nat.zero_le _, Nat.zero_le _⟩ dX8_judge_11 ?_
  refine lv_if_eq (tgt := 36) hx hb dX8_judge_14 (by decide) (fun c_1 => ?_) (fun c_1 => ?_)
  · refine lv_bipush (v := (-2)) hx hb dX8_judge_36 (by decide) ?_
    have e_0 : (f_X8_judge_th uP uR uk ur pg tr a1 a2) = 0 := by rw [f_X8_judge_th, if_pos c_1]
    have e_1 : (f_X8_judge_tr uP uR uk ur pg tr a1 a2) = tr := by rw [f_X8_judge_tr, if_pos c_1]
    exact mu_reti CF hQ hr hlk rfl hP hS dX8_judge_38 (by rw [f_X8_judge, if_pos c_1]) (by rw [e_0, e_1])
  · have ni_2 : (1 : Int32) ≤ a1 ∧ a1 ≤ nI 3 := in_ne (a := 1) (b := nI 3) c_1
    have ni_2n := rng_tn ni_2 (by decide) (by decide)
    have ni_2l := ni_2n.2
    have ni_2g := rng_ge1 ni_2.1
    refine lv_iload_n hx hb dX8_judge_17 rfl (lv_at hl 2 rfl) ?_
    refine lv_i2l (v := a2.toInt64) hx hb dX8_judge_18 rfl ?_
    refine lv_lconst (v := 0) hx hb dX8_judge_19 (by decide) ?_
    refine lv_sipush (v := 1000) hx hb dX8_judge_20 (by decide) ?_
    refine lv_iload_n hx hb dX8_judge_23 rfl (lv_at hl 1 rfl) ?_
    refine ro_S (y := yX8_power) (As := [.int 1000, .int a1]) (rest := [.long 0, .long a2.toInt64]) CF (c_X8_power l D cI cZ 1000 a1 a1.toNatClampNeg ni_2n.1 (by omega)) lk_X8_162 hE rfl hl.1 rfl (Nat.le_of_ble_eq_true rfl) ⟨Nat.le_of_ble_eq_true rfl, Nat.le_of_ble_eq_true rfl, rfl, rfl⟩ ⟨Nat.zero_le _, Nat.zero_le _⟩ dX8_judge_24 ?_
    have hp_3 : 0 < 1000 ^ a1.toNatClampNeg ∧ 1000 ^ a1.toNatClampNeg ≤ 1000 ^ 3 := ⟨Nat.pow_pos (by omega), pow_le' _ _ _ _ (Nat.le_refl _) (by omega) (by omega)⟩
    have hp_31 := hp_3.1
    have hp_32 : 1000 ^ a1.toNatClampNeg ≤ 1000000000 := hp_3.2
    refine lv_iconst (v := 1) hx hb dX8_judge_27 (by decide) ?_
    refine lv_isub hx hb dX8_judge_28 ?_
    refine lv_i2l (v := (((B_X8_power_4 1000 1 a1.toNatClampNeg)) - 1).toInt64) hx hb dX8_judge_29 rfl ?_
    refine ro_S (y := yX8_in) (As := [.long a2.toInt64, .long 0, .long ((((B_X8_power_4 1000 1 a1.toNatClampNeg)) - 1).toInt64)]) (rest := []) CF (c_X8_in l D cI cZ a2.toInt64 0 ((((B_X8_power_4 1000 1 a1.toNatClampNeg)) - 1).toInt64)) lk_X8_60 hE rfl hl.1 rfl (Nat.le_of_ble_eq_true rfl) ⟨Nat.le_of_ble_eq_true rfl, Nat.le_of_ble_eq_true rfl, rfl, rfl⟩ ⟨Nat.zero_le _, Nat.zero_le _⟩ dX8_judge_30 ?_
    refine lv_if_ne (tgt := 39) hx hb dX8_judge_33 (by decide) (fun c_4 => ?_) (fun c_4 => ?_)
    · refine lv_aload_n hx hb dX8_judge_39 rfl (lv_at hl 0 rfl) ?_
      refine mu_Vv (y := yX8_begin) (As := []) (rest := []) (q0 := 0) (ws' := [(q0, .inr (8, [.int 0, .ref y1, .int (nI uT), .int (nI up), .int (nI uP), .ref y2, .int (nI uR), .ref y3, .int (nI vP), .ref y4, .ref y5, .int (nI vR), .ref y6, .ref y7, .ref y8, .ref y9, .int (nI ua), .ref y10, .ref y11, .int (nI us), .ref y12, .ref y13, .long sd, .int z1, .int z2, .int z3, .int z4, .int z5, .int z6, .int z7, .ref y14])), (y2, .inl (cI, 5, .inl uk)), (y3, .inl (cI, 12, .inl ur)), (y7, .inl (cI, 15, .inl pg)), (y8, .inl (cI, 15, .inl ((B_X8_begin_2 pg tr 15))))]) (ad := [q0, y2, y3, y7, y8]) CF (c_X8_begin l D cI cZ q0 y1 y2 y3 y4 y5 y6 y7 y8 y9 y10 y11 y12 y13 y14 0 uT up uP uR vP vR ua us sd z1 z2 z3 z4 z5 z6 z7 pg tr) lk_X8_159 hP hE hD hS [0, 3, 4] rfl (by decide) (Nat.le_of_ble_eq_true rfl) rfl rfl rfl rfl rfl rfl hl.1 rfl (Nat.le_of_ble_eq_true rfl) ⟨Nat.le_of_ble_eq_true rfl, Nat.le_of_ble_eq_true rfl, rfl, rfl⟩ ⟨Nat.zero_le _, Nat.zero_le _⟩ dX8_judge_40 (fun H locs hP hD hS => ?_)
      refine lv_iconst (v := 0) hx hb dX8_judge_43 (by decide) ?_
      refine lv_istore_n (lv' := [(3, .int 0), (0, .ref q0), (1, .int a1), (2, .int a2)]) hx hb dX8_judge_44 rfl hl (by decide) rfl (fun ls hl => ?_)
      have LOOP_45 : ∀ (n_45 k45 : Nat) (x45_0 : Nat → Int32) (H : Heap) (locs : List Loc) (ls : Array Slot), k45 ≤ a1.toNatClampNeg → a1.toNatClampNeg - k45 < n_45 → L_X8_judge_45 uP uR uk ur a1 a2 n_45 k45 x45_0 = L_X8_judge_45 uP uR uk ur a1 a2 (a1.toNatClampNeg + 1) 0 ((B_X8_begin_2 pg tr 15)) → (∀ i, i < uP → x45_0 (5 + i) = nI (sg i) ∧ sg i < uP) → va_P D vwCl [(q0, .inr (8, [.int 0, .ref y1, .int (nI uT), .int (nI up), .int (nI uP), .ref y2, .int (nI uR), .ref y3, .int (nI vP), .ref y4, .ref y5, .int (nI vR), .ref y6, .ref y7, .ref y8, .ref y9, .int (nI ua), .ref y10, .ref y11, .int (nI us), .ref y12, .ref y13, .long sd, .int z1, .int z2, .int z3, .int z4, .int z5, .int z6, .int z7, .ref y14])), (y2, .inl (cI, 5, .inl uk)), (y3, .inl (cI, 12, .inl ur)), (y7, .inl (cI, 15, .inl pg)), (y8, .inl (cI, 15, .inl x45_0))] H → va_D A [(q0, .inr (8, [.int 0, .ref y1, .int (nI uT), .int (nI up), .int (nI uP), .ref y2, .int (nI uR), .ref y3, .int (nI vP), .ref y4, .ref y5, .int (nI vR), .ref y6, .ref y7, .ref y8, .ref y9, .int (nI ua), .ref y10, .ref y11, .int (nI us), .ref y12, .ref y13, .long sd, .int z1, .int z2, .int z3, .int z4, .int z5, .int z6, .int z7, .ref y14])), (y2, .inl (cI, 5, .inl uk)), (y3, .inl (cI, 12, .inl ur)), (y7, .inl (cI, 15, .inl pg)), (y8, .inl (cI, 15, .inl x45_0))] → va_S A s.heap H locs → lv_has ls 8 [(3, .int (nI k45)), (0, .ref q0), (1, .int a1), (2, .int a2)] → W p l e (mR 4 103) s m args below meth c H locs 0 0 Q (F0 m 45 ls []) := by
        intro n_45
        induction n_45 with
        | zero => intro k45 x45_0 H locs ls hk_45 hn_45 hR_45 hx1 hP hD hS hl; exact absurd hn_45 (Nat.not_lt_zero _)
        | succ n_45 ih_45 =>
          intro k45 x45_0 H locs ls hk_45 hn_45 hR_45 hx1 hP hD hS hl
          refine lv_iload_n hx hb dX8_judge_45 rfl (lv_at hl 0 rfl) ?_
          refine lv_iload_n hx hb dX8_judge_46 rfl (lv_at hl 2 rfl) ?_
          refine lv_icmp_ge (tgt := 154) hx hb dX8_judge_47 (by decide) (fun c_6 => ?_) (fun c_6 => ?_)
          · have o_6 : a1.toNatClampNeg ≤ k45 := (cle ni_2n.1 (rfl : nI k45 = nI k45) (by omega) (by omega)).mp c_6
            refine lv_bipush (v := (-9)) hx hb dX8_judge_154 (by decide) ?_
            have hq_5 : L_X8_judge_45 uP uR uk ur a1 a2 (a1.toNatClampNeg + 1) 0 ((B_X8_begin_2 pg tr 15)) = ((-9), 0, x45_0) := by
              rw [← hR_45]
              show S_X8_judge_45 uP uR uk ur a1 a2 (L_X8_judge_45 uP uR uk ur a1 a2 n_45) k45 x45_0 = _
              rw [S_X8_judge_45, if_pos c_6]
            have e_0 : (f_X8_judge_th uP uR uk ur pg tr a1 a2) = 0 := by rw [f_X8_judge_th, if_neg c_1, if_neg c_4, hq_5]
            have e_1 : (f_X8_judge_tr uP uR uk ur pg tr a1 a2) = x45_0 := by rw [f_X8_judge_tr, if_neg c_1, if_neg c_4, hq_5]
            exact mu_reti CF hQ hr hlk rfl hP hS dX8_judge_156 (by rw [f_X8_judge, if_neg c_1, if_neg c_4, hq_5]) (by rw [e_0, e_1])
          · have o_6 : ¬ a1.toNatClampNeg ≤ k45 := fun h => c_6 ((cle ni_2n.1 (rfl : nI k45 = nI k45) (by omega) (by omega)).mpr h)
            refine lv_iload_n hx hb dX8_judge_50 rfl (lv_at hl 3 rfl) ?_
            refine lv_sipush (v := 1000) hx hb dX8_judge_51 (by decide) ?_
            refine lv_iload_n hx hb dX8_judge_54 rfl (lv_at hl 2 rfl) ?_
            refine lv_iconst (v := 1) hx hb dX8_judge_55 (by decide) ?_
            refine lv_isub hx hb dX8_judge_56 ?_
            refine lv_iload_n hx hb dX8_judge_57 rfl (lv_at hl 0 rfl) ?_
            refine lv_isub hx hb dX8_judge_58 ?_
            refine ro_S (y := yX8_power) (As := [.int 1000, .int ((a1 - 1) - (nI k45))]) (rest := [.int a2]) CF (c_X8_power l D cI cZ 1000 ((a1 - 1) - (nI k45)) ((a1.toNatClampNeg - 1) - k45) (nf_sub (nf_sub ni_2n.1 (nf_c 1) (by omega)) (rfl : nI k45 = nI k45) (by omega)) (by omega)) lk_X8_162 hE rfl hl.1 rfl (Nat.le_of_ble_eq_true rfl) ⟨Nat.le_of_ble_eq_true rfl, Nat.le_of_ble_eq_true rfl, rfl, rfl⟩ ⟨Nat.zero_le _, Nat.zero_le _⟩ dX8_judge_59 ?_
            have hp_7 : 0 < 1000 ^ ((a1.toNatClampNeg - 1) - k45) ∧ 1000 ^ ((a1.toNatClampNeg - 1) - k45) ≤ 1000 ^ 3 := ⟨Nat.pow_pos (by omega), pow_le' _ _ _ _ (Nat.le_refl _) (by omega) (by omega)⟩
            have hp_71 := hp_7.1
            have hp_72 : 1000 ^ ((a1.toNatClampNeg - 1) - k45) ≤ 1000000000 := hp_7.2
            refine lv_idiv hx hb dX8_judge_62 (fun h => absurd ((ceq (pow_nf' (nf_c 1000) ((a1.toNatClampNeg - 1) - k45)) (nf_c 0) (by omega) (by omega)).mp h) (by omega)) ?_
            refine lv_sipush (v := 1000) hx hb dX8_judge_63 (by decide) ?_
            refine lv_irem hx hb dX8_judge_66 (by decide) ?_
            refine lv_as (z := (h_X8_judge_67 a1 a2 k45)) rfl ?_
            refine lv_istore (lv' := [(4, .int (h_X8_judge_67 a1 a2 k45)), (3, .int (nI k45)), (0, .ref q0), (1, .int a1), (2, .int a2)]) hx hb dX8_judge_67 hl (by decide) rfl (fun ls hl => ?_)
            refine lv_iload hx hb dX8_judge_69 (lv_at hl 0 rfl) ?_
            refine lv_bipush (v := 100) hx hb dX8_judge_71 (by decide) ?_
            refine lv_idiv hx hb dX8_judge_73 (by decide) ?_
            refine lv_iconst (v := 1) hx hb dX8_judge_74 (by decide) ?_
            refine lv_isub hx hb dX8_judge_75 ?_
            refine lv_as (z := (h_X8_judge_76 a1 a2 k45)) rfl ?_
            refine lv_istore (lv' := [(5, .int (h_X8_judge_76 a1 a2 k45)), (4, .int (h_X8_judge_67 a1 a2 k45)), (3, .int (nI k45)), (0, .ref q0), (1, .int a1), (2, .int a2)]) hx hb dX8_judge_76 hl (by decide) rfl (fun ls hl => ?_)
            refine lv_iload hx hb dX8_judge_78 (lv_at hl 1 rfl) ?_
            refine lv_bipush (v := 10) hx hb dX8_judge_80 (by decide) ?_
            refine lv_idiv hx hb dX8_judge_82 (by decide) ?_
            refine lv_bipush (v := 10) hx hb dX8_judge_83 (by decide) ?_
            refine lv_irem hx hb dX8_judge_85 (by decide) ?_
            refine lv_iconst (v := 1) hx hb dX8_judge_86 (by decide) ?_
            refine lv_isub hx hb dX8_judge_87 ?_
            refine lv_as (z := (h_X8_judge_88 a1 a2 k45)) rfl ?_
            refine lv_istore (lv' := [(6, .int (h_X8_judge_88 a1 a2 k45)), (5, .int (h_X8_judge_76 a1 a2 k45)), (4, .int (h_X8_judge_67 a1 a2 k45)), (3, .int (nI k45)), (0, .ref q0), (1, .int a1), (2, .int a2)]) hx hb dX8_judge_88 hl (by decide) rfl (fun ls hl => ?_)
            refine lv_iload hx hb dX8_judge_90 (lv_at hl 2 rfl) ?_
            refine lv_bipush (v := 10) hx hb dX8_judge_92 (by decide) ?_
            refine lv_irem hx hb dX8_judge_94 (by decide) ?_
            refine lv_as (z := (h_X8_judge_95 a1 a2 k45)) rfl ?_
            refine lv_istore (lv' := [(7, .int (h_X8_judge_95 a1 a2 k45)), (6, .int (h_X8_judge_88 a1 a2 k45)), (5, .int (h_X8_judge_76 a1 a2 k45)), (4, .int (h_X8_judge_67 a1 a2 k45)), (3, .int (nI k45)), (0, .ref q0), (1, .int a1), (2, .int a2)]) hx hb dX8_judge_95 hl (by decide) rfl (fun ls hl => ?_)
            refine lv_aload_n hx hb dX8_judge_97 rfl (lv_at hl 5 rfl) ?_
            refine lv_iload hx hb dX8_judge_98 (lv_at hl 2 rfl) ?_
            refine ro_V (y := yX8_noPerson) (As := [.int (h_X8_judge_76 a1 a2 k45)]) (rest := []) (q0 := 0) CF (c_X8_noPerson l D cI cZ q0 y1 y2 y3 y4 y5 y6 y7 y8 y9 y10 y11 y12 y13 y14 0 uT up uP uR vP vR ua us sd z1 z2 z3 z4 z5 z6 z7 (h_X8_judge_76 a1 a2 k45)) lk_X8_127 hP hE [0] rfl rfl rfl rfl hl.1 rfl (Nat.le_of_ble_eq_true rfl) ⟨Nat.le_of_ble_eq_true rfl, Nat.le_of_ble_eq_true rfl, rfl, rfl⟩ ⟨Nat.zero_le _, Nat.zero_le _⟩ dX8_judge_100 ?_
            refine lv_if_ne (tgt := 146) hx hb dX8_judge_103 (by decide) (fun c_8 => ?_) (fun c_8 => ?_)
            · refine lv_iload_n hx hb dX8_judge_146 rfl (lv_at hl 4 rfl) ?_
              have hq_5 : L_X8_judge_45 uP uR uk ur a1 a2 (a1.toNatClampNeg + 1) 0 ((B_X8_begin_2 pg tr 15)) = ((nI k45), 0, x45_0) := by
                rw [← hR_45]
                show S_X8_judge_45 uP uR uk ur a1 a2 (L_X8_judge_45 uP uR uk ur a1 a2 n_45) k45 x45_0 = _
                rw [S_X8_judge_45, if_neg c_6, if_neg c_8]
              have e_0 : (f_X8_judge_th uP uR uk ur pg tr a1 a2) = 0 := by rw [f_X8_judge_th, if_neg c_1, if_neg c_4, hq_5]
              have e_1 : (f_X8_judge_tr uP uR uk ur pg tr a1 a2) = x45_0 := by rw [f_X8_judge_tr, if_neg c_1, if_neg c_4, hq_5]
              exact mu_reti CF hQ hr hlk rfl hP hS dX8_judge_147 (by rw [f_X8_judge, if_neg c_1, if_neg c_4, hq_5]) (by rw [e_0, e_1])
            · have np_9 := noPerson_tn (a1 := (h_X8_judge_76 a1 a2 k45)) hu5 c_8
              have np_9l := np_9.2
              refine lv_iload hx hb dX8_judge_106 (lv_at hl 1 rfl) ?_
              refine ro_S (y := yX8_noFact) (As := [.int (h_X8_judge_88 a1 a2 k45)]) (rest := []) CF (c_X8_noFact l D cI cZ (h_X8_judge_88 a1 a2 k45)) lk_X8_148 hE rfl hl.1 rfl (Nat.le_of_ble_eq_true rfl) ⟨Nat.le_of_ble_eq_true rfl, Nat.le_of_ble_eq_true rfl, rfl, rfl⟩ ⟨Nat.zero_le _, Nat.zero_le _⟩ dX8_judge_108 ?_
              refine lv_if_ne (tgt := 146) hx hb dX8_judge_111 (by decide) (fun c_10 => ?_) (fun c_10 => ?_)
              · refine lv_iload_n hx hb dX8_judge_146 rfl (lv_at hl 4 rfl) ?_
                have hq_5 : L_X8_judge_45 uP uR uk ur a1 a2 (a1.toNatClampNeg + 1) 0 ((B_X8_begin_2 pg tr 15)) = ((nI k45), 0, x45_0) := by
                  rw [← hR_45]
                  show S_X8_judge_45 uP uR uk ur a1 a2 (L_X8_judge_45 uP uR uk ur a1 a2 n_45) k45 x45_0 = _
                  rw [S_X8_judge_45, if_neg c_6, if_pos c_8, if_neg c_10]
                have e_0 : (f_X8_judge_th uP uR uk ur pg tr a1 a2) = 0 := by rw [f_X8_judge_th, if_neg c_1, if_neg c_4, hq_5]
                have e_1 : (f_X8_judge_tr uP uR uk ur pg tr a1 a2) = x45_0 := by rw [f_X8_judge_tr, if_neg c_1, if_neg c_4, hq_5]
                exact mu_reti CF hQ hr hlk rfl hP hS dX8_judge_147 (by rw [f_X8_judge, if_neg c_1, if_neg c_4, hq_5]) (by rw [e_0, e_1])
              · refine lv_iload hx hb dX8_judge_114 (lv_at hl 0 rfl) ?_
                refine lv_i2l (v := (h_X8_judge_95 a1 a2 k45).toInt64) hx hb dX8_judge_116 rfl ?_
                refine lv_lconst (v := 1) hx hb dX8_judge_117 (by decide) ?_
                refine lv_ldc2 (v := 2) hx hb CF.2.2.2.1 (CF.2.2.2.2 _ (List.mem_cons_of_mem _ tw_4_49)) dX8_judge_118 ?_
                refine ro_S (y := yX8_in) (As := [.long ((h_X8_judge_95 a1 a2 k45).toInt64), .long 1, .long 2]) (rest := []) CF (c_X8_in l D cI cZ ((h_X8_judge_95 a1 a2 k45).toInt64) 1 2) lk_X8_60 hE rfl hl.1 rfl (Nat.le_of_ble_eq_true rfl) ⟨Nat.le_of_ble_eq_true rfl, Nat.le_of_ble_eq_true rfl, rfl, rfl⟩ ⟨Nat.zero_le _, Nat.zero_le _⟩ dX8_judge_121 ?_
                refine lv_if_eq (tgt := 146) hx hb dX8_judge_124 (by decide) (fun c_11 => ?_) (fun c_11 => ?_)
                · refine lv_iload_n hx hb dX8_judge_146 rfl (lv_at hl 4 rfl) ?_
                  have hq_5 : L_X8_judge_45 uP uR uk ur a1 a2 (a1.toNatClampNeg + 1) 0 ((B_X8_begin_2 pg tr 15)) = ((nI k45), 0, x45_0) := by
                    rw [← hR_45]
                    show S_X8_judge_45 uP uR uk ur a1 a2 (L_X8_judge_45 uP uR uk ur a1 a2 n_45) k45 x45_0 = _
                    rw [S_X8_judge_45, if_neg c_6, if_pos c_8, if_pos c_10, if_pos c_11]
                  have e_0 : (f_X8_judge_th uP uR uk ur pg tr a1 a2) = 0 := by rw [f_X8_judge_th, if_neg c_1, if_neg c_4, hq_5]
                  have e_1 : (f_X8_judge_tr uP uR uk ur pg tr a1 a2) = x45_0 := by rw [f_X8_judge_tr, if_neg c_1, if_neg c_4, hq_5]
                  exact mu_reti CF hQ hr hlk rfl hP hS dX8_judge_147 (by rw [f_X8_judge, if_neg c_1, if_neg c_4, hq_5]) (by rw [e_0, e_1])
                · refine lv_aload_n hx hb dX8_judge_127 rfl (lv_at hl 5 rfl) ?_
                  refine lv_aload_n hx hb dX8_judge_128 rfl (lv_at hl 5 rfl) ?_
                  refine r_get (C := RX8) (T := TX8) (N := 31) (v := .ref y8) CF hE hP 0 rfl rfl inG8 14 (by decide) tw_3_129 rfl rfl dX8_judge_129 ?_
                  refine lv_iload hx hb dX8_judge_132 (lv_at hl 2 rfl) ?_
                  refine lv_iload hx hb dX8_judge_134 (lv_at hl 1 rfl) ?_
                  refine lv_iload hx hb dX8_judge_136 (lv_at hl 0 rfl) ?_
                  refine mu_V (y := yX8_goSay) (As := [.ref y8, .int (h_X8_judge_76 a1 a2 k45), .int (h_X8_judge_88 a1 a2 k45), .int (h_X8_judge_95 a1 a2 k45)]) (rest := []) (q0 := 0) (ws' := [(q0, .inr (8, [.int 0, .ref y1, .int (nI uT), .int (nI up), .int (nI uP), .ref y2, .int (nI uR), .ref y3, .int (nI vP), .ref y4, .ref y5, .int (nI vR), .ref y6, .ref y7, .ref y8, .ref y9, .int (nI ua), .ref y10, .ref y11, .int (nI us), .ref y12, .ref y13, .long sd, .int z1, .int z2, .int z3, .int z4, .int z5, .int z6, .int z7, .ref y14])), (y2, .inl (cI, 5, .inl uk)), (y3, .inl (cI, 12, .inl ur)), (y7, .inl (cI, 15, .inl pg)), (y8, .inl (cI, 15, .inl (f_X8_goSay_tt uP uR uk ur x45_0 (h_X8_judge_76 a1 a2 k45) ((h_X8_judge_76 a1 a2 k45).toNatClampNeg) (h_X8_judge_88 a1 a2 k45) (h_X8_judge_95 a1 a2 k45))))]) (ad := [q0, y2, y3, y7, y8]) CF (c_X8_goSay l D cI cZ q0 y1 y2 y3 y4 y5 y6 y7 y8 y9 y10 y11 y12 y13 y14 y8 sg 0 uT up uP uR vP vR ua us sd z1 z2 z3 z4 z5 z6 z7 uk ur x45_0 (h_X8_judge_76 a1 a2 k45) ((h_X8_judge_76 a1 a2 k45).toNatClampNeg) (h_X8_judge_88 a1 a2 k45) (h_X8_judge_95 a1 a2 k45) np_9.1 (by omega) (by omega) (by omega) hx1 hsg2) lk_X8_156 hP hE hD hS [0, 1, 2, 4] rfl (by decide) (Nat.le_of_ble_eq_true rfl) rfl rfl rfl rfl rfl rfl hl.1 rfl (Nat.le_of_ble_eq_true rfl) ⟨Nat.le_of_ble_eq_true rfl, Nat.le_of_ble_eq_true rfl, rfl, rfl⟩ ⟨Nat.zero_le _, Nat.zero_le _⟩ dX8_judge_138 (fun H locs hP hD hS => ?_)
                  refine lv_bipush (v := (-9)) hx hb dX8_judge_141 (by decide) ?_
                  refine lv_icmp_ne (tgt := 148) hx hb dX8_judge_143 (by decide) (fun c_12 => ?_) (fun c_12 => ?_)
                  · refine lv_iinc (v := (nI (k45 + 1))) (lv' := [(3, .int (nI (k45 + 1))), (7, .int (h_X8_judge_95 a1 a2 k45)), (6, .int (h_X8_judge_88 a1 a2 k45)), (5, .int (h_X8_judge_76 a1 a2 k45)), (4, .int (h_X8_judge_67 a1 a2 k45)), (0, .ref q0), (1, .int a1), (2, .int a2)]) hx hb dX8_judge_148 hl (k := 4) rfl (nf_inc 1 (rfl : nI k45 = nI k45)) (by decide) rfl (fun ls hl => ?_)
                    refine lv_goto (tgt := 45) hx hb dX8_judge_151 (by decide) ?_
                    have hR2 : L_X8_judge_45 uP uR uk ur a1 a2 n_45 (k45 + 1) (f_X8_goSay_tt uP uR uk ur x45_0 (h_X8_judge_76 a1 a2 k45) ((h_X8_judge_76 a1 a2 k45).toNatClampNeg) (h_X8_judge_88 a1 a2 k45) (h_X8_judge_95 a1 a2 k45)) = L_X8_judge_45 uP uR uk ur a1 a2 (a1.toNatClampNeg + 1) 0 ((B_X8_begin_2 pg tr 15)) := by
                      rw [← hR_45]
                      show _ = S_X8_judge_45 uP uR uk ur a1 a2 (L_X8_judge_45 uP uR uk ur a1 a2 n_45) k45 x45_0
                      rw [S_X8_judge_45, if_neg c_6, if_pos c_8, if_pos c_10, if_neg c_11, if_neg c_12]
                    exact ih_45 (k45 + 1) (f_X8_goSay_tt uP uR uk ur x45_0 (h_X8_judge_76 a1 a2 k45) ((h_X8_judge_76 a1 a2 k45).toNatClampNeg) (h_X8_judge_88 a1 a2 k45) (h_X8_judge_95 a1 a2 k45)) _ _ _ (by omega) (by omega) hR2 (goSay_sg hu5 hx1) hP hD hS (lv_sub hl [0, 5, 6, 7] rfl)
                  · refine lv_iload_n hx hb dX8_judge_146 rfl (lv_at hl 4 rfl) ?_
                    have hq_5 : L_X8_judge_45 uP uR uk ur a1 a2 (a1.toNatClampNeg + 1) 0 ((B_X8_begin_2 pg tr 15)) = ((nI k45), 0, (f_X8_goSay_tt uP uR uk ur x45_0 (h_X8_judge_76 a1 a2 k45) ((h_X8_judge_76 a1 a2 k45).toNatClampNeg) (h_X8_judge_88 a1 a2 k45) (h_X8_judge_95 a1 a2 k45))) := by
                      rw [← hR_45]
                      show S_X8_judge_45 uP uR uk ur a1 a2 (L_X8_judge_45 uP uR uk ur a1 a2 n_45) k45 x45_0 = _
                      rw [S_X8_judge_45, if_neg c_6, if_pos c_8, if_pos c_10, if_neg c_11, if_pos c_12]
                    have e_0 : (f_X8_judge_th uP uR uk ur pg tr a1 a2) = 0 := by rw [f_X8_judge_th, if_neg c_1, if_neg c_4, hq_5]
                    have e_1 : (f_X8_judge_tr uP uR uk ur pg tr a1 a2) = (f_X8_goSay_tt uP uR uk ur x45_0 (h_X8_judge_76 a1 a2 k45) ((h_X8_judge_76 a1 a2 k45).toNatClampNeg) (h_X8_judge_88 a1 a2 k45) (h_X8_judge_95 a1 a2 k45)) := by rw [f_X8_judge_tr, if_neg c_1, if_neg c_4, hq_5]
                    exact mu_reti CF hQ hr hlk rfl hP hS dX8_judge_147 (by rw [f_X8_judge, if_neg c_1, if_neg c_4, hq_5]) (by rw [e_0, e_1])
      have e_k : 0 = nI (0) := (nf_c 0).trans (congrArg nI (by omega))
      rw [e_k] at hl
      exact LOOP_45 (a1.toNatClampNeg + 1) 0 ((B_X8_begin_2 pg tr 15)) _ _ _ (Nat.zero_le _) (by omega) rfl (begin_sg hu5 hsg1) hP hD hS (lv_sub hl [0, 1, 2, 3] rfl)
    · refine lv_bipush (v := (-2)) hx hb dX8_judge_36 (by decide) ?_
      have e_0 : (f_X8_judge_th uP uR uk ur pg tr a1 a2) = 0 := by rw [f_X8_judge_th, if_neg c_1, if_pos c_4]
      have e_1 : (f_X8_judge_tr uP uR uk ur pg tr a1 a2) = tr := by rw [f_X8_judge_tr, if_neg c_1, if_pos c_4]
      exact mu_reti CF hQ hr hlk rfl hP hS dX8_judge_38 (by rw [f_X8_judge, if_neg c_1, if_pos c_4]) (by rw [e_0, e_1])
def S_X8_divisor_13 (rec : (Int32) → (Int32) → ((Int32))) (x13_0 : Int32) (x13_1 : Int32) : (Int32) :=
  (if x13_1 = 0 then x13_0 else (rec x13_1 (x13_0 - x13_0 / x13_1 * x13_1)))
def L_X8_divisor_13 : Nat → (Int32) → (Int32) → ((Int32))
  | 0, _, _ => 0
  | n + 1, y0, y1 => S_X8_divisor_13 (L_X8_divisor_13 n) y0 y1
set_option maxRecDepth 100000 in
set_option maxHeartbeats 4000000 in
theorem c_X8_divisor (l : Launch) (D : va_G) (cI cZ : ClassId) (a0 : Int32) (n0 : Nat) (a1 : Int32) (n1 : Nat) (h_a0 : a0 = nI n0) (h_a1 : a1 = nI n1) (hb0 : n0 < 2 ^ 31) (hb1 : n1 < 2 ^ 31) : RO l D cI cZ yX8_divisor cX8_divisor 5 (some .int) (mR 0 0) [.int a0, .int a1] [] (some (.int ((L_X8_divisor_13 (n1 + 1) a0 a1)))) := by
  refine RO.of (by decide +kernel) (Nat.le_of_ble_eq_true rfl) ?_
  intro p e s m args below meth c ls Q CF hr hlk hP hE hQ hl
  have hx := CF.1
  have hb := CF.2.1
  have hl : lv_has ls 5 [(0, .int a0), (1, .int a1)] := hl
  refine lv_iload_n hx hb dX8_divisor_0 rfl (lv_at hl 0 rfl) ?_
  refine lv_if_ge (tgt := 9) hx hb dX8_divisor_1 (by decide) (fun c_1 => ?_) (fun c_1 => ?_)
  · have o_1 : 0 ≤ n0 := (cle (nf_c 0) h_a0 (by omega) (by omega)).mp c_1
    refine lv_iload_n hx hb dX8_divisor_9 rfl (lv_at hl 0 rfl) ?_
    refine lv_istore_n (lv' := [(2, .int a0), (0, .int a0), (1, .int a1)]) hx hb dX8_divisor_10 rfl hl (by decide) rfl (fun ls hl => ?_)
    refine lv_iload_n hx hb dX8_divisor_11 rfl (lv_at hl 2 rfl) ?_
    refine lv_istore_n (lv' := [(3, .int a1), (2, .int a0), (0, .int a0), (1, .int a1)]) hx hb dX8_divisor_12 rfl hl (by decide) rfl (fun ls hl => ?_)
    have LOOP_13 : ∀ (n_13 : Nat) (x13_0 : Int32) (x13_1 : Int32) (g0 : Nat) (g1 : Nat) (ls : Array Slot), g1 < n_13 → L_X8_divisor_13 n_13 x13_0 x13_1 = L_X8_divisor_13 (n1 + 1) a0 a1 → (x13_0 = nI g0) → (x13_1 = nI g1) → (g0 < 2 ^ 31) → (g1 < 2 ^ 31) → lv_has ls 5 [(3, .int x13_1), (2, .int x13_0), (0, .int a0), (1, .int a1)] → W p l e (mR 0 0) s m args below meth c s.heap [] 0 0 Q (F0 m 13 ls []) := by
      intro n_13
      induction n_13 with
      | zero => intro x13_0 x13_1 g0 g1 ls hn_13 hR_13 hg0 hg1 hc0 hc1 hl; exact absurd hn_13 (Nat.not_lt_zero _)
      | succ n_13 ih_13 =>
        intro x13_0 x13_1 g0 g1 ls hn_13 hR_13 hg0 hg1 hc0 hc1 hl
        refine lv_iload_n hx hb dX8_divisor_13 rfl (lv_at hl 0 rfl) ?_
        refine lv_if_eq (tgt := 30) hx hb dX8_divisor_14 (by decide) (fun c_3 => ?_) (fun c_3 => ?_)
        · have o_3 : g1 = 0 := (ceq hg1 (nf_c 0) (by omega) (by omega)).mp c_3
          refine lv_iload_n hx hb dX8_divisor_30 rfl (lv_at hl 1 rfl) ?_
          have hq_2 : L_X8_divisor_13 (n1 + 1) a0 a1 = x13_0 := by
            rw [← hR_13]
            show S_X8_divisor_13 (L_X8_divisor_13 n_13) x13_0 x13_1 = _
            rw [S_X8_divisor_13, if_pos c_3]
          exact ro_ret CF hQ hr hlk rfl dX8_divisor_31 (by rw [hq_2])
        · have o_3 : ¬ g1 = 0 := fun h => c_3 ((ceq hg1 (nf_c 0) (by omega) (by omega)).mpr h)
          refine lv_iload_n hx hb dX8_divisor_17 rfl (lv_at hl 1 rfl) ?_
          refine lv_iload_n hx hb dX8_divisor_18 rfl (lv_at hl 0 rfl) ?_
          refine lv_irem hx hb dX8_divisor_19 (by assumption) ?_
          refine lv_istore (lv' := [(4, .int (x13_0 - x13_0 / x13_1 * x13_1)), (3, .int x13_1), (2, .int x13_0), (0, .int a0), (1, .int a1)]) hx hb dX8_divisor_20 hl (by decide) rfl (fun ls hl => ?_)
          refine lv_iload_n hx hb dX8_divisor_22 rfl (lv_at hl 1 rfl) ?_
          refine lv_istore_n (lv' := [(2, .int x13_1), (4, .int (x13_0 - x13_0 / x13_1 * x13_1)), (3, .int x13_1), (0, .int a0), (1, .int a1)]) hx hb dX8_divisor_23 rfl hl (by decide) rfl (fun ls hl => ?_)
          refine lv_iload hx hb dX8_divisor_24 (lv_at hl 1 rfl) ?_
          refine lv_istore_n (lv' := [(3, .int (x13_0 - x13_0 / x13_1 * x13_1)), (2, .int x13_1), (4, .int (x13_0 - x13_0 / x13_1 * x13_1)), (0, .int a0), (1, .int a1)]) hx hb dX8_divisor_26 rfl hl (by decide) rfl (fun ls hl => ?_)
          refine lv_goto (tgt := 13) hx hb dX8_divisor_27 (by decide) ?_
          have hR2 : L_X8_divisor_13 n_13 x13_1 (x13_0 - x13_0 / x13_1 * x13_1) = L_X8_divisor_13 (n1 + 1) a0 a1 := by
            rw [← hR_13]
            show _ = S_X8_divisor_13 (L_X8_divisor_13 n_13) x13_0 x13_1
            rw [S_X8_divisor_13, if_neg c_3]
          exact ih_13 x13_1 (x13_0 - x13_0 / x13_1 * x13_1) g1 (g0 % g1) _ (by have := Nat.mod_lt g0 (show 0 < g1 by omega); omega) hR2 hg1 (nf_rem hg0 hg1 (by omega) (by omega) (by omega)) (by omega) (by have := Nat.mod_lt g0 (show 0 < g1 by omega); omega) (lv_sub hl [0, 1, 3, 4] rfl)
    exact LOOP_13 (n1 + 1) a0 a1 n0 n1 _ (by omega) rfl h_a0 h_a1 (by omega) (by omega) (lv_sub hl [0, 1, 2, 3] rfl)
  · have o_1 : ¬ 0 ≤ n0 := fun h => c_1 ((cle (nf_c 0) h_a0 (by omega) (by omega)).mpr h)
    exact absurd (show 0 ≤ a0 by rw [h_a0]; exact nI_pos' (by omega)) c_1
theorem divisor_gcd : ∀ (n a b : Nat), b < n → a < 2 ^ 31 → b < 2 ^ 31 → L_X8_divisor_13 n (nI a) (nI b) = nI (Nat.gcd b a)
  | 0, _, _, h, _, _ => absurd h (Nat.not_lt_zero _)
  | n + 1, a, b, h, ha, hb => by
    rw [L_X8_divisor_13, S_X8_divisor_13]
    by_cases hz : b = 0
    · subst hz
      rw [if_pos (by rfl), Nat.gcd_zero_left]
    · rw [if_neg (nI_ne0 (by omega) hb), pk_rem ha (by omega) hb]
      have hm := Nat.mod_lt a (show 0 < b by omega)
      rw [divisor_gcd n b (a % b) (by omega) hb (by omega), Nat.gcd_rec b a]
theorem div_ne {a0 a1 : Int32} {n0 n1 : Nat} (h0 : a0 = nI n0) (h1 : a1 = nI n1) (hb0 : n0 < 2 ^ 31) (hb1 : n1 < 2 ^ 31) (hp : 0 < n1) : ¬ L_X8_divisor_13 (n1 + 1) a0 a1 = 0 := by
  rw [h0, h1, divisor_gcd _ _ _ (by omega) hb0 hb1]
  have h2 : 0 < Nat.gcd n1 n0 := Nat.gcd_pos_of_pos_left _ hp
  have h3 : Nat.gcd n1 n0 ≤ n1 := Nat.gcd_le_left _ hp
  exact nI_ne0 h2 (by omega)
theorem lk_X8_180 : mLkS RX8 180 yX8_divisor cX8_divisor 5 (some .int) 2 := ⟨⟨tw_4_147, tw_1_10, tw_4_149, ⟨by decide +kernel, by decide +kernel, by decide +kernel⟩⟩, tw_4_148⟩
def f_X8_fraction (a0 : Int32) (a1 : Int32) (n1 : Nat) (a2 : Int32) : Int32 :=
  (if a2 = 0 then (a1 / ((L_X8_divisor_13 (n1 + 1) a0 a1))) else (a0 / ((L_X8_divisor_13 (n1 + 1) a0 a1))))
set_option maxRecDepth 100000 in
set_option maxHeartbeats 4000000 in
theorem c_X8_fraction (l : Launch) (D : va_G) (cI cZ : ClassId) (a0 : Int32) (n0 : Nat) (a1 : Int32) (n1 : Nat) (a2 : Int32) (h_a0 : a0 = nI n0) (h_a1 : a1 = nI n1) (hb0 : n0 < 2 ^ 31) (hb1 : n1 < 2 ^ 31) (hb2 : 0 < n1) : RO l D cI cZ yX8_fraction cX8_fraction 4 (some .int) (mR 1 24) [.int a0, .int a1, .int a2] [] (some (.int (f_X8_fraction a0 a1 n1 a2))) := by
  refine RO.of (by decide +kernel) (Nat.le_of_ble_eq_true rfl) ?_
  intro p e s m args below meth c ls Q CF hr hlk hP hE hQ hl
  have hx := CF.1
  have hb := CF.2.1
  have hl : lv_has ls 4 [(0, .int a0), (1, .int a1), (2, .int a2)] := hl
  refine lv_iload_n hx hb dX8_fraction_0 rfl (lv_at hl 0 rfl) ?_
  refine lv_iload_n hx hb dX8_fraction_1 rfl (lv_at hl 1 rfl) ?_
  refine ro_S (y := yX8_divisor) (As := [.int a0, .int a1]) (rest := []) CF (c_X8_divisor l D cI cZ a0 n0 a1 n1 h_a0 h_a1 (by omega) (by omega)) lk_X8_180 hE rfl hl.1 rfl (Nat.le_of_ble_eq_true rfl) ⟨Nat.le_of_ble_eq_true rfl, Nat.le_of_ble_eq_true rfl, rfl, rfl⟩ ⟨Nat.zero_le _, Nat.zero_le _⟩ dX8_fraction_2 ?_
  refine lv_istore_n (lv' := [(3, .int ((L_X8_divisor_13 (n1 + 1) a0 a1))), (0, .int a0), (1, .int a1), (2, .int a2)]) hx hb dX8_fraction_5 rfl hl (by decide) rfl (fun ls hl => ?_)
  refine lv_iload_n hx hb dX8_fraction_6 rfl (lv_at hl 3 rfl) ?_
  refine lv_if_eq (tgt := 16) hx hb dX8_fraction_7 (by decide) (fun c_1 => ?_) (fun c_1 => ?_)
  · refine lv_iload_n hx hb dX8_fraction_16 rfl (lv_at hl 2 rfl) ?_
    refine lv_iload_n hx hb dX8_fraction_17 rfl (lv_at hl 0 rfl) ?_
    refine lv_idiv hx hb dX8_fraction_18 (div_ne h_a0 h_a1 hb0 hb1 hb2) ?_
    exact ro_ret CF hQ hr hlk rfl dX8_fraction_19 (by rw [f_X8_fraction, if_pos c_1])
  · refine lv_iload_n hx hb dX8_fraction_10 rfl (lv_at hl 1 rfl) ?_
    refine lv_iload_n hx hb dX8_fraction_11 rfl (lv_at hl 0 rfl) ?_
    refine lv_idiv hx hb dX8_fraction_12 (div_ne h_a0 h_a1 hb0 hb1 hb2) ?_
    refine lv_goto (tgt := 19) hx hb dX8_fraction_13 (by decide) ?_
    exact ro_ret CF hQ hr hlk rfl dX8_fraction_19 (by rw [f_X8_fraction, if_neg c_1])
theorem lk_X8_186 : mLkS RX8 186 yX8_fraction cX8_fraction 4 (some .int) 3 := ⟨⟨tw_4_144, tw_1_10, tw_4_146, ⟨by decide +kernel, by decide +kernel, by decide +kernel⟩⟩, tw_4_145⟩
def f_X8_deaf (uP : Nat) (uR : Nat) (uk : Nat → Int32) (ur : Nat → Int32) (pg : Nat → Int32) (a1 : Int32) (a2 : Int32) (a3 : Int32) (a4 : Int32) (a5 : Int32) : Int32 :=
  (if (f_X8_noPerson uP a1) = 0 then (if (f_X8_noFact a2) = 0 then (if (f_X8_in a3.toInt64 1 2) = 0 then (-2) else (if (f_X8_in a4.toInt64 0 10) = 0 then (-2) else (f_X8_fraction ((B_X8_power_4 a4 1 (mny ((B_X8_knowersOf_6 uP uR uk ur pg a1 a1.toNatClampNeg a2 a3 0 uP)) 6))) ((B_X8_power_4 10 1 (mny ((B_X8_knowersOf_6 uP uR uk ur pg a1 a1.toNatClampNeg a2 a3 0 uP)) 6))) (10 ^ (mny ((B_X8_knowersOf_6 uP uR uk ur pg a1 a1.toNatClampNeg a2 a3 0 uP)) 6)) a5))) else (-1)) else (-1))
def f_X8_deaf_th (uP : Nat) (a1 : Int32) (a2 : Int32) (a3 : Int32) (a4 : Int32) : Int32 :=
  (if (f_X8_noPerson uP a1) = 0 then (if (f_X8_noFact a2) = 0 then (if (f_X8_in a3.toInt64 1 2) = 0 then 0 else (if (f_X8_in a4.toInt64 0 10) = 0 then 0 else 0)) else 0) else 0)
set_option maxRecDepth 100000 in
set_option maxHeartbeats 4000000 in
theorem c_X8_deaf (l : Launch) (D : va_G) (cI cZ : ClassId) (q0 y1 y2 y3 y4 y5 y6 y7 y8 y9 y10 y11 y12 y13 y14 : Nat) (th : Int32) (uT : Nat) (up : Nat) (uP : Nat) (uR : Nat) (vP : Nat) (vR : Nat) (ua : Nat) (us : Nat) (sd : Int64) (z1 : Int32) (z2 : Int32) (z3 : Int32) (z4 : Int32) (z5 : Int32) (z6 : Int32) (z7 : Int32) (uk : Nat → Int32) (ur : Nat → Int32) (pg : Nat → Int32) (a1 : Int32) (a2 : Int32) (a3 : Int32) (a4 : Int32) (a5 : Int32) (hu5 : uP ≤ 5) (hur : uR ≤ 4) : MU l D cI cZ yX8_deaf cX8_deaf 7 (some .int) (mR 3 75) [.ref q0, .int a1, .int a2, .int a3, .int a4, .int a5] [(q0, .inr (8, [.int th, .ref y1, .int (nI uT), .int (nI up), .int (nI uP), .ref y2, .int (nI uR), .ref y3, .int (nI vP), .ref y4, .ref y5, .int (nI vR), .ref y6, .ref y7, .ref y8, .ref y9, .int (nI ua), .ref y10, .ref y11, .int (nI us), .ref y12, .ref y13, .long sd, .int z1, .int z2, .int z3, .int z4, .int z5, .int z6, .int z7, .ref y14])), (y2, .inl (cI, 5, .inl uk)), (y3, .inl (cI, 12, .inl ur)), (y7, .inl (cI, 15, .inl pg))] [(q0, .inr (8, [.int (f_X8_deaf_th uP a1 a2 a3 a4), .ref y1, .int (nI uT), .int (nI up), .int (nI uP), .ref y2, .int (nI uR), .ref y3, .int (nI vP), .ref y4, .ref y5, .int (nI vR), .ref y6, .ref y7, .ref y8, .ref y9, .int (nI ua), .ref y10, .ref y11, .int (nI us), .ref y12, .ref y13, .long sd, .int z1, .int z2, .int z3, .int z4, .int z5, .int z6, .int z7, .ref y14])), (y2, .inl (cI, 5, .inl uk)), (y3, .inl (cI, 12, .inl ur)), (y7, .inl (cI, 15, .inl pg))] (some (.int (f_X8_deaf uP uR uk ur pg a1 a2 a3 a4 a5))) := by
  refine MU.of (by decide +kernel) (Nat.le_of_ble_eq_true rfl) ?_
  intro p e s m args below meth c ls Q A CF hr hlk hP hE hD hS hQ hl
  have hx := CF.1
  have hb := CF.2.1
  have hl : lv_has ls 7 [(0, .ref q0), (1, .int a1), (2, .int a2), (3, .int a3), (4, .int a4), (5, .int a5)] := hl
  refine lv_aload_n hx hb dX8_deaf_0 rfl (lv_at hl 0 rfl) ?_
  refine lv_iconst (v := 0) hx hb dX8_deaf_1 (by decide) ?_
  refine r_put (C := RX8) (T := TX8) (N := 31) (ws' := [(q0, .inr (8, [.int 0, .ref y1, .int (nI uT), .int (nI up), .int (nI uP), .ref y2, .int (nI uR), .ref y3, .int (nI vP), .ref y4, .ref y5, .int (nI vR), .ref y6, .ref y7, .ref y8, .ref y9, .int (nI ua), .ref y10, .ref y11, .int (nI us), .ref y12, .ref y13, .long sd, .int z1, .int z2, .int z3, .int z4, .int z5, .int z6, .int z7, .ref y14])), (y2, .inl (cI, 5, .inl uk)), (y3, .inl (cI, 12, .inl ur)), (y7, .inl (cI, 15, .inl pg))]) CF hE hP hD hS 0 rfl rfl inG8 tyX8 tyX8_ok nmX8 0 (by decide) tw_3_115 rfl rfl rfl rfl (Nat.le_of_ble_eq_true rfl) dX8_deaf_2 rfl (fun H locs hP hD hS => ?_)
  refine lv_aload_n hx hb dX8_deaf_5 rfl (lv_at hl 0 rfl) ?_
  refine lv_iload_n hx hb dX8_deaf_6 rfl (lv_at hl 1 rfl) ?_
  refine ro_V (y := yX8_noPerson) (As := [.int a1]) (rest := []) (q0 := 0) CF (c_X8_noPerson l D cI cZ q0 y1 y2 y3 y4 y5 y6 y7 y8 y9 y10 y11 y12 y13 y14 0 uT up uP uR vP vR ua us sd z1 z2 z3 z4 z5 z6 z7 a1) lk_X8_127 hP hE [0] rfl rfl rfl rfl hl.1 rfl (Nat.le_of_ble_eq_true rfl) ⟨Nat.le_of_ble_eq_true rfl, Nat.le_of_ble_eq_true rfl, rfl, rfl⟩ ⟨Nat.zero_le _, Nat.zero_le _⟩ dX8_deaf_7 ?_
  refine lv_if_ne (tgt := 20) hx hb dX8_deaf_10 (by decide) (fun c_1 => ?_) (fun c_1 => ?_)
  · refine lv_iconst (v := (-1)) hx hb dX8_deaf_20 (by decide) ?_
    have e_0 : (f_X8_deaf_th uP a1 a2 a3 a4) = 0 := by rw [f_X8_deaf_th, if_neg c_1]
    exact mu_reti CF hQ hr hlk rfl hP hS dX8_deaf_21 (by rw [f_X8_deaf, if_neg c_1]) (by rw [e_0])
  · have np_2 := noPerson_tn (a1 := a1) hu5 c_1
    have np_2l := np_2.2
    refine lv_iload_n hx hb dX8_deaf_13 rfl (lv_at hl 2 rfl) ?_
    refine ro_S (y := yX8_noFact) (As := [.int a2]) (rest := []) CF (c_X8_noFact l D cI cZ a2) lk_X8_148 hE rfl hl.1 rfl (Nat.le_of_ble_eq_true rfl) ⟨Nat.le_of_ble_eq_true rfl, Nat.le_of_ble_eq_true rfl, rfl, rfl⟩ ⟨Nat.zero_le _, Nat.zero_le _⟩ dX8_deaf_14 ?_
    refine lv_if_eq (tgt := 22) hx hb dX8_deaf_17 (by decide) (fun c_3 => ?_) (fun c_3 => ?_)
    · refine lv_iload_n hx hb dX8_deaf_22 rfl (lv_at hl 3 rfl) ?_
      refine lv_i2l (v := a3.toInt64) hx hb dX8_deaf_23 rfl ?_
      refine lv_lconst (v := 1) hx hb dX8_deaf_24 (by decide) ?_
      refine lv_ldc2 (v := 2) hx hb CF.2.2.2.1 (CF.2.2.2.2 _ (List.mem_cons_of_mem _ tw_4_49)) dX8_deaf_25 ?_
      refine ro_S (y := yX8_in) (As := [.long a3.toInt64, .long 1, .long 2]) (rest := []) CF (c_X8_in l D cI cZ a3.toInt64 1 2) lk_X8_60 hE rfl hl.1 rfl (Nat.le_of_ble_eq_true rfl) ⟨Nat.le_of_ble_eq_true rfl, Nat.le_of_ble_eq_true rfl, rfl, rfl⟩ ⟨Nat.zero_le _, Nat.zero_le _⟩ dX8_deaf_28 ?_
      refine lv_if_eq (tgt := 47) hx hb dX8_deaf_31 (by decide) (fun c_4 => ?_) (fun c_4 => ?_)
      · refine lv_bipush (v := (-2)) hx hb dX8_deaf_47 (by decide) ?_
        have e_0 : (f_X8_deaf_th uP a1 a2 a3 a4) = 0 := by rw [f_X8_deaf_th, if_pos c_1, if_pos c_3, if_pos c_4]
        exact mu_reti CF hQ hr hlk rfl hP hS dX8_deaf_49 (by rw [f_X8_deaf, if_pos c_1, if_pos c_3, if_pos c_4]) (by rw [e_0])
      · have ni_5 : (1 : Int32) ≤ a3 ∧ a3 ≤ nI 2 := in_ne (a := 1) (b := nI 2) c_4
        have ni_5n := rng_tn ni_5 (by decide) (by decide)
        have ni_5l := ni_5n.2
        have ni_5g := rng_ge1 ni_5.1
        refine lv_iload hx hb dX8_deaf_34 (lv_at hl 4 rfl) ?_
        refine lv_i2l (v := a4.toInt64) hx hb dX8_deaf_36 rfl ?_
        refine lv_lconst (v := 0) hx hb dX8_deaf_37 (by decide) ?_
        refine lv_ldc2 (v := 10) hx hb CF.2.2.2.1 (CF.2.2.2.2 _ (List.mem_cons_of_mem _ tw_4_181)) dX8_deaf_38 ?_
        refine ro_S (y := yX8_in) (As := [.long a4.toInt64, .long 0, .long 10]) (rest := []) CF (c_X8_in l D cI cZ a4.toInt64 0 10) lk_X8_60 hE rfl hl.1 rfl (Nat.le_of_ble_eq_true rfl) ⟨Nat.le_of_ble_eq_true rfl, Nat.le_of_ble_eq_true rfl, rfl, rfl⟩ ⟨Nat.zero_le _, Nat.zero_le _⟩ dX8_deaf_41 ?_
        refine lv_if_ne (tgt := 50) hx hb dX8_deaf_44 (by decide) (fun c_6 => ?_) (fun c_6 => ?_)
        · have ni_7 : (0 : Int32) ≤ a4 ∧ a4 ≤ nI 10 := in_ne (a := 0) (b := nI 10) c_6
          have ni_7n := rng_tn ni_7 (by decide) (by decide)
          have ni_7l := ni_7n.2
          refine lv_aload_n hx hb dX8_deaf_50 rfl (lv_at hl 0 rfl) ?_
          refine lv_aload_n hx hb dX8_deaf_51 rfl (lv_at hl 0 rfl) ?_
          refine r_get (C := RX8) (T := TX8) (N := 31) (v := .ref y7) CF hE hP 0 rfl rfl inG8 13 (by decide) tw_3_128 rfl rfl dX8_deaf_52 ?_
          refine lv_iload_n hx hb dX8_deaf_55 rfl (lv_at hl 1 rfl) ?_
          refine lv_iload_n hx hb dX8_deaf_56 rfl (lv_at hl 2 rfl) ?_
          refine lv_iload_n hx hb dX8_deaf_57 rfl (lv_at hl 3 rfl) ?_
          refine ro_V (y := yX8_knowersOf) (As := [.ref y7, .int a1, .int a2, .int a3]) (rest := []) (q0 := 0) CF (c_X8_knowersOf l D cI cZ q0 y1 y2 y3 y4 y5 y6 y7 y8 y9 y10 y11 y12 y13 y14 y7 0 uT up uP uR vP vR ua us sd z1 z2 z3 z4 z5 z6 z7 uk ur pg a1 a1.toNatClampNeg a2 a3 np_2.1 (by omega) (by omega) (by omega)) lk_X8_135 hP hE [0, 1, 2, 3] rfl rfl rfl rfl hl.1 rfl (Nat.le_of_ble_eq_true rfl) ⟨Nat.le_of_ble_eq_true rfl, Nat.le_of_ble_eq_true rfl, rfl, rfl⟩ ⟨Nat.zero_le _, Nat.zero_le _⟩ dX8_deaf_58 ?_
          refine ro_S (y := yX8_many) (As := [.int ((B_X8_knowersOf_6 uP uR uk ur pg a1 a1.toNatClampNeg a2 a3 0 uP))]) (rest := []) CF (c_X8_many l D cI cZ ((B_X8_knowersOf_6 uP uR uk ur pg a1 a1.toNatClampNeg a2 a3 0 uP))) lk_X8_145 hE rfl hl.1 rfl (Nat.le_of_ble_eq_true rfl) ⟨Nat.le_of_ble_eq_true rfl, Nat.le_of_ble_eq_true rfl, rfl, rfl⟩ ⟨Nat.zero_le _, Nat.zero_le _⟩ dX8_deaf_61 ?_
          have hm_8 := mny_le ((B_X8_knowersOf_6 uP uR uk ur pg a1 a1.toNatClampNeg a2 a3 0 uP)) 6
          refine lv_istore (lv' := [(6, .int ((B_X8_many_4 ((B_X8_knowersOf_6 uP uR uk ur pg a1 a1.toNatClampNeg a2 a3 0 uP)) 0 6))), (0, .ref q0), (1, .int a1), (2, .int a2), (3, .int a3), (4, .int a4), (5, .int a5)]) hx hb dX8_deaf_64 hl (by decide) rfl (fun ls hl => ?_)
          refine lv_iload hx hb dX8_deaf_66 (lv_at hl 5 rfl) ?_
          refine lv_iload hx hb dX8_deaf_68 (lv_at hl 0 rfl) ?_
          refine ro_S (y := yX8_power) (As := [.int a4, .int ((B_X8_many_4 ((B_X8_knowersOf_6 uP uR uk ur pg a1 a1.toNatClampNeg a2 a3 0 uP)) 0 6))]) (rest := []) CF (c_X8_power l D cI cZ a4 ((B_X8_many_4 ((B_X8_knowersOf_6 uP uR uk ur pg a1 a1.toNatClampNeg a2 a3 0 uP)) 0 6)) (mny ((B_X8_knowersOf_6 uP uR uk ur pg a1 a1.toNatClampNeg a2 a3 0 uP)) 6) (many_nf ((B_X8_knowersOf_6 uP uR uk ur pg a1 a1.toNatClampNeg a2 a3 0 uP)) 6) (by omega)) lk_X8_162 hE rfl hl.1 rfl (Nat.le_of_ble_eq_true rfl) ⟨Nat.le_of_ble_eq_true rfl, Nat.le_of_ble_eq_true rfl, rfl, rfl⟩ ⟨Nat.zero_le _, Nat.zero_le _⟩ dX8_deaf_70 ?_
          have hp_9 : a4.toNatClampNeg ^ (mny ((B_X8_knowersOf_6 uP uR uk ur pg a1 a1.toNatClampNeg a2 a3 0 uP)) 6) ≤ 10 ^ 6 := pow_le' _ _ _ _ (by omega) (by omega) (by omega)
          have hp_92 : a4.toNatClampNeg ^ (mny ((B_X8_knowersOf_6 uP uR uk ur pg a1 a1.toNatClampNeg a2 a3 0 uP)) 6) ≤ 1000000 := hp_9
          refine lv_bipush (v := 10) hx hb dX8_deaf_73 (by decide) ?_
          refine lv_iload hx hb dX8_deaf_75 (lv_at hl 0 rfl) ?_
          refine ro_S (y := yX8_power) (As := [.int 10, .int ((B_X8_many_4 ((B_X8_knowersOf_6 uP uR uk ur pg a1 a1.toNatClampNeg a2 a3 0 uP)) 0 6))]) (rest := [.int ((B_X8_power_4 a4 1 (mny ((B_X8_knowersOf_6 uP uR uk ur pg a1 a1.toNatClampNeg a2 a3 0 uP)) 6)))]) CF (c_X8_power l D cI cZ 10 ((B_X8_many_4 ((B_X8_knowersOf_6 uP uR uk ur pg a1 a1.toNatClampNeg a2 a3 0 uP)) 0 6)) (mny ((B_X8_knowersOf_6 uP uR uk ur pg a1 a1.toNatClampNeg a2 a3 0 uP)) 6) (many_nf ((B_X8_knowersOf_6 uP uR uk ur pg a1 a1.toNatClampNeg a2 a3 0 uP)) 6) (by omega)) lk_X8_162 hE rfl hl.1 rfl (Nat.le_of_ble_eq_true rfl) ⟨Nat.le_of_ble_eq_true rfl, Nat.le_of_ble_eq_true rfl, rfl, rfl⟩ ⟨Nat.zero_le _, Nat.zero_le _⟩ dX8_deaf_77 ?_
          have hp_10 : 10 ^ (mny ((B_X8_knowersOf_6 uP uR uk ur pg a1 a1.toNatClampNeg a2 a3 0 uP)) 6) ≤ 10 ^ 6 := pow_le' _ _ _ _ (by omega) (by omega) (by omega)
          have hp_102 : 10 ^ (mny ((B_X8_knowersOf_6 uP uR uk ur pg a1 a1.toNatClampNeg a2 a3 0 uP)) 6) ≤ 1000000 := hp_10
          have hp_103 : 0 < 10 ^ (mny ((B_X8_knowersOf_6 uP uR uk ur pg a1 a1.toNatClampNeg a2 a3 0 uP)) 6) := Nat.pow_pos (by omega)
          refine lv_iload hx hb dX8_deaf_80 (lv_at hl 6 rfl) ?_
          refine ro_S (y := yX8_fraction) (As := [.int ((B_X8_power_4 a4 1 (mny ((B_X8_knowersOf_6 uP uR uk ur pg a1 a1.toNatClampNeg a2 a3 0 uP)) 6))), .int ((B_X8_power_4 10 1 (mny ((B_X8_knowersOf_6 uP uR uk ur pg a1 a1.toNatClampNeg a2 a3 0 uP)) 6))), .int a5]) (rest := []) CF (c_X8_fraction l D cI cZ ((B_X8_power_4 a4 1 (mny ((B_X8_knowersOf_6 uP uR uk ur pg a1 a1.toNatClampNeg a2 a3 0 uP)) 6))) (a4.toNatClampNeg ^ (mny ((B_X8_knowersOf_6 uP uR uk ur pg a1 a1.toNatClampNeg a2 a3 0 uP)) 6)) ((B_X8_power_4 10 1 (mny ((B_X8_knowersOf_6 uP uR uk ur pg a1 a1.toNatClampNeg a2 a3 0 uP)) 6))) (10 ^ (mny ((B_X8_knowersOf_6 uP uR uk ur pg a1 a1.toNatClampNeg a2 a3 0 uP)) 6)) a5 (pow_nf' ni_7n.1 (mny ((B_X8_knowersOf_6 uP uR uk ur pg a1 a1.toNatClampNeg a2 a3 0 uP)) 6)) (pow_nf' (nf_c 10) (mny ((B_X8_knowersOf_6 uP uR uk ur pg a1 a1.toNatClampNeg a2 a3 0 uP)) 6)) (by omega) (by omega) (by omega)) lk_X8_186 hE rfl hl.1 rfl (Nat.le_of_ble_eq_true rfl) ⟨Nat.le_of_ble_eq_true rfl, Nat.le_of_ble_eq_true rfl, rfl, rfl⟩ ⟨Nat.zero_le _, Nat.zero_le _⟩ dX8_deaf_82 ?_
          have e_0 : (f_X8_deaf_th uP a1 a2 a3 a4) = 0 := by rw [f_X8_deaf_th, if_pos c_1, if_pos c_3, if_neg c_4, if_neg c_6]
          exact mu_reti CF hQ hr hlk rfl hP hS dX8_deaf_85 (by rw [f_X8_deaf, if_pos c_1, if_pos c_3, if_neg c_4, if_neg c_6]) (by rw [e_0])
        · refine lv_bipush (v := (-2)) hx hb dX8_deaf_47 (by decide) ?_
          have e_0 : (f_X8_deaf_th uP a1 a2 a3 a4) = 0 := by rw [f_X8_deaf_th, if_pos c_1, if_pos c_3, if_neg c_4, if_pos c_6]
          exact mu_reti CF hQ hr hlk rfl hP hS dX8_deaf_49 (by rw [f_X8_deaf, if_pos c_1, if_pos c_3, if_neg c_4, if_pos c_6]) (by rw [e_0])
    · refine lv_iconst (v := (-1)) hx hb dX8_deaf_20 (by decide) ?_
      have e_0 : (f_X8_deaf_th uP a1 a2 a3 a4) = 0 := by rw [f_X8_deaf_th, if_pos c_1, if_neg c_3]
      exact mu_reti CF hQ hr hlk rfl hP hS dX8_deaf_21 (by rw [f_X8_deaf, if_pos c_1, if_neg c_3]) (by rw [e_0])
