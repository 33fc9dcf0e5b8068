theorem mny_sh0 : ∀ uP, uP < 6 → ∀ p, p < uP → ∀ k, k < 2 ^ uP → f_X8_has (nI k) (nI p) = 0 → mny (nI k) 6 + 1 ≤ uP := by decide +kernel
theorem mny_sh {uP k : Nat} {a1 : Int32} (h5 : uP ≤ 5) (ha : a1 = nI a1.toNatClampNeg) (hl : a1.toNatClampNeg < uP) (hk : k < 2 ^ uP) (hc : f_X8_has (nI k) a1 = 0) : mny (nI k) 6 + 1 ≤ uP := by
  rw [ha] at hc
  exact mny_sh0 uP (by omega) _ hl k hk hc
theorem or_idx0 : ∀ k, k < 32 → ∀ t, t < 5 → (nI k ||| ((1 : Int32) <<< (nI t &&& 31))) = nI (k ||| 2 ^ t) ∧ (k ||| 2 ^ t) < 32 := by decide +kernel
theorem or_idx {uP k : Nat} {a1 : Int32} (h5 : uP ≤ 5) (ha : a1 = nI a1.toNatClampNeg) (hl : a1.toNatClampNeg < uP) (hk : k < 2 ^ uP) : (nI k ||| ((1 : Int32) <<< (a1 &&& 31))) = nI (k ||| 2 ^ a1.toNatClampNeg) ∧ (k ||| 2 ^ a1.toNatClampNeg) < 32 := by
  have h2 := pow_le5 h5
  have := or_idx0 k (by omega) a1.toNatClampNeg (by omega)
  rw [← ha] at this
  exact this
theorem ways_nat0 : ∀ n, n < 6 → B_X8_ways_4 1 (n - 1) = nI (fct n) := by decide +kernel
theorem ways_nat (n : Nat) (h : n ≤ 5) : B_X8_ways_4 1 (n - 1) = nI (fct n) := ways_nat0 n (by omega)
theorem fct_pos0 : ∀ n, n < 6 → 0 < fct n := by decide +kernel
theorem lk_X8_183 : mLkS RX8 183 yX8_ways cX8_ways 3 (some .int) 1 := ⟨⟨tw_4_141, tw_1_10, tw_4_143, ⟨by decide +kernel, by decide +kernel, by decide +kernel⟩⟩, tw_4_142⟩
def S_X8_share_33 (pg : Nat → Int32) (k17 : Nat) (k33 : Nat) (x33_0 : Int32) : (Int32) :=
  (if (f_X8_has (nI k17) (nI k33)) = 0 then (x33_0 ||| 0) else (x33_0 ||| (pg (0 + k33))))
def B_X8_share_33 (pg : Nat → Int32) (k17 : Nat) (i0 : Int32) : Nat → (Int32)
  | 0 => i0
  | k + 1 => S_X8_share_33 pg k17 k (B_X8_share_33 pg k17 i0 k)
def S_X8_share_17 (uP : Nat) (uR : Nat) (ur : Nat → Int32) (pg : Nat → Int32) (k17 : Nat) (x17_0 : Nat → Int32) : (Nat → Int32) :=
  (upd x17_0 k17 ((B_X8_many_4 ((B_X8_closed_4 uR ur ((B_X8_share_33 pg k17 0 uP)) 4)) 0 6)))
def B_X8_share_17 (uP : Nat) (uR : Nat) (ur : Nat → Int32) (pg : Nat → Int32) (i0 : Nat → Int32) : Nat → (Nat → Int32)
  | 0 => i0
  | k + 1 => S_X8_share_17 uP uR ur pg k (B_X8_share_17 uP uR ur pg i0 k)
def S_X8_share_101 (uP : Nat) (uR : Nat) (ur : Nat → Int32) (pg : Nat → Int32) (va : Nat → Int32) (a1 : Int32) (k101 : Nat) (x101_0 : Int32) : (Int32) :=
  (if (f_X8_has (nI k101) a1) = 0 then (x101_0 + ((((B_X8_ways_4 1 ((mny (nI k101) 6) - 1))) * ((B_X8_ways_4 1 (((uP - 1) - (mny (nI k101) 6)) - 1)))) * ((((B_X8_share_17 uP uR ur pg va (2 ^ uP))) (k101 ||| 2 ^ a1.toNatClampNeg)) - (((B_X8_share_17 uP uR ur pg va (2 ^ uP))) k101)))) else x101_0)
def B_X8_share_101 (uP : Nat) (uR : Nat) (ur : Nat → Int32) (pg : Nat → Int32) (va : Nat → Int32) (a1 : Int32) (i0 : Int32) : Nat → (Int32)
  | 0 => i0
  | k + 1 => S_X8_share_101 uP uR ur pg va a1 k (B_X8_share_101 uP uR ur pg va a1 i0 k)
def f_X8_share (uP : Nat) (uR : Nat) (ur : Nat → Int32) (pg : Nat → Int32) (va : Nat → Int32) (a1 : Int32) (a2 : Int32) : Int32 :=
  (if (f_X8_noPerson uP a1) = 0 then (f_X8_fraction ((B_X8_share_101 uP uR ur pg va a1 0 (2 ^ uP))) ((B_X8_ways_4 1 (uP - 1))) (fct uP) a2) else (-1))
def f_X8_share_th (uP : Nat) (a1 : Int32) : Int32 :=
  (if (f_X8_noPerson uP a1) = 0 then 0 else 0)
def f_X8_share_va (uP : Nat) (uR : Nat) (ur : Nat → Int32) (pg : Nat → Int32) (va : Nat → Int32) (a1 : Int32) : Nat → Int32 :=
  (if (f_X8_noPerson uP a1) = 0 then ((B_X8_share_17 uP uR ur pg va (2 ^ uP))) else va)
set_option maxRecDepth 100000 in
set_option maxHeartbeats 4000000 in
theorem c_X8_share (l : Launch) (D : va_G) (cI cZ : ClassId) (q0 y1 y2 y3 y4 y5 y6 y7 y8 y9 y10 y11 y12 y13 y14 : Nat) (th : Int32) (uT : Nat) (up : Nat) (uP : Nat) (uR : Nat) (vP : Nat) (vR : Nat) (ua : Nat) (us : Nat) (sd : Int64) (z1 : Int32) (z2 : Int32) (z3 : Int32) (z4 : Int32) (z5 : Int32) (z6 : Int32) (z7 : Int32) (ur : Nat → Int32) (pg : Nat → Int32) (va : Nat → Int32) (a1 : Int32) (a2 : Int32) (hu5 : uP ≤ 5) (hur : uR ≤ 4) (hG : f_X8_noPerson uP a1 = 0 → (((B_X8_share_101 uP uR ur pg va a1 0 (2 ^ uP))) = nI ((B_X8_share_101 uP uR ur pg va a1 0 (2 ^ uP))).toNatClampNeg ∧ ((B_X8_share_101 uP uR ur pg va a1 0 (2 ^ uP))).toNatClampNeg < 2 ^ 31)) : MU l D cI cZ yX8_share cX8_share 6 (some .int) (mR 2 47) [.ref q0, .int a1, .int a2] [(q0, .inr (8, [.int th, .ref y1, .int (nI uT), .int (nI up), .int (nI uP), .ref y2, .int (nI uR), .ref y3, .int (nI vP), .ref y4, .ref y5, .int (nI vR), .ref y6, .ref y7, .ref y8, .ref y9, .int (nI ua), .ref y10, .ref y11, .int (nI us), .ref y12, .ref y13, .long sd, .int z1, .int z2, .int z3, .int z4, .int z5, .int z6, .int z7, .ref y14])), (y3, .inl (cI, 12, .inl ur)), (y7, .inl (cI, 15, .inl pg)), (y14, .inl (cI, 32, .inl va))] [(q0, .inr (8, [.int (f_X8_share_th uP a1), .ref y1, .int (nI uT), .int (nI up), .int (nI uP), .ref y2, .int (nI uR), .ref y3, .int (nI vP), .ref y4, .ref y5, .int (nI vR), .ref y6, .ref y7, .ref y8, .ref y9, .int (nI ua), .ref y10, .ref y11, .int (nI us), .ref y12, .ref y13, .long sd, .int z1, .int z2, .int z3, .int z4, .int z5, .int z6, .int z7, .ref y14])), (y3, .inl (cI, 12, .inl ur)), (y7, .inl (cI, 15, .inl pg)), (y14, .inl (cI, 32, .inl (f_X8_share_va uP uR ur pg va a1)))] (some (.int (f_X8_share uP uR ur pg va a1 a2))) := by
  refine MU.of (by decide +kernel) (Nat.le_of_ble_eq_true rfl) ?_
  intro p e s m args below meth c ls Q A CF hr hlk hP hE hD hS hQ hl
  have hx := CF.1
  have hb := CF.2.1
  have hl : lv_has ls 6 [(0, .ref q0), (1, .int a1), (2, .int a2)] := hl
  refine lv_aload_n hx hb dX8_share_0 rfl (lv_at hl 0 rfl) ?_
  refine lv_iconst (v := 0) hx hb dX8_share_1 (by decide) ?_
  refine r_put (C := RX8) (T := TX8) (N := 31) (ws' := [(q0, .inr (8, [.int 0, .ref y1, .int (nI uT), .int (nI up), .int (nI uP), .ref y2, .int (nI uR), .ref y3, .int (nI vP), .ref y4, .ref y5, .int (nI vR), .ref y6, .ref y7, .ref y8, .ref y9, .int (nI ua), .ref y10, .ref y11, .int (nI us), .ref y12, .ref y13, .long sd, .int z1, .int z2, .int z3, .int z4, .int z5, .int z6, .int z7, .ref y14])), (y3, .inl (cI, 12, .inl ur)), (y7, .inl (cI, 15, .inl pg)), (y14, .inl (cI, 32, .inl va))]) CF hE hP hD hS 0 rfl rfl inG8 tyX8 tyX8_ok nmX8 0 (by decide) tw_3_115 rfl rfl rfl rfl (Nat.le_of_ble_eq_true rfl) dX8_share_2 rfl (fun H locs hP hD hS => ?_)
  refine lv_aload_n hx hb dX8_share_5 rfl (lv_at hl 0 rfl) ?_
  refine lv_iload_n hx hb dX8_share_6 rfl (lv_at hl 1 rfl) ?_
  refine ro_V (y := yX8_noPerson) (As := [.int a1]) (rest := []) (q0 := 0) CF (c_X8_noPerson l D cI cZ q0 y1 y2 y3 y4 y5 y6 y7 y8 y9 y10 y11 y12 y13 y14 0 uT up uP uR vP vR ua us sd z1 z2 z3 z4 z5 z6 z7 a1) lk_X8_127 hP hE [0] rfl rfl rfl rfl hl.1 rfl (Nat.le_of_ble_eq_true rfl) ⟨Nat.le_of_ble_eq_true rfl, Nat.le_of_ble_eq_true rfl, rfl, rfl⟩ ⟨Nat.zero_le _, Nat.zero_le _⟩ dX8_share_7 ?_
  refine lv_if_eq (tgt := 15) hx hb dX8_share_10 (by decide) (fun c_1 => ?_) (fun c_1 => ?_)
  · have np_2 := noPerson_tn (a1 := a1) hu5 c_1
    have np_2l := np_2.2
    have h2P : 2 ^ uP ≤ 32 := pow_le5 hu5
    have hnp := noPerson_tn (a1 := a1) hu5 (by assumption)
    have hnp1 := hnp.1
    have hnp2 := hnp.2
    have hP1 : 1 ≤ uP := by omega
    refine lv_iconst (v := 0) hx hb dX8_share_15 (by decide) ?_
    refine lv_istore_n (lv' := [(3, .int 0), (0, .ref q0), (1, .int a1), (2, .int a2)]) hx hb dX8_share_16 rfl hl (by decide) rfl (fun ls hl => ?_)
    have LOOP_17 : ∀ (n_17 k17 : Nat) (x17_0 : Nat → Int32) (H : Heap) (locs : List Loc) (ls : Array Slot), k17 ≤ 2 ^ uP → 2 ^ uP - k17 < n_17 → (B_X8_share_17 uP uR ur pg va k17) = x17_0 → va_P D vwCl [(q0, .inr (8, [.int 0, .ref y1, .int (nI uT), .int (nI up), .int (nI uP), .ref y2, .int (nI uR), .ref y3, .int (nI vP), .ref y4, .ref y5, .int (nI vR), .ref y6, .ref y7, .ref y8, .ref y9, .int (nI ua), .ref y10, .ref y11, .int (nI us), .ref y12, .ref y13, .long sd, .int z1, .int z2, .int z3, .int z4, .int z5, .int z6, .int z7, .ref y14])), (y3, .inl (cI, 12, .inl ur)), (y7, .inl (cI, 15, .inl pg)), (y14, .inl (cI, 32, .inl x17_0))] H → va_D A [(q0, .inr (8, [.int 0, .ref y1, .int (nI uT), .int (nI up), .int (nI uP), .ref y2, .int (nI uR), .ref y3, .int (nI vP), .ref y4, .ref y5, .int (nI vR), .ref y6, .ref y7, .ref y8, .ref y9, .int (nI ua), .ref y10, .ref y11, .int (nI us), .ref y12, .ref y13, .long sd, .int z1, .int z2, .int z3, .int z4, .int z5, .int z6, .int z7, .ref y14])), (y3, .inl (cI, 12, .inl ur)), (y7, .inl (cI, 15, .inl pg)), (y14, .inl (cI, 32, .inl x17_0))] → va_S A s.heap H locs → lv_has ls 6 [(3, .int (nI k17)), (0, .ref q0), (1, .int a1), (2, .int a2)] → W p l e (mR 2 47) s m args below meth c H locs 0 0 Q (F0 m 17 ls []) := by
      intro n_17
      induction n_17 with
      | zero => intro k17 x17_0 H locs ls hk_17 hn_17 hB_17 hP hD hS hl; exact absurd hn_17 (Nat.not_lt_zero _)
      | succ n_17 ih_17 =>
        intro k17 x17_0 H locs ls hk_17 hn_17 hB_17 hP hD hS hl
        refine lv_iload_n hx hb dX8_share_17 rfl (lv_at hl 0 rfl) ?_
        refine lv_iconst (v := 1) hx hb dX8_share_18 (by decide) ?_
        refine lv_aload_n hx hb dX8_share_19 rfl (lv_at hl 1 rfl) ?_
        refine r_get (C := RX8) (T := TX8) (N := 31) (v := .int (nI uP)) CF hE hP 0 rfl rfl inG8 4 (by decide) tw_3_119 rfl rfl dX8_share_20 ?_
        refine lv_ishl hx hb dX8_share_23 ?_
        refine lv_icmp_ge (tgt := 96) hx hb dX8_share_24 (by decide) (fun c_3 => ?_) (fun c_3 => ?_)
        · have o_3 : (2 ^ uP) ≤ k17 := (cle (nf_shl (rfl : nI uP = nI uP) (by omega)) (rfl : nI k17 = nI k17) (by omega) (by omega)).mp c_3
          have hkN : (2 ^ uP) = k17 := by omega
          subst hkN
          subst hB_17
          refine lv_iconst (v := 0) hx hb dX8_share_96 (by decide) ?_
          refine lv_istore_n (lv' := [(3, .int 0), (0, .ref q0), (1, .int a1), (2, .int a2)]) hx hb dX8_share_97 rfl hl (by decide) rfl (fun ls hl => ?_)
          refine lv_iconst (v := 0) hx hb dX8_share_98 (by decide) ?_
          refine lv_istore (lv' := [(4, .int 0), (3, .int 0), (0, .ref q0), (1, .int a1), (2, .int a2)]) hx hb dX8_share_99 hl (by decide) rfl (fun ls hl => ?_)
          have LOOP_101 : ∀ (n_101 k101 : Nat) (x101_0 : Int32) (H : Heap) (locs : List Loc) (ls : Array Slot), k101 ≤ 2 ^ uP → 2 ^ uP - k101 < n_101 → (B_X8_share_101 uP uR ur pg va a1 0 k101) = x101_0 → va_P D vwCl [(q0, .inr (8, [.int 0, .ref y1, .int (nI uT), .int (nI up), .int (nI uP), .ref y2, .int (nI uR), .ref y3, .int (nI vP), .ref y4, .ref y5, .int (nI vR), .ref y6, .ref y7, .ref y8, .ref y9, .int (nI ua), .ref y10, .ref y11, .int (nI us), .ref y12, .ref y13, .long sd, .int z1, .int z2, .int z3, .int z4, .int z5, .int z6, .int z7, .ref y14])), (y3, .inl (cI, 12, .inl ur)), (y7, .inl (cI, 15, .inl pg)), (y14, .inl (cI, 32, .inl ((B_X8_share_17 uP uR ur pg va (2 ^ uP)))))] H → va_D A [(q0, .inr (8, [.int 0, .ref y1, .int (nI uT), .int (nI up), .int (nI uP), .ref y2, .int (nI uR), .ref y3, .int (nI vP), .ref y4, .ref y5, .int (nI vR), .ref y6, .ref y7, .ref y8, .ref y9, .int (nI ua), .ref y10, .ref y11, .int (nI us), .ref y12, .ref y13, .long sd, .int z1, .int z2, .int z3, .int z4, .int z5, .int z6, .int z7, .ref y14])), (y3, .inl (cI, 12, .inl ur)), (y7, .inl (cI, 15, .inl pg)), (y14, .inl (cI, 32, .inl ((B_X8_share_17 uP uR ur pg va (2 ^ uP)))))] → va_S A s.heap H locs → lv_has ls 6 [(4, .int (nI k101)), (3, .int x101_0), (0, .ref q0), (1, .int a1), (2, .int a2)] → W p l e (mR 2 47) s m args below meth c H locs 0 0 Q (F0 m 101 ls []) := by
            intro n_101
            induction n_101 with
            | zero => intro k101 x101_0 H locs ls hk_101 hn_101 hB_101 hP hD hS hl; exact absurd hn_101 (Nat.not_lt_zero _)
            | succ n_101 ih_101 =>
              intro k101 x101_0 H locs ls hk_101 hn_101 hB_101 hP hD hS hl
              refine lv_iload hx hb dX8_share_101 (lv_at hl 0 rfl) ?_
              refine lv_iconst (v := 1) hx hb dX8_share_103 (by decide) ?_
              refine lv_aload_n hx hb dX8_share_104 rfl (lv_at hl 2 rfl) ?_
              refine r_get (C := RX8) (T := TX8) (N := 31) (v := .int (nI uP)) CF hE hP 0 rfl rfl inG8 4 (by decide) tw_3_119 rfl rfl dX8_share_105 ?_
              refine lv_ishl hx hb dX8_share_108 ?_
              refine lv_icmp_ge (tgt := 175) hx hb dX8_share_109 (by decide) (fun c_6 => ?_) (fun c_6 => ?_)
              · have o_6 : (2 ^ uP) ≤ k101 := (cle (nf_shl (rfl : nI uP = nI uP) (by omega)) (rfl : nI k101 = nI k101) (by omega) (by omega)).mp c_6
                have hkN : (2 ^ uP) = k101 := by omega
                subst hkN
                subst hB_101
                have hG := hG (by assumption)
                have hGl := hG.2
                refine lv_iload_n hx hb dX8_share_175 rfl (lv_at hl 1 rfl) ?_
                refine lv_aload_n hx hb dX8_share_176 rfl (lv_at hl 2 rfl) ?_
                refine r_get (C := RX8) (T := TX8) (N := 31) (v := .int (nI uP)) CF hE hP 0 rfl rfl inG8 4 (by decide) tw_3_119 rfl rfl dX8_share_177 ?_
                refine ro_S (y := yX8_ways) (As := [.int (nI uP)]) (rest := [.int ((B_X8_share_101 uP uR ur pg va a1 0 (2 ^ uP)))]) CF (c_X8_ways l D cI cZ (nI uP) uP (rfl : nI uP = nI uP) (by omega)) lk_X8_183 hE rfl hl.1 rfl (Nat.le_of_ble_eq_true rfl) ⟨Nat.le_of_ble_eq_true rfl, Nat.le_of_ble_eq_true rfl, rfl, rfl⟩ ⟨Nat.zero_le _, Nat.zero_le _⟩ dX8_share_180 ?_
                have hfp : 0 < fct uP := fct_pos0 uP (by omega)
                have hfl := fct_le uP hu5
                refine lv_iload_n hx hb dX8_share_183 rfl (lv_at hl 4 rfl) ?_
                refine ro_S (y := yX8_fraction) (As := [.int ((B_X8_share_101 uP uR ur pg va a1 0 (2 ^ uP))), .int ((B_X8_ways_4 1 (uP - 1))), .int a2]) (rest := []) CF (c_X8_fraction l D cI cZ ((B_X8_share_101 uP uR ur pg va a1 0 (2 ^ uP))) (((B_X8_share_101 uP uR ur pg va a1 0 (2 ^ uP))).toNatClampNeg) ((B_X8_ways_4 1 (uP - 1))) (fct uP) a2 hG.1 (ways_nat uP hu5) (by omega) (by omega) (by omega)) lk_X8_186 hE rfl hl.1 rfl (Nat.le_of_ble_eq_true rfl) ⟨Nat.le_of_ble_eq_true rfl, Nat.le_of_ble_eq_true rfl, rfl, rfl⟩ ⟨Nat.zero_le _, Nat.zero_le _⟩ dX8_share_184 ?_
                have e_0 : (f_X8_share_th uP a1) = 0 := by rw [f_X8_share_th, if_pos c_1]
                have e_1 : (f_X8_share_va uP uR ur pg va a1) = ((B_X8_share_17 uP uR ur pg va (2 ^ uP))) := by rw [f_X8_share_va, if_pos c_1]
                exact mu_reti CF hQ hr hlk rfl hP hS dX8_share_187 (by rw [f_X8_share, if_pos c_1]) (by rw [e_0, e_1])
              · have o_6 : ¬ (2 ^ uP) ≤ k101 := fun h => c_6 ((cle (nf_shl (rfl : nI uP = nI uP) (by omega)) (rfl : nI k101 = nI k101) (by omega) (by omega)).mpr h)
                refine lv_iload hx hb dX8_share_112 (lv_at hl 0 rfl) ?_
                refine lv_iload_n hx hb dX8_share_114 rfl (lv_at hl 3 rfl) ?_
                refine ro_S (y := yX8_has) (As := [.int (nI k101), .int a1]) (rest := []) CF (c_X8_has l D cI cZ (nI k101) a1) lk_X8_104 hE rfl hl.1 rfl (Nat.le_of_ble_eq_true rfl) ⟨Nat.le_of_ble_eq_true rfl, Nat.le_of_ble_eq_true rfl, rfl, rfl⟩ ⟨Nat.zero_le _, Nat.zero_le _⟩ dX8_share_115 ?_
                refine lv_if_ne (tgt := 169) hx hb dX8_share_118 (by decide) (fun c_7 => ?_) (fun c_7 => ?_)
                · refine lv_iinc (v := (nI (k101 + 1))) (lv' := [(4, .int (nI (k101 + 1))), (3, .int x101_0), (0, .ref q0), (1, .int a1), (2, .int a2)]) hx hb dX8_share_169 hl (k := 0) rfl (nf_inc 1 (rfl : nI k101 = nI k101)) (by decide) rfl (fun ls hl => ?_)
                  refine lv_goto (tgt := 101) hx hb dX8_share_172 (by decide) ?_
                  have hB2 : B_X8_share_101 uP uR ur pg va a1 0 (k101 + 1) = x101_0 := by
                    rw [B_X8_share_101, hB_101]
                    rw [S_X8_share_101, if_neg c_7]
                  exact ih_101 (k101 + 1) x101_0 _ _ _ (by omega) (by omega) hB2 hP hD hS (lv_sub hl [0, 1, 2, 3, 4] rfl)
                · refine lv_iload hx hb dX8_share_121 (lv_at hl 0 rfl) ?_
                  refine ro_S (y := yX8_many) (As := [.int (nI k101)]) (rest := []) CF (c_X8_many l D cI cZ (nI k101)) lk_X8_145 hE rfl hl.1 rfl (Nat.le_of_ble_eq_true rfl) ⟨Nat.le_of_ble_eq_true rfl, Nat.le_of_ble_eq_true rfl, rfl, rfl⟩ ⟨Nat.zero_le _, Nat.zero_le _⟩ dX8_share_123 ?_
                  have hms := mny_sh (k := k101) hu5 hnp1 hnp2 (by omega) (by assumption)
                  refine lv_istore (lv' := [(5, .int ((B_X8_many_4 (nI k101) 0 6))), (4, .int (nI k101)), (3, .int x101_0), (0, .ref q0), (1, .int a1), (2, .int a2)]) hx hb dX8_share_126 hl (by decide) rfl (fun ls hl => ?_)
                  refine lv_iload_n hx hb dX8_share_128 rfl (lv_at hl 2 rfl) ?_
                  refine lv_iload hx hb dX8_share_129 (lv_at hl 0 rfl) ?_
                  refine ro_S (y := yX8_ways) (As := [.int ((B_X8_many_4 (nI k101) 0 6))]) (rest := [.int x101_0]) CF (c_X8_ways l D cI cZ ((B_X8_many_4 (nI k101) 0 6)) (mny (nI k101) 6) (many_nf (nI k101) 6) (by omega)) lk_X8_183 hE rfl hl.1 rfl (Nat.le_of_ble_eq_true rfl) ⟨Nat.le_of_ble_eq_true rfl, Nat.le_of_ble_eq_true rfl, rfl, rfl⟩ ⟨Nat.zero_le _, Nat.zero_le _⟩ dX8_share_131 ?_
                  refine lv_aload_n hx hb dX8_share_134 rfl (lv_at hl 3 rfl) ?_
                  refine r_get (C := RX8) (T := TX8) (N := 31) (v := .int (nI uP)) CF hE hP 0 rfl rfl inG8 4 (by decide) tw_3_119 rfl rfl dX8_share_135 ?_
                  refine lv_iconst (v := 1) hx hb dX8_share_138 (by decide) ?_
                  refine lv_isub hx hb dX8_share_139 ?_
                  refine lv_iload hx hb dX8_share_140 (lv_at hl 0 rfl) ?_
                  refine lv_isub hx hb dX8_share_142 ?_
                  refine ro_S (y := yX8_ways) (As := [.int (((nI uP) - 1) - ((B_X8_many_4 (nI k101) 0 6)))]) (rest := [.int ((B_X8_ways_4 1 ((mny (nI k101) 6) - 1))), .int x101_0]) CF (c_X8_ways l D cI cZ (((nI uP) - 1) - ((B_X8_many_4 (nI k101) 0 6))) ((uP - 1) - (mny (nI k101) 6)) (nf_sub (nf_sub (rfl : nI uP = nI uP) (nf_c 1) (by omega)) (many_nf (nI k101) 6) (by omega)) (by omega)) lk_X8_183 hE rfl hl.1 rfl (Nat.le_of_ble_eq_true rfl) ⟨Nat.le_of_ble_eq_true rfl, Nat.le_of_ble_eq_true rfl, rfl, rfl⟩ ⟨Nat.zero_le _, Nat.zero_le _⟩ dX8_share_143 ?_
                  refine lv_imul hx hb dX8_share_146 ?_
                  refine lv_aload_n hx hb dX8_share_147 rfl (lv_at hl 3 rfl) ?_
                  refine r_get (C := RX8) (T := TX8) (N := 31) (v := .ref y14) CF hE hP 0 rfl rfl inG8 30 (by decide) tw_3_145 rfl rfl dX8_share_148 ?_
                  refine lv_iload hx hb dX8_share_151 (lv_at hl 1 rfl) ?_
                  refine lv_iconst (v := 1) hx hb dX8_share_153 (by decide) ?_
                  refine lv_iload_n hx hb dX8_share_154 rfl (lv_at hl 4 rfl) ?_
                  refine lv_ishl hx hb dX8_share_155 ?_
                  refine lv_ior hx hb dX8_share_156 ?_
                  have hoi := or_idx (k := k101) hu5 hnp1 hnp2 (by omega)
                  have hoi2 := hoi.2
                  refine r_iald (k := 32) (f := ((B_X8_share_17 uP uR ur pg va (2 ^ uP)))) CF hE hP 3 rfl (k101 ||| 2 ^ a1.toNatClampNeg) hoi.1 (by omega) (by decide) dX8_share_157 ?_
                  refine lv_aload_n hx hb dX8_share_158 rfl (lv_at hl 3 rfl) ?_
                  refine r_get (C := RX8) (T := TX8) (N := 31) (v := .ref y14) CF hE hP 0 rfl rfl inG8 30 (by decide) tw_3_145 rfl rfl dX8_share_159 ?_
                  refine lv_iload hx hb dX8_share_162 (lv_at hl 1 rfl) ?_
                  refine r_iald (k := 32) (f := ((B_X8_share_17 uP uR ur pg va (2 ^ uP)))) CF hE hP 3 rfl k101 (rfl : nI k101 = nI k101) (by omega) (by decide) dX8_share_164 ?_
                  refine lv_isub hx hb dX8_share_165 ?_
                  refine lv_imul hx hb dX8_share_166 ?_
                  refine lv_iadd hx hb dX8_share_167 ?_
                  refine lv_istore_n (lv' := [(3, .int (x101_0 + ((((B_X8_ways_4 1 ((mny (nI k101) 6) - 1))) * ((B_X8_ways_4 1 (((uP - 1) - (mny (nI k101) 6)) - 1)))) * ((((B_X8_share_17 uP uR ur pg va (2 ^ uP))) (k101 ||| 2 ^ a1.toNatClampNeg)) - (((B_X8_share_17 uP uR ur pg va (2 ^ uP))) k101))))), (5, .int ((B_X8_many_4 (nI k101) 0 6))), (4, .int (nI k101)), (0, .ref q0), (1, .int a1), (2, .int a2)]) hx hb dX8_share_168 rfl hl (by decide) rfl (fun ls hl => ?_)
                  refine lv_iinc (v := (nI (k101 + 1))) (lv' := [(4, .int (nI (k101 + 1))), (3, .int (x101_0 + ((((B_X8_ways_4 1 ((mny (nI k101) 6) - 1))) * ((B_X8_ways_4 1 (((uP - 1) - (mny (nI k101) 6)) - 1)))) * ((((B_X8_share_17 uP uR ur pg va (2 ^ uP))) (k101 ||| 2 ^ a1.toNatClampNeg)) - (((B_X8_share_17 uP uR ur pg va (2 ^ uP))) k101))))), (5, .int ((B_X8_many_4 (nI k101) 0 6))), (0, .ref q0), (1, .int a1), (2, .int a2)]) hx hb dX8_share_169 hl (k := 2) rfl (nf_inc 1 (rfl : nI k101 = nI k101)) (by decide) rfl (fun ls hl => ?_)
                  refine lv_goto (tgt := 101) hx hb dX8_share_172 (by decide) ?_
                  have hB2 : B_X8_share_101 uP uR ur pg va a1 0 (k101 + 1) = (x101_0 + ((((B_X8_ways_4 1 ((mny (nI k101) 6) - 1))) * ((B_X8_ways_4 1 (((uP - 1) - (mny (nI k101) 6)) - 1)))) * ((((B_X8_share_17 uP uR ur pg va (2 ^ uP))) (k101 ||| 2 ^ a1.toNatClampNeg)) - (((B_X8_share_17 uP uR ur pg va (2 ^ uP))) k101)))) := by
                    rw [B_X8_share_101, hB_101]
                    rw [S_X8_share_101, if_pos c_7]
                  exact ih_101 (k101 + 1) (x101_0 + ((((B_X8_ways_4 1 ((mny (nI k101) 6) - 1))) * ((B_X8_ways_4 1 (((uP - 1) - (mny (nI k101) 6)) - 1)))) * ((((B_X8_share_17 uP uR ur pg va (2 ^ uP))) (k101 ||| 2 ^ a1.toNatClampNeg)) - (((B_X8_share_17 uP uR ur pg va (2 ^ uP))) k101)))) _ _ _ (by omega) (by omega) hB2 hP hD hS (lv_sub hl [0, 1, 3, 4, 5] rfl)
          have e_k : 0 = nI (0) := (nf_c 0).trans (congrArg nI (by omega))
          rw [e_k] at hl
          exact LOOP_101 ((2 ^ uP) - 0 + 1) 0 0 _ _ _ (Nat.zero_le _) (by omega) rfl hP hD hS (lv_sub hl [0, 1, 2, 3, 4] rfl)
        · have o_3 : ¬ (2 ^ uP) ≤ k17 := fun h => c_3 ((cle (nf_shl (rfl : nI uP = nI uP) (by omega)) (rfl : nI k17 = nI k17) (by omega) (by omega)).mpr h)
          refine lv_iconst (v := 0) hx hb dX8_share_27 (by decide) ?_
          refine lv_istore (lv' := [(4, .int 0), (3, .int (nI k17)), (0, .ref q0), (1, .int a1), (2, .int a2)]) hx hb dX8_share_28 hl (by decide) rfl (fun ls hl => ?_)
          refine lv_iconst (v := 0) hx hb dX8_share_30 (by decide) ?_
          refine lv_istore (lv' := [(5, .int 0), (4, .int 0), (3, .int (nI k17)), (0, .ref q0), (1, .int a1), (2, .int a2)]) hx hb dX8_share_31 hl (by decide) rfl (fun ls hl => ?_)
          have LOOP_33 : ∀ (n_33 k33 : Nat) (x33_0 : Int32) (H : Heap) (locs : List Loc) (ls : Array Slot), k33 ≤ uP → uP - k33 < n_33 → (B_X8_share_33 pg k17 0 k33) = x33_0 → va_P D vwCl [(q0, .inr (8, [.int 0, .ref y1, .int (nI uT), .int (nI up), .int (nI uP), .ref y2, .int (nI uR), .ref y3, .int (nI vP), .ref y4, .ref y5, .int (nI vR), .ref y6, .ref y7, .ref y8, .ref y9, .int (nI ua), .ref y10, .ref y11, .int (nI us), .ref y12, .ref y13, .long sd, .int z1, .int z2, .int z3, .int z4, .int z5, .int z6, .int z7, .ref y14])), (y3, .inl (cI, 12, .inl ur)), (y7, .inl (cI, 15, .inl pg)), (y14, .inl (cI, 32, .inl x17_0))] H → va_D A [(q0, .inr (8, [.int 0, .ref y1, .int (nI uT), .int (nI up), .int (nI uP), .ref y2, .int (nI uR), .ref y3, .int (nI vP), .ref y4, .ref y5, .int (nI vR), .ref y6, .ref y7, .ref y8, .ref y9, .int (nI ua), .ref y10, .ref y11, .int (nI us), .ref y12, .ref y13, .long sd, .int z1, .int z2, .int z3, .int z4, .int z5, .int z6, .int z7, .ref y14])), (y3, .inl (cI, 12, .inl ur)), (y7, .inl (cI, 15, .inl pg)), (y14, .inl (cI, 32, .inl x17_0))] → va_S A s.heap H locs → lv_has ls 6 [(5, .int (nI k33)), (4, .int x33_0), (3, .int (nI k17)), (0, .ref q0), (1, .int a1), (2, .int a2)] → W p l e (mR 2 47) s m args below meth c H locs 0 0 Q (F0 m 33 ls []) := by
            intro n_33
            induction n_33 with
            | zero => intro k33 x33_0 H locs ls hk_33 hn_33 hB_33 hP hD hS hl; exact absurd hn_33 (Nat.not_lt_zero _)
            | succ n_33 ih_33 =>
              intro k33 x33_0 H locs ls hk_33 hn_33 hB_33 hP hD hS hl
              refine lv_iload hx hb dX8_share_33 (lv_at hl 0 rfl) ?_
              refine lv_aload_n hx hb dX8_share_35 rfl (lv_at hl 3 rfl) ?_
              refine r_get (C := RX8) (T := TX8) (N := 31) (v := .int (nI uP)) CF hE hP 0 rfl rfl inG8 4 (by decide) tw_3_119 rfl rfl dX8_share_36 ?_
              refine lv_icmp_ge (tgt := 75) hx hb dX8_share_39 (by decide) (fun c_4 => ?_) (fun c_4 => ?_)
              · have o_4 : uP ≤ k33 := (cle (rfl : nI uP = nI uP) (rfl : nI k33 = nI k33) (by omega) (by omega)).mp c_4
                have hkN : uP = k33 := by omega
                subst hkN
                subst hB_33
                refine lv_aload_n hx hb dX8_share_75 rfl (lv_at hl 3 rfl) ?_
                refine r_get (C := RX8) (T := TX8) (N := 31) (v := .ref y14) CF hE hP 0 rfl rfl inG8 30 (by decide) tw_3_145 rfl rfl dX8_share_76 ?_
                refine lv_iload_n hx hb dX8_share_79 rfl (lv_at hl 2 rfl) ?_
                refine lv_aload_n hx hb dX8_share_80 rfl (lv_at hl 3 rfl) ?_
                refine lv_iload hx hb dX8_share_81 (lv_at hl 1 rfl) ?_
                refine ro_V (y := yX8_closed) (As := [.int ((B_X8_share_33 pg k17 0 uP))]) (rest := [.int (nI k17), .ref y14]) (q0 := 0) CF (c_X8_closed l D cI cZ q0 y1 y2 y3 y4 y5 y6 y7 y8 y9 y10 y11 y12 y13 y14 0 uT up uP uR vP vR ua us sd z1 z2 z3 z4 z5 z6 z7 ur ((B_X8_share_33 pg k17 0 uP)) (by omega)) lk_X8_116 hP hE [0, 1] rfl rfl rfl rfl hl.1 rfl (Nat.le_of_ble_eq_true rfl) ⟨Nat.le_of_ble_eq_true rfl, Nat.le_of_ble_eq_true rfl, rfl, rfl⟩ ⟨Nat.zero_le _, Nat.zero_le _⟩ dX8_share_83 ?_
                refine ro_S (y := yX8_many) (As := [.int ((B_X8_closed_4 uR ur ((B_X8_share_33 pg k17 0 uP)) 4))]) (rest := [.int (nI k17), .ref y14]) CF (c_X8_many l D cI cZ ((B_X8_closed_4 uR ur ((B_X8_share_33 pg k17 0 uP)) 4))) lk_X8_145 hE rfl hl.1 rfl (Nat.le_of_ble_eq_true rfl) ⟨Nat.le_of_ble_eq_true rfl, Nat.le_of_ble_eq_true rfl, rfl, rfl⟩ ⟨Nat.zero_le _, Nat.zero_le _⟩ dX8_share_86 ?_
                refine r_iast (k := 32) (f := x17_0) (ws' := [(q0, .inr (8, [.int 0, .ref y1, .int (nI uT), .int (nI up), .int (nI uP), .ref y2, .int (nI uR), .ref y3, .int (nI vP), .ref y4, .ref y5, .int (nI vR), .ref y6, .ref y7, .ref y8, .ref y9, .int (nI ua), .ref y10, .ref y11, .int (nI us), .ref y12, .ref y13, .long sd, .int z1, .int z2, .int z3, .int z4, .int z5, .int z6, .int z7, .ref y14])), (y3, .inl (cI, 12, .inl ur)), (y7, .inl (cI, 15, .inl pg)), (y14, .inl (cI, 32, .inl (upd x17_0 k17 ((B_X8_many_4 ((B_X8_closed_4 uR ur ((B_X8_share_33 pg k17 0 uP)) 4)) 0 6)))))]) CF hE hP hD hS 3 rfl k17 (rfl : nI k17 = nI k17) (by omega) (by decide) dX8_share_89 rfl (fun H locs hP hD hS => ?_)
                refine lv_iinc (v := (nI (k17 + 1))) (lv' := [(3, .int (nI (k17 + 1))), (5, .int (nI uP)), (4, .int ((B_X8_share_33 pg k17 0 uP))), (0, .ref q0), (1, .int a1), (2, .int a2)]) hx hb dX8_share_90 hl (k := 2) rfl (nf_inc 1 (rfl : nI k17 = nI k17)) (by decide) rfl (fun ls hl => ?_)
                refine lv_goto (tgt := 17) hx hb dX8_share_93 (by decide) ?_
                have hB2 : B_X8_share_17 uP uR ur pg va (k17 + 1) = (upd x17_0 k17 ((B_X8_many_4 ((B_X8_closed_4 uR ur ((B_X8_share_33 pg k17 0 uP)) 4)) 0 6))) := by
                  rw [B_X8_share_17, hB_17]
                  rw [S_X8_share_17]
                exact ih_17 (k17 + 1) (upd x17_0 k17 ((B_X8_many_4 ((B_X8_closed_4 uR ur ((B_X8_share_33 pg k17 0 uP)) 4)) 0 6))) _ _ _ (by omega) (by omega) hB2 hP hD hS (lv_sub hl [0, 3, 4, 5] rfl)
              · have o_4 : ¬ uP ≤ k33 := fun h => c_4 ((cle (rfl : nI uP = nI uP) (rfl : nI k33 = nI k33) (by omega) (by omega)).mpr h)
                refine lv_iload hx hb dX8_share_42 (lv_at hl 1 rfl) ?_
                refine lv_iload_n hx hb dX8_share_44 rfl (lv_at hl 2 rfl) ?_
                refine lv_iload hx hb dX8_share_45 (lv_at hl 0 rfl) ?_
                refine ro_S (y := yX8_has) (As := [.int (nI k17), .int (nI k33)]) (rest := [.int x33_0]) CF (c_X8_has l D cI cZ (nI k17) (nI k33)) lk_X8_104 hE rfl hl.1 rfl (Nat.le_of_ble_eq_true rfl) ⟨Nat.le_of_ble_eq_true rfl, Nat.le_of_ble_eq_true rfl, rfl, rfl⟩ ⟨Nat.zero_le _, Nat.zero_le _⟩ dX8_share_47 ?_
                refine lv_if_eq (tgt := 65) hx hb dX8_share_50 (by decide) (fun c_5 => ?_) (fun c_5 => ?_)
                · refine lv_iconst (v := 0) hx hb dX8_share_65 (by decide) ?_
                  refine lv_ior hx hb dX8_share_66 ?_
                  refine lv_istore (lv' := [(4, .int (x33_0 ||| 0)), (5, .int (nI k33)), (3, .int (nI k17)), (0, .ref q0), (1, .int a1), (2, .int a2)]) hx hb dX8_share_67 hl (by decide) rfl (fun ls hl => ?_)
                  refine lv_iinc (v := (nI (k33 + 1))) (lv' := [(5, .int (nI (k33 + 1))), (4, .int (x33_0 ||| 0)), (3, .int (nI k17)), (0, .ref q0), (1, .int a1), (2, .int a2)]) hx hb dX8_share_69 hl (k := 1) rfl (nf_inc 1 (rfl : nI k33 = nI k33)) (by decide) rfl (fun ls hl => ?_)
                  refine lv_goto (tgt := 33) hx hb dX8_share_72 (by decide) ?_
                  have hB2 : B_X8_share_33 pg k17 0 (k33 + 1) = (x33_0 ||| 0) := by
                    rw [B_X8_share_33, hB_33]
                    rw [S_X8_share_33, if_pos c_5]
                  exact ih_33 (k33 + 1) (x33_0 ||| 0) _ _ _ (by omega) (by omega) hB2 hP hD hS (lv_sub hl [0, 1, 2, 3, 4, 5] rfl)
                · refine lv_aload_n hx hb dX8_share_53 rfl (lv_at hl 3 rfl) ?_
                  refine r_get (C := RX8) (T := TX8) (N := 31) (v := .ref y7) CF hE hP 0 rfl rfl inG8 13 (by decide) tw_3_128 rfl rfl dX8_share_54 ?_
                  refine lv_iconst (v := 0) hx hb dX8_share_57 (by decide) ?_
                  refine lv_iload hx hb dX8_share_58 (lv_at hl 0 rfl) ?_
                  refine lv_iadd hx hb dX8_share_60 ?_
                  refine r_iald (k := 15) (f := pg) CF hE hP 2 rfl (0 + k33) (nf_add (nf_c 0) (rfl : nI k33 = nI k33)) (by omega) (by decide) dX8_share_61 ?_
                  refine lv_goto (tgt := 66) hx hb dX8_share_62 (by decide) ?_
                  refine lv_ior hx hb dX8_share_66 ?_
                  refine lv_istore (lv' := [(4, .int (x33_0 ||| (pg (0 + k33)))), (5, .int (nI k33)), (3, .int (nI k17)), (0, .ref q0), (1, .int a1), (2, .int a2)]) hx hb dX8_share_67 hl (by decide) rfl (fun ls hl => ?_)
                  refine lv_iinc (v := (nI (k33 + 1))) (lv' := [(5, .int (nI (k33 + 1))), (4, .int (x33_0 ||| (pg (0 + k33)))), (3, .int (nI k17)), (0, .ref q0), (1, .int a1), (2, .int a2)]) hx hb dX8_share_69 hl (k := 1) rfl (nf_inc 1 (rfl : nI k33 = nI k33)) (by decide) rfl (fun ls hl => ?_)
                  refine lv_goto (tgt := 33) hx hb dX8_share_72 (by decide) ?_
                  have hB2 : B_X8_share_33 pg k17 0 (k33 + 1) = (x33_0 ||| (pg (0 + k33))) := by
                    rw [B_X8_share_33, hB_33]
                    rw [S_X8_share_33, if_neg c_5]
                  exact ih_33 (k33 + 1) (x33_0 ||| (pg (0 + k33))) _ _ _ (by omega) (by omega) hB2 hP hD hS (lv_sub hl [0, 1, 2, 3, 4, 5] rfl)
          have e_k : 0 = nI (0) := (nf_c 0).trans (congrArg nI (by omega))
          rw [e_k] at hl
          exact LOOP_33 (uP - 0 + 1) 0 0 _ _ _ (Nat.zero_le _) (by omega) rfl hP hD hS (lv_sub hl [0, 1, 2, 3, 4, 5] rfl)
    have e_k : 0 = nI (0) := (nf_c 0).trans (congrArg nI (by omega))
    rw [e_k] at hl
    exact LOOP_17 ((2 ^ uP) - 0 + 1) 0 va _ _ _ (Nat.zero_le _) (by omega) rfl hP hD hS (lv_sub hl [0, 1, 2, 3] rfl)
  · refine lv_iconst (v := (-1)) hx hb dX8_share_13 (by decide) ?_
    have e_0 : (f_X8_share_th uP a1) = 0 := by rw [f_X8_share_th, if_neg c_1]
    have e_1 : (f_X8_share_va uP uR ur pg va a1) = va := by rw [f_X8_share_va, if_neg c_1]
    exact mu_reti CF hQ hr hlk rfl hP hS dX8_share_14 (by rw [f_X8_share, if_neg c_1]) (by rw [e_0, e_1])
