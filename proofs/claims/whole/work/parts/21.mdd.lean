theorem rP_up {uT up : Nat} {utx : Nat → Int32} (h : up ≤ uT) : up ≤ f_X8_readPerson_up uT up utx ∧ f_X8_readPerson_up uT up utx ≤ uT := by
  have h1 := sign_le (utx := utx) (a1 := 48) (a2 := 3) h
  have g1 := sign_ge (uT := uT) (up := up) (utx := utx) (a1 := 48) (a2 := 3)
  have h2 := sign_le (utx := utx) (a1 := 97) (a2 := 7) h1
  have g2 := sign_ge (uT := uT) (up := f_X8_sign_up uT up utx 48 3) (utx := utx) (a1 := 97) (a2 := 7)
  have h3 := sign_le (utx := utx) (a1 := 97) (a2 := 7) h2
  have g3 := sign_ge (uT := uT) (up := f_X8_sign_up uT (f_X8_sign_up uT up utx 48 3) utx 97 7) (utx := utx) (a1 := 97) (a2 := 7)
  unfold f_X8_readPerson_up
  repeat' split
  all_goals omega
theorem rP_vP {uT up vP : Nat} {utx : Nat → Int32} : f_X8_readPerson_vP uT up vP utx ≤ vP + 1 := by
  unfold f_X8_readPerson_vP
  repeat' split
  all_goals omega
theorem rO_L {uT vR : Nat} {utx : Nat → Int32} : ∀ (n k up : Nat) (vr : Nat → Int32), k ≤ 3 → 3 - k < n → up ≤ uT → up ≤ (L_X8_readOne_2 uT vR utx n k up vr).2.1 ∧ (L_X8_readOne_2 uT vR utx n k up vr).2.1 ≤ uT ∧ (L_X8_readOne_2 uT vR utx n k up vr).2.2.1 ≤ vR + 1
  | 0, _, _, _, _, h, _ => absurd h (Nat.not_lt_zero _)
  | n + 1, k, up, vr, hk, hn, hu => by
    rw [L_X8_readOne_2, S_X8_readOne_2]
    by_cases h1 : 3 ≤ nI k
    · rw [if_pos h1]
      exact ⟨Nat.le_refl _, hu, Nat.le_refl _⟩
    · rw [if_neg h1]
      have hk2 : ¬ 3 ≤ k := fun z => h1 ((cle (nf_c 3) rfl (by omega) (by omega)).mpr z)
      have h2 := sign_le (utx := utx) (a1 := 48) (a2 := 5) hu
      have g2 := sign_ge (uT := uT) (up := up) (utx := utx) (a1 := 48) (a2 := 5)
      by_cases h3 : f_X8_sign uT up utx 48 5 = -9
      · rw [if_pos h3]
        exact ⟨g2, h2, Nat.le_succ _⟩
      · rw [if_neg h3]
        have := rO_L (vR := vR) (utx := utx) n (k + 1) (f_X8_sign_up uT up utx 48 5) (upd vr ((3 * vR) + k) (f_X8_sign uT up utx 48 5)) (by omega) (by omega) h2
        exact ⟨by omega, this.2.1, this.2.2⟩
theorem rO_up {uT up vR : Nat} {utx vr : Nat → Int32} (h : up ≤ uT) : up ≤ f_X8_readOne_up uT up vR utx vr ∧ f_X8_readOne_up uT up vR utx vr ≤ uT ∧ f_X8_readOne_vR uT up vR utx vr ≤ vR + 1 := by
  unfold f_X8_readOne_up f_X8_readOne_vR
  exact rO_L _ _ _ _ (by omega) (by omega) h
theorem readPart_bd {uT up vP vR : Nat} {utx vr : Nat → Int32} (h : up < uT) (hP : vP ≤ 5) (hR : vR ≤ 4) : f_X8_readPart_vP uT up vP vR utx ≤ 5 ∧ f_X8_readPart_vR uT up vP vR utx vr ≤ 4 := by
  have p := rP_vP (uT := uT) (up := up + 1) (vP := vP) (utx := utx)
  have o := (rO_up (vR := vR) (utx := utx) (vr := vr) (show up + 1 ≤ uT from h)).2.2
  unfold f_X8_readPart_vP f_X8_readPart_vR
  have e1 : ¬ 5 ≤ nI vP → vP < 5 := fun z => Nat.lt_of_not_le (fun w => z ((cle (nf_c 5) rfl (by omega) (by omega)).mpr w))
  have e2 : ¬ 4 ≤ nI vR → vR < 4 := fun z => Nat.lt_of_not_le (fun w => z ((cle (nf_c 4) rfl (by omega) (by omega)).mpr w))
  constructor
  · repeat' split
    all_goals first | omega | (have := e1 (by assumption); omega)
  · repeat' split
    all_goals first | omega | (have := e2 (by assumption); omega)
theorem readPart_ok {uT up vP vR : Nat} {utx vr : Nat → Int32} (h : up < uT) (c : ¬ f_X8_readPart uT up vP vR utx vr = 0) : up < f_X8_readPart_up uT up vP vR utx vr ∧ f_X8_readPart_up uT up vP vR utx vr ≤ uT := by
  have p := rP_up (utx := utx) (show up + 1 ≤ uT from h)
  have o := rO_up (vR := vR) (utx := utx) (vr := vr) (show up + 1 ≤ uT from h)
  unfold f_X8_readPart at c
  unfold f_X8_readPart_up
  by_cases h1 : utx up = 80
  · rw [if_pos h1] at c ⊢
    by_cases h2 : 5 ≤ nI vP
    · rw [if_pos h2] at c ⊢
      by_cases h3 : utx up = 82
      · rw [if_pos h3] at c ⊢
        by_cases h4 : 4 ≤ nI vR
        · rw [if_pos h4] at c; exact absurd rfl c
        · rw [if_neg h4]; omega
      · rw [if_neg h3] at c; exact absurd rfl c
    · rw [if_neg h2]; omega
  · rw [if_neg h1] at c ⊢
    by_cases h3 : utx up = 82
    · rw [if_pos h3] at c ⊢
      by_cases h4 : 4 ≤ nI vR
      · rw [if_pos h4] at c; exact absurd rfl c
      · rw [if_neg h4]; omega
    · rw [if_neg h3] at c; exact absurd rfl c
theorem lk_X8_91 : mLkV RX8 91 yX8_readPart cX8_readPart 2 (some .boolean) 0 := ⟨⟨tw_3_230, tw_1_10, tw_3_233, ⟨by decide +kernel, by decide +kernel, by decide +kernel⟩⟩, tw_3_232, tp_1_15⟩
def S_X8_readTable_40 (uT : Nat) (utx : Nat → Int32) (rec : (Nat) → (Nat) → (Nat) → (Nat → Int32) → (Nat → Int32) → (Nat → Int32) → ((Int32) × (Nat) × (Nat) × (Nat) × (Nat → Int32) × (Nat → Int32) × (Nat → Int32))) (x40_0 : Nat) (x40_1 : Nat) (x40_2 : Nat) (x40_3 : Nat → Int32) (x40_4 : Nat → Int32) (x40_5 : Nat → Int32) : (Int32) × (Nat) × (Nat) × (Nat) × (Nat → Int32) × (Nat → Int32) × (Nat → Int32) :=
  (if (nI uT) ≤ (nI x40_0) then ((-9), x40_0, x40_1, x40_2, x40_3, x40_4, x40_5) else (if (f_X8_readPart uT x40_0 x40_1 x40_2 utx x40_5) = 0 then ((nI (f_X8_readPart_up uT x40_0 x40_1 x40_2 utx x40_5)), (f_X8_readPart_up uT x40_0 x40_1 x40_2 utx x40_5), (f_X8_readPart_vP uT x40_0 x40_1 x40_2 utx), (f_X8_readPart_vR uT x40_0 x40_1 x40_2 utx x40_5), (f_X8_readPart_vk uT x40_0 x40_1 x40_2 utx x40_3), (f_X8_readPart_vt uT x40_0 x40_1 x40_2 utx x40_4), (f_X8_readPart_vr uT x40_0 x40_1 x40_2 utx x40_5)) else (rec (f_X8_readPart_up uT x40_0 x40_1 x40_2 utx x40_5) (f_X8_readPart_vP uT x40_0 x40_1 x40_2 utx) (f_X8_readPart_vR uT x40_0 x40_1 x40_2 utx x40_5) (f_X8_readPart_vk uT x40_0 x40_1 x40_2 utx x40_3) (f_X8_readPart_vt uT x40_0 x40_1 x40_2 utx x40_4) (f_X8_readPart_vr uT x40_0 x40_1 x40_2 utx x40_5))))
def L_X8_readTable_40 (uT : Nat) (utx : Nat → Int32) : Nat → (Nat) → (Nat) → (Nat) → (Nat → Int32) → (Nat → Int32) → (Nat → Int32) → ((Int32) × (Nat) × (Nat) × (Nat) × (Nat → Int32) × (Nat → Int32) × (Nat → Int32))
  | 0, _, _, _, _, _, _ => (0, 0, 0, 0, (fun _ => 0), (fun _ => 0), (fun _ => 0))
  | n + 1, y0, y1, y2, y3, y4, y5 => S_X8_readTable_40 uT utx (L_X8_readTable_40 uT utx n) y0 y1 y2 y3 y4 y5
def f_X8_readTable (uT : Nat) (utx : Nat → Int32) (vk : Nat → Int32) (vt : Nat → Int32) (vr : Nat → Int32) : Int32 :=
  (if (nI uT) = 0 then 0 else (if (utx 0) = 75 then ((L_X8_readTable_40 uT utx (uT + 1) 1 0 0 vk vt vr).1) else 0))
def f_X8_readTable_up (uT : Nat) (utx : Nat → Int32) (vk : Nat → Int32) (vt : Nat → Int32) (vr : Nat → Int32) : Nat :=
  (if (nI uT) = 0 then 0 else (if (utx 0) = 75 then ((L_X8_readTable_40 uT utx (uT + 1) 1 0 0 vk vt vr).2.1) else 0))
def f_X8_readTable_vP (uT : Nat) (utx : Nat → Int32) (vk : Nat → Int32) (vt : Nat → Int32) (vr : Nat → Int32) : Nat :=
  (if (nI uT) = 0 then 0 else (if (utx 0) = 75 then ((L_X8_readTable_40 uT utx (uT + 1) 1 0 0 vk vt vr).2.2.1) else 0))
def f_X8_readTable_vR (uT : Nat) (utx : Nat → Int32) (vk : Nat → Int32) (vt : Nat → Int32) (vr : Nat → Int32) : Nat :=
  (if (nI uT) = 0 then 0 else (if (utx 0) = 75 then ((L_X8_readTable_40 uT utx (uT + 1) 1 0 0 vk vt vr).2.2.2.1) else 0))
def f_X8_readTable_vk (uT : Nat) (utx : Nat → Int32) (vk : Nat → Int32) (vt : Nat → Int32) (vr : Nat → Int32) : Nat → Int32 :=
  (if (nI uT) = 0 then vk else (if (utx 0) = 75 then ((L_X8_readTable_40 uT utx (uT + 1) 1 0 0 vk vt vr).2.2.2.2.1) else vk))
def f_X8_readTable_vt (uT : Nat) (utx : Nat → Int32) (vk : Nat → Int32) (vt : Nat → Int32) (vr : Nat → Int32) : Nat → Int32 :=
  (if (nI uT) = 0 then vt else (if (utx 0) = 75 then ((L_X8_readTable_40 uT utx (uT + 1) 1 0 0 vk vt vr).2.2.2.2.2.1) else vt))
def f_X8_readTable_vr (uT : Nat) (utx : Nat → Int32) (vk : Nat → Int32) (vt : Nat → Int32) (vr : Nat → Int32) : Nat → Int32 :=
  (if (nI uT) = 0 then vr else (if (utx 0) = 75 then ((L_X8_readTable_40 uT utx (uT + 1) 1 0 0 vk vt vr).2.2.2.2.2.2) else vr))
set_option maxRecDepth 100000 in
set_option maxHeartbeats 4000000 in
theorem c_X8_readTable (l : Launch) (D : va_G) (cI cZ : ClassId) (q0 y1 y2 y3 y4 y5 y6 y7 y8 y9 y10 y11 y12 y13 y14 : Nat) (th : Int32) (uT : Nat) (up : Nat) (uP : Nat) (uR : Nat) (vP : Nat) (vR : Nat) (ua : Nat) (us : Nat) (sd : Int64) (z1 : Int32) (z2 : Int32) (z3 : Int32) (z4 : Int32) (z5 : Int32) (z6 : Int32) (z7 : Int32) (utx : Nat → Int32) (vk : Nat → Int32) (vt : Nat → Int32) (vr : Nat → Int32) (hut : uT ≤ 40) : MU l D cI cZ yX8_readTable cX8_readTable 1 (some .int) (mR 4 91) [.ref q0] [(q0, .inr (8, [.int th, .ref y1, .int (nI uT), .int (nI up), .int (nI uP), .ref y2, .int (nI uR), .ref y3, .int (nI vP), .ref y4, .ref y5, .int (nI vR), .ref y6, .ref y7, .ref y8, .ref y9, .int (nI ua), .ref y10, .ref y11, .int (nI us), .ref y12, .ref y13, .long sd, .int z1, .int z2, .int z3, .int z4, .int z5, .int z6, .int z7, .ref y14])), (y1, .inl (cI, 40, .inl utx)), (y4, .inl (cI, 5, .inl vk)), (y5, .inl (cI, 5, .inl vt)), (y6, .inl (cI, 12, .inl vr))] [(q0, .inr (8, [.int th, .ref y1, .int (nI uT), .int (nI (f_X8_readTable_up uT utx vk vt vr)), .int (nI uP), .ref y2, .int (nI uR), .ref y3, .int (nI (f_X8_readTable_vP uT utx vk vt vr)), .ref y4, .ref y5, .int (nI (f_X8_readTable_vR uT utx vk vt vr)), .ref y6, .ref y7, .ref y8, .ref y9, .int (nI ua), .ref y10, .ref y11, .int (nI us), .ref y12, .ref y13, .long sd, .int z1, .int z2, .int z3, .int z4, .int z5, .int z6, .int z7, .ref y14])), (y1, .inl (cI, 40, .inl utx)), (y4, .inl (cI, 5, .inl (f_X8_readTable_vk uT utx vk vt vr))), (y5, .inl (cI, 5, .inl (f_X8_readTable_vt uT utx vk vt vr))), (y6, .inl (cI, 12, .inl (f_X8_readTable_vr uT utx vk vt vr)))] (some (.int (f_X8_readTable uT utx vk vt vr))) := by
  refine MU.of (by decide +kernel) (Nat.le_of_ble_eq_true rfl) ?_
  intro p e s m args below meth c ls Q A CF hr hlk hP hE hD hS hQ hl
  have hx := CF.1
  have hb := CF.2.1
  have hl : lv_has ls 1 [(0, .ref q0)] := hl
  refine lv_aload_n hx hb dX8_readTable_0 rfl (lv_at hl 0 rfl) ?_
  refine lv_iconst (v := 0) hx hb dX8_readTable_1 (by decide) ?_
  refine lv_as (z := (nI 0)) (nf_c 0) ?_
  refine r_put (C := RX8) (T := TX8) (N := 31) (ws' := [(q0, .inr (8, [.int th, .ref y1, .int (nI uT), .int (nI 0), .int (nI uP), .ref y2, .int (nI uR), .ref y3, .int (nI vP), .ref y4, .ref y5, .int (nI vR), .ref y6, .ref y7, .ref y8, .ref y9, .int (nI ua), .ref y10, .ref y11, .int (nI us), .ref y12, .ref y13, .long sd, .int z1, .int z2, .int z3, .int z4, .int z5, .int z6, .int z7, .ref y14])), (y1, .inl (cI, 40, .inl utx)), (y4, .inl (cI, 5, .inl vk)), (y5, .inl (cI, 5, .inl vt)), (y6, .inl (cI, 12, .inl vr))]) CF hE hP hD hS 0 rfl rfl inG8 tyX8 tyX8_ok nmX8 3 (by decide) tw_3_118 rfl rfl rfl rfl (Nat.le_of_ble_eq_true rfl) dX8_readTable_2 rfl (fun H locs hP hD hS => ?_)
  refine lv_aload_n hx hb dX8_readTable_5 rfl (lv_at hl 0 rfl) ?_
  refine lv_iconst (v := 0) hx hb dX8_readTable_6 (by decide) ?_
  refine lv_as (z := (nI 0)) (nf_c 0) ?_
  refine r_put (C := RX8) (T := TX8) (N := 31) (ws' := [(q0, .inr (8, [.int th, .ref y1, .int (nI uT), .int (nI 0), .int (nI uP), .ref y2, .int (nI uR), .ref y3, .int (nI 0), .ref y4, .ref y5, .int (nI vR), .ref y6, .ref y7, .ref y8, .ref y9, .int (nI ua), .ref y10, .ref y11, .int (nI us), .ref y12, .ref y13, .long sd, .int z1, .int z2, .int z3, .int z4, .int z5, .int z6, .int z7, .ref y14])), (y1, .inl (cI, 40, .inl utx)), (y4, .inl (cI, 5, .inl vk)), (y5, .inl (cI, 5, .inl vt)), (y6, .inl (cI, 12, .inl vr))]) CF hE hP hD hS 0 rfl rfl inG8 tyX8 tyX8_ok nmX8 8 (by decide) tw_3_123 rfl rfl rfl rfl (Nat.le_of_ble_eq_true rfl) dX8_readTable_7 rfl (fun H locs hP hD hS => ?_)
  refine lv_aload_n hx hb dX8_readTable_10 rfl (lv_at hl 0 rfl) ?_
  refine lv_iconst (v := 0) hx hb dX8_readTable_11 (by decide) ?_
  refine lv_as (z := (nI 0)) (nf_c 0) ?_
  refine r_put (C := RX8) (T := TX8) (N := 31) (ws' := [(q0, .inr (8, [.int th, .ref y1, .int (nI uT), .int (nI 0), .int (nI uP), .ref y2, .int (nI uR), .ref y3, .int (nI 0), .ref y4, .ref y5, .int (nI 0), .ref y6, .ref y7, .ref y8, .ref y9, .int (nI ua), .ref y10, .ref y11, .int (nI us), .ref y12, .ref y13, .long sd, .int z1, .int z2, .int z3, .int z4, .int z5, .int z6, .int z7, .ref y14])), (y1, .inl (cI, 40, .inl utx)), (y4, .inl (cI, 5, .inl vk)), (y5, .inl (cI, 5, .inl vt)), (y6, .inl (cI, 12, .inl vr))]) CF hE hP hD hS 0 rfl rfl inG8 tyX8 tyX8_ok nmX8 11 (by decide) tw_3_126 rfl rfl rfl rfl (Nat.le_of_ble_eq_true rfl) dX8_readTable_12 rfl (fun H locs hP hD hS => ?_)
  refine lv_aload_n hx hb dX8_readTable_15 rfl (lv_at hl 0 rfl) ?_
  refine r_get (C := RX8) (T := TX8) (N := 31) (v := .int (nI uT)) CF hE hP 0 rfl rfl inG8 2 (by decide) tw_3_117 rfl rfl dX8_readTable_16 ?_
  refine lv_if_eq (tgt := 33) hx hb dX8_readTable_19 (by decide) (fun c_1 => ?_) (fun c_1 => ?_)
  · have o_1 : uT = 0 := (ceq (rfl : nI uT = nI uT) (nf_c 0) (by omega) (by omega)).mp c_1
    refine lv_iconst (v := 0) hx hb dX8_readTable_33 (by decide) ?_
    have e_0 : (f_X8_readTable_up uT utx vk vt vr) = 0 := by rw [f_X8_readTable_up, if_pos c_1]
    have e_1 : (f_X8_readTable_vP uT utx vk vt vr) = 0 := by rw [f_X8_readTable_vP, if_pos c_1]
    have e_2 : (f_X8_readTable_vR uT utx vk vt vr) = 0 := by rw [f_X8_readTable_vR, if_pos c_1]
    have e_3 : (f_X8_readTable_vk uT utx vk vt vr) = vk := by rw [f_X8_readTable_vk, if_pos c_1]
    have e_4 : (f_X8_readTable_vt uT utx vk vt vr) = vt := by rw [f_X8_readTable_vt, if_pos c_1]
    have e_5 : (f_X8_readTable_vr uT utx vk vt vr) = vr := by rw [f_X8_readTable_vr, if_pos c_1]
    exact mu_reti CF hQ hr hlk rfl hP hS dX8_readTable_34 (by rw [f_X8_readTable, if_pos c_1]) (by rw [e_0, e_1, e_2, e_3, e_4, e_5])
  · have o_1 : ¬ uT = 0 := fun h => c_1 ((ceq (rfl : nI uT = nI uT) (nf_c 0) (by omega) (by omega)).mpr h)
    refine lv_aload_n hx hb dX8_readTable_22 rfl (lv_at hl 0 rfl) ?_
    refine r_get (C := RX8) (T := TX8) (N := 31) (v := .ref y1) CF hE hP 0 rfl rfl inG8 1 (by decide) tw_3_116 rfl rfl dX8_readTable_23 ?_
    refine lv_iconst (v := 0) hx hb dX8_readTable_26 (by decide) ?_
    refine r_iald (k := 40) (f := utx) CF hE hP 1 rfl 0 (nf_c 0) (by omega) (by decide) dX8_readTable_27 ?_
    refine lv_bipush (v := 75) hx hb dX8_readTable_28 (by decide) ?_
    refine lv_icmp_eq (tgt := 35) hx hb dX8_readTable_30 (by decide) (fun c_2 => ?_) (fun c_2 => ?_)
    · refine lv_aload_n hx hb dX8_readTable_35 rfl (lv_at hl 0 rfl) ?_
      refine lv_iconst (v := 1) hx hb dX8_readTable_36 (by decide) ?_
      refine lv_as (z := (nI 1)) (nf_c 1) ?_
      refine r_put (C := RX8) (T := TX8) (N := 31) (ws' := [(q0, .inr (8, [.int th, .ref y1, .int (nI uT), .int (nI 1), .int (nI uP), .ref y2, .int (nI uR), .ref y3, .int (nI 0), .ref y4, .ref y5, .int (nI 0), .ref y6, .ref y7, .ref y8, .ref y9, .int (nI ua), .ref y10, .ref y11, .int (nI us), .ref y12, .ref y13, .long sd, .int z1, .int z2, .int z3, .int z4, .int z5, .int z6, .int z7, .ref y14])), (y1, .inl (cI, 40, .inl utx)), (y4, .inl (cI, 5, .inl vk)), (y5, .inl (cI, 5, .inl vt)), (y6, .inl (cI, 12, .inl vr))]) CF hE hP hD hS 0 rfl rfl inG8 tyX8 tyX8_ok nmX8 3 (by decide) tw_3_118 rfl rfl rfl rfl (Nat.le_of_ble_eq_true rfl) dX8_readTable_37 rfl (fun H locs hP hD hS => ?_)
      have LOOP_40 : ∀ (n_40 : Nat) (x40_0 : Nat) (x40_1 : Nat) (x40_2 : Nat) (x40_3 : Nat → Int32) (x40_4 : Nat → Int32) (x40_5 : Nat → Int32) (H : Heap) (locs : List Loc) (ls : Array Slot), uT - x40_0 < n_40 → L_X8_readTable_40 uT utx n_40 x40_0 x40_1 x40_2 x40_3 x40_4 x40_5 = L_X8_readTable_40 uT utx (uT + 1) 1 0 0 vk vt vr → (x40_0 ≤ uT) → (x40_1 ≤ 5) → (x40_2 ≤ 4) → va_P D vwCl [(q0, .inr (8, [.int th, .ref y1, .int (nI uT), .int (nI x40_0), .int (nI uP), .ref y2, .int (nI uR), .ref y3, .int (nI x40_1), .ref y4, .ref y5, .int (nI x40_2), .ref y6, .ref y7, .ref y8, .ref y9, .int (nI ua), .ref y10, .ref y11, .int (nI us), .ref y12, .ref y13, .long sd, .int z1, .int z2, .int z3, .int z4, .int z5, .int z6, .int z7, .ref y14])), (y1, .inl (cI, 40, .inl utx)), (y4, .inl (cI, 5, .inl x40_3)), (y5, .inl (cI, 5, .inl x40_4)), (y6, .inl (cI, 12, .inl x40_5))] H → va_D A [(q0, .inr (8, [.int th, .ref y1, .int (nI uT), .int (nI x40_0), .int (nI uP), .ref y2, .int (nI uR), .ref y3, .int (nI x40_1), .ref y4, .ref y5, .int (nI x40_2), .ref y6, .ref y7, .ref y8, .ref y9, .int (nI ua), .ref y10, .ref y11, .int (nI us), .ref y12, .ref y13, .long sd, .int z1, .int z2, .int z3, .int z4, .int z5, .int z6, .int z7, .ref y14])), (y1, .inl (cI, 40, .inl utx)), (y4, .inl (cI, 5, .inl x40_3)), (y5, .inl (cI, 5, .inl x40_4)), (y6, .inl (cI, 12, .inl x40_5))] → va_S A s.heap H locs → lv_has ls 1 [(0, .ref q0)] → W p l e (mR 4 91) s m args below meth c H locs 0 0 Q (F0 m 40 ls []) := by
        intro n_40
        induction n_40 with
        | zero => intro x40_0 x40_1 x40_2 x40_3 x40_4 x40_5 H locs ls hn_40 hR_40 hi0 hi1 hi2 hP hD hS hl; exact absurd hn_40 (Nat.not_lt_zero _)
        | succ n_40 ih_40 =>
          intro x40_0 x40_1 x40_2 x40_3 x40_4 x40_5 H locs ls hn_40 hR_40 hi0 hi1 hi2 hP hD hS hl
          refine lv_aload_n hx hb dX8_readTable_40 rfl (lv_at hl 0 rfl) ?_
          refine r_get (C := RX8) (T := TX8) (N := 31) (v := .int (nI x40_0)) CF hE hP 0 rfl rfl inG8 3 (by decide) tw_3_118 rfl rfl dX8_readTable_41 ?_
          refine lv_aload_n hx hb dX8_readTable_44 rfl (lv_at hl 0 rfl) ?_
          refine r_get (C := RX8) (T := TX8) (N := 31) (v := .int (nI uT)) CF hE hP 0 rfl rfl inG8 2 (by decide) tw_3_117 rfl rfl dX8_readTable_45 ?_
          refine lv_icmp_ge (tgt := 63) hx hb dX8_readTable_48 (by decide) (fun c_4 => ?_) (fun c_4 => ?_)
          · have o_4 : uT ≤ x40_0 := (cle (rfl : nI uT = nI uT) (rfl : nI x40_0 = nI x40_0) (by omega) (by omega)).mp c_4
            refine lv_bipush (v := (-9)) hx hb dX8_readTable_63 (by decide) ?_
            have hq_3 : L_X8_readTable_40 uT utx (uT + 1) 1 0 0 vk vt vr = ((-9), x40_0, x40_1, x40_2, x40_3, x40_4, x40_5) := by
              rw [← hR_40]
              show S_X8_readTable_40 uT utx (L_X8_readTable_40 uT utx n_40) x40_0 x40_1 x40_2 x40_3 x40_4 x40_5 = _
              rw [S_X8_readTable_40, if_pos c_4]
            have e_0 : (f_X8_readTable_up uT utx vk vt vr) = x40_0 := by rw [f_X8_readTable_up, if_neg c_1, if_pos c_2, hq_3]
            have e_1 : (f_X8_readTable_vP uT utx vk vt vr) = x40_1 := by rw [f_X8_readTable_vP, if_neg c_1, if_pos c_2, hq_3]
            have e_2 : (f_X8_readTable_vR uT utx vk vt vr) = x40_2 := by rw [f_X8_readTable_vR, if_neg c_1, if_pos c_2, hq_3]
            have e_3 : (f_X8_readTable_vk uT utx vk vt vr) = x40_3 := by rw [f_X8_readTable_vk, if_neg c_1, if_pos c_2, hq_3]
            have e_4 : (f_X8_readTable_vt uT utx vk vt vr) = x40_4 := by rw [f_X8_readTable_vt, if_neg c_1, if_pos c_2, hq_3]
            have e_5 : (f_X8_readTable_vr uT utx vk vt vr) = x40_5 := by rw [f_X8_readTable_vr, if_neg c_1, if_pos c_2, hq_3]
            exact mu_reti CF hQ hr hlk rfl hP hS dX8_readTable_65 (by rw [f_X8_readTable, if_neg c_1, if_pos c_2, hq_3]) (by rw [e_0, e_1, e_2, e_3, e_4, e_5])
          · have o_4 : ¬ uT ≤ x40_0 := fun h => c_4 ((cle (rfl : nI uT = nI uT) (rfl : nI x40_0 = nI x40_0) (by omega) (by omega)).mpr h)
            refine lv_aload_n hx hb dX8_readTable_51 rfl (lv_at hl 0 rfl) ?_
            refine mu_V (y := yX8_readPart) (As := []) (rest := []) (q0 := 0) (ws' := [(q0, .inr (8, [.int th, .ref y1, .int (nI uT), .int (nI (f_X8_readPart_up uT x40_0 x40_1 x40_2 utx x40_5)), .int (nI uP), .ref y2, .int (nI uR), .ref y3, .int (nI (f_X8_readPart_vP uT x40_0 x40_1 x40_2 utx)), .ref y4, .ref y5, .int (nI (f_X8_readPart_vR uT x40_0 x40_1 x40_2 utx x40_5)), .ref y6, .ref y7, .ref y8, .ref y9, .int (nI ua), .ref y10, .ref y11, .int (nI us), .ref y12, .ref y13, .long sd, .int z1, .int z2, .int z3, .int z4, .int z5, .int z6, .int z7, .ref y14])), (y1, .inl (cI, 40, .inl utx)), (y4, .inl (cI, 5, .inl (f_X8_readPart_vk uT x40_0 x40_1 x40_2 utx x40_3))), (y5, .inl (cI, 5, .inl (f_X8_readPart_vt uT x40_0 x40_1 x40_2 utx x40_4))), (y6, .inl (cI, 12, .inl (f_X8_readPart_vr uT x40_0 x40_1 x40_2 utx x40_5)))]) (ad := [q0, y1, y4, y5, y6]) CF (c_X8_readPart l D cI cZ q0 y1 y2 y3 y4 y5 y6 y7 y8 y9 y10 y11 y12 y13 y14 th uT x40_0 uP uR x40_1 x40_2 ua us sd z1 z2 z3 z4 z5 z6 z7 utx x40_3 x40_4 x40_5 (by omega) (by omega) (by omega) (by omega)) lk_X8_91 hP hE hD hS [0, 1, 2, 3, 4] rfl (by decide) (Nat.le_of_ble_eq_true rfl) rfl rfl rfl rfl rfl rfl hl.1 rfl (Nat.le_of_ble_eq_true rfl) ⟨Nat.le_of_ble_eq_true rfl, Nat.le_of_ble_eq_true rfl, rfl, rfl⟩ ⟨Nat.zero_le _, Nat.zero_le _⟩ dX8_readTable_52 (fun H locs hP hD hS => ?_)
            have hrb := readPart_bd (uT := uT) (up := x40_0) (vP := x40_1) (vR := x40_2) (utx := utx) (vr := x40_5) (by omega) (by omega) (by omega)
            refine lv_if_ne (tgt := 40) hx hb dX8_readTable_55 (by decide) (fun c_5 => ?_) (fun c_5 => ?_)
            · have hrp := readPart_ok (by omega) c_5
              have hR2 : L_X8_readTable_40 uT utx n_40 (f_X8_readPart_up uT x40_0 x40_1 x40_2 utx x40_5) (f_X8_readPart_vP uT x40_0 x40_1 x40_2 utx) (f_X8_readPart_vR uT x40_0 x40_1 x40_2 utx x40_5) (f_X8_readPart_vk uT x40_0 x40_1 x40_2 utx x40_3) (f_X8_readPart_vt uT x40_0 x40_1 x40_2 utx x40_4) (f_X8_readPart_vr uT x40_0 x40_1 x40_2 utx x40_5) = L_X8_readTable_40 uT utx (uT + 1) 1 0 0 vk vt vr := by
                rw [← hR_40]
                show _ = S_X8_readTable_40 uT utx (L_X8_readTable_40 uT utx n_40) x40_0 x40_1 x40_2 x40_3 x40_4 x40_5
                rw [S_X8_readTable_40, if_neg c_4, if_neg c_5]
              exact ih_40 (f_X8_readPart_up uT x40_0 x40_1 x40_2 utx x40_5) (f_X8_readPart_vP uT x40_0 x40_1 x40_2 utx) (f_X8_readPart_vR uT x40_0 x40_1 x40_2 utx x40_5) (f_X8_readPart_vk uT x40_0 x40_1 x40_2 utx x40_3) (f_X8_readPart_vt uT x40_0 x40_1 x40_2 utx x40_4) (f_X8_readPart_vr uT x40_0 x40_1 x40_2 utx x40_5) _ _ _ (by omega) hR2 (by omega) (by omega) (by omega) hP hD hS (lv_sub hl [0] rfl)
            · refine lv_aload_n hx hb dX8_readTable_58 rfl (lv_at hl 0 rfl) ?_
              refine r_get (C := RX8) (T := TX8) (N := 31) (v := .int (nI (f_X8_readPart_up uT x40_0 x40_1 x40_2 utx x40_5))) CF hE hP 0 rfl rfl inG8 3 (by decide) tw_3_118 rfl rfl dX8_readTable_59 ?_
              have hq_3 : L_X8_readTable_40 uT utx (uT + 1) 1 0 0 vk vt vr = ((nI (f_X8_readPart_up uT x40_0 x40_1 x40_2 utx x40_5)), (f_X8_readPart_up uT x40_0 x40_1 x40_2 utx x40_5), (f_X8_readPart_vP uT x40_0 x40_1 x40_2 utx), (f_X8_readPart_vR uT x40_0 x40_1 x40_2 utx x40_5), (f_X8_readPart_vk uT x40_0 x40_1 x40_2 utx x40_3), (f_X8_readPart_vt uT x40_0 x40_1 x40_2 utx x40_4), (f_X8_readPart_vr uT x40_0 x40_1 x40_2 utx x40_5)) := by
                rw [← hR_40]
                show S_X8_readTable_40 uT utx (L_X8_readTable_40 uT utx n_40) x40_0 x40_1 x40_2 x40_3 x40_4 x40_5 = _
                rw [S_X8_readTable_40, if_neg c_4, if_pos c_5]
              have e_0 : (f_X8_readTable_up uT utx vk vt vr) = (f_X8_readPart_up uT x40_0 x40_1 x40_2 utx x40_5) := by rw [f_X8_readTable_up, if_neg c_1, if_pos c_2, hq_3]
              have e_1 : (f_X8_readTable_vP uT utx vk vt vr) = (f_X8_readPart_vP uT x40_0 x40_1 x40_2 utx) := by rw [f_X8_readTable_vP, if_neg c_1, if_pos c_2, hq_3]
              have e_2 : (f_X8_readTable_vR uT utx vk vt vr) = (f_X8_readPart_vR uT x40_0 x40_1 x40_2 utx x40_5) := by rw [f_X8_readTable_vR, if_neg c_1, if_pos c_2, hq_3]
              have e_3 : (f_X8_readTable_vk uT utx vk vt vr) = (f_X8_readPart_vk uT x40_0 x40_1 x40_2 utx x40_3) := by rw [f_X8_readTable_vk, if_neg c_1, if_pos c_2, hq_3]
              have e_4 : (f_X8_readTable_vt uT utx vk vt vr) = (f_X8_readPart_vt uT x40_0 x40_1 x40_2 utx x40_4) := by rw [f_X8_readTable_vt, if_neg c_1, if_pos c_2, hq_3]
              have e_5 : (f_X8_readTable_vr uT utx vk vt vr) = (f_X8_readPart_vr uT x40_0 x40_1 x40_2 utx x40_5) := by rw [f_X8_readTable_vr, if_neg c_1, if_pos c_2, hq_3]
              exact mu_reti CF hQ hr hlk rfl hP hS dX8_readTable_62 (by rw [f_X8_readTable, if_neg c_1, if_pos c_2, hq_3]) (by rw [e_0, e_1, e_2, e_3, e_4, e_5])
      exact LOOP_40 (uT + 1) 1 0 0 vk vt vr _ _ _ (by omega) rfl (by omega) (by omega) (by omega) hP hD hS (lv_sub hl [0] rfl)
    · refine lv_iconst (v := 0) hx hb dX8_readTable_33 (by decide) ?_
      have e_0 : (f_X8_readTable_up uT utx vk vt vr) = 0 := by rw [f_X8_readTable_up, if_neg c_1, if_neg c_2]
      have e_1 : (f_X8_readTable_vP uT utx vk vt vr) = 0 := by rw [f_X8_readTable_vP, if_neg c_1, if_neg c_2]
      have e_2 : (f_X8_readTable_vR uT utx vk vt vr) = 0 := by rw [f_X8_readTable_vR, if_neg c_1, if_neg c_2]
      have e_3 : (f_X8_readTable_vk uT utx vk vt vr) = vk := by rw [f_X8_readTable_vk, if_neg c_1, if_neg c_2]
      have e_4 : (f_X8_readTable_vt uT utx vk vt vr) = vt := by rw [f_X8_readTable_vt, if_neg c_1, if_neg c_2]
      have e_5 : (f_X8_readTable_vr uT utx vk vt vr) = vr := by rw [f_X8_readTable_vr, if_neg c_1, if_neg c_2]
      exact mu_reti CF hQ hr hlk rfl hP hS dX8_readTable_34 (by rw [f_X8_readTable, if_neg c_1, if_neg c_2]) (by rw [e_0, e_1, e_2, e_3, e_4, e_5])
theorem readTable_L {uT : Nat} {utx : Nat → Int32} : ∀ (n up vP vR : Nat) (vk vt vr : Nat → Int32), up ≤ uT → uT - up < n → vP ≤ 5 → vR ≤ 4 → (L_X8_readTable_40 uT utx n up vP vR vk vt vr).2.2.1 ≤ 5 ∧ (L_X8_readTable_40 uT utx n up vP vR vk vt vr).2.2.2.1 ≤ 4
  | 0, _, _, _, _, _, _, _, h, _, _ => absurd h (Nat.not_lt_zero _)
  | n + 1, up, vP, vR, vk, vt, vr, h1, h2, h3, h4 => by
    rw [L_X8_readTable_40, S_X8_readTable_40]
    by_cases c : nI uT ≤ nI up
    · rw [if_pos c]
      exact ⟨h3, h4⟩
    · rw [if_neg c]
      have hu : up < uT := by
        refine Nat.lt_of_le_of_ne h1 (fun e => c ?_)
        rw [e]; exact Int32.le_refl _
      have bd := readPart_bd (utx := utx) (vr := vr) hu h3 h4
      by_cases c2 : f_X8_readPart uT up vP vR utx vr = 0
      · rw [if_pos c2]
        exact bd
      · rw [if_neg c2]
        have ok := readPart_ok hu c2
        exact readTable_L n _ _ _ _ _ _ ok.2 (by omega) bd.1 bd.2
theorem readTable_le {uT : Nat} {utx vk vt vr : Nat → Int32} : f_X8_readTable_vP uT utx vk vt vr ≤ 5 ∧ f_X8_readTable_vR uT utx vk vt vr ≤ 4 := by
  unfold f_X8_readTable_vP f_X8_readTable_vR
  by_cases h0 : nI uT = 0
  · rw [if_pos h0, if_pos h0]; omega
  · rw [if_neg h0, if_neg h0]
    by_cases h1 : utx 0 = 75
    · rw [if_pos h1, if_pos h1]
      refine readTable_L _ _ _ _ _ _ _ ?_ (by omega) (by omega) (by omega)
      refine Nat.pos_of_ne_zero (fun e => h0 ?_)
      rw [e]; rfl
    · rw [if_neg h1, if_neg h1]; omega
theorem lk_X8_94 : mLkV RX8 94 yX8_readTable cX8_readTable 1 (some .int) 0 := ⟨⟨tw_3_226, tw_1_10, tw_3_229, ⟨by decide +kernel, by decide +kernel, by decide +kernel⟩⟩, tw_3_228, tp_1_14⟩
set_option maxRecDepth 100000 in
set_option maxHeartbeats 4000000 in
theorem c_X8_fault (l : Launch) (D : va_G) (cI cZ : ClassId) (q0 y1 y2 y3 y4 y5 y6 y7 y8 y9 y10 y11 y12 y13 y14 : Nat) (th : Int32) (uT : Nat) (up : Nat) (uP : Nat) (uR : Nat) (vP : Nat) (vR : Nat) (ua : Nat) (us : Nat) (sd : Int64) (z1 : Int32) (z2 : Int32) (z3 : Int32) (z4 : Int32) (z5 : Int32) (z6 : Int32) (z7 : Int32) (utx : Nat → Int32) (vk : Nat → Int32) (vt : Nat → Int32) (vr : Nat → Int32) (hut : uT ≤ 40) : MU l D cI cZ yX8_fault cX8_fault 1 (some .int) (mR 5 111) [.ref q0] [(q0, .inr (8, [.int th, .ref y1, .int (nI uT), .int (nI up), .int (nI uP), .ref y2, .int (nI uR), .ref y3, .int (nI vP), .ref y4, .ref y5, .int (nI vR), .ref y6, .ref y7, .ref y8, .ref y9, .int (nI ua), .ref y10, .ref y11, .int (nI us), .ref y12, .ref y13, .long sd, .int z1, .int z2, .int z3, .int z4, .int z5, .int z6, .int z7, .ref y14])), (y1, .inl (cI, 40, .inl utx)), (y4, .inl (cI, 5, .inl vk)), (y5, .inl (cI, 5, .inl vt)), (y6, .inl (cI, 12, .inl vr))] [(q0, .inr (8, [.int 0, .ref y1, .int (nI uT), .int (nI (f_X8_readTable_up uT utx vk vt vr)), .int (nI uP), .ref y2, .int (nI uR), .ref y3, .int (nI (f_X8_readTable_vP uT utx vk vt vr)), .ref y4, .ref y5, .int (nI (f_X8_readTable_vR uT utx vk vt vr)), .ref y6, .ref y7, .ref y8, .ref y9, .int (nI ua), .ref y10, .ref y11, .int (nI us), .ref y12, .ref y13, .long sd, .int z1, .int z2, .int z3, .int z4, .int z5, .int z6, .int z7, .ref y14])), (y1, .inl (cI, 40, .inl utx)), (y4, .inl (cI, 5, .inl (f_X8_readTable_vk uT utx vk vt vr))), (y5, .inl (cI, 5, .inl (f_X8_readTable_vt uT utx vk vt vr))), (y6, .inl (cI, 12, .inl (f_X8_readTable_vr uT utx vk vt vr)))] (some (.int (f_X8_readTable uT utx vk vt vr))) := by
  refine MU.of (by decide +kernel) (Nat.le_of_ble_eq_true rfl) ?_
  intro p e s m args below meth c ls Q A CF hr hlk hP hE hD hS hQ hl
  have hx := CF.1
  have hb := CF.2.1
  have hl : lv_has ls 1 [(0, .ref q0)] := hl
  refine lv_aload_n hx hb dX8_fault_0 rfl (lv_at hl 0 rfl) ?_
  refine lv_iconst (v := 0) hx hb dX8_fault_1 (by decide) ?_
  refine r_put (C := RX8) (T := TX8) (N := 31) (ws' := [(q0, .inr (8, [.int 0, .ref y1, .int (nI uT), .int (nI up), .int (nI uP), .ref y2, .int (nI uR), .ref y3, .int (nI vP), .ref y4, .ref y5, .int (nI vR), .ref y6, .ref y7, .ref y8, .ref y9, .int (nI ua), .ref y10, .ref y11, .int (nI us), .ref y12, .ref y13, .long sd, .int z1, .int z2, .int z3, .int z4, .int z5, .int z6, .int z7, .ref y14])), (y1, .inl (cI, 40, .inl utx)), (y4, .inl (cI, 5, .inl vk)), (y5, .inl (cI, 5, .inl vt)), (y6, .inl (cI, 12, .inl vr))]) CF hE hP hD hS 0 rfl rfl inG8 tyX8 tyX8_ok nmX8 0 (by decide) tw_3_115 rfl rfl rfl rfl (Nat.le_of_ble_eq_true rfl) dX8_fault_2 rfl (fun H locs hP hD hS => ?_)
  refine lv_aload_n hx hb dX8_fault_5 rfl (lv_at hl 0 rfl) ?_
  refine mu_V (y := yX8_readTable) (As := []) (rest := []) (q0 := 0) (ws' := [(q0, .inr (8, [.int 0, .ref y1, .int (nI uT), .int (nI (f_X8_readTable_up uT utx vk vt vr)), .int (nI uP), .ref y2, .int (nI uR), .ref y3, .int (nI (f_X8_readTable_vP uT utx vk vt vr)), .ref y4, .ref y5, .int (nI (f_X8_readTable_vR uT utx vk vt vr)), .ref y6, .ref y7, .ref y8, .ref y9, .int (nI ua), .ref y10, .ref y11, .int (nI us), .ref y12, .ref y13, .long sd, .int z1, .int z2, .int z3, .int z4, .int z5, .int z6, .int z7, .ref y14])), (y1, .inl (cI, 40, .inl utx)), (y4, .inl (cI, 5, .inl (f_X8_readTable_vk uT utx vk vt vr))), (y5, .inl (cI, 5, .inl (f_X8_readTable_vt uT utx vk vt vr))), (y6, .inl (cI, 12, .inl (f_X8_readTable_vr uT utx vk vt vr)))]) (ad := [q0, y1, y4, y5, y6]) CF (c_X8_readTable l D cI cZ q0 y1 y2 y3 y4 y5 y6 y7 y8 y9 y10 y11 y12 y13 y14 0 uT up uP uR vP vR ua us sd z1 z2 z3 z4 z5 z6 z7 utx vk vt vr (by omega)) lk_X8_94 hP hE hD hS [0, 1, 2, 3, 4] rfl (by decide) (Nat.le_of_ble_eq_true rfl) rfl rfl rfl rfl rfl rfl hl.1 rfl (Nat.le_of_ble_eq_true rfl) ⟨Nat.le_of_ble_eq_true rfl, Nat.le_of_ble_eq_true rfl, rfl, rfl⟩ ⟨Nat.zero_le _, Nat.zero_le _⟩ dX8_fault_6 (fun H locs hP hD hS => ?_)
  exact mu_reti CF hQ hr hlk rfl hP hS dX8_fault_9 rfl rfl
def S_X8_table_35 (k35 : Nat) (x35_0 : Nat → Int32) : (Nat → Int32) :=
  (upd x35_0 k35 0)
def B_X8_table_35 (i0 : Nat → Int32) : Nat → (Nat → Int32)
  | 0 => i0
  | k + 1 => S_X8_table_35 k (B_X8_table_35 i0 k)
def S_X8_table_56 (uT : Nat) (utx : Nat → Int32) (vk : Nat → Int32) (vt : Nat → Int32) (vr : Nat → Int32) (k56 : Nat) (x56_0 : Nat → Int32) (x56_1 : Nat → Int32) : (Nat → Int32) × (Nat → Int32) :=
  ((upd x56_0 k56 ((f_X8_readTable_vk uT utx vk vt vr) k56)), (upd (upd x56_1 (0 + k56) ((f_X8_readTable_vt uT utx vk vt vr) k56)) (5 + k56) (nI k56)))
def B_X8_table_56 (uT : Nat) (utx : Nat → Int32) (vk : Nat → Int32) (vt : Nat → Int32) (vr : Nat → Int32) (i0 : Nat → Int32) (i1 : Nat → Int32) : Nat → (Nat → Int32) × (Nat → Int32)
  | 0 => (i0, i1)
  | k + 1 => S_X8_table_56 uT utx vk vt vr k (B_X8_table_56 uT utx vk vt vr i0 i1 k).1 (B_X8_table_56 uT utx vk vt vr i0 i1 k).2
def S_X8_table_107 (uT : Nat) (utx : Nat → Int32) (vk : Nat → Int32) (vt : Nat → Int32) (vr : Nat → Int32) (k107 : Nat) (x107_0 : Nat → Int32) : (Nat → Int32) :=
  (upd x107_0 k107 ((f_X8_readTable_vr uT utx vk vt vr) k107))
def B_X8_table_107 (uT : Nat) (utx : Nat → Int32) (vk : Nat → Int32) (vt : Nat → Int32) (vr : Nat → Int32) (i0 : Nat → Int32) : Nat → (Nat → Int32)
  | 0 => i0
  | k + 1 => S_X8_table_107 uT utx vk vt vr k (B_X8_table_107 uT utx vk vt vr i0 k)
def f_X8_table (uT : Nat) (utx : Nat → Int32) (vk : Nat → Int32) (vt : Nat → Int32) (vr : Nat → Int32) : Int32 :=
  (if (f_X8_readTable uT utx vk vt vr) = (-9) then ((10 * (nI (f_X8_readTable_vP uT utx vk vt vr))) + (nI (f_X8_readTable_vR uT utx vk vt vr))) else (-3))
def f_X8_table_th (uT : Nat) (utx : Nat → Int32) (vk : Nat → Int32) (vt : Nat → Int32) (vr : Nat → Int32) : Int32 :=
  (if (f_X8_readTable uT utx vk vt vr) = (-9) then 0 else 0)
def f_X8_table_up (uT : Nat) (utx : Nat → Int32) (vk : Nat → Int32) (vt : Nat → Int32) (vr : Nat → Int32) : Nat :=
  (if (f_X8_readTable uT utx vk vt vr) = (-9) then (f_X8_readTable_up uT utx vk vt vr) else (f_X8_readTable_up uT utx vk vt vr))
def f_X8_table_vP (uT : Nat) (utx : Nat → Int32) (vk : Nat → Int32) (vt : Nat → Int32) (vr : Nat → Int32) : Nat :=
  (if (f_X8_readTable uT utx vk vt vr) = (-9) then (f_X8_readTable_vP uT utx vk vt vr) else (f_X8_readTable_vP uT utx vk vt vr))
def f_X8_table_vR (uT : Nat) (utx : Nat → Int32) (vk : Nat → Int32) (vt : Nat → Int32) (vr : Nat → Int32) : Nat :=
  (if (f_X8_readTable uT utx vk vt vr) = (-9) then (f_X8_readTable_vR uT utx vk vt vr) else (f_X8_readTable_vR uT utx vk vt vr))
def f_X8_table_vk (uT : Nat) (utx : Nat → Int32) (vk : Nat → Int32) (vt : Nat → Int32) (vr : Nat → Int32) : Nat → Int32 :=
  (if (f_X8_readTable uT utx vk vt vr) = (-9) then (f_X8_readTable_vk uT utx vk vt vr) else (f_X8_readTable_vk uT utx vk vt vr))
def f_X8_table_vt (uT : Nat) (utx : Nat → Int32) (vk : Nat → Int32) (vt : Nat → Int32) (vr : Nat → Int32) : Nat → Int32 :=
  (if (f_X8_readTable uT utx vk vt vr) = (-9) then (f_X8_readTable_vt uT utx vk vt vr) else (f_X8_readTable_vt uT utx vk vt vr))
def f_X8_table_vr (uT : Nat) (utx : Nat → Int32) (vk : Nat → Int32) (vt : Nat → Int32) (vr : Nat → Int32) : Nat → Int32 :=
  (if (f_X8_readTable uT utx vk vt vr) = (-9) then (f_X8_readTable_vr uT utx vk vt vr) else (f_X8_readTable_vr uT utx vk vt vr))
def f_X8_table_uP (uT : Nat) (uP : Nat) (utx : Nat → Int32) (vk : Nat → Int32) (vt : Nat → Int32) (vr : Nat → Int32) : Nat :=
  (if (f_X8_readTable uT utx vk vt vr) = (-9) then (f_X8_readTable_vP uT utx vk vt vr) else uP)
def f_X8_table_uR (uT : Nat) (uR : Nat) (utx : Nat → Int32) (vk : Nat → Int32) (vt : Nat → Int32) (vr : Nat → Int32) : Nat :=
  (if (f_X8_readTable uT utx vk vt vr) = (-9) then (f_X8_readTable_vR uT utx vk vt vr) else uR)
def f_X8_table_uk (uT : Nat) (utx : Nat → Int32) (vk : Nat → Int32) (vt : Nat → Int32) (vr : Nat → Int32) (uk : Nat → Int32) (pg : Nat → Int32) : Nat → Int32 :=
  (if (f_X8_readTable uT utx vk vt vr) = (-9) then ((B_X8_table_56 uT utx vk vt vr uk ((B_X8_table_35 pg 15)) (f_X8_readTable_vP uT utx vk vt vr)).1) else uk)
def f_X8_table_ur (uT : Nat) (utx : Nat → Int32) (vk : Nat → Int32) (vt : Nat → Int32) (vr : Nat → Int32) (ur : Nat → Int32) : Nat → Int32 :=
  (if (f_X8_readTable uT utx vk vt vr) = (-9) then ((B_X8_table_107 uT utx vk vt vr ur (3 * (f_X8_readTable_vR uT utx vk vt vr)))) else ur)
def f_X8_table_pg (uT : Nat) (utx : Nat → Int32) (vk : Nat → Int32) (vt : Nat → Int32) (vr : Nat → Int32) (uk : Nat → Int32) (pg : Nat → Int32) : Nat → Int32 :=
  (if (f_X8_readTable uT utx vk vt vr) = (-9) then ((B_X8_table_56 uT utx vk vt vr uk ((B_X8_table_35 pg 15)) (f_X8_readTable_vP uT utx vk vt vr)).2) else pg)
def f_X8_table_ua (uT : Nat) (ua : Nat) (utx : Nat → Int32) (vk : Nat → Int32) (vt : Nat → Int32) (vr : Nat → Int32) : Nat :=
  (if (f_X8_readTable uT utx vk vt vr) = (-9) then 0 else ua)
def f_X8_table_ik (uT : Nat) (utx : Nat → Int32) (vk : Nat → Int32) (vt : Nat → Int32) (vr : Nat → Int32) (ik : Nat → Int32) : Nat → Int32 :=
  (if (f_X8_readTable uT utx vk vt vr) = (-9) then (upd (upd ik 0 0) 1 0) else ik)
set_option maxRecDepth 100000 in
set_option maxHeartbeats 4000000 in
theorem c_X8_table (l : Launch) (D : va_G) (cI cZ : ClassId) (q0 y1 y2 y3 y4 y5 y6 y7 y8 y9 y10 y11 y12 y13 y14 : Nat) (th : Int32) (uT : Nat) (up : Nat) (uP : Nat) (uR : Nat) (vP : Nat) (vR : Nat) (ua : Nat) (us : Nat) (sd : Int64) (z1 : Int32) (z2 : Int32) (z3 : Int32) (z4 : Int32) (z5 : Int32) (z6 : Int32) (z7 : Int32) (utx : Nat → Int32) (vk : Nat → Int32) (vt : Nat → Int32) (vr : Nat → Int32) (uk : Nat → Int32) (ur : Nat → Int32) (pg : Nat → Int32) (ik : Nat → Int32) (hut : uT ≤ 40) : MU l D cI cZ yX8_table cX8_table 2 (some .int) (mR 5 111) [.ref q0] [(q0, .inr (8, [.int th, .ref y1, .int (nI uT), .int (nI up), .int (nI uP), .ref y2, .int (nI uR), .ref y3, .int (nI vP), .ref y4, .ref y5, .int (nI vR), .ref y6, .ref y7, .ref y8, .ref y9, .int (nI ua), .ref y10, .ref y11, .int (nI us), .ref y12, .ref y13, .long sd, .int z1, .int z2, .int z3, .int z4, .int z5, .int z6, .int z7, .ref y14])), (y1, .inl (cI, 40, .inl utx)), (y4, .inl (cI, 5, .inl vk)), (y5, .inl (cI, 5, .inl vt)), (y6, .inl (cI, 12, .inl vr)), (y2, .inl (cI, 5, .inl uk)), (y3, .inl (cI, 12, .inl ur)), (y7, .inl (cI, 15, .inl pg)), (y11, .inl (cZ, 2, .inl ik))] [(q0, .inr (8, [.int (f_X8_table_th uT utx vk vt vr), .ref y1, .int (nI uT), .int (nI (f_X8_table_up uT utx vk vt vr)), .int (nI (f_X8_table_uP uT uP utx vk vt vr)), .ref y2, .int (nI (f_X8_table_uR uT uR utx vk vt vr)), .ref y3, .int (nI (f_X8_table_vP uT utx vk vt vr)), .ref y4, .ref y5, .int (nI (f_X8_table_vR uT utx vk vt vr)), .ref y6, .ref y7, .ref y8, .ref y9, .int (nI (f_X8_table_ua uT ua utx vk vt vr)), .ref y10, .ref y11, .int (nI us), .ref y12, .ref y13, .long sd, .int z1, .int z2, .int z3, .int z4, .int z5, .int z6, .int z7, .ref y14])), (y1, .inl (cI, 40, .inl utx)), (y4, .inl (cI, 5, .inl (f_X8_table_vk uT utx vk vt vr))), (y5, .inl (cI, 5, .inl (f_X8_table_vt uT utx vk vt vr))), (y6, .inl (cI, 12, .inl (f_X8_table_vr uT utx vk vt vr))), (y2, .inl (cI, 5, .inl (f_X8_table_uk uT utx vk vt vr uk pg))), (y3, .inl (cI, 12, .inl (f_X8_table_ur uT utx vk vt vr ur))), (y7, .inl (cI, 15, .inl (f_X8_table_pg uT utx vk vt vr uk pg))), (y11, .inl (cZ, 2, .inl (f_X8_table_ik uT utx vk vt vr ik)))] (some (.int (f_X8_table uT utx vk vt vr))) := by
  refine MU.of (by decide +kernel) (Nat.le_of_ble_eq_true rfl) ?_
  intro p e s m args below meth c ls Q A CF hr hlk hP hE hD hS hQ hl
  have hx := CF.1
  have hb := CF.2.1
  have hl : lv_has ls 2 [(0, .ref q0)] := hl
  refine lv_aload_n hx hb dX8_table_0 rfl (lv_at hl 0 rfl) ?_
  refine lv_iconst (v := 0) hx hb dX8_table_1 (by decide) ?_
  refine r_put (C := RX8) (T := TX8) (N := 31) (ws' := [(q0, .inr (8, [.int 0, .ref y1, .int (nI uT), .int (nI up), .int (nI uP), .ref y2, .int (nI uR), .ref y3, .int (nI vP), .ref y4, .ref y5, .int (nI vR), .ref y6, .ref y7, .ref y8, .ref y9, .int (nI ua), .ref y10, .ref y11, .int (nI us), .ref y12, .ref y13, .long sd, .int z1, .int z2, .int z3, .int z4, .int z5, .int z6, .int z7, .ref y14])), (y1, .inl (cI, 40, .inl utx)), (y4, .inl (cI, 5, .inl vk)), (y5, .inl (cI, 5, .inl vt)), (y6, .inl (cI, 12, .inl vr)), (y2, .inl (cI, 5, .inl uk)), (y3, .inl (cI, 12, .inl ur)), (y7, .inl (cI, 15, .inl pg)), (y11, .inl (cZ, 2, .inl ik))]) CF hE hP hD hS 0 rfl rfl inG8 tyX8 tyX8_ok nmX8 0 (by decide) tw_3_115 rfl rfl rfl rfl (Nat.le_of_ble_eq_true rfl) dX8_table_2 rfl (fun H locs hP hD hS => ?_)
  refine lv_aload_n hx hb dX8_table_5 rfl (lv_at hl 0 rfl) ?_
  refine mu_V (y := yX8_readTable) (As := []) (rest := []) (q0 := 0) (ws' := [(q0, .inr (8, [.int 0, .ref y1, .int (nI uT), .int (nI (f_X8_readTable_up uT utx vk vt vr)), .int (nI uP), .ref y2, .int (nI uR), .ref y3, .int (nI (f_X8_readTable_vP uT utx vk vt vr)), .ref y4, .ref y5, .int (nI (f_X8_readTable_vR uT utx vk vt vr)), .ref y6, .ref y7, .ref y8, .ref y9, .int (nI ua), .ref y10, .ref y11, .int (nI us), .ref y12, .ref y13, .long sd, .int z1, .int z2, .int z3, .int z4, .int z5, .int z6, .int z7, .ref y14])), (y1, .inl (cI, 40, .inl utx)), (y4, .inl (cI, 5, .inl (f_X8_readTable_vk uT utx vk vt vr))), (y5, .inl (cI, 5, .inl (f_X8_readTable_vt uT utx vk vt vr))), (y6, .inl (cI, 12, .inl (f_X8_readTable_vr uT utx vk vt vr))), (y2, .inl (cI, 5, .inl uk)), (y3, .inl (cI, 12, .inl ur)), (y7, .inl (cI, 15, .inl pg)), (y11, .inl (cZ, 2, .inl ik))]) (ad := [q0, y1, y4, y5, y6, y2, y3, y7, y11]) CF (c_X8_readTable l D cI cZ q0 y1 y2 y3 y4 y5 y6 y7 y8 y9 y10 y11 y12 y13 y14 0 uT up uP uR vP vR ua us sd z1 z2 z3 z4 z5 z6 z7 utx vk vt vr (by omega)) lk_X8_94 hP hE hD hS [0, 1, 2, 3, 4] rfl (by decide) (Nat.le_of_ble_eq_true rfl) rfl rfl rfl rfl rfl rfl hl.1 rfl (Nat.le_of_ble_eq_true rfl) ⟨Nat.le_of_ble_eq_true rfl, Nat.le_of_ble_eq_true rfl, rfl, rfl⟩ ⟨Nat.zero_le _, Nat.zero_le _⟩ dX8_table_6 (fun H locs hP hD hS => ?_)
  have hrt := readTable_le (uT := uT) (utx := utx) (vk := vk) (vt := vt) (vr := vr)
  refine lv_bipush (v := (-9)) hx hb dX8_table_9 (by decide) ?_
  refine lv_icmp_eq (tgt := 17) hx hb dX8_table_11 (by decide) (fun c_1 => ?_) (fun c_1 => ?_)
  · refine lv_aload_n hx hb dX8_table_17 rfl (lv_at hl 0 rfl) ?_
    refine lv_aload_n hx hb dX8_table_18 rfl (lv_at hl 0 rfl) ?_
    refine r_get (C := RX8) (T := TX8) (N := 31) (v := .int (nI (f_X8_readTable_vP uT utx vk vt vr))) CF hE hP 0 rfl rfl inG8 8 (by decide) tw_3_123 rfl rfl dX8_table_19 ?_
    refine r_put (C := RX8) (T := TX8) (N := 31) (ws' := [(q0, .inr (8, [.int 0, .ref y1, .int (nI uT), .int (nI (f_X8_readTable_up uT utx vk vt vr)), .int (nI (f_X8_readTable_vP uT utx vk vt vr)), .ref y2, .int (nI uR), .ref y3, .int (nI (f_X8_readTable_vP uT utx vk vt vr)), .ref y4, .ref y5, .int (nI (f_X8_readTable_vR uT utx vk vt vr)), .ref y6, .ref y7, .ref y8, .ref y9, .int (nI ua), .ref y10, .ref y11, .int (nI us), .ref y12, .ref y13, .long sd, .int z1, .int z2, .int z3, .int z4, .int z5, .int z6, .int z7, .ref y14])), (y1, .inl (cI, 40, .inl utx)), (y4, .inl (cI, 5, .inl (f_X8_readTable_vk uT utx vk vt vr))), (y5, .inl (cI, 5, .inl (f_X8_readTable_vt uT utx vk vt vr))), (y6, .inl (cI, 12, .inl (f_X8_readTable_vr uT utx vk vt vr))), (y2, .inl (cI, 5, .inl uk)), (y3, .inl (cI, 12, .inl ur)), (y7, .inl (cI, 15, .inl pg)), (y11, .inl (cZ, 2, .inl ik))]) CF hE hP hD hS 0 rfl rfl inG8 tyX8 tyX8_ok nmX8 4 (by decide) tw_3_119 rfl rfl rfl rfl (Nat.le_of_ble_eq_true rfl) dX8_table_22 rfl (fun H locs hP hD hS => ?_)
    refine lv_aload_n hx hb dX8_table_25 rfl (lv_at hl 0 rfl) ?_
    refine lv_aload_n hx hb dX8_table_26 rfl (lv_at hl 0 rfl) ?_
    refine r_get (C := RX8) (T := TX8) (N := 31) (v := .int (nI (f_X8_readTable_vR uT utx vk vt vr))) CF hE hP 0 rfl rfl inG8 11 (by decide) tw_3_126 rfl rfl dX8_table_27 ?_
    refine r_put (C := RX8) (T := TX8) (N := 31) (ws' := [(q0, .inr (8, [.int 0, .ref y1, .int (nI uT), .int (nI (f_X8_readTable_up uT utx vk vt vr)), .int (nI (f_X8_readTable_vP uT utx vk vt vr)), .ref y2, .int (nI (f_X8_readTable_vR uT utx vk vt vr)), .ref y3, .int (nI (f_X8_readTable_vP uT utx vk vt vr)), .ref y4, .ref y5, .int (nI (f_X8_readTable_vR uT utx vk vt vr)), .ref y6, .ref y7, .ref y8, .ref y9, .int (nI ua), .ref y10, .ref y11, .int (nI us), .ref y12, .ref y13, .long sd, .int z1, .int z2, .int z3, .int z4, .int z5, .int z6, .int z7, .ref y14])), (y1, .inl (cI, 40, .inl utx)), (y4, .inl (cI, 5, .inl (f_X8_readTable_vk uT utx vk vt vr))), (y5, .inl (cI, 5, .inl (f_X8_readTable_vt uT utx vk vt vr))), (y6, .inl (cI, 12, .inl (f_X8_readTable_vr uT utx vk vt vr))), (y2, .inl (cI, 5, .inl uk)), (y3, .inl (cI, 12, .inl ur)), (y7, .inl (cI, 15, .inl pg)), (y11, .inl (cZ, 2, .inl ik))]) CF hE hP hD hS 0 rfl rfl inG8 tyX8 tyX8_ok nmX8 6 (by decide) tw_3_121 rfl rfl rfl rfl (Nat.le_of_ble_eq_true rfl) dX8_table_30 rfl (fun H locs hP hD hS => ?_)
    refine lv_iconst (v := 0) hx hb dX8_table_33 (by decide) ?_
    refine lv_istore_n (lv' := [(1, .int 0), (0, .ref q0)]) hx hb dX8_table_34 rfl hl (by decide) rfl (fun ls hl => ?_)
    have LOOP_35 : ∀ (n_35 k35 : Nat) (x35_0 : Nat → Int32) (H : Heap) (locs : List Loc) (ls : Array Slot), k35 ≤ 15 → 15 - k35 < n_35 → (B_X8_table_35 pg k35) = x35_0 → va_P D vwCl [(q0, .inr (8, [.int 0, .ref y1, .int (nI uT), .int (nI (f_X8_readTable_up uT utx vk vt vr)), .int (nI (f_X8_readTable_vP uT utx vk vt vr)), .ref y2, .int (nI (f_X8_readTable_vR uT utx vk vt vr)), .ref y3, .int (nI (f_X8_readTable_vP uT utx vk vt vr)), .ref y4, .ref y5, .int (nI (f_X8_readTable_vR uT utx vk vt vr)), .ref y6, .ref y7, .ref y8, .ref y9, .int (nI ua), .ref y10, .ref y11, .int (nI us), .ref y12, .ref y13, .long sd, .int z1, .int z2, .int z3, .int z4, .int z5, .int z6, .int z7, .ref y14])), (y1, .inl (cI, 40, .inl utx)), (y4, .inl (cI, 5, .inl (f_X8_readTable_vk uT utx vk vt vr))), (y5, .inl (cI, 5, .inl (f_X8_readTable_vt uT utx vk vt vr))), (y6, .inl (cI, 12, .inl (f_X8_readTable_vr uT utx vk vt vr))), (y2, .inl (cI, 5, .inl uk)), (y3, .inl (cI, 12, .inl ur)), (y7, .inl (cI, 15, .inl x35_0)), (y11, .inl (cZ, 2, .inl ik))] H → va_D A [(q0, .inr (8, [.int 0, .ref y1, .int (nI uT), .int (nI (f_X8_readTable_up uT utx vk vt vr)), .int (nI (f_X8_readTable_vP uT utx vk vt vr)), .ref y2, .int (nI (f_X8_readTable_vR uT utx vk vt vr)), .ref y3, .int (nI (f_X8_readTable_vP uT utx vk vt vr)), .ref y4, .ref y5, .int (nI (f_X8_readTable_vR uT utx vk vt vr)), .ref y6, .ref y7, .ref y8, .ref y9, .int (nI ua), .ref y10, .ref y11, .int (nI us), .ref y12, .ref y13, .long sd, .int z1, .int z2, .int z3, .int z4, .int z5, .int z6, .int z7, .ref y14])), (y1, .inl (cI, 40, .inl utx)), (y4, .inl (cI, 5, .inl (f_X8_readTable_vk uT utx vk vt vr))), (y5, .inl (cI, 5, .inl (f_X8_readTable_vt uT utx vk vt vr))), (y6, .inl (cI, 12, .inl (f_X8_readTable_vr uT utx vk vt vr))), (y2, .inl (cI, 5, .inl uk)), (y3, .inl (cI, 12, .inl ur)), (y7, .inl (cI, 15, .inl x35_0)), (y11, .inl (cZ, 2, .inl ik))] → va_S A s.heap H locs → lv_has ls 2 [(1, .int (nI k35)), (0, .ref q0)] → W p l e (mR 5 111) s m args below meth c H locs 0 0 Q (F0 m 35 ls []) := by
      intro n_35
      induction n_35 with
      | zero => intro k35 x35_0 H locs ls hk_35 hn_35 hB_35 hP hD hS hl; exact absurd hn_35 (Nat.not_lt_zero _)
      | succ n_35 ih_35 =>
        intro k35 x35_0 H locs ls hk_35 hn_35 hB_35 hP hD hS hl
        refine lv_iload_n hx hb dX8_table_35 rfl (lv_at hl 0 rfl) ?_
        refine lv_bipush (v := 15) hx hb dX8_table_36 (by decide) ?_
        refine lv_icmp_ge (tgt := 54) hx hb dX8_table_38 (by decide) (fun c_2 => ?_) (fun c_2 => ?_)
        · have o_2 : 15 ≤ k35 := (cle (nf_c 15) (rfl : nI k35 = nI k35) (by omega) (by omega)).mp c_2
          have hkN : 15 = k35 := by omega
          subst hkN
          subst hB_35
          refine lv_iconst (v := 0) hx hb dX8_table_54 (by decide) ?_
          refine lv_istore_n (lv' := [(1, .int 0), (0, .ref q0)]) hx hb dX8_table_55 rfl hl (by decide) rfl (fun ls hl => ?_)
          have LOOP_56 : ∀ (n_56 k56 : Nat) (x56_0 : Nat → Int32) (x56_1 : Nat → Int32) (H : Heap) (locs : List Loc) (ls : Array Slot), k56 ≤ (f_X8_readTable_vP uT utx vk vt vr) → (f_X8_readTable_vP uT utx vk vt vr) - k56 < n_56 → (B_X8_table_56 uT utx vk vt vr uk ((B_X8_table_35 pg 15)) k56) = (x56_0, x56_1) → va_P D vwCl [(q0, .inr (8, [.int 0, .ref y1, .int (nI uT), .int (nI (f_X8_readTable_up uT utx vk vt vr)), .int (nI (f_X8_readTable_vP uT utx vk vt vr)), .ref y2, .int (nI (f_X8_readTable_vR uT utx vk vt vr)), .ref y3, .int (nI (f_X8_readTable_vP uT utx vk vt vr)), .ref y4, .ref y5, .int (nI (f_X8_readTable_vR uT utx vk vt vr)), .ref y6, .ref y7, .ref y8, .ref y9, .int (nI ua), .ref y10, .ref y11, .int (nI us), .ref y12, .ref y13, .long sd, .int z1, .int z2, .int z3, .int z4, .int z5, .int z6, .int z7, .ref y14])), (y1, .inl (cI, 40, .inl utx)), (y4, .inl (cI, 5, .inl (f_X8_readTable_vk uT utx vk vt vr))), (y5, .inl (cI, 5, .inl (f_X8_readTable_vt uT utx vk vt vr))), (y6, .inl (cI, 12, .inl (f_X8_readTable_vr uT utx vk vt vr))), (y2, .inl (cI, 5, .inl x56_0)), (y3, .inl (cI, 12, .inl ur)), (y7, .inl (cI, 15, .inl x56_1)), (y11, .inl (cZ, 2, .inl ik))] H → va_D A [(q0, .inr (8, [.int 0, .ref y1, .int (nI uT), .int (nI (f_X8_readTable_up uT utx vk vt vr)), .int (nI (f_X8_readTable_vP uT utx vk vt vr)), .ref y2, .int (nI (f_X8_readTable_vR uT utx vk vt vr)), .ref y3, .int (nI (f_X8_readTable_vP uT utx vk vt vr)), .ref y4, .ref y5, .int (nI (f_X8_readTable_vR uT utx vk vt vr)), .ref y6, .ref y7, .ref y8, .ref y9, .int (nI ua), .ref y10, .ref y11, .int (nI us), .ref y12, .ref y13, .long sd, .int z1, .int z2, .int z3, .int z4, .int z5, .int z6, .int z7, .ref y14])), (y1, .inl (cI, 40, .inl utx)), (y4, .inl (cI, 5, .inl (f_X8_readTable_vk uT utx vk vt vr))), (y5, .inl (cI, 5, .inl (f_X8_readTable_vt uT utx vk vt vr))), (y6, .inl (cI, 12, .inl (f_X8_readTable_vr uT utx vk vt vr))), (y2, .inl (cI, 5, .inl x56_0)), (y3, .inl (cI, 12, .inl ur)), (y7, .inl (cI, 15, .inl x56_1)), (y11, .inl (cZ, 2, .inl ik))] → va_S A s.heap H locs → lv_has ls 2 [(1, .int (nI k56)), (0, .ref q0)] → W p l e (mR 5 111) s m args below meth c H locs 0 0 Q (F0 m 56 ls []) := by
            intro n_56
            induction n_56 with
            | zero => intro k56 x56_0 x56_1 H locs ls hk_56 hn_56 hB_56 hP hD hS hl; exact absurd hn_56 (Nat.not_lt_zero _)
            | succ n_56 ih_56 =>
              intro k56 x56_0 x56_1 H locs ls hk_56 hn_56 hB_56 hP hD hS hl
              refine lv_iload_n hx hb dX8_table_56 rfl (lv_at hl 0 rfl) ?_
              refine lv_aload_n hx hb dX8_table_57 rfl (lv_at hl 1 rfl) ?_
              refine r_get (C := RX8) (T := TX8) (N := 31) (v := .int (nI (f_X8_readTable_vP uT utx vk vt vr))) CF hE hP 0 rfl rfl inG8 4 (by decide) tw_3_119 rfl rfl dX8_table_58 ?_
              refine lv_icmp_ge (tgt := 105) hx hb dX8_table_61 (by decide) (fun c_3 => ?_) (fun c_3 => ?_)
              · have o_3 : (f_X8_readTable_vP uT utx vk vt vr) ≤ k56 := (cle (rfl : nI (f_X8_readTable_vP uT utx vk vt vr) = nI (f_X8_readTable_vP uT utx vk vt vr)) (rfl : nI k56 = nI k56) (by omega) (by omega)).mp c_3
                have hkN : (f_X8_readTable_vP uT utx vk vt vr) = k56 := by omega
                subst hkN
                obtain ⟨rfl, rfl⟩ : x56_0 = (B_X8_table_56 uT utx vk vt vr uk ((B_X8_table_35 pg 15)) (f_X8_readTable_vP uT utx vk vt vr)).1 ∧ x56_1 = (B_X8_table_56 uT utx vk vt vr uk ((B_X8_table_35 pg 15)) (f_X8_readTable_vP uT utx vk vt vr)).2 := by rw [hB_56]; exact ⟨rfl, rfl⟩
                refine lv_iconst (v := 0) hx hb dX8_table_105 (by decide) ?_
                refine lv_istore_n (lv' := [(1, .int 0), (0, .ref q0)]) hx hb dX8_table_106 rfl hl (by decide) rfl (fun ls hl => ?_)
                have LOOP_107 : ∀ (n_107 k107 : Nat) (x107_0 : Nat → Int32) (H : Heap) (locs : List Loc) (ls : Array Slot), k107 ≤ 3 * (f_X8_readTable_vR uT utx vk vt vr) → 3 * (f_X8_readTable_vR uT utx vk vt vr) - k107 < n_107 → (B_X8_table_107 uT utx vk vt vr ur k107) = x107_0 → va_P D vwCl [(q0, .inr (8, [.int 0, .ref y1, .int (nI uT), .int (nI (f_X8_readTable_up uT utx vk vt vr)), .int (nI (f_X8_readTable_vP uT utx vk vt vr)), .ref y2, .int (nI (f_X8_readTable_vR uT utx vk vt vr)), .ref y3, .int (nI (f_X8_readTable_vP uT utx vk vt vr)), .ref y4, .ref y5, .int (nI (f_X8_readTable_vR uT utx vk vt vr)), .ref y6, .ref y7, .ref y8, .ref y9, .int (nI ua), .ref y10, .ref y11, .int (nI us), .ref y12, .ref y13, .long sd, .int z1, .int z2, .int z3, .int z4, .int z5, .int z6, .int z7, .ref y14])), (y1, .inl (cI, 40, .inl utx)), (y4, .inl (cI, 5, .inl (f_X8_readTable_vk uT utx vk vt vr))), (y5, .inl (cI, 5, .inl (f_X8_readTable_vt uT utx vk vt vr))), (y6, .inl (cI, 12, .inl (f_X8_readTable_vr uT utx vk vt vr))), (y2, .inl (cI, 5, .inl ((B_X8_table_56 uT utx vk vt vr uk ((B_X8_table_35 pg 15)) (f_X8_readTable_vP uT utx vk vt vr)).1))), (y3, .inl (cI, 12, .inl x107_0)), (y7, .inl (cI, 15, .inl ((B_X8_table_56 uT utx vk vt vr uk ((B_X8_table_35 pg 15)) (f_X8_readTable_vP uT utx vk vt vr)).2))), (y11, .inl (cZ, 2, .inl ik))] H → va_D A [(q0, .inr (8, [.int 0, .ref y1, .int (nI uT), .int (nI (f_X8_readTable_up uT utx vk vt vr)), .int (nI (f_X8_readTable_vP uT utx vk vt vr)), .ref y2, .int (nI (f_X8_readTable_vR uT utx vk vt vr)), .ref y3, .int (nI (f_X8_readTable_vP uT utx vk vt vr)), .ref y4, .ref y5, .int (nI (f_X8_readTable_vR uT utx vk vt vr)), .ref y6, .ref y7, .ref y8, .ref y9, .int (nI ua), .ref y10, .ref y11, .int (nI us), .ref y12, .ref y13, .long sd, .int z1, .int z2, .int z3, .int z4, .int z5, .int z6, .int z7, .ref y14])), (y1, .inl (cI, 40, .inl utx)), (y4, .inl (cI, 5, .inl (f_X8_readTable_vk uT utx vk vt vr))), (y5, .inl (cI, 5, .inl (f_X8_readTable_vt uT utx vk vt vr))), (y6, .inl (cI, 12, .inl (f_X8_readTable_vr uT utx vk vt vr))), (y2, .inl (cI, 5, .inl ((B_X8_table_56 uT utx vk vt vr uk ((B_X8_table_35 pg 15)) (f_X8_readTable_vP uT utx vk vt vr)).1))), (y3, .inl (cI, 12, .inl x107_0)), (y7, .inl (cI, 15, .inl ((B_X8_table_56 uT utx vk vt vr uk ((B_X8_table_35 pg 15)) (f_X8_readTable_vP uT utx vk vt vr)).2))), (y11, .inl (cZ, 2, .inl ik))] → va_S A s.heap H locs → lv_has ls 2 [(1, .int (nI k107)), (0, .ref q0)] → W p l e (mR 5 111) s m args below meth c H locs 0 0 Q (F0 m 107 ls []) := by
                  intro n_107
                  induction n_107 with
                  | zero => intro k107 x107_0 H locs ls hk_107 hn_107 hB_107 hP hD hS hl; exact absurd hn_107 (Nat.not_lt_zero _)
                  | succ n_107 ih_107 =>
                    intro k107 x107_0 H locs ls hk_107 hn_107 hB_107 hP hD hS hl
                    refine lv_iload_n hx hb dX8_table_107 rfl (lv_at hl 0 rfl) ?_
                    refine lv_iconst (v := 3) hx hb dX8_table_108 (by decide) ?_
                    refine lv_aload_n hx hb dX8_table_109 rfl (lv_at hl 1 rfl) ?_
                    refine r_get (C := RX8) (T := TX8) (N := 31) (v := .int (nI (f_X8_readTable_vR uT utx vk vt vr))) CF hE hP 0 rfl rfl inG8 6 (by decide) tw_3_121 rfl rfl dX8_table_110 ?_
                    refine lv_imul hx hb dX8_table_113 ?_
                    refine lv_icmp_ge (tgt := 135) hx hb dX8_table_114 (by decide) (fun c_4 => ?_) (fun c_4 => ?_)
                    · have o_4 : (3 * (f_X8_readTable_vR uT utx vk vt vr)) ≤ k107 := (cle (nf_mul (nf_c 3) (rfl : nI (f_X8_readTable_vR uT utx vk vt vr) = nI (f_X8_readTable_vR uT utx vk vt vr))) (rfl : nI k107 = nI k107) (by omega) (by omega)).mp c_4
                      have hkN : (3 * (f_X8_readTable_vR uT utx vk vt vr)) = k107 := by omega
                      subst hkN
                      subst hB_107
                      refine lv_aload_n hx hb dX8_table_135 rfl (lv_at hl 1 rfl) ?_
                      refine lv_iconst (v := 0) hx hb dX8_table_136 (by decide) ?_
                      refine lv_as (z := (nI 0)) (nf_c 0) ?_
                      refine r_put (C := RX8) (T := TX8) (N := 31) (ws' := [(q0, .inr (8, [.int 0, .ref y1, .int (nI uT), .int (nI (f_X8_readTable_up uT utx vk vt vr)), .int (nI (f_X8_readTable_vP uT utx vk vt vr)), .ref y2, .int (nI (f_X8_readTable_vR uT utx vk vt vr)), .ref y3, .int (nI (f_X8_readTable_vP uT utx vk vt vr)), .ref y4, .ref y5, .int (nI (f_X8_readTable_vR uT utx vk vt vr)), .ref y6, .ref y7, .ref y8, .ref y9, .int (nI 0), .ref y10, .ref y11, .int (nI us), .ref y12, .ref y13, .long sd, .int z1, .int z2, .int z3, .int z4, .int z5, .int z6, .int z7, .ref y14])), (y1, .inl (cI, 40, .inl utx)), (y4, .inl (cI, 5, .inl (f_X8_readTable_vk uT utx vk vt vr))), (y5, .inl (cI, 5, .inl (f_X8_readTable_vt uT utx vk vt vr))), (y6, .inl (cI, 12, .inl (f_X8_readTable_vr uT utx vk vt vr))), (y2, .inl (cI, 5, .inl ((B_X8_table_56 uT utx vk vt vr uk ((B_X8_table_35 pg 15)) (f_X8_readTable_vP uT utx vk vt vr)).1))), (y3, .inl (cI, 12, .inl ((B_X8_table_107 uT utx vk vt vr ur (3 * (f_X8_readTable_vR uT utx vk vt vr)))))), (y7, .inl (cI, 15, .inl ((B_X8_table_56 uT utx vk vt vr uk ((B_X8_table_35 pg 15)) (f_X8_readTable_vP uT utx vk vt vr)).2))), (y11, .inl (cZ, 2, .inl ik))]) CF hE hP hD hS 0 rfl rfl inG8 tyX8 tyX8_ok nmX8 16 (by decide) tw_3_131 rfl rfl rfl rfl (Nat.le_of_ble_eq_true rfl) dX8_table_137 rfl (fun H locs hP hD hS => ?_)
                      refine lv_aload_n hx hb dX8_table_140 rfl (lv_at hl 1 rfl) ?_
                      refine r_get (C := RX8) (T := TX8) (N := 31) (v := .ref y11) CF hE hP 0 rfl rfl inG8 18 (by decide) tw_3_133 rfl rfl dX8_table_141 ?_
                      refine lv_iconst (v := 0) hx hb dX8_table_144 (by decide) ?_
                      refine lv_iconst (v := 0) hx hb dX8_table_145 (by decide) ?_
                      refine r_zast (k := 2) (f := ik) (ws' := [(q0, .inr (8, [.int 0, .ref y1, .int (nI uT), .int (nI (f_X8_readTable_up uT utx vk vt vr)), .int (nI (f_X8_readTable_vP uT utx vk vt vr)), .ref y2, .int (nI (f_X8_readTable_vR uT utx vk vt vr)), .ref y3, .int (nI (f_X8_readTable_vP uT utx vk vt vr)), .ref y4, .ref y5, .int (nI (f_X8_readTable_vR uT utx vk vt vr)), .ref y6, .ref y7, .ref y8, .ref y9, .int (nI 0), .ref y10, .ref y11, .int (nI us), .ref y12, .ref y13, .long sd, .int z1, .int z2, .int z3, .int z4, .int z5, .int z6, .int z7, .ref y14])), (y1, .inl (cI, 40, .inl utx)), (y4, .inl (cI, 5, .inl (f_X8_readTable_vk uT utx vk vt vr))), (y5, .inl (cI, 5, .inl (f_X8_readTable_vt uT utx vk vt vr))), (y6, .inl (cI, 12, .inl (f_X8_readTable_vr uT utx vk vt vr))), (y2, .inl (cI, 5, .inl ((B_X8_table_56 uT utx vk vt vr uk ((B_X8_table_35 pg 15)) (f_X8_readTable_vP uT utx vk vt vr)).1))), (y3, .inl (cI, 12, .inl ((B_X8_table_107 uT utx vk vt vr ur (3 * (f_X8_readTable_vR uT utx vk vt vr)))))), (y7, .inl (cI, 15, .inl ((B_X8_table_56 uT utx vk vt vr uk ((B_X8_table_35 pg 15)) (f_X8_readTable_vP uT utx vk vt vr)).2))), (y11, .inl (cZ, 2, .inl (upd ik 0 0)))]) CF hE hP hD hS 8 rfl 0 (nf_c 0) (by omega) (by decide) rfl dX8_table_146 rfl (fun H locs hP hD hS => ?_)
                      refine lv_aload_n hx hb dX8_table_147 rfl (lv_at hl 1 rfl) ?_
                      refine r_get (C := RX8) (T := TX8) (N := 31) (v := .ref y11) CF hE hP 0 rfl rfl inG8 18 (by decide) tw_3_133 rfl rfl dX8_table_148 ?_
                      refine lv_iconst (v := 1) hx hb dX8_table_151 (by decide) ?_
                      refine lv_iconst (v := 0) hx hb dX8_table_152 (by decide) ?_
                      refine r_zast (k := 2) (f := (upd ik 0 0)) (ws' := [(q0, .inr (8, [.int 0, .ref y1, .int (nI uT), .int (nI (f_X8_readTable_up uT utx vk vt vr)), .int (nI (f_X8_readTable_vP uT utx vk vt vr)), .ref y2, .int (nI (f_X8_readTable_vR uT utx vk vt vr)), .ref y3, .int (nI (f_X8_readTable_vP uT utx vk vt vr)), .ref y4, .ref y5, .int (nI (f_X8_readTable_vR uT utx vk vt vr)), .ref y6, .ref y7, .ref y8, .ref y9, .int (nI 0), .ref y10, .ref y11, .int (nI us), .ref y12, .ref y13, .long sd, .int z1, .int z2, .int z3, .int z4, .int z5, .int z6, .int z7, .ref y14])), (y1, .inl (cI, 40, .inl utx)), (y4, .inl (cI, 5, .inl (f_X8_readTable_vk uT utx vk vt vr))), (y5, .inl (cI, 5, .inl (f_X8_readTable_vt uT utx vk vt vr))), (y6, .inl (cI, 12, .inl (f_X8_readTable_vr uT utx vk vt vr))), (y2, .inl (cI, 5, .inl ((B_X8_table_56 uT utx vk vt vr uk ((B_X8_table_35 pg 15)) (f_X8_readTable_vP uT utx vk vt vr)).1))), (y3, .inl (cI, 12, .inl ((B_X8_table_107 uT utx vk vt vr ur (3 * (f_X8_readTable_vR uT utx vk vt vr)))))), (y7, .inl (cI, 15, .inl ((B_X8_table_56 uT utx vk vt vr uk ((B_X8_table_35 pg 15)) (f_X8_readTable_vP uT utx vk vt vr)).2))), (y11, .inl (cZ, 2, .inl (upd (upd ik 0 0) 1 0)))]) CF hE hP hD hS 8 rfl 1 (nf_c 1) (by omega) (by decide) rfl dX8_table_153 rfl (fun H locs hP hD hS => ?_)
                      refine lv_bipush (v := 10) hx hb dX8_table_154 (by decide) ?_
                      refine lv_aload_n hx hb dX8_table_156 rfl (lv_at hl 1 rfl) ?_
                      refine r_get (C := RX8) (T := TX8) (N := 31) (v := .int (nI (f_X8_readTable_vP uT utx vk vt vr))) CF hE hP 0 rfl rfl inG8 4 (by decide) tw_3_119 rfl rfl dX8_table_157 ?_
                      refine lv_imul hx hb dX8_table_160 ?_
                      refine lv_aload_n hx hb dX8_table_161 rfl (lv_at hl 1 rfl) ?_
                      refine r_get (C := RX8) (T := TX8) (N := 31) (v := .int (nI (f_X8_readTable_vR uT utx vk vt vr))) CF hE hP 0 rfl rfl inG8 6 (by decide) tw_3_121 rfl rfl dX8_table_162 ?_
                      refine lv_iadd hx hb dX8_table_165 ?_
                      have e_0 : (f_X8_table_th uT utx vk vt vr) = 0 := by rw [f_X8_table_th, if_pos c_1]
                      have e_1 : (f_X8_table_up uT utx vk vt vr) = (f_X8_readTable_up uT utx vk vt vr) := by rw [f_X8_table_up, if_pos c_1]
                      have e_2 : (f_X8_table_vP uT utx vk vt vr) = (f_X8_readTable_vP uT utx vk vt vr) := by rw [f_X8_table_vP, if_pos c_1]
                      have e_3 : (f_X8_table_vR uT utx vk vt vr) = (f_X8_readTable_vR uT utx vk vt vr) := by rw [f_X8_table_vR, if_pos c_1]
                      have e_4 : (f_X8_table_vk uT utx vk vt vr) = (f_X8_readTable_vk uT utx vk vt vr) := by rw [f_X8_table_vk, if_pos c_1]
                      have e_5 : (f_X8_table_vt uT utx vk vt vr) = (f_X8_readTable_vt uT utx vk vt vr) := by rw [f_X8_table_vt, if_pos c_1]
                      have e_6 : (f_X8_table_vr uT utx vk vt vr) = (f_X8_readTable_vr uT utx vk vt vr) := by rw [f_X8_table_vr, if_pos c_1]
                      have e_7 : (f_X8_table_uP uT uP utx vk vt vr) = (f_X8_readTable_vP uT utx vk vt vr) := by rw [f_X8_table_uP, if_pos c_1]
                      have e_8 : (f_X8_table_uR uT uR utx vk vt vr) = (f_X8_readTable_vR uT utx vk vt vr) := by rw [f_X8_table_uR, if_pos c_1]
                      have e_9 : (f_X8_table_uk uT utx vk vt vr uk pg) = ((B_X8_table_56 uT utx vk vt vr uk ((B_X8_table_35 pg 15)) (f_X8_readTable_vP uT utx vk vt vr)).1) := by rw [f_X8_table_uk, if_pos c_1]
                      have e_10 : (f_X8_table_ur uT utx vk vt vr ur) = ((B_X8_table_107 uT utx vk vt vr ur (3 * (f_X8_readTable_vR uT utx vk vt vr)))) := by rw [f_X8_table_ur, if_pos c_1]
                      have e_11 : (f_X8_table_pg uT utx vk vt vr uk pg) = ((B_X8_table_56 uT utx vk vt vr uk ((B_X8_table_35 pg 15)) (f_X8_readTable_vP uT utx vk vt vr)).2) := by rw [f_X8_table_pg, if_pos c_1]
                      have e_12 : (f_X8_table_ua uT ua utx vk vt vr) = 0 := by rw [f_X8_table_ua, if_pos c_1]
                      have e_13 : (f_X8_table_ik uT utx vk vt vr ik) = (upd (upd ik 0 0) 1 0) := by rw [f_X8_table_ik, if_pos c_1]
                      exact mu_reti CF hQ hr hlk rfl hP hS dX8_table_166 (by rw [f_X8_table, if_pos c_1]) (by rw [e_0, e_1, e_2, e_3, e_4, e_5, e_6, e_7, e_8, e_9, e_10, e_11, e_12, e_13])
                    · have o_4 : ¬ (3 * (f_X8_readTable_vR uT utx vk vt vr)) ≤ k107 := fun h => c_4 ((cle (nf_mul (nf_c 3) (rfl : nI (f_X8_readTable_vR uT utx vk vt vr) = nI (f_X8_readTable_vR uT utx vk vt vr))) (rfl : nI k107 = nI k107) (by omega) (by omega)).mpr h)
                      refine lv_aload_n hx hb dX8_table_117 rfl (lv_at hl 1 rfl) ?_
                      refine r_get (C := RX8) (T := TX8) (N := 31) (v := .ref y3) CF hE hP 0 rfl rfl inG8 7 (by decide) tw_3_122 rfl rfl dX8_table_118 ?_
                      refine lv_iload_n hx hb dX8_table_121 rfl (lv_at hl 0 rfl) ?_
                      refine lv_aload_n hx hb dX8_table_122 rfl (lv_at hl 1 rfl) ?_
                      refine r_get (C := RX8) (T := TX8) (N := 31) (v := .ref y6) CF hE hP 0 rfl rfl inG8 12 (by decide) tw_3_127 rfl rfl dX8_table_123 ?_
                      refine lv_iload_n hx hb dX8_table_126 rfl (lv_at hl 0 rfl) ?_
                      refine r_iald (k := 12) (f := (f_X8_readTable_vr uT utx vk vt vr)) CF hE hP 4 rfl k107 (rfl : nI k107 = nI k107) (by omega) (by decide) dX8_table_127 ?_
                      refine r_iast (k := 12) (f := x107_0) (ws' := [(q0, .inr (8, [.int 0, .ref y1, .int (nI uT), .int (nI (f_X8_readTable_up uT utx vk vt vr)), .int (nI (f_X8_readTable_vP uT utx vk vt vr)), .ref y2, .int (nI (f_X8_readTable_vR uT utx vk vt vr)), .ref y3, .int (nI (f_X8_readTable_vP uT utx vk vt vr)), .ref y4, .ref y5, .int (nI (f_X8_readTable_vR uT utx vk vt vr)), .ref y6, .ref y7, .ref y8, .ref y9, .int (nI ua), .ref y10, .ref y11, .int (nI us), .ref y12, .ref y13, .long sd, .int z1, .int z2, .int z3, .int z4, .int z5, .int z6, .int z7, .ref y14])), (y1, .inl (cI, 40, .inl utx)), (y4, .inl (cI, 5, .inl (f_X8_readTable_vk uT utx vk vt vr))), (y5, .inl (cI, 5, .inl (f_X8_readTable_vt uT utx vk vt vr))), (y6, .inl (cI, 12, .inl (f_X8_readTable_vr uT utx vk vt vr))), (y2, .inl (cI, 5, .inl ((B_X8_table_56 uT utx vk vt vr uk ((B_X8_table_35 pg 15)) (f_X8_readTable_vP uT utx vk vt vr)).1))), (y3, .inl (cI, 12, .inl (upd x107_0 k107 ((f_X8_readTable_vr uT utx vk vt vr) k107)))), (y7, .inl (cI, 15, .inl ((B_X8_table_56 uT utx vk vt vr uk ((B_X8_table_35 pg 15)) (f_X8_readTable_vP uT utx vk vt vr)).2))), (y11, .inl (cZ, 2, .inl ik))]) CF hE hP hD hS 6 rfl k107 (rfl : nI k107 = nI k107) (by omega) (by decide) dX8_table_128 rfl (fun H locs hP hD hS => ?_)
                      refine lv_iinc (v := (nI (k107 + 1))) (lv' := [(1, .int (nI (k107 + 1))), (0, .ref q0)]) hx hb dX8_table_129 hl (k := 0) rfl (nf_inc 1 (rfl : nI k107 = nI k107)) (by decide) rfl (fun ls hl => ?_)
                      refine lv_goto (tgt := 107) hx hb dX8_table_132 (by decide) ?_
                      have hB2 : B_X8_table_107 uT utx vk vt vr ur (k107 + 1) = (upd x107_0 k107 ((f_X8_readTable_vr uT utx vk vt vr) k107)) := by
                        rw [B_X8_table_107, hB_107]
                        rw [S_X8_table_107]
                      exact ih_107 (k107 + 1) (upd x107_0 k107 ((f_X8_readTable_vr uT utx vk vt vr) k107)) _ _ _ (by omega) (by omega) hB2 hP hD hS (lv_sub hl [0, 1] rfl)
                have e_k : 0 = nI (0) := (nf_c 0).trans (congrArg nI (by omega))
                rw [e_k] at hl
                exact LOOP_107 ((3 * (f_X8_readTable_vR uT utx vk vt vr)) - 0 + 1) 0 ur _ _ _ (Nat.zero_le _) (by omega) rfl hP hD hS (lv_sub hl [0, 1] rfl)
              · have o_3 : ¬ (f_X8_readTable_vP uT utx vk vt vr) ≤ k56 := fun h => c_3 ((cle (rfl : nI (f_X8_readTable_vP uT utx vk vt vr) = nI (f_X8_readTable_vP uT utx vk vt vr)) (rfl : nI k56 = nI k56) (by omega) (by omega)).mpr h)
                refine lv_aload_n hx hb dX8_table_64 rfl (lv_at hl 1 rfl) ?_
                refine r_get (C := RX8) (T := TX8) (N := 31) (v := .ref y2) CF hE hP 0 rfl rfl inG8 5 (by decide) tw_3_120 rfl rfl dX8_table_65 ?_
                refine lv_iload_n hx hb dX8_table_68 rfl (lv_at hl 0 rfl) ?_
                refine lv_aload_n hx hb dX8_table_69 rfl (lv_at hl 1 rfl) ?_
                refine r_get (C := RX8) (T := TX8) (N := 31) (v := .ref y4) CF hE hP 0 rfl rfl inG8 9 (by decide) tw_3_124 rfl rfl dX8_table_70 ?_
                refine lv_iload_n hx hb dX8_table_73 rfl (lv_at hl 0 rfl) ?_
                refine r_iald (k := 5) (f := (f_X8_readTable_vk uT utx vk vt vr)) CF hE hP 2 rfl k56 (rfl : nI k56 = nI k56) (by omega) (by decide) dX8_table_74 ?_
                refine r_iast (k := 5) (f := x56_0) (ws' := [(q0, .inr (8, [.int 0, .ref y1, .int (nI uT), .int (nI (f_X8_readTable_up uT utx vk vt vr)), .int (nI (f_X8_readTable_vP uT utx vk vt vr)), .ref y2, .int (nI (f_X8_readTable_vR uT utx vk vt vr)), .ref y3, .int (nI (f_X8_readTable_vP uT utx vk vt vr)), .ref y4, .ref y5, .int (nI (f_X8_readTable_vR uT utx vk vt vr)), .ref y6, .ref y7, .ref y8, .ref y9, .int (nI ua), .ref y10, .ref y11, .int (nI us), .ref y12, .ref y13, .long sd, .int z1, .int z2, .int z3, .int z4, .int z5, .int z6, .int z7, .ref y14])), (y1, .inl (cI, 40, .inl utx)), (y4, .inl (cI, 5, .inl (f_X8_readTable_vk uT utx vk vt vr))), (y5, .inl (cI, 5, .inl (f_X8_readTable_vt uT utx vk vt vr))), (y6, .inl (cI, 12, .inl (f_X8_readTable_vr uT utx vk vt vr))), (y2, .inl (cI, 5, .inl (upd x56_0 k56 ((f_X8_readTable_vk uT utx vk vt vr) k56)))), (y3, .inl (cI, 12, .inl ur)), (y7, .inl (cI, 15, .inl x56_1)), (y11, .inl (cZ, 2, .inl ik))]) CF hE hP hD hS 5 rfl k56 (rfl : nI k56 = nI k56) (by omega) (by decide) dX8_table_75 rfl (fun H locs hP hD hS => ?_)
                refine lv_aload_n hx hb dX8_table_76 rfl (lv_at hl 1 rfl) ?_
                refine r_get (C := RX8) (T := TX8) (N := 31) (v := .ref y7) CF hE hP 0 rfl rfl inG8 13 (by decide) tw_3_128 rfl rfl dX8_table_77 ?_
                refine lv_iconst (v := 0) hx hb dX8_table_80 (by decide) ?_
                refine lv_iload_n hx hb dX8_table_81 rfl (lv_at hl 0 rfl) ?_
                refine lv_iadd hx hb dX8_table_82 ?_
                refine lv_aload_n hx hb dX8_table_83 rfl (lv_at hl 1 rfl) ?_
                refine r_get (C := RX8) (T := TX8) (N := 31) (v := .ref y5) CF hE hP 0 rfl rfl inG8 10 (by decide) tw_3_125 rfl rfl dX8_table_84 ?_
                refine lv_iload_n hx hb dX8_table_87 rfl (lv_at hl 0 rfl) ?_
                refine r_iald (k := 5) (f := (f_X8_readTable_vt uT utx vk vt vr)) CF hE hP 3 rfl k56 (rfl : nI k56 = nI k56) (by omega) (by decide) dX8_table_88 ?_
                refine r_iast (k := 15) (f := x56_1) (ws' := [(q0, .inr (8, [.int 0, .ref y1, .int (nI uT), .int (nI (f_X8_readTable_up uT utx vk vt vr)), .int (nI (f_X8_readTable_vP uT utx vk vt vr)), .ref y2, .int (nI (f_X8_readTable_vR uT utx vk vt vr)), .ref y3, .int (nI (f_X8_readTable_vP uT utx vk vt vr)), .ref y4, .ref y5, .int (nI (f_X8_readTable_vR uT utx vk vt vr)), .ref y6, .ref y7, .ref y8, .ref y9, .int (nI ua), .ref y10, .ref y11, .int (nI us), .ref y12, .ref y13, .long sd, .int z1, .int z2, .int z3, .int z4, .int z5, .int z6, .int z7, .ref y14])), (y1, .inl (cI, 40, .inl utx)), (y4, .inl (cI, 5, .inl (f_X8_readTable_vk uT utx vk vt vr))), (y5, .inl (cI, 5, .inl (f_X8_readTable_vt uT utx vk vt vr))), (y6, .inl (cI, 12, .inl (f_X8_readTable_vr uT utx vk vt vr))), (y2, .inl (cI, 5, .inl (upd x56_0 k56 ((f_X8_readTable_vk uT utx vk vt vr) k56)))), (y3, .inl (cI, 12, .inl ur)), (y7, .inl (cI, 15, .inl (upd x56_1 (0 + k56) ((f_X8_readTable_vt uT utx vk vt vr) k56)))), (y11, .inl (cZ, 2, .inl ik))]) CF hE hP hD hS 7 rfl (0 + k56) (nf_add (nf_c 0) (rfl : nI k56 = nI k56)) (by omega) (by decide) dX8_table_89 rfl (fun H locs hP hD hS => ?_)
                refine lv_aload_n hx hb dX8_table_90 rfl (lv_at hl 1 rfl) ?_
                refine r_get (C := RX8) (T := TX8) (N := 31) (v := .ref y7) CF hE hP 0 rfl rfl inG8 13 (by decide) tw_3_128 rfl rfl dX8_table_91 ?_
                refine lv_iconst (v := 5) hx hb dX8_table_94 (by decide) ?_
                refine lv_iload_n hx hb dX8_table_95 rfl (lv_at hl 0 rfl) ?_
                refine lv_iadd hx hb dX8_table_96 ?_
                refine lv_iload_n hx hb dX8_table_97 rfl (lv_at hl 0 rfl) ?_
                refine r_iast (k := 15) (f := (upd x56_1 (0 + k56) ((f_X8_readTable_vt uT utx vk vt vr) k56))) (ws' := [(q0, .inr (8, [.int 0, .ref y1, .int (nI uT), .int (nI (f_X8_readTable_up uT utx vk vt vr)), .int (nI (f_X8_readTable_vP uT utx vk vt vr)), .ref y2, .int (nI (f_X8_readTable_vR uT utx vk vt vr)), .ref y3, .int (nI (f_X8_readTable_vP uT utx vk vt vr)), .ref y4, .ref y5, .int (nI (f_X8_readTable_vR uT utx vk vt vr)), .ref y6, .ref y7, .ref y8, .ref y9, .int (nI ua), .ref y10, .ref y11, .int (nI us), .ref y12, .ref y13, .long sd, .int z1, .int z2, .int z3, .int z4, .int z5, .int z6, .int z7, .ref y14])), (y1, .inl (cI, 40, .inl utx)), (y4, .inl (cI, 5, .inl (f_X8_readTable_vk uT utx vk vt vr))), (y5, .inl (cI, 5, .inl (f_X8_readTable_vt uT utx vk vt vr))), (y6, .inl (cI, 12, .inl (f_X8_readTable_vr uT utx vk vt vr))), (y2, .inl (cI, 5, .inl (upd x56_0 k56 ((f_X8_readTable_vk uT utx vk vt vr) k56)))), (y3, .inl (cI, 12, .inl ur)), (y7, .inl (cI, 15, .inl (upd (upd x56_1 (0 + k56) ((f_X8_readTable_vt uT utx vk vt vr) k56)) (5 + k56) (nI k56)))), (y11, .inl (cZ, 2, .inl ik))]) CF hE hP hD hS 7 rfl (5 + k56) (nf_add (nf_c 5) (rfl : nI k56 = nI k56)) (by omega) (by decide) dX8_table_98 rfl (fun H locs hP hD hS => ?_)
                refine lv_iinc (v := (nI (k56 + 1))) (lv' := [(1, .int (nI (k56 + 1))), (0, .ref q0)]) hx hb dX8_table_99 hl (k := 0) rfl (nf_inc 1 (rfl : nI k56 = nI k56)) (by decide) rfl (fun ls hl => ?_)
                refine lv_goto (tgt := 56) hx hb dX8_table_102 (by decide) ?_
                have hB2 : B_X8_table_56 uT utx vk vt vr uk ((B_X8_table_35 pg 15)) (k56 + 1) = ((upd x56_0 k56 ((f_X8_readTable_vk uT utx vk vt vr) k56)), (upd (upd x56_1 (0 + k56) ((f_X8_readTable_vt uT utx vk vt vr) k56)) (5 + k56) (nI k56))) := by
                  rw [B_X8_table_56, hB_56]
                  show S_X8_table_56 uT utx vk vt vr k56 x56_0 x56_1 = _
                  rw [S_X8_table_56]
                exact ih_56 (k56 + 1) (upd x56_0 k56 ((f_X8_readTable_vk uT utx vk vt vr) k56)) (upd (upd x56_1 (0 + k56) ((f_X8_readTable_vt uT utx vk vt vr) k56)) (5 + k56) (nI k56)) _ _ _ (by omega) (by omega) hB2 hP hD hS (lv_sub hl [0, 1] rfl)
          have e_k : 0 = nI (0) := (nf_c 0).trans (congrArg nI (by omega))
          rw [e_k] at hl
          exact LOOP_56 ((f_X8_readTable_vP uT utx vk vt vr) - 0 + 1) 0 uk ((B_X8_table_35 pg 15)) _ _ _ (Nat.zero_le _) (by omega) rfl hP hD hS (lv_sub hl [0, 1] rfl)
        · have o_2 : ¬ 15 ≤ k35 := fun h => c_2 ((cle (nf_c 15) (rfl : nI k35 = nI k35) (by omega) (by omega)).mpr h)
          refine lv_aload_n hx hb dX8_table_41 rfl (lv_at hl 1 rfl) ?_
          refine r_get (C := RX8) (T := TX8) (N := 31) (v := .ref y7) CF hE hP 0 rfl rfl inG8 13 (by decide) tw_3_128 rfl rfl dX8_table_42 ?_
          refine lv_iload_n hx hb dX8_table_45 rfl (lv_at hl 0 rfl) ?_
          refine lv_iconst (v := 0) hx hb dX8_table_46 (by decide) ?_
          refine r_iast (k := 15) (f := x35_0) (ws' := [(q0, .inr (8, [.int 0, .ref y1, .int (nI uT), .int (nI (f_X8_readTable_up uT utx vk vt vr)), .int (nI (f_X8_readTable_vP uT utx vk vt vr)), .ref y2, .int (nI (f_X8_readTable_vR uT utx vk vt vr)), .ref y3, .int (nI (f_X8_readTable_vP uT utx vk vt vr)), .ref y4, .ref y5, .int (nI (f_X8_readTable_vR uT utx vk vt vr)), .ref y6, .ref y7, .ref y8, .ref y9, .int (nI ua), .ref y10, .ref y11, .int (nI us), .ref y12, .ref y13, .long sd, .int z1, .int z2, .int z3, .int z4, .int z5, .int z6, .int z7, .ref y14])), (y1, .inl (cI, 40, .inl utx)), (y4, .inl (cI, 5, .inl (f_X8_readTable_vk uT utx vk vt vr))), (y5, .inl (cI, 5, .inl (f_X8_readTable_vt uT utx vk vt vr))), (y6, .inl (cI, 12, .inl (f_X8_readTable_vr uT utx vk vt vr))), (y2, .inl (cI, 5, .inl uk)), (y3, .inl (cI, 12, .inl ur)), (y7, .inl (cI, 15, .inl (upd x35_0 k35 0))), (y11, .inl (cZ, 2, .inl ik))]) CF hE hP hD hS 7 rfl k35 (rfl : nI k35 = nI k35) (by omega) (by decide) dX8_table_47 rfl (fun H locs hP hD hS => ?_)
          refine lv_iinc (v := (nI (k35 + 1))) (lv' := [(1, .int (nI (k35 + 1))), (0, .ref q0)]) hx hb dX8_table_48 hl (k := 0) rfl (nf_inc 1 (rfl : nI k35 = nI k35)) (by decide) rfl (fun ls hl => ?_)
          refine lv_goto (tgt := 35) hx hb dX8_table_51 (by decide) ?_
          have hB2 : B_X8_table_35 pg (k35 + 1) = (upd x35_0 k35 0) := by
            rw [B_X8_table_35, hB_35]
            rw [S_X8_table_35]
          exact ih_35 (k35 + 1) (upd x35_0 k35 0) _ _ _ (by omega) (by omega) hB2 hP hD hS (lv_sub hl [0, 1] rfl)
    have e_k : 0 = nI (0) := (nf_c 0).trans (congrArg nI (by omega))
    rw [e_k] at hl
    exact LOOP_35 (15 - 0 + 1) 0 pg _ _ _ (Nat.zero_le _) (by omega) rfl hP hD hS (lv_sub hl [0, 1] rfl)
  · refine lv_bipush (v := (-3)) hx hb dX8_table_14 (by decide) ?_
    have e_0 : (f_X8_table_th uT utx vk vt vr) = 0 := by rw [f_X8_table_th, if_neg c_1]
    have e_1 : (f_X8_table_up uT utx vk vt vr) = (f_X8_readTable_up uT utx vk vt vr) := by rw [f_X8_table_up, if_neg c_1]
    have e_2 : (f_X8_table_vP uT utx vk vt vr) = (f_X8_readTable_vP uT utx vk vt vr) := by rw [f_X8_table_vP, if_neg c_1]
    have e_3 : (f_X8_table_vR uT utx vk vt vr) = (f_X8_readTable_vR uT utx vk vt vr) := by rw [f_X8_table_vR, if_neg c_1]
    have e_4 : (f_X8_table_vk uT utx vk vt vr) = (f_X8_readTable_vk uT utx vk vt vr) := by rw [f_X8_table_vk, if_neg c_1]
    have e_5 : (f_X8_table_vt uT utx vk vt vr) = (f_X8_readTable_vt uT utx vk vt vr) := by rw [f_X8_table_vt, if_neg c_1]
    have e_6 : (f_X8_table_vr uT utx vk vt vr) = (f_X8_readTable_vr uT utx vk vt vr) := by rw [f_X8_table_vr, if_neg c_1]
    have e_7 : (f_X8_table_uP uT uP utx vk vt vr) = uP := by rw [f_X8_table_uP, if_neg c_1]
    have e_8 : (f_X8_table_uR uT uR utx vk vt vr) = uR := by rw [f_X8_table_uR, if_neg c_1]
    have e_9 : (f_X8_table_uk uT utx vk vt vr uk pg) = uk := by rw [f_X8_table_uk, if_neg c_1]
    have e_10 : (f_X8_table_ur uT utx vk vt vr ur) = ur := by rw [f_X8_table_ur, if_neg c_1]
    have e_11 : (f_X8_table_pg uT utx vk vt vr uk pg) = pg := by rw [f_X8_table_pg, if_neg c_1]
    have e_12 : (f_X8_table_ua uT ua utx vk vt vr) = ua := by rw [f_X8_table_ua, if_neg c_1]
    have e_13 : (f_X8_table_ik uT utx vk vt vr ik) = ik := by rw [f_X8_table_ik, if_neg c_1]
    exact mu_reti CF hQ hr hlk rfl hP hS dX8_table_16 (by rw [f_X8_table, if_neg c_1]) (by rw [e_0, e_1, e_2, e_3, e_4, e_5, e_6, e_7, e_8, e_9, e_10, e_11, e_12, e_13])
