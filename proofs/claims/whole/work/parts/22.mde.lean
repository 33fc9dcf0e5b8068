theorem lg_lt0 (x y : Int64) : lg_cmp x y < 0 ↔ ¬ y ≤ x := by
  rw [← lg_cmp_ge x y]
  constructor
  · intro h z
    exact Int32.lt_irrefl (Int32.lt_of_lt_of_le h z)
  · intro h
    exact Int32.not_le.mp h
theorem lg_gt0 (x y : Int64) : 0 < lg_cmp x y ↔ ¬ x ≤ y := by
  unfold lg_cmp
  simp only [gt_iff_lt, Int64.lt_iff_toInt_lt, Int64.le_iff_toInt_le, ← Int64.toInt_inj]
  repeat' split
  · simp; omega
  · simp; omega
  · simp; omega
theorem in_iff (x a b : Int64) : f_X8_in x a b = if a ≤ x ∧ x ≤ b then 1 else 0 := by
  unfold f_X8_in
  by_cases h1 : a ≤ x
  · rw [if_neg (fun z => (lg_lt0 x a).mp z h1)]
    by_cases h2 : x ≤ b
    · rw [if_neg (fun z => (lg_gt0 x b).mp z h2), if_pos ⟨h1, h2⟩]
    · rw [if_pos ((lg_gt0 x b).mpr h2), if_neg (fun z => h2 z.2)]
  · rw [if_pos ((lg_lt0 x a).mpr h1), if_neg (fun z => h1 z.1)]
theorem wide_le (a b : Int32) : a.toInt64 ≤ b.toInt64 ↔ a ≤ b := by
  rw [Int64.le_iff_toInt_le, Int32.le_iff_toInt_le, Int32.toInt_toInt64, Int32.toInt_toInt64]
theorem in_i32 (x a b : Int32) : f_X8_in x.toInt64 a.toInt64 b.toInt64 = if a ≤ x ∧ x ≤ b then 1 else 0 := by
  rw [in_iff]
  simp only [wide_le]
theorem in_ne {x a b : Int32} (h : ¬ f_X8_in x.toInt64 a.toInt64 b.toInt64 = 0) : a ≤ x ∧ x ≤ b := by
  rw [in_i32] at h
  refine Classical.byContradiction fun z => h ?_
  rw [if_neg z]
theorem in_eq0 {x a b : Int32} (h : f_X8_in x.toInt64 a.toInt64 b.toInt64 = 0) : ¬ (a ≤ x ∧ x ≤ b) := by
  intro z
  rw [in_i32, if_pos z] at h
  exact absurd h (by decide)
theorem rng_tn {x a : Int32} {n : Nat} (h : a ≤ x ∧ x ≤ nI n) (ha : 0 ≤ a) (hn : n < 2 ^ 31) : x = nI x.toNatClampNeg ∧ x.toNatClampNeg ≤ n := by
  have h0 : ¬ x < 0 := fun z => Int32.lt_irrefl (Int32.lt_of_lt_of_le z (Int32.le_trans ha h.1))
  exact ⟨nf_tn h0, (cle (nf_tn h0) rfl (Int32.toNatClampNeg_lt x) hn).mp h.2⟩
theorem rng_ge1 {x : Int32} (h : (1 : Int32) ≤ x) : 1 ≤ x.toNatClampNeg := by
  have h0 : ¬ x < 0 := fun z => Int32.lt_irrefl (Int32.lt_of_lt_of_le z (Int32.le_trans (by decide) h))
  exact (cle (nf_c 1) (nf_tn h0) (by omega) (Int32.toNatClampNeg_lt x)).mp h
theorem noPerson_eq (uP : Nat) (h5 : uP ≤ 5) (a1 : Int32) : f_X8_noPerson uP a1 = if f_X7_isPerson uP a1 = 0 then 1 else 0 := by
  have key : (¬ ((0 : Int32) ≤ a1 ∧ a1 ≤ nI uP - 1)) ↔ (a1 < 0 ∨ nI uP ≤ a1) := by
    have e : (nI uP - 1).toInt = (uP : Int) - 1 := by
      have := (by decide +kernel : ∀ n, n < 6 → (nI n - 1).toInt = (n : Int) - 1) uP (by omega)
      exact this
    have e2 : (nI uP).toInt = (uP : Int) := nI_toInt (by omega)
    simp only [Int32.le_iff_toInt_le, Int32.lt_iff_toInt_lt, e, e2, Int32.toInt_zero]
    omega
  unfold f_X8_noPerson f_X7_isPerson
  rw [show (0 : Int64) = (0 : Int32).toInt64 from rfl, in_i32]
  by_cases h : (0 : Int32) ≤ a1 ∧ a1 ≤ nI uP - 1
  · rw [if_pos h, if_neg (by decide)]
    have hn : ¬ (a1 < 0 ∨ nI uP ≤ a1) := fun z => (key.mpr z) h
    rw [if_neg (fun z => hn (Or.inl z)), if_neg (fun z => hn (Or.inr z)), if_neg (by decide)]
  · rw [if_neg h, if_pos rfl]
    rcases key.mp h with h1 | h1
    · rw [if_pos h1, if_pos rfl]
    · by_cases h2 : a1 < 0
      · rw [if_pos h2, if_pos rfl]
      · rw [if_neg h2, if_pos h1, if_pos rfl]
theorem noPerson_tn {uP : Nat} {a1 : Int32} (h5 : uP ≤ 5) (h : f_X8_noPerson uP a1 = 0) : a1 = nI a1.toNatClampNeg ∧ a1.toNatClampNeg < uP := by
  rw [noPerson_eq uP h5] at h
  refine isPerson_tn h5 (fun z => ?_)
  rw [if_pos z] at h
  exact absurd h (by decide)
theorem begin_get (pg tr : Nat → Int32) : ∀ n i, B_X8_begin_2 pg tr n i = if i < n then pg i else tr i
  | 0, i => by rw [B_X8_begin_2, if_neg (Nat.not_lt_zero _)]
  | n + 1, i => by
    rw [B_X8_begin_2, S_X8_begin_2]
    show (if i = n then pg n else B_X8_begin_2 pg tr n i) = _
    rw [begin_get pg tr n i]
    by_cases h : i = n
    · subst h
      rw [if_pos rfl, if_pos (Nat.lt_succ_self _)]
    · rw [if_neg h]
      by_cases h2 : i < n
      · rw [if_pos h2, if_pos (by omega)]
      · rw [if_neg h2, if_neg (by omega)]
theorem begin_sg {uP : Nat} {pg tr : Nat → Int32} {sg : Nat → Nat} (h5 : uP ≤ 5) (h1 : ∀ i, i < uP → pg (5 + i) = nI (sg i) ∧ sg i < uP) : ∀ i, i < uP → B_X8_begin_2 pg tr 15 (5 + i) = nI (sg i) ∧ sg i < uP := by
  intro i hi
  rw [begin_get, if_pos (by omega)]
  exact h1 i hi
theorem goSay_B {uP uR : Nat} {uk ur tt : Nat → Int32} {a2 : Int32} {n2 : Nat} {a3 a4 : Int32} {i : Nat} (hi : i < 5) : ∀ n, n ≤ 5 → B_X8_goSay_34 uP uR uk ur tt a2 n2 a3 a4 tt n (5 + i) = tt (5 + i)
  | 0, _ => rfl
  | n + 1, hn => by
    have ih := goSay_B (uP := uP) (uR := uR) (uk := uk) (ur := ur) (tt := tt) (a2 := a2) (n2 := n2) (a3 := a3) (a4 := a4) hi n (by omega)
    have e : ∀ (f : Nat → Int32) (x y : Int32), upd (upd f (0 + n) x) (10 + n) y (5 + i) = f (5 + i) := by
      intro f x y
      unfold upd
      rw [if_neg (by omega), if_neg (by omega)]
    rw [B_X8_goSay_34, S_X8_goSay_34]
    repeat' split
    all_goals rw [e, ih]
theorem goSay_seat {uP uR : Nat} {uk ur tt : Nat → Int32} {a2 : Int32} {n2 : Nat} {a3 a4 : Int32} {i : Nat} (h5 : uP ≤ 5) (hi : i < 5) : f_X8_goSay_tt uP uR uk ur tt a2 n2 a3 a4 (5 + i) = tt (5 + i) := by
  have e : ∀ (f : Nat → Int32) (x : Int32), upd f (10 + n2) x (5 + i) = f (5 + i) := by
    intro f x
    unfold upd
    rw [if_neg (by omega)]
  unfold f_X8_goSay_tt
  repeat' split
  all_goals rw [e, goSay_B hi uP h5]
theorem goSay_sg {uP uR : Nat} {uk ur tt : Nat → Int32} {a2 : Int32} {n2 : Nat} {a3 a4 : Int32} {sg : Nat → Nat} (h5 : uP ≤ 5) (h1 : ∀ i, i < uP → tt (5 + i) = nI (sg i) ∧ sg i < uP) : ∀ i, i < uP → f_X8_goSay_tt uP uR uk ur tt a2 n2 a3 a4 (5 + i) = nI (sg i) ∧ sg i < uP := by
  intro i hi
  rw [goSay_seat h5 (by omega)]
  exact h1 i hi
theorem pow_nf' {x : Int32} {a : Nat} (h : x = nI a) (n : Nat) : B_X8_power_4 x 1 n = nI (a ^ n) := by rw [h, pow_nf]
theorem pow_le' (a b n m : Nat) (ha : a ≤ b) (hn : n ≤ m) (hb : 0 < b) : a ^ n ≤ b ^ m := Nat.le_trans (Nat.pow_le_pow_left ha n) (Nat.pow_le_pow_right hb hn)
def f_X8_write (uT : Nat) (a1 : Int32) : Int32 :=
  (if (f_X8_in a1.toInt64 0 255) = 0 then (-2) else (if (nI uT) = 40 then (-4) else (nI (uT + 1))))
def f_X8_write_th (uT : Nat) (a1 : Int32) : Int32 :=
  (if (f_X8_in a1.toInt64 0 255) = 0 then 0 else (if (nI uT) = 40 then 0 else 0))
def f_X8_write_utx (uT : Nat) (utx : Nat → Int32) (a1 : Int32) : Nat → Int32 :=
  (if (f_X8_in a1.toInt64 0 255) = 0 then utx else (if (nI uT) = 40 then utx else (upd utx uT a1)))
def f_X8_write_uT (uT : Nat) (a1 : Int32) : Nat :=
  (if (f_X8_in a1.toInt64 0 255) = 0 then uT else (if (nI uT) = 40 then uT else (uT + 1)))
set_option maxRecDepth 100000 in
set_option maxHeartbeats 4000000 in
theorem c_X8_write (l : Launch) (D : va_G) (cI cZ : ClassId) (q0 y1 y2 y3 y4 y5 y6 y7 y8 y9 y10 y11 y12 y13 y14 : Nat) (th : Int32) (uT : Nat) (up : Nat) (uP : Nat) (uR : Nat) (vP : Nat) (vR : Nat) (ua : Nat) (us : Nat) (sd : Int64) (z1 : Int32) (z2 : Int32) (z3 : Int32) (z4 : Int32) (z5 : Int32) (z6 : Int32) (z7 : Int32) (utx : Nat → Int32) (a1 : Int32) (hut : uT ≤ 40) : MU l D cI cZ yX8_write cX8_write 2 (some .int) (mR 1 25) [.ref q0, .int a1] [(q0, .inr (8, [.int th, .ref y1, .int (nI uT), .int (nI up), .int (nI uP), .ref y2, .int (nI uR), .ref y3, .int (nI vP), .ref y4, .ref y5, .int (nI vR), .ref y6, .ref y7, .ref y8, .ref y9, .int (nI ua), .ref y10, .ref y11, .int (nI us), .ref y12, .ref y13, .long sd, .int z1, .int z2, .int z3, .int z4, .int z5, .int z6, .int z7, .ref y14])), (y1, .inl (cI, 40, .inl utx))] [(q0, .inr (8, [.int (f_X8_write_th uT a1), .ref y1, .int (nI (f_X8_write_uT uT a1)), .int (nI up), .int (nI uP), .ref y2, .int (nI uR), .ref y3, .int (nI vP), .ref y4, .ref y5, .int (nI vR), .ref y6, .ref y7, .ref y8, .ref y9, .int (nI ua), .ref y10, .ref y11, .int (nI us), .ref y12, .ref y13, .long sd, .int z1, .int z2, .int z3, .int z4, .int z5, .int z6, .int z7, .ref y14])), (y1, .inl (cI, 40, .inl (f_X8_write_utx uT utx a1)))] (some (.int (f_X8_write uT a1))) := by
  refine MU.of (by decide +kernel) (Nat.le_of_ble_eq_true rfl) ?_
  intro p e s m args below meth c ls Q A CF hr hlk hP hE hD hS hQ hl
  have hx := CF.1
  have hb := CF.2.1
  have hl : lv_has ls 2 [(0, .ref q0), (1, .int a1)] := hl
  refine lv_aload_n hx hb dX8_write_0 rfl (lv_at hl 0 rfl) ?_
  refine lv_iconst (v := 0) hx hb dX8_write_1 (by decide) ?_
  refine r_put (C := RX8) (T := TX8) (N := 31) (ws' := [(q0, .inr (8, [.int 0, .ref y1, .int (nI uT), .int (nI up), .int (nI uP), .ref y2, .int (nI uR), .ref y3, .int (nI vP), .ref y4, .ref y5, .int (nI vR), .ref y6, .ref y7, .ref y8, .ref y9, .int (nI ua), .ref y10, .ref y11, .int (nI us), .ref y12, .ref y13, .long sd, .int z1, .int z2, .int z3, .int z4, .int z5, .int z6, .int z7, .ref y14])), (y1, .inl (cI, 40, .inl utx))]) CF hE hP hD hS 0 rfl rfl inG8 tyX8 tyX8_ok nmX8 0 (by decide) tw_3_115 rfl rfl rfl rfl (Nat.le_of_ble_eq_true rfl) dX8_write_2 rfl (fun H locs hP hD hS => ?_)
  refine lv_iload_n hx hb dX8_write_5 rfl (lv_at hl 1 rfl) ?_
  refine lv_i2l (v := a1.toInt64) hx hb dX8_write_6 rfl ?_
  refine lv_lconst (v := 0) hx hb dX8_write_7 (by decide) ?_
  refine lv_ldc2 (v := 255) hx hb CF.2.2.2.1 (CF.2.2.2.2 _ (List.mem_cons_of_mem _ tw_3_214)) dX8_write_8 ?_
  refine ro_S (y := yX8_in) (As := [.long a1.toInt64, .long 0, .long 255]) (rest := []) CF (c_X8_in l D cI cZ a1.toInt64 0 255) lk_X8_60 hE rfl hl.1 rfl (Nat.le_of_ble_eq_true rfl) ⟨Nat.le_of_ble_eq_true rfl, Nat.le_of_ble_eq_true rfl, rfl, rfl⟩ ⟨Nat.zero_le _, Nat.zero_le _⟩ dX8_write_11 ?_
  refine lv_if_ne (tgt := 20) hx hb dX8_write_14 (by decide) (fun c_1 => ?_) (fun c_1 => ?_)
  · have ni_2 : (0 : Int32) ≤ a1 ∧ a1 ≤ nI 255 := in_ne (a := 0) (b := nI 255) c_1
    have ni_2n := rng_tn ni_2 (by decide) (by decide)
    have ni_2l := ni_2n.2
    refine lv_aload_n hx hb dX8_write_20 rfl (lv_at hl 0 rfl) ?_
    refine r_get (C := RX8) (T := TX8) (N := 31) (v := .int (nI uT)) CF hE hP 0 rfl rfl inG8 2 (by decide) tw_3_117 rfl rfl dX8_write_21 ?_
    refine lv_bipush (v := 40) hx hb dX8_write_24 (by decide) ?_
    refine lv_icmp_ne (tgt := 32) hx hb dX8_write_26 (by decide) (fun c_3 => ?_) (fun c_3 => ?_)
    · have o_3 : ¬ uT = 40 := fun h => c_3 ((ceq (rfl : nI uT = nI uT) (nf_c 40) (by omega) (by omega)).mpr h)
      refine lv_aload_n hx hb dX8_write_32 rfl (lv_at hl 0 rfl) ?_
      refine r_get (C := RX8) (T := TX8) (N := 31) (v := .ref y1) CF hE hP 0 rfl rfl inG8 1 (by decide) tw_3_116 rfl rfl dX8_write_33 ?_
      refine lv_aload_n hx hb dX8_write_36 rfl (lv_at hl 0 rfl) ?_
      refine r_get (C := RX8) (T := TX8) (N := 31) (v := .int (nI uT)) CF hE hP 0 rfl rfl inG8 2 (by decide) tw_3_117 rfl rfl dX8_write_37 ?_
      refine lv_iload_n hx hb dX8_write_40 rfl (lv_at hl 1 rfl) ?_
      refine r_iast (k := 40) (f := utx) (ws' := [(q0, .inr (8, [.int 0, .ref y1, .int (nI uT), .int (nI up), .int (nI uP), .ref y2, .int (nI uR), .ref y3, .int (nI vP), .ref y4, .ref y5, .int (nI vR), .ref y6, .ref y7, .ref y8, .ref y9, .int (nI ua), .ref y10, .ref y11, .int (nI us), .ref y12, .ref y13, .long sd, .int z1, .int z2, .int z3, .int z4, .int z5, .int z6, .int z7, .ref y14])), (y1, .inl (cI, 40, .inl (upd utx uT a1)))]) CF hE hP hD hS 1 rfl uT (rfl : nI uT = nI uT) (by omega) (by decide) dX8_write_41 rfl (fun H locs hP hD hS => ?_)
      refine lv_aload_n hx hb dX8_write_42 rfl (lv_at hl 0 rfl) ?_
      refine lv_dup hx hb dX8_write_43 rfl ?_
      refine r_get (C := RX8) (T := TX8) (N := 31) (v := .int (nI uT)) CF hE hP 0 rfl rfl inG8 2 (by decide) tw_3_117 rfl rfl dX8_write_44 ?_
      refine lv_iconst (v := 1) hx hb dX8_write_47 (by decide) ?_
      refine lv_iadd hx hb dX8_write_48 ?_
      refine lv_as (z := (nI (uT + 1))) (nf_add (rfl : nI uT = nI uT) (nf_c 1)) ?_
      refine r_put (C := RX8) (T := TX8) (N := 31) (ws' := [(q0, .inr (8, [.int 0, .ref y1, .int (nI (uT + 1)), .int (nI up), .int (nI uP), .ref y2, .int (nI uR), .ref y3, .int (nI vP), .ref y4, .ref y5, .int (nI vR), .ref y6, .ref y7, .ref y8, .ref y9, .int (nI ua), .ref y10, .ref y11, .int (nI us), .ref y12, .ref y13, .long sd, .int z1, .int z2, .int z3, .int z4, .int z5, .int z6, .int z7, .ref y14])), (y1, .inl (cI, 40, .inl (upd utx uT a1)))]) CF hE hP hD hS 0 rfl rfl inG8 tyX8 tyX8_ok nmX8 2 (by decide) tw_3_117 rfl rfl rfl rfl (Nat.le_of_ble_eq_true rfl) dX8_write_49 rfl (fun H locs hP hD hS => ?_)
      refine lv_aload_n hx hb dX8_write_52 rfl (lv_at hl 0 rfl) ?_
      refine r_get (C := RX8) (T := TX8) (N := 31) (v := .int (nI (uT + 1))) CF hE hP 0 rfl rfl inG8 2 (by decide) tw_3_117 rfl rfl dX8_write_53 ?_
      have e_0 : (f_X8_write_th uT a1) = 0 := by rw [f_X8_write_th, if_neg c_1, if_neg c_3]
      have e_1 : (f_X8_write_utx uT utx a1) = (upd utx uT a1) := by rw [f_X8_write_utx, if_neg c_1, if_neg c_3]
      have e_2 : (f_X8_write_uT uT a1) = (uT + 1) := by rw [f_X8_write_uT, if_neg c_1, if_neg c_3]
      exact mu_reti CF hQ hr hlk rfl hP hS dX8_write_56 (by rw [f_X8_write, if_neg c_1, if_neg c_3]) (by rw [e_0, e_1, e_2])
    · have o_3 : uT = 40 := (ceq (rfl : nI uT = nI uT) (nf_c 40) (by omega) (by omega)).mp c_3
      refine lv_bipush (v := (-4)) hx hb dX8_write_29 (by decide) ?_
      have e_0 : (f_X8_write_th uT a1) = 0 := by rw [f_X8_write_th, if_neg c_1, if_pos c_3]
      have e_1 : (f_X8_write_utx uT utx a1) = utx := by rw [f_X8_write_utx, if_neg c_1, if_pos c_3]
      have e_2 : (f_X8_write_uT uT a1) = uT := by rw [f_X8_write_uT, if_neg c_1, if_pos c_3]
      exact mu_reti CF hQ hr hlk rfl hP hS dX8_write_31 (by rw [f_X8_write, if_neg c_1, if_pos c_3]) (by rw [e_0, e_1, e_2])
  · refine lv_bipush (v := (-2)) hx hb dX8_write_17 (by decide) ?_
    have e_0 : (f_X8_write_th uT a1) = 0 := by rw [f_X8_write_th, if_pos c_1]
    have e_1 : (f_X8_write_utx uT utx a1) = utx := by rw [f_X8_write_utx, if_pos c_1]
    have e_2 : (f_X8_write_uT uT a1) = uT := by rw [f_X8_write_uT, if_pos c_1]
    exact mu_reti CF hQ hr hlk rfl hP hS dX8_write_19 (by rw [f_X8_write, if_pos c_1]) (by rw [e_0, e_1, e_2])
set_option maxRecDepth 100000 in
set_option maxHeartbeats 4000000 in
theorem c_X8_wipe (l : Launch) (D : va_G) (cI cZ : ClassId) (q0 y1 y2 y3 y4 y5 y6 y7 y8 y9 y10 y11 y12 y13 y14 : Nat) (th : Int32) (uT : Nat) (up : Nat) (uP : Nat) (uR : Nat) (vP : Nat) (vR : Nat) (ua : Nat) (us : Nat) (sd : Int64) (z1 : Int32) (z2 : Int32) (z3 : Int32) (z4 : Int32) (z5 : Int32) (z6 : Int32) (z7 : Int32) : MU l D cI cZ yX8_wipe cX8_wipe 2 (some .int) (mR 0 0) [.ref q0] [(q0, .inr (8, [.int th, .ref y1, .int (nI uT), .int (nI up), .int (nI uP), .ref y2, .int (nI uR), .ref y3, .int (nI vP), .ref y4, .ref y5, .int (nI vR), .ref y6, .ref y7, .ref y8, .ref y9, .int (nI ua), .ref y10, .ref y11, .int (nI us), .ref y12, .ref y13, .long sd, .int z1, .int z2, .int z3, .int z4, .int z5, .int z6, .int z7, .ref y14]))] [(q0, .inr (8, [.int 0, .ref y1, .int (nI 0), .int (nI up), .int (nI uP), .ref y2, .int (nI uR), .ref y3, .int (nI vP), .ref y4, .ref y5, .int (nI vR), .ref y6, .ref y7, .ref y8, .ref y9, .int (nI ua), .ref y10, .ref y11, .int (nI us), .ref y12, .ref y13, .long sd, .int z1, .int z2, .int z3, .int z4, .int z5, .int z6, .int z7, .ref y14]))] (some (.int (nI uT))) := by
  refine MU.of (by decide +kernel) (Nat.le_of_ble_eq_true rfl) ?_
  intro p e s m args below meth c ls Q A CF hr hlk hP hE hD hS hQ hl
  have hx := CF.1
  have hb := CF.2.1
  have hl : lv_has ls 2 [(0, .ref q0)] := hl
  refine lv_aload_n hx hb dX8_wipe_0 rfl (lv_at hl 0 rfl) ?_
  refine lv_iconst (v := 0) hx hb dX8_wipe_1 (by decide) ?_
  refine r_put (C := RX8) (T := TX8) (N := 31) (ws' := [(q0, .inr (8, [.int 0, .ref y1, .int (nI uT), .int (nI up), .int (nI uP), .ref y2, .int (nI uR), .ref y3, .int (nI vP), .ref y4, .ref y5, .int (nI vR), .ref y6, .ref y7, .ref y8, .ref y9, .int (nI ua), .ref y10, .ref y11, .int (nI us), .ref y12, .ref y13, .long sd, .int z1, .int z2, .int z3, .int z4, .int z5, .int z6, .int z7, .ref y14]))]) CF hE hP hD hS 0 rfl rfl inG8 tyX8 tyX8_ok nmX8 0 (by decide) tw_3_115 rfl rfl rfl rfl (Nat.le_of_ble_eq_true rfl) dX8_wipe_2 rfl (fun H locs hP hD hS => ?_)
  refine lv_aload_n hx hb dX8_wipe_5 rfl (lv_at hl 0 rfl) ?_
  refine r_get (C := RX8) (T := TX8) (N := 31) (v := .int (nI uT)) CF hE hP 0 rfl rfl inG8 2 (by decide) tw_3_117 rfl rfl dX8_wipe_6 ?_
  refine lv_istore_n (lv' := [(1, .int (nI uT)), (0, .ref q0)]) hx hb dX8_wipe_9 rfl hl (by decide) rfl (fun ls hl => ?_)
  refine lv_aload_n hx hb dX8_wipe_10 rfl (lv_at hl 1 rfl) ?_
  refine lv_iconst (v := 0) hx hb dX8_wipe_11 (by decide) ?_
  refine lv_as (z := (nI 0)) (nf_c 0) ?_
  refine r_put (C := RX8) (T := TX8) (N := 31) (ws' := [(q0, .inr (8, [.int 0, .ref y1, .int (nI 0), .int (nI up), .int (nI uP), .ref y2, .int (nI uR), .ref y3, .int (nI vP), .ref y4, .ref y5, .int (nI vR), .ref y6, .ref y7, .ref y8, .ref y9, .int (nI ua), .ref y10, .ref y11, .int (nI us), .ref y12, .ref y13, .long sd, .int z1, .int z2, .int z3, .int z4, .int z5, .int z6, .int z7, .ref y14]))]) CF hE hP hD hS 0 rfl rfl inG8 tyX8 tyX8_ok nmX8 2 (by decide) tw_3_117 rfl rfl rfl rfl (Nat.le_of_ble_eq_true rfl) dX8_wipe_12 rfl (fun H locs hP hD hS => ?_)
  refine lv_iload_n hx hb dX8_wipe_15 rfl (lv_at hl 0 rfl) ?_
  exact mu_reti CF hQ hr hlk rfl hP hS dX8_wipe_16 rfl rfl
theorem lk_X8_120 : mLkV RX8 120 yX8_finesOf cX8_finesOf 4 (some .int) 1 := ⟨⟨tw_4_21, tw_1_10, tw_4_24, ⟨by decide +kernel, by decide +kernel, by decide +kernel⟩⟩, tw_4_23, tp_2_4⟩
def S_X8_about_9 (uR : Nat) (ur : Nat → Int32) (pg : Nat → Int32) (k9 : Nat) (x9_0 : Int32) : (Int32) :=
  (x9_0 ||| ((B_X8_closed_4 uR ur (pg (0 + k9)) 4)))
def B_X8_about_9 (uR : Nat) (ur : Nat → Int32) (pg : Nat → Int32) (i0 : Int32) : Nat → (Int32)
  | 0 => i0
  | k + 1 => S_X8_about_9 uR ur pg k (B_X8_about_9 uR ur pg i0 k)
def f_X8_about (uT : Nat) (uP : Nat) (uR : Nat) (ua : Nat) (us : Nat) (ur : Nat → Int32) (pg : Nat → Int32) (a1 : Int32) : Int32 :=
  (if a1 = 0 then (nI uP) else (if a1 = 1 then (nI uR) else (if a1 = 2 then ((B_X8_finesOf_4 pg 0 uP)) else (if a1 = 3 then ((B_X8_about_9 uR ur pg 0 uP)) else (if a1 = 4 then (nI ua) else (if a1 = 5 then (nI us) else (if a1 = 6 then (nI uT) else (-2))))))))
def f_X8_about_th (a1 : Int32) : Int32 :=
  (if a1 = 0 then 0 else (if a1 = 1 then 0 else (if a1 = 2 then 0 else (if a1 = 3 then 0 else (if a1 = 4 then 0 else (if a1 = 5 then 0 else (if a1 = 6 then 0 else 0)))))))
set_option maxRecDepth 100000 in
set_option maxHeartbeats 4000000 in
theorem c_X8_about (l : Launch) (D : va_G) (cI cZ : ClassId) (q0 y1 y2 y3 y4 y5 y6 y7 y8 y9 y10 y11 y12 y13 y14 : Nat) (th : Int32) (uT : Nat) (up : Nat) (uP : Nat) (uR : Nat) (vP : Nat) (vR : Nat) (ua : Nat) (us : Nat) (sd : Int64) (z1 : Int32) (z2 : Int32) (z3 : Int32) (z4 : Int32) (z5 : Int32) (z6 : Int32) (z7 : Int32) (ur : Nat → Int32) (pg : Nat → Int32) (a1 : Int32) (hu5 : uP ≤ 5) (hur : uR ≤ 4) : MU l D cI cZ yX8_about cX8_about 4 (some .int) (mR 2 46) [.ref q0, .int a1] [(q0, .inr (8, [.int th, .ref y1, .int (nI uT), .int (nI up), .int (nI uP), .ref y2, .int (nI uR), .ref y3, .int (nI vP), .ref y4, .ref y5, .int (nI vR), .ref y6, .ref y7, .ref y8, .ref y9, .int (nI ua), .ref y10, .ref y11, .int (nI us), .ref y12, .ref y13, .long sd, .int z1, .int z2, .int z3, .int z4, .int z5, .int z6, .int z7, .ref y14])), (y3, .inl (cI, 12, .inl ur)), (y7, .inl (cI, 15, .inl pg))] [(q0, .inr (8, [.int (f_X8_about_th a1), .ref y1, .int (nI uT), .int (nI up), .int (nI uP), .ref y2, .int (nI uR), .ref y3, .int (nI vP), .ref y4, .ref y5, .int (nI vR), .ref y6, .ref y7, .ref y8, .ref y9, .int (nI ua), .ref y10, .ref y11, .int (nI us), .ref y12, .ref y13, .long sd, .int z1, .int z2, .int z3, .int z4, .int z5, .int z6, .int z7, .ref y14])), (y3, .inl (cI, 12, .inl ur)), (y7, .inl (cI, 15, .inl pg))] (some (.int (f_X8_about uT uP uR ua us ur pg a1))) := by
  refine MU.of (by decide +kernel) (Nat.le_of_ble_eq_true rfl) ?_
  intro p e s m args below meth c ls Q A CF hr hlk hP hE hD hS hQ hl
  have hx := CF.1
  have hb := CF.2.1
  have hl : lv_has ls 4 [(0, .ref q0), (1, .int a1)] := hl
  refine lv_aload_n hx hb dX8_about_0 rfl (lv_at hl 0 rfl) ?_
  refine lv_iconst (v := 0) hx hb dX8_about_1 (by decide) ?_
  refine r_put (C := RX8) (T := TX8) (N := 31) (ws' := [(q0, .inr (8, [.int 0, .ref y1, .int (nI uT), .int (nI up), .int (nI uP), .ref y2, .int (nI uR), .ref y3, .int (nI vP), .ref y4, .ref y5, .int (nI vR), .ref y6, .ref y7, .ref y8, .ref y9, .int (nI ua), .ref y10, .ref y11, .int (nI us), .ref y12, .ref y13, .long sd, .int z1, .int z2, .int z3, .int z4, .int z5, .int z6, .int z7, .ref y14])), (y3, .inl (cI, 12, .inl ur)), (y7, .inl (cI, 15, .inl pg))]) CF hE hP hD hS 0 rfl rfl inG8 tyX8 tyX8_ok nmX8 0 (by decide) tw_3_115 rfl rfl rfl rfl (Nat.le_of_ble_eq_true rfl) dX8_about_2 rfl (fun H locs hP hD hS => ?_)
  refine lv_iconst (v := 0) hx hb dX8_about_5 (by decide) ?_
  refine lv_istore_n (lv' := [(2, .int 0), (0, .ref q0), (1, .int a1)]) hx hb dX8_about_6 rfl hl (by decide) rfl (fun ls hl => ?_)
  refine lv_iconst (v := 0) hx hb dX8_about_7 (by decide) ?_
  refine lv_istore_n (lv' := [(3, .int 0), (2, .int 0), (0, .ref q0), (1, .int a1)]) hx hb dX8_about_8 rfl hl (by decide) rfl (fun ls hl => ?_)
  have LOOP_9 : ∀ (n_9 k9 : Nat) (x9_0 : Int32) (H : Heap) (locs : List Loc) (ls : Array Slot), k9 ≤ uP → uP - k9 < n_9 → (B_X8_about_9 uR ur pg 0 k9) = x9_0 → va_P D vwCl [(q0, .inr (8, [.int 0, .ref y1, .int (nI uT), .int (nI up), .int (nI uP), .ref y2, .int (nI uR), .ref y3, .int (nI vP), .ref y4, .ref y5, .int (nI vR), .ref y6, .ref y7, .ref y8, .ref y9, .int (nI ua), .ref y10, .ref y11, .int (nI us), .ref y12, .ref y13, .long sd, .int z1, .int z2, .int z3, .int z4, .int z5, .int z6, .int z7, .ref y14])), (y3, .inl (cI, 12, .inl ur)), (y7, .inl (cI, 15, .inl pg))] H → va_D A [(q0, .inr (8, [.int 0, .ref y1, .int (nI uT), .int (nI up), .int (nI uP), .ref y2, .int (nI uR), .ref y3, .int (nI vP), .ref y4, .ref y5, .int (nI vR), .ref y6, .ref y7, .ref y8, .ref y9, .int (nI ua), .ref y10, .ref y11, .int (nI us), .ref y12, .ref y13, .long sd, .int z1, .int z2, .int z3, .int z4, .int z5, .int z6, .int z7, .ref y14])), (y3, .inl (cI, 12, .inl ur)), (y7, .inl (cI, 15, .inl pg))] → va_S A s.heap H locs → lv_has ls 4 [(3, .int (nI k9)), (2, .int x9_0), (0, .ref q0), (1, .int a1)] → W p l e (mR 2 46) s m args below meth c H locs 0 0 Q (F0 m 9 ls []) := by
    intro n_9
    induction n_9 with
    | zero => intro k9 x9_0 H locs ls hk_9 hn_9 hB_9 hP hD hS hl; exact absurd hn_9 (Nat.not_lt_zero _)
    | succ n_9 ih_9 =>
      intro k9 x9_0 H locs ls hk_9 hn_9 hB_9 hP hD hS hl
      refine lv_iload_n hx hb dX8_about_9 rfl (lv_at hl 0 rfl) ?_
      refine lv_aload_n hx hb dX8_about_10 rfl (lv_at hl 2 rfl) ?_
      refine r_get (C := RX8) (T := TX8) (N := 31) (v := .int (nI uP)) CF hE hP 0 rfl rfl inG8 4 (by decide) tw_3_119 rfl rfl dX8_about_11 ?_
      refine lv_icmp_ge (tgt := 38) hx hb dX8_about_14 (by decide) (fun c_1 => ?_) (fun c_1 => ?_)
      · have o_1 : uP ≤ k9 := (cle (rfl : nI uP = nI uP) (rfl : nI k9 = nI k9) (by omega) (by omega)).mp c_1
        have hkN : uP = k9 := by omega
        subst hkN
        subst hB_9
        refine lv_iload_n hx hb dX8_about_38 rfl (lv_at hl 3 rfl) ?_
        by_cases c_2 : a1 = 0
        · refine lv_tableIn (tgt := 80) (off := 41) hx hb dX8_about_39 (by rw [c_2]; decide) (by rw [c_2]; decide) (by rw [c_2]; rfl) (by decide) ?_
          refine lv_aload_n hx hb dX8_about_80 rfl (lv_at hl 2 rfl) ?_
          refine r_get (C := RX8) (T := TX8) (N := 31) (v := .int (nI uP)) CF hE hP 0 rfl rfl inG8 4 (by decide) tw_3_119 rfl rfl dX8_about_81 ?_
          have e_0 : (f_X8_about_th a1) = 0 := by rw [f_X8_about_th, if_pos c_2]
          exact mu_reti CF hQ hr hlk rfl hP hS dX8_about_84 (by rw [f_X8_about, if_pos c_2]) (by rw [e_0])
        · by_cases c_3 : a1 = 1
          · refine lv_tableIn (tgt := 85) (off := 46) hx hb dX8_about_39 (by rw [c_3]; decide) (by rw [c_3]; decide) (by rw [c_3]; rfl) (by decide) ?_
            refine lv_aload_n hx hb dX8_about_85 rfl (lv_at hl 2 rfl) ?_
            refine r_get (C := RX8) (T := TX8) (N := 31) (v := .int (nI uR)) CF hE hP 0 rfl rfl inG8 6 (by decide) tw_3_121 rfl rfl dX8_about_86 ?_
            have e_0 : (f_X8_about_th a1) = 0 := by rw [f_X8_about_th, if_neg c_2, if_pos c_3]
            exact mu_reti CF hQ hr hlk rfl hP hS dX8_about_89 (by rw [f_X8_about, if_neg c_2, if_pos c_3]) (by rw [e_0])
          · by_cases c_4 : a1 = 2
            · refine lv_tableIn (tgt := 90) (off := 51) hx hb dX8_about_39 (by rw [c_4]; decide) (by rw [c_4]; decide) (by rw [c_4]; rfl) (by decide) ?_
              refine lv_aload_n hx hb dX8_about_90 rfl (lv_at hl 2 rfl) ?_
              refine lv_aload_n hx hb dX8_about_91 rfl (lv_at hl 2 rfl) ?_
              refine r_get (C := RX8) (T := TX8) (N := 31) (v := .ref y7) CF hE hP 0 rfl rfl inG8 13 (by decide) tw_3_128 rfl rfl dX8_about_92 ?_
              refine ro_V (y := yX8_finesOf) (As := [.ref y7]) (rest := []) (q0 := 0) CF (c_X8_finesOf l D cI cZ q0 y1 y2 y3 y4 y5 y6 y7 y8 y9 y10 y11 y12 y13 y14 y7 0 uT up uP uR vP vR ua us sd z1 z2 z3 z4 z5 z6 z7 pg (by omega)) lk_X8_120 hP hE [0, 2] rfl rfl rfl rfl hl.1 rfl (Nat.le_of_ble_eq_true rfl) ⟨Nat.le_of_ble_eq_true rfl, Nat.le_of_ble_eq_true rfl, rfl, rfl⟩ ⟨Nat.zero_le _, Nat.zero_le _⟩ dX8_about_95 ?_
              have e_0 : (f_X8_about_th a1) = 0 := by rw [f_X8_about_th, if_neg c_2, if_neg c_3, if_pos c_4]
              exact mu_reti CF hQ hr hlk rfl hP hS dX8_about_98 (by rw [f_X8_about, if_neg c_2, if_neg c_3, if_pos c_4]) (by rw [e_0])
            · by_cases c_5 : a1 = 3
              · refine lv_tableIn (tgt := 99) (off := 60) hx hb dX8_about_39 (by rw [c_5]; decide) (by rw [c_5]; decide) (by rw [c_5]; rfl) (by decide) ?_
                refine lv_iload_n hx hb dX8_about_99 rfl (lv_at hl 1 rfl) ?_
                have e_0 : (f_X8_about_th a1) = 0 := by rw [f_X8_about_th, if_neg c_2, if_neg c_3, if_neg c_4, if_pos c_5]
                exact mu_reti CF hQ hr hlk rfl hP hS dX8_about_100 (by rw [f_X8_about, if_neg c_2, if_neg c_3, if_neg c_4, if_pos c_5]) (by rw [e_0])
              · by_cases c_6 : a1 = 4
                · refine lv_tableIn (tgt := 101) (off := 62) hx hb dX8_about_39 (by rw [c_6]; decide) (by rw [c_6]; decide) (by rw [c_6]; rfl) (by decide) ?_
                  refine lv_aload_n hx hb dX8_about_101 rfl (lv_at hl 2 rfl) ?_
                  refine r_get (C := RX8) (T := TX8) (N := 31) (v := .int (nI ua)) CF hE hP 0 rfl rfl inG8 16 (by decide) tw_3_131 rfl rfl dX8_about_102 ?_
                  have e_0 : (f_X8_about_th a1) = 0 := by rw [f_X8_about_th, if_neg c_2, if_neg c_3, if_neg c_4, if_neg c_5, if_pos c_6]
                  exact mu_reti CF hQ hr hlk rfl hP hS dX8_about_105 (by rw [f_X8_about, if_neg c_2, if_neg c_3, if_neg c_4, if_neg c_5, if_pos c_6]) (by rw [e_0])
                · by_cases c_7 : a1 = 5
                  · refine lv_tableIn (tgt := 106) (off := 67) hx hb dX8_about_39 (by rw [c_7]; decide) (by rw [c_7]; decide) (by rw [c_7]; rfl) (by decide) ?_
                    refine lv_aload_n hx hb dX8_about_106 rfl (lv_at hl 2 rfl) ?_
                    refine r_get (C := RX8) (T := TX8) (N := 31) (v := .int (nI us)) CF hE hP 0 rfl rfl inG8 19 (by decide) tw_3_134 rfl rfl dX8_about_107 ?_
                    have e_0 : (f_X8_about_th a1) = 0 := by rw [f_X8_about_th, if_neg c_2, if_neg c_3, if_neg c_4, if_neg c_5, if_neg c_6, if_pos c_7]
                    exact mu_reti CF hQ hr hlk rfl hP hS dX8_about_110 (by rw [f_X8_about, if_neg c_2, if_neg c_3, if_neg c_4, if_neg c_5, if_neg c_6, if_pos c_7]) (by rw [e_0])
                  · by_cases c_8 : a1 = 6
                    · refine lv_tableIn (tgt := 111) (off := 72) hx hb dX8_about_39 (by rw [c_8]; decide) (by rw [c_8]; decide) (by rw [c_8]; rfl) (by decide) ?_
                      refine lv_aload_n hx hb dX8_about_111 rfl (lv_at hl 2 rfl) ?_
                      refine r_get (C := RX8) (T := TX8) (N := 31) (v := .int (nI uT)) CF hE hP 0 rfl rfl inG8 2 (by decide) tw_3_117 rfl rfl dX8_about_112 ?_
                      have e_0 : (f_X8_about_th a1) = 0 := by rw [f_X8_about_th, if_neg c_2, if_neg c_3, if_neg c_4, if_neg c_5, if_neg c_6, if_neg c_7, if_pos c_8]
                      exact mu_reti CF hQ hr hlk rfl hP hS dX8_about_115 (by rw [f_X8_about, if_neg c_2, if_neg c_3, if_neg c_4, if_neg c_5, if_neg c_6, if_neg c_7, if_pos c_8]) (by rw [e_0])
                    · have z_0 : a1.toInt ≠ 0 := fun z => c_2 (Int32.toInt_inj.mp z)
                      have z_1 : a1.toInt ≠ 1 := fun z => c_3 (Int32.toInt_inj.mp z)
                      have z_2 : a1.toInt ≠ 2 := fun z => c_4 (Int32.toInt_inj.mp z)
                      have z_3 : a1.toInt ≠ 3 := fun z => c_5 (Int32.toInt_inj.mp z)
                      have z_4 : a1.toInt ≠ 4 := fun z => c_6 (Int32.toInt_inj.mp z)
                      have z_5 : a1.toInt ≠ 5 := fun z => c_7 (Int32.toInt_inj.mp z)
                      have z_6 : a1.toInt ≠ 6 := fun z => c_8 (Int32.toInt_inj.mp z)
                      refine lv_tableOut (tgt := 116) hx hb dX8_about_39 (by omega) (by decide) ?_
                      refine lv_bipush (v := (-2)) hx hb dX8_about_116 (by decide) ?_
                      have e_0 : (f_X8_about_th a1) = 0 := by rw [f_X8_about_th, if_neg c_2, if_neg c_3, if_neg c_4, if_neg c_5, if_neg c_6, if_neg c_7, if_neg c_8]
                      exact mu_reti CF hQ hr hlk rfl hP hS dX8_about_118 (by rw [f_X8_about, if_neg c_2, if_neg c_3, if_neg c_4, if_neg c_5, if_neg c_6, if_neg c_7, if_neg c_8]) (by rw [e_0])
      · have o_1 : ¬ uP ≤ k9 := fun h => c_1 ((cle (rfl : nI uP = nI uP) (rfl : nI k9 = nI k9) (by omega) (by omega)).mpr h)
        refine lv_iload_n hx hb dX8_about_17 rfl (lv_at hl 1 rfl) ?_
        refine lv_aload_n hx hb dX8_about_18 rfl (lv_at hl 2 rfl) ?_
        refine lv_aload_n hx hb dX8_about_19 rfl (lv_at hl 2 rfl) ?_
        refine r_get (C := RX8) (T := TX8) (N := 31) (v := .ref y7) CF hE hP 0 rfl rfl inG8 13 (by decide) tw_3_128 rfl rfl dX8_about_20 ?_
        refine lv_iconst (v := 0) hx hb dX8_about_23 (by decide) ?_
        refine lv_iload_n hx hb dX8_about_24 rfl (lv_at hl 0 rfl) ?_
        refine lv_iadd hx hb dX8_about_25 ?_
        refine r_iald (k := 15) (f := pg) CF hE hP 2 rfl (0 + k9) (nf_add (nf_c 0) (rfl : nI k9 = nI k9)) (by omega) (by decide) dX8_about_26 ?_
        refine ro_V (y := yX8_closed) (As := [.int (pg (0 + k9))]) (rest := [.int x9_0]) (q0 := 0) CF (c_X8_closed l D cI cZ q0 y1 y2 y3 y4 y5 y6 y7 y8 y9 y10 y11 y12 y13 y14 0 uT up uP uR vP vR ua us sd z1 z2 z3 z4 z5 z6 z7 ur (pg (0 + k9)) (by omega)) lk_X8_116 hP hE [0, 1] rfl rfl rfl rfl hl.1 rfl (Nat.le_of_ble_eq_true rfl) ⟨Nat.le_of_ble_eq_true rfl, Nat.le_of_ble_eq_true rfl, rfl, rfl⟩ ⟨Nat.zero_le _, Nat.zero_le _⟩ dX8_about_27 ?_
        refine lv_ior hx hb dX8_about_30 ?_
        refine lv_istore_n (lv' := [(2, .int (x9_0 ||| ((B_X8_closed_4 uR ur (pg (0 + k9)) 4)))), (3, .int (nI k9)), (0, .ref q0), (1, .int a1)]) hx hb dX8_about_31 rfl hl (by decide) rfl (fun ls hl => ?_)
        refine lv_iinc (v := (nI (k9 + 1))) (lv' := [(3, .int (nI (k9 + 1))), (2, .int (x9_0 ||| ((B_X8_closed_4 uR ur (pg (0 + k9)) 4)))), (0, .ref q0), (1, .int a1)]) hx hb dX8_about_32 hl (k := 1) rfl (nf_inc 1 (rfl : nI k9 = nI k9)) (by decide) rfl (fun ls hl => ?_)
        refine lv_goto (tgt := 9) hx hb dX8_about_35 (by decide) ?_
        have hB2 : B_X8_about_9 uR ur pg 0 (k9 + 1) = (x9_0 ||| ((B_X8_closed_4 uR ur (pg (0 + k9)) 4))) := by
          rw [B_X8_about_9, hB_9]
          rw [S_X8_about_9]
        exact ih_9 (k9 + 1) (x9_0 ||| ((B_X8_closed_4 uR ur (pg (0 + k9)) 4))) _ _ _ (by omega) (by omega) hB2 hP hD hS (lv_sub hl [0, 1, 2, 3] rfl)
  have e_k : 0 = nI (0) := (nf_c 0).trans (congrArg nI (by omega))
  rw [e_k] at hl
  exact LOOP_9 (uP - 0 + 1) 0 0 _ _ _ (Nat.zero_le _) (by omega) rfl hP hD hS (lv_sub hl [0, 1, 2, 3] rfl)
theorem lk_X8_127 : mLkV RX8 127 yX8_noPerson cX8_noPerson 2 (some .boolean) 1 := ⟨⟨tw_4_29, tw_1_10, tw_4_32, ⟨by decide +kernel, by decide +kernel, by decide +kernel⟩⟩, tw_4_31, tp_2_5⟩
def f_X8_person (uP : Nat) (uR : Nat) (uk : Nat → Int32) (ur : Nat → Int32) (pg : Nat → Int32) (a1 : Int32) (a2 : Int32) : Int32 :=
  (if (f_X8_noPerson uP a1) = 0 then (if a2 = 0 then (uk a1.toNatClampNeg) else (if a2 = 1 then (pg (0 + a1.toNatClampNeg)) else (if a2 = 2 then ((B_X8_closed_4 uR ur (pg (0 + a1.toNatClampNeg)) 4)) else (if a2 = 3 then (pg (5 + a1.toNatClampNeg)) else (if a2 = 4 then (pg (10 + a1.toNatClampNeg)) else (-2)))))) else (-1))
def f_X8_person_th (uP : Nat) (a1 : Int32) (a2 : Int32) : Int32 :=
  (if (f_X8_noPerson uP a1) = 0 then (if a2 = 0 then 0 else (if a2 = 1 then 0 else (if a2 = 2 then 0 else (if a2 = 3 then 0 else (if a2 = 4 then 0 else 0))))) else 0)
set_option maxRecDepth 100000 in
set_option maxHeartbeats 4000000 in
theorem c_X8_person (l : Launch) (D : va_G) (cI cZ : ClassId) (q0 y1 y2 y3 y4 y5 y6 y7 y8 y9 y10 y11 y12 y13 y14 : Nat) (th : Int32) (uT : Nat) (up : Nat) (uP : Nat) (uR : Nat) (vP : Nat) (vR : Nat) (ua : Nat) (us : Nat) (sd : Int64) (z1 : Int32) (z2 : Int32) (z3 : Int32) (z4 : Int32) (z5 : Int32) (z6 : Int32) (z7 : Int32) (uk : Nat → Int32) (ur : Nat → Int32) (pg : Nat → Int32) (a1 : Int32) (a2 : Int32) (hu5 : uP ≤ 5) (hur : uR ≤ 4) : MU l D cI cZ yX8_person cX8_person 3 (some .int) (mR 2 46) [.ref q0, .int a1, .int a2] [(q0, .inr (8, [.int th, .ref y1, .int (nI uT), .int (nI up), .int (nI uP), .ref y2, .int (nI uR), .ref y3, .int (nI vP), .ref y4, .ref y5, .int (nI vR), .ref y6, .ref y7, .ref y8, .ref y9, .int (nI ua), .ref y10, .ref y11, .int (nI us), .ref y12, .ref y13, .long sd, .int z1, .int z2, .int z3, .int z4, .int z5, .int z6, .int z7, .ref y14])), (y2, .inl (cI, 5, .inl uk)), (y3, .inl (cI, 12, .inl ur)), (y7, .inl (cI, 15, .inl pg))] [(q0, .inr (8, [.int (f_X8_person_th uP a1 a2), .ref y1, .int (nI uT), .int (nI up), .int (nI uP), .ref y2, .int (nI uR), .ref y3, .int (nI vP), .ref y4, .ref y5, .int (nI vR), .ref y6, .ref y7, .ref y8, .ref y9, .int (nI ua), .ref y10, .ref y11, .int (nI us), .ref y12, .ref y13, .long sd, .int z1, .int z2, .int z3, .int z4, .int z5, .int z6, .int z7, .ref y14])), (y2, .inl (cI, 5, .inl uk)), (y3, .inl (cI, 12, .inl ur)), (y7, .inl (cI, 15, .inl pg))] (some (.int (f_X8_person uP uR uk ur pg a1 a2))) := by
  refine MU.of (by decide +kernel) (Nat.le_of_ble_eq_true rfl) ?_
  intro p e s m args below meth c ls Q A CF hr hlk hP hE hD hS hQ hl
  have hx := CF.1
  have hb := CF.2.1
  have hl : lv_has ls 3 [(0, .ref q0), (1, .int a1), (2, .int a2)] := hl
  refine lv_aload_n hx hb dX8_person_0 rfl (lv_at hl 0 rfl) ?_
  refine lv_iconst (v := 0) hx hb dX8_person_1 (by decide) ?_
  refine r_put (C := RX8) (T := TX8) (N := 31) (ws' := [(q0, .inr (8, [.int 0, .ref y1, .int (nI uT), .int (nI up), .int (nI uP), .ref y2, .int (nI uR), .ref y3, .int (nI vP), .ref y4, .ref y5, .int (nI vR), .ref y6, .ref y7, .ref y8, .ref y9, .int (nI ua), .ref y10, .ref y11, .int (nI us), .ref y12, .ref y13, .long sd, .int z1, .int z2, .int z3, .int z4, .int z5, .int z6, .int z7, .ref y14])), (y2, .inl (cI, 5, .inl uk)), (y3, .inl (cI, 12, .inl ur)), (y7, .inl (cI, 15, .inl pg))]) CF hE hP hD hS 0 rfl rfl inG8 tyX8 tyX8_ok nmX8 0 (by decide) tw_3_115 rfl rfl rfl rfl (Nat.le_of_ble_eq_true rfl) dX8_person_2 rfl (fun H locs hP hD hS => ?_)
  refine lv_aload_n hx hb dX8_person_5 rfl (lv_at hl 0 rfl) ?_
  refine lv_iload_n hx hb dX8_person_6 rfl (lv_at hl 1 rfl) ?_
  refine ro_V (y := yX8_noPerson) (As := [.int a1]) (rest := []) (q0 := 0) CF (c_X8_noPerson l D cI cZ q0 y1 y2 y3 y4 y5 y6 y7 y8 y9 y10 y11 y12 y13 y14 0 uT up uP uR vP vR ua us sd z1 z2 z3 z4 z5 z6 z7 a1) lk_X8_127 hP hE [0] rfl rfl rfl rfl hl.1 rfl (Nat.le_of_ble_eq_true rfl) ⟨Nat.le_of_ble_eq_true rfl, Nat.le_of_ble_eq_true rfl, rfl, rfl⟩ ⟨Nat.zero_le _, Nat.zero_le _⟩ dX8_person_7 ?_
  refine lv_if_eq (tgt := 15) hx hb dX8_person_10 (by decide) (fun c_1 => ?_) (fun c_1 => ?_)
  · have np_2 := noPerson_tn (a1 := a1) hu5 c_1
    have np_2l := np_2.2
    refine lv_iload_n hx hb dX8_person_15 rfl (lv_at hl 2 rfl) ?_
    by_cases c_3 : a2 = 0
    · refine lv_tableIn (tgt := 52) (off := 36) hx hb dX8_person_16 (by rw [c_3]; decide) (by rw [c_3]; decide) (by rw [c_3]; rfl) (by decide) ?_
      refine lv_aload_n hx hb dX8_person_52 rfl (lv_at hl 0 rfl) ?_
      refine r_get (C := RX8) (T := TX8) (N := 31) (v := .ref y2) CF hE hP 0 rfl rfl inG8 5 (by decide) tw_3_120 rfl rfl dX8_person_53 ?_
      refine lv_iload_n hx hb dX8_person_56 rfl (lv_at hl 1 rfl) ?_
      refine r_iald (k := 5) (f := uk) CF hE hP 1 rfl a1.toNatClampNeg np_2.1 (by omega) (by decide) dX8_person_57 ?_
      have e_0 : (f_X8_person_th uP a1 a2) = 0 := by rw [f_X8_person_th, if_pos c_1, if_pos c_3]
      exact mu_reti CF hQ hr hlk rfl hP hS dX8_person_58 (by rw [f_X8_person, if_pos c_1, if_pos c_3]) (by rw [e_0])
    · by_cases c_4 : a2 = 1
      · refine lv_tableIn (tgt := 59) (off := 43) hx hb dX8_person_16 (by rw [c_4]; decide) (by rw [c_4]; decide) (by rw [c_4]; rfl) (by decide) ?_
        refine lv_aload_n hx hb dX8_person_59 rfl (lv_at hl 0 rfl) ?_
        refine r_get (C := RX8) (T := TX8) (N := 31) (v := .ref y7) CF hE hP 0 rfl rfl inG8 13 (by decide) tw_3_128 rfl rfl dX8_person_60 ?_
        refine lv_iconst (v := 0) hx hb dX8_person_63 (by decide) ?_
        refine lv_iload_n hx hb dX8_person_64 rfl (lv_at hl 1 rfl) ?_
        refine lv_iadd hx hb dX8_person_65 ?_
        refine r_iald (k := 15) (f := pg) CF hE hP 3 rfl (0 + a1.toNatClampNeg) (nf_add (nf_c 0) np_2.1) (by omega) (by decide) dX8_person_66 ?_
        have e_0 : (f_X8_person_th uP a1 a2) = 0 := by rw [f_X8_person_th, if_pos c_1, if_neg c_3, if_pos c_4]
        exact mu_reti CF hQ hr hlk rfl hP hS dX8_person_67 (by rw [f_X8_person, if_pos c_1, if_neg c_3, if_pos c_4]) (by rw [e_0])
      · by_cases c_5 : a2 = 2
        · refine lv_tableIn (tgt := 68) (off := 52) hx hb dX8_person_16 (by rw [c_5]; decide) (by rw [c_5]; decide) (by rw [c_5]; rfl) (by decide) ?_
          refine lv_aload_n hx hb dX8_person_68 rfl (lv_at hl 0 rfl) ?_
          refine lv_aload_n hx hb dX8_person_69 rfl (lv_at hl 0 rfl) ?_
          refine r_get (C := RX8) (T := TX8) (N := 31) (v := .ref y7) CF hE hP 0 rfl rfl inG8 13 (by decide) tw_3_128 rfl rfl dX8_person_70 ?_
          refine lv_iconst (v := 0) hx hb dX8_person_73 (by decide) ?_
          refine lv_iload_n hx hb dX8_person_74 rfl (lv_at hl 1 rfl) ?_
          refine lv_iadd hx hb dX8_person_75 ?_
          refine r_iald (k := 15) (f := pg) CF hE hP 3 rfl (0 + a1.toNatClampNeg) (nf_add (nf_c 0) np_2.1) (by omega) (by decide) dX8_person_76 ?_
          refine ro_V (y := yX8_closed) (As := [.int (pg (0 + a1.toNatClampNeg))]) (rest := []) (q0 := 0) CF (c_X8_closed l D cI cZ q0 y1 y2 y3 y4 y5 y6 y7 y8 y9 y10 y11 y12 y13 y14 0 uT up uP uR vP vR ua us sd z1 z2 z3 z4 z5 z6 z7 ur (pg (0 + a1.toNatClampNeg)) (by omega)) lk_X8_116 hP hE [0, 2] rfl rfl rfl rfl hl.1 rfl (Nat.le_of_ble_eq_true rfl) ⟨Nat.le_of_ble_eq_true rfl, Nat.le_of_ble_eq_true rfl, rfl, rfl⟩ ⟨Nat.zero_le _, Nat.zero_le _⟩ dX8_person_77 ?_
          have e_0 : (f_X8_person_th uP a1 a2) = 0 := by rw [f_X8_person_th, if_pos c_1, if_neg c_3, if_neg c_4, if_pos c_5]
          exact mu_reti CF hQ hr hlk rfl hP hS dX8_person_80 (by rw [f_X8_person, if_pos c_1, if_neg c_3, if_neg c_4, if_pos c_5]) (by rw [e_0])
        · by_cases c_6 : a2 = 3
          · refine lv_tableIn (tgt := 81) (off := 65) hx hb dX8_person_16 (by rw [c_6]; decide) (by rw [c_6]; decide) (by rw [c_6]; rfl) (by decide) ?_
            refine lv_aload_n hx hb dX8_person_81 rfl (lv_at hl 0 rfl) ?_
            refine r_get (C := RX8) (T := TX8) (N := 31) (v := .ref y7) CF hE hP 0 rfl rfl inG8 13 (by decide) tw_3_128 rfl rfl dX8_person_82 ?_
            refine lv_iconst (v := 5) hx hb dX8_person_85 (by decide) ?_
            refine lv_iload_n hx hb dX8_person_86 rfl (lv_at hl 1 rfl) ?_
            refine lv_iadd hx hb dX8_person_87 ?_
            refine r_iald (k := 15) (f := pg) CF hE hP 3 rfl (5 + a1.toNatClampNeg) (nf_add (nf_c 5) np_2.1) (by omega) (by decide) dX8_person_88 ?_
            have e_0 : (f_X8_person_th uP a1 a2) = 0 := by rw [f_X8_person_th, if_pos c_1, if_neg c_3, if_neg c_4, if_neg c_5, if_pos c_6]
            exact mu_reti CF hQ hr hlk rfl hP hS dX8_person_89 (by rw [f_X8_person, if_pos c_1, if_neg c_3, if_neg c_4, if_neg c_5, if_pos c_6]) (by rw [e_0])
          · by_cases c_7 : a2 = 4
            · refine lv_tableIn (tgt := 90) (off := 74) hx hb dX8_person_16 (by rw [c_7]; decide) (by rw [c_7]; decide) (by rw [c_7]; rfl) (by decide) ?_
              refine lv_aload_n hx hb dX8_person_90 rfl (lv_at hl 0 rfl) ?_
              refine r_get (C := RX8) (T := TX8) (N := 31) (v := .ref y7) CF hE hP 0 rfl rfl inG8 13 (by decide) tw_3_128 rfl rfl dX8_person_91 ?_
              refine lv_bipush (v := 10) hx hb dX8_person_94 (by decide) ?_
              refine lv_iload_n hx hb dX8_person_96 rfl (lv_at hl 1 rfl) ?_
              refine lv_iadd hx hb dX8_person_97 ?_
              refine r_iald (k := 15) (f := pg) CF hE hP 3 rfl (10 + a1.toNatClampNeg) (nf_add (nf_c 10) np_2.1) (by omega) (by decide) dX8_person_98 ?_
              have e_0 : (f_X8_person_th uP a1 a2) = 0 := by rw [f_X8_person_th, if_pos c_1, if_neg c_3, if_neg c_4, if_neg c_5, if_neg c_6, if_pos c_7]
              exact mu_reti CF hQ hr hlk rfl hP hS dX8_person_99 (by rw [f_X8_person, if_pos c_1, if_neg c_3, if_neg c_4, if_neg c_5, if_neg c_6, if_pos c_7]) (by rw [e_0])
            · have z_0 : a2.toInt ≠ 0 := fun z => c_3 (Int32.toInt_inj.mp z)
              have z_1 : a2.toInt ≠ 1 := fun z => c_4 (Int32.toInt_inj.mp z)
              have z_2 : a2.toInt ≠ 2 := fun z => c_5 (Int32.toInt_inj.mp z)
              have z_3 : a2.toInt ≠ 3 := fun z => c_6 (Int32.toInt_inj.mp z)
              have z_4 : a2.toInt ≠ 4 := fun z => c_7 (Int32.toInt_inj.mp z)
              refine lv_tableOut (tgt := 100) hx hb dX8_person_16 (by omega) (by decide) ?_
              refine lv_bipush (v := (-2)) hx hb dX8_person_100 (by decide) ?_
              have e_0 : (f_X8_person_th uP a1 a2) = 0 := by rw [f_X8_person_th, if_pos c_1, if_neg c_3, if_neg c_4, if_neg c_5, if_neg c_6, if_neg c_7]
              exact mu_reti CF hQ hr hlk rfl hP hS dX8_person_102 (by rw [f_X8_person, if_pos c_1, if_neg c_3, if_neg c_4, if_neg c_5, if_neg c_6, if_neg c_7]) (by rw [e_0])
  · refine lv_iconst (v := (-1)) hx hb dX8_person_13 (by decide) ?_
    have e_0 : (f_X8_person_th uP a1 a2) = 0 := by rw [f_X8_person_th, if_neg c_1]
    exact mu_reti CF hQ hr hlk rfl hP hS dX8_person_14 (by rw [f_X8_person, if_neg c_1]) (by rw [e_0])
def f_X8_far (uP : Nat) (pg : Nat → Int32) (a1 : Int32) (a2 : Int32) : Int32 :=
  (if (f_X8_noPerson uP a1) = 0 then (if (f_X8_noPerson uP a2) = 0 then (f_X8_farOf uP pg a1.toNatClampNeg a2.toNatClampNeg) else (-1)) else (-1))
def f_X8_far_th (uP : Nat) (a1 : Int32) (a2 : Int32) : Int32 :=
  (if (f_X8_noPerson uP a1) = 0 then (if (f_X8_noPerson uP a2) = 0 then 0 else 0) else 0)
set_option maxRecDepth 100000 in
set_option maxHeartbeats 4000000 in
theorem c_X8_far (l : Launch) (D : va_G) (cI cZ : ClassId) (q0 y1 y2 y3 y4 y5 y6 y7 y8 y9 y10 y11 y12 y13 y14 : Nat) (th : Int32) (uT : Nat) (up : Nat) (uP : Nat) (uR : Nat) (vP : Nat) (vR : Nat) (ua : Nat) (us : Nat) (sd : Int64) (z1 : Int32) (z2 : Int32) (z3 : Int32) (z4 : Int32) (z5 : Int32) (z6 : Int32) (z7 : Int32) (pg : Nat → Int32) (a1 : Int32) (a2 : Int32) (hu5 : uP ≤ 5) : MU l D cI cZ yX8_far cX8_far 3 (some .int) (mR 2 46) [.ref q0, .int a1, .int a2] [(q0, .inr (8, [.int th, .ref y1, .int (nI uT), .int (nI up), .int (nI uP), .ref y2, .int (nI uR), .ref y3, .int (nI vP), .ref y4, .ref y5, .int (nI vR), .ref y6, .ref y7, .ref y8, .ref y9, .int (nI ua), .ref y10, .ref y11, .int (nI us), .ref y12, .ref y13, .long sd, .int z1, .int z2, .int z3, .int z4, .int z5, .int z6, .int z7, .ref y14])), (y7, .inl (cI, 15, .inl pg))] [(q0, .inr (8, [.int (f_X8_far_th uP a1 a2), .ref y1, .int (nI uT), .int (nI up), .int (nI uP), .ref y2, .int (nI uR), .ref y3, .int (nI vP), .ref y4, .ref y5, .int (nI vR), .ref y6, .ref y7, .ref y8, .ref y9, .int (nI ua), .ref y10, .ref y11, .int (nI us), .ref y12, .ref y13, .long sd, .int z1, .int z2, .int z3, .int z4, .int z5, .int z6, .int z7, .ref y14])), (y7, .inl (cI, 15, .inl pg))] (some (.int (f_X8_far uP pg a1 a2))) := by
  refine MU.of (by decide +kernel) (Nat.le_of_ble_eq_true rfl) ?_
  intro p e s m args below meth c ls Q A CF hr hlk hP hE hD hS hQ hl
  have hx := CF.1
  have hb := CF.2.1
  have hl : lv_has ls 3 [(0, .ref q0), (1, .int a1), (2, .int a2)] := hl
  refine lv_aload_n hx hb dX8_far_0 rfl (lv_at hl 0 rfl) ?_
  refine lv_iconst (v := 0) hx hb dX8_far_1 (by decide) ?_
  refine r_put (C := RX8) (T := TX8) (N := 31) (ws' := [(q0, .inr (8, [.int 0, .ref y1, .int (nI uT), .int (nI up), .int (nI uP), .ref y2, .int (nI uR), .ref y3, .int (nI vP), .ref y4, .ref y5, .int (nI vR), .ref y6, .ref y7, .ref y8, .ref y9, .int (nI ua), .ref y10, .ref y11, .int (nI us), .ref y12, .ref y13, .long sd, .int z1, .int z2, .int z3, .int z4, .int z5, .int z6, .int z7, .ref y14])), (y7, .inl (cI, 15, .inl pg))]) CF hE hP hD hS 0 rfl rfl inG8 tyX8 tyX8_ok nmX8 0 (by decide) tw_3_115 rfl rfl rfl rfl (Nat.le_of_ble_eq_true rfl) dX8_far_2 rfl (fun H locs hP hD hS => ?_)
  refine lv_aload_n hx hb dX8_far_5 rfl (lv_at hl 0 rfl) ?_
  refine lv_iload_n hx hb dX8_far_6 rfl (lv_at hl 1 rfl) ?_
  refine ro_V (y := yX8_noPerson) (As := [.int a1]) (rest := []) (q0 := 0) CF (c_X8_noPerson l D cI cZ q0 y1 y2 y3 y4 y5 y6 y7 y8 y9 y10 y11 y12 y13 y14 0 uT up uP uR vP vR ua us sd z1 z2 z3 z4 z5 z6 z7 a1) lk_X8_127 hP hE [0] rfl rfl rfl rfl hl.1 rfl (Nat.le_of_ble_eq_true rfl) ⟨Nat.le_of_ble_eq_true rfl, Nat.le_of_ble_eq_true rfl, rfl, rfl⟩ ⟨Nat.zero_le _, Nat.zero_le _⟩ dX8_far_7 ?_
  refine lv_if_ne (tgt := 21) hx hb dX8_far_10 (by decide) (fun c_1 => ?_) (fun c_1 => ?_)
  · refine lv_iconst (v := (-1)) hx hb dX8_far_21 (by decide) ?_
    refine lv_goto (tgt := 35) hx hb dX8_far_22 (by decide) ?_
    have e_0 : (f_X8_far_th uP a1 a2) = 0 := by rw [f_X8_far_th, if_neg c_1]
    exact mu_reti CF hQ hr hlk rfl hP hS dX8_far_35 (by rw [f_X8_far, if_neg c_1]) (by rw [e_0])
  · have np_2 := noPerson_tn (a1 := a1) hu5 c_1
    have np_2l := np_2.2
    refine lv_aload_n hx hb dX8_far_13 rfl (lv_at hl 0 rfl) ?_
    refine lv_iload_n hx hb dX8_far_14 rfl (lv_at hl 2 rfl) ?_
    refine ro_V (y := yX8_noPerson) (As := [.int a2]) (rest := []) (q0 := 0) CF (c_X8_noPerson l D cI cZ q0 y1 y2 y3 y4 y5 y6 y7 y8 y9 y10 y11 y12 y13 y14 0 uT up uP uR vP vR ua us sd z1 z2 z3 z4 z5 z6 z7 a2) lk_X8_127 hP hE [0] rfl rfl rfl rfl hl.1 rfl (Nat.le_of_ble_eq_true rfl) ⟨Nat.le_of_ble_eq_true rfl, Nat.le_of_ble_eq_true rfl, rfl, rfl⟩ ⟨Nat.zero_le _, Nat.zero_le _⟩ dX8_far_15 ?_
    refine lv_if_eq (tgt := 25) hx hb dX8_far_18 (by decide) (fun c_3 => ?_) (fun c_3 => ?_)
    · have np_4 := noPerson_tn (a1 := a2) hu5 c_3
      have np_4l := np_4.2
      refine lv_aload_n hx hb dX8_far_25 rfl (lv_at hl 0 rfl) ?_
      refine lv_aload_n hx hb dX8_far_26 rfl (lv_at hl 0 rfl) ?_
      refine r_get (C := RX8) (T := TX8) (N := 31) (v := .ref y7) CF hE hP 0 rfl rfl inG8 13 (by decide) tw_3_128 rfl rfl dX8_far_27 ?_
      refine lv_iload_n hx hb dX8_far_30 rfl (lv_at hl 1 rfl) ?_
      refine lv_iload_n hx hb dX8_far_31 rfl (lv_at hl 2 rfl) ?_
      refine ro_V (y := yX8_farOf) (As := [.ref y7, .int a1, .int a2]) (rest := []) (q0 := 0) CF (c_X8_farOf l D cI cZ q0 y1 y2 y3 y4 y5 y6 y7 y8 y9 y10 y11 y12 y13 y14 y7 0 uT up uP uR vP vR ua us sd z1 z2 z3 z4 z5 z6 z7 pg a1 a1.toNatClampNeg a2 a2.toNatClampNeg np_2.1 np_4.1 (by omega) (by omega)) lk_X8_108 hP hE [0, 1] rfl rfl rfl rfl hl.1 rfl (Nat.le_of_ble_eq_true rfl) ⟨Nat.le_of_ble_eq_true rfl, Nat.le_of_ble_eq_true rfl, rfl, rfl⟩ ⟨Nat.zero_le _, Nat.zero_le _⟩ dX8_far_32 ?_
      have e_0 : (f_X8_far_th uP a1 a2) = 0 := by rw [f_X8_far_th, if_pos c_1, if_pos c_3]
      exact mu_reti CF hQ hr hlk rfl hP hS dX8_far_35 (by rw [f_X8_far, if_pos c_1, if_pos c_3]) (by rw [e_0])
    · refine lv_iconst (v := (-1)) hx hb dX8_far_21 (by decide) ?_
      refine lv_goto (tgt := 35) hx hb dX8_far_22 (by decide) ?_
      have e_0 : (f_X8_far_th uP a1 a2) = 0 := by rw [f_X8_far_th, if_pos c_1, if_neg c_3]
      exact mu_reti CF hQ hr hlk rfl hP hS dX8_far_35 (by rw [f_X8_far, if_pos c_1, if_neg c_3]) (by rw [e_0])
theorem lk_X8_148 : mLkS RX8 148 yX8_noFact cX8_noFact 1 (some .boolean) 1 := ⟨⟨tw_4_45, tw_1_10, tw_4_47, ⟨by decide +kernel, by decide +kernel, by decide +kernel⟩⟩, tw_4_46⟩
theorem lk_X8_153 : mLkV RX8 153 yX8_note cX8_note 2 none 0 := ⟨⟨tw_4_50, tw_1_10, tw_4_53, ⟨by decide +kernel, by decide +kernel, by decide +kernel⟩⟩, tw_4_52, tp_2_7⟩
theorem lk_X8_156 : mLkV RX8 156 yX8_goSay cX8_goSay 9 (some .int) 4 := ⟨⟨tw_4_54, tw_1_10, tw_4_57, ⟨by decide +kernel, by decide +kernel, by decide +kernel⟩⟩, tw_4_56, tp_2_8⟩
def f_X8_say (uP : Nat) (uR : Nat) (uk : Nat → Int32) (ur : Nat → Int32) (pg : Nat → Int32) (a1 : Int32) (a2 : Int32) (a3 : Int32) : Int32 :=
  (if (f_X8_noPerson uP a1) = 0 then (if (f_X8_noFact a2) = 0 then (if (f_X8_in a3.toInt64 1 2) = 0 then (-2) else (f_X8_goSay uP uR uk ur pg a1 a1.toNatClampNeg a2 a3)) else (-1)) else (-1))
def f_X8_say_th (uP : Nat) (a1 : Int32) (a2 : Int32) (a3 : Int32) : Int32 :=
  (if (f_X8_noPerson uP a1) = 0 then (if (f_X8_noFact a2) = 0 then (if (f_X8_in a3.toInt64 1 2) = 0 then 0 else 0) else 0) else 0)
def f_X8_say_pg (uP : Nat) (uR : Nat) (uk : Nat → Int32) (ur : Nat → Int32) (pg : Nat → Int32) (a1 : Int32) (a2 : Int32) (a3 : Int32) : Nat → Int32 :=
  (if (f_X8_noPerson uP a1) = 0 then (if (f_X8_noFact a2) = 0 then (if (f_X8_in a3.toInt64 1 2) = 0 then pg else (f_X8_goSay_tt uP uR uk ur pg a1 a1.toNatClampNeg a2 a3)) else pg) else pg)
def f_X8_say_bk (uP : Nat) (ua : Nat) (pg : Nat → Int32) (bk : Nat → Int32) (a1 : Int32) (a2 : Int32) (a3 : Int32) : Nat → Int32 :=
  (if (f_X8_noPerson uP a1) = 0 then (if (f_X8_noFact a2) = 0 then (if (f_X8_in a3.toInt64 1 2) = 0 then bk else (f_X8_note_bk ua pg bk)) else bk) else bk)
def f_X8_say_ua (uP : Nat) (ua : Nat) (a1 : Int32) (a2 : Int32) (a3 : Int32) : Nat :=
  (if (f_X8_noPerson uP a1) = 0 then (if (f_X8_noFact a2) = 0 then (if (f_X8_in a3.toInt64 1 2) = 0 then ua else (f_X8_note_ua ua)) else ua) else ua)
set_option maxRecDepth 100000 in
set_option maxHeartbeats 4000000 in
theorem c_X8_say (l : Launch) (D : va_G) (cI cZ : ClassId) (q0 y1 y2 y3 y4 y5 y6 y7 y8 y9 y10 y11 y12 y13 y14 : Nat) (sg : Nat → Nat) (th : Int32) (uT : Nat) (up : Nat) (uP : Nat) (uR : Nat) (vP : Nat) (vR : Nat) (ua : Nat) (us : Nat) (sd : Int64) (z1 : Int32) (z2 : Int32) (z3 : Int32) (z4 : Int32) (z5 : Int32) (z6 : Int32) (z7 : Int32) (uk : Nat → Int32) (ur : Nat → Int32) (pg : Nat → Int32) (bk : Nat → Int32) (a1 : Int32) (a2 : Int32) (a3 : Int32) (hu5 : uP ≤ 5) (hur : uR ≤ 4) (hua : ua ≤ 14) (hsg1 : ∀ i, i < uP → pg (5 + i) = nI (sg i) ∧ sg i < uP) (hsg2 : ∀ j, j < uP → ∃ i, i < uP ∧ sg i = j) : MU l D cI cZ yX8_say cX8_say 4 (some .int) (mR 4 103) [.ref q0, .int a1, .int a2, .int a3] [(q0, .inr (8, [.int th, .ref y1, .int (nI uT), .int (nI up), .int (nI uP), .ref y2, .int (nI uR), .ref y3, .int (nI vP), .ref y4, .ref y5, .int (nI vR), .ref y6, .ref y7, .ref y8, .ref y9, .int (nI ua), .ref y10, .ref y11, .int (nI us), .ref y12, .ref y13, .long sd, .int z1, .int z2, .int z3, .int z4, .int z5, .int z6, .int z7, .ref y14])), (y2, .inl (cI, 5, .inl uk)), (y3, .inl (cI, 12, .inl ur)), (y7, .inl (cI, 15, .inl pg)), (y9, .inl (cI, 210, .inl bk))] [(q0, .inr (8, [.int (f_X8_say_th uP a1 a2 a3), .ref y1, .int (nI uT), .int (nI up), .int (nI uP), .ref y2, .int (nI uR), .ref y3, .int (nI vP), .ref y4, .ref y5, .int (nI vR), .ref y6, .ref y7, .ref y8, .ref y9, .int (nI (f_X8_say_ua uP ua a1 a2 a3)), .ref y10, .ref y11, .int (nI us), .ref y12, .ref y13, .long sd, .int z1, .int z2, .int z3, .int z4, .int z5, .int z6, .int z7, .ref y14])), (y2, .inl (cI, 5, .inl uk)), (y3, .inl (cI, 12, .inl ur)), (y7, .inl (cI, 15, .inl (f_X8_say_pg uP uR uk ur pg a1 a2 a3))), (y9, .inl (cI, 210, .inl (f_X8_say_bk uP ua pg bk a1 a2 a3)))] (some (.int (f_X8_say uP uR uk ur pg a1 a2 a3))) := by
  refine MU.of (by decide +kernel) (Nat.le_of_ble_eq_true rfl) ?_
  intro p e s m args below meth c ls Q A CF hr hlk hP hE hD hS hQ hl
  have hx := CF.1
  have hb := CF.2.1
  have hl : lv_has ls 4 [(0, .ref q0), (1, .int a1), (2, .int a2), (3, .int a3)] := hl
  refine lv_aload_n hx hb dX8_say_0 rfl (lv_at hl 0 rfl) ?_
  refine lv_iconst (v := 0) hx hb dX8_say_1 (by decide) ?_
  refine r_put (C := RX8) (T := TX8) (N := 31) (ws' := [(q0, .inr (8, [.int 0, .ref y1, .int (nI uT), .int (nI up), .int (nI uP), .ref y2, .int (nI uR), .ref y3, .int (nI vP), .ref y4, .ref y5, .int (nI vR), .ref y6, .ref y7, .ref y8, .ref y9, .int (nI ua), .ref y10, .ref y11, .int (nI us), .ref y12, .ref y13, .long sd, .int z1, .int z2, .int z3, .int z4, .int z5, .int z6, .int z7, .ref y14])), (y2, .inl (cI, 5, .inl uk)), (y3, .inl (cI, 12, .inl ur)), (y7, .inl (cI, 15, .inl pg)), (y9, .inl (cI, 210, .inl bk))]) CF hE hP hD hS 0 rfl rfl inG8 tyX8 tyX8_ok nmX8 0 (by decide) tw_3_115 rfl rfl rfl rfl (Nat.le_of_ble_eq_true rfl) dX8_say_2 rfl (fun H locs hP hD hS => ?_)
  refine lv_aload_n hx hb dX8_say_5 rfl (lv_at hl 0 rfl) ?_
  refine lv_iload_n hx hb dX8_say_6 rfl (lv_at hl 1 rfl) ?_
  refine ro_V (y := yX8_noPerson) (As := [.int a1]) (rest := []) (q0 := 0) CF (c_X8_noPerson l D cI cZ q0 y1 y2 y3 y4 y5 y6 y7 y8 y9 y10 y11 y12 y13 y14 0 uT up uP uR vP vR ua us sd z1 z2 z3 z4 z5 z6 z7 a1) lk_X8_127 hP hE [0] rfl rfl rfl rfl hl.1 rfl (Nat.le_of_ble_eq_true rfl) ⟨Nat.le_of_ble_eq_true rfl, Nat.le_of_ble_eq_true rfl, rfl, rfl⟩ ⟨Nat.zero_le _, Nat.zero_le _⟩ dX8_say_7 ?_
  refine lv_if_ne (tgt := 20) hx hb dX8_say_10 (by decide) (fun c_1 => ?_) (fun c_1 => ?_)
  · refine lv_iconst (v := (-1)) hx hb dX8_say_20 (by decide) ?_
    have e_0 : (f_X8_say_th uP a1 a2 a3) = 0 := by rw [f_X8_say_th, if_neg c_1]
    have e_1 : (f_X8_say_pg uP uR uk ur pg a1 a2 a3) = pg := by rw [f_X8_say_pg, if_neg c_1]
    have e_2 : (f_X8_say_bk uP ua pg bk a1 a2 a3) = bk := by rw [f_X8_say_bk, if_neg c_1]
    have e_3 : (f_X8_say_ua uP ua a1 a2 a3) = ua := by rw [f_X8_say_ua, if_neg c_1]
    exact mu_reti CF hQ hr hlk rfl hP hS dX8_say_21 (by rw [f_X8_say, if_neg c_1]) (by rw [e_0, e_1, e_2, e_3])
  · have np_2 := noPerson_tn (a1 := a1) hu5 c_1
    have np_2l := np_2.2
    refine lv_iload_n hx hb dX8_say_13 rfl (lv_at hl 2 rfl) ?_
    refine ro_S (y := yX8_noFact) (As := [.int a2]) (rest := []) CF (c_X8_noFact l D cI cZ a2) lk_X8_148 hE rfl hl.1 rfl (Nat.le_of_ble_eq_true rfl) ⟨Nat.le_of_ble_eq_true rfl, Nat.le_of_ble_eq_true rfl, rfl, rfl⟩ ⟨Nat.zero_le _, Nat.zero_le _⟩ dX8_say_14 ?_
    refine lv_if_eq (tgt := 22) hx hb dX8_say_17 (by decide) (fun c_3 => ?_) (fun c_3 => ?_)
    · refine lv_iload_n hx hb dX8_say_22 rfl (lv_at hl 3 rfl) ?_
      refine lv_i2l (v := a3.toInt64) hx hb dX8_say_23 rfl ?_
      refine lv_lconst (v := 1) hx hb dX8_say_24 (by decide) ?_
      refine lv_ldc2 (v := 2) hx hb CF.2.2.2.1 (CF.2.2.2.2 _ (List.mem_cons_of_mem _ tw_4_49)) dX8_say_25 ?_
      refine ro_S (y := yX8_in) (As := [.long a3.toInt64, .long 1, .long 2]) (rest := []) CF (c_X8_in l D cI cZ a3.toInt64 1 2) lk_X8_60 hE rfl hl.1 rfl (Nat.le_of_ble_eq_true rfl) ⟨Nat.le_of_ble_eq_true rfl, Nat.le_of_ble_eq_true rfl, rfl, rfl⟩ ⟨Nat.zero_le _, Nat.zero_le _⟩ dX8_say_28 ?_
      refine lv_if_ne (tgt := 37) hx hb dX8_say_31 (by decide) (fun c_4 => ?_) (fun c_4 => ?_)
      · have ni_5 : (1 : Int32) ≤ a3 ∧ a3 ≤ nI 2 := in_ne (a := 1) (b := nI 2) c_4
        have ni_5n := rng_tn ni_5 (by decide) (by decide)
        have ni_5l := ni_5n.2
        have ni_5g := rng_ge1 ni_5.1
        refine lv_aload_n hx hb dX8_say_37 rfl (lv_at hl 0 rfl) ?_
        refine mu_Vv (y := yX8_note) (As := []) (rest := []) (q0 := 0) (ws' := [(q0, .inr (8, [.int 0, .ref y1, .int (nI uT), .int (nI up), .int (nI uP), .ref y2, .int (nI uR), .ref y3, .int (nI vP), .ref y4, .ref y5, .int (nI vR), .ref y6, .ref y7, .ref y8, .ref y9, .int (nI (f_X8_note_ua ua)), .ref y10, .ref y11, .int (nI us), .ref y12, .ref y13, .long sd, .int z1, .int z2, .int z3, .int z4, .int z5, .int z6, .int z7, .ref y14])), (y2, .inl (cI, 5, .inl uk)), (y3, .inl (cI, 12, .inl ur)), (y7, .inl (cI, 15, .inl pg)), (y9, .inl (cI, 210, .inl (f_X8_note_bk ua pg bk)))]) (ad := [q0, y2, y3, y7, y9]) CF (c_X8_note l D cI cZ q0 y1 y2 y3 y4 y5 y6 y7 y8 y9 y10 y11 y12 y13 y14 0 uT up uP uR vP vR ua us sd z1 z2 z3 z4 z5 z6 z7 pg bk (by omega)) lk_X8_153 hP hE hD hS [0, 3, 4] rfl (by decide) (Nat.le_of_ble_eq_true rfl) rfl rfl rfl rfl rfl rfl hl.1 rfl (Nat.le_of_ble_eq_true rfl) ⟨Nat.le_of_ble_eq_true rfl, Nat.le_of_ble_eq_true rfl, rfl, rfl⟩ ⟨Nat.zero_le _, Nat.zero_le _⟩ dX8_say_38 (fun H locs hP hD hS => ?_)
        refine lv_aload_n hx hb dX8_say_41 rfl (lv_at hl 0 rfl) ?_
        refine lv_aload_n hx hb dX8_say_42 rfl (lv_at hl 0 rfl) ?_
        refine r_get (C := RX8) (T := TX8) (N := 31) (v := .ref y7) CF hE hP 0 rfl rfl inG8 13 (by decide) tw_3_128 rfl rfl dX8_say_43 ?_
        refine lv_iload_n hx hb dX8_say_46 rfl (lv_at hl 1 rfl) ?_
        refine lv_iload_n hx hb dX8_say_47 rfl (lv_at hl 2 rfl) ?_
        refine lv_iload_n hx hb dX8_say_48 rfl (lv_at hl 3 rfl) ?_
        refine mu_V (y := yX8_goSay) (As := [.ref y7, .int a1, .int a2, .int a3]) (rest := []) (q0 := 0) (ws' := [(q0, .inr (8, [.int 0, .ref y1, .int (nI uT), .int (nI up), .int (nI uP), .ref y2, .int (nI uR), .ref y3, .int (nI vP), .ref y4, .ref y5, .int (nI vR), .ref y6, .ref y7, .ref y8, .ref y9, .int (nI (f_X8_note_ua ua)), .ref y10, .ref y11, .int (nI us), .ref y12, .ref y13, .long sd, .int z1, .int z2, .int z3, .int z4, .int z5, .int z6, .int z7, .ref y14])), (y2, .inl (cI, 5, .inl uk)), (y3, .inl (cI, 12, .inl ur)), (y7, .inl (cI, 15, .inl (f_X8_goSay_tt uP uR uk ur pg a1 a1.toNatClampNeg a2 a3))), (y9, .inl (cI, 210, .inl (f_X8_note_bk ua pg bk)))]) (ad := [q0, y2, y3, y7, y9]) CF (c_X8_goSay l D cI cZ q0 y1 y2 y3 y4 y5 y6 y7 y8 y9 y10 y11 y12 y13 y14 y7 sg 0 uT up uP uR vP vR (f_X8_note_ua ua) us sd z1 z2 z3 z4 z5 z6 z7 uk ur pg a1 a1.toNatClampNeg a2 a3 np_2.1 (by omega) (by omega) (by omega) hsg1 hsg2) lk_X8_156 hP hE hD hS [0, 1, 2, 3] rfl (by decide) (Nat.le_of_ble_eq_true rfl) rfl rfl rfl rfl rfl rfl hl.1 rfl (Nat.le_of_ble_eq_true rfl) ⟨Nat.le_of_ble_eq_true rfl, Nat.le_of_ble_eq_true rfl, rfl, rfl⟩ ⟨Nat.zero_le _, Nat.zero_le _⟩ dX8_say_49 (fun H locs hP hD hS => ?_)
        have e_0 : (f_X8_say_th uP a1 a2 a3) = 0 := by rw [f_X8_say_th, if_pos c_1, if_pos c_3, if_neg c_4]
        have e_1 : (f_X8_say_pg uP uR uk ur pg a1 a2 a3) = (f_X8_goSay_tt uP uR uk ur pg a1 a1.toNatClampNeg a2 a3) := by rw [f_X8_say_pg, if_pos c_1, if_pos c_3, if_neg c_4]
        have e_2 : (f_X8_say_bk uP ua pg bk a1 a2 a3) = (f_X8_note_bk ua pg bk) := by rw [f_X8_say_bk, if_pos c_1, if_pos c_3, if_neg c_4]
        have e_3 : (f_X8_say_ua uP ua a1 a2 a3) = (f_X8_note_ua ua) := by rw [f_X8_say_ua, if_pos c_1, if_pos c_3, if_neg c_4]
        exact mu_reti CF hQ hr hlk rfl hP hS dX8_say_52 (by rw [f_X8_say, if_pos c_1, if_pos c_3, if_neg c_4]) (by rw [e_0, e_1, e_2, e_3])
      · refine lv_bipush (v := (-2)) hx hb dX8_say_34 (by decide) ?_
        have e_0 : (f_X8_say_th uP a1 a2 a3) = 0 := by rw [f_X8_say_th, if_pos c_1, if_pos c_3, if_pos c_4]
        have e_1 : (f_X8_say_pg uP uR uk ur pg a1 a2 a3) = pg := by rw [f_X8_say_pg, if_pos c_1, if_pos c_3, if_pos c_4]
        have e_2 : (f_X8_say_bk uP ua pg bk a1 a2 a3) = bk := by rw [f_X8_say_bk, if_pos c_1, if_pos c_3, if_pos c_4]
        have e_3 : (f_X8_say_ua uP ua a1 a2 a3) = ua := by rw [f_X8_say_ua, if_pos c_1, if_pos c_3, if_pos c_4]
        exact mu_reti CF hQ hr hlk rfl hP hS dX8_say_36 (by rw [f_X8_say, if_pos c_1, if_pos c_3, if_pos c_4]) (by rw [e_0, e_1, e_2, e_3])
    · refine lv_iconst (v := (-1)) hx hb dX8_say_20 (by decide) ?_
      have e_0 : (f_X8_say_th uP a1 a2 a3) = 0 := by rw [f_X8_say_th, if_pos c_1, if_neg c_3]
      have e_1 : (f_X8_say_pg uP uR uk ur pg a1 a2 a3) = pg := by rw [f_X8_say_pg, if_pos c_1, if_neg c_3]
      have e_2 : (f_X8_say_bk uP ua pg bk a1 a2 a3) = bk := by rw [f_X8_say_bk, if_pos c_1, if_neg c_3]
      have e_3 : (f_X8_say_ua uP ua a1 a2 a3) = ua := by rw [f_X8_say_ua, if_pos c_1, if_neg c_3]
      exact mu_reti CF hQ hr hlk rfl hP hS dX8_say_21 (by rw [f_X8_say, if_pos c_1, if_neg c_3]) (by rw [e_0, e_1, e_2, e_3])
def f_X8_teach (uP : Nat) (uR : Nat) (ur : Nat → Int32) (pg : Nat → Int32) (a1 : Int32) (a2 : Int32) : Int32 :=
  (if (f_X8_noPerson uP a1) = 0 then (if (f_X8_noFact a2) = 0 then (if (f_X8_has (pg (0 + a1.toNatClampNeg)) a2) = 0 then ((B_X8_closed_4 uR ur ((upd pg (0 + a1.toNatClampNeg) ((pg (0 + a1.toNatClampNeg)) ||| ((1 : Int32) <<< ((a2 : Int32) &&& 31)))) (0 + a1.toNatClampNeg)) 4)) else (-3)) else (-1)) else (-1))
def f_X8_teach_th (uP : Nat) (pg : Nat → Int32) (a1 : Int32) (a2 : Int32) : Int32 :=
  (if (f_X8_noPerson uP a1) = 0 then (if (f_X8_noFact a2) = 0 then (if (f_X8_has (pg (0 + a1.toNatClampNeg)) a2) = 0 then 0 else 0) else 0) else 0)
def f_X8_teach_pg (uP : Nat) (pg : Nat → Int32) (a1 : Int32) (a2 : Int32) : Nat → Int32 :=
  (if (f_X8_noPerson uP a1) = 0 then (if (f_X8_noFact a2) = 0 then (if (f_X8_has (pg (0 + a1.toNatClampNeg)) a2) = 0 then (upd pg (0 + a1.toNatClampNeg) ((pg (0 + a1.toNatClampNeg)) ||| ((1 : Int32) <<< ((a2 : Int32) &&& 31)))) else pg) else pg) else pg)
def f_X8_teach_bk (uP : Nat) (ua : Nat) (pg : Nat → Int32) (bk : Nat → Int32) (a1 : Int32) (a2 : Int32) : Nat → Int32 :=
  (if (f_X8_noPerson uP a1) = 0 then (if (f_X8_noFact a2) = 0 then (if (f_X8_has (pg (0 + a1.toNatClampNeg)) a2) = 0 then (f_X8_note_bk ua pg bk) else bk) else bk) else bk)
def f_X8_teach_ua (uP : Nat) (ua : Nat) (pg : Nat → Int32) (a1 : Int32) (a2 : Int32) : Nat :=
  (if (f_X8_noPerson uP a1) = 0 then (if (f_X8_noFact a2) = 0 then (if (f_X8_has (pg (0 + a1.toNatClampNeg)) a2) = 0 then (f_X8_note_ua ua) else ua) else ua) else ua)
set_option maxRecDepth 100000 in
set_option maxHeartbeats 4000000 in
theorem c_X8_teach (l : Launch) (D : va_G) (cI cZ : ClassId) (q0 y1 y2 y3 y4 y5 y6 y7 y8 y9 y10 y11 y12 y13 y14 : Nat) (th : Int32) (uT : Nat) (up : Nat) (uP : Nat) (uR : Nat) (vP : Nat) (vR : Nat) (ua : Nat) (us : Nat) (sd : Int64) (z1 : Int32) (z2 : Int32) (z3 : Int32) (z4 : Int32) (z5 : Int32) (z6 : Int32) (z7 : Int32) (ur : Nat → Int32) (pg : Nat → Int32) (bk : Nat → Int32) (a1 : Int32) (a2 : Int32) (hu5 : uP ≤ 5) (hur : uR ≤ 4) (hua : ua ≤ 14) : MU l D cI cZ yX8_teach cX8_teach 3 (some .int) (mR 2 46) [.ref q0, .int a1, .int a2] [(q0, .inr (8, [.int th, .ref y1, .int (nI uT), .int (nI up), .int (nI uP), .ref y2, .int (nI uR), .ref y3, .int (nI vP), .ref y4, .ref y5, .int (nI vR), .ref y6, .ref y7, .ref y8, .ref y9, .int (nI ua), .ref y10, .ref y11, .int (nI us), .ref y12, .ref y13, .long sd, .int z1, .int z2, .int z3, .int z4, .int z5, .int z6, .int z7, .ref y14])), (y3, .inl (cI, 12, .inl ur)), (y7, .inl (cI, 15, .inl pg)), (y9, .inl (cI, 210, .inl bk))] [(q0, .inr (8, [.int (f_X8_teach_th uP pg a1 a2), .ref y1, .int (nI uT), .int (nI up), .int (nI uP), .ref y2, .int (nI uR), .ref y3, .int (nI vP), .ref y4, .ref y5, .int (nI vR), .ref y6, .ref y7, .ref y8, .ref y9, .int (nI (f_X8_teach_ua uP ua pg a1 a2)), .ref y10, .ref y11, .int (nI us), .ref y12, .ref y13, .long sd, .int z1, .int z2, .int z3, .int z4, .int z5, .int z6, .int z7, .ref y14])), (y3, .inl (cI, 12, .inl ur)), (y7, .inl (cI, 15, .inl (f_X8_teach_pg uP pg a1 a2))), (y9, .inl (cI, 210, .inl (f_X8_teach_bk uP ua pg bk a1 a2)))] (some (.int (f_X8_teach uP uR ur pg a1 a2))) := by
  refine MU.of (by decide +kernel) (Nat.le_of_ble_eq_true rfl) ?_
  intro p e s m args below meth c ls Q A CF hr hlk hP hE hD hS hQ hl
  have hx := CF.1
  have hb := CF.2.1
  have hl : lv_has ls 3 [(0, .ref q0), (1, .int a1), (2, .int a2)] := hl
  refine lv_aload_n hx hb dX8_teach_0 rfl (lv_at hl 0 rfl) ?_
  refine lv_iconst (v := 0) hx hb dX8_teach_1 (by decide) ?_
  refine r_put (C := RX8) (T := TX8) (N := 31) (ws' := [(q0, .inr (8, [.int 0, .ref y1, .int (nI uT), .int (nI up), .int (nI uP), .ref y2, .int (nI uR), .ref y3, .int (nI vP), .ref y4, .ref y5, .int (nI vR), .ref y6, .ref y7, .ref y8, .ref y9, .int (nI ua), .ref y10, .ref y11, .int (nI us), .ref y12, .ref y13, .long sd, .int z1, .int z2, .int z3, .int z4, .int z5, .int z6, .int z7, .ref y14])), (y3, .inl (cI, 12, .inl ur)), (y7, .inl (cI, 15, .inl pg)), (y9, .inl (cI, 210, .inl bk))]) CF hE hP hD hS 0 rfl rfl inG8 tyX8 tyX8_ok nmX8 0 (by decide) tw_3_115 rfl rfl rfl rfl (Nat.le_of_ble_eq_true rfl) dX8_teach_2 rfl (fun H locs hP hD hS => ?_)
  refine lv_aload_n hx hb dX8_teach_5 rfl (lv_at hl 0 rfl) ?_
  refine lv_iload_n hx hb dX8_teach_6 rfl (lv_at hl 1 rfl) ?_
  refine ro_V (y := yX8_noPerson) (As := [.int a1]) (rest := []) (q0 := 0) CF (c_X8_noPerson l D cI cZ q0 y1 y2 y3 y4 y5 y6 y7 y8 y9 y10 y11 y12 y13 y14 0 uT up uP uR vP vR ua us sd z1 z2 z3 z4 z5 z6 z7 a1) lk_X8_127 hP hE [0] rfl rfl rfl rfl hl.1 rfl (Nat.le_of_ble_eq_true rfl) ⟨Nat.le_of_ble_eq_true rfl, Nat.le_of_ble_eq_true rfl, rfl, rfl⟩ ⟨Nat.zero_le _, Nat.zero_le _⟩ dX8_teach_7 ?_
  refine lv_if_ne (tgt := 20) hx hb dX8_teach_10 (by decide) (fun c_1 => ?_) (fun c_1 => ?_)
  · refine lv_iconst (v := (-1)) hx hb dX8_teach_20 (by decide) ?_
    have e_0 : (f_X8_teach_th uP pg a1 a2) = 0 := by rw [f_X8_teach_th, if_neg c_1]
    have e_1 : (f_X8_teach_pg uP pg a1 a2) = pg := by rw [f_X8_teach_pg, if_neg c_1]
    have e_2 : (f_X8_teach_bk uP ua pg bk a1 a2) = bk := by rw [f_X8_teach_bk, if_neg c_1]
    have e_3 : (f_X8_teach_ua uP ua pg a1 a2) = ua := by rw [f_X8_teach_ua, if_neg c_1]
    exact mu_reti CF hQ hr hlk rfl hP hS dX8_teach_21 (by rw [f_X8_teach, if_neg c_1]) (by rw [e_0, e_1, e_2, e_3])
  · have np_2 := noPerson_tn (a1 := a1) hu5 c_1
    have np_2l := np_2.2
    refine lv_iload_n hx hb dX8_teach_13 rfl (lv_at hl 2 rfl) ?_
    refine ro_S (y := yX8_noFact) (As := [.int a2]) (rest := []) CF (c_X8_noFact l D cI cZ a2) lk_X8_148 hE rfl hl.1 rfl (Nat.le_of_ble_eq_true rfl) ⟨Nat.le_of_ble_eq_true rfl, Nat.le_of_ble_eq_true rfl, rfl, rfl⟩ ⟨Nat.zero_le _, Nat.zero_le _⟩ dX8_teach_14 ?_
    refine lv_if_eq (tgt := 22) hx hb dX8_teach_17 (by decide) (fun c_3 => ?_) (fun c_3 => ?_)
    · refine lv_aload_n hx hb dX8_teach_22 rfl (lv_at hl 0 rfl) ?_
      refine r_get (C := RX8) (T := TX8) (N := 31) (v := .ref y7) CF hE hP 0 rfl rfl inG8 13 (by decide) tw_3_128 rfl rfl dX8_teach_23 ?_
      refine lv_iconst (v := 0) hx hb dX8_teach_26 (by decide) ?_
      refine lv_iload_n hx hb dX8_teach_27 rfl (lv_at hl 1 rfl) ?_
      refine lv_iadd hx hb dX8_teach_28 ?_
      refine r_iald (k := 15) (f := pg) CF hE hP 2 rfl (0 + a1.toNatClampNeg) (nf_add (nf_c 0) np_2.1) (by omega) (by decide) dX8_teach_29 ?_
      refine lv_iload_n hx hb dX8_teach_30 rfl (lv_at hl 2 rfl) ?_
      refine ro_S (y := yX8_has) (As := [.int (pg (0 + a1.toNatClampNeg)), .int a2]) (rest := []) CF (c_X8_has l D cI cZ (pg (0 + a1.toNatClampNeg)) a2) lk_X8_104 hE rfl hl.1 rfl (Nat.le_of_ble_eq_true rfl) ⟨Nat.le_of_ble_eq_true rfl, Nat.le_of_ble_eq_true rfl, rfl, rfl⟩ ⟨Nat.zero_le _, Nat.zero_le _⟩ dX8_teach_31 ?_
      refine lv_if_eq (tgt := 40) hx hb dX8_teach_34 (by decide) (fun c_4 => ?_) (fun c_4 => ?_)
      · refine lv_aload_n hx hb dX8_teach_40 rfl (lv_at hl 0 rfl) ?_
        refine mu_Vv (y := yX8_note) (As := []) (rest := []) (q0 := 0) (ws' := [(q0, .inr (8, [.int 0, .ref y1, .int (nI uT), .int (nI up), .int (nI uP), .ref y2, .int (nI uR), .ref y3, .int (nI vP), .ref y4, .ref y5, .int (nI vR), .ref y6, .ref y7, .ref y8, .ref y9, .int (nI (f_X8_note_ua ua)), .ref y10, .ref y11, .int (nI us), .ref y12, .ref y13, .long sd, .int z1, .int z2, .int z3, .int z4, .int z5, .int z6, .int z7, .ref y14])), (y3, .inl (cI, 12, .inl ur)), (y7, .inl (cI, 15, .inl pg)), (y9, .inl (cI, 210, .inl (f_X8_note_bk ua pg bk)))]) (ad := [q0, y3, y7, y9]) CF (c_X8_note l D cI cZ q0 y1 y2 y3 y4 y5 y6 y7 y8 y9 y10 y11 y12 y13 y14 0 uT up uP uR vP vR ua us sd z1 z2 z3 z4 z5 z6 z7 pg bk (by omega)) lk_X8_153 hP hE hD hS [0, 2, 3] rfl (by decide) (Nat.le_of_ble_eq_true rfl) rfl rfl rfl rfl rfl rfl hl.1 rfl (Nat.le_of_ble_eq_true rfl) ⟨Nat.le_of_ble_eq_true rfl, Nat.le_of_ble_eq_true rfl, rfl, rfl⟩ ⟨Nat.zero_le _, Nat.zero_le _⟩ dX8_teach_41 (fun H locs hP hD hS => ?_)
        refine lv_aload_n hx hb dX8_teach_44 rfl (lv_at hl 0 rfl) ?_
        refine r_get (C := RX8) (T := TX8) (N := 31) (v := .ref y7) CF hE hP 0 rfl rfl inG8 13 (by decide) tw_3_128 rfl rfl dX8_teach_45 ?_
        refine lv_iconst (v := 0) hx hb dX8_teach_48 (by decide) ?_
        refine lv_iload_n hx hb dX8_teach_49 rfl (lv_at hl 1 rfl) ?_
        refine lv_iadd hx hb dX8_teach_50 ?_
        refine lv_dup2_11 hx hb dX8_teach_51 rfl rfl ?_
        refine r_iald (k := 15) (f := pg) CF hE hP 2 rfl (0 + a1.toNatClampNeg) (nf_add (nf_c 0) np_2.1) (by omega) (by decide) dX8_teach_52 ?_
        refine lv_iconst (v := 1) hx hb dX8_teach_53 (by decide) ?_
        refine lv_iload_n hx hb dX8_teach_54 rfl (lv_at hl 2 rfl) ?_
        refine lv_ishl hx hb dX8_teach_55 ?_
        refine lv_ior hx hb dX8_teach_56 ?_
        refine r_iast (k := 15) (f := pg) (ws' := [(q0, .inr (8, [.int 0, .ref y1, .int (nI uT), .int (nI up), .int (nI uP), .ref y2, .int (nI uR), .ref y3, .int (nI vP), .ref y4, .ref y5, .int (nI vR), .ref y6, .ref y7, .ref y8, .ref y9, .int (nI (f_X8_note_ua ua)), .ref y10, .ref y11, .int (nI us), .ref y12, .ref y13, .long sd, .int z1, .int z2, .int z3, .int z4, .int z5, .int z6, .int z7, .ref y14])), (y3, .inl (cI, 12, .inl ur)), (y7, .inl (cI, 15, .inl (upd pg (0 + a1.toNatClampNeg) ((pg (0 + a1.toNatClampNeg)) ||| ((1 : Int32) <<< ((a2 : Int32) &&& 31)))))), (y9, .inl (cI, 210, .inl (f_X8_note_bk ua pg bk)))]) CF hE hP hD hS 2 rfl (0 + a1.toNatClampNeg) (nf_add (nf_c 0) np_2.1) (by omega) (by decide) dX8_teach_57 rfl (fun H locs hP hD hS => ?_)
        refine lv_aload_n hx hb dX8_teach_58 rfl (lv_at hl 0 rfl) ?_
        refine lv_aload_n hx hb dX8_teach_59 rfl (lv_at hl 0 rfl) ?_
        refine r_get (C := RX8) (T := TX8) (N := 31) (v := .ref y7) CF hE hP 0 rfl rfl inG8 13 (by decide) tw_3_128 rfl rfl dX8_teach_60 ?_
        refine lv_iconst (v := 0) hx hb dX8_teach_63 (by decide) ?_
        refine lv_iload_n hx hb dX8_teach_64 rfl (lv_at hl 1 rfl) ?_
        refine lv_iadd hx hb dX8_teach_65 ?_
        refine r_iald (k := 15) (f := (upd pg (0 + a1.toNatClampNeg) ((pg (0 + a1.toNatClampNeg)) ||| ((1 : Int32) <<< ((a2 : Int32) &&& 31))))) CF hE hP 2 rfl (0 + a1.toNatClampNeg) (nf_add (nf_c 0) np_2.1) (by omega) (by decide) dX8_teach_66 ?_
        refine ro_V (y := yX8_closed) (As := [.int ((upd pg (0 + a1.toNatClampNeg) ((pg (0 + a1.toNatClampNeg)) ||| ((1 : Int32) <<< ((a2 : Int32) &&& 31)))) (0 + a1.toNatClampNeg))]) (rest := []) (q0 := 0) CF (c_X8_closed l D cI cZ q0 y1 y2 y3 y4 y5 y6 y7 y8 y9 y10 y11 y12 y13 y14 0 uT up uP uR vP vR (f_X8_note_ua ua) us sd z1 z2 z3 z4 z5 z6 z7 ur ((upd pg (0 + a1.toNatClampNeg) ((pg (0 + a1.toNatClampNeg)) ||| ((1 : Int32) <<< ((a2 : Int32) &&& 31)))) (0 + a1.toNatClampNeg)) (by omega)) lk_X8_116 hP hE [0, 1] rfl rfl rfl rfl hl.1 rfl (Nat.le_of_ble_eq_true rfl) ⟨Nat.le_of_ble_eq_true rfl, Nat.le_of_ble_eq_true rfl, rfl, rfl⟩ ⟨Nat.zero_le _, Nat.zero_le _⟩ dX8_teach_67 ?_
        have e_0 : (f_X8_teach_th uP pg a1 a2) = 0 := by rw [f_X8_teach_th, if_pos c_1, if_pos c_3, if_pos c_4]
        have e_1 : (f_X8_teach_pg uP pg a1 a2) = (upd pg (0 + a1.toNatClampNeg) ((pg (0 + a1.toNatClampNeg)) ||| ((1 : Int32) <<< ((a2 : Int32) &&& 31)))) := by rw [f_X8_teach_pg, if_pos c_1, if_pos c_3, if_pos c_4]
        have e_2 : (f_X8_teach_bk uP ua pg bk a1 a2) = (f_X8_note_bk ua pg bk) := by rw [f_X8_teach_bk, if_pos c_1, if_pos c_3, if_pos c_4]
        have e_3 : (f_X8_teach_ua uP ua pg a1 a2) = (f_X8_note_ua ua) := by rw [f_X8_teach_ua, if_pos c_1, if_pos c_3, if_pos c_4]
        exact mu_reti CF hQ hr hlk rfl hP hS dX8_teach_70 (by rw [f_X8_teach, if_pos c_1, if_pos c_3, if_pos c_4]) (by rw [e_0, e_1, e_2, e_3])
      · refine lv_bipush (v := (-3)) hx hb dX8_teach_37 (by decide) ?_
        have e_0 : (f_X8_teach_th uP pg a1 a2) = 0 := by rw [f_X8_teach_th, if_pos c_1, if_pos c_3, if_neg c_4]
        have e_1 : (f_X8_teach_pg uP pg a1 a2) = pg := by rw [f_X8_teach_pg, if_pos c_1, if_pos c_3, if_neg c_4]
        have e_2 : (f_X8_teach_bk uP ua pg bk a1 a2) = bk := by rw [f_X8_teach_bk, if_pos c_1, if_pos c_3, if_neg c_4]
        have e_3 : (f_X8_teach_ua uP ua pg a1 a2) = ua := by rw [f_X8_teach_ua, if_pos c_1, if_pos c_3, if_neg c_4]
        exact mu_reti CF hQ hr hlk rfl hP hS dX8_teach_39 (by rw [f_X8_teach, if_pos c_1, if_pos c_3, if_neg c_4]) (by rw [e_0, e_1, e_2, e_3])
    · refine lv_iconst (v := (-1)) hx hb dX8_teach_20 (by decide) ?_
      have e_0 : (f_X8_teach_th uP pg a1 a2) = 0 := by rw [f_X8_teach_th, if_pos c_1, if_neg c_3]
      have e_1 : (f_X8_teach_pg uP pg a1 a2) = pg := by rw [f_X8_teach_pg, if_pos c_1, if_neg c_3]
      have e_2 : (f_X8_teach_bk uP ua pg bk a1 a2) = bk := by rw [f_X8_teach_bk, if_pos c_1, if_neg c_3]
      have e_3 : (f_X8_teach_ua uP ua pg a1 a2) = ua := by rw [f_X8_teach_ua, if_pos c_1, if_neg c_3]
      exact mu_reti CF hQ hr hlk rfl hP hS dX8_teach_21 (by rw [f_X8_teach, if_pos c_1, if_neg c_3]) (by rw [e_0, e_1, e_2, e_3])
def f_X8_forget (uP : Nat) (uR : Nat) (ur : Nat → Int32) (pg : Nat → Int32) (a1 : Int32) (a2 : Int32) : Int32 :=
  (if (f_X8_noPerson uP a1) = 0 then (if (f_X8_noFact a2) = 0 then (if (f_X8_has (pg (0 + a1.toNatClampNeg)) a2) = 0 then (-3) else ((B_X8_closed_4 uR ur ((upd pg (0 + a1.toNatClampNeg) ((pg (0 + a1.toNatClampNeg)) &&& (((1 : Int32) <<< ((a2 : Int32) &&& 31)) ^^^ (-1)))) (0 + a1.toNatClampNeg)) 4))) else (-1)) else (-1))
def f_X8_forget_th (uP : Nat) (pg : Nat → Int32) (a1 : Int32) (a2 : Int32) : Int32 :=
  (if (f_X8_noPerson uP a1) = 0 then (if (f_X8_noFact a2) = 0 then (if (f_X8_has (pg (0 + a1.toNatClampNeg)) a2) = 0 then 0 else 0) else 0) else 0)
def f_X8_forget_pg (uP : Nat) (pg : Nat → Int32) (a1 : Int32) (a2 : Int32) : Nat → Int32 :=
  (if (f_X8_noPerson uP a1) = 0 then (if (f_X8_noFact a2) = 0 then (if (f_X8_has (pg (0 + a1.toNatClampNeg)) a2) = 0 then pg else (upd pg (0 + a1.toNatClampNeg) ((pg (0 + a1.toNatClampNeg)) &&& (((1 : Int32) <<< ((a2 : Int32) &&& 31)) ^^^ (-1))))) else pg) else pg)
def f_X8_forget_bk (uP : Nat) (ua : Nat) (pg : Nat → Int32) (bk : Nat → Int32) (a1 : Int32) (a2 : Int32) : Nat → Int32 :=
  (if (f_X8_noPerson uP a1) = 0 then (if (f_X8_noFact a2) = 0 then (if (f_X8_has (pg (0 + a1.toNatClampNeg)) a2) = 0 then bk else (f_X8_note_bk ua pg bk)) else bk) else bk)
def f_X8_forget_ua (uP : Nat) (ua : Nat) (pg : Nat → Int32) (a1 : Int32) (a2 : Int32) : Nat :=
  (if (f_X8_noPerson uP a1) = 0 then (if (f_X8_noFact a2) = 0 then (if (f_X8_has (pg (0 + a1.toNatClampNeg)) a2) = 0 then ua else (f_X8_note_ua ua)) else ua) else ua)
set_option maxRecDepth 100000 in
set_option maxHeartbeats 4000000 in
theorem c_X8_forget (l : Launch) (D : va_G) (cI cZ : ClassId) (q0 y1 y2 y3 y4 y5 y6 y7 y8 y9 y10 y11 y12 y13 y14 : Nat) (th : Int32) (uT : Nat) (up : Nat) (uP : Nat) (uR : Nat) (vP : Nat) (vR : Nat) (ua : Nat) (us : Nat) (sd : Int64) (z1 : Int32) (z2 : Int32) (z3 : Int32) (z4 : Int32) (z5 : Int32) (z6 : Int32) (z7 : Int32) (ur : Nat → Int32) (pg : Nat → Int32) (bk : Nat → Int32) (a1 : Int32) (a2 : Int32) (hu5 : uP ≤ 5) (hur : uR ≤ 4) (hua : ua ≤ 14) : MU l D cI cZ yX8_forget cX8_forget 3 (some .int) (mR 2 46) [.ref q0, .int a1, .int a2] [(q0, .inr (8, [.int th, .ref y1, .int (nI uT), .int (nI up), .int (nI uP), .ref y2, .int (nI uR), .ref y3, .int (nI vP), .ref y4, .ref y5, .int (nI vR), .ref y6, .ref y7, .ref y8, .ref y9, .int (nI ua), .ref y10, .ref y11, .int (nI us), .ref y12, .ref y13, .long sd, .int z1, .int z2, .int z3, .int z4, .int z5, .int z6, .int z7, .ref y14])), (y3, .inl (cI, 12, .inl ur)), (y7, .inl (cI, 15, .inl pg)), (y9, .inl (cI, 210, .inl bk))] [(q0, .inr (8, [.int (f_X8_forget_th uP pg a1 a2), .ref y1, .int (nI uT), .int (nI up), .int (nI uP), .ref y2, .int (nI uR), .ref y3, .int (nI vP), .ref y4, .ref y5, .int (nI vR), .ref y6, .ref y7, .ref y8, .ref y9, .int (nI (f_X8_forget_ua uP ua pg a1 a2)), .ref y10, .ref y11, .int (nI us), .ref y12, .ref y13, .long sd, .int z1, .int z2, .int z3, .int z4, .int z5, .int z6, .int z7, .ref y14])), (y3, .inl (cI, 12, .inl ur)), (y7, .inl (cI, 15, .inl (f_X8_forget_pg uP pg a1 a2))), (y9, .inl (cI, 210, .inl (f_X8_forget_bk uP ua pg bk a1 a2)))] (some (.int (f_X8_forget uP uR ur pg a1 a2))) := by
  refine MU.of (by decide +kernel) (Nat.le_of_ble_eq_true rfl) ?_
  intro p e s m args below meth c ls Q A CF hr hlk hP hE hD hS hQ hl
  have hx := CF.1
  have hb := CF.2.1
  have hl : lv_has ls 3 [(0, .ref q0), (1, .int a1), (2, .int a2)] := hl
  refine lv_aload_n hx hb dX8_forget_0 rfl (lv_at hl 0 rfl) ?_
  refine lv_iconst (v := 0) hx hb dX8_forget_1 (by decide) ?_
  refine r_put (C := RX8) (T := TX8) (N := 31) (ws' := [(q0, .inr (8, [.int 0, .ref y1, .int (nI uT), .int (nI up), .int (nI uP), .ref y2, .int (nI uR), .ref y3, .int (nI vP), .ref y4, .ref y5, .int (nI vR), .ref y6, .ref y7, .ref y8, .ref y9, .int (nI ua), .ref y10, .ref y11, .int (nI us), .ref y12, .ref y13, .long sd, .int z1, .int z2, .int z3, .int z4, .int z5, .int z6, .int z7, .ref y14])), (y3, .inl (cI, 12, .inl ur)), (y7, .inl (cI, 15, .inl pg)), (y9, .inl (cI, 210, .inl bk))]) CF hE hP hD hS 0 rfl rfl inG8 tyX8 tyX8_ok nmX8 0 (by decide) tw_3_115 rfl rfl rfl rfl (Nat.le_of_ble_eq_true rfl) dX8_forget_2 rfl (fun H locs hP hD hS => ?_)
  refine lv_aload_n hx hb dX8_forget_5 rfl (lv_at hl 0 rfl) ?_
  refine lv_iload_n hx hb dX8_forget_6 rfl (lv_at hl 1 rfl) ?_
  refine ro_V (y := yX8_noPerson) (As := [.int a1]) (rest := []) (q0 := 0) CF (c_X8_noPerson l D cI cZ q0 y1 y2 y3 y4 y5 y6 y7 y8 y9 y10 y11 y12 y13 y14 0 uT up uP uR vP vR ua us sd z1 z2 z3 z4 z5 z6 z7 a1) lk_X8_127 hP hE [0] rfl rfl rfl rfl hl.1 rfl (Nat.le_of_ble_eq_true rfl) ⟨Nat.le_of_ble_eq_true rfl, Nat.le_of_ble_eq_true rfl, rfl, rfl⟩ ⟨Nat.zero_le _, Nat.zero_le _⟩ dX8_forget_7 ?_
  refine lv_if_ne (tgt := 20) hx hb dX8_forget_10 (by decide) (fun c_1 => ?_) (fun c_1 => ?_)
  · refine lv_iconst (v := (-1)) hx hb dX8_forget_20 (by decide) ?_
    have e_0 : (f_X8_forget_th uP pg a1 a2) = 0 := by rw [f_X8_forget_th, if_neg c_1]
    have e_1 : (f_X8_forget_pg uP pg a1 a2) = pg := by rw [f_X8_forget_pg, if_neg c_1]
    have e_2 : (f_X8_forget_bk uP ua pg bk a1 a2) = bk := by rw [f_X8_forget_bk, if_neg c_1]
    have e_3 : (f_X8_forget_ua uP ua pg a1 a2) = ua := by rw [f_X8_forget_ua, if_neg c_1]
    exact mu_reti CF hQ hr hlk rfl hP hS dX8_forget_21 (by rw [f_X8_forget, if_neg c_1]) (by rw [e_0, e_1, e_2, e_3])
  · have np_2 := noPerson_tn (a1 := a1) hu5 c_1
    have np_2l := np_2.2
    refine lv_iload_n hx hb dX8_forget_13 rfl (lv_at hl 2 rfl) ?_
    refine ro_S (y := yX8_noFact) (As := [.int a2]) (rest := []) CF (c_X8_noFact l D cI cZ a2) lk_X8_148 hE rfl hl.1 rfl (Nat.le_of_ble_eq_true rfl) ⟨Nat.le_of_ble_eq_true rfl, Nat.le_of_ble_eq_true rfl, rfl, rfl⟩ ⟨Nat.zero_le _, Nat.zero_le _⟩ dX8_forget_14 ?_
    refine lv_if_eq (tgt := 22) hx hb dX8_forget_17 (by decide) (fun c_3 => ?_) (fun c_3 => ?_)
    · refine lv_aload_n hx hb dX8_forget_22 rfl (lv_at hl 0 rfl) ?_
      refine r_get (C := RX8) (T := TX8) (N := 31) (v := .ref y7) CF hE hP 0 rfl rfl inG8 13 (by decide) tw_3_128 rfl rfl dX8_forget_23 ?_
      refine lv_iconst (v := 0) hx hb dX8_forget_26 (by decide) ?_
      refine lv_iload_n hx hb dX8_forget_27 rfl (lv_at hl 1 rfl) ?_
      refine lv_iadd hx hb dX8_forget_28 ?_
      refine r_iald (k := 15) (f := pg) CF hE hP 2 rfl (0 + a1.toNatClampNeg) (nf_add (nf_c 0) np_2.1) (by omega) (by decide) dX8_forget_29 ?_
      refine lv_iload_n hx hb dX8_forget_30 rfl (lv_at hl 2 rfl) ?_
      refine ro_S (y := yX8_has) (As := [.int (pg (0 + a1.toNatClampNeg)), .int a2]) (rest := []) CF (c_X8_has l D cI cZ (pg (0 + a1.toNatClampNeg)) a2) lk_X8_104 hE rfl hl.1 rfl (Nat.le_of_ble_eq_true rfl) ⟨Nat.le_of_ble_eq_true rfl, Nat.le_of_ble_eq_true rfl, rfl, rfl⟩ ⟨Nat.zero_le _, Nat.zero_le _⟩ dX8_forget_31 ?_
      refine lv_if_ne (tgt := 40) hx hb dX8_forget_34 (by decide) (fun c_4 => ?_) (fun c_4 => ?_)
      · refine lv_aload_n hx hb dX8_forget_40 rfl (lv_at hl 0 rfl) ?_
        refine mu_Vv (y := yX8_note) (As := []) (rest := []) (q0 := 0) (ws' := [(q0, .inr (8, [.int 0, .ref y1, .int (nI uT), .int (nI up), .int (nI uP), .ref y2, .int (nI uR), .ref y3, .int (nI vP), .ref y4, .ref y5, .int (nI vR), .ref y6, .ref y7, .ref y8, .ref y9, .int (nI (f_X8_note_ua ua)), .ref y10, .ref y11, .int (nI us), .ref y12, .ref y13, .long sd, .int z1, .int z2, .int z3, .int z4, .int z5, .int z6, .int z7, .ref y14])), (y3, .inl (cI, 12, .inl ur)), (y7, .inl (cI, 15, .inl pg)), (y9, .inl (cI, 210, .inl (f_X8_note_bk ua pg bk)))]) (ad := [q0, y3, y7, y9]) CF (c_X8_note l D cI cZ q0 y1 y2 y3 y4 y5 y6 y7 y8 y9 y10 y11 y12 y13 y14 0 uT up uP uR vP vR ua us sd z1 z2 z3 z4 z5 z6 z7 pg bk (by omega)) lk_X8_153 hP hE hD hS [0, 2, 3] rfl (by decide) (Nat.le_of_ble_eq_true rfl) rfl rfl rfl rfl rfl rfl hl.1 rfl (Nat.le_of_ble_eq_true rfl) ⟨Nat.le_of_ble_eq_true rfl, Nat.le_of_ble_eq_true rfl, rfl, rfl⟩ ⟨Nat.zero_le _, Nat.zero_le _⟩ dX8_forget_41 (fun H locs hP hD hS => ?_)
        refine lv_aload_n hx hb dX8_forget_44 rfl (lv_at hl 0 rfl) ?_
        refine r_get (C := RX8) (T := TX8) (N := 31) (v := .ref y7) CF hE hP 0 rfl rfl inG8 13 (by decide) tw_3_128 rfl rfl dX8_forget_45 ?_
        refine lv_iconst (v := 0) hx hb dX8_forget_48 (by decide) ?_
        refine lv_iload_n hx hb dX8_forget_49 rfl (lv_at hl 1 rfl) ?_
        refine lv_iadd hx hb dX8_forget_50 ?_
        refine lv_dup2_11 hx hb dX8_forget_51 rfl rfl ?_
        refine r_iald (k := 15) (f := pg) CF hE hP 2 rfl (0 + a1.toNatClampNeg) (nf_add (nf_c 0) np_2.1) (by omega) (by decide) dX8_forget_52 ?_
        refine lv_iconst (v := 1) hx hb dX8_forget_53 (by decide) ?_
        refine lv_iload_n hx hb dX8_forget_54 rfl (lv_at hl 2 rfl) ?_
        refine lv_ishl hx hb dX8_forget_55 ?_
        refine lv_iconst (v := (-1)) hx hb dX8_forget_56 (by decide) ?_
        refine lv_ixor hx hb dX8_forget_57 ?_
        refine lv_iand hx hb dX8_forget_58 ?_
        refine r_iast (k := 15) (f := pg) (ws' := [(q0, .inr (8, [.int 0, .ref y1, .int (nI uT), .int (nI up), .int (nI uP), .ref y2, .int (nI uR), .ref y3, .int (nI vP), .ref y4, .ref y5, .int (nI vR), .ref y6, .ref y7, .ref y8, .ref y9, .int (nI (f_X8_note_ua ua)), .ref y10, .ref y11, .int (nI us), .ref y12, .ref y13, .long sd, .int z1, .int z2, .int z3, .int z4, .int z5, .int z6, .int z7, .ref y14])), (y3, .inl (cI, 12, .inl ur)), (y7, .inl (cI, 15, .inl (upd pg (0 + a1.toNatClampNeg) ((pg (0 + a1.toNatClampNeg)) &&& (((1 : Int32) <<< ((a2 : Int32) &&& 31)) ^^^ (-1)))))), (y9, .inl (cI, 210, .inl (f_X8_note_bk ua pg bk)))]) CF hE hP hD hS 2 rfl (0 + a1.toNatClampNeg) (nf_add (nf_c 0) np_2.1) (by omega) (by decide) dX8_forget_59 rfl (fun H locs hP hD hS => ?_)
        refine lv_aload_n hx hb dX8_forget_60 rfl (lv_at hl 0 rfl) ?_
        refine lv_aload_n hx hb dX8_forget_61 rfl (lv_at hl 0 rfl) ?_
        refine r_get (C := RX8) (T := TX8) (N := 31) (v := .ref y7) CF hE hP 0 rfl rfl inG8 13 (by decide) tw_3_128 rfl rfl dX8_forget_62 ?_
        refine lv_iconst (v := 0) hx hb dX8_forget_65 (by decide) ?_
        refine lv_iload_n hx hb dX8_forget_66 rfl (lv_at hl 1 rfl) ?_
        refine lv_iadd hx hb dX8_forget_67 ?_
        refine r_iald (k := 15) (f := (upd pg (0 + a1.toNatClampNeg) ((pg (0 + a1.toNatClampNeg)) &&& (((1 : Int32) <<< ((a2 : Int32) &&& 31)) ^^^ (-1))))) CF hE hP 2 rfl (0 + a1.toNatClampNeg) (nf_add (nf_c 0) np_2.1) (by omega) (by decide) dX8_forget_68 ?_
        refine ro_V (y := yX8_closed) (As := [.int ((upd pg (0 + a1.toNatClampNeg) ((pg (0 + a1.toNatClampNeg)) &&& (((1 : Int32) <<< ((a2 : Int32) &&& 31)) ^^^ (-1)))) (0 + a1.toNatClampNeg))]) (rest := []) (q0 := 0) CF (c_X8_closed l D cI cZ q0 y1 y2 y3 y4 y5 y6 y7 y8 y9 y10 y11 y12 y13 y14 0 uT up uP uR vP vR (f_X8_note_ua ua) us sd z1 z2 z3 z4 z5 z6 z7 ur ((upd pg (0 + a1.toNatClampNeg) ((pg (0 + a1.toNatClampNeg)) &&& (((1 : Int32) <<< ((a2 : Int32) &&& 31)) ^^^ (-1)))) (0 + a1.toNatClampNeg)) (by omega)) lk_X8_116 hP hE [0, 1] rfl rfl rfl rfl hl.1 rfl (Nat.le_of_ble_eq_true rfl) ⟨Nat.le_of_ble_eq_true rfl, Nat.le_of_ble_eq_true rfl, rfl, rfl⟩ ⟨Nat.zero_le _, Nat.zero_le _⟩ dX8_forget_69 ?_
        have e_0 : (f_X8_forget_th uP pg a1 a2) = 0 := by rw [f_X8_forget_th, if_pos c_1, if_pos c_3, if_neg c_4]
        have e_1 : (f_X8_forget_pg uP pg a1 a2) = (upd pg (0 + a1.toNatClampNeg) ((pg (0 + a1.toNatClampNeg)) &&& (((1 : Int32) <<< ((a2 : Int32) &&& 31)) ^^^ (-1)))) := by rw [f_X8_forget_pg, if_pos c_1, if_pos c_3, if_neg c_4]
        have e_2 : (f_X8_forget_bk uP ua pg bk a1 a2) = (f_X8_note_bk ua pg bk) := by rw [f_X8_forget_bk, if_pos c_1, if_pos c_3, if_neg c_4]
        have e_3 : (f_X8_forget_ua uP ua pg a1 a2) = (f_X8_note_ua ua) := by rw [f_X8_forget_ua, if_pos c_1, if_pos c_3, if_neg c_4]
        exact mu_reti CF hQ hr hlk rfl hP hS dX8_forget_72 (by rw [f_X8_forget, if_pos c_1, if_pos c_3, if_neg c_4]) (by rw [e_0, e_1, e_2, e_3])
      · refine lv_bipush (v := (-3)) hx hb dX8_forget_37 (by decide) ?_
        have e_0 : (f_X8_forget_th uP pg a1 a2) = 0 := by rw [f_X8_forget_th, if_pos c_1, if_pos c_3, if_pos c_4]
        have e_1 : (f_X8_forget_pg uP pg a1 a2) = pg := by rw [f_X8_forget_pg, if_pos c_1, if_pos c_3, if_pos c_4]
        have e_2 : (f_X8_forget_bk uP ua pg bk a1 a2) = bk := by rw [f_X8_forget_bk, if_pos c_1, if_pos c_3, if_pos c_4]
        have e_3 : (f_X8_forget_ua uP ua pg a1 a2) = ua := by rw [f_X8_forget_ua, if_pos c_1, if_pos c_3, if_pos c_4]
        exact mu_reti CF hQ hr hlk rfl hP hS dX8_forget_39 (by rw [f_X8_forget, if_pos c_1, if_pos c_3, if_pos c_4]) (by rw [e_0, e_1, e_2, e_3])
    · refine lv_iconst (v := (-1)) hx hb dX8_forget_20 (by decide) ?_
      have e_0 : (f_X8_forget_th uP pg a1 a2) = 0 := by rw [f_X8_forget_th, if_pos c_1, if_neg c_3]
      have e_1 : (f_X8_forget_pg uP pg a1 a2) = pg := by rw [f_X8_forget_pg, if_pos c_1, if_neg c_3]
      have e_2 : (f_X8_forget_bk uP ua pg bk a1 a2) = bk := by rw [f_X8_forget_bk, if_pos c_1, if_neg c_3]
      have e_3 : (f_X8_forget_ua uP ua pg a1 a2) = ua := by rw [f_X8_forget_ua, if_pos c_1, if_neg c_3]
      exact mu_reti CF hQ hr hlk rfl hP hS dX8_forget_21 (by rw [f_X8_forget, if_pos c_1, if_neg c_3]) (by rw [e_0, e_1, e_2, e_3])
def f_X8_change (uP : Nat) (pg : Nat → Int32) (a1 : Int32) (a2 : Int32) : Int32 :=
  (if (f_X8_noPerson uP a1) = 0 then (if (f_X8_noPerson uP a2) = 0 then (if a1 = a2 then (-2) else ((upd (upd pg (5 + a1.toNatClampNeg) (pg (5 + a2.toNatClampNeg))) (5 + a2.toNatClampNeg) (pg (5 + a1.toNatClampNeg))) (5 + a1.toNatClampNeg))) else (-1)) else (-1))
def f_X8_change_th (uP : Nat) (a1 : Int32) (a2 : Int32) : Int32 :=
  (if (f_X8_noPerson uP a1) = 0 then (if (f_X8_noPerson uP a2) = 0 then (if a1 = a2 then 0 else 0) else 0) else 0)
def f_X8_change_pg (uP : Nat) (pg : Nat → Int32) (a1 : Int32) (a2 : Int32) : Nat → Int32 :=
  (if (f_X8_noPerson uP a1) = 0 then (if (f_X8_noPerson uP a2) = 0 then (if a1 = a2 then pg else (upd (upd pg (5 + a1.toNatClampNeg) (pg (5 + a2.toNatClampNeg))) (5 + a2.toNatClampNeg) (pg (5 + a1.toNatClampNeg)))) else pg) else pg)
def f_X8_change_bk (uP : Nat) (ua : Nat) (pg : Nat → Int32) (bk : Nat → Int32) (a1 : Int32) (a2 : Int32) : Nat → Int32 :=
  (if (f_X8_noPerson uP a1) = 0 then (if (f_X8_noPerson uP a2) = 0 then (if a1 = a2 then bk else (f_X8_note_bk ua pg bk)) else bk) else bk)
def f_X8_change_ua (uP : Nat) (ua : Nat) (a1 : Int32) (a2 : Int32) : Nat :=
  (if (f_X8_noPerson uP a1) = 0 then (if (f_X8_noPerson uP a2) = 0 then (if a1 = a2 then ua else (f_X8_note_ua ua)) else ua) else ua)
set_option maxRecDepth 100000 in
set_option maxHeartbeats 4000000 in
theorem c_X8_change (l : Launch) (D : va_G) (cI cZ : ClassId) (q0 y1 y2 y3 y4 y5 y6 y7 y8 y9 y10 y11 y12 y13 y14 : Nat) (th : Int32) (uT : Nat) (up : Nat) (uP : Nat) (uR : Nat) (vP : Nat) (vR : Nat) (ua : Nat) (us : Nat) (sd : Int64) (z1 : Int32) (z2 : Int32) (z3 : Int32) (z4 : Int32) (z5 : Int32) (z6 : Int32) (z7 : Int32) (pg : Nat → Int32) (bk : Nat → Int32) (a1 : Int32) (a2 : Int32) (hu5 : uP ≤ 5) (hua : ua ≤ 14) : MU l D cI cZ yX8_change cX8_change 4 (some .int) (mR 2 46) [.ref q0, .int a1, .int a2] [(q0, .inr (8, [.int th, .ref y1, .int (nI uT), .int (nI up), .int (nI uP), .ref y2, .int (nI uR), .ref y3, .int (nI vP), .ref y4, .ref y5, .int (nI vR), .ref y6, .ref y7, .ref y8, .ref y9, .int (nI ua), .ref y10, .ref y11, .int (nI us), .ref y12, .ref y13, .long sd, .int z1, .int z2, .int z3, .int z4, .int z5, .int z6, .int z7, .ref y14])), (y7, .inl (cI, 15, .inl pg)), (y9, .inl (cI, 210, .inl bk))] [(q0, .inr (8, [.int (f_X8_change_th uP a1 a2), .ref y1, .int (nI uT), .int (nI up), .int (nI uP), .ref y2, .int (nI uR), .ref y3, .int (nI vP), .ref y4, .ref y5, .int (nI vR), .ref y6, .ref y7, .ref y8, .ref y9, .int (nI (f_X8_change_ua uP ua a1 a2)), .ref y10, .ref y11, .int (nI us), .ref y12, .ref y13, .long sd, .int z1, .int z2, .int z3, .int z4, .int z5, .int z6, .int z7, .ref y14])), (y7, .inl (cI, 15, .inl (f_X8_change_pg uP pg a1 a2))), (y9, .inl (cI, 210, .inl (f_X8_change_bk uP ua pg bk a1 a2)))] (some (.int (f_X8_change uP pg a1 a2))) := by
  refine MU.of (by decide +kernel) (Nat.le_of_ble_eq_true rfl) ?_
  intro p e s m args below meth c ls Q A CF hr hlk hP hE hD hS hQ hl
  have hx := CF.1
  have hb := CF.2.1
  have hl : lv_has ls 4 [(0, .ref q0), (1, .int a1), (2, .int a2)] := hl
  refine lv_aload_n hx hb dX8_change_0 rfl (lv_at hl 0 rfl) ?_
  refine lv_iconst (v := 0) hx hb dX8_change_1 (by decide) ?_
  refine r_put (C := RX8) (T := TX8) (N := 31) (ws' := [(q0, .inr (8, [.int 0, .ref y1, .int (nI uT), .int (nI up), .int (nI uP), .ref y2, .int (nI uR), .ref y3, .int (nI vP), .ref y4, .ref y5, .int (nI vR), .ref y6, .ref y7, .ref y8, .ref y9, .int (nI ua), .ref y10, .ref y11, .int (nI us), .ref y12, .ref y13, .long sd, .int z1, .int z2, .int z3, .int z4, .int z5, .int z6, .int z7, .ref y14])), (y7, .inl (cI, 15, .inl pg)), (y9, .inl (cI, 210, .inl bk))]) CF hE hP hD hS 0 rfl rfl inG8 tyX8 tyX8_ok nmX8 0 (by decide) tw_3_115 rfl rfl rfl rfl (Nat.le_of_ble_eq_true rfl) dX8_change_2 rfl (fun H locs hP hD hS => ?_)
  refine lv_aload_n hx hb dX8_change_5 rfl (lv_at hl 0 rfl) ?_
  refine lv_iload_n hx hb dX8_change_6 rfl (lv_at hl 1 rfl) ?_
  refine ro_V (y := yX8_noPerson) (As := [.int a1]) (rest := []) (q0 := 0) CF (c_X8_noPerson l D cI cZ q0 y1 y2 y3 y4 y5 y6 y7 y8 y9 y10 y11 y12 y13 y14 0 uT up uP uR vP vR ua us sd z1 z2 z3 z4 z5 z6 z7 a1) lk_X8_127 hP hE [0] rfl rfl rfl rfl hl.1 rfl (Nat.le_of_ble_eq_true rfl) ⟨Nat.le_of_ble_eq_true rfl, Nat.le_of_ble_eq_true rfl, rfl, rfl⟩ ⟨Nat.zero_le _, Nat.zero_le _⟩ dX8_change_7 ?_
  refine lv_if_ne (tgt := 21) hx hb dX8_change_10 (by decide) (fun c_1 => ?_) (fun c_1 => ?_)
  · refine lv_iconst (v := (-1)) hx hb dX8_change_21 (by decide) ?_
    have e_0 : (f_X8_change_th uP a1 a2) = 0 := by rw [f_X8_change_th, if_neg c_1]
    have e_1 : (f_X8_change_pg uP pg a1 a2) = pg := by rw [f_X8_change_pg, if_neg c_1]
    have e_2 : (f_X8_change_bk uP ua pg bk a1 a2) = bk := by rw [f_X8_change_bk, if_neg c_1]
    have e_3 : (f_X8_change_ua uP ua a1 a2) = ua := by rw [f_X8_change_ua, if_neg c_1]
    exact mu_reti CF hQ hr hlk rfl hP hS dX8_change_22 (by rw [f_X8_change, if_neg c_1]) (by rw [e_0, e_1, e_2, e_3])
  · have np_2 := noPerson_tn (a1 := a1) hu5 c_1
    have np_2l := np_2.2
    refine lv_aload_n hx hb dX8_change_13 rfl (lv_at hl 0 rfl) ?_
    refine lv_iload_n hx hb dX8_change_14 rfl (lv_at hl 2 rfl) ?_
    refine ro_V (y := yX8_noPerson) (As := [.int a2]) (rest := []) (q0 := 0) CF (c_X8_noPerson l D cI cZ q0 y1 y2 y3 y4 y5 y6 y7 y8 y9 y10 y11 y12 y13 y14 0 uT up uP uR vP vR ua us sd z1 z2 z3 z4 z5 z6 z7 a2) lk_X8_127 hP hE [0] rfl rfl rfl rfl hl.1 rfl (Nat.le_of_ble_eq_true rfl) ⟨Nat.le_of_ble_eq_true rfl, Nat.le_of_ble_eq_true rfl, rfl, rfl⟩ ⟨Nat.zero_le _, Nat.zero_le _⟩ dX8_change_15 ?_
    refine lv_if_eq (tgt := 23) hx hb dX8_change_18 (by decide) (fun c_3 => ?_) (fun c_3 => ?_)
    · have np_4 := noPerson_tn (a1 := a2) hu5 c_3
      have np_4l := np_4.2
      refine lv_iload_n hx hb dX8_change_23 rfl (lv_at hl 1 rfl) ?_
      refine lv_iload_n hx hb dX8_change_24 rfl (lv_at hl 2 rfl) ?_
      refine lv_icmp_ne (tgt := 31) hx hb dX8_change_25 (by decide) (fun c_5 => ?_) (fun c_5 => ?_)
      · refine lv_aload_n hx hb dX8_change_31 rfl (lv_at hl 0 rfl) ?_
        refine mu_Vv (y := yX8_note) (As := []) (rest := []) (q0 := 0) (ws' := [(q0, .inr (8, [.int 0, .ref y1, .int (nI uT), .int (nI up), .int (nI uP), .ref y2, .int (nI uR), .ref y3, .int (nI vP), .ref y4, .ref y5, .int (nI vR), .ref y6, .ref y7, .ref y8, .ref y9, .int (nI (f_X8_note_ua ua)), .ref y10, .ref y11, .int (nI us), .ref y12, .ref y13, .long sd, .int z1, .int z2, .int z3, .int z4, .int z5, .int z6, .int z7, .ref y14])), (y7, .inl (cI, 15, .inl pg)), (y9, .inl (cI, 210, .inl (f_X8_note_bk ua pg bk)))]) (ad := [q0, y7, y9]) CF (c_X8_note l D cI cZ q0 y1 y2 y3 y4 y5 y6 y7 y8 y9 y10 y11 y12 y13 y14 0 uT up uP uR vP vR ua us sd z1 z2 z3 z4 z5 z6 z7 pg bk (by omega)) lk_X8_153 hP hE hD hS [0, 1, 2] rfl (by decide) (Nat.le_of_ble_eq_true rfl) rfl rfl rfl rfl rfl rfl hl.1 rfl (Nat.le_of_ble_eq_true rfl) ⟨Nat.le_of_ble_eq_true rfl, Nat.le_of_ble_eq_true rfl, rfl, rfl⟩ ⟨Nat.zero_le _, Nat.zero_le _⟩ dX8_change_32 (fun H locs hP hD hS => ?_)
        refine lv_aload_n hx hb dX8_change_35 rfl (lv_at hl 0 rfl) ?_
        refine r_get (C := RX8) (T := TX8) (N := 31) (v := .ref y7) CF hE hP 0 rfl rfl inG8 13 (by decide) tw_3_128 rfl rfl dX8_change_36 ?_
        refine lv_iconst (v := 5) hx hb dX8_change_39 (by decide) ?_
        refine lv_iload_n hx hb dX8_change_40 rfl (lv_at hl 1 rfl) ?_
        refine lv_iadd hx hb dX8_change_41 ?_
        refine r_iald (k := 15) (f := pg) CF hE hP 1 rfl (5 + a1.toNatClampNeg) (nf_add (nf_c 5) np_2.1) (by omega) (by decide) dX8_change_42 ?_
        refine lv_istore_n (lv' := [(3, .int (pg (5 + a1.toNatClampNeg))), (0, .ref q0), (1, .int a1), (2, .int a2)]) hx hb dX8_change_43 rfl hl (by decide) rfl (fun ls hl => ?_)
        refine lv_aload_n hx hb dX8_change_44 rfl (lv_at hl 1 rfl) ?_
        refine r_get (C := RX8) (T := TX8) (N := 31) (v := .ref y7) CF hE hP 0 rfl rfl inG8 13 (by decide) tw_3_128 rfl rfl dX8_change_45 ?_
        refine lv_iconst (v := 5) hx hb dX8_change_48 (by decide) ?_
        refine lv_iload_n hx hb dX8_change_49 rfl (lv_at hl 2 rfl) ?_
        refine lv_iadd hx hb dX8_change_50 ?_
        refine lv_aload_n hx hb dX8_change_51 rfl (lv_at hl 1 rfl) ?_
        refine r_get (C := RX8) (T := TX8) (N := 31) (v := .ref y7) CF hE hP 0 rfl rfl inG8 13 (by decide) tw_3_128 rfl rfl dX8_change_52 ?_
        refine lv_iconst (v := 5) hx hb dX8_change_55 (by decide) ?_
        refine lv_iload_n hx hb dX8_change_56 rfl (lv_at hl 3 rfl) ?_
        refine lv_iadd hx hb dX8_change_57 ?_
        refine r_iald (k := 15) (f := pg) CF hE hP 1 rfl (5 + a2.toNatClampNeg) (nf_add (nf_c 5) np_4.1) (by omega) (by decide) dX8_change_58 ?_
        refine r_iast (k := 15) (f := pg) (ws' := [(q0, .inr (8, [.int 0, .ref y1, .int (nI uT), .int (nI up), .int (nI uP), .ref y2, .int (nI uR), .ref y3, .int (nI vP), .ref y4, .ref y5, .int (nI vR), .ref y6, .ref y7, .ref y8, .ref y9, .int (nI (f_X8_note_ua ua)), .ref y10, .ref y11, .int (nI us), .ref y12, .ref y13, .long sd, .int z1, .int z2, .int z3, .int z4, .int z5, .int z6, .int z7, .ref y14])), (y7, .inl (cI, 15, .inl (upd pg (5 + a1.toNatClampNeg) (pg (5 + a2.toNatClampNeg))))), (y9, .inl (cI, 210, .inl (f_X8_note_bk ua pg bk)))]) CF hE hP hD hS 1 rfl (5 + a1.toNatClampNeg) (nf_add (nf_c 5) np_2.1) (by omega) (by decide) dX8_change_59 rfl (fun H locs hP hD hS => ?_)
        refine lv_aload_n hx hb dX8_change_60 rfl (lv_at hl 1 rfl) ?_
        refine r_get (C := RX8) (T := TX8) (N := 31) (v := .ref y7) CF hE hP 0 rfl rfl inG8 13 (by decide) tw_3_128 rfl rfl dX8_change_61 ?_
        refine lv_iconst (v := 5) hx hb dX8_change_64 (by decide) ?_
        refine lv_iload_n hx hb dX8_change_65 rfl (lv_at hl 3 rfl) ?_
        refine lv_iadd hx hb dX8_change_66 ?_
        refine lv_iload_n hx hb dX8_change_67 rfl (lv_at hl 0 rfl) ?_
        refine r_iast (k := 15) (f := (upd pg (5 + a1.toNatClampNeg) (pg (5 + a2.toNatClampNeg)))) (ws' := [(q0, .inr (8, [.int 0, .ref y1, .int (nI uT), .int (nI up), .int (nI uP), .ref y2, .int (nI uR), .ref y3, .int (nI vP), .ref y4, .ref y5, .int (nI vR), .ref y6, .ref y7, .ref y8, .ref y9, .int (nI (f_X8_note_ua ua)), .ref y10, .ref y11, .int (nI us), .ref y12, .ref y13, .long sd, .int z1, .int z2, .int z3, .int z4, .int z5, .int z6, .int z7, .ref y14])), (y7, .inl (cI, 15, .inl (upd (upd pg (5 + a1.toNatClampNeg) (pg (5 + a2.toNatClampNeg))) (5 + a2.toNatClampNeg) (pg (5 + a1.toNatClampNeg))))), (y9, .inl (cI, 210, .inl (f_X8_note_bk ua pg bk)))]) CF hE hP hD hS 1 rfl (5 + a2.toNatClampNeg) (nf_add (nf_c 5) np_4.1) (by omega) (by decide) dX8_change_68 rfl (fun H locs hP hD hS => ?_)
        refine lv_aload_n hx hb dX8_change_69 rfl (lv_at hl 1 rfl) ?_
        refine r_get (C := RX8) (T := TX8) (N := 31) (v := .ref y7) CF hE hP 0 rfl rfl inG8 13 (by decide) tw_3_128 rfl rfl dX8_change_70 ?_
        refine lv_iconst (v := 5) hx hb dX8_change_73 (by decide) ?_
        refine lv_iload_n hx hb dX8_change_74 rfl (lv_at hl 2 rfl) ?_
        refine lv_iadd hx hb dX8_change_75 ?_
        refine r_iald (k := 15) (f := (upd (upd pg (5 + a1.toNatClampNeg) (pg (5 + a2.toNatClampNeg))) (5 + a2.toNatClampNeg) (pg (5 + a1.toNatClampNeg)))) CF hE hP 1 rfl (5 + a1.toNatClampNeg) (nf_add (nf_c 5) np_2.1) (by omega) (by decide) dX8_change_76 ?_
        have e_0 : (f_X8_change_th uP a1 a2) = 0 := by rw [f_X8_change_th, if_pos c_1, if_pos c_3, if_neg c_5]
        have e_1 : (f_X8_change_pg uP pg a1 a2) = (upd (upd pg (5 + a1.toNatClampNeg) (pg (5 + a2.toNatClampNeg))) (5 + a2.toNatClampNeg) (pg (5 + a1.toNatClampNeg))) := by rw [f_X8_change_pg, if_pos c_1, if_pos c_3, if_neg c_5]
        have e_2 : (f_X8_change_bk uP ua pg bk a1 a2) = (f_X8_note_bk ua pg bk) := by rw [f_X8_change_bk, if_pos c_1, if_pos c_3, if_neg c_5]
        have e_3 : (f_X8_change_ua uP ua a1 a2) = (f_X8_note_ua ua) := by rw [f_X8_change_ua, if_pos c_1, if_pos c_3, if_neg c_5]
        exact mu_reti CF hQ hr hlk rfl hP hS dX8_change_77 (by rw [f_X8_change, if_pos c_1, if_pos c_3, if_neg c_5]) (by rw [e_0, e_1, e_2, e_3])
      · refine lv_bipush (v := (-2)) hx hb dX8_change_28 (by decide) ?_
        have e_0 : (f_X8_change_th uP a1 a2) = 0 := by rw [f_X8_change_th, if_pos c_1, if_pos c_3, if_pos c_5]
        have e_1 : (f_X8_change_pg uP pg a1 a2) = pg := by rw [f_X8_change_pg, if_pos c_1, if_pos c_3, if_pos c_5]
        have e_2 : (f_X8_change_bk uP ua pg bk a1 a2) = bk := by rw [f_X8_change_bk, if_pos c_1, if_pos c_3, if_pos c_5]
        have e_3 : (f_X8_change_ua uP ua a1 a2) = ua := by rw [f_X8_change_ua, if_pos c_1, if_pos c_3, if_pos c_5]
        exact mu_reti CF hQ hr hlk rfl hP hS dX8_change_30 (by rw [f_X8_change, if_pos c_1, if_pos c_3, if_pos c_5]) (by rw [e_0, e_1, e_2, e_3])
    · refine lv_iconst (v := (-1)) hx hb dX8_change_21 (by decide) ?_
      have e_0 : (f_X8_change_th uP a1 a2) = 0 := by rw [f_X8_change_th, if_pos c_1, if_neg c_3]
      have e_1 : (f_X8_change_pg uP pg a1 a2) = pg := by rw [f_X8_change_pg, if_pos c_1, if_neg c_3]
      have e_2 : (f_X8_change_bk uP ua pg bk a1 a2) = bk := by rw [f_X8_change_bk, if_pos c_1, if_neg c_3]
      have e_3 : (f_X8_change_ua uP ua a1 a2) = ua := by rw [f_X8_change_ua, if_pos c_1, if_neg c_3]
      exact mu_reti CF hQ hr hlk rfl hP hS dX8_change_22 (by rw [f_X8_change, if_pos c_1, if_neg c_3]) (by rw [e_0, e_1, e_2, e_3])
def S_X8_undo_27 (ua : Nat) (bk : Nat → Int32) (k27 : Nat) (x27_0 : Nat → Int32) : (Nat → Int32) :=
  (upd x27_0 k27 (bk ((15 * (ua - 1)) + k27)))
def B_X8_undo_27 (ua : Nat) (bk : Nat → Int32) (i0 : Nat → Int32) : Nat → (Nat → Int32)
  | 0 => i0
  | k + 1 => S_X8_undo_27 ua bk k (B_X8_undo_27 ua bk i0 k)
def f_X8_undo (ua : Nat) : Int32 :=
  (if (nI ua) = 0 then (-3) else (nI (ua - 1)))
def f_X8_undo_th (ua : Nat) : Int32 :=
  (if (nI ua) = 0 then 0 else 0)
def f_X8_undo_pg (ua : Nat) (pg : Nat → Int32) (bk : Nat → Int32) : Nat → Int32 :=
  (if (nI ua) = 0 then pg else ((B_X8_undo_27 ua bk pg 15)))
def f_X8_undo_ua (ua : Nat) : Nat :=
  (if (nI ua) = 0 then ua else (ua - 1))
set_option maxRecDepth 100000 in
set_option maxHeartbeats 4000000 in
theorem c_X8_undo (l : Launch) (D : va_G) (cI cZ : ClassId) (q0 y1 y2 y3 y4 y5 y6 y7 y8 y9 y10 y11 y12 y13 y14 : Nat) (th : Int32) (uT : Nat) (up : Nat) (uP : Nat) (uR : Nat) (vP : Nat) (vR : Nat) (ua : Nat) (us : Nat) (sd : Int64) (z1 : Int32) (z2 : Int32) (z3 : Int32) (z4 : Int32) (z5 : Int32) (z6 : Int32) (z7 : Int32) (pg : Nat → Int32) (bk : Nat → Int32) (hua : ua ≤ 14) : MU l D cI cZ yX8_undo cX8_undo 2 (some .int) (mR 0 0) [.ref q0] [(q0, .inr (8, [.int th, .ref y1, .int (nI uT), .int (nI up), .int (nI uP), .ref y2, .int (nI uR), .ref y3, .int (nI vP), .ref y4, .ref y5, .int (nI vR), .ref y6, .ref y7, .ref y8, .ref y9, .int (nI ua), .ref y10, .ref y11, .int (nI us), .ref y12, .ref y13, .long sd, .int z1, .int z2, .int z3, .int z4, .int z5, .int z6, .int z7, .ref y14])), (y7, .inl (cI, 15, .inl pg)), (y9, .inl (cI, 210, .inl bk))] [(q0, .inr (8, [.int (f_X8_undo_th ua), .ref y1, .int (nI uT), .int (nI up), .int (nI uP), .ref y2, .int (nI uR), .ref y3, .int (nI vP), .ref y4, .ref y5, .int (nI vR), .ref y6, .ref y7, .ref y8, .ref y9, .int (nI (f_X8_undo_ua ua)), .ref y10, .ref y11, .int (nI us), .ref y12, .ref y13, .long sd, .int z1, .int z2, .int z3, .int z4, .int z5, .int z6, .int z7, .ref y14])), (y7, .inl (cI, 15, .inl (f_X8_undo_pg ua pg bk))), (y9, .inl (cI, 210, .inl bk))] (some (.int (f_X8_undo ua))) := by
  refine MU.of (by decide +kernel) (Nat.le_of_ble_eq_true rfl) ?_
  intro p e s m args below meth c ls Q A CF hr hlk hP hE hD hS hQ hl
  have hx := CF.1
  have hb := CF.2.1
  have hl : lv_has ls 2 [(0, .ref q0)] := hl
  refine lv_aload_n hx hb dX8_undo_0 rfl (lv_at hl 0 rfl) ?_
  refine lv_iconst (v := 0) hx hb dX8_undo_1 (by decide) ?_
  refine r_put (C := RX8) (T := TX8) (N := 31) (ws' := [(q0, .inr (8, [.int 0, .ref y1, .int (nI uT), .int (nI up), .int (nI uP), .ref y2, .int (nI uR), .ref y3, .int (nI vP), .ref y4, .ref y5, .int (nI vR), .ref y6, .ref y7, .ref y8, .ref y9, .int (nI ua), .ref y10, .ref y11, .int (nI us), .ref y12, .ref y13, .long sd, .int z1, .int z2, .int z3, .int z4, .int z5, .int z6, .int z7, .ref y14])), (y7, .inl (cI, 15, .inl pg)), (y9, .inl (cI, 210, .inl bk))]) CF hE hP hD hS 0 rfl rfl inG8 tyX8 tyX8_ok nmX8 0 (by decide) tw_3_115 rfl rfl rfl rfl (Nat.le_of_ble_eq_true rfl) dX8_undo_2 rfl (fun H locs hP hD hS => ?_)
  refine lv_aload_n hx hb dX8_undo_5 rfl (lv_at hl 0 rfl) ?_
  refine r_get (C := RX8) (T := TX8) (N := 31) (v := .int (nI ua)) CF hE hP 0 rfl rfl inG8 16 (by decide) tw_3_131 rfl rfl dX8_undo_6 ?_
  refine lv_if_ne (tgt := 15) hx hb dX8_undo_9 (by decide) (fun c_1 => ?_) (fun c_1 => ?_)
  · have o_1 : ¬ ua = 0 := fun h => c_1 ((ceq (rfl : nI ua = nI ua) (nf_c 0) (by omega) (by omega)).mpr h)
    refine lv_aload_n hx hb dX8_undo_15 rfl (lv_at hl 0 rfl) ?_
    refine lv_dup hx hb dX8_undo_16 rfl ?_
    refine r_get (C := RX8) (T := TX8) (N := 31) (v := .int (nI ua)) CF hE hP 0 rfl rfl inG8 16 (by decide) tw_3_131 rfl rfl dX8_undo_17 ?_
    refine lv_iconst (v := 1) hx hb dX8_undo_20 (by decide) ?_
    refine lv_isub hx hb dX8_undo_21 ?_
    refine lv_as (z := (nI (ua - 1))) (nf_sub (rfl : nI ua = nI ua) (nf_c 1) (by omega)) ?_
    refine r_put (C := RX8) (T := TX8) (N := 31) (ws' := [(q0, .inr (8, [.int 0, .ref y1, .int (nI uT), .int (nI up), .int (nI uP), .ref y2, .int (nI uR), .ref y3, .int (nI vP), .ref y4, .ref y5, .int (nI vR), .ref y6, .ref y7, .ref y8, .ref y9, .int (nI (ua - 1)), .ref y10, .ref y11, .int (nI us), .ref y12, .ref y13, .long sd, .int z1, .int z2, .int z3, .int z4, .int z5, .int z6, .int z7, .ref y14])), (y7, .inl (cI, 15, .inl pg)), (y9, .inl (cI, 210, .inl bk))]) CF hE hP hD hS 0 rfl rfl inG8 tyX8 tyX8_ok nmX8 16 (by decide) tw_3_131 rfl rfl rfl rfl (Nat.le_of_ble_eq_true rfl) dX8_undo_22 rfl (fun H locs hP hD hS => ?_)
    refine lv_iconst (v := 0) hx hb dX8_undo_25 (by decide) ?_
    refine lv_istore_n (lv' := [(1, .int 0), (0, .ref q0)]) hx hb dX8_undo_26 rfl hl (by decide) rfl (fun ls hl => ?_)
    have LOOP_27 : ∀ (n_27 k27 : Nat) (x27_0 : Nat → Int32) (H : Heap) (locs : List Loc) (ls : Array Slot), k27 ≤ 15 → 15 - k27 < n_27 → (B_X8_undo_27 ua bk pg k27) = x27_0 → va_P D vwCl [(q0, .inr (8, [.int 0, .ref y1, .int (nI uT), .int (nI up), .int (nI uP), .ref y2, .int (nI uR), .ref y3, .int (nI vP), .ref y4, .ref y5, .int (nI vR), .ref y6, .ref y7, .ref y8, .ref y9, .int (nI (ua - 1)), .ref y10, .ref y11, .int (nI us), .ref y12, .ref y13, .long sd, .int z1, .int z2, .int z3, .int z4, .int z5, .int z6, .int z7, .ref y14])), (y7, .inl (cI, 15, .inl x27_0)), (y9, .inl (cI, 210, .inl bk))] H → va_D A [(q0, .inr (8, [.int 0, .ref y1, .int (nI uT), .int (nI up), .int (nI uP), .ref y2, .int (nI uR), .ref y3, .int (nI vP), .ref y4, .ref y5, .int (nI vR), .ref y6, .ref y7, .ref y8, .ref y9, .int (nI (ua - 1)), .ref y10, .ref y11, .int (nI us), .ref y12, .ref y13, .long sd, .int z1, .int z2, .int z3, .int z4, .int z5, .int z6, .int z7, .ref y14])), (y7, .inl (cI, 15, .inl x27_0)), (y9, .inl (cI, 210, .inl bk))] → va_S A s.heap H locs → lv_has ls 2 [(1, .int (nI k27)), (0, .ref q0)] → W p l e (mR 0 0) s m args below meth c H locs 0 0 Q (F0 m 27 ls []) := by
      intro n_27
      induction n_27 with
      | zero => intro k27 x27_0 H locs ls hk_27 hn_27 hB_27 hP hD hS hl; exact absurd hn_27 (Nat.not_lt_zero _)
      | succ n_27 ih_27 =>
        intro k27 x27_0 H locs ls hk_27 hn_27 hB_27 hP hD hS hl
        refine lv_iload_n hx hb dX8_undo_27 rfl (lv_at hl 0 rfl) ?_
        refine lv_bipush (v := 15) hx hb dX8_undo_28 (by decide) ?_
        refine lv_icmp_ge (tgt := 59) hx hb dX8_undo_30 (by decide) (fun c_2 => ?_) (fun c_2 => ?_)
        · have o_2 : 15 ≤ k27 := (cle (nf_c 15) (rfl : nI k27 = nI k27) (by omega) (by omega)).mp c_2
          have hkN : 15 = k27 := by omega
          subst hkN
          subst hB_27
          refine lv_aload_n hx hb dX8_undo_59 rfl (lv_at hl 1 rfl) ?_
          refine r_get (C := RX8) (T := TX8) (N := 31) (v := .int (nI (ua - 1))) CF hE hP 0 rfl rfl inG8 16 (by decide) tw_3_131 rfl rfl dX8_undo_60 ?_
          have e_0 : (f_X8_undo_th ua) = 0 := by rw [f_X8_undo_th, if_neg c_1]
          have e_1 : (f_X8_undo_pg ua pg bk) = ((B_X8_undo_27 ua bk pg 15)) := by rw [f_X8_undo_pg, if_neg c_1]
          have e_2 : (f_X8_undo_ua ua) = (ua - 1) := by rw [f_X8_undo_ua, if_neg c_1]
          exact mu_reti CF hQ hr hlk rfl hP hS dX8_undo_63 (by rw [f_X8_undo, if_neg c_1]) (by rw [e_0, e_1, e_2])
        · have o_2 : ¬ 15 ≤ k27 := fun h => c_2 ((cle (nf_c 15) (rfl : nI k27 = nI k27) (by omega) (by omega)).mpr h)
          refine lv_aload_n hx hb dX8_undo_33 rfl (lv_at hl 1 rfl) ?_
          refine r_get (C := RX8) (T := TX8) (N := 31) (v := .ref y7) CF hE hP 0 rfl rfl inG8 13 (by decide) tw_3_128 rfl rfl dX8_undo_34 ?_
          refine lv_iload_n hx hb dX8_undo_37 rfl (lv_at hl 0 rfl) ?_
          refine lv_aload_n hx hb dX8_undo_38 rfl (lv_at hl 1 rfl) ?_
          refine r_get (C := RX8) (T := TX8) (N := 31) (v := .ref y9) CF hE hP 0 rfl rfl inG8 15 (by decide) tw_3_130 rfl rfl dX8_undo_39 ?_
          refine lv_bipush (v := 15) hx hb dX8_undo_42 (by decide) ?_
          refine lv_aload_n hx hb dX8_undo_44 rfl (lv_at hl 1 rfl) ?_
          refine r_get (C := RX8) (T := TX8) (N := 31) (v := .int (nI (ua - 1))) CF hE hP 0 rfl rfl inG8 16 (by decide) tw_3_131 rfl rfl dX8_undo_45 ?_
          refine lv_imul hx hb dX8_undo_48 ?_
          refine lv_iload_n hx hb dX8_undo_49 rfl (lv_at hl 0 rfl) ?_
          refine lv_iadd hx hb dX8_undo_50 ?_
          refine r_iald (k := 210) (f := bk) CF hE hP 2 rfl ((15 * (ua - 1)) + k27) (nf_add (nf_mul (nf_c 15) (rfl : nI (ua - 1) = nI (ua - 1))) (rfl : nI k27 = nI k27)) (by omega) (by decide) dX8_undo_51 ?_
          refine r_iast (k := 15) (f := x27_0) (ws' := [(q0, .inr (8, [.int 0, .ref y1, .int (nI uT), .int (nI up), .int (nI uP), .ref y2, .int (nI uR), .ref y3, .int (nI vP), .ref y4, .ref y5, .int (nI vR), .ref y6, .ref y7, .ref y8, .ref y9, .int (nI (ua - 1)), .ref y10, .ref y11, .int (nI us), .ref y12, .ref y13, .long sd, .int z1, .int z2, .int z3, .int z4, .int z5, .int z6, .int z7, .ref y14])), (y7, .inl (cI, 15, .inl (upd x27_0 k27 (bk ((15 * (ua - 1)) + k27))))), (y9, .inl (cI, 210, .inl bk))]) CF hE hP hD hS 1 rfl k27 (rfl : nI k27 = nI k27) (by omega) (by decide) dX8_undo_52 rfl (fun H locs hP hD hS => ?_)
          refine lv_iinc (v := (nI (k27 + 1))) (lv' := [(1, .int (nI (k27 + 1))), (0, .ref q0)]) hx hb dX8_undo_53 hl (k := 0) rfl (nf_inc 1 (rfl : nI k27 = nI k27)) (by decide) rfl (fun ls hl => ?_)
          refine lv_goto (tgt := 27) hx hb dX8_undo_56 (by decide) ?_
          have hB2 : B_X8_undo_27 ua bk pg (k27 + 1) = (upd x27_0 k27 (bk ((15 * (ua - 1)) + k27))) := by
            rw [B_X8_undo_27, hB_27]
            rw [S_X8_undo_27]
          exact ih_27 (k27 + 1) (upd x27_0 k27 (bk ((15 * (ua - 1)) + k27))) _ _ _ (by omega) (by omega) hB2 hP hD hS (lv_sub hl [0, 1] rfl)
    have e_k : 0 = nI (0) := (nf_c 0).trans (congrArg nI (by omega))
    rw [e_k] at hl
    exact LOOP_27 (15 - 0 + 1) 0 pg _ _ _ (Nat.zero_le _) (by omega) rfl hP hD hS (lv_sub hl [0, 1] rfl)
  · have o_1 : ua = 0 := (ceq (rfl : nI ua = nI ua) (nf_c 0) (by omega) (by omega)).mp c_1
    refine lv_bipush (v := (-3)) hx hb dX8_undo_12 (by decide) ?_
    have e_0 : (f_X8_undo_th ua) = 0 := by rw [f_X8_undo_th, if_pos c_1]
    have e_1 : (f_X8_undo_pg ua pg bk) = pg := by rw [f_X8_undo_pg, if_pos c_1]
    have e_2 : (f_X8_undo_ua ua) = ua := by rw [f_X8_undo_ua, if_pos c_1]
    exact mu_reti CF hQ hr hlk rfl hP hS dX8_undo_14 (by rw [f_X8_undo, if_pos c_1]) (by rw [e_0, e_1, e_2])
def f_X8_hearers (uP : Nat) (uk : Nat → Int32) (pg : Nat → Int32) (a1 : Int32) (a2 : Int32) : Int32 :=
  (if (f_X8_noPerson uP a1) = 0 then (if (f_X8_in a2.toInt64 1 2) = 0 then (-2) else ((B_X8_hearersOf_6 uP uk pg a1 a1.toNatClampNeg a2 0 uP))) else (-1))
def f_X8_hearers_th (uP : Nat) (a1 : Int32) (a2 : Int32) : Int32 :=
  (if (f_X8_noPerson uP a1) = 0 then (if (f_X8_in a2.toInt64 1 2) = 0 then 0 else 0) else 0)
set_option maxRecDepth 100000 in
set_option maxHeartbeats 4000000 in
theorem c_X8_hearers (l : Launch) (D : va_G) (cI cZ : ClassId) (q0 y1 y2 y3 y4 y5 y6 y7 y8 y9 y10 y11 y12 y13 y14 : Nat) (th : Int32) (uT : Nat) (up : Nat) (uP : Nat) (uR : Nat) (vP : Nat) (vR : Nat) (ua : Nat) (us : Nat) (sd : Int64) (z1 : Int32) (z2 : Int32) (z3 : Int32) (z4 : Int32) (z5 : Int32) (z6 : Int32) (z7 : Int32) (uk : Nat → Int32) (pg : Nat → Int32) (a1 : Int32) (a2 : Int32) (hu5 : uP ≤ 5) : MU l D cI cZ yX8_hearers cX8_hearers 3 (some .int) (mR 3 74) [.ref q0, .int a1, .int a2] [(q0, .inr (8, [.int th, .ref y1, .int (nI uT), .int (nI up), .int (nI uP), .ref y2, .int (nI uR), .ref y3, .int (nI vP), .ref y4, .ref y5, .int (nI vR), .ref y6, .ref y7, .ref y8, .ref y9, .int (nI ua), .ref y10, .ref y11, .int (nI us), .ref y12, .ref y13, .long sd, .int z1, .int z2, .int z3, .int z4, .int z5, .int z6, .int z7, .ref y14])), (y2, .inl (cI, 5, .inl uk)), (y7, .inl (cI, 15, .inl pg))] [(q0, .inr (8, [.int (f_X8_hearers_th uP a1 a2), .ref y1, .int (nI uT), .int (nI up), .int (nI uP), .ref y2, .int (nI uR), .ref y3, .int (nI vP), .ref y4, .ref y5, .int (nI vR), .ref y6, .ref y7, .ref y8, .ref y9, .int (nI ua), .ref y10, .ref y11, .int (nI us), .ref y12, .ref y13, .long sd, .int z1, .int z2, .int z3, .int z4, .int z5, .int z6, .int z7, .ref y14])), (y2, .inl (cI, 5, .inl uk)), (y7, .inl (cI, 15, .inl pg))] (some (.int (f_X8_hearers uP uk pg a1 a2))) := by
  refine MU.of (by decide +kernel) (Nat.le_of_ble_eq_true rfl) ?_
  intro p e s m args below meth c ls Q A CF hr hlk hP hE hD hS hQ hl
  have hx := CF.1
  have hb := CF.2.1
  have hl : lv_has ls 3 [(0, .ref q0), (1, .int a1), (2, .int a2)] := hl
  refine lv_aload_n hx hb dX8_hearers_0 rfl (lv_at hl 0 rfl) ?_
  refine lv_iconst (v := 0) hx hb dX8_hearers_1 (by decide) ?_
  refine r_put (C := RX8) (T := TX8) (N := 31) (ws' := [(q0, .inr (8, [.int 0, .ref y1, .int (nI uT), .int (nI up), .int (nI uP), .ref y2, .int (nI uR), .ref y3, .int (nI vP), .ref y4, .ref y5, .int (nI vR), .ref y6, .ref y7, .ref y8, .ref y9, .int (nI ua), .ref y10, .ref y11, .int (nI us), .ref y12, .ref y13, .long sd, .int z1, .int z2, .int z3, .int z4, .int z5, .int z6, .int z7, .ref y14])), (y2, .inl (cI, 5, .inl uk)), (y7, .inl (cI, 15, .inl pg))]) CF hE hP hD hS 0 rfl rfl inG8 tyX8 tyX8_ok nmX8 0 (by decide) tw_3_115 rfl rfl rfl rfl (Nat.le_of_ble_eq_true rfl) dX8_hearers_2 rfl (fun H locs hP hD hS => ?_)
  refine lv_aload_n hx hb dX8_hearers_5 rfl (lv_at hl 0 rfl) ?_
  refine lv_iload_n hx hb dX8_hearers_6 rfl (lv_at hl 1 rfl) ?_
  refine ro_V (y := yX8_noPerson) (As := [.int a1]) (rest := []) (q0 := 0) CF (c_X8_noPerson l D cI cZ q0 y1 y2 y3 y4 y5 y6 y7 y8 y9 y10 y11 y12 y13 y14 0 uT up uP uR vP vR ua us sd z1 z2 z3 z4 z5 z6 z7 a1) lk_X8_127 hP hE [0] rfl rfl rfl rfl hl.1 rfl (Nat.le_of_ble_eq_true rfl) ⟨Nat.le_of_ble_eq_true rfl, Nat.le_of_ble_eq_true rfl, rfl, rfl⟩ ⟨Nat.zero_le _, Nat.zero_le _⟩ dX8_hearers_7 ?_
  refine lv_if_eq (tgt := 15) hx hb dX8_hearers_10 (by decide) (fun c_1 => ?_) (fun c_1 => ?_)
  · have np_2 := noPerson_tn (a1 := a1) hu5 c_1
    have np_2l := np_2.2
    refine lv_iload_n hx hb dX8_hearers_15 rfl (lv_at hl 2 rfl) ?_
    refine lv_i2l (v := a2.toInt64) hx hb dX8_hearers_16 rfl ?_
    refine lv_lconst (v := 1) hx hb dX8_hearers_17 (by decide) ?_
    refine lv_ldc2 (v := 2) hx hb CF.2.2.2.1 (CF.2.2.2.2 _ (List.mem_cons_of_mem _ tw_4_49)) dX8_hearers_18 ?_
    refine ro_S (y := yX8_in) (As := [.long a2.toInt64, .long 1, .long 2]) (rest := []) CF (c_X8_in l D cI cZ a2.toInt64 1 2) lk_X8_60 hE rfl hl.1 rfl (Nat.le_of_ble_eq_true rfl) ⟨Nat.le_of_ble_eq_true rfl, Nat.le_of_ble_eq_true rfl, rfl, rfl⟩ ⟨Nat.zero_le _, Nat.zero_le _⟩ dX8_hearers_21 ?_
    refine lv_if_eq (tgt := 40) hx hb dX8_hearers_24 (by decide) (fun c_3 => ?_) (fun c_3 => ?_)
    · refine lv_bipush (v := (-2)) hx hb dX8_hearers_40 (by decide) ?_
      have e_0 : (f_X8_hearers_th uP a1 a2) = 0 := by rw [f_X8_hearers_th, if_pos c_1, if_pos c_3]
      exact mu_reti CF hQ hr hlk rfl hP hS dX8_hearers_42 (by rw [f_X8_hearers, if_pos c_1, if_pos c_3]) (by rw [e_0])
    · have ni_4 : (1 : Int32) ≤ a2 ∧ a2 ≤ nI 2 := in_ne (a := 1) (b := nI 2) c_3
      have ni_4n := rng_tn ni_4 (by decide) (by decide)
      have ni_4l := ni_4n.2
      have ni_4g := rng_ge1 ni_4.1
      refine lv_aload_n hx hb dX8_hearers_27 rfl (lv_at hl 0 rfl) ?_
      refine lv_aload_n hx hb dX8_hearers_28 rfl (lv_at hl 0 rfl) ?_
      refine r_get (C := RX8) (T := TX8) (N := 31) (v := .ref y7) CF hE hP 0 rfl rfl inG8 13 (by decide) tw_3_128 rfl rfl dX8_hearers_29 ?_
      refine lv_iload_n hx hb dX8_hearers_32 rfl (lv_at hl 1 rfl) ?_
      refine lv_iload_n hx hb dX8_hearers_33 rfl (lv_at hl 2 rfl) ?_
      refine ro_V (y := yX8_hearersOf) (As := [.ref y7, .int a1, .int a2]) (rest := []) (q0 := 0) CF (c_X8_hearersOf l D cI cZ q0 y1 y2 y3 y4 y5 y6 y7 y8 y9 y10 y11 y12 y13 y14 y7 0 uT up uP uR vP vR ua us sd z1 z2 z3 z4 z5 z6 z7 uk pg a1 a1.toNatClampNeg a2 np_2.1 (by omega) (by omega)) lk_X8_142 hP hE [0, 1, 2] rfl rfl rfl rfl hl.1 rfl (Nat.le_of_ble_eq_true rfl) ⟨Nat.le_of_ble_eq_true rfl, Nat.le_of_ble_eq_true rfl, rfl, rfl⟩ ⟨Nat.zero_le _, Nat.zero_le _⟩ dX8_hearers_34 ?_
      refine lv_goto (tgt := 42) hx hb dX8_hearers_37 (by decide) ?_
      have e_0 : (f_X8_hearers_th uP a1 a2) = 0 := by rw [f_X8_hearers_th, if_pos c_1, if_neg c_3]
      exact mu_reti CF hQ hr hlk rfl hP hS dX8_hearers_42 (by rw [f_X8_hearers, if_pos c_1, if_neg c_3]) (by rw [e_0])
  · refine lv_iconst (v := (-1)) hx hb dX8_hearers_13 (by decide) ?_
    have e_0 : (f_X8_hearers_th uP a1 a2) = 0 := by rw [f_X8_hearers_th, if_neg c_1]
    exact mu_reti CF hQ hr hlk rfl hP hS dX8_hearers_14 (by rw [f_X8_hearers, if_neg c_1]) (by rw [e_0])
def S_X8_safe_35 (uP : Nat) (uR : Nat) (uk : Nat → Int32) (ur : Nat → Int32) (pg : Nat → Int32) (a1 : Int32) (a2 : Int32) (k35 : Nat) (x35_0 : Int32) : (Int32) :=
  (if ((B_X8_knowersOf_6 uP uR uk ur pg a1 a1.toNatClampNeg (nI k35) a2 0 uP)) = 0 then (x35_0 ||| ((1 : Int32) <<< (((nI k35) : Int32) &&& 31))) else (x35_0 ||| 0))
def B_X8_safe_35 (uP : Nat) (uR : Nat) (uk : Nat → Int32) (ur : Nat → Int32) (pg : Nat → Int32) (a1 : Int32) (a2 : Int32) (i0 : Int32) : Nat → (Int32)
  | 0 => i0
  | k + 1 => S_X8_safe_35 uP uR uk ur pg a1 a2 k (B_X8_safe_35 uP uR uk ur pg a1 a2 i0 k)
def f_X8_safe (uP : Nat) (uR : Nat) (uk : Nat → Int32) (ur : Nat → Int32) (pg : Nat → Int32) (a1 : Int32) (a2 : Int32) : Int32 :=
  (if (f_X8_noPerson uP a1) = 0 then (if (f_X8_in a2.toInt64 1 2) = 0 then (-2) else ((B_X8_safe_35 uP uR uk ur pg a1 a2 0 6))) else (-1))
def f_X8_safe_th (uP : Nat) (a1 : Int32) (a2 : Int32) : Int32 :=
  (if (f_X8_noPerson uP a1) = 0 then (if (f_X8_in a2.toInt64 1 2) = 0 then 0 else 0) else 0)
set_option maxRecDepth 100000 in
set_option maxHeartbeats 4000000 in
theorem c_X8_safe (l : Launch) (D : va_G) (cI cZ : ClassId) (q0 y1 y2 y3 y4 y5 y6 y7 y8 y9 y10 y11 y12 y13 y14 : Nat) (th : Int32) (uT : Nat) (up : Nat) (uP : Nat) (uR : Nat) (vP : Nat) (vR : Nat) (ua : Nat) (us : Nat) (sd : Int64) (z1 : Int32) (z2 : Int32) (z3 : Int32) (z4 : Int32) (z5 : Int32) (z6 : Int32) (z7 : Int32) (uk : Nat → Int32) (ur : Nat → Int32) (pg : Nat → Int32) (a1 : Int32) (a2 : Int32) (hu5 : uP ≤ 5) (hur : uR ≤ 4) : MU l D cI cZ yX8_safe cX8_safe 5 (some .int) (mR 3 75) [.ref q0, .int a1, .int a2] [(q0, .inr (8, [.int th, .ref y1, .int (nI uT), .int (nI up), .int (nI uP), .ref y2, .int (nI uR), .ref y3, .int (nI vP), .ref y4, .ref y5, .int (nI vR), .ref y6, .ref y7, .ref y8, .ref y9, .int (nI ua), .ref y10, .ref y11, .int (nI us), .ref y12, .ref y13, .long sd, .int z1, .int z2, .int z3, .int z4, .int z5, .int z6, .int z7, .ref y14])), (y2, .inl (cI, 5, .inl uk)), (y3, .inl (cI, 12, .inl ur)), (y7, .inl (cI, 15, .inl pg))] [(q0, .inr (8, [.int (f_X8_safe_th uP a1 a2), .ref y1, .int (nI uT), .int (nI up), .int (nI uP), .ref y2, .int (nI uR), .ref y3, .int (nI vP), .ref y4, .ref y5, .int (nI vR), .ref y6, .ref y7, .ref y8, .ref y9, .int (nI ua), .ref y10, .ref y11, .int (nI us), .ref y12, .ref y13, .long sd, .int z1, .int z2, .int z3, .int z4, .int z5, .int z6, .int z7, .ref y14])), (y2, .inl (cI, 5, .inl uk)), (y3, .inl (cI, 12, .inl ur)), (y7, .inl (cI, 15, .inl pg))] (some (.int (f_X8_safe uP uR uk ur pg a1 a2))) := by
  refine MU.of (by decide +kernel) (Nat.le_of_ble_eq_true rfl) ?_
  intro p e s m args below meth c ls Q A CF hr hlk hP hE hD hS hQ hl
  have hx := CF.1
  have hb := CF.2.1
  have hl : lv_has ls 5 [(0, .ref q0), (1, .int a1), (2, .int a2)] := hl
  refine lv_aload_n hx hb dX8_safe_0 rfl (lv_at hl 0 rfl) ?_
  refine lv_iconst (v := 0) hx hb dX8_safe_1 (by decide) ?_
  refine r_put (C := RX8) (T := TX8) (N := 31) (ws' := [(q0, .inr (8, [.int 0, .ref y1, .int (nI uT), .int (nI up), .int (nI uP), .ref y2, .int (nI uR), .ref y3, .int (nI vP), .ref y4, .ref y5, .int (nI vR), .ref y6, .ref y7, .ref y8, .ref y9, .int (nI ua), .ref y10, .ref y11, .int (nI us), .ref y12, .ref y13, .long sd, .int z1, .int z2, .int z3, .int z4, .int z5, .int z6, .int z7, .ref y14])), (y2, .inl (cI, 5, .inl uk)), (y3, .inl (cI, 12, .inl ur)), (y7, .inl (cI, 15, .inl pg))]) CF hE hP hD hS 0 rfl rfl inG8 tyX8 tyX8_ok nmX8 0 (by decide) tw_3_115 rfl rfl rfl rfl (Nat.le_of_ble_eq_true rfl) dX8_safe_2 rfl (fun H locs hP hD hS => ?_)
  refine lv_aload_n hx hb dX8_safe_5 rfl (lv_at hl 0 rfl) ?_
  refine lv_iload_n hx hb dX8_safe_6 rfl (lv_at hl 1 rfl) ?_
  refine ro_V (y := yX8_noPerson) (As := [.int a1]) (rest := []) (q0 := 0) CF (c_X8_noPerson l D cI cZ q0 y1 y2 y3 y4 y5 y6 y7 y8 y9 y10 y11 y12 y13 y14 0 uT up uP uR vP vR ua us sd z1 z2 z3 z4 z5 z6 z7 a1) lk_X8_127 hP hE [0] rfl rfl rfl rfl hl.1 rfl (Nat.le_of_ble_eq_true rfl) ⟨Nat.le_of_ble_eq_true rfl, Nat.le_of_ble_eq_true rfl, rfl, rfl⟩ ⟨Nat.zero_le _, Nat.zero_le _⟩ dX8_safe_7 ?_
  refine lv_if_eq (tgt := 15) hx hb dX8_safe_10 (by decide) (fun c_1 => ?_) (fun c_1 => ?_)
  · have np_2 := noPerson_tn (a1 := a1) hu5 c_1
    have np_2l := np_2.2
    refine lv_iload_n hx hb dX8_safe_15 rfl (lv_at hl 2 rfl) ?_
    refine lv_i2l (v := a2.toInt64) hx hb dX8_safe_16 rfl ?_
    refine lv_lconst (v := 1) hx hb dX8_safe_17 (by decide) ?_
    refine lv_ldc2 (v := 2) hx hb CF.2.2.2.1 (CF.2.2.2.2 _ (List.mem_cons_of_mem _ tw_4_49)) dX8_safe_18 ?_
    refine ro_S (y := yX8_in) (As := [.long a2.toInt64, .long 1, .long 2]) (rest := []) CF (c_X8_in l D cI cZ a2.toInt64 1 2) lk_X8_60 hE rfl hl.1 rfl (Nat.le_of_ble_eq_true rfl) ⟨Nat.le_of_ble_eq_true rfl, Nat.le_of_ble_eq_true rfl, rfl, rfl⟩ ⟨Nat.zero_le _, Nat.zero_le _⟩ dX8_safe_21 ?_
    refine lv_if_ne (tgt := 30) hx hb dX8_safe_24 (by decide) (fun c_3 => ?_) (fun c_3 => ?_)
    · have ni_4 : (1 : Int32) ≤ a2 ∧ a2 ≤ nI 2 := in_ne (a := 1) (b := nI 2) c_3
      have ni_4n := rng_tn ni_4 (by decide) (by decide)
      have ni_4l := ni_4n.2
      have ni_4g := rng_ge1 ni_4.1
      refine lv_iconst (v := 0) hx hb dX8_safe_30 (by decide) ?_
      refine lv_istore_n (lv' := [(3, .int 0), (0, .ref q0), (1, .int a1), (2, .int a2)]) hx hb dX8_safe_31 rfl hl (by decide) rfl (fun ls hl => ?_)
      refine lv_iconst (v := 0) hx hb dX8_safe_32 (by decide) ?_
      refine lv_istore (lv' := [(4, .int 0), (3, .int 0), (0, .ref q0), (1, .int a1), (2, .int a2)]) hx hb dX8_safe_33 hl (by decide) rfl (fun ls hl => ?_)
      have LOOP_35 : ∀ (n_35 k35 : Nat) (x35_0 : Int32) (H : Heap) (locs : List Loc) (ls : Array Slot), k35 ≤ 6 → 6 - k35 < n_35 → (B_X8_safe_35 uP uR uk ur pg a1 a2 0 k35) = x35_0 → va_P D vwCl [(q0, .inr (8, [.int 0, .ref y1, .int (nI uT), .int (nI up), .int (nI uP), .ref y2, .int (nI uR), .ref y3, .int (nI vP), .ref y4, .ref y5, .int (nI vR), .ref y6, .ref y7, .ref y8, .ref y9, .int (nI ua), .ref y10, .ref y11, .int (nI us), .ref y12, .ref y13, .long sd, .int z1, .int z2, .int z3, .int z4, .int z5, .int z6, .int z7, .ref y14])), (y2, .inl (cI, 5, .inl uk)), (y3, .inl (cI, 12, .inl ur)), (y7, .inl (cI, 15, .inl pg))] H → va_D A [(q0, .inr (8, [.int 0, .ref y1, .int (nI uT), .int (nI up), .int (nI uP), .ref y2, .int (nI uR), .ref y3, .int (nI vP), .ref y4, .ref y5, .int (nI vR), .ref y6, .ref y7, .ref y8, .ref y9, .int (nI ua), .ref y10, .ref y11, .int (nI us), .ref y12, .ref y13, .long sd, .int z1, .int z2, .int z3, .int z4, .int z5, .int z6, .int z7, .ref y14])), (y2, .inl (cI, 5, .inl uk)), (y3, .inl (cI, 12, .inl ur)), (y7, .inl (cI, 15, .inl pg))] → va_S A s.heap H locs → lv_has ls 5 [(4, .int (nI k35)), (3, .int x35_0), (0, .ref q0), (1, .int a1), (2, .int a2)] → W p l e (mR 3 75) s m args below meth c H locs 0 0 Q (F0 m 35 ls []) := by
        intro n_35
        induction n_35 with
        | zero => intro k35 x35_0 H locs ls hk_35 hn_35 hB_35 hP hD hS hl; exact absurd hn_35 (Nat.not_lt_zero _)
        | succ n_35 ih_35 =>
          intro k35 x35_0 H locs ls hk_35 hn_35 hB_35 hP hD hS hl
          refine lv_iload hx hb dX8_safe_35 (lv_at hl 0 rfl) ?_
          refine lv_bipush (v := 6) hx hb dX8_safe_37 (by decide) ?_
          refine lv_icmp_ge (tgt := 74) hx hb dX8_safe_39 (by decide) (fun c_5 => ?_) (fun c_5 => ?_)
          · have o_5 : 6 ≤ k35 := (cle (nf_c 6) (rfl : nI k35 = nI k35) (by omega) (by omega)).mp c_5
            have hkN : 6 = k35 := by omega
            subst hkN
            subst hB_35
            refine lv_iload_n hx hb dX8_safe_74 rfl (lv_at hl 1 rfl) ?_
            have e_0 : (f_X8_safe_th uP a1 a2) = 0 := by rw [f_X8_safe_th, if_pos c_1, if_neg c_3]
            exact mu_reti CF hQ hr hlk rfl hP hS dX8_safe_75 (by rw [f_X8_safe, if_pos c_1, if_neg c_3]) (by rw [e_0])
          · have o_5 : ¬ 6 ≤ k35 := fun h => c_5 ((cle (nf_c 6) (rfl : nI k35 = nI k35) (by omega) (by omega)).mpr h)
            refine lv_iload_n hx hb dX8_safe_42 rfl (lv_at hl 1 rfl) ?_
            refine lv_aload_n hx hb dX8_safe_43 rfl (lv_at hl 2 rfl) ?_
            refine lv_aload_n hx hb dX8_safe_44 rfl (lv_at hl 2 rfl) ?_
            refine r_get (C := RX8) (T := TX8) (N := 31) (v := .ref y7) CF hE hP 0 rfl rfl inG8 13 (by decide) tw_3_128 rfl rfl dX8_safe_45 ?_
            refine lv_iload_n hx hb dX8_safe_48 rfl (lv_at hl 3 rfl) ?_
            refine lv_iload hx hb dX8_safe_49 (lv_at hl 0 rfl) ?_
            refine lv_iload_n hx hb dX8_safe_51 rfl (lv_at hl 4 rfl) ?_
            refine ro_V (y := yX8_knowersOf) (As := [.ref y7, .int a1, .int (nI k35), .int a2]) (rest := [.int x35_0]) (q0 := 0) CF (c_X8_knowersOf l D cI cZ q0 y1 y2 y3 y4 y5 y6 y7 y8 y9 y10 y11 y12 y13 y14 y7 0 uT up uP uR vP vR ua us sd z1 z2 z3 z4 z5 z6 z7 uk ur pg a1 a1.toNatClampNeg (nI k35) a2 np_2.1 (by omega) (by omega) (by omega)) lk_X8_135 hP hE [0, 1, 2, 3] rfl rfl rfl rfl hl.1 rfl (Nat.le_of_ble_eq_true rfl) ⟨Nat.le_of_ble_eq_true rfl, Nat.le_of_ble_eq_true rfl, rfl, rfl⟩ ⟨Nat.zero_le _, Nat.zero_le _⟩ dX8_safe_52 ?_
            refine lv_if_ne (tgt := 65) hx hb dX8_safe_55 (by decide) (fun c_6 => ?_) (fun c_6 => ?_)
            · refine lv_iconst (v := 0) hx hb dX8_safe_65 (by decide) ?_
              refine lv_ior hx hb dX8_safe_66 ?_
              refine lv_istore_n (lv' := [(3, .int (x35_0 ||| 0)), (4, .int (nI k35)), (0, .ref q0), (1, .int a1), (2, .int a2)]) hx hb dX8_safe_67 rfl hl (by decide) rfl (fun ls hl => ?_)
              refine lv_iinc (v := (nI (k35 + 1))) (lv' := [(4, .int (nI (k35 + 1))), (3, .int (x35_0 ||| 0)), (0, .ref q0), (1, .int a1), (2, .int a2)]) hx hb dX8_safe_68 hl (k := 1) rfl (nf_inc 1 (rfl : nI k35 = nI k35)) (by decide) rfl (fun ls hl => ?_)
              refine lv_goto (tgt := 35) hx hb dX8_safe_71 (by decide) ?_
              have hB2 : B_X8_safe_35 uP uR uk ur pg a1 a2 0 (k35 + 1) = (x35_0 ||| 0) := by
                rw [B_X8_safe_35, hB_35]
                rw [S_X8_safe_35, if_neg c_6]
              exact ih_35 (k35 + 1) (x35_0 ||| 0) _ _ _ (by omega) (by omega) hB2 hP hD hS (lv_sub hl [0, 1, 2, 3, 4] rfl)
            · refine lv_iconst (v := 1) hx hb dX8_safe_58 (by decide) ?_
              refine lv_iload hx hb dX8_safe_59 (lv_at hl 0 rfl) ?_
              refine lv_ishl hx hb dX8_safe_61 ?_
              refine lv_goto (tgt := 66) hx hb dX8_safe_62 (by decide) ?_
              refine lv_ior hx hb dX8_safe_66 ?_
              refine lv_istore_n (lv' := [(3, .int (x35_0 ||| ((1 : Int32) <<< (((nI k35) : Int32) &&& 31)))), (4, .int (nI k35)), (0, .ref q0), (1, .int a1), (2, .int a2)]) hx hb dX8_safe_67 rfl hl (by decide) rfl (fun ls hl => ?_)
              refine lv_iinc (v := (nI (k35 + 1))) (lv' := [(4, .int (nI (k35 + 1))), (3, .int (x35_0 ||| ((1 : Int32) <<< (((nI k35) : Int32) &&& 31)))), (0, .ref q0), (1, .int a1), (2, .int a2)]) hx hb dX8_safe_68 hl (k := 1) rfl (nf_inc 1 (rfl : nI k35 = nI k35)) (by decide) rfl (fun ls hl => ?_)
              refine lv_goto (tgt := 35) hx hb dX8_safe_71 (by decide) ?_
              have hB2 : B_X8_safe_35 uP uR uk ur pg a1 a2 0 (k35 + 1) = (x35_0 ||| ((1 : Int32) <<< (((nI k35) : Int32) &&& 31))) := by
                rw [B_X8_safe_35, hB_35]
                rw [S_X8_safe_35, if_pos c_6]
              exact ih_35 (k35 + 1) (x35_0 ||| ((1 : Int32) <<< (((nI k35) : Int32) &&& 31))) _ _ _ (by omega) (by omega) hB2 hP hD hS (lv_sub hl [0, 1, 2, 3, 4] rfl)
      have e_k : 0 = nI (0) := (nf_c 0).trans (congrArg nI (by omega))
      rw [e_k] at hl
      exact LOOP_35 (6 - 0 + 1) 0 0 _ _ _ (Nat.zero_le _) (by omega) rfl hP hD hS (lv_sub hl [0, 1, 2, 3, 4] rfl)
    · refine lv_bipush (v := (-2)) hx hb dX8_safe_27 (by decide) ?_
      have e_0 : (f_X8_safe_th uP a1 a2) = 0 := by rw [f_X8_safe_th, if_pos c_1, if_pos c_3]
      exact mu_reti CF hQ hr hlk rfl hP hS dX8_safe_29 (by rw [f_X8_safe, if_pos c_1, if_pos c_3]) (by rw [e_0])
  · refine lv_iconst (v := (-1)) hx hb dX8_safe_13 (by decide) ?_
    have e_0 : (f_X8_safe_th uP a1 a2) = 0 := by rw [f_X8_safe_th, if_neg c_1]
    exact mu_reti CF hQ hr hlk rfl hP hS dX8_safe_14 (by rw [f_X8_safe, if_neg c_1]) (by rw [e_0])
