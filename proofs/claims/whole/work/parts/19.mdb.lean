theorem sitter_cases (tt : Nat → Int32) (y : Int32) : ∀ n, (B_X8_sitter_6 tt y (-9) n = -9 ∧ ∀ i, i < n → tt (5 + i) ≠ y) ∨ ∃ i, i < n ∧ tt (5 + i) = y ∧ B_X8_sitter_6 tt y (-9) n = nI i ∧ ∀ j, i < j → j < n → tt (5 + j) ≠ y
  | 0 => Or.inl ⟨rfl, fun i h => absurd h (Nat.not_lt_zero _)⟩
  | n + 1 => by
    by_cases h : tt (5 + n) = y
    · refine Or.inr ⟨n, Nat.lt_succ_self n, h, ?_, fun j h1 h2 => absurd h1 (by omega)⟩
      rw [B_X8_sitter_6, S_X8_sitter_6, if_pos h]
    · rcases sitter_cases tt y n with ⟨h1, h2⟩ | ⟨i, h1, h2, h3, h4⟩
      · refine Or.inl ⟨by rw [B_X8_sitter_6, S_X8_sitter_6, if_neg h, h1], fun i hi => ?_⟩
        by_cases e : i = n
        · rw [e]; exact h
        · exact h2 i (by omega)
      · refine Or.inr ⟨i, by omega, h2, by rw [B_X8_sitter_6, S_X8_sitter_6, if_neg h, h3], fun j hj1 hj2 => ?_⟩
        by_cases e : j = n
        · rw [e]; exact h
        · exact h4 j hj1 (by omega)
theorem sitter_at {uP : Nat} {tt : Nat → Int32} {sg : Nat → Nat} (h5 : uP ≤ 5) (h1 : ∀ i, i < uP → tt (5 + i) = nI (sg i) ∧ sg i < uP) (h2 : ∀ j, j < uP → ∃ i, i < uP ∧ sg i = j) {y : Int32} {q : Nat} (hy : y = nI q) (hq : q < uP) : ∃ i, i < uP ∧ sg i = q ∧ B_X8_sitter_6 tt y (-9) uP = nI i := by
  rcases sitter_cases tt y uP with ⟨-, h⟩ | ⟨i, hi, h3, h4, -⟩
  · obtain ⟨i, hi, e⟩ := h2 q hq
    exact absurd (by rw [(h1 i hi).1, e, hy]) (h i hi)
  · refine ⟨i, hi, ?_, h4⟩
    have := (h1 i hi).2
    rw [(h1 i hi).1, hy] at h3
    exact (nI_eq (by omega) (by omega)).mp h3
theorem sitter_tn {uP : Nat} {tt : Nat → Int32} {sg : Nat → Nat} (h5 : uP ≤ 5) (h1 : ∀ i, i < uP → tt (5 + i) = nI (sg i) ∧ sg i < uP) (h2 : ∀ j, j < uP → ∃ i, i < uP ∧ sg i = j) {y : Int32} {q : Nat} (hy : y = nI q) (hq : q < uP) : B_X8_sitter_6 tt y (-9) uP = nI (B_X8_sitter_6 tt y (-9) uP).toNatClampNeg ∧ (B_X8_sitter_6 tt y (-9) uP).toNatClampNeg < uP := by
  obtain ⟨i, hi, -, e⟩ := sitter_at h5 h1 h2 hy hq
  rw [e, nI_clamp (by omega)]
  exact ⟨rfl, hi⟩
theorem bit01 (x y : Int32) : (x >>> (y &&& 31)) &&& 1 = 0 ∨ (x >>> (y &&& 31)) &&& 1 = 1 := by
  obtain ⟨j, h1, h2⟩ := pk_andE (m := 1) (x >>> (y &&& 31)) 1 (by decide)
  have : j = 0 ∨ j = 1 := by omega
  rcases this with rfl | rfl
  · exact Or.inl h2
  · exact Or.inr h2
def mny (x : Int32) : Nat → Nat
  | 0 => 0
  | k + 1 => mny x k + (if (x >>> (nI k &&& 31)) &&& 1 = 1 then 1 else 0)
theorem many_nf (x : Int32) : ∀ n, B_X8_many_4 x 0 n = nI (mny x n)
  | 0 => rfl
  | n + 1 => by
    rw [B_X8_many_4, S_X8_many_4, many_nf x n, mny]
    rcases bit01 x (nI n) with h | h
    · rw [h, if_neg (by decide), Nat.add_zero]
      exact nI_add (mny x n) 0
    · rw [h, if_pos rfl]
      exact nI_add (mny x n) 1
theorem mny_le (x : Int32) : ∀ n, mny x n ≤ n
  | 0 => Nat.le_refl _
  | n + 1 => by
    have := mny_le x n
    rw [mny]
    split <;> omega
theorem mny_pos (x : Int32) {k : Nat} (h : (x >>> (nI k &&& 31)) &&& 1 = 1) : ∀ n, k < n → 0 < mny x n
  | 0, hk => absurd hk (Nat.not_lt_zero _)
  | n + 1, hk => by
    rw [mny]
    by_cases e : k = n
    · subst e
      rw [if_pos h]; omega
    · have := mny_pos x h n (by omega)
      omega
theorem many_ne {x : Int32} {k : Nat} (hk : k < 6) (h : ¬ f_X8_has x (nI k) = 0) : ¬ B_X8_many_4 x 0 6 = 0 := by
  have h1 : (x >>> (nI k &&& 31)) &&& 1 = 1 := by
    refine Classical.byContradiction fun z => h ?_
    rw [f_X8_has, if_neg z]
  have h2 := mny_pos x h1 6 hk
  have h3 := mny_le x 6
  rw [many_nf]
  exact nI_ne0 h2 (by omega)
theorem pow_nf (a : Nat) : ∀ n, B_X8_power_4 (nI a) 1 n = nI (a ^ n)
  | 0 => rfl
  | n + 1 => by rw [B_X8_power_4, S_X8_power_4, pow_nf a n, pk_mul, Nat.pow_succ]
theorem pow_le (a : Nat) (ha : a ≤ 5) (n : Nat) (hn : n ≤ 5) : a ^ n ≤ 3125 := (by decide +kernel : ∀ a, a < 6 → ∀ n, n < 6 → a ^ n ≤ 3125) a (by omega) n (by omega)
theorem lk_X8_131 : mLkV RX8 131 yX8_sitter cX8_sitter 5 (some .int) 2 := ⟨⟨tw_4_70, tw_1_10, tw_4_73, ⟨by decide +kernel, by decide +kernel, by decide +kernel⟩⟩, tw_4_72, tp_2_12⟩
def h_X8_corrector_35 (uP : Nat) (tt : Nat → Int32) (n2 : Nat) (k12 : Nat) : Int32 :=
  ((B_X8_sitter_6 tt (((tt (5 + n2)) + (nI ((uP - 1) - k12))) - ((tt (5 + n2)) + (nI ((uP - 1) - k12))) / (nI uP) * (nI uP)) (-9) uP))
def S_X8_corrector_12 (uP : Nat) (uk : Nat → Int32) (tt : Nat → Int32) (n2 : Nat) (a3 : Int32) (k12 : Nat) (x12_0 : Int32) : (Int32) :=
  (if (f_X8_has a3 (h_X8_corrector_35 uP tt n2 k12)) = 0 then x12_0 else (if (uk (h_X8_corrector_35 uP tt n2 k12).toNatClampNeg) = 2 then x12_0 else (h_X8_corrector_35 uP tt n2 k12)))
def B_X8_corrector_12 (uP : Nat) (uk : Nat → Int32) (tt : Nat → Int32) (n2 : Nat) (a3 : Int32) (i0 : Int32) : Nat → (Int32)
  | 0 => i0
  | k + 1 => S_X8_corrector_12 uP uk tt n2 a3 k (B_X8_corrector_12 uP uk tt n2 a3 i0 k)
set_option maxRecDepth 100000 in
set_option maxHeartbeats 4000000 in
theorem c_X8_corrector (l : Launch) (D : va_G) (cI cZ : ClassId) (q0 y1 y2 y3 y4 y5 y6 y7 y8 y9 y10 y11 y12 y13 y14 qt : Nat) (sg : Nat → Nat) (th : Int32) (uT : Nat) (up : Nat) (uP : Nat) (uR : Nat) (vP : Nat) (vR : Nat) (ua : Nat) (us : Nat) (sd : Int64) (z1 : Int32) (z2 : Int32) (z3 : Int32) (z4 : Int32) (z5 : Int32) (z6 : Int32) (z7 : Int32) (uk : Nat → Int32) (tt : Nat → Int32) (a2 : Int32) (n2 : Nat) (a3 : Int32) (h_a2 : a2 = nI n2) (hu5 : uP ≤ 5) (hn2uP : n2 < uP) (hsg1 : ∀ i, i < uP → tt (5 + i) = nI (sg i) ∧ sg i < uP) (hsg2 : ∀ j, j < uP → ∃ i, i < uP ∧ sg i = j) : RO l D cI cZ yX8_corrector cX8_corrector 7 (some .int) (mR 1 24) [.ref q0, .ref qt, .int a2, .int a3] [(q0, .inr (8, [.int th, .ref y1, .int (nI uT), .int (nI up), .int (nI uP), .ref y2, .int (nI uR), .ref y3, .int (nI vP), .ref y4, .ref y5, .int (nI vR), .ref y6, .ref y7, .ref y8, .ref y9, .int (nI ua), .ref y10, .ref y11, .int (nI us), .ref y12, .ref y13, .long sd, .int z1, .int z2, .int z3, .int z4, .int z5, .int z6, .int z7, .ref y14])), (y2, .inl (cI, 5, .inl uk)), (qt, .inl (cI, 15, .inl tt))] (some (.int ((B_X8_corrector_12 uP uk tt n2 a3 (-9) (uP - 1))))) := by
  refine RO.of (by decide +kernel) (Nat.le_of_ble_eq_true rfl) ?_
  intro p e s m args below meth c ls Q CF hr hlk hP hE hQ hl
  have hx := CF.1
  have hb := CF.2.1
  have hl : lv_has ls 7 [(0, .ref q0), (1, .ref qt), (2, .int a2), (3, .int a3)] := hl
  refine lv_bipush (v := (-9)) hx hb dX8_corrector_0 (by decide) ?_
  refine lv_istore (lv' := [(4, .int (-9)), (0, .ref q0), (1, .ref qt), (2, .int a2), (3, .int a3)]) hx hb dX8_corrector_2 hl (by decide) rfl (fun ls hl => ?_)
  refine lv_aload_n hx hb dX8_corrector_4 rfl (lv_at hl 1 rfl) ?_
  refine r_get (C := RX8) (T := TX8) (N := 31) (v := .int (nI uP)) CF hE hP 0 rfl rfl inG8 4 (by decide) tw_3_119 rfl rfl dX8_corrector_5 ?_
  refine lv_iconst (v := 1) hx hb dX8_corrector_8 (by decide) ?_
  refine lv_isub hx hb dX8_corrector_9 ?_
  refine lv_istore (lv' := [(5, .int ((nI uP) - 1)), (4, .int (-9)), (0, .ref q0), (1, .ref qt), (2, .int a2), (3, .int a3)]) hx hb dX8_corrector_10 hl (by decide) rfl (fun ls hl => ?_)
  have LOOP_12 : ∀ (n_12 k12 : Nat) (x12_0 : Int32) (ls : Array Slot), k12 ≤ uP - 1 → uP - 1 - k12 < n_12 → (B_X8_corrector_12 uP uk tt n2 a3 (-9) k12) = x12_0 → lv_has ls 7 [(5, .int (nI ((uP - 1) - k12))), (4, .int x12_0), (0, .ref q0), (1, .ref qt), (2, .int a2), (3, .int a3)] → W p l e (mR 1 24) s m args below meth c s.heap [] 0 0 Q (F0 m 12 ls []) := by
    intro n_12
    induction n_12 with
    | zero => intro k12 x12_0 ls hk_12 hn_12 hB_12 hl; exact absurd hn_12 (Nat.not_lt_zero _)
    | succ n_12 ih_12 =>
      intro k12 x12_0 ls hk_12 hn_12 hB_12 hl
      refine lv_iload hx hb dX8_corrector_12 (lv_at hl 0 rfl) ?_
      refine lv_if_le (tgt := 72) hx hb dX8_corrector_14 (by decide) (fun c_1 => ?_) (fun c_1 => ?_)
      · have o_1 : ((uP - 1) - k12) ≤ 0 := (cle (rfl : nI ((uP - 1) - k12) = nI ((uP - 1) - k12)) (nf_c 0) (by omega) (by omega)).mp c_1
        have hkN : (uP - 1) = k12 := by omega
        subst hkN
        subst hB_12
        refine lv_iload hx hb dX8_corrector_72 (lv_at hl 1 rfl) ?_
        exact ro_ret CF hQ hr hlk rfl dX8_corrector_74 rfl
      · have o_1 : ¬ ((uP - 1) - k12) ≤ 0 := fun h => c_1 ((cle (rfl : nI ((uP - 1) - k12) = nI ((uP - 1) - k12)) (nf_c 0) (by omega) (by omega)).mpr h)
        refine lv_aload_n hx hb dX8_corrector_17 rfl (lv_at hl 2 rfl) ?_
        refine lv_aload_n hx hb dX8_corrector_18 rfl (lv_at hl 3 rfl) ?_
        refine lv_aload_n hx hb dX8_corrector_19 rfl (lv_at hl 3 rfl) ?_
        refine lv_iconst (v := 5) hx hb dX8_corrector_20 (by decide) ?_
        refine lv_iload_n hx hb dX8_corrector_21 rfl (lv_at hl 4 rfl) ?_
        refine lv_iadd hx hb dX8_corrector_22 ?_
        refine r_iald (k := 15) (f := tt) CF hE hP 2 rfl (5 + n2) (nf_add (nf_c 5) h_a2) (by omega) (by decide) dX8_corrector_23 ?_
        refine lv_iload hx hb dX8_corrector_24 (lv_at hl 0 rfl) ?_
        refine lv_iadd hx hb dX8_corrector_26 ?_
        refine lv_aload_n hx hb dX8_corrector_27 rfl (lv_at hl 2 rfl) ?_
        refine r_get (C := RX8) (T := TX8) (N := 31) (v := .int (nI uP)) CF hE hP 0 rfl rfl inG8 4 (by decide) tw_3_119 rfl rfl dX8_corrector_28 ?_
        refine lv_irem hx hb dX8_corrector_31 (fun h => absurd ((ceq (rfl : nI uP = nI uP) (nf_c 0) (by omega) (by omega)).mp h) (by omega)) ?_
        refine ro_V (y := yX8_sitter) (As := [.ref qt, .int (((tt (5 + n2)) + (nI ((uP - 1) - k12))) - ((tt (5 + n2)) + (nI ((uP - 1) - k12))) / (nI uP) * (nI uP))]) (rest := []) (q0 := 0) CF (c_X8_sitter l D cI cZ q0 y1 y2 y3 y4 y5 y6 y7 y8 y9 y10 y11 y12 y13 y14 qt th uT up uP uR vP vR ua us sd z1 z2 z3 z4 z5 z6 z7 tt (((tt (5 + n2)) + (nI ((uP - 1) - k12))) - ((tt (5 + n2)) + (nI ((uP - 1) - k12))) / (nI uP) * (nI uP)) (by omega)) lk_X8_131 hP hE [0, 2] rfl rfl rfl rfl hl.1 rfl (Nat.le_of_ble_eq_true rfl) ⟨Nat.le_of_ble_eq_true rfl, Nat.le_of_ble_eq_true rfl, rfl, rfl⟩ ⟨Nat.zero_le _, Nat.zero_le _⟩ dX8_corrector_32 ?_
        refine lv_as (z := (h_X8_corrector_35 uP tt n2 k12)) rfl ?_
        refine lv_istore (lv' := [(6, .int (h_X8_corrector_35 uP tt n2 k12)), (5, .int (nI ((uP - 1) - k12))), (4, .int x12_0), (0, .ref q0), (1, .ref qt), (2, .int a2), (3, .int a3)]) hx hb dX8_corrector_35 hl (by decide) rfl (fun ls hl => ?_)
        have hsgp := (hsg1 n2 hn2uP).2
        have hso : (h_X8_corrector_35 uP tt n2 k12) = nI (h_X8_corrector_35 uP tt n2 k12).toNatClampNeg ∧ (h_X8_corrector_35 uP tt n2 k12).toNatClampNeg < uP := sitter_tn hu5 hsg1 hsg2 (nf_rem (nf_add (hsg1 n2 hn2uP).1 (rfl : nI ((uP - 1) - k12) = nI ((uP - 1) - k12))) (rfl : nI uP = nI uP) (by omega) (by omega) (by omega)) (Nat.mod_lt _ (by omega))
        have hso1 := hso.1
        have hso2 := hso.2
        refine lv_iload_n hx hb dX8_corrector_37 rfl (lv_at hl 6 rfl) ?_
        refine lv_iload hx hb dX8_corrector_38 (lv_at hl 0 rfl) ?_
        refine ro_S (y := yX8_has) (As := [.int a3, .int (h_X8_corrector_35 uP tt n2 k12)]) (rest := []) CF (c_X8_has l D cI cZ a3 (h_X8_corrector_35 uP tt n2 k12)) lk_X8_104 hE rfl hl.1 rfl (Nat.le_of_ble_eq_true rfl) ⟨Nat.le_of_ble_eq_true rfl, Nat.le_of_ble_eq_true rfl, rfl, rfl⟩ ⟨Nat.zero_le _, Nat.zero_le _⟩ dX8_corrector_40 ?_
        refine lv_if_eq (tgt := 62) hx hb dX8_corrector_43 (by decide) (fun c_2 => ?_) (fun c_2 => ?_)
        · refine lv_iload hx hb dX8_corrector_62 (lv_at hl 2 rfl) ?_
          refine lv_istore (lv' := [(4, .int x12_0), (6, .int (h_X8_corrector_35 uP tt n2 k12)), (5, .int (nI ((uP - 1) - k12))), (0, .ref q0), (1, .ref qt), (2, .int a2), (3, .int a3)]) hx hb dX8_corrector_64 hl (by decide) rfl (fun ls hl => ?_)
          refine lv_iinc (v := (nI (((uP - 1) - k12) - 1))) (lv' := [(5, .int (nI (((uP - 1) - k12) - 1))), (4, .int x12_0), (6, .int (h_X8_corrector_35 uP tt n2 k12)), (0, .ref q0), (1, .ref qt), (2, .int a2), (3, .int a3)]) hx hb dX8_corrector_66 hl (k := 2) rfl (nf_dec (rfl : nI ((uP - 1) - k12) = nI ((uP - 1) - k12)) (by omega)) (by decide) rfl (fun ls hl => ?_)
          refine lv_goto (tgt := 12) hx hb dX8_corrector_69 (by decide) ?_
          have hB2 : B_X8_corrector_12 uP uk tt n2 a3 (-9) (k12 + 1) = x12_0 := by
            rw [B_X8_corrector_12, hB_12]
            rw [S_X8_corrector_12, if_pos c_2]
          have e_k : (nI (((uP - 1) - k12) - 1)) = nI ((uP - 1) - (k12 + 1)) := (rfl : nI (((uP - 1) - k12) - 1) = nI (((uP - 1) - k12) - 1)).trans (congrArg nI (by omega))
          rw [e_k] at hl
          exact ih_12 (k12 + 1) x12_0 _ (by omega) (by omega) hB2 (lv_sub hl [0, 1, 3, 4, 5, 6] rfl)
        · refine lv_aload_n hx hb dX8_corrector_46 rfl (lv_at hl 3 rfl) ?_
          refine r_get (C := RX8) (T := TX8) (N := 31) (v := .ref y2) CF hE hP 0 rfl rfl inG8 5 (by decide) tw_3_120 rfl rfl dX8_corrector_47 ?_
          refine lv_iload hx hb dX8_corrector_50 (lv_at hl 0 rfl) ?_
          refine r_iald (k := 5) (f := uk) CF hE hP 1 rfl (h_X8_corrector_35 uP tt n2 k12).toNatClampNeg hso1 (by omega) (by decide) dX8_corrector_52 ?_
          refine lv_iconst (v := 2) hx hb dX8_corrector_53 (by decide) ?_
          refine lv_icmp_eq (tgt := 62) hx hb dX8_corrector_54 (by decide) (fun c_3 => ?_) (fun c_3 => ?_)
          · refine lv_iload hx hb dX8_corrector_62 (lv_at hl 2 rfl) ?_
            refine lv_istore (lv' := [(4, .int x12_0), (6, .int (h_X8_corrector_35 uP tt n2 k12)), (5, .int (nI ((uP - 1) - k12))), (0, .ref q0), (1, .ref qt), (2, .int a2), (3, .int a3)]) hx hb dX8_corrector_64 hl (by decide) rfl (fun ls hl => ?_)
            refine lv_iinc (v := (nI (((uP - 1) - k12) - 1))) (lv' := [(5, .int (nI (((uP - 1) - k12) - 1))), (4, .int x12_0), (6, .int (h_X8_corrector_35 uP tt n2 k12)), (0, .ref q0), (1, .ref qt), (2, .int a2), (3, .int a3)]) hx hb dX8_corrector_66 hl (k := 2) rfl (nf_dec (rfl : nI ((uP - 1) - k12) = nI ((uP - 1) - k12)) (by omega)) (by decide) rfl (fun ls hl => ?_)
            refine lv_goto (tgt := 12) hx hb dX8_corrector_69 (by decide) ?_
            have hB2 : B_X8_corrector_12 uP uk tt n2 a3 (-9) (k12 + 1) = x12_0 := by
              rw [B_X8_corrector_12, hB_12]
              rw [S_X8_corrector_12, if_neg c_2, if_pos c_3]
            have e_k : (nI (((uP - 1) - k12) - 1)) = nI ((uP - 1) - (k12 + 1)) := (rfl : nI (((uP - 1) - k12) - 1) = nI (((uP - 1) - k12) - 1)).trans (congrArg nI (by omega))
            rw [e_k] at hl
            exact ih_12 (k12 + 1) x12_0 _ (by omega) (by omega) hB2 (lv_sub hl [0, 1, 3, 4, 5, 6] rfl)
          · refine lv_iload hx hb dX8_corrector_57 (lv_at hl 0 rfl) ?_
            refine lv_goto (tgt := 64) hx hb dX8_corrector_59 (by decide) ?_
            refine lv_istore (lv' := [(4, .int (h_X8_corrector_35 uP tt n2 k12)), (6, .int (h_X8_corrector_35 uP tt n2 k12)), (5, .int (nI ((uP - 1) - k12))), (0, .ref q0), (1, .ref qt), (2, .int a2), (3, .int a3)]) hx hb dX8_corrector_64 hl (by decide) rfl (fun ls hl => ?_)
            refine lv_iinc (v := (nI (((uP - 1) - k12) - 1))) (lv' := [(5, .int (nI (((uP - 1) - k12) - 1))), (4, .int (h_X8_corrector_35 uP tt n2 k12)), (6, .int (h_X8_corrector_35 uP tt n2 k12)), (0, .ref q0), (1, .ref qt), (2, .int a2), (3, .int a3)]) hx hb dX8_corrector_66 hl (k := 2) rfl (nf_dec (rfl : nI ((uP - 1) - k12) = nI ((uP - 1) - k12)) (by omega)) (by decide) rfl (fun ls hl => ?_)
            refine lv_goto (tgt := 12) hx hb dX8_corrector_69 (by decide) ?_
            have hB2 : B_X8_corrector_12 uP uk tt n2 a3 (-9) (k12 + 1) = (h_X8_corrector_35 uP tt n2 k12) := by
              rw [B_X8_corrector_12, hB_12]
              rw [S_X8_corrector_12, if_neg c_2, if_neg c_3]
            have e_k : (nI (((uP - 1) - k12) - 1)) = nI ((uP - 1) - (k12 + 1)) := (rfl : nI (((uP - 1) - k12) - 1) = nI (((uP - 1) - k12) - 1)).trans (congrArg nI (by omega))
            rw [e_k] at hl
            exact ih_12 (k12 + 1) (h_X8_corrector_35 uP tt n2 k12) _ (by omega) (by omega) hB2 (lv_sub hl [0, 1, 3, 4, 5, 6] rfl)
  have e_k : ((nI uP) - 1) = nI ((uP - 1) - 0) := (nf_sub (rfl : nI uP = nI uP) (nf_c 1) (by omega)).trans (congrArg nI (by omega))
  rw [e_k] at hl
  exact LOOP_12 ((uP - 1) - 0 + 1) 0 (-9) _ (Nat.zero_le _) (by omega) rfl (lv_sub hl [0, 1, 2, 3, 4, 5] rfl)
theorem lk_X8_135 : mLkV RX8 135 yX8_knowersOf cX8_knowersOf 7 (some .int) 4 := ⟨⟨tw_4_58, tw_1_10, tw_4_61, ⟨by decide +kernel, by decide +kernel, by decide +kernel⟩⟩, tw_4_60, tp_2_9⟩
theorem lk_X8_139 : mLkV RX8 139 yX8_corrector cX8_corrector 7 (some .int) 3 := ⟨⟨tw_4_66, tw_1_10, tw_4_69, ⟨by decide +kernel, by decide +kernel, by decide +kernel⟩⟩, tw_4_68, tp_2_11⟩
theorem lk_X8_142 : mLkV RX8 142 yX8_hearersOf cX8_hearersOf 6 (some .int) 3 := ⟨⟨tw_4_74, tw_1_10, tw_4_77, ⟨by decide +kernel, by decide +kernel, by decide +kernel⟩⟩, tw_4_76, tp_2_13⟩
theorem lk_X8_145 : mLkS RX8 145 yX8_many cX8_many 3 (some .int) 1 := ⟨⟨tw_4_78, tw_1_10, tw_4_80, ⟨by decide +kernel, by decide +kernel, by decide +kernel⟩⟩, tw_4_79⟩
def h_X8_goSay_9 (uP : Nat) (uR : Nat) (uk : Nat → Int32) (ur : Nat → Int32) (tt : Nat → Int32) (a2 : Int32) (n2 : Nat) (a3 : Int32) (a4 : Int32) : Int32 :=
  ((B_X8_knowersOf_6 uP uR uk ur tt a2 n2 a3 a4 0 uP))
def h_X8_goSay_19 (uP : Nat) (uR : Nat) (uk : Nat → Int32) (ur : Nat → Int32) (tt : Nat → Int32) (a2 : Int32) (n2 : Nat) (a3 : Int32) (a4 : Int32) : Int32 :=
  ((B_X8_corrector_12 uP uk tt n2 (h_X8_goSay_9 uP uR uk ur tt a2 n2 a3 a4) (-9) (uP - 1)))
def h_X8_goSay_29 (uP : Nat) (uk : Nat → Int32) (tt : Nat → Int32) (a2 : Int32) (n2 : Nat) (a4 : Int32) : Int32 :=
  ((B_X8_hearersOf_6 uP uk tt a2 n2 a4 0 uP))
def S_X8_goSay_34 (uP : Nat) (uR : Nat) (uk : Nat → Int32) (ur : Nat → Int32) (tt : Nat → Int32) (a2 : Int32) (n2 : Nat) (a3 : Int32) (a4 : Int32) (k34 : Nat) (x34_0 : Nat → Int32) : (Nat → Int32) :=
  (if (h_X8_goSay_19 uP uR uk ur tt a2 n2 a3 a4) = (-9) then (if (h_X8_goSay_19 uP uR uk ur tt a2 n2 a3 a4) = (-9) then (if (f_X8_has (h_X8_goSay_9 uP uR uk ur tt a2 n2 a3 a4) (nI k34)) = 0 then (upd (upd x34_0 (0 + k34) ((x34_0 (0 + k34)) ||| 0)) (10 + k34) (((upd x34_0 (0 + k34) ((x34_0 (0 + k34)) ||| 0)) (10 + k34)) + 0)) else (upd (upd x34_0 (0 + k34) ((x34_0 (0 + k34)) ||| 0)) (10 + k34) (((upd x34_0 (0 + k34) ((x34_0 (0 + k34)) ||| 0)) (10 + k34)) + (12 / ((B_X8_many_4 (h_X8_goSay_9 uP uR uk ur tt a2 n2 a3 a4) 0 6)))))) else (upd (upd x34_0 (0 + k34) ((x34_0 (0 + k34)) ||| 0)) (10 + k34) (((upd x34_0 (0 + k34) ((x34_0 (0 + k34)) ||| 0)) (10 + k34)) + 0))) else (if (f_X8_has (h_X8_goSay_29 uP uk tt a2 n2 a4) (nI k34)) = 0 then (if (h_X8_goSay_19 uP uR uk ur tt a2 n2 a3 a4) = (-9) then (if (f_X8_has (h_X8_goSay_9 uP uR uk ur tt a2 n2 a3 a4) (nI k34)) = 0 then (upd (upd x34_0 (0 + k34) ((x34_0 (0 + k34)) ||| 0)) (10 + k34) (((upd x34_0 (0 + k34) ((x34_0 (0 + k34)) ||| 0)) (10 + k34)) + 0)) else (upd (upd x34_0 (0 + k34) ((x34_0 (0 + k34)) ||| 0)) (10 + k34) (((upd x34_0 (0 + k34) ((x34_0 (0 + k34)) ||| 0)) (10 + k34)) + (12 / ((B_X8_many_4 (h_X8_goSay_9 uP uR uk ur tt a2 n2 a3 a4) 0 6)))))) else (upd (upd x34_0 (0 + k34) ((x34_0 (0 + k34)) ||| 0)) (10 + k34) (((upd x34_0 (0 + k34) ((x34_0 (0 + k34)) ||| 0)) (10 + k34)) + 0))) else (if (h_X8_goSay_19 uP uR uk ur tt a2 n2 a3 a4) = (-9) then (if (f_X8_has (h_X8_goSay_9 uP uR uk ur tt a2 n2 a3 a4) (nI k34)) = 0 then (upd (upd x34_0 (0 + k34) ((x34_0 (0 + k34)) ||| ((1 : Int32) <<< ((a3 : Int32) &&& 31)))) (10 + k34) (((upd x34_0 (0 + k34) ((x34_0 (0 + k34)) ||| ((1 : Int32) <<< ((a3 : Int32) &&& 31)))) (10 + k34)) + 0)) else (upd (upd x34_0 (0 + k34) ((x34_0 (0 + k34)) ||| ((1 : Int32) <<< ((a3 : Int32) &&& 31)))) (10 + k34) (((upd x34_0 (0 + k34) ((x34_0 (0 + k34)) ||| ((1 : Int32) <<< ((a3 : Int32) &&& 31)))) (10 + k34)) + (12 / ((B_X8_many_4 (h_X8_goSay_9 uP uR uk ur tt a2 n2 a3 a4) 0 6)))))) else (upd (upd x34_0 (0 + k34) ((x34_0 (0 + k34)) ||| ((1 : Int32) <<< ((a3 : Int32) &&& 31)))) (10 + k34) (((upd x34_0 (0 + k34) ((x34_0 (0 + k34)) ||| ((1 : Int32) <<< ((a3 : Int32) &&& 31)))) (10 + k34)) + 0)))))
def B_X8_goSay_34 (uP : Nat) (uR : Nat) (uk : Nat → Int32) (ur : Nat → Int32) (tt : Nat → Int32) (a2 : Int32) (n2 : Nat) (a3 : Int32) (a4 : Int32) (i0 : Nat → Int32) : Nat → (Nat → Int32)
  | 0 => i0
  | k + 1 => S_X8_goSay_34 uP uR uk ur tt a2 n2 a3 a4 k (B_X8_goSay_34 uP uR uk ur tt a2 n2 a3 a4 i0 k)
def f_X8_goSay (uP : Nat) (uR : Nat) (uk : Nat → Int32) (ur : Nat → Int32) (tt : Nat → Int32) (a2 : Int32) (n2 : Nat) (a3 : Int32) (a4 : Int32) : Int32 :=
  (if (h_X8_goSay_19 uP uR uk ur tt a2 n2 a3 a4) = (-9) then (h_X8_goSay_19 uP uR uk ur tt a2 n2 a3 a4) else (if (uk n2) = 3 then (h_X8_goSay_19 uP uR uk ur tt a2 n2 a3 a4) else (h_X8_goSay_19 uP uR uk ur tt a2 n2 a3 a4)))
def f_X8_goSay_tt (uP : Nat) (uR : Nat) (uk : Nat → Int32) (ur : Nat → Int32) (tt : Nat → Int32) (a2 : Int32) (n2 : Nat) (a3 : Int32) (a4 : Int32) : Nat → Int32 :=
  (if (h_X8_goSay_19 uP uR uk ur tt a2 n2 a3 a4) = (-9) then (upd ((B_X8_goSay_34 uP uR uk ur tt a2 n2 a3 a4 tt uP)) (10 + n2) ((((B_X8_goSay_34 uP uR uk ur tt a2 n2 a3 a4 tt uP)) (10 + n2)) + 0)) else (if (uk n2) = 3 then (upd ((B_X8_goSay_34 uP uR uk ur tt a2 n2 a3 a4 tt uP)) (10 + n2) ((((B_X8_goSay_34 uP uR uk ur tt a2 n2 a3 a4 tt uP)) (10 + n2)) + 0)) else (upd ((B_X8_goSay_34 uP uR uk ur tt a2 n2 a3 a4 tt uP)) (10 + n2) ((((B_X8_goSay_34 uP uR uk ur tt a2 n2 a3 a4 tt uP)) (10 + n2)) + 1))))
set_option maxRecDepth 100000 in
set_option maxHeartbeats 4000000 in
theorem c_X8_goSay (l : Launch) (D : va_G) (cI cZ : ClassId) (q0 y1 y2 y3 y4 y5 y6 y7 y8 y9 y10 y11 y12 y13 y14 qt : Nat) (sg : Nat → Nat) (th : Int32) (uT : Nat) (up : Nat) (uP : Nat) (uR : Nat) (vP : Nat) (vR : Nat) (ua : Nat) (us : Nat) (sd : Int64) (z1 : Int32) (z2 : Int32) (z3 : Int32) (z4 : Int32) (z5 : Int32) (z6 : Int32) (z7 : Int32) (uk : Nat → Int32) (ur : Nat → Int32) (tt : Nat → Int32) (a2 : Int32) (n2 : Nat) (a3 : Int32) (a4 : Int32) (h_a2 : a2 = nI n2) (hu5 : uP ≤ 5) (hur : uR ≤ 4) (hn2uP : n2 < uP) (hsg1 : ∀ i, i < uP → tt (5 + i) = nI (sg i) ∧ sg i < uP) (hsg2 : ∀ j, j < uP → ∃ i, i < uP ∧ sg i = j) : MU l D cI cZ yX8_goSay cX8_goSay 9 (some .int) (mR 3 75) [.ref q0, .ref qt, .int a2, .int a3, .int a4] [(q0, .inr (8, [.int th, .ref y1, .int (nI uT), .int (nI up), .int (nI uP), .ref y2, .int (nI uR), .ref y3, .int (nI vP), .ref y4, .ref y5, .int (nI vR), .ref y6, .ref y7, .ref y8, .ref y9, .int (nI ua), .ref y10, .ref y11, .int (nI us), .ref y12, .ref y13, .long sd, .int z1, .int z2, .int z3, .int z4, .int z5, .int z6, .int z7, .ref y14])), (y2, .inl (cI, 5, .inl uk)), (y3, .inl (cI, 12, .inl ur)), (qt, .inl (cI, 15, .inl tt))] [(q0, .inr (8, [.int th, .ref y1, .int (nI uT), .int (nI up), .int (nI uP), .ref y2, .int (nI uR), .ref y3, .int (nI vP), .ref y4, .ref y5, .int (nI vR), .ref y6, .ref y7, .ref y8, .ref y9, .int (nI ua), .ref y10, .ref y11, .int (nI us), .ref y12, .ref y13, .long sd, .int z1, .int z2, .int z3, .int z4, .int z5, .int z6, .int z7, .ref y14])), (y2, .inl (cI, 5, .inl uk)), (y3, .inl (cI, 12, .inl ur)), (qt, .inl (cI, 15, .inl (f_X8_goSay_tt uP uR uk ur tt a2 n2 a3 a4)))] (some (.int (f_X8_goSay uP uR uk ur tt a2 n2 a3 a4))) := by
  refine MU.of (by decide +kernel) (Nat.le_of_ble_eq_true rfl) ?_
  intro p e s m args below meth c ls Q A CF hr hlk hP hE hD hS hQ hl
  have hx := CF.1
  have hb := CF.2.1
  have hl : lv_has ls 9 [(0, .ref q0), (1, .ref qt), (2, .int a2), (3, .int a3), (4, .int a4)] := hl
  refine lv_aload_n hx hb dX8_goSay_0 rfl (lv_at hl 0 rfl) ?_
  refine lv_aload_n hx hb dX8_goSay_1 rfl (lv_at hl 1 rfl) ?_
  refine lv_iload_n hx hb dX8_goSay_2 rfl (lv_at hl 2 rfl) ?_
  refine lv_iload_n hx hb dX8_goSay_3 rfl (lv_at hl 3 rfl) ?_
  refine lv_iload hx hb dX8_goSay_4 (lv_at hl 4 rfl) ?_
  refine ro_V (y := yX8_knowersOf) (As := [.ref qt, .int a2, .int a3, .int a4]) (rest := []) (q0 := 0) CF (c_X8_knowersOf l D cI cZ q0 y1 y2 y3 y4 y5 y6 y7 y8 y9 y10 y11 y12 y13 y14 qt th uT up uP uR vP vR ua us sd z1 z2 z3 z4 z5 z6 z7 uk ur tt a2 n2 a3 a4 h_a2 (by omega) (by omega) (by omega)) lk_X8_135 hP hE [0, 1, 2, 3] rfl rfl rfl rfl hl.1 rfl (Nat.le_of_ble_eq_true rfl) ⟨Nat.le_of_ble_eq_true rfl, Nat.le_of_ble_eq_true rfl, rfl, rfl⟩ ⟨Nat.zero_le _, Nat.zero_le _⟩ dX8_goSay_6 ?_
  refine lv_as (z := (h_X8_goSay_9 uP uR uk ur tt a2 n2 a3 a4)) rfl ?_
  refine lv_istore (lv' := [(5, .int (h_X8_goSay_9 uP uR uk ur tt a2 n2 a3 a4)), (0, .ref q0), (1, .ref qt), (2, .int a2), (3, .int a3), (4, .int a4)]) hx hb dX8_goSay_9 hl (by decide) rfl (fun ls hl => ?_)
  refine lv_aload_n hx hb dX8_goSay_11 rfl (lv_at hl 1 rfl) ?_
  refine lv_aload_n hx hb dX8_goSay_12 rfl (lv_at hl 2 rfl) ?_
  refine lv_iload_n hx hb dX8_goSay_13 rfl (lv_at hl 3 rfl) ?_
  refine lv_iload hx hb dX8_goSay_14 (lv_at hl 0 rfl) ?_
  refine ro_V (y := yX8_corrector) (As := [.ref qt, .int a2, .int (h_X8_goSay_9 uP uR uk ur tt a2 n2 a3 a4)]) (rest := []) (q0 := 0) CF (c_X8_corrector l D cI cZ q0 y1 y2 y3 y4 y5 y6 y7 y8 y9 y10 y11 y12 y13 y14 qt sg th uT up uP uR vP vR ua us sd z1 z2 z3 z4 z5 z6 z7 uk tt a2 n2 (h_X8_goSay_9 uP uR uk ur tt a2 n2 a3 a4) h_a2 (by omega) (by omega) hsg1 hsg2) lk_X8_139 hP hE [0, 1, 3] rfl rfl rfl rfl hl.1 rfl (Nat.le_of_ble_eq_true rfl) ⟨Nat.le_of_ble_eq_true rfl, Nat.le_of_ble_eq_true rfl, rfl, rfl⟩ ⟨Nat.zero_le _, Nat.zero_le _⟩ dX8_goSay_16 ?_
  refine lv_as (z := (h_X8_goSay_19 uP uR uk ur tt a2 n2 a3 a4)) rfl ?_
  refine lv_istore (lv' := [(6, .int (h_X8_goSay_19 uP uR uk ur tt a2 n2 a3 a4)), (5, .int (h_X8_goSay_9 uP uR uk ur tt a2 n2 a3 a4)), (0, .ref q0), (1, .ref qt), (2, .int a2), (3, .int a3), (4, .int a4)]) hx hb dX8_goSay_19 hl (by decide) rfl (fun ls hl => ?_)
  refine lv_aload_n hx hb dX8_goSay_21 rfl (lv_at hl 2 rfl) ?_
  refine lv_aload_n hx hb dX8_goSay_22 rfl (lv_at hl 3 rfl) ?_
  refine lv_iload_n hx hb dX8_goSay_23 rfl (lv_at hl 4 rfl) ?_
  refine lv_iload hx hb dX8_goSay_24 (lv_at hl 6 rfl) ?_
  refine ro_V (y := yX8_hearersOf) (As := [.ref qt, .int a2, .int a4]) (rest := []) (q0 := 0) CF (c_X8_hearersOf l D cI cZ q0 y1 y2 y3 y4 y5 y6 y7 y8 y9 y10 y11 y12 y13 y14 qt th uT up uP uR vP vR ua us sd z1 z2 z3 z4 z5 z6 z7 uk tt a2 n2 a4 h_a2 (by omega) (by omega)) lk_X8_142 hP hE [0, 1, 3] rfl rfl rfl rfl hl.1 rfl (Nat.le_of_ble_eq_true rfl) ⟨Nat.le_of_ble_eq_true rfl, Nat.le_of_ble_eq_true rfl, rfl, rfl⟩ ⟨Nat.zero_le _, Nat.zero_le _⟩ dX8_goSay_26 ?_
  refine lv_as (z := (h_X8_goSay_29 uP uk tt a2 n2 a4)) rfl ?_
  refine lv_istore (lv' := [(7, .int (h_X8_goSay_29 uP uk tt a2 n2 a4)), (6, .int (h_X8_goSay_19 uP uR uk ur tt a2 n2 a3 a4)), (5, .int (h_X8_goSay_9 uP uR uk ur tt a2 n2 a3 a4)), (0, .ref q0), (1, .ref qt), (2, .int a2), (3, .int a3), (4, .int a4)]) hx hb dX8_goSay_29 hl (by decide) rfl (fun ls hl => ?_)
  refine lv_iconst (v := 0) hx hb dX8_goSay_31 (by decide) ?_
  refine lv_istore (lv' := [(8, .int 0), (7, .int (h_X8_goSay_29 uP uk tt a2 n2 a4)), (6, .int (h_X8_goSay_19 uP uR uk ur tt a2 n2 a3 a4)), (5, .int (h_X8_goSay_9 uP uR uk ur tt a2 n2 a3 a4)), (0, .ref q0), (1, .ref qt), (2, .int a2), (3, .int a3), (4, .int a4)]) hx hb dX8_goSay_32 hl (by decide) rfl (fun ls hl => ?_)
  have LOOP_34 : ∀ (n_34 k34 : Nat) (x34_0 : Nat → Int32) (H : Heap) (locs : List Loc) (ls : Array Slot), k34 ≤ uP → uP - k34 < n_34 → (B_X8_goSay_34 uP uR uk ur tt a2 n2 a3 a4 tt k34) = x34_0 → va_P D vwCl [(q0, .inr (8, [.int th, .ref y1, .int (nI uT), .int (nI up), .int (nI uP), .ref y2, .int (nI uR), .ref y3, .int (nI vP), .ref y4, .ref y5, .int (nI vR), .ref y6, .ref y7, .ref y8, .ref y9, .int (nI ua), .ref y10, .ref y11, .int (nI us), .ref y12, .ref y13, .long sd, .int z1, .int z2, .int z3, .int z4, .int z5, .int z6, .int z7, .ref y14])), (y2, .inl (cI, 5, .inl uk)), (y3, .inl (cI, 12, .inl ur)), (qt, .inl (cI, 15, .inl x34_0))] H → va_D A [(q0, .inr (8, [.int th, .ref y1, .int (nI uT), .int (nI up), .int (nI uP), .ref y2, .int (nI uR), .ref y3, .int (nI vP), .ref y4, .ref y5, .int (nI vR), .ref y6, .ref y7, .ref y8, .ref y9, .int (nI ua), .ref y10, .ref y11, .int (nI us), .ref y12, .ref y13, .long sd, .int z1, .int z2, .int z3, .int z4, .int z5, .int z6, .int z7, .ref y14])), (y2, .inl (cI, 5, .inl uk)), (y3, .inl (cI, 12, .inl ur)), (qt, .inl (cI, 15, .inl x34_0))] → va_S A s.heap H locs → lv_has ls 9 [(8, .int (nI k34)), (7, .int (h_X8_goSay_29 uP uk tt a2 n2 a4)), (6, .int (h_X8_goSay_19 uP uR uk ur tt a2 n2 a3 a4)), (5, .int (h_X8_goSay_9 uP uR uk ur tt a2 n2 a3 a4)), (0, .ref q0), (1, .ref qt), (2, .int a2), (3, .int a3), (4, .int a4)] → W p l e (mR 3 75) s m args below meth c H locs 0 0 Q (F0 m 34 ls []) := by
    intro n_34
    induction n_34 with
    | zero => intro k34 x34_0 H locs ls hk_34 hn_34 hB_34 hP hD hS hl; exact absurd hn_34 (Nat.not_lt_zero _)
    | succ n_34 ih_34 =>
      intro k34 x34_0 H locs ls hk_34 hn_34 hB_34 hP hD hS hl
      refine lv_iload hx hb dX8_goSay_34 (lv_at hl 0 rfl) ?_
      refine lv_aload_n hx hb dX8_goSay_36 rfl (lv_at hl 4 rfl) ?_
      refine r_get (C := RX8) (T := TX8) (N := 31) (v := .int (nI uP)) CF hE hP 0 rfl rfl inG8 4 (by decide) tw_3_119 rfl rfl dX8_goSay_37 ?_
      refine lv_icmp_ge (tgt := 121) hx hb dX8_goSay_40 (by decide) (fun c_1 => ?_) (fun c_1 => ?_)
      · have o_1 : uP ≤ k34 := (cle (rfl : nI uP = nI uP) (rfl : nI k34 = nI k34) (by omega) (by omega)).mp c_1
        have hkN : uP = k34 := by omega
        subst hkN
        subst hB_34
        refine lv_aload_n hx hb dX8_goSay_121 rfl (lv_at hl 5 rfl) ?_
        refine lv_bipush (v := 10) hx hb dX8_goSay_122 (by decide) ?_
        refine lv_iload_n hx hb dX8_goSay_124 rfl (lv_at hl 6 rfl) ?_
        refine lv_iadd hx hb dX8_goSay_125 ?_
        refine lv_dup2_11 hx hb dX8_goSay_126 rfl rfl ?_
        refine r_iald (k := 15) (f := ((B_X8_goSay_34 uP uR uk ur tt a2 n2 a3 a4 tt uP))) CF hE hP 3 rfl (10 + n2) (nf_add (nf_c 10) h_a2) (by omega) (by decide) dX8_goSay_127 ?_
        refine lv_iload hx hb dX8_goSay_128 (lv_at hl 2 rfl) ?_
        refine lv_bipush (v := (-9)) hx hb dX8_goSay_130 (by decide) ?_
        refine lv_icmp_eq (tgt := 149) hx hb dX8_goSay_132 (by decide) (fun c_10 => ?_) (fun c_10 => ?_)
        · refine lv_iconst (v := 0) hx hb dX8_goSay_149 (by decide) ?_
          refine lv_iadd hx hb dX8_goSay_150 ?_
          refine r_iast (k := 15) (f := ((B_X8_goSay_34 uP uR uk ur tt a2 n2 a3 a4 tt uP))) (ws' := [(q0, .inr (8, [.int th, .ref y1, .int (nI uT), .int (nI up), .int (nI uP), .ref y2, .int (nI uR), .ref y3, .int (nI vP), .ref y4, .ref y5, .int (nI vR), .ref y6, .ref y7, .ref y8, .ref y9, .int (nI ua), .ref y10, .ref y11, .int (nI us), .ref y12, .ref y13, .long sd, .int z1, .int z2, .int z3, .int z4, .int z5, .int z6, .int z7, .ref y14])), (y2, .inl (cI, 5, .inl uk)), (y3, .inl (cI, 12, .inl ur)), (qt, .inl (cI, 15, .inl (upd ((B_X8_goSay_34 uP uR uk ur tt a2 n2 a3 a4 tt uP)) (10 + n2) ((((B_X8_goSay_34 uP uR uk ur tt a2 n2 a3 a4 tt uP)) (10 + n2)) + 0))))]) CF hE hP hD hS 3 rfl (10 + n2) (nf_add (nf_c 10) h_a2) (by omega) (by decide) dX8_goSay_151 rfl (fun H locs hP hD hS => ?_)
          refine lv_iload hx hb dX8_goSay_152 (lv_at hl 2 rfl) ?_
          have e_0 : (f_X8_goSay_tt uP uR uk ur tt a2 n2 a3 a4) = (upd ((B_X8_goSay_34 uP uR uk ur tt a2 n2 a3 a4 tt uP)) (10 + n2) ((((B_X8_goSay_34 uP uR uk ur tt a2 n2 a3 a4 tt uP)) (10 + n2)) + 0)) := by rw [f_X8_goSay_tt, if_pos c_10]
          exact mu_reti CF hQ hr hlk rfl hP hS dX8_goSay_154 (by rw [f_X8_goSay, if_pos c_10]) (by rw [e_0])
        · refine lv_aload_n hx hb dX8_goSay_135 rfl (lv_at hl 4 rfl) ?_
          refine r_get (C := RX8) (T := TX8) (N := 31) (v := .ref y2) CF hE hP 0 rfl rfl inG8 5 (by decide) tw_3_120 rfl rfl dX8_goSay_136 ?_
          refine lv_iload_n hx hb dX8_goSay_139 rfl (lv_at hl 6 rfl) ?_
          refine r_iald (k := 5) (f := uk) CF hE hP 1 rfl n2 h_a2 (by omega) (by decide) dX8_goSay_140 ?_
          refine lv_iconst (v := 3) hx hb dX8_goSay_141 (by decide) ?_
          refine lv_icmp_eq (tgt := 149) hx hb dX8_goSay_142 (by decide) (fun c_11 => ?_) (fun c_11 => ?_)
          · refine lv_iconst (v := 0) hx hb dX8_goSay_149 (by decide) ?_
            refine lv_iadd hx hb dX8_goSay_150 ?_
            refine r_iast (k := 15) (f := ((B_X8_goSay_34 uP uR uk ur tt a2 n2 a3 a4 tt uP))) (ws' := [(q0, .inr (8, [.int th, .ref y1, .int (nI uT), .int (nI up), .int (nI uP), .ref y2, .int (nI uR), .ref y3, .int (nI vP), .ref y4, .ref y5, .int (nI vR), .ref y6, .ref y7, .ref y8, .ref y9, .int (nI ua), .ref y10, .ref y11, .int (nI us), .ref y12, .ref y13, .long sd, .int z1, .int z2, .int z3, .int z4, .int z5, .int z6, .int z7, .ref y14])), (y2, .inl (cI, 5, .inl uk)), (y3, .inl (cI, 12, .inl ur)), (qt, .inl (cI, 15, .inl (upd ((B_X8_goSay_34 uP uR uk ur tt a2 n2 a3 a4 tt uP)) (10 + n2) ((((B_X8_goSay_34 uP uR uk ur tt a2 n2 a3 a4 tt uP)) (10 + n2)) + 0))))]) CF hE hP hD hS 3 rfl (10 + n2) (nf_add (nf_c 10) h_a2) (by omega) (by decide) dX8_goSay_151 rfl (fun H locs hP hD hS => ?_)
            refine lv_iload hx hb dX8_goSay_152 (lv_at hl 2 rfl) ?_
            have e_0 : (f_X8_goSay_tt uP uR uk ur tt a2 n2 a3 a4) = (upd ((B_X8_goSay_34 uP uR uk ur tt a2 n2 a3 a4 tt uP)) (10 + n2) ((((B_X8_goSay_34 uP uR uk ur tt a2 n2 a3 a4 tt uP)) (10 + n2)) + 0)) := by rw [f_X8_goSay_tt, if_neg c_10, if_pos c_11]
            exact mu_reti CF hQ hr hlk rfl hP hS dX8_goSay_154 (by rw [f_X8_goSay, if_neg c_10, if_pos c_11]) (by rw [e_0])
          · refine lv_iconst (v := 1) hx hb dX8_goSay_145 (by decide) ?_
            refine lv_goto (tgt := 150) hx hb dX8_goSay_146 (by decide) ?_
            refine lv_iadd hx hb dX8_goSay_150 ?_
            refine r_iast (k := 15) (f := ((B_X8_goSay_34 uP uR uk ur tt a2 n2 a3 a4 tt uP))) (ws' := [(q0, .inr (8, [.int th, .ref y1, .int (nI uT), .int (nI up), .int (nI uP), .ref y2, .int (nI uR), .ref y3, .int (nI vP), .ref y4, .ref y5, .int (nI vR), .ref y6, .ref y7, .ref y8, .ref y9, .int (nI ua), .ref y10, .ref y11, .int (nI us), .ref y12, .ref y13, .long sd, .int z1, .int z2, .int z3, .int z4, .int z5, .int z6, .int z7, .ref y14])), (y2, .inl (cI, 5, .inl uk)), (y3, .inl (cI, 12, .inl ur)), (qt, .inl (cI, 15, .inl (upd ((B_X8_goSay_34 uP uR uk ur tt a2 n2 a3 a4 tt uP)) (10 + n2) ((((B_X8_goSay_34 uP uR uk ur tt a2 n2 a3 a4 tt uP)) (10 + n2)) + 1))))]) CF hE hP hD hS 3 rfl (10 + n2) (nf_add (nf_c 10) h_a2) (by omega) (by decide) dX8_goSay_151 rfl (fun H locs hP hD hS => ?_)
            refine lv_iload hx hb dX8_goSay_152 (lv_at hl 2 rfl) ?_
            have e_0 : (f_X8_goSay_tt uP uR uk ur tt a2 n2 a3 a4) = (upd ((B_X8_goSay_34 uP uR uk ur tt a2 n2 a3 a4 tt uP)) (10 + n2) ((((B_X8_goSay_34 uP uR uk ur tt a2 n2 a3 a4 tt uP)) (10 + n2)) + 1)) := by rw [f_X8_goSay_tt, if_neg c_10, if_neg c_11]
            exact mu_reti CF hQ hr hlk rfl hP hS dX8_goSay_154 (by rw [f_X8_goSay, if_neg c_10, if_neg c_11]) (by rw [e_0])
      · have o_1 : ¬ uP ≤ k34 := fun h => c_1 ((cle (rfl : nI uP = nI uP) (rfl : nI k34 = nI k34) (by omega) (by omega)).mpr h)
        refine lv_aload_n hx hb dX8_goSay_43 rfl (lv_at hl 5 rfl) ?_
        refine lv_iconst (v := 0) hx hb dX8_goSay_44 (by decide) ?_
        refine lv_iload hx hb dX8_goSay_45 (lv_at hl 0 rfl) ?_
        refine lv_iadd hx hb dX8_goSay_47 ?_
        refine lv_dup2_11 hx hb dX8_goSay_48 rfl rfl ?_
        refine r_iald (k := 15) (f := x34_0) CF hE hP 3 rfl (0 + k34) (nf_add (nf_c 0) (rfl : nI k34 = nI k34)) (by omega) (by decide) dX8_goSay_49 ?_
        refine lv_iload hx hb dX8_goSay_50 (lv_at hl 2 rfl) ?_
        refine lv_bipush (v := (-9)) hx hb dX8_goSay_52 (by decide) ?_
        refine lv_icmp_eq (tgt := 73) hx hb dX8_goSay_54 (by decide) (fun c_2 => ?_) (fun c_2 => ?_)
        · refine lv_iconst (v := 0) hx hb dX8_goSay_73 (by decide) ?_
          refine lv_ior hx hb dX8_goSay_74 ?_
          refine r_iast (k := 15) (f := x34_0) (ws' := [(q0, .inr (8, [.int th, .ref y1, .int (nI uT), .int (nI up), .int (nI uP), .ref y2, .int (nI uR), .ref y3, .int (nI vP), .ref y4, .ref y5, .int (nI vR), .ref y6, .ref y7, .ref y8, .ref y9, .int (nI ua), .ref y10, .ref y11, .int (nI us), .ref y12, .ref y13, .long sd, .int z1, .int z2, .int z3, .int z4, .int z5, .int z6, .int z7, .ref y14])), (y2, .inl (cI, 5, .inl uk)), (y3, .inl (cI, 12, .inl ur)), (qt, .inl (cI, 15, .inl (upd x34_0 (0 + k34) ((x34_0 (0 + k34)) ||| 0))))]) CF hE hP hD hS 3 rfl (0 + k34) (nf_add (nf_c 0) (rfl : nI k34 = nI k34)) (by omega) (by decide) dX8_goSay_75 rfl (fun H locs hP hD hS => ?_)
          refine lv_aload_n hx hb dX8_goSay_76 rfl (lv_at hl 5 rfl) ?_
          refine lv_bipush (v := 10) hx hb dX8_goSay_77 (by decide) ?_
          refine lv_iload hx hb dX8_goSay_79 (lv_at hl 0 rfl) ?_
          refine lv_iadd hx hb dX8_goSay_81 ?_
          refine lv_dup2_11 hx hb dX8_goSay_82 rfl rfl ?_
          refine r_iald (k := 15) (f := (upd x34_0 (0 + k34) ((x34_0 (0 + k34)) ||| 0))) CF hE hP 3 rfl (10 + k34) (nf_add (nf_c 10) (rfl : nI k34 = nI k34)) (by omega) (by decide) dX8_goSay_83 ?_
          refine lv_iload hx hb dX8_goSay_84 (lv_at hl 2 rfl) ?_
          refine lv_bipush (v := (-9)) hx hb dX8_goSay_86 (by decide) ?_
          refine lv_icmp_ne (tgt := 112) hx hb dX8_goSay_88 (by decide) (fun c_3 => ?_) (fun c_3 => ?_)
          · refine lv_iconst (v := 0) hx hb dX8_goSay_112 (by decide) ?_
            refine lv_iadd hx hb dX8_goSay_113 ?_
            refine r_iast (k := 15) (f := (upd x34_0 (0 + k34) ((x34_0 (0 + k34)) ||| 0))) (ws' := [(q0, .inr (8, [.int th, .ref y1, .int (nI uT), .int (nI up), .int (nI uP), .ref y2, .int (nI uR), .ref y3, .int (nI vP), .ref y4, .ref y5, .int (nI vR), .ref y6, .ref y7, .ref y8, .ref y9, .int (nI ua), .ref y10, .ref y11, .int (nI us), .ref y12, .ref y13, .long sd, .int z1, .int z2, .int z3, .int z4, .int z5, .int z6, .int z7, .ref y14])), (y2, .inl (cI, 5, .inl uk)), (y3, .inl (cI, 12, .inl ur)), (qt, .inl (cI, 15, .inl (upd (upd x34_0 (0 + k34) ((x34_0 (0 + k34)) ||| 0)) (10 + k34) (((upd x34_0 (0 + k34) ((x34_0 (0 + k34)) ||| 0)) (10 + k34)) + 0))))]) CF hE hP hD hS 3 rfl (10 + k34) (nf_add (nf_c 10) (rfl : nI k34 = nI k34)) (by omega) (by decide) dX8_goSay_114 rfl (fun H locs hP hD hS => ?_)
            refine lv_iinc (v := (nI (k34 + 1))) (lv' := [(8, .int (nI (k34 + 1))), (7, .int (h_X8_goSay_29 uP uk tt a2 n2 a4)), (6, .int (h_X8_goSay_19 uP uR uk ur tt a2 n2 a3 a4)), (5, .int (h_X8_goSay_9 uP uR uk ur tt a2 n2 a3 a4)), (0, .ref q0), (1, .ref qt), (2, .int a2), (3, .int a3), (4, .int a4)]) hx hb dX8_goSay_115 hl (k := 0) rfl (nf_inc 1 (rfl : nI k34 = nI k34)) (by decide) rfl (fun ls hl => ?_)
            refine lv_goto (tgt := 34) hx hb dX8_goSay_118 (by decide) ?_
            have hB2 : B_X8_goSay_34 uP uR uk ur tt a2 n2 a3 a4 tt (k34 + 1) = (upd (upd x34_0 (0 + k34) ((x34_0 (0 + k34)) ||| 0)) (10 + k34) (((upd x34_0 (0 + k34) ((x34_0 (0 + k34)) ||| 0)) (10 + k34)) + 0)) := by
              rw [B_X8_goSay_34, hB_34]
              rw [S_X8_goSay_34, if_pos c_2, if_neg c_3]
            exact ih_34 (k34 + 1) (upd (upd x34_0 (0 + k34) ((x34_0 (0 + k34)) ||| 0)) (10 + k34) (((upd x34_0 (0 + k34) ((x34_0 (0 + k34)) ||| 0)) (10 + k34)) + 0)) _ _ _ (by omega) (by omega) hB2 hP hD hS (lv_sub hl [0, 1, 2, 3, 4, 5, 6, 7, 8] rfl)
          · refine lv_iload hx hb dX8_goSay_91 (lv_at hl 3 rfl) ?_
            refine lv_iload hx hb dX8_goSay_93 (lv_at hl 0 rfl) ?_
            refine ro_S (y := yX8_has) (As := [.int (h_X8_goSay_9 uP uR uk ur tt a2 n2 a3 a4), .int (nI k34)]) (rest := [.int ((upd x34_0 (0 + k34) ((x34_0 (0 + k34)) ||| 0)) (10 + k34)), .int (10 + (nI k34)), .ref qt]) CF (c_X8_has l D cI cZ (h_X8_goSay_9 uP uR uk ur tt a2 n2 a3 a4) (nI k34)) lk_X8_104 hE rfl hl.1 rfl (Nat.le_of_ble_eq_true rfl) ⟨Nat.le_of_ble_eq_true rfl, Nat.le_of_ble_eq_true rfl, rfl, rfl⟩ ⟨Nat.zero_le _, Nat.zero_le _⟩ dX8_goSay_95 ?_
            refine lv_if_eq (tgt := 112) hx hb dX8_goSay_98 (by decide) (fun c_4 => ?_) (fun c_4 => ?_)
            · refine lv_iconst (v := 0) hx hb dX8_goSay_112 (by decide) ?_
              refine lv_iadd hx hb dX8_goSay_113 ?_
              refine r_iast (k := 15) (f := (upd x34_0 (0 + k34) ((x34_0 (0 + k34)) ||| 0))) (ws' := [(q0, .inr (8, [.int th, .ref y1, .int (nI uT), .int (nI up), .int (nI uP), .ref y2, .int (nI uR), .ref y3, .int (nI vP), .ref y4, .ref y5, .int (nI vR), .ref y6, .ref y7, .ref y8, .ref y9, .int (nI ua), .ref y10, .ref y11, .int (nI us), .ref y12, .ref y13, .long sd, .int z1, .int z2, .int z3, .int z4, .int z5, .int z6, .int z7, .ref y14])), (y2, .inl (cI, 5, .inl uk)), (y3, .inl (cI, 12, .inl ur)), (qt, .inl (cI, 15, .inl (upd (upd x34_0 (0 + k34) ((x34_0 (0 + k34)) ||| 0)) (10 + k34) (((upd x34_0 (0 + k34) ((x34_0 (0 + k34)) ||| 0)) (10 + k34)) + 0))))]) CF hE hP hD hS 3 rfl (10 + k34) (nf_add (nf_c 10) (rfl : nI k34 = nI k34)) (by omega) (by decide) dX8_goSay_114 rfl (fun H locs hP hD hS => ?_)
              refine lv_iinc (v := (nI (k34 + 1))) (lv' := [(8, .int (nI (k34 + 1))), (7, .int (h_X8_goSay_29 uP uk tt a2 n2 a4)), (6, .int (h_X8_goSay_19 uP uR uk ur tt a2 n2 a3 a4)), (5, .int (h_X8_goSay_9 uP uR uk ur tt a2 n2 a3 a4)), (0, .ref q0), (1, .ref qt), (2, .int a2), (3, .int a3), (4, .int a4)]) hx hb dX8_goSay_115 hl (k := 0) rfl (nf_inc 1 (rfl : nI k34 = nI k34)) (by decide) rfl (fun ls hl => ?_)
              refine lv_goto (tgt := 34) hx hb dX8_goSay_118 (by decide) ?_
              have hB2 : B_X8_goSay_34 uP uR uk ur tt a2 n2 a3 a4 tt (k34 + 1) = (upd (upd x34_0 (0 + k34) ((x34_0 (0 + k34)) ||| 0)) (10 + k34) (((upd x34_0 (0 + k34) ((x34_0 (0 + k34)) ||| 0)) (10 + k34)) + 0)) := by
                rw [B_X8_goSay_34, hB_34]
                rw [S_X8_goSay_34, if_pos c_2, if_pos c_3, if_pos c_4]
              exact ih_34 (k34 + 1) (upd (upd x34_0 (0 + k34) ((x34_0 (0 + k34)) ||| 0)) (10 + k34) (((upd x34_0 (0 + k34) ((x34_0 (0 + k34)) ||| 0)) (10 + k34)) + 0)) _ _ _ (by omega) (by omega) hB2 hP hD hS (lv_sub hl [0, 1, 2, 3, 4, 5, 6, 7, 8] rfl)
            · refine lv_bipush (v := 12) hx hb dX8_goSay_101 (by decide) ?_
              refine lv_iload hx hb dX8_goSay_103 (lv_at hl 3 rfl) ?_
              refine ro_S (y := yX8_many) (As := [.int (h_X8_goSay_9 uP uR uk ur tt a2 n2 a3 a4)]) (rest := [.int 12, .int ((upd x34_0 (0 + k34) ((x34_0 (0 + k34)) ||| 0)) (10 + k34)), .int (10 + (nI k34)), .ref qt]) CF (c_X8_many l D cI cZ (h_X8_goSay_9 uP uR uk ur tt a2 n2 a3 a4)) lk_X8_145 hE rfl hl.1 rfl (Nat.le_of_ble_eq_true rfl) ⟨Nat.le_of_ble_eq_true rfl, Nat.le_of_ble_eq_true rfl, rfl, rfl⟩ ⟨Nat.zero_le _, Nat.zero_le _⟩ dX8_goSay_105 ?_
              refine lv_idiv hx hb dX8_goSay_108 (many_ne (k := k34) (by omega) (by assumption)) ?_
              refine lv_goto (tgt := 113) hx hb dX8_goSay_109 (by decide) ?_
              refine lv_iadd hx hb dX8_goSay_113 ?_
              refine r_iast (k := 15) (f := (upd x34_0 (0 + k34) ((x34_0 (0 + k34)) ||| 0))) (ws' := [(q0, .inr (8, [.int th, .ref y1, .int (nI uT), .int (nI up), .int (nI uP), .ref y2, .int (nI uR), .ref y3, .int (nI vP), .ref y4, .ref y5, .int (nI vR), .ref y6, .ref y7, .ref y8, .ref y9, .int (nI ua), .ref y10, .ref y11, .int (nI us), .ref y12, .ref y13, .long sd, .int z1, .int z2, .int z3, .int z4, .int z5, .int z6, .int z7, .ref y14])), (y2, .inl (cI, 5, .inl uk)), (y3, .inl (cI, 12, .inl ur)), (qt, .inl (cI, 15, .inl (upd (upd x34_0 (0 + k34) ((x34_0 (0 + k34)) ||| 0)) (10 + k34) (((upd x34_0 (0 + k34) ((x34_0 (0 + k34)) ||| 0)) (10 + k34)) + (12 / ((B_X8_many_4 (h_X8_goSay_9 uP uR uk ur tt a2 n2 a3 a4) 0 6)))))))]) CF hE hP hD hS 3 rfl (10 + k34) (nf_add (nf_c 10) (rfl : nI k34 = nI k34)) (by omega) (by decide) dX8_goSay_114 rfl (fun H locs hP hD hS => ?_)
              refine lv_iinc (v := (nI (k34 + 1))) (lv' := [(8, .int (nI (k34 + 1))), (7, .int (h_X8_goSay_29 uP uk tt a2 n2 a4)), (6, .int (h_X8_goSay_19 uP uR uk ur tt a2 n2 a3 a4)), (5, .int (h_X8_goSay_9 uP uR uk ur tt a2 n2 a3 a4)), (0, .ref q0), (1, .ref qt), (2, .int a2), (3, .int a3), (4, .int a4)]) hx hb dX8_goSay_115 hl (k := 0) rfl (nf_inc 1 (rfl : nI k34 = nI k34)) (by decide) rfl (fun ls hl => ?_)
              refine lv_goto (tgt := 34) hx hb dX8_goSay_118 (by decide) ?_
              have hB2 : B_X8_goSay_34 uP uR uk ur tt a2 n2 a3 a4 tt (k34 + 1) = (upd (upd x34_0 (0 + k34) ((x34_0 (0 + k34)) ||| 0)) (10 + k34) (((upd x34_0 (0 + k34) ((x34_0 (0 + k34)) ||| 0)) (10 + k34)) + (12 / ((B_X8_many_4 (h_X8_goSay_9 uP uR uk ur tt a2 n2 a3 a4) 0 6))))) := by
                rw [B_X8_goSay_34, hB_34]
                rw [S_X8_goSay_34, if_pos c_2, if_pos c_3, if_neg c_4]
              exact ih_34 (k34 + 1) (upd (upd x34_0 (0 + k34) ((x34_0 (0 + k34)) ||| 0)) (10 + k34) (((upd x34_0 (0 + k34) ((x34_0 (0 + k34)) ||| 0)) (10 + k34)) + (12 / ((B_X8_many_4 (h_X8_goSay_9 uP uR uk ur tt a2 n2 a3 a4) 0 6))))) _ _ _ (by omega) (by omega) hB2 hP hD hS (lv_sub hl [0, 1, 2, 3, 4, 5, 6, 7, 8] rfl)
        · refine lv_iload hx hb dX8_goSay_57 (lv_at hl 1 rfl) ?_
          refine lv_iload hx hb dX8_goSay_59 (lv_at hl 0 rfl) ?_
          refine ro_S (y := yX8_has) (As := [.int (h_X8_goSay_29 uP uk tt a2 n2 a4), .int (nI k34)]) (rest := [.int (x34_0 (0 + k34)), .int (0 + (nI k34)), .ref qt]) CF (c_X8_has l D cI cZ (h_X8_goSay_29 uP uk tt a2 n2 a4) (nI k34)) lk_X8_104 hE rfl hl.1 rfl (Nat.le_of_ble_eq_true rfl) ⟨Nat.le_of_ble_eq_true rfl, Nat.le_of_ble_eq_true rfl, rfl, rfl⟩ ⟨Nat.zero_le _, Nat.zero_le _⟩ dX8_goSay_61 ?_
          refine lv_if_eq (tgt := 73) hx hb dX8_goSay_64 (by decide) (fun c_5 => ?_) (fun c_5 => ?_)
          · refine lv_iconst (v := 0) hx hb dX8_goSay_73 (by decide) ?_
            refine lv_ior hx hb dX8_goSay_74 ?_
            refine r_iast (k := 15) (f := x34_0) (ws' := [(q0, .inr (8, [.int th, .ref y1, .int (nI uT), .int (nI up), .int (nI uP), .ref y2, .int (nI uR), .ref y3, .int (nI vP), .ref y4, .ref y5, .int (nI vR), .ref y6, .ref y7, .ref y8, .ref y9, .int (nI ua), .ref y10, .ref y11, .int (nI us), .ref y12, .ref y13, .long sd, .int z1, .int z2, .int z3, .int z4, .int z5, .int z6, .int z7, .ref y14])), (y2, .inl (cI, 5, .inl uk)), (y3, .inl (cI, 12, .inl ur)), (qt, .inl (cI, 15, .inl (upd x34_0 (0 + k34) ((x34_0 (0 + k34)) ||| 0))))]) CF hE hP hD hS 3 rfl (0 + k34) (nf_add (nf_c 0) (rfl : nI k34 = nI k34)) (by omega) (by decide) dX8_goSay_75 rfl (fun H locs hP hD hS => ?_)
            refine lv_aload_n hx hb dX8_goSay_76 rfl (lv_at hl 5 rfl) ?_
            refine lv_bipush (v := 10) hx hb dX8_goSay_77 (by decide) ?_
            refine lv_iload hx hb dX8_goSay_79 (lv_at hl 0 rfl) ?_
            refine lv_iadd hx hb dX8_goSay_81 ?_
            refine lv_dup2_11 hx hb dX8_goSay_82 rfl rfl ?_
            refine r_iald (k := 15) (f := (upd x34_0 (0 + k34) ((x34_0 (0 + k34)) ||| 0))) CF hE hP 3 rfl (10 + k34) (nf_add (nf_c 10) (rfl : nI k34 = nI k34)) (by omega) (by decide) dX8_goSay_83 ?_
            refine lv_iload hx hb dX8_goSay_84 (lv_at hl 2 rfl) ?_
            refine lv_bipush (v := (-9)) hx hb dX8_goSay_86 (by decide) ?_
            refine lv_icmp_ne (tgt := 112) hx hb dX8_goSay_88 (by decide) (fun c_6 => ?_) (fun c_6 => ?_)
            · refine lv_iconst (v := 0) hx hb dX8_goSay_112 (by decide) ?_
              refine lv_iadd hx hb dX8_goSay_113 ?_
              refine r_iast (k := 15) (f := (upd x34_0 (0 + k34) ((x34_0 (0 + k34)) ||| 0))) (ws' := [(q0, .inr (8, [.int th, .ref y1, .int (nI uT), .int (nI up), .int (nI uP), .ref y2, .int (nI uR), .ref y3, .int (nI vP), .ref y4, .ref y5, .int (nI vR), .ref y6, .ref y7, .ref y8, .ref y9, .int (nI ua), .ref y10, .ref y11, .int (nI us), .ref y12, .ref y13, .long sd, .int z1, .int z2, .int z3, .int z4, .int z5, .int z6, .int z7, .ref y14])), (y2, .inl (cI, 5, .inl uk)), (y3, .inl (cI, 12, .inl ur)), (qt, .inl (cI, 15, .inl (upd (upd x34_0 (0 + k34) ((x34_0 (0 + k34)) ||| 0)) (10 + k34) (((upd x34_0 (0 + k34) ((x34_0 (0 + k34)) ||| 0)) (10 + k34)) + 0))))]) CF hE hP hD hS 3 rfl (10 + k34) (nf_add (nf_c 10) (rfl : nI k34 = nI k34)) (by omega) (by decide) dX8_goSay_114 rfl (fun H locs hP hD hS => ?_)
              refine lv_iinc (v := (nI (k34 + 1))) (lv' := [(8, .int (nI (k34 + 1))), (7, .int (h_X8_goSay_29 uP uk tt a2 n2 a4)), (6, .int (h_X8_goSay_19 uP uR uk ur tt a2 n2 a3 a4)), (5, .int (h_X8_goSay_9 uP uR uk ur tt a2 n2 a3 a4)), (0, .ref q0), (1, .ref qt), (2, .int a2), (3, .int a3), (4, .int a4)]) hx hb dX8_goSay_115 hl (k := 0) rfl (nf_inc 1 (rfl : nI k34 = nI k34)) (by decide) rfl (fun ls hl => ?_)
              refine lv_goto (tgt := 34) hx hb dX8_goSay_118 (by decide) ?_
              have hB2 : B_X8_goSay_34 uP uR uk ur tt a2 n2 a3 a4 tt (k34 + 1) = (upd (upd x34_0 (0 + k34) ((x34_0 (0 + k34)) ||| 0)) (10 + k34) (((upd x34_0 (0 + k34) ((x34_0 (0 + k34)) ||| 0)) (10 + k34)) + 0)) := by
                rw [B_X8_goSay_34, hB_34]
                rw [S_X8_goSay_34, if_neg c_2, if_pos c_5, if_neg c_6]
              exact ih_34 (k34 + 1) (upd (upd x34_0 (0 + k34) ((x34_0 (0 + k34)) ||| 0)) (10 + k34) (((upd x34_0 (0 + k34) ((x34_0 (0 + k34)) ||| 0)) (10 + k34)) + 0)) _ _ _ (by omega) (by omega) hB2 hP hD hS (lv_sub hl [0, 1, 2, 3, 4, 5, 6, 7, 8] rfl)
            · refine lv_iload hx hb dX8_goSay_91 (lv_at hl 3 rfl) ?_
              refine lv_iload hx hb dX8_goSay_93 (lv_at hl 0 rfl) ?_
              refine ro_S (y := yX8_has) (As := [.int (h_X8_goSay_9 uP uR uk ur tt a2 n2 a3 a4), .int (nI k34)]) (rest := [.int ((upd x34_0 (0 + k34) ((x34_0 (0 + k34)) ||| 0)) (10 + k34)), .int (10 + (nI k34)), .ref qt]) CF (c_X8_has l D cI cZ (h_X8_goSay_9 uP uR uk ur tt a2 n2 a3 a4) (nI k34)) lk_X8_104 hE rfl hl.1 rfl (Nat.le_of_ble_eq_true rfl) ⟨Nat.le_of_ble_eq_true rfl, Nat.le_of_ble_eq_true rfl, rfl, rfl⟩ ⟨Nat.zero_le _, Nat.zero_le _⟩ dX8_goSay_95 ?_
              refine lv_if_eq (tgt := 112) hx hb dX8_goSay_98 (by decide) (fun c_7 => ?_) (fun c_7 => ?_)
              · refine lv_iconst (v := 0) hx hb dX8_goSay_112 (by decide) ?_
                refine lv_iadd hx hb dX8_goSay_113 ?_
                refine r_iast (k := 15) (f := (upd x34_0 (0 + k34) ((x34_0 (0 + k34)) ||| 0))) (ws' := [(q0, .inr (8, [.int th, .ref y1, .int (nI uT), .int (nI up), .int (nI uP), .ref y2, .int (nI uR), .ref y3, .int (nI vP), .ref y4, .ref y5, .int (nI vR), .ref y6, .ref y7, .ref y8, .ref y9, .int (nI ua), .ref y10, .ref y11, .int (nI us), .ref y12, .ref y13, .long sd, .int z1, .int z2, .int z3, .int z4, .int z5, .int z6, .int z7, .ref y14])), (y2, .inl (cI, 5, .inl uk)), (y3, .inl (cI, 12, .inl ur)), (qt, .inl (cI, 15, .inl (upd (upd x34_0 (0 + k34) ((x34_0 (0 + k34)) ||| 0)) (10 + k34) (((upd x34_0 (0 + k34) ((x34_0 (0 + k34)) ||| 0)) (10 + k34)) + 0))))]) CF hE hP hD hS 3 rfl (10 + k34) (nf_add (nf_c 10) (rfl : nI k34 = nI k34)) (by omega) (by decide) dX8_goSay_114 rfl (fun H locs hP hD hS => ?_)
                refine lv_iinc (v := (nI (k34 + 1))) (lv' := [(8, .int (nI (k34 + 1))), (7, .int (h_X8_goSay_29 uP uk tt a2 n2 a4)), (6, .int (h_X8_goSay_19 uP uR uk ur tt a2 n2 a3 a4)), (5, .int (h_X8_goSay_9 uP uR uk ur tt a2 n2 a3 a4)), (0, .ref q0), (1, .ref qt), (2, .int a2), (3, .int a3), (4, .int a4)]) hx hb dX8_goSay_115 hl (k := 0) rfl (nf_inc 1 (rfl : nI k34 = nI k34)) (by decide) rfl (fun ls hl => ?_)
                refine lv_goto (tgt := 34) hx hb dX8_goSay_118 (by decide) ?_
                have hB2 : B_X8_goSay_34 uP uR uk ur tt a2 n2 a3 a4 tt (k34 + 1) = (upd (upd x34_0 (0 + k34) ((x34_0 (0 + k34)) ||| 0)) (10 + k34) (((upd x34_0 (0 + k34) ((x34_0 (0 + k34)) ||| 0)) (10 + k34)) + 0)) := by
                  rw [B_X8_goSay_34, hB_34]
                  rw [S_X8_goSay_34, if_neg c_2, if_pos c_5, if_pos c_6, if_pos c_7]
                exact ih_34 (k34 + 1) (upd (upd x34_0 (0 + k34) ((x34_0 (0 + k34)) ||| 0)) (10 + k34) (((upd x34_0 (0 + k34) ((x34_0 (0 + k34)) ||| 0)) (10 + k34)) + 0)) _ _ _ (by omega) (by omega) hB2 hP hD hS (lv_sub hl [0, 1, 2, 3, 4, 5, 6, 7, 8] rfl)
              · refine lv_bipush (v := 12) hx hb dX8_goSay_101 (by decide) ?_
                refine lv_iload hx hb dX8_goSay_103 (lv_at hl 3 rfl) ?_
                refine ro_S (y := yX8_many) (As := [.int (h_X8_goSay_9 uP uR uk ur tt a2 n2 a3 a4)]) (rest := [.int 12, .int ((upd x34_0 (0 + k34) ((x34_0 (0 + k34)) ||| 0)) (10 + k34)), .int (10 + (nI k34)), .ref qt]) CF (c_X8_many l D cI cZ (h_X8_goSay_9 uP uR uk ur tt a2 n2 a3 a4)) lk_X8_145 hE rfl hl.1 rfl (Nat.le_of_ble_eq_true rfl) ⟨Nat.le_of_ble_eq_true rfl, Nat.le_of_ble_eq_true rfl, rfl, rfl⟩ ⟨Nat.zero_le _, Nat.zero_le _⟩ dX8_goSay_105 ?_
                refine lv_idiv hx hb dX8_goSay_108 (many_ne (k := k34) (by omega) (by assumption)) ?_
                refine lv_goto (tgt := 113) hx hb dX8_goSay_109 (by decide) ?_
                refine lv_iadd hx hb dX8_goSay_113 ?_
                refine r_iast (k := 15) (f := (upd x34_0 (0 + k34) ((x34_0 (0 + k34)) ||| 0))) (ws' := [(q0, .inr (8, [.int th, .ref y1, .int (nI uT), .int (nI up), .int (nI uP), .ref y2, .int (nI uR), .ref y3, .int (nI vP), .ref y4, .ref y5, .int (nI vR), .ref y6, .ref y7, .ref y8, .ref y9, .int (nI ua), .ref y10, .ref y11, .int (nI us), .ref y12, .ref y13, .long sd, .int z1, .int z2, .int z3, .int z4, .int z5, .int z6, .int z7, .ref y14])), (y2, .inl (cI, 5, .inl uk)), (y3, .inl (cI, 12, .inl ur)), (qt, .inl (cI, 15, .inl (upd (upd x34_0 (0 + k34) ((x34_0 (0 + k34)) ||| 0)) (10 + k34) (((upd x34_0 (0 + k34) ((x34_0 (0 + k34)) ||| 0)) (10 + k34)) + (12 / ((B_X8_many_4 (h_X8_goSay_9 uP uR uk ur tt a2 n2 a3 a4) 0 6)))))))]) CF hE hP hD hS 3 rfl (10 + k34) (nf_add (nf_c 10) (rfl : nI k34 = nI k34)) (by omega) (by decide) dX8_goSay_114 rfl (fun H locs hP hD hS => ?_)
                refine lv_iinc (v := (nI (k34 + 1))) (lv' := [(8, .int (nI (k34 + 1))), (7, .int (h_X8_goSay_29 uP uk tt a2 n2 a4)), (6, .int (h_X8_goSay_19 uP uR uk ur tt a2 n2 a3 a4)), (5, .int (h_X8_goSay_9 uP uR uk ur tt a2 n2 a3 a4)), (0, .ref q0), (1, .ref qt), (2, .int a2), (3, .int a3), (4, .int a4)]) hx hb dX8_goSay_115 hl (k := 0) rfl (nf_inc 1 (rfl : nI k34 = nI k34)) (by decide) rfl (fun ls hl => ?_)
                refine lv_goto (tgt := 34) hx hb dX8_goSay_118 (by decide) ?_
                have hB2 : B_X8_goSay_34 uP uR uk ur tt a2 n2 a3 a4 tt (k34 + 1) = (upd (upd x34_0 (0 + k34) ((x34_0 (0 + k34)) ||| 0)) (10 + k34) (((upd x34_0 (0 + k34) ((x34_0 (0 + k34)) ||| 0)) (10 + k34)) + (12 / ((B_X8_many_4 (h_X8_goSay_9 uP uR uk ur tt a2 n2 a3 a4) 0 6))))) := by
                  rw [B_X8_goSay_34, hB_34]
                  rw [S_X8_goSay_34, if_neg c_2, if_pos c_5, if_pos c_6, if_neg c_7]
                exact ih_34 (k34 + 1) (upd (upd x34_0 (0 + k34) ((x34_0 (0 + k34)) ||| 0)) (10 + k34) (((upd x34_0 (0 + k34) ((x34_0 (0 + k34)) ||| 0)) (10 + k34)) + (12 / ((B_X8_many_4 (h_X8_goSay_9 uP uR uk ur tt a2 n2 a3 a4) 0 6))))) _ _ _ (by omega) (by omega) hB2 hP hD hS (lv_sub hl [0, 1, 2, 3, 4, 5, 6, 7, 8] rfl)
          · refine lv_iconst (v := 1) hx hb dX8_goSay_67 (by decide) ?_
            refine lv_iload_n hx hb dX8_goSay_68 rfl (lv_at hl 7 rfl) ?_
            refine lv_ishl hx hb dX8_goSay_69 ?_
            refine lv_goto (tgt := 74) hx hb dX8_goSay_70 (by decide) ?_
            refine lv_ior hx hb dX8_goSay_74 ?_
            refine r_iast (k := 15) (f := x34_0) (ws' := [(q0, .inr (8, [.int th, .ref y1, .int (nI uT), .int (nI up), .int (nI uP), .ref y2, .int (nI uR), .ref y3, .int (nI vP), .ref y4, .ref y5, .int (nI vR), .ref y6, .ref y7, .ref y8, .ref y9, .int (nI ua), .ref y10, .ref y11, .int (nI us), .ref y12, .ref y13, .long sd, .int z1, .int z2, .int z3, .int z4, .int z5, .int z6, .int z7, .ref y14])), (y2, .inl (cI, 5, .inl uk)), (y3, .inl (cI, 12, .inl ur)), (qt, .inl (cI, 15, .inl (upd x34_0 (0 + k34) ((x34_0 (0 + k34)) ||| ((1 : Int32) <<< ((a3 : Int32) &&& 31))))))]) CF hE hP hD hS 3 rfl (0 + k34) (nf_add (nf_c 0) (rfl : nI k34 = nI k34)) (by omega) (by decide) dX8_goSay_75 rfl (fun H locs hP hD hS => ?_)
            refine lv_aload_n hx hb dX8_goSay_76 rfl (lv_at hl 5 rfl) ?_
            refine lv_bipush (v := 10) hx hb dX8_goSay_77 (by decide) ?_
            refine lv_iload hx hb dX8_goSay_79 (lv_at hl 0 rfl) ?_
            refine lv_iadd hx hb dX8_goSay_81 ?_
            refine lv_dup2_11 hx hb dX8_goSay_82 rfl rfl ?_
            refine r_iald (k := 15) (f := (upd x34_0 (0 + k34) ((x34_0 (0 + k34)) ||| ((1 : Int32) <<< ((a3 : Int32) &&& 31))))) CF hE hP 3 rfl (10 + k34) (nf_add (nf_c 10) (rfl : nI k34 = nI k34)) (by omega) (by decide) dX8_goSay_83 ?_
            refine lv_iload hx hb dX8_goSay_84 (lv_at hl 2 rfl) ?_
            refine lv_bipush (v := (-9)) hx hb dX8_goSay_86 (by decide) ?_
            refine lv_icmp_ne (tgt := 112) hx hb dX8_goSay_88 (by decide) (fun c_8 => ?_) (fun c_8 => ?_)
            · refine lv_iconst (v := 0) hx hb dX8_goSay_112 (by decide) ?_
              refine lv_iadd hx hb dX8_goSay_113 ?_
              refine r_iast (k := 15) (f := (upd x34_0 (0 + k34) ((x34_0 (0 + k34)) ||| ((1 : Int32) <<< ((a3 : Int32) &&& 31))))) (ws' := [(q0, .inr (8, [.int th, .ref y1, .int (nI uT), .int (nI up), .int (nI uP), .ref y2, .int (nI uR), .ref y3, .int (nI vP), .ref y4, .ref y5, .int (nI vR), .ref y6, .ref y7, .ref y8, .ref y9, .int (nI ua), .ref y10, .ref y11, .int (nI us), .ref y12, .ref y13, .long sd, .int z1, .int z2, .int z3, .int z4, .int z5, .int z6, .int z7, .ref y14])), (y2, .inl (cI, 5, .inl uk)), (y3, .inl (cI, 12, .inl ur)), (qt, .inl (cI, 15, .inl (upd (upd x34_0 (0 + k34) ((x34_0 (0 + k34)) ||| ((1 : Int32) <<< ((a3 : Int32) &&& 31)))) (10 + k34) (((upd x34_0 (0 + k34) ((x34_0 (0 + k34)) ||| ((1 : Int32) <<< ((a3 : Int32) &&& 31)))) (10 + k34)) + 0))))]) CF hE hP hD hS 3 rfl (10 + k34) (nf_add (nf_c 10) (rfl : nI k34 = nI k34)) (by omega) (by decide) dX8_goSay_114 rfl (fun H locs hP hD hS => ?_)
              refine lv_iinc (v := (nI (k34 + 1))) (lv' := [(8, .int (nI (k34 + 1))), (7, .int (h_X8_goSay_29 uP uk tt a2 n2 a4)), (6, .int (h_X8_goSay_19 uP uR uk ur tt a2 n2 a3 a4)), (5, .int (h_X8_goSay_9 uP uR uk ur tt a2 n2 a3 a4)), (0, .ref q0), (1, .ref qt), (2, .int a2), (3, .int a3), (4, .int a4)]) hx hb dX8_goSay_115 hl (k := 0) rfl (nf_inc 1 (rfl : nI k34 = nI k34)) (by decide) rfl (fun ls hl => ?_)
              refine lv_goto (tgt := 34) hx hb dX8_goSay_118 (by decide) ?_
              have hB2 : B_X8_goSay_34 uP uR uk ur tt a2 n2 a3 a4 tt (k34 + 1) = (upd (upd x34_0 (0 + k34) ((x34_0 (0 + k34)) ||| ((1 : Int32) <<< ((a3 : Int32) &&& 31)))) (10 + k34) (((upd x34_0 (0 + k34) ((x34_0 (0 + k34)) ||| ((1 : Int32) <<< ((a3 : Int32) &&& 31)))) (10 + k34)) + 0)) := by
                rw [B_X8_goSay_34, hB_34]
                rw [S_X8_goSay_34, if_neg c_2, if_neg c_5, if_neg c_8]
              exact ih_34 (k34 + 1) (upd (upd x34_0 (0 + k34) ((x34_0 (0 + k34)) ||| ((1 : Int32) <<< ((a3 : Int32) &&& 31)))) (10 + k34) (((upd x34_0 (0 + k34) ((x34_0 (0 + k34)) ||| ((1 : Int32) <<< ((a3 : Int32) &&& 31)))) (10 + k34)) + 0)) _ _ _ (by omega) (by omega) hB2 hP hD hS (lv_sub hl [0, 1, 2, 3, 4, 5, 6, 7, 8] rfl)
            · refine lv_iload hx hb dX8_goSay_91 (lv_at hl 3 rfl) ?_
              refine lv_iload hx hb dX8_goSay_93 (lv_at hl 0 rfl) ?_
              refine ro_S (y := yX8_has) (As := [.int (h_X8_goSay_9 uP uR uk ur tt a2 n2 a3 a4), .int (nI k34)]) (rest := [.int ((upd x34_0 (0 + k34) ((x34_0 (0 + k34)) ||| ((1 : Int32) <<< ((a3 : Int32) &&& 31)))) (10 + k34)), .int (10 + (nI k34)), .ref qt]) CF (c_X8_has l D cI cZ (h_X8_goSay_9 uP uR uk ur tt a2 n2 a3 a4) (nI k34)) lk_X8_104 hE rfl hl.1 rfl (Nat.le_of_ble_eq_true rfl) ⟨Nat.le_of_ble_eq_true rfl, Nat.le_of_ble_eq_true rfl, rfl, rfl⟩ ⟨Nat.zero_le _, Nat.zero_le _⟩ dX8_goSay_95 ?_
              refine lv_if_eq (tgt := 112) hx hb dX8_goSay_98 (by decide) (fun c_9 => ?_) (fun c_9 => ?_)
              · refine lv_iconst (v := 0) hx hb dX8_goSay_112 (by decide) ?_
                refine lv_iadd hx hb dX8_goSay_113 ?_
                refine r_iast (k := 15) (f := (upd x34_0 (0 + k34) ((x34_0 (0 + k34)) ||| ((1 : Int32) <<< ((a3 : Int32) &&& 31))))) (ws' := [(q0, .inr (8, [.int th, .ref y1, .int (nI uT), .int (nI up), .int (nI uP), .ref y2, .int (nI uR), .ref y3, .int (nI vP), .ref y4, .ref y5, .int (nI vR), .ref y6, .ref y7, .ref y8, .ref y9, .int (nI ua), .ref y10, .ref y11, .int (nI us), .ref y12, .ref y13, .long sd, .int z1, .int z2, .int z3, .int z4, .int z5, .int z6, .int z7, .ref y14])), (y2, .inl (cI, 5, .inl uk)), (y3, .inl (cI, 12, .inl ur)), (qt, .inl (cI, 15, .inl (upd (upd x34_0 (0 + k34) ((x34_0 (0 + k34)) ||| ((1 : Int32) <<< ((a3 : Int32) &&& 31)))) (10 + k34) (((upd x34_0 (0 + k34) ((x34_0 (0 + k34)) ||| ((1 : Int32) <<< ((a3 : Int32) &&& 31)))) (10 + k34)) + 0))))]) CF hE hP hD hS 3 rfl (10 + k34) (nf_add (nf_c 10) (rfl : nI k34 = nI k34)) (by omega) (by decide) dX8_goSay_114 rfl (fun H locs hP hD hS => ?_)
                refine lv_iinc (v := (nI (k34 + 1))) (lv' := [(8, .int (nI (k34 + 1))), (7, .int (h_X8_goSay_29 uP uk tt a2 n2 a4)), (6, .int (h_X8_goSay_19 uP uR uk ur tt a2 n2 a3 a4)), (5, .int (h_X8_goSay_9 uP uR uk ur tt a2 n2 a3 a4)), (0, .ref q0), (1, .ref qt), (2, .int a2), (3, .int a3), (4, .int a4)]) hx hb dX8_goSay_115 hl (k := 0) rfl (nf_inc 1 (rfl : nI k34 = nI k34)) (by decide) rfl (fun ls hl => ?_)
                refine lv_goto (tgt := 34) hx hb dX8_goSay_118 (by decide) ?_
                have hB2 : B_X8_goSay_34 uP uR uk ur tt a2 n2 a3 a4 tt (k34 + 1) = (upd (upd x34_0 (0 + k34) ((x34_0 (0 + k34)) ||| ((1 : Int32) <<< ((a3 : Int32) &&& 31)))) (10 + k34) (((upd x34_0 (0 + k34) ((x34_0 (0 + k34)) ||| ((1 : Int32) <<< ((a3 : Int32) &&& 31)))) (10 + k34)) + 0)) := by
                  rw [B_X8_goSay_34, hB_34]
                  rw [S_X8_goSay_34, if_neg c_2, if_neg c_5, if_pos c_8, if_pos c_9]
                exact ih_34 (k34 + 1) (upd (upd x34_0 (0 + k34) ((x34_0 (0 + k34)) ||| ((1 : Int32) <<< ((a3 : Int32) &&& 31)))) (10 + k34) (((upd x34_0 (0 + k34) ((x34_0 (0 + k34)) ||| ((1 : Int32) <<< ((a3 : Int32) &&& 31)))) (10 + k34)) + 0)) _ _ _ (by omega) (by omega) hB2 hP hD hS (lv_sub hl [0, 1, 2, 3, 4, 5, 6, 7, 8] rfl)
              · refine lv_bipush (v := 12) hx hb dX8_goSay_101 (by decide) ?_
                refine lv_iload hx hb dX8_goSay_103 (lv_at hl 3 rfl) ?_
                refine ro_S (y := yX8_many) (As := [.int (h_X8_goSay_9 uP uR uk ur tt a2 n2 a3 a4)]) (rest := [.int 12, .int ((upd x34_0 (0 + k34) ((x34_0 (0 + k34)) ||| ((1 : Int32) <<< ((a3 : Int32) &&& 31)))) (10 + k34)), .int (10 + (nI k34)), .ref qt]) CF (c_X8_many l D cI cZ (h_X8_goSay_9 uP uR uk ur tt a2 n2 a3 a4)) lk_X8_145 hE rfl hl.1 rfl (Nat.le_of_ble_eq_true rfl) ⟨Nat.le_of_ble_eq_true rfl, Nat.le_of_ble_eq_true rfl, rfl, rfl⟩ ⟨Nat.zero_le _, Nat.zero_le _⟩ dX8_goSay_105 ?_
                refine lv_idiv hx hb dX8_goSay_108 (many_ne (k := k34) (by omega) (by assumption)) ?_
                refine lv_goto (tgt := 113) hx hb dX8_goSay_109 (by decide) ?_
                refine lv_iadd hx hb dX8_goSay_113 ?_
                refine r_iast (k := 15) (f := (upd x34_0 (0 + k34) ((x34_0 (0 + k34)) ||| ((1 : Int32) <<< ((a3 : Int32) &&& 31))))) (ws' := [(q0, .inr (8, [.int th, .ref y1, .int (nI uT), .int (nI up), .int (nI uP), .ref y2, .int (nI uR), .ref y3, .int (nI vP), .ref y4, .ref y5, .int (nI vR), .ref y6, .ref y7, .ref y8, .ref y9, .int (nI ua), .ref y10, .ref y11, .int (nI us), .ref y12, .ref y13, .long sd, .int z1, .int z2, .int z3, .int z4, .int z5, .int z6, .int z7, .ref y14])), (y2, .inl (cI, 5, .inl uk)), (y3, .inl (cI, 12, .inl ur)), (qt, .inl (cI, 15, .inl (upd (upd x34_0 (0 + k34) ((x34_0 (0 + k34)) ||| ((1 : Int32) <<< ((a3 : Int32) &&& 31)))) (10 + k34) (((upd x34_0 (0 + k34) ((x34_0 (0 + k34)) ||| ((1 : Int32) <<< ((a3 : Int32) &&& 31)))) (10 + k34)) + (12 / ((B_X8_many_4 (h_X8_goSay_9 uP uR uk ur tt a2 n2 a3 a4) 0 6)))))))]) CF hE hP hD hS 3 rfl (10 + k34) (nf_add (nf_c 10) (rfl : nI k34 = nI k34)) (by omega) (by decide) dX8_goSay_114 rfl (fun H locs hP hD hS => ?_)
                refine lv_iinc (v := (nI (k34 + 1))) (lv' := [(8, .int (nI (k34 + 1))), (7, .int (h_X8_goSay_29 uP uk tt a2 n2 a4)), (6, .int (h_X8_goSay_19 uP uR uk ur tt a2 n2 a3 a4)), (5, .int (h_X8_goSay_9 uP uR uk ur tt a2 n2 a3 a4)), (0, .ref q0), (1, .ref qt), (2, .int a2), (3, .int a3), (4, .int a4)]) hx hb dX8_goSay_115 hl (k := 0) rfl (nf_inc 1 (rfl : nI k34 = nI k34)) (by decide) rfl (fun ls hl => ?_)
                refine lv_goto (tgt := 34) hx hb dX8_goSay_118 (by decide) ?_
                have hB2 : B_X8_goSay_34 uP uR uk ur tt a2 n2 a3 a4 tt (k34 + 1) = (upd (upd x34_0 (0 + k34) ((x34_0 (0 + k34)) ||| ((1 : Int32) <<< ((a3 : Int32) &&& 31)))) (10 + k34) (((upd x34_0 (0 + k34) ((x34_0 (0 + k34)) ||| ((1 : Int32) <<< ((a3 : Int32) &&& 31)))) (10 + k34)) + (12 / ((B_X8_many_4 (h_X8_goSay_9 uP uR uk ur tt a2 n2 a3 a4) 0 6))))) := by
                  rw [B_X8_goSay_34, hB_34]
                  rw [S_X8_goSay_34, if_neg c_2, if_neg c_5, if_pos c_8, if_neg c_9]
                exact ih_34 (k34 + 1) (upd (upd x34_0 (0 + k34) ((x34_0 (0 + k34)) ||| ((1 : Int32) <<< ((a3 : Int32) &&& 31)))) (10 + k34) (((upd x34_0 (0 + k34) ((x34_0 (0 + k34)) ||| ((1 : Int32) <<< ((a3 : Int32) &&& 31)))) (10 + k34)) + (12 / ((B_X8_many_4 (h_X8_goSay_9 uP uR uk ur tt a2 n2 a3 a4) 0 6))))) _ _ _ (by omega) (by omega) hB2 hP hD hS (lv_sub hl [0, 1, 2, 3, 4, 5, 6, 7, 8] rfl)
  have e_k : 0 = nI (0) := (nf_c 0).trans (congrArg nI (by omega))
  rw [e_k] at hl
  exact LOOP_34 (uP - 0 + 1) 0 tt _ _ _ (Nat.zero_le _) (by omega) rfl hP hD hS (lv_sub hl [0, 1, 2, 3, 4, 5, 6, 7, 8] rfl)
def S_X8_begin_2 (pg : Nat → Int32) (k2 : Nat) (x2_0 : Nat → Int32) : (Nat → Int32) :=
  (upd x2_0 k2 (pg k2))
def B_X8_begin_2 (pg : Nat → Int32) (i0 : Nat → Int32) : Nat → (Nat → Int32)
  | 0 => i0
  | k + 1 => S_X8_begin_2 pg k (B_X8_begin_2 pg i0 k)
set_option maxRecDepth 100000 in
set_option maxHeartbeats 4000000 in
theorem c_X8_begin (l : Launch) (D : va_G) (cI cZ : ClassId) (q0 y1 y2 y3 y4 y5 y6 y7 y8 y9 y10 y11 y12 y13 y14 : Nat) (th : Int32) (uT : Nat) (up : Nat) (uP : Nat) (uR : Nat) (vP : Nat) (vR : Nat) (ua : Nat) (us : Nat) (sd : Int64) (z1 : Int32) (z2 : Int32) (z3 : Int32) (z4 : Int32) (z5 : Int32) (z6 : Int32) (z7 : Int32) (pg : Nat → Int32) (tr : Nat → Int32) : MU l D cI cZ yX8_begin cX8_begin 2 none (mR 0 0) [.ref q0] [(q0, .inr (8, [.int th, .ref y1, .int (nI uT), .int (nI up), .int (nI uP), .ref y2, .int (nI uR), .ref y3, .int (nI vP), .ref y4, .ref y5, .int (nI vR), .ref y6, .ref y7, .ref y8, .ref y9, .int (nI ua), .ref y10, .ref y11, .int (nI us), .ref y12, .ref y13, .long sd, .int z1, .int z2, .int z3, .int z4, .int z5, .int z6, .int z7, .ref y14])), (y7, .inl (cI, 15, .inl pg)), (y8, .inl (cI, 15, .inl tr))] [(q0, .inr (8, [.int th, .ref y1, .int (nI uT), .int (nI up), .int (nI uP), .ref y2, .int (nI uR), .ref y3, .int (nI vP), .ref y4, .ref y5, .int (nI vR), .ref y6, .ref y7, .ref y8, .ref y9, .int (nI ua), .ref y10, .ref y11, .int (nI us), .ref y12, .ref y13, .long sd, .int z1, .int z2, .int z3, .int z4, .int z5, .int z6, .int z7, .ref y14])), (y7, .inl (cI, 15, .inl pg)), (y8, .inl (cI, 15, .inl ((B_X8_begin_2 pg tr 15))))] none := by
  refine MU.of (by decide +kernel) (Nat.le_of_ble_eq_true rfl) ?_
  intro p e s m args below meth c ls Q A CF hr hlk hP hE hD hS hQ hl
  have hx := CF.1
  have hb := CF.2.1
  have hl : lv_has ls 2 [(0, .ref q0)] := hl
  refine lv_iconst (v := 0) hx hb dX8_begin_0 (by decide) ?_
  refine lv_istore_n (lv' := [(1, .int 0), (0, .ref q0)]) hx hb dX8_begin_1 rfl hl (by decide) rfl (fun ls hl => ?_)
  have LOOP_2 : ∀ (n_2 k2 : Nat) (x2_0 : Nat → Int32) (H : Heap) (locs : List Loc) (ls : Array Slot), k2 ≤ 15 → 15 - k2 < n_2 → (B_X8_begin_2 pg tr k2) = x2_0 → va_P D vwCl [(q0, .inr (8, [.int th, .ref y1, .int (nI uT), .int (nI up), .int (nI uP), .ref y2, .int (nI uR), .ref y3, .int (nI vP), .ref y4, .ref y5, .int (nI vR), .ref y6, .ref y7, .ref y8, .ref y9, .int (nI ua), .ref y10, .ref y11, .int (nI us), .ref y12, .ref y13, .long sd, .int z1, .int z2, .int z3, .int z4, .int z5, .int z6, .int z7, .ref y14])), (y7, .inl (cI, 15, .inl pg)), (y8, .inl (cI, 15, .inl x2_0))] H → va_D A [(q0, .inr (8, [.int th, .ref y1, .int (nI uT), .int (nI up), .int (nI uP), .ref y2, .int (nI uR), .ref y3, .int (nI vP), .ref y4, .ref y5, .int (nI vR), .ref y6, .ref y7, .ref y8, .ref y9, .int (nI ua), .ref y10, .ref y11, .int (nI us), .ref y12, .ref y13, .long sd, .int z1, .int z2, .int z3, .int z4, .int z5, .int z6, .int z7, .ref y14])), (y7, .inl (cI, 15, .inl pg)), (y8, .inl (cI, 15, .inl x2_0))] → va_S A s.heap H locs → lv_has ls 2 [(1, .int (nI k2)), (0, .ref q0)] → W p l e (mR 0 0) s m args below meth c H locs 0 0 Q (F0 m 2 ls []) := by
    intro n_2
    induction n_2 with
    | zero => intro k2 x2_0 H locs ls hk_2 hn_2 hB_2 hP hD hS hl; exact absurd hn_2 (Nat.not_lt_zero _)
    | succ n_2 ih_2 =>
      intro k2 x2_0 H locs ls hk_2 hn_2 hB_2 hP hD hS hl
      refine lv_iload_n hx hb dX8_begin_2 rfl (lv_at hl 0 rfl) ?_
      refine lv_bipush (v := 15) hx hb dX8_begin_3 (by decide) ?_
      refine lv_icmp_ge (tgt := 26) hx hb dX8_begin_5 (by decide) (fun c_1 => ?_) (fun c_1 => ?_)
      · have o_1 : 15 ≤ k2 := (cle (nf_c 15) (rfl : nI k2 = nI k2) (by omega) (by omega)).mp c_1
        have hkN : 15 = k2 := by omega
        subst hkN
        subst hB_2
        exact mu_retv CF hQ hr hlk hP hS dX8_begin_26 rfl
      · have o_1 : ¬ 15 ≤ k2 := fun h => c_1 ((cle (nf_c 15) (rfl : nI k2 = nI k2) (by omega) (by omega)).mpr h)
        refine lv_aload_n hx hb dX8_begin_8 rfl (lv_at hl 1 rfl) ?_
        refine r_get (C := RX8) (T := TX8) (N := 31) (v := .ref y8) CF hE hP 0 rfl rfl inG8 14 (by decide) tw_3_129 rfl rfl dX8_begin_9 ?_
        refine lv_iload_n hx hb dX8_begin_12 rfl (lv_at hl 0 rfl) ?_
        refine lv_aload_n hx hb dX8_begin_13 rfl (lv_at hl 1 rfl) ?_
        refine r_get (C := RX8) (T := TX8) (N := 31) (v := .ref y7) CF hE hP 0 rfl rfl inG8 13 (by decide) tw_3_128 rfl rfl dX8_begin_14 ?_
        refine lv_iload_n hx hb dX8_begin_17 rfl (lv_at hl 0 rfl) ?_
        refine r_iald (k := 15) (f := pg) CF hE hP 1 rfl k2 (rfl : nI k2 = nI k2) (by omega) (by decide) dX8_begin_18 ?_
        refine r_iast (k := 15) (f := x2_0) (ws' := [(q0, .inr (8, [.int th, .ref y1, .int (nI uT), .int (nI up), .int (nI uP), .ref y2, .int (nI uR), .ref y3, .int (nI vP), .ref y4, .ref y5, .int (nI vR), .ref y6, .ref y7, .ref y8, .ref y9, .int (nI ua), .ref y10, .ref y11, .int (nI us), .ref y12, .ref y13, .long sd, .int z1, .int z2, .int z3, .int z4, .int z5, .int z6, .int z7, .ref y14])), (y7, .inl (cI, 15, .inl pg)), (y8, .inl (cI, 15, .inl (upd x2_0 k2 (pg k2))))]) CF hE hP hD hS 2 rfl k2 (rfl : nI k2 = nI k2) (by omega) (by decide) dX8_begin_19 rfl (fun H locs hP hD hS => ?_)
        refine lv_iinc (v := (nI (k2 + 1))) (lv' := [(1, .int (nI (k2 + 1))), (0, .ref q0)]) hx hb dX8_begin_20 hl (k := 0) rfl (nf_inc 1 (rfl : nI k2 = nI k2)) (by decide) rfl (fun ls hl => ?_)
        refine lv_goto (tgt := 2) hx hb dX8_begin_23 (by decide) ?_
        have hB2 : B_X8_begin_2 pg tr (k2 + 1) = (upd x2_0 k2 (pg k2)) := by
          rw [B_X8_begin_2, hB_2]
          rw [S_X8_begin_2]
        exact ih_2 (k2 + 1) (upd x2_0 k2 (pg k2)) _ _ _ (by omega) (by omega) hB2 hP hD hS (lv_sub hl [0, 1] rfl)
  have e_k : 0 = nI (0) := (nf_c 0).trans (congrArg nI (by omega))
  rw [e_k] at hl
  exact LOOP_2 (15 - 0 + 1) 0 tr _ _ _ (Nat.zero_le _) (by omega) rfl hP hD hS (lv_sub hl [0, 1] rfl)
def S_X8_note_51 (ua : Nat) (pg : Nat → Int32) (k51 : Nat) (x51_0 : Nat → Int32) : (Nat → Int32) :=
  (upd x51_0 ((15 * ua) + k51) (pg k51))
def B_X8_note_51 (ua : Nat) (pg : Nat → Int32) (i0 : Nat → Int32) : Nat → (Nat → Int32)
  | 0 => i0
  | k + 1 => S_X8_note_51 ua pg k (B_X8_note_51 ua pg i0 k)
def S_X8_note_11 (k11 : Nat) (x11_0 : Nat → Int32) : (Nat → Int32) :=
  (upd x11_0 k11 (x11_0 (k11 + 15)))
def B_X8_note_11 (i0 : Nat → Int32) : Nat → (Nat → Int32)
  | 0 => i0
  | k + 1 => S_X8_note_11 k (B_X8_note_11 i0 k)
def S_X8_note_51b (ua : Nat) (pg : Nat → Int32) (k51 : Nat) (x51_0 : Nat → Int32) : (Nat → Int32) :=
  (upd x51_0 ((15 * (ua - 1)) + k51) (pg k51))
def B_X8_note_51b (ua : Nat) (pg : Nat → Int32) (i0 : Nat → Int32) : Nat → (Nat → Int32)
  | 0 => i0
  | k + 1 => S_X8_note_51b ua pg k (B_X8_note_51b ua pg i0 k)
def f_X8_note_bk (ua : Nat) (pg : Nat → Int32) (bk : Nat → Int32) : Nat → Int32 :=
  (if (nI ua) = 14 then ((B_X8_note_51b ua pg ((B_X8_note_11 bk 195)) 15)) else ((B_X8_note_51 ua pg bk 15)))
def f_X8_note_ua (ua : Nat) : Nat :=
  (if (nI ua) = 14 then ((ua - 1) + 1) else (ua + 1))
set_option maxRecDepth 100000 in
set_option maxHeartbeats 4000000 in
theorem c_X8_note (l : Launch) (D : va_G) (cI cZ : ClassId) (q0 y1 y2 y3 y4 y5 y6 y7 y8 y9 y10 y11 y12 y13 y14 : Nat) (th : Int32) (uT : Nat) (up : Nat) (uP : Nat) (uR : Nat) (vP : Nat) (vR : Nat) (ua : Nat) (us : Nat) (sd : Int64) (z1 : Int32) (z2 : Int32) (z3 : Int32) (z4 : Int32) (z5 : Int32) (z6 : Int32) (z7 : Int32) (pg : Nat → Int32) (bk : Nat → Int32) (hua : ua ≤ 14) : MU l D cI cZ yX8_note cX8_note 2 none (mR 0 0) [.ref q0] [(q0, .inr (8, [.int th, .ref y1, .int (nI uT), .int (nI up), .int (nI uP), .ref y2, .int (nI uR), .ref y3, .int (nI vP), .ref y4, .ref y5, .int (nI vR), .ref y6, .ref y7, .ref y8, .ref y9, .int (nI ua), .ref y10, .ref y11, .int (nI us), .ref y12, .ref y13, .long sd, .int z1, .int z2, .int z3, .int z4, .int z5, .int z6, .int z7, .ref y14])), (y7, .inl (cI, 15, .inl pg)), (y9, .inl (cI, 210, .inl bk))] [(q0, .inr (8, [.int th, .ref y1, .int (nI uT), .int (nI up), .int (nI uP), .ref y2, .int (nI uR), .ref y3, .int (nI vP), .ref y4, .ref y5, .int (nI vR), .ref y6, .ref y7, .ref y8, .ref y9, .int (nI (f_X8_note_ua ua)), .ref y10, .ref y11, .int (nI us), .ref y12, .ref y13, .long sd, .int z1, .int z2, .int z3, .int z4, .int z5, .int z6, .int z7, .ref y14])), (y7, .inl (cI, 15, .inl pg)), (y9, .inl (cI, 210, .inl (f_X8_note_bk ua pg bk)))] none := by
  refine MU.of (by decide +kernel) (Nat.le_of_ble_eq_true rfl) ?_
  intro p e s m args below meth c ls Q A CF hr hlk hP hE hD hS hQ hl
  have hx := CF.1
  have hb := CF.2.1
  have hl : lv_has ls 2 [(0, .ref q0)] := hl
  refine lv_aload_n hx hb dX8_note_0 rfl (lv_at hl 0 rfl) ?_
  refine r_get (C := RX8) (T := TX8) (N := 31) (v := .int (nI ua)) CF hE hP 0 rfl rfl inG8 16 (by decide) tw_3_131 rfl rfl dX8_note_1 ?_
  refine lv_bipush (v := 14) hx hb dX8_note_4 (by decide) ?_
  refine lv_icmp_ne (tgt := 49) hx hb dX8_note_6 (by decide) (fun c_1 => ?_) (fun c_1 => ?_)
  · have o_1 : ¬ ua = 14 := fun h => c_1 ((ceq (rfl : nI ua = nI ua) (nf_c 14) (by omega) (by omega)).mpr h)
    refine lv_iconst (v := 0) hx hb dX8_note_49 (by decide) ?_
    refine lv_istore_n (lv' := [(1, .int 0), (0, .ref q0)]) hx hb dX8_note_50 rfl hl (by decide) rfl (fun ls hl => ?_)
    have LOOP_51 : ∀ (n_51 k51 : Nat) (x51_0 : Nat → Int32) (H : Heap) (locs : List Loc) (ls : Array Slot), k51 ≤ 15 → 15 - k51 < n_51 → (B_X8_note_51 ua pg bk k51) = x51_0 → va_P D vwCl [(q0, .inr (8, [.int th, .ref y1, .int (nI uT), .int (nI up), .int (nI uP), .ref y2, .int (nI uR), .ref y3, .int (nI vP), .ref y4, .ref y5, .int (nI vR), .ref y6, .ref y7, .ref y8, .ref y9, .int (nI ua), .ref y10, .ref y11, .int (nI us), .ref y12, .ref y13, .long sd, .int z1, .int z2, .int z3, .int z4, .int z5, .int z6, .int z7, .ref y14])), (y7, .inl (cI, 15, .inl pg)), (y9, .inl (cI, 210, .inl x51_0))] H → va_D A [(q0, .inr (8, [.int th, .ref y1, .int (nI uT), .int (nI up), .int (nI uP), .ref y2, .int (nI uR), .ref y3, .int (nI vP), .ref y4, .ref y5, .int (nI vR), .ref y6, .ref y7, .ref y8, .ref y9, .int (nI ua), .ref y10, .ref y11, .int (nI us), .ref y12, .ref y13, .long sd, .int z1, .int z2, .int z3, .int z4, .int z5, .int z6, .int z7, .ref y14])), (y7, .inl (cI, 15, .inl pg)), (y9, .inl (cI, 210, .inl x51_0))] → va_S A s.heap H locs → lv_has ls 2 [(1, .int (nI k51)), (0, .ref q0)] → W p l e (mR 0 0) s m args below meth c H locs 0 0 Q (F0 m 51 ls []) := by
      intro n_51
      induction n_51 with
      | zero => intro k51 x51_0 H locs ls hk_51 hn_51 hB_51 hP hD hS hl; exact absurd hn_51 (Nat.not_lt_zero _)
      | succ n_51 ih_51 =>
        intro k51 x51_0 H locs ls hk_51 hn_51 hB_51 hP hD hS hl
        refine lv_iload_n hx hb dX8_note_51 rfl (lv_at hl 0 rfl) ?_
        refine lv_bipush (v := 15) hx hb dX8_note_52 (by decide) ?_
        refine lv_icmp_ge (tgt := 83) hx hb dX8_note_54 (by decide) (fun c_2 => ?_) (fun c_2 => ?_)
        · have o_2 : 15 ≤ k51 := (cle (nf_c 15) (rfl : nI k51 = nI k51) (by omega) (by omega)).mp c_2
          have hkN : 15 = k51 := by omega
          subst hkN
          subst hB_51
          refine lv_aload_n hx hb dX8_note_83 rfl (lv_at hl 1 rfl) ?_
          refine lv_dup hx hb dX8_note_84 rfl ?_
          refine r_get (C := RX8) (T := TX8) (N := 31) (v := .int (nI ua)) CF hE hP 0 rfl rfl inG8 16 (by decide) tw_3_131 rfl rfl dX8_note_85 ?_
          refine lv_iconst (v := 1) hx hb dX8_note_88 (by decide) ?_
          refine lv_iadd hx hb dX8_note_89 ?_
          refine lv_as (z := (nI (ua + 1))) (nf_add (rfl : nI ua = nI ua) (nf_c 1)) ?_
          refine r_put (C := RX8) (T := TX8) (N := 31) (ws' := [(q0, .inr (8, [.int th, .ref y1, .int (nI uT), .int (nI up), .int (nI uP), .ref y2, .int (nI uR), .ref y3, .int (nI vP), .ref y4, .ref y5, .int (nI vR), .ref y6, .ref y7, .ref y8, .ref y9, .int (nI (ua + 1)), .ref y10, .ref y11, .int (nI us), .ref y12, .ref y13, .long sd, .int z1, .int z2, .int z3, .int z4, .int z5, .int z6, .int z7, .ref y14])), (y7, .inl (cI, 15, .inl pg)), (y9, .inl (cI, 210, .inl ((B_X8_note_51 ua pg bk 15))))]) CF hE hP hD hS 0 rfl rfl inG8 tyX8 tyX8_ok nmX8 16 (by decide) tw_3_131 rfl rfl rfl rfl (Nat.le_of_ble_eq_true rfl) dX8_note_90 rfl (fun H locs hP hD hS => ?_)
          have e_0 : (f_X8_note_bk ua pg bk) = ((B_X8_note_51 ua pg bk 15)) := by rw [f_X8_note_bk, if_neg c_1]
          have e_1 : (f_X8_note_ua ua) = (ua + 1) := by rw [f_X8_note_ua, if_neg c_1]
          exact mu_retv CF hQ hr hlk hP hS dX8_note_93 (by rw [e_0, e_1])
        · have o_2 : ¬ 15 ≤ k51 := fun h => c_2 ((cle (nf_c 15) (rfl : nI k51 = nI k51) (by omega) (by omega)).mpr h)
          refine lv_aload_n hx hb dX8_note_57 rfl (lv_at hl 1 rfl) ?_
          refine r_get (C := RX8) (T := TX8) (N := 31) (v := .ref y9) CF hE hP 0 rfl rfl inG8 15 (by decide) tw_3_130 rfl rfl dX8_note_58 ?_
          refine lv_bipush (v := 15) hx hb dX8_note_61 (by decide) ?_
          refine lv_aload_n hx hb dX8_note_63 rfl (lv_at hl 1 rfl) ?_
          refine r_get (C := RX8) (T := TX8) (N := 31) (v := .int (nI ua)) CF hE hP 0 rfl rfl inG8 16 (by decide) tw_3_131 rfl rfl dX8_note_64 ?_
          refine lv_imul hx hb dX8_note_67 ?_
          refine lv_iload_n hx hb dX8_note_68 rfl (lv_at hl 0 rfl) ?_
          refine lv_iadd hx hb dX8_note_69 ?_
          refine lv_aload_n hx hb dX8_note_70 rfl (lv_at hl 1 rfl) ?_
          refine r_get (C := RX8) (T := TX8) (N := 31) (v := .ref y7) CF hE hP 0 rfl rfl inG8 13 (by decide) tw_3_128 rfl rfl dX8_note_71 ?_
          refine lv_iload_n hx hb dX8_note_74 rfl (lv_at hl 0 rfl) ?_
          refine r_iald (k := 15) (f := pg) CF hE hP 1 rfl k51 (rfl : nI k51 = nI k51) (by omega) (by decide) dX8_note_75 ?_
          refine r_iast (k := 210) (f := x51_0) (ws' := [(q0, .inr (8, [.int th, .ref y1, .int (nI uT), .int (nI up), .int (nI uP), .ref y2, .int (nI uR), .ref y3, .int (nI vP), .ref y4, .ref y5, .int (nI vR), .ref y6, .ref y7, .ref y8, .ref y9, .int (nI ua), .ref y10, .ref y11, .int (nI us), .ref y12, .ref y13, .long sd, .int z1, .int z2, .int z3, .int z4, .int z5, .int z6, .int z7, .ref y14])), (y7, .inl (cI, 15, .inl pg)), (y9, .inl (cI, 210, .inl (upd x51_0 ((15 * ua) + k51) (pg k51))))]) CF hE hP hD hS 2 rfl ((15 * ua) + k51) (nf_add (nf_mul (nf_c 15) (rfl : nI ua = nI ua)) (rfl : nI k51 = nI k51)) (by omega) (by decide) dX8_note_76 rfl (fun H locs hP hD hS => ?_)
          refine lv_iinc (v := (nI (k51 + 1))) (lv' := [(1, .int (nI (k51 + 1))), (0, .ref q0)]) hx hb dX8_note_77 hl (k := 0) rfl (nf_inc 1 (rfl : nI k51 = nI k51)) (by decide) rfl (fun ls hl => ?_)
          refine lv_goto (tgt := 51) hx hb dX8_note_80 (by decide) ?_
          have hB2 : B_X8_note_51 ua pg bk (k51 + 1) = (upd x51_0 ((15 * ua) + k51) (pg k51)) := by
            rw [B_X8_note_51, hB_51]
            rw [S_X8_note_51]
          exact ih_51 (k51 + 1) (upd x51_0 ((15 * ua) + k51) (pg k51)) _ _ _ (by omega) (by omega) hB2 hP hD hS (lv_sub hl [0, 1] rfl)
    have e_k : 0 = nI (0) := (nf_c 0).trans (congrArg nI (by omega))
    rw [e_k] at hl
    exact LOOP_51 (15 - 0 + 1) 0 bk _ _ _ (Nat.zero_le _) (by omega) rfl hP hD hS (lv_sub hl [0, 1] rfl)
  · have o_1 : ua = 14 := (ceq (rfl : nI ua = nI ua) (nf_c 14) (by omega) (by omega)).mp c_1
    refine lv_iconst (v := 0) hx hb dX8_note_9 (by decide) ?_
    refine lv_istore_n (lv' := [(1, .int 0), (0, .ref q0)]) hx hb dX8_note_10 rfl hl (by decide) rfl (fun ls hl => ?_)
    have LOOP_11 : ∀ (n_11 k11 : Nat) (x11_0 : Nat → Int32) (H : Heap) (locs : List Loc) (ls : Array Slot), k11 ≤ 195 → 195 - k11 < n_11 → (B_X8_note_11 bk k11) = x11_0 → va_P D vwCl [(q0, .inr (8, [.int th, .ref y1, .int (nI uT), .int (nI up), .int (nI uP), .ref y2, .int (nI uR), .ref y3, .int (nI vP), .ref y4, .ref y5, .int (nI vR), .ref y6, .ref y7, .ref y8, .ref y9, .int (nI ua), .ref y10, .ref y11, .int (nI us), .ref y12, .ref y13, .long sd, .int z1, .int z2, .int z3, .int z4, .int z5, .int z6, .int z7, .ref y14])), (y7, .inl (cI, 15, .inl pg)), (y9, .inl (cI, 210, .inl x11_0))] H → va_D A [(q0, .inr (8, [.int th, .ref y1, .int (nI uT), .int (nI up), .int (nI uP), .ref y2, .int (nI uR), .ref y3, .int (nI vP), .ref y4, .ref y5, .int (nI vR), .ref y6, .ref y7, .ref y8, .ref y9, .int (nI ua), .ref y10, .ref y11, .int (nI us), .ref y12, .ref y13, .long sd, .int z1, .int z2, .int z3, .int z4, .int z5, .int z6, .int z7, .ref y14])), (y7, .inl (cI, 15, .inl pg)), (y9, .inl (cI, 210, .inl x11_0))] → va_S A s.heap H locs → lv_has ls 2 [(1, .int (nI k11)), (0, .ref q0)] → W p l e (mR 0 0) s m args below meth c H locs 0 0 Q (F0 m 11 ls []) := by
      intro n_11
      induction n_11 with
      | zero => intro k11 x11_0 H locs ls hk_11 hn_11 hB_11 hP hD hS hl; exact absurd hn_11 (Nat.not_lt_zero _)
      | succ n_11 ih_11 =>
        intro k11 x11_0 H locs ls hk_11 hn_11 hB_11 hP hD hS hl
        refine lv_iload_n hx hb dX8_note_11 rfl (lv_at hl 0 rfl) ?_
        refine lv_sipush (v := 195) hx hb dX8_note_12 (by decide) ?_
        refine lv_icmp_ge (tgt := 39) hx hb dX8_note_15 (by decide) (fun c_3 => ?_) (fun c_3 => ?_)
        · have o_3 : 195 ≤ k11 := (cle (nf_c 195) (rfl : nI k11 = nI k11) (by omega) (by omega)).mp c_3
          have hkN : 195 = k11 := by omega
          subst hkN
          subst hB_11
          refine lv_aload_n hx hb dX8_note_39 rfl (lv_at hl 1 rfl) ?_
          refine lv_dup hx hb dX8_note_40 rfl ?_
          refine r_get (C := RX8) (T := TX8) (N := 31) (v := .int (nI ua)) CF hE hP 0 rfl rfl inG8 16 (by decide) tw_3_131 rfl rfl dX8_note_41 ?_
          refine lv_iconst (v := 1) hx hb dX8_note_44 (by decide) ?_
          refine lv_isub hx hb dX8_note_45 ?_
          refine lv_as (z := (nI (ua - 1))) (nf_sub (rfl : nI ua = nI ua) (nf_c 1) (by omega)) ?_
          refine r_put (C := RX8) (T := TX8) (N := 31) (ws' := [(q0, .inr (8, [.int th, .ref y1, .int (nI uT), .int (nI up), .int (nI uP), .ref y2, .int (nI uR), .ref y3, .int (nI vP), .ref y4, .ref y5, .int (nI vR), .ref y6, .ref y7, .ref y8, .ref y9, .int (nI (ua - 1)), .ref y10, .ref y11, .int (nI us), .ref y12, .ref y13, .long sd, .int z1, .int z2, .int z3, .int z4, .int z5, .int z6, .int z7, .ref y14])), (y7, .inl (cI, 15, .inl pg)), (y9, .inl (cI, 210, .inl ((B_X8_note_11 bk 195))))]) CF hE hP hD hS 0 rfl rfl inG8 tyX8 tyX8_ok nmX8 16 (by decide) tw_3_131 rfl rfl rfl rfl (Nat.le_of_ble_eq_true rfl) dX8_note_46 rfl (fun H locs hP hD hS => ?_)
          refine lv_iconst (v := 0) hx hb dX8_note_49 (by decide) ?_
          refine lv_istore_n (lv' := [(1, .int 0), (0, .ref q0)]) hx hb dX8_note_50 rfl hl (by decide) rfl (fun ls hl => ?_)
          have LOOP_51 : ∀ (n_51 k51 : Nat) (x51_0 : Nat → Int32) (H : Heap) (locs : List Loc) (ls : Array Slot), k51 ≤ 15 → 15 - k51 < n_51 → (B_X8_note_51b ua pg ((B_X8_note_11 bk 195)) k51) = x51_0 → va_P D vwCl [(q0, .inr (8, [.int th, .ref y1, .int (nI uT), .int (nI up), .int (nI uP), .ref y2, .int (nI uR), .ref y3, .int (nI vP), .ref y4, .ref y5, .int (nI vR), .ref y6, .ref y7, .ref y8, .ref y9, .int (nI (ua - 1)), .ref y10, .ref y11, .int (nI us), .ref y12, .ref y13, .long sd, .int z1, .int z2, .int z3, .int z4, .int z5, .int z6, .int z7, .ref y14])), (y7, .inl (cI, 15, .inl pg)), (y9, .inl (cI, 210, .inl x51_0))] H → va_D A [(q0, .inr (8, [.int th, .ref y1, .int (nI uT), .int (nI up), .int (nI uP), .ref y2, .int (nI uR), .ref y3, .int (nI vP), .ref y4, .ref y5, .int (nI vR), .ref y6, .ref y7, .ref y8, .ref y9, .int (nI (ua - 1)), .ref y10, .ref y11, .int (nI us), .ref y12, .ref y13, .long sd, .int z1, .int z2, .int z3, .int z4, .int z5, .int z6, .int z7, .ref y14])), (y7, .inl (cI, 15, .inl pg)), (y9, .inl (cI, 210, .inl x51_0))] → va_S A s.heap H locs → lv_has ls 2 [(1, .int (nI k51)), (0, .ref q0)] → W p l e (mR 0 0) s m args below meth c H locs 0 0 Q (F0 m 51 ls []) := by
            intro n_51
            induction n_51 with
            | zero => intro k51 x51_0 H locs ls hk_51 hn_51 hB_51 hP hD hS hl; exact absurd hn_51 (Nat.not_lt_zero _)
            | succ n_51 ih_51 =>
              intro k51 x51_0 H locs ls hk_51 hn_51 hB_51 hP hD hS hl
              refine lv_iload_n hx hb dX8_note_51 rfl (lv_at hl 0 rfl) ?_
              refine lv_bipush (v := 15) hx hb dX8_note_52 (by decide) ?_
              refine lv_icmp_ge (tgt := 83) hx hb dX8_note_54 (by decide) (fun c_4 => ?_) (fun c_4 => ?_)
              · have o_4 : 15 ≤ k51 := (cle (nf_c 15) (rfl : nI k51 = nI k51) (by omega) (by omega)).mp c_4
                have hkN : 15 = k51 := by omega
                subst hkN
                subst hB_51
                refine lv_aload_n hx hb dX8_note_83 rfl (lv_at hl 1 rfl) ?_
                refine lv_dup hx hb dX8_note_84 rfl ?_
                refine r_get (C := RX8) (T := TX8) (N := 31) (v := .int (nI (ua - 1))) CF hE hP 0 rfl rfl inG8 16 (by decide) tw_3_131 rfl rfl dX8_note_85 ?_
                refine lv_iconst (v := 1) hx hb dX8_note_88 (by decide) ?_
                refine lv_iadd hx hb dX8_note_89 ?_
                refine lv_as (z := (nI ((ua - 1) + 1))) (nf_add (rfl : nI (ua - 1) = nI (ua - 1)) (nf_c 1)) ?_
                refine r_put (C := RX8) (T := TX8) (N := 31) (ws' := [(q0, .inr (8, [.int th, .ref y1, .int (nI uT), .int (nI up), .int (nI uP), .ref y2, .int (nI uR), .ref y3, .int (nI vP), .ref y4, .ref y5, .int (nI vR), .ref y6, .ref y7, .ref y8, .ref y9, .int (nI ((ua - 1) + 1)), .ref y10, .ref y11, .int (nI us), .ref y12, .ref y13, .long sd, .int z1, .int z2, .int z3, .int z4, .int z5, .int z6, .int z7, .ref y14])), (y7, .inl (cI, 15, .inl pg)), (y9, .inl (cI, 210, .inl ((B_X8_note_51b ua pg ((B_X8_note_11 bk 195)) 15))))]) CF hE hP hD hS 0 rfl rfl inG8 tyX8 tyX8_ok nmX8 16 (by decide) tw_3_131 rfl rfl rfl rfl (Nat.le_of_ble_eq_true rfl) dX8_note_90 rfl (fun H locs hP hD hS => ?_)
                have e_0 : (f_X8_note_bk ua pg bk) = ((B_X8_note_51b ua pg ((B_X8_note_11 bk 195)) 15)) := by rw [f_X8_note_bk, if_pos c_1]
                have e_1 : (f_X8_note_ua ua) = ((ua - 1) + 1) := by rw [f_X8_note_ua, if_pos c_1]
                exact mu_retv CF hQ hr hlk hP hS dX8_note_93 (by rw [e_0, e_1])
              · have o_4 : ¬ 15 ≤ k51 := fun h => c_4 ((cle (nf_c 15) (rfl : nI k51 = nI k51) (by omega) (by omega)).mpr h)
                refine lv_aload_n hx hb dX8_note_57 rfl (lv_at hl 1 rfl) ?_
                refine r_get (C := RX8) (T := TX8) (N := 31) (v := .ref y9) CF hE hP 0 rfl rfl inG8 15 (by decide) tw_3_130 rfl rfl dX8_note_58 ?_
                refine lv_bipush (v := 15) hx hb dX8_note_61 (by decide) ?_
                refine lv_aload_n hx hb dX8_note_63 rfl (lv_at hl 1 rfl) ?_
                refine r_get (C := RX8) (T := TX8) (N := 31) (v := .int (nI (ua - 1))) CF hE hP 0 rfl rfl inG8 16 (by decide) tw_3_131 rfl rfl dX8_note_64 ?_
                refine lv_imul hx hb dX8_note_67 ?_
                refine lv_iload_n hx hb dX8_note_68 rfl (lv_at hl 0 rfl) ?_
                refine lv_iadd hx hb dX8_note_69 ?_
                refine lv_aload_n hx hb dX8_note_70 rfl (lv_at hl 1 rfl) ?_
                refine r_get (C := RX8) (T := TX8) (N := 31) (v := .ref y7) CF hE hP 0 rfl rfl inG8 13 (by decide) tw_3_128 rfl rfl dX8_note_71 ?_
                refine lv_iload_n hx hb dX8_note_74 rfl (lv_at hl 0 rfl) ?_
                refine r_iald (k := 15) (f := pg) CF hE hP 1 rfl k51 (rfl : nI k51 = nI k51) (by omega) (by decide) dX8_note_75 ?_
                refine r_iast (k := 210) (f := x51_0) (ws' := [(q0, .inr (8, [.int th, .ref y1, .int (nI uT), .int (nI up), .int (nI uP), .ref y2, .int (nI uR), .ref y3, .int (nI vP), .ref y4, .ref y5, .int (nI vR), .ref y6, .ref y7, .ref y8, .ref y9, .int (nI (ua - 1)), .ref y10, .ref y11, .int (nI us), .ref y12, .ref y13, .long sd, .int z1, .int z2, .int z3, .int z4, .int z5, .int z6, .int z7, .ref y14])), (y7, .inl (cI, 15, .inl pg)), (y9, .inl (cI, 210, .inl (upd x51_0 ((15 * (ua - 1)) + k51) (pg k51))))]) CF hE hP hD hS 2 rfl ((15 * (ua - 1)) + k51) (nf_add (nf_mul (nf_c 15) (rfl : nI (ua - 1) = nI (ua - 1))) (rfl : nI k51 = nI k51)) (by omega) (by decide) dX8_note_76 rfl (fun H locs hP hD hS => ?_)
                refine lv_iinc (v := (nI (k51 + 1))) (lv' := [(1, .int (nI (k51 + 1))), (0, .ref q0)]) hx hb dX8_note_77 hl (k := 0) rfl (nf_inc 1 (rfl : nI k51 = nI k51)) (by decide) rfl (fun ls hl => ?_)
                refine lv_goto (tgt := 51) hx hb dX8_note_80 (by decide) ?_
                have hB2 : B_X8_note_51b ua pg ((B_X8_note_11 bk 195)) (k51 + 1) = (upd x51_0 ((15 * (ua - 1)) + k51) (pg k51)) := by
                  rw [B_X8_note_51b, hB_51]
                  rw [S_X8_note_51b]
                exact ih_51 (k51 + 1) (upd x51_0 ((15 * (ua - 1)) + k51) (pg k51)) _ _ _ (by omega) (by omega) hB2 hP hD hS (lv_sub hl [0, 1] rfl)
          have e_k : 0 = nI (0) := (nf_c 0).trans (congrArg nI (by omega))
          rw [e_k] at hl
          exact LOOP_51 (15 - 0 + 1) 0 ((B_X8_note_11 bk 195)) _ _ _ (Nat.zero_le _) (by omega) rfl hP hD hS (lv_sub hl [0, 1] rfl)
        · have o_3 : ¬ 195 ≤ k11 := fun h => c_3 ((cle (nf_c 195) (rfl : nI k11 = nI k11) (by omega) (by omega)).mpr h)
          refine lv_aload_n hx hb dX8_note_18 rfl (lv_at hl 1 rfl) ?_
          refine r_get (C := RX8) (T := TX8) (N := 31) (v := .ref y9) CF hE hP 0 rfl rfl inG8 15 (by decide) tw_3_130 rfl rfl dX8_note_19 ?_
          refine lv_iload_n hx hb dX8_note_22 rfl (lv_at hl 0 rfl) ?_
          refine lv_aload_n hx hb dX8_note_23 rfl (lv_at hl 1 rfl) ?_
          refine r_get (C := RX8) (T := TX8) (N := 31) (v := .ref y9) CF hE hP 0 rfl rfl inG8 15 (by decide) tw_3_130 rfl rfl dX8_note_24 ?_
          refine lv_iload_n hx hb dX8_note_27 rfl (lv_at hl 0 rfl) ?_
          refine lv_bipush (v := 15) hx hb dX8_note_28 (by decide) ?_
          refine lv_iadd hx hb dX8_note_30 ?_
          refine r_iald (k := 210) (f := x11_0) CF hE hP 2 rfl (k11 + 15) (nf_add (rfl : nI k11 = nI k11) (nf_c 15)) (by omega) (by decide) dX8_note_31 ?_
          refine r_iast (k := 210) (f := x11_0) (ws' := [(q0, .inr (8, [.int th, .ref y1, .int (nI uT), .int (nI up), .int (nI uP), .ref y2, .int (nI uR), .ref y3, .int (nI vP), .ref y4, .ref y5, .int (nI vR), .ref y6, .ref y7, .ref y8, .ref y9, .int (nI ua), .ref y10, .ref y11, .int (nI us), .ref y12, .ref y13, .long sd, .int z1, .int z2, .int z3, .int z4, .int z5, .int z6, .int z7, .ref y14])), (y7, .inl (cI, 15, .inl pg)), (y9, .inl (cI, 210, .inl (upd x11_0 k11 (x11_0 (k11 + 15)))))]) CF hE hP hD hS 2 rfl k11 (rfl : nI k11 = nI k11) (by omega) (by decide) dX8_note_32 rfl (fun H locs hP hD hS => ?_)
          refine lv_iinc (v := (nI (k11 + 1))) (lv' := [(1, .int (nI (k11 + 1))), (0, .ref q0)]) hx hb dX8_note_33 hl (k := 0) rfl (nf_inc 1 (rfl : nI k11 = nI k11)) (by decide) rfl (fun ls hl => ?_)
          refine lv_goto (tgt := 11) hx hb dX8_note_36 (by decide) ?_
          have hB2 : B_X8_note_11 bk (k11 + 1) = (upd x11_0 k11 (x11_0 (k11 + 15))) := by
            rw [B_X8_note_11, hB_11]
            rw [S_X8_note_11]
          exact ih_11 (k11 + 1) (upd x11_0 k11 (x11_0 (k11 + 15))) _ _ _ (by omega) (by omega) hB2 hP hD hS (lv_sub hl [0, 1] rfl)
    have e_k : 0 = nI (0) := (nf_c 0).trans (congrArg nI (by omega))
    rw [e_k] at hl
    exact LOOP_11 (195 - 0 + 1) 0 bk _ _ _ (Nat.zero_le _) (by omega) rfl hP hD hS (lv_sub hl [0, 1] rfl)
theorem lk_X8_159 : mLkV RX8 159 yX8_begin cX8_begin 2 none 0 := ⟨⟨tw_4_120, tw_1_10, tw_4_123, ⟨by decide +kernel, by decide +kernel, by decide +kernel⟩⟩, tw_4_122, tp_3_0⟩
theorem lk_X8_162 : mLkS RX8 162 yX8_power cX8_power 4 (some .int) 2 := ⟨⟨tw_4_113, tw_1_10, tw_4_115, ⟨by decide +kernel, by decide +kernel, by decide +kernel⟩⟩, tw_4_114⟩
def h_X8_laySeats_38 (uP : Nat) (a1 : Int32) (k8 : Nat) : Int32 :=
  ((a1 / ((B_X8_power_4 (nI uP) 1 ((uP - 1) - k8)))) - (a1 / ((B_X8_power_4 (nI uP) 1 ((uP - 1) - k8)))) / (nI uP) * (nI uP))
def S_X8_laySeats_8 (uP : Nat) (a1 : Int32) (n1 : Nat) (k8 : Nat) (x8_0 : Int32) (x8_1 : Nat → Int32) : (Int32) × (Nat → Int32) :=
  ((x8_0 ||| ((1 : Int32) <<< (((h_X8_laySeats_38 uP a1 k8) : Int32) &&& 31))), (upd x8_1 (5 + ((n1 / (uP ^ ((uP - 1) - k8))) % uP)) (nI k8)))
def B_X8_laySeats_8 (uP : Nat) (a1 : Int32) (n1 : Nat) (i0 : Int32) (i1 : Nat → Int32) : Nat → (Int32) × (Nat → Int32)
  | 0 => (i0, i1)
  | k + 1 => S_X8_laySeats_8 uP a1 n1 k (B_X8_laySeats_8 uP a1 n1 i0 i1 k).1 (B_X8_laySeats_8 uP a1 n1 i0 i1 k).2
def f_X8_laySeats (uP : Nat) (pg : Nat → Int32) (tr : Nat → Int32) (a1 : Int32) (n1 : Nat) : Int32 :=
  (if ((B_X8_laySeats_8 uP a1 n1 0 ((B_X8_begin_2 pg tr 15)) uP).1) = (((1 : Int32) <<< (((nI uP) : Int32) &&& 31)) - 1) then (if (((B_X8_laySeats_8 uP a1 n1 0 ((B_X8_begin_2 pg tr 15)) uP).2) 5) = (pg 5) then 1 else 0) else 0)
theorem z_f_X8_laySeats (uP : Nat) (pg : Nat → Int32) (tr : Nat → Int32) (a1 : Int32) (n1 : Nat) : narrow .boolean (.int (f_X8_laySeats uP pg tr a1 n1)) = .int (f_X8_laySeats uP pg tr a1 n1) := by
  unfold f_X8_laySeats
  repeat' split
  all_goals first | rfl
def f_X8_laySeats_tr (uP : Nat) (pg : Nat → Int32) (tr : Nat → Int32) (a1 : Int32) (n1 : Nat) : Nat → Int32 :=
  (if ((B_X8_laySeats_8 uP a1 n1 0 ((B_X8_begin_2 pg tr 15)) uP).1) = (((1 : Int32) <<< (((nI uP) : Int32) &&& 31)) - 1) then (if (((B_X8_laySeats_8 uP a1 n1 0 ((B_X8_begin_2 pg tr 15)) uP).2) 5) = (pg 5) then ((B_X8_laySeats_8 uP a1 n1 0 ((B_X8_begin_2 pg tr 15)) uP).2) else ((B_X8_laySeats_8 uP a1 n1 0 ((B_X8_begin_2 pg tr 15)) uP).2)) else ((B_X8_laySeats_8 uP a1 n1 0 ((B_X8_begin_2 pg tr 15)) uP).2))
set_option maxRecDepth 100000 in
set_option maxHeartbeats 4000000 in
theorem c_X8_laySeats (l : Launch) (D : va_G) (cI cZ : ClassId) (q0 y1 y2 y3 y4 y5 y6 y7 y8 y9 y10 y11 y12 y13 y14 : Nat) (th : Int32) (uT : Nat) (up : Nat) (uP : Nat) (uR : Nat) (vP : Nat) (vR : Nat) (ua : Nat) (us : Nat) (sd : Int64) (z1 : Int32) (z2 : Int32) (z3 : Int32) (z4 : Int32) (z5 : Int32) (z6 : Int32) (z7 : Int32) (pg : Nat → Int32) (tr : Nat → Int32) (a1 : Int32) (n1 : Nat) (h_a1 : a1 = nI n1) (hu5 : uP ≤ 5) (hu1 : 1 ≤ uP) (hn1 : n1 < 2 ^ 31) : MU l D cI cZ yX8_laySeats cX8_laySeats 5 (some .boolean) (mR 1 23) [.ref q0, .int a1] [(q0, .inr (8, [.int th, .ref y1, .int (nI uT), .int (nI up), .int (nI uP), .ref y2, .int (nI uR), .ref y3, .int (nI vP), .ref y4, .ref y5, .int (nI vR), .ref y6, .ref y7, .ref y8, .ref y9, .int (nI ua), .ref y10, .ref y11, .int (nI us), .ref y12, .ref y13, .long sd, .int z1, .int z2, .int z3, .int z4, .int z5, .int z6, .int z7, .ref y14])), (y7, .inl (cI, 15, .inl pg)), (y8, .inl (cI, 15, .inl tr))] [(q0, .inr (8, [.int th, .ref y1, .int (nI uT), .int (nI up), .int (nI uP), .ref y2, .int (nI uR), .ref y3, .int (nI vP), .ref y4, .ref y5, .int (nI vR), .ref y6, .ref y7, .ref y8, .ref y9, .int (nI ua), .ref y10, .ref y11, .int (nI us), .ref y12, .ref y13, .long sd, .int z1, .int z2, .int z3, .int z4, .int z5, .int z6, .int z7, .ref y14])), (y7, .inl (cI, 15, .inl pg)), (y8, .inl (cI, 15, .inl (f_X8_laySeats_tr uP pg tr a1 n1)))] (some (.int (f_X8_laySeats uP pg tr a1 n1))) := by
  refine MU.of (by decide +kernel) (Nat.le_of_ble_eq_true rfl) ?_
  intro p e s m args below meth c ls Q A CF hr hlk hP hE hD hS hQ hl
  have hx := CF.1
  have hb := CF.2.1
  have hl : lv_has ls 5 [(0, .ref q0), (1, .int a1)] := hl
  refine lv_aload_n hx hb dX8_laySeats_0 rfl (lv_at hl 0 rfl) ?_
  refine mu_Vv (y := yX8_begin) (As := []) (rest := []) (q0 := 0) (ws' := [(q0, .inr (8, [.int th, .ref y1, .int (nI uT), .int (nI up), .int (nI uP), .ref y2, .int (nI uR), .ref y3, .int (nI vP), .ref y4, .ref y5, .int (nI vR), .ref y6, .ref y7, .ref y8, .ref y9, .int (nI ua), .ref y10, .ref y11, .int (nI us), .ref y12, .ref y13, .long sd, .int z1, .int z2, .int z3, .int z4, .int z5, .int z6, .int z7, .ref y14])), (y7, .inl (cI, 15, .inl pg)), (y8, .inl (cI, 15, .inl ((B_X8_begin_2 pg tr 15))))]) (ad := [q0, y7, y8]) CF (c_X8_begin l D cI cZ q0 y1 y2 y3 y4 y5 y6 y7 y8 y9 y10 y11 y12 y13 y14 th uT up uP uR vP vR ua us sd z1 z2 z3 z4 z5 z6 z7 pg tr) lk_X8_159 hP hE hD hS [0, 1, 2] rfl (by decide) (Nat.le_of_ble_eq_true rfl) rfl rfl rfl rfl rfl rfl hl.1 rfl (Nat.le_of_ble_eq_true rfl) ⟨Nat.le_of_ble_eq_true rfl, Nat.le_of_ble_eq_true rfl, rfl, rfl⟩ ⟨Nat.zero_le _, Nat.zero_le _⟩ dX8_laySeats_1 (fun H locs hP hD hS => ?_)
  refine lv_iconst (v := 0) hx hb dX8_laySeats_4 (by decide) ?_
  refine lv_istore_n (lv' := [(2, .int 0), (0, .ref q0), (1, .int a1)]) hx hb dX8_laySeats_5 rfl hl (by decide) rfl (fun ls hl => ?_)
  refine lv_iconst (v := 0) hx hb dX8_laySeats_6 (by decide) ?_
  refine lv_istore_n (lv' := [(3, .int 0), (2, .int 0), (0, .ref q0), (1, .int a1)]) hx hb dX8_laySeats_7 rfl hl (by decide) rfl (fun ls hl => ?_)
  have LOOP_8 : ∀ (n_8 k8 : Nat) (x8_0 : Int32) (x8_1 : Nat → Int32) (H : Heap) (locs : List Loc) (ls : Array Slot), k8 ≤ uP → uP - k8 < n_8 → (B_X8_laySeats_8 uP a1 n1 0 ((B_X8_begin_2 pg tr 15)) k8) = (x8_0, x8_1) → va_P D vwCl [(q0, .inr (8, [.int th, .ref y1, .int (nI uT), .int (nI up), .int (nI uP), .ref y2, .int (nI uR), .ref y3, .int (nI vP), .ref y4, .ref y5, .int (nI vR), .ref y6, .ref y7, .ref y8, .ref y9, .int (nI ua), .ref y10, .ref y11, .int (nI us), .ref y12, .ref y13, .long sd, .int z1, .int z2, .int z3, .int z4, .int z5, .int z6, .int z7, .ref y14])), (y7, .inl (cI, 15, .inl pg)), (y8, .inl (cI, 15, .inl x8_1))] H → va_D A [(q0, .inr (8, [.int th, .ref y1, .int (nI uT), .int (nI up), .int (nI uP), .ref y2, .int (nI uR), .ref y3, .int (nI vP), .ref y4, .ref y5, .int (nI vR), .ref y6, .ref y7, .ref y8, .ref y9, .int (nI ua), .ref y10, .ref y11, .int (nI us), .ref y12, .ref y13, .long sd, .int z1, .int z2, .int z3, .int z4, .int z5, .int z6, .int z7, .ref y14])), (y7, .inl (cI, 15, .inl pg)), (y8, .inl (cI, 15, .inl x8_1))] → va_S A s.heap H locs → lv_has ls 5 [(3, .int (nI k8)), (2, .int x8_0), (0, .ref q0), (1, .int a1)] → W p l e (mR 1 23) s m args below meth c H locs 0 0 Q (F0 m 8 ls []) := by
    intro n_8
    induction n_8 with
    | zero => intro k8 x8_0 x8_1 H locs ls hk_8 hn_8 hB_8 hP hD hS hl; exact absurd hn_8 (Nat.not_lt_zero _)
    | succ n_8 ih_8 =>
      intro k8 x8_0 x8_1 H locs ls hk_8 hn_8 hB_8 hP hD hS hl
      refine lv_iload_n hx hb dX8_laySeats_8 rfl (lv_at hl 0 rfl) ?_
      refine lv_aload_n hx hb dX8_laySeats_9 rfl (lv_at hl 2 rfl) ?_
      refine r_get (C := RX8) (T := TX8) (N := 31) (v := .int (nI uP)) CF hE hP 0 rfl rfl inG8 4 (by decide) tw_3_119 rfl rfl dX8_laySeats_10 ?_
      refine lv_icmp_ge (tgt := 63) hx hb dX8_laySeats_13 (by decide) (fun c_1 => ?_) (fun c_1 => ?_)
      · have o_1 : uP ≤ k8 := (cle (rfl : nI uP = nI uP) (rfl : nI k8 = nI k8) (by omega) (by omega)).mp c_1
        have hkN : uP = k8 := by omega
        subst hkN
        obtain ⟨rfl, rfl⟩ : x8_0 = (B_X8_laySeats_8 uP a1 n1 0 ((B_X8_begin_2 pg tr 15)) uP).1 ∧ x8_1 = (B_X8_laySeats_8 uP a1 n1 0 ((B_X8_begin_2 pg tr 15)) uP).2 := by rw [hB_8]; exact ⟨rfl, rfl⟩
        refine lv_iload_n hx hb dX8_laySeats_63 rfl (lv_at hl 1 rfl) ?_
        refine lv_iconst (v := 1) hx hb dX8_laySeats_64 (by decide) ?_
        refine lv_aload_n hx hb dX8_laySeats_65 rfl (lv_at hl 2 rfl) ?_
        refine r_get (C := RX8) (T := TX8) (N := 31) (v := .int (nI uP)) CF hE hP 0 rfl rfl inG8 4 (by decide) tw_3_119 rfl rfl dX8_laySeats_66 ?_
        refine lv_ishl hx hb dX8_laySeats_69 ?_
        refine lv_iconst (v := 1) hx hb dX8_laySeats_70 (by decide) ?_
        refine lv_isub hx hb dX8_laySeats_71 ?_
        refine lv_icmp_ne (tgt := 94) hx hb dX8_laySeats_72 (by decide) (fun c_3 => ?_) (fun c_3 => ?_)
        · refine lv_iconst (v := 0) hx hb dX8_laySeats_94 (by decide) ?_
          have e_0 : (f_X8_laySeats_tr uP pg tr a1 n1) = ((B_X8_laySeats_8 uP a1 n1 0 ((B_X8_begin_2 pg tr 15)) uP).2) := by rw [f_X8_laySeats_tr, if_neg c_3]
          exact mu_reti CF hQ hr hlk rfl hP hS dX8_laySeats_95 (by rw [f_X8_laySeats, if_neg c_3]) (by rw [e_0])
        · refine lv_aload_n hx hb dX8_laySeats_75 rfl (lv_at hl 2 rfl) ?_
          refine r_get (C := RX8) (T := TX8) (N := 31) (v := .ref y8) CF hE hP 0 rfl rfl inG8 14 (by decide) tw_3_129 rfl rfl dX8_laySeats_76 ?_
          refine lv_iconst (v := 5) hx hb dX8_laySeats_79 (by decide) ?_
          refine r_iald (k := 15) (f := ((B_X8_laySeats_8 uP a1 n1 0 ((B_X8_begin_2 pg tr 15)) uP).2)) CF hE hP 2 rfl 5 (nf_c 5) (by omega) (by decide) dX8_laySeats_80 ?_
          refine lv_aload_n hx hb dX8_laySeats_81 rfl (lv_at hl 2 rfl) ?_
          refine r_get (C := RX8) (T := TX8) (N := 31) (v := .ref y7) CF hE hP 0 rfl rfl inG8 13 (by decide) tw_3_128 rfl rfl dX8_laySeats_82 ?_
          refine lv_iconst (v := 5) hx hb dX8_laySeats_85 (by decide) ?_
          refine r_iald (k := 15) (f := pg) CF hE hP 1 rfl 5 (nf_c 5) (by omega) (by decide) dX8_laySeats_86 ?_
          refine lv_icmp_ne (tgt := 94) hx hb dX8_laySeats_87 (by decide) (fun c_4 => ?_) (fun c_4 => ?_)
          · refine lv_iconst (v := 0) hx hb dX8_laySeats_94 (by decide) ?_
            have e_0 : (f_X8_laySeats_tr uP pg tr a1 n1) = ((B_X8_laySeats_8 uP a1 n1 0 ((B_X8_begin_2 pg tr 15)) uP).2) := by rw [f_X8_laySeats_tr, if_pos c_3, if_neg c_4]
            exact mu_reti CF hQ hr hlk rfl hP hS dX8_laySeats_95 (by rw [f_X8_laySeats, if_pos c_3, if_neg c_4]) (by rw [e_0])
          · refine lv_iconst (v := 1) hx hb dX8_laySeats_90 (by decide) ?_
            refine lv_goto (tgt := 95) hx hb dX8_laySeats_91 (by decide) ?_
            have e_0 : (f_X8_laySeats_tr uP pg tr a1 n1) = ((B_X8_laySeats_8 uP a1 n1 0 ((B_X8_begin_2 pg tr 15)) uP).2) := by rw [f_X8_laySeats_tr, if_pos c_3, if_pos c_4]
            exact mu_reti CF hQ hr hlk rfl hP hS dX8_laySeats_95 (by rw [f_X8_laySeats, if_pos c_3, if_pos c_4]) (by rw [e_0])
      · have o_1 : ¬ uP ≤ k8 := fun h => c_1 ((cle (rfl : nI uP = nI uP) (rfl : nI k8 = nI k8) (by omega) (by omega)).mpr h)
        refine lv_iload_n hx hb dX8_laySeats_16 rfl (lv_at hl 3 rfl) ?_
        refine lv_aload_n hx hb dX8_laySeats_17 rfl (lv_at hl 2 rfl) ?_
        refine r_get (C := RX8) (T := TX8) (N := 31) (v := .int (nI uP)) CF hE hP 0 rfl rfl inG8 4 (by decide) tw_3_119 rfl rfl dX8_laySeats_18 ?_
        refine lv_aload_n hx hb dX8_laySeats_21 rfl (lv_at hl 2 rfl) ?_
        refine r_get (C := RX8) (T := TX8) (N := 31) (v := .int (nI uP)) CF hE hP 0 rfl rfl inG8 4 (by decide) tw_3_119 rfl rfl dX8_laySeats_22 ?_
        refine lv_iconst (v := 1) hx hb dX8_laySeats_25 (by decide) ?_
        refine lv_isub hx hb dX8_laySeats_26 ?_
        refine lv_iload_n hx hb dX8_laySeats_27 rfl (lv_at hl 0 rfl) ?_
        refine lv_isub hx hb dX8_laySeats_28 ?_
        refine ro_S (y := yX8_power) (As := [.int (nI uP), .int (((nI uP) - 1) - (nI k8))]) (rest := [.int a1]) CF (c_X8_power l D cI cZ (nI uP) (((nI uP) - 1) - (nI k8)) ((uP - 1) - k8) (nf_sub (nf_sub (rfl : nI uP = nI uP) (nf_c 1) (by omega)) (rfl : nI k8 = nI k8) (by omega)) (by omega)) lk_X8_162 hE rfl hl.1 rfl (Nat.le_of_ble_eq_true rfl) ⟨Nat.le_of_ble_eq_true rfl, Nat.le_of_ble_eq_true rfl, rfl, rfl⟩ ⟨Nat.zero_le _, Nat.zero_le _⟩ dX8_laySeats_29 ?_
        have hpw : 0 < uP ^ ((uP - 1) - k8) ∧ uP ^ ((uP - 1) - k8) ≤ 3125 := ⟨Nat.pow_pos (by omega), pow_le _ (by omega) _ (by omega)⟩
        have hpw1 := hpw.1
        have hpw2 := hpw.2
        have hdv : n1 / uP ^ ((uP - 1) - k8) ≤ n1 := Nat.div_le_self _ _
        have hmd : n1 / uP ^ ((uP - 1) - k8) % uP < uP := Nat.mod_lt _ (by omega)
        refine lv_idiv hx hb dX8_laySeats_32 (fun h => absurd ((ceq (pow_nf uP ((uP - 1) - k8)) (nf_c 0) (by omega) (by omega)).mp h) (by omega)) ?_
        refine lv_aload_n hx hb dX8_laySeats_33 rfl (lv_at hl 2 rfl) ?_
        refine r_get (C := RX8) (T := TX8) (N := 31) (v := .int (nI uP)) CF hE hP 0 rfl rfl inG8 4 (by decide) tw_3_119 rfl rfl dX8_laySeats_34 ?_
        refine lv_irem hx hb dX8_laySeats_37 (fun h => absurd ((ceq (rfl : nI uP = nI uP) (nf_c 0) (by omega) (by omega)).mp h) (by omega)) ?_
        refine lv_as (z := (h_X8_laySeats_38 uP a1 k8)) rfl ?_
        have nm_2 : (h_X8_laySeats_38 uP a1 k8) = nI ((n1 / (uP ^ ((uP - 1) - k8))) % uP) := (nf_rem (nf_div h_a1 (pow_nf uP ((uP - 1) - k8)) (by omega) (by omega) (by omega)) (rfl : nI uP = nI uP) (by omega) (by omega) (by omega))
        refine lv_istore (lv' := [(4, .int (h_X8_laySeats_38 uP a1 k8)), (3, .int (nI k8)), (2, .int x8_0), (0, .ref q0), (1, .int a1)]) hx hb dX8_laySeats_38 hl (by decide) rfl (fun ls hl => ?_)
        refine lv_iload_n hx hb dX8_laySeats_40 rfl (lv_at hl 2 rfl) ?_
        refine lv_iconst (v := 1) hx hb dX8_laySeats_41 (by decide) ?_
        refine lv_iload hx hb dX8_laySeats_42 (lv_at hl 0 rfl) ?_
        refine lv_ishl hx hb dX8_laySeats_44 ?_
        refine lv_ior hx hb dX8_laySeats_45 ?_
        refine lv_istore_n (lv' := [(2, .int (x8_0 ||| ((1 : Int32) <<< (((h_X8_laySeats_38 uP a1 k8) : Int32) &&& 31)))), (4, .int (h_X8_laySeats_38 uP a1 k8)), (3, .int (nI k8)), (0, .ref q0), (1, .int a1)]) hx hb dX8_laySeats_46 rfl hl (by decide) rfl (fun ls hl => ?_)
        refine lv_aload_n hx hb dX8_laySeats_47 rfl (lv_at hl 3 rfl) ?_
        refine r_get (C := RX8) (T := TX8) (N := 31) (v := .ref y8) CF hE hP 0 rfl rfl inG8 14 (by decide) tw_3_129 rfl rfl dX8_laySeats_48 ?_
        refine lv_iconst (v := 5) hx hb dX8_laySeats_51 (by decide) ?_
        refine lv_iload hx hb dX8_laySeats_52 (lv_at hl 1 rfl) ?_
        refine lv_iadd hx hb dX8_laySeats_54 ?_
        refine lv_iload_n hx hb dX8_laySeats_55 rfl (lv_at hl 2 rfl) ?_
        refine r_iast (k := 15) (f := x8_1) (ws' := [(q0, .inr (8, [.int th, .ref y1, .int (nI uT), .int (nI up), .int (nI uP), .ref y2, .int (nI uR), .ref y3, .int (nI vP), .ref y4, .ref y5, .int (nI vR), .ref y6, .ref y7, .ref y8, .ref y9, .int (nI ua), .ref y10, .ref y11, .int (nI us), .ref y12, .ref y13, .long sd, .int z1, .int z2, .int z3, .int z4, .int z5, .int z6, .int z7, .ref y14])), (y7, .inl (cI, 15, .inl pg)), (y8, .inl (cI, 15, .inl (upd x8_1 (5 + ((n1 / (uP ^ ((uP - 1) - k8))) % uP)) (nI k8))))]) CF hE hP hD hS 2 rfl (5 + ((n1 / (uP ^ ((uP - 1) - k8))) % uP)) (nf_add (nf_c 5) nm_2) (by omega) (by decide) dX8_laySeats_56 rfl (fun H locs hP hD hS => ?_)
        refine lv_iinc (v := (nI (k8 + 1))) (lv' := [(3, .int (nI (k8 + 1))), (2, .int (x8_0 ||| ((1 : Int32) <<< (((h_X8_laySeats_38 uP a1 k8) : Int32) &&& 31)))), (4, .int (h_X8_laySeats_38 uP a1 k8)), (0, .ref q0), (1, .int a1)]) hx hb dX8_laySeats_57 hl (k := 2) rfl (nf_inc 1 (rfl : nI k8 = nI k8)) (by decide) rfl (fun ls hl => ?_)
        refine lv_goto (tgt := 8) hx hb dX8_laySeats_60 (by decide) ?_
        have hB2 : B_X8_laySeats_8 uP a1 n1 0 ((B_X8_begin_2 pg tr 15)) (k8 + 1) = ((x8_0 ||| ((1 : Int32) <<< (((h_X8_laySeats_38 uP a1 k8) : Int32) &&& 31))), (upd x8_1 (5 + ((n1 / (uP ^ ((uP - 1) - k8))) % uP)) (nI k8))) := by
          rw [B_X8_laySeats_8, hB_8]
          show S_X8_laySeats_8 uP a1 n1 k8 x8_0 x8_1 = _
          rw [S_X8_laySeats_8]
        exact ih_8 (k8 + 1) (x8_0 ||| ((1 : Int32) <<< (((h_X8_laySeats_38 uP a1 k8) : Int32) &&& 31))) (upd x8_1 (5 + ((n1 / (uP ^ ((uP - 1) - k8))) % uP)) (nI k8)) _ _ _ (by omega) (by omega) hB2 hP hD hS (lv_sub hl [0, 1, 3, 4] rfl)
  have e_k : 0 = nI (0) := (nf_c 0).trans (congrArg nI (by omega))
  rw [e_k] at hl
  exact LOOP_8 (uP - 0 + 1) 0 0 ((B_X8_begin_2 pg tr 15)) _ _ _ (Nat.zero_le _) (by omega) rfl hP hD hS (lv_sub hl [0, 1, 2, 3] rfl)
theorem lk_X8_171 : mLkV RX8 171 yX8_laySeats cX8_laySeats 5 (some .boolean) 1 := ⟨⟨tw_4_116, tw_1_10, tw_4_119, ⟨by decide +kernel, by decide +kernel, by decide +kernel⟩⟩, tw_4_118, tp_2_15⟩
def S_X8_findSeats_105 (uP : Nat) (pg : Nat → Int32) (x15_0 : Nat → Int32) (k15 : Nat) (k105 : Nat) (x105_0 : Int32) : (Int32) :=
  (((10 * x105_0) + ((B_X8_sitter_6 (f_X8_laySeats_tr uP pg x15_0 (nI k15) k15) (nI k105) (-9) uP))) + 1)
def B_X8_findSeats_105 (uP : Nat) (pg : Nat → Int32) (x15_0 : Nat → Int32) (k15 : Nat) (i0 : Int32) : Nat → (Int32)
  | 0 => i0
  | k + 1 => S_X8_findSeats_105 uP pg x15_0 k15 k (B_X8_findSeats_105 uP pg x15_0 k15 i0 k)
def S_X8_findSeats_15 (uP : Nat) (uR : Nat) (uk : Nat → Int32) (ur : Nat → Int32) (pg : Nat → Int32) (a1 : Int32) (n1 : Nat) (a2 : Int32) (a3 : Int32) (a4 : Int32) (k15 : Nat) (x15_0 : Nat → Int32) (x15_1 : Int32) (x15_2 : Int32) : (Nat → Int32) × (Int32) × (Int32) :=
  (if (f_X8_laySeats uP pg x15_0 (nI k15) k15) = 0 then ((f_X8_laySeats_tr uP pg x15_0 (nI k15) k15), x15_1, x15_2) else (if x15_1 = (-9) then ((f_X8_laySeats_tr uP pg x15_0 (nI k15) k15), ((B_X8_many_4 ((B_X8_knowersOf_6 uP uR uk ur (f_X8_laySeats_tr uP pg x15_0 (nI k15) k15) a1 n1 a2 a3 0 uP)) 0 6)), ((B_X8_findSeats_105 uP pg x15_0 k15 0 uP))) else (if a4 = 0 then (if x15_1 ≤ ((B_X8_many_4 ((B_X8_knowersOf_6 uP uR uk ur (f_X8_laySeats_tr uP pg x15_0 (nI k15) k15) a1 n1 a2 a3 0 uP)) 0 6)) then ((f_X8_laySeats_tr uP pg x15_0 (nI k15) k15), x15_1, x15_2) else ((f_X8_laySeats_tr uP pg x15_0 (nI k15) k15), ((B_X8_many_4 ((B_X8_knowersOf_6 uP uR uk ur (f_X8_laySeats_tr uP pg x15_0 (nI k15) k15) a1 n1 a2 a3 0 uP)) 0 6)), ((B_X8_findSeats_105 uP pg x15_0 k15 0 uP)))) else (if ((B_X8_many_4 ((B_X8_knowersOf_6 uP uR uk ur (f_X8_laySeats_tr uP pg x15_0 (nI k15) k15) a1 n1 a2 a3 0 uP)) 0 6)) ≤ x15_1 then ((f_X8_laySeats_tr uP pg x15_0 (nI k15) k15), x15_1, x15_2) else ((f_X8_laySeats_tr uP pg x15_0 (nI k15) k15), ((B_X8_many_4 ((B_X8_knowersOf_6 uP uR uk ur (f_X8_laySeats_tr uP pg x15_0 (nI k15) k15) a1 n1 a2 a3 0 uP)) 0 6)), ((B_X8_findSeats_105 uP pg x15_0 k15 0 uP)))))))
def B_X8_findSeats_15 (uP : Nat) (uR : Nat) (uk : Nat → Int32) (ur : Nat → Int32) (pg : Nat → Int32) (a1 : Int32) (n1 : Nat) (a2 : Int32) (a3 : Int32) (a4 : Int32) (i0 : Nat → Int32) (i1 : Int32) (i2 : Int32) : Nat → (Nat → Int32) × (Int32) × (Int32)
  | 0 => (i0, i1, i2)
  | k + 1 => S_X8_findSeats_15 uP uR uk ur pg a1 n1 a2 a3 a4 k (B_X8_findSeats_15 uP uR uk ur pg a1 n1 a2 a3 a4 i0 i1 i2 k).1 (B_X8_findSeats_15 uP uR uk ur pg a1 n1 a2 a3 a4 i0 i1 i2 k).2.1 (B_X8_findSeats_15 uP uR uk ur pg a1 n1 a2 a3 a4 i0 i1 i2 k).2.2
set_option maxRecDepth 100000 in
set_option maxHeartbeats 4000000 in
theorem c_X8_findSeats (l : Launch) (D : va_G) (cI cZ : ClassId) (q0 y1 y2 y3 y4 y5 y6 y7 y8 y9 y10 y11 y12 y13 y14 : Nat) (th : Int32) (uT : Nat) (up : Nat) (uP : Nat) (uR : Nat) (vP : Nat) (vR : Nat) (ua : Nat) (us : Nat) (sd : Int64) (z1 : Int32) (z2 : Int32) (z3 : Int32) (z4 : Int32) (z5 : Int32) (z6 : Int32) (z7 : Int32) (uk : Nat → Int32) (ur : Nat → Int32) (pg : Nat → Int32) (tr : Nat → Int32) (a1 : Int32) (n1 : Nat) (a2 : Int32) (a3 : Int32) (a4 : Int32) (h_a1 : a1 = nI n1) (hu5 : uP ≤ 5) (hur : uR ≤ 4) (hu1 : 1 ≤ uP) (hn15 : n1 < 5) : MU l D cI cZ yX8_findSeats cX8_findSeats 8 none (mR 3 75) [.ref q0, .int a1, .int a2, .int a3, .int a4] [(q0, .inr (8, [.int th, .ref y1, .int (nI uT), .int (nI up), .int (nI uP), .ref y2, .int (nI uR), .ref y3, .int (nI vP), .ref y4, .ref y5, .int (nI vR), .ref y6, .ref y7, .ref y8, .ref y9, .int (nI ua), .ref y10, .ref y11, .int (nI us), .ref y12, .ref y13, .long sd, .int z1, .int z2, .int z3, .int z4, .int z5, .int z6, .int z7, .ref y14])), (y2, .inl (cI, 5, .inl uk)), (y3, .inl (cI, 12, .inl ur)), (y7, .inl (cI, 15, .inl pg)), (y8, .inl (cI, 15, .inl tr))] [(q0, .inr (8, [.int th, .ref y1, .int (nI uT), .int (nI up), .int (nI uP), .ref y2, .int (nI uR), .ref y3, .int (nI vP), .ref y4, .ref y5, .int (nI vR), .ref y6, .ref y7, .ref y8, .ref y9, .int (nI ua), .ref y10, .ref y11, .int (nI us), .ref y12, .ref y13, .long sd, .int ((B_X8_findSeats_15 uP uR uk ur pg a1 n1 a2 a3 a4 tr (-9) (-9) (uP ^ uP)).2.1), .int ((B_X8_findSeats_15 uP uR uk ur pg a1 n1 a2 a3 a4 tr (-9) (-9) (uP ^ uP)).2.2), .int z3, .int z4, .int z5, .int z6, .int z7, .ref y14])), (y2, .inl (cI, 5, .inl uk)), (y3, .inl (cI, 12, .inl ur)), (y7, .inl (cI, 15, .inl pg)), (y8, .inl (cI, 15, .inl ((B_X8_findSeats_15 uP uR uk ur pg a1 n1 a2 a3 a4 tr (-9) (-9) (uP ^ uP)).1)))] none := by
  refine MU.of (by decide +kernel) (Nat.le_of_ble_eq_true rfl) ?_
  intro p e s m args below meth c ls Q A CF hr hlk hP hE hD hS hQ hl
  have hx := CF.1
  have hb := CF.2.1
  have hl : lv_has ls 8 [(0, .ref q0), (1, .int a1), (2, .int a2), (3, .int a3), (4, .int a4)] := hl
  refine lv_aload_n hx hb dX8_findSeats_0 rfl (lv_at hl 0 rfl) ?_
  refine lv_bipush (v := (-9)) hx hb dX8_findSeats_1 (by decide) ?_
  refine r_put (C := RX8) (T := TX8) (N := 31) (ws' := [(q0, .inr (8, [.int th, .ref y1, .int (nI uT), .int (nI up), .int (nI uP), .ref y2, .int (nI uR), .ref y3, .int (nI vP), .ref y4, .ref y5, .int (nI vR), .ref y6, .ref y7, .ref y8, .ref y9, .int (nI ua), .ref y10, .ref y11, .int (nI us), .ref y12, .ref y13, .long sd, .int (-9), .int z2, .int z3, .int z4, .int z5, .int z6, .int z7, .ref y14])), (y2, .inl (cI, 5, .inl uk)), (y3, .inl (cI, 12, .inl ur)), (y7, .inl (cI, 15, .inl pg)), (y8, .inl (cI, 15, .inl tr))]) CF hE hP hD hS 0 rfl rfl inG8 tyX8 tyX8_ok nmX8 23 (by decide) tw_3_138 rfl rfl rfl rfl (Nat.le_of_ble_eq_true rfl) dX8_findSeats_3 rfl (fun H locs hP hD hS => ?_)
  refine lv_aload_n hx hb dX8_findSeats_6 rfl (lv_at hl 0 rfl) ?_
  refine lv_bipush (v := (-9)) hx hb dX8_findSeats_7 (by decide) ?_
  refine r_put (C := RX8) (T := TX8) (N := 31) (ws' := [(q0, .inr (8, [.int th, .ref y1, .int (nI uT), .int (nI up), .int (nI uP), .ref y2, .int (nI uR), .ref y3, .int (nI vP), .ref y4, .ref y5, .int (nI vR), .ref y6, .ref y7, .ref y8, .ref y9, .int (nI ua), .ref y10, .ref y11, .int (nI us), .ref y12, .ref y13, .long sd, .int (-9), .int (-9), .int z3, .int z4, .int z5, .int z6, .int z7, .ref y14])), (y2, .inl (cI, 5, .inl uk)), (y3, .inl (cI, 12, .inl ur)), (y7, .inl (cI, 15, .inl pg)), (y8, .inl (cI, 15, .inl tr))]) CF hE hP hD hS 0 rfl rfl inG8 tyX8 tyX8_ok nmX8 24 (by decide) tw_3_139 rfl rfl rfl rfl (Nat.le_of_ble_eq_true rfl) dX8_findSeats_9 rfl (fun H locs hP hD hS => ?_)
  refine lv_iconst (v := 0) hx hb dX8_findSeats_12 (by decide) ?_
  refine lv_istore (lv' := [(5, .int 0), (0, .ref q0), (1, .int a1), (2, .int a2), (3, .int a3), (4, .int a4)]) hx hb dX8_findSeats_13 hl (by decide) rfl (fun ls hl => ?_)
  have LOOP_15 : ∀ (n_15 k15 : Nat) (x15_0 : Nat → Int32) (x15_1 : Int32) (x15_2 : Int32) (H : Heap) (locs : List Loc) (ls : Array Slot), k15 ≤ uP ^ uP → uP ^ uP - k15 < n_15 → (B_X8_findSeats_15 uP uR uk ur pg a1 n1 a2 a3 a4 tr (-9) (-9) k15) = (x15_0, x15_1, x15_2) → va_P D vwCl [(q0, .inr (8, [.int th, .ref y1, .int (nI uT), .int (nI up), .int (nI uP), .ref y2, .int (nI uR), .ref y3, .int (nI vP), .ref y4, .ref y5, .int (nI vR), .ref y6, .ref y7, .ref y8, .ref y9, .int (nI ua), .ref y10, .ref y11, .int (nI us), .ref y12, .ref y13, .long sd, .int x15_1, .int x15_2, .int z3, .int z4, .int z5, .int z6, .int z7, .ref y14])), (y2, .inl (cI, 5, .inl uk)), (y3, .inl (cI, 12, .inl ur)), (y7, .inl (cI, 15, .inl pg)), (y8, .inl (cI, 15, .inl x15_0))] H → va_D A [(q0, .inr (8, [.int th, .ref y1, .int (nI uT), .int (nI up), .int (nI uP), .ref y2, .int (nI uR), .ref y3, .int (nI vP), .ref y4, .ref y5, .int (nI vR), .ref y6, .ref y7, .ref y8, .ref y9, .int (nI ua), .ref y10, .ref y11, .int (nI us), .ref y12, .ref y13, .long sd, .int x15_1, .int x15_2, .int z3, .int z4, .int z5, .int z6, .int z7, .ref y14])), (y2, .inl (cI, 5, .inl uk)), (y3, .inl (cI, 12, .inl ur)), (y7, .inl (cI, 15, .inl pg)), (y8, .inl (cI, 15, .inl x15_0))] → va_S A s.heap H locs → lv_has ls 8 [(5, .int (nI k15)), (0, .ref q0), (1, .int a1), (2, .int a2), (3, .int a3), (4, .int a4)] → W p l e (mR 3 75) s m args below meth c H locs 0 0 Q (F0 m 15 ls []) := by
    intro n_15
    induction n_15 with
    | zero => intro k15 x15_0 x15_1 x15_2 H locs ls hk_15 hn_15 hB_15 hP hD hS hl; exact absurd hn_15 (Nat.not_lt_zero _)
    | succ n_15 ih_15 =>
      intro k15 x15_0 x15_1 x15_2 H locs ls hk_15 hn_15 hB_15 hP hD hS hl
      refine lv_iload hx hb dX8_findSeats_15 (lv_at hl 0 rfl) ?_
      refine lv_aload_n hx hb dX8_findSeats_17 rfl (lv_at hl 1 rfl) ?_
      refine r_get (C := RX8) (T := TX8) (N := 31) (v := .int (nI uP)) CF hE hP 0 rfl rfl inG8 4 (by decide) tw_3_119 rfl rfl dX8_findSeats_18 ?_
      refine lv_aload_n hx hb dX8_findSeats_21 rfl (lv_at hl 1 rfl) ?_
      refine r_get (C := RX8) (T := TX8) (N := 31) (v := .int (nI uP)) CF hE hP 0 rfl rfl inG8 4 (by decide) tw_3_119 rfl rfl dX8_findSeats_22 ?_
      refine ro_S (y := yX8_power) (As := [.int (nI uP), .int (nI uP)]) (rest := [.int (nI k15)]) CF (c_X8_power l D cI cZ (nI uP) (nI uP) uP (rfl : nI uP = nI uP) (by omega)) lk_X8_162 hE rfl hl.1 rfl (Nat.le_of_ble_eq_true rfl) ⟨Nat.le_of_ble_eq_true rfl, Nat.le_of_ble_eq_true rfl, rfl, rfl⟩ ⟨Nat.zero_le _, Nat.zero_le _⟩ dX8_findSeats_25 ?_
      have hpw : 0 < uP ^ uP ∧ uP ^ uP ≤ 3125 := ⟨Nat.pow_pos (by omega), pow_le _ (by omega) _ (by omega)⟩
      have hpw1 := hpw.1
      have hpw2 := hpw.2
      refine lv_icmp_ge (tgt := 150) hx hb dX8_findSeats_28 (by decide) (fun c_1 => ?_) (fun c_1 => ?_)
      · have o_1 : (uP ^ uP) ≤ k15 := (cle (pow_nf uP uP) (rfl : nI k15 = nI k15) (by omega) (by omega)).mp c_1
        have hkN : (uP ^ uP) = k15 := by omega
        subst hkN
        obtain ⟨rfl, rfl, rfl⟩ : x15_0 = (B_X8_findSeats_15 uP uR uk ur pg a1 n1 a2 a3 a4 tr (-9) (-9) (uP ^ uP)).1 ∧ x15_1 = (B_X8_findSeats_15 uP uR uk ur pg a1 n1 a2 a3 a4 tr (-9) (-9) (uP ^ uP)).2.1 ∧ x15_2 = (B_X8_findSeats_15 uP uR uk ur pg a1 n1 a2 a3 a4 tr (-9) (-9) (uP ^ uP)).2.2 := by rw [hB_15]; exact ⟨rfl, rfl, rfl⟩
        exact mu_retv CF hQ hr hlk hP hS dX8_findSeats_150 rfl
      · have o_1 : ¬ (uP ^ uP) ≤ k15 := fun h => c_1 ((cle (pow_nf uP uP) (rfl : nI k15 = nI k15) (by omega) (by omega)).mpr h)
        refine lv_aload_n hx hb dX8_findSeats_31 rfl (lv_at hl 1 rfl) ?_
        refine lv_iload hx hb dX8_findSeats_32 (lv_at hl 0 rfl) ?_
        refine mu_V (y := yX8_laySeats) (As := [.int (nI k15)]) (rest := []) (q0 := 0) (ws' := [(q0, .inr (8, [.int th, .ref y1, .int (nI uT), .int (nI up), .int (nI uP), .ref y2, .int (nI uR), .ref y3, .int (nI vP), .ref y4, .ref y5, .int (nI vR), .ref y6, .ref y7, .ref y8, .ref y9, .int (nI ua), .ref y10, .ref y11, .int (nI us), .ref y12, .ref y13, .long sd, .int x15_1, .int x15_2, .int z3, .int z4, .int z5, .int z6, .int z7, .ref y14])), (y2, .inl (cI, 5, .inl uk)), (y3, .inl (cI, 12, .inl ur)), (y7, .inl (cI, 15, .inl pg)), (y8, .inl (cI, 15, .inl (f_X8_laySeats_tr uP pg x15_0 (nI k15) k15)))]) (ad := [q0, y2, y3, y7, y8]) CF (c_X8_laySeats l D cI cZ q0 y1 y2 y3 y4 y5 y6 y7 y8 y9 y10 y11 y12 y13 y14 th uT up uP uR vP vR ua us sd x15_1 x15_2 z3 z4 z5 z6 z7 pg x15_0 (nI k15) k15 (rfl : nI k15 = nI k15) (by omega) (by omega) (by omega)) lk_X8_171 hP hE hD hS [0, 3, 4] rfl (by decide) (Nat.le_of_ble_eq_true rfl) rfl rfl rfl rfl rfl rfl hl.1 rfl (Nat.le_of_ble_eq_true rfl) ⟨Nat.le_of_ble_eq_true rfl, Nat.le_of_ble_eq_true rfl, rfl, rfl⟩ ⟨Nat.zero_le _, Nat.zero_le _⟩ dX8_findSeats_34 (fun H locs hP hD hS => ?_)
        refine lv_if_eq (tgt := 144) hx hb dX8_findSeats_37 (by decide) (fun c_2 => ?_) (fun c_2 => ?_)
        · refine lv_iinc (v := (nI (k15 + 1))) (lv' := [(5, .int (nI (k15 + 1))), (0, .ref q0), (1, .int a1), (2, .int a2), (3, .int a3), (4, .int a4)]) hx hb dX8_findSeats_144 hl (k := 0) rfl (nf_inc 1 (rfl : nI k15 = nI k15)) (by decide) rfl (fun ls hl => ?_)
          refine lv_goto (tgt := 15) hx hb dX8_findSeats_147 (by decide) ?_
          have hB2 : B_X8_findSeats_15 uP uR uk ur pg a1 n1 a2 a3 a4 tr (-9) (-9) (k15 + 1) = ((f_X8_laySeats_tr uP pg x15_0 (nI k15) k15), x15_1, x15_2) := by
            rw [B_X8_findSeats_15, hB_15]
            show S_X8_findSeats_15 uP uR uk ur pg a1 n1 a2 a3 a4 k15 x15_0 x15_1 x15_2 = _
            rw [S_X8_findSeats_15, if_pos c_2]
          exact ih_15 (k15 + 1) (f_X8_laySeats_tr uP pg x15_0 (nI k15) k15) x15_1 x15_2 _ _ _ (by omega) (by omega) hB2 hP hD hS (lv_sub hl [0, 1, 2, 3, 4, 5] rfl)
        · refine lv_aload_n hx hb dX8_findSeats_40 rfl (lv_at hl 1 rfl) ?_
          refine lv_aload_n hx hb dX8_findSeats_41 rfl (lv_at hl 1 rfl) ?_
          refine r_get (C := RX8) (T := TX8) (N := 31) (v := .ref y8) CF hE hP 0 rfl rfl inG8 14 (by decide) tw_3_129 rfl rfl dX8_findSeats_42 ?_
          refine lv_iload_n hx hb dX8_findSeats_45 rfl (lv_at hl 2 rfl) ?_
          refine lv_iload_n hx hb dX8_findSeats_46 rfl (lv_at hl 3 rfl) ?_
          refine lv_iload_n hx hb dX8_findSeats_47 rfl (lv_at hl 4 rfl) ?_
          refine ro_V (y := yX8_knowersOf) (As := [.ref y8, .int a1, .int a2, .int a3]) (rest := []) (q0 := 0) CF (c_X8_knowersOf l D cI cZ q0 y1 y2 y3 y4 y5 y6 y7 y8 y9 y10 y11 y12 y13 y14 y8 th uT up uP uR vP vR ua us sd x15_1 x15_2 z3 z4 z5 z6 z7 uk ur (f_X8_laySeats_tr uP pg x15_0 (nI k15) k15) a1 n1 a2 a3 h_a1 (by omega) (by omega) (by omega)) lk_X8_135 hP hE [0, 1, 2, 4] rfl rfl rfl rfl hl.1 rfl (Nat.le_of_ble_eq_true rfl) ⟨Nat.le_of_ble_eq_true rfl, Nat.le_of_ble_eq_true rfl, rfl, rfl⟩ ⟨Nat.zero_le _, Nat.zero_le _⟩ dX8_findSeats_48 ?_
          refine ro_S (y := yX8_many) (As := [.int ((B_X8_knowersOf_6 uP uR uk ur (f_X8_laySeats_tr uP pg x15_0 (nI k15) k15) a1 n1 a2 a3 0 uP))]) (rest := []) CF (c_X8_many l D cI cZ ((B_X8_knowersOf_6 uP uR uk ur (f_X8_laySeats_tr uP pg x15_0 (nI k15) k15) a1 n1 a2 a3 0 uP))) lk_X8_145 hE rfl hl.1 rfl (Nat.le_of_ble_eq_true rfl) ⟨Nat.le_of_ble_eq_true rfl, Nat.le_of_ble_eq_true rfl, rfl, rfl⟩ ⟨Nat.zero_le _, Nat.zero_le _⟩ dX8_findSeats_51 ?_
          refine lv_istore (lv' := [(6, .int ((B_X8_many_4 ((B_X8_knowersOf_6 uP uR uk ur (f_X8_laySeats_tr uP pg x15_0 (nI k15) k15) a1 n1 a2 a3 0 uP)) 0 6))), (5, .int (nI k15)), (0, .ref q0), (1, .int a1), (2, .int a2), (3, .int a3), (4, .int a4)]) hx hb dX8_findSeats_54 hl (by decide) rfl (fun ls hl => ?_)
          refine lv_aload_n hx hb dX8_findSeats_56 rfl (lv_at hl 2 rfl) ?_
          refine r_get (C := RX8) (T := TX8) (N := 31) (v := .int x15_1) CF hE hP 0 rfl rfl inG8 23 (by decide) tw_3_138 rfl rfl dX8_findSeats_57 ?_
          refine lv_bipush (v := (-9)) hx hb dX8_findSeats_60 (by decide) ?_
          refine lv_icmp_eq (tgt := 91) hx hb dX8_findSeats_62 (by decide) (fun c_3 => ?_) (fun c_3 => ?_)
          · refine lv_aload_n hx hb dX8_findSeats_91 rfl (lv_at hl 2 rfl) ?_
            refine lv_iload hx hb dX8_findSeats_92 (lv_at hl 0 rfl) ?_
            refine r_put (C := RX8) (T := TX8) (N := 31) (ws' := [(q0, .inr (8, [.int th, .ref y1, .int (nI uT), .int (nI up), .int (nI uP), .ref y2, .int (nI uR), .ref y3, .int (nI vP), .ref y4, .ref y5, .int (nI vR), .ref y6, .ref y7, .ref y8, .ref y9, .int (nI ua), .ref y10, .ref y11, .int (nI us), .ref y12, .ref y13, .long sd, .int ((B_X8_many_4 ((B_X8_knowersOf_6 uP uR uk ur (f_X8_laySeats_tr uP pg x15_0 (nI k15) k15) a1 n1 a2 a3 0 uP)) 0 6)), .int x15_2, .int z3, .int z4, .int z5, .int z6, .int z7, .ref y14])), (y2, .inl (cI, 5, .inl uk)), (y3, .inl (cI, 12, .inl ur)), (y7, .inl (cI, 15, .inl pg)), (y8, .inl (cI, 15, .inl (f_X8_laySeats_tr uP pg x15_0 (nI k15) k15)))]) CF hE hP hD hS 0 rfl rfl inG8 tyX8 tyX8_ok nmX8 23 (by decide) tw_3_138 rfl rfl rfl rfl (Nat.le_of_ble_eq_true rfl) dX8_findSeats_94 rfl (fun H locs hP hD hS => ?_)
            refine lv_aload_n hx hb dX8_findSeats_97 rfl (lv_at hl 2 rfl) ?_
            refine lv_iconst (v := 0) hx hb dX8_findSeats_98 (by decide) ?_
            refine r_put (C := RX8) (T := TX8) (N := 31) (ws' := [(q0, .inr (8, [.int th, .ref y1, .int (nI uT), .int (nI up), .int (nI uP), .ref y2, .int (nI uR), .ref y3, .int (nI vP), .ref y4, .ref y5, .int (nI vR), .ref y6, .ref y7, .ref y8, .ref y9, .int (nI ua), .ref y10, .ref y11, .int (nI us), .ref y12, .ref y13, .long sd, .int ((B_X8_many_4 ((B_X8_knowersOf_6 uP uR uk ur (f_X8_laySeats_tr uP pg x15_0 (nI k15) k15) a1 n1 a2 a3 0 uP)) 0 6)), .int 0, .int z3, .int z4, .int z5, .int z6, .int z7, .ref y14])), (y2, .inl (cI, 5, .inl uk)), (y3, .inl (cI, 12, .inl ur)), (y7, .inl (cI, 15, .inl pg)), (y8, .inl (cI, 15, .inl (f_X8_laySeats_tr uP pg x15_0 (nI k15) k15)))]) CF hE hP hD hS 0 rfl rfl inG8 tyX8 tyX8_ok nmX8 24 (by decide) tw_3_139 rfl rfl rfl rfl (Nat.le_of_ble_eq_true rfl) dX8_findSeats_99 rfl (fun H locs hP hD hS => ?_)
            refine lv_iconst (v := 0) hx hb dX8_findSeats_102 (by decide) ?_
            refine lv_istore (lv' := [(7, .int 0), (6, .int ((B_X8_many_4 ((B_X8_knowersOf_6 uP uR uk ur (f_X8_laySeats_tr uP pg x15_0 (nI k15) k15) a1 n1 a2 a3 0 uP)) 0 6))), (5, .int (nI k15)), (0, .ref q0), (1, .int a1), (2, .int a2), (3, .int a3), (4, .int a4)]) hx hb dX8_findSeats_103 hl (by decide) rfl (fun ls hl => ?_)
            have LOOP_105 : ∀ (n_105 k105 : Nat) (x105_0 : Int32) (H : Heap) (locs : List Loc) (ls : Array Slot), k105 ≤ uP → uP - k105 < n_105 → (B_X8_findSeats_105 uP pg x15_0 k15 0 k105) = x105_0 → va_P D vwCl [(q0, .inr (8, [.int th, .ref y1, .int (nI uT), .int (nI up), .int (nI uP), .ref y2, .int (nI uR), .ref y3, .int (nI vP), .ref y4, .ref y5, .int (nI vR), .ref y6, .ref y7, .ref y8, .ref y9, .int (nI ua), .ref y10, .ref y11, .int (nI us), .ref y12, .ref y13, .long sd, .int ((B_X8_many_4 ((B_X8_knowersOf_6 uP uR uk ur (f_X8_laySeats_tr uP pg x15_0 (nI k15) k15) a1 n1 a2 a3 0 uP)) 0 6)), .int x105_0, .int z3, .int z4, .int z5, .int z6, .int z7, .ref y14])), (y2, .inl (cI, 5, .inl uk)), (y3, .inl (cI, 12, .inl ur)), (y7, .inl (cI, 15, .inl pg)), (y8, .inl (cI, 15, .inl (f_X8_laySeats_tr uP pg x15_0 (nI k15) k15)))] H → va_D A [(q0, .inr (8, [.int th, .ref y1, .int (nI uT), .int (nI up), .int (nI uP), .ref y2, .int (nI uR), .ref y3, .int (nI vP), .ref y4, .ref y5, .int (nI vR), .ref y6, .ref y7, .ref y8, .ref y9, .int (nI ua), .ref y10, .ref y11, .int (nI us), .ref y12, .ref y13, .long sd, .int ((B_X8_many_4 ((B_X8_knowersOf_6 uP uR uk ur (f_X8_laySeats_tr uP pg x15_0 (nI k15) k15) a1 n1 a2 a3 0 uP)) 0 6)), .int x105_0, .int z3, .int z4, .int z5, .int z6, .int z7, .ref y14])), (y2, .inl (cI, 5, .inl uk)), (y3, .inl (cI, 12, .inl ur)), (y7, .inl (cI, 15, .inl pg)), (y8, .inl (cI, 15, .inl (f_X8_laySeats_tr uP pg x15_0 (nI k15) k15)))] → va_S A s.heap H locs → lv_has ls 8 [(7, .int (nI k105)), (6, .int ((B_X8_many_4 ((B_X8_knowersOf_6 uP uR uk ur (f_X8_laySeats_tr uP pg x15_0 (nI k15) k15) a1 n1 a2 a3 0 uP)) 0 6))), (5, .int (nI k15)), (0, .ref q0), (1, .int a1), (2, .int a2), (3, .int a3), (4, .int a4)] → W p l e (mR 3 75) s m args below meth c H locs 0 0 Q (F0 m 105 ls []) := by
              intro n_105
              induction n_105 with
              | zero => intro k105 x105_0 H locs ls hk_105 hn_105 hB_105 hP hD hS hl; exact absurd hn_105 (Nat.not_lt_zero _)
              | succ n_105 ih_105 =>
                intro k105 x105_0 H locs ls hk_105 hn_105 hB_105 hP hD hS hl
                refine lv_iload hx hb dX8_findSeats_105 (lv_at hl 0 rfl) ?_
                refine lv_aload_n hx hb dX8_findSeats_107 rfl (lv_at hl 3 rfl) ?_
                refine r_get (C := RX8) (T := TX8) (N := 31) (v := .int (nI uP)) CF hE hP 0 rfl rfl inG8 4 (by decide) tw_3_119 rfl rfl dX8_findSeats_108 ?_
                refine lv_icmp_ge (tgt := 144) hx hb dX8_findSeats_111 (by decide) (fun c_4 => ?_) (fun c_4 => ?_)
                · have o_4 : uP ≤ k105 := (cle (rfl : nI uP = nI uP) (rfl : nI k105 = nI k105) (by omega) (by omega)).mp c_4
                  have hkN : uP = k105 := by omega
                  subst hkN
                  subst hB_105
                  refine lv_iinc (v := (nI (k15 + 1))) (lv' := [(5, .int (nI (k15 + 1))), (7, .int (nI uP)), (6, .int ((B_X8_many_4 ((B_X8_knowersOf_6 uP uR uk ur (f_X8_laySeats_tr uP pg x15_0 (nI k15) k15) a1 n1 a2 a3 0 uP)) 0 6))), (0, .ref q0), (1, .int a1), (2, .int a2), (3, .int a3), (4, .int a4)]) hx hb dX8_findSeats_144 hl (k := 2) rfl (nf_inc 1 (rfl : nI k15 = nI k15)) (by decide) rfl (fun ls hl => ?_)
                  refine lv_goto (tgt := 15) hx hb dX8_findSeats_147 (by decide) ?_
                  have hB2 : B_X8_findSeats_15 uP uR uk ur pg a1 n1 a2 a3 a4 tr (-9) (-9) (k15 + 1) = ((f_X8_laySeats_tr uP pg x15_0 (nI k15) k15), ((B_X8_many_4 ((B_X8_knowersOf_6 uP uR uk ur (f_X8_laySeats_tr uP pg x15_0 (nI k15) k15) a1 n1 a2 a3 0 uP)) 0 6)), ((B_X8_findSeats_105 uP pg x15_0 k15 0 uP))) := by
                    rw [B_X8_findSeats_15, hB_15]
                    show S_X8_findSeats_15 uP uR uk ur pg a1 n1 a2 a3 a4 k15 x15_0 x15_1 x15_2 = _
                    rw [S_X8_findSeats_15, if_neg c_2, if_pos c_3]
                  exact ih_15 (k15 + 1) (f_X8_laySeats_tr uP pg x15_0 (nI k15) k15) ((B_X8_many_4 ((B_X8_knowersOf_6 uP uR uk ur (f_X8_laySeats_tr uP pg x15_0 (nI k15) k15) a1 n1 a2 a3 0 uP)) 0 6)) ((B_X8_findSeats_105 uP pg x15_0 k15 0 uP)) _ _ _ (by omega) (by omega) hB2 hP hD hS (lv_sub hl [0, 3, 4, 5, 6, 7] rfl)
                · have o_4 : ¬ uP ≤ k105 := fun h => c_4 ((cle (rfl : nI uP = nI uP) (rfl : nI k105 = nI k105) (by omega) (by omega)).mpr h)
                  refine lv_aload_n hx hb dX8_findSeats_114 rfl (lv_at hl 3 rfl) ?_
                  refine lv_bipush (v := 10) hx hb dX8_findSeats_115 (by decide) ?_
                  refine lv_aload_n hx hb dX8_findSeats_117 rfl (lv_at hl 3 rfl) ?_
                  refine r_get (C := RX8) (T := TX8) (N := 31) (v := .int x105_0) CF hE hP 0 rfl rfl inG8 24 (by decide) tw_3_139 rfl rfl dX8_findSeats_118 ?_
                  refine lv_imul hx hb dX8_findSeats_121 ?_
                  refine lv_aload_n hx hb dX8_findSeats_122 rfl (lv_at hl 3 rfl) ?_
                  refine lv_aload_n hx hb dX8_findSeats_123 rfl (lv_at hl 3 rfl) ?_
                  refine r_get (C := RX8) (T := TX8) (N := 31) (v := .ref y8) CF hE hP 0 rfl rfl inG8 14 (by decide) tw_3_129 rfl rfl dX8_findSeats_124 ?_
                  refine lv_iload hx hb dX8_findSeats_127 (lv_at hl 0 rfl) ?_
                  refine ro_V (y := yX8_sitter) (As := [.ref y8, .int (nI k105)]) (rest := [.int (10 * x105_0), .ref q0]) (q0 := 0) CF (c_X8_sitter l D cI cZ q0 y1 y2 y3 y4 y5 y6 y7 y8 y9 y10 y11 y12 y13 y14 y8 th uT up uP uR vP vR ua us sd ((B_X8_many_4 ((B_X8_knowersOf_6 uP uR uk ur (f_X8_laySeats_tr uP pg x15_0 (nI k15) k15) a1 n1 a2 a3 0 uP)) 0 6)) x105_0 z3 z4 z5 z6 z7 (f_X8_laySeats_tr uP pg x15_0 (nI k15) k15) (nI k105) (by omega)) lk_X8_131 hP hE [0, 4] rfl rfl rfl rfl hl.1 rfl (Nat.le_of_ble_eq_true rfl) ⟨Nat.le_of_ble_eq_true rfl, Nat.le_of_ble_eq_true rfl, rfl, rfl⟩ ⟨Nat.zero_le _, Nat.zero_le _⟩ dX8_findSeats_129 ?_
                  refine lv_iadd hx hb dX8_findSeats_132 ?_
                  refine lv_iconst (v := 1) hx hb dX8_findSeats_133 (by decide) ?_
                  refine lv_iadd hx hb dX8_findSeats_134 ?_
                  refine r_put (C := RX8) (T := TX8) (N := 31) (ws' := [(q0, .inr (8, [.int th, .ref y1, .int (nI uT), .int (nI up), .int (nI uP), .ref y2, .int (nI uR), .ref y3, .int (nI vP), .ref y4, .ref y5, .int (nI vR), .ref y6, .ref y7, .ref y8, .ref y9, .int (nI ua), .ref y10, .ref y11, .int (nI us), .ref y12, .ref y13, .long sd, .int ((B_X8_many_4 ((B_X8_knowersOf_6 uP uR uk ur (f_X8_laySeats_tr uP pg x15_0 (nI k15) k15) a1 n1 a2 a3 0 uP)) 0 6)), .int (((10 * x105_0) + ((B_X8_sitter_6 (f_X8_laySeats_tr uP pg x15_0 (nI k15) k15) (nI k105) (-9) uP))) + 1), .int z3, .int z4, .int z5, .int z6, .int z7, .ref y14])), (y2, .inl (cI, 5, .inl uk)), (y3, .inl (cI, 12, .inl ur)), (y7, .inl (cI, 15, .inl pg)), (y8, .inl (cI, 15, .inl (f_X8_laySeats_tr uP pg x15_0 (nI k15) k15)))]) CF hE hP hD hS 0 rfl rfl inG8 tyX8 tyX8_ok nmX8 24 (by decide) tw_3_139 rfl rfl rfl rfl (Nat.le_of_ble_eq_true rfl) dX8_findSeats_135 rfl (fun H locs hP hD hS => ?_)
                  refine lv_iinc (v := (nI (k105 + 1))) (lv' := [(7, .int (nI (k105 + 1))), (6, .int ((B_X8_many_4 ((B_X8_knowersOf_6 uP uR uk ur (f_X8_laySeats_tr uP pg x15_0 (nI k15) k15) a1 n1 a2 a3 0 uP)) 0 6))), (5, .int (nI k15)), (0, .ref q0), (1, .int a1), (2, .int a2), (3, .int a3), (4, .int a4)]) hx hb dX8_findSeats_138 hl (k := 0) rfl (nf_inc 1 (rfl : nI k105 = nI k105)) (by decide) rfl (fun ls hl => ?_)
                  refine lv_goto (tgt := 105) hx hb dX8_findSeats_141 (by decide) ?_
                  have hB2 : B_X8_findSeats_105 uP pg x15_0 k15 0 (k105 + 1) = (((10 * x105_0) + ((B_X8_sitter_6 (f_X8_laySeats_tr uP pg x15_0 (nI k15) k15) (nI k105) (-9) uP))) + 1) := by
                    rw [B_X8_findSeats_105, hB_105]
                    rw [S_X8_findSeats_105]
                  exact ih_105 (k105 + 1) (((10 * x105_0) + ((B_X8_sitter_6 (f_X8_laySeats_tr uP pg x15_0 (nI k15) k15) (nI k105) (-9) uP))) + 1) _ _ _ (by omega) (by omega) hB2 hP hD hS (lv_sub hl [0, 1, 2, 3, 4, 5, 6, 7] rfl)
            have e_k : 0 = nI (0) := (nf_c 0).trans (congrArg nI (by omega))
            rw [e_k] at hl
            exact LOOP_105 (uP - 0 + 1) 0 0 _ _ _ (Nat.zero_le _) (by omega) rfl hP hD hS (lv_sub hl [0, 1, 2, 3, 4, 5, 6, 7] rfl)
          · refine lv_iload hx hb dX8_findSeats_65 (lv_at hl 6 rfl) ?_
            refine lv_if_eq (tgt := 82) hx hb dX8_findSeats_67 (by decide) (fun c_5 => ?_) (fun c_5 => ?_)
            · refine lv_iload hx hb dX8_findSeats_82 (lv_at hl 0 rfl) ?_
              refine lv_aload_n hx hb dX8_findSeats_84 rfl (lv_at hl 2 rfl) ?_
              refine r_get (C := RX8) (T := TX8) (N := 31) (v := .int x15_1) CF hE hP 0 rfl rfl inG8 23 (by decide) tw_3_138 rfl rfl dX8_findSeats_85 ?_
              refine lv_icmp_ge (tgt := 144) hx hb dX8_findSeats_88 (by decide) (fun c_6 => ?_) (fun c_6 => ?_)
              · refine lv_iinc (v := (nI (k15 + 1))) (lv' := [(5, .int (nI (k15 + 1))), (6, .int ((B_X8_many_4 ((B_X8_knowersOf_6 uP uR uk ur (f_X8_laySeats_tr uP pg x15_0 (nI k15) k15) a1 n1 a2 a3 0 uP)) 0 6))), (0, .ref q0), (1, .int a1), (2, .int a2), (3, .int a3), (4, .int a4)]) hx hb dX8_findSeats_144 hl (k := 1) rfl (nf_inc 1 (rfl : nI k15 = nI k15)) (by decide) rfl (fun ls hl => ?_)
                refine lv_goto (tgt := 15) hx hb dX8_findSeats_147 (by decide) ?_
                have hB2 : B_X8_findSeats_15 uP uR uk ur pg a1 n1 a2 a3 a4 tr (-9) (-9) (k15 + 1) = ((f_X8_laySeats_tr uP pg x15_0 (nI k15) k15), x15_1, x15_2) := by
                  rw [B_X8_findSeats_15, hB_15]
                  show S_X8_findSeats_15 uP uR uk ur pg a1 n1 a2 a3 a4 k15 x15_0 x15_1 x15_2 = _
                  rw [S_X8_findSeats_15, if_neg c_2, if_neg c_3, if_pos c_5, if_pos c_6]
                exact ih_15 (k15 + 1) (f_X8_laySeats_tr uP pg x15_0 (nI k15) k15) x15_1 x15_2 _ _ _ (by omega) (by omega) hB2 hP hD hS (lv_sub hl [0, 2, 3, 4, 5, 6] rfl)
              · refine lv_aload_n hx hb dX8_findSeats_91 rfl (lv_at hl 2 rfl) ?_
                refine lv_iload hx hb dX8_findSeats_92 (lv_at hl 0 rfl) ?_
                refine r_put (C := RX8) (T := TX8) (N := 31) (ws' := [(q0, .inr (8, [.int th, .ref y1, .int (nI uT), .int (nI up), .int (nI uP), .ref y2, .int (nI uR), .ref y3, .int (nI vP), .ref y4, .ref y5, .int (nI vR), .ref y6, .ref y7, .ref y8, .ref y9, .int (nI ua), .ref y10, .ref y11, .int (nI us), .ref y12, .ref y13, .long sd, .int ((B_X8_many_4 ((B_X8_knowersOf_6 uP uR uk ur (f_X8_laySeats_tr uP pg x15_0 (nI k15) k15) a1 n1 a2 a3 0 uP)) 0 6)), .int x15_2, .int z3, .int z4, .int z5, .int z6, .int z7, .ref y14])), (y2, .inl (cI, 5, .inl uk)), (y3, .inl (cI, 12, .inl ur)), (y7, .inl (cI, 15, .inl pg)), (y8, .inl (cI, 15, .inl (f_X8_laySeats_tr uP pg x15_0 (nI k15) k15)))]) CF hE hP hD hS 0 rfl rfl inG8 tyX8 tyX8_ok nmX8 23 (by decide) tw_3_138 rfl rfl rfl rfl (Nat.le_of_ble_eq_true rfl) dX8_findSeats_94 rfl (fun H locs hP hD hS => ?_)
                refine lv_aload_n hx hb dX8_findSeats_97 rfl (lv_at hl 2 rfl) ?_
                refine lv_iconst (v := 0) hx hb dX8_findSeats_98 (by decide) ?_
                refine r_put (C := RX8) (T := TX8) (N := 31) (ws' := [(q0, .inr (8, [.int th, .ref y1, .int (nI uT), .int (nI up), .int (nI uP), .ref y2, .int (nI uR), .ref y3, .int (nI vP), .ref y4, .ref y5, .int (nI vR), .ref y6, .ref y7, .ref y8, .ref y9, .int (nI ua), .ref y10, .ref y11, .int (nI us), .ref y12, .ref y13, .long sd, .int ((B_X8_many_4 ((B_X8_knowersOf_6 uP uR uk ur (f_X8_laySeats_tr uP pg x15_0 (nI k15) k15) a1 n1 a2 a3 0 uP)) 0 6)), .int 0, .int z3, .int z4, .int z5, .int z6, .int z7, .ref y14])), (y2, .inl (cI, 5, .inl uk)), (y3, .inl (cI, 12, .inl ur)), (y7, .inl (cI, 15, .inl pg)), (y8, .inl (cI, 15, .inl (f_X8_laySeats_tr uP pg x15_0 (nI k15) k15)))]) CF hE hP hD hS 0 rfl rfl inG8 tyX8 tyX8_ok nmX8 24 (by decide) tw_3_139 rfl rfl rfl rfl (Nat.le_of_ble_eq_true rfl) dX8_findSeats_99 rfl (fun H locs hP hD hS => ?_)
                refine lv_iconst (v := 0) hx hb dX8_findSeats_102 (by decide) ?_
                refine lv_istore (lv' := [(7, .int 0), (6, .int ((B_X8_many_4 ((B_X8_knowersOf_6 uP uR uk ur (f_X8_laySeats_tr uP pg x15_0 (nI k15) k15) a1 n1 a2 a3 0 uP)) 0 6))), (5, .int (nI k15)), (0, .ref q0), (1, .int a1), (2, .int a2), (3, .int a3), (4, .int a4)]) hx hb dX8_findSeats_103 hl (by decide) rfl (fun ls hl => ?_)
                have LOOP_105 : ∀ (n_105 k105 : Nat) (x105_0 : Int32) (H : Heap) (locs : List Loc) (ls : Array Slot), k105 ≤ uP → uP - k105 < n_105 → (B_X8_findSeats_105 uP pg x15_0 k15 0 k105) = x105_0 → va_P D vwCl [(q0, .inr (8, [.int th, .ref y1, .int (nI uT), .int (nI up), .int (nI uP), .ref y2, .int (nI uR), .ref y3, .int (nI vP), .ref y4, .ref y5, .int (nI vR), .ref y6, .ref y7, .ref y8, .ref y9, .int (nI ua), .ref y10, .ref y11, .int (nI us), .ref y12, .ref y13, .long sd, .int ((B_X8_many_4 ((B_X8_knowersOf_6 uP uR uk ur (f_X8_laySeats_tr uP pg x15_0 (nI k15) k15) a1 n1 a2 a3 0 uP)) 0 6)), .int x105_0, .int z3, .int z4, .int z5, .int z6, .int z7, .ref y14])), (y2, .inl (cI, 5, .inl uk)), (y3, .inl (cI, 12, .inl ur)), (y7, .inl (cI, 15, .inl pg)), (y8, .inl (cI, 15, .inl (f_X8_laySeats_tr uP pg x15_0 (nI k15) k15)))] H → va_D A [(q0, .inr (8, [.int th, .ref y1, .int (nI uT), .int (nI up), .int (nI uP), .ref y2, .int (nI uR), .ref y3, .int (nI vP), .ref y4, .ref y5, .int (nI vR), .ref y6, .ref y7, .ref y8, .ref y9, .int (nI ua), .ref y10, .ref y11, .int (nI us), .ref y12, .ref y13, .long sd, .int ((B_X8_many_4 ((B_X8_knowersOf_6 uP uR uk ur (f_X8_laySeats_tr uP pg x15_0 (nI k15) k15) a1 n1 a2 a3 0 uP)) 0 6)), .int x105_0, .int z3, .int z4, .int z5, .int z6, .int z7, .ref y14])), (y2, .inl (cI, 5, .inl uk)), (y3, .inl (cI, 12, .inl ur)), (y7, .inl (cI, 15, .inl pg)), (y8, .inl (cI, 15, .inl (f_X8_laySeats_tr uP pg x15_0 (nI k15) k15)))] → va_S A s.heap H locs → lv_has ls 8 [(7, .int (nI k105)), (6, .int ((B_X8_many_4 ((B_X8_knowersOf_6 uP uR uk ur (f_X8_laySeats_tr uP pg x15_0 (nI k15) k15) a1 n1 a2 a3 0 uP)) 0 6))), (5, .int (nI k15)), (0, .ref q0), (1, .int a1), (2, .int a2), (3, .int a3), (4, .int a4)] → W p l e (mR 3 75) s m args below meth c H locs 0 0 Q (F0 m 105 ls []) := by
                  intro n_105
                  induction n_105 with
                  | zero => intro k105 x105_0 H locs ls hk_105 hn_105 hB_105 hP hD hS hl; exact absurd hn_105 (Nat.not_lt_zero _)
                  | succ n_105 ih_105 =>
                    intro k105 x105_0 H locs ls hk_105 hn_105 hB_105 hP hD hS hl
                    refine lv_iload hx hb dX8_findSeats_105 (lv_at hl 0 rfl) ?_
                    refine lv_aload_n hx hb dX8_findSeats_107 rfl (lv_at hl 3 rfl) ?_
                    refine r_get (C := RX8) (T := TX8) (N := 31) (v := .int (nI uP)) CF hE hP 0 rfl rfl inG8 4 (by decide) tw_3_119 rfl rfl dX8_findSeats_108 ?_
                    refine lv_icmp_ge (tgt := 144) hx hb dX8_findSeats_111 (by decide) (fun c_7 => ?_) (fun c_7 => ?_)
                    · have o_7 : uP ≤ k105 := (cle (rfl : nI uP = nI uP) (rfl : nI k105 = nI k105) (by omega) (by omega)).mp c_7
                      have hkN : uP = k105 := by omega
                      subst hkN
                      subst hB_105
                      refine lv_iinc (v := (nI (k15 + 1))) (lv' := [(5, .int (nI (k15 + 1))), (7, .int (nI uP)), (6, .int ((B_X8_many_4 ((B_X8_knowersOf_6 uP uR uk ur (f_X8_laySeats_tr uP pg x15_0 (nI k15) k15) a1 n1 a2 a3 0 uP)) 0 6))), (0, .ref q0), (1, .int a1), (2, .int a2), (3, .int a3), (4, .int a4)]) hx hb dX8_findSeats_144 hl (k := 2) rfl (nf_inc 1 (rfl : nI k15 = nI k15)) (by decide) rfl (fun ls hl => ?_)
                      refine lv_goto (tgt := 15) hx hb dX8_findSeats_147 (by decide) ?_
                      have hB2 : B_X8_findSeats_15 uP uR uk ur pg a1 n1 a2 a3 a4 tr (-9) (-9) (k15 + 1) = ((f_X8_laySeats_tr uP pg x15_0 (nI k15) k15), ((B_X8_many_4 ((B_X8_knowersOf_6 uP uR uk ur (f_X8_laySeats_tr uP pg x15_0 (nI k15) k15) a1 n1 a2 a3 0 uP)) 0 6)), ((B_X8_findSeats_105 uP pg x15_0 k15 0 uP))) := by
                        rw [B_X8_findSeats_15, hB_15]
                        show S_X8_findSeats_15 uP uR uk ur pg a1 n1 a2 a3 a4 k15 x15_0 x15_1 x15_2 = _
                        rw [S_X8_findSeats_15, if_neg c_2, if_neg c_3, if_pos c_5, if_neg c_6]
                      exact ih_15 (k15 + 1) (f_X8_laySeats_tr uP pg x15_0 (nI k15) k15) ((B_X8_many_4 ((B_X8_knowersOf_6 uP uR uk ur (f_X8_laySeats_tr uP pg x15_0 (nI k15) k15) a1 n1 a2 a3 0 uP)) 0 6)) ((B_X8_findSeats_105 uP pg x15_0 k15 0 uP)) _ _ _ (by omega) (by omega) hB2 hP hD hS (lv_sub hl [0, 3, 4, 5, 6, 7] rfl)
                    · have o_7 : ¬ uP ≤ k105 := fun h => c_7 ((cle (rfl : nI uP = nI uP) (rfl : nI k105 = nI k105) (by omega) (by omega)).mpr h)
                      refine lv_aload_n hx hb dX8_findSeats_114 rfl (lv_at hl 3 rfl) ?_
                      refine lv_bipush (v := 10) hx hb dX8_findSeats_115 (by decide) ?_
                      refine lv_aload_n hx hb dX8_findSeats_117 rfl (lv_at hl 3 rfl) ?_
                      refine r_get (C := RX8) (T := TX8) (N := 31) (v := .int x105_0) CF hE hP 0 rfl rfl inG8 24 (by decide) tw_3_139 rfl rfl dX8_findSeats_118 ?_
                      refine lv_imul hx hb dX8_findSeats_121 ?_
                      refine lv_aload_n hx hb dX8_findSeats_122 rfl (lv_at hl 3 rfl) ?_
                      refine lv_aload_n hx hb dX8_findSeats_123 rfl (lv_at hl 3 rfl) ?_
                      refine r_get (C := RX8) (T := TX8) (N := 31) (v := .ref y8) CF hE hP 0 rfl rfl inG8 14 (by decide) tw_3_129 rfl rfl dX8_findSeats_124 ?_
                      refine lv_iload hx hb dX8_findSeats_127 (lv_at hl 0 rfl) ?_
                      refine ro_V (y := yX8_sitter) (As := [.ref y8, .int (nI k105)]) (rest := [.int (10 * x105_0), .ref q0]) (q0 := 0) CF (c_X8_sitter l D cI cZ q0 y1 y2 y3 y4 y5 y6 y7 y8 y9 y10 y11 y12 y13 y14 y8 th uT up uP uR vP vR ua us sd ((B_X8_many_4 ((B_X8_knowersOf_6 uP uR uk ur (f_X8_laySeats_tr uP pg x15_0 (nI k15) k15) a1 n1 a2 a3 0 uP)) 0 6)) x105_0 z3 z4 z5 z6 z7 (f_X8_laySeats_tr uP pg x15_0 (nI k15) k15) (nI k105) (by omega)) lk_X8_131 hP hE [0, 4] rfl rfl rfl rfl hl.1 rfl (Nat.le_of_ble_eq_true rfl) ⟨Nat.le_of_ble_eq_true rfl, Nat.le_of_ble_eq_true rfl, rfl, rfl⟩ ⟨Nat.zero_le _, Nat.zero_le _⟩ dX8_findSeats_129 ?_
                      refine lv_iadd hx hb dX8_findSeats_132 ?_
                      refine lv_iconst (v := 1) hx hb dX8_findSeats_133 (by decide) ?_
                      refine lv_iadd hx hb dX8_findSeats_134 ?_
                      refine r_put (C := RX8) (T := TX8) (N := 31) (ws' := [(q0, .inr (8, [.int th, .ref y1, .int (nI uT), .int (nI up), .int (nI uP), .ref y2, .int (nI uR), .ref y3, .int (nI vP), .ref y4, .ref y5, .int (nI vR), .ref y6, .ref y7, .ref y8, .ref y9, .int (nI ua), .ref y10, .ref y11, .int (nI us), .ref y12, .ref y13, .long sd, .int ((B_X8_many_4 ((B_X8_knowersOf_6 uP uR uk ur (f_X8_laySeats_tr uP pg x15_0 (nI k15) k15) a1 n1 a2 a3 0 uP)) 0 6)), .int (((10 * x105_0) + ((B_X8_sitter_6 (f_X8_laySeats_tr uP pg x15_0 (nI k15) k15) (nI k105) (-9) uP))) + 1), .int z3, .int z4, .int z5, .int z6, .int z7, .ref y14])), (y2, .inl (cI, 5, .inl uk)), (y3, .inl (cI, 12, .inl ur)), (y7, .inl (cI, 15, .inl pg)), (y8, .inl (cI, 15, .inl (f_X8_laySeats_tr uP pg x15_0 (nI k15) k15)))]) CF hE hP hD hS 0 rfl rfl inG8 tyX8 tyX8_ok nmX8 24 (by decide) tw_3_139 rfl rfl rfl rfl (Nat.le_of_ble_eq_true rfl) dX8_findSeats_135 rfl (fun H locs hP hD hS => ?_)
                      refine lv_iinc (v := (nI (k105 + 1))) (lv' := [(7, .int (nI (k105 + 1))), (6, .int ((B_X8_many_4 ((B_X8_knowersOf_6 uP uR uk ur (f_X8_laySeats_tr uP pg x15_0 (nI k15) k15) a1 n1 a2 a3 0 uP)) 0 6))), (5, .int (nI k15)), (0, .ref q0), (1, .int a1), (2, .int a2), (3, .int a3), (4, .int a4)]) hx hb dX8_findSeats_138 hl (k := 0) rfl (nf_inc 1 (rfl : nI k105 = nI k105)) (by decide) rfl (fun ls hl => ?_)
                      refine lv_goto (tgt := 105) hx hb dX8_findSeats_141 (by decide) ?_
                      have hB2 : B_X8_findSeats_105 uP pg x15_0 k15 0 (k105 + 1) = (((10 * x105_0) + ((B_X8_sitter_6 (f_X8_laySeats_tr uP pg x15_0 (nI k15) k15) (nI k105) (-9) uP))) + 1) := by
                        rw [B_X8_findSeats_105, hB_105]
                        rw [S_X8_findSeats_105]
                      exact ih_105 (k105 + 1) (((10 * x105_0) + ((B_X8_sitter_6 (f_X8_laySeats_tr uP pg x15_0 (nI k15) k15) (nI k105) (-9) uP))) + 1) _ _ _ (by omega) (by omega) hB2 hP hD hS (lv_sub hl [0, 1, 2, 3, 4, 5, 6, 7] rfl)
                have e_k : 0 = nI (0) := (nf_c 0).trans (congrArg nI (by omega))
                rw [e_k] at hl
                exact LOOP_105 (uP - 0 + 1) 0 0 _ _ _ (Nat.zero_le _) (by omega) rfl hP hD hS (lv_sub hl [0, 1, 2, 3, 4, 5, 6, 7] rfl)
            · refine lv_iload hx hb dX8_findSeats_70 (lv_at hl 0 rfl) ?_
              refine lv_aload_n hx hb dX8_findSeats_72 rfl (lv_at hl 2 rfl) ?_
              refine r_get (C := RX8) (T := TX8) (N := 31) (v := .int x15_1) CF hE hP 0 rfl rfl inG8 23 (by decide) tw_3_138 rfl rfl dX8_findSeats_73 ?_
              refine lv_icmp_le (tgt := 144) hx hb dX8_findSeats_76 (by decide) (fun c_8 => ?_) (fun c_8 => ?_)
              · refine lv_iinc (v := (nI (k15 + 1))) (lv' := [(5, .int (nI (k15 + 1))), (6, .int ((B_X8_many_4 ((B_X8_knowersOf_6 uP uR uk ur (f_X8_laySeats_tr uP pg x15_0 (nI k15) k15) a1 n1 a2 a3 0 uP)) 0 6))), (0, .ref q0), (1, .int a1), (2, .int a2), (3, .int a3), (4, .int a4)]) hx hb dX8_findSeats_144 hl (k := 1) rfl (nf_inc 1 (rfl : nI k15 = nI k15)) (by decide) rfl (fun ls hl => ?_)
                refine lv_goto (tgt := 15) hx hb dX8_findSeats_147 (by decide) ?_
                have hB2 : B_X8_findSeats_15 uP uR uk ur pg a1 n1 a2 a3 a4 tr (-9) (-9) (k15 + 1) = ((f_X8_laySeats_tr uP pg x15_0 (nI k15) k15), x15_1, x15_2) := by
                  rw [B_X8_findSeats_15, hB_15]
                  show S_X8_findSeats_15 uP uR uk ur pg a1 n1 a2 a3 a4 k15 x15_0 x15_1 x15_2 = _
                  rw [S_X8_findSeats_15, if_neg c_2, if_neg c_3, if_neg c_5, if_pos c_8]
                exact ih_15 (k15 + 1) (f_X8_laySeats_tr uP pg x15_0 (nI k15) k15) x15_1 x15_2 _ _ _ (by omega) (by omega) hB2 hP hD hS (lv_sub hl [0, 2, 3, 4, 5, 6] rfl)
              · refine lv_goto (tgt := 91) hx hb dX8_findSeats_79 (by decide) ?_
                refine lv_aload_n hx hb dX8_findSeats_91 rfl (lv_at hl 2 rfl) ?_
                refine lv_iload hx hb dX8_findSeats_92 (lv_at hl 0 rfl) ?_
                refine r_put (C := RX8) (T := TX8) (N := 31) (ws' := [(q0, .inr (8, [.int th, .ref y1, .int (nI uT), .int (nI up), .int (nI uP), .ref y2, .int (nI uR), .ref y3, .int (nI vP), .ref y4, .ref y5, .int (nI vR), .ref y6, .ref y7, .ref y8, .ref y9, .int (nI ua), .ref y10, .ref y11, .int (nI us), .ref y12, .ref y13, .long sd, .int ((B_X8_many_4 ((B_X8_knowersOf_6 uP uR uk ur (f_X8_laySeats_tr uP pg x15_0 (nI k15) k15) a1 n1 a2 a3 0 uP)) 0 6)), .int x15_2, .int z3, .int z4, .int z5, .int z6, .int z7, .ref y14])), (y2, .inl (cI, 5, .inl uk)), (y3, .inl (cI, 12, .inl ur)), (y7, .inl (cI, 15, .inl pg)), (y8, .inl (cI, 15, .inl (f_X8_laySeats_tr uP pg x15_0 (nI k15) k15)))]) CF hE hP hD hS 0 rfl rfl inG8 tyX8 tyX8_ok nmX8 23 (by decide) tw_3_138 rfl rfl rfl rfl (Nat.le_of_ble_eq_true rfl) dX8_findSeats_94 rfl (fun H locs hP hD hS => ?_)
                refine lv_aload_n hx hb dX8_findSeats_97 rfl (lv_at hl 2 rfl) ?_
                refine lv_iconst (v := 0) hx hb dX8_findSeats_98 (by decide) ?_
                refine r_put (C := RX8) (T := TX8) (N := 31) (ws' := [(q0, .inr (8, [.int th, .ref y1, .int (nI uT), .int (nI up), .int (nI uP), .ref y2, .int (nI uR), .ref y3, .int (nI vP), .ref y4, .ref y5, .int (nI vR), .ref y6, .ref y7, .ref y8, .ref y9, .int (nI ua), .ref y10, .ref y11, .int (nI us), .ref y12, .ref y13, .long sd, .int ((B_X8_many_4 ((B_X8_knowersOf_6 uP uR uk ur (f_X8_laySeats_tr uP pg x15_0 (nI k15) k15) a1 n1 a2 a3 0 uP)) 0 6)), .int 0, .int z3, .int z4, .int z5, .int z6, .int z7, .ref y14])), (y2, .inl (cI, 5, .inl uk)), (y3, .inl (cI, 12, .inl ur)), (y7, .inl (cI, 15, .inl pg)), (y8, .inl (cI, 15, .inl (f_X8_laySeats_tr uP pg x15_0 (nI k15) k15)))]) CF hE hP hD hS 0 rfl rfl inG8 tyX8 tyX8_ok nmX8 24 (by decide) tw_3_139 rfl rfl rfl rfl (Nat.le_of_ble_eq_true rfl) dX8_findSeats_99 rfl (fun H locs hP hD hS => ?_)
                refine lv_iconst (v := 0) hx hb dX8_findSeats_102 (by decide) ?_
                refine lv_istore (lv' := [(7, .int 0), (6, .int ((B_X8_many_4 ((B_X8_knowersOf_6 uP uR uk ur (f_X8_laySeats_tr uP pg x15_0 (nI k15) k15) a1 n1 a2 a3 0 uP)) 0 6))), (5, .int (nI k15)), (0, .ref q0), (1, .int a1), (2, .int a2), (3, .int a3), (4, .int a4)]) hx hb dX8_findSeats_103 hl (by decide) rfl (fun ls hl => ?_)
                have LOOP_105 : ∀ (n_105 k105 : Nat) (x105_0 : Int32) (H : Heap) (locs : List Loc) (ls : Array Slot), k105 ≤ uP → uP - k105 < n_105 → (B_X8_findSeats_105 uP pg x15_0 k15 0 k105) = x105_0 → va_P D vwCl [(q0, .inr (8, [.int th, .ref y1, .int (nI uT), .int (nI up), .int (nI uP), .ref y2, .int (nI uR), .ref y3, .int (nI vP), .ref y4, .ref y5, .int (nI vR), .ref y6, .ref y7, .ref y8, .ref y9, .int (nI ua), .ref y10, .ref y11, .int (nI us), .ref y12, .ref y13, .long sd, .int ((B_X8_many_4 ((B_X8_knowersOf_6 uP uR uk ur (f_X8_laySeats_tr uP pg x15_0 (nI k15) k15) a1 n1 a2 a3 0 uP)) 0 6)), .int x105_0, .int z3, .int z4, .int z5, .int z6, .int z7, .ref y14])), (y2, .inl (cI, 5, .inl uk)), (y3, .inl (cI, 12, .inl ur)), (y7, .inl (cI, 15, .inl pg)), (y8, .inl (cI, 15, .inl (f_X8_laySeats_tr uP pg x15_0 (nI k15) k15)))] H → va_D A [(q0, .inr (8, [.int th, .ref y1, .int (nI uT), .int (nI up), .int (nI uP), .ref y2, .int (nI uR), .ref y3, .int (nI vP), .ref y4, .ref y5, .int (nI vR), .ref y6, .ref y7, .ref y8, .ref y9, .int (nI ua), .ref y10, .ref y11, .int (nI us), .ref y12, .ref y13, .long sd, .int ((B_X8_many_4 ((B_X8_knowersOf_6 uP uR uk ur (f_X8_laySeats_tr uP pg x15_0 (nI k15) k15) a1 n1 a2 a3 0 uP)) 0 6)), .int x105_0, .int z3, .int z4, .int z5, .int z6, .int z7, .ref y14])), (y2, .inl (cI, 5, .inl uk)), (y3, .inl (cI, 12, .inl ur)), (y7, .inl (cI, 15, .inl pg)), (y8, .inl (cI, 15, .inl (f_X8_laySeats_tr uP pg x15_0 (nI k15) k15)))] → va_S A s.heap H locs → lv_has ls 8 [(7, .int (nI k105)), (6, .int ((B_X8_many_4 ((B_X8_knowersOf_6 uP uR uk ur (f_X8_laySeats_tr uP pg x15_0 (nI k15) k15) a1 n1 a2 a3 0 uP)) 0 6))), (5, .int (nI k15)), (0, .ref q0), (1, .int a1), (2, .int a2), (3, .int a3), (4, .int a4)] → W p l e (mR 3 75) s m args below meth c H locs 0 0 Q (F0 m 105 ls []) := by
                  intro n_105
                  induction n_105 with
                  | zero => intro k105 x105_0 H locs ls hk_105 hn_105 hB_105 hP hD hS hl; exact absurd hn_105 (Nat.not_lt_zero _)
                  | succ n_105 ih_105 =>
                    intro k105 x105_0 H locs ls hk_105 hn_105 hB_105 hP hD hS hl
                    refine lv_iload hx hb dX8_findSeats_105 (lv_at hl 0 rfl) ?_
                    refine lv_aload_n hx hb dX8_findSeats_107 rfl (lv_at hl 3 rfl) ?_
                    refine r_get (C := RX8) (T := TX8) (N := 31) (v := .int (nI uP)) CF hE hP 0 rfl rfl inG8 4 (by decide) tw_3_119 rfl rfl dX8_findSeats_108 ?_
                    refine lv_icmp_ge (tgt := 144) hx hb dX8_findSeats_111 (by decide) (fun c_9 => ?_) (fun c_9 => ?_)
                    · have o_9 : uP ≤ k105 := (cle (rfl : nI uP = nI uP) (rfl : nI k105 = nI k105) (by omega) (by omega)).mp c_9
                      have hkN : uP = k105 := by omega
                      subst hkN
                      subst hB_105
                      refine lv_iinc (v := (nI (k15 + 1))) (lv' := [(5, .int (nI (k15 + 1))), (7, .int (nI uP)), (6, .int ((B_X8_many_4 ((B_X8_knowersOf_6 uP uR uk ur (f_X8_laySeats_tr uP pg x15_0 (nI k15) k15) a1 n1 a2 a3 0 uP)) 0 6))), (0, .ref q0), (1, .int a1), (2, .int a2), (3, .int a3), (4, .int a4)]) hx hb dX8_findSeats_144 hl (k := 2) rfl (nf_inc 1 (rfl : nI k15 = nI k15)) (by decide) rfl (fun ls hl => ?_)
                      refine lv_goto (tgt := 15) hx hb dX8_findSeats_147 (by decide) ?_
                      have hB2 : B_X8_findSeats_15 uP uR uk ur pg a1 n1 a2 a3 a4 tr (-9) (-9) (k15 + 1) = ((f_X8_laySeats_tr uP pg x15_0 (nI k15) k15), ((B_X8_many_4 ((B_X8_knowersOf_6 uP uR uk ur (f_X8_laySeats_tr uP pg x15_0 (nI k15) k15) a1 n1 a2 a3 0 uP)) 0 6)), ((B_X8_findSeats_105 uP pg x15_0 k15 0 uP))) := by
                        rw [B_X8_findSeats_15, hB_15]
                        show S_X8_findSeats_15 uP uR uk ur pg a1 n1 a2 a3 a4 k15 x15_0 x15_1 x15_2 = _
                        rw [S_X8_findSeats_15, if_neg c_2, if_neg c_3, if_neg c_5, if_neg c_8]
                      exact ih_15 (k15 + 1) (f_X8_laySeats_tr uP pg x15_0 (nI k15) k15) ((B_X8_many_4 ((B_X8_knowersOf_6 uP uR uk ur (f_X8_laySeats_tr uP pg x15_0 (nI k15) k15) a1 n1 a2 a3 0 uP)) 0 6)) ((B_X8_findSeats_105 uP pg x15_0 k15 0 uP)) _ _ _ (by omega) (by omega) hB2 hP hD hS (lv_sub hl [0, 3, 4, 5, 6, 7] rfl)
                    · have o_9 : ¬ uP ≤ k105 := fun h => c_9 ((cle (rfl : nI uP = nI uP) (rfl : nI k105 = nI k105) (by omega) (by omega)).mpr h)
                      refine lv_aload_n hx hb dX8_findSeats_114 rfl (lv_at hl 3 rfl) ?_
                      refine lv_bipush (v := 10) hx hb dX8_findSeats_115 (by decide) ?_
                      refine lv_aload_n hx hb dX8_findSeats_117 rfl (lv_at hl 3 rfl) ?_
                      refine r_get (C := RX8) (T := TX8) (N := 31) (v := .int x105_0) CF hE hP 0 rfl rfl inG8 24 (by decide) tw_3_139 rfl rfl dX8_findSeats_118 ?_
                      refine lv_imul hx hb dX8_findSeats_121 ?_
                      refine lv_aload_n hx hb dX8_findSeats_122 rfl (lv_at hl 3 rfl) ?_
                      refine lv_aload_n hx hb dX8_findSeats_123 rfl (lv_at hl 3 rfl) ?_
                      refine r_get (C := RX8) (T := TX8) (N := 31) (v := .ref y8) CF hE hP 0 rfl rfl inG8 14 (by decide) tw_3_129 rfl rfl dX8_findSeats_124 ?_
                      refine lv_iload hx hb dX8_findSeats_127 (lv_at hl 0 rfl) ?_
                      refine ro_V (y := yX8_sitter) (As := [.ref y8, .int (nI k105)]) (rest := [.int (10 * x105_0), .ref q0]) (q0 := 0) CF (c_X8_sitter l D cI cZ q0 y1 y2 y3 y4 y5 y6 y7 y8 y9 y10 y11 y12 y13 y14 y8 th uT up uP uR vP vR ua us sd ((B_X8_many_4 ((B_X8_knowersOf_6 uP uR uk ur (f_X8_laySeats_tr uP pg x15_0 (nI k15) k15) a1 n1 a2 a3 0 uP)) 0 6)) x105_0 z3 z4 z5 z6 z7 (f_X8_laySeats_tr uP pg x15_0 (nI k15) k15) (nI k105) (by omega)) lk_X8_131 hP hE [0, 4] rfl rfl rfl rfl hl.1 rfl (Nat.le_of_ble_eq_true rfl) ⟨Nat.le_of_ble_eq_true rfl, Nat.le_of_ble_eq_true rfl, rfl, rfl⟩ ⟨Nat.zero_le _, Nat.zero_le _⟩ dX8_findSeats_129 ?_
                      refine lv_iadd hx hb dX8_findSeats_132 ?_
                      refine lv_iconst (v := 1) hx hb dX8_findSeats_133 (by decide) ?_
                      refine lv_iadd hx hb dX8_findSeats_134 ?_
                      refine r_put (C := RX8) (T := TX8) (N := 31) (ws' := [(q0, .inr (8, [.int th, .ref y1, .int (nI uT), .int (nI up), .int (nI uP), .ref y2, .int (nI uR), .ref y3, .int (nI vP), .ref y4, .ref y5, .int (nI vR), .ref y6, .ref y7, .ref y8, .ref y9, .int (nI ua), .ref y10, .ref y11, .int (nI us), .ref y12, .ref y13, .long sd, .int ((B_X8_many_4 ((B_X8_knowersOf_6 uP uR uk ur (f_X8_laySeats_tr uP pg x15_0 (nI k15) k15) a1 n1 a2 a3 0 uP)) 0 6)), .int (((10 * x105_0) + ((B_X8_sitter_6 (f_X8_laySeats_tr uP pg x15_0 (nI k15) k15) (nI k105) (-9) uP))) + 1), .int z3, .int z4, .int z5, .int z6, .int z7, .ref y14])), (y2, .inl (cI, 5, .inl uk)), (y3, .inl (cI, 12, .inl ur)), (y7, .inl (cI, 15, .inl pg)), (y8, .inl (cI, 15, .inl (f_X8_laySeats_tr uP pg x15_0 (nI k15) k15)))]) CF hE hP hD hS 0 rfl rfl inG8 tyX8 tyX8_ok nmX8 24 (by decide) tw_3_139 rfl rfl rfl rfl (Nat.le_of_ble_eq_true rfl) dX8_findSeats_135 rfl (fun H locs hP hD hS => ?_)
                      refine lv_iinc (v := (nI (k105 + 1))) (lv' := [(7, .int (nI (k105 + 1))), (6, .int ((B_X8_many_4 ((B_X8_knowersOf_6 uP uR uk ur (f_X8_laySeats_tr uP pg x15_0 (nI k15) k15) a1 n1 a2 a3 0 uP)) 0 6))), (5, .int (nI k15)), (0, .ref q0), (1, .int a1), (2, .int a2), (3, .int a3), (4, .int a4)]) hx hb dX8_findSeats_138 hl (k := 0) rfl (nf_inc 1 (rfl : nI k105 = nI k105)) (by decide) rfl (fun ls hl => ?_)
                      refine lv_goto (tgt := 105) hx hb dX8_findSeats_141 (by decide) ?_
                      have hB2 : B_X8_findSeats_105 uP pg x15_0 k15 0 (k105 + 1) = (((10 * x105_0) + ((B_X8_sitter_6 (f_X8_laySeats_tr uP pg x15_0 (nI k15) k15) (nI k105) (-9) uP))) + 1) := by
                        rw [B_X8_findSeats_105, hB_105]
                        rw [S_X8_findSeats_105]
                      exact ih_105 (k105 + 1) (((10 * x105_0) + ((B_X8_sitter_6 (f_X8_laySeats_tr uP pg x15_0 (nI k15) k15) (nI k105) (-9) uP))) + 1) _ _ _ (by omega) (by omega) hB2 hP hD hS (lv_sub hl [0, 1, 2, 3, 4, 5, 6, 7] rfl)
                have e_k : 0 = nI (0) := (nf_c 0).trans (congrArg nI (by omega))
                rw [e_k] at hl
                exact LOOP_105 (uP - 0 + 1) 0 0 _ _ _ (Nat.zero_le _) (by omega) rfl hP hD hS (lv_sub hl [0, 1, 2, 3, 4, 5, 6, 7] rfl)
  have e_k : 0 = nI (0) := (nf_c 0).trans (congrArg nI (by omega))
  rw [e_k] at hl
  exact LOOP_15 ((uP ^ uP) - 0 + 1) 0 tr (-9) (-9) _ _ _ (Nat.zero_le _) (by omega) rfl hP hD hS (lv_sub hl [0, 1, 2, 3, 4, 5] rfl)
