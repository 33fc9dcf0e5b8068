/-! lies in the draft: evenings, a judge -/
theorem wb_inj {a b : Int64} (h : a.toBitVec = b.toBitVec) : a = b := Int64.toBitVec_inj.mp h
theorem wb_tb (n : Nat) : (lN n).toBitVec = BitVec.ofNat 64 n := rfl
theorem wb_tn {n : Nat} (h : n < 2 ^ 64) : (lN n).toBitVec.toNat = n := by rw [wb_tb, BitVec.toNat_ofNat, Nat.mod_eq_of_lt h]
theorem wb_of (x : Int64) : ∃ n, n < 2 ^ 64 ∧ x = lN n := ⟨x.toBitVec.toNat, x.toBitVec.isLt, wb_inj (by rw [wb_tb]; simp)⟩
theorem wb_cu : ∀ k, k < 64 → ((nI k).toInt64.toUInt64 &&& Int64.toUInt64 63) = UInt64.ofNat k := by decide +kernel
theorem wb_shr {n k : Nat} (hn : n < 2 ^ 64) (hk : k < 64) : ((lN n).toUInt64 >>> ((nI k).toInt64.toUInt64 &&& Int64.toUInt64 63)).toInt64 = lN (n / 2 ^ k) := by
  rw [wb_cu k hk]
  apply wb_inj
  apply BitVec.eq_of_toNat_eq
  show ((lN n).toUInt64 >>> UInt64.ofNat k).toNat = (BitVec.ofNat 64 _).toNat
  have h1 : (UInt64.ofNat k).toNat = k := by
    show (BitVec.ofNat 64 k).toNat = k
    rw [BitVec.toNat_ofNat, Nat.mod_eq_of_lt (by omega)]
  have h2 : (lN n).toUInt64.toNat = n := wb_tn hn
  rw [UInt64.toNat_shiftRight, h1, h2, Nat.mod_eq_of_lt hk, Nat.shiftRight_eq_div_pow, BitVec.toNat_ofNat, Nat.mod_eq_of_lt (Nat.lt_of_le_of_lt (Nat.div_le_self _ _) hn)]
theorem ev60 (w : Int64) : ∃ n, n < 2 ^ 31 ∧ (w.toUInt64 >>> ((33 : Int32).toInt64.toUInt64 &&& Int64.toUInt64 63)).toInt64.toInt32 = nI n ∧ (((w.toUInt64 >>> ((33 : Int32).toInt64.toUInt64 &&& Int64.toUInt64 63)).toInt64) - ((w.toUInt64 >>> ((33 : Int32).toInt64.toUInt64 &&& Int64.toUInt64 63)).toInt64) / 60 * 60).toInt32 = nI (n % 60) := by
  obtain ⟨m, hm, rfl⟩ := wb_of w
  have e : ((lN m).toUInt64 >>> ((33 : Int32).toInt64.toUInt64 &&& Int64.toUInt64 63)).toInt64 = lN (m / 2 ^ 33) := wb_shr (k := 33) hm (by decide)
  have hd : m / 2 ^ 33 < 2 ^ 31 := by
    apply Nat.div_lt_of_lt_mul
    rw [← Nat.pow_add]
    exact hm
  refine ⟨m / 2 ^ 33, hd, ?_, ?_⟩
  · rw [e]; exact lN_i _
  · rw [e, show (60 : Int64) = lN 60 from rfl, pk_lRem (by omega) (by decide) (by decide), lN_i]
/-- a lie in both, of any two pages that agree -/
theorem q_lieP {P nR : Nat} {kd nd gv uk ur d t : Nat → Int32} (h5 : P ≤ 5) (hk : ∀ q, q < P → kd q = uk q) (hg : gR nR nd gv ur) (h4 : nR ≤ 4) (hP : RPag P d t) {p f : Nat} (hp : p < P) (hf : f < 6) (v : Int32) : f_X1_lie d P nR kd nd gv (nI p) (nI f) v = f_X8_goSay P nR uk ur t (nI p) p (nI f) v ∧ RPag P (f_X1_lie_nw d P nR kd nd gv (nI p) (nI f) v) (f_X8_goSay_tt P nR uk ur t (nI p) p (nI f) v) := by
  obtain ⟨h1, h2, sg, h3⟩ := hP
  have RL : RL_ P nR kd nd gv d uk ur t sg := ⟨⟨h5, h1, hk⟩, h2, h3, hg, h4⟩
  exact ⟨q_lie_r RL hp hf v, q_lie_pg RL hp hf v, q_lie_to h5 h2 hf v, sg, q_lie_sit h5 h3⟩
theorem q_evS {P nR : Nat} {kd nd gv uk ur d t : Nat → Int32} (h5 : P ≤ 5) (hk : ∀ q, q < P → kd q = uk q) (hg : gR nR nd gv ur) (h4 : nR ≤ 4) (hP : RPag P d t) (k : Nat) (x : Int64) : (S_X7_evenings_27 P nR kd nd gv k x d).1 = (S_X8_evenings_26 P nR uk ur k x t).1 ∧ RPag P (S_X7_evenings_27 P nR kd nd gv k x d).2 (S_X8_evenings_26 P nR uk ur k x t).2 := by
  obtain ⟨n, hn, e1, e2⟩ := ev60 ((x * 6364136223846793005) + 1442695040888963407)
  have h59 : h_X8_evenings_59 x = nI (n % 60) := e2
  unfold S_X7_evenings_27 S_X8_evenings_26
  rw [e1, h59, nf_rem (rfl : nI n = nI n) (nf_c 60) (by omega) (by decide) (by decide)]
  generalize x * 6364136223846793005 + 1442695040888963407 = w
  generalize hd : n % 60 = dd
  have hdd : dd < 60 := by omega
  rw [nf_rem (rfl : nI dd = nI dd) (nf_c 12) (by omega) (by decide) (by decide), nf_rem (rfl : nI dd = nI dd) (nf_c 6) (by omega) (by decide) (by decide), nf_div (rfl : nI dd = nI dd) (nf_c 12) (by omega) (by decide) (by decide)]
  rcases q_per h5 (nI (dd / 12)) with ⟨u1, u2⟩ | ⟨p, hp, ep, u1, u2⟩
  · simp only [u1, u2, q_10, if_true, if_false]
    by_cases hv : 6 ≤ nI (dd % 12)
    · simp only [if_pos hv]; exact ⟨trivial, hP⟩
    · simp only [if_neg hv]; exact ⟨trivial, hP⟩
  · have hpe : dd / 12 = p := (ceq rfl rfl (by omega) (by omega)).mp ep
    rw [ep] at u1 u2
    rw [hpe]
    simp only [u1, u2, q_10, if_true, if_false]
    rw [nI_clamp (by omega)]
    have l2 := (q_lieP h5 hk hg h4 hP hp (show dd % 6 < 6 by omega) 2).2
    have l1 := (q_lieP h5 hk hg h4 hP hp (show dd % 6 < 6 by omega) 1).2
    by_cases hv : 6 ≤ nI (dd % 12)
    · simp only [if_pos hv]; exact ⟨trivial, l2⟩
    · simp only [if_neg hv]; exact ⟨trivial, l1⟩
theorem q_evL {P nR : Nat} {kd nd gv uk ur d t : Nat → Int32} (h5 : P ≤ 5) (hk : ∀ q, q < P → kd q = uk q) (hg : gR nR nd gv ur) (h4 : nR ≤ 4) (hP : RPag P d t) (x : Int64) : ∀ k, (B_X7_evenings_27 P nR kd nd gv x d k).1 = (B_X8_evenings_26 P nR uk ur x t k).1 ∧ RPag P (B_X7_evenings_27 P nR kd nd gv x d k).2 (B_X8_evenings_26 P nR uk ur x t k).2
  | 0 => ⟨rfl, hP⟩
  | k + 1 => by
    obtain ⟨a, b⟩ := q_evL h5 hk hg h4 hP x k
    show (S_X7_evenings_27 P nR kd nd gv k _ _).1 = (S_X8_evenings_26 P nR uk ur k _ _).1 ∧ RPag P (S_X7_evenings_27 P nR kd nd gv k _ _).2 (S_X8_evenings_26 P nR uk ur k _ _).2
    rw [a]
    exact q_evS h5 hk hg h4 b k _
theorem q_beg {P : Nat} {nw pg dw tr : Nat → Int32} (h5 : P ≤ 5) (hP : RPag P nw pg) : RPag P (B_X2_copy_3 15 15 nw 0 0 dw 15) (B_X8_begin_2 pg tr 15) := by
  have hc := q_copy (sz := 15) (sy := 15) (a := 0) (b := 0) nw dw (by decide) (by decide) 15 (by omega) (by omega)
  have eb : ∀ i, i < 15 → B_X8_begin_2 pg tr 15 i = pg i := fun i hi => by rw [begin_get, if_pos hi]
  refine ⟨fun i hi => ?_, hP.2.of h5 eb⟩
  rw [eb i hi, ← hP.1 i hi, show (0 : Int32) = nI 0 from rfl, hc, if_pos (by omega)]
  congr 1
  omega
theorem q_pw0 : ∀ j, j < 3 → (if B_X7_power_4 1000 1 j < 1 then (1 : Int32) else B_X7_power_4 1000 1 j) = B_X8_power_4 1000 1 j := by decide +kernel
theorem q_pw1 : ∀ j, j < 4 → B_X7_power_4 1000 1 j = nI (1000 ^ j) ∧ B_X8_power_4 1000 1 j = nI (1000 ^ j) ∧ 1 ≤ 1000 ^ j ∧ 1000 ^ j < 2 ^ 31 := by decide +kernel
theorem q_m1le {a : Int32} {N : Nat} (h1 : 1 ≤ N) (h2 : N < 2 ^ 31) : (a ≤ nI N - 1) ↔ a < nI N := by
  rw [nf_sub (rfl : nI N = nI N) (nf_c 1) h1]
  by_cases h : a < 0
  · constructor
    · intro _; exact Int32.lt_of_lt_of_le h (Int32.not_lt.mp (nI_pos h2))
    · intro _; exact Int32.le_of_lt (Int32.lt_of_lt_of_le h (Int32.not_lt.mp (nI_pos (by omega))))
  · have t := nf_tn h
    have hl := Int32.toNatClampNeg_lt a
    rw [cle t rfl hl (by omega), clt t rfl hl h2]
    omega
theorem q_jdL {P nR : Nat} {kd nd gv uk ur : Nat → Int32} (h5 : P ≤ 5) (hk : ∀ q, q < P → kd q = uk q) (hg : gR nR nd gv ur) (h4 : nR ≤ 4) (a1 a2 : Int32) (ha : a1.toNatClampNeg ≤ 3) : ∀ (n k : Nat) (d t : Nat → Int32), RPag P d t → (L_X7_judge_38 P nR kd nd gv a1 a2 n k d).1 = (L_X8_judge_45 P nR uk ur a1 a2 n k t).1
  | 0, _, _, _, _ => rfl
  | n + 1, k, d, t, hP => by
    show (S_X7_judge_38 P nR kd nd gv a1 a2 (L_X7_judge_38 P nR kd nd gv a1 a2 n) k d).1 = (S_X8_judge_45 P nR uk ur a1 a2 (L_X8_judge_45 P nR uk ur a1 a2 n) k t).1
    unfold S_X7_judge_38
    rw [q_pw0 ((a1.toNatClampNeg - 1) - k) (by omega)]
    change (if a1 ≤ nI k then ((-9 : Int32), d) else (if f_X7_isPutRight P nR kd nd gv d (h_X8_judge_76 a1 a2 k) (h_X8_judge_88 a1 a2 k) (h_X8_judge_95 a1 a2 k) = 0 then (nI k, f_X7_isPutRight_dw P nR kd nd gv d (h_X8_judge_76 a1 a2 k) (h_X8_judge_88 a1 a2 k) (h_X8_judge_95 a1 a2 k)) else L_X7_judge_38 P nR kd nd gv a1 a2 n (k + 1) (f_X7_isPutRight_dw P nR kd nd gv d (h_X8_judge_76 a1 a2 k) (h_X8_judge_88 a1 a2 k) (h_X8_judge_95 a1 a2 k)))).1 = _
    unfold S_X8_judge_45
    generalize h_X8_judge_76 a1 a2 k = b1
    generalize h_X8_judge_88 a1 a2 k = b2
    generalize h_X8_judge_95 a1 a2 k = b3
    by_cases hend : a1 ≤ nI k
    · rw [if_pos hend, if_pos hend]
    · rw [if_neg hend, if_neg hend]
      unfold f_X7_isPutRight f_X7_isPutRight_dw
      have n2 : ((-1 : Int32) = 0) = False := eq_false (by decide)
      have n3 : ((-2 : Int32) = 0) = False := eq_false (by decide)
      rcases q_ref h5 b1 b2 b3 with ⟨u1, u2⟩ | ⟨u1, u2, u3⟩ | ⟨u1, u2, u3, u4⟩ | ⟨p, f, hp, hf, e1, e2, u1, u2, u3, u4⟩
      · simp only [u1, u2, n2, q_10, if_true, if_false]
      · simp only [u1, u2, u3, n2, q_10, if_true, if_false]
      · simp only [u1, u2, u3, u4, n3, q_10, if_true, if_false]
      · subst e1 e2
        have hl := q_lieP h5 hk hg h4 hP hp hf b3
        simp only [u1, u2, u3, u4, q_10, if_true, if_false]
        rw [nI_clamp (by omega), hl.1]
        by_cases h9 : f_X8_goSay P nR uk ur t (nI p) p (nI f) b3 = -9
        · simp only [h9, if_true]
        · simp only [h9, q_10, if_false]
          exact q_jdL h5 hk hg h4 a1 a2 ha n (k + 1) _ _ hl.2
