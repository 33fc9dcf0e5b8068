/-! sets of facts: minds, least sets, what is safe; deaf; rests -/
theorem q_in3 (a x y : Int32) : f_X8_in a.toInt64 x.toInt64 y.toInt64 = if a < x then 0 else if a ≤ y then 1 else 0 := by
  rw [q_in2]
  by_cases h : a < x
  · rw [if_pos h, if_neg (fun z => Int32.lt_irrefl (Int32.lt_of_lt_of_le h z.1))]
  · rw [if_neg h]
    by_cases h2 : a ≤ y
    · rw [if_pos h2, if_pos ⟨Int32.not_lt.mp h, h2⟩]
    · rw [if_neg h2, if_neg (fun z => h2 z.2)]
theorem q_rest0 : B_X7_rests_20 0 (-9) 4 = B_X8_findRests_13 0 (-9) 4 := by decide +kernel
theorem q_an64 : ∀ a, a < 64 → ∀ b, b < 64 → nI a &&& nI b = nI (a &&& b) := by decide +kernel
theorem q_m1 : ∀ c, c < 64 → ∀ s, s < 64 → ∀ f, f < 6 → (decide (c &&& (s ||| 2 ^ f) = (s ||| 2 ^ f))) = (decide (c &&& s = s) && c.testBit f) := by decide +kernel
theorem q_m2 : ∀ c, c < 64 → ∀ s, s < 64 → ∀ f, f < 6 → (decide (c &&& (s ||| 2 ^ f) = 0)) = (decide (c &&& s = 0) && !c.testBit f) := by decide +kernel
theorem q_al {s p c : Nat} (hs : s < 64) (hp : p < 64) (hc : c < 64) : f_X3_allows (nI s) (nI p) (nI c) = if (decide (c &&& s = s) && decide (c &&& p = 0)) = true then 1 else 0 := by
  unfold f_X3_allows
  have l1 : c &&& s < 64 := Nat.lt_of_le_of_lt Nat.and_le_left hc
  have l2 : c &&& p < 64 := Nat.lt_of_le_of_lt Nat.and_le_left hc
  rw [q_an64 c hc s hs, q_an64 c hc p hp]
  have e1 := ceq (rfl : nI (c &&& s) = nI (c &&& s)) (rfl : nI s = nI s) (by omega) (by omega)
  have e2 := ceq (rfl : nI (c &&& p) = nI (c &&& p)) (nf_c 0) (by omega) (by omega)
  by_cases h1 : c &&& s = s
  · by_cases h2 : c &&& p = 0
    · rw [if_pos (e1.mpr h1), if_pos (e2.mpr h2), if_pos (by simp [h1, h2])]
    · rw [if_pos (e1.mpr h1), if_neg (fun z => h2 (e2.mp z)), if_neg (by simp [h2])]
  · rw [if_neg (fun z => h1 (e1.mp z)), if_neg (by simp [h1])]
theorem q_seeL {us : Nat} {sF sS : Nat → Int32} (h : ∀ k, k < us → (∃ f, f < 6 ∧ sF k = nI f) ∧ (sS k = 0 ∨ sS k = 1)) {nR : Nat} {nd gv ur : Nat → Int32} (hr : gR nR nd gv ur) (h4 : nR ≤ 4) : ∀ j, j ≤ us → ∃ s p, s < 64 ∧ p < 64 ∧ suN sF sS j = nI s ∧ spN sF sS j = nI p ∧ ∀ t, t < 64 → B_X8_findMinds_35 nR ur sF sS t 1 j = if (decide (cl ur nR t &&& s = s) && decide (cl ur nR t &&& p = 0)) = true then 1 else 0
  | 0, _ => ⟨0, 0, by decide, by decide, rfl, rfl, fun t _ => by simp [B_X8_findMinds_35]⟩
  | j + 1, hj => by
    obtain ⟨s, p, h1, h2, h3, h6, h7⟩ := q_seeL h hr h4 j (by omega)
    obtain ⟨⟨f, hf, ef⟩, hs⟩ := h j (by omega)
    have o1 := q_or0 s h1 f hf
    have o2 := q_or0 p h2 f hf
    have st : ∀ t, B_X8_findMinds_35 nR ur sF sS t 1 (j + 1) = S_X8_findMinds_35 nR ur sF sS t j (B_X8_findMinds_35 nR ur sF sS t 1 j) := fun t => rfl
    have z01 : ¬ (0 : Int32) = 1 := by decide
    have z10 : ¬ (1 : Int32) = 0 := by decide
    rcases hs with hs | hs
    · refine ⟨s, p ||| 2 ^ f, h1, o2.2.2, ?_, ?_, fun t ht => ?_⟩
      · show (if sS j = 1 then _ else suN sF sS j) = _
        rw [if_neg (by rw [hs]; decide), h3]
      · show (if sS j = 1 then _ else spN sF sS j ||| ((1 : Int32) <<< (sF j &&& 31))) = _
        rw [if_neg (by rw [hs]; decide), h6, ef, o2.2.1]
      · have hc := q_clo hr h4 ht
        rw [st, h7 t ht]
        unfold S_X8_findMinds_35
        rw [hc.2.1, ef, q_has hc.2.2 hf, hs, if_neg z01, q_m2 _ hc.2.2 p h2 f hf]
        cases decide (cl ur nR t &&& s = s) <;> cases decide (cl ur nR t &&& p = 0) <;> cases (cl ur nR t).testBit f <;> simp [z10]
    · refine ⟨s ||| 2 ^ f, p, o1.2.2, h2, ?_, ?_, fun t ht => ?_⟩
      · show (if sS j = 1 then suN sF sS j ||| ((1 : Int32) <<< (sF j &&& 31)) else suN sF sS j) = _
        rw [if_pos hs, h3, ef, o1.2.1]
      · show (if sS j = 1 then spN sF sS j else _) = _
        rw [if_pos hs, h6]
      · have hc := q_clo hr h4 ht
        rw [st, h7 t ht]
        unfold S_X8_findMinds_35
        rw [hc.2.1, ef, q_has hc.2.2 hf, hs, if_pos rfl, q_m1 _ hc.2.2 s h1 f hf]
        cases decide (cl ur nR t &&& s = s) <;> cases decide (cl ur nR t &&& p = 0) <;> cases (cl ur nR t).testBit f <;> simp [z10]
theorem q_mindsL {us : Nat} {sF sS : Nat → Int32} (h : ∀ k, k < us → (∃ f, f < 6 ∧ sF k = nI f) ∧ (sS k = 0 ∨ sS k = 1)) {nR : Nat} {nd gv ur : Nat → Int32} (hr : gR nR nd gv ur) (h4 : nR ≤ 4) : ∀ j, j ≤ 64 → B_X7_minds_23 nR nd gv (suN sF sS us) (spN sF sS us) 0 63 0 j = B_X8_findMinds_18 nR us ur sF sS 0 63 0 j
  | 0, _ => rfl
  | j + 1, hj => by
    obtain ⟨s, p, h1, h2, h3, h6, h7⟩ := q_seeL h hr h4 us (Nat.le_refl _)
    have hc := q_clo hr h4 (show j < 64 by omega)
    have ih := q_mindsL h hr h4 j (by omega)
    show S_X7_minds_23 nR nd gv _ _ j _ _ _ = S_X8_findMinds_18 nR us ur sF sS j _ _ _
    rw [ih]
    unfold S_X7_minds_23 S_X8_findMinds_18
    rw [h3, h6, hc.1, hc.2.1, q_al h1 h2 hc.2.2, h7 j (by omega)]
/-! least sets -/
theorem q_nt0 : ∀ t, t < 64 → ∀ k, k < 64 → (nI t &&& (nI k ^^^ (-1))) = nI (t &&& (63 ^^^ k)) := by decide +kernel
theorem q_nt1 : ∀ t, t < 64 → ∀ k, k < 64 → (t &&& (63 ^^^ k)) < 64 := by decide +kernel
theorem q_oo0 : ∀ t, t < 64 → ∀ k, k < 64 → (nI t ||| nI k) = nI (t ||| k) ∧ (t ||| k) < 64 := by decide +kernel
theorem q_n9 : ∀ j, j < 64 → ¬ nI j = -9 := by decide +kernel
theorem q_smaller {x : Int32} (hx : x = -9 ∨ ∃ j, j < 64 ∧ x = nI j) {k : Nat} (hk : k < 64) : (if f_X7_isSmaller (nI k) x = 0 then x else nI k) = if x = -9 then nI k else if B_X8_many_4 x 0 6 ≤ B_X8_many_4 (nI k) 0 6 then x else nI k := by
  unfold f_X7_isSmaller
  rcases hx with h | ⟨j, hj, h⟩
  · rw [if_pos h, if_pos h, if_neg (by decide)]
  · have h9 : ¬ x = -9 := by rw [h]; exact q_n9 j hj
    rw [if_neg h9, if_neg h9, h, q_bc0 j hj, q_bc0 k hk]
    split
    · rw [if_pos rfl]
    · rw [if_neg (by decide)]
theorem q_sm_ok {x : Int32} (hx : x = -9 ∨ ∃ j, j < 64 ∧ x = nI j) {k : Nat} (hk : k < 64) : ((if x = -9 then nI k else if B_X8_many_4 x 0 6 ≤ B_X8_many_4 (nI k) 0 6 then x else nI k) = -9 ∨ ∃ j, j < 64 ∧ (if x = -9 then nI k else if B_X8_many_4 x 0 6 ≤ B_X8_many_4 (nI k) 0 6 then x else nI k) = nI j) := by
  split
  · exact Or.inr ⟨k, hk, rfl⟩
  · split
    · exact hx
    · exact Or.inr ⟨k, hk, rfl⟩
theorem q_keepF {nR t f p : Nat} {nd gv ur nw pg : Nat → Int32} (hr : gR nR nd gv ur) (h4 : nR ≤ 4) (ht : t < 64) (hf : f < 6) (hp : p < 5) (en : nw p = nI t) (et : pg p = nI t) : ∀ k, k ≤ 64 → B_X7_keepFrom_33 nR nd gv nw (nI p) (nI f) (-9) k = B_X8_keepFrom_38 nR ur pg (nI p) (nI f) (-9) k ∧ (B_X8_keepFrom_38 nR ur pg (nI p) (nI f) (-9) k = -9 ∨ ∃ j, j < 64 ∧ B_X8_keepFrom_38 nR ur pg (nI p) (nI f) (-9) k = nI j)
  | 0, _ => ⟨rfl, Or.inl rfl⟩
  | k + 1, hk => by
    obtain ⟨a, b⟩ := q_keepF hr h4 ht hf hp en et k (by omega)
    have hk6 : k < 64 := by omega
    have hc := q_clo hr h4 (q_nt1 t ht k hk6)
    show S_X7_keepFrom_33 nR nd gv nw (nI p) (nI f) k _ = S_X8_keepFrom_38 nR ur pg (nI p) (nI f) k _ ∧ (S_X8_keepFrom_38 nR ur pg (nI p) (nI f) k _ = -9 ∨ ∃ j, j < 64 ∧ S_X8_keepFrom_38 nR ur pg (nI p) (nI f) k _ = nI j)
    rw [a]
    generalize B_X8_keepFrom_38 nR ur pg (nI p) (nI f) (-9) k = x at b ⊢
    unfold S_X7_keepFrom_33 S_X8_keepFrom_38
    rw [q_a0 nw hp, nI_clamp (by omega), Nat.zero_add, en, et, q_nt0 t ht k hk6, hc.1, hc.2.1, q_smaller b hk6]
    have e7 : f_X7_contains (nI (cl ur nR (t &&& (63 ^^^ k)))) (nI f) = f_X8_has (nI (cl ur nR (t &&& (63 ^^^ k)))) (nI f) := rfl
    rw [e7]
    refine ⟨rfl, ?_⟩
    split
    · split
      · exact q_sm_ok b hk6
      · exact b
    · exact b
theorem q_learnF {nR t f p : Nat} {nd gv ur nw pg : Nat → Int32} (hr : gR nR nd gv ur) (h4 : nR ≤ 4) (ht : t < 64) (hf : f < 6) (hp : p < 5) (en : nw p = nI t) (et : pg p = nI t) : ∀ k, k ≤ 64 → B_X7_learn_33 nR nd gv nw (nI p) (nI f) (-9) k = B_X8_learn_38 nR ur pg (nI p) (nI f) (-9) k ∧ (B_X8_learn_38 nR ur pg (nI p) (nI f) (-9) k = -9 ∨ ∃ j, j < 64 ∧ B_X8_learn_38 nR ur pg (nI p) (nI f) (-9) k = nI j)
  | 0, _ => ⟨rfl, Or.inl rfl⟩
  | k + 1, hk => by
    obtain ⟨a, b⟩ := q_learnF hr h4 ht hf hp en et k (by omega)
    have hk6 : k < 64 := by omega
    have o := q_oo0 t ht k hk6
    have hc := q_clo hr h4 o.2
    show S_X7_learn_33 nR nd gv nw (nI p) (nI f) k _ = S_X8_learn_38 nR ur pg (nI p) (nI f) k _ ∧ (S_X8_learn_38 nR ur pg (nI p) (nI f) k _ = -9 ∨ ∃ j, j < 64 ∧ S_X8_learn_38 nR ur pg (nI p) (nI f) k _ = nI j)
    rw [a]
    generalize B_X8_learn_38 nR ur pg (nI p) (nI f) (-9) k = x at b ⊢
    unfold S_X7_learn_33 S_X8_learn_38
    rw [q_a0 nw hp, nI_clamp (by omega), Nat.zero_add, en, et, o.1, hc.1, hc.2.1, q_smaller b hk6]
    have e7 : ∀ u v, f_X7_contains u v = f_X8_has u v := fun _ _ => rfl
    rw [e7, e7]
    refine ⟨rfl, ?_⟩
    split
    · split
      · exact b
      · exact q_sm_ok b hk6
    · exact b
/-! safe -/
def anyB (c : Nat → Bool) : Nat → Bool
  | 0 => false
  | k + 1 => anyB c k || c k
theorem msk_z (c : Nat → Bool) : ∀ n, decide (msk c n = 0) = !anyB c n
  | 0 => rfl
  | n + 1 => by
    have ih := msk_z c n
    show decide ((if c n = true then msk c n ||| 2 ^ n else msk c n) = 0) = !(anyB c n || c n)
    by_cases h : c n = true
    · rw [if_pos h, h, Bool.or_true]
      apply decide_eq_false
      intro z
      have := congrArg (fun m : Nat => m.testBit n) z
      simp [q_tb] at this
    · have h : c n = false := by simpa using h
      rw [if_neg (by rw [h]; decide), h, Bool.or_false, ih]
def rk (c : Nat → Bool) (g : Nat → Nat) : Nat → Nat
  | 0 => 0
  | k + 1 => if c k = true then rk c g k ||| g k else rk c g k
theorem rk_bit (c : Nat → Bool) (g : Nat → Nat) (f : Nat) : ∀ k, (rk c g k).testBit f = anyB (fun o => c o && (g o).testBit f) k
  | 0 => Nat.zero_testBit f
  | k + 1 => by
    show (if c k = true then rk c g k ||| g k else rk c g k).testBit f = (anyB (fun o => c o && (g o).testBit f) k || (c k && (g k).testBit f))
    by_cases h : c k = true
    · rw [if_pos h, Nat.testBit_or, rk_bit c g f k, h, Bool.true_and]
    · have h : c k = false := by simpa using h
      rw [if_neg (by rw [h]; decide), h, Bool.false_and, Bool.or_false, rk_bit c g f k]
theorem q_63 : ∀ r, r < 64 → (63 &&& (nI r ^^^ (-1))) = nI (msk (fun f => !r.testBit f) 6) := by decide +kernel
theorem msk_cong {c d : Nat → Bool} : ∀ n, (∀ i, i < n → c i = d i) → msk c n = msk d n
  | 0, _ => rfl
  | n + 1, h => by
    show (if c n = true then msk c n ||| 2 ^ n else msk c n) = (if d n = true then msk d n ||| 2 ^ n else msk d n)
    rw [msk_cong n (fun i hi => h i (by omega)), h n (by omega)]
theorem msk_64 (c : Nat → Bool) {n : Nat} (h : n ≤ 6) : msk c n < 64 := Nat.lt_of_lt_of_le (msk_lt c n) (Nat.pow_le_pow_right (by decide) h)
theorem q_oz64 : ∀ m, m < 64 → nI m ||| 0 = nI m := by decide +kernel
theorem q_safe7 {P nR : Nat} {nd gv ur : Nat → Int32} {kd nw uk tt : Nat → Int32} (R : RP P kd nw uk tt) (hT : RTo P tt) (hr : gR nR nd gv ur) (h4 : nR ≤ 4) {p : Nat} (hp : p < P) (v : Int32) : ∀ k, k ≤ P → B_X7_safe_31 P nR kd nd gv nw (nI p) v 0 k = nI (rk (hb P uk tt p v) (fun o => cl ur nR (tt o).toNatClampNeg) k) ∧ rk (hb P uk tt p v) (fun o => cl ur nR (tt o).toNatClampNeg) k < 64
  | 0, _ => ⟨rfl, (show (0 : Nat) < 64 by decide)⟩
  | k + 1, hk => by
    have h5 := R.1
    obtain ⟨a, b⟩ := q_safe7 R hT hr h4 hp v k (by omega)
    have ht := hT.at (p := k) (by omega)
    have hc := q_clo hr h4 ht.2
    have hm := msk_5 (hb P uk tt p v) (n := P) h5
    show S_X7_safe_31 P nR kd nd gv nw (nI p) v k (B_X7_safe_31 P nR kd nd gv nw (nI p) v 0 k) = nI (if hb P uk tt p v k = true then _ else _) ∧ (if hb P uk tt p v k = true then _ else _) < 64
    rw [a]
    unfold S_X7_safe_31
    rw [q_ears R hp v P (Nat.le_refl _), q_a0 nw (by omega), R.2.1 _ (by omega), ht.1, hc.1]
    have e7 : f_X7_contains (nI (msk (hb P uk tt p v) P)) (nI k) = if hb P uk tt p v k = true then 1 else 0 := by
      have := q_hp0 _ hm k (by omega)
      rw [msk_bit, decide_eq_true (show k < P by omega), Bool.true_and] at this
      exact this
    rw [e7]
    have o := q_oo0 _ b _ hc.2.2
    by_cases h : hb P uk tt p v k = true
    · simp only [h, if_true, q_10, if_false]
      exact o
    · simp only [h, if_true, if_false]
      exact ⟨rfl, b⟩
theorem q_safe8 {P nR : Nat} {nd gv ur uk tt : Nat → Int32} (h5 : P ≤ 5) (hT : RTo P tt) (hr : gR nR nd gv ur) (h4 : nR ≤ 4) {p : Nat} (hp : p < P) (v : Int32) : ∀ k, k ≤ 6 → B_X8_safe_35 P nR uk ur tt (nI p) v 0 k = nI (msk (fun f => decide (msk (fun o => hb P uk tt p v o && kb nR ur tt f o) P = 0)) k)
  | 0, _ => rfl
  | k + 1, hk => by
    have hm := msk_64 (fun f => decide (msk (fun o => hb P uk tt p v o && kb nR ur tt f o) P = 0)) (n := k) (by omega)
    have hm2 := msk_5 (fun o => hb P uk tt p v o && kb nR ur tt k o) (n := P) h5
    show S_X8_safe_35 P nR uk ur tt (nI p) v k (B_X8_safe_35 P nR uk ur tt (nI p) v 0 k) = nI (if decide (msk (fun o => hb P uk tt p v o && kb nR ur tt k o) P = 0) = true then _ else _)
    rw [q_safe8 h5 hT hr h4 hp v k (by omega)]
    unfold S_X8_safe_35
    rw [nI_clamp (by omega), q_know8 h5 hT hr h4 v (by omega) P (Nat.le_refl _), (q_or0 _ hm k (by omega)).2.1, q_oz64 _ hm]
    by_cases h : msk (fun o => hb P uk tt p v o && kb nR ur tt k o) P = 0
    · rw [if_pos (by rw [h]; rfl), if_pos (decide_eq_true h)]
    · rw [if_neg (fun z => h ((ceq rfl (nf_c 0) (by omega) (by decide)).mp z)), if_neg (by simp [h])]
theorem q_safeL {P nR : Nat} {nd gv ur : Nat → Int32} {kd nw uk tt : Nat → Int32} (R : RP P kd nw uk tt) (hT : RTo P tt) (hr : gR nR nd gv ur) (h4 : nR ≤ 4) {p : Nat} (hp : p < P) (v : Int32) : (63 &&& (B_X7_safe_31 P nR kd nd gv nw (nI p) v 0 P ^^^ (-1))) = B_X8_safe_35 P nR uk ur tt (nI p) v 0 6 := by
  obtain ⟨a, b⟩ := q_safe7 R hT hr h4 hp v P (Nat.le_refl _)
  rw [a, q_63 _ b, q_safe8 R.1 hT hr h4 hp v 6 (Nat.le_refl _)]
  congr 1
  apply msk_cong
  intro f _
  rw [msk_z, rk_bit]
  rfl
/-! deaf -/
theorem q_cnt0 : ∀ m, m < 32 → mny (nI m) 6 < 6 ∧ bcn (nI m) = mny (nI m) 6 := by decide +kernel
theorem q_frac0 : ∀ x, x < 11 → ∀ n, n < 6 → f_X7_lowestTerm (B_X7_power_4 (nI x) 1 n) (B_X7_power_4 10 1 n) 0 = f_X8_fraction (B_X8_power_4 (nI x) 1 n) (B_X8_power_4 10 1 n) (10 ^ n) 0 ∧ f_X7_lowestTerm (B_X7_power_4 (nI x) 1 n) (B_X7_power_4 10 1 n) 1 = f_X8_fraction (B_X8_power_4 (nI x) 1 n) (B_X8_power_4 10 1 n) (10 ^ n) 1 := by decide +kernel
theorem q_frac {x n : Nat} (hx : x < 11) (hn : n < 6) (u : Int32) : f_X7_lowestTerm (B_X7_power_4 (nI x) 1 n) (B_X7_power_4 10 1 n) u = f_X8_fraction (B_X8_power_4 (nI x) 1 n) (B_X8_power_4 10 1 n) (10 ^ n) u := by
  have h := q_frac0 x hx n hn
  unfold f_X7_lowestTerm f_X8_fraction at h ⊢
  by_cases hu : u = 0
  · rw [if_pos hu, if_pos hu]
    rw [if_pos rfl, if_pos rfl] at h
    exact h.1
  · rw [if_neg hu, if_neg hu]
    have h2 := h.2
    rw [if_neg (show ¬ (1 : Int32) = 0 by decide), if_neg (show ¬ (1 : Int32) = 0 by decide)] at h2
    exact h2
