/-! a share: the sum in both, and that it is no negative number -/
def tgt (pg : Nat → Int32) (k P : Nat) : Nat := rk (fun o => k.testBit o) (fun o => (pg o).toNatClampNeg) P
theorem q_tgt7 {P k : Nat} {nw pg : Nat → Int32} (h5 : P ≤ 5) (hp : ∀ i, i < 15 → nw i = pg i) (hT : RTo P pg) (hk : k < 32) : ∀ n, n ≤ P → B_X7_factsTogether_4 nw (nI k) 0 n = nI (tgt pg k n) ∧ B_X8_share_33 pg k 0 n = nI (tgt pg k n) ∧ tgt pg k n < 64
  | 0, _ => ⟨rfl, rfl, (show (0 : Nat) < 64 by decide)⟩
  | n + 1, hn => by
    obtain ⟨a, b, c⟩ := q_tgt7 h5 hp hT hk n (by omega)
    have ht := hT.at (p := n) (by omega)
    have o := q_oo0 _ c _ ht.2
    have hb := q_hp0 k hk n (by omega)
    have e7 : f_X7_contains (nI k) (nI n) = f_X8_has (nI k) (nI n) := rfl
    have et : tgt pg k (n + 1) = if k.testBit n = true then tgt pg k n ||| (pg n).toNatClampNeg else tgt pg k n := rfl
    show S_X7_factsTogether_4 nw (nI k) n (B_X7_factsTogether_4 nw (nI k) 0 n) = _ ∧ S_X8_share_33 pg k n (B_X8_share_33 pg k 0 n) = _ ∧ _
    rw [a, b, et]
    unfold S_X7_factsTogether_4 S_X8_share_33
    rw [q_a0 nw (by omega), hp n (by omega), Nat.zero_add, e7, hb]
    by_cases h : k.testBit n = true
    · simp only [h, if_true, q_10, if_false]
      rw [ht.1, nI_clamp (by have := ht.2; omega)]
      exact ⟨o.1, o.1, o.2⟩
    · simp only [h, if_true, if_false]
      exact ⟨rfl, q_oz64 _ c, c⟩
/-- the facts of a company -/
def wv (nR : Nat) (ur pg : Nat → Int32) (P k : Nat) : Nat := mny (nI (cl ur nR (tgt pg k P))) 6
theorem q_val7 {P nR k : Nat} {nd gv ur nw pg : Nat → Int32} (h5 : P ≤ 5) (hp : ∀ i, i < 15 → nw i = pg i) (hT : RTo P pg) (hr : gR nR nd gv ur) (h4 : nR ≤ 4) (hk : k < 32) : f_J6_bitCount_0f7a4 (B_X5_closure_4 nR nd gv (B_X7_factsTogether_4 nw (nI k) 0 P) nR) = nI (wv nR ur pg P k) ∧ B_X8_many_4 (B_X8_closed_4 nR ur (B_X8_share_33 pg k 0 P) 4) 0 6 = nI (wv nR ur pg P k) := by
  obtain ⟨a, b, c⟩ := q_tgt7 h5 hp hT hk P (Nat.le_refl _)
  have hc := q_clo hr h4 c
  rw [a, b, hc.1, hc.2.1, q_bc0 _ hc.2.2, many_nf]
  exact ⟨rfl, rfl⟩
theorem q_vaL (P nR : Nat) (ur pg va : Nat → Int32) : ∀ n j, j < n → B_X8_share_17 P nR ur pg va n j = B_X8_many_4 (B_X8_closed_4 nR ur (B_X8_share_33 pg j 0 P) 4) 0 6
  | 0, j, h => absurd h (Nat.not_lt_zero _)
  | n + 1, j, h => by
    show upd (B_X8_share_17 P nR ur pg va n) n (B_X8_many_4 (B_X8_closed_4 nR ur (B_X8_share_33 pg n 0 P) 4) 0 6) j = _
    unfold upd
    by_cases e : j = n
    · rw [if_pos e, e]
    · rw [if_neg e, q_vaL P nR ur pg va n j (by omega)]
theorem q_and_sub {a b : Nat} (h : gSub a b) : a &&& b = a := by
  apply Nat.eq_of_testBit_eq
  intro i
  rw [Nat.testBit_and]
  by_cases ha : a.testBit i = true
  · rw [ha, h i ha]; rfl
  · have ha : a.testBit i = false := by simpa using ha
    rw [ha]; rfl
theorem q_mny0 : ∀ a, a < 64 → ∀ b, b < 64 → a &&& b = a → mny (nI a) 6 ≤ mny (nI b) 6 := by decide +kernel
theorem q_mny6 : ∀ a, a < 64 → mny (nI a) 6 ≤ 6 := fun a _ => mny_le _ 6
theorem anyB_mon {c d : Nat → Bool} (h : ∀ i, c i = true → d i = true) : ∀ n, anyB c n = true → anyB d n = true
  | 0, z => z
  | n + 1, z => by
    have z : (anyB c n || c n) = true := z
    show (anyB d n || d n) = true
    rcases Bool.or_eq_true_iff.mp z with z | z
    · rw [anyB_mon h n z]; rfl
    · rw [h n z, Bool.or_true]
theorem q_wmon {nR : Nat} {ur pg : Nat → Int32} {P k j : Nat} {nd gv : Nat → Int32} (hr : gR nR nd gv ur) (h4 : nR ≤ 4) (h1 : tgt pg k P < 64) (h2 : tgt pg j P < 64) (h : gSub k j) : wv nR ur pg P k ≤ wv nR ur pg P j := by
  have c1 := (q_clo hr h4 h1).2.2
  have c2 := (q_clo hr h4 h2).2.2
  apply q_mny0 _ c1 _ c2
  apply q_and_sub
  apply cl_mon
  intro b hb
  unfold tgt at hb ⊢
  rw [rk_bit] at hb ⊢
  refine anyB_mon (fun i z => ?_) P hb
  have z := Bool.and_eq_true_iff.mp z
  exact Bool.and_eq_true_iff.mpr ⟨h i z.1, z.2⟩
/-- the sum as a number -/
def sG (nR : Nat) (ur pg : Nat → Int32) (P p : Nat) : Nat → Nat
  | 0 => 0
  | k + 1 => if k.testBit p = true then sG nR ur pg P p k else sG nR ur pg P p k + fct (mny (nI k) 6) * fct (P - 1 - mny (nI k) 6) * (wv nR ur pg P (k ||| 2 ^ p) - wv nR ur pg P k)
theorem q_pop0 : ∀ k, k < 32 → pop5 k = mny (nI k) 6 := by decide +kernel
theorem q_two : ∀ P, P < 6 → ∀ p, p < P → ∀ k, k < 2 ^ P → (k ||| 2 ^ p) < 2 ^ P := by decide +kernel
theorem q_shS {P nR p : Nat} {nd gv ur nw pg : Nat → Int32} (va : Nat → Int32) (h5 : P ≤ 5) (hp : ∀ i, i < 15 → nw i = pg i) (hT : RTo P pg) (hr : gR nR nd gv ur) (h4 : nR ≤ 4) (hpp : p < P) : ∀ k, k ≤ 2 ^ P → B_X7_share_24 P nR nd gv nw (nI p) 0 k = nI (sG nR ur pg P p k) ∧ B_X8_share_101 P nR ur pg va (nI p) 0 k = nI (sG nR ur pg P p k) ∧ sG nR ur pg P p k ≤ k * 86400
  | 0, _ => ⟨rfl, rfl, Nat.zero_le _⟩
  | k + 1, hk => by
    have h32 := pow_le5 h5
    have hk5 : k < 32 := by omega
    obtain ⟨a, b, c⟩ := q_shS va h5 hp hT hr h4 hpp k (by omega)
    have hb := q_hp0 k hk5 p (by omega)
    have e7 : f_X7_contains (nI k) (nI p) = f_X8_has (nI k) (nI p) := rfl
    have eg : sG nR ur pg P p (k + 1) = if k.testBit p = true then sG nR ur pg P p k else sG nR ur pg P p k + fct (mny (nI k) 6) * fct (P - 1 - mny (nI k) 6) * (wv nR ur pg P (k ||| 2 ^ p) - wv nR ur pg P k) := rfl
    show S_X7_share_24 P nR nd gv nw (nI p) k (B_X7_share_24 P nR nd gv nw (nI p) 0 k) = nI (sG nR ur pg P p (k + 1)) ∧ S_X8_share_101 P nR ur pg va (nI p) k (B_X8_share_101 P nR ur pg va (nI p) 0 k) = nI (sG nR ur pg P p (k + 1)) ∧ sG nR ur pg P p (k + 1) ≤ (k + 1) * 86400
    rw [a, b]
    unfold S_X7_share_24 S_X8_share_101
    rw [e7]
    by_cases h : k.testBit p = true
    · have hz : f_X8_has (nI k) (nI p) = 1 := by rw [hb, if_pos h]
      rw [if_pos h] at eg
      rw [hz, eg]
      simp only [q_10, if_false]
      exact ⟨trivial, trivial, Nat.le_trans c (by rw [Nat.add_mul]; exact Nat.le_add_right _ _)⟩
    · have hz : f_X8_has (nI k) (nI p) = 0 := by rw [hb, if_neg h]
      rw [if_neg h] at eg
      rw [hz, eg]
      simp only [if_true]
      have hm := mny_sh0 P (by omega) p hpp k (by omega) hz
      have o := or_idx0 k hk5 p (by omega)
      have v1 := q_val7 h5 hp hT hr h4 hk5
      have v2 := q_val7 h5 hp hT hr h4 o.2
      have l1 := q_vaL P nR ur pg va (2 ^ P) k (by omega)
      have l2 := q_vaL P nR ur pg va (2 ^ P) (k ||| 2 ^ p) (q_two P (by omega) p hpp k (by omega))
      have t1 := (q_tgt7 h5 hp hT hk5 P (Nat.le_refl _)).2.2
      have t2 := (q_tgt7 h5 hp hT o.2 P (Nat.le_refl _)).2.2
      have wm : wv nR ur pg P k ≤ wv nR ur pg P (k ||| 2 ^ p) := q_wmon hr h4 t1 t2 (fun i hi => by rw [q_tb, hi]; rfl)
      have w6 : wv nR ur pg P (k ||| 2 ^ p) ≤ 6 := mny_le _ 6
      have f1 := fct_le (mny (nI k) 6) (by omega)
      have f2 := fct_le (P - 1 - mny (nI k) 6) (by omega)
      rw [nI_clamp (show p < 2 ^ 31 by omega), o.1, v1.1, v2.1, l1, l2, v1.2, v2.2, q_pop0 k hk5, fact_nat _ (by omega), fact_nat _ (by omega), ways_nat _ (by omega), ways_nat _ (by omega), nf_sub (rfl : nI (wv nR ur pg P (k ||| 2 ^ p)) = nI (wv nR ur pg P (k ||| 2 ^ p))) (rfl : nI (wv nR ur pg P k) = nI (wv nR ur pg P k)) wm, pk_mul, pk_mul, nI_add]
      refine ⟨rfl, rfl, ?_⟩
      have m1 : fct (mny (nI k) 6) * fct (P - 1 - mny (nI k) 6) ≤ 120 * 120 := Nat.mul_le_mul f1 f2
      have m2 : fct (mny (nI k) 6) * fct (P - 1 - mny (nI k) 6) * (wv nR ur pg P (k ||| 2 ^ p) - wv nR ur pg P k) ≤ 120 * 120 * 6 := Nat.mul_le_mul m1 (by omega)
      omega
/-! the common divisor -/
theorem q_gc0 : ∀ P, P < 6 → ∀ r, r < fct P → L_X7_commonDivisor_7 64 1 (nI (fct P)) (nI r) = nI (Nat.gcd r (fct P)) := by decide +kernel
theorem q_low {P a : Nat} (h5 : P ≤ 5) (ha : a < 2 ^ 31) (u : Int32) : f_X7_lowestTerm (nI a) (nI (fct P)) u = f_X8_fraction (nI a) (nI (fct P)) (fct P) u := by
  have fp := fct_pos0 P (by omega)
  have fl := fct_le P h5
  have e7 : L_X7_commonDivisor_7 (64 + 1) 0 (nI a) (nI (fct P)) = nI (Nat.gcd (fct P) a) := by
    show S_X7_commonDivisor_7 (L_X7_commonDivisor_7 64) 0 (nI a) (nI (fct P)) = _
    unfold S_X7_commonDivisor_7
    rw [if_neg (show ¬ (64 : Int32) ≤ nI 0 by decide), if_neg (fun z => absurd ((ceq rfl (nf_c 0) (by omega) (by decide)).mp z) (by omega)), nf_rem (rfl : nI a = nI a) (rfl : nI (fct P) = nI (fct P)) ha fp (by omega), q_gc0 P (by omega) _ (Nat.mod_lt _ fp), ← Nat.gcd_rec]
  have e8 := divisor_gcd (fct P + 1) a (fct P) (by omega) ha (by omega)
  have gp : 0 < Nat.gcd (fct P) a := Nat.gcd_pos_of_pos_left _ fp
  have gl : Nat.gcd (fct P) a ≤ fct P := Nat.gcd_le_left _ fp
  have g1 : ¬ nI (Nat.gcd (fct P) a) < 1 := fun z => absurd ((clt rfl (nf_c 1) (by omega) (by decide)).mp z) (by omega)
  unfold f_X7_lowestTerm f_X8_fraction
  rw [e7, e8, if_neg g1]
