set_option maxRecDepth 100000 in
theorem seat_c3 : ∀ P, P < 6 → ∀ s0, s0 < P → ∀ k, k < fct (P - 1) → cPg P s0 k 5 = nI s0 := by decide +kernel
def pE (pg : Nat → Int32) (P : Nat) (l : List Nat) : Nat → Int32 := fun i => if 5 ≤ i ∧ i < 5 + P then nI (l.getD (i - 5) 0) else pg i
theorem sit_at5 (f : Nat → Int32) : f_X2_at 15 f (5 + 0) = f 5 := by rw [show (5 + 0 : Int32) = nI 5 from rfl, q_at f (by decide) (by decide)]
theorem sit_put {x y a b : Nat → Int32} (h : ∀ i, i < 15 → (a i = b i ∧ b i ≠ -1) ∨ (a i = x i ∧ b i = y i)) (q : Int32) (v : Int32) (hv : v ≠ -1) : ∀ i, i < 15 → (f_X2_put_sf 15 a q v i = f_X2_put_sf 15 b q v i ∧ f_X2_put_sf 15 b q v i ≠ -1) ∨ (f_X2_put_sf 15 a q v i = x i ∧ f_X2_put_sf 15 b q v i = y i) := by
  intro i hi
  unfold f_X2_put_sf
  by_cases h0 : q < 0
  · rw [if_pos h0, if_pos h0]; exact h i hi
  · rw [if_neg h0, if_neg h0]
    by_cases h1 : nI 15 ≤ q
    · rw [if_pos h1, if_pos h1]; exact h i hi
    · rw [if_neg h1, if_neg h1]
      unfold upd
      by_cases e : i = q.toNatClampNeg
      · rw [if_pos e, if_pos e]; exact Or.inl ⟨rfl, hv⟩
      · rw [if_neg e, if_neg e]; exact h i hi
theorem sit_n1 : ∀ k, k < 5 → nI k ≠ -1 := by decide +kernel
theorem sit_rel {P : Nat} {x y : Nat → Int32} (h : x 5 = y 5) (i0 i1 i2 : Int32) : ∀ n, n ≤ 5 → (B_X1_sitInOrder_35 x P i0 i1 i2 x n).1 = (B_X1_sitInOrder_35 y P i0 i1 i2 y n).1 ∧ (B_X1_sitInOrder_35 x P i0 i1 i2 x n).2.1 = (B_X1_sitInOrder_35 y P i0 i1 i2 y n).2.1 ∧ (B_X1_sitInOrder_35 x P i0 i1 i2 x n).2.2.1 = (B_X1_sitInOrder_35 y P i0 i1 i2 y n).2.2.1 ∧ ∀ i, i < 15 → ((B_X1_sitInOrder_35 x P i0 i1 i2 x n).2.2.2 i = (B_X1_sitInOrder_35 y P i0 i1 i2 y n).2.2.2 i ∧ (B_X1_sitInOrder_35 y P i0 i1 i2 y n).2.2.2 i ≠ -1) ∨ ((B_X1_sitInOrder_35 x P i0 i1 i2 x n).2.2.2 i = x i ∧ (B_X1_sitInOrder_35 y P i0 i1 i2 y n).2.2.2 i = y i)
  | 0, _ => ⟨rfl, rfl, rfl, fun i _ => Or.inr ⟨rfl, rfl⟩⟩
  | n + 1, hn => by
    obtain ⟨a, b, c, d⟩ := sit_rel h i0 i1 i2 n (by omega) (P := P)
    have ex : B_X1_sitInOrder_35 x P i0 i1 i2 x (n + 1) = S_X1_sitInOrder_35 x P n (B_X1_sitInOrder_35 x P i0 i1 i2 x n).1 (B_X1_sitInOrder_35 x P i0 i1 i2 x n).2.1 (B_X1_sitInOrder_35 x P i0 i1 i2 x n).2.2.1 (B_X1_sitInOrder_35 x P i0 i1 i2 x n).2.2.2 := rfl
    have ey : B_X1_sitInOrder_35 y P i0 i1 i2 y (n + 1) = S_X1_sitInOrder_35 y P n (B_X1_sitInOrder_35 y P i0 i1 i2 y n).1 (B_X1_sitInOrder_35 y P i0 i1 i2 y n).2.1 (B_X1_sitInOrder_35 y P i0 i1 i2 y n).2.2.1 (B_X1_sitInOrder_35 y P i0 i1 i2 y n).2.2.2 := rfl
    rw [ex, ey, a, b, c]
    generalize (B_X1_sitInOrder_35 y P i0 i1 i2 y n).1 = u1
    generalize (B_X1_sitInOrder_35 y P i0 i1 i2 y n).2.1 = u2
    generalize (B_X1_sitInOrder_35 y P i0 i1 i2 y n).2.2.1 = u3
    generalize (B_X1_sitInOrder_35 x P i0 i1 i2 x n).2.2.2 = px at d ⊢
    generalize (B_X1_sitInOrder_35 y P i0 i1 i2 y n).2.2.2 = py at d ⊢
    unfold S_X1_sitInOrder_35
    rw [sit_at5, sit_at5, h]
    by_cases hc : nI n = y 5
    · rw [if_pos hc, if_pos hc]
      exact ⟨rfl, rfl, rfl, d⟩
    · rw [if_neg hc, if_neg hc]
      exact ⟨rfl, rfl, rfl, sit_put d _ _ (sit_n1 n (by omega))⟩
theorem cL_get {P s0 k q : Nat} (hq : q < P) : (cL P s0 k).getD q 0 = (cPg P s0 k (5 + q)).toNatClampNeg := by
  unfold cL
  simp [List.getD, hq]
/-- the draft after an order -/
theorem sit_page {P s0 k : Nat} (h5 : P < 6) (hs : s0 < P) (hk : k < fct (P - 1)) {d pg : Nat → Int32} (h0 : pg 5 = nI s0) (hd : ∀ i, i < 15 → ¬ (6 ≤ i ∧ i < 5 + P) → d i = pg i) : ∀ i, i < 15 → (B_X1_sitInOrder_35 d P (((1 : Int32) <<< ((nI P : Int32) &&& 31)) - 2) (B_X7_factorial_4 1 ((P - 1) - 1)) (nI k) d P).2.2.2 i = pE pg P (cL P s0 k) i := by
  intro i hi
  have hd5 : d 5 = sentP s0 5 := by rw [hd 5 (by omega) (by omega), h0]; rfl
  have hr := (sit_rel (P := P) hd5 (((1 : Int32) <<< ((nI P : Int32) &&& 31)) - 2) (B_X7_factorial_4 1 ((P - 1) - 1)) (nI k) P (by omega)).2.2.2 i hi
  have c2 := seat_c2 P h5 s0 hs k hk i hi
  have c3 := seat_c3 P h5 s0 hs k hk
  unfold pE
  change (_ = cPg P s0 k i ∧ cPg P s0 k i ≠ -1) ∨ (_ ∧ cPg P s0 k i = sentP s0 i) at hr
  by_cases hc : 5 ≤ i ∧ i < 5 + P
  · rw [if_pos hc] at c2 ⊢
    rw [cL_get (by omega), show 5 + (i - 5) = i by omega, ← c2]
    rcases hr with ⟨e, _⟩ | ⟨e, e2⟩
    · exact e
    · by_cases i5 : i = 5
      · subst i5
        rw [e, c3, hd 5 (by omega) (by omega), h0]
      · exfalso
        unfold sentP at e2
        rw [if_neg i5] at e2
        have hp := seat_c1 P h5 s0 hs k hk
        have hl : (cL P s0 k).getD (i - 5) 0 < P := by
          unfold permL at hp
          have := (Bool.and_eq_true_iff.mp hp).1
          exact of_decide_eq_true (List.all_eq_true.mp this (i - 5) (List.mem_range.mpr (by omega)))
        rw [cL_get (by omega), show 5 + (i - 5) = i by omega] at hl
        rw [e2] at c2
        exact absurd c2.symm (by rw [e2] at hl; exact sit_n1 _ (by omega))
  · rw [if_neg hc] at c2 ⊢
    rcases hr with ⟨e, e1⟩ | ⟨e, e2⟩
    · exact absurd c2 e1
    · rw [e, hd i hi (by omega)]
theorem perm_sit {P : Nat} {l : List Nat} (h : permL P l = true) (pg : Nat → Int32) : Sit P (pE pg P l) (fun i => l.getD i 0) := by
  unfold permL at h
  obtain ⟨h1, h2⟩ := Bool.and_eq_true_iff.mp h
  obtain ⟨h2, h3⟩ := Bool.and_eq_true_iff.mp h2
  refine ⟨fun i hi => ⟨?_, ?_⟩, fun j hj => ?_, fun i hi j hj e => ?_⟩
  · unfold pE
    rw [if_pos (by omega), show 5 + i - 5 = i by omega]
  · exact of_decide_eq_true (List.all_eq_true.mp h1 i (List.mem_range.mpr hi))
  · obtain ⟨i, hi, e⟩ := List.any_eq_true.mp (List.all_eq_true.mp h2 j (List.mem_range.mpr hj))
    exact ⟨i, List.mem_range.mp hi, by simpa using e⟩
  · have := List.all_eq_true.mp (List.all_eq_true.mp h3 i (List.mem_range.mpr hi)) j (List.mem_range.mpr hj)
    have e : l.getD i 0 = l.getD j 0 := e
    rw [e] at this
    simpa using this
/-! the model's rows -/
theorem had_st (P r : Nat) (q : Nat) : ∀ n, (hadN P r n).testBit q = decide (stN P r q n ≠ 0)
  | 0 => by show Nat.testBit 0 q = decide ((0 : Nat) ≠ 0); rw [Nat.zero_testBit]; rfl
  | n + 1 => by
    show (hadN P r n ||| 2 ^ dg P r n).testBit q = decide ((if dg P r n = q then n + 1 else stN P r q n) ≠ 0)
    rw [q_tb, had_st P r q n]
    by_cases e : dg P r n = q
    · rw [if_pos e, decide_eq_true (show q = dg P r n from e.symm), Bool.or_true]; simp
    · rw [if_neg e, decide_eq_false (show ¬ q = dg P r n from fun z => e z.symm), Bool.or_false]
theorem lay_rel {P r : Nat} (h1 : 0 < P) (h5 : P ≤ 5) (hr : r < 2 ^ 31) (z : Nat → Int32) : ∀ n, n ≤ P → (B_X8_laySeats_8 P (nI r) r 0 z n).1 = nI (hadN P r n) ∧ hadN P r n < 32 ∧ ∀ i, (B_X8_laySeats_8 P (nI r) r 0 z n).2 i = if 5 ≤ i ∧ i < 5 + P ∧ stN P r (i - 5) n ≠ 0 then nI (stN P r (i - 5) n - 1) else z i
  | 0, _ => ⟨rfl, (show (0 : Nat) < 32 by decide), fun i => by rw [if_neg (fun h => h.2.2 rfl)]; rfl⟩
  | n + 1, hn => by
    obtain ⟨a, b, c⟩ := lay_rel h1 h5 hr z n (by omega)
    have hd : dg P r n < P := Nat.mod_lt _ h1
    have pw : P ^ (P - 1 - n) < 2 ^ 31 := Nat.lt_of_le_of_lt (Nat.pow_le_pow_left h5 _) (Nat.lt_of_le_of_lt (Nat.pow_le_pow_right (by decide) (show P - 1 - n ≤ 5 by omega)) (by decide))
    have hh : h_X8_laySeats_38 P (nI r) n = nI (dg P r n) := by
      unfold h_X8_laySeats_38 dg
      rw [pow_nf, nf_div (rfl : nI r = nI r) (rfl : nI (P ^ (P - 1 - n)) = nI (P ^ (P - 1 - n))) hr (Nat.pow_pos h1) pw]
      exact nf_rem rfl rfl (Nat.lt_of_le_of_lt (Nat.div_le_self _ _) hr) h1 (by omega)
    have o := q_om0 _ b (dg P r n) (by omega)
    refine ⟨?_, Nat.or_lt_two_pow (n := 5) b (Nat.pow_lt_pow_right (by decide) (by omega)), fun i => ?_⟩
    · show (B_X8_laySeats_8 P (nI r) r 0 z n).1 ||| ((1 : Int32) <<< ((h_X8_laySeats_38 P (nI r) n) &&& 31)) = _
      rw [a, hh, o]; rfl
    · show upd (B_X8_laySeats_8 P (nI r) r 0 z n).2 (5 + dg P r n) (nI n) i = if 5 ≤ i ∧ i < 5 + P ∧ (if dg P r n = i - 5 then n + 1 else stN P r (i - 5) n) ≠ 0 then nI ((if dg P r n = i - 5 then n + 1 else stN P r (i - 5) n) - 1) else z i
      unfold upd
      by_cases e : i = 5 + dg P r n
      · rw [if_pos e, if_pos (show dg P r n = i - 5 by omega), if_pos ⟨by omega, by omega, by omega⟩]
        rfl
      · rw [if_neg e, c i]
        by_cases e2 : dg P r n = i - 5
        · rw [if_neg (by omega), if_neg (by omega)]
        · rw [if_neg e2]
