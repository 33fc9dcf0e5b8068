/-! sums over people; one told more or less; seats changed; the seen -/
theorem q_fines {nw pg : Nat → Int32} (h : ∀ i, i < 15 → nw i = pg i) : ∀ k, k ≤ 5 → B_X1_allFines_4 nw 0 k = B_X8_finesOf_4 pg 0 k
  | 0, _ => rfl
  | k + 1, hk => by
    show B_X1_allFines_4 nw 0 k + f_X2_at 15 nw (10 + nI k) = B_X8_finesOf_4 pg 0 k + pg (10 + k)
    rw [q_fines h k (by omega), q_a10 nw (by omega), h _ (by omega)]
theorem q_known {P nR : Nat} {nd gv ur nw pg : Nat → Int32} (h5 : P ≤ 5) (h : ∀ i, i < 15 → nw i = pg i) (hT : RTo P pg) (hr : gR nR nd gv ur) (h4 : nR ≤ 4) : ∀ k, k ≤ P → B_X1_knownBySomebody_4 nw nR nd gv 0 k = B_X8_about_9 nR ur pg 0 k
  | 0, _ => rfl
  | k + 1, hk => by
    show B_X1_knownBySomebody_4 nw nR nd gv 0 k ||| B_X5_closure_4 nR nd gv (f_X2_at 15 nw (0 + nI k)) nR = B_X8_about_9 nR ur pg 0 k ||| B_X8_closed_4 nR ur (pg (0 + k)) 4
    have ht := hT.at (p := k) (by omega)
    have hc := q_clo hr h4 ht.2
    rw [q_known h5 h hT hr h4 k (by omega), q_a0 nw (by omega), Nat.zero_add, h _ (by omega), ht.1, hc.1, hc.2.1]
theorem q_clr0 : ∀ t, t < 64 → ∀ f, f < 6 → (nI t &&& (((1 : Int32) <<< (nI f &&& 31)) ^^^ (-1))) = nI (t &&& (63 ^^^ 2 ^ f)) ∧ (t &&& (63 ^^^ 2 ^ f)) < 64 := by decide +kernel
theorem q_setTold {P : Nat} {nw pg : Nat → Int32} (h5 : P ≤ 5) (hP : RPag P nw pg) {p u : Nat} (hp : p < P) (hu : u < 64) : RPag P (upd nw p (nI u)) (upd pg p (nI u)) := by
  obtain ⟨h1, h2, sg, h3, h4⟩ := hP
  refine ⟨q_updp h1 p rfl, fun q hq => ?_, sg, fun i hi => ?_, h4⟩
  · unfold upd
    split
    · exact ⟨u, hu, rfl⟩
    · exact h2 q hq
  · unfold upd
    rw [if_neg (by omega)]
    exact h3 i hi
theorem q_swap {P : Nat} {nw pg : Nat → Int32} (h5 : P ≤ 5) (hP : RPag P nw pg) {p r : Nat} (hp : p < P) (hr : r < P) (hn : p ≠ r) : RPag P (upd (upd nw (5 + p) (nw (5 + r))) (5 + r) (nw (5 + p))) (upd (upd pg (5 + p) (pg (5 + r))) (5 + r) (pg (5 + p))) := by
  obtain ⟨h1, h2, sg, h3, h4, h6⟩ := hP
  refine ⟨q_updp (q_updp h1 _ (h1 _ (by omega))) _ (h1 _ (by omega)), fun q hq => ?_, fun i => if i = r then sg p else if i = p then sg r else sg i, fun i hi => ?_, fun j hj => ?_, fun i hi j hj e => ?_⟩
  · unfold upd
    rw [if_neg (by omega), if_neg (by omega)]
    exact h2 q hq
  · unfold upd
    dsimp only
    by_cases e1 : i = r
    · rw [if_pos (by omega), if_pos e1]; exact h3 p hp
    · rw [if_neg (by omega), if_neg e1]
      by_cases e2 : i = p
      · rw [if_pos (by omega), if_pos e2]; exact h3 r hr
      · rw [if_neg (by omega), if_neg e2]; exact h3 i hi
  · obtain ⟨i, hi, e⟩ := h4 j hj
    by_cases e1 : i = r
    · refine ⟨p, hp, ?_⟩
      dsimp only
      rw [if_neg hn, if_pos rfl, ← e1, e]
    · by_cases e2 : i = p
      · refine ⟨r, hr, ?_⟩
        dsimp only
        rw [if_pos rfl, ← e2, e]
      · refine ⟨i, hi, ?_⟩
        dsimp only
        rw [if_neg e1, if_neg e2, e]
  · dsimp only at e
    by_cases i1 : i = r <;> by_cases j1 : j = r <;> by_cases i2 : i = p <;> by_cases j2 : j = p <;> simp only [i1, j1, i2, j2, if_true, if_false] at e <;> (try omega)
    all_goals first
      | (have := h6 _ (by omega) _ (by omega) e; omega)
      | (split at e <;> first | (have := h6 _ (by omega) _ (by omega) e; omega) | (split at e <;> (have := h6 _ (by omega) _ (by omega) e; omega)))
theorem suN_upd (sF sS : Nat → Int32) (u : Nat) (x y : Int32) : ∀ n, n ≤ u → suN (upd sF u x) (upd sS u y) n = suN sF sS n
  | 0, _ => rfl
  | n + 1, h => by
    show (if upd sS u y n = 1 then suN (upd sF u x) (upd sS u y) n ||| ((1 : Int32) <<< (upd sF u x n &&& 31)) else suN (upd sF u x) (upd sS u y) n) = _
    rw [suN_upd sF sS u x y n (by omega)]
    unfold upd
    rw [if_neg (show ¬ n = u by omega), if_neg (show ¬ n = u by omega)]
    rfl
theorem spN_upd (sF sS : Nat → Int32) (u : Nat) (x y : Int32) : ∀ n, n ≤ u → spN (upd sF u x) (upd sS u y) n = spN sF sS n
  | 0, _ => rfl
  | n + 1, h => by
    show (if upd sS u y n = 1 then spN (upd sF u x) (upd sS u y) n else spN (upd sF u x) (upd sS u y) n ||| ((1 : Int32) <<< (upd sF u x n &&& 31))) = _
    rw [spN_upd sF sS u x y n (by omega)]
    unfold upd
    rw [if_neg (show ¬ n = u by omega), if_neg (show ¬ n = u by omega)]
    rfl
theorem upd_at (f : Nat → Int32) (k : Nat) (v : Int32) : upd f k v k = v := by unfold upd; rw [if_pos rfl]
/-- one more is seen -/
theorem q_seen {sc su sp : Int32} {us : Nat} {sF sS : Nat → Int32} (h : RSee sc su sp us sF sS) (hu : us < 6) {f : Nat} (hf : f < 6) : RSee (sc + 1) (su ||| ((1 : Int32) <<< (nI f &&& 31))) sp (us + 1) (upd sF us (nI f)) (upd sS us 1) ∧ RSee (sc + 1) su (sp ||| ((1 : Int32) <<< (nI f &&& 31))) (us + 1) (upd sF us (nI f)) (upd sS us 0) := by
  obtain ⟨h1, h2, h3, h4, h5⟩ := h
  have hk : ∀ y : Int32, y = 0 ∨ y = 1 → ∀ k, k < us + 1 → (∃ g, g < 6 ∧ upd sF us (nI f) k = nI g) ∧ (upd sS us y k = 0 ∨ upd sS us y k = 1) := by
    intro y hy k hk
    unfold upd
    by_cases e : k = us
    · rw [if_pos e, if_pos e]; exact ⟨⟨f, hf, rfl⟩, hy⟩
    · rw [if_neg e, if_neg e]; exact h5 k (by omega)
  have hs : sc + 1 = nI (us + 1) := nf_add h1 (nf_c 1)
  refine ⟨⟨hs, by omega, ?_, ?_, hk 1 (Or.inr rfl)⟩, ⟨hs, by omega, ?_, ?_, hk 0 (Or.inl rfl)⟩⟩
  · show _ = if upd sS us 1 us = 1 then suN (upd sF us (nI f)) (upd sS us 1) us ||| ((1 : Int32) <<< (upd sF us (nI f) us &&& 31)) else suN (upd sF us (nI f)) (upd sS us 1) us
    rw [upd_at, if_pos rfl, upd_at, suN_upd _ _ _ _ _ _ (Nat.le_refl _), h3]
  · show _ = if upd sS us 1 us = 1 then spN (upd sF us (nI f)) (upd sS us 1) us else spN (upd sF us (nI f)) (upd sS us 1) us ||| ((1 : Int32) <<< (upd sF us (nI f) us &&& 31))
    rw [upd_at, if_pos rfl, spN_upd _ _ _ _ _ _ (Nat.le_refl _), h4]
  · show _ = if upd sS us 0 us = 1 then suN (upd sF us (nI f)) (upd sS us 0) us ||| ((1 : Int32) <<< (upd sF us (nI f) us &&& 31)) else suN (upd sF us (nI f)) (upd sS us 0) us
    rw [upd_at, if_neg (by decide), suN_upd _ _ _ _ _ _ (Nat.le_refl _), h3]
  · show _ = if upd sS us 0 us = 1 then spN (upd sF us (nI f)) (upd sS us 0) us else spN (upd sF us (nI f)) (upd sS us 0) us ||| ((1 : Int32) <<< (upd sF us (nI f) us &&& 31))
    rw [upd_at, if_neg (by decide), upd_at, spN_upd _ _ _ _ _ _ (Nat.le_refl _), h4]
theorem q_fs0 : ∀ b, b < 4 → ∀ k, k < 2 → (nI b ||| ((1 : Int32) <<< (nI k &&& 31))) = nI (b ||| 2 ^ k) ∧ (b ||| 2 ^ k) < 4 := by decide +kernel
theorem q_fc0 : ∀ b, b < 4 → ∀ k, k < 2 → f_X7_contains (nI b) (nI k) = if b.testBit k then 1 else 0 := by decide +kernel
/-- a slot is filled -/
theorem q_keepS {P : Nat} {fs : Int32} {sl kp ik nw pg : Nat → Int32} (h5 : P ≤ 5) (hS : RSlt P fs sl kp ik) (hP : RPag P nw pg) {k : Nat} (hk : k < 2) : RSlt P (fs ||| ((1 : Int32) <<< (nI k &&& 31))) (B_X2_copy_3 30 15 nw (nI k * 15) 0 sl 15) (B_X8_keep_26 pg (nI k) kp 15) (upd ik k 1) := by
  obtain ⟨b, hb, e, h⟩ := hS
  have f0 := q_fs0 b hb k hk
  rw [e, f0.1, nf_mul (rfl : nI k = nI k) (nf_c 15)]
  refine ⟨_, f0.2, rfl, fun j hj => ?_⟩
  have hcp := q_copy (sz := 30) (sy := 15) (a := k * 15) (b := 0) nw sl (by decide) (by decide) 15 (by omega) (by omega)
  have hkl := q_keepL pg kp (nI k) 15
  rw [nI_clamp (by omega)] at hkl
  by_cases ej : j = k
  · subst ej
    have eb : ∀ i, i < 15 → B_X8_keep_26 pg (nI j) kp 15 (15 * j + i) = pg i := fun i hi => by
      rw [hkl, if_pos (by omega), show 15 * j + i - 15 * j = i by omega]
    refine ⟨?_, fun _ => ⟨fun i hi => ?_, hP.2.of h5 eb⟩⟩
    · rw [upd_at, q_tb, decide_eq_true rfl, Bool.or_true, if_pos rfl]
    · rw [eb i hi, ← hP.1 i hi, show (0 : Int32) = nI 0 from rfl, hcp, if_pos (by omega)]
      congr 1
      omega
  · have hj2 := h j hj
    have eb : ∀ i, i < 15 → B_X8_keep_26 pg (nI k) kp 15 (15 * j + i) = kp (15 * j + i) := fun i hi => by
      rw [hkl, if_neg (by omega)]
    rw [q_tb, decide_eq_false ej, Bool.or_false]
    refine ⟨?_, fun hbt => ⟨fun i hi => ?_, (hj2.2 hbt).2.of h5 eb⟩⟩
    · unfold upd
      rw [if_neg ej]
      exact hj2.1
    · rw [eb i hi, ← (hj2.2 hbt).1 i hi, show (0 : Int32) = nI 0 from rfl, hcp, if_neg (by omega)]
