/-! one step over a seating, and both loops as folds of it -/
def figE (P : Nat) (t : Nat → Int32) : Nat → Int32
  | 0 => 0
  | k + 1 => 10 * figE P t k + B_X8_sitter_6 t (nI k) (-9) P + 1
def cntE (P nR : Nat) (uk ur t : Nat → Int32) (p f : Nat) (v : Int32) : Int32 := B_X8_many_4 (B_X8_knowersOf_6 P nR uk ur t (nI p) p (nI f) v 0 P) 0 6
def stepE (most n g0 : Int32) (b g : Int32) : Int32 × Int32 := if b = -9 then (n, g0) else if most = 0 then (if b ≤ n then (b, g) else (n, g0)) else (if n ≤ b then (b, g) else (n, g0))
def FE (P nR : Nat) (uk ur pg : Nat → Int32) (p f : Nat) (v most : Int32) (x : Int32 × Int32) (l : List Nat) : Int32 × Int32 := stepE most (cntE P nR uk ur (pE pg P l) p f v) (figE P (pE pg P l) P) x.1 x.2
theorem hears_cong {P : Nat} {uk t t' : Nat → Int32} (h : ∀ i, i < 15 → t i = t' i) {o p : Nat} (ho : o < 5) (hp : p < 5) (a b v : Int32) : f_X8_hears P uk t a o b p v = f_X8_hears P uk t' a o b p v := by
  unfold f_X8_hears f_X8_farOf
  rw [h (5 + o) (by omega), h (5 + p) (by omega)]
theorem know_cong {P nR : Nat} {uk ur t t' : Nat → Int32} (h5 : P ≤ 5) (h : ∀ i, i < 15 → t i = t' i) {p : Nat} (hp : p < 5) (a b v : Int32) : ∀ n, n ≤ P → B_X8_knowersOf_6 P nR uk ur t a p b v 0 n = B_X8_knowersOf_6 P nR uk ur t' a p b v 0 n
  | 0, _ => rfl
  | n + 1, hn => by
    show S_X8_knowersOf_6 P nR uk ur t a p b v n _ = S_X8_knowersOf_6 P nR uk ur t' a p b v n _
    rw [know_cong h5 h hp a b v n (by omega)]
    unfold S_X8_knowersOf_6
    rw [hears_cong h (by omega) hp, h (0 + n) (by omega)]
theorem sitter_cong {t t' : Nat → Int32} (h : ∀ i, i < 15 → t i = t' i) (s : Int32) : ∀ n, n ≤ 5 → B_X8_sitter_6 t s (-9) n = B_X8_sitter_6 t' s (-9) n
  | 0, _ => rfl
  | n + 1, hn => by
    show S_X8_sitter_6 t s n _ = S_X8_sitter_6 t' s n _
    rw [sitter_cong h s n (by omega)]
    unfold S_X8_sitter_6
    rw [h (5 + n) (by omega)]
theorem fig_cong {P : Nat} {t t' : Nat → Int32} (h5 : P ≤ 5) (h : ∀ i, i < 15 → t i = t' i) : ∀ n, figE P t n = figE P t' n
  | 0 => rfl
  | n + 1 => by
    show 10 * figE P t n + B_X8_sitter_6 t (nI n) (-9) P + 1 = 10 * figE P t' n + B_X8_sitter_6 t' (nI n) (-9) P + 1
    rw [fig_cong h5 h n, sitter_cong h _ P h5]
/-- a row that seats all, and person 0 as now -/
theorem row_ok {P r s0 : Nat} (h1 : 0 < P) (h5 : P ≤ 5) (hr : r < 2 ^ 31) {pg : Nat → Int32} (h0 : pg 5 = nI s0) (hs : s0 < P) (tr : Nat → Int32) : f_X8_laySeats P pg tr (nI r) r = (if okN P s0 r = true then 1 else 0) ∧ f_X8_laySeats_tr P pg tr (nI r) r = (B_X8_laySeats_8 P (nI r) r 0 (B_X8_begin_2 pg tr 15) P).2 ∧ (okN P s0 r = true → ∀ i, i < 15 → f_X8_laySeats_tr P pg tr (nI r) r i = pE pg P (mL P r) i) := by
  obtain ⟨a, b, c⟩ := lay_rel h1 h5 hr (B_X8_begin_2 pg tr 15) P (Nat.le_refl _)
  have et : f_X8_laySeats_tr P pg tr (nI r) r = (B_X8_laySeats_8 P (nI r) r 0 (B_X8_begin_2 pg tr 15) P).2 := by
    unfold f_X8_laySeats_tr
    split
    · split <;> rfl
    · rfl
  have p2 : (((1 : Int32) <<< ((nI P : Int32) &&& 31)) - 1) = nI (2 ^ P - 1) := (by decide +kernel : ∀ P, P < 6 → (((1 : Int32) <<< ((nI P : Int32) &&& 31)) - 1) = nI (2 ^ P - 1)) P (by omega)
  have l2 := pow_le5 h5
  have all : hadN P r P = 2 ^ P - 1 → ∀ q, q < P → stN P r q P ≠ 0 := fun e q hq => by
    have := had_st P r q P
    rw [e, Nat.testBit_two_pow_sub_one, decide_eq_true hq] at this
    exact of_decide_eq_true this.symm
  refine ⟨?_, et, fun hok i hi => ?_⟩
  · unfold f_X8_laySeats okN
    rw [a, p2]
    by_cases e : hadN P r P = 2 ^ P - 1
    · have c5 : (B_X8_laySeats_8 P (nI r) r 0 (B_X8_begin_2 pg tr 15) P).2 5 = nI (stN P r 0 P - 1) := by
        have := c 5
        rw [if_pos (show 5 ≤ 5 ∧ 5 < 5 + P ∧ stN P r (5 - 5) P ≠ 0 from ⟨Nat.le_refl _, by omega, all e 0 h1⟩)] at this
        exact this
      rw [if_pos (show nI (hadN P r P) = nI (2 ^ P - 1) by rw [e]), c5, h0]
      have n0 := all e 0 h1
      have nz : ∀ n, n ≤ P → stN P r 0 n ≤ n := by
        intro n
        induction n with
        | zero => intro _; exact Nat.le_refl _
        | succ n ih =>
          intro hn
          show (if dg P r n = 0 then n + 1 else stN P r 0 n) ≤ n + 1
          split
          · exact Nat.le_refl _
          · have := ih (by omega); omega
      have n1 := nz P (Nat.le_refl _)
      by_cases e2 : stN P r 0 P = s0 + 1
      · rw [if_pos (show nI (stN P r 0 P - 1) = nI s0 by rw [e2]; rfl), if_pos (by simp [e, e2])]
      · rw [if_neg (fun z => e2 (by have := (ceq rfl rfl (by omega) (by omega)).mp z; omega)), if_neg (by simp [e2])]
    · rw [if_neg (fun z => e ((ceq rfl rfl (by omega) (by omega)).mp z)), if_neg (by simp [e])]
  · unfold okN at hok
    have e : hadN P r P = 2 ^ P - 1 := by
      have := (Bool.and_eq_true_iff.mp hok).1
      simpa using this
    rw [et, c i]
    unfold pE
    by_cases hc : 5 ≤ i ∧ i < 5 + P
    · rw [if_pos ⟨hc.1, hc.2, all e _ (by omega)⟩, if_pos hc]
      unfold mL
      simp [List.getD, show i - 5 < P by omega]
    · rw [if_neg (fun h => hc ⟨h.1, h.2.1⟩), if_neg hc, begin_get, if_pos hi]
theorem find_105 (P : Nat) (pg x : Nat → Int32) (k : Nat) : ∀ n, B_X8_findSeats_105 P pg x k 0 n = figE P (f_X8_laySeats_tr P pg x (nI k) k) n
  | 0 => rfl
  | n + 1 => by
    show S_X8_findSeats_105 P pg x k n (B_X8_findSeats_105 P pg x k 0 n) = _
    rw [find_105 P pg x k n]
    rfl
theorem mod_fold {P nR s0 : Nat} {uk ur pg : Nat → Int32} (h1 : 0 < P) (h5 : P ≤ 5) (h0 : pg 5 = nI s0) (hs : s0 < P) {p f : Nat} (hp : p < 5) (v most : Int32) (tr : Nat → Int32) : ∀ n, n ≤ P ^ P → (B_X8_findSeats_15 P nR uk ur pg (nI p) p (nI f) v most tr (-9) (-9) n).2 = List.foldl (FE P nR uk ur pg p f v most) (-9, -9) (((List.range n).filter (okN P s0)).map (mL P))
  | 0, _ => rfl
  | n + 1, hn => by
    have ih := mod_fold (nR := nR) (uk := uk) (ur := ur) h1 h5 h0 hs (f := f) hp v most tr n (by omega)
    have hr : n < 2 ^ 31 := Nat.lt_of_lt_of_le (by omega) (Nat.le_trans (Nat.pow_le_pow_left h5 P) (Nat.le_trans (Nat.pow_le_pow_right (by decide) h5) (by decide)))
    rw [List.range_succ, List.filter_append, List.map_append, List.foldl_append, ← ih]
    have e : B_X8_findSeats_15 P nR uk ur pg (nI p) p (nI f) v most tr (-9) (-9) (n + 1) = S_X8_findSeats_15 P nR uk ur pg (nI p) p (nI f) v most n (B_X8_findSeats_15 P nR uk ur pg (nI p) p (nI f) v most tr (-9) (-9) n).1 (B_X8_findSeats_15 P nR uk ur pg (nI p) p (nI f) v most tr (-9) (-9) n).2.1 (B_X8_findSeats_15 P nR uk ur pg (nI p) p (nI f) v most tr (-9) (-9) n).2.2 := rfl
    rw [e]
    generalize (B_X8_findSeats_15 P nR uk ur pg (nI p) p (nI f) v most tr (-9) (-9) n).1 = x0
    generalize (B_X8_findSeats_15 P nR uk ur pg (nI p) p (nI f) v most tr (-9) (-9) n).2 = x1
    obtain ⟨ok1, ok2, ok3⟩ := row_ok h1 h5 hr h0 hs x0
    unfold S_X8_findSeats_15
    rw [ok1]
    by_cases ho : okN P s0 n = true
    · have hf : List.filter (okN P s0) [n] = [n] := by simp [ho]
      rw [hf]
      show _ = FE P nR uk ur pg p f v most x1 (mL P n)
      rw [if_neg (by rw [if_pos ho]; decide), find_105, know_cong h5 (ok3 ho) hp _ _ _ P (Nat.le_refl _), fig_cong h5 (ok3 ho)]
      unfold FE stepE cntE
      split
      · rfl
      · split
        · split <;> rfl
        · split <;> rfl
    · have hf : List.filter (okN P s0) [n] = [] := by simp [ho]
      rw [hf, if_pos (by rw [if_neg ho])]
      rfl
