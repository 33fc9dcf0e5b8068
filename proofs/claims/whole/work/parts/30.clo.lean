/-! closures: the class's rules as masks, the model's as numbers; both are the same steps over naturals -/
theorem q_at {sz k : Nat} (f : Nat → Int32) (hk : k < sz) (hs : sz < 2 ^ 31) : f_X2_at sz f (nI k) = f k := by
  unfold f_X2_at
  rw [if_neg (nI_pos (by omega)), if_neg (fun h => absurd ((cle rfl rfl hs (by omega)).mp h) (by omega)), nI_clamp (by omega)]
theorem q_put {sz k : Nat} (f : Nat → Int32) (v : Int32) (hk : k < sz) (hs : sz < 2 ^ 31) : f_X2_put_sf sz f (nI k) v = upd f k v := by
  unfold f_X2_put_sf
  rw [if_neg (nI_pos (by omega)), if_neg (fun h => absurd ((cle rfl rfl hs (by omega)).mp h) (by omega)), nI_clamp (by omega)]
theorem q_has0 : ∀ v, v < 64 → ∀ i, i < 6 → f_X8_has (nI v) (nI i) = if v.testBit i then 1 else 0 := by decide +kernel
theorem q_has {v i : Nat} (hv : v < 64) (hi : i < 6) : f_X8_has (nI v) (nI i) = if v.testBit i then 1 else 0 := q_has0 v hv i hi
theorem q_con {v i : Nat} (hv : v < 64) (hi : i < 6) : f_X7_contains (nI v) (nI i) = if v.testBit i then 1 else 0 := q_has0 v hv i hi
theorem q_sub0 : ∀ v, v < 64 → ∀ i, i < 6 → ∀ j, j < 6 → (decide (nI v &&& nI (2 ^ i ||| 2 ^ j) = nI (2 ^ i ||| 2 ^ j))) = (v.testBit i && v.testBit j) := by decide +kernel
theorem q_or0 : ∀ v, v < 64 → ∀ t, t < 6 → nI v ||| nI (2 ^ t) = nI (v ||| 2 ^ t) ∧ (nI v ||| ((1 : Int32) <<< (nI t &&& 31))) = nI (v ||| 2 ^ t) ∧ (v ||| 2 ^ t) < 64 := by decide +kernel
theorem q_or00 : ∀ v, v < 64 → nI v ||| 0 = nI v := by decide +kernel
def gS (ur : Nat → Int32) (k v : Nat) : Nat := if (v.testBit (ur (3 * k)).toNatClampNeg && v.testBit (ur (3 * k + 1)).toNatClampNeg) = true then v ||| 2 ^ (ur (3 * k + 2)).toNatClampNeg else v
def gP (ur : Nat → Int32) (v : Nat) : Nat → Nat
  | 0 => v
  | k + 1 => gS ur k (gP ur v k)
def gC (ur : Nat → Int32) (nR v : Nat) : Nat → Nat
  | 0 => v
  | k + 1 => gP ur (gC ur nR v k) nR
theorem gS_eq {nR k v : Nat} {nd gv ur : Nat → Int32} (hr : gR nR nd gv ur) (h4 : nR ≤ 4) (hk : k < nR) (hv : v < 64) : S_X5_closure_15 nd gv k (nI v) = nI (gS ur k v) ∧ S_X8_closed_12 ur k (nI v) = nI (gS ur k v) ∧ gS ur k v < 64 := by
  obtain ⟨i, j, t, hi, hj, ht, e1, e2, e3, e4, e5⟩ := hr k hk
  have s := q_sub0 v hv i hi j hj
  have o := q_or0 v hv t ht
  have z1 : ¬ ((if true = true then (1 : Int32) else 0) = 0) := by decide
  have z2 : (if false = true then (1 : Int32) else 0) = 0 := rfl
  unfold S_X5_closure_15 S_X8_closed_12 gS
  rw [q_at nd (by omega) (by decide), q_at gv (by omega) (by decide), e1, e2, e3, e4, e5, q_has hv hi, q_has hv hj, nI_clamp (by omega), nI_clamp (by omega), nI_clamp (by omega)]
  by_cases hb1 : v.testBit i = true
  · by_cases hb2 : v.testBit j = true
    · rw [hb1, hb2] at s ⊢
      rw [if_pos (of_decide_eq_true s), if_neg z1, if_neg z1, if_pos (show (true && true) = true from rfl)]
      exact o
    · have hb2 : v.testBit j = false := by simpa using hb2
      rw [hb1, hb2] at s ⊢
      rw [if_neg (of_decide_eq_false s), if_neg z1, if_pos z2, if_neg (show ¬ (true && false) = true by decide)]
      exact ⟨rfl, q_or00 v hv, hv⟩
  · have hb1 : v.testBit i = false := by simpa using hb1
    rw [hb1] at s ⊢
    rw [Bool.false_and] at s ⊢
    rw [if_neg (of_decide_eq_false s), if_pos z2, if_neg (show ¬ false = true by decide)]
    exact ⟨rfl, q_or00 v hv, hv⟩
theorem gP_eq {nR : Nat} {nd gv ur : Nat → Int32} (hr : gR nR nd gv ur) (h4 : nR ≤ 4) : ∀ (k v : Nat), v < 64 → k ≤ nR → B_X5_closure_15 nd gv (nI v) k = nI (gP ur v k) ∧ B_X8_closed_12 ur (nI v) k = nI (gP ur v k) ∧ gP ur v k < 64
  | 0, v, hv, _ => ⟨rfl, rfl, hv⟩
  | k + 1, v, hv, hk => by
    obtain ⟨a, b, c⟩ := gP_eq hr h4 k v hv (by omega)
    show S_X5_closure_15 nd gv k (B_X5_closure_15 nd gv (nI v) k) = _ ∧ S_X8_closed_12 ur k (B_X8_closed_12 ur (nI v) k) = _ ∧ _
    rw [a, b]
    exact gS_eq hr h4 (by omega) c
theorem gC_eq {nR : Nat} {nd gv ur : Nat → Int32} (hr : gR nR nd gv ur) (h4 : nR ≤ 4) : ∀ (k v : Nat), v < 64 → B_X5_closure_4 nR nd gv (nI v) k = nI (gC ur nR v k) ∧ B_X8_closed_4 nR ur (nI v) k = nI (gC ur nR v k) ∧ gC ur nR v k < 64
  | 0, v, hv => ⟨rfl, rfl, hv⟩
  | k + 1, v, hv => by
    obtain ⟨a, b, c⟩ := gC_eq hr h4 k v hv
    show S_X5_closure_4 nR nd gv k (B_X5_closure_4 nR nd gv (nI v) k) = _ ∧ S_X8_closed_4 nR ur k (B_X8_closed_4 nR ur (nI v) k) = _ ∧ _
    rw [a, b]
    exact gP_eq hr h4 nR _ c (Nat.le_refl _)
/-! a pass that gives anything fills a rule's mark; so after as many passes as rules nothing is new -/
theorem q_tb (n j i : Nat) : (n ||| 2 ^ j).testBit i = (n.testBit i || decide (i = j)) := by
  rw [Nat.testBit_or, Nat.testBit_two_pow]
  congr 1
  exact decide_eq_decide.mpr ⟨fun h => h.symm, fun h => h.symm⟩
def gSub (v w : Nat) : Prop := ∀ b, v.testBit b = true → w.testBit b = true
theorem gS_sup (ur : Nat → Int32) (k v : Nat) : gSub v (gS ur k v) := by
  intro b hb
  unfold gS
  split
  · rw [q_tb, hb]; rfl
  · exact hb
theorem gP_sup (ur : Nat → Int32) (v : Nat) : ∀ k, gSub v (gP ur v k)
  | 0 => fun b hb => hb
  | k + 1 => fun b hb => gS_sup ur k _ b (gP_sup ur v k b hb)
def gN (ur : Nat → Int32) (v : Nat) : Nat → Nat
  | 0 => 0
  | k + 1 => gN ur v k + (if v.testBit (ur (3 * k + 2)).toNatClampNeg = true then 1 else 0)
theorem gN_le (ur : Nat → Int32) (v : Nat) : ∀ n, gN ur v n ≤ n
  | 0 => Nat.le_refl _
  | n + 1 => by
    have := gN_le ur v n
    show gN ur v n + _ ≤ n + 1
    split <;> omega
theorem gN_mono (ur : Nat → Int32) {v w : Nat} (h : gSub v w) : ∀ n, gN ur v n ≤ gN ur w n
  | 0 => Nat.le_refl _
  | n + 1 => by
    have := gN_mono ur h n
    show gN ur v n + _ ≤ gN ur w n + _
    by_cases hb : v.testBit (ur (3 * n + 2)).toNatClampNeg = true
    · rw [if_pos hb, if_pos (h _ hb)]; omega
    · rw [if_neg hb]; omega
theorem gP_ne (ur : Nat → Int32) (v : Nat) : ∀ n, gP ur v n ≠ v → gN ur v n < gN ur (gP ur v n) n
  | 0, h => absurd rfl h
  | n + 1, h => by
    have hsup := gP_sup ur v n
    show gN ur v n + (if v.testBit (ur (3 * n + 2)).toNatClampNeg = true then 1 else 0) < gN ur (gS ur n (gP ur v n)) n + (if (gS ur n (gP ur v n)).testBit (ur (3 * n + 2)).toNatClampNeg = true then 1 else 0)
    by_cases he : gS ur n (gP ur v n) = gP ur v n
    · rw [he]
      have h2 : gP ur v n ≠ v := fun z => h (show gS ur n (gP ur v n) = v by rw [he, z])
      have ih := gP_ne ur v n h2
      by_cases hb : v.testBit (ur (3 * n + 2)).toNatClampNeg = true
      · rw [if_pos hb, if_pos (hsup _ hb)]; omega
      · rw [if_neg hb]; omega
    · have hm := gN_mono ur (fun b hb => gS_sup ur n _ b (hsup b hb)) n (v := v) (w := gS ur n (gP ur v n))
      have hw : ¬ (gP ur v n).testBit (ur (3 * n + 2)).toNatClampNeg = true := by
        intro z
        apply he
        unfold gS
        split
        · apply Nat.eq_of_testBit_eq
          intro i
          rw [q_tb]
          by_cases hi : i = (ur (3 * n + 2)).toNatClampNeg
          · rw [hi, z]; rfl
          · rw [decide_eq_false hi, Bool.or_false]
        · rfl
      have hy : (gS ur n (gP ur v n)).testBit (ur (3 * n + 2)).toNatClampNeg = true := by
        unfold gS at he ⊢
        split
        · rw [q_tb, decide_eq_true rfl, Bool.or_true]
        · rename_i hc
          rw [if_neg hc] at he
          exact absurd rfl he
      rw [if_pos hy, if_neg (fun z => hw (hsup _ z))]
      omega
theorem gC_fix0 (ur : Nat → Int32) (nR v : Nat) : ∀ k, gP ur (gC ur nR v k) nR = gC ur nR v k ∨ k ≤ gN ur (gC ur nR v k) nR
  | 0 => Or.inr (Nat.zero_le _)
  | k + 1 => by
    by_cases he : gP ur (gC ur nR v k) nR = gC ur nR v k
    · left
      show gP ur (gP ur (gC ur nR v k) nR) nR = gP ur (gC ur nR v k) nR
      rw [he, he]
    · right
      have h1 := gP_ne ur _ nR he
      show k + 1 ≤ gN ur (gP ur (gC ur nR v k) nR) nR
      rcases gC_fix0 ur nR v k with h2 | h2
      · exact absurd h2 he
      · omega
theorem gC_fix (ur : Nat → Int32) (nR v : Nat) : gP ur (gC ur nR v nR) nR = gC ur nR v nR := by
  by_cases he : gP ur (gC ur nR v nR) nR = gC ur nR v nR
  · exact he
  · exfalso
    have h1 := gP_ne ur _ nR he
    have h2 := gN_le ur (gP ur (gC ur nR v nR) nR) nR
    rcases gC_fix0 ur nR v nR with h3 | h3
    · exact he h3
    · omega
theorem gC_more (ur : Nat → Int32) (nR v : Nat) : ∀ m, gC ur nR v (nR + m) = gC ur nR v nR
  | 0 => rfl
  | m + 1 => by
    show gP ur (gC ur nR v (nR + m)) nR = _
    rw [gC_more ur nR v m, gC_fix]
/-- the closure, as a number -/
def cl (ur : Nat → Int32) (nR v : Nat) : Nat := gC ur nR v 4
theorem q_clo {nR v : Nat} {nd gv ur : Nat → Int32} (hr : gR nR nd gv ur) (h4 : nR ≤ 4) (hv : v < 64) : B_X5_closure_4 nR nd gv (nI v) nR = nI (cl ur nR v) ∧ B_X8_closed_4 nR ur (nI v) 4 = nI (cl ur nR v) ∧ cl ur nR v < 64 := by
  have a := gC_eq hr h4 nR v hv
  have b := gC_eq hr h4 4 v hv
  have e : gC ur nR v 4 = gC ur nR v nR := by
    have := gC_more ur nR v (4 - nR)
    rwa [show nR + (4 - nR) = 4 by omega] at this
  unfold cl
  refine ⟨?_, b.2.1, b.2.2⟩
  rw [a.1, e]
theorem gS_mon (ur : Nat → Int32) (k : Nat) {v w : Nat} (h : gSub v w) : gSub (gS ur k v) (gS ur k w) := by
  intro b hb
  unfold gS at hb ⊢
  by_cases hc : (v.testBit (ur (3 * k)).toNatClampNeg && v.testBit (ur (3 * k + 1)).toNatClampNeg) = true
  · rw [if_pos hc] at hb
    have h1 := Bool.and_eq_true_iff.mp hc
    rw [if_pos (Bool.and_eq_true_iff.mpr ⟨h _ h1.1, h _ h1.2⟩)]
    rw [q_tb] at hb ⊢
    rcases Bool.or_eq_true_iff.mp hb with h2 | h2
    · rw [h _ h2]; rfl
    · rw [h2, Bool.or_true]
  · rw [if_neg hc] at hb
    exact gS_sup ur k w b (h b hb)
theorem gP_mon (ur : Nat → Int32) {v w : Nat} (h : gSub v w) : ∀ k, gSub (gP ur v k) (gP ur w k)
  | 0 => h
  | k + 1 => gS_mon ur k (gP_mon ur h k)
theorem gC_mon (ur : Nat → Int32) (nR : Nat) {v w : Nat} (h : gSub v w) : ∀ k, gSub (gC ur nR v k) (gC ur nR w k)
  | 0 => h
  | k + 1 => gP_mon ur (gC_mon ur nR h k) nR
theorem cl_mon (ur : Nat → Int32) (nR : Nat) {v w : Nat} (h : gSub v w) : gSub (cl ur nR v) (cl ur nR w) := gC_mon ur nR h 4
