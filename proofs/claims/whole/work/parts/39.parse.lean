/-! reading a text: byte by byte in the class, part by part in the model -/
theorem ps_at {nT : Nat} {tx utx : Nat → Int32} (h40 : nT ≤ 40) (hx : ∀ i, i < nT → tx i = utx i) {i : Nat} (hi : i < nT) : f_X2_at 40 tx (nI i) = utx i := by rw [q_at tx (by omega) (by decide), hx i hi]
theorem ps_btw (a most : Int32) : f_X8_in a.toInt64 0 most.toInt64 = f_X6_isBetween a most := by
  have e : f_X8_in a.toInt64 0 most.toInt64 = f_X8_in a.toInt64 (0 : Int32).toInt64 most.toInt64 := rfl
  rw [e, q_in3]
  unfold f_X6_isBetween
  by_cases h : a < 0
  · rw [if_pos h, if_pos h]
  · rw [if_neg h, if_neg h]
    by_cases h2 : a ≤ most
    · rw [if_pos h2, if_neg (fun z => Int32.lt_irrefl (Int32.lt_of_lt_of_le z h2))]
    · rw [if_neg h2, if_pos (Int32.not_le.mp h2)]
theorem ps_btw1 {a most : Int32} (h : ¬ f_X6_isBetween a most = 0) : ¬ a < 0 ∧ a ≤ most := by
  unfold f_X6_isBetween at h
  by_cases h0 : a < 0
  · rw [if_pos h0] at h; exact absurd rfl h
  · rw [if_neg h0] at h
    by_cases h2 : most < a
    · rw [if_pos h2] at h; exact absurd rfl h
    · exact ⟨h0, Int32.not_lt.mp h2⟩
theorem ps_sign {nT up : Nat} {utx : Nat → Int32} (h40 : nT ≤ 40) (h : up ≤ nT) (lo most : Int32) : (f_X8_sign nT up utx lo most = -9 ∧ f_X8_sign_up nT up utx lo most = up ∧ (up = nT ∨ (up < nT ∧ f_X6_isBetween (utx up - lo) most = 0))) ∨ (up < nT ∧ ¬ f_X6_isBetween (utx up - lo) most = 0 ∧ f_X8_sign nT up utx lo most = utx up - lo ∧ ¬ f_X8_sign nT up utx lo most = -9 ∧ f_X8_sign_up nT up utx lo most = up + 1 ∧ ¬ utx up - lo < 0 ∧ utx up - lo ≤ most) := by
  unfold f_X8_sign f_X8_sign_up
  rw [ps_btw, Nat.add_sub_cancel]
  by_cases e : up = nT
  · left
    rw [if_pos (by rw [e]), if_pos (by rw [e])]
    exact ⟨rfl, rfl, Or.inl e⟩
  · have ne : ¬ nI up = nI nT := fun z => e ((ceq rfl rfl (by omega) (by omega)).mp z)
    rw [if_neg ne, if_neg ne]
    by_cases hb : f_X6_isBetween (utx up - lo) most = 0
    · left
      rw [if_pos hb, if_pos hb]
      exact ⟨rfl, rfl, Or.inr ⟨by omega, hb⟩⟩
    · right
      rw [if_neg hb, if_neg hb]
      have b := ps_btw1 hb
      exact ⟨by omega, hb, rfl, fun z => b.1 (by rw [z]; decide), rfl, b⟩
theorem ps_end {nT : Nat} (tx : Nat → Int32) (h40 : nT ≤ 40) (h1 : 0 < nT) (n : Nat) : L_X6_firstFault_2 nT tx (n + 1) nT = if (nT - 1) % 4 = 0 then -9 else nI nT := by
  show S_X6_firstFault_2 nT tx (L_X6_firstFault_2 nT tx n) nT = _
  unfold S_X6_firstFault_2
  rw [if_pos (Int32.le_refl _), if_neg (fun z => absurd ((cle rfl (nf_c 0) (by omega) (by decide)).mp z) (by omega)), nf_rem (nf_sub (rfl : nI nT = nI nT) (nf_c 1) (by omega)) (nf_c 4) (by omega) (by decide) (by decide)]
  by_cases h : (nT - 1) % 4 = 0
  · rw [if_pos h, if_pos (by rw [h]; rfl)]
  · rw [if_neg h, if_neg (fun z => h ((ceq rfl (nf_c 0) (by omega) (by decide)).mp z))]
theorem ps_step {nT i : Nat} (tx : Nat → Int32) (h40 : nT ≤ 40) (hi : i < nT) (n : Nat) : L_X6_firstFault_2 nT tx (n + 1) i = if f_X6_fits tx (nI i) i = 0 then nI i else L_X6_firstFault_2 nT tx n (i + 1) := by
  show S_X6_firstFault_2 nT tx (L_X6_firstFault_2 nT tx n) i = _
  unfold S_X6_firstFault_2
  rw [if_neg (fun z => absurd ((cle rfl rfl (by omega) (by omega)).mp z) (by omega))]
theorem ps_fit0 {nT k P R : Nat} {tx utx : Nat → Int32} (h40 : nT ≤ 40) (hx : ∀ i, i < nT → tx i = utx i) (hu : 1 + 4 * k < nT) (hP : B_X6_partsAhead_5 tx 80 0 k = nI P) (hR : B_X6_partsAhead_5 tx 82 0 k = nI R) : f_X6_fits tx (nI (1 + 4 * k)) (1 + 4 * k) = if utx (1 + 4 * k) = 80 then (if 5 ≤ nI P then 0 else 1) else (if utx (1 + 4 * k) = 82 then (if 4 ≤ nI R then 0 else 1) else 0) := by
  unfold f_X6_fits f_X6_startsPart
  rw [if_neg (fun z => absurd ((ceq rfl (nf_c 0) (by omega) (by decide)).mp z) (by omega)), nf_rem (nf_sub (rfl : nI (1 + 4 * k) = nI (1 + 4 * k)) (nf_c 1) (by omega)) (nf_c 4) (by omega) (by decide) (by decide), if_pos (by rw [show (1 + 4 * k - 1) % 4 = 0 by omega]; rfl), ps_at h40 hx hu, show (1 + 4 * k + 2) / 4 = k by omega, hP, hR]
theorem ps_fito {nT k o : Nat} {tx utx : Nat → Int32} (h40 : nT ≤ 40) (hx : ∀ i, i < nT → tx i = utx i) (ho1 : 1 ≤ o) (ho3 : o ≤ 3) (hu : 1 + 4 * k + o < nT) : f_X6_fits tx (nI (1 + 4 * k + o)) (1 + 4 * k + o) = if utx (1 + 4 * k) = 82 then f_X6_isBetween (utx (1 + 4 * k + o) - 48) 5 else if o = 1 then f_X6_isBetween (utx (1 + 4 * k + o) - 48) 3 else f_X6_isBetween (utx (1 + 4 * k + o) - 97) 7 := by
  unfold f_X6_fits
  rw [if_neg (fun z => absurd ((ceq rfl (nf_c 0) (by omega) (by decide)).mp z) (by omega)), nf_rem (nf_sub (rfl : nI (1 + 4 * k + o) = nI (1 + 4 * k + o)) (nf_c 1) (by omega)) (nf_c 4) (by omega) (by decide) (by decide), show (1 + 4 * k + o - 1) % 4 = o by omega, if_neg (fun z => absurd ((ceq rfl (nf_c 0) (by omega) (by decide)).mp z) (by omega)), nf_sub (rfl : nI (1 + 4 * k + o) = nI (1 + 4 * k + o)) (rfl : nI o = nI o) (by omega), show 1 + 4 * k + o - o = 1 + 4 * k by omega, ps_at h40 hx (by omega), ps_at h40 hx hu]
  by_cases h : o = 1
  · rw [if_pos h, if_pos (show nI o = 1 by rw [h]; rfl)]
  · rw [if_neg h, if_neg (fun z => h ((ceq rfl (nf_c 1) (by omega) (by decide)).mp z))]
/-- one byte of a part, in both -/
theorem ps_byte {nT k o : Nat} {tx utx : Nat → Int32} (h40 : nT ≤ 40) (ho1 : 1 ≤ o) (ho3 : o ≤ 3) (hu : 1 + 4 * k + o ≤ nT) (lo most : Int32) (hf : 1 + 4 * k + o < nT → f_X6_fits tx (nI (1 + 4 * k + o)) (1 + 4 * k + o) = f_X6_isBetween (utx (1 + 4 * k + o) - lo) most) (n7 : Nat) (hn : nT - (1 + 4 * k + o) < n7) : (f_X8_sign nT (1 + 4 * k + o) utx lo most = -9 ∧ f_X8_sign_up nT (1 + 4 * k + o) utx lo most = 1 + 4 * k + o ∧ L_X6_firstFault_2 nT tx n7 (1 + 4 * k + o) = nI (1 + 4 * k + o)) ∨ (1 + 4 * k + o < nT ∧ f_X8_sign nT (1 + 4 * k + o) utx lo most = utx (1 + 4 * k + o) - lo ∧ ¬ f_X8_sign nT (1 + 4 * k + o) utx lo most = -9 ∧ f_X8_sign_up nT (1 + 4 * k + o) utx lo most = 1 + 4 * k + o + 1 ∧ ¬ utx (1 + 4 * k + o) - lo < 0 ∧ utx (1 + 4 * k + o) - lo ≤ most ∧ ∃ m, nT - (1 + 4 * k + o + 1) < m ∧ L_X6_firstFault_2 nT tx n7 (1 + 4 * k + o) = L_X6_firstFault_2 nT tx m (1 + 4 * k + o + 1)) := by
  obtain ⟨m, rfl⟩ : ∃ m, n7 = m + 1 := ⟨n7 - 1, by omega⟩
  rcases ps_sign (utx := utx) h40 hu lo most with ⟨a, b, c⟩ | ⟨a, b, c, d, e, f, g⟩
  · left
    refine ⟨a, b, ?_⟩
    rcases c with c | ⟨c, d⟩
    · have := ps_end tx h40 (by omega) m
      rw [← c] at this ⊢
      rw [this, if_neg (by omega)]
    · rw [ps_step tx h40 c, hf c, if_pos d]
  · right
    refine ⟨a, c, d, e, f, g, m, by omega, ?_⟩
    rw [ps_step tx h40 a, hf a, if_neg b]
/-- the state after k parts: the class's table half made, the model's reading -/
def PSt (tx kd0 nd0 gv0 nw0 : Nat → Int32) (k P R : Nat) (vk vt vr : Nat → Int32) : Prop := ∃ kd nd gv nw : Nat → Int32, B_X7_table_31 tx kd0 nd0 gv0 0 0 nw0 k = (kd, nd, gv, P, R, nw) ∧ P ≤ 5 ∧ R ≤ 4 ∧ (∀ q, q < P → kd q = vk q ∧ nw q = vt q ∧ nw (5 + q) = nI q) ∧ (∀ q, P ≤ q → q < 5 → nw q = 0 ∧ nw (5 + q) = 0) ∧ (∀ q, q < 5 → nw (10 + q) = 0) ∧ RTo P vt ∧ gR R nd gv vr ∧ B_X6_partsAhead_5 tx 80 0 k = nI P ∧ B_X6_partsAhead_5 tx 82 0 k = nI R
