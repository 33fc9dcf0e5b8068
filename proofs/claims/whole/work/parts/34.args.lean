/-! what is asked of arguments, in both -/
theorem q_10 : ((1 : Int32) = 0) = False := eq_false (by decide)
theorem q_per {P : Nat} (h5 : P ≤ 5) (a : Int32) : (f_X7_isPerson P a = 0 ∧ f_X8_noPerson P a = 1) ∨ ∃ p, p < P ∧ a = nI p ∧ f_X7_isPerson P a = 1 ∧ f_X8_noPerson P a = 0 := by
  have e := noPerson_eq P h5 a
  by_cases h : f_X7_isPerson P a = 0
  · left; rw [if_pos h] at e; exact ⟨h, e⟩
  · right
    rw [if_neg h] at e
    have t := isPerson_tn h5 h
    refine ⟨_, t.2, t.1, ?_, e⟩
    have := isPerson_ok h
    unfold f_X7_isPerson
    rw [if_neg this.1, if_neg this.2]
theorem q_in2 (a : Int32) {x y : Int32} : f_X8_in a.toInt64 x.toInt64 y.toInt64 = if x ≤ a ∧ a ≤ y then 1 else 0 := in_i32 a x y
theorem q_fac (a : Int32) : (f_X7_isFact a = 0 ∧ f_X8_noFact a = 1) ∨ ∃ f, f < 6 ∧ a = nI f ∧ f_X7_isFact a = 1 ∧ f_X8_noFact a = 0 := by
  have e : f_X8_noFact a = if f_X8_in a.toInt64 (0 : Int32).toInt64 (5 : Int32).toInt64 = 0 then 1 else 0 := rfl
  rw [q_in2] at e
  unfold f_X7_isFact
  by_cases h0 : a < 0
  · left
    rw [if_neg (show ¬ (0 ≤ a ∧ a ≤ 5) from fun z => Int32.lt_irrefl (Int32.lt_of_lt_of_le h0 z.1)), if_pos rfl] at e
    exact ⟨if_pos h0, e⟩
  · by_cases h6 : 6 ≤ a
    · left
      have hn : ¬ (0 ≤ a ∧ a ≤ 5) := fun z => by
        have := Int32.le_trans h6 z.2
        exact absurd this (by decide)
      rw [if_neg hn, if_pos rfl] at e
      refine ⟨?_, e⟩
      rw [if_neg h0, if_pos h6]
    · right
      have t := nf_tn h0
      have hl : a.toNatClampNeg < 6 := tn_lt h0 h6 (nf_c 6) (by decide)
      have hp : 0 ≤ a ∧ a ≤ 5 := ⟨Int32.not_lt.mp h0, (cle t (nf_c 5) (by omega) (by decide)).mpr (by omega)⟩
      rw [if_pos hp, if_neg (show ¬ (1 : Int32) = 0 by decide)] at e
      refine ⟨_, hl, t, ?_, e⟩
      rw [if_neg h0, if_neg h6]
theorem q_voi (a : Int32) : (f_X7_isVoice a = 0 ∧ f_X8_in a.toInt64 1 2 = 0) ∨ (f_X7_isVoice a = 1 ∧ f_X8_in a.toInt64 1 2 = 1) := by
  have e : f_X8_in a.toInt64 1 2 = f_X8_in a.toInt64 (1 : Int32).toInt64 (2 : Int32).toInt64 := rfl
  rw [q_in2] at e
  unfold f_X7_isVoice
  by_cases h0 : a < 1
  · left
    rw [if_neg (fun z => Int32.lt_irrefl (Int32.lt_of_lt_of_le h0 z.1))] at e
    exact ⟨if_pos h0, e⟩
  · by_cases h6 : 2 < a
    · left
      rw [if_neg (fun z => Int32.lt_irrefl (Int32.lt_of_lt_of_le h6 z.2))] at e
      refine ⟨?_, e⟩
      rw [if_neg h0, if_pos h6]
    · right
      rw [if_pos ⟨Int32.not_lt.mp h0, Int32.not_lt.mp h6⟩] at e
      refine ⟨?_, e⟩
      rw [if_neg h0, if_neg h6]
theorem q_slo (a : Int32) : (f_X7_isSlot a = 0 ∧ f_X8_in a.toInt64 0 1 = 0) ∨ ∃ k, k < 2 ∧ a = nI k ∧ f_X7_isSlot a = 1 ∧ f_X8_in a.toInt64 0 1 = 1 := by
  have e : f_X8_in a.toInt64 0 1 = f_X8_in a.toInt64 (0 : Int32).toInt64 (1 : Int32).toInt64 := rfl
  rw [q_in2] at e
  unfold f_X7_isSlot
  by_cases h0 : a < 0
  · left
    rw [if_neg (fun z => Int32.lt_irrefl (Int32.lt_of_lt_of_le h0 z.1))] at e
    exact ⟨if_pos h0, e⟩
  · by_cases h6 : 2 ≤ a
    · left
      have hn : ¬ (0 ≤ a ∧ a ≤ 1) := fun z => by
        have := Int32.le_trans h6 z.2
        exact absurd this (by decide)
      rw [if_neg hn] at e
      refine ⟨?_, e⟩
      rw [if_neg h0, if_pos h6]
    · right
      have t := nf_tn h0
      have hl : a.toNatClampNeg < 2 := tn_lt h0 h6 (nf_c 2) (by decide)
      have hp : 0 ≤ a ∧ a ≤ 1 := ⟨Int32.not_lt.mp h0, (cle t (nf_c 1) (by omega) (by decide)).mpr (by omega)⟩
      rw [if_pos hp] at e
      refine ⟨_, hl, t, ?_, e⟩
      rw [if_neg h0, if_neg h6]
/-- refused to say, in both -/
theorem q_ref {P : Nat} (h5 : P ≤ 5) (a1 a2 a3 : Int32) : (f_X8_noPerson P a1 = 1 ∧ f_X7_refusalToSay P a1 a2 a3 = -1) ∨ (f_X8_noPerson P a1 = 0 ∧ f_X8_noFact a2 = 1 ∧ f_X7_refusalToSay P a1 a2 a3 = -1) ∨ (f_X8_noPerson P a1 = 0 ∧ f_X8_noFact a2 = 0 ∧ f_X8_in a3.toInt64 1 2 = 0 ∧ f_X7_refusalToSay P a1 a2 a3 = -2) ∨ ∃ p f, p < P ∧ f < 6 ∧ a1 = nI p ∧ a2 = nI f ∧ f_X8_noPerson P a1 = 0 ∧ f_X8_noFact a2 = 0 ∧ f_X8_in a3.toInt64 1 2 = 1 ∧ f_X7_refusalToSay P a1 a2 a3 = 0 := by
  rcases q_per h5 a1 with ⟨h1, h2⟩ | ⟨p, hp, e1, h1, h2⟩
  · left
    refine ⟨h2, ?_⟩
    unfold f_X7_refusalToSay
    rw [if_pos h1]
  · right
    rcases q_fac a2 with ⟨h3, h4⟩ | ⟨f, hf, e2, h3, h4⟩
    · left
      refine ⟨h2, h4, ?_⟩
      unfold f_X7_refusalToSay
      rw [if_neg (by rw [h1]; decide), if_pos h3]
    · right
      rcases q_voi a3 with ⟨h6, h7⟩ | ⟨h6, h7⟩
      · left
        refine ⟨h2, h4, h7, ?_⟩
        unfold f_X7_refusalToSay
        rw [if_neg (by rw [h1]; decide), if_neg (by rw [h3]; decide), if_pos h6]
      · right
        refine ⟨p, f, hp, hf, e1, e2, h2, h4, h7, ?_⟩
        unfold f_X7_refusalToSay
        rw [if_neg (by rw [h1]; decide), if_neg (by rw [h3]; decide), if_neg (by rw [h6]; decide)]
