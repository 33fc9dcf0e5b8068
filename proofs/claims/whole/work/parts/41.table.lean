theorem ps_fill (a : Int32) (f : Nat → Int32) : ∀ n i, B_X2_fill_2 a f n i = if i < n then a else f i
  | 0, i => by rw [if_neg (by omega)]; rfl
  | n + 1, i => by
    show upd (B_X2_fill_2 a f n) n a i = _
    unfold upd
    rw [ps_fill a f n i]
    by_cases h : i = n
    · rw [if_pos h, if_pos (by omega)]
    · rw [if_neg h]
      by_cases h2 : i < n
      · rw [if_pos h2, if_pos (by omega)]
      · rw [if_neg h2, if_neg (by omega)]
theorem ps_35 (f : Nat → Int32) : ∀ n i, B_X8_table_35 f n i = if i < n then 0 else f i
  | 0, i => by rw [if_neg (by omega)]; rfl
  | n + 1, i => by
    show upd (B_X8_table_35 f n) n 0 i = _
    unfold upd
    rw [ps_35 f n i]
    by_cases h : i = n
    · rw [if_pos h, if_pos (by omega)]
    · rw [if_neg h]
      by_cases h2 : i < n
      · rw [if_pos h2, if_pos (by omega)]
      · rw [if_neg h2, if_neg (by omega)]
theorem ps_56a (uT : Nat) (utx vk vt vr f z : Nat → Int32) : ∀ n i, i < n → (B_X8_table_56 uT utx vk vt vr f z n).1 i = f_X8_readTable_vk uT utx vk vt vr i
  | 0, i, h => absurd h (Nat.not_lt_zero _)
  | n + 1, i, h => by
    show upd (B_X8_table_56 uT utx vk vt vr f z n).1 n (f_X8_readTable_vk uT utx vk vt vr n) i = _
    unfold upd
    by_cases e : i = n
    · rw [if_pos e, e]
    · rw [if_neg e, ps_56a uT utx vk vt vr f z n i (by omega)]
theorem ps_56b (uT : Nat) (utx vk vt vr f z : Nat → Int32) : ∀ n, n ≤ 5 → ∀ i, (B_X8_table_56 uT utx vk vt vr f z n).2 i = if i < n then f_X8_readTable_vt uT utx vk vt vr i else if 5 ≤ i ∧ i < 5 + n then nI (i - 5) else z i
  | 0, _, i => by rw [if_neg (by omega), if_neg (by omega)]; rfl
  | n + 1, hn, i => by
    show upd (upd (B_X8_table_56 uT utx vk vt vr f z n).2 (0 + n) (f_X8_readTable_vt uT utx vk vt vr n)) (5 + n) (nI n) i = _
    unfold upd
    rw [ps_56b uT utx vk vt vr f z n (by omega) i]
    by_cases h : i = 5 + n
    · rw [if_pos h, if_neg (by omega), if_pos (by omega), show i - 5 = n by omega]
    · rw [if_neg h]
      by_cases h1 : i = 0 + n
      · rw [if_pos h1, if_pos (by omega), show n = i by omega]
      · rw [if_neg h1]
        by_cases h2 : i < n
        · rw [if_pos h2, if_pos (by omega)]
        · rw [if_neg h2, if_neg (show ¬ i < n + 1 by omega)]
          by_cases h3 : 5 ≤ i ∧ i < 5 + n
          · rw [if_pos h3, if_pos (by omega)]
          · rw [if_neg h3, if_neg (by omega)]
theorem ps_107 (uT : Nat) (utx vk vt vr f : Nat → Int32) : ∀ n i, i < n → B_X8_table_107 uT utx vk vt vr f n i = f_X8_readTable_vr uT utx vk vt vr i
  | 0, i, h => absurd h (Nat.not_lt_zero _)
  | n + 1, i, h => by
    show upd (B_X8_table_107 uT utx vk vt vr f n) n (f_X8_readTable_vr uT utx vk vt vr n) i = _
    unfold upd
    by_cases e : i = n
    · rw [if_pos e, e]
    · rw [if_neg e, ps_107 uT utx vk vt vr f n i (by omega)]
/-- a whole text, in both -/
theorem ps_fault {nT : Nat} {tx utx kd0 nd0 gv0 nw0 vk vt vr : Nat → Int32} (h40 : nT ≤ 40) (hx : ∀ i, i < nT → tx i = utx i) (hz : ∀ i, i < 15 → nw0 i = 0) : L_X6_firstFault_2 nT tx (nT + 1) 0 = f_X8_readTable nT utx vk vt vr ∧ (f_X8_readTable nT utx vk vt vr = -9 → ∃ K, 1 + 4 * K = nT ∧ PSt tx kd0 nd0 gv0 nw0 K (f_X8_readTable_vP nT utx vk vt vr) (f_X8_readTable_vR nT utx vk vt vr) (f_X8_readTable_vk nT utx vk vt vr) (f_X8_readTable_vt nT utx vk vt vr) (f_X8_readTable_vr nT utx vk vt vr)) := by
  unfold f_X8_readTable f_X8_readTable_vP f_X8_readTable_vR f_X8_readTable_vk f_X8_readTable_vt f_X8_readTable_vr
  have z9 : ¬ (0 : Int32) = -9 := by decide
  by_cases h0 : nT = 0
  · subst h0
    have e : nI 0 = 0 := rfl
    simp only [e, if_true]
    refine ⟨?_, fun z => absurd z z9⟩
    show S_X6_firstFault_2 0 tx (L_X6_firstFault_2 0 tx 0) 0 = 0
    unfold S_X6_firstFault_2
    rw [if_pos (by decide), if_pos (by decide)]
    rfl
  · have n0 : ¬ nI nT = 0 := fun z => h0 ((ceq rfl (nf_c 0) (by omega) (by decide)).mp z)
    have st := ps_step tx h40 (show 0 < nT by omega) nT
    have ft : f_X6_fits tx (nI 0) 0 = if utx 0 = 75 then 1 else 0 := by
      unfold f_X6_fits
      rw [if_pos (show nI 0 = 0 from rfl)]
      have := ps_at h40 hx (show 0 < nT by omega)
      rw [show f_X2_at 40 tx 0 = utx 0 from this]
    by_cases hK : utx 0 = 75
    · simp only [n0, hK, if_true, if_false]
      rw [ft, if_pos hK, if_neg (show ¬ (1 : Int32) = 0 by decide)] at st
      have hS : PSt tx kd0 nd0 gv0 nw0 0 0 0 vk vt vr := ⟨kd0, nd0, gv0, nw0, rfl, by decide, by decide, fun q h => absurd h (Nat.not_lt_zero _), fun q _ h => ⟨hz q (by omega), hz _ (by omega)⟩, fun q h => hz _ (by omega), fun q h => absurd h (Nat.not_lt_zero _), fun q h => absurd h (Nat.not_lt_zero _), rfl, rfl⟩
      have sim := ps_sim h40 hx (nT + 1) 0 0 0 vk vt vr hS (by omega) (by omega) nT (by omega) _ rfl
      exact ⟨st.trans sim.1, sim.2⟩
    · simp only [n0, hK, if_true, if_false]
      rw [ft, if_neg hK, if_pos rfl] at st
      exact ⟨st, fun z => absurd z z9⟩
theorem ps_pages {nT K P R : Nat} {tx utx kd nd gv nw vk vt vr uk ur pg : Nat → Int32} (h : PSt tx kd nd gv (B_X2_fill_2 0 nw 15) K (f_X8_readTable_vP nT utx vk vt vr) (f_X8_readTable_vR nT utx vk vt vr) (f_X8_readTable_vk nT utx vk vt vr) (f_X8_readTable_vt nT utx vk vt vr) (f_X8_readTable_vr nT utx vk vt vr)) (eP : f_X8_readTable_vP nT utx vk vt vr = P) (eR : f_X8_readTable_vR nT utx vk vt vr = R) : ∃ kd1 nd1 gv1 nw1, B_X7_table_31 tx kd nd gv 0 0 (B_X2_fill_2 0 nw 15) K = (kd1, nd1, gv1, P, R, nw1) ∧ RTab P R kd1 nd1 gv1 P R (B_X8_table_56 nT utx vk vt vr uk (B_X8_table_35 pg 15) P).1 (B_X8_table_107 nT utx vk vt vr ur (3 * R)) ∧ RPag P nw1 (B_X8_table_56 nT utx vk vt vr uk (B_X8_table_35 pg 15) P).2 := by
  subst eP eR
  obtain ⟨kd1, nd1, gv1, nw1, h1, h2, h3, h4, h5, h6, h7, h8, -, -⟩ := h
  have hb := ps_56b nT utx vk vt vr uk (B_X8_table_35 pg 15) _ h2
  have hz : ∀ i, i < 15 → B_X8_table_35 pg 15 i = 0 := fun i hi => by rw [ps_35, if_pos hi]
  refine ⟨kd1, nd1, gv1, nw1, h1, ⟨rfl, rfl, h2, h3, fun q hq => ?_, fun k hk => ?_⟩, fun i hi => ?_, fun q hq => ?_, fun i => i, fun i hi => ?_, fun j hj => ⟨j, hj, rfl⟩, fun i _ j _ e => e⟩
  · rw [ps_56a _ _ _ _ _ _ _ _ q hq]
    exact (h4 q hq).1
  · obtain ⟨i, j, t, g1, g2, g3, g4, g5, g6, g7, g8⟩ := h8 k hk
    refine ⟨i, j, t, g1, g2, g3, ?_, ?_, ?_, g7, g8⟩
    · rw [ps_107 _ _ _ _ _ _ _ _ (by omega)]; exact g4
    · rw [ps_107 _ _ _ _ _ _ _ _ (by omega)]; exact g5
    · rw [ps_107 _ _ _ _ _ _ _ _ (by omega)]; exact g6
  · rw [hb]
    by_cases c1 : i < f_X8_readTable_vP nT utx vk vt vr
    · rw [if_pos c1]
      exact (h4 i c1).2.1
    · rw [if_neg c1]
      by_cases c2 : 5 ≤ i ∧ i < 5 + f_X8_readTable_vP nT utx vk vt vr
      · rw [if_pos c2]
        have := (h4 (i - 5) (by omega)).2.2
        rw [show 5 + (i - 5) = i by omega] at this
        exact this
      · rw [if_neg c2, hz i hi]
        by_cases d1 : i < 5
        · exact (h5 i (by omega) d1).1
        · by_cases d2 : i < 10
          · have := (h5 (i - 5) (by omega) (by omega)).2
            rw [show 5 + (i - 5) = i by omega] at this
            exact this
          · have := h6 (i - 10) (by omega)
            rw [show 10 + (i - 10) = i by omega] at this
            exact this
  · rw [hb, if_pos hq]
    exact h7 q hq
  · rw [hb, if_neg (by omega), if_pos (by omega), show 5 + i - 5 = i by omega]
    exact ⟨rfl, hi⟩
