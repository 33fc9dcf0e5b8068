theorem ps_num {a most : Int32} {m : Nat} (h0 : ¬ a < 0) (h1 : a ≤ most) (hm : most = nI m) (hl : m < 2 ^ 31) : ∃ n, n ≤ m ∧ a = nI n := ⟨_, (cle (nf_tn h0) hm (Int32.toNatClampNeg_lt a) hl).mp h1, nf_tn h0⟩
theorem ps_told0 : ∀ a, a < 8 → ∀ b, b < 8 → (nI a ||| (nI b <<< ((3 : Int32) &&& 31))) = nI (a + 8 * b) ∧ nI a + 8 * nI b = nI (a + 8 * b) ∧ a + 8 * b < 64 := by decide +kernel
theorem ps_bits0 : ∀ i, i < 6 → ∀ j, j < 6 → (((1 : Int32) <<< (nI i &&& 31)) ||| ((1 : Int32) <<< (nI j &&& 31))) = nI (2 ^ i ||| 2 ^ j) := by decide +kernel
theorem ps_bit0 : ∀ i, i < 6 → ((1 : Int32) <<< (nI i &&& 31)) = nI (2 ^ i) := by decide +kernel
/-- a person's part -/
theorem ps_person {nT k P R : Nat} {tx utx kd0 nd0 gv0 nw0 vk vt vr : Nat → Int32} (h40 : nT ≤ 40) (hx : ∀ i, i < nT → tx i = utx i) (hS : PSt tx kd0 nd0 gv0 nw0 k P R vk vt vr) (hc : utx (1 + 4 * k) = 80) (hP : P < 5) (hu : 1 + 4 * k + 3 < nT) {z a b : Int32} (e1 : utx (1 + 4 * k + 1) - 48 = z) (e2 : utx (1 + 4 * k + 2) - 97 = a) (e3 : utx (1 + 4 * k + 3) - 97 = b) (ha0 : ¬ a < 0) (ha : a ≤ 7) (hb0 : ¬ b < 0) (hb : b ≤ 7) : PSt tx kd0 nd0 gv0 nw0 (k + 1) (P + 1) R (upd vk P z) (upd vt P (a + 8 * b)) vr := by
  obtain ⟨kd, nd, gv, nw, h1, h2, h3, h4, h5, h6, h7, h8, h9, h10⟩ := hS
  obtain ⟨m, hm, rfl⟩ := ps_num ha0 ha (nf_c 7) (by decide)
  obtain ⟨n, hn, rfl⟩ := ps_num hb0 hb (nf_c 7) (by decide)
  have t := ps_told0 m (by omega) n (by omega)
  have cP : ¬ 5 ≤ nI P := fun z => absurd ((cle (nf_c 5) rfl (by decide) (by omega)).mp z) (by omega)
  have q0 := ps_at h40 hx (show 1 + 4 * k < nT by omega)
  have q1 : f_X2_at 40 tx (nI (1 + 4 * k) + 1) = utx (1 + 4 * k + 1) := by rw [nf_add rfl (nf_c 1), ps_at h40 hx (by omega)]
  have q2 : f_X2_at 40 tx (nI (1 + 4 * k) + 2) = utx (1 + 4 * k + 2) := by rw [nf_add rfl (nf_c 2), ps_at h40 hx (by omega)]
  have q3 : f_X2_at 40 tx (nI (1 + 4 * k) + 3) = utx (1 + 4 * k + 3) := by rw [nf_add rfl (nf_c 3), ps_at h40 hx (by omega)]
  have ap : f_X5_addPerson P = nI P := by unfold f_X5_addPerson; rw [if_neg cP]
  have an : f_X5_addPerson_nP P = P + 1 := by unfold f_X5_addPerson_nP; rw [if_neg cP]
  have ak : ∀ w, f_X5_addPerson_kd P kd w = upd kd P w := fun w => by unfold f_X5_addPerson_kd; rw [if_neg cP, q_put kd w hP (by decide)]
  refine ⟨upd kd P z, nd, gv, upd (upd nw P (nI (m + 8 * n))) (5 + P) (nI P), ?_, by omega, h3, ?_, ?_, ?_, ?_, h8, ?_, ?_⟩
  · show S_X7_table_31 tx k _ _ _ _ _ _ = _
    rw [h1]
    unfold S_X7_table_31
    rw [q0, if_pos hc, q1, q2, q3, e1, e2, e3, ap, an, ak, t.1, q_put0 nw _ hP, q_put5 _ _ hP]
  · intro q hq
    unfold upd
    by_cases e : q = P
    · subst e
      rw [if_pos rfl, if_pos rfl, if_neg (by omega), if_pos rfl, if_pos rfl, t.2.1]
      exact ⟨rfl, rfl, if_pos rfl⟩
    · have := h4 q (by omega)
      simp only [if_neg e, if_neg (show ¬ q = 5 + P by omega), if_neg (show ¬ 5 + q = 5 + P by omega), if_neg (show ¬ 5 + q = P by omega)]
      exact this
  · intro q hq1 hq2
    unfold upd
    have := h5 q (by omega) hq2
    rw [if_neg (by omega), if_neg (by omega), if_neg (by omega), if_neg (by omega)]
    exact this
  · intro q hq
    unfold upd
    rw [if_neg (by omega), if_neg (by omega)]
    exact h6 q hq
  · intro q hq
    unfold upd
    by_cases e : q = P
    · rw [if_pos e]
      exact ⟨_, t.2.2, t.2.1⟩
    · rw [if_neg e]
      exact h7 q (by omega)
  · show S_X6_partsAhead_5 tx 80 k (B_X6_partsAhead_5 tx 80 0 k) = _
    unfold S_X6_partsAhead_5
    rw [q0, if_pos hc, h9, nf_add rfl (nf_c 1)]
  · show S_X6_partsAhead_5 tx 82 k (B_X6_partsAhead_5 tx 82 0 k) = _
    unfold S_X6_partsAhead_5
    rw [q0, hc, if_neg (by decide), h10]
/-- a rule's part -/
theorem ps_rule {nT k P R : Nat} {tx utx kd0 nd0 gv0 nw0 vk vt vr : Nat → Int32} (h40 : nT ≤ 40) (hx : ∀ i, i < nT → tx i = utx i) (hS : PSt tx kd0 nd0 gv0 nw0 k P R vk vt vr) (hc : utx (1 + 4 * k) = 82) (hR : R < 4) (hu : 1 + 4 * k + 3 < nT) {z a b : Int32} (e1 : utx (1 + 4 * k + 1) - 48 = z) (e2 : utx (1 + 4 * k + 2) - 48 = a) (e3 : utx (1 + 4 * k + 3) - 48 = b) (hz0 : ¬ z < 0) (hz : z ≤ 5) (ha0 : ¬ a < 0) (ha : a ≤ 5) (hb0 : ¬ b < 0) (hb : b ≤ 5) : PSt tx kd0 nd0 gv0 nw0 (k + 1) P (R + 1) vk vt (upd (upd (upd vr (3 * R + 0) z) (3 * R + 1) a) (3 * R + 2) b) := by
  obtain ⟨kd, nd, gv, nw, h1, h2, h3, h4, h5, h6, h7, h8, h9, h10⟩ := hS
  obtain ⟨i, hi, rfl⟩ := ps_num hz0 hz (nf_c 5) (by decide)
  obtain ⟨j, hj, rfl⟩ := ps_num ha0 ha (nf_c 5) (by decide)
  obtain ⟨t, ht, rfl⟩ := ps_num hb0 hb (nf_c 5) (by decide)
  have cR : ¬ 4 ≤ nI R := fun z => absurd ((cle (nf_c 4) rfl (by decide) (by omega)).mp z) (by omega)
  have q0 := ps_at h40 hx (show 1 + 4 * k < nT by omega)
  have q1 : f_X2_at 40 tx (nI (1 + 4 * k) + 1) = utx (1 + 4 * k + 1) := by rw [nf_add rfl (nf_c 1), ps_at h40 hx (by omega)]
  have q2 : f_X2_at 40 tx (nI (1 + 4 * k) + 2) = utx (1 + 4 * k + 2) := by rw [nf_add rfl (nf_c 2), ps_at h40 hx (by omega)]
  have q3 : f_X2_at 40 tx (nI (1 + 4 * k) + 3) = utx (1 + 4 * k + 3) := by rw [nf_add rfl (nf_c 3), ps_at h40 hx (by omega)]
  have an : f_X5_addRule_nR R = R + 1 := by unfold f_X5_addRule_nR; rw [if_neg cR]
  have ad : f_X5_addRule_nd R nd (nI i) (nI j) = upd nd R (nI (2 ^ i ||| 2 ^ j)) := by unfold f_X5_addRule_nd; rw [if_neg cR, q_put nd _ hR (by decide), ps_bits0 i (by omega) j (by omega)]
  have ag : f_X5_addRule_gv R gv (nI t) = upd gv R (nI (2 ^ t)) := by unfold f_X5_addRule_gv; rw [if_neg cR, q_put gv _ hR (by decide), ps_bit0 t (by omega)]
  refine ⟨kd, upd nd R (nI (2 ^ i ||| 2 ^ j)), upd gv R (nI (2 ^ t)), nw, ?_, h2, by omega, h4, h5, h6, h7, ?_, ?_, ?_⟩
  · show S_X7_table_31 tx k _ _ _ _ _ _ = _
    rw [h1]
    unfold S_X7_table_31
    rw [q0, hc, if_neg (by decide), q1, q2, q3, e1, e2, e3, an, ad, ag]
  · intro q hq
    by_cases e : q = R
    · subst e
      refine ⟨i, j, t, by omega, by omega, by omega, ?_, ?_, ?_, upd_at _ _ _, upd_at _ _ _⟩
      · unfold upd; rw [if_neg (by omega), if_neg (by omega), if_pos (by omega)]
      · unfold upd; rw [if_neg (by omega), if_pos (by omega)]
      · unfold upd; rw [if_pos (by omega)]
    · obtain ⟨i', j', t', g1, g2, g3, g4, g5, g6, g7, g8⟩ := h8 q (by omega)
      refine ⟨i', j', t', g1, g2, g3, ?_, ?_, ?_, ?_, ?_⟩
      · unfold upd; rw [if_neg (by omega), if_neg (by omega), if_neg (by omega)]; exact g4
      · unfold upd; rw [if_neg (by omega), if_neg (by omega), if_neg (by omega)]; exact g5
      · unfold upd; rw [if_neg (by omega), if_neg (by omega), if_neg (by omega)]; exact g6
      · unfold upd; rw [if_neg e]; exact g7
      · unfold upd; rw [if_neg e]; exact g8
  · show S_X6_partsAhead_5 tx 80 k (B_X6_partsAhead_5 tx 80 0 k) = _
    unfold S_X6_partsAhead_5
    rw [q0, hc, if_neg (by decide), h9]
  · show S_X6_partsAhead_5 tx 82 k (B_X6_partsAhead_5 tx 82 0 k) = _
    unfold S_X6_partsAhead_5
    rw [q0, if_pos hc, h10, nf_add rfl (nf_c 1)]
theorem ps_n9 {n : Nat} (h : n ≤ 40) : ¬ nI n = -9 := (by decide +kernel : ∀ n, n < 41 → ¬ nI n = -9) n (by omega)
theorem ps_sim {nT : Nat} {tx utx kd0 nd0 gv0 nw0 : Nat → Int32} (h40 : nT ≤ 40) (hx : ∀ i, i < nT → tx i = utx i) : ∀ (n k P R : Nat) (vk vt vr : Nat → Int32), PSt tx kd0 nd0 gv0 nw0 k P R vk vt vr → 1 + 4 * k ≤ nT → nT - (1 + 4 * k) < n → ∀ n7, nT - (1 + 4 * k) < n7 → ∀ r, L_X8_readTable_40 nT utx n (1 + 4 * k) P R vk vt vr = r → L_X6_firstFault_2 nT tx n7 (1 + 4 * k) = r.1 ∧ (r.1 = -9 → ∃ K, 1 + 4 * K = nT ∧ PSt tx kd0 nd0 gv0 nw0 K r.2.2.1 r.2.2.2.1 r.2.2.2.2.1 r.2.2.2.2.2.1 r.2.2.2.2.2.2)
  | 0, k, P, R, vk, vt, vr, _, _, hn, _, _, _, _ => absurd hn (Nat.not_lt_zero _)
  | n + 1, k, P, R, vk, vt, vr, hS, hk, hn, n7, hn7, r, hr => by
    obtain ⟨m, rfl⟩ : ∃ m, n7 = m + 1 := ⟨n7 - 1, by omega⟩
    have hr : S_X8_readTable_40 nT utx (L_X8_readTable_40 nT utx n) (1 + 4 * k) P R vk vt vr = r := hr
    unfold S_X8_readTable_40 at hr
    by_cases hend : 1 + 4 * k = nT
    · rw [if_pos ((cle rfl rfl (by omega) (by omega)).mpr (by omega))] at hr
      subst hr
      have := ps_end tx h40 (by omega) m
      rw [hend, this, if_pos (by omega)]
      exact ⟨rfl, fun _ => ⟨k, hend, hS⟩⟩
    · have hlt : 1 + 4 * k < nT := by omega
      rw [if_neg (fun z => absurd ((cle rfl rfl (by omega) (by omega)).mp z) (by omega))] at hr
      have hS0 := hS
      obtain ⟨kd, nd, gv, nw, h1, h2, h3, h4, h5, h6, h7, h8, h9, h10⟩ := hS0
      have f0 := ps_fit0 h40 hx hlt h9 h10
      have st := ps_step tx h40 hlt m
      have bad : ∀ (i : Nat), i ≤ 40 → ∀ r' : (Int32) × (Nat) × (Nat) × (Nat) × (Nat → Int32) × (Nat → Int32) × (Nat → Int32), r'.1 = nI i → L_X6_firstFault_2 nT tx (m + 1) (1 + 4 * k) = nI i → L_X6_firstFault_2 nT tx (m + 1) (1 + 4 * k) = r'.1 ∧ (r'.1 = -9 → ∃ K, 1 + 4 * K = nT ∧ PSt tx kd0 nd0 gv0 nw0 K r'.2.2.1 r'.2.2.2.1 r'.2.2.2.2.1 r'.2.2.2.2.2.1 r'.2.2.2.2.2.2) := fun i hi r' h1 h2 => ⟨by rw [h1, h2], fun z => absurd (h1.symm.trans z) (ps_n9 hi)⟩
      by_cases hp : utx (1 + 4 * k) = 80
      · by_cases c5 : 5 ≤ nI P
        · -- no place for a person
          rw [if_pos hp, if_pos c5] at f0
          rw [f0, if_pos rfl] at st
          have p0 : f_X8_readPart nT (1 + 4 * k) P R utx vr = 0 := by
            unfold f_X8_readPart
            rw [if_pos hp, if_pos c5, if_neg (by rw [hp]; decide)]
          have p1 : f_X8_readPart_up nT (1 + 4 * k) P R utx vr = 1 + 4 * k := by
            unfold f_X8_readPart_up
            rw [if_pos hp, if_pos c5, if_neg (by rw [hp]; decide), Nat.add_sub_cancel]
          rw [if_pos p0, p1] at hr
          subst hr
          exact bad (1 + 4 * k) (by omega) _ rfl st
        · rw [if_pos hp, if_neg c5] at f0
          rw [f0, if_neg (show ¬ (1 : Int32) = 0 by decide)] at st
          have hP5 : P < 5 := by
            rcases Nat.lt_or_ge P 5 with h | h
            · exact h
            · exact absurd ((cle (nf_c 5) rfl (by decide) (by omega)).mpr h) c5
          have nc : ¬ utx (1 + 4 * k) = 82 := by rw [hp]; decide
          have p0 : f_X8_readPart nT (1 + 4 * k) P R utx vr = f_X8_readPerson nT (1 + 4 * k + 1) utx := by
            unfold f_X8_readPart; rw [if_pos hp, if_neg c5]
          have p1 : f_X8_readPart_up nT (1 + 4 * k) P R utx vr = f_X8_readPerson_up nT (1 + 4 * k + 1) utx := by
            unfold f_X8_readPart_up; rw [if_pos hp, if_neg c5]
          have p2 : f_X8_readPart_vP nT (1 + 4 * k) P R utx = f_X8_readPerson_vP nT (1 + 4 * k + 1) P utx := by
            unfold f_X8_readPart_vP; rw [if_pos hp, if_neg c5]
          have p3 : f_X8_readPart_vR nT (1 + 4 * k) P R utx vr = R := by
            unfold f_X8_readPart_vR; rw [if_pos hp, if_neg c5]
          have p4 : f_X8_readPart_vk nT (1 + 4 * k) P R utx vk = f_X8_readPerson_vk nT (1 + 4 * k + 1) P utx vk := by
            unfold f_X8_readPart_vk; rw [if_pos hp, if_neg c5]
          have p5 : f_X8_readPart_vt nT (1 + 4 * k) P R utx vt = f_X8_readPerson_vt nT (1 + 4 * k + 1) P utx vt := by
            unfold f_X8_readPart_vt; rw [if_pos hp, if_neg c5]
          have p6 : f_X8_readPart_vr nT (1 + 4 * k) P R utx vr = vr := by
            unfold f_X8_readPart_vr; rw [if_pos hp, if_neg c5]
          rw [p0, p1, p2, p3, p4, p5, p6] at hr
          unfold f_X8_readPerson f_X8_readPerson_up f_X8_readPerson_vP f_X8_readPerson_vk f_X8_readPerson_vt at hr
          rcases ps_byte (tx := tx) (utx := utx) (k := k) (o := 1) h40 (by decide) (by decide) (by omega) 48 3 (fun h => by rw [ps_fito h40 hx (by decide) (by decide) h, if_neg nc, if_pos rfl]) m (by omega) with ⟨a1, a2, a3⟩ | ⟨a1, a2, a3, a4, a5, a6, m1, a7, a8⟩
          · simp only [a1, a2, if_true] at hr
            subst hr
            exact bad (1 + 4 * k + 1) (by omega) _ rfl (st.trans a3)
          · rcases ps_byte (tx := tx) (utx := utx) (k := k) (o := 2) h40 (by decide) (by decide) (by omega) 97 7 (fun h => by rw [ps_fito h40 hx (by decide) (by decide) h, if_neg nc, if_neg (by decide)]) m1 (by omega) with ⟨b1, b2, b3⟩ | ⟨b1, b2, b3, b4, b5, b6, m2, b7, b8⟩
            · simp only [a3, a4, b1, b2, if_true, if_false] at hr
              subst hr
              exact bad (1 + 4 * k + 2) (by omega) _ rfl (st.trans (a8.trans b3))
            · rcases ps_byte (tx := tx) (utx := utx) (k := k) (o := 3) h40 (by decide) (by decide) (by omega) 97 7 (fun h => by rw [ps_fito h40 hx (by decide) (by decide) h, if_neg nc, if_neg (by decide)]) m2 (by omega) with ⟨d1, d2, d3⟩ | ⟨d1, d2, d3, d4, d5, d6, m3, d7, d8⟩
              · simp only [a3, a4, b3, b4, d1, d2, if_true, if_false] at hr
                subst hr
                exact bad (1 + 4 * k + 3) (by omega) _ rfl (st.trans (a8.trans (b8.trans d3)))
              · simp only [a3, a4, b3, b4, d3, d4, q_10, if_false] at hr
                rw [a2, b2, d2] at hr
                have hS2 := ps_person h40 hx hS hp hP5 d1 rfl rfl rfl b5 b6 d5 d6
                have ih := ps_sim h40 hx n (k + 1) (P + 1) R _ _ _ hS2 (by omega) (by omega) m3 (by omega) r hr
                have e : L_X6_firstFault_2 nT tx (m + 1) (1 + 4 * k) = L_X6_firstFault_2 nT tx m3 (1 + 4 * (k + 1)) := st.trans (a8.trans (b8.trans d8))
                rw [e]
                exact ih
      · by_cases hq : utx (1 + 4 * k) = 82
        · by_cases c4 : 4 ≤ nI R
          · rw [if_neg hp, if_pos hq, if_pos c4] at f0
            rw [f0, if_pos rfl] at st
            have p0 : f_X8_readPart nT (1 + 4 * k) P R utx vr = 0 := by
              unfold f_X8_readPart
              rw [if_neg hp, if_pos hq, if_pos c4]
            have p1 : f_X8_readPart_up nT (1 + 4 * k) P R utx vr = 1 + 4 * k := by
              unfold f_X8_readPart_up
              rw [if_neg hp, if_pos hq, if_pos c4, Nat.add_sub_cancel]
            rw [if_pos p0, p1] at hr
            subst hr
            exact bad (1 + 4 * k) (by omega) _ rfl st
          · rw [if_neg hp, if_pos hq, if_neg c4] at f0
            rw [f0, if_neg (show ¬ (1 : Int32) = 0 by decide)] at st
            have hR4 : R < 4 := by
              rcases Nat.lt_or_ge R 4 with h | h
              · exact h
              · exact absurd ((cle (nf_c 4) rfl (by decide) (by omega)).mpr h) c4
            have p0 : f_X8_readPart nT (1 + 4 * k) P R utx vr = (L_X8_readOne_2 nT R utx (3 + 1) 0 (1 + 4 * k + 1) vr).1 := by
              unfold f_X8_readPart; rw [if_neg hp, if_pos hq, if_neg c4]; rfl
            have p1 : f_X8_readPart_up nT (1 + 4 * k) P R utx vr = (L_X8_readOne_2 nT R utx (3 + 1) 0 (1 + 4 * k + 1) vr).2.1 := by
              unfold f_X8_readPart_up; rw [if_neg hp, if_pos hq, if_neg c4]; rfl
            have p2 : f_X8_readPart_vP nT (1 + 4 * k) P R utx = P := by
              unfold f_X8_readPart_vP; rw [if_neg hp, if_pos hq, if_neg c4]
            have p3 : f_X8_readPart_vR nT (1 + 4 * k) P R utx vr = (L_X8_readOne_2 nT R utx (3 + 1) 0 (1 + 4 * k + 1) vr).2.2.1 := by
              unfold f_X8_readPart_vR; rw [if_neg hp, if_pos hq, if_neg c4]; rfl
            have p4 : f_X8_readPart_vk nT (1 + 4 * k) P R utx vk = vk := by
              unfold f_X8_readPart_vk; rw [if_neg hp, if_pos hq, if_neg c4]
            have p5 : f_X8_readPart_vt nT (1 + 4 * k) P R utx vt = vt := by
              unfold f_X8_readPart_vt; rw [if_neg hp, if_pos hq, if_neg c4]
            have p6 : f_X8_readPart_vr nT (1 + 4 * k) P R utx vr = (L_X8_readOne_2 nT R utx (3 + 1) 0 (1 + 4 * k + 1) vr).2.2.2 := by
              unfold f_X8_readPart_vr; rw [if_neg hp, if_pos hq, if_neg c4]; rfl
            have o3 : ∀ (j up : Nat) (w : Nat → Int32) (f : Nat), j < 3 → L_X8_readOne_2 nT R utx (f + 1) j up w = if f_X8_sign nT up utx 48 5 = -9 then (0, f_X8_sign_up nT up utx 48 5, R, w) else L_X8_readOne_2 nT R utx f (j + 1) (f_X8_sign_up nT up utx 48 5) (upd w (3 * R + j) (f_X8_sign nT up utx 48 5)) := fun j up w f hj => by
              show S_X8_readOne_2 nT R utx (L_X8_readOne_2 nT R utx f) j up w = _
              unfold S_X8_readOne_2
              rw [if_neg (fun z => absurd ((cle (nf_c 3) rfl (by decide) (by omega)).mp z) (by omega))]
            have o4 : ∀ (up : Nat) (w : Nat → Int32), L_X8_readOne_2 nT R utx (0 + 1) 3 up w = (1, up, R + 1, w) := fun up w => by
              show S_X8_readOne_2 nT R utx (L_X8_readOne_2 nT R utx 0) 3 up w = _
              unfold S_X8_readOne_2
              rw [if_pos (by decide)]
            rw [p0, p1, p2, p3, p4, p5, p6] at hr
            rcases ps_byte (tx := tx) (utx := utx) (k := k) (o := 1) h40 (by decide) (by decide) (by omega) 48 5 (fun h => by rw [ps_fito h40 hx (by decide) (by decide) h, if_pos hq]) m (by omega) with ⟨a1, a2, a3⟩ | ⟨a1, a2, a3, a4, a5, a6, m1, a7, a8⟩
            · rw [o3 0 _ _ 3 (by decide), if_pos a1, a2] at hr
              simp only [if_true] at hr
              subst hr
              exact bad (1 + 4 * k + 1) (by omega) _ rfl (st.trans a3)
            · rcases ps_byte (tx := tx) (utx := utx) (k := k) (o := 2) h40 (by decide) (by decide) (by omega) 48 5 (fun h => by rw [ps_fito h40 hx (by decide) (by decide) h, if_pos hq]) m1 (by omega) with ⟨b1, b2, b3⟩ | ⟨b1, b2, b3, b4, b5, b6, m2, b7, b8⟩
              · rw [o3 0 _ _ 3 (by decide), if_neg a3, a4, o3 1 _ _ 2 (by decide), if_pos b1, b2] at hr
                simp only [if_true] at hr
                subst hr
                exact bad (1 + 4 * k + 2) (by omega) _ rfl (st.trans (a8.trans b3))
              · rcases ps_byte (tx := tx) (utx := utx) (k := k) (o := 3) h40 (by decide) (by decide) (by omega) 48 5 (fun h => by rw [ps_fito h40 hx (by decide) (by decide) h, if_pos hq]) m2 (by omega) with ⟨d1, d2, d3⟩ | ⟨d1, d2, d3, d4, d5, d6, m3, d7, d8⟩
                · rw [o3 0 _ _ 3 (by decide), if_neg a3, a4, o3 1 _ _ 2 (by decide), if_neg b3, b4, o3 2 _ _ 1 (by decide), if_pos d1, d2] at hr
                  simp only [if_true] at hr
                  subst hr
                  exact bad (1 + 4 * k + 3) (by omega) _ rfl (st.trans (a8.trans (b8.trans d3)))
                · rw [o3 0 _ _ 3 (by decide), if_neg a3, a4, o3 1 _ _ 2 (by decide), if_neg b3, b4, o3 2 _ _ 1 (by decide), if_neg d3, d4, o4, a2, b2, d2] at hr
                  simp only [q_10, if_false] at hr
                  have hS2 := ps_rule h40 hx hS hq hR4 d1 rfl rfl rfl a5 a6 b5 b6 d5 d6
                  have ih := ps_sim h40 hx n (k + 1) P (R + 1) _ _ _ hS2 (by omega) (by omega) m3 (by omega) r hr
                  have e : L_X6_firstFault_2 nT tx (m + 1) (1 + 4 * k) = L_X6_firstFault_2 nT tx m3 (1 + 4 * (k + 1)) := st.trans (a8.trans (b8.trans d8))
                  rw [e]
                  exact ih
        · rw [if_neg hp, if_neg hq] at f0
          rw [f0, if_pos rfl] at st
          have p0 : f_X8_readPart nT (1 + 4 * k) P R utx vr = 0 := by
            unfold f_X8_readPart
            rw [if_neg hp, if_neg hq]
          have p1 : f_X8_readPart_up nT (1 + 4 * k) P R utx vr = 1 + 4 * k := by
            unfold f_X8_readPart_up
            rw [if_neg hp, if_neg hq, Nat.add_sub_cancel]
          rw [if_pos p0, p1] at hr
          subst hr
          exact bad (1 + 4 * k) (by omega) _ rfl st
