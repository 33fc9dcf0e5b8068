theorem pE_out {pg : Nat → Int32} {P : Nat} {l : List Nat} {i : Nat} (h : ¬ (5 ≤ i ∧ i < 5 + P)) : pE pg P l i = pg i := by unfold pE; rw [if_neg h]
theorem fig7 {P : Nat} {kd a uk t : Nat → Int32} {sg : Nat → Nat} (R : RP P kd a uk t) (S : Sit P t sg) : ∀ n, n ≤ P → B_X1_seatFigures_4 a P 0 n = figE P t n
  | 0, _ => rfl
  | n + 1, hn => by
    obtain ⟨o, _, e7, e8⟩ := q_sit R S (show n < P by omega)
    show ((10 * B_X1_seatFigures_4 a P 0 n) + L_X1_sitter_2 a P (nI n) (P + 1) 0) + 1 = 10 * figE P t n + B_X8_sitter_6 t (nI n) (-9) P + 1
    rw [fig7 R S n (by omega), e7, e8]
theorem kb_cong {nR : Nat} {ur t t' : Nat → Int32} {f o : Nat} (h : t o = t' o) : kb nR ur t f o = kb nR ur t' f o := by unfold kb; rw [h]
theorem cls_fold {P nR s0 : Nat} {kd nd gv nw uk ur pg : Nat → Int32} (h1 : 0 < P) (h5 : P ≤ 5) (hkd : ∀ q, q < P → kd q = uk q) (hnw : ∀ i, i < 15 → nw i = pg i) (hT : RTo P pg) (hg : gR nR nd gv ur) (h4 : nR ≤ 4) (h0 : pg 5 = nI s0) (hs : s0 < P) {p f : Nat} (hp : p < P) (hf : f < 6) (v most : Int32) {d0 : Nat → Int32} (hd0 : ∀ i, i < 15 → d0 i = pg i) : ∀ n, n ≤ fct (P - 1) → (((B_X7_seating_63 P nR kd nd gv nw (nI p) (nI f) v most (-9) (-9) d0 n).1, (B_X7_seating_63 P nR kd nd gv nw (nI p) (nI f) v most (-9) (-9) d0 n).2.1) = List.foldl (FE P nR uk ur pg p f v most) (-9, -9) ((List.range n).map (cL P s0))) ∧ ∀ i, i < 15 → ¬ (6 ≤ i ∧ i < 5 + P) → (B_X7_seating_63 P nR kd nd gv nw (nI p) (nI f) v most (-9) (-9) d0 n).2.2 i = pg i
  | 0, _ => ⟨rfl, fun i hi _ => hd0 i hi⟩
  | n + 1, hn => by
    obtain ⟨ih, hd⟩ := cls_fold h1 h5 hkd hnw hT hg h4 h0 hs hp hf v most hd0 n (by omega)
    rw [List.range_succ, List.map_append, List.foldl_append, ← ih]
    have e : B_X7_seating_63 P nR kd nd gv nw (nI p) (nI f) v most (-9) (-9) d0 (n + 1) = S_X7_seating_63 P nR kd nd gv nw (nI p) (nI f) v most n (B_X7_seating_63 P nR kd nd gv nw (nI p) (nI f) v most (-9) (-9) d0 n).1 (B_X7_seating_63 P nR kd nd gv nw (nI p) (nI f) v most (-9) (-9) d0 n).2.1 (B_X7_seating_63 P nR kd nd gv nw (nI p) (nI f) v most (-9) (-9) d0 n).2.2 := rfl
    rw [e]
    generalize (B_X7_seating_63 P nR kd nd gv nw (nI p) (nI f) v most (-9) (-9) d0 n).1 = b
    generalize (B_X7_seating_63 P nR kd nd gv nw (nI p) (nI f) v most (-9) (-9) d0 n).2.1 = g
    generalize (B_X7_seating_63 P nR kd nd gv nw (nI p) (nI f) v most (-9) (-9) d0 n).2.2 = d at hd
    have hpg := sit_page (P := P) (s0 := s0) (k := n) (by omega) hs (by omega) h0 hd
    have hpm := seat_c1 P (by omega) s0 hs n (by omega)
    have hS := perm_sit hpm pg
    unfold S_X7_seating_63
    generalize (B_X1_sitInOrder_35 d P (((1 : Int32) <<< ((nI P : Int32) &&& 31)) - 2) (B_X7_factorial_4 1 ((P - 1) - 1)) (nI n) d P).2.2.2 = a at hpg ⊢
    have R : RP P kd a uk (pE pg P (cL P s0 n)) := ⟨h5, hpg, hkd⟩
    have Rn : RP P kd nw uk pg := ⟨h5, hnw, hkd⟩
    have hTe : RTo P (pE pg P (cL P s0 n)) := fun q hq => by rw [pE_out (by omega)]; exact hT q hq
    have kn := q_know Rn hT hg h4 hf P (Nat.le_refl _)
    have er := q_ears R hp v P (Nat.le_refl _)
    have k8 := q_know8 (uk := uk) h5 hTe hg h4 (p := p) v hf P (Nat.le_refl _)
    have m1 := msk_5 (hb P uk (pE pg P (cL P s0 n)) p v) h5
    have m2 := msk_5 (kb nR ur pg f) h5
    have ce : msk (fun o => hb P uk (pE pg P (cL P s0 n)) p v o && kb nR ur (pE pg P (cL P s0 n)) f o) P = msk (fun o => hb P uk (pE pg P (cL P s0 n)) p v o && kb nR ur pg f o) P := msk_cong P (fun o ho => by
      show (_ && kb nR ur (pE pg P (cL P s0 n)) f o) = (_ && kb nR ur pg f o)
      rw [kb_cong (pE_out (by omega))])
    have cnt : f_J6_bitCount_0f7a4 (B_X1_ears_5 a P kd (nI p) v 0 P &&& B_X1_knowers_4 nw nR nd gv (nI f) 0 P) = cntE P nR uk ur (pE pg P (cL P s0 n)) p f v := by
      unfold cntE
      rw [er, kn, q_an0 _ m1 _ m2, msk_and, k8, ce, q_bc0 _ (by have := msk_5 (fun o => hb P uk (pE pg P (cL P s0 n)) p v o && kb nR ur pg f o) h5; omega)]
    have fg := fig7 R hS P (Nat.le_refl _)
    rw [cnt, fg]
    refine ⟨?_, ?_⟩
    · show _ = FE P nR uk ur pg p f v most (b, g) (cL P s0 n)
      unfold FE stepE
      dsimp only
      split
      · rfl
      · split
        · split <;> rfl
        · split <;> rfl
    · have ha : ∀ i, i < 15 → ¬ (6 ≤ i ∧ i < 5 + P) → a i = pg i := fun i hi hc => by
        rw [hpg i hi]
        by_cases i5 : i = 5
        · subst i5
          unfold pE
          have c3 := seat_c3 P (by omega) s0 hs n (by omega)
          rw [if_pos (by omega), cL_get (by omega), c3, nI_clamp (by omega), h0]
        · exact pE_out (by omega)
      split
      · exact ha
      · split
        · split <;> exact ha
        · split <;> exact ha
/-- the best seating is the same -/
theorem q_seat {P nR : Nat} {kd nd gv nw uk ur pg : Nat → Int32} (h5 : P ≤ 5) (hkd : ∀ q, q < P → kd q = uk q) (hP : RPag P nw pg) (hg : gR nR nd gv ur) (h4 : nR ≤ 4) {p f : Nat} (hp : p < P) (hf : f < 6) (v most : Int32) (dw tr : Nat → Int32) : (B_X7_seating_63 P nR kd nd gv nw (nI p) (nI f) v most (-9) (-9) (B_X2_copy_3 15 15 nw 0 0 dw 15) (fct (P - 1))).1 = (B_X8_findSeats_15 P nR uk ur pg (nI p) p (nI f) v most tr (-9) (-9) (P ^ P)).2.1 ∧ (B_X7_seating_63 P nR kd nd gv nw (nI p) (nI f) v most (-9) (-9) (B_X2_copy_3 15 15 nw 0 0 dw 15) (fct (P - 1))).2.1 = (B_X8_findSeats_15 P nR uk ur pg (nI p) p (nI f) v most tr (-9) (-9) (P ^ P)).2.2 := by
  obtain ⟨h1, h2, sg, h3⟩ := hP
  have hs := h3.1 0 (by omega)
  have hd : ∀ i, i < 15 → B_X2_copy_3 15 15 nw 0 0 dw 15 i = pg i := fun i hi => by
    have hc := q_copy (sz := 15) (sy := 15) (a := 0) (b := 0) nw dw (by decide) (by decide) 15 (by omega) (by omega)
    rw [← h1 i hi, show (0 : Int32) = nI 0 from rfl, hc, if_pos (by omega)]
    congr 1
    omega
  have c := (cls_fold (by omega) h5 hkd h1 h2 hg h4 hs.1 hs.2 hp hf v most hd (fct (P - 1)) (Nat.le_refl _)).1
  have m := mod_fold (nR := nR) (uk := uk) (ur := ur) (by omega) h5 hs.1 hs.2 (f := f) (show p < 5 by omega) v most tr (P ^ P) (Nat.le_refl _)
  rw [seat_ck P (by omega) _ hs.2, ← c] at m
  rw [m]
  exact ⟨rfl, rfl⟩
