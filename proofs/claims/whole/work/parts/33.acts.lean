/-! rows copied; the ring of acts and the book; slots -/
theorem q_copy {sz sy a b : Nat} (g : Nat → Int32) (f : Nat → Int32) (hs : sz < 2 ^ 31) (hy : sy < 2 ^ 31) : ∀ n, a + n ≤ sz → b + n ≤ sy → ∀ i, B_X2_copy_3 sz sy g (nI a) (nI b) f n i = if a ≤ i ∧ i < a + n then g (b + (i - a)) else f i
  | 0, _, _, i => by rw [if_neg (by omega)]; rfl
  | n + 1, ha, hb, i => by
    show S_X2_copy_3 sz sy g (nI a) (nI b) n (B_X2_copy_3 sz sy g (nI a) (nI b) f n) i = _
    unfold S_X2_copy_3
    rw [nI_add, nI_add, q_put _ _ (by omega) hs, q_at g (by omega) hy]
    unfold upd
    rw [q_copy g f hs hy n (by omega) (by omega) i]
    by_cases h : i = a + n
    · rw [if_pos h, if_pos (by omega), show b + (i - a) = b + n by omega]
    · rw [if_neg h]
      by_cases h2 : a ≤ i ∧ i < a + n
      · rw [if_pos h2, if_pos (by omega)]
      · rw [if_neg h2, if_neg (by omega)]
theorem q_note (ua : Nat) (pg bk : Nat → Int32) : ∀ n i, B_X8_note_51 ua pg bk n i = if 15 * ua ≤ i ∧ i < 15 * ua + n then pg (i - 15 * ua) else bk i
  | 0, i => by rw [if_neg (by omega)]; rfl
  | n + 1, i => by
    show upd (B_X8_note_51 ua pg bk n) ((15 * ua) + n) (pg n) i = _
    unfold upd
    rw [q_note ua pg bk n i]
    by_cases h : i = 15 * ua + n
    · rw [if_pos h, if_pos (by omega), show i - 15 * ua = n by omega]
    · rw [if_neg h]
      by_cases h2 : 15 * ua ≤ i ∧ i < 15 * ua + n
      · rw [if_pos h2, if_pos (by omega)]
      · rw [if_neg h2, if_neg (by omega)]
theorem q_noteb (ua : Nat) (pg bk : Nat → Int32) : ∀ n i, B_X8_note_51b ua pg bk n i = if 15 * (ua - 1) ≤ i ∧ i < 15 * (ua - 1) + n then pg (i - 15 * (ua - 1)) else bk i
  | 0, i => by rw [if_neg (by omega)]; rfl
  | n + 1, i => by
    show upd (B_X8_note_51b ua pg bk n) ((15 * (ua - 1)) + n) (pg n) i = _
    unfold upd
    rw [q_noteb ua pg bk n i]
    by_cases h : i = 15 * (ua - 1) + n
    · rw [if_pos h, if_pos (by omega), show i - 15 * (ua - 1) = n by omega]
    · rw [if_neg h]
      by_cases h2 : 15 * (ua - 1) ≤ i ∧ i < 15 * (ua - 1) + n
      · rw [if_pos h2, if_pos (by omega)]
      · rw [if_neg h2, if_neg (by omega)]
theorem q_shift (bk : Nat → Int32) : ∀ n i, B_X8_note_11 bk n i = if i < n then bk (i + 15) else bk i
  | 0, i => by rw [if_neg (by omega)]; rfl
  | n + 1, i => by
    show upd (B_X8_note_11 bk n) n (B_X8_note_11 bk n (n + 15)) i = _
    unfold upd
    rw [q_shift bk n i, q_shift bk n (n + 15), if_neg (show ¬ n + 15 < n by omega)]
    by_cases h : i = n
    · rw [if_pos h, if_pos (by omega), h]
    · rw [if_neg h]
      by_cases h2 : i < n
      · rw [if_pos h2, if_pos (by omega)]
      · rw [if_neg h2, if_neg (by omega)]
theorem q_undoL (ua : Nat) (bk pg : Nat → Int32) : ∀ n i, B_X8_undo_27 ua bk pg n i = if i < n then bk (15 * (ua - 1) + i) else pg i
  | 0, i => by rw [if_neg (by omega)]; rfl
  | n + 1, i => by
    show upd (B_X8_undo_27 ua bk pg n) n (bk ((15 * (ua - 1)) + n)) i = _
    unfold upd
    rw [q_undoL ua bk pg n i]
    by_cases h : i = n
    · rw [if_pos h, if_pos (by omega), h]
    · rw [if_neg h]
      by_cases h2 : i < n
      · rw [if_pos h2, if_pos (by omega)]
      · rw [if_neg h2, if_neg (by omega)]
theorem q_keepL (pg kp : Nat → Int32) (a1 : Int32) : ∀ n i, B_X8_keep_26 pg a1 kp n i = if 15 * a1.toNatClampNeg ≤ i ∧ i < 15 * a1.toNatClampNeg + n then pg (i - 15 * a1.toNatClampNeg) else kp i
  | 0, i => by rw [if_neg (by omega)]; rfl
  | n + 1, i => by
    show upd (B_X8_keep_26 pg a1 kp n) ((15 * a1.toNatClampNeg) + n) (pg n) i = _
    unfold upd
    rw [q_keepL pg kp a1 n i]
    by_cases h : i = 15 * a1.toNatClampNeg + n
    · rw [if_pos h, if_pos (by omega), show i - 15 * a1.toNatClampNeg = n by omega]
    · rw [if_neg h]
      by_cases h2 : 15 * a1.toNatClampNeg ≤ i ∧ i < 15 * a1.toNatClampNeg + n
      · rw [if_pos h2, if_pos (by omega)]
      · rw [if_neg h2, if_neg (by omega)]
theorem q_againL (kp pg : Nat → Int32) (a1 : Int32) : ∀ n i, B_X8_again_31 kp a1 pg n i = if i < n then kp (15 * a1.toNatClampNeg + i) else pg i
  | 0, i => by rw [if_neg (by omega)]; rfl
  | n + 1, i => by
    show upd (B_X8_again_31 kp a1 pg n) n (kp ((15 * a1.toNatClampNeg) + n)) i = _
    unfold upd
    rw [q_againL kp pg a1 n i]
    by_cases h : i = n
    · rw [if_pos h, if_pos (by omega), h]
    · rw [if_neg h]
      by_cases h2 : i < n
      · rw [if_pos h2, if_pos (by omega)]
      · rw [if_neg h2, if_neg (by omega)]
/-- people's state looks at the first ten cells alone -/
theorem POk.of {P : Nat} {f g : Nat → Int32} (h5 : P ≤ 5) (h : POk P f) (e : ∀ i, i < 15 → g i = f i) : POk P g := by
  obtain ⟨h1, sg, h2, h3⟩ := h
  exact ⟨fun p hp => by rw [e p (by omega)]; exact h1 p hp, sg, fun i hi => by rw [e _ (by omega)]; exact h2 i hi, h3⟩
theorem q_ring (x : Nat) (hx : x < 14) : (nI x + 1) - (nI x + 1) / 14 * 14 = nI ((x + 1) % 14) := nf_rem (nf_add rfl (nf_c 1)) (nf_c 14) (by omega) (by omega) (by omega)
theorem q_ring2 (x : Nat) (hx : x < 14) : ((nI x + 14) - 1) - ((nI x + 14) - 1) / 14 * 14 = nI ((x + 13) % 14) := by
  have := nf_rem (nf_sub (nf_add (rfl : nI x = nI x) (nf_c 14)) (nf_c 1) (by omega)) (nf_c 14) (by omega) (by omega) (by omega)
  rw [this]
  congr 1
/-- an act is noted in both -/
theorem q_rem {P : Nat} {ac ax : Int32} {ah nw pg bk : Nat → Int32} {ua : Nat} (h5 : P ≤ 5) (hA : RAct P ac ax ah ua bk) (hP : RPag P nw pg) : RAct P (if 14 < ac + 1 then 14 else ac + 1) ((ax + 1) - (ax + 1) / 14 * 14) (B_X2_copy_3 210 15 nw (ax * 15) 0 ah 15) (f_X8_note_ua ua) (f_X8_note_bk ua pg bk) := by
  obtain ⟨h1, h2, x, h3, h4, h6⟩ := hA
  subst h1 h4
  have hu : f_X8_note_ua ua = min (ua + 1) 14 := by
    unfold f_X8_note_ua
    by_cases h : ua = 14
    · subst h; rfl
    · rw [if_neg (fun z => h ((ceq rfl (nf_c 14) (by omega) (by omega)).mp z))]; omega
  have hc : (if 14 < nI ua + 1 then (14 : Int32) else nI ua + 1) = nI (min (ua + 1) 14) := by
    rw [nf_add (rfl : nI ua = nI ua) (nf_c 1)]
    by_cases h : 14 < ua + 1
    · rw [if_pos ((clt (nf_c 14) rfl (by omega) (by omega)).mpr h), show min (ua + 1) 14 = 14 by omega]; rfl
    · rw [if_neg (fun z => h ((clt (nf_c 14) rfl (by omega) (by omega)).mp z)), show min (ua + 1) 14 = ua + 1 by omega]
  have hcp := q_copy (sz := 210) (sy := 15) (a := x * 15) (b := 0) nw ah (by decide) (by decide) 15 (by omega) (by omega)
  rw [hu, hc, q_ring x h3, nf_mul (rfl : nI x = nI x) (nf_c 15)]
  refine ⟨rfl, by omega, (x + 1) % 14, by omega, rfl, ?_⟩
  intro m hm
  unfold f_X8_note_bk
  by_cases h : ua = 14
  · subst h
    rw [if_pos (show nI 14 = 14 from rfl)]
    by_cases hm2 : m = 13
    · subst hm2
      have eb : ∀ i, i < 15 → B_X8_note_51b 14 pg (B_X8_note_11 bk 195) 15 (15 * 13 + i) = pg i := fun i hi => by
        rw [q_noteb, if_pos (by omega), show 15 * 13 + i - 15 * (14 - 1) = i by omega]
      refine ⟨fun i hi => ?_, hP.2.of h5 eb⟩
      rw [eb i hi, ← hP.1 i hi]
      have := hcp (15 * (((x + 1) % 14 + 14 - min (14 + 1) 14 + 13) % 14) + i)
      rw [show (0 : Int32) = nI 0 from rfl, this, if_pos (by omega)]
      congr 1
      omega
    · have eb : ∀ i, i < 15 → B_X8_note_51b 14 pg (B_X8_note_11 bk 195) 15 (15 * m + i) = bk (15 * (m + 1) + i) := fun i hi => by
        rw [q_noteb, if_neg (by omega), q_shift, if_pos (by omega)]
        congr 1
        omega
      have ho := h6 (m + 1) (by omega)
      refine ⟨fun i hi => ?_, ho.2.of h5 eb⟩
      rw [eb i hi, ← ho.1 i hi]
      have := hcp (15 * (((x + 1) % 14 + 14 - min (14 + 1) 14 + m) % 14) + i)
      rw [show (0 : Int32) = nI 0 from rfl, this, if_neg (by omega)]
      congr 1
      omega
  · rw [if_neg (fun z => h ((ceq rfl (nf_c 14) (by omega) (by omega)).mp z))]
    by_cases hm2 : m = ua
    · subst hm2
      have eb : ∀ i, i < 15 → B_X8_note_51 m pg bk 15 (15 * m + i) = pg i := fun i hi => by
        rw [q_note, if_pos (by omega), show 15 * m + i - 15 * m = i by omega]
      refine ⟨fun i hi => ?_, hP.2.of h5 eb⟩
      rw [eb i hi, ← hP.1 i hi]
      have := hcp (15 * (((x + 1) % 14 + 14 - min (m + 1) 14 + m) % 14) + i)
      rw [show (0 : Int32) = nI 0 from rfl, this, if_pos (by omega)]
      congr 1
      omega
    · have eb : ∀ i, i < 15 → B_X8_note_51 ua pg bk 15 (15 * m + i) = bk (15 * m + i) := fun i hi => by
        rw [q_note, if_neg (by omega)]
      have ho := h6 m (by omega)
      refine ⟨fun i hi => ?_, ho.2.of h5 eb⟩
      rw [eb i hi, ← ho.1 i hi]
      have := hcp (15 * (((x + 1) % 14 + 14 - min (ua + 1) 14 + m) % 14) + i)
      rw [show (0 : Int32) = nI 0 from rfl, this, if_neg (by omega)]
      congr 1
      omega
/-- no act is left: the ring's place may be any -/
theorem q_act0 {P : Nat} {ac ax : Int32} {ah bk : Nat → Int32} {ua : Nat} (hA : RAct P ac ax ah ua bk) : RAct P 0 ax ah 0 bk := by
  obtain ⟨h1, h2, x, h3, h4, h6⟩ := hA
  exact ⟨rfl, by omega, x, h3, h4, fun m hm => absurd hm (Nat.not_lt_zero _)⟩
