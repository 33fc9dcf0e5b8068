/-! sets of people as masks; who hears; who knows -/
def msk (c : Nat → Bool) : Nat → Nat
  | 0 => 0
  | k + 1 => if c k = true then msk c k ||| 2 ^ k else msk c k
theorem msk_bit (c : Nat → Bool) : ∀ n i, (msk c n).testBit i = (decide (i < n) && c i)
  | 0, i => by
    show Nat.testBit 0 i = _
    rw [Nat.zero_testBit]; simp
  | n + 1, i => by
    show (if c n = true then msk c n ||| 2 ^ n else msk c n).testBit i = _
    by_cases hc : c n = true
    · rw [if_pos hc, q_tb, msk_bit c n i]
      by_cases h : i = n
      · subst h; simp [hc]
      · rw [decide_eq_false h, Bool.or_false]
        congr 1
        exact decide_eq_decide.mpr ⟨fun _ => by omega, fun _ => by omega⟩
    · rw [if_neg hc, msk_bit c n i]
      by_cases h : i = n
      · subst h
        have : c i = false := by simpa using hc
        simp [this]
      · congr 1
        exact decide_eq_decide.mpr ⟨fun _ => by omega, fun _ => by omega⟩
theorem msk_lt (c : Nat → Bool) : ∀ n, msk c n < 2 ^ n
  | 0 => Nat.one_pos
  | n + 1 => by
    have h := msk_lt c n
    show (if c n = true then msk c n ||| 2 ^ n else msk c n) < _
    have h2 : 2 ^ (n + 1) = 2 ^ n + 2 ^ n := by rw [Nat.pow_succ]; omega
    split
    · exact Nat.or_lt_two_pow (Nat.lt_of_lt_of_le h (by omega)) (by omega)
    · omega
theorem msk_and (c d : Nat → Bool) (n : Nat) : msk c n &&& msk d n = msk (fun i => c i && d i) n := by
  apply Nat.eq_of_testBit_eq
  intro i
  rw [Nat.testBit_and, msk_bit, msk_bit, msk_bit]
  cases decide (i < n) <;> simp
theorem msk_5 (c : Nat → Bool) {n : Nat} (h : n ≤ 5) : msk c n < 32 := Nat.lt_of_lt_of_le (msk_lt c n) (pow_le5 h)
theorem q_oz0 : ∀ m, m < 32 → nI m ||| 0 = nI m := by decide +kernel
theorem q_om0 : ∀ m, m < 32 → ∀ k, k < 5 → (nI m ||| ((1 : Int32) <<< ((nI k) &&& 31))) = nI (m ||| 2 ^ k) := by decide +kernel
theorem q_an0 : ∀ m, m < 32 → ∀ k, k < 32 → nI m &&& nI k = nI (m &&& k) := by decide +kernel
theorem q_hp0 : ∀ v, v < 32 → ∀ i, i < 5 → f_X8_has (nI v) (nI i) = if v.testBit i then 1 else 0 := by decide +kernel
theorem q_bc0 : ∀ v, v < 64 → f_J6_bitCount_0f7a4 (nI v) = B_X8_many_4 (nI v) 0 6 := by decide +kernel
theorem q_lele (a b : Int32) : (if a < b then a else b) = (if a ≤ b then a else b) := by
  by_cases h : a < b
  · rw [if_pos h, if_pos (Int32.le_of_lt h)]
  · rw [if_neg h]
    by_cases h2 : a ≤ b
    · rw [if_pos h2]; exact Int32.le_antisymm (Int32.not_lt.mp h) h2
    · rw [if_neg h2]
/-- the two pages agree, and the table's people -/
def RP (P : Nat) (kd nw uk tt : Nat → Int32) : Prop := P ≤ 5 ∧ (∀ i, i < 15 → nw i = tt i) ∧ ∀ q, q < P → kd q = uk q
theorem q_a5 (f : Nat → Int32) {k : Nat} (hk : k < 5) : f_X2_at 15 f (5 + nI k) = f (5 + k) := by
  rw [nf_add (nf_c 5) rfl, q_at f (by omega) (by decide)]
theorem q_a0 (f : Nat → Int32) {k : Nat} (hk : k < 5) : f_X2_at 15 f (0 + nI k) = f k := by
  rw [nf_add (nf_c 0) rfl, Nat.zero_add, q_at f (by omega) (by decide)]
theorem q_a10 (f : Nat → Int32) {k : Nat} (hk : k < 5) : f_X2_at 15 f (10 + nI k) = f (10 + k) := by
  rw [nf_add (nf_c 10) rfl, q_at f (by omega) (by decide)]
theorem q_dist {P : Nat} {kd nw uk tt : Nat → Int32} (R : RP P kd nw uk tt) {o p : Nat} (ho : o < P) (hp : p < P) : f_X1_distance nw P (nI o) (nI p) = f_X8_farOf P tt o p := by
  have h5 := R.1
  unfold f_X1_distance f_X8_farOf
  rw [q_a5 nw (by omega), q_a5 nw (by omega), R.2.1 _ (by omega), R.2.1 _ (by omega)]
  generalize tt (5 + o) - tt (5 + p) = d
  by_cases h : 0 ≤ d
  · rw [if_pos h, if_pos h, q_lele]
  · rw [if_neg h, if_neg h, Int32.zero_sub, q_lele]
def hb (P : Nat) (uk tt : Nat → Int32) (p : Nat) (v : Int32) (o : Nat) : Bool := decide (f_X8_hears P uk tt (nI o) o (nI p) p v ≠ 0)
theorem q_ears_S {P : Nat} {kd nw uk tt : Nat → Int32} (R : RP P kd nw uk tt) {o p : Nat} (ho : o < P) (hp : p < P) (v x : Int32) : S_X1_ears_5 nw P kd (nI p) v o x = if f_X8_hears P uk tt (nI o) o (nI p) p v = 0 then x else x ||| ((1 : Int32) <<< ((nI o : Int32) &&& 31)) := by
  have h5 := R.1
  unfold S_X1_ears_5 f_X8_hears
  rw [q_dist R ho hp, q_at kd (by omega) (by decide), R.2.2 o ho]
  by_cases h1 : uk o = 1
  · rw [if_pos h1, if_pos h1]
    by_cases h2 : nI o = nI p
    · rw [if_pos h2, if_pos h2]; rfl
    · rw [if_neg h2, if_neg h2]
      by_cases h3 : 1 < f_X8_farOf P tt o p
      · rw [if_pos h3, if_pos h3]; rfl
      · rw [if_neg h3, if_neg h3]; rfl
  · rw [if_neg h1, if_neg h1]
    by_cases h2 : nI o = nI p
    · rw [if_pos h2, if_pos h2]; rfl
    · rw [if_neg h2, if_neg h2]
      by_cases h3 : v < f_X8_farOf P tt o p
      · rw [if_pos h3, if_pos h3]; rfl
      · rw [if_neg h3, if_neg h3]; rfl
theorem q_ears {P : Nat} {kd nw uk tt : Nat → Int32} (R : RP P kd nw uk tt) {p : Nat} (hp : p < P) (v : Int32) : ∀ k, k ≤ P → B_X1_ears_5 nw P kd (nI p) v 0 k = nI (msk (hb P uk tt p v) k)
  | 0, _ => rfl
  | k + 1, hk => by
    have h5 := R.1
    have hm := msk_5 (hb P uk tt p v) (n := k) (by omega)
    show S_X1_ears_5 nw P kd (nI p) v k (B_X1_ears_5 nw P kd (nI p) v 0 k) = nI (if hb P uk tt p v k = true then _ else _)
    rw [q_ears R hp v k (by omega), q_ears_S R (by omega) hp, q_om0 _ hm k (by omega)]
    unfold hb
    by_cases h : f_X8_hears P uk tt (nI k) k (nI p) p v = 0
    · rw [if_pos h, if_neg (by simp [h])]
    · rw [if_neg h, if_pos (decide_eq_true h)]
theorem q_hear {P : Nat} {uk tt : Nat → Int32} (h5 : P ≤ 5) {p : Nat} (v : Int32) : ∀ k, k ≤ P → B_X8_hearersOf_6 P uk tt (nI p) p v 0 k = nI (msk (hb P uk tt p v) k)
  | 0, _ => rfl
  | k + 1, hk => by
    have hm := msk_5 (hb P uk tt p v) (n := k) (by omega)
    show S_X8_hearersOf_6 P uk tt (nI p) p v k (B_X8_hearersOf_6 P uk tt (nI p) p v 0 k) = nI (if hb P uk tt p v k = true then _ else _)
    rw [q_hear h5 v k (by omega)]
    unfold S_X8_hearersOf_6
    rw [q_om0 _ hm k (by omega), q_oz0 _ hm]
    unfold hb
    by_cases h : f_X8_hears P uk tt (nI k) k (nI p) p v = 0
    · rw [if_pos h, if_neg (by simp [h])]
    · rw [if_neg h, if_pos (decide_eq_true h)]
theorem RTo.at {P : Nat} {tt : Nat → Int32} (h : RTo P tt) {p : Nat} (hp : p < P) : tt p = nI (tt p).toNatClampNeg ∧ (tt p).toNatClampNeg < 64 := by
  obtain ⟨t, h1, h2⟩ := h p hp
  rw [h2, nI_clamp (by omega)]
  exact ⟨rfl, h1⟩
def kb (nR : Nat) (ur tt : Nat → Int32) (f o : Nat) : Bool := (cl ur nR (tt o).toNatClampNeg).testBit f
theorem q_know {P nR : Nat} {nd gv ur : Nat → Int32} {kd nw uk tt : Nat → Int32} (R : RP P kd nw uk tt) (hT : RTo P tt) (hr : gR nR nd gv ur) (h4 : nR ≤ 4) {f : Nat} (hf : f < 6) : ∀ k, k ≤ P → B_X1_knowers_4 nw nR nd gv (nI f) 0 k = nI (msk (kb nR ur tt f) k)
  | 0, _ => rfl
  | k + 1, hk => by
    have h5 := R.1
    have hm := msk_5 (kb nR ur tt f) (n := k) (by omega)
    have ht := hT.at (p := k) (by omega)
    have hc := q_clo hr h4 ht.2
    show S_X1_knowers_4 nw nR nd gv (nI f) k (B_X1_knowers_4 nw nR nd gv (nI f) 0 k) = nI (if kb nR ur tt f k = true then _ else _)
    rw [q_know R hT hr h4 hf k (by omega)]
    unfold S_X1_knowers_4
    rw [q_a0 nw (by omega), R.2.1 _ (by omega), ht.1, hc.1, q_con hc.2.2 hf, q_om0 _ hm k (by omega)]
    unfold kb
    by_cases h : (cl ur nR (tt k).toNatClampNeg).testBit f = true
    · rw [h, if_neg (by decide), if_pos rfl]
    · have h : (cl ur nR (tt k).toNatClampNeg).testBit f = false := by simpa using h
      rw [h, if_pos (by decide), if_neg (by decide)]
theorem q_know8 {P nR : Nat} {nd gv ur uk tt : Nat → Int32} (h5 : P ≤ 5) (hT : RTo P tt) (hr : gR nR nd gv ur) (h4 : nR ≤ 4) {p f : Nat} (v : Int32) (hf : f < 6) : ∀ k, k ≤ P → B_X8_knowersOf_6 P nR uk ur tt (nI p) p (nI f) v 0 k = nI (msk (fun o => hb P uk tt p v o && kb nR ur tt f o) k)
  | 0, _ => rfl
  | k + 1, hk => by
    have hm := msk_5 (fun o => hb P uk tt p v o && kb nR ur tt f o) (n := k) (by omega)
    have ht := hT.at (p := k) (by omega)
    have hc := q_clo hr h4 ht.2
    show S_X8_knowersOf_6 P nR uk ur tt (nI p) p (nI f) v k (B_X8_knowersOf_6 P nR uk ur tt (nI p) p (nI f) v 0 k) = nI (if (hb P uk tt p v k && kb nR ur tt f k) = true then _ else _)
    rw [q_know8 h5 hT hr h4 v hf k (by omega)]
    unfold S_X8_knowersOf_6
    rw [Nat.zero_add, ht.1, hc.2.1, q_has hc.2.2 hf, q_om0 _ hm k (by omega), q_oz0 _ hm]
    unfold hb kb
    by_cases h : f_X8_hears P uk tt (nI k) k (nI p) p v = 0
    · rw [if_pos h, if_neg (by simp [h])]
    · rw [if_neg h]
      by_cases h2 : (cl ur nR (tt k).toNatClampNeg).testBit f = true
      · rw [h2, if_neg (by decide), if_pos (by simp [h])]
      · have h2 : (cl ur nR (tt k).toNatClampNeg).testBit f = false := by simpa using h2
        rw [h2, if_pos (by decide), if_neg (by simp)]
/-- who hears and knows, in both -/
theorem q_some {P nR : Nat} {nd gv ur : Nat → Int32} {kd nw uk tt : Nat → Int32} (R : RP P kd nw uk tt) (hT : RTo P tt) (hr : gR nR nd gv ur) (h4 : nR ≤ 4) {p f : Nat} (v : Int32) (hp : p < P) (hf : f < 6) : B_X1_ears_5 nw P kd (nI p) v 0 P &&& B_X1_knowers_4 nw nR nd gv (nI f) 0 P = B_X8_knowersOf_6 P nR uk ur tt (nI p) p (nI f) v 0 P ∧ ∃ m, m < 32 ∧ B_X8_knowersOf_6 P nR uk ur tt (nI p) p (nI f) v 0 P = nI m := by
  have h5 := R.1
  have e := q_know8 (uk := uk) h5 hT hr h4 (p := p) v hf P (Nat.le_refl _)
  refine ⟨?_, _, msk_5 _ h5, e⟩
  rw [q_ears R hp v P (Nat.le_refl _), q_know R hT hr h4 hf P (Nat.le_refl _), q_an0 _ (msk_5 _ h5) _ (msk_5 _ h5), msk_and, e]
