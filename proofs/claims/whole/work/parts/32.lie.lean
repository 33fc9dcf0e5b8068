/-! who puts it right; a lie in both -/
theorem q_sit7 {P : Nat} {kd nw uk tt : Nat → Int32} {sg : Nat → Nat} (R : RP P kd nw uk tt) (S : Sit P tt sg) {i0 : Nat} (h : i0 < P) : ∀ n k, k ≤ i0 → i0 - k < n → L_X1_sitter_2 nw P (nI (sg i0)) n k = nI i0
  | 0, k, _, hn => absurd hn (Nat.not_lt_zero _)
  | n + 1, k, hk, hn => by
    have h5 := R.1
    show S_X1_sitter_2 nw P (nI (sg i0)) (L_X1_sitter_2 nw P (nI (sg i0)) n) k = nI i0
    unfold S_X1_sitter_2
    have hs := (S.1 k (by omega)).2
    have hs0 := (S.1 i0 h).2
    rw [if_neg (fun z => absurd ((cle rfl rfl (by omega) (by omega)).mp z) (by omega)), q_a5 nw (by omega), R.2.1 _ (by omega), (S.1 k (by omega)).1]
    by_cases e : k = i0
    · rw [if_pos (by rw [e]), e]
    · rw [if_neg (fun z => e (S.2.2 k (by omega) i0 h ((ceq rfl rfl (by omega) (by omega)).mp z)))]
      exact q_sit7 R S h n (k + 1) (by omega) (by omega)
theorem q_sit8 {P : Nat} {tt : Nat → Int32} {sg : Nat → Nat} (h5 : P ≤ 5) (S : Sit P tt sg) {i0 : Nat} (h : i0 < P) : ∀ k, k ≤ P → B_X8_sitter_6 tt (nI (sg i0)) (-9) k = if i0 < k then nI i0 else -9
  | 0, _ => by rw [if_neg (Nat.not_lt_zero _)]; rfl
  | k + 1, hk => by
    show S_X8_sitter_6 tt (nI (sg i0)) k (B_X8_sitter_6 tt (nI (sg i0)) (-9) k) = _
    have hs := (S.1 k (by omega)).2
    have hs0 := (S.1 i0 h).2
    rw [q_sit8 h5 S h k (by omega)]
    unfold S_X8_sitter_6
    rw [(S.1 k (by omega)).1]
    by_cases e : k = i0
    · rw [if_pos (by rw [e]), if_pos (by omega), e]
    · rw [if_neg (fun z => e (S.2.2 k (by omega) i0 h ((ceq rfl rfl (by omega) (by omega)).mp z)))]
      by_cases h2 : i0 < k
      · rw [if_pos h2, if_pos (by omega)]
      · rw [if_neg h2, if_neg (by omega)]
theorem q_sit {P : Nat} {kd nw uk tt : Nat → Int32} {sg : Nat → Nat} (R : RP P kd nw uk tt) (S : Sit P tt sg) {s : Nat} (h : s < P) : ∃ o, o < P ∧ L_X1_sitter_2 nw P (nI s) (P + 1) 0 = nI o ∧ B_X8_sitter_6 tt (nI s) (-9) P = nI o := by
  obtain ⟨o, h1, h2⟩ := S.2.1 s h
  subst h2
  exact ⟨o, h1, q_sit7 R S h1 _ 0 (Nat.zero_le _) (by omega), by rw [q_sit8 R.1 S h1 P (Nat.le_refl _), if_pos h1]⟩
theorem q_bold {P : Nat} {kd nw uk tt : Nat → Int32} {sg : Nat → Nat} (R : RP P kd nw uk tt) (S : Sit P tt sg) {p : Nat} (hp : p < P) (some_ : Int32) : ∀ k, k ≤ P - 1 → ∀ n, k < n → L_X1_firstBold_11 nw P kd (nI p) some_ n (P - 1 - k) = B_X8_corrector_12 P uk tt p some_ (-9) k
  | 0, _, 0, hn => absurd hn (Nat.not_lt_zero _)
  | 0, _, n + 1, _ => by
    have h5 := R.1
    show S_X1_firstBold_11 nw P kd (nI p) some_ (L_X1_firstBold_11 nw P kd (nI p) some_ n) (P - 1 - 0) = -9
    unfold S_X1_firstBold_11
    rw [if_pos ((cle rfl rfl (by omega) (by omega)).mpr (by omega))]
  | k + 1, _, 0, hn => absurd hn (Nat.not_lt_zero _)
  | k + 1, hk, n + 1, hn => by
    have h5 := R.1
    have hsp := S.1 p hp
    show S_X1_firstBold_11 nw P kd (nI p) some_ (L_X1_firstBold_11 nw P kd (nI p) some_ n) (P - 1 - (k + 1)) = S_X8_corrector_12 P uk tt p some_ k (B_X8_corrector_12 P uk tt p some_ (-9) k)
    have ih := q_bold R S hp some_ k (by omega) n (by omega)
    have e1 : P - 1 - (k + 1) + 1 = P - 1 - k := by omega
    have e2 : 1 + (P - 1 - (k + 1)) = P - 1 - k := by omega
    obtain ⟨o, ho, s7, s8⟩ := q_sit R S (s := (sg p + (P - 1 - k)) % P) (Nat.mod_lt _ (by omega))
    have hq : h_X8_corrector_35 P tt p k = nI o := by
      unfold h_X8_corrector_35
      rw [nf_rem (nf_add hsp.1 rfl) rfl (by omega) (by omega) (by omega), s8]
    have hq7 : L_X1_sitter_2 nw P (((f_X2_at 15 nw (5 + nI p)) + (nI (1 + (P - 1 - (k + 1))))) - ((f_X2_at 15 nw (5 + nI p)) + (nI (1 + (P - 1 - (k + 1))))) / (nI P) * (nI P)) (P + 1) 0 = nI o := by
      rw [q_a5 nw (by omega), R.2.1 _ (by omega), e2, nf_rem (nf_add hsp.1 rfl) rfl (by omega) (by omega) (by omega), s7]
    unfold S_X1_firstBold_11 S_X8_corrector_12
    rw [if_neg (fun z => absurd ((cle rfl rfl (by omega) (by omega)).mp z) (by omega)), hq7, hq, e1, ih, q_at kd (by omega) (by decide), R.2.2 o ho, nI_clamp (by omega)]
    rfl
theorem q_ite3 (w : Int32) (d : Prop) [Decidable d] : (if w = -9 then (-9 : Int32) else if d then w else w) = w := by
  by_cases h : w = -9
  · rw [if_pos h, h]
  · rw [if_neg h]; split <;> rfl
theorem q_ite4 (w : Int32) (d : Prop) [Decidable d] : (if w = -9 then w else if d then w else w) = w := by
  split
  · rfl
  · split <;> rfl
/-- all that a lie stands on -/
def RL_ (P nR : Nat) (kd nd gv nw uk ur tt : Nat → Int32) (sg : Nat → Nat) : Prop := RP P kd nw uk tt ∧ RTo P tt ∧ Sit P tt sg ∧ gR nR nd gv ur ∧ nR ≤ 4
theorem q_who {P nR : Nat} {kd nd gv nw uk ur tt : Nat → Int32} {sg : Nat → Nat} (R : RL_ P nR kd nd gv nw uk ur tt sg) {p f : Nat} (hp : p < P) (hf : f < 6) (v : Int32) : L_X1_firstBold_11 nw P kd (nI p) (B_X1_ears_5 nw P kd (nI p) v 0 P &&& B_X1_knowers_4 nw nR nd gv (nI f) 0 P) ((P - 1) + 1) 0 = h_X8_goSay_19 P nR uk ur tt (nI p) p (nI f) v := by
  obtain ⟨R1, R2, R3, R4, R5⟩ := R
  have e := q_some R1 R2 R4 R5 v hp hf
  have b := q_bold R1 R3 hp (B_X8_knowersOf_6 P nR uk ur tt (nI p) p (nI f) v 0 P) (P - 1) (Nat.le_refl _) (P - 1 + 1) (Nat.lt_succ_self _)
  rw [Nat.sub_self] at b
  rw [e.1, b]
  rfl
theorem q_lie_r {P nR : Nat} {kd nd gv nw uk ur tt : Nat → Int32} {sg : Nat → Nat} (R : RL_ P nR kd nd gv nw uk ur tt sg) {p f : Nat} (hp : p < P) (hf : f < 6) (v : Int32) : f_X1_lie nw P nR kd nd gv (nI p) (nI f) v = f_X8_goSay P nR uk ur tt (nI p) p (nI f) v := by
  unfold f_X1_lie f_X8_goSay
  rw [q_who R hp hf v, q_ite3, q_ite4]
theorem q_bc1 : ∀ m, m < 32 → ∀ k, k < 5 → f_J6_bitCount_0f7a4 (nI m) ≤ 0 → f_X7_contains (nI m) (nI k) = 0 := by decide +kernel
theorem q_put10 (f : Nat → Int32) (v : Int32) {k : Nat} (hk : k < 5) : f_X2_put_sf 15 f (10 + nI k) v = upd f (10 + k) v := by
  rw [nf_add (nf_c 10) rfl, q_put f v (by omega) (by decide)]
theorem q_put5 (f : Nat → Int32) (v : Int32) {k : Nat} (hk : k < 5) : f_X2_put_sf 15 f (5 + nI k) v = upd f (5 + k) v := by
  rw [nf_add (nf_c 5) rfl, q_put f v (by omega) (by decide)]
theorem q_put0 (f : Nat → Int32) (v : Int32) {k : Nat} (hk : k < 5) : f_X2_put_sf 15 f (0 + nI k) v = upd f k v := by
  rw [nf_add (nf_c 0) rfl, Nat.zero_add, q_put f v (by omega) (by decide)]
theorem q_upd_id (f : Nat → Int32) (k : Nat) : upd f k (f k) = f := by
  funext i
  unfold upd
  split
  · rename_i h; rw [h]
  · rfl
theorem q_fine7 {m k : Nat} (hm : m < 32) (hk : k < 5) (x : Nat → Int32) : S_X1_fineEach_7 (nI m) k x = if f_X8_has (nI m) (nI k) = 0 then x else upd x (10 + k) (x (10 + k) + 12 / B_X8_many_4 (nI m) 0 6) := by
  unfold S_X1_fineEach_7
  rw [q_put10 x _ hk, q_a10 x hk, q_bc0 m (by omega)]
  by_cases h : f_X8_has (nI m) (nI k) = 0
  · rw [if_pos h]
    split
    · rfl
    · exact if_pos h
  · rw [if_neg h, if_neg, if_neg]
    · exact h
    · intro z
      rw [← q_bc0 m (by omega)] at z
      exact h (q_bc1 m hm k hk z)
theorem q_tell7 {m k : Nat} (hk : k < 5) (fc : Int32) (x : Nat → Int32) : S_X1_tellEach_2 (nI m) fc k x = if f_X8_has (nI m) (nI k) = 0 then x else upd x k (x k ||| ((1 : Int32) <<< (fc &&& 31))) := by
  unfold S_X1_tellEach_2
  rw [q_put0 x _ hk, q_a0 x hk]
  rfl
theorem q_or_z (x : Int32) : x ||| 0 = x := Int32.or_zero
theorem q_add_z (x : Int32) : x + 0 = x := Int32.add_zero x
theorem q_go_fine {P nR : Nat} {uk ur tt : Nat → Int32} {a2 a3 a4 : Int32} {p k : Nat} (x : Nat → Int32) (h : h_X8_goSay_19 P nR uk ur tt a2 p a3 a4 = -9) : S_X8_goSay_34 P nR uk ur tt a2 p a3 a4 k x = if f_X8_has (h_X8_goSay_9 P nR uk ur tt a2 p a3 a4) (nI k) = 0 then x else upd x (10 + k) (x (10 + k) + 12 / B_X8_many_4 (h_X8_goSay_9 P nR uk ur tt a2 p a3 a4) 0 6) := by
  unfold S_X8_goSay_34
  rw [if_pos h, if_pos h, Nat.zero_add, q_or_z, q_upd_id, q_add_z, q_upd_id]
theorem q_go_tell {P nR : Nat} {uk ur tt : Nat → Int32} {a2 a3 a4 : Int32} {p k : Nat} (x : Nat → Int32) (h : ¬ h_X8_goSay_19 P nR uk ur tt a2 p a3 a4 = -9) : S_X8_goSay_34 P nR uk ur tt a2 p a3 a4 k x = if f_X8_has (h_X8_goSay_29 P uk tt a2 p a4) (nI k) = 0 then x else upd x k (x k ||| ((1 : Int32) <<< (a3 &&& 31))) := by
  unfold S_X8_goSay_34
  rw [if_neg h, if_neg h, if_neg h, Nat.zero_add, q_or_z, q_upd_id, q_add_z, q_upd_id, q_add_z, q_upd_id]
theorem q_updp {f g : Nat → Int32} {n : Nat} (h : ∀ i, i < n → f i = g i) (k : Nat) {v w : Int32} (e : v = w) : ∀ i, i < n → upd f k v i = upd g k w i := by
  intro i hi
  unfold upd
  split
  · exact e
  · exact h i hi
theorem q_lie_pg {P nR : Nat} {kd nd gv nw uk ur tt : Nat → Int32} {sg : Nat → Nat} (R : RL_ P nR kd nd gv nw uk ur tt sg) {p f : Nat} (hp : p < P) (hf : f < 6) (v : Int32) : ∀ i, i < 15 → f_X1_lie_nw nw P nR kd nd gv (nI p) (nI f) v i = f_X8_goSay_tt P nR uk ur tt (nI p) p (nI f) v i := by
  have hw := q_who R hp hf v
  have R0 := R
  obtain ⟨R1, R2, R3, R4, R5⟩ := R0
  have h5 := R1.1
  obtain ⟨es, m, hm, em⟩ := q_some R1 R2 R4 R5 v hp hf
  have em9 : h_X8_goSay_9 P nR uk ur tt (nI p) p (nI f) v = nI m := em
  have eh : h_X8_goSay_29 P uk tt (nI p) p v = nI (msk (hb P uk tt p v) P) := q_hear h5 v P (Nat.le_refl _)
  have ee := q_ears R1 hp v P (Nat.le_refl _)
  intro i hi
  unfold f_X1_lie_nw f_X8_goSay_tt
  rw [hw]
  by_cases hc : h_X8_goSay_19 P nR uk ur tt (nI p) p (nI f) v = -9
  · rw [if_pos hc, if_pos hc, q_add_z, q_upd_id, es, em]
    have L : ∀ k, k ≤ P → ∀ i, i < 15 → B_X1_fineEach_7 (nI m) nw k i = B_X8_goSay_34 P nR uk ur tt (nI p) p (nI f) v tt k i := by
      intro k
      induction k with
      | zero => intro _ i hi; exact R1.2.1 i hi
      | succ k ih =>
        intro hk i hi
        have ih := ih (by omega)
        show S_X1_fineEach_7 (nI m) k (B_X1_fineEach_7 (nI m) nw k) i = S_X8_goSay_34 P nR uk ur tt (nI p) p (nI f) v k (B_X8_goSay_34 P nR uk ur tt (nI p) p (nI f) v tt k) i
        rw [q_fine7 hm (by omega), q_go_fine _ hc, em9]
        split
        · exact ih i hi
        · exact q_updp ih _ (by rw [ih _ (by omega)]) i hi
    exact L P (Nat.le_refl _) i hi
  · rw [if_neg hc, if_neg hc, ee, q_at kd (by omega) (by decide), R1.2.2 p hp]
    have L : ∀ k, k ≤ P → ∀ i, i < 15 → B_X1_tellEach_2 (nI (msk (hb P uk tt p v) P)) (nI f) nw k i = B_X8_goSay_34 P nR uk ur tt (nI p) p (nI f) v tt k i := by
      intro k
      induction k with
      | zero => intro _ i hi; exact R1.2.1 i hi
      | succ k ih =>
        intro hk i hi
        have ih := ih (by omega)
        show S_X1_tellEach_2 _ (nI f) k (B_X1_tellEach_2 _ (nI f) nw k) i = S_X8_goSay_34 P nR uk ur tt (nI p) p (nI f) v k (B_X8_goSay_34 P nR uk ur tt (nI p) p (nI f) v tt k) i
        rw [q_tell7 (by omega), q_go_tell _ hc, eh]
        split
        · exact ih i hi
        · exact q_updp ih _ (by rw [ih _ (by omega)]) i hi
    have L1 := L P (Nat.le_refl _)
    by_cases h3 : uk p = 3
    · rw [if_pos h3, if_pos h3, q_add_z, q_upd_id]
      exact L1 i hi
    · rw [if_neg h3, if_neg h3, q_put10 _ _ (by omega), q_a10 _ (by omega)]
      exact q_updp L1 _ (by rw [L1 _ (by omega)]) i hi
theorem q_of0 : ∀ t, t < 64 → ∀ f, f < 6 → ∃ u, u < 64 ∧ nI t ||| ((1 : Int32) <<< (nI f &&& 31)) = nI u := fun t ht f hf => ⟨t ||| 2 ^ f, (q_or0 t ht f hf).2.2, (q_or0 t ht f hf).2.1⟩
theorem q_lie_to {P nR : Nat} {uk ur tt : Nat → Int32} (h5 : P ≤ 5) (hT : RTo P tt) {p f : Nat} (hf : f < 6) (v : Int32) : RTo P (f_X8_goSay_tt P nR uk ur tt (nI p) p (nI f) v) := by
  have L : ∀ k, k ≤ P → RTo P (B_X8_goSay_34 P nR uk ur tt (nI p) p (nI f) v tt k) := by
    intro k
    induction k with
    | zero => intro _; exact hT
    | succ k ih =>
      intro hk q hq
      have ih := ih (by omega)
      show ∃ t, t < 64 ∧ S_X8_goSay_34 P nR uk ur tt (nI p) p (nI f) v k (B_X8_goSay_34 P nR uk ur tt (nI p) p (nI f) v tt k) q = nI t
      by_cases hc : h_X8_goSay_19 P nR uk ur tt (nI p) p (nI f) v = -9
      · rw [q_go_fine _ hc]
        split
        · exact ih q hq
        · unfold upd
          rw [if_neg (by omega)]
          exact ih q hq
      · rw [q_go_tell _ hc]
        split
        · exact ih q hq
        · unfold upd
          split
          · obtain ⟨t, h1, h2⟩ := ih k (by omega)
            rw [h2]
            exact q_of0 t h1 f hf
          · exact ih q hq
  have L1 := L P (Nat.le_refl _)
  have up : ∀ w : Int32, RTo P (upd (B_X8_goSay_34 P nR uk ur tt (nI p) p (nI f) v tt P) (10 + p) w) := by
    intro w q hq
    unfold upd
    rw [if_neg (by omega)]
    exact L1 q hq
  unfold f_X8_goSay_tt
  split
  · exact up _
  · split
    · exact up _
    · exact up _
theorem q_lie_sit {P nR : Nat} {uk ur tt : Nat → Int32} {sg : Nat → Nat} (h5 : P ≤ 5) (S : Sit P tt sg) {a2 a3 v : Int32} {p : Nat} : Sit P (f_X8_goSay_tt P nR uk ur tt a2 p a3 v) sg := ⟨goSay_sg h5 S.1, S.2⟩
