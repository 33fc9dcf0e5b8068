def lwA (s : State) : Nat → Prop := fun q => s.heap.size ≤ q
def RALL (nT : Nat) (tx : Nat → Int32) (uT : Nat) (utx : Nat → Int32) (nP : Nat) (nR : Nat) (kd : Nat → Int32) (nd : Nat → Int32) (gv : Nat → Int32) (uP : Nat) (uR : Nat) (uk : Nat → Int32) (ur : Nat → Int32) (nw : Nat → Int32) (pg : Nat → Int32) (ac : Int32) (ax : Int32) (ah : Nat → Int32) (ua : Nat) (bk : Nat → Int32) (fs : Int32) (sl : Nat → Int32) (kp : Nat → Int32) (ik : Nat → Int32) (sc : Int32) (su : Int32) (sp : Int32) (us : Nat) (sF : Nat → Int32) (sS : Nat → Int32) (ch : Int64) (sd : Int64) : Prop := RTxt nT tx uT utx ∧ RTab nP nR kd nd gv uP uR uk ur ∧ RPag nP nw pg ∧ RAct nP ac ax ah ua bk ∧ RSlt nP fs sl kp ik ∧ RSee sc su sp us sF sS ∧ ch = sd
theorem law_env {b : Nat} {s : State} (hts : ∀ w ∈ lw_tbl, w.before #[Value.ref b] s = true) : ∃ (D : va_G) (cI cZ : ClassId), mE D cI cZ s := by
  have hB : ∀ w ∈ mBG, w.before #[Value.ref b] s = true := fun w hw => hts w (List.mem_filter.mp hw).1
  obtain ⟨c0, i0, k0⟩ := u_known (C := RX0) (T := TX0) (N := 3) (n := 3) hB inG0 (hB _ tw_1_88)
  obtain ⟨c1, i1, k1⟩ := u_known (C := RX1) (T := TX1) (N := 2) (n := 2) hB inG1 (hB _ tw_1_72)
  obtain ⟨c2, i2, k2⟩ := u_known (C := RX2) (T := TX2) (N := 1) (n := 1) hB inG2 (hB _ tw_1_27)
  obtain ⟨c3, i3, k3⟩ := u_known (C := RX3) (T := TX3) (N := 3) (n := 3) hB inG3 (hB _ tw_1_118)
  obtain ⟨c4, i4, k4⟩ := u_known (C := RX4) (T := TX4) (N := 1) (n := 1) hB inG4 (hB _ tw_1_94)
  obtain ⟨c5, i5, k5⟩ := u_known (C := RX5) (T := TX5) (N := 5) (n := 5) hB inG5 (hB _ tw_1_21)
  obtain ⟨c6, i6, k6⟩ := u_known (C := RX6) (T := TX6) (N := 2) (n := 2) hB inG6 (hB _ tw_1_57)
  obtain ⟨c7, i7, k7⟩ := u_known (C := RX7) (T := TX7) (N := 9) (n := 9) hB inG7 (hB _ tw_1_13)
  obtain ⟨c8, i8, k8⟩ := u_known (C := RX8) (T := TX8) (N := 31) (n := 31) hB inG8 (hB _ tw_3_110)
  obtain ⟨cI, kI, pI, fI, hI, dI⟩ := Cond.arrayClass_spec (hB _ tw_1_39)
  obtain ⟨cZ, kZ, pZ, fZ, hZ, dZ⟩ := Cond.arrayClass_spec (hB _ tw_3_209)
  refine ⟨(fun k => match k with | 0 => c0 | 1 => c1 | 2 => c2 | 3 => c3 | 4 => c4 | 5 => c5 | 6 => c6 | 7 => c7 | _ => c8, fun k => match k with | 0 => i0 | 1 => i1 | 2 => i2 | 3 => i3 | 4 => i4 | 5 => i5 | 6 => i6 | 7 => i7 | _ => i8), cI, cZ, ⟨?_, ?_⟩, ?_⟩
  · intro k q hq
    match k, hq with
    | 0, hq => cases hq; exact k0
    | 1, hq => cases hq; exact k1
    | 2, hq => cases hq; exact k2
    | 3, hq => cases hq; exact k3
    | 4, hq => cases hq; exact k4
    | 5, hq => cases hq; exact k5
    | 6, hq => cases hq; exact k6
    | 7, hq => cases hq; exact k7
    | 8, hq => cases hq; exact k8
    | k + 9, hq => simp [vwCl] at hq
  · intro k q hq
    match k, hq with
    | 0, hq => cases hq; exact ⟨fun n z => ⟨(fun k h => by cases h), kI, hI, pI, dI⟩, fI⟩
    | 1, hq => cases hq; exact ⟨fun n z => ⟨(fun k h => by cases h), kZ, hZ, pZ, dZ⟩, fZ⟩
    | k + 2, hq => simp at hq
  · unfold mNest
    simp only [List.forall_mem_cons]
    exact ⟨va_Nw.of rfl (hts _ (by decide +kernel)), va_Nw.of rfl (hts _ (by decide +kernel)), va_Nw.of rfl (hts _ (by decide +kernel)), va_Nw.of rfl (hts _ (by decide +kernel)), va_Nw.of rfl (hts _ (by decide +kernel)), va_Nw.of rfl (hts _ (by decide +kernel)), va_Nw.of rfl (hts _ (by decide +kernel)), fun _ h => absurd h List.not_mem_nil⟩
section LWR
variable {p : Program} {l : Launch} {e : Env} {R : Room} {s : State} {m : MethodId} {args : Array Value} {below : List Frame} {meth : Method} {c : Code} {H H0 : Heap} {locs : List Loc} {cells slots : Nat} {Q : State → Prop} {cc : ByteArray} {nL : Nat} {c0 : Cond} {own : String} {rest : List Value} {A : Nat → Prop} {ls : Array Slot} {pc : Nat} {b L : Nat} {xs : Nat → Int32}
theorem r_sld (CF : CallFix p m c cc nL s args (c0 :: mBG) own) (hX : va_X b L xs s H0) (hbl : b < H0.size) (hbA : ¬ A b) (hS : va_S A H0 H locs) {i : Int32} {a : Nat} (hi : i = nI a) (ha : a < L) (hL : L ≤ 3072) (hdg : decode cc pc = .ok (.iaload, 1))
    (kk : W p l e R s m args below meth c H locs cells slots Q (F0 m (pc + 1) ls (.int (xs a) :: rest))) : W p l e R s m args below meth c H locs cells slots Q (F0 m pc ls (.int i :: .ref b :: rest)) := by
  subst hi
  refine va_sld CF.1 CF.2.1 hX hbl hbA hS (vp_in_nI ha (by omega)) hdg ?_
  rw [nI_clamp (by omega)]
  exact kk
end LWR
theorem law_sg {nT : Nat} {tx : Nat → Int32} {uT : Nat} {utx : Nat → Int32} {nP : Nat} {nR : Nat} {kd : Nat → Int32} {nd : Nat → Int32} {gv : Nat → Int32} {uP : Nat} {uR : Nat} {uk : Nat → Int32} {ur : Nat → Int32} {nw : Nat → Int32} {pg : Nat → Int32} {ac : Int32} {ax : Int32} {ah : Nat → Int32} {ua : Nat} {bk : Nat → Int32} {fs : Int32} {sl : Nat → Int32} {kp : Nat → Int32} {ik : Nat → Int32} {sc : Int32} {su : Int32} {sp : Int32} {us : Nat} {sF : Nat → Int32} {sS : Nat → Int32} {ch : Int64} {sd : Int64} (hR : RALL nT tx uT utx nP nR kd nd gv uP uR uk ur nw pg ac ax ah ua bk fs sl kp ik sc su sp us sF sS ch sd) : ∃ sg : Nat → Nat, (∀ i, i < uP → pg (5 + i) = nI (sg i) ∧ sg i < uP) ∧ ∀ j, j < uP → ∃ i, i < uP ∧ sg i = j := by
  rw [hR.2.1.1]; obtain ⟨sg, S⟩ := hR.2.2.1.2.2; exact ⟨sg, S.1, S.2.1⟩
theorem law6 : ∀ L, L < 6 → Int32.ofNat L - 6 < 0 := by decide +kernel
theorem law_idx {L k : Nat} (hL : L ≤ 3072) (hk : k ≤ L) (h : ¬ (Int32.ofNat L - 6 < nI (6 * k))) : 6 * k + 6 ≤ L := by
  by_cases h6 : 6 ≤ L
  · have e : Int32.ofNat L - 6 = nI (L - 6) := nf_sub (rfl : Int32.ofNat L = nI L) (nf_c 6) h6
    rw [e, clt rfl rfl (by omega) (by omega)] at h
    omega
  · exact absurd (Int32.lt_of_lt_of_le (law6 L (by omega)) (Int32.not_lt.mp (nI_pos (by omega)))) h
