theorem q_write (fs : Int32) (ch : Int64) (nT : Nat) (tx : Nat → Int32) (nP : Nat) (nR : Nat) (kd : Nat → Int32) (nd : Nat → Int32) (gv : Nat → Int32) (nw : Nat → Int32) (dw : Nat → Int32) (ac : Int32) (ax : Int32) (ah : Nat → Int32) (sl : Nat → Int32) (sc : Int32) (su : Int32) (sp : Int32) (th : Int32) (uT : Nat) (up : Nat) (uP : Nat) (uR : Nat) (vP : Nat) (vR : Nat) (ua : Nat) (us : Nat) (sd : Int64) (z1 : Int32) (z2 : Int32) (z3 : Int32) (z4 : Int32) (z5 : Int32) (z6 : Int32) (z7 : Int32) (utx : Nat → Int32) (uk : Nat → Int32) (ur : Nat → Int32) (vk : Nat → Int32) (vt : Nat → Int32) (vr : Nat → Int32) (pg : Nat → Int32) (tr : Nat → Int32) (bk : Nat → Int32) (kp : Nat → Int32) (ik : Nat → Int32) (sF : Nat → Int32) (sS : Nat → Int32) (va : Nat → Int32) (a1 : Int32) (hR : RALL nT tx uT utx nP nR kd nd gv uP uR uk ur nw pg ac ax ah ua bk fs sl kp ik sc su sp us sF sS ch sd) : (f_X7_write nT a1) = (f_X8_write uT a1) ∧ RALL (f_X7_write_nT nT a1) (f_X7_write_tx nT tx a1) (f_X8_write_uT uT a1) (f_X8_write_utx uT utx a1) nP nR kd nd gv uP uR uk ur nw pg ac ax ah ua bk fs sl kp ik sc su sp us sF sS ch sd := by
  obtain ⟨hT, hB, hP, hA, hS, hE, hC⟩ := hR
  obtain ⟨rfl, h2, h3⟩ := hT
  have e : f_X8_in a1.toInt64 0 255 = f_X8_in a1.toInt64 (0 : Int32).toInt64 (255 : Int32).toInt64 := rfl
  rw [q_in2] at e
  unfold f_X7_write f_X8_write f_X7_write_nT f_X7_write_tx f_X8_write_uT f_X8_write_utx f_X6_append f_X6_append_nT f_X6_append_tx
  by_cases h0 : a1 < 0
  · rw [if_neg (fun z => Int32.lt_irrefl (Int32.lt_of_lt_of_le h0 z.1))] at e
    simp only [e, if_pos h0, if_true]
    exact ⟨trivial, ⟨rfl, h2, h3⟩, hB, hP, hA, hS, hE, hC⟩
  · by_cases h1 : a1 ≤ 255
    · rw [if_pos ⟨Int32.not_lt.mp h0, h1⟩] at e
      simp only [e, if_neg h0, if_pos h1, q_10, if_false]
      by_cases hf : uT < 40
      · have c1 : nI uT < 40 := (clt rfl (nf_c 40) (by omega) (by decide)).mpr hf
        have c2 : ¬ nI uT = 40 := fun z => absurd ((ceq rfl (nf_c 40) (by omega) (by decide)).mp z) (by omega)
        simp only [if_pos c1, if_neg c2]
        refine ⟨trivial, ⟨rfl, by omega, fun i hi => ?_⟩, hB, hP, hA, hS, hE, hC⟩
        rw [q_put tx a1 hf (by decide)]
        unfold upd
        split
        · rfl
        · exact h3 i (by omega)
      · have c1 : ¬ nI uT < 40 := fun z => hf ((clt rfl (nf_c 40) (by omega) (by decide)).mp z)
        have c2 : nI uT = 40 := by rw [show uT = 40 by omega]; rfl
        simp only [if_neg c1, if_pos c2]
        exact ⟨trivial, ⟨rfl, h2, h3⟩, hB, hP, hA, hS, hE, hC⟩
    · rw [if_neg (fun z => h1 z.2)] at e
      simp only [e, if_neg h0, if_neg h1, if_true]
      exact ⟨trivial, ⟨rfl, h2, h3⟩, hB, hP, hA, hS, hE, hC⟩
theorem q_wipe (fs : Int32) (ch : Int64) (nT : Nat) (tx : Nat → Int32) (nP : Nat) (nR : Nat) (kd : Nat → Int32) (nd : Nat → Int32) (gv : Nat → Int32) (nw : Nat → Int32) (dw : Nat → Int32) (ac : Int32) (ax : Int32) (ah : Nat → Int32) (sl : Nat → Int32) (sc : Int32) (su : Int32) (sp : Int32) (th : Int32) (uT : Nat) (up : Nat) (uP : Nat) (uR : Nat) (vP : Nat) (vR : Nat) (ua : Nat) (us : Nat) (sd : Int64) (z1 : Int32) (z2 : Int32) (z3 : Int32) (z4 : Int32) (z5 : Int32) (z6 : Int32) (z7 : Int32) (utx : Nat → Int32) (uk : Nat → Int32) (ur : Nat → Int32) (vk : Nat → Int32) (vt : Nat → Int32) (vr : Nat → Int32) (pg : Nat → Int32) (tr : Nat → Int32) (bk : Nat → Int32) (kp : Nat → Int32) (ik : Nat → Int32) (sF : Nat → Int32) (sS : Nat → Int32) (va : Nat → Int32) (hR : RALL nT tx uT utx nP nR kd nd gv uP uR uk ur nw pg ac ax ah ua bk fs sl kp ik sc su sp us sF sS ch sd) : (nI nT) = (nI uT) ∧ RALL 0 tx 0 utx nP nR kd nd gv uP uR uk ur nw pg ac ax ah ua bk fs sl kp ik sc su sp us sF sS ch sd := by
  obtain ⟨hT, hB, hP, hA, hS, hE, hC⟩ := hR
  obtain ⟨rfl, h2, h3⟩ := hT
  exact ⟨rfl, ⟨rfl, Nat.zero_le _, fun i h => absurd h (Nat.not_lt_zero _)⟩, hB, hP, hA, hS, hE, hC⟩
theorem q_fault (fs : Int32) (ch : Int64) (nT : Nat) (tx : Nat → Int32) (nP : Nat) (nR : Nat) (kd : Nat → Int32) (nd : Nat → Int32) (gv : Nat → Int32) (nw : Nat → Int32) (dw : Nat → Int32) (ac : Int32) (ax : Int32) (ah : Nat → Int32) (sl : Nat → Int32) (sc : Int32) (su : Int32) (sp : Int32) (th : Int32) (uT : Nat) (up : Nat) (uP : Nat) (uR : Nat) (vP : Nat) (vR : Nat) (ua : Nat) (us : Nat) (sd : Int64) (z1 : Int32) (z2 : Int32) (z3 : Int32) (z4 : Int32) (z5 : Int32) (z6 : Int32) (z7 : Int32) (utx : Nat → Int32) (uk : Nat → Int32) (ur : Nat → Int32) (vk : Nat → Int32) (vt : Nat → Int32) (vr : Nat → Int32) (pg : Nat → Int32) (tr : Nat → Int32) (bk : Nat → Int32) (kp : Nat → Int32) (ik : Nat → Int32) (sF : Nat → Int32) (sS : Nat → Int32) (va : Nat → Int32) (hR : RALL nT tx uT utx nP nR kd nd gv uP uR uk ur nw pg ac ax ah ua bk fs sl kp ik sc su sp us sF sS ch sd) : ((L_X6_firstFault_2 nT tx (nT + 1) 0)) = (f_X8_readTable uT utx vk vt vr) ∧ RALL nT tx uT utx nP nR kd nd gv uP uR uk ur nw pg ac ax ah ua bk fs sl kp ik sc su sp us sF sS ch sd := by
  obtain ⟨hT, hB, hP, hA, hS, hE, hC⟩ := hR
  obtain ⟨rfl, h2, h3⟩ := hT
  exact ⟨(ps_fault (kd0 := kd) (nd0 := nd) (gv0 := gv) (nw0 := fun _ => 0) h2 h3 (fun _ _ => rfl)).1, ⟨rfl, h2, h3⟩, hB, hP, hA, hS, hE, hC⟩
theorem q_table (fs : Int32) (ch : Int64) (nT : Nat) (tx : Nat → Int32) (nP : Nat) (nR : Nat) (kd : Nat → Int32) (nd : Nat → Int32) (gv : Nat → Int32) (nw : Nat → Int32) (dw : Nat → Int32) (ac : Int32) (ax : Int32) (ah : Nat → Int32) (sl : Nat → Int32) (sc : Int32) (su : Int32) (sp : Int32) (th : Int32) (uT : Nat) (up : Nat) (uP : Nat) (uR : Nat) (vP : Nat) (vR : Nat) (ua : Nat) (us : Nat) (sd : Int64) (z1 : Int32) (z2 : Int32) (z3 : Int32) (z4 : Int32) (z5 : Int32) (z6 : Int32) (z7 : Int32) (utx : Nat → Int32) (uk : Nat → Int32) (ur : Nat → Int32) (vk : Nat → Int32) (vt : Nat → Int32) (vr : Nat → Int32) (pg : Nat → Int32) (tr : Nat → Int32) (bk : Nat → Int32) (kp : Nat → Int32) (ik : Nat → Int32) (sF : Nat → Int32) (sS : Nat → Int32) (va : Nat → Int32) (hR : RALL nT tx uT utx nP nR kd nd gv uP uR uk ur nw pg ac ax ah ua bk fs sl kp ik sc su sp us sF sS ch sd) : (f_X7_table nT tx kd nd gv nw) = (f_X8_table uT utx vk vt vr) ∧ RALL nT tx uT utx (f_X7_table_nP nT tx nP kd nd gv nw) (f_X7_table_nR nT tx nR kd nd gv nw) (f_X7_table_kd nT tx kd nd gv nw) (f_X7_table_nd nT tx kd nd gv nw) (f_X7_table_gv nT tx kd nd gv nw) (f_X8_table_uP uT uP utx vk vt vr) (f_X8_table_uR uT uR utx vk vt vr) (f_X8_table_uk uT utx vk vt vr uk pg) (f_X8_table_ur uT utx vk vt vr ur) (f_X7_table_nw nT tx kd nd gv nw) (f_X8_table_pg uT utx vk vt vr uk pg) (f_X7_table_ac nT tx ac) ax ah (f_X8_table_ua uT ua utx vk vt vr) bk (f_X7_table_fs fs nT tx) sl kp (f_X8_table_ik uT utx vk vt vr ik) sc su sp us sF sS ch sd := by
  obtain ⟨hT, hB, hP, hA, hS, hE, hC⟩ := hR
  obtain ⟨rfl, h2, h3⟩ := hT
  have hf := ps_fault (kd0 := kd) (nd0 := nd) (gv0 := gv) (nw0 := B_X2_fill_2 0 nw 15) (vk := vk) (vt := vt) (vr := vr) h2 h3 (fun i hi => by rw [ps_fill, if_pos hi])
  unfold f_X7_table f_X7_table_nP f_X7_table_nR f_X7_table_kd f_X7_table_nd f_X7_table_gv f_X7_table_nw f_X7_table_ac f_X7_table_fs f_X8_table f_X8_table_uP f_X8_table_uR f_X8_table_uk f_X8_table_ur f_X8_table_pg f_X8_table_ua f_X8_table_ik
  rw [hf.1]
  by_cases h9 : f_X8_readTable uT utx vk vt vr = -9
  · obtain ⟨K, hK, hS2⟩ := hf.2 h9
    obtain ⟨kd1, nd1, gv1, nw1, e, t1, t2⟩ := ps_pages (uk := uk) (ur := ur) (pg := pg) hS2 rfl rfl
    simp only [h9, if_true]
    rw [show (uT + 2) / 4 = K by omega, e]
    have hA1 : RAct (f_X8_readTable_vP uT utx vk vt vr) 0 ax ah 0 bk := by
      obtain ⟨-, -, x, x1, x2, -⟩ := hA
      exact ⟨rfl, by decide, x, x1, x2, fun m hm => absurd hm (Nat.not_lt_zero _)⟩
    refine ⟨rfl, ⟨rfl, h2, h3⟩, t1, t2, hA1, ⟨0, by decide, rfl, fun k hk => ⟨?_, fun h => absurd h (by simp)⟩⟩, hE, hC⟩
    rcases (show k = 0 ∨ k = 1 by omega) with rfl | rfl <;> simp [upd]
  · simp only [h9, if_false]
    exact ⟨trivial, ⟨rfl, h2, h3⟩, hB, hP, hA, hS, hE, hC⟩
theorem q_about (fs : Int32) (ch : Int64) (nT : Nat) (tx : Nat → Int32) (nP : Nat) (nR : Nat) (kd : Nat → Int32) (nd : Nat → Int32) (gv : Nat → Int32) (nw : Nat → Int32) (dw : Nat → Int32) (ac : Int32) (ax : Int32) (ah : Nat → Int32) (sl : Nat → Int32) (sc : Int32) (su : Int32) (sp : Int32) (th : Int32) (uT : Nat) (up : Nat) (uP : Nat) (uR : Nat) (vP : Nat) (vR : Nat) (ua : Nat) (us : Nat) (sd : Int64) (z1 : Int32) (z2 : Int32) (z3 : Int32) (z4 : Int32) (z5 : Int32) (z6 : Int32) (z7 : Int32) (utx : Nat → Int32) (uk : Nat → Int32) (ur : Nat → Int32) (vk : Nat → Int32) (vt : Nat → Int32) (vr : Nat → Int32) (pg : Nat → Int32) (tr : Nat → Int32) (bk : Nat → Int32) (kp : Nat → Int32) (ik : Nat → Int32) (sF : Nat → Int32) (sS : Nat → Int32) (va : Nat → Int32) (a1 : Int32) (hR : RALL nT tx uT utx nP nR kd nd gv uP uR uk ur nw pg ac ax ah ua bk fs sl kp ik sc su sp us sF sS ch sd) : (f_X7_about nT nP nR nd gv nw ac sc a1) = (f_X8_about uT uP uR ua us ur pg a1) ∧ RALL nT tx uT utx nP nR kd nd gv uP uR uk ur nw pg ac ax ah ua bk fs sl kp ik sc su sp us sF sS ch sd := by
  obtain ⟨hT, hB, hP, hA, hS, hE, hC⟩ := hR
  obtain ⟨rfl, rfl, h5, h4, hk, hg⟩ := hB
  refine ⟨?_, hT, ⟨rfl, rfl, h5, h4, hk, hg⟩, hP, hA, hS, hE, hC⟩
  unfold f_X7_about f_X8_about
  rw [q_fines hP.1 uP h5, q_known h5 hP.1 hP.2.1 hg h4 uP (Nat.le_refl _), hA.1, hE.1, hT.1]
theorem q_person (fs : Int32) (ch : Int64) (nT : Nat) (tx : Nat → Int32) (nP : Nat) (nR : Nat) (kd : Nat → Int32) (nd : Nat → Int32) (gv : Nat → Int32) (nw : Nat → Int32) (dw : Nat → Int32) (ac : Int32) (ax : Int32) (ah : Nat → Int32) (sl : Nat → Int32) (sc : Int32) (su : Int32) (sp : Int32) (th : Int32) (uT : Nat) (up : Nat) (uP : Nat) (uR : Nat) (vP : Nat) (vR : Nat) (ua : Nat) (us : Nat) (sd : Int64) (z1 : Int32) (z2 : Int32) (z3 : Int32) (z4 : Int32) (z5 : Int32) (z6 : Int32) (z7 : Int32) (utx : Nat → Int32) (uk : Nat → Int32) (ur : Nat → Int32) (vk : Nat → Int32) (vt : Nat → Int32) (vr : Nat → Int32) (pg : Nat → Int32) (tr : Nat → Int32) (bk : Nat → Int32) (kp : Nat → Int32) (ik : Nat → Int32) (sF : Nat → Int32) (sS : Nat → Int32) (va : Nat → Int32) (a1 : Int32) (a2 : Int32) (hR : RALL nT tx uT utx nP nR kd nd gv uP uR uk ur nw pg ac ax ah ua bk fs sl kp ik sc su sp us sF sS ch sd) : (f_X7_person nP nR kd nd gv nw a1 a2) = (f_X8_person uP uR uk ur pg a1 a2) ∧ RALL nT tx uT utx nP nR kd nd gv uP uR uk ur nw pg ac ax ah ua bk fs sl kp ik sc su sp us sF sS ch sd := by
  obtain ⟨hT, hB, hP, hA, hS, hE, hC⟩ := hR
  obtain ⟨rfl, rfl, h5, h4, hk, hg⟩ := hB
  refine ⟨?_, hT, ⟨rfl, rfl, h5, h4, hk, hg⟩, hP, hA, hS, hE, hC⟩
  unfold f_X7_person f_X8_person
  rcases q_per h5 a1 with ⟨u1, u2⟩ | ⟨p, hp, e1, u1, u2⟩
  · simp only [u1, u2, q_10, if_true, if_false]
  · subst e1
    have hp5 : p < 5 := by omega
    have ht := hP.2.1.at hp
    have hc := q_clo hg h4 ht.2
    simp only [u1, u2, q_10, if_true, if_false]
    rw [nI_clamp (by omega), q_at kd hp5 (by decide), q_a0 nw hp5, q_a5 nw hp5, q_a10 nw hp5, Nat.zero_add, hk p hp, hP.1 p (by omega), hP.1 (5 + p) (by omega), hP.1 (10 + p) (by omega), ht.1, hc.1, hc.2.1]
theorem q_far (fs : Int32) (ch : Int64) (nT : Nat) (tx : Nat → Int32) (nP : Nat) (nR : Nat) (kd : Nat → Int32) (nd : Nat → Int32) (gv : Nat → Int32) (nw : Nat → Int32) (dw : Nat → Int32) (ac : Int32) (ax : Int32) (ah : Nat → Int32) (sl : Nat → Int32) (sc : Int32) (su : Int32) (sp : Int32) (th : Int32) (uT : Nat) (up : Nat) (uP : Nat) (uR : Nat) (vP : Nat) (vR : Nat) (ua : Nat) (us : Nat) (sd : Int64) (z1 : Int32) (z2 : Int32) (z3 : Int32) (z4 : Int32) (z5 : Int32) (z6 : Int32) (z7 : Int32) (utx : Nat → Int32) (uk : Nat → Int32) (ur : Nat → Int32) (vk : Nat → Int32) (vt : Nat → Int32) (vr : Nat → Int32) (pg : Nat → Int32) (tr : Nat → Int32) (bk : Nat → Int32) (kp : Nat → Int32) (ik : Nat → Int32) (sF : Nat → Int32) (sS : Nat → Int32) (va : Nat → Int32) (a1 : Int32) (a2 : Int32) (hR : RALL nT tx uT utx nP nR kd nd gv uP uR uk ur nw pg ac ax ah ua bk fs sl kp ik sc su sp us sF sS ch sd) : (f_X7_far nP nw a1 a2) = (f_X8_far uP pg a1 a2) ∧ RALL nT tx uT utx nP nR kd nd gv uP uR uk ur nw pg ac ax ah ua bk fs sl kp ik sc su sp us sF sS ch sd := by
  obtain ⟨hT, hB, hP, hA, hS, hE, hC⟩ := hR
  obtain ⟨rfl, rfl, h5, h4, hk, hg⟩ := hB
  have R : RP uP kd nw uk pg := ⟨h5, hP.1, hk⟩
  unfold f_X7_far f_X8_far
  rcases q_per h5 a1 with ⟨u1, u2⟩ | ⟨p, hp, e1, u1, u2⟩
  · simp only [u1, u2, q_10, if_true, if_false]
    exact ⟨trivial, hT, ⟨rfl, rfl, h5, h4, hk, hg⟩, hP, hA, hS, hE, hC⟩
  · rcases q_per h5 a2 with ⟨v1, v2⟩ | ⟨r, hr, e2, v1, v2⟩
    · simp only [u1, u2, v1, v2, q_10, if_true, if_false]
      exact ⟨trivial, hT, ⟨rfl, rfl, h5, h4, hk, hg⟩, hP, hA, hS, hE, hC⟩
    · simp only [u1, u2, v1, v2, q_10, if_true, if_false]
      refine ⟨?_, hT, ⟨rfl, rfl, h5, h4, hk, hg⟩, hP, hA, hS, hE, hC⟩
      rw [e1, e2, q_dist R hp hr, nI_clamp (by omega), nI_clamp (by omega)]
theorem q_say (fs : Int32) (ch : Int64) (nT : Nat) (tx : Nat → Int32) (nP : Nat) (nR : Nat) (kd : Nat → Int32) (nd : Nat → Int32) (gv : Nat → Int32) (nw : Nat → Int32) (dw : Nat → Int32) (ac : Int32) (ax : Int32) (ah : Nat → Int32) (sl : Nat → Int32) (sc : Int32) (su : Int32) (sp : Int32) (th : Int32) (uT : Nat) (up : Nat) (uP : Nat) (uR : Nat) (vP : Nat) (vR : Nat) (ua : Nat) (us : Nat) (sd : Int64) (z1 : Int32) (z2 : Int32) (z3 : Int32) (z4 : Int32) (z5 : Int32) (z6 : Int32) (z7 : Int32) (utx : Nat → Int32) (uk : Nat → Int32) (ur : Nat → Int32) (vk : Nat → Int32) (vt : Nat → Int32) (vr : Nat → Int32) (pg : Nat → Int32) (tr : Nat → Int32) (bk : Nat → Int32) (kp : Nat → Int32) (ik : Nat → Int32) (sF : Nat → Int32) (sS : Nat → Int32) (va : Nat → Int32) (a1 : Int32) (a2 : Int32) (a3 : Int32) (hR : RALL nT tx uT utx nP nR kd nd gv uP uR uk ur nw pg ac ax ah ua bk fs sl kp ik sc su sp us sF sS ch sd) : (f_X7_say nP nR kd nd gv nw a1 a2 a3) = (f_X8_say uP uR uk ur pg a1 a2 a3) ∧ RALL nT tx uT utx nP nR kd nd gv uP uR uk ur (f_X7_say_nw nP nR kd nd gv nw a1 a2 a3) (f_X8_say_pg uP uR uk ur pg a1 a2 a3) (f_X7_say_ac nP ac a1 a2 a3) (f_X7_say_ax nP ax a1 a2 a3) (f_X7_say_ah nP nw ax ah a1 a2 a3) (f_X8_say_ua uP ua a1 a2 a3) (f_X8_say_bk uP ua pg bk a1 a2 a3) fs sl kp ik sc su sp us sF sS ch sd := by
  obtain ⟨hT, hB, hP, hA, hS, hE, hC⟩ := hR
  obtain ⟨rfl, rfl, h5, h4, hk, hg⟩ := hB
  have R : RP uP kd nw uk pg := ⟨h5, hP.1, hk⟩
  unfold f_X7_say f_X7_say_nw f_X7_say_ah f_X7_say_ac f_X7_say_ax f_X8_say f_X8_say_pg f_X8_say_bk f_X8_say_ua
  rcases q_ref h5 a1 a2 a3 with ⟨u1, u2⟩ | ⟨u1, u2, u3⟩ | ⟨u1, u2, u3, u4⟩ | ⟨p, f, hp, hf, e1, e2, u1, u2, u3, u4⟩
  · simp only [u1, u2, q_10, if_true, if_false]
    exact ⟨rfl, hT, ⟨rfl, rfl, h5, h4, hk, hg⟩, hP, hA, hS, hE, hC⟩
  · simp only [u1, u2, u3, q_10, if_true, if_false]
    exact ⟨rfl, hT, ⟨rfl, rfl, h5, h4, hk, hg⟩, hP, hA, hS, hE, hC⟩
  · simp only [u1, u2, u3, u4, q_10, if_true, if_false]
    exact ⟨rfl, hT, ⟨rfl, rfl, h5, h4, hk, hg⟩, hP, hA, hS, hE, hC⟩
  · simp only [u1, u2, u3, u4, q_10, if_true, if_false]
    obtain ⟨sg, hsg⟩ := hP.2.2
    have RL : RL_ uP uR kd nd gv nw uk ur pg sg := ⟨R, hP.2.1, hsg, hg, h4⟩
    subst e1 e2
    rw [nI_clamp (by omega)]
    exact ⟨q_lie_r RL hp hf a3, hT, ⟨rfl, rfl, h5, h4, hk, hg⟩, ⟨q_lie_pg RL hp hf a3, q_lie_to h5 hP.2.1 hf a3, sg, q_lie_sit h5 hsg⟩, q_rem h5 hA hP, hS, hE, hC⟩
theorem q_teach (fs : Int32) (ch : Int64) (nT : Nat) (tx : Nat → Int32) (nP : Nat) (nR : Nat) (kd : Nat → Int32) (nd : Nat → Int32) (gv : Nat → Int32) (nw : Nat → Int32) (dw : Nat → Int32) (ac : Int32) (ax : Int32) (ah : Nat → Int32) (sl : Nat → Int32) (sc : Int32) (su : Int32) (sp : Int32) (th : Int32) (uT : Nat) (up : Nat) (uP : Nat) (uR : Nat) (vP : Nat) (vR : Nat) (ua : Nat) (us : Nat) (sd : Int64) (z1 : Int32) (z2 : Int32) (z3 : Int32) (z4 : Int32) (z5 : Int32) (z6 : Int32) (z7 : Int32) (utx : Nat → Int32) (uk : Nat → Int32) (ur : Nat → Int32) (vk : Nat → Int32) (vt : Nat → Int32) (vr : Nat → Int32) (pg : Nat → Int32) (tr : Nat → Int32) (bk : Nat → Int32) (kp : Nat → Int32) (ik : Nat → Int32) (sF : Nat → Int32) (sS : Nat → Int32) (va : Nat → Int32) (a1 : Int32) (a2 : Int32) (hR : RALL nT tx uT utx nP nR kd nd gv uP uR uk ur nw pg ac ax ah ua bk fs sl kp ik sc su sp us sF sS ch sd) : (f_X7_teach nP nR nd gv nw a1 a2) = (f_X8_teach uP uR ur pg a1 a2) ∧ RALL nT tx uT utx nP nR kd nd gv uP uR uk ur (f_X7_teach_nw nP nw a1 a2) (f_X8_teach_pg uP pg a1 a2) (f_X7_teach_ac nP nw ac a1 a2) (f_X7_teach_ax nP nw ax a1 a2) (f_X7_teach_ah nP nw ax ah a1 a2) (f_X8_teach_ua uP ua pg a1 a2) (f_X8_teach_bk uP ua pg bk a1 a2) fs sl kp ik sc su sp us sF sS ch sd := by
  obtain ⟨hT, hB, hP, hA, hS, hE, hC⟩ := hR
  obtain ⟨rfl, rfl, h5, h4, hk, hg⟩ := hB
  unfold f_X7_teach f_X7_teach_nw f_X7_teach_ah f_X7_teach_ac f_X7_teach_ax f_X8_teach f_X8_teach_pg f_X8_teach_bk f_X8_teach_ua
  rcases q_per h5 a1 with ⟨u1, u2⟩ | ⟨p, hp, e1, u1, u2⟩
  · simp only [u1, u2, q_10, if_true, if_false]
    exact ⟨by first | exact trivial | rfl, hT, ⟨rfl, rfl, h5, h4, hk, hg⟩, hP, hA, hS, hE, hC⟩
  · rcases q_fac a2 with ⟨v1, v2⟩ | ⟨f, hf, e2, v1, v2⟩
    · simp only [u1, u2, v1, v2, q_10, if_true, if_false]
      exact ⟨by first | exact trivial | rfl, hT, ⟨rfl, rfl, h5, h4, hk, hg⟩, hP, hA, hS, hE, hC⟩
    · subst e1 e2
      have hp5 : p < 5 := by omega
      obtain ⟨t, ht, et⟩ := hP.2.1 p hp
      have en : nw p = nI t := (hP.1 p (by omega)).trans et
      have A := fun g : Nat → Int32 => q_a0 g hp5
      have B := fun (g : Nat → Int32) (v : Int32) => q_put0 g v hp5
      have hh : f_X7_contains (nI t) (nI f) = f_X8_has (nI t) (nI f) := rfl
      have hb := q_has ht hf
      have hnw := (fun t ht f hf => (⟨(q_or0 t ht f hf).2.1, (q_or0 t ht f hf).2.2⟩ : _ ∧ _)) t ht f hf
      simp only [u1, u2, v1, v2, q_10, if_true, if_false, A, B, en, hh, nI_clamp (show p < 2 ^ 31 by omega), Nat.zero_add, et, hb, upd_at]
      by_cases hbt : t.testBit f = true
      · simp only [hbt, if_true, q_10, if_false]
        exact ⟨by first | exact trivial | rfl, hT, ⟨rfl, rfl, h5, h4, hk, hg⟩, hP, hA, hS, hE, hC⟩
      · simp only [hbt, if_true, q_10, if_false]
        rw [hnw.1]
        have hc := q_clo hg h4 hnw.2
        exact ⟨hc.1.trans hc.2.1.symm, hT, ⟨rfl, rfl, h5, h4, hk, hg⟩, q_setTold h5 hP hp hnw.2, q_rem h5 hA hP, hS, hE, hC⟩
theorem q_forget (fs : Int32) (ch : Int64) (nT : Nat) (tx : Nat → Int32) (nP : Nat) (nR : Nat) (kd : Nat → Int32) (nd : Nat → Int32) (gv : Nat → Int32) (nw : Nat → Int32) (dw : Nat → Int32) (ac : Int32) (ax : Int32) (ah : Nat → Int32) (sl : Nat → Int32) (sc : Int32) (su : Int32) (sp : Int32) (th : Int32) (uT : Nat) (up : Nat) (uP : Nat) (uR : Nat) (vP : Nat) (vR : Nat) (ua : Nat) (us : Nat) (sd : Int64) (z1 : Int32) (z2 : Int32) (z3 : Int32) (z4 : Int32) (z5 : Int32) (z6 : Int32) (z7 : Int32) (utx : Nat → Int32) (uk : Nat → Int32) (ur : Nat → Int32) (vk : Nat → Int32) (vt : Nat → Int32) (vr : Nat → Int32) (pg : Nat → Int32) (tr : Nat → Int32) (bk : Nat → Int32) (kp : Nat → Int32) (ik : Nat → Int32) (sF : Nat → Int32) (sS : Nat → Int32) (va : Nat → Int32) (a1 : Int32) (a2 : Int32) (hR : RALL nT tx uT utx nP nR kd nd gv uP uR uk ur nw pg ac ax ah ua bk fs sl kp ik sc su sp us sF sS ch sd) : (f_X7_forget nP nR nd gv nw a1 a2) = (f_X8_forget uP uR ur pg a1 a2) ∧ RALL nT tx uT utx nP nR kd nd gv uP uR uk ur (f_X7_forget_nw nP nw a1 a2) (f_X8_forget_pg uP pg a1 a2) (f_X7_forget_ac nP nw ac a1 a2) (f_X7_forget_ax nP nw ax a1 a2) (f_X7_forget_ah nP nw ax ah a1 a2) (f_X8_forget_ua uP ua pg a1 a2) (f_X8_forget_bk uP ua pg bk a1 a2) fs sl kp ik sc su sp us sF sS ch sd := by
  obtain ⟨hT, hB, hP, hA, hS, hE, hC⟩ := hR
  obtain ⟨rfl, rfl, h5, h4, hk, hg⟩ := hB
  unfold f_X7_forget f_X7_forget_nw f_X7_forget_ah f_X7_forget_ac f_X7_forget_ax f_X8_forget f_X8_forget_pg f_X8_forget_bk f_X8_forget_ua
  rcases q_per h5 a1 with ⟨u1, u2⟩ | ⟨p, hp, e1, u1, u2⟩
  · simp only [u1, u2, q_10, if_true, if_false]
    exact ⟨by first | exact trivial | rfl, hT, ⟨rfl, rfl, h5, h4, hk, hg⟩, hP, hA, hS, hE, hC⟩
  · rcases q_fac a2 with ⟨v1, v2⟩ | ⟨f, hf, e2, v1, v2⟩
    · simp only [u1, u2, v1, v2, q_10, if_true, if_false]
      exact ⟨by first | exact trivial | rfl, hT, ⟨rfl, rfl, h5, h4, hk, hg⟩, hP, hA, hS, hE, hC⟩
    · subst e1 e2
      have hp5 : p < 5 := by omega
      obtain ⟨t, ht, et⟩ := hP.2.1 p hp
      have en : nw p = nI t := (hP.1 p (by omega)).trans et
      have A := fun g : Nat → Int32 => q_a0 g hp5
      have B := fun (g : Nat → Int32) (v : Int32) => q_put0 g v hp5
      have hh : f_X7_contains (nI t) (nI f) = f_X8_has (nI t) (nI f) := rfl
      have hb := q_has ht hf
      have hnw := q_clr0 t ht f hf
      simp only [u1, u2, v1, v2, q_10, if_true, if_false, A, B, en, hh, nI_clamp (show p < 2 ^ 31 by omega), Nat.zero_add, et, hb, upd_at]
      by_cases hbt : t.testBit f = true
      · simp only [hbt, if_true, q_10, if_false]
        rw [hnw.1]
        have hc := q_clo hg h4 hnw.2
        exact ⟨hc.1.trans hc.2.1.symm, hT, ⟨rfl, rfl, h5, h4, hk, hg⟩, q_setTold h5 hP hp hnw.2, q_rem h5 hA hP, hS, hE, hC⟩
      · simp only [hbt, if_true, q_10, if_false]
        exact ⟨by first | exact trivial | rfl, hT, ⟨rfl, rfl, h5, h4, hk, hg⟩, hP, hA, hS, hE, hC⟩
theorem q_change (fs : Int32) (ch : Int64) (nT : Nat) (tx : Nat → Int32) (nP : Nat) (nR : Nat) (kd : Nat → Int32) (nd : Nat → Int32) (gv : Nat → Int32) (nw : Nat → Int32) (dw : Nat → Int32) (ac : Int32) (ax : Int32) (ah : Nat → Int32) (sl : Nat → Int32) (sc : Int32) (su : Int32) (sp : Int32) (th : Int32) (uT : Nat) (up : Nat) (uP : Nat) (uR : Nat) (vP : Nat) (vR : Nat) (ua : Nat) (us : Nat) (sd : Int64) (z1 : Int32) (z2 : Int32) (z3 : Int32) (z4 : Int32) (z5 : Int32) (z6 : Int32) (z7 : Int32) (utx : Nat → Int32) (uk : Nat → Int32) (ur : Nat → Int32) (vk : Nat → Int32) (vt : Nat → Int32) (vr : Nat → Int32) (pg : Nat → Int32) (tr : Nat → Int32) (bk : Nat → Int32) (kp : Nat → Int32) (ik : Nat → Int32) (sF : Nat → Int32) (sS : Nat → Int32) (va : Nat → Int32) (a1 : Int32) (a2 : Int32) (hR : RALL nT tx uT utx nP nR kd nd gv uP uR uk ur nw pg ac ax ah ua bk fs sl kp ik sc su sp us sF sS ch sd) : (f_X7_change nP nw a1 a2) = (f_X8_change uP pg a1 a2) ∧ RALL nT tx uT utx nP nR kd nd gv uP uR uk ur (f_X7_change_nw nP nw a1 a2) (f_X8_change_pg uP pg a1 a2) (f_X7_change_ac nP ac a1 a2) (f_X7_change_ax nP ax a1 a2) (f_X7_change_ah nP nw ax ah a1 a2) (f_X8_change_ua uP ua a1 a2) (f_X8_change_bk uP ua pg bk a1 a2) fs sl kp ik sc su sp us sF sS ch sd := by
  obtain ⟨hT, hB, hP, hA, hS, hE, hC⟩ := hR
  obtain ⟨rfl, rfl, h5, h4, hk, hg⟩ := hB
  unfold f_X7_change f_X7_change_nw f_X7_change_ah f_X7_change_ac f_X7_change_ax f_X8_change f_X8_change_pg f_X8_change_bk f_X8_change_ua
  rcases q_per h5 a1 with ⟨u1, u2⟩ | ⟨p, hp, e1, u1, u2⟩
  · simp only [u1, u2, q_10, if_true, if_false]
    exact ⟨trivial, hT, ⟨rfl, rfl, h5, h4, hk, hg⟩, hP, hA, hS, hE, hC⟩
  · rcases q_per h5 a2 with ⟨v1, v2⟩ | ⟨r, hr, e2, v1, v2⟩
    · simp only [u1, u2, v1, v2, q_10, if_true, if_false]
      exact ⟨trivial, hT, ⟨rfl, rfl, h5, h4, hk, hg⟩, hP, hA, hS, hE, hC⟩
    · simp only [u1, u2, v1, v2, q_10, if_true, if_false]
      by_cases he : a1 = a2
      · simp only [if_pos he]
        exact ⟨trivial, hT, ⟨rfl, rfl, h5, h4, hk, hg⟩, hP, hA, hS, hE, hC⟩
      · simp only [if_neg he]
        subst e1 e2
        have hn : p ≠ r := fun z => he (by rw [z])
        have hs := q_swap h5 hP hp hr hn
        have hp5 : p < 5 := by omega
        have hr5 : r < 5 := by omega
        rw [nI_clamp (show p < 2 ^ 31 by omega), nI_clamp (show r < 2 ^ 31 by omega), q_a5 nw hp5, q_a5 nw hr5, q_put5 nw _ hp5, q_put5 _ _ hr5, q_a5 _ hp5]
        exact ⟨hs.1 _ (by omega), hT, ⟨rfl, rfl, h5, h4, hk, hg⟩, hs, q_rem h5 hA hP, hS, hE, hC⟩
theorem q_undo (fs : Int32) (ch : Int64) (nT : Nat) (tx : Nat → Int32) (nP : Nat) (nR : Nat) (kd : Nat → Int32) (nd : Nat → Int32) (gv : Nat → Int32) (nw : Nat → Int32) (dw : Nat → Int32) (ac : Int32) (ax : Int32) (ah : Nat → Int32) (sl : Nat → Int32) (sc : Int32) (su : Int32) (sp : Int32) (th : Int32) (uT : Nat) (up : Nat) (uP : Nat) (uR : Nat) (vP : Nat) (vR : Nat) (ua : Nat) (us : Nat) (sd : Int64) (z1 : Int32) (z2 : Int32) (z3 : Int32) (z4 : Int32) (z5 : Int32) (z6 : Int32) (z7 : Int32) (utx : Nat → Int32) (uk : Nat → Int32) (ur : Nat → Int32) (vk : Nat → Int32) (vt : Nat → Int32) (vr : Nat → Int32) (pg : Nat → Int32) (tr : Nat → Int32) (bk : Nat → Int32) (kp : Nat → Int32) (ik : Nat → Int32) (sF : Nat → Int32) (sS : Nat → Int32) (va : Nat → Int32) (hR : RALL nT tx uT utx nP nR kd nd gv uP uR uk ur nw pg ac ax ah ua bk fs sl kp ik sc su sp us sF sS ch sd) : (f_X7_undo ac) = (f_X8_undo ua) ∧ RALL nT tx uT utx nP nR kd nd gv uP uR uk ur (f_X7_undo_nw nw ac ax ah) (f_X8_undo_pg ua pg bk) (f_X7_undo_ac ac) (f_X7_undo_ax ac ax) ah (f_X8_undo_ua ua) bk fs sl kp ik sc su sp us sF sS ch sd := by
  obtain ⟨hT, hB, hP, hA, hS, hE, hC⟩ := hR
  obtain ⟨rfl, rfl, h5, h4, hk, hg⟩ := hB
  unfold f_X7_undo f_X7_undo_nw f_X7_undo_ac f_X7_undo_ax f_X8_undo f_X8_undo_pg f_X8_undo_ua f_X0_takeBack f_X0_takeBack_nw f_X0_takeBack_ac f_X0_takeBack_ax
  have hA0 := hA
  obtain ⟨h1, h2, x, h3, h6, h7⟩ := hA
  subst h1 h6
  by_cases h : ua = 0
  · subst h
    simp only [show nI 0 = 0 from rfl, if_true]
    exact ⟨trivial, hT, ⟨rfl, rfl, h5, h4, hk, hg⟩, hP, hA0, hS, hE, hC⟩
  · have c0 : ¬ nI ua = 0 := fun z => h ((ceq rfl (nf_c 0) (by omega) (by decide)).mp z)
    have c1 : ¬ nI ua ≤ 0 := fun z => h (by have := (cle rfl (nf_c 0) (by omega) (by decide)).mp z; omega)
    simp only [if_neg c0, if_neg c1]
    have hl := h7 (ua - 1) (by omega)
    have hcp := q_copy (sz := 15) (sy := 210) (a := 0) (b := (x + 13) % 14 * 15) ah nw (by decide) (by decide) 15 (by omega) (by omega)
    have hu := q_undoL ua bk pg 15
    have eb : ∀ i, i < 15 → B_X8_undo_27 ua bk pg 15 i = bk (15 * (ua - 1) + i) := fun i hi => by rw [hu, if_pos hi]
    rw [q_ring2 x h3, nf_mul (rfl : nI ((x + 13) % 14) = nI ((x + 13) % 14)) (nf_c 15), nf_sub (rfl : nI ua = nI ua) (nf_c 1) (by omega)]
    refine ⟨rfl, hT, ⟨rfl, rfl, h5, h4, hk, hg⟩, ⟨fun i hi => ?_, hl.2.of h5 eb⟩, ⟨rfl, by omega, (x + 13) % 14, by omega, rfl, fun m hm => ?_⟩, hS, hE, hC⟩
    · rw [eb i hi, ← hl.1 i hi, show (0 : Int32) = nI 0 from rfl, hcp, if_pos (by omega)]
      congr 1
      omega
    · have := h7 m (by omega)
      refine ⟨fun i hi => ?_, this.2⟩
      rw [← this.1 i hi]
      congr 1
      omega
theorem q_hearers (fs : Int32) (ch : Int64) (nT : Nat) (tx : Nat → Int32) (nP : Nat) (nR : Nat) (kd : Nat → Int32) (nd : Nat → Int32) (gv : Nat → Int32) (nw : Nat → Int32) (dw : Nat → Int32) (ac : Int32) (ax : Int32) (ah : Nat → Int32) (sl : Nat → Int32) (sc : Int32) (su : Int32) (sp : Int32) (th : Int32) (uT : Nat) (up : Nat) (uP : Nat) (uR : Nat) (vP : Nat) (vR : Nat) (ua : Nat) (us : Nat) (sd : Int64) (z1 : Int32) (z2 : Int32) (z3 : Int32) (z4 : Int32) (z5 : Int32) (z6 : Int32) (z7 : Int32) (utx : Nat → Int32) (uk : Nat → Int32) (ur : Nat → Int32) (vk : Nat → Int32) (vt : Nat → Int32) (vr : Nat → Int32) (pg : Nat → Int32) (tr : Nat → Int32) (bk : Nat → Int32) (kp : Nat → Int32) (ik : Nat → Int32) (sF : Nat → Int32) (sS : Nat → Int32) (va : Nat → Int32) (a1 : Int32) (a2 : Int32) (hR : RALL nT tx uT utx nP nR kd nd gv uP uR uk ur nw pg ac ax ah ua bk fs sl kp ik sc su sp us sF sS ch sd) : (f_X7_hearers nP kd nw a1 a2) = (f_X8_hearers uP uk pg a1 a2) ∧ RALL nT tx uT utx nP nR kd nd gv uP uR uk ur nw pg ac ax ah ua bk fs sl kp ik sc su sp us sF sS ch sd := by
  obtain ⟨hT, hB, hP, hA, hS, hE, hC⟩ := hR
  obtain ⟨rfl, rfl, h5, h4, hk, hg⟩ := hB
  have R : RP uP kd nw uk pg := ⟨h5, hP.1, hk⟩
  unfold f_X7_hearers f_X8_hearers
  rcases q_ref h5 a1 0 a2 with ⟨u1, u2⟩ | ⟨u1, u2, u3⟩ | ⟨u1, u2, u3, u4⟩ | ⟨p, f, hp, hf, e1, e2, u1, u2, u3, u4⟩
  · simp only [u1, u2, q_10, if_true, if_false]
    exact ⟨rfl, hT, ⟨rfl, rfl, h5, h4, hk, hg⟩, hP, hA, hS, hE, hC⟩
  · exact absurd u2 (by decide)
  · simp only [u1, u3, u4, q_10, if_true, if_false]
    exact ⟨rfl, hT, ⟨rfl, rfl, h5, h4, hk, hg⟩, hP, hA, hS, hE, hC⟩
  · simp only [u1, u3, u4, q_10, if_true, if_false]
    refine ⟨?_, hT, ⟨rfl, rfl, h5, h4, hk, hg⟩, hP, hA, hS, hE, hC⟩
    rw [e1, q_ears R hp a2 uP (Nat.le_refl _), nI_clamp (by omega), q_hear h5 a2 uP (Nat.le_refl _)]
theorem q_safe (fs : Int32) (ch : Int64) (nT : Nat) (tx : Nat → Int32) (nP : Nat) (nR : Nat) (kd : Nat → Int32) (nd : Nat → Int32) (gv : Nat → Int32) (nw : Nat → Int32) (dw : Nat → Int32) (ac : Int32) (ax : Int32) (ah : Nat → Int32) (sl : Nat → Int32) (sc : Int32) (su : Int32) (sp : Int32) (th : Int32) (uT : Nat) (up : Nat) (uP : Nat) (uR : Nat) (vP : Nat) (vR : Nat) (ua : Nat) (us : Nat) (sd : Int64) (z1 : Int32) (z2 : Int32) (z3 : Int32) (z4 : Int32) (z5 : Int32) (z6 : Int32) (z7 : Int32) (utx : Nat → Int32) (uk : Nat → Int32) (ur : Nat → Int32) (vk : Nat → Int32) (vt : Nat → Int32) (vr : Nat → Int32) (pg : Nat → Int32) (tr : Nat → Int32) (bk : Nat → Int32) (kp : Nat → Int32) (ik : Nat → Int32) (sF : Nat → Int32) (sS : Nat → Int32) (va : Nat → Int32) (a1 : Int32) (a2 : Int32) (hR : RALL nT tx uT utx nP nR kd nd gv uP uR uk ur nw pg ac ax ah ua bk fs sl kp ik sc su sp us sF sS ch sd) : (f_X7_safe nP nR kd nd gv nw a1 a2) = (f_X8_safe uP uR uk ur pg a1 a2) ∧ RALL nT tx uT utx nP nR kd nd gv uP uR uk ur nw pg ac ax ah ua bk fs sl kp ik sc su sp us sF sS ch sd := by
  obtain ⟨hT, hB, hP, hA, hS, hE, hC⟩ := hR
  obtain ⟨rfl, rfl, h5, h4, hk, hg⟩ := hB
  have R : RP uP kd nw uk pg := ⟨h5, hP.1, hk⟩
  refine ⟨?_, hT, ⟨rfl, rfl, h5, h4, hk, hg⟩, hP, hA, hS, hE, hC⟩
  unfold f_X7_safe f_X8_safe
  rcases q_ref h5 a1 0 a2 with ⟨u1, u2⟩ | ⟨u1, u2, u3⟩ | ⟨u1, u2, u3, u4⟩ | ⟨p, f, hp, hf, e1, e2, u1, u2, u3, u4⟩
  · simp only [u1, u2, q_10, if_true, if_false]; rfl
  · exact absurd u2 (by decide)
  · simp only [u1, u3, u4, q_10, if_true, if_false]; rfl
  · simp only [u1, u3, u4, q_10, if_true, if_false]
    subst e1
    exact q_safeL R hP.2.1 hg h4 hp a2
theorem q_seating (fs : Int32) (ch : Int64) (nT : Nat) (tx : Nat → Int32) (nP : Nat) (nR : Nat) (kd : Nat → Int32) (nd : Nat → Int32) (gv : Nat → Int32) (nw : Nat → Int32) (dw : Nat → Int32) (ac : Int32) (ax : Int32) (ah : Nat → Int32) (sl : Nat → Int32) (sc : Int32) (su : Int32) (sp : Int32) (th : Int32) (uT : Nat) (up : Nat) (uP : Nat) (uR : Nat) (vP : Nat) (vR : Nat) (ua : Nat) (us : Nat) (sd : Int64) (z1 : Int32) (z2 : Int32) (z3 : Int32) (z4 : Int32) (z5 : Int32) (z6 : Int32) (z7 : Int32) (utx : Nat → Int32) (uk : Nat → Int32) (ur : Nat → Int32) (vk : Nat → Int32) (vt : Nat → Int32) (vr : Nat → Int32) (pg : Nat → Int32) (tr : Nat → Int32) (bk : Nat → Int32) (kp : Nat → Int32) (ik : Nat → Int32) (sF : Nat → Int32) (sS : Nat → Int32) (va : Nat → Int32) (a1 : Int32) (a2 : Int32) (a3 : Int32) (a4 : Int32) (a5 : Int32) (hR : RALL nT tx uT utx nP nR kd nd gv uP uR uk ur nw pg ac ax ah ua bk fs sl kp ik sc su sp us sF sS ch sd) : (f_X7_seating nP nR kd nd gv nw dw a1 a2 a3 a4 a5) = (f_X8_seating uP uR uk ur pg tr a1 a2 a3 a4 a5) ∧ RALL nT tx uT utx nP nR kd nd gv uP uR uk ur nw pg ac ax ah ua bk fs sl kp ik sc su sp us sF sS ch sd := by
  obtain ⟨hT, hB, hP, hA, hS, hE, hC⟩ := hR
  obtain ⟨rfl, rfl, h5, h4, hk, hg⟩ := hB
  refine ⟨?_, hT, ⟨rfl, rfl, h5, h4, hk, hg⟩, hP, hA, hS, hE, hC⟩
  unfold f_X7_seating f_X8_seating
  rcases q_ref h5 a1 a2 a3 with ⟨u1, u2⟩ | ⟨u1, u2, u3⟩ | ⟨u1, u2, u3, u4⟩ | ⟨p, f, hp, hf, e1, e2, u1, u2, u3, u4⟩
  · simp only [u1, u2, q_10, if_true, if_false]; rfl
  · simp only [u1, u2, u3, q_10, if_true, if_false]; rfl
  · simp only [u1, u2, u3, u4, q_10, if_true, if_false]; rfl
  · simp only [u1, u2, u3, u4, q_10, if_true, if_false]
    subst e1 e2
    rw [nI_clamp (by omega)]
    have h := q_seat h5 hk hP hg h4 hp hf a3 a4 dw tr
    rw [h.1, h.2]
theorem q_keepFrom (fs : Int32) (ch : Int64) (nT : Nat) (tx : Nat → Int32) (nP : Nat) (nR : Nat) (kd : Nat → Int32) (nd : Nat → Int32) (gv : Nat → Int32) (nw : Nat → Int32) (dw : Nat → Int32) (ac : Int32) (ax : Int32) (ah : Nat → Int32) (sl : Nat → Int32) (sc : Int32) (su : Int32) (sp : Int32) (th : Int32) (uT : Nat) (up : Nat) (uP : Nat) (uR : Nat) (vP : Nat) (vR : Nat) (ua : Nat) (us : Nat) (sd : Int64) (z1 : Int32) (z2 : Int32) (z3 : Int32) (z4 : Int32) (z5 : Int32) (z6 : Int32) (z7 : Int32) (utx : Nat → Int32) (uk : Nat → Int32) (ur : Nat → Int32) (vk : Nat → Int32) (vt : Nat → Int32) (vr : Nat → Int32) (pg : Nat → Int32) (tr : Nat → Int32) (bk : Nat → Int32) (kp : Nat → Int32) (ik : Nat → Int32) (sF : Nat → Int32) (sS : Nat → Int32) (va : Nat → Int32) (a1 : Int32) (a2 : Int32) (hR : RALL nT tx uT utx nP nR kd nd gv uP uR uk ur nw pg ac ax ah ua bk fs sl kp ik sc su sp us sF sS ch sd) : (f_X7_keepFrom nP nR nd gv nw a1 a2) = (f_X8_keepFrom uP uR ur pg a1 a2) ∧ RALL nT tx uT utx nP nR kd nd gv uP uR uk ur nw pg ac ax ah ua bk fs sl kp ik sc su sp us sF sS ch sd := by
  obtain ⟨hT, hB, hP, hA, hS, hE, hC⟩ := hR
  obtain ⟨rfl, rfl, h5, h4, hk, hg⟩ := hB
  refine ⟨?_, hT, ⟨rfl, rfl, h5, h4, hk, hg⟩, hP, hA, hS, hE, hC⟩
  unfold f_X7_keepFrom f_X8_keepFrom
  rcases q_per h5 a1 with ⟨u1, u2⟩ | ⟨p, hp, e1, u1, u2⟩
  · simp only [u1, u2, q_10, if_true, if_false]
  · rcases q_fac a2 with ⟨v1, v2⟩ | ⟨f, hf, e2, v1, v2⟩
    · simp only [u1, u2, v1, v2, q_10, if_true, if_false]
    · simp only [u1, u2, v1, v2, q_10, if_true, if_false]
      subst e1 e2
      obtain ⟨t, ht, et⟩ := hP.2.1 p hp
      exact (q_keepF hg h4 ht hf (by omega) ((hP.1 p (by omega)).trans et) et 64 (Nat.le_refl _)).1
theorem q_learn (fs : Int32) (ch : Int64) (nT : Nat) (tx : Nat → Int32) (nP : Nat) (nR : Nat) (kd : Nat → Int32) (nd : Nat → Int32) (gv : Nat → Int32) (nw : Nat → Int32) (dw : Nat → Int32) (ac : Int32) (ax : Int32) (ah : Nat → Int32) (sl : Nat → Int32) (sc : Int32) (su : Int32) (sp : Int32) (th : Int32) (uT : Nat) (up : Nat) (uP : Nat) (uR : Nat) (vP : Nat) (vR : Nat) (ua : Nat) (us : Nat) (sd : Int64) (z1 : Int32) (z2 : Int32) (z3 : Int32) (z4 : Int32) (z5 : Int32) (z6 : Int32) (z7 : Int32) (utx : Nat → Int32) (uk : Nat → Int32) (ur : Nat → Int32) (vk : Nat → Int32) (vt : Nat → Int32) (vr : Nat → Int32) (pg : Nat → Int32) (tr : Nat → Int32) (bk : Nat → Int32) (kp : Nat → Int32) (ik : Nat → Int32) (sF : Nat → Int32) (sS : Nat → Int32) (va : Nat → Int32) (a1 : Int32) (a2 : Int32) (hR : RALL nT tx uT utx nP nR kd nd gv uP uR uk ur nw pg ac ax ah ua bk fs sl kp ik sc su sp us sF sS ch sd) : (f_X7_learn nP nR nd gv nw a1 a2) = (f_X8_learn uP uR ur pg a1 a2) ∧ RALL nT tx uT utx nP nR kd nd gv uP uR uk ur nw pg ac ax ah ua bk fs sl kp ik sc su sp us sF sS ch sd := by
  obtain ⟨hT, hB, hP, hA, hS, hE, hC⟩ := hR
  obtain ⟨rfl, rfl, h5, h4, hk, hg⟩ := hB
  refine ⟨?_, hT, ⟨rfl, rfl, h5, h4, hk, hg⟩, hP, hA, hS, hE, hC⟩
  unfold f_X7_learn f_X8_learn
  rcases q_per h5 a1 with ⟨u1, u2⟩ | ⟨p, hp, e1, u1, u2⟩
  · simp only [u1, u2, q_10, if_true, if_false]
  · rcases q_fac a2 with ⟨v1, v2⟩ | ⟨f, hf, e2, v1, v2⟩
    · simp only [u1, u2, v1, v2, q_10, if_true, if_false]
    · simp only [u1, u2, v1, v2, q_10, if_true, if_false]
      subst e1 e2
      obtain ⟨t, ht, et⟩ := hP.2.1 p hp
      exact (q_learnF hg h4 ht hf (by omega) ((hP.1 p (by omega)).trans et) et 64 (Nat.le_refl _)).1
theorem q_judge (fs : Int32) (ch : Int64) (nT : Nat) (tx : Nat → Int32) (nP : Nat) (nR : Nat) (kd : Nat → Int32) (nd : Nat → Int32) (gv : Nat → Int32) (nw : Nat → Int32) (dw : Nat → Int32) (ac : Int32) (ax : Int32) (ah : Nat → Int32) (sl : Nat → Int32) (sc : Int32) (su : Int32) (sp : Int32) (th : Int32) (uT : Nat) (up : Nat) (uP : Nat) (uR : Nat) (vP : Nat) (vR : Nat) (ua : Nat) (us : Nat) (sd : Int64) (z1 : Int32) (z2 : Int32) (z3 : Int32) (z4 : Int32) (z5 : Int32) (z6 : Int32) (z7 : Int32) (utx : Nat → Int32) (uk : Nat → Int32) (ur : Nat → Int32) (vk : Nat → Int32) (vt : Nat → Int32) (vr : Nat → Int32) (pg : Nat → Int32) (tr : Nat → Int32) (bk : Nat → Int32) (kp : Nat → Int32) (ik : Nat → Int32) (sF : Nat → Int32) (sS : Nat → Int32) (va : Nat → Int32) (a1 : Int32) (a2 : Int32) (hR : RALL nT tx uT utx nP nR kd nd gv uP uR uk ur nw pg ac ax ah ua bk fs sl kp ik sc su sp us sF sS ch sd) : (f_X7_judge nP nR kd nd gv nw dw a1 a2) = (f_X8_judge uP uR uk ur pg tr a1 a2) ∧ RALL nT tx uT utx nP nR kd nd gv uP uR uk ur nw pg ac ax ah ua bk fs sl kp ik sc su sp us sF sS ch sd := by
  obtain ⟨hT, hB, hP, hA, hS, hE, hC⟩ := hR
  obtain ⟨rfl, rfl, h5, h4, hk, hg⟩ := hB
  refine ⟨?_, hT, ⟨rfl, rfl, h5, h4, hk, hg⟩, hP, hA, hS, hE, hC⟩
  unfold f_X7_judge f_X8_judge
  rw [show f_X8_in a1.toInt64 1 3 = f_X8_in a1.toInt64 (1 : Int32).toInt64 (3 : Int32).toInt64 from rfl, q_in3]
  by_cases h0 : a1 < 1
  · simp only [h0, if_true]
  · by_cases h1 : a1 ≤ 3
    · have h3 : ¬ 3 < a1 := fun z => Int32.lt_irrefl (Int32.lt_of_lt_of_le z h1)
      simp only [h0, h1, h3, if_true, if_false, q_10]
      have hn0 : ¬ a1 < 0 := fun z => h0 (Int32.lt_of_lt_of_le z (by decide))
      have t := nf_tn hn0
      have hl : a1.toNatClampNeg ≤ 3 := (cle t (nf_c 3) (Int32.toNatClampNeg_lt a1) (by decide)).mp h1
      obtain ⟨w1, w2, w3, w4⟩ := q_pw1 a1.toNatClampNeg (by omega)
      rw [show f_X8_in a2.toInt64 0 ((B_X8_power_4 1000 1 a1.toNatClampNeg) - 1).toInt64 = f_X8_in a2.toInt64 (0 : Int32).toInt64 ((B_X8_power_4 1000 1 a1.toNatClampNeg) - 1).toInt64 from rfl, q_in3, w1, w2]
      by_cases h6 : a2 < 0
      · simp only [h6, if_true]
      · have hm := q_m1le (a := a2) w3 w4
        by_cases h7 : a2 < nI (1000 ^ a1.toNatClampNeg)
        · have h8 := hm.mpr h7
          simp only [h6, h7, h8, if_true, if_false, q_10]
          exact q_jdL h5 hk hg h4 a1 a2 hl _ _ _ _ (q_beg h5 hP)
        · have h8 : ¬ a2 ≤ nI (1000 ^ a1.toNatClampNeg) - 1 := fun z => h7 (hm.mp z)
          simp only [h6, h7, h8, if_true, if_false]
    · have h3 : 3 < a1 := Int32.not_le.mp h1
      simp only [h0, h1, h3, if_true, if_false]
theorem q_share (fs : Int32) (ch : Int64) (nT : Nat) (tx : Nat → Int32) (nP : Nat) (nR : Nat) (kd : Nat → Int32) (nd : Nat → Int32) (gv : Nat → Int32) (nw : Nat → Int32) (dw : Nat → Int32) (ac : Int32) (ax : Int32) (ah : Nat → Int32) (sl : Nat → Int32) (sc : Int32) (su : Int32) (sp : Int32) (th : Int32) (uT : Nat) (up : Nat) (uP : Nat) (uR : Nat) (vP : Nat) (vR : Nat) (ua : Nat) (us : Nat) (sd : Int64) (z1 : Int32) (z2 : Int32) (z3 : Int32) (z4 : Int32) (z5 : Int32) (z6 : Int32) (z7 : Int32) (utx : Nat → Int32) (uk : Nat → Int32) (ur : Nat → Int32) (vk : Nat → Int32) (vt : Nat → Int32) (vr : Nat → Int32) (pg : Nat → Int32) (tr : Nat → Int32) (bk : Nat → Int32) (kp : Nat → Int32) (ik : Nat → Int32) (sF : Nat → Int32) (sS : Nat → Int32) (va : Nat → Int32) (a1 : Int32) (a2 : Int32) (hR : RALL nT tx uT utx nP nR kd nd gv uP uR uk ur nw pg ac ax ah ua bk fs sl kp ik sc su sp us sF sS ch sd) : (f_X7_share nP nR nd gv nw a1 a2) = (f_X8_share uP uR ur pg va a1 a2) ∧ RALL nT tx uT utx nP nR kd nd gv uP uR uk ur nw pg ac ax ah ua bk fs sl kp ik sc su sp us sF sS ch sd := by
  obtain ⟨hT, hB, hP, hA, hS, hE, hC⟩ := hR
  obtain ⟨rfl, rfl, h5, h4, hk, hg⟩ := hB
  refine ⟨?_, hT, ⟨rfl, rfl, h5, h4, hk, hg⟩, hP, hA, hS, hE, hC⟩
  unfold f_X7_share f_X8_share
  rcases q_per h5 a1 with ⟨u1, u2⟩ | ⟨p, hp, e1, u1, u2⟩
  · simp only [u1, u2, q_10, if_true, if_false]
  · simp only [u1, u2, q_10, if_true, if_false]
    subst e1
    have h32 := pow_le5 h5
    have hs := q_shS va h5 hP.1 hP.2.1 hg h4 hp (2 ^ uP) (Nat.le_refl _)
    rw [hs.1, hs.2.1, fact_nat uP h5, ways_nat uP h5]
    exact q_low h5 (by omega) a2
theorem q_see (fs : Int32) (ch : Int64) (nT : Nat) (tx : Nat → Int32) (nP : Nat) (nR : Nat) (kd : Nat → Int32) (nd : Nat → Int32) (gv : Nat → Int32) (nw : Nat → Int32) (dw : Nat → Int32) (ac : Int32) (ax : Int32) (ah : Nat → Int32) (sl : Nat → Int32) (sc : Int32) (su : Int32) (sp : Int32) (th : Int32) (uT : Nat) (up : Nat) (uP : Nat) (uR : Nat) (vP : Nat) (vR : Nat) (ua : Nat) (us : Nat) (sd : Int64) (z1 : Int32) (z2 : Int32) (z3 : Int32) (z4 : Int32) (z5 : Int32) (z6 : Int32) (z7 : Int32) (utx : Nat → Int32) (uk : Nat → Int32) (ur : Nat → Int32) (vk : Nat → Int32) (vt : Nat → Int32) (vr : Nat → Int32) (pg : Nat → Int32) (tr : Nat → Int32) (bk : Nat → Int32) (kp : Nat → Int32) (ik : Nat → Int32) (sF : Nat → Int32) (sS : Nat → Int32) (va : Nat → Int32) (a1 : Int32) (a2 : Int32) (hR : RALL nT tx uT utx nP nR kd nd gv uP uR uk ur nw pg ac ax ah ua bk fs sl kp ik sc su sp us sF sS ch sd) : (f_X7_see sc a1 a2) = (f_X8_see us a1 a2) ∧ RALL nT tx uT utx nP nR kd nd gv uP uR uk ur nw pg ac ax ah ua bk fs sl kp ik (f_X7_see_sc sc a1 a2) (f_X7_see_su sc su a1 a2) (f_X7_see_sp sc sp a1 a2) (f_X8_see_us us a1 a2) (f_X8_see_sF us sF a1 a2) (f_X8_see_sS us sS a1 a2) ch sd := by
  obtain ⟨hT, hB, hP, hA, hS, hE, hC⟩ := hR
  unfold f_X7_see f_X7_see_sc f_X7_see_su f_X7_see_sp f_X8_see f_X8_see_us f_X8_see_sF f_X8_see_sS f_X3_add f_X3_add_sc f_X3_add_su f_X3_add_sp
  rcases q_fac a1 with ⟨u1, u2⟩ | ⟨f, hf, e1, u1, u2⟩
  · simp only [u1, u2, q_10, if_true, if_false]
    exact ⟨trivial, hT, hB, hP, hA, hS, hE, hC⟩
  · rcases q_slo a2 with ⟨v1, v2⟩ | ⟨k, hk2, e2, v1, v2⟩
    · have hv : a2 < 0 ∨ ¬ a2 ≤ 1 := by
        unfold f_X7_isSlot at v1
        by_cases h0 : a2 < 0
        · exact Or.inl h0
        · rw [if_neg h0] at v1
          right
          intro z
          by_cases h2 : 2 ≤ a2
          · exact absurd (Int32.le_trans h2 z) (by decide)
          · rw [if_neg h2] at v1
            exact absurd v1 (by decide)
      by_cases h0 : a2 < 0
      · simp only [u1, u2, v2, q_10, if_true, if_false, h0]
        exact ⟨trivial, hT, hB, hP, hA, hS, hE, hC⟩
      · have h1 : ¬ a2 ≤ 1 := hv.resolve_left h0
        simp only [u1, u2, v2, q_10, if_true, if_false, h0, h1]
        exact ⟨trivial, hT, hB, hP, hA, hS, hE, hC⟩
    · subst e1 e2
      have k0 : ¬ nI k < 0 := nI_pos (by omega)
      have k1 : nI k ≤ 1 := (cle rfl (nf_c 1) (by omega) (by decide)).mpr (by omega)
      have z10 : ((0 : Int32) = 1) = False := eq_false (by decide)
      by_cases hu : us < 6
      · have c1 : sc < 6 := by rw [hE.1]; exact (clt rfl (nf_c 6) (by omega) (by decide)).mpr hu
        have c2 : ¬ nI us = 6 := fun z => absurd ((ceq rfl (nf_c 6) (by omega) (by decide)).mp z) (by omega)
        have hs := q_seen hE hu hf
        have hr : sc + 1 = nI (us + 1) := nf_add hE.1 (nf_c 1)
        simp only [u1, u2, v2, q_10, if_true, if_false, k0, k1, c1, c2]
        rcases (show k = 0 ∨ k = 1 by omega) with rfl | rfl
        · have q0 : ¬ nI 0 = 1 := by decide
          simp only [q0, if_false, if_true]
          exact ⟨hr, hT, hB, hP, hA, hS, hs.2, hC⟩
        · have q0 : nI 1 = 1 := rfl
          simp only [q0, if_true, if_false, q_10]
          exact ⟨hr, hT, hB, hP, hA, hS, hs.1, hC⟩
      · have hus := hE.2.1
        have c1 : ¬ sc < 6 := fun z => hu (by rw [hE.1] at z; exact (clt rfl (nf_c 6) (by omega) (by decide)).mp z)
        have c2 : nI us = 6 := by rw [show us = 6 by omega]; rfl
        simp only [u1, u2, v2, q_10, if_true, if_false, k0, k1, c1, c2]
        refine ⟨?_, hT, hB, hP, hA, hS, ?_, hC⟩
        · split <;> rfl
        · split <;> exact hE
theorem q_unsee (fs : Int32) (ch : Int64) (nT : Nat) (tx : Nat → Int32) (nP : Nat) (nR : Nat) (kd : Nat → Int32) (nd : Nat → Int32) (gv : Nat → Int32) (nw : Nat → Int32) (dw : Nat → Int32) (ac : Int32) (ax : Int32) (ah : Nat → Int32) (sl : Nat → Int32) (sc : Int32) (su : Int32) (sp : Int32) (th : Int32) (uT : Nat) (up : Nat) (uP : Nat) (uR : Nat) (vP : Nat) (vR : Nat) (ua : Nat) (us : Nat) (sd : Int64) (z1 : Int32) (z2 : Int32) (z3 : Int32) (z4 : Int32) (z5 : Int32) (z6 : Int32) (z7 : Int32) (utx : Nat → Int32) (uk : Nat → Int32) (ur : Nat → Int32) (vk : Nat → Int32) (vt : Nat → Int32) (vr : Nat → Int32) (pg : Nat → Int32) (tr : Nat → Int32) (bk : Nat → Int32) (kp : Nat → Int32) (ik : Nat → Int32) (sF : Nat → Int32) (sS : Nat → Int32) (va : Nat → Int32) (hR : RALL nT tx uT utx nP nR kd nd gv uP uR uk ur nw pg ac ax ah ua bk fs sl kp ik sc su sp us sF sS ch sd) : sc = (nI us) ∧ RALL nT tx uT utx nP nR kd nd gv uP uR uk ur nw pg ac ax ah ua bk fs sl kp ik 0 0 0 0 sF sS ch sd := by
  obtain ⟨hT, hB, hP, hA, hS, hE, hC⟩ := hR
  exact ⟨hE.1, hT, hB, hP, hA, hS, ⟨rfl, Nat.zero_le _, rfl, rfl, fun k h => absurd h (Nat.not_lt_zero _)⟩, hC⟩
theorem q_minds (fs : Int32) (ch : Int64) (nT : Nat) (tx : Nat → Int32) (nP : Nat) (nR : Nat) (kd : Nat → Int32) (nd : Nat → Int32) (gv : Nat → Int32) (nw : Nat → Int32) (dw : Nat → Int32) (ac : Int32) (ax : Int32) (ah : Nat → Int32) (sl : Nat → Int32) (sc : Int32) (su : Int32) (sp : Int32) (th : Int32) (uT : Nat) (up : Nat) (uP : Nat) (uR : Nat) (vP : Nat) (vR : Nat) (ua : Nat) (us : Nat) (sd : Int64) (z1 : Int32) (z2 : Int32) (z3 : Int32) (z4 : Int32) (z5 : Int32) (z6 : Int32) (z7 : Int32) (utx : Nat → Int32) (uk : Nat → Int32) (ur : Nat → Int32) (vk : Nat → Int32) (vt : Nat → Int32) (vr : Nat → Int32) (pg : Nat → Int32) (tr : Nat → Int32) (bk : Nat → Int32) (kp : Nat → Int32) (ik : Nat → Int32) (sF : Nat → Int32) (sS : Nat → Int32) (va : Nat → Int32) (a1 : Int32) (hR : RALL nT tx uT utx nP nR kd nd gv uP uR uk ur nw pg ac ax ah ua bk fs sl kp ik sc su sp us sF sS ch sd) : (f_X7_minds nR nd gv su sp a1) = (f_X8_minds uR us ur sF sS a1) ∧ RALL nT tx uT utx nP nR kd nd gv uP uR uk ur nw pg ac ax ah ua bk fs sl kp ik sc su sp us sF sS ch sd := by
  obtain ⟨hT, hB, hP, hA, hS, hE, hC⟩ := hR
  obtain ⟨rfl, rfl, h5, h4, hk, hg⟩ := hB
  refine ⟨?_, hT, ⟨rfl, rfl, h5, h4, hk, hg⟩, hP, hA, hS, hE, hC⟩
  obtain ⟨e1, e2, rfl, rfl, e3⟩ := hE
  unfold f_X7_minds f_X8_minds
  rw [show f_X8_in a1.toInt64 0 2 = f_X8_in a1.toInt64 (0 : Int32).toInt64 (2 : Int32).toInt64 from rfl, q_in3, q_mindsL e3 hg h4 64 (Nat.le_refl _)]
  by_cases h0 : a1 < 0
  · simp only [h0, if_true]
  · by_cases h1 : a1 ≤ 2
    · simp only [h0, h1, if_true, if_false, q_10]
    · simp only [h0, h1, if_true, if_false]
theorem q_rests (fs : Int32) (ch : Int64) (nT : Nat) (tx : Nat → Int32) (nP : Nat) (nR : Nat) (kd : Nat → Int32) (nd : Nat → Int32) (gv : Nat → Int32) (nw : Nat → Int32) (dw : Nat → Int32) (ac : Int32) (ax : Int32) (ah : Nat → Int32) (sl : Nat → Int32) (sc : Int32) (su : Int32) (sp : Int32) (th : Int32) (uT : Nat) (up : Nat) (uP : Nat) (uR : Nat) (vP : Nat) (vR : Nat) (ua : Nat) (us : Nat) (sd : Int64) (z1 : Int32) (z2 : Int32) (z3 : Int32) (z4 : Int32) (z5 : Int32) (z6 : Int32) (z7 : Int32) (utx : Nat → Int32) (uk : Nat → Int32) (ur : Nat → Int32) (vk : Nat → Int32) (vt : Nat → Int32) (vr : Nat → Int32) (pg : Nat → Int32) (tr : Nat → Int32) (bk : Nat → Int32) (kp : Nat → Int32) (ik : Nat → Int32) (sF : Nat → Int32) (sS : Nat → Int32) (va : Nat → Int32) (a1 : Int32) (hR : RALL nT tx uT utx nP nR kd nd gv uP uR uk ur nw pg ac ax ah ua bk fs sl kp ik sc su sp us sF sS ch sd) : (f_X7_rests a1) = (f_X8_rests a1) ∧ RALL nT tx uT utx nP nR kd nd gv uP uR uk ur nw pg ac ax ah ua bk fs sl kp ik sc su sp us sF sS ch sd := by
  obtain ⟨hT, hB, hP, hA, hS, hE, hC⟩ := hR
  refine ⟨?_, hT, hB, hP, hA, hS, hE, hC⟩
  unfold f_X7_rests f_X8_rests
  rw [show f_X8_in a1.toInt64 0 1 = f_X8_in a1.toInt64 (0 : Int32).toInt64 (1 : Int32).toInt64 from rfl, q_in3, q_rest0]
  by_cases h0 : a1 < 0
  · simp only [h0, if_true]
  · by_cases h1 : a1 ≤ 1
    · simp only [h0, h1, if_true, if_false, q_10]
    · simp only [h0, h1, if_true, if_false]
theorem q_deaf (fs : Int32) (ch : Int64) (nT : Nat) (tx : Nat → Int32) (nP : Nat) (nR : Nat) (kd : Nat → Int32) (nd : Nat → Int32) (gv : Nat → Int32) (nw : Nat → Int32) (dw : Nat → Int32) (ac : Int32) (ax : Int32) (ah : Nat → Int32) (sl : Nat → Int32) (sc : Int32) (su : Int32) (sp : Int32) (th : Int32) (uT : Nat) (up : Nat) (uP : Nat) (uR : Nat) (vP : Nat) (vR : Nat) (ua : Nat) (us : Nat) (sd : Int64) (z1 : Int32) (z2 : Int32) (z3 : Int32) (z4 : Int32) (z5 : Int32) (z6 : Int32) (z7 : Int32) (utx : Nat → Int32) (uk : Nat → Int32) (ur : Nat → Int32) (vk : Nat → Int32) (vt : Nat → Int32) (vr : Nat → Int32) (pg : Nat → Int32) (tr : Nat → Int32) (bk : Nat → Int32) (kp : Nat → Int32) (ik : Nat → Int32) (sF : Nat → Int32) (sS : Nat → Int32) (va : Nat → Int32) (a1 : Int32) (a2 : Int32) (a3 : Int32) (a4 : Int32) (a5 : Int32) (hR : RALL nT tx uT utx nP nR kd nd gv uP uR uk ur nw pg ac ax ah ua bk fs sl kp ik sc su sp us sF sS ch sd) : (f_X7_deaf nP nR kd nd gv nw a1 a2 a3 a4 a5) = (f_X8_deaf uP uR uk ur pg a1 a2 a3 a4 a5) ∧ RALL nT tx uT utx nP nR kd nd gv uP uR uk ur nw pg ac ax ah ua bk fs sl kp ik sc su sp us sF sS ch sd := by
  obtain ⟨hT, hB, hP, hA, hS, hE, hC⟩ := hR
  obtain ⟨rfl, rfl, h5, h4, hk, hg⟩ := hB
  have R : RP uP kd nw uk pg := ⟨h5, hP.1, hk⟩
  refine ⟨?_, hT, ⟨rfl, rfl, h5, h4, hk, hg⟩, hP, hA, hS, hE, hC⟩
  unfold f_X7_deaf f_X8_deaf
  rcases q_ref h5 a1 a2 a3 with ⟨u1, u2⟩ | ⟨u1, u2, u3⟩ | ⟨u1, u2, u3, u4⟩ | ⟨p, f, hp, hf, e1, e2, u1, u2, u3, u4⟩
  · simp only [u1, u2, q_10, if_true, if_false]; rfl
  · simp only [u1, u2, u3, q_10, if_true, if_false]; rfl
  · simp only [u1, u2, u3, u4, q_10, if_true, if_false]; rfl
  · simp only [u1, u2, u3, u4, q_10, if_true, if_false]
    rw [show f_X8_in a4.toInt64 0 10 = f_X8_in a4.toInt64 (0 : Int32).toInt64 (10 : Int32).toInt64 from rfl, q_in3]
    by_cases h0 : a4 < 0
    · simp only [h0, if_true]
    · by_cases h1 : a4 ≤ 10
      · simp only [h0, h1, if_true, if_false, q_10]
        subst e1 e2
        obtain ⟨es, m, hm, em⟩ := q_some R hP.2.1 hg h4 a3 hp hf
        have hn := q_cnt0 m hm
        have hx := nf_tn h0
        have hx2 : a4.toNatClampNeg < 11 := by have := (cle hx (nf_c 10) (Int32.toNatClampNeg_lt a4) (by decide)).mp h1; omega
        rw [es, nI_clamp (by omega), em, hn.2, hx]
        exact q_frac hx2 hn.1 a5
      · simp only [h0, h1, if_true, if_false]
theorem q_seed (fs : Int32) (ch : Int64) (nT : Nat) (tx : Nat → Int32) (nP : Nat) (nR : Nat) (kd : Nat → Int32) (nd : Nat → Int32) (gv : Nat → Int32) (nw : Nat → Int32) (dw : Nat → Int32) (ac : Int32) (ax : Int32) (ah : Nat → Int32) (sl : Nat → Int32) (sc : Int32) (su : Int32) (sp : Int32) (th : Int32) (uT : Nat) (up : Nat) (uP : Nat) (uR : Nat) (vP : Nat) (vR : Nat) (ua : Nat) (us : Nat) (sd : Int64) (z1 : Int32) (z2 : Int32) (z3 : Int32) (z4 : Int32) (z5 : Int32) (z6 : Int32) (z7 : Int32) (utx : Nat → Int32) (uk : Nat → Int32) (ur : Nat → Int32) (vk : Nat → Int32) (vt : Nat → Int32) (vr : Nat → Int32) (pg : Nat → Int32) (tr : Nat → Int32) (bk : Nat → Int32) (kp : Nat → Int32) (ik : Nat → Int32) (sF : Nat → Int32) (sS : Nat → Int32) (va : Nat → Int32) (a1 : Int64) (hR : RALL nT tx uT utx nP nR kd nd gv uP uR uk ur nw pg ac ax ah ua bk fs sl kp ik sc su sp us sF sS ch sd) : ch = sd ∧ RALL nT tx uT utx nP nR kd nd gv uP uR uk ur nw pg ac ax ah ua bk fs sl kp ik sc su sp us sF sS a1 a1 := by
  obtain ⟨hT, hB, hP, hA, hS, hE, hC⟩ := hR
  exact ⟨hC, hT, hB, hP, hA, hS, hE, rfl⟩
theorem q_evenings (fs : Int32) (ch : Int64) (nT : Nat) (tx : Nat → Int32) (nP : Nat) (nR : Nat) (kd : Nat → Int32) (nd : Nat → Int32) (gv : Nat → Int32) (nw : Nat → Int32) (dw : Nat → Int32) (ac : Int32) (ax : Int32) (ah : Nat → Int32) (sl : Nat → Int32) (sc : Int32) (su : Int32) (sp : Int32) (th : Int32) (uT : Nat) (up : Nat) (uP : Nat) (uR : Nat) (vP : Nat) (vR : Nat) (ua : Nat) (us : Nat) (sd : Int64) (z1 : Int32) (z2 : Int32) (z3 : Int32) (z4 : Int32) (z5 : Int32) (z6 : Int32) (z7 : Int32) (utx : Nat → Int32) (uk : Nat → Int32) (ur : Nat → Int32) (vk : Nat → Int32) (vt : Nat → Int32) (vr : Nat → Int32) (pg : Nat → Int32) (tr : Nat → Int32) (bk : Nat → Int32) (kp : Nat → Int32) (ik : Nat → Int32) (sF : Nat → Int32) (sS : Nat → Int32) (va : Nat → Int32) (a1 : Int32) (hR : RALL nT tx uT utx nP nR kd nd gv uP uR uk ur nw pg ac ax ah ua bk fs sl kp ik sc su sp us sF sS ch sd) : (f_X7_evenings ch nP nR kd nd gv nw dw a1) = (f_X8_evenings uP uR sd uk ur pg tr a1) ∧ RALL nT tx uT utx nP nR kd nd gv uP uR uk ur nw pg ac ax ah ua bk fs sl kp ik sc su sp us sF sS (f_X7_evenings_ch ch nP nR kd nd gv nw dw a1) (f_X8_evenings_sd uP uR sd uk ur pg tr a1) := by
  obtain ⟨hT, hB, hP, hA, hS, hE, hC⟩ := hR
  obtain ⟨rfl, rfl, h5, h4, hk, hg⟩ := hB
  subst hC
  unfold f_X7_evenings f_X7_evenings_ch f_X8_evenings f_X8_evenings_sd
  rw [show f_X8_in a1.toInt64 1 30 = f_X8_in a1.toInt64 (1 : Int32).toInt64 (30 : Int32).toInt64 from rfl, q_in3]
  by_cases h0 : a1 < 1
  · simp only [h0, if_true]
    exact ⟨trivial, hT, ⟨rfl, rfl, h5, h4, hk, hg⟩, hP, hA, hS, hE, rfl⟩
  · by_cases h1 : a1 ≤ 30
    · simp only [h0, h1, if_true, if_false, q_10]
      have hb := q_beg (dw := dw) (tr := tr) h5 hP
      have hl := q_evL h5 hk hg h4 hb ch a1.toNatClampNeg
      refine ⟨?_, hT, ⟨rfl, rfl, h5, h4, hk, hg⟩, hP, hA, hS, hE, hl.1⟩
      rw [q_fines hl.2.1 uP h5, q_fines hP.1 uP h5]
    · simp only [h0, h1, if_true, if_false]
      exact ⟨trivial, hT, ⟨rfl, rfl, h5, h4, hk, hg⟩, hP, hA, hS, hE, rfl⟩
theorem q_keep (fs : Int32) (ch : Int64) (nT : Nat) (tx : Nat → Int32) (nP : Nat) (nR : Nat) (kd : Nat → Int32) (nd : Nat → Int32) (gv : Nat → Int32) (nw : Nat → Int32) (dw : Nat → Int32) (ac : Int32) (ax : Int32) (ah : Nat → Int32) (sl : Nat → Int32) (sc : Int32) (su : Int32) (sp : Int32) (th : Int32) (uT : Nat) (up : Nat) (uP : Nat) (uR : Nat) (vP : Nat) (vR : Nat) (ua : Nat) (us : Nat) (sd : Int64) (z1 : Int32) (z2 : Int32) (z3 : Int32) (z4 : Int32) (z5 : Int32) (z6 : Int32) (z7 : Int32) (utx : Nat → Int32) (uk : Nat → Int32) (ur : Nat → Int32) (vk : Nat → Int32) (vt : Nat → Int32) (vr : Nat → Int32) (pg : Nat → Int32) (tr : Nat → Int32) (bk : Nat → Int32) (kp : Nat → Int32) (ik : Nat → Int32) (sF : Nat → Int32) (sS : Nat → Int32) (va : Nat → Int32) (a1 : Int32) (hR : RALL nT tx uT utx nP nR kd nd gv uP uR uk ur nw pg ac ax ah ua bk fs sl kp ik sc su sp us sF sS ch sd) : (f_X7_keep nP nw a1) = (f_X8_keep uP pg a1) ∧ RALL nT tx uT utx nP nR kd nd gv uP uR uk ur nw pg ac ax ah ua bk (f_X7_keep_fs fs a1) (f_X7_keep_sl nw sl a1) (f_X8_keep_kp pg kp a1) (f_X8_keep_ik ik a1) sc su sp us sF sS ch sd := by
  obtain ⟨hT, hB, hP, hA, hS, hE, hC⟩ := hR
  obtain ⟨rfl, rfl, h5, h4, hk, hg⟩ := hB
  unfold f_X7_keep f_X7_keep_sl f_X7_keep_fs f_X8_keep f_X8_keep_kp f_X8_keep_ik
  rcases q_slo a1 with ⟨u1, u2⟩ | ⟨k, hk2, e1, u1, u2⟩
  · simp only [u1, u2, q_10, if_true, if_false]
    exact ⟨trivial, hT, ⟨rfl, rfl, h5, h4, hk, hg⟩, hP, hA, hS, hE, hC⟩
  · simp only [u1, u2, q_10, if_true, if_false]
    subst e1
    rw [nI_clamp (by omega)]
    exact ⟨q_fines hP.1 uP h5, hT, ⟨rfl, rfl, h5, h4, hk, hg⟩, hP, hA, q_keepS h5 hS hP hk2, hE, hC⟩
theorem q_again (fs : Int32) (ch : Int64) (nT : Nat) (tx : Nat → Int32) (nP : Nat) (nR : Nat) (kd : Nat → Int32) (nd : Nat → Int32) (gv : Nat → Int32) (nw : Nat → Int32) (dw : Nat → Int32) (ac : Int32) (ax : Int32) (ah : Nat → Int32) (sl : Nat → Int32) (sc : Int32) (su : Int32) (sp : Int32) (th : Int32) (uT : Nat) (up : Nat) (uP : Nat) (uR : Nat) (vP : Nat) (vR : Nat) (ua : Nat) (us : Nat) (sd : Int64) (z1 : Int32) (z2 : Int32) (z3 : Int32) (z4 : Int32) (z5 : Int32) (z6 : Int32) (z7 : Int32) (utx : Nat → Int32) (uk : Nat → Int32) (ur : Nat → Int32) (vk : Nat → Int32) (vt : Nat → Int32) (vr : Nat → Int32) (pg : Nat → Int32) (tr : Nat → Int32) (bk : Nat → Int32) (kp : Nat → Int32) (ik : Nat → Int32) (sF : Nat → Int32) (sS : Nat → Int32) (va : Nat → Int32) (a1 : Int32) (hR : RALL nT tx uT utx nP nR kd nd gv uP uR uk ur nw pg ac ax ah ua bk fs sl kp ik sc su sp us sF sS ch sd) : (f_X7_again fs nP nw sl a1) = (f_X8_again uP pg kp ik a1) ∧ RALL nT tx uT utx nP nR kd nd gv uP uR uk ur (f_X7_again_nw fs nw sl a1) (f_X8_again_pg pg kp ik a1) (f_X7_again_ac fs ac a1) ax ah (f_X8_again_ua ua ik a1) bk fs sl kp ik sc su sp us sF sS ch sd := by
  obtain ⟨hT, hB, hP, hA, hS, hE, hC⟩ := hR
  obtain ⟨rfl, rfl, h5, h4, hk, hg⟩ := hB
  unfold f_X7_again f_X7_again_nw f_X7_again_ac f_X8_again f_X8_again_pg f_X8_again_ua
  rcases q_slo a1 with ⟨u1, u2⟩ | ⟨k, hk2, e1, u1, u2⟩
  · simp only [u1, u2, q_10, if_true, if_false]
    exact ⟨trivial, hT, ⟨rfl, rfl, h5, h4, hk, hg⟩, hP, hA, hS, hE, hC⟩
  · simp only [u1, u2, q_10, if_true, if_false]
    subst e1
    have hS0 := hS
    obtain ⟨b, hb, ef, hs⟩ := hS
    have hsk := hs k hk2
    have hag := q_againL kp pg (nI k) 15
    rw [nI_clamp (by omega)] at hag ⊢
    rw [ef, q_fc0 b hb k hk2, hsk.1]
    by_cases hbt : b.testBit k = true
    · simp only [hbt, if_true, q_10, if_false]
      have hl := hsk.2 hbt
      have hcp := q_copy (sz := 15) (sy := 30) (a := 0) (b := k * 15) sl nw (by decide) (by decide) 15 (by omega) (by omega)
      have eb : ∀ i, i < 15 → B_X8_again_31 kp (nI k) pg 15 i = kp (15 * k + i) := fun i hi => by rw [hag, if_pos hi]
      rw [nf_mul (rfl : nI k = nI k) (nf_c 15)]
      have ee : ∀ i, i < 15 → B_X2_copy_3 15 30 sl 0 (nI (k * 15)) nw 15 i = B_X8_again_31 kp (nI k) pg 15 i := fun i hi => by
        rw [eb i hi, ← hl.1 i hi, show (0 : Int32) = nI 0 from rfl, hcp, if_pos (by omega)]
        congr 1
        omega
      rw [← ef]
      exact ⟨q_fines ee uP h5, hT, ⟨rfl, rfl, h5, h4, hk, hg⟩, ⟨ee, hl.2.of h5 eb⟩, q_act0 hA, hS0, hE, hC⟩
    · simp only [hbt, if_true, if_false]
      rw [← ef]
      exact ⟨rfl, hT, ⟨rfl, rfl, h5, h4, hk, hg⟩, hP, hA, hS0, hE, hC⟩
theorem q_share_hG (fs : Int32) (ch : Int64) (nT : Nat) (tx : Nat → Int32) (nP : Nat) (nR : Nat) (kd : Nat → Int32) (nd : Nat → Int32) (gv : Nat → Int32) (nw : Nat → Int32) (dw : Nat → Int32) (ac : Int32) (ax : Int32) (ah : Nat → Int32) (sl : Nat → Int32) (sc : Int32) (su : Int32) (sp : Int32) (th : Int32) (uT : Nat) (up : Nat) (uP : Nat) (uR : Nat) (vP : Nat) (vR : Nat) (ua : Nat) (us : Nat) (sd : Int64) (z1 : Int32) (z2 : Int32) (z3 : Int32) (z4 : Int32) (z5 : Int32) (z6 : Int32) (z7 : Int32) (utx : Nat → Int32) (uk : Nat → Int32) (ur : Nat → Int32) (vk : Nat → Int32) (vt : Nat → Int32) (vr : Nat → Int32) (pg : Nat → Int32) (tr : Nat → Int32) (bk : Nat → Int32) (kp : Nat → Int32) (ik : Nat → Int32) (sF : Nat → Int32) (sS : Nat → Int32) (va : Nat → Int32) (a1 a2 : Int32) (hR : RALL nT tx uT utx nP nR kd nd gv uP uR uk ur nw pg ac ax ah ua bk fs sl kp ik sc su sp us sF sS ch sd) : f_X8_noPerson uP a1 = 0 → (((B_X8_share_101 uP uR ur pg va a1 0 (2 ^ uP))) = nI ((B_X8_share_101 uP uR ur pg va a1 0 (2 ^ uP))).toNatClampNeg ∧ ((B_X8_share_101 uP uR ur pg va a1 0 (2 ^ uP))).toNatClampNeg < 2 ^ 31) := by
  obtain ⟨hT, hB, hP, hA, hS, hE, hC⟩ := hR
  obtain ⟨rfl, rfl, h5, h4, hk, hg⟩ := hB
  intro hn
  refine ⟨nf_tn ?_, Int32.toNatClampNeg_lt _⟩
  have h32 := pow_le5 h5
  rcases q_per h5 a1 with ⟨u1, u2⟩ | ⟨p, hp, e1, u1, u2⟩
  · rw [u2] at hn
    exact absurd hn (by decide)
  · subst e1
    have hs := q_shS va h5 hP.1 hP.2.1 hg h4 hp (2 ^ uP) (Nat.le_refl _)
    rw [hs.2.1]
    exact nI_pos (by omega)
