/-! constructors: cells come, their addresses are qs 0, qs 1 .. -/
def mQN (D : va_G) (A : Nat → Prop) (wf : (Nat → Nat) → va_W) : Array Value → State → Outcome → State → Prop := fun _ st oc t => oc = .returned none ∧ (∃ qs : Nat → Nat, va_P D vwCl (wf qs) t.heap ∧ va_D A (wf qs)) ∧ va_F A st t
def mPN (D : va_G) (cI cZ : ClassId) (As : List Value) (ws : va_W) (sz : Nat) : Array Value → State → Prop := va_Pc As (fun U => U.heap.size = sz ∧ va_P D vwCl ws U.heap ∧ mE D cI cZ U ∧ va_D (fun _ => True) ws)
theorem mPN_blind {D : va_G} {cI cZ : ClassId} {As : List Value} {ws : va_W} {sz : Nat} : FrameBlind (mPN D cI cZ As ws sz) := fun a U g mk h => ⟨h.1, h.2.1, h.2.2.1, h.2.2.2.1.call g mk a, h.2.2.2.2⟩
abbrev mRN (f n k z : Nat) : Room := ({ frames := f, cells := k, slots := z, locals := n } : Room)
def NW (l : Launch) (D : va_G) (cI cZ : ClassId) (y : MethodName) (code : ByteArray) (nL : Nat) (f n k z : Nat) (As : List Value) (ws : va_W) (wf : (Nat → Nat) → va_W) : Prop := ∀ sz : Nat, Met l y (mWS y code nL none) (mRN f n k z) (mPN D cI cZ As ws sz) (mQN D (va_A ws sz) wf) k z (va_A ws sz)
theorem NW.of {l : Launch} {D : va_G} {cI cZ : ClassId} {y : MethodName} {code : ByteArray} {nL f n k z : Nat} {As : List Value} {ws : va_W} {wf : (Nat → Nat) → va_W} (hy : plainName y.cls = true) (hlen : (lg_sl As).length ≤ nL) (hi : y.name = "<init>")
    (body : ∀ (p : Program) (e : Env) (s : State) (m : MethodId) (args : Array Value) (below : List Frame) (meth : Method) (c : Code) (ls : Array Slot) (Q : State → Prop) (A : Nat → Prop), CallFix p m c code nL s args (mWS y code nL none) y.cls → meth.sig.returnType = none → meth.locks = false → meth.name = "<init>" → va_P D vwCl ws s.heap → mE D cI cZ s → va_D A ws → va_S A s.heap s.heap [] → (∀ q : Nat, s.heap.size ≤ q → A q) → MQ below (mQN D A wf) args s k z A = Q → lv_has ls nL (lv_args 0 As) →
      W p l e (mRN f n k z) s m args below meth c s.heap [] 0 0 Q (F0 m 0 ls [])) : NW l D cI cZ y code nL f n k z As ws wf := by
  intro sz
  refine Met.ofW (cc := code) (maxL := nL) (ret := none) hy rfl ?_
  intro p e s m args below meth c s₁ B hml hv
  obtain ⟨rfl, hsz, hP, hE, hD⟩ := hv
  subst hsz
  rw [lg_entry_eq]
  exact body p e s m _ below meth c _ _ (va_A ws s.heap.size) ⟨B.exec, B.bytes, hml, findClass_of_methodNamed B.named, atoms_spec (ws := mWS y code nL none) B.pre⟩ B.returns B.notSynchronized ((name_of_methodNamed B.named B.method).1.trans hi) hP hE hD.self va_S.rf (fun q h => Or.inr h) rfl (lv_entry As hlen)
theorem cA_one {D : va_G} {cl : List vw_C} {tys : List (ClassId × FieldType)} {s : State} (h : va_K D cl tys s) {i j : Nat} {cA cB : ClassId} (hi : tys[i]? = some (cA, .int)) (hj : tys[j]? = some (cB, .int)) : cA = cB := by
  have h1 : s.vm.findClass ("[" ++ FieldType.int.toString) = some cA := (h.2 i _ hi).2
  have h2 : s.vm.findClass ("[" ++ FieldType.int.toString) = some cB := (h.2 j _ hj).2
  exact Option.some.inj (h1.symm.trans h2)
theorem cA_oneZ {D : va_G} {cl : List vw_C} {tys : List (ClassId × FieldType)} {s : State} (h : va_K D cl tys s) {i j : Nat} {cA cB : ClassId} (hi : tys[i]? = some (cA, .boolean)) (hj : tys[j]? = some (cB, .boolean)) : cA = cB := by
  have h1 : s.vm.findClass ("[" ++ FieldType.boolean.toString) = some cA := (h.2 i _ hi).2
  have h2 : s.vm.findClass ("[" ++ FieldType.boolean.toString) = some cB := (h.2 j _ hj).2
  exact Option.some.inj (h1.symm.trans h2)
section MYN
variable {p : Program} {l : Launch} {e : Env} {R : Room} {s : State} {m : MethodId} {args : Array Value} {below : List Frame} {meth : Method} {c : Code} {H H0 : Heap} {locs : List Loc} {cells slots : Nat} {Q : State → Prop} {cc : ByteArray} {nL : Nat} {c0 : Cond} {own : String} {D : va_G} {cI cZ : ClassId} {y : MethodName} {code : ByteArray} {nL2 n idx f2 n2 k2 z2 : Nat} {As rest st0 : List Value} {ws wc wr ws1 : va_W} {wf : (Nat → Nat) → va_W} {A : Nat → Prop} {ls : Array Slot} {pc : Nat} {b : Addr} {a : Array Value}
def mFitN (R : Room) (f n nL : Nat) : Prop := f + 1 ≤ R.frames ∧ 8 + (nL + 11) + n ≤ R.locals
theorem nw_fin {sz : Nat} (hr : CallRun p l e R s m args below meth c H locs cells slots k2 z2 (F0 m pc ls st0) rest (mQN D (va_A wc H.size) wf a) (va_A wc H.size)) (hP : va_P D vwCl ws H) (hD : va_D A ws) (hS : va_S A H0 H locs) (hA : ∀ q : Nat, H0.size ≤ q → A q) (isC isR : List Nat) (hC : isC.map (fun i => ws[i]?) = wc.map some) (hR : isR.map (fun i => ws[i]?) = wr.map some) (hn : va_nd isR = true) (hdis : ∀ i ∈ isR, i ∉ isC) (hc : cells + k2 = sz)
    (kk : ∀ (qs : Nat → Nat) (H1 : Heap) (locs1 : List Loc), va_P D vwCl (wr ++ wf qs) H1 → va_D A (wr ++ wf qs) → va_S A H0 H1 locs1 → W p l e R s m args below meth c H1 locs1 sz (slots + z2) Q (F0 m (pc + 3) ls rest)) : W p l e R s m args below meth c H locs cells slots Q (F0 m pc ls st0) := by
  subst hc
  have hF := va_free hD hS hA isC hC
  intro T hT X
  obtain ⟨v, st₀, t, T', L, h0, X', hL, e1, ⟨hv, ⟨qs, hp, hd⟩, hz, hk⟩, st⟩ := hr T hT X
  cases hv
  rw [h0] at hz hk
  obtain ⟨hP1, hD1⟩ := va_join hP hD isC isR hC hR hn hdis hk hF hp hd
  obtain ⟨t2, a1, b1⟩ := kk qs T'.heap (locs ++ L) (by rw [e1]; exact hP1) hD1
    ⟨Nat.le_trans hS.1 (by rw [e1]; exact hz), fun q h1 h2 => by rw [e1, hk q (Nat.lt_of_lt_of_le h1 hS.1) (fun z => h2 (hF q z))]; exact hS.2.1 q h1 h2, fun q hq => by
      rcases List.mem_append.mp hq with h | h
      · exact hS.2.2 q h
      · exact hF _ (hL q h)⟩ T' rfl X'
  exact ⟨t2, st t2 a1, b1⟩
theorem nw_I {sz : Nat} (CF : CallFix p m c cc nL s args (c0 :: mBG) own) (hM : NW l D cI cZ y code nL2 f2 n2 k2 z2 (.ref b :: As) wc wf) (hk : mLk own idx y code nL2 none n ∧ y.name = "<init>" ∧ Cond.instanceMethod y ∈ mBG) (hP : va_P D vwCl ws H) (hE : mE D cI cZ s) (hD : va_D A ws) (hS : va_S A H0 H locs) (hA : ∀ q : Nat, H0.size ≤ q → A q) (isC isR : List Nat) (hC : isC.map (fun i => ws[i]?) = wc.map some) (hnc : va_nd isC = true) (hR : isR.map (fun i => ws[i]?) = wr.map some) (hn : va_nd isR = true) (hdis : ∀ i ∈ isR, i ∉ isC) (hna : As.length = n) (hl : ls.size = nL) (hst : st0 = As.reverse ++ .ref b :: rest) (hW : (rest.map fun v => v.category).sum ≤ 8) (hf : mFitN R f2 n2 nL2) (hcs : cells + k2 ≤ R.cells ∧ slots + z2 ≤ R.slots) (hdg : decode cc pc = .ok (.invokespecial idx, 3)) (hc : cells + k2 = sz)
    (kk : ∀ (qs : Nat → Nat) (H1 : Heap) (locs1 : List Loc), va_P D vwCl (wr ++ wf qs) H1 → va_D A (wr ++ wf qs) → va_S A H0 H1 locs1 → W p l e R s m args below meth c H1 locs1 sz (slots + z2) Q (F0 m (pc + 3) ls rest)) : W p l e R s m args below meth c H locs cells slots Q (F0 m pc ls st0) := by
  have hPc : va_P D vwCl wc H := by
    intro j q hj
    have h1 : (isC.map (fun i => ws[i]?))[j]? = some (some q) := by rw [hC, List.getElem?_map, hj]; rfl
    rw [List.getElem?_map] at h1
    cases hi : isC[j]? with
    | none => rw [hi] at h1; cases h1
    | some i => rw [hi] at h1; exact hP i q (Option.some.inj h1)
  have cb : CallB R s args own idx y code nL2 none (mWS y code nL2 none) (mRN f2 n2 k2 z2) k2 z2 n :=
    callB_of n CF.2.2.2.2 (mGood hk.1.2.2.1) rfl rfl rfl (CF.2.2.2.2 _ (List.mem_cons_of_mem _ hk.1.2.1)) (CF.2.2.2.2 _ (List.mem_cons_of_mem _ hk.1.1)) hk.1.2.2.2 ⟨hf.1, hf.2⟩
  have hr := W.runI (l := l) (e := e) (below := below) (meth := meth) (H := H) (locs := locs) (cells := cells) (slots := slots) (g := F0 m pc ls st0) (rest := rest) (As := As) CF (hM H.size) ⟨cb, hk.2.1, CF.2.2.2.2 _ (List.mem_cons_of_mem _ hk.2.2)⟩ ⟨mPN_blind, fun U hU hW => ⟨rfl, by rw [hU], by rw [hU]; exact hPc, hE.warm hW, (hD.sub isC hnc hC).weaken (fun _ _ _ _ => trivial)⟩⟩ rfl hna hl hst (by show 2 * 0 + _ ≤ 8; omega) hdg hcs
  exact nw_fin hr hP hD hS hA isC isR hC hR hn hdis hc kk
theorem nw_IN {sz : Nat} {host : String} (CF : CallFix p m c cc nL s args (c0 :: mBG) own) (hM : NW l D cI cZ y code nL2 f2 n2 k2 z2 (.ref b :: As) wc wf) (hk : Cond.methodLinkNest own idx y host ∈ mNest ∧ Cond.initialized y.cls ∈ mBG ∧ Cond.code y code nL2 none ∈ mBG ∧ (y.cls ≠ "java/lang/invoke/MethodHandle" ∧ y.cls ≠ "java/lang/invoke/VarHandle" ∧ (parseMethodDescriptor y.desc).map (fun d => d.parameters.length) = some n) ∧ y.name = "<init>" ∧ Cond.instanceMethod y ∈ mBG) (hP : va_P D vwCl ws H) (hE : mE D cI cZ s) (hD : va_D A ws) (hS : va_S A H0 H locs) (hA : ∀ q : Nat, H0.size ≤ q → A q) (isC isR : List Nat) (hC : isC.map (fun i => ws[i]?) = wc.map some) (hnc : va_nd isC = true) (hR : isR.map (fun i => ws[i]?) = wr.map some) (hn : va_nd isR = true) (hdis : ∀ i ∈ isR, i ∉ isC) (hna : As.length = n) (hl : ls.size = nL) (hst : st0 = As.reverse ++ .ref b :: rest) (hW : (rest.map fun v => v.category).sum ≤ 8) (hf : mFitN R f2 n2 nL2) (hcs : cells + k2 ≤ R.cells ∧ slots + z2 ≤ R.slots) (hdg : decode cc pc = .ok (.invokespecial idx, 3)) (hc : cells + k2 = sz)
    (kk : ∀ (qs : Nat → Nat) (H1 : Heap) (locs1 : List Loc), va_P D vwCl (wr ++ wf qs) H1 → va_D A (wr ++ wf qs) → va_S A H0 H1 locs1 → W p l e R s m args below meth c H1 locs1 sz (slots + z2) Q (F0 m (pc + 3) ls rest)) : W p l e R s m args below meth c H locs cells slots Q (F0 m pc ls st0) := by
  have hPc : va_P D vwCl wc H := by
    intro j q hj
    have h1 : (isC.map (fun i => ws[i]?))[j]? = some (some q) := by rw [hC, List.getElem?_map, hj]; rfl
    rw [List.getElem?_map] at h1
    cases hi : isC[j]? with
    | none => rw [hi] at h1; cases h1
    | some i => rw [hi] at h1; exact hP i q (Option.some.inj h1)
  have cn : va_CN R s args own idx y host code nL2 none (mWS y code nL2 none) (mRN f2 n2 k2 z2) k2 z2 n := va_cnB (ws := mWS y code nL2 none) (ws' := mBG) n CF.2.2.2.2 (mGood hk.2.2.1) rfl rfl rfl (hE.2 _ hk.1) (CF.2.2.2.2 _ (List.mem_cons_of_mem _ hk.2.1)) hk.2.2.2.1 ⟨hf.1, hf.2⟩
  have hr := va_runIN (l := l) (e := e) (below := below) (meth := meth) (H := H) (locs := locs) (cells := cells) (slots := slots) (g := F0 m pc ls st0) (rest := rest) (As := As) CF (hM H.size) ⟨cn, hk.2.2.2.2.1, CF.2.2.2.2 _ (List.mem_cons_of_mem _ hk.2.2.2.2.2)⟩ ⟨mPN_blind, fun U hU hW => ⟨rfl, by rw [hU], by rw [hU]; exact hPc, hE.warm hW, (hD.sub isC hnc hC).weaken (fun _ _ _ _ => trivial)⟩⟩ rfl hna hl hst (by show 2 * 0 + _ ≤ 8; omega) hdg hcs
  exact nw_fin hr.run hP hD hS hA isC isR hC hR hn hdis hc kk
theorem nw_ret (CF : CallFix p m c cc nL s args (c0 :: mBG) own) (hQ : MQ below (mQN D A wf) args s cells slots A = Q) (hr : meth.sig.returnType = none) (hlk : meth.locks = false) (hP : va_P D vwCl ws1 H) (hD : va_D A ws1) (hS : va_S A s.heap H locs) (hdg : decode cc pc = .ok (.return_, 1)) (qs : Nat → Nat) (is : List Nat) (h1 : is.filterMap (fun i => ws1[i]?) = wf qs) (h2 : va_nd is = true) (h3 : is.map (fun i => ws1[i]?) = (wf qs).map some) : W p l e R s m args below meth c H locs cells slots Q (F0 m pc ls []) := by
  subst hQ
  have hP2 := hP.sub is h1
  have hD2 := hD.sub is h2 h3
  exact W.vret CF.1 CF.2.1 hr (fun t ht _ => ⟨rfl, ⟨qs, by rw [ht]; exact hP2, hD2⟩, hS.F ht⟩) hS.2.2 hdg hlk
theorem nw_newI {n : Nat} {i : Int32} (CF : CallFix p m c cc nL s args (c0 :: mBG) own) (hE : mE D cI cZ s) (hP : va_P D vwCl ws H) (hD : va_D A ws) (hS : va_S A H0 H locs) (hA : ∀ q : Nat, H0.size ≤ q → A q) (hw : Cond.arrayClass .int ∈ mBG) (hi : i = nI n) (hn : n < 2 ^ 20) (hcells : cells + 1 ≤ R.cells) (hslots : slots + n ≤ R.slots) (hdg : decode cc pc = .ok (.newarray .int, 2))
    (kk : ∀ (q : Nat) (H1 : Heap), va_P D vwCl (ws ++ [(q, .inl (cI, n, .inl (fun _ => 0)))]) H1 → va_D A (ws ++ [(q, .inl (cI, n, .inl (fun _ => 0)))]) → va_S A H0 H1 locs → W p l e R s m args below meth c H1 locs (cells + 1) (slots + n) Q (F0 m (pc + 2) ls (.ref q :: rest))) : W p l e R s m args below meth c H locs cells slots Q (F0 m pc ls (.int i :: rest)) := by
  subst hi
  refine va_newa (atype := .int) (ty := .int) (a0 := (n, .inl (fun _ => 0))) CF.1 CF.2.1 (CF.2.2.2.2 _ (List.mem_cons_of_mem _ hw)) rfl hE.1 hP hD hS hA (fun _ => rfl) (nI_pos (by omega)) (nI_clamp (by omega)) (by show n * 4 ≤ 536870912; omega) hcells hslots hdg (fun q cA H1 hK h1 h2 h3 => ?_)
  have e : cA = cI := cA_one hK (i := 2) (j := 0) rfl rfl
  subst e
  exact kk q H1 h1 h2 h3
theorem nw_newZ {n : Nat} {i : Int32} (CF : CallFix p m c cc nL s args (c0 :: mBG) own) (hE : mE D cI cZ s) (hP : va_P D vwCl ws H) (hD : va_D A ws) (hS : va_S A H0 H locs) (hA : ∀ q : Nat, H0.size ≤ q → A q) (hw : Cond.arrayClass .boolean ∈ mBG) (hi : i = nI n) (hn : n < 2 ^ 20) (hcells : cells + 1 ≤ R.cells) (hslots : slots + n ≤ R.slots) (hdg : decode cc pc = .ok (.newarray .boolean, 2))
    (kk : ∀ (q : Nat) (H1 : Heap), va_P D vwCl (ws ++ [(q, .inl (cZ, n, .inl (fun _ => 0)))]) H1 → va_D A (ws ++ [(q, .inl (cZ, n, .inl (fun _ => 0)))]) → va_S A H0 H1 locs → W p l e R s m args below meth c H1 locs (cells + 1) (slots + n) Q (F0 m (pc + 2) ls (.ref q :: rest))) : W p l e R s m args below meth c H locs cells slots Q (F0 m pc ls (.int i :: rest)) := by
  subst hi
  refine va_newa (atype := .boolean) (ty := .boolean) (a0 := (n, .inl (fun _ => 0))) CF.1 CF.2.1 (CF.2.2.2.2 _ (List.mem_cons_of_mem _ hw)) rfl hE.1 hP hD hS hA (fun _ => rfl) (nI_pos (by omega)) (nI_clamp (by omega)) (by show n * 1 ≤ 536870912; omega) hcells hslots hdg (fun q cA H1 hK h1 h2 h3 => ?_)
  have e : cA = cZ := cA_oneZ hK (i := 2) (j := 1) rfl rfl
  subst e
  exact kk q H1 h1 h2 h3
theorem nw_new {C : String} {T : u_T} {N ci : Nat} {fs : List Value} (CF : CallFix p m c cc nL s args (c0 :: mBG) own) (hE : mE D cI cZ s) (hP : va_P D vwCl ws H) (hD : va_D A ws) (hS : va_S A H0 H locs) (hA : ∀ q : Nat, H0.size ≤ q → A q) (hin : ∀ w ∈ u_ws C T N, w ∈ mBG) (ty : Nat → FieldType) (hty : ∀ k, k < N → parseFieldDescriptor (T k).2.2.1 = some (ty k)) (hcl : Cond.classLink own idx C ∈ mBG) (hinst : Cond.instantiable C N ∈ mBG) (hini : Cond.initialized C ∈ mBG) (hc : vwCl[ci]? = some (C, T, N)) (hfs : ∀ j, j < N → defaultValue (ty j) = vp_V fs j) (hcells : cells + 1 ≤ R.cells) (hslots : slots + N ≤ R.slots) (hdg : decode cc pc = .ok (.new idx, 3))
    (kk : ∀ (q : Nat) (H1 : Heap), va_P D vwCl (ws ++ [(q, .inr (ci, fs))]) H1 → va_D A (ws ++ [(q, .inr (ci, fs))]) → va_S A H0 H1 locs → W p l e R s m args below meth c H1 locs (cells + 1) (slots + N) Q (F0 m (pc + 3) ls (.ref q :: rest))) : W p l e R s m args below meth c H locs cells slots Q (F0 m pc ls rest) :=
  va_new CF.1 CF.2.1 CF.2.2.2.2 (fun w h => List.mem_cons_of_mem _ (hin w h)) ty hty CF.2.2.2.1 (CF.2.2.2.2 _ (List.mem_cons_of_mem _ hcl)) (CF.2.2.2.2 _ (List.mem_cons_of_mem _ hinst)) (CF.2.2.2.2 _ (List.mem_cons_of_mem _ hini)) hE.1 hP hD hS hA hc hfs hcells hslots hdg kk
theorem r_putF {C : String} {T : u_T} {N ci : Nat} {a : Nat} {ws' : va_W} (CF : CallFix p m c cc nL s args (c0 :: mBG) own) (hin2 : meth.name = "<init>") (hE : mE D cI cZ s) (hP : va_P D vwCl ws H) (hD : va_D A ws) (hS : va_S A H0 H locs) (q0 : Nat) {fs : List Value} (he : ws[q0]? = some (a, .inr (ci, fs))) (hc : vwCl[ci]? = some (C, T, N)) (hin : ∀ w ∈ u_ws C T N, w ∈ mBG) (ty0 : Nat → FieldType) (hty : ∀ k, k < N → parseFieldDescriptor (T k).2.2.1 = some (ty0 k)) (hnm : ∀ a, a < N → ∀ b, b < N → a ≠ b → (T a).2.1 ≠ (T b).2.1) (k : Nat) (hk : k < N) (hlink : Cond.fieldLink own idx C (T k).2.1 (T k).2.2.1 ∈ mBG) (hown : (T k).1 = C) (hown2 : (T k).1 = own) (hfin : (T k).2.2.2 = true) {v : Value} (hn : narrow (ty0 k) v = v) (hfit : fits (ty0 k) v = true) (hl : k < fs.length) (hdg : decode cc pc = .ok (.putfield idx, 3)) (hset : ws.set q0 (a, .inr (ci, fs.set k v)) = ws')
    (kk : ∀ (H1 : Heap) (locs1 : List Loc), va_P D vwCl ws' H1 → va_D A ws' → va_S A H0 H1 locs1 → W p l e R s m args below meth c H1 locs1 cells slots Q (F0 m (pc + 3) ls rest)) : W p l e R s m args below meth c H locs cells slots Q (F0 m pc ls (v :: .ref a :: rest)) :=
  va_putF CF.1 CF.2.1 CF.2.2.2.2 (fun w h => List.mem_cons_of_mem _ (hin w h)) ty0 hty hnm CF.2.2.2.1 hE.1 hP hD hS q0 he hc k hk (CF.2.2.2.2 _ (List.mem_cons_of_mem _ hlink)) (fun x h => by rw [← hown]; exact h) hfin hin2 hown2 (hty k hk) hn hfit hl hdg (fun H1 locs1 h1 h2 h3 => kk H1 locs1 (by rw [← hset]; exact h1) (by rw [← hset]; exact h2) h3)
theorem r_obj (CF : CallFix p m c cc nL s args (c0 :: mBG) own) (hl : ls.size = nL) (h1 : Cond.methodLink own idx Lib.objectInit ∈ mBG) (h2 : Cond.instanceMethod Lib.objectInit ∈ mBG) (h3 : Cond.code Lib.objectInit ⟨#[0xb1]⟩ 1 none ∈ mBG) (hdg : decode cc pc = .ok (.invokespecial idx, 3)) (hR : 1 ≤ R.frames ∧ (rest.map fun v => v.category).sum + 12 ≤ R.locals)
    (kk : W p l e R s m args below meth c H locs cells slots Q (F0 m (pc + 3) ls rest)) : W p l e R s m args below meth c H locs cells slots Q (F0 m pc ls (.ref b :: rest)) := by
  refine W.objInit CF.1 CF.2.1 CF.2.2.2.1 (CF.2.2.2.2 _ (List.mem_cons_of_mem _ h1)) (CF.2.2.2.2 _ (List.mem_cons_of_mem _ h2)) (CF.2.2.2.2 _ (List.mem_cons_of_mem _ h3)) rfl (by rw [CF.2.2.1]; exact hl) rfl hdg hR.1 (by show 2 * 0 + _ + 12 ≤ _; have := hR.2; omega) ?_
  exact kk
end MYN
theorem max0 {x : Int32} {n : Nat} (h : x = nI n) (hn : n < 2 ^ 31) : (if x < 0 then 0 else x) = nI n := by
  rw [h, if_neg (nI_pos hn)]
