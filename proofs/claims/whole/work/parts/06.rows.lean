/-! my own rows over the kit: contracts that leave the heap (RO), and that change cells and make none (MU) -/
def mNest : List Cond := [.methodLinkNest RX7 9 yX5_init RX7, .methodLinkNest RX7 12 yX6_init RX7, .methodLinkNest RX7 37 yX0_init RX7, .methodLinkNest RX7 53 yX3_init RX7, .methodLinkNest RX1 57 yX7_contains RX7, .methodLinkNest RX1 108 yX7_factorial RX7, .fieldLinkNest RX4 20 RX1 "cells" "LKnowsBetter$Row;" RX7]
def mE (D : va_G) (cI cZ : ClassId) (U : State) : Prop := va_K D vwCl [(cI, .int), (cZ, .boolean)] U ∧ ∀ w ∈ mNest, va_Nw w U
theorem mE.warm {D : va_G} {cI cZ : ClassId} {s U : State} (h : mE D cI cZ s) (hW : s.WarmedH U.vm) : mE D cI cZ U := by
  refine ⟨va_K.moved hW.alike h.1, ?_⟩
  have h2 := h.2
  unfold mNest at h2 ⊢
  simp only [List.forall_mem_cons] at h2 ⊢
  obtain ⟨a1, a2, a3, a4, a5, a6, a7, -⟩ := h2
  exact ⟨va_Nw.warmM hW a1, va_Nw.warmM hW a2, va_Nw.warmM hW a3, va_Nw.warmM hW a4, va_Nw.warmM hW a5, va_Nw.warmM hW a6, va_Nw.warmF hW a7, fun _ h => absurd h List.not_mem_nil⟩
theorem mNest_tab : ∀ w ∈ mNest, w.onTables = true := by
  unfold mNest
  simp only [List.forall_mem_cons]
  exact ⟨rfl, rfl, rfl, rfl, rfl, rfl, rfl, fun _ h => absurd h List.not_mem_nil⟩
theorem mE.call {D : va_G} {cI cZ : ClassId} {U : State} (h : mE D cI cZ U) (g : JFrame) (mk : MethodId) (a : Array Value) : mE D cI cZ (U.calling g mk a) :=
  ⟨va_K.moved (u := U) (U := U.calling g mk a) (Vm.Alike.refl U.vm) h.1, fun w hw => va_Nw.same (mNest_tab w hw) (rfl : U.vm = (U.calling g mk a).vm) (h.2 w hw)⟩
def mQR (o : Option Value) : Array Value → State → Outcome → State → Prop := fun _ st oc t => oc = .returned o ∧ t.heap = st.heap
def mA (ws : va_W) : Nat → Prop := fun q => ∃ (k : Nat) (e : va_E), ws[k]? = some (q, e)
def mQM (D : va_G) (A : Nat → Prop) (ws' : va_W) (o : Option Value) : Array Value → State → Outcome → State → Prop := fun _ st oc t => oc = .returned o ∧ va_P D vwCl ws' t.heap ∧ va_F A st t
def mPR (D : va_G) (cI cZ : ClassId) (As : List Value) (ws : va_W) : Array Value → State → Prop := va_Pc As (fun U => va_P D vwCl ws U.heap ∧ mE D cI cZ U)
def mPM (D : va_G) (cI cZ : ClassId) (As : List Value) (ws : va_W) : Array Value → State → Prop := va_Pc As (fun U => va_P D vwCl ws U.heap ∧ mE D cI cZ U ∧ va_D (fun _ => True) ws)
theorem mPR_blind {D : va_G} {cI cZ : ClassId} {As : List Value} {ws : va_W} : FrameBlind (mPR D cI cZ As ws) := fun a U g mk h => ⟨h.1, h.2.1, h.2.2.call g mk a⟩
theorem mPM_blind {D : va_G} {cI cZ : ClassId} {As : List Value} {ws : va_W} : FrameBlind (mPM D cI cZ As ws) := fun a U g mk h => ⟨h.1, h.2.1, h.2.2.1.call g mk a, h.2.2.2⟩
abbrev mR (f n : Nat) : Room := ({ frames := f, cells := 0, slots := 0, locals := n } : Room)
abbrev mWS (y : MethodName) (code : ByteArray) (nL : Nat) (ret : Option FieldType) : List Cond := Cond.code y code nL ret :: mBG
def RO (l : Launch) (D : va_G) (cI cZ : ClassId) (y : MethodName) (code : ByteArray) (nL : Nat) (ret : Option FieldType) (rm : Room) (As : List Value) (ws : va_W) (o : Option Value) : Prop := Met l y (mWS y code nL ret) rm (mPR D cI cZ As ws) (mQR o) 0 0 (fun _ => False)
def MU (l : Launch) (D : va_G) (cI cZ : ClassId) (y : MethodName) (code : ByteArray) (nL : Nat) (ret : Option FieldType) (rm : Room) (As : List Value) (ws ws' : va_W) (o : Option Value) : Prop := Met l y (mWS y code nL ret) rm (mPM D cI cZ As ws) (mQM D (mA ws) ws' o) 0 0 (mA ws)
theorem RO.of {l : Launch} {D : va_G} {cI cZ : ClassId} {y : MethodName} {code : ByteArray} {nL : Nat} {ret : Option FieldType} {rm : Room} {As : List Value} {ws : va_W} {o : Option Value} (hy : plainName y.cls = true) (hlen : (lg_sl As).length ≤ nL)
    (body : ∀ (p : Program) (e : Env) (s : State) (m : MethodId) (args : Array Value) (below : List Frame) (meth : Method) (c : Code) (ls : Array Slot) (Q : State → Prop), CallFix p m c code nL s args (mWS y code nL ret) y.cls → meth.sig.returnType = ret → meth.locks = false → va_P D vwCl ws s.heap → mE D cI cZ s → MQ below (mQR o) args s 0 0 (fun _ => False) = Q → lv_has ls nL (lv_args 0 As) →
      W p l e rm s m args below meth c s.heap [] 0 0 Q (F0 m 0 ls [])) : RO l D cI cZ y code nL ret rm As ws o := by
  refine Met.ofW (cc := code) (maxL := nL) (ret := ret) hy rfl ?_
  intro p e s m args below meth c s₁ B hml hv
  obtain ⟨rfl, hP, hE⟩ := hv
  rw [lg_entry_eq]
  exact body p e s m _ below meth c _ _ ⟨B.exec, B.bytes, hml, findClass_of_methodNamed B.named, atoms_spec (ws := mWS y code nL ret) B.pre⟩ B.returns B.notSynchronized hP hE rfl (lv_entry As hlen)
theorem MU.of {l : Launch} {D : va_G} {cI cZ : ClassId} {y : MethodName} {code : ByteArray} {nL : Nat} {ret : Option FieldType} {rm : Room} {As : List Value} {ws ws' : va_W} {o : Option Value} (hy : plainName y.cls = true) (hlen : (lg_sl As).length ≤ nL)
    (body : ∀ (p : Program) (e : Env) (s : State) (m : MethodId) (args : Array Value) (below : List Frame) (meth : Method) (c : Code) (ls : Array Slot) (Q : State → Prop) (A : Nat → Prop), CallFix p m c code nL s args (mWS y code nL ret) y.cls → meth.sig.returnType = ret → meth.locks = false → va_P D vwCl ws s.heap → mE D cI cZ s → va_D A ws → va_S A s.heap s.heap [] → MQ below (mQM D A ws' o) args s 0 0 A = Q → lv_has ls nL (lv_args 0 As) →
      W p l e rm s m args below meth c s.heap [] 0 0 Q (F0 m 0 ls [])) : MU l D cI cZ y code nL ret rm As ws ws' o := by
  refine Met.ofW (cc := code) (maxL := nL) (ret := ret) hy rfl ?_
  intro p e s m args below meth c s₁ B hml hv
  obtain ⟨rfl, hP, hE, hD⟩ := hv
  rw [lg_entry_eq]
  exact body p e s m _ below meth c _ _ (mA ws) ⟨B.exec, B.bytes, hml, findClass_of_methodNamed B.named, atoms_spec (ws := mWS y code nL ret) B.pre⟩ B.returns B.notSynchronized hP hE ⟨hD.1, fun k q h => ⟨k, q.2, h⟩⟩ va_S.rf rfl (lv_entry As hlen)
theorem lwg : GoodIn mBG mBG := fun _ hw => ⟨hw, good_of_word (List.mem_filter.mp hw).2⟩
theorem mGood {c0 c : Cond} (h : c ∈ mBG) : GoodIn (c0 :: mBG) (c :: mBG) := fun w hw => by
  have hw2 : w ∈ mBG := by
    rcases List.mem_cons.mp hw with h1 | h2
    · rw [h1]; exact h
    · exact h2
  exact ⟨List.mem_cons_of_mem _ hw2, (lwg w hw2).2⟩
/-- what a call's row needs of the words: link, code, the callee's class -/
def mLk (own : String) (idx : Nat) (y : MethodName) (code : ByteArray) (nL : Nat) (ret : Option FieldType) (n : Nat) : Prop :=
  Cond.methodLink own idx y ∈ mBG ∧ Cond.initialized y.cls ∈ mBG ∧ Cond.code y code nL ret ∈ mBG ∧ (y.cls ≠ "java/lang/invoke/MethodHandle" ∧ y.cls ≠ "java/lang/invoke/VarHandle" ∧ (parseMethodDescriptor y.desc).map (fun d => d.parameters.length) = some n)
def mLkV (own : String) (idx : Nat) (y : MethodName) (code : ByteArray) (nL : Nat) (ret : Option FieldType) (n : Nat) : Prop :=
  mLk own idx y code nL ret n ∧ Cond.instanceMethod y ∈ mBG ∧ Cond.selects y.cls y y ∈ mBG
def mLkS (own : String) (idx : Nat) (y : MethodName) (code : ByteArray) (nL : Nat) (ret : Option FieldType) (n : Nat) : Prop :=
  mLk own idx y code nL ret n ∧ Cond.static y ∈ mBG
/-- the same for a nest mate's private static one -/
def mLkN (own : String) (idx : Nat) (y : MethodName) (host : String) (code : ByteArray) (nL : Nat) (ret : Option FieldType) (n : Nat) : Prop :=
  Cond.methodLinkNest own idx y host ∈ mNest ∧ Cond.initialized y.cls ∈ mBG ∧ Cond.code y code nL ret ∈ mBG ∧ (y.cls ≠ "java/lang/invoke/MethodHandle" ∧ y.cls ≠ "java/lang/invoke/VarHandle" ∧ (parseMethodDescriptor y.desc).map (fun d => d.parameters.length) = some n) ∧ Cond.static y ∈ mBG
def mFit (R rm : Room) (nL : Nat) : Prop := rm.frames + 1 ≤ R.frames ∧ 8 + (nL + 11) + rm.locals ≤ R.locals ∧ rm.cells = 0 ∧ rm.slots = 0
def mUpd : va_W → List Nat → va_W → va_W
  | ws, i :: is, c :: cs => mUpd (ws.set i c) is cs
  | ws, _, _ => ws
theorem mUpd_get : ∀ (is : List Nat) (cs ws : va_W) (k : Nat) (q : Nat × va_E), is.length ≤ cs.length → (mUpd ws is cs)[k]? = some q → (∃ j : Nat, cs[j]? = some q) ∨ (k ∉ is ∧ ws[k]? = some q)
  | [], cs, ws, k, q, _, h => Or.inr ⟨List.not_mem_nil, by cases cs <;> exact h⟩
  | i :: is, [], ws, k, q, hl, h => absurd hl (by simp)
  | i :: is, c :: cs, ws, k, q, hl, h => by
    have h' : (mUpd (ws.set i c) is cs)[k]? = some q := h
    rcases mUpd_get is cs (ws.set i c) k q (by simpa using hl) h' with ⟨j, h1⟩ | ⟨h1, h2⟩
    · exact Or.inl ⟨j + 1, h1⟩
    · by_cases e : k = i
      · subst e
        rw [List.getElem?_set] at h2
        rw [if_pos rfl] at h2
        by_cases hlt : k < ws.length
        · rw [if_pos hlt] at h2
          exact Or.inl ⟨0, h2⟩
        · rw [if_neg hlt] at h2
          cases h2
      · rw [List.getElem?_set, if_neg (fun z => e z.symm)] at h2
        exact Or.inr ⟨fun z => (List.mem_cons.mp z).elim e h1, h2⟩
theorem va_D.fst {A : Nat → Prop} {ws ws' : va_W} (h : va_D A ws) (e : ws'.map (·.1) = ws.map (·.1)) : va_D A ws' := by
  have tr : ∀ (k : Nat) (q : Nat × va_E), ws'[k]? = some q → ∃ x : va_E, ws[k]? = some (q.1, x) := by
    intro k q hq
    have h1 : (ws'.map (·.1))[k]? = some q.1 := by rw [List.getElem?_map, hq]; rfl
    rw [e, List.getElem?_map] at h1
    cases hw : ws[k]? with
    | none => rw [hw] at h1; cases h1
    | some z => rw [hw] at h1; exact ⟨z.2, by rw [← Option.some.inj h1]⟩
  refine ⟨fun i j p q hp hq hpq => ?_, fun k q hq => ?_⟩
  · obtain ⟨x, hx⟩ := tr i p hp
    obtain ⟨y, hy⟩ := tr j q hq
    exact h.1 i j _ _ hx hy hpq
  · obtain ⟨x, hx⟩ := tr k q hq
    exact h.2 k (q.1, x) hx
section MYR
variable {p : Program} {l : Launch} {e : Env} {R : Room} {s : State} {m : MethodId} {args : Array Value} {below : List Frame} {meth : Method} {c : Code} {H H0 : Heap} {locs : List Loc} {cells slots : Nat} {Q : State → Prop} {cc : ByteArray} {nL : Nat} {c0 : Cond} {own : String} {D : va_G} {cI cZ : ClassId} {y : MethodName} {code : ByteArray} {nL2 n idx : Nat} {ret : Option FieldType} {rm : Room} {As rest st0 : List Value} {ws wc wc' ws' ws1 : va_W} {ad : List Nat} {o : Option Value} {A : Nat → Prop} {ls : Array Slot} {pc : Nat} {b : Addr} {a : Array Value}
theorem ro_fin (hr : CallRun p l e R s m args below meth c H locs cells slots 0 0 (F0 m pc ls st0) rest (mQR o a) (fun _ => False)) (kk : W p l e R s m args below meth c H locs cells slots Q (F0 m (pc + 3) ls (o.toList ++ rest))) : W p l e R s m args below meth c H locs cells slots Q (F0 m pc ls st0) := by
  intro T hT X
  obtain ⟨v, st₀, t, T', L, h0, X', hL, e1, ⟨hv, hh⟩, st⟩ := hr T hT X
  cases hv
  obtain ⟨t2, a1, b1⟩ := kk T' (by rw [e1, hh, h0]) (Stand.forget X' (fun q h => (hL q h).elim))
  exact ⟨t2, st t2 a1, b1⟩
theorem mu_fin (hr : CallRun p l e R s m args below meth c H locs cells slots 0 0 (F0 m pc ls st0) rest (mQM D (mA wc) wc' o a) (mA wc)) (hP : va_P D vwCl ws H) (hD : va_D A ws) (hS : va_S A H0 H locs) (is : List Nat) (hC : is.map (fun i => ws[i]?) = wc.map some) (hlen : is.length ≤ wc'.length) (hU : mUpd ws is wc' = ws') (hf : ws'.map (·.1) = ad) (hf2 : ws.map (·.1) = ad)
    (kk : ∀ (H1 : Heap) (locs1 : List Loc), va_P D vwCl ws' H1 → va_D A ws' → va_S A H0 H1 locs1 → W p l e R s m args below meth c H1 locs1 cells slots Q (F0 m (pc + 3) ls (o.toList ++ rest))) : W p l e R s m args below meth c H locs cells slots Q (F0 m pc ls st0) := by
  intro T hT X
  obtain ⟨v, st₀, t, T', L, h0, X', hL, e1, ⟨hv, hp, hz, hk⟩, st⟩ := hr T hT X
  cases hv
  rw [h0] at hz hk
  have cell : ∀ (j : Nat) (q : Nat) (x : va_E), wc[j]? = some (q, x) → ∃ i, is[j]? = some i ∧ ws[i]? = some (q, x) := by
    intro j q x hj
    have h1 : (is.map (fun i => ws[i]?))[j]? = some (some (q, x)) := by rw [hC, List.getElem?_map, hj]; rfl
    rw [List.getElem?_map] at h1
    cases hi : is[j]? with
    | none => rw [hi] at h1; cases h1
    | some i => rw [hi] at h1; exact ⟨i, rfl, Option.some.inj h1⟩
  have hA : ∀ q, mA wc q → A q := by
    rintro q ⟨j, x, hj⟩
    obtain ⟨i, -, hi⟩ := cell j q x hj
    exact hD.2 i _ hi
  have hP1 : va_P D vwCl ws' t.heap := by
    intro k q hq
    rw [← hU] at hq
    rcases mUpd_get is wc' ws k q hlen hq with ⟨j, hj⟩ | ⟨hn, hq⟩
    · exact hp j q hj
    · refine (hP k q hq).kept (hk q.1 (hP k q hq).lt ?_)
      rintro ⟨j, x, hj⟩
      obtain ⟨i, h1, h2⟩ := cell j q.1 x hj
      have hki := hD.1 k i q (q.1, x) hq h2 rfl
      subst hki
      exact hn (List.mem_of_getElem? h1)
  obtain ⟨t2, a1, b1⟩ := kk T'.heap (locs ++ L) (by rw [e1]; exact hP1) (hD.fst (hf.trans hf2.symm))
    ⟨Nat.le_trans hS.1 (by rw [e1]; exact hz), fun q h1 h2 => by rw [e1, hk q (Nat.lt_of_lt_of_le h1 hS.1) (fun z => h2 (hA q z))]; exact hS.2.1 q h1 h2, fun q hq => by
      rcases List.mem_append.mp hq with h | h
      · exact hS.2.2 q h
      · exact hA _ (hL q h)⟩ T' rfl X'
  exact ⟨t2, st t2 a1, b1⟩
theorem mCB (hts : ∀ w ∈ (c0 :: mBG), w.before args s = true) (hk : mLk own idx y code nL2 ret n) (hR : mFit R rm nL2) : CallB R s args own idx y code nL2 ret (mWS y code nL2 ret) rm 0 0 n :=
  callB_of n hts (mGood hk.2.2.1) rfl hR.2.2.1 hR.2.2.2 (hts _ (List.mem_cons_of_mem _ hk.2.1)) (hts _ (List.mem_cons_of_mem _ hk.1)) hk.2.2.2 ⟨hR.1, hR.2.1⟩
/-- a read-only instance method is called -/
theorem ro_V {r : Int32} {q0 ci N : Nat} {fs : List Value} {T : u_T} (CF : CallFix p m c cc nL s args (c0 :: mBG) own) (hM : RO l D cI cZ y code nL2 ret rm (.ref b :: As) wc (some (.int r))) (hk : mLkV own idx y code nL2 ret n) (hP : va_P D vwCl ws H) (hE : mE D cI cZ s) (is : List Nat) (hC : is.filterMap (fun i => ws[i]?) = wc) (he : ws[q0]? = some (b, .inr (ci, fs))) (hc : vwCl[ci]? = some (y.cls, T, N)) (hn : As.length = n) (hl : ls.size = nL) (hst : st0 = As.reverse ++ .ref b :: rest) (hW : (rest.map fun v => v.category).sum ≤ 8) (hR : mFit R rm nL2) (hcs : cells ≤ R.cells ∧ slots ≤ R.slots) (hdg : decode cc pc = .ok (.invokevirtual idx, 3))
    (kk : W p l e R s m args below meth c H locs cells slots Q (F0 m (pc + 3) ls (.int r :: rest))) : W p l e R s m args below meth c H locs cells slots Q (F0 m pc ls st0) :=
  ro_fin (W.runV CF hM ⟨mCB CF.2.2.2.2 hk.1 hR, CF.2.2.2.2 _ (List.mem_cons_of_mem _ hk.2.1), CF.2.2.2.2 _ (List.mem_cons_of_mem _ hk.2.2)⟩ ⟨mPR_blind, va_recv hE.1 hP hc he, fun U hU hW => ⟨rfl, by rw [hU]; exact hP.sub is hC, hE.warm hW⟩⟩ rfl hn hl hst (by show 2 * 0 + _ ≤ 8; omega) hdg hcs) kk
/-- a read-only static method is called -/
theorem ro_S {r : Int32} (CF : CallFix p m c cc nL s args (c0 :: mBG) own) (hM : RO l D cI cZ y code nL2 ret rm As [] (some (.int r))) (hk : mLkS own idx y code nL2 ret n) (hE : mE D cI cZ s) (hn : As.length = n) (hl : ls.size = nL) (hst : st0 = As.reverse ++ rest) (hW : (rest.map fun v => v.category).sum ≤ 8) (hR : mFit R rm nL2) (hcs : cells ≤ R.cells ∧ slots ≤ R.slots) (hdg : decode cc pc = .ok (.invokestatic idx, 3))
    (kk : W p l e R s m args below meth c H locs cells slots Q (F0 m (pc + 3) ls (.int r :: rest))) : W p l e R s m args below meth c H locs cells slots Q (F0 m pc ls st0) :=
  ro_fin (W.runS CF hM ⟨mCB CF.2.2.2.2 hk.1 hR, CF.2.2.2.2 _ (List.mem_cons_of_mem _ hk.2)⟩ ⟨mPR_blind, fun U hU hW => ⟨rfl, (fun k q h => by simp at h), hE.warm hW⟩⟩ rfl hn hl hst (by show 2 * 0 + _ ≤ 8; omega) hdg hcs) kk
/-- a nest mate's private static method is called -/
theorem ro_N {r : Int32} {host : String} (CF : CallFix p m c cc nL s args (c0 :: mBG) own) (hM : RO l D cI cZ y code nL2 ret rm As [] (some (.int r))) (hk : mLkN own idx y host code nL2 ret n) (hE : mE D cI cZ s) (hn : As.length = n) (hl : ls.size = nL) (hst : st0 = As.reverse ++ rest) (hW : (rest.map fun v => v.category).sum ≤ 8) (hR : mFit R rm nL2) (hcs : cells ≤ R.cells ∧ slots ≤ R.slots) (hdg : decode cc pc = .ok (.invokestatic idx, 3))
    (kk : W p l e R s m args below meth c H locs cells slots Q (F0 m (pc + 3) ls (.int r :: rest))) : W p l e R s m args below meth c H locs cells slots Q (F0 m pc ls st0) := by
  have cn : va_CN R s args own idx y host code nL2 ret (mWS y code nL2 ret) rm 0 0 n := va_cnB (ws := mWS y code nL2 ret) (ws' := mBG) n CF.2.2.2.2 (mGood hk.2.2.1) rfl hR.2.2.1 hR.2.2.2 (hE.2 _ hk.1) (CF.2.2.2.2 _ (List.mem_cons_of_mem _ hk.2.1)) hk.2.2.2.1 ⟨hR.1, hR.2.1⟩
  have hr := va_runSN (l := l) (e := e) (below := below) (meth := meth) (H := H) (locs := locs) (cells := cells) (slots := slots) (g := F0 m pc ls st0) (rest := rest) (As := As) CF hM ⟨cn, CF.2.2.2.2 _ (List.mem_cons_of_mem _ hk.2.2.2.2), trivial⟩ ⟨mPR_blind, fun U hU hW => ⟨rfl, (fun k q h => by simp at h), hE.warm hW⟩⟩ rfl hn hl hst (by show 2 * 0 + _ ≤ 8; omega) hdg hcs
  exact ro_fin hr.run kk
theorem mu_run {q0 ci N : Nat} {fs : List Value} {T : u_T} (CF : CallFix p m c cc nL s args (c0 :: mBG) own) (hM : MU l D cI cZ y code nL2 ret rm (.ref b :: As) wc wc' o) (hk : mLkV own idx y code nL2 ret n) (hP : va_P D vwCl ws H) (hE : mE D cI cZ s) (hD : va_D A ws) (is : List Nat) (hC : is.map (fun i => ws[i]?) = wc.map some) (hnd : va_nd is = true) (he : ws[q0]? = some (b, .inr (ci, fs))) (hc : vwCl[ci]? = some (y.cls, T, N)) (hn : As.length = n) (hl : ls.size = nL) (hst : st0 = As.reverse ++ .ref b :: rest) (hW : (rest.map fun v => v.category).sum ≤ 8) (hR : mFit R rm nL2) (hcs : cells ≤ R.cells ∧ slots ≤ R.slots) (hdg : decode cc pc = .ok (.invokevirtual idx, 3)) :
    CallRun p l e R s m args below meth c H locs cells slots 0 0 (F0 m pc ls st0) rest (mQM D (mA wc) wc' o (Value.ref b :: As).toArray) (mA wc) := by
  have hPc : va_P D vwCl wc H := by
    intro j q hj
    have h1 : (is.map (fun i => ws[i]?))[j]? = some (some q) := by rw [hC, List.getElem?_map, hj]; rfl
    rw [List.getElem?_map] at h1
    cases hi : is[j]? with
    | none => rw [hi] at h1; cases h1
    | some i => rw [hi] at h1; exact hP i q (Option.some.inj h1)
  exact W.runV CF hM ⟨mCB CF.2.2.2.2 hk.1 hR, CF.2.2.2.2 _ (List.mem_cons_of_mem _ hk.2.1), CF.2.2.2.2 _ (List.mem_cons_of_mem _ hk.2.2)⟩ ⟨mPM_blind, va_recv hE.1 hP hc he, fun U hU hW => ⟨rfl, by rw [hU]; exact hPc, hE.warm hW, (hD.sub is hnd hC).weaken (fun _ _ _ _ => trivial)⟩⟩ rfl hn hl hst (by show 2 * 0 + _ ≤ 8; omega) hdg hcs
/-- an instance method that changes cells is called: with an int, with nothing, with a long -/
theorem mu_V {r : Int32} {q0 ci N : Nat} {fs : List Value} {T : u_T} (CF : CallFix p m c cc nL s args (c0 :: mBG) own) (hM : MU l D cI cZ y code nL2 ret rm (.ref b :: As) wc wc' (some (.int r))) (hk : mLkV own idx y code nL2 ret n) (hP : va_P D vwCl ws H) (hE : mE D cI cZ s) (hD : va_D A ws) (hS : va_S A H0 H locs) (is : List Nat) (hC : is.map (fun i => ws[i]?) = wc.map some) (hnd : va_nd is = true) (hlen : is.length ≤ wc'.length) (hU : mUpd ws is wc' = ws') (hf : ws'.map (·.1) = ad) (hf2 : ws.map (·.1) = ad) (he : ws[q0]? = some (b, .inr (ci, fs))) (hc : vwCl[ci]? = some (y.cls, T, N)) (hn : As.length = n) (hl : ls.size = nL) (hst : st0 = As.reverse ++ .ref b :: rest) (hW : (rest.map fun v => v.category).sum ≤ 8) (hR : mFit R rm nL2) (hcs : cells ≤ R.cells ∧ slots ≤ R.slots) (hdg : decode cc pc = .ok (.invokevirtual idx, 3))
    (kk : ∀ (H1 : Heap) (locs1 : List Loc), va_P D vwCl ws' H1 → va_D A ws' → va_S A H0 H1 locs1 → W p l e R s m args below meth c H1 locs1 cells slots Q (F0 m (pc + 3) ls (.int r :: rest))) : W p l e R s m args below meth c H locs cells slots Q (F0 m pc ls st0) :=
  mu_fin (mu_run CF hM hk hP hE hD is hC hnd he hc hn hl hst hW hR hcs hdg) hP hD hS is hC hlen hU hf hf2 kk
theorem mu_Vv {q0 ci N : Nat} {fs : List Value} {T : u_T} (CF : CallFix p m c cc nL s args (c0 :: mBG) own) (hM : MU l D cI cZ y code nL2 ret rm (.ref b :: As) wc wc' none) (hk : mLkV own idx y code nL2 ret n) (hP : va_P D vwCl ws H) (hE : mE D cI cZ s) (hD : va_D A ws) (hS : va_S A H0 H locs) (is : List Nat) (hC : is.map (fun i => ws[i]?) = wc.map some) (hnd : va_nd is = true) (hlen : is.length ≤ wc'.length) (hU : mUpd ws is wc' = ws') (hf : ws'.map (·.1) = ad) (hf2 : ws.map (·.1) = ad) (he : ws[q0]? = some (b, .inr (ci, fs))) (hc : vwCl[ci]? = some (y.cls, T, N)) (hn : As.length = n) (hl : ls.size = nL) (hst : st0 = As.reverse ++ .ref b :: rest) (hW : (rest.map fun v => v.category).sum ≤ 8) (hR : mFit R rm nL2) (hcs : cells ≤ R.cells ∧ slots ≤ R.slots) (hdg : decode cc pc = .ok (.invokevirtual idx, 3))
    (kk : ∀ (H1 : Heap) (locs1 : List Loc), va_P D vwCl ws' H1 → va_D A ws' → va_S A H0 H1 locs1 → W p l e R s m args below meth c H1 locs1 cells slots Q (F0 m (pc + 3) ls rest)) : W p l e R s m args below meth c H locs cells slots Q (F0 m pc ls st0) :=
  mu_fin (mu_run CF hM hk hP hE hD is hC hnd he hc hn hl hst hW hR hcs hdg) hP hD hS is hC hlen hU hf hf2 kk
theorem mu_Vl {r : Int64} {q0 ci N : Nat} {fs : List Value} {T : u_T} (CF : CallFix p m c cc nL s args (c0 :: mBG) own) (hM : MU l D cI cZ y code nL2 ret rm (.ref b :: As) wc wc' (some (.long r))) (hk : mLkV own idx y code nL2 ret n) (hP : va_P D vwCl ws H) (hE : mE D cI cZ s) (hD : va_D A ws) (hS : va_S A H0 H locs) (is : List Nat) (hC : is.map (fun i => ws[i]?) = wc.map some) (hnd : va_nd is = true) (hlen : is.length ≤ wc'.length) (hU : mUpd ws is wc' = ws') (hf : ws'.map (·.1) = ad) (hf2 : ws.map (·.1) = ad) (he : ws[q0]? = some (b, .inr (ci, fs))) (hc : vwCl[ci]? = some (y.cls, T, N)) (hn : As.length = n) (hl : ls.size = nL) (hst : st0 = As.reverse ++ .ref b :: rest) (hW : (rest.map fun v => v.category).sum ≤ 8) (hR : mFit R rm nL2) (hcs : cells ≤ R.cells ∧ slots ≤ R.slots) (hdg : decode cc pc = .ok (.invokevirtual idx, 3))
    (kk : ∀ (H1 : Heap) (locs1 : List Loc), va_P D vwCl ws' H1 → va_D A ws' → va_S A H0 H1 locs1 → W p l e R s m args below meth c H1 locs1 cells slots Q (F0 m (pc + 3) ls (.long r :: rest))) : W p l e R s m args below meth c H locs cells slots Q (F0 m pc ls st0) :=
  mu_fin (mu_run CF hM hk hP hE hD is hC hnd he hc hn hl hst hW hR hcs hdg) hP hD hS is hC hlen hU hf hf2 kk
theorem ro_ret {ty : FieldType} {v r : Int32} (CF : CallFix p m c cc nL s args (c0 :: mBG) own) (hQ : MQ below (mQR (some (.int r))) args s 0 0 (fun _ => False) = Q) (hr : meth.sig.returnType = some ty) (hlk : meth.locks = false) (hn : narrow ty (.int v) = .int v) (hdg : decode cc pc = .ok (.ireturn, 1)) (hv : r = v) : W p l e R s m args below meth c s.heap [] 0 0 Q (F0 m pc ls [.int v]) := by
  subst hQ
  exact W.zret CF.1 CF.2.1 hr hn (fun t ht _ => ⟨by rw [hv], ht⟩) (fun _ h => by cases h) hdg hlk
theorem mu_reti {ty : FieldType} {v r : Int32} (CF : CallFix p m c cc nL s args (c0 :: mBG) own) (hQ : MQ below (mQM D A ws' (some (.int r))) args s 0 0 A = Q) (hr : meth.sig.returnType = some ty) (hlk : meth.locks = false) (hn : narrow ty (.int v) = .int v) (hP : va_P D vwCl ws1 H) (hS : va_S A s.heap H locs) (hdg : decode cc pc = .ok (.ireturn, 1)) (hv : r = v) (hw : ws' = ws1) : W p l e R s m args below meth c H locs 0 0 Q (F0 m pc ls [.int v]) := by
  subst hQ
  exact W.zret CF.1 CF.2.1 hr hn (fun t ht _ => ⟨by rw [hv], by rw [hw, ht]; exact hP, hS.F ht⟩) hS.2.2 hdg hlk
theorem mu_retl {v r : Int64} (CF : CallFix p m c cc nL s args (c0 :: mBG) own) (hQ : MQ below (mQM D A ws' (some (.long r))) args s 0 0 A = Q) (hr : meth.sig.returnType = some .long) (hlk : meth.locks = false) (hP : va_P D vwCl ws1 H) (hS : va_S A s.heap H locs) (hdg : decode cc pc = .ok (.lreturn, 1)) (hv : r = v) (hw : ws' = ws1) : W p l e R s m args below meth c H locs 0 0 Q (F0 m pc ls [.long v]) := by
  subst hQ
  exact W.lret CF.1 CF.2.1 hr (fun t ht _ => ⟨by rw [hv], by rw [hw, ht]; exact hP, hS.F ht⟩) hS.2.2 hdg hlk
theorem mu_retv (CF : CallFix p m c cc nL s args (c0 :: mBG) own) (hQ : MQ below (mQM D A ws' none) args s 0 0 A = Q) (hr : meth.sig.returnType = none) (hlk : meth.locks = false) (hP : va_P D vwCl ws1 H) (hS : va_S A s.heap H locs) (hdg : decode cc pc = .ok (.return_, 1)) (hw : ws' = ws1) : W p l e R s m args below meth c H locs 0 0 Q (F0 m pc ls []) := by
  subst hQ
  exact W.vret CF.1 CF.2.1 hr (fun t ht _ => ⟨rfl, by rw [hw, ht]; exact hP, hS.F ht⟩) hS.2.2 hdg hlk
theorem lv_as {x z : Int32} (h : x = z) (k : W p l e R s m args below meth c H locs cells slots Q (F0 m pc ls (.int z :: rest))) : W p l e R s m args below meth c H locs cells slots Q (F0 m pc ls (.int x :: rest)) := by rw [h]; exact k
theorem r_get {C : String} {T : u_T} {N ci : Nat} {a : Nat} (CF : CallFix p m c cc nL s args (c0 :: mBG) own) (hE : mE D cI cZ s) (hP : va_P D vwCl ws H) (q0 : Nat) {fs : List Value} (he : ws[q0]? = some (a, .inr (ci, fs))) (hc : vwCl[ci]? = some (C, T, N)) (hin : ∀ w ∈ u_ws C T N, w ∈ mBG) (k : Nat) (hk : k < N) (hlink : Cond.fieldLink own idx C (T k).2.1 (T k).2.2.1 ∈ mBG) (hown : (T k).1 = C) {v : Value} (hv : fs[k]? = some v) (hdg : decode cc pc = .ok (.getfield idx, 3))
    (kk : W p l e R s m args below meth c H locs cells slots Q (F0 m (pc + 3) ls (v :: rest))) : W p l e R s m args below meth c H locs cells slots Q (F0 m pc ls (.ref a :: rest)) :=
  va_get CF.1 CF.2.1 CF.2.2.2.2 (fun w h => List.mem_cons_of_mem _ (hin w h)) CF.2.2.2.1 hE.1 hP q0 he hc k hk (CF.2.2.2.2 _ (List.mem_cons_of_mem _ hlink)) (fun x h => by rw [← hown]; exact h) hv hdg kk
theorem r_getN {C host : String} {T : u_T} {N ci : Nat} {a : Nat} (CF : CallFix p m c cc nL s args (c0 :: mBG) own) (hE : mE D cI cZ s) (hP : va_P D vwCl ws H) (q0 : Nat) {fs : List Value} (he : ws[q0]? = some (a, .inr (ci, fs))) (hc : vwCl[ci]? = some (C, T, N)) (hin : ∀ w ∈ u_ws C T N, w ∈ mBG) (k : Nat) (hk : k < N) (hlink : Cond.fieldLinkNest own idx C (T k).2.1 (T k).2.2.1 host ∈ mNest) (hown : (T k).1 = C) {v : Value} (hv : fs[k]? = some v) (hdg : decode cc pc = .ok (.getfield idx, 3))
    (kk : W p l e R s m args below meth c H locs cells slots Q (F0 m (pc + 3) ls (v :: rest))) : W p l e R s m args below meth c H locs cells slots Q (F0 m pc ls (.ref a :: rest)) :=
  va_getN CF.1 CF.2.1 CF.2.2.2.2 (fun w h => List.mem_cons_of_mem _ (hin w h)) CF.2.2.2.1 hE.1 hP q0 he hc k hk (va_Nw.use (mNest_tab _ hlink) (hE.2 _ hlink)) (fun x h => by rw [← hown]; exact h) hv hdg kk
theorem r_put {C : String} {T : u_T} {N ci : Nat} {a : Nat} (CF : CallFix p m c cc nL s args (c0 :: mBG) own) (hE : mE D cI cZ s) (hP : va_P D vwCl ws H) (hD : va_D A ws) (hS : va_S A H0 H locs) (q0 : Nat) {fs : List Value} (he : ws[q0]? = some (a, .inr (ci, fs))) (hc : vwCl[ci]? = some (C, T, N)) (hin : ∀ w ∈ u_ws C T N, w ∈ mBG) (ty0 : Nat → FieldType) (hty : ∀ k, k < N → parseFieldDescriptor (T k).2.2.1 = some (ty0 k)) (hnm : ∀ a, a < N → ∀ b, b < N → a ≠ b → (T a).2.1 ≠ (T b).2.1) (k : Nat) (hk : k < N) (hlink : Cond.fieldLink own idx C (T k).2.1 (T k).2.2.1 ∈ mBG) (hown : (T k).1 = C) (hfin : (T k).2.2.2 = false) {v : Value} (hn : narrow (ty0 k) v = v) (hfit : fits (ty0 k) v = true) (hl : k < fs.length) (hdg : decode cc pc = .ok (.putfield idx, 3)) (hset : ws.set q0 (a, .inr (ci, fs.set k v)) = ws')
    (kk : ∀ (H1 : Heap) (locs1 : List Loc), va_P D vwCl ws' H1 → va_D A ws' → va_S A H0 H1 locs1 → W p l e R s m args below meth c H1 locs1 cells slots Q (F0 m (pc + 3) ls rest)) : W p l e R s m args below meth c H locs cells slots Q (F0 m pc ls (v :: .ref a :: rest)) :=
  va_put CF.1 CF.2.1 CF.2.2.2.2 (fun w h => List.mem_cons_of_mem _ (hin w h)) ty0 hty hnm CF.2.2.2.1 hE.1 hP hD hS q0 he hc k hk (CF.2.2.2.2 _ (List.mem_cons_of_mem _ hlink)) (fun x h => by rw [← hown]; exact h) hfin (hty k hk) hn hfit hl hdg (fun H1 locs1 h1 h2 h3 => kk H1 locs1 (by rw [← hset]; exact h1) (by rw [← hset]; exact h2) h3)
theorem r_iald {a k : Nat} {f : Nat → Int32} (CF : CallFix p m c cc nL s args (c0 :: mBG) own) (hE : mE D cI cZ s) (hP : va_P D vwCl ws H) (q0 : Nat) (ha : ws[q0]? = some (a, .inl (cI, k, .inl f))) {i : Int32} (j : Nat) (hi : i = nI j) (hj : j < k) (hk : k < 2 ^ 31) (hdg : decode cc pc = .ok (.iaload, 1))
    (kk : W p l e R s m args below meth c H locs cells slots Q (F0 m (pc + 1) ls (.int (f j) :: rest))) : W p l e R s m args below meth c H locs cells slots Q (F0 m pc ls (.int i :: .ref a :: rest)) := by
  subst hi
  refine va_iald CF.1 CF.2.1 hE.1 hP q0 0 ha rfl (vp_in_nI hj hk) hdg ?_
  rw [nI_clamp (by omega)]
  exact kk
theorem r_zald {a k : Nat} {f : Nat → Int32} (CF : CallFix p m c cc nL s args (c0 :: mBG) own) (hE : mE D cI cZ s) (hP : va_P D vwCl ws H) (q0 : Nat) (ha : ws[q0]? = some (a, .inl (cZ, k, .inl f))) {i : Int32} (j : Nat) (hi : i = nI j) (hj : j < k) (hk : k < 2 ^ 31) (hdg : decode cc pc = .ok (.baload, 1))
    (kk : W p l e R s m args below meth c H locs cells slots Q (F0 m (pc + 1) ls (.int (f j) :: rest))) : W p l e R s m args below meth c H locs cells slots Q (F0 m pc ls (.int i :: .ref a :: rest)) := by
  subst hi
  refine va_zald CF.1 CF.2.1 hE.1 hP q0 1 ha rfl (vp_in_nI hj hk) hdg ?_
  rw [nI_clamp (by omega)]
  exact kk
theorem r_iast {a k : Nat} {f : Nat → Int32} (CF : CallFix p m c cc nL s args (c0 :: mBG) own) (hE : mE D cI cZ s) (hP : va_P D vwCl ws H) (hD : va_D A ws) (hS : va_S A H0 H locs) (q0 : Nat) (ha : ws[q0]? = some (a, .inl (cI, k, .inl f))) {i x : Int32} (j : Nat) (hi : i = nI j) (hj : j < k) (hk : k < 2 ^ 31) (hdg : decode cc pc = .ok (.iastore, 1)) (hset : ws.set q0 (a, .inl (cI, k, .inl (upd f j x))) = ws')
    (kk : ∀ (H1 : Heap) (locs1 : List Loc), va_P D vwCl ws' H1 → va_D A ws' → va_S A H0 H1 locs1 → W p l e R s m args below meth c H1 locs1 cells slots Q (F0 m (pc + 1) ls rest)) : W p l e R s m args below meth c H locs cells slots Q (F0 m pc ls (.int x :: .int i :: .ref a :: rest)) := by
  subst hi
  have e : (nI j).toNatClampNeg = j := nI_clamp (by omega)
  refine va_iast CF.1 CF.2.1 hE.1 hP hD hS q0 0 ha rfl (vp_in_nI hj hk) hdg ?_
  rw [e, hset]
  exact kk
theorem r_zast {a k : Nat} {f : Nat → Int32} (CF : CallFix p m c cc nL s args (c0 :: mBG) own) (hE : mE D cI cZ s) (hP : va_P D vwCl ws H) (hD : va_D A ws) (hS : va_S A H0 H locs) (q0 : Nat) (ha : ws[q0]? = some (a, .inl (cZ, k, .inl f))) {i x : Int32} (j : Nat) (hi : i = nI j) (hj : j < k) (hk : k < 2 ^ 31) (hx : vp_nar .boolean x = x) (hdg : decode cc pc = .ok (.bastore, 1)) (hset : ws.set q0 (a, .inl (cZ, k, .inl (upd f j x))) = ws')
    (kk : ∀ (H1 : Heap) (locs1 : List Loc), va_P D vwCl ws' H1 → va_D A ws' → va_S A H0 H1 locs1 → W p l e R s m args below meth c H1 locs1 cells slots Q (F0 m (pc + 1) ls rest)) : W p l e R s m args below meth c H locs cells slots Q (F0 m pc ls (.int x :: .int i :: .ref a :: rest)) := by
  subst hi
  have e : (nI j).toNatClampNeg = j := nI_clamp (by omega)
  refine va_zast CF.1 CF.2.1 hE.1 hP hD hS q0 1 ha rfl (vp_in_nI hj hk) hdg ?_
  rw [e, hx, hset]
  exact kk
theorem r_alen {a k : Nat} {f : Nat → Int32} (CF : CallFix p m c cc nL s args (c0 :: mBG) own) (hE : mE D cI cZ s) (hP : va_P D vwCl ws H) (q0 : Nat) (ha : ws[q0]? = some (a, .inl (cI, k, .inl f))) (hdg : decode cc pc = .ok (.arraylength, 1))
    (kk : W p l e R s m args below meth c H locs cells slots Q (F0 m (pc + 1) ls (.int (nI k) :: rest))) : W p l e R s m args below meth c H locs cells slots Q (F0 m pc ls (.ref a :: rest)) :=
  va_alen CF.1 CF.2.1 hE.1 hP q0 0 ha (ty := .int) rfl (v := nI k) rfl hdg kk
theorem r_mmax {x z : Int32} (CF : CallFix p m c cc nL s args (c0 :: mBG) own) (hl : ls.size = nL) (hk : Cond.methodLink own idx Lib.Math.max.name ∈ mBG) (hR : 1 ≤ R.frames ∧ (rest.map fun v => v.category).sum + 13 ≤ R.locals ∧ cells ≤ R.cells ∧ slots ≤ R.slots) (hdg : decode cc pc = .ok (.invokestatic idx, 3)) (hw : (Cond.static Lib.Math.max.name ∈ mBG) ∧ (Cond.initialized "java/lang/Math" ∈ mBG) ∧ Cond.code Lib.Math.max.name Lib.Math.max.code 2 (some .int) ∈ mBG)
    (kk : W p l e R s m args below meth c H locs cells slots Q (F0 m (pc + 3) ls (.int (if x < z then z else x) :: rest))) : W p l e R s m args below meth c H locs cells slots Q (F0 m pc ls (.int z :: .int x :: rest)) :=
  va_mmax CF.1 CF.2.1 (CF.2.2.1.trans hl.symm) CF.2.2.2.1 (CF.2.2.2.2 _ (List.mem_cons_of_mem _ hk)) (CF.2.2.2.2 _ (List.mem_cons_of_mem _ hw.1)) (CF.2.2.2.2 _ (List.mem_cons_of_mem _ hw.2.1)) (CF.2.2.2.2 _ (List.mem_cons_of_mem _ hw.2.2)) hR.1 hR.2.1 hR.2.2.1 hR.2.2.2 hdg kk
theorem r_mmin {x z : Int32} (CF : CallFix p m c cc nL s args (c0 :: mBG) own) (hl : ls.size = nL) (hk : Cond.methodLink own idx Lib.Math.min.name ∈ mBG) (hR : 1 ≤ R.frames ∧ (rest.map fun v => v.category).sum + 13 ≤ R.locals ∧ cells ≤ R.cells ∧ slots ≤ R.slots) (hdg : decode cc pc = .ok (.invokestatic idx, 3)) (hw : (Cond.static Lib.Math.min.name ∈ mBG) ∧ (Cond.initialized "java/lang/Math" ∈ mBG) ∧ Cond.code Lib.Math.min.name Lib.Math.min.code 2 (some .int) ∈ mBG)
    (kk : W p l e R s m args below meth c H locs cells slots Q (F0 m (pc + 3) ls (.int (if z < x then z else x) :: rest))) : W p l e R s m args below meth c H locs cells slots Q (F0 m pc ls (.int z :: .int x :: rest)) :=
  va_mmin CF.1 CF.2.1 (CF.2.2.1.trans hl.symm) CF.2.2.2.1 (CF.2.2.2.2 _ (List.mem_cons_of_mem _ hk)) (CF.2.2.2.2 _ (List.mem_cons_of_mem _ hw.1)) (CF.2.2.2.2 _ (List.mem_cons_of_mem _ hw.2.1)) (CF.2.2.2.2 _ (List.mem_cons_of_mem _ hw.2.2)) hR.1 hR.2.1 hR.2.2.1 hR.2.2.2 hdg kk
theorem r_mabs {x : Int32} (CF : CallFix p m c cc nL s args (c0 :: mBG) own) (hl : ls.size = nL) (hk : Cond.methodLink own idx Lib.Math.abs.name ∈ mBG) (hR : 1 ≤ R.frames ∧ (rest.map fun v => v.category).sum + 13 ≤ R.locals ∧ cells ≤ R.cells ∧ slots ≤ R.slots) (hdg : decode cc pc = .ok (.invokestatic idx, 3)) (hw : (Cond.static Lib.Math.abs.name ∈ mBG) ∧ (Cond.initialized "java/lang/Math" ∈ mBG) ∧ Cond.code Lib.Math.abs.name Lib.Math.abs.code 1 (some .int) ∈ mBG)
    (kk : W p l e R s m args below meth c H locs cells slots Q (F0 m (pc + 3) ls (.int (if 0 ≤ x then x else 0 - x) :: rest))) : W p l e R s m args below meth c H locs cells slots Q (F0 m pc ls (.int x :: rest)) :=
  va_mabs CF.1 CF.2.1 (CF.2.2.1.trans hl.symm) CF.2.2.2.1 (CF.2.2.2.2 _ (List.mem_cons_of_mem _ hk)) (CF.2.2.2.2 _ (List.mem_cons_of_mem _ hw.1)) (CF.2.2.2.2 _ (List.mem_cons_of_mem _ hw.2.1)) (CF.2.2.2.2 _ (List.mem_cons_of_mem _ hw.2.2)) hR.1 hR.2.1 hR.2.2.1 hR.2.2.2 hdg kk
end MYR
/-! numbers -/
theorem nf_c (n : Nat) : (OfNat.ofNat n : Int32) = nI n := rfl
theorem nf_add {x y : Int32} {a b : Nat} (hx : x = nI a) (hy : y = nI b) : x + y = nI (a + b) := by rw [hx, hy, nI_add]
theorem nf_inc {x : Int32} {a : Nat} (k : Nat) (hx : x = nI a) : x + Int32.ofInt (k : Int) = nI (a + k) := by
  rw [hx, show Int32.ofInt (k : Int) = nI k from by simp [nI, Int32.ofInt_eq_ofNat], nI_add]
theorem nf_dec {x : Int32} {a : Nat} (hx : x = nI a) (h : 1 ≤ a) : x + Int32.ofInt (-1) = nI (a - 1) := by
  obtain ⟨b, rfl⟩ : ∃ b, a = b + 1 := ⟨a - 1, by omega⟩
  rw [hx, Nat.add_sub_cancel]
  exact pk_m1 b
theorem nf_sub {x y : Int32} {a b : Nat} (hx : x = nI a) (hy : y = nI b) (h : b ≤ a) : x - y = nI (a - b) := by rw [hx, hy, pk_sub h]
theorem nf_mul {x y : Int32} {a b : Nat} (hx : x = nI a) (hy : y = nI b) : x * y = nI (a * b) := by rw [hx, hy, pk_mul]
theorem nf_div {x y : Int32} {a b : Nat} (hx : x = nI a) (hy : y = nI b) (ha : a < 2 ^ 31) (h0 : 0 < b) (hb : b < 2 ^ 31) : x / y = nI (a / b) := by rw [hx, hy, pk_div ha h0 hb]
theorem nf_rem {x y : Int32} {a b : Nat} (hx : x = nI a) (hy : y = nI b) (ha : a < 2 ^ 31) (h0 : 0 < b) (hb : b < 2 ^ 31) : x - x / y * y = nI (a % b) := by rw [hx, hy, pk_rem ha h0 hb]
theorem nf_shl0 : ∀ b, b < 31 → (1 : Int32) <<< (nI b &&& 31) = nI (2 ^ b) := by decide +kernel
theorem nf_shl {y : Int32} {b : Nat} (hy : y = nI b) (hb : b < 31) : (1 : Int32) <<< (y &&& 31) = nI (2 ^ b) := by rw [hy, nf_shl0 b hb]
theorem nf_tn {x : Int32} (h : ¬ x < 0) : x = nI x.toNatClampNeg := by
  obtain ⟨j, hj, e⟩ := nI_of h
  rw [e, nI_clamp hj]
theorem cle {x y : Int32} {a b : Nat} (hx : x = nI a) (hy : y = nI b) (ha : a < 2 ^ 31) (hb : b < 2 ^ 31) : x ≤ y ↔ a ≤ b := by rw [hx, hy, nI_leI ha hb]
theorem clt {x y : Int32} {a b : Nat} (hx : x = nI a) (hy : y = nI b) (ha : a < 2 ^ 31) (hb : b < 2 ^ 31) : x < y ↔ a < b := by rw [hx, hy, nI_ltI ha hb]
theorem ceq {x y : Int32} {a b : Nat} (hx : x = nI a) (hy : y = nI b) (ha : a < 2 ^ 31) (hb : b < 2 ^ 31) : x = y ↔ a = b := by rw [hx, hy, nI_eq ha hb]
theorem tn_lt {x y : Int32} {n : Nat} (h0 : ¬ x < 0) (h1 : ¬ y ≤ x) (hy : y = nI n) (hn : n < 2 ^ 31) : x.toNatClampNeg < n := by
  have hb : x.toNatClampNeg < 2 ^ 31 := Int32.toNatClampNeg_lt x
  exact Nat.lt_of_not_le (fun h => h1 ((cle hy (nf_tn h0) hn hb).mpr h))
theorem ne_max (x : Int32) : ¬ (if x < 1 then 1 else x) = 0 := by
  by_cases h : x < 1
  · rw [if_pos h]; decide
  · rw [if_neg h]
    intro e
    exact h (by rw [e]; decide)
theorem ne_nle {x : Int32} (h : ¬ x ≤ 0) : ¬ x = 0 := fun e => h (by rw [e]; exact Int32.le_refl _)
