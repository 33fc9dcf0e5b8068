/-! THE CLAIM OUT OF ONE WALK OF THE LAW'S BODY. Your part is whole_start (and what it stands on); all else here is the same for every law, but numbers. -/
def R_law : String := "KnowsBetterLaw"
def lw_P (b : Addr) (xs : List Int32) (args : Array Value) (s : State) : Prop := args = #[.ref b] ∧ s.IntsAt b xs ∧ xs.length ≤ 3072 ∧ (Jvm.Cond.and given_1 narrow_1).before args s = true
def lw_Q (_ : Array Value) (s : State) (o : Outcome) (t : State) : Prop := o = .returned (some (.int 1)) ∧ Framed s o t [] 600000 7302250
def lw_Z (below : List Frame) (a : Array Value) (s : State) : State → Prop := fun t => ∃ o, t.status = .running ∧ Ended t below o ∧ lw_Q a s o t
/-- the law's own end, with 1 on the stack, nothing written that was there before, its room as the claim has it -/
theorem lw_ret {p : Program} {l : Launch} {e : Env} {s : State} {m : MethodId} {below : List Frame} {meth : Method} {c : Code} {b : Nat} (hx : p.tables.exec = Jvm.exec) (hb : c.code = code) (hr : meth.sig.returnType = ret) (hlocks : meth.locks = false) {pc : Nat} {H : Heap} {ls : Array Slot} (hdg : decode code pc = .ok (.ireturn, 1)) : W p l e room_1 s m #[Value.ref b] below meth c H [] 600000 7302250 (lw_Z below #[Value.ref b] s) (F0 m pc ls [.int 1]) := by
  intro T hT X
  obtain ⟨fs, hret, hrun, hended, hW, hframe⟩ := X.leave (v := some (.int 1)) (hlocks := hlocks) (fun h => by rw [hr] at h; cases h)
  have hmeth' : T.vm.method? m = some meth := X.method'
  refine ⟨T.setFrames fs, ?_, .returned (some (.int 1)), hrun, hended, rfl, ⟨_, rfl⟩, hW, hframe⟩
  jvm_step X.here [X.here.top, hx, hb, hdg, hmeth', hr, ret, narrow_b1]
  (try refine ⟨rfl, ?_⟩); (try refine ⟨rfl, ?_⟩)
  first | (intro acts; rw [hret _ acts rfl rfl rfl]) | rw [hret _ _ rfl rfl rfl]
  exact Steps.refl _
/-- what holds at the law's entry: the machine, the code, the tables' words (any of lw_tbl by 'hts w (by decide +kernel)'), the script of L ints xs at the cell b, what the Statement gives of the start (any of its parts by flat_of_before) -/
def lw_At (p : Program) (s : State) (m : MethodId) (meth : Method) (c : Code) (b L : Nat) (xs : Nat → Int32) : Prop :=
  p.tables.exec = Jvm.exec ∧ c.code = code ∧ meth.sig.returnType = ret ∧ c.maxLocals = 4 ∧ s.vm.findClass R_law = some m.cls ∧ (∀ w ∈ lw_tbl, w.before #[Value.ref b] s = true) ∧ va_X b L xs s s.heap ∧ b < s.heap.size ∧ meth.locks = false ∧ (Jvm.Cond.and given_1 narrow_1).before #[Value.ref b] s = true
/-! the relation between the class's slots and the model's, part by part -/
def RTxt (nT : Nat) (tx : Nat → Int32) (uT : Nat) (utx : Nat → Int32) : Prop := uT = nT ∧ nT ≤ 40 ∧ ∀ i, i < nT → tx i = utx i
/-- what people were told, and who sits where -/
def RTo (P : Nat) (tt : Nat → Int32) : Prop := ∀ p, p < P → ∃ t, t < 64 ∧ tt p = nI t
def Sit (P : Nat) (tt : Nat → Int32) (sg : Nat → Nat) : Prop := (∀ i, i < P → tt (5 + i) = nI (sg i) ∧ sg i < P) ∧ (∀ j, j < P → ∃ i, i < P ∧ sg i = j) ∧ ∀ i, i < P → ∀ j, j < P → sg i = sg j → i = j
def POk (P : Nat) (f : Nat → Int32) : Prop := RTo P f ∧ ∃ sg : Nat → Nat, Sit P f sg
/-- what the rules are, as numbers -/
def gR (nR : Nat) (nd gv ur : Nat → Int32) : Prop := ∀ k, k < nR → ∃ i j t, i < 6 ∧ j < 6 ∧ t < 6 ∧ ur (3 * k) = nI i ∧ ur (3 * k + 1) = nI j ∧ ur (3 * k + 2) = nI t ∧ nd k = nI (2 ^ i ||| 2 ^ j) ∧ gv k = nI (2 ^ t)
def RTab (nP nR : Nat) (kd nd gv : Nat → Int32) (uP uR : Nat) (uk ur : Nat → Int32) : Prop := uP = nP ∧ uR = nR ∧ nP ≤ 5 ∧ nR ≤ 4 ∧ (∀ q, q < nP → kd q = uk q) ∧ gR nR nd gv ur
def RPag (nP : Nat) (nw pg : Nat → Int32) : Prop := (∀ i, i < 15 → nw i = pg i) ∧ POk nP pg
def RAct (nP : Nat) (ac ax : Int32) (ah : Nat → Int32) (ua : Nat) (bk : Nat → Int32) : Prop := ac = nI ua ∧ ua ≤ 14 ∧ ∃ x, x < 14 ∧ ax = nI x ∧ ∀ m, m < ua → (∀ i, i < 15 → ah (15 * ((x + 14 - ua + m) % 14) + i) = bk (15 * m + i)) ∧ POk nP (fun i => bk (15 * m + i))
def RSlt (nP : Nat) (fs : Int32) (sl kp ik : Nat → Int32) : Prop := ∃ b, b < 4 ∧ fs = nI b ∧ ∀ k, k < 2 → ik k = (if b.testBit k = true then 1 else 0) ∧ (b.testBit k = true → (∀ i, i < 15 → sl (15 * k + i) = kp (15 * k + i)) ∧ POk nP (fun i => kp (15 * k + i)))
def suN (sF sS : Nat → Int32) : Nat → Int32
  | 0 => 0
  | k + 1 => if sS k = 1 then suN sF sS k ||| ((1 : Int32) <<< (sF k &&& 31)) else suN sF sS k
def spN (sF sS : Nat → Int32) : Nat → Int32
  | 0 => 0
  | k + 1 => if sS k = 1 then spN sF sS k else spN sF sS k ||| ((1 : Int32) <<< (sF k &&& 31))
def RSee (sc su sp : Int32) (us : Nat) (sF sS : Nat → Int32) : Prop := sc = nI us ∧ us ≤ 6 ∧ su = suN sF sS us ∧ sp = spN sF sS us ∧ ∀ k, k < us → (∃ f, f < 6 ∧ sF k = nI f) ∧ (sS k = 0 ∨ sS k = 1)
