/-! seatings: the class's orders and the model's rows are the same list -/
def sentP (s0 : Nat) : Nat → Int32 := fun i => if i = 5 then nI s0 else -1
def cPg (P s0 k : Nat) : Nat → Int32 := (B_X1_sitInOrder_35 (sentP s0) P (((1 : Int32) <<< ((nI P : Int32) &&& 31)) - 2) (B_X7_factorial_4 1 ((P - 1) - 1)) (nI k) (sentP s0) P).2.2.2
def cL (P s0 k : Nat) : List Nat := (List.range P).map (fun p => (cPg P s0 k (5 + p)).toNatClampNeg)
def dg (P r k : Nat) : Nat := r / P ^ (P - 1 - k) % P
def hadN (P r : Nat) : Nat → Nat
  | 0 => 0
  | k + 1 => hadN P r k ||| 2 ^ dg P r k
def stN (P r p : Nat) : Nat → Nat
  | 0 => 0
  | k + 1 => if dg P r k = p then k + 1 else stN P r p k
def okN (P s0 r : Nat) : Bool := hadN P r P == 2 ^ P - 1 && stN P r 0 P == s0 + 1
def mL (P r : Nat) : List Nat := (List.range P).map (fun p => stN P r p P - 1)
def permL (P : Nat) (l : List Nat) : Bool := (List.range P).all (fun p => decide (l.getD p 0 < P)) && ((List.range P).all (fun j => (List.range P).any (fun p => l.getD p 0 == j)) && (List.range P).all (fun i => (List.range P).all (fun j => l.getD i 0 != l.getD j 0 || i == j)))
set_option maxRecDepth 100000 in
theorem seat_c1 : ∀ P, P < 6 → ∀ s0, s0 < P → ∀ k, k < fct (P - 1) → permL P (cL P s0 k) = true := by decide +kernel
set_option maxRecDepth 100000 in
theorem seat_c2 : ∀ P, P < 6 → ∀ s0, s0 < P → ∀ k, k < fct (P - 1) → ∀ i, i < 15 → if 5 ≤ i ∧ i < 5 + P then cPg P s0 k i = nI (cPg P s0 k i).toNatClampNeg else cPg P s0 k i = -1 := by decide +kernel
set_option maxRecDepth 100000 in
theorem seat_ck : ∀ P, P < 6 → ∀ s0, s0 < P → ((List.range (P ^ P)).filter (okN P s0)).map (mL P) = (List.range (fct (P - 1))).map (cL P s0) := by decide +kernel
