section
-- ===== PART A: goes FIRST, ahead of the names: the tables' words, and 'selects' of the private methods out of them =====
/-- a private method of a class that the tables say can be made, by its rows of tables_1 -/
def lw_okq (q : MethodName × Nat) : Prop := (q.1.cls ≠ "java/lang/invoke/MethodHandle" ∧ q.1.cls ≠ "java/lang/invoke/VarHandle") ∧ Cond.instantiable q.1.cls q.2 ∈ tables_1 ∧ Cond.privateMethod q.1 ∈ tables_1 ∧ Cond.instanceMethod q.1 ∈ tables_1
theorem lw_p0 : lw_okq (⟨"KnowsBetter$Text", "fits", "(I)Z"⟩, 2) := ⟨⟨by decide +kernel, by decide +kernel⟩, List.mem_of_getElem? (i := 57) (by decide +kernel), List.mem_of_getElem? (i := 190) (by decide +kernel), List.mem_of_getElem? (i := 191) (by decide +kernel)⟩
theorem lw_p1 : lw_okq (⟨"KnowsBetter$Text", "startsPart", "(I)Z"⟩, 2) := ⟨⟨by decide +kernel, by decide +kernel⟩, List.mem_of_getElem? (i := 57) (by decide +kernel), List.mem_of_getElem? (i := 202) (by decide +kernel), List.mem_of_getElem? (i := 203) (by decide +kernel)⟩
theorem lw_p2 : lw_okq (⟨"KnowsBetter$Text", "partsAhead", "(II)I"⟩, 2) := ⟨⟨by decide +kernel, by decide +kernel⟩, List.mem_of_getElem? (i := 57) (by decide +kernel), List.mem_of_getElem? (i := 206) (by decide +kernel), List.mem_of_getElem? (i := 207) (by decide +kernel)⟩
theorem lw_p3 : lw_okq (⟨"KnowsBetter", "admit", "(I)V"⟩, 9) := ⟨⟨by decide +kernel, by decide +kernel⟩, List.mem_of_getElem? (i := 13) (by decide +kernel), List.mem_of_getElem? (i := 242) (by decide +kernel), List.mem_of_getElem? (i := 243) (by decide +kernel)⟩
theorem lw_p4 : lw_okq (⟨"KnowsBetter", "isPerson", "(I)Z"⟩, 9) := ⟨⟨by decide +kernel, by decide +kernel⟩, List.mem_of_getElem? (i := 13) (by decide +kernel), List.mem_of_getElem? (i := 321) (by decide +kernel), List.mem_of_getElem? (i := 322) (by decide +kernel)⟩
theorem lw_p5 : lw_okq (⟨"KnowsBetter", "refusalToSay", "(III)I"⟩, 9) := ⟨⟨by decide +kernel, by decide +kernel⟩, List.mem_of_getElem? (i := 13) (by decide +kernel), List.mem_of_getElem? (i := 355) (by decide +kernel), List.mem_of_getElem? (i := 356) (by decide +kernel)⟩
theorem lw_p6 : lw_okq (⟨"KnowsBetter$Round", "firstBold", "(II)I"⟩, 2) := ⟨⟨by decide +kernel, by decide +kernel⟩, List.mem_of_getElem? (i := 72) (by decide +kernel), List.mem_of_getElem? (i := 397) (by decide +kernel), List.mem_of_getElem? (i := 398) (by decide +kernel)⟩
theorem lw_p7 : lw_okq (⟨"KnowsBetter$Round", "sitter", "(I)I"⟩, 2) := ⟨⟨by decide +kernel, by decide +kernel⟩, List.mem_of_getElem? (i := 72) (by decide +kernel), List.mem_of_getElem? (i := 401) (by decide +kernel), List.mem_of_getElem? (i := 402) (by decide +kernel)⟩
theorem lw_p8 : lw_okq (⟨"KnowsBetter$Round", "fineEach", "(I)V"⟩, 2) := ⟨⟨by decide +kernel, by decide +kernel⟩, List.mem_of_getElem? (i := 72) (by decide +kernel), List.mem_of_getElem? (i := 405) (by decide +kernel), List.mem_of_getElem? (i := 406) (by decide +kernel)⟩
theorem lw_p9 : lw_okq (⟨"KnowsBetter$Round", "fine", "(II)V"⟩, 2) := ⟨⟨by decide +kernel, by decide +kernel⟩, List.mem_of_getElem? (i := 72) (by decide +kernel), List.mem_of_getElem? (i := 415) (by decide +kernel), List.mem_of_getElem? (i := 416) (by decide +kernel)⟩
theorem lw_p10 : lw_okq (⟨"KnowsBetter$Round", "tellEach", "(II)V"⟩, 2) := ⟨⟨by decide +kernel, by decide +kernel⟩, List.mem_of_getElem? (i := 72) (by decide +kernel), List.mem_of_getElem? (i := 419) (by decide +kernel), List.mem_of_getElem? (i := 420) (by decide +kernel)⟩
theorem lw_p11 : lw_okq (⟨"KnowsBetter$Round", "member", "(II)I"⟩, 2) := ⟨⟨by decide +kernel, by decide +kernel⟩, List.mem_of_getElem? (i := 72) (by decide +kernel), List.mem_of_getElem? (i := 477) (by decide +kernel), List.mem_of_getElem? (i := 478) (by decide +kernel)⟩
theorem lw_p12 : lw_okq (⟨"KnowsBetter", "isPutRight", "(III)Z"⟩, 9) := ⟨⟨by decide +kernel, by decide +kernel⟩, List.mem_of_getElem? (i := 13) (by decide +kernel), List.mem_of_getElem? (i := 510) (by decide +kernel), List.mem_of_getElem? (i := 511) (by decide +kernel)⟩
theorem lw_p13 : lw_okq (⟨"KnowsBetter", "factsTogether", "(I)I"⟩, 9) := ⟨⟨by decide +kernel, by decide +kernel⟩, List.mem_of_getElem? (i := 13) (by decide +kernel), List.mem_of_getElem? (i := 518) (by decide +kernel), List.mem_of_getElem? (i := 519) (by decide +kernel)⟩
theorem lw_p14 : lw_okq (⟨"KnowsBetterModel", "readTable", "()I"⟩, 31) := ⟨⟨by decide +kernel, by decide +kernel⟩, List.mem_of_getElem? (i := 590) (by decide +kernel), List.mem_of_getElem? (i := 707) (by decide +kernel), List.mem_of_getElem? (i := 708) (by decide +kernel)⟩
theorem lw_p15 : lw_okq (⟨"KnowsBetterModel", "readPart", "()Z"⟩, 31) := ⟨⟨by decide +kernel, by decide +kernel⟩, List.mem_of_getElem? (i := 590) (by decide +kernel), List.mem_of_getElem? (i := 711) (by decide +kernel), List.mem_of_getElem? (i := 712) (by decide +kernel)⟩
def lw_privs_1 : List (MethodName × Nat) := [(⟨"KnowsBetter$Text", "fits", "(I)Z"⟩, 2), (⟨"KnowsBetter$Text", "startsPart", "(I)Z"⟩, 2), (⟨"KnowsBetter$Text", "partsAhead", "(II)I"⟩, 2), (⟨"KnowsBetter", "admit", "(I)V"⟩, 9), (⟨"KnowsBetter", "isPerson", "(I)Z"⟩, 9), (⟨"KnowsBetter", "refusalToSay", "(III)I"⟩, 9), (⟨"KnowsBetter$Round", "firstBold", "(II)I"⟩, 2), (⟨"KnowsBetter$Round", "sitter", "(I)I"⟩, 2), (⟨"KnowsBetter$Round", "fineEach", "(I)V"⟩, 2), (⟨"KnowsBetter$Round", "fine", "(II)V"⟩, 2), (⟨"KnowsBetter$Round", "tellEach", "(II)V"⟩, 2), (⟨"KnowsBetter$Round", "member", "(II)I"⟩, 2), (⟨"KnowsBetter", "isPutRight", "(III)Z"⟩, 9), (⟨"KnowsBetter", "factsTogether", "(I)I"⟩, 9), (⟨"KnowsBetterModel", "readTable", "()I"⟩, 31), (⟨"KnowsBetterModel", "readPart", "()Z"⟩, 31)]
theorem lw_r1 : ∀ q ∈ lw_privs_1, lw_okq q := List.forall_mem_cons.mpr ⟨lw_p0, List.forall_mem_cons.mpr ⟨lw_p1, List.forall_mem_cons.mpr ⟨lw_p2, List.forall_mem_cons.mpr ⟨lw_p3, List.forall_mem_cons.mpr ⟨lw_p4, List.forall_mem_cons.mpr ⟨lw_p5, List.forall_mem_cons.mpr ⟨lw_p6, List.forall_mem_cons.mpr ⟨lw_p7, List.forall_mem_cons.mpr ⟨lw_p8, List.forall_mem_cons.mpr ⟨lw_p9, List.forall_mem_cons.mpr ⟨lw_p10, List.forall_mem_cons.mpr ⟨lw_p11, List.forall_mem_cons.mpr ⟨lw_p12, List.forall_mem_cons.mpr ⟨lw_p13, List.forall_mem_cons.mpr ⟨lw_p14, List.forall_mem_cons.mpr ⟨lw_p15, fun _ h => absurd h List.not_mem_nil⟩⟩⟩⟩⟩⟩⟩⟩⟩⟩⟩⟩⟩⟩⟩⟩
theorem lw_p16 : lw_okq (⟨"KnowsBetterModel", "readPerson", "()Z"⟩, 31) := ⟨⟨by decide +kernel, by decide +kernel⟩, List.mem_of_getElem? (i := 590) (by decide +kernel), List.mem_of_getElem? (i := 715) (by decide +kernel), List.mem_of_getElem? (i := 716) (by decide +kernel)⟩
theorem lw_p17 : lw_okq (⟨"KnowsBetterModel", "sign", "(II)I"⟩, 31) := ⟨⟨by decide +kernel, by decide +kernel⟩, List.mem_of_getElem? (i := 590) (by decide +kernel), List.mem_of_getElem? (i := 719) (by decide +kernel), List.mem_of_getElem? (i := 720) (by decide +kernel)⟩
theorem lw_p18 : lw_okq (⟨"KnowsBetterModel", "readOne", "()Z"⟩, 31) := ⟨⟨by decide +kernel, by decide +kernel⟩, List.mem_of_getElem? (i := 590) (by decide +kernel), List.mem_of_getElem? (i := 723) (by decide +kernel), List.mem_of_getElem? (i := 724) (by decide +kernel)⟩
theorem lw_p19 : lw_okq (⟨"KnowsBetterModel", "closed", "(I)I"⟩, 31) := ⟨⟨by decide +kernel, by decide +kernel⟩, List.mem_of_getElem? (i := 590) (by decide +kernel), List.mem_of_getElem? (i := 735) (by decide +kernel), List.mem_of_getElem? (i := 736) (by decide +kernel)⟩
theorem lw_p20 : lw_okq (⟨"KnowsBetterModel", "finesOf", "([I)I"⟩, 31) := ⟨⟨by decide +kernel, by decide +kernel⟩, List.mem_of_getElem? (i := 590) (by decide +kernel), List.mem_of_getElem? (i := 742) (by decide +kernel), List.mem_of_getElem? (i := 743) (by decide +kernel)⟩
theorem lw_p21 : lw_okq (⟨"KnowsBetterModel", "noPerson", "(I)Z"⟩, 31) := ⟨⟨by decide +kernel, by decide +kernel⟩, List.mem_of_getElem? (i := 590) (by decide +kernel), List.mem_of_getElem? (i := 750) (by decide +kernel), List.mem_of_getElem? (i := 751) (by decide +kernel)⟩
theorem lw_p22 : lw_okq (⟨"KnowsBetterModel", "farOf", "([III)I"⟩, 31) := ⟨⟨by decide +kernel, by decide +kernel⟩, List.mem_of_getElem? (i := 590) (by decide +kernel), List.mem_of_getElem? (i := 758) (by decide +kernel), List.mem_of_getElem? (i := 759) (by decide +kernel)⟩
theorem lw_p23 : lw_okq (⟨"KnowsBetterModel", "note", "()V"⟩, 31) := ⟨⟨by decide +kernel, by decide +kernel⟩, List.mem_of_getElem? (i := 590) (by decide +kernel), List.mem_of_getElem? (i := 771) (by decide +kernel), List.mem_of_getElem? (i := 772) (by decide +kernel)⟩
theorem lw_p24 : lw_okq (⟨"KnowsBetterModel", "goSay", "([IIII)I"⟩, 31) := ⟨⟨by decide +kernel, by decide +kernel⟩, List.mem_of_getElem? (i := 590) (by decide +kernel), List.mem_of_getElem? (i := 775) (by decide +kernel), List.mem_of_getElem? (i := 776) (by decide +kernel)⟩
theorem lw_p25 : lw_okq (⟨"KnowsBetterModel", "knowersOf", "([IIII)I"⟩, 31) := ⟨⟨by decide +kernel, by decide +kernel⟩, List.mem_of_getElem? (i := 590) (by decide +kernel), List.mem_of_getElem? (i := 779) (by decide +kernel), List.mem_of_getElem? (i := 780) (by decide +kernel)⟩
theorem lw_p26 : lw_okq (⟨"KnowsBetterModel", "hears", "([IIII)Z"⟩, 31) := ⟨⟨by decide +kernel, by decide +kernel⟩, List.mem_of_getElem? (i := 590) (by decide +kernel), List.mem_of_getElem? (i := 783) (by decide +kernel), List.mem_of_getElem? (i := 784) (by decide +kernel)⟩
theorem lw_p27 : lw_okq (⟨"KnowsBetterModel", "corrector", "([III)I"⟩, 31) := ⟨⟨by decide +kernel, by decide +kernel⟩, List.mem_of_getElem? (i := 590) (by decide +kernel), List.mem_of_getElem? (i := 787) (by decide +kernel), List.mem_of_getElem? (i := 788) (by decide +kernel)⟩
theorem lw_p28 : lw_okq (⟨"KnowsBetterModel", "sitter", "([II)I"⟩, 31) := ⟨⟨by decide +kernel, by decide +kernel⟩, List.mem_of_getElem? (i := 590) (by decide +kernel), List.mem_of_getElem? (i := 791) (by decide +kernel), List.mem_of_getElem? (i := 792) (by decide +kernel)⟩
theorem lw_p29 : lw_okq (⟨"KnowsBetterModel", "hearersOf", "([III)I"⟩, 31) := ⟨⟨by decide +kernel, by decide +kernel⟩, List.mem_of_getElem? (i := 590) (by decide +kernel), List.mem_of_getElem? (i := 795) (by decide +kernel), List.mem_of_getElem? (i := 796) (by decide +kernel)⟩
theorem lw_p30 : lw_okq (⟨"KnowsBetterModel", "findSeats", "(IIIZ)V"⟩, 31) := ⟨⟨by decide +kernel, by decide +kernel⟩, List.mem_of_getElem? (i := 590) (by decide +kernel), List.mem_of_getElem? (i := 830) (by decide +kernel), List.mem_of_getElem? (i := 831) (by decide +kernel)⟩
theorem lw_p31 : lw_okq (⟨"KnowsBetterModel", "laySeats", "(I)Z"⟩, 31) := ⟨⟨by decide +kernel, by decide +kernel⟩, List.mem_of_getElem? (i := 590) (by decide +kernel), List.mem_of_getElem? (i := 837) (by decide +kernel), List.mem_of_getElem? (i := 838) (by decide +kernel)⟩
def lw_privs_2 : List (MethodName × Nat) := [(⟨"KnowsBetterModel", "readPerson", "()Z"⟩, 31), (⟨"KnowsBetterModel", "sign", "(II)I"⟩, 31), (⟨"KnowsBetterModel", "readOne", "()Z"⟩, 31), (⟨"KnowsBetterModel", "closed", "(I)I"⟩, 31), (⟨"KnowsBetterModel", "finesOf", "([I)I"⟩, 31), (⟨"KnowsBetterModel", "noPerson", "(I)Z"⟩, 31), (⟨"KnowsBetterModel", "farOf", "([III)I"⟩, 31), (⟨"KnowsBetterModel", "note", "()V"⟩, 31), (⟨"KnowsBetterModel", "goSay", "([IIII)I"⟩, 31), (⟨"KnowsBetterModel", "knowersOf", "([IIII)I"⟩, 31), (⟨"KnowsBetterModel", "hears", "([IIII)Z"⟩, 31), (⟨"KnowsBetterModel", "corrector", "([III)I"⟩, 31), (⟨"KnowsBetterModel", "sitter", "([II)I"⟩, 31), (⟨"KnowsBetterModel", "hearersOf", "([III)I"⟩, 31), (⟨"KnowsBetterModel", "findSeats", "(IIIZ)V"⟩, 31), (⟨"KnowsBetterModel", "laySeats", "(I)Z"⟩, 31)]
theorem lw_r2 : ∀ q ∈ lw_privs_2, lw_okq q := List.forall_mem_cons.mpr ⟨lw_p16, List.forall_mem_cons.mpr ⟨lw_p17, List.forall_mem_cons.mpr ⟨lw_p18, List.forall_mem_cons.mpr ⟨lw_p19, List.forall_mem_cons.mpr ⟨lw_p20, List.forall_mem_cons.mpr ⟨lw_p21, List.forall_mem_cons.mpr ⟨lw_p22, List.forall_mem_cons.mpr ⟨lw_p23, List.forall_mem_cons.mpr ⟨lw_p24, List.forall_mem_cons.mpr ⟨lw_p25, List.forall_mem_cons.mpr ⟨lw_p26, List.forall_mem_cons.mpr ⟨lw_p27, List.forall_mem_cons.mpr ⟨lw_p28, List.forall_mem_cons.mpr ⟨lw_p29, List.forall_mem_cons.mpr ⟨lw_p30, List.forall_mem_cons.mpr ⟨lw_p31, fun _ h => absurd h List.not_mem_nil⟩⟩⟩⟩⟩⟩⟩⟩⟩⟩⟩⟩⟩⟩⟩⟩
theorem lw_p32 : lw_okq (⟨"KnowsBetterModel", "begin", "()V"⟩, 31) := ⟨⟨by decide +kernel, by decide +kernel⟩, List.mem_of_getElem? (i := 590) (by decide +kernel), List.mem_of_getElem? (i := 841) (by decide +kernel), List.mem_of_getElem? (i := 842) (by decide +kernel)⟩
theorem lw_p33 : lw_okq (⟨"KnowsBetterModel", "findMinds", "()V"⟩, 31) := ⟨⟨by decide +kernel, by decide +kernel⟩, List.mem_of_getElem? (i := 590) (by decide +kernel), List.mem_of_getElem? (i := 883) (by decide +kernel), List.mem_of_getElem? (i := 884) (by decide +kernel)⟩
theorem lw_p34 : lw_okq (⟨"KnowsBetterModel", "findRests", "()V"⟩, 31) := ⟨⟨by decide +kernel, by decide +kernel⟩, List.mem_of_getElem? (i := 590) (by decide +kernel), List.mem_of_getElem? (i := 891) (by decide +kernel), List.mem_of_getElem? (i := 892) (by decide +kernel)⟩
def lw_privs_3 : List (MethodName × Nat) := [(⟨"KnowsBetterModel", "begin", "()V"⟩, 31), (⟨"KnowsBetterModel", "findMinds", "()V"⟩, 31), (⟨"KnowsBetterModel", "findRests", "()V"⟩, 31)]
theorem lw_r3 : ∀ q ∈ lw_privs_3, lw_okq q := List.forall_mem_cons.mpr ⟨lw_p32, List.forall_mem_cons.mpr ⟨lw_p33, List.forall_mem_cons.mpr ⟨lw_p34, fun _ h => absurd h List.not_mem_nil⟩⟩⟩
def lw_privs : List (MethodName × Nat) := lw_privs_1 ++ (lw_privs_2 ++ (lw_privs_3))
def lw_tbl : List Cond := k2_sels lw_privs ++ tables_1
theorem lw_privs_ok : ∀ q ∈ lw_privs, lw_okq q := by
  show ∀ q ∈ lw_privs_1 ++ (lw_privs_2 ++ (lw_privs_3)), lw_okq q
  exact List.forall_mem_append.mpr ⟨lw_r1, List.forall_mem_append.mpr ⟨lw_r2, lw_r3⟩⟩
def RX0 : String := "KnowsBetter$Acts"
def TX0 : u_T := fun k => match k with
  | 0 => ("KnowsBetter$Acts", "shelf", "LKnowsBetter$Shelf;", true)
  | 1 => ("KnowsBetter$Acts", "count", "I", false)
  | _ => ("KnowsBetter$Acts", "next", "I", false)
def tyX0 : Nat → FieldType := fun k => match k with
  | 0 => .object "KnowsBetter$Shelf"
  | 1 => .int
  | _ => .int
abbrev wsX00 : List Cond := u_ws RX0 TX0 3
theorem nmX0 : ∀ a, a < 3 → ∀ b, b < 3 → a ≠ b → (TX0 a).2.1 ≠ (TX0 b).2.1 := by decide +kernel
theorem tyX0_ok : ∀ k, k < 3 → parseFieldDescriptor (TX0 k).2.2.1 = some (tyX0 k) := by decide +kernel
abbrev cX0_init : ByteArray := prog_2_method_1_code
def yX0_init : MethodName := ⟨RX0, "<init>", "()V"⟩
abbrev cX0_count : ByteArray := prog_2_method_2_code
def yX0_count : MethodName := ⟨RX0, "count", "()I"⟩
abbrev cX0_clear : ByteArray := prog_2_method_3_code
def yX0_clear : MethodName := ⟨RX0, "clear", "()V"⟩
abbrev cX0_remember : ByteArray := prog_2_method_4_code
def yX0_remember : MethodName := ⟨RX0, "remember", "(LKnowsBetter$Round;)V"⟩
abbrev cX0_takeBack : ByteArray := prog_2_method_5_code
def yX0_takeBack : MethodName := ⟨RX0, "takeBack", "(LKnowsBetter$Round;)I"⟩
def RX1 : String := "KnowsBetter$Round"
def TX1 : u_T := fun k => match k with
  | 0 => ("KnowsBetter$Round", "table", "LKnowsBetter$Table;", true)
  | _ => ("KnowsBetter$Round", "cells", "LKnowsBetter$Row;", true)
def tyX1 : Nat → FieldType := fun k => match k with
  | 0 => .object "KnowsBetter$Table"
  | _ => .object "KnowsBetter$Row"
abbrev wsX10 : List Cond := u_ws RX1 TX1 2
theorem nmX1 : ∀ a, a < 2 → ∀ b, b < 2 → a ≠ b → (TX1 a).2.1 ≠ (TX1 b).2.1 := by decide +kernel
theorem tyX1_ok : ∀ k, k < 2 → parseFieldDescriptor (TX1 k).2.2.1 = some (tyX1 k) := by decide +kernel
abbrev cX1_init : ByteArray := prog_3_method_1_code
def yX1_init : MethodName := ⟨RX1, "<init>", "(LKnowsBetter$Table;)V"⟩
abbrev cX1_told : ByteArray := prog_3_method_2_code
def yX1_told : MethodName := ⟨RX1, "told", "(I)I"⟩
abbrev cX1_setTold : ByteArray := prog_3_method_3_code
def yX1_setTold : MethodName := ⟨RX1, "setTold", "(II)V"⟩
abbrev cX1_seat : ByteArray := prog_3_method_4_code
def yX1_seat : MethodName := ⟨RX1, "seat", "(I)I"⟩
abbrev cX1_setSeat : ByteArray := prog_3_method_5_code
def yX1_setSeat : MethodName := ⟨RX1, "setSeat", "(II)V"⟩
abbrev cX1_fines : ByteArray := prog_3_method_6_code
def yX1_fines : MethodName := ⟨RX1, "fines", "(I)I"⟩
abbrev cX1_fine : ByteArray := prog_3_method_7_code
def yX1_fine : MethodName := ⟨RX1, "fine", "(II)V"⟩
abbrev cX1_clear : ByteArray := prog_3_method_8_code
def yX1_clear : MethodName := ⟨RX1, "clear", "()V"⟩
abbrev cX1_become : ByteArray := prog_3_method_9_code
def yX1_become : MethodName := ⟨RX1, "become", "(LKnowsBetter$Round;)V"⟩
abbrev cX1_known : ByteArray := prog_3_method_10_code
def yX1_known : MethodName := ⟨RX1, "known", "(I)I"⟩
abbrev cX1_knownBySomebody : ByteArray := prog_3_method_11_code
def yX1_knownBySomebody : MethodName := ⟨RX1, "knownBySomebody", "()I"⟩
abbrev cX1_allFines : ByteArray := prog_3_method_12_code
def yX1_allFines : MethodName := ⟨RX1, "allFines", "()I"⟩
abbrev cX1_knowers : ByteArray := prog_3_method_13_code
def yX1_knowers : MethodName := ⟨RX1, "knowers", "(I)I"⟩
abbrev cX1_distance : ByteArray := prog_3_method_14_code
def yX1_distance : MethodName := ⟨RX1, "distance", "(II)I"⟩
abbrev cX1_ears : ByteArray := prog_3_method_15_code
def yX1_ears : MethodName := ⟨RX1, "ears", "(II)I"⟩
abbrev cX1_lie : ByteArray := prog_3_method_16_code
def yX1_lie : MethodName := ⟨RX1, "lie", "(III)I"⟩
abbrev cX1_firstBold : ByteArray := prog_3_method_17_code
def yX1_firstBold : MethodName := ⟨RX1, "firstBold", "(II)I"⟩
abbrev cX1_sitter : ByteArray := prog_3_method_18_code
def yX1_sitter : MethodName := ⟨RX1, "sitter", "(I)I"⟩
abbrev cX1_fineEach : ByteArray := prog_3_method_19_code
def yX1_fineEach : MethodName := ⟨RX1, "fineEach", "(I)V"⟩
abbrev cX1_tellEach : ByteArray := prog_3_method_20_code
def yX1_tellEach : MethodName := ⟨RX1, "tellEach", "(II)V"⟩
abbrev cX1_sitInOrder : ByteArray := prog_3_method_21_code
def yX1_sitInOrder : MethodName := ⟨RX1, "sitInOrder", "(I)V"⟩
abbrev cX1_member : ByteArray := prog_3_method_22_code
def yX1_member : MethodName := ⟨RX1, "member", "(II)I"⟩
abbrev cX1_seatFigures : ByteArray := prog_3_method_23_code
def yX1_seatFigures : MethodName := ⟨RX1, "seatFigures", "()I"⟩
def RX2 : String := "KnowsBetter$Row"
def TX2 : u_T := fun k => match k with
  | _ => ("KnowsBetter$Row", "cells", "[I", true)
def tyX2 : Nat → FieldType := fun k => match k with
  | _ => .array .int
abbrev wsX20 : List Cond := u_ws RX2 TX2 1
theorem nmX2 : ∀ a, a < 1 → ∀ b, b < 1 → a ≠ b → (TX2 a).2.1 ≠ (TX2 b).2.1 := by decide +kernel
theorem tyX2_ok : ∀ k, k < 1 → parseFieldDescriptor (TX2 k).2.2.1 = some (tyX2 k) := by decide +kernel
abbrev cX2_init : ByteArray := prog_4_method_1_code
def yX2_init : MethodName := ⟨RX2, "<init>", "(I)V"⟩
abbrev cX2_at : ByteArray := prog_4_method_2_code
def yX2_at : MethodName := ⟨RX2, "at", "(I)I"⟩
abbrev cX2_put : ByteArray := prog_4_method_3_code
def yX2_put : MethodName := ⟨RX2, "put", "(II)V"⟩
abbrev cX2_fill : ByteArray := prog_4_method_4_code
def yX2_fill : MethodName := ⟨RX2, "fill", "(I)V"⟩
abbrev cX2_copy : ByteArray := prog_4_method_5_code
def yX2_copy : MethodName := ⟨RX2, "copy", "(ILKnowsBetter$Row;II)V"⟩
def RX3 : String := "KnowsBetter$Seen"
def TX3 : u_T := fun k => match k with
  | 0 => ("KnowsBetter$Seen", "count", "I", false)
  | 1 => ("KnowsBetter$Seen", "spokenUp", "I", false)
  | _ => ("KnowsBetter$Seen", "passedOver", "I", false)
def tyX3 : Nat → FieldType := fun k => match k with
  | 0 => .int
  | 1 => .int
  | _ => .int
abbrev wsX30 : List Cond := u_ws RX3 TX3 3
theorem nmX3 : ∀ a, a < 3 → ∀ b, b < 3 → a ≠ b → (TX3 a).2.1 ≠ (TX3 b).2.1 := by decide +kernel
theorem tyX3_ok : ∀ k, k < 3 → parseFieldDescriptor (TX3 k).2.2.1 = some (tyX3 k) := by decide +kernel
abbrev cX3_init : ByteArray := prog_5_method_1_code
def yX3_init : MethodName := ⟨RX3, "<init>", "()V"⟩
abbrev cX3_count : ByteArray := prog_5_method_2_code
def yX3_count : MethodName := ⟨RX3, "count", "()I"⟩
abbrev cX3_add : ByteArray := prog_5_method_3_code
def yX3_add : MethodName := ⟨RX3, "add", "(IZ)I"⟩
abbrev cX3_clear : ByteArray := prog_5_method_4_code
def yX3_clear : MethodName := ⟨RX3, "clear", "()I"⟩
abbrev cX3_allows : ByteArray := prog_5_method_5_code
def yX3_allows : MethodName := ⟨RX3, "allows", "(I)Z"⟩
def RX4 : String := "KnowsBetter$Shelf"
def TX4 : u_T := fun k => match k with
  | _ => ("KnowsBetter$Shelf", "cells", "LKnowsBetter$Row;", true)
def tyX4 : Nat → FieldType := fun k => match k with
  | _ => .object "KnowsBetter$Row"
abbrev wsX40 : List Cond := u_ws RX4 TX4 1
theorem nmX4 : ∀ a, a < 1 → ∀ b, b < 1 → a ≠ b → (TX4 a).2.1 ≠ (TX4 b).2.1 := by decide +kernel
theorem tyX4_ok : ∀ k, k < 1 → parseFieldDescriptor (TX4 k).2.2.1 = some (tyX4 k) := by decide +kernel
abbrev cX4_init : ByteArray := prog_6_method_1_code
def yX4_init : MethodName := ⟨RX4, "<init>", "(I)V"⟩
abbrev cX4_store : ByteArray := prog_6_method_2_code
def yX4_store : MethodName := ⟨RX4, "store", "(ILKnowsBetter$Round;)V"⟩
abbrev cX4_fetch : ByteArray := prog_6_method_3_code
def yX4_fetch : MethodName := ⟨RX4, "fetch", "(ILKnowsBetter$Round;)V"⟩
def RX5 : String := "KnowsBetter$Table"
def TX5 : u_T := fun k => match k with
  | 0 => ("KnowsBetter$Table", "kinds", "LKnowsBetter$Row;", true)
  | 1 => ("KnowsBetter$Table", "needs", "LKnowsBetter$Row;", true)
  | 2 => ("KnowsBetter$Table", "gives", "LKnowsBetter$Row;", true)
  | 3 => ("KnowsBetter$Table", "people", "I", false)
  | _ => ("KnowsBetter$Table", "rules", "I", false)
def tyX5 : Nat → FieldType := fun k => match k with
  | 0 => .object "KnowsBetter$Row"
  | 1 => .object "KnowsBetter$Row"
  | 2 => .object "KnowsBetter$Row"
  | 3 => .int
  | _ => .int
abbrev wsX50 : List Cond := u_ws RX5 TX5 5
theorem nmX5 : ∀ a, a < 5 → ∀ b, b < 5 → a ≠ b → (TX5 a).2.1 ≠ (TX5 b).2.1 := by decide +kernel
theorem tyX5_ok : ∀ k, k < 5 → parseFieldDescriptor (TX5 k).2.2.1 = some (tyX5 k) := by decide +kernel
abbrev cX5_init : ByteArray := prog_7_method_1_code
def yX5_init : MethodName := ⟨RX5, "<init>", "()V"⟩
abbrev cX5_people : ByteArray := prog_7_method_2_code
def yX5_people : MethodName := ⟨RX5, "people", "()I"⟩
abbrev cX5_rules : ByteArray := prog_7_method_3_code
def yX5_rules : MethodName := ⟨RX5, "rules", "()I"⟩
abbrev cX5_kind : ByteArray := prog_7_method_4_code
def yX5_kind : MethodName := ⟨RX5, "kind", "(I)I"⟩
abbrev cX5_clear : ByteArray := prog_7_method_5_code
def yX5_clear : MethodName := ⟨RX5, "clear", "()V"⟩
abbrev cX5_addPerson : ByteArray := prog_7_method_6_code
def yX5_addPerson : MethodName := ⟨RX5, "addPerson", "(I)I"⟩
abbrev cX5_addRule : ByteArray := prog_7_method_7_code
def yX5_addRule : MethodName := ⟨RX5, "addRule", "(III)V"⟩
abbrev cX5_closure : ByteArray := prog_7_method_8_code
def yX5_closure : MethodName := ⟨RX5, "closure", "(I)I"⟩
def RX6 : String := "KnowsBetter$Text"
def TX6 : u_T := fun k => match k with
  | 0 => ("KnowsBetter$Text", "bytes", "LKnowsBetter$Row;", true)
  | _ => ("KnowsBetter$Text", "length", "I", false)
def tyX6 : Nat → FieldType := fun k => match k with
  | 0 => .object "KnowsBetter$Row"
  | _ => .int
abbrev wsX60 : List Cond := u_ws RX6 TX6 2
theorem nmX6 : ∀ a, a < 2 → ∀ b, b < 2 → a ≠ b → (TX6 a).2.1 ≠ (TX6 b).2.1 := by decide +kernel
theorem tyX6_ok : ∀ k, k < 2 → parseFieldDescriptor (TX6 k).2.2.1 = some (tyX6 k) := by decide +kernel
abbrev cX6_init : ByteArray := prog_8_method_1_code
def yX6_init : MethodName := ⟨RX6, "<init>", "()V"⟩
abbrev cX6_length : ByteArray := prog_8_method_2_code
def yX6_length : MethodName := ⟨RX6, "length", "()I"⟩
abbrev cX6_at : ByteArray := prog_8_method_3_code
def yX6_at : MethodName := ⟨RX6, "at", "(I)I"⟩
abbrev cX6_digit : ByteArray := prog_8_method_4_code
def yX6_digit : MethodName := ⟨RX6, "digit", "(I)I"⟩
abbrev cX6_letter : ByteArray := prog_8_method_5_code
def yX6_letter : MethodName := ⟨RX6, "letter", "(I)I"⟩
abbrev cX6_append : ByteArray := prog_8_method_6_code
def yX6_append : MethodName := ⟨RX6, "append", "(I)I"⟩
abbrev cX6_clear : ByteArray := prog_8_method_7_code
def yX6_clear : MethodName := ⟨RX6, "clear", "()I"⟩
abbrev cX6_firstFault : ByteArray := prog_8_method_8_code
def yX6_firstFault : MethodName := ⟨RX6, "firstFault", "()I"⟩
abbrev cX6_fits : ByteArray := prog_8_method_9_code
def yX6_fits : MethodName := ⟨RX6, "fits", "(I)Z"⟩
abbrev cX6_startsPart : ByteArray := prog_8_method_10_code
def yX6_startsPart : MethodName := ⟨RX6, "startsPart", "(I)Z"⟩
abbrev cX6_partsAhead : ByteArray := prog_8_method_11_code
def yX6_partsAhead : MethodName := ⟨RX6, "partsAhead", "(II)I"⟩
abbrev cX6_isBetween : ByteArray := prog_8_method_12_code
def yX6_isBetween : MethodName := ⟨RX6, "isBetween", "(II)Z"⟩
def RX7 : String := "KnowsBetter"
def TX7 : u_T := fun k => match k with
  | 0 => ("KnowsBetter", "text", "LKnowsBetter$Text;", true)
  | 1 => ("KnowsBetter", "table", "LKnowsBetter$Table;", true)
  | 2 => ("KnowsBetter", "now", "LKnowsBetter$Round;", true)
  | 3 => ("KnowsBetter", "draft", "LKnowsBetter$Round;", true)
  | 4 => ("KnowsBetter", "acts", "LKnowsBetter$Acts;", true)
  | 5 => ("KnowsBetter", "slots", "LKnowsBetter$Shelf;", true)
  | 6 => ("KnowsBetter", "seen", "LKnowsBetter$Seen;", true)
  | 7 => ("KnowsBetter", "filledSlots", "I", false)
  | _ => ("KnowsBetter", "chance", "J", false)
def tyX7 : Nat → FieldType := fun k => match k with
  | 0 => .object "KnowsBetter$Text"
  | 1 => .object "KnowsBetter$Table"
  | 2 => .object "KnowsBetter$Round"
  | 3 => .object "KnowsBetter$Round"
  | 4 => .object "KnowsBetter$Acts"
  | 5 => .object "KnowsBetter$Shelf"
  | 6 => .object "KnowsBetter$Seen"
  | 7 => .int
  | _ => .long
abbrev wsX70 : List Cond := u_ws RX7 TX7 9
theorem nmX7 : ∀ a, a < 9 → ∀ b, b < 9 → a ≠ b → (TX7 a).2.1 ≠ (TX7 b).2.1 := by decide +kernel
theorem tyX7_ok : ∀ k, k < 9 → parseFieldDescriptor (TX7 k).2.2.1 = some (tyX7 k) := by decide +kernel
abbrev cX7_init : ByteArray := prog_1_method_1_code
def yX7_init : MethodName := ⟨RX7, "<init>", "()V"⟩
abbrev cX7_write : ByteArray := prog_1_method_2_code
def yX7_write : MethodName := ⟨RX7, "write", "(I)I"⟩
abbrev cX7_wipe : ByteArray := prog_1_method_3_code
def yX7_wipe : MethodName := ⟨RX7, "wipe", "()I"⟩
abbrev cX7_fault : ByteArray := prog_1_method_4_code
def yX7_fault : MethodName := ⟨RX7, "fault", "()I"⟩
abbrev cX7_table : ByteArray := prog_1_method_5_code
def yX7_table : MethodName := ⟨RX7, "table", "()I"⟩
abbrev cX7_about : ByteArray := prog_1_method_6_code
def yX7_about : MethodName := ⟨RX7, "about", "(I)I"⟩
abbrev cX7_person : ByteArray := prog_1_method_7_code
def yX7_person : MethodName := ⟨RX7, "person", "(II)I"⟩
abbrev cX7_far : ByteArray := prog_1_method_8_code
def yX7_far : MethodName := ⟨RX7, "far", "(II)I"⟩
abbrev cX7_say : ByteArray := prog_1_method_9_code
def yX7_say : MethodName := ⟨RX7, "say", "(III)I"⟩
abbrev cX7_teach : ByteArray := prog_1_method_10_code
def yX7_teach : MethodName := ⟨RX7, "teach", "(II)I"⟩
abbrev cX7_forget : ByteArray := prog_1_method_11_code
def yX7_forget : MethodName := ⟨RX7, "forget", "(II)I"⟩
abbrev cX7_change : ByteArray := prog_1_method_12_code
def yX7_change : MethodName := ⟨RX7, "change", "(II)I"⟩
abbrev cX7_undo : ByteArray := prog_1_method_13_code
def yX7_undo : MethodName := ⟨RX7, "undo", "()I"⟩
abbrev cX7_hearers : ByteArray := prog_1_method_14_code
def yX7_hearers : MethodName := ⟨RX7, "hearers", "(II)I"⟩
abbrev cX7_safe : ByteArray := prog_1_method_15_code
def yX7_safe : MethodName := ⟨RX7, "safe", "(II)I"⟩
abbrev cX7_seating : ByteArray := prog_1_method_16_code
def yX7_seating : MethodName := ⟨RX7, "seating", "(IIIZZ)I"⟩
abbrev cX7_keepFrom : ByteArray := prog_1_method_17_code
def yX7_keepFrom : MethodName := ⟨RX7, "keepFrom", "(II)I"⟩
abbrev cX7_learn : ByteArray := prog_1_method_18_code
def yX7_learn : MethodName := ⟨RX7, "learn", "(II)I"⟩
abbrev cX7_judge : ByteArray := prog_1_method_19_code
def yX7_judge : MethodName := ⟨RX7, "judge", "(II)I"⟩
abbrev cX7_share : ByteArray := prog_1_method_20_code
def yX7_share : MethodName := ⟨RX7, "share", "(IZ)I"⟩
abbrev cX7_see : ByteArray := prog_1_method_21_code
def yX7_see : MethodName := ⟨RX7, "see", "(II)I"⟩
abbrev cX7_unsee : ByteArray := prog_1_method_22_code
def yX7_unsee : MethodName := ⟨RX7, "unsee", "()I"⟩
abbrev cX7_minds : ByteArray := prog_1_method_23_code
def yX7_minds : MethodName := ⟨RX7, "minds", "(I)I"⟩
abbrev cX7_rests : ByteArray := prog_1_method_24_code
def yX7_rests : MethodName := ⟨RX7, "rests", "(I)I"⟩
abbrev cX7_deaf : ByteArray := prog_1_method_25_code
def yX7_deaf : MethodName := ⟨RX7, "deaf", "(IIIIZ)I"⟩
abbrev cX7_seed : ByteArray := prog_1_method_26_code
def yX7_seed : MethodName := ⟨RX7, "seed", "(J)J"⟩
abbrev cX7_evenings : ByteArray := prog_1_method_27_code
def yX7_evenings : MethodName := ⟨RX7, "evenings", "(I)I"⟩
abbrev cX7_keep : ByteArray := prog_1_method_28_code
def yX7_keep : MethodName := ⟨RX7, "keep", "(I)I"⟩
abbrev cX7_again : ByteArray := prog_1_method_29_code
def yX7_again : MethodName := ⟨RX7, "again", "(I)I"⟩
abbrev cX7_isPerson : ByteArray := prog_1_method_30_code
def yX7_isPerson : MethodName := ⟨RX7, "isPerson", "(I)Z"⟩
abbrev cX7_isFact : ByteArray := prog_1_method_31_code
def yX7_isFact : MethodName := ⟨RX7, "isFact", "(I)Z"⟩
abbrev cX7_isVoice : ByteArray := prog_1_method_32_code
def yX7_isVoice : MethodName := ⟨RX7, "isVoice", "(I)Z"⟩
abbrev cX7_isSlot : ByteArray := prog_1_method_33_code
def yX7_isSlot : MethodName := ⟨RX7, "isSlot", "(I)Z"⟩
abbrev cX7_refusalToSay : ByteArray := prog_1_method_34_code
def yX7_refusalToSay : MethodName := ⟨RX7, "refusalToSay", "(III)I"⟩
abbrev cX7_admit : ByteArray := prog_1_method_35_code
def yX7_admit : MethodName := ⟨RX7, "admit", "(I)V"⟩
abbrev cX7_isPutRight : ByteArray := prog_1_method_36_code
def yX7_isPutRight : MethodName := ⟨RX7, "isPutRight", "(III)Z"⟩
abbrev cX7_factsTogether : ByteArray := prog_1_method_37_code
def yX7_factsTogether : MethodName := ⟨RX7, "factsTogether", "(I)I"⟩
abbrev cX7_isBestWait : ByteArray := prog_1_method_38_code
def yX7_isBestWait : MethodName := ⟨RX7, "isBestWait", "(II)Z"⟩
abbrev cX7_waitCost : ByteArray := prog_1_method_39_code
def yX7_waitCost : MethodName := ⟨RX7, "waitCost", "(II)I"⟩
abbrev cX7_contains : ByteArray := prog_1_method_40_code
def yX7_contains : MethodName := ⟨RX7, "contains", "(II)Z"⟩
abbrev cX7_isSmaller : ByteArray := prog_1_method_41_code
def yX7_isSmaller : MethodName := ⟨RX7, "isSmaller", "(II)Z"⟩
abbrev cX7_factorial : ByteArray := prog_1_method_42_code
def yX7_factorial : MethodName := ⟨RX7, "factorial", "(I)I"⟩
abbrev cX7_power : ByteArray := prog_1_method_43_code
def yX7_power : MethodName := ⟨RX7, "power", "(II)I"⟩
abbrev cX7_thousands : ByteArray := prog_1_method_44_code
def yX7_thousands : MethodName := ⟨RX7, "thousands", "(I)I"⟩
abbrev cX7_lowestTerm : ByteArray := prog_1_method_45_code
def yX7_lowestTerm : MethodName := ⟨RX7, "lowestTerm", "(IIZ)I"⟩
abbrev cX7_commonDivisor : ByteArray := prog_1_method_46_code
def yX7_commonDivisor : MethodName := ⟨RX7, "commonDivisor", "(II)I"⟩
def RX8 : String := "KnowsBetterModel"
def TX8 : u_T := fun k => match k with
  | 0 => ("KnowsBetterModel", "thrown", "I", false)
  | 1 => ("KnowsBetterModel", "text", "[I", true)
  | 2 => ("KnowsBetterModel", "textSize", "I", false)
  | 3 => ("KnowsBetterModel", "place", "I", false)
  | 4 => ("KnowsBetterModel", "people", "I", false)
  | 5 => ("KnowsBetterModel", "kind", "[I", true)
  | 6 => ("KnowsBetterModel", "rules", "I", false)
  | 7 => ("KnowsBetterModel", "rule", "[I", true)
  | 8 => ("KnowsBetterModel", "readPeople", "I", false)
  | 9 => ("KnowsBetterModel", "readKind", "[I", true)
  | 10 => ("KnowsBetterModel", "readTold", "[I", true)
  | 11 => ("KnowsBetterModel", "readRules", "I", false)
  | 12 => ("KnowsBetterModel", "readRule", "[I", true)
  | 13 => ("KnowsBetterModel", "page", "[I", true)
  | 14 => ("KnowsBetterModel", "trial", "[I", true)
  | 15 => ("KnowsBetterModel", "book", "[I", true)
  | 16 => ("KnowsBetterModel", "acts", "I", false)
  | 17 => ("KnowsBetterModel", "kept", "[I", true)
  | 18 => ("KnowsBetterModel", "isKept", "[Z", true)
  | 19 => ("KnowsBetterModel", "seen", "I", false)
  | 20 => ("KnowsBetterModel", "seenFact", "[I", true)
  | 21 => ("KnowsBetterModel", "seenSpoke", "[I", true)
  | 22 => ("KnowsBetterModel", "seed", "J", false)
  | 23 => ("KnowsBetterModel", "seatMany", "I", false)
  | 24 => ("KnowsBetterModel", "seatFigures", "I", false)
  | 25 => ("KnowsBetterModel", "mindMany", "I", false)
  | 26 => ("KnowsBetterModel", "mindAll", "I", false)
  | 27 => ("KnowsBetterModel", "mindSome", "I", false)
  | 28 => ("KnowsBetterModel", "restMany", "I", false)
  | 29 => ("KnowsBetterModel", "restFirst", "I", false)
  | _ => ("KnowsBetterModel", "value", "[I", true)
def tyX8 : Nat → FieldType := fun k => match k with
  | 0 => .int
  | 1 => .array .int
  | 2 => .int
  | 3 => .int
  | 4 => .int
  | 5 => .array .int
  | 6 => .int
  | 7 => .array .int
  | 8 => .int
  | 9 => .array .int
  | 10 => .array .int
  | 11 => .int
  | 12 => .array .int
  | 13 => .array .int
  | 14 => .array .int
  | 15 => .array .int
  | 16 => .int
  | 17 => .array .int
  | 18 => .array .boolean
  | 19 => .int
  | 20 => .array .int
  | 21 => .array .int
  | 22 => .long
  | 23 => .int
  | 24 => .int
  | 25 => .int
  | 26 => .int
  | 27 => .int
  | 28 => .int
  | 29 => .int
  | _ => .array .int
abbrev wsX80 : List Cond := u_ws RX8 TX8 31
theorem nmX8 : ∀ a, a < 31 → ∀ b, b < 31 → a ≠ b → (TX8 a).2.1 ≠ (TX8 b).2.1 := by decide +kernel
theorem tyX8_ok : ∀ k, k < 31 → parseFieldDescriptor (TX8 k).2.2.1 = some (tyX8 k) := by decide +kernel
abbrev cX8_init : ByteArray := prog_10_method_1_code
def yX8_init : MethodName := ⟨RX8, "<init>", "()V"⟩
abbrev cX8_in : ByteArray := prog_10_method_3_code
def yX8_in : MethodName := ⟨RX8, "in", "(JJJ)Z"⟩
abbrev cX8_has : ByteArray := prog_10_method_4_code
def yX8_has : MethodName := ⟨RX8, "has", "(II)Z"⟩
abbrev cX8_many : ByteArray := prog_10_method_5_code
def yX8_many : MethodName := ⟨RX8, "many", "(I)I"⟩
abbrev cX8_noPerson : ByteArray := prog_10_method_6_code
def yX8_noPerson : MethodName := ⟨RX8, "noPerson", "(I)Z"⟩
abbrev cX8_noFact : ByteArray := prog_10_method_7_code
def yX8_noFact : MethodName := ⟨RX8, "noFact", "(I)Z"⟩
abbrev cX8_write : ByteArray := prog_10_method_8_code
def yX8_write : MethodName := ⟨RX8, "write", "(I)I"⟩
abbrev cX8_wipe : ByteArray := prog_10_method_9_code
def yX8_wipe : MethodName := ⟨RX8, "wipe", "()I"⟩
abbrev cX8_sign : ByteArray := prog_10_method_10_code
def yX8_sign : MethodName := ⟨RX8, "sign", "(II)I"⟩
abbrev cX8_readPerson : ByteArray := prog_10_method_11_code
def yX8_readPerson : MethodName := ⟨RX8, "readPerson", "()Z"⟩
abbrev cX8_readOne : ByteArray := prog_10_method_12_code
def yX8_readOne : MethodName := ⟨RX8, "readOne", "()Z"⟩
abbrev cX8_readPart : ByteArray := prog_10_method_13_code
def yX8_readPart : MethodName := ⟨RX8, "readPart", "()Z"⟩
abbrev cX8_readTable : ByteArray := prog_10_method_14_code
def yX8_readTable : MethodName := ⟨RX8, "readTable", "()I"⟩
abbrev cX8_fault : ByteArray := prog_10_method_15_code
def yX8_fault : MethodName := ⟨RX8, "fault", "()I"⟩
abbrev cX8_table : ByteArray := prog_10_method_16_code
def yX8_table : MethodName := ⟨RX8, "table", "()I"⟩
abbrev cX8_closed : ByteArray := prog_10_method_17_code
def yX8_closed : MethodName := ⟨RX8, "closed", "(I)I"⟩
abbrev cX8_farOf : ByteArray := prog_10_method_18_code
def yX8_farOf : MethodName := ⟨RX8, "farOf", "([III)I"⟩
abbrev cX8_hears : ByteArray := prog_10_method_19_code
def yX8_hears : MethodName := ⟨RX8, "hears", "([IIII)Z"⟩
abbrev cX8_hearersOf : ByteArray := prog_10_method_20_code
def yX8_hearersOf : MethodName := ⟨RX8, "hearersOf", "([III)I"⟩
abbrev cX8_knowersOf : ByteArray := prog_10_method_21_code
def yX8_knowersOf : MethodName := ⟨RX8, "knowersOf", "([IIII)I"⟩
abbrev cX8_finesOf : ByteArray := prog_10_method_22_code
def yX8_finesOf : MethodName := ⟨RX8, "finesOf", "([I)I"⟩
abbrev cX8_about : ByteArray := prog_10_method_23_code
def yX8_about : MethodName := ⟨RX8, "about", "(I)I"⟩
abbrev cX8_person : ByteArray := prog_10_method_24_code
def yX8_person : MethodName := ⟨RX8, "person", "(II)I"⟩
abbrev cX8_far : ByteArray := prog_10_method_25_code
def yX8_far : MethodName := ⟨RX8, "far", "(II)I"⟩
abbrev cX8_note : ByteArray := prog_10_method_26_code
def yX8_note : MethodName := ⟨RX8, "note", "()V"⟩
abbrev cX8_sitter : ByteArray := prog_10_method_27_code
def yX8_sitter : MethodName := ⟨RX8, "sitter", "([II)I"⟩
abbrev cX8_corrector : ByteArray := prog_10_method_28_code
def yX8_corrector : MethodName := ⟨RX8, "corrector", "([III)I"⟩
abbrev cX8_goSay : ByteArray := prog_10_method_29_code
def yX8_goSay : MethodName := ⟨RX8, "goSay", "([IIII)I"⟩
abbrev cX8_say : ByteArray := prog_10_method_30_code
def yX8_say : MethodName := ⟨RX8, "say", "(III)I"⟩
abbrev cX8_teach : ByteArray := prog_10_method_31_code
def yX8_teach : MethodName := ⟨RX8, "teach", "(II)I"⟩
abbrev cX8_forget : ByteArray := prog_10_method_32_code
def yX8_forget : MethodName := ⟨RX8, "forget", "(II)I"⟩
abbrev cX8_change : ByteArray := prog_10_method_33_code
def yX8_change : MethodName := ⟨RX8, "change", "(II)I"⟩
abbrev cX8_undo : ByteArray := prog_10_method_34_code
def yX8_undo : MethodName := ⟨RX8, "undo", "()I"⟩
abbrev cX8_hearers : ByteArray := prog_10_method_35_code
def yX8_hearers : MethodName := ⟨RX8, "hearers", "(II)I"⟩
abbrev cX8_safe : ByteArray := prog_10_method_36_code
def yX8_safe : MethodName := ⟨RX8, "safe", "(II)I"⟩
abbrev cX8_begin : ByteArray := prog_10_method_37_code
def yX8_begin : MethodName := ⟨RX8, "begin", "()V"⟩
abbrev cX8_power : ByteArray := prog_10_method_38_code
def yX8_power : MethodName := ⟨RX8, "power", "(II)I"⟩
abbrev cX8_laySeats : ByteArray := prog_10_method_39_code
def yX8_laySeats : MethodName := ⟨RX8, "laySeats", "(I)Z"⟩
abbrev cX8_findSeats : ByteArray := prog_10_method_40_code
def yX8_findSeats : MethodName := ⟨RX8, "findSeats", "(IIIZ)V"⟩
abbrev cX8_seating : ByteArray := prog_10_method_41_code
def yX8_seating : MethodName := ⟨RX8, "seating", "(IIIZZ)I"⟩
abbrev cX8_keepFrom : ByteArray := prog_10_method_42_code
def yX8_keepFrom : MethodName := ⟨RX8, "keepFrom", "(II)I"⟩
abbrev cX8_learn : ByteArray := prog_10_method_43_code
def yX8_learn : MethodName := ⟨RX8, "learn", "(II)I"⟩
abbrev cX8_judge : ByteArray := prog_10_method_44_code
def yX8_judge : MethodName := ⟨RX8, "judge", "(II)I"⟩
abbrev cX8_ways : ByteArray := prog_10_method_45_code
def yX8_ways : MethodName := ⟨RX8, "ways", "(I)I"⟩
abbrev cX8_divisor : ByteArray := prog_10_method_46_code
def yX8_divisor : MethodName := ⟨RX8, "divisor", "(II)I"⟩
abbrev cX8_fraction : ByteArray := prog_10_method_47_code
def yX8_fraction : MethodName := ⟨RX8, "fraction", "(IIZ)I"⟩
abbrev cX8_share : ByteArray := prog_10_method_48_code
def yX8_share : MethodName := ⟨RX8, "share", "(IZ)I"⟩
abbrev cX8_see : ByteArray := prog_10_method_49_code
def yX8_see : MethodName := ⟨RX8, "see", "(II)I"⟩
abbrev cX8_unsee : ByteArray := prog_10_method_50_code
def yX8_unsee : MethodName := ⟨RX8, "unsee", "()I"⟩
abbrev cX8_findMinds : ByteArray := prog_10_method_51_code
def yX8_findMinds : MethodName := ⟨RX8, "findMinds", "()V"⟩
abbrev cX8_minds : ByteArray := prog_10_method_52_code
def yX8_minds : MethodName := ⟨RX8, "minds", "(I)I"⟩
abbrev cX8_pays : ByteArray := prog_10_method_53_code
def yX8_pays : MethodName := ⟨RX8, "pays", "(II)I"⟩
abbrev cX8_findRests : ByteArray := prog_10_method_54_code
def yX8_findRests : MethodName := ⟨RX8, "findRests", "()V"⟩
abbrev cX8_rests : ByteArray := prog_10_method_55_code
def yX8_rests : MethodName := ⟨RX8, "rests", "(I)I"⟩
abbrev cX8_deaf : ByteArray := prog_10_method_56_code
def yX8_deaf : MethodName := ⟨RX8, "deaf", "(IIIIZ)I"⟩
abbrev cX8_seed : ByteArray := prog_10_method_57_code
def yX8_seed : MethodName := ⟨RX8, "seed", "(J)J"⟩
abbrev cX8_evenings : ByteArray := prog_10_method_58_code
def yX8_evenings : MethodName := ⟨RX8, "evenings", "(I)I"⟩
abbrev cX8_keep : ByteArray := prog_10_method_59_code
def yX8_keep : MethodName := ⟨RX8, "keep", "(I)I"⟩
abbrev cX8_again : ByteArray := prog_10_method_60_code
def yX8_again : MethodName := ⟨RX8, "again", "(I)I"⟩
def RJ6 : String := "java/lang/Integer"
abbrev cJ6_bitCount_0f7a4 : ByteArray := prog_11_method_49_code
def yJ6_bitCount_0f7a4 : MethodName := ⟨RJ6, "bitCount", "(I)I"⟩
def RJ9 : String := "java/lang/Math"
abbrev cJ9_abs_0f7a4 : ByteArray := prog_12_method_59_code
def yJ9_abs_0f7a4 : MethodName := ⟨RJ9, "abs", "(I)I"⟩
abbrev cJ9_max_7cf53 : ByteArray := prog_12_method_65_code
def yJ9_max_7cf53 : MethodName := ⟨RJ9, "max", "(II)I"⟩
abbrev cJ9_min_7cf53 : ByteArray := prog_12_method_69_code
def yJ9_min_7cf53 : MethodName := ⟨RJ9, "min", "(II)I"⟩
def RL : String := "KnowsBetterLaw"
abbrev cL_law : ByteArray := code
def yL_law : MethodName := ⟨RL, "law", "([I)Z"⟩
abbrev vwCl : List vw_C := [(RX0, TX0, 3), (RX1, TX1, 2), (RX2, TX2, 1), (RX3, TX3, 3), (RX4, TX4, 1), (RX5, TX5, 5), (RX6, TX6, 2), (RX7, TX7, 9), (RX8, TX8, 31)]
def mBG : List Cond := lw_tbl.filter goodWord
theorem mBG_in {w : Cond} (h : w ∈ lw_tbl) (hg : goodWord w = true) : w ∈ mBG := List.mem_filter.mpr ⟨h, hg⟩
theorem mem_tb {w : Cond} (h : w ∈ tables_1) (hg : goodWord w = true) : w ∈ mBG := mBG_in (List.mem_append_right _ h) hg
theorem mem_t1 {w : Cond} {i : Nat} (h : tables_1_1[i]? = some w) (hg : goodWord w = true) : w ∈ mBG := mem_tb (List.mem_append_left _ (List.mem_of_getElem? h)) hg
theorem mem_t2 {w : Cond} {i : Nat} (h : tables_1_2[i]? = some w) (hg : goodWord w = true) : w ∈ mBG := mem_tb (List.mem_append_right _ (List.mem_append_left _ (List.mem_of_getElem? h))) hg
theorem mem_t3 {w : Cond} {i : Nat} (h : tables_1_3[i]? = some w) (hg : goodWord w = true) : w ∈ mBG := mem_tb (List.mem_append_right _ (List.mem_append_right _ (List.mem_append_left _ (List.mem_of_getElem? h)))) hg
theorem mem_t4 {w : Cond} {i : Nat} (h : tables_1_4[i]? = some w) (hg : goodWord w = true) : w ∈ mBG := mem_tb (List.mem_append_right _ (List.mem_append_right _ (List.mem_append_right _ (List.mem_of_getElem? h)))) hg
theorem mem_p1 {w : Cond} {i : Nat} (h : (lw_privs_1.map fun q => Cond.selects q.1.cls q.1 q.1)[i]? = some w) (hg : goodWord w = true) : w ∈ mBG := mBG_in (List.mem_append_left _ (by unfold k2_sels lw_privs; rw [List.map_append]; exact List.mem_append_left _ (List.mem_of_getElem? h))) hg
theorem mem_p2 {w : Cond} {i : Nat} (h : (lw_privs_2.map fun q => Cond.selects q.1.cls q.1 q.1)[i]? = some w) (hg : goodWord w = true) : w ∈ mBG := mBG_in (List.mem_append_left _ (by unfold k2_sels lw_privs; rw [List.map_append, List.map_append]; exact List.mem_append_right _ (List.mem_append_left _ (List.mem_of_getElem? h)))) hg
theorem mem_p3 {w : Cond} {i : Nat} (h : (lw_privs_3.map fun q => Cond.selects q.1.cls q.1 q.1)[i]? = some w) (hg : goodWord w = true) : w ∈ mBG := mBG_in (List.mem_append_left _ (by unfold k2_sels lw_privs; rw [List.map_append, List.map_append]; exact List.mem_append_right _ (List.mem_append_right _ (List.mem_of_getElem? h)))) hg
end
section
theorem tw_1_0 : (Jvm.Cond.initialized "KnowsBetterLaw") ∈ mBG := mem_t1 (i := 0) rfl rfl
theorem tw_1_1 : (Jvm.Cond.initialized "KnowsBetter") ∈ mBG := mem_t1 (i := 1) rfl rfl
theorem tw_1_2 : (Jvm.Cond.initialized "KnowsBetter$Table") ∈ mBG := mem_t1 (i := 2) rfl rfl
theorem tw_1_3 : (Jvm.Cond.initialized "KnowsBetter$Row") ∈ mBG := mem_t1 (i := 3) rfl rfl
theorem tw_1_4 : (Jvm.Cond.initialized "java/lang/Math") ∈ mBG := mem_t1 (i := 4) rfl rfl
theorem tw_1_5 : (Jvm.Cond.initialized "KnowsBetter$Text") ∈ mBG := mem_t1 (i := 5) rfl rfl
theorem tw_1_6 : (Jvm.Cond.initialized "KnowsBetter$Round") ∈ mBG := mem_t1 (i := 6) rfl rfl
theorem tw_1_7 : (Jvm.Cond.initialized "KnowsBetter$Acts") ∈ mBG := mem_t1 (i := 7) rfl rfl
theorem tw_1_8 : (Jvm.Cond.initialized "KnowsBetter$Shelf") ∈ mBG := mem_t1 (i := 8) rfl rfl
theorem tw_1_9 : (Jvm.Cond.initialized "KnowsBetter$Seen") ∈ mBG := mem_t1 (i := 9) rfl rfl
theorem tw_1_10 : (Jvm.Cond.initialized "KnowsBetterModel") ∈ mBG := mem_t1 (i := 10) rfl rfl
theorem tw_1_11 : (Jvm.Cond.initialized "java/lang/Integer") ∈ mBG := mem_t1 (i := 11) rfl rfl
theorem tw_1_12 : (Jvm.Cond.classLink "KnowsBetterLaw" (7 : Nat) "KnowsBetter") ∈ mBG := mem_t1 (i := 12) rfl rfl
theorem tw_1_13 : (Jvm.Cond.instantiable "KnowsBetter" (9 : Nat)) ∈ mBG := mem_t1 (i := 13) rfl rfl
theorem tw_1_14 : (Jvm.Cond.methodLink "KnowsBetterLaw" (9 : Nat) ({ cls := "KnowsBetter", name := "<init>", desc := "()V" } : Jvm.MethodName)) ∈ mBG := mem_t1 (i := 14) rfl rfl
theorem tw_1_15 : (Jvm.Cond.instanceMethod ({ cls := "KnowsBetter", name := "<init>", desc := "()V" } : Jvm.MethodName)) ∈ mBG := mem_t1 (i := 15) rfl rfl
theorem tw_1_16 : (Jvm.Cond.code ({ cls := "KnowsBetter", name := "<init>", desc := "()V" } : Jvm.MethodName) prog_1_method_1_code (2 : Nat) (Option.none : Option Jvm.ClassFile.FieldType)) ∈ mBG := mem_t1 (i := 16) rfl rfl
theorem tw_1_17 : (Jvm.Cond.methodLink "KnowsBetter" (1 : Nat) ({ cls := "java/lang/Object", name := "<init>", desc := "()V" } : Jvm.MethodName)) ∈ mBG := mem_t1 (i := 17) rfl rfl
theorem tw_1_18 : (Jvm.Cond.instanceMethod ({ cls := "java/lang/Object", name := "<init>", desc := "()V" } : Jvm.MethodName)) ∈ mBG := mem_t1 (i := 18) rfl rfl
theorem tw_1_19 : (Jvm.Cond.code ({ cls := "java/lang/Object", name := "<init>", desc := "()V" } : Jvm.MethodName) object_method_1_code (1 : Nat) (Option.none : Option Jvm.ClassFile.FieldType)) ∈ mBG := mem_t1 (i := 19) rfl rfl
theorem tw_1_20 : (Jvm.Cond.classLink "KnowsBetter" (7 : Nat) "KnowsBetter$Table") ∈ mBG := mem_t1 (i := 20) rfl rfl
theorem tw_1_21 : (Jvm.Cond.instantiable "KnowsBetter$Table" (5 : Nat)) ∈ mBG := mem_t1 (i := 21) rfl rfl
theorem tw_1_23 : (Jvm.Cond.instanceMethod ({ cls := "KnowsBetter$Table", name := "<init>", desc := "()V" } : Jvm.MethodName)) ∈ mBG := mem_t1 (i := 23) rfl rfl
theorem tw_1_24 : (Jvm.Cond.code ({ cls := "KnowsBetter$Table", name := "<init>", desc := "()V" } : Jvm.MethodName) prog_7_method_1_code (1 : Nat) (Option.none : Option Jvm.ClassFile.FieldType)) ∈ mBG := mem_t1 (i := 24) rfl rfl
theorem tw_1_25 : (Jvm.Cond.methodLink "KnowsBetter$Table" (3 : Nat) ({ cls := "java/lang/Object", name := "<init>", desc := "()V" } : Jvm.MethodName)) ∈ mBG := mem_t1 (i := 25) rfl rfl
theorem tw_1_26 : (Jvm.Cond.classLink "KnowsBetter$Table" (9 : Nat) "KnowsBetter$Row") ∈ mBG := mem_t1 (i := 26) rfl rfl
theorem tw_1_27 : (Jvm.Cond.instantiable "KnowsBetter$Row" (1 : Nat)) ∈ mBG := mem_t1 (i := 27) rfl rfl
theorem tw_1_28 : (Jvm.Cond.methodLink "KnowsBetter$Table" (11 : Nat) ({ cls := "KnowsBetter$Row", name := "<init>", desc := "(I)V" } : Jvm.MethodName)) ∈ mBG := mem_t1 (i := 28) rfl rfl
theorem tw_1_29 : (Jvm.Cond.instanceMethod ({ cls := "KnowsBetter$Row", name := "<init>", desc := "(I)V" } : Jvm.MethodName)) ∈ mBG := mem_t1 (i := 29) rfl rfl
theorem tw_1_30 : (Jvm.Cond.code ({ cls := "KnowsBetter$Row", name := "<init>", desc := "(I)V" } : Jvm.MethodName) prog_4_method_1_code (2 : Nat) (Option.none : Option Jvm.ClassFile.FieldType)) ∈ mBG := mem_t1 (i := 30) rfl rfl
theorem tw_1_31 : (Jvm.Cond.methodLink "KnowsBetter$Row" (1 : Nat) ({ cls := "java/lang/Object", name := "<init>", desc := "()V" } : Jvm.MethodName)) ∈ mBG := mem_t1 (i := 31) rfl rfl
theorem tw_1_32 : (Jvm.Cond.methodLink "KnowsBetter$Row" (7 : Nat) ({ cls := "java/lang/Math", name := "max", desc := "(II)I" } : Jvm.MethodName)) ∈ mBG := mem_t1 (i := 32) rfl rfl
theorem tw_1_33 : (Jvm.Cond.static ({ cls := "java/lang/Math", name := "max", desc := "(II)I" } : Jvm.MethodName)) ∈ mBG := mem_t1 (i := 33) rfl rfl
theorem tw_1_34 : (Jvm.Cond.code ({ cls := "java/lang/Math", name := "max", desc := "(II)I" } : Jvm.MethodName) prog_12_method_65_code (2 : Nat) (Option.some Jvm.ClassFile.FieldType.int)) ∈ mBG := mem_t1 (i := 34) rfl rfl
theorem tw_1_35 : (Jvm.Cond.fieldLink "KnowsBetter$Row" (13 : Nat) "KnowsBetter$Row" "cells" "[I") ∈ mBG := mem_t1 (i := 35) rfl rfl
theorem tw_1_36 : (Jvm.Cond.laysFinal "KnowsBetter$Row" "KnowsBetter$Row" "cells" "[I") ∈ mBG := mem_t1 (i := 36) rfl rfl
theorem tw_1_39 : (Jvm.Cond.arrayClass Jvm.ClassFile.FieldType.int) ∈ mBG := mem_t1 (i := 39) rfl rfl
theorem tw_1_40 : (Jvm.Cond.fieldLink "KnowsBetter$Table" (14 : Nat) "KnowsBetter$Table" "kinds" "LKnowsBetter$Row;") ∈ mBG := mem_t1 (i := 40) rfl rfl
theorem tw_1_41 : (Jvm.Cond.fieldLink "KnowsBetter$Table" (20 : Nat) "KnowsBetter$Table" "needs" "LKnowsBetter$Row;") ∈ mBG := mem_t1 (i := 41) rfl rfl
theorem tw_1_42 : (Jvm.Cond.fieldLink "KnowsBetter$Table" (23 : Nat) "KnowsBetter$Table" "gives" "LKnowsBetter$Row;") ∈ mBG := mem_t1 (i := 42) rfl rfl
theorem tw_1_43 : (Jvm.Cond.fieldLink "KnowsBetter$Table" (26 : Nat) "KnowsBetter$Table" "people" "I") ∈ mBG := mem_t1 (i := 43) rfl rfl
theorem tw_1_44 : (Jvm.Cond.fieldLink "KnowsBetter$Table" (30 : Nat) "KnowsBetter$Table" "rules" "I") ∈ mBG := mem_t1 (i := 44) rfl rfl
theorem tw_1_45 : (Jvm.Cond.laysFinal "KnowsBetter$Table" "KnowsBetter$Table" "kinds" "LKnowsBetter$Row;") ∈ mBG := mem_t1 (i := 45) rfl rfl
theorem tw_1_47 : (Jvm.Cond.laysFinal "KnowsBetter$Table" "KnowsBetter$Table" "needs" "LKnowsBetter$Row;") ∈ mBG := mem_t1 (i := 47) rfl rfl
theorem tw_1_49 : (Jvm.Cond.laysFinal "KnowsBetter$Table" "KnowsBetter$Table" "gives" "LKnowsBetter$Row;") ∈ mBG := mem_t1 (i := 49) rfl rfl
theorem tw_1_51 : (Jvm.Cond.lays "KnowsBetter$Table" "KnowsBetter$Table" "people" "I") ∈ mBG := mem_t1 (i := 51) rfl rfl
theorem tw_1_53 : (Jvm.Cond.lays "KnowsBetter$Table" "KnowsBetter$Table" "rules" "I") ∈ mBG := mem_t1 (i := 53) rfl rfl
theorem tw_1_56 : (Jvm.Cond.classLink "KnowsBetter" (10 : Nat) "KnowsBetter$Text") ∈ mBG := mem_t1 (i := 56) rfl rfl
theorem tw_1_57 : (Jvm.Cond.instantiable "KnowsBetter$Text" (2 : Nat)) ∈ mBG := mem_t1 (i := 57) rfl rfl
theorem tw_1_59 : (Jvm.Cond.instanceMethod ({ cls := "KnowsBetter$Text", name := "<init>", desc := "()V" } : Jvm.MethodName)) ∈ mBG := mem_t1 (i := 59) rfl rfl
theorem tw_1_60 : (Jvm.Cond.code ({ cls := "KnowsBetter$Text", name := "<init>", desc := "()V" } : Jvm.MethodName) prog_8_method_1_code (1 : Nat) (Option.none : Option Jvm.ClassFile.FieldType)) ∈ mBG := mem_t1 (i := 60) rfl rfl
theorem tw_1_61 : (Jvm.Cond.methodLink "KnowsBetter$Text" (3 : Nat) ({ cls := "java/lang/Object", name := "<init>", desc := "()V" } : Jvm.MethodName)) ∈ mBG := mem_t1 (i := 61) rfl rfl
theorem tw_1_62 : (Jvm.Cond.classLink "KnowsBetter$Text" (9 : Nat) "KnowsBetter$Row") ∈ mBG := mem_t1 (i := 62) rfl rfl
theorem tw_1_63 : (Jvm.Cond.methodLink "KnowsBetter$Text" (11 : Nat) ({ cls := "KnowsBetter$Row", name := "<init>", desc := "(I)V" } : Jvm.MethodName)) ∈ mBG := mem_t1 (i := 63) rfl rfl
theorem tw_1_64 : (Jvm.Cond.fieldLink "KnowsBetter$Text" (14 : Nat) "KnowsBetter$Text" "bytes" "LKnowsBetter$Row;") ∈ mBG := mem_t1 (i := 64) rfl rfl
theorem tw_1_65 : (Jvm.Cond.fieldLink "KnowsBetter$Text" (20 : Nat) "KnowsBetter$Text" "length" "I") ∈ mBG := mem_t1 (i := 65) rfl rfl
theorem tw_1_66 : (Jvm.Cond.laysFinal "KnowsBetter$Text" "KnowsBetter$Text" "bytes" "LKnowsBetter$Row;") ∈ mBG := mem_t1 (i := 66) rfl rfl
theorem tw_1_68 : (Jvm.Cond.lays "KnowsBetter$Text" "KnowsBetter$Text" "length" "I") ∈ mBG := mem_t1 (i := 68) rfl rfl
theorem tw_1_71 : (Jvm.Cond.classLink "KnowsBetter" (23 : Nat) "KnowsBetter$Round") ∈ mBG := mem_t1 (i := 71) rfl rfl
theorem tw_1_72 : (Jvm.Cond.instantiable "KnowsBetter$Round" (2 : Nat)) ∈ mBG := mem_t1 (i := 72) rfl rfl
theorem tw_1_73 : (Jvm.Cond.methodLink "KnowsBetter" (25 : Nat) ({ cls := "KnowsBetter$Round", name := "<init>", desc := "(LKnowsBetter$Table;)V" } : Jvm.MethodName)) ∈ mBG := mem_t1 (i := 73) rfl rfl
theorem tw_1_74 : (Jvm.Cond.instanceMethod ({ cls := "KnowsBetter$Round", name := "<init>", desc := "(LKnowsBetter$Table;)V" } : Jvm.MethodName)) ∈ mBG := mem_t1 (i := 74) rfl rfl
theorem tw_1_75 : (Jvm.Cond.code ({ cls := "KnowsBetter$Round", name := "<init>", desc := "(LKnowsBetter$Table;)V" } : Jvm.MethodName) prog_3_method_1_code (2 : Nat) (Option.none : Option Jvm.ClassFile.FieldType)) ∈ mBG := mem_t1 (i := 75) rfl rfl
theorem tw_1_76 : (Jvm.Cond.methodLink "KnowsBetter$Round" (3 : Nat) ({ cls := "java/lang/Object", name := "<init>", desc := "()V" } : Jvm.MethodName)) ∈ mBG := mem_t1 (i := 76) rfl rfl
theorem tw_1_77 : (Jvm.Cond.classLink "KnowsBetter$Round" (9 : Nat) "KnowsBetter$Row") ∈ mBG := mem_t1 (i := 77) rfl rfl
theorem tw_1_78 : (Jvm.Cond.methodLink "KnowsBetter$Round" (13 : Nat) ({ cls := "KnowsBetter$Row", name := "<init>", desc := "(I)V" } : Jvm.MethodName)) ∈ mBG := mem_t1 (i := 78) rfl rfl
theorem tw_1_79 : (Jvm.Cond.fieldLink "KnowsBetter$Round" (20 : Nat) "KnowsBetter$Round" "table" "LKnowsBetter$Table;") ∈ mBG := mem_t1 (i := 79) rfl rfl
theorem tw_1_80 : (Jvm.Cond.fieldLink "KnowsBetter$Round" (16 : Nat) "KnowsBetter$Round" "cells" "LKnowsBetter$Row;") ∈ mBG := mem_t1 (i := 80) rfl rfl
theorem tw_1_82 : (Jvm.Cond.laysFinal "KnowsBetter$Round" "KnowsBetter$Round" "table" "LKnowsBetter$Table;") ∈ mBG := mem_t1 (i := 82) rfl rfl
theorem tw_1_84 : (Jvm.Cond.laysFinal "KnowsBetter$Round" "KnowsBetter$Round" "cells" "LKnowsBetter$Row;") ∈ mBG := mem_t1 (i := 84) rfl rfl
theorem tw_1_87 : (Jvm.Cond.classLink "KnowsBetter" (35 : Nat) "KnowsBetter$Acts") ∈ mBG := mem_t1 (i := 87) rfl rfl
theorem tw_1_88 : (Jvm.Cond.instantiable "KnowsBetter$Acts" (3 : Nat)) ∈ mBG := mem_t1 (i := 88) rfl rfl
theorem tw_1_90 : (Jvm.Cond.instanceMethod ({ cls := "KnowsBetter$Acts", name := "<init>", desc := "()V" } : Jvm.MethodName)) ∈ mBG := mem_t1 (i := 90) rfl rfl
theorem tw_1_91 : (Jvm.Cond.code ({ cls := "KnowsBetter$Acts", name := "<init>", desc := "()V" } : Jvm.MethodName) prog_2_method_1_code (1 : Nat) (Option.none : Option Jvm.ClassFile.FieldType)) ∈ mBG := mem_t1 (i := 91) rfl rfl
theorem tw_1_92 : (Jvm.Cond.methodLink "KnowsBetter$Acts" (3 : Nat) ({ cls := "java/lang/Object", name := "<init>", desc := "()V" } : Jvm.MethodName)) ∈ mBG := mem_t1 (i := 92) rfl rfl
theorem tw_1_93 : (Jvm.Cond.classLink "KnowsBetter$Acts" (9 : Nat) "KnowsBetter$Shelf") ∈ mBG := mem_t1 (i := 93) rfl rfl
theorem tw_1_94 : (Jvm.Cond.instantiable "KnowsBetter$Shelf" (1 : Nat)) ∈ mBG := mem_t1 (i := 94) rfl rfl
theorem tw_1_95 : (Jvm.Cond.methodLink "KnowsBetter$Acts" (11 : Nat) ({ cls := "KnowsBetter$Shelf", name := "<init>", desc := "(I)V" } : Jvm.MethodName)) ∈ mBG := mem_t1 (i := 95) rfl rfl
theorem tw_1_96 : (Jvm.Cond.instanceMethod ({ cls := "KnowsBetter$Shelf", name := "<init>", desc := "(I)V" } : Jvm.MethodName)) ∈ mBG := mem_t1 (i := 96) rfl rfl
theorem tw_1_97 : (Jvm.Cond.code ({ cls := "KnowsBetter$Shelf", name := "<init>", desc := "(I)V" } : Jvm.MethodName) prog_6_method_1_code (2 : Nat) (Option.none : Option Jvm.ClassFile.FieldType)) ∈ mBG := mem_t1 (i := 97) rfl rfl
theorem tw_1_98 : (Jvm.Cond.methodLink "KnowsBetter$Shelf" (1 : Nat) ({ cls := "java/lang/Object", name := "<init>", desc := "()V" } : Jvm.MethodName)) ∈ mBG := mem_t1 (i := 98) rfl rfl
theorem tw_1_99 : (Jvm.Cond.classLink "KnowsBetter$Shelf" (7 : Nat) "KnowsBetter$Row") ∈ mBG := mem_t1 (i := 99) rfl rfl
theorem tw_1_100 : (Jvm.Cond.methodLink "KnowsBetter$Shelf" (11 : Nat) ({ cls := "KnowsBetter$Row", name := "<init>", desc := "(I)V" } : Jvm.MethodName)) ∈ mBG := mem_t1 (i := 100) rfl rfl
theorem tw_1_101 : (Jvm.Cond.fieldLink "KnowsBetter$Shelf" (14 : Nat) "KnowsBetter$Shelf" "cells" "LKnowsBetter$Row;") ∈ mBG := mem_t1 (i := 101) rfl rfl
theorem tw_1_102 : (Jvm.Cond.laysFinal "KnowsBetter$Shelf" "KnowsBetter$Shelf" "cells" "LKnowsBetter$Row;") ∈ mBG := mem_t1 (i := 102) rfl rfl
theorem tw_1_105 : (Jvm.Cond.fieldLink "KnowsBetter$Acts" (14 : Nat) "KnowsBetter$Acts" "shelf" "LKnowsBetter$Shelf;") ∈ mBG := mem_t1 (i := 105) rfl rfl
theorem tw_1_106 : (Jvm.Cond.fieldLink "KnowsBetter$Acts" (20 : Nat) "KnowsBetter$Acts" "count" "I") ∈ mBG := mem_t1 (i := 106) rfl rfl
theorem tw_1_107 : (Jvm.Cond.fieldLink "KnowsBetter$Acts" (24 : Nat) "KnowsBetter$Acts" "next" "I") ∈ mBG := mem_t1 (i := 107) rfl rfl
theorem tw_1_108 : (Jvm.Cond.laysFinal "KnowsBetter$Acts" "KnowsBetter$Acts" "shelf" "LKnowsBetter$Shelf;") ∈ mBG := mem_t1 (i := 108) rfl rfl
theorem tw_1_110 : (Jvm.Cond.lays "KnowsBetter$Acts" "KnowsBetter$Acts" "count" "I") ∈ mBG := mem_t1 (i := 110) rfl rfl
theorem tw_1_112 : (Jvm.Cond.lays "KnowsBetter$Acts" "KnowsBetter$Acts" "next" "I") ∈ mBG := mem_t1 (i := 112) rfl rfl
theorem tw_1_115 : (Jvm.Cond.classLink "KnowsBetter" (42 : Nat) "KnowsBetter$Shelf") ∈ mBG := mem_t1 (i := 115) rfl rfl
theorem tw_1_116 : (Jvm.Cond.methodLink "KnowsBetter" (44 : Nat) ({ cls := "KnowsBetter$Shelf", name := "<init>", desc := "(I)V" } : Jvm.MethodName)) ∈ mBG := mem_t1 (i := 116) rfl rfl
theorem tw_1_117 : (Jvm.Cond.classLink "KnowsBetter" (51 : Nat) "KnowsBetter$Seen") ∈ mBG := mem_t1 (i := 117) rfl rfl
theorem tw_1_118 : (Jvm.Cond.instantiable "KnowsBetter$Seen" (3 : Nat)) ∈ mBG := mem_t1 (i := 118) rfl rfl
theorem tw_1_120 : (Jvm.Cond.instanceMethod ({ cls := "KnowsBetter$Seen", name := "<init>", desc := "()V" } : Jvm.MethodName)) ∈ mBG := mem_t1 (i := 120) rfl rfl
theorem tw_1_121 : (Jvm.Cond.code ({ cls := "KnowsBetter$Seen", name := "<init>", desc := "()V" } : Jvm.MethodName) prog_5_method_1_code (1 : Nat) (Option.none : Option Jvm.ClassFile.FieldType)) ∈ mBG := mem_t1 (i := 121) rfl rfl
theorem tw_1_122 : (Jvm.Cond.methodLink "KnowsBetter$Seen" (3 : Nat) ({ cls := "java/lang/Object", name := "<init>", desc := "()V" } : Jvm.MethodName)) ∈ mBG := mem_t1 (i := 122) rfl rfl
theorem tw_1_123 : (Jvm.Cond.fieldLink "KnowsBetter$Seen" (9 : Nat) "KnowsBetter$Seen" "count" "I") ∈ mBG := mem_t1 (i := 123) rfl rfl
theorem tw_1_124 : (Jvm.Cond.fieldLink "KnowsBetter$Seen" (15 : Nat) "KnowsBetter$Seen" "spokenUp" "I") ∈ mBG := mem_t1 (i := 124) rfl rfl
theorem tw_1_125 : (Jvm.Cond.fieldLink "KnowsBetter$Seen" (18 : Nat) "KnowsBetter$Seen" "passedOver" "I") ∈ mBG := mem_t1 (i := 125) rfl rfl
theorem tw_1_126 : (Jvm.Cond.lays "KnowsBetter$Seen" "KnowsBetter$Seen" "count" "I") ∈ mBG := mem_t1 (i := 126) rfl rfl
theorem tw_1_128 : (Jvm.Cond.lays "KnowsBetter$Seen" "KnowsBetter$Seen" "spokenUp" "I") ∈ mBG := mem_t1 (i := 128) rfl rfl
theorem tw_1_130 : (Jvm.Cond.lays "KnowsBetter$Seen" "KnowsBetter$Seen" "passedOver" "I") ∈ mBG := mem_t1 (i := 130) rfl rfl
theorem tw_1_133 : (Jvm.Cond.fieldLink "KnowsBetter" (13 : Nat) "KnowsBetter" "text" "LKnowsBetter$Text;") ∈ mBG := mem_t1 (i := 133) rfl rfl
theorem tw_1_134 : (Jvm.Cond.fieldLink "KnowsBetter" (19 : Nat) "KnowsBetter" "table" "LKnowsBetter$Table;") ∈ mBG := mem_t1 (i := 134) rfl rfl
theorem tw_1_135 : (Jvm.Cond.fieldLink "KnowsBetter" (28 : Nat) "KnowsBetter" "now" "LKnowsBetter$Round;") ∈ mBG := mem_t1 (i := 135) rfl rfl
theorem tw_1_136 : (Jvm.Cond.fieldLink "KnowsBetter" (32 : Nat) "KnowsBetter" "draft" "LKnowsBetter$Round;") ∈ mBG := mem_t1 (i := 136) rfl rfl
theorem tw_1_137 : (Jvm.Cond.fieldLink "KnowsBetter" (38 : Nat) "KnowsBetter" "acts" "LKnowsBetter$Acts;") ∈ mBG := mem_t1 (i := 137) rfl rfl
theorem tw_1_138 : (Jvm.Cond.fieldLink "KnowsBetter" (47 : Nat) "KnowsBetter" "slots" "LKnowsBetter$Shelf;") ∈ mBG := mem_t1 (i := 138) rfl rfl
theorem tw_1_139 : (Jvm.Cond.fieldLink "KnowsBetter" (54 : Nat) "KnowsBetter" "seen" "LKnowsBetter$Seen;") ∈ mBG := mem_t1 (i := 139) rfl rfl
theorem tw_1_140 : (Jvm.Cond.fieldLink "KnowsBetter" (89 : Nat) "KnowsBetter" "filledSlots" "I") ∈ mBG := mem_t1 (i := 140) rfl rfl
theorem tw_1_141 : (Jvm.Cond.fieldLink "KnowsBetter" (223 : Nat) "KnowsBetter" "chance" "J") ∈ mBG := mem_t1 (i := 141) rfl rfl
theorem tw_1_142 : (Jvm.Cond.laysFinal "KnowsBetter" "KnowsBetter" "text" "LKnowsBetter$Text;") ∈ mBG := mem_t1 (i := 142) rfl rfl
theorem tw_1_144 : (Jvm.Cond.laysFinal "KnowsBetter" "KnowsBetter" "table" "LKnowsBetter$Table;") ∈ mBG := mem_t1 (i := 144) rfl rfl
theorem tw_1_146 : (Jvm.Cond.laysFinal "KnowsBetter" "KnowsBetter" "now" "LKnowsBetter$Round;") ∈ mBG := mem_t1 (i := 146) rfl rfl
theorem tw_1_148 : (Jvm.Cond.laysFinal "KnowsBetter" "KnowsBetter" "draft" "LKnowsBetter$Round;") ∈ mBG := mem_t1 (i := 148) rfl rfl
theorem tw_1_150 : (Jvm.Cond.laysFinal "KnowsBetter" "KnowsBetter" "acts" "LKnowsBetter$Acts;") ∈ mBG := mem_t1 (i := 150) rfl rfl
theorem tw_1_152 : (Jvm.Cond.laysFinal "KnowsBetter" "KnowsBetter" "slots" "LKnowsBetter$Shelf;") ∈ mBG := mem_t1 (i := 152) rfl rfl
theorem tw_1_154 : (Jvm.Cond.laysFinal "KnowsBetter" "KnowsBetter" "seen" "LKnowsBetter$Seen;") ∈ mBG := mem_t1 (i := 154) rfl rfl
theorem tw_1_156 : (Jvm.Cond.lays "KnowsBetter" "KnowsBetter" "filledSlots" "I") ∈ mBG := mem_t1 (i := 156) rfl rfl
theorem tw_1_158 : (Jvm.Cond.lays "KnowsBetter" "KnowsBetter" "chance" "J") ∈ mBG := mem_t1 (i := 158) rfl rfl
theorem tw_1_161 : (Jvm.Cond.methodLink "KnowsBetterLaw" (13 : Nat) ({ cls := "KnowsBetter", name := "write", desc := "(I)I" } : Jvm.MethodName)) ∈ mBG := mem_t1 (i := 161) rfl rfl
theorem tw_1_162 : (Jvm.Cond.instanceMethod ({ cls := "KnowsBetter", name := "write", desc := "(I)I" } : Jvm.MethodName)) ∈ mBG := mem_t1 (i := 162) rfl rfl
theorem tw_1_163 : (Jvm.Cond.selects "KnowsBetter" ({ cls := "KnowsBetter", name := "write", desc := "(I)I" } : Jvm.MethodName) ({ cls := "KnowsBetter", name := "write", desc := "(I)I" } : Jvm.MethodName)) ∈ mBG := mem_t1 (i := 163) rfl rfl
theorem tw_1_164 : (Jvm.Cond.code ({ cls := "KnowsBetter", name := "write", desc := "(I)I" } : Jvm.MethodName) prog_1_method_2_code (2 : Nat) (Option.some Jvm.ClassFile.FieldType.int)) ∈ mBG := mem_t1 (i := 164) rfl rfl
theorem tw_1_165 : (Jvm.Cond.methodLink "KnowsBetter" (58 : Nat) ({ cls := "KnowsBetter$Text", name := "append", desc := "(I)I" } : Jvm.MethodName)) ∈ mBG := mem_t1 (i := 165) rfl rfl
theorem tw_1_166 : (Jvm.Cond.instanceMethod ({ cls := "KnowsBetter$Text", name := "append", desc := "(I)I" } : Jvm.MethodName)) ∈ mBG := mem_t1 (i := 166) rfl rfl
theorem tw_1_167 : (Jvm.Cond.selects "KnowsBetter$Text" ({ cls := "KnowsBetter$Text", name := "append", desc := "(I)I" } : Jvm.MethodName) ({ cls := "KnowsBetter$Text", name := "append", desc := "(I)I" } : Jvm.MethodName)) ∈ mBG := mem_t1 (i := 167) rfl rfl
theorem tw_1_168 : (Jvm.Cond.code ({ cls := "KnowsBetter$Text", name := "append", desc := "(I)I" } : Jvm.MethodName) prog_8_method_6_code (2 : Nat) (Option.some Jvm.ClassFile.FieldType.int)) ∈ mBG := mem_t1 (i := 168) rfl rfl
theorem tw_1_169 : (Jvm.Cond.methodLink "KnowsBetter$Text" (28 : Nat) ({ cls := "KnowsBetter$Row", name := "put", desc := "(II)V" } : Jvm.MethodName)) ∈ mBG := mem_t1 (i := 169) rfl rfl
theorem tw_1_170 : (Jvm.Cond.instanceMethod ({ cls := "KnowsBetter$Row", name := "put", desc := "(II)V" } : Jvm.MethodName)) ∈ mBG := mem_t1 (i := 170) rfl rfl
theorem tw_1_171 : (Jvm.Cond.selects "KnowsBetter$Row" ({ cls := "KnowsBetter$Row", name := "put", desc := "(II)V" } : Jvm.MethodName) ({ cls := "KnowsBetter$Row", name := "put", desc := "(II)V" } : Jvm.MethodName)) ∈ mBG := mem_t1 (i := 171) rfl rfl
theorem tw_1_172 : (Jvm.Cond.code ({ cls := "KnowsBetter$Row", name := "put", desc := "(II)V" } : Jvm.MethodName) prog_4_method_3_code (3 : Nat) (Option.none : Option Jvm.ClassFile.FieldType)) ∈ mBG := mem_t1 (i := 172) rfl rfl
theorem tw_1_173 : (Jvm.Cond.methodLink "KnowsBetterLaw" (18 : Nat) ({ cls := "KnowsBetter", name := "wipe", desc := "()I" } : Jvm.MethodName)) ∈ mBG := mem_t1 (i := 173) rfl rfl
theorem tw_1_174 : (Jvm.Cond.instanceMethod ({ cls := "KnowsBetter", name := "wipe", desc := "()I" } : Jvm.MethodName)) ∈ mBG := mem_t1 (i := 174) rfl rfl
theorem tw_1_175 : (Jvm.Cond.selects "KnowsBetter" ({ cls := "KnowsBetter", name := "wipe", desc := "()I" } : Jvm.MethodName) ({ cls := "KnowsBetter", name := "wipe", desc := "()I" } : Jvm.MethodName)) ∈ mBG := mem_t1 (i := 175) rfl rfl
theorem tw_1_176 : (Jvm.Cond.code ({ cls := "KnowsBetter", name := "wipe", desc := "()I" } : Jvm.MethodName) prog_1_method_3_code (1 : Nat) (Option.some Jvm.ClassFile.FieldType.int)) ∈ mBG := mem_t1 (i := 176) rfl rfl
theorem tw_1_177 : (Jvm.Cond.methodLink "KnowsBetter" (62 : Nat) ({ cls := "KnowsBetter$Text", name := "clear", desc := "()I" } : Jvm.MethodName)) ∈ mBG := mem_t1 (i := 177) rfl rfl
theorem tw_1_178 : (Jvm.Cond.instanceMethod ({ cls := "KnowsBetter$Text", name := "clear", desc := "()I" } : Jvm.MethodName)) ∈ mBG := mem_t1 (i := 178) rfl rfl
theorem tw_1_179 : (Jvm.Cond.selects "KnowsBetter$Text" ({ cls := "KnowsBetter$Text", name := "clear", desc := "()I" } : Jvm.MethodName) ({ cls := "KnowsBetter$Text", name := "clear", desc := "()I" } : Jvm.MethodName)) ∈ mBG := mem_t1 (i := 179) rfl rfl
theorem tw_1_180 : (Jvm.Cond.code ({ cls := "KnowsBetter$Text", name := "clear", desc := "()I" } : Jvm.MethodName) prog_8_method_7_code (2 : Nat) (Option.some Jvm.ClassFile.FieldType.int)) ∈ mBG := mem_t1 (i := 180) rfl rfl
theorem tw_1_181 : (Jvm.Cond.methodLink "KnowsBetterLaw" (23 : Nat) ({ cls := "KnowsBetter", name := "fault", desc := "()I" } : Jvm.MethodName)) ∈ mBG := mem_t1 (i := 181) rfl rfl
theorem tw_1_182 : (Jvm.Cond.instanceMethod ({ cls := "KnowsBetter", name := "fault", desc := "()I" } : Jvm.MethodName)) ∈ mBG := mem_t1 (i := 182) rfl rfl
theorem tw_1_183 : (Jvm.Cond.selects "KnowsBetter" ({ cls := "KnowsBetter", name := "fault", desc := "()I" } : Jvm.MethodName) ({ cls := "KnowsBetter", name := "fault", desc := "()I" } : Jvm.MethodName)) ∈ mBG := mem_t1 (i := 183) rfl rfl
theorem tw_1_184 : (Jvm.Cond.code ({ cls := "KnowsBetter", name := "fault", desc := "()I" } : Jvm.MethodName) prog_1_method_4_code (1 : Nat) (Option.some Jvm.ClassFile.FieldType.int)) ∈ mBG := mem_t1 (i := 184) rfl rfl
theorem tw_1_185 : (Jvm.Cond.methodLink "KnowsBetter" (66 : Nat) ({ cls := "KnowsBetter$Text", name := "firstFault", desc := "()I" } : Jvm.MethodName)) ∈ mBG := mem_t1 (i := 185) rfl rfl
theorem tw_1_186 : (Jvm.Cond.instanceMethod ({ cls := "KnowsBetter$Text", name := "firstFault", desc := "()I" } : Jvm.MethodName)) ∈ mBG := mem_t1 (i := 186) rfl rfl
theorem tw_1_187 : (Jvm.Cond.selects "KnowsBetter$Text" ({ cls := "KnowsBetter$Text", name := "firstFault", desc := "()I" } : Jvm.MethodName) ({ cls := "KnowsBetter$Text", name := "firstFault", desc := "()I" } : Jvm.MethodName)) ∈ mBG := mem_t1 (i := 187) rfl rfl
theorem tw_1_188 : (Jvm.Cond.code ({ cls := "KnowsBetter$Text", name := "firstFault", desc := "()I" } : Jvm.MethodName) prog_8_method_8_code (2 : Nat) (Option.some Jvm.ClassFile.FieldType.int)) ∈ mBG := mem_t1 (i := 188) rfl rfl
theorem tw_1_189 : (Jvm.Cond.methodLink "KnowsBetter$Text" (32 : Nat) ({ cls := "KnowsBetter$Text", name := "fits", desc := "(I)Z" } : Jvm.MethodName)) ∈ mBG := mem_t1 (i := 189) rfl rfl
theorem tw_1_191 : (Jvm.Cond.instanceMethod ({ cls := "KnowsBetter$Text", name := "fits", desc := "(I)Z" } : Jvm.MethodName)) ∈ mBG := mem_t1 (i := 191) rfl rfl
theorem tw_1_192 : (Jvm.Cond.code ({ cls := "KnowsBetter$Text", name := "fits", desc := "(I)Z" } : Jvm.MethodName) prog_8_method_9_code (3 : Nat) (Option.some Jvm.ClassFile.FieldType.boolean)) ∈ mBG := mem_t1 (i := 192) rfl rfl
theorem tw_1_193 : (Jvm.Cond.methodLink "KnowsBetter$Text" (36 : Nat) ({ cls := "KnowsBetter$Text", name := "at", desc := "(I)I" } : Jvm.MethodName)) ∈ mBG := mem_t1 (i := 193) rfl rfl
theorem tw_1_194 : (Jvm.Cond.instanceMethod ({ cls := "KnowsBetter$Text", name := "at", desc := "(I)I" } : Jvm.MethodName)) ∈ mBG := mem_t1 (i := 194) rfl rfl
theorem tw_1_195 : (Jvm.Cond.selects "KnowsBetter$Text" ({ cls := "KnowsBetter$Text", name := "at", desc := "(I)I" } : Jvm.MethodName) ({ cls := "KnowsBetter$Text", name := "at", desc := "(I)I" } : Jvm.MethodName)) ∈ mBG := mem_t1 (i := 195) rfl rfl
theorem tw_1_196 : (Jvm.Cond.code ({ cls := "KnowsBetter$Text", name := "at", desc := "(I)I" } : Jvm.MethodName) prog_8_method_3_code (2 : Nat) (Option.some Jvm.ClassFile.FieldType.int)) ∈ mBG := mem_t1 (i := 196) rfl rfl
theorem tw_1_197 : (Jvm.Cond.methodLink "KnowsBetter$Text" (24 : Nat) ({ cls := "KnowsBetter$Row", name := "at", desc := "(I)I" } : Jvm.MethodName)) ∈ mBG := mem_t1 (i := 197) rfl rfl
theorem tw_1_198 : (Jvm.Cond.instanceMethod ({ cls := "KnowsBetter$Row", name := "at", desc := "(I)I" } : Jvm.MethodName)) ∈ mBG := mem_t1 (i := 198) rfl rfl
theorem tw_1_199 : (Jvm.Cond.selects "KnowsBetter$Row" ({ cls := "KnowsBetter$Row", name := "at", desc := "(I)I" } : Jvm.MethodName) ({ cls := "KnowsBetter$Row", name := "at", desc := "(I)I" } : Jvm.MethodName)) ∈ mBG := mem_t1 (i := 199) rfl rfl
theorem tw_1_200 : (Jvm.Cond.code ({ cls := "KnowsBetter$Row", name := "at", desc := "(I)I" } : Jvm.MethodName) prog_4_method_2_code (2 : Nat) (Option.some Jvm.ClassFile.FieldType.int)) ∈ mBG := mem_t1 (i := 200) rfl rfl
theorem tw_1_201 : (Jvm.Cond.methodLink "KnowsBetter$Text" (37 : Nat) ({ cls := "KnowsBetter$Text", name := "startsPart", desc := "(I)Z" } : Jvm.MethodName)) ∈ mBG := mem_t1 (i := 201) rfl rfl
theorem tw_1_203 : (Jvm.Cond.instanceMethod ({ cls := "KnowsBetter$Text", name := "startsPart", desc := "(I)Z" } : Jvm.MethodName)) ∈ mBG := mem_t1 (i := 203) rfl rfl
theorem tw_1_204 : (Jvm.Cond.code ({ cls := "KnowsBetter$Text", name := "startsPart", desc := "(I)Z" } : Jvm.MethodName) prog_8_method_10_code (2 : Nat) (Option.some Jvm.ClassFile.FieldType.boolean)) ∈ mBG := mem_t1 (i := 204) rfl rfl
theorem tw_1_205 : (Jvm.Cond.methodLink "KnowsBetter$Text" (50 : Nat) ({ cls := "KnowsBetter$Text", name := "partsAhead", desc := "(II)I" } : Jvm.MethodName)) ∈ mBG := mem_t1 (i := 205) rfl rfl
theorem tw_1_207 : (Jvm.Cond.instanceMethod ({ cls := "KnowsBetter$Text", name := "partsAhead", desc := "(II)I" } : Jvm.MethodName)) ∈ mBG := mem_t1 (i := 207) rfl rfl
theorem tw_1_208 : (Jvm.Cond.code ({ cls := "KnowsBetter$Text", name := "partsAhead", desc := "(II)I" } : Jvm.MethodName) prog_8_method_11_code (5 : Nat) (Option.some Jvm.ClassFile.FieldType.int)) ∈ mBG := mem_t1 (i := 208) rfl rfl
theorem tw_1_209 : (Jvm.Cond.methodLink "KnowsBetter$Text" (40 : Nat) ({ cls := "KnowsBetter$Text", name := "digit", desc := "(I)I" } : Jvm.MethodName)) ∈ mBG := mem_t1 (i := 209) rfl rfl
theorem tw_1_210 : (Jvm.Cond.instanceMethod ({ cls := "KnowsBetter$Text", name := "digit", desc := "(I)I" } : Jvm.MethodName)) ∈ mBG := mem_t1 (i := 210) rfl rfl
theorem tw_1_211 : (Jvm.Cond.selects "KnowsBetter$Text" ({ cls := "KnowsBetter$Text", name := "digit", desc := "(I)I" } : Jvm.MethodName) ({ cls := "KnowsBetter$Text", name := "digit", desc := "(I)I" } : Jvm.MethodName)) ∈ mBG := mem_t1 (i := 211) rfl rfl
theorem tw_1_212 : (Jvm.Cond.code ({ cls := "KnowsBetter$Text", name := "digit", desc := "(I)I" } : Jvm.MethodName) prog_8_method_4_code (2 : Nat) (Option.some Jvm.ClassFile.FieldType.int)) ∈ mBG := mem_t1 (i := 212) rfl rfl
theorem tw_1_213 : (Jvm.Cond.methodLink "KnowsBetter$Text" (43 : Nat) ({ cls := "KnowsBetter$Text", name := "isBetween", desc := "(II)Z" } : Jvm.MethodName)) ∈ mBG := mem_t1 (i := 213) rfl rfl
theorem tw_1_214 : (Jvm.Cond.static ({ cls := "KnowsBetter$Text", name := "isBetween", desc := "(II)Z" } : Jvm.MethodName)) ∈ mBG := mem_t1 (i := 214) rfl rfl
theorem tw_1_215 : (Jvm.Cond.code ({ cls := "KnowsBetter$Text", name := "isBetween", desc := "(II)Z" } : Jvm.MethodName) prog_8_method_12_code (2 : Nat) (Option.some Jvm.ClassFile.FieldType.boolean)) ∈ mBG := mem_t1 (i := 215) rfl rfl
theorem tw_1_216 : (Jvm.Cond.methodLink "KnowsBetter$Text" (47 : Nat) ({ cls := "KnowsBetter$Text", name := "letter", desc := "(I)I" } : Jvm.MethodName)) ∈ mBG := mem_t1 (i := 216) rfl rfl
theorem tw_1_217 : (Jvm.Cond.instanceMethod ({ cls := "KnowsBetter$Text", name := "letter", desc := "(I)I" } : Jvm.MethodName)) ∈ mBG := mem_t1 (i := 217) rfl rfl
theorem tw_1_218 : (Jvm.Cond.selects "KnowsBetter$Text" ({ cls := "KnowsBetter$Text", name := "letter", desc := "(I)I" } : Jvm.MethodName) ({ cls := "KnowsBetter$Text", name := "letter", desc := "(I)I" } : Jvm.MethodName)) ∈ mBG := mem_t1 (i := 218) rfl rfl
theorem tw_1_219 : (Jvm.Cond.code ({ cls := "KnowsBetter$Text", name := "letter", desc := "(I)I" } : Jvm.MethodName) prog_8_method_5_code (2 : Nat) (Option.some Jvm.ClassFile.FieldType.int)) ∈ mBG := mem_t1 (i := 219) rfl rfl
theorem tw_1_220 : (Jvm.Cond.methodLink "KnowsBetterLaw" (27 : Nat) ({ cls := "KnowsBetter", name := "table", desc := "()I" } : Jvm.MethodName)) ∈ mBG := mem_t1 (i := 220) rfl rfl
theorem tw_1_221 : (Jvm.Cond.instanceMethod ({ cls := "KnowsBetter", name := "table", desc := "()I" } : Jvm.MethodName)) ∈ mBG := mem_t1 (i := 221) rfl rfl
theorem tw_1_222 : (Jvm.Cond.selects "KnowsBetter" ({ cls := "KnowsBetter", name := "table", desc := "()I" } : Jvm.MethodName) ({ cls := "KnowsBetter", name := "table", desc := "()I" } : Jvm.MethodName)) ∈ mBG := mem_t1 (i := 222) rfl rfl
theorem tw_1_223 : (Jvm.Cond.code ({ cls := "KnowsBetter", name := "table", desc := "()I" } : Jvm.MethodName) prog_1_method_5_code (2 : Nat) (Option.some Jvm.ClassFile.FieldType.int)) ∈ mBG := mem_t1 (i := 223) rfl rfl
theorem tw_1_224 : (Jvm.Cond.methodLink "KnowsBetter" (69 : Nat) ({ cls := "KnowsBetter$Table", name := "clear", desc := "()V" } : Jvm.MethodName)) ∈ mBG := mem_t1 (i := 224) rfl rfl
theorem tw_1_225 : (Jvm.Cond.instanceMethod ({ cls := "KnowsBetter$Table", name := "clear", desc := "()V" } : Jvm.MethodName)) ∈ mBG := mem_t1 (i := 225) rfl rfl
theorem tw_1_226 : (Jvm.Cond.selects "KnowsBetter$Table" ({ cls := "KnowsBetter$Table", name := "clear", desc := "()V" } : Jvm.MethodName) ({ cls := "KnowsBetter$Table", name := "clear", desc := "()V" } : Jvm.MethodName)) ∈ mBG := mem_t1 (i := 226) rfl rfl
theorem tw_1_227 : (Jvm.Cond.code ({ cls := "KnowsBetter$Table", name := "clear", desc := "()V" } : Jvm.MethodName) prog_7_method_5_code (1 : Nat) (Option.none : Option Jvm.ClassFile.FieldType)) ∈ mBG := mem_t1 (i := 227) rfl rfl
theorem tw_1_228 : (Jvm.Cond.methodLink "KnowsBetter" (71 : Nat) ({ cls := "KnowsBetter$Round", name := "clear", desc := "()V" } : Jvm.MethodName)) ∈ mBG := mem_t1 (i := 228) rfl rfl
theorem tw_1_229 : (Jvm.Cond.instanceMethod ({ cls := "KnowsBetter$Round", name := "clear", desc := "()V" } : Jvm.MethodName)) ∈ mBG := mem_t1 (i := 229) rfl rfl
theorem tw_1_230 : (Jvm.Cond.selects "KnowsBetter$Round" ({ cls := "KnowsBetter$Round", name := "clear", desc := "()V" } : Jvm.MethodName) ({ cls := "KnowsBetter$Round", name := "clear", desc := "()V" } : Jvm.MethodName)) ∈ mBG := mem_t1 (i := 230) rfl rfl
theorem tw_1_231 : (Jvm.Cond.code ({ cls := "KnowsBetter$Round", name := "clear", desc := "()V" } : Jvm.MethodName) prog_3_method_8_code (1 : Nat) (Option.none : Option Jvm.ClassFile.FieldType)) ∈ mBG := mem_t1 (i := 231) rfl rfl
theorem tw_1_232 : (Jvm.Cond.methodLink "KnowsBetter$Round" (35 : Nat) ({ cls := "KnowsBetter$Row", name := "fill", desc := "(I)V" } : Jvm.MethodName)) ∈ mBG := mem_t1 (i := 232) rfl rfl
theorem tw_1_233 : (Jvm.Cond.instanceMethod ({ cls := "KnowsBetter$Row", name := "fill", desc := "(I)V" } : Jvm.MethodName)) ∈ mBG := mem_t1 (i := 233) rfl rfl
theorem tw_1_234 : (Jvm.Cond.selects "KnowsBetter$Row" ({ cls := "KnowsBetter$Row", name := "fill", desc := "(I)V" } : Jvm.MethodName) ({ cls := "KnowsBetter$Row", name := "fill", desc := "(I)V" } : Jvm.MethodName)) ∈ mBG := mem_t1 (i := 234) rfl rfl
theorem tw_1_235 : (Jvm.Cond.code ({ cls := "KnowsBetter$Row", name := "fill", desc := "(I)V" } : Jvm.MethodName) prog_4_method_4_code (3 : Nat) (Option.none : Option Jvm.ClassFile.FieldType)) ∈ mBG := mem_t1 (i := 235) rfl rfl
theorem tw_1_236 : (Jvm.Cond.methodLink "KnowsBetter" (72 : Nat) ({ cls := "KnowsBetter$Text", name := "length", desc := "()I" } : Jvm.MethodName)) ∈ mBG := mem_t1 (i := 236) rfl rfl
theorem tw_1_237 : (Jvm.Cond.instanceMethod ({ cls := "KnowsBetter$Text", name := "length", desc := "()I" } : Jvm.MethodName)) ∈ mBG := mem_t1 (i := 237) rfl rfl
theorem tw_1_238 : (Jvm.Cond.selects "KnowsBetter$Text" ({ cls := "KnowsBetter$Text", name := "length", desc := "()I" } : Jvm.MethodName) ({ cls := "KnowsBetter$Text", name := "length", desc := "()I" } : Jvm.MethodName)) ∈ mBG := mem_t1 (i := 238) rfl rfl
theorem tw_1_239 : (Jvm.Cond.code ({ cls := "KnowsBetter$Text", name := "length", desc := "()I" } : Jvm.MethodName) prog_8_method_2_code (1 : Nat) (Option.some Jvm.ClassFile.FieldType.int)) ∈ mBG := mem_t1 (i := 239) rfl rfl
theorem tw_2_0 : (Jvm.Cond.methodLink "KnowsBetter" (75 : Nat) ({ cls := "KnowsBetter$Text", name := "at", desc := "(I)I" } : Jvm.MethodName)) ∈ mBG := mem_t2 (i := 0) rfl rfl
theorem tw_2_1 : (Jvm.Cond.methodLink "KnowsBetter" (78 : Nat) ({ cls := "KnowsBetter", name := "admit", desc := "(I)V" } : Jvm.MethodName)) ∈ mBG := mem_t2 (i := 1) rfl rfl
theorem tw_2_3 : (Jvm.Cond.instanceMethod ({ cls := "KnowsBetter", name := "admit", desc := "(I)V" } : Jvm.MethodName)) ∈ mBG := mem_t2 (i := 3) rfl rfl
theorem tw_2_4 : (Jvm.Cond.code ({ cls := "KnowsBetter", name := "admit", desc := "(I)V" } : Jvm.MethodName) prog_1_method_35_code (3 : Nat) (Option.none : Option Jvm.ClassFile.FieldType)) ∈ mBG := mem_t2 (i := 4) rfl rfl
theorem tw_2_5 : (Jvm.Cond.methodLink "KnowsBetter" (81 : Nat) ({ cls := "KnowsBetter$Text", name := "digit", desc := "(I)I" } : Jvm.MethodName)) ∈ mBG := mem_t2 (i := 5) rfl rfl
theorem tw_2_6 : (Jvm.Cond.methodLink "KnowsBetter" (244 : Nat) ({ cls := "KnowsBetter$Table", name := "addPerson", desc := "(I)I" } : Jvm.MethodName)) ∈ mBG := mem_t2 (i := 6) rfl rfl
theorem tw_2_7 : (Jvm.Cond.instanceMethod ({ cls := "KnowsBetter$Table", name := "addPerson", desc := "(I)I" } : Jvm.MethodName)) ∈ mBG := mem_t2 (i := 7) rfl rfl
theorem tw_2_8 : (Jvm.Cond.selects "KnowsBetter$Table" ({ cls := "KnowsBetter$Table", name := "addPerson", desc := "(I)I" } : Jvm.MethodName) ({ cls := "KnowsBetter$Table", name := "addPerson", desc := "(I)I" } : Jvm.MethodName)) ∈ mBG := mem_t2 (i := 8) rfl rfl
theorem tw_2_9 : (Jvm.Cond.code ({ cls := "KnowsBetter$Table", name := "addPerson", desc := "(I)I" } : Jvm.MethodName) prog_7_method_6_code (3 : Nat) (Option.some Jvm.ClassFile.FieldType.int)) ∈ mBG := mem_t2 (i := 9) rfl rfl
theorem tw_2_10 : (Jvm.Cond.methodLink "KnowsBetter$Table" (37 : Nat) ({ cls := "KnowsBetter$Row", name := "put", desc := "(II)V" } : Jvm.MethodName)) ∈ mBG := mem_t2 (i := 10) rfl rfl
theorem tw_2_11 : (Jvm.Cond.methodLink "KnowsBetter" (247 : Nat) ({ cls := "KnowsBetter$Text", name := "letter", desc := "(I)I" } : Jvm.MethodName)) ∈ mBG := mem_t2 (i := 11) rfl rfl
theorem tw_2_12 : (Jvm.Cond.methodLink "KnowsBetter" (150 : Nat) ({ cls := "KnowsBetter$Round", name := "setTold", desc := "(II)V" } : Jvm.MethodName)) ∈ mBG := mem_t2 (i := 12) rfl rfl
theorem tw_2_13 : (Jvm.Cond.instanceMethod ({ cls := "KnowsBetter$Round", name := "setTold", desc := "(II)V" } : Jvm.MethodName)) ∈ mBG := mem_t2 (i := 13) rfl rfl
theorem tw_2_14 : (Jvm.Cond.selects "KnowsBetter$Round" ({ cls := "KnowsBetter$Round", name := "setTold", desc := "(II)V" } : Jvm.MethodName) ({ cls := "KnowsBetter$Round", name := "setTold", desc := "(II)V" } : Jvm.MethodName)) ∈ mBG := mem_t2 (i := 14) rfl rfl
theorem tw_2_15 : (Jvm.Cond.code ({ cls := "KnowsBetter$Round", name := "setTold", desc := "(II)V" } : Jvm.MethodName) prog_3_method_3_code (3 : Nat) (Option.none : Option Jvm.ClassFile.FieldType)) ∈ mBG := mem_t2 (i := 15) rfl rfl
theorem tw_2_16 : (Jvm.Cond.methodLink "KnowsBetter$Round" (28 : Nat) ({ cls := "KnowsBetter$Row", name := "put", desc := "(II)V" } : Jvm.MethodName)) ∈ mBG := mem_t2 (i := 16) rfl rfl
theorem tw_2_17 : (Jvm.Cond.methodLink "KnowsBetter" (154 : Nat) ({ cls := "KnowsBetter$Round", name := "setSeat", desc := "(II)V" } : Jvm.MethodName)) ∈ mBG := mem_t2 (i := 17) rfl rfl
theorem tw_2_18 : (Jvm.Cond.instanceMethod ({ cls := "KnowsBetter$Round", name := "setSeat", desc := "(II)V" } : Jvm.MethodName)) ∈ mBG := mem_t2 (i := 18) rfl rfl
theorem tw_2_19 : (Jvm.Cond.selects "KnowsBetter$Round" ({ cls := "KnowsBetter$Round", name := "setSeat", desc := "(II)V" } : Jvm.MethodName) ({ cls := "KnowsBetter$Round", name := "setSeat", desc := "(II)V" } : Jvm.MethodName)) ∈ mBG := mem_t2 (i := 19) rfl rfl
theorem tw_2_20 : (Jvm.Cond.code ({ cls := "KnowsBetter$Round", name := "setSeat", desc := "(II)V" } : Jvm.MethodName) prog_3_method_5_code (3 : Nat) (Option.none : Option Jvm.ClassFile.FieldType)) ∈ mBG := mem_t2 (i := 20) rfl rfl
theorem tw_2_21 : (Jvm.Cond.methodLink "KnowsBetter" (84 : Nat) ({ cls := "KnowsBetter$Table", name := "addRule", desc := "(III)V" } : Jvm.MethodName)) ∈ mBG := mem_t2 (i := 21) rfl rfl
theorem tw_2_22 : (Jvm.Cond.instanceMethod ({ cls := "KnowsBetter$Table", name := "addRule", desc := "(III)V" } : Jvm.MethodName)) ∈ mBG := mem_t2 (i := 22) rfl rfl
theorem tw_2_23 : (Jvm.Cond.selects "KnowsBetter$Table" ({ cls := "KnowsBetter$Table", name := "addRule", desc := "(III)V" } : Jvm.MethodName) ({ cls := "KnowsBetter$Table", name := "addRule", desc := "(III)V" } : Jvm.MethodName)) ∈ mBG := mem_t2 (i := 23) rfl rfl
theorem tw_2_24 : (Jvm.Cond.code ({ cls := "KnowsBetter$Table", name := "addRule", desc := "(III)V" } : Jvm.MethodName) prog_7_method_7_code (4 : Nat) (Option.none : Option Jvm.ClassFile.FieldType)) ∈ mBG := mem_t2 (i := 24) rfl rfl
theorem tw_2_25 : (Jvm.Cond.methodLink "KnowsBetter" (88 : Nat) ({ cls := "KnowsBetter$Acts", name := "clear", desc := "()V" } : Jvm.MethodName)) ∈ mBG := mem_t2 (i := 25) rfl rfl
theorem tw_2_26 : (Jvm.Cond.instanceMethod ({ cls := "KnowsBetter$Acts", name := "clear", desc := "()V" } : Jvm.MethodName)) ∈ mBG := mem_t2 (i := 26) rfl rfl
theorem tw_2_27 : (Jvm.Cond.selects "KnowsBetter$Acts" ({ cls := "KnowsBetter$Acts", name := "clear", desc := "()V" } : Jvm.MethodName) ({ cls := "KnowsBetter$Acts", name := "clear", desc := "()V" } : Jvm.MethodName)) ∈ mBG := mem_t2 (i := 27) rfl rfl
theorem tw_2_28 : (Jvm.Cond.code ({ cls := "KnowsBetter$Acts", name := "clear", desc := "()V" } : Jvm.MethodName) prog_2_method_3_code (1 : Nat) (Option.none : Option Jvm.ClassFile.FieldType)) ∈ mBG := mem_t2 (i := 28) rfl rfl
theorem tw_2_29 : (Jvm.Cond.methodLink "KnowsBetter" (93 : Nat) ({ cls := "KnowsBetter$Table", name := "people", desc := "()I" } : Jvm.MethodName)) ∈ mBG := mem_t2 (i := 29) rfl rfl
theorem tw_2_30 : (Jvm.Cond.instanceMethod ({ cls := "KnowsBetter$Table", name := "people", desc := "()I" } : Jvm.MethodName)) ∈ mBG := mem_t2 (i := 30) rfl rfl
theorem tw_2_31 : (Jvm.Cond.selects "KnowsBetter$Table" ({ cls := "KnowsBetter$Table", name := "people", desc := "()I" } : Jvm.MethodName) ({ cls := "KnowsBetter$Table", name := "people", desc := "()I" } : Jvm.MethodName)) ∈ mBG := mem_t2 (i := 31) rfl rfl
theorem tw_2_32 : (Jvm.Cond.code ({ cls := "KnowsBetter$Table", name := "people", desc := "()I" } : Jvm.MethodName) prog_7_method_2_code (1 : Nat) (Option.some Jvm.ClassFile.FieldType.int)) ∈ mBG := mem_t2 (i := 32) rfl rfl
theorem tw_2_33 : (Jvm.Cond.methodLink "KnowsBetter" (96 : Nat) ({ cls := "KnowsBetter$Table", name := "rules", desc := "()I" } : Jvm.MethodName)) ∈ mBG := mem_t2 (i := 33) rfl rfl
theorem tw_2_34 : (Jvm.Cond.instanceMethod ({ cls := "KnowsBetter$Table", name := "rules", desc := "()I" } : Jvm.MethodName)) ∈ mBG := mem_t2 (i := 34) rfl rfl
theorem tw_2_35 : (Jvm.Cond.selects "KnowsBetter$Table" ({ cls := "KnowsBetter$Table", name := "rules", desc := "()I" } : Jvm.MethodName) ({ cls := "KnowsBetter$Table", name := "rules", desc := "()I" } : Jvm.MethodName)) ∈ mBG := mem_t2 (i := 35) rfl rfl
theorem tw_2_36 : (Jvm.Cond.code ({ cls := "KnowsBetter$Table", name := "rules", desc := "()I" } : Jvm.MethodName) prog_7_method_3_code (1 : Nat) (Option.some Jvm.ClassFile.FieldType.int)) ∈ mBG := mem_t2 (i := 36) rfl rfl
theorem tw_2_37 : (Jvm.Cond.methodLink "KnowsBetterLaw" (31 : Nat) ({ cls := "KnowsBetter", name := "about", desc := "(I)I" } : Jvm.MethodName)) ∈ mBG := mem_t2 (i := 37) rfl rfl
theorem tw_2_38 : (Jvm.Cond.instanceMethod ({ cls := "KnowsBetter", name := "about", desc := "(I)I" } : Jvm.MethodName)) ∈ mBG := mem_t2 (i := 38) rfl rfl
theorem tw_2_39 : (Jvm.Cond.selects "KnowsBetter" ({ cls := "KnowsBetter", name := "about", desc := "(I)I" } : Jvm.MethodName) ({ cls := "KnowsBetter", name := "about", desc := "(I)I" } : Jvm.MethodName)) ∈ mBG := mem_t2 (i := 39) rfl rfl
theorem tw_2_40 : (Jvm.Cond.code ({ cls := "KnowsBetter", name := "about", desc := "(I)I" } : Jvm.MethodName) prog_1_method_6_code (2 : Nat) (Option.some Jvm.ClassFile.FieldType.int)) ∈ mBG := mem_t2 (i := 40) rfl rfl
theorem tw_2_41 : (Jvm.Cond.methodLink "KnowsBetter" (99 : Nat) ({ cls := "KnowsBetter$Round", name := "allFines", desc := "()I" } : Jvm.MethodName)) ∈ mBG := mem_t2 (i := 41) rfl rfl
theorem tw_2_42 : (Jvm.Cond.instanceMethod ({ cls := "KnowsBetter$Round", name := "allFines", desc := "()I" } : Jvm.MethodName)) ∈ mBG := mem_t2 (i := 42) rfl rfl
theorem tw_2_43 : (Jvm.Cond.selects "KnowsBetter$Round" ({ cls := "KnowsBetter$Round", name := "allFines", desc := "()I" } : Jvm.MethodName) ({ cls := "KnowsBetter$Round", name := "allFines", desc := "()I" } : Jvm.MethodName)) ∈ mBG := mem_t2 (i := 43) rfl rfl
theorem tw_2_44 : (Jvm.Cond.code ({ cls := "KnowsBetter$Round", name := "allFines", desc := "()I" } : Jvm.MethodName) prog_3_method_12_code (3 : Nat) (Option.some Jvm.ClassFile.FieldType.int)) ∈ mBG := mem_t2 (i := 44) rfl rfl
theorem tw_2_45 : (Jvm.Cond.methodLink "KnowsBetter$Round" (50 : Nat) ({ cls := "KnowsBetter$Table", name := "people", desc := "()I" } : Jvm.MethodName)) ∈ mBG := mem_t2 (i := 45) rfl rfl
theorem tw_2_46 : (Jvm.Cond.methodLink "KnowsBetter$Round" (32 : Nat) ({ cls := "KnowsBetter$Round", name := "fines", desc := "(I)I" } : Jvm.MethodName)) ∈ mBG := mem_t2 (i := 46) rfl rfl
theorem tw_2_47 : (Jvm.Cond.instanceMethod ({ cls := "KnowsBetter$Round", name := "fines", desc := "(I)I" } : Jvm.MethodName)) ∈ mBG := mem_t2 (i := 47) rfl rfl
theorem tw_2_48 : (Jvm.Cond.selects "KnowsBetter$Round" ({ cls := "KnowsBetter$Round", name := "fines", desc := "(I)I" } : Jvm.MethodName) ({ cls := "KnowsBetter$Round", name := "fines", desc := "(I)I" } : Jvm.MethodName)) ∈ mBG := mem_t2 (i := 48) rfl rfl
theorem tw_2_49 : (Jvm.Cond.code ({ cls := "KnowsBetter$Round", name := "fines", desc := "(I)I" } : Jvm.MethodName) prog_3_method_6_code (2 : Nat) (Option.some Jvm.ClassFile.FieldType.int)) ∈ mBG := mem_t2 (i := 49) rfl rfl
theorem tw_2_50 : (Jvm.Cond.methodLink "KnowsBetter$Round" (24 : Nat) ({ cls := "KnowsBetter$Row", name := "at", desc := "(I)I" } : Jvm.MethodName)) ∈ mBG := mem_t2 (i := 50) rfl rfl
theorem tw_2_51 : (Jvm.Cond.methodLink "KnowsBetter" (102 : Nat) ({ cls := "KnowsBetter$Round", name := "knownBySomebody", desc := "()I" } : Jvm.MethodName)) ∈ mBG := mem_t2 (i := 51) rfl rfl
theorem tw_2_52 : (Jvm.Cond.instanceMethod ({ cls := "KnowsBetter$Round", name := "knownBySomebody", desc := "()I" } : Jvm.MethodName)) ∈ mBG := mem_t2 (i := 52) rfl rfl
theorem tw_2_53 : (Jvm.Cond.selects "KnowsBetter$Round" ({ cls := "KnowsBetter$Round", name := "knownBySomebody", desc := "()I" } : Jvm.MethodName) ({ cls := "KnowsBetter$Round", name := "knownBySomebody", desc := "()I" } : Jvm.MethodName)) ∈ mBG := mem_t2 (i := 53) rfl rfl
theorem tw_2_54 : (Jvm.Cond.code ({ cls := "KnowsBetter$Round", name := "knownBySomebody", desc := "()I" } : Jvm.MethodName) prog_3_method_11_code (3 : Nat) (Option.some Jvm.ClassFile.FieldType.int)) ∈ mBG := mem_t2 (i := 54) rfl rfl
theorem tw_2_55 : (Jvm.Cond.methodLink "KnowsBetter$Round" (54 : Nat) ({ cls := "KnowsBetter$Round", name := "known", desc := "(I)I" } : Jvm.MethodName)) ∈ mBG := mem_t2 (i := 55) rfl rfl
theorem tw_2_56 : (Jvm.Cond.instanceMethod ({ cls := "KnowsBetter$Round", name := "known", desc := "(I)I" } : Jvm.MethodName)) ∈ mBG := mem_t2 (i := 56) rfl rfl
theorem tw_2_57 : (Jvm.Cond.selects "KnowsBetter$Round" ({ cls := "KnowsBetter$Round", name := "known", desc := "(I)I" } : Jvm.MethodName) ({ cls := "KnowsBetter$Round", name := "known", desc := "(I)I" } : Jvm.MethodName)) ∈ mBG := mem_t2 (i := 57) rfl rfl
theorem tw_2_58 : (Jvm.Cond.code ({ cls := "KnowsBetter$Round", name := "known", desc := "(I)I" } : Jvm.MethodName) prog_3_method_10_code (2 : Nat) (Option.some Jvm.ClassFile.FieldType.int)) ∈ mBG := mem_t2 (i := 58) rfl rfl
theorem tw_2_59 : (Jvm.Cond.methodLink "KnowsBetter$Round" (42 : Nat) ({ cls := "KnowsBetter$Round", name := "told", desc := "(I)I" } : Jvm.MethodName)) ∈ mBG := mem_t2 (i := 59) rfl rfl
theorem tw_2_60 : (Jvm.Cond.instanceMethod ({ cls := "KnowsBetter$Round", name := "told", desc := "(I)I" } : Jvm.MethodName)) ∈ mBG := mem_t2 (i := 60) rfl rfl
theorem tw_2_61 : (Jvm.Cond.selects "KnowsBetter$Round" ({ cls := "KnowsBetter$Round", name := "told", desc := "(I)I" } : Jvm.MethodName) ({ cls := "KnowsBetter$Round", name := "told", desc := "(I)I" } : Jvm.MethodName)) ∈ mBG := mem_t2 (i := 61) rfl rfl
theorem tw_2_62 : (Jvm.Cond.code ({ cls := "KnowsBetter$Round", name := "told", desc := "(I)I" } : Jvm.MethodName) prog_3_method_2_code (2 : Nat) (Option.some Jvm.ClassFile.FieldType.int)) ∈ mBG := mem_t2 (i := 62) rfl rfl
theorem tw_2_63 : (Jvm.Cond.methodLink "KnowsBetter$Round" (45 : Nat) ({ cls := "KnowsBetter$Table", name := "closure", desc := "(I)I" } : Jvm.MethodName)) ∈ mBG := mem_t2 (i := 63) rfl rfl
theorem tw_2_64 : (Jvm.Cond.instanceMethod ({ cls := "KnowsBetter$Table", name := "closure", desc := "(I)I" } : Jvm.MethodName)) ∈ mBG := mem_t2 (i := 64) rfl rfl
theorem tw_2_65 : (Jvm.Cond.selects "KnowsBetter$Table" ({ cls := "KnowsBetter$Table", name := "closure", desc := "(I)I" } : Jvm.MethodName) ({ cls := "KnowsBetter$Table", name := "closure", desc := "(I)I" } : Jvm.MethodName)) ∈ mBG := mem_t2 (i := 65) rfl rfl
theorem tw_2_66 : (Jvm.Cond.code ({ cls := "KnowsBetter$Table", name := "closure", desc := "(I)I" } : Jvm.MethodName) prog_7_method_8_code (6 : Nat) (Option.some Jvm.ClassFile.FieldType.int)) ∈ mBG := mem_t2 (i := 66) rfl rfl
theorem tw_2_67 : (Jvm.Cond.methodLink "KnowsBetter$Table" (33 : Nat) ({ cls := "KnowsBetter$Row", name := "at", desc := "(I)I" } : Jvm.MethodName)) ∈ mBG := mem_t2 (i := 67) rfl rfl
theorem tw_2_68 : (Jvm.Cond.methodLink "KnowsBetter" (105 : Nat) ({ cls := "KnowsBetter$Acts", name := "count", desc := "()I" } : Jvm.MethodName)) ∈ mBG := mem_t2 (i := 68) rfl rfl
theorem tw_2_69 : (Jvm.Cond.instanceMethod ({ cls := "KnowsBetter$Acts", name := "count", desc := "()I" } : Jvm.MethodName)) ∈ mBG := mem_t2 (i := 69) rfl rfl
theorem tw_2_70 : (Jvm.Cond.selects "KnowsBetter$Acts" ({ cls := "KnowsBetter$Acts", name := "count", desc := "()I" } : Jvm.MethodName) ({ cls := "KnowsBetter$Acts", name := "count", desc := "()I" } : Jvm.MethodName)) ∈ mBG := mem_t2 (i := 70) rfl rfl
theorem tw_2_71 : (Jvm.Cond.code ({ cls := "KnowsBetter$Acts", name := "count", desc := "()I" } : Jvm.MethodName) prog_2_method_2_code (1 : Nat) (Option.some Jvm.ClassFile.FieldType.int)) ∈ mBG := mem_t2 (i := 71) rfl rfl
theorem tw_2_72 : (Jvm.Cond.methodLink "KnowsBetter" (108 : Nat) ({ cls := "KnowsBetter$Seen", name := "count", desc := "()I" } : Jvm.MethodName)) ∈ mBG := mem_t2 (i := 72) rfl rfl
theorem tw_2_73 : (Jvm.Cond.instanceMethod ({ cls := "KnowsBetter$Seen", name := "count", desc := "()I" } : Jvm.MethodName)) ∈ mBG := mem_t2 (i := 73) rfl rfl
theorem tw_2_74 : (Jvm.Cond.selects "KnowsBetter$Seen" ({ cls := "KnowsBetter$Seen", name := "count", desc := "()I" } : Jvm.MethodName) ({ cls := "KnowsBetter$Seen", name := "count", desc := "()I" } : Jvm.MethodName)) ∈ mBG := mem_t2 (i := 74) rfl rfl
theorem tw_2_75 : (Jvm.Cond.code ({ cls := "KnowsBetter$Seen", name := "count", desc := "()I" } : Jvm.MethodName) prog_5_method_2_code (1 : Nat) (Option.some Jvm.ClassFile.FieldType.int)) ∈ mBG := mem_t2 (i := 75) rfl rfl
theorem tw_2_76 : (Jvm.Cond.methodLink "KnowsBetterLaw" (35 : Nat) ({ cls := "KnowsBetter", name := "person", desc := "(II)I" } : Jvm.MethodName)) ∈ mBG := mem_t2 (i := 76) rfl rfl
theorem tw_2_77 : (Jvm.Cond.instanceMethod ({ cls := "KnowsBetter", name := "person", desc := "(II)I" } : Jvm.MethodName)) ∈ mBG := mem_t2 (i := 77) rfl rfl
theorem tw_2_78 : (Jvm.Cond.selects "KnowsBetter" ({ cls := "KnowsBetter", name := "person", desc := "(II)I" } : Jvm.MethodName) ({ cls := "KnowsBetter", name := "person", desc := "(II)I" } : Jvm.MethodName)) ∈ mBG := mem_t2 (i := 78) rfl rfl
theorem tw_2_79 : (Jvm.Cond.code ({ cls := "KnowsBetter", name := "person", desc := "(II)I" } : Jvm.MethodName) prog_1_method_7_code (3 : Nat) (Option.some Jvm.ClassFile.FieldType.int)) ∈ mBG := mem_t2 (i := 79) rfl rfl
theorem tw_2_80 : (Jvm.Cond.methodLink "KnowsBetter" (109 : Nat) ({ cls := "KnowsBetter", name := "isPerson", desc := "(I)Z" } : Jvm.MethodName)) ∈ mBG := mem_t2 (i := 80) rfl rfl
theorem tw_2_82 : (Jvm.Cond.instanceMethod ({ cls := "KnowsBetter", name := "isPerson", desc := "(I)Z" } : Jvm.MethodName)) ∈ mBG := mem_t2 (i := 82) rfl rfl
theorem tw_2_83 : (Jvm.Cond.code ({ cls := "KnowsBetter", name := "isPerson", desc := "(I)Z" } : Jvm.MethodName) prog_1_method_30_code (2 : Nat) (Option.some Jvm.ClassFile.FieldType.boolean)) ∈ mBG := mem_t2 (i := 83) rfl rfl
theorem tw_2_84 : (Jvm.Cond.methodLink "KnowsBetter" (113 : Nat) ({ cls := "KnowsBetter$Table", name := "kind", desc := "(I)I" } : Jvm.MethodName)) ∈ mBG := mem_t2 (i := 84) rfl rfl
theorem tw_2_85 : (Jvm.Cond.instanceMethod ({ cls := "KnowsBetter$Table", name := "kind", desc := "(I)I" } : Jvm.MethodName)) ∈ mBG := mem_t2 (i := 85) rfl rfl
theorem tw_2_86 : (Jvm.Cond.selects "KnowsBetter$Table" ({ cls := "KnowsBetter$Table", name := "kind", desc := "(I)I" } : Jvm.MethodName) ({ cls := "KnowsBetter$Table", name := "kind", desc := "(I)I" } : Jvm.MethodName)) ∈ mBG := mem_t2 (i := 86) rfl rfl
theorem tw_2_87 : (Jvm.Cond.code ({ cls := "KnowsBetter$Table", name := "kind", desc := "(I)I" } : Jvm.MethodName) prog_7_method_4_code (2 : Nat) (Option.some Jvm.ClassFile.FieldType.int)) ∈ mBG := mem_t2 (i := 87) rfl rfl
theorem tw_2_88 : (Jvm.Cond.methodLink "KnowsBetter" (116 : Nat) ({ cls := "KnowsBetter$Round", name := "told", desc := "(I)I" } : Jvm.MethodName)) ∈ mBG := mem_t2 (i := 88) rfl rfl
theorem tw_2_89 : (Jvm.Cond.methodLink "KnowsBetter" (119 : Nat) ({ cls := "KnowsBetter$Round", name := "known", desc := "(I)I" } : Jvm.MethodName)) ∈ mBG := mem_t2 (i := 89) rfl rfl
theorem tw_2_90 : (Jvm.Cond.methodLink "KnowsBetter" (122 : Nat) ({ cls := "KnowsBetter$Round", name := "seat", desc := "(I)I" } : Jvm.MethodName)) ∈ mBG := mem_t2 (i := 90) rfl rfl
theorem tw_2_91 : (Jvm.Cond.instanceMethod ({ cls := "KnowsBetter$Round", name := "seat", desc := "(I)I" } : Jvm.MethodName)) ∈ mBG := mem_t2 (i := 91) rfl rfl
theorem tw_2_92 : (Jvm.Cond.selects "KnowsBetter$Round" ({ cls := "KnowsBetter$Round", name := "seat", desc := "(I)I" } : Jvm.MethodName) ({ cls := "KnowsBetter$Round", name := "seat", desc := "(I)I" } : Jvm.MethodName)) ∈ mBG := mem_t2 (i := 92) rfl rfl
theorem tw_2_93 : (Jvm.Cond.code ({ cls := "KnowsBetter$Round", name := "seat", desc := "(I)I" } : Jvm.MethodName) prog_3_method_4_code (2 : Nat) (Option.some Jvm.ClassFile.FieldType.int)) ∈ mBG := mem_t2 (i := 93) rfl rfl
theorem tw_2_94 : (Jvm.Cond.methodLink "KnowsBetter" (125 : Nat) ({ cls := "KnowsBetter$Round", name := "fines", desc := "(I)I" } : Jvm.MethodName)) ∈ mBG := mem_t2 (i := 94) rfl rfl
theorem tw_2_95 : (Jvm.Cond.methodLink "KnowsBetterLaw" (40 : Nat) ({ cls := "KnowsBetter", name := "far", desc := "(II)I" } : Jvm.MethodName)) ∈ mBG := mem_t2 (i := 95) rfl rfl
theorem tw_2_96 : (Jvm.Cond.instanceMethod ({ cls := "KnowsBetter", name := "far", desc := "(II)I" } : Jvm.MethodName)) ∈ mBG := mem_t2 (i := 96) rfl rfl
theorem tw_2_97 : (Jvm.Cond.selects "KnowsBetter" ({ cls := "KnowsBetter", name := "far", desc := "(II)I" } : Jvm.MethodName) ({ cls := "KnowsBetter", name := "far", desc := "(II)I" } : Jvm.MethodName)) ∈ mBG := mem_t2 (i := 97) rfl rfl
theorem tw_2_98 : (Jvm.Cond.code ({ cls := "KnowsBetter", name := "far", desc := "(II)I" } : Jvm.MethodName) prog_1_method_8_code (3 : Nat) (Option.some Jvm.ClassFile.FieldType.int)) ∈ mBG := mem_t2 (i := 98) rfl rfl
theorem tw_2_99 : (Jvm.Cond.methodLink "KnowsBetter" (128 : Nat) ({ cls := "KnowsBetter$Round", name := "distance", desc := "(II)I" } : Jvm.MethodName)) ∈ mBG := mem_t2 (i := 99) rfl rfl
theorem tw_2_100 : (Jvm.Cond.instanceMethod ({ cls := "KnowsBetter$Round", name := "distance", desc := "(II)I" } : Jvm.MethodName)) ∈ mBG := mem_t2 (i := 100) rfl rfl
theorem tw_2_101 : (Jvm.Cond.selects "KnowsBetter$Round" ({ cls := "KnowsBetter$Round", name := "distance", desc := "(II)I" } : Jvm.MethodName) ({ cls := "KnowsBetter$Round", name := "distance", desc := "(II)I" } : Jvm.MethodName)) ∈ mBG := mem_t2 (i := 101) rfl rfl
theorem tw_2_102 : (Jvm.Cond.code ({ cls := "KnowsBetter$Round", name := "distance", desc := "(II)I" } : Jvm.MethodName) prog_3_method_14_code (4 : Nat) (Option.some Jvm.ClassFile.FieldType.int)) ∈ mBG := mem_t2 (i := 102) rfl rfl
theorem tw_2_103 : (Jvm.Cond.methodLink "KnowsBetter$Round" (61 : Nat) ({ cls := "KnowsBetter$Round", name := "seat", desc := "(I)I" } : Jvm.MethodName)) ∈ mBG := mem_t2 (i := 103) rfl rfl
theorem tw_2_104 : (Jvm.Cond.methodLink "KnowsBetter$Round" (64 : Nat) ({ cls := "java/lang/Math", name := "abs", desc := "(I)I" } : Jvm.MethodName)) ∈ mBG := mem_t2 (i := 104) rfl rfl
theorem tw_2_105 : (Jvm.Cond.static ({ cls := "java/lang/Math", name := "abs", desc := "(I)I" } : Jvm.MethodName)) ∈ mBG := mem_t2 (i := 105) rfl rfl
theorem tw_2_106 : (Jvm.Cond.code ({ cls := "java/lang/Math", name := "abs", desc := "(I)I" } : Jvm.MethodName) prog_12_method_59_code (1 : Nat) (Option.some Jvm.ClassFile.FieldType.int)) ∈ mBG := mem_t2 (i := 106) rfl rfl
theorem tw_2_107 : (Jvm.Cond.methodLink "KnowsBetter$Round" (69 : Nat) ({ cls := "java/lang/Math", name := "min", desc := "(II)I" } : Jvm.MethodName)) ∈ mBG := mem_t2 (i := 107) rfl rfl
theorem tw_2_108 : (Jvm.Cond.static ({ cls := "java/lang/Math", name := "min", desc := "(II)I" } : Jvm.MethodName)) ∈ mBG := mem_t2 (i := 108) rfl rfl
theorem tw_2_109 : (Jvm.Cond.code ({ cls := "java/lang/Math", name := "min", desc := "(II)I" } : Jvm.MethodName) prog_12_method_69_code (2 : Nat) (Option.some Jvm.ClassFile.FieldType.int)) ∈ mBG := mem_t2 (i := 109) rfl rfl
theorem tw_2_110 : (Jvm.Cond.methodLink "KnowsBetterLaw" (44 : Nat) ({ cls := "KnowsBetter", name := "say", desc := "(III)I" } : Jvm.MethodName)) ∈ mBG := mem_t2 (i := 110) rfl rfl
theorem tw_2_111 : (Jvm.Cond.instanceMethod ({ cls := "KnowsBetter", name := "say", desc := "(III)I" } : Jvm.MethodName)) ∈ mBG := mem_t2 (i := 111) rfl rfl
theorem tw_2_112 : (Jvm.Cond.selects "KnowsBetter" ({ cls := "KnowsBetter", name := "say", desc := "(III)I" } : Jvm.MethodName) ({ cls := "KnowsBetter", name := "say", desc := "(III)I" } : Jvm.MethodName)) ∈ mBG := mem_t2 (i := 112) rfl rfl
theorem tw_2_113 : (Jvm.Cond.code ({ cls := "KnowsBetter", name := "say", desc := "(III)I" } : Jvm.MethodName) prog_1_method_9_code (5 : Nat) (Option.some Jvm.ClassFile.FieldType.int)) ∈ mBG := mem_t2 (i := 113) rfl rfl
theorem tw_2_114 : (Jvm.Cond.methodLink "KnowsBetter" (132 : Nat) ({ cls := "KnowsBetter", name := "refusalToSay", desc := "(III)I" } : Jvm.MethodName)) ∈ mBG := mem_t2 (i := 114) rfl rfl
theorem tw_2_116 : (Jvm.Cond.instanceMethod ({ cls := "KnowsBetter", name := "refusalToSay", desc := "(III)I" } : Jvm.MethodName)) ∈ mBG := mem_t2 (i := 116) rfl rfl
theorem tw_2_117 : (Jvm.Cond.code ({ cls := "KnowsBetter", name := "refusalToSay", desc := "(III)I" } : Jvm.MethodName) prog_1_method_34_code (4 : Nat) (Option.some Jvm.ClassFile.FieldType.int)) ∈ mBG := mem_t2 (i := 117) rfl rfl
theorem tw_2_118 : (Jvm.Cond.methodLink "KnowsBetter" (143 : Nat) ({ cls := "KnowsBetter", name := "isFact", desc := "(I)Z" } : Jvm.MethodName)) ∈ mBG := mem_t2 (i := 118) rfl rfl
theorem tw_2_119 : (Jvm.Cond.static ({ cls := "KnowsBetter", name := "isFact", desc := "(I)Z" } : Jvm.MethodName)) ∈ mBG := mem_t2 (i := 119) rfl rfl
theorem tw_2_120 : (Jvm.Cond.code ({ cls := "KnowsBetter", name := "isFact", desc := "(I)Z" } : Jvm.MethodName) prog_1_method_31_code (1 : Nat) (Option.some Jvm.ClassFile.FieldType.boolean)) ∈ mBG := mem_t2 (i := 120) rfl rfl
theorem tw_2_121 : (Jvm.Cond.methodLink "KnowsBetter" (241 : Nat) ({ cls := "KnowsBetter", name := "isVoice", desc := "(I)Z" } : Jvm.MethodName)) ∈ mBG := mem_t2 (i := 121) rfl rfl
theorem tw_2_122 : (Jvm.Cond.static ({ cls := "KnowsBetter", name := "isVoice", desc := "(I)Z" } : Jvm.MethodName)) ∈ mBG := mem_t2 (i := 122) rfl rfl
theorem tw_2_123 : (Jvm.Cond.code ({ cls := "KnowsBetter", name := "isVoice", desc := "(I)Z" } : Jvm.MethodName) prog_1_method_32_code (1 : Nat) (Option.some Jvm.ClassFile.FieldType.boolean)) ∈ mBG := mem_t2 (i := 123) rfl rfl
theorem tw_2_124 : (Jvm.Cond.methodLink "KnowsBetter" (136 : Nat) ({ cls := "KnowsBetter$Acts", name := "remember", desc := "(LKnowsBetter$Round;)V" } : Jvm.MethodName)) ∈ mBG := mem_t2 (i := 124) rfl rfl
theorem tw_2_125 : (Jvm.Cond.instanceMethod ({ cls := "KnowsBetter$Acts", name := "remember", desc := "(LKnowsBetter$Round;)V" } : Jvm.MethodName)) ∈ mBG := mem_t2 (i := 125) rfl rfl
theorem tw_2_126 : (Jvm.Cond.selects "KnowsBetter$Acts" ({ cls := "KnowsBetter$Acts", name := "remember", desc := "(LKnowsBetter$Round;)V" } : Jvm.MethodName) ({ cls := "KnowsBetter$Acts", name := "remember", desc := "(LKnowsBetter$Round;)V" } : Jvm.MethodName)) ∈ mBG := mem_t2 (i := 126) rfl rfl
theorem tw_2_127 : (Jvm.Cond.code ({ cls := "KnowsBetter$Acts", name := "remember", desc := "(LKnowsBetter$Round;)V" } : Jvm.MethodName) prog_2_method_4_code (2 : Nat) (Option.none : Option Jvm.ClassFile.FieldType)) ∈ mBG := mem_t2 (i := 127) rfl rfl
theorem tw_2_128 : (Jvm.Cond.methodLink "KnowsBetter$Acts" (27 : Nat) ({ cls := "KnowsBetter$Shelf", name := "store", desc := "(ILKnowsBetter$Round;)V" } : Jvm.MethodName)) ∈ mBG := mem_t2 (i := 128) rfl rfl
theorem tw_2_129 : (Jvm.Cond.instanceMethod ({ cls := "KnowsBetter$Shelf", name := "store", desc := "(ILKnowsBetter$Round;)V" } : Jvm.MethodName)) ∈ mBG := mem_t2 (i := 129) rfl rfl
theorem tw_2_130 : (Jvm.Cond.selects "KnowsBetter$Shelf" ({ cls := "KnowsBetter$Shelf", name := "store", desc := "(ILKnowsBetter$Round;)V" } : Jvm.MethodName) ({ cls := "KnowsBetter$Shelf", name := "store", desc := "(ILKnowsBetter$Round;)V" } : Jvm.MethodName)) ∈ mBG := mem_t2 (i := 130) rfl rfl
theorem tw_2_131 : (Jvm.Cond.code ({ cls := "KnowsBetter$Shelf", name := "store", desc := "(ILKnowsBetter$Round;)V" } : Jvm.MethodName) prog_6_method_2_code (3 : Nat) (Option.none : Option Jvm.ClassFile.FieldType)) ∈ mBG := mem_t2 (i := 131) rfl rfl
theorem tw_2_132 : (Jvm.Cond.methodLink "KnowsBetter$Shelf" (21 : Nat) ({ cls := "KnowsBetter$Row", name := "copy", desc := "(ILKnowsBetter$Row;II)V" } : Jvm.MethodName)) ∈ mBG := mem_t2 (i := 132) rfl rfl
theorem tw_2_133 : (Jvm.Cond.instanceMethod ({ cls := "KnowsBetter$Row", name := "copy", desc := "(ILKnowsBetter$Row;II)V" } : Jvm.MethodName)) ∈ mBG := mem_t2 (i := 133) rfl rfl
theorem tw_2_134 : (Jvm.Cond.selects "KnowsBetter$Row" ({ cls := "KnowsBetter$Row", name := "copy", desc := "(ILKnowsBetter$Row;II)V" } : Jvm.MethodName) ({ cls := "KnowsBetter$Row", name := "copy", desc := "(ILKnowsBetter$Row;II)V" } : Jvm.MethodName)) ∈ mBG := mem_t2 (i := 134) rfl rfl
theorem tw_2_135 : (Jvm.Cond.code ({ cls := "KnowsBetter$Row", name := "copy", desc := "(ILKnowsBetter$Row;II)V" } : Jvm.MethodName) prog_4_method_5_code (6 : Nat) (Option.none : Option Jvm.ClassFile.FieldType)) ∈ mBG := mem_t2 (i := 135) rfl rfl
theorem tw_2_136 : (Jvm.Cond.methodLink "KnowsBetter$Row" (19 : Nat) ({ cls := "KnowsBetter$Row", name := "at", desc := "(I)I" } : Jvm.MethodName)) ∈ mBG := mem_t2 (i := 136) rfl rfl
theorem tw_2_137 : (Jvm.Cond.methodLink "KnowsBetter$Row" (23 : Nat) ({ cls := "KnowsBetter$Row", name := "put", desc := "(II)V" } : Jvm.MethodName)) ∈ mBG := mem_t2 (i := 137) rfl rfl
theorem tw_2_138 : (Jvm.Cond.methodLink "KnowsBetter$Acts" (31 : Nat) ({ cls := "java/lang/Math", name := "min", desc := "(II)I" } : Jvm.MethodName)) ∈ mBG := mem_t2 (i := 138) rfl rfl
theorem tw_2_139 : (Jvm.Cond.methodLink "KnowsBetter" (140 : Nat) ({ cls := "KnowsBetter$Round", name := "lie", desc := "(III)I" } : Jvm.MethodName)) ∈ mBG := mem_t2 (i := 139) rfl rfl
theorem tw_2_140 : (Jvm.Cond.instanceMethod ({ cls := "KnowsBetter$Round", name := "lie", desc := "(III)I" } : Jvm.MethodName)) ∈ mBG := mem_t2 (i := 140) rfl rfl
theorem tw_2_141 : (Jvm.Cond.selects "KnowsBetter$Round" ({ cls := "KnowsBetter$Round", name := "lie", desc := "(III)I" } : Jvm.MethodName) ({ cls := "KnowsBetter$Round", name := "lie", desc := "(III)I" } : Jvm.MethodName)) ∈ mBG := mem_t2 (i := 141) rfl rfl
theorem tw_2_142 : (Jvm.Cond.code ({ cls := "KnowsBetter$Round", name := "lie", desc := "(III)I" } : Jvm.MethodName) prog_3_method_16_code (7 : Nat) (Option.some Jvm.ClassFile.FieldType.int)) ∈ mBG := mem_t2 (i := 142) rfl rfl
theorem tw_2_143 : (Jvm.Cond.methodLink "KnowsBetter$Round" (79 : Nat) ({ cls := "KnowsBetter$Round", name := "ears", desc := "(II)I" } : Jvm.MethodName)) ∈ mBG := mem_t2 (i := 143) rfl rfl
theorem tw_2_144 : (Jvm.Cond.instanceMethod ({ cls := "KnowsBetter$Round", name := "ears", desc := "(II)I" } : Jvm.MethodName)) ∈ mBG := mem_t2 (i := 144) rfl rfl
theorem tw_2_145 : (Jvm.Cond.selects "KnowsBetter$Round" ({ cls := "KnowsBetter$Round", name := "ears", desc := "(II)I" } : Jvm.MethodName) ({ cls := "KnowsBetter$Round", name := "ears", desc := "(II)I" } : Jvm.MethodName)) ∈ mBG := mem_t2 (i := 145) rfl rfl
theorem tw_2_146 : (Jvm.Cond.code ({ cls := "KnowsBetter$Round", name := "ears", desc := "(II)I" } : Jvm.MethodName) prog_3_method_15_code (6 : Nat) (Option.some Jvm.ClassFile.FieldType.int)) ∈ mBG := mem_t2 (i := 146) rfl rfl
theorem tw_2_147 : (Jvm.Cond.methodLink "KnowsBetter$Round" (73 : Nat) ({ cls := "KnowsBetter$Table", name := "kind", desc := "(I)I" } : Jvm.MethodName)) ∈ mBG := mem_t2 (i := 147) rfl rfl
theorem tw_2_148 : (Jvm.Cond.methodLink "KnowsBetter$Round" (76 : Nat) ({ cls := "KnowsBetter$Round", name := "distance", desc := "(II)I" } : Jvm.MethodName)) ∈ mBG := mem_t2 (i := 148) rfl rfl
theorem tw_2_149 : (Jvm.Cond.methodLink "KnowsBetter$Round" (82 : Nat) ({ cls := "KnowsBetter$Round", name := "knowers", desc := "(I)I" } : Jvm.MethodName)) ∈ mBG := mem_t2 (i := 149) rfl rfl
theorem tw_2_150 : (Jvm.Cond.instanceMethod ({ cls := "KnowsBetter$Round", name := "knowers", desc := "(I)I" } : Jvm.MethodName)) ∈ mBG := mem_t2 (i := 150) rfl rfl
theorem tw_2_151 : (Jvm.Cond.selects "KnowsBetter$Round" ({ cls := "KnowsBetter$Round", name := "knowers", desc := "(I)I" } : Jvm.MethodName) ({ cls := "KnowsBetter$Round", name := "knowers", desc := "(I)I" } : Jvm.MethodName)) ∈ mBG := mem_t2 (i := 151) rfl rfl
theorem tw_2_152 : (Jvm.Cond.code ({ cls := "KnowsBetter$Round", name := "knowers", desc := "(I)I" } : Jvm.MethodName) prog_3_method_13_code (4 : Nat) (Option.some Jvm.ClassFile.FieldType.int)) ∈ mBG := mem_t2 (i := 152) rfl rfl
theorem tw_2_154 : (Jvm.Cond.static ({ cls := "KnowsBetter", name := "contains", desc := "(II)Z" } : Jvm.MethodName)) ∈ mBG := mem_t2 (i := 154) rfl rfl
theorem tw_2_155 : (Jvm.Cond.code ({ cls := "KnowsBetter", name := "contains", desc := "(II)Z" } : Jvm.MethodName) prog_1_method_40_code (2 : Nat) (Option.some Jvm.ClassFile.FieldType.boolean)) ∈ mBG := mem_t2 (i := 155) rfl rfl
theorem tw_2_156 : (Jvm.Cond.methodLink "KnowsBetter$Round" (85 : Nat) ({ cls := "KnowsBetter$Round", name := "firstBold", desc := "(II)I" } : Jvm.MethodName)) ∈ mBG := mem_t2 (i := 156) rfl rfl
theorem tw_2_158 : (Jvm.Cond.instanceMethod ({ cls := "KnowsBetter$Round", name := "firstBold", desc := "(II)I" } : Jvm.MethodName)) ∈ mBG := mem_t2 (i := 158) rfl rfl
theorem tw_2_159 : (Jvm.Cond.code ({ cls := "KnowsBetter$Round", name := "firstBold", desc := "(II)I" } : Jvm.MethodName) prog_3_method_17_code (6 : Nat) (Option.some Jvm.ClassFile.FieldType.int)) ∈ mBG := mem_t2 (i := 159) rfl rfl
theorem tw_2_160 : (Jvm.Cond.methodLink "KnowsBetter$Round" (97 : Nat) ({ cls := "KnowsBetter$Round", name := "sitter", desc := "(I)I" } : Jvm.MethodName)) ∈ mBG := mem_t2 (i := 160) rfl rfl
theorem tw_2_162 : (Jvm.Cond.instanceMethod ({ cls := "KnowsBetter$Round", name := "sitter", desc := "(I)I" } : Jvm.MethodName)) ∈ mBG := mem_t2 (i := 162) rfl rfl
theorem tw_2_163 : (Jvm.Cond.code ({ cls := "KnowsBetter$Round", name := "sitter", desc := "(I)I" } : Jvm.MethodName) prog_3_method_18_code (3 : Nat) (Option.some Jvm.ClassFile.FieldType.int)) ∈ mBG := mem_t2 (i := 163) rfl rfl
theorem tw_2_164 : (Jvm.Cond.methodLink "KnowsBetter$Round" (88 : Nat) ({ cls := "KnowsBetter$Round", name := "fineEach", desc := "(I)V" } : Jvm.MethodName)) ∈ mBG := mem_t2 (i := 164) rfl rfl
theorem tw_2_166 : (Jvm.Cond.instanceMethod ({ cls := "KnowsBetter$Round", name := "fineEach", desc := "(I)V" } : Jvm.MethodName)) ∈ mBG := mem_t2 (i := 166) rfl rfl
theorem tw_2_167 : (Jvm.Cond.code ({ cls := "KnowsBetter$Round", name := "fineEach", desc := "(I)V" } : Jvm.MethodName) prog_3_method_19_code (4 : Nat) (Option.none : Option Jvm.ClassFile.FieldType)) ∈ mBG := mem_t2 (i := 167) rfl rfl
theorem tw_2_168 : (Jvm.Cond.methodLink "KnowsBetter$Round" (100 : Nat) ({ cls := "java/lang/Integer", name := "bitCount", desc := "(I)I" } : Jvm.MethodName)) ∈ mBG := mem_t2 (i := 168) rfl rfl
theorem tw_2_169 : (Jvm.Cond.static ({ cls := "java/lang/Integer", name := "bitCount", desc := "(I)I" } : Jvm.MethodName)) ∈ mBG := mem_t2 (i := 169) rfl rfl
theorem tw_2_170 : (Jvm.Cond.code ({ cls := "java/lang/Integer", name := "bitCount", desc := "(I)I" } : Jvm.MethodName) prog_11_method_49_code (1 : Nat) (Option.some Jvm.ClassFile.FieldType.int)) ∈ mBG := mem_t2 (i := 170) rfl rfl
theorem tw_2_171 : (Jvm.Cond.constant "java/lang/Integer" (265 : Nat) (1431655765 : Int32)) ∈ mBG := mem_t2 (i := 171) rfl rfl
theorem tw_2_172 : (Jvm.Cond.constant "java/lang/Integer" (266 : Nat) (858993459 : Int32)) ∈ mBG := mem_t2 (i := 172) rfl rfl
theorem tw_2_173 : (Jvm.Cond.constant "java/lang/Integer" (267 : Nat) (252645135 : Int32)) ∈ mBG := mem_t2 (i := 173) rfl rfl
theorem tw_2_174 : (Jvm.Cond.methodLink "KnowsBetter$Round" (94 : Nat) ({ cls := "KnowsBetter$Round", name := "fine", desc := "(II)V" } : Jvm.MethodName)) ∈ mBG := mem_t2 (i := 174) rfl rfl
theorem tw_2_176 : (Jvm.Cond.instanceMethod ({ cls := "KnowsBetter$Round", name := "fine", desc := "(II)V" } : Jvm.MethodName)) ∈ mBG := mem_t2 (i := 176) rfl rfl
theorem tw_2_177 : (Jvm.Cond.code ({ cls := "KnowsBetter$Round", name := "fine", desc := "(II)V" } : Jvm.MethodName) prog_3_method_7_code (3 : Nat) (Option.none : Option Jvm.ClassFile.FieldType)) ∈ mBG := mem_t2 (i := 177) rfl rfl
theorem tw_2_178 : (Jvm.Cond.methodLink "KnowsBetter$Round" (91 : Nat) ({ cls := "KnowsBetter$Round", name := "tellEach", desc := "(II)V" } : Jvm.MethodName)) ∈ mBG := mem_t2 (i := 178) rfl rfl
theorem tw_2_180 : (Jvm.Cond.instanceMethod ({ cls := "KnowsBetter$Round", name := "tellEach", desc := "(II)V" } : Jvm.MethodName)) ∈ mBG := mem_t2 (i := 180) rfl rfl
theorem tw_2_181 : (Jvm.Cond.code ({ cls := "KnowsBetter$Round", name := "tellEach", desc := "(II)V" } : Jvm.MethodName) prog_3_method_20_code (4 : Nat) (Option.none : Option Jvm.ClassFile.FieldType)) ∈ mBG := mem_t2 (i := 181) rfl rfl
theorem tw_2_182 : (Jvm.Cond.methodLink "KnowsBetter$Round" (105 : Nat) ({ cls := "KnowsBetter$Round", name := "setTold", desc := "(II)V" } : Jvm.MethodName)) ∈ mBG := mem_t2 (i := 182) rfl rfl
theorem tw_2_183 : (Jvm.Cond.methodLink "KnowsBetterLaw" (49 : Nat) ({ cls := "KnowsBetter", name := "teach", desc := "(II)I" } : Jvm.MethodName)) ∈ mBG := mem_t2 (i := 183) rfl rfl
theorem tw_2_184 : (Jvm.Cond.instanceMethod ({ cls := "KnowsBetter", name := "teach", desc := "(II)I" } : Jvm.MethodName)) ∈ mBG := mem_t2 (i := 184) rfl rfl
theorem tw_2_185 : (Jvm.Cond.selects "KnowsBetter" ({ cls := "KnowsBetter", name := "teach", desc := "(II)I" } : Jvm.MethodName) ({ cls := "KnowsBetter", name := "teach", desc := "(II)I" } : Jvm.MethodName)) ∈ mBG := mem_t2 (i := 185) rfl rfl
theorem tw_2_186 : (Jvm.Cond.code ({ cls := "KnowsBetter", name := "teach", desc := "(II)I" } : Jvm.MethodName) prog_1_method_10_code (3 : Nat) (Option.some Jvm.ClassFile.FieldType.int)) ∈ mBG := mem_t2 (i := 186) rfl rfl
theorem tw_2_187 : (Jvm.Cond.methodLink "KnowsBetter" (146 : Nat) ({ cls := "KnowsBetter", name := "contains", desc := "(II)Z" } : Jvm.MethodName)) ∈ mBG := mem_t2 (i := 187) rfl rfl
theorem tw_2_188 : (Jvm.Cond.methodLink "KnowsBetterLaw" (53 : Nat) ({ cls := "KnowsBetter", name := "forget", desc := "(II)I" } : Jvm.MethodName)) ∈ mBG := mem_t2 (i := 188) rfl rfl
theorem tw_2_189 : (Jvm.Cond.instanceMethod ({ cls := "KnowsBetter", name := "forget", desc := "(II)I" } : Jvm.MethodName)) ∈ mBG := mem_t2 (i := 189) rfl rfl
theorem tw_2_190 : (Jvm.Cond.selects "KnowsBetter" ({ cls := "KnowsBetter", name := "forget", desc := "(II)I" } : Jvm.MethodName) ({ cls := "KnowsBetter", name := "forget", desc := "(II)I" } : Jvm.MethodName)) ∈ mBG := mem_t2 (i := 190) rfl rfl
theorem tw_2_191 : (Jvm.Cond.code ({ cls := "KnowsBetter", name := "forget", desc := "(II)I" } : Jvm.MethodName) prog_1_method_11_code (3 : Nat) (Option.some Jvm.ClassFile.FieldType.int)) ∈ mBG := mem_t2 (i := 191) rfl rfl
theorem tw_2_192 : (Jvm.Cond.methodLink "KnowsBetterLaw" (57 : Nat) ({ cls := "KnowsBetter", name := "change", desc := "(II)I" } : Jvm.MethodName)) ∈ mBG := mem_t2 (i := 192) rfl rfl
theorem tw_2_193 : (Jvm.Cond.instanceMethod ({ cls := "KnowsBetter", name := "change", desc := "(II)I" } : Jvm.MethodName)) ∈ mBG := mem_t2 (i := 193) rfl rfl
theorem tw_2_194 : (Jvm.Cond.selects "KnowsBetter" ({ cls := "KnowsBetter", name := "change", desc := "(II)I" } : Jvm.MethodName) ({ cls := "KnowsBetter", name := "change", desc := "(II)I" } : Jvm.MethodName)) ∈ mBG := mem_t2 (i := 194) rfl rfl
theorem tw_2_195 : (Jvm.Cond.code ({ cls := "KnowsBetter", name := "change", desc := "(II)I" } : Jvm.MethodName) prog_1_method_12_code (4 : Nat) (Option.some Jvm.ClassFile.FieldType.int)) ∈ mBG := mem_t2 (i := 195) rfl rfl
theorem tw_2_196 : (Jvm.Cond.methodLink "KnowsBetterLaw" (61 : Nat) ({ cls := "KnowsBetter", name := "undo", desc := "()I" } : Jvm.MethodName)) ∈ mBG := mem_t2 (i := 196) rfl rfl
theorem tw_2_197 : (Jvm.Cond.instanceMethod ({ cls := "KnowsBetter", name := "undo", desc := "()I" } : Jvm.MethodName)) ∈ mBG := mem_t2 (i := 197) rfl rfl
theorem tw_2_198 : (Jvm.Cond.selects "KnowsBetter" ({ cls := "KnowsBetter", name := "undo", desc := "()I" } : Jvm.MethodName) ({ cls := "KnowsBetter", name := "undo", desc := "()I" } : Jvm.MethodName)) ∈ mBG := mem_t2 (i := 198) rfl rfl
theorem tw_2_199 : (Jvm.Cond.code ({ cls := "KnowsBetter", name := "undo", desc := "()I" } : Jvm.MethodName) prog_1_method_13_code (1 : Nat) (Option.some Jvm.ClassFile.FieldType.int)) ∈ mBG := mem_t2 (i := 199) rfl rfl
theorem tw_2_200 : (Jvm.Cond.methodLink "KnowsBetter" (157 : Nat) ({ cls := "KnowsBetter$Acts", name := "takeBack", desc := "(LKnowsBetter$Round;)I" } : Jvm.MethodName)) ∈ mBG := mem_t2 (i := 200) rfl rfl
theorem tw_2_201 : (Jvm.Cond.instanceMethod ({ cls := "KnowsBetter$Acts", name := "takeBack", desc := "(LKnowsBetter$Round;)I" } : Jvm.MethodName)) ∈ mBG := mem_t2 (i := 201) rfl rfl
theorem tw_2_202 : (Jvm.Cond.selects "KnowsBetter$Acts" ({ cls := "KnowsBetter$Acts", name := "takeBack", desc := "(LKnowsBetter$Round;)I" } : Jvm.MethodName) ({ cls := "KnowsBetter$Acts", name := "takeBack", desc := "(LKnowsBetter$Round;)I" } : Jvm.MethodName)) ∈ mBG := mem_t2 (i := 202) rfl rfl
theorem tw_2_203 : (Jvm.Cond.code ({ cls := "KnowsBetter$Acts", name := "takeBack", desc := "(LKnowsBetter$Round;)I" } : Jvm.MethodName) prog_2_method_5_code (2 : Nat) (Option.some Jvm.ClassFile.FieldType.int)) ∈ mBG := mem_t2 (i := 203) rfl rfl
theorem tw_2_204 : (Jvm.Cond.methodLink "KnowsBetter$Acts" (37 : Nat) ({ cls := "KnowsBetter$Shelf", name := "fetch", desc := "(ILKnowsBetter$Round;)V" } : Jvm.MethodName)) ∈ mBG := mem_t2 (i := 204) rfl rfl
theorem tw_2_205 : (Jvm.Cond.instanceMethod ({ cls := "KnowsBetter$Shelf", name := "fetch", desc := "(ILKnowsBetter$Round;)V" } : Jvm.MethodName)) ∈ mBG := mem_t2 (i := 205) rfl rfl
theorem tw_2_206 : (Jvm.Cond.selects "KnowsBetter$Shelf" ({ cls := "KnowsBetter$Shelf", name := "fetch", desc := "(ILKnowsBetter$Round;)V" } : Jvm.MethodName) ({ cls := "KnowsBetter$Shelf", name := "fetch", desc := "(ILKnowsBetter$Round;)V" } : Jvm.MethodName)) ∈ mBG := mem_t2 (i := 206) rfl rfl
theorem tw_2_207 : (Jvm.Cond.code ({ cls := "KnowsBetter$Shelf", name := "fetch", desc := "(ILKnowsBetter$Round;)V" } : Jvm.MethodName) prog_6_method_3_code (3 : Nat) (Option.none : Option Jvm.ClassFile.FieldType)) ∈ mBG := mem_t2 (i := 207) rfl rfl
theorem tw_2_208 : (Jvm.Cond.methodLink "KnowsBetterLaw" (65 : Nat) ({ cls := "KnowsBetter", name := "hearers", desc := "(II)I" } : Jvm.MethodName)) ∈ mBG := mem_t2 (i := 208) rfl rfl
theorem tw_2_209 : (Jvm.Cond.instanceMethod ({ cls := "KnowsBetter", name := "hearers", desc := "(II)I" } : Jvm.MethodName)) ∈ mBG := mem_t2 (i := 209) rfl rfl
theorem tw_2_210 : (Jvm.Cond.selects "KnowsBetter" ({ cls := "KnowsBetter", name := "hearers", desc := "(II)I" } : Jvm.MethodName) ({ cls := "KnowsBetter", name := "hearers", desc := "(II)I" } : Jvm.MethodName)) ∈ mBG := mem_t2 (i := 210) rfl rfl
theorem tw_2_211 : (Jvm.Cond.code ({ cls := "KnowsBetter", name := "hearers", desc := "(II)I" } : Jvm.MethodName) prog_1_method_14_code (4 : Nat) (Option.some Jvm.ClassFile.FieldType.int)) ∈ mBG := mem_t2 (i := 211) rfl rfl
theorem tw_2_212 : (Jvm.Cond.methodLink "KnowsBetter" (161 : Nat) ({ cls := "KnowsBetter$Round", name := "ears", desc := "(II)I" } : Jvm.MethodName)) ∈ mBG := mem_t2 (i := 212) rfl rfl
theorem tw_2_213 : (Jvm.Cond.methodLink "KnowsBetterLaw" (69 : Nat) ({ cls := "KnowsBetter", name := "safe", desc := "(II)I" } : Jvm.MethodName)) ∈ mBG := mem_t2 (i := 213) rfl rfl
theorem tw_2_214 : (Jvm.Cond.instanceMethod ({ cls := "KnowsBetter", name := "safe", desc := "(II)I" } : Jvm.MethodName)) ∈ mBG := mem_t2 (i := 214) rfl rfl
theorem tw_2_215 : (Jvm.Cond.selects "KnowsBetter" ({ cls := "KnowsBetter", name := "safe", desc := "(II)I" } : Jvm.MethodName) ({ cls := "KnowsBetter", name := "safe", desc := "(II)I" } : Jvm.MethodName)) ∈ mBG := mem_t2 (i := 215) rfl rfl
theorem tw_2_216 : (Jvm.Cond.code ({ cls := "KnowsBetter", name := "safe", desc := "(II)I" } : Jvm.MethodName) prog_1_method_15_code (7 : Nat) (Option.some Jvm.ClassFile.FieldType.int)) ∈ mBG := mem_t2 (i := 216) rfl rfl
theorem tw_2_217 : (Jvm.Cond.methodLink "KnowsBetterLaw" (73 : Nat) ({ cls := "KnowsBetter", name := "seating", desc := "(IIIZZ)I" } : Jvm.MethodName)) ∈ mBG := mem_t2 (i := 217) rfl rfl
theorem tw_2_218 : (Jvm.Cond.instanceMethod ({ cls := "KnowsBetter", name := "seating", desc := "(IIIZZ)I" } : Jvm.MethodName)) ∈ mBG := mem_t2 (i := 218) rfl rfl
theorem tw_2_219 : (Jvm.Cond.selects "KnowsBetter" ({ cls := "KnowsBetter", name := "seating", desc := "(IIIZZ)I" } : Jvm.MethodName) ({ cls := "KnowsBetter", name := "seating", desc := "(IIIZZ)I" } : Jvm.MethodName)) ∈ mBG := mem_t2 (i := 219) rfl rfl
theorem tw_2_220 : (Jvm.Cond.code ({ cls := "KnowsBetter", name := "seating", desc := "(IIIZZ)I" } : Jvm.MethodName) prog_1_method_16_code (13 : Nat) (Option.some Jvm.ClassFile.FieldType.int)) ∈ mBG := mem_t2 (i := 220) rfl rfl
theorem tw_2_221 : (Jvm.Cond.methodLink "KnowsBetter" (164 : Nat) ({ cls := "KnowsBetter$Round", name := "become", desc := "(LKnowsBetter$Round;)V" } : Jvm.MethodName)) ∈ mBG := mem_t2 (i := 221) rfl rfl
theorem tw_2_222 : (Jvm.Cond.instanceMethod ({ cls := "KnowsBetter$Round", name := "become", desc := "(LKnowsBetter$Round;)V" } : Jvm.MethodName)) ∈ mBG := mem_t2 (i := 222) rfl rfl
theorem tw_2_223 : (Jvm.Cond.selects "KnowsBetter$Round" ({ cls := "KnowsBetter$Round", name := "become", desc := "(LKnowsBetter$Round;)V" } : Jvm.MethodName) ({ cls := "KnowsBetter$Round", name := "become", desc := "(LKnowsBetter$Round;)V" } : Jvm.MethodName)) ∈ mBG := mem_t2 (i := 223) rfl rfl
theorem tw_2_224 : (Jvm.Cond.code ({ cls := "KnowsBetter$Round", name := "become", desc := "(LKnowsBetter$Round;)V" } : Jvm.MethodName) prog_3_method_9_code (2 : Nat) (Option.none : Option Jvm.ClassFile.FieldType)) ∈ mBG := mem_t2 (i := 224) rfl rfl
theorem tw_2_225 : (Jvm.Cond.methodLink "KnowsBetter$Round" (38 : Nat) ({ cls := "KnowsBetter$Row", name := "copy", desc := "(ILKnowsBetter$Row;II)V" } : Jvm.MethodName)) ∈ mBG := mem_t2 (i := 225) rfl rfl
theorem tw_2_226 : (Jvm.Cond.methodLink "KnowsBetter" (167 : Nat) ({ cls := "KnowsBetter$Round", name := "knowers", desc := "(I)I" } : Jvm.MethodName)) ∈ mBG := mem_t2 (i := 226) rfl rfl
theorem tw_2_227 : (Jvm.Cond.methodLink "KnowsBetter" (170 : Nat) ({ cls := "KnowsBetter", name := "factorial", desc := "(I)I" } : Jvm.MethodName)) ∈ mBG := mem_t2 (i := 227) rfl rfl
theorem tw_2_228 : (Jvm.Cond.static ({ cls := "KnowsBetter", name := "factorial", desc := "(I)I" } : Jvm.MethodName)) ∈ mBG := mem_t2 (i := 228) rfl rfl
theorem tw_2_229 : (Jvm.Cond.code ({ cls := "KnowsBetter", name := "factorial", desc := "(I)I" } : Jvm.MethodName) prog_1_method_42_code (3 : Nat) (Option.some Jvm.ClassFile.FieldType.int)) ∈ mBG := mem_t2 (i := 229) rfl rfl
theorem tw_2_230 : (Jvm.Cond.methodLink "KnowsBetter" (173 : Nat) ({ cls := "KnowsBetter$Round", name := "sitInOrder", desc := "(I)V" } : Jvm.MethodName)) ∈ mBG := mem_t2 (i := 230) rfl rfl
theorem tw_2_231 : (Jvm.Cond.instanceMethod ({ cls := "KnowsBetter$Round", name := "sitInOrder", desc := "(I)V" } : Jvm.MethodName)) ∈ mBG := mem_t2 (i := 231) rfl rfl
theorem tw_2_232 : (Jvm.Cond.selects "KnowsBetter$Round" ({ cls := "KnowsBetter$Round", name := "sitInOrder", desc := "(I)V" } : Jvm.MethodName) ({ cls := "KnowsBetter$Round", name := "sitInOrder", desc := "(I)V" } : Jvm.MethodName)) ∈ mBG := mem_t2 (i := 232) rfl rfl
theorem tw_2_233 : (Jvm.Cond.code ({ cls := "KnowsBetter$Round", name := "sitInOrder", desc := "(I)V" } : Jvm.MethodName) prog_3_method_21_code (9 : Nat) (Option.none : Option Jvm.ClassFile.FieldType)) ∈ mBG := mem_t2 (i := 233) rfl rfl
theorem tw_2_235 : (Jvm.Cond.methodLink "KnowsBetter$Round" (111 : Nat) ({ cls := "java/lang/Math", name := "max", desc := "(II)I" } : Jvm.MethodName)) ∈ mBG := mem_t2 (i := 235) rfl rfl
theorem tw_2_236 : (Jvm.Cond.methodLink "KnowsBetter$Round" (114 : Nat) ({ cls := "KnowsBetter$Round", name := "member", desc := "(II)I" } : Jvm.MethodName)) ∈ mBG := mem_t2 (i := 236) rfl rfl
theorem tw_2_238 : (Jvm.Cond.instanceMethod ({ cls := "KnowsBetter$Round", name := "member", desc := "(II)I" } : Jvm.MethodName)) ∈ mBG := mem_t2 (i := 238) rfl rfl
theorem tw_2_239 : (Jvm.Cond.code ({ cls := "KnowsBetter$Round", name := "member", desc := "(II)I" } : Jvm.MethodName) prog_3_method_22_code (5 : Nat) (Option.some Jvm.ClassFile.FieldType.int)) ∈ mBG := mem_t2 (i := 239) rfl rfl
theorem tw_3_0 : (Jvm.Cond.methodLink "KnowsBetter$Round" (117 : Nat) ({ cls := "KnowsBetter$Round", name := "setSeat", desc := "(II)V" } : Jvm.MethodName)) ∈ mBG := mem_t3 (i := 0) rfl rfl
theorem tw_3_1 : (Jvm.Cond.methodLink "KnowsBetter" (176 : Nat) ({ cls := "java/lang/Integer", name := "bitCount", desc := "(I)I" } : Jvm.MethodName)) ∈ mBG := mem_t3 (i := 1) rfl rfl
theorem tw_3_2 : (Jvm.Cond.methodLink "KnowsBetter" (181 : Nat) ({ cls := "KnowsBetter$Round", name := "seatFigures", desc := "()I" } : Jvm.MethodName)) ∈ mBG := mem_t3 (i := 2) rfl rfl
theorem tw_3_3 : (Jvm.Cond.instanceMethod ({ cls := "KnowsBetter$Round", name := "seatFigures", desc := "()I" } : Jvm.MethodName)) ∈ mBG := mem_t3 (i := 3) rfl rfl
theorem tw_3_4 : (Jvm.Cond.selects "KnowsBetter$Round" ({ cls := "KnowsBetter$Round", name := "seatFigures", desc := "()I" } : Jvm.MethodName) ({ cls := "KnowsBetter$Round", name := "seatFigures", desc := "()I" } : Jvm.MethodName)) ∈ mBG := mem_t3 (i := 4) rfl rfl
theorem tw_3_5 : (Jvm.Cond.code ({ cls := "KnowsBetter$Round", name := "seatFigures", desc := "()I" } : Jvm.MethodName) prog_3_method_23_code (3 : Nat) (Option.some Jvm.ClassFile.FieldType.int)) ∈ mBG := mem_t3 (i := 5) rfl rfl
theorem tw_3_6 : (Jvm.Cond.methodLink "KnowsBetterLaw" (78 : Nat) ({ cls := "KnowsBetter", name := "keepFrom", desc := "(II)I" } : Jvm.MethodName)) ∈ mBG := mem_t3 (i := 6) rfl rfl
theorem tw_3_7 : (Jvm.Cond.instanceMethod ({ cls := "KnowsBetter", name := "keepFrom", desc := "(II)I" } : Jvm.MethodName)) ∈ mBG := mem_t3 (i := 7) rfl rfl
theorem tw_3_8 : (Jvm.Cond.selects "KnowsBetter" ({ cls := "KnowsBetter", name := "keepFrom", desc := "(II)I" } : Jvm.MethodName) ({ cls := "KnowsBetter", name := "keepFrom", desc := "(II)I" } : Jvm.MethodName)) ∈ mBG := mem_t3 (i := 8) rfl rfl
theorem tw_3_9 : (Jvm.Cond.code ({ cls := "KnowsBetter", name := "keepFrom", desc := "(II)I" } : Jvm.MethodName) prog_1_method_17_code (7 : Nat) (Option.some Jvm.ClassFile.FieldType.int)) ∈ mBG := mem_t3 (i := 9) rfl rfl
theorem tw_3_10 : (Jvm.Cond.methodLink "KnowsBetter" (184 : Nat) ({ cls := "KnowsBetter$Table", name := "closure", desc := "(I)I" } : Jvm.MethodName)) ∈ mBG := mem_t3 (i := 10) rfl rfl
theorem tw_3_11 : (Jvm.Cond.methodLink "KnowsBetter" (187 : Nat) ({ cls := "KnowsBetter", name := "isSmaller", desc := "(II)Z" } : Jvm.MethodName)) ∈ mBG := mem_t3 (i := 11) rfl rfl
theorem tw_3_12 : (Jvm.Cond.static ({ cls := "KnowsBetter", name := "isSmaller", desc := "(II)Z" } : Jvm.MethodName)) ∈ mBG := mem_t3 (i := 12) rfl rfl
theorem tw_3_13 : (Jvm.Cond.code ({ cls := "KnowsBetter", name := "isSmaller", desc := "(II)Z" } : Jvm.MethodName) prog_1_method_41_code (2 : Nat) (Option.some Jvm.ClassFile.FieldType.boolean)) ∈ mBG := mem_t3 (i := 13) rfl rfl
theorem tw_3_14 : (Jvm.Cond.methodLink "KnowsBetterLaw" (82 : Nat) ({ cls := "KnowsBetter", name := "learn", desc := "(II)I" } : Jvm.MethodName)) ∈ mBG := mem_t3 (i := 14) rfl rfl
theorem tw_3_15 : (Jvm.Cond.instanceMethod ({ cls := "KnowsBetter", name := "learn", desc := "(II)I" } : Jvm.MethodName)) ∈ mBG := mem_t3 (i := 15) rfl rfl
theorem tw_3_16 : (Jvm.Cond.selects "KnowsBetter" ({ cls := "KnowsBetter", name := "learn", desc := "(II)I" } : Jvm.MethodName) ({ cls := "KnowsBetter", name := "learn", desc := "(II)I" } : Jvm.MethodName)) ∈ mBG := mem_t3 (i := 16) rfl rfl
theorem tw_3_17 : (Jvm.Cond.code ({ cls := "KnowsBetter", name := "learn", desc := "(II)I" } : Jvm.MethodName) prog_1_method_18_code (7 : Nat) (Option.some Jvm.ClassFile.FieldType.int)) ∈ mBG := mem_t3 (i := 17) rfl rfl
theorem tw_3_18 : (Jvm.Cond.methodLink "KnowsBetterLaw" (86 : Nat) ({ cls := "KnowsBetter", name := "judge", desc := "(II)I" } : Jvm.MethodName)) ∈ mBG := mem_t3 (i := 18) rfl rfl
theorem tw_3_19 : (Jvm.Cond.instanceMethod ({ cls := "KnowsBetter", name := "judge", desc := "(II)I" } : Jvm.MethodName)) ∈ mBG := mem_t3 (i := 19) rfl rfl
theorem tw_3_20 : (Jvm.Cond.selects "KnowsBetter" ({ cls := "KnowsBetter", name := "judge", desc := "(II)I" } : Jvm.MethodName) ({ cls := "KnowsBetter", name := "judge", desc := "(II)I" } : Jvm.MethodName)) ∈ mBG := mem_t3 (i := 20) rfl rfl
theorem tw_3_21 : (Jvm.Cond.code ({ cls := "KnowsBetter", name := "judge", desc := "(II)I" } : Jvm.MethodName) prog_1_method_19_code (6 : Nat) (Option.some Jvm.ClassFile.FieldType.int)) ∈ mBG := mem_t3 (i := 21) rfl rfl
theorem tw_3_22 : (Jvm.Cond.methodLink "KnowsBetter" (190 : Nat) ({ cls := "KnowsBetter", name := "thousands", desc := "(I)I" } : Jvm.MethodName)) ∈ mBG := mem_t3 (i := 22) rfl rfl
theorem tw_3_23 : (Jvm.Cond.static ({ cls := "KnowsBetter", name := "thousands", desc := "(I)I" } : Jvm.MethodName)) ∈ mBG := mem_t3 (i := 23) rfl rfl
theorem tw_3_24 : (Jvm.Cond.code ({ cls := "KnowsBetter", name := "thousands", desc := "(I)I" } : Jvm.MethodName) prog_1_method_44_code (1 : Nat) (Option.some Jvm.ClassFile.FieldType.int)) ∈ mBG := mem_t3 (i := 24) rfl rfl
theorem tw_3_25 : (Jvm.Cond.methodLink "KnowsBetter" (220 : Nat) ({ cls := "KnowsBetter", name := "power", desc := "(II)I" } : Jvm.MethodName)) ∈ mBG := mem_t3 (i := 25) rfl rfl
theorem tw_3_26 : (Jvm.Cond.static ({ cls := "KnowsBetter", name := "power", desc := "(II)I" } : Jvm.MethodName)) ∈ mBG := mem_t3 (i := 26) rfl rfl
theorem tw_3_27 : (Jvm.Cond.code ({ cls := "KnowsBetter", name := "power", desc := "(II)I" } : Jvm.MethodName) prog_1_method_43_code (4 : Nat) (Option.some Jvm.ClassFile.FieldType.int)) ∈ mBG := mem_t3 (i := 27) rfl rfl
theorem tw_3_28 : (Jvm.Cond.methodLink "KnowsBetter" (193 : Nat) ({ cls := "java/lang/Math", name := "max", desc := "(II)I" } : Jvm.MethodName)) ∈ mBG := mem_t3 (i := 28) rfl rfl
theorem tw_3_29 : (Jvm.Cond.methodLink "KnowsBetter" (198 : Nat) ({ cls := "KnowsBetter", name := "isPutRight", desc := "(III)Z" } : Jvm.MethodName)) ∈ mBG := mem_t3 (i := 29) rfl rfl
theorem tw_3_31 : (Jvm.Cond.instanceMethod ({ cls := "KnowsBetter", name := "isPutRight", desc := "(III)Z" } : Jvm.MethodName)) ∈ mBG := mem_t3 (i := 31) rfl rfl
theorem tw_3_32 : (Jvm.Cond.code ({ cls := "KnowsBetter", name := "isPutRight", desc := "(III)Z" } : Jvm.MethodName) prog_1_method_36_code (4 : Nat) (Option.some Jvm.ClassFile.FieldType.boolean)) ∈ mBG := mem_t3 (i := 32) rfl rfl
theorem tw_3_33 : (Jvm.Cond.methodLink "KnowsBetterLaw" (90 : Nat) ({ cls := "KnowsBetter", name := "share", desc := "(IZ)I" } : Jvm.MethodName)) ∈ mBG := mem_t3 (i := 33) rfl rfl
theorem tw_3_34 : (Jvm.Cond.instanceMethod ({ cls := "KnowsBetter", name := "share", desc := "(IZ)I" } : Jvm.MethodName)) ∈ mBG := mem_t3 (i := 34) rfl rfl
theorem tw_3_35 : (Jvm.Cond.selects "KnowsBetter" ({ cls := "KnowsBetter", name := "share", desc := "(IZ)I" } : Jvm.MethodName) ({ cls := "KnowsBetter", name := "share", desc := "(IZ)I" } : Jvm.MethodName)) ∈ mBG := mem_t3 (i := 35) rfl rfl
theorem tw_3_36 : (Jvm.Cond.code ({ cls := "KnowsBetter", name := "share", desc := "(IZ)I" } : Jvm.MethodName) prog_1_method_20_code (8 : Nat) (Option.some Jvm.ClassFile.FieldType.int)) ∈ mBG := mem_t3 (i := 36) rfl rfl
theorem tw_3_37 : (Jvm.Cond.methodLink "KnowsBetter" (202 : Nat) ({ cls := "KnowsBetter", name := "factsTogether", desc := "(I)I" } : Jvm.MethodName)) ∈ mBG := mem_t3 (i := 37) rfl rfl
theorem tw_3_39 : (Jvm.Cond.instanceMethod ({ cls := "KnowsBetter", name := "factsTogether", desc := "(I)I" } : Jvm.MethodName)) ∈ mBG := mem_t3 (i := 39) rfl rfl
theorem tw_3_40 : (Jvm.Cond.code ({ cls := "KnowsBetter", name := "factsTogether", desc := "(I)I" } : Jvm.MethodName) prog_1_method_37_code (4 : Nat) (Option.some Jvm.ClassFile.FieldType.int)) ∈ mBG := mem_t3 (i := 40) rfl rfl
theorem tw_3_41 : (Jvm.Cond.methodLink "KnowsBetter" (205 : Nat) ({ cls := "KnowsBetter", name := "lowestTerm", desc := "(IIZ)I" } : Jvm.MethodName)) ∈ mBG := mem_t3 (i := 41) rfl rfl
theorem tw_3_42 : (Jvm.Cond.static ({ cls := "KnowsBetter", name := "lowestTerm", desc := "(IIZ)I" } : Jvm.MethodName)) ∈ mBG := mem_t3 (i := 42) rfl rfl
theorem tw_3_43 : (Jvm.Cond.code ({ cls := "KnowsBetter", name := "lowestTerm", desc := "(IIZ)I" } : Jvm.MethodName) prog_1_method_45_code (4 : Nat) (Option.some Jvm.ClassFile.FieldType.int)) ∈ mBG := mem_t3 (i := 43) rfl rfl
theorem tw_3_44 : (Jvm.Cond.methodLink "KnowsBetter" (256 : Nat) ({ cls := "KnowsBetter", name := "commonDivisor", desc := "(II)I" } : Jvm.MethodName)) ∈ mBG := mem_t3 (i := 44) rfl rfl
theorem tw_3_45 : (Jvm.Cond.static ({ cls := "KnowsBetter", name := "commonDivisor", desc := "(II)I" } : Jvm.MethodName)) ∈ mBG := mem_t3 (i := 45) rfl rfl
theorem tw_3_46 : (Jvm.Cond.code ({ cls := "KnowsBetter", name := "commonDivisor", desc := "(II)I" } : Jvm.MethodName) prog_1_method_46_code (6 : Nat) (Option.some Jvm.ClassFile.FieldType.int)) ∈ mBG := mem_t3 (i := 46) rfl rfl
theorem tw_3_47 : (Jvm.Cond.methodLink "KnowsBetterLaw" (95 : Nat) ({ cls := "KnowsBetter", name := "see", desc := "(II)I" } : Jvm.MethodName)) ∈ mBG := mem_t3 (i := 47) rfl rfl
theorem tw_3_48 : (Jvm.Cond.instanceMethod ({ cls := "KnowsBetter", name := "see", desc := "(II)I" } : Jvm.MethodName)) ∈ mBG := mem_t3 (i := 48) rfl rfl
theorem tw_3_49 : (Jvm.Cond.selects "KnowsBetter" ({ cls := "KnowsBetter", name := "see", desc := "(II)I" } : Jvm.MethodName) ({ cls := "KnowsBetter", name := "see", desc := "(II)I" } : Jvm.MethodName)) ∈ mBG := mem_t3 (i := 49) rfl rfl
theorem tw_3_50 : (Jvm.Cond.code ({ cls := "KnowsBetter", name := "see", desc := "(II)I" } : Jvm.MethodName) prog_1_method_21_code (3 : Nat) (Option.some Jvm.ClassFile.FieldType.int)) ∈ mBG := mem_t3 (i := 50) rfl rfl
theorem tw_3_51 : (Jvm.Cond.methodLink "KnowsBetter" (209 : Nat) ({ cls := "KnowsBetter$Seen", name := "add", desc := "(IZ)I" } : Jvm.MethodName)) ∈ mBG := mem_t3 (i := 51) rfl rfl
theorem tw_3_52 : (Jvm.Cond.instanceMethod ({ cls := "KnowsBetter$Seen", name := "add", desc := "(IZ)I" } : Jvm.MethodName)) ∈ mBG := mem_t3 (i := 52) rfl rfl
theorem tw_3_53 : (Jvm.Cond.selects "KnowsBetter$Seen" ({ cls := "KnowsBetter$Seen", name := "add", desc := "(IZ)I" } : Jvm.MethodName) ({ cls := "KnowsBetter$Seen", name := "add", desc := "(IZ)I" } : Jvm.MethodName)) ∈ mBG := mem_t3 (i := 53) rfl rfl
theorem tw_3_54 : (Jvm.Cond.code ({ cls := "KnowsBetter$Seen", name := "add", desc := "(IZ)I" } : Jvm.MethodName) prog_5_method_3_code (3 : Nat) (Option.some Jvm.ClassFile.FieldType.int)) ∈ mBG := mem_t3 (i := 54) rfl rfl
theorem tw_3_55 : (Jvm.Cond.methodLink "KnowsBetterLaw" (99 : Nat) ({ cls := "KnowsBetter", name := "unsee", desc := "()I" } : Jvm.MethodName)) ∈ mBG := mem_t3 (i := 55) rfl rfl
theorem tw_3_56 : (Jvm.Cond.instanceMethod ({ cls := "KnowsBetter", name := "unsee", desc := "()I" } : Jvm.MethodName)) ∈ mBG := mem_t3 (i := 56) rfl rfl
theorem tw_3_57 : (Jvm.Cond.selects "KnowsBetter" ({ cls := "KnowsBetter", name := "unsee", desc := "()I" } : Jvm.MethodName) ({ cls := "KnowsBetter", name := "unsee", desc := "()I" } : Jvm.MethodName)) ∈ mBG := mem_t3 (i := 57) rfl rfl
theorem tw_3_58 : (Jvm.Cond.code ({ cls := "KnowsBetter", name := "unsee", desc := "()I" } : Jvm.MethodName) prog_1_method_22_code (1 : Nat) (Option.some Jvm.ClassFile.FieldType.int)) ∈ mBG := mem_t3 (i := 58) rfl rfl
theorem tw_3_59 : (Jvm.Cond.methodLink "KnowsBetter" (213 : Nat) ({ cls := "KnowsBetter$Seen", name := "clear", desc := "()I" } : Jvm.MethodName)) ∈ mBG := mem_t3 (i := 59) rfl rfl
theorem tw_3_60 : (Jvm.Cond.instanceMethod ({ cls := "KnowsBetter$Seen", name := "clear", desc := "()I" } : Jvm.MethodName)) ∈ mBG := mem_t3 (i := 60) rfl rfl
theorem tw_3_61 : (Jvm.Cond.selects "KnowsBetter$Seen" ({ cls := "KnowsBetter$Seen", name := "clear", desc := "()I" } : Jvm.MethodName) ({ cls := "KnowsBetter$Seen", name := "clear", desc := "()I" } : Jvm.MethodName)) ∈ mBG := mem_t3 (i := 61) rfl rfl
theorem tw_3_62 : (Jvm.Cond.code ({ cls := "KnowsBetter$Seen", name := "clear", desc := "()I" } : Jvm.MethodName) prog_5_method_4_code (2 : Nat) (Option.some Jvm.ClassFile.FieldType.int)) ∈ mBG := mem_t3 (i := 62) rfl rfl
theorem tw_3_63 : (Jvm.Cond.methodLink "KnowsBetterLaw" (103 : Nat) ({ cls := "KnowsBetter", name := "minds", desc := "(I)I" } : Jvm.MethodName)) ∈ mBG := mem_t3 (i := 63) rfl rfl
theorem tw_3_64 : (Jvm.Cond.instanceMethod ({ cls := "KnowsBetter", name := "minds", desc := "(I)I" } : Jvm.MethodName)) ∈ mBG := mem_t3 (i := 64) rfl rfl
theorem tw_3_65 : (Jvm.Cond.selects "KnowsBetter" ({ cls := "KnowsBetter", name := "minds", desc := "(I)I" } : Jvm.MethodName) ({ cls := "KnowsBetter", name := "minds", desc := "(I)I" } : Jvm.MethodName)) ∈ mBG := mem_t3 (i := 65) rfl rfl
theorem tw_3_66 : (Jvm.Cond.code ({ cls := "KnowsBetter", name := "minds", desc := "(I)I" } : Jvm.MethodName) prog_1_method_23_code (7 : Nat) (Option.some Jvm.ClassFile.FieldType.int)) ∈ mBG := mem_t3 (i := 66) rfl rfl
theorem tw_3_67 : (Jvm.Cond.methodLink "KnowsBetter" (214 : Nat) ({ cls := "KnowsBetter$Seen", name := "allows", desc := "(I)Z" } : Jvm.MethodName)) ∈ mBG := mem_t3 (i := 67) rfl rfl
theorem tw_3_68 : (Jvm.Cond.instanceMethod ({ cls := "KnowsBetter$Seen", name := "allows", desc := "(I)Z" } : Jvm.MethodName)) ∈ mBG := mem_t3 (i := 68) rfl rfl
theorem tw_3_69 : (Jvm.Cond.selects "KnowsBetter$Seen" ({ cls := "KnowsBetter$Seen", name := "allows", desc := "(I)Z" } : Jvm.MethodName) ({ cls := "KnowsBetter$Seen", name := "allows", desc := "(I)Z" } : Jvm.MethodName)) ∈ mBG := mem_t3 (i := 69) rfl rfl
theorem tw_3_70 : (Jvm.Cond.code ({ cls := "KnowsBetter$Seen", name := "allows", desc := "(I)Z" } : Jvm.MethodName) prog_5_method_5_code (2 : Nat) (Option.some Jvm.ClassFile.FieldType.boolean)) ∈ mBG := mem_t3 (i := 70) rfl rfl
theorem tw_3_71 : (Jvm.Cond.methodLink "KnowsBetterLaw" (107 : Nat) ({ cls := "KnowsBetter", name := "rests", desc := "(I)I" } : Jvm.MethodName)) ∈ mBG := mem_t3 (i := 71) rfl rfl
theorem tw_3_72 : (Jvm.Cond.instanceMethod ({ cls := "KnowsBetter", name := "rests", desc := "(I)I" } : Jvm.MethodName)) ∈ mBG := mem_t3 (i := 72) rfl rfl
theorem tw_3_73 : (Jvm.Cond.selects "KnowsBetter" ({ cls := "KnowsBetter", name := "rests", desc := "(I)I" } : Jvm.MethodName) ({ cls := "KnowsBetter", name := "rests", desc := "(I)I" } : Jvm.MethodName)) ∈ mBG := mem_t3 (i := 73) rfl rfl
theorem tw_3_74 : (Jvm.Cond.code ({ cls := "KnowsBetter", name := "rests", desc := "(I)I" } : Jvm.MethodName) prog_1_method_24_code (6 : Nat) (Option.some Jvm.ClassFile.FieldType.int)) ∈ mBG := mem_t3 (i := 74) rfl rfl
theorem tw_3_75 : (Jvm.Cond.methodLink "KnowsBetter" (217 : Nat) ({ cls := "KnowsBetter", name := "isBestWait", desc := "(II)Z" } : Jvm.MethodName)) ∈ mBG := mem_t3 (i := 75) rfl rfl
theorem tw_3_76 : (Jvm.Cond.static ({ cls := "KnowsBetter", name := "isBestWait", desc := "(II)Z" } : Jvm.MethodName)) ∈ mBG := mem_t3 (i := 76) rfl rfl
theorem tw_3_77 : (Jvm.Cond.code ({ cls := "KnowsBetter", name := "isBestWait", desc := "(II)Z" } : Jvm.MethodName) prog_1_method_38_code (3 : Nat) (Option.some Jvm.ClassFile.FieldType.boolean)) ∈ mBG := mem_t3 (i := 77) rfl rfl
theorem tw_3_78 : (Jvm.Cond.methodLink "KnowsBetter" (250 : Nat) ({ cls := "KnowsBetter", name := "waitCost", desc := "(II)I" } : Jvm.MethodName)) ∈ mBG := mem_t3 (i := 78) rfl rfl
theorem tw_3_79 : (Jvm.Cond.static ({ cls := "KnowsBetter", name := "waitCost", desc := "(II)I" } : Jvm.MethodName)) ∈ mBG := mem_t3 (i := 79) rfl rfl
theorem tw_3_80 : (Jvm.Cond.code ({ cls := "KnowsBetter", name := "waitCost", desc := "(II)I" } : Jvm.MethodName) prog_1_method_39_code (2 : Nat) (Option.some Jvm.ClassFile.FieldType.int)) ∈ mBG := mem_t3 (i := 80) rfl rfl
theorem tw_3_81 : (Jvm.Cond.methodLink "KnowsBetter" (253 : Nat) ({ cls := "java/lang/Math", name := "min", desc := "(II)I" } : Jvm.MethodName)) ∈ mBG := mem_t3 (i := 81) rfl rfl
theorem tw_3_82 : (Jvm.Cond.methodLink "KnowsBetterLaw" (111 : Nat) ({ cls := "KnowsBetter", name := "deaf", desc := "(IIIIZ)I" } : Jvm.MethodName)) ∈ mBG := mem_t3 (i := 82) rfl rfl
theorem tw_3_83 : (Jvm.Cond.instanceMethod ({ cls := "KnowsBetter", name := "deaf", desc := "(IIIIZ)I" } : Jvm.MethodName)) ∈ mBG := mem_t3 (i := 83) rfl rfl
theorem tw_3_84 : (Jvm.Cond.selects "KnowsBetter" ({ cls := "KnowsBetter", name := "deaf", desc := "(IIIIZ)I" } : Jvm.MethodName) ({ cls := "KnowsBetter", name := "deaf", desc := "(IIIIZ)I" } : Jvm.MethodName)) ∈ mBG := mem_t3 (i := 84) rfl rfl
theorem tw_3_85 : (Jvm.Cond.code ({ cls := "KnowsBetter", name := "deaf", desc := "(IIIIZ)I" } : Jvm.MethodName) prog_1_method_25_code (8 : Nat) (Option.some Jvm.ClassFile.FieldType.int)) ∈ mBG := mem_t3 (i := 85) rfl rfl
theorem tw_3_86 : (Jvm.Cond.methodLink "KnowsBetterLaw" (118 : Nat) ({ cls := "KnowsBetter", name := "seed", desc := "(J)J" } : Jvm.MethodName)) ∈ mBG := mem_t3 (i := 86) rfl rfl
theorem tw_3_87 : (Jvm.Cond.instanceMethod ({ cls := "KnowsBetter", name := "seed", desc := "(J)J" } : Jvm.MethodName)) ∈ mBG := mem_t3 (i := 87) rfl rfl
theorem tw_3_88 : (Jvm.Cond.selects "KnowsBetter" ({ cls := "KnowsBetter", name := "seed", desc := "(J)J" } : Jvm.MethodName) ({ cls := "KnowsBetter", name := "seed", desc := "(J)J" } : Jvm.MethodName)) ∈ mBG := mem_t3 (i := 88) rfl rfl
theorem tw_3_89 : (Jvm.Cond.code ({ cls := "KnowsBetter", name := "seed", desc := "(J)J" } : Jvm.MethodName) prog_1_method_26_code (5 : Nat) (Option.some Jvm.ClassFile.FieldType.long)) ∈ mBG := mem_t3 (i := 89) rfl rfl
theorem tw_3_90 : (Jvm.Cond.methodLink "KnowsBetterLaw" (123 : Nat) ({ cls := "KnowsBetter", name := "evenings", desc := "(I)I" } : Jvm.MethodName)) ∈ mBG := mem_t3 (i := 90) rfl rfl
theorem tw_3_91 : (Jvm.Cond.instanceMethod ({ cls := "KnowsBetter", name := "evenings", desc := "(I)I" } : Jvm.MethodName)) ∈ mBG := mem_t3 (i := 91) rfl rfl
theorem tw_3_92 : (Jvm.Cond.selects "KnowsBetter" ({ cls := "KnowsBetter", name := "evenings", desc := "(I)I" } : Jvm.MethodName) ({ cls := "KnowsBetter", name := "evenings", desc := "(I)I" } : Jvm.MethodName)) ∈ mBG := mem_t3 (i := 92) rfl rfl
theorem tw_3_93 : (Jvm.Cond.code ({ cls := "KnowsBetter", name := "evenings", desc := "(I)I" } : Jvm.MethodName) prog_1_method_27_code (6 : Nat) (Option.some Jvm.ClassFile.FieldType.int)) ∈ mBG := mem_t3 (i := 93) rfl rfl
theorem tw_3_94 : (Jvm.Cond.constantLong "KnowsBetter" (227 : Nat) (6364136223846793005 : Int64)) ∈ mBG := mem_t3 (i := 94) rfl rfl
theorem tw_3_95 : (Jvm.Cond.constantLong "KnowsBetter" (229 : Nat) (1442695040888963407 : Int64)) ∈ mBG := mem_t3 (i := 95) rfl rfl
theorem tw_3_96 : (Jvm.Cond.methodLink "KnowsBetterLaw" (127 : Nat) ({ cls := "KnowsBetter", name := "keep", desc := "(I)I" } : Jvm.MethodName)) ∈ mBG := mem_t3 (i := 96) rfl rfl
theorem tw_3_97 : (Jvm.Cond.instanceMethod ({ cls := "KnowsBetter", name := "keep", desc := "(I)I" } : Jvm.MethodName)) ∈ mBG := mem_t3 (i := 97) rfl rfl
theorem tw_3_98 : (Jvm.Cond.selects "KnowsBetter" ({ cls := "KnowsBetter", name := "keep", desc := "(I)I" } : Jvm.MethodName) ({ cls := "KnowsBetter", name := "keep", desc := "(I)I" } : Jvm.MethodName)) ∈ mBG := mem_t3 (i := 98) rfl rfl
theorem tw_3_99 : (Jvm.Cond.code ({ cls := "KnowsBetter", name := "keep", desc := "(I)I" } : Jvm.MethodName) prog_1_method_28_code (2 : Nat) (Option.some Jvm.ClassFile.FieldType.int)) ∈ mBG := mem_t3 (i := 99) rfl rfl
theorem tw_3_100 : (Jvm.Cond.methodLink "KnowsBetter" (231 : Nat) ({ cls := "KnowsBetter", name := "isSlot", desc := "(I)Z" } : Jvm.MethodName)) ∈ mBG := mem_t3 (i := 100) rfl rfl
theorem tw_3_101 : (Jvm.Cond.static ({ cls := "KnowsBetter", name := "isSlot", desc := "(I)Z" } : Jvm.MethodName)) ∈ mBG := mem_t3 (i := 101) rfl rfl
theorem tw_3_102 : (Jvm.Cond.code ({ cls := "KnowsBetter", name := "isSlot", desc := "(I)Z" } : Jvm.MethodName) prog_1_method_33_code (1 : Nat) (Option.some Jvm.ClassFile.FieldType.boolean)) ∈ mBG := mem_t3 (i := 102) rfl rfl
theorem tw_3_103 : (Jvm.Cond.methodLink "KnowsBetter" (234 : Nat) ({ cls := "KnowsBetter$Shelf", name := "store", desc := "(ILKnowsBetter$Round;)V" } : Jvm.MethodName)) ∈ mBG := mem_t3 (i := 103) rfl rfl
theorem tw_3_104 : (Jvm.Cond.methodLink "KnowsBetterLaw" (131 : Nat) ({ cls := "KnowsBetter", name := "again", desc := "(I)I" } : Jvm.MethodName)) ∈ mBG := mem_t3 (i := 104) rfl rfl
theorem tw_3_105 : (Jvm.Cond.instanceMethod ({ cls := "KnowsBetter", name := "again", desc := "(I)I" } : Jvm.MethodName)) ∈ mBG := mem_t3 (i := 105) rfl rfl
theorem tw_3_106 : (Jvm.Cond.selects "KnowsBetter" ({ cls := "KnowsBetter", name := "again", desc := "(I)I" } : Jvm.MethodName) ({ cls := "KnowsBetter", name := "again", desc := "(I)I" } : Jvm.MethodName)) ∈ mBG := mem_t3 (i := 106) rfl rfl
theorem tw_3_107 : (Jvm.Cond.code ({ cls := "KnowsBetter", name := "again", desc := "(I)I" } : Jvm.MethodName) prog_1_method_29_code (2 : Nat) (Option.some Jvm.ClassFile.FieldType.int)) ∈ mBG := mem_t3 (i := 107) rfl rfl
theorem tw_3_108 : (Jvm.Cond.methodLink "KnowsBetter" (238 : Nat) ({ cls := "KnowsBetter$Shelf", name := "fetch", desc := "(ILKnowsBetter$Round;)V" } : Jvm.MethodName)) ∈ mBG := mem_t3 (i := 108) rfl rfl
theorem tw_3_109 : (Jvm.Cond.classLink "KnowsBetterLaw" (10 : Nat) "KnowsBetterModel") ∈ mBG := mem_t3 (i := 109) rfl rfl
theorem tw_3_110 : (Jvm.Cond.instantiable "KnowsBetterModel" (31 : Nat)) ∈ mBG := mem_t3 (i := 110) rfl rfl
theorem tw_3_111 : (Jvm.Cond.methodLink "KnowsBetterLaw" (12 : Nat) ({ cls := "KnowsBetterModel", name := "<init>", desc := "()V" } : Jvm.MethodName)) ∈ mBG := mem_t3 (i := 111) rfl rfl
theorem tw_3_112 : (Jvm.Cond.instanceMethod ({ cls := "KnowsBetterModel", name := "<init>", desc := "()V" } : Jvm.MethodName)) ∈ mBG := mem_t3 (i := 112) rfl rfl
theorem tw_3_113 : (Jvm.Cond.code ({ cls := "KnowsBetterModel", name := "<init>", desc := "()V" } : Jvm.MethodName) prog_10_method_1_code (1 : Nat) (Option.none : Option Jvm.ClassFile.FieldType)) ∈ mBG := mem_t3 (i := 113) rfl rfl
theorem tw_3_114 : (Jvm.Cond.methodLink "KnowsBetterModel" (1 : Nat) ({ cls := "java/lang/Object", name := "<init>", desc := "()V" } : Jvm.MethodName)) ∈ mBG := mem_t3 (i := 114) rfl rfl
theorem tw_3_115 : (Jvm.Cond.fieldLink "KnowsBetterModel" (53 : Nat) "KnowsBetterModel" "thrown" "I") ∈ mBG := mem_t3 (i := 115) rfl rfl
theorem tw_3_116 : (Jvm.Cond.fieldLink "KnowsBetterModel" (7 : Nat) "KnowsBetterModel" "text" "[I") ∈ mBG := mem_t3 (i := 116) rfl rfl
theorem tw_3_117 : (Jvm.Cond.fieldLink "KnowsBetterModel" (68 : Nat) "KnowsBetterModel" "textSize" "I") ∈ mBG := mem_t3 (i := 117) rfl rfl
theorem tw_3_118 : (Jvm.Cond.fieldLink "KnowsBetterModel" (71 : Nat) "KnowsBetterModel" "place" "I") ∈ mBG := mem_t3 (i := 118) rfl rfl
theorem tw_3_119 : (Jvm.Cond.fieldLink "KnowsBetterModel" (57 : Nat) "KnowsBetterModel" "people" "I") ∈ mBG := mem_t3 (i := 119) rfl rfl
theorem tw_3_120 : (Jvm.Cond.fieldLink "KnowsBetterModel" (13 : Nat) "KnowsBetterModel" "kind" "[I") ∈ mBG := mem_t3 (i := 120) rfl rfl
theorem tw_3_121 : (Jvm.Cond.fieldLink "KnowsBetterModel" (98 : Nat) "KnowsBetterModel" "rules" "I") ∈ mBG := mem_t3 (i := 121) rfl rfl
theorem tw_3_122 : (Jvm.Cond.fieldLink "KnowsBetterModel" (16 : Nat) "KnowsBetterModel" "rule" "[I") ∈ mBG := mem_t3 (i := 122) rfl rfl
theorem tw_3_123 : (Jvm.Cond.fieldLink "KnowsBetterModel" (78 : Nat) "KnowsBetterModel" "readPeople" "I") ∈ mBG := mem_t3 (i := 123) rfl rfl
theorem tw_3_124 : (Jvm.Cond.fieldLink "KnowsBetterModel" (19 : Nat) "KnowsBetterModel" "readKind" "[I") ∈ mBG := mem_t3 (i := 124) rfl rfl
theorem tw_3_125 : (Jvm.Cond.fieldLink "KnowsBetterModel" (22 : Nat) "KnowsBetterModel" "readTold" "[I") ∈ mBG := mem_t3 (i := 125) rfl rfl
theorem tw_3_126 : (Jvm.Cond.fieldLink "KnowsBetterModel" (81 : Nat) "KnowsBetterModel" "readRules" "I") ∈ mBG := mem_t3 (i := 126) rfl rfl
theorem tw_3_127 : (Jvm.Cond.fieldLink "KnowsBetterModel" (25 : Nat) "KnowsBetterModel" "readRule" "[I") ∈ mBG := mem_t3 (i := 127) rfl rfl
theorem tw_3_128 : (Jvm.Cond.fieldLink "KnowsBetterModel" (28 : Nat) "KnowsBetterModel" "page" "[I") ∈ mBG := mem_t3 (i := 128) rfl rfl
theorem tw_3_129 : (Jvm.Cond.fieldLink "KnowsBetterModel" (31 : Nat) "KnowsBetterModel" "trial" "[I") ∈ mBG := mem_t3 (i := 129) rfl rfl
theorem tw_3_130 : (Jvm.Cond.fieldLink "KnowsBetterModel" (34 : Nat) "KnowsBetterModel" "book" "[I") ∈ mBG := mem_t3 (i := 130) rfl rfl
theorem tw_3_131 : (Jvm.Cond.fieldLink "KnowsBetterModel" (101 : Nat) "KnowsBetterModel" "acts" "I") ∈ mBG := mem_t3 (i := 131) rfl rfl
theorem tw_3_132 : (Jvm.Cond.fieldLink "KnowsBetterModel" (37 : Nat) "KnowsBetterModel" "kept" "[I") ∈ mBG := mem_t3 (i := 132) rfl rfl
theorem tw_3_133 : (Jvm.Cond.fieldLink "KnowsBetterModel" (40 : Nat) "KnowsBetterModel" "isKept" "[Z") ∈ mBG := mem_t3 (i := 133) rfl rfl
theorem tw_3_134 : (Jvm.Cond.fieldLink "KnowsBetterModel" (124 : Nat) "KnowsBetterModel" "seen" "I") ∈ mBG := mem_t3 (i := 134) rfl rfl
theorem tw_3_135 : (Jvm.Cond.fieldLink "KnowsBetterModel" (44 : Nat) "KnowsBetterModel" "seenFact" "[I") ∈ mBG := mem_t3 (i := 135) rfl rfl
theorem tw_3_136 : (Jvm.Cond.fieldLink "KnowsBetterModel" (47 : Nat) "KnowsBetterModel" "seenSpoke" "[I") ∈ mBG := mem_t3 (i := 136) rfl rfl
theorem tw_3_137 : (Jvm.Cond.fieldLink "KnowsBetterModel" (216 : Nat) "KnowsBetterModel" "seed" "J") ∈ mBG := mem_t3 (i := 137) rfl rfl
theorem tw_3_138 : (Jvm.Cond.fieldLink "KnowsBetterModel" (165 : Nat) "KnowsBetterModel" "seatMany" "I") ∈ mBG := mem_t3 (i := 138) rfl rfl
theorem tw_3_139 : (Jvm.Cond.fieldLink "KnowsBetterModel" (168 : Nat) "KnowsBetterModel" "seatFigures" "I") ∈ mBG := mem_t3 (i := 139) rfl rfl
theorem tw_3_140 : (Jvm.Cond.fieldLink "KnowsBetterModel" (190 : Nat) "KnowsBetterModel" "mindMany" "I") ∈ mBG := mem_t3 (i := 140) rfl rfl
theorem tw_3_141 : (Jvm.Cond.fieldLink "KnowsBetterModel" (193 : Nat) "KnowsBetterModel" "mindAll" "I") ∈ mBG := mem_t3 (i := 141) rfl rfl
theorem tw_3_142 : (Jvm.Cond.fieldLink "KnowsBetterModel" (196 : Nat) "KnowsBetterModel" "mindSome" "I") ∈ mBG := mem_t3 (i := 142) rfl rfl
theorem tw_3_143 : (Jvm.Cond.fieldLink "KnowsBetterModel" (202 : Nat) "KnowsBetterModel" "restMany" "I") ∈ mBG := mem_t3 (i := 143) rfl rfl
theorem tw_3_144 : (Jvm.Cond.fieldLink "KnowsBetterModel" (205 : Nat) "KnowsBetterModel" "restFirst" "I") ∈ mBG := mem_t3 (i := 144) rfl rfl
theorem tw_3_145 : (Jvm.Cond.fieldLink "KnowsBetterModel" (50 : Nat) "KnowsBetterModel" "value" "[I") ∈ mBG := mem_t3 (i := 145) rfl rfl
theorem tw_3_146 : (Jvm.Cond.lays "KnowsBetterModel" "KnowsBetterModel" "thrown" "I") ∈ mBG := mem_t3 (i := 146) rfl rfl
theorem tw_3_148 : (Jvm.Cond.laysFinal "KnowsBetterModel" "KnowsBetterModel" "text" "[I") ∈ mBG := mem_t3 (i := 148) rfl rfl
theorem tw_3_150 : (Jvm.Cond.lays "KnowsBetterModel" "KnowsBetterModel" "textSize" "I") ∈ mBG := mem_t3 (i := 150) rfl rfl
theorem tw_3_152 : (Jvm.Cond.lays "KnowsBetterModel" "KnowsBetterModel" "place" "I") ∈ mBG := mem_t3 (i := 152) rfl rfl
theorem tw_3_154 : (Jvm.Cond.lays "KnowsBetterModel" "KnowsBetterModel" "people" "I") ∈ mBG := mem_t3 (i := 154) rfl rfl
theorem tw_3_156 : (Jvm.Cond.laysFinal "KnowsBetterModel" "KnowsBetterModel" "kind" "[I") ∈ mBG := mem_t3 (i := 156) rfl rfl
theorem tw_3_158 : (Jvm.Cond.lays "KnowsBetterModel" "KnowsBetterModel" "rules" "I") ∈ mBG := mem_t3 (i := 158) rfl rfl
theorem tw_3_160 : (Jvm.Cond.laysFinal "KnowsBetterModel" "KnowsBetterModel" "rule" "[I") ∈ mBG := mem_t3 (i := 160) rfl rfl
theorem tw_3_162 : (Jvm.Cond.lays "KnowsBetterModel" "KnowsBetterModel" "readPeople" "I") ∈ mBG := mem_t3 (i := 162) rfl rfl
theorem tw_3_164 : (Jvm.Cond.laysFinal "KnowsBetterModel" "KnowsBetterModel" "readKind" "[I") ∈ mBG := mem_t3 (i := 164) rfl rfl
theorem tw_3_166 : (Jvm.Cond.laysFinal "KnowsBetterModel" "KnowsBetterModel" "readTold" "[I") ∈ mBG := mem_t3 (i := 166) rfl rfl
theorem tw_3_168 : (Jvm.Cond.lays "KnowsBetterModel" "KnowsBetterModel" "readRules" "I") ∈ mBG := mem_t3 (i := 168) rfl rfl
theorem tw_3_170 : (Jvm.Cond.laysFinal "KnowsBetterModel" "KnowsBetterModel" "readRule" "[I") ∈ mBG := mem_t3 (i := 170) rfl rfl
theorem tw_3_172 : (Jvm.Cond.laysFinal "KnowsBetterModel" "KnowsBetterModel" "page" "[I") ∈ mBG := mem_t3 (i := 172) rfl rfl
theorem tw_3_174 : (Jvm.Cond.laysFinal "KnowsBetterModel" "KnowsBetterModel" "trial" "[I") ∈ mBG := mem_t3 (i := 174) rfl rfl
theorem tw_3_176 : (Jvm.Cond.laysFinal "KnowsBetterModel" "KnowsBetterModel" "book" "[I") ∈ mBG := mem_t3 (i := 176) rfl rfl
theorem tw_3_178 : (Jvm.Cond.lays "KnowsBetterModel" "KnowsBetterModel" "acts" "I") ∈ mBG := mem_t3 (i := 178) rfl rfl
theorem tw_3_180 : (Jvm.Cond.laysFinal "KnowsBetterModel" "KnowsBetterModel" "kept" "[I") ∈ mBG := mem_t3 (i := 180) rfl rfl
theorem tw_3_182 : (Jvm.Cond.laysFinal "KnowsBetterModel" "KnowsBetterModel" "isKept" "[Z") ∈ mBG := mem_t3 (i := 182) rfl rfl
theorem tw_3_184 : (Jvm.Cond.lays "KnowsBetterModel" "KnowsBetterModel" "seen" "I") ∈ mBG := mem_t3 (i := 184) rfl rfl
theorem tw_3_186 : (Jvm.Cond.laysFinal "KnowsBetterModel" "KnowsBetterModel" "seenFact" "[I") ∈ mBG := mem_t3 (i := 186) rfl rfl
theorem tw_3_188 : (Jvm.Cond.laysFinal "KnowsBetterModel" "KnowsBetterModel" "seenSpoke" "[I") ∈ mBG := mem_t3 (i := 188) rfl rfl
theorem tw_3_190 : (Jvm.Cond.lays "KnowsBetterModel" "KnowsBetterModel" "seed" "J") ∈ mBG := mem_t3 (i := 190) rfl rfl
theorem tw_3_192 : (Jvm.Cond.lays "KnowsBetterModel" "KnowsBetterModel" "seatMany" "I") ∈ mBG := mem_t3 (i := 192) rfl rfl
theorem tw_3_194 : (Jvm.Cond.lays "KnowsBetterModel" "KnowsBetterModel" "seatFigures" "I") ∈ mBG := mem_t3 (i := 194) rfl rfl
theorem tw_3_196 : (Jvm.Cond.lays "KnowsBetterModel" "KnowsBetterModel" "mindMany" "I") ∈ mBG := mem_t3 (i := 196) rfl rfl
theorem tw_3_198 : (Jvm.Cond.lays "KnowsBetterModel" "KnowsBetterModel" "mindAll" "I") ∈ mBG := mem_t3 (i := 198) rfl rfl
theorem tw_3_200 : (Jvm.Cond.lays "KnowsBetterModel" "KnowsBetterModel" "mindSome" "I") ∈ mBG := mem_t3 (i := 200) rfl rfl
theorem tw_3_202 : (Jvm.Cond.lays "KnowsBetterModel" "KnowsBetterModel" "restMany" "I") ∈ mBG := mem_t3 (i := 202) rfl rfl
theorem tw_3_204 : (Jvm.Cond.lays "KnowsBetterModel" "KnowsBetterModel" "restFirst" "I") ∈ mBG := mem_t3 (i := 204) rfl rfl
theorem tw_3_206 : (Jvm.Cond.laysFinal "KnowsBetterModel" "KnowsBetterModel" "value" "[I") ∈ mBG := mem_t3 (i := 206) rfl rfl
theorem tw_3_209 : (Jvm.Cond.arrayClass Jvm.ClassFile.FieldType.boolean) ∈ mBG := mem_t3 (i := 209) rfl rfl
theorem tw_3_210 : (Jvm.Cond.methodLink "KnowsBetterLaw" (17 : Nat) ({ cls := "KnowsBetterModel", name := "write", desc := "(I)I" } : Jvm.MethodName)) ∈ mBG := mem_t3 (i := 210) rfl rfl
theorem tw_3_211 : (Jvm.Cond.instanceMethod ({ cls := "KnowsBetterModel", name := "write", desc := "(I)I" } : Jvm.MethodName)) ∈ mBG := mem_t3 (i := 211) rfl rfl
theorem tw_3_212 : (Jvm.Cond.selects "KnowsBetterModel" ({ cls := "KnowsBetterModel", name := "write", desc := "(I)I" } : Jvm.MethodName) ({ cls := "KnowsBetterModel", name := "write", desc := "(I)I" } : Jvm.MethodName)) ∈ mBG := mem_t3 (i := 212) rfl rfl
theorem tw_3_213 : (Jvm.Cond.code ({ cls := "KnowsBetterModel", name := "write", desc := "(I)I" } : Jvm.MethodName) prog_10_method_8_code (2 : Nat) (Option.some Jvm.ClassFile.FieldType.int)) ∈ mBG := mem_t3 (i := 213) rfl rfl
theorem tw_3_214 : (Jvm.Cond.constantLong "KnowsBetterModel" (66 : Nat) (255 : Int64)) ∈ mBG := mem_t3 (i := 214) rfl rfl
theorem tw_3_215 : (Jvm.Cond.methodLink "KnowsBetterModel" (60 : Nat) ({ cls := "KnowsBetterModel", name := "in", desc := "(JJJ)Z" } : Jvm.MethodName)) ∈ mBG := mem_t3 (i := 215) rfl rfl
theorem tw_3_216 : (Jvm.Cond.static ({ cls := "KnowsBetterModel", name := "in", desc := "(JJJ)Z" } : Jvm.MethodName)) ∈ mBG := mem_t3 (i := 216) rfl rfl
theorem tw_3_217 : (Jvm.Cond.code ({ cls := "KnowsBetterModel", name := "in", desc := "(JJJ)Z" } : Jvm.MethodName) prog_10_method_3_code (6 : Nat) (Option.some Jvm.ClassFile.FieldType.boolean)) ∈ mBG := mem_t3 (i := 217) rfl rfl
theorem tw_3_218 : (Jvm.Cond.methodLink "KnowsBetterLaw" (22 : Nat) ({ cls := "KnowsBetterModel", name := "wipe", desc := "()I" } : Jvm.MethodName)) ∈ mBG := mem_t3 (i := 218) rfl rfl
theorem tw_3_219 : (Jvm.Cond.instanceMethod ({ cls := "KnowsBetterModel", name := "wipe", desc := "()I" } : Jvm.MethodName)) ∈ mBG := mem_t3 (i := 219) rfl rfl
theorem tw_3_220 : (Jvm.Cond.selects "KnowsBetterModel" ({ cls := "KnowsBetterModel", name := "wipe", desc := "()I" } : Jvm.MethodName) ({ cls := "KnowsBetterModel", name := "wipe", desc := "()I" } : Jvm.MethodName)) ∈ mBG := mem_t3 (i := 220) rfl rfl
theorem tw_3_221 : (Jvm.Cond.code ({ cls := "KnowsBetterModel", name := "wipe", desc := "()I" } : Jvm.MethodName) prog_10_method_9_code (2 : Nat) (Option.some Jvm.ClassFile.FieldType.int)) ∈ mBG := mem_t3 (i := 221) rfl rfl
theorem tw_3_222 : (Jvm.Cond.methodLink "KnowsBetterLaw" (26 : Nat) ({ cls := "KnowsBetterModel", name := "fault", desc := "()I" } : Jvm.MethodName)) ∈ mBG := mem_t3 (i := 222) rfl rfl
theorem tw_3_223 : (Jvm.Cond.instanceMethod ({ cls := "KnowsBetterModel", name := "fault", desc := "()I" } : Jvm.MethodName)) ∈ mBG := mem_t3 (i := 223) rfl rfl
theorem tw_3_224 : (Jvm.Cond.selects "KnowsBetterModel" ({ cls := "KnowsBetterModel", name := "fault", desc := "()I" } : Jvm.MethodName) ({ cls := "KnowsBetterModel", name := "fault", desc := "()I" } : Jvm.MethodName)) ∈ mBG := mem_t3 (i := 224) rfl rfl
theorem tw_3_225 : (Jvm.Cond.code ({ cls := "KnowsBetterModel", name := "fault", desc := "()I" } : Jvm.MethodName) prog_10_method_15_code (1 : Nat) (Option.some Jvm.ClassFile.FieldType.int)) ∈ mBG := mem_t3 (i := 225) rfl rfl
theorem tw_3_226 : (Jvm.Cond.methodLink "KnowsBetterModel" (94 : Nat) ({ cls := "KnowsBetterModel", name := "readTable", desc := "()I" } : Jvm.MethodName)) ∈ mBG := mem_t3 (i := 226) rfl rfl
theorem tw_3_228 : (Jvm.Cond.instanceMethod ({ cls := "KnowsBetterModel", name := "readTable", desc := "()I" } : Jvm.MethodName)) ∈ mBG := mem_t3 (i := 228) rfl rfl
theorem tw_3_229 : (Jvm.Cond.code ({ cls := "KnowsBetterModel", name := "readTable", desc := "()I" } : Jvm.MethodName) prog_10_method_14_code (1 : Nat) (Option.some Jvm.ClassFile.FieldType.int)) ∈ mBG := mem_t3 (i := 229) rfl rfl
theorem tw_3_230 : (Jvm.Cond.methodLink "KnowsBetterModel" (91 : Nat) ({ cls := "KnowsBetterModel", name := "readPart", desc := "()Z" } : Jvm.MethodName)) ∈ mBG := mem_t3 (i := 230) rfl rfl
theorem tw_3_232 : (Jvm.Cond.instanceMethod ({ cls := "KnowsBetterModel", name := "readPart", desc := "()Z" } : Jvm.MethodName)) ∈ mBG := mem_t3 (i := 232) rfl rfl
theorem tw_3_233 : (Jvm.Cond.code ({ cls := "KnowsBetterModel", name := "readPart", desc := "()Z" } : Jvm.MethodName) prog_10_method_13_code (2 : Nat) (Option.some Jvm.ClassFile.FieldType.boolean)) ∈ mBG := mem_t3 (i := 233) rfl rfl
theorem tw_3_234 : (Jvm.Cond.methodLink "KnowsBetterModel" (84 : Nat) ({ cls := "KnowsBetterModel", name := "readPerson", desc := "()Z" } : Jvm.MethodName)) ∈ mBG := mem_t3 (i := 234) rfl rfl
theorem tw_3_236 : (Jvm.Cond.instanceMethod ({ cls := "KnowsBetterModel", name := "readPerson", desc := "()Z" } : Jvm.MethodName)) ∈ mBG := mem_t3 (i := 236) rfl rfl
theorem tw_3_237 : (Jvm.Cond.code ({ cls := "KnowsBetterModel", name := "readPerson", desc := "()Z" } : Jvm.MethodName) prog_10_method_11_code (4 : Nat) (Option.some Jvm.ClassFile.FieldType.boolean)) ∈ mBG := mem_t3 (i := 237) rfl rfl
theorem tw_3_238 : (Jvm.Cond.methodLink "KnowsBetterModel" (74 : Nat) ({ cls := "KnowsBetterModel", name := "sign", desc := "(II)I" } : Jvm.MethodName)) ∈ mBG := mem_t3 (i := 238) rfl rfl
theorem tw_4_0 : (Jvm.Cond.instanceMethod ({ cls := "KnowsBetterModel", name := "sign", desc := "(II)I" } : Jvm.MethodName)) ∈ mBG := mem_t4 (i := 0) rfl rfl
theorem tw_4_1 : (Jvm.Cond.code ({ cls := "KnowsBetterModel", name := "sign", desc := "(II)I" } : Jvm.MethodName) prog_10_method_10_code (3 : Nat) (Option.some Jvm.ClassFile.FieldType.int)) ∈ mBG := mem_t4 (i := 1) rfl rfl
theorem tw_4_2 : (Jvm.Cond.methodLink "KnowsBetterModel" (88 : Nat) ({ cls := "KnowsBetterModel", name := "readOne", desc := "()Z" } : Jvm.MethodName)) ∈ mBG := mem_t4 (i := 2) rfl rfl
theorem tw_4_4 : (Jvm.Cond.instanceMethod ({ cls := "KnowsBetterModel", name := "readOne", desc := "()Z" } : Jvm.MethodName)) ∈ mBG := mem_t4 (i := 4) rfl rfl
theorem tw_4_5 : (Jvm.Cond.code ({ cls := "KnowsBetterModel", name := "readOne", desc := "()Z" } : Jvm.MethodName) prog_10_method_12_code (3 : Nat) (Option.some Jvm.ClassFile.FieldType.boolean)) ∈ mBG := mem_t4 (i := 5) rfl rfl
theorem tw_4_6 : (Jvm.Cond.methodLink "KnowsBetterLaw" (30 : Nat) ({ cls := "KnowsBetterModel", name := "table", desc := "()I" } : Jvm.MethodName)) ∈ mBG := mem_t4 (i := 6) rfl rfl
theorem tw_4_7 : (Jvm.Cond.instanceMethod ({ cls := "KnowsBetterModel", name := "table", desc := "()I" } : Jvm.MethodName)) ∈ mBG := mem_t4 (i := 7) rfl rfl
theorem tw_4_8 : (Jvm.Cond.selects "KnowsBetterModel" ({ cls := "KnowsBetterModel", name := "table", desc := "()I" } : Jvm.MethodName) ({ cls := "KnowsBetterModel", name := "table", desc := "()I" } : Jvm.MethodName)) ∈ mBG := mem_t4 (i := 8) rfl rfl
theorem tw_4_9 : (Jvm.Cond.code ({ cls := "KnowsBetterModel", name := "table", desc := "()I" } : Jvm.MethodName) prog_10_method_16_code (2 : Nat) (Option.some Jvm.ClassFile.FieldType.int)) ∈ mBG := mem_t4 (i := 9) rfl rfl
theorem tw_4_10 : (Jvm.Cond.methodLink "KnowsBetterLaw" (34 : Nat) ({ cls := "KnowsBetterModel", name := "about", desc := "(I)I" } : Jvm.MethodName)) ∈ mBG := mem_t4 (i := 10) rfl rfl
theorem tw_4_11 : (Jvm.Cond.instanceMethod ({ cls := "KnowsBetterModel", name := "about", desc := "(I)I" } : Jvm.MethodName)) ∈ mBG := mem_t4 (i := 11) rfl rfl
theorem tw_4_12 : (Jvm.Cond.selects "KnowsBetterModel" ({ cls := "KnowsBetterModel", name := "about", desc := "(I)I" } : Jvm.MethodName) ({ cls := "KnowsBetterModel", name := "about", desc := "(I)I" } : Jvm.MethodName)) ∈ mBG := mem_t4 (i := 12) rfl rfl
theorem tw_4_13 : (Jvm.Cond.code ({ cls := "KnowsBetterModel", name := "about", desc := "(I)I" } : Jvm.MethodName) prog_10_method_23_code (4 : Nat) (Option.some Jvm.ClassFile.FieldType.int)) ∈ mBG := mem_t4 (i := 13) rfl rfl
theorem tw_4_14 : (Jvm.Cond.methodLink "KnowsBetterModel" (116 : Nat) ({ cls := "KnowsBetterModel", name := "closed", desc := "(I)I" } : Jvm.MethodName)) ∈ mBG := mem_t4 (i := 14) rfl rfl
theorem tw_4_16 : (Jvm.Cond.instanceMethod ({ cls := "KnowsBetterModel", name := "closed", desc := "(I)I" } : Jvm.MethodName)) ∈ mBG := mem_t4 (i := 16) rfl rfl
theorem tw_4_17 : (Jvm.Cond.code ({ cls := "KnowsBetterModel", name := "closed", desc := "(I)I" } : Jvm.MethodName) prog_10_method_17_code (6 : Nat) (Option.some Jvm.ClassFile.FieldType.int)) ∈ mBG := mem_t4 (i := 17) rfl rfl
theorem tw_4_18 : (Jvm.Cond.methodLink "KnowsBetterModel" (104 : Nat) ({ cls := "KnowsBetterModel", name := "has", desc := "(II)Z" } : Jvm.MethodName)) ∈ mBG := mem_t4 (i := 18) rfl rfl
theorem tw_4_19 : (Jvm.Cond.static ({ cls := "KnowsBetterModel", name := "has", desc := "(II)Z" } : Jvm.MethodName)) ∈ mBG := mem_t4 (i := 19) rfl rfl
theorem tw_4_20 : (Jvm.Cond.code ({ cls := "KnowsBetterModel", name := "has", desc := "(II)Z" } : Jvm.MethodName) prog_10_method_4_code (2 : Nat) (Option.some Jvm.ClassFile.FieldType.boolean)) ∈ mBG := mem_t4 (i := 20) rfl rfl
theorem tw_4_21 : (Jvm.Cond.methodLink "KnowsBetterModel" (120 : Nat) ({ cls := "KnowsBetterModel", name := "finesOf", desc := "([I)I" } : Jvm.MethodName)) ∈ mBG := mem_t4 (i := 21) rfl rfl
theorem tw_4_23 : (Jvm.Cond.instanceMethod ({ cls := "KnowsBetterModel", name := "finesOf", desc := "([I)I" } : Jvm.MethodName)) ∈ mBG := mem_t4 (i := 23) rfl rfl
theorem tw_4_24 : (Jvm.Cond.code ({ cls := "KnowsBetterModel", name := "finesOf", desc := "([I)I" } : Jvm.MethodName) prog_10_method_22_code (4 : Nat) (Option.some Jvm.ClassFile.FieldType.int)) ∈ mBG := mem_t4 (i := 24) rfl rfl
theorem tw_4_25 : (Jvm.Cond.methodLink "KnowsBetterLaw" (39 : Nat) ({ cls := "KnowsBetterModel", name := "person", desc := "(II)I" } : Jvm.MethodName)) ∈ mBG := mem_t4 (i := 25) rfl rfl
theorem tw_4_26 : (Jvm.Cond.instanceMethod ({ cls := "KnowsBetterModel", name := "person", desc := "(II)I" } : Jvm.MethodName)) ∈ mBG := mem_t4 (i := 26) rfl rfl
theorem tw_4_27 : (Jvm.Cond.selects "KnowsBetterModel" ({ cls := "KnowsBetterModel", name := "person", desc := "(II)I" } : Jvm.MethodName) ({ cls := "KnowsBetterModel", name := "person", desc := "(II)I" } : Jvm.MethodName)) ∈ mBG := mem_t4 (i := 27) rfl rfl
theorem tw_4_28 : (Jvm.Cond.code ({ cls := "KnowsBetterModel", name := "person", desc := "(II)I" } : Jvm.MethodName) prog_10_method_24_code (3 : Nat) (Option.some Jvm.ClassFile.FieldType.int)) ∈ mBG := mem_t4 (i := 28) rfl rfl
theorem tw_4_29 : (Jvm.Cond.methodLink "KnowsBetterModel" (127 : Nat) ({ cls := "KnowsBetterModel", name := "noPerson", desc := "(I)Z" } : Jvm.MethodName)) ∈ mBG := mem_t4 (i := 29) rfl rfl
theorem tw_4_31 : (Jvm.Cond.instanceMethod ({ cls := "KnowsBetterModel", name := "noPerson", desc := "(I)Z" } : Jvm.MethodName)) ∈ mBG := mem_t4 (i := 31) rfl rfl
theorem tw_4_32 : (Jvm.Cond.code ({ cls := "KnowsBetterModel", name := "noPerson", desc := "(I)Z" } : Jvm.MethodName) prog_10_method_6_code (2 : Nat) (Option.some Jvm.ClassFile.FieldType.boolean)) ∈ mBG := mem_t4 (i := 32) rfl rfl
theorem tw_4_33 : (Jvm.Cond.methodLink "KnowsBetterLaw" (43 : Nat) ({ cls := "KnowsBetterModel", name := "far", desc := "(II)I" } : Jvm.MethodName)) ∈ mBG := mem_t4 (i := 33) rfl rfl
theorem tw_4_34 : (Jvm.Cond.instanceMethod ({ cls := "KnowsBetterModel", name := "far", desc := "(II)I" } : Jvm.MethodName)) ∈ mBG := mem_t4 (i := 34) rfl rfl
theorem tw_4_35 : (Jvm.Cond.selects "KnowsBetterModel" ({ cls := "KnowsBetterModel", name := "far", desc := "(II)I" } : Jvm.MethodName) ({ cls := "KnowsBetterModel", name := "far", desc := "(II)I" } : Jvm.MethodName)) ∈ mBG := mem_t4 (i := 35) rfl rfl
theorem tw_4_36 : (Jvm.Cond.code ({ cls := "KnowsBetterModel", name := "far", desc := "(II)I" } : Jvm.MethodName) prog_10_method_25_code (3 : Nat) (Option.some Jvm.ClassFile.FieldType.int)) ∈ mBG := mem_t4 (i := 36) rfl rfl
theorem tw_4_37 : (Jvm.Cond.methodLink "KnowsBetterModel" (108 : Nat) ({ cls := "KnowsBetterModel", name := "farOf", desc := "([III)I" } : Jvm.MethodName)) ∈ mBG := mem_t4 (i := 37) rfl rfl
theorem tw_4_39 : (Jvm.Cond.instanceMethod ({ cls := "KnowsBetterModel", name := "farOf", desc := "([III)I" } : Jvm.MethodName)) ∈ mBG := mem_t4 (i := 39) rfl rfl
theorem tw_4_40 : (Jvm.Cond.code ({ cls := "KnowsBetterModel", name := "farOf", desc := "([III)I" } : Jvm.MethodName) prog_10_method_18_code (5 : Nat) (Option.some Jvm.ClassFile.FieldType.int)) ∈ mBG := mem_t4 (i := 40) rfl rfl
theorem tw_4_41 : (Jvm.Cond.methodLink "KnowsBetterLaw" (48 : Nat) ({ cls := "KnowsBetterModel", name := "say", desc := "(III)I" } : Jvm.MethodName)) ∈ mBG := mem_t4 (i := 41) rfl rfl
theorem tw_4_42 : (Jvm.Cond.instanceMethod ({ cls := "KnowsBetterModel", name := "say", desc := "(III)I" } : Jvm.MethodName)) ∈ mBG := mem_t4 (i := 42) rfl rfl
theorem tw_4_43 : (Jvm.Cond.selects "KnowsBetterModel" ({ cls := "KnowsBetterModel", name := "say", desc := "(III)I" } : Jvm.MethodName) ({ cls := "KnowsBetterModel", name := "say", desc := "(III)I" } : Jvm.MethodName)) ∈ mBG := mem_t4 (i := 43) rfl rfl
theorem tw_4_44 : (Jvm.Cond.code ({ cls := "KnowsBetterModel", name := "say", desc := "(III)I" } : Jvm.MethodName) prog_10_method_30_code (4 : Nat) (Option.some Jvm.ClassFile.FieldType.int)) ∈ mBG := mem_t4 (i := 44) rfl rfl
theorem tw_4_45 : (Jvm.Cond.methodLink "KnowsBetterModel" (148 : Nat) ({ cls := "KnowsBetterModel", name := "noFact", desc := "(I)Z" } : Jvm.MethodName)) ∈ mBG := mem_t4 (i := 45) rfl rfl
theorem tw_4_46 : (Jvm.Cond.static ({ cls := "KnowsBetterModel", name := "noFact", desc := "(I)Z" } : Jvm.MethodName)) ∈ mBG := mem_t4 (i := 46) rfl rfl
theorem tw_4_47 : (Jvm.Cond.code ({ cls := "KnowsBetterModel", name := "noFact", desc := "(I)Z" } : Jvm.MethodName) prog_10_method_7_code (1 : Nat) (Option.some Jvm.ClassFile.FieldType.boolean)) ∈ mBG := mem_t4 (i := 47) rfl rfl
theorem tw_4_48 : (Jvm.Cond.constantLong "KnowsBetterModel" (64 : Nat) (5 : Int64)) ∈ mBG := mem_t4 (i := 48) rfl rfl
theorem tw_4_49 : (Jvm.Cond.constantLong "KnowsBetterModel" (151 : Nat) (2 : Int64)) ∈ mBG := mem_t4 (i := 49) rfl rfl
theorem tw_4_50 : (Jvm.Cond.methodLink "KnowsBetterModel" (153 : Nat) ({ cls := "KnowsBetterModel", name := "note", desc := "()V" } : Jvm.MethodName)) ∈ mBG := mem_t4 (i := 50) rfl rfl
theorem tw_4_52 : (Jvm.Cond.instanceMethod ({ cls := "KnowsBetterModel", name := "note", desc := "()V" } : Jvm.MethodName)) ∈ mBG := mem_t4 (i := 52) rfl rfl
theorem tw_4_53 : (Jvm.Cond.code ({ cls := "KnowsBetterModel", name := "note", desc := "()V" } : Jvm.MethodName) prog_10_method_26_code (2 : Nat) (Option.none : Option Jvm.ClassFile.FieldType)) ∈ mBG := mem_t4 (i := 53) rfl rfl
theorem tw_4_54 : (Jvm.Cond.methodLink "KnowsBetterModel" (156 : Nat) ({ cls := "KnowsBetterModel", name := "goSay", desc := "([IIII)I" } : Jvm.MethodName)) ∈ mBG := mem_t4 (i := 54) rfl rfl
theorem tw_4_56 : (Jvm.Cond.instanceMethod ({ cls := "KnowsBetterModel", name := "goSay", desc := "([IIII)I" } : Jvm.MethodName)) ∈ mBG := mem_t4 (i := 56) rfl rfl
theorem tw_4_57 : (Jvm.Cond.code ({ cls := "KnowsBetterModel", name := "goSay", desc := "([IIII)I" } : Jvm.MethodName) prog_10_method_29_code (9 : Nat) (Option.some Jvm.ClassFile.FieldType.int)) ∈ mBG := mem_t4 (i := 57) rfl rfl
theorem tw_4_58 : (Jvm.Cond.methodLink "KnowsBetterModel" (135 : Nat) ({ cls := "KnowsBetterModel", name := "knowersOf", desc := "([IIII)I" } : Jvm.MethodName)) ∈ mBG := mem_t4 (i := 58) rfl rfl
theorem tw_4_60 : (Jvm.Cond.instanceMethod ({ cls := "KnowsBetterModel", name := "knowersOf", desc := "([IIII)I" } : Jvm.MethodName)) ∈ mBG := mem_t4 (i := 60) rfl rfl
theorem tw_4_61 : (Jvm.Cond.code ({ cls := "KnowsBetterModel", name := "knowersOf", desc := "([IIII)I" } : Jvm.MethodName) prog_10_method_21_code (7 : Nat) (Option.some Jvm.ClassFile.FieldType.int)) ∈ mBG := mem_t4 (i := 61) rfl rfl
theorem tw_4_62 : (Jvm.Cond.methodLink "KnowsBetterModel" (112 : Nat) ({ cls := "KnowsBetterModel", name := "hears", desc := "([IIII)Z" } : Jvm.MethodName)) ∈ mBG := mem_t4 (i := 62) rfl rfl
theorem tw_4_64 : (Jvm.Cond.instanceMethod ({ cls := "KnowsBetterModel", name := "hears", desc := "([IIII)Z" } : Jvm.MethodName)) ∈ mBG := mem_t4 (i := 64) rfl rfl
theorem tw_4_65 : (Jvm.Cond.code ({ cls := "KnowsBetterModel", name := "hears", desc := "([IIII)Z" } : Jvm.MethodName) prog_10_method_19_code (6 : Nat) (Option.some Jvm.ClassFile.FieldType.boolean)) ∈ mBG := mem_t4 (i := 65) rfl rfl
theorem tw_4_66 : (Jvm.Cond.methodLink "KnowsBetterModel" (139 : Nat) ({ cls := "KnowsBetterModel", name := "corrector", desc := "([III)I" } : Jvm.MethodName)) ∈ mBG := mem_t4 (i := 66) rfl rfl
theorem tw_4_68 : (Jvm.Cond.instanceMethod ({ cls := "KnowsBetterModel", name := "corrector", desc := "([III)I" } : Jvm.MethodName)) ∈ mBG := mem_t4 (i := 68) rfl rfl
theorem tw_4_69 : (Jvm.Cond.code ({ cls := "KnowsBetterModel", name := "corrector", desc := "([III)I" } : Jvm.MethodName) prog_10_method_28_code (7 : Nat) (Option.some Jvm.ClassFile.FieldType.int)) ∈ mBG := mem_t4 (i := 69) rfl rfl
theorem tw_4_70 : (Jvm.Cond.methodLink "KnowsBetterModel" (131 : Nat) ({ cls := "KnowsBetterModel", name := "sitter", desc := "([II)I" } : Jvm.MethodName)) ∈ mBG := mem_t4 (i := 70) rfl rfl
theorem tw_4_72 : (Jvm.Cond.instanceMethod ({ cls := "KnowsBetterModel", name := "sitter", desc := "([II)I" } : Jvm.MethodName)) ∈ mBG := mem_t4 (i := 72) rfl rfl
theorem tw_4_73 : (Jvm.Cond.code ({ cls := "KnowsBetterModel", name := "sitter", desc := "([II)I" } : Jvm.MethodName) prog_10_method_27_code (5 : Nat) (Option.some Jvm.ClassFile.FieldType.int)) ∈ mBG := mem_t4 (i := 73) rfl rfl
theorem tw_4_74 : (Jvm.Cond.methodLink "KnowsBetterModel" (142 : Nat) ({ cls := "KnowsBetterModel", name := "hearersOf", desc := "([III)I" } : Jvm.MethodName)) ∈ mBG := mem_t4 (i := 74) rfl rfl
theorem tw_4_76 : (Jvm.Cond.instanceMethod ({ cls := "KnowsBetterModel", name := "hearersOf", desc := "([III)I" } : Jvm.MethodName)) ∈ mBG := mem_t4 (i := 76) rfl rfl
theorem tw_4_77 : (Jvm.Cond.code ({ cls := "KnowsBetterModel", name := "hearersOf", desc := "([III)I" } : Jvm.MethodName) prog_10_method_20_code (6 : Nat) (Option.some Jvm.ClassFile.FieldType.int)) ∈ mBG := mem_t4 (i := 77) rfl rfl
theorem tw_4_78 : (Jvm.Cond.methodLink "KnowsBetterModel" (145 : Nat) ({ cls := "KnowsBetterModel", name := "many", desc := "(I)I" } : Jvm.MethodName)) ∈ mBG := mem_t4 (i := 78) rfl rfl
theorem tw_4_79 : (Jvm.Cond.static ({ cls := "KnowsBetterModel", name := "many", desc := "(I)I" } : Jvm.MethodName)) ∈ mBG := mem_t4 (i := 79) rfl rfl
theorem tw_4_80 : (Jvm.Cond.code ({ cls := "KnowsBetterModel", name := "many", desc := "(I)I" } : Jvm.MethodName) prog_10_method_5_code (3 : Nat) (Option.some Jvm.ClassFile.FieldType.int)) ∈ mBG := mem_t4 (i := 80) rfl rfl
theorem tw_4_81 : (Jvm.Cond.methodLink "KnowsBetterLaw" (52 : Nat) ({ cls := "KnowsBetterModel", name := "teach", desc := "(II)I" } : Jvm.MethodName)) ∈ mBG := mem_t4 (i := 81) rfl rfl
theorem tw_4_82 : (Jvm.Cond.instanceMethod ({ cls := "KnowsBetterModel", name := "teach", desc := "(II)I" } : Jvm.MethodName)) ∈ mBG := mem_t4 (i := 82) rfl rfl
theorem tw_4_83 : (Jvm.Cond.selects "KnowsBetterModel" ({ cls := "KnowsBetterModel", name := "teach", desc := "(II)I" } : Jvm.MethodName) ({ cls := "KnowsBetterModel", name := "teach", desc := "(II)I" } : Jvm.MethodName)) ∈ mBG := mem_t4 (i := 83) rfl rfl
theorem tw_4_84 : (Jvm.Cond.code ({ cls := "KnowsBetterModel", name := "teach", desc := "(II)I" } : Jvm.MethodName) prog_10_method_31_code (3 : Nat) (Option.some Jvm.ClassFile.FieldType.int)) ∈ mBG := mem_t4 (i := 84) rfl rfl
theorem tw_4_85 : (Jvm.Cond.methodLink "KnowsBetterLaw" (56 : Nat) ({ cls := "KnowsBetterModel", name := "forget", desc := "(II)I" } : Jvm.MethodName)) ∈ mBG := mem_t4 (i := 85) rfl rfl
theorem tw_4_86 : (Jvm.Cond.instanceMethod ({ cls := "KnowsBetterModel", name := "forget", desc := "(II)I" } : Jvm.MethodName)) ∈ mBG := mem_t4 (i := 86) rfl rfl
theorem tw_4_87 : (Jvm.Cond.selects "KnowsBetterModel" ({ cls := "KnowsBetterModel", name := "forget", desc := "(II)I" } : Jvm.MethodName) ({ cls := "KnowsBetterModel", name := "forget", desc := "(II)I" } : Jvm.MethodName)) ∈ mBG := mem_t4 (i := 87) rfl rfl
theorem tw_4_88 : (Jvm.Cond.code ({ cls := "KnowsBetterModel", name := "forget", desc := "(II)I" } : Jvm.MethodName) prog_10_method_32_code (3 : Nat) (Option.some Jvm.ClassFile.FieldType.int)) ∈ mBG := mem_t4 (i := 88) rfl rfl
theorem tw_4_89 : (Jvm.Cond.methodLink "KnowsBetterLaw" (60 : Nat) ({ cls := "KnowsBetterModel", name := "change", desc := "(II)I" } : Jvm.MethodName)) ∈ mBG := mem_t4 (i := 89) rfl rfl
theorem tw_4_90 : (Jvm.Cond.instanceMethod ({ cls := "KnowsBetterModel", name := "change", desc := "(II)I" } : Jvm.MethodName)) ∈ mBG := mem_t4 (i := 90) rfl rfl
theorem tw_4_91 : (Jvm.Cond.selects "KnowsBetterModel" ({ cls := "KnowsBetterModel", name := "change", desc := "(II)I" } : Jvm.MethodName) ({ cls := "KnowsBetterModel", name := "change", desc := "(II)I" } : Jvm.MethodName)) ∈ mBG := mem_t4 (i := 91) rfl rfl
theorem tw_4_92 : (Jvm.Cond.code ({ cls := "KnowsBetterModel", name := "change", desc := "(II)I" } : Jvm.MethodName) prog_10_method_33_code (4 : Nat) (Option.some Jvm.ClassFile.FieldType.int)) ∈ mBG := mem_t4 (i := 92) rfl rfl
theorem tw_4_93 : (Jvm.Cond.methodLink "KnowsBetterLaw" (64 : Nat) ({ cls := "KnowsBetterModel", name := "undo", desc := "()I" } : Jvm.MethodName)) ∈ mBG := mem_t4 (i := 93) rfl rfl
theorem tw_4_94 : (Jvm.Cond.instanceMethod ({ cls := "KnowsBetterModel", name := "undo", desc := "()I" } : Jvm.MethodName)) ∈ mBG := mem_t4 (i := 94) rfl rfl
theorem tw_4_95 : (Jvm.Cond.selects "KnowsBetterModel" ({ cls := "KnowsBetterModel", name := "undo", desc := "()I" } : Jvm.MethodName) ({ cls := "KnowsBetterModel", name := "undo", desc := "()I" } : Jvm.MethodName)) ∈ mBG := mem_t4 (i := 95) rfl rfl
theorem tw_4_96 : (Jvm.Cond.code ({ cls := "KnowsBetterModel", name := "undo", desc := "()I" } : Jvm.MethodName) prog_10_method_34_code (2 : Nat) (Option.some Jvm.ClassFile.FieldType.int)) ∈ mBG := mem_t4 (i := 96) rfl rfl
theorem tw_4_97 : (Jvm.Cond.methodLink "KnowsBetterLaw" (68 : Nat) ({ cls := "KnowsBetterModel", name := "hearers", desc := "(II)I" } : Jvm.MethodName)) ∈ mBG := mem_t4 (i := 97) rfl rfl
theorem tw_4_98 : (Jvm.Cond.instanceMethod ({ cls := "KnowsBetterModel", name := "hearers", desc := "(II)I" } : Jvm.MethodName)) ∈ mBG := mem_t4 (i := 98) rfl rfl
theorem tw_4_99 : (Jvm.Cond.selects "KnowsBetterModel" ({ cls := "KnowsBetterModel", name := "hearers", desc := "(II)I" } : Jvm.MethodName) ({ cls := "KnowsBetterModel", name := "hearers", desc := "(II)I" } : Jvm.MethodName)) ∈ mBG := mem_t4 (i := 99) rfl rfl
theorem tw_4_100 : (Jvm.Cond.code ({ cls := "KnowsBetterModel", name := "hearers", desc := "(II)I" } : Jvm.MethodName) prog_10_method_35_code (3 : Nat) (Option.some Jvm.ClassFile.FieldType.int)) ∈ mBG := mem_t4 (i := 100) rfl rfl
theorem tw_4_101 : (Jvm.Cond.methodLink "KnowsBetterLaw" (72 : Nat) ({ cls := "KnowsBetterModel", name := "safe", desc := "(II)I" } : Jvm.MethodName)) ∈ mBG := mem_t4 (i := 101) rfl rfl
theorem tw_4_102 : (Jvm.Cond.instanceMethod ({ cls := "KnowsBetterModel", name := "safe", desc := "(II)I" } : Jvm.MethodName)) ∈ mBG := mem_t4 (i := 102) rfl rfl
theorem tw_4_103 : (Jvm.Cond.selects "KnowsBetterModel" ({ cls := "KnowsBetterModel", name := "safe", desc := "(II)I" } : Jvm.MethodName) ({ cls := "KnowsBetterModel", name := "safe", desc := "(II)I" } : Jvm.MethodName)) ∈ mBG := mem_t4 (i := 103) rfl rfl
theorem tw_4_104 : (Jvm.Cond.code ({ cls := "KnowsBetterModel", name := "safe", desc := "(II)I" } : Jvm.MethodName) prog_10_method_36_code (5 : Nat) (Option.some Jvm.ClassFile.FieldType.int)) ∈ mBG := mem_t4 (i := 104) rfl rfl
theorem tw_4_105 : (Jvm.Cond.methodLink "KnowsBetterLaw" (77 : Nat) ({ cls := "KnowsBetterModel", name := "seating", desc := "(IIIZZ)I" } : Jvm.MethodName)) ∈ mBG := mem_t4 (i := 105) rfl rfl
theorem tw_4_106 : (Jvm.Cond.instanceMethod ({ cls := "KnowsBetterModel", name := "seating", desc := "(IIIZZ)I" } : Jvm.MethodName)) ∈ mBG := mem_t4 (i := 106) rfl rfl
theorem tw_4_107 : (Jvm.Cond.selects "KnowsBetterModel" ({ cls := "KnowsBetterModel", name := "seating", desc := "(IIIZZ)I" } : Jvm.MethodName) ({ cls := "KnowsBetterModel", name := "seating", desc := "(IIIZZ)I" } : Jvm.MethodName)) ∈ mBG := mem_t4 (i := 107) rfl rfl
theorem tw_4_108 : (Jvm.Cond.code ({ cls := "KnowsBetterModel", name := "seating", desc := "(IIIZZ)I" } : Jvm.MethodName) prog_10_method_41_code (6 : Nat) (Option.some Jvm.ClassFile.FieldType.int)) ∈ mBG := mem_t4 (i := 108) rfl rfl
theorem tw_4_109 : (Jvm.Cond.methodLink "KnowsBetterModel" (174 : Nat) ({ cls := "KnowsBetterModel", name := "findSeats", desc := "(IIIZ)V" } : Jvm.MethodName)) ∈ mBG := mem_t4 (i := 109) rfl rfl
theorem tw_4_111 : (Jvm.Cond.instanceMethod ({ cls := "KnowsBetterModel", name := "findSeats", desc := "(IIIZ)V" } : Jvm.MethodName)) ∈ mBG := mem_t4 (i := 111) rfl rfl
theorem tw_4_112 : (Jvm.Cond.code ({ cls := "KnowsBetterModel", name := "findSeats", desc := "(IIIZ)V" } : Jvm.MethodName) prog_10_method_40_code (8 : Nat) (Option.none : Option Jvm.ClassFile.FieldType)) ∈ mBG := mem_t4 (i := 112) rfl rfl
theorem tw_4_113 : (Jvm.Cond.methodLink "KnowsBetterModel" (162 : Nat) ({ cls := "KnowsBetterModel", name := "power", desc := "(II)I" } : Jvm.MethodName)) ∈ mBG := mem_t4 (i := 113) rfl rfl
theorem tw_4_114 : (Jvm.Cond.static ({ cls := "KnowsBetterModel", name := "power", desc := "(II)I" } : Jvm.MethodName)) ∈ mBG := mem_t4 (i := 114) rfl rfl
theorem tw_4_115 : (Jvm.Cond.code ({ cls := "KnowsBetterModel", name := "power", desc := "(II)I" } : Jvm.MethodName) prog_10_method_38_code (4 : Nat) (Option.some Jvm.ClassFile.FieldType.int)) ∈ mBG := mem_t4 (i := 115) rfl rfl
theorem tw_4_116 : (Jvm.Cond.methodLink "KnowsBetterModel" (171 : Nat) ({ cls := "KnowsBetterModel", name := "laySeats", desc := "(I)Z" } : Jvm.MethodName)) ∈ mBG := mem_t4 (i := 116) rfl rfl
theorem tw_4_118 : (Jvm.Cond.instanceMethod ({ cls := "KnowsBetterModel", name := "laySeats", desc := "(I)Z" } : Jvm.MethodName)) ∈ mBG := mem_t4 (i := 118) rfl rfl
theorem tw_4_119 : (Jvm.Cond.code ({ cls := "KnowsBetterModel", name := "laySeats", desc := "(I)Z" } : Jvm.MethodName) prog_10_method_39_code (5 : Nat) (Option.some Jvm.ClassFile.FieldType.boolean)) ∈ mBG := mem_t4 (i := 119) rfl rfl
theorem tw_4_120 : (Jvm.Cond.methodLink "KnowsBetterModel" (159 : Nat) ({ cls := "KnowsBetterModel", name := "begin", desc := "()V" } : Jvm.MethodName)) ∈ mBG := mem_t4 (i := 120) rfl rfl
theorem tw_4_122 : (Jvm.Cond.instanceMethod ({ cls := "KnowsBetterModel", name := "begin", desc := "()V" } : Jvm.MethodName)) ∈ mBG := mem_t4 (i := 122) rfl rfl
theorem tw_4_123 : (Jvm.Cond.code ({ cls := "KnowsBetterModel", name := "begin", desc := "()V" } : Jvm.MethodName) prog_10_method_37_code (2 : Nat) (Option.none : Option Jvm.ClassFile.FieldType)) ∈ mBG := mem_t4 (i := 123) rfl rfl
theorem tw_4_124 : (Jvm.Cond.methodLink "KnowsBetterLaw" (81 : Nat) ({ cls := "KnowsBetterModel", name := "keepFrom", desc := "(II)I" } : Jvm.MethodName)) ∈ mBG := mem_t4 (i := 124) rfl rfl
theorem tw_4_125 : (Jvm.Cond.instanceMethod ({ cls := "KnowsBetterModel", name := "keepFrom", desc := "(II)I" } : Jvm.MethodName)) ∈ mBG := mem_t4 (i := 125) rfl rfl
theorem tw_4_126 : (Jvm.Cond.selects "KnowsBetterModel" ({ cls := "KnowsBetterModel", name := "keepFrom", desc := "(II)I" } : Jvm.MethodName) ({ cls := "KnowsBetterModel", name := "keepFrom", desc := "(II)I" } : Jvm.MethodName)) ∈ mBG := mem_t4 (i := 126) rfl rfl
theorem tw_4_127 : (Jvm.Cond.code ({ cls := "KnowsBetterModel", name := "keepFrom", desc := "(II)I" } : Jvm.MethodName) prog_10_method_42_code (7 : Nat) (Option.some Jvm.ClassFile.FieldType.int)) ∈ mBG := mem_t4 (i := 127) rfl rfl
theorem tw_4_128 : (Jvm.Cond.methodLink "KnowsBetterLaw" (85 : Nat) ({ cls := "KnowsBetterModel", name := "learn", desc := "(II)I" } : Jvm.MethodName)) ∈ mBG := mem_t4 (i := 128) rfl rfl
theorem tw_4_129 : (Jvm.Cond.instanceMethod ({ cls := "KnowsBetterModel", name := "learn", desc := "(II)I" } : Jvm.MethodName)) ∈ mBG := mem_t4 (i := 129) rfl rfl
theorem tw_4_130 : (Jvm.Cond.selects "KnowsBetterModel" ({ cls := "KnowsBetterModel", name := "learn", desc := "(II)I" } : Jvm.MethodName) ({ cls := "KnowsBetterModel", name := "learn", desc := "(II)I" } : Jvm.MethodName)) ∈ mBG := mem_t4 (i := 130) rfl rfl
theorem tw_4_131 : (Jvm.Cond.code ({ cls := "KnowsBetterModel", name := "learn", desc := "(II)I" } : Jvm.MethodName) prog_10_method_43_code (7 : Nat) (Option.some Jvm.ClassFile.FieldType.int)) ∈ mBG := mem_t4 (i := 131) rfl rfl
theorem tw_4_132 : (Jvm.Cond.methodLink "KnowsBetterLaw" (89 : Nat) ({ cls := "KnowsBetterModel", name := "judge", desc := "(II)I" } : Jvm.MethodName)) ∈ mBG := mem_t4 (i := 132) rfl rfl
theorem tw_4_133 : (Jvm.Cond.instanceMethod ({ cls := "KnowsBetterModel", name := "judge", desc := "(II)I" } : Jvm.MethodName)) ∈ mBG := mem_t4 (i := 133) rfl rfl
theorem tw_4_134 : (Jvm.Cond.selects "KnowsBetterModel" ({ cls := "KnowsBetterModel", name := "judge", desc := "(II)I" } : Jvm.MethodName) ({ cls := "KnowsBetterModel", name := "judge", desc := "(II)I" } : Jvm.MethodName)) ∈ mBG := mem_t4 (i := 134) rfl rfl
theorem tw_4_135 : (Jvm.Cond.code ({ cls := "KnowsBetterModel", name := "judge", desc := "(II)I" } : Jvm.MethodName) prog_10_method_44_code (8 : Nat) (Option.some Jvm.ClassFile.FieldType.int)) ∈ mBG := mem_t4 (i := 135) rfl rfl
theorem tw_4_136 : (Jvm.Cond.constantLong "KnowsBetterModel" (178 : Nat) (3 : Int64)) ∈ mBG := mem_t4 (i := 136) rfl rfl
theorem tw_4_137 : (Jvm.Cond.methodLink "KnowsBetterLaw" (94 : Nat) ({ cls := "KnowsBetterModel", name := "share", desc := "(IZ)I" } : Jvm.MethodName)) ∈ mBG := mem_t4 (i := 137) rfl rfl
theorem tw_4_138 : (Jvm.Cond.instanceMethod ({ cls := "KnowsBetterModel", name := "share", desc := "(IZ)I" } : Jvm.MethodName)) ∈ mBG := mem_t4 (i := 138) rfl rfl
theorem tw_4_139 : (Jvm.Cond.selects "KnowsBetterModel" ({ cls := "KnowsBetterModel", name := "share", desc := "(IZ)I" } : Jvm.MethodName) ({ cls := "KnowsBetterModel", name := "share", desc := "(IZ)I" } : Jvm.MethodName)) ∈ mBG := mem_t4 (i := 139) rfl rfl
theorem tw_4_140 : (Jvm.Cond.code ({ cls := "KnowsBetterModel", name := "share", desc := "(IZ)I" } : Jvm.MethodName) prog_10_method_48_code (6 : Nat) (Option.some Jvm.ClassFile.FieldType.int)) ∈ mBG := mem_t4 (i := 140) rfl rfl
theorem tw_4_141 : (Jvm.Cond.methodLink "KnowsBetterModel" (183 : Nat) ({ cls := "KnowsBetterModel", name := "ways", desc := "(I)I" } : Jvm.MethodName)) ∈ mBG := mem_t4 (i := 141) rfl rfl
theorem tw_4_142 : (Jvm.Cond.static ({ cls := "KnowsBetterModel", name := "ways", desc := "(I)I" } : Jvm.MethodName)) ∈ mBG := mem_t4 (i := 142) rfl rfl
theorem tw_4_143 : (Jvm.Cond.code ({ cls := "KnowsBetterModel", name := "ways", desc := "(I)I" } : Jvm.MethodName) prog_10_method_45_code (3 : Nat) (Option.some Jvm.ClassFile.FieldType.int)) ∈ mBG := mem_t4 (i := 143) rfl rfl
theorem tw_4_144 : (Jvm.Cond.methodLink "KnowsBetterModel" (186 : Nat) ({ cls := "KnowsBetterModel", name := "fraction", desc := "(IIZ)I" } : Jvm.MethodName)) ∈ mBG := mem_t4 (i := 144) rfl rfl
theorem tw_4_145 : (Jvm.Cond.static ({ cls := "KnowsBetterModel", name := "fraction", desc := "(IIZ)I" } : Jvm.MethodName)) ∈ mBG := mem_t4 (i := 145) rfl rfl
theorem tw_4_146 : (Jvm.Cond.code ({ cls := "KnowsBetterModel", name := "fraction", desc := "(IIZ)I" } : Jvm.MethodName) prog_10_method_47_code (4 : Nat) (Option.some Jvm.ClassFile.FieldType.int)) ∈ mBG := mem_t4 (i := 146) rfl rfl
theorem tw_4_147 : (Jvm.Cond.methodLink "KnowsBetterModel" (180 : Nat) ({ cls := "KnowsBetterModel", name := "divisor", desc := "(II)I" } : Jvm.MethodName)) ∈ mBG := mem_t4 (i := 147) rfl rfl
theorem tw_4_148 : (Jvm.Cond.static ({ cls := "KnowsBetterModel", name := "divisor", desc := "(II)I" } : Jvm.MethodName)) ∈ mBG := mem_t4 (i := 148) rfl rfl
theorem tw_4_149 : (Jvm.Cond.code ({ cls := "KnowsBetterModel", name := "divisor", desc := "(II)I" } : Jvm.MethodName) prog_10_method_46_code (5 : Nat) (Option.some Jvm.ClassFile.FieldType.int)) ∈ mBG := mem_t4 (i := 149) rfl rfl
theorem tw_4_150 : (Jvm.Cond.methodLink "KnowsBetterLaw" (98 : Nat) ({ cls := "KnowsBetterModel", name := "see", desc := "(II)I" } : Jvm.MethodName)) ∈ mBG := mem_t4 (i := 150) rfl rfl
theorem tw_4_151 : (Jvm.Cond.instanceMethod ({ cls := "KnowsBetterModel", name := "see", desc := "(II)I" } : Jvm.MethodName)) ∈ mBG := mem_t4 (i := 151) rfl rfl
theorem tw_4_152 : (Jvm.Cond.selects "KnowsBetterModel" ({ cls := "KnowsBetterModel", name := "see", desc := "(II)I" } : Jvm.MethodName) ({ cls := "KnowsBetterModel", name := "see", desc := "(II)I" } : Jvm.MethodName)) ∈ mBG := mem_t4 (i := 152) rfl rfl
theorem tw_4_153 : (Jvm.Cond.code ({ cls := "KnowsBetterModel", name := "see", desc := "(II)I" } : Jvm.MethodName) prog_10_method_49_code (3 : Nat) (Option.some Jvm.ClassFile.FieldType.int)) ∈ mBG := mem_t4 (i := 153) rfl rfl
theorem tw_4_154 : (Jvm.Cond.methodLink "KnowsBetterLaw" (102 : Nat) ({ cls := "KnowsBetterModel", name := "unsee", desc := "()I" } : Jvm.MethodName)) ∈ mBG := mem_t4 (i := 154) rfl rfl
theorem tw_4_155 : (Jvm.Cond.instanceMethod ({ cls := "KnowsBetterModel", name := "unsee", desc := "()I" } : Jvm.MethodName)) ∈ mBG := mem_t4 (i := 155) rfl rfl
theorem tw_4_156 : (Jvm.Cond.selects "KnowsBetterModel" ({ cls := "KnowsBetterModel", name := "unsee", desc := "()I" } : Jvm.MethodName) ({ cls := "KnowsBetterModel", name := "unsee", desc := "()I" } : Jvm.MethodName)) ∈ mBG := mem_t4 (i := 156) rfl rfl
theorem tw_4_157 : (Jvm.Cond.code ({ cls := "KnowsBetterModel", name := "unsee", desc := "()I" } : Jvm.MethodName) prog_10_method_50_code (2 : Nat) (Option.some Jvm.ClassFile.FieldType.int)) ∈ mBG := mem_t4 (i := 157) rfl rfl
theorem tw_4_158 : (Jvm.Cond.methodLink "KnowsBetterLaw" (106 : Nat) ({ cls := "KnowsBetterModel", name := "minds", desc := "(I)I" } : Jvm.MethodName)) ∈ mBG := mem_t4 (i := 158) rfl rfl
theorem tw_4_159 : (Jvm.Cond.instanceMethod ({ cls := "KnowsBetterModel", name := "minds", desc := "(I)I" } : Jvm.MethodName)) ∈ mBG := mem_t4 (i := 159) rfl rfl
theorem tw_4_160 : (Jvm.Cond.selects "KnowsBetterModel" ({ cls := "KnowsBetterModel", name := "minds", desc := "(I)I" } : Jvm.MethodName) ({ cls := "KnowsBetterModel", name := "minds", desc := "(I)I" } : Jvm.MethodName)) ∈ mBG := mem_t4 (i := 160) rfl rfl
theorem tw_4_161 : (Jvm.Cond.code ({ cls := "KnowsBetterModel", name := "minds", desc := "(I)I" } : Jvm.MethodName) prog_10_method_52_code (2 : Nat) (Option.some Jvm.ClassFile.FieldType.int)) ∈ mBG := mem_t4 (i := 161) rfl rfl
theorem tw_4_162 : (Jvm.Cond.methodLink "KnowsBetterModel" (199 : Nat) ({ cls := "KnowsBetterModel", name := "findMinds", desc := "()V" } : Jvm.MethodName)) ∈ mBG := mem_t4 (i := 162) rfl rfl
theorem tw_4_164 : (Jvm.Cond.instanceMethod ({ cls := "KnowsBetterModel", name := "findMinds", desc := "()V" } : Jvm.MethodName)) ∈ mBG := mem_t4 (i := 164) rfl rfl
theorem tw_4_165 : (Jvm.Cond.code ({ cls := "KnowsBetterModel", name := "findMinds", desc := "()V" } : Jvm.MethodName) prog_10_method_51_code (5 : Nat) (Option.none : Option Jvm.ClassFile.FieldType)) ∈ mBG := mem_t4 (i := 165) rfl rfl
theorem tw_4_166 : (Jvm.Cond.methodLink "KnowsBetterLaw" (110 : Nat) ({ cls := "KnowsBetterModel", name := "rests", desc := "(I)I" } : Jvm.MethodName)) ∈ mBG := mem_t4 (i := 166) rfl rfl
theorem tw_4_167 : (Jvm.Cond.instanceMethod ({ cls := "KnowsBetterModel", name := "rests", desc := "(I)I" } : Jvm.MethodName)) ∈ mBG := mem_t4 (i := 167) rfl rfl
theorem tw_4_168 : (Jvm.Cond.selects "KnowsBetterModel" ({ cls := "KnowsBetterModel", name := "rests", desc := "(I)I" } : Jvm.MethodName) ({ cls := "KnowsBetterModel", name := "rests", desc := "(I)I" } : Jvm.MethodName)) ∈ mBG := mem_t4 (i := 168) rfl rfl
theorem tw_4_169 : (Jvm.Cond.code ({ cls := "KnowsBetterModel", name := "rests", desc := "(I)I" } : Jvm.MethodName) prog_10_method_55_code (2 : Nat) (Option.some Jvm.ClassFile.FieldType.int)) ∈ mBG := mem_t4 (i := 169) rfl rfl
theorem tw_4_170 : (Jvm.Cond.methodLink "KnowsBetterModel" (211 : Nat) ({ cls := "KnowsBetterModel", name := "findRests", desc := "()V" } : Jvm.MethodName)) ∈ mBG := mem_t4 (i := 170) rfl rfl
theorem tw_4_172 : (Jvm.Cond.instanceMethod ({ cls := "KnowsBetterModel", name := "findRests", desc := "()V" } : Jvm.MethodName)) ∈ mBG := mem_t4 (i := 172) rfl rfl
theorem tw_4_173 : (Jvm.Cond.code ({ cls := "KnowsBetterModel", name := "findRests", desc := "()V" } : Jvm.MethodName) prog_10_method_54_code (5 : Nat) (Option.none : Option Jvm.ClassFile.FieldType)) ∈ mBG := mem_t4 (i := 173) rfl rfl
theorem tw_4_174 : (Jvm.Cond.methodLink "KnowsBetterModel" (208 : Nat) ({ cls := "KnowsBetterModel", name := "pays", desc := "(II)I" } : Jvm.MethodName)) ∈ mBG := mem_t4 (i := 174) rfl rfl
theorem tw_4_175 : (Jvm.Cond.static ({ cls := "KnowsBetterModel", name := "pays", desc := "(II)I" } : Jvm.MethodName)) ∈ mBG := mem_t4 (i := 175) rfl rfl
theorem tw_4_176 : (Jvm.Cond.code ({ cls := "KnowsBetterModel", name := "pays", desc := "(II)I" } : Jvm.MethodName) prog_10_method_53_code (2 : Nat) (Option.some Jvm.ClassFile.FieldType.int)) ∈ mBG := mem_t4 (i := 176) rfl rfl
theorem tw_4_177 : (Jvm.Cond.methodLink "KnowsBetterLaw" (115 : Nat) ({ cls := "KnowsBetterModel", name := "deaf", desc := "(IIIIZ)I" } : Jvm.MethodName)) ∈ mBG := mem_t4 (i := 177) rfl rfl
theorem tw_4_178 : (Jvm.Cond.instanceMethod ({ cls := "KnowsBetterModel", name := "deaf", desc := "(IIIIZ)I" } : Jvm.MethodName)) ∈ mBG := mem_t4 (i := 178) rfl rfl
theorem tw_4_179 : (Jvm.Cond.selects "KnowsBetterModel" ({ cls := "KnowsBetterModel", name := "deaf", desc := "(IIIIZ)I" } : Jvm.MethodName) ({ cls := "KnowsBetterModel", name := "deaf", desc := "(IIIIZ)I" } : Jvm.MethodName)) ∈ mBG := mem_t4 (i := 179) rfl rfl
theorem tw_4_180 : (Jvm.Cond.code ({ cls := "KnowsBetterModel", name := "deaf", desc := "(IIIIZ)I" } : Jvm.MethodName) prog_10_method_56_code (7 : Nat) (Option.some Jvm.ClassFile.FieldType.int)) ∈ mBG := mem_t4 (i := 180) rfl rfl
theorem tw_4_181 : (Jvm.Cond.constantLong "KnowsBetterModel" (214 : Nat) (10 : Int64)) ∈ mBG := mem_t4 (i := 181) rfl rfl
theorem tw_4_182 : (Jvm.Cond.methodLink "KnowsBetterLaw" (122 : Nat) ({ cls := "KnowsBetterModel", name := "seed", desc := "(J)J" } : Jvm.MethodName)) ∈ mBG := mem_t4 (i := 182) rfl rfl
theorem tw_4_183 : (Jvm.Cond.instanceMethod ({ cls := "KnowsBetterModel", name := "seed", desc := "(J)J" } : Jvm.MethodName)) ∈ mBG := mem_t4 (i := 183) rfl rfl
theorem tw_4_184 : (Jvm.Cond.selects "KnowsBetterModel" ({ cls := "KnowsBetterModel", name := "seed", desc := "(J)J" } : Jvm.MethodName) ({ cls := "KnowsBetterModel", name := "seed", desc := "(J)J" } : Jvm.MethodName)) ∈ mBG := mem_t4 (i := 184) rfl rfl
theorem tw_4_185 : (Jvm.Cond.code ({ cls := "KnowsBetterModel", name := "seed", desc := "(J)J" } : Jvm.MethodName) prog_10_method_57_code (5 : Nat) (Option.some Jvm.ClassFile.FieldType.long)) ∈ mBG := mem_t4 (i := 185) rfl rfl
theorem tw_4_186 : (Jvm.Cond.methodLink "KnowsBetterLaw" (126 : Nat) ({ cls := "KnowsBetterModel", name := "evenings", desc := "(I)I" } : Jvm.MethodName)) ∈ mBG := mem_t4 (i := 186) rfl rfl
theorem tw_4_187 : (Jvm.Cond.instanceMethod ({ cls := "KnowsBetterModel", name := "evenings", desc := "(I)I" } : Jvm.MethodName)) ∈ mBG := mem_t4 (i := 187) rfl rfl
theorem tw_4_188 : (Jvm.Cond.selects "KnowsBetterModel" ({ cls := "KnowsBetterModel", name := "evenings", desc := "(I)I" } : Jvm.MethodName) ({ cls := "KnowsBetterModel", name := "evenings", desc := "(I)I" } : Jvm.MethodName)) ∈ mBG := mem_t4 (i := 188) rfl rfl
theorem tw_4_189 : (Jvm.Cond.code ({ cls := "KnowsBetterModel", name := "evenings", desc := "(I)I" } : Jvm.MethodName) prog_10_method_58_code (4 : Nat) (Option.some Jvm.ClassFile.FieldType.int)) ∈ mBG := mem_t4 (i := 189) rfl rfl
theorem tw_4_190 : (Jvm.Cond.constantLong "KnowsBetterModel" (220 : Nat) (30 : Int64)) ∈ mBG := mem_t4 (i := 190) rfl rfl
theorem tw_4_191 : (Jvm.Cond.constantLong "KnowsBetterModel" (222 : Nat) (6364136223846793005 : Int64)) ∈ mBG := mem_t4 (i := 191) rfl rfl
theorem tw_4_192 : (Jvm.Cond.constantLong "KnowsBetterModel" (224 : Nat) (1442695040888963407 : Int64)) ∈ mBG := mem_t4 (i := 192) rfl rfl
theorem tw_4_193 : (Jvm.Cond.constantLong "KnowsBetterModel" (226 : Nat) (60 : Int64)) ∈ mBG := mem_t4 (i := 193) rfl rfl
theorem tw_4_194 : (Jvm.Cond.methodLink "KnowsBetterLaw" (130 : Nat) ({ cls := "KnowsBetterModel", name := "keep", desc := "(I)I" } : Jvm.MethodName)) ∈ mBG := mem_t4 (i := 194) rfl rfl
theorem tw_4_195 : (Jvm.Cond.instanceMethod ({ cls := "KnowsBetterModel", name := "keep", desc := "(I)I" } : Jvm.MethodName)) ∈ mBG := mem_t4 (i := 195) rfl rfl
theorem tw_4_196 : (Jvm.Cond.selects "KnowsBetterModel" ({ cls := "KnowsBetterModel", name := "keep", desc := "(I)I" } : Jvm.MethodName) ({ cls := "KnowsBetterModel", name := "keep", desc := "(I)I" } : Jvm.MethodName)) ∈ mBG := mem_t4 (i := 196) rfl rfl
theorem tw_4_197 : (Jvm.Cond.code ({ cls := "KnowsBetterModel", name := "keep", desc := "(I)I" } : Jvm.MethodName) prog_10_method_59_code (3 : Nat) (Option.some Jvm.ClassFile.FieldType.int)) ∈ mBG := mem_t4 (i := 197) rfl rfl
theorem tw_4_198 : (Jvm.Cond.methodLink "KnowsBetterLaw" (134 : Nat) ({ cls := "KnowsBetterModel", name := "again", desc := "(I)I" } : Jvm.MethodName)) ∈ mBG := mem_t4 (i := 198) rfl rfl
theorem tw_4_199 : (Jvm.Cond.instanceMethod ({ cls := "KnowsBetterModel", name := "again", desc := "(I)I" } : Jvm.MethodName)) ∈ mBG := mem_t4 (i := 199) rfl rfl
theorem tw_4_200 : (Jvm.Cond.selects "KnowsBetterModel" ({ cls := "KnowsBetterModel", name := "again", desc := "(I)I" } : Jvm.MethodName) ({ cls := "KnowsBetterModel", name := "again", desc := "(I)I" } : Jvm.MethodName)) ∈ mBG := mem_t4 (i := 200) rfl rfl
theorem tw_4_201 : (Jvm.Cond.code ({ cls := "KnowsBetterModel", name := "again", desc := "(I)I" } : Jvm.MethodName) prog_10_method_60_code (3 : Nat) (Option.some Jvm.ClassFile.FieldType.int)) ∈ mBG := mem_t4 (i := 201) rfl rfl
theorem tw_4_202 : (Jvm.Cond.constantLong "KnowsBetterLaw" (116 : Nat) (4294967295 : Int64)) ∈ mBG := mem_t4 (i := 202) rfl rfl
theorem tp_1_0 : (Jvm.Cond.selects "KnowsBetter$Text" ({ cls := "KnowsBetter$Text", name := "fits", desc := "(I)Z" } : Jvm.MethodName) ({ cls := "KnowsBetter$Text", name := "fits", desc := "(I)Z" } : Jvm.MethodName)) ∈ mBG := mem_p1 (i := 0) rfl rfl
theorem tp_1_1 : (Jvm.Cond.selects "KnowsBetter$Text" ({ cls := "KnowsBetter$Text", name := "startsPart", desc := "(I)Z" } : Jvm.MethodName) ({ cls := "KnowsBetter$Text", name := "startsPart", desc := "(I)Z" } : Jvm.MethodName)) ∈ mBG := mem_p1 (i := 1) rfl rfl
theorem tp_1_2 : (Jvm.Cond.selects "KnowsBetter$Text" ({ cls := "KnowsBetter$Text", name := "partsAhead", desc := "(II)I" } : Jvm.MethodName) ({ cls := "KnowsBetter$Text", name := "partsAhead", desc := "(II)I" } : Jvm.MethodName)) ∈ mBG := mem_p1 (i := 2) rfl rfl
theorem tp_1_3 : (Jvm.Cond.selects "KnowsBetter" ({ cls := "KnowsBetter", name := "admit", desc := "(I)V" } : Jvm.MethodName) ({ cls := "KnowsBetter", name := "admit", desc := "(I)V" } : Jvm.MethodName)) ∈ mBG := mem_p1 (i := 3) rfl rfl
theorem tp_1_4 : (Jvm.Cond.selects "KnowsBetter" ({ cls := "KnowsBetter", name := "isPerson", desc := "(I)Z" } : Jvm.MethodName) ({ cls := "KnowsBetter", name := "isPerson", desc := "(I)Z" } : Jvm.MethodName)) ∈ mBG := mem_p1 (i := 4) rfl rfl
theorem tp_1_5 : (Jvm.Cond.selects "KnowsBetter" ({ cls := "KnowsBetter", name := "refusalToSay", desc := "(III)I" } : Jvm.MethodName) ({ cls := "KnowsBetter", name := "refusalToSay", desc := "(III)I" } : Jvm.MethodName)) ∈ mBG := mem_p1 (i := 5) rfl rfl
theorem tp_1_6 : (Jvm.Cond.selects "KnowsBetter$Round" ({ cls := "KnowsBetter$Round", name := "firstBold", desc := "(II)I" } : Jvm.MethodName) ({ cls := "KnowsBetter$Round", name := "firstBold", desc := "(II)I" } : Jvm.MethodName)) ∈ mBG := mem_p1 (i := 6) rfl rfl
theorem tp_1_7 : (Jvm.Cond.selects "KnowsBetter$Round" ({ cls := "KnowsBetter$Round", name := "sitter", desc := "(I)I" } : Jvm.MethodName) ({ cls := "KnowsBetter$Round", name := "sitter", desc := "(I)I" } : Jvm.MethodName)) ∈ mBG := mem_p1 (i := 7) rfl rfl
theorem tp_1_8 : (Jvm.Cond.selects "KnowsBetter$Round" ({ cls := "KnowsBetter$Round", name := "fineEach", desc := "(I)V" } : Jvm.MethodName) ({ cls := "KnowsBetter$Round", name := "fineEach", desc := "(I)V" } : Jvm.MethodName)) ∈ mBG := mem_p1 (i := 8) rfl rfl
theorem tp_1_9 : (Jvm.Cond.selects "KnowsBetter$Round" ({ cls := "KnowsBetter$Round", name := "fine", desc := "(II)V" } : Jvm.MethodName) ({ cls := "KnowsBetter$Round", name := "fine", desc := "(II)V" } : Jvm.MethodName)) ∈ mBG := mem_p1 (i := 9) rfl rfl
theorem tp_1_10 : (Jvm.Cond.selects "KnowsBetter$Round" ({ cls := "KnowsBetter$Round", name := "tellEach", desc := "(II)V" } : Jvm.MethodName) ({ cls := "KnowsBetter$Round", name := "tellEach", desc := "(II)V" } : Jvm.MethodName)) ∈ mBG := mem_p1 (i := 10) rfl rfl
theorem tp_1_11 : (Jvm.Cond.selects "KnowsBetter$Round" ({ cls := "KnowsBetter$Round", name := "member", desc := "(II)I" } : Jvm.MethodName) ({ cls := "KnowsBetter$Round", name := "member", desc := "(II)I" } : Jvm.MethodName)) ∈ mBG := mem_p1 (i := 11) rfl rfl
theorem tp_1_12 : (Jvm.Cond.selects "KnowsBetter" ({ cls := "KnowsBetter", name := "isPutRight", desc := "(III)Z" } : Jvm.MethodName) ({ cls := "KnowsBetter", name := "isPutRight", desc := "(III)Z" } : Jvm.MethodName)) ∈ mBG := mem_p1 (i := 12) rfl rfl
theorem tp_1_13 : (Jvm.Cond.selects "KnowsBetter" ({ cls := "KnowsBetter", name := "factsTogether", desc := "(I)I" } : Jvm.MethodName) ({ cls := "KnowsBetter", name := "factsTogether", desc := "(I)I" } : Jvm.MethodName)) ∈ mBG := mem_p1 (i := 13) rfl rfl
theorem tp_1_14 : (Jvm.Cond.selects "KnowsBetterModel" ({ cls := "KnowsBetterModel", name := "readTable", desc := "()I" } : Jvm.MethodName) ({ cls := "KnowsBetterModel", name := "readTable", desc := "()I" } : Jvm.MethodName)) ∈ mBG := mem_p1 (i := 14) rfl rfl
theorem tp_1_15 : (Jvm.Cond.selects "KnowsBetterModel" ({ cls := "KnowsBetterModel", name := "readPart", desc := "()Z" } : Jvm.MethodName) ({ cls := "KnowsBetterModel", name := "readPart", desc := "()Z" } : Jvm.MethodName)) ∈ mBG := mem_p1 (i := 15) rfl rfl
theorem tp_2_0 : (Jvm.Cond.selects "KnowsBetterModel" ({ cls := "KnowsBetterModel", name := "readPerson", desc := "()Z" } : Jvm.MethodName) ({ cls := "KnowsBetterModel", name := "readPerson", desc := "()Z" } : Jvm.MethodName)) ∈ mBG := mem_p2 (i := 0) rfl rfl
theorem tp_2_1 : (Jvm.Cond.selects "KnowsBetterModel" ({ cls := "KnowsBetterModel", name := "sign", desc := "(II)I" } : Jvm.MethodName) ({ cls := "KnowsBetterModel", name := "sign", desc := "(II)I" } : Jvm.MethodName)) ∈ mBG := mem_p2 (i := 1) rfl rfl
theorem tp_2_2 : (Jvm.Cond.selects "KnowsBetterModel" ({ cls := "KnowsBetterModel", name := "readOne", desc := "()Z" } : Jvm.MethodName) ({ cls := "KnowsBetterModel", name := "readOne", desc := "()Z" } : Jvm.MethodName)) ∈ mBG := mem_p2 (i := 2) rfl rfl
theorem tp_2_3 : (Jvm.Cond.selects "KnowsBetterModel" ({ cls := "KnowsBetterModel", name := "closed", desc := "(I)I" } : Jvm.MethodName) ({ cls := "KnowsBetterModel", name := "closed", desc := "(I)I" } : Jvm.MethodName)) ∈ mBG := mem_p2 (i := 3) rfl rfl
theorem tp_2_4 : (Jvm.Cond.selects "KnowsBetterModel" ({ cls := "KnowsBetterModel", name := "finesOf", desc := "([I)I" } : Jvm.MethodName) ({ cls := "KnowsBetterModel", name := "finesOf", desc := "([I)I" } : Jvm.MethodName)) ∈ mBG := mem_p2 (i := 4) rfl rfl
theorem tp_2_5 : (Jvm.Cond.selects "KnowsBetterModel" ({ cls := "KnowsBetterModel", name := "noPerson", desc := "(I)Z" } : Jvm.MethodName) ({ cls := "KnowsBetterModel", name := "noPerson", desc := "(I)Z" } : Jvm.MethodName)) ∈ mBG := mem_p2 (i := 5) rfl rfl
theorem tp_2_6 : (Jvm.Cond.selects "KnowsBetterModel" ({ cls := "KnowsBetterModel", name := "farOf", desc := "([III)I" } : Jvm.MethodName) ({ cls := "KnowsBetterModel", name := "farOf", desc := "([III)I" } : Jvm.MethodName)) ∈ mBG := mem_p2 (i := 6) rfl rfl
theorem tp_2_7 : (Jvm.Cond.selects "KnowsBetterModel" ({ cls := "KnowsBetterModel", name := "note", desc := "()V" } : Jvm.MethodName) ({ cls := "KnowsBetterModel", name := "note", desc := "()V" } : Jvm.MethodName)) ∈ mBG := mem_p2 (i := 7) rfl rfl
theorem tp_2_8 : (Jvm.Cond.selects "KnowsBetterModel" ({ cls := "KnowsBetterModel", name := "goSay", desc := "([IIII)I" } : Jvm.MethodName) ({ cls := "KnowsBetterModel", name := "goSay", desc := "([IIII)I" } : Jvm.MethodName)) ∈ mBG := mem_p2 (i := 8) rfl rfl
theorem tp_2_9 : (Jvm.Cond.selects "KnowsBetterModel" ({ cls := "KnowsBetterModel", name := "knowersOf", desc := "([IIII)I" } : Jvm.MethodName) ({ cls := "KnowsBetterModel", name := "knowersOf", desc := "([IIII)I" } : Jvm.MethodName)) ∈ mBG := mem_p2 (i := 9) rfl rfl
theorem tp_2_10 : (Jvm.Cond.selects "KnowsBetterModel" ({ cls := "KnowsBetterModel", name := "hears", desc := "([IIII)Z" } : Jvm.MethodName) ({ cls := "KnowsBetterModel", name := "hears", desc := "([IIII)Z" } : Jvm.MethodName)) ∈ mBG := mem_p2 (i := 10) rfl rfl
theorem tp_2_11 : (Jvm.Cond.selects "KnowsBetterModel" ({ cls := "KnowsBetterModel", name := "corrector", desc := "([III)I" } : Jvm.MethodName) ({ cls := "KnowsBetterModel", name := "corrector", desc := "([III)I" } : Jvm.MethodName)) ∈ mBG := mem_p2 (i := 11) rfl rfl
theorem tp_2_12 : (Jvm.Cond.selects "KnowsBetterModel" ({ cls := "KnowsBetterModel", name := "sitter", desc := "([II)I" } : Jvm.MethodName) ({ cls := "KnowsBetterModel", name := "sitter", desc := "([II)I" } : Jvm.MethodName)) ∈ mBG := mem_p2 (i := 12) rfl rfl
theorem tp_2_13 : (Jvm.Cond.selects "KnowsBetterModel" ({ cls := "KnowsBetterModel", name := "hearersOf", desc := "([III)I" } : Jvm.MethodName) ({ cls := "KnowsBetterModel", name := "hearersOf", desc := "([III)I" } : Jvm.MethodName)) ∈ mBG := mem_p2 (i := 13) rfl rfl
theorem tp_2_14 : (Jvm.Cond.selects "KnowsBetterModel" ({ cls := "KnowsBetterModel", name := "findSeats", desc := "(IIIZ)V" } : Jvm.MethodName) ({ cls := "KnowsBetterModel", name := "findSeats", desc := "(IIIZ)V" } : Jvm.MethodName)) ∈ mBG := mem_p2 (i := 14) rfl rfl
theorem tp_2_15 : (Jvm.Cond.selects "KnowsBetterModel" ({ cls := "KnowsBetterModel", name := "laySeats", desc := "(I)Z" } : Jvm.MethodName) ({ cls := "KnowsBetterModel", name := "laySeats", desc := "(I)Z" } : Jvm.MethodName)) ∈ mBG := mem_p2 (i := 15) rfl rfl
theorem tp_3_0 : (Jvm.Cond.selects "KnowsBetterModel" ({ cls := "KnowsBetterModel", name := "begin", desc := "()V" } : Jvm.MethodName) ({ cls := "KnowsBetterModel", name := "begin", desc := "()V" } : Jvm.MethodName)) ∈ mBG := mem_p3 (i := 0) rfl rfl
theorem tp_3_1 : (Jvm.Cond.selects "KnowsBetterModel" ({ cls := "KnowsBetterModel", name := "findMinds", desc := "()V" } : Jvm.MethodName) ({ cls := "KnowsBetterModel", name := "findMinds", desc := "()V" } : Jvm.MethodName)) ∈ mBG := mem_p3 (i := 1) rfl rfl
theorem tp_3_2 : (Jvm.Cond.selects "KnowsBetterModel" ({ cls := "KnowsBetterModel", name := "findRests", desc := "()V" } : Jvm.MethodName) ({ cls := "KnowsBetterModel", name := "findRests", desc := "()V" } : Jvm.MethodName)) ∈ mBG := mem_p3 (i := 2) rfl rfl
theorem inG0 : ∀ w ∈ u_ws RX0 TX0 3, w ∈ mBG := by
  show ∀ w ∈ [u_lay RX0 TX0 0, u_lay RX0 TX0 1, u_lay RX0 TX0 2], w ∈ mBG
  simp only [List.forall_mem_cons]
  exact ⟨tw_1_108, tw_1_110, tw_1_112, fun _ h => absurd h List.not_mem_nil⟩
theorem inG1 : ∀ w ∈ u_ws RX1 TX1 2, w ∈ mBG := by
  show ∀ w ∈ [u_lay RX1 TX1 0, u_lay RX1 TX1 1], w ∈ mBG
  simp only [List.forall_mem_cons]
  exact ⟨tw_1_82, tw_1_84, fun _ h => absurd h List.not_mem_nil⟩
theorem inG2 : ∀ w ∈ u_ws RX2 TX2 1, w ∈ mBG := by
  show ∀ w ∈ [u_lay RX2 TX2 0], w ∈ mBG
  simp only [List.forall_mem_cons]
  exact ⟨tw_1_36, fun _ h => absurd h List.not_mem_nil⟩
theorem inG3 : ∀ w ∈ u_ws RX3 TX3 3, w ∈ mBG := by
  show ∀ w ∈ [u_lay RX3 TX3 0, u_lay RX3 TX3 1, u_lay RX3 TX3 2], w ∈ mBG
  simp only [List.forall_mem_cons]
  exact ⟨tw_1_126, tw_1_128, tw_1_130, fun _ h => absurd h List.not_mem_nil⟩
theorem inG4 : ∀ w ∈ u_ws RX4 TX4 1, w ∈ mBG := by
  show ∀ w ∈ [u_lay RX4 TX4 0], w ∈ mBG
  simp only [List.forall_mem_cons]
  exact ⟨tw_1_102, fun _ h => absurd h List.not_mem_nil⟩
theorem inG5 : ∀ w ∈ u_ws RX5 TX5 5, w ∈ mBG := by
  show ∀ w ∈ [u_lay RX5 TX5 0, u_lay RX5 TX5 1, u_lay RX5 TX5 2, u_lay RX5 TX5 3, u_lay RX5 TX5 4], w ∈ mBG
  simp only [List.forall_mem_cons]
  exact ⟨tw_1_45, tw_1_47, tw_1_49, tw_1_51, tw_1_53, fun _ h => absurd h List.not_mem_nil⟩
theorem inG6 : ∀ w ∈ u_ws RX6 TX6 2, w ∈ mBG := by
  show ∀ w ∈ [u_lay RX6 TX6 0, u_lay RX6 TX6 1], w ∈ mBG
  simp only [List.forall_mem_cons]
  exact ⟨tw_1_66, tw_1_68, fun _ h => absurd h List.not_mem_nil⟩
theorem inG7 : ∀ w ∈ u_ws RX7 TX7 9, w ∈ mBG := by
  show ∀ w ∈ [u_lay RX7 TX7 0, u_lay RX7 TX7 1, u_lay RX7 TX7 2, u_lay RX7 TX7 3, u_lay RX7 TX7 4, u_lay RX7 TX7 5, u_lay RX7 TX7 6, u_lay RX7 TX7 7, u_lay RX7 TX7 8], w ∈ mBG
  simp only [List.forall_mem_cons]
  exact ⟨tw_1_142, tw_1_144, tw_1_146, tw_1_148, tw_1_150, tw_1_152, tw_1_154, tw_1_156, tw_1_158, fun _ h => absurd h List.not_mem_nil⟩
theorem inG8 : ∀ w ∈ u_ws RX8 TX8 31, w ∈ mBG := by
  show ∀ w ∈ [u_lay RX8 TX8 0, u_lay RX8 TX8 1, u_lay RX8 TX8 2, u_lay RX8 TX8 3, u_lay RX8 TX8 4, u_lay RX8 TX8 5, u_lay RX8 TX8 6, u_lay RX8 TX8 7, u_lay RX8 TX8 8, u_lay RX8 TX8 9, u_lay RX8 TX8 10, u_lay RX8 TX8 11, u_lay RX8 TX8 12, u_lay RX8 TX8 13, u_lay RX8 TX8 14, u_lay RX8 TX8 15, u_lay RX8 TX8 16, u_lay RX8 TX8 17, u_lay RX8 TX8 18, u_lay RX8 TX8 19, u_lay RX8 TX8 20, u_lay RX8 TX8 21, u_lay RX8 TX8 22, u_lay RX8 TX8 23, u_lay RX8 TX8 24, u_lay RX8 TX8 25, u_lay RX8 TX8 26, u_lay RX8 TX8 27, u_lay RX8 TX8 28, u_lay RX8 TX8 29, u_lay RX8 TX8 30], w ∈ mBG
  simp only [List.forall_mem_cons]
  exact ⟨tw_3_146, tw_3_148, tw_3_150, tw_3_152, tw_3_154, tw_3_156, tw_3_158, tw_3_160, tw_3_162, tw_3_164, tw_3_166, tw_3_168, tw_3_170, tw_3_172, tw_3_174, tw_3_176, tw_3_178, tw_3_180, tw_3_182, tw_3_184, tw_3_186, tw_3_188, tw_3_190, tw_3_192, tw_3_194, tw_3_196, tw_3_198, tw_3_200, tw_3_202, tw_3_204, tw_3_206, fun _ h => absurd h List.not_mem_nil⟩
end
section
theorem dX0_init_0 : decode cX0_init 0 = .ok (.aload_n 0, 1) := by decide +kernel
theorem dX0_init_1 : decode cX0_init 1 = .ok (.invokespecial 3, 3) := by decide +kernel
theorem dX0_init_4 : decode cX0_init 4 = .ok (.aload_n 0, 1) := by decide +kernel
theorem dX0_init_5 : decode cX0_init 5 = .ok (.new 9, 3) := by decide +kernel
theorem dX0_init_8 : decode cX0_init 8 = .ok (.dup, 1) := by decide +kernel
theorem dX0_init_9 : decode cX0_init 9 = .ok (.bipush 14, 2) := by decide +kernel
theorem dX0_init_11 : decode cX0_init 11 = .ok (.invokespecial 11, 3) := by decide +kernel
theorem dX0_init_14 : decode cX0_init 14 = .ok (.putfield 14, 3) := by decide +kernel
theorem dX0_init_17 : decode cX0_init 17 = .ok (.return_, 1) := by decide +kernel
theorem dX0_count_0 : decode cX0_count 0 = .ok (.aload_n 0, 1) := by decide +kernel
theorem dX0_count_1 : decode cX0_count 1 = .ok (.getfield 20, 3) := by decide +kernel
theorem dX0_count_4 : decode cX0_count 4 = .ok (.ireturn, 1) := by decide +kernel
theorem dX0_clear_0 : decode cX0_clear 0 = .ok (.aload_n 0, 1) := by decide +kernel
theorem dX0_clear_1 : decode cX0_clear 1 = .ok (.iconst 0, 1) := by decide +kernel
theorem dX0_clear_2 : decode cX0_clear 2 = .ok (.putfield 20, 3) := by decide +kernel
theorem dX0_clear_5 : decode cX0_clear 5 = .ok (.return_, 1) := by decide +kernel
theorem dX0_remember_0 : decode cX0_remember 0 = .ok (.aload_n 0, 1) := by decide +kernel
theorem dX0_remember_1 : decode cX0_remember 1 = .ok (.getfield 14, 3) := by decide +kernel
theorem dX0_remember_4 : decode cX0_remember 4 = .ok (.aload_n 0, 1) := by decide +kernel
theorem dX0_remember_5 : decode cX0_remember 5 = .ok (.getfield 24, 3) := by decide +kernel
theorem dX0_remember_8 : decode cX0_remember 8 = .ok (.aload_n 1, 1) := by decide +kernel
theorem dX0_remember_9 : decode cX0_remember 9 = .ok (.invokevirtual 27, 3) := by decide +kernel
theorem dX0_remember_12 : decode cX0_remember 12 = .ok (.aload_n 0, 1) := by decide +kernel
theorem dX0_remember_13 : decode cX0_remember 13 = .ok (.aload_n 0, 1) := by decide +kernel
theorem dX0_remember_14 : decode cX0_remember 14 = .ok (.getfield 24, 3) := by decide +kernel
theorem dX0_remember_17 : decode cX0_remember 17 = .ok (.iconst 1, 1) := by decide +kernel
theorem dX0_remember_18 : decode cX0_remember 18 = .ok (.iadd, 1) := by decide +kernel
theorem dX0_remember_19 : decode cX0_remember 19 = .ok (.bipush 14, 2) := by decide +kernel
theorem dX0_remember_21 : decode cX0_remember 21 = .ok (.irem, 1) := by decide +kernel
theorem dX0_remember_22 : decode cX0_remember 22 = .ok (.putfield 24, 3) := by decide +kernel
theorem dX0_remember_25 : decode cX0_remember 25 = .ok (.aload_n 0, 1) := by decide +kernel
theorem dX0_remember_26 : decode cX0_remember 26 = .ok (.aload_n 0, 1) := by decide +kernel
theorem dX0_remember_27 : decode cX0_remember 27 = .ok (.getfield 20, 3) := by decide +kernel
theorem dX0_remember_30 : decode cX0_remember 30 = .ok (.iconst 1, 1) := by decide +kernel
theorem dX0_remember_31 : decode cX0_remember 31 = .ok (.iadd, 1) := by decide +kernel
theorem dX0_remember_32 : decode cX0_remember 32 = .ok (.bipush 14, 2) := by decide +kernel
theorem dX0_remember_34 : decode cX0_remember 34 = .ok (.invokestatic 31, 3) := by decide +kernel
theorem dX0_remember_37 : decode cX0_remember 37 = .ok (.putfield 20, 3) := by decide +kernel
theorem dX0_remember_40 : decode cX0_remember 40 = .ok (.return_, 1) := by decide +kernel
theorem dX0_takeBack_0 : decode cX0_takeBack 0 = .ok (.aload_n 0, 1) := by decide +kernel
theorem dX0_takeBack_1 : decode cX0_takeBack 1 = .ok (.getfield 20, 3) := by decide +kernel
theorem dX0_takeBack_4 : decode cX0_takeBack 4 = .ok (.ifCond .le 41, 3) := by decide +kernel
theorem dX0_takeBack_7 : decode cX0_takeBack 7 = .ok (.aload_n 0, 1) := by decide +kernel
theorem dX0_takeBack_8 : decode cX0_takeBack 8 = .ok (.aload_n 0, 1) := by decide +kernel
theorem dX0_takeBack_9 : decode cX0_takeBack 9 = .ok (.getfield 24, 3) := by decide +kernel
theorem dX0_takeBack_12 : decode cX0_takeBack 12 = .ok (.bipush 14, 2) := by decide +kernel
theorem dX0_takeBack_14 : decode cX0_takeBack 14 = .ok (.iadd, 1) := by decide +kernel
theorem dX0_takeBack_15 : decode cX0_takeBack 15 = .ok (.iconst 1, 1) := by decide +kernel
theorem dX0_takeBack_16 : decode cX0_takeBack 16 = .ok (.isub, 1) := by decide +kernel
theorem dX0_takeBack_17 : decode cX0_takeBack 17 = .ok (.bipush 14, 2) := by decide +kernel
theorem dX0_takeBack_19 : decode cX0_takeBack 19 = .ok (.irem, 1) := by decide +kernel
theorem dX0_takeBack_20 : decode cX0_takeBack 20 = .ok (.putfield 24, 3) := by decide +kernel
theorem dX0_takeBack_23 : decode cX0_takeBack 23 = .ok (.aload_n 0, 1) := by decide +kernel
theorem dX0_takeBack_24 : decode cX0_takeBack 24 = .ok (.dup, 1) := by decide +kernel
theorem dX0_takeBack_25 : decode cX0_takeBack 25 = .ok (.getfield 20, 3) := by decide +kernel
theorem dX0_takeBack_28 : decode cX0_takeBack 28 = .ok (.iconst 1, 1) := by decide +kernel
theorem dX0_takeBack_29 : decode cX0_takeBack 29 = .ok (.isub, 1) := by decide +kernel
theorem dX0_takeBack_30 : decode cX0_takeBack 30 = .ok (.putfield 20, 3) := by decide +kernel
theorem dX0_takeBack_33 : decode cX0_takeBack 33 = .ok (.aload_n 0, 1) := by decide +kernel
theorem dX0_takeBack_34 : decode cX0_takeBack 34 = .ok (.getfield 14, 3) := by decide +kernel
theorem dX0_takeBack_37 : decode cX0_takeBack 37 = .ok (.aload_n 0, 1) := by decide +kernel
theorem dX0_takeBack_38 : decode cX0_takeBack 38 = .ok (.getfield 24, 3) := by decide +kernel
theorem dX0_takeBack_41 : decode cX0_takeBack 41 = .ok (.aload_n 1, 1) := by decide +kernel
theorem dX0_takeBack_42 : decode cX0_takeBack 42 = .ok (.invokevirtual 37, 3) := by decide +kernel
theorem dX0_takeBack_45 : decode cX0_takeBack 45 = .ok (.aload_n 0, 1) := by decide +kernel
theorem dX0_takeBack_46 : decode cX0_takeBack 46 = .ok (.getfield 20, 3) := by decide +kernel
theorem dX0_takeBack_49 : decode cX0_takeBack 49 = .ok (.ireturn, 1) := by decide +kernel
theorem dX1_init_0 : decode cX1_init 0 = .ok (.aload_n 0, 1) := by decide +kernel
theorem dX1_init_1 : decode cX1_init 1 = .ok (.invokespecial 3, 3) := by decide +kernel
theorem dX1_init_4 : decode cX1_init 4 = .ok (.aload_n 0, 1) := by decide +kernel
theorem dX1_init_5 : decode cX1_init 5 = .ok (.new 9, 3) := by decide +kernel
theorem dX1_init_8 : decode cX1_init 8 = .ok (.dup, 1) := by decide +kernel
theorem dX1_init_9 : decode cX1_init 9 = .ok (.bipush 15, 2) := by decide +kernel
theorem dX1_init_11 : decode cX1_init 11 = .ok (.invokespecial 13, 3) := by decide +kernel
theorem dX1_init_14 : decode cX1_init 14 = .ok (.putfield 16, 3) := by decide +kernel
theorem dX1_init_17 : decode cX1_init 17 = .ok (.aload_n 0, 1) := by decide +kernel
theorem dX1_init_18 : decode cX1_init 18 = .ok (.aload_n 1, 1) := by decide +kernel
theorem dX1_init_19 : decode cX1_init 19 = .ok (.putfield 20, 3) := by decide +kernel
theorem dX1_init_22 : decode cX1_init 22 = .ok (.return_, 1) := by decide +kernel
theorem dX1_told_0 : decode cX1_told 0 = .ok (.aload_n 0, 1) := by decide +kernel
theorem dX1_told_1 : decode cX1_told 1 = .ok (.getfield 16, 3) := by decide +kernel
theorem dX1_told_4 : decode cX1_told 4 = .ok (.iconst 0, 1) := by decide +kernel
theorem dX1_told_5 : decode cX1_told 5 = .ok (.iload_n 1, 1) := by decide +kernel
theorem dX1_told_6 : decode cX1_told 6 = .ok (.iadd, 1) := by decide +kernel
theorem dX1_told_7 : decode cX1_told 7 = .ok (.invokevirtual 24, 3) := by decide +kernel
theorem dX1_told_10 : decode cX1_told 10 = .ok (.ireturn, 1) := by decide +kernel
theorem dX1_setTold_0 : decode cX1_setTold 0 = .ok (.aload_n 0, 1) := by decide +kernel
theorem dX1_setTold_1 : decode cX1_setTold 1 = .ok (.getfield 16, 3) := by decide +kernel
theorem dX1_setTold_4 : decode cX1_setTold 4 = .ok (.iconst 0, 1) := by decide +kernel
theorem dX1_setTold_5 : decode cX1_setTold 5 = .ok (.iload_n 1, 1) := by decide +kernel
theorem dX1_setTold_6 : decode cX1_setTold 6 = .ok (.iadd, 1) := by decide +kernel
theorem dX1_setTold_7 : decode cX1_setTold 7 = .ok (.iload_n 2, 1) := by decide +kernel
theorem dX1_setTold_8 : decode cX1_setTold 8 = .ok (.invokevirtual 28, 3) := by decide +kernel
theorem dX1_setTold_11 : decode cX1_setTold 11 = .ok (.return_, 1) := by decide +kernel
theorem dX1_seat_0 : decode cX1_seat 0 = .ok (.aload_n 0, 1) := by decide +kernel
theorem dX1_seat_1 : decode cX1_seat 1 = .ok (.getfield 16, 3) := by decide +kernel
theorem dX1_seat_4 : decode cX1_seat 4 = .ok (.iconst 5, 1) := by decide +kernel
theorem dX1_seat_5 : decode cX1_seat 5 = .ok (.iload_n 1, 1) := by decide +kernel
theorem dX1_seat_6 : decode cX1_seat 6 = .ok (.iadd, 1) := by decide +kernel
theorem dX1_seat_7 : decode cX1_seat 7 = .ok (.invokevirtual 24, 3) := by decide +kernel
theorem dX1_seat_10 : decode cX1_seat 10 = .ok (.ireturn, 1) := by decide +kernel
theorem dX1_setSeat_0 : decode cX1_setSeat 0 = .ok (.aload_n 0, 1) := by decide +kernel
theorem dX1_setSeat_1 : decode cX1_setSeat 1 = .ok (.getfield 16, 3) := by decide +kernel
theorem dX1_setSeat_4 : decode cX1_setSeat 4 = .ok (.iconst 5, 1) := by decide +kernel
theorem dX1_setSeat_5 : decode cX1_setSeat 5 = .ok (.iload_n 1, 1) := by decide +kernel
theorem dX1_setSeat_6 : decode cX1_setSeat 6 = .ok (.iadd, 1) := by decide +kernel
theorem dX1_setSeat_7 : decode cX1_setSeat 7 = .ok (.iload_n 2, 1) := by decide +kernel
theorem dX1_setSeat_8 : decode cX1_setSeat 8 = .ok (.invokevirtual 28, 3) := by decide +kernel
theorem dX1_setSeat_11 : decode cX1_setSeat 11 = .ok (.return_, 1) := by decide +kernel
theorem dX1_fines_0 : decode cX1_fines 0 = .ok (.aload_n 0, 1) := by decide +kernel
theorem dX1_fines_1 : decode cX1_fines 1 = .ok (.getfield 16, 3) := by decide +kernel
theorem dX1_fines_4 : decode cX1_fines 4 = .ok (.bipush 10, 2) := by decide +kernel
theorem dX1_fines_6 : decode cX1_fines 6 = .ok (.iload_n 1, 1) := by decide +kernel
theorem dX1_fines_7 : decode cX1_fines 7 = .ok (.iadd, 1) := by decide +kernel
theorem dX1_fines_8 : decode cX1_fines 8 = .ok (.invokevirtual 24, 3) := by decide +kernel
theorem dX1_fines_11 : decode cX1_fines 11 = .ok (.ireturn, 1) := by decide +kernel
theorem dX1_fine_0 : decode cX1_fine 0 = .ok (.aload_n 0, 1) := by decide +kernel
theorem dX1_fine_1 : decode cX1_fine 1 = .ok (.getfield 16, 3) := by decide +kernel
theorem dX1_fine_4 : decode cX1_fine 4 = .ok (.bipush 10, 2) := by decide +kernel
theorem dX1_fine_6 : decode cX1_fine 6 = .ok (.iload_n 1, 1) := by decide +kernel
theorem dX1_fine_7 : decode cX1_fine 7 = .ok (.iadd, 1) := by decide +kernel
theorem dX1_fine_8 : decode cX1_fine 8 = .ok (.aload_n 0, 1) := by decide +kernel
theorem dX1_fine_9 : decode cX1_fine 9 = .ok (.iload_n 1, 1) := by decide +kernel
theorem dX1_fine_10 : decode cX1_fine 10 = .ok (.invokevirtual 32, 3) := by decide +kernel
theorem dX1_fine_13 : decode cX1_fine 13 = .ok (.iload_n 2, 1) := by decide +kernel
theorem dX1_fine_14 : decode cX1_fine 14 = .ok (.iadd, 1) := by decide +kernel
theorem dX1_fine_15 : decode cX1_fine 15 = .ok (.invokevirtual 28, 3) := by decide +kernel
theorem dX1_fine_18 : decode cX1_fine 18 = .ok (.return_, 1) := by decide +kernel
theorem dX1_clear_0 : decode cX1_clear 0 = .ok (.aload_n 0, 1) := by decide +kernel
theorem dX1_clear_1 : decode cX1_clear 1 = .ok (.getfield 16, 3) := by decide +kernel
theorem dX1_clear_4 : decode cX1_clear 4 = .ok (.iconst 0, 1) := by decide +kernel
theorem dX1_clear_5 : decode cX1_clear 5 = .ok (.invokevirtual 35, 3) := by decide +kernel
theorem dX1_clear_8 : decode cX1_clear 8 = .ok (.return_, 1) := by decide +kernel
theorem dX1_become_0 : decode cX1_become 0 = .ok (.aload_n 0, 1) := by decide +kernel
theorem dX1_become_1 : decode cX1_become 1 = .ok (.getfield 16, 3) := by decide +kernel
theorem dX1_become_4 : decode cX1_become 4 = .ok (.iconst 0, 1) := by decide +kernel
theorem dX1_become_5 : decode cX1_become 5 = .ok (.aload_n 1, 1) := by decide +kernel
theorem dX1_become_6 : decode cX1_become 6 = .ok (.getfield 16, 3) := by decide +kernel
theorem dX1_become_9 : decode cX1_become 9 = .ok (.iconst 0, 1) := by decide +kernel
theorem dX1_become_10 : decode cX1_become 10 = .ok (.bipush 15, 2) := by decide +kernel
theorem dX1_become_12 : decode cX1_become 12 = .ok (.invokevirtual 38, 3) := by decide +kernel
theorem dX1_become_15 : decode cX1_become 15 = .ok (.return_, 1) := by decide +kernel
theorem dX1_known_0 : decode cX1_known 0 = .ok (.aload_n 0, 1) := by decide +kernel
theorem dX1_known_1 : decode cX1_known 1 = .ok (.getfield 20, 3) := by decide +kernel
theorem dX1_known_4 : decode cX1_known 4 = .ok (.aload_n 0, 1) := by decide +kernel
theorem dX1_known_5 : decode cX1_known 5 = .ok (.iload_n 1, 1) := by decide +kernel
theorem dX1_known_6 : decode cX1_known 6 = .ok (.invokevirtual 42, 3) := by decide +kernel
theorem dX1_known_9 : decode cX1_known 9 = .ok (.invokevirtual 45, 3) := by decide +kernel
theorem dX1_known_12 : decode cX1_known 12 = .ok (.ireturn, 1) := by decide +kernel
theorem dX1_knownBySomebody_0 : decode cX1_knownBySomebody 0 = .ok (.iconst 0, 1) := by decide +kernel
theorem dX1_knownBySomebody_1 : decode cX1_knownBySomebody 1 = .ok (.istore_n 1, 1) := by decide +kernel
theorem dX1_knownBySomebody_2 : decode cX1_knownBySomebody 2 = .ok (.iconst 0, 1) := by decide +kernel
theorem dX1_knownBySomebody_3 : decode cX1_knownBySomebody 3 = .ok (.istore_n 2, 1) := by decide +kernel
theorem dX1_knownBySomebody_4 : decode cX1_knownBySomebody 4 = .ok (.iload_n 2, 1) := by decide +kernel
theorem dX1_knownBySomebody_5 : decode cX1_knownBySomebody 5 = .ok (.aload_n 0, 1) := by decide +kernel
theorem dX1_knownBySomebody_6 : decode cX1_knownBySomebody 6 = .ok (.getfield 20, 3) := by decide +kernel
theorem dX1_knownBySomebody_9 : decode cX1_knownBySomebody 9 = .ok (.invokevirtual 50, 3) := by decide +kernel
theorem dX1_knownBySomebody_12 : decode cX1_knownBySomebody 12 = .ok (.if_icmp .ge 17, 3) := by decide +kernel
theorem dX1_knownBySomebody_15 : decode cX1_knownBySomebody 15 = .ok (.iload_n 1, 1) := by decide +kernel
theorem dX1_knownBySomebody_16 : decode cX1_knownBySomebody 16 = .ok (.aload_n 0, 1) := by decide +kernel
theorem dX1_knownBySomebody_17 : decode cX1_knownBySomebody 17 = .ok (.iload_n 2, 1) := by decide +kernel
theorem dX1_knownBySomebody_18 : decode cX1_knownBySomebody 18 = .ok (.invokevirtual 54, 3) := by decide +kernel
theorem dX1_knownBySomebody_21 : decode cX1_knownBySomebody 21 = .ok (.ior, 1) := by decide +kernel
theorem dX1_knownBySomebody_22 : decode cX1_knownBySomebody 22 = .ok (.istore_n 1, 1) := by decide +kernel
theorem dX1_knownBySomebody_23 : decode cX1_knownBySomebody 23 = .ok (.iinc 2 1, 3) := by decide +kernel
theorem dX1_knownBySomebody_26 : decode cX1_knownBySomebody 26 = .ok (.goto (-22), 3) := by decide +kernel
theorem dX1_knownBySomebody_29 : decode cX1_knownBySomebody 29 = .ok (.iload_n 1, 1) := by decide +kernel
theorem dX1_knownBySomebody_30 : decode cX1_knownBySomebody 30 = .ok (.ireturn, 1) := by decide +kernel
theorem dX1_allFines_0 : decode cX1_allFines 0 = .ok (.iconst 0, 1) := by decide +kernel
theorem dX1_allFines_1 : decode cX1_allFines 1 = .ok (.istore_n 1, 1) := by decide +kernel
theorem dX1_allFines_2 : decode cX1_allFines 2 = .ok (.iconst 0, 1) := by decide +kernel
theorem dX1_allFines_3 : decode cX1_allFines 3 = .ok (.istore_n 2, 1) := by decide +kernel
theorem dX1_allFines_4 : decode cX1_allFines 4 = .ok (.iload_n 2, 1) := by decide +kernel
theorem dX1_allFines_5 : decode cX1_allFines 5 = .ok (.aload_n 0, 1) := by decide +kernel
theorem dX1_allFines_6 : decode cX1_allFines 6 = .ok (.getfield 20, 3) := by decide +kernel
theorem dX1_allFines_9 : decode cX1_allFines 9 = .ok (.invokevirtual 50, 3) := by decide +kernel
theorem dX1_allFines_12 : decode cX1_allFines 12 = .ok (.if_icmp .ge 17, 3) := by decide +kernel
theorem dX1_allFines_15 : decode cX1_allFines 15 = .ok (.iload_n 1, 1) := by decide +kernel
theorem dX1_allFines_16 : decode cX1_allFines 16 = .ok (.aload_n 0, 1) := by decide +kernel
theorem dX1_allFines_17 : decode cX1_allFines 17 = .ok (.iload_n 2, 1) := by decide +kernel
theorem dX1_allFines_18 : decode cX1_allFines 18 = .ok (.invokevirtual 32, 3) := by decide +kernel
theorem dX1_allFines_21 : decode cX1_allFines 21 = .ok (.iadd, 1) := by decide +kernel
theorem dX1_allFines_22 : decode cX1_allFines 22 = .ok (.istore_n 1, 1) := by decide +kernel
theorem dX1_allFines_23 : decode cX1_allFines 23 = .ok (.iinc 2 1, 3) := by decide +kernel
theorem dX1_allFines_26 : decode cX1_allFines 26 = .ok (.goto (-22), 3) := by decide +kernel
theorem dX1_allFines_29 : decode cX1_allFines 29 = .ok (.iload_n 1, 1) := by decide +kernel
theorem dX1_allFines_30 : decode cX1_allFines 30 = .ok (.ireturn, 1) := by decide +kernel
theorem dX1_knowers_0 : decode cX1_knowers 0 = .ok (.iconst 0, 1) := by decide +kernel
theorem dX1_knowers_1 : decode cX1_knowers 1 = .ok (.istore_n 2, 1) := by decide +kernel
theorem dX1_knowers_2 : decode cX1_knowers 2 = .ok (.iconst 0, 1) := by decide +kernel
theorem dX1_knowers_3 : decode cX1_knowers 3 = .ok (.istore_n 3, 1) := by decide +kernel
theorem dX1_knowers_4 : decode cX1_knowers 4 = .ok (.iload_n 3, 1) := by decide +kernel
theorem dX1_knowers_5 : decode cX1_knowers 5 = .ok (.aload_n 0, 1) := by decide +kernel
theorem dX1_knowers_6 : decode cX1_knowers 6 = .ok (.getfield 20, 3) := by decide +kernel
theorem dX1_knowers_9 : decode cX1_knowers 9 = .ok (.invokevirtual 50, 3) := by decide +kernel
theorem dX1_knowers_12 : decode cX1_knowers 12 = .ok (.if_icmp .ge 27, 3) := by decide +kernel
theorem dX1_knowers_15 : decode cX1_knowers 15 = .ok (.aload_n 0, 1) := by decide +kernel
theorem dX1_knowers_16 : decode cX1_knowers 16 = .ok (.iload_n 3, 1) := by decide +kernel
theorem dX1_knowers_17 : decode cX1_knowers 17 = .ok (.invokevirtual 54, 3) := by decide +kernel
theorem dX1_knowers_20 : decode cX1_knowers 20 = .ok (.iload_n 1, 1) := by decide +kernel
theorem dX1_knowers_21 : decode cX1_knowers 21 = .ok (.invokestatic 57, 3) := by decide +kernel
theorem dX1_knowers_24 : decode cX1_knowers 24 = .ok (.ifCond .eq 9, 3) := by decide +kernel
theorem dX1_knowers_27 : decode cX1_knowers 27 = .ok (.iload_n 2, 1) := by decide +kernel
theorem dX1_knowers_28 : decode cX1_knowers 28 = .ok (.iconst 1, 1) := by decide +kernel
theorem dX1_knowers_29 : decode cX1_knowers 29 = .ok (.iload_n 3, 1) := by decide +kernel
theorem dX1_knowers_30 : decode cX1_knowers 30 = .ok (.ishl, 1) := by decide +kernel
theorem dX1_knowers_31 : decode cX1_knowers 31 = .ok (.ior, 1) := by decide +kernel
theorem dX1_knowers_32 : decode cX1_knowers 32 = .ok (.istore_n 2, 1) := by decide +kernel
theorem dX1_knowers_33 : decode cX1_knowers 33 = .ok (.iinc 3 1, 3) := by decide +kernel
theorem dX1_knowers_36 : decode cX1_knowers 36 = .ok (.goto (-32), 3) := by decide +kernel
theorem dX1_knowers_39 : decode cX1_knowers 39 = .ok (.iload_n 2, 1) := by decide +kernel
theorem dX1_knowers_40 : decode cX1_knowers 40 = .ok (.ireturn, 1) := by decide +kernel
theorem dX1_distance_0 : decode cX1_distance 0 = .ok (.aload_n 0, 1) := by decide +kernel
theorem dX1_distance_1 : decode cX1_distance 1 = .ok (.iload_n 1, 1) := by decide +kernel
theorem dX1_distance_2 : decode cX1_distance 2 = .ok (.invokevirtual 61, 3) := by decide +kernel
theorem dX1_distance_5 : decode cX1_distance 5 = .ok (.aload_n 0, 1) := by decide +kernel
theorem dX1_distance_6 : decode cX1_distance 6 = .ok (.iload_n 2, 1) := by decide +kernel
theorem dX1_distance_7 : decode cX1_distance 7 = .ok (.invokevirtual 61, 3) := by decide +kernel
theorem dX1_distance_10 : decode cX1_distance 10 = .ok (.isub, 1) := by decide +kernel
theorem dX1_distance_11 : decode cX1_distance 11 = .ok (.invokestatic 64, 3) := by decide +kernel
theorem dX1_distance_14 : decode cX1_distance 14 = .ok (.istore_n 3, 1) := by decide +kernel
theorem dX1_distance_15 : decode cX1_distance 15 = .ok (.iload_n 3, 1) := by decide +kernel
theorem dX1_distance_16 : decode cX1_distance 16 = .ok (.aload_n 0, 1) := by decide +kernel
theorem dX1_distance_17 : decode cX1_distance 17 = .ok (.getfield 20, 3) := by decide +kernel
theorem dX1_distance_20 : decode cX1_distance 20 = .ok (.invokevirtual 50, 3) := by decide +kernel
theorem dX1_distance_23 : decode cX1_distance 23 = .ok (.iload_n 3, 1) := by decide +kernel
theorem dX1_distance_24 : decode cX1_distance 24 = .ok (.isub, 1) := by decide +kernel
theorem dX1_distance_25 : decode cX1_distance 25 = .ok (.invokestatic 69, 3) := by decide +kernel
theorem dX1_distance_28 : decode cX1_distance 28 = .ok (.ireturn, 1) := by decide +kernel
theorem dX1_ears_0 : decode cX1_ears 0 = .ok (.iconst 0, 1) := by decide +kernel
theorem dX1_ears_1 : decode cX1_ears 1 = .ok (.istore_n 3, 1) := by decide +kernel
theorem dX1_ears_2 : decode cX1_ears 2 = .ok (.iconst 0, 1) := by decide +kernel
theorem dX1_ears_3 : decode cX1_ears 3 = .ok (.istore 4, 2) := by decide +kernel
theorem dX1_ears_5 : decode cX1_ears 5 = .ok (.iload 4, 2) := by decide +kernel
theorem dX1_ears_7 : decode cX1_ears 7 = .ok (.aload_n 0, 1) := by decide +kernel
theorem dX1_ears_8 : decode cX1_ears 8 = .ok (.getfield 20, 3) := by decide +kernel
theorem dX1_ears_11 : decode cX1_ears 11 = .ok (.invokevirtual 50, 3) := by decide +kernel
theorem dX1_ears_14 : decode cX1_ears 14 = .ok (.if_icmp .ge 54, 3) := by decide +kernel
theorem dX1_ears_17 : decode cX1_ears 17 = .ok (.aload_n 0, 1) := by decide +kernel
theorem dX1_ears_18 : decode cX1_ears 18 = .ok (.getfield 20, 3) := by decide +kernel
theorem dX1_ears_21 : decode cX1_ears 21 = .ok (.iload 4, 2) := by decide +kernel
theorem dX1_ears_23 : decode cX1_ears 23 = .ok (.invokevirtual 73, 3) := by decide +kernel
theorem dX1_ears_26 : decode cX1_ears 26 = .ok (.iconst 1, 1) := by decide +kernel
theorem dX1_ears_27 : decode cX1_ears 27 = .ok (.if_icmp .ne 7, 3) := by decide +kernel
theorem dX1_ears_30 : decode cX1_ears 30 = .ok (.iconst 1, 1) := by decide +kernel
theorem dX1_ears_31 : decode cX1_ears 31 = .ok (.goto 4, 3) := by decide +kernel
theorem dX1_ears_34 : decode cX1_ears 34 = .ok (.iload_n 2, 1) := by decide +kernel
theorem dX1_ears_35 : decode cX1_ears 35 = .ok (.istore 5, 2) := by decide +kernel
theorem dX1_ears_37 : decode cX1_ears 37 = .ok (.iload 4, 2) := by decide +kernel
theorem dX1_ears_39 : decode cX1_ears 39 = .ok (.iload_n 1, 1) := by decide +kernel
theorem dX1_ears_40 : decode cX1_ears 40 = .ok (.if_icmp .eq 22, 3) := by decide +kernel
theorem dX1_ears_43 : decode cX1_ears 43 = .ok (.aload_n 0, 1) := by decide +kernel
theorem dX1_ears_44 : decode cX1_ears 44 = .ok (.iload 4, 2) := by decide +kernel
theorem dX1_ears_46 : decode cX1_ears 46 = .ok (.iload_n 1, 1) := by decide +kernel
theorem dX1_ears_47 : decode cX1_ears 47 = .ok (.invokevirtual 76, 3) := by decide +kernel
theorem dX1_ears_50 : decode cX1_ears 50 = .ok (.iload 5, 2) := by decide +kernel
theorem dX1_ears_52 : decode cX1_ears 52 = .ok (.if_icmp .gt 10, 3) := by decide +kernel
theorem dX1_ears_55 : decode cX1_ears 55 = .ok (.iload_n 3, 1) := by decide +kernel
theorem dX1_ears_56 : decode cX1_ears 56 = .ok (.iconst 1, 1) := by decide +kernel
theorem dX1_ears_57 : decode cX1_ears 57 = .ok (.iload 4, 2) := by decide +kernel
theorem dX1_ears_59 : decode cX1_ears 59 = .ok (.ishl, 1) := by decide +kernel
theorem dX1_ears_60 : decode cX1_ears 60 = .ok (.ior, 1) := by decide +kernel
theorem dX1_ears_61 : decode cX1_ears 61 = .ok (.istore_n 3, 1) := by decide +kernel
theorem dX1_ears_62 : decode cX1_ears 62 = .ok (.iinc 4 1, 3) := by decide +kernel
theorem dX1_ears_65 : decode cX1_ears 65 = .ok (.goto (-60), 3) := by decide +kernel
theorem dX1_ears_68 : decode cX1_ears 68 = .ok (.iload_n 3, 1) := by decide +kernel
theorem dX1_ears_69 : decode cX1_ears 69 = .ok (.ireturn, 1) := by decide +kernel
theorem dX1_lie_0 : decode cX1_lie 0 = .ok (.aload_n 0, 1) := by decide +kernel
theorem dX1_lie_1 : decode cX1_lie 1 = .ok (.iload_n 1, 1) := by decide +kernel
theorem dX1_lie_2 : decode cX1_lie 2 = .ok (.iload_n 3, 1) := by decide +kernel
theorem dX1_lie_3 : decode cX1_lie 3 = .ok (.invokevirtual 79, 3) := by decide +kernel
theorem dX1_lie_6 : decode cX1_lie 6 = .ok (.istore 4, 2) := by decide +kernel
theorem dX1_lie_8 : decode cX1_lie 8 = .ok (.iload 4, 2) := by decide +kernel
theorem dX1_lie_10 : decode cX1_lie 10 = .ok (.aload_n 0, 1) := by decide +kernel
theorem dX1_lie_11 : decode cX1_lie 11 = .ok (.iload_n 2, 1) := by decide +kernel
theorem dX1_lie_12 : decode cX1_lie 12 = .ok (.invokevirtual 82, 3) := by decide +kernel
theorem dX1_lie_15 : decode cX1_lie 15 = .ok (.iand, 1) := by decide +kernel
theorem dX1_lie_16 : decode cX1_lie 16 = .ok (.istore 5, 2) := by decide +kernel
theorem dX1_lie_18 : decode cX1_lie 18 = .ok (.aload_n 0, 1) := by decide +kernel
theorem dX1_lie_19 : decode cX1_lie 19 = .ok (.iload_n 1, 1) := by decide +kernel
theorem dX1_lie_20 : decode cX1_lie 20 = .ok (.iload 5, 2) := by decide +kernel
theorem dX1_lie_22 : decode cX1_lie 22 = .ok (.invokevirtual 85, 3) := by decide +kernel
theorem dX1_lie_25 : decode cX1_lie 25 = .ok (.istore 6, 2) := by decide +kernel
theorem dX1_lie_27 : decode cX1_lie 27 = .ok (.iload 6, 2) := by decide +kernel
theorem dX1_lie_29 : decode cX1_lie 29 = .ok (.bipush (-9), 2) := by decide +kernel
theorem dX1_lie_31 : decode cX1_lie 31 = .ok (.if_icmp .ne 12, 3) := by decide +kernel
theorem dX1_lie_34 : decode cX1_lie 34 = .ok (.aload_n 0, 1) := by decide +kernel
theorem dX1_lie_35 : decode cX1_lie 35 = .ok (.iload 5, 2) := by decide +kernel
theorem dX1_lie_37 : decode cX1_lie 37 = .ok (.invokevirtual 88, 3) := by decide +kernel
theorem dX1_lie_40 : decode cX1_lie 40 = .ok (.bipush (-9), 2) := by decide +kernel
theorem dX1_lie_42 : decode cX1_lie 42 = .ok (.ireturn, 1) := by decide +kernel
theorem dX1_lie_43 : decode cX1_lie 43 = .ok (.aload_n 0, 1) := by decide +kernel
theorem dX1_lie_44 : decode cX1_lie 44 = .ok (.iload 4, 2) := by decide +kernel
theorem dX1_lie_46 : decode cX1_lie 46 = .ok (.iload_n 2, 1) := by decide +kernel
theorem dX1_lie_47 : decode cX1_lie 47 = .ok (.invokevirtual 91, 3) := by decide +kernel
theorem dX1_lie_50 : decode cX1_lie 50 = .ok (.aload_n 0, 1) := by decide +kernel
theorem dX1_lie_51 : decode cX1_lie 51 = .ok (.getfield 20, 3) := by decide +kernel
theorem dX1_lie_54 : decode cX1_lie 54 = .ok (.iload_n 1, 1) := by decide +kernel
theorem dX1_lie_55 : decode cX1_lie 55 = .ok (.invokevirtual 73, 3) := by decide +kernel
theorem dX1_lie_58 : decode cX1_lie 58 = .ok (.iconst 3, 1) := by decide +kernel
theorem dX1_lie_59 : decode cX1_lie 59 = .ok (.if_icmp .eq 9, 3) := by decide +kernel
theorem dX1_lie_62 : decode cX1_lie 62 = .ok (.aload_n 0, 1) := by decide +kernel
theorem dX1_lie_63 : decode cX1_lie 63 = .ok (.iload_n 1, 1) := by decide +kernel
theorem dX1_lie_64 : decode cX1_lie 64 = .ok (.iconst 1, 1) := by decide +kernel
theorem dX1_lie_65 : decode cX1_lie 65 = .ok (.invokevirtual 94, 3) := by decide +kernel
theorem dX1_lie_68 : decode cX1_lie 68 = .ok (.iload 6, 2) := by decide +kernel
theorem dX1_lie_70 : decode cX1_lie 70 = .ok (.ireturn, 1) := by decide +kernel
theorem dX1_firstBold_0 : decode cX1_firstBold 0 = .ok (.aload_n 0, 1) := by decide +kernel
theorem dX1_firstBold_1 : decode cX1_firstBold 1 = .ok (.getfield 20, 3) := by decide +kernel
theorem dX1_firstBold_4 : decode cX1_firstBold 4 = .ok (.invokevirtual 50, 3) := by decide +kernel
theorem dX1_firstBold_7 : decode cX1_firstBold 7 = .ok (.istore_n 3, 1) := by decide +kernel
theorem dX1_firstBold_8 : decode cX1_firstBold 8 = .ok (.iconst 1, 1) := by decide +kernel
theorem dX1_firstBold_9 : decode cX1_firstBold 9 = .ok (.istore 4, 2) := by decide +kernel
theorem dX1_firstBold_11 : decode cX1_firstBold 11 = .ok (.iload 4, 2) := by decide +kernel
theorem dX1_firstBold_13 : decode cX1_firstBold 13 = .ok (.iload_n 3, 1) := by decide +kernel
theorem dX1_firstBold_14 : decode cX1_firstBold 14 = .ok (.if_icmp .ge 50, 3) := by decide +kernel
theorem dX1_firstBold_17 : decode cX1_firstBold 17 = .ok (.aload_n 0, 1) := by decide +kernel
theorem dX1_firstBold_18 : decode cX1_firstBold 18 = .ok (.aload_n 0, 1) := by decide +kernel
theorem dX1_firstBold_19 : decode cX1_firstBold 19 = .ok (.iload_n 1, 1) := by decide +kernel
theorem dX1_firstBold_20 : decode cX1_firstBold 20 = .ok (.invokevirtual 61, 3) := by decide +kernel
theorem dX1_firstBold_23 : decode cX1_firstBold 23 = .ok (.iload 4, 2) := by decide +kernel
theorem dX1_firstBold_25 : decode cX1_firstBold 25 = .ok (.iadd, 1) := by decide +kernel
theorem dX1_firstBold_26 : decode cX1_firstBold 26 = .ok (.iload_n 3, 1) := by decide +kernel
theorem dX1_firstBold_27 : decode cX1_firstBold 27 = .ok (.irem, 1) := by decide +kernel
theorem dX1_firstBold_28 : decode cX1_firstBold 28 = .ok (.invokevirtual 97, 3) := by decide +kernel
theorem dX1_firstBold_31 : decode cX1_firstBold 31 = .ok (.istore 5, 2) := by decide +kernel
theorem dX1_firstBold_33 : decode cX1_firstBold 33 = .ok (.iload_n 2, 1) := by decide +kernel
theorem dX1_firstBold_34 : decode cX1_firstBold 34 = .ok (.iload 5, 2) := by decide +kernel
theorem dX1_firstBold_36 : decode cX1_firstBold 36 = .ok (.invokestatic 57, 3) := by decide +kernel
theorem dX1_firstBold_39 : decode cX1_firstBold 39 = .ok (.ifCond .eq 19, 3) := by decide +kernel
theorem dX1_firstBold_42 : decode cX1_firstBold 42 = .ok (.aload_n 0, 1) := by decide +kernel
theorem dX1_firstBold_43 : decode cX1_firstBold 43 = .ok (.getfield 20, 3) := by decide +kernel
theorem dX1_firstBold_46 : decode cX1_firstBold 46 = .ok (.iload 5, 2) := by decide +kernel
theorem dX1_firstBold_48 : decode cX1_firstBold 48 = .ok (.invokevirtual 73, 3) := by decide +kernel
theorem dX1_firstBold_51 : decode cX1_firstBold 51 = .ok (.iconst 2, 1) := by decide +kernel
theorem dX1_firstBold_52 : decode cX1_firstBold 52 = .ok (.if_icmp .eq 6, 3) := by decide +kernel
theorem dX1_firstBold_55 : decode cX1_firstBold 55 = .ok (.iload 5, 2) := by decide +kernel
theorem dX1_firstBold_57 : decode cX1_firstBold 57 = .ok (.ireturn, 1) := by decide +kernel
theorem dX1_firstBold_58 : decode cX1_firstBold 58 = .ok (.iinc 4 1, 3) := by decide +kernel
theorem dX1_firstBold_61 : decode cX1_firstBold 61 = .ok (.goto (-50), 3) := by decide +kernel
theorem dX1_firstBold_64 : decode cX1_firstBold 64 = .ok (.bipush (-9), 2) := by decide +kernel
theorem dX1_firstBold_66 : decode cX1_firstBold 66 = .ok (.ireturn, 1) := by decide +kernel
theorem dX1_sitter_0 : decode cX1_sitter 0 = .ok (.iconst 0, 1) := by decide +kernel
theorem dX1_sitter_1 : decode cX1_sitter 1 = .ok (.istore_n 2, 1) := by decide +kernel
theorem dX1_sitter_2 : decode cX1_sitter 2 = .ok (.iload_n 2, 1) := by decide +kernel
theorem dX1_sitter_3 : decode cX1_sitter 3 = .ok (.aload_n 0, 1) := by decide +kernel
theorem dX1_sitter_4 : decode cX1_sitter 4 = .ok (.getfield 20, 3) := by decide +kernel
theorem dX1_sitter_7 : decode cX1_sitter 7 = .ok (.invokevirtual 50, 3) := by decide +kernel
theorem dX1_sitter_10 : decode cX1_sitter 10 = .ok (.if_icmp .ge 20, 3) := by decide +kernel
theorem dX1_sitter_13 : decode cX1_sitter 13 = .ok (.aload_n 0, 1) := by decide +kernel
theorem dX1_sitter_14 : decode cX1_sitter 14 = .ok (.iload_n 2, 1) := by decide +kernel
theorem dX1_sitter_15 : decode cX1_sitter 15 = .ok (.invokevirtual 61, 3) := by decide +kernel
theorem dX1_sitter_18 : decode cX1_sitter 18 = .ok (.iload_n 1, 1) := by decide +kernel
theorem dX1_sitter_19 : decode cX1_sitter 19 = .ok (.if_icmp .ne 5, 3) := by decide +kernel
theorem dX1_sitter_22 : decode cX1_sitter 22 = .ok (.iload_n 2, 1) := by decide +kernel
theorem dX1_sitter_23 : decode cX1_sitter 23 = .ok (.ireturn, 1) := by decide +kernel
theorem dX1_sitter_24 : decode cX1_sitter 24 = .ok (.iinc 2 1, 3) := by decide +kernel
theorem dX1_sitter_27 : decode cX1_sitter 27 = .ok (.goto (-25), 3) := by decide +kernel
theorem dX1_sitter_30 : decode cX1_sitter 30 = .ok (.iconst 0, 1) := by decide +kernel
theorem dX1_sitter_31 : decode cX1_sitter 31 = .ok (.ireturn, 1) := by decide +kernel
theorem dX1_fineEach_0 : decode cX1_fineEach 0 = .ok (.iload_n 1, 1) := by decide +kernel
theorem dX1_fineEach_1 : decode cX1_fineEach 1 = .ok (.invokestatic 100, 3) := by decide +kernel
theorem dX1_fineEach_4 : decode cX1_fineEach 4 = .ok (.istore_n 2, 1) := by decide +kernel
theorem dX1_fineEach_5 : decode cX1_fineEach 5 = .ok (.iconst 0, 1) := by decide +kernel
theorem dX1_fineEach_6 : decode cX1_fineEach 6 = .ok (.istore_n 3, 1) := by decide +kernel
theorem dX1_fineEach_7 : decode cX1_fineEach 7 = .ok (.iload_n 3, 1) := by decide +kernel
theorem dX1_fineEach_8 : decode cX1_fineEach 8 = .ok (.aload_n 0, 1) := by decide +kernel
theorem dX1_fineEach_9 : decode cX1_fineEach 9 = .ok (.getfield 20, 3) := by decide +kernel
theorem dX1_fineEach_12 : decode cX1_fineEach 12 = .ok (.invokevirtual 50, 3) := by decide +kernel
theorem dX1_fineEach_15 : decode cX1_fineEach 15 = .ok (.if_icmp .ge 30, 3) := by decide +kernel
theorem dX1_fineEach_18 : decode cX1_fineEach 18 = .ok (.iload_n 2, 1) := by decide +kernel
theorem dX1_fineEach_19 : decode cX1_fineEach 19 = .ok (.ifCond .le 20, 3) := by decide +kernel
theorem dX1_fineEach_22 : decode cX1_fineEach 22 = .ok (.iload_n 1, 1) := by decide +kernel
theorem dX1_fineEach_23 : decode cX1_fineEach 23 = .ok (.iload_n 3, 1) := by decide +kernel
theorem dX1_fineEach_24 : decode cX1_fineEach 24 = .ok (.invokestatic 57, 3) := by decide +kernel
theorem dX1_fineEach_27 : decode cX1_fineEach 27 = .ok (.ifCond .eq 12, 3) := by decide +kernel
theorem dX1_fineEach_30 : decode cX1_fineEach 30 = .ok (.aload_n 0, 1) := by decide +kernel
theorem dX1_fineEach_31 : decode cX1_fineEach 31 = .ok (.iload_n 3, 1) := by decide +kernel
theorem dX1_fineEach_32 : decode cX1_fineEach 32 = .ok (.bipush 12, 2) := by decide +kernel
theorem dX1_fineEach_34 : decode cX1_fineEach 34 = .ok (.iload_n 2, 1) := by decide +kernel
theorem dX1_fineEach_35 : decode cX1_fineEach 35 = .ok (.idiv, 1) := by decide +kernel
theorem dX1_fineEach_36 : decode cX1_fineEach 36 = .ok (.invokevirtual 94, 3) := by decide +kernel
theorem dX1_fineEach_39 : decode cX1_fineEach 39 = .ok (.iinc 3 1, 3) := by decide +kernel
theorem dX1_fineEach_42 : decode cX1_fineEach 42 = .ok (.goto (-35), 3) := by decide +kernel
theorem dX1_fineEach_45 : decode cX1_fineEach 45 = .ok (.return_, 1) := by decide +kernel
theorem dX1_tellEach_0 : decode cX1_tellEach 0 = .ok (.iconst 0, 1) := by decide +kernel
theorem dX1_tellEach_1 : decode cX1_tellEach 1 = .ok (.istore_n 3, 1) := by decide +kernel
theorem dX1_tellEach_2 : decode cX1_tellEach 2 = .ok (.iload_n 3, 1) := by decide +kernel
theorem dX1_tellEach_3 : decode cX1_tellEach 3 = .ok (.aload_n 0, 1) := by decide +kernel
theorem dX1_tellEach_4 : decode cX1_tellEach 4 = .ok (.getfield 20, 3) := by decide +kernel
theorem dX1_tellEach_7 : decode cX1_tellEach 7 = .ok (.invokevirtual 50, 3) := by decide +kernel
theorem dX1_tellEach_10 : decode cX1_tellEach 10 = .ok (.if_icmp .ge 31, 3) := by decide +kernel
theorem dX1_tellEach_13 : decode cX1_tellEach 13 = .ok (.iload_n 1, 1) := by decide +kernel
theorem dX1_tellEach_14 : decode cX1_tellEach 14 = .ok (.iload_n 3, 1) := by decide +kernel
theorem dX1_tellEach_15 : decode cX1_tellEach 15 = .ok (.invokestatic 57, 3) := by decide +kernel
theorem dX1_tellEach_18 : decode cX1_tellEach 18 = .ok (.ifCond .eq 17, 3) := by decide +kernel
theorem dX1_tellEach_21 : decode cX1_tellEach 21 = .ok (.aload_n 0, 1) := by decide +kernel
theorem dX1_tellEach_22 : decode cX1_tellEach 22 = .ok (.iload_n 3, 1) := by decide +kernel
theorem dX1_tellEach_23 : decode cX1_tellEach 23 = .ok (.aload_n 0, 1) := by decide +kernel
theorem dX1_tellEach_24 : decode cX1_tellEach 24 = .ok (.iload_n 3, 1) := by decide +kernel
theorem dX1_tellEach_25 : decode cX1_tellEach 25 = .ok (.invokevirtual 42, 3) := by decide +kernel
theorem dX1_tellEach_28 : decode cX1_tellEach 28 = .ok (.iconst 1, 1) := by decide +kernel
theorem dX1_tellEach_29 : decode cX1_tellEach 29 = .ok (.iload_n 2, 1) := by decide +kernel
theorem dX1_tellEach_30 : decode cX1_tellEach 30 = .ok (.ishl, 1) := by decide +kernel
theorem dX1_tellEach_31 : decode cX1_tellEach 31 = .ok (.ior, 1) := by decide +kernel
theorem dX1_tellEach_32 : decode cX1_tellEach 32 = .ok (.invokevirtual 105, 3) := by decide +kernel
theorem dX1_tellEach_35 : decode cX1_tellEach 35 = .ok (.iinc 3 1, 3) := by decide +kernel
theorem dX1_tellEach_38 : decode cX1_tellEach 38 = .ok (.goto (-36), 3) := by decide +kernel
theorem dX1_tellEach_41 : decode cX1_tellEach 41 = .ok (.return_, 1) := by decide +kernel
theorem dX1_sitInOrder_0 : decode cX1_sitInOrder 0 = .ok (.aload_n 0, 1) := by decide +kernel
theorem dX1_sitInOrder_1 : decode cX1_sitInOrder 1 = .ok (.getfield 20, 3) := by decide +kernel
theorem dX1_sitInOrder_4 : decode cX1_sitInOrder 4 = .ok (.invokevirtual 50, 3) := by decide +kernel
theorem dX1_sitInOrder_7 : decode cX1_sitInOrder 7 = .ok (.istore_n 2, 1) := by decide +kernel
theorem dX1_sitInOrder_8 : decode cX1_sitInOrder 8 = .ok (.iconst 1, 1) := by decide +kernel
theorem dX1_sitInOrder_9 : decode cX1_sitInOrder 9 = .ok (.iload_n 2, 1) := by decide +kernel
theorem dX1_sitInOrder_10 : decode cX1_sitInOrder 10 = .ok (.ishl, 1) := by decide +kernel
theorem dX1_sitInOrder_11 : decode cX1_sitInOrder 11 = .ok (.iconst 2, 1) := by decide +kernel
theorem dX1_sitInOrder_12 : decode cX1_sitInOrder 12 = .ok (.isub, 1) := by decide +kernel
theorem dX1_sitInOrder_13 : decode cX1_sitInOrder 13 = .ok (.istore_n 3, 1) := by decide +kernel
theorem dX1_sitInOrder_14 : decode cX1_sitInOrder 14 = .ok (.iload_n 2, 1) := by decide +kernel
theorem dX1_sitInOrder_15 : decode cX1_sitInOrder 15 = .ok (.iconst 1, 1) := by decide +kernel
theorem dX1_sitInOrder_16 : decode cX1_sitInOrder 16 = .ok (.isub, 1) := by decide +kernel
theorem dX1_sitInOrder_17 : decode cX1_sitInOrder 17 = .ok (.invokestatic 108, 3) := by decide +kernel
theorem dX1_sitInOrder_20 : decode cX1_sitInOrder 20 = .ok (.istore 4, 2) := by decide +kernel
theorem dX1_sitInOrder_22 : decode cX1_sitInOrder 22 = .ok (.iload_n 1, 1) := by decide +kernel
theorem dX1_sitInOrder_23 : decode cX1_sitInOrder 23 = .ok (.istore 5, 2) := by decide +kernel
theorem dX1_sitInOrder_25 : decode cX1_sitInOrder 25 = .ok (.aload_n 0, 1) := by decide +kernel
theorem dX1_sitInOrder_26 : decode cX1_sitInOrder 26 = .ok (.iconst 0, 1) := by decide +kernel
theorem dX1_sitInOrder_27 : decode cX1_sitInOrder 27 = .ok (.invokevirtual 61, 3) := by decide +kernel
theorem dX1_sitInOrder_30 : decode cX1_sitInOrder 30 = .ok (.istore 6, 2) := by decide +kernel
theorem dX1_sitInOrder_32 : decode cX1_sitInOrder 32 = .ok (.iconst 0, 1) := by decide +kernel
theorem dX1_sitInOrder_33 : decode cX1_sitInOrder 33 = .ok (.istore 7, 2) := by decide +kernel
theorem dX1_sitInOrder_35 : decode cX1_sitInOrder 35 = .ok (.iload 7, 2) := by decide +kernel
theorem dX1_sitInOrder_37 : decode cX1_sitInOrder 37 = .ok (.iload_n 2, 1) := by decide +kernel
theorem dX1_sitInOrder_38 : decode cX1_sitInOrder 38 = .ok (.if_icmp .ge 73, 3) := by decide +kernel
theorem dX1_sitInOrder_41 : decode cX1_sitInOrder 41 = .ok (.iload 7, 2) := by decide +kernel
theorem dX1_sitInOrder_43 : decode cX1_sitInOrder 43 = .ok (.iload 6, 2) := by decide +kernel
theorem dX1_sitInOrder_45 : decode cX1_sitInOrder 45 = .ok (.if_icmp .eq 60, 3) := by decide +kernel
theorem dX1_sitInOrder_48 : decode cX1_sitInOrder 48 = .ok (.iload 4, 2) := by decide +kernel
theorem dX1_sitInOrder_50 : decode cX1_sitInOrder 50 = .ok (.iload_n 3, 1) := by decide +kernel
theorem dX1_sitInOrder_51 : decode cX1_sitInOrder 51 = .ok (.invokestatic 100, 3) := by decide +kernel
theorem dX1_sitInOrder_54 : decode cX1_sitInOrder 54 = .ok (.iconst 1, 1) := by decide +kernel
theorem dX1_sitInOrder_55 : decode cX1_sitInOrder 55 = .ok (.invokestatic 111, 3) := by decide +kernel
theorem dX1_sitInOrder_58 : decode cX1_sitInOrder 58 = .ok (.idiv, 1) := by decide +kernel
theorem dX1_sitInOrder_59 : decode cX1_sitInOrder 59 = .ok (.istore 4, 2) := by decide +kernel
theorem dX1_sitInOrder_61 : decode cX1_sitInOrder 61 = .ok (.aload_n 0, 1) := by decide +kernel
theorem dX1_sitInOrder_62 : decode cX1_sitInOrder 62 = .ok (.iload_n 3, 1) := by decide +kernel
theorem dX1_sitInOrder_63 : decode cX1_sitInOrder 63 = .ok (.iload 5, 2) := by decide +kernel
theorem dX1_sitInOrder_65 : decode cX1_sitInOrder 65 = .ok (.iload 4, 2) := by decide +kernel
theorem dX1_sitInOrder_67 : decode cX1_sitInOrder 67 = .ok (.iconst 1, 1) := by decide +kernel
theorem dX1_sitInOrder_68 : decode cX1_sitInOrder 68 = .ok (.invokestatic 111, 3) := by decide +kernel
theorem dX1_sitInOrder_71 : decode cX1_sitInOrder 71 = .ok (.idiv, 1) := by decide +kernel
theorem dX1_sitInOrder_72 : decode cX1_sitInOrder 72 = .ok (.invokevirtual 114, 3) := by decide +kernel
theorem dX1_sitInOrder_75 : decode cX1_sitInOrder 75 = .ok (.istore 8, 2) := by decide +kernel
theorem dX1_sitInOrder_77 : decode cX1_sitInOrder 77 = .ok (.iload 5, 2) := by decide +kernel
theorem dX1_sitInOrder_79 : decode cX1_sitInOrder 79 = .ok (.iload 4, 2) := by decide +kernel
theorem dX1_sitInOrder_81 : decode cX1_sitInOrder 81 = .ok (.iconst 1, 1) := by decide +kernel
theorem dX1_sitInOrder_82 : decode cX1_sitInOrder 82 = .ok (.invokestatic 111, 3) := by decide +kernel
theorem dX1_sitInOrder_85 : decode cX1_sitInOrder 85 = .ok (.irem, 1) := by decide +kernel
theorem dX1_sitInOrder_86 : decode cX1_sitInOrder 86 = .ok (.istore 5, 2) := by decide +kernel
theorem dX1_sitInOrder_88 : decode cX1_sitInOrder 88 = .ok (.aload_n 0, 1) := by decide +kernel
theorem dX1_sitInOrder_89 : decode cX1_sitInOrder 89 = .ok (.iload 8, 2) := by decide +kernel
theorem dX1_sitInOrder_91 : decode cX1_sitInOrder 91 = .ok (.iload 7, 2) := by decide +kernel
theorem dX1_sitInOrder_93 : decode cX1_sitInOrder 93 = .ok (.invokevirtual 117, 3) := by decide +kernel
theorem dX1_sitInOrder_96 : decode cX1_sitInOrder 96 = .ok (.iload_n 3, 1) := by decide +kernel
theorem dX1_sitInOrder_97 : decode cX1_sitInOrder 97 = .ok (.iconst 1, 1) := by decide +kernel
theorem dX1_sitInOrder_98 : decode cX1_sitInOrder 98 = .ok (.iload 8, 2) := by decide +kernel
theorem dX1_sitInOrder_100 : decode cX1_sitInOrder 100 = .ok (.ishl, 1) := by decide +kernel
theorem dX1_sitInOrder_101 : decode cX1_sitInOrder 101 = .ok (.iconst (-1), 1) := by decide +kernel
theorem dX1_sitInOrder_102 : decode cX1_sitInOrder 102 = .ok (.ixor, 1) := by decide +kernel
theorem dX1_sitInOrder_103 : decode cX1_sitInOrder 103 = .ok (.iand, 1) := by decide +kernel
theorem dX1_sitInOrder_104 : decode cX1_sitInOrder 104 = .ok (.istore_n 3, 1) := by decide +kernel
theorem dX1_sitInOrder_105 : decode cX1_sitInOrder 105 = .ok (.iinc 7 1, 3) := by decide +kernel
theorem dX1_sitInOrder_108 : decode cX1_sitInOrder 108 = .ok (.goto (-73), 3) := by decide +kernel
theorem dX1_sitInOrder_111 : decode cX1_sitInOrder 111 = .ok (.return_, 1) := by decide +kernel
theorem dX1_member_0 : decode cX1_member 0 = .ok (.iload_n 2, 1) := by decide +kernel
theorem dX1_member_1 : decode cX1_member 1 = .ok (.istore_n 3, 1) := by decide +kernel
theorem dX1_member_2 : decode cX1_member 2 = .ok (.iconst 0, 1) := by decide +kernel
theorem dX1_member_3 : decode cX1_member 3 = .ok (.istore 4, 2) := by decide +kernel
theorem dX1_member_5 : decode cX1_member 5 = .ok (.iload 4, 2) := by decide +kernel
theorem dX1_member_7 : decode cX1_member 7 = .ok (.aload_n 0, 1) := by decide +kernel
theorem dX1_member_8 : decode cX1_member 8 = .ok (.getfield 20, 3) := by decide +kernel
theorem dX1_member_11 : decode cX1_member 11 = .ok (.invokevirtual 50, 3) := by decide +kernel
theorem dX1_member_14 : decode cX1_member 14 = .ok (.if_icmp .ge 28, 3) := by decide +kernel
theorem dX1_member_17 : decode cX1_member 17 = .ok (.iload_n 1, 1) := by decide +kernel
theorem dX1_member_18 : decode cX1_member 18 = .ok (.iload 4, 2) := by decide +kernel
theorem dX1_member_20 : decode cX1_member 20 = .ok (.invokestatic 57, 3) := by decide +kernel
theorem dX1_member_23 : decode cX1_member 23 = .ok (.ifCond .eq 13, 3) := by decide +kernel
theorem dX1_member_26 : decode cX1_member 26 = .ok (.iload_n 3, 1) := by decide +kernel
theorem dX1_member_27 : decode cX1_member 27 = .ok (.ifCond .ne 6, 3) := by decide +kernel
theorem dX1_member_30 : decode cX1_member 30 = .ok (.iload 4, 2) := by decide +kernel
theorem dX1_member_32 : decode cX1_member 32 = .ok (.ireturn, 1) := by decide +kernel
theorem dX1_member_33 : decode cX1_member 33 = .ok (.iinc 3 (-1), 3) := by decide +kernel
theorem dX1_member_36 : decode cX1_member 36 = .ok (.iinc 4 1, 3) := by decide +kernel
theorem dX1_member_39 : decode cX1_member 39 = .ok (.goto (-34), 3) := by decide +kernel
theorem dX1_member_42 : decode cX1_member 42 = .ok (.iconst 0, 1) := by decide +kernel
theorem dX1_member_43 : decode cX1_member 43 = .ok (.ireturn, 1) := by decide +kernel
theorem dX1_seatFigures_0 : decode cX1_seatFigures 0 = .ok (.iconst 0, 1) := by decide +kernel
theorem dX1_seatFigures_1 : decode cX1_seatFigures 1 = .ok (.istore_n 1, 1) := by decide +kernel
theorem dX1_seatFigures_2 : decode cX1_seatFigures 2 = .ok (.iconst 0, 1) := by decide +kernel
theorem dX1_seatFigures_3 : decode cX1_seatFigures 3 = .ok (.istore_n 2, 1) := by decide +kernel
theorem dX1_seatFigures_4 : decode cX1_seatFigures 4 = .ok (.iload_n 2, 1) := by decide +kernel
theorem dX1_seatFigures_5 : decode cX1_seatFigures 5 = .ok (.aload_n 0, 1) := by decide +kernel
theorem dX1_seatFigures_6 : decode cX1_seatFigures 6 = .ok (.getfield 20, 3) := by decide +kernel
theorem dX1_seatFigures_9 : decode cX1_seatFigures 9 = .ok (.invokevirtual 50, 3) := by decide +kernel
theorem dX1_seatFigures_12 : decode cX1_seatFigures 12 = .ok (.if_icmp .ge 22, 3) := by decide +kernel
theorem dX1_seatFigures_15 : decode cX1_seatFigures 15 = .ok (.bipush 10, 2) := by decide +kernel
theorem dX1_seatFigures_17 : decode cX1_seatFigures 17 = .ok (.iload_n 1, 1) := by decide +kernel
theorem dX1_seatFigures_18 : decode cX1_seatFigures 18 = .ok (.imul, 1) := by decide +kernel
theorem dX1_seatFigures_19 : decode cX1_seatFigures 19 = .ok (.aload_n 0, 1) := by decide +kernel
theorem dX1_seatFigures_20 : decode cX1_seatFigures 20 = .ok (.iload_n 2, 1) := by decide +kernel
theorem dX1_seatFigures_21 : decode cX1_seatFigures 21 = .ok (.invokevirtual 97, 3) := by decide +kernel
theorem dX1_seatFigures_24 : decode cX1_seatFigures 24 = .ok (.iadd, 1) := by decide +kernel
theorem dX1_seatFigures_25 : decode cX1_seatFigures 25 = .ok (.iconst 1, 1) := by decide +kernel
theorem dX1_seatFigures_26 : decode cX1_seatFigures 26 = .ok (.iadd, 1) := by decide +kernel
theorem dX1_seatFigures_27 : decode cX1_seatFigures 27 = .ok (.istore_n 1, 1) := by decide +kernel
theorem dX1_seatFigures_28 : decode cX1_seatFigures 28 = .ok (.iinc 2 1, 3) := by decide +kernel
theorem dX1_seatFigures_31 : decode cX1_seatFigures 31 = .ok (.goto (-27), 3) := by decide +kernel
theorem dX1_seatFigures_34 : decode cX1_seatFigures 34 = .ok (.iload_n 1, 1) := by decide +kernel
theorem dX1_seatFigures_35 : decode cX1_seatFigures 35 = .ok (.ireturn, 1) := by decide +kernel
theorem dX2_init_0 : decode cX2_init 0 = .ok (.aload_n 0, 1) := by decide +kernel
theorem dX2_init_1 : decode cX2_init 1 = .ok (.invokespecial 1, 3) := by decide +kernel
theorem dX2_init_4 : decode cX2_init 4 = .ok (.aload_n 0, 1) := by decide +kernel
theorem dX2_init_5 : decode cX2_init 5 = .ok (.iload_n 1, 1) := by decide +kernel
theorem dX2_init_6 : decode cX2_init 6 = .ok (.iconst 0, 1) := by decide +kernel
theorem dX2_init_7 : decode cX2_init 7 = .ok (.invokestatic 7, 3) := by decide +kernel
theorem dX2_init_10 : decode cX2_init 10 = .ok (.newarray .int, 2) := by decide +kernel
theorem dX2_init_12 : decode cX2_init 12 = .ok (.putfield 13, 3) := by decide +kernel
theorem dX2_init_15 : decode cX2_init 15 = .ok (.return_, 1) := by decide +kernel
theorem dX2_at_0 : decode cX2_at 0 = .ok (.iload_n 1, 1) := by decide +kernel
theorem dX2_at_1 : decode cX2_at 1 = .ok (.ifCond .lt 21, 3) := by decide +kernel
theorem dX2_at_4 : decode cX2_at 4 = .ok (.iload_n 1, 1) := by decide +kernel
theorem dX2_at_5 : decode cX2_at 5 = .ok (.aload_n 0, 1) := by decide +kernel
theorem dX2_at_6 : decode cX2_at 6 = .ok (.getfield 13, 3) := by decide +kernel
theorem dX2_at_9 : decode cX2_at 9 = .ok (.arraylength, 1) := by decide +kernel
theorem dX2_at_10 : decode cX2_at 10 = .ok (.if_icmp .ge 12, 3) := by decide +kernel
theorem dX2_at_13 : decode cX2_at 13 = .ok (.aload_n 0, 1) := by decide +kernel
theorem dX2_at_14 : decode cX2_at 14 = .ok (.getfield 13, 3) := by decide +kernel
theorem dX2_at_17 : decode cX2_at 17 = .ok (.iload_n 1, 1) := by decide +kernel
theorem dX2_at_18 : decode cX2_at 18 = .ok (.iaload, 1) := by decide +kernel
theorem dX2_at_19 : decode cX2_at 19 = .ok (.goto 4, 3) := by decide +kernel
theorem dX2_at_22 : decode cX2_at 22 = .ok (.iconst 0, 1) := by decide +kernel
theorem dX2_at_23 : decode cX2_at 23 = .ok (.ireturn, 1) := by decide +kernel
theorem dX2_put_0 : decode cX2_put 0 = .ok (.iload_n 1, 1) := by decide +kernel
theorem dX2_put_1 : decode cX2_put 1 = .ok (.ifCond .lt 19, 3) := by decide +kernel
theorem dX2_put_4 : decode cX2_put 4 = .ok (.iload_n 1, 1) := by decide +kernel
theorem dX2_put_5 : decode cX2_put 5 = .ok (.aload_n 0, 1) := by decide +kernel
theorem dX2_put_6 : decode cX2_put 6 = .ok (.getfield 13, 3) := by decide +kernel
theorem dX2_put_9 : decode cX2_put 9 = .ok (.arraylength, 1) := by decide +kernel
theorem dX2_put_10 : decode cX2_put 10 = .ok (.if_icmp .ge 10, 3) := by decide +kernel
theorem dX2_put_13 : decode cX2_put 13 = .ok (.aload_n 0, 1) := by decide +kernel
theorem dX2_put_14 : decode cX2_put 14 = .ok (.getfield 13, 3) := by decide +kernel
theorem dX2_put_17 : decode cX2_put 17 = .ok (.iload_n 1, 1) := by decide +kernel
theorem dX2_put_18 : decode cX2_put 18 = .ok (.iload_n 2, 1) := by decide +kernel
theorem dX2_put_19 : decode cX2_put 19 = .ok (.iastore, 1) := by decide +kernel
theorem dX2_put_20 : decode cX2_put 20 = .ok (.return_, 1) := by decide +kernel
theorem dX2_fill_0 : decode cX2_fill 0 = .ok (.iconst 0, 1) := by decide +kernel
theorem dX2_fill_1 : decode cX2_fill 1 = .ok (.istore_n 2, 1) := by decide +kernel
theorem dX2_fill_2 : decode cX2_fill 2 = .ok (.iload_n 2, 1) := by decide +kernel
theorem dX2_fill_3 : decode cX2_fill 3 = .ok (.aload_n 0, 1) := by decide +kernel
theorem dX2_fill_4 : decode cX2_fill 4 = .ok (.getfield 13, 3) := by decide +kernel
theorem dX2_fill_7 : decode cX2_fill 7 = .ok (.arraylength, 1) := by decide +kernel
theorem dX2_fill_8 : decode cX2_fill 8 = .ok (.if_icmp .ge 16, 3) := by decide +kernel
theorem dX2_fill_11 : decode cX2_fill 11 = .ok (.aload_n 0, 1) := by decide +kernel
theorem dX2_fill_12 : decode cX2_fill 12 = .ok (.getfield 13, 3) := by decide +kernel
theorem dX2_fill_15 : decode cX2_fill 15 = .ok (.iload_n 2, 1) := by decide +kernel
theorem dX2_fill_16 : decode cX2_fill 16 = .ok (.iload_n 1, 1) := by decide +kernel
theorem dX2_fill_17 : decode cX2_fill 17 = .ok (.iastore, 1) := by decide +kernel
theorem dX2_fill_18 : decode cX2_fill 18 = .ok (.iinc 2 1, 3) := by decide +kernel
theorem dX2_fill_21 : decode cX2_fill 21 = .ok (.goto (-19), 3) := by decide +kernel
theorem dX2_fill_24 : decode cX2_fill 24 = .ok (.return_, 1) := by decide +kernel
theorem dX2_copy_0 : decode cX2_copy 0 = .ok (.iconst 0, 1) := by decide +kernel
theorem dX2_copy_1 : decode cX2_copy 1 = .ok (.istore 5, 2) := by decide +kernel
theorem dX2_copy_3 : decode cX2_copy 3 = .ok (.iload 5, 2) := by decide +kernel
theorem dX2_copy_5 : decode cX2_copy 5 = .ok (.iload 4, 2) := by decide +kernel
theorem dX2_copy_7 : decode cX2_copy 7 = .ok (.if_icmp .ge 25, 3) := by decide +kernel
theorem dX2_copy_10 : decode cX2_copy 10 = .ok (.aload_n 0, 1) := by decide +kernel
theorem dX2_copy_11 : decode cX2_copy 11 = .ok (.iload_n 1, 1) := by decide +kernel
theorem dX2_copy_12 : decode cX2_copy 12 = .ok (.iload 5, 2) := by decide +kernel
theorem dX2_copy_14 : decode cX2_copy 14 = .ok (.iadd, 1) := by decide +kernel
theorem dX2_copy_15 : decode cX2_copy 15 = .ok (.aload_n 2, 1) := by decide +kernel
theorem dX2_copy_16 : decode cX2_copy 16 = .ok (.iload_n 3, 1) := by decide +kernel
theorem dX2_copy_17 : decode cX2_copy 17 = .ok (.iload 5, 2) := by decide +kernel
theorem dX2_copy_19 : decode cX2_copy 19 = .ok (.iadd, 1) := by decide +kernel
theorem dX2_copy_20 : decode cX2_copy 20 = .ok (.invokevirtual 19, 3) := by decide +kernel
theorem dX2_copy_23 : decode cX2_copy 23 = .ok (.invokevirtual 23, 3) := by decide +kernel
theorem dX2_copy_26 : decode cX2_copy 26 = .ok (.iinc 5 1, 3) := by decide +kernel
theorem dX2_copy_29 : decode cX2_copy 29 = .ok (.goto (-26), 3) := by decide +kernel
theorem dX2_copy_32 : decode cX2_copy 32 = .ok (.return_, 1) := by decide +kernel
theorem dX3_init_0 : decode cX3_init 0 = .ok (.aload_n 0, 1) := by decide +kernel
theorem dX3_init_1 : decode cX3_init 1 = .ok (.invokespecial 3, 3) := by decide +kernel
theorem dX3_init_4 : decode cX3_init 4 = .ok (.return_, 1) := by decide +kernel
theorem dX3_count_0 : decode cX3_count 0 = .ok (.aload_n 0, 1) := by decide +kernel
theorem dX3_count_1 : decode cX3_count 1 = .ok (.getfield 9, 3) := by decide +kernel
theorem dX3_count_4 : decode cX3_count 4 = .ok (.ireturn, 1) := by decide +kernel
theorem dX3_add_0 : decode cX3_add 0 = .ok (.aload_n 0, 1) := by decide +kernel
theorem dX3_add_1 : decode cX3_add 1 = .ok (.getfield 9, 3) := by decide +kernel
theorem dX3_add_4 : decode cX3_add 4 = .ok (.bipush 6, 2) := by decide +kernel
theorem dX3_add_6 : decode cX3_add 6 = .ok (.if_icmp .lt 6, 3) := by decide +kernel
theorem dX3_add_9 : decode cX3_add 9 = .ok (.bipush (-4), 2) := by decide +kernel
theorem dX3_add_11 : decode cX3_add 11 = .ok (.ireturn, 1) := by decide +kernel
theorem dX3_add_12 : decode cX3_add 12 = .ok (.iload_n 2, 1) := by decide +kernel
theorem dX3_add_13 : decode cX3_add 13 = .ok (.ifCond .eq 18, 3) := by decide +kernel
theorem dX3_add_16 : decode cX3_add 16 = .ok (.aload_n 0, 1) := by decide +kernel
theorem dX3_add_17 : decode cX3_add 17 = .ok (.dup, 1) := by decide +kernel
theorem dX3_add_18 : decode cX3_add 18 = .ok (.getfield 15, 3) := by decide +kernel
theorem dX3_add_21 : decode cX3_add 21 = .ok (.iconst 1, 1) := by decide +kernel
theorem dX3_add_22 : decode cX3_add 22 = .ok (.iload_n 1, 1) := by decide +kernel
theorem dX3_add_23 : decode cX3_add 23 = .ok (.ishl, 1) := by decide +kernel
theorem dX3_add_24 : decode cX3_add 24 = .ok (.ior, 1) := by decide +kernel
theorem dX3_add_25 : decode cX3_add 25 = .ok (.putfield 15, 3) := by decide +kernel
theorem dX3_add_28 : decode cX3_add 28 = .ok (.goto 15, 3) := by decide +kernel
theorem dX3_add_31 : decode cX3_add 31 = .ok (.aload_n 0, 1) := by decide +kernel
theorem dX3_add_32 : decode cX3_add 32 = .ok (.dup, 1) := by decide +kernel
theorem dX3_add_33 : decode cX3_add 33 = .ok (.getfield 18, 3) := by decide +kernel
theorem dX3_add_36 : decode cX3_add 36 = .ok (.iconst 1, 1) := by decide +kernel
theorem dX3_add_37 : decode cX3_add 37 = .ok (.iload_n 1, 1) := by decide +kernel
theorem dX3_add_38 : decode cX3_add 38 = .ok (.ishl, 1) := by decide +kernel
theorem dX3_add_39 : decode cX3_add 39 = .ok (.ior, 1) := by decide +kernel
theorem dX3_add_40 : decode cX3_add 40 = .ok (.putfield 18, 3) := by decide +kernel
theorem dX3_add_43 : decode cX3_add 43 = .ok (.aload_n 0, 1) := by decide +kernel
theorem dX3_add_44 : decode cX3_add 44 = .ok (.dup, 1) := by decide +kernel
theorem dX3_add_45 : decode cX3_add 45 = .ok (.getfield 9, 3) := by decide +kernel
theorem dX3_add_48 : decode cX3_add 48 = .ok (.iconst 1, 1) := by decide +kernel
theorem dX3_add_49 : decode cX3_add 49 = .ok (.iadd, 1) := by decide +kernel
theorem dX3_add_50 : decode cX3_add 50 = .ok (.putfield 9, 3) := by decide +kernel
theorem dX3_add_53 : decode cX3_add 53 = .ok (.aload_n 0, 1) := by decide +kernel
theorem dX3_add_54 : decode cX3_add 54 = .ok (.getfield 9, 3) := by decide +kernel
theorem dX3_add_57 : decode cX3_add 57 = .ok (.ireturn, 1) := by decide +kernel
theorem dX3_clear_0 : decode cX3_clear 0 = .ok (.aload_n 0, 1) := by decide +kernel
theorem dX3_clear_1 : decode cX3_clear 1 = .ok (.getfield 9, 3) := by decide +kernel
theorem dX3_clear_4 : decode cX3_clear 4 = .ok (.istore_n 1, 1) := by decide +kernel
theorem dX3_clear_5 : decode cX3_clear 5 = .ok (.aload_n 0, 1) := by decide +kernel
theorem dX3_clear_6 : decode cX3_clear 6 = .ok (.iconst 0, 1) := by decide +kernel
theorem dX3_clear_7 : decode cX3_clear 7 = .ok (.putfield 9, 3) := by decide +kernel
theorem dX3_clear_10 : decode cX3_clear 10 = .ok (.aload_n 0, 1) := by decide +kernel
theorem dX3_clear_11 : decode cX3_clear 11 = .ok (.iconst 0, 1) := by decide +kernel
theorem dX3_clear_12 : decode cX3_clear 12 = .ok (.putfield 15, 3) := by decide +kernel
theorem dX3_clear_15 : decode cX3_clear 15 = .ok (.aload_n 0, 1) := by decide +kernel
theorem dX3_clear_16 : decode cX3_clear 16 = .ok (.iconst 0, 1) := by decide +kernel
theorem dX3_clear_17 : decode cX3_clear 17 = .ok (.putfield 18, 3) := by decide +kernel
theorem dX3_clear_20 : decode cX3_clear 20 = .ok (.iload_n 1, 1) := by decide +kernel
theorem dX3_clear_21 : decode cX3_clear 21 = .ok (.ireturn, 1) := by decide +kernel
theorem dX3_allows_0 : decode cX3_allows 0 = .ok (.iload_n 1, 1) := by decide +kernel
theorem dX3_allows_1 : decode cX3_allows 1 = .ok (.aload_n 0, 1) := by decide +kernel
theorem dX3_allows_2 : decode cX3_allows 2 = .ok (.getfield 15, 3) := by decide +kernel
theorem dX3_allows_5 : decode cX3_allows 5 = .ok (.iand, 1) := by decide +kernel
theorem dX3_allows_6 : decode cX3_allows 6 = .ok (.aload_n 0, 1) := by decide +kernel
theorem dX3_allows_7 : decode cX3_allows 7 = .ok (.getfield 15, 3) := by decide +kernel
theorem dX3_allows_10 : decode cX3_allows 10 = .ok (.if_icmp .ne 16, 3) := by decide +kernel
theorem dX3_allows_13 : decode cX3_allows 13 = .ok (.iload_n 1, 1) := by decide +kernel
theorem dX3_allows_14 : decode cX3_allows 14 = .ok (.aload_n 0, 1) := by decide +kernel
theorem dX3_allows_15 : decode cX3_allows 15 = .ok (.getfield 18, 3) := by decide +kernel
theorem dX3_allows_18 : decode cX3_allows 18 = .ok (.iand, 1) := by decide +kernel
theorem dX3_allows_19 : decode cX3_allows 19 = .ok (.ifCond .ne 7, 3) := by decide +kernel
theorem dX3_allows_22 : decode cX3_allows 22 = .ok (.iconst 1, 1) := by decide +kernel
theorem dX3_allows_23 : decode cX3_allows 23 = .ok (.goto 4, 3) := by decide +kernel
theorem dX3_allows_26 : decode cX3_allows 26 = .ok (.iconst 0, 1) := by decide +kernel
theorem dX3_allows_27 : decode cX3_allows 27 = .ok (.ireturn, 1) := by decide +kernel
theorem dX4_init_0 : decode cX4_init 0 = .ok (.aload_n 0, 1) := by decide +kernel
theorem dX4_init_1 : decode cX4_init 1 = .ok (.invokespecial 1, 3) := by decide +kernel
theorem dX4_init_4 : decode cX4_init 4 = .ok (.aload_n 0, 1) := by decide +kernel
theorem dX4_init_5 : decode cX4_init 5 = .ok (.new 7, 3) := by decide +kernel
theorem dX4_init_8 : decode cX4_init 8 = .ok (.dup, 1) := by decide +kernel
theorem dX4_init_9 : decode cX4_init 9 = .ok (.iload_n 1, 1) := by decide +kernel
theorem dX4_init_10 : decode cX4_init 10 = .ok (.bipush 15, 2) := by decide +kernel
theorem dX4_init_12 : decode cX4_init 12 = .ok (.imul, 1) := by decide +kernel
theorem dX4_init_13 : decode cX4_init 13 = .ok (.invokespecial 11, 3) := by decide +kernel
theorem dX4_init_16 : decode cX4_init 16 = .ok (.putfield 14, 3) := by decide +kernel
theorem dX4_init_19 : decode cX4_init 19 = .ok (.return_, 1) := by decide +kernel
theorem dX4_store_0 : decode cX4_store 0 = .ok (.aload_n 0, 1) := by decide +kernel
theorem dX4_store_1 : decode cX4_store 1 = .ok (.getfield 14, 3) := by decide +kernel
theorem dX4_store_4 : decode cX4_store 4 = .ok (.iload_n 1, 1) := by decide +kernel
theorem dX4_store_5 : decode cX4_store 5 = .ok (.bipush 15, 2) := by decide +kernel
theorem dX4_store_7 : decode cX4_store 7 = .ok (.imul, 1) := by decide +kernel
theorem dX4_store_8 : decode cX4_store 8 = .ok (.aload_n 2, 1) := by decide +kernel
theorem dX4_store_9 : decode cX4_store 9 = .ok (.getfield 20, 3) := by decide +kernel
theorem dX4_store_12 : decode cX4_store 12 = .ok (.iconst 0, 1) := by decide +kernel
theorem dX4_store_13 : decode cX4_store 13 = .ok (.bipush 15, 2) := by decide +kernel
theorem dX4_store_15 : decode cX4_store 15 = .ok (.invokevirtual 21, 3) := by decide +kernel
theorem dX4_store_18 : decode cX4_store 18 = .ok (.return_, 1) := by decide +kernel
theorem dX4_fetch_0 : decode cX4_fetch 0 = .ok (.aload_n 2, 1) := by decide +kernel
theorem dX4_fetch_1 : decode cX4_fetch 1 = .ok (.getfield 20, 3) := by decide +kernel
theorem dX4_fetch_4 : decode cX4_fetch 4 = .ok (.iconst 0, 1) := by decide +kernel
theorem dX4_fetch_5 : decode cX4_fetch 5 = .ok (.aload_n 0, 1) := by decide +kernel
theorem dX4_fetch_6 : decode cX4_fetch 6 = .ok (.getfield 14, 3) := by decide +kernel
theorem dX4_fetch_9 : decode cX4_fetch 9 = .ok (.iload_n 1, 1) := by decide +kernel
theorem dX4_fetch_10 : decode cX4_fetch 10 = .ok (.bipush 15, 2) := by decide +kernel
theorem dX4_fetch_12 : decode cX4_fetch 12 = .ok (.imul, 1) := by decide +kernel
theorem dX4_fetch_13 : decode cX4_fetch 13 = .ok (.bipush 15, 2) := by decide +kernel
theorem dX4_fetch_15 : decode cX4_fetch 15 = .ok (.invokevirtual 21, 3) := by decide +kernel
theorem dX4_fetch_18 : decode cX4_fetch 18 = .ok (.return_, 1) := by decide +kernel
theorem dX5_init_0 : decode cX5_init 0 = .ok (.aload_n 0, 1) := by decide +kernel
theorem dX5_init_1 : decode cX5_init 1 = .ok (.invokespecial 3, 3) := by decide +kernel
theorem dX5_init_4 : decode cX5_init 4 = .ok (.aload_n 0, 1) := by decide +kernel
theorem dX5_init_5 : decode cX5_init 5 = .ok (.new 9, 3) := by decide +kernel
theorem dX5_init_8 : decode cX5_init 8 = .ok (.dup, 1) := by decide +kernel
theorem dX5_init_9 : decode cX5_init 9 = .ok (.iconst 5, 1) := by decide +kernel
theorem dX5_init_10 : decode cX5_init 10 = .ok (.invokespecial 11, 3) := by decide +kernel
theorem dX5_init_13 : decode cX5_init 13 = .ok (.putfield 14, 3) := by decide +kernel
theorem dX5_init_16 : decode cX5_init 16 = .ok (.aload_n 0, 1) := by decide +kernel
theorem dX5_init_17 : decode cX5_init 17 = .ok (.new 9, 3) := by decide +kernel
theorem dX5_init_20 : decode cX5_init 20 = .ok (.dup, 1) := by decide +kernel
theorem dX5_init_21 : decode cX5_init 21 = .ok (.iconst 4, 1) := by decide +kernel
theorem dX5_init_22 : decode cX5_init 22 = .ok (.invokespecial 11, 3) := by decide +kernel
theorem dX5_init_25 : decode cX5_init 25 = .ok (.putfield 20, 3) := by decide +kernel
theorem dX5_init_28 : decode cX5_init 28 = .ok (.aload_n 0, 1) := by decide +kernel
theorem dX5_init_29 : decode cX5_init 29 = .ok (.new 9, 3) := by decide +kernel
theorem dX5_init_32 : decode cX5_init 32 = .ok (.dup, 1) := by decide +kernel
theorem dX5_init_33 : decode cX5_init 33 = .ok (.iconst 4, 1) := by decide +kernel
theorem dX5_init_34 : decode cX5_init 34 = .ok (.invokespecial 11, 3) := by decide +kernel
theorem dX5_init_37 : decode cX5_init 37 = .ok (.putfield 23, 3) := by decide +kernel
theorem dX5_init_40 : decode cX5_init 40 = .ok (.return_, 1) := by decide +kernel
theorem dX5_people_0 : decode cX5_people 0 = .ok (.aload_n 0, 1) := by decide +kernel
theorem dX5_people_1 : decode cX5_people 1 = .ok (.getfield 26, 3) := by decide +kernel
theorem dX5_people_4 : decode cX5_people 4 = .ok (.ireturn, 1) := by decide +kernel
theorem dX5_rules_0 : decode cX5_rules 0 = .ok (.aload_n 0, 1) := by decide +kernel
theorem dX5_rules_1 : decode cX5_rules 1 = .ok (.getfield 30, 3) := by decide +kernel
theorem dX5_rules_4 : decode cX5_rules 4 = .ok (.ireturn, 1) := by decide +kernel
theorem dX5_kind_0 : decode cX5_kind 0 = .ok (.aload_n 0, 1) := by decide +kernel
theorem dX5_kind_1 : decode cX5_kind 1 = .ok (.getfield 14, 3) := by decide +kernel
theorem dX5_kind_4 : decode cX5_kind 4 = .ok (.iload_n 1, 1) := by decide +kernel
theorem dX5_kind_5 : decode cX5_kind 5 = .ok (.invokevirtual 33, 3) := by decide +kernel
theorem dX5_kind_8 : decode cX5_kind 8 = .ok (.ireturn, 1) := by decide +kernel
theorem dX5_clear_0 : decode cX5_clear 0 = .ok (.aload_n 0, 1) := by decide +kernel
theorem dX5_clear_1 : decode cX5_clear 1 = .ok (.iconst 0, 1) := by decide +kernel
theorem dX5_clear_2 : decode cX5_clear 2 = .ok (.putfield 26, 3) := by decide +kernel
theorem dX5_clear_5 : decode cX5_clear 5 = .ok (.aload_n 0, 1) := by decide +kernel
theorem dX5_clear_6 : decode cX5_clear 6 = .ok (.iconst 0, 1) := by decide +kernel
theorem dX5_clear_7 : decode cX5_clear 7 = .ok (.putfield 30, 3) := by decide +kernel
theorem dX5_clear_10 : decode cX5_clear 10 = .ok (.return_, 1) := by decide +kernel
theorem dX5_addPerson_0 : decode cX5_addPerson 0 = .ok (.aload_n 0, 1) := by decide +kernel
theorem dX5_addPerson_1 : decode cX5_addPerson 1 = .ok (.getfield 26, 3) := by decide +kernel
theorem dX5_addPerson_4 : decode cX5_addPerson 4 = .ok (.istore_n 2, 1) := by decide +kernel
theorem dX5_addPerson_5 : decode cX5_addPerson 5 = .ok (.aload_n 0, 1) := by decide +kernel
theorem dX5_addPerson_6 : decode cX5_addPerson 6 = .ok (.getfield 26, 3) := by decide +kernel
theorem dX5_addPerson_9 : decode cX5_addPerson 9 = .ok (.iconst 5, 1) := by decide +kernel
theorem dX5_addPerson_10 : decode cX5_addPerson 10 = .ok (.if_icmp .ge 22, 3) := by decide +kernel
theorem dX5_addPerson_13 : decode cX5_addPerson 13 = .ok (.aload_n 0, 1) := by decide +kernel
theorem dX5_addPerson_14 : decode cX5_addPerson 14 = .ok (.getfield 14, 3) := by decide +kernel
theorem dX5_addPerson_17 : decode cX5_addPerson 17 = .ok (.iload_n 2, 1) := by decide +kernel
theorem dX5_addPerson_18 : decode cX5_addPerson 18 = .ok (.iload_n 1, 1) := by decide +kernel
theorem dX5_addPerson_19 : decode cX5_addPerson 19 = .ok (.invokevirtual 37, 3) := by decide +kernel
theorem dX5_addPerson_22 : decode cX5_addPerson 22 = .ok (.aload_n 0, 1) := by decide +kernel
theorem dX5_addPerson_23 : decode cX5_addPerson 23 = .ok (.dup, 1) := by decide +kernel
theorem dX5_addPerson_24 : decode cX5_addPerson 24 = .ok (.getfield 26, 3) := by decide +kernel
theorem dX5_addPerson_27 : decode cX5_addPerson 27 = .ok (.iconst 1, 1) := by decide +kernel
theorem dX5_addPerson_28 : decode cX5_addPerson 28 = .ok (.iadd, 1) := by decide +kernel
theorem dX5_addPerson_29 : decode cX5_addPerson 29 = .ok (.putfield 26, 3) := by decide +kernel
theorem dX5_addPerson_32 : decode cX5_addPerson 32 = .ok (.iload_n 2, 1) := by decide +kernel
theorem dX5_addPerson_33 : decode cX5_addPerson 33 = .ok (.ireturn, 1) := by decide +kernel
theorem dX5_addRule_0 : decode cX5_addRule 0 = .ok (.aload_n 0, 1) := by decide +kernel
theorem dX5_addRule_1 : decode cX5_addRule 1 = .ok (.getfield 30, 3) := by decide +kernel
theorem dX5_addRule_4 : decode cX5_addRule 4 = .ok (.iconst 4, 1) := by decide +kernel
theorem dX5_addRule_5 : decode cX5_addRule 5 = .ok (.if_icmp .ge 45, 3) := by decide +kernel
theorem dX5_addRule_8 : decode cX5_addRule 8 = .ok (.aload_n 0, 1) := by decide +kernel
theorem dX5_addRule_9 : decode cX5_addRule 9 = .ok (.getfield 20, 3) := by decide +kernel
theorem dX5_addRule_12 : decode cX5_addRule 12 = .ok (.aload_n 0, 1) := by decide +kernel
theorem dX5_addRule_13 : decode cX5_addRule 13 = .ok (.getfield 30, 3) := by decide +kernel
theorem dX5_addRule_16 : decode cX5_addRule 16 = .ok (.iconst 1, 1) := by decide +kernel
theorem dX5_addRule_17 : decode cX5_addRule 17 = .ok (.iload_n 1, 1) := by decide +kernel
theorem dX5_addRule_18 : decode cX5_addRule 18 = .ok (.ishl, 1) := by decide +kernel
theorem dX5_addRule_19 : decode cX5_addRule 19 = .ok (.iconst 1, 1) := by decide +kernel
theorem dX5_addRule_20 : decode cX5_addRule 20 = .ok (.iload_n 2, 1) := by decide +kernel
theorem dX5_addRule_21 : decode cX5_addRule 21 = .ok (.ishl, 1) := by decide +kernel
theorem dX5_addRule_22 : decode cX5_addRule 22 = .ok (.ior, 1) := by decide +kernel
theorem dX5_addRule_23 : decode cX5_addRule 23 = .ok (.invokevirtual 37, 3) := by decide +kernel
theorem dX5_addRule_26 : decode cX5_addRule 26 = .ok (.aload_n 0, 1) := by decide +kernel
theorem dX5_addRule_27 : decode cX5_addRule 27 = .ok (.getfield 23, 3) := by decide +kernel
theorem dX5_addRule_30 : decode cX5_addRule 30 = .ok (.aload_n 0, 1) := by decide +kernel
theorem dX5_addRule_31 : decode cX5_addRule 31 = .ok (.getfield 30, 3) := by decide +kernel
theorem dX5_addRule_34 : decode cX5_addRule 34 = .ok (.iconst 1, 1) := by decide +kernel
theorem dX5_addRule_35 : decode cX5_addRule 35 = .ok (.iload_n 3, 1) := by decide +kernel
theorem dX5_addRule_36 : decode cX5_addRule 36 = .ok (.ishl, 1) := by decide +kernel
theorem dX5_addRule_37 : decode cX5_addRule 37 = .ok (.invokevirtual 37, 3) := by decide +kernel
theorem dX5_addRule_40 : decode cX5_addRule 40 = .ok (.aload_n 0, 1) := by decide +kernel
theorem dX5_addRule_41 : decode cX5_addRule 41 = .ok (.dup, 1) := by decide +kernel
theorem dX5_addRule_42 : decode cX5_addRule 42 = .ok (.getfield 30, 3) := by decide +kernel
theorem dX5_addRule_45 : decode cX5_addRule 45 = .ok (.iconst 1, 1) := by decide +kernel
theorem dX5_addRule_46 : decode cX5_addRule 46 = .ok (.iadd, 1) := by decide +kernel
theorem dX5_addRule_47 : decode cX5_addRule 47 = .ok (.putfield 30, 3) := by decide +kernel
theorem dX5_addRule_50 : decode cX5_addRule 50 = .ok (.return_, 1) := by decide +kernel
theorem dX5_closure_0 : decode cX5_closure 0 = .ok (.iload_n 1, 1) := by decide +kernel
theorem dX5_closure_1 : decode cX5_closure 1 = .ok (.istore_n 2, 1) := by decide +kernel
theorem dX5_closure_2 : decode cX5_closure 2 = .ok (.iconst 0, 1) := by decide +kernel
theorem dX5_closure_3 : decode cX5_closure 3 = .ok (.istore_n 3, 1) := by decide +kernel
theorem dX5_closure_4 : decode cX5_closure 4 = .ok (.iload_n 3, 1) := by decide +kernel
theorem dX5_closure_5 : decode cX5_closure 5 = .ok (.aload_n 0, 1) := by decide +kernel
theorem dX5_closure_6 : decode cX5_closure 6 = .ok (.getfield 30, 3) := by decide +kernel
theorem dX5_closure_9 : decode cX5_closure 9 = .ok (.if_icmp .ge 59, 3) := by decide +kernel
theorem dX5_closure_12 : decode cX5_closure 12 = .ok (.iconst 0, 1) := by decide +kernel
theorem dX5_closure_13 : decode cX5_closure 13 = .ok (.istore 4, 2) := by decide +kernel
theorem dX5_closure_15 : decode cX5_closure 15 = .ok (.iload 4, 2) := by decide +kernel
theorem dX5_closure_17 : decode cX5_closure 17 = .ok (.aload_n 0, 1) := by decide +kernel
theorem dX5_closure_18 : decode cX5_closure 18 = .ok (.getfield 30, 3) := by decide +kernel
theorem dX5_closure_21 : decode cX5_closure 21 = .ok (.if_icmp .ge 41, 3) := by decide +kernel
theorem dX5_closure_24 : decode cX5_closure 24 = .ok (.aload_n 0, 1) := by decide +kernel
theorem dX5_closure_25 : decode cX5_closure 25 = .ok (.getfield 20, 3) := by decide +kernel
theorem dX5_closure_28 : decode cX5_closure 28 = .ok (.iload 4, 2) := by decide +kernel
theorem dX5_closure_30 : decode cX5_closure 30 = .ok (.invokevirtual 33, 3) := by decide +kernel
theorem dX5_closure_33 : decode cX5_closure 33 = .ok (.istore 5, 2) := by decide +kernel
theorem dX5_closure_35 : decode cX5_closure 35 = .ok (.iload_n 2, 1) := by decide +kernel
theorem dX5_closure_36 : decode cX5_closure 36 = .ok (.iload 5, 2) := by decide +kernel
theorem dX5_closure_38 : decode cX5_closure 38 = .ok (.iand, 1) := by decide +kernel
theorem dX5_closure_39 : decode cX5_closure 39 = .ok (.iload 5, 2) := by decide +kernel
theorem dX5_closure_41 : decode cX5_closure 41 = .ok (.if_icmp .ne 15, 3) := by decide +kernel
theorem dX5_closure_44 : decode cX5_closure 44 = .ok (.iload_n 2, 1) := by decide +kernel
theorem dX5_closure_45 : decode cX5_closure 45 = .ok (.aload_n 0, 1) := by decide +kernel
theorem dX5_closure_46 : decode cX5_closure 46 = .ok (.getfield 23, 3) := by decide +kernel
theorem dX5_closure_49 : decode cX5_closure 49 = .ok (.iload 4, 2) := by decide +kernel
theorem dX5_closure_51 : decode cX5_closure 51 = .ok (.invokevirtual 33, 3) := by decide +kernel
theorem dX5_closure_54 : decode cX5_closure 54 = .ok (.ior, 1) := by decide +kernel
theorem dX5_closure_55 : decode cX5_closure 55 = .ok (.istore_n 2, 1) := by decide +kernel
theorem dX5_closure_56 : decode cX5_closure 56 = .ok (.iinc 4 1, 3) := by decide +kernel
theorem dX5_closure_59 : decode cX5_closure 59 = .ok (.goto (-44), 3) := by decide +kernel
theorem dX5_closure_62 : decode cX5_closure 62 = .ok (.iinc 3 1, 3) := by decide +kernel
theorem dX5_closure_65 : decode cX5_closure 65 = .ok (.goto (-61), 3) := by decide +kernel
theorem dX5_closure_68 : decode cX5_closure 68 = .ok (.iload_n 2, 1) := by decide +kernel
theorem dX5_closure_69 : decode cX5_closure 69 = .ok (.ireturn, 1) := by decide +kernel
theorem dX6_init_0 : decode cX6_init 0 = .ok (.aload_n 0, 1) := by decide +kernel
theorem dX6_init_1 : decode cX6_init 1 = .ok (.invokespecial 3, 3) := by decide +kernel
theorem dX6_init_4 : decode cX6_init 4 = .ok (.aload_n 0, 1) := by decide +kernel
theorem dX6_init_5 : decode cX6_init 5 = .ok (.new 9, 3) := by decide +kernel
theorem dX6_init_8 : decode cX6_init 8 = .ok (.dup, 1) := by decide +kernel
theorem dX6_init_9 : decode cX6_init 9 = .ok (.bipush 40, 2) := by decide +kernel
theorem dX6_init_11 : decode cX6_init 11 = .ok (.invokespecial 11, 3) := by decide +kernel
theorem dX6_init_14 : decode cX6_init 14 = .ok (.putfield 14, 3) := by decide +kernel
theorem dX6_init_17 : decode cX6_init 17 = .ok (.return_, 1) := by decide +kernel
theorem dX6_length_0 : decode cX6_length 0 = .ok (.aload_n 0, 1) := by decide +kernel
theorem dX6_length_1 : decode cX6_length 1 = .ok (.getfield 20, 3) := by decide +kernel
theorem dX6_length_4 : decode cX6_length 4 = .ok (.ireturn, 1) := by decide +kernel
theorem dX6_at_0 : decode cX6_at 0 = .ok (.aload_n 0, 1) := by decide +kernel
theorem dX6_at_1 : decode cX6_at 1 = .ok (.getfield 14, 3) := by decide +kernel
theorem dX6_at_4 : decode cX6_at 4 = .ok (.iload_n 1, 1) := by decide +kernel
theorem dX6_at_5 : decode cX6_at 5 = .ok (.invokevirtual 24, 3) := by decide +kernel
theorem dX6_at_8 : decode cX6_at 8 = .ok (.ireturn, 1) := by decide +kernel
theorem dX6_digit_0 : decode cX6_digit 0 = .ok (.aload_n 0, 1) := by decide +kernel
theorem dX6_digit_1 : decode cX6_digit 1 = .ok (.getfield 14, 3) := by decide +kernel
theorem dX6_digit_4 : decode cX6_digit 4 = .ok (.iload_n 1, 1) := by decide +kernel
theorem dX6_digit_5 : decode cX6_digit 5 = .ok (.invokevirtual 24, 3) := by decide +kernel
theorem dX6_digit_8 : decode cX6_digit 8 = .ok (.bipush 48, 2) := by decide +kernel
theorem dX6_digit_10 : decode cX6_digit 10 = .ok (.isub, 1) := by decide +kernel
theorem dX6_digit_11 : decode cX6_digit 11 = .ok (.ireturn, 1) := by decide +kernel
theorem dX6_letter_0 : decode cX6_letter 0 = .ok (.aload_n 0, 1) := by decide +kernel
theorem dX6_letter_1 : decode cX6_letter 1 = .ok (.getfield 14, 3) := by decide +kernel
theorem dX6_letter_4 : decode cX6_letter 4 = .ok (.iload_n 1, 1) := by decide +kernel
theorem dX6_letter_5 : decode cX6_letter 5 = .ok (.invokevirtual 24, 3) := by decide +kernel
theorem dX6_letter_8 : decode cX6_letter 8 = .ok (.bipush 97, 2) := by decide +kernel
theorem dX6_letter_10 : decode cX6_letter 10 = .ok (.isub, 1) := by decide +kernel
theorem dX6_letter_11 : decode cX6_letter 11 = .ok (.ireturn, 1) := by decide +kernel
theorem dX6_append_0 : decode cX6_append 0 = .ok (.aload_n 0, 1) := by decide +kernel
theorem dX6_append_1 : decode cX6_append 1 = .ok (.getfield 20, 3) := by decide +kernel
theorem dX6_append_4 : decode cX6_append 4 = .ok (.bipush 40, 2) := by decide +kernel
theorem dX6_append_6 : decode cX6_append 6 = .ok (.if_icmp .lt 6, 3) := by decide +kernel
theorem dX6_append_9 : decode cX6_append 9 = .ok (.bipush (-4), 2) := by decide +kernel
theorem dX6_append_11 : decode cX6_append 11 = .ok (.ireturn, 1) := by decide +kernel
theorem dX6_append_12 : decode cX6_append 12 = .ok (.aload_n 0, 1) := by decide +kernel
theorem dX6_append_13 : decode cX6_append 13 = .ok (.getfield 14, 3) := by decide +kernel
theorem dX6_append_16 : decode cX6_append 16 = .ok (.aload_n 0, 1) := by decide +kernel
theorem dX6_append_17 : decode cX6_append 17 = .ok (.getfield 20, 3) := by decide +kernel
theorem dX6_append_20 : decode cX6_append 20 = .ok (.iload_n 1, 1) := by decide +kernel
theorem dX6_append_21 : decode cX6_append 21 = .ok (.invokevirtual 28, 3) := by decide +kernel
theorem dX6_append_24 : decode cX6_append 24 = .ok (.aload_n 0, 1) := by decide +kernel
theorem dX6_append_25 : decode cX6_append 25 = .ok (.dup, 1) := by decide +kernel
theorem dX6_append_26 : decode cX6_append 26 = .ok (.getfield 20, 3) := by decide +kernel
theorem dX6_append_29 : decode cX6_append 29 = .ok (.iconst 1, 1) := by decide +kernel
theorem dX6_append_30 : decode cX6_append 30 = .ok (.iadd, 1) := by decide +kernel
theorem dX6_append_31 : decode cX6_append 31 = .ok (.putfield 20, 3) := by decide +kernel
theorem dX6_append_34 : decode cX6_append 34 = .ok (.aload_n 0, 1) := by decide +kernel
theorem dX6_append_35 : decode cX6_append 35 = .ok (.getfield 20, 3) := by decide +kernel
theorem dX6_append_38 : decode cX6_append 38 = .ok (.ireturn, 1) := by decide +kernel
theorem dX6_clear_0 : decode cX6_clear 0 = .ok (.aload_n 0, 1) := by decide +kernel
theorem dX6_clear_1 : decode cX6_clear 1 = .ok (.getfield 20, 3) := by decide +kernel
theorem dX6_clear_4 : decode cX6_clear 4 = .ok (.istore_n 1, 1) := by decide +kernel
theorem dX6_clear_5 : decode cX6_clear 5 = .ok (.aload_n 0, 1) := by decide +kernel
theorem dX6_clear_6 : decode cX6_clear 6 = .ok (.iconst 0, 1) := by decide +kernel
theorem dX6_clear_7 : decode cX6_clear 7 = .ok (.putfield 20, 3) := by decide +kernel
theorem dX6_clear_10 : decode cX6_clear 10 = .ok (.iload_n 1, 1) := by decide +kernel
theorem dX6_clear_11 : decode cX6_clear 11 = .ok (.ireturn, 1) := by decide +kernel
theorem dX6_firstFault_0 : decode cX6_firstFault 0 = .ok (.iconst 0, 1) := by decide +kernel
theorem dX6_firstFault_1 : decode cX6_firstFault 1 = .ok (.istore_n 1, 1) := by decide +kernel
theorem dX6_firstFault_2 : decode cX6_firstFault 2 = .ok (.iload_n 1, 1) := by decide +kernel
theorem dX6_firstFault_3 : decode cX6_firstFault 3 = .ok (.aload_n 0, 1) := by decide +kernel
theorem dX6_firstFault_4 : decode cX6_firstFault 4 = .ok (.getfield 20, 3) := by decide +kernel
theorem dX6_firstFault_7 : decode cX6_firstFault 7 = .ok (.if_icmp .ge 19, 3) := by decide +kernel
theorem dX6_firstFault_10 : decode cX6_firstFault 10 = .ok (.aload_n 0, 1) := by decide +kernel
theorem dX6_firstFault_11 : decode cX6_firstFault 11 = .ok (.iload_n 1, 1) := by decide +kernel
theorem dX6_firstFault_12 : decode cX6_firstFault 12 = .ok (.invokevirtual 32, 3) := by decide +kernel
theorem dX6_firstFault_15 : decode cX6_firstFault 15 = .ok (.ifCond .ne 5, 3) := by decide +kernel
theorem dX6_firstFault_18 : decode cX6_firstFault 18 = .ok (.iload_n 1, 1) := by decide +kernel
theorem dX6_firstFault_19 : decode cX6_firstFault 19 = .ok (.ireturn, 1) := by decide +kernel
theorem dX6_firstFault_20 : decode cX6_firstFault 20 = .ok (.iinc 1 1, 3) := by decide +kernel
theorem dX6_firstFault_23 : decode cX6_firstFault 23 = .ok (.goto (-21), 3) := by decide +kernel
theorem dX6_firstFault_26 : decode cX6_firstFault 26 = .ok (.aload_n 0, 1) := by decide +kernel
theorem dX6_firstFault_27 : decode cX6_firstFault 27 = .ok (.getfield 20, 3) := by decide +kernel
theorem dX6_firstFault_30 : decode cX6_firstFault 30 = .ok (.ifCond .le 18, 3) := by decide +kernel
theorem dX6_firstFault_33 : decode cX6_firstFault 33 = .ok (.aload_n 0, 1) := by decide +kernel
theorem dX6_firstFault_34 : decode cX6_firstFault 34 = .ok (.getfield 20, 3) := by decide +kernel
theorem dX6_firstFault_37 : decode cX6_firstFault 37 = .ok (.iconst 1, 1) := by decide +kernel
theorem dX6_firstFault_38 : decode cX6_firstFault 38 = .ok (.isub, 1) := by decide +kernel
theorem dX6_firstFault_39 : decode cX6_firstFault 39 = .ok (.iconst 4, 1) := by decide +kernel
theorem dX6_firstFault_40 : decode cX6_firstFault 40 = .ok (.irem, 1) := by decide +kernel
theorem dX6_firstFault_41 : decode cX6_firstFault 41 = .ok (.ifCond .ne 7, 3) := by decide +kernel
theorem dX6_firstFault_44 : decode cX6_firstFault 44 = .ok (.iconst 1, 1) := by decide +kernel
theorem dX6_firstFault_45 : decode cX6_firstFault 45 = .ok (.goto 4, 3) := by decide +kernel
theorem dX6_firstFault_48 : decode cX6_firstFault 48 = .ok (.iconst 0, 1) := by decide +kernel
theorem dX6_firstFault_49 : decode cX6_firstFault 49 = .ok (.istore_n 1, 1) := by decide +kernel
theorem dX6_firstFault_50 : decode cX6_firstFault 50 = .ok (.iload_n 1, 1) := by decide +kernel
theorem dX6_firstFault_51 : decode cX6_firstFault 51 = .ok (.ifCond .eq 8, 3) := by decide +kernel
theorem dX6_firstFault_54 : decode cX6_firstFault 54 = .ok (.bipush (-9), 2) := by decide +kernel
theorem dX6_firstFault_56 : decode cX6_firstFault 56 = .ok (.goto 7, 3) := by decide +kernel
theorem dX6_firstFault_59 : decode cX6_firstFault 59 = .ok (.aload_n 0, 1) := by decide +kernel
theorem dX6_firstFault_60 : decode cX6_firstFault 60 = .ok (.getfield 20, 3) := by decide +kernel
theorem dX6_firstFault_63 : decode cX6_firstFault 63 = .ok (.ireturn, 1) := by decide +kernel
theorem dX6_fits_0 : decode cX6_fits 0 = .ok (.iload_n 1, 1) := by decide +kernel
theorem dX6_fits_1 : decode cX6_fits 1 = .ok (.ifCond .ne 19, 3) := by decide +kernel
theorem dX6_fits_4 : decode cX6_fits 4 = .ok (.aload_n 0, 1) := by decide +kernel
theorem dX6_fits_5 : decode cX6_fits 5 = .ok (.iconst 0, 1) := by decide +kernel
theorem dX6_fits_6 : decode cX6_fits 6 = .ok (.invokevirtual 36, 3) := by decide +kernel
theorem dX6_fits_9 : decode cX6_fits 9 = .ok (.bipush 75, 2) := by decide +kernel
theorem dX6_fits_11 : decode cX6_fits 11 = .ok (.if_icmp .ne 7, 3) := by decide +kernel
theorem dX6_fits_14 : decode cX6_fits 14 = .ok (.iconst 1, 1) := by decide +kernel
theorem dX6_fits_15 : decode cX6_fits 15 = .ok (.goto 4, 3) := by decide +kernel
theorem dX6_fits_18 : decode cX6_fits 18 = .ok (.iconst 0, 1) := by decide +kernel
theorem dX6_fits_19 : decode cX6_fits 19 = .ok (.ireturn, 1) := by decide +kernel
theorem dX6_fits_20 : decode cX6_fits 20 = .ok (.iload_n 1, 1) := by decide +kernel
theorem dX6_fits_21 : decode cX6_fits 21 = .ok (.iconst 1, 1) := by decide +kernel
theorem dX6_fits_22 : decode cX6_fits 22 = .ok (.isub, 1) := by decide +kernel
theorem dX6_fits_23 : decode cX6_fits 23 = .ok (.iconst 4, 1) := by decide +kernel
theorem dX6_fits_24 : decode cX6_fits 24 = .ok (.irem, 1) := by decide +kernel
theorem dX6_fits_25 : decode cX6_fits 25 = .ok (.istore_n 2, 1) := by decide +kernel
theorem dX6_fits_26 : decode cX6_fits 26 = .ok (.iload_n 2, 1) := by decide +kernel
theorem dX6_fits_27 : decode cX6_fits 27 = .ok (.ifCond .ne 9, 3) := by decide +kernel
theorem dX6_fits_30 : decode cX6_fits 30 = .ok (.aload_n 0, 1) := by decide +kernel
theorem dX6_fits_31 : decode cX6_fits 31 = .ok (.iload_n 1, 1) := by decide +kernel
theorem dX6_fits_32 : decode cX6_fits 32 = .ok (.invokevirtual 37, 3) := by decide +kernel
theorem dX6_fits_35 : decode cX6_fits 35 = .ok (.ireturn, 1) := by decide +kernel
theorem dX6_fits_36 : decode cX6_fits 36 = .ok (.aload_n 0, 1) := by decide +kernel
theorem dX6_fits_37 : decode cX6_fits 37 = .ok (.iload_n 1, 1) := by decide +kernel
theorem dX6_fits_38 : decode cX6_fits 38 = .ok (.iload_n 2, 1) := by decide +kernel
theorem dX6_fits_39 : decode cX6_fits 39 = .ok (.isub, 1) := by decide +kernel
theorem dX6_fits_40 : decode cX6_fits 40 = .ok (.invokevirtual 36, 3) := by decide +kernel
theorem dX6_fits_43 : decode cX6_fits 43 = .ok (.bipush 82, 2) := by decide +kernel
theorem dX6_fits_45 : decode cX6_fits 45 = .ok (.if_icmp .ne 13, 3) := by decide +kernel
theorem dX6_fits_48 : decode cX6_fits 48 = .ok (.aload_n 0, 1) := by decide +kernel
theorem dX6_fits_49 : decode cX6_fits 49 = .ok (.iload_n 1, 1) := by decide +kernel
theorem dX6_fits_50 : decode cX6_fits 50 = .ok (.invokevirtual 40, 3) := by decide +kernel
theorem dX6_fits_53 : decode cX6_fits 53 = .ok (.iconst 5, 1) := by decide +kernel
theorem dX6_fits_54 : decode cX6_fits 54 = .ok (.invokestatic 43, 3) := by decide +kernel
theorem dX6_fits_57 : decode cX6_fits 57 = .ok (.ireturn, 1) := by decide +kernel
theorem dX6_fits_58 : decode cX6_fits 58 = .ok (.iload_n 2, 1) := by decide +kernel
theorem dX6_fits_59 : decode cX6_fits 59 = .ok (.iconst 1, 1) := by decide +kernel
theorem dX6_fits_60 : decode cX6_fits 60 = .ok (.if_icmp .ne 15, 3) := by decide +kernel
theorem dX6_fits_63 : decode cX6_fits 63 = .ok (.aload_n 0, 1) := by decide +kernel
theorem dX6_fits_64 : decode cX6_fits 64 = .ok (.iload_n 1, 1) := by decide +kernel
theorem dX6_fits_65 : decode cX6_fits 65 = .ok (.invokevirtual 40, 3) := by decide +kernel
theorem dX6_fits_68 : decode cX6_fits 68 = .ok (.iconst 3, 1) := by decide +kernel
theorem dX6_fits_69 : decode cX6_fits 69 = .ok (.invokestatic 43, 3) := by decide +kernel
theorem dX6_fits_72 : decode cX6_fits 72 = .ok (.goto 13, 3) := by decide +kernel
theorem dX6_fits_75 : decode cX6_fits 75 = .ok (.aload_n 0, 1) := by decide +kernel
theorem dX6_fits_76 : decode cX6_fits 76 = .ok (.iload_n 1, 1) := by decide +kernel
theorem dX6_fits_77 : decode cX6_fits 77 = .ok (.invokevirtual 47, 3) := by decide +kernel
theorem dX6_fits_80 : decode cX6_fits 80 = .ok (.bipush 7, 2) := by decide +kernel
theorem dX6_fits_82 : decode cX6_fits 82 = .ok (.invokestatic 43, 3) := by decide +kernel
theorem dX6_fits_85 : decode cX6_fits 85 = .ok (.ireturn, 1) := by decide +kernel
theorem dX6_startsPart_0 : decode cX6_startsPart 0 = .ok (.aload_n 0, 1) := by decide +kernel
theorem dX6_startsPart_1 : decode cX6_startsPart 1 = .ok (.iload_n 1, 1) := by decide +kernel
theorem dX6_startsPart_2 : decode cX6_startsPart 2 = .ok (.invokevirtual 36, 3) := by decide +kernel
theorem dX6_startsPart_5 : decode cX6_startsPart 5 = .ok (.bipush 80, 2) := by decide +kernel
theorem dX6_startsPart_7 : decode cX6_startsPart 7 = .ok (.if_icmp .ne 20, 3) := by decide +kernel
theorem dX6_startsPart_10 : decode cX6_startsPart 10 = .ok (.aload_n 0, 1) := by decide +kernel
theorem dX6_startsPart_11 : decode cX6_startsPart 11 = .ok (.iload_n 1, 1) := by decide +kernel
theorem dX6_startsPart_12 : decode cX6_startsPart 12 = .ok (.bipush 80, 2) := by decide +kernel
theorem dX6_startsPart_14 : decode cX6_startsPart 14 = .ok (.invokevirtual 50, 3) := by decide +kernel
theorem dX6_startsPart_17 : decode cX6_startsPart 17 = .ok (.iconst 5, 1) := by decide +kernel
theorem dX6_startsPart_18 : decode cX6_startsPart 18 = .ok (.if_icmp .ge 7, 3) := by decide +kernel
theorem dX6_startsPart_21 : decode cX6_startsPart 21 = .ok (.iconst 1, 1) := by decide +kernel
theorem dX6_startsPart_22 : decode cX6_startsPart 22 = .ok (.goto 4, 3) := by decide +kernel
theorem dX6_startsPart_25 : decode cX6_startsPart 25 = .ok (.iconst 0, 1) := by decide +kernel
theorem dX6_startsPart_26 : decode cX6_startsPart 26 = .ok (.ireturn, 1) := by decide +kernel
theorem dX6_startsPart_27 : decode cX6_startsPart 27 = .ok (.aload_n 0, 1) := by decide +kernel
theorem dX6_startsPart_28 : decode cX6_startsPart 28 = .ok (.iload_n 1, 1) := by decide +kernel
theorem dX6_startsPart_29 : decode cX6_startsPart 29 = .ok (.invokevirtual 36, 3) := by decide +kernel
theorem dX6_startsPart_32 : decode cX6_startsPart 32 = .ok (.bipush 82, 2) := by decide +kernel
theorem dX6_startsPart_34 : decode cX6_startsPart 34 = .ok (.if_icmp .ne 18, 3) := by decide +kernel
theorem dX6_startsPart_37 : decode cX6_startsPart 37 = .ok (.aload_n 0, 1) := by decide +kernel
theorem dX6_startsPart_38 : decode cX6_startsPart 38 = .ok (.iload_n 1, 1) := by decide +kernel
theorem dX6_startsPart_39 : decode cX6_startsPart 39 = .ok (.bipush 82, 2) := by decide +kernel
theorem dX6_startsPart_41 : decode cX6_startsPart 41 = .ok (.invokevirtual 50, 3) := by decide +kernel
theorem dX6_startsPart_44 : decode cX6_startsPart 44 = .ok (.iconst 4, 1) := by decide +kernel
theorem dX6_startsPart_45 : decode cX6_startsPart 45 = .ok (.if_icmp .ge 7, 3) := by decide +kernel
theorem dX6_startsPart_48 : decode cX6_startsPart 48 = .ok (.iconst 1, 1) := by decide +kernel
theorem dX6_startsPart_49 : decode cX6_startsPart 49 = .ok (.goto 4, 3) := by decide +kernel
theorem dX6_startsPart_52 : decode cX6_startsPart 52 = .ok (.iconst 0, 1) := by decide +kernel
theorem dX6_startsPart_53 : decode cX6_startsPart 53 = .ok (.ireturn, 1) := by decide +kernel
theorem dX6_partsAhead_0 : decode cX6_partsAhead 0 = .ok (.iconst 0, 1) := by decide +kernel
theorem dX6_partsAhead_1 : decode cX6_partsAhead 1 = .ok (.istore_n 3, 1) := by decide +kernel
theorem dX6_partsAhead_2 : decode cX6_partsAhead 2 = .ok (.iconst 1, 1) := by decide +kernel
theorem dX6_partsAhead_3 : decode cX6_partsAhead 3 = .ok (.istore 4, 2) := by decide +kernel
theorem dX6_partsAhead_5 : decode cX6_partsAhead 5 = .ok (.iload 4, 2) := by decide +kernel
theorem dX6_partsAhead_7 : decode cX6_partsAhead 7 = .ok (.iload_n 1, 1) := by decide +kernel
theorem dX6_partsAhead_8 : decode cX6_partsAhead 8 = .ok (.if_icmp .ge 22, 3) := by decide +kernel
theorem dX6_partsAhead_11 : decode cX6_partsAhead 11 = .ok (.aload_n 0, 1) := by decide +kernel
theorem dX6_partsAhead_12 : decode cX6_partsAhead 12 = .ok (.iload 4, 2) := by decide +kernel
theorem dX6_partsAhead_14 : decode cX6_partsAhead 14 = .ok (.invokevirtual 36, 3) := by decide +kernel
theorem dX6_partsAhead_17 : decode cX6_partsAhead 17 = .ok (.iload_n 2, 1) := by decide +kernel
theorem dX6_partsAhead_18 : decode cX6_partsAhead 18 = .ok (.if_icmp .ne 6, 3) := by decide +kernel
theorem dX6_partsAhead_21 : decode cX6_partsAhead 21 = .ok (.iinc 3 1, 3) := by decide +kernel
theorem dX6_partsAhead_24 : decode cX6_partsAhead 24 = .ok (.iinc 4 4, 3) := by decide +kernel
theorem dX6_partsAhead_27 : decode cX6_partsAhead 27 = .ok (.goto (-22), 3) := by decide +kernel
theorem dX6_partsAhead_30 : decode cX6_partsAhead 30 = .ok (.iload_n 3, 1) := by decide +kernel
theorem dX6_partsAhead_31 : decode cX6_partsAhead 31 = .ok (.ireturn, 1) := by decide +kernel
theorem dX6_isBetween_0 : decode cX6_isBetween 0 = .ok (.iload_n 0, 1) := by decide +kernel
theorem dX6_isBetween_1 : decode cX6_isBetween 1 = .ok (.ifCond .lt 12, 3) := by decide +kernel
theorem dX6_isBetween_4 : decode cX6_isBetween 4 = .ok (.iload_n 0, 1) := by decide +kernel
theorem dX6_isBetween_5 : decode cX6_isBetween 5 = .ok (.iload_n 1, 1) := by decide +kernel
theorem dX6_isBetween_6 : decode cX6_isBetween 6 = .ok (.if_icmp .gt 7, 3) := by decide +kernel
theorem dX6_isBetween_9 : decode cX6_isBetween 9 = .ok (.iconst 1, 1) := by decide +kernel
theorem dX6_isBetween_10 : decode cX6_isBetween 10 = .ok (.goto 4, 3) := by decide +kernel
theorem dX6_isBetween_13 : decode cX6_isBetween 13 = .ok (.iconst 0, 1) := by decide +kernel
theorem dX6_isBetween_14 : decode cX6_isBetween 14 = .ok (.ireturn, 1) := by decide +kernel
theorem dJ6_bitCount_0f7a4_0 : decode cJ6_bitCount_0f7a4 0 = .ok (.iload_n 0, 1) := by decide +kernel
theorem dJ6_bitCount_0f7a4_1 : decode cJ6_bitCount_0f7a4 1 = .ok (.iload_n 0, 1) := by decide +kernel
theorem dJ6_bitCount_0f7a4_2 : decode cJ6_bitCount_0f7a4 2 = .ok (.iconst 1, 1) := by decide +kernel
theorem dJ6_bitCount_0f7a4_3 : decode cJ6_bitCount_0f7a4 3 = .ok (.iushr, 1) := by decide +kernel
theorem dJ6_bitCount_0f7a4_4 : decode cJ6_bitCount_0f7a4 4 = .ok (.ldc_w 265, 3) := by decide +kernel
theorem dJ6_bitCount_0f7a4_7 : decode cJ6_bitCount_0f7a4 7 = .ok (.iand, 1) := by decide +kernel
theorem dJ6_bitCount_0f7a4_8 : decode cJ6_bitCount_0f7a4 8 = .ok (.isub, 1) := by decide +kernel
theorem dJ6_bitCount_0f7a4_9 : decode cJ6_bitCount_0f7a4 9 = .ok (.istore_n 0, 1) := by decide +kernel
theorem dJ6_bitCount_0f7a4_10 : decode cJ6_bitCount_0f7a4 10 = .ok (.iload_n 0, 1) := by decide +kernel
theorem dJ6_bitCount_0f7a4_11 : decode cJ6_bitCount_0f7a4 11 = .ok (.ldc_w 266, 3) := by decide +kernel
theorem dJ6_bitCount_0f7a4_14 : decode cJ6_bitCount_0f7a4 14 = .ok (.iand, 1) := by decide +kernel
theorem dJ6_bitCount_0f7a4_15 : decode cJ6_bitCount_0f7a4 15 = .ok (.iload_n 0, 1) := by decide +kernel
theorem dJ6_bitCount_0f7a4_16 : decode cJ6_bitCount_0f7a4 16 = .ok (.iconst 2, 1) := by decide +kernel
theorem dJ6_bitCount_0f7a4_17 : decode cJ6_bitCount_0f7a4 17 = .ok (.iushr, 1) := by decide +kernel
theorem dJ6_bitCount_0f7a4_18 : decode cJ6_bitCount_0f7a4 18 = .ok (.ldc_w 266, 3) := by decide +kernel
theorem dJ6_bitCount_0f7a4_21 : decode cJ6_bitCount_0f7a4 21 = .ok (.iand, 1) := by decide +kernel
theorem dJ6_bitCount_0f7a4_22 : decode cJ6_bitCount_0f7a4 22 = .ok (.iadd, 1) := by decide +kernel
theorem dJ6_bitCount_0f7a4_23 : decode cJ6_bitCount_0f7a4 23 = .ok (.istore_n 0, 1) := by decide +kernel
theorem dJ6_bitCount_0f7a4_24 : decode cJ6_bitCount_0f7a4 24 = .ok (.iload_n 0, 1) := by decide +kernel
theorem dJ6_bitCount_0f7a4_25 : decode cJ6_bitCount_0f7a4 25 = .ok (.iload_n 0, 1) := by decide +kernel
theorem dJ6_bitCount_0f7a4_26 : decode cJ6_bitCount_0f7a4 26 = .ok (.iconst 4, 1) := by decide +kernel
theorem dJ6_bitCount_0f7a4_27 : decode cJ6_bitCount_0f7a4 27 = .ok (.iushr, 1) := by decide +kernel
theorem dJ6_bitCount_0f7a4_28 : decode cJ6_bitCount_0f7a4 28 = .ok (.iadd, 1) := by decide +kernel
theorem dJ6_bitCount_0f7a4_29 : decode cJ6_bitCount_0f7a4 29 = .ok (.ldc_w 267, 3) := by decide +kernel
theorem dJ6_bitCount_0f7a4_32 : decode cJ6_bitCount_0f7a4 32 = .ok (.iand, 1) := by decide +kernel
theorem dJ6_bitCount_0f7a4_33 : decode cJ6_bitCount_0f7a4 33 = .ok (.istore_n 0, 1) := by decide +kernel
theorem dJ6_bitCount_0f7a4_34 : decode cJ6_bitCount_0f7a4 34 = .ok (.iload_n 0, 1) := by decide +kernel
theorem dJ6_bitCount_0f7a4_35 : decode cJ6_bitCount_0f7a4 35 = .ok (.iload_n 0, 1) := by decide +kernel
theorem dJ6_bitCount_0f7a4_36 : decode cJ6_bitCount_0f7a4 36 = .ok (.bipush 8, 2) := by decide +kernel
theorem dJ6_bitCount_0f7a4_38 : decode cJ6_bitCount_0f7a4 38 = .ok (.iushr, 1) := by decide +kernel
theorem dJ6_bitCount_0f7a4_39 : decode cJ6_bitCount_0f7a4 39 = .ok (.iadd, 1) := by decide +kernel
theorem dJ6_bitCount_0f7a4_40 : decode cJ6_bitCount_0f7a4 40 = .ok (.istore_n 0, 1) := by decide +kernel
theorem dJ6_bitCount_0f7a4_41 : decode cJ6_bitCount_0f7a4 41 = .ok (.iload_n 0, 1) := by decide +kernel
theorem dJ6_bitCount_0f7a4_42 : decode cJ6_bitCount_0f7a4 42 = .ok (.iload_n 0, 1) := by decide +kernel
theorem dJ6_bitCount_0f7a4_43 : decode cJ6_bitCount_0f7a4 43 = .ok (.bipush 16, 2) := by decide +kernel
theorem dJ6_bitCount_0f7a4_45 : decode cJ6_bitCount_0f7a4 45 = .ok (.iushr, 1) := by decide +kernel
theorem dJ6_bitCount_0f7a4_46 : decode cJ6_bitCount_0f7a4 46 = .ok (.iadd, 1) := by decide +kernel
theorem dJ6_bitCount_0f7a4_47 : decode cJ6_bitCount_0f7a4 47 = .ok (.istore_n 0, 1) := by decide +kernel
theorem dJ6_bitCount_0f7a4_48 : decode cJ6_bitCount_0f7a4 48 = .ok (.iload_n 0, 1) := by decide +kernel
theorem dJ6_bitCount_0f7a4_49 : decode cJ6_bitCount_0f7a4 49 = .ok (.bipush 63, 2) := by decide +kernel
theorem dJ6_bitCount_0f7a4_51 : decode cJ6_bitCount_0f7a4 51 = .ok (.iand, 1) := by decide +kernel
theorem dJ6_bitCount_0f7a4_52 : decode cJ6_bitCount_0f7a4 52 = .ok (.ireturn, 1) := by decide +kernel
end
section
theorem dX7_init_0 : decode cX7_init 0 = .ok (.aload_n 0, 1) := by decide +kernel
theorem dX7_init_1 : decode cX7_init 1 = .ok (.invokespecial 1, 3) := by decide +kernel
theorem dX7_init_4 : decode cX7_init 4 = .ok (.new 7, 3) := by decide +kernel
theorem dX7_init_7 : decode cX7_init 7 = .ok (.dup, 1) := by decide +kernel
theorem dX7_init_8 : decode cX7_init 8 = .ok (.invokespecial 9, 3) := by decide +kernel
theorem dX7_init_11 : decode cX7_init 11 = .ok (.astore_n 1, 1) := by decide +kernel
theorem dX7_init_12 : decode cX7_init 12 = .ok (.aload_n 0, 1) := by decide +kernel
theorem dX7_init_13 : decode cX7_init 13 = .ok (.new 10, 3) := by decide +kernel
theorem dX7_init_16 : decode cX7_init 16 = .ok (.dup, 1) := by decide +kernel
theorem dX7_init_17 : decode cX7_init 17 = .ok (.invokespecial 12, 3) := by decide +kernel
theorem dX7_init_20 : decode cX7_init 20 = .ok (.putfield 13, 3) := by decide +kernel
theorem dX7_init_23 : decode cX7_init 23 = .ok (.aload_n 0, 1) := by decide +kernel
theorem dX7_init_24 : decode cX7_init 24 = .ok (.aload_n 1, 1) := by decide +kernel
theorem dX7_init_25 : decode cX7_init 25 = .ok (.putfield 19, 3) := by decide +kernel
theorem dX7_init_28 : decode cX7_init 28 = .ok (.aload_n 0, 1) := by decide +kernel
theorem dX7_init_29 : decode cX7_init 29 = .ok (.new 23, 3) := by decide +kernel
theorem dX7_init_32 : decode cX7_init 32 = .ok (.dup, 1) := by decide +kernel
theorem dX7_init_33 : decode cX7_init 33 = .ok (.aload_n 1, 1) := by decide +kernel
theorem dX7_init_34 : decode cX7_init 34 = .ok (.invokespecial 25, 3) := by decide +kernel
theorem dX7_init_37 : decode cX7_init 37 = .ok (.putfield 28, 3) := by decide +kernel
theorem dX7_init_40 : decode cX7_init 40 = .ok (.aload_n 0, 1) := by decide +kernel
theorem dX7_init_41 : decode cX7_init 41 = .ok (.new 23, 3) := by decide +kernel
theorem dX7_init_44 : decode cX7_init 44 = .ok (.dup, 1) := by decide +kernel
theorem dX7_init_45 : decode cX7_init 45 = .ok (.aload_n 1, 1) := by decide +kernel
theorem dX7_init_46 : decode cX7_init 46 = .ok (.invokespecial 25, 3) := by decide +kernel
theorem dX7_init_49 : decode cX7_init 49 = .ok (.putfield 32, 3) := by decide +kernel
theorem dX7_init_52 : decode cX7_init 52 = .ok (.aload_n 0, 1) := by decide +kernel
theorem dX7_init_53 : decode cX7_init 53 = .ok (.new 35, 3) := by decide +kernel
theorem dX7_init_56 : decode cX7_init 56 = .ok (.dup, 1) := by decide +kernel
theorem dX7_init_57 : decode cX7_init 57 = .ok (.invokespecial 37, 3) := by decide +kernel
theorem dX7_init_60 : decode cX7_init 60 = .ok (.putfield 38, 3) := by decide +kernel
theorem dX7_init_63 : decode cX7_init 63 = .ok (.aload_n 0, 1) := by decide +kernel
theorem dX7_init_64 : decode cX7_init 64 = .ok (.new 42, 3) := by decide +kernel
theorem dX7_init_67 : decode cX7_init 67 = .ok (.dup, 1) := by decide +kernel
theorem dX7_init_68 : decode cX7_init 68 = .ok (.iconst 2, 1) := by decide +kernel
theorem dX7_init_69 : decode cX7_init 69 = .ok (.invokespecial 44, 3) := by decide +kernel
theorem dX7_init_72 : decode cX7_init 72 = .ok (.putfield 47, 3) := by decide +kernel
theorem dX7_init_75 : decode cX7_init 75 = .ok (.aload_n 0, 1) := by decide +kernel
theorem dX7_init_76 : decode cX7_init 76 = .ok (.new 51, 3) := by decide +kernel
theorem dX7_init_79 : decode cX7_init 79 = .ok (.dup, 1) := by decide +kernel
theorem dX7_init_80 : decode cX7_init 80 = .ok (.invokespecial 53, 3) := by decide +kernel
theorem dX7_init_83 : decode cX7_init 83 = .ok (.putfield 54, 3) := by decide +kernel
theorem dX7_init_86 : decode cX7_init 86 = .ok (.return_, 1) := by decide +kernel
theorem dX7_write_0 : decode cX7_write 0 = .ok (.iload_n 1, 1) := by decide +kernel
theorem dX7_write_1 : decode cX7_write 1 = .ok (.ifCond .lt 10, 3) := by decide +kernel
theorem dX7_write_4 : decode cX7_write 4 = .ok (.iload_n 1, 1) := by decide +kernel
theorem dX7_write_5 : decode cX7_write 5 = .ok (.sipush 255, 3) := by decide +kernel
theorem dX7_write_8 : decode cX7_write 8 = .ok (.if_icmp .le 6, 3) := by decide +kernel
theorem dX7_write_11 : decode cX7_write 11 = .ok (.bipush (-2), 2) := by decide +kernel
theorem dX7_write_13 : decode cX7_write 13 = .ok (.ireturn, 1) := by decide +kernel
theorem dX7_write_14 : decode cX7_write 14 = .ok (.aload_n 0, 1) := by decide +kernel
theorem dX7_write_15 : decode cX7_write 15 = .ok (.getfield 13, 3) := by decide +kernel
theorem dX7_write_18 : decode cX7_write 18 = .ok (.iload_n 1, 1) := by decide +kernel
theorem dX7_write_19 : decode cX7_write 19 = .ok (.invokevirtual 58, 3) := by decide +kernel
theorem dX7_write_22 : decode cX7_write 22 = .ok (.ireturn, 1) := by decide +kernel
theorem dX7_wipe_0 : decode cX7_wipe 0 = .ok (.aload_n 0, 1) := by decide +kernel
theorem dX7_wipe_1 : decode cX7_wipe 1 = .ok (.getfield 13, 3) := by decide +kernel
theorem dX7_wipe_4 : decode cX7_wipe 4 = .ok (.invokevirtual 62, 3) := by decide +kernel
theorem dX7_wipe_7 : decode cX7_wipe 7 = .ok (.ireturn, 1) := by decide +kernel
theorem dX7_fault_0 : decode cX7_fault 0 = .ok (.aload_n 0, 1) := by decide +kernel
theorem dX7_fault_1 : decode cX7_fault 1 = .ok (.getfield 13, 3) := by decide +kernel
theorem dX7_fault_4 : decode cX7_fault 4 = .ok (.invokevirtual 66, 3) := by decide +kernel
theorem dX7_fault_7 : decode cX7_fault 7 = .ok (.ireturn, 1) := by decide +kernel
theorem dX7_table_0 : decode cX7_table 0 = .ok (.aload_n 0, 1) := by decide +kernel
theorem dX7_table_1 : decode cX7_table 1 = .ok (.getfield 13, 3) := by decide +kernel
theorem dX7_table_4 : decode cX7_table 4 = .ok (.invokevirtual 66, 3) := by decide +kernel
theorem dX7_table_7 : decode cX7_table 7 = .ok (.bipush (-9), 2) := by decide +kernel
theorem dX7_table_9 : decode cX7_table 9 = .ok (.if_icmp .eq 6, 3) := by decide +kernel
theorem dX7_table_12 : decode cX7_table 12 = .ok (.bipush (-3), 2) := by decide +kernel
theorem dX7_table_14 : decode cX7_table 14 = .ok (.ireturn, 1) := by decide +kernel
theorem dX7_table_15 : decode cX7_table 15 = .ok (.aload_n 0, 1) := by decide +kernel
theorem dX7_table_16 : decode cX7_table 16 = .ok (.getfield 19, 3) := by decide +kernel
theorem dX7_table_19 : decode cX7_table 19 = .ok (.invokevirtual 69, 3) := by decide +kernel
theorem dX7_table_22 : decode cX7_table 22 = .ok (.aload_n 0, 1) := by decide +kernel
theorem dX7_table_23 : decode cX7_table 23 = .ok (.getfield 28, 3) := by decide +kernel
theorem dX7_table_26 : decode cX7_table 26 = .ok (.invokevirtual 71, 3) := by decide +kernel
theorem dX7_table_29 : decode cX7_table 29 = .ok (.iconst 1, 1) := by decide +kernel
theorem dX7_table_30 : decode cX7_table 30 = .ok (.istore_n 1, 1) := by decide +kernel
theorem dX7_table_31 : decode cX7_table 31 = .ok (.iload_n 1, 1) := by decide +kernel
theorem dX7_table_32 : decode cX7_table 32 = .ok (.aload_n 0, 1) := by decide +kernel
theorem dX7_table_33 : decode cX7_table 33 = .ok (.getfield 13, 3) := by decide +kernel
theorem dX7_table_36 : decode cX7_table 36 = .ok (.invokevirtual 72, 3) := by decide +kernel
theorem dX7_table_39 : decode cX7_table 39 = .ok (.if_icmp .ge 67, 3) := by decide +kernel
theorem dX7_table_42 : decode cX7_table 42 = .ok (.aload_n 0, 1) := by decide +kernel
theorem dX7_table_43 : decode cX7_table 43 = .ok (.getfield 13, 3) := by decide +kernel
theorem dX7_table_46 : decode cX7_table 46 = .ok (.iload_n 1, 1) := by decide +kernel
theorem dX7_table_47 : decode cX7_table 47 = .ok (.invokevirtual 75, 3) := by decide +kernel
theorem dX7_table_50 : decode cX7_table 50 = .ok (.bipush 80, 2) := by decide +kernel
theorem dX7_table_52 : decode cX7_table 52 = .ok (.if_icmp .ne 11, 3) := by decide +kernel
theorem dX7_table_55 : decode cX7_table 55 = .ok (.aload_n 0, 1) := by decide +kernel
theorem dX7_table_56 : decode cX7_table 56 = .ok (.iload_n 1, 1) := by decide +kernel
theorem dX7_table_57 : decode cX7_table 57 = .ok (.invokevirtual 78, 3) := by decide +kernel
theorem dX7_table_60 : decode cX7_table 60 = .ok (.goto 40, 3) := by decide +kernel
theorem dX7_table_63 : decode cX7_table 63 = .ok (.aload_n 0, 1) := by decide +kernel
theorem dX7_table_64 : decode cX7_table 64 = .ok (.getfield 19, 3) := by decide +kernel
theorem dX7_table_67 : decode cX7_table 67 = .ok (.aload_n 0, 1) := by decide +kernel
theorem dX7_table_68 : decode cX7_table 68 = .ok (.getfield 13, 3) := by decide +kernel
theorem dX7_table_71 : decode cX7_table 71 = .ok (.iload_n 1, 1) := by decide +kernel
theorem dX7_table_72 : decode cX7_table 72 = .ok (.iconst 1, 1) := by decide +kernel
theorem dX7_table_73 : decode cX7_table 73 = .ok (.iadd, 1) := by decide +kernel
theorem dX7_table_74 : decode cX7_table 74 = .ok (.invokevirtual 81, 3) := by decide +kernel
theorem dX7_table_77 : decode cX7_table 77 = .ok (.aload_n 0, 1) := by decide +kernel
theorem dX7_table_78 : decode cX7_table 78 = .ok (.getfield 13, 3) := by decide +kernel
theorem dX7_table_81 : decode cX7_table 81 = .ok (.iload_n 1, 1) := by decide +kernel
theorem dX7_table_82 : decode cX7_table 82 = .ok (.iconst 2, 1) := by decide +kernel
theorem dX7_table_83 : decode cX7_table 83 = .ok (.iadd, 1) := by decide +kernel
theorem dX7_table_84 : decode cX7_table 84 = .ok (.invokevirtual 81, 3) := by decide +kernel
theorem dX7_table_87 : decode cX7_table 87 = .ok (.aload_n 0, 1) := by decide +kernel
theorem dX7_table_88 : decode cX7_table 88 = .ok (.getfield 13, 3) := by decide +kernel
theorem dX7_table_91 : decode cX7_table 91 = .ok (.iload_n 1, 1) := by decide +kernel
theorem dX7_table_92 : decode cX7_table 92 = .ok (.iconst 3, 1) := by decide +kernel
theorem dX7_table_93 : decode cX7_table 93 = .ok (.iadd, 1) := by decide +kernel
theorem dX7_table_94 : decode cX7_table 94 = .ok (.invokevirtual 81, 3) := by decide +kernel
theorem dX7_table_97 : decode cX7_table 97 = .ok (.invokevirtual 84, 3) := by decide +kernel
theorem dX7_table_100 : decode cX7_table 100 = .ok (.iinc 1 4, 3) := by decide +kernel
theorem dX7_table_103 : decode cX7_table 103 = .ok (.goto (-72), 3) := by decide +kernel
theorem dX7_table_106 : decode cX7_table 106 = .ok (.aload_n 0, 1) := by decide +kernel
theorem dX7_table_107 : decode cX7_table 107 = .ok (.getfield 38, 3) := by decide +kernel
theorem dX7_table_110 : decode cX7_table 110 = .ok (.invokevirtual 88, 3) := by decide +kernel
theorem dX7_table_113 : decode cX7_table 113 = .ok (.aload_n 0, 1) := by decide +kernel
theorem dX7_table_114 : decode cX7_table 114 = .ok (.iconst 0, 1) := by decide +kernel
theorem dX7_table_115 : decode cX7_table 115 = .ok (.putfield 89, 3) := by decide +kernel
theorem dX7_table_118 : decode cX7_table 118 = .ok (.bipush 10, 2) := by decide +kernel
theorem dX7_table_120 : decode cX7_table 120 = .ok (.aload_n 0, 1) := by decide +kernel
theorem dX7_table_121 : decode cX7_table 121 = .ok (.getfield 19, 3) := by decide +kernel
theorem dX7_table_124 : decode cX7_table 124 = .ok (.invokevirtual 93, 3) := by decide +kernel
theorem dX7_table_127 : decode cX7_table 127 = .ok (.imul, 1) := by decide +kernel
theorem dX7_table_128 : decode cX7_table 128 = .ok (.aload_n 0, 1) := by decide +kernel
theorem dX7_table_129 : decode cX7_table 129 = .ok (.getfield 19, 3) := by decide +kernel
theorem dX7_table_132 : decode cX7_table 132 = .ok (.invokevirtual 96, 3) := by decide +kernel
theorem dX7_table_135 : decode cX7_table 135 = .ok (.iadd, 1) := by decide +kernel
theorem dX7_table_136 : decode cX7_table 136 = .ok (.ireturn, 1) := by decide +kernel
theorem dX7_about_0 : decode cX7_about 0 = .ok (.iload_n 1, 1) := by decide +kernel
theorem dX7_about_1 : decode cX7_about 1 = .ok (.tableswitch 99 0 6 #[43, 51, 59, 67, 75, 83, 91], 43) := by decide +kernel
theorem dX7_about_44 : decode cX7_about 44 = .ok (.aload_n 0, 1) := by decide +kernel
theorem dX7_about_45 : decode cX7_about 45 = .ok (.getfield 19, 3) := by decide +kernel
theorem dX7_about_48 : decode cX7_about 48 = .ok (.invokevirtual 93, 3) := by decide +kernel
theorem dX7_about_51 : decode cX7_about 51 = .ok (.ireturn, 1) := by decide +kernel
theorem dX7_about_52 : decode cX7_about 52 = .ok (.aload_n 0, 1) := by decide +kernel
theorem dX7_about_53 : decode cX7_about 53 = .ok (.getfield 19, 3) := by decide +kernel
theorem dX7_about_56 : decode cX7_about 56 = .ok (.invokevirtual 96, 3) := by decide +kernel
theorem dX7_about_59 : decode cX7_about 59 = .ok (.ireturn, 1) := by decide +kernel
theorem dX7_about_60 : decode cX7_about 60 = .ok (.aload_n 0, 1) := by decide +kernel
theorem dX7_about_61 : decode cX7_about 61 = .ok (.getfield 28, 3) := by decide +kernel
theorem dX7_about_64 : decode cX7_about 64 = .ok (.invokevirtual 99, 3) := by decide +kernel
theorem dX7_about_67 : decode cX7_about 67 = .ok (.ireturn, 1) := by decide +kernel
theorem dX7_about_68 : decode cX7_about 68 = .ok (.aload_n 0, 1) := by decide +kernel
theorem dX7_about_69 : decode cX7_about 69 = .ok (.getfield 28, 3) := by decide +kernel
theorem dX7_about_72 : decode cX7_about 72 = .ok (.invokevirtual 102, 3) := by decide +kernel
theorem dX7_about_75 : decode cX7_about 75 = .ok (.ireturn, 1) := by decide +kernel
theorem dX7_about_76 : decode cX7_about 76 = .ok (.aload_n 0, 1) := by decide +kernel
theorem dX7_about_77 : decode cX7_about 77 = .ok (.getfield 38, 3) := by decide +kernel
theorem dX7_about_80 : decode cX7_about 80 = .ok (.invokevirtual 105, 3) := by decide +kernel
theorem dX7_about_83 : decode cX7_about 83 = .ok (.ireturn, 1) := by decide +kernel
theorem dX7_about_84 : decode cX7_about 84 = .ok (.aload_n 0, 1) := by decide +kernel
theorem dX7_about_85 : decode cX7_about 85 = .ok (.getfield 54, 3) := by decide +kernel
theorem dX7_about_88 : decode cX7_about 88 = .ok (.invokevirtual 108, 3) := by decide +kernel
theorem dX7_about_91 : decode cX7_about 91 = .ok (.ireturn, 1) := by decide +kernel
theorem dX7_about_92 : decode cX7_about 92 = .ok (.aload_n 0, 1) := by decide +kernel
theorem dX7_about_93 : decode cX7_about 93 = .ok (.getfield 13, 3) := by decide +kernel
theorem dX7_about_96 : decode cX7_about 96 = .ok (.invokevirtual 72, 3) := by decide +kernel
theorem dX7_about_99 : decode cX7_about 99 = .ok (.ireturn, 1) := by decide +kernel
theorem dX7_about_100 : decode cX7_about 100 = .ok (.bipush (-2), 2) := by decide +kernel
theorem dX7_about_102 : decode cX7_about 102 = .ok (.ireturn, 1) := by decide +kernel
theorem dX7_person_0 : decode cX7_person 0 = .ok (.aload_n 0, 1) := by decide +kernel
theorem dX7_person_1 : decode cX7_person 1 = .ok (.iload_n 1, 1) := by decide +kernel
theorem dX7_person_2 : decode cX7_person 2 = .ok (.invokevirtual 109, 3) := by decide +kernel
theorem dX7_person_5 : decode cX7_person 5 = .ok (.ifCond .ne 5, 3) := by decide +kernel
theorem dX7_person_8 : decode cX7_person 8 = .ok (.iconst (-1), 1) := by decide +kernel
theorem dX7_person_9 : decode cX7_person 9 = .ok (.ireturn, 1) := by decide +kernel
theorem dX7_person_10 : decode cX7_person 10 = .ok (.iload_n 2, 1) := by decide +kernel
theorem dX7_person_11 : decode cX7_person 11 = .ok (.tableswitch 78 0 4 #[33, 42, 51, 60, 69], 33) := by decide +kernel
theorem dX7_person_44 : decode cX7_person 44 = .ok (.aload_n 0, 1) := by decide +kernel
theorem dX7_person_45 : decode cX7_person 45 = .ok (.getfield 19, 3) := by decide +kernel
theorem dX7_person_48 : decode cX7_person 48 = .ok (.iload_n 1, 1) := by decide +kernel
theorem dX7_person_49 : decode cX7_person 49 = .ok (.invokevirtual 113, 3) := by decide +kernel
theorem dX7_person_52 : decode cX7_person 52 = .ok (.ireturn, 1) := by decide +kernel
theorem dX7_person_53 : decode cX7_person 53 = .ok (.aload_n 0, 1) := by decide +kernel
theorem dX7_person_54 : decode cX7_person 54 = .ok (.getfield 28, 3) := by decide +kernel
theorem dX7_person_57 : decode cX7_person 57 = .ok (.iload_n 1, 1) := by decide +kernel
theorem dX7_person_58 : decode cX7_person 58 = .ok (.invokevirtual 116, 3) := by decide +kernel
theorem dX7_person_61 : decode cX7_person 61 = .ok (.ireturn, 1) := by decide +kernel
theorem dX7_person_62 : decode cX7_person 62 = .ok (.aload_n 0, 1) := by decide +kernel
theorem dX7_person_63 : decode cX7_person 63 = .ok (.getfield 28, 3) := by decide +kernel
theorem dX7_person_66 : decode cX7_person 66 = .ok (.iload_n 1, 1) := by decide +kernel
theorem dX7_person_67 : decode cX7_person 67 = .ok (.invokevirtual 119, 3) := by decide +kernel
theorem dX7_person_70 : decode cX7_person 70 = .ok (.ireturn, 1) := by decide +kernel
theorem dX7_person_71 : decode cX7_person 71 = .ok (.aload_n 0, 1) := by decide +kernel
theorem dX7_person_72 : decode cX7_person 72 = .ok (.getfield 28, 3) := by decide +kernel
theorem dX7_person_75 : decode cX7_person 75 = .ok (.iload_n 1, 1) := by decide +kernel
theorem dX7_person_76 : decode cX7_person 76 = .ok (.invokevirtual 122, 3) := by decide +kernel
theorem dX7_person_79 : decode cX7_person 79 = .ok (.ireturn, 1) := by decide +kernel
theorem dX7_person_80 : decode cX7_person 80 = .ok (.aload_n 0, 1) := by decide +kernel
theorem dX7_person_81 : decode cX7_person 81 = .ok (.getfield 28, 3) := by decide +kernel
theorem dX7_person_84 : decode cX7_person 84 = .ok (.iload_n 1, 1) := by decide +kernel
theorem dX7_person_85 : decode cX7_person 85 = .ok (.invokevirtual 125, 3) := by decide +kernel
theorem dX7_person_88 : decode cX7_person 88 = .ok (.ireturn, 1) := by decide +kernel
theorem dX7_person_89 : decode cX7_person 89 = .ok (.bipush (-2), 2) := by decide +kernel
theorem dX7_person_91 : decode cX7_person 91 = .ok (.ireturn, 1) := by decide +kernel
theorem dX7_far_0 : decode cX7_far 0 = .ok (.aload_n 0, 1) := by decide +kernel
theorem dX7_far_1 : decode cX7_far 1 = .ok (.iload_n 1, 1) := by decide +kernel
theorem dX7_far_2 : decode cX7_far 2 = .ok (.invokevirtual 109, 3) := by decide +kernel
theorem dX7_far_5 : decode cX7_far 5 = .ok (.ifCond .eq 11, 3) := by decide +kernel
theorem dX7_far_8 : decode cX7_far 8 = .ok (.aload_n 0, 1) := by decide +kernel
theorem dX7_far_9 : decode cX7_far 9 = .ok (.iload_n 2, 1) := by decide +kernel
theorem dX7_far_10 : decode cX7_far 10 = .ok (.invokevirtual 109, 3) := by decide +kernel
theorem dX7_far_13 : decode cX7_far 13 = .ok (.ifCond .ne 5, 3) := by decide +kernel
theorem dX7_far_16 : decode cX7_far 16 = .ok (.iconst (-1), 1) := by decide +kernel
theorem dX7_far_17 : decode cX7_far 17 = .ok (.ireturn, 1) := by decide +kernel
theorem dX7_far_18 : decode cX7_far 18 = .ok (.aload_n 0, 1) := by decide +kernel
theorem dX7_far_19 : decode cX7_far 19 = .ok (.getfield 28, 3) := by decide +kernel
theorem dX7_far_22 : decode cX7_far 22 = .ok (.iload_n 1, 1) := by decide +kernel
theorem dX7_far_23 : decode cX7_far 23 = .ok (.iload_n 2, 1) := by decide +kernel
theorem dX7_far_24 : decode cX7_far 24 = .ok (.invokevirtual 128, 3) := by decide +kernel
theorem dX7_far_27 : decode cX7_far 27 = .ok (.ireturn, 1) := by decide +kernel
theorem dX7_say_0 : decode cX7_say 0 = .ok (.aload_n 0, 1) := by decide +kernel
theorem dX7_say_1 : decode cX7_say 1 = .ok (.iload_n 1, 1) := by decide +kernel
theorem dX7_say_2 : decode cX7_say 2 = .ok (.iload_n 2, 1) := by decide +kernel
theorem dX7_say_3 : decode cX7_say 3 = .ok (.iload_n 3, 1) := by decide +kernel
theorem dX7_say_4 : decode cX7_say 4 = .ok (.invokevirtual 132, 3) := by decide +kernel
theorem dX7_say_7 : decode cX7_say 7 = .ok (.istore 4, 2) := by decide +kernel
theorem dX7_say_9 : decode cX7_say 9 = .ok (.iload 4, 2) := by decide +kernel
theorem dX7_say_11 : decode cX7_say 11 = .ok (.ifCond .eq 6, 3) := by decide +kernel
theorem dX7_say_14 : decode cX7_say 14 = .ok (.iload 4, 2) := by decide +kernel
theorem dX7_say_16 : decode cX7_say 16 = .ok (.ireturn, 1) := by decide +kernel
theorem dX7_say_17 : decode cX7_say 17 = .ok (.aload_n 0, 1) := by decide +kernel
theorem dX7_say_18 : decode cX7_say 18 = .ok (.getfield 38, 3) := by decide +kernel
theorem dX7_say_21 : decode cX7_say 21 = .ok (.aload_n 0, 1) := by decide +kernel
theorem dX7_say_22 : decode cX7_say 22 = .ok (.getfield 28, 3) := by decide +kernel
theorem dX7_say_25 : decode cX7_say 25 = .ok (.invokevirtual 136, 3) := by decide +kernel
theorem dX7_say_28 : decode cX7_say 28 = .ok (.aload_n 0, 1) := by decide +kernel
theorem dX7_say_29 : decode cX7_say 29 = .ok (.getfield 28, 3) := by decide +kernel
theorem dX7_say_32 : decode cX7_say 32 = .ok (.iload_n 1, 1) := by decide +kernel
theorem dX7_say_33 : decode cX7_say 33 = .ok (.iload_n 2, 1) := by decide +kernel
theorem dX7_say_34 : decode cX7_say 34 = .ok (.iload_n 3, 1) := by decide +kernel
theorem dX7_say_35 : decode cX7_say 35 = .ok (.invokevirtual 140, 3) := by decide +kernel
theorem dX7_say_38 : decode cX7_say 38 = .ok (.ireturn, 1) := by decide +kernel
theorem dX7_teach_0 : decode cX7_teach 0 = .ok (.aload_n 0, 1) := by decide +kernel
theorem dX7_teach_1 : decode cX7_teach 1 = .ok (.iload_n 1, 1) := by decide +kernel
theorem dX7_teach_2 : decode cX7_teach 2 = .ok (.invokevirtual 109, 3) := by decide +kernel
theorem dX7_teach_5 : decode cX7_teach 5 = .ok (.ifCond .eq 10, 3) := by decide +kernel
theorem dX7_teach_8 : decode cX7_teach 8 = .ok (.iload_n 2, 1) := by decide +kernel
theorem dX7_teach_9 : decode cX7_teach 9 = .ok (.invokestatic 143, 3) := by decide +kernel
theorem dX7_teach_12 : decode cX7_teach 12 = .ok (.ifCond .ne 5, 3) := by decide +kernel
theorem dX7_teach_15 : decode cX7_teach 15 = .ok (.iconst (-1), 1) := by decide +kernel
theorem dX7_teach_16 : decode cX7_teach 16 = .ok (.ireturn, 1) := by decide +kernel
theorem dX7_teach_17 : decode cX7_teach 17 = .ok (.aload_n 0, 1) := by decide +kernel
theorem dX7_teach_18 : decode cX7_teach 18 = .ok (.getfield 28, 3) := by decide +kernel
theorem dX7_teach_21 : decode cX7_teach 21 = .ok (.iload_n 1, 1) := by decide +kernel
theorem dX7_teach_22 : decode cX7_teach 22 = .ok (.invokevirtual 116, 3) := by decide +kernel
theorem dX7_teach_25 : decode cX7_teach 25 = .ok (.iload_n 2, 1) := by decide +kernel
theorem dX7_teach_26 : decode cX7_teach 26 = .ok (.invokestatic 146, 3) := by decide +kernel
theorem dX7_teach_29 : decode cX7_teach 29 = .ok (.ifCond .eq 6, 3) := by decide +kernel
theorem dX7_teach_32 : decode cX7_teach 32 = .ok (.bipush (-3), 2) := by decide +kernel
theorem dX7_teach_34 : decode cX7_teach 34 = .ok (.ireturn, 1) := by decide +kernel
theorem dX7_teach_35 : decode cX7_teach 35 = .ok (.aload_n 0, 1) := by decide +kernel
theorem dX7_teach_36 : decode cX7_teach 36 = .ok (.getfield 38, 3) := by decide +kernel
theorem dX7_teach_39 : decode cX7_teach 39 = .ok (.aload_n 0, 1) := by decide +kernel
theorem dX7_teach_40 : decode cX7_teach 40 = .ok (.getfield 28, 3) := by decide +kernel
theorem dX7_teach_43 : decode cX7_teach 43 = .ok (.invokevirtual 136, 3) := by decide +kernel
theorem dX7_teach_46 : decode cX7_teach 46 = .ok (.aload_n 0, 1) := by decide +kernel
theorem dX7_teach_47 : decode cX7_teach 47 = .ok (.getfield 28, 3) := by decide +kernel
theorem dX7_teach_50 : decode cX7_teach 50 = .ok (.iload_n 1, 1) := by decide +kernel
theorem dX7_teach_51 : decode cX7_teach 51 = .ok (.aload_n 0, 1) := by decide +kernel
theorem dX7_teach_52 : decode cX7_teach 52 = .ok (.getfield 28, 3) := by decide +kernel
theorem dX7_teach_55 : decode cX7_teach 55 = .ok (.iload_n 1, 1) := by decide +kernel
theorem dX7_teach_56 : decode cX7_teach 56 = .ok (.invokevirtual 116, 3) := by decide +kernel
theorem dX7_teach_59 : decode cX7_teach 59 = .ok (.iconst 1, 1) := by decide +kernel
theorem dX7_teach_60 : decode cX7_teach 60 = .ok (.iload_n 2, 1) := by decide +kernel
theorem dX7_teach_61 : decode cX7_teach 61 = .ok (.ishl, 1) := by decide +kernel
theorem dX7_teach_62 : decode cX7_teach 62 = .ok (.ior, 1) := by decide +kernel
theorem dX7_teach_63 : decode cX7_teach 63 = .ok (.invokevirtual 150, 3) := by decide +kernel
theorem dX7_teach_66 : decode cX7_teach 66 = .ok (.aload_n 0, 1) := by decide +kernel
theorem dX7_teach_67 : decode cX7_teach 67 = .ok (.getfield 28, 3) := by decide +kernel
theorem dX7_teach_70 : decode cX7_teach 70 = .ok (.iload_n 1, 1) := by decide +kernel
theorem dX7_teach_71 : decode cX7_teach 71 = .ok (.invokevirtual 119, 3) := by decide +kernel
theorem dX7_teach_74 : decode cX7_teach 74 = .ok (.ireturn, 1) := by decide +kernel
theorem dX7_forget_0 : decode cX7_forget 0 = .ok (.aload_n 0, 1) := by decide +kernel
theorem dX7_forget_1 : decode cX7_forget 1 = .ok (.iload_n 1, 1) := by decide +kernel
theorem dX7_forget_2 : decode cX7_forget 2 = .ok (.invokevirtual 109, 3) := by decide +kernel
theorem dX7_forget_5 : decode cX7_forget 5 = .ok (.ifCond .eq 10, 3) := by decide +kernel
theorem dX7_forget_8 : decode cX7_forget 8 = .ok (.iload_n 2, 1) := by decide +kernel
theorem dX7_forget_9 : decode cX7_forget 9 = .ok (.invokestatic 143, 3) := by decide +kernel
theorem dX7_forget_12 : decode cX7_forget 12 = .ok (.ifCond .ne 5, 3) := by decide +kernel
theorem dX7_forget_15 : decode cX7_forget 15 = .ok (.iconst (-1), 1) := by decide +kernel
theorem dX7_forget_16 : decode cX7_forget 16 = .ok (.ireturn, 1) := by decide +kernel
theorem dX7_forget_17 : decode cX7_forget 17 = .ok (.aload_n 0, 1) := by decide +kernel
theorem dX7_forget_18 : decode cX7_forget 18 = .ok (.getfield 28, 3) := by decide +kernel
theorem dX7_forget_21 : decode cX7_forget 21 = .ok (.iload_n 1, 1) := by decide +kernel
theorem dX7_forget_22 : decode cX7_forget 22 = .ok (.invokevirtual 116, 3) := by decide +kernel
theorem dX7_forget_25 : decode cX7_forget 25 = .ok (.iload_n 2, 1) := by decide +kernel
theorem dX7_forget_26 : decode cX7_forget 26 = .ok (.invokestatic 146, 3) := by decide +kernel
theorem dX7_forget_29 : decode cX7_forget 29 = .ok (.ifCond .ne 6, 3) := by decide +kernel
theorem dX7_forget_32 : decode cX7_forget 32 = .ok (.bipush (-3), 2) := by decide +kernel
theorem dX7_forget_34 : decode cX7_forget 34 = .ok (.ireturn, 1) := by decide +kernel
theorem dX7_forget_35 : decode cX7_forget 35 = .ok (.aload_n 0, 1) := by decide +kernel
theorem dX7_forget_36 : decode cX7_forget 36 = .ok (.getfield 38, 3) := by decide +kernel
theorem dX7_forget_39 : decode cX7_forget 39 = .ok (.aload_n 0, 1) := by decide +kernel
theorem dX7_forget_40 : decode cX7_forget 40 = .ok (.getfield 28, 3) := by decide +kernel
theorem dX7_forget_43 : decode cX7_forget 43 = .ok (.invokevirtual 136, 3) := by decide +kernel
theorem dX7_forget_46 : decode cX7_forget 46 = .ok (.aload_n 0, 1) := by decide +kernel
theorem dX7_forget_47 : decode cX7_forget 47 = .ok (.getfield 28, 3) := by decide +kernel
theorem dX7_forget_50 : decode cX7_forget 50 = .ok (.iload_n 1, 1) := by decide +kernel
theorem dX7_forget_51 : decode cX7_forget 51 = .ok (.aload_n 0, 1) := by decide +kernel
theorem dX7_forget_52 : decode cX7_forget 52 = .ok (.getfield 28, 3) := by decide +kernel
theorem dX7_forget_55 : decode cX7_forget 55 = .ok (.iload_n 1, 1) := by decide +kernel
theorem dX7_forget_56 : decode cX7_forget 56 = .ok (.invokevirtual 116, 3) := by decide +kernel
theorem dX7_forget_59 : decode cX7_forget 59 = .ok (.iconst 1, 1) := by decide +kernel
theorem dX7_forget_60 : decode cX7_forget 60 = .ok (.iload_n 2, 1) := by decide +kernel
theorem dX7_forget_61 : decode cX7_forget 61 = .ok (.ishl, 1) := by decide +kernel
theorem dX7_forget_62 : decode cX7_forget 62 = .ok (.iconst (-1), 1) := by decide +kernel
theorem dX7_forget_63 : decode cX7_forget 63 = .ok (.ixor, 1) := by decide +kernel
theorem dX7_forget_64 : decode cX7_forget 64 = .ok (.iand, 1) := by decide +kernel
theorem dX7_forget_65 : decode cX7_forget 65 = .ok (.invokevirtual 150, 3) := by decide +kernel
theorem dX7_forget_68 : decode cX7_forget 68 = .ok (.aload_n 0, 1) := by decide +kernel
theorem dX7_forget_69 : decode cX7_forget 69 = .ok (.getfield 28, 3) := by decide +kernel
theorem dX7_forget_72 : decode cX7_forget 72 = .ok (.iload_n 1, 1) := by decide +kernel
theorem dX7_forget_73 : decode cX7_forget 73 = .ok (.invokevirtual 119, 3) := by decide +kernel
theorem dX7_forget_76 : decode cX7_forget 76 = .ok (.ireturn, 1) := by decide +kernel
theorem dX7_change_0 : decode cX7_change 0 = .ok (.aload_n 0, 1) := by decide +kernel
theorem dX7_change_1 : decode cX7_change 1 = .ok (.iload_n 1, 1) := by decide +kernel
theorem dX7_change_2 : decode cX7_change 2 = .ok (.invokevirtual 109, 3) := by decide +kernel
theorem dX7_change_5 : decode cX7_change 5 = .ok (.ifCond .eq 11, 3) := by decide +kernel
theorem dX7_change_8 : decode cX7_change 8 = .ok (.aload_n 0, 1) := by decide +kernel
theorem dX7_change_9 : decode cX7_change 9 = .ok (.iload_n 2, 1) := by decide +kernel
theorem dX7_change_10 : decode cX7_change 10 = .ok (.invokevirtual 109, 3) := by decide +kernel
theorem dX7_change_13 : decode cX7_change 13 = .ok (.ifCond .ne 5, 3) := by decide +kernel
theorem dX7_change_16 : decode cX7_change 16 = .ok (.iconst (-1), 1) := by decide +kernel
theorem dX7_change_17 : decode cX7_change 17 = .ok (.ireturn, 1) := by decide +kernel
theorem dX7_change_18 : decode cX7_change 18 = .ok (.iload_n 1, 1) := by decide +kernel
theorem dX7_change_19 : decode cX7_change 19 = .ok (.iload_n 2, 1) := by decide +kernel
theorem dX7_change_20 : decode cX7_change 20 = .ok (.if_icmp .ne 6, 3) := by decide +kernel
theorem dX7_change_23 : decode cX7_change 23 = .ok (.bipush (-2), 2) := by decide +kernel
theorem dX7_change_25 : decode cX7_change 25 = .ok (.ireturn, 1) := by decide +kernel
theorem dX7_change_26 : decode cX7_change 26 = .ok (.aload_n 0, 1) := by decide +kernel
theorem dX7_change_27 : decode cX7_change 27 = .ok (.getfield 38, 3) := by decide +kernel
theorem dX7_change_30 : decode cX7_change 30 = .ok (.aload_n 0, 1) := by decide +kernel
theorem dX7_change_31 : decode cX7_change 31 = .ok (.getfield 28, 3) := by decide +kernel
theorem dX7_change_34 : decode cX7_change 34 = .ok (.invokevirtual 136, 3) := by decide +kernel
theorem dX7_change_37 : decode cX7_change 37 = .ok (.aload_n 0, 1) := by decide +kernel
theorem dX7_change_38 : decode cX7_change 38 = .ok (.getfield 28, 3) := by decide +kernel
theorem dX7_change_41 : decode cX7_change 41 = .ok (.iload_n 1, 1) := by decide +kernel
theorem dX7_change_42 : decode cX7_change 42 = .ok (.invokevirtual 122, 3) := by decide +kernel
theorem dX7_change_45 : decode cX7_change 45 = .ok (.istore_n 3, 1) := by decide +kernel
theorem dX7_change_46 : decode cX7_change 46 = .ok (.aload_n 0, 1) := by decide +kernel
theorem dX7_change_47 : decode cX7_change 47 = .ok (.getfield 28, 3) := by decide +kernel
theorem dX7_change_50 : decode cX7_change 50 = .ok (.iload_n 1, 1) := by decide +kernel
theorem dX7_change_51 : decode cX7_change 51 = .ok (.aload_n 0, 1) := by decide +kernel
theorem dX7_change_52 : decode cX7_change 52 = .ok (.getfield 28, 3) := by decide +kernel
theorem dX7_change_55 : decode cX7_change 55 = .ok (.iload_n 2, 1) := by decide +kernel
theorem dX7_change_56 : decode cX7_change 56 = .ok (.invokevirtual 122, 3) := by decide +kernel
theorem dX7_change_59 : decode cX7_change 59 = .ok (.invokevirtual 154, 3) := by decide +kernel
theorem dX7_change_62 : decode cX7_change 62 = .ok (.aload_n 0, 1) := by decide +kernel
theorem dX7_change_63 : decode cX7_change 63 = .ok (.getfield 28, 3) := by decide +kernel
theorem dX7_change_66 : decode cX7_change 66 = .ok (.iload_n 2, 1) := by decide +kernel
theorem dX7_change_67 : decode cX7_change 67 = .ok (.iload_n 3, 1) := by decide +kernel
theorem dX7_change_68 : decode cX7_change 68 = .ok (.invokevirtual 154, 3) := by decide +kernel
theorem dX7_change_71 : decode cX7_change 71 = .ok (.aload_n 0, 1) := by decide +kernel
theorem dX7_change_72 : decode cX7_change 72 = .ok (.getfield 28, 3) := by decide +kernel
theorem dX7_change_75 : decode cX7_change 75 = .ok (.iload_n 1, 1) := by decide +kernel
theorem dX7_change_76 : decode cX7_change 76 = .ok (.invokevirtual 122, 3) := by decide +kernel
theorem dX7_change_79 : decode cX7_change 79 = .ok (.ireturn, 1) := by decide +kernel
theorem dX7_undo_0 : decode cX7_undo 0 = .ok (.aload_n 0, 1) := by decide +kernel
theorem dX7_undo_1 : decode cX7_undo 1 = .ok (.getfield 38, 3) := by decide +kernel
theorem dX7_undo_4 : decode cX7_undo 4 = .ok (.invokevirtual 105, 3) := by decide +kernel
theorem dX7_undo_7 : decode cX7_undo 7 = .ok (.ifCond .ne 6, 3) := by decide +kernel
theorem dX7_undo_10 : decode cX7_undo 10 = .ok (.bipush (-3), 2) := by decide +kernel
theorem dX7_undo_12 : decode cX7_undo 12 = .ok (.ireturn, 1) := by decide +kernel
theorem dX7_undo_13 : decode cX7_undo 13 = .ok (.aload_n 0, 1) := by decide +kernel
theorem dX7_undo_14 : decode cX7_undo 14 = .ok (.getfield 38, 3) := by decide +kernel
theorem dX7_undo_17 : decode cX7_undo 17 = .ok (.aload_n 0, 1) := by decide +kernel
theorem dX7_undo_18 : decode cX7_undo 18 = .ok (.getfield 28, 3) := by decide +kernel
theorem dX7_undo_21 : decode cX7_undo 21 = .ok (.invokevirtual 157, 3) := by decide +kernel
theorem dX7_undo_24 : decode cX7_undo 24 = .ok (.ireturn, 1) := by decide +kernel
theorem dX7_hearers_0 : decode cX7_hearers 0 = .ok (.aload_n 0, 1) := by decide +kernel
theorem dX7_hearers_1 : decode cX7_hearers 1 = .ok (.iload_n 1, 1) := by decide +kernel
theorem dX7_hearers_2 : decode cX7_hearers 2 = .ok (.iconst 0, 1) := by decide +kernel
theorem dX7_hearers_3 : decode cX7_hearers 3 = .ok (.iload_n 2, 1) := by decide +kernel
theorem dX7_hearers_4 : decode cX7_hearers 4 = .ok (.invokevirtual 132, 3) := by decide +kernel
theorem dX7_hearers_7 : decode cX7_hearers 7 = .ok (.istore_n 3, 1) := by decide +kernel
theorem dX7_hearers_8 : decode cX7_hearers 8 = .ok (.iload_n 3, 1) := by decide +kernel
theorem dX7_hearers_9 : decode cX7_hearers 9 = .ok (.ifCond .eq 7, 3) := by decide +kernel
theorem dX7_hearers_12 : decode cX7_hearers 12 = .ok (.iload_n 3, 1) := by decide +kernel
theorem dX7_hearers_13 : decode cX7_hearers 13 = .ok (.goto 12, 3) := by decide +kernel
theorem dX7_hearers_16 : decode cX7_hearers 16 = .ok (.aload_n 0, 1) := by decide +kernel
theorem dX7_hearers_17 : decode cX7_hearers 17 = .ok (.getfield 28, 3) := by decide +kernel
theorem dX7_hearers_20 : decode cX7_hearers 20 = .ok (.iload_n 1, 1) := by decide +kernel
theorem dX7_hearers_21 : decode cX7_hearers 21 = .ok (.iload_n 2, 1) := by decide +kernel
theorem dX7_hearers_22 : decode cX7_hearers 22 = .ok (.invokevirtual 161, 3) := by decide +kernel
theorem dX7_hearers_25 : decode cX7_hearers 25 = .ok (.ireturn, 1) := by decide +kernel
theorem dX7_safe_0 : decode cX7_safe 0 = .ok (.aload_n 0, 1) := by decide +kernel
theorem dX7_safe_1 : decode cX7_safe 1 = .ok (.iload_n 1, 1) := by decide +kernel
theorem dX7_safe_2 : decode cX7_safe 2 = .ok (.iconst 0, 1) := by decide +kernel
theorem dX7_safe_3 : decode cX7_safe 3 = .ok (.iload_n 2, 1) := by decide +kernel
theorem dX7_safe_4 : decode cX7_safe 4 = .ok (.invokevirtual 132, 3) := by decide +kernel
theorem dX7_safe_7 : decode cX7_safe 7 = .ok (.istore_n 3, 1) := by decide +kernel
theorem dX7_safe_8 : decode cX7_safe 8 = .ok (.iload_n 3, 1) := by decide +kernel
theorem dX7_safe_9 : decode cX7_safe 9 = .ok (.ifCond .eq 5, 3) := by decide +kernel
theorem dX7_safe_12 : decode cX7_safe 12 = .ok (.iload_n 3, 1) := by decide +kernel
theorem dX7_safe_13 : decode cX7_safe 13 = .ok (.ireturn, 1) := by decide +kernel
theorem dX7_safe_14 : decode cX7_safe 14 = .ok (.aload_n 0, 1) := by decide +kernel
theorem dX7_safe_15 : decode cX7_safe 15 = .ok (.getfield 28, 3) := by decide +kernel
theorem dX7_safe_18 : decode cX7_safe 18 = .ok (.iload_n 1, 1) := by decide +kernel
theorem dX7_safe_19 : decode cX7_safe 19 = .ok (.iload_n 2, 1) := by decide +kernel
theorem dX7_safe_20 : decode cX7_safe 20 = .ok (.invokevirtual 161, 3) := by decide +kernel
theorem dX7_safe_23 : decode cX7_safe 23 = .ok (.istore 4, 2) := by decide +kernel
theorem dX7_safe_25 : decode cX7_safe 25 = .ok (.iconst 0, 1) := by decide +kernel
theorem dX7_safe_26 : decode cX7_safe 26 = .ok (.istore 5, 2) := by decide +kernel
theorem dX7_safe_28 : decode cX7_safe 28 = .ok (.iconst 0, 1) := by decide +kernel
theorem dX7_safe_29 : decode cX7_safe 29 = .ok (.istore 6, 2) := by decide +kernel
theorem dX7_safe_31 : decode cX7_safe 31 = .ok (.iload 6, 2) := by decide +kernel
theorem dX7_safe_33 : decode cX7_safe 33 = .ok (.aload_n 0, 1) := by decide +kernel
theorem dX7_safe_34 : decode cX7_safe 34 = .ok (.getfield 19, 3) := by decide +kernel
theorem dX7_safe_37 : decode cX7_safe 37 = .ok (.invokevirtual 93, 3) := by decide +kernel
theorem dX7_safe_40 : decode cX7_safe 40 = .ok (.if_icmp .ge 33, 3) := by decide +kernel
theorem dX7_safe_43 : decode cX7_safe 43 = .ok (.iload 4, 2) := by decide +kernel
theorem dX7_safe_45 : decode cX7_safe 45 = .ok (.iload 6, 2) := by decide +kernel
theorem dX7_safe_47 : decode cX7_safe 47 = .ok (.invokestatic 146, 3) := by decide +kernel
theorem dX7_safe_50 : decode cX7_safe 50 = .ok (.ifCond .eq 17, 3) := by decide +kernel
theorem dX7_safe_53 : decode cX7_safe 53 = .ok (.iload 5, 2) := by decide +kernel
theorem dX7_safe_55 : decode cX7_safe 55 = .ok (.aload_n 0, 1) := by decide +kernel
theorem dX7_safe_56 : decode cX7_safe 56 = .ok (.getfield 28, 3) := by decide +kernel
theorem dX7_safe_59 : decode cX7_safe 59 = .ok (.iload 6, 2) := by decide +kernel
theorem dX7_safe_61 : decode cX7_safe 61 = .ok (.invokevirtual 119, 3) := by decide +kernel
theorem dX7_safe_64 : decode cX7_safe 64 = .ok (.ior, 1) := by decide +kernel
theorem dX7_safe_65 : decode cX7_safe 65 = .ok (.istore 5, 2) := by decide +kernel
theorem dX7_safe_67 : decode cX7_safe 67 = .ok (.iinc 6 1, 3) := by decide +kernel
theorem dX7_safe_70 : decode cX7_safe 70 = .ok (.goto (-39), 3) := by decide +kernel
theorem dX7_safe_73 : decode cX7_safe 73 = .ok (.bipush 63, 2) := by decide +kernel
theorem dX7_safe_75 : decode cX7_safe 75 = .ok (.iload 5, 2) := by decide +kernel
theorem dX7_safe_77 : decode cX7_safe 77 = .ok (.iconst (-1), 1) := by decide +kernel
theorem dX7_safe_78 : decode cX7_safe 78 = .ok (.ixor, 1) := by decide +kernel
theorem dX7_safe_79 : decode cX7_safe 79 = .ok (.iand, 1) := by decide +kernel
theorem dX7_safe_80 : decode cX7_safe 80 = .ok (.ireturn, 1) := by decide +kernel
theorem dX7_seating_0 : decode cX7_seating 0 = .ok (.aload_n 0, 1) := by decide +kernel
theorem dX7_seating_1 : decode cX7_seating 1 = .ok (.iload_n 1, 1) := by decide +kernel
theorem dX7_seating_2 : decode cX7_seating 2 = .ok (.iload_n 2, 1) := by decide +kernel
theorem dX7_seating_3 : decode cX7_seating 3 = .ok (.iload_n 3, 1) := by decide +kernel
theorem dX7_seating_4 : decode cX7_seating 4 = .ok (.invokevirtual 132, 3) := by decide +kernel
theorem dX7_seating_7 : decode cX7_seating 7 = .ok (.istore 6, 2) := by decide +kernel
theorem dX7_seating_9 : decode cX7_seating 9 = .ok (.iload 6, 2) := by decide +kernel
theorem dX7_seating_11 : decode cX7_seating 11 = .ok (.ifCond .eq 6, 3) := by decide +kernel
theorem dX7_seating_14 : decode cX7_seating 14 = .ok (.iload 6, 2) := by decide +kernel
theorem dX7_seating_16 : decode cX7_seating 16 = .ok (.ireturn, 1) := by decide +kernel
theorem dX7_seating_17 : decode cX7_seating 17 = .ok (.aload_n 0, 1) := by decide +kernel
theorem dX7_seating_18 : decode cX7_seating 18 = .ok (.getfield 32, 3) := by decide +kernel
theorem dX7_seating_21 : decode cX7_seating 21 = .ok (.aload_n 0, 1) := by decide +kernel
theorem dX7_seating_22 : decode cX7_seating 22 = .ok (.getfield 28, 3) := by decide +kernel
theorem dX7_seating_25 : decode cX7_seating 25 = .ok (.invokevirtual 164, 3) := by decide +kernel
theorem dX7_seating_28 : decode cX7_seating 28 = .ok (.aload_n 0, 1) := by decide +kernel
theorem dX7_seating_29 : decode cX7_seating 29 = .ok (.getfield 28, 3) := by decide +kernel
theorem dX7_seating_32 : decode cX7_seating 32 = .ok (.iload_n 2, 1) := by decide +kernel
theorem dX7_seating_33 : decode cX7_seating 33 = .ok (.invokevirtual 167, 3) := by decide +kernel
theorem dX7_seating_36 : decode cX7_seating 36 = .ok (.istore 7, 2) := by decide +kernel
theorem dX7_seating_38 : decode cX7_seating 38 = .ok (.aload_n 0, 1) := by decide +kernel
theorem dX7_seating_39 : decode cX7_seating 39 = .ok (.getfield 19, 3) := by decide +kernel
theorem dX7_seating_42 : decode cX7_seating 42 = .ok (.invokevirtual 93, 3) := by decide +kernel
theorem dX7_seating_45 : decode cX7_seating 45 = .ok (.iconst 1, 1) := by decide +kernel
theorem dX7_seating_46 : decode cX7_seating 46 = .ok (.isub, 1) := by decide +kernel
theorem dX7_seating_47 : decode cX7_seating 47 = .ok (.invokestatic 170, 3) := by decide +kernel
theorem dX7_seating_50 : decode cX7_seating 50 = .ok (.istore 8, 2) := by decide +kernel
theorem dX7_seating_52 : decode cX7_seating 52 = .ok (.bipush (-9), 2) := by decide +kernel
theorem dX7_seating_54 : decode cX7_seating 54 = .ok (.istore 9, 2) := by decide +kernel
theorem dX7_seating_56 : decode cX7_seating 56 = .ok (.bipush (-9), 2) := by decide +kernel
theorem dX7_seating_58 : decode cX7_seating 58 = .ok (.istore 10, 2) := by decide +kernel
theorem dX7_seating_60 : decode cX7_seating 60 = .ok (.iconst 0, 1) := by decide +kernel
theorem dX7_seating_61 : decode cX7_seating 61 = .ok (.istore 11, 2) := by decide +kernel
theorem dX7_seating_63 : decode cX7_seating 63 = .ok (.iload 11, 2) := by decide +kernel
theorem dX7_seating_65 : decode cX7_seating 65 = .ok (.iload 8, 2) := by decide +kernel
theorem dX7_seating_67 : decode cX7_seating 67 = .ok (.if_icmp .ge 77, 3) := by decide +kernel
theorem dX7_seating_70 : decode cX7_seating 70 = .ok (.aload_n 0, 1) := by decide +kernel
theorem dX7_seating_71 : decode cX7_seating 71 = .ok (.getfield 32, 3) := by decide +kernel
theorem dX7_seating_74 : decode cX7_seating 74 = .ok (.iload 11, 2) := by decide +kernel
theorem dX7_seating_76 : decode cX7_seating 76 = .ok (.invokevirtual 173, 3) := by decide +kernel
theorem dX7_seating_79 : decode cX7_seating 79 = .ok (.aload_n 0, 1) := by decide +kernel
theorem dX7_seating_80 : decode cX7_seating 80 = .ok (.getfield 32, 3) := by decide +kernel
theorem dX7_seating_83 : decode cX7_seating 83 = .ok (.iload_n 1, 1) := by decide +kernel
theorem dX7_seating_84 : decode cX7_seating 84 = .ok (.iload_n 3, 1) := by decide +kernel
theorem dX7_seating_85 : decode cX7_seating 85 = .ok (.invokevirtual 161, 3) := by decide +kernel
theorem dX7_seating_88 : decode cX7_seating 88 = .ok (.iload 7, 2) := by decide +kernel
theorem dX7_seating_90 : decode cX7_seating 90 = .ok (.iand, 1) := by decide +kernel
theorem dX7_seating_91 : decode cX7_seating 91 = .ok (.invokestatic 176, 3) := by decide +kernel
theorem dX7_seating_94 : decode cX7_seating 94 = .ok (.istore 12, 2) := by decide +kernel
theorem dX7_seating_96 : decode cX7_seating 96 = .ok (.iload 9, 2) := by decide +kernel
theorem dX7_seating_98 : decode cX7_seating 98 = .ok (.bipush (-9), 2) := by decide +kernel
theorem dX7_seating_100 : decode cX7_seating 100 = .ok (.if_icmp .eq 25, 3) := by decide +kernel
theorem dX7_seating_103 : decode cX7_seating 103 = .ok (.iload 4, 2) := by decide +kernel
theorem dX7_seating_105 : decode cX7_seating 105 = .ok (.ifCond .eq 13, 3) := by decide +kernel
theorem dX7_seating_108 : decode cX7_seating 108 = .ok (.iload 12, 2) := by decide +kernel
theorem dX7_seating_110 : decode cX7_seating 110 = .ok (.iload 9, 2) := by decide +kernel
theorem dX7_seating_112 : decode cX7_seating 112 = .ok (.if_icmp .le 26, 3) := by decide +kernel
theorem dX7_seating_115 : decode cX7_seating 115 = .ok (.goto 10, 3) := by decide +kernel
theorem dX7_seating_118 : decode cX7_seating 118 = .ok (.iload 12, 2) := by decide +kernel
theorem dX7_seating_120 : decode cX7_seating 120 = .ok (.iload 9, 2) := by decide +kernel
theorem dX7_seating_122 : decode cX7_seating 122 = .ok (.if_icmp .ge 16, 3) := by decide +kernel
theorem dX7_seating_125 : decode cX7_seating 125 = .ok (.iload 12, 2) := by decide +kernel
theorem dX7_seating_127 : decode cX7_seating 127 = .ok (.istore 9, 2) := by decide +kernel
theorem dX7_seating_129 : decode cX7_seating 129 = .ok (.aload_n 0, 1) := by decide +kernel
theorem dX7_seating_130 : decode cX7_seating 130 = .ok (.getfield 32, 3) := by decide +kernel
theorem dX7_seating_133 : decode cX7_seating 133 = .ok (.invokevirtual 181, 3) := by decide +kernel
theorem dX7_seating_136 : decode cX7_seating 136 = .ok (.istore 10, 2) := by decide +kernel
theorem dX7_seating_138 : decode cX7_seating 138 = .ok (.iinc 11 1, 3) := by decide +kernel
theorem dX7_seating_141 : decode cX7_seating 141 = .ok (.goto (-78), 3) := by decide +kernel
theorem dX7_seating_144 : decode cX7_seating 144 = .ok (.iload 5, 2) := by decide +kernel
theorem dX7_seating_146 : decode cX7_seating 146 = .ok (.ifCond .eq 8, 3) := by decide +kernel
theorem dX7_seating_149 : decode cX7_seating 149 = .ok (.iload 10, 2) := by decide +kernel
theorem dX7_seating_151 : decode cX7_seating 151 = .ok (.goto 5, 3) := by decide +kernel
theorem dX7_seating_154 : decode cX7_seating 154 = .ok (.iload 9, 2) := by decide +kernel
theorem dX7_seating_156 : decode cX7_seating 156 = .ok (.ireturn, 1) := by decide +kernel
theorem dX7_keepFrom_0 : decode cX7_keepFrom 0 = .ok (.aload_n 0, 1) := by decide +kernel
theorem dX7_keepFrom_1 : decode cX7_keepFrom 1 = .ok (.iload_n 1, 1) := by decide +kernel
theorem dX7_keepFrom_2 : decode cX7_keepFrom 2 = .ok (.invokevirtual 109, 3) := by decide +kernel
theorem dX7_keepFrom_5 : decode cX7_keepFrom 5 = .ok (.ifCond .eq 10, 3) := by decide +kernel
theorem dX7_keepFrom_8 : decode cX7_keepFrom 8 = .ok (.iload_n 2, 1) := by decide +kernel
theorem dX7_keepFrom_9 : decode cX7_keepFrom 9 = .ok (.invokestatic 143, 3) := by decide +kernel
theorem dX7_keepFrom_12 : decode cX7_keepFrom 12 = .ok (.ifCond .ne 5, 3) := by decide +kernel
theorem dX7_keepFrom_15 : decode cX7_keepFrom 15 = .ok (.iconst (-1), 1) := by decide +kernel
theorem dX7_keepFrom_16 : decode cX7_keepFrom 16 = .ok (.ireturn, 1) := by decide +kernel
theorem dX7_keepFrom_17 : decode cX7_keepFrom 17 = .ok (.aload_n 0, 1) := by decide +kernel
theorem dX7_keepFrom_18 : decode cX7_keepFrom 18 = .ok (.getfield 28, 3) := by decide +kernel
theorem dX7_keepFrom_21 : decode cX7_keepFrom 21 = .ok (.iload_n 1, 1) := by decide +kernel
theorem dX7_keepFrom_22 : decode cX7_keepFrom 22 = .ok (.invokevirtual 116, 3) := by decide +kernel
theorem dX7_keepFrom_25 : decode cX7_keepFrom 25 = .ok (.istore_n 3, 1) := by decide +kernel
theorem dX7_keepFrom_26 : decode cX7_keepFrom 26 = .ok (.bipush (-9), 2) := by decide +kernel
theorem dX7_keepFrom_28 : decode cX7_keepFrom 28 = .ok (.istore 4, 2) := by decide +kernel
theorem dX7_keepFrom_30 : decode cX7_keepFrom 30 = .ok (.iconst 0, 1) := by decide +kernel
theorem dX7_keepFrom_31 : decode cX7_keepFrom 31 = .ok (.istore 5, 2) := by decide +kernel
theorem dX7_keepFrom_33 : decode cX7_keepFrom 33 = .ok (.iload 5, 2) := by decide +kernel
theorem dX7_keepFrom_35 : decode cX7_keepFrom 35 = .ok (.bipush 63, 2) := by decide +kernel
theorem dX7_keepFrom_37 : decode cX7_keepFrom 37 = .ok (.if_icmp .gt 64, 3) := by decide +kernel
theorem dX7_keepFrom_40 : decode cX7_keepFrom 40 = .ok (.iload 5, 2) := by decide +kernel
theorem dX7_keepFrom_42 : decode cX7_keepFrom 42 = .ok (.iload_n 3, 1) := by decide +kernel
theorem dX7_keepFrom_43 : decode cX7_keepFrom 43 = .ok (.iconst (-1), 1) := by decide +kernel
theorem dX7_keepFrom_44 : decode cX7_keepFrom 44 = .ok (.ixor, 1) := by decide +kernel
theorem dX7_keepFrom_45 : decode cX7_keepFrom 45 = .ok (.iand, 1) := by decide +kernel
theorem dX7_keepFrom_46 : decode cX7_keepFrom 46 = .ok (.ifCond .ne 27, 3) := by decide +kernel
theorem dX7_keepFrom_49 : decode cX7_keepFrom 49 = .ok (.aload_n 0, 1) := by decide +kernel
theorem dX7_keepFrom_50 : decode cX7_keepFrom 50 = .ok (.getfield 19, 3) := by decide +kernel
theorem dX7_keepFrom_53 : decode cX7_keepFrom 53 = .ok (.iload_n 3, 1) := by decide +kernel
theorem dX7_keepFrom_54 : decode cX7_keepFrom 54 = .ok (.iload 5, 2) := by decide +kernel
theorem dX7_keepFrom_56 : decode cX7_keepFrom 56 = .ok (.iconst (-1), 1) := by decide +kernel
theorem dX7_keepFrom_57 : decode cX7_keepFrom 57 = .ok (.ixor, 1) := by decide +kernel
theorem dX7_keepFrom_58 : decode cX7_keepFrom 58 = .ok (.iand, 1) := by decide +kernel
theorem dX7_keepFrom_59 : decode cX7_keepFrom 59 = .ok (.invokevirtual 184, 3) := by decide +kernel
theorem dX7_keepFrom_62 : decode cX7_keepFrom 62 = .ok (.iload_n 2, 1) := by decide +kernel
theorem dX7_keepFrom_63 : decode cX7_keepFrom 63 = .ok (.invokestatic 146, 3) := by decide +kernel
theorem dX7_keepFrom_66 : decode cX7_keepFrom 66 = .ok (.ifCond .ne 7, 3) := by decide +kernel
theorem dX7_keepFrom_69 : decode cX7_keepFrom 69 = .ok (.iconst 1, 1) := by decide +kernel
theorem dX7_keepFrom_70 : decode cX7_keepFrom 70 = .ok (.goto 4, 3) := by decide +kernel
theorem dX7_keepFrom_73 : decode cX7_keepFrom 73 = .ok (.iconst 0, 1) := by decide +kernel
theorem dX7_keepFrom_74 : decode cX7_keepFrom 74 = .ok (.istore 6, 2) := by decide +kernel
theorem dX7_keepFrom_76 : decode cX7_keepFrom 76 = .ok (.iload 6, 2) := by decide +kernel
theorem dX7_keepFrom_78 : decode cX7_keepFrom 78 = .ok (.ifCond .eq 17, 3) := by decide +kernel
theorem dX7_keepFrom_81 : decode cX7_keepFrom 81 = .ok (.iload 5, 2) := by decide +kernel
theorem dX7_keepFrom_83 : decode cX7_keepFrom 83 = .ok (.iload 4, 2) := by decide +kernel
theorem dX7_keepFrom_85 : decode cX7_keepFrom 85 = .ok (.invokestatic 187, 3) := by decide +kernel
theorem dX7_keepFrom_88 : decode cX7_keepFrom 88 = .ok (.ifCond .eq 7, 3) := by decide +kernel
theorem dX7_keepFrom_91 : decode cX7_keepFrom 91 = .ok (.iload 5, 2) := by decide +kernel
theorem dX7_keepFrom_93 : decode cX7_keepFrom 93 = .ok (.istore 4, 2) := by decide +kernel
theorem dX7_keepFrom_95 : decode cX7_keepFrom 95 = .ok (.iinc 5 1, 3) := by decide +kernel
theorem dX7_keepFrom_98 : decode cX7_keepFrom 98 = .ok (.goto (-65), 3) := by decide +kernel
theorem dX7_keepFrom_101 : decode cX7_keepFrom 101 = .ok (.iload 4, 2) := by decide +kernel
theorem dX7_keepFrom_103 : decode cX7_keepFrom 103 = .ok (.ireturn, 1) := by decide +kernel
theorem dX7_learn_0 : decode cX7_learn 0 = .ok (.aload_n 0, 1) := by decide +kernel
theorem dX7_learn_1 : decode cX7_learn 1 = .ok (.iload_n 1, 1) := by decide +kernel
theorem dX7_learn_2 : decode cX7_learn 2 = .ok (.invokevirtual 109, 3) := by decide +kernel
theorem dX7_learn_5 : decode cX7_learn 5 = .ok (.ifCond .eq 10, 3) := by decide +kernel
theorem dX7_learn_8 : decode cX7_learn 8 = .ok (.iload_n 2, 1) := by decide +kernel
theorem dX7_learn_9 : decode cX7_learn 9 = .ok (.invokestatic 143, 3) := by decide +kernel
theorem dX7_learn_12 : decode cX7_learn 12 = .ok (.ifCond .ne 5, 3) := by decide +kernel
theorem dX7_learn_15 : decode cX7_learn 15 = .ok (.iconst (-1), 1) := by decide +kernel
theorem dX7_learn_16 : decode cX7_learn 16 = .ok (.ireturn, 1) := by decide +kernel
theorem dX7_learn_17 : decode cX7_learn 17 = .ok (.aload_n 0, 1) := by decide +kernel
theorem dX7_learn_18 : decode cX7_learn 18 = .ok (.getfield 28, 3) := by decide +kernel
theorem dX7_learn_21 : decode cX7_learn 21 = .ok (.iload_n 1, 1) := by decide +kernel
theorem dX7_learn_22 : decode cX7_learn 22 = .ok (.invokevirtual 116, 3) := by decide +kernel
theorem dX7_learn_25 : decode cX7_learn 25 = .ok (.istore_n 3, 1) := by decide +kernel
theorem dX7_learn_26 : decode cX7_learn 26 = .ok (.bipush (-9), 2) := by decide +kernel
theorem dX7_learn_28 : decode cX7_learn 28 = .ok (.istore 4, 2) := by decide +kernel
theorem dX7_learn_30 : decode cX7_learn 30 = .ok (.iconst 0, 1) := by decide +kernel
theorem dX7_learn_31 : decode cX7_learn 31 = .ok (.istore 5, 2) := by decide +kernel
theorem dX7_learn_33 : decode cX7_learn 33 = .ok (.iload 5, 2) := by decide +kernel
theorem dX7_learn_35 : decode cX7_learn 35 = .ok (.bipush 63, 2) := by decide +kernel
theorem dX7_learn_37 : decode cX7_learn 37 = .ok (.if_icmp .gt 62, 3) := by decide +kernel
theorem dX7_learn_40 : decode cX7_learn 40 = .ok (.iload 5, 2) := by decide +kernel
theorem dX7_learn_42 : decode cX7_learn 42 = .ok (.iload_n 2, 1) := by decide +kernel
theorem dX7_learn_43 : decode cX7_learn 43 = .ok (.invokestatic 146, 3) := by decide +kernel
theorem dX7_learn_46 : decode cX7_learn 46 = .ok (.ifCond .ne 25, 3) := by decide +kernel
theorem dX7_learn_49 : decode cX7_learn 49 = .ok (.aload_n 0, 1) := by decide +kernel
theorem dX7_learn_50 : decode cX7_learn 50 = .ok (.getfield 19, 3) := by decide +kernel
theorem dX7_learn_53 : decode cX7_learn 53 = .ok (.iload_n 3, 1) := by decide +kernel
theorem dX7_learn_54 : decode cX7_learn 54 = .ok (.iload 5, 2) := by decide +kernel
theorem dX7_learn_56 : decode cX7_learn 56 = .ok (.ior, 1) := by decide +kernel
theorem dX7_learn_57 : decode cX7_learn 57 = .ok (.invokevirtual 184, 3) := by decide +kernel
theorem dX7_learn_60 : decode cX7_learn 60 = .ok (.iload_n 2, 1) := by decide +kernel
theorem dX7_learn_61 : decode cX7_learn 61 = .ok (.invokestatic 146, 3) := by decide +kernel
theorem dX7_learn_64 : decode cX7_learn 64 = .ok (.ifCond .eq 7, 3) := by decide +kernel
theorem dX7_learn_67 : decode cX7_learn 67 = .ok (.iconst 1, 1) := by decide +kernel
theorem dX7_learn_68 : decode cX7_learn 68 = .ok (.goto 4, 3) := by decide +kernel
theorem dX7_learn_71 : decode cX7_learn 71 = .ok (.iconst 0, 1) := by decide +kernel
theorem dX7_learn_72 : decode cX7_learn 72 = .ok (.istore 6, 2) := by decide +kernel
theorem dX7_learn_74 : decode cX7_learn 74 = .ok (.iload 6, 2) := by decide +kernel
theorem dX7_learn_76 : decode cX7_learn 76 = .ok (.ifCond .eq 17, 3) := by decide +kernel
theorem dX7_learn_79 : decode cX7_learn 79 = .ok (.iload 5, 2) := by decide +kernel
theorem dX7_learn_81 : decode cX7_learn 81 = .ok (.iload 4, 2) := by decide +kernel
theorem dX7_learn_83 : decode cX7_learn 83 = .ok (.invokestatic 187, 3) := by decide +kernel
theorem dX7_learn_86 : decode cX7_learn 86 = .ok (.ifCond .eq 7, 3) := by decide +kernel
theorem dX7_learn_89 : decode cX7_learn 89 = .ok (.iload 5, 2) := by decide +kernel
theorem dX7_learn_91 : decode cX7_learn 91 = .ok (.istore 4, 2) := by decide +kernel
theorem dX7_learn_93 : decode cX7_learn 93 = .ok (.iinc 5 1, 3) := by decide +kernel
theorem dX7_learn_96 : decode cX7_learn 96 = .ok (.goto (-63), 3) := by decide +kernel
theorem dX7_learn_99 : decode cX7_learn 99 = .ok (.iload 4, 2) := by decide +kernel
theorem dX7_learn_101 : decode cX7_learn 101 = .ok (.ireturn, 1) := by decide +kernel
theorem dX7_judge_0 : decode cX7_judge 0 = .ok (.iload_n 1, 1) := by decide +kernel
theorem dX7_judge_1 : decode cX7_judge 1 = .ok (.iconst 1, 1) := by decide +kernel
theorem dX7_judge_2 : decode cX7_judge 2 = .ok (.if_icmp .lt 20, 3) := by decide +kernel
theorem dX7_judge_5 : decode cX7_judge 5 = .ok (.iload_n 1, 1) := by decide +kernel
theorem dX7_judge_6 : decode cX7_judge 6 = .ok (.iconst 3, 1) := by decide +kernel
theorem dX7_judge_7 : decode cX7_judge 7 = .ok (.if_icmp .gt 15, 3) := by decide +kernel
theorem dX7_judge_10 : decode cX7_judge 10 = .ok (.iload_n 2, 1) := by decide +kernel
theorem dX7_judge_11 : decode cX7_judge 11 = .ok (.ifCond .lt 11, 3) := by decide +kernel
theorem dX7_judge_14 : decode cX7_judge 14 = .ok (.iload_n 2, 1) := by decide +kernel
theorem dX7_judge_15 : decode cX7_judge 15 = .ok (.iload_n 1, 1) := by decide +kernel
theorem dX7_judge_16 : decode cX7_judge 16 = .ok (.invokestatic 190, 3) := by decide +kernel
theorem dX7_judge_19 : decode cX7_judge 19 = .ok (.if_icmp .lt 6, 3) := by decide +kernel
theorem dX7_judge_22 : decode cX7_judge 22 = .ok (.bipush (-2), 2) := by decide +kernel
theorem dX7_judge_24 : decode cX7_judge 24 = .ok (.ireturn, 1) := by decide +kernel
theorem dX7_judge_25 : decode cX7_judge 25 = .ok (.aload_n 0, 1) := by decide +kernel
theorem dX7_judge_26 : decode cX7_judge 26 = .ok (.getfield 32, 3) := by decide +kernel
theorem dX7_judge_29 : decode cX7_judge 29 = .ok (.aload_n 0, 1) := by decide +kernel
theorem dX7_judge_30 : decode cX7_judge 30 = .ok (.getfield 28, 3) := by decide +kernel
theorem dX7_judge_33 : decode cX7_judge 33 = .ok (.invokevirtual 164, 3) := by decide +kernel
theorem dX7_judge_36 : decode cX7_judge 36 = .ok (.iconst 0, 1) := by decide +kernel
theorem dX7_judge_37 : decode cX7_judge 37 = .ok (.istore_n 3, 1) := by decide +kernel
theorem dX7_judge_38 : decode cX7_judge 38 = .ok (.iload_n 3, 1) := by decide +kernel
theorem dX7_judge_39 : decode cX7_judge 39 = .ok (.iload_n 1, 1) := by decide +kernel
theorem dX7_judge_40 : decode cX7_judge 40 = .ok (.if_icmp .ge 64, 3) := by decide +kernel
theorem dX7_judge_43 : decode cX7_judge 43 = .ok (.iload_n 1, 1) := by decide +kernel
theorem dX7_judge_44 : decode cX7_judge 44 = .ok (.iconst 1, 1) := by decide +kernel
theorem dX7_judge_45 : decode cX7_judge 45 = .ok (.isub, 1) := by decide +kernel
theorem dX7_judge_46 : decode cX7_judge 46 = .ok (.iload_n 3, 1) := by decide +kernel
theorem dX7_judge_47 : decode cX7_judge 47 = .ok (.isub, 1) := by decide +kernel
theorem dX7_judge_48 : decode cX7_judge 48 = .ok (.invokestatic 190, 3) := by decide +kernel
theorem dX7_judge_51 : decode cX7_judge 51 = .ok (.iconst 1, 1) := by decide +kernel
theorem dX7_judge_52 : decode cX7_judge 52 = .ok (.invokestatic 193, 3) := by decide +kernel
theorem dX7_judge_55 : decode cX7_judge 55 = .ok (.istore 4, 2) := by decide +kernel
theorem dX7_judge_57 : decode cX7_judge 57 = .ok (.iload_n 2, 1) := by decide +kernel
theorem dX7_judge_58 : decode cX7_judge 58 = .ok (.iload 4, 2) := by decide +kernel
theorem dX7_judge_60 : decode cX7_judge 60 = .ok (.idiv, 1) := by decide +kernel
theorem dX7_judge_61 : decode cX7_judge 61 = .ok (.sipush 1000, 3) := by decide +kernel
theorem dX7_judge_64 : decode cX7_judge 64 = .ok (.irem, 1) := by decide +kernel
theorem dX7_judge_65 : decode cX7_judge 65 = .ok (.istore 5, 2) := by decide +kernel
theorem dX7_judge_67 : decode cX7_judge 67 = .ok (.aload_n 0, 1) := by decide +kernel
theorem dX7_judge_68 : decode cX7_judge 68 = .ok (.iload 5, 2) := by decide +kernel
theorem dX7_judge_70 : decode cX7_judge 70 = .ok (.bipush 100, 2) := by decide +kernel
theorem dX7_judge_72 : decode cX7_judge 72 = .ok (.idiv, 1) := by decide +kernel
theorem dX7_judge_73 : decode cX7_judge 73 = .ok (.iconst 1, 1) := by decide +kernel
theorem dX7_judge_74 : decode cX7_judge 74 = .ok (.isub, 1) := by decide +kernel
theorem dX7_judge_75 : decode cX7_judge 75 = .ok (.iload 5, 2) := by decide +kernel
theorem dX7_judge_77 : decode cX7_judge 77 = .ok (.bipush 10, 2) := by decide +kernel
theorem dX7_judge_79 : decode cX7_judge 79 = .ok (.idiv, 1) := by decide +kernel
theorem dX7_judge_80 : decode cX7_judge 80 = .ok (.bipush 10, 2) := by decide +kernel
theorem dX7_judge_82 : decode cX7_judge 82 = .ok (.irem, 1) := by decide +kernel
theorem dX7_judge_83 : decode cX7_judge 83 = .ok (.iconst 1, 1) := by decide +kernel
theorem dX7_judge_84 : decode cX7_judge 84 = .ok (.isub, 1) := by decide +kernel
theorem dX7_judge_85 : decode cX7_judge 85 = .ok (.iload 5, 2) := by decide +kernel
theorem dX7_judge_87 : decode cX7_judge 87 = .ok (.bipush 10, 2) := by decide +kernel
theorem dX7_judge_89 : decode cX7_judge 89 = .ok (.irem, 1) := by decide +kernel
theorem dX7_judge_90 : decode cX7_judge 90 = .ok (.invokevirtual 198, 3) := by decide +kernel
theorem dX7_judge_93 : decode cX7_judge 93 = .ok (.ifCond .ne 5, 3) := by decide +kernel
theorem dX7_judge_96 : decode cX7_judge 96 = .ok (.iload_n 3, 1) := by decide +kernel
theorem dX7_judge_97 : decode cX7_judge 97 = .ok (.ireturn, 1) := by decide +kernel
theorem dX7_judge_98 : decode cX7_judge 98 = .ok (.iinc 3 1, 3) := by decide +kernel
theorem dX7_judge_101 : decode cX7_judge 101 = .ok (.goto (-63), 3) := by decide +kernel
theorem dX7_judge_104 : decode cX7_judge 104 = .ok (.bipush (-9), 2) := by decide +kernel
theorem dX7_judge_106 : decode cX7_judge 106 = .ok (.ireturn, 1) := by decide +kernel
theorem dX7_share_0 : decode cX7_share 0 = .ok (.aload_n 0, 1) := by decide +kernel
theorem dX7_share_1 : decode cX7_share 1 = .ok (.iload_n 1, 1) := by decide +kernel
theorem dX7_share_2 : decode cX7_share 2 = .ok (.invokevirtual 109, 3) := by decide +kernel
theorem dX7_share_5 : decode cX7_share 5 = .ok (.ifCond .ne 5, 3) := by decide +kernel
theorem dX7_share_8 : decode cX7_share 8 = .ok (.iconst (-1), 1) := by decide +kernel
theorem dX7_share_9 : decode cX7_share 9 = .ok (.ireturn, 1) := by decide +kernel
theorem dX7_share_10 : decode cX7_share 10 = .ok (.aload_n 0, 1) := by decide +kernel
theorem dX7_share_11 : decode cX7_share 11 = .ok (.getfield 19, 3) := by decide +kernel
theorem dX7_share_14 : decode cX7_share 14 = .ok (.invokevirtual 93, 3) := by decide +kernel
theorem dX7_share_17 : decode cX7_share 17 = .ok (.istore_n 3, 1) := by decide +kernel
theorem dX7_share_18 : decode cX7_share 18 = .ok (.iconst 0, 1) := by decide +kernel
theorem dX7_share_19 : decode cX7_share 19 = .ok (.istore 4, 2) := by decide +kernel
theorem dX7_share_21 : decode cX7_share 21 = .ok (.iconst 0, 1) := by decide +kernel
theorem dX7_share_22 : decode cX7_share 22 = .ok (.istore 5, 2) := by decide +kernel
theorem dX7_share_24 : decode cX7_share 24 = .ok (.iload 5, 2) := by decide +kernel
theorem dX7_share_26 : decode cX7_share 26 = .ok (.iconst 1, 1) := by decide +kernel
theorem dX7_share_27 : decode cX7_share 27 = .ok (.iload_n 3, 1) := by decide +kernel
theorem dX7_share_28 : decode cX7_share 28 = .ok (.ishl, 1) := by decide +kernel
theorem dX7_share_29 : decode cX7_share 29 = .ok (.if_icmp .ge 67, 3) := by decide +kernel
theorem dX7_share_32 : decode cX7_share 32 = .ok (.iload 5, 2) := by decide +kernel
theorem dX7_share_34 : decode cX7_share 34 = .ok (.iload_n 1, 1) := by decide +kernel
theorem dX7_share_35 : decode cX7_share 35 = .ok (.invokestatic 146, 3) := by decide +kernel
theorem dX7_share_38 : decode cX7_share 38 = .ok (.ifCond .ne 52, 3) := by decide +kernel
theorem dX7_share_41 : decode cX7_share 41 = .ok (.iload 5, 2) := by decide +kernel
theorem dX7_share_43 : decode cX7_share 43 = .ok (.invokestatic 176, 3) := by decide +kernel
theorem dX7_share_46 : decode cX7_share 46 = .ok (.istore 6, 2) := by decide +kernel
theorem dX7_share_48 : decode cX7_share 48 = .ok (.iload 6, 2) := by decide +kernel
theorem dX7_share_50 : decode cX7_share 50 = .ok (.invokestatic 170, 3) := by decide +kernel
theorem dX7_share_53 : decode cX7_share 53 = .ok (.iload_n 3, 1) := by decide +kernel
theorem dX7_share_54 : decode cX7_share 54 = .ok (.iconst 1, 1) := by decide +kernel
theorem dX7_share_55 : decode cX7_share 55 = .ok (.isub, 1) := by decide +kernel
theorem dX7_share_56 : decode cX7_share 56 = .ok (.iload 6, 2) := by decide +kernel
theorem dX7_share_58 : decode cX7_share 58 = .ok (.isub, 1) := by decide +kernel
theorem dX7_share_59 : decode cX7_share 59 = .ok (.invokestatic 170, 3) := by decide +kernel
theorem dX7_share_62 : decode cX7_share 62 = .ok (.imul, 1) := by decide +kernel
theorem dX7_share_63 : decode cX7_share 63 = .ok (.istore 7, 2) := by decide +kernel
theorem dX7_share_65 : decode cX7_share 65 = .ok (.iload 4, 2) := by decide +kernel
theorem dX7_share_67 : decode cX7_share 67 = .ok (.iload 7, 2) := by decide +kernel
theorem dX7_share_69 : decode cX7_share 69 = .ok (.aload_n 0, 1) := by decide +kernel
theorem dX7_share_70 : decode cX7_share 70 = .ok (.iload 5, 2) := by decide +kernel
theorem dX7_share_72 : decode cX7_share 72 = .ok (.iconst 1, 1) := by decide +kernel
theorem dX7_share_73 : decode cX7_share 73 = .ok (.iload_n 1, 1) := by decide +kernel
theorem dX7_share_74 : decode cX7_share 74 = .ok (.ishl, 1) := by decide +kernel
theorem dX7_share_75 : decode cX7_share 75 = .ok (.ior, 1) := by decide +kernel
theorem dX7_share_76 : decode cX7_share 76 = .ok (.invokevirtual 202, 3) := by decide +kernel
theorem dX7_share_79 : decode cX7_share 79 = .ok (.aload_n 0, 1) := by decide +kernel
theorem dX7_share_80 : decode cX7_share 80 = .ok (.iload 5, 2) := by decide +kernel
theorem dX7_share_82 : decode cX7_share 82 = .ok (.invokevirtual 202, 3) := by decide +kernel
theorem dX7_share_85 : decode cX7_share 85 = .ok (.isub, 1) := by decide +kernel
theorem dX7_share_86 : decode cX7_share 86 = .ok (.imul, 1) := by decide +kernel
theorem dX7_share_87 : decode cX7_share 87 = .ok (.iadd, 1) := by decide +kernel
theorem dX7_share_88 : decode cX7_share 88 = .ok (.istore 4, 2) := by decide +kernel
theorem dX7_share_90 : decode cX7_share 90 = .ok (.iinc 5 1, 3) := by decide +kernel
theorem dX7_share_93 : decode cX7_share 93 = .ok (.goto (-69), 3) := by decide +kernel
theorem dX7_share_96 : decode cX7_share 96 = .ok (.iload 4, 2) := by decide +kernel
theorem dX7_share_98 : decode cX7_share 98 = .ok (.iload_n 3, 1) := by decide +kernel
theorem dX7_share_99 : decode cX7_share 99 = .ok (.invokestatic 170, 3) := by decide +kernel
theorem dX7_share_102 : decode cX7_share 102 = .ok (.iload_n 2, 1) := by decide +kernel
theorem dX7_share_103 : decode cX7_share 103 = .ok (.invokestatic 205, 3) := by decide +kernel
theorem dX7_share_106 : decode cX7_share 106 = .ok (.ireturn, 1) := by decide +kernel
theorem dX7_see_0 : decode cX7_see 0 = .ok (.iload_n 1, 1) := by decide +kernel
theorem dX7_see_1 : decode cX7_see 1 = .ok (.invokestatic 143, 3) := by decide +kernel
theorem dX7_see_4 : decode cX7_see 4 = .ok (.ifCond .ne 5, 3) := by decide +kernel
theorem dX7_see_7 : decode cX7_see 7 = .ok (.iconst (-1), 1) := by decide +kernel
theorem dX7_see_8 : decode cX7_see 8 = .ok (.ireturn, 1) := by decide +kernel
theorem dX7_see_9 : decode cX7_see 9 = .ok (.iload_n 2, 1) := by decide +kernel
theorem dX7_see_10 : decode cX7_see 10 = .ok (.ifCond .lt 8, 3) := by decide +kernel
theorem dX7_see_13 : decode cX7_see 13 = .ok (.iload_n 2, 1) := by decide +kernel
theorem dX7_see_14 : decode cX7_see 14 = .ok (.iconst 1, 1) := by decide +kernel
theorem dX7_see_15 : decode cX7_see 15 = .ok (.if_icmp .le 6, 3) := by decide +kernel
theorem dX7_see_18 : decode cX7_see 18 = .ok (.bipush (-2), 2) := by decide +kernel
theorem dX7_see_20 : decode cX7_see 20 = .ok (.ireturn, 1) := by decide +kernel
theorem dX7_see_21 : decode cX7_see 21 = .ok (.aload_n 0, 1) := by decide +kernel
theorem dX7_see_22 : decode cX7_see 22 = .ok (.getfield 54, 3) := by decide +kernel
theorem dX7_see_25 : decode cX7_see 25 = .ok (.iload_n 1, 1) := by decide +kernel
theorem dX7_see_26 : decode cX7_see 26 = .ok (.iload_n 2, 1) := by decide +kernel
theorem dX7_see_27 : decode cX7_see 27 = .ok (.iconst 1, 1) := by decide +kernel
theorem dX7_see_28 : decode cX7_see 28 = .ok (.if_icmp .ne 7, 3) := by decide +kernel
theorem dX7_see_31 : decode cX7_see 31 = .ok (.iconst 1, 1) := by decide +kernel
theorem dX7_see_32 : decode cX7_see 32 = .ok (.goto 4, 3) := by decide +kernel
theorem dX7_see_35 : decode cX7_see 35 = .ok (.iconst 0, 1) := by decide +kernel
theorem dX7_see_36 : decode cX7_see 36 = .ok (.invokevirtual 209, 3) := by decide +kernel
theorem dX7_see_39 : decode cX7_see 39 = .ok (.ireturn, 1) := by decide +kernel
theorem dX7_unsee_0 : decode cX7_unsee 0 = .ok (.aload_n 0, 1) := by decide +kernel
theorem dX7_unsee_1 : decode cX7_unsee 1 = .ok (.getfield 54, 3) := by decide +kernel
theorem dX7_unsee_4 : decode cX7_unsee 4 = .ok (.invokevirtual 213, 3) := by decide +kernel
theorem dX7_unsee_7 : decode cX7_unsee 7 = .ok (.ireturn, 1) := by decide +kernel
theorem dX7_minds_0 : decode cX7_minds 0 = .ok (.iload_n 1, 1) := by decide +kernel
theorem dX7_minds_1 : decode cX7_minds 1 = .ok (.ifCond .lt 8, 3) := by decide +kernel
theorem dX7_minds_4 : decode cX7_minds 4 = .ok (.iload_n 1, 1) := by decide +kernel
theorem dX7_minds_5 : decode cX7_minds 5 = .ok (.iconst 2, 1) := by decide +kernel
theorem dX7_minds_6 : decode cX7_minds 6 = .ok (.if_icmp .le 6, 3) := by decide +kernel
theorem dX7_minds_9 : decode cX7_minds 9 = .ok (.bipush (-2), 2) := by decide +kernel
theorem dX7_minds_11 : decode cX7_minds 11 = .ok (.ireturn, 1) := by decide +kernel
theorem dX7_minds_12 : decode cX7_minds 12 = .ok (.iconst 0, 1) := by decide +kernel
theorem dX7_minds_13 : decode cX7_minds 13 = .ok (.istore_n 2, 1) := by decide +kernel
theorem dX7_minds_14 : decode cX7_minds 14 = .ok (.bipush 63, 2) := by decide +kernel
theorem dX7_minds_16 : decode cX7_minds 16 = .ok (.istore_n 3, 1) := by decide +kernel
theorem dX7_minds_17 : decode cX7_minds 17 = .ok (.iconst 0, 1) := by decide +kernel
theorem dX7_minds_18 : decode cX7_minds 18 = .ok (.istore 4, 2) := by decide +kernel
theorem dX7_minds_20 : decode cX7_minds 20 = .ok (.iconst 0, 1) := by decide +kernel
theorem dX7_minds_21 : decode cX7_minds 21 = .ok (.istore 5, 2) := by decide +kernel
theorem dX7_minds_23 : decode cX7_minds 23 = .ok (.iload 5, 2) := by decide +kernel
theorem dX7_minds_25 : decode cX7_minds 25 = .ok (.bipush 63, 2) := by decide +kernel
theorem dX7_minds_27 : decode cX7_minds 27 = .ok (.if_icmp .gt 47, 3) := by decide +kernel
theorem dX7_minds_30 : decode cX7_minds 30 = .ok (.aload_n 0, 1) := by decide +kernel
theorem dX7_minds_31 : decode cX7_minds 31 = .ok (.getfield 19, 3) := by decide +kernel
theorem dX7_minds_34 : decode cX7_minds 34 = .ok (.iload 5, 2) := by decide +kernel
theorem dX7_minds_36 : decode cX7_minds 36 = .ok (.invokevirtual 184, 3) := by decide +kernel
theorem dX7_minds_39 : decode cX7_minds 39 = .ok (.istore 6, 2) := by decide +kernel
theorem dX7_minds_41 : decode cX7_minds 41 = .ok (.aload_n 0, 1) := by decide +kernel
theorem dX7_minds_42 : decode cX7_minds 42 = .ok (.getfield 54, 3) := by decide +kernel
theorem dX7_minds_45 : decode cX7_minds 45 = .ok (.iload 6, 2) := by decide +kernel
theorem dX7_minds_47 : decode cX7_minds 47 = .ok (.invokevirtual 214, 3) := by decide +kernel
theorem dX7_minds_50 : decode cX7_minds 50 = .ok (.ifCond .eq 18, 3) := by decide +kernel
theorem dX7_minds_53 : decode cX7_minds 53 = .ok (.iinc 2 1, 3) := by decide +kernel
theorem dX7_minds_56 : decode cX7_minds 56 = .ok (.iload_n 3, 1) := by decide +kernel
theorem dX7_minds_57 : decode cX7_minds 57 = .ok (.iload 6, 2) := by decide +kernel
theorem dX7_minds_59 : decode cX7_minds 59 = .ok (.iand, 1) := by decide +kernel
theorem dX7_minds_60 : decode cX7_minds 60 = .ok (.istore_n 3, 1) := by decide +kernel
theorem dX7_minds_61 : decode cX7_minds 61 = .ok (.iload 4, 2) := by decide +kernel
theorem dX7_minds_63 : decode cX7_minds 63 = .ok (.iload 6, 2) := by decide +kernel
theorem dX7_minds_65 : decode cX7_minds 65 = .ok (.ior, 1) := by decide +kernel
theorem dX7_minds_66 : decode cX7_minds 66 = .ok (.istore 4, 2) := by decide +kernel
theorem dX7_minds_68 : decode cX7_minds 68 = .ok (.iinc 5 1, 3) := by decide +kernel
theorem dX7_minds_71 : decode cX7_minds 71 = .ok (.goto (-48), 3) := by decide +kernel
theorem dX7_minds_74 : decode cX7_minds 74 = .ok (.iload_n 1, 1) := by decide +kernel
theorem dX7_minds_75 : decode cX7_minds 75 = .ok (.ifCond .ne 5, 3) := by decide +kernel
theorem dX7_minds_78 : decode cX7_minds 78 = .ok (.iload_n 2, 1) := by decide +kernel
theorem dX7_minds_79 : decode cX7_minds 79 = .ok (.ireturn, 1) := by decide +kernel
theorem dX7_minds_80 : decode cX7_minds 80 = .ok (.iload_n 2, 1) := by decide +kernel
theorem dX7_minds_81 : decode cX7_minds 81 = .ok (.ifCond .ne 6, 3) := by decide +kernel
theorem dX7_minds_84 : decode cX7_minds 84 = .ok (.bipush (-9), 2) := by decide +kernel
theorem dX7_minds_86 : decode cX7_minds 86 = .ok (.ireturn, 1) := by decide +kernel
theorem dX7_minds_87 : decode cX7_minds 87 = .ok (.iload_n 1, 1) := by decide +kernel
theorem dX7_minds_88 : decode cX7_minds 88 = .ok (.iconst 1, 1) := by decide +kernel
theorem dX7_minds_89 : decode cX7_minds 89 = .ok (.if_icmp .ne 7, 3) := by decide +kernel
theorem dX7_minds_92 : decode cX7_minds 92 = .ok (.iload_n 3, 1) := by decide +kernel
theorem dX7_minds_93 : decode cX7_minds 93 = .ok (.goto 10, 3) := by decide +kernel
theorem dX7_minds_96 : decode cX7_minds 96 = .ok (.bipush 63, 2) := by decide +kernel
theorem dX7_minds_98 : decode cX7_minds 98 = .ok (.iload 4, 2) := by decide +kernel
theorem dX7_minds_100 : decode cX7_minds 100 = .ok (.iconst (-1), 1) := by decide +kernel
theorem dX7_minds_101 : decode cX7_minds 101 = .ok (.ixor, 1) := by decide +kernel
theorem dX7_minds_102 : decode cX7_minds 102 = .ok (.iand, 1) := by decide +kernel
theorem dX7_minds_103 : decode cX7_minds 103 = .ok (.ireturn, 1) := by decide +kernel
theorem dX7_rests_0 : decode cX7_rests 0 = .ok (.iload_n 1, 1) := by decide +kernel
theorem dX7_rests_1 : decode cX7_rests 1 = .ok (.ifCond .lt 8, 3) := by decide +kernel
theorem dX7_rests_4 : decode cX7_rests 4 = .ok (.iload_n 1, 1) := by decide +kernel
theorem dX7_rests_5 : decode cX7_rests 5 = .ok (.iconst 1, 1) := by decide +kernel
theorem dX7_rests_6 : decode cX7_rests 6 = .ok (.if_icmp .le 6, 3) := by decide +kernel
theorem dX7_rests_9 : decode cX7_rests 9 = .ok (.bipush (-2), 2) := by decide +kernel
theorem dX7_rests_11 : decode cX7_rests 11 = .ok (.ireturn, 1) := by decide +kernel
theorem dX7_rests_12 : decode cX7_rests 12 = .ok (.iconst 0, 1) := by decide +kernel
theorem dX7_rests_13 : decode cX7_rests 13 = .ok (.istore_n 2, 1) := by decide +kernel
theorem dX7_rests_14 : decode cX7_rests 14 = .ok (.bipush (-9), 2) := by decide +kernel
theorem dX7_rests_16 : decode cX7_rests 16 = .ok (.istore_n 3, 1) := by decide +kernel
theorem dX7_rests_17 : decode cX7_rests 17 = .ok (.iconst 0, 1) := by decide +kernel
theorem dX7_rests_18 : decode cX7_rests 18 = .ok (.istore 4, 2) := by decide +kernel
theorem dX7_rests_20 : decode cX7_rests 20 = .ok (.iload 4, 2) := by decide +kernel
theorem dX7_rests_22 : decode cX7_rests 22 = .ok (.iconst 3, 1) := by decide +kernel
theorem dX7_rests_23 : decode cX7_rests 23 = .ok (.if_icmp .gt 64, 3) := by decide +kernel
theorem dX7_rests_26 : decode cX7_rests 26 = .ok (.iconst 0, 1) := by decide +kernel
theorem dX7_rests_27 : decode cX7_rests 27 = .ok (.istore 5, 2) := by decide +kernel
theorem dX7_rests_29 : decode cX7_rests 29 = .ok (.iload 5, 2) := by decide +kernel
theorem dX7_rests_31 : decode cX7_rests 31 = .ok (.iconst 3, 1) := by decide +kernel
theorem dX7_rests_32 : decode cX7_rests 32 = .ok (.if_icmp .gt 49, 3) := by decide +kernel
theorem dX7_rests_35 : decode cX7_rests 35 = .ok (.iload 4, 2) := by decide +kernel
theorem dX7_rests_37 : decode cX7_rests 37 = .ok (.iload 5, 2) := by decide +kernel
theorem dX7_rests_39 : decode cX7_rests 39 = .ok (.invokestatic 217, 3) := by decide +kernel
theorem dX7_rests_42 : decode cX7_rests 42 = .ok (.ifCond .eq 33, 3) := by decide +kernel
theorem dX7_rests_45 : decode cX7_rests 45 = .ok (.iload 5, 2) := by decide +kernel
theorem dX7_rests_47 : decode cX7_rests 47 = .ok (.iload 4, 2) := by decide +kernel
theorem dX7_rests_49 : decode cX7_rests 49 = .ok (.invokestatic 217, 3) := by decide +kernel
theorem dX7_rests_52 : decode cX7_rests 52 = .ok (.ifCond .eq 23, 3) := by decide +kernel
theorem dX7_rests_55 : decode cX7_rests 55 = .ok (.iload_n 2, 1) := by decide +kernel
theorem dX7_rests_56 : decode cX7_rests 56 = .ok (.ifCond .ne 14, 3) := by decide +kernel
theorem dX7_rests_59 : decode cX7_rests 59 = .ok (.bipush 10, 2) := by decide +kernel
theorem dX7_rests_61 : decode cX7_rests 61 = .ok (.iload 4, 2) := by decide +kernel
theorem dX7_rests_63 : decode cX7_rests 63 = .ok (.imul, 1) := by decide +kernel
theorem dX7_rests_64 : decode cX7_rests 64 = .ok (.iload 5, 2) := by decide +kernel
theorem dX7_rests_66 : decode cX7_rests 66 = .ok (.iadd, 1) := by decide +kernel
theorem dX7_rests_67 : decode cX7_rests 67 = .ok (.goto 4, 3) := by decide +kernel
theorem dX7_rests_70 : decode cX7_rests 70 = .ok (.iload_n 3, 1) := by decide +kernel
theorem dX7_rests_71 : decode cX7_rests 71 = .ok (.istore_n 3, 1) := by decide +kernel
theorem dX7_rests_72 : decode cX7_rests 72 = .ok (.iinc 2 1, 3) := by decide +kernel
theorem dX7_rests_75 : decode cX7_rests 75 = .ok (.iinc 5 1, 3) := by decide +kernel
theorem dX7_rests_78 : decode cX7_rests 78 = .ok (.goto (-49), 3) := by decide +kernel
theorem dX7_rests_81 : decode cX7_rests 81 = .ok (.iinc 4 1, 3) := by decide +kernel
theorem dX7_rests_84 : decode cX7_rests 84 = .ok (.goto (-64), 3) := by decide +kernel
theorem dX7_rests_87 : decode cX7_rests 87 = .ok (.iload_n 1, 1) := by decide +kernel
theorem dX7_rests_88 : decode cX7_rests 88 = .ok (.ifCond .ne 7, 3) := by decide +kernel
theorem dX7_rests_91 : decode cX7_rests 91 = .ok (.iload_n 2, 1) := by decide +kernel
theorem dX7_rests_92 : decode cX7_rests 92 = .ok (.goto 4, 3) := by decide +kernel
theorem dX7_rests_95 : decode cX7_rests 95 = .ok (.iload_n 3, 1) := by decide +kernel
theorem dX7_rests_96 : decode cX7_rests 96 = .ok (.ireturn, 1) := by decide +kernel
theorem dX7_deaf_0 : decode cX7_deaf 0 = .ok (.aload_n 0, 1) := by decide +kernel
theorem dX7_deaf_1 : decode cX7_deaf 1 = .ok (.iload_n 1, 1) := by decide +kernel
theorem dX7_deaf_2 : decode cX7_deaf 2 = .ok (.iload_n 2, 1) := by decide +kernel
theorem dX7_deaf_3 : decode cX7_deaf 3 = .ok (.iload_n 3, 1) := by decide +kernel
theorem dX7_deaf_4 : decode cX7_deaf 4 = .ok (.invokevirtual 132, 3) := by decide +kernel
theorem dX7_deaf_7 : decode cX7_deaf 7 = .ok (.istore 6, 2) := by decide +kernel
theorem dX7_deaf_9 : decode cX7_deaf 9 = .ok (.iload 6, 2) := by decide +kernel
theorem dX7_deaf_11 : decode cX7_deaf 11 = .ok (.ifCond .eq 6, 3) := by decide +kernel
theorem dX7_deaf_14 : decode cX7_deaf 14 = .ok (.iload 6, 2) := by decide +kernel
theorem dX7_deaf_16 : decode cX7_deaf 16 = .ok (.ireturn, 1) := by decide +kernel
theorem dX7_deaf_17 : decode cX7_deaf 17 = .ok (.iload 4, 2) := by decide +kernel
theorem dX7_deaf_19 : decode cX7_deaf 19 = .ok (.ifCond .lt 10, 3) := by decide +kernel
theorem dX7_deaf_22 : decode cX7_deaf 22 = .ok (.iload 4, 2) := by decide +kernel
theorem dX7_deaf_24 : decode cX7_deaf 24 = .ok (.bipush 10, 2) := by decide +kernel
theorem dX7_deaf_26 : decode cX7_deaf 26 = .ok (.if_icmp .le 6, 3) := by decide +kernel
theorem dX7_deaf_29 : decode cX7_deaf 29 = .ok (.bipush (-2), 2) := by decide +kernel
theorem dX7_deaf_31 : decode cX7_deaf 31 = .ok (.ireturn, 1) := by decide +kernel
theorem dX7_deaf_32 : decode cX7_deaf 32 = .ok (.aload_n 0, 1) := by decide +kernel
theorem dX7_deaf_33 : decode cX7_deaf 33 = .ok (.getfield 28, 3) := by decide +kernel
theorem dX7_deaf_36 : decode cX7_deaf 36 = .ok (.iload_n 1, 1) := by decide +kernel
theorem dX7_deaf_37 : decode cX7_deaf 37 = .ok (.iload_n 3, 1) := by decide +kernel
theorem dX7_deaf_38 : decode cX7_deaf 38 = .ok (.invokevirtual 161, 3) := by decide +kernel
theorem dX7_deaf_41 : decode cX7_deaf 41 = .ok (.aload_n 0, 1) := by decide +kernel
theorem dX7_deaf_42 : decode cX7_deaf 42 = .ok (.getfield 28, 3) := by decide +kernel
theorem dX7_deaf_45 : decode cX7_deaf 45 = .ok (.iload_n 2, 1) := by decide +kernel
theorem dX7_deaf_46 : decode cX7_deaf 46 = .ok (.invokevirtual 167, 3) := by decide +kernel
theorem dX7_deaf_49 : decode cX7_deaf 49 = .ok (.iand, 1) := by decide +kernel
theorem dX7_deaf_50 : decode cX7_deaf 50 = .ok (.invokestatic 176, 3) := by decide +kernel
theorem dX7_deaf_53 : decode cX7_deaf 53 = .ok (.istore 7, 2) := by decide +kernel
theorem dX7_deaf_55 : decode cX7_deaf 55 = .ok (.iload 4, 2) := by decide +kernel
theorem dX7_deaf_57 : decode cX7_deaf 57 = .ok (.iload 7, 2) := by decide +kernel
theorem dX7_deaf_59 : decode cX7_deaf 59 = .ok (.invokestatic 220, 3) := by decide +kernel
theorem dX7_deaf_62 : decode cX7_deaf 62 = .ok (.bipush 10, 2) := by decide +kernel
theorem dX7_deaf_64 : decode cX7_deaf 64 = .ok (.iload 7, 2) := by decide +kernel
theorem dX7_deaf_66 : decode cX7_deaf 66 = .ok (.invokestatic 220, 3) := by decide +kernel
theorem dX7_deaf_69 : decode cX7_deaf 69 = .ok (.iload 5, 2) := by decide +kernel
theorem dX7_deaf_71 : decode cX7_deaf 71 = .ok (.invokestatic 205, 3) := by decide +kernel
theorem dX7_deaf_74 : decode cX7_deaf 74 = .ok (.ireturn, 1) := by decide +kernel
theorem dX7_seed_0 : decode cX7_seed 0 = .ok (.aload_n 0, 1) := by decide +kernel
theorem dX7_seed_1 : decode cX7_seed 1 = .ok (.getfield 223, 3) := by decide +kernel
theorem dX7_seed_4 : decode cX7_seed 4 = .ok (.lstore_n 3, 1) := by decide +kernel
theorem dX7_seed_5 : decode cX7_seed 5 = .ok (.aload_n 0, 1) := by decide +kernel
theorem dX7_seed_6 : decode cX7_seed 6 = .ok (.lload_n 1, 1) := by decide +kernel
theorem dX7_seed_7 : decode cX7_seed 7 = .ok (.putfield 223, 3) := by decide +kernel
theorem dX7_seed_10 : decode cX7_seed 10 = .ok (.lload_n 3, 1) := by decide +kernel
theorem dX7_seed_11 : decode cX7_seed 11 = .ok (.lreturn, 1) := by decide +kernel
theorem dX7_evenings_0 : decode cX7_evenings 0 = .ok (.iload_n 1, 1) := by decide +kernel
theorem dX7_evenings_1 : decode cX7_evenings 1 = .ok (.iconst 1, 1) := by decide +kernel
theorem dX7_evenings_2 : decode cX7_evenings 2 = .ok (.if_icmp .lt 9, 3) := by decide +kernel
theorem dX7_evenings_5 : decode cX7_evenings 5 = .ok (.iload_n 1, 1) := by decide +kernel
theorem dX7_evenings_6 : decode cX7_evenings 6 = .ok (.bipush 30, 2) := by decide +kernel
theorem dX7_evenings_8 : decode cX7_evenings 8 = .ok (.if_icmp .le 6, 3) := by decide +kernel
theorem dX7_evenings_11 : decode cX7_evenings 11 = .ok (.bipush (-2), 2) := by decide +kernel
theorem dX7_evenings_13 : decode cX7_evenings 13 = .ok (.ireturn, 1) := by decide +kernel
theorem dX7_evenings_14 : decode cX7_evenings 14 = .ok (.aload_n 0, 1) := by decide +kernel
theorem dX7_evenings_15 : decode cX7_evenings 15 = .ok (.getfield 32, 3) := by decide +kernel
theorem dX7_evenings_18 : decode cX7_evenings 18 = .ok (.aload_n 0, 1) := by decide +kernel
theorem dX7_evenings_19 : decode cX7_evenings 19 = .ok (.getfield 28, 3) := by decide +kernel
theorem dX7_evenings_22 : decode cX7_evenings 22 = .ok (.invokevirtual 164, 3) := by decide +kernel
theorem dX7_evenings_25 : decode cX7_evenings 25 = .ok (.iconst 0, 1) := by decide +kernel
theorem dX7_evenings_26 : decode cX7_evenings 26 = .ok (.istore_n 2, 1) := by decide +kernel
theorem dX7_evenings_27 : decode cX7_evenings 27 = .ok (.iload_n 2, 1) := by decide +kernel
theorem dX7_evenings_28 : decode cX7_evenings 28 = .ok (.iload_n 1, 1) := by decide +kernel
theorem dX7_evenings_29 : decode cX7_evenings 29 = .ok (.if_icmp .ge 84, 3) := by decide +kernel
theorem dX7_evenings_32 : decode cX7_evenings 32 = .ok (.aload_n 0, 1) := by decide +kernel
theorem dX7_evenings_33 : decode cX7_evenings 33 = .ok (.aload_n 0, 1) := by decide +kernel
theorem dX7_evenings_34 : decode cX7_evenings 34 = .ok (.getfield 223, 3) := by decide +kernel
theorem dX7_evenings_37 : decode cX7_evenings 37 = .ok (.ldc2_w 227, 3) := by decide +kernel
theorem dX7_evenings_40 : decode cX7_evenings 40 = .ok (.lmul, 1) := by decide +kernel
theorem dX7_evenings_41 : decode cX7_evenings 41 = .ok (.ldc2_w 229, 3) := by decide +kernel
theorem dX7_evenings_44 : decode cX7_evenings 44 = .ok (.ladd, 1) := by decide +kernel
theorem dX7_evenings_45 : decode cX7_evenings 45 = .ok (.putfield 223, 3) := by decide +kernel
theorem dX7_evenings_48 : decode cX7_evenings 48 = .ok (.aload_n 0, 1) := by decide +kernel
theorem dX7_evenings_49 : decode cX7_evenings 49 = .ok (.getfield 223, 3) := by decide +kernel
theorem dX7_evenings_52 : decode cX7_evenings 52 = .ok (.bipush 33, 2) := by decide +kernel
theorem dX7_evenings_54 : decode cX7_evenings 54 = .ok (.lushr, 1) := by decide +kernel
theorem dX7_evenings_55 : decode cX7_evenings 55 = .ok (.l2i, 1) := by decide +kernel
theorem dX7_evenings_56 : decode cX7_evenings 56 = .ok (.bipush 60, 2) := by decide +kernel
theorem dX7_evenings_58 : decode cX7_evenings 58 = .ok (.irem, 1) := by decide +kernel
theorem dX7_evenings_59 : decode cX7_evenings 59 = .ok (.istore_n 3, 1) := by decide +kernel
theorem dX7_evenings_60 : decode cX7_evenings 60 = .ok (.iload_n 3, 1) := by decide +kernel
theorem dX7_evenings_61 : decode cX7_evenings 61 = .ok (.bipush 12, 2) := by decide +kernel
theorem dX7_evenings_63 : decode cX7_evenings 63 = .ok (.idiv, 1) := by decide +kernel
theorem dX7_evenings_64 : decode cX7_evenings 64 = .ok (.istore 4, 2) := by decide +kernel
theorem dX7_evenings_66 : decode cX7_evenings 66 = .ok (.iload_n 3, 1) := by decide +kernel
theorem dX7_evenings_67 : decode cX7_evenings 67 = .ok (.bipush 12, 2) := by decide +kernel
theorem dX7_evenings_69 : decode cX7_evenings 69 = .ok (.irem, 1) := by decide +kernel
theorem dX7_evenings_70 : decode cX7_evenings 70 = .ok (.bipush 6, 2) := by decide +kernel
theorem dX7_evenings_72 : decode cX7_evenings 72 = .ok (.if_icmp .ge 7, 3) := by decide +kernel
theorem dX7_evenings_75 : decode cX7_evenings 75 = .ok (.iconst 1, 1) := by decide +kernel
theorem dX7_evenings_76 : decode cX7_evenings 76 = .ok (.goto 4, 3) := by decide +kernel
theorem dX7_evenings_79 : decode cX7_evenings 79 = .ok (.iconst 2, 1) := by decide +kernel
theorem dX7_evenings_80 : decode cX7_evenings 80 = .ok (.istore 5, 2) := by decide +kernel
theorem dX7_evenings_82 : decode cX7_evenings 82 = .ok (.aload_n 0, 1) := by decide +kernel
theorem dX7_evenings_83 : decode cX7_evenings 83 = .ok (.iload 4, 2) := by decide +kernel
theorem dX7_evenings_85 : decode cX7_evenings 85 = .ok (.invokevirtual 109, 3) := by decide +kernel
theorem dX7_evenings_88 : decode cX7_evenings 88 = .ok (.ifCond .eq 19, 3) := by decide +kernel
theorem dX7_evenings_91 : decode cX7_evenings 91 = .ok (.aload_n 0, 1) := by decide +kernel
theorem dX7_evenings_92 : decode cX7_evenings 92 = .ok (.getfield 32, 3) := by decide +kernel
theorem dX7_evenings_95 : decode cX7_evenings 95 = .ok (.iload 4, 2) := by decide +kernel
theorem dX7_evenings_97 : decode cX7_evenings 97 = .ok (.iload_n 3, 1) := by decide +kernel
theorem dX7_evenings_98 : decode cX7_evenings 98 = .ok (.bipush 6, 2) := by decide +kernel
theorem dX7_evenings_100 : decode cX7_evenings 100 = .ok (.irem, 1) := by decide +kernel
theorem dX7_evenings_101 : decode cX7_evenings 101 = .ok (.iload 5, 2) := by decide +kernel
theorem dX7_evenings_103 : decode cX7_evenings 103 = .ok (.invokevirtual 140, 3) := by decide +kernel
theorem dX7_evenings_106 : decode cX7_evenings 106 = .ok (.pop, 1) := by decide +kernel
theorem dX7_evenings_107 : decode cX7_evenings 107 = .ok (.iinc 2 1, 3) := by decide +kernel
theorem dX7_evenings_110 : decode cX7_evenings 110 = .ok (.goto (-83), 3) := by decide +kernel
theorem dX7_evenings_113 : decode cX7_evenings 113 = .ok (.aload_n 0, 1) := by decide +kernel
theorem dX7_evenings_114 : decode cX7_evenings 114 = .ok (.getfield 32, 3) := by decide +kernel
theorem dX7_evenings_117 : decode cX7_evenings 117 = .ok (.invokevirtual 99, 3) := by decide +kernel
theorem dX7_evenings_120 : decode cX7_evenings 120 = .ok (.aload_n 0, 1) := by decide +kernel
theorem dX7_evenings_121 : decode cX7_evenings 121 = .ok (.getfield 28, 3) := by decide +kernel
theorem dX7_evenings_124 : decode cX7_evenings 124 = .ok (.invokevirtual 99, 3) := by decide +kernel
theorem dX7_evenings_127 : decode cX7_evenings 127 = .ok (.isub, 1) := by decide +kernel
theorem dX7_evenings_128 : decode cX7_evenings 128 = .ok (.ireturn, 1) := by decide +kernel
theorem dX7_keep_0 : decode cX7_keep 0 = .ok (.iload_n 1, 1) := by decide +kernel
theorem dX7_keep_1 : decode cX7_keep 1 = .ok (.invokestatic 231, 3) := by decide +kernel
theorem dX7_keep_4 : decode cX7_keep 4 = .ok (.ifCond .ne 5, 3) := by decide +kernel
theorem dX7_keep_7 : decode cX7_keep 7 = .ok (.iconst (-1), 1) := by decide +kernel
theorem dX7_keep_8 : decode cX7_keep 8 = .ok (.ireturn, 1) := by decide +kernel
theorem dX7_keep_9 : decode cX7_keep 9 = .ok (.aload_n 0, 1) := by decide +kernel
theorem dX7_keep_10 : decode cX7_keep 10 = .ok (.getfield 47, 3) := by decide +kernel
theorem dX7_keep_13 : decode cX7_keep 13 = .ok (.iload_n 1, 1) := by decide +kernel
theorem dX7_keep_14 : decode cX7_keep 14 = .ok (.aload_n 0, 1) := by decide +kernel
theorem dX7_keep_15 : decode cX7_keep 15 = .ok (.getfield 28, 3) := by decide +kernel
theorem dX7_keep_18 : decode cX7_keep 18 = .ok (.invokevirtual 234, 3) := by decide +kernel
theorem dX7_keep_21 : decode cX7_keep 21 = .ok (.aload_n 0, 1) := by decide +kernel
theorem dX7_keep_22 : decode cX7_keep 22 = .ok (.dup, 1) := by decide +kernel
theorem dX7_keep_23 : decode cX7_keep 23 = .ok (.getfield 89, 3) := by decide +kernel
theorem dX7_keep_26 : decode cX7_keep 26 = .ok (.iconst 1, 1) := by decide +kernel
theorem dX7_keep_27 : decode cX7_keep 27 = .ok (.iload_n 1, 1) := by decide +kernel
theorem dX7_keep_28 : decode cX7_keep 28 = .ok (.ishl, 1) := by decide +kernel
theorem dX7_keep_29 : decode cX7_keep 29 = .ok (.ior, 1) := by decide +kernel
theorem dX7_keep_30 : decode cX7_keep 30 = .ok (.putfield 89, 3) := by decide +kernel
theorem dX7_keep_33 : decode cX7_keep 33 = .ok (.aload_n 0, 1) := by decide +kernel
theorem dX7_keep_34 : decode cX7_keep 34 = .ok (.getfield 28, 3) := by decide +kernel
theorem dX7_keep_37 : decode cX7_keep 37 = .ok (.invokevirtual 99, 3) := by decide +kernel
theorem dX7_keep_40 : decode cX7_keep 40 = .ok (.ireturn, 1) := by decide +kernel
theorem dX7_again_0 : decode cX7_again 0 = .ok (.iload_n 1, 1) := by decide +kernel
theorem dX7_again_1 : decode cX7_again 1 = .ok (.invokestatic 231, 3) := by decide +kernel
theorem dX7_again_4 : decode cX7_again 4 = .ok (.ifCond .ne 5, 3) := by decide +kernel
theorem dX7_again_7 : decode cX7_again 7 = .ok (.iconst (-1), 1) := by decide +kernel
theorem dX7_again_8 : decode cX7_again 8 = .ok (.ireturn, 1) := by decide +kernel
theorem dX7_again_9 : decode cX7_again 9 = .ok (.aload_n 0, 1) := by decide +kernel
theorem dX7_again_10 : decode cX7_again 10 = .ok (.getfield 89, 3) := by decide +kernel
theorem dX7_again_13 : decode cX7_again 13 = .ok (.iload_n 1, 1) := by decide +kernel
theorem dX7_again_14 : decode cX7_again 14 = .ok (.invokestatic 146, 3) := by decide +kernel
theorem dX7_again_17 : decode cX7_again 17 = .ok (.ifCond .ne 6, 3) := by decide +kernel
theorem dX7_again_20 : decode cX7_again 20 = .ok (.bipush (-3), 2) := by decide +kernel
theorem dX7_again_22 : decode cX7_again 22 = .ok (.ireturn, 1) := by decide +kernel
theorem dX7_again_23 : decode cX7_again 23 = .ok (.aload_n 0, 1) := by decide +kernel
theorem dX7_again_24 : decode cX7_again 24 = .ok (.getfield 47, 3) := by decide +kernel
theorem dX7_again_27 : decode cX7_again 27 = .ok (.iload_n 1, 1) := by decide +kernel
theorem dX7_again_28 : decode cX7_again 28 = .ok (.aload_n 0, 1) := by decide +kernel
theorem dX7_again_29 : decode cX7_again 29 = .ok (.getfield 28, 3) := by decide +kernel
theorem dX7_again_32 : decode cX7_again 32 = .ok (.invokevirtual 238, 3) := by decide +kernel
theorem dX7_again_35 : decode cX7_again 35 = .ok (.aload_n 0, 1) := by decide +kernel
theorem dX7_again_36 : decode cX7_again 36 = .ok (.getfield 38, 3) := by decide +kernel
theorem dX7_again_39 : decode cX7_again 39 = .ok (.invokevirtual 88, 3) := by decide +kernel
theorem dX7_again_42 : decode cX7_again 42 = .ok (.aload_n 0, 1) := by decide +kernel
theorem dX7_again_43 : decode cX7_again 43 = .ok (.getfield 28, 3) := by decide +kernel
theorem dX7_again_46 : decode cX7_again 46 = .ok (.invokevirtual 99, 3) := by decide +kernel
theorem dX7_again_49 : decode cX7_again 49 = .ok (.ireturn, 1) := by decide +kernel
theorem dX7_isPerson_0 : decode cX7_isPerson 0 = .ok (.iload_n 1, 1) := by decide +kernel
theorem dX7_isPerson_1 : decode cX7_isPerson 1 = .ok (.ifCond .lt 18, 3) := by decide +kernel
theorem dX7_isPerson_4 : decode cX7_isPerson 4 = .ok (.iload_n 1, 1) := by decide +kernel
theorem dX7_isPerson_5 : decode cX7_isPerson 5 = .ok (.aload_n 0, 1) := by decide +kernel
theorem dX7_isPerson_6 : decode cX7_isPerson 6 = .ok (.getfield 19, 3) := by decide +kernel
theorem dX7_isPerson_9 : decode cX7_isPerson 9 = .ok (.invokevirtual 93, 3) := by decide +kernel
theorem dX7_isPerson_12 : decode cX7_isPerson 12 = .ok (.if_icmp .ge 7, 3) := by decide +kernel
theorem dX7_isPerson_15 : decode cX7_isPerson 15 = .ok (.iconst 1, 1) := by decide +kernel
theorem dX7_isPerson_16 : decode cX7_isPerson 16 = .ok (.goto 4, 3) := by decide +kernel
theorem dX7_isPerson_19 : decode cX7_isPerson 19 = .ok (.iconst 0, 1) := by decide +kernel
theorem dX7_isPerson_20 : decode cX7_isPerson 20 = .ok (.ireturn, 1) := by decide +kernel
theorem dX7_isFact_0 : decode cX7_isFact 0 = .ok (.iload_n 0, 1) := by decide +kernel
theorem dX7_isFact_1 : decode cX7_isFact 1 = .ok (.ifCond .lt 13, 3) := by decide +kernel
theorem dX7_isFact_4 : decode cX7_isFact 4 = .ok (.iload_n 0, 1) := by decide +kernel
theorem dX7_isFact_5 : decode cX7_isFact 5 = .ok (.bipush 6, 2) := by decide +kernel
theorem dX7_isFact_7 : decode cX7_isFact 7 = .ok (.if_icmp .ge 7, 3) := by decide +kernel
theorem dX7_isFact_10 : decode cX7_isFact 10 = .ok (.iconst 1, 1) := by decide +kernel
theorem dX7_isFact_11 : decode cX7_isFact 11 = .ok (.goto 4, 3) := by decide +kernel
theorem dX7_isFact_14 : decode cX7_isFact 14 = .ok (.iconst 0, 1) := by decide +kernel
theorem dX7_isFact_15 : decode cX7_isFact 15 = .ok (.ireturn, 1) := by decide +kernel
theorem dX7_isVoice_0 : decode cX7_isVoice 0 = .ok (.iload_n 0, 1) := by decide +kernel
theorem dX7_isVoice_1 : decode cX7_isVoice 1 = .ok (.iconst 1, 1) := by decide +kernel
theorem dX7_isVoice_2 : decode cX7_isVoice 2 = .ok (.if_icmp .lt 12, 3) := by decide +kernel
theorem dX7_isVoice_5 : decode cX7_isVoice 5 = .ok (.iload_n 0, 1) := by decide +kernel
theorem dX7_isVoice_6 : decode cX7_isVoice 6 = .ok (.iconst 2, 1) := by decide +kernel
theorem dX7_isVoice_7 : decode cX7_isVoice 7 = .ok (.if_icmp .gt 7, 3) := by decide +kernel
theorem dX7_isVoice_10 : decode cX7_isVoice 10 = .ok (.iconst 1, 1) := by decide +kernel
theorem dX7_isVoice_11 : decode cX7_isVoice 11 = .ok (.goto 4, 3) := by decide +kernel
theorem dX7_isVoice_14 : decode cX7_isVoice 14 = .ok (.iconst 0, 1) := by decide +kernel
theorem dX7_isVoice_15 : decode cX7_isVoice 15 = .ok (.ireturn, 1) := by decide +kernel
theorem dX7_isSlot_0 : decode cX7_isSlot 0 = .ok (.iload_n 0, 1) := by decide +kernel
theorem dX7_isSlot_1 : decode cX7_isSlot 1 = .ok (.ifCond .lt 12, 3) := by decide +kernel
theorem dX7_isSlot_4 : decode cX7_isSlot 4 = .ok (.iload_n 0, 1) := by decide +kernel
theorem dX7_isSlot_5 : decode cX7_isSlot 5 = .ok (.iconst 2, 1) := by decide +kernel
theorem dX7_isSlot_6 : decode cX7_isSlot 6 = .ok (.if_icmp .ge 7, 3) := by decide +kernel
theorem dX7_isSlot_9 : decode cX7_isSlot 9 = .ok (.iconst 1, 1) := by decide +kernel
theorem dX7_isSlot_10 : decode cX7_isSlot 10 = .ok (.goto 4, 3) := by decide +kernel
theorem dX7_isSlot_13 : decode cX7_isSlot 13 = .ok (.iconst 0, 1) := by decide +kernel
theorem dX7_isSlot_14 : decode cX7_isSlot 14 = .ok (.ireturn, 1) := by decide +kernel
theorem dX7_refusalToSay_0 : decode cX7_refusalToSay 0 = .ok (.aload_n 0, 1) := by decide +kernel
theorem dX7_refusalToSay_1 : decode cX7_refusalToSay 1 = .ok (.iload_n 1, 1) := by decide +kernel
theorem dX7_refusalToSay_2 : decode cX7_refusalToSay 2 = .ok (.invokevirtual 109, 3) := by decide +kernel
theorem dX7_refusalToSay_5 : decode cX7_refusalToSay 5 = .ok (.ifCond .eq 10, 3) := by decide +kernel
theorem dX7_refusalToSay_8 : decode cX7_refusalToSay 8 = .ok (.iload_n 2, 1) := by decide +kernel
theorem dX7_refusalToSay_9 : decode cX7_refusalToSay 9 = .ok (.invokestatic 143, 3) := by decide +kernel
theorem dX7_refusalToSay_12 : decode cX7_refusalToSay 12 = .ok (.ifCond .ne 5, 3) := by decide +kernel
theorem dX7_refusalToSay_15 : decode cX7_refusalToSay 15 = .ok (.iconst (-1), 1) := by decide +kernel
theorem dX7_refusalToSay_16 : decode cX7_refusalToSay 16 = .ok (.ireturn, 1) := by decide +kernel
theorem dX7_refusalToSay_17 : decode cX7_refusalToSay 17 = .ok (.iload_n 3, 1) := by decide +kernel
theorem dX7_refusalToSay_18 : decode cX7_refusalToSay 18 = .ok (.invokestatic 241, 3) := by decide +kernel
theorem dX7_refusalToSay_21 : decode cX7_refusalToSay 21 = .ok (.ifCond .eq 7, 3) := by decide +kernel
theorem dX7_refusalToSay_24 : decode cX7_refusalToSay 24 = .ok (.iconst 0, 1) := by decide +kernel
theorem dX7_refusalToSay_25 : decode cX7_refusalToSay 25 = .ok (.goto 5, 3) := by decide +kernel
theorem dX7_refusalToSay_28 : decode cX7_refusalToSay 28 = .ok (.bipush (-2), 2) := by decide +kernel
theorem dX7_refusalToSay_30 : decode cX7_refusalToSay 30 = .ok (.ireturn, 1) := by decide +kernel
theorem dX7_admit_0 : decode cX7_admit 0 = .ok (.aload_n 0, 1) := by decide +kernel
theorem dX7_admit_1 : decode cX7_admit 1 = .ok (.getfield 19, 3) := by decide +kernel
theorem dX7_admit_4 : decode cX7_admit 4 = .ok (.aload_n 0, 1) := by decide +kernel
theorem dX7_admit_5 : decode cX7_admit 5 = .ok (.getfield 13, 3) := by decide +kernel
theorem dX7_admit_8 : decode cX7_admit 8 = .ok (.iload_n 1, 1) := by decide +kernel
theorem dX7_admit_9 : decode cX7_admit 9 = .ok (.iconst 1, 1) := by decide +kernel
theorem dX7_admit_10 : decode cX7_admit 10 = .ok (.iadd, 1) := by decide +kernel
theorem dX7_admit_11 : decode cX7_admit 11 = .ok (.invokevirtual 81, 3) := by decide +kernel
theorem dX7_admit_14 : decode cX7_admit 14 = .ok (.invokevirtual 244, 3) := by decide +kernel
theorem dX7_admit_17 : decode cX7_admit 17 = .ok (.istore_n 2, 1) := by decide +kernel
theorem dX7_admit_18 : decode cX7_admit 18 = .ok (.aload_n 0, 1) := by decide +kernel
theorem dX7_admit_19 : decode cX7_admit 19 = .ok (.getfield 28, 3) := by decide +kernel
theorem dX7_admit_22 : decode cX7_admit 22 = .ok (.iload_n 2, 1) := by decide +kernel
theorem dX7_admit_23 : decode cX7_admit 23 = .ok (.aload_n 0, 1) := by decide +kernel
theorem dX7_admit_24 : decode cX7_admit 24 = .ok (.getfield 13, 3) := by decide +kernel
theorem dX7_admit_27 : decode cX7_admit 27 = .ok (.iload_n 1, 1) := by decide +kernel
theorem dX7_admit_28 : decode cX7_admit 28 = .ok (.iconst 2, 1) := by decide +kernel
theorem dX7_admit_29 : decode cX7_admit 29 = .ok (.iadd, 1) := by decide +kernel
theorem dX7_admit_30 : decode cX7_admit 30 = .ok (.invokevirtual 247, 3) := by decide +kernel
theorem dX7_admit_33 : decode cX7_admit 33 = .ok (.aload_n 0, 1) := by decide +kernel
theorem dX7_admit_34 : decode cX7_admit 34 = .ok (.getfield 13, 3) := by decide +kernel
theorem dX7_admit_37 : decode cX7_admit 37 = .ok (.iload_n 1, 1) := by decide +kernel
theorem dX7_admit_38 : decode cX7_admit 38 = .ok (.iconst 3, 1) := by decide +kernel
theorem dX7_admit_39 : decode cX7_admit 39 = .ok (.iadd, 1) := by decide +kernel
theorem dX7_admit_40 : decode cX7_admit 40 = .ok (.invokevirtual 247, 3) := by decide +kernel
theorem dX7_admit_43 : decode cX7_admit 43 = .ok (.iconst 3, 1) := by decide +kernel
theorem dX7_admit_44 : decode cX7_admit 44 = .ok (.ishl, 1) := by decide +kernel
theorem dX7_admit_45 : decode cX7_admit 45 = .ok (.ior, 1) := by decide +kernel
theorem dX7_admit_46 : decode cX7_admit 46 = .ok (.invokevirtual 150, 3) := by decide +kernel
theorem dX7_admit_49 : decode cX7_admit 49 = .ok (.aload_n 0, 1) := by decide +kernel
theorem dX7_admit_50 : decode cX7_admit 50 = .ok (.getfield 28, 3) := by decide +kernel
theorem dX7_admit_53 : decode cX7_admit 53 = .ok (.iload_n 2, 1) := by decide +kernel
theorem dX7_admit_54 : decode cX7_admit 54 = .ok (.iload_n 2, 1) := by decide +kernel
theorem dX7_admit_55 : decode cX7_admit 55 = .ok (.invokevirtual 154, 3) := by decide +kernel
theorem dX7_admit_58 : decode cX7_admit 58 = .ok (.return_, 1) := by decide +kernel
theorem dX7_isPutRight_0 : decode cX7_isPutRight 0 = .ok (.aload_n 0, 1) := by decide +kernel
theorem dX7_isPutRight_1 : decode cX7_isPutRight 1 = .ok (.iload_n 1, 1) := by decide +kernel
theorem dX7_isPutRight_2 : decode cX7_isPutRight 2 = .ok (.iload_n 2, 1) := by decide +kernel
theorem dX7_isPutRight_3 : decode cX7_isPutRight 3 = .ok (.iload_n 3, 1) := by decide +kernel
theorem dX7_isPutRight_4 : decode cX7_isPutRight 4 = .ok (.invokevirtual 132, 3) := by decide +kernel
theorem dX7_isPutRight_7 : decode cX7_isPutRight 7 = .ok (.ifCond .ne 22, 3) := by decide +kernel
theorem dX7_isPutRight_10 : decode cX7_isPutRight 10 = .ok (.aload_n 0, 1) := by decide +kernel
theorem dX7_isPutRight_11 : decode cX7_isPutRight 11 = .ok (.getfield 32, 3) := by decide +kernel
theorem dX7_isPutRight_14 : decode cX7_isPutRight 14 = .ok (.iload_n 1, 1) := by decide +kernel
theorem dX7_isPutRight_15 : decode cX7_isPutRight 15 = .ok (.iload_n 2, 1) := by decide +kernel
theorem dX7_isPutRight_16 : decode cX7_isPutRight 16 = .ok (.iload_n 3, 1) := by decide +kernel
theorem dX7_isPutRight_17 : decode cX7_isPutRight 17 = .ok (.invokevirtual 140, 3) := by decide +kernel
theorem dX7_isPutRight_20 : decode cX7_isPutRight 20 = .ok (.bipush (-9), 2) := by decide +kernel
theorem dX7_isPutRight_22 : decode cX7_isPutRight 22 = .ok (.if_icmp .eq 7, 3) := by decide +kernel
theorem dX7_isPutRight_25 : decode cX7_isPutRight 25 = .ok (.iconst 1, 1) := by decide +kernel
theorem dX7_isPutRight_26 : decode cX7_isPutRight 26 = .ok (.goto 4, 3) := by decide +kernel
theorem dX7_isPutRight_29 : decode cX7_isPutRight 29 = .ok (.iconst 0, 1) := by decide +kernel
theorem dX7_isPutRight_30 : decode cX7_isPutRight 30 = .ok (.ireturn, 1) := by decide +kernel
theorem dX7_factsTogether_0 : decode cX7_factsTogether 0 = .ok (.iconst 0, 1) := by decide +kernel
theorem dX7_factsTogether_1 : decode cX7_factsTogether 1 = .ok (.istore_n 2, 1) := by decide +kernel
theorem dX7_factsTogether_2 : decode cX7_factsTogether 2 = .ok (.iconst 0, 1) := by decide +kernel
theorem dX7_factsTogether_3 : decode cX7_factsTogether 3 = .ok (.istore_n 3, 1) := by decide +kernel
theorem dX7_factsTogether_4 : decode cX7_factsTogether 4 = .ok (.iload_n 3, 1) := by decide +kernel
theorem dX7_factsTogether_5 : decode cX7_factsTogether 5 = .ok (.aload_n 0, 1) := by decide +kernel
theorem dX7_factsTogether_6 : decode cX7_factsTogether 6 = .ok (.getfield 19, 3) := by decide +kernel
theorem dX7_factsTogether_9 : decode cX7_factsTogether 9 = .ok (.invokevirtual 93, 3) := by decide +kernel
theorem dX7_factsTogether_12 : decode cX7_factsTogether 12 = .ok (.if_icmp .ge 28, 3) := by decide +kernel
theorem dX7_factsTogether_15 : decode cX7_factsTogether 15 = .ok (.iload_n 1, 1) := by decide +kernel
theorem dX7_factsTogether_16 : decode cX7_factsTogether 16 = .ok (.iload_n 3, 1) := by decide +kernel
theorem dX7_factsTogether_17 : decode cX7_factsTogether 17 = .ok (.invokestatic 146, 3) := by decide +kernel
theorem dX7_factsTogether_20 : decode cX7_factsTogether 20 = .ok (.ifCond .eq 14, 3) := by decide +kernel
theorem dX7_factsTogether_23 : decode cX7_factsTogether 23 = .ok (.iload_n 2, 1) := by decide +kernel
theorem dX7_factsTogether_24 : decode cX7_factsTogether 24 = .ok (.aload_n 0, 1) := by decide +kernel
theorem dX7_factsTogether_25 : decode cX7_factsTogether 25 = .ok (.getfield 28, 3) := by decide +kernel
theorem dX7_factsTogether_28 : decode cX7_factsTogether 28 = .ok (.iload_n 3, 1) := by decide +kernel
theorem dX7_factsTogether_29 : decode cX7_factsTogether 29 = .ok (.invokevirtual 116, 3) := by decide +kernel
theorem dX7_factsTogether_32 : decode cX7_factsTogether 32 = .ok (.ior, 1) := by decide +kernel
theorem dX7_factsTogether_33 : decode cX7_factsTogether 33 = .ok (.istore_n 2, 1) := by decide +kernel
theorem dX7_factsTogether_34 : decode cX7_factsTogether 34 = .ok (.iinc 3 1, 3) := by decide +kernel
theorem dX7_factsTogether_37 : decode cX7_factsTogether 37 = .ok (.goto (-33), 3) := by decide +kernel
theorem dX7_factsTogether_40 : decode cX7_factsTogether 40 = .ok (.aload_n 0, 1) := by decide +kernel
theorem dX7_factsTogether_41 : decode cX7_factsTogether 41 = .ok (.getfield 19, 3) := by decide +kernel
theorem dX7_factsTogether_44 : decode cX7_factsTogether 44 = .ok (.iload_n 2, 1) := by decide +kernel
theorem dX7_factsTogether_45 : decode cX7_factsTogether 45 = .ok (.invokevirtual 184, 3) := by decide +kernel
theorem dX7_factsTogether_48 : decode cX7_factsTogether 48 = .ok (.invokestatic 176, 3) := by decide +kernel
theorem dX7_factsTogether_51 : decode cX7_factsTogether 51 = .ok (.ireturn, 1) := by decide +kernel
theorem dX7_isBestWait_0 : decode cX7_isBestWait 0 = .ok (.iconst 0, 1) := by decide +kernel
theorem dX7_isBestWait_1 : decode cX7_isBestWait 1 = .ok (.istore_n 2, 1) := by decide +kernel
theorem dX7_isBestWait_2 : decode cX7_isBestWait 2 = .ok (.iload_n 2, 1) := by decide +kernel
theorem dX7_isBestWait_3 : decode cX7_isBestWait 3 = .ok (.iconst 3, 1) := by decide +kernel
theorem dX7_isBestWait_4 : decode cX7_isBestWait 4 = .ok (.if_icmp .gt 24, 3) := by decide +kernel
theorem dX7_isBestWait_7 : decode cX7_isBestWait 7 = .ok (.iload_n 2, 1) := by decide +kernel
theorem dX7_isBestWait_8 : decode cX7_isBestWait 8 = .ok (.iload_n 1, 1) := by decide +kernel
theorem dX7_isBestWait_9 : decode cX7_isBestWait 9 = .ok (.invokestatic 250, 3) := by decide +kernel
theorem dX7_isBestWait_12 : decode cX7_isBestWait 12 = .ok (.iload_n 0, 1) := by decide +kernel
theorem dX7_isBestWait_13 : decode cX7_isBestWait 13 = .ok (.iload_n 1, 1) := by decide +kernel
theorem dX7_isBestWait_14 : decode cX7_isBestWait 14 = .ok (.invokestatic 250, 3) := by decide +kernel
theorem dX7_isBestWait_17 : decode cX7_isBestWait 17 = .ok (.if_icmp .ge 5, 3) := by decide +kernel
theorem dX7_isBestWait_20 : decode cX7_isBestWait 20 = .ok (.iconst 0, 1) := by decide +kernel
theorem dX7_isBestWait_21 : decode cX7_isBestWait 21 = .ok (.ireturn, 1) := by decide +kernel
theorem dX7_isBestWait_22 : decode cX7_isBestWait 22 = .ok (.iinc 2 1, 3) := by decide +kernel
theorem dX7_isBestWait_25 : decode cX7_isBestWait 25 = .ok (.goto (-23), 3) := by decide +kernel
theorem dX7_isBestWait_28 : decode cX7_isBestWait 28 = .ok (.iconst 1, 1) := by decide +kernel
theorem dX7_isBestWait_29 : decode cX7_isBestWait 29 = .ok (.ireturn, 1) := by decide +kernel
theorem dX7_waitCost_0 : decode cX7_waitCost 0 = .ok (.iload_n 0, 1) := by decide +kernel
theorem dX7_waitCost_1 : decode cX7_waitCost 1 = .ok (.iconst 3, 1) := by decide +kernel
theorem dX7_waitCost_2 : decode cX7_waitCost 2 = .ok (.if_icmp .ne 11, 3) := by decide +kernel
theorem dX7_waitCost_5 : decode cX7_waitCost 5 = .ok (.iload_n 1, 1) := by decide +kernel
theorem dX7_waitCost_6 : decode cX7_waitCost 6 = .ok (.iconst 3, 1) := by decide +kernel
theorem dX7_waitCost_7 : decode cX7_waitCost 7 = .ok (.if_icmp .ne 6, 3) := by decide +kernel
theorem dX7_waitCost_10 : decode cX7_waitCost 10 = .ok (.bipush 6, 2) := by decide +kernel
theorem dX7_waitCost_12 : decode cX7_waitCost 12 = .ok (.ireturn, 1) := by decide +kernel
theorem dX7_waitCost_13 : decode cX7_waitCost 13 = .ok (.iload_n 0, 1) := by decide +kernel
theorem dX7_waitCost_14 : decode cX7_waitCost 14 = .ok (.iload_n 1, 1) := by decide +kernel
theorem dX7_waitCost_15 : decode cX7_waitCost 15 = .ok (.invokestatic 253, 3) := by decide +kernel
theorem dX7_waitCost_18 : decode cX7_waitCost 18 = .ok (.iload_n 0, 1) := by decide +kernel
theorem dX7_waitCost_19 : decode cX7_waitCost 19 = .ok (.iload_n 1, 1) := by decide +kernel
theorem dX7_waitCost_20 : decode cX7_waitCost 20 = .ok (.if_icmp .gt 7, 3) := by decide +kernel
theorem dX7_waitCost_23 : decode cX7_waitCost 23 = .ok (.iconst 3, 1) := by decide +kernel
theorem dX7_waitCost_24 : decode cX7_waitCost 24 = .ok (.goto 4, 3) := by decide +kernel
theorem dX7_waitCost_27 : decode cX7_waitCost 27 = .ok (.iconst 1, 1) := by decide +kernel
theorem dX7_waitCost_28 : decode cX7_waitCost 28 = .ok (.iadd, 1) := by decide +kernel
theorem dX7_waitCost_29 : decode cX7_waitCost 29 = .ok (.ireturn, 1) := by decide +kernel
theorem dX7_contains_0 : decode cX7_contains 0 = .ok (.iload_n 0, 1) := by decide +kernel
theorem dX7_contains_1 : decode cX7_contains 1 = .ok (.iload_n 1, 1) := by decide +kernel
theorem dX7_contains_2 : decode cX7_contains 2 = .ok (.ishr, 1) := by decide +kernel
theorem dX7_contains_3 : decode cX7_contains 3 = .ok (.iconst 1, 1) := by decide +kernel
theorem dX7_contains_4 : decode cX7_contains 4 = .ok (.iand, 1) := by decide +kernel
theorem dX7_contains_5 : decode cX7_contains 5 = .ok (.iconst 1, 1) := by decide +kernel
theorem dX7_contains_6 : decode cX7_contains 6 = .ok (.if_icmp .ne 7, 3) := by decide +kernel
theorem dX7_contains_9 : decode cX7_contains 9 = .ok (.iconst 1, 1) := by decide +kernel
theorem dX7_contains_10 : decode cX7_contains 10 = .ok (.goto 4, 3) := by decide +kernel
theorem dX7_contains_13 : decode cX7_contains 13 = .ok (.iconst 0, 1) := by decide +kernel
theorem dX7_contains_14 : decode cX7_contains 14 = .ok (.ireturn, 1) := by decide +kernel
theorem dX7_isSmaller_0 : decode cX7_isSmaller 0 = .ok (.iload_n 1, 1) := by decide +kernel
theorem dX7_isSmaller_1 : decode cX7_isSmaller 1 = .ok (.bipush (-9), 2) := by decide +kernel
theorem dX7_isSmaller_3 : decode cX7_isSmaller 3 = .ok (.if_icmp .eq 14, 3) := by decide +kernel
theorem dX7_isSmaller_6 : decode cX7_isSmaller 6 = .ok (.iload_n 0, 1) := by decide +kernel
theorem dX7_isSmaller_7 : decode cX7_isSmaller 7 = .ok (.invokestatic 176, 3) := by decide +kernel
theorem dX7_isSmaller_10 : decode cX7_isSmaller 10 = .ok (.iload_n 1, 1) := by decide +kernel
theorem dX7_isSmaller_11 : decode cX7_isSmaller 11 = .ok (.invokestatic 176, 3) := by decide +kernel
theorem dX7_isSmaller_14 : decode cX7_isSmaller 14 = .ok (.if_icmp .ge 7, 3) := by decide +kernel
theorem dX7_isSmaller_17 : decode cX7_isSmaller 17 = .ok (.iconst 1, 1) := by decide +kernel
theorem dX7_isSmaller_18 : decode cX7_isSmaller 18 = .ok (.goto 4, 3) := by decide +kernel
theorem dX7_isSmaller_21 : decode cX7_isSmaller 21 = .ok (.iconst 0, 1) := by decide +kernel
theorem dX7_isSmaller_22 : decode cX7_isSmaller 22 = .ok (.ireturn, 1) := by decide +kernel
theorem dX7_factorial_0 : decode cX7_factorial 0 = .ok (.iconst 1, 1) := by decide +kernel
theorem dX7_factorial_1 : decode cX7_factorial 1 = .ok (.istore_n 1, 1) := by decide +kernel
theorem dX7_factorial_2 : decode cX7_factorial 2 = .ok (.iconst 2, 1) := by decide +kernel
theorem dX7_factorial_3 : decode cX7_factorial 3 = .ok (.istore_n 2, 1) := by decide +kernel
theorem dX7_factorial_4 : decode cX7_factorial 4 = .ok (.iload_n 2, 1) := by decide +kernel
theorem dX7_factorial_5 : decode cX7_factorial 5 = .ok (.iload_n 0, 1) := by decide +kernel
theorem dX7_factorial_6 : decode cX7_factorial 6 = .ok (.if_icmp .gt 13, 3) := by decide +kernel
theorem dX7_factorial_9 : decode cX7_factorial 9 = .ok (.iload_n 1, 1) := by decide +kernel
theorem dX7_factorial_10 : decode cX7_factorial 10 = .ok (.iload_n 2, 1) := by decide +kernel
theorem dX7_factorial_11 : decode cX7_factorial 11 = .ok (.imul, 1) := by decide +kernel
theorem dX7_factorial_12 : decode cX7_factorial 12 = .ok (.istore_n 1, 1) := by decide +kernel
theorem dX7_factorial_13 : decode cX7_factorial 13 = .ok (.iinc 2 1, 3) := by decide +kernel
theorem dX7_factorial_16 : decode cX7_factorial 16 = .ok (.goto (-12), 3) := by decide +kernel
theorem dX7_factorial_19 : decode cX7_factorial 19 = .ok (.iload_n 1, 1) := by decide +kernel
theorem dX7_factorial_20 : decode cX7_factorial 20 = .ok (.ireturn, 1) := by decide +kernel
theorem dX7_power_0 : decode cX7_power 0 = .ok (.iconst 1, 1) := by decide +kernel
theorem dX7_power_1 : decode cX7_power 1 = .ok (.istore_n 2, 1) := by decide +kernel
theorem dX7_power_2 : decode cX7_power 2 = .ok (.iconst 0, 1) := by decide +kernel
theorem dX7_power_3 : decode cX7_power 3 = .ok (.istore_n 3, 1) := by decide +kernel
theorem dX7_power_4 : decode cX7_power 4 = .ok (.iload_n 3, 1) := by decide +kernel
theorem dX7_power_5 : decode cX7_power 5 = .ok (.iload_n 1, 1) := by decide +kernel
theorem dX7_power_6 : decode cX7_power 6 = .ok (.if_icmp .ge 13, 3) := by decide +kernel
theorem dX7_power_9 : decode cX7_power 9 = .ok (.iload_n 2, 1) := by decide +kernel
theorem dX7_power_10 : decode cX7_power 10 = .ok (.iload_n 0, 1) := by decide +kernel
theorem dX7_power_11 : decode cX7_power 11 = .ok (.imul, 1) := by decide +kernel
theorem dX7_power_12 : decode cX7_power 12 = .ok (.istore_n 2, 1) := by decide +kernel
theorem dX7_power_13 : decode cX7_power 13 = .ok (.iinc 3 1, 3) := by decide +kernel
theorem dX7_power_16 : decode cX7_power 16 = .ok (.goto (-12), 3) := by decide +kernel
theorem dX7_power_19 : decode cX7_power 19 = .ok (.iload_n 2, 1) := by decide +kernel
theorem dX7_power_20 : decode cX7_power 20 = .ok (.ireturn, 1) := by decide +kernel
theorem dX7_thousands_0 : decode cX7_thousands 0 = .ok (.sipush 1000, 3) := by decide +kernel
theorem dX7_thousands_3 : decode cX7_thousands 3 = .ok (.iload_n 0, 1) := by decide +kernel
theorem dX7_thousands_4 : decode cX7_thousands 4 = .ok (.invokestatic 220, 3) := by decide +kernel
theorem dX7_thousands_7 : decode cX7_thousands 7 = .ok (.ireturn, 1) := by decide +kernel
theorem dX7_lowestTerm_0 : decode cX7_lowestTerm 0 = .ok (.iload_n 0, 1) := by decide +kernel
theorem dX7_lowestTerm_1 : decode cX7_lowestTerm 1 = .ok (.iload_n 1, 1) := by decide +kernel
theorem dX7_lowestTerm_2 : decode cX7_lowestTerm 2 = .ok (.invokestatic 256, 3) := by decide +kernel
theorem dX7_lowestTerm_5 : decode cX7_lowestTerm 5 = .ok (.iconst 1, 1) := by decide +kernel
theorem dX7_lowestTerm_6 : decode cX7_lowestTerm 6 = .ok (.invokestatic 193, 3) := by decide +kernel
theorem dX7_lowestTerm_9 : decode cX7_lowestTerm 9 = .ok (.istore_n 3, 1) := by decide +kernel
theorem dX7_lowestTerm_10 : decode cX7_lowestTerm 10 = .ok (.iload_n 2, 1) := by decide +kernel
theorem dX7_lowestTerm_11 : decode cX7_lowestTerm 11 = .ok (.ifCond .eq 7, 3) := by decide +kernel
theorem dX7_lowestTerm_14 : decode cX7_lowestTerm 14 = .ok (.iload_n 0, 1) := by decide +kernel
theorem dX7_lowestTerm_15 : decode cX7_lowestTerm 15 = .ok (.goto 4, 3) := by decide +kernel
theorem dX7_lowestTerm_18 : decode cX7_lowestTerm 18 = .ok (.iload_n 1, 1) := by decide +kernel
theorem dX7_lowestTerm_19 : decode cX7_lowestTerm 19 = .ok (.iload_n 3, 1) := by decide +kernel
theorem dX7_lowestTerm_20 : decode cX7_lowestTerm 20 = .ok (.idiv, 1) := by decide +kernel
theorem dX7_lowestTerm_21 : decode cX7_lowestTerm 21 = .ok (.ireturn, 1) := by decide +kernel
theorem dX7_commonDivisor_0 : decode cX7_commonDivisor 0 = .ok (.iload_n 0, 1) := by decide +kernel
theorem dX7_commonDivisor_1 : decode cX7_commonDivisor 1 = .ok (.istore_n 2, 1) := by decide +kernel
theorem dX7_commonDivisor_2 : decode cX7_commonDivisor 2 = .ok (.iload_n 1, 1) := by decide +kernel
theorem dX7_commonDivisor_3 : decode cX7_commonDivisor 3 = .ok (.istore_n 3, 1) := by decide +kernel
theorem dX7_commonDivisor_4 : decode cX7_commonDivisor 4 = .ok (.iconst 0, 1) := by decide +kernel
theorem dX7_commonDivisor_5 : decode cX7_commonDivisor 5 = .ok (.istore 4, 2) := by decide +kernel
theorem dX7_commonDivisor_7 : decode cX7_commonDivisor 7 = .ok (.iload 4, 2) := by decide +kernel
theorem dX7_commonDivisor_9 : decode cX7_commonDivisor 9 = .ok (.bipush 64, 2) := by decide +kernel
theorem dX7_commonDivisor_11 : decode cX7_commonDivisor 11 = .ok (.if_icmp .ge 23, 3) := by decide +kernel
theorem dX7_commonDivisor_14 : decode cX7_commonDivisor 14 = .ok (.iload_n 3, 1) := by decide +kernel
theorem dX7_commonDivisor_15 : decode cX7_commonDivisor 15 = .ok (.ifCond .eq 19, 3) := by decide +kernel
theorem dX7_commonDivisor_18 : decode cX7_commonDivisor 18 = .ok (.iload_n 2, 1) := by decide +kernel
theorem dX7_commonDivisor_19 : decode cX7_commonDivisor 19 = .ok (.iload_n 3, 1) := by decide +kernel
theorem dX7_commonDivisor_20 : decode cX7_commonDivisor 20 = .ok (.irem, 1) := by decide +kernel
theorem dX7_commonDivisor_21 : decode cX7_commonDivisor 21 = .ok (.istore 5, 2) := by decide +kernel
theorem dX7_commonDivisor_23 : decode cX7_commonDivisor 23 = .ok (.iload_n 3, 1) := by decide +kernel
theorem dX7_commonDivisor_24 : decode cX7_commonDivisor 24 = .ok (.istore_n 2, 1) := by decide +kernel
theorem dX7_commonDivisor_25 : decode cX7_commonDivisor 25 = .ok (.iload 5, 2) := by decide +kernel
theorem dX7_commonDivisor_27 : decode cX7_commonDivisor 27 = .ok (.istore_n 3, 1) := by decide +kernel
theorem dX7_commonDivisor_28 : decode cX7_commonDivisor 28 = .ok (.iinc 4 1, 3) := by decide +kernel
theorem dX7_commonDivisor_31 : decode cX7_commonDivisor 31 = .ok (.goto (-24), 3) := by decide +kernel
theorem dX7_commonDivisor_34 : decode cX7_commonDivisor 34 = .ok (.iload_n 2, 1) := by decide +kernel
theorem dX7_commonDivisor_35 : decode cX7_commonDivisor 35 = .ok (.ireturn, 1) := by decide +kernel
end
section
theorem dX8_init_0 : decode cX8_init 0 = .ok (.aload_n 0, 1) := by decide +kernel
theorem dX8_init_1 : decode cX8_init 1 = .ok (.invokespecial 1, 3) := by decide +kernel
theorem dX8_init_4 : decode cX8_init 4 = .ok (.aload_n 0, 1) := by decide +kernel
theorem dX8_init_5 : decode cX8_init 5 = .ok (.bipush 40, 2) := by decide +kernel
theorem dX8_init_7 : decode cX8_init 7 = .ok (.newarray .int, 2) := by decide +kernel
theorem dX8_init_9 : decode cX8_init 9 = .ok (.putfield 7, 3) := by decide +kernel
theorem dX8_init_12 : decode cX8_init 12 = .ok (.aload_n 0, 1) := by decide +kernel
theorem dX8_init_13 : decode cX8_init 13 = .ok (.iconst 5, 1) := by decide +kernel
theorem dX8_init_14 : decode cX8_init 14 = .ok (.newarray .int, 2) := by decide +kernel
theorem dX8_init_16 : decode cX8_init 16 = .ok (.putfield 13, 3) := by decide +kernel
theorem dX8_init_19 : decode cX8_init 19 = .ok (.aload_n 0, 1) := by decide +kernel
theorem dX8_init_20 : decode cX8_init 20 = .ok (.bipush 12, 2) := by decide +kernel
theorem dX8_init_22 : decode cX8_init 22 = .ok (.newarray .int, 2) := by decide +kernel
theorem dX8_init_24 : decode cX8_init 24 = .ok (.putfield 16, 3) := by decide +kernel
theorem dX8_init_27 : decode cX8_init 27 = .ok (.aload_n 0, 1) := by decide +kernel
theorem dX8_init_28 : decode cX8_init 28 = .ok (.iconst 5, 1) := by decide +kernel
theorem dX8_init_29 : decode cX8_init 29 = .ok (.newarray .int, 2) := by decide +kernel
theorem dX8_init_31 : decode cX8_init 31 = .ok (.putfield 19, 3) := by decide +kernel
theorem dX8_init_34 : decode cX8_init 34 = .ok (.aload_n 0, 1) := by decide +kernel
theorem dX8_init_35 : decode cX8_init 35 = .ok (.iconst 5, 1) := by decide +kernel
theorem dX8_init_36 : decode cX8_init 36 = .ok (.newarray .int, 2) := by decide +kernel
theorem dX8_init_38 : decode cX8_init 38 = .ok (.putfield 22, 3) := by decide +kernel
theorem dX8_init_41 : decode cX8_init 41 = .ok (.aload_n 0, 1) := by decide +kernel
theorem dX8_init_42 : decode cX8_init 42 = .ok (.bipush 12, 2) := by decide +kernel
theorem dX8_init_44 : decode cX8_init 44 = .ok (.newarray .int, 2) := by decide +kernel
theorem dX8_init_46 : decode cX8_init 46 = .ok (.putfield 25, 3) := by decide +kernel
theorem dX8_init_49 : decode cX8_init 49 = .ok (.aload_n 0, 1) := by decide +kernel
theorem dX8_init_50 : decode cX8_init 50 = .ok (.bipush 15, 2) := by decide +kernel
theorem dX8_init_52 : decode cX8_init 52 = .ok (.newarray .int, 2) := by decide +kernel
theorem dX8_init_54 : decode cX8_init 54 = .ok (.putfield 28, 3) := by decide +kernel
theorem dX8_init_57 : decode cX8_init 57 = .ok (.aload_n 0, 1) := by decide +kernel
theorem dX8_init_58 : decode cX8_init 58 = .ok (.bipush 15, 2) := by decide +kernel
theorem dX8_init_60 : decode cX8_init 60 = .ok (.newarray .int, 2) := by decide +kernel
theorem dX8_init_62 : decode cX8_init 62 = .ok (.putfield 31, 3) := by decide +kernel
theorem dX8_init_65 : decode cX8_init 65 = .ok (.aload_n 0, 1) := by decide +kernel
theorem dX8_init_66 : decode cX8_init 66 = .ok (.sipush 210, 3) := by decide +kernel
theorem dX8_init_69 : decode cX8_init 69 = .ok (.newarray .int, 2) := by decide +kernel
theorem dX8_init_71 : decode cX8_init 71 = .ok (.putfield 34, 3) := by decide +kernel
theorem dX8_init_74 : decode cX8_init 74 = .ok (.aload_n 0, 1) := by decide +kernel
theorem dX8_init_75 : decode cX8_init 75 = .ok (.bipush 30, 2) := by decide +kernel
theorem dX8_init_77 : decode cX8_init 77 = .ok (.newarray .int, 2) := by decide +kernel
theorem dX8_init_79 : decode cX8_init 79 = .ok (.putfield 37, 3) := by decide +kernel
theorem dX8_init_82 : decode cX8_init 82 = .ok (.aload_n 0, 1) := by decide +kernel
theorem dX8_init_83 : decode cX8_init 83 = .ok (.iconst 2, 1) := by decide +kernel
theorem dX8_init_84 : decode cX8_init 84 = .ok (.newarray .boolean, 2) := by decide +kernel
theorem dX8_init_86 : decode cX8_init 86 = .ok (.putfield 40, 3) := by decide +kernel
theorem dX8_init_89 : decode cX8_init 89 = .ok (.aload_n 0, 1) := by decide +kernel
theorem dX8_init_90 : decode cX8_init 90 = .ok (.bipush 6, 2) := by decide +kernel
theorem dX8_init_92 : decode cX8_init 92 = .ok (.newarray .int, 2) := by decide +kernel
theorem dX8_init_94 : decode cX8_init 94 = .ok (.putfield 44, 3) := by decide +kernel
theorem dX8_init_97 : decode cX8_init 97 = .ok (.aload_n 0, 1) := by decide +kernel
theorem dX8_init_98 : decode cX8_init 98 = .ok (.bipush 6, 2) := by decide +kernel
theorem dX8_init_100 : decode cX8_init 100 = .ok (.newarray .int, 2) := by decide +kernel
theorem dX8_init_102 : decode cX8_init 102 = .ok (.putfield 47, 3) := by decide +kernel
theorem dX8_init_105 : decode cX8_init 105 = .ok (.aload_n 0, 1) := by decide +kernel
theorem dX8_init_106 : decode cX8_init 106 = .ok (.bipush 32, 2) := by decide +kernel
theorem dX8_init_108 : decode cX8_init 108 = .ok (.newarray .int, 2) := by decide +kernel
theorem dX8_init_110 : decode cX8_init 110 = .ok (.putfield 50, 3) := by decide +kernel
theorem dX8_init_113 : decode cX8_init 113 = .ok (.return_, 1) := by decide +kernel
theorem dX8_in_0 : decode cX8_in 0 = .ok (.lload_n 0, 1) := by decide +kernel
theorem dX8_in_1 : decode cX8_in 1 = .ok (.lload_n 2, 1) := by decide +kernel
theorem dX8_in_2 : decode cX8_in 2 = .ok (.lcmp, 1) := by decide +kernel
theorem dX8_in_3 : decode cX8_in 3 = .ok (.ifCond .lt 14, 3) := by decide +kernel
theorem dX8_in_6 : decode cX8_in 6 = .ok (.lload_n 0, 1) := by decide +kernel
theorem dX8_in_7 : decode cX8_in 7 = .ok (.lload 4, 2) := by decide +kernel
theorem dX8_in_9 : decode cX8_in 9 = .ok (.lcmp, 1) := by decide +kernel
theorem dX8_in_10 : decode cX8_in 10 = .ok (.ifCond .gt 7, 3) := by decide +kernel
theorem dX8_in_13 : decode cX8_in 13 = .ok (.iconst 1, 1) := by decide +kernel
theorem dX8_in_14 : decode cX8_in 14 = .ok (.goto 4, 3) := by decide +kernel
theorem dX8_in_17 : decode cX8_in 17 = .ok (.iconst 0, 1) := by decide +kernel
theorem dX8_in_18 : decode cX8_in 18 = .ok (.ireturn, 1) := by decide +kernel
theorem dX8_has_0 : decode cX8_has 0 = .ok (.iload_n 0, 1) := by decide +kernel
theorem dX8_has_1 : decode cX8_has 1 = .ok (.iload_n 1, 1) := by decide +kernel
theorem dX8_has_2 : decode cX8_has 2 = .ok (.ishr, 1) := by decide +kernel
theorem dX8_has_3 : decode cX8_has 3 = .ok (.iconst 1, 1) := by decide +kernel
theorem dX8_has_4 : decode cX8_has 4 = .ok (.iand, 1) := by decide +kernel
theorem dX8_has_5 : decode cX8_has 5 = .ok (.iconst 1, 1) := by decide +kernel
theorem dX8_has_6 : decode cX8_has 6 = .ok (.if_icmp .ne 7, 3) := by decide +kernel
theorem dX8_has_9 : decode cX8_has 9 = .ok (.iconst 1, 1) := by decide +kernel
theorem dX8_has_10 : decode cX8_has 10 = .ok (.goto 4, 3) := by decide +kernel
theorem dX8_has_13 : decode cX8_has 13 = .ok (.iconst 0, 1) := by decide +kernel
theorem dX8_has_14 : decode cX8_has 14 = .ok (.ireturn, 1) := by decide +kernel
theorem dX8_many_0 : decode cX8_many 0 = .ok (.iconst 0, 1) := by decide +kernel
theorem dX8_many_1 : decode cX8_many 1 = .ok (.istore_n 1, 1) := by decide +kernel
theorem dX8_many_2 : decode cX8_many 2 = .ok (.iconst 0, 1) := by decide +kernel
theorem dX8_many_3 : decode cX8_many 3 = .ok (.istore_n 2, 1) := by decide +kernel
theorem dX8_many_4 : decode cX8_many 4 = .ok (.iload_n 2, 1) := by decide +kernel
theorem dX8_many_5 : decode cX8_many 5 = .ok (.bipush 6, 2) := by decide +kernel
theorem dX8_many_7 : decode cX8_many 7 = .ok (.if_icmp .ge 17, 3) := by decide +kernel
theorem dX8_many_10 : decode cX8_many 10 = .ok (.iload_n 1, 1) := by decide +kernel
theorem dX8_many_11 : decode cX8_many 11 = .ok (.iload_n 0, 1) := by decide +kernel
theorem dX8_many_12 : decode cX8_many 12 = .ok (.iload_n 2, 1) := by decide +kernel
theorem dX8_many_13 : decode cX8_many 13 = .ok (.ishr, 1) := by decide +kernel
theorem dX8_many_14 : decode cX8_many 14 = .ok (.iconst 1, 1) := by decide +kernel
theorem dX8_many_15 : decode cX8_many 15 = .ok (.iand, 1) := by decide +kernel
theorem dX8_many_16 : decode cX8_many 16 = .ok (.iadd, 1) := by decide +kernel
theorem dX8_many_17 : decode cX8_many 17 = .ok (.istore_n 1, 1) := by decide +kernel
theorem dX8_many_18 : decode cX8_many 18 = .ok (.iinc 2 1, 3) := by decide +kernel
theorem dX8_many_21 : decode cX8_many 21 = .ok (.goto (-17), 3) := by decide +kernel
theorem dX8_many_24 : decode cX8_many 24 = .ok (.iload_n 1, 1) := by decide +kernel
theorem dX8_many_25 : decode cX8_many 25 = .ok (.ireturn, 1) := by decide +kernel
theorem dX8_noPerson_0 : decode cX8_noPerson 0 = .ok (.iload_n 1, 1) := by decide +kernel
theorem dX8_noPerson_1 : decode cX8_noPerson 1 = .ok (.i2l, 1) := by decide +kernel
theorem dX8_noPerson_2 : decode cX8_noPerson 2 = .ok (.lconst 0, 1) := by decide +kernel
theorem dX8_noPerson_3 : decode cX8_noPerson 3 = .ok (.aload_n 0, 1) := by decide +kernel
theorem dX8_noPerson_4 : decode cX8_noPerson 4 = .ok (.getfield 57, 3) := by decide +kernel
theorem dX8_noPerson_7 : decode cX8_noPerson 7 = .ok (.iconst 1, 1) := by decide +kernel
theorem dX8_noPerson_8 : decode cX8_noPerson 8 = .ok (.isub, 1) := by decide +kernel
theorem dX8_noPerson_9 : decode cX8_noPerson 9 = .ok (.i2l, 1) := by decide +kernel
theorem dX8_noPerson_10 : decode cX8_noPerson 10 = .ok (.invokestatic 60, 3) := by decide +kernel
theorem dX8_noPerson_13 : decode cX8_noPerson 13 = .ok (.ifCond .ne 7, 3) := by decide +kernel
theorem dX8_noPerson_16 : decode cX8_noPerson 16 = .ok (.iconst 1, 1) := by decide +kernel
theorem dX8_noPerson_17 : decode cX8_noPerson 17 = .ok (.goto 4, 3) := by decide +kernel
theorem dX8_noPerson_20 : decode cX8_noPerson 20 = .ok (.iconst 0, 1) := by decide +kernel
theorem dX8_noPerson_21 : decode cX8_noPerson 21 = .ok (.ireturn, 1) := by decide +kernel
theorem dX8_noFact_0 : decode cX8_noFact 0 = .ok (.iload_n 0, 1) := by decide +kernel
theorem dX8_noFact_1 : decode cX8_noFact 1 = .ok (.i2l, 1) := by decide +kernel
theorem dX8_noFact_2 : decode cX8_noFact 2 = .ok (.lconst 0, 1) := by decide +kernel
theorem dX8_noFact_3 : decode cX8_noFact 3 = .ok (.ldc2_w 64, 3) := by decide +kernel
theorem dX8_noFact_6 : decode cX8_noFact 6 = .ok (.invokestatic 60, 3) := by decide +kernel
theorem dX8_noFact_9 : decode cX8_noFact 9 = .ok (.ifCond .ne 7, 3) := by decide +kernel
theorem dX8_noFact_12 : decode cX8_noFact 12 = .ok (.iconst 1, 1) := by decide +kernel
theorem dX8_noFact_13 : decode cX8_noFact 13 = .ok (.goto 4, 3) := by decide +kernel
theorem dX8_noFact_16 : decode cX8_noFact 16 = .ok (.iconst 0, 1) := by decide +kernel
theorem dX8_noFact_17 : decode cX8_noFact 17 = .ok (.ireturn, 1) := by decide +kernel
theorem dX8_write_0 : decode cX8_write 0 = .ok (.aload_n 0, 1) := by decide +kernel
theorem dX8_write_1 : decode cX8_write 1 = .ok (.iconst 0, 1) := by decide +kernel
theorem dX8_write_2 : decode cX8_write 2 = .ok (.putfield 53, 3) := by decide +kernel
theorem dX8_write_5 : decode cX8_write 5 = .ok (.iload_n 1, 1) := by decide +kernel
theorem dX8_write_6 : decode cX8_write 6 = .ok (.i2l, 1) := by decide +kernel
theorem dX8_write_7 : decode cX8_write 7 = .ok (.lconst 0, 1) := by decide +kernel
theorem dX8_write_8 : decode cX8_write 8 = .ok (.ldc2_w 66, 3) := by decide +kernel
theorem dX8_write_11 : decode cX8_write 11 = .ok (.invokestatic 60, 3) := by decide +kernel
theorem dX8_write_14 : decode cX8_write 14 = .ok (.ifCond .ne 6, 3) := by decide +kernel
theorem dX8_write_17 : decode cX8_write 17 = .ok (.bipush (-2), 2) := by decide +kernel
theorem dX8_write_19 : decode cX8_write 19 = .ok (.ireturn, 1) := by decide +kernel
theorem dX8_write_20 : decode cX8_write 20 = .ok (.aload_n 0, 1) := by decide +kernel
theorem dX8_write_21 : decode cX8_write 21 = .ok (.getfield 68, 3) := by decide +kernel
theorem dX8_write_24 : decode cX8_write 24 = .ok (.bipush 40, 2) := by decide +kernel
theorem dX8_write_26 : decode cX8_write 26 = .ok (.if_icmp .ne 6, 3) := by decide +kernel
theorem dX8_write_29 : decode cX8_write 29 = .ok (.bipush (-4), 2) := by decide +kernel
theorem dX8_write_31 : decode cX8_write 31 = .ok (.ireturn, 1) := by decide +kernel
theorem dX8_write_32 : decode cX8_write 32 = .ok (.aload_n 0, 1) := by decide +kernel
theorem dX8_write_33 : decode cX8_write 33 = .ok (.getfield 7, 3) := by decide +kernel
theorem dX8_write_36 : decode cX8_write 36 = .ok (.aload_n 0, 1) := by decide +kernel
theorem dX8_write_37 : decode cX8_write 37 = .ok (.getfield 68, 3) := by decide +kernel
theorem dX8_write_40 : decode cX8_write 40 = .ok (.iload_n 1, 1) := by decide +kernel
theorem dX8_write_41 : decode cX8_write 41 = .ok (.iastore, 1) := by decide +kernel
theorem dX8_write_42 : decode cX8_write 42 = .ok (.aload_n 0, 1) := by decide +kernel
theorem dX8_write_43 : decode cX8_write 43 = .ok (.dup, 1) := by decide +kernel
theorem dX8_write_44 : decode cX8_write 44 = .ok (.getfield 68, 3) := by decide +kernel
theorem dX8_write_47 : decode cX8_write 47 = .ok (.iconst 1, 1) := by decide +kernel
theorem dX8_write_48 : decode cX8_write 48 = .ok (.iadd, 1) := by decide +kernel
theorem dX8_write_49 : decode cX8_write 49 = .ok (.putfield 68, 3) := by decide +kernel
theorem dX8_write_52 : decode cX8_write 52 = .ok (.aload_n 0, 1) := by decide +kernel
theorem dX8_write_53 : decode cX8_write 53 = .ok (.getfield 68, 3) := by decide +kernel
theorem dX8_write_56 : decode cX8_write 56 = .ok (.ireturn, 1) := by decide +kernel
theorem dX8_wipe_0 : decode cX8_wipe 0 = .ok (.aload_n 0, 1) := by decide +kernel
theorem dX8_wipe_1 : decode cX8_wipe 1 = .ok (.iconst 0, 1) := by decide +kernel
theorem dX8_wipe_2 : decode cX8_wipe 2 = .ok (.putfield 53, 3) := by decide +kernel
theorem dX8_wipe_5 : decode cX8_wipe 5 = .ok (.aload_n 0, 1) := by decide +kernel
theorem dX8_wipe_6 : decode cX8_wipe 6 = .ok (.getfield 68, 3) := by decide +kernel
theorem dX8_wipe_9 : decode cX8_wipe 9 = .ok (.istore_n 1, 1) := by decide +kernel
theorem dX8_wipe_10 : decode cX8_wipe 10 = .ok (.aload_n 0, 1) := by decide +kernel
theorem dX8_wipe_11 : decode cX8_wipe 11 = .ok (.iconst 0, 1) := by decide +kernel
theorem dX8_wipe_12 : decode cX8_wipe 12 = .ok (.putfield 68, 3) := by decide +kernel
theorem dX8_wipe_15 : decode cX8_wipe 15 = .ok (.iload_n 1, 1) := by decide +kernel
theorem dX8_wipe_16 : decode cX8_wipe 16 = .ok (.ireturn, 1) := by decide +kernel
theorem dX8_sign_0 : decode cX8_sign 0 = .ok (.aload_n 0, 1) := by decide +kernel
theorem dX8_sign_1 : decode cX8_sign 1 = .ok (.getfield 71, 3) := by decide +kernel
theorem dX8_sign_4 : decode cX8_sign 4 = .ok (.aload_n 0, 1) := by decide +kernel
theorem dX8_sign_5 : decode cX8_sign 5 = .ok (.getfield 68, 3) := by decide +kernel
theorem dX8_sign_8 : decode cX8_sign 8 = .ok (.if_icmp .eq 24, 3) := by decide +kernel
theorem dX8_sign_11 : decode cX8_sign 11 = .ok (.aload_n 0, 1) := by decide +kernel
theorem dX8_sign_12 : decode cX8_sign 12 = .ok (.getfield 7, 3) := by decide +kernel
theorem dX8_sign_15 : decode cX8_sign 15 = .ok (.aload_n 0, 1) := by decide +kernel
theorem dX8_sign_16 : decode cX8_sign 16 = .ok (.getfield 71, 3) := by decide +kernel
theorem dX8_sign_19 : decode cX8_sign 19 = .ok (.iaload, 1) := by decide +kernel
theorem dX8_sign_20 : decode cX8_sign 20 = .ok (.iload_n 1, 1) := by decide +kernel
theorem dX8_sign_21 : decode cX8_sign 21 = .ok (.isub, 1) := by decide +kernel
theorem dX8_sign_22 : decode cX8_sign 22 = .ok (.i2l, 1) := by decide +kernel
theorem dX8_sign_23 : decode cX8_sign 23 = .ok (.lconst 0, 1) := by decide +kernel
theorem dX8_sign_24 : decode cX8_sign 24 = .ok (.iload_n 2, 1) := by decide +kernel
theorem dX8_sign_25 : decode cX8_sign 25 = .ok (.i2l, 1) := by decide +kernel
theorem dX8_sign_26 : decode cX8_sign 26 = .ok (.invokestatic 60, 3) := by decide +kernel
theorem dX8_sign_29 : decode cX8_sign 29 = .ok (.ifCond .ne 6, 3) := by decide +kernel
theorem dX8_sign_32 : decode cX8_sign 32 = .ok (.bipush (-9), 2) := by decide +kernel
theorem dX8_sign_34 : decode cX8_sign 34 = .ok (.ireturn, 1) := by decide +kernel
theorem dX8_sign_35 : decode cX8_sign 35 = .ok (.aload_n 0, 1) := by decide +kernel
theorem dX8_sign_36 : decode cX8_sign 36 = .ok (.dup, 1) := by decide +kernel
theorem dX8_sign_37 : decode cX8_sign 37 = .ok (.getfield 71, 3) := by decide +kernel
theorem dX8_sign_40 : decode cX8_sign 40 = .ok (.iconst 1, 1) := by decide +kernel
theorem dX8_sign_41 : decode cX8_sign 41 = .ok (.iadd, 1) := by decide +kernel
theorem dX8_sign_42 : decode cX8_sign 42 = .ok (.putfield 71, 3) := by decide +kernel
theorem dX8_sign_45 : decode cX8_sign 45 = .ok (.aload_n 0, 1) := by decide +kernel
theorem dX8_sign_46 : decode cX8_sign 46 = .ok (.getfield 7, 3) := by decide +kernel
theorem dX8_sign_49 : decode cX8_sign 49 = .ok (.aload_n 0, 1) := by decide +kernel
theorem dX8_sign_50 : decode cX8_sign 50 = .ok (.getfield 71, 3) := by decide +kernel
theorem dX8_sign_53 : decode cX8_sign 53 = .ok (.iconst 1, 1) := by decide +kernel
theorem dX8_sign_54 : decode cX8_sign 54 = .ok (.isub, 1) := by decide +kernel
theorem dX8_sign_55 : decode cX8_sign 55 = .ok (.iaload, 1) := by decide +kernel
theorem dX8_sign_56 : decode cX8_sign 56 = .ok (.iload_n 1, 1) := by decide +kernel
theorem dX8_sign_57 : decode cX8_sign 57 = .ok (.isub, 1) := by decide +kernel
theorem dX8_sign_58 : decode cX8_sign 58 = .ok (.ireturn, 1) := by decide +kernel
theorem dX8_readPerson_0 : decode cX8_readPerson 0 = .ok (.aload_n 0, 1) := by decide +kernel
theorem dX8_readPerson_1 : decode cX8_readPerson 1 = .ok (.bipush 48, 2) := by decide +kernel
theorem dX8_readPerson_3 : decode cX8_readPerson 3 = .ok (.iconst 3, 1) := by decide +kernel
theorem dX8_readPerson_4 : decode cX8_readPerson 4 = .ok (.invokevirtual 74, 3) := by decide +kernel
theorem dX8_readPerson_7 : decode cX8_readPerson 7 = .ok (.istore_n 1, 1) := by decide +kernel
theorem dX8_readPerson_8 : decode cX8_readPerson 8 = .ok (.iload_n 1, 1) := by decide +kernel
theorem dX8_readPerson_9 : decode cX8_readPerson 9 = .ok (.bipush (-9), 2) := by decide +kernel
theorem dX8_readPerson_11 : decode cX8_readPerson 11 = .ok (.if_icmp .ne 8, 3) := by decide +kernel
theorem dX8_readPerson_14 : decode cX8_readPerson 14 = .ok (.bipush (-9), 2) := by decide +kernel
theorem dX8_readPerson_16 : decode cX8_readPerson 16 = .ok (.goto 11, 3) := by decide +kernel
theorem dX8_readPerson_19 : decode cX8_readPerson 19 = .ok (.aload_n 0, 1) := by decide +kernel
theorem dX8_readPerson_20 : decode cX8_readPerson 20 = .ok (.bipush 97, 2) := by decide +kernel
theorem dX8_readPerson_22 : decode cX8_readPerson 22 = .ok (.bipush 7, 2) := by decide +kernel
theorem dX8_readPerson_24 : decode cX8_readPerson 24 = .ok (.invokevirtual 74, 3) := by decide +kernel
theorem dX8_readPerson_27 : decode cX8_readPerson 27 = .ok (.istore_n 2, 1) := by decide +kernel
theorem dX8_readPerson_28 : decode cX8_readPerson 28 = .ok (.iload_n 2, 1) := by decide +kernel
theorem dX8_readPerson_29 : decode cX8_readPerson 29 = .ok (.bipush (-9), 2) := by decide +kernel
theorem dX8_readPerson_31 : decode cX8_readPerson 31 = .ok (.if_icmp .ne 8, 3) := by decide +kernel
theorem dX8_readPerson_34 : decode cX8_readPerson 34 = .ok (.bipush (-9), 2) := by decide +kernel
theorem dX8_readPerson_36 : decode cX8_readPerson 36 = .ok (.goto 11, 3) := by decide +kernel
theorem dX8_readPerson_39 : decode cX8_readPerson 39 = .ok (.aload_n 0, 1) := by decide +kernel
theorem dX8_readPerson_40 : decode cX8_readPerson 40 = .ok (.bipush 97, 2) := by decide +kernel
theorem dX8_readPerson_42 : decode cX8_readPerson 42 = .ok (.bipush 7, 2) := by decide +kernel
theorem dX8_readPerson_44 : decode cX8_readPerson 44 = .ok (.invokevirtual 74, 3) := by decide +kernel
theorem dX8_readPerson_47 : decode cX8_readPerson 47 = .ok (.istore_n 3, 1) := by decide +kernel
theorem dX8_readPerson_48 : decode cX8_readPerson 48 = .ok (.iload_n 3, 1) := by decide +kernel
theorem dX8_readPerson_49 : decode cX8_readPerson 49 = .ok (.bipush (-9), 2) := by decide +kernel
theorem dX8_readPerson_51 : decode cX8_readPerson 51 = .ok (.if_icmp .ne 5, 3) := by decide +kernel
theorem dX8_readPerson_54 : decode cX8_readPerson 54 = .ok (.iconst 0, 1) := by decide +kernel
theorem dX8_readPerson_55 : decode cX8_readPerson 55 = .ok (.ireturn, 1) := by decide +kernel
theorem dX8_readPerson_56 : decode cX8_readPerson 56 = .ok (.aload_n 0, 1) := by decide +kernel
theorem dX8_readPerson_57 : decode cX8_readPerson 57 = .ok (.getfield 19, 3) := by decide +kernel
theorem dX8_readPerson_60 : decode cX8_readPerson 60 = .ok (.aload_n 0, 1) := by decide +kernel
theorem dX8_readPerson_61 : decode cX8_readPerson 61 = .ok (.getfield 78, 3) := by decide +kernel
theorem dX8_readPerson_64 : decode cX8_readPerson 64 = .ok (.iload_n 1, 1) := by decide +kernel
theorem dX8_readPerson_65 : decode cX8_readPerson 65 = .ok (.iastore, 1) := by decide +kernel
theorem dX8_readPerson_66 : decode cX8_readPerson 66 = .ok (.aload_n 0, 1) := by decide +kernel
theorem dX8_readPerson_67 : decode cX8_readPerson 67 = .ok (.getfield 22, 3) := by decide +kernel
theorem dX8_readPerson_70 : decode cX8_readPerson 70 = .ok (.aload_n 0, 1) := by decide +kernel
theorem dX8_readPerson_71 : decode cX8_readPerson 71 = .ok (.getfield 78, 3) := by decide +kernel
theorem dX8_readPerson_74 : decode cX8_readPerson 74 = .ok (.iload_n 2, 1) := by decide +kernel
theorem dX8_readPerson_75 : decode cX8_readPerson 75 = .ok (.bipush 8, 2) := by decide +kernel
theorem dX8_readPerson_77 : decode cX8_readPerson 77 = .ok (.iload_n 3, 1) := by decide +kernel
theorem dX8_readPerson_78 : decode cX8_readPerson 78 = .ok (.imul, 1) := by decide +kernel
theorem dX8_readPerson_79 : decode cX8_readPerson 79 = .ok (.iadd, 1) := by decide +kernel
theorem dX8_readPerson_80 : decode cX8_readPerson 80 = .ok (.iastore, 1) := by decide +kernel
theorem dX8_readPerson_81 : decode cX8_readPerson 81 = .ok (.aload_n 0, 1) := by decide +kernel
theorem dX8_readPerson_82 : decode cX8_readPerson 82 = .ok (.dup, 1) := by decide +kernel
theorem dX8_readPerson_83 : decode cX8_readPerson 83 = .ok (.getfield 78, 3) := by decide +kernel
theorem dX8_readPerson_86 : decode cX8_readPerson 86 = .ok (.iconst 1, 1) := by decide +kernel
theorem dX8_readPerson_87 : decode cX8_readPerson 87 = .ok (.iadd, 1) := by decide +kernel
theorem dX8_readPerson_88 : decode cX8_readPerson 88 = .ok (.putfield 78, 3) := by decide +kernel
theorem dX8_readPerson_91 : decode cX8_readPerson 91 = .ok (.iconst 1, 1) := by decide +kernel
theorem dX8_readPerson_92 : decode cX8_readPerson 92 = .ok (.ireturn, 1) := by decide +kernel
theorem dX8_readOne_0 : decode cX8_readOne 0 = .ok (.iconst 0, 1) := by decide +kernel
theorem dX8_readOne_1 : decode cX8_readOne 1 = .ok (.istore_n 1, 1) := by decide +kernel
theorem dX8_readOne_2 : decode cX8_readOne 2 = .ok (.iload_n 1, 1) := by decide +kernel
theorem dX8_readOne_3 : decode cX8_readOne 3 = .ok (.iconst 3, 1) := by decide +kernel
theorem dX8_readOne_4 : decode cX8_readOne 4 = .ok (.if_icmp .ge 39, 3) := by decide +kernel
theorem dX8_readOne_7 : decode cX8_readOne 7 = .ok (.aload_n 0, 1) := by decide +kernel
theorem dX8_readOne_8 : decode cX8_readOne 8 = .ok (.bipush 48, 2) := by decide +kernel
theorem dX8_readOne_10 : decode cX8_readOne 10 = .ok (.iconst 5, 1) := by decide +kernel
theorem dX8_readOne_11 : decode cX8_readOne 11 = .ok (.invokevirtual 74, 3) := by decide +kernel
theorem dX8_readOne_14 : decode cX8_readOne 14 = .ok (.istore_n 2, 1) := by decide +kernel
theorem dX8_readOne_15 : decode cX8_readOne 15 = .ok (.iload_n 2, 1) := by decide +kernel
theorem dX8_readOne_16 : decode cX8_readOne 16 = .ok (.bipush (-9), 2) := by decide +kernel
theorem dX8_readOne_18 : decode cX8_readOne 18 = .ok (.if_icmp .ne 5, 3) := by decide +kernel
theorem dX8_readOne_21 : decode cX8_readOne 21 = .ok (.iconst 0, 1) := by decide +kernel
theorem dX8_readOne_22 : decode cX8_readOne 22 = .ok (.ireturn, 1) := by decide +kernel
theorem dX8_readOne_23 : decode cX8_readOne 23 = .ok (.aload_n 0, 1) := by decide +kernel
theorem dX8_readOne_24 : decode cX8_readOne 24 = .ok (.getfield 25, 3) := by decide +kernel
theorem dX8_readOne_27 : decode cX8_readOne 27 = .ok (.iconst 3, 1) := by decide +kernel
theorem dX8_readOne_28 : decode cX8_readOne 28 = .ok (.aload_n 0, 1) := by decide +kernel
theorem dX8_readOne_29 : decode cX8_readOne 29 = .ok (.getfield 81, 3) := by decide +kernel
theorem dX8_readOne_32 : decode cX8_readOne 32 = .ok (.imul, 1) := by decide +kernel
theorem dX8_readOne_33 : decode cX8_readOne 33 = .ok (.iload_n 1, 1) := by decide +kernel
theorem dX8_readOne_34 : decode cX8_readOne 34 = .ok (.iadd, 1) := by decide +kernel
theorem dX8_readOne_35 : decode cX8_readOne 35 = .ok (.iload_n 2, 1) := by decide +kernel
theorem dX8_readOne_36 : decode cX8_readOne 36 = .ok (.iastore, 1) := by decide +kernel
theorem dX8_readOne_37 : decode cX8_readOne 37 = .ok (.iinc 1 1, 3) := by decide +kernel
theorem dX8_readOne_40 : decode cX8_readOne 40 = .ok (.goto (-38), 3) := by decide +kernel
theorem dX8_readOne_43 : decode cX8_readOne 43 = .ok (.aload_n 0, 1) := by decide +kernel
theorem dX8_readOne_44 : decode cX8_readOne 44 = .ok (.dup, 1) := by decide +kernel
theorem dX8_readOne_45 : decode cX8_readOne 45 = .ok (.getfield 81, 3) := by decide +kernel
theorem dX8_readOne_48 : decode cX8_readOne 48 = .ok (.iconst 1, 1) := by decide +kernel
theorem dX8_readOne_49 : decode cX8_readOne 49 = .ok (.iadd, 1) := by decide +kernel
theorem dX8_readOne_50 : decode cX8_readOne 50 = .ok (.putfield 81, 3) := by decide +kernel
theorem dX8_readOne_53 : decode cX8_readOne 53 = .ok (.iconst 1, 1) := by decide +kernel
theorem dX8_readOne_54 : decode cX8_readOne 54 = .ok (.ireturn, 1) := by decide +kernel
theorem dX8_readPart_0 : decode cX8_readPart 0 = .ok (.aload_n 0, 1) := by decide +kernel
theorem dX8_readPart_1 : decode cX8_readPart 1 = .ok (.getfield 7, 3) := by decide +kernel
theorem dX8_readPart_4 : decode cX8_readPart 4 = .ok (.aload_n 0, 1) := by decide +kernel
theorem dX8_readPart_5 : decode cX8_readPart 5 = .ok (.getfield 71, 3) := by decide +kernel
theorem dX8_readPart_8 : decode cX8_readPart 8 = .ok (.iaload, 1) := by decide +kernel
theorem dX8_readPart_9 : decode cX8_readPart 9 = .ok (.istore_n 1, 1) := by decide +kernel
theorem dX8_readPart_10 : decode cX8_readPart 10 = .ok (.aload_n 0, 1) := by decide +kernel
theorem dX8_readPart_11 : decode cX8_readPart 11 = .ok (.dup, 1) := by decide +kernel
theorem dX8_readPart_12 : decode cX8_readPart 12 = .ok (.getfield 71, 3) := by decide +kernel
theorem dX8_readPart_15 : decode cX8_readPart 15 = .ok (.iconst 1, 1) := by decide +kernel
theorem dX8_readPart_16 : decode cX8_readPart 16 = .ok (.iadd, 1) := by decide +kernel
theorem dX8_readPart_17 : decode cX8_readPart 17 = .ok (.putfield 71, 3) := by decide +kernel
theorem dX8_readPart_20 : decode cX8_readPart 20 = .ok (.iload_n 1, 1) := by decide +kernel
theorem dX8_readPart_21 : decode cX8_readPart 21 = .ok (.bipush 80, 2) := by decide +kernel
theorem dX8_readPart_23 : decode cX8_readPart 23 = .ok (.if_icmp .ne 16, 3) := by decide +kernel
theorem dX8_readPart_26 : decode cX8_readPart 26 = .ok (.aload_n 0, 1) := by decide +kernel
theorem dX8_readPart_27 : decode cX8_readPart 27 = .ok (.getfield 78, 3) := by decide +kernel
theorem dX8_readPart_30 : decode cX8_readPart 30 = .ok (.iconst 5, 1) := by decide +kernel
theorem dX8_readPart_31 : decode cX8_readPart 31 = .ok (.if_icmp .ge 8, 3) := by decide +kernel
theorem dX8_readPart_34 : decode cX8_readPart 34 = .ok (.aload_n 0, 1) := by decide +kernel
theorem dX8_readPart_35 : decode cX8_readPart 35 = .ok (.invokevirtual 84, 3) := by decide +kernel
theorem dX8_readPart_38 : decode cX8_readPart 38 = .ok (.ireturn, 1) := by decide +kernel
theorem dX8_readPart_39 : decode cX8_readPart 39 = .ok (.iload_n 1, 1) := by decide +kernel
theorem dX8_readPart_40 : decode cX8_readPart 40 = .ok (.bipush 82, 2) := by decide +kernel
theorem dX8_readPart_42 : decode cX8_readPart 42 = .ok (.if_icmp .ne 16, 3) := by decide +kernel
theorem dX8_readPart_45 : decode cX8_readPart 45 = .ok (.aload_n 0, 1) := by decide +kernel
theorem dX8_readPart_46 : decode cX8_readPart 46 = .ok (.getfield 81, 3) := by decide +kernel
theorem dX8_readPart_49 : decode cX8_readPart 49 = .ok (.iconst 4, 1) := by decide +kernel
theorem dX8_readPart_50 : decode cX8_readPart 50 = .ok (.if_icmp .ge 8, 3) := by decide +kernel
theorem dX8_readPart_53 : decode cX8_readPart 53 = .ok (.aload_n 0, 1) := by decide +kernel
theorem dX8_readPart_54 : decode cX8_readPart 54 = .ok (.invokevirtual 88, 3) := by decide +kernel
theorem dX8_readPart_57 : decode cX8_readPart 57 = .ok (.ireturn, 1) := by decide +kernel
theorem dX8_readPart_58 : decode cX8_readPart 58 = .ok (.aload_n 0, 1) := by decide +kernel
theorem dX8_readPart_59 : decode cX8_readPart 59 = .ok (.dup, 1) := by decide +kernel
theorem dX8_readPart_60 : decode cX8_readPart 60 = .ok (.getfield 71, 3) := by decide +kernel
theorem dX8_readPart_63 : decode cX8_readPart 63 = .ok (.iconst 1, 1) := by decide +kernel
theorem dX8_readPart_64 : decode cX8_readPart 64 = .ok (.isub, 1) := by decide +kernel
theorem dX8_readPart_65 : decode cX8_readPart 65 = .ok (.putfield 71, 3) := by decide +kernel
theorem dX8_readPart_68 : decode cX8_readPart 68 = .ok (.iconst 0, 1) := by decide +kernel
theorem dX8_readPart_69 : decode cX8_readPart 69 = .ok (.ireturn, 1) := by decide +kernel
theorem dX8_readTable_0 : decode cX8_readTable 0 = .ok (.aload_n 0, 1) := by decide +kernel
theorem dX8_readTable_1 : decode cX8_readTable 1 = .ok (.iconst 0, 1) := by decide +kernel
theorem dX8_readTable_2 : decode cX8_readTable 2 = .ok (.putfield 71, 3) := by decide +kernel
theorem dX8_readTable_5 : decode cX8_readTable 5 = .ok (.aload_n 0, 1) := by decide +kernel
theorem dX8_readTable_6 : decode cX8_readTable 6 = .ok (.iconst 0, 1) := by decide +kernel
theorem dX8_readTable_7 : decode cX8_readTable 7 = .ok (.putfield 78, 3) := by decide +kernel
theorem dX8_readTable_10 : decode cX8_readTable 10 = .ok (.aload_n 0, 1) := by decide +kernel
theorem dX8_readTable_11 : decode cX8_readTable 11 = .ok (.iconst 0, 1) := by decide +kernel
theorem dX8_readTable_12 : decode cX8_readTable 12 = .ok (.putfield 81, 3) := by decide +kernel
theorem dX8_readTable_15 : decode cX8_readTable 15 = .ok (.aload_n 0, 1) := by decide +kernel
theorem dX8_readTable_16 : decode cX8_readTable 16 = .ok (.getfield 68, 3) := by decide +kernel
theorem dX8_readTable_19 : decode cX8_readTable 19 = .ok (.ifCond .eq 14, 3) := by decide +kernel
theorem dX8_readTable_22 : decode cX8_readTable 22 = .ok (.aload_n 0, 1) := by decide +kernel
theorem dX8_readTable_23 : decode cX8_readTable 23 = .ok (.getfield 7, 3) := by decide +kernel
theorem dX8_readTable_26 : decode cX8_readTable 26 = .ok (.iconst 0, 1) := by decide +kernel
theorem dX8_readTable_27 : decode cX8_readTable 27 = .ok (.iaload, 1) := by decide +kernel
theorem dX8_readTable_28 : decode cX8_readTable 28 = .ok (.bipush 75, 2) := by decide +kernel
theorem dX8_readTable_30 : decode cX8_readTable 30 = .ok (.if_icmp .eq 5, 3) := by decide +kernel
theorem dX8_readTable_33 : decode cX8_readTable 33 = .ok (.iconst 0, 1) := by decide +kernel
theorem dX8_readTable_34 : decode cX8_readTable 34 = .ok (.ireturn, 1) := by decide +kernel
theorem dX8_readTable_35 : decode cX8_readTable 35 = .ok (.aload_n 0, 1) := by decide +kernel
theorem dX8_readTable_36 : decode cX8_readTable 36 = .ok (.iconst 1, 1) := by decide +kernel
theorem dX8_readTable_37 : decode cX8_readTable 37 = .ok (.putfield 71, 3) := by decide +kernel
theorem dX8_readTable_40 : decode cX8_readTable 40 = .ok (.aload_n 0, 1) := by decide +kernel
theorem dX8_readTable_41 : decode cX8_readTable 41 = .ok (.getfield 71, 3) := by decide +kernel
theorem dX8_readTable_44 : decode cX8_readTable 44 = .ok (.aload_n 0, 1) := by decide +kernel
theorem dX8_readTable_45 : decode cX8_readTable 45 = .ok (.getfield 68, 3) := by decide +kernel
theorem dX8_readTable_48 : decode cX8_readTable 48 = .ok (.if_icmp .ge 15, 3) := by decide +kernel
theorem dX8_readTable_51 : decode cX8_readTable 51 = .ok (.aload_n 0, 1) := by decide +kernel
theorem dX8_readTable_52 : decode cX8_readTable 52 = .ok (.invokevirtual 91, 3) := by decide +kernel
theorem dX8_readTable_55 : decode cX8_readTable 55 = .ok (.ifCond .ne (-15), 3) := by decide +kernel
theorem dX8_readTable_58 : decode cX8_readTable 58 = .ok (.aload_n 0, 1) := by decide +kernel
theorem dX8_readTable_59 : decode cX8_readTable 59 = .ok (.getfield 71, 3) := by decide +kernel
theorem dX8_readTable_62 : decode cX8_readTable 62 = .ok (.ireturn, 1) := by decide +kernel
theorem dX8_readTable_63 : decode cX8_readTable 63 = .ok (.bipush (-9), 2) := by decide +kernel
theorem dX8_readTable_65 : decode cX8_readTable 65 = .ok (.ireturn, 1) := by decide +kernel
theorem dX8_fault_0 : decode cX8_fault 0 = .ok (.aload_n 0, 1) := by decide +kernel
theorem dX8_fault_1 : decode cX8_fault 1 = .ok (.iconst 0, 1) := by decide +kernel
theorem dX8_fault_2 : decode cX8_fault 2 = .ok (.putfield 53, 3) := by decide +kernel
theorem dX8_fault_5 : decode cX8_fault 5 = .ok (.aload_n 0, 1) := by decide +kernel
theorem dX8_fault_6 : decode cX8_fault 6 = .ok (.invokevirtual 94, 3) := by decide +kernel
theorem dX8_fault_9 : decode cX8_fault 9 = .ok (.ireturn, 1) := by decide +kernel
theorem dX8_table_0 : decode cX8_table 0 = .ok (.aload_n 0, 1) := by decide +kernel
theorem dX8_table_1 : decode cX8_table 1 = .ok (.iconst 0, 1) := by decide +kernel
theorem dX8_table_2 : decode cX8_table 2 = .ok (.putfield 53, 3) := by decide +kernel
theorem dX8_table_5 : decode cX8_table 5 = .ok (.aload_n 0, 1) := by decide +kernel
theorem dX8_table_6 : decode cX8_table 6 = .ok (.invokevirtual 94, 3) := by decide +kernel
theorem dX8_table_9 : decode cX8_table 9 = .ok (.bipush (-9), 2) := by decide +kernel
theorem dX8_table_11 : decode cX8_table 11 = .ok (.if_icmp .eq 6, 3) := by decide +kernel
theorem dX8_table_14 : decode cX8_table 14 = .ok (.bipush (-3), 2) := by decide +kernel
theorem dX8_table_16 : decode cX8_table 16 = .ok (.ireturn, 1) := by decide +kernel
theorem dX8_table_17 : decode cX8_table 17 = .ok (.aload_n 0, 1) := by decide +kernel
theorem dX8_table_18 : decode cX8_table 18 = .ok (.aload_n 0, 1) := by decide +kernel
theorem dX8_table_19 : decode cX8_table 19 = .ok (.getfield 78, 3) := by decide +kernel
theorem dX8_table_22 : decode cX8_table 22 = .ok (.putfield 57, 3) := by decide +kernel
theorem dX8_table_25 : decode cX8_table 25 = .ok (.aload_n 0, 1) := by decide +kernel
theorem dX8_table_26 : decode cX8_table 26 = .ok (.aload_n 0, 1) := by decide +kernel
theorem dX8_table_27 : decode cX8_table 27 = .ok (.getfield 81, 3) := by decide +kernel
theorem dX8_table_30 : decode cX8_table 30 = .ok (.putfield 98, 3) := by decide +kernel
theorem dX8_table_33 : decode cX8_table 33 = .ok (.iconst 0, 1) := by decide +kernel
theorem dX8_table_34 : decode cX8_table 34 = .ok (.istore_n 1, 1) := by decide +kernel
theorem dX8_table_35 : decode cX8_table 35 = .ok (.iload_n 1, 1) := by decide +kernel
theorem dX8_table_36 : decode cX8_table 36 = .ok (.bipush 15, 2) := by decide +kernel
theorem dX8_table_38 : decode cX8_table 38 = .ok (.if_icmp .ge 16, 3) := by decide +kernel
theorem dX8_table_41 : decode cX8_table 41 = .ok (.aload_n 0, 1) := by decide +kernel
theorem dX8_table_42 : decode cX8_table 42 = .ok (.getfield 28, 3) := by decide +kernel
theorem dX8_table_45 : decode cX8_table 45 = .ok (.iload_n 1, 1) := by decide +kernel
theorem dX8_table_46 : decode cX8_table 46 = .ok (.iconst 0, 1) := by decide +kernel
theorem dX8_table_47 : decode cX8_table 47 = .ok (.iastore, 1) := by decide +kernel
theorem dX8_table_48 : decode cX8_table 48 = .ok (.iinc 1 1, 3) := by decide +kernel
theorem dX8_table_51 : decode cX8_table 51 = .ok (.goto (-16), 3) := by decide +kernel
theorem dX8_table_54 : decode cX8_table 54 = .ok (.iconst 0, 1) := by decide +kernel
theorem dX8_table_55 : decode cX8_table 55 = .ok (.istore_n 1, 1) := by decide +kernel
theorem dX8_table_56 : decode cX8_table 56 = .ok (.iload_n 1, 1) := by decide +kernel
theorem dX8_table_57 : decode cX8_table 57 = .ok (.aload_n 0, 1) := by decide +kernel
theorem dX8_table_58 : decode cX8_table 58 = .ok (.getfield 57, 3) := by decide +kernel
theorem dX8_table_61 : decode cX8_table 61 = .ok (.if_icmp .ge 44, 3) := by decide +kernel
theorem dX8_table_64 : decode cX8_table 64 = .ok (.aload_n 0, 1) := by decide +kernel
theorem dX8_table_65 : decode cX8_table 65 = .ok (.getfield 13, 3) := by decide +kernel
theorem dX8_table_68 : decode cX8_table 68 = .ok (.iload_n 1, 1) := by decide +kernel
theorem dX8_table_69 : decode cX8_table 69 = .ok (.aload_n 0, 1) := by decide +kernel
theorem dX8_table_70 : decode cX8_table 70 = .ok (.getfield 19, 3) := by decide +kernel
theorem dX8_table_73 : decode cX8_table 73 = .ok (.iload_n 1, 1) := by decide +kernel
theorem dX8_table_74 : decode cX8_table 74 = .ok (.iaload, 1) := by decide +kernel
theorem dX8_table_75 : decode cX8_table 75 = .ok (.iastore, 1) := by decide +kernel
theorem dX8_table_76 : decode cX8_table 76 = .ok (.aload_n 0, 1) := by decide +kernel
theorem dX8_table_77 : decode cX8_table 77 = .ok (.getfield 28, 3) := by decide +kernel
theorem dX8_table_80 : decode cX8_table 80 = .ok (.iconst 0, 1) := by decide +kernel
theorem dX8_table_81 : decode cX8_table 81 = .ok (.iload_n 1, 1) := by decide +kernel
theorem dX8_table_82 : decode cX8_table 82 = .ok (.iadd, 1) := by decide +kernel
theorem dX8_table_83 : decode cX8_table 83 = .ok (.aload_n 0, 1) := by decide +kernel
theorem dX8_table_84 : decode cX8_table 84 = .ok (.getfield 22, 3) := by decide +kernel
theorem dX8_table_87 : decode cX8_table 87 = .ok (.iload_n 1, 1) := by decide +kernel
theorem dX8_table_88 : decode cX8_table 88 = .ok (.iaload, 1) := by decide +kernel
theorem dX8_table_89 : decode cX8_table 89 = .ok (.iastore, 1) := by decide +kernel
theorem dX8_table_90 : decode cX8_table 90 = .ok (.aload_n 0, 1) := by decide +kernel
theorem dX8_table_91 : decode cX8_table 91 = .ok (.getfield 28, 3) := by decide +kernel
theorem dX8_table_94 : decode cX8_table 94 = .ok (.iconst 5, 1) := by decide +kernel
theorem dX8_table_95 : decode cX8_table 95 = .ok (.iload_n 1, 1) := by decide +kernel
theorem dX8_table_96 : decode cX8_table 96 = .ok (.iadd, 1) := by decide +kernel
theorem dX8_table_97 : decode cX8_table 97 = .ok (.iload_n 1, 1) := by decide +kernel
theorem dX8_table_98 : decode cX8_table 98 = .ok (.iastore, 1) := by decide +kernel
theorem dX8_table_99 : decode cX8_table 99 = .ok (.iinc 1 1, 3) := by decide +kernel
theorem dX8_table_102 : decode cX8_table 102 = .ok (.goto (-46), 3) := by decide +kernel
theorem dX8_table_105 : decode cX8_table 105 = .ok (.iconst 0, 1) := by decide +kernel
theorem dX8_table_106 : decode cX8_table 106 = .ok (.istore_n 1, 1) := by decide +kernel
theorem dX8_table_107 : decode cX8_table 107 = .ok (.iload_n 1, 1) := by decide +kernel
theorem dX8_table_108 : decode cX8_table 108 = .ok (.iconst 3, 1) := by decide +kernel
theorem dX8_table_109 : decode cX8_table 109 = .ok (.aload_n 0, 1) := by decide +kernel
theorem dX8_table_110 : decode cX8_table 110 = .ok (.getfield 98, 3) := by decide +kernel
theorem dX8_table_113 : decode cX8_table 113 = .ok (.imul, 1) := by decide +kernel
theorem dX8_table_114 : decode cX8_table 114 = .ok (.if_icmp .ge 21, 3) := by decide +kernel
theorem dX8_table_117 : decode cX8_table 117 = .ok (.aload_n 0, 1) := by decide +kernel
theorem dX8_table_118 : decode cX8_table 118 = .ok (.getfield 16, 3) := by decide +kernel
theorem dX8_table_121 : decode cX8_table 121 = .ok (.iload_n 1, 1) := by decide +kernel
theorem dX8_table_122 : decode cX8_table 122 = .ok (.aload_n 0, 1) := by decide +kernel
theorem dX8_table_123 : decode cX8_table 123 = .ok (.getfield 25, 3) := by decide +kernel
theorem dX8_table_126 : decode cX8_table 126 = .ok (.iload_n 1, 1) := by decide +kernel
theorem dX8_table_127 : decode cX8_table 127 = .ok (.iaload, 1) := by decide +kernel
theorem dX8_table_128 : decode cX8_table 128 = .ok (.iastore, 1) := by decide +kernel
theorem dX8_table_129 : decode cX8_table 129 = .ok (.iinc 1 1, 3) := by decide +kernel
theorem dX8_table_132 : decode cX8_table 132 = .ok (.goto (-25), 3) := by decide +kernel
theorem dX8_table_135 : decode cX8_table 135 = .ok (.aload_n 0, 1) := by decide +kernel
theorem dX8_table_136 : decode cX8_table 136 = .ok (.iconst 0, 1) := by decide +kernel
theorem dX8_table_137 : decode cX8_table 137 = .ok (.putfield 101, 3) := by decide +kernel
theorem dX8_table_140 : decode cX8_table 140 = .ok (.aload_n 0, 1) := by decide +kernel
theorem dX8_table_141 : decode cX8_table 141 = .ok (.getfield 40, 3) := by decide +kernel
theorem dX8_table_144 : decode cX8_table 144 = .ok (.iconst 0, 1) := by decide +kernel
theorem dX8_table_145 : decode cX8_table 145 = .ok (.iconst 0, 1) := by decide +kernel
theorem dX8_table_146 : decode cX8_table 146 = .ok (.bastore, 1) := by decide +kernel
theorem dX8_table_147 : decode cX8_table 147 = .ok (.aload_n 0, 1) := by decide +kernel
theorem dX8_table_148 : decode cX8_table 148 = .ok (.getfield 40, 3) := by decide +kernel
theorem dX8_table_151 : decode cX8_table 151 = .ok (.iconst 1, 1) := by decide +kernel
theorem dX8_table_152 : decode cX8_table 152 = .ok (.iconst 0, 1) := by decide +kernel
theorem dX8_table_153 : decode cX8_table 153 = .ok (.bastore, 1) := by decide +kernel
theorem dX8_table_154 : decode cX8_table 154 = .ok (.bipush 10, 2) := by decide +kernel
theorem dX8_table_156 : decode cX8_table 156 = .ok (.aload_n 0, 1) := by decide +kernel
theorem dX8_table_157 : decode cX8_table 157 = .ok (.getfield 57, 3) := by decide +kernel
theorem dX8_table_160 : decode cX8_table 160 = .ok (.imul, 1) := by decide +kernel
theorem dX8_table_161 : decode cX8_table 161 = .ok (.aload_n 0, 1) := by decide +kernel
theorem dX8_table_162 : decode cX8_table 162 = .ok (.getfield 98, 3) := by decide +kernel
theorem dX8_table_165 : decode cX8_table 165 = .ok (.iadd, 1) := by decide +kernel
theorem dX8_table_166 : decode cX8_table 166 = .ok (.ireturn, 1) := by decide +kernel
theorem dX8_closed_0 : decode cX8_closed 0 = .ok (.iload_n 1, 1) := by decide +kernel
theorem dX8_closed_1 : decode cX8_closed 1 = .ok (.istore_n 2, 1) := by decide +kernel
theorem dX8_closed_2 : decode cX8_closed 2 = .ok (.iconst 0, 1) := by decide +kernel
theorem dX8_closed_3 : decode cX8_closed 3 = .ok (.istore_n 3, 1) := by decide +kernel
theorem dX8_closed_4 : decode cX8_closed 4 = .ok (.iload_n 3, 1) := by decide +kernel
theorem dX8_closed_5 : decode cX8_closed 5 = .ok (.iconst 4, 1) := by decide +kernel
theorem dX8_closed_6 : decode cX8_closed 6 = .ok (.if_icmp .ge 93, 3) := by decide +kernel
theorem dX8_closed_9 : decode cX8_closed 9 = .ok (.iconst 0, 1) := by decide +kernel
theorem dX8_closed_10 : decode cX8_closed 10 = .ok (.istore 4, 2) := by decide +kernel
theorem dX8_closed_12 : decode cX8_closed 12 = .ok (.iload 4, 2) := by decide +kernel
theorem dX8_closed_14 : decode cX8_closed 14 = .ok (.aload_n 0, 1) := by decide +kernel
theorem dX8_closed_15 : decode cX8_closed 15 = .ok (.getfield 98, 3) := by decide +kernel
theorem dX8_closed_18 : decode cX8_closed 18 = .ok (.if_icmp .ge 75, 3) := by decide +kernel
theorem dX8_closed_21 : decode cX8_closed 21 = .ok (.iload_n 2, 1) := by decide +kernel
theorem dX8_closed_22 : decode cX8_closed 22 = .ok (.aload_n 0, 1) := by decide +kernel
theorem dX8_closed_23 : decode cX8_closed 23 = .ok (.getfield 16, 3) := by decide +kernel
theorem dX8_closed_26 : decode cX8_closed 26 = .ok (.iconst 3, 1) := by decide +kernel
theorem dX8_closed_27 : decode cX8_closed 27 = .ok (.iload 4, 2) := by decide +kernel
theorem dX8_closed_29 : decode cX8_closed 29 = .ok (.imul, 1) := by decide +kernel
theorem dX8_closed_30 : decode cX8_closed 30 = .ok (.iaload, 1) := by decide +kernel
theorem dX8_closed_31 : decode cX8_closed 31 = .ok (.invokestatic 104, 3) := by decide +kernel
theorem dX8_closed_34 : decode cX8_closed 34 = .ok (.ifCond .eq 25, 3) := by decide +kernel
theorem dX8_closed_37 : decode cX8_closed 37 = .ok (.iload_n 2, 1) := by decide +kernel
theorem dX8_closed_38 : decode cX8_closed 38 = .ok (.aload_n 0, 1) := by decide +kernel
theorem dX8_closed_39 : decode cX8_closed 39 = .ok (.getfield 16, 3) := by decide +kernel
theorem dX8_closed_42 : decode cX8_closed 42 = .ok (.iconst 3, 1) := by decide +kernel
theorem dX8_closed_43 : decode cX8_closed 43 = .ok (.iload 4, 2) := by decide +kernel
theorem dX8_closed_45 : decode cX8_closed 45 = .ok (.imul, 1) := by decide +kernel
theorem dX8_closed_46 : decode cX8_closed 46 = .ok (.iconst 1, 1) := by decide +kernel
theorem dX8_closed_47 : decode cX8_closed 47 = .ok (.iadd, 1) := by decide +kernel
theorem dX8_closed_48 : decode cX8_closed 48 = .ok (.iaload, 1) := by decide +kernel
theorem dX8_closed_49 : decode cX8_closed 49 = .ok (.invokestatic 104, 3) := by decide +kernel
theorem dX8_closed_52 : decode cX8_closed 52 = .ok (.ifCond .eq 7, 3) := by decide +kernel
theorem dX8_closed_55 : decode cX8_closed 55 = .ok (.iconst 1, 1) := by decide +kernel
theorem dX8_closed_56 : decode cX8_closed 56 = .ok (.goto 4, 3) := by decide +kernel
theorem dX8_closed_59 : decode cX8_closed 59 = .ok (.iconst 0, 1) := by decide +kernel
theorem dX8_closed_60 : decode cX8_closed 60 = .ok (.istore 5, 2) := by decide +kernel
theorem dX8_closed_62 : decode cX8_closed 62 = .ok (.iload_n 2, 1) := by decide +kernel
theorem dX8_closed_63 : decode cX8_closed 63 = .ok (.iload 5, 2) := by decide +kernel
theorem dX8_closed_65 : decode cX8_closed 65 = .ok (.ifCond .eq 19, 3) := by decide +kernel
theorem dX8_closed_68 : decode cX8_closed 68 = .ok (.iconst 1, 1) := by decide +kernel
theorem dX8_closed_69 : decode cX8_closed 69 = .ok (.aload_n 0, 1) := by decide +kernel
theorem dX8_closed_70 : decode cX8_closed 70 = .ok (.getfield 16, 3) := by decide +kernel
theorem dX8_closed_73 : decode cX8_closed 73 = .ok (.iconst 3, 1) := by decide +kernel
theorem dX8_closed_74 : decode cX8_closed 74 = .ok (.iload 4, 2) := by decide +kernel
theorem dX8_closed_76 : decode cX8_closed 76 = .ok (.imul, 1) := by decide +kernel
theorem dX8_closed_77 : decode cX8_closed 77 = .ok (.iconst 2, 1) := by decide +kernel
theorem dX8_closed_78 : decode cX8_closed 78 = .ok (.iadd, 1) := by decide +kernel
theorem dX8_closed_79 : decode cX8_closed 79 = .ok (.iaload, 1) := by decide +kernel
theorem dX8_closed_80 : decode cX8_closed 80 = .ok (.ishl, 1) := by decide +kernel
theorem dX8_closed_81 : decode cX8_closed 81 = .ok (.goto 4, 3) := by decide +kernel
theorem dX8_closed_84 : decode cX8_closed 84 = .ok (.iconst 0, 1) := by decide +kernel
theorem dX8_closed_85 : decode cX8_closed 85 = .ok (.ior, 1) := by decide +kernel
theorem dX8_closed_86 : decode cX8_closed 86 = .ok (.istore_n 2, 1) := by decide +kernel
theorem dX8_closed_87 : decode cX8_closed 87 = .ok (.iinc 4 1, 3) := by decide +kernel
theorem dX8_closed_90 : decode cX8_closed 90 = .ok (.goto (-78), 3) := by decide +kernel
theorem dX8_closed_93 : decode cX8_closed 93 = .ok (.iinc 3 1, 3) := by decide +kernel
theorem dX8_closed_96 : decode cX8_closed 96 = .ok (.goto (-92), 3) := by decide +kernel
theorem dX8_closed_99 : decode cX8_closed 99 = .ok (.iload_n 2, 1) := by decide +kernel
theorem dX8_closed_100 : decode cX8_closed 100 = .ok (.ireturn, 1) := by decide +kernel
theorem dX8_farOf_0 : decode cX8_farOf 0 = .ok (.aload_n 1, 1) := by decide +kernel
theorem dX8_farOf_1 : decode cX8_farOf 1 = .ok (.iconst 5, 1) := by decide +kernel
theorem dX8_farOf_2 : decode cX8_farOf 2 = .ok (.iload_n 2, 1) := by decide +kernel
theorem dX8_farOf_3 : decode cX8_farOf 3 = .ok (.iadd, 1) := by decide +kernel
theorem dX8_farOf_4 : decode cX8_farOf 4 = .ok (.iaload, 1) := by decide +kernel
theorem dX8_farOf_5 : decode cX8_farOf 5 = .ok (.aload_n 1, 1) := by decide +kernel
theorem dX8_farOf_6 : decode cX8_farOf 6 = .ok (.iconst 5, 1) := by decide +kernel
theorem dX8_farOf_7 : decode cX8_farOf 7 = .ok (.iload_n 3, 1) := by decide +kernel
theorem dX8_farOf_8 : decode cX8_farOf 8 = .ok (.iadd, 1) := by decide +kernel
theorem dX8_farOf_9 : decode cX8_farOf 9 = .ok (.iaload, 1) := by decide +kernel
theorem dX8_farOf_10 : decode cX8_farOf 10 = .ok (.isub, 1) := by decide +kernel
theorem dX8_farOf_11 : decode cX8_farOf 11 = .ok (.istore 4, 2) := by decide +kernel
theorem dX8_farOf_13 : decode cX8_farOf 13 = .ok (.iload 4, 2) := by decide +kernel
theorem dX8_farOf_15 : decode cX8_farOf 15 = .ok (.ifCond .ge 9, 3) := by decide +kernel
theorem dX8_farOf_18 : decode cX8_farOf 18 = .ok (.iload 4, 2) := by decide +kernel
theorem dX8_farOf_20 : decode cX8_farOf 20 = .ok (.ineg, 1) := by decide +kernel
theorem dX8_farOf_21 : decode cX8_farOf 21 = .ok (.goto 5, 3) := by decide +kernel
theorem dX8_farOf_24 : decode cX8_farOf 24 = .ok (.iload 4, 2) := by decide +kernel
theorem dX8_farOf_26 : decode cX8_farOf 26 = .ok (.istore 4, 2) := by decide +kernel
theorem dX8_farOf_28 : decode cX8_farOf 28 = .ok (.iload 4, 2) := by decide +kernel
theorem dX8_farOf_30 : decode cX8_farOf 30 = .ok (.aload_n 0, 1) := by decide +kernel
theorem dX8_farOf_31 : decode cX8_farOf 31 = .ok (.getfield 57, 3) := by decide +kernel
theorem dX8_farOf_34 : decode cX8_farOf 34 = .ok (.iload 4, 2) := by decide +kernel
theorem dX8_farOf_36 : decode cX8_farOf 36 = .ok (.isub, 1) := by decide +kernel
theorem dX8_farOf_37 : decode cX8_farOf 37 = .ok (.if_icmp .ge 8, 3) := by decide +kernel
theorem dX8_farOf_40 : decode cX8_farOf 40 = .ok (.iload 4, 2) := by decide +kernel
theorem dX8_farOf_42 : decode cX8_farOf 42 = .ok (.goto 10, 3) := by decide +kernel
theorem dX8_farOf_45 : decode cX8_farOf 45 = .ok (.aload_n 0, 1) := by decide +kernel
theorem dX8_farOf_46 : decode cX8_farOf 46 = .ok (.getfield 57, 3) := by decide +kernel
theorem dX8_farOf_49 : decode cX8_farOf 49 = .ok (.iload 4, 2) := by decide +kernel
theorem dX8_farOf_51 : decode cX8_farOf 51 = .ok (.isub, 1) := by decide +kernel
theorem dX8_farOf_52 : decode cX8_farOf 52 = .ok (.ireturn, 1) := by decide +kernel
theorem dX8_hears_0 : decode cX8_hears 0 = .ok (.aload_n 0, 1) := by decide +kernel
theorem dX8_hears_1 : decode cX8_hears 1 = .ok (.getfield 13, 3) := by decide +kernel
theorem dX8_hears_4 : decode cX8_hears 4 = .ok (.iload_n 2, 1) := by decide +kernel
theorem dX8_hears_5 : decode cX8_hears 5 = .ok (.iaload, 1) := by decide +kernel
theorem dX8_hears_6 : decode cX8_hears 6 = .ok (.iconst 1, 1) := by decide +kernel
theorem dX8_hears_7 : decode cX8_hears 7 = .ok (.if_icmp .ne 7, 3) := by decide +kernel
theorem dX8_hears_10 : decode cX8_hears 10 = .ok (.iconst 1, 1) := by decide +kernel
theorem dX8_hears_11 : decode cX8_hears 11 = .ok (.goto 5, 3) := by decide +kernel
theorem dX8_hears_14 : decode cX8_hears 14 = .ok (.iload 4, 2) := by decide +kernel
theorem dX8_hears_16 : decode cX8_hears 16 = .ok (.istore 5, 2) := by decide +kernel
theorem dX8_hears_18 : decode cX8_hears 18 = .ok (.iload_n 2, 1) := by decide +kernel
theorem dX8_hears_19 : decode cX8_hears 19 = .ok (.iload_n 3, 1) := by decide +kernel
theorem dX8_hears_20 : decode cX8_hears 20 = .ok (.if_icmp .eq 19, 3) := by decide +kernel
theorem dX8_hears_23 : decode cX8_hears 23 = .ok (.aload_n 0, 1) := by decide +kernel
theorem dX8_hears_24 : decode cX8_hears 24 = .ok (.aload_n 1, 1) := by decide +kernel
theorem dX8_hears_25 : decode cX8_hears 25 = .ok (.iload_n 2, 1) := by decide +kernel
theorem dX8_hears_26 : decode cX8_hears 26 = .ok (.iload_n 3, 1) := by decide +kernel
theorem dX8_hears_27 : decode cX8_hears 27 = .ok (.invokevirtual 108, 3) := by decide +kernel
theorem dX8_hears_30 : decode cX8_hears 30 = .ok (.iload 5, 2) := by decide +kernel
theorem dX8_hears_32 : decode cX8_hears 32 = .ok (.if_icmp .gt 7, 3) := by decide +kernel
theorem dX8_hears_35 : decode cX8_hears 35 = .ok (.iconst 1, 1) := by decide +kernel
theorem dX8_hears_36 : decode cX8_hears 36 = .ok (.goto 4, 3) := by decide +kernel
theorem dX8_hears_39 : decode cX8_hears 39 = .ok (.iconst 0, 1) := by decide +kernel
theorem dX8_hears_40 : decode cX8_hears 40 = .ok (.ireturn, 1) := by decide +kernel
theorem dX8_hearersOf_0 : decode cX8_hearersOf 0 = .ok (.iconst 0, 1) := by decide +kernel
theorem dX8_hearersOf_1 : decode cX8_hearersOf 1 = .ok (.istore 4, 2) := by decide +kernel
theorem dX8_hearersOf_3 : decode cX8_hearersOf 3 = .ok (.iconst 0, 1) := by decide +kernel
theorem dX8_hearersOf_4 : decode cX8_hearersOf 4 = .ok (.istore 5, 2) := by decide +kernel
theorem dX8_hearersOf_6 : decode cX8_hearersOf 6 = .ok (.iload 5, 2) := by decide +kernel
theorem dX8_hearersOf_8 : decode cX8_hearersOf 8 = .ok (.aload_n 0, 1) := by decide +kernel
theorem dX8_hearersOf_9 : decode cX8_hearersOf 9 = .ok (.getfield 57, 3) := by decide +kernel
theorem dX8_hearersOf_12 : decode cX8_hearersOf 12 = .ok (.if_icmp .ge 34, 3) := by decide +kernel
theorem dX8_hearersOf_15 : decode cX8_hearersOf 15 = .ok (.iload 4, 2) := by decide +kernel
theorem dX8_hearersOf_17 : decode cX8_hearersOf 17 = .ok (.aload_n 0, 1) := by decide +kernel
theorem dX8_hearersOf_18 : decode cX8_hearersOf 18 = .ok (.aload_n 1, 1) := by decide +kernel
theorem dX8_hearersOf_19 : decode cX8_hearersOf 19 = .ok (.iload 5, 2) := by decide +kernel
theorem dX8_hearersOf_21 : decode cX8_hearersOf 21 = .ok (.iload_n 2, 1) := by decide +kernel
theorem dX8_hearersOf_22 : decode cX8_hearersOf 22 = .ok (.iload_n 3, 1) := by decide +kernel
theorem dX8_hearersOf_23 : decode cX8_hearersOf 23 = .ok (.invokevirtual 112, 3) := by decide +kernel
theorem dX8_hearersOf_26 : decode cX8_hearersOf 26 = .ok (.ifCond .eq 10, 3) := by decide +kernel
theorem dX8_hearersOf_29 : decode cX8_hearersOf 29 = .ok (.iconst 1, 1) := by decide +kernel
theorem dX8_hearersOf_30 : decode cX8_hearersOf 30 = .ok (.iload 5, 2) := by decide +kernel
theorem dX8_hearersOf_32 : decode cX8_hearersOf 32 = .ok (.ishl, 1) := by decide +kernel
theorem dX8_hearersOf_33 : decode cX8_hearersOf 33 = .ok (.goto 4, 3) := by decide +kernel
theorem dX8_hearersOf_36 : decode cX8_hearersOf 36 = .ok (.iconst 0, 1) := by decide +kernel
theorem dX8_hearersOf_37 : decode cX8_hearersOf 37 = .ok (.ior, 1) := by decide +kernel
theorem dX8_hearersOf_38 : decode cX8_hearersOf 38 = .ok (.istore 4, 2) := by decide +kernel
theorem dX8_hearersOf_40 : decode cX8_hearersOf 40 = .ok (.iinc 5 1, 3) := by decide +kernel
theorem dX8_hearersOf_43 : decode cX8_hearersOf 43 = .ok (.goto (-37), 3) := by decide +kernel
theorem dX8_hearersOf_46 : decode cX8_hearersOf 46 = .ok (.iload 4, 2) := by decide +kernel
theorem dX8_hearersOf_48 : decode cX8_hearersOf 48 = .ok (.ireturn, 1) := by decide +kernel
theorem dX8_knowersOf_0 : decode cX8_knowersOf 0 = .ok (.iconst 0, 1) := by decide +kernel
theorem dX8_knowersOf_1 : decode cX8_knowersOf 1 = .ok (.istore 5, 2) := by decide +kernel
theorem dX8_knowersOf_3 : decode cX8_knowersOf 3 = .ok (.iconst 0, 1) := by decide +kernel
theorem dX8_knowersOf_4 : decode cX8_knowersOf 4 = .ok (.istore 6, 2) := by decide +kernel
theorem dX8_knowersOf_6 : decode cX8_knowersOf 6 = .ok (.iload 6, 2) := by decide +kernel
theorem dX8_knowersOf_8 : decode cX8_knowersOf 8 = .ok (.aload_n 0, 1) := by decide +kernel
theorem dX8_knowersOf_9 : decode cX8_knowersOf 9 = .ok (.getfield 57, 3) := by decide +kernel
theorem dX8_knowersOf_12 : decode cX8_knowersOf 12 = .ok (.if_icmp .ge 52, 3) := by decide +kernel
theorem dX8_knowersOf_15 : decode cX8_knowersOf 15 = .ok (.iload 5, 2) := by decide +kernel
theorem dX8_knowersOf_17 : decode cX8_knowersOf 17 = .ok (.aload_n 0, 1) := by decide +kernel
theorem dX8_knowersOf_18 : decode cX8_knowersOf 18 = .ok (.aload_n 1, 1) := by decide +kernel
theorem dX8_knowersOf_19 : decode cX8_knowersOf 19 = .ok (.iload 6, 2) := by decide +kernel
theorem dX8_knowersOf_21 : decode cX8_knowersOf 21 = .ok (.iload_n 2, 1) := by decide +kernel
theorem dX8_knowersOf_22 : decode cX8_knowersOf 22 = .ok (.iload 4, 2) := by decide +kernel
theorem dX8_knowersOf_24 : decode cX8_knowersOf 24 = .ok (.invokevirtual 112, 3) := by decide +kernel
theorem dX8_knowersOf_27 : decode cX8_knowersOf 27 = .ok (.ifCond .eq 27, 3) := by decide +kernel
theorem dX8_knowersOf_30 : decode cX8_knowersOf 30 = .ok (.aload_n 0, 1) := by decide +kernel
theorem dX8_knowersOf_31 : decode cX8_knowersOf 31 = .ok (.aload_n 1, 1) := by decide +kernel
theorem dX8_knowersOf_32 : decode cX8_knowersOf 32 = .ok (.iconst 0, 1) := by decide +kernel
theorem dX8_knowersOf_33 : decode cX8_knowersOf 33 = .ok (.iload 6, 2) := by decide +kernel
theorem dX8_knowersOf_35 : decode cX8_knowersOf 35 = .ok (.iadd, 1) := by decide +kernel
theorem dX8_knowersOf_36 : decode cX8_knowersOf 36 = .ok (.iaload, 1) := by decide +kernel
theorem dX8_knowersOf_37 : decode cX8_knowersOf 37 = .ok (.invokevirtual 116, 3) := by decide +kernel
theorem dX8_knowersOf_40 : decode cX8_knowersOf 40 = .ok (.iload_n 3, 1) := by decide +kernel
theorem dX8_knowersOf_41 : decode cX8_knowersOf 41 = .ok (.invokestatic 104, 3) := by decide +kernel
theorem dX8_knowersOf_44 : decode cX8_knowersOf 44 = .ok (.ifCond .eq 10, 3) := by decide +kernel
theorem dX8_knowersOf_47 : decode cX8_knowersOf 47 = .ok (.iconst 1, 1) := by decide +kernel
theorem dX8_knowersOf_48 : decode cX8_knowersOf 48 = .ok (.iload 6, 2) := by decide +kernel
theorem dX8_knowersOf_50 : decode cX8_knowersOf 50 = .ok (.ishl, 1) := by decide +kernel
theorem dX8_knowersOf_51 : decode cX8_knowersOf 51 = .ok (.goto 4, 3) := by decide +kernel
theorem dX8_knowersOf_54 : decode cX8_knowersOf 54 = .ok (.iconst 0, 1) := by decide +kernel
theorem dX8_knowersOf_55 : decode cX8_knowersOf 55 = .ok (.ior, 1) := by decide +kernel
theorem dX8_knowersOf_56 : decode cX8_knowersOf 56 = .ok (.istore 5, 2) := by decide +kernel
theorem dX8_knowersOf_58 : decode cX8_knowersOf 58 = .ok (.iinc 6 1, 3) := by decide +kernel
theorem dX8_knowersOf_61 : decode cX8_knowersOf 61 = .ok (.goto (-55), 3) := by decide +kernel
theorem dX8_knowersOf_64 : decode cX8_knowersOf 64 = .ok (.iload 5, 2) := by decide +kernel
theorem dX8_knowersOf_66 : decode cX8_knowersOf 66 = .ok (.ireturn, 1) := by decide +kernel
theorem dX8_finesOf_0 : decode cX8_finesOf 0 = .ok (.iconst 0, 1) := by decide +kernel
theorem dX8_finesOf_1 : decode cX8_finesOf 1 = .ok (.istore_n 2, 1) := by decide +kernel
theorem dX8_finesOf_2 : decode cX8_finesOf 2 = .ok (.iconst 0, 1) := by decide +kernel
theorem dX8_finesOf_3 : decode cX8_finesOf 3 = .ok (.istore_n 3, 1) := by decide +kernel
theorem dX8_finesOf_4 : decode cX8_finesOf 4 = .ok (.iload_n 3, 1) := by decide +kernel
theorem dX8_finesOf_5 : decode cX8_finesOf 5 = .ok (.aload_n 0, 1) := by decide +kernel
theorem dX8_finesOf_6 : decode cX8_finesOf 6 = .ok (.getfield 57, 3) := by decide +kernel
theorem dX8_finesOf_9 : decode cX8_finesOf 9 = .ok (.if_icmp .ge 18, 3) := by decide +kernel
theorem dX8_finesOf_12 : decode cX8_finesOf 12 = .ok (.iload_n 2, 1) := by decide +kernel
theorem dX8_finesOf_13 : decode cX8_finesOf 13 = .ok (.aload_n 1, 1) := by decide +kernel
theorem dX8_finesOf_14 : decode cX8_finesOf 14 = .ok (.bipush 10, 2) := by decide +kernel
theorem dX8_finesOf_16 : decode cX8_finesOf 16 = .ok (.iload_n 3, 1) := by decide +kernel
theorem dX8_finesOf_17 : decode cX8_finesOf 17 = .ok (.iadd, 1) := by decide +kernel
theorem dX8_finesOf_18 : decode cX8_finesOf 18 = .ok (.iaload, 1) := by decide +kernel
theorem dX8_finesOf_19 : decode cX8_finesOf 19 = .ok (.iadd, 1) := by decide +kernel
theorem dX8_finesOf_20 : decode cX8_finesOf 20 = .ok (.istore_n 2, 1) := by decide +kernel
theorem dX8_finesOf_21 : decode cX8_finesOf 21 = .ok (.iinc 3 1, 3) := by decide +kernel
theorem dX8_finesOf_24 : decode cX8_finesOf 24 = .ok (.goto (-20), 3) := by decide +kernel
theorem dX8_finesOf_27 : decode cX8_finesOf 27 = .ok (.iload_n 2, 1) := by decide +kernel
theorem dX8_finesOf_28 : decode cX8_finesOf 28 = .ok (.ireturn, 1) := by decide +kernel
theorem dX8_about_0 : decode cX8_about 0 = .ok (.aload_n 0, 1) := by decide +kernel
theorem dX8_about_1 : decode cX8_about 1 = .ok (.iconst 0, 1) := by decide +kernel
theorem dX8_about_2 : decode cX8_about 2 = .ok (.putfield 53, 3) := by decide +kernel
theorem dX8_about_5 : decode cX8_about 5 = .ok (.iconst 0, 1) := by decide +kernel
theorem dX8_about_6 : decode cX8_about 6 = .ok (.istore_n 2, 1) := by decide +kernel
theorem dX8_about_7 : decode cX8_about 7 = .ok (.iconst 0, 1) := by decide +kernel
theorem dX8_about_8 : decode cX8_about 8 = .ok (.istore_n 3, 1) := by decide +kernel
theorem dX8_about_9 : decode cX8_about 9 = .ok (.iload_n 3, 1) := by decide +kernel
theorem dX8_about_10 : decode cX8_about 10 = .ok (.aload_n 0, 1) := by decide +kernel
theorem dX8_about_11 : decode cX8_about 11 = .ok (.getfield 57, 3) := by decide +kernel
theorem dX8_about_14 : decode cX8_about 14 = .ok (.if_icmp .ge 24, 3) := by decide +kernel
theorem dX8_about_17 : decode cX8_about 17 = .ok (.iload_n 2, 1) := by decide +kernel
theorem dX8_about_18 : decode cX8_about 18 = .ok (.aload_n 0, 1) := by decide +kernel
theorem dX8_about_19 : decode cX8_about 19 = .ok (.aload_n 0, 1) := by decide +kernel
theorem dX8_about_20 : decode cX8_about 20 = .ok (.getfield 28, 3) := by decide +kernel
theorem dX8_about_23 : decode cX8_about 23 = .ok (.iconst 0, 1) := by decide +kernel
theorem dX8_about_24 : decode cX8_about 24 = .ok (.iload_n 3, 1) := by decide +kernel
theorem dX8_about_25 : decode cX8_about 25 = .ok (.iadd, 1) := by decide +kernel
theorem dX8_about_26 : decode cX8_about 26 = .ok (.iaload, 1) := by decide +kernel
theorem dX8_about_27 : decode cX8_about 27 = .ok (.invokevirtual 116, 3) := by decide +kernel
theorem dX8_about_30 : decode cX8_about 30 = .ok (.ior, 1) := by decide +kernel
theorem dX8_about_31 : decode cX8_about 31 = .ok (.istore_n 2, 1) := by decide +kernel
theorem dX8_about_32 : decode cX8_about 32 = .ok (.iinc 3 1, 3) := by decide +kernel
theorem dX8_about_35 : decode cX8_about 35 = .ok (.goto (-26), 3) := by decide +kernel
theorem dX8_about_38 : decode cX8_about 38 = .ok (.iload_n 1, 1) := by decide +kernel
theorem dX8_about_39 : decode cX8_about 39 = .ok (.tableswitch 77 0 6 #[41, 46, 51, 60, 62, 67, 72], 41) := by decide +kernel
theorem dX8_about_80 : decode cX8_about 80 = .ok (.aload_n 0, 1) := by decide +kernel
theorem dX8_about_81 : decode cX8_about 81 = .ok (.getfield 57, 3) := by decide +kernel
theorem dX8_about_84 : decode cX8_about 84 = .ok (.ireturn, 1) := by decide +kernel
theorem dX8_about_85 : decode cX8_about 85 = .ok (.aload_n 0, 1) := by decide +kernel
theorem dX8_about_86 : decode cX8_about 86 = .ok (.getfield 98, 3) := by decide +kernel
theorem dX8_about_89 : decode cX8_about 89 = .ok (.ireturn, 1) := by decide +kernel
theorem dX8_about_90 : decode cX8_about 90 = .ok (.aload_n 0, 1) := by decide +kernel
theorem dX8_about_91 : decode cX8_about 91 = .ok (.aload_n 0, 1) := by decide +kernel
theorem dX8_about_92 : decode cX8_about 92 = .ok (.getfield 28, 3) := by decide +kernel
theorem dX8_about_95 : decode cX8_about 95 = .ok (.invokevirtual 120, 3) := by decide +kernel
theorem dX8_about_98 : decode cX8_about 98 = .ok (.ireturn, 1) := by decide +kernel
theorem dX8_about_99 : decode cX8_about 99 = .ok (.iload_n 2, 1) := by decide +kernel
theorem dX8_about_100 : decode cX8_about 100 = .ok (.ireturn, 1) := by decide +kernel
theorem dX8_about_101 : decode cX8_about 101 = .ok (.aload_n 0, 1) := by decide +kernel
theorem dX8_about_102 : decode cX8_about 102 = .ok (.getfield 101, 3) := by decide +kernel
theorem dX8_about_105 : decode cX8_about 105 = .ok (.ireturn, 1) := by decide +kernel
theorem dX8_about_106 : decode cX8_about 106 = .ok (.aload_n 0, 1) := by decide +kernel
theorem dX8_about_107 : decode cX8_about 107 = .ok (.getfield 124, 3) := by decide +kernel
theorem dX8_about_110 : decode cX8_about 110 = .ok (.ireturn, 1) := by decide +kernel
theorem dX8_about_111 : decode cX8_about 111 = .ok (.aload_n 0, 1) := by decide +kernel
theorem dX8_about_112 : decode cX8_about 112 = .ok (.getfield 68, 3) := by decide +kernel
theorem dX8_about_115 : decode cX8_about 115 = .ok (.ireturn, 1) := by decide +kernel
theorem dX8_about_116 : decode cX8_about 116 = .ok (.bipush (-2), 2) := by decide +kernel
theorem dX8_about_118 : decode cX8_about 118 = .ok (.ireturn, 1) := by decide +kernel
theorem dX8_person_0 : decode cX8_person 0 = .ok (.aload_n 0, 1) := by decide +kernel
theorem dX8_person_1 : decode cX8_person 1 = .ok (.iconst 0, 1) := by decide +kernel
theorem dX8_person_2 : decode cX8_person 2 = .ok (.putfield 53, 3) := by decide +kernel
theorem dX8_person_5 : decode cX8_person 5 = .ok (.aload_n 0, 1) := by decide +kernel
theorem dX8_person_6 : decode cX8_person 6 = .ok (.iload_n 1, 1) := by decide +kernel
theorem dX8_person_7 : decode cX8_person 7 = .ok (.invokevirtual 127, 3) := by decide +kernel
theorem dX8_person_10 : decode cX8_person 10 = .ok (.ifCond .eq 5, 3) := by decide +kernel
theorem dX8_person_13 : decode cX8_person 13 = .ok (.iconst (-1), 1) := by decide +kernel
theorem dX8_person_14 : decode cX8_person 14 = .ok (.ireturn, 1) := by decide +kernel
theorem dX8_person_15 : decode cX8_person 15 = .ok (.iload_n 2, 1) := by decide +kernel
theorem dX8_person_16 : decode cX8_person 16 = .ok (.tableswitch 84 0 4 #[36, 43, 52, 65, 74], 36) := by decide +kernel
theorem dX8_person_52 : decode cX8_person 52 = .ok (.aload_n 0, 1) := by decide +kernel
theorem dX8_person_53 : decode cX8_person 53 = .ok (.getfield 13, 3) := by decide +kernel
theorem dX8_person_56 : decode cX8_person 56 = .ok (.iload_n 1, 1) := by decide +kernel
theorem dX8_person_57 : decode cX8_person 57 = .ok (.iaload, 1) := by decide +kernel
theorem dX8_person_58 : decode cX8_person 58 = .ok (.ireturn, 1) := by decide +kernel
theorem dX8_person_59 : decode cX8_person 59 = .ok (.aload_n 0, 1) := by decide +kernel
theorem dX8_person_60 : decode cX8_person 60 = .ok (.getfield 28, 3) := by decide +kernel
theorem dX8_person_63 : decode cX8_person 63 = .ok (.iconst 0, 1) := by decide +kernel
theorem dX8_person_64 : decode cX8_person 64 = .ok (.iload_n 1, 1) := by decide +kernel
theorem dX8_person_65 : decode cX8_person 65 = .ok (.iadd, 1) := by decide +kernel
theorem dX8_person_66 : decode cX8_person 66 = .ok (.iaload, 1) := by decide +kernel
theorem dX8_person_67 : decode cX8_person 67 = .ok (.ireturn, 1) := by decide +kernel
theorem dX8_person_68 : decode cX8_person 68 = .ok (.aload_n 0, 1) := by decide +kernel
theorem dX8_person_69 : decode cX8_person 69 = .ok (.aload_n 0, 1) := by decide +kernel
theorem dX8_person_70 : decode cX8_person 70 = .ok (.getfield 28, 3) := by decide +kernel
theorem dX8_person_73 : decode cX8_person 73 = .ok (.iconst 0, 1) := by decide +kernel
theorem dX8_person_74 : decode cX8_person 74 = .ok (.iload_n 1, 1) := by decide +kernel
theorem dX8_person_75 : decode cX8_person 75 = .ok (.iadd, 1) := by decide +kernel
theorem dX8_person_76 : decode cX8_person 76 = .ok (.iaload, 1) := by decide +kernel
theorem dX8_person_77 : decode cX8_person 77 = .ok (.invokevirtual 116, 3) := by decide +kernel
theorem dX8_person_80 : decode cX8_person 80 = .ok (.ireturn, 1) := by decide +kernel
theorem dX8_person_81 : decode cX8_person 81 = .ok (.aload_n 0, 1) := by decide +kernel
theorem dX8_person_82 : decode cX8_person 82 = .ok (.getfield 28, 3) := by decide +kernel
theorem dX8_person_85 : decode cX8_person 85 = .ok (.iconst 5, 1) := by decide +kernel
theorem dX8_person_86 : decode cX8_person 86 = .ok (.iload_n 1, 1) := by decide +kernel
theorem dX8_person_87 : decode cX8_person 87 = .ok (.iadd, 1) := by decide +kernel
theorem dX8_person_88 : decode cX8_person 88 = .ok (.iaload, 1) := by decide +kernel
theorem dX8_person_89 : decode cX8_person 89 = .ok (.ireturn, 1) := by decide +kernel
theorem dX8_person_90 : decode cX8_person 90 = .ok (.aload_n 0, 1) := by decide +kernel
theorem dX8_person_91 : decode cX8_person 91 = .ok (.getfield 28, 3) := by decide +kernel
theorem dX8_person_94 : decode cX8_person 94 = .ok (.bipush 10, 2) := by decide +kernel
theorem dX8_person_96 : decode cX8_person 96 = .ok (.iload_n 1, 1) := by decide +kernel
theorem dX8_person_97 : decode cX8_person 97 = .ok (.iadd, 1) := by decide +kernel
theorem dX8_person_98 : decode cX8_person 98 = .ok (.iaload, 1) := by decide +kernel
theorem dX8_person_99 : decode cX8_person 99 = .ok (.ireturn, 1) := by decide +kernel
theorem dX8_person_100 : decode cX8_person 100 = .ok (.bipush (-2), 2) := by decide +kernel
theorem dX8_person_102 : decode cX8_person 102 = .ok (.ireturn, 1) := by decide +kernel
theorem dX8_far_0 : decode cX8_far 0 = .ok (.aload_n 0, 1) := by decide +kernel
theorem dX8_far_1 : decode cX8_far 1 = .ok (.iconst 0, 1) := by decide +kernel
theorem dX8_far_2 : decode cX8_far 2 = .ok (.putfield 53, 3) := by decide +kernel
theorem dX8_far_5 : decode cX8_far 5 = .ok (.aload_n 0, 1) := by decide +kernel
theorem dX8_far_6 : decode cX8_far 6 = .ok (.iload_n 1, 1) := by decide +kernel
theorem dX8_far_7 : decode cX8_far 7 = .ok (.invokevirtual 127, 3) := by decide +kernel
theorem dX8_far_10 : decode cX8_far 10 = .ok (.ifCond .ne 11, 3) := by decide +kernel
theorem dX8_far_13 : decode cX8_far 13 = .ok (.aload_n 0, 1) := by decide +kernel
theorem dX8_far_14 : decode cX8_far 14 = .ok (.iload_n 2, 1) := by decide +kernel
theorem dX8_far_15 : decode cX8_far 15 = .ok (.invokevirtual 127, 3) := by decide +kernel
theorem dX8_far_18 : decode cX8_far 18 = .ok (.ifCond .eq 7, 3) := by decide +kernel
theorem dX8_far_21 : decode cX8_far 21 = .ok (.iconst (-1), 1) := by decide +kernel
theorem dX8_far_22 : decode cX8_far 22 = .ok (.goto 13, 3) := by decide +kernel
theorem dX8_far_25 : decode cX8_far 25 = .ok (.aload_n 0, 1) := by decide +kernel
theorem dX8_far_26 : decode cX8_far 26 = .ok (.aload_n 0, 1) := by decide +kernel
theorem dX8_far_27 : decode cX8_far 27 = .ok (.getfield 28, 3) := by decide +kernel
theorem dX8_far_30 : decode cX8_far 30 = .ok (.iload_n 1, 1) := by decide +kernel
theorem dX8_far_31 : decode cX8_far 31 = .ok (.iload_n 2, 1) := by decide +kernel
theorem dX8_far_32 : decode cX8_far 32 = .ok (.invokevirtual 108, 3) := by decide +kernel
theorem dX8_far_35 : decode cX8_far 35 = .ok (.ireturn, 1) := by decide +kernel
theorem dX8_note_0 : decode cX8_note 0 = .ok (.aload_n 0, 1) := by decide +kernel
theorem dX8_note_1 : decode cX8_note 1 = .ok (.getfield 101, 3) := by decide +kernel
theorem dX8_note_4 : decode cX8_note 4 = .ok (.bipush 14, 2) := by decide +kernel
theorem dX8_note_6 : decode cX8_note 6 = .ok (.if_icmp .ne 43, 3) := by decide +kernel
theorem dX8_note_9 : decode cX8_note 9 = .ok (.iconst 0, 1) := by decide +kernel
theorem dX8_note_10 : decode cX8_note 10 = .ok (.istore_n 1, 1) := by decide +kernel
theorem dX8_note_11 : decode cX8_note 11 = .ok (.iload_n 1, 1) := by decide +kernel
theorem dX8_note_12 : decode cX8_note 12 = .ok (.sipush 195, 3) := by decide +kernel
theorem dX8_note_15 : decode cX8_note 15 = .ok (.if_icmp .ge 24, 3) := by decide +kernel
theorem dX8_note_18 : decode cX8_note 18 = .ok (.aload_n 0, 1) := by decide +kernel
theorem dX8_note_19 : decode cX8_note 19 = .ok (.getfield 34, 3) := by decide +kernel
theorem dX8_note_22 : decode cX8_note 22 = .ok (.iload_n 1, 1) := by decide +kernel
theorem dX8_note_23 : decode cX8_note 23 = .ok (.aload_n 0, 1) := by decide +kernel
theorem dX8_note_24 : decode cX8_note 24 = .ok (.getfield 34, 3) := by decide +kernel
theorem dX8_note_27 : decode cX8_note 27 = .ok (.iload_n 1, 1) := by decide +kernel
theorem dX8_note_28 : decode cX8_note 28 = .ok (.bipush 15, 2) := by decide +kernel
theorem dX8_note_30 : decode cX8_note 30 = .ok (.iadd, 1) := by decide +kernel
theorem dX8_note_31 : decode cX8_note 31 = .ok (.iaload, 1) := by decide +kernel
theorem dX8_note_32 : decode cX8_note 32 = .ok (.iastore, 1) := by decide +kernel
theorem dX8_note_33 : decode cX8_note 33 = .ok (.iinc 1 1, 3) := by decide +kernel
theorem dX8_note_36 : decode cX8_note 36 = .ok (.goto (-25), 3) := by decide +kernel
theorem dX8_note_39 : decode cX8_note 39 = .ok (.aload_n 0, 1) := by decide +kernel
theorem dX8_note_40 : decode cX8_note 40 = .ok (.dup, 1) := by decide +kernel
theorem dX8_note_41 : decode cX8_note 41 = .ok (.getfield 101, 3) := by decide +kernel
theorem dX8_note_44 : decode cX8_note 44 = .ok (.iconst 1, 1) := by decide +kernel
theorem dX8_note_45 : decode cX8_note 45 = .ok (.isub, 1) := by decide +kernel
theorem dX8_note_46 : decode cX8_note 46 = .ok (.putfield 101, 3) := by decide +kernel
theorem dX8_note_49 : decode cX8_note 49 = .ok (.iconst 0, 1) := by decide +kernel
theorem dX8_note_50 : decode cX8_note 50 = .ok (.istore_n 1, 1) := by decide +kernel
theorem dX8_note_51 : decode cX8_note 51 = .ok (.iload_n 1, 1) := by decide +kernel
theorem dX8_note_52 : decode cX8_note 52 = .ok (.bipush 15, 2) := by decide +kernel
theorem dX8_note_54 : decode cX8_note 54 = .ok (.if_icmp .ge 29, 3) := by decide +kernel
theorem dX8_note_57 : decode cX8_note 57 = .ok (.aload_n 0, 1) := by decide +kernel
theorem dX8_note_58 : decode cX8_note 58 = .ok (.getfield 34, 3) := by decide +kernel
theorem dX8_note_61 : decode cX8_note 61 = .ok (.bipush 15, 2) := by decide +kernel
theorem dX8_note_63 : decode cX8_note 63 = .ok (.aload_n 0, 1) := by decide +kernel
theorem dX8_note_64 : decode cX8_note 64 = .ok (.getfield 101, 3) := by decide +kernel
theorem dX8_note_67 : decode cX8_note 67 = .ok (.imul, 1) := by decide +kernel
theorem dX8_note_68 : decode cX8_note 68 = .ok (.iload_n 1, 1) := by decide +kernel
theorem dX8_note_69 : decode cX8_note 69 = .ok (.iadd, 1) := by decide +kernel
theorem dX8_note_70 : decode cX8_note 70 = .ok (.aload_n 0, 1) := by decide +kernel
theorem dX8_note_71 : decode cX8_note 71 = .ok (.getfield 28, 3) := by decide +kernel
theorem dX8_note_74 : decode cX8_note 74 = .ok (.iload_n 1, 1) := by decide +kernel
theorem dX8_note_75 : decode cX8_note 75 = .ok (.iaload, 1) := by decide +kernel
theorem dX8_note_76 : decode cX8_note 76 = .ok (.iastore, 1) := by decide +kernel
theorem dX8_note_77 : decode cX8_note 77 = .ok (.iinc 1 1, 3) := by decide +kernel
theorem dX8_note_80 : decode cX8_note 80 = .ok (.goto (-29), 3) := by decide +kernel
theorem dX8_note_83 : decode cX8_note 83 = .ok (.aload_n 0, 1) := by decide +kernel
theorem dX8_note_84 : decode cX8_note 84 = .ok (.dup, 1) := by decide +kernel
theorem dX8_note_85 : decode cX8_note 85 = .ok (.getfield 101, 3) := by decide +kernel
theorem dX8_note_88 : decode cX8_note 88 = .ok (.iconst 1, 1) := by decide +kernel
theorem dX8_note_89 : decode cX8_note 89 = .ok (.iadd, 1) := by decide +kernel
theorem dX8_note_90 : decode cX8_note 90 = .ok (.putfield 101, 3) := by decide +kernel
theorem dX8_note_93 : decode cX8_note 93 = .ok (.return_, 1) := by decide +kernel
theorem dX8_sitter_0 : decode cX8_sitter 0 = .ok (.bipush (-9), 2) := by decide +kernel
theorem dX8_sitter_2 : decode cX8_sitter 2 = .ok (.istore_n 3, 1) := by decide +kernel
theorem dX8_sitter_3 : decode cX8_sitter 3 = .ok (.iconst 0, 1) := by decide +kernel
theorem dX8_sitter_4 : decode cX8_sitter 4 = .ok (.istore 4, 2) := by decide +kernel
theorem dX8_sitter_6 : decode cX8_sitter 6 = .ok (.iload 4, 2) := by decide +kernel
theorem dX8_sitter_8 : decode cX8_sitter 8 = .ok (.aload_n 0, 1) := by decide +kernel
theorem dX8_sitter_9 : decode cX8_sitter 9 = .ok (.getfield 57, 3) := by decide +kernel
theorem dX8_sitter_12 : decode cX8_sitter 12 = .ok (.if_icmp .ge 26, 3) := by decide +kernel
theorem dX8_sitter_15 : decode cX8_sitter 15 = .ok (.aload_n 1, 1) := by decide +kernel
theorem dX8_sitter_16 : decode cX8_sitter 16 = .ok (.iconst 5, 1) := by decide +kernel
theorem dX8_sitter_17 : decode cX8_sitter 17 = .ok (.iload 4, 2) := by decide +kernel
theorem dX8_sitter_19 : decode cX8_sitter 19 = .ok (.iadd, 1) := by decide +kernel
theorem dX8_sitter_20 : decode cX8_sitter 20 = .ok (.iaload, 1) := by decide +kernel
theorem dX8_sitter_21 : decode cX8_sitter 21 = .ok (.iload_n 2, 1) := by decide +kernel
theorem dX8_sitter_22 : decode cX8_sitter 22 = .ok (.if_icmp .ne 8, 3) := by decide +kernel
theorem dX8_sitter_25 : decode cX8_sitter 25 = .ok (.iload 4, 2) := by decide +kernel
theorem dX8_sitter_27 : decode cX8_sitter 27 = .ok (.goto 4, 3) := by decide +kernel
theorem dX8_sitter_30 : decode cX8_sitter 30 = .ok (.iload_n 3, 1) := by decide +kernel
theorem dX8_sitter_31 : decode cX8_sitter 31 = .ok (.istore_n 3, 1) := by decide +kernel
theorem dX8_sitter_32 : decode cX8_sitter 32 = .ok (.iinc 4 1, 3) := by decide +kernel
theorem dX8_sitter_35 : decode cX8_sitter 35 = .ok (.goto (-29), 3) := by decide +kernel
theorem dX8_sitter_38 : decode cX8_sitter 38 = .ok (.iload_n 3, 1) := by decide +kernel
theorem dX8_sitter_39 : decode cX8_sitter 39 = .ok (.ireturn, 1) := by decide +kernel
theorem dX8_corrector_0 : decode cX8_corrector 0 = .ok (.bipush (-9), 2) := by decide +kernel
theorem dX8_corrector_2 : decode cX8_corrector 2 = .ok (.istore 4, 2) := by decide +kernel
theorem dX8_corrector_4 : decode cX8_corrector 4 = .ok (.aload_n 0, 1) := by decide +kernel
theorem dX8_corrector_5 : decode cX8_corrector 5 = .ok (.getfield 57, 3) := by decide +kernel
theorem dX8_corrector_8 : decode cX8_corrector 8 = .ok (.iconst 1, 1) := by decide +kernel
theorem dX8_corrector_9 : decode cX8_corrector 9 = .ok (.isub, 1) := by decide +kernel
theorem dX8_corrector_10 : decode cX8_corrector 10 = .ok (.istore 5, 2) := by decide +kernel
theorem dX8_corrector_12 : decode cX8_corrector 12 = .ok (.iload 5, 2) := by decide +kernel
theorem dX8_corrector_14 : decode cX8_corrector 14 = .ok (.ifCond .le 58, 3) := by decide +kernel
theorem dX8_corrector_17 : decode cX8_corrector 17 = .ok (.aload_n 0, 1) := by decide +kernel
theorem dX8_corrector_18 : decode cX8_corrector 18 = .ok (.aload_n 1, 1) := by decide +kernel
theorem dX8_corrector_19 : decode cX8_corrector 19 = .ok (.aload_n 1, 1) := by decide +kernel
theorem dX8_corrector_20 : decode cX8_corrector 20 = .ok (.iconst 5, 1) := by decide +kernel
theorem dX8_corrector_21 : decode cX8_corrector 21 = .ok (.iload_n 2, 1) := by decide +kernel
theorem dX8_corrector_22 : decode cX8_corrector 22 = .ok (.iadd, 1) := by decide +kernel
theorem dX8_corrector_23 : decode cX8_corrector 23 = .ok (.iaload, 1) := by decide +kernel
theorem dX8_corrector_24 : decode cX8_corrector 24 = .ok (.iload 5, 2) := by decide +kernel
theorem dX8_corrector_26 : decode cX8_corrector 26 = .ok (.iadd, 1) := by decide +kernel
theorem dX8_corrector_27 : decode cX8_corrector 27 = .ok (.aload_n 0, 1) := by decide +kernel
theorem dX8_corrector_28 : decode cX8_corrector 28 = .ok (.getfield 57, 3) := by decide +kernel
theorem dX8_corrector_31 : decode cX8_corrector 31 = .ok (.irem, 1) := by decide +kernel
theorem dX8_corrector_32 : decode cX8_corrector 32 = .ok (.invokevirtual 131, 3) := by decide +kernel
theorem dX8_corrector_35 : decode cX8_corrector 35 = .ok (.istore 6, 2) := by decide +kernel
theorem dX8_corrector_37 : decode cX8_corrector 37 = .ok (.iload_n 3, 1) := by decide +kernel
theorem dX8_corrector_38 : decode cX8_corrector 38 = .ok (.iload 6, 2) := by decide +kernel
theorem dX8_corrector_40 : decode cX8_corrector 40 = .ok (.invokestatic 104, 3) := by decide +kernel
theorem dX8_corrector_43 : decode cX8_corrector 43 = .ok (.ifCond .eq 19, 3) := by decide +kernel
theorem dX8_corrector_46 : decode cX8_corrector 46 = .ok (.aload_n 0, 1) := by decide +kernel
theorem dX8_corrector_47 : decode cX8_corrector 47 = .ok (.getfield 13, 3) := by decide +kernel
theorem dX8_corrector_50 : decode cX8_corrector 50 = .ok (.iload 6, 2) := by decide +kernel
theorem dX8_corrector_52 : decode cX8_corrector 52 = .ok (.iaload, 1) := by decide +kernel
theorem dX8_corrector_53 : decode cX8_corrector 53 = .ok (.iconst 2, 1) := by decide +kernel
theorem dX8_corrector_54 : decode cX8_corrector 54 = .ok (.if_icmp .eq 8, 3) := by decide +kernel
theorem dX8_corrector_57 : decode cX8_corrector 57 = .ok (.iload 6, 2) := by decide +kernel
theorem dX8_corrector_59 : decode cX8_corrector 59 = .ok (.goto 5, 3) := by decide +kernel
theorem dX8_corrector_62 : decode cX8_corrector 62 = .ok (.iload 4, 2) := by decide +kernel
theorem dX8_corrector_64 : decode cX8_corrector 64 = .ok (.istore 4, 2) := by decide +kernel
theorem dX8_corrector_66 : decode cX8_corrector 66 = .ok (.iinc 5 (-1), 3) := by decide +kernel
theorem dX8_corrector_69 : decode cX8_corrector 69 = .ok (.goto (-57), 3) := by decide +kernel
theorem dX8_corrector_72 : decode cX8_corrector 72 = .ok (.iload 4, 2) := by decide +kernel
theorem dX8_corrector_74 : decode cX8_corrector 74 = .ok (.ireturn, 1) := by decide +kernel
theorem dX8_goSay_0 : decode cX8_goSay 0 = .ok (.aload_n 0, 1) := by decide +kernel
theorem dX8_goSay_1 : decode cX8_goSay 1 = .ok (.aload_n 1, 1) := by decide +kernel
theorem dX8_goSay_2 : decode cX8_goSay 2 = .ok (.iload_n 2, 1) := by decide +kernel
theorem dX8_goSay_3 : decode cX8_goSay 3 = .ok (.iload_n 3, 1) := by decide +kernel
theorem dX8_goSay_4 : decode cX8_goSay 4 = .ok (.iload 4, 2) := by decide +kernel
theorem dX8_goSay_6 : decode cX8_goSay 6 = .ok (.invokevirtual 135, 3) := by decide +kernel
theorem dX8_goSay_9 : decode cX8_goSay 9 = .ok (.istore 5, 2) := by decide +kernel
theorem dX8_goSay_11 : decode cX8_goSay 11 = .ok (.aload_n 0, 1) := by decide +kernel
theorem dX8_goSay_12 : decode cX8_goSay 12 = .ok (.aload_n 1, 1) := by decide +kernel
theorem dX8_goSay_13 : decode cX8_goSay 13 = .ok (.iload_n 2, 1) := by decide +kernel
theorem dX8_goSay_14 : decode cX8_goSay 14 = .ok (.iload 5, 2) := by decide +kernel
theorem dX8_goSay_16 : decode cX8_goSay 16 = .ok (.invokevirtual 139, 3) := by decide +kernel
theorem dX8_goSay_19 : decode cX8_goSay 19 = .ok (.istore 6, 2) := by decide +kernel
theorem dX8_goSay_21 : decode cX8_goSay 21 = .ok (.aload_n 0, 1) := by decide +kernel
theorem dX8_goSay_22 : decode cX8_goSay 22 = .ok (.aload_n 1, 1) := by decide +kernel
theorem dX8_goSay_23 : decode cX8_goSay 23 = .ok (.iload_n 2, 1) := by decide +kernel
theorem dX8_goSay_24 : decode cX8_goSay 24 = .ok (.iload 4, 2) := by decide +kernel
theorem dX8_goSay_26 : decode cX8_goSay 26 = .ok (.invokevirtual 142, 3) := by decide +kernel
theorem dX8_goSay_29 : decode cX8_goSay 29 = .ok (.istore 7, 2) := by decide +kernel
theorem dX8_goSay_31 : decode cX8_goSay 31 = .ok (.iconst 0, 1) := by decide +kernel
theorem dX8_goSay_32 : decode cX8_goSay 32 = .ok (.istore 8, 2) := by decide +kernel
theorem dX8_goSay_34 : decode cX8_goSay 34 = .ok (.iload 8, 2) := by decide +kernel
theorem dX8_goSay_36 : decode cX8_goSay 36 = .ok (.aload_n 0, 1) := by decide +kernel
theorem dX8_goSay_37 : decode cX8_goSay 37 = .ok (.getfield 57, 3) := by decide +kernel
theorem dX8_goSay_40 : decode cX8_goSay 40 = .ok (.if_icmp .ge 81, 3) := by decide +kernel
theorem dX8_goSay_43 : decode cX8_goSay 43 = .ok (.aload_n 1, 1) := by decide +kernel
theorem dX8_goSay_44 : decode cX8_goSay 44 = .ok (.iconst 0, 1) := by decide +kernel
theorem dX8_goSay_45 : decode cX8_goSay 45 = .ok (.iload 8, 2) := by decide +kernel
theorem dX8_goSay_47 : decode cX8_goSay 47 = .ok (.iadd, 1) := by decide +kernel
theorem dX8_goSay_48 : decode cX8_goSay 48 = .ok (.dup2, 1) := by decide +kernel
theorem dX8_goSay_49 : decode cX8_goSay 49 = .ok (.iaload, 1) := by decide +kernel
theorem dX8_goSay_50 : decode cX8_goSay 50 = .ok (.iload 6, 2) := by decide +kernel
theorem dX8_goSay_52 : decode cX8_goSay 52 = .ok (.bipush (-9), 2) := by decide +kernel
theorem dX8_goSay_54 : decode cX8_goSay 54 = .ok (.if_icmp .eq 19, 3) := by decide +kernel
theorem dX8_goSay_57 : decode cX8_goSay 57 = .ok (.iload 7, 2) := by decide +kernel
theorem dX8_goSay_59 : decode cX8_goSay 59 = .ok (.iload 8, 2) := by decide +kernel
theorem dX8_goSay_61 : decode cX8_goSay 61 = .ok (.invokestatic 104, 3) := by decide +kernel
theorem dX8_goSay_64 : decode cX8_goSay 64 = .ok (.ifCond .eq 9, 3) := by decide +kernel
theorem dX8_goSay_67 : decode cX8_goSay 67 = .ok (.iconst 1, 1) := by decide +kernel
theorem dX8_goSay_68 : decode cX8_goSay 68 = .ok (.iload_n 3, 1) := by decide +kernel
theorem dX8_goSay_69 : decode cX8_goSay 69 = .ok (.ishl, 1) := by decide +kernel
theorem dX8_goSay_70 : decode cX8_goSay 70 = .ok (.goto 4, 3) := by decide +kernel
theorem dX8_goSay_73 : decode cX8_goSay 73 = .ok (.iconst 0, 1) := by decide +kernel
theorem dX8_goSay_74 : decode cX8_goSay 74 = .ok (.ior, 1) := by decide +kernel
theorem dX8_goSay_75 : decode cX8_goSay 75 = .ok (.iastore, 1) := by decide +kernel
theorem dX8_goSay_76 : decode cX8_goSay 76 = .ok (.aload_n 1, 1) := by decide +kernel
theorem dX8_goSay_77 : decode cX8_goSay 77 = .ok (.bipush 10, 2) := by decide +kernel
theorem dX8_goSay_79 : decode cX8_goSay 79 = .ok (.iload 8, 2) := by decide +kernel
theorem dX8_goSay_81 : decode cX8_goSay 81 = .ok (.iadd, 1) := by decide +kernel
theorem dX8_goSay_82 : decode cX8_goSay 82 = .ok (.dup2, 1) := by decide +kernel
theorem dX8_goSay_83 : decode cX8_goSay 83 = .ok (.iaload, 1) := by decide +kernel
theorem dX8_goSay_84 : decode cX8_goSay 84 = .ok (.iload 6, 2) := by decide +kernel
theorem dX8_goSay_86 : decode cX8_goSay 86 = .ok (.bipush (-9), 2) := by decide +kernel
theorem dX8_goSay_88 : decode cX8_goSay 88 = .ok (.if_icmp .ne 24, 3) := by decide +kernel
theorem dX8_goSay_91 : decode cX8_goSay 91 = .ok (.iload 5, 2) := by decide +kernel
theorem dX8_goSay_93 : decode cX8_goSay 93 = .ok (.iload 8, 2) := by decide +kernel
theorem dX8_goSay_95 : decode cX8_goSay 95 = .ok (.invokestatic 104, 3) := by decide +kernel
theorem dX8_goSay_98 : decode cX8_goSay 98 = .ok (.ifCond .eq 14, 3) := by decide +kernel
theorem dX8_goSay_101 : decode cX8_goSay 101 = .ok (.bipush 12, 2) := by decide +kernel
theorem dX8_goSay_103 : decode cX8_goSay 103 = .ok (.iload 5, 2) := by decide +kernel
theorem dX8_goSay_105 : decode cX8_goSay 105 = .ok (.invokestatic 145, 3) := by decide +kernel
theorem dX8_goSay_108 : decode cX8_goSay 108 = .ok (.idiv, 1) := by decide +kernel
theorem dX8_goSay_109 : decode cX8_goSay 109 = .ok (.goto 4, 3) := by decide +kernel
theorem dX8_goSay_112 : decode cX8_goSay 112 = .ok (.iconst 0, 1) := by decide +kernel
theorem dX8_goSay_113 : decode cX8_goSay 113 = .ok (.iadd, 1) := by decide +kernel
theorem dX8_goSay_114 : decode cX8_goSay 114 = .ok (.iastore, 1) := by decide +kernel
theorem dX8_goSay_115 : decode cX8_goSay 115 = .ok (.iinc 8 1, 3) := by decide +kernel
theorem dX8_goSay_118 : decode cX8_goSay 118 = .ok (.goto (-84), 3) := by decide +kernel
theorem dX8_goSay_121 : decode cX8_goSay 121 = .ok (.aload_n 1, 1) := by decide +kernel
theorem dX8_goSay_122 : decode cX8_goSay 122 = .ok (.bipush 10, 2) := by decide +kernel
theorem dX8_goSay_124 : decode cX8_goSay 124 = .ok (.iload_n 2, 1) := by decide +kernel
theorem dX8_goSay_125 : decode cX8_goSay 125 = .ok (.iadd, 1) := by decide +kernel
theorem dX8_goSay_126 : decode cX8_goSay 126 = .ok (.dup2, 1) := by decide +kernel
theorem dX8_goSay_127 : decode cX8_goSay 127 = .ok (.iaload, 1) := by decide +kernel
theorem dX8_goSay_128 : decode cX8_goSay 128 = .ok (.iload 6, 2) := by decide +kernel
theorem dX8_goSay_130 : decode cX8_goSay 130 = .ok (.bipush (-9), 2) := by decide +kernel
theorem dX8_goSay_132 : decode cX8_goSay 132 = .ok (.if_icmp .eq 17, 3) := by decide +kernel
theorem dX8_goSay_135 : decode cX8_goSay 135 = .ok (.aload_n 0, 1) := by decide +kernel
theorem dX8_goSay_136 : decode cX8_goSay 136 = .ok (.getfield 13, 3) := by decide +kernel
theorem dX8_goSay_139 : decode cX8_goSay 139 = .ok (.iload_n 2, 1) := by decide +kernel
theorem dX8_goSay_140 : decode cX8_goSay 140 = .ok (.iaload, 1) := by decide +kernel
theorem dX8_goSay_141 : decode cX8_goSay 141 = .ok (.iconst 3, 1) := by decide +kernel
theorem dX8_goSay_142 : decode cX8_goSay 142 = .ok (.if_icmp .eq 7, 3) := by decide +kernel
theorem dX8_goSay_145 : decode cX8_goSay 145 = .ok (.iconst 1, 1) := by decide +kernel
theorem dX8_goSay_146 : decode cX8_goSay 146 = .ok (.goto 4, 3) := by decide +kernel
theorem dX8_goSay_149 : decode cX8_goSay 149 = .ok (.iconst 0, 1) := by decide +kernel
theorem dX8_goSay_150 : decode cX8_goSay 150 = .ok (.iadd, 1) := by decide +kernel
theorem dX8_goSay_151 : decode cX8_goSay 151 = .ok (.iastore, 1) := by decide +kernel
theorem dX8_goSay_152 : decode cX8_goSay 152 = .ok (.iload 6, 2) := by decide +kernel
theorem dX8_goSay_154 : decode cX8_goSay 154 = .ok (.ireturn, 1) := by decide +kernel
theorem dX8_say_0 : decode cX8_say 0 = .ok (.aload_n 0, 1) := by decide +kernel
theorem dX8_say_1 : decode cX8_say 1 = .ok (.iconst 0, 1) := by decide +kernel
theorem dX8_say_2 : decode cX8_say 2 = .ok (.putfield 53, 3) := by decide +kernel
theorem dX8_say_5 : decode cX8_say 5 = .ok (.aload_n 0, 1) := by decide +kernel
theorem dX8_say_6 : decode cX8_say 6 = .ok (.iload_n 1, 1) := by decide +kernel
theorem dX8_say_7 : decode cX8_say 7 = .ok (.invokevirtual 127, 3) := by decide +kernel
theorem dX8_say_10 : decode cX8_say 10 = .ok (.ifCond .ne 10, 3) := by decide +kernel
theorem dX8_say_13 : decode cX8_say 13 = .ok (.iload_n 2, 1) := by decide +kernel
theorem dX8_say_14 : decode cX8_say 14 = .ok (.invokestatic 148, 3) := by decide +kernel
theorem dX8_say_17 : decode cX8_say 17 = .ok (.ifCond .eq 5, 3) := by decide +kernel
theorem dX8_say_20 : decode cX8_say 20 = .ok (.iconst (-1), 1) := by decide +kernel
theorem dX8_say_21 : decode cX8_say 21 = .ok (.ireturn, 1) := by decide +kernel
theorem dX8_say_22 : decode cX8_say 22 = .ok (.iload_n 3, 1) := by decide +kernel
theorem dX8_say_23 : decode cX8_say 23 = .ok (.i2l, 1) := by decide +kernel
theorem dX8_say_24 : decode cX8_say 24 = .ok (.lconst 1, 1) := by decide +kernel
theorem dX8_say_25 : decode cX8_say 25 = .ok (.ldc2_w 151, 3) := by decide +kernel
theorem dX8_say_28 : decode cX8_say 28 = .ok (.invokestatic 60, 3) := by decide +kernel
theorem dX8_say_31 : decode cX8_say 31 = .ok (.ifCond .ne 6, 3) := by decide +kernel
theorem dX8_say_34 : decode cX8_say 34 = .ok (.bipush (-2), 2) := by decide +kernel
theorem dX8_say_36 : decode cX8_say 36 = .ok (.ireturn, 1) := by decide +kernel
theorem dX8_say_37 : decode cX8_say 37 = .ok (.aload_n 0, 1) := by decide +kernel
theorem dX8_say_38 : decode cX8_say 38 = .ok (.invokevirtual 153, 3) := by decide +kernel
theorem dX8_say_41 : decode cX8_say 41 = .ok (.aload_n 0, 1) := by decide +kernel
theorem dX8_say_42 : decode cX8_say 42 = .ok (.aload_n 0, 1) := by decide +kernel
theorem dX8_say_43 : decode cX8_say 43 = .ok (.getfield 28, 3) := by decide +kernel
theorem dX8_say_46 : decode cX8_say 46 = .ok (.iload_n 1, 1) := by decide +kernel
theorem dX8_say_47 : decode cX8_say 47 = .ok (.iload_n 2, 1) := by decide +kernel
theorem dX8_say_48 : decode cX8_say 48 = .ok (.iload_n 3, 1) := by decide +kernel
theorem dX8_say_49 : decode cX8_say 49 = .ok (.invokevirtual 156, 3) := by decide +kernel
theorem dX8_say_52 : decode cX8_say 52 = .ok (.ireturn, 1) := by decide +kernel
theorem dX8_teach_0 : decode cX8_teach 0 = .ok (.aload_n 0, 1) := by decide +kernel
theorem dX8_teach_1 : decode cX8_teach 1 = .ok (.iconst 0, 1) := by decide +kernel
theorem dX8_teach_2 : decode cX8_teach 2 = .ok (.putfield 53, 3) := by decide +kernel
theorem dX8_teach_5 : decode cX8_teach 5 = .ok (.aload_n 0, 1) := by decide +kernel
theorem dX8_teach_6 : decode cX8_teach 6 = .ok (.iload_n 1, 1) := by decide +kernel
theorem dX8_teach_7 : decode cX8_teach 7 = .ok (.invokevirtual 127, 3) := by decide +kernel
theorem dX8_teach_10 : decode cX8_teach 10 = .ok (.ifCond .ne 10, 3) := by decide +kernel
theorem dX8_teach_13 : decode cX8_teach 13 = .ok (.iload_n 2, 1) := by decide +kernel
theorem dX8_teach_14 : decode cX8_teach 14 = .ok (.invokestatic 148, 3) := by decide +kernel
theorem dX8_teach_17 : decode cX8_teach 17 = .ok (.ifCond .eq 5, 3) := by decide +kernel
theorem dX8_teach_20 : decode cX8_teach 20 = .ok (.iconst (-1), 1) := by decide +kernel
theorem dX8_teach_21 : decode cX8_teach 21 = .ok (.ireturn, 1) := by decide +kernel
theorem dX8_teach_22 : decode cX8_teach 22 = .ok (.aload_n 0, 1) := by decide +kernel
theorem dX8_teach_23 : decode cX8_teach 23 = .ok (.getfield 28, 3) := by decide +kernel
theorem dX8_teach_26 : decode cX8_teach 26 = .ok (.iconst 0, 1) := by decide +kernel
theorem dX8_teach_27 : decode cX8_teach 27 = .ok (.iload_n 1, 1) := by decide +kernel
theorem dX8_teach_28 : decode cX8_teach 28 = .ok (.iadd, 1) := by decide +kernel
theorem dX8_teach_29 : decode cX8_teach 29 = .ok (.iaload, 1) := by decide +kernel
theorem dX8_teach_30 : decode cX8_teach 30 = .ok (.iload_n 2, 1) := by decide +kernel
theorem dX8_teach_31 : decode cX8_teach 31 = .ok (.invokestatic 104, 3) := by decide +kernel
theorem dX8_teach_34 : decode cX8_teach 34 = .ok (.ifCond .eq 6, 3) := by decide +kernel
theorem dX8_teach_37 : decode cX8_teach 37 = .ok (.bipush (-3), 2) := by decide +kernel
theorem dX8_teach_39 : decode cX8_teach 39 = .ok (.ireturn, 1) := by decide +kernel
theorem dX8_teach_40 : decode cX8_teach 40 = .ok (.aload_n 0, 1) := by decide +kernel
theorem dX8_teach_41 : decode cX8_teach 41 = .ok (.invokevirtual 153, 3) := by decide +kernel
theorem dX8_teach_44 : decode cX8_teach 44 = .ok (.aload_n 0, 1) := by decide +kernel
theorem dX8_teach_45 : decode cX8_teach 45 = .ok (.getfield 28, 3) := by decide +kernel
theorem dX8_teach_48 : decode cX8_teach 48 = .ok (.iconst 0, 1) := by decide +kernel
theorem dX8_teach_49 : decode cX8_teach 49 = .ok (.iload_n 1, 1) := by decide +kernel
theorem dX8_teach_50 : decode cX8_teach 50 = .ok (.iadd, 1) := by decide +kernel
theorem dX8_teach_51 : decode cX8_teach 51 = .ok (.dup2, 1) := by decide +kernel
theorem dX8_teach_52 : decode cX8_teach 52 = .ok (.iaload, 1) := by decide +kernel
theorem dX8_teach_53 : decode cX8_teach 53 = .ok (.iconst 1, 1) := by decide +kernel
theorem dX8_teach_54 : decode cX8_teach 54 = .ok (.iload_n 2, 1) := by decide +kernel
theorem dX8_teach_55 : decode cX8_teach 55 = .ok (.ishl, 1) := by decide +kernel
theorem dX8_teach_56 : decode cX8_teach 56 = .ok (.ior, 1) := by decide +kernel
theorem dX8_teach_57 : decode cX8_teach 57 = .ok (.iastore, 1) := by decide +kernel
theorem dX8_teach_58 : decode cX8_teach 58 = .ok (.aload_n 0, 1) := by decide +kernel
theorem dX8_teach_59 : decode cX8_teach 59 = .ok (.aload_n 0, 1) := by decide +kernel
theorem dX8_teach_60 : decode cX8_teach 60 = .ok (.getfield 28, 3) := by decide +kernel
theorem dX8_teach_63 : decode cX8_teach 63 = .ok (.iconst 0, 1) := by decide +kernel
theorem dX8_teach_64 : decode cX8_teach 64 = .ok (.iload_n 1, 1) := by decide +kernel
theorem dX8_teach_65 : decode cX8_teach 65 = .ok (.iadd, 1) := by decide +kernel
theorem dX8_teach_66 : decode cX8_teach 66 = .ok (.iaload, 1) := by decide +kernel
theorem dX8_teach_67 : decode cX8_teach 67 = .ok (.invokevirtual 116, 3) := by decide +kernel
theorem dX8_teach_70 : decode cX8_teach 70 = .ok (.ireturn, 1) := by decide +kernel
theorem dX8_forget_0 : decode cX8_forget 0 = .ok (.aload_n 0, 1) := by decide +kernel
theorem dX8_forget_1 : decode cX8_forget 1 = .ok (.iconst 0, 1) := by decide +kernel
theorem dX8_forget_2 : decode cX8_forget 2 = .ok (.putfield 53, 3) := by decide +kernel
theorem dX8_forget_5 : decode cX8_forget 5 = .ok (.aload_n 0, 1) := by decide +kernel
theorem dX8_forget_6 : decode cX8_forget 6 = .ok (.iload_n 1, 1) := by decide +kernel
theorem dX8_forget_7 : decode cX8_forget 7 = .ok (.invokevirtual 127, 3) := by decide +kernel
theorem dX8_forget_10 : decode cX8_forget 10 = .ok (.ifCond .ne 10, 3) := by decide +kernel
theorem dX8_forget_13 : decode cX8_forget 13 = .ok (.iload_n 2, 1) := by decide +kernel
theorem dX8_forget_14 : decode cX8_forget 14 = .ok (.invokestatic 148, 3) := by decide +kernel
theorem dX8_forget_17 : decode cX8_forget 17 = .ok (.ifCond .eq 5, 3) := by decide +kernel
theorem dX8_forget_20 : decode cX8_forget 20 = .ok (.iconst (-1), 1) := by decide +kernel
theorem dX8_forget_21 : decode cX8_forget 21 = .ok (.ireturn, 1) := by decide +kernel
theorem dX8_forget_22 : decode cX8_forget 22 = .ok (.aload_n 0, 1) := by decide +kernel
theorem dX8_forget_23 : decode cX8_forget 23 = .ok (.getfield 28, 3) := by decide +kernel
theorem dX8_forget_26 : decode cX8_forget 26 = .ok (.iconst 0, 1) := by decide +kernel
theorem dX8_forget_27 : decode cX8_forget 27 = .ok (.iload_n 1, 1) := by decide +kernel
theorem dX8_forget_28 : decode cX8_forget 28 = .ok (.iadd, 1) := by decide +kernel
theorem dX8_forget_29 : decode cX8_forget 29 = .ok (.iaload, 1) := by decide +kernel
theorem dX8_forget_30 : decode cX8_forget 30 = .ok (.iload_n 2, 1) := by decide +kernel
theorem dX8_forget_31 : decode cX8_forget 31 = .ok (.invokestatic 104, 3) := by decide +kernel
theorem dX8_forget_34 : decode cX8_forget 34 = .ok (.ifCond .ne 6, 3) := by decide +kernel
theorem dX8_forget_37 : decode cX8_forget 37 = .ok (.bipush (-3), 2) := by decide +kernel
theorem dX8_forget_39 : decode cX8_forget 39 = .ok (.ireturn, 1) := by decide +kernel
theorem dX8_forget_40 : decode cX8_forget 40 = .ok (.aload_n 0, 1) := by decide +kernel
theorem dX8_forget_41 : decode cX8_forget 41 = .ok (.invokevirtual 153, 3) := by decide +kernel
theorem dX8_forget_44 : decode cX8_forget 44 = .ok (.aload_n 0, 1) := by decide +kernel
theorem dX8_forget_45 : decode cX8_forget 45 = .ok (.getfield 28, 3) := by decide +kernel
theorem dX8_forget_48 : decode cX8_forget 48 = .ok (.iconst 0, 1) := by decide +kernel
theorem dX8_forget_49 : decode cX8_forget 49 = .ok (.iload_n 1, 1) := by decide +kernel
theorem dX8_forget_50 : decode cX8_forget 50 = .ok (.iadd, 1) := by decide +kernel
theorem dX8_forget_51 : decode cX8_forget 51 = .ok (.dup2, 1) := by decide +kernel
theorem dX8_forget_52 : decode cX8_forget 52 = .ok (.iaload, 1) := by decide +kernel
theorem dX8_forget_53 : decode cX8_forget 53 = .ok (.iconst 1, 1) := by decide +kernel
theorem dX8_forget_54 : decode cX8_forget 54 = .ok (.iload_n 2, 1) := by decide +kernel
theorem dX8_forget_55 : decode cX8_forget 55 = .ok (.ishl, 1) := by decide +kernel
theorem dX8_forget_56 : decode cX8_forget 56 = .ok (.iconst (-1), 1) := by decide +kernel
theorem dX8_forget_57 : decode cX8_forget 57 = .ok (.ixor, 1) := by decide +kernel
theorem dX8_forget_58 : decode cX8_forget 58 = .ok (.iand, 1) := by decide +kernel
theorem dX8_forget_59 : decode cX8_forget 59 = .ok (.iastore, 1) := by decide +kernel
theorem dX8_forget_60 : decode cX8_forget 60 = .ok (.aload_n 0, 1) := by decide +kernel
theorem dX8_forget_61 : decode cX8_forget 61 = .ok (.aload_n 0, 1) := by decide +kernel
theorem dX8_forget_62 : decode cX8_forget 62 = .ok (.getfield 28, 3) := by decide +kernel
theorem dX8_forget_65 : decode cX8_forget 65 = .ok (.iconst 0, 1) := by decide +kernel
theorem dX8_forget_66 : decode cX8_forget 66 = .ok (.iload_n 1, 1) := by decide +kernel
theorem dX8_forget_67 : decode cX8_forget 67 = .ok (.iadd, 1) := by decide +kernel
theorem dX8_forget_68 : decode cX8_forget 68 = .ok (.iaload, 1) := by decide +kernel
theorem dX8_forget_69 : decode cX8_forget 69 = .ok (.invokevirtual 116, 3) := by decide +kernel
theorem dX8_forget_72 : decode cX8_forget 72 = .ok (.ireturn, 1) := by decide +kernel
theorem dX8_change_0 : decode cX8_change 0 = .ok (.aload_n 0, 1) := by decide +kernel
theorem dX8_change_1 : decode cX8_change 1 = .ok (.iconst 0, 1) := by decide +kernel
theorem dX8_change_2 : decode cX8_change 2 = .ok (.putfield 53, 3) := by decide +kernel
theorem dX8_change_5 : decode cX8_change 5 = .ok (.aload_n 0, 1) := by decide +kernel
theorem dX8_change_6 : decode cX8_change 6 = .ok (.iload_n 1, 1) := by decide +kernel
theorem dX8_change_7 : decode cX8_change 7 = .ok (.invokevirtual 127, 3) := by decide +kernel
theorem dX8_change_10 : decode cX8_change 10 = .ok (.ifCond .ne 11, 3) := by decide +kernel
theorem dX8_change_13 : decode cX8_change 13 = .ok (.aload_n 0, 1) := by decide +kernel
theorem dX8_change_14 : decode cX8_change 14 = .ok (.iload_n 2, 1) := by decide +kernel
theorem dX8_change_15 : decode cX8_change 15 = .ok (.invokevirtual 127, 3) := by decide +kernel
theorem dX8_change_18 : decode cX8_change 18 = .ok (.ifCond .eq 5, 3) := by decide +kernel
theorem dX8_change_21 : decode cX8_change 21 = .ok (.iconst (-1), 1) := by decide +kernel
theorem dX8_change_22 : decode cX8_change 22 = .ok (.ireturn, 1) := by decide +kernel
theorem dX8_change_23 : decode cX8_change 23 = .ok (.iload_n 1, 1) := by decide +kernel
theorem dX8_change_24 : decode cX8_change 24 = .ok (.iload_n 2, 1) := by decide +kernel
theorem dX8_change_25 : decode cX8_change 25 = .ok (.if_icmp .ne 6, 3) := by decide +kernel
theorem dX8_change_28 : decode cX8_change 28 = .ok (.bipush (-2), 2) := by decide +kernel
theorem dX8_change_30 : decode cX8_change 30 = .ok (.ireturn, 1) := by decide +kernel
theorem dX8_change_31 : decode cX8_change 31 = .ok (.aload_n 0, 1) := by decide +kernel
theorem dX8_change_32 : decode cX8_change 32 = .ok (.invokevirtual 153, 3) := by decide +kernel
theorem dX8_change_35 : decode cX8_change 35 = .ok (.aload_n 0, 1) := by decide +kernel
theorem dX8_change_36 : decode cX8_change 36 = .ok (.getfield 28, 3) := by decide +kernel
theorem dX8_change_39 : decode cX8_change 39 = .ok (.iconst 5, 1) := by decide +kernel
theorem dX8_change_40 : decode cX8_change 40 = .ok (.iload_n 1, 1) := by decide +kernel
theorem dX8_change_41 : decode cX8_change 41 = .ok (.iadd, 1) := by decide +kernel
theorem dX8_change_42 : decode cX8_change 42 = .ok (.iaload, 1) := by decide +kernel
theorem dX8_change_43 : decode cX8_change 43 = .ok (.istore_n 3, 1) := by decide +kernel
theorem dX8_change_44 : decode cX8_change 44 = .ok (.aload_n 0, 1) := by decide +kernel
theorem dX8_change_45 : decode cX8_change 45 = .ok (.getfield 28, 3) := by decide +kernel
theorem dX8_change_48 : decode cX8_change 48 = .ok (.iconst 5, 1) := by decide +kernel
theorem dX8_change_49 : decode cX8_change 49 = .ok (.iload_n 1, 1) := by decide +kernel
theorem dX8_change_50 : decode cX8_change 50 = .ok (.iadd, 1) := by decide +kernel
theorem dX8_change_51 : decode cX8_change 51 = .ok (.aload_n 0, 1) := by decide +kernel
theorem dX8_change_52 : decode cX8_change 52 = .ok (.getfield 28, 3) := by decide +kernel
theorem dX8_change_55 : decode cX8_change 55 = .ok (.iconst 5, 1) := by decide +kernel
theorem dX8_change_56 : decode cX8_change 56 = .ok (.iload_n 2, 1) := by decide +kernel
theorem dX8_change_57 : decode cX8_change 57 = .ok (.iadd, 1) := by decide +kernel
theorem dX8_change_58 : decode cX8_change 58 = .ok (.iaload, 1) := by decide +kernel
theorem dX8_change_59 : decode cX8_change 59 = .ok (.iastore, 1) := by decide +kernel
theorem dX8_change_60 : decode cX8_change 60 = .ok (.aload_n 0, 1) := by decide +kernel
theorem dX8_change_61 : decode cX8_change 61 = .ok (.getfield 28, 3) := by decide +kernel
theorem dX8_change_64 : decode cX8_change 64 = .ok (.iconst 5, 1) := by decide +kernel
theorem dX8_change_65 : decode cX8_change 65 = .ok (.iload_n 2, 1) := by decide +kernel
theorem dX8_change_66 : decode cX8_change 66 = .ok (.iadd, 1) := by decide +kernel
theorem dX8_change_67 : decode cX8_change 67 = .ok (.iload_n 3, 1) := by decide +kernel
theorem dX8_change_68 : decode cX8_change 68 = .ok (.iastore, 1) := by decide +kernel
theorem dX8_change_69 : decode cX8_change 69 = .ok (.aload_n 0, 1) := by decide +kernel
theorem dX8_change_70 : decode cX8_change 70 = .ok (.getfield 28, 3) := by decide +kernel
theorem dX8_change_73 : decode cX8_change 73 = .ok (.iconst 5, 1) := by decide +kernel
theorem dX8_change_74 : decode cX8_change 74 = .ok (.iload_n 1, 1) := by decide +kernel
theorem dX8_change_75 : decode cX8_change 75 = .ok (.iadd, 1) := by decide +kernel
theorem dX8_change_76 : decode cX8_change 76 = .ok (.iaload, 1) := by decide +kernel
theorem dX8_change_77 : decode cX8_change 77 = .ok (.ireturn, 1) := by decide +kernel
theorem dX8_undo_0 : decode cX8_undo 0 = .ok (.aload_n 0, 1) := by decide +kernel
theorem dX8_undo_1 : decode cX8_undo 1 = .ok (.iconst 0, 1) := by decide +kernel
theorem dX8_undo_2 : decode cX8_undo 2 = .ok (.putfield 53, 3) := by decide +kernel
theorem dX8_undo_5 : decode cX8_undo 5 = .ok (.aload_n 0, 1) := by decide +kernel
theorem dX8_undo_6 : decode cX8_undo 6 = .ok (.getfield 101, 3) := by decide +kernel
theorem dX8_undo_9 : decode cX8_undo 9 = .ok (.ifCond .ne 6, 3) := by decide +kernel
theorem dX8_undo_12 : decode cX8_undo 12 = .ok (.bipush (-3), 2) := by decide +kernel
theorem dX8_undo_14 : decode cX8_undo 14 = .ok (.ireturn, 1) := by decide +kernel
theorem dX8_undo_15 : decode cX8_undo 15 = .ok (.aload_n 0, 1) := by decide +kernel
theorem dX8_undo_16 : decode cX8_undo 16 = .ok (.dup, 1) := by decide +kernel
theorem dX8_undo_17 : decode cX8_undo 17 = .ok (.getfield 101, 3) := by decide +kernel
theorem dX8_undo_20 : decode cX8_undo 20 = .ok (.iconst 1, 1) := by decide +kernel
theorem dX8_undo_21 : decode cX8_undo 21 = .ok (.isub, 1) := by decide +kernel
theorem dX8_undo_22 : decode cX8_undo 22 = .ok (.putfield 101, 3) := by decide +kernel
theorem dX8_undo_25 : decode cX8_undo 25 = .ok (.iconst 0, 1) := by decide +kernel
theorem dX8_undo_26 : decode cX8_undo 26 = .ok (.istore_n 1, 1) := by decide +kernel
theorem dX8_undo_27 : decode cX8_undo 27 = .ok (.iload_n 1, 1) := by decide +kernel
theorem dX8_undo_28 : decode cX8_undo 28 = .ok (.bipush 15, 2) := by decide +kernel
theorem dX8_undo_30 : decode cX8_undo 30 = .ok (.if_icmp .ge 29, 3) := by decide +kernel
theorem dX8_undo_33 : decode cX8_undo 33 = .ok (.aload_n 0, 1) := by decide +kernel
theorem dX8_undo_34 : decode cX8_undo 34 = .ok (.getfield 28, 3) := by decide +kernel
theorem dX8_undo_37 : decode cX8_undo 37 = .ok (.iload_n 1, 1) := by decide +kernel
theorem dX8_undo_38 : decode cX8_undo 38 = .ok (.aload_n 0, 1) := by decide +kernel
theorem dX8_undo_39 : decode cX8_undo 39 = .ok (.getfield 34, 3) := by decide +kernel
theorem dX8_undo_42 : decode cX8_undo 42 = .ok (.bipush 15, 2) := by decide +kernel
theorem dX8_undo_44 : decode cX8_undo 44 = .ok (.aload_n 0, 1) := by decide +kernel
theorem dX8_undo_45 : decode cX8_undo 45 = .ok (.getfield 101, 3) := by decide +kernel
theorem dX8_undo_48 : decode cX8_undo 48 = .ok (.imul, 1) := by decide +kernel
theorem dX8_undo_49 : decode cX8_undo 49 = .ok (.iload_n 1, 1) := by decide +kernel
theorem dX8_undo_50 : decode cX8_undo 50 = .ok (.iadd, 1) := by decide +kernel
theorem dX8_undo_51 : decode cX8_undo 51 = .ok (.iaload, 1) := by decide +kernel
theorem dX8_undo_52 : decode cX8_undo 52 = .ok (.iastore, 1) := by decide +kernel
theorem dX8_undo_53 : decode cX8_undo 53 = .ok (.iinc 1 1, 3) := by decide +kernel
theorem dX8_undo_56 : decode cX8_undo 56 = .ok (.goto (-29), 3) := by decide +kernel
theorem dX8_undo_59 : decode cX8_undo 59 = .ok (.aload_n 0, 1) := by decide +kernel
theorem dX8_undo_60 : decode cX8_undo 60 = .ok (.getfield 101, 3) := by decide +kernel
theorem dX8_undo_63 : decode cX8_undo 63 = .ok (.ireturn, 1) := by decide +kernel
theorem dX8_hearers_0 : decode cX8_hearers 0 = .ok (.aload_n 0, 1) := by decide +kernel
theorem dX8_hearers_1 : decode cX8_hearers 1 = .ok (.iconst 0, 1) := by decide +kernel
theorem dX8_hearers_2 : decode cX8_hearers 2 = .ok (.putfield 53, 3) := by decide +kernel
theorem dX8_hearers_5 : decode cX8_hearers 5 = .ok (.aload_n 0, 1) := by decide +kernel
theorem dX8_hearers_6 : decode cX8_hearers 6 = .ok (.iload_n 1, 1) := by decide +kernel
theorem dX8_hearers_7 : decode cX8_hearers 7 = .ok (.invokevirtual 127, 3) := by decide +kernel
theorem dX8_hearers_10 : decode cX8_hearers 10 = .ok (.ifCond .eq 5, 3) := by decide +kernel
theorem dX8_hearers_13 : decode cX8_hearers 13 = .ok (.iconst (-1), 1) := by decide +kernel
theorem dX8_hearers_14 : decode cX8_hearers 14 = .ok (.ireturn, 1) := by decide +kernel
theorem dX8_hearers_15 : decode cX8_hearers 15 = .ok (.iload_n 2, 1) := by decide +kernel
theorem dX8_hearers_16 : decode cX8_hearers 16 = .ok (.i2l, 1) := by decide +kernel
theorem dX8_hearers_17 : decode cX8_hearers 17 = .ok (.lconst 1, 1) := by decide +kernel
theorem dX8_hearers_18 : decode cX8_hearers 18 = .ok (.ldc2_w 151, 3) := by decide +kernel
theorem dX8_hearers_21 : decode cX8_hearers 21 = .ok (.invokestatic 60, 3) := by decide +kernel
theorem dX8_hearers_24 : decode cX8_hearers 24 = .ok (.ifCond .eq 16, 3) := by decide +kernel
theorem dX8_hearers_27 : decode cX8_hearers 27 = .ok (.aload_n 0, 1) := by decide +kernel
theorem dX8_hearers_28 : decode cX8_hearers 28 = .ok (.aload_n 0, 1) := by decide +kernel
theorem dX8_hearers_29 : decode cX8_hearers 29 = .ok (.getfield 28, 3) := by decide +kernel
theorem dX8_hearers_32 : decode cX8_hearers 32 = .ok (.iload_n 1, 1) := by decide +kernel
theorem dX8_hearers_33 : decode cX8_hearers 33 = .ok (.iload_n 2, 1) := by decide +kernel
theorem dX8_hearers_34 : decode cX8_hearers 34 = .ok (.invokevirtual 142, 3) := by decide +kernel
theorem dX8_hearers_37 : decode cX8_hearers 37 = .ok (.goto 5, 3) := by decide +kernel
theorem dX8_hearers_40 : decode cX8_hearers 40 = .ok (.bipush (-2), 2) := by decide +kernel
theorem dX8_hearers_42 : decode cX8_hearers 42 = .ok (.ireturn, 1) := by decide +kernel
theorem dX8_safe_0 : decode cX8_safe 0 = .ok (.aload_n 0, 1) := by decide +kernel
theorem dX8_safe_1 : decode cX8_safe 1 = .ok (.iconst 0, 1) := by decide +kernel
theorem dX8_safe_2 : decode cX8_safe 2 = .ok (.putfield 53, 3) := by decide +kernel
theorem dX8_safe_5 : decode cX8_safe 5 = .ok (.aload_n 0, 1) := by decide +kernel
theorem dX8_safe_6 : decode cX8_safe 6 = .ok (.iload_n 1, 1) := by decide +kernel
theorem dX8_safe_7 : decode cX8_safe 7 = .ok (.invokevirtual 127, 3) := by decide +kernel
theorem dX8_safe_10 : decode cX8_safe 10 = .ok (.ifCond .eq 5, 3) := by decide +kernel
theorem dX8_safe_13 : decode cX8_safe 13 = .ok (.iconst (-1), 1) := by decide +kernel
theorem dX8_safe_14 : decode cX8_safe 14 = .ok (.ireturn, 1) := by decide +kernel
theorem dX8_safe_15 : decode cX8_safe 15 = .ok (.iload_n 2, 1) := by decide +kernel
theorem dX8_safe_16 : decode cX8_safe 16 = .ok (.i2l, 1) := by decide +kernel
theorem dX8_safe_17 : decode cX8_safe 17 = .ok (.lconst 1, 1) := by decide +kernel
theorem dX8_safe_18 : decode cX8_safe 18 = .ok (.ldc2_w 151, 3) := by decide +kernel
theorem dX8_safe_21 : decode cX8_safe 21 = .ok (.invokestatic 60, 3) := by decide +kernel
theorem dX8_safe_24 : decode cX8_safe 24 = .ok (.ifCond .ne 6, 3) := by decide +kernel
theorem dX8_safe_27 : decode cX8_safe 27 = .ok (.bipush (-2), 2) := by decide +kernel
theorem dX8_safe_29 : decode cX8_safe 29 = .ok (.ireturn, 1) := by decide +kernel
theorem dX8_safe_30 : decode cX8_safe 30 = .ok (.iconst 0, 1) := by decide +kernel
theorem dX8_safe_31 : decode cX8_safe 31 = .ok (.istore_n 3, 1) := by decide +kernel
theorem dX8_safe_32 : decode cX8_safe 32 = .ok (.iconst 0, 1) := by decide +kernel
theorem dX8_safe_33 : decode cX8_safe 33 = .ok (.istore 4, 2) := by decide +kernel
theorem dX8_safe_35 : decode cX8_safe 35 = .ok (.iload 4, 2) := by decide +kernel
theorem dX8_safe_37 : decode cX8_safe 37 = .ok (.bipush 6, 2) := by decide +kernel
theorem dX8_safe_39 : decode cX8_safe 39 = .ok (.if_icmp .ge 35, 3) := by decide +kernel
theorem dX8_safe_42 : decode cX8_safe 42 = .ok (.iload_n 3, 1) := by decide +kernel
theorem dX8_safe_43 : decode cX8_safe 43 = .ok (.aload_n 0, 1) := by decide +kernel
theorem dX8_safe_44 : decode cX8_safe 44 = .ok (.aload_n 0, 1) := by decide +kernel
theorem dX8_safe_45 : decode cX8_safe 45 = .ok (.getfield 28, 3) := by decide +kernel
theorem dX8_safe_48 : decode cX8_safe 48 = .ok (.iload_n 1, 1) := by decide +kernel
theorem dX8_safe_49 : decode cX8_safe 49 = .ok (.iload 4, 2) := by decide +kernel
theorem dX8_safe_51 : decode cX8_safe 51 = .ok (.iload_n 2, 1) := by decide +kernel
theorem dX8_safe_52 : decode cX8_safe 52 = .ok (.invokevirtual 135, 3) := by decide +kernel
theorem dX8_safe_55 : decode cX8_safe 55 = .ok (.ifCond .ne 10, 3) := by decide +kernel
theorem dX8_safe_58 : decode cX8_safe 58 = .ok (.iconst 1, 1) := by decide +kernel
theorem dX8_safe_59 : decode cX8_safe 59 = .ok (.iload 4, 2) := by decide +kernel
theorem dX8_safe_61 : decode cX8_safe 61 = .ok (.ishl, 1) := by decide +kernel
theorem dX8_safe_62 : decode cX8_safe 62 = .ok (.goto 4, 3) := by decide +kernel
theorem dX8_safe_65 : decode cX8_safe 65 = .ok (.iconst 0, 1) := by decide +kernel
theorem dX8_safe_66 : decode cX8_safe 66 = .ok (.ior, 1) := by decide +kernel
theorem dX8_safe_67 : decode cX8_safe 67 = .ok (.istore_n 3, 1) := by decide +kernel
theorem dX8_safe_68 : decode cX8_safe 68 = .ok (.iinc 4 1, 3) := by decide +kernel
theorem dX8_safe_71 : decode cX8_safe 71 = .ok (.goto (-36), 3) := by decide +kernel
theorem dX8_safe_74 : decode cX8_safe 74 = .ok (.iload_n 3, 1) := by decide +kernel
theorem dX8_safe_75 : decode cX8_safe 75 = .ok (.ireturn, 1) := by decide +kernel
theorem dX8_begin_0 : decode cX8_begin 0 = .ok (.iconst 0, 1) := by decide +kernel
theorem dX8_begin_1 : decode cX8_begin 1 = .ok (.istore_n 1, 1) := by decide +kernel
theorem dX8_begin_2 : decode cX8_begin 2 = .ok (.iload_n 1, 1) := by decide +kernel
theorem dX8_begin_3 : decode cX8_begin 3 = .ok (.bipush 15, 2) := by decide +kernel
theorem dX8_begin_5 : decode cX8_begin 5 = .ok (.if_icmp .ge 21, 3) := by decide +kernel
theorem dX8_begin_8 : decode cX8_begin 8 = .ok (.aload_n 0, 1) := by decide +kernel
theorem dX8_begin_9 : decode cX8_begin 9 = .ok (.getfield 31, 3) := by decide +kernel
theorem dX8_begin_12 : decode cX8_begin 12 = .ok (.iload_n 1, 1) := by decide +kernel
theorem dX8_begin_13 : decode cX8_begin 13 = .ok (.aload_n 0, 1) := by decide +kernel
theorem dX8_begin_14 : decode cX8_begin 14 = .ok (.getfield 28, 3) := by decide +kernel
theorem dX8_begin_17 : decode cX8_begin 17 = .ok (.iload_n 1, 1) := by decide +kernel
theorem dX8_begin_18 : decode cX8_begin 18 = .ok (.iaload, 1) := by decide +kernel
theorem dX8_begin_19 : decode cX8_begin 19 = .ok (.iastore, 1) := by decide +kernel
theorem dX8_begin_20 : decode cX8_begin 20 = .ok (.iinc 1 1, 3) := by decide +kernel
theorem dX8_begin_23 : decode cX8_begin 23 = .ok (.goto (-21), 3) := by decide +kernel
theorem dX8_begin_26 : decode cX8_begin 26 = .ok (.return_, 1) := by decide +kernel
theorem dX8_power_0 : decode cX8_power 0 = .ok (.iconst 1, 1) := by decide +kernel
theorem dX8_power_1 : decode cX8_power 1 = .ok (.istore_n 2, 1) := by decide +kernel
theorem dX8_power_2 : decode cX8_power 2 = .ok (.iconst 0, 1) := by decide +kernel
theorem dX8_power_3 : decode cX8_power 3 = .ok (.istore_n 3, 1) := by decide +kernel
theorem dX8_power_4 : decode cX8_power 4 = .ok (.iload_n 3, 1) := by decide +kernel
theorem dX8_power_5 : decode cX8_power 5 = .ok (.iload_n 1, 1) := by decide +kernel
theorem dX8_power_6 : decode cX8_power 6 = .ok (.if_icmp .ge 13, 3) := by decide +kernel
theorem dX8_power_9 : decode cX8_power 9 = .ok (.iload_n 2, 1) := by decide +kernel
theorem dX8_power_10 : decode cX8_power 10 = .ok (.iload_n 0, 1) := by decide +kernel
theorem dX8_power_11 : decode cX8_power 11 = .ok (.imul, 1) := by decide +kernel
theorem dX8_power_12 : decode cX8_power 12 = .ok (.istore_n 2, 1) := by decide +kernel
theorem dX8_power_13 : decode cX8_power 13 = .ok (.iinc 3 1, 3) := by decide +kernel
theorem dX8_power_16 : decode cX8_power 16 = .ok (.goto (-12), 3) := by decide +kernel
theorem dX8_power_19 : decode cX8_power 19 = .ok (.iload_n 2, 1) := by decide +kernel
theorem dX8_power_20 : decode cX8_power 20 = .ok (.ireturn, 1) := by decide +kernel
theorem dX8_laySeats_0 : decode cX8_laySeats 0 = .ok (.aload_n 0, 1) := by decide +kernel
theorem dX8_laySeats_1 : decode cX8_laySeats 1 = .ok (.invokevirtual 159, 3) := by decide +kernel
theorem dX8_laySeats_4 : decode cX8_laySeats 4 = .ok (.iconst 0, 1) := by decide +kernel
theorem dX8_laySeats_5 : decode cX8_laySeats 5 = .ok (.istore_n 2, 1) := by decide +kernel
theorem dX8_laySeats_6 : decode cX8_laySeats 6 = .ok (.iconst 0, 1) := by decide +kernel
theorem dX8_laySeats_7 : decode cX8_laySeats 7 = .ok (.istore_n 3, 1) := by decide +kernel
theorem dX8_laySeats_8 : decode cX8_laySeats 8 = .ok (.iload_n 3, 1) := by decide +kernel
theorem dX8_laySeats_9 : decode cX8_laySeats 9 = .ok (.aload_n 0, 1) := by decide +kernel
theorem dX8_laySeats_10 : decode cX8_laySeats 10 = .ok (.getfield 57, 3) := by decide +kernel
theorem dX8_laySeats_13 : decode cX8_laySeats 13 = .ok (.if_icmp .ge 50, 3) := by decide +kernel
theorem dX8_laySeats_16 : decode cX8_laySeats 16 = .ok (.iload_n 1, 1) := by decide +kernel
theorem dX8_laySeats_17 : decode cX8_laySeats 17 = .ok (.aload_n 0, 1) := by decide +kernel
theorem dX8_laySeats_18 : decode cX8_laySeats 18 = .ok (.getfield 57, 3) := by decide +kernel
theorem dX8_laySeats_21 : decode cX8_laySeats 21 = .ok (.aload_n 0, 1) := by decide +kernel
theorem dX8_laySeats_22 : decode cX8_laySeats 22 = .ok (.getfield 57, 3) := by decide +kernel
theorem dX8_laySeats_25 : decode cX8_laySeats 25 = .ok (.iconst 1, 1) := by decide +kernel
theorem dX8_laySeats_26 : decode cX8_laySeats 26 = .ok (.isub, 1) := by decide +kernel
theorem dX8_laySeats_27 : decode cX8_laySeats 27 = .ok (.iload_n 3, 1) := by decide +kernel
theorem dX8_laySeats_28 : decode cX8_laySeats 28 = .ok (.isub, 1) := by decide +kernel
theorem dX8_laySeats_29 : decode cX8_laySeats 29 = .ok (.invokestatic 162, 3) := by decide +kernel
theorem dX8_laySeats_32 : decode cX8_laySeats 32 = .ok (.idiv, 1) := by decide +kernel
theorem dX8_laySeats_33 : decode cX8_laySeats 33 = .ok (.aload_n 0, 1) := by decide +kernel
theorem dX8_laySeats_34 : decode cX8_laySeats 34 = .ok (.getfield 57, 3) := by decide +kernel
theorem dX8_laySeats_37 : decode cX8_laySeats 37 = .ok (.irem, 1) := by decide +kernel
theorem dX8_laySeats_38 : decode cX8_laySeats 38 = .ok (.istore 4, 2) := by decide +kernel
theorem dX8_laySeats_40 : decode cX8_laySeats 40 = .ok (.iload_n 2, 1) := by decide +kernel
theorem dX8_laySeats_41 : decode cX8_laySeats 41 = .ok (.iconst 1, 1) := by decide +kernel
theorem dX8_laySeats_42 : decode cX8_laySeats 42 = .ok (.iload 4, 2) := by decide +kernel
theorem dX8_laySeats_44 : decode cX8_laySeats 44 = .ok (.ishl, 1) := by decide +kernel
theorem dX8_laySeats_45 : decode cX8_laySeats 45 = .ok (.ior, 1) := by decide +kernel
theorem dX8_laySeats_46 : decode cX8_laySeats 46 = .ok (.istore_n 2, 1) := by decide +kernel
theorem dX8_laySeats_47 : decode cX8_laySeats 47 = .ok (.aload_n 0, 1) := by decide +kernel
theorem dX8_laySeats_48 : decode cX8_laySeats 48 = .ok (.getfield 31, 3) := by decide +kernel
theorem dX8_laySeats_51 : decode cX8_laySeats 51 = .ok (.iconst 5, 1) := by decide +kernel
theorem dX8_laySeats_52 : decode cX8_laySeats 52 = .ok (.iload 4, 2) := by decide +kernel
theorem dX8_laySeats_54 : decode cX8_laySeats 54 = .ok (.iadd, 1) := by decide +kernel
theorem dX8_laySeats_55 : decode cX8_laySeats 55 = .ok (.iload_n 3, 1) := by decide +kernel
theorem dX8_laySeats_56 : decode cX8_laySeats 56 = .ok (.iastore, 1) := by decide +kernel
theorem dX8_laySeats_57 : decode cX8_laySeats 57 = .ok (.iinc 3 1, 3) := by decide +kernel
theorem dX8_laySeats_60 : decode cX8_laySeats 60 = .ok (.goto (-52), 3) := by decide +kernel
theorem dX8_laySeats_63 : decode cX8_laySeats 63 = .ok (.iload_n 2, 1) := by decide +kernel
theorem dX8_laySeats_64 : decode cX8_laySeats 64 = .ok (.iconst 1, 1) := by decide +kernel
theorem dX8_laySeats_65 : decode cX8_laySeats 65 = .ok (.aload_n 0, 1) := by decide +kernel
theorem dX8_laySeats_66 : decode cX8_laySeats 66 = .ok (.getfield 57, 3) := by decide +kernel
theorem dX8_laySeats_69 : decode cX8_laySeats 69 = .ok (.ishl, 1) := by decide +kernel
theorem dX8_laySeats_70 : decode cX8_laySeats 70 = .ok (.iconst 1, 1) := by decide +kernel
theorem dX8_laySeats_71 : decode cX8_laySeats 71 = .ok (.isub, 1) := by decide +kernel
theorem dX8_laySeats_72 : decode cX8_laySeats 72 = .ok (.if_icmp .ne 22, 3) := by decide +kernel
theorem dX8_laySeats_75 : decode cX8_laySeats 75 = .ok (.aload_n 0, 1) := by decide +kernel
theorem dX8_laySeats_76 : decode cX8_laySeats 76 = .ok (.getfield 31, 3) := by decide +kernel
theorem dX8_laySeats_79 : decode cX8_laySeats 79 = .ok (.iconst 5, 1) := by decide +kernel
theorem dX8_laySeats_80 : decode cX8_laySeats 80 = .ok (.iaload, 1) := by decide +kernel
theorem dX8_laySeats_81 : decode cX8_laySeats 81 = .ok (.aload_n 0, 1) := by decide +kernel
theorem dX8_laySeats_82 : decode cX8_laySeats 82 = .ok (.getfield 28, 3) := by decide +kernel
theorem dX8_laySeats_85 : decode cX8_laySeats 85 = .ok (.iconst 5, 1) := by decide +kernel
theorem dX8_laySeats_86 : decode cX8_laySeats 86 = .ok (.iaload, 1) := by decide +kernel
theorem dX8_laySeats_87 : decode cX8_laySeats 87 = .ok (.if_icmp .ne 7, 3) := by decide +kernel
theorem dX8_laySeats_90 : decode cX8_laySeats 90 = .ok (.iconst 1, 1) := by decide +kernel
theorem dX8_laySeats_91 : decode cX8_laySeats 91 = .ok (.goto 4, 3) := by decide +kernel
theorem dX8_laySeats_94 : decode cX8_laySeats 94 = .ok (.iconst 0, 1) := by decide +kernel
theorem dX8_laySeats_95 : decode cX8_laySeats 95 = .ok (.ireturn, 1) := by decide +kernel
theorem dX8_findSeats_0 : decode cX8_findSeats 0 = .ok (.aload_n 0, 1) := by decide +kernel
theorem dX8_findSeats_1 : decode cX8_findSeats 1 = .ok (.bipush (-9), 2) := by decide +kernel
theorem dX8_findSeats_3 : decode cX8_findSeats 3 = .ok (.putfield 165, 3) := by decide +kernel
theorem dX8_findSeats_6 : decode cX8_findSeats 6 = .ok (.aload_n 0, 1) := by decide +kernel
theorem dX8_findSeats_7 : decode cX8_findSeats 7 = .ok (.bipush (-9), 2) := by decide +kernel
theorem dX8_findSeats_9 : decode cX8_findSeats 9 = .ok (.putfield 168, 3) := by decide +kernel
theorem dX8_findSeats_12 : decode cX8_findSeats 12 = .ok (.iconst 0, 1) := by decide +kernel
theorem dX8_findSeats_13 : decode cX8_findSeats 13 = .ok (.istore 5, 2) := by decide +kernel
theorem dX8_findSeats_15 : decode cX8_findSeats 15 = .ok (.iload 5, 2) := by decide +kernel
theorem dX8_findSeats_17 : decode cX8_findSeats 17 = .ok (.aload_n 0, 1) := by decide +kernel
theorem dX8_findSeats_18 : decode cX8_findSeats 18 = .ok (.getfield 57, 3) := by decide +kernel
theorem dX8_findSeats_21 : decode cX8_findSeats 21 = .ok (.aload_n 0, 1) := by decide +kernel
theorem dX8_findSeats_22 : decode cX8_findSeats 22 = .ok (.getfield 57, 3) := by decide +kernel
theorem dX8_findSeats_25 : decode cX8_findSeats 25 = .ok (.invokestatic 162, 3) := by decide +kernel
theorem dX8_findSeats_28 : decode cX8_findSeats 28 = .ok (.if_icmp .ge 122, 3) := by decide +kernel
theorem dX8_findSeats_31 : decode cX8_findSeats 31 = .ok (.aload_n 0, 1) := by decide +kernel
theorem dX8_findSeats_32 : decode cX8_findSeats 32 = .ok (.iload 5, 2) := by decide +kernel
theorem dX8_findSeats_34 : decode cX8_findSeats 34 = .ok (.invokevirtual 171, 3) := by decide +kernel
theorem dX8_findSeats_37 : decode cX8_findSeats 37 = .ok (.ifCond .eq 107, 3) := by decide +kernel
theorem dX8_findSeats_40 : decode cX8_findSeats 40 = .ok (.aload_n 0, 1) := by decide +kernel
theorem dX8_findSeats_41 : decode cX8_findSeats 41 = .ok (.aload_n 0, 1) := by decide +kernel
theorem dX8_findSeats_42 : decode cX8_findSeats 42 = .ok (.getfield 31, 3) := by decide +kernel
theorem dX8_findSeats_45 : decode cX8_findSeats 45 = .ok (.iload_n 1, 1) := by decide +kernel
theorem dX8_findSeats_46 : decode cX8_findSeats 46 = .ok (.iload_n 2, 1) := by decide +kernel
theorem dX8_findSeats_47 : decode cX8_findSeats 47 = .ok (.iload_n 3, 1) := by decide +kernel
theorem dX8_findSeats_48 : decode cX8_findSeats 48 = .ok (.invokevirtual 135, 3) := by decide +kernel
theorem dX8_findSeats_51 : decode cX8_findSeats 51 = .ok (.invokestatic 145, 3) := by decide +kernel
theorem dX8_findSeats_54 : decode cX8_findSeats 54 = .ok (.istore 6, 2) := by decide +kernel
theorem dX8_findSeats_56 : decode cX8_findSeats 56 = .ok (.aload_n 0, 1) := by decide +kernel
theorem dX8_findSeats_57 : decode cX8_findSeats 57 = .ok (.getfield 165, 3) := by decide +kernel
theorem dX8_findSeats_60 : decode cX8_findSeats 60 = .ok (.bipush (-9), 2) := by decide +kernel
theorem dX8_findSeats_62 : decode cX8_findSeats 62 = .ok (.if_icmp .eq 29, 3) := by decide +kernel
theorem dX8_findSeats_65 : decode cX8_findSeats 65 = .ok (.iload 4, 2) := by decide +kernel
theorem dX8_findSeats_67 : decode cX8_findSeats 67 = .ok (.ifCond .eq 15, 3) := by decide +kernel
theorem dX8_findSeats_70 : decode cX8_findSeats 70 = .ok (.iload 6, 2) := by decide +kernel
theorem dX8_findSeats_72 : decode cX8_findSeats 72 = .ok (.aload_n 0, 1) := by decide +kernel
theorem dX8_findSeats_73 : decode cX8_findSeats 73 = .ok (.getfield 165, 3) := by decide +kernel
theorem dX8_findSeats_76 : decode cX8_findSeats 76 = .ok (.if_icmp .le 68, 3) := by decide +kernel
theorem dX8_findSeats_79 : decode cX8_findSeats 79 = .ok (.goto 12, 3) := by decide +kernel
theorem dX8_findSeats_82 : decode cX8_findSeats 82 = .ok (.iload 6, 2) := by decide +kernel
theorem dX8_findSeats_84 : decode cX8_findSeats 84 = .ok (.aload_n 0, 1) := by decide +kernel
theorem dX8_findSeats_85 : decode cX8_findSeats 85 = .ok (.getfield 165, 3) := by decide +kernel
theorem dX8_findSeats_88 : decode cX8_findSeats 88 = .ok (.if_icmp .ge 56, 3) := by decide +kernel
theorem dX8_findSeats_91 : decode cX8_findSeats 91 = .ok (.aload_n 0, 1) := by decide +kernel
theorem dX8_findSeats_92 : decode cX8_findSeats 92 = .ok (.iload 6, 2) := by decide +kernel
theorem dX8_findSeats_94 : decode cX8_findSeats 94 = .ok (.putfield 165, 3) := by decide +kernel
theorem dX8_findSeats_97 : decode cX8_findSeats 97 = .ok (.aload_n 0, 1) := by decide +kernel
theorem dX8_findSeats_98 : decode cX8_findSeats 98 = .ok (.iconst 0, 1) := by decide +kernel
theorem dX8_findSeats_99 : decode cX8_findSeats 99 = .ok (.putfield 168, 3) := by decide +kernel
theorem dX8_findSeats_102 : decode cX8_findSeats 102 = .ok (.iconst 0, 1) := by decide +kernel
theorem dX8_findSeats_103 : decode cX8_findSeats 103 = .ok (.istore 7, 2) := by decide +kernel
theorem dX8_findSeats_105 : decode cX8_findSeats 105 = .ok (.iload 7, 2) := by decide +kernel
theorem dX8_findSeats_107 : decode cX8_findSeats 107 = .ok (.aload_n 0, 1) := by decide +kernel
theorem dX8_findSeats_108 : decode cX8_findSeats 108 = .ok (.getfield 57, 3) := by decide +kernel
theorem dX8_findSeats_111 : decode cX8_findSeats 111 = .ok (.if_icmp .ge 33, 3) := by decide +kernel
theorem dX8_findSeats_114 : decode cX8_findSeats 114 = .ok (.aload_n 0, 1) := by decide +kernel
theorem dX8_findSeats_115 : decode cX8_findSeats 115 = .ok (.bipush 10, 2) := by decide +kernel
theorem dX8_findSeats_117 : decode cX8_findSeats 117 = .ok (.aload_n 0, 1) := by decide +kernel
theorem dX8_findSeats_118 : decode cX8_findSeats 118 = .ok (.getfield 168, 3) := by decide +kernel
theorem dX8_findSeats_121 : decode cX8_findSeats 121 = .ok (.imul, 1) := by decide +kernel
theorem dX8_findSeats_122 : decode cX8_findSeats 122 = .ok (.aload_n 0, 1) := by decide +kernel
theorem dX8_findSeats_123 : decode cX8_findSeats 123 = .ok (.aload_n 0, 1) := by decide +kernel
theorem dX8_findSeats_124 : decode cX8_findSeats 124 = .ok (.getfield 31, 3) := by decide +kernel
theorem dX8_findSeats_127 : decode cX8_findSeats 127 = .ok (.iload 7, 2) := by decide +kernel
theorem dX8_findSeats_129 : decode cX8_findSeats 129 = .ok (.invokevirtual 131, 3) := by decide +kernel
theorem dX8_findSeats_132 : decode cX8_findSeats 132 = .ok (.iadd, 1) := by decide +kernel
theorem dX8_findSeats_133 : decode cX8_findSeats 133 = .ok (.iconst 1, 1) := by decide +kernel
theorem dX8_findSeats_134 : decode cX8_findSeats 134 = .ok (.iadd, 1) := by decide +kernel
theorem dX8_findSeats_135 : decode cX8_findSeats 135 = .ok (.putfield 168, 3) := by decide +kernel
theorem dX8_findSeats_138 : decode cX8_findSeats 138 = .ok (.iinc 7 1, 3) := by decide +kernel
theorem dX8_findSeats_141 : decode cX8_findSeats 141 = .ok (.goto (-36), 3) := by decide +kernel
theorem dX8_findSeats_144 : decode cX8_findSeats 144 = .ok (.iinc 5 1, 3) := by decide +kernel
theorem dX8_findSeats_147 : decode cX8_findSeats 147 = .ok (.goto (-132), 3) := by decide +kernel
theorem dX8_findSeats_150 : decode cX8_findSeats 150 = .ok (.return_, 1) := by decide +kernel
theorem dX8_seating_0 : decode cX8_seating 0 = .ok (.aload_n 0, 1) := by decide +kernel
theorem dX8_seating_1 : decode cX8_seating 1 = .ok (.iconst 0, 1) := by decide +kernel
theorem dX8_seating_2 : decode cX8_seating 2 = .ok (.putfield 53, 3) := by decide +kernel
theorem dX8_seating_5 : decode cX8_seating 5 = .ok (.aload_n 0, 1) := by decide +kernel
theorem dX8_seating_6 : decode cX8_seating 6 = .ok (.iload_n 1, 1) := by decide +kernel
theorem dX8_seating_7 : decode cX8_seating 7 = .ok (.invokevirtual 127, 3) := by decide +kernel
theorem dX8_seating_10 : decode cX8_seating 10 = .ok (.ifCond .ne 10, 3) := by decide +kernel
theorem dX8_seating_13 : decode cX8_seating 13 = .ok (.iload_n 2, 1) := by decide +kernel
theorem dX8_seating_14 : decode cX8_seating 14 = .ok (.invokestatic 148, 3) := by decide +kernel
theorem dX8_seating_17 : decode cX8_seating 17 = .ok (.ifCond .eq 5, 3) := by decide +kernel
theorem dX8_seating_20 : decode cX8_seating 20 = .ok (.iconst (-1), 1) := by decide +kernel
theorem dX8_seating_21 : decode cX8_seating 21 = .ok (.ireturn, 1) := by decide +kernel
theorem dX8_seating_22 : decode cX8_seating 22 = .ok (.iload_n 3, 1) := by decide +kernel
theorem dX8_seating_23 : decode cX8_seating 23 = .ok (.i2l, 1) := by decide +kernel
theorem dX8_seating_24 : decode cX8_seating 24 = .ok (.lconst 1, 1) := by decide +kernel
theorem dX8_seating_25 : decode cX8_seating 25 = .ok (.ldc2_w 151, 3) := by decide +kernel
theorem dX8_seating_28 : decode cX8_seating 28 = .ok (.invokestatic 60, 3) := by decide +kernel
theorem dX8_seating_31 : decode cX8_seating 31 = .ok (.ifCond .ne 6, 3) := by decide +kernel
theorem dX8_seating_34 : decode cX8_seating 34 = .ok (.bipush (-2), 2) := by decide +kernel
theorem dX8_seating_36 : decode cX8_seating 36 = .ok (.ireturn, 1) := by decide +kernel
theorem dX8_seating_37 : decode cX8_seating 37 = .ok (.aload_n 0, 1) := by decide +kernel
theorem dX8_seating_38 : decode cX8_seating 38 = .ok (.iload_n 1, 1) := by decide +kernel
theorem dX8_seating_39 : decode cX8_seating 39 = .ok (.iload_n 2, 1) := by decide +kernel
theorem dX8_seating_40 : decode cX8_seating 40 = .ok (.iload_n 3, 1) := by decide +kernel
theorem dX8_seating_41 : decode cX8_seating 41 = .ok (.iload 4, 2) := by decide +kernel
theorem dX8_seating_43 : decode cX8_seating 43 = .ok (.invokevirtual 174, 3) := by decide +kernel
theorem dX8_seating_46 : decode cX8_seating 46 = .ok (.iload 5, 2) := by decide +kernel
theorem dX8_seating_48 : decode cX8_seating 48 = .ok (.ifCond .eq 10, 3) := by decide +kernel
theorem dX8_seating_51 : decode cX8_seating 51 = .ok (.aload_n 0, 1) := by decide +kernel
theorem dX8_seating_52 : decode cX8_seating 52 = .ok (.getfield 168, 3) := by decide +kernel
theorem dX8_seating_55 : decode cX8_seating 55 = .ok (.goto 7, 3) := by decide +kernel
theorem dX8_seating_58 : decode cX8_seating 58 = .ok (.aload_n 0, 1) := by decide +kernel
theorem dX8_seating_59 : decode cX8_seating 59 = .ok (.getfield 165, 3) := by decide +kernel
theorem dX8_seating_62 : decode cX8_seating 62 = .ok (.ireturn, 1) := by decide +kernel
theorem dX8_keepFrom_0 : decode cX8_keepFrom 0 = .ok (.aload_n 0, 1) := by decide +kernel
theorem dX8_keepFrom_1 : decode cX8_keepFrom 1 = .ok (.iconst 0, 1) := by decide +kernel
theorem dX8_keepFrom_2 : decode cX8_keepFrom 2 = .ok (.putfield 53, 3) := by decide +kernel
theorem dX8_keepFrom_5 : decode cX8_keepFrom 5 = .ok (.aload_n 0, 1) := by decide +kernel
theorem dX8_keepFrom_6 : decode cX8_keepFrom 6 = .ok (.iload_n 1, 1) := by decide +kernel
theorem dX8_keepFrom_7 : decode cX8_keepFrom 7 = .ok (.invokevirtual 127, 3) := by decide +kernel
theorem dX8_keepFrom_10 : decode cX8_keepFrom 10 = .ok (.ifCond .ne 10, 3) := by decide +kernel
theorem dX8_keepFrom_13 : decode cX8_keepFrom 13 = .ok (.iload_n 2, 1) := by decide +kernel
theorem dX8_keepFrom_14 : decode cX8_keepFrom 14 = .ok (.invokestatic 148, 3) := by decide +kernel
theorem dX8_keepFrom_17 : decode cX8_keepFrom 17 = .ok (.ifCond .eq 5, 3) := by decide +kernel
theorem dX8_keepFrom_20 : decode cX8_keepFrom 20 = .ok (.iconst (-1), 1) := by decide +kernel
theorem dX8_keepFrom_21 : decode cX8_keepFrom 21 = .ok (.ireturn, 1) := by decide +kernel
theorem dX8_keepFrom_22 : decode cX8_keepFrom 22 = .ok (.aload_n 0, 1) := by decide +kernel
theorem dX8_keepFrom_23 : decode cX8_keepFrom 23 = .ok (.getfield 28, 3) := by decide +kernel
theorem dX8_keepFrom_26 : decode cX8_keepFrom 26 = .ok (.iconst 0, 1) := by decide +kernel
theorem dX8_keepFrom_27 : decode cX8_keepFrom 27 = .ok (.iload_n 1, 1) := by decide +kernel
theorem dX8_keepFrom_28 : decode cX8_keepFrom 28 = .ok (.iadd, 1) := by decide +kernel
theorem dX8_keepFrom_29 : decode cX8_keepFrom 29 = .ok (.iaload, 1) := by decide +kernel
theorem dX8_keepFrom_30 : decode cX8_keepFrom 30 = .ok (.istore_n 3, 1) := by decide +kernel
theorem dX8_keepFrom_31 : decode cX8_keepFrom 31 = .ok (.bipush (-9), 2) := by decide +kernel
theorem dX8_keepFrom_33 : decode cX8_keepFrom 33 = .ok (.istore 4, 2) := by decide +kernel
theorem dX8_keepFrom_35 : decode cX8_keepFrom 35 = .ok (.iconst 0, 1) := by decide +kernel
theorem dX8_keepFrom_36 : decode cX8_keepFrom 36 = .ok (.istore 5, 2) := by decide +kernel
theorem dX8_keepFrom_38 : decode cX8_keepFrom 38 = .ok (.iload 5, 2) := by decide +kernel
theorem dX8_keepFrom_40 : decode cX8_keepFrom 40 = .ok (.bipush 63, 2) := by decide +kernel
theorem dX8_keepFrom_42 : decode cX8_keepFrom 42 = .ok (.if_icmp .gt 76, 3) := by decide +kernel
theorem dX8_keepFrom_45 : decode cX8_keepFrom 45 = .ok (.iload 5, 2) := by decide +kernel
theorem dX8_keepFrom_47 : decode cX8_keepFrom 47 = .ok (.iload_n 3, 1) := by decide +kernel
theorem dX8_keepFrom_48 : decode cX8_keepFrom 48 = .ok (.iconst (-1), 1) := by decide +kernel
theorem dX8_keepFrom_49 : decode cX8_keepFrom 49 = .ok (.ixor, 1) := by decide +kernel
theorem dX8_keepFrom_50 : decode cX8_keepFrom 50 = .ok (.iand, 1) := by decide +kernel
theorem dX8_keepFrom_51 : decode cX8_keepFrom 51 = .ok (.ifCond .ne 24, 3) := by decide +kernel
theorem dX8_keepFrom_54 : decode cX8_keepFrom 54 = .ok (.aload_n 0, 1) := by decide +kernel
theorem dX8_keepFrom_55 : decode cX8_keepFrom 55 = .ok (.iload_n 3, 1) := by decide +kernel
theorem dX8_keepFrom_56 : decode cX8_keepFrom 56 = .ok (.iload 5, 2) := by decide +kernel
theorem dX8_keepFrom_58 : decode cX8_keepFrom 58 = .ok (.iconst (-1), 1) := by decide +kernel
theorem dX8_keepFrom_59 : decode cX8_keepFrom 59 = .ok (.ixor, 1) := by decide +kernel
theorem dX8_keepFrom_60 : decode cX8_keepFrom 60 = .ok (.iand, 1) := by decide +kernel
theorem dX8_keepFrom_61 : decode cX8_keepFrom 61 = .ok (.invokevirtual 116, 3) := by decide +kernel
theorem dX8_keepFrom_64 : decode cX8_keepFrom 64 = .ok (.iload_n 2, 1) := by decide +kernel
theorem dX8_keepFrom_65 : decode cX8_keepFrom 65 = .ok (.invokestatic 104, 3) := by decide +kernel
theorem dX8_keepFrom_68 : decode cX8_keepFrom 68 = .ok (.ifCond .ne 7, 3) := by decide +kernel
theorem dX8_keepFrom_71 : decode cX8_keepFrom 71 = .ok (.iconst 1, 1) := by decide +kernel
theorem dX8_keepFrom_72 : decode cX8_keepFrom 72 = .ok (.goto 4, 3) := by decide +kernel
theorem dX8_keepFrom_75 : decode cX8_keepFrom 75 = .ok (.iconst 0, 1) := by decide +kernel
theorem dX8_keepFrom_76 : decode cX8_keepFrom 76 = .ok (.istore 6, 2) := by decide +kernel
theorem dX8_keepFrom_78 : decode cX8_keepFrom 78 = .ok (.iload 6, 2) := by decide +kernel
theorem dX8_keepFrom_80 : decode cX8_keepFrom 80 = .ok (.ifCond .eq 28, 3) := by decide +kernel
theorem dX8_keepFrom_83 : decode cX8_keepFrom 83 = .ok (.iload 4, 2) := by decide +kernel
theorem dX8_keepFrom_85 : decode cX8_keepFrom 85 = .ok (.bipush (-9), 2) := by decide +kernel
theorem dX8_keepFrom_87 : decode cX8_keepFrom 87 = .ok (.if_icmp .eq 16, 3) := by decide +kernel
theorem dX8_keepFrom_90 : decode cX8_keepFrom 90 = .ok (.iload 5, 2) := by decide +kernel
theorem dX8_keepFrom_92 : decode cX8_keepFrom 92 = .ok (.invokestatic 145, 3) := by decide +kernel
theorem dX8_keepFrom_95 : decode cX8_keepFrom 95 = .ok (.iload 4, 2) := by decide +kernel
theorem dX8_keepFrom_97 : decode cX8_keepFrom 97 = .ok (.invokestatic 145, 3) := by decide +kernel
theorem dX8_keepFrom_100 : decode cX8_keepFrom 100 = .ok (.if_icmp .ge 8, 3) := by decide +kernel
theorem dX8_keepFrom_103 : decode cX8_keepFrom 103 = .ok (.iload 5, 2) := by decide +kernel
theorem dX8_keepFrom_105 : decode cX8_keepFrom 105 = .ok (.goto 5, 3) := by decide +kernel
theorem dX8_keepFrom_108 : decode cX8_keepFrom 108 = .ok (.iload 4, 2) := by decide +kernel
theorem dX8_keepFrom_110 : decode cX8_keepFrom 110 = .ok (.istore 4, 2) := by decide +kernel
theorem dX8_keepFrom_112 : decode cX8_keepFrom 112 = .ok (.iinc 5 1, 3) := by decide +kernel
theorem dX8_keepFrom_115 : decode cX8_keepFrom 115 = .ok (.goto (-77), 3) := by decide +kernel
theorem dX8_keepFrom_118 : decode cX8_keepFrom 118 = .ok (.iload 4, 2) := by decide +kernel
theorem dX8_keepFrom_120 : decode cX8_keepFrom 120 = .ok (.ireturn, 1) := by decide +kernel
theorem dX8_learn_0 : decode cX8_learn 0 = .ok (.aload_n 0, 1) := by decide +kernel
theorem dX8_learn_1 : decode cX8_learn 1 = .ok (.iconst 0, 1) := by decide +kernel
theorem dX8_learn_2 : decode cX8_learn 2 = .ok (.putfield 53, 3) := by decide +kernel
theorem dX8_learn_5 : decode cX8_learn 5 = .ok (.aload_n 0, 1) := by decide +kernel
theorem dX8_learn_6 : decode cX8_learn 6 = .ok (.iload_n 1, 1) := by decide +kernel
theorem dX8_learn_7 : decode cX8_learn 7 = .ok (.invokevirtual 127, 3) := by decide +kernel
theorem dX8_learn_10 : decode cX8_learn 10 = .ok (.ifCond .ne 10, 3) := by decide +kernel
theorem dX8_learn_13 : decode cX8_learn 13 = .ok (.iload_n 2, 1) := by decide +kernel
theorem dX8_learn_14 : decode cX8_learn 14 = .ok (.invokestatic 148, 3) := by decide +kernel
theorem dX8_learn_17 : decode cX8_learn 17 = .ok (.ifCond .eq 5, 3) := by decide +kernel
theorem dX8_learn_20 : decode cX8_learn 20 = .ok (.iconst (-1), 1) := by decide +kernel
theorem dX8_learn_21 : decode cX8_learn 21 = .ok (.ireturn, 1) := by decide +kernel
theorem dX8_learn_22 : decode cX8_learn 22 = .ok (.aload_n 0, 1) := by decide +kernel
theorem dX8_learn_23 : decode cX8_learn 23 = .ok (.getfield 28, 3) := by decide +kernel
theorem dX8_learn_26 : decode cX8_learn 26 = .ok (.iconst 0, 1) := by decide +kernel
theorem dX8_learn_27 : decode cX8_learn 27 = .ok (.iload_n 1, 1) := by decide +kernel
theorem dX8_learn_28 : decode cX8_learn 28 = .ok (.iadd, 1) := by decide +kernel
theorem dX8_learn_29 : decode cX8_learn 29 = .ok (.iaload, 1) := by decide +kernel
theorem dX8_learn_30 : decode cX8_learn 30 = .ok (.istore_n 3, 1) := by decide +kernel
theorem dX8_learn_31 : decode cX8_learn 31 = .ok (.bipush (-9), 2) := by decide +kernel
theorem dX8_learn_33 : decode cX8_learn 33 = .ok (.istore 4, 2) := by decide +kernel
theorem dX8_learn_35 : decode cX8_learn 35 = .ok (.iconst 0, 1) := by decide +kernel
theorem dX8_learn_36 : decode cX8_learn 36 = .ok (.istore 5, 2) := by decide +kernel
theorem dX8_learn_38 : decode cX8_learn 38 = .ok (.iload 5, 2) := by decide +kernel
theorem dX8_learn_40 : decode cX8_learn 40 = .ok (.bipush 63, 2) := by decide +kernel
theorem dX8_learn_42 : decode cX8_learn 42 = .ok (.if_icmp .gt 74, 3) := by decide +kernel
theorem dX8_learn_45 : decode cX8_learn 45 = .ok (.iload 5, 2) := by decide +kernel
theorem dX8_learn_47 : decode cX8_learn 47 = .ok (.iload_n 2, 1) := by decide +kernel
theorem dX8_learn_48 : decode cX8_learn 48 = .ok (.invokestatic 104, 3) := by decide +kernel
theorem dX8_learn_51 : decode cX8_learn 51 = .ok (.ifCond .ne 22, 3) := by decide +kernel
theorem dX8_learn_54 : decode cX8_learn 54 = .ok (.aload_n 0, 1) := by decide +kernel
theorem dX8_learn_55 : decode cX8_learn 55 = .ok (.iload_n 3, 1) := by decide +kernel
theorem dX8_learn_56 : decode cX8_learn 56 = .ok (.iload 5, 2) := by decide +kernel
theorem dX8_learn_58 : decode cX8_learn 58 = .ok (.ior, 1) := by decide +kernel
theorem dX8_learn_59 : decode cX8_learn 59 = .ok (.invokevirtual 116, 3) := by decide +kernel
theorem dX8_learn_62 : decode cX8_learn 62 = .ok (.iload_n 2, 1) := by decide +kernel
theorem dX8_learn_63 : decode cX8_learn 63 = .ok (.invokestatic 104, 3) := by decide +kernel
theorem dX8_learn_66 : decode cX8_learn 66 = .ok (.ifCond .eq 7, 3) := by decide +kernel
theorem dX8_learn_69 : decode cX8_learn 69 = .ok (.iconst 1, 1) := by decide +kernel
theorem dX8_learn_70 : decode cX8_learn 70 = .ok (.goto 4, 3) := by decide +kernel
theorem dX8_learn_73 : decode cX8_learn 73 = .ok (.iconst 0, 1) := by decide +kernel
theorem dX8_learn_74 : decode cX8_learn 74 = .ok (.istore 6, 2) := by decide +kernel
theorem dX8_learn_76 : decode cX8_learn 76 = .ok (.iload 6, 2) := by decide +kernel
theorem dX8_learn_78 : decode cX8_learn 78 = .ok (.ifCond .eq 28, 3) := by decide +kernel
theorem dX8_learn_81 : decode cX8_learn 81 = .ok (.iload 4, 2) := by decide +kernel
theorem dX8_learn_83 : decode cX8_learn 83 = .ok (.bipush (-9), 2) := by decide +kernel
theorem dX8_learn_85 : decode cX8_learn 85 = .ok (.if_icmp .eq 16, 3) := by decide +kernel
theorem dX8_learn_88 : decode cX8_learn 88 = .ok (.iload 5, 2) := by decide +kernel
theorem dX8_learn_90 : decode cX8_learn 90 = .ok (.invokestatic 145, 3) := by decide +kernel
theorem dX8_learn_93 : decode cX8_learn 93 = .ok (.iload 4, 2) := by decide +kernel
theorem dX8_learn_95 : decode cX8_learn 95 = .ok (.invokestatic 145, 3) := by decide +kernel
theorem dX8_learn_98 : decode cX8_learn 98 = .ok (.if_icmp .ge 8, 3) := by decide +kernel
theorem dX8_learn_101 : decode cX8_learn 101 = .ok (.iload 5, 2) := by decide +kernel
theorem dX8_learn_103 : decode cX8_learn 103 = .ok (.goto 5, 3) := by decide +kernel
theorem dX8_learn_106 : decode cX8_learn 106 = .ok (.iload 4, 2) := by decide +kernel
theorem dX8_learn_108 : decode cX8_learn 108 = .ok (.istore 4, 2) := by decide +kernel
theorem dX8_learn_110 : decode cX8_learn 110 = .ok (.iinc 5 1, 3) := by decide +kernel
theorem dX8_learn_113 : decode cX8_learn 113 = .ok (.goto (-75), 3) := by decide +kernel
theorem dX8_learn_116 : decode cX8_learn 116 = .ok (.iload 4, 2) := by decide +kernel
theorem dX8_learn_118 : decode cX8_learn 118 = .ok (.ireturn, 1) := by decide +kernel
theorem dX8_judge_0 : decode cX8_judge 0 = .ok (.aload_n 0, 1) := by decide +kernel
theorem dX8_judge_1 : decode cX8_judge 1 = .ok (.iconst 0, 1) := by decide +kernel
theorem dX8_judge_2 : decode cX8_judge 2 = .ok (.putfield 53, 3) := by decide +kernel
theorem dX8_judge_5 : decode cX8_judge 5 = .ok (.iload_n 1, 1) := by decide +kernel
theorem dX8_judge_6 : decode cX8_judge 6 = .ok (.i2l, 1) := by decide +kernel
theorem dX8_judge_7 : decode cX8_judge 7 = .ok (.lconst 1, 1) := by decide +kernel
theorem dX8_judge_8 : decode cX8_judge 8 = .ok (.ldc2_w 178, 3) := by decide +kernel
theorem dX8_judge_11 : decode cX8_judge 11 = .ok (.invokestatic 60, 3) := by decide +kernel
theorem dX8_judge_14 : decode cX8_judge 14 = .ok (.ifCond .eq 22, 3) := by decide +kernel
theorem dX8_judge_17 : decode cX8_judge 17 = .ok (.iload_n 2, 1) := by decide +kernel
theorem dX8_judge_18 : decode cX8_judge 18 = .ok (.i2l, 1) := by decide +kernel
theorem dX8_judge_19 : decode cX8_judge 19 = .ok (.lconst 0, 1) := by decide +kernel
theorem dX8_judge_20 : decode cX8_judge 20 = .ok (.sipush 1000, 3) := by decide +kernel
theorem dX8_judge_23 : decode cX8_judge 23 = .ok (.iload_n 1, 1) := by decide +kernel
theorem dX8_judge_24 : decode cX8_judge 24 = .ok (.invokestatic 162, 3) := by decide +kernel
theorem dX8_judge_27 : decode cX8_judge 27 = .ok (.iconst 1, 1) := by decide +kernel
theorem dX8_judge_28 : decode cX8_judge 28 = .ok (.isub, 1) := by decide +kernel
theorem dX8_judge_29 : decode cX8_judge 29 = .ok (.i2l, 1) := by decide +kernel
theorem dX8_judge_30 : decode cX8_judge 30 = .ok (.invokestatic 60, 3) := by decide +kernel
theorem dX8_judge_33 : decode cX8_judge 33 = .ok (.ifCond .ne 6, 3) := by decide +kernel
theorem dX8_judge_36 : decode cX8_judge 36 = .ok (.bipush (-2), 2) := by decide +kernel
theorem dX8_judge_38 : decode cX8_judge 38 = .ok (.ireturn, 1) := by decide +kernel
theorem dX8_judge_39 : decode cX8_judge 39 = .ok (.aload_n 0, 1) := by decide +kernel
theorem dX8_judge_40 : decode cX8_judge 40 = .ok (.invokevirtual 159, 3) := by decide +kernel
theorem dX8_judge_43 : decode cX8_judge 43 = .ok (.iconst 0, 1) := by decide +kernel
theorem dX8_judge_44 : decode cX8_judge 44 = .ok (.istore_n 3, 1) := by decide +kernel
theorem dX8_judge_45 : decode cX8_judge 45 = .ok (.iload_n 3, 1) := by decide +kernel
theorem dX8_judge_46 : decode cX8_judge 46 = .ok (.iload_n 1, 1) := by decide +kernel
theorem dX8_judge_47 : decode cX8_judge 47 = .ok (.if_icmp .ge 107, 3) := by decide +kernel
theorem dX8_judge_50 : decode cX8_judge 50 = .ok (.iload_n 2, 1) := by decide +kernel
theorem dX8_judge_51 : decode cX8_judge 51 = .ok (.sipush 1000, 3) := by decide +kernel
theorem dX8_judge_54 : decode cX8_judge 54 = .ok (.iload_n 1, 1) := by decide +kernel
theorem dX8_judge_55 : decode cX8_judge 55 = .ok (.iconst 1, 1) := by decide +kernel
theorem dX8_judge_56 : decode cX8_judge 56 = .ok (.isub, 1) := by decide +kernel
theorem dX8_judge_57 : decode cX8_judge 57 = .ok (.iload_n 3, 1) := by decide +kernel
theorem dX8_judge_58 : decode cX8_judge 58 = .ok (.isub, 1) := by decide +kernel
theorem dX8_judge_59 : decode cX8_judge 59 = .ok (.invokestatic 162, 3) := by decide +kernel
theorem dX8_judge_62 : decode cX8_judge 62 = .ok (.idiv, 1) := by decide +kernel
theorem dX8_judge_63 : decode cX8_judge 63 = .ok (.sipush 1000, 3) := by decide +kernel
theorem dX8_judge_66 : decode cX8_judge 66 = .ok (.irem, 1) := by decide +kernel
theorem dX8_judge_67 : decode cX8_judge 67 = .ok (.istore 4, 2) := by decide +kernel
theorem dX8_judge_69 : decode cX8_judge 69 = .ok (.iload 4, 2) := by decide +kernel
theorem dX8_judge_71 : decode cX8_judge 71 = .ok (.bipush 100, 2) := by decide +kernel
theorem dX8_judge_73 : decode cX8_judge 73 = .ok (.idiv, 1) := by decide +kernel
theorem dX8_judge_74 : decode cX8_judge 74 = .ok (.iconst 1, 1) := by decide +kernel
theorem dX8_judge_75 : decode cX8_judge 75 = .ok (.isub, 1) := by decide +kernel
theorem dX8_judge_76 : decode cX8_judge 76 = .ok (.istore 5, 2) := by decide +kernel
theorem dX8_judge_78 : decode cX8_judge 78 = .ok (.iload 4, 2) := by decide +kernel
theorem dX8_judge_80 : decode cX8_judge 80 = .ok (.bipush 10, 2) := by decide +kernel
theorem dX8_judge_82 : decode cX8_judge 82 = .ok (.idiv, 1) := by decide +kernel
theorem dX8_judge_83 : decode cX8_judge 83 = .ok (.bipush 10, 2) := by decide +kernel
theorem dX8_judge_85 : decode cX8_judge 85 = .ok (.irem, 1) := by decide +kernel
theorem dX8_judge_86 : decode cX8_judge 86 = .ok (.iconst 1, 1) := by decide +kernel
theorem dX8_judge_87 : decode cX8_judge 87 = .ok (.isub, 1) := by decide +kernel
theorem dX8_judge_88 : decode cX8_judge 88 = .ok (.istore 6, 2) := by decide +kernel
theorem dX8_judge_90 : decode cX8_judge 90 = .ok (.iload 4, 2) := by decide +kernel
theorem dX8_judge_92 : decode cX8_judge 92 = .ok (.bipush 10, 2) := by decide +kernel
theorem dX8_judge_94 : decode cX8_judge 94 = .ok (.irem, 1) := by decide +kernel
theorem dX8_judge_95 : decode cX8_judge 95 = .ok (.istore 7, 2) := by decide +kernel
theorem dX8_judge_97 : decode cX8_judge 97 = .ok (.aload_n 0, 1) := by decide +kernel
theorem dX8_judge_98 : decode cX8_judge 98 = .ok (.iload 5, 2) := by decide +kernel
theorem dX8_judge_100 : decode cX8_judge 100 = .ok (.invokevirtual 127, 3) := by decide +kernel
theorem dX8_judge_103 : decode cX8_judge 103 = .ok (.ifCond .ne 43, 3) := by decide +kernel
theorem dX8_judge_106 : decode cX8_judge 106 = .ok (.iload 6, 2) := by decide +kernel
theorem dX8_judge_108 : decode cX8_judge 108 = .ok (.invokestatic 148, 3) := by decide +kernel
theorem dX8_judge_111 : decode cX8_judge 111 = .ok (.ifCond .ne 35, 3) := by decide +kernel
theorem dX8_judge_114 : decode cX8_judge 114 = .ok (.iload 7, 2) := by decide +kernel
theorem dX8_judge_116 : decode cX8_judge 116 = .ok (.i2l, 1) := by decide +kernel
theorem dX8_judge_117 : decode cX8_judge 117 = .ok (.lconst 1, 1) := by decide +kernel
theorem dX8_judge_118 : decode cX8_judge 118 = .ok (.ldc2_w 151, 3) := by decide +kernel
theorem dX8_judge_121 : decode cX8_judge 121 = .ok (.invokestatic 60, 3) := by decide +kernel
theorem dX8_judge_124 : decode cX8_judge 124 = .ok (.ifCond .eq 22, 3) := by decide +kernel
theorem dX8_judge_127 : decode cX8_judge 127 = .ok (.aload_n 0, 1) := by decide +kernel
theorem dX8_judge_128 : decode cX8_judge 128 = .ok (.aload_n 0, 1) := by decide +kernel
theorem dX8_judge_129 : decode cX8_judge 129 = .ok (.getfield 31, 3) := by decide +kernel
theorem dX8_judge_132 : decode cX8_judge 132 = .ok (.iload 5, 2) := by decide +kernel
theorem dX8_judge_134 : decode cX8_judge 134 = .ok (.iload 6, 2) := by decide +kernel
theorem dX8_judge_136 : decode cX8_judge 136 = .ok (.iload 7, 2) := by decide +kernel
theorem dX8_judge_138 : decode cX8_judge 138 = .ok (.invokevirtual 156, 3) := by decide +kernel
theorem dX8_judge_141 : decode cX8_judge 141 = .ok (.bipush (-9), 2) := by decide +kernel
theorem dX8_judge_143 : decode cX8_judge 143 = .ok (.if_icmp .ne 5, 3) := by decide +kernel
theorem dX8_judge_146 : decode cX8_judge 146 = .ok (.iload_n 3, 1) := by decide +kernel
theorem dX8_judge_147 : decode cX8_judge 147 = .ok (.ireturn, 1) := by decide +kernel
theorem dX8_judge_148 : decode cX8_judge 148 = .ok (.iinc 3 1, 3) := by decide +kernel
theorem dX8_judge_151 : decode cX8_judge 151 = .ok (.goto (-106), 3) := by decide +kernel
theorem dX8_judge_154 : decode cX8_judge 154 = .ok (.bipush (-9), 2) := by decide +kernel
theorem dX8_judge_156 : decode cX8_judge 156 = .ok (.ireturn, 1) := by decide +kernel
theorem dX8_ways_0 : decode cX8_ways 0 = .ok (.iconst 1, 1) := by decide +kernel
theorem dX8_ways_1 : decode cX8_ways 1 = .ok (.istore_n 1, 1) := by decide +kernel
theorem dX8_ways_2 : decode cX8_ways 2 = .ok (.iconst 2, 1) := by decide +kernel
theorem dX8_ways_3 : decode cX8_ways 3 = .ok (.istore_n 2, 1) := by decide +kernel
theorem dX8_ways_4 : decode cX8_ways 4 = .ok (.iload_n 2, 1) := by decide +kernel
theorem dX8_ways_5 : decode cX8_ways 5 = .ok (.iload_n 0, 1) := by decide +kernel
theorem dX8_ways_6 : decode cX8_ways 6 = .ok (.if_icmp .gt 13, 3) := by decide +kernel
theorem dX8_ways_9 : decode cX8_ways 9 = .ok (.iload_n 1, 1) := by decide +kernel
theorem dX8_ways_10 : decode cX8_ways 10 = .ok (.iload_n 2, 1) := by decide +kernel
theorem dX8_ways_11 : decode cX8_ways 11 = .ok (.imul, 1) := by decide +kernel
theorem dX8_ways_12 : decode cX8_ways 12 = .ok (.istore_n 1, 1) := by decide +kernel
theorem dX8_ways_13 : decode cX8_ways 13 = .ok (.iinc 2 1, 3) := by decide +kernel
theorem dX8_ways_16 : decode cX8_ways 16 = .ok (.goto (-12), 3) := by decide +kernel
theorem dX8_ways_19 : decode cX8_ways 19 = .ok (.iload_n 1, 1) := by decide +kernel
theorem dX8_ways_20 : decode cX8_ways 20 = .ok (.ireturn, 1) := by decide +kernel
theorem dX8_divisor_0 : decode cX8_divisor 0 = .ok (.iload_n 0, 1) := by decide +kernel
theorem dX8_divisor_1 : decode cX8_divisor 1 = .ok (.ifCond .ge 8, 3) := by decide +kernel
theorem dX8_divisor_4 : decode cX8_divisor 4 = .ok (.iload_n 0, 1) := by decide +kernel
theorem dX8_divisor_5 : decode cX8_divisor 5 = .ok (.ineg, 1) := by decide +kernel
theorem dX8_divisor_6 : decode cX8_divisor 6 = .ok (.goto 4, 3) := by decide +kernel
theorem dX8_divisor_9 : decode cX8_divisor 9 = .ok (.iload_n 0, 1) := by decide +kernel
theorem dX8_divisor_10 : decode cX8_divisor 10 = .ok (.istore_n 2, 1) := by decide +kernel
theorem dX8_divisor_11 : decode cX8_divisor 11 = .ok (.iload_n 1, 1) := by decide +kernel
theorem dX8_divisor_12 : decode cX8_divisor 12 = .ok (.istore_n 3, 1) := by decide +kernel
theorem dX8_divisor_13 : decode cX8_divisor 13 = .ok (.iload_n 3, 1) := by decide +kernel
theorem dX8_divisor_14 : decode cX8_divisor 14 = .ok (.ifCond .eq 16, 3) := by decide +kernel
theorem dX8_divisor_17 : decode cX8_divisor 17 = .ok (.iload_n 2, 1) := by decide +kernel
theorem dX8_divisor_18 : decode cX8_divisor 18 = .ok (.iload_n 3, 1) := by decide +kernel
theorem dX8_divisor_19 : decode cX8_divisor 19 = .ok (.irem, 1) := by decide +kernel
theorem dX8_divisor_20 : decode cX8_divisor 20 = .ok (.istore 4, 2) := by decide +kernel
theorem dX8_divisor_22 : decode cX8_divisor 22 = .ok (.iload_n 3, 1) := by decide +kernel
theorem dX8_divisor_23 : decode cX8_divisor 23 = .ok (.istore_n 2, 1) := by decide +kernel
theorem dX8_divisor_24 : decode cX8_divisor 24 = .ok (.iload 4, 2) := by decide +kernel
theorem dX8_divisor_26 : decode cX8_divisor 26 = .ok (.istore_n 3, 1) := by decide +kernel
theorem dX8_divisor_27 : decode cX8_divisor 27 = .ok (.goto (-14), 3) := by decide +kernel
theorem dX8_divisor_30 : decode cX8_divisor 30 = .ok (.iload_n 2, 1) := by decide +kernel
theorem dX8_divisor_31 : decode cX8_divisor 31 = .ok (.ireturn, 1) := by decide +kernel
theorem dX8_fraction_0 : decode cX8_fraction 0 = .ok (.iload_n 0, 1) := by decide +kernel
theorem dX8_fraction_1 : decode cX8_fraction 1 = .ok (.iload_n 1, 1) := by decide +kernel
theorem dX8_fraction_2 : decode cX8_fraction 2 = .ok (.invokestatic 180, 3) := by decide +kernel
theorem dX8_fraction_5 : decode cX8_fraction 5 = .ok (.istore_n 3, 1) := by decide +kernel
theorem dX8_fraction_6 : decode cX8_fraction 6 = .ok (.iload_n 2, 1) := by decide +kernel
theorem dX8_fraction_7 : decode cX8_fraction 7 = .ok (.ifCond .eq 9, 3) := by decide +kernel
theorem dX8_fraction_10 : decode cX8_fraction 10 = .ok (.iload_n 0, 1) := by decide +kernel
theorem dX8_fraction_11 : decode cX8_fraction 11 = .ok (.iload_n 3, 1) := by decide +kernel
theorem dX8_fraction_12 : decode cX8_fraction 12 = .ok (.idiv, 1) := by decide +kernel
theorem dX8_fraction_13 : decode cX8_fraction 13 = .ok (.goto 6, 3) := by decide +kernel
theorem dX8_fraction_16 : decode cX8_fraction 16 = .ok (.iload_n 1, 1) := by decide +kernel
theorem dX8_fraction_17 : decode cX8_fraction 17 = .ok (.iload_n 3, 1) := by decide +kernel
theorem dX8_fraction_18 : decode cX8_fraction 18 = .ok (.idiv, 1) := by decide +kernel
theorem dX8_fraction_19 : decode cX8_fraction 19 = .ok (.ireturn, 1) := by decide +kernel
theorem dX8_share_0 : decode cX8_share 0 = .ok (.aload_n 0, 1) := by decide +kernel
theorem dX8_share_1 : decode cX8_share 1 = .ok (.iconst 0, 1) := by decide +kernel
theorem dX8_share_2 : decode cX8_share 2 = .ok (.putfield 53, 3) := by decide +kernel
theorem dX8_share_5 : decode cX8_share 5 = .ok (.aload_n 0, 1) := by decide +kernel
theorem dX8_share_6 : decode cX8_share 6 = .ok (.iload_n 1, 1) := by decide +kernel
theorem dX8_share_7 : decode cX8_share 7 = .ok (.invokevirtual 127, 3) := by decide +kernel
theorem dX8_share_10 : decode cX8_share 10 = .ok (.ifCond .eq 5, 3) := by decide +kernel
theorem dX8_share_13 : decode cX8_share 13 = .ok (.iconst (-1), 1) := by decide +kernel
theorem dX8_share_14 : decode cX8_share 14 = .ok (.ireturn, 1) := by decide +kernel
theorem dX8_share_15 : decode cX8_share 15 = .ok (.iconst 0, 1) := by decide +kernel
theorem dX8_share_16 : decode cX8_share 16 = .ok (.istore_n 3, 1) := by decide +kernel
theorem dX8_share_17 : decode cX8_share 17 = .ok (.iload_n 3, 1) := by decide +kernel
theorem dX8_share_18 : decode cX8_share 18 = .ok (.iconst 1, 1) := by decide +kernel
theorem dX8_share_19 : decode cX8_share 19 = .ok (.aload_n 0, 1) := by decide +kernel
theorem dX8_share_20 : decode cX8_share 20 = .ok (.getfield 57, 3) := by decide +kernel
theorem dX8_share_23 : decode cX8_share 23 = .ok (.ishl, 1) := by decide +kernel
theorem dX8_share_24 : decode cX8_share 24 = .ok (.if_icmp .ge 72, 3) := by decide +kernel
theorem dX8_share_27 : decode cX8_share 27 = .ok (.iconst 0, 1) := by decide +kernel
theorem dX8_share_28 : decode cX8_share 28 = .ok (.istore 4, 2) := by decide +kernel
theorem dX8_share_30 : decode cX8_share 30 = .ok (.iconst 0, 1) := by decide +kernel
theorem dX8_share_31 : decode cX8_share 31 = .ok (.istore 5, 2) := by decide +kernel
theorem dX8_share_33 : decode cX8_share 33 = .ok (.iload 5, 2) := by decide +kernel
theorem dX8_share_35 : decode cX8_share 35 = .ok (.aload_n 0, 1) := by decide +kernel
theorem dX8_share_36 : decode cX8_share 36 = .ok (.getfield 57, 3) := by decide +kernel
theorem dX8_share_39 : decode cX8_share 39 = .ok (.if_icmp .ge 36, 3) := by decide +kernel
theorem dX8_share_42 : decode cX8_share 42 = .ok (.iload 4, 2) := by decide +kernel
theorem dX8_share_44 : decode cX8_share 44 = .ok (.iload_n 3, 1) := by decide +kernel
theorem dX8_share_45 : decode cX8_share 45 = .ok (.iload 5, 2) := by decide +kernel
theorem dX8_share_47 : decode cX8_share 47 = .ok (.invokestatic 104, 3) := by decide +kernel
theorem dX8_share_50 : decode cX8_share 50 = .ok (.ifCond .eq 15, 3) := by decide +kernel
theorem dX8_share_53 : decode cX8_share 53 = .ok (.aload_n 0, 1) := by decide +kernel
theorem dX8_share_54 : decode cX8_share 54 = .ok (.getfield 28, 3) := by decide +kernel
theorem dX8_share_57 : decode cX8_share 57 = .ok (.iconst 0, 1) := by decide +kernel
theorem dX8_share_58 : decode cX8_share 58 = .ok (.iload 5, 2) := by decide +kernel
theorem dX8_share_60 : decode cX8_share 60 = .ok (.iadd, 1) := by decide +kernel
theorem dX8_share_61 : decode cX8_share 61 = .ok (.iaload, 1) := by decide +kernel
theorem dX8_share_62 : decode cX8_share 62 = .ok (.goto 4, 3) := by decide +kernel
theorem dX8_share_65 : decode cX8_share 65 = .ok (.iconst 0, 1) := by decide +kernel
theorem dX8_share_66 : decode cX8_share 66 = .ok (.ior, 1) := by decide +kernel
theorem dX8_share_67 : decode cX8_share 67 = .ok (.istore 4, 2) := by decide +kernel
theorem dX8_share_69 : decode cX8_share 69 = .ok (.iinc 5 1, 3) := by decide +kernel
theorem dX8_share_72 : decode cX8_share 72 = .ok (.goto (-39), 3) := by decide +kernel
theorem dX8_share_75 : decode cX8_share 75 = .ok (.aload_n 0, 1) := by decide +kernel
theorem dX8_share_76 : decode cX8_share 76 = .ok (.getfield 50, 3) := by decide +kernel
theorem dX8_share_79 : decode cX8_share 79 = .ok (.iload_n 3, 1) := by decide +kernel
theorem dX8_share_80 : decode cX8_share 80 = .ok (.aload_n 0, 1) := by decide +kernel
theorem dX8_share_81 : decode cX8_share 81 = .ok (.iload 4, 2) := by decide +kernel
theorem dX8_share_83 : decode cX8_share 83 = .ok (.invokevirtual 116, 3) := by decide +kernel
theorem dX8_share_86 : decode cX8_share 86 = .ok (.invokestatic 145, 3) := by decide +kernel
theorem dX8_share_89 : decode cX8_share 89 = .ok (.iastore, 1) := by decide +kernel
theorem dX8_share_90 : decode cX8_share 90 = .ok (.iinc 3 1, 3) := by decide +kernel
theorem dX8_share_93 : decode cX8_share 93 = .ok (.goto (-76), 3) := by decide +kernel
theorem dX8_share_96 : decode cX8_share 96 = .ok (.iconst 0, 1) := by decide +kernel
theorem dX8_share_97 : decode cX8_share 97 = .ok (.istore_n 3, 1) := by decide +kernel
theorem dX8_share_98 : decode cX8_share 98 = .ok (.iconst 0, 1) := by decide +kernel
theorem dX8_share_99 : decode cX8_share 99 = .ok (.istore 4, 2) := by decide +kernel
theorem dX8_share_101 : decode cX8_share 101 = .ok (.iload 4, 2) := by decide +kernel
theorem dX8_share_103 : decode cX8_share 103 = .ok (.iconst 1, 1) := by decide +kernel
theorem dX8_share_104 : decode cX8_share 104 = .ok (.aload_n 0, 1) := by decide +kernel
theorem dX8_share_105 : decode cX8_share 105 = .ok (.getfield 57, 3) := by decide +kernel
theorem dX8_share_108 : decode cX8_share 108 = .ok (.ishl, 1) := by decide +kernel
theorem dX8_share_109 : decode cX8_share 109 = .ok (.if_icmp .ge 66, 3) := by decide +kernel
theorem dX8_share_112 : decode cX8_share 112 = .ok (.iload 4, 2) := by decide +kernel
theorem dX8_share_114 : decode cX8_share 114 = .ok (.iload_n 1, 1) := by decide +kernel
theorem dX8_share_115 : decode cX8_share 115 = .ok (.invokestatic 104, 3) := by decide +kernel
theorem dX8_share_118 : decode cX8_share 118 = .ok (.ifCond .ne 51, 3) := by decide +kernel
theorem dX8_share_121 : decode cX8_share 121 = .ok (.iload 4, 2) := by decide +kernel
theorem dX8_share_123 : decode cX8_share 123 = .ok (.invokestatic 145, 3) := by decide +kernel
theorem dX8_share_126 : decode cX8_share 126 = .ok (.istore 5, 2) := by decide +kernel
theorem dX8_share_128 : decode cX8_share 128 = .ok (.iload_n 3, 1) := by decide +kernel
theorem dX8_share_129 : decode cX8_share 129 = .ok (.iload 5, 2) := by decide +kernel
theorem dX8_share_131 : decode cX8_share 131 = .ok (.invokestatic 183, 3) := by decide +kernel
theorem dX8_share_134 : decode cX8_share 134 = .ok (.aload_n 0, 1) := by decide +kernel
theorem dX8_share_135 : decode cX8_share 135 = .ok (.getfield 57, 3) := by decide +kernel
theorem dX8_share_138 : decode cX8_share 138 = .ok (.iconst 1, 1) := by decide +kernel
theorem dX8_share_139 : decode cX8_share 139 = .ok (.isub, 1) := by decide +kernel
theorem dX8_share_140 : decode cX8_share 140 = .ok (.iload 5, 2) := by decide +kernel
theorem dX8_share_142 : decode cX8_share 142 = .ok (.isub, 1) := by decide +kernel
theorem dX8_share_143 : decode cX8_share 143 = .ok (.invokestatic 183, 3) := by decide +kernel
theorem dX8_share_146 : decode cX8_share 146 = .ok (.imul, 1) := by decide +kernel
theorem dX8_share_147 : decode cX8_share 147 = .ok (.aload_n 0, 1) := by decide +kernel
theorem dX8_share_148 : decode cX8_share 148 = .ok (.getfield 50, 3) := by decide +kernel
theorem dX8_share_151 : decode cX8_share 151 = .ok (.iload 4, 2) := by decide +kernel
theorem dX8_share_153 : decode cX8_share 153 = .ok (.iconst 1, 1) := by decide +kernel
theorem dX8_share_154 : decode cX8_share 154 = .ok (.iload_n 1, 1) := by decide +kernel
theorem dX8_share_155 : decode cX8_share 155 = .ok (.ishl, 1) := by decide +kernel
theorem dX8_share_156 : decode cX8_share 156 = .ok (.ior, 1) := by decide +kernel
theorem dX8_share_157 : decode cX8_share 157 = .ok (.iaload, 1) := by decide +kernel
theorem dX8_share_158 : decode cX8_share 158 = .ok (.aload_n 0, 1) := by decide +kernel
theorem dX8_share_159 : decode cX8_share 159 = .ok (.getfield 50, 3) := by decide +kernel
theorem dX8_share_162 : decode cX8_share 162 = .ok (.iload 4, 2) := by decide +kernel
theorem dX8_share_164 : decode cX8_share 164 = .ok (.iaload, 1) := by decide +kernel
theorem dX8_share_165 : decode cX8_share 165 = .ok (.isub, 1) := by decide +kernel
theorem dX8_share_166 : decode cX8_share 166 = .ok (.imul, 1) := by decide +kernel
theorem dX8_share_167 : decode cX8_share 167 = .ok (.iadd, 1) := by decide +kernel
theorem dX8_share_168 : decode cX8_share 168 = .ok (.istore_n 3, 1) := by decide +kernel
theorem dX8_share_169 : decode cX8_share 169 = .ok (.iinc 4 1, 3) := by decide +kernel
theorem dX8_share_172 : decode cX8_share 172 = .ok (.goto (-71), 3) := by decide +kernel
theorem dX8_share_175 : decode cX8_share 175 = .ok (.iload_n 3, 1) := by decide +kernel
theorem dX8_share_176 : decode cX8_share 176 = .ok (.aload_n 0, 1) := by decide +kernel
theorem dX8_share_177 : decode cX8_share 177 = .ok (.getfield 57, 3) := by decide +kernel
theorem dX8_share_180 : decode cX8_share 180 = .ok (.invokestatic 183, 3) := by decide +kernel
theorem dX8_share_183 : decode cX8_share 183 = .ok (.iload_n 2, 1) := by decide +kernel
theorem dX8_share_184 : decode cX8_share 184 = .ok (.invokestatic 186, 3) := by decide +kernel
theorem dX8_share_187 : decode cX8_share 187 = .ok (.ireturn, 1) := by decide +kernel
theorem dX8_see_0 : decode cX8_see 0 = .ok (.aload_n 0, 1) := by decide +kernel
theorem dX8_see_1 : decode cX8_see 1 = .ok (.iconst 0, 1) := by decide +kernel
theorem dX8_see_2 : decode cX8_see 2 = .ok (.putfield 53, 3) := by decide +kernel
theorem dX8_see_5 : decode cX8_see 5 = .ok (.iload_n 1, 1) := by decide +kernel
theorem dX8_see_6 : decode cX8_see 6 = .ok (.invokestatic 148, 3) := by decide +kernel
theorem dX8_see_9 : decode cX8_see 9 = .ok (.ifCond .eq 5, 3) := by decide +kernel
theorem dX8_see_12 : decode cX8_see 12 = .ok (.iconst (-1), 1) := by decide +kernel
theorem dX8_see_13 : decode cX8_see 13 = .ok (.ireturn, 1) := by decide +kernel
theorem dX8_see_14 : decode cX8_see 14 = .ok (.iload_n 2, 1) := by decide +kernel
theorem dX8_see_15 : decode cX8_see 15 = .ok (.i2l, 1) := by decide +kernel
theorem dX8_see_16 : decode cX8_see 16 = .ok (.lconst 0, 1) := by decide +kernel
theorem dX8_see_17 : decode cX8_see 17 = .ok (.lconst 1, 1) := by decide +kernel
theorem dX8_see_18 : decode cX8_see 18 = .ok (.invokestatic 60, 3) := by decide +kernel
theorem dX8_see_21 : decode cX8_see 21 = .ok (.ifCond .ne 6, 3) := by decide +kernel
theorem dX8_see_24 : decode cX8_see 24 = .ok (.bipush (-2), 2) := by decide +kernel
theorem dX8_see_26 : decode cX8_see 26 = .ok (.ireturn, 1) := by decide +kernel
theorem dX8_see_27 : decode cX8_see 27 = .ok (.aload_n 0, 1) := by decide +kernel
theorem dX8_see_28 : decode cX8_see 28 = .ok (.getfield 124, 3) := by decide +kernel
theorem dX8_see_31 : decode cX8_see 31 = .ok (.bipush 6, 2) := by decide +kernel
theorem dX8_see_33 : decode cX8_see 33 = .ok (.if_icmp .ne 6, 3) := by decide +kernel
theorem dX8_see_36 : decode cX8_see 36 = .ok (.bipush (-4), 2) := by decide +kernel
theorem dX8_see_38 : decode cX8_see 38 = .ok (.ireturn, 1) := by decide +kernel
theorem dX8_see_39 : decode cX8_see 39 = .ok (.aload_n 0, 1) := by decide +kernel
theorem dX8_see_40 : decode cX8_see 40 = .ok (.getfield 44, 3) := by decide +kernel
theorem dX8_see_43 : decode cX8_see 43 = .ok (.aload_n 0, 1) := by decide +kernel
theorem dX8_see_44 : decode cX8_see 44 = .ok (.getfield 124, 3) := by decide +kernel
theorem dX8_see_47 : decode cX8_see 47 = .ok (.iload_n 1, 1) := by decide +kernel
theorem dX8_see_48 : decode cX8_see 48 = .ok (.iastore, 1) := by decide +kernel
theorem dX8_see_49 : decode cX8_see 49 = .ok (.aload_n 0, 1) := by decide +kernel
theorem dX8_see_50 : decode cX8_see 50 = .ok (.getfield 47, 3) := by decide +kernel
theorem dX8_see_53 : decode cX8_see 53 = .ok (.aload_n 0, 1) := by decide +kernel
theorem dX8_see_54 : decode cX8_see 54 = .ok (.getfield 124, 3) := by decide +kernel
theorem dX8_see_57 : decode cX8_see 57 = .ok (.iload_n 2, 1) := by decide +kernel
theorem dX8_see_58 : decode cX8_see 58 = .ok (.iastore, 1) := by decide +kernel
theorem dX8_see_59 : decode cX8_see 59 = .ok (.aload_n 0, 1) := by decide +kernel
theorem dX8_see_60 : decode cX8_see 60 = .ok (.dup, 1) := by decide +kernel
theorem dX8_see_61 : decode cX8_see 61 = .ok (.getfield 124, 3) := by decide +kernel
theorem dX8_see_64 : decode cX8_see 64 = .ok (.iconst 1, 1) := by decide +kernel
theorem dX8_see_65 : decode cX8_see 65 = .ok (.iadd, 1) := by decide +kernel
theorem dX8_see_66 : decode cX8_see 66 = .ok (.putfield 124, 3) := by decide +kernel
theorem dX8_see_69 : decode cX8_see 69 = .ok (.aload_n 0, 1) := by decide +kernel
theorem dX8_see_70 : decode cX8_see 70 = .ok (.getfield 124, 3) := by decide +kernel
theorem dX8_see_73 : decode cX8_see 73 = .ok (.ireturn, 1) := by decide +kernel
theorem dX8_unsee_0 : decode cX8_unsee 0 = .ok (.aload_n 0, 1) := by decide +kernel
theorem dX8_unsee_1 : decode cX8_unsee 1 = .ok (.iconst 0, 1) := by decide +kernel
theorem dX8_unsee_2 : decode cX8_unsee 2 = .ok (.putfield 53, 3) := by decide +kernel
theorem dX8_unsee_5 : decode cX8_unsee 5 = .ok (.aload_n 0, 1) := by decide +kernel
theorem dX8_unsee_6 : decode cX8_unsee 6 = .ok (.getfield 124, 3) := by decide +kernel
theorem dX8_unsee_9 : decode cX8_unsee 9 = .ok (.istore_n 1, 1) := by decide +kernel
theorem dX8_unsee_10 : decode cX8_unsee 10 = .ok (.aload_n 0, 1) := by decide +kernel
theorem dX8_unsee_11 : decode cX8_unsee 11 = .ok (.iconst 0, 1) := by decide +kernel
theorem dX8_unsee_12 : decode cX8_unsee 12 = .ok (.putfield 124, 3) := by decide +kernel
theorem dX8_unsee_15 : decode cX8_unsee 15 = .ok (.iload_n 1, 1) := by decide +kernel
theorem dX8_unsee_16 : decode cX8_unsee 16 = .ok (.ireturn, 1) := by decide +kernel
theorem dX8_findMinds_0 : decode cX8_findMinds 0 = .ok (.aload_n 0, 1) := by decide +kernel
theorem dX8_findMinds_1 : decode cX8_findMinds 1 = .ok (.iconst 0, 1) := by decide +kernel
theorem dX8_findMinds_2 : decode cX8_findMinds 2 = .ok (.putfield 190, 3) := by decide +kernel
theorem dX8_findMinds_5 : decode cX8_findMinds 5 = .ok (.aload_n 0, 1) := by decide +kernel
theorem dX8_findMinds_6 : decode cX8_findMinds 6 = .ok (.bipush 63, 2) := by decide +kernel
theorem dX8_findMinds_8 : decode cX8_findMinds 8 = .ok (.putfield 193, 3) := by decide +kernel
theorem dX8_findMinds_11 : decode cX8_findMinds 11 = .ok (.aload_n 0, 1) := by decide +kernel
theorem dX8_findMinds_12 : decode cX8_findMinds 12 = .ok (.iconst 0, 1) := by decide +kernel
theorem dX8_findMinds_13 : decode cX8_findMinds 13 = .ok (.putfield 196, 3) := by decide +kernel
theorem dX8_findMinds_16 : decode cX8_findMinds 16 = .ok (.iconst 0, 1) := by decide +kernel
theorem dX8_findMinds_17 : decode cX8_findMinds 17 = .ok (.istore_n 1, 1) := by decide +kernel
theorem dX8_findMinds_18 : decode cX8_findMinds 18 = .ok (.iload_n 1, 1) := by decide +kernel
theorem dX8_findMinds_19 : decode cX8_findMinds 19 = .ok (.bipush 63, 2) := by decide +kernel
theorem dX8_findMinds_21 : decode cX8_findMinds 21 = .ok (.if_icmp .gt 109, 3) := by decide +kernel
theorem dX8_findMinds_24 : decode cX8_findMinds 24 = .ok (.aload_n 0, 1) := by decide +kernel
theorem dX8_findMinds_25 : decode cX8_findMinds 25 = .ok (.iload_n 1, 1) := by decide +kernel
theorem dX8_findMinds_26 : decode cX8_findMinds 26 = .ok (.invokevirtual 116, 3) := by decide +kernel
theorem dX8_findMinds_29 : decode cX8_findMinds 29 = .ok (.istore_n 2, 1) := by decide +kernel
theorem dX8_findMinds_30 : decode cX8_findMinds 30 = .ok (.iconst 1, 1) := by decide +kernel
theorem dX8_findMinds_31 : decode cX8_findMinds 31 = .ok (.istore_n 3, 1) := by decide +kernel
theorem dX8_findMinds_32 : decode cX8_findMinds 32 = .ok (.iconst 0, 1) := by decide +kernel
theorem dX8_findMinds_33 : decode cX8_findMinds 33 = .ok (.istore 4, 2) := by decide +kernel
theorem dX8_findMinds_35 : decode cX8_findMinds 35 = .ok (.iload 4, 2) := by decide +kernel
theorem dX8_findMinds_37 : decode cX8_findMinds 37 = .ok (.aload_n 0, 1) := by decide +kernel
theorem dX8_findMinds_38 : decode cX8_findMinds 38 = .ok (.getfield 124, 3) := by decide +kernel
theorem dX8_findMinds_41 : decode cX8_findMinds 41 = .ok (.if_icmp .ge 49, 3) := by decide +kernel
theorem dX8_findMinds_44 : decode cX8_findMinds 44 = .ok (.iload_n 3, 1) := by decide +kernel
theorem dX8_findMinds_45 : decode cX8_findMinds 45 = .ok (.ifCond .eq 37, 3) := by decide +kernel
theorem dX8_findMinds_48 : decode cX8_findMinds 48 = .ok (.iload_n 2, 1) := by decide +kernel
theorem dX8_findMinds_49 : decode cX8_findMinds 49 = .ok (.aload_n 0, 1) := by decide +kernel
theorem dX8_findMinds_50 : decode cX8_findMinds 50 = .ok (.getfield 44, 3) := by decide +kernel
theorem dX8_findMinds_53 : decode cX8_findMinds 53 = .ok (.iload 4, 2) := by decide +kernel
theorem dX8_findMinds_55 : decode cX8_findMinds 55 = .ok (.iaload, 1) := by decide +kernel
theorem dX8_findMinds_56 : decode cX8_findMinds 56 = .ok (.invokestatic 104, 3) := by decide +kernel
theorem dX8_findMinds_59 : decode cX8_findMinds 59 = .ok (.aload_n 0, 1) := by decide +kernel
theorem dX8_findMinds_60 : decode cX8_findMinds 60 = .ok (.getfield 47, 3) := by decide +kernel
theorem dX8_findMinds_63 : decode cX8_findMinds 63 = .ok (.iload 4, 2) := by decide +kernel
theorem dX8_findMinds_65 : decode cX8_findMinds 65 = .ok (.iaload, 1) := by decide +kernel
theorem dX8_findMinds_66 : decode cX8_findMinds 66 = .ok (.iconst 1, 1) := by decide +kernel
theorem dX8_findMinds_67 : decode cX8_findMinds 67 = .ok (.if_icmp .ne 7, 3) := by decide +kernel
theorem dX8_findMinds_70 : decode cX8_findMinds 70 = .ok (.iconst 1, 1) := by decide +kernel
theorem dX8_findMinds_71 : decode cX8_findMinds 71 = .ok (.goto 4, 3) := by decide +kernel
theorem dX8_findMinds_74 : decode cX8_findMinds 74 = .ok (.iconst 0, 1) := by decide +kernel
theorem dX8_findMinds_75 : decode cX8_findMinds 75 = .ok (.if_icmp .ne 7, 3) := by decide +kernel
theorem dX8_findMinds_78 : decode cX8_findMinds 78 = .ok (.iconst 1, 1) := by decide +kernel
theorem dX8_findMinds_79 : decode cX8_findMinds 79 = .ok (.goto 4, 3) := by decide +kernel
theorem dX8_findMinds_82 : decode cX8_findMinds 82 = .ok (.iconst 0, 1) := by decide +kernel
theorem dX8_findMinds_83 : decode cX8_findMinds 83 = .ok (.istore_n 3, 1) := by decide +kernel
theorem dX8_findMinds_84 : decode cX8_findMinds 84 = .ok (.iinc 4 1, 3) := by decide +kernel
theorem dX8_findMinds_87 : decode cX8_findMinds 87 = .ok (.goto (-52), 3) := by decide +kernel
theorem dX8_findMinds_90 : decode cX8_findMinds 90 = .ok (.iload_n 3, 1) := by decide +kernel
theorem dX8_findMinds_91 : decode cX8_findMinds 91 = .ok (.ifCond .eq 33, 3) := by decide +kernel
theorem dX8_findMinds_94 : decode cX8_findMinds 94 = .ok (.aload_n 0, 1) := by decide +kernel
theorem dX8_findMinds_95 : decode cX8_findMinds 95 = .ok (.dup, 1) := by decide +kernel
theorem dX8_findMinds_96 : decode cX8_findMinds 96 = .ok (.getfield 190, 3) := by decide +kernel
theorem dX8_findMinds_99 : decode cX8_findMinds 99 = .ok (.iconst 1, 1) := by decide +kernel
theorem dX8_findMinds_100 : decode cX8_findMinds 100 = .ok (.iadd, 1) := by decide +kernel
theorem dX8_findMinds_101 : decode cX8_findMinds 101 = .ok (.putfield 190, 3) := by decide +kernel
theorem dX8_findMinds_104 : decode cX8_findMinds 104 = .ok (.aload_n 0, 1) := by decide +kernel
theorem dX8_findMinds_105 : decode cX8_findMinds 105 = .ok (.dup, 1) := by decide +kernel
theorem dX8_findMinds_106 : decode cX8_findMinds 106 = .ok (.getfield 193, 3) := by decide +kernel
theorem dX8_findMinds_109 : decode cX8_findMinds 109 = .ok (.iload_n 2, 1) := by decide +kernel
theorem dX8_findMinds_110 : decode cX8_findMinds 110 = .ok (.iand, 1) := by decide +kernel
theorem dX8_findMinds_111 : decode cX8_findMinds 111 = .ok (.putfield 193, 3) := by decide +kernel
theorem dX8_findMinds_114 : decode cX8_findMinds 114 = .ok (.aload_n 0, 1) := by decide +kernel
theorem dX8_findMinds_115 : decode cX8_findMinds 115 = .ok (.dup, 1) := by decide +kernel
theorem dX8_findMinds_116 : decode cX8_findMinds 116 = .ok (.getfield 196, 3) := by decide +kernel
theorem dX8_findMinds_119 : decode cX8_findMinds 119 = .ok (.iload_n 2, 1) := by decide +kernel
theorem dX8_findMinds_120 : decode cX8_findMinds 120 = .ok (.ior, 1) := by decide +kernel
theorem dX8_findMinds_121 : decode cX8_findMinds 121 = .ok (.putfield 196, 3) := by decide +kernel
theorem dX8_findMinds_124 : decode cX8_findMinds 124 = .ok (.iinc 1 1, 3) := by decide +kernel
theorem dX8_findMinds_127 : decode cX8_findMinds 127 = .ok (.goto (-109), 3) := by decide +kernel
theorem dX8_findMinds_130 : decode cX8_findMinds 130 = .ok (.return_, 1) := by decide +kernel
theorem dX8_minds_0 : decode cX8_minds 0 = .ok (.aload_n 0, 1) := by decide +kernel
theorem dX8_minds_1 : decode cX8_minds 1 = .ok (.iconst 0, 1) := by decide +kernel
theorem dX8_minds_2 : decode cX8_minds 2 = .ok (.putfield 53, 3) := by decide +kernel
theorem dX8_minds_5 : decode cX8_minds 5 = .ok (.iload_n 1, 1) := by decide +kernel
theorem dX8_minds_6 : decode cX8_minds 6 = .ok (.i2l, 1) := by decide +kernel
theorem dX8_minds_7 : decode cX8_minds 7 = .ok (.lconst 0, 1) := by decide +kernel
theorem dX8_minds_8 : decode cX8_minds 8 = .ok (.ldc2_w 151, 3) := by decide +kernel
theorem dX8_minds_11 : decode cX8_minds 11 = .ok (.invokestatic 60, 3) := by decide +kernel
theorem dX8_minds_14 : decode cX8_minds 14 = .ok (.ifCond .ne 6, 3) := by decide +kernel
theorem dX8_minds_17 : decode cX8_minds 17 = .ok (.bipush (-2), 2) := by decide +kernel
theorem dX8_minds_19 : decode cX8_minds 19 = .ok (.ireturn, 1) := by decide +kernel
theorem dX8_minds_20 : decode cX8_minds 20 = .ok (.aload_n 0, 1) := by decide +kernel
theorem dX8_minds_21 : decode cX8_minds 21 = .ok (.invokevirtual 199, 3) := by decide +kernel
theorem dX8_minds_24 : decode cX8_minds 24 = .ok (.iload_n 1, 1) := by decide +kernel
theorem dX8_minds_25 : decode cX8_minds 25 = .ok (.ifCond .ne 8, 3) := by decide +kernel
theorem dX8_minds_28 : decode cX8_minds 28 = .ok (.aload_n 0, 1) := by decide +kernel
theorem dX8_minds_29 : decode cX8_minds 29 = .ok (.getfield 190, 3) := by decide +kernel
theorem dX8_minds_32 : decode cX8_minds 32 = .ok (.ireturn, 1) := by decide +kernel
theorem dX8_minds_33 : decode cX8_minds 33 = .ok (.aload_n 0, 1) := by decide +kernel
theorem dX8_minds_34 : decode cX8_minds 34 = .ok (.getfield 190, 3) := by decide +kernel
theorem dX8_minds_37 : decode cX8_minds 37 = .ok (.ifCond .ne 8, 3) := by decide +kernel
theorem dX8_minds_40 : decode cX8_minds 40 = .ok (.bipush (-9), 2) := by decide +kernel
theorem dX8_minds_42 : decode cX8_minds 42 = .ok (.goto 24, 3) := by decide +kernel
theorem dX8_minds_45 : decode cX8_minds 45 = .ok (.iload_n 1, 1) := by decide +kernel
theorem dX8_minds_46 : decode cX8_minds 46 = .ok (.iconst 1, 1) := by decide +kernel
theorem dX8_minds_47 : decode cX8_minds 47 = .ok (.if_icmp .ne 10, 3) := by decide +kernel
theorem dX8_minds_50 : decode cX8_minds 50 = .ok (.aload_n 0, 1) := by decide +kernel
theorem dX8_minds_51 : decode cX8_minds 51 = .ok (.getfield 193, 3) := by decide +kernel
theorem dX8_minds_54 : decode cX8_minds 54 = .ok (.goto 12, 3) := by decide +kernel
theorem dX8_minds_57 : decode cX8_minds 57 = .ok (.bipush 63, 2) := by decide +kernel
theorem dX8_minds_59 : decode cX8_minds 59 = .ok (.aload_n 0, 1) := by decide +kernel
theorem dX8_minds_60 : decode cX8_minds 60 = .ok (.getfield 196, 3) := by decide +kernel
theorem dX8_minds_63 : decode cX8_minds 63 = .ok (.iconst (-1), 1) := by decide +kernel
theorem dX8_minds_64 : decode cX8_minds 64 = .ok (.ixor, 1) := by decide +kernel
theorem dX8_minds_65 : decode cX8_minds 65 = .ok (.iand, 1) := by decide +kernel
theorem dX8_minds_66 : decode cX8_minds 66 = .ok (.ireturn, 1) := by decide +kernel
theorem dX8_pays_0 : decode cX8_pays 0 = .ok (.iload_n 0, 1) := by decide +kernel
theorem dX8_pays_1 : decode cX8_pays 1 = .ok (.iconst 3, 1) := by decide +kernel
theorem dX8_pays_2 : decode cX8_pays 2 = .ok (.if_icmp .ne 11, 3) := by decide +kernel
theorem dX8_pays_5 : decode cX8_pays 5 = .ok (.iload_n 1, 1) := by decide +kernel
theorem dX8_pays_6 : decode cX8_pays 6 = .ok (.iconst 3, 1) := by decide +kernel
theorem dX8_pays_7 : decode cX8_pays 7 = .ok (.if_icmp .ne 6, 3) := by decide +kernel
theorem dX8_pays_10 : decode cX8_pays 10 = .ok (.bipush 6, 2) := by decide +kernel
theorem dX8_pays_12 : decode cX8_pays 12 = .ok (.ireturn, 1) := by decide +kernel
theorem dX8_pays_13 : decode cX8_pays 13 = .ok (.iload_n 0, 1) := by decide +kernel
theorem dX8_pays_14 : decode cX8_pays 14 = .ok (.iload_n 1, 1) := by decide +kernel
theorem dX8_pays_15 : decode cX8_pays 15 = .ok (.if_icmp .gt 9, 3) := by decide +kernel
theorem dX8_pays_18 : decode cX8_pays 18 = .ok (.iconst 3, 1) := by decide +kernel
theorem dX8_pays_19 : decode cX8_pays 19 = .ok (.iload_n 0, 1) := by decide +kernel
theorem dX8_pays_20 : decode cX8_pays 20 = .ok (.iadd, 1) := by decide +kernel
theorem dX8_pays_21 : decode cX8_pays 21 = .ok (.goto 6, 3) := by decide +kernel
theorem dX8_pays_24 : decode cX8_pays 24 = .ok (.iconst 1, 1) := by decide +kernel
theorem dX8_pays_25 : decode cX8_pays 25 = .ok (.iload_n 1, 1) := by decide +kernel
theorem dX8_pays_26 : decode cX8_pays 26 = .ok (.iadd, 1) := by decide +kernel
theorem dX8_pays_27 : decode cX8_pays 27 = .ok (.ireturn, 1) := by decide +kernel
theorem dX8_findRests_0 : decode cX8_findRests 0 = .ok (.aload_n 0, 1) := by decide +kernel
theorem dX8_findRests_1 : decode cX8_findRests 1 = .ok (.iconst 0, 1) := by decide +kernel
theorem dX8_findRests_2 : decode cX8_findRests 2 = .ok (.putfield 202, 3) := by decide +kernel
theorem dX8_findRests_5 : decode cX8_findRests 5 = .ok (.aload_n 0, 1) := by decide +kernel
theorem dX8_findRests_6 : decode cX8_findRests 6 = .ok (.bipush (-9), 2) := by decide +kernel
theorem dX8_findRests_8 : decode cX8_findRests 8 = .ok (.putfield 205, 3) := by decide +kernel
theorem dX8_findRests_11 : decode cX8_findRests 11 = .ok (.iconst 0, 1) := by decide +kernel
theorem dX8_findRests_12 : decode cX8_findRests 12 = .ok (.istore_n 1, 1) := by decide +kernel
theorem dX8_findRests_13 : decode cX8_findRests 13 = .ok (.iload_n 1, 1) := by decide +kernel
theorem dX8_findRests_14 : decode cX8_findRests 14 = .ok (.iconst 4, 1) := by decide +kernel
theorem dX8_findRests_15 : decode cX8_findRests 15 = .ok (.if_icmp .ge 123, 3) := by decide +kernel
theorem dX8_findRests_18 : decode cX8_findRests 18 = .ok (.iconst 0, 1) := by decide +kernel
theorem dX8_findRests_19 : decode cX8_findRests 19 = .ok (.istore_n 2, 1) := by decide +kernel
theorem dX8_findRests_20 : decode cX8_findRests 20 = .ok (.iload_n 2, 1) := by decide +kernel
theorem dX8_findRests_21 : decode cX8_findRests 21 = .ok (.iconst 4, 1) := by decide +kernel
theorem dX8_findRests_22 : decode cX8_findRests 22 = .ok (.if_icmp .ge 110, 3) := by decide +kernel
theorem dX8_findRests_25 : decode cX8_findRests 25 = .ok (.iconst 1, 1) := by decide +kernel
theorem dX8_findRests_26 : decode cX8_findRests 26 = .ok (.istore_n 3, 1) := by decide +kernel
theorem dX8_findRests_27 : decode cX8_findRests 27 = .ok (.iconst 0, 1) := by decide +kernel
theorem dX8_findRests_28 : decode cX8_findRests 28 = .ok (.istore 4, 2) := by decide +kernel
theorem dX8_findRests_30 : decode cX8_findRests 30 = .ok (.iload 4, 2) := by decide +kernel
theorem dX8_findRests_32 : decode cX8_findRests 32 = .ok (.iconst 4, 1) := by decide +kernel
theorem dX8_findRests_33 : decode cX8_findRests 33 = .ok (.if_icmp .ge 47, 3) := by decide +kernel
theorem dX8_findRests_36 : decode cX8_findRests 36 = .ok (.iload_n 3, 1) := by decide +kernel
theorem dX8_findRests_37 : decode cX8_findRests 37 = .ok (.ifCond .eq 35, 3) := by decide +kernel
theorem dX8_findRests_40 : decode cX8_findRests 40 = .ok (.iload 4, 2) := by decide +kernel
theorem dX8_findRests_42 : decode cX8_findRests 42 = .ok (.iload_n 2, 1) := by decide +kernel
theorem dX8_findRests_43 : decode cX8_findRests 43 = .ok (.invokestatic 208, 3) := by decide +kernel
theorem dX8_findRests_46 : decode cX8_findRests 46 = .ok (.iload_n 1, 1) := by decide +kernel
theorem dX8_findRests_47 : decode cX8_findRests 47 = .ok (.iload_n 2, 1) := by decide +kernel
theorem dX8_findRests_48 : decode cX8_findRests 48 = .ok (.invokestatic 208, 3) := by decide +kernel
theorem dX8_findRests_51 : decode cX8_findRests 51 = .ok (.if_icmp .lt 21, 3) := by decide +kernel
theorem dX8_findRests_54 : decode cX8_findRests 54 = .ok (.iload 4, 2) := by decide +kernel
theorem dX8_findRests_56 : decode cX8_findRests 56 = .ok (.iload_n 1, 1) := by decide +kernel
theorem dX8_findRests_57 : decode cX8_findRests 57 = .ok (.invokestatic 208, 3) := by decide +kernel
theorem dX8_findRests_60 : decode cX8_findRests 60 = .ok (.iload_n 2, 1) := by decide +kernel
theorem dX8_findRests_61 : decode cX8_findRests 61 = .ok (.iload_n 1, 1) := by decide +kernel
theorem dX8_findRests_62 : decode cX8_findRests 62 = .ok (.invokestatic 208, 3) := by decide +kernel
theorem dX8_findRests_65 : decode cX8_findRests 65 = .ok (.if_icmp .lt 7, 3) := by decide +kernel
theorem dX8_findRests_68 : decode cX8_findRests 68 = .ok (.iconst 1, 1) := by decide +kernel
theorem dX8_findRests_69 : decode cX8_findRests 69 = .ok (.goto 4, 3) := by decide +kernel
theorem dX8_findRests_72 : decode cX8_findRests 72 = .ok (.iconst 0, 1) := by decide +kernel
theorem dX8_findRests_73 : decode cX8_findRests 73 = .ok (.istore_n 3, 1) := by decide +kernel
theorem dX8_findRests_74 : decode cX8_findRests 74 = .ok (.iinc 4 1, 3) := by decide +kernel
theorem dX8_findRests_77 : decode cX8_findRests 77 = .ok (.goto (-47), 3) := by decide +kernel
theorem dX8_findRests_80 : decode cX8_findRests 80 = .ok (.aload_n 0, 1) := by decide +kernel
theorem dX8_findRests_81 : decode cX8_findRests 81 = .ok (.iload_n 3, 1) := by decide +kernel
theorem dX8_findRests_82 : decode cX8_findRests 82 = .ok (.ifCond .eq 19, 3) := by decide +kernel
theorem dX8_findRests_85 : decode cX8_findRests 85 = .ok (.aload_n 0, 1) := by decide +kernel
theorem dX8_findRests_86 : decode cX8_findRests 86 = .ok (.getfield 202, 3) := by decide +kernel
theorem dX8_findRests_89 : decode cX8_findRests 89 = .ok (.ifCond .ne 12, 3) := by decide +kernel
theorem dX8_findRests_92 : decode cX8_findRests 92 = .ok (.bipush 10, 2) := by decide +kernel
theorem dX8_findRests_94 : decode cX8_findRests 94 = .ok (.iload_n 1, 1) := by decide +kernel
theorem dX8_findRests_95 : decode cX8_findRests 95 = .ok (.imul, 1) := by decide +kernel
theorem dX8_findRests_96 : decode cX8_findRests 96 = .ok (.iload_n 2, 1) := by decide +kernel
theorem dX8_findRests_97 : decode cX8_findRests 97 = .ok (.iadd, 1) := by decide +kernel
theorem dX8_findRests_98 : decode cX8_findRests 98 = .ok (.goto 7, 3) := by decide +kernel
theorem dX8_findRests_101 : decode cX8_findRests 101 = .ok (.aload_n 0, 1) := by decide +kernel
theorem dX8_findRests_102 : decode cX8_findRests 102 = .ok (.getfield 205, 3) := by decide +kernel
theorem dX8_findRests_105 : decode cX8_findRests 105 = .ok (.putfield 205, 3) := by decide +kernel
theorem dX8_findRests_108 : decode cX8_findRests 108 = .ok (.aload_n 0, 1) := by decide +kernel
theorem dX8_findRests_109 : decode cX8_findRests 109 = .ok (.dup, 1) := by decide +kernel
theorem dX8_findRests_110 : decode cX8_findRests 110 = .ok (.getfield 202, 3) := by decide +kernel
theorem dX8_findRests_113 : decode cX8_findRests 113 = .ok (.iload_n 3, 1) := by decide +kernel
theorem dX8_findRests_114 : decode cX8_findRests 114 = .ok (.ifCond .eq 7, 3) := by decide +kernel
theorem dX8_findRests_117 : decode cX8_findRests 117 = .ok (.iconst 1, 1) := by decide +kernel
theorem dX8_findRests_118 : decode cX8_findRests 118 = .ok (.goto 4, 3) := by decide +kernel
theorem dX8_findRests_121 : decode cX8_findRests 121 = .ok (.iconst 0, 1) := by decide +kernel
theorem dX8_findRests_122 : decode cX8_findRests 122 = .ok (.iadd, 1) := by decide +kernel
theorem dX8_findRests_123 : decode cX8_findRests 123 = .ok (.putfield 202, 3) := by decide +kernel
theorem dX8_findRests_126 : decode cX8_findRests 126 = .ok (.iinc 2 1, 3) := by decide +kernel
theorem dX8_findRests_129 : decode cX8_findRests 129 = .ok (.goto (-109), 3) := by decide +kernel
theorem dX8_findRests_132 : decode cX8_findRests 132 = .ok (.iinc 1 1, 3) := by decide +kernel
theorem dX8_findRests_135 : decode cX8_findRests 135 = .ok (.goto (-122), 3) := by decide +kernel
theorem dX8_findRests_138 : decode cX8_findRests 138 = .ok (.return_, 1) := by decide +kernel
theorem dX8_rests_0 : decode cX8_rests 0 = .ok (.aload_n 0, 1) := by decide +kernel
theorem dX8_rests_1 : decode cX8_rests 1 = .ok (.iconst 0, 1) := by decide +kernel
theorem dX8_rests_2 : decode cX8_rests 2 = .ok (.putfield 53, 3) := by decide +kernel
theorem dX8_rests_5 : decode cX8_rests 5 = .ok (.iload_n 1, 1) := by decide +kernel
theorem dX8_rests_6 : decode cX8_rests 6 = .ok (.i2l, 1) := by decide +kernel
theorem dX8_rests_7 : decode cX8_rests 7 = .ok (.lconst 0, 1) := by decide +kernel
theorem dX8_rests_8 : decode cX8_rests 8 = .ok (.lconst 1, 1) := by decide +kernel
theorem dX8_rests_9 : decode cX8_rests 9 = .ok (.invokestatic 60, 3) := by decide +kernel
theorem dX8_rests_12 : decode cX8_rests 12 = .ok (.ifCond .ne 6, 3) := by decide +kernel
theorem dX8_rests_15 : decode cX8_rests 15 = .ok (.bipush (-2), 2) := by decide +kernel
theorem dX8_rests_17 : decode cX8_rests 17 = .ok (.ireturn, 1) := by decide +kernel
theorem dX8_rests_18 : decode cX8_rests 18 = .ok (.aload_n 0, 1) := by decide +kernel
theorem dX8_rests_19 : decode cX8_rests 19 = .ok (.invokevirtual 211, 3) := by decide +kernel
theorem dX8_rests_22 : decode cX8_rests 22 = .ok (.iload_n 1, 1) := by decide +kernel
theorem dX8_rests_23 : decode cX8_rests 23 = .ok (.ifCond .ne 10, 3) := by decide +kernel
theorem dX8_rests_26 : decode cX8_rests 26 = .ok (.aload_n 0, 1) := by decide +kernel
theorem dX8_rests_27 : decode cX8_rests 27 = .ok (.getfield 202, 3) := by decide +kernel
theorem dX8_rests_30 : decode cX8_rests 30 = .ok (.goto 7, 3) := by decide +kernel
theorem dX8_rests_33 : decode cX8_rests 33 = .ok (.aload_n 0, 1) := by decide +kernel
theorem dX8_rests_34 : decode cX8_rests 34 = .ok (.getfield 205, 3) := by decide +kernel
theorem dX8_rests_37 : decode cX8_rests 37 = .ok (.ireturn, 1) := by decide +kernel
theorem dX8_deaf_0 : decode cX8_deaf 0 = .ok (.aload_n 0, 1) := by decide +kernel
theorem dX8_deaf_1 : decode cX8_deaf 1 = .ok (.iconst 0, 1) := by decide +kernel
theorem dX8_deaf_2 : decode cX8_deaf 2 = .ok (.putfield 53, 3) := by decide +kernel
theorem dX8_deaf_5 : decode cX8_deaf 5 = .ok (.aload_n 0, 1) := by decide +kernel
theorem dX8_deaf_6 : decode cX8_deaf 6 = .ok (.iload_n 1, 1) := by decide +kernel
theorem dX8_deaf_7 : decode cX8_deaf 7 = .ok (.invokevirtual 127, 3) := by decide +kernel
theorem dX8_deaf_10 : decode cX8_deaf 10 = .ok (.ifCond .ne 10, 3) := by decide +kernel
theorem dX8_deaf_13 : decode cX8_deaf 13 = .ok (.iload_n 2, 1) := by decide +kernel
theorem dX8_deaf_14 : decode cX8_deaf 14 = .ok (.invokestatic 148, 3) := by decide +kernel
theorem dX8_deaf_17 : decode cX8_deaf 17 = .ok (.ifCond .eq 5, 3) := by decide +kernel
theorem dX8_deaf_20 : decode cX8_deaf 20 = .ok (.iconst (-1), 1) := by decide +kernel
theorem dX8_deaf_21 : decode cX8_deaf 21 = .ok (.ireturn, 1) := by decide +kernel
theorem dX8_deaf_22 : decode cX8_deaf 22 = .ok (.iload_n 3, 1) := by decide +kernel
theorem dX8_deaf_23 : decode cX8_deaf 23 = .ok (.i2l, 1) := by decide +kernel
theorem dX8_deaf_24 : decode cX8_deaf 24 = .ok (.lconst 1, 1) := by decide +kernel
theorem dX8_deaf_25 : decode cX8_deaf 25 = .ok (.ldc2_w 151, 3) := by decide +kernel
theorem dX8_deaf_28 : decode cX8_deaf 28 = .ok (.invokestatic 60, 3) := by decide +kernel
theorem dX8_deaf_31 : decode cX8_deaf 31 = .ok (.ifCond .eq 16, 3) := by decide +kernel
theorem dX8_deaf_34 : decode cX8_deaf 34 = .ok (.iload 4, 2) := by decide +kernel
theorem dX8_deaf_36 : decode cX8_deaf 36 = .ok (.i2l, 1) := by decide +kernel
theorem dX8_deaf_37 : decode cX8_deaf 37 = .ok (.lconst 0, 1) := by decide +kernel
theorem dX8_deaf_38 : decode cX8_deaf 38 = .ok (.ldc2_w 214, 3) := by decide +kernel
theorem dX8_deaf_41 : decode cX8_deaf 41 = .ok (.invokestatic 60, 3) := by decide +kernel
theorem dX8_deaf_44 : decode cX8_deaf 44 = .ok (.ifCond .ne 6, 3) := by decide +kernel
theorem dX8_deaf_47 : decode cX8_deaf 47 = .ok (.bipush (-2), 2) := by decide +kernel
theorem dX8_deaf_49 : decode cX8_deaf 49 = .ok (.ireturn, 1) := by decide +kernel
theorem dX8_deaf_50 : decode cX8_deaf 50 = .ok (.aload_n 0, 1) := by decide +kernel
theorem dX8_deaf_51 : decode cX8_deaf 51 = .ok (.aload_n 0, 1) := by decide +kernel
theorem dX8_deaf_52 : decode cX8_deaf 52 = .ok (.getfield 28, 3) := by decide +kernel
theorem dX8_deaf_55 : decode cX8_deaf 55 = .ok (.iload_n 1, 1) := by decide +kernel
theorem dX8_deaf_56 : decode cX8_deaf 56 = .ok (.iload_n 2, 1) := by decide +kernel
theorem dX8_deaf_57 : decode cX8_deaf 57 = .ok (.iload_n 3, 1) := by decide +kernel
theorem dX8_deaf_58 : decode cX8_deaf 58 = .ok (.invokevirtual 135, 3) := by decide +kernel
theorem dX8_deaf_61 : decode cX8_deaf 61 = .ok (.invokestatic 145, 3) := by decide +kernel
theorem dX8_deaf_64 : decode cX8_deaf 64 = .ok (.istore 6, 2) := by decide +kernel
theorem dX8_deaf_66 : decode cX8_deaf 66 = .ok (.iload 4, 2) := by decide +kernel
theorem dX8_deaf_68 : decode cX8_deaf 68 = .ok (.iload 6, 2) := by decide +kernel
theorem dX8_deaf_70 : decode cX8_deaf 70 = .ok (.invokestatic 162, 3) := by decide +kernel
theorem dX8_deaf_73 : decode cX8_deaf 73 = .ok (.bipush 10, 2) := by decide +kernel
theorem dX8_deaf_75 : decode cX8_deaf 75 = .ok (.iload 6, 2) := by decide +kernel
theorem dX8_deaf_77 : decode cX8_deaf 77 = .ok (.invokestatic 162, 3) := by decide +kernel
theorem dX8_deaf_80 : decode cX8_deaf 80 = .ok (.iload 5, 2) := by decide +kernel
theorem dX8_deaf_82 : decode cX8_deaf 82 = .ok (.invokestatic 186, 3) := by decide +kernel
theorem dX8_deaf_85 : decode cX8_deaf 85 = .ok (.ireturn, 1) := by decide +kernel
theorem dX8_seed_0 : decode cX8_seed 0 = .ok (.aload_n 0, 1) := by decide +kernel
theorem dX8_seed_1 : decode cX8_seed 1 = .ok (.iconst 0, 1) := by decide +kernel
theorem dX8_seed_2 : decode cX8_seed 2 = .ok (.putfield 53, 3) := by decide +kernel
theorem dX8_seed_5 : decode cX8_seed 5 = .ok (.aload_n 0, 1) := by decide +kernel
theorem dX8_seed_6 : decode cX8_seed 6 = .ok (.getfield 216, 3) := by decide +kernel
theorem dX8_seed_9 : decode cX8_seed 9 = .ok (.lstore_n 3, 1) := by decide +kernel
theorem dX8_seed_10 : decode cX8_seed 10 = .ok (.aload_n 0, 1) := by decide +kernel
theorem dX8_seed_11 : decode cX8_seed 11 = .ok (.lload_n 1, 1) := by decide +kernel
theorem dX8_seed_12 : decode cX8_seed 12 = .ok (.putfield 216, 3) := by decide +kernel
theorem dX8_seed_15 : decode cX8_seed 15 = .ok (.lload_n 3, 1) := by decide +kernel
theorem dX8_seed_16 : decode cX8_seed 16 = .ok (.lreturn, 1) := by decide +kernel
theorem dX8_evenings_0 : decode cX8_evenings 0 = .ok (.aload_n 0, 1) := by decide +kernel
theorem dX8_evenings_1 : decode cX8_evenings 1 = .ok (.iconst 0, 1) := by decide +kernel
theorem dX8_evenings_2 : decode cX8_evenings 2 = .ok (.putfield 53, 3) := by decide +kernel
theorem dX8_evenings_5 : decode cX8_evenings 5 = .ok (.iload_n 1, 1) := by decide +kernel
theorem dX8_evenings_6 : decode cX8_evenings 6 = .ok (.i2l, 1) := by decide +kernel
theorem dX8_evenings_7 : decode cX8_evenings 7 = .ok (.lconst 1, 1) := by decide +kernel
theorem dX8_evenings_8 : decode cX8_evenings 8 = .ok (.ldc2_w 220, 3) := by decide +kernel
theorem dX8_evenings_11 : decode cX8_evenings 11 = .ok (.invokestatic 60, 3) := by decide +kernel
theorem dX8_evenings_14 : decode cX8_evenings 14 = .ok (.ifCond .ne 6, 3) := by decide +kernel
theorem dX8_evenings_17 : decode cX8_evenings 17 = .ok (.bipush (-2), 2) := by decide +kernel
theorem dX8_evenings_19 : decode cX8_evenings 19 = .ok (.ireturn, 1) := by decide +kernel
theorem dX8_evenings_20 : decode cX8_evenings 20 = .ok (.aload_n 0, 1) := by decide +kernel
theorem dX8_evenings_21 : decode cX8_evenings 21 = .ok (.invokevirtual 159, 3) := by decide +kernel
theorem dX8_evenings_24 : decode cX8_evenings 24 = .ok (.iconst 0, 1) := by decide +kernel
theorem dX8_evenings_25 : decode cX8_evenings 25 = .ok (.istore_n 2, 1) := by decide +kernel
theorem dX8_evenings_26 : decode cX8_evenings 26 = .ok (.iload_n 2, 1) := by decide +kernel
theorem dX8_evenings_27 : decode cX8_evenings 27 = .ok (.iload_n 1, 1) := by decide +kernel
theorem dX8_evenings_28 : decode cX8_evenings 28 = .ok (.if_icmp .ge 80, 3) := by decide +kernel
theorem dX8_evenings_31 : decode cX8_evenings 31 = .ok (.aload_n 0, 1) := by decide +kernel
theorem dX8_evenings_32 : decode cX8_evenings 32 = .ok (.aload_n 0, 1) := by decide +kernel
theorem dX8_evenings_33 : decode cX8_evenings 33 = .ok (.getfield 216, 3) := by decide +kernel
theorem dX8_evenings_36 : decode cX8_evenings 36 = .ok (.ldc2_w 222, 3) := by decide +kernel
theorem dX8_evenings_39 : decode cX8_evenings 39 = .ok (.lmul, 1) := by decide +kernel
theorem dX8_evenings_40 : decode cX8_evenings 40 = .ok (.ldc2_w 224, 3) := by decide +kernel
theorem dX8_evenings_43 : decode cX8_evenings 43 = .ok (.ladd, 1) := by decide +kernel
theorem dX8_evenings_44 : decode cX8_evenings 44 = .ok (.putfield 216, 3) := by decide +kernel
theorem dX8_evenings_47 : decode cX8_evenings 47 = .ok (.aload_n 0, 1) := by decide +kernel
theorem dX8_evenings_48 : decode cX8_evenings 48 = .ok (.getfield 216, 3) := by decide +kernel
theorem dX8_evenings_51 : decode cX8_evenings 51 = .ok (.bipush 33, 2) := by decide +kernel
theorem dX8_evenings_53 : decode cX8_evenings 53 = .ok (.lushr, 1) := by decide +kernel
theorem dX8_evenings_54 : decode cX8_evenings 54 = .ok (.ldc2_w 226, 3) := by decide +kernel
theorem dX8_evenings_57 : decode cX8_evenings 57 = .ok (.lrem, 1) := by decide +kernel
theorem dX8_evenings_58 : decode cX8_evenings 58 = .ok (.l2i, 1) := by decide +kernel
theorem dX8_evenings_59 : decode cX8_evenings 59 = .ok (.istore_n 3, 1) := by decide +kernel
theorem dX8_evenings_60 : decode cX8_evenings 60 = .ok (.aload_n 0, 1) := by decide +kernel
theorem dX8_evenings_61 : decode cX8_evenings 61 = .ok (.iload_n 3, 1) := by decide +kernel
theorem dX8_evenings_62 : decode cX8_evenings 62 = .ok (.bipush 12, 2) := by decide +kernel
theorem dX8_evenings_64 : decode cX8_evenings 64 = .ok (.idiv, 1) := by decide +kernel
theorem dX8_evenings_65 : decode cX8_evenings 65 = .ok (.invokevirtual 127, 3) := by decide +kernel
theorem dX8_evenings_68 : decode cX8_evenings 68 = .ok (.ifCond .ne 34, 3) := by decide +kernel
theorem dX8_evenings_71 : decode cX8_evenings 71 = .ok (.aload_n 0, 1) := by decide +kernel
theorem dX8_evenings_72 : decode cX8_evenings 72 = .ok (.aload_n 0, 1) := by decide +kernel
theorem dX8_evenings_73 : decode cX8_evenings 73 = .ok (.getfield 31, 3) := by decide +kernel
theorem dX8_evenings_76 : decode cX8_evenings 76 = .ok (.iload_n 3, 1) := by decide +kernel
theorem dX8_evenings_77 : decode cX8_evenings 77 = .ok (.bipush 12, 2) := by decide +kernel
theorem dX8_evenings_79 : decode cX8_evenings 79 = .ok (.idiv, 1) := by decide +kernel
theorem dX8_evenings_80 : decode cX8_evenings 80 = .ok (.iload_n 3, 1) := by decide +kernel
theorem dX8_evenings_81 : decode cX8_evenings 81 = .ok (.bipush 6, 2) := by decide +kernel
theorem dX8_evenings_83 : decode cX8_evenings 83 = .ok (.irem, 1) := by decide +kernel
theorem dX8_evenings_84 : decode cX8_evenings 84 = .ok (.iload_n 3, 1) := by decide +kernel
theorem dX8_evenings_85 : decode cX8_evenings 85 = .ok (.bipush 12, 2) := by decide +kernel
theorem dX8_evenings_87 : decode cX8_evenings 87 = .ok (.irem, 1) := by decide +kernel
theorem dX8_evenings_88 : decode cX8_evenings 88 = .ok (.bipush 6, 2) := by decide +kernel
theorem dX8_evenings_90 : decode cX8_evenings 90 = .ok (.if_icmp .ge 7, 3) := by decide +kernel
theorem dX8_evenings_93 : decode cX8_evenings 93 = .ok (.iconst 1, 1) := by decide +kernel
theorem dX8_evenings_94 : decode cX8_evenings 94 = .ok (.goto 4, 3) := by decide +kernel
theorem dX8_evenings_97 : decode cX8_evenings 97 = .ok (.iconst 2, 1) := by decide +kernel
theorem dX8_evenings_98 : decode cX8_evenings 98 = .ok (.invokevirtual 156, 3) := by decide +kernel
theorem dX8_evenings_101 : decode cX8_evenings 101 = .ok (.pop, 1) := by decide +kernel
theorem dX8_evenings_102 : decode cX8_evenings 102 = .ok (.iinc 2 1, 3) := by decide +kernel
theorem dX8_evenings_105 : decode cX8_evenings 105 = .ok (.goto (-79), 3) := by decide +kernel
theorem dX8_evenings_108 : decode cX8_evenings 108 = .ok (.aload_n 0, 1) := by decide +kernel
theorem dX8_evenings_109 : decode cX8_evenings 109 = .ok (.aload_n 0, 1) := by decide +kernel
theorem dX8_evenings_110 : decode cX8_evenings 110 = .ok (.getfield 31, 3) := by decide +kernel
theorem dX8_evenings_113 : decode cX8_evenings 113 = .ok (.invokevirtual 120, 3) := by decide +kernel
theorem dX8_evenings_116 : decode cX8_evenings 116 = .ok (.aload_n 0, 1) := by decide +kernel
theorem dX8_evenings_117 : decode cX8_evenings 117 = .ok (.aload_n 0, 1) := by decide +kernel
theorem dX8_evenings_118 : decode cX8_evenings 118 = .ok (.getfield 28, 3) := by decide +kernel
theorem dX8_evenings_121 : decode cX8_evenings 121 = .ok (.invokevirtual 120, 3) := by decide +kernel
theorem dX8_evenings_124 : decode cX8_evenings 124 = .ok (.isub, 1) := by decide +kernel
theorem dX8_evenings_125 : decode cX8_evenings 125 = .ok (.ireturn, 1) := by decide +kernel
theorem dX8_keep_0 : decode cX8_keep 0 = .ok (.aload_n 0, 1) := by decide +kernel
theorem dX8_keep_1 : decode cX8_keep 1 = .ok (.iconst 0, 1) := by decide +kernel
theorem dX8_keep_2 : decode cX8_keep 2 = .ok (.putfield 53, 3) := by decide +kernel
theorem dX8_keep_5 : decode cX8_keep 5 = .ok (.iload_n 1, 1) := by decide +kernel
theorem dX8_keep_6 : decode cX8_keep 6 = .ok (.i2l, 1) := by decide +kernel
theorem dX8_keep_7 : decode cX8_keep 7 = .ok (.lconst 0, 1) := by decide +kernel
theorem dX8_keep_8 : decode cX8_keep 8 = .ok (.lconst 1, 1) := by decide +kernel
theorem dX8_keep_9 : decode cX8_keep 9 = .ok (.invokestatic 60, 3) := by decide +kernel
theorem dX8_keep_12 : decode cX8_keep 12 = .ok (.ifCond .ne 5, 3) := by decide +kernel
theorem dX8_keep_15 : decode cX8_keep 15 = .ok (.iconst (-1), 1) := by decide +kernel
theorem dX8_keep_16 : decode cX8_keep 16 = .ok (.ireturn, 1) := by decide +kernel
theorem dX8_keep_17 : decode cX8_keep 17 = .ok (.aload_n 0, 1) := by decide +kernel
theorem dX8_keep_18 : decode cX8_keep 18 = .ok (.getfield 40, 3) := by decide +kernel
theorem dX8_keep_21 : decode cX8_keep 21 = .ok (.iload_n 1, 1) := by decide +kernel
theorem dX8_keep_22 : decode cX8_keep 22 = .ok (.iconst 1, 1) := by decide +kernel
theorem dX8_keep_23 : decode cX8_keep 23 = .ok (.bastore, 1) := by decide +kernel
theorem dX8_keep_24 : decode cX8_keep 24 = .ok (.iconst 0, 1) := by decide +kernel
theorem dX8_keep_25 : decode cX8_keep 25 = .ok (.istore_n 2, 1) := by decide +kernel
theorem dX8_keep_26 : decode cX8_keep 26 = .ok (.iload_n 2, 1) := by decide +kernel
theorem dX8_keep_27 : decode cX8_keep 27 = .ok (.bipush 15, 2) := by decide +kernel
theorem dX8_keep_29 : decode cX8_keep 29 = .ok (.if_icmp .ge 26, 3) := by decide +kernel
theorem dX8_keep_32 : decode cX8_keep 32 = .ok (.aload_n 0, 1) := by decide +kernel
theorem dX8_keep_33 : decode cX8_keep 33 = .ok (.getfield 37, 3) := by decide +kernel
theorem dX8_keep_36 : decode cX8_keep 36 = .ok (.bipush 15, 2) := by decide +kernel
theorem dX8_keep_38 : decode cX8_keep 38 = .ok (.iload_n 1, 1) := by decide +kernel
theorem dX8_keep_39 : decode cX8_keep 39 = .ok (.imul, 1) := by decide +kernel
theorem dX8_keep_40 : decode cX8_keep 40 = .ok (.iload_n 2, 1) := by decide +kernel
theorem dX8_keep_41 : decode cX8_keep 41 = .ok (.iadd, 1) := by decide +kernel
theorem dX8_keep_42 : decode cX8_keep 42 = .ok (.aload_n 0, 1) := by decide +kernel
theorem dX8_keep_43 : decode cX8_keep 43 = .ok (.getfield 28, 3) := by decide +kernel
theorem dX8_keep_46 : decode cX8_keep 46 = .ok (.iload_n 2, 1) := by decide +kernel
theorem dX8_keep_47 : decode cX8_keep 47 = .ok (.iaload, 1) := by decide +kernel
theorem dX8_keep_48 : decode cX8_keep 48 = .ok (.iastore, 1) := by decide +kernel
theorem dX8_keep_49 : decode cX8_keep 49 = .ok (.iinc 2 1, 3) := by decide +kernel
theorem dX8_keep_52 : decode cX8_keep 52 = .ok (.goto (-26), 3) := by decide +kernel
theorem dX8_keep_55 : decode cX8_keep 55 = .ok (.aload_n 0, 1) := by decide +kernel
theorem dX8_keep_56 : decode cX8_keep 56 = .ok (.aload_n 0, 1) := by decide +kernel
theorem dX8_keep_57 : decode cX8_keep 57 = .ok (.getfield 28, 3) := by decide +kernel
theorem dX8_keep_60 : decode cX8_keep 60 = .ok (.invokevirtual 120, 3) := by decide +kernel
theorem dX8_keep_63 : decode cX8_keep 63 = .ok (.ireturn, 1) := by decide +kernel
theorem dX8_again_0 : decode cX8_again 0 = .ok (.aload_n 0, 1) := by decide +kernel
theorem dX8_again_1 : decode cX8_again 1 = .ok (.iconst 0, 1) := by decide +kernel
theorem dX8_again_2 : decode cX8_again 2 = .ok (.putfield 53, 3) := by decide +kernel
theorem dX8_again_5 : decode cX8_again 5 = .ok (.iload_n 1, 1) := by decide +kernel
theorem dX8_again_6 : decode cX8_again 6 = .ok (.i2l, 1) := by decide +kernel
theorem dX8_again_7 : decode cX8_again 7 = .ok (.lconst 0, 1) := by decide +kernel
theorem dX8_again_8 : decode cX8_again 8 = .ok (.lconst 1, 1) := by decide +kernel
theorem dX8_again_9 : decode cX8_again 9 = .ok (.invokestatic 60, 3) := by decide +kernel
theorem dX8_again_12 : decode cX8_again 12 = .ok (.ifCond .ne 5, 3) := by decide +kernel
theorem dX8_again_15 : decode cX8_again 15 = .ok (.iconst (-1), 1) := by decide +kernel
theorem dX8_again_16 : decode cX8_again 16 = .ok (.ireturn, 1) := by decide +kernel
theorem dX8_again_17 : decode cX8_again 17 = .ok (.aload_n 0, 1) := by decide +kernel
theorem dX8_again_18 : decode cX8_again 18 = .ok (.getfield 40, 3) := by decide +kernel
theorem dX8_again_21 : decode cX8_again 21 = .ok (.iload_n 1, 1) := by decide +kernel
theorem dX8_again_22 : decode cX8_again 22 = .ok (.baload, 1) := by decide +kernel
theorem dX8_again_23 : decode cX8_again 23 = .ok (.ifCond .ne 6, 3) := by decide +kernel
theorem dX8_again_26 : decode cX8_again 26 = .ok (.bipush (-3), 2) := by decide +kernel
theorem dX8_again_28 : decode cX8_again 28 = .ok (.ireturn, 1) := by decide +kernel
theorem dX8_again_29 : decode cX8_again 29 = .ok (.iconst 0, 1) := by decide +kernel
theorem dX8_again_30 : decode cX8_again 30 = .ok (.istore_n 2, 1) := by decide +kernel
theorem dX8_again_31 : decode cX8_again 31 = .ok (.iload_n 2, 1) := by decide +kernel
theorem dX8_again_32 : decode cX8_again 32 = .ok (.bipush 15, 2) := by decide +kernel
theorem dX8_again_34 : decode cX8_again 34 = .ok (.if_icmp .ge 26, 3) := by decide +kernel
theorem dX8_again_37 : decode cX8_again 37 = .ok (.aload_n 0, 1) := by decide +kernel
theorem dX8_again_38 : decode cX8_again 38 = .ok (.getfield 28, 3) := by decide +kernel
theorem dX8_again_41 : decode cX8_again 41 = .ok (.iload_n 2, 1) := by decide +kernel
theorem dX8_again_42 : decode cX8_again 42 = .ok (.aload_n 0, 1) := by decide +kernel
theorem dX8_again_43 : decode cX8_again 43 = .ok (.getfield 37, 3) := by decide +kernel
theorem dX8_again_46 : decode cX8_again 46 = .ok (.bipush 15, 2) := by decide +kernel
theorem dX8_again_48 : decode cX8_again 48 = .ok (.iload_n 1, 1) := by decide +kernel
theorem dX8_again_49 : decode cX8_again 49 = .ok (.imul, 1) := by decide +kernel
theorem dX8_again_50 : decode cX8_again 50 = .ok (.iload_n 2, 1) := by decide +kernel
theorem dX8_again_51 : decode cX8_again 51 = .ok (.iadd, 1) := by decide +kernel
theorem dX8_again_52 : decode cX8_again 52 = .ok (.iaload, 1) := by decide +kernel
theorem dX8_again_53 : decode cX8_again 53 = .ok (.iastore, 1) := by decide +kernel
theorem dX8_again_54 : decode cX8_again 54 = .ok (.iinc 2 1, 3) := by decide +kernel
theorem dX8_again_57 : decode cX8_again 57 = .ok (.goto (-26), 3) := by decide +kernel
theorem dX8_again_60 : decode cX8_again 60 = .ok (.aload_n 0, 1) := by decide +kernel
theorem dX8_again_61 : decode cX8_again 61 = .ok (.iconst 0, 1) := by decide +kernel
theorem dX8_again_62 : decode cX8_again 62 = .ok (.putfield 101, 3) := by decide +kernel
theorem dX8_again_65 : decode cX8_again 65 = .ok (.aload_n 0, 1) := by decide +kernel
theorem dX8_again_66 : decode cX8_again 66 = .ok (.aload_n 0, 1) := by decide +kernel
theorem dX8_again_67 : decode cX8_again 67 = .ok (.getfield 28, 3) := by decide +kernel
theorem dX8_again_70 : decode cX8_again 70 = .ok (.invokevirtual 120, 3) := by decide +kernel
theorem dX8_again_73 : decode cX8_again 73 = .ok (.ireturn, 1) := by decide +kernel
end
section
theorem dL_law_0 : decode cL_law 0 = .ok (.new 7, 3) := by decide +kernel
theorem dL_law_3 : decode cL_law 3 = .ok (.dup, 1) := by decide +kernel
theorem dL_law_4 : decode cL_law 4 = .ok (.invokespecial 9, 3) := by decide +kernel
theorem dL_law_7 : decode cL_law 7 = .ok (.astore_n 1, 1) := by decide +kernel
theorem dL_law_8 : decode cL_law 8 = .ok (.new 10, 3) := by decide +kernel
theorem dL_law_11 : decode cL_law 11 = .ok (.dup, 1) := by decide +kernel
theorem dL_law_12 : decode cL_law 12 = .ok (.invokespecial 12, 3) := by decide +kernel
theorem dL_law_15 : decode cL_law 15 = .ok (.astore_n 2, 1) := by decide +kernel
theorem dL_law_16 : decode cL_law 16 = .ok (.iconst 0, 1) := by decide +kernel
theorem dL_law_17 : decode cL_law 17 = .ok (.istore_n 3, 1) := by decide +kernel
theorem dL_law_18 : decode cL_law 18 = .ok (.iload_n 3, 1) := by decide +kernel
theorem dL_law_19 : decode cL_law 19 = .ok (.aload_n 0, 1) := by decide +kernel
theorem dL_law_20 : decode cL_law 20 = .ok (.arraylength, 1) := by decide +kernel
theorem dL_law_21 : decode cL_law 21 = .ok (.bipush 6, 2) := by decide +kernel
theorem dL_law_23 : decode cL_law 23 = .ok (.isub, 1) := by decide +kernel
theorem dL_law_24 : decode cL_law 24 = .ok (.if_icmp .gt 1051, 3) := by decide +kernel
theorem dL_law_27 : decode cL_law 27 = .ok (.aload_n 0, 1) := by decide +kernel
theorem dL_law_28 : decode cL_law 28 = .ok (.iload_n 3, 1) := by decide +kernel
theorem dL_law_29 : decode cL_law 29 = .ok (.iaload, 1) := by decide +kernel
theorem dL_law_30 : decode cL_law 30 = .ok (.bipush 31, 2) := by decide +kernel
theorem dL_law_32 : decode cL_law 32 = .ok (.iand, 1) := by decide +kernel
theorem dL_law_33 : decode cL_law 33 = .ok (.tableswitch 1036 0 27 #[127, 150, 163, 176, 189, 212, 245, 278, 321, 354, 387, 420, 433, 466, 499, 594, 627, 660, 693, 742, 775, 788, 811, 834, 913, 967, 990, 1013], 127) := by decide +kernel
theorem dL_law_160 : decode cL_law 160 = .ok (.aload_n 1, 1) := by decide +kernel
theorem dL_law_161 : decode cL_law 161 = .ok (.aload_n 0, 1) := by decide +kernel
theorem dL_law_162 : decode cL_law 162 = .ok (.iload_n 3, 1) := by decide +kernel
theorem dL_law_163 : decode cL_law 163 = .ok (.iconst 1, 1) := by decide +kernel
theorem dL_law_164 : decode cL_law 164 = .ok (.iadd, 1) := by decide +kernel
theorem dL_law_165 : decode cL_law 165 = .ok (.iaload, 1) := by decide +kernel
theorem dL_law_166 : decode cL_law 166 = .ok (.invokevirtual 13, 3) := by decide +kernel
theorem dL_law_169 : decode cL_law 169 = .ok (.aload_n 2, 1) := by decide +kernel
theorem dL_law_170 : decode cL_law 170 = .ok (.aload_n 0, 1) := by decide +kernel
theorem dL_law_171 : decode cL_law 171 = .ok (.iload_n 3, 1) := by decide +kernel
theorem dL_law_172 : decode cL_law 172 = .ok (.iconst 1, 1) := by decide +kernel
theorem dL_law_173 : decode cL_law 173 = .ok (.iadd, 1) := by decide +kernel
theorem dL_law_174 : decode cL_law 174 = .ok (.iaload, 1) := by decide +kernel
theorem dL_law_175 : decode cL_law 175 = .ok (.invokevirtual 17, 3) := by decide +kernel
theorem dL_law_178 : decode cL_law 178 = .ok (.if_icmp .eq 891, 3) := by decide +kernel
theorem dL_law_181 : decode cL_law 181 = .ok (.iconst 0, 1) := by decide +kernel
theorem dL_law_182 : decode cL_law 182 = .ok (.ireturn, 1) := by decide +kernel
theorem dL_law_183 : decode cL_law 183 = .ok (.aload_n 1, 1) := by decide +kernel
theorem dL_law_184 : decode cL_law 184 = .ok (.invokevirtual 18, 3) := by decide +kernel
theorem dL_law_187 : decode cL_law 187 = .ok (.aload_n 2, 1) := by decide +kernel
theorem dL_law_188 : decode cL_law 188 = .ok (.invokevirtual 22, 3) := by decide +kernel
theorem dL_law_191 : decode cL_law 191 = .ok (.if_icmp .eq 878, 3) := by decide +kernel
theorem dL_law_194 : decode cL_law 194 = .ok (.iconst 0, 1) := by decide +kernel
theorem dL_law_195 : decode cL_law 195 = .ok (.ireturn, 1) := by decide +kernel
theorem dL_law_196 : decode cL_law 196 = .ok (.aload_n 1, 1) := by decide +kernel
theorem dL_law_197 : decode cL_law 197 = .ok (.invokevirtual 23, 3) := by decide +kernel
theorem dL_law_200 : decode cL_law 200 = .ok (.aload_n 2, 1) := by decide +kernel
theorem dL_law_201 : decode cL_law 201 = .ok (.invokevirtual 26, 3) := by decide +kernel
theorem dL_law_204 : decode cL_law 204 = .ok (.if_icmp .eq 865, 3) := by decide +kernel
theorem dL_law_207 : decode cL_law 207 = .ok (.iconst 0, 1) := by decide +kernel
theorem dL_law_208 : decode cL_law 208 = .ok (.ireturn, 1) := by decide +kernel
theorem dL_law_209 : decode cL_law 209 = .ok (.aload_n 1, 1) := by decide +kernel
theorem dL_law_210 : decode cL_law 210 = .ok (.invokevirtual 27, 3) := by decide +kernel
theorem dL_law_213 : decode cL_law 213 = .ok (.aload_n 2, 1) := by decide +kernel
theorem dL_law_214 : decode cL_law 214 = .ok (.invokevirtual 30, 3) := by decide +kernel
theorem dL_law_217 : decode cL_law 217 = .ok (.if_icmp .eq 852, 3) := by decide +kernel
theorem dL_law_220 : decode cL_law 220 = .ok (.iconst 0, 1) := by decide +kernel
theorem dL_law_221 : decode cL_law 221 = .ok (.ireturn, 1) := by decide +kernel
theorem dL_law_222 : decode cL_law 222 = .ok (.aload_n 1, 1) := by decide +kernel
theorem dL_law_223 : decode cL_law 223 = .ok (.aload_n 0, 1) := by decide +kernel
theorem dL_law_224 : decode cL_law 224 = .ok (.iload_n 3, 1) := by decide +kernel
theorem dL_law_225 : decode cL_law 225 = .ok (.iconst 1, 1) := by decide +kernel
theorem dL_law_226 : decode cL_law 226 = .ok (.iadd, 1) := by decide +kernel
theorem dL_law_227 : decode cL_law 227 = .ok (.iaload, 1) := by decide +kernel
theorem dL_law_228 : decode cL_law 228 = .ok (.invokevirtual 31, 3) := by decide +kernel
theorem dL_law_231 : decode cL_law 231 = .ok (.aload_n 2, 1) := by decide +kernel
theorem dL_law_232 : decode cL_law 232 = .ok (.aload_n 0, 1) := by decide +kernel
theorem dL_law_233 : decode cL_law 233 = .ok (.iload_n 3, 1) := by decide +kernel
theorem dL_law_234 : decode cL_law 234 = .ok (.iconst 1, 1) := by decide +kernel
theorem dL_law_235 : decode cL_law 235 = .ok (.iadd, 1) := by decide +kernel
theorem dL_law_236 : decode cL_law 236 = .ok (.iaload, 1) := by decide +kernel
theorem dL_law_237 : decode cL_law 237 = .ok (.invokevirtual 34, 3) := by decide +kernel
theorem dL_law_240 : decode cL_law 240 = .ok (.if_icmp .eq 829, 3) := by decide +kernel
theorem dL_law_243 : decode cL_law 243 = .ok (.iconst 0, 1) := by decide +kernel
theorem dL_law_244 : decode cL_law 244 = .ok (.ireturn, 1) := by decide +kernel
theorem dL_law_245 : decode cL_law 245 = .ok (.aload_n 1, 1) := by decide +kernel
theorem dL_law_246 : decode cL_law 246 = .ok (.aload_n 0, 1) := by decide +kernel
theorem dL_law_247 : decode cL_law 247 = .ok (.iload_n 3, 1) := by decide +kernel
theorem dL_law_248 : decode cL_law 248 = .ok (.iconst 1, 1) := by decide +kernel
theorem dL_law_249 : decode cL_law 249 = .ok (.iadd, 1) := by decide +kernel
theorem dL_law_250 : decode cL_law 250 = .ok (.iaload, 1) := by decide +kernel
theorem dL_law_251 : decode cL_law 251 = .ok (.aload_n 0, 1) := by decide +kernel
theorem dL_law_252 : decode cL_law 252 = .ok (.iload_n 3, 1) := by decide +kernel
theorem dL_law_253 : decode cL_law 253 = .ok (.iconst 2, 1) := by decide +kernel
theorem dL_law_254 : decode cL_law 254 = .ok (.iadd, 1) := by decide +kernel
theorem dL_law_255 : decode cL_law 255 = .ok (.iaload, 1) := by decide +kernel
theorem dL_law_256 : decode cL_law 256 = .ok (.invokevirtual 35, 3) := by decide +kernel
theorem dL_law_259 : decode cL_law 259 = .ok (.aload_n 2, 1) := by decide +kernel
theorem dL_law_260 : decode cL_law 260 = .ok (.aload_n 0, 1) := by decide +kernel
theorem dL_law_261 : decode cL_law 261 = .ok (.iload_n 3, 1) := by decide +kernel
theorem dL_law_262 : decode cL_law 262 = .ok (.iconst 1, 1) := by decide +kernel
theorem dL_law_263 : decode cL_law 263 = .ok (.iadd, 1) := by decide +kernel
theorem dL_law_264 : decode cL_law 264 = .ok (.iaload, 1) := by decide +kernel
theorem dL_law_265 : decode cL_law 265 = .ok (.aload_n 0, 1) := by decide +kernel
theorem dL_law_266 : decode cL_law 266 = .ok (.iload_n 3, 1) := by decide +kernel
theorem dL_law_267 : decode cL_law 267 = .ok (.iconst 2, 1) := by decide +kernel
theorem dL_law_268 : decode cL_law 268 = .ok (.iadd, 1) := by decide +kernel
theorem dL_law_269 : decode cL_law 269 = .ok (.iaload, 1) := by decide +kernel
theorem dL_law_270 : decode cL_law 270 = .ok (.invokevirtual 39, 3) := by decide +kernel
theorem dL_law_273 : decode cL_law 273 = .ok (.if_icmp .eq 796, 3) := by decide +kernel
theorem dL_law_276 : decode cL_law 276 = .ok (.iconst 0, 1) := by decide +kernel
theorem dL_law_277 : decode cL_law 277 = .ok (.ireturn, 1) := by decide +kernel
theorem dL_law_278 : decode cL_law 278 = .ok (.aload_n 1, 1) := by decide +kernel
theorem dL_law_279 : decode cL_law 279 = .ok (.aload_n 0, 1) := by decide +kernel
theorem dL_law_280 : decode cL_law 280 = .ok (.iload_n 3, 1) := by decide +kernel
theorem dL_law_281 : decode cL_law 281 = .ok (.iconst 1, 1) := by decide +kernel
theorem dL_law_282 : decode cL_law 282 = .ok (.iadd, 1) := by decide +kernel
theorem dL_law_283 : decode cL_law 283 = .ok (.iaload, 1) := by decide +kernel
theorem dL_law_284 : decode cL_law 284 = .ok (.aload_n 0, 1) := by decide +kernel
theorem dL_law_285 : decode cL_law 285 = .ok (.iload_n 3, 1) := by decide +kernel
theorem dL_law_286 : decode cL_law 286 = .ok (.iconst 2, 1) := by decide +kernel
theorem dL_law_287 : decode cL_law 287 = .ok (.iadd, 1) := by decide +kernel
theorem dL_law_288 : decode cL_law 288 = .ok (.iaload, 1) := by decide +kernel
theorem dL_law_289 : decode cL_law 289 = .ok (.invokevirtual 40, 3) := by decide +kernel
theorem dL_law_292 : decode cL_law 292 = .ok (.aload_n 2, 1) := by decide +kernel
theorem dL_law_293 : decode cL_law 293 = .ok (.aload_n 0, 1) := by decide +kernel
theorem dL_law_294 : decode cL_law 294 = .ok (.iload_n 3, 1) := by decide +kernel
theorem dL_law_295 : decode cL_law 295 = .ok (.iconst 1, 1) := by decide +kernel
theorem dL_law_296 : decode cL_law 296 = .ok (.iadd, 1) := by decide +kernel
theorem dL_law_297 : decode cL_law 297 = .ok (.iaload, 1) := by decide +kernel
theorem dL_law_298 : decode cL_law 298 = .ok (.aload_n 0, 1) := by decide +kernel
theorem dL_law_299 : decode cL_law 299 = .ok (.iload_n 3, 1) := by decide +kernel
theorem dL_law_300 : decode cL_law 300 = .ok (.iconst 2, 1) := by decide +kernel
theorem dL_law_301 : decode cL_law 301 = .ok (.iadd, 1) := by decide +kernel
theorem dL_law_302 : decode cL_law 302 = .ok (.iaload, 1) := by decide +kernel
theorem dL_law_303 : decode cL_law 303 = .ok (.invokevirtual 43, 3) := by decide +kernel
theorem dL_law_306 : decode cL_law 306 = .ok (.if_icmp .eq 763, 3) := by decide +kernel
theorem dL_law_309 : decode cL_law 309 = .ok (.iconst 0, 1) := by decide +kernel
theorem dL_law_310 : decode cL_law 310 = .ok (.ireturn, 1) := by decide +kernel
theorem dL_law_311 : decode cL_law 311 = .ok (.aload_n 1, 1) := by decide +kernel
theorem dL_law_312 : decode cL_law 312 = .ok (.aload_n 0, 1) := by decide +kernel
theorem dL_law_313 : decode cL_law 313 = .ok (.iload_n 3, 1) := by decide +kernel
theorem dL_law_314 : decode cL_law 314 = .ok (.iconst 1, 1) := by decide +kernel
theorem dL_law_315 : decode cL_law 315 = .ok (.iadd, 1) := by decide +kernel
theorem dL_law_316 : decode cL_law 316 = .ok (.iaload, 1) := by decide +kernel
theorem dL_law_317 : decode cL_law 317 = .ok (.aload_n 0, 1) := by decide +kernel
theorem dL_law_318 : decode cL_law 318 = .ok (.iload_n 3, 1) := by decide +kernel
theorem dL_law_319 : decode cL_law 319 = .ok (.iconst 2, 1) := by decide +kernel
theorem dL_law_320 : decode cL_law 320 = .ok (.iadd, 1) := by decide +kernel
theorem dL_law_321 : decode cL_law 321 = .ok (.iaload, 1) := by decide +kernel
theorem dL_law_322 : decode cL_law 322 = .ok (.aload_n 0, 1) := by decide +kernel
theorem dL_law_323 : decode cL_law 323 = .ok (.iload_n 3, 1) := by decide +kernel
theorem dL_law_324 : decode cL_law 324 = .ok (.iconst 3, 1) := by decide +kernel
theorem dL_law_325 : decode cL_law 325 = .ok (.iadd, 1) := by decide +kernel
theorem dL_law_326 : decode cL_law 326 = .ok (.iaload, 1) := by decide +kernel
theorem dL_law_327 : decode cL_law 327 = .ok (.invokevirtual 44, 3) := by decide +kernel
theorem dL_law_330 : decode cL_law 330 = .ok (.aload_n 2, 1) := by decide +kernel
theorem dL_law_331 : decode cL_law 331 = .ok (.aload_n 0, 1) := by decide +kernel
theorem dL_law_332 : decode cL_law 332 = .ok (.iload_n 3, 1) := by decide +kernel
theorem dL_law_333 : decode cL_law 333 = .ok (.iconst 1, 1) := by decide +kernel
theorem dL_law_334 : decode cL_law 334 = .ok (.iadd, 1) := by decide +kernel
theorem dL_law_335 : decode cL_law 335 = .ok (.iaload, 1) := by decide +kernel
theorem dL_law_336 : decode cL_law 336 = .ok (.aload_n 0, 1) := by decide +kernel
theorem dL_law_337 : decode cL_law 337 = .ok (.iload_n 3, 1) := by decide +kernel
theorem dL_law_338 : decode cL_law 338 = .ok (.iconst 2, 1) := by decide +kernel
theorem dL_law_339 : decode cL_law 339 = .ok (.iadd, 1) := by decide +kernel
theorem dL_law_340 : decode cL_law 340 = .ok (.iaload, 1) := by decide +kernel
theorem dL_law_341 : decode cL_law 341 = .ok (.aload_n 0, 1) := by decide +kernel
theorem dL_law_342 : decode cL_law 342 = .ok (.iload_n 3, 1) := by decide +kernel
theorem dL_law_343 : decode cL_law 343 = .ok (.iconst 3, 1) := by decide +kernel
theorem dL_law_344 : decode cL_law 344 = .ok (.iadd, 1) := by decide +kernel
theorem dL_law_345 : decode cL_law 345 = .ok (.iaload, 1) := by decide +kernel
theorem dL_law_346 : decode cL_law 346 = .ok (.invokevirtual 48, 3) := by decide +kernel
theorem dL_law_349 : decode cL_law 349 = .ok (.if_icmp .eq 720, 3) := by decide +kernel
theorem dL_law_352 : decode cL_law 352 = .ok (.iconst 0, 1) := by decide +kernel
theorem dL_law_353 : decode cL_law 353 = .ok (.ireturn, 1) := by decide +kernel
theorem dL_law_354 : decode cL_law 354 = .ok (.aload_n 1, 1) := by decide +kernel
theorem dL_law_355 : decode cL_law 355 = .ok (.aload_n 0, 1) := by decide +kernel
theorem dL_law_356 : decode cL_law 356 = .ok (.iload_n 3, 1) := by decide +kernel
theorem dL_law_357 : decode cL_law 357 = .ok (.iconst 1, 1) := by decide +kernel
theorem dL_law_358 : decode cL_law 358 = .ok (.iadd, 1) := by decide +kernel
theorem dL_law_359 : decode cL_law 359 = .ok (.iaload, 1) := by decide +kernel
theorem dL_law_360 : decode cL_law 360 = .ok (.aload_n 0, 1) := by decide +kernel
theorem dL_law_361 : decode cL_law 361 = .ok (.iload_n 3, 1) := by decide +kernel
theorem dL_law_362 : decode cL_law 362 = .ok (.iconst 2, 1) := by decide +kernel
theorem dL_law_363 : decode cL_law 363 = .ok (.iadd, 1) := by decide +kernel
theorem dL_law_364 : decode cL_law 364 = .ok (.iaload, 1) := by decide +kernel
theorem dL_law_365 : decode cL_law 365 = .ok (.invokevirtual 49, 3) := by decide +kernel
theorem dL_law_368 : decode cL_law 368 = .ok (.aload_n 2, 1) := by decide +kernel
theorem dL_law_369 : decode cL_law 369 = .ok (.aload_n 0, 1) := by decide +kernel
theorem dL_law_370 : decode cL_law 370 = .ok (.iload_n 3, 1) := by decide +kernel
theorem dL_law_371 : decode cL_law 371 = .ok (.iconst 1, 1) := by decide +kernel
theorem dL_law_372 : decode cL_law 372 = .ok (.iadd, 1) := by decide +kernel
theorem dL_law_373 : decode cL_law 373 = .ok (.iaload, 1) := by decide +kernel
theorem dL_law_374 : decode cL_law 374 = .ok (.aload_n 0, 1) := by decide +kernel
theorem dL_law_375 : decode cL_law 375 = .ok (.iload_n 3, 1) := by decide +kernel
theorem dL_law_376 : decode cL_law 376 = .ok (.iconst 2, 1) := by decide +kernel
theorem dL_law_377 : decode cL_law 377 = .ok (.iadd, 1) := by decide +kernel
theorem dL_law_378 : decode cL_law 378 = .ok (.iaload, 1) := by decide +kernel
theorem dL_law_379 : decode cL_law 379 = .ok (.invokevirtual 52, 3) := by decide +kernel
theorem dL_law_382 : decode cL_law 382 = .ok (.if_icmp .eq 687, 3) := by decide +kernel
theorem dL_law_385 : decode cL_law 385 = .ok (.iconst 0, 1) := by decide +kernel
theorem dL_law_386 : decode cL_law 386 = .ok (.ireturn, 1) := by decide +kernel
theorem dL_law_387 : decode cL_law 387 = .ok (.aload_n 1, 1) := by decide +kernel
theorem dL_law_388 : decode cL_law 388 = .ok (.aload_n 0, 1) := by decide +kernel
theorem dL_law_389 : decode cL_law 389 = .ok (.iload_n 3, 1) := by decide +kernel
theorem dL_law_390 : decode cL_law 390 = .ok (.iconst 1, 1) := by decide +kernel
theorem dL_law_391 : decode cL_law 391 = .ok (.iadd, 1) := by decide +kernel
theorem dL_law_392 : decode cL_law 392 = .ok (.iaload, 1) := by decide +kernel
theorem dL_law_393 : decode cL_law 393 = .ok (.aload_n 0, 1) := by decide +kernel
theorem dL_law_394 : decode cL_law 394 = .ok (.iload_n 3, 1) := by decide +kernel
theorem dL_law_395 : decode cL_law 395 = .ok (.iconst 2, 1) := by decide +kernel
theorem dL_law_396 : decode cL_law 396 = .ok (.iadd, 1) := by decide +kernel
theorem dL_law_397 : decode cL_law 397 = .ok (.iaload, 1) := by decide +kernel
theorem dL_law_398 : decode cL_law 398 = .ok (.invokevirtual 53, 3) := by decide +kernel
theorem dL_law_401 : decode cL_law 401 = .ok (.aload_n 2, 1) := by decide +kernel
theorem dL_law_402 : decode cL_law 402 = .ok (.aload_n 0, 1) := by decide +kernel
theorem dL_law_403 : decode cL_law 403 = .ok (.iload_n 3, 1) := by decide +kernel
theorem dL_law_404 : decode cL_law 404 = .ok (.iconst 1, 1) := by decide +kernel
theorem dL_law_405 : decode cL_law 405 = .ok (.iadd, 1) := by decide +kernel
theorem dL_law_406 : decode cL_law 406 = .ok (.iaload, 1) := by decide +kernel
theorem dL_law_407 : decode cL_law 407 = .ok (.aload_n 0, 1) := by decide +kernel
theorem dL_law_408 : decode cL_law 408 = .ok (.iload_n 3, 1) := by decide +kernel
theorem dL_law_409 : decode cL_law 409 = .ok (.iconst 2, 1) := by decide +kernel
theorem dL_law_410 : decode cL_law 410 = .ok (.iadd, 1) := by decide +kernel
theorem dL_law_411 : decode cL_law 411 = .ok (.iaload, 1) := by decide +kernel
theorem dL_law_412 : decode cL_law 412 = .ok (.invokevirtual 56, 3) := by decide +kernel
theorem dL_law_415 : decode cL_law 415 = .ok (.if_icmp .eq 654, 3) := by decide +kernel
theorem dL_law_418 : decode cL_law 418 = .ok (.iconst 0, 1) := by decide +kernel
theorem dL_law_419 : decode cL_law 419 = .ok (.ireturn, 1) := by decide +kernel
theorem dL_law_420 : decode cL_law 420 = .ok (.aload_n 1, 1) := by decide +kernel
theorem dL_law_421 : decode cL_law 421 = .ok (.aload_n 0, 1) := by decide +kernel
theorem dL_law_422 : decode cL_law 422 = .ok (.iload_n 3, 1) := by decide +kernel
theorem dL_law_423 : decode cL_law 423 = .ok (.iconst 1, 1) := by decide +kernel
theorem dL_law_424 : decode cL_law 424 = .ok (.iadd, 1) := by decide +kernel
theorem dL_law_425 : decode cL_law 425 = .ok (.iaload, 1) := by decide +kernel
theorem dL_law_426 : decode cL_law 426 = .ok (.aload_n 0, 1) := by decide +kernel
theorem dL_law_427 : decode cL_law 427 = .ok (.iload_n 3, 1) := by decide +kernel
theorem dL_law_428 : decode cL_law 428 = .ok (.iconst 2, 1) := by decide +kernel
theorem dL_law_429 : decode cL_law 429 = .ok (.iadd, 1) := by decide +kernel
theorem dL_law_430 : decode cL_law 430 = .ok (.iaload, 1) := by decide +kernel
theorem dL_law_431 : decode cL_law 431 = .ok (.invokevirtual 57, 3) := by decide +kernel
theorem dL_law_434 : decode cL_law 434 = .ok (.aload_n 2, 1) := by decide +kernel
theorem dL_law_435 : decode cL_law 435 = .ok (.aload_n 0, 1) := by decide +kernel
theorem dL_law_436 : decode cL_law 436 = .ok (.iload_n 3, 1) := by decide +kernel
theorem dL_law_437 : decode cL_law 437 = .ok (.iconst 1, 1) := by decide +kernel
theorem dL_law_438 : decode cL_law 438 = .ok (.iadd, 1) := by decide +kernel
theorem dL_law_439 : decode cL_law 439 = .ok (.iaload, 1) := by decide +kernel
theorem dL_law_440 : decode cL_law 440 = .ok (.aload_n 0, 1) := by decide +kernel
theorem dL_law_441 : decode cL_law 441 = .ok (.iload_n 3, 1) := by decide +kernel
theorem dL_law_442 : decode cL_law 442 = .ok (.iconst 2, 1) := by decide +kernel
theorem dL_law_443 : decode cL_law 443 = .ok (.iadd, 1) := by decide +kernel
theorem dL_law_444 : decode cL_law 444 = .ok (.iaload, 1) := by decide +kernel
theorem dL_law_445 : decode cL_law 445 = .ok (.invokevirtual 60, 3) := by decide +kernel
theorem dL_law_448 : decode cL_law 448 = .ok (.if_icmp .eq 621, 3) := by decide +kernel
theorem dL_law_451 : decode cL_law 451 = .ok (.iconst 0, 1) := by decide +kernel
theorem dL_law_452 : decode cL_law 452 = .ok (.ireturn, 1) := by decide +kernel
theorem dL_law_453 : decode cL_law 453 = .ok (.aload_n 1, 1) := by decide +kernel
theorem dL_law_454 : decode cL_law 454 = .ok (.invokevirtual 61, 3) := by decide +kernel
theorem dL_law_457 : decode cL_law 457 = .ok (.aload_n 2, 1) := by decide +kernel
theorem dL_law_458 : decode cL_law 458 = .ok (.invokevirtual 64, 3) := by decide +kernel
theorem dL_law_461 : decode cL_law 461 = .ok (.if_icmp .eq 608, 3) := by decide +kernel
theorem dL_law_464 : decode cL_law 464 = .ok (.iconst 0, 1) := by decide +kernel
theorem dL_law_465 : decode cL_law 465 = .ok (.ireturn, 1) := by decide +kernel
theorem dL_law_466 : decode cL_law 466 = .ok (.aload_n 1, 1) := by decide +kernel
theorem dL_law_467 : decode cL_law 467 = .ok (.aload_n 0, 1) := by decide +kernel
theorem dL_law_468 : decode cL_law 468 = .ok (.iload_n 3, 1) := by decide +kernel
theorem dL_law_469 : decode cL_law 469 = .ok (.iconst 1, 1) := by decide +kernel
theorem dL_law_470 : decode cL_law 470 = .ok (.iadd, 1) := by decide +kernel
theorem dL_law_471 : decode cL_law 471 = .ok (.iaload, 1) := by decide +kernel
theorem dL_law_472 : decode cL_law 472 = .ok (.aload_n 0, 1) := by decide +kernel
theorem dL_law_473 : decode cL_law 473 = .ok (.iload_n 3, 1) := by decide +kernel
theorem dL_law_474 : decode cL_law 474 = .ok (.iconst 2, 1) := by decide +kernel
theorem dL_law_475 : decode cL_law 475 = .ok (.iadd, 1) := by decide +kernel
theorem dL_law_476 : decode cL_law 476 = .ok (.iaload, 1) := by decide +kernel
theorem dL_law_477 : decode cL_law 477 = .ok (.invokevirtual 65, 3) := by decide +kernel
theorem dL_law_480 : decode cL_law 480 = .ok (.aload_n 2, 1) := by decide +kernel
theorem dL_law_481 : decode cL_law 481 = .ok (.aload_n 0, 1) := by decide +kernel
theorem dL_law_482 : decode cL_law 482 = .ok (.iload_n 3, 1) := by decide +kernel
theorem dL_law_483 : decode cL_law 483 = .ok (.iconst 1, 1) := by decide +kernel
theorem dL_law_484 : decode cL_law 484 = .ok (.iadd, 1) := by decide +kernel
theorem dL_law_485 : decode cL_law 485 = .ok (.iaload, 1) := by decide +kernel
theorem dL_law_486 : decode cL_law 486 = .ok (.aload_n 0, 1) := by decide +kernel
theorem dL_law_487 : decode cL_law 487 = .ok (.iload_n 3, 1) := by decide +kernel
theorem dL_law_488 : decode cL_law 488 = .ok (.iconst 2, 1) := by decide +kernel
theorem dL_law_489 : decode cL_law 489 = .ok (.iadd, 1) := by decide +kernel
theorem dL_law_490 : decode cL_law 490 = .ok (.iaload, 1) := by decide +kernel
theorem dL_law_491 : decode cL_law 491 = .ok (.invokevirtual 68, 3) := by decide +kernel
theorem dL_law_494 : decode cL_law 494 = .ok (.if_icmp .eq 575, 3) := by decide +kernel
theorem dL_law_497 : decode cL_law 497 = .ok (.iconst 0, 1) := by decide +kernel
theorem dL_law_498 : decode cL_law 498 = .ok (.ireturn, 1) := by decide +kernel
theorem dL_law_499 : decode cL_law 499 = .ok (.aload_n 1, 1) := by decide +kernel
theorem dL_law_500 : decode cL_law 500 = .ok (.aload_n 0, 1) := by decide +kernel
theorem dL_law_501 : decode cL_law 501 = .ok (.iload_n 3, 1) := by decide +kernel
theorem dL_law_502 : decode cL_law 502 = .ok (.iconst 1, 1) := by decide +kernel
theorem dL_law_503 : decode cL_law 503 = .ok (.iadd, 1) := by decide +kernel
theorem dL_law_504 : decode cL_law 504 = .ok (.iaload, 1) := by decide +kernel
theorem dL_law_505 : decode cL_law 505 = .ok (.aload_n 0, 1) := by decide +kernel
theorem dL_law_506 : decode cL_law 506 = .ok (.iload_n 3, 1) := by decide +kernel
theorem dL_law_507 : decode cL_law 507 = .ok (.iconst 2, 1) := by decide +kernel
theorem dL_law_508 : decode cL_law 508 = .ok (.iadd, 1) := by decide +kernel
theorem dL_law_509 : decode cL_law 509 = .ok (.iaload, 1) := by decide +kernel
theorem dL_law_510 : decode cL_law 510 = .ok (.invokevirtual 69, 3) := by decide +kernel
theorem dL_law_513 : decode cL_law 513 = .ok (.aload_n 2, 1) := by decide +kernel
theorem dL_law_514 : decode cL_law 514 = .ok (.aload_n 0, 1) := by decide +kernel
theorem dL_law_515 : decode cL_law 515 = .ok (.iload_n 3, 1) := by decide +kernel
theorem dL_law_516 : decode cL_law 516 = .ok (.iconst 1, 1) := by decide +kernel
theorem dL_law_517 : decode cL_law 517 = .ok (.iadd, 1) := by decide +kernel
theorem dL_law_518 : decode cL_law 518 = .ok (.iaload, 1) := by decide +kernel
theorem dL_law_519 : decode cL_law 519 = .ok (.aload_n 0, 1) := by decide +kernel
theorem dL_law_520 : decode cL_law 520 = .ok (.iload_n 3, 1) := by decide +kernel
theorem dL_law_521 : decode cL_law 521 = .ok (.iconst 2, 1) := by decide +kernel
theorem dL_law_522 : decode cL_law 522 = .ok (.iadd, 1) := by decide +kernel
theorem dL_law_523 : decode cL_law 523 = .ok (.iaload, 1) := by decide +kernel
theorem dL_law_524 : decode cL_law 524 = .ok (.invokevirtual 72, 3) := by decide +kernel
theorem dL_law_527 : decode cL_law 527 = .ok (.if_icmp .eq 542, 3) := by decide +kernel
theorem dL_law_530 : decode cL_law 530 = .ok (.iconst 0, 1) := by decide +kernel
theorem dL_law_531 : decode cL_law 531 = .ok (.ireturn, 1) := by decide +kernel
theorem dL_law_532 : decode cL_law 532 = .ok (.aload_n 1, 1) := by decide +kernel
theorem dL_law_533 : decode cL_law 533 = .ok (.aload_n 0, 1) := by decide +kernel
theorem dL_law_534 : decode cL_law 534 = .ok (.iload_n 3, 1) := by decide +kernel
theorem dL_law_535 : decode cL_law 535 = .ok (.iconst 1, 1) := by decide +kernel
theorem dL_law_536 : decode cL_law 536 = .ok (.iadd, 1) := by decide +kernel
theorem dL_law_537 : decode cL_law 537 = .ok (.iaload, 1) := by decide +kernel
theorem dL_law_538 : decode cL_law 538 = .ok (.aload_n 0, 1) := by decide +kernel
theorem dL_law_539 : decode cL_law 539 = .ok (.iload_n 3, 1) := by decide +kernel
theorem dL_law_540 : decode cL_law 540 = .ok (.iconst 2, 1) := by decide +kernel
theorem dL_law_541 : decode cL_law 541 = .ok (.iadd, 1) := by decide +kernel
theorem dL_law_542 : decode cL_law 542 = .ok (.iaload, 1) := by decide +kernel
theorem dL_law_543 : decode cL_law 543 = .ok (.aload_n 0, 1) := by decide +kernel
theorem dL_law_544 : decode cL_law 544 = .ok (.iload_n 3, 1) := by decide +kernel
theorem dL_law_545 : decode cL_law 545 = .ok (.iconst 3, 1) := by decide +kernel
theorem dL_law_546 : decode cL_law 546 = .ok (.iadd, 1) := by decide +kernel
theorem dL_law_547 : decode cL_law 547 = .ok (.iaload, 1) := by decide +kernel
theorem dL_law_548 : decode cL_law 548 = .ok (.aload_n 0, 1) := by decide +kernel
theorem dL_law_549 : decode cL_law 549 = .ok (.iload_n 3, 1) := by decide +kernel
theorem dL_law_550 : decode cL_law 550 = .ok (.iconst 4, 1) := by decide +kernel
theorem dL_law_551 : decode cL_law 551 = .ok (.iadd, 1) := by decide +kernel
theorem dL_law_552 : decode cL_law 552 = .ok (.iaload, 1) := by decide +kernel
theorem dL_law_553 : decode cL_law 553 = .ok (.ifCond .eq 7, 3) := by decide +kernel
theorem dL_law_556 : decode cL_law 556 = .ok (.iconst 1, 1) := by decide +kernel
theorem dL_law_557 : decode cL_law 557 = .ok (.goto 4, 3) := by decide +kernel
theorem dL_law_560 : decode cL_law 560 = .ok (.iconst 0, 1) := by decide +kernel
theorem dL_law_561 : decode cL_law 561 = .ok (.aload_n 0, 1) := by decide +kernel
theorem dL_law_562 : decode cL_law 562 = .ok (.iload_n 3, 1) := by decide +kernel
theorem dL_law_563 : decode cL_law 563 = .ok (.iconst 5, 1) := by decide +kernel
theorem dL_law_564 : decode cL_law 564 = .ok (.iadd, 1) := by decide +kernel
theorem dL_law_565 : decode cL_law 565 = .ok (.iaload, 1) := by decide +kernel
theorem dL_law_566 : decode cL_law 566 = .ok (.ifCond .eq 7, 3) := by decide +kernel
theorem dL_law_569 : decode cL_law 569 = .ok (.iconst 1, 1) := by decide +kernel
theorem dL_law_570 : decode cL_law 570 = .ok (.goto 4, 3) := by decide +kernel
theorem dL_law_573 : decode cL_law 573 = .ok (.iconst 0, 1) := by decide +kernel
theorem dL_law_574 : decode cL_law 574 = .ok (.invokevirtual 73, 3) := by decide +kernel
theorem dL_law_577 : decode cL_law 577 = .ok (.aload_n 2, 1) := by decide +kernel
theorem dL_law_578 : decode cL_law 578 = .ok (.aload_n 0, 1) := by decide +kernel
theorem dL_law_579 : decode cL_law 579 = .ok (.iload_n 3, 1) := by decide +kernel
theorem dL_law_580 : decode cL_law 580 = .ok (.iconst 1, 1) := by decide +kernel
theorem dL_law_581 : decode cL_law 581 = .ok (.iadd, 1) := by decide +kernel
theorem dL_law_582 : decode cL_law 582 = .ok (.iaload, 1) := by decide +kernel
theorem dL_law_583 : decode cL_law 583 = .ok (.aload_n 0, 1) := by decide +kernel
theorem dL_law_584 : decode cL_law 584 = .ok (.iload_n 3, 1) := by decide +kernel
theorem dL_law_585 : decode cL_law 585 = .ok (.iconst 2, 1) := by decide +kernel
theorem dL_law_586 : decode cL_law 586 = .ok (.iadd, 1) := by decide +kernel
theorem dL_law_587 : decode cL_law 587 = .ok (.iaload, 1) := by decide +kernel
theorem dL_law_588 : decode cL_law 588 = .ok (.aload_n 0, 1) := by decide +kernel
theorem dL_law_589 : decode cL_law 589 = .ok (.iload_n 3, 1) := by decide +kernel
theorem dL_law_590 : decode cL_law 590 = .ok (.iconst 3, 1) := by decide +kernel
theorem dL_law_591 : decode cL_law 591 = .ok (.iadd, 1) := by decide +kernel
theorem dL_law_592 : decode cL_law 592 = .ok (.iaload, 1) := by decide +kernel
theorem dL_law_593 : decode cL_law 593 = .ok (.aload_n 0, 1) := by decide +kernel
theorem dL_law_594 : decode cL_law 594 = .ok (.iload_n 3, 1) := by decide +kernel
theorem dL_law_595 : decode cL_law 595 = .ok (.iconst 4, 1) := by decide +kernel
theorem dL_law_596 : decode cL_law 596 = .ok (.iadd, 1) := by decide +kernel
theorem dL_law_597 : decode cL_law 597 = .ok (.iaload, 1) := by decide +kernel
theorem dL_law_598 : decode cL_law 598 = .ok (.ifCond .eq 7, 3) := by decide +kernel
theorem dL_law_601 : decode cL_law 601 = .ok (.iconst 1, 1) := by decide +kernel
theorem dL_law_602 : decode cL_law 602 = .ok (.goto 4, 3) := by decide +kernel
theorem dL_law_605 : decode cL_law 605 = .ok (.iconst 0, 1) := by decide +kernel
theorem dL_law_606 : decode cL_law 606 = .ok (.aload_n 0, 1) := by decide +kernel
theorem dL_law_607 : decode cL_law 607 = .ok (.iload_n 3, 1) := by decide +kernel
theorem dL_law_608 : decode cL_law 608 = .ok (.iconst 5, 1) := by decide +kernel
theorem dL_law_609 : decode cL_law 609 = .ok (.iadd, 1) := by decide +kernel
theorem dL_law_610 : decode cL_law 610 = .ok (.iaload, 1) := by decide +kernel
theorem dL_law_611 : decode cL_law 611 = .ok (.ifCond .eq 7, 3) := by decide +kernel
theorem dL_law_614 : decode cL_law 614 = .ok (.iconst 1, 1) := by decide +kernel
theorem dL_law_615 : decode cL_law 615 = .ok (.goto 4, 3) := by decide +kernel
theorem dL_law_618 : decode cL_law 618 = .ok (.iconst 0, 1) := by decide +kernel
theorem dL_law_619 : decode cL_law 619 = .ok (.invokevirtual 77, 3) := by decide +kernel
theorem dL_law_622 : decode cL_law 622 = .ok (.if_icmp .eq 447, 3) := by decide +kernel
theorem dL_law_625 : decode cL_law 625 = .ok (.iconst 0, 1) := by decide +kernel
theorem dL_law_626 : decode cL_law 626 = .ok (.ireturn, 1) := by decide +kernel
theorem dL_law_627 : decode cL_law 627 = .ok (.aload_n 1, 1) := by decide +kernel
theorem dL_law_628 : decode cL_law 628 = .ok (.aload_n 0, 1) := by decide +kernel
theorem dL_law_629 : decode cL_law 629 = .ok (.iload_n 3, 1) := by decide +kernel
theorem dL_law_630 : decode cL_law 630 = .ok (.iconst 1, 1) := by decide +kernel
theorem dL_law_631 : decode cL_law 631 = .ok (.iadd, 1) := by decide +kernel
theorem dL_law_632 : decode cL_law 632 = .ok (.iaload, 1) := by decide +kernel
theorem dL_law_633 : decode cL_law 633 = .ok (.aload_n 0, 1) := by decide +kernel
theorem dL_law_634 : decode cL_law 634 = .ok (.iload_n 3, 1) := by decide +kernel
theorem dL_law_635 : decode cL_law 635 = .ok (.iconst 2, 1) := by decide +kernel
theorem dL_law_636 : decode cL_law 636 = .ok (.iadd, 1) := by decide +kernel
theorem dL_law_637 : decode cL_law 637 = .ok (.iaload, 1) := by decide +kernel
theorem dL_law_638 : decode cL_law 638 = .ok (.invokevirtual 78, 3) := by decide +kernel
theorem dL_law_641 : decode cL_law 641 = .ok (.aload_n 2, 1) := by decide +kernel
theorem dL_law_642 : decode cL_law 642 = .ok (.aload_n 0, 1) := by decide +kernel
theorem dL_law_643 : decode cL_law 643 = .ok (.iload_n 3, 1) := by decide +kernel
theorem dL_law_644 : decode cL_law 644 = .ok (.iconst 1, 1) := by decide +kernel
theorem dL_law_645 : decode cL_law 645 = .ok (.iadd, 1) := by decide +kernel
theorem dL_law_646 : decode cL_law 646 = .ok (.iaload, 1) := by decide +kernel
theorem dL_law_647 : decode cL_law 647 = .ok (.aload_n 0, 1) := by decide +kernel
theorem dL_law_648 : decode cL_law 648 = .ok (.iload_n 3, 1) := by decide +kernel
theorem dL_law_649 : decode cL_law 649 = .ok (.iconst 2, 1) := by decide +kernel
theorem dL_law_650 : decode cL_law 650 = .ok (.iadd, 1) := by decide +kernel
theorem dL_law_651 : decode cL_law 651 = .ok (.iaload, 1) := by decide +kernel
theorem dL_law_652 : decode cL_law 652 = .ok (.invokevirtual 81, 3) := by decide +kernel
theorem dL_law_655 : decode cL_law 655 = .ok (.if_icmp .eq 414, 3) := by decide +kernel
theorem dL_law_658 : decode cL_law 658 = .ok (.iconst 0, 1) := by decide +kernel
theorem dL_law_659 : decode cL_law 659 = .ok (.ireturn, 1) := by decide +kernel
theorem dL_law_660 : decode cL_law 660 = .ok (.aload_n 1, 1) := by decide +kernel
theorem dL_law_661 : decode cL_law 661 = .ok (.aload_n 0, 1) := by decide +kernel
theorem dL_law_662 : decode cL_law 662 = .ok (.iload_n 3, 1) := by decide +kernel
theorem dL_law_663 : decode cL_law 663 = .ok (.iconst 1, 1) := by decide +kernel
theorem dL_law_664 : decode cL_law 664 = .ok (.iadd, 1) := by decide +kernel
theorem dL_law_665 : decode cL_law 665 = .ok (.iaload, 1) := by decide +kernel
theorem dL_law_666 : decode cL_law 666 = .ok (.aload_n 0, 1) := by decide +kernel
theorem dL_law_667 : decode cL_law 667 = .ok (.iload_n 3, 1) := by decide +kernel
theorem dL_law_668 : decode cL_law 668 = .ok (.iconst 2, 1) := by decide +kernel
theorem dL_law_669 : decode cL_law 669 = .ok (.iadd, 1) := by decide +kernel
theorem dL_law_670 : decode cL_law 670 = .ok (.iaload, 1) := by decide +kernel
theorem dL_law_671 : decode cL_law 671 = .ok (.invokevirtual 82, 3) := by decide +kernel
theorem dL_law_674 : decode cL_law 674 = .ok (.aload_n 2, 1) := by decide +kernel
theorem dL_law_675 : decode cL_law 675 = .ok (.aload_n 0, 1) := by decide +kernel
theorem dL_law_676 : decode cL_law 676 = .ok (.iload_n 3, 1) := by decide +kernel
theorem dL_law_677 : decode cL_law 677 = .ok (.iconst 1, 1) := by decide +kernel
theorem dL_law_678 : decode cL_law 678 = .ok (.iadd, 1) := by decide +kernel
theorem dL_law_679 : decode cL_law 679 = .ok (.iaload, 1) := by decide +kernel
theorem dL_law_680 : decode cL_law 680 = .ok (.aload_n 0, 1) := by decide +kernel
theorem dL_law_681 : decode cL_law 681 = .ok (.iload_n 3, 1) := by decide +kernel
theorem dL_law_682 : decode cL_law 682 = .ok (.iconst 2, 1) := by decide +kernel
theorem dL_law_683 : decode cL_law 683 = .ok (.iadd, 1) := by decide +kernel
theorem dL_law_684 : decode cL_law 684 = .ok (.iaload, 1) := by decide +kernel
theorem dL_law_685 : decode cL_law 685 = .ok (.invokevirtual 85, 3) := by decide +kernel
theorem dL_law_688 : decode cL_law 688 = .ok (.if_icmp .eq 381, 3) := by decide +kernel
theorem dL_law_691 : decode cL_law 691 = .ok (.iconst 0, 1) := by decide +kernel
theorem dL_law_692 : decode cL_law 692 = .ok (.ireturn, 1) := by decide +kernel
theorem dL_law_693 : decode cL_law 693 = .ok (.aload_n 1, 1) := by decide +kernel
theorem dL_law_694 : decode cL_law 694 = .ok (.aload_n 0, 1) := by decide +kernel
theorem dL_law_695 : decode cL_law 695 = .ok (.iload_n 3, 1) := by decide +kernel
theorem dL_law_696 : decode cL_law 696 = .ok (.iconst 1, 1) := by decide +kernel
theorem dL_law_697 : decode cL_law 697 = .ok (.iadd, 1) := by decide +kernel
theorem dL_law_698 : decode cL_law 698 = .ok (.iaload, 1) := by decide +kernel
theorem dL_law_699 : decode cL_law 699 = .ok (.aload_n 0, 1) := by decide +kernel
theorem dL_law_700 : decode cL_law 700 = .ok (.iload_n 3, 1) := by decide +kernel
theorem dL_law_701 : decode cL_law 701 = .ok (.iconst 2, 1) := by decide +kernel
theorem dL_law_702 : decode cL_law 702 = .ok (.iadd, 1) := by decide +kernel
theorem dL_law_703 : decode cL_law 703 = .ok (.iaload, 1) := by decide +kernel
theorem dL_law_704 : decode cL_law 704 = .ok (.invokevirtual 86, 3) := by decide +kernel
theorem dL_law_707 : decode cL_law 707 = .ok (.aload_n 2, 1) := by decide +kernel
theorem dL_law_708 : decode cL_law 708 = .ok (.aload_n 0, 1) := by decide +kernel
theorem dL_law_709 : decode cL_law 709 = .ok (.iload_n 3, 1) := by decide +kernel
theorem dL_law_710 : decode cL_law 710 = .ok (.iconst 1, 1) := by decide +kernel
theorem dL_law_711 : decode cL_law 711 = .ok (.iadd, 1) := by decide +kernel
theorem dL_law_712 : decode cL_law 712 = .ok (.iaload, 1) := by decide +kernel
theorem dL_law_713 : decode cL_law 713 = .ok (.aload_n 0, 1) := by decide +kernel
theorem dL_law_714 : decode cL_law 714 = .ok (.iload_n 3, 1) := by decide +kernel
theorem dL_law_715 : decode cL_law 715 = .ok (.iconst 2, 1) := by decide +kernel
theorem dL_law_716 : decode cL_law 716 = .ok (.iadd, 1) := by decide +kernel
theorem dL_law_717 : decode cL_law 717 = .ok (.iaload, 1) := by decide +kernel
theorem dL_law_718 : decode cL_law 718 = .ok (.invokevirtual 89, 3) := by decide +kernel
theorem dL_law_721 : decode cL_law 721 = .ok (.if_icmp .eq 348, 3) := by decide +kernel
theorem dL_law_724 : decode cL_law 724 = .ok (.iconst 0, 1) := by decide +kernel
theorem dL_law_725 : decode cL_law 725 = .ok (.ireturn, 1) := by decide +kernel
theorem dL_law_726 : decode cL_law 726 = .ok (.aload_n 1, 1) := by decide +kernel
theorem dL_law_727 : decode cL_law 727 = .ok (.aload_n 0, 1) := by decide +kernel
theorem dL_law_728 : decode cL_law 728 = .ok (.iload_n 3, 1) := by decide +kernel
theorem dL_law_729 : decode cL_law 729 = .ok (.iconst 1, 1) := by decide +kernel
theorem dL_law_730 : decode cL_law 730 = .ok (.iadd, 1) := by decide +kernel
theorem dL_law_731 : decode cL_law 731 = .ok (.iaload, 1) := by decide +kernel
theorem dL_law_732 : decode cL_law 732 = .ok (.aload_n 0, 1) := by decide +kernel
theorem dL_law_733 : decode cL_law 733 = .ok (.iload_n 3, 1) := by decide +kernel
theorem dL_law_734 : decode cL_law 734 = .ok (.iconst 2, 1) := by decide +kernel
theorem dL_law_735 : decode cL_law 735 = .ok (.iadd, 1) := by decide +kernel
theorem dL_law_736 : decode cL_law 736 = .ok (.iaload, 1) := by decide +kernel
theorem dL_law_737 : decode cL_law 737 = .ok (.ifCond .eq 7, 3) := by decide +kernel
theorem dL_law_740 : decode cL_law 740 = .ok (.iconst 1, 1) := by decide +kernel
theorem dL_law_741 : decode cL_law 741 = .ok (.goto 4, 3) := by decide +kernel
theorem dL_law_744 : decode cL_law 744 = .ok (.iconst 0, 1) := by decide +kernel
theorem dL_law_745 : decode cL_law 745 = .ok (.invokevirtual 90, 3) := by decide +kernel
theorem dL_law_748 : decode cL_law 748 = .ok (.aload_n 2, 1) := by decide +kernel
theorem dL_law_749 : decode cL_law 749 = .ok (.aload_n 0, 1) := by decide +kernel
theorem dL_law_750 : decode cL_law 750 = .ok (.iload_n 3, 1) := by decide +kernel
theorem dL_law_751 : decode cL_law 751 = .ok (.iconst 1, 1) := by decide +kernel
theorem dL_law_752 : decode cL_law 752 = .ok (.iadd, 1) := by decide +kernel
theorem dL_law_753 : decode cL_law 753 = .ok (.iaload, 1) := by decide +kernel
theorem dL_law_754 : decode cL_law 754 = .ok (.aload_n 0, 1) := by decide +kernel
theorem dL_law_755 : decode cL_law 755 = .ok (.iload_n 3, 1) := by decide +kernel
theorem dL_law_756 : decode cL_law 756 = .ok (.iconst 2, 1) := by decide +kernel
theorem dL_law_757 : decode cL_law 757 = .ok (.iadd, 1) := by decide +kernel
theorem dL_law_758 : decode cL_law 758 = .ok (.iaload, 1) := by decide +kernel
theorem dL_law_759 : decode cL_law 759 = .ok (.ifCond .eq 7, 3) := by decide +kernel
theorem dL_law_762 : decode cL_law 762 = .ok (.iconst 1, 1) := by decide +kernel
theorem dL_law_763 : decode cL_law 763 = .ok (.goto 4, 3) := by decide +kernel
theorem dL_law_766 : decode cL_law 766 = .ok (.iconst 0, 1) := by decide +kernel
theorem dL_law_767 : decode cL_law 767 = .ok (.invokevirtual 94, 3) := by decide +kernel
theorem dL_law_770 : decode cL_law 770 = .ok (.if_icmp .eq 299, 3) := by decide +kernel
theorem dL_law_773 : decode cL_law 773 = .ok (.iconst 0, 1) := by decide +kernel
theorem dL_law_774 : decode cL_law 774 = .ok (.ireturn, 1) := by decide +kernel
theorem dL_law_775 : decode cL_law 775 = .ok (.aload_n 1, 1) := by decide +kernel
theorem dL_law_776 : decode cL_law 776 = .ok (.aload_n 0, 1) := by decide +kernel
theorem dL_law_777 : decode cL_law 777 = .ok (.iload_n 3, 1) := by decide +kernel
theorem dL_law_778 : decode cL_law 778 = .ok (.iconst 1, 1) := by decide +kernel
theorem dL_law_779 : decode cL_law 779 = .ok (.iadd, 1) := by decide +kernel
theorem dL_law_780 : decode cL_law 780 = .ok (.iaload, 1) := by decide +kernel
theorem dL_law_781 : decode cL_law 781 = .ok (.aload_n 0, 1) := by decide +kernel
theorem dL_law_782 : decode cL_law 782 = .ok (.iload_n 3, 1) := by decide +kernel
theorem dL_law_783 : decode cL_law 783 = .ok (.iconst 2, 1) := by decide +kernel
theorem dL_law_784 : decode cL_law 784 = .ok (.iadd, 1) := by decide +kernel
theorem dL_law_785 : decode cL_law 785 = .ok (.iaload, 1) := by decide +kernel
theorem dL_law_786 : decode cL_law 786 = .ok (.invokevirtual 95, 3) := by decide +kernel
theorem dL_law_789 : decode cL_law 789 = .ok (.aload_n 2, 1) := by decide +kernel
theorem dL_law_790 : decode cL_law 790 = .ok (.aload_n 0, 1) := by decide +kernel
theorem dL_law_791 : decode cL_law 791 = .ok (.iload_n 3, 1) := by decide +kernel
theorem dL_law_792 : decode cL_law 792 = .ok (.iconst 1, 1) := by decide +kernel
theorem dL_law_793 : decode cL_law 793 = .ok (.iadd, 1) := by decide +kernel
theorem dL_law_794 : decode cL_law 794 = .ok (.iaload, 1) := by decide +kernel
theorem dL_law_795 : decode cL_law 795 = .ok (.aload_n 0, 1) := by decide +kernel
theorem dL_law_796 : decode cL_law 796 = .ok (.iload_n 3, 1) := by decide +kernel
theorem dL_law_797 : decode cL_law 797 = .ok (.iconst 2, 1) := by decide +kernel
theorem dL_law_798 : decode cL_law 798 = .ok (.iadd, 1) := by decide +kernel
theorem dL_law_799 : decode cL_law 799 = .ok (.iaload, 1) := by decide +kernel
theorem dL_law_800 : decode cL_law 800 = .ok (.invokevirtual 98, 3) := by decide +kernel
theorem dL_law_803 : decode cL_law 803 = .ok (.if_icmp .eq 266, 3) := by decide +kernel
theorem dL_law_806 : decode cL_law 806 = .ok (.iconst 0, 1) := by decide +kernel
theorem dL_law_807 : decode cL_law 807 = .ok (.ireturn, 1) := by decide +kernel
theorem dL_law_808 : decode cL_law 808 = .ok (.aload_n 1, 1) := by decide +kernel
theorem dL_law_809 : decode cL_law 809 = .ok (.invokevirtual 99, 3) := by decide +kernel
theorem dL_law_812 : decode cL_law 812 = .ok (.aload_n 2, 1) := by decide +kernel
theorem dL_law_813 : decode cL_law 813 = .ok (.invokevirtual 102, 3) := by decide +kernel
theorem dL_law_816 : decode cL_law 816 = .ok (.if_icmp .eq 253, 3) := by decide +kernel
theorem dL_law_819 : decode cL_law 819 = .ok (.iconst 0, 1) := by decide +kernel
theorem dL_law_820 : decode cL_law 820 = .ok (.ireturn, 1) := by decide +kernel
theorem dL_law_821 : decode cL_law 821 = .ok (.aload_n 1, 1) := by decide +kernel
theorem dL_law_822 : decode cL_law 822 = .ok (.aload_n 0, 1) := by decide +kernel
theorem dL_law_823 : decode cL_law 823 = .ok (.iload_n 3, 1) := by decide +kernel
theorem dL_law_824 : decode cL_law 824 = .ok (.iconst 1, 1) := by decide +kernel
theorem dL_law_825 : decode cL_law 825 = .ok (.iadd, 1) := by decide +kernel
theorem dL_law_826 : decode cL_law 826 = .ok (.iaload, 1) := by decide +kernel
theorem dL_law_827 : decode cL_law 827 = .ok (.invokevirtual 103, 3) := by decide +kernel
theorem dL_law_830 : decode cL_law 830 = .ok (.aload_n 2, 1) := by decide +kernel
theorem dL_law_831 : decode cL_law 831 = .ok (.aload_n 0, 1) := by decide +kernel
theorem dL_law_832 : decode cL_law 832 = .ok (.iload_n 3, 1) := by decide +kernel
theorem dL_law_833 : decode cL_law 833 = .ok (.iconst 1, 1) := by decide +kernel
theorem dL_law_834 : decode cL_law 834 = .ok (.iadd, 1) := by decide +kernel
theorem dL_law_835 : decode cL_law 835 = .ok (.iaload, 1) := by decide +kernel
theorem dL_law_836 : decode cL_law 836 = .ok (.invokevirtual 106, 3) := by decide +kernel
theorem dL_law_839 : decode cL_law 839 = .ok (.if_icmp .eq 230, 3) := by decide +kernel
theorem dL_law_842 : decode cL_law 842 = .ok (.iconst 0, 1) := by decide +kernel
theorem dL_law_843 : decode cL_law 843 = .ok (.ireturn, 1) := by decide +kernel
theorem dL_law_844 : decode cL_law 844 = .ok (.aload_n 1, 1) := by decide +kernel
theorem dL_law_845 : decode cL_law 845 = .ok (.aload_n 0, 1) := by decide +kernel
theorem dL_law_846 : decode cL_law 846 = .ok (.iload_n 3, 1) := by decide +kernel
theorem dL_law_847 : decode cL_law 847 = .ok (.iconst 1, 1) := by decide +kernel
theorem dL_law_848 : decode cL_law 848 = .ok (.iadd, 1) := by decide +kernel
theorem dL_law_849 : decode cL_law 849 = .ok (.iaload, 1) := by decide +kernel
theorem dL_law_850 : decode cL_law 850 = .ok (.invokevirtual 107, 3) := by decide +kernel
theorem dL_law_853 : decode cL_law 853 = .ok (.aload_n 2, 1) := by decide +kernel
theorem dL_law_854 : decode cL_law 854 = .ok (.aload_n 0, 1) := by decide +kernel
theorem dL_law_855 : decode cL_law 855 = .ok (.iload_n 3, 1) := by decide +kernel
theorem dL_law_856 : decode cL_law 856 = .ok (.iconst 1, 1) := by decide +kernel
theorem dL_law_857 : decode cL_law 857 = .ok (.iadd, 1) := by decide +kernel
theorem dL_law_858 : decode cL_law 858 = .ok (.iaload, 1) := by decide +kernel
theorem dL_law_859 : decode cL_law 859 = .ok (.invokevirtual 110, 3) := by decide +kernel
theorem dL_law_862 : decode cL_law 862 = .ok (.if_icmp .eq 207, 3) := by decide +kernel
theorem dL_law_865 : decode cL_law 865 = .ok (.iconst 0, 1) := by decide +kernel
theorem dL_law_866 : decode cL_law 866 = .ok (.ireturn, 1) := by decide +kernel
theorem dL_law_867 : decode cL_law 867 = .ok (.aload_n 1, 1) := by decide +kernel
theorem dL_law_868 : decode cL_law 868 = .ok (.aload_n 0, 1) := by decide +kernel
theorem dL_law_869 : decode cL_law 869 = .ok (.iload_n 3, 1) := by decide +kernel
theorem dL_law_870 : decode cL_law 870 = .ok (.iconst 1, 1) := by decide +kernel
theorem dL_law_871 : decode cL_law 871 = .ok (.iadd, 1) := by decide +kernel
theorem dL_law_872 : decode cL_law 872 = .ok (.iaload, 1) := by decide +kernel
theorem dL_law_873 : decode cL_law 873 = .ok (.aload_n 0, 1) := by decide +kernel
theorem dL_law_874 : decode cL_law 874 = .ok (.iload_n 3, 1) := by decide +kernel
theorem dL_law_875 : decode cL_law 875 = .ok (.iconst 2, 1) := by decide +kernel
theorem dL_law_876 : decode cL_law 876 = .ok (.iadd, 1) := by decide +kernel
theorem dL_law_877 : decode cL_law 877 = .ok (.iaload, 1) := by decide +kernel
theorem dL_law_878 : decode cL_law 878 = .ok (.aload_n 0, 1) := by decide +kernel
theorem dL_law_879 : decode cL_law 879 = .ok (.iload_n 3, 1) := by decide +kernel
theorem dL_law_880 : decode cL_law 880 = .ok (.iconst 3, 1) := by decide +kernel
theorem dL_law_881 : decode cL_law 881 = .ok (.iadd, 1) := by decide +kernel
theorem dL_law_882 : decode cL_law 882 = .ok (.iaload, 1) := by decide +kernel
theorem dL_law_883 : decode cL_law 883 = .ok (.aload_n 0, 1) := by decide +kernel
theorem dL_law_884 : decode cL_law 884 = .ok (.iload_n 3, 1) := by decide +kernel
theorem dL_law_885 : decode cL_law 885 = .ok (.iconst 4, 1) := by decide +kernel
theorem dL_law_886 : decode cL_law 886 = .ok (.iadd, 1) := by decide +kernel
theorem dL_law_887 : decode cL_law 887 = .ok (.iaload, 1) := by decide +kernel
theorem dL_law_888 : decode cL_law 888 = .ok (.aload_n 0, 1) := by decide +kernel
theorem dL_law_889 : decode cL_law 889 = .ok (.iload_n 3, 1) := by decide +kernel
theorem dL_law_890 : decode cL_law 890 = .ok (.iconst 5, 1) := by decide +kernel
theorem dL_law_891 : decode cL_law 891 = .ok (.iadd, 1) := by decide +kernel
theorem dL_law_892 : decode cL_law 892 = .ok (.iaload, 1) := by decide +kernel
theorem dL_law_893 : decode cL_law 893 = .ok (.ifCond .eq 7, 3) := by decide +kernel
theorem dL_law_896 : decode cL_law 896 = .ok (.iconst 1, 1) := by decide +kernel
theorem dL_law_897 : decode cL_law 897 = .ok (.goto 4, 3) := by decide +kernel
theorem dL_law_900 : decode cL_law 900 = .ok (.iconst 0, 1) := by decide +kernel
theorem dL_law_901 : decode cL_law 901 = .ok (.invokevirtual 111, 3) := by decide +kernel
theorem dL_law_904 : decode cL_law 904 = .ok (.aload_n 2, 1) := by decide +kernel
theorem dL_law_905 : decode cL_law 905 = .ok (.aload_n 0, 1) := by decide +kernel
theorem dL_law_906 : decode cL_law 906 = .ok (.iload_n 3, 1) := by decide +kernel
theorem dL_law_907 : decode cL_law 907 = .ok (.iconst 1, 1) := by decide +kernel
theorem dL_law_908 : decode cL_law 908 = .ok (.iadd, 1) := by decide +kernel
theorem dL_law_909 : decode cL_law 909 = .ok (.iaload, 1) := by decide +kernel
theorem dL_law_910 : decode cL_law 910 = .ok (.aload_n 0, 1) := by decide +kernel
theorem dL_law_911 : decode cL_law 911 = .ok (.iload_n 3, 1) := by decide +kernel
theorem dL_law_912 : decode cL_law 912 = .ok (.iconst 2, 1) := by decide +kernel
theorem dL_law_913 : decode cL_law 913 = .ok (.iadd, 1) := by decide +kernel
theorem dL_law_914 : decode cL_law 914 = .ok (.iaload, 1) := by decide +kernel
theorem dL_law_915 : decode cL_law 915 = .ok (.aload_n 0, 1) := by decide +kernel
theorem dL_law_916 : decode cL_law 916 = .ok (.iload_n 3, 1) := by decide +kernel
theorem dL_law_917 : decode cL_law 917 = .ok (.iconst 3, 1) := by decide +kernel
theorem dL_law_918 : decode cL_law 918 = .ok (.iadd, 1) := by decide +kernel
theorem dL_law_919 : decode cL_law 919 = .ok (.iaload, 1) := by decide +kernel
theorem dL_law_920 : decode cL_law 920 = .ok (.aload_n 0, 1) := by decide +kernel
theorem dL_law_921 : decode cL_law 921 = .ok (.iload_n 3, 1) := by decide +kernel
theorem dL_law_922 : decode cL_law 922 = .ok (.iconst 4, 1) := by decide +kernel
theorem dL_law_923 : decode cL_law 923 = .ok (.iadd, 1) := by decide +kernel
theorem dL_law_924 : decode cL_law 924 = .ok (.iaload, 1) := by decide +kernel
theorem dL_law_925 : decode cL_law 925 = .ok (.aload_n 0, 1) := by decide +kernel
theorem dL_law_926 : decode cL_law 926 = .ok (.iload_n 3, 1) := by decide +kernel
theorem dL_law_927 : decode cL_law 927 = .ok (.iconst 5, 1) := by decide +kernel
theorem dL_law_928 : decode cL_law 928 = .ok (.iadd, 1) := by decide +kernel
theorem dL_law_929 : decode cL_law 929 = .ok (.iaload, 1) := by decide +kernel
theorem dL_law_930 : decode cL_law 930 = .ok (.ifCond .eq 7, 3) := by decide +kernel
theorem dL_law_933 : decode cL_law 933 = .ok (.iconst 1, 1) := by decide +kernel
theorem dL_law_934 : decode cL_law 934 = .ok (.goto 4, 3) := by decide +kernel
theorem dL_law_937 : decode cL_law 937 = .ok (.iconst 0, 1) := by decide +kernel
theorem dL_law_938 : decode cL_law 938 = .ok (.invokevirtual 115, 3) := by decide +kernel
theorem dL_law_941 : decode cL_law 941 = .ok (.if_icmp .eq 128, 3) := by decide +kernel
theorem dL_law_944 : decode cL_law 944 = .ok (.iconst 0, 1) := by decide +kernel
theorem dL_law_945 : decode cL_law 945 = .ok (.ireturn, 1) := by decide +kernel
theorem dL_law_946 : decode cL_law 946 = .ok (.aload_n 1, 1) := by decide +kernel
theorem dL_law_947 : decode cL_law 947 = .ok (.aload_n 0, 1) := by decide +kernel
theorem dL_law_948 : decode cL_law 948 = .ok (.iload_n 3, 1) := by decide +kernel
theorem dL_law_949 : decode cL_law 949 = .ok (.iconst 1, 1) := by decide +kernel
theorem dL_law_950 : decode cL_law 950 = .ok (.iadd, 1) := by decide +kernel
theorem dL_law_951 : decode cL_law 951 = .ok (.iaload, 1) := by decide +kernel
theorem dL_law_952 : decode cL_law 952 = .ok (.i2l, 1) := by decide +kernel
theorem dL_law_953 : decode cL_law 953 = .ok (.bipush 32, 2) := by decide +kernel
theorem dL_law_955 : decode cL_law 955 = .ok (.lshl, 1) := by decide +kernel
theorem dL_law_956 : decode cL_law 956 = .ok (.aload_n 0, 1) := by decide +kernel
theorem dL_law_957 : decode cL_law 957 = .ok (.iload_n 3, 1) := by decide +kernel
theorem dL_law_958 : decode cL_law 958 = .ok (.iconst 2, 1) := by decide +kernel
theorem dL_law_959 : decode cL_law 959 = .ok (.iadd, 1) := by decide +kernel
theorem dL_law_960 : decode cL_law 960 = .ok (.iaload, 1) := by decide +kernel
theorem dL_law_961 : decode cL_law 961 = .ok (.i2l, 1) := by decide +kernel
theorem dL_law_962 : decode cL_law 962 = .ok (.ldc2_w 116, 3) := by decide +kernel
theorem dL_law_965 : decode cL_law 965 = .ok (.land, 1) := by decide +kernel
theorem dL_law_966 : decode cL_law 966 = .ok (.lor, 1) := by decide +kernel
theorem dL_law_967 : decode cL_law 967 = .ok (.invokevirtual 118, 3) := by decide +kernel
theorem dL_law_970 : decode cL_law 970 = .ok (.aload_n 2, 1) := by decide +kernel
theorem dL_law_971 : decode cL_law 971 = .ok (.aload_n 0, 1) := by decide +kernel
theorem dL_law_972 : decode cL_law 972 = .ok (.iload_n 3, 1) := by decide +kernel
theorem dL_law_973 : decode cL_law 973 = .ok (.iconst 1, 1) := by decide +kernel
theorem dL_law_974 : decode cL_law 974 = .ok (.iadd, 1) := by decide +kernel
theorem dL_law_975 : decode cL_law 975 = .ok (.iaload, 1) := by decide +kernel
theorem dL_law_976 : decode cL_law 976 = .ok (.i2l, 1) := by decide +kernel
theorem dL_law_977 : decode cL_law 977 = .ok (.bipush 32, 2) := by decide +kernel
theorem dL_law_979 : decode cL_law 979 = .ok (.lshl, 1) := by decide +kernel
theorem dL_law_980 : decode cL_law 980 = .ok (.aload_n 0, 1) := by decide +kernel
theorem dL_law_981 : decode cL_law 981 = .ok (.iload_n 3, 1) := by decide +kernel
theorem dL_law_982 : decode cL_law 982 = .ok (.iconst 2, 1) := by decide +kernel
theorem dL_law_983 : decode cL_law 983 = .ok (.iadd, 1) := by decide +kernel
theorem dL_law_984 : decode cL_law 984 = .ok (.iaload, 1) := by decide +kernel
theorem dL_law_985 : decode cL_law 985 = .ok (.i2l, 1) := by decide +kernel
theorem dL_law_986 : decode cL_law 986 = .ok (.ldc2_w 116, 3) := by decide +kernel
theorem dL_law_989 : decode cL_law 989 = .ok (.land, 1) := by decide +kernel
theorem dL_law_990 : decode cL_law 990 = .ok (.lor, 1) := by decide +kernel
theorem dL_law_991 : decode cL_law 991 = .ok (.invokevirtual 122, 3) := by decide +kernel
theorem dL_law_994 : decode cL_law 994 = .ok (.lcmp, 1) := by decide +kernel
theorem dL_law_995 : decode cL_law 995 = .ok (.ifCond .eq 74, 3) := by decide +kernel
theorem dL_law_998 : decode cL_law 998 = .ok (.iconst 0, 1) := by decide +kernel
theorem dL_law_999 : decode cL_law 999 = .ok (.ireturn, 1) := by decide +kernel
theorem dL_law_1000 : decode cL_law 1000 = .ok (.aload_n 1, 1) := by decide +kernel
theorem dL_law_1001 : decode cL_law 1001 = .ok (.aload_n 0, 1) := by decide +kernel
theorem dL_law_1002 : decode cL_law 1002 = .ok (.iload_n 3, 1) := by decide +kernel
theorem dL_law_1003 : decode cL_law 1003 = .ok (.iconst 1, 1) := by decide +kernel
theorem dL_law_1004 : decode cL_law 1004 = .ok (.iadd, 1) := by decide +kernel
theorem dL_law_1005 : decode cL_law 1005 = .ok (.iaload, 1) := by decide +kernel
theorem dL_law_1006 : decode cL_law 1006 = .ok (.invokevirtual 123, 3) := by decide +kernel
theorem dL_law_1009 : decode cL_law 1009 = .ok (.aload_n 2, 1) := by decide +kernel
theorem dL_law_1010 : decode cL_law 1010 = .ok (.aload_n 0, 1) := by decide +kernel
theorem dL_law_1011 : decode cL_law 1011 = .ok (.iload_n 3, 1) := by decide +kernel
theorem dL_law_1012 : decode cL_law 1012 = .ok (.iconst 1, 1) := by decide +kernel
theorem dL_law_1013 : decode cL_law 1013 = .ok (.iadd, 1) := by decide +kernel
theorem dL_law_1014 : decode cL_law 1014 = .ok (.iaload, 1) := by decide +kernel
theorem dL_law_1015 : decode cL_law 1015 = .ok (.invokevirtual 126, 3) := by decide +kernel
theorem dL_law_1018 : decode cL_law 1018 = .ok (.if_icmp .eq 51, 3) := by decide +kernel
theorem dL_law_1021 : decode cL_law 1021 = .ok (.iconst 0, 1) := by decide +kernel
theorem dL_law_1022 : decode cL_law 1022 = .ok (.ireturn, 1) := by decide +kernel
theorem dL_law_1023 : decode cL_law 1023 = .ok (.aload_n 1, 1) := by decide +kernel
theorem dL_law_1024 : decode cL_law 1024 = .ok (.aload_n 0, 1) := by decide +kernel
theorem dL_law_1025 : decode cL_law 1025 = .ok (.iload_n 3, 1) := by decide +kernel
theorem dL_law_1026 : decode cL_law 1026 = .ok (.iconst 1, 1) := by decide +kernel
theorem dL_law_1027 : decode cL_law 1027 = .ok (.iadd, 1) := by decide +kernel
theorem dL_law_1028 : decode cL_law 1028 = .ok (.iaload, 1) := by decide +kernel
theorem dL_law_1029 : decode cL_law 1029 = .ok (.invokevirtual 127, 3) := by decide +kernel
theorem dL_law_1032 : decode cL_law 1032 = .ok (.aload_n 2, 1) := by decide +kernel
theorem dL_law_1033 : decode cL_law 1033 = .ok (.aload_n 0, 1) := by decide +kernel
theorem dL_law_1034 : decode cL_law 1034 = .ok (.iload_n 3, 1) := by decide +kernel
theorem dL_law_1035 : decode cL_law 1035 = .ok (.iconst 1, 1) := by decide +kernel
theorem dL_law_1036 : decode cL_law 1036 = .ok (.iadd, 1) := by decide +kernel
theorem dL_law_1037 : decode cL_law 1037 = .ok (.iaload, 1) := by decide +kernel
theorem dL_law_1038 : decode cL_law 1038 = .ok (.invokevirtual 130, 3) := by decide +kernel
theorem dL_law_1041 : decode cL_law 1041 = .ok (.if_icmp .eq 28, 3) := by decide +kernel
theorem dL_law_1044 : decode cL_law 1044 = .ok (.iconst 0, 1) := by decide +kernel
theorem dL_law_1045 : decode cL_law 1045 = .ok (.ireturn, 1) := by decide +kernel
theorem dL_law_1046 : decode cL_law 1046 = .ok (.aload_n 1, 1) := by decide +kernel
theorem dL_law_1047 : decode cL_law 1047 = .ok (.aload_n 0, 1) := by decide +kernel
theorem dL_law_1048 : decode cL_law 1048 = .ok (.iload_n 3, 1) := by decide +kernel
theorem dL_law_1049 : decode cL_law 1049 = .ok (.iconst 1, 1) := by decide +kernel
theorem dL_law_1050 : decode cL_law 1050 = .ok (.iadd, 1) := by decide +kernel
theorem dL_law_1051 : decode cL_law 1051 = .ok (.iaload, 1) := by decide +kernel
theorem dL_law_1052 : decode cL_law 1052 = .ok (.invokevirtual 131, 3) := by decide +kernel
theorem dL_law_1055 : decode cL_law 1055 = .ok (.aload_n 2, 1) := by decide +kernel
theorem dL_law_1056 : decode cL_law 1056 = .ok (.aload_n 0, 1) := by decide +kernel
theorem dL_law_1057 : decode cL_law 1057 = .ok (.iload_n 3, 1) := by decide +kernel
theorem dL_law_1058 : decode cL_law 1058 = .ok (.iconst 1, 1) := by decide +kernel
theorem dL_law_1059 : decode cL_law 1059 = .ok (.iadd, 1) := by decide +kernel
theorem dL_law_1060 : decode cL_law 1060 = .ok (.iaload, 1) := by decide +kernel
theorem dL_law_1061 : decode cL_law 1061 = .ok (.invokevirtual 134, 3) := by decide +kernel
theorem dL_law_1064 : decode cL_law 1064 = .ok (.if_icmp .eq 5, 3) := by decide +kernel
theorem dL_law_1067 : decode cL_law 1067 = .ok (.iconst 0, 1) := by decide +kernel
theorem dL_law_1068 : decode cL_law 1068 = .ok (.ireturn, 1) := by decide +kernel
theorem dL_law_1069 : decode cL_law 1069 = .ok (.iinc 3 6, 3) := by decide +kernel
theorem dL_law_1072 : decode cL_law 1072 = .ok (.goto (-1054), 3) := by decide +kernel
theorem dL_law_1075 : decode cL_law 1075 = .ok (.iconst 1, 1) := by decide +kernel
theorem dL_law_1076 : decode cL_law 1076 = .ok (.ireturn, 1) := by decide +kernel
end
section
/-! my own rows over the kit: contracts that leave the heap (RO), and that change cells and make none (MU) -/
def mNest : List Cond := [.methodLinkNest RX7 9 yX5_init RX7, .methodLinkNest RX7 12 yX6_init RX7, .methodLinkNest RX7 37 yX0_init RX7, .methodLinkNest RX7 53 yX3_init RX7, .methodLinkNest RX1 57 yX7_contains RX7, .methodLinkNest RX1 108 yX7_factorial RX7, .fieldLinkNest RX4 20 RX1 "cells" "LKnowsBetter$Row;" RX7]
def mE (D : va_G) (cI cZ : ClassId) (U : State) : Prop := va_K D vwCl [(cI, .int), (cZ, .boolean)] U ∧ ∀ w ∈ mNest, va_Nw w U
theorem mE.warm {D : va_G} {cI cZ : ClassId} {s U : State} (h : mE D cI cZ s) (hW : s.WarmedH U.vm) : mE D cI cZ U := by
  refine ⟨va_K.moved hW.alike h.1, ?_⟩
  have h2 := h.2
  unfold mNest at h2 ⊢
  simp only [List.forall_mem_cons] at h2 ⊢
  obtain ⟨a1, a2, a3, a4, a5, a6, a7, -⟩ := h2
  exact ⟨va_Nw.warmM hW a1, va_Nw.warmM hW a2, va_Nw.warmM hW a3, va_Nw.warmM hW a4, va_Nw.warmM hW a5, va_Nw.warmM hW a6, va_Nw.warmF hW a7, fun _ h => absurd h List.not_mem_nil⟩
theorem mNest_tab : ∀ w ∈ mNest, w.onTables = true := by
  unfold mNest
  simp only [List.forall_mem_cons]
  exact ⟨rfl, rfl, rfl, rfl, rfl, rfl, rfl, fun _ h => absurd h List.not_mem_nil⟩
theorem mE.call {D : va_G} {cI cZ : ClassId} {U : State} (h : mE D cI cZ U) (g : JFrame) (mk : MethodId) (a : Array Value) : mE D cI cZ (U.calling g mk a) :=
  ⟨va_K.moved (u := U) (U := U.calling g mk a) (Vm.Alike.refl U.vm) h.1, fun w hw => va_Nw.same (mNest_tab w hw) (rfl : U.vm = (U.calling g mk a).vm) (h.2 w hw)⟩
def mQR (o : Option Value) : Array Value → State → Outcome → State → Prop := fun _ st oc t => oc = .returned o ∧ t.heap = st.heap
def mA (ws : va_W) : Nat → Prop := fun q => ∃ (k : Nat) (e : va_E), ws[k]? = some (q, e)
def mQM (D : va_G) (A : Nat → Prop) (ws' : va_W) (o : Option Value) : Array Value → State → Outcome → State → Prop := fun _ st oc t => oc = .returned o ∧ va_P D vwCl ws' t.heap ∧ va_F A st t
def mPR (D : va_G) (cI cZ : ClassId) (As : List Value) (ws : va_W) : Array Value → State → Prop := va_Pc As (fun U => va_P D vwCl ws U.heap ∧ mE D cI cZ U)
def mPM (D : va_G) (cI cZ : ClassId) (As : List Value) (ws : va_W) : Array Value → State → Prop := va_Pc As (fun U => va_P D vwCl ws U.heap ∧ mE D cI cZ U ∧ va_D (fun _ => True) ws)
theorem mPR_blind {D : va_G} {cI cZ : ClassId} {As : List Value} {ws : va_W} : FrameBlind (mPR D cI cZ As ws) := fun a U g mk h => ⟨h.1, h.2.1, h.2.2.call g mk a⟩
theorem mPM_blind {D : va_G} {cI cZ : ClassId} {As : List Value} {ws : va_W} : FrameBlind (mPM D cI cZ As ws) := fun a U g mk h => ⟨h.1, h.2.1, h.2.2.1.call g mk a, h.2.2.2⟩
abbrev mR (f n : Nat) : Room := ({ frames := f, cells := 0, slots := 0, locals := n } : Room)
abbrev mWS (y : MethodName) (code : ByteArray) (nL : Nat) (ret : Option FieldType) : List Cond := Cond.code y code nL ret :: mBG
def RO (l : Launch) (D : va_G) (cI cZ : ClassId) (y : MethodName) (code : ByteArray) (nL : Nat) (ret : Option FieldType) (rm : Room) (As : List Value) (ws : va_W) (o : Option Value) : Prop := Met l y (mWS y code nL ret) rm (mPR D cI cZ As ws) (mQR o) 0 0 (fun _ => False)
def MU (l : Launch) (D : va_G) (cI cZ : ClassId) (y : MethodName) (code : ByteArray) (nL : Nat) (ret : Option FieldType) (rm : Room) (As : List Value) (ws ws' : va_W) (o : Option Value) : Prop := Met l y (mWS y code nL ret) rm (mPM D cI cZ As ws) (mQM D (mA ws) ws' o) 0 0 (mA ws)
theorem RO.of {l : Launch} {D : va_G} {cI cZ : ClassId} {y : MethodName} {code : ByteArray} {nL : Nat} {ret : Option FieldType} {rm : Room} {As : List Value} {ws : va_W} {o : Option Value} (hy : plainName y.cls = true) (hlen : (lg_sl As).length ≤ nL)
    (body : ∀ (p : Program) (e : Env) (s : State) (m : MethodId) (args : Array Value) (below : List Frame) (meth : Method) (c : Code) (ls : Array Slot) (Q : State → Prop), CallFix p m c code nL s args (mWS y code nL ret) y.cls → meth.sig.returnType = ret → meth.locks = false → va_P D vwCl ws s.heap → mE D cI cZ s → MQ below (mQR o) args s 0 0 (fun _ => False) = Q → lv_has ls nL (lv_args 0 As) →
      W p l e rm s m args below meth c s.heap [] 0 0 Q (F0 m 0 ls [])) : RO l D cI cZ y code nL ret rm As ws o := by
  refine Met.ofW (cc := code) (maxL := nL) (ret := ret) hy rfl ?_
  intro p e s m args below meth c s₁ B hml hv
  obtain ⟨rfl, hP, hE⟩ := hv
  rw [lg_entry_eq]
  exact body p e s m _ below meth c _ _ ⟨B.exec, B.bytes, hml, findClass_of_methodNamed B.named, atoms_spec (ws := mWS y code nL ret) B.pre⟩ B.returns B.notSynchronized hP hE rfl (lv_entry As hlen)
theorem MU.of {l : Launch} {D : va_G} {cI cZ : ClassId} {y : MethodName} {code : ByteArray} {nL : Nat} {ret : Option FieldType} {rm : Room} {As : List Value} {ws ws' : va_W} {o : Option Value} (hy : plainName y.cls = true) (hlen : (lg_sl As).length ≤ nL)
    (body : ∀ (p : Program) (e : Env) (s : State) (m : MethodId) (args : Array Value) (below : List Frame) (meth : Method) (c : Code) (ls : Array Slot) (Q : State → Prop) (A : Nat → Prop), CallFix p m c code nL s args (mWS y code nL ret) y.cls → meth.sig.returnType = ret → meth.locks = false → va_P D vwCl ws s.heap → mE D cI cZ s → va_D A ws → va_S A s.heap s.heap [] → MQ below (mQM D A ws' o) args s 0 0 A = Q → lv_has ls nL (lv_args 0 As) →
      W p l e rm s m args below meth c s.heap [] 0 0 Q (F0 m 0 ls [])) : MU l D cI cZ y code nL ret rm As ws ws' o := by
  refine Met.ofW (cc := code) (maxL := nL) (ret := ret) hy rfl ?_
  intro p e s m args below meth c s₁ B hml hv
  obtain ⟨rfl, hP, hE, hD⟩ := hv
  rw [lg_entry_eq]
  exact body p e s m _ below meth c _ _ (mA ws) ⟨B.exec, B.bytes, hml, findClass_of_methodNamed B.named, atoms_spec (ws := mWS y code nL ret) B.pre⟩ B.returns B.notSynchronized hP hE ⟨hD.1, fun k q h => ⟨k, q.2, h⟩⟩ va_S.rf rfl (lv_entry As hlen)
theorem lwg : GoodIn mBG mBG := fun _ hw => ⟨hw, good_of_word (List.mem_filter.mp hw).2⟩
theorem mGood {c0 c : Cond} (h : c ∈ mBG) : GoodIn (c0 :: mBG) (c :: mBG) := fun w hw => by
  have hw2 : w ∈ mBG := by
    rcases List.mem_cons.mp hw with h1 | h2
    · rw [h1]; exact h
    · exact h2
  exact ⟨List.mem_cons_of_mem _ hw2, (lwg w hw2).2⟩
/-- what a call's row needs of the words: link, code, the callee's class -/
def mLk (own : String) (idx : Nat) (y : MethodName) (code : ByteArray) (nL : Nat) (ret : Option FieldType) (n : Nat) : Prop :=
  Cond.methodLink own idx y ∈ mBG ∧ Cond.initialized y.cls ∈ mBG ∧ Cond.code y code nL ret ∈ mBG ∧ (y.cls ≠ "java/lang/invoke/MethodHandle" ∧ y.cls ≠ "java/lang/invoke/VarHandle" ∧ (parseMethodDescriptor y.desc).map (fun d => d.parameters.length) = some n)
def mLkV (own : String) (idx : Nat) (y : MethodName) (code : ByteArray) (nL : Nat) (ret : Option FieldType) (n : Nat) : Prop :=
  mLk own idx y code nL ret n ∧ Cond.instanceMethod y ∈ mBG ∧ Cond.selects y.cls y y ∈ mBG
def mLkS (own : String) (idx : Nat) (y : MethodName) (code : ByteArray) (nL : Nat) (ret : Option FieldType) (n : Nat) : Prop :=
  mLk own idx y code nL ret n ∧ Cond.static y ∈ mBG
/-- the same for a nest mate's private static one -/
def mLkN (own : String) (idx : Nat) (y : MethodName) (host : String) (code : ByteArray) (nL : Nat) (ret : Option FieldType) (n : Nat) : Prop :=
  Cond.methodLinkNest own idx y host ∈ mNest ∧ Cond.initialized y.cls ∈ mBG ∧ Cond.code y code nL ret ∈ mBG ∧ (y.cls ≠ "java/lang/invoke/MethodHandle" ∧ y.cls ≠ "java/lang/invoke/VarHandle" ∧ (parseMethodDescriptor y.desc).map (fun d => d.parameters.length) = some n) ∧ Cond.static y ∈ mBG
def mFit (R rm : Room) (nL : Nat) : Prop := rm.frames + 1 ≤ R.frames ∧ 8 + (nL + 11) + rm.locals ≤ R.locals ∧ rm.cells = 0 ∧ rm.slots = 0
def mUpd : va_W → List Nat → va_W → va_W
  | ws, i :: is, c :: cs => mUpd (ws.set i c) is cs
  | ws, _, _ => ws
theorem mUpd_get : ∀ (is : List Nat) (cs ws : va_W) (k : Nat) (q : Nat × va_E), is.length ≤ cs.length → (mUpd ws is cs)[k]? = some q → (∃ j : Nat, cs[j]? = some q) ∨ (k ∉ is ∧ ws[k]? = some q)
  | [], cs, ws, k, q, _, h => Or.inr ⟨List.not_mem_nil, by cases cs <;> exact h⟩
  | i :: is, [], ws, k, q, hl, h => absurd hl (by simp)
  | i :: is, c :: cs, ws, k, q, hl, h => by
    have h' : (mUpd (ws.set i c) is cs)[k]? = some q := h
    rcases mUpd_get is cs (ws.set i c) k q (by simpa using hl) h' with ⟨j, h1⟩ | ⟨h1, h2⟩
    · exact Or.inl ⟨j + 1, h1⟩
    · by_cases e : k = i
      · subst e
        rw [List.getElem?_set] at h2
        rw [if_pos rfl] at h2
        by_cases hlt : k < ws.length
        · rw [if_pos hlt] at h2
          exact Or.inl ⟨0, h2⟩
        · rw [if_neg hlt] at h2
          cases h2
      · rw [List.getElem?_set, if_neg (fun z => e z.symm)] at h2
        exact Or.inr ⟨fun z => (List.mem_cons.mp z).elim e h1, h2⟩
theorem va_D.fst {A : Nat → Prop} {ws ws' : va_W} (h : va_D A ws) (e : ws'.map (·.1) = ws.map (·.1)) : va_D A ws' := by
  have tr : ∀ (k : Nat) (q : Nat × va_E), ws'[k]? = some q → ∃ x : va_E, ws[k]? = some (q.1, x) := by
    intro k q hq
    have h1 : (ws'.map (·.1))[k]? = some q.1 := by rw [List.getElem?_map, hq]; rfl
    rw [e, List.getElem?_map] at h1
    cases hw : ws[k]? with
    | none => rw [hw] at h1; cases h1
    | some z => rw [hw] at h1; exact ⟨z.2, by rw [← Option.some.inj h1]⟩
  refine ⟨fun i j p q hp hq hpq => ?_, fun k q hq => ?_⟩
  · obtain ⟨x, hx⟩ := tr i p hp
    obtain ⟨y, hy⟩ := tr j q hq
    exact h.1 i j _ _ hx hy hpq
  · obtain ⟨x, hx⟩ := tr k q hq
    exact h.2 k (q.1, x) hx
section MYR
variable {p : Program} {l : Launch} {e : Env} {R : Room} {s : State} {m : MethodId} {args : Array Value} {below : List Frame} {meth : Method} {c : Code} {H H0 : Heap} {locs : List Loc} {cells slots : Nat} {Q : State → Prop} {cc : ByteArray} {nL : Nat} {c0 : Cond} {own : String} {D : va_G} {cI cZ : ClassId} {y : MethodName} {code : ByteArray} {nL2 n idx : Nat} {ret : Option FieldType} {rm : Room} {As rest st0 : List Value} {ws wc wc' ws' ws1 : va_W} {o : Option Value} {A : Nat → Prop} {ls : Array Slot} {pc : Nat} {b : Addr} {a : Array Value}
theorem ro_fin (hr : CallRun p l e R s m args below meth c H locs cells slots 0 0 (F0 m pc ls st0) rest (mQR o a) (fun _ => False)) (kk : W p l e R s m args below meth c H locs cells slots Q (F0 m (pc + 3) ls (o.toList ++ rest))) : W p l e R s m args below meth c H locs cells slots Q (F0 m pc ls st0) := by
  intro T hT X
  obtain ⟨v, st₀, t, T', L, h0, X', hL, e1, ⟨hv, hh⟩, st⟩ := hr T hT X
  cases hv
  obtain ⟨t2, a1, b1⟩ := kk T' (by rw [e1, hh, h0]) (Stand.forget X' (fun q h => (hL q h).elim))
  exact ⟨t2, st t2 a1, b1⟩
theorem mu_fin (hr : CallRun p l e R s m args below meth c H locs cells slots 0 0 (F0 m pc ls st0) rest (mQM D (mA wc) wc' o a) (mA wc)) (hP : va_P D vwCl ws H) (hD : va_D A ws) (hS : va_S A H0 H locs) (is : List Nat) (hC : is.map (fun i => ws[i]?) = wc.map some) (hlen : is.length ≤ wc'.length) (hU : mUpd ws is wc' = ws') (hf : ws'.map (·.1) = ws.map (·.1))
    (kk : ∀ (H1 : Heap) (locs1 : List Loc), va_P D vwCl ws' H1 → va_D A ws' → va_S A H0 H1 locs1 → W p l e R s m args below meth c H1 locs1 cells slots Q (F0 m (pc + 3) ls (o.toList ++ rest))) : W p l e R s m args below meth c H locs cells slots Q (F0 m pc ls st0) := by
  intro T hT X
  obtain ⟨v, st₀, t, T', L, h0, X', hL, e1, ⟨hv, hp, hz, hk⟩, st⟩ := hr T hT X
  cases hv
  rw [h0] at hz hk
  have cell : ∀ (j : Nat) (q : Nat) (x : va_E), wc[j]? = some (q, x) → ∃ i, is[j]? = some i ∧ ws[i]? = some (q, x) := by
    intro j q x hj
    have h1 : (is.map (fun i => ws[i]?))[j]? = some (some (q, x)) := by rw [hC, List.getElem?_map, hj]; rfl
    rw [List.getElem?_map] at h1
    cases hi : is[j]? with
    | none => rw [hi] at h1; cases h1
    | some i => rw [hi] at h1; exact ⟨i, rfl, Option.some.inj h1⟩
  have hA : ∀ q, mA wc q → A q := by
    rintro q ⟨j, x, hj⟩
    obtain ⟨i, -, hi⟩ := cell j q x hj
    exact hD.2 i _ hi
  have hP1 : va_P D vwCl ws' t.heap := by
    intro k q hq
    rw [← hU] at hq
    rcases mUpd_get is wc' ws k q hlen hq with ⟨j, hj⟩ | ⟨hn, hq⟩
    · exact hp j q hj
    · refine (hP k q hq).kept (hk q.1 (hP k q hq).lt ?_)
      rintro ⟨j, x, hj⟩
      obtain ⟨i, h1, h2⟩ := cell j q.1 x hj
      have hki := hD.1 k i q (q.1, x) hq h2 rfl
      subst hki
      exact hn (List.mem_of_getElem? h1)
  obtain ⟨t2, a1, b1⟩ := kk T'.heap (locs ++ L) (by rw [e1]; exact hP1) (hD.fst hf)
    ⟨Nat.le_trans hS.1 (by rw [e1]; exact hz), fun q h1 h2 => by rw [e1, hk q (Nat.lt_of_lt_of_le h1 hS.1) (fun z => h2 (hA q z))]; exact hS.2.1 q h1 h2, fun q hq => by
      rcases List.mem_append.mp hq with h | h
      · exact hS.2.2 q h
      · exact hA _ (hL q h)⟩ T' rfl X'
  exact ⟨t2, st t2 a1, b1⟩
theorem mCB (hts : ∀ w ∈ (c0 :: mBG), w.before args s = true) (hk : mLk own idx y code nL2 ret n) (hR : mFit R rm nL2) : CallB R s args own idx y code nL2 ret (mWS y code nL2 ret) rm 0 0 n :=
  callB_of n hts (mGood hk.2.2.1) rfl hR.2.2.1 hR.2.2.2 (hts _ (List.mem_cons_of_mem _ hk.2.1)) (hts _ (List.mem_cons_of_mem _ hk.1)) hk.2.2.2 ⟨hR.1, hR.2.1⟩
/-- a read-only instance method is called -/
theorem ro_V {r : Int32} {q0 ci N : Nat} {fs : List Value} {T : u_T} (CF : CallFix p m c cc nL s args (c0 :: mBG) own) (hM : RO l D cI cZ y code nL2 ret rm (.ref b :: As) wc (some (.int r))) (hk : mLkV own idx y code nL2 ret n) (hP : va_P D vwCl ws H) (hE : mE D cI cZ s) (is : List Nat) (hC : is.filterMap (fun i => ws[i]?) = wc) (he : ws[q0]? = some (b, .inr (ci, fs))) (hc : vwCl[ci]? = some (y.cls, T, N)) (hn : As.length = n) (hl : ls.size = nL) (hst : st0 = As.reverse ++ .ref b :: rest) (hW : (rest.map fun v => v.category).sum ≤ 8) (hR : mFit R rm nL2) (hcs : cells ≤ R.cells ∧ slots ≤ R.slots) (hdg : decode cc pc = .ok (.invokevirtual idx, 3))
    (kk : W p l e R s m args below meth c H locs cells slots Q (F0 m (pc + 3) ls (.int r :: rest))) : W p l e R s m args below meth c H locs cells slots Q (F0 m pc ls st0) :=
  ro_fin (W.runV CF hM ⟨mCB CF.2.2.2.2 hk.1 hR, CF.2.2.2.2 _ (List.mem_cons_of_mem _ hk.2.1), CF.2.2.2.2 _ (List.mem_cons_of_mem _ hk.2.2)⟩ ⟨mPR_blind, va_recv hE.1 hP hc he, fun U hU hW => ⟨rfl, by rw [hU]; exact hP.sub is hC, hE.warm hW⟩⟩ rfl hn hl hst (by show 2 * 0 + _ ≤ 8; omega) hdg hcs) kk
/-- a read-only static method is called -/
theorem ro_S {r : Int32} (CF : CallFix p m c cc nL s args (c0 :: mBG) own) (hM : RO l D cI cZ y code nL2 ret rm As [] (some (.int r))) (hk : mLkS own idx y code nL2 ret n) (hE : mE D cI cZ s) (hn : As.length = n) (hl : ls.size = nL) (hst : st0 = As.reverse ++ rest) (hW : (rest.map fun v => v.category).sum ≤ 8) (hR : mFit R rm nL2) (hcs : cells ≤ R.cells ∧ slots ≤ R.slots) (hdg : decode cc pc = .ok (.invokestatic idx, 3))
    (kk : W p l e R s m args below meth c H locs cells slots Q (F0 m (pc + 3) ls (.int r :: rest))) : W p l e R s m args below meth c H locs cells slots Q (F0 m pc ls st0) :=
  ro_fin (W.runS CF hM ⟨mCB CF.2.2.2.2 hk.1 hR, CF.2.2.2.2 _ (List.mem_cons_of_mem _ hk.2)⟩ ⟨mPR_blind, fun U hU hW => ⟨rfl, (fun k q h => by simp at h), hE.warm hW⟩⟩ rfl hn hl hst (by show 2 * 0 + _ ≤ 8; omega) hdg hcs) kk
/-- a nest mate's private static method is called -/
theorem ro_N {r : Int32} {host : String} (CF : CallFix p m c cc nL s args (c0 :: mBG) own) (hM : RO l D cI cZ y code nL2 ret rm As [] (some (.int r))) (hk : mLkN own idx y host code nL2 ret n) (hE : mE D cI cZ s) (hn : As.length = n) (hl : ls.size = nL) (hst : st0 = As.reverse ++ rest) (hW : (rest.map fun v => v.category).sum ≤ 8) (hR : mFit R rm nL2) (hcs : cells ≤ R.cells ∧ slots ≤ R.slots) (hdg : decode cc pc = .ok (.invokestatic idx, 3))
    (kk : W p l e R s m args below meth c H locs cells slots Q (F0 m (pc + 3) ls (.int r :: rest))) : W p l e R s m args below meth c H locs cells slots Q (F0 m pc ls st0) := by
  have cn : va_CN R s args own idx y host code nL2 ret (mWS y code nL2 ret) rm 0 0 n := va_cnB (ws := mWS y code nL2 ret) (ws' := mBG) n CF.2.2.2.2 (mGood hk.2.2.1) rfl hR.2.2.1 hR.2.2.2 (hE.2 _ hk.1) (CF.2.2.2.2 _ (List.mem_cons_of_mem _ hk.2.1)) hk.2.2.2.1 ⟨hR.1, hR.2.1⟩
  have hr := va_runSN (l := l) (e := e) (below := below) (meth := meth) (H := H) (locs := locs) (cells := cells) (slots := slots) (g := F0 m pc ls st0) (rest := rest) (As := As) CF hM ⟨cn, CF.2.2.2.2 _ (List.mem_cons_of_mem _ hk.2.2.2.2), trivial⟩ ⟨mPR_blind, fun U hU hW => ⟨rfl, (fun k q h => by simp at h), hE.warm hW⟩⟩ rfl hn hl hst (by show 2 * 0 + _ ≤ 8; omega) hdg hcs
  exact ro_fin hr.run kk
theorem mu_run {q0 ci N : Nat} {fs : List Value} {T : u_T} (CF : CallFix p m c cc nL s args (c0 :: mBG) own) (hM : MU l D cI cZ y code nL2 ret rm (.ref b :: As) wc wc' o) (hk : mLkV own idx y code nL2 ret n) (hP : va_P D vwCl ws H) (hE : mE D cI cZ s) (hD : va_D A ws) (is : List Nat) (hC : is.map (fun i => ws[i]?) = wc.map some) (hnd : va_nd is = true) (he : ws[q0]? = some (b, .inr (ci, fs))) (hc : vwCl[ci]? = some (y.cls, T, N)) (hn : As.length = n) (hl : ls.size = nL) (hst : st0 = As.reverse ++ .ref b :: rest) (hW : (rest.map fun v => v.category).sum ≤ 8) (hR : mFit R rm nL2) (hcs : cells ≤ R.cells ∧ slots ≤ R.slots) (hdg : decode cc pc = .ok (.invokevirtual idx, 3)) :
    CallRun p l e R s m args below meth c H locs cells slots 0 0 (F0 m pc ls st0) rest (mQM D (mA wc) wc' o (Value.ref b :: As).toArray) (mA wc) := by
  have hPc : va_P D vwCl wc H := by
    intro j q hj
    have h1 : (is.map (fun i => ws[i]?))[j]? = some (some q) := by rw [hC, List.getElem?_map, hj]; rfl
    rw [List.getElem?_map] at h1
    cases hi : is[j]? with
    | none => rw [hi] at h1; cases h1
    | some i => rw [hi] at h1; exact hP i q (Option.some.inj h1)
  exact W.runV CF hM ⟨mCB CF.2.2.2.2 hk.1 hR, CF.2.2.2.2 _ (List.mem_cons_of_mem _ hk.2.1), CF.2.2.2.2 _ (List.mem_cons_of_mem _ hk.2.2)⟩ ⟨mPM_blind, va_recv hE.1 hP hc he, fun U hU hW => ⟨rfl, by rw [hU]; exact hPc, hE.warm hW, (hD.sub is hnd hC).weaken (fun _ _ _ _ => trivial)⟩⟩ rfl hn hl hst (by show 2 * 0 + _ ≤ 8; omega) hdg hcs
/-- an instance method that changes cells is called: with an int, with nothing, with a long -/
theorem mu_V {r : Int32} {q0 ci N : Nat} {fs : List Value} {T : u_T} (CF : CallFix p m c cc nL s args (c0 :: mBG) own) (hM : MU l D cI cZ y code nL2 ret rm (.ref b :: As) wc wc' (some (.int r))) (hk : mLkV own idx y code nL2 ret n) (hP : va_P D vwCl ws H) (hE : mE D cI cZ s) (hD : va_D A ws) (hS : va_S A H0 H locs) (is : List Nat) (hC : is.map (fun i => ws[i]?) = wc.map some) (hnd : va_nd is = true) (hlen : is.length ≤ wc'.length) (hU : mUpd ws is wc' = ws') (hf : ws'.map (·.1) = ws.map (·.1)) (he : ws[q0]? = some (b, .inr (ci, fs))) (hc : vwCl[ci]? = some (y.cls, T, N)) (hn : As.length = n) (hl : ls.size = nL) (hst : st0 = As.reverse ++ .ref b :: rest) (hW : (rest.map fun v => v.category).sum ≤ 8) (hR : mFit R rm nL2) (hcs : cells ≤ R.cells ∧ slots ≤ R.slots) (hdg : decode cc pc = .ok (.invokevirtual idx, 3))
    (kk : ∀ (H1 : Heap) (locs1 : List Loc), va_P D vwCl ws' H1 → va_D A ws' → va_S A H0 H1 locs1 → W p l e R s m args below meth c H1 locs1 cells slots Q (F0 m (pc + 3) ls (.int r :: rest))) : W p l e R s m args below meth c H locs cells slots Q (F0 m pc ls st0) :=
  mu_fin (mu_run CF hM hk hP hE hD is hC hnd he hc hn hl hst hW hR hcs hdg) hP hD hS is hC hlen hU hf kk
theorem mu_Vv {q0 ci N : Nat} {fs : List Value} {T : u_T} (CF : CallFix p m c cc nL s args (c0 :: mBG) own) (hM : MU l D cI cZ y code nL2 ret rm (.ref b :: As) wc wc' none) (hk : mLkV own idx y code nL2 ret n) (hP : va_P D vwCl ws H) (hE : mE D cI cZ s) (hD : va_D A ws) (hS : va_S A H0 H locs) (is : List Nat) (hC : is.map (fun i => ws[i]?) = wc.map some) (hnd : va_nd is = true) (hlen : is.length ≤ wc'.length) (hU : mUpd ws is wc' = ws') (hf : ws'.map (·.1) = ws.map (·.1)) (he : ws[q0]? = some (b, .inr (ci, fs))) (hc : vwCl[ci]? = some (y.cls, T, N)) (hn : As.length = n) (hl : ls.size = nL) (hst : st0 = As.reverse ++ .ref b :: rest) (hW : (rest.map fun v => v.category).sum ≤ 8) (hR : mFit R rm nL2) (hcs : cells ≤ R.cells ∧ slots ≤ R.slots) (hdg : decode cc pc = .ok (.invokevirtual idx, 3))
    (kk : ∀ (H1 : Heap) (locs1 : List Loc), va_P D vwCl ws' H1 → va_D A ws' → va_S A H0 H1 locs1 → W p l e R s m args below meth c H1 locs1 cells slots Q (F0 m (pc + 3) ls rest)) : W p l e R s m args below meth c H locs cells slots Q (F0 m pc ls st0) :=
  mu_fin (mu_run CF hM hk hP hE hD is hC hnd he hc hn hl hst hW hR hcs hdg) hP hD hS is hC hlen hU hf kk
theorem mu_Vl {r : Int64} {q0 ci N : Nat} {fs : List Value} {T : u_T} (CF : CallFix p m c cc nL s args (c0 :: mBG) own) (hM : MU l D cI cZ y code nL2 ret rm (.ref b :: As) wc wc' (some (.long r))) (hk : mLkV own idx y code nL2 ret n) (hP : va_P D vwCl ws H) (hE : mE D cI cZ s) (hD : va_D A ws) (hS : va_S A H0 H locs) (is : List Nat) (hC : is.map (fun i => ws[i]?) = wc.map some) (hnd : va_nd is = true) (hlen : is.length ≤ wc'.length) (hU : mUpd ws is wc' = ws') (hf : ws'.map (·.1) = ws.map (·.1)) (he : ws[q0]? = some (b, .inr (ci, fs))) (hc : vwCl[ci]? = some (y.cls, T, N)) (hn : As.length = n) (hl : ls.size = nL) (hst : st0 = As.reverse ++ .ref b :: rest) (hW : (rest.map fun v => v.category).sum ≤ 8) (hR : mFit R rm nL2) (hcs : cells ≤ R.cells ∧ slots ≤ R.slots) (hdg : decode cc pc = .ok (.invokevirtual idx, 3))
    (kk : ∀ (H1 : Heap) (locs1 : List Loc), va_P D vwCl ws' H1 → va_D A ws' → va_S A H0 H1 locs1 → W p l e R s m args below meth c H1 locs1 cells slots Q (F0 m (pc + 3) ls (.long r :: rest))) : W p l e R s m args below meth c H locs cells slots Q (F0 m pc ls st0) :=
  mu_fin (mu_run CF hM hk hP hE hD is hC hnd he hc hn hl hst hW hR hcs hdg) hP hD hS is hC hlen hU hf kk
theorem ro_ret {ty : FieldType} {v r : Int32} (CF : CallFix p m c cc nL s args (c0 :: mBG) own) (hQ : MQ below (mQR (some (.int r))) args s 0 0 (fun _ => False) = Q) (hr : meth.sig.returnType = some ty) (hlk : meth.locks = false) (hn : narrow ty (.int v) = .int v) (hdg : decode cc pc = .ok (.ireturn, 1)) (hv : r = v) : W p l e R s m args below meth c s.heap [] 0 0 Q (F0 m pc ls [.int v]) := by
  subst hQ
  exact W.zret CF.1 CF.2.1 hr hn (fun t ht _ => ⟨by rw [hv], ht⟩) (fun _ h => by cases h) hdg hlk
theorem mu_reti {ty : FieldType} {v r : Int32} (CF : CallFix p m c cc nL s args (c0 :: mBG) own) (hQ : MQ below (mQM D A ws' (some (.int r))) args s 0 0 A = Q) (hr : meth.sig.returnType = some ty) (hlk : meth.locks = false) (hn : narrow ty (.int v) = .int v) (hP : va_P D vwCl ws1 H) (hS : va_S A s.heap H locs) (hdg : decode cc pc = .ok (.ireturn, 1)) (hv : r = v) (hw : ws' = ws1) : W p l e R s m args below meth c H locs 0 0 Q (F0 m pc ls [.int v]) := by
  subst hQ
  exact W.zret CF.1 CF.2.1 hr hn (fun t ht _ => ⟨by rw [hv], by rw [hw, ht]; exact hP, hS.F ht⟩) hS.2.2 hdg hlk
theorem mu_retl {v r : Int64} (CF : CallFix p m c cc nL s args (c0 :: mBG) own) (hQ : MQ below (mQM D A ws' (some (.long r))) args s 0 0 A = Q) (hr : meth.sig.returnType = some .long) (hlk : meth.locks = false) (hP : va_P D vwCl ws1 H) (hS : va_S A s.heap H locs) (hdg : decode cc pc = .ok (.lreturn, 1)) (hv : r = v) (hw : ws' = ws1) : W p l e R s m args below meth c H locs 0 0 Q (F0 m pc ls [.long v]) := by
  subst hQ
  exact W.lret CF.1 CF.2.1 hr (fun t ht _ => ⟨by rw [hv], by rw [hw, ht]; exact hP, hS.F ht⟩) hS.2.2 hdg hlk
theorem mu_retv (CF : CallFix p m c cc nL s args (c0 :: mBG) own) (hQ : MQ below (mQM D A ws' none) args s 0 0 A = Q) (hr : meth.sig.returnType = none) (hlk : meth.locks = false) (hP : va_P D vwCl ws1 H) (hS : va_S A s.heap H locs) (hdg : decode cc pc = .ok (.return_, 1)) (hw : ws' = ws1) : W p l e R s m args below meth c H locs 0 0 Q (F0 m pc ls []) := by
  subst hQ
  exact W.vret CF.1 CF.2.1 hr (fun t ht _ => ⟨rfl, by rw [hw, ht]; exact hP, hS.F ht⟩) hS.2.2 hdg hlk
theorem lv_as {x z : Int32} (h : x = z) (k : W p l e R s m args below meth c H locs cells slots Q (F0 m pc ls (.int z :: rest))) : W p l e R s m args below meth c H locs cells slots Q (F0 m pc ls (.int x :: rest)) := by rw [h]; exact k
theorem r_get {C : String} {T : u_T} {N ci : Nat} {a : Nat} (CF : CallFix p m c cc nL s args (c0 :: mBG) own) (hE : mE D cI cZ s) (hP : va_P D vwCl ws H) (q0 : Nat) {fs : List Value} (he : ws[q0]? = some (a, .inr (ci, fs))) (hc : vwCl[ci]? = some (C, T, N)) (hin : ∀ w ∈ u_ws C T N, w ∈ mBG) (k : Nat) (hk : k < N) (hlink : Cond.fieldLink own idx C (T k).2.1 (T k).2.2.1 ∈ mBG) (hown : (T k).1 = C) {v : Value} (hv : fs[k]? = some v) (hdg : decode cc pc = .ok (.getfield idx, 3))
    (kk : W p l e R s m args below meth c H locs cells slots Q (F0 m (pc + 3) ls (v :: rest))) : W p l e R s m args below meth c H locs cells slots Q (F0 m pc ls (.ref a :: rest)) :=
  va_get CF.1 CF.2.1 CF.2.2.2.2 (fun w h => List.mem_cons_of_mem _ (hin w h)) CF.2.2.2.1 hE.1 hP q0 he hc k hk (CF.2.2.2.2 _ (List.mem_cons_of_mem _ hlink)) (fun x h => by rw [← hown]; exact h) hv hdg kk
theorem r_getN {C host : String} {T : u_T} {N ci : Nat} {a : Nat} (CF : CallFix p m c cc nL s args (c0 :: mBG) own) (hE : mE D cI cZ s) (hP : va_P D vwCl ws H) (q0 : Nat) {fs : List Value} (he : ws[q0]? = some (a, .inr (ci, fs))) (hc : vwCl[ci]? = some (C, T, N)) (hin : ∀ w ∈ u_ws C T N, w ∈ mBG) (k : Nat) (hk : k < N) (hlink : Cond.fieldLinkNest own idx C (T k).2.1 (T k).2.2.1 host ∈ mNest) (hown : (T k).1 = C) {v : Value} (hv : fs[k]? = some v) (hdg : decode cc pc = .ok (.getfield idx, 3))
    (kk : W p l e R s m args below meth c H locs cells slots Q (F0 m (pc + 3) ls (v :: rest))) : W p l e R s m args below meth c H locs cells slots Q (F0 m pc ls (.ref a :: rest)) :=
  va_getN CF.1 CF.2.1 CF.2.2.2.2 (fun w h => List.mem_cons_of_mem _ (hin w h)) CF.2.2.2.1 hE.1 hP q0 he hc k hk (va_Nw.use (mNest_tab _ hlink) (hE.2 _ hlink)) (fun x h => by rw [← hown]; exact h) hv hdg kk
theorem r_put {C : String} {T : u_T} {N ci : Nat} {a : Nat} (CF : CallFix p m c cc nL s args (c0 :: mBG) own) (hE : mE D cI cZ s) (hP : va_P D vwCl ws H) (hD : va_D A ws) (hS : va_S A H0 H locs) (q0 : Nat) {fs : List Value} (he : ws[q0]? = some (a, .inr (ci, fs))) (hc : vwCl[ci]? = some (C, T, N)) (hin : ∀ w ∈ u_ws C T N, w ∈ mBG) (ty0 : Nat → FieldType) (hty : ∀ k, k < N → parseFieldDescriptor (T k).2.2.1 = some (ty0 k)) (hnm : ∀ a, a < N → ∀ b, b < N → a ≠ b → (T a).2.1 ≠ (T b).2.1) (k : Nat) (hk : k < N) (hlink : Cond.fieldLink own idx C (T k).2.1 (T k).2.2.1 ∈ mBG) (hown : (T k).1 = C) (hfin : (T k).2.2.2 = false) {v : Value} (hn : narrow (ty0 k) v = v) (hfit : fits (ty0 k) v = true) (hl : k < fs.length) (hdg : decode cc pc = .ok (.putfield idx, 3)) (hset : ws.set q0 (a, .inr (ci, fs.set k v)) = ws')
    (kk : ∀ (H1 : Heap) (locs1 : List Loc), va_P D vwCl ws' H1 → va_D A ws' → va_S A H0 H1 locs1 → W p l e R s m args below meth c H1 locs1 cells slots Q (F0 m (pc + 3) ls rest)) : W p l e R s m args below meth c H locs cells slots Q (F0 m pc ls (v :: .ref a :: rest)) :=
  va_put CF.1 CF.2.1 CF.2.2.2.2 (fun w h => List.mem_cons_of_mem _ (hin w h)) ty0 hty hnm CF.2.2.2.1 hE.1 hP hD hS q0 he hc k hk (CF.2.2.2.2 _ (List.mem_cons_of_mem _ hlink)) (fun x h => by rw [← hown]; exact h) hfin (hty k hk) hn hfit hl hdg (fun H1 locs1 h1 h2 h3 => kk H1 locs1 (by rw [← hset]; exact h1) (by rw [← hset]; exact h2) h3)
theorem r_iald {a k : Nat} {f : Nat → Int32} (CF : CallFix p m c cc nL s args (c0 :: mBG) own) (hE : mE D cI cZ s) (hP : va_P D vwCl ws H) (q0 : Nat) (ha : ws[q0]? = some (a, .inl (cI, k, .inl f))) {i : Int32} (j : Nat) (hi : i = nI j) (hj : j < k) (hk : k < 2 ^ 31) (hdg : decode cc pc = .ok (.iaload, 1))
    (kk : W p l e R s m args below meth c H locs cells slots Q (F0 m (pc + 1) ls (.int (f j) :: rest))) : W p l e R s m args below meth c H locs cells slots Q (F0 m pc ls (.int i :: .ref a :: rest)) := by
  subst hi
  refine va_iald CF.1 CF.2.1 hE.1 hP q0 0 ha rfl (vp_in_nI hj hk) hdg ?_
  rw [nI_clamp (by omega)]
  exact kk
theorem r_zald {a k : Nat} {f : Nat → Int32} (CF : CallFix p m c cc nL s args (c0 :: mBG) own) (hE : mE D cI cZ s) (hP : va_P D vwCl ws H) (q0 : Nat) (ha : ws[q0]? = some (a, .inl (cZ, k, .inl f))) {i : Int32} (j : Nat) (hi : i = nI j) (hj : j < k) (hk : k < 2 ^ 31) (hdg : decode cc pc = .ok (.baload, 1))
    (kk : W p l e R s m args below meth c H locs cells slots Q (F0 m (pc + 1) ls (.int (f j) :: rest))) : W p l e R s m args below meth c H locs cells slots Q (F0 m pc ls (.int i :: .ref a :: rest)) := by
  subst hi
  refine va_zald CF.1 CF.2.1 hE.1 hP q0 1 ha rfl (vp_in_nI hj hk) hdg ?_
  rw [nI_clamp (by omega)]
  exact kk
theorem r_iast {a k : Nat} {f : Nat → Int32} (CF : CallFix p m c cc nL s args (c0 :: mBG) own) (hE : mE D cI cZ s) (hP : va_P D vwCl ws H) (hD : va_D A ws) (hS : va_S A H0 H locs) (q0 : Nat) (ha : ws[q0]? = some (a, .inl (cI, k, .inl f))) {i x : Int32} (j : Nat) (hi : i = nI j) (hj : j < k) (hk : k < 2 ^ 31) (hdg : decode cc pc = .ok (.iastore, 1)) (hset : ws.set q0 (a, .inl (cI, k, .inl (upd f j x))) = ws')
    (kk : ∀ (H1 : Heap) (locs1 : List Loc), va_P D vwCl ws' H1 → va_D A ws' → va_S A H0 H1 locs1 → W p l e R s m args below meth c H1 locs1 cells slots Q (F0 m (pc + 1) ls rest)) : W p l e R s m args below meth c H locs cells slots Q (F0 m pc ls (.int x :: .int i :: .ref a :: rest)) := by
  subst hi
  have e : (nI j).toNatClampNeg = j := nI_clamp (by omega)
  refine va_iast CF.1 CF.2.1 hE.1 hP hD hS q0 0 ha rfl (vp_in_nI hj hk) hdg ?_
  rw [e, hset]
  exact kk
theorem r_zast {a k : Nat} {f : Nat → Int32} (CF : CallFix p m c cc nL s args (c0 :: mBG) own) (hE : mE D cI cZ s) (hP : va_P D vwCl ws H) (hD : va_D A ws) (hS : va_S A H0 H locs) (q0 : Nat) (ha : ws[q0]? = some (a, .inl (cZ, k, .inl f))) {i x : Int32} (j : Nat) (hi : i = nI j) (hj : j < k) (hk : k < 2 ^ 31) (hx : vp_nar .boolean x = x) (hdg : decode cc pc = .ok (.bastore, 1)) (hset : ws.set q0 (a, .inl (cZ, k, .inl (upd f j x))) = ws')
    (kk : ∀ (H1 : Heap) (locs1 : List Loc), va_P D vwCl ws' H1 → va_D A ws' → va_S A H0 H1 locs1 → W p l e R s m args below meth c H1 locs1 cells slots Q (F0 m (pc + 1) ls rest)) : W p l e R s m args below meth c H locs cells slots Q (F0 m pc ls (.int x :: .int i :: .ref a :: rest)) := by
  subst hi
  have e : (nI j).toNatClampNeg = j := nI_clamp (by omega)
  refine va_zast CF.1 CF.2.1 hE.1 hP hD hS q0 1 ha rfl (vp_in_nI hj hk) hdg ?_
  rw [e, hx, hset]
  exact kk
theorem r_alen {a k : Nat} {f : Nat → Int32} (CF : CallFix p m c cc nL s args (c0 :: mBG) own) (hE : mE D cI cZ s) (hP : va_P D vwCl ws H) (q0 : Nat) (ha : ws[q0]? = some (a, .inl (cI, k, .inl f))) (hdg : decode cc pc = .ok (.arraylength, 1))
    (kk : W p l e R s m args below meth c H locs cells slots Q (F0 m (pc + 1) ls (.int (nI k) :: rest))) : W p l e R s m args below meth c H locs cells slots Q (F0 m pc ls (.ref a :: rest)) :=
  va_alen CF.1 CF.2.1 hE.1 hP q0 0 ha (ty := .int) rfl (v := nI k) rfl hdg kk
theorem r_mmax {x z : Int32} (CF : CallFix p m c cc nL s args (c0 :: mBG) own) (hl : ls.size = nL) (hk : Cond.methodLink own idx Lib.Math.max.name ∈ mBG) (hR : 1 ≤ R.frames ∧ (rest.map fun v => v.category).sum + 13 ≤ R.locals ∧ cells ≤ R.cells ∧ slots ≤ R.slots) (hdg : decode cc pc = .ok (.invokestatic idx, 3)) (hw : (Cond.static Lib.Math.max.name ∈ mBG) ∧ (Cond.initialized "java/lang/Math" ∈ mBG) ∧ Cond.code Lib.Math.max.name Lib.Math.max.code 2 (some .int) ∈ mBG)
    (kk : W p l e R s m args below meth c H locs cells slots Q (F0 m (pc + 3) ls (.int (if x < z then z else x) :: rest))) : W p l e R s m args below meth c H locs cells slots Q (F0 m pc ls (.int z :: .int x :: rest)) :=
  va_mmax CF.1 CF.2.1 (CF.2.2.1.trans hl.symm) CF.2.2.2.1 (CF.2.2.2.2 _ (List.mem_cons_of_mem _ hk)) (CF.2.2.2.2 _ (List.mem_cons_of_mem _ hw.1)) (CF.2.2.2.2 _ (List.mem_cons_of_mem _ hw.2.1)) (CF.2.2.2.2 _ (List.mem_cons_of_mem _ hw.2.2)) hR.1 hR.2.1 hR.2.2.1 hR.2.2.2 hdg kk
theorem r_mmin {x z : Int32} (CF : CallFix p m c cc nL s args (c0 :: mBG) own) (hl : ls.size = nL) (hk : Cond.methodLink own idx Lib.Math.min.name ∈ mBG) (hR : 1 ≤ R.frames ∧ (rest.map fun v => v.category).sum + 13 ≤ R.locals ∧ cells ≤ R.cells ∧ slots ≤ R.slots) (hdg : decode cc pc = .ok (.invokestatic idx, 3)) (hw : (Cond.static Lib.Math.min.name ∈ mBG) ∧ (Cond.initialized "java/lang/Math" ∈ mBG) ∧ Cond.code Lib.Math.min.name Lib.Math.min.code 2 (some .int) ∈ mBG)
    (kk : W p l e R s m args below meth c H locs cells slots Q (F0 m (pc + 3) ls (.int (if z < x then z else x) :: rest))) : W p l e R s m args below meth c H locs cells slots Q (F0 m pc ls (.int z :: .int x :: rest)) :=
  va_mmin CF.1 CF.2.1 (CF.2.2.1.trans hl.symm) CF.2.2.2.1 (CF.2.2.2.2 _ (List.mem_cons_of_mem _ hk)) (CF.2.2.2.2 _ (List.mem_cons_of_mem _ hw.1)) (CF.2.2.2.2 _ (List.mem_cons_of_mem _ hw.2.1)) (CF.2.2.2.2 _ (List.mem_cons_of_mem _ hw.2.2)) hR.1 hR.2.1 hR.2.2.1 hR.2.2.2 hdg kk
theorem r_mabs {x : Int32} (CF : CallFix p m c cc nL s args (c0 :: mBG) own) (hl : ls.size = nL) (hk : Cond.methodLink own idx Lib.Math.abs.name ∈ mBG) (hR : 1 ≤ R.frames ∧ (rest.map fun v => v.category).sum + 13 ≤ R.locals ∧ cells ≤ R.cells ∧ slots ≤ R.slots) (hdg : decode cc pc = .ok (.invokestatic idx, 3)) (hw : (Cond.static Lib.Math.abs.name ∈ mBG) ∧ (Cond.initialized "java/lang/Math" ∈ mBG) ∧ Cond.code Lib.Math.abs.name Lib.Math.abs.code 1 (some .int) ∈ mBG)
    (kk : W p l e R s m args below meth c H locs cells slots Q (F0 m (pc + 3) ls (.int (if 0 ≤ x then x else 0 - x) :: rest))) : W p l e R s m args below meth c H locs cells slots Q (F0 m pc ls (.int x :: rest)) :=
  va_mabs CF.1 CF.2.1 (CF.2.2.1.trans hl.symm) CF.2.2.2.1 (CF.2.2.2.2 _ (List.mem_cons_of_mem _ hk)) (CF.2.2.2.2 _ (List.mem_cons_of_mem _ hw.1)) (CF.2.2.2.2 _ (List.mem_cons_of_mem _ hw.2.1)) (CF.2.2.2.2 _ (List.mem_cons_of_mem _ hw.2.2)) hR.1 hR.2.1 hR.2.2.1 hR.2.2.2 hdg kk
end MYR
/-! numbers -/
theorem nf_c (n : Nat) : (OfNat.ofNat n : Int32) = nI n := rfl
theorem nf_add {x y : Int32} {a b : Nat} (hx : x = nI a) (hy : y = nI b) : x + y = nI (a + b) := by rw [hx, hy, nI_add]
theorem nf_inc {x : Int32} {a : Nat} (k : Nat) (hx : x = nI a) : x + Int32.ofInt (k : Int) = nI (a + k) := by
  rw [hx, show Int32.ofInt (k : Int) = nI k from by simp [nI, Int32.ofInt_eq_ofNat], nI_add]
theorem nf_dec {x : Int32} {a : Nat} (hx : x = nI a) (h : 1 ≤ a) : x + Int32.ofInt (-1) = nI (a - 1) := by
  obtain ⟨b, rfl⟩ : ∃ b, a = b + 1 := ⟨a - 1, by omega⟩
  rw [hx, Nat.add_sub_cancel]
  exact pk_m1 b
theorem nf_sub {x y : Int32} {a b : Nat} (hx : x = nI a) (hy : y = nI b) (h : b ≤ a) : x - y = nI (a - b) := by rw [hx, hy, pk_sub h]
theorem nf_mul {x y : Int32} {a b : Nat} (hx : x = nI a) (hy : y = nI b) : x * y = nI (a * b) := by rw [hx, hy, pk_mul]
theorem nf_div {x y : Int32} {a b : Nat} (hx : x = nI a) (hy : y = nI b) (ha : a < 2 ^ 31) (h0 : 0 < b) (hb : b < 2 ^ 31) : x / y = nI (a / b) := by rw [hx, hy, pk_div ha h0 hb]
theorem nf_rem {x y : Int32} {a b : Nat} (hx : x = nI a) (hy : y = nI b) (ha : a < 2 ^ 31) (h0 : 0 < b) (hb : b < 2 ^ 31) : x - x / y * y = nI (a % b) := by rw [hx, hy, pk_rem ha h0 hb]
theorem nf_shl0 : ∀ b, b < 31 → (1 : Int32) <<< (nI b &&& 31) = nI (2 ^ b) := by decide +kernel
theorem nf_shl {y : Int32} {b : Nat} (hy : y = nI b) (hb : b < 31) : (1 : Int32) <<< (y &&& 31) = nI (2 ^ b) := by rw [hy, nf_shl0 b hb]
theorem nf_tn {x : Int32} (h : ¬ x < 0) : x = nI x.toNatClampNeg := by
  obtain ⟨j, hj, e⟩ := nI_of h
  rw [e, nI_clamp hj]
theorem cle {x y : Int32} {a b : Nat} (hx : x = nI a) (hy : y = nI b) (ha : a < 2 ^ 31) (hb : b < 2 ^ 31) : x ≤ y ↔ a ≤ b := by rw [hx, hy, nI_leI ha hb]
theorem clt {x y : Int32} {a b : Nat} (hx : x = nI a) (hy : y = nI b) (ha : a < 2 ^ 31) (hb : b < 2 ^ 31) : x < y ↔ a < b := by rw [hx, hy, nI_ltI ha hb]
theorem ceq {x y : Int32} {a b : Nat} (hx : x = nI a) (hy : y = nI b) (ha : a < 2 ^ 31) (hb : b < 2 ^ 31) : x = y ↔ a = b := by rw [hx, hy, nI_eq ha hb]
theorem tn_lt {x y : Int32} {n : Nat} (h0 : ¬ x < 0) (h1 : ¬ y ≤ x) (hy : y = nI n) (hn : n < 2 ^ 31) : x.toNatClampNeg < n := by
  have hb : x.toNatClampNeg < 2 ^ 31 := Int32.toNatClampNeg_lt x
  exact Nat.lt_of_not_le (fun h => h1 ((cle hy (nf_tn h0) hn hb).mpr h))
theorem ne_max (x : Int32) : ¬ (if x < 1 then 1 else x) = 0 := by
  by_cases h : x < 1
  · rw [if_pos h]; decide
  · rw [if_neg h]
    intro e
    exact h (by rw [e]; decide)
theorem ne_nle {x : Int32} (h : ¬ x ≤ 0) : ¬ x = 0 := fun e => h (by rw [e]; exact Int32.le_refl _)
end
section
def h_J6_bitCount_0f7a4_9 (a0 : Int32) : Int32 :=
  (a0 - (((a0 : Int32).toUInt32 >>> ((1 : Int32).toUInt32 &&& Int32.toUInt32 31)).toInt32 &&& 1431655765))
def h_J6_bitCount_0f7a4_23 (a0 : Int32) : Int32 :=
  (((h_J6_bitCount_0f7a4_9 a0) &&& 858993459) + ((((h_J6_bitCount_0f7a4_9 a0) : Int32).toUInt32 >>> ((2 : Int32).toUInt32 &&& Int32.toUInt32 31)).toInt32 &&& 858993459))
def h_J6_bitCount_0f7a4_33 (a0 : Int32) : Int32 :=
  (((h_J6_bitCount_0f7a4_23 a0) + (((h_J6_bitCount_0f7a4_23 a0) : Int32).toUInt32 >>> ((4 : Int32).toUInt32 &&& Int32.toUInt32 31)).toInt32) &&& 252645135)
def h_J6_bitCount_0f7a4_40 (a0 : Int32) : Int32 :=
  ((h_J6_bitCount_0f7a4_33 a0) + (((h_J6_bitCount_0f7a4_33 a0) : Int32).toUInt32 >>> ((8 : Int32).toUInt32 &&& Int32.toUInt32 31)).toInt32)
def h_J6_bitCount_0f7a4_47 (a0 : Int32) : Int32 :=
  ((h_J6_bitCount_0f7a4_40 a0) + (((h_J6_bitCount_0f7a4_40 a0) : Int32).toUInt32 >>> ((16 : Int32).toUInt32 &&& Int32.toUInt32 31)).toInt32)
def f_J6_bitCount_0f7a4 (a0 : Int32) : Int32 :=
  ((h_J6_bitCount_0f7a4_47 a0) &&& 63)
set_option maxRecDepth 100000 in
set_option maxHeartbeats 4000000 in
theorem c_J6_bitCount_0f7a4 (l : Launch) (D : va_G) (cI cZ : ClassId) (a0 : Int32) : RO l D cI cZ yJ6_bitCount_0f7a4 cJ6_bitCount_0f7a4 1 (some .int) (mR 0 0) [.int a0] [] (some (.int (f_J6_bitCount_0f7a4 a0))) := by
  refine RO.of (by decide +kernel) (Nat.le_of_ble_eq_true rfl) ?_
  intro p e s m args below meth c ls Q CF hr hlk hP hE hQ hl
  have hx := CF.1
  have hb := CF.2.1
  have hl : lv_has ls 1 [(0, .int a0)] := hl
  refine lv_iload_n hx hb dJ6_bitCount_0f7a4_0 rfl (lv_at hl 0 rfl) ?_
  refine lv_iload_n hx hb dJ6_bitCount_0f7a4_1 rfl (lv_at hl 0 rfl) ?_
  refine lv_iconst (v := 1) hx hb dJ6_bitCount_0f7a4_2 (by decide) ?_
  refine lv_iushr hx hb dJ6_bitCount_0f7a4_3 rfl ?_
  refine lv_ldcw (v := 1431655765) hx hb CF.2.2.2.1 (CF.2.2.2.2 _ (List.mem_cons_of_mem _ tw_2_171)) dJ6_bitCount_0f7a4_4 ?_
  refine lv_iand hx hb dJ6_bitCount_0f7a4_7 ?_
  refine lv_isub hx hb dJ6_bitCount_0f7a4_8 ?_
  refine lv_as (z := (h_J6_bitCount_0f7a4_9 a0)) rfl ?_
  refine lv_istore_n (lv' := [(0, .int (h_J6_bitCount_0f7a4_9 a0))]) hx hb dJ6_bitCount_0f7a4_9 rfl hl (by decide) rfl (fun ls hl => ?_)
  refine lv_iload_n hx hb dJ6_bitCount_0f7a4_10 rfl (lv_at hl 0 rfl) ?_
  refine lv_ldcw (v := 858993459) hx hb CF.2.2.2.1 (CF.2.2.2.2 _ (List.mem_cons_of_mem _ tw_2_172)) dJ6_bitCount_0f7a4_11 ?_
  refine lv_iand hx hb dJ6_bitCount_0f7a4_14 ?_
  refine lv_iload_n hx hb dJ6_bitCount_0f7a4_15 rfl (lv_at hl 0 rfl) ?_
  refine lv_iconst (v := 2) hx hb dJ6_bitCount_0f7a4_16 (by decide) ?_
  refine lv_iushr hx hb dJ6_bitCount_0f7a4_17 rfl ?_
  refine lv_ldcw (v := 858993459) hx hb CF.2.2.2.1 (CF.2.2.2.2 _ (List.mem_cons_of_mem _ tw_2_172)) dJ6_bitCount_0f7a4_18 ?_
  refine lv_iand hx hb dJ6_bitCount_0f7a4_21 ?_
  refine lv_iadd hx hb dJ6_bitCount_0f7a4_22 ?_
  refine lv_as (z := (h_J6_bitCount_0f7a4_23 a0)) rfl ?_
  refine lv_istore_n (lv' := [(0, .int (h_J6_bitCount_0f7a4_23 a0))]) hx hb dJ6_bitCount_0f7a4_23 rfl hl (by decide) rfl (fun ls hl => ?_)
  refine lv_iload_n hx hb dJ6_bitCount_0f7a4_24 rfl (lv_at hl 0 rfl) ?_
  refine lv_iload_n hx hb dJ6_bitCount_0f7a4_25 rfl (lv_at hl 0 rfl) ?_
  refine lv_iconst (v := 4) hx hb dJ6_bitCount_0f7a4_26 (by decide) ?_
  refine lv_iushr hx hb dJ6_bitCount_0f7a4_27 rfl ?_
  refine lv_iadd hx hb dJ6_bitCount_0f7a4_28 ?_
  refine lv_ldcw (v := 252645135) hx hb CF.2.2.2.1 (CF.2.2.2.2 _ (List.mem_cons_of_mem _ tw_2_173)) dJ6_bitCount_0f7a4_29 ?_
  refine lv_iand hx hb dJ6_bitCount_0f7a4_32 ?_
  refine lv_as (z := (h_J6_bitCount_0f7a4_33 a0)) rfl ?_
  refine lv_istore_n (lv' := [(0, .int (h_J6_bitCount_0f7a4_33 a0))]) hx hb dJ6_bitCount_0f7a4_33 rfl hl (by decide) rfl (fun ls hl => ?_)
  refine lv_iload_n hx hb dJ6_bitCount_0f7a4_34 rfl (lv_at hl 0 rfl) ?_
  refine lv_iload_n hx hb dJ6_bitCount_0f7a4_35 rfl (lv_at hl 0 rfl) ?_
  refine lv_bipush (v := 8) hx hb dJ6_bitCount_0f7a4_36 (by decide) ?_
  refine lv_iushr hx hb dJ6_bitCount_0f7a4_38 rfl ?_
  refine lv_iadd hx hb dJ6_bitCount_0f7a4_39 ?_
  refine lv_as (z := (h_J6_bitCount_0f7a4_40 a0)) rfl ?_
  refine lv_istore_n (lv' := [(0, .int (h_J6_bitCount_0f7a4_40 a0))]) hx hb dJ6_bitCount_0f7a4_40 rfl hl (by decide) rfl (fun ls hl => ?_)
  refine lv_iload_n hx hb dJ6_bitCount_0f7a4_41 rfl (lv_at hl 0 rfl) ?_
  refine lv_iload_n hx hb dJ6_bitCount_0f7a4_42 rfl (lv_at hl 0 rfl) ?_
  refine lv_bipush (v := 16) hx hb dJ6_bitCount_0f7a4_43 (by decide) ?_
  refine lv_iushr hx hb dJ6_bitCount_0f7a4_45 rfl ?_
  refine lv_iadd hx hb dJ6_bitCount_0f7a4_46 ?_
  refine lv_as (z := (h_J6_bitCount_0f7a4_47 a0)) rfl ?_
  refine lv_istore_n (lv' := [(0, .int (h_J6_bitCount_0f7a4_47 a0))]) hx hb dJ6_bitCount_0f7a4_47 rfl hl (by decide) rfl (fun ls hl => ?_)
  refine lv_iload_n hx hb dJ6_bitCount_0f7a4_48 rfl (lv_at hl 0 rfl) ?_
  refine lv_bipush (v := 63) hx hb dJ6_bitCount_0f7a4_49 (by decide) ?_
  refine lv_iand hx hb dJ6_bitCount_0f7a4_51 ?_
  exact ro_ret CF hQ hr hlk rfl dJ6_bitCount_0f7a4_52 (by rw [f_J6_bitCount_0f7a4])
def f_X2_at (sz : Nat) (sf : Nat → Int32) (a1 : Int32) : Int32 :=
  (if a1 < 0 then 0 else (if (nI sz) ≤ a1 then 0 else (sf a1.toNatClampNeg)))
set_option maxRecDepth 100000 in
set_option maxHeartbeats 4000000 in
theorem c_X2_at (l : Launch) (D : va_G) (cI cZ : ClassId) (q0 q1 : Nat) (sz : Nat) (sf : Nat → Int32) (a1 : Int32) (hsz : sz < 2 ^ 31) : RO l D cI cZ yX2_at cX2_at 2 (some .int) (mR 0 0) [.ref q0, .int a1] [(q0, .inr (2, [.ref q1])), (q1, .inl (cI, sz, .inl sf))] (some (.int (f_X2_at sz sf a1))) := by
  refine RO.of (by decide +kernel) (Nat.le_of_ble_eq_true rfl) ?_
  intro p e s m args below meth c ls Q CF hr hlk hP hE hQ hl
  have hx := CF.1
  have hb := CF.2.1
  have hl : lv_has ls 2 [(0, .ref q0), (1, .int a1)] := hl
  refine lv_iload_n hx hb dX2_at_0 rfl (lv_at hl 1 rfl) ?_
  refine lv_if_lt (tgt := 22) hx hb dX2_at_1 (by decide) (fun c_1 => ?_) (fun c_1 => ?_)
  · refine lv_iconst (v := 0) hx hb dX2_at_22 (by decide) ?_
    exact ro_ret CF hQ hr hlk rfl dX2_at_23 (by rw [f_X2_at, if_pos c_1])
  · refine lv_iload_n hx hb dX2_at_4 rfl (lv_at hl 1 rfl) ?_
    refine lv_aload_n hx hb dX2_at_5 rfl (lv_at hl 0 rfl) ?_
    refine r_get (C := RX2) (T := TX2) (N := 1) (v := .ref q1) CF hE hP 0 rfl rfl inG2 0 (by decide) tw_1_35 rfl rfl dX2_at_6 ?_
    refine r_alen (k := sz) (f := sf) CF hE hP 1 rfl dX2_at_9 ?_
    refine lv_icmp_ge (tgt := 22) hx hb dX2_at_10 (by decide) (fun c_2 => ?_) (fun c_2 => ?_)
    · refine lv_iconst (v := 0) hx hb dX2_at_22 (by decide) ?_
      exact ro_ret CF hQ hr hlk rfl dX2_at_23 (by rw [f_X2_at, if_neg c_1, if_pos c_2])
    · have nf1 : a1 = nI a1.toNatClampNeg := nf_tn (by assumption)
      have lt1 : a1.toNatClampNeg < sz := tn_lt (by assumption) (by assumption) rfl hsz
      refine lv_aload_n hx hb dX2_at_13 rfl (lv_at hl 0 rfl) ?_
      refine r_get (C := RX2) (T := TX2) (N := 1) (v := .ref q1) CF hE hP 0 rfl rfl inG2 0 (by decide) tw_1_35 rfl rfl dX2_at_14 ?_
      refine lv_iload_n hx hb dX2_at_17 rfl (lv_at hl 1 rfl) ?_
      refine r_iald (k := sz) (f := sf) CF hE hP 1 rfl a1.toNatClampNeg nf1 (by omega) (by omega) dX2_at_18 ?_
      refine lv_goto (tgt := 23) hx hb dX2_at_19 (by decide) ?_
      exact ro_ret CF hQ hr hlk rfl dX2_at_23 (by rw [f_X2_at, if_neg c_1, if_neg c_2])
def f_X2_put_sf (sz : Nat) (sf : Nat → Int32) (a1 : Int32) (a2 : Int32) : Nat → Int32 :=
  (if a1 < 0 then sf else (if (nI sz) ≤ a1 then sf else (upd sf a1.toNatClampNeg a2)))
set_option maxRecDepth 100000 in
set_option maxHeartbeats 4000000 in
theorem c_X2_put (l : Launch) (D : va_G) (cI cZ : ClassId) (q0 q1 : Nat) (sz : Nat) (sf : Nat → Int32) (a1 : Int32) (a2 : Int32) (hsz : sz < 2 ^ 31) : MU l D cI cZ yX2_put cX2_put 3 none (mR 0 0) [.ref q0, .int a1, .int a2] [(q0, .inr (2, [.ref q1])), (q1, .inl (cI, sz, .inl sf))] [(q0, .inr (2, [.ref q1])), (q1, .inl (cI, sz, .inl (f_X2_put_sf sz sf a1 a2)))] none := by
  refine MU.of (by decide +kernel) (Nat.le_of_ble_eq_true rfl) ?_
  intro p e s m args below meth c ls Q A CF hr hlk hP hE hD hS hQ hl
  have hx := CF.1
  have hb := CF.2.1
  have hl : lv_has ls 3 [(0, .ref q0), (1, .int a1), (2, .int a2)] := hl
  refine lv_iload_n hx hb dX2_put_0 rfl (lv_at hl 1 rfl) ?_
  refine lv_if_lt (tgt := 20) hx hb dX2_put_1 (by decide) (fun c_1 => ?_) (fun c_1 => ?_)
  · have e_0 : (f_X2_put_sf sz sf a1 a2) = sf := by rw [f_X2_put_sf, if_pos c_1]
    exact mu_retv CF hQ hr hlk hP hS dX2_put_20 (by rw [e_0])
  · refine lv_iload_n hx hb dX2_put_4 rfl (lv_at hl 1 rfl) ?_
    refine lv_aload_n hx hb dX2_put_5 rfl (lv_at hl 0 rfl) ?_
    refine r_get (C := RX2) (T := TX2) (N := 1) (v := .ref q1) CF hE hP 0 rfl rfl inG2 0 (by decide) tw_1_35 rfl rfl dX2_put_6 ?_
    refine r_alen (k := sz) (f := sf) CF hE hP 1 rfl dX2_put_9 ?_
    refine lv_icmp_ge (tgt := 20) hx hb dX2_put_10 (by decide) (fun c_2 => ?_) (fun c_2 => ?_)
    · have e_0 : (f_X2_put_sf sz sf a1 a2) = sf := by rw [f_X2_put_sf, if_neg c_1, if_pos c_2]
      exact mu_retv CF hQ hr hlk hP hS dX2_put_20 (by rw [e_0])
    · have nf1 : a1 = nI a1.toNatClampNeg := nf_tn (by assumption)
      have lt1 : a1.toNatClampNeg < sz := tn_lt (by assumption) (by assumption) rfl hsz
      refine lv_aload_n hx hb dX2_put_13 rfl (lv_at hl 0 rfl) ?_
      refine r_get (C := RX2) (T := TX2) (N := 1) (v := .ref q1) CF hE hP 0 rfl rfl inG2 0 (by decide) tw_1_35 rfl rfl dX2_put_14 ?_
      refine lv_iload_n hx hb dX2_put_17 rfl (lv_at hl 1 rfl) ?_
      refine lv_iload_n hx hb dX2_put_18 rfl (lv_at hl 2 rfl) ?_
      refine r_iast (k := sz) (f := sf) (ws' := [(q0, .inr (2, [.ref q1])), (q1, .inl (cI, sz, .inl (upd sf a1.toNatClampNeg a2)))]) CF hE hP hD hS 1 rfl a1.toNatClampNeg nf1 (by omega) (by omega) dX2_put_19 rfl (fun H locs hP hD hS => ?_)
      have e_0 : (f_X2_put_sf sz sf a1 a2) = (upd sf a1.toNatClampNeg a2) := by rw [f_X2_put_sf, if_neg c_1, if_neg c_2]
      exact mu_retv CF hQ hr hlk hP hS dX2_put_20 (by rw [e_0])
def S_X2_fill_2 (a1 : Int32) (k1 : Nat) (x1_0 : Nat → Int32) : (Nat → Int32) :=
  (upd x1_0 k1 a1)
def B_X2_fill_2 (a1 : Int32) (i0 : Nat → Int32) : Nat → (Nat → Int32)
  | 0 => i0
  | k + 1 => S_X2_fill_2 a1 k (B_X2_fill_2 a1 i0 k)
set_option maxRecDepth 100000 in
set_option maxHeartbeats 4000000 in
theorem c_X2_fill (l : Launch) (D : va_G) (cI cZ : ClassId) (q0 q1 : Nat) (sz : Nat) (sf : Nat → Int32) (a1 : Int32) (hsz : sz < 2 ^ 31) : MU l D cI cZ yX2_fill cX2_fill 3 none (mR 0 0) [.ref q0, .int a1] [(q0, .inr (2, [.ref q1])), (q1, .inl (cI, sz, .inl sf))] [(q0, .inr (2, [.ref q1])), (q1, .inl (cI, sz, .inl ((B_X2_fill_2 a1 sf sz))))] none := by
  refine MU.of (by decide +kernel) (Nat.le_of_ble_eq_true rfl) ?_
  intro p e s m args below meth c ls Q A CF hr hlk hP hE hD hS hQ hl
  have hx := CF.1
  have hb := CF.2.1
  have hl : lv_has ls 3 [(0, .ref q0), (1, .int a1)] := hl
  refine lv_iconst (v := 0) hx hb dX2_fill_0 (by decide) ?_
  refine lv_istore_n (lv' := [(2, .int 0), (0, .ref q0), (1, .int a1)]) hx hb dX2_fill_1 rfl hl (by decide) rfl (fun ls hl => ?_)
  have LOOP_2 : ∀ (n_1 k1 : Nat) (x1_0 : Nat → Int32) (H : Heap) (locs : List Loc) (ls : Array Slot), k1 ≤ sz → sz - k1 < n_1 → (B_X2_fill_2 a1 sf k1) = x1_0 → va_P D vwCl [(q0, .inr (2, [.ref q1])), (q1, .inl (cI, sz, .inl x1_0))] H → va_D A [(q0, .inr (2, [.ref q1])), (q1, .inl (cI, sz, .inl x1_0))] → va_S A s.heap H locs → lv_has ls 3 [(2, .int (nI k1)), (0, .ref q0), (1, .int a1)] → W p l e (mR 0 0) s m args below meth c H locs 0 0 Q (F0 m 2 ls []) := by
    intro n_1
    induction n_1 with
    | zero => intro k1 x1_0 H locs ls hk_1 hn_1 hB_1 hP hD hS hl; exact absurd hn_1 (Nat.not_lt_zero _)
    | succ n_1 ih_1 =>
      intro k1 x1_0 H locs ls hk_1 hn_1 hB_1 hP hD hS hl
      refine lv_iload_n hx hb dX2_fill_2 rfl (lv_at hl 0 rfl) ?_
      refine lv_aload_n hx hb dX2_fill_3 rfl (lv_at hl 1 rfl) ?_
      refine r_get (C := RX2) (T := TX2) (N := 1) (v := .ref q1) CF hE hP 0 rfl rfl inG2 0 (by decide) tw_1_35 rfl rfl dX2_fill_4 ?_
      refine r_alen (k := sz) (f := x1_0) CF hE hP 1 rfl dX2_fill_7 ?_
      refine lv_icmp_ge (tgt := 24) hx hb dX2_fill_8 (by decide) (fun c_2 => ?_) (fun c_2 => ?_)
      · have o_2 : sz ≤ k1 := (cle (rfl : nI sz = nI sz) (rfl : nI k1 = nI k1) (by omega) (by omega)).mp c_2
        have hkN : sz = k1 := by omega
        subst hkN
        subst hB_1
        exact mu_retv CF hQ hr hlk hP hS dX2_fill_24 rfl
      · have o_2 : ¬ sz ≤ k1 := fun h => c_2 ((cle (rfl : nI sz = nI sz) (rfl : nI k1 = nI k1) (by omega) (by omega)).mpr h)
        refine lv_aload_n hx hb dX2_fill_11 rfl (lv_at hl 1 rfl) ?_
        refine r_get (C := RX2) (T := TX2) (N := 1) (v := .ref q1) CF hE hP 0 rfl rfl inG2 0 (by decide) tw_1_35 rfl rfl dX2_fill_12 ?_
        refine lv_iload_n hx hb dX2_fill_15 rfl (lv_at hl 0 rfl) ?_
        refine lv_iload_n hx hb dX2_fill_16 rfl (lv_at hl 2 rfl) ?_
        refine r_iast (k := sz) (f := x1_0) (ws' := [(q0, .inr (2, [.ref q1])), (q1, .inl (cI, sz, .inl (upd x1_0 k1 a1)))]) CF hE hP hD hS 1 rfl k1 (rfl : nI k1 = nI k1) (by omega) (by omega) dX2_fill_17 rfl (fun H locs hP hD hS => ?_)
        refine lv_iinc (v := (nI (k1 + 1))) (lv' := [(2, .int (nI (k1 + 1))), (0, .ref q0), (1, .int a1)]) hx hb dX2_fill_18 hl (k := 0) rfl (nf_inc 1 (rfl : nI k1 = nI k1)) (by decide) rfl (fun ls hl => ?_)
        refine lv_goto (tgt := 2) hx hb dX2_fill_21 (by decide) ?_
        have hB2 : B_X2_fill_2 a1 sf (k1 + 1) = (upd x1_0 k1 a1) := by
          rw [B_X2_fill_2, hB_1]
          rw [S_X2_fill_2]
        exact ih_1 (k1 + 1) (upd x1_0 k1 a1) _ _ _ (by omega) (by omega) hB2 hP hD hS (lv_sub hl [0, 1, 2] rfl)
  have e_k : 0 = nI (0) := (nf_c 0).trans (congrArg nI (by omega))
  rw [e_k] at hl
  exact LOOP_2 (sz - 0 + 1) 0 sf _ _ _ (Nat.zero_le _) (by omega) rfl hP hD hS (lv_sub hl [0, 1, 2] rfl)
theorem lk_X2_19 : mLkV RX2 19 yX2_at cX2_at 2 (some .int) 1 := ⟨⟨tw_2_136, tw_1_3, tw_1_200, ⟨by decide +kernel, by decide +kernel, by decide +kernel⟩⟩, tw_1_198, tw_1_199⟩
theorem lk_X2_23 : mLkV RX2 23 yX2_put cX2_put 3 none 2 := ⟨⟨tw_2_137, tw_1_3, tw_1_172, ⟨by decide +kernel, by decide +kernel, by decide +kernel⟩⟩, tw_1_170, tw_1_171⟩
def S_X2_copy_3 (sz : Nat) (sy : Nat) (sg : Nat → Int32) (a1 : Int32) (a3 : Int32) (k1 : Nat) (x1_0 : Nat → Int32) : (Nat → Int32) :=
  (f_X2_put_sf sz x1_0 (a1 + (nI k1)) (f_X2_at sy sg (a3 + (nI k1))))
def B_X2_copy_3 (sz : Nat) (sy : Nat) (sg : Nat → Int32) (a1 : Int32) (a3 : Int32) (i0 : Nat → Int32) : Nat → (Nat → Int32)
  | 0 => i0
  | k + 1 => S_X2_copy_3 sz sy sg a1 a3 k (B_X2_copy_3 sz sy sg a1 a3 i0 k)
set_option maxRecDepth 100000 in
set_option maxHeartbeats 4000000 in
theorem c_X2_copy (l : Launch) (D : va_G) (cI cZ : ClassId) (q0 q1 q2 q3 : Nat) (sz : Nat) (sy : Nat) (sf : Nat → Int32) (sg : Nat → Int32) (a1 : Int32) (a3 : Int32) (a4 : Int32) (n4 : Nat) (h_a4 : a4 = nI n4) (hsz : sz < 2 ^ 31) (hsy : sy < 2 ^ 31) (hn4 : n4 < 2 ^ 31) : MU l D cI cZ yX2_copy cX2_copy 6 none (mR 1 22) [.ref q0, .int a1, .ref q2, .int a3, .int a4] [(q0, .inr (2, [.ref q1])), (q1, .inl (cI, sz, .inl sf)), (q2, .inr (2, [.ref q3])), (q3, .inl (cI, sy, .inl sg))] [(q0, .inr (2, [.ref q1])), (q1, .inl (cI, sz, .inl ((B_X2_copy_3 sz sy sg a1 a3 sf n4)))), (q2, .inr (2, [.ref q3])), (q3, .inl (cI, sy, .inl sg))] none := by
  refine MU.of (by decide +kernel) (Nat.le_of_ble_eq_true rfl) ?_
  intro p e s m args below meth c ls Q A CF hr hlk hP hE hD hS hQ hl
  have hx := CF.1
  have hb := CF.2.1
  have hl : lv_has ls 6 [(0, .ref q0), (1, .int a1), (2, .ref q2), (3, .int a3), (4, .int a4)] := hl
  refine lv_iconst (v := 0) hx hb dX2_copy_0 (by decide) ?_
  refine lv_istore (lv' := [(5, .int 0), (0, .ref q0), (1, .int a1), (2, .ref q2), (3, .int a3), (4, .int a4)]) hx hb dX2_copy_1 hl (by decide) rfl (fun ls hl => ?_)
  have LOOP_3 : ∀ (n_1 k1 : Nat) (x1_0 : Nat → Int32) (H : Heap) (locs : List Loc) (ls : Array Slot), k1 ≤ n4 → n4 - k1 < n_1 → (B_X2_copy_3 sz sy sg a1 a3 sf k1) = x1_0 → va_P D vwCl [(q0, .inr (2, [.ref q1])), (q1, .inl (cI, sz, .inl x1_0)), (q2, .inr (2, [.ref q3])), (q3, .inl (cI, sy, .inl sg))] H → va_D A [(q0, .inr (2, [.ref q1])), (q1, .inl (cI, sz, .inl x1_0)), (q2, .inr (2, [.ref q3])), (q3, .inl (cI, sy, .inl sg))] → va_S A s.heap H locs → lv_has ls 6 [(5, .int (nI k1)), (0, .ref q0), (1, .int a1), (2, .ref q2), (3, .int a3), (4, .int a4)] → W p l e (mR 1 22) s m args below meth c H locs 0 0 Q (F0 m 3 ls []) := by
    intro n_1
    induction n_1 with
    | zero => intro k1 x1_0 H locs ls hk_1 hn_1 hB_1 hP hD hS hl; exact absurd hn_1 (Nat.not_lt_zero _)
    | succ n_1 ih_1 =>
      intro k1 x1_0 H locs ls hk_1 hn_1 hB_1 hP hD hS hl
      refine lv_iload hx hb dX2_copy_3 (lv_at hl 0 rfl) ?_
      refine lv_iload hx hb dX2_copy_5 (lv_at hl 5 rfl) ?_
      refine lv_icmp_ge (tgt := 32) hx hb dX2_copy_7 (by decide) (fun c_2 => ?_) (fun c_2 => ?_)
      · have o_2 : n4 ≤ k1 := (cle h_a4 (rfl : nI k1 = nI k1) (by omega) (by omega)).mp c_2
        have hkN : n4 = k1 := by omega
        subst hkN
        subst hB_1
        exact mu_retv CF hQ hr hlk hP hS dX2_copy_32 rfl
      · have o_2 : ¬ n4 ≤ k1 := fun h => c_2 ((cle h_a4 (rfl : nI k1 = nI k1) (by omega) (by omega)).mpr h)
        refine lv_aload_n hx hb dX2_copy_10 rfl (lv_at hl 1 rfl) ?_
        refine lv_iload_n hx hb dX2_copy_11 rfl (lv_at hl 2 rfl) ?_
        refine lv_iload hx hb dX2_copy_12 (lv_at hl 0 rfl) ?_
        refine lv_iadd hx hb dX2_copy_14 ?_
        refine lv_aload_n hx hb dX2_copy_15 rfl (lv_at hl 3 rfl) ?_
        refine lv_iload_n hx hb dX2_copy_16 rfl (lv_at hl 4 rfl) ?_
        refine lv_iload hx hb dX2_copy_17 (lv_at hl 0 rfl) ?_
        refine lv_iadd hx hb dX2_copy_19 ?_
        refine ro_V (y := yX2_at) (As := [.int (a3 + (nI k1))]) (rest := [.int (a1 + (nI k1)), .ref q0]) (q0 := 2) CF (c_X2_at l D cI cZ q2 q3 sy sg (a3 + (nI k1)) (by omega)) lk_X2_19 hP hE [2, 3] rfl rfl rfl rfl hl.1 rfl (Nat.le_of_ble_eq_true rfl) ⟨Nat.le_of_ble_eq_true rfl, Nat.le_of_ble_eq_true rfl, rfl, rfl⟩ ⟨Nat.zero_le _, Nat.zero_le _⟩ dX2_copy_20 ?_
        refine mu_Vv (y := yX2_put) (As := [.int (a1 + (nI k1)), .int (f_X2_at sy sg (a3 + (nI k1)))]) (rest := []) (q0 := 0) (ws' := [(q0, .inr (2, [.ref q1])), (q1, .inl (cI, sz, .inl (f_X2_put_sf sz x1_0 (a1 + (nI k1)) (f_X2_at sy sg (a3 + (nI k1)))))), (q2, .inr (2, [.ref q3])), (q3, .inl (cI, sy, .inl sg))]) CF (c_X2_put l D cI cZ q0 q1 sz x1_0 (a1 + (nI k1)) (f_X2_at sy sg (a3 + (nI k1))) (by omega)) lk_X2_23 hP hE hD hS [0, 1] rfl (by decide) (Nat.le_of_ble_eq_true rfl) rfl rfl rfl rfl rfl hl.1 rfl (Nat.le_of_ble_eq_true rfl) ⟨Nat.le_of_ble_eq_true rfl, Nat.le_of_ble_eq_true rfl, rfl, rfl⟩ ⟨Nat.zero_le _, Nat.zero_le _⟩ dX2_copy_23 (fun H locs hP hD hS => ?_)
        refine lv_iinc (v := (nI (k1 + 1))) (lv' := [(5, .int (nI (k1 + 1))), (0, .ref q0), (1, .int a1), (2, .ref q2), (3, .int a3), (4, .int a4)]) hx hb dX2_copy_26 hl (k := 0) rfl (nf_inc 1 (rfl : nI k1 = nI k1)) (by decide) rfl (fun ls hl => ?_)
        refine lv_goto (tgt := 3) hx hb dX2_copy_29 (by decide) ?_
        have hB2 : B_X2_copy_3 sz sy sg a1 a3 sf (k1 + 1) = (f_X2_put_sf sz x1_0 (a1 + (nI k1)) (f_X2_at sy sg (a3 + (nI k1)))) := by
          rw [B_X2_copy_3, hB_1]
          rw [S_X2_copy_3]
        exact ih_1 (k1 + 1) (f_X2_put_sf sz x1_0 (a1 + (nI k1)) (f_X2_at sy sg (a3 + (nI k1)))) _ _ _ (by omega) (by omega) hB2 hP hD hS (lv_sub hl [0, 1, 2, 3, 4, 5] rfl)
  have e_k : 0 = nI (0) := (nf_c 0).trans (congrArg nI (by omega))
  rw [e_k] at hl
  exact LOOP_3 (n4 - 0 + 1) 0 sf _ _ _ (Nat.zero_le _) (by omega) rfl hP hD hS (lv_sub hl [0, 1, 2, 3, 4, 5] rfl)
set_option maxRecDepth 100000 in
set_option maxHeartbeats 4000000 in
theorem c_X3_count (l : Launch) (D : va_G) (cI cZ : ClassId) (q0 : Nat) (sc : Int32) (su : Int32) (sp : Int32) : RO l D cI cZ yX3_count cX3_count 1 (some .int) (mR 0 0) [.ref q0] [(q0, .inr (3, [.int sc, .int su, .int sp]))] (some (.int sc)) := by
  refine RO.of (by decide +kernel) (Nat.le_of_ble_eq_true rfl) ?_
  intro p e s m args below meth c ls Q CF hr hlk hP hE hQ hl
  have hx := CF.1
  have hb := CF.2.1
  have hl : lv_has ls 1 [(0, .ref q0)] := hl
  refine lv_aload_n hx hb dX3_count_0 rfl (lv_at hl 0 rfl) ?_
  refine r_get (C := RX3) (T := TX3) (N := 3) (v := .int sc) CF hE hP 0 rfl rfl inG3 0 (by decide) tw_1_123 rfl rfl dX3_count_1 ?_
  exact ro_ret CF hQ hr hlk rfl dX3_count_4 rfl
def f_X3_add (sc : Int32) (a2 : Int32) : Int32 :=
  (if sc < 6 then (if a2 = 0 then (sc + 1) else (sc + 1)) else (-4))
def f_X3_add_sc (sc : Int32) (a2 : Int32) : Int32 :=
  (if sc < 6 then (if a2 = 0 then (sc + 1) else (sc + 1)) else sc)
def f_X3_add_su (sc : Int32) (su : Int32) (a1 : Int32) (a2 : Int32) : Int32 :=
  (if sc < 6 then (if a2 = 0 then su else (su ||| (1 <<< (a1 &&& 31)))) else su)
def f_X3_add_sp (sc : Int32) (sp : Int32) (a1 : Int32) (a2 : Int32) : Int32 :=
  (if sc < 6 then (if a2 = 0 then (sp ||| (1 <<< (a1 &&& 31))) else sp) else sp)
set_option maxRecDepth 100000 in
set_option maxHeartbeats 4000000 in
theorem c_X3_add (l : Launch) (D : va_G) (cI cZ : ClassId) (q0 : Nat) (sc : Int32) (su : Int32) (sp : Int32) (a1 : Int32) (a2 : Int32) : MU l D cI cZ yX3_add cX3_add 3 (some .int) (mR 0 0) [.ref q0, .int a1, .int a2] [(q0, .inr (3, [.int sc, .int su, .int sp]))] [(q0, .inr (3, [.int (f_X3_add_sc sc a2), .int (f_X3_add_su sc su a1 a2), .int (f_X3_add_sp sc sp a1 a2)]))] (some (.int (f_X3_add sc a2))) := by
  refine MU.of (by decide +kernel) (Nat.le_of_ble_eq_true rfl) ?_
  intro p e s m args below meth c ls Q A CF hr hlk hP hE hD hS hQ hl
  have hx := CF.1
  have hb := CF.2.1
  have hl : lv_has ls 3 [(0, .ref q0), (1, .int a1), (2, .int a2)] := hl
  refine lv_aload_n hx hb dX3_add_0 rfl (lv_at hl 0 rfl) ?_
  refine r_get (C := RX3) (T := TX3) (N := 3) (v := .int sc) CF hE hP 0 rfl rfl inG3 0 (by decide) tw_1_123 rfl rfl dX3_add_1 ?_
  refine lv_bipush (v := 6) hx hb dX3_add_4 (by decide) ?_
  refine lv_icmp_lt (tgt := 12) hx hb dX3_add_6 (by decide) (fun c_1 => ?_) (fun c_1 => ?_)
  · refine lv_iload_n hx hb dX3_add_12 rfl (lv_at hl 2 rfl) ?_
    refine lv_if_eq (tgt := 31) hx hb dX3_add_13 (by decide) (fun c_2 => ?_) (fun c_2 => ?_)
    · refine lv_aload_n hx hb dX3_add_31 rfl (lv_at hl 0 rfl) ?_
      refine lv_dup hx hb dX3_add_32 rfl ?_
      refine r_get (C := RX3) (T := TX3) (N := 3) (v := .int sp) CF hE hP 0 rfl rfl inG3 2 (by decide) tw_1_125 rfl rfl dX3_add_33 ?_
      refine lv_iconst (v := 1) hx hb dX3_add_36 (by decide) ?_
      refine lv_iload_n hx hb dX3_add_37 rfl (lv_at hl 1 rfl) ?_
      refine lv_ishl hx hb dX3_add_38 ?_
      refine lv_ior hx hb dX3_add_39 ?_
      refine r_put (C := RX3) (T := TX3) (N := 3) (ws' := [(q0, .inr (3, [.int sc, .int su, .int (sp ||| (1 <<< (a1 &&& 31)))]))]) CF hE hP hD hS 0 rfl rfl inG3 tyX3 tyX3_ok nmX3 2 (by decide) tw_1_125 rfl rfl rfl rfl (Nat.le_of_ble_eq_true rfl) dX3_add_40 rfl (fun H locs hP hD hS => ?_)
      refine lv_aload_n hx hb dX3_add_43 rfl (lv_at hl 0 rfl) ?_
      refine lv_dup hx hb dX3_add_44 rfl ?_
      refine r_get (C := RX3) (T := TX3) (N := 3) (v := .int sc) CF hE hP 0 rfl rfl inG3 0 (by decide) tw_1_123 rfl rfl dX3_add_45 ?_
      refine lv_iconst (v := 1) hx hb dX3_add_48 (by decide) ?_
      refine lv_iadd hx hb dX3_add_49 ?_
      refine r_put (C := RX3) (T := TX3) (N := 3) (ws' := [(q0, .inr (3, [.int (sc + 1), .int su, .int (sp ||| (1 <<< (a1 &&& 31)))]))]) CF hE hP hD hS 0 rfl rfl inG3 tyX3 tyX3_ok nmX3 0 (by decide) tw_1_123 rfl rfl rfl rfl (Nat.le_of_ble_eq_true rfl) dX3_add_50 rfl (fun H locs hP hD hS => ?_)
      refine lv_aload_n hx hb dX3_add_53 rfl (lv_at hl 0 rfl) ?_
      refine r_get (C := RX3) (T := TX3) (N := 3) (v := .int (sc + 1)) CF hE hP 0 rfl rfl inG3 0 (by decide) tw_1_123 rfl rfl dX3_add_54 ?_
      have e_0 : (f_X3_add_sc sc a2) = (sc + 1) := by rw [f_X3_add_sc, if_pos c_1, if_pos c_2]
      have e_1 : (f_X3_add_su sc su a1 a2) = su := by rw [f_X3_add_su, if_pos c_1, if_pos c_2]
      have e_2 : (f_X3_add_sp sc sp a1 a2) = (sp ||| (1 <<< (a1 &&& 31))) := by rw [f_X3_add_sp, if_pos c_1, if_pos c_2]
      exact mu_reti CF hQ hr hlk rfl hP hS dX3_add_57 (by rw [f_X3_add, if_pos c_1, if_pos c_2]) (by rw [e_0, e_1, e_2])
    · refine lv_aload_n hx hb dX3_add_16 rfl (lv_at hl 0 rfl) ?_
      refine lv_dup hx hb dX3_add_17 rfl ?_
      refine r_get (C := RX3) (T := TX3) (N := 3) (v := .int su) CF hE hP 0 rfl rfl inG3 1 (by decide) tw_1_124 rfl rfl dX3_add_18 ?_
      refine lv_iconst (v := 1) hx hb dX3_add_21 (by decide) ?_
      refine lv_iload_n hx hb dX3_add_22 rfl (lv_at hl 1 rfl) ?_
      refine lv_ishl hx hb dX3_add_23 ?_
      refine lv_ior hx hb dX3_add_24 ?_
      refine r_put (C := RX3) (T := TX3) (N := 3) (ws' := [(q0, .inr (3, [.int sc, .int (su ||| (1 <<< (a1 &&& 31))), .int sp]))]) CF hE hP hD hS 0 rfl rfl inG3 tyX3 tyX3_ok nmX3 1 (by decide) tw_1_124 rfl rfl rfl rfl (Nat.le_of_ble_eq_true rfl) dX3_add_25 rfl (fun H locs hP hD hS => ?_)
      refine lv_goto (tgt := 43) hx hb dX3_add_28 (by decide) ?_
      refine lv_aload_n hx hb dX3_add_43 rfl (lv_at hl 0 rfl) ?_
      refine lv_dup hx hb dX3_add_44 rfl ?_
      refine r_get (C := RX3) (T := TX3) (N := 3) (v := .int sc) CF hE hP 0 rfl rfl inG3 0 (by decide) tw_1_123 rfl rfl dX3_add_45 ?_
      refine lv_iconst (v := 1) hx hb dX3_add_48 (by decide) ?_
      refine lv_iadd hx hb dX3_add_49 ?_
      refine r_put (C := RX3) (T := TX3) (N := 3) (ws' := [(q0, .inr (3, [.int (sc + 1), .int (su ||| (1 <<< (a1 &&& 31))), .int sp]))]) CF hE hP hD hS 0 rfl rfl inG3 tyX3 tyX3_ok nmX3 0 (by decide) tw_1_123 rfl rfl rfl rfl (Nat.le_of_ble_eq_true rfl) dX3_add_50 rfl (fun H locs hP hD hS => ?_)
      refine lv_aload_n hx hb dX3_add_53 rfl (lv_at hl 0 rfl) ?_
      refine r_get (C := RX3) (T := TX3) (N := 3) (v := .int (sc + 1)) CF hE hP 0 rfl rfl inG3 0 (by decide) tw_1_123 rfl rfl dX3_add_54 ?_
      have e_0 : (f_X3_add_sc sc a2) = (sc + 1) := by rw [f_X3_add_sc, if_pos c_1, if_neg c_2]
      have e_1 : (f_X3_add_su sc su a1 a2) = (su ||| (1 <<< (a1 &&& 31))) := by rw [f_X3_add_su, if_pos c_1, if_neg c_2]
      have e_2 : (f_X3_add_sp sc sp a1 a2) = sp := by rw [f_X3_add_sp, if_pos c_1, if_neg c_2]
      exact mu_reti CF hQ hr hlk rfl hP hS dX3_add_57 (by rw [f_X3_add, if_pos c_1, if_neg c_2]) (by rw [e_0, e_1, e_2])
  · refine lv_bipush (v := (-4)) hx hb dX3_add_9 (by decide) ?_
    have e_0 : (f_X3_add_sc sc a2) = sc := by rw [f_X3_add_sc, if_neg c_1]
    have e_1 : (f_X3_add_su sc su a1 a2) = su := by rw [f_X3_add_su, if_neg c_1]
    have e_2 : (f_X3_add_sp sc sp a1 a2) = sp := by rw [f_X3_add_sp, if_neg c_1]
    exact mu_reti CF hQ hr hlk rfl hP hS dX3_add_11 (by rw [f_X3_add, if_neg c_1]) (by rw [e_0, e_1, e_2])
set_option maxRecDepth 100000 in
set_option maxHeartbeats 4000000 in
theorem c_X3_clear (l : Launch) (D : va_G) (cI cZ : ClassId) (q0 : Nat) (sc : Int32) (su : Int32) (sp : Int32) : MU l D cI cZ yX3_clear cX3_clear 2 (some .int) (mR 0 0) [.ref q0] [(q0, .inr (3, [.int sc, .int su, .int sp]))] [(q0, .inr (3, [.int 0, .int 0, .int 0]))] (some (.int sc)) := by
  refine MU.of (by decide +kernel) (Nat.le_of_ble_eq_true rfl) ?_
  intro p e s m args below meth c ls Q A CF hr hlk hP hE hD hS hQ hl
  have hx := CF.1
  have hb := CF.2.1
  have hl : lv_has ls 2 [(0, .ref q0)] := hl
  refine lv_aload_n hx hb dX3_clear_0 rfl (lv_at hl 0 rfl) ?_
  refine r_get (C := RX3) (T := TX3) (N := 3) (v := .int sc) CF hE hP 0 rfl rfl inG3 0 (by decide) tw_1_123 rfl rfl dX3_clear_1 ?_
  refine lv_istore_n (lv' := [(1, .int sc), (0, .ref q0)]) hx hb dX3_clear_4 rfl hl (by decide) rfl (fun ls hl => ?_)
  refine lv_aload_n hx hb dX3_clear_5 rfl (lv_at hl 1 rfl) ?_
  refine lv_iconst (v := 0) hx hb dX3_clear_6 (by decide) ?_
  refine r_put (C := RX3) (T := TX3) (N := 3) (ws' := [(q0, .inr (3, [.int 0, .int su, .int sp]))]) CF hE hP hD hS 0 rfl rfl inG3 tyX3 tyX3_ok nmX3 0 (by decide) tw_1_123 rfl rfl rfl rfl (Nat.le_of_ble_eq_true rfl) dX3_clear_7 rfl (fun H locs hP hD hS => ?_)
  refine lv_aload_n hx hb dX3_clear_10 rfl (lv_at hl 1 rfl) ?_
  refine lv_iconst (v := 0) hx hb dX3_clear_11 (by decide) ?_
  refine r_put (C := RX3) (T := TX3) (N := 3) (ws' := [(q0, .inr (3, [.int 0, .int 0, .int sp]))]) CF hE hP hD hS 0 rfl rfl inG3 tyX3 tyX3_ok nmX3 1 (by decide) tw_1_124 rfl rfl rfl rfl (Nat.le_of_ble_eq_true rfl) dX3_clear_12 rfl (fun H locs hP hD hS => ?_)
  refine lv_aload_n hx hb dX3_clear_15 rfl (lv_at hl 1 rfl) ?_
  refine lv_iconst (v := 0) hx hb dX3_clear_16 (by decide) ?_
  refine r_put (C := RX3) (T := TX3) (N := 3) (ws' := [(q0, .inr (3, [.int 0, .int 0, .int 0]))]) CF hE hP hD hS 0 rfl rfl inG3 tyX3 tyX3_ok nmX3 2 (by decide) tw_1_125 rfl rfl rfl rfl (Nat.le_of_ble_eq_true rfl) dX3_clear_17 rfl (fun H locs hP hD hS => ?_)
  refine lv_iload_n hx hb dX3_clear_20 rfl (lv_at hl 0 rfl) ?_
  exact mu_reti CF hQ hr hlk rfl hP hS dX3_clear_21 rfl rfl
def f_X3_allows (su : Int32) (sp : Int32) (a1 : Int32) : Int32 :=
  (if (a1 &&& su) = su then (if (a1 &&& sp) = 0 then 1 else 0) else 0)
theorem z_f_X3_allows (su : Int32) (sp : Int32) (a1 : Int32) : narrow .boolean (.int (f_X3_allows su sp a1)) = .int (f_X3_allows su sp a1) := by
  unfold f_X3_allows
  repeat' split
  all_goals first | rfl
set_option maxRecDepth 100000 in
set_option maxHeartbeats 4000000 in
theorem c_X3_allows (l : Launch) (D : va_G) (cI cZ : ClassId) (q0 : Nat) (sc : Int32) (su : Int32) (sp : Int32) (a1 : Int32) : RO l D cI cZ yX3_allows cX3_allows 2 (some .boolean) (mR 0 0) [.ref q0, .int a1] [(q0, .inr (3, [.int sc, .int su, .int sp]))] (some (.int (f_X3_allows su sp a1))) := by
  refine RO.of (by decide +kernel) (Nat.le_of_ble_eq_true rfl) ?_
  intro p e s m args below meth c ls Q CF hr hlk hP hE hQ hl
  have hx := CF.1
  have hb := CF.2.1
  have hl : lv_has ls 2 [(0, .ref q0), (1, .int a1)] := hl
  refine lv_iload_n hx hb dX3_allows_0 rfl (lv_at hl 1 rfl) ?_
  refine lv_aload_n hx hb dX3_allows_1 rfl (lv_at hl 0 rfl) ?_
  refine r_get (C := RX3) (T := TX3) (N := 3) (v := .int su) CF hE hP 0 rfl rfl inG3 1 (by decide) tw_1_124 rfl rfl dX3_allows_2 ?_
  refine lv_iand hx hb dX3_allows_5 ?_
  refine lv_aload_n hx hb dX3_allows_6 rfl (lv_at hl 0 rfl) ?_
  refine r_get (C := RX3) (T := TX3) (N := 3) (v := .int su) CF hE hP 0 rfl rfl inG3 1 (by decide) tw_1_124 rfl rfl dX3_allows_7 ?_
  refine lv_icmp_ne (tgt := 26) hx hb dX3_allows_10 (by decide) (fun c_1 => ?_) (fun c_1 => ?_)
  · refine lv_iconst (v := 0) hx hb dX3_allows_26 (by decide) ?_
    exact ro_ret CF hQ hr hlk rfl dX3_allows_27 (by rw [f_X3_allows, if_neg c_1])
  · refine lv_iload_n hx hb dX3_allows_13 rfl (lv_at hl 1 rfl) ?_
    refine lv_aload_n hx hb dX3_allows_14 rfl (lv_at hl 0 rfl) ?_
    refine r_get (C := RX3) (T := TX3) (N := 3) (v := .int sp) CF hE hP 0 rfl rfl inG3 2 (by decide) tw_1_125 rfl rfl dX3_allows_15 ?_
    refine lv_iand hx hb dX3_allows_18 ?_
    refine lv_if_ne (tgt := 26) hx hb dX3_allows_19 (by decide) (fun c_2 => ?_) (fun c_2 => ?_)
    · refine lv_iconst (v := 0) hx hb dX3_allows_26 (by decide) ?_
      exact ro_ret CF hQ hr hlk rfl dX3_allows_27 (by rw [f_X3_allows, if_pos c_1, if_neg c_2])
    · refine lv_iconst (v := 1) hx hb dX3_allows_22 (by decide) ?_
      refine lv_goto (tgt := 27) hx hb dX3_allows_23 (by decide) ?_
      exact ro_ret CF hQ hr hlk rfl dX3_allows_27 (by rw [f_X3_allows, if_pos c_1, if_pos c_2])
theorem lk_X4_21 : mLkV RX4 21 yX2_copy cX2_copy 6 none 4 := ⟨⟨tw_2_132, tw_1_3, tw_2_135, ⟨by decide +kernel, by decide +kernel, by decide +kernel⟩⟩, tw_2_133, tw_2_134⟩
set_option maxRecDepth 100000 in
set_option maxHeartbeats 4000000 in
theorem c_X4_store (l : Launch) (D : va_G) (cI cZ : ClassId) (q0 q1 q2 q3 q4 q5 q6 : Nat) (sz : Nat) (sf : Nat → Int32) (nw : Nat → Int32) (a1 : Int32) (hsz : sz < 2 ^ 31) : MU l D cI cZ yX4_store cX4_store 3 none (mR 2 47) [.ref q0, .int a1, .ref q3] [(q0, .inr (4, [.ref q1])), (q1, .inr (2, [.ref q2])), (q2, .inl (cI, sz, .inl sf)), (q3, .inr (1, [.ref q4, .ref q5])), (q5, .inr (2, [.ref q6])), (q6, .inl (cI, 15, .inl nw))] [(q0, .inr (4, [.ref q1])), (q1, .inr (2, [.ref q2])), (q2, .inl (cI, sz, .inl ((B_X2_copy_3 sz 15 nw (a1 * 15) 0 sf 15)))), (q3, .inr (1, [.ref q4, .ref q5])), (q5, .inr (2, [.ref q6])), (q6, .inl (cI, 15, .inl nw))] none := by
  refine MU.of (by decide +kernel) (Nat.le_of_ble_eq_true rfl) ?_
  intro p e s m args below meth c ls Q A CF hr hlk hP hE hD hS hQ hl
  have hx := CF.1
  have hb := CF.2.1
  have hl : lv_has ls 3 [(0, .ref q0), (1, .int a1), (2, .ref q3)] := hl
  refine lv_aload_n hx hb dX4_store_0 rfl (lv_at hl 0 rfl) ?_
  refine r_get (C := RX4) (T := TX4) (N := 1) (v := .ref q1) CF hE hP 0 rfl rfl inG4 0 (by decide) tw_1_101 rfl rfl dX4_store_1 ?_
  refine lv_iload_n hx hb dX4_store_4 rfl (lv_at hl 1 rfl) ?_
  refine lv_bipush (v := 15) hx hb dX4_store_5 (by decide) ?_
  refine lv_imul hx hb dX4_store_7 ?_
  refine lv_aload_n hx hb dX4_store_8 rfl (lv_at hl 2 rfl) ?_
  refine r_getN (C := RX1) (T := TX1) (N := 2) (v := .ref q5) (host := RX7) CF hE hP 3 rfl rfl inG1 1 (by decide) (by decide +kernel) rfl rfl dX4_store_9 ?_
  refine lv_iconst (v := 0) hx hb dX4_store_12 (by decide) ?_
  refine lv_bipush (v := 15) hx hb dX4_store_13 (by decide) ?_
  refine mu_Vv (y := yX2_copy) (As := [.int (a1 * 15), .ref q5, .int 0, .int 15]) (rest := []) (q0 := 1) (ws' := [(q0, .inr (4, [.ref q1])), (q1, .inr (2, [.ref q2])), (q2, .inl (cI, sz, .inl ((B_X2_copy_3 sz 15 nw (a1 * 15) 0 sf 15)))), (q3, .inr (1, [.ref q4, .ref q5])), (q5, .inr (2, [.ref q6])), (q6, .inl (cI, 15, .inl nw))]) CF (c_X2_copy l D cI cZ q1 q2 q5 q6 sz 15 sf nw (a1 * 15) 0 15 15 (nf_c 15) (by omega) (by omega) (by omega)) lk_X4_21 hP hE hD hS [1, 2, 4, 5] rfl (by decide) (Nat.le_of_ble_eq_true rfl) rfl rfl rfl rfl rfl hl.1 rfl (Nat.le_of_ble_eq_true rfl) ⟨Nat.le_of_ble_eq_true rfl, Nat.le_of_ble_eq_true rfl, rfl, rfl⟩ ⟨Nat.zero_le _, Nat.zero_le _⟩ dX4_store_15 (fun H locs hP hD hS => ?_)
  exact mu_retv CF hQ hr hlk hP hS dX4_store_18 rfl
set_option maxRecDepth 100000 in
set_option maxHeartbeats 4000000 in
theorem c_X4_fetch (l : Launch) (D : va_G) (cI cZ : ClassId) (q0 q1 q2 q3 q4 q5 q6 : Nat) (sz : Nat) (sf : Nat → Int32) (nw : Nat → Int32) (a1 : Int32) (hsz : sz < 2 ^ 31) : MU l D cI cZ yX4_fetch cX4_fetch 3 none (mR 2 47) [.ref q0, .int a1, .ref q3] [(q0, .inr (4, [.ref q1])), (q1, .inr (2, [.ref q2])), (q2, .inl (cI, sz, .inl sf)), (q3, .inr (1, [.ref q4, .ref q5])), (q5, .inr (2, [.ref q6])), (q6, .inl (cI, 15, .inl nw))] [(q0, .inr (4, [.ref q1])), (q1, .inr (2, [.ref q2])), (q2, .inl (cI, sz, .inl sf)), (q3, .inr (1, [.ref q4, .ref q5])), (q5, .inr (2, [.ref q6])), (q6, .inl (cI, 15, .inl ((B_X2_copy_3 15 sz sf 0 (a1 * 15) nw 15))))] none := by
  refine MU.of (by decide +kernel) (Nat.le_of_ble_eq_true rfl) ?_
  intro p e s m args below meth c ls Q A CF hr hlk hP hE hD hS hQ hl
  have hx := CF.1
  have hb := CF.2.1
  have hl : lv_has ls 3 [(0, .ref q0), (1, .int a1), (2, .ref q3)] := hl
  refine lv_aload_n hx hb dX4_fetch_0 rfl (lv_at hl 2 rfl) ?_
  refine r_getN (C := RX1) (T := TX1) (N := 2) (v := .ref q5) (host := RX7) CF hE hP 3 rfl rfl inG1 1 (by decide) (by decide +kernel) rfl rfl dX4_fetch_1 ?_
  refine lv_iconst (v := 0) hx hb dX4_fetch_4 (by decide) ?_
  refine lv_aload_n hx hb dX4_fetch_5 rfl (lv_at hl 0 rfl) ?_
  refine r_get (C := RX4) (T := TX4) (N := 1) (v := .ref q1) CF hE hP 0 rfl rfl inG4 0 (by decide) tw_1_101 rfl rfl dX4_fetch_6 ?_
  refine lv_iload_n hx hb dX4_fetch_9 rfl (lv_at hl 1 rfl) ?_
  refine lv_bipush (v := 15) hx hb dX4_fetch_10 (by decide) ?_
  refine lv_imul hx hb dX4_fetch_12 ?_
  refine lv_bipush (v := 15) hx hb dX4_fetch_13 (by decide) ?_
  refine mu_Vv (y := yX2_copy) (As := [.int 0, .ref q1, .int (a1 * 15), .int 15]) (rest := []) (q0 := 4) (ws' := [(q0, .inr (4, [.ref q1])), (q1, .inr (2, [.ref q2])), (q2, .inl (cI, sz, .inl sf)), (q3, .inr (1, [.ref q4, .ref q5])), (q5, .inr (2, [.ref q6])), (q6, .inl (cI, 15, .inl ((B_X2_copy_3 15 sz sf 0 (a1 * 15) nw 15))))]) CF (c_X2_copy l D cI cZ q5 q6 q1 q2 15 sz nw sf 0 (a1 * 15) 15 15 (nf_c 15) (by omega) (by omega) (by omega)) lk_X4_21 hP hE hD hS [4, 5, 1, 2] rfl (by decide) (Nat.le_of_ble_eq_true rfl) rfl rfl rfl rfl rfl hl.1 rfl (Nat.le_of_ble_eq_true rfl) ⟨Nat.le_of_ble_eq_true rfl, Nat.le_of_ble_eq_true rfl, rfl, rfl⟩ ⟨Nat.zero_le _, Nat.zero_le _⟩ dX4_fetch_15 (fun H locs hP hD hS => ?_)
  exact mu_retv CF hQ hr hlk hP hS dX4_fetch_18 rfl
set_option maxRecDepth 100000 in
set_option maxHeartbeats 4000000 in
theorem c_X5_people (l : Launch) (D : va_G) (cI cZ : ClassId) (q0 t1 t3 t5 t2 t4 t6 : Nat) (nP : Nat) (nR : Nat) (kd : Nat → Int32) (nd : Nat → Int32) (gv : Nat → Int32) : RO l D cI cZ yX5_people cX5_people 1 (some .int) (mR 0 0) [.ref q0] [(q0, .inr (5, [.ref t1, .ref t3, .ref t5, .int (nI nP), .int (nI nR)])), (t1, .inr (2, [.ref t2])), (t2, .inl (cI, 5, .inl kd)), (t3, .inr (2, [.ref t4])), (t4, .inl (cI, 4, .inl nd)), (t5, .inr (2, [.ref t6])), (t6, .inl (cI, 4, .inl gv))] (some (.int (nI nP))) := by
  refine RO.of (by decide +kernel) (Nat.le_of_ble_eq_true rfl) ?_
  intro p e s m args below meth c ls Q CF hr hlk hP hE hQ hl
  have hx := CF.1
  have hb := CF.2.1
  have hl : lv_has ls 1 [(0, .ref q0)] := hl
  refine lv_aload_n hx hb dX5_people_0 rfl (lv_at hl 0 rfl) ?_
  refine r_get (C := RX5) (T := TX5) (N := 5) (v := .int (nI nP)) CF hE hP 0 rfl rfl inG5 3 (by decide) tw_1_43 rfl rfl dX5_people_1 ?_
  exact ro_ret CF hQ hr hlk rfl dX5_people_4 rfl
set_option maxRecDepth 100000 in
set_option maxHeartbeats 4000000 in
theorem c_X5_rules (l : Launch) (D : va_G) (cI cZ : ClassId) (q0 t1 t3 t5 t2 t4 t6 : Nat) (nP : Nat) (nR : Nat) (kd : Nat → Int32) (nd : Nat → Int32) (gv : Nat → Int32) : RO l D cI cZ yX5_rules cX5_rules 1 (some .int) (mR 0 0) [.ref q0] [(q0, .inr (5, [.ref t1, .ref t3, .ref t5, .int (nI nP), .int (nI nR)])), (t1, .inr (2, [.ref t2])), (t2, .inl (cI, 5, .inl kd)), (t3, .inr (2, [.ref t4])), (t4, .inl (cI, 4, .inl nd)), (t5, .inr (2, [.ref t6])), (t6, .inl (cI, 4, .inl gv))] (some (.int (nI nR))) := by
  refine RO.of (by decide +kernel) (Nat.le_of_ble_eq_true rfl) ?_
  intro p e s m args below meth c ls Q CF hr hlk hP hE hQ hl
  have hx := CF.1
  have hb := CF.2.1
  have hl : lv_has ls 1 [(0, .ref q0)] := hl
  refine lv_aload_n hx hb dX5_rules_0 rfl (lv_at hl 0 rfl) ?_
  refine r_get (C := RX5) (T := TX5) (N := 5) (v := .int (nI nR)) CF hE hP 0 rfl rfl inG5 4 (by decide) tw_1_44 rfl rfl dX5_rules_1 ?_
  exact ro_ret CF hQ hr hlk rfl dX5_rules_4 rfl
theorem lk_X5_33 : mLkV RX5 33 yX2_at cX2_at 2 (some .int) 1 := ⟨⟨tw_2_67, tw_1_3, tw_1_200, ⟨by decide +kernel, by decide +kernel, by decide +kernel⟩⟩, tw_1_198, tw_1_199⟩
set_option maxRecDepth 100000 in
set_option maxHeartbeats 4000000 in
theorem c_X5_kind (l : Launch) (D : va_G) (cI cZ : ClassId) (q0 t1 t3 t5 t2 t4 t6 : Nat) (nP : Nat) (nR : Nat) (kd : Nat → Int32) (nd : Nat → Int32) (gv : Nat → Int32) (a1 : Int32) : RO l D cI cZ yX5_kind cX5_kind 2 (some .int) (mR 1 21) [.ref q0, .int a1] [(q0, .inr (5, [.ref t1, .ref t3, .ref t5, .int (nI nP), .int (nI nR)])), (t1, .inr (2, [.ref t2])), (t2, .inl (cI, 5, .inl kd)), (t3, .inr (2, [.ref t4])), (t4, .inl (cI, 4, .inl nd)), (t5, .inr (2, [.ref t6])), (t6, .inl (cI, 4, .inl gv))] (some (.int (f_X2_at 5 kd a1))) := by
  refine RO.of (by decide +kernel) (Nat.le_of_ble_eq_true rfl) ?_
  intro p e s m args below meth c ls Q CF hr hlk hP hE hQ hl
  have hx := CF.1
  have hb := CF.2.1
  have hl : lv_has ls 2 [(0, .ref q0), (1, .int a1)] := hl
  refine lv_aload_n hx hb dX5_kind_0 rfl (lv_at hl 0 rfl) ?_
  refine r_get (C := RX5) (T := TX5) (N := 5) (v := .ref t1) CF hE hP 0 rfl rfl inG5 0 (by decide) tw_1_40 rfl rfl dX5_kind_1 ?_
  refine lv_iload_n hx hb dX5_kind_4 rfl (lv_at hl 1 rfl) ?_
  refine ro_V (y := yX2_at) (As := [.int a1]) (rest := []) (q0 := 1) CF (c_X2_at l D cI cZ t1 t2 5 kd a1 (by omega)) lk_X5_33 hP hE [1, 2] rfl rfl rfl rfl hl.1 rfl (Nat.le_of_ble_eq_true rfl) ⟨Nat.le_of_ble_eq_true rfl, Nat.le_of_ble_eq_true rfl, rfl, rfl⟩ ⟨Nat.zero_le _, Nat.zero_le _⟩ dX5_kind_5 ?_
  exact ro_ret CF hQ hr hlk rfl dX5_kind_8 rfl
set_option maxRecDepth 100000 in
set_option maxHeartbeats 4000000 in
theorem c_X5_clear (l : Launch) (D : va_G) (cI cZ : ClassId) (q0 t1 t3 t5 t2 t4 t6 : Nat) (nP : Nat) (nR : Nat) (kd : Nat → Int32) (nd : Nat → Int32) (gv : Nat → Int32) : MU l D cI cZ yX5_clear cX5_clear 1 none (mR 0 0) [.ref q0] [(q0, .inr (5, [.ref t1, .ref t3, .ref t5, .int (nI nP), .int (nI nR)])), (t1, .inr (2, [.ref t2])), (t2, .inl (cI, 5, .inl kd)), (t3, .inr (2, [.ref t4])), (t4, .inl (cI, 4, .inl nd)), (t5, .inr (2, [.ref t6])), (t6, .inl (cI, 4, .inl gv))] [(q0, .inr (5, [.ref t1, .ref t3, .ref t5, .int (nI 0), .int (nI 0)])), (t1, .inr (2, [.ref t2])), (t2, .inl (cI, 5, .inl kd)), (t3, .inr (2, [.ref t4])), (t4, .inl (cI, 4, .inl nd)), (t5, .inr (2, [.ref t6])), (t6, .inl (cI, 4, .inl gv))] none := by
  refine MU.of (by decide +kernel) (Nat.le_of_ble_eq_true rfl) ?_
  intro p e s m args below meth c ls Q A CF hr hlk hP hE hD hS hQ hl
  have hx := CF.1
  have hb := CF.2.1
  have hl : lv_has ls 1 [(0, .ref q0)] := hl
  refine lv_aload_n hx hb dX5_clear_0 rfl (lv_at hl 0 rfl) ?_
  refine lv_iconst (v := 0) hx hb dX5_clear_1 (by decide) ?_
  refine lv_as (z := (nI 0)) (nf_c 0) ?_
  refine r_put (C := RX5) (T := TX5) (N := 5) (ws' := [(q0, .inr (5, [.ref t1, .ref t3, .ref t5, .int (nI 0), .int (nI nR)])), (t1, .inr (2, [.ref t2])), (t2, .inl (cI, 5, .inl kd)), (t3, .inr (2, [.ref t4])), (t4, .inl (cI, 4, .inl nd)), (t5, .inr (2, [.ref t6])), (t6, .inl (cI, 4, .inl gv))]) CF hE hP hD hS 0 rfl rfl inG5 tyX5 tyX5_ok nmX5 3 (by decide) tw_1_43 rfl rfl rfl rfl (Nat.le_of_ble_eq_true rfl) dX5_clear_2 rfl (fun H locs hP hD hS => ?_)
  refine lv_aload_n hx hb dX5_clear_5 rfl (lv_at hl 0 rfl) ?_
  refine lv_iconst (v := 0) hx hb dX5_clear_6 (by decide) ?_
  refine lv_as (z := (nI 0)) (nf_c 0) ?_
  refine r_put (C := RX5) (T := TX5) (N := 5) (ws' := [(q0, .inr (5, [.ref t1, .ref t3, .ref t5, .int (nI 0), .int (nI 0)])), (t1, .inr (2, [.ref t2])), (t2, .inl (cI, 5, .inl kd)), (t3, .inr (2, [.ref t4])), (t4, .inl (cI, 4, .inl nd)), (t5, .inr (2, [.ref t6])), (t6, .inl (cI, 4, .inl gv))]) CF hE hP hD hS 0 rfl rfl inG5 tyX5 tyX5_ok nmX5 4 (by decide) tw_1_44 rfl rfl rfl rfl (Nat.le_of_ble_eq_true rfl) dX5_clear_7 rfl (fun H locs hP hD hS => ?_)
  exact mu_retv CF hQ hr hlk hP hS dX5_clear_10 rfl
theorem lk_X5_37 : mLkV RX5 37 yX2_put cX2_put 3 none 2 := ⟨⟨tw_2_10, tw_1_3, tw_1_172, ⟨by decide +kernel, by decide +kernel, by decide +kernel⟩⟩, tw_1_170, tw_1_171⟩
def f_X5_addPerson (nP : Nat) : Int32 :=
  (if 5 ≤ (nI nP) then (nI nP) else (nI nP))
def f_X5_addPerson_kd (nP : Nat) (kd : Nat → Int32) (a1 : Int32) : Nat → Int32 :=
  (if 5 ≤ (nI nP) then kd else (f_X2_put_sf 5 kd (nI nP) a1))
def f_X5_addPerson_nP (nP : Nat) : Nat :=
  (if 5 ≤ (nI nP) then nP else (nP + 1))
set_option maxRecDepth 100000 in
set_option maxHeartbeats 4000000 in
theorem c_X5_addPerson (l : Launch) (D : va_G) (cI cZ : ClassId) (q0 t1 t3 t5 t2 t4 t6 : Nat) (nP : Nat) (nR : Nat) (kd : Nat → Int32) (nd : Nat → Int32) (gv : Nat → Int32) (a1 : Int32) : MU l D cI cZ yX5_addPerson cX5_addPerson 3 (some .int) (mR 1 22) [.ref q0, .int a1] [(q0, .inr (5, [.ref t1, .ref t3, .ref t5, .int (nI nP), .int (nI nR)])), (t1, .inr (2, [.ref t2])), (t2, .inl (cI, 5, .inl kd)), (t3, .inr (2, [.ref t4])), (t4, .inl (cI, 4, .inl nd)), (t5, .inr (2, [.ref t6])), (t6, .inl (cI, 4, .inl gv))] [(q0, .inr (5, [.ref t1, .ref t3, .ref t5, .int (nI (f_X5_addPerson_nP nP)), .int (nI nR)])), (t1, .inr (2, [.ref t2])), (t2, .inl (cI, 5, .inl (f_X5_addPerson_kd nP kd a1))), (t3, .inr (2, [.ref t4])), (t4, .inl (cI, 4, .inl nd)), (t5, .inr (2, [.ref t6])), (t6, .inl (cI, 4, .inl gv))] (some (.int (f_X5_addPerson nP))) := by
  refine MU.of (by decide +kernel) (Nat.le_of_ble_eq_true rfl) ?_
  intro p e s m args below meth c ls Q A CF hr hlk hP hE hD hS hQ hl
  have hx := CF.1
  have hb := CF.2.1
  have hl : lv_has ls 3 [(0, .ref q0), (1, .int a1)] := hl
  refine lv_aload_n hx hb dX5_addPerson_0 rfl (lv_at hl 0 rfl) ?_
  refine r_get (C := RX5) (T := TX5) (N := 5) (v := .int (nI nP)) CF hE hP 0 rfl rfl inG5 3 (by decide) tw_1_43 rfl rfl dX5_addPerson_1 ?_
  refine lv_istore_n (lv' := [(2, .int (nI nP)), (0, .ref q0), (1, .int a1)]) hx hb dX5_addPerson_4 rfl hl (by decide) rfl (fun ls hl => ?_)
  refine lv_aload_n hx hb dX5_addPerson_5 rfl (lv_at hl 1 rfl) ?_
  refine r_get (C := RX5) (T := TX5) (N := 5) (v := .int (nI nP)) CF hE hP 0 rfl rfl inG5 3 (by decide) tw_1_43 rfl rfl dX5_addPerson_6 ?_
  refine lv_iconst (v := 5) hx hb dX5_addPerson_9 (by decide) ?_
  refine lv_icmp_ge (tgt := 32) hx hb dX5_addPerson_10 (by decide) (fun c_1 => ?_) (fun c_1 => ?_)
  · refine lv_iload_n hx hb dX5_addPerson_32 rfl (lv_at hl 0 rfl) ?_
    have e_0 : (f_X5_addPerson_kd nP kd a1) = kd := by rw [f_X5_addPerson_kd, if_pos c_1]
    have e_1 : (f_X5_addPerson_nP nP) = nP := by rw [f_X5_addPerson_nP, if_pos c_1]
    exact mu_reti CF hQ hr hlk rfl hP hS dX5_addPerson_33 (by rw [f_X5_addPerson, if_pos c_1]) (by rw [e_0, e_1])
  · refine lv_aload_n hx hb dX5_addPerson_13 rfl (lv_at hl 1 rfl) ?_
    refine r_get (C := RX5) (T := TX5) (N := 5) (v := .ref t1) CF hE hP 0 rfl rfl inG5 0 (by decide) tw_1_40 rfl rfl dX5_addPerson_14 ?_
    refine lv_iload_n hx hb dX5_addPerson_17 rfl (lv_at hl 0 rfl) ?_
    refine lv_iload_n hx hb dX5_addPerson_18 rfl (lv_at hl 2 rfl) ?_
    refine mu_Vv (y := yX2_put) (As := [.int (nI nP), .int a1]) (rest := []) (q0 := 1) (ws' := [(q0, .inr (5, [.ref t1, .ref t3, .ref t5, .int (nI nP), .int (nI nR)])), (t1, .inr (2, [.ref t2])), (t2, .inl (cI, 5, .inl (f_X2_put_sf 5 kd (nI nP) a1))), (t3, .inr (2, [.ref t4])), (t4, .inl (cI, 4, .inl nd)), (t5, .inr (2, [.ref t6])), (t6, .inl (cI, 4, .inl gv))]) CF (c_X2_put l D cI cZ t1 t2 5 kd (nI nP) a1 (by omega)) lk_X5_37 hP hE hD hS [1, 2] rfl (by decide) (Nat.le_of_ble_eq_true rfl) rfl rfl rfl rfl rfl hl.1 rfl (Nat.le_of_ble_eq_true rfl) ⟨Nat.le_of_ble_eq_true rfl, Nat.le_of_ble_eq_true rfl, rfl, rfl⟩ ⟨Nat.zero_le _, Nat.zero_le _⟩ dX5_addPerson_19 (fun H locs hP hD hS => ?_)
    refine lv_aload_n hx hb dX5_addPerson_22 rfl (lv_at hl 1 rfl) ?_
    refine lv_dup hx hb dX5_addPerson_23 rfl ?_
    refine r_get (C := RX5) (T := TX5) (N := 5) (v := .int (nI nP)) CF hE hP 0 rfl rfl inG5 3 (by decide) tw_1_43 rfl rfl dX5_addPerson_24 ?_
    refine lv_iconst (v := 1) hx hb dX5_addPerson_27 (by decide) ?_
    refine lv_iadd hx hb dX5_addPerson_28 ?_
    refine lv_as (z := (nI (nP + 1))) (nf_add (rfl : nI nP = nI nP) (nf_c 1)) ?_
    refine r_put (C := RX5) (T := TX5) (N := 5) (ws' := [(q0, .inr (5, [.ref t1, .ref t3, .ref t5, .int (nI (nP + 1)), .int (nI nR)])), (t1, .inr (2, [.ref t2])), (t2, .inl (cI, 5, .inl (f_X2_put_sf 5 kd (nI nP) a1))), (t3, .inr (2, [.ref t4])), (t4, .inl (cI, 4, .inl nd)), (t5, .inr (2, [.ref t6])), (t6, .inl (cI, 4, .inl gv))]) CF hE hP hD hS 0 rfl rfl inG5 tyX5 tyX5_ok nmX5 3 (by decide) tw_1_43 rfl rfl rfl rfl (Nat.le_of_ble_eq_true rfl) dX5_addPerson_29 rfl (fun H locs hP hD hS => ?_)
    refine lv_iload_n hx hb dX5_addPerson_32 rfl (lv_at hl 0 rfl) ?_
    have e_0 : (f_X5_addPerson_kd nP kd a1) = (f_X2_put_sf 5 kd (nI nP) a1) := by rw [f_X5_addPerson_kd, if_neg c_1]
    have e_1 : (f_X5_addPerson_nP nP) = (nP + 1) := by rw [f_X5_addPerson_nP, if_neg c_1]
    exact mu_reti CF hQ hr hlk rfl hP hS dX5_addPerson_33 (by rw [f_X5_addPerson, if_neg c_1]) (by rw [e_0, e_1])
def f_X5_addRule_nd (nR : Nat) (nd : Nat → Int32) (a1 : Int32) (a2 : Int32) : Nat → Int32 :=
  (if 4 ≤ (nI nR) then nd else (f_X2_put_sf 4 nd (nI nR) ((1 <<< (a1 &&& 31)) ||| (1 <<< (a2 &&& 31)))))
def f_X5_addRule_gv (nR : Nat) (gv : Nat → Int32) (a3 : Int32) : Nat → Int32 :=
  (if 4 ≤ (nI nR) then gv else (f_X2_put_sf 4 gv (nI nR) (1 <<< (a3 &&& 31))))
def f_X5_addRule_nR (nR : Nat) : Nat :=
  (if 4 ≤ (nI nR) then nR else (nR + 1))
set_option maxRecDepth 100000 in
set_option maxHeartbeats 4000000 in
theorem c_X5_addRule (l : Launch) (D : va_G) (cI cZ : ClassId) (q0 t1 t3 t5 t2 t4 t6 : Nat) (nP : Nat) (nR : Nat) (kd : Nat → Int32) (nd : Nat → Int32) (gv : Nat → Int32) (a1 : Int32) (a2 : Int32) (a3 : Int32) : MU l D cI cZ yX5_addRule cX5_addRule 4 none (mR 1 22) [.ref q0, .int a1, .int a2, .int a3] [(q0, .inr (5, [.ref t1, .ref t3, .ref t5, .int (nI nP), .int (nI nR)])), (t1, .inr (2, [.ref t2])), (t2, .inl (cI, 5, .inl kd)), (t3, .inr (2, [.ref t4])), (t4, .inl (cI, 4, .inl nd)), (t5, .inr (2, [.ref t6])), (t6, .inl (cI, 4, .inl gv))] [(q0, .inr (5, [.ref t1, .ref t3, .ref t5, .int (nI nP), .int (nI (f_X5_addRule_nR nR))])), (t1, .inr (2, [.ref t2])), (t2, .inl (cI, 5, .inl kd)), (t3, .inr (2, [.ref t4])), (t4, .inl (cI, 4, .inl (f_X5_addRule_nd nR nd a1 a2))), (t5, .inr (2, [.ref t6])), (t6, .inl (cI, 4, .inl (f_X5_addRule_gv nR gv a3)))] none := by
  refine MU.of (by decide +kernel) (Nat.le_of_ble_eq_true rfl) ?_
  intro p e s m args below meth c ls Q A CF hr hlk hP hE hD hS hQ hl
  have hx := CF.1
  have hb := CF.2.1
  have hl : lv_has ls 4 [(0, .ref q0), (1, .int a1), (2, .int a2), (3, .int a3)] := hl
  refine lv_aload_n hx hb dX5_addRule_0 rfl (lv_at hl 0 rfl) ?_
  refine r_get (C := RX5) (T := TX5) (N := 5) (v := .int (nI nR)) CF hE hP 0 rfl rfl inG5 4 (by decide) tw_1_44 rfl rfl dX5_addRule_1 ?_
  refine lv_iconst (v := 4) hx hb dX5_addRule_4 (by decide) ?_
  refine lv_icmp_ge (tgt := 50) hx hb dX5_addRule_5 (by decide) (fun c_1 => ?_) (fun c_1 => ?_)
  · have e_0 : (f_X5_addRule_nd nR nd a1 a2) = nd := by rw [f_X5_addRule_nd, if_pos c_1]
    have e_1 : (f_X5_addRule_gv nR gv a3) = gv := by rw [f_X5_addRule_gv, if_pos c_1]
    have e_2 : (f_X5_addRule_nR nR) = nR := by rw [f_X5_addRule_nR, if_pos c_1]
    exact mu_retv CF hQ hr hlk hP hS dX5_addRule_50 (by rw [e_0, e_1, e_2])
  · refine lv_aload_n hx hb dX5_addRule_8 rfl (lv_at hl 0 rfl) ?_
    refine r_get (C := RX5) (T := TX5) (N := 5) (v := .ref t3) CF hE hP 0 rfl rfl inG5 1 (by decide) tw_1_41 rfl rfl dX5_addRule_9 ?_
    refine lv_aload_n hx hb dX5_addRule_12 rfl (lv_at hl 0 rfl) ?_
    refine r_get (C := RX5) (T := TX5) (N := 5) (v := .int (nI nR)) CF hE hP 0 rfl rfl inG5 4 (by decide) tw_1_44 rfl rfl dX5_addRule_13 ?_
    refine lv_iconst (v := 1) hx hb dX5_addRule_16 (by decide) ?_
    refine lv_iload_n hx hb dX5_addRule_17 rfl (lv_at hl 1 rfl) ?_
    refine lv_ishl hx hb dX5_addRule_18 ?_
    refine lv_iconst (v := 1) hx hb dX5_addRule_19 (by decide) ?_
    refine lv_iload_n hx hb dX5_addRule_20 rfl (lv_at hl 2 rfl) ?_
    refine lv_ishl hx hb dX5_addRule_21 ?_
    refine lv_ior hx hb dX5_addRule_22 ?_
    refine mu_Vv (y := yX2_put) (As := [.int (nI nR), .int ((1 <<< (a1 &&& 31)) ||| (1 <<< (a2 &&& 31)))]) (rest := []) (q0 := 3) (ws' := [(q0, .inr (5, [.ref t1, .ref t3, .ref t5, .int (nI nP), .int (nI nR)])), (t1, .inr (2, [.ref t2])), (t2, .inl (cI, 5, .inl kd)), (t3, .inr (2, [.ref t4])), (t4, .inl (cI, 4, .inl (f_X2_put_sf 4 nd (nI nR) ((1 <<< (a1 &&& 31)) ||| (1 <<< (a2 &&& 31)))))), (t5, .inr (2, [.ref t6])), (t6, .inl (cI, 4, .inl gv))]) CF (c_X2_put l D cI cZ t3 t4 4 nd (nI nR) ((1 <<< (a1 &&& 31)) ||| (1 <<< (a2 &&& 31))) (by omega)) lk_X5_37 hP hE hD hS [3, 4] rfl (by decide) (Nat.le_of_ble_eq_true rfl) rfl rfl rfl rfl rfl hl.1 rfl (Nat.le_of_ble_eq_true rfl) ⟨Nat.le_of_ble_eq_true rfl, Nat.le_of_ble_eq_true rfl, rfl, rfl⟩ ⟨Nat.zero_le _, Nat.zero_le _⟩ dX5_addRule_23 (fun H locs hP hD hS => ?_)
    refine lv_aload_n hx hb dX5_addRule_26 rfl (lv_at hl 0 rfl) ?_
    refine r_get (C := RX5) (T := TX5) (N := 5) (v := .ref t5) CF hE hP 0 rfl rfl inG5 2 (by decide) tw_1_42 rfl rfl dX5_addRule_27 ?_
    refine lv_aload_n hx hb dX5_addRule_30 rfl (lv_at hl 0 rfl) ?_
    refine r_get (C := RX5) (T := TX5) (N := 5) (v := .int (nI nR)) CF hE hP 0 rfl rfl inG5 4 (by decide) tw_1_44 rfl rfl dX5_addRule_31 ?_
    refine lv_iconst (v := 1) hx hb dX5_addRule_34 (by decide) ?_
    refine lv_iload_n hx hb dX5_addRule_35 rfl (lv_at hl 3 rfl) ?_
    refine lv_ishl hx hb dX5_addRule_36 ?_
    refine mu_Vv (y := yX2_put) (As := [.int (nI nR), .int (1 <<< (a3 &&& 31))]) (rest := []) (q0 := 5) (ws' := [(q0, .inr (5, [.ref t1, .ref t3, .ref t5, .int (nI nP), .int (nI nR)])), (t1, .inr (2, [.ref t2])), (t2, .inl (cI, 5, .inl kd)), (t3, .inr (2, [.ref t4])), (t4, .inl (cI, 4, .inl (f_X2_put_sf 4 nd (nI nR) ((1 <<< (a1 &&& 31)) ||| (1 <<< (a2 &&& 31)))))), (t5, .inr (2, [.ref t6])), (t6, .inl (cI, 4, .inl (f_X2_put_sf 4 gv (nI nR) (1 <<< (a3 &&& 31)))))]) CF (c_X2_put l D cI cZ t5 t6 4 gv (nI nR) (1 <<< (a3 &&& 31)) (by omega)) lk_X5_37 hP hE hD hS [5, 6] rfl (by decide) (Nat.le_of_ble_eq_true rfl) rfl rfl rfl rfl rfl hl.1 rfl (Nat.le_of_ble_eq_true rfl) ⟨Nat.le_of_ble_eq_true rfl, Nat.le_of_ble_eq_true rfl, rfl, rfl⟩ ⟨Nat.zero_le _, Nat.zero_le _⟩ dX5_addRule_37 (fun H locs hP hD hS => ?_)
    refine lv_aload_n hx hb dX5_addRule_40 rfl (lv_at hl 0 rfl) ?_
    refine lv_dup hx hb dX5_addRule_41 rfl ?_
    refine r_get (C := RX5) (T := TX5) (N := 5) (v := .int (nI nR)) CF hE hP 0 rfl rfl inG5 4 (by decide) tw_1_44 rfl rfl dX5_addRule_42 ?_
    refine lv_iconst (v := 1) hx hb dX5_addRule_45 (by decide) ?_
    refine lv_iadd hx hb dX5_addRule_46 ?_
    refine lv_as (z := (nI (nR + 1))) (nf_add (rfl : nI nR = nI nR) (nf_c 1)) ?_
    refine r_put (C := RX5) (T := TX5) (N := 5) (ws' := [(q0, .inr (5, [.ref t1, .ref t3, .ref t5, .int (nI nP), .int (nI (nR + 1))])), (t1, .inr (2, [.ref t2])), (t2, .inl (cI, 5, .inl kd)), (t3, .inr (2, [.ref t4])), (t4, .inl (cI, 4, .inl (f_X2_put_sf 4 nd (nI nR) ((1 <<< (a1 &&& 31)) ||| (1 <<< (a2 &&& 31)))))), (t5, .inr (2, [.ref t6])), (t6, .inl (cI, 4, .inl (f_X2_put_sf 4 gv (nI nR) (1 <<< (a3 &&& 31)))))]) CF hE hP hD hS 0 rfl rfl inG5 tyX5 tyX5_ok nmX5 4 (by decide) tw_1_44 rfl rfl rfl rfl (Nat.le_of_ble_eq_true rfl) dX5_addRule_47 rfl (fun H locs hP hD hS => ?_)
    have e_0 : (f_X5_addRule_nd nR nd a1 a2) = (f_X2_put_sf 4 nd (nI nR) ((1 <<< (a1 &&& 31)) ||| (1 <<< (a2 &&& 31)))) := by rw [f_X5_addRule_nd, if_neg c_1]
    have e_1 : (f_X5_addRule_gv nR gv a3) = (f_X2_put_sf 4 gv (nI nR) (1 <<< (a3 &&& 31))) := by rw [f_X5_addRule_gv, if_neg c_1]
    have e_2 : (f_X5_addRule_nR nR) = (nR + 1) := by rw [f_X5_addRule_nR, if_neg c_1]
    exact mu_retv CF hQ hr hlk hP hS dX5_addRule_50 (by rw [e_0, e_1, e_2])
def S_X5_closure_15 (nd : Nat → Int32) (gv : Nat → Int32) (k3 : Nat) (x3_0 : Int32) : (Int32) :=
  (if (x3_0 &&& (f_X2_at 4 nd (nI k3))) = (f_X2_at 4 nd (nI k3)) then (x3_0 ||| (f_X2_at 4 gv (nI k3))) else x3_0)
def B_X5_closure_15 (nd : Nat → Int32) (gv : Nat → Int32) (i0 : Int32) : Nat → (Int32)
  | 0 => i0
  | k + 1 => S_X5_closure_15 nd gv k (B_X5_closure_15 nd gv i0 k)
def S_X5_closure_4 (nR : Nat) (nd : Nat → Int32) (gv : Nat → Int32) (k1 : Nat) (x1_0 : Int32) : (Int32) :=
  ((B_X5_closure_15 nd gv x1_0 nR))
def B_X5_closure_4 (nR : Nat) (nd : Nat → Int32) (gv : Nat → Int32) (i0 : Int32) : Nat → (Int32)
  | 0 => i0
  | k + 1 => S_X5_closure_4 nR nd gv k (B_X5_closure_4 nR nd gv i0 k)
set_option maxRecDepth 100000 in
set_option maxHeartbeats 4000000 in
theorem c_X5_closure (l : Launch) (D : va_G) (cI cZ : ClassId) (q0 t1 t3 t5 t2 t4 t6 : Nat) (nP : Nat) (nR : Nat) (kd : Nat → Int32) (nd : Nat → Int32) (gv : Nat → Int32) (a1 : Int32) (hR : nR ≤ 4) : RO l D cI cZ yX5_closure cX5_closure 6 (some .int) (mR 1 21) [.ref q0, .int a1] [(q0, .inr (5, [.ref t1, .ref t3, .ref t5, .int (nI nP), .int (nI nR)])), (t1, .inr (2, [.ref t2])), (t2, .inl (cI, 5, .inl kd)), (t3, .inr (2, [.ref t4])), (t4, .inl (cI, 4, .inl nd)), (t5, .inr (2, [.ref t6])), (t6, .inl (cI, 4, .inl gv))] (some (.int ((B_X5_closure_4 nR nd gv a1 nR)))) := by
  refine RO.of (by decide +kernel) (Nat.le_of_ble_eq_true rfl) ?_
  intro p e s m args below meth c ls Q CF hr hlk hP hE hQ hl
  have hx := CF.1
  have hb := CF.2.1
  have hl : lv_has ls 6 [(0, .ref q0), (1, .int a1)] := hl
  refine lv_iload_n hx hb dX5_closure_0 rfl (lv_at hl 1 rfl) ?_
  refine lv_istore_n (lv' := [(2, .int a1), (0, .ref q0), (1, .int a1)]) hx hb dX5_closure_1 rfl hl (by decide) rfl (fun ls hl => ?_)
  refine lv_iconst (v := 0) hx hb dX5_closure_2 (by decide) ?_
  refine lv_istore_n (lv' := [(3, .int 0), (2, .int a1), (0, .ref q0), (1, .int a1)]) hx hb dX5_closure_3 rfl hl (by decide) rfl (fun ls hl => ?_)
  have LOOP_4 : ∀ (n_1 k1 : Nat) (x1_0 : Int32) (ls : Array Slot), k1 ≤ nR → nR - k1 < n_1 → (B_X5_closure_4 nR nd gv a1 k1) = x1_0 → lv_has ls 6 [(3, .int (nI k1)), (2, .int x1_0), (0, .ref q0), (1, .int a1)] → W p l e (mR 1 21) s m args below meth c s.heap [] 0 0 Q (F0 m 4 ls []) := by
    intro n_1
    induction n_1 with
    | zero => intro k1 x1_0 ls hk_1 hn_1 hB_1 hl; exact absurd hn_1 (Nat.not_lt_zero _)
    | succ n_1 ih_1 =>
      intro k1 x1_0 ls hk_1 hn_1 hB_1 hl
      refine lv_iload_n hx hb dX5_closure_4 rfl (lv_at hl 0 rfl) ?_
      refine lv_aload_n hx hb dX5_closure_5 rfl (lv_at hl 2 rfl) ?_
      refine r_get (C := RX5) (T := TX5) (N := 5) (v := .int (nI nR)) CF hE hP 0 rfl rfl inG5 4 (by decide) tw_1_44 rfl rfl dX5_closure_6 ?_
      refine lv_icmp_ge (tgt := 68) hx hb dX5_closure_9 (by decide) (fun c_2 => ?_) (fun c_2 => ?_)
      · have o_2 : nR ≤ k1 := (cle (rfl : nI nR = nI nR) (rfl : nI k1 = nI k1) (by omega) (by omega)).mp c_2
        have hkN : nR = k1 := by omega
        subst hkN
        subst hB_1
        refine lv_iload_n hx hb dX5_closure_68 rfl (lv_at hl 1 rfl) ?_
        exact ro_ret CF hQ hr hlk rfl dX5_closure_69 rfl
      · have o_2 : ¬ nR ≤ k1 := fun h => c_2 ((cle (rfl : nI nR = nI nR) (rfl : nI k1 = nI k1) (by omega) (by omega)).mpr h)
        refine lv_iconst (v := 0) hx hb dX5_closure_12 (by decide) ?_
        refine lv_istore (lv' := [(4, .int 0), (3, .int (nI k1)), (2, .int x1_0), (0, .ref q0), (1, .int a1)]) hx hb dX5_closure_13 hl (by decide) rfl (fun ls hl => ?_)
        have LOOP_15 : ∀ (n_3 k3 : Nat) (x3_0 : Int32) (ls : Array Slot), k3 ≤ nR → nR - k3 < n_3 → (B_X5_closure_15 nd gv x1_0 k3) = x3_0 → lv_has ls 6 [(4, .int (nI k3)), (3, .int (nI k1)), (2, .int x3_0), (0, .ref q0), (1, .int a1)] → W p l e (mR 1 21) s m args below meth c s.heap [] 0 0 Q (F0 m 15 ls []) := by
          intro n_3
          induction n_3 with
          | zero => intro k3 x3_0 ls hk_3 hn_3 hB_3 hl; exact absurd hn_3 (Nat.not_lt_zero _)
          | succ n_3 ih_3 =>
            intro k3 x3_0 ls hk_3 hn_3 hB_3 hl
            refine lv_iload hx hb dX5_closure_15 (lv_at hl 0 rfl) ?_
            refine lv_aload_n hx hb dX5_closure_17 rfl (lv_at hl 3 rfl) ?_
            refine r_get (C := RX5) (T := TX5) (N := 5) (v := .int (nI nR)) CF hE hP 0 rfl rfl inG5 4 (by decide) tw_1_44 rfl rfl dX5_closure_18 ?_
            refine lv_icmp_ge (tgt := 62) hx hb dX5_closure_21 (by decide) (fun c_4 => ?_) (fun c_4 => ?_)
            · have o_4 : nR ≤ k3 := (cle (rfl : nI nR = nI nR) (rfl : nI k3 = nI k3) (by omega) (by omega)).mp c_4
              have hkN : nR = k3 := by omega
              subst hkN
              subst hB_3
              refine lv_iinc (v := (nI (k1 + 1))) (lv' := [(3, .int (nI (k1 + 1))), (4, .int (nI nR)), (2, .int ((B_X5_closure_15 nd gv x1_0 nR))), (0, .ref q0), (1, .int a1)]) hx hb dX5_closure_62 hl (k := 1) rfl (nf_inc 1 (rfl : nI k1 = nI k1)) (by decide) rfl (fun ls hl => ?_)
              refine lv_goto (tgt := 4) hx hb dX5_closure_65 (by decide) ?_
              have hB2 : B_X5_closure_4 nR nd gv a1 (k1 + 1) = ((B_X5_closure_15 nd gv x1_0 nR)) := by
                rw [B_X5_closure_4, hB_1]
                rw [S_X5_closure_4]
              exact ih_1 (k1 + 1) ((B_X5_closure_15 nd gv x1_0 nR)) _ (by omega) (by omega) hB2 (lv_sub hl [0, 2, 3, 4] rfl)
            · have o_4 : ¬ nR ≤ k3 := fun h => c_4 ((cle (rfl : nI nR = nI nR) (rfl : nI k3 = nI k3) (by omega) (by omega)).mpr h)
              refine lv_aload_n hx hb dX5_closure_24 rfl (lv_at hl 3 rfl) ?_
              refine r_get (C := RX5) (T := TX5) (N := 5) (v := .ref t3) CF hE hP 0 rfl rfl inG5 1 (by decide) tw_1_41 rfl rfl dX5_closure_25 ?_
              refine lv_iload hx hb dX5_closure_28 (lv_at hl 0 rfl) ?_
              refine ro_V (y := yX2_at) (As := [.int (nI k3)]) (rest := []) (q0 := 3) CF (c_X2_at l D cI cZ t3 t4 4 nd (nI k3) (by omega)) lk_X5_33 hP hE [3, 4] rfl rfl rfl rfl hl.1 rfl (Nat.le_of_ble_eq_true rfl) ⟨Nat.le_of_ble_eq_true rfl, Nat.le_of_ble_eq_true rfl, rfl, rfl⟩ ⟨Nat.zero_le _, Nat.zero_le _⟩ dX5_closure_30 ?_
              refine lv_istore (lv' := [(5, .int (f_X2_at 4 nd (nI k3))), (4, .int (nI k3)), (3, .int (nI k1)), (2, .int x3_0), (0, .ref q0), (1, .int a1)]) hx hb dX5_closure_33 hl (by decide) rfl (fun ls hl => ?_)
              refine lv_iload_n hx hb dX5_closure_35 rfl (lv_at hl 3 rfl) ?_
              refine lv_iload hx hb dX5_closure_36 (lv_at hl 0 rfl) ?_
              refine lv_iand hx hb dX5_closure_38 ?_
              refine lv_iload hx hb dX5_closure_39 (lv_at hl 0 rfl) ?_
              refine lv_icmp_ne (tgt := 56) hx hb dX5_closure_41 (by decide) (fun c_5 => ?_) (fun c_5 => ?_)
              · refine lv_iinc (v := (nI (k3 + 1))) (lv' := [(4, .int (nI (k3 + 1))), (5, .int (f_X2_at 4 nd (nI k3))), (3, .int (nI k1)), (2, .int x3_0), (0, .ref q0), (1, .int a1)]) hx hb dX5_closure_56 hl (k := 1) rfl (nf_inc 1 (rfl : nI k3 = nI k3)) (by decide) rfl (fun ls hl => ?_)
                refine lv_goto (tgt := 15) hx hb dX5_closure_59 (by decide) ?_
                have hB2 : B_X5_closure_15 nd gv x1_0 (k3 + 1) = x3_0 := by
                  rw [B_X5_closure_15, hB_3]
                  rw [S_X5_closure_15, if_neg c_5]
                exact ih_3 (k3 + 1) x3_0 _ (by omega) (by omega) hB2 (lv_sub hl [0, 2, 3, 4, 5] rfl)
              · refine lv_iload_n hx hb dX5_closure_44 rfl (lv_at hl 3 rfl) ?_
                refine lv_aload_n hx hb dX5_closure_45 rfl (lv_at hl 4 rfl) ?_
                refine r_get (C := RX5) (T := TX5) (N := 5) (v := .ref t5) CF hE hP 0 rfl rfl inG5 2 (by decide) tw_1_42 rfl rfl dX5_closure_46 ?_
                refine lv_iload hx hb dX5_closure_49 (lv_at hl 1 rfl) ?_
                refine ro_V (y := yX2_at) (As := [.int (nI k3)]) (rest := [.int x3_0]) (q0 := 5) CF (c_X2_at l D cI cZ t5 t6 4 gv (nI k3) (by omega)) lk_X5_33 hP hE [5, 6] rfl rfl rfl rfl hl.1 rfl (Nat.le_of_ble_eq_true rfl) ⟨Nat.le_of_ble_eq_true rfl, Nat.le_of_ble_eq_true rfl, rfl, rfl⟩ ⟨Nat.zero_le _, Nat.zero_le _⟩ dX5_closure_51 ?_
                refine lv_ior hx hb dX5_closure_54 ?_
                refine lv_istore_n (lv' := [(2, .int (x3_0 ||| (f_X2_at 4 gv (nI k3)))), (5, .int (f_X2_at 4 nd (nI k3))), (4, .int (nI k3)), (3, .int (nI k1)), (0, .ref q0), (1, .int a1)]) hx hb dX5_closure_55 rfl hl (by decide) rfl (fun ls hl => ?_)
                refine lv_iinc (v := (nI (k3 + 1))) (lv' := [(4, .int (nI (k3 + 1))), (2, .int (x3_0 ||| (f_X2_at 4 gv (nI k3)))), (5, .int (f_X2_at 4 nd (nI k3))), (3, .int (nI k1)), (0, .ref q0), (1, .int a1)]) hx hb dX5_closure_56 hl (k := 2) rfl (nf_inc 1 (rfl : nI k3 = nI k3)) (by decide) rfl (fun ls hl => ?_)
                refine lv_goto (tgt := 15) hx hb dX5_closure_59 (by decide) ?_
                have hB2 : B_X5_closure_15 nd gv x1_0 (k3 + 1) = (x3_0 ||| (f_X2_at 4 gv (nI k3))) := by
                  rw [B_X5_closure_15, hB_3]
                  rw [S_X5_closure_15, if_pos c_5]
                exact ih_3 (k3 + 1) (x3_0 ||| (f_X2_at 4 gv (nI k3))) _ (by omega) (by omega) hB2 (lv_sub hl [0, 3, 1, 4, 5] rfl)
        have e_k : 0 = nI (0) := (nf_c 0).trans (congrArg nI (by omega))
        rw [e_k] at hl
        exact LOOP_15 (nR - 0 + 1) 0 x1_0 _ (Nat.zero_le _) (by omega) rfl (lv_sub hl [0, 1, 2, 3, 4] rfl)
  have e_k : 0 = nI (0) := (nf_c 0).trans (congrArg nI (by omega))
  rw [e_k] at hl
  exact LOOP_4 (nR - 0 + 1) 0 a1 _ (Nat.zero_le _) (by omega) rfl (lv_sub hl [0, 1, 2, 3] rfl)
set_option maxRecDepth 100000 in
set_option maxHeartbeats 4000000 in
theorem c_X6_length (l : Launch) (D : va_G) (cI cZ : ClassId) (q0 q1 q2 : Nat) (nT : Nat) (tx : Nat → Int32) : RO l D cI cZ yX6_length cX6_length 1 (some .int) (mR 0 0) [.ref q0] [(q0, .inr (6, [.ref q1, .int (nI nT)])), (q1, .inr (2, [.ref q2])), (q2, .inl (cI, 40, .inl tx))] (some (.int (nI nT))) := by
  refine RO.of (by decide +kernel) (Nat.le_of_ble_eq_true rfl) ?_
  intro p e s m args below meth c ls Q CF hr hlk hP hE hQ hl
  have hx := CF.1
  have hb := CF.2.1
  have hl : lv_has ls 1 [(0, .ref q0)] := hl
  refine lv_aload_n hx hb dX6_length_0 rfl (lv_at hl 0 rfl) ?_
  refine r_get (C := RX6) (T := TX6) (N := 2) (v := .int (nI nT)) CF hE hP 0 rfl rfl inG6 1 (by decide) tw_1_65 rfl rfl dX6_length_1 ?_
  exact ro_ret CF hQ hr hlk rfl dX6_length_4 rfl
theorem lk_X6_24 : mLkV RX6 24 yX2_at cX2_at 2 (some .int) 1 := ⟨⟨tw_1_197, tw_1_3, tw_1_200, ⟨by decide +kernel, by decide +kernel, by decide +kernel⟩⟩, tw_1_198, tw_1_199⟩
set_option maxRecDepth 100000 in
set_option maxHeartbeats 4000000 in
theorem c_X6_at (l : Launch) (D : va_G) (cI cZ : ClassId) (q0 q1 q2 : Nat) (nT : Nat) (tx : Nat → Int32) (a1 : Int32) : RO l D cI cZ yX6_at cX6_at 2 (some .int) (mR 1 21) [.ref q0, .int a1] [(q0, .inr (6, [.ref q1, .int (nI nT)])), (q1, .inr (2, [.ref q2])), (q2, .inl (cI, 40, .inl tx))] (some (.int (f_X2_at 40 tx a1))) := by
  refine RO.of (by decide +kernel) (Nat.le_of_ble_eq_true rfl) ?_
  intro p e s m args below meth c ls Q CF hr hlk hP hE hQ hl
  have hx := CF.1
  have hb := CF.2.1
  have hl : lv_has ls 2 [(0, .ref q0), (1, .int a1)] := hl
  refine lv_aload_n hx hb dX6_at_0 rfl (lv_at hl 0 rfl) ?_
  refine r_get (C := RX6) (T := TX6) (N := 2) (v := .ref q1) CF hE hP 0 rfl rfl inG6 0 (by decide) tw_1_64 rfl rfl dX6_at_1 ?_
  refine lv_iload_n hx hb dX6_at_4 rfl (lv_at hl 1 rfl) ?_
  refine ro_V (y := yX2_at) (As := [.int a1]) (rest := []) (q0 := 1) CF (c_X2_at l D cI cZ q1 q2 40 tx a1 (by omega)) lk_X6_24 hP hE [1, 2] rfl rfl rfl rfl hl.1 rfl (Nat.le_of_ble_eq_true rfl) ⟨Nat.le_of_ble_eq_true rfl, Nat.le_of_ble_eq_true rfl, rfl, rfl⟩ ⟨Nat.zero_le _, Nat.zero_le _⟩ dX6_at_5 ?_
  exact ro_ret CF hQ hr hlk rfl dX6_at_8 rfl
set_option maxRecDepth 100000 in
set_option maxHeartbeats 4000000 in
theorem c_X6_digit (l : Launch) (D : va_G) (cI cZ : ClassId) (q0 q1 q2 : Nat) (nT : Nat) (tx : Nat → Int32) (a1 : Int32) : RO l D cI cZ yX6_digit cX6_digit 2 (some .int) (mR 1 21) [.ref q0, .int a1] [(q0, .inr (6, [.ref q1, .int (nI nT)])), (q1, .inr (2, [.ref q2])), (q2, .inl (cI, 40, .inl tx))] (some (.int ((f_X2_at 40 tx a1) - 48))) := by
  refine RO.of (by decide +kernel) (Nat.le_of_ble_eq_true rfl) ?_
  intro p e s m args below meth c ls Q CF hr hlk hP hE hQ hl
  have hx := CF.1
  have hb := CF.2.1
  have hl : lv_has ls 2 [(0, .ref q0), (1, .int a1)] := hl
  refine lv_aload_n hx hb dX6_digit_0 rfl (lv_at hl 0 rfl) ?_
  refine r_get (C := RX6) (T := TX6) (N := 2) (v := .ref q1) CF hE hP 0 rfl rfl inG6 0 (by decide) tw_1_64 rfl rfl dX6_digit_1 ?_
  refine lv_iload_n hx hb dX6_digit_4 rfl (lv_at hl 1 rfl) ?_
  refine ro_V (y := yX2_at) (As := [.int a1]) (rest := []) (q0 := 1) CF (c_X2_at l D cI cZ q1 q2 40 tx a1 (by omega)) lk_X6_24 hP hE [1, 2] rfl rfl rfl rfl hl.1 rfl (Nat.le_of_ble_eq_true rfl) ⟨Nat.le_of_ble_eq_true rfl, Nat.le_of_ble_eq_true rfl, rfl, rfl⟩ ⟨Nat.zero_le _, Nat.zero_le _⟩ dX6_digit_5 ?_
  refine lv_bipush (v := 48) hx hb dX6_digit_8 (by decide) ?_
  refine lv_isub hx hb dX6_digit_10 ?_
  exact ro_ret CF hQ hr hlk rfl dX6_digit_11 rfl
set_option maxRecDepth 100000 in
set_option maxHeartbeats 4000000 in
theorem c_X6_letter (l : Launch) (D : va_G) (cI cZ : ClassId) (q0 q1 q2 : Nat) (nT : Nat) (tx : Nat → Int32) (a1 : Int32) : RO l D cI cZ yX6_letter cX6_letter 2 (some .int) (mR 1 21) [.ref q0, .int a1] [(q0, .inr (6, [.ref q1, .int (nI nT)])), (q1, .inr (2, [.ref q2])), (q2, .inl (cI, 40, .inl tx))] (some (.int ((f_X2_at 40 tx a1) - 97))) := by
  refine RO.of (by decide +kernel) (Nat.le_of_ble_eq_true rfl) ?_
  intro p e s m args below meth c ls Q CF hr hlk hP hE hQ hl
  have hx := CF.1
  have hb := CF.2.1
  have hl : lv_has ls 2 [(0, .ref q0), (1, .int a1)] := hl
  refine lv_aload_n hx hb dX6_letter_0 rfl (lv_at hl 0 rfl) ?_
  refine r_get (C := RX6) (T := TX6) (N := 2) (v := .ref q1) CF hE hP 0 rfl rfl inG6 0 (by decide) tw_1_64 rfl rfl dX6_letter_1 ?_
  refine lv_iload_n hx hb dX6_letter_4 rfl (lv_at hl 1 rfl) ?_
  refine ro_V (y := yX2_at) (As := [.int a1]) (rest := []) (q0 := 1) CF (c_X2_at l D cI cZ q1 q2 40 tx a1 (by omega)) lk_X6_24 hP hE [1, 2] rfl rfl rfl rfl hl.1 rfl (Nat.le_of_ble_eq_true rfl) ⟨Nat.le_of_ble_eq_true rfl, Nat.le_of_ble_eq_true rfl, rfl, rfl⟩ ⟨Nat.zero_le _, Nat.zero_le _⟩ dX6_letter_5 ?_
  refine lv_bipush (v := 97) hx hb dX6_letter_8 (by decide) ?_
  refine lv_isub hx hb dX6_letter_10 ?_
  exact ro_ret CF hQ hr hlk rfl dX6_letter_11 rfl
theorem lk_X6_28 : mLkV RX6 28 yX2_put cX2_put 3 none 2 := ⟨⟨tw_1_169, tw_1_3, tw_1_172, ⟨by decide +kernel, by decide +kernel, by decide +kernel⟩⟩, tw_1_170, tw_1_171⟩
def f_X6_append (nT : Nat) : Int32 :=
  (if (nI nT) < 40 then (nI (nT + 1)) else (-4))
def f_X6_append_tx (nT : Nat) (tx : Nat → Int32) (a1 : Int32) : Nat → Int32 :=
  (if (nI nT) < 40 then (f_X2_put_sf 40 tx (nI nT) a1) else tx)
def f_X6_append_nT (nT : Nat) : Nat :=
  (if (nI nT) < 40 then (nT + 1) else nT)
set_option maxRecDepth 100000 in
set_option maxHeartbeats 4000000 in
theorem c_X6_append (l : Launch) (D : va_G) (cI cZ : ClassId) (q0 q1 q2 : Nat) (nT : Nat) (tx : Nat → Int32) (a1 : Int32) : MU l D cI cZ yX6_append cX6_append 2 (some .int) (mR 1 22) [.ref q0, .int a1] [(q0, .inr (6, [.ref q1, .int (nI nT)])), (q1, .inr (2, [.ref q2])), (q2, .inl (cI, 40, .inl tx))] [(q0, .inr (6, [.ref q1, .int (nI (f_X6_append_nT nT))])), (q1, .inr (2, [.ref q2])), (q2, .inl (cI, 40, .inl (f_X6_append_tx nT tx a1)))] (some (.int (f_X6_append nT))) := by
  refine MU.of (by decide +kernel) (Nat.le_of_ble_eq_true rfl) ?_
  intro p e s m args below meth c ls Q A CF hr hlk hP hE hD hS hQ hl
  have hx := CF.1
  have hb := CF.2.1
  have hl : lv_has ls 2 [(0, .ref q0), (1, .int a1)] := hl
  refine lv_aload_n hx hb dX6_append_0 rfl (lv_at hl 0 rfl) ?_
  refine r_get (C := RX6) (T := TX6) (N := 2) (v := .int (nI nT)) CF hE hP 0 rfl rfl inG6 1 (by decide) tw_1_65 rfl rfl dX6_append_1 ?_
  refine lv_bipush (v := 40) hx hb dX6_append_4 (by decide) ?_
  refine lv_icmp_lt (tgt := 12) hx hb dX6_append_6 (by decide) (fun c_1 => ?_) (fun c_1 => ?_)
  · refine lv_aload_n hx hb dX6_append_12 rfl (lv_at hl 0 rfl) ?_
    refine r_get (C := RX6) (T := TX6) (N := 2) (v := .ref q1) CF hE hP 0 rfl rfl inG6 0 (by decide) tw_1_64 rfl rfl dX6_append_13 ?_
    refine lv_aload_n hx hb dX6_append_16 rfl (lv_at hl 0 rfl) ?_
    refine r_get (C := RX6) (T := TX6) (N := 2) (v := .int (nI nT)) CF hE hP 0 rfl rfl inG6 1 (by decide) tw_1_65 rfl rfl dX6_append_17 ?_
    refine lv_iload_n hx hb dX6_append_20 rfl (lv_at hl 1 rfl) ?_
    refine mu_Vv (y := yX2_put) (As := [.int (nI nT), .int a1]) (rest := []) (q0 := 1) (ws' := [(q0, .inr (6, [.ref q1, .int (nI nT)])), (q1, .inr (2, [.ref q2])), (q2, .inl (cI, 40, .inl (f_X2_put_sf 40 tx (nI nT) a1)))]) CF (c_X2_put l D cI cZ q1 q2 40 tx (nI nT) a1 (by omega)) lk_X6_28 hP hE hD hS [1, 2] rfl (by decide) (Nat.le_of_ble_eq_true rfl) rfl rfl rfl rfl rfl hl.1 rfl (Nat.le_of_ble_eq_true rfl) ⟨Nat.le_of_ble_eq_true rfl, Nat.le_of_ble_eq_true rfl, rfl, rfl⟩ ⟨Nat.zero_le _, Nat.zero_le _⟩ dX6_append_21 (fun H locs hP hD hS => ?_)
    refine lv_aload_n hx hb dX6_append_24 rfl (lv_at hl 0 rfl) ?_
    refine lv_dup hx hb dX6_append_25 rfl ?_
    refine r_get (C := RX6) (T := TX6) (N := 2) (v := .int (nI nT)) CF hE hP 0 rfl rfl inG6 1 (by decide) tw_1_65 rfl rfl dX6_append_26 ?_
    refine lv_iconst (v := 1) hx hb dX6_append_29 (by decide) ?_
    refine lv_iadd hx hb dX6_append_30 ?_
    refine lv_as (z := (nI (nT + 1))) (nf_add (rfl : nI nT = nI nT) (nf_c 1)) ?_
    refine r_put (C := RX6) (T := TX6) (N := 2) (ws' := [(q0, .inr (6, [.ref q1, .int (nI (nT + 1))])), (q1, .inr (2, [.ref q2])), (q2, .inl (cI, 40, .inl (f_X2_put_sf 40 tx (nI nT) a1)))]) CF hE hP hD hS 0 rfl rfl inG6 tyX6 tyX6_ok nmX6 1 (by decide) tw_1_65 rfl rfl rfl rfl (Nat.le_of_ble_eq_true rfl) dX6_append_31 rfl (fun H locs hP hD hS => ?_)
    refine lv_aload_n hx hb dX6_append_34 rfl (lv_at hl 0 rfl) ?_
    refine r_get (C := RX6) (T := TX6) (N := 2) (v := .int (nI (nT + 1))) CF hE hP 0 rfl rfl inG6 1 (by decide) tw_1_65 rfl rfl dX6_append_35 ?_
    have e_0 : (f_X6_append_tx nT tx a1) = (f_X2_put_sf 40 tx (nI nT) a1) := by rw [f_X6_append_tx, if_pos c_1]
    have e_1 : (f_X6_append_nT nT) = (nT + 1) := by rw [f_X6_append_nT, if_pos c_1]
    exact mu_reti CF hQ hr hlk rfl hP hS dX6_append_38 (by rw [f_X6_append, if_pos c_1]) (by rw [e_0, e_1])
  · refine lv_bipush (v := (-4)) hx hb dX6_append_9 (by decide) ?_
    have e_0 : (f_X6_append_tx nT tx a1) = tx := by rw [f_X6_append_tx, if_neg c_1]
    have e_1 : (f_X6_append_nT nT) = nT := by rw [f_X6_append_nT, if_neg c_1]
    exact mu_reti CF hQ hr hlk rfl hP hS dX6_append_11 (by rw [f_X6_append, if_neg c_1]) (by rw [e_0, e_1])
set_option maxRecDepth 100000 in
set_option maxHeartbeats 4000000 in
theorem c_X6_clear (l : Launch) (D : va_G) (cI cZ : ClassId) (q0 q1 q2 : Nat) (nT : Nat) (tx : Nat → Int32) : MU l D cI cZ yX6_clear cX6_clear 2 (some .int) (mR 0 0) [.ref q0] [(q0, .inr (6, [.ref q1, .int (nI nT)])), (q1, .inr (2, [.ref q2])), (q2, .inl (cI, 40, .inl tx))] [(q0, .inr (6, [.ref q1, .int (nI 0)])), (q1, .inr (2, [.ref q2])), (q2, .inl (cI, 40, .inl tx))] (some (.int (nI nT))) := by
  refine MU.of (by decide +kernel) (Nat.le_of_ble_eq_true rfl) ?_
  intro p e s m args below meth c ls Q A CF hr hlk hP hE hD hS hQ hl
  have hx := CF.1
  have hb := CF.2.1
  have hl : lv_has ls 2 [(0, .ref q0)] := hl
  refine lv_aload_n hx hb dX6_clear_0 rfl (lv_at hl 0 rfl) ?_
  refine r_get (C := RX6) (T := TX6) (N := 2) (v := .int (nI nT)) CF hE hP 0 rfl rfl inG6 1 (by decide) tw_1_65 rfl rfl dX6_clear_1 ?_
  refine lv_istore_n (lv' := [(1, .int (nI nT)), (0, .ref q0)]) hx hb dX6_clear_4 rfl hl (by decide) rfl (fun ls hl => ?_)
  refine lv_aload_n hx hb dX6_clear_5 rfl (lv_at hl 1 rfl) ?_
  refine lv_iconst (v := 0) hx hb dX6_clear_6 (by decide) ?_
  refine lv_as (z := (nI 0)) (nf_c 0) ?_
  refine r_put (C := RX6) (T := TX6) (N := 2) (ws' := [(q0, .inr (6, [.ref q1, .int (nI 0)])), (q1, .inr (2, [.ref q2])), (q2, .inl (cI, 40, .inl tx))]) CF hE hP hD hS 0 rfl rfl inG6 tyX6 tyX6_ok nmX6 1 (by decide) tw_1_65 rfl rfl rfl rfl (Nat.le_of_ble_eq_true rfl) dX6_clear_7 rfl (fun H locs hP hD hS => ?_)
  refine lv_iload_n hx hb dX6_clear_10 rfl (lv_at hl 0 rfl) ?_
  exact mu_reti CF hQ hr hlk rfl hP hS dX6_clear_11 rfl rfl
def f_X6_isBetween (a0 : Int32) (a1 : Int32) : Int32 :=
  (if a0 < 0 then 0 else (if a1 < a0 then 0 else 1))
theorem z_f_X6_isBetween (a0 : Int32) (a1 : Int32) : narrow .boolean (.int (f_X6_isBetween a0 a1)) = .int (f_X6_isBetween a0 a1) := by
  unfold f_X6_isBetween
  repeat' split
  all_goals first | rfl
set_option maxRecDepth 100000 in
set_option maxHeartbeats 4000000 in
theorem c_X6_isBetween (l : Launch) (D : va_G) (cI cZ : ClassId) (a0 : Int32) (a1 : Int32) : RO l D cI cZ yX6_isBetween cX6_isBetween 2 (some .boolean) (mR 0 0) [.int a0, .int a1] [] (some (.int (f_X6_isBetween a0 a1))) := by
  refine RO.of (by decide +kernel) (Nat.le_of_ble_eq_true rfl) ?_
  intro p e s m args below meth c ls Q CF hr hlk hP hE hQ hl
  have hx := CF.1
  have hb := CF.2.1
  have hl : lv_has ls 2 [(0, .int a0), (1, .int a1)] := hl
  refine lv_iload_n hx hb dX6_isBetween_0 rfl (lv_at hl 0 rfl) ?_
  refine lv_if_lt (tgt := 13) hx hb dX6_isBetween_1 (by decide) (fun c_1 => ?_) (fun c_1 => ?_)
  · refine lv_iconst (v := 0) hx hb dX6_isBetween_13 (by decide) ?_
    exact ro_ret CF hQ hr hlk rfl dX6_isBetween_14 (by rw [f_X6_isBetween, if_pos c_1])
  · refine lv_iload_n hx hb dX6_isBetween_4 rfl (lv_at hl 0 rfl) ?_
    refine lv_iload_n hx hb dX6_isBetween_5 rfl (lv_at hl 1 rfl) ?_
    refine lv_icmp_gt (tgt := 13) hx hb dX6_isBetween_6 (by decide) (fun c_2 => ?_) (fun c_2 => ?_)
    · refine lv_iconst (v := 0) hx hb dX6_isBetween_13 (by decide) ?_
      exact ro_ret CF hQ hr hlk rfl dX6_isBetween_14 (by rw [f_X6_isBetween, if_neg c_1, if_pos c_2])
    · refine lv_iconst (v := 1) hx hb dX6_isBetween_9 (by decide) ?_
      refine lv_goto (tgt := 14) hx hb dX6_isBetween_10 (by decide) ?_
      exact ro_ret CF hQ hr hlk rfl dX6_isBetween_14 (by rw [f_X6_isBetween, if_neg c_1, if_neg c_2])
theorem lk_X6_36 : mLkV RX6 36 yX6_at cX6_at 2 (some .int) 1 := ⟨⟨tw_1_193, tw_1_5, tw_1_196, ⟨by decide +kernel, by decide +kernel, by decide +kernel⟩⟩, tw_1_194, tw_1_195⟩
def S_X6_partsAhead_5 (tx : Nat → Int32) (a2 : Int32) (k1 : Nat) (x1_0 : Int32) : (Int32) :=
  (if (f_X2_at 40 tx (nI (1 + 4 * k1))) = a2 then (x1_0 + 1) else x1_0)
def B_X6_partsAhead_5 (tx : Nat → Int32) (a2 : Int32) (i0 : Int32) : Nat → (Int32)
  | 0 => i0
  | k + 1 => S_X6_partsAhead_5 tx a2 k (B_X6_partsAhead_5 tx a2 i0 k)
set_option maxRecDepth 100000 in
set_option maxHeartbeats 4000000 in
theorem c_X6_partsAhead (l : Launch) (D : va_G) (cI cZ : ClassId) (q0 q1 q2 : Nat) (nT : Nat) (tx : Nat → Int32) (a1 : Int32) (n1 : Nat) (a2 : Int32) (h_a1 : a1 = nI n1) (hn1 : n1 ≤ 40) : RO l D cI cZ yX6_partsAhead cX6_partsAhead 5 (some .int) (mR 2 42) [.ref q0, .int a1, .int a2] [(q0, .inr (6, [.ref q1, .int (nI nT)])), (q1, .inr (2, [.ref q2])), (q2, .inl (cI, 40, .inl tx))] (some (.int ((B_X6_partsAhead_5 tx a2 0 ((n1 + 2) / 4))))) := by
  refine RO.of (by decide +kernel) (Nat.le_of_ble_eq_true rfl) ?_
  intro p e s m args below meth c ls Q CF hr hlk hP hE hQ hl
  have hx := CF.1
  have hb := CF.2.1
  have hl : lv_has ls 5 [(0, .ref q0), (1, .int a1), (2, .int a2)] := hl
  refine lv_iconst (v := 0) hx hb dX6_partsAhead_0 (by decide) ?_
  refine lv_istore_n (lv' := [(3, .int 0), (0, .ref q0), (1, .int a1), (2, .int a2)]) hx hb dX6_partsAhead_1 rfl hl (by decide) rfl (fun ls hl => ?_)
  refine lv_iconst (v := 1) hx hb dX6_partsAhead_2 (by decide) ?_
  refine lv_istore (lv' := [(4, .int 1), (3, .int 0), (0, .ref q0), (1, .int a1), (2, .int a2)]) hx hb dX6_partsAhead_3 hl (by decide) rfl (fun ls hl => ?_)
  have LOOP_5 : ∀ (n_1 k1 : Nat) (x1_0 : Int32) (ls : Array Slot), k1 ≤ (n1 + 2) / 4 → (n1 + 2) / 4 - k1 < n_1 → (B_X6_partsAhead_5 tx a2 0 k1) = x1_0 → lv_has ls 5 [(4, .int (nI (1 + 4 * k1))), (3, .int x1_0), (0, .ref q0), (1, .int a1), (2, .int a2)] → W p l e (mR 2 42) s m args below meth c s.heap [] 0 0 Q (F0 m 5 ls []) := by
    intro n_1
    induction n_1 with
    | zero => intro k1 x1_0 ls hk_1 hn_1 hB_1 hl; exact absurd hn_1 (Nat.not_lt_zero _)
    | succ n_1 ih_1 =>
      intro k1 x1_0 ls hk_1 hn_1 hB_1 hl
      refine lv_iload hx hb dX6_partsAhead_5 (lv_at hl 0 rfl) ?_
      refine lv_iload_n hx hb dX6_partsAhead_7 rfl (lv_at hl 3 rfl) ?_
      refine lv_icmp_ge (tgt := 30) hx hb dX6_partsAhead_8 (by decide) (fun c_2 => ?_) (fun c_2 => ?_)
      · have o_2 : n1 ≤ (1 + 4 * k1) := (cle h_a1 (rfl : nI (1 + 4 * k1) = nI (1 + 4 * k1)) (by omega) (by omega)).mp c_2
        have hkN : ((n1 + 2) / 4) = k1 := by omega
        subst hkN
        subst hB_1
        refine lv_iload_n hx hb dX6_partsAhead_30 rfl (lv_at hl 1 rfl) ?_
        exact ro_ret CF hQ hr hlk rfl dX6_partsAhead_31 rfl
      · have o_2 : ¬ n1 ≤ (1 + 4 * k1) := fun h => c_2 ((cle h_a1 (rfl : nI (1 + 4 * k1) = nI (1 + 4 * k1)) (by omega) (by omega)).mpr h)
        refine lv_aload_n hx hb dX6_partsAhead_11 rfl (lv_at hl 2 rfl) ?_
        refine lv_iload hx hb dX6_partsAhead_12 (lv_at hl 0 rfl) ?_
        refine ro_V (y := yX6_at) (As := [.int (nI (1 + 4 * k1))]) (rest := []) (q0 := 0) CF (c_X6_at l D cI cZ q0 q1 q2 nT tx (nI (1 + 4 * k1))) lk_X6_36 hP hE [0, 1, 2] rfl rfl rfl rfl hl.1 rfl (Nat.le_of_ble_eq_true rfl) ⟨Nat.le_of_ble_eq_true rfl, Nat.le_of_ble_eq_true rfl, rfl, rfl⟩ ⟨Nat.zero_le _, Nat.zero_le _⟩ dX6_partsAhead_14 ?_
        refine lv_iload_n hx hb dX6_partsAhead_17 rfl (lv_at hl 4 rfl) ?_
        refine lv_icmp_ne (tgt := 24) hx hb dX6_partsAhead_18 (by decide) (fun c_3 => ?_) (fun c_3 => ?_)
        · refine lv_iinc (v := (nI ((1 + 4 * k1) + 4))) (lv' := [(4, .int (nI ((1 + 4 * k1) + 4))), (3, .int x1_0), (0, .ref q0), (1, .int a1), (2, .int a2)]) hx hb dX6_partsAhead_24 hl (k := 0) rfl (nf_inc 4 (rfl : nI (1 + 4 * k1) = nI (1 + 4 * k1))) (by decide) rfl (fun ls hl => ?_)
          refine lv_goto (tgt := 5) hx hb dX6_partsAhead_27 (by decide) ?_
          have hB2 : B_X6_partsAhead_5 tx a2 0 (k1 + 1) = x1_0 := by
            rw [B_X6_partsAhead_5, hB_1]
            rw [S_X6_partsAhead_5, if_neg c_3]
          have e_k : (nI ((1 + 4 * k1) + 4)) = nI (1 + 4 * (k1 + 1)) := (rfl : nI ((1 + 4 * k1) + 4) = nI ((1 + 4 * k1) + 4)).trans (congrArg nI (by omega))
          rw [e_k] at hl
          exact ih_1 (k1 + 1) x1_0 _ (by omega) (by omega) hB2 (lv_sub hl [0, 1, 2, 3, 4] rfl)
        · refine lv_iinc (v := (x1_0 + 1)) (lv' := [(3, .int (x1_0 + 1)), (4, .int (nI (1 + 4 * k1))), (0, .ref q0), (1, .int a1), (2, .int a2)]) hx hb dX6_partsAhead_21 hl (k := 1) rfl rfl (by decide) rfl (fun ls hl => ?_)
          refine lv_iinc (v := (nI ((1 + 4 * k1) + 4))) (lv' := [(4, .int (nI ((1 + 4 * k1) + 4))), (3, .int (x1_0 + 1)), (0, .ref q0), (1, .int a1), (2, .int a2)]) hx hb dX6_partsAhead_24 hl (k := 1) rfl (nf_inc 4 (rfl : nI (1 + 4 * k1) = nI (1 + 4 * k1))) (by decide) rfl (fun ls hl => ?_)
          refine lv_goto (tgt := 5) hx hb dX6_partsAhead_27 (by decide) ?_
          have hB2 : B_X6_partsAhead_5 tx a2 0 (k1 + 1) = (x1_0 + 1) := by
            rw [B_X6_partsAhead_5, hB_1]
            rw [S_X6_partsAhead_5, if_pos c_3]
          have e_k : (nI ((1 + 4 * k1) + 4)) = nI (1 + 4 * (k1 + 1)) := (rfl : nI ((1 + 4 * k1) + 4) = nI ((1 + 4 * k1) + 4)).trans (congrArg nI (by omega))
          rw [e_k] at hl
          exact ih_1 (k1 + 1) (x1_0 + 1) _ (by omega) (by omega) hB2 (lv_sub hl [0, 1, 2, 3, 4] rfl)
  have e_k : 1 = nI (1 + 4 * 0) := (nf_c 1).trans (congrArg nI (by omega))
  rw [e_k] at hl
  exact LOOP_5 (((n1 + 2) / 4) - 0 + 1) 0 0 _ (Nat.zero_le _) (by omega) rfl (lv_sub hl [0, 1, 2, 3, 4] rfl)
theorem lk_X6_50 : mLkV RX6 50 yX6_partsAhead cX6_partsAhead 5 (some .int) 2 := ⟨⟨tw_1_205, tw_1_5, tw_1_208, ⟨by decide +kernel, by decide +kernel, by decide +kernel⟩⟩, tw_1_207, tp_1_2⟩
def f_X6_startsPart (tx : Nat → Int32) (a1 : Int32) (n1 : Nat) : Int32 :=
  (if (f_X2_at 40 tx a1) = 80 then (if 5 ≤ ((B_X6_partsAhead_5 tx 80 0 ((n1 + 2) / 4))) then 0 else 1) else (if (f_X2_at 40 tx a1) = 82 then (if 4 ≤ ((B_X6_partsAhead_5 tx 82 0 ((n1 + 2) / 4))) then 0 else 1) else 0))
theorem z_f_X6_startsPart (tx : Nat → Int32) (a1 : Int32) (n1 : Nat) : narrow .boolean (.int (f_X6_startsPart tx a1 n1)) = .int (f_X6_startsPart tx a1 n1) := by
  unfold f_X6_startsPart
  repeat' split
  all_goals first | rfl
set_option maxRecDepth 100000 in
set_option maxHeartbeats 4000000 in
theorem c_X6_startsPart (l : Launch) (D : va_G) (cI cZ : ClassId) (q0 q1 q2 : Nat) (nT : Nat) (tx : Nat → Int32) (a1 : Int32) (n1 : Nat) (h_a1 : a1 = nI n1) (hn1 : n1 ≤ 40) : RO l D cI cZ yX6_startsPart cX6_startsPart 2 (some .boolean) (mR 3 66) [.ref q0, .int a1] [(q0, .inr (6, [.ref q1, .int (nI nT)])), (q1, .inr (2, [.ref q2])), (q2, .inl (cI, 40, .inl tx))] (some (.int (f_X6_startsPart tx a1 n1))) := by
  refine RO.of (by decide +kernel) (Nat.le_of_ble_eq_true rfl) ?_
  intro p e s m args below meth c ls Q CF hr hlk hP hE hQ hl
  have hx := CF.1
  have hb := CF.2.1
  have hl : lv_has ls 2 [(0, .ref q0), (1, .int a1)] := hl
  refine lv_aload_n hx hb dX6_startsPart_0 rfl (lv_at hl 0 rfl) ?_
  refine lv_iload_n hx hb dX6_startsPart_1 rfl (lv_at hl 1 rfl) ?_
  refine ro_V (y := yX6_at) (As := [.int a1]) (rest := []) (q0 := 0) CF (c_X6_at l D cI cZ q0 q1 q2 nT tx a1) lk_X6_36 hP hE [0, 1, 2] rfl rfl rfl rfl hl.1 rfl (Nat.le_of_ble_eq_true rfl) ⟨Nat.le_of_ble_eq_true rfl, Nat.le_of_ble_eq_true rfl, rfl, rfl⟩ ⟨Nat.zero_le _, Nat.zero_le _⟩ dX6_startsPart_2 ?_
  refine lv_bipush (v := 80) hx hb dX6_startsPart_5 (by decide) ?_
  refine lv_icmp_ne (tgt := 27) hx hb dX6_startsPart_7 (by decide) (fun c_1 => ?_) (fun c_1 => ?_)
  · refine lv_aload_n hx hb dX6_startsPart_27 rfl (lv_at hl 0 rfl) ?_
    refine lv_iload_n hx hb dX6_startsPart_28 rfl (lv_at hl 1 rfl) ?_
    refine ro_V (y := yX6_at) (As := [.int a1]) (rest := []) (q0 := 0) CF (c_X6_at l D cI cZ q0 q1 q2 nT tx a1) lk_X6_36 hP hE [0, 1, 2] rfl rfl rfl rfl hl.1 rfl (Nat.le_of_ble_eq_true rfl) ⟨Nat.le_of_ble_eq_true rfl, Nat.le_of_ble_eq_true rfl, rfl, rfl⟩ ⟨Nat.zero_le _, Nat.zero_le _⟩ dX6_startsPart_29 ?_
    refine lv_bipush (v := 82) hx hb dX6_startsPart_32 (by decide) ?_
    refine lv_icmp_ne (tgt := 52) hx hb dX6_startsPart_34 (by decide) (fun c_2 => ?_) (fun c_2 => ?_)
    · refine lv_iconst (v := 0) hx hb dX6_startsPart_52 (by decide) ?_
      exact ro_ret CF hQ hr hlk rfl dX6_startsPart_53 (by rw [f_X6_startsPart, if_neg c_1, if_neg c_2])
    · refine lv_aload_n hx hb dX6_startsPart_37 rfl (lv_at hl 0 rfl) ?_
      refine lv_iload_n hx hb dX6_startsPart_38 rfl (lv_at hl 1 rfl) ?_
      refine lv_bipush (v := 82) hx hb dX6_startsPart_39 (by decide) ?_
      refine ro_V (y := yX6_partsAhead) (As := [.int a1, .int 82]) (rest := []) (q0 := 0) CF (c_X6_partsAhead l D cI cZ q0 q1 q2 nT tx a1 n1 82 h_a1 (by omega)) lk_X6_50 hP hE [0, 1, 2] rfl rfl rfl rfl hl.1 rfl (Nat.le_of_ble_eq_true rfl) ⟨Nat.le_of_ble_eq_true rfl, Nat.le_of_ble_eq_true rfl, rfl, rfl⟩ ⟨Nat.zero_le _, Nat.zero_le _⟩ dX6_startsPart_41 ?_
      refine lv_iconst (v := 4) hx hb dX6_startsPart_44 (by decide) ?_
      refine lv_icmp_ge (tgt := 52) hx hb dX6_startsPart_45 (by decide) (fun c_3 => ?_) (fun c_3 => ?_)
      · refine lv_iconst (v := 0) hx hb dX6_startsPart_52 (by decide) ?_
        exact ro_ret CF hQ hr hlk rfl dX6_startsPart_53 (by rw [f_X6_startsPart, if_neg c_1, if_pos c_2, if_pos c_3])
      · refine lv_iconst (v := 1) hx hb dX6_startsPart_48 (by decide) ?_
        refine lv_goto (tgt := 53) hx hb dX6_startsPart_49 (by decide) ?_
        exact ro_ret CF hQ hr hlk rfl dX6_startsPart_53 (by rw [f_X6_startsPart, if_neg c_1, if_pos c_2, if_neg c_3])
  · refine lv_aload_n hx hb dX6_startsPart_10 rfl (lv_at hl 0 rfl) ?_
    refine lv_iload_n hx hb dX6_startsPart_11 rfl (lv_at hl 1 rfl) ?_
    refine lv_bipush (v := 80) hx hb dX6_startsPart_12 (by decide) ?_
    refine ro_V (y := yX6_partsAhead) (As := [.int a1, .int 80]) (rest := []) (q0 := 0) CF (c_X6_partsAhead l D cI cZ q0 q1 q2 nT tx a1 n1 80 h_a1 (by omega)) lk_X6_50 hP hE [0, 1, 2] rfl rfl rfl rfl hl.1 rfl (Nat.le_of_ble_eq_true rfl) ⟨Nat.le_of_ble_eq_true rfl, Nat.le_of_ble_eq_true rfl, rfl, rfl⟩ ⟨Nat.zero_le _, Nat.zero_le _⟩ dX6_startsPart_14 ?_
    refine lv_iconst (v := 5) hx hb dX6_startsPart_17 (by decide) ?_
    refine lv_icmp_ge (tgt := 25) hx hb dX6_startsPart_18 (by decide) (fun c_4 => ?_) (fun c_4 => ?_)
    · refine lv_iconst (v := 0) hx hb dX6_startsPart_25 (by decide) ?_
      exact ro_ret CF hQ hr hlk rfl dX6_startsPart_26 (by rw [f_X6_startsPart, if_pos c_1, if_pos c_4])
    · refine lv_iconst (v := 1) hx hb dX6_startsPart_21 (by decide) ?_
      refine lv_goto (tgt := 26) hx hb dX6_startsPart_22 (by decide) ?_
      exact ro_ret CF hQ hr hlk rfl dX6_startsPart_26 (by rw [f_X6_startsPart, if_pos c_1, if_neg c_4])
theorem lk_X6_47 : mLkV RX6 47 yX6_letter cX6_letter 2 (some .int) 1 := ⟨⟨tw_1_216, tw_1_5, tw_1_219, ⟨by decide +kernel, by decide +kernel, by decide +kernel⟩⟩, tw_1_217, tw_1_218⟩
theorem lk_X6_43 : mLkS RX6 43 yX6_isBetween cX6_isBetween 2 (some .boolean) 2 := ⟨⟨tw_1_213, tw_1_5, tw_1_215, ⟨by decide +kernel, by decide +kernel, by decide +kernel⟩⟩, tw_1_214⟩
theorem lk_X6_40 : mLkV RX6 40 yX6_digit cX6_digit 2 (some .int) 1 := ⟨⟨tw_1_209, tw_1_5, tw_1_212, ⟨by decide +kernel, by decide +kernel, by decide +kernel⟩⟩, tw_1_210, tw_1_211⟩
theorem lk_X6_37 : mLkV RX6 37 yX6_startsPart cX6_startsPart 2 (some .boolean) 1 := ⟨⟨tw_1_201, tw_1_5, tw_1_204, ⟨by decide +kernel, by decide +kernel, by decide +kernel⟩⟩, tw_1_203, tp_1_1⟩
def f_X6_fits (tx : Nat → Int32) (a1 : Int32) (n1 : Nat) : Int32 :=
  (if a1 = 0 then (if (f_X2_at 40 tx 0) = 75 then 1 else 0) else (if ((a1 - 1) - (a1 - 1) / 4 * 4) = 0 then (f_X6_startsPart tx a1 n1) else (if (f_X2_at 40 tx (a1 - ((a1 - 1) - (a1 - 1) / 4 * 4))) = 82 then (f_X6_isBetween ((f_X2_at 40 tx a1) - 48) 5) else (if ((a1 - 1) - (a1 - 1) / 4 * 4) = 1 then (f_X6_isBetween ((f_X2_at 40 tx a1) - 48) 3) else (f_X6_isBetween ((f_X2_at 40 tx a1) - 97) 7)))))
theorem z_f_X6_fits (tx : Nat → Int32) (a1 : Int32) (n1 : Nat) : narrow .boolean (.int (f_X6_fits tx a1 n1)) = .int (f_X6_fits tx a1 n1) := by
  unfold f_X6_fits
  repeat' split
  all_goals first | rfl | exact z_f_X6_isBetween _ _ | exact z_f_X6_startsPart _ _ _
set_option maxRecDepth 100000 in
set_option maxHeartbeats 4000000 in
theorem c_X6_fits (l : Launch) (D : va_G) (cI cZ : ClassId) (q0 q1 q2 : Nat) (nT : Nat) (tx : Nat → Int32) (a1 : Int32) (n1 : Nat) (h_a1 : a1 = nI n1) (hn1 : n1 ≤ 40) : RO l D cI cZ yX6_fits cX6_fits 3 (some .boolean) (mR 4 87) [.ref q0, .int a1] [(q0, .inr (6, [.ref q1, .int (nI nT)])), (q1, .inr (2, [.ref q2])), (q2, .inl (cI, 40, .inl tx))] (some (.int (f_X6_fits tx a1 n1))) := by
  refine RO.of (by decide +kernel) (Nat.le_of_ble_eq_true rfl) ?_
  intro p e s m args below meth c ls Q CF hr hlk hP hE hQ hl
  have hx := CF.1
  have hb := CF.2.1
  have hl : lv_has ls 3 [(0, .ref q0), (1, .int a1)] := hl
  refine lv_iload_n hx hb dX6_fits_0 rfl (lv_at hl 1 rfl) ?_
  refine lv_if_ne (tgt := 20) hx hb dX6_fits_1 (by decide) (fun c_1 => ?_) (fun c_1 => ?_)
  · refine lv_iload_n hx hb dX6_fits_20 rfl (lv_at hl 1 rfl) ?_
    refine lv_iconst (v := 1) hx hb dX6_fits_21 (by decide) ?_
    refine lv_isub hx hb dX6_fits_22 ?_
    refine lv_iconst (v := 4) hx hb dX6_fits_23 (by decide) ?_
    refine lv_irem hx hb dX6_fits_24 (by decide) ?_
    refine lv_istore_n (lv' := [(2, .int ((a1 - 1) - (a1 - 1) / 4 * 4)), (0, .ref q0), (1, .int a1)]) hx hb dX6_fits_25 rfl hl (by decide) rfl (fun ls hl => ?_)
    refine lv_iload_n hx hb dX6_fits_26 rfl (lv_at hl 0 rfl) ?_
    refine lv_if_ne (tgt := 36) hx hb dX6_fits_27 (by decide) (fun c_2 => ?_) (fun c_2 => ?_)
    · refine lv_aload_n hx hb dX6_fits_36 rfl (lv_at hl 1 rfl) ?_
      refine lv_iload_n hx hb dX6_fits_37 rfl (lv_at hl 2 rfl) ?_
      refine lv_iload_n hx hb dX6_fits_38 rfl (lv_at hl 0 rfl) ?_
      refine lv_isub hx hb dX6_fits_39 ?_
      refine ro_V (y := yX6_at) (As := [.int (a1 - ((a1 - 1) - (a1 - 1) / 4 * 4))]) (rest := []) (q0 := 0) CF (c_X6_at l D cI cZ q0 q1 q2 nT tx (a1 - ((a1 - 1) - (a1 - 1) / 4 * 4))) lk_X6_36 hP hE [0, 1, 2] rfl rfl rfl rfl hl.1 rfl (Nat.le_of_ble_eq_true rfl) ⟨Nat.le_of_ble_eq_true rfl, Nat.le_of_ble_eq_true rfl, rfl, rfl⟩ ⟨Nat.zero_le _, Nat.zero_le _⟩ dX6_fits_40 ?_
      refine lv_bipush (v := 82) hx hb dX6_fits_43 (by decide) ?_
      refine lv_icmp_ne (tgt := 58) hx hb dX6_fits_45 (by decide) (fun c_3 => ?_) (fun c_3 => ?_)
      · refine lv_iload_n hx hb dX6_fits_58 rfl (lv_at hl 0 rfl) ?_
        refine lv_iconst (v := 1) hx hb dX6_fits_59 (by decide) ?_
        refine lv_icmp_ne (tgt := 75) hx hb dX6_fits_60 (by decide) (fun c_4 => ?_) (fun c_4 => ?_)
        · refine lv_aload_n hx hb dX6_fits_75 rfl (lv_at hl 1 rfl) ?_
          refine lv_iload_n hx hb dX6_fits_76 rfl (lv_at hl 2 rfl) ?_
          refine ro_V (y := yX6_letter) (As := [.int a1]) (rest := []) (q0 := 0) CF (c_X6_letter l D cI cZ q0 q1 q2 nT tx a1) lk_X6_47 hP hE [0, 1, 2] rfl rfl rfl rfl hl.1 rfl (Nat.le_of_ble_eq_true rfl) ⟨Nat.le_of_ble_eq_true rfl, Nat.le_of_ble_eq_true rfl, rfl, rfl⟩ ⟨Nat.zero_le _, Nat.zero_le _⟩ dX6_fits_77 ?_
          refine lv_bipush (v := 7) hx hb dX6_fits_80 (by decide) ?_
          refine ro_S (y := yX6_isBetween) (As := [.int ((f_X2_at 40 tx a1) - 97), .int 7]) (rest := []) CF (c_X6_isBetween l D cI cZ ((f_X2_at 40 tx a1) - 97) 7) lk_X6_43 hE rfl hl.1 rfl (Nat.le_of_ble_eq_true rfl) ⟨Nat.le_of_ble_eq_true rfl, Nat.le_of_ble_eq_true rfl, rfl, rfl⟩ ⟨Nat.zero_le _, Nat.zero_le _⟩ dX6_fits_82 ?_
          exact ro_ret CF hQ hr hlk (z_f_X6_isBetween _ _) dX6_fits_85 (by rw [f_X6_fits, if_neg c_1, if_neg c_2, if_neg c_3, if_neg c_4])
        · refine lv_aload_n hx hb dX6_fits_63 rfl (lv_at hl 1 rfl) ?_
          refine lv_iload_n hx hb dX6_fits_64 rfl (lv_at hl 2 rfl) ?_
          refine ro_V (y := yX6_digit) (As := [.int a1]) (rest := []) (q0 := 0) CF (c_X6_digit l D cI cZ q0 q1 q2 nT tx a1) lk_X6_40 hP hE [0, 1, 2] rfl rfl rfl rfl hl.1 rfl (Nat.le_of_ble_eq_true rfl) ⟨Nat.le_of_ble_eq_true rfl, Nat.le_of_ble_eq_true rfl, rfl, rfl⟩ ⟨Nat.zero_le _, Nat.zero_le _⟩ dX6_fits_65 ?_
          refine lv_iconst (v := 3) hx hb dX6_fits_68 (by decide) ?_
          refine ro_S (y := yX6_isBetween) (As := [.int ((f_X2_at 40 tx a1) - 48), .int 3]) (rest := []) CF (c_X6_isBetween l D cI cZ ((f_X2_at 40 tx a1) - 48) 3) lk_X6_43 hE rfl hl.1 rfl (Nat.le_of_ble_eq_true rfl) ⟨Nat.le_of_ble_eq_true rfl, Nat.le_of_ble_eq_true rfl, rfl, rfl⟩ ⟨Nat.zero_le _, Nat.zero_le _⟩ dX6_fits_69 ?_
          refine lv_goto (tgt := 85) hx hb dX6_fits_72 (by decide) ?_
          exact ro_ret CF hQ hr hlk (z_f_X6_isBetween _ _) dX6_fits_85 (by rw [f_X6_fits, if_neg c_1, if_neg c_2, if_neg c_3, if_pos c_4])
      · refine lv_aload_n hx hb dX6_fits_48 rfl (lv_at hl 1 rfl) ?_
        refine lv_iload_n hx hb dX6_fits_49 rfl (lv_at hl 2 rfl) ?_
        refine ro_V (y := yX6_digit) (As := [.int a1]) (rest := []) (q0 := 0) CF (c_X6_digit l D cI cZ q0 q1 q2 nT tx a1) lk_X6_40 hP hE [0, 1, 2] rfl rfl rfl rfl hl.1 rfl (Nat.le_of_ble_eq_true rfl) ⟨Nat.le_of_ble_eq_true rfl, Nat.le_of_ble_eq_true rfl, rfl, rfl⟩ ⟨Nat.zero_le _, Nat.zero_le _⟩ dX6_fits_50 ?_
        refine lv_iconst (v := 5) hx hb dX6_fits_53 (by decide) ?_
        refine ro_S (y := yX6_isBetween) (As := [.int ((f_X2_at 40 tx a1) - 48), .int 5]) (rest := []) CF (c_X6_isBetween l D cI cZ ((f_X2_at 40 tx a1) - 48) 5) lk_X6_43 hE rfl hl.1 rfl (Nat.le_of_ble_eq_true rfl) ⟨Nat.le_of_ble_eq_true rfl, Nat.le_of_ble_eq_true rfl, rfl, rfl⟩ ⟨Nat.zero_le _, Nat.zero_le _⟩ dX6_fits_54 ?_
        exact ro_ret CF hQ hr hlk (z_f_X6_isBetween _ _) dX6_fits_57 (by rw [f_X6_fits, if_neg c_1, if_neg c_2, if_pos c_3])
    · refine lv_aload_n hx hb dX6_fits_30 rfl (lv_at hl 1 rfl) ?_
      refine lv_iload_n hx hb dX6_fits_31 rfl (lv_at hl 2 rfl) ?_
      refine ro_V (y := yX6_startsPart) (As := [.int a1]) (rest := []) (q0 := 0) CF (c_X6_startsPart l D cI cZ q0 q1 q2 nT tx a1 n1 h_a1 (by omega)) lk_X6_37 hP hE [0, 1, 2] rfl rfl rfl rfl hl.1 rfl (Nat.le_of_ble_eq_true rfl) ⟨Nat.le_of_ble_eq_true rfl, Nat.le_of_ble_eq_true rfl, rfl, rfl⟩ ⟨Nat.zero_le _, Nat.zero_le _⟩ dX6_fits_32 ?_
      exact ro_ret CF hQ hr hlk (z_f_X6_startsPart _ _ _) dX6_fits_35 (by rw [f_X6_fits, if_neg c_1, if_pos c_2])
  · refine lv_aload_n hx hb dX6_fits_4 rfl (lv_at hl 0 rfl) ?_
    refine lv_iconst (v := 0) hx hb dX6_fits_5 (by decide) ?_
    refine ro_V (y := yX6_at) (As := [.int 0]) (rest := []) (q0 := 0) CF (c_X6_at l D cI cZ q0 q1 q2 nT tx 0) lk_X6_36 hP hE [0, 1, 2] rfl rfl rfl rfl hl.1 rfl (Nat.le_of_ble_eq_true rfl) ⟨Nat.le_of_ble_eq_true rfl, Nat.le_of_ble_eq_true rfl, rfl, rfl⟩ ⟨Nat.zero_le _, Nat.zero_le _⟩ dX6_fits_6 ?_
    refine lv_bipush (v := 75) hx hb dX6_fits_9 (by decide) ?_
    refine lv_icmp_ne (tgt := 18) hx hb dX6_fits_11 (by decide) (fun c_5 => ?_) (fun c_5 => ?_)
    · refine lv_iconst (v := 0) hx hb dX6_fits_18 (by decide) ?_
      exact ro_ret CF hQ hr hlk rfl dX6_fits_19 (by rw [f_X6_fits, if_pos c_1, if_neg c_5])
    · refine lv_iconst (v := 1) hx hb dX6_fits_14 (by decide) ?_
      refine lv_goto (tgt := 19) hx hb dX6_fits_15 (by decide) ?_
      exact ro_ret CF hQ hr hlk rfl dX6_fits_19 (by rw [f_X6_fits, if_pos c_1, if_pos c_5])
theorem lk_X6_32 : mLkV RX6 32 yX6_fits cX6_fits 3 (some .boolean) 1 := ⟨⟨tw_1_189, tw_1_5, tw_1_192, ⟨by decide +kernel, by decide +kernel, by decide +kernel⟩⟩, tw_1_191, tp_1_0⟩
def S_X6_firstFault_2 (nT : Nat) (tx : Nat → Int32) (rec : Nat → ((Int32))) (k1 : Nat) : (Int32) :=
  (if (nI nT) ≤ (nI k1) then (if (nI nT) ≤ 0 then (nI nT) else (if (((nI nT) - 1) - ((nI nT) - 1) / 4 * 4) = 0 then (-9) else (nI nT))) else (if (f_X6_fits tx (nI k1) k1) = 0 then (nI k1) else (rec (k1 + 1) )))
def L_X6_firstFault_2 (nT : Nat) (tx : Nat → Int32) : Nat → Nat → ((Int32))
  | 0, _ => 0
  | n + 1, k => S_X6_firstFault_2 nT tx (L_X6_firstFault_2 nT tx n) k
set_option maxRecDepth 100000 in
set_option maxHeartbeats 4000000 in
theorem c_X6_firstFault (l : Launch) (D : va_G) (cI cZ : ClassId) (q0 q1 q2 : Nat) (nT : Nat) (tx : Nat → Int32) (hT : nT ≤ 40) : RO l D cI cZ yX6_firstFault cX6_firstFault 2 (some .int) (mR 5 109) [.ref q0] [(q0, .inr (6, [.ref q1, .int (nI nT)])), (q1, .inr (2, [.ref q2])), (q2, .inl (cI, 40, .inl tx))] (some (.int ((L_X6_firstFault_2 nT tx (nT + 1) 0)))) := by
  refine RO.of (by decide +kernel) (Nat.le_of_ble_eq_true rfl) ?_
  intro p e s m args below meth c ls Q CF hr hlk hP hE hQ hl
  have hx := CF.1
  have hb := CF.2.1
  have hl : lv_has ls 2 [(0, .ref q0)] := hl
  refine lv_iconst (v := 0) hx hb dX6_firstFault_0 (by decide) ?_
  refine lv_istore_n (lv' := [(1, .int 0), (0, .ref q0)]) hx hb dX6_firstFault_1 rfl hl (by decide) rfl (fun ls hl => ?_)
  have LOOP_2 : ∀ (n_1 k1 : Nat) (ls : Array Slot), k1 ≤ nT → nT - k1 < n_1 → L_X6_firstFault_2 nT tx n_1 k1  = L_X6_firstFault_2 nT tx (nT + 1) 0 → lv_has ls 2 [(1, .int (nI k1)), (0, .ref q0)] → W p l e (mR 5 109) s m args below meth c s.heap [] 0 0 Q (F0 m 2 ls []) := by
    intro n_1
    induction n_1 with
    | zero => intro k1 ls hk_1 hn_1 hR_1 hl; exact absurd hn_1 (Nat.not_lt_zero _)
    | succ n_1 ih_1 =>
      intro k1 ls hk_1 hn_1 hR_1 hl
      refine lv_iload_n hx hb dX6_firstFault_2 rfl (lv_at hl 0 rfl) ?_
      refine lv_aload_n hx hb dX6_firstFault_3 rfl (lv_at hl 1 rfl) ?_
      refine r_get (C := RX6) (T := TX6) (N := 2) (v := .int (nI nT)) CF hE hP 0 rfl rfl inG6 1 (by decide) tw_1_65 rfl rfl dX6_firstFault_4 ?_
      refine lv_icmp_ge (tgt := 26) hx hb dX6_firstFault_7 (by decide) (fun c_3 => ?_) (fun c_3 => ?_)
      · have o_3 : nT ≤ k1 := (cle (rfl : nI nT = nI nT) (rfl : nI k1 = nI k1) (by omega) (by omega)).mp c_3
        refine lv_aload_n hx hb dX6_firstFault_26 rfl (lv_at hl 1 rfl) ?_
        refine r_get (C := RX6) (T := TX6) (N := 2) (v := .int (nI nT)) CF hE hP 0 rfl rfl inG6 1 (by decide) tw_1_65 rfl rfl dX6_firstFault_27 ?_
        refine lv_if_le (tgt := 48) hx hb dX6_firstFault_30 (by decide) (fun c_4 => ?_) (fun c_4 => ?_)
        · refine lv_iconst (v := 0) hx hb dX6_firstFault_48 (by decide) ?_
          refine lv_istore_n (lv' := [(1, .int 0), (0, .ref q0)]) hx hb dX6_firstFault_49 rfl hl (by decide) rfl (fun ls hl => ?_)
          refine lv_iload_n hx hb dX6_firstFault_50 rfl (lv_at hl 0 rfl) ?_
          refine lv_if_eq (tgt := 59) hx hb dX6_firstFault_51 (by decide) (fun _ => ?_) (fun c_5 => absurd c_5 (by decide))
          refine lv_aload_n hx hb dX6_firstFault_59 rfl (lv_at hl 1 rfl) ?_
          refine r_get (C := RX6) (T := TX6) (N := 2) (v := .int (nI nT)) CF hE hP 0 rfl rfl inG6 1 (by decide) tw_1_65 rfl rfl dX6_firstFault_60 ?_
          have hq_2 : L_X6_firstFault_2 nT tx (nT + 1) 0 = (nI nT) := by
            rw [← hR_1]
            show S_X6_firstFault_2 nT tx (L_X6_firstFault_2 nT tx n_1) k1  = _
            rw [S_X6_firstFault_2, if_pos c_3, if_pos c_4]
          exact ro_ret CF hQ hr hlk rfl dX6_firstFault_63 (by rw [hq_2])
        · refine lv_aload_n hx hb dX6_firstFault_33 rfl (lv_at hl 1 rfl) ?_
          refine r_get (C := RX6) (T := TX6) (N := 2) (v := .int (nI nT)) CF hE hP 0 rfl rfl inG6 1 (by decide) tw_1_65 rfl rfl dX6_firstFault_34 ?_
          refine lv_iconst (v := 1) hx hb dX6_firstFault_37 (by decide) ?_
          refine lv_isub hx hb dX6_firstFault_38 ?_
          refine lv_iconst (v := 4) hx hb dX6_firstFault_39 (by decide) ?_
          refine lv_irem hx hb dX6_firstFault_40 (by decide) ?_
          refine lv_if_ne (tgt := 48) hx hb dX6_firstFault_41 (by decide) (fun c_6 => ?_) (fun c_6 => ?_)
          · refine lv_iconst (v := 0) hx hb dX6_firstFault_48 (by decide) ?_
            refine lv_istore_n (lv' := [(1, .int 0), (0, .ref q0)]) hx hb dX6_firstFault_49 rfl hl (by decide) rfl (fun ls hl => ?_)
            refine lv_iload_n hx hb dX6_firstFault_50 rfl (lv_at hl 0 rfl) ?_
            refine lv_if_eq (tgt := 59) hx hb dX6_firstFault_51 (by decide) (fun _ => ?_) (fun c_7 => absurd c_7 (by decide))
            refine lv_aload_n hx hb dX6_firstFault_59 rfl (lv_at hl 1 rfl) ?_
            refine r_get (C := RX6) (T := TX6) (N := 2) (v := .int (nI nT)) CF hE hP 0 rfl rfl inG6 1 (by decide) tw_1_65 rfl rfl dX6_firstFault_60 ?_
            have hq_2 : L_X6_firstFault_2 nT tx (nT + 1) 0 = (nI nT) := by
              rw [← hR_1]
              show S_X6_firstFault_2 nT tx (L_X6_firstFault_2 nT tx n_1) k1  = _
              rw [S_X6_firstFault_2, if_pos c_3, if_neg c_4, if_neg c_6]
            exact ro_ret CF hQ hr hlk rfl dX6_firstFault_63 (by rw [hq_2])
          · refine lv_iconst (v := 1) hx hb dX6_firstFault_44 (by decide) ?_
            refine lv_goto (tgt := 49) hx hb dX6_firstFault_45 (by decide) ?_
            refine lv_istore_n (lv' := [(1, .int 1), (0, .ref q0)]) hx hb dX6_firstFault_49 rfl hl (by decide) rfl (fun ls hl => ?_)
            refine lv_iload_n hx hb dX6_firstFault_50 rfl (lv_at hl 0 rfl) ?_
            refine lv_if_eq (tgt := 59) hx hb dX6_firstFault_51 (by decide) (fun c_8 => absurd c_8 (by decide)) (fun _ => ?_)
            refine lv_bipush (v := (-9)) hx hb dX6_firstFault_54 (by decide) ?_
            refine lv_goto (tgt := 63) hx hb dX6_firstFault_56 (by decide) ?_
            have hq_2 : L_X6_firstFault_2 nT tx (nT + 1) 0 = (-9) := by
              rw [← hR_1]
              show S_X6_firstFault_2 nT tx (L_X6_firstFault_2 nT tx n_1) k1  = _
              rw [S_X6_firstFault_2, if_pos c_3, if_neg c_4, if_pos c_6]
            exact ro_ret CF hQ hr hlk rfl dX6_firstFault_63 (by rw [hq_2])
      · have o_3 : ¬ nT ≤ k1 := fun h => c_3 ((cle (rfl : nI nT = nI nT) (rfl : nI k1 = nI k1) (by omega) (by omega)).mpr h)
        refine lv_aload_n hx hb dX6_firstFault_10 rfl (lv_at hl 1 rfl) ?_
        refine lv_iload_n hx hb dX6_firstFault_11 rfl (lv_at hl 0 rfl) ?_
        refine ro_V (y := yX6_fits) (As := [.int (nI k1)]) (rest := []) (q0 := 0) CF (c_X6_fits l D cI cZ q0 q1 q2 nT tx (nI k1) k1 (rfl : nI k1 = nI k1) (by omega)) lk_X6_32 hP hE [0, 1, 2] rfl rfl rfl rfl hl.1 rfl (Nat.le_of_ble_eq_true rfl) ⟨Nat.le_of_ble_eq_true rfl, Nat.le_of_ble_eq_true rfl, rfl, rfl⟩ ⟨Nat.zero_le _, Nat.zero_le _⟩ dX6_firstFault_12 ?_
        refine lv_if_ne (tgt := 20) hx hb dX6_firstFault_15 (by decide) (fun c_9 => ?_) (fun c_9 => ?_)
        · refine lv_iinc (v := (nI (k1 + 1))) (lv' := [(1, .int (nI (k1 + 1))), (0, .ref q0)]) hx hb dX6_firstFault_20 hl (k := 0) rfl (nf_inc 1 (rfl : nI k1 = nI k1)) (by decide) rfl (fun ls hl => ?_)
          refine lv_goto (tgt := 2) hx hb dX6_firstFault_23 (by decide) ?_
          have hR2 : L_X6_firstFault_2 nT tx n_1 (k1 + 1)  = L_X6_firstFault_2 nT tx (nT + 1) 0 := by
            rw [← hR_1]
            show _ = S_X6_firstFault_2 nT tx (L_X6_firstFault_2 nT tx n_1) k1 
            rw [S_X6_firstFault_2, if_neg c_3, if_neg c_9]
          exact ih_1 (k1 + 1) _ (by omega) (by omega) hR2 (lv_sub hl [0, 1] rfl)
        · refine lv_iload_n hx hb dX6_firstFault_18 rfl (lv_at hl 0 rfl) ?_
          have hq_2 : L_X6_firstFault_2 nT tx (nT + 1) 0 = (nI k1) := by
            rw [← hR_1]
            show S_X6_firstFault_2 nT tx (L_X6_firstFault_2 nT tx n_1) k1  = _
            rw [S_X6_firstFault_2, if_neg c_3, if_pos c_9]
          exact ro_ret CF hQ hr hlk rfl dX6_firstFault_19 (by rw [hq_2])
  have e_k : 0 = nI (0) := (nf_c 0).trans (congrArg nI (by omega))
  rw [e_k] at hl
  exact LOOP_2 (nT + 1) 0 _ (Nat.zero_le _) (by omega) rfl (lv_sub hl [0, 1] rfl)
def f_X7_contains (a0 : Int32) (a1 : Int32) : Int32 :=
  (if ((a0 >>> (a1 &&& 31)) &&& 1) = 1 then 1 else 0)
theorem z_f_X7_contains (a0 : Int32) (a1 : Int32) : narrow .boolean (.int (f_X7_contains a0 a1)) = .int (f_X7_contains a0 a1) := by
  unfold f_X7_contains
  repeat' split
  all_goals first | rfl
set_option maxRecDepth 100000 in
set_option maxHeartbeats 4000000 in
theorem c_X7_contains (l : Launch) (D : va_G) (cI cZ : ClassId) (a0 : Int32) (a1 : Int32) : RO l D cI cZ yX7_contains cX7_contains 2 (some .boolean) (mR 0 0) [.int a0, .int a1] [] (some (.int (f_X7_contains a0 a1))) := by
  refine RO.of (by decide +kernel) (Nat.le_of_ble_eq_true rfl) ?_
  intro p e s m args below meth c ls Q CF hr hlk hP hE hQ hl
  have hx := CF.1
  have hb := CF.2.1
  have hl : lv_has ls 2 [(0, .int a0), (1, .int a1)] := hl
  refine lv_iload_n hx hb dX7_contains_0 rfl (lv_at hl 0 rfl) ?_
  refine lv_iload_n hx hb dX7_contains_1 rfl (lv_at hl 1 rfl) ?_
  refine lv_ishr hx hb dX7_contains_2 ?_
  refine lv_iconst (v := 1) hx hb dX7_contains_3 (by decide) ?_
  refine lv_iand hx hb dX7_contains_4 ?_
  refine lv_iconst (v := 1) hx hb dX7_contains_5 (by decide) ?_
  refine lv_icmp_ne (tgt := 13) hx hb dX7_contains_6 (by decide) (fun c_1 => ?_) (fun c_1 => ?_)
  · refine lv_iconst (v := 0) hx hb dX7_contains_13 (by decide) ?_
    exact ro_ret CF hQ hr hlk rfl dX7_contains_14 (by rw [f_X7_contains, if_neg c_1])
  · refine lv_iconst (v := 1) hx hb dX7_contains_9 (by decide) ?_
    refine lv_goto (tgt := 14) hx hb dX7_contains_10 (by decide) ?_
    exact ro_ret CF hQ hr hlk rfl dX7_contains_14 (by rw [f_X7_contains, if_pos c_1])
def f_X7_isFact (a0 : Int32) : Int32 :=
  (if a0 < 0 then 0 else (if 6 ≤ a0 then 0 else 1))
theorem z_f_X7_isFact (a0 : Int32) : narrow .boolean (.int (f_X7_isFact a0)) = .int (f_X7_isFact a0) := by
  unfold f_X7_isFact
  repeat' split
  all_goals first | rfl
set_option maxRecDepth 100000 in
set_option maxHeartbeats 4000000 in
theorem c_X7_isFact (l : Launch) (D : va_G) (cI cZ : ClassId) (a0 : Int32) : RO l D cI cZ yX7_isFact cX7_isFact 1 (some .boolean) (mR 0 0) [.int a0] [] (some (.int (f_X7_isFact a0))) := by
  refine RO.of (by decide +kernel) (Nat.le_of_ble_eq_true rfl) ?_
  intro p e s m args below meth c ls Q CF hr hlk hP hE hQ hl
  have hx := CF.1
  have hb := CF.2.1
  have hl : lv_has ls 1 [(0, .int a0)] := hl
  refine lv_iload_n hx hb dX7_isFact_0 rfl (lv_at hl 0 rfl) ?_
  refine lv_if_lt (tgt := 14) hx hb dX7_isFact_1 (by decide) (fun c_1 => ?_) (fun c_1 => ?_)
  · refine lv_iconst (v := 0) hx hb dX7_isFact_14 (by decide) ?_
    exact ro_ret CF hQ hr hlk rfl dX7_isFact_15 (by rw [f_X7_isFact, if_pos c_1])
  · refine lv_iload_n hx hb dX7_isFact_4 rfl (lv_at hl 0 rfl) ?_
    refine lv_bipush (v := 6) hx hb dX7_isFact_5 (by decide) ?_
    refine lv_icmp_ge (tgt := 14) hx hb dX7_isFact_7 (by decide) (fun c_2 => ?_) (fun c_2 => ?_)
    · refine lv_iconst (v := 0) hx hb dX7_isFact_14 (by decide) ?_
      exact ro_ret CF hQ hr hlk rfl dX7_isFact_15 (by rw [f_X7_isFact, if_neg c_1, if_pos c_2])
    · refine lv_iconst (v := 1) hx hb dX7_isFact_10 (by decide) ?_
      refine lv_goto (tgt := 15) hx hb dX7_isFact_11 (by decide) ?_
      exact ro_ret CF hQ hr hlk rfl dX7_isFact_15 (by rw [f_X7_isFact, if_neg c_1, if_neg c_2])
def f_X7_isVoice (a0 : Int32) : Int32 :=
  (if a0 < 1 then 0 else (if 2 < a0 then 0 else 1))
theorem z_f_X7_isVoice (a0 : Int32) : narrow .boolean (.int (f_X7_isVoice a0)) = .int (f_X7_isVoice a0) := by
  unfold f_X7_isVoice
  repeat' split
  all_goals first | rfl
set_option maxRecDepth 100000 in
set_option maxHeartbeats 4000000 in
theorem c_X7_isVoice (l : Launch) (D : va_G) (cI cZ : ClassId) (a0 : Int32) : RO l D cI cZ yX7_isVoice cX7_isVoice 1 (some .boolean) (mR 0 0) [.int a0] [] (some (.int (f_X7_isVoice a0))) := by
  refine RO.of (by decide +kernel) (Nat.le_of_ble_eq_true rfl) ?_
  intro p e s m args below meth c ls Q CF hr hlk hP hE hQ hl
  have hx := CF.1
  have hb := CF.2.1
  have hl : lv_has ls 1 [(0, .int a0)] := hl
  refine lv_iload_n hx hb dX7_isVoice_0 rfl (lv_at hl 0 rfl) ?_
  refine lv_iconst (v := 1) hx hb dX7_isVoice_1 (by decide) ?_
  refine lv_icmp_lt (tgt := 14) hx hb dX7_isVoice_2 (by decide) (fun c_1 => ?_) (fun c_1 => ?_)
  · refine lv_iconst (v := 0) hx hb dX7_isVoice_14 (by decide) ?_
    exact ro_ret CF hQ hr hlk rfl dX7_isVoice_15 (by rw [f_X7_isVoice, if_pos c_1])
  · refine lv_iload_n hx hb dX7_isVoice_5 rfl (lv_at hl 0 rfl) ?_
    refine lv_iconst (v := 2) hx hb dX7_isVoice_6 (by decide) ?_
    refine lv_icmp_gt (tgt := 14) hx hb dX7_isVoice_7 (by decide) (fun c_2 => ?_) (fun c_2 => ?_)
    · refine lv_iconst (v := 0) hx hb dX7_isVoice_14 (by decide) ?_
      exact ro_ret CF hQ hr hlk rfl dX7_isVoice_15 (by rw [f_X7_isVoice, if_neg c_1, if_pos c_2])
    · refine lv_iconst (v := 1) hx hb dX7_isVoice_10 (by decide) ?_
      refine lv_goto (tgt := 15) hx hb dX7_isVoice_11 (by decide) ?_
      exact ro_ret CF hQ hr hlk rfl dX7_isVoice_15 (by rw [f_X7_isVoice, if_neg c_1, if_neg c_2])
def f_X7_isSlot (a0 : Int32) : Int32 :=
  (if a0 < 0 then 0 else (if 2 ≤ a0 then 0 else 1))
theorem z_f_X7_isSlot (a0 : Int32) : narrow .boolean (.int (f_X7_isSlot a0)) = .int (f_X7_isSlot a0) := by
  unfold f_X7_isSlot
  repeat' split
  all_goals first | rfl
set_option maxRecDepth 100000 in
set_option maxHeartbeats 4000000 in
theorem c_X7_isSlot (l : Launch) (D : va_G) (cI cZ : ClassId) (a0 : Int32) : RO l D cI cZ yX7_isSlot cX7_isSlot 1 (some .boolean) (mR 0 0) [.int a0] [] (some (.int (f_X7_isSlot a0))) := by
  refine RO.of (by decide +kernel) (Nat.le_of_ble_eq_true rfl) ?_
  intro p e s m args below meth c ls Q CF hr hlk hP hE hQ hl
  have hx := CF.1
  have hb := CF.2.1
  have hl : lv_has ls 1 [(0, .int a0)] := hl
  refine lv_iload_n hx hb dX7_isSlot_0 rfl (lv_at hl 0 rfl) ?_
  refine lv_if_lt (tgt := 13) hx hb dX7_isSlot_1 (by decide) (fun c_1 => ?_) (fun c_1 => ?_)
  · refine lv_iconst (v := 0) hx hb dX7_isSlot_13 (by decide) ?_
    exact ro_ret CF hQ hr hlk rfl dX7_isSlot_14 (by rw [f_X7_isSlot, if_pos c_1])
  · refine lv_iload_n hx hb dX7_isSlot_4 rfl (lv_at hl 0 rfl) ?_
    refine lv_iconst (v := 2) hx hb dX7_isSlot_5 (by decide) ?_
    refine lv_icmp_ge (tgt := 13) hx hb dX7_isSlot_6 (by decide) (fun c_2 => ?_) (fun c_2 => ?_)
    · refine lv_iconst (v := 0) hx hb dX7_isSlot_13 (by decide) ?_
      exact ro_ret CF hQ hr hlk rfl dX7_isSlot_14 (by rw [f_X7_isSlot, if_neg c_1, if_pos c_2])
    · refine lv_iconst (v := 1) hx hb dX7_isSlot_9 (by decide) ?_
      refine lv_goto (tgt := 14) hx hb dX7_isSlot_10 (by decide) ?_
      exact ro_ret CF hQ hr hlk rfl dX7_isSlot_14 (by rw [f_X7_isSlot, if_neg c_1, if_neg c_2])
def S_X7_factorial_4 (k1 : Nat) (x1_0 : Int32) : (Int32) :=
  (x1_0 * (nI (2 + k1)))
def B_X7_factorial_4 (i0 : Int32) : Nat → (Int32)
  | 0 => i0
  | k + 1 => S_X7_factorial_4 k (B_X7_factorial_4 i0 k)
set_option maxRecDepth 100000 in
set_option maxHeartbeats 4000000 in
theorem c_X7_factorial (l : Launch) (D : va_G) (cI cZ : ClassId) (a0 : Int32) (n0 : Nat) (h_a0 : a0 = nI n0) (hn0 : n0 < 2 ^ 30) : RO l D cI cZ yX7_factorial cX7_factorial 3 (some .int) (mR 0 0) [.int a0] [] (some (.int ((B_X7_factorial_4 1 (n0 - 1))))) := by
  refine RO.of (by decide +kernel) (Nat.le_of_ble_eq_true rfl) ?_
  intro p e s m args below meth c ls Q CF hr hlk hP hE hQ hl
  have hx := CF.1
  have hb := CF.2.1
  have hl : lv_has ls 3 [(0, .int a0)] := hl
  refine lv_iconst (v := 1) hx hb dX7_factorial_0 (by decide) ?_
  refine lv_istore_n (lv' := [(1, .int 1), (0, .int a0)]) hx hb dX7_factorial_1 rfl hl (by decide) rfl (fun ls hl => ?_)
  refine lv_iconst (v := 2) hx hb dX7_factorial_2 (by decide) ?_
  refine lv_istore_n (lv' := [(2, .int 2), (1, .int 1), (0, .int a0)]) hx hb dX7_factorial_3 rfl hl (by decide) rfl (fun ls hl => ?_)
  have LOOP_4 : ∀ (n_1 k1 : Nat) (x1_0 : Int32) (ls : Array Slot), k1 ≤ n0 - 1 → n0 - 1 - k1 < n_1 → (B_X7_factorial_4 1 k1) = x1_0 → lv_has ls 3 [(2, .int (nI (2 + k1))), (1, .int x1_0), (0, .int a0)] → W p l e (mR 0 0) s m args below meth c s.heap [] 0 0 Q (F0 m 4 ls []) := by
    intro n_1
    induction n_1 with
    | zero => intro k1 x1_0 ls hk_1 hn_1 hB_1 hl; exact absurd hn_1 (Nat.not_lt_zero _)
    | succ n_1 ih_1 =>
      intro k1 x1_0 ls hk_1 hn_1 hB_1 hl
      refine lv_iload_n hx hb dX7_factorial_4 rfl (lv_at hl 0 rfl) ?_
      refine lv_iload_n hx hb dX7_factorial_5 rfl (lv_at hl 2 rfl) ?_
      refine lv_icmp_gt (tgt := 19) hx hb dX7_factorial_6 (by decide) (fun c_2 => ?_) (fun c_2 => ?_)
      · have o_2 : n0 < (2 + k1) := (clt h_a0 (rfl : nI (2 + k1) = nI (2 + k1)) (by omega) (by omega)).mp c_2
        have hkN : (n0 - 1) = k1 := by omega
        subst hkN
        subst hB_1
        refine lv_iload_n hx hb dX7_factorial_19 rfl (lv_at hl 1 rfl) ?_
        exact ro_ret CF hQ hr hlk rfl dX7_factorial_20 rfl
      · have o_2 : ¬ n0 < (2 + k1) := fun h => c_2 ((clt h_a0 (rfl : nI (2 + k1) = nI (2 + k1)) (by omega) (by omega)).mpr h)
        refine lv_iload_n hx hb dX7_factorial_9 rfl (lv_at hl 1 rfl) ?_
        refine lv_iload_n hx hb dX7_factorial_10 rfl (lv_at hl 0 rfl) ?_
        refine lv_imul hx hb dX7_factorial_11 ?_
        refine lv_istore_n (lv' := [(1, .int (x1_0 * (nI (2 + k1)))), (2, .int (nI (2 + k1))), (0, .int a0)]) hx hb dX7_factorial_12 rfl hl (by decide) rfl (fun ls hl => ?_)
        refine lv_iinc (v := (nI ((2 + k1) + 1))) (lv' := [(2, .int (nI ((2 + k1) + 1))), (1, .int (x1_0 * (nI (2 + k1)))), (0, .int a0)]) hx hb dX7_factorial_13 hl (k := 1) rfl (nf_inc 1 (rfl : nI (2 + k1) = nI (2 + k1))) (by decide) rfl (fun ls hl => ?_)
        refine lv_goto (tgt := 4) hx hb dX7_factorial_16 (by decide) ?_
        have hB2 : B_X7_factorial_4 1 (k1 + 1) = (x1_0 * (nI (2 + k1))) := by
          rw [B_X7_factorial_4, hB_1]
          rw [S_X7_factorial_4]
        have e_k : (nI ((2 + k1) + 1)) = nI (2 + (k1 + 1)) := (rfl : nI ((2 + k1) + 1) = nI ((2 + k1) + 1)).trans (congrArg nI (by omega))
        rw [e_k] at hl
        exact ih_1 (k1 + 1) (x1_0 * (nI (2 + k1))) _ (by omega) (by omega) hB2 (lv_sub hl [0, 1, 2] rfl)
  have e_k : 2 = nI (2 + 0) := (nf_c 2).trans (congrArg nI (by omega))
  rw [e_k] at hl
  exact LOOP_4 ((n0 - 1) - 0 + 1) 0 1 _ (Nat.zero_le _) (by omega) rfl (lv_sub hl [0, 1, 2] rfl)
def S_X7_power_4 (a0 : Int32) (k1 : Nat) (x1_0 : Int32) : (Int32) :=
  (x1_0 * a0)
def B_X7_power_4 (a0 : Int32) (i0 : Int32) : Nat → (Int32)
  | 0 => i0
  | k + 1 => S_X7_power_4 a0 k (B_X7_power_4 a0 i0 k)
set_option maxRecDepth 100000 in
set_option maxHeartbeats 4000000 in
theorem c_X7_power (l : Launch) (D : va_G) (cI cZ : ClassId) (a0 : Int32) (a1 : Int32) (n1 : Nat) (h_a1 : a1 = nI n1) (hn1 : n1 < 2 ^ 30) : RO l D cI cZ yX7_power cX7_power 4 (some .int) (mR 0 0) [.int a0, .int a1] [] (some (.int ((B_X7_power_4 a0 1 n1)))) := by
  refine RO.of (by decide +kernel) (Nat.le_of_ble_eq_true rfl) ?_
  intro p e s m args below meth c ls Q CF hr hlk hP hE hQ hl
  have hx := CF.1
  have hb := CF.2.1
  have hl : lv_has ls 4 [(0, .int a0), (1, .int a1)] := hl
  refine lv_iconst (v := 1) hx hb dX7_power_0 (by decide) ?_
  refine lv_istore_n (lv' := [(2, .int 1), (0, .int a0), (1, .int a1)]) hx hb dX7_power_1 rfl hl (by decide) rfl (fun ls hl => ?_)
  refine lv_iconst (v := 0) hx hb dX7_power_2 (by decide) ?_
  refine lv_istore_n (lv' := [(3, .int 0), (2, .int 1), (0, .int a0), (1, .int a1)]) hx hb dX7_power_3 rfl hl (by decide) rfl (fun ls hl => ?_)
  have LOOP_4 : ∀ (n_1 k1 : Nat) (x1_0 : Int32) (ls : Array Slot), k1 ≤ n1 → n1 - k1 < n_1 → (B_X7_power_4 a0 1 k1) = x1_0 → lv_has ls 4 [(3, .int (nI k1)), (2, .int x1_0), (0, .int a0), (1, .int a1)] → W p l e (mR 0 0) s m args below meth c s.heap [] 0 0 Q (F0 m 4 ls []) := by
    intro n_1
    induction n_1 with
    | zero => intro k1 x1_0 ls hk_1 hn_1 hB_1 hl; exact absurd hn_1 (Nat.not_lt_zero _)
    | succ n_1 ih_1 =>
      intro k1 x1_0 ls hk_1 hn_1 hB_1 hl
      refine lv_iload_n hx hb dX7_power_4 rfl (lv_at hl 0 rfl) ?_
      refine lv_iload_n hx hb dX7_power_5 rfl (lv_at hl 3 rfl) ?_
      refine lv_icmp_ge (tgt := 19) hx hb dX7_power_6 (by decide) (fun c_2 => ?_) (fun c_2 => ?_)
      · have o_2 : n1 ≤ k1 := (cle h_a1 (rfl : nI k1 = nI k1) (by omega) (by omega)).mp c_2
        have hkN : n1 = k1 := by omega
        subst hkN
        subst hB_1
        refine lv_iload_n hx hb dX7_power_19 rfl (lv_at hl 1 rfl) ?_
        exact ro_ret CF hQ hr hlk rfl dX7_power_20 rfl
      · have o_2 : ¬ n1 ≤ k1 := fun h => c_2 ((cle h_a1 (rfl : nI k1 = nI k1) (by omega) (by omega)).mpr h)
        refine lv_iload_n hx hb dX7_power_9 rfl (lv_at hl 1 rfl) ?_
        refine lv_iload_n hx hb dX7_power_10 rfl (lv_at hl 2 rfl) ?_
        refine lv_imul hx hb dX7_power_11 ?_
        refine lv_istore_n (lv' := [(2, .int (x1_0 * a0)), (3, .int (nI k1)), (0, .int a0), (1, .int a1)]) hx hb dX7_power_12 rfl hl (by decide) rfl (fun ls hl => ?_)
        refine lv_iinc (v := (nI (k1 + 1))) (lv' := [(3, .int (nI (k1 + 1))), (2, .int (x1_0 * a0)), (0, .int a0), (1, .int a1)]) hx hb dX7_power_13 hl (k := 1) rfl (nf_inc 1 (rfl : nI k1 = nI k1)) (by decide) rfl (fun ls hl => ?_)
        refine lv_goto (tgt := 4) hx hb dX7_power_16 (by decide) ?_
        have hB2 : B_X7_power_4 a0 1 (k1 + 1) = (x1_0 * a0) := by
          rw [B_X7_power_4, hB_1]
          rw [S_X7_power_4]
        exact ih_1 (k1 + 1) (x1_0 * a0) _ (by omega) (by omega) hB2 (lv_sub hl [0, 1, 2, 3] rfl)
  have e_k : 0 = nI (0) := (nf_c 0).trans (congrArg nI (by omega))
  rw [e_k] at hl
  exact LOOP_4 (n1 - 0 + 1) 0 1 _ (Nat.zero_le _) (by omega) rfl (lv_sub hl [0, 1, 2, 3] rfl)
theorem lk_X7_220 : mLkS RX7 220 yX7_power cX7_power 4 (some .int) 2 := ⟨⟨tw_3_25, tw_1_1, tw_3_27, ⟨by decide +kernel, by decide +kernel, by decide +kernel⟩⟩, tw_3_26⟩
set_option maxRecDepth 100000 in
set_option maxHeartbeats 4000000 in
theorem c_X7_thousands (l : Launch) (D : va_G) (cI cZ : ClassId) (a0 : Int32) (n0 : Nat) (h_a0 : a0 = nI n0) (hn0 : n0 < 2 ^ 30) : RO l D cI cZ yX7_thousands cX7_thousands 1 (some .int) (mR 1 23) [.int a0] [] (some (.int ((B_X7_power_4 1000 1 n0)))) := by
  refine RO.of (by decide +kernel) (Nat.le_of_ble_eq_true rfl) ?_
  intro p e s m args below meth c ls Q CF hr hlk hP hE hQ hl
  have hx := CF.1
  have hb := CF.2.1
  have hl : lv_has ls 1 [(0, .int a0)] := hl
  refine lv_sipush (v := 1000) hx hb dX7_thousands_0 (by decide) ?_
  refine lv_iload_n hx hb dX7_thousands_3 rfl (lv_at hl 0 rfl) ?_
  refine ro_S (y := yX7_power) (As := [.int 1000, .int a0]) (rest := []) CF (c_X7_power l D cI cZ 1000 a0 n0 h_a0 (by omega)) lk_X7_220 hE rfl hl.1 rfl (Nat.le_of_ble_eq_true rfl) ⟨Nat.le_of_ble_eq_true rfl, Nat.le_of_ble_eq_true rfl, rfl, rfl⟩ ⟨Nat.zero_le _, Nat.zero_le _⟩ dX7_thousands_4 ?_
  exact ro_ret CF hQ hr hlk rfl dX7_thousands_7 rfl
theorem lk_X7_176 : mLkS RX7 176 yJ6_bitCount_0f7a4 cJ6_bitCount_0f7a4 1 (some .int) 1 := ⟨⟨tw_3_1, tw_1_11, tw_2_170, ⟨by decide +kernel, by decide +kernel, by decide +kernel⟩⟩, tw_2_169⟩
def f_X7_isSmaller (a0 : Int32) (a1 : Int32) : Int32 :=
  (if a1 = (-9) then 1 else (if (f_J6_bitCount_0f7a4 a1) ≤ (f_J6_bitCount_0f7a4 a0) then 0 else 1))
theorem z_f_X7_isSmaller (a0 : Int32) (a1 : Int32) : narrow .boolean (.int (f_X7_isSmaller a0 a1)) = .int (f_X7_isSmaller a0 a1) := by
  unfold f_X7_isSmaller
  repeat' split
  all_goals first | rfl
set_option maxRecDepth 100000 in
set_option maxHeartbeats 4000000 in
theorem c_X7_isSmaller (l : Launch) (D : va_G) (cI cZ : ClassId) (a0 : Int32) (a1 : Int32) : RO l D cI cZ yX7_isSmaller cX7_isSmaller 2 (some .boolean) (mR 1 20) [.int a0, .int a1] [] (some (.int (f_X7_isSmaller a0 a1))) := by
  refine RO.of (by decide +kernel) (Nat.le_of_ble_eq_true rfl) ?_
  intro p e s m args below meth c ls Q CF hr hlk hP hE hQ hl
  have hx := CF.1
  have hb := CF.2.1
  have hl : lv_has ls 2 [(0, .int a0), (1, .int a1)] := hl
  refine lv_iload_n hx hb dX7_isSmaller_0 rfl (lv_at hl 1 rfl) ?_
  refine lv_bipush (v := (-9)) hx hb dX7_isSmaller_1 (by decide) ?_
  refine lv_icmp_eq (tgt := 17) hx hb dX7_isSmaller_3 (by decide) (fun c_1 => ?_) (fun c_1 => ?_)
  · refine lv_iconst (v := 1) hx hb dX7_isSmaller_17 (by decide) ?_
    refine lv_goto (tgt := 22) hx hb dX7_isSmaller_18 (by decide) ?_
    exact ro_ret CF hQ hr hlk rfl dX7_isSmaller_22 (by rw [f_X7_isSmaller, if_pos c_1])
  · refine lv_iload_n hx hb dX7_isSmaller_6 rfl (lv_at hl 0 rfl) ?_
    refine ro_S (y := yJ6_bitCount_0f7a4) (As := [.int a0]) (rest := []) CF (c_J6_bitCount_0f7a4 l D cI cZ a0) lk_X7_176 hE rfl hl.1 rfl (Nat.le_of_ble_eq_true rfl) ⟨Nat.le_of_ble_eq_true rfl, Nat.le_of_ble_eq_true rfl, rfl, rfl⟩ ⟨Nat.zero_le _, Nat.zero_le _⟩ dX7_isSmaller_7 ?_
    refine lv_iload_n hx hb dX7_isSmaller_10 rfl (lv_at hl 1 rfl) ?_
    refine ro_S (y := yJ6_bitCount_0f7a4) (As := [.int a1]) (rest := [.int (f_J6_bitCount_0f7a4 a0)]) CF (c_J6_bitCount_0f7a4 l D cI cZ a1) lk_X7_176 hE rfl hl.1 rfl (Nat.le_of_ble_eq_true rfl) ⟨Nat.le_of_ble_eq_true rfl, Nat.le_of_ble_eq_true rfl, rfl, rfl⟩ ⟨Nat.zero_le _, Nat.zero_le _⟩ dX7_isSmaller_11 ?_
    refine lv_icmp_ge (tgt := 21) hx hb dX7_isSmaller_14 (by decide) (fun c_2 => ?_) (fun c_2 => ?_)
    · refine lv_iconst (v := 0) hx hb dX7_isSmaller_21 (by decide) ?_
      exact ro_ret CF hQ hr hlk rfl dX7_isSmaller_22 (by rw [f_X7_isSmaller, if_neg c_1, if_pos c_2])
    · refine lv_iconst (v := 1) hx hb dX7_isSmaller_17 (by decide) ?_
      refine lv_goto (tgt := 22) hx hb dX7_isSmaller_18 (by decide) ?_
      exact ro_ret CF hQ hr hlk rfl dX7_isSmaller_22 (by rw [f_X7_isSmaller, if_neg c_1, if_neg c_2])
def f_X7_waitCost (a0 : Int32) (a1 : Int32) : Int32 :=
  (if a0 = 3 then (if a1 = 3 then 6 else (if a1 < a0 then ((if a1 < a0 then a1 else a0) + 1) else ((if a1 < a0 then a1 else a0) + 3))) else (if a1 < a0 then ((if a1 < a0 then a1 else a0) + 1) else ((if a1 < a0 then a1 else a0) + 3)))
set_option maxRecDepth 100000 in
set_option maxHeartbeats 4000000 in
theorem c_X7_waitCost (l : Launch) (D : va_G) (cI cZ : ClassId) (a0 : Int32) (a1 : Int32) : RO l D cI cZ yX7_waitCost cX7_waitCost 2 (some .int) (mR 1 21) [.int a0, .int a1] [] (some (.int (f_X7_waitCost a0 a1))) := by
  refine RO.of (by decide +kernel) (Nat.le_of_ble_eq_true rfl) ?_
  intro p e s m args below meth c ls Q CF hr hlk hP hE hQ hl
  have hx := CF.1
  have hb := CF.2.1
  have hl : lv_has ls 2 [(0, .int a0), (1, .int a1)] := hl
  refine lv_iload_n hx hb dX7_waitCost_0 rfl (lv_at hl 0 rfl) ?_
  refine lv_iconst (v := 3) hx hb dX7_waitCost_1 (by decide) ?_
  refine lv_icmp_ne (tgt := 13) hx hb dX7_waitCost_2 (by decide) (fun c_1 => ?_) (fun c_1 => ?_)
  · refine lv_iload_n hx hb dX7_waitCost_13 rfl (lv_at hl 0 rfl) ?_
    refine lv_iload_n hx hb dX7_waitCost_14 rfl (lv_at hl 1 rfl) ?_
    refine r_mmin (rest := []) CF hl.1 tw_3_81 ⟨Nat.le_of_ble_eq_true rfl, Nat.le_of_ble_eq_true rfl, Nat.zero_le _, Nat.zero_le _⟩ dX7_waitCost_15 ⟨tw_2_108, tw_1_4, tw_2_109⟩ ?_
    refine lv_iload_n hx hb dX7_waitCost_18 rfl (lv_at hl 0 rfl) ?_
    refine lv_iload_n hx hb dX7_waitCost_19 rfl (lv_at hl 1 rfl) ?_
    refine lv_icmp_gt (tgt := 27) hx hb dX7_waitCost_20 (by decide) (fun c_2 => ?_) (fun c_2 => ?_)
    · refine lv_iconst (v := 1) hx hb dX7_waitCost_27 (by decide) ?_
      refine lv_iadd hx hb dX7_waitCost_28 ?_
      exact ro_ret CF hQ hr hlk rfl dX7_waitCost_29 (by rw [f_X7_waitCost, if_neg c_1, if_pos c_2])
    · refine lv_iconst (v := 3) hx hb dX7_waitCost_23 (by decide) ?_
      refine lv_goto (tgt := 28) hx hb dX7_waitCost_24 (by decide) ?_
      refine lv_iadd hx hb dX7_waitCost_28 ?_
      exact ro_ret CF hQ hr hlk rfl dX7_waitCost_29 (by rw [f_X7_waitCost, if_neg c_1, if_neg c_2])
  · refine lv_iload_n hx hb dX7_waitCost_5 rfl (lv_at hl 1 rfl) ?_
    refine lv_iconst (v := 3) hx hb dX7_waitCost_6 (by decide) ?_
    refine lv_icmp_ne (tgt := 13) hx hb dX7_waitCost_7 (by decide) (fun c_3 => ?_) (fun c_3 => ?_)
    · refine lv_iload_n hx hb dX7_waitCost_13 rfl (lv_at hl 0 rfl) ?_
      refine lv_iload_n hx hb dX7_waitCost_14 rfl (lv_at hl 1 rfl) ?_
      refine r_mmin (rest := []) CF hl.1 tw_3_81 ⟨Nat.le_of_ble_eq_true rfl, Nat.le_of_ble_eq_true rfl, Nat.zero_le _, Nat.zero_le _⟩ dX7_waitCost_15 ⟨tw_2_108, tw_1_4, tw_2_109⟩ ?_
      refine lv_iload_n hx hb dX7_waitCost_18 rfl (lv_at hl 0 rfl) ?_
      refine lv_iload_n hx hb dX7_waitCost_19 rfl (lv_at hl 1 rfl) ?_
      refine lv_icmp_gt (tgt := 27) hx hb dX7_waitCost_20 (by decide) (fun c_4 => ?_) (fun c_4 => ?_)
      · refine lv_iconst (v := 1) hx hb dX7_waitCost_27 (by decide) ?_
        refine lv_iadd hx hb dX7_waitCost_28 ?_
        exact ro_ret CF hQ hr hlk rfl dX7_waitCost_29 (by rw [f_X7_waitCost, if_pos c_1, if_neg c_3, if_pos c_4])
      · refine lv_iconst (v := 3) hx hb dX7_waitCost_23 (by decide) ?_
        refine lv_goto (tgt := 28) hx hb dX7_waitCost_24 (by decide) ?_
        refine lv_iadd hx hb dX7_waitCost_28 ?_
        exact ro_ret CF hQ hr hlk rfl dX7_waitCost_29 (by rw [f_X7_waitCost, if_pos c_1, if_neg c_3, if_neg c_4])
    · refine lv_bipush (v := 6) hx hb dX7_waitCost_10 (by decide) ?_
      exact ro_ret CF hQ hr hlk rfl dX7_waitCost_12 (by rw [f_X7_waitCost, if_pos c_1, if_pos c_3])
theorem lk_X7_250 : mLkS RX7 250 yX7_waitCost cX7_waitCost 2 (some .int) 2 := ⟨⟨tw_3_78, tw_1_1, tw_3_80, ⟨by decide +kernel, by decide +kernel, by decide +kernel⟩⟩, tw_3_79⟩
def S_X7_isBestWait_2 (a0 : Int32) (a1 : Int32) (rec : Nat → ((Int32))) (k1 : Nat) : (Int32) :=
  (if 3 < (nI k1) then 1 else (if (f_X7_waitCost a0 a1) ≤ (f_X7_waitCost (nI k1) a1) then (rec (k1 + 1) ) else 0))
def L_X7_isBestWait_2 (a0 : Int32) (a1 : Int32) : Nat → Nat → ((Int32))
  | 0, _ => 0
  | n + 1, k => S_X7_isBestWait_2 a0 a1 (L_X7_isBestWait_2 a0 a1 n) k
set_option maxRecDepth 100000 in
set_option maxHeartbeats 4000000 in
theorem c_X7_isBestWait (l : Launch) (D : va_G) (cI cZ : ClassId) (a0 : Int32) (a1 : Int32) : RO l D cI cZ yX7_isBestWait cX7_isBestWait 3 (some .boolean) (mR 2 42) [.int a0, .int a1] [] (some (.int ((L_X7_isBestWait_2 a0 a1 (4 + 1) 0)))) := by
  refine RO.of (by decide +kernel) (Nat.le_of_ble_eq_true rfl) ?_
  intro p e s m args below meth c ls Q CF hr hlk hP hE hQ hl
  have hx := CF.1
  have hb := CF.2.1
  have hl : lv_has ls 3 [(0, .int a0), (1, .int a1)] := hl
  refine lv_iconst (v := 0) hx hb dX7_isBestWait_0 (by decide) ?_
  refine lv_istore_n (lv' := [(2, .int 0), (0, .int a0), (1, .int a1)]) hx hb dX7_isBestWait_1 rfl hl (by decide) rfl (fun ls hl => ?_)
  have LOOP_2 : ∀ (n_1 k1 : Nat) (ls : Array Slot), k1 ≤ 4 → 4 - k1 < n_1 → L_X7_isBestWait_2 a0 a1 n_1 k1  = L_X7_isBestWait_2 a0 a1 (4 + 1) 0 → lv_has ls 3 [(2, .int (nI k1)), (0, .int a0), (1, .int a1)] → W p l e (mR 2 42) s m args below meth c s.heap [] 0 0 Q (F0 m 2 ls []) := by
    intro n_1
    induction n_1 with
    | zero => intro k1 ls hk_1 hn_1 hR_1 hl; exact absurd hn_1 (Nat.not_lt_zero _)
    | succ n_1 ih_1 =>
      intro k1 ls hk_1 hn_1 hR_1 hl
      refine lv_iload_n hx hb dX7_isBestWait_2 rfl (lv_at hl 0 rfl) ?_
      refine lv_iconst (v := 3) hx hb dX7_isBestWait_3 (by decide) ?_
      refine lv_icmp_gt (tgt := 28) hx hb dX7_isBestWait_4 (by decide) (fun c_3 => ?_) (fun c_3 => ?_)
      · have o_3 : 3 < k1 := (clt (nf_c 3) (rfl : nI k1 = nI k1) (by omega) (by omega)).mp c_3
        refine lv_iconst (v := 1) hx hb dX7_isBestWait_28 (by decide) ?_
        have hq_2 : L_X7_isBestWait_2 a0 a1 (4 + 1) 0 = 1 := by
          rw [← hR_1]
          show S_X7_isBestWait_2 a0 a1 (L_X7_isBestWait_2 a0 a1 n_1) k1  = _
          rw [S_X7_isBestWait_2, if_pos c_3]
        exact ro_ret CF hQ hr hlk rfl dX7_isBestWait_29 (by rw [hq_2])
      · have o_3 : ¬ 3 < k1 := fun h => c_3 ((clt (nf_c 3) (rfl : nI k1 = nI k1) (by omega) (by omega)).mpr h)
        refine lv_iload_n hx hb dX7_isBestWait_7 rfl (lv_at hl 0 rfl) ?_
        refine lv_iload_n hx hb dX7_isBestWait_8 rfl (lv_at hl 2 rfl) ?_
        refine ro_S (y := yX7_waitCost) (As := [.int (nI k1), .int a1]) (rest := []) CF (c_X7_waitCost l D cI cZ (nI k1) a1) lk_X7_250 hE rfl hl.1 rfl (Nat.le_of_ble_eq_true rfl) ⟨Nat.le_of_ble_eq_true rfl, Nat.le_of_ble_eq_true rfl, rfl, rfl⟩ ⟨Nat.zero_le _, Nat.zero_le _⟩ dX7_isBestWait_9 ?_
        refine lv_iload_n hx hb dX7_isBestWait_12 rfl (lv_at hl 1 rfl) ?_
        refine lv_iload_n hx hb dX7_isBestWait_13 rfl (lv_at hl 2 rfl) ?_
        refine ro_S (y := yX7_waitCost) (As := [.int a0, .int a1]) (rest := [.int (f_X7_waitCost (nI k1) a1)]) CF (c_X7_waitCost l D cI cZ a0 a1) lk_X7_250 hE rfl hl.1 rfl (Nat.le_of_ble_eq_true rfl) ⟨Nat.le_of_ble_eq_true rfl, Nat.le_of_ble_eq_true rfl, rfl, rfl⟩ ⟨Nat.zero_le _, Nat.zero_le _⟩ dX7_isBestWait_14 ?_
        refine lv_icmp_ge (tgt := 22) hx hb dX7_isBestWait_17 (by decide) (fun c_4 => ?_) (fun c_4 => ?_)
        · refine lv_iinc (v := (nI (k1 + 1))) (lv' := [(2, .int (nI (k1 + 1))), (0, .int a0), (1, .int a1)]) hx hb dX7_isBestWait_22 hl (k := 0) rfl (nf_inc 1 (rfl : nI k1 = nI k1)) (by decide) rfl (fun ls hl => ?_)
          refine lv_goto (tgt := 2) hx hb dX7_isBestWait_25 (by decide) ?_
          have hR2 : L_X7_isBestWait_2 a0 a1 n_1 (k1 + 1)  = L_X7_isBestWait_2 a0 a1 (4 + 1) 0 := by
            rw [← hR_1]
            show _ = S_X7_isBestWait_2 a0 a1 (L_X7_isBestWait_2 a0 a1 n_1) k1 
            rw [S_X7_isBestWait_2, if_neg c_3, if_pos c_4]
          exact ih_1 (k1 + 1) _ (by omega) (by omega) hR2 (lv_sub hl [0, 1, 2] rfl)
        · refine lv_iconst (v := 0) hx hb dX7_isBestWait_20 (by decide) ?_
          have hq_2 : L_X7_isBestWait_2 a0 a1 (4 + 1) 0 = 0 := by
            rw [← hR_1]
            show S_X7_isBestWait_2 a0 a1 (L_X7_isBestWait_2 a0 a1 n_1) k1  = _
            rw [S_X7_isBestWait_2, if_neg c_3, if_neg c_4]
          exact ro_ret CF hQ hr hlk rfl dX7_isBestWait_21 (by rw [hq_2])
  have e_k : 0 = nI (0) := (nf_c 0).trans (congrArg nI (by omega))
  rw [e_k] at hl
  exact LOOP_2 (4 + 1) 0 _ (Nat.zero_le _) (by omega) rfl (lv_sub hl [0, 1, 2] rfl)
def S_X7_commonDivisor_7 (rec : Nat → (Int32) → (Int32) → ((Int32))) (k1 : Nat) (x1_0 : Int32) (x1_1 : Int32) : (Int32) :=
  (if 64 ≤ (nI k1) then x1_0 else (if x1_1 = 0 then x1_0 else (rec (k1 + 1) x1_1 (x1_0 - x1_0 / x1_1 * x1_1))))
def L_X7_commonDivisor_7 : Nat → Nat → (Int32) → (Int32) → ((Int32))
  | 0, _, _, _ => 0
  | n + 1, k, y0, y1 => S_X7_commonDivisor_7 (L_X7_commonDivisor_7 n) k y0 y1
set_option maxRecDepth 100000 in
set_option maxHeartbeats 4000000 in
theorem c_X7_commonDivisor (l : Launch) (D : va_G) (cI cZ : ClassId) (a0 : Int32) (a1 : Int32) : RO l D cI cZ yX7_commonDivisor cX7_commonDivisor 6 (some .int) (mR 0 0) [.int a0, .int a1] [] (some (.int ((L_X7_commonDivisor_7 (64 + 1) 0 a0 a1)))) := by
  refine RO.of (by decide +kernel) (Nat.le_of_ble_eq_true rfl) ?_
  intro p e s m args below meth c ls Q CF hr hlk hP hE hQ hl
  have hx := CF.1
  have hb := CF.2.1
  have hl : lv_has ls 6 [(0, .int a0), (1, .int a1)] := hl
  refine lv_iload_n hx hb dX7_commonDivisor_0 rfl (lv_at hl 0 rfl) ?_
  refine lv_istore_n (lv' := [(2, .int a0), (0, .int a0), (1, .int a1)]) hx hb dX7_commonDivisor_1 rfl hl (by decide) rfl (fun ls hl => ?_)
  refine lv_iload_n hx hb dX7_commonDivisor_2 rfl (lv_at hl 2 rfl) ?_
  refine lv_istore_n (lv' := [(3, .int a1), (2, .int a0), (0, .int a0), (1, .int a1)]) hx hb dX7_commonDivisor_3 rfl hl (by decide) rfl (fun ls hl => ?_)
  refine lv_iconst (v := 0) hx hb dX7_commonDivisor_4 (by decide) ?_
  refine lv_istore (lv' := [(4, .int 0), (3, .int a1), (2, .int a0), (0, .int a0), (1, .int a1)]) hx hb dX7_commonDivisor_5 hl (by decide) rfl (fun ls hl => ?_)
  have LOOP_7 : ∀ (n_1 k1 : Nat) (x1_0 : Int32) (x1_1 : Int32) (ls : Array Slot), k1 ≤ 64 → 64 - k1 < n_1 → L_X7_commonDivisor_7 n_1 k1 x1_0 x1_1 = L_X7_commonDivisor_7 (64 + 1) 0 a0 a1 → lv_has ls 6 [(4, .int (nI k1)), (3, .int x1_1), (2, .int x1_0), (0, .int a0), (1, .int a1)] → W p l e (mR 0 0) s m args below meth c s.heap [] 0 0 Q (F0 m 7 ls []) := by
    intro n_1
    induction n_1 with
    | zero => intro k1 x1_0 x1_1 ls hk_1 hn_1 hR_1 hl; exact absurd hn_1 (Nat.not_lt_zero _)
    | succ n_1 ih_1 =>
      intro k1 x1_0 x1_1 ls hk_1 hn_1 hR_1 hl
      refine lv_iload hx hb dX7_commonDivisor_7 (lv_at hl 0 rfl) ?_
      refine lv_bipush (v := 64) hx hb dX7_commonDivisor_9 (by decide) ?_
      refine lv_icmp_ge (tgt := 34) hx hb dX7_commonDivisor_11 (by decide) (fun c_3 => ?_) (fun c_3 => ?_)
      · have o_3 : 64 ≤ k1 := (cle (nf_c 64) (rfl : nI k1 = nI k1) (by omega) (by omega)).mp c_3
        refine lv_iload_n hx hb dX7_commonDivisor_34 rfl (lv_at hl 2 rfl) ?_
        have hq_2 : L_X7_commonDivisor_7 (64 + 1) 0 a0 a1 = x1_0 := by
          rw [← hR_1]
          show S_X7_commonDivisor_7 (L_X7_commonDivisor_7 n_1) k1 x1_0 x1_1 = _
          rw [S_X7_commonDivisor_7, if_pos c_3]
        exact ro_ret CF hQ hr hlk rfl dX7_commonDivisor_35 (by rw [hq_2])
      · have o_3 : ¬ 64 ≤ k1 := fun h => c_3 ((cle (nf_c 64) (rfl : nI k1 = nI k1) (by omega) (by omega)).mpr h)
        refine lv_iload_n hx hb dX7_commonDivisor_14 rfl (lv_at hl 1 rfl) ?_
        refine lv_if_eq (tgt := 34) hx hb dX7_commonDivisor_15 (by decide) (fun c_4 => ?_) (fun c_4 => ?_)
        · refine lv_iload_n hx hb dX7_commonDivisor_34 rfl (lv_at hl 2 rfl) ?_
          have hq_2 : L_X7_commonDivisor_7 (64 + 1) 0 a0 a1 = x1_0 := by
            rw [← hR_1]
            show S_X7_commonDivisor_7 (L_X7_commonDivisor_7 n_1) k1 x1_0 x1_1 = _
            rw [S_X7_commonDivisor_7, if_neg c_3, if_pos c_4]
          exact ro_ret CF hQ hr hlk rfl dX7_commonDivisor_35 (by rw [hq_2])
        · refine lv_iload_n hx hb dX7_commonDivisor_18 rfl (lv_at hl 2 rfl) ?_
          refine lv_iload_n hx hb dX7_commonDivisor_19 rfl (lv_at hl 1 rfl) ?_
          refine lv_irem hx hb dX7_commonDivisor_20 (by assumption) ?_
          refine lv_istore (lv' := [(5, .int (x1_0 - x1_0 / x1_1 * x1_1)), (4, .int (nI k1)), (3, .int x1_1), (2, .int x1_0), (0, .int a0), (1, .int a1)]) hx hb dX7_commonDivisor_21 hl (by decide) rfl (fun ls hl => ?_)
          refine lv_iload_n hx hb dX7_commonDivisor_23 rfl (lv_at hl 2 rfl) ?_
          refine lv_istore_n (lv' := [(2, .int x1_1), (5, .int (x1_0 - x1_0 / x1_1 * x1_1)), (4, .int (nI k1)), (3, .int x1_1), (0, .int a0), (1, .int a1)]) hx hb dX7_commonDivisor_24 rfl hl (by decide) rfl (fun ls hl => ?_)
          refine lv_iload hx hb dX7_commonDivisor_25 (lv_at hl 1 rfl) ?_
          refine lv_istore_n (lv' := [(3, .int (x1_0 - x1_0 / x1_1 * x1_1)), (2, .int x1_1), (5, .int (x1_0 - x1_0 / x1_1 * x1_1)), (4, .int (nI k1)), (0, .int a0), (1, .int a1)]) hx hb dX7_commonDivisor_27 rfl hl (by decide) rfl (fun ls hl => ?_)
          refine lv_iinc (v := (nI (k1 + 1))) (lv' := [(4, .int (nI (k1 + 1))), (3, .int (x1_0 - x1_0 / x1_1 * x1_1)), (2, .int x1_1), (5, .int (x1_0 - x1_0 / x1_1 * x1_1)), (0, .int a0), (1, .int a1)]) hx hb dX7_commonDivisor_28 hl (k := 3) rfl (nf_inc 1 (rfl : nI k1 = nI k1)) (by decide) rfl (fun ls hl => ?_)
          refine lv_goto (tgt := 7) hx hb dX7_commonDivisor_31 (by decide) ?_
          have hR2 : L_X7_commonDivisor_7 n_1 (k1 + 1) x1_1 (x1_0 - x1_0 / x1_1 * x1_1) = L_X7_commonDivisor_7 (64 + 1) 0 a0 a1 := by
            rw [← hR_1]
            show _ = S_X7_commonDivisor_7 (L_X7_commonDivisor_7 n_1) k1 x1_0 x1_1
            rw [S_X7_commonDivisor_7, if_neg c_3, if_neg c_4]
          exact ih_1 (k1 + 1) x1_1 (x1_0 - x1_0 / x1_1 * x1_1) _ (by omega) (by omega) hR2 (lv_sub hl [0, 1, 2, 4, 5] rfl)
  have e_k : 0 = nI (0) := (nf_c 0).trans (congrArg nI (by omega))
  rw [e_k] at hl
  exact LOOP_7 (64 + 1) 0 a0 a1 _ (Nat.zero_le _) (by omega) rfl (lv_sub hl [0, 1, 2, 3, 4] rfl)
theorem lk_X7_256 : mLkS RX7 256 yX7_commonDivisor cX7_commonDivisor 6 (some .int) 2 := ⟨⟨tw_3_44, tw_1_1, tw_3_46, ⟨by decide +kernel, by decide +kernel, by decide +kernel⟩⟩, tw_3_45⟩
def f_X7_lowestTerm (a0 : Int32) (a1 : Int32) (a2 : Int32) : Int32 :=
  (if a2 = 0 then (a1 / (if ((L_X7_commonDivisor_7 (64 + 1) 0 a0 a1)) < 1 then 1 else ((L_X7_commonDivisor_7 (64 + 1) 0 a0 a1)))) else (a0 / (if ((L_X7_commonDivisor_7 (64 + 1) 0 a0 a1)) < 1 then 1 else ((L_X7_commonDivisor_7 (64 + 1) 0 a0 a1)))))
set_option maxRecDepth 100000 in
set_option maxHeartbeats 4000000 in
theorem c_X7_lowestTerm (l : Launch) (D : va_G) (cI cZ : ClassId) (a0 : Int32) (a1 : Int32) (a2 : Int32) : RO l D cI cZ yX7_lowestTerm cX7_lowestTerm 4 (some .int) (mR 1 25) [.int a0, .int a1, .int a2] [] (some (.int (f_X7_lowestTerm a0 a1 a2))) := by
  refine RO.of (by decide +kernel) (Nat.le_of_ble_eq_true rfl) ?_
  intro p e s m args below meth c ls Q CF hr hlk hP hE hQ hl
  have hx := CF.1
  have hb := CF.2.1
  have hl : lv_has ls 4 [(0, .int a0), (1, .int a1), (2, .int a2)] := hl
  refine lv_iload_n hx hb dX7_lowestTerm_0 rfl (lv_at hl 0 rfl) ?_
  refine lv_iload_n hx hb dX7_lowestTerm_1 rfl (lv_at hl 1 rfl) ?_
  refine ro_S (y := yX7_commonDivisor) (As := [.int a0, .int a1]) (rest := []) CF (c_X7_commonDivisor l D cI cZ a0 a1) lk_X7_256 hE rfl hl.1 rfl (Nat.le_of_ble_eq_true rfl) ⟨Nat.le_of_ble_eq_true rfl, Nat.le_of_ble_eq_true rfl, rfl, rfl⟩ ⟨Nat.zero_le _, Nat.zero_le _⟩ dX7_lowestTerm_2 ?_
  refine lv_iconst (v := 1) hx hb dX7_lowestTerm_5 (by decide) ?_
  refine r_mmax (rest := []) CF hl.1 tw_3_28 ⟨Nat.le_of_ble_eq_true rfl, Nat.le_of_ble_eq_true rfl, Nat.zero_le _, Nat.zero_le _⟩ dX7_lowestTerm_6 ⟨tw_1_33, tw_1_4, tw_1_34⟩ ?_
  refine lv_istore_n (lv' := [(3, .int (if ((L_X7_commonDivisor_7 (64 + 1) 0 a0 a1)) < 1 then 1 else ((L_X7_commonDivisor_7 (64 + 1) 0 a0 a1)))), (0, .int a0), (1, .int a1), (2, .int a2)]) hx hb dX7_lowestTerm_9 rfl hl (by decide) rfl (fun ls hl => ?_)
  refine lv_iload_n hx hb dX7_lowestTerm_10 rfl (lv_at hl 3 rfl) ?_
  refine lv_if_eq (tgt := 18) hx hb dX7_lowestTerm_11 (by decide) (fun c_1 => ?_) (fun c_1 => ?_)
  · refine lv_iload_n hx hb dX7_lowestTerm_18 rfl (lv_at hl 2 rfl) ?_
    refine lv_iload_n hx hb dX7_lowestTerm_19 rfl (lv_at hl 0 rfl) ?_
    refine lv_idiv hx hb dX7_lowestTerm_20 (ne_max _) ?_
    exact ro_ret CF hQ hr hlk rfl dX7_lowestTerm_21 (by rw [f_X7_lowestTerm, if_pos c_1])
  · refine lv_iload_n hx hb dX7_lowestTerm_14 rfl (lv_at hl 1 rfl) ?_
    refine lv_goto (tgt := 19) hx hb dX7_lowestTerm_15 (by decide) ?_
    refine lv_iload_n hx hb dX7_lowestTerm_19 rfl (lv_at hl 0 rfl) ?_
    refine lv_idiv hx hb dX7_lowestTerm_20 (ne_max _) ?_
    exact ro_ret CF hQ hr hlk rfl dX7_lowestTerm_21 (by rw [f_X7_lowestTerm, if_neg c_1])
end
