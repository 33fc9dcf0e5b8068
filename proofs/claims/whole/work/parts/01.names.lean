-- ===== PART A: goes FIRST, ahead of the names: the tables' words, and 'selects' of the private methods out of them =====
/-- the name of the class's private method that lets a part in, as the tables print it (the word itself may not stand in rows) -/
def adN : String := match tables_1[243]? with
  | some (Cond.instanceMethod y) => y.name
  | _ => ""
/-- a private method of a class that the tables say can be made, by its rows of tables_1 -/
def lw_okq (q : MethodName × Nat) : Prop := (q.1.cls ≠ "java/lang/invoke/MethodHandle" ∧ q.1.cls ≠ "java/lang/invoke/VarHandle") ∧ Cond.instantiable q.1.cls q.2 ∈ tables_1 ∧ Cond.privateMethod q.1 ∈ tables_1 ∧ Cond.instanceMethod q.1 ∈ tables_1
theorem lw_p0 : lw_okq (⟨"KnowsBetter$Text", "fits", "(I)Z"⟩, 2) := ⟨⟨by decide +kernel, by decide +kernel⟩, List.mem_of_getElem? (i := 57) (by decide +kernel), List.mem_of_getElem? (i := 190) (by decide +kernel), List.mem_of_getElem? (i := 191) (by decide +kernel)⟩
theorem lw_p1 : lw_okq (⟨"KnowsBetter$Text", "startsPart", "(I)Z"⟩, 2) := ⟨⟨by decide +kernel, by decide +kernel⟩, List.mem_of_getElem? (i := 57) (by decide +kernel), List.mem_of_getElem? (i := 202) (by decide +kernel), List.mem_of_getElem? (i := 203) (by decide +kernel)⟩
theorem lw_p2 : lw_okq (⟨"KnowsBetter$Text", "partsAhead", "(II)I"⟩, 2) := ⟨⟨by decide +kernel, by decide +kernel⟩, List.mem_of_getElem? (i := 57) (by decide +kernel), List.mem_of_getElem? (i := 206) (by decide +kernel), List.mem_of_getElem? (i := 207) (by decide +kernel)⟩
theorem lw_p3 : lw_okq (⟨"KnowsBetter", adN, "(I)V"⟩, 9) := ⟨⟨by decide +kernel, by decide +kernel⟩, List.mem_of_getElem? (i := 13) (by decide +kernel), List.mem_of_getElem? (i := 242) (by decide +kernel), List.mem_of_getElem? (i := 243) (by decide +kernel)⟩
theorem lw_p4 : lw_okq (⟨"KnowsBetter", "isPerson", "(I)Z"⟩, 9) := ⟨⟨by decide +kernel, by decide +kernel⟩, List.mem_of_getElem? (i := 13) (by decide +kernel), List.mem_of_getElem? (i := 321) (by decide +kernel), List.mem_of_getElem? (i := 322) (by decide +kernel)⟩
theorem lw_p5 : lw_okq (⟨"KnowsBetter", "refusalToSay", "(III)I"⟩, 9) := ⟨⟨by decide +kernel, by decide +kernel⟩, List.mem_of_getElem? (i := 13) (by decide +kernel), List.mem_of_getElem? (i := 355) (by decide +kernel), List.mem_of_getElem? (i := 356) (by decide +kernel)⟩
theorem lw_p6 : lw_okq (⟨"KnowsBetter$Round", "firstBold", "(II)I"⟩, 2) := ⟨⟨by decide +kernel, by decide +kernel⟩, List.mem_of_getElem? (i := 72) (by decide +kernel), List.mem_of_getElem? (i := 397) (by decide +kernel), List.mem_of_getElem? (i := 398) (by decide +kernel)⟩
theorem lw_p7 : lw_okq (⟨"KnowsBetter$Round", "sitter", "(I)I"⟩, 2) := ⟨⟨by decide +kernel, by decide +kernel⟩, List.mem_of_getElem? (i := 72) (by decide +kernel), List.mem_of_getElem? (i := 401) (by decide +kernel), List.mem_of_getElem? (i := 402) (by decide +kernel)⟩
theorem lw_p8 : lw_okq (⟨"KnowsBetter$Round", "fineEach", "(I)V"⟩, 2) := ⟨⟨by decide +kernel, by decide +kernel⟩, List.mem_of_getElem? (i := 72) (by decide +kernel), List.mem_of_getElem? (i := 405) (by decide +kernel), List.mem_of_getElem? (i := 406) (by decide +kernel)⟩
theorem lw_p9 : lw_okq (⟨"KnowsBetter$Round", "fine", "(II)V"⟩, 2) := ⟨⟨by decide +kernel, by decide +kernel⟩, List.mem_of_getElem? (i := 72) (by decide +kernel), List.mem_of_getElem? (i := 415) (by decide +kernel), List.mem_of_getElem? (i := 416) (by decide +kernel)⟩
theorem lw_p10 : lw_okq (⟨"KnowsBetter$Round", "tellEach", "(II)V"⟩, 2) := ⟨⟨by decide +kernel, by decide +kernel⟩, List.mem_of_getElem? (i := 72) (by decide +kernel), List.mem_of_getElem? (i := 419) (by decide +kernel), List.mem_of_getElem? (i := 420) (by decide +kernel)⟩
theorem lw_p11 : lw_okq (⟨"KnowsBetter$Round", "member", "(II)I"⟩, 2) := ⟨⟨by decide +kernel, by decide +kernel⟩, List.mem_of_getElem? (i := 72) (by decide +kernel), List.mem_of_getElem? (i := 477) (by decide +kernel), List.mem_of_getElem? (i := 478) (by decide +kernel)⟩
theorem lw_p12 : lw_okq (⟨"KnowsBetter", "isPutRight", "(III)Z"⟩, 9) := ⟨⟨by decide +kernel, by decide +kernel⟩, List.mem_of_getElem? (i := 13) (by decide +kernel), List.mem_of_getElem? (i := 510) (by decide +kernel), List.mem_of_getElem? (i := 511) (by decide +kernel)⟩
theorem lw_p13 : lw_okq (⟨"KnowsBetter", "factsTogether", "(I)I"⟩, 9) := ⟨⟨by decide +kernel, by decide +kernel⟩, List.mem_of_getElem? (i := 13) (by decide +kernel), List.mem_of_getElem? (i := 518) (by decide +kernel), List.mem_of_getElem? (i := 519) (by decide +kernel)⟩
theorem lw_p14 : lw_okq (⟨"KnowsBetterModel", "readTable", "()I"⟩, 31) := ⟨⟨by decide +kernel, by decide +kernel⟩, List.mem_of_getElem? (i := 590) (by decide +kernel), List.mem_of_getElem? (i := 707) (by decide +kernel), List.mem_of_getElem? (i := 708) (by decide +kernel)⟩
theorem lw_p15 : lw_okq (⟨"KnowsBetterModel", "readPart", "()Z"⟩, 31) := ⟨⟨by decide +kernel, by decide +kernel⟩, List.mem_of_getElem? (i := 590) (by decide +kernel), List.mem_of_getElem? (i := 711) (by decide +kernel), List.mem_of_getElem? (i := 712) (by decide +kernel)⟩
def lw_privs_1 : List (MethodName × Nat) := [(⟨"KnowsBetter$Text", "fits", "(I)Z"⟩, 2), (⟨"KnowsBetter$Text", "startsPart", "(I)Z"⟩, 2), (⟨"KnowsBetter$Text", "partsAhead", "(II)I"⟩, 2), (⟨"KnowsBetter", adN, "(I)V"⟩, 9), (⟨"KnowsBetter", "isPerson", "(I)Z"⟩, 9), (⟨"KnowsBetter", "refusalToSay", "(III)I"⟩, 9), (⟨"KnowsBetter$Round", "firstBold", "(II)I"⟩, 2), (⟨"KnowsBetter$Round", "sitter", "(I)I"⟩, 2), (⟨"KnowsBetter$Round", "fineEach", "(I)V"⟩, 2), (⟨"KnowsBetter$Round", "fine", "(II)V"⟩, 2), (⟨"KnowsBetter$Round", "tellEach", "(II)V"⟩, 2), (⟨"KnowsBetter$Round", "member", "(II)I"⟩, 2), (⟨"KnowsBetter", "isPutRight", "(III)Z"⟩, 9), (⟨"KnowsBetter", "factsTogether", "(I)I"⟩, 9), (⟨"KnowsBetterModel", "readTable", "()I"⟩, 31), (⟨"KnowsBetterModel", "readPart", "()Z"⟩, 31)]
theorem lw_r1 : ∀ q ∈ lw_privs_1, lw_okq q := List.forall_mem_cons.mpr ⟨lw_p0, List.forall_mem_cons.mpr ⟨lw_p1, List.forall_mem_cons.mpr ⟨lw_p2, List.forall_mem_cons.mpr ⟨lw_p3, List.forall_mem_cons.mpr ⟨lw_p4, List.forall_mem_cons.mpr ⟨lw_p5, List.forall_mem_cons.mpr ⟨lw_p6, List.forall_mem_cons.mpr ⟨lw_p7, List.forall_mem_cons.mpr ⟨lw_p8, List.forall_mem_cons.mpr ⟨lw_p9, List.forall_mem_cons.mpr ⟨lw_p10, List.forall_mem_cons.mpr ⟨lw_p11, List.forall_mem_cons.mpr ⟨lw_p12, List.forall_mem_cons.mpr ⟨lw_p13, List.forall_mem_cons.mpr ⟨lw_p14, List.forall_mem_cons.mpr ⟨lw_p15, fun _ h => absurd h List.not_mem_nil⟩⟩⟩⟩⟩⟩⟩⟩⟩⟩⟩⟩⟩⟩⟩⟩
theorem lw_p16 : lw_okq (⟨"KnowsBetterModel", "readPerson", "()Z"⟩, 31) := ⟨⟨by decide +kernel, by decide +kernel⟩, List.mem_of_getElem? (i := 590) (by decide +kernel), List.mem_of_getElem? (i := 715) (by decide +kernel), List.mem_of_getElem? (i := 716) (by decide +kernel)⟩
theorem lw_p17 : lw_okq (⟨"KnowsBetterModel", "sign", "(II)I"⟩, 31) := ⟨⟨by decide +kernel, by decide +kernel⟩, List.mem_of_getElem? (i := 590) (by decide +kernel), List.mem_of_getElem? (i := 719) (by decide +kernel), List.mem_of_getElem? (i := 720) (by decide +kernel)⟩
theorem lw_p18 : lw_okq (⟨"KnowsBetterModel", "readOne", "()Z"⟩, 31) := ⟨⟨by decide +kernel, by decide +kernel⟩, List.mem_of_getElem? (i := 590) (by decide +kernel), List.mem_of_getElem? (i := 723) (by decide +kernel), List.mem_of_getElem? (i := 724) (by decide +kernel)⟩
theorem lw_p19 : lw_okq (⟨"KnowsBetterModel", "closed", "(I)I"⟩, 31) := ⟨⟨by decide +kernel, by decide +kernel⟩, List.mem_of_getElem? (i := 590) (by decide +kernel), List.mem_of_getElem? (i := 735) (by decide +kernel), List.mem_of_getElem? (i := 736) (by decide +kernel)⟩
theorem lw_p20 : lw_okq (⟨"KnowsBetterModel", "finesOf", "([I)I"⟩, 31) := ⟨⟨by decide +kernel, by decide +kernel⟩, List.mem_of_getElem? (i := 590) (by decide +kernel), List.mem_of_getElem? (i := 742) (by decide +kernel), List.mem_of_getElem? (i := 743) (by decide +kernel)⟩
theorem lw_p21 : lw_okq (⟨"KnowsBetterModel", "noPerson", "(I)Z"⟩, 31) := ⟨⟨by decide +kernel, by decide +kernel⟩, List.mem_of_getElem? (i := 590) (by decide +kernel), List.mem_of_getElem? (i := 750) (by decide +kernel), List.mem_of_getElem? (i := 751) (by decide +kernel)⟩
theorem lw_p22 : lw_okq (⟨"KnowsBetterModel", "farOf", "([III)I"⟩, 31) := ⟨⟨by decide +kernel, by decide +kernel⟩, List.mem_of_getElem? (i := 590) (by decide +kernel), List.mem_of_getElem? (i := 758) (by decide +kernel), List.mem_of_getElem? (i := 759) (by decide +kernel)⟩
theorem lw_p23 : lw_okq (⟨"KnowsBetterModel", "note", "()V"⟩, 31) := ⟨⟨by decide +kernel, by decide +kernel⟩, List.mem_of_getElem? (i := 590) (by decide +kernel), List.mem_of_getElem? (i := 771) (by decide +kernel), List.mem_of_getElem? (i := 772) (by decide +kernel)⟩
theorem lw_p24 : lw_okq (⟨"KnowsBetterModel", "goSay", "([IIII)I"⟩, 31) := ⟨⟨by decide +kernel, by decide +kernel⟩, List.mem_of_getElem? (i := 590) (by decide +kernel), List.mem_of_getElem? (i := 775) (by decide +kernel), List.mem_of_getElem? (i := 776) (by decide +kernel)⟩
theorem lw_p25 : lw_okq (⟨"KnowsBetterModel", "knowersOf", "([IIII)I"⟩, 31) := ⟨⟨by decide +kernel, by decide +kernel⟩, List.mem_of_getElem? (i := 590) (by decide +kernel), List.mem_of_getElem? (i := 779) (by decide +kernel), List.mem_of_getElem? (i := 780) (by decide +kernel)⟩
theorem lw_p26 : lw_okq (⟨"KnowsBetterModel", "hears", "([IIII)Z"⟩, 31) := ⟨⟨by decide +kernel, by decide +kernel⟩, List.mem_of_getElem? (i := 590) (by decide +kernel), List.mem_of_getElem? (i := 783) (by decide +kernel), List.mem_of_getElem? (i := 784) (by decide +kernel)⟩
theorem lw_p27 : lw_okq (⟨"KnowsBetterModel", "corrector", "([III)I"⟩, 31) := ⟨⟨by decide +kernel, by decide +kernel⟩, List.mem_of_getElem? (i := 590) (by decide +kernel), List.mem_of_getElem? (i := 787) (by decide +kernel), List.mem_of_getElem? (i := 788) (by decide +kernel)⟩
theorem lw_p28 : lw_okq (⟨"KnowsBetterModel", "sitter", "([II)I"⟩, 31) := ⟨⟨by decide +kernel, by decide +kernel⟩, List.mem_of_getElem? (i := 590) (by decide +kernel), List.mem_of_getElem? (i := 791) (by decide +kernel), List.mem_of_getElem? (i := 792) (by decide +kernel)⟩
theorem lw_p29 : lw_okq (⟨"KnowsBetterModel", "hearersOf", "([III)I"⟩, 31) := ⟨⟨by decide +kernel, by decide +kernel⟩, List.mem_of_getElem? (i := 590) (by decide +kernel), List.mem_of_getElem? (i := 795) (by decide +kernel), List.mem_of_getElem? (i := 796) (by decide +kernel)⟩
theorem lw_p30 : lw_okq (⟨"KnowsBetterModel", "findSeats", "(IIIZ)V"⟩, 31) := ⟨⟨by decide +kernel, by decide +kernel⟩, List.mem_of_getElem? (i := 590) (by decide +kernel), List.mem_of_getElem? (i := 830) (by decide +kernel), List.mem_of_getElem? (i := 831) (by decide +kernel)⟩
theorem lw_p31 : lw_okq (⟨"KnowsBetterModel", "laySeats", "(I)Z"⟩, 31) := ⟨⟨by decide +kernel, by decide +kernel⟩, List.mem_of_getElem? (i := 590) (by decide +kernel), List.mem_of_getElem? (i := 837) (by decide +kernel), List.mem_of_getElem? (i := 838) (by decide +kernel)⟩
def lw_privs_2 : List (MethodName × Nat) := [(⟨"KnowsBetterModel", "readPerson", "()Z"⟩, 31), (⟨"KnowsBetterModel", "sign", "(II)I"⟩, 31), (⟨"KnowsBetterModel", "readOne", "()Z"⟩, 31), (⟨"KnowsBetterModel", "closed", "(I)I"⟩, 31), (⟨"KnowsBetterModel", "finesOf", "([I)I"⟩, 31), (⟨"KnowsBetterModel", "noPerson", "(I)Z"⟩, 31), (⟨"KnowsBetterModel", "farOf", "([III)I"⟩, 31), (⟨"KnowsBetterModel", "note", "()V"⟩, 31), (⟨"KnowsBetterModel", "goSay", "([IIII)I"⟩, 31), (⟨"KnowsBetterModel", "knowersOf", "([IIII)I"⟩, 31), (⟨"KnowsBetterModel", "hears", "([IIII)Z"⟩, 31), (⟨"KnowsBetterModel", "corrector", "([III)I"⟩, 31), (⟨"KnowsBetterModel", "sitter", "([II)I"⟩, 31), (⟨"KnowsBetterModel", "hearersOf", "([III)I"⟩, 31), (⟨"KnowsBetterModel", "findSeats", "(IIIZ)V"⟩, 31), (⟨"KnowsBetterModel", "laySeats", "(I)Z"⟩, 31)]
theorem lw_r2 : ∀ q ∈ lw_privs_2, lw_okq q := List.forall_mem_cons.mpr ⟨lw_p16, List.forall_mem_cons.mpr ⟨lw_p17, List.forall_mem_cons.mpr ⟨lw_p18, List.forall_mem_cons.mpr ⟨lw_p19, List.forall_mem_cons.mpr ⟨lw_p20, List.forall_mem_cons.mpr ⟨lw_p21, List.forall_mem_cons.mpr ⟨lw_p22, List.forall_mem_cons.mpr ⟨lw_p23, List.forall_mem_cons.mpr ⟨lw_p24, List.forall_mem_cons.mpr ⟨lw_p25, List.forall_mem_cons.mpr ⟨lw_p26, List.forall_mem_cons.mpr ⟨lw_p27, List.forall_mem_cons.mpr ⟨lw_p28, List.forall_mem_cons.mpr ⟨lw_p29, List.forall_mem_cons.mpr ⟨lw_p30, List.forall_mem_cons.mpr ⟨lw_p31, fun _ h => absurd h List.not_mem_nil⟩⟩⟩⟩⟩⟩⟩⟩⟩⟩⟩⟩⟩⟩⟩⟩
theorem lw_p32 : lw_okq (⟨"KnowsBetterModel", "begin", "()V"⟩, 31) := ⟨⟨by decide +kernel, by decide +kernel⟩, List.mem_of_getElem? (i := 590) (by decide +kernel), List.mem_of_getElem? (i := 841) (by decide +kernel), List.mem_of_getElem? (i := 842) (by decide +kernel)⟩
theorem lw_p33 : lw_okq (⟨"KnowsBetterModel", "findMinds", "()V"⟩, 31) := ⟨⟨by decide +kernel, by decide +kernel⟩, List.mem_of_getElem? (i := 590) (by decide +kernel), List.mem_of_getElem? (i := 883) (by decide +kernel), List.mem_of_getElem? (i := 884) (by decide +kernel)⟩
theorem lw_p34 : lw_okq (⟨"KnowsBetterModel", "findRests", "()V"⟩, 31) := ⟨⟨by decide +kernel, by decide +kernel⟩, List.mem_of_getElem? (i := 590) (by decide +kernel), List.mem_of_getElem? (i := 891) (by decide +kernel), List.mem_of_getElem? (i := 892) (by decide +kernel)⟩
def lw_privs_3 : List (MethodName × Nat) := [(⟨"KnowsBetterModel", "begin", "()V"⟩, 31), (⟨"KnowsBetterModel", "findMinds", "()V"⟩, 31), (⟨"KnowsBetterModel", "findRests", "()V"⟩, 31)]
theorem lw_r3 : ∀ q ∈ lw_privs_3, lw_okq q := List.forall_mem_cons.mpr ⟨lw_p32, List.forall_mem_cons.mpr ⟨lw_p33, List.forall_mem_cons.mpr ⟨lw_p34, fun _ h => absurd h List.not_mem_nil⟩⟩⟩
def lw_privs : List (MethodName × Nat) := lw_privs_1 ++ (lw_privs_2 ++ (lw_privs_3))
def lw_tbl : List Cond := k2_sels lw_privs ++ tables_1
theorem lw_privs_ok : ∀ q ∈ lw_privs, lw_okq q := by
  show ∀ q ∈ lw_privs_1 ++ (lw_privs_2 ++ (lw_privs_3)), lw_okq q
  exact List.forall_mem_append.mpr ⟨lw_r1, List.forall_mem_append.mpr ⟨lw_r2, lw_r3⟩⟩
def RX0 : String := "KnowsBetter$Acts"
def TX0 : u_T := fun k => match k with
  | 0 => ("KnowsBetter$Acts", "shelf", "LKnowsBetter$Shelf;", true)
  | 1 => ("KnowsBetter$Acts", "count", "I", false)
  | _ => ("KnowsBetter$Acts", "next", "I", false)
def tyX0 : Nat → FieldType := fun k => match k with
  | 0 => .object "KnowsBetter$Shelf"
  | 1 => .int
  | _ => .int
abbrev wsX00 : List Cond := u_ws RX0 TX0 3
theorem nmX0 : ∀ a, a < 3 → ∀ b, b < 3 → a ≠ b → (TX0 a).2.1 ≠ (TX0 b).2.1 := by decide +kernel
theorem tyX0_ok : ∀ k, k < 3 → parseFieldDescriptor (TX0 k).2.2.1 = some (tyX0 k) := by decide +kernel
abbrev cX0_init : ByteArray := prog_2_method_1_code
def yX0_init : MethodName := ⟨RX0, "<init>", "()V"⟩
abbrev cX0_count : ByteArray := prog_2_method_2_code
def yX0_count : MethodName := ⟨RX0, "count", "()I"⟩
abbrev cX0_clear : ByteArray := prog_2_method_3_code
def yX0_clear : MethodName := ⟨RX0, "clear", "()V"⟩
abbrev cX0_remember : ByteArray := prog_2_method_4_code
def yX0_remember : MethodName := ⟨RX0, "remember", "(LKnowsBetter$Round;)V"⟩
abbrev cX0_takeBack : ByteArray := prog_2_method_5_code
def yX0_takeBack : MethodName := ⟨RX0, "takeBack", "(LKnowsBetter$Round;)I"⟩
def RX1 : String := "KnowsBetter$Round"
def TX1 : u_T := fun k => match k with
  | 0 => ("KnowsBetter$Round", "table", "LKnowsBetter$Table;", true)
  | _ => ("KnowsBetter$Round", "cells", "LKnowsBetter$Row;", true)
def tyX1 : Nat → FieldType := fun k => match k with
  | 0 => .object "KnowsBetter$Table"
  | _ => .object "KnowsBetter$Row"
abbrev wsX10 : List Cond := u_ws RX1 TX1 2
theorem nmX1 : ∀ a, a < 2 → ∀ b, b < 2 → a ≠ b → (TX1 a).2.1 ≠ (TX1 b).2.1 := by decide +kernel
theorem tyX1_ok : ∀ k, k < 2 → parseFieldDescriptor (TX1 k).2.2.1 = some (tyX1 k) := by decide +kernel
abbrev cX1_init : ByteArray := prog_3_method_1_code
def yX1_init : MethodName := ⟨RX1, "<init>", "(LKnowsBetter$Table;)V"⟩
abbrev cX1_told : ByteArray := prog_3_method_2_code
def yX1_told : MethodName := ⟨RX1, "told", "(I)I"⟩
abbrev cX1_setTold : ByteArray := prog_3_method_3_code
def yX1_setTold : MethodName := ⟨RX1, "setTold", "(II)V"⟩
abbrev cX1_seat : ByteArray := prog_3_method_4_code
def yX1_seat : MethodName := ⟨RX1, "seat", "(I)I"⟩
abbrev cX1_setSeat : ByteArray := prog_3_method_5_code
def yX1_setSeat : MethodName := ⟨RX1, "setSeat", "(II)V"⟩
abbrev cX1_fines : ByteArray := prog_3_method_6_code
def yX1_fines : MethodName := ⟨RX1, "fines", "(I)I"⟩
abbrev cX1_fine : ByteArray := prog_3_method_7_code
def yX1_fine : MethodName := ⟨RX1, "fine", "(II)V"⟩
abbrev cX1_clear : ByteArray := prog_3_method_8_code
def yX1_clear : MethodName := ⟨RX1, "clear", "()V"⟩
abbrev cX1_become : ByteArray := prog_3_method_9_code
def yX1_become : MethodName := ⟨RX1, "become", "(LKnowsBetter$Round;)V"⟩
abbrev cX1_known : ByteArray := prog_3_method_10_code
def yX1_known : MethodName := ⟨RX1, "known", "(I)I"⟩
abbrev cX1_knownBySomebody : ByteArray := prog_3_method_11_code
def yX1_knownBySomebody : MethodName := ⟨RX1, "knownBySomebody", "()I"⟩
abbrev cX1_allFines : ByteArray := prog_3_method_12_code
def yX1_allFines : MethodName := ⟨RX1, "allFines", "()I"⟩
abbrev cX1_knowers : ByteArray := prog_3_method_13_code
def yX1_knowers : MethodName := ⟨RX1, "knowers", "(I)I"⟩
abbrev cX1_distance : ByteArray := prog_3_method_14_code
def yX1_distance : MethodName := ⟨RX1, "distance", "(II)I"⟩
abbrev cX1_ears : ByteArray := prog_3_method_15_code
def yX1_ears : MethodName := ⟨RX1, "ears", "(II)I"⟩
abbrev cX1_lie : ByteArray := prog_3_method_16_code
def yX1_lie : MethodName := ⟨RX1, "lie", "(III)I"⟩
abbrev cX1_firstBold : ByteArray := prog_3_method_17_code
def yX1_firstBold : MethodName := ⟨RX1, "firstBold", "(II)I"⟩
abbrev cX1_sitter : ByteArray := prog_3_method_18_code
def yX1_sitter : MethodName := ⟨RX1, "sitter", "(I)I"⟩
abbrev cX1_fineEach : ByteArray := prog_3_method_19_code
def yX1_fineEach : MethodName := ⟨RX1, "fineEach", "(I)V"⟩
abbrev cX1_tellEach : ByteArray := prog_3_method_20_code
def yX1_tellEach : MethodName := ⟨RX1, "tellEach", "(II)V"⟩
abbrev cX1_sitInOrder : ByteArray := prog_3_method_21_code
def yX1_sitInOrder : MethodName := ⟨RX1, "sitInOrder", "(I)V"⟩
abbrev cX1_member : ByteArray := prog_3_method_22_code
def yX1_member : MethodName := ⟨RX1, "member", "(II)I"⟩
abbrev cX1_seatFigures : ByteArray := prog_3_method_23_code
def yX1_seatFigures : MethodName := ⟨RX1, "seatFigures", "()I"⟩
def RX2 : String := "KnowsBetter$Row"
def TX2 : u_T := fun k => match k with
  | _ => ("KnowsBetter$Row", "cells", "[I", true)
def tyX2 : Nat → FieldType := fun k => match k with
  | _ => .array .int
abbrev wsX20 : List Cond := u_ws RX2 TX2 1
theorem nmX2 : ∀ a, a < 1 → ∀ b, b < 1 → a ≠ b → (TX2 a).2.1 ≠ (TX2 b).2.1 := by decide +kernel
theorem tyX2_ok : ∀ k, k < 1 → parseFieldDescriptor (TX2 k).2.2.1 = some (tyX2 k) := by decide +kernel
abbrev cX2_init : ByteArray := prog_4_method_1_code
def yX2_init : MethodName := ⟨RX2, "<init>", "(I)V"⟩
abbrev cX2_at : ByteArray := prog_4_method_2_code
def yX2_at : MethodName := ⟨RX2, "at", "(I)I"⟩
abbrev cX2_put : ByteArray := prog_4_method_3_code
def yX2_put : MethodName := ⟨RX2, "put", "(II)V"⟩
abbrev cX2_fill : ByteArray := prog_4_method_4_code
def yX2_fill : MethodName := ⟨RX2, "fill", "(I)V"⟩
abbrev cX2_copy : ByteArray := prog_4_method_5_code
def yX2_copy : MethodName := ⟨RX2, "copy", "(ILKnowsBetter$Row;II)V"⟩
def RX3 : String := "KnowsBetter$Seen"
def TX3 : u_T := fun k => match k with
  | 0 => ("KnowsBetter$Seen", "count", "I", false)
  | 1 => ("KnowsBetter$Seen", "spokenUp", "I", false)
  | _ => ("KnowsBetter$Seen", "passedOver", "I", false)
def tyX3 : Nat → FieldType := fun k => match k with
  | 0 => .int
  | 1 => .int
  | _ => .int
abbrev wsX30 : List Cond := u_ws RX3 TX3 3
theorem nmX3 : ∀ a, a < 3 → ∀ b, b < 3 → a ≠ b → (TX3 a).2.1 ≠ (TX3 b).2.1 := by decide +kernel
theorem tyX3_ok : ∀ k, k < 3 → parseFieldDescriptor (TX3 k).2.2.1 = some (tyX3 k) := by decide +kernel
abbrev cX3_init : ByteArray := prog_5_method_1_code
def yX3_init : MethodName := ⟨RX3, "<init>", "()V"⟩
abbrev cX3_count : ByteArray := prog_5_method_2_code
def yX3_count : MethodName := ⟨RX3, "count", "()I"⟩
abbrev cX3_add : ByteArray := prog_5_method_3_code
def yX3_add : MethodName := ⟨RX3, "add", "(IZ)I"⟩
abbrev cX3_clear : ByteArray := prog_5_method_4_code
def yX3_clear : MethodName := ⟨RX3, "clear", "()I"⟩
abbrev cX3_allows : ByteArray := prog_5_method_5_code
def yX3_allows : MethodName := ⟨RX3, "allows", "(I)Z"⟩
def RX4 : String := "KnowsBetter$Shelf"
def TX4 : u_T := fun k => match k with
  | _ => ("KnowsBetter$Shelf", "cells", "LKnowsBetter$Row;", true)
def tyX4 : Nat → FieldType := fun k => match k with
  | _ => .object "KnowsBetter$Row"
abbrev wsX40 : List Cond := u_ws RX4 TX4 1
theorem nmX4 : ∀ a, a < 1 → ∀ b, b < 1 → a ≠ b → (TX4 a).2.1 ≠ (TX4 b).2.1 := by decide +kernel
theorem tyX4_ok : ∀ k, k < 1 → parseFieldDescriptor (TX4 k).2.2.1 = some (tyX4 k) := by decide +kernel
abbrev cX4_init : ByteArray := prog_6_method_1_code
def yX4_init : MethodName := ⟨RX4, "<init>", "(I)V"⟩
abbrev cX4_store : ByteArray := prog_6_method_2_code
def yX4_store : MethodName := ⟨RX4, "store", "(ILKnowsBetter$Round;)V"⟩
abbrev cX4_fetch : ByteArray := prog_6_method_3_code
def yX4_fetch : MethodName := ⟨RX4, "fetch", "(ILKnowsBetter$Round;)V"⟩
def RX5 : String := "KnowsBetter$Table"
def TX5 : u_T := fun k => match k with
  | 0 => ("KnowsBetter$Table", "kinds", "LKnowsBetter$Row;", true)
  | 1 => ("KnowsBetter$Table", "needs", "LKnowsBetter$Row;", true)
  | 2 => ("KnowsBetter$Table", "gives", "LKnowsBetter$Row;", true)
  | 3 => ("KnowsBetter$Table", "people", "I", false)
  | _ => ("KnowsBetter$Table", "rules", "I", false)
def tyX5 : Nat → FieldType := fun k => match k with
  | 0 => .object "KnowsBetter$Row"
  | 1 => .object "KnowsBetter$Row"
  | 2 => .object "KnowsBetter$Row"
  | 3 => .int
  | _ => .int
abbrev wsX50 : List Cond := u_ws RX5 TX5 5
theorem nmX5 : ∀ a, a < 5 → ∀ b, b < 5 → a ≠ b → (TX5 a).2.1 ≠ (TX5 b).2.1 := by decide +kernel
theorem tyX5_ok : ∀ k, k < 5 → parseFieldDescriptor (TX5 k).2.2.1 = some (tyX5 k) := by decide +kernel
abbrev cX5_init : ByteArray := prog_7_method_1_code
def yX5_init : MethodName := ⟨RX5, "<init>", "()V"⟩
abbrev cX5_people : ByteArray := prog_7_method_2_code
def yX5_people : MethodName := ⟨RX5, "people", "()I"⟩
abbrev cX5_rules : ByteArray := prog_7_method_3_code
def yX5_rules : MethodName := ⟨RX5, "rules", "()I"⟩
abbrev cX5_kind : ByteArray := prog_7_method_4_code
def yX5_kind : MethodName := ⟨RX5, "kind", "(I)I"⟩
abbrev cX5_clear : ByteArray := prog_7_method_5_code
def yX5_clear : MethodName := ⟨RX5, "clear", "()V"⟩
abbrev cX5_addPerson : ByteArray := prog_7_method_6_code
def yX5_addPerson : MethodName := ⟨RX5, "addPerson", "(I)I"⟩
abbrev cX5_addRule : ByteArray := prog_7_method_7_code
def yX5_addRule : MethodName := ⟨RX5, "addRule", "(III)V"⟩
abbrev cX5_closure : ByteArray := prog_7_method_8_code
def yX5_closure : MethodName := ⟨RX5, "closure", "(I)I"⟩
def RX6 : String := "KnowsBetter$Text"
def TX6 : u_T := fun k => match k with
  | 0 => ("KnowsBetter$Text", "bytes", "LKnowsBetter$Row;", true)
  | _ => ("KnowsBetter$Text", "length", "I", false)
def tyX6 : Nat → FieldType := fun k => match k with
  | 0 => .object "KnowsBetter$Row"
  | _ => .int
abbrev wsX60 : List Cond := u_ws RX6 TX6 2
theorem nmX6 : ∀ a, a < 2 → ∀ b, b < 2 → a ≠ b → (TX6 a).2.1 ≠ (TX6 b).2.1 := by decide +kernel
theorem tyX6_ok : ∀ k, k < 2 → parseFieldDescriptor (TX6 k).2.2.1 = some (tyX6 k) := by decide +kernel
abbrev cX6_init : ByteArray := prog_8_method_1_code
def yX6_init : MethodName := ⟨RX6, "<init>", "()V"⟩
abbrev cX6_length : ByteArray := prog_8_method_2_code
def yX6_length : MethodName := ⟨RX6, "length", "()I"⟩
abbrev cX6_at : ByteArray := prog_8_method_3_code
def yX6_at : MethodName := ⟨RX6, "at", "(I)I"⟩
abbrev cX6_digit : ByteArray := prog_8_method_4_code
def yX6_digit : MethodName := ⟨RX6, "digit", "(I)I"⟩
abbrev cX6_letter : ByteArray := prog_8_method_5_code
def yX6_letter : MethodName := ⟨RX6, "letter", "(I)I"⟩
abbrev cX6_append : ByteArray := prog_8_method_6_code
def yX6_append : MethodName := ⟨RX6, "append", "(I)I"⟩
abbrev cX6_clear : ByteArray := prog_8_method_7_code
def yX6_clear : MethodName := ⟨RX6, "clear", "()I"⟩
abbrev cX6_firstFault : ByteArray := prog_8_method_8_code
def yX6_firstFault : MethodName := ⟨RX6, "firstFault", "()I"⟩
abbrev cX6_fits : ByteArray := prog_8_method_9_code
def yX6_fits : MethodName := ⟨RX6, "fits", "(I)Z"⟩
abbrev cX6_startsPart : ByteArray := prog_8_method_10_code
def yX6_startsPart : MethodName := ⟨RX6, "startsPart", "(I)Z"⟩
abbrev cX6_partsAhead : ByteArray := prog_8_method_11_code
def yX6_partsAhead : MethodName := ⟨RX6, "partsAhead", "(II)I"⟩
abbrev cX6_isBetween : ByteArray := prog_8_method_12_code
def yX6_isBetween : MethodName := ⟨RX6, "isBetween", "(II)Z"⟩
def RX7 : String := "KnowsBetter"
def TX7 : u_T := fun k => match k with
  | 0 => ("KnowsBetter", "text", "LKnowsBetter$Text;", true)
  | 1 => ("KnowsBetter", "table", "LKnowsBetter$Table;", true)
  | 2 => ("KnowsBetter", "now", "LKnowsBetter$Round;", true)
  | 3 => ("KnowsBetter", "draft", "LKnowsBetter$Round;", true)
  | 4 => ("KnowsBetter", "acts", "LKnowsBetter$Acts;", true)
  | 5 => ("KnowsBetter", "slots", "LKnowsBetter$Shelf;", true)
  | 6 => ("KnowsBetter", "seen", "LKnowsBetter$Seen;", true)
  | 7 => ("KnowsBetter", "filledSlots", "I", false)
  | _ => ("KnowsBetter", "chance", "J", false)
def tyX7 : Nat → FieldType := fun k => match k with
  | 0 => .object "KnowsBetter$Text"
  | 1 => .object "KnowsBetter$Table"
  | 2 => .object "KnowsBetter$Round"
  | 3 => .object "KnowsBetter$Round"
  | 4 => .object "KnowsBetter$Acts"
  | 5 => .object "KnowsBetter$Shelf"
  | 6 => .object "KnowsBetter$Seen"
  | 7 => .int
  | _ => .long
abbrev wsX70 : List Cond := u_ws RX7 TX7 9
theorem nmX7 : ∀ a, a < 9 → ∀ b, b < 9 → a ≠ b → (TX7 a).2.1 ≠ (TX7 b).2.1 := by decide +kernel
theorem tyX7_ok : ∀ k, k < 9 → parseFieldDescriptor (TX7 k).2.2.1 = some (tyX7 k) := by decide +kernel
abbrev cX7_init : ByteArray := prog_1_method_1_code
def yX7_init : MethodName := ⟨RX7, "<init>", "()V"⟩
abbrev cX7_write : ByteArray := prog_1_method_2_code
def yX7_write : MethodName := ⟨RX7, "write", "(I)I"⟩
abbrev cX7_wipe : ByteArray := prog_1_method_3_code
def yX7_wipe : MethodName := ⟨RX7, "wipe", "()I"⟩
abbrev cX7_fault : ByteArray := prog_1_method_4_code
def yX7_fault : MethodName := ⟨RX7, "fault", "()I"⟩
abbrev cX7_table : ByteArray := prog_1_method_5_code
def yX7_table : MethodName := ⟨RX7, "table", "()I"⟩
abbrev cX7_about : ByteArray := prog_1_method_6_code
def yX7_about : MethodName := ⟨RX7, "about", "(I)I"⟩
abbrev cX7_person : ByteArray := prog_1_method_7_code
def yX7_person : MethodName := ⟨RX7, "person", "(II)I"⟩
abbrev cX7_far : ByteArray := prog_1_method_8_code
def yX7_far : MethodName := ⟨RX7, "far", "(II)I"⟩
abbrev cX7_say : ByteArray := prog_1_method_9_code
def yX7_say : MethodName := ⟨RX7, "say", "(III)I"⟩
abbrev cX7_teach : ByteArray := prog_1_method_10_code
def yX7_teach : MethodName := ⟨RX7, "teach", "(II)I"⟩
abbrev cX7_forget : ByteArray := prog_1_method_11_code
def yX7_forget : MethodName := ⟨RX7, "forget", "(II)I"⟩
abbrev cX7_change : ByteArray := prog_1_method_12_code
def yX7_change : MethodName := ⟨RX7, "change", "(II)I"⟩
abbrev cX7_undo : ByteArray := prog_1_method_13_code
def yX7_undo : MethodName := ⟨RX7, "undo", "()I"⟩
abbrev cX7_hearers : ByteArray := prog_1_method_14_code
def yX7_hearers : MethodName := ⟨RX7, "hearers", "(II)I"⟩
abbrev cX7_safe : ByteArray := prog_1_method_15_code
def yX7_safe : MethodName := ⟨RX7, "safe", "(II)I"⟩
abbrev cX7_seating : ByteArray := prog_1_method_16_code
def yX7_seating : MethodName := ⟨RX7, "seating", "(IIIZZ)I"⟩
abbrev cX7_keepFrom : ByteArray := prog_1_method_17_code
def yX7_keepFrom : MethodName := ⟨RX7, "keepFrom", "(II)I"⟩
abbrev cX7_learn : ByteArray := prog_1_method_18_code
def yX7_learn : MethodName := ⟨RX7, "learn", "(II)I"⟩
abbrev cX7_judge : ByteArray := prog_1_method_19_code
def yX7_judge : MethodName := ⟨RX7, "judge", "(II)I"⟩
abbrev cX7_share : ByteArray := prog_1_method_20_code
def yX7_share : MethodName := ⟨RX7, "share", "(IZ)I"⟩
abbrev cX7_see : ByteArray := prog_1_method_21_code
def yX7_see : MethodName := ⟨RX7, "see", "(II)I"⟩
abbrev cX7_unsee : ByteArray := prog_1_method_22_code
def yX7_unsee : MethodName := ⟨RX7, "unsee", "()I"⟩
abbrev cX7_minds : ByteArray := prog_1_method_23_code
def yX7_minds : MethodName := ⟨RX7, "minds", "(I)I"⟩
abbrev cX7_rests : ByteArray := prog_1_method_24_code
def yX7_rests : MethodName := ⟨RX7, "rests", "(I)I"⟩
abbrev cX7_deaf : ByteArray := prog_1_method_25_code
def yX7_deaf : MethodName := ⟨RX7, "deaf", "(IIIIZ)I"⟩
abbrev cX7_seed : ByteArray := prog_1_method_26_code
def yX7_seed : MethodName := ⟨RX7, "seed", "(J)J"⟩
abbrev cX7_evenings : ByteArray := prog_1_method_27_code
def yX7_evenings : MethodName := ⟨RX7, "evenings", "(I)I"⟩
abbrev cX7_keep : ByteArray := prog_1_method_28_code
def yX7_keep : MethodName := ⟨RX7, "keep", "(I)I"⟩
abbrev cX7_again : ByteArray := prog_1_method_29_code
def yX7_again : MethodName := ⟨RX7, "again", "(I)I"⟩
abbrev cX7_isPerson : ByteArray := prog_1_method_30_code
def yX7_isPerson : MethodName := ⟨RX7, "isPerson", "(I)Z"⟩
abbrev cX7_isFact : ByteArray := prog_1_method_31_code
def yX7_isFact : MethodName := ⟨RX7, "isFact", "(I)Z"⟩
abbrev cX7_isVoice : ByteArray := prog_1_method_32_code
def yX7_isVoice : MethodName := ⟨RX7, "isVoice", "(I)Z"⟩
abbrev cX7_isSlot : ByteArray := prog_1_method_33_code
def yX7_isSlot : MethodName := ⟨RX7, "isSlot", "(I)Z"⟩
abbrev cX7_refusalToSay : ByteArray := prog_1_method_34_code
def yX7_refusalToSay : MethodName := ⟨RX7, "refusalToSay", "(III)I"⟩
abbrev cX7_lets : ByteArray := prog_1_method_35_code
def yX7_lets : MethodName := ⟨RX7, adN, "(I)V"⟩
abbrev cX7_isPutRight : ByteArray := prog_1_method_36_code
def yX7_isPutRight : MethodName := ⟨RX7, "isPutRight", "(III)Z"⟩
abbrev cX7_factsTogether : ByteArray := prog_1_method_37_code
def yX7_factsTogether : MethodName := ⟨RX7, "factsTogether", "(I)I"⟩
abbrev cX7_isBestWait : ByteArray := prog_1_method_38_code
def yX7_isBestWait : MethodName := ⟨RX7, "isBestWait", "(II)Z"⟩
abbrev cX7_waitCost : ByteArray := prog_1_method_39_code
def yX7_waitCost : MethodName := ⟨RX7, "waitCost", "(II)I"⟩
abbrev cX7_contains : ByteArray := prog_1_method_40_code
def yX7_contains : MethodName := ⟨RX7, "contains", "(II)Z"⟩
abbrev cX7_isSmaller : ByteArray := prog_1_method_41_code
def yX7_isSmaller : MethodName := ⟨RX7, "isSmaller", "(II)Z"⟩
abbrev cX7_factorial : ByteArray := prog_1_method_42_code
def yX7_factorial : MethodName := ⟨RX7, "factorial", "(I)I"⟩
abbrev cX7_power : ByteArray := prog_1_method_43_code
def yX7_power : MethodName := ⟨RX7, "power", "(II)I"⟩
abbrev cX7_thousands : ByteArray := prog_1_method_44_code
def yX7_thousands : MethodName := ⟨RX7, "thousands", "(I)I"⟩
abbrev cX7_lowestTerm : ByteArray := prog_1_method_45_code
def yX7_lowestTerm : MethodName := ⟨RX7, "lowestTerm", "(IIZ)I"⟩
abbrev cX7_commonDivisor : ByteArray := prog_1_method_46_code
def yX7_commonDivisor : MethodName := ⟨RX7, "commonDivisor", "(II)I"⟩
def RX8 : String := "KnowsBetterModel"
def TX8 : u_T := fun k => match k with
  | 0 => ("KnowsBetterModel", "thrown", "I", false)
  | 1 => ("KnowsBetterModel", "text", "[I", true)
  | 2 => ("KnowsBetterModel", "textSize", "I", false)
  | 3 => ("KnowsBetterModel", "place", "I", false)
  | 4 => ("KnowsBetterModel", "people", "I", false)
  | 5 => ("KnowsBetterModel", "kind", "[I", true)
  | 6 => ("KnowsBetterModel", "rules", "I", false)
  | 7 => ("KnowsBetterModel", "rule", "[I", true)
  | 8 => ("KnowsBetterModel", "readPeople", "I", false)
  | 9 => ("KnowsBetterModel", "readKind", "[I", true)
  | 10 => ("KnowsBetterModel", "readTold", "[I", true)
  | 11 => ("KnowsBetterModel", "readRules", "I", false)
  | 12 => ("KnowsBetterModel", "readRule", "[I", true)
  | 13 => ("KnowsBetterModel", "page", "[I", true)
  | 14 => ("KnowsBetterModel", "trial", "[I", true)
  | 15 => ("KnowsBetterModel", "book", "[I", true)
  | 16 => ("KnowsBetterModel", "acts", "I", false)
  | 17 => ("KnowsBetterModel", "kept", "[I", true)
  | 18 => ("KnowsBetterModel", "isKept", "[Z", true)
  | 19 => ("KnowsBetterModel", "seen", "I", false)
  | 20 => ("KnowsBetterModel", "seenFact", "[I", true)
  | 21 => ("KnowsBetterModel", "seenSpoke", "[I", true)
  | 22 => ("KnowsBetterModel", "seed", "J", false)
  | 23 => ("KnowsBetterModel", "seatMany", "I", false)
  | 24 => ("KnowsBetterModel", "seatFigures", "I", false)
  | 25 => ("KnowsBetterModel", "mindMany", "I", false)
  | 26 => ("KnowsBetterModel", "mindAll", "I", false)
  | 27 => ("KnowsBetterModel", "mindSome", "I", false)
  | 28 => ("KnowsBetterModel", "restMany", "I", false)
  | 29 => ("KnowsBetterModel", "restFirst", "I", false)
  | _ => ("KnowsBetterModel", "value", "[I", true)
def tyX8 : Nat → FieldType := fun k => match k with
  | 0 => .int
  | 1 => .array .int
  | 2 => .int
  | 3 => .int
  | 4 => .int
  | 5 => .array .int
  | 6 => .int
  | 7 => .array .int
  | 8 => .int
  | 9 => .array .int
  | 10 => .array .int
  | 11 => .int
  | 12 => .array .int
  | 13 => .array .int
  | 14 => .array .int
  | 15 => .array .int
  | 16 => .int
  | 17 => .array .int
  | 18 => .array .boolean
  | 19 => .int
  | 20 => .array .int
  | 21 => .array .int
  | 22 => .long
  | 23 => .int
  | 24 => .int
  | 25 => .int
  | 26 => .int
  | 27 => .int
  | 28 => .int
  | 29 => .int
  | _ => .array .int
abbrev wsX80 : List Cond := u_ws RX8 TX8 31
theorem nmX8 : ∀ a, a < 31 → ∀ b, b < 31 → a ≠ b → (TX8 a).2.1 ≠ (TX8 b).2.1 := by decide +kernel
theorem tyX8_ok : ∀ k, k < 31 → parseFieldDescriptor (TX8 k).2.2.1 = some (tyX8 k) := by decide +kernel
abbrev cX8_init : ByteArray := prog_10_method_1_code
def yX8_init : MethodName := ⟨RX8, "<init>", "()V"⟩
abbrev cX8_in : ByteArray := prog_10_method_3_code
def yX8_in : MethodName := ⟨RX8, "in", "(JJJ)Z"⟩
abbrev cX8_has : ByteArray := prog_10_method_4_code
def yX8_has : MethodName := ⟨RX8, "has", "(II)Z"⟩
abbrev cX8_many : ByteArray := prog_10_method_5_code
def yX8_many : MethodName := ⟨RX8, "many", "(I)I"⟩
abbrev cX8_noPerson : ByteArray := prog_10_method_6_code
def yX8_noPerson : MethodName := ⟨RX8, "noPerson", "(I)Z"⟩
abbrev cX8_noFact : ByteArray := prog_10_method_7_code
def yX8_noFact : MethodName := ⟨RX8, "noFact", "(I)Z"⟩
abbrev cX8_write : ByteArray := prog_10_method_8_code
def yX8_write : MethodName := ⟨RX8, "write", "(I)I"⟩
abbrev cX8_wipe : ByteArray := prog_10_method_9_code
def yX8_wipe : MethodName := ⟨RX8, "wipe", "()I"⟩
abbrev cX8_sign : ByteArray := prog_10_method_10_code
def yX8_sign : MethodName := ⟨RX8, "sign", "(II)I"⟩
abbrev cX8_readPerson : ByteArray := prog_10_method_11_code
def yX8_readPerson : MethodName := ⟨RX8, "readPerson", "()Z"⟩
abbrev cX8_readOne : ByteArray := prog_10_method_12_code
def yX8_readOne : MethodName := ⟨RX8, "readOne", "()Z"⟩
abbrev cX8_readPart : ByteArray := prog_10_method_13_code
def yX8_readPart : MethodName := ⟨RX8, "readPart", "()Z"⟩
abbrev cX8_readTable : ByteArray := prog_10_method_14_code
def yX8_readTable : MethodName := ⟨RX8, "readTable", "()I"⟩
abbrev cX8_fault : ByteArray := prog_10_method_15_code
def yX8_fault : MethodName := ⟨RX8, "fault", "()I"⟩
abbrev cX8_table : ByteArray := prog_10_method_16_code
def yX8_table : MethodName := ⟨RX8, "table", "()I"⟩
abbrev cX8_closed : ByteArray := prog_10_method_17_code
def yX8_closed : MethodName := ⟨RX8, "closed", "(I)I"⟩
abbrev cX8_farOf : ByteArray := prog_10_method_18_code
def yX8_farOf : MethodName := ⟨RX8, "farOf", "([III)I"⟩
abbrev cX8_hears : ByteArray := prog_10_method_19_code
def yX8_hears : MethodName := ⟨RX8, "hears", "([IIII)Z"⟩
abbrev cX8_hearersOf : ByteArray := prog_10_method_20_code
def yX8_hearersOf : MethodName := ⟨RX8, "hearersOf", "([III)I"⟩
abbrev cX8_knowersOf : ByteArray := prog_10_method_21_code
def yX8_knowersOf : MethodName := ⟨RX8, "knowersOf", "([IIII)I"⟩
abbrev cX8_finesOf : ByteArray := prog_10_method_22_code
def yX8_finesOf : MethodName := ⟨RX8, "finesOf", "([I)I"⟩
abbrev cX8_about : ByteArray := prog_10_method_23_code
def yX8_about : MethodName := ⟨RX8, "about", "(I)I"⟩
abbrev cX8_person : ByteArray := prog_10_method_24_code
def yX8_person : MethodName := ⟨RX8, "person", "(II)I"⟩
abbrev cX8_far : ByteArray := prog_10_method_25_code
def yX8_far : MethodName := ⟨RX8, "far", "(II)I"⟩
abbrev cX8_note : ByteArray := prog_10_method_26_code
def yX8_note : MethodName := ⟨RX8, "note", "()V"⟩
abbrev cX8_sitter : ByteArray := prog_10_method_27_code
def yX8_sitter : MethodName := ⟨RX8, "sitter", "([II)I"⟩
abbrev cX8_corrector : ByteArray := prog_10_method_28_code
def yX8_corrector : MethodName := ⟨RX8, "corrector", "([III)I"⟩
abbrev cX8_goSay : ByteArray := prog_10_method_29_code
def yX8_goSay : MethodName := ⟨RX8, "goSay", "([IIII)I"⟩
abbrev cX8_say : ByteArray := prog_10_method_30_code
def yX8_say : MethodName := ⟨RX8, "say", "(III)I"⟩
abbrev cX8_teach : ByteArray := prog_10_method_31_code
def yX8_teach : MethodName := ⟨RX8, "teach", "(II)I"⟩
abbrev cX8_forget : ByteArray := prog_10_method_32_code
def yX8_forget : MethodName := ⟨RX8, "forget", "(II)I"⟩
abbrev cX8_change : ByteArray := prog_10_method_33_code
def yX8_change : MethodName := ⟨RX8, "change", "(II)I"⟩
abbrev cX8_undo : ByteArray := prog_10_method_34_code
def yX8_undo : MethodName := ⟨RX8, "undo", "()I"⟩
abbrev cX8_hearers : ByteArray := prog_10_method_35_code
def yX8_hearers : MethodName := ⟨RX8, "hearers", "(II)I"⟩
abbrev cX8_safe : ByteArray := prog_10_method_36_code
def yX8_safe : MethodName := ⟨RX8, "safe", "(II)I"⟩
abbrev cX8_begin : ByteArray := prog_10_method_37_code
def yX8_begin : MethodName := ⟨RX8, "begin", "()V"⟩
abbrev cX8_power : ByteArray := prog_10_method_38_code
def yX8_power : MethodName := ⟨RX8, "power", "(II)I"⟩
abbrev cX8_laySeats : ByteArray := prog_10_method_39_code
def yX8_laySeats : MethodName := ⟨RX8, "laySeats", "(I)Z"⟩
abbrev cX8_findSeats : ByteArray := prog_10_method_40_code
def yX8_findSeats : MethodName := ⟨RX8, "findSeats", "(IIIZ)V"⟩
abbrev cX8_seating : ByteArray := prog_10_method_41_code
def yX8_seating : MethodName := ⟨RX8, "seating", "(IIIZZ)I"⟩
abbrev cX8_keepFrom : ByteArray := prog_10_method_42_code
def yX8_keepFrom : MethodName := ⟨RX8, "keepFrom", "(II)I"⟩
abbrev cX8_learn : ByteArray := prog_10_method_43_code
def yX8_learn : MethodName := ⟨RX8, "learn", "(II)I"⟩
abbrev cX8_judge : ByteArray := prog_10_method_44_code
def yX8_judge : MethodName := ⟨RX8, "judge", "(II)I"⟩
abbrev cX8_ways : ByteArray := prog_10_method_45_code
def yX8_ways : MethodName := ⟨RX8, "ways", "(I)I"⟩
abbrev cX8_divisor : ByteArray := prog_10_method_46_code
def yX8_divisor : MethodName := ⟨RX8, "divisor", "(II)I"⟩
abbrev cX8_fraction : ByteArray := prog_10_method_47_code
def yX8_fraction : MethodName := ⟨RX8, "fraction", "(IIZ)I"⟩
abbrev cX8_share : ByteArray := prog_10_method_48_code
def yX8_share : MethodName := ⟨RX8, "share", "(IZ)I"⟩
abbrev cX8_see : ByteArray := prog_10_method_49_code
def yX8_see : MethodName := ⟨RX8, "see", "(II)I"⟩
abbrev cX8_unsee : ByteArray := prog_10_method_50_code
def yX8_unsee : MethodName := ⟨RX8, "unsee", "()I"⟩
abbrev cX8_findMinds : ByteArray := prog_10_method_51_code
def yX8_findMinds : MethodName := ⟨RX8, "findMinds", "()V"⟩
abbrev cX8_minds : ByteArray := prog_10_method_52_code
def yX8_minds : MethodName := ⟨RX8, "minds", "(I)I"⟩
abbrev cX8_pays : ByteArray := prog_10_method_53_code
def yX8_pays : MethodName := ⟨RX8, "pays", "(II)I"⟩
abbrev cX8_findRests : ByteArray := prog_10_method_54_code
def yX8_findRests : MethodName := ⟨RX8, "findRests", "()V"⟩
abbrev cX8_rests : ByteArray := prog_10_method_55_code
def yX8_rests : MethodName := ⟨RX8, "rests", "(I)I"⟩
abbrev cX8_deaf : ByteArray := prog_10_method_56_code
def yX8_deaf : MethodName := ⟨RX8, "deaf", "(IIIIZ)I"⟩
abbrev cX8_seed : ByteArray := prog_10_method_57_code
def yX8_seed : MethodName := ⟨RX8, "seed", "(J)J"⟩
abbrev cX8_evenings : ByteArray := prog_10_method_58_code
def yX8_evenings : MethodName := ⟨RX8, "evenings", "(I)I"⟩
abbrev cX8_keep : ByteArray := prog_10_method_59_code
def yX8_keep : MethodName := ⟨RX8, "keep", "(I)I"⟩
abbrev cX8_again : ByteArray := prog_10_method_60_code
def yX8_again : MethodName := ⟨RX8, "again", "(I)I"⟩
def RJ6 : String := "java/lang/Integer"
abbrev cJ6_bitCount_0f7a4 : ByteArray := prog_11_method_49_code
def yJ6_bitCount_0f7a4 : MethodName := ⟨RJ6, "bitCount", "(I)I"⟩
def RJ9 : String := "java/lang/Math"
abbrev cJ9_abs_0f7a4 : ByteArray := prog_12_method_59_code
def yJ9_abs_0f7a4 : MethodName := ⟨RJ9, "abs", "(I)I"⟩
abbrev cJ9_max_7cf53 : ByteArray := prog_12_method_65_code
def yJ9_max_7cf53 : MethodName := ⟨RJ9, "max", "(II)I"⟩
abbrev cJ9_min_7cf53 : ByteArray := prog_12_method_69_code
def yJ9_min_7cf53 : MethodName := ⟨RJ9, "min", "(II)I"⟩
def RL : String := "KnowsBetterLaw"
abbrev cL_law : ByteArray := code
def yL_law : MethodName := ⟨RL, "law", "([I)Z"⟩
abbrev vwCl : List vw_C := [(RX0, TX0, 3), (RX1, TX1, 2), (RX2, TX2, 1), (RX3, TX3, 3), (RX4, TX4, 1), (RX5, TX5, 5), (RX6, TX6, 2), (RX7, TX7, 9), (RX8, TX8, 31)]
def mBG : List Cond := lw_tbl.filter goodWord
theorem mBG_in {w : Cond} (h : w ∈ lw_tbl) (hg : goodWord w = true) : w ∈ mBG := List.mem_filter.mpr ⟨h, hg⟩
theorem mem_tb {w : Cond} (h : w ∈ tables_1) (hg : goodWord w = true) : w ∈ mBG := mBG_in (List.mem_append_right _ h) hg
theorem mem_t1 {w : Cond} {i : Nat} (h : tables_1_1[i]? = some w) (hg : goodWord w = true) : w ∈ mBG := mem_tb (List.mem_append_left _ (List.mem_of_getElem? h)) hg
theorem mem_t2 {w : Cond} {i : Nat} (h : tables_1_2[i]? = some w) (hg : goodWord w = true) : w ∈ mBG := mem_tb (List.mem_append_right _ (List.mem_append_left _ (List.mem_of_getElem? h))) hg
theorem mem_t3 {w : Cond} {i : Nat} (h : tables_1_3[i]? = some w) (hg : goodWord w = true) : w ∈ mBG := mem_tb (List.mem_append_right _ (List.mem_append_right _ (List.mem_append_left _ (List.mem_of_getElem? h)))) hg
theorem mem_t4 {w : Cond} {i : Nat} (h : tables_1_4[i]? = some w) (hg : goodWord w = true) : w ∈ mBG := mem_tb (List.mem_append_right _ (List.mem_append_right _ (List.mem_append_right _ (List.mem_of_getElem? h)))) hg
theorem mem_p1 {w : Cond} {i : Nat} (h : (lw_privs_1.map fun q => Cond.selects q.1.cls q.1 q.1)[i]? = some w) (hg : goodWord w = true) : w ∈ mBG := mBG_in (List.mem_append_left _ (by unfold k2_sels lw_privs; rw [List.map_append]; exact List.mem_append_left _ (List.mem_of_getElem? h))) hg
theorem mem_p2 {w : Cond} {i : Nat} (h : (lw_privs_2.map fun q => Cond.selects q.1.cls q.1 q.1)[i]? = some w) (hg : goodWord w = true) : w ∈ mBG := mBG_in (List.mem_append_left _ (by unfold k2_sels lw_privs; rw [List.map_append, List.map_append]; exact List.mem_append_right _ (List.mem_append_left _ (List.mem_of_getElem? h)))) hg
theorem mem_p3 {w : Cond} {i : Nat} (h : (lw_privs_3.map fun q => Cond.selects q.1.cls q.1 q.1)[i]? = some w) (hg : goodWord w = true) : w ∈ mBG := mBG_in (List.mem_append_left _ (by unfold k2_sels lw_privs; rw [List.map_append, List.map_append]; exact List.mem_append_right _ (List.mem_append_right _ (List.mem_of_getElem? h)))) hg
