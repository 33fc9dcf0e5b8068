theorem tw_1_0 : (Jvm.Cond.initialized "KnowsBetterLaw") ∈ mBG := mem_t1 (i := 0) rfl rfl
theorem tw_1_1 : (Jvm.Cond.initialized "KnowsBetter") ∈ mBG := mem_t1 (i := 1) rfl rfl
theorem tw_1_2 : (Jvm.Cond.initialized "KnowsBetter$Table") ∈ mBG := mem_t1 (i := 2) rfl rfl
theorem tw_1_3 : (Jvm.Cond.initialized "KnowsBetter$Row") ∈ mBG := mem_t1 (i := 3) rfl rfl
theorem tw_1_4 : (Jvm.Cond.initialized "java/lang/Math") ∈ mBG := mem_t1 (i := 4) rfl rfl
theorem tw_1_5 : (Jvm.Cond.initialized "KnowsBetter$Text") ∈ mBG := mem_t1 (i := 5) rfl rfl
theorem tw_1_6 : (Jvm.Cond.initialized "KnowsBetter$Round") ∈ mBG := mem_t1 (i := 6) rfl rfl
theorem tw_1_7 : (Jvm.Cond.initialized "KnowsBetter$Acts") ∈ mBG := mem_t1 (i := 7) rfl rfl
theorem tw_1_8 : (Jvm.Cond.initialized "KnowsBetter$Shelf") ∈ mBG := mem_t1 (i := 8) rfl rfl
theorem tw_1_9 : (Jvm.Cond.initialized "KnowsBetter$Seen") ∈ mBG := mem_t1 (i := 9) rfl rfl
theorem tw_1_10 : (Jvm.Cond.initialized "KnowsBetterModel") ∈ mBG := mem_t1 (i := 10) rfl rfl
theorem tw_1_11 : (Jvm.Cond.initialized "java/lang/Integer") ∈ mBG := mem_t1 (i := 11) rfl rfl
theorem tw_1_12 : (Jvm.Cond.classLink "KnowsBetterLaw" (7 : Nat) "KnowsBetter") ∈ mBG := mem_t1 (i := 12) rfl rfl
theorem tw_1_13 : (Jvm.Cond.instantiable "KnowsBetter" (9 : Nat)) ∈ mBG := mem_t1 (i := 13) rfl rfl
theorem tw_1_14 : (Jvm.Cond.methodLink "KnowsBetterLaw" (9 : Nat) ({ cls := "KnowsBetter", name := "<init>", desc := "()V" } : Jvm.MethodName)) ∈ mBG := mem_t1 (i := 14) rfl rfl
theorem tw_1_15 : (Jvm.Cond.instanceMethod ({ cls := "KnowsBetter", name := "<init>", desc := "()V" } : Jvm.MethodName)) ∈ mBG := mem_t1 (i := 15) rfl rfl
theorem tw_1_16 : (Jvm.Cond.code ({ cls := "KnowsBetter", name := "<init>", desc := "()V" } : Jvm.MethodName) prog_1_method_1_code (2 : Nat) (Option.none : Option Jvm.ClassFile.FieldType)) ∈ mBG := mem_t1 (i := 16) rfl rfl
theorem tw_1_17 : (Jvm.Cond.methodLink "KnowsBetter" (1 : Nat) ({ cls := "java/lang/Object", name := "<init>", desc := "()V" } : Jvm.MethodName)) ∈ mBG := mem_t1 (i := 17) rfl rfl
theorem tw_1_18 : (Jvm.Cond.instanceMethod ({ cls := "java/lang/Object", name := "<init>", desc := "()V" } : Jvm.MethodName)) ∈ mBG := mem_t1 (i := 18) rfl rfl
theorem tw_1_19 : (Jvm.Cond.code ({ cls := "java/lang/Object", name := "<init>", desc := "()V" } : Jvm.MethodName) object_method_1_code (1 : Nat) (Option.none : Option Jvm.ClassFile.FieldType)) ∈ mBG := mem_t1 (i := 19) rfl rfl
theorem tw_1_20 : (Jvm.Cond.classLink "KnowsBetter" (7 : Nat) "KnowsBetter$Table") ∈ mBG := mem_t1 (i := 20) rfl rfl
theorem tw_1_21 : (Jvm.Cond.instantiable "KnowsBetter$Table" (5 : Nat)) ∈ mBG := mem_t1 (i := 21) rfl rfl
theorem tw_1_23 : (Jvm.Cond.instanceMethod ({ cls := "KnowsBetter$Table", name := "<init>", desc := "()V" } : Jvm.MethodName)) ∈ mBG := mem_t1 (i := 23) rfl rfl
theorem tw_1_24 : (Jvm.Cond.code ({ cls := "KnowsBetter$Table", name := "<init>", desc := "()V" } : Jvm.MethodName) prog_7_method_1_code (1 : Nat) (Option.none : Option Jvm.ClassFile.FieldType)) ∈ mBG := mem_t1 (i := 24) rfl rfl
theorem tw_1_25 : (Jvm.Cond.methodLink "KnowsBetter$Table" (3 : Nat) ({ cls := "java/lang/Object", name := "<init>", desc := "()V" } : Jvm.MethodName)) ∈ mBG := mem_t1 (i := 25) rfl rfl
theorem tw_1_26 : (Jvm.Cond.classLink "KnowsBetter$Table" (9 : Nat) "KnowsBetter$Row") ∈ mBG := mem_t1 (i := 26) rfl rfl
theorem tw_1_27 : (Jvm.Cond.instantiable "KnowsBetter$Row" (1 : Nat)) ∈ mBG := mem_t1 (i := 27) rfl rfl
theorem tw_1_28 : (Jvm.Cond.methodLink "KnowsBetter$Table" (11 : Nat) ({ cls := "KnowsBetter$Row", name := "<init>", desc := "(I)V" } : Jvm.MethodName)) ∈ mBG := mem_t1 (i := 28) rfl rfl
theorem tw_1_29 : (Jvm.Cond.instanceMethod ({ cls := "KnowsBetter$Row", name := "<init>", desc := "(I)V" } : Jvm.MethodName)) ∈ mBG := mem_t1 (i := 29) rfl rfl
theorem tw_1_30 : (Jvm.Cond.code ({ cls := "KnowsBetter$Row", name := "<init>", desc := "(I)V" } : Jvm.MethodName) prog_4_method_1_code (2 : Nat) (Option.none : Option Jvm.ClassFile.FieldType)) ∈ mBG := mem_t1 (i := 30) rfl rfl
theorem tw_1_31 : (Jvm.Cond.methodLink "KnowsBetter$Row" (1 : Nat) ({ cls := "java/lang/Object", name := "<init>", desc := "()V" } : Jvm.MethodName)) ∈ mBG := mem_t1 (i := 31) rfl rfl
theorem tw_1_32 : (Jvm.Cond.methodLink "KnowsBetter$Row" (7 : Nat) ({ cls := "java/lang/Math", name := "max", desc := "(II)I" } : Jvm.MethodName)) ∈ mBG := mem_t1 (i := 32) rfl rfl
theorem tw_1_33 : (Jvm.Cond.static ({ cls := "java/lang/Math", name := "max", desc := "(II)I" } : Jvm.MethodName)) ∈ mBG := mem_t1 (i := 33) rfl rfl
theorem tw_1_34 : (Jvm.Cond.code ({ cls := "java/lang/Math", name := "max", desc := "(II)I" } : Jvm.MethodName) prog_12_method_65_code (2 : Nat) (Option.some Jvm.ClassFile.FieldType.int)) ∈ mBG := mem_t1 (i := 34) rfl rfl
theorem tw_1_35 : (Jvm.Cond.fieldLink "KnowsBetter$Row" (13 : Nat) "KnowsBetter$Row" "cells" "[I") ∈ mBG := mem_t1 (i := 35) rfl rfl
theorem tw_1_36 : (Jvm.Cond.laysFinal "KnowsBetter$Row" "KnowsBetter$Row" "cells" "[I") ∈ mBG := mem_t1 (i := 36) rfl rfl
theorem tw_1_39 : (Jvm.Cond.arrayClass Jvm.ClassFile.FieldType.int) ∈ mBG := mem_t1 (i := 39) rfl rfl
theorem tw_1_40 : (Jvm.Cond.fieldLink "KnowsBetter$Table" (14 : Nat) "KnowsBetter$Table" "kinds" "LKnowsBetter$Row;") ∈ mBG := mem_t1 (i := 40) rfl rfl
theorem tw_1_41 : (Jvm.Cond.fieldLink "KnowsBetter$Table" (20 : Nat) "KnowsBetter$Table" "needs" "LKnowsBetter$Row;") ∈ mBG := mem_t1 (i := 41) rfl rfl
theorem tw_1_42 : (Jvm.Cond.fieldLink "KnowsBetter$Table" (23 : Nat) "KnowsBetter$Table" "gives" "LKnowsBetter$Row;") ∈ mBG := mem_t1 (i := 42) rfl rfl
theorem tw_1_43 : (Jvm.Cond.fieldLink "KnowsBetter$Table" (26 : Nat) "KnowsBetter$Table" "people" "I") ∈ mBG := mem_t1 (i := 43) rfl rfl
theorem tw_1_44 : (Jvm.Cond.fieldLink "KnowsBetter$Table" (30 : Nat) "KnowsBetter$Table" "rules" "I") ∈ mBG := mem_t1 (i := 44) rfl rfl
theorem tw_1_45 : (Jvm.Cond.laysFinal "KnowsBetter$Table" "KnowsBetter$Table" "kinds" "LKnowsBetter$Row;") ∈ mBG := mem_t1 (i := 45) rfl rfl
theorem tw_1_47 : (Jvm.Cond.laysFinal "KnowsBetter$Table" "KnowsBetter$Table" "needs" "LKnowsBetter$Row;") ∈ mBG := mem_t1 (i := 47) rfl rfl
theorem tw_1_49 : (Jvm.Cond.laysFinal "KnowsBetter$Table" "KnowsBetter$Table" "gives" "LKnowsBetter$Row;") ∈ mBG := mem_t1 (i := 49) rfl rfl
theorem tw_1_51 : (Jvm.Cond.lays "KnowsBetter$Table" "KnowsBetter$Table" "people" "I") ∈ mBG := mem_t1 (i := 51) rfl rfl
theorem tw_1_53 : (Jvm.Cond.lays "KnowsBetter$Table" "KnowsBetter$Table" "rules" "I") ∈ mBG := mem_t1 (i := 53) rfl rfl
theorem tw_1_56 : (Jvm.Cond.classLink "KnowsBetter" (10 : Nat) "KnowsBetter$Text") ∈ mBG := mem_t1 (i := 56) rfl rfl
theorem tw_1_57 : (Jvm.Cond.instantiable "KnowsBetter$Text" (2 : Nat)) ∈ mBG := mem_t1 (i := 57) rfl rfl
theorem tw_1_59 : (Jvm.Cond.instanceMethod ({ cls := "KnowsBetter$Text", name := "<init>", desc := "()V" } : Jvm.MethodName)) ∈ mBG := mem_t1 (i := 59) rfl rfl
theorem tw_1_60 : (Jvm.Cond.code ({ cls := "KnowsBetter$Text", name := "<init>", desc := "()V" } : Jvm.MethodName) prog_8_method_1_code (1 : Nat) (Option.none : Option Jvm.ClassFile.FieldType)) ∈ mBG := mem_t1 (i := 60) rfl rfl
theorem tw_1_61 : (Jvm.Cond.methodLink "KnowsBetter$Text" (3 : Nat) ({ cls := "java/lang/Object", name := "<init>", desc := "()V" } : Jvm.MethodName)) ∈ mBG := mem_t1 (i := 61) rfl rfl
theorem tw_1_62 : (Jvm.Cond.classLink "KnowsBetter$Text" (9 : Nat) "KnowsBetter$Row") ∈ mBG := mem_t1 (i := 62) rfl rfl
theorem tw_1_63 : (Jvm.Cond.methodLink "KnowsBetter$Text" (11 : Nat) ({ cls := "KnowsBetter$Row", name := "<init>", desc := "(I)V" } : Jvm.MethodName)) ∈ mBG := mem_t1 (i := 63) rfl rfl
theorem tw_1_64 : (Jvm.Cond.fieldLink "KnowsBetter$Text" (14 : Nat) "KnowsBetter$Text" "bytes" "LKnowsBetter$Row;") ∈ mBG := mem_t1 (i := 64) rfl rfl
theorem tw_1_65 : (Jvm.Cond.fieldLink "KnowsBetter$Text" (20 : Nat) "KnowsBetter$Text" "length" "I") ∈ mBG := mem_t1 (i := 65) rfl rfl
theorem tw_1_66 : (Jvm.Cond.laysFinal "KnowsBetter$Text" "KnowsBetter$Text" "bytes" "LKnowsBetter$Row;") ∈ mBG := mem_t1 (i := 66) rfl rfl
theorem tw_1_68 : (Jvm.Cond.lays "KnowsBetter$Text" "KnowsBetter$Text" "length" "I") ∈ mBG := mem_t1 (i := 68) rfl rfl
theorem tw_1_71 : (Jvm.Cond.classLink "KnowsBetter" (23 : Nat) "KnowsBetter$Round") ∈ mBG := mem_t1 (i := 71) rfl rfl
theorem tw_1_72 : (Jvm.Cond.instantiable "KnowsBetter$Round" (2 : Nat)) ∈ mBG := mem_t1 (i := 72) rfl rfl
theorem tw_1_73 : (Jvm.Cond.methodLink "KnowsBetter" (25 : Nat) ({ cls := "KnowsBetter$Round", name := "<init>", desc := "(LKnowsBetter$Table;)V" } : Jvm.MethodName)) ∈ mBG := mem_t1 (i := 73) rfl rfl
theorem tw_1_74 : (Jvm.Cond.instanceMethod ({ cls := "KnowsBetter$Round", name := "<init>", desc := "(LKnowsBetter$Table;)V" } : Jvm.MethodName)) ∈ mBG := mem_t1 (i := 74) rfl rfl
theorem tw_1_75 : (Jvm.Cond.code ({ cls := "KnowsBetter$Round", name := "<init>", desc := "(LKnowsBetter$Table;)V" } : Jvm.MethodName) prog_3_method_1_code (2 : Nat) (Option.none : Option Jvm.ClassFile.FieldType)) ∈ mBG := mem_t1 (i := 75) rfl rfl
theorem tw_1_76 : (Jvm.Cond.methodLink "KnowsBetter$Round" (3 : Nat) ({ cls := "java/lang/Object", name := "<init>", desc := "()V" } : Jvm.MethodName)) ∈ mBG := mem_t1 (i := 76) rfl rfl
theorem tw_1_77 : (Jvm.Cond.classLink "KnowsBetter$Round" (9 : Nat) "KnowsBetter$Row") ∈ mBG := mem_t1 (i := 77) rfl rfl
theorem tw_1_78 : (Jvm.Cond.methodLink "KnowsBetter$Round" (13 : Nat) ({ cls := "KnowsBetter$Row", name := "<init>", desc := "(I)V" } : Jvm.MethodName)) ∈ mBG := mem_t1 (i := 78) rfl rfl
theorem tw_1_79 : (Jvm.Cond.fieldLink "KnowsBetter$Round" (20 : Nat) "KnowsBetter$Round" "table" "LKnowsBetter$Table;") ∈ mBG := mem_t1 (i := 79) rfl rfl
theorem tw_1_80 : (Jvm.Cond.fieldLink "KnowsBetter$Round" (16 : Nat) "KnowsBetter$Round" "cells" "LKnowsBetter$Row;") ∈ mBG := mem_t1 (i := 80) rfl rfl
theorem tw_1_82 : (Jvm.Cond.laysFinal "KnowsBetter$Round" "KnowsBetter$Round" "table" "LKnowsBetter$Table;") ∈ mBG := mem_t1 (i := 82) rfl rfl
theorem tw_1_84 : (Jvm.Cond.laysFinal "KnowsBetter$Round" "KnowsBetter$Round" "cells" "LKnowsBetter$Row;") ∈ mBG := mem_t1 (i := 84) rfl rfl
theorem tw_1_87 : (Jvm.Cond.classLink "KnowsBetter" (35 : Nat) "KnowsBetter$Acts") ∈ mBG := mem_t1 (i := 87) rfl rfl
theorem tw_1_88 : (Jvm.Cond.instantiable "KnowsBetter$Acts" (3 : Nat)) ∈ mBG := mem_t1 (i := 88) rfl rfl
theorem tw_1_90 : (Jvm.Cond.instanceMethod ({ cls := "KnowsBetter$Acts", name := "<init>", desc := "()V" } : Jvm.MethodName)) ∈ mBG := mem_t1 (i := 90) rfl rfl
theorem tw_1_91 : (Jvm.Cond.code ({ cls := "KnowsBetter$Acts", name := "<init>", desc := "()V" } : Jvm.MethodName) prog_2_method_1_code (1 : Nat) (Option.none : Option Jvm.ClassFile.FieldType)) ∈ mBG := mem_t1 (i := 91) rfl rfl
theorem tw_1_92 : (Jvm.Cond.methodLink "KnowsBetter$Acts" (3 : Nat) ({ cls := "java/lang/Object", name := "<init>", desc := "()V" } : Jvm.MethodName)) ∈ mBG := mem_t1 (i := 92) rfl rfl
theorem tw_1_93 : (Jvm.Cond.classLink "KnowsBetter$Acts" (9 : Nat) "KnowsBetter$Shelf") ∈ mBG := mem_t1 (i := 93) rfl rfl
theorem tw_1_94 : (Jvm.Cond.instantiable "KnowsBetter$Shelf" (1 : Nat)) ∈ mBG := mem_t1 (i := 94) rfl rfl
theorem tw_1_95 : (Jvm.Cond.methodLink "KnowsBetter$Acts" (11 : Nat) ({ cls := "KnowsBetter$Shelf", name := "<init>", desc := "(I)V" } : Jvm.MethodName)) ∈ mBG := mem_t1 (i := 95) rfl rfl
theorem tw_1_96 : (Jvm.Cond.instanceMethod ({ cls := "KnowsBetter$Shelf", name := "<init>", desc := "(I)V" } : Jvm.MethodName)) ∈ mBG := mem_t1 (i := 96) rfl rfl
theorem tw_1_97 : (Jvm.Cond.code ({ cls := "KnowsBetter$Shelf", name := "<init>", desc := "(I)V" } : Jvm.MethodName) prog_6_method_1_code (2 : Nat) (Option.none : Option Jvm.ClassFile.FieldType)) ∈ mBG := mem_t1 (i := 97) rfl rfl
theorem tw_1_98 : (Jvm.Cond.methodLink "KnowsBetter$Shelf" (1 : Nat) ({ cls := "java/lang/Object", name := "<init>", desc := "()V" } : Jvm.MethodName)) ∈ mBG := mem_t1 (i := 98) rfl rfl
theorem tw_1_99 : (Jvm.Cond.classLink "KnowsBetter$Shelf" (7 : Nat) "KnowsBetter$Row") ∈ mBG := mem_t1 (i := 99) rfl rfl
theorem tw_1_100 : (Jvm.Cond.methodLink "KnowsBetter$Shelf" (11 : Nat) ({ cls := "KnowsBetter$Row", name := "<init>", desc := "(I)V" } : Jvm.MethodName)) ∈ mBG := mem_t1 (i := 100) rfl rfl
theorem tw_1_101 : (Jvm.Cond.fieldLink "KnowsBetter$Shelf" (14 : Nat) "KnowsBetter$Shelf" "cells" "LKnowsBetter$Row;") ∈ mBG := mem_t1 (i := 101) rfl rfl
theorem tw_1_102 : (Jvm.Cond.laysFinal "KnowsBetter$Shelf" "KnowsBetter$Shelf" "cells" "LKnowsBetter$Row;") ∈ mBG := mem_t1 (i := 102) rfl rfl
theorem tw_1_105 : (Jvm.Cond.fieldLink "KnowsBetter$Acts" (14 : Nat) "KnowsBetter$Acts" "shelf" "LKnowsBetter$Shelf;") ∈ mBG := mem_t1 (i := 105) rfl rfl
theorem tw_1_106 : (Jvm.Cond.fieldLink "KnowsBetter$Acts" (20 : Nat) "KnowsBetter$Acts" "count" "I") ∈ mBG := mem_t1 (i := 106) rfl rfl
theorem tw_1_107 : (Jvm.Cond.fieldLink "KnowsBetter$Acts" (24 : Nat) "KnowsBetter$Acts" "next" "I") ∈ mBG := mem_t1 (i := 107) rfl rfl
theorem tw_1_108 : (Jvm.Cond.laysFinal "KnowsBetter$Acts" "KnowsBetter$Acts" "shelf" "LKnowsBetter$Shelf;") ∈ mBG := mem_t1 (i := 108) rfl rfl
theorem tw_1_110 : (Jvm.Cond.lays "KnowsBetter$Acts" "KnowsBetter$Acts" "count" "I") ∈ mBG := mem_t1 (i := 110) rfl rfl
theorem tw_1_112 : (Jvm.Cond.lays "KnowsBetter$Acts" "KnowsBetter$Acts" "next" "I") ∈ mBG := mem_t1 (i := 112) rfl rfl
theorem tw_1_115 : (Jvm.Cond.classLink "KnowsBetter" (42 : Nat) "KnowsBetter$Shelf") ∈ mBG := mem_t1 (i := 115) rfl rfl
theorem tw_1_116 : (Jvm.Cond.methodLink "KnowsBetter" (44 : Nat) ({ cls := "KnowsBetter$Shelf", name := "<init>", desc := "(I)V" } : Jvm.MethodName)) ∈ mBG := mem_t1 (i := 116) rfl rfl
theorem tw_1_117 : (Jvm.Cond.classLink "KnowsBetter" (51 : Nat) "KnowsBetter$Seen") ∈ mBG := mem_t1 (i := 117) rfl rfl
theorem tw_1_118 : (Jvm.Cond.instantiable "KnowsBetter$Seen" (3 : Nat)) ∈ mBG := mem_t1 (i := 118) rfl rfl
theorem tw_1_120 : (Jvm.Cond.instanceMethod ({ cls := "KnowsBetter$Seen", name := "<init>", desc := "()V" } : Jvm.MethodName)) ∈ mBG := mem_t1 (i := 120) rfl rfl
theorem tw_1_121 : (Jvm.Cond.code ({ cls := "KnowsBetter$Seen", name := "<init>", desc := "()V" } : Jvm.MethodName) prog_5_method_1_code (1 : Nat) (Option.none : Option Jvm.ClassFile.FieldType)) ∈ mBG := mem_t1 (i := 121) rfl rfl
theorem tw_1_122 : (Jvm.Cond.methodLink "KnowsBetter$Seen" (3 : Nat) ({ cls := "java/lang/Object", name := "<init>", desc := "()V" } : Jvm.MethodName)) ∈ mBG := mem_t1 (i := 122) rfl rfl
theorem tw_1_123 : (Jvm.Cond.fieldLink "KnowsBetter$Seen" (9 : Nat) "KnowsBetter$Seen" "count" "I") ∈ mBG := mem_t1 (i := 123) rfl rfl
theorem tw_1_124 : (Jvm.Cond.fieldLink "KnowsBetter$Seen" (15 : Nat) "KnowsBetter$Seen" "spokenUp" "I") ∈ mBG := mem_t1 (i := 124) rfl rfl
theorem tw_1_125 : (Jvm.Cond.fieldLink "KnowsBetter$Seen" (18 : Nat) "KnowsBetter$Seen" "passedOver" "I") ∈ mBG := mem_t1 (i := 125) rfl rfl
theorem tw_1_126 : (Jvm.Cond.lays "KnowsBetter$Seen" "KnowsBetter$Seen" "count" "I") ∈ mBG := mem_t1 (i := 126) rfl rfl
theorem tw_1_128 : (Jvm.Cond.lays "KnowsBetter$Seen" "KnowsBetter$Seen" "spokenUp" "I") ∈ mBG := mem_t1 (i := 128) rfl rfl
theorem tw_1_130 : (Jvm.Cond.lays "KnowsBetter$Seen" "KnowsBetter$Seen" "passedOver" "I") ∈ mBG := mem_t1 (i := 130) rfl rfl
theorem tw_1_133 : (Jvm.Cond.fieldLink "KnowsBetter" (13 : Nat) "KnowsBetter" "text" "LKnowsBetter$Text;") ∈ mBG := mem_t1 (i := 133) rfl rfl
theorem tw_1_134 : (Jvm.Cond.fieldLink "KnowsBetter" (19 : Nat) "KnowsBetter" "table" "LKnowsBetter$Table;") ∈ mBG := mem_t1 (i := 134) rfl rfl
theorem tw_1_135 : (Jvm.Cond.fieldLink "KnowsBetter" (28 : Nat) "KnowsBetter" "now" "LKnowsBetter$Round;") ∈ mBG := mem_t1 (i := 135) rfl rfl
theorem tw_1_136 : (Jvm.Cond.fieldLink "KnowsBetter" (32 : Nat) "KnowsBetter" "draft" "LKnowsBetter$Round;") ∈ mBG := mem_t1 (i := 136) rfl rfl
theorem tw_1_137 : (Jvm.Cond.fieldLink "KnowsBetter" (38 : Nat) "KnowsBetter" "acts" "LKnowsBetter$Acts;") ∈ mBG := mem_t1 (i := 137) rfl rfl
theorem tw_1_138 : (Jvm.Cond.fieldLink "KnowsBetter" (47 : Nat) "KnowsBetter" "slots" "LKnowsBetter$Shelf;") ∈ mBG := mem_t1 (i := 138) rfl rfl
theorem tw_1_139 : (Jvm.Cond.fieldLink "KnowsBetter" (54 : Nat) "KnowsBetter" "seen" "LKnowsBetter$Seen;") ∈ mBG := mem_t1 (i := 139) rfl rfl
theorem tw_1_140 : (Jvm.Cond.fieldLink "KnowsBetter" (89 : Nat) "KnowsBetter" "filledSlots" "I") ∈ mBG := mem_t1 (i := 140) rfl rfl
theorem tw_1_141 : (Jvm.Cond.fieldLink "KnowsBetter" (223 : Nat) "KnowsBetter" "chance" "J") ∈ mBG := mem_t1 (i := 141) rfl rfl
theorem tw_1_142 : (Jvm.Cond.laysFinal "KnowsBetter" "KnowsBetter" "text" "LKnowsBetter$Text;") ∈ mBG := mem_t1 (i := 142) rfl rfl
theorem tw_1_144 : (Jvm.Cond.laysFinal "KnowsBetter" "KnowsBetter" "table" "LKnowsBetter$Table;") ∈ mBG := mem_t1 (i := 144) rfl rfl
theorem tw_1_146 : (Jvm.Cond.laysFinal "KnowsBetter" "KnowsBetter" "now" "LKnowsBetter$Round;") ∈ mBG := mem_t1 (i := 146) rfl rfl
theorem tw_1_148 : (Jvm.Cond.laysFinal "KnowsBetter" "KnowsBetter" "draft" "LKnowsBetter$Round;") ∈ mBG := mem_t1 (i := 148) rfl rfl
theorem tw_1_150 : (Jvm.Cond.laysFinal "KnowsBetter" "KnowsBetter" "acts" "LKnowsBetter$Acts;") ∈ mBG := mem_t1 (i := 150) rfl rfl
theorem tw_1_152 : (Jvm.Cond.laysFinal "KnowsBetter" "KnowsBetter" "slots" "LKnowsBetter$Shelf;") ∈ mBG := mem_t1 (i := 152) rfl rfl
theorem tw_1_154 : (Jvm.Cond.laysFinal "KnowsBetter" "KnowsBetter" "seen" "LKnowsBetter$Seen;") ∈ mBG := mem_t1 (i := 154) rfl rfl
theorem tw_1_156 : (Jvm.Cond.lays "KnowsBetter" "KnowsBetter" "filledSlots" "I") ∈ mBG := mem_t1 (i := 156) rfl rfl
theorem tw_1_158 : (Jvm.Cond.lays "KnowsBetter" "KnowsBetter" "chance" "J") ∈ mBG := mem_t1 (i := 158) rfl rfl
theorem tw_1_161 : (Jvm.Cond.methodLink "KnowsBetterLaw" (13 : Nat) ({ cls := "KnowsBetter", name := "write", desc := "(I)I" } : Jvm.MethodName)) ∈ mBG := mem_t1 (i := 161) rfl rfl
theorem tw_1_162 : (Jvm.Cond.instanceMethod ({ cls := "KnowsBetter", name := "write", desc := "(I)I" } : Jvm.MethodName)) ∈ mBG := mem_t1 (i := 162) rfl rfl
theorem tw_1_163 : (Jvm.Cond.selects "KnowsBetter" ({ cls := "KnowsBetter", name := "write", desc := "(I)I" } : Jvm.MethodName) ({ cls := "KnowsBetter", name := "write", desc := "(I)I" } : Jvm.MethodName)) ∈ mBG := mem_t1 (i := 163) rfl rfl
theorem tw_1_164 : (Jvm.Cond.code ({ cls := "KnowsBetter", name := "write", desc := "(I)I" } : Jvm.MethodName) prog_1_method_2_code (2 : Nat) (Option.some Jvm.ClassFile.FieldType.int)) ∈ mBG := mem_t1 (i := 164) rfl rfl
theorem tw_1_165 : (Jvm.Cond.methodLink "KnowsBetter" (58 : Nat) ({ cls := "KnowsBetter$Text", name := "append", desc := "(I)I" } : Jvm.MethodName)) ∈ mBG := mem_t1 (i := 165) rfl rfl
theorem tw_1_166 : (Jvm.Cond.instanceMethod ({ cls := "KnowsBetter$Text", name := "append", desc := "(I)I" } : Jvm.MethodName)) ∈ mBG := mem_t1 (i := 166) rfl rfl
theorem tw_1_167 : (Jvm.Cond.selects "KnowsBetter$Text" ({ cls := "KnowsBetter$Text", name := "append", desc := "(I)I" } : Jvm.MethodName) ({ cls := "KnowsBetter$Text", name := "append", desc := "(I)I" } : Jvm.MethodName)) ∈ mBG := mem_t1 (i := 167) rfl rfl
theorem tw_1_168 : (Jvm.Cond.code ({ cls := "KnowsBetter$Text", name := "append", desc := "(I)I" } : Jvm.MethodName) prog_8_method_6_code (2 : Nat) (Option.some Jvm.ClassFile.FieldType.int)) ∈ mBG := mem_t1 (i := 168) rfl rfl
theorem tw_1_169 : (Jvm.Cond.methodLink "KnowsBetter$Text" (28 : Nat) ({ cls := "KnowsBetter$Row", name := "put", desc := "(II)V" } : Jvm.MethodName)) ∈ mBG := mem_t1 (i := 169) rfl rfl
theorem tw_1_170 : (Jvm.Cond.instanceMethod ({ cls := "KnowsBetter$Row", name := "put", desc := "(II)V" } : Jvm.MethodName)) ∈ mBG := mem_t1 (i := 170) rfl rfl
theorem tw_1_171 : (Jvm.Cond.selects "KnowsBetter$Row" ({ cls := "KnowsBetter$Row", name := "put", desc := "(II)V" } : Jvm.MethodName) ({ cls := "KnowsBetter$Row", name := "put", desc := "(II)V" } : Jvm.MethodName)) ∈ mBG := mem_t1 (i := 171) rfl rfl
theorem tw_1_172 : (Jvm.Cond.code ({ cls := "KnowsBetter$Row", name := "put", desc := "(II)V" } : Jvm.MethodName) prog_4_method_3_code (3 : Nat) (Option.none : Option Jvm.ClassFile.FieldType)) ∈ mBG := mem_t1 (i := 172) rfl rfl
theorem tw_1_173 : (Jvm.Cond.methodLink "KnowsBetterLaw" (18 : Nat) ({ cls := "KnowsBetter", name := "wipe", desc := "()I" } : Jvm.MethodName)) ∈ mBG := mem_t1 (i := 173) rfl rfl
theorem tw_1_174 : (Jvm.Cond.instanceMethod ({ cls := "KnowsBetter", name := "wipe", desc := "()I" } : Jvm.MethodName)) ∈ mBG := mem_t1 (i := 174) rfl rfl
theorem tw_1_175 : (Jvm.Cond.selects "KnowsBetter" ({ cls := "KnowsBetter", name := "wipe", desc := "()I" } : Jvm.MethodName) ({ cls := "KnowsBetter", name := "wipe", desc := "()I" } : Jvm.MethodName)) ∈ mBG := mem_t1 (i := 175) rfl rfl
theorem tw_1_176 : (Jvm.Cond.code ({ cls := "KnowsBetter", name := "wipe", desc := "()I" } : Jvm.MethodName) prog_1_method_3_code (1 : Nat) (Option.some Jvm.ClassFile.FieldType.int)) ∈ mBG := mem_t1 (i := 176) rfl rfl
theorem tw_1_177 : (Jvm.Cond.methodLink "KnowsBetter" (62 : Nat) ({ cls := "KnowsBetter$Text", name := "clear", desc := "()I" } : Jvm.MethodName)) ∈ mBG := mem_t1 (i := 177) rfl rfl
theorem tw_1_178 : (Jvm.Cond.instanceMethod ({ cls := "KnowsBetter$Text", name := "clear", desc := "()I" } : Jvm.MethodName)) ∈ mBG := mem_t1 (i := 178) rfl rfl
theorem tw_1_179 : (Jvm.Cond.selects "KnowsBetter$Text" ({ cls := "KnowsBetter$Text", name := "clear", desc := "()I" } : Jvm.MethodName) ({ cls := "KnowsBetter$Text", name := "clear", desc := "()I" } : Jvm.MethodName)) ∈ mBG := mem_t1 (i := 179) rfl rfl
theorem tw_1_180 : (Jvm.Cond.code ({ cls := "KnowsBetter$Text", name := "clear", desc := "()I" } : Jvm.MethodName) prog_8_method_7_code (2 : Nat) (Option.some Jvm.ClassFile.FieldType.int)) ∈ mBG := mem_t1 (i := 180) rfl rfl
theorem tw_1_181 : (Jvm.Cond.methodLink "KnowsBetterLaw" (23 : Nat) ({ cls := "KnowsBetter", name := "fault", desc := "()I" } : Jvm.MethodName)) ∈ mBG := mem_t1 (i := 181) rfl rfl
theorem tw_1_182 : (Jvm.Cond.instanceMethod ({ cls := "KnowsBetter", name := "fault", desc := "()I" } : Jvm.MethodName)) ∈ mBG := mem_t1 (i := 182) rfl rfl
theorem tw_1_183 : (Jvm.Cond.selects "KnowsBetter" ({ cls := "KnowsBetter", name := "fault", desc := "()I" } : Jvm.MethodName) ({ cls := "KnowsBetter", name := "fault", desc := "()I" } : Jvm.MethodName)) ∈ mBG := mem_t1 (i := 183) rfl rfl
theorem tw_1_184 : (Jvm.Cond.code ({ cls := "KnowsBetter", name := "fault", desc := "()I" } : Jvm.MethodName) prog_1_method_4_code (1 : Nat) (Option.some Jvm.ClassFile.FieldType.int)) ∈ mBG := mem_t1 (i := 184) rfl rfl
theorem tw_1_185 : (Jvm.Cond.methodLink "KnowsBetter" (66 : Nat) ({ cls := "KnowsBetter$Text", name := "firstFault", desc := "()I" } : Jvm.MethodName)) ∈ mBG := mem_t1 (i := 185) rfl rfl
theorem tw_1_186 : (Jvm.Cond.instanceMethod ({ cls := "KnowsBetter$Text", name := "firstFault", desc := "()I" } : Jvm.MethodName)) ∈ mBG := mem_t1 (i := 186) rfl rfl
theorem tw_1_187 : (Jvm.Cond.selects "KnowsBetter$Text" ({ cls := "KnowsBetter$Text", name := "firstFault", desc := "()I" } : Jvm.MethodName) ({ cls := "KnowsBetter$Text", name := "firstFault", desc := "()I" } : Jvm.MethodName)) ∈ mBG := mem_t1 (i := 187) rfl rfl
theorem tw_1_188 : (Jvm.Cond.code ({ cls := "KnowsBetter$Text", name := "firstFault", desc := "()I" } : Jvm.MethodName) prog_8_method_8_code (2 : Nat) (Option.some Jvm.ClassFile.FieldType.int)) ∈ mBG := mem_t1 (i := 188) rfl rfl
theorem tw_1_189 : (Jvm.Cond.methodLink "KnowsBetter$Text" (32 : Nat) ({ cls := "KnowsBetter$Text", name := "fits", desc := "(I)Z" } : Jvm.MethodName)) ∈ mBG := mem_t1 (i := 189) rfl rfl
theorem tw_1_191 : (Jvm.Cond.instanceMethod ({ cls := "KnowsBetter$Text", name := "fits", desc := "(I)Z" } : Jvm.MethodName)) ∈ mBG := mem_t1 (i := 191) rfl rfl
theorem tw_1_192 : (Jvm.Cond.code ({ cls := "KnowsBetter$Text", name := "fits", desc := "(I)Z" } : Jvm.MethodName) prog_8_method_9_code (3 : Nat) (Option.some Jvm.ClassFile.FieldType.boolean)) ∈ mBG := mem_t1 (i := 192) rfl rfl
theorem tw_1_193 : (Jvm.Cond.methodLink "KnowsBetter$Text" (36 : Nat) ({ cls := "KnowsBetter$Text", name := "at", desc := "(I)I" } : Jvm.MethodName)) ∈ mBG := mem_t1 (i := 193) rfl rfl
theorem tw_1_194 : (Jvm.Cond.instanceMethod ({ cls := "KnowsBetter$Text", name := "at", desc := "(I)I" } : Jvm.MethodName)) ∈ mBG := mem_t1 (i := 194) rfl rfl
theorem tw_1_195 : (Jvm.Cond.selects "KnowsBetter$Text" ({ cls := "KnowsBetter$Text", name := "at", desc := "(I)I" } : Jvm.MethodName) ({ cls := "KnowsBetter$Text", name := "at", desc := "(I)I" } : Jvm.MethodName)) ∈ mBG := mem_t1 (i := 195) rfl rfl
theorem tw_1_196 : (Jvm.Cond.code ({ cls := "KnowsBetter$Text", name := "at", desc := "(I)I" } : Jvm.MethodName) prog_8_method_3_code (2 : Nat) (Option.some Jvm.ClassFile.FieldType.int)) ∈ mBG := mem_t1 (i := 196) rfl rfl
theorem tw_1_197 : (Jvm.Cond.methodLink "KnowsBetter$Text" (24 : Nat) ({ cls := "KnowsBetter$Row", name := "at", desc := "(I)I" } : Jvm.MethodName)) ∈ mBG := mem_t1 (i := 197) rfl rfl
theorem tw_1_198 : (Jvm.Cond.instanceMethod ({ cls := "KnowsBetter$Row", name := "at", desc := "(I)I" } : Jvm.MethodName)) ∈ mBG := mem_t1 (i := 198) rfl rfl
theorem tw_1_199 : (Jvm.Cond.selects "KnowsBetter$Row" ({ cls := "KnowsBetter$Row", name := "at", desc := "(I)I" } : Jvm.MethodName) ({ cls := "KnowsBetter$Row", name := "at", desc := "(I)I" } : Jvm.MethodName)) ∈ mBG := mem_t1 (i := 199) rfl rfl
theorem tw_1_200 : (Jvm.Cond.code ({ cls := "KnowsBetter$Row", name := "at", desc := "(I)I" } : Jvm.MethodName) prog_4_method_2_code (2 : Nat) (Option.some Jvm.ClassFile.FieldType.int)) ∈ mBG := mem_t1 (i := 200) rfl rfl
theorem tw_1_201 : (Jvm.Cond.methodLink "KnowsBetter$Text" (37 : Nat) ({ cls := "KnowsBetter$Text", name := "startsPart", desc := "(I)Z" } : Jvm.MethodName)) ∈ mBG := mem_t1 (i := 201) rfl rfl
theorem tw_1_203 : (Jvm.Cond.instanceMethod ({ cls := "KnowsBetter$Text", name := "startsPart", desc := "(I)Z" } : Jvm.MethodName)) ∈ mBG := mem_t1 (i := 203) rfl rfl
theorem tw_1_204 : (Jvm.Cond.code ({ cls := "KnowsBetter$Text", name := "startsPart", desc := "(I)Z" } : Jvm.MethodName) prog_8_method_10_code (2 : Nat) (Option.some Jvm.ClassFile.FieldType.boolean)) ∈ mBG := mem_t1 (i := 204) rfl rfl
theorem tw_1_205 : (Jvm.Cond.methodLink "KnowsBetter$Text" (50 : Nat) ({ cls := "KnowsBetter$Text", name := "partsAhead", desc := "(II)I" } : Jvm.MethodName)) ∈ mBG := mem_t1 (i := 205) rfl rfl
theorem tw_1_207 : (Jvm.Cond.instanceMethod ({ cls := "KnowsBetter$Text", name := "partsAhead", desc := "(II)I" } : Jvm.MethodName)) ∈ mBG := mem_t1 (i := 207) rfl rfl
theorem tw_1_208 : (Jvm.Cond.code ({ cls := "KnowsBetter$Text", name := "partsAhead", desc := "(II)I" } : Jvm.MethodName) prog_8_method_11_code (5 : Nat) (Option.some Jvm.ClassFile.FieldType.int)) ∈ mBG := mem_t1 (i := 208) rfl rfl
theorem tw_1_209 : (Jvm.Cond.methodLink "KnowsBetter$Text" (40 : Nat) ({ cls := "KnowsBetter$Text", name := "digit", desc := "(I)I" } : Jvm.MethodName)) ∈ mBG := mem_t1 (i := 209) rfl rfl
theorem tw_1_210 : (Jvm.Cond.instanceMethod ({ cls := "KnowsBetter$Text", name := "digit", desc := "(I)I" } : Jvm.MethodName)) ∈ mBG := mem_t1 (i := 210) rfl rfl
theorem tw_1_211 : (Jvm.Cond.selects "KnowsBetter$Text" ({ cls := "KnowsBetter$Text", name := "digit", desc := "(I)I" } : Jvm.MethodName) ({ cls := "KnowsBetter$Text", name := "digit", desc := "(I)I" } : Jvm.MethodName)) ∈ mBG := mem_t1 (i := 211) rfl rfl
theorem tw_1_212 : (Jvm.Cond.code ({ cls := "KnowsBetter$Text", name := "digit", desc := "(I)I" } : Jvm.MethodName) prog_8_method_4_code (2 : Nat) (Option.some Jvm.ClassFile.FieldType.int)) ∈ mBG := mem_t1 (i := 212) rfl rfl
theorem tw_1_213 : (Jvm.Cond.methodLink "KnowsBetter$Text" (43 : Nat) ({ cls := "KnowsBetter$Text", name := "isBetween", desc := "(II)Z" } : Jvm.MethodName)) ∈ mBG := mem_t1 (i := 213) rfl rfl
theorem tw_1_214 : (Jvm.Cond.static ({ cls := "KnowsBetter$Text", name := "isBetween", desc := "(II)Z" } : Jvm.MethodName)) ∈ mBG := mem_t1 (i := 214) rfl rfl
theorem tw_1_215 : (Jvm.Cond.code ({ cls := "KnowsBetter$Text", name := "isBetween", desc := "(II)Z" } : Jvm.MethodName) prog_8_method_12_code (2 : Nat) (Option.some Jvm.ClassFile.FieldType.boolean)) ∈ mBG := mem_t1 (i := 215) rfl rfl
theorem tw_1_216 : (Jvm.Cond.methodLink "KnowsBetter$Text" (47 : Nat) ({ cls := "KnowsBetter$Text", name := "letter", desc := "(I)I" } : Jvm.MethodName)) ∈ mBG := mem_t1 (i := 216) rfl rfl
theorem tw_1_217 : (Jvm.Cond.instanceMethod ({ cls := "KnowsBetter$Text", name := "letter", desc := "(I)I" } : Jvm.MethodName)) ∈ mBG := mem_t1 (i := 217) rfl rfl
theorem tw_1_218 : (Jvm.Cond.selects "KnowsBetter$Text" ({ cls := "KnowsBetter$Text", name := "letter", desc := "(I)I" } : Jvm.MethodName) ({ cls := "KnowsBetter$Text", name := "letter", desc := "(I)I" } : Jvm.MethodName)) ∈ mBG := mem_t1 (i := 218) rfl rfl
theorem tw_1_219 : (Jvm.Cond.code ({ cls := "KnowsBetter$Text", name := "letter", desc := "(I)I" } : Jvm.MethodName) prog_8_method_5_code (2 : Nat) (Option.some Jvm.ClassFile.FieldType.int)) ∈ mBG := mem_t1 (i := 219) rfl rfl
theorem tw_1_220 : (Jvm.Cond.methodLink "KnowsBetterLaw" (27 : Nat) ({ cls := "KnowsBetter", name := "table", desc := "()I" } : Jvm.MethodName)) ∈ mBG := mem_t1 (i := 220) rfl rfl
theorem tw_1_221 : (Jvm.Cond.instanceMethod ({ cls := "KnowsBetter", name := "table", desc := "()I" } : Jvm.MethodName)) ∈ mBG := mem_t1 (i := 221) rfl rfl
theorem tw_1_222 : (Jvm.Cond.selects "KnowsBetter" ({ cls := "KnowsBetter", name := "table", desc := "()I" } : Jvm.MethodName) ({ cls := "KnowsBetter", name := "table", desc := "()I" } : Jvm.MethodName)) ∈ mBG := mem_t1 (i := 222) rfl rfl
theorem tw_1_223 : (Jvm.Cond.code ({ cls := "KnowsBetter", name := "table", desc := "()I" } : Jvm.MethodName) prog_1_method_5_code (2 : Nat) (Option.some Jvm.ClassFile.FieldType.int)) ∈ mBG := mem_t1 (i := 223) rfl rfl
theorem tw_1_224 : (Jvm.Cond.methodLink "KnowsBetter" (69 : Nat) ({ cls := "KnowsBetter$Table", name := "clear", desc := "()V" } : Jvm.MethodName)) ∈ mBG := mem_t1 (i := 224) rfl rfl
theorem tw_1_225 : (Jvm.Cond.instanceMethod ({ cls := "KnowsBetter$Table", name := "clear", desc := "()V" } : Jvm.MethodName)) ∈ mBG := mem_t1 (i := 225) rfl rfl
theorem tw_1_226 : (Jvm.Cond.selects "KnowsBetter$Table" ({ cls := "KnowsBetter$Table", name := "clear", desc := "()V" } : Jvm.MethodName) ({ cls := "KnowsBetter$Table", name := "clear", desc := "()V" } : Jvm.MethodName)) ∈ mBG := mem_t1 (i := 226) rfl rfl
theorem tw_1_227 : (Jvm.Cond.code ({ cls := "KnowsBetter$Table", name := "clear", desc := "()V" } : Jvm.MethodName) prog_7_method_5_code (1 : Nat) (Option.none : Option Jvm.ClassFile.FieldType)) ∈ mBG := mem_t1 (i := 227) rfl rfl
theorem tw_1_228 : (Jvm.Cond.methodLink "KnowsBetter" (71 : Nat) ({ cls := "KnowsBetter$Round", name := "clear", desc := "()V" } : Jvm.MethodName)) ∈ mBG := mem_t1 (i := 228) rfl rfl
theorem tw_1_229 : (Jvm.Cond.instanceMethod ({ cls := "KnowsBetter$Round", name := "clear", desc := "()V" } : Jvm.MethodName)) ∈ mBG := mem_t1 (i := 229) rfl rfl
theorem tw_1_230 : (Jvm.Cond.selects "KnowsBetter$Round" ({ cls := "KnowsBetter$Round", name := "clear", desc := "()V" } : Jvm.MethodName) ({ cls := "KnowsBetter$Round", name := "clear", desc := "()V" } : Jvm.MethodName)) ∈ mBG := mem_t1 (i := 230) rfl rfl
theorem tw_1_231 : (Jvm.Cond.code ({ cls := "KnowsBetter$Round", name := "clear", desc := "()V" } : Jvm.MethodName) prog_3_method_8_code (1 : Nat) (Option.none : Option Jvm.ClassFile.FieldType)) ∈ mBG := mem_t1 (i := 231) rfl rfl
theorem tw_1_232 : (Jvm.Cond.methodLink "KnowsBetter$Round" (35 : Nat) ({ cls := "KnowsBetter$Row", name := "fill", desc := "(I)V" } : Jvm.MethodName)) ∈ mBG := mem_t1 (i := 232) rfl rfl
theorem tw_1_233 : (Jvm.Cond.instanceMethod ({ cls := "KnowsBetter$Row", name := "fill", desc := "(I)V" } : Jvm.MethodName)) ∈ mBG := mem_t1 (i := 233) rfl rfl
theorem tw_1_234 : (Jvm.Cond.selects "KnowsBetter$Row" ({ cls := "KnowsBetter$Row", name := "fill", desc := "(I)V" } : Jvm.MethodName) ({ cls := "KnowsBetter$Row", name := "fill", desc := "(I)V" } : Jvm.MethodName)) ∈ mBG := mem_t1 (i := 234) rfl rfl
theorem tw_1_235 : (Jvm.Cond.code ({ cls := "KnowsBetter$Row", name := "fill", desc := "(I)V" } : Jvm.MethodName) prog_4_method_4_code (3 : Nat) (Option.none : Option Jvm.ClassFile.FieldType)) ∈ mBG := mem_t1 (i := 235) rfl rfl
theorem tw_1_236 : (Jvm.Cond.methodLink "KnowsBetter" (72 : Nat) ({ cls := "KnowsBetter$Text", name := "length", desc := "()I" } : Jvm.MethodName)) ∈ mBG := mem_t1 (i := 236) rfl rfl
theorem tw_1_237 : (Jvm.Cond.instanceMethod ({ cls := "KnowsBetter$Text", name := "length", desc := "()I" } : Jvm.MethodName)) ∈ mBG := mem_t1 (i := 237) rfl rfl
theorem tw_1_238 : (Jvm.Cond.selects "KnowsBetter$Text" ({ cls := "KnowsBetter$Text", name := "length", desc := "()I" } : Jvm.MethodName) ({ cls := "KnowsBetter$Text", name := "length", desc := "()I" } : Jvm.MethodName)) ∈ mBG := mem_t1 (i := 238) rfl rfl
theorem tw_1_239 : (Jvm.Cond.code ({ cls := "KnowsBetter$Text", name := "length", desc := "()I" } : Jvm.MethodName) prog_8_method_2_code (1 : Nat) (Option.some Jvm.ClassFile.FieldType.int)) ∈ mBG := mem_t1 (i := 239) rfl rfl
theorem tw_2_0 : (Jvm.Cond.methodLink "KnowsBetter" (75 : Nat) ({ cls := "KnowsBetter$Text", name := "at", desc := "(I)I" } : Jvm.MethodName)) ∈ mBG := mem_t2 (i := 0) rfl rfl
theorem tw_2_1 : (Jvm.Cond.methodLink "KnowsBetter" (78 : Nat) ({ cls := "KnowsBetter", name := adN, desc := "(I)V" } : Jvm.MethodName)) ∈ mBG := mem_t2 (i := 1) rfl rfl
theorem tw_2_3 : (Jvm.Cond.instanceMethod ({ cls := "KnowsBetter", name := adN, desc := "(I)V" } : Jvm.MethodName)) ∈ mBG := mem_t2 (i := 3) rfl rfl
theorem tw_2_4 : (Jvm.Cond.code ({ cls := "KnowsBetter", name := adN, desc := "(I)V" } : Jvm.MethodName) prog_1_method_35_code (3 : Nat) (Option.none : Option Jvm.ClassFile.FieldType)) ∈ mBG := mem_t2 (i := 4) rfl rfl
theorem tw_2_5 : (Jvm.Cond.methodLink "KnowsBetter" (81 : Nat) ({ cls := "KnowsBetter$Text", name := "digit", desc := "(I)I" } : Jvm.MethodName)) ∈ mBG := mem_t2 (i := 5) rfl rfl
theorem tw_2_6 : (Jvm.Cond.methodLink "KnowsBetter" (244 : Nat) ({ cls := "KnowsBetter$Table", name := "addPerson", desc := "(I)I" } : Jvm.MethodName)) ∈ mBG := mem_t2 (i := 6) rfl rfl
theorem tw_2_7 : (Jvm.Cond.instanceMethod ({ cls := "KnowsBetter$Table", name := "addPerson", desc := "(I)I" } : Jvm.MethodName)) ∈ mBG := mem_t2 (i := 7) rfl rfl
theorem tw_2_8 : (Jvm.Cond.selects "KnowsBetter$Table" ({ cls := "KnowsBetter$Table", name := "addPerson", desc := "(I)I" } : Jvm.MethodName) ({ cls := "KnowsBetter$Table", name := "addPerson", desc := "(I)I" } : Jvm.MethodName)) ∈ mBG := mem_t2 (i := 8) rfl rfl
theorem tw_2_9 : (Jvm.Cond.code ({ cls := "KnowsBetter$Table", name := "addPerson", desc := "(I)I" } : Jvm.MethodName) prog_7_method_6_code (3 : Nat) (Option.some Jvm.ClassFile.FieldType.int)) ∈ mBG := mem_t2 (i := 9) rfl rfl
theorem tw_2_10 : (Jvm.Cond.methodLink "KnowsBetter$Table" (37 : Nat) ({ cls := "KnowsBetter$Row", name := "put", desc := "(II)V" } : Jvm.MethodName)) ∈ mBG := mem_t2 (i := 10) rfl rfl
theorem tw_2_11 : (Jvm.Cond.methodLink "KnowsBetter" (247 : Nat) ({ cls := "KnowsBetter$Text", name := "letter", desc := "(I)I" } : Jvm.MethodName)) ∈ mBG := mem_t2 (i := 11) rfl rfl
theorem tw_2_12 : (Jvm.Cond.methodLink "KnowsBetter" (150 : Nat) ({ cls := "KnowsBetter$Round", name := "setTold", desc := "(II)V" } : Jvm.MethodName)) ∈ mBG := mem_t2 (i := 12) rfl rfl
theorem tw_2_13 : (Jvm.Cond.instanceMethod ({ cls := "KnowsBetter$Round", name := "setTold", desc := "(II)V" } : Jvm.MethodName)) ∈ mBG := mem_t2 (i := 13) rfl rfl
theorem tw_2_14 : (Jvm.Cond.selects "KnowsBetter$Round" ({ cls := "KnowsBetter$Round", name := "setTold", desc := "(II)V" } : Jvm.MethodName) ({ cls := "KnowsBetter$Round", name := "setTold", desc := "(II)V" } : Jvm.MethodName)) ∈ mBG := mem_t2 (i := 14) rfl rfl
theorem tw_2_15 : (Jvm.Cond.code ({ cls := "KnowsBetter$Round", name := "setTold", desc := "(II)V" } : Jvm.MethodName) prog_3_method_3_code (3 : Nat) (Option.none : Option Jvm.ClassFile.FieldType)) ∈ mBG := mem_t2 (i := 15) rfl rfl
theorem tw_2_16 : (Jvm.Cond.methodLink "KnowsBetter$Round" (28 : Nat) ({ cls := "KnowsBetter$Row", name := "put", desc := "(II)V" } : Jvm.MethodName)) ∈ mBG := mem_t2 (i := 16) rfl rfl
theorem tw_2_17 : (Jvm.Cond.methodLink "KnowsBetter" (154 : Nat) ({ cls := "KnowsBetter$Round", name := "setSeat", desc := "(II)V" } : Jvm.MethodName)) ∈ mBG := mem_t2 (i := 17) rfl rfl
theorem tw_2_18 : (Jvm.Cond.instanceMethod ({ cls := "KnowsBetter$Round", name := "setSeat", desc := "(II)V" } : Jvm.MethodName)) ∈ mBG := mem_t2 (i := 18) rfl rfl
theorem tw_2_19 : (Jvm.Cond.selects "KnowsBetter$Round" ({ cls := "KnowsBetter$Round", name := "setSeat", desc := "(II)V" } : Jvm.MethodName) ({ cls := "KnowsBetter$Round", name := "setSeat", desc := "(II)V" } : Jvm.MethodName)) ∈ mBG := mem_t2 (i := 19) rfl rfl
theorem tw_2_20 : (Jvm.Cond.code ({ cls := "KnowsBetter$Round", name := "setSeat", desc := "(II)V" } : Jvm.MethodName) prog_3_method_5_code (3 : Nat) (Option.none : Option Jvm.ClassFile.FieldType)) ∈ mBG := mem_t2 (i := 20) rfl rfl
theorem tw_2_21 : (Jvm.Cond.methodLink "KnowsBetter" (84 : Nat) ({ cls := "KnowsBetter$Table", name := "addRule", desc := "(III)V" } : Jvm.MethodName)) ∈ mBG := mem_t2 (i := 21) rfl rfl
theorem tw_2_22 : (Jvm.Cond.instanceMethod ({ cls := "KnowsBetter$Table", name := "addRule", desc := "(III)V" } : Jvm.MethodName)) ∈ mBG := mem_t2 (i := 22) rfl rfl
theorem tw_2_23 : (Jvm.Cond.selects "KnowsBetter$Table" ({ cls := "KnowsBetter$Table", name := "addRule", desc := "(III)V" } : Jvm.MethodName) ({ cls := "KnowsBetter$Table", name := "addRule", desc := "(III)V" } : Jvm.MethodName)) ∈ mBG := mem_t2 (i := 23) rfl rfl
theorem tw_2_24 : (Jvm.Cond.code ({ cls := "KnowsBetter$Table", name := "addRule", desc := "(III)V" } : Jvm.MethodName) prog_7_method_7_code (4 : Nat) (Option.none : Option Jvm.ClassFile.FieldType)) ∈ mBG := mem_t2 (i := 24) rfl rfl
theorem tw_2_25 : (Jvm.Cond.methodLink "KnowsBetter" (88 : Nat) ({ cls := "KnowsBetter$Acts", name := "clear", desc := "()V" } : Jvm.MethodName)) ∈ mBG := mem_t2 (i := 25) rfl rfl
theorem tw_2_26 : (Jvm.Cond.instanceMethod ({ cls := "KnowsBetter$Acts", name := "clear", desc := "()V" } : Jvm.MethodName)) ∈ mBG := mem_t2 (i := 26) rfl rfl
theorem tw_2_27 : (Jvm.Cond.selects "KnowsBetter$Acts" ({ cls := "KnowsBetter$Acts", name := "clear", desc := "()V" } : Jvm.MethodName) ({ cls := "KnowsBetter$Acts", name := "clear", desc := "()V" } : Jvm.MethodName)) ∈ mBG := mem_t2 (i := 27) rfl rfl
theorem tw_2_28 : (Jvm.Cond.code ({ cls := "KnowsBetter$Acts", name := "clear", desc := "()V" } : Jvm.MethodName) prog_2_method_3_code (1 : Nat) (Option.none : Option Jvm.ClassFile.FieldType)) ∈ mBG := mem_t2 (i := 28) rfl rfl
theorem tw_2_29 : (Jvm.Cond.methodLink "KnowsBetter" (93 : Nat) ({ cls := "KnowsBetter$Table", name := "people", desc := "()I" } : Jvm.MethodName)) ∈ mBG := mem_t2 (i := 29) rfl rfl
theorem tw_2_30 : (Jvm.Cond.instanceMethod ({ cls := "KnowsBetter$Table", name := "people", desc := "()I" } : Jvm.MethodName)) ∈ mBG := mem_t2 (i := 30) rfl rfl
theorem tw_2_31 : (Jvm.Cond.selects "KnowsBetter$Table" ({ cls := "KnowsBetter$Table", name := "people", desc := "()I" } : Jvm.MethodName) ({ cls := "KnowsBetter$Table", name := "people", desc := "()I" } : Jvm.MethodName)) ∈ mBG := mem_t2 (i := 31) rfl rfl
theorem tw_2_32 : (Jvm.Cond.code ({ cls := "KnowsBetter$Table", name := "people", desc := "()I" } : Jvm.MethodName) prog_7_method_2_code (1 : Nat) (Option.some Jvm.ClassFile.FieldType.int)) ∈ mBG := mem_t2 (i := 32) rfl rfl
theorem tw_2_33 : (Jvm.Cond.methodLink "KnowsBetter" (96 : Nat) ({ cls := "KnowsBetter$Table", name := "rules", desc := "()I" } : Jvm.MethodName)) ∈ mBG := mem_t2 (i := 33) rfl rfl
theorem tw_2_34 : (Jvm.Cond.instanceMethod ({ cls := "KnowsBetter$Table", name := "rules", desc := "()I" } : Jvm.MethodName)) ∈ mBG := mem_t2 (i := 34) rfl rfl
theorem tw_2_35 : (Jvm.Cond.selects "KnowsBetter$Table" ({ cls := "KnowsBetter$Table", name := "rules", desc := "()I" } : Jvm.MethodName) ({ cls := "KnowsBetter$Table", name := "rules", desc := "()I" } : Jvm.MethodName)) ∈ mBG := mem_t2 (i := 35) rfl rfl
theorem tw_2_36 : (Jvm.Cond.code ({ cls := "KnowsBetter$Table", name := "rules", desc := "()I" } : Jvm.MethodName) prog_7_method_3_code (1 : Nat) (Option.some Jvm.ClassFile.FieldType.int)) ∈ mBG := mem_t2 (i := 36) rfl rfl
theorem tw_2_37 : (Jvm.Cond.methodLink "KnowsBetterLaw" (31 : Nat) ({ cls := "KnowsBetter", name := "about", desc := "(I)I" } : Jvm.MethodName)) ∈ mBG := mem_t2 (i := 37) rfl rfl
theorem tw_2_38 : (Jvm.Cond.instanceMethod ({ cls := "KnowsBetter", name := "about", desc := "(I)I" } : Jvm.MethodName)) ∈ mBG := mem_t2 (i := 38) rfl rfl
theorem tw_2_39 : (Jvm.Cond.selects "KnowsBetter" ({ cls := "KnowsBetter", name := "about", desc := "(I)I" } : Jvm.MethodName) ({ cls := "KnowsBetter", name := "about", desc := "(I)I" } : Jvm.MethodName)) ∈ mBG := mem_t2 (i := 39) rfl rfl
theorem tw_2_40 : (Jvm.Cond.code ({ cls := "KnowsBetter", name := "about", desc := "(I)I" } : Jvm.MethodName) prog_1_method_6_code (2 : Nat) (Option.some Jvm.ClassFile.FieldType.int)) ∈ mBG := mem_t2 (i := 40) rfl rfl
theorem tw_2_41 : (Jvm.Cond.methodLink "KnowsBetter" (99 : Nat) ({ cls := "KnowsBetter$Round", name := "allFines", desc := "()I" } : Jvm.MethodName)) ∈ mBG := mem_t2 (i := 41) rfl rfl
theorem tw_2_42 : (Jvm.Cond.instanceMethod ({ cls := "KnowsBetter$Round", name := "allFines", desc := "()I" } : Jvm.MethodName)) ∈ mBG := mem_t2 (i := 42) rfl rfl
theorem tw_2_43 : (Jvm.Cond.selects "KnowsBetter$Round" ({ cls := "KnowsBetter$Round", name := "allFines", desc := "()I" } : Jvm.MethodName) ({ cls := "KnowsBetter$Round", name := "allFines", desc := "()I" } : Jvm.MethodName)) ∈ mBG := mem_t2 (i := 43) rfl rfl
theorem tw_2_44 : (Jvm.Cond.code ({ cls := "KnowsBetter$Round", name := "allFines", desc := "()I" } : Jvm.MethodName) prog_3_method_12_code (3 : Nat) (Option.some Jvm.ClassFile.FieldType.int)) ∈ mBG := mem_t2 (i := 44) rfl rfl
theorem tw_2_45 : (Jvm.Cond.methodLink "KnowsBetter$Round" (50 : Nat) ({ cls := "KnowsBetter$Table", name := "people", desc := "()I" } : Jvm.MethodName)) ∈ mBG := mem_t2 (i := 45) rfl rfl
theorem tw_2_46 : (Jvm.Cond.methodLink "KnowsBetter$Round" (32 : Nat) ({ cls := "KnowsBetter$Round", name := "fines", desc := "(I)I" } : Jvm.MethodName)) ∈ mBG := mem_t2 (i := 46) rfl rfl
theorem tw_2_47 : (Jvm.Cond.instanceMethod ({ cls := "KnowsBetter$Round", name := "fines", desc := "(I)I" } : Jvm.MethodName)) ∈ mBG := mem_t2 (i := 47) rfl rfl
theorem tw_2_48 : (Jvm.Cond.selects "KnowsBetter$Round" ({ cls := "KnowsBetter$Round", name := "fines", desc := "(I)I" } : Jvm.MethodName) ({ cls := "KnowsBetter$Round", name := "fines", desc := "(I)I" } : Jvm.MethodName)) ∈ mBG := mem_t2 (i := 48) rfl rfl
theorem tw_2_49 : (Jvm.Cond.code ({ cls := "KnowsBetter$Round", name := "fines", desc := "(I)I" } : Jvm.MethodName) prog_3_method_6_code (2 : Nat) (Option.some Jvm.ClassFile.FieldType.int)) ∈ mBG := mem_t2 (i := 49) rfl rfl
theorem tw_2_50 : (Jvm.Cond.methodLink "KnowsBetter$Round" (24 : Nat) ({ cls := "KnowsBetter$Row", name := "at", desc := "(I)I" } : Jvm.MethodName)) ∈ mBG := mem_t2 (i := 50) rfl rfl
theorem tw_2_51 : (Jvm.Cond.methodLink "KnowsBetter" (102 : Nat) ({ cls := "KnowsBetter$Round", name := "knownBySomebody", desc := "()I" } : Jvm.MethodName)) ∈ mBG := mem_t2 (i := 51) rfl rfl
theorem tw_2_52 : (Jvm.Cond.instanceMethod ({ cls := "KnowsBetter$Round", name := "knownBySomebody", desc := "()I" } : Jvm.MethodName)) ∈ mBG := mem_t2 (i := 52) rfl rfl
theorem tw_2_53 : (Jvm.Cond.selects "KnowsBetter$Round" ({ cls := "KnowsBetter$Round", name := "knownBySomebody", desc := "()I" } : Jvm.MethodName) ({ cls := "KnowsBetter$Round", name := "knownBySomebody", desc := "()I" } : Jvm.MethodName)) ∈ mBG := mem_t2 (i := 53) rfl rfl
theorem tw_2_54 : (Jvm.Cond.code ({ cls := "KnowsBetter$Round", name := "knownBySomebody", desc := "()I" } : Jvm.MethodName) prog_3_method_11_code (3 : Nat) (Option.some Jvm.ClassFile.FieldType.int)) ∈ mBG := mem_t2 (i := 54) rfl rfl
theorem tw_2_55 : (Jvm.Cond.methodLink "KnowsBetter$Round" (54 : Nat) ({ cls := "KnowsBetter$Round", name := "known", desc := "(I)I" } : Jvm.MethodName)) ∈ mBG := mem_t2 (i := 55) rfl rfl
theorem tw_2_56 : (Jvm.Cond.instanceMethod ({ cls := "KnowsBetter$Round", name := "known", desc := "(I)I" } : Jvm.MethodName)) ∈ mBG := mem_t2 (i := 56) rfl rfl
theorem tw_2_57 : (Jvm.Cond.selects "KnowsBetter$Round" ({ cls := "KnowsBetter$Round", name := "known", desc := "(I)I" } : Jvm.MethodName) ({ cls := "KnowsBetter$Round", name := "known", desc := "(I)I" } : Jvm.MethodName)) ∈ mBG := mem_t2 (i := 57) rfl rfl
theorem tw_2_58 : (Jvm.Cond.code ({ cls := "KnowsBetter$Round", name := "known", desc := "(I)I" } : Jvm.MethodName) prog_3_method_10_code (2 : Nat) (Option.some Jvm.ClassFile.FieldType.int)) ∈ mBG := mem_t2 (i := 58) rfl rfl
theorem tw_2_59 : (Jvm.Cond.methodLink "KnowsBetter$Round" (42 : Nat) ({ cls := "KnowsBetter$Round", name := "told", desc := "(I)I" } : Jvm.MethodName)) ∈ mBG := mem_t2 (i := 59) rfl rfl
theorem tw_2_60 : (Jvm.Cond.instanceMethod ({ cls := "KnowsBetter$Round", name := "told", desc := "(I)I" } : Jvm.MethodName)) ∈ mBG := mem_t2 (i := 60) rfl rfl
theorem tw_2_61 : (Jvm.Cond.selects "KnowsBetter$Round" ({ cls := "KnowsBetter$Round", name := "told", desc := "(I)I" } : Jvm.MethodName) ({ cls := "KnowsBetter$Round", name := "told", desc := "(I)I" } : Jvm.MethodName)) ∈ mBG := mem_t2 (i := 61) rfl rfl
theorem tw_2_62 : (Jvm.Cond.code ({ cls := "KnowsBetter$Round", name := "told", desc := "(I)I" } : Jvm.MethodName) prog_3_method_2_code (2 : Nat) (Option.some Jvm.ClassFile.FieldType.int)) ∈ mBG := mem_t2 (i := 62) rfl rfl
theorem tw_2_63 : (Jvm.Cond.methodLink "KnowsBetter$Round" (45 : Nat) ({ cls := "KnowsBetter$Table", name := "closure", desc := "(I)I" } : Jvm.MethodName)) ∈ mBG := mem_t2 (i := 63) rfl rfl
theorem tw_2_64 : (Jvm.Cond.instanceMethod ({ cls := "KnowsBetter$Table", name := "closure", desc := "(I)I" } : Jvm.MethodName)) ∈ mBG := mem_t2 (i := 64) rfl rfl
theorem tw_2_65 : (Jvm.Cond.selects "KnowsBetter$Table" ({ cls := "KnowsBetter$Table", name := "closure", desc := "(I)I" } : Jvm.MethodName) ({ cls := "KnowsBetter$Table", name := "closure", desc := "(I)I" } : Jvm.MethodName)) ∈ mBG := mem_t2 (i := 65) rfl rfl
theorem tw_2_66 : (Jvm.Cond.code ({ cls := "KnowsBetter$Table", name := "closure", desc := "(I)I" } : Jvm.MethodName) prog_7_method_8_code (6 : Nat) (Option.some Jvm.ClassFile.FieldType.int)) ∈ mBG := mem_t2 (i := 66) rfl rfl
theorem tw_2_67 : (Jvm.Cond.methodLink "KnowsBetter$Table" (33 : Nat) ({ cls := "KnowsBetter$Row", name := "at", desc := "(I)I" } : Jvm.MethodName)) ∈ mBG := mem_t2 (i := 67) rfl rfl
theorem tw_2_68 : (Jvm.Cond.methodLink "KnowsBetter" (105 : Nat) ({ cls := "KnowsBetter$Acts", name := "count", desc := "()I" } : Jvm.MethodName)) ∈ mBG := mem_t2 (i := 68) rfl rfl
theorem tw_2_69 : (Jvm.Cond.instanceMethod ({ cls := "KnowsBetter$Acts", name := "count", desc := "()I" } : Jvm.MethodName)) ∈ mBG := mem_t2 (i := 69) rfl rfl
theorem tw_2_70 : (Jvm.Cond.selects "KnowsBetter$Acts" ({ cls := "KnowsBetter$Acts", name := "count", desc := "()I" } : Jvm.MethodName) ({ cls := "KnowsBetter$Acts", name := "count", desc := "()I" } : Jvm.MethodName)) ∈ mBG := mem_t2 (i := 70) rfl rfl
theorem tw_2_71 : (Jvm.Cond.code ({ cls := "KnowsBetter$Acts", name := "count", desc := "()I" } : Jvm.MethodName) prog_2_method_2_code (1 : Nat) (Option.some Jvm.ClassFile.FieldType.int)) ∈ mBG := mem_t2 (i := 71) rfl rfl
theorem tw_2_72 : (Jvm.Cond.methodLink "KnowsBetter" (108 : Nat) ({ cls := "KnowsBetter$Seen", name := "count", desc := "()I" } : Jvm.MethodName)) ∈ mBG := mem_t2 (i := 72) rfl rfl
theorem tw_2_73 : (Jvm.Cond.instanceMethod ({ cls := "KnowsBetter$Seen", name := "count", desc := "()I" } : Jvm.MethodName)) ∈ mBG := mem_t2 (i := 73) rfl rfl
theorem tw_2_74 : (Jvm.Cond.selects "KnowsBetter$Seen" ({ cls := "KnowsBetter$Seen", name := "count", desc := "()I" } : Jvm.MethodName) ({ cls := "KnowsBetter$Seen", name := "count", desc := "()I" } : Jvm.MethodName)) ∈ mBG := mem_t2 (i := 74) rfl rfl
theorem tw_2_75 : (Jvm.Cond.code ({ cls := "KnowsBetter$Seen", name := "count", desc := "()I" } : Jvm.MethodName) prog_5_method_2_code (1 : Nat) (Option.some Jvm.ClassFile.FieldType.int)) ∈ mBG := mem_t2 (i := 75) rfl rfl
theorem tw_2_76 : (Jvm.Cond.methodLink "KnowsBetterLaw" (35 : Nat) ({ cls := "KnowsBetter", name := "person", desc := "(II)I" } : Jvm.MethodName)) ∈ mBG := mem_t2 (i := 76) rfl rfl
theorem tw_2_77 : (Jvm.Cond.instanceMethod ({ cls := "KnowsBetter", name := "person", desc := "(II)I" } : Jvm.MethodName)) ∈ mBG := mem_t2 (i := 77) rfl rfl
theorem tw_2_78 : (Jvm.Cond.selects "KnowsBetter" ({ cls := "KnowsBetter", name := "person", desc := "(II)I" } : Jvm.MethodName) ({ cls := "KnowsBetter", name := "person", desc := "(II)I" } : Jvm.MethodName)) ∈ mBG := mem_t2 (i := 78) rfl rfl
theorem tw_2_79 : (Jvm.Cond.code ({ cls := "KnowsBetter", name := "person", desc := "(II)I" } : Jvm.MethodName) prog_1_method_7_code (3 : Nat) (Option.some Jvm.ClassFile.FieldType.int)) ∈ mBG := mem_t2 (i := 79) rfl rfl
theorem tw_2_80 : (Jvm.Cond.methodLink "KnowsBetter" (109 : Nat) ({ cls := "KnowsBetter", name := "isPerson", desc := "(I)Z" } : Jvm.MethodName)) ∈ mBG := mem_t2 (i := 80) rfl rfl
theorem tw_2_82 : (Jvm.Cond.instanceMethod ({ cls := "KnowsBetter", name := "isPerson", desc := "(I)Z" } : Jvm.MethodName)) ∈ mBG := mem_t2 (i := 82) rfl rfl
theorem tw_2_83 : (Jvm.Cond.code ({ cls := "KnowsBetter", name := "isPerson", desc := "(I)Z" } : Jvm.MethodName) prog_1_method_30_code (2 : Nat) (Option.some Jvm.ClassFile.FieldType.boolean)) ∈ mBG := mem_t2 (i := 83) rfl rfl
theorem tw_2_84 : (Jvm.Cond.methodLink "KnowsBetter" (113 : Nat) ({ cls := "KnowsBetter$Table", name := "kind", desc := "(I)I" } : Jvm.MethodName)) ∈ mBG := mem_t2 (i := 84) rfl rfl
theorem tw_2_85 : (Jvm.Cond.instanceMethod ({ cls := "KnowsBetter$Table", name := "kind", desc := "(I)I" } : Jvm.MethodName)) ∈ mBG := mem_t2 (i := 85) rfl rfl
theorem tw_2_86 : (Jvm.Cond.selects "KnowsBetter$Table" ({ cls := "KnowsBetter$Table", name := "kind", desc := "(I)I" } : Jvm.MethodName) ({ cls := "KnowsBetter$Table", name := "kind", desc := "(I)I" } : Jvm.MethodName)) ∈ mBG := mem_t2 (i := 86) rfl rfl
theorem tw_2_87 : (Jvm.Cond.code ({ cls := "KnowsBetter$Table", name := "kind", desc := "(I)I" } : Jvm.MethodName) prog_7_method_4_code (2 : Nat) (Option.some Jvm.ClassFile.FieldType.int)) ∈ mBG := mem_t2 (i := 87) rfl rfl
theorem tw_2_88 : (Jvm.Cond.methodLink "KnowsBetter" (116 : Nat) ({ cls := "KnowsBetter$Round", name := "told", desc := "(I)I" } : Jvm.MethodName)) ∈ mBG := mem_t2 (i := 88) rfl rfl
theorem tw_2_89 : (Jvm.Cond.methodLink "KnowsBetter" (119 : Nat) ({ cls := "KnowsBetter$Round", name := "known", desc := "(I)I" } : Jvm.MethodName)) ∈ mBG := mem_t2 (i := 89) rfl rfl
theorem tw_2_90 : (Jvm.Cond.methodLink "KnowsBetter" (122 : Nat) ({ cls := "KnowsBetter$Round", name := "seat", desc := "(I)I" } : Jvm.MethodName)) ∈ mBG := mem_t2 (i := 90) rfl rfl
theorem tw_2_91 : (Jvm.Cond.instanceMethod ({ cls := "KnowsBetter$Round", name := "seat", desc := "(I)I" } : Jvm.MethodName)) ∈ mBG := mem_t2 (i := 91) rfl rfl
theorem tw_2_92 : (Jvm.Cond.selects "KnowsBetter$Round" ({ cls := "KnowsBetter$Round", name := "seat", desc := "(I)I" } : Jvm.MethodName) ({ cls := "KnowsBetter$Round", name := "seat", desc := "(I)I" } : Jvm.MethodName)) ∈ mBG := mem_t2 (i := 92) rfl rfl
theorem tw_2_93 : (Jvm.Cond.code ({ cls := "KnowsBetter$Round", name := "seat", desc := "(I)I" } : Jvm.MethodName) prog_3_method_4_code (2 : Nat) (Option.some Jvm.ClassFile.FieldType.int)) ∈ mBG := mem_t2 (i := 93) rfl rfl
theorem tw_2_94 : (Jvm.Cond.methodLink "KnowsBetter" (125 : Nat) ({ cls := "KnowsBetter$Round", name := "fines", desc := "(I)I" } : Jvm.MethodName)) ∈ mBG := mem_t2 (i := 94) rfl rfl
theorem tw_2_95 : (Jvm.Cond.methodLink "KnowsBetterLaw" (40 : Nat) ({ cls := "KnowsBetter", name := "far", desc := "(II)I" } : Jvm.MethodName)) ∈ mBG := mem_t2 (i := 95) rfl rfl
theorem tw_2_96 : (Jvm.Cond.instanceMethod ({ cls := "KnowsBetter", name := "far", desc := "(II)I" } : Jvm.MethodName)) ∈ mBG := mem_t2 (i := 96) rfl rfl
theorem tw_2_97 : (Jvm.Cond.selects "KnowsBetter" ({ cls := "KnowsBetter", name := "far", desc := "(II)I" } : Jvm.MethodName) ({ cls := "KnowsBetter", name := "far", desc := "(II)I" } : Jvm.MethodName)) ∈ mBG := mem_t2 (i := 97) rfl rfl
theorem tw_2_98 : (Jvm.Cond.code ({ cls := "KnowsBetter", name := "far", desc := "(II)I" } : Jvm.MethodName) prog_1_method_8_code (3 : Nat) (Option.some Jvm.ClassFile.FieldType.int)) ∈ mBG := mem_t2 (i := 98) rfl rfl
theorem tw_2_99 : (Jvm.Cond.methodLink "KnowsBetter" (128 : Nat) ({ cls := "KnowsBetter$Round", name := "distance", desc := "(II)I" } : Jvm.MethodName)) ∈ mBG := mem_t2 (i := 99) rfl rfl
theorem tw_2_100 : (Jvm.Cond.instanceMethod ({ cls := "KnowsBetter$Round", name := "distance", desc := "(II)I" } : Jvm.MethodName)) ∈ mBG := mem_t2 (i := 100) rfl rfl
theorem tw_2_101 : (Jvm.Cond.selects "KnowsBetter$Round" ({ cls := "KnowsBetter$Round", name := "distance", desc := "(II)I" } : Jvm.MethodName) ({ cls := "KnowsBetter$Round", name := "distance", desc := "(II)I" } : Jvm.MethodName)) ∈ mBG := mem_t2 (i := 101) rfl rfl
theorem tw_2_102 : (Jvm.Cond.code ({ cls := "KnowsBetter$Round", name := "distance", desc := "(II)I" } : Jvm.MethodName) prog_3_method_14_code (4 : Nat) (Option.some Jvm.ClassFile.FieldType.int)) ∈ mBG := mem_t2 (i := 102) rfl rfl
theorem tw_2_103 : (Jvm.Cond.methodLink "KnowsBetter$Round" (61 : Nat) ({ cls := "KnowsBetter$Round", name := "seat", desc := "(I)I" } : Jvm.MethodName)) ∈ mBG := mem_t2 (i := 103) rfl rfl
theorem tw_2_104 : (Jvm.Cond.methodLink "KnowsBetter$Round" (64 : Nat) ({ cls := "java/lang/Math", name := "abs", desc := "(I)I" } : Jvm.MethodName)) ∈ mBG := mem_t2 (i := 104) rfl rfl
theorem tw_2_105 : (Jvm.Cond.static ({ cls := "java/lang/Math", name := "abs", desc := "(I)I" } : Jvm.MethodName)) ∈ mBG := mem_t2 (i := 105) rfl rfl
theorem tw_2_106 : (Jvm.Cond.code ({ cls := "java/lang/Math", name := "abs", desc := "(I)I" } : Jvm.MethodName) prog_12_method_59_code (1 : Nat) (Option.some Jvm.ClassFile.FieldType.int)) ∈ mBG := mem_t2 (i := 106) rfl rfl
theorem tw_2_107 : (Jvm.Cond.methodLink "KnowsBetter$Round" (69 : Nat) ({ cls := "java/lang/Math", name := "min", desc := "(II)I" } : Jvm.MethodName)) ∈ mBG := mem_t2 (i := 107) rfl rfl
theorem tw_2_108 : (Jvm.Cond.static ({ cls := "java/lang/Math", name := "min", desc := "(II)I" } : Jvm.MethodName)) ∈ mBG := mem_t2 (i := 108) rfl rfl
theorem tw_2_109 : (Jvm.Cond.code ({ cls := "java/lang/Math", name := "min", desc := "(II)I" } : Jvm.MethodName) prog_12_method_69_code (2 : Nat) (Option.some Jvm.ClassFile.FieldType.int)) ∈ mBG := mem_t2 (i := 109) rfl rfl
theorem tw_2_110 : (Jvm.Cond.methodLink "KnowsBetterLaw" (44 : Nat) ({ cls := "KnowsBetter", name := "say", desc := "(III)I" } : Jvm.MethodName)) ∈ mBG := mem_t2 (i := 110) rfl rfl
theorem tw_2_111 : (Jvm.Cond.instanceMethod ({ cls := "KnowsBetter", name := "say", desc := "(III)I" } : Jvm.MethodName)) ∈ mBG := mem_t2 (i := 111) rfl rfl
theorem tw_2_112 : (Jvm.Cond.selects "KnowsBetter" ({ cls := "KnowsBetter", name := "say", desc := "(III)I" } : Jvm.MethodName) ({ cls := "KnowsBetter", name := "say", desc := "(III)I" } : Jvm.MethodName)) ∈ mBG := mem_t2 (i := 112) rfl rfl
theorem tw_2_113 : (Jvm.Cond.code ({ cls := "KnowsBetter", name := "say", desc := "(III)I" } : Jvm.MethodName) prog_1_method_9_code (5 : Nat) (Option.some Jvm.ClassFile.FieldType.int)) ∈ mBG := mem_t2 (i := 113) rfl rfl
theorem tw_2_114 : (Jvm.Cond.methodLink "KnowsBetter" (132 : Nat) ({ cls := "KnowsBetter", name := "refusalToSay", desc := "(III)I" } : Jvm.MethodName)) ∈ mBG := mem_t2 (i := 114) rfl rfl
theorem tw_2_116 : (Jvm.Cond.instanceMethod ({ cls := "KnowsBetter", name := "refusalToSay", desc := "(III)I" } : Jvm.MethodName)) ∈ mBG := mem_t2 (i := 116) rfl rfl
theorem tw_2_117 : (Jvm.Cond.code ({ cls := "KnowsBetter", name := "refusalToSay", desc := "(III)I" } : Jvm.MethodName) prog_1_method_34_code (4 : Nat) (Option.some Jvm.ClassFile.FieldType.int)) ∈ mBG := mem_t2 (i := 117) rfl rfl
theorem tw_2_118 : (Jvm.Cond.methodLink "KnowsBetter" (143 : Nat) ({ cls := "KnowsBetter", name := "isFact", desc := "(I)Z" } : Jvm.MethodName)) ∈ mBG := mem_t2 (i := 118) rfl rfl
theorem tw_2_119 : (Jvm.Cond.static ({ cls := "KnowsBetter", name := "isFact", desc := "(I)Z" } : Jvm.MethodName)) ∈ mBG := mem_t2 (i := 119) rfl rfl
theorem tw_2_120 : (Jvm.Cond.code ({ cls := "KnowsBetter", name := "isFact", desc := "(I)Z" } : Jvm.MethodName) prog_1_method_31_code (1 : Nat) (Option.some Jvm.ClassFile.FieldType.boolean)) ∈ mBG := mem_t2 (i := 120) rfl rfl
theorem tw_2_121 : (Jvm.Cond.methodLink "KnowsBetter" (241 : Nat) ({ cls := "KnowsBetter", name := "isVoice", desc := "(I)Z" } : Jvm.MethodName)) ∈ mBG := mem_t2 (i := 121) rfl rfl
theorem tw_2_122 : (Jvm.Cond.static ({ cls := "KnowsBetter", name := "isVoice", desc := "(I)Z" } : Jvm.MethodName)) ∈ mBG := mem_t2 (i := 122) rfl rfl
theorem tw_2_123 : (Jvm.Cond.code ({ cls := "KnowsBetter", name := "isVoice", desc := "(I)Z" } : Jvm.MethodName) prog_1_method_32_code (1 : Nat) (Option.some Jvm.ClassFile.FieldType.boolean)) ∈ mBG := mem_t2 (i := 123) rfl rfl
theorem tw_2_124 : (Jvm.Cond.methodLink "KnowsBetter" (136 : Nat) ({ cls := "KnowsBetter$Acts", name := "remember", desc := "(LKnowsBetter$Round;)V" } : Jvm.MethodName)) ∈ mBG := mem_t2 (i := 124) rfl rfl
theorem tw_2_125 : (Jvm.Cond.instanceMethod ({ cls := "KnowsBetter$Acts", name := "remember", desc := "(LKnowsBetter$Round;)V" } : Jvm.MethodName)) ∈ mBG := mem_t2 (i := 125) rfl rfl
theorem tw_2_126 : (Jvm.Cond.selects "KnowsBetter$Acts" ({ cls := "KnowsBetter$Acts", name := "remember", desc := "(LKnowsBetter$Round;)V" } : Jvm.MethodName) ({ cls := "KnowsBetter$Acts", name := "remember", desc := "(LKnowsBetter$Round;)V" } : Jvm.MethodName)) ∈ mBG := mem_t2 (i := 126) rfl rfl
theorem tw_2_127 : (Jvm.Cond.code ({ cls := "KnowsBetter$Acts", name := "remember", desc := "(LKnowsBetter$Round;)V" } : Jvm.MethodName) prog_2_method_4_code (2 : Nat) (Option.none : Option Jvm.ClassFile.FieldType)) ∈ mBG := mem_t2 (i := 127) rfl rfl
theorem tw_2_128 : (Jvm.Cond.methodLink "KnowsBetter$Acts" (27 : Nat) ({ cls := "KnowsBetter$Shelf", name := "store", desc := "(ILKnowsBetter$Round;)V" } : Jvm.MethodName)) ∈ mBG := mem_t2 (i := 128) rfl rfl
theorem tw_2_129 : (Jvm.Cond.instanceMethod ({ cls := "KnowsBetter$Shelf", name := "store", desc := "(ILKnowsBetter$Round;)V" } : Jvm.MethodName)) ∈ mBG := mem_t2 (i := 129) rfl rfl
theorem tw_2_130 : (Jvm.Cond.selects "KnowsBetter$Shelf" ({ cls := "KnowsBetter$Shelf", name := "store", desc := "(ILKnowsBetter$Round;)V" } : Jvm.MethodName) ({ cls := "KnowsBetter$Shelf", name := "store", desc := "(ILKnowsBetter$Round;)V" } : Jvm.MethodName)) ∈ mBG := mem_t2 (i := 130) rfl rfl
theorem tw_2_131 : (Jvm.Cond.code ({ cls := "KnowsBetter$Shelf", name := "store", desc := "(ILKnowsBetter$Round;)V" } : Jvm.MethodName) prog_6_method_2_code (3 : Nat) (Option.none : Option Jvm.ClassFile.FieldType)) ∈ mBG := mem_t2 (i := 131) rfl rfl
theorem tw_2_132 : (Jvm.Cond.methodLink "KnowsBetter$Shelf" (21 : Nat) ({ cls := "KnowsBetter$Row", name := "copy", desc := "(ILKnowsBetter$Row;II)V" } : Jvm.MethodName)) ∈ mBG := mem_t2 (i := 132) rfl rfl
theorem tw_2_133 : (Jvm.Cond.instanceMethod ({ cls := "KnowsBetter$Row", name := "copy", desc := "(ILKnowsBetter$Row;II)V" } : Jvm.MethodName)) ∈ mBG := mem_t2 (i := 133) rfl rfl
theorem tw_2_134 : (Jvm.Cond.selects "KnowsBetter$Row" ({ cls := "KnowsBetter$Row", name := "copy", desc := "(ILKnowsBetter$Row;II)V" } : Jvm.MethodName) ({ cls := "KnowsBetter$Row", name := "copy", desc := "(ILKnowsBetter$Row;II)V" } : Jvm.MethodName)) ∈ mBG := mem_t2 (i := 134) rfl rfl
theorem tw_2_135 : (Jvm.Cond.code ({ cls := "KnowsBetter$Row", name := "copy", desc := "(ILKnowsBetter$Row;II)V" } : Jvm.MethodName) prog_4_method_5_code (6 : Nat) (Option.none : Option Jvm.ClassFile.FieldType)) ∈ mBG := mem_t2 (i := 135) rfl rfl
theorem tw_2_136 : (Jvm.Cond.methodLink "KnowsBetter$Row" (19 : Nat) ({ cls := "KnowsBetter$Row", name := "at", desc := "(I)I" } : Jvm.MethodName)) ∈ mBG := mem_t2 (i := 136) rfl rfl
theorem tw_2_137 : (Jvm.Cond.methodLink "KnowsBetter$Row" (23 : Nat) ({ cls := "KnowsBetter$Row", name := "put", desc := "(II)V" } : Jvm.MethodName)) ∈ mBG := mem_t2 (i := 137) rfl rfl
theorem tw_2_138 : (Jvm.Cond.methodLink "KnowsBetter$Acts" (31 : Nat) ({ cls := "java/lang/Math", name := "min", desc := "(II)I" } : Jvm.MethodName)) ∈ mBG := mem_t2 (i := 138) rfl rfl
theorem tw_2_139 : (Jvm.Cond.methodLink "KnowsBetter" (140 : Nat) ({ cls := "KnowsBetter$Round", name := "lie", desc := "(III)I" } : Jvm.MethodName)) ∈ mBG := mem_t2 (i := 139) rfl rfl
theorem tw_2_140 : (Jvm.Cond.instanceMethod ({ cls := "KnowsBetter$Round", name := "lie", desc := "(III)I" } : Jvm.MethodName)) ∈ mBG := mem_t2 (i := 140) rfl rfl
theorem tw_2_141 : (Jvm.Cond.selects "KnowsBetter$Round" ({ cls := "KnowsBetter$Round", name := "lie", desc := "(III)I" } : Jvm.MethodName) ({ cls := "KnowsBetter$Round", name := "lie", desc := "(III)I" } : Jvm.MethodName)) ∈ mBG := mem_t2 (i := 141) rfl rfl
theorem tw_2_142 : (Jvm.Cond.code ({ cls := "KnowsBetter$Round", name := "lie", desc := "(III)I" } : Jvm.MethodName) prog_3_method_16_code (7 : Nat) (Option.some Jvm.ClassFile.FieldType.int)) ∈ mBG := mem_t2 (i := 142) rfl rfl
theorem tw_2_143 : (Jvm.Cond.methodLink "KnowsBetter$Round" (79 : Nat) ({ cls := "KnowsBetter$Round", name := "ears", desc := "(II)I" } : Jvm.MethodName)) ∈ mBG := mem_t2 (i := 143) rfl rfl
theorem tw_2_144 : (Jvm.Cond.instanceMethod ({ cls := "KnowsBetter$Round", name := "ears", desc := "(II)I" } : Jvm.MethodName)) ∈ mBG := mem_t2 (i := 144) rfl rfl
theorem tw_2_145 : (Jvm.Cond.selects "KnowsBetter$Round" ({ cls := "KnowsBetter$Round", name := "ears", desc := "(II)I" } : Jvm.MethodName) ({ cls := "KnowsBetter$Round", name := "ears", desc := "(II)I" } : Jvm.MethodName)) ∈ mBG := mem_t2 (i := 145) rfl rfl
theorem tw_2_146 : (Jvm.Cond.code ({ cls := "KnowsBetter$Round", name := "ears", desc := "(II)I" } : Jvm.MethodName) prog_3_method_15_code (6 : Nat) (Option.some Jvm.ClassFile.FieldType.int)) ∈ mBG := mem_t2 (i := 146) rfl rfl
theorem tw_2_147 : (Jvm.Cond.methodLink "KnowsBetter$Round" (73 : Nat) ({ cls := "KnowsBetter$Table", name := "kind", desc := "(I)I" } : Jvm.MethodName)) ∈ mBG := mem_t2 (i := 147) rfl rfl
theorem tw_2_148 : (Jvm.Cond.methodLink "KnowsBetter$Round" (76 : Nat) ({ cls := "KnowsBetter$Round", name := "distance", desc := "(II)I" } : Jvm.MethodName)) ∈ mBG := mem_t2 (i := 148) rfl rfl
theorem tw_2_149 : (Jvm.Cond.methodLink "KnowsBetter$Round" (82 : Nat) ({ cls := "KnowsBetter$Round", name := "knowers", desc := "(I)I" } : Jvm.MethodName)) ∈ mBG := mem_t2 (i := 149) rfl rfl
theorem tw_2_150 : (Jvm.Cond.instanceMethod ({ cls := "KnowsBetter$Round", name := "knowers", desc := "(I)I" } : Jvm.MethodName)) ∈ mBG := mem_t2 (i := 150) rfl rfl
theorem tw_2_151 : (Jvm.Cond.selects "KnowsBetter$Round" ({ cls := "KnowsBetter$Round", name := "knowers", desc := "(I)I" } : Jvm.MethodName) ({ cls := "KnowsBetter$Round", name := "knowers", desc := "(I)I" } : Jvm.MethodName)) ∈ mBG := mem_t2 (i := 151) rfl rfl
theorem tw_2_152 : (Jvm.Cond.code ({ cls := "KnowsBetter$Round", name := "knowers", desc := "(I)I" } : Jvm.MethodName) prog_3_method_13_code (4 : Nat) (Option.some Jvm.ClassFile.FieldType.int)) ∈ mBG := mem_t2 (i := 152) rfl rfl
theorem tw_2_154 : (Jvm.Cond.static ({ cls := "KnowsBetter", name := "contains", desc := "(II)Z" } : Jvm.MethodName)) ∈ mBG := mem_t2 (i := 154) rfl rfl
theorem tw_2_155 : (Jvm.Cond.code ({ cls := "KnowsBetter", name := "contains", desc := "(II)Z" } : Jvm.MethodName) prog_1_method_40_code (2 : Nat) (Option.some Jvm.ClassFile.FieldType.boolean)) ∈ mBG := mem_t2 (i := 155) rfl rfl
theorem tw_2_156 : (Jvm.Cond.methodLink "KnowsBetter$Round" (85 : Nat) ({ cls := "KnowsBetter$Round", name := "firstBold", desc := "(II)I" } : Jvm.MethodName)) ∈ mBG := mem_t2 (i := 156) rfl rfl
theorem tw_2_158 : (Jvm.Cond.instanceMethod ({ cls := "KnowsBetter$Round", name := "firstBold", desc := "(II)I" } : Jvm.MethodName)) ∈ mBG := mem_t2 (i := 158) rfl rfl
theorem tw_2_159 : (Jvm.Cond.code ({ cls := "KnowsBetter$Round", name := "firstBold", desc := "(II)I" } : Jvm.MethodName) prog_3_method_17_code (6 : Nat) (Option.some Jvm.ClassFile.FieldType.int)) ∈ mBG := mem_t2 (i := 159) rfl rfl
theorem tw_2_160 : (Jvm.Cond.methodLink "KnowsBetter$Round" (97 : Nat) ({ cls := "KnowsBetter$Round", name := "sitter", desc := "(I)I" } : Jvm.MethodName)) ∈ mBG := mem_t2 (i := 160) rfl rfl
theorem tw_2_162 : (Jvm.Cond.instanceMethod ({ cls := "KnowsBetter$Round", name := "sitter", desc := "(I)I" } : Jvm.MethodName)) ∈ mBG := mem_t2 (i := 162) rfl rfl
theorem tw_2_163 : (Jvm.Cond.code ({ cls := "KnowsBetter$Round", name := "sitter", desc := "(I)I" } : Jvm.MethodName) prog_3_method_18_code (3 : Nat) (Option.some Jvm.ClassFile.FieldType.int)) ∈ mBG := mem_t2 (i := 163) rfl rfl
theorem tw_2_164 : (Jvm.Cond.methodLink "KnowsBetter$Round" (88 : Nat) ({ cls := "KnowsBetter$Round", name := "fineEach", desc := "(I)V" } : Jvm.MethodName)) ∈ mBG := mem_t2 (i := 164) rfl rfl
theorem tw_2_166 : (Jvm.Cond.instanceMethod ({ cls := "KnowsBetter$Round", name := "fineEach", desc := "(I)V" } : Jvm.MethodName)) ∈ mBG := mem_t2 (i := 166) rfl rfl
theorem tw_2_167 : (Jvm.Cond.code ({ cls := "KnowsBetter$Round", name := "fineEach", desc := "(I)V" } : Jvm.MethodName) prog_3_method_19_code (4 : Nat) (Option.none : Option Jvm.ClassFile.FieldType)) ∈ mBG := mem_t2 (i := 167) rfl rfl
theorem tw_2_168 : (Jvm.Cond.methodLink "KnowsBetter$Round" (100 : Nat) ({ cls := "java/lang/Integer", name := "bitCount", desc := "(I)I" } : Jvm.MethodName)) ∈ mBG := mem_t2 (i := 168) rfl rfl
theorem tw_2_169 : (Jvm.Cond.static ({ cls := "java/lang/Integer", name := "bitCount", desc := "(I)I" } : Jvm.MethodName)) ∈ mBG := mem_t2 (i := 169) rfl rfl
theorem tw_2_170 : (Jvm.Cond.code ({ cls := "java/lang/Integer", name := "bitCount", desc := "(I)I" } : Jvm.MethodName) prog_11_method_49_code (1 : Nat) (Option.some Jvm.ClassFile.FieldType.int)) ∈ mBG := mem_t2 (i := 170) rfl rfl
theorem tw_2_171 : (Jvm.Cond.constant "java/lang/Integer" (265 : Nat) (1431655765 : Int32)) ∈ mBG := mem_t2 (i := 171) rfl rfl
theorem tw_2_172 : (Jvm.Cond.constant "java/lang/Integer" (266 : Nat) (858993459 : Int32)) ∈ mBG := mem_t2 (i := 172) rfl rfl
theorem tw_2_173 : (Jvm.Cond.constant "java/lang/Integer" (267 : Nat) (252645135 : Int32)) ∈ mBG := mem_t2 (i := 173) rfl rfl
theorem tw_2_174 : (Jvm.Cond.methodLink "KnowsBetter$Round" (94 : Nat) ({ cls := "KnowsBetter$Round", name := "fine", desc := "(II)V" } : Jvm.MethodName)) ∈ mBG := mem_t2 (i := 174) rfl rfl
theorem tw_2_176 : (Jvm.Cond.instanceMethod ({ cls := "KnowsBetter$Round", name := "fine", desc := "(II)V" } : Jvm.MethodName)) ∈ mBG := mem_t2 (i := 176) rfl rfl
theorem tw_2_177 : (Jvm.Cond.code ({ cls := "KnowsBetter$Round", name := "fine", desc := "(II)V" } : Jvm.MethodName) prog_3_method_7_code (3 : Nat) (Option.none : Option Jvm.ClassFile.FieldType)) ∈ mBG := mem_t2 (i := 177) rfl rfl
theorem tw_2_178 : (Jvm.Cond.methodLink "KnowsBetter$Round" (91 : Nat) ({ cls := "KnowsBetter$Round", name := "tellEach", desc := "(II)V" } : Jvm.MethodName)) ∈ mBG := mem_t2 (i := 178) rfl rfl
theorem tw_2_180 : (Jvm.Cond.instanceMethod ({ cls := "KnowsBetter$Round", name := "tellEach", desc := "(II)V" } : Jvm.MethodName)) ∈ mBG := mem_t2 (i := 180) rfl rfl
theorem tw_2_181 : (Jvm.Cond.code ({ cls := "KnowsBetter$Round", name := "tellEach", desc := "(II)V" } : Jvm.MethodName) prog_3_method_20_code (4 : Nat) (Option.none : Option Jvm.ClassFile.FieldType)) ∈ mBG := mem_t2 (i := 181) rfl rfl
theorem tw_2_182 : (Jvm.Cond.methodLink "KnowsBetter$Round" (105 : Nat) ({ cls := "KnowsBetter$Round", name := "setTold", desc := "(II)V" } : Jvm.MethodName)) ∈ mBG := mem_t2 (i := 182) rfl rfl
theorem tw_2_183 : (Jvm.Cond.methodLink "KnowsBetterLaw" (49 : Nat) ({ cls := "KnowsBetter", name := "teach", desc := "(II)I" } : Jvm.MethodName)) ∈ mBG := mem_t2 (i := 183) rfl rfl
theorem tw_2_184 : (Jvm.Cond.instanceMethod ({ cls := "KnowsBetter", name := "teach", desc := "(II)I" } : Jvm.MethodName)) ∈ mBG := mem_t2 (i := 184) rfl rfl
theorem tw_2_185 : (Jvm.Cond.selects "KnowsBetter" ({ cls := "KnowsBetter", name := "teach", desc := "(II)I" } : Jvm.MethodName) ({ cls := "KnowsBetter", name := "teach", desc := "(II)I" } : Jvm.MethodName)) ∈ mBG := mem_t2 (i := 185) rfl rfl
theorem tw_2_186 : (Jvm.Cond.code ({ cls := "KnowsBetter", name := "teach", desc := "(II)I" } : Jvm.MethodName) prog_1_method_10_code (3 : Nat) (Option.some Jvm.ClassFile.FieldType.int)) ∈ mBG := mem_t2 (i := 186) rfl rfl
theorem tw_2_187 : (Jvm.Cond.methodLink "KnowsBetter" (146 : Nat) ({ cls := "KnowsBetter", name := "contains", desc := "(II)Z" } : Jvm.MethodName)) ∈ mBG := mem_t2 (i := 187) rfl rfl
theorem tw_2_188 : (Jvm.Cond.methodLink "KnowsBetterLaw" (53 : Nat) ({ cls := "KnowsBetter", name := "forget", desc := "(II)I" } : Jvm.MethodName)) ∈ mBG := mem_t2 (i := 188) rfl rfl
theorem tw_2_189 : (Jvm.Cond.instanceMethod ({ cls := "KnowsBetter", name := "forget", desc := "(II)I" } : Jvm.MethodName)) ∈ mBG := mem_t2 (i := 189) rfl rfl
theorem tw_2_190 : (Jvm.Cond.selects "KnowsBetter" ({ cls := "KnowsBetter", name := "forget", desc := "(II)I" } : Jvm.MethodName) ({ cls := "KnowsBetter", name := "forget", desc := "(II)I" } : Jvm.MethodName)) ∈ mBG := mem_t2 (i := 190) rfl rfl
theorem tw_2_191 : (Jvm.Cond.code ({ cls := "KnowsBetter", name := "forget", desc := "(II)I" } : Jvm.MethodName) prog_1_method_11_code (3 : Nat) (Option.some Jvm.ClassFile.FieldType.int)) ∈ mBG := mem_t2 (i := 191) rfl rfl
theorem tw_2_192 : (Jvm.Cond.methodLink "KnowsBetterLaw" (57 : Nat) ({ cls := "KnowsBetter", name := "change", desc := "(II)I" } : Jvm.MethodName)) ∈ mBG := mem_t2 (i := 192) rfl rfl
theorem tw_2_193 : (Jvm.Cond.instanceMethod ({ cls := "KnowsBetter", name := "change", desc := "(II)I" } : Jvm.MethodName)) ∈ mBG := mem_t2 (i := 193) rfl rfl
theorem tw_2_194 : (Jvm.Cond.selects "KnowsBetter" ({ cls := "KnowsBetter", name := "change", desc := "(II)I" } : Jvm.MethodName) ({ cls := "KnowsBetter", name := "change", desc := "(II)I" } : Jvm.MethodName)) ∈ mBG := mem_t2 (i := 194) rfl rfl
theorem tw_2_195 : (Jvm.Cond.code ({ cls := "KnowsBetter", name := "change", desc := "(II)I" } : Jvm.MethodName) prog_1_method_12_code (4 : Nat) (Option.some Jvm.ClassFile.FieldType.int)) ∈ mBG := mem_t2 (i := 195) rfl rfl
theorem tw_2_196 : (Jvm.Cond.methodLink "KnowsBetterLaw" (61 : Nat) ({ cls := "KnowsBetter", name := "undo", desc := "()I" } : Jvm.MethodName)) ∈ mBG := mem_t2 (i := 196) rfl rfl
theorem tw_2_197 : (Jvm.Cond.instanceMethod ({ cls := "KnowsBetter", name := "undo", desc := "()I" } : Jvm.MethodName)) ∈ mBG := mem_t2 (i := 197) rfl rfl
theorem tw_2_198 : (Jvm.Cond.selects "KnowsBetter" ({ cls := "KnowsBetter", name := "undo", desc := "()I" } : Jvm.MethodName) ({ cls := "KnowsBetter", name := "undo", desc := "()I" } : Jvm.MethodName)) ∈ mBG := mem_t2 (i := 198) rfl rfl
theorem tw_2_199 : (Jvm.Cond.code ({ cls := "KnowsBetter", name := "undo", desc := "()I" } : Jvm.MethodName) prog_1_method_13_code (1 : Nat) (Option.some Jvm.ClassFile.FieldType.int)) ∈ mBG := mem_t2 (i := 199) rfl rfl
theorem tw_2_200 : (Jvm.Cond.methodLink "KnowsBetter" (157 : Nat) ({ cls := "KnowsBetter$Acts", name := "takeBack", desc := "(LKnowsBetter$Round;)I" } : Jvm.MethodName)) ∈ mBG := mem_t2 (i := 200) rfl rfl
theorem tw_2_201 : (Jvm.Cond.instanceMethod ({ cls := "KnowsBetter$Acts", name := "takeBack", desc := "(LKnowsBetter$Round;)I" } : Jvm.MethodName)) ∈ mBG := mem_t2 (i := 201) rfl rfl
theorem tw_2_202 : (Jvm.Cond.selects "KnowsBetter$Acts" ({ cls := "KnowsBetter$Acts", name := "takeBack", desc := "(LKnowsBetter$Round;)I" } : Jvm.MethodName) ({ cls := "KnowsBetter$Acts", name := "takeBack", desc := "(LKnowsBetter$Round;)I" } : Jvm.MethodName)) ∈ mBG := mem_t2 (i := 202) rfl rfl
theorem tw_2_203 : (Jvm.Cond.code ({ cls := "KnowsBetter$Acts", name := "takeBack", desc := "(LKnowsBetter$Round;)I" } : Jvm.MethodName) prog_2_method_5_code (2 : Nat) (Option.some Jvm.ClassFile.FieldType.int)) ∈ mBG := mem_t2 (i := 203) rfl rfl
theorem tw_2_204 : (Jvm.Cond.methodLink "KnowsBetter$Acts" (37 : Nat) ({ cls := "KnowsBetter$Shelf", name := "fetch", desc := "(ILKnowsBetter$Round;)V" } : Jvm.MethodName)) ∈ mBG := mem_t2 (i := 204) rfl rfl
theorem tw_2_205 : (Jvm.Cond.instanceMethod ({ cls := "KnowsBetter$Shelf", name := "fetch", desc := "(ILKnowsBetter$Round;)V" } : Jvm.MethodName)) ∈ mBG := mem_t2 (i := 205) rfl rfl
theorem tw_2_206 : (Jvm.Cond.selects "KnowsBetter$Shelf" ({ cls := "KnowsBetter$Shelf", name := "fetch", desc := "(ILKnowsBetter$Round;)V" } : Jvm.MethodName) ({ cls := "KnowsBetter$Shelf", name := "fetch", desc := "(ILKnowsBetter$Round;)V" } : Jvm.MethodName)) ∈ mBG := mem_t2 (i := 206) rfl rfl
theorem tw_2_207 : (Jvm.Cond.code ({ cls := "KnowsBetter$Shelf", name := "fetch", desc := "(ILKnowsBetter$Round;)V" } : Jvm.MethodName) prog_6_method_3_code (3 : Nat) (Option.none : Option Jvm.ClassFile.FieldType)) ∈ mBG := mem_t2 (i := 207) rfl rfl
theorem tw_2_208 : (Jvm.Cond.methodLink "KnowsBetterLaw" (65 : Nat) ({ cls := "KnowsBetter", name := "hearers", desc := "(II)I" } : Jvm.MethodName)) ∈ mBG := mem_t2 (i := 208) rfl rfl
theorem tw_2_209 : (Jvm.Cond.instanceMethod ({ cls := "KnowsBetter", name := "hearers", desc := "(II)I" } : Jvm.MethodName)) ∈ mBG := mem_t2 (i := 209) rfl rfl
theorem tw_2_210 : (Jvm.Cond.selects "KnowsBetter" ({ cls := "KnowsBetter", name := "hearers", desc := "(II)I" } : Jvm.MethodName) ({ cls := "KnowsBetter", name := "hearers", desc := "(II)I" } : Jvm.MethodName)) ∈ mBG := mem_t2 (i := 210) rfl rfl
theorem tw_2_211 : (Jvm.Cond.code ({ cls := "KnowsBetter", name := "hearers", desc := "(II)I" } : Jvm.MethodName) prog_1_method_14_code (4 : Nat) (Option.some Jvm.ClassFile.FieldType.int)) ∈ mBG := mem_t2 (i := 211) rfl rfl
theorem tw_2_212 : (Jvm.Cond.methodLink "KnowsBetter" (161 : Nat) ({ cls := "KnowsBetter$Round", name := "ears", desc := "(II)I" } : Jvm.MethodName)) ∈ mBG := mem_t2 (i := 212) rfl rfl
theorem tw_2_213 : (Jvm.Cond.methodLink "KnowsBetterLaw" (69 : Nat) ({ cls := "KnowsBetter", name := "safe", desc := "(II)I" } : Jvm.MethodName)) ∈ mBG := mem_t2 (i := 213) rfl rfl
theorem tw_2_214 : (Jvm.Cond.instanceMethod ({ cls := "KnowsBetter", name := "safe", desc := "(II)I" } : Jvm.MethodName)) ∈ mBG := mem_t2 (i := 214) rfl rfl
theorem tw_2_215 : (Jvm.Cond.selects "KnowsBetter" ({ cls := "KnowsBetter", name := "safe", desc := "(II)I" } : Jvm.MethodName) ({ cls := "KnowsBetter", name := "safe", desc := "(II)I" } : Jvm.MethodName)) ∈ mBG := mem_t2 (i := 215) rfl rfl
theorem tw_2_216 : (Jvm.Cond.code ({ cls := "KnowsBetter", name := "safe", desc := "(II)I" } : Jvm.MethodName) prog_1_method_15_code (7 : Nat) (Option.some Jvm.ClassFile.FieldType.int)) ∈ mBG := mem_t2 (i := 216) rfl rfl
theorem tw_2_217 : (Jvm.Cond.methodLink "KnowsBetterLaw" (73 : Nat) ({ cls := "KnowsBetter", name := "seating", desc := "(IIIZZ)I" } : Jvm.MethodName)) ∈ mBG := mem_t2 (i := 217) rfl rfl
theorem tw_2_218 : (Jvm.Cond.instanceMethod ({ cls := "KnowsBetter", name := "seating", desc := "(IIIZZ)I" } : Jvm.MethodName)) ∈ mBG := mem_t2 (i := 218) rfl rfl
theorem tw_2_219 : (Jvm.Cond.selects "KnowsBetter" ({ cls := "KnowsBetter", name := "seating", desc := "(IIIZZ)I" } : Jvm.MethodName) ({ cls := "KnowsBetter", name := "seating", desc := "(IIIZZ)I" } : Jvm.MethodName)) ∈ mBG := mem_t2 (i := 219) rfl rfl
theorem tw_2_220 : (Jvm.Cond.code ({ cls := "KnowsBetter", name := "seating", desc := "(IIIZZ)I" } : Jvm.MethodName) prog_1_method_16_code (13 : Nat) (Option.some Jvm.ClassFile.FieldType.int)) ∈ mBG := mem_t2 (i := 220) rfl rfl
theorem tw_2_221 : (Jvm.Cond.methodLink "KnowsBetter" (164 : Nat) ({ cls := "KnowsBetter$Round", name := "become", desc := "(LKnowsBetter$Round;)V" } : Jvm.MethodName)) ∈ mBG := mem_t2 (i := 221) rfl rfl
theorem tw_2_222 : (Jvm.Cond.instanceMethod ({ cls := "KnowsBetter$Round", name := "become", desc := "(LKnowsBetter$Round;)V" } : Jvm.MethodName)) ∈ mBG := mem_t2 (i := 222) rfl rfl
theorem tw_2_223 : (Jvm.Cond.selects "KnowsBetter$Round" ({ cls := "KnowsBetter$Round", name := "become", desc := "(LKnowsBetter$Round;)V" } : Jvm.MethodName) ({ cls := "KnowsBetter$Round", name := "become", desc := "(LKnowsBetter$Round;)V" } : Jvm.MethodName)) ∈ mBG := mem_t2 (i := 223) rfl rfl
theorem tw_2_224 : (Jvm.Cond.code ({ cls := "KnowsBetter$Round", name := "become", desc := "(LKnowsBetter$Round;)V" } : Jvm.MethodName) prog_3_method_9_code (2 : Nat) (Option.none : Option Jvm.ClassFile.FieldType)) ∈ mBG := mem_t2 (i := 224) rfl rfl
theorem tw_2_225 : (Jvm.Cond.methodLink "KnowsBetter$Round" (38 : Nat) ({ cls := "KnowsBetter$Row", name := "copy", desc := "(ILKnowsBetter$Row;II)V" } : Jvm.MethodName)) ∈ mBG := mem_t2 (i := 225) rfl rfl
theorem tw_2_226 : (Jvm.Cond.methodLink "KnowsBetter" (167 : Nat) ({ cls := "KnowsBetter$Round", name := "knowers", desc := "(I)I" } : Jvm.MethodName)) ∈ mBG := mem_t2 (i := 226) rfl rfl
theorem tw_2_227 : (Jvm.Cond.methodLink "KnowsBetter" (170 : Nat) ({ cls := "KnowsBetter", name := "factorial", desc := "(I)I" } : Jvm.MethodName)) ∈ mBG := mem_t2 (i := 227) rfl rfl
theorem tw_2_228 : (Jvm.Cond.static ({ cls := "KnowsBetter", name := "factorial", desc := "(I)I" } : Jvm.MethodName)) ∈ mBG := mem_t2 (i := 228) rfl rfl
theorem tw_2_229 : (Jvm.Cond.code ({ cls := "KnowsBetter", name := "factorial", desc := "(I)I" } : Jvm.MethodName) prog_1_method_42_code (3 : Nat) (Option.some Jvm.ClassFile.FieldType.int)) ∈ mBG := mem_t2 (i := 229) rfl rfl
theorem tw_2_230 : (Jvm.Cond.methodLink "KnowsBetter" (173 : Nat) ({ cls := "KnowsBetter$Round", name := "sitInOrder", desc := "(I)V" } : Jvm.MethodName)) ∈ mBG := mem_t2 (i := 230) rfl rfl
theorem tw_2_231 : (Jvm.Cond.instanceMethod ({ cls := "KnowsBetter$Round", name := "sitInOrder", desc := "(I)V" } : Jvm.MethodName)) ∈ mBG := mem_t2 (i := 231) rfl rfl
theorem tw_2_232 : (Jvm.Cond.selects "KnowsBetter$Round" ({ cls := "KnowsBetter$Round", name := "sitInOrder", desc := "(I)V" } : Jvm.MethodName) ({ cls := "KnowsBetter$Round", name := "sitInOrder", desc := "(I)V" } : Jvm.MethodName)) ∈ mBG := mem_t2 (i := 232) rfl rfl
theorem tw_2_233 : (Jvm.Cond.code ({ cls := "KnowsBetter$Round", name := "sitInOrder", desc := "(I)V" } : Jvm.MethodName) prog_3_method_21_code (9 : Nat) (Option.none : Option Jvm.ClassFile.FieldType)) ∈ mBG := mem_t2 (i := 233) rfl rfl
theorem tw_2_235 : (Jvm.Cond.methodLink "KnowsBetter$Round" (111 : Nat) ({ cls := "java/lang/Math", name := "max", desc := "(II)I" } : Jvm.MethodName)) ∈ mBG := mem_t2 (i := 235) rfl rfl
theorem tw_2_236 : (Jvm.Cond.methodLink "KnowsBetter$Round" (114 : Nat) ({ cls := "KnowsBetter$Round", name := "member", desc := "(II)I" } : Jvm.MethodName)) ∈ mBG := mem_t2 (i := 236) rfl rfl
theorem tw_2_238 : (Jvm.Cond.instanceMethod ({ cls := "KnowsBetter$Round", name := "member", desc := "(II)I" } : Jvm.MethodName)) ∈ mBG := mem_t2 (i := 238) rfl rfl
theorem tw_2_239 : (Jvm.Cond.code ({ cls := "KnowsBetter$Round", name := "member", desc := "(II)I" } : Jvm.MethodName) prog_3_method_22_code (5 : Nat) (Option.some Jvm.ClassFile.FieldType.int)) ∈ mBG := mem_t2 (i := 239) rfl rfl
theorem tw_3_0 : (Jvm.Cond.methodLink "KnowsBetter$Round" (117 : Nat) ({ cls := "KnowsBetter$Round", name := "setSeat", desc := "(II)V" } : Jvm.MethodName)) ∈ mBG := mem_t3 (i := 0) rfl rfl
theorem tw_3_1 : (Jvm.Cond.methodLink "KnowsBetter" (176 : Nat) ({ cls := "java/lang/Integer", name := "bitCount", desc := "(I)I" } : Jvm.MethodName)) ∈ mBG := mem_t3 (i := 1) rfl rfl
theorem tw_3_2 : (Jvm.Cond.methodLink "KnowsBetter" (181 : Nat) ({ cls := "KnowsBetter$Round", name := "seatFigures", desc := "()I" } : Jvm.MethodName)) ∈ mBG := mem_t3 (i := 2) rfl rfl
theorem tw_3_3 : (Jvm.Cond.instanceMethod ({ cls := "KnowsBetter$Round", name := "seatFigures", desc := "()I" } : Jvm.MethodName)) ∈ mBG := mem_t3 (i := 3) rfl rfl
theorem tw_3_4 : (Jvm.Cond.selects "KnowsBetter$Round" ({ cls := "KnowsBetter$Round", name := "seatFigures", desc := "()I" } : Jvm.MethodName) ({ cls := "KnowsBetter$Round", name := "seatFigures", desc := "()I" } : Jvm.MethodName)) ∈ mBG := mem_t3 (i := 4) rfl rfl
theorem tw_3_5 : (Jvm.Cond.code ({ cls := "KnowsBetter$Round", name := "seatFigures", desc := "()I" } : Jvm.MethodName) prog_3_method_23_code (3 : Nat) (Option.some Jvm.ClassFile.FieldType.int)) ∈ mBG := mem_t3 (i := 5) rfl rfl
theorem tw_3_6 : (Jvm.Cond.methodLink "KnowsBetterLaw" (78 : Nat) ({ cls := "KnowsBetter", name := "keepFrom", desc := "(II)I" } : Jvm.MethodName)) ∈ mBG := mem_t3 (i := 6) rfl rfl
theorem tw_3_7 : (Jvm.Cond.instanceMethod ({ cls := "KnowsBetter", name := "keepFrom", desc := "(II)I" } : Jvm.MethodName)) ∈ mBG := mem_t3 (i := 7) rfl rfl
theorem tw_3_8 : (Jvm.Cond.selects "KnowsBetter" ({ cls := "KnowsBetter", name := "keepFrom", desc := "(II)I" } : Jvm.MethodName) ({ cls := "KnowsBetter", name := "keepFrom", desc := "(II)I" } : Jvm.MethodName)) ∈ mBG := mem_t3 (i := 8) rfl rfl
theorem tw_3_9 : (Jvm.Cond.code ({ cls := "KnowsBetter", name := "keepFrom", desc := "(II)I" } : Jvm.MethodName) prog_1_method_17_code (7 : Nat) (Option.some Jvm.ClassFile.FieldType.int)) ∈ mBG := mem_t3 (i := 9) rfl rfl
theorem tw_3_10 : (Jvm.Cond.methodLink "KnowsBetter" (184 : Nat) ({ cls := "KnowsBetter$Table", name := "closure", desc := "(I)I" } : Jvm.MethodName)) ∈ mBG := mem_t3 (i := 10) rfl rfl
theorem tw_3_11 : (Jvm.Cond.methodLink "KnowsBetter" (187 : Nat) ({ cls := "KnowsBetter", name := "isSmaller", desc := "(II)Z" } : Jvm.MethodName)) ∈ mBG := mem_t3 (i := 11) rfl rfl
theorem tw_3_12 : (Jvm.Cond.static ({ cls := "KnowsBetter", name := "isSmaller", desc := "(II)Z" } : Jvm.MethodName)) ∈ mBG := mem_t3 (i := 12) rfl rfl
theorem tw_3_13 : (Jvm.Cond.code ({ cls := "KnowsBetter", name := "isSmaller", desc := "(II)Z" } : Jvm.MethodName) prog_1_method_41_code (2 : Nat) (Option.some Jvm.ClassFile.FieldType.boolean)) ∈ mBG := mem_t3 (i := 13) rfl rfl
theorem tw_3_14 : (Jvm.Cond.methodLink "KnowsBetterLaw" (82 : Nat) ({ cls := "KnowsBetter", name := "learn", desc := "(II)I" } : Jvm.MethodName)) ∈ mBG := mem_t3 (i := 14) rfl rfl
theorem tw_3_15 : (Jvm.Cond.instanceMethod ({ cls := "KnowsBetter", name := "learn", desc := "(II)I" } : Jvm.MethodName)) ∈ mBG := mem_t3 (i := 15) rfl rfl
theorem tw_3_16 : (Jvm.Cond.selects "KnowsBetter" ({ cls := "KnowsBetter", name := "learn", desc := "(II)I" } : Jvm.MethodName) ({ cls := "KnowsBetter", name := "learn", desc := "(II)I" } : Jvm.MethodName)) ∈ mBG := mem_t3 (i := 16) rfl rfl
theorem tw_3_17 : (Jvm.Cond.code ({ cls := "KnowsBetter", name := "learn", desc := "(II)I" } : Jvm.MethodName) prog_1_method_18_code (7 : Nat) (Option.some Jvm.ClassFile.FieldType.int)) ∈ mBG := mem_t3 (i := 17) rfl rfl
theorem tw_3_18 : (Jvm.Cond.methodLink "KnowsBetterLaw" (86 : Nat) ({ cls := "KnowsBetter", name := "judge", desc := "(II)I" } : Jvm.MethodName)) ∈ mBG := mem_t3 (i := 18) rfl rfl
theorem tw_3_19 : (Jvm.Cond.instanceMethod ({ cls := "KnowsBetter", name := "judge", desc := "(II)I" } : Jvm.MethodName)) ∈ mBG := mem_t3 (i := 19) rfl rfl
theorem tw_3_20 : (Jvm.Cond.selects "KnowsBetter" ({ cls := "KnowsBetter", name := "judge", desc := "(II)I" } : Jvm.MethodName) ({ cls := "KnowsBetter", name := "judge", desc := "(II)I" } : Jvm.MethodName)) ∈ mBG := mem_t3 (i := 20) rfl rfl
theorem tw_3_21 : (Jvm.Cond.code ({ cls := "KnowsBetter", name := "judge", desc := "(II)I" } : Jvm.MethodName) prog_1_method_19_code (6 : Nat) (Option.some Jvm.ClassFile.FieldType.int)) ∈ mBG := mem_t3 (i := 21) rfl rfl
theorem tw_3_22 : (Jvm.Cond.methodLink "KnowsBetter" (190 : Nat) ({ cls := "KnowsBetter", name := "thousands", desc := "(I)I" } : Jvm.MethodName)) ∈ mBG := mem_t3 (i := 22) rfl rfl
theorem tw_3_23 : (Jvm.Cond.static ({ cls := "KnowsBetter", name := "thousands", desc := "(I)I" } : Jvm.MethodName)) ∈ mBG := mem_t3 (i := 23) rfl rfl
theorem tw_3_24 : (Jvm.Cond.code ({ cls := "KnowsBetter", name := "thousands", desc := "(I)I" } : Jvm.MethodName) prog_1_method_44_code (1 : Nat) (Option.some Jvm.ClassFile.FieldType.int)) ∈ mBG := mem_t3 (i := 24) rfl rfl
theorem tw_3_25 : (Jvm.Cond.methodLink "KnowsBetter" (220 : Nat) ({ cls := "KnowsBetter", name := "power", desc := "(II)I" } : Jvm.MethodName)) ∈ mBG := mem_t3 (i := 25) rfl rfl
theorem tw_3_26 : (Jvm.Cond.static ({ cls := "KnowsBetter", name := "power", desc := "(II)I" } : Jvm.MethodName)) ∈ mBG := mem_t3 (i := 26) rfl rfl
theorem tw_3_27 : (Jvm.Cond.code ({ cls := "KnowsBetter", name := "power", desc := "(II)I" } : Jvm.MethodName) prog_1_method_43_code (4 : Nat) (Option.some Jvm.ClassFile.FieldType.int)) ∈ mBG := mem_t3 (i := 27) rfl rfl
theorem tw_3_28 : (Jvm.Cond.methodLink "KnowsBetter" (193 : Nat) ({ cls := "java/lang/Math", name := "max", desc := "(II)I" } : Jvm.MethodName)) ∈ mBG := mem_t3 (i := 28) rfl rfl
theorem tw_3_29 : (Jvm.Cond.methodLink "KnowsBetter" (198 : Nat) ({ cls := "KnowsBetter", name := "isPutRight", desc := "(III)Z" } : Jvm.MethodName)) ∈ mBG := mem_t3 (i := 29) rfl rfl
theorem tw_3_31 : (Jvm.Cond.instanceMethod ({ cls := "KnowsBetter", name := "isPutRight", desc := "(III)Z" } : Jvm.MethodName)) ∈ mBG := mem_t3 (i := 31) rfl rfl
theorem tw_3_32 : (Jvm.Cond.code ({ cls := "KnowsBetter", name := "isPutRight", desc := "(III)Z" } : Jvm.MethodName) prog_1_method_36_code (4 : Nat) (Option.some Jvm.ClassFile.FieldType.boolean)) ∈ mBG := mem_t3 (i := 32) rfl rfl
theorem tw_3_33 : (Jvm.Cond.methodLink "KnowsBetterLaw" (90 : Nat) ({ cls := "KnowsBetter", name := "share", desc := "(IZ)I" } : Jvm.MethodName)) ∈ mBG := mem_t3 (i := 33) rfl rfl
theorem tw_3_34 : (Jvm.Cond.instanceMethod ({ cls := "KnowsBetter", name := "share", desc := "(IZ)I" } : Jvm.MethodName)) ∈ mBG := mem_t3 (i := 34) rfl rfl
theorem tw_3_35 : (Jvm.Cond.selects "KnowsBetter" ({ cls := "KnowsBetter", name := "share", desc := "(IZ)I" } : Jvm.MethodName) ({ cls := "KnowsBetter", name := "share", desc := "(IZ)I" } : Jvm.MethodName)) ∈ mBG := mem_t3 (i := 35) rfl rfl
theorem tw_3_36 : (Jvm.Cond.code ({ cls := "KnowsBetter", name := "share", desc := "(IZ)I" } : Jvm.MethodName) prog_1_method_20_code (8 : Nat) (Option.some Jvm.ClassFile.FieldType.int)) ∈ mBG := mem_t3 (i := 36) rfl rfl
theorem tw_3_37 : (Jvm.Cond.methodLink "KnowsBetter" (202 : Nat) ({ cls := "KnowsBetter", name := "factsTogether", desc := "(I)I" } : Jvm.MethodName)) ∈ mBG := mem_t3 (i := 37) rfl rfl
theorem tw_3_39 : (Jvm.Cond.instanceMethod ({ cls := "KnowsBetter", name := "factsTogether", desc := "(I)I" } : Jvm.MethodName)) ∈ mBG := mem_t3 (i := 39) rfl rfl
theorem tw_3_40 : (Jvm.Cond.code ({ cls := "KnowsBetter", name := "factsTogether", desc := "(I)I" } : Jvm.MethodName) prog_1_method_37_code (4 : Nat) (Option.some Jvm.ClassFile.FieldType.int)) ∈ mBG := mem_t3 (i := 40) rfl rfl
theorem tw_3_41 : (Jvm.Cond.methodLink "KnowsBetter" (205 : Nat) ({ cls := "KnowsBetter", name := "lowestTerm", desc := "(IIZ)I" } : Jvm.MethodName)) ∈ mBG := mem_t3 (i := 41) rfl rfl
theorem tw_3_42 : (Jvm.Cond.static ({ cls := "KnowsBetter", name := "lowestTerm", desc := "(IIZ)I" } : Jvm.MethodName)) ∈ mBG := mem_t3 (i := 42) rfl rfl
theorem tw_3_43 : (Jvm.Cond.code ({ cls := "KnowsBetter", name := "lowestTerm", desc := "(IIZ)I" } : Jvm.MethodName) prog_1_method_45_code (4 : Nat) (Option.some Jvm.ClassFile.FieldType.int)) ∈ mBG := mem_t3 (i := 43) rfl rfl
theorem tw_3_44 : (Jvm.Cond.methodLink "KnowsBetter" (256 : Nat) ({ cls := "KnowsBetter", name := "commonDivisor", desc := "(II)I" } : Jvm.MethodName)) ∈ mBG := mem_t3 (i := 44) rfl rfl
theorem tw_3_45 : (Jvm.Cond.static ({ cls := "KnowsBetter", name := "commonDivisor", desc := "(II)I" } : Jvm.MethodName)) ∈ mBG := mem_t3 (i := 45) rfl rfl
theorem tw_3_46 : (Jvm.Cond.code ({ cls := "KnowsBetter", name := "commonDivisor", desc := "(II)I" } : Jvm.MethodName) prog_1_method_46_code (6 : Nat) (Option.some Jvm.ClassFile.FieldType.int)) ∈ mBG := mem_t3 (i := 46) rfl rfl
theorem tw_3_47 : (Jvm.Cond.methodLink "KnowsBetterLaw" (95 : Nat) ({ cls := "KnowsBetter", name := "see", desc := "(II)I" } : Jvm.MethodName)) ∈ mBG := mem_t3 (i := 47) rfl rfl
theorem tw_3_48 : (Jvm.Cond.instanceMethod ({ cls := "KnowsBetter", name := "see", desc := "(II)I" } : Jvm.MethodName)) ∈ mBG := mem_t3 (i := 48) rfl rfl
theorem tw_3_49 : (Jvm.Cond.selects "KnowsBetter" ({ cls := "KnowsBetter", name := "see", desc := "(II)I" } : Jvm.MethodName) ({ cls := "KnowsBetter", name := "see", desc := "(II)I" } : Jvm.MethodName)) ∈ mBG := mem_t3 (i := 49) rfl rfl
theorem tw_3_50 : (Jvm.Cond.code ({ cls := "KnowsBetter", name := "see", desc := "(II)I" } : Jvm.MethodName) prog_1_method_21_code (3 : Nat) (Option.some Jvm.ClassFile.FieldType.int)) ∈ mBG := mem_t3 (i := 50) rfl rfl
theorem tw_3_51 : (Jvm.Cond.methodLink "KnowsBetter" (209 : Nat) ({ cls := "KnowsBetter$Seen", name := "add", desc := "(IZ)I" } : Jvm.MethodName)) ∈ mBG := mem_t3 (i := 51) rfl rfl
theorem tw_3_52 : (Jvm.Cond.instanceMethod ({ cls := "KnowsBetter$Seen", name := "add", desc := "(IZ)I" } : Jvm.MethodName)) ∈ mBG := mem_t3 (i := 52) rfl rfl
theorem tw_3_53 : (Jvm.Cond.selects "KnowsBetter$Seen" ({ cls := "KnowsBetter$Seen", name := "add", desc := "(IZ)I" } : Jvm.MethodName) ({ cls := "KnowsBetter$Seen", name := "add", desc := "(IZ)I" } : Jvm.MethodName)) ∈ mBG := mem_t3 (i := 53) rfl rfl
theorem tw_3_54 : (Jvm.Cond.code ({ cls := "KnowsBetter$Seen", name := "add", desc := "(IZ)I" } : Jvm.MethodName) prog_5_method_3_code (3 : Nat) (Option.some Jvm.ClassFile.FieldType.int)) ∈ mBG := mem_t3 (i := 54) rfl rfl
theorem tw_3_55 : (Jvm.Cond.methodLink "KnowsBetterLaw" (99 : Nat) ({ cls := "KnowsBetter", name := "unsee", desc := "()I" } : Jvm.MethodName)) ∈ mBG := mem_t3 (i := 55) rfl rfl
theorem tw_3_56 : (Jvm.Cond.instanceMethod ({ cls := "KnowsBetter", name := "unsee", desc := "()I" } : Jvm.MethodName)) ∈ mBG := mem_t3 (i := 56) rfl rfl
theorem tw_3_57 : (Jvm.Cond.selects "KnowsBetter" ({ cls := "KnowsBetter", name := "unsee", desc := "()I" } : Jvm.MethodName) ({ cls := "KnowsBetter", name := "unsee", desc := "()I" } : Jvm.MethodName)) ∈ mBG := mem_t3 (i := 57) rfl rfl
theorem tw_3_58 : (Jvm.Cond.code ({ cls := "KnowsBetter", name := "unsee", desc := "()I" } : Jvm.MethodName) prog_1_method_22_code (1 : Nat) (Option.some Jvm.ClassFile.FieldType.int)) ∈ mBG := mem_t3 (i := 58) rfl rfl
theorem tw_3_59 : (Jvm.Cond.methodLink "KnowsBetter" (213 : Nat) ({ cls := "KnowsBetter$Seen", name := "clear", desc := "()I" } : Jvm.MethodName)) ∈ mBG := mem_t3 (i := 59) rfl rfl
theorem tw_3_60 : (Jvm.Cond.instanceMethod ({ cls := "KnowsBetter$Seen", name := "clear", desc := "()I" } : Jvm.MethodName)) ∈ mBG := mem_t3 (i := 60) rfl rfl
theorem tw_3_61 : (Jvm.Cond.selects "KnowsBetter$Seen" ({ cls := "KnowsBetter$Seen", name := "clear", desc := "()I" } : Jvm.MethodName) ({ cls := "KnowsBetter$Seen", name := "clear", desc := "()I" } : Jvm.MethodName)) ∈ mBG := mem_t3 (i := 61) rfl rfl
theorem tw_3_62 : (Jvm.Cond.code ({ cls := "KnowsBetter$Seen", name := "clear", desc := "()I" } : Jvm.MethodName) prog_5_method_4_code (2 : Nat) (Option.some Jvm.ClassFile.FieldType.int)) ∈ mBG := mem_t3 (i := 62) rfl rfl
theorem tw_3_63 : (Jvm.Cond.methodLink "KnowsBetterLaw" (103 : Nat) ({ cls := "KnowsBetter", name := "minds", desc := "(I)I" } : Jvm.MethodName)) ∈ mBG := mem_t3 (i := 63) rfl rfl
theorem tw_3_64 : (Jvm.Cond.instanceMethod ({ cls := "KnowsBetter", name := "minds", desc := "(I)I" } : Jvm.MethodName)) ∈ mBG := mem_t3 (i := 64) rfl rfl
theorem tw_3_65 : (Jvm.Cond.selects "KnowsBetter" ({ cls := "KnowsBetter", name := "minds", desc := "(I)I" } : Jvm.MethodName) ({ cls := "KnowsBetter", name := "minds", desc := "(I)I" } : Jvm.MethodName)) ∈ mBG := mem_t3 (i := 65) rfl rfl
theorem tw_3_66 : (Jvm.Cond.code ({ cls := "KnowsBetter", name := "minds", desc := "(I)I" } : Jvm.MethodName) prog_1_method_23_code (7 : Nat) (Option.some Jvm.ClassFile.FieldType.int)) ∈ mBG := mem_t3 (i := 66) rfl rfl
theorem tw_3_67 : (Jvm.Cond.methodLink "KnowsBetter" (214 : Nat) ({ cls := "KnowsBetter$Seen", name := "allows", desc := "(I)Z" } : Jvm.MethodName)) ∈ mBG := mem_t3 (i := 67) rfl rfl
theorem tw_3_68 : (Jvm.Cond.instanceMethod ({ cls := "KnowsBetter$Seen", name := "allows", desc := "(I)Z" } : Jvm.MethodName)) ∈ mBG := mem_t3 (i := 68) rfl rfl
theorem tw_3_69 : (Jvm.Cond.selects "KnowsBetter$Seen" ({ cls := "KnowsBetter$Seen", name := "allows", desc := "(I)Z" } : Jvm.MethodName) ({ cls := "KnowsBetter$Seen", name := "allows", desc := "(I)Z" } : Jvm.MethodName)) ∈ mBG := mem_t3 (i := 69) rfl rfl
theorem tw_3_70 : (Jvm.Cond.code ({ cls := "KnowsBetter$Seen", name := "allows", desc := "(I)Z" } : Jvm.MethodName) prog_5_method_5_code (2 : Nat) (Option.some Jvm.ClassFile.FieldType.boolean)) ∈ mBG := mem_t3 (i := 70) rfl rfl
theorem tw_3_71 : (Jvm.Cond.methodLink "KnowsBetterLaw" (107 : Nat) ({ cls := "KnowsBetter", name := "rests", desc := "(I)I" } : Jvm.MethodName)) ∈ mBG := mem_t3 (i := 71) rfl rfl
theorem tw_3_72 : (Jvm.Cond.instanceMethod ({ cls := "KnowsBetter", name := "rests", desc := "(I)I" } : Jvm.MethodName)) ∈ mBG := mem_t3 (i := 72) rfl rfl
theorem tw_3_73 : (Jvm.Cond.selects "KnowsBetter" ({ cls := "KnowsBetter", name := "rests", desc := "(I)I" } : Jvm.MethodName) ({ cls := "KnowsBetter", name := "rests", desc := "(I)I" } : Jvm.MethodName)) ∈ mBG := mem_t3 (i := 73) rfl rfl
theorem tw_3_74 : (Jvm.Cond.code ({ cls := "KnowsBetter", name := "rests", desc := "(I)I" } : Jvm.MethodName) prog_1_method_24_code (6 : Nat) (Option.some Jvm.ClassFile.FieldType.int)) ∈ mBG := mem_t3 (i := 74) rfl rfl
theorem tw_3_75 : (Jvm.Cond.methodLink "KnowsBetter" (217 : Nat) ({ cls := "KnowsBetter", name := "isBestWait", desc := "(II)Z" } : Jvm.MethodName)) ∈ mBG := mem_t3 (i := 75) rfl rfl
theorem tw_3_76 : (Jvm.Cond.static ({ cls := "KnowsBetter", name := "isBestWait", desc := "(II)Z" } : Jvm.MethodName)) ∈ mBG := mem_t3 (i := 76) rfl rfl
theorem tw_3_77 : (Jvm.Cond.code ({ cls := "KnowsBetter", name := "isBestWait", desc := "(II)Z" } : Jvm.MethodName) prog_1_method_38_code (3 : Nat) (Option.some Jvm.ClassFile.FieldType.boolean)) ∈ mBG := mem_t3 (i := 77) rfl rfl
theorem tw_3_78 : (Jvm.Cond.methodLink "KnowsBetter" (250 : Nat) ({ cls := "KnowsBetter", name := "waitCost", desc := "(II)I" } : Jvm.MethodName)) ∈ mBG := mem_t3 (i := 78) rfl rfl
theorem tw_3_79 : (Jvm.Cond.static ({ cls := "KnowsBetter", name := "waitCost", desc := "(II)I" } : Jvm.MethodName)) ∈ mBG := mem_t3 (i := 79) rfl rfl
theorem tw_3_80 : (Jvm.Cond.code ({ cls := "KnowsBetter", name := "waitCost", desc := "(II)I" } : Jvm.MethodName) prog_1_method_39_code (2 : Nat) (Option.some Jvm.ClassFile.FieldType.int)) ∈ mBG := mem_t3 (i := 80) rfl rfl
theorem tw_3_81 : (Jvm.Cond.methodLink "KnowsBetter" (253 : Nat) ({ cls := "java/lang/Math", name := "min", desc := "(II)I" } : Jvm.MethodName)) ∈ mBG := mem_t3 (i := 81) rfl rfl
theorem tw_3_82 : (Jvm.Cond.methodLink "KnowsBetterLaw" (111 : Nat) ({ cls := "KnowsBetter", name := "deaf", desc := "(IIIIZ)I" } : Jvm.MethodName)) ∈ mBG := mem_t3 (i := 82) rfl rfl
theorem tw_3_83 : (Jvm.Cond.instanceMethod ({ cls := "KnowsBetter", name := "deaf", desc := "(IIIIZ)I" } : Jvm.MethodName)) ∈ mBG := mem_t3 (i := 83) rfl rfl
theorem tw_3_84 : (Jvm.Cond.selects "KnowsBetter" ({ cls := "KnowsBetter", name := "deaf", desc := "(IIIIZ)I" } : Jvm.MethodName) ({ cls := "KnowsBetter", name := "deaf", desc := "(IIIIZ)I" } : Jvm.MethodName)) ∈ mBG := mem_t3 (i := 84) rfl rfl
theorem tw_3_85 : (Jvm.Cond.code ({ cls := "KnowsBetter", name := "deaf", desc := "(IIIIZ)I" } : Jvm.MethodName) prog_1_method_25_code (8 : Nat) (Option.some Jvm.ClassFile.FieldType.int)) ∈ mBG := mem_t3 (i := 85) rfl rfl
theorem tw_3_86 : (Jvm.Cond.methodLink "KnowsBetterLaw" (118 : Nat) ({ cls := "KnowsBetter", name := "seed", desc := "(J)J" } : Jvm.MethodName)) ∈ mBG := mem_t3 (i := 86) rfl rfl
theorem tw_3_87 : (Jvm.Cond.instanceMethod ({ cls := "KnowsBetter", name := "seed", desc := "(J)J" } : Jvm.MethodName)) ∈ mBG := mem_t3 (i := 87) rfl rfl
theorem tw_3_88 : (Jvm.Cond.selects "KnowsBetter" ({ cls := "KnowsBetter", name := "seed", desc := "(J)J" } : Jvm.MethodName) ({ cls := "KnowsBetter", name := "seed", desc := "(J)J" } : Jvm.MethodName)) ∈ mBG := mem_t3 (i := 88) rfl rfl
theorem tw_3_89 : (Jvm.Cond.code ({ cls := "KnowsBetter", name := "seed", desc := "(J)J" } : Jvm.MethodName) prog_1_method_26_code (5 : Nat) (Option.some Jvm.ClassFile.FieldType.long)) ∈ mBG := mem_t3 (i := 89) rfl rfl
theorem tw_3_90 : (Jvm.Cond.methodLink "KnowsBetterLaw" (123 : Nat) ({ cls := "KnowsBetter", name := "evenings", desc := "(I)I" } : Jvm.MethodName)) ∈ mBG := mem_t3 (i := 90) rfl rfl
theorem tw_3_91 : (Jvm.Cond.instanceMethod ({ cls := "KnowsBetter", name := "evenings", desc := "(I)I" } : Jvm.MethodName)) ∈ mBG := mem_t3 (i := 91) rfl rfl
theorem tw_3_92 : (Jvm.Cond.selects "KnowsBetter" ({ cls := "KnowsBetter", name := "evenings", desc := "(I)I" } : Jvm.MethodName) ({ cls := "KnowsBetter", name := "evenings", desc := "(I)I" } : Jvm.MethodName)) ∈ mBG := mem_t3 (i := 92) rfl rfl
theorem tw_3_93 : (Jvm.Cond.code ({ cls := "KnowsBetter", name := "evenings", desc := "(I)I" } : Jvm.MethodName) prog_1_method_27_code (6 : Nat) (Option.some Jvm.ClassFile.FieldType.int)) ∈ mBG := mem_t3 (i := 93) rfl rfl
theorem tw_3_94 : (Jvm.Cond.constantLong "KnowsBetter" (227 : Nat) (6364136223846793005 : Int64)) ∈ mBG := mem_t3 (i := 94) rfl rfl
theorem tw_3_95 : (Jvm.Cond.constantLong "KnowsBetter" (229 : Nat) (1442695040888963407 : Int64)) ∈ mBG := mem_t3 (i := 95) rfl rfl
theorem tw_3_96 : (Jvm.Cond.methodLink "KnowsBetterLaw" (127 : Nat) ({ cls := "KnowsBetter", name := "keep", desc := "(I)I" } : Jvm.MethodName)) ∈ mBG := mem_t3 (i := 96) rfl rfl
theorem tw_3_97 : (Jvm.Cond.instanceMethod ({ cls := "KnowsBetter", name := "keep", desc := "(I)I" } : Jvm.MethodName)) ∈ mBG := mem_t3 (i := 97) rfl rfl
theorem tw_3_98 : (Jvm.Cond.selects "KnowsBetter" ({ cls := "KnowsBetter", name := "keep", desc := "(I)I" } : Jvm.MethodName) ({ cls := "KnowsBetter", name := "keep", desc := "(I)I" } : Jvm.MethodName)) ∈ mBG := mem_t3 (i := 98) rfl rfl
theorem tw_3_99 : (Jvm.Cond.code ({ cls := "KnowsBetter", name := "keep", desc := "(I)I" } : Jvm.MethodName) prog_1_method_28_code (2 : Nat) (Option.some Jvm.ClassFile.FieldType.int)) ∈ mBG := mem_t3 (i := 99) rfl rfl
theorem tw_3_100 : (Jvm.Cond.methodLink "KnowsBetter" (231 : Nat) ({ cls := "KnowsBetter", name := "isSlot", desc := "(I)Z" } : Jvm.MethodName)) ∈ mBG := mem_t3 (i := 100) rfl rfl
theorem tw_3_101 : (Jvm.Cond.static ({ cls := "KnowsBetter", name := "isSlot", desc := "(I)Z" } : Jvm.MethodName)) ∈ mBG := mem_t3 (i := 101) rfl rfl
theorem tw_3_102 : (Jvm.Cond.code ({ cls := "KnowsBetter", name := "isSlot", desc := "(I)Z" } : Jvm.MethodName) prog_1_method_33_code (1 : Nat) (Option.some Jvm.ClassFile.FieldType.boolean)) ∈ mBG := mem_t3 (i := 102) rfl rfl
theorem tw_3_103 : (Jvm.Cond.methodLink "KnowsBetter" (234 : Nat) ({ cls := "KnowsBetter$Shelf", name := "store", desc := "(ILKnowsBetter$Round;)V" } : Jvm.MethodName)) ∈ mBG := mem_t3 (i := 103) rfl rfl
theorem tw_3_104 : (Jvm.Cond.methodLink "KnowsBetterLaw" (131 : Nat) ({ cls := "KnowsBetter", name := "again", desc := "(I)I" } : Jvm.MethodName)) ∈ mBG := mem_t3 (i := 104) rfl rfl
theorem tw_3_105 : (Jvm.Cond.instanceMethod ({ cls := "KnowsBetter", name := "again", desc := "(I)I" } : Jvm.MethodName)) ∈ mBG := mem_t3 (i := 105) rfl rfl
theorem tw_3_106 : (Jvm.Cond.selects "KnowsBetter" ({ cls := "KnowsBetter", name := "again", desc := "(I)I" } : Jvm.MethodName) ({ cls := "KnowsBetter", name := "again", desc := "(I)I" } : Jvm.MethodName)) ∈ mBG := mem_t3 (i := 106) rfl rfl
theorem tw_3_107 : (Jvm.Cond.code ({ cls := "KnowsBetter", name := "again", desc := "(I)I" } : Jvm.MethodName) prog_1_method_29_code (2 : Nat) (Option.some Jvm.ClassFile.FieldType.int)) ∈ mBG := mem_t3 (i := 107) rfl rfl
theorem tw_3_108 : (Jvm.Cond.methodLink "KnowsBetter" (238 : Nat) ({ cls := "KnowsBetter$Shelf", name := "fetch", desc := "(ILKnowsBetter$Round;)V" } : Jvm.MethodName)) ∈ mBG := mem_t3 (i := 108) rfl rfl
theorem tw_3_109 : (Jvm.Cond.classLink "KnowsBetterLaw" (10 : Nat) "KnowsBetterModel") ∈ mBG := mem_t3 (i := 109) rfl rfl
theorem tw_3_110 : (Jvm.Cond.instantiable "KnowsBetterModel" (31 : Nat)) ∈ mBG := mem_t3 (i := 110) rfl rfl
theorem tw_3_111 : (Jvm.Cond.methodLink "KnowsBetterLaw" (12 : Nat) ({ cls := "KnowsBetterModel", name := "<init>", desc := "()V" } : Jvm.MethodName)) ∈ mBG := mem_t3 (i := 111) rfl rfl
theorem tw_3_112 : (Jvm.Cond.instanceMethod ({ cls := "KnowsBetterModel", name := "<init>", desc := "()V" } : Jvm.MethodName)) ∈ mBG := mem_t3 (i := 112) rfl rfl
theorem tw_3_113 : (Jvm.Cond.code ({ cls := "KnowsBetterModel", name := "<init>", desc := "()V" } : Jvm.MethodName) prog_10_method_1_code (1 : Nat) (Option.none : Option Jvm.ClassFile.FieldType)) ∈ mBG := mem_t3 (i := 113) rfl rfl
theorem tw_3_114 : (Jvm.Cond.methodLink "KnowsBetterModel" (1 : Nat) ({ cls := "java/lang/Object", name := "<init>", desc := "()V" } : Jvm.MethodName)) ∈ mBG := mem_t3 (i := 114) rfl rfl
theorem tw_3_115 : (Jvm.Cond.fieldLink "KnowsBetterModel" (53 : Nat) "KnowsBetterModel" "thrown" "I") ∈ mBG := mem_t3 (i := 115) rfl rfl
theorem tw_3_116 : (Jvm.Cond.fieldLink "KnowsBetterModel" (7 : Nat) "KnowsBetterModel" "text" "[I") ∈ mBG := mem_t3 (i := 116) rfl rfl
theorem tw_3_117 : (Jvm.Cond.fieldLink "KnowsBetterModel" (68 : Nat) "KnowsBetterModel" "textSize" "I") ∈ mBG := mem_t3 (i := 117) rfl rfl
theorem tw_3_118 : (Jvm.Cond.fieldLink "KnowsBetterModel" (71 : Nat) "KnowsBetterModel" "place" "I") ∈ mBG := mem_t3 (i := 118) rfl rfl
theorem tw_3_119 : (Jvm.Cond.fieldLink "KnowsBetterModel" (57 : Nat) "KnowsBetterModel" "people" "I") ∈ mBG := mem_t3 (i := 119) rfl rfl
theorem tw_3_120 : (Jvm.Cond.fieldLink "KnowsBetterModel" (13 : Nat) "KnowsBetterModel" "kind" "[I") ∈ mBG := mem_t3 (i := 120) rfl rfl
theorem tw_3_121 : (Jvm.Cond.fieldLink "KnowsBetterModel" (98 : Nat) "KnowsBetterModel" "rules" "I") ∈ mBG := mem_t3 (i := 121) rfl rfl
theorem tw_3_122 : (Jvm.Cond.fieldLink "KnowsBetterModel" (16 : Nat) "KnowsBetterModel" "rule" "[I") ∈ mBG := mem_t3 (i := 122) rfl rfl
theorem tw_3_123 : (Jvm.Cond.fieldLink "KnowsBetterModel" (78 : Nat) "KnowsBetterModel" "readPeople" "I") ∈ mBG := mem_t3 (i := 123) rfl rfl
theorem tw_3_124 : (Jvm.Cond.fieldLink "KnowsBetterModel" (19 : Nat) "KnowsBetterModel" "readKind" "[I") ∈ mBG := mem_t3 (i := 124) rfl rfl
theorem tw_3_125 : (Jvm.Cond.fieldLink "KnowsBetterModel" (22 : Nat) "KnowsBetterModel" "readTold" "[I") ∈ mBG := mem_t3 (i := 125) rfl rfl
theorem tw_3_126 : (Jvm.Cond.fieldLink "KnowsBetterModel" (81 : Nat) "KnowsBetterModel" "readRules" "I") ∈ mBG := mem_t3 (i := 126) rfl rfl
theorem tw_3_127 : (Jvm.Cond.fieldLink "KnowsBetterModel" (25 : Nat) "KnowsBetterModel" "readRule" "[I") ∈ mBG := mem_t3 (i := 127) rfl rfl
theorem tw_3_128 : (Jvm.Cond.fieldLink "KnowsBetterModel" (28 : Nat) "KnowsBetterModel" "page" "[I") ∈ mBG := mem_t3 (i := 128) rfl rfl
theorem tw_3_129 : (Jvm.Cond.fieldLink "KnowsBetterModel" (31 : Nat) "KnowsBetterModel" "trial" "[I") ∈ mBG := mem_t3 (i := 129) rfl rfl
theorem tw_3_130 : (Jvm.Cond.fieldLink "KnowsBetterModel" (34 : Nat) "KnowsBetterModel" "book" "[I") ∈ mBG := mem_t3 (i := 130) rfl rfl
theorem tw_3_131 : (Jvm.Cond.fieldLink "KnowsBetterModel" (101 : Nat) "KnowsBetterModel" "acts" "I") ∈ mBG := mem_t3 (i := 131) rfl rfl
theorem tw_3_132 : (Jvm.Cond.fieldLink "KnowsBetterModel" (37 : Nat) "KnowsBetterModel" "kept" "[I") ∈ mBG := mem_t3 (i := 132) rfl rfl
theorem tw_3_133 : (Jvm.Cond.fieldLink "KnowsBetterModel" (40 : Nat) "KnowsBetterModel" "isKept" "[Z") ∈ mBG := mem_t3 (i := 133) rfl rfl
theorem tw_3_134 : (Jvm.Cond.fieldLink "KnowsBetterModel" (124 : Nat) "KnowsBetterModel" "seen" "I") ∈ mBG := mem_t3 (i := 134) rfl rfl
theorem tw_3_135 : (Jvm.Cond.fieldLink "KnowsBetterModel" (44 : Nat) "KnowsBetterModel" "seenFact" "[I") ∈ mBG := mem_t3 (i := 135) rfl rfl
theorem tw_3_136 : (Jvm.Cond.fieldLink "KnowsBetterModel" (47 : Nat) "KnowsBetterModel" "seenSpoke" "[I") ∈ mBG := mem_t3 (i := 136) rfl rfl
theorem tw_3_137 : (Jvm.Cond.fieldLink "KnowsBetterModel" (216 : Nat) "KnowsBetterModel" "seed" "J") ∈ mBG := mem_t3 (i := 137) rfl rfl
theorem tw_3_138 : (Jvm.Cond.fieldLink "KnowsBetterModel" (165 : Nat) "KnowsBetterModel" "seatMany" "I") ∈ mBG := mem_t3 (i := 138) rfl rfl
theorem tw_3_139 : (Jvm.Cond.fieldLink "KnowsBetterModel" (168 : Nat) "KnowsBetterModel" "seatFigures" "I") ∈ mBG := mem_t3 (i := 139) rfl rfl
theorem tw_3_140 : (Jvm.Cond.fieldLink "KnowsBetterModel" (190 : Nat) "KnowsBetterModel" "mindMany" "I") ∈ mBG := mem_t3 (i := 140) rfl rfl
theorem tw_3_141 : (Jvm.Cond.fieldLink "KnowsBetterModel" (193 : Nat) "KnowsBetterModel" "mindAll" "I") ∈ mBG := mem_t3 (i := 141) rfl rfl
theorem tw_3_142 : (Jvm.Cond.fieldLink "KnowsBetterModel" (196 : Nat) "KnowsBetterModel" "mindSome" "I") ∈ mBG := mem_t3 (i := 142) rfl rfl
theorem tw_3_143 : (Jvm.Cond.fieldLink "KnowsBetterModel" (202 : Nat) "KnowsBetterModel" "restMany" "I") ∈ mBG := mem_t3 (i := 143) rfl rfl
theorem tw_3_144 : (Jvm.Cond.fieldLink "KnowsBetterModel" (205 : Nat) "KnowsBetterModel" "restFirst" "I") ∈ mBG := mem_t3 (i := 144) rfl rfl
theorem tw_3_145 : (Jvm.Cond.fieldLink "KnowsBetterModel" (50 : Nat) "KnowsBetterModel" "value" "[I") ∈ mBG := mem_t3 (i := 145) rfl rfl
theorem tw_3_146 : (Jvm.Cond.lays "KnowsBetterModel" "KnowsBetterModel" "thrown" "I") ∈ mBG := mem_t3 (i := 146) rfl rfl
theorem tw_3_148 : (Jvm.Cond.laysFinal "KnowsBetterModel" "KnowsBetterModel" "text" "[I") ∈ mBG := mem_t3 (i := 148) rfl rfl
theorem tw_3_150 : (Jvm.Cond.lays "KnowsBetterModel" "KnowsBetterModel" "textSize" "I") ∈ mBG := mem_t3 (i := 150) rfl rfl
theorem tw_3_152 : (Jvm.Cond.lays "KnowsBetterModel" "KnowsBetterModel" "place" "I") ∈ mBG := mem_t3 (i := 152) rfl rfl
theorem tw_3_154 : (Jvm.Cond.lays "KnowsBetterModel" "KnowsBetterModel" "people" "I") ∈ mBG := mem_t3 (i := 154) rfl rfl
theorem tw_3_156 : (Jvm.Cond.laysFinal "KnowsBetterModel" "KnowsBetterModel" "kind" "[I") ∈ mBG := mem_t3 (i := 156) rfl rfl
theorem tw_3_158 : (Jvm.Cond.lays "KnowsBetterModel" "KnowsBetterModel" "rules" "I") ∈ mBG := mem_t3 (i := 158) rfl rfl
theorem tw_3_160 : (Jvm.Cond.laysFinal "KnowsBetterModel" "KnowsBetterModel" "rule" "[I") ∈ mBG := mem_t3 (i := 160) rfl rfl
theorem tw_3_162 : (Jvm.Cond.lays "KnowsBetterModel" "KnowsBetterModel" "readPeople" "I") ∈ mBG := mem_t3 (i := 162) rfl rfl
theorem tw_3_164 : (Jvm.Cond.laysFinal "KnowsBetterModel" "KnowsBetterModel" "readKind" "[I") ∈ mBG := mem_t3 (i := 164) rfl rfl
theorem tw_3_166 : (Jvm.Cond.laysFinal "KnowsBetterModel" "KnowsBetterModel" "readTold" "[I") ∈ mBG := mem_t3 (i := 166) rfl rfl
theorem tw_3_168 : (Jvm.Cond.lays "KnowsBetterModel" "KnowsBetterModel" "readRules" "I") ∈ mBG := mem_t3 (i := 168) rfl rfl
theorem tw_3_170 : (Jvm.Cond.laysFinal "KnowsBetterModel" "KnowsBetterModel" "readRule" "[I") ∈ mBG := mem_t3 (i := 170) rfl rfl
theorem tw_3_172 : (Jvm.Cond.laysFinal "KnowsBetterModel" "KnowsBetterModel" "page" "[I") ∈ mBG := mem_t3 (i := 172) rfl rfl
theorem tw_3_174 : (Jvm.Cond.laysFinal "KnowsBetterModel" "KnowsBetterModel" "trial" "[I") ∈ mBG := mem_t3 (i := 174) rfl rfl
theorem tw_3_176 : (Jvm.Cond.laysFinal "KnowsBetterModel" "KnowsBetterModel" "book" "[I") ∈ mBG := mem_t3 (i := 176) rfl rfl
theorem tw_3_178 : (Jvm.Cond.lays "KnowsBetterModel" "KnowsBetterModel" "acts" "I") ∈ mBG := mem_t3 (i := 178) rfl rfl
theorem tw_3_180 : (Jvm.Cond.laysFinal "KnowsBetterModel" "KnowsBetterModel" "kept" "[I") ∈ mBG := mem_t3 (i := 180) rfl rfl
theorem tw_3_182 : (Jvm.Cond.laysFinal "KnowsBetterModel" "KnowsBetterModel" "isKept" "[Z") ∈ mBG := mem_t3 (i := 182) rfl rfl
theorem tw_3_184 : (Jvm.Cond.lays "KnowsBetterModel" "KnowsBetterModel" "seen" "I") ∈ mBG := mem_t3 (i := 184) rfl rfl
theorem tw_3_186 : (Jvm.Cond.laysFinal "KnowsBetterModel" "KnowsBetterModel" "seenFact" "[I") ∈ mBG := mem_t3 (i := 186) rfl rfl
theorem tw_3_188 : (Jvm.Cond.laysFinal "KnowsBetterModel" "KnowsBetterModel" "seenSpoke" "[I") ∈ mBG := mem_t3 (i := 188) rfl rfl
theorem tw_3_190 : (Jvm.Cond.lays "KnowsBetterModel" "KnowsBetterModel" "seed" "J") ∈ mBG := mem_t3 (i := 190) rfl rfl
theorem tw_3_192 : (Jvm.Cond.lays "KnowsBetterModel" "KnowsBetterModel" "seatMany" "I") ∈ mBG := mem_t3 (i := 192) rfl rfl
theorem tw_3_194 : (Jvm.Cond.lays "KnowsBetterModel" "KnowsBetterModel" "seatFigures" "I") ∈ mBG := mem_t3 (i := 194) rfl rfl
theorem tw_3_196 : (Jvm.Cond.lays "KnowsBetterModel" "KnowsBetterModel" "mindMany" "I") ∈ mBG := mem_t3 (i := 196) rfl rfl
theorem tw_3_198 : (Jvm.Cond.lays "KnowsBetterModel" "KnowsBetterModel" "mindAll" "I") ∈ mBG := mem_t3 (i := 198) rfl rfl
theorem tw_3_200 : (Jvm.Cond.lays "KnowsBetterModel" "KnowsBetterModel" "mindSome" "I") ∈ mBG := mem_t3 (i := 200) rfl rfl
theorem tw_3_202 : (Jvm.Cond.lays "KnowsBetterModel" "KnowsBetterModel" "restMany" "I") ∈ mBG := mem_t3 (i := 202) rfl rfl
theorem tw_3_204 : (Jvm.Cond.lays "KnowsBetterModel" "KnowsBetterModel" "restFirst" "I") ∈ mBG := mem_t3 (i := 204) rfl rfl
theorem tw_3_206 : (Jvm.Cond.laysFinal "KnowsBetterModel" "KnowsBetterModel" "value" "[I") ∈ mBG := mem_t3 (i := 206) rfl rfl
theorem tw_3_209 : (Jvm.Cond.arrayClass Jvm.ClassFile.FieldType.boolean) ∈ mBG := mem_t3 (i := 209) rfl rfl
theorem tw_3_210 : (Jvm.Cond.methodLink "KnowsBetterLaw" (17 : Nat) ({ cls := "KnowsBetterModel", name := "write", desc := "(I)I" } : Jvm.MethodName)) ∈ mBG := mem_t3 (i := 210) rfl rfl
theorem tw_3_211 : (Jvm.Cond.instanceMethod ({ cls := "KnowsBetterModel", name := "write", desc := "(I)I" } : Jvm.MethodName)) ∈ mBG := mem_t3 (i := 211) rfl rfl
theorem tw_3_212 : (Jvm.Cond.selects "KnowsBetterModel" ({ cls := "KnowsBetterModel", name := "write", desc := "(I)I" } : Jvm.MethodName) ({ cls := "KnowsBetterModel", name := "write", desc := "(I)I" } : Jvm.MethodName)) ∈ mBG := mem_t3 (i := 212) rfl rfl
theorem tw_3_213 : (Jvm.Cond.code ({ cls := "KnowsBetterModel", name := "write", desc := "(I)I" } : Jvm.MethodName) prog_10_method_8_code (2 : Nat) (Option.some Jvm.ClassFile.FieldType.int)) ∈ mBG := mem_t3 (i := 213) rfl rfl
theorem tw_3_214 : (Jvm.Cond.constantLong "KnowsBetterModel" (66 : Nat) (255 : Int64)) ∈ mBG := mem_t3 (i := 214) rfl rfl
theorem tw_3_215 : (Jvm.Cond.methodLink "KnowsBetterModel" (60 : Nat) ({ cls := "KnowsBetterModel", name := "in", desc := "(JJJ)Z" } : Jvm.MethodName)) ∈ mBG := mem_t3 (i := 215) rfl rfl
theorem tw_3_216 : (Jvm.Cond.static ({ cls := "KnowsBetterModel", name := "in", desc := "(JJJ)Z" } : Jvm.MethodName)) ∈ mBG := mem_t3 (i := 216) rfl rfl
theorem tw_3_217 : (Jvm.Cond.code ({ cls := "KnowsBetterModel", name := "in", desc := "(JJJ)Z" } : Jvm.MethodName) prog_10_method_3_code (6 : Nat) (Option.some Jvm.ClassFile.FieldType.boolean)) ∈ mBG := mem_t3 (i := 217) rfl rfl
theorem tw_3_218 : (Jvm.Cond.methodLink "KnowsBetterLaw" (22 : Nat) ({ cls := "KnowsBetterModel", name := "wipe", desc := "()I" } : Jvm.MethodName)) ∈ mBG := mem_t3 (i := 218) rfl rfl
theorem tw_3_219 : (Jvm.Cond.instanceMethod ({ cls := "KnowsBetterModel", name := "wipe", desc := "()I" } : Jvm.MethodName)) ∈ mBG := mem_t3 (i := 219) rfl rfl
theorem tw_3_220 : (Jvm.Cond.selects "KnowsBetterModel" ({ cls := "KnowsBetterModel", name := "wipe", desc := "()I" } : Jvm.MethodName) ({ cls := "KnowsBetterModel", name := "wipe", desc := "()I" } : Jvm.MethodName)) ∈ mBG := mem_t3 (i := 220) rfl rfl
theorem tw_3_221 : (Jvm.Cond.code ({ cls := "KnowsBetterModel", name := "wipe", desc := "()I" } : Jvm.MethodName) prog_10_method_9_code (2 : Nat) (Option.some Jvm.ClassFile.FieldType.int)) ∈ mBG := mem_t3 (i := 221) rfl rfl
theorem tw_3_222 : (Jvm.Cond.methodLink "KnowsBetterLaw" (26 : Nat) ({ cls := "KnowsBetterModel", name := "fault", desc := "()I" } : Jvm.MethodName)) ∈ mBG := mem_t3 (i := 222) rfl rfl
theorem tw_3_223 : (Jvm.Cond.instanceMethod ({ cls := "KnowsBetterModel", name := "fault", desc := "()I" } : Jvm.MethodName)) ∈ mBG := mem_t3 (i := 223) rfl rfl
theorem tw_3_224 : (Jvm.Cond.selects "KnowsBetterModel" ({ cls := "KnowsBetterModel", name := "fault", desc := "()I" } : Jvm.MethodName) ({ cls := "KnowsBetterModel", name := "fault", desc := "()I" } : Jvm.MethodName)) ∈ mBG := mem_t3 (i := 224) rfl rfl
theorem tw_3_225 : (Jvm.Cond.code ({ cls := "KnowsBetterModel", name := "fault", desc := "()I" } : Jvm.MethodName) prog_10_method_15_code (1 : Nat) (Option.some Jvm.ClassFile.FieldType.int)) ∈ mBG := mem_t3 (i := 225) rfl rfl
theorem tw_3_226 : (Jvm.Cond.methodLink "KnowsBetterModel" (94 : Nat) ({ cls := "KnowsBetterModel", name := "readTable", desc := "()I" } : Jvm.MethodName)) ∈ mBG := mem_t3 (i := 226) rfl rfl
theorem tw_3_228 : (Jvm.Cond.instanceMethod ({ cls := "KnowsBetterModel", name := "readTable", desc := "()I" } : Jvm.MethodName)) ∈ mBG := mem_t3 (i := 228) rfl rfl
theorem tw_3_229 : (Jvm.Cond.code ({ cls := "KnowsBetterModel", name := "readTable", desc := "()I" } : Jvm.MethodName) prog_10_method_14_code (1 : Nat) (Option.some Jvm.ClassFile.FieldType.int)) ∈ mBG := mem_t3 (i := 229) rfl rfl
theorem tw_3_230 : (Jvm.Cond.methodLink "KnowsBetterModel" (91 : Nat) ({ cls := "KnowsBetterModel", name := "readPart", desc := "()Z" } : Jvm.MethodName)) ∈ mBG := mem_t3 (i := 230) rfl rfl
theorem tw_3_232 : (Jvm.Cond.instanceMethod ({ cls := "KnowsBetterModel", name := "readPart", desc := "()Z" } : Jvm.MethodName)) ∈ mBG := mem_t3 (i := 232) rfl rfl
theorem tw_3_233 : (Jvm.Cond.code ({ cls := "KnowsBetterModel", name := "readPart", desc := "()Z" } : Jvm.MethodName) prog_10_method_13_code (2 : Nat) (Option.some Jvm.ClassFile.FieldType.boolean)) ∈ mBG := mem_t3 (i := 233) rfl rfl
theorem tw_3_234 : (Jvm.Cond.methodLink "KnowsBetterModel" (84 : Nat) ({ cls := "KnowsBetterModel", name := "readPerson", desc := "()Z" } : Jvm.MethodName)) ∈ mBG := mem_t3 (i := 234) rfl rfl
theorem tw_3_236 : (Jvm.Cond.instanceMethod ({ cls := "KnowsBetterModel", name := "readPerson", desc := "()Z" } : Jvm.MethodName)) ∈ mBG := mem_t3 (i := 236) rfl rfl
theorem tw_3_237 : (Jvm.Cond.code ({ cls := "KnowsBetterModel", name := "readPerson", desc := "()Z" } : Jvm.MethodName) prog_10_method_11_code (4 : Nat) (Option.some Jvm.ClassFile.FieldType.boolean)) ∈ mBG := mem_t3 (i := 237) rfl rfl
theorem tw_3_238 : (Jvm.Cond.methodLink "KnowsBetterModel" (74 : Nat) ({ cls := "KnowsBetterModel", name := "sign", desc := "(II)I" } : Jvm.MethodName)) ∈ mBG := mem_t3 (i := 238) rfl rfl
theorem tw_4_0 : (Jvm.Cond.instanceMethod ({ cls := "KnowsBetterModel", name := "sign", desc := "(II)I" } : Jvm.MethodName)) ∈ mBG := mem_t4 (i := 0) rfl rfl
theorem tw_4_1 : (Jvm.Cond.code ({ cls := "KnowsBetterModel", name := "sign", desc := "(II)I" } : Jvm.MethodName) prog_10_method_10_code (3 : Nat) (Option.some Jvm.ClassFile.FieldType.int)) ∈ mBG := mem_t4 (i := 1) rfl rfl
theorem tw_4_2 : (Jvm.Cond.methodLink "KnowsBetterModel" (88 : Nat) ({ cls := "KnowsBetterModel", name := "readOne", desc := "()Z" } : Jvm.MethodName)) ∈ mBG := mem_t4 (i := 2) rfl rfl
theorem tw_4_4 : (Jvm.Cond.instanceMethod ({ cls := "KnowsBetterModel", name := "readOne", desc := "()Z" } : Jvm.MethodName)) ∈ mBG := mem_t4 (i := 4) rfl rfl
theorem tw_4_5 : (Jvm.Cond.code ({ cls := "KnowsBetterModel", name := "readOne", desc := "()Z" } : Jvm.MethodName) prog_10_method_12_code (3 : Nat) (Option.some Jvm.ClassFile.FieldType.boolean)) ∈ mBG := mem_t4 (i := 5) rfl rfl
theorem tw_4_6 : (Jvm.Cond.methodLink "KnowsBetterLaw" (30 : Nat) ({ cls := "KnowsBetterModel", name := "table", desc := "()I" } : Jvm.MethodName)) ∈ mBG := mem_t4 (i := 6) rfl rfl
theorem tw_4_7 : (Jvm.Cond.instanceMethod ({ cls := "KnowsBetterModel", name := "table", desc := "()I" } : Jvm.MethodName)) ∈ mBG := mem_t4 (i := 7) rfl rfl
theorem tw_4_8 : (Jvm.Cond.selects "KnowsBetterModel" ({ cls := "KnowsBetterModel", name := "table", desc := "()I" } : Jvm.MethodName) ({ cls := "KnowsBetterModel", name := "table", desc := "()I" } : Jvm.MethodName)) ∈ mBG := mem_t4 (i := 8) rfl rfl
theorem tw_4_9 : (Jvm.Cond.code ({ cls := "KnowsBetterModel", name := "table", desc := "()I" } : Jvm.MethodName) prog_10_method_16_code (2 : Nat) (Option.some Jvm.ClassFile.FieldType.int)) ∈ mBG := mem_t4 (i := 9) rfl rfl
theorem tw_4_10 : (Jvm.Cond.methodLink "KnowsBetterLaw" (34 : Nat) ({ cls := "KnowsBetterModel", name := "about", desc := "(I)I" } : Jvm.MethodName)) ∈ mBG := mem_t4 (i := 10) rfl rfl
theorem tw_4_11 : (Jvm.Cond.instanceMethod ({ cls := "KnowsBetterModel", name := "about", desc := "(I)I" } : Jvm.MethodName)) ∈ mBG := mem_t4 (i := 11) rfl rfl
theorem tw_4_12 : (Jvm.Cond.selects "KnowsBetterModel" ({ cls := "KnowsBetterModel", name := "about", desc := "(I)I" } : Jvm.MethodName) ({ cls := "KnowsBetterModel", name := "about", desc := "(I)I" } : Jvm.MethodName)) ∈ mBG := mem_t4 (i := 12) rfl rfl
theorem tw_4_13 : (Jvm.Cond.code ({ cls := "KnowsBetterModel", name := "about", desc := "(I)I" } : Jvm.MethodName) prog_10_method_23_code (4 : Nat) (Option.some Jvm.ClassFile.FieldType.int)) ∈ mBG := mem_t4 (i := 13) rfl rfl
theorem tw_4_14 : (Jvm.Cond.methodLink "KnowsBetterModel" (116 : Nat) ({ cls := "KnowsBetterModel", name := "closed", desc := "(I)I" } : Jvm.MethodName)) ∈ mBG := mem_t4 (i := 14) rfl rfl
theorem tw_4_16 : (Jvm.Cond.instanceMethod ({ cls := "KnowsBetterModel", name := "closed", desc := "(I)I" } : Jvm.MethodName)) ∈ mBG := mem_t4 (i := 16) rfl rfl
theorem tw_4_17 : (Jvm.Cond.code ({ cls := "KnowsBetterModel", name := "closed", desc := "(I)I" } : Jvm.MethodName) prog_10_method_17_code (6 : Nat) (Option.some Jvm.ClassFile.FieldType.int)) ∈ mBG := mem_t4 (i := 17) rfl rfl
theorem tw_4_18 : (Jvm.Cond.methodLink "KnowsBetterModel" (104 : Nat) ({ cls := "KnowsBetterModel", name := "has", desc := "(II)Z" } : Jvm.MethodName)) ∈ mBG := mem_t4 (i := 18) rfl rfl
theorem tw_4_19 : (Jvm.Cond.static ({ cls := "KnowsBetterModel", name := "has", desc := "(II)Z" } : Jvm.MethodName)) ∈ mBG := mem_t4 (i := 19) rfl rfl
theorem tw_4_20 : (Jvm.Cond.code ({ cls := "KnowsBetterModel", name := "has", desc := "(II)Z" } : Jvm.MethodName) prog_10_method_4_code (2 : Nat) (Option.some Jvm.ClassFile.FieldType.boolean)) ∈ mBG := mem_t4 (i := 20) rfl rfl
theorem tw_4_21 : (Jvm.Cond.methodLink "KnowsBetterModel" (120 : Nat) ({ cls := "KnowsBetterModel", name := "finesOf", desc := "([I)I" } : Jvm.MethodName)) ∈ mBG := mem_t4 (i := 21) rfl rfl
theorem tw_4_23 : (Jvm.Cond.instanceMethod ({ cls := "KnowsBetterModel", name := "finesOf", desc := "([I)I" } : Jvm.MethodName)) ∈ mBG := mem_t4 (i := 23) rfl rfl
theorem tw_4_24 : (Jvm.Cond.code ({ cls := "KnowsBetterModel", name := "finesOf", desc := "([I)I" } : Jvm.MethodName) prog_10_method_22_code (4 : Nat) (Option.some Jvm.ClassFile.FieldType.int)) ∈ mBG := mem_t4 (i := 24) rfl rfl
theorem tw_4_25 : (Jvm.Cond.methodLink "KnowsBetterLaw" (39 : Nat) ({ cls := "KnowsBetterModel", name := "person", desc := "(II)I" } : Jvm.MethodName)) ∈ mBG := mem_t4 (i := 25) rfl rfl
theorem tw_4_26 : (Jvm.Cond.instanceMethod ({ cls := "KnowsBetterModel", name := "person", desc := "(II)I" } : Jvm.MethodName)) ∈ mBG := mem_t4 (i := 26) rfl rfl
theorem tw_4_27 : (Jvm.Cond.selects "KnowsBetterModel" ({ cls := "KnowsBetterModel", name := "person", desc := "(II)I" } : Jvm.MethodName) ({ cls := "KnowsBetterModel", name := "person", desc := "(II)I" } : Jvm.MethodName)) ∈ mBG := mem_t4 (i := 27) rfl rfl
theorem tw_4_28 : (Jvm.Cond.code ({ cls := "KnowsBetterModel", name := "person", desc := "(II)I" } : Jvm.MethodName) prog_10_method_24_code (3 : Nat) (Option.some Jvm.ClassFile.FieldType.int)) ∈ mBG := mem_t4 (i := 28) rfl rfl
theorem tw_4_29 : (Jvm.Cond.methodLink "KnowsBetterModel" (127 : Nat) ({ cls := "KnowsBetterModel", name := "noPerson", desc := "(I)Z" } : Jvm.MethodName)) ∈ mBG := mem_t4 (i := 29) rfl rfl
theorem tw_4_31 : (Jvm.Cond.instanceMethod ({ cls := "KnowsBetterModel", name := "noPerson", desc := "(I)Z" } : Jvm.MethodName)) ∈ mBG := mem_t4 (i := 31) rfl rfl
theorem tw_4_32 : (Jvm.Cond.code ({ cls := "KnowsBetterModel", name := "noPerson", desc := "(I)Z" } : Jvm.MethodName) prog_10_method_6_code (2 : Nat) (Option.some Jvm.ClassFile.FieldType.boolean)) ∈ mBG := mem_t4 (i := 32) rfl rfl
theorem tw_4_33 : (Jvm.Cond.methodLink "KnowsBetterLaw" (43 : Nat) ({ cls := "KnowsBetterModel", name := "far", desc := "(II)I" } : Jvm.MethodName)) ∈ mBG := mem_t4 (i := 33) rfl rfl
theorem tw_4_34 : (Jvm.Cond.instanceMethod ({ cls := "KnowsBetterModel", name := "far", desc := "(II)I" } : Jvm.MethodName)) ∈ mBG := mem_t4 (i := 34) rfl rfl
theorem tw_4_35 : (Jvm.Cond.selects "KnowsBetterModel" ({ cls := "KnowsBetterModel", name := "far", desc := "(II)I" } : Jvm.MethodName) ({ cls := "KnowsBetterModel", name := "far", desc := "(II)I" } : Jvm.MethodName)) ∈ mBG := mem_t4 (i := 35) rfl rfl
theorem tw_4_36 : (Jvm.Cond.code ({ cls := "KnowsBetterModel", name := "far", desc := "(II)I" } : Jvm.MethodName) prog_10_method_25_code (3 : Nat) (Option.some Jvm.ClassFile.FieldType.int)) ∈ mBG := mem_t4 (i := 36) rfl rfl
theorem tw_4_37 : (Jvm.Cond.methodLink "KnowsBetterModel" (108 : Nat) ({ cls := "KnowsBetterModel", name := "farOf", desc := "([III)I" } : Jvm.MethodName)) ∈ mBG := mem_t4 (i := 37) rfl rfl
theorem tw_4_39 : (Jvm.Cond.instanceMethod ({ cls := "KnowsBetterModel", name := "farOf", desc := "([III)I" } : Jvm.MethodName)) ∈ mBG := mem_t4 (i := 39) rfl rfl
theorem tw_4_40 : (Jvm.Cond.code ({ cls := "KnowsBetterModel", name := "farOf", desc := "([III)I" } : Jvm.MethodName) prog_10_method_18_code (5 : Nat) (Option.some Jvm.ClassFile.FieldType.int)) ∈ mBG := mem_t4 (i := 40) rfl rfl
theorem tw_4_41 : (Jvm.Cond.methodLink "KnowsBetterLaw" (48 : Nat) ({ cls := "KnowsBetterModel", name := "say", desc := "(III)I" } : Jvm.MethodName)) ∈ mBG := mem_t4 (i := 41) rfl rfl
theorem tw_4_42 : (Jvm.Cond.instanceMethod ({ cls := "KnowsBetterModel", name := "say", desc := "(III)I" } : Jvm.MethodName)) ∈ mBG := mem_t4 (i := 42) rfl rfl
theorem tw_4_43 : (Jvm.Cond.selects "KnowsBetterModel" ({ cls := "KnowsBetterModel", name := "say", desc := "(III)I" } : Jvm.MethodName) ({ cls := "KnowsBetterModel", name := "say", desc := "(III)I" } : Jvm.MethodName)) ∈ mBG := mem_t4 (i := 43) rfl rfl
theorem tw_4_44 : (Jvm.Cond.code ({ cls := "KnowsBetterModel", name := "say", desc := "(III)I" } : Jvm.MethodName) prog_10_method_30_code (4 : Nat) (Option.some Jvm.ClassFile.FieldType.int)) ∈ mBG := mem_t4 (i := 44) rfl rfl
theorem tw_4_45 : (Jvm.Cond.methodLink "KnowsBetterModel" (148 : Nat) ({ cls := "KnowsBetterModel", name := "noFact", desc := "(I)Z" } : Jvm.MethodName)) ∈ mBG := mem_t4 (i := 45) rfl rfl
theorem tw_4_46 : (Jvm.Cond.static ({ cls := "KnowsBetterModel", name := "noFact", desc := "(I)Z" } : Jvm.MethodName)) ∈ mBG := mem_t4 (i := 46) rfl rfl
theorem tw_4_47 : (Jvm.Cond.code ({ cls := "KnowsBetterModel", name := "noFact", desc := "(I)Z" } : Jvm.MethodName) prog_10_method_7_code (1 : Nat) (Option.some Jvm.ClassFile.FieldType.boolean)) ∈ mBG := mem_t4 (i := 47) rfl rfl
theorem tw_4_48 : (Jvm.Cond.constantLong "KnowsBetterModel" (64 : Nat) (5 : Int64)) ∈ mBG := mem_t4 (i := 48) rfl rfl
theorem tw_4_49 : (Jvm.Cond.constantLong "KnowsBetterModel" (151 : Nat) (2 : Int64)) ∈ mBG := mem_t4 (i := 49) rfl rfl
theorem tw_4_50 : (Jvm.Cond.methodLink "KnowsBetterModel" (153 : Nat) ({ cls := "KnowsBetterModel", name := "note", desc := "()V" } : Jvm.MethodName)) ∈ mBG := mem_t4 (i := 50) rfl rfl
theorem tw_4_52 : (Jvm.Cond.instanceMethod ({ cls := "KnowsBetterModel", name := "note", desc := "()V" } : Jvm.MethodName)) ∈ mBG := mem_t4 (i := 52) rfl rfl
theorem tw_4_53 : (Jvm.Cond.code ({ cls := "KnowsBetterModel", name := "note", desc := "()V" } : Jvm.MethodName) prog_10_method_26_code (2 : Nat) (Option.none : Option Jvm.ClassFile.FieldType)) ∈ mBG := mem_t4 (i := 53) rfl rfl
theorem tw_4_54 : (Jvm.Cond.methodLink "KnowsBetterModel" (156 : Nat) ({ cls := "KnowsBetterModel", name := "goSay", desc := "([IIII)I" } : Jvm.MethodName)) ∈ mBG := mem_t4 (i := 54) rfl rfl
theorem tw_4_56 : (Jvm.Cond.instanceMethod ({ cls := "KnowsBetterModel", name := "goSay", desc := "([IIII)I" } : Jvm.MethodName)) ∈ mBG := mem_t4 (i := 56) rfl rfl
theorem tw_4_57 : (Jvm.Cond.code ({ cls := "KnowsBetterModel", name := "goSay", desc := "([IIII)I" } : Jvm.MethodName) prog_10_method_29_code (9 : Nat) (Option.some Jvm.ClassFile.FieldType.int)) ∈ mBG := mem_t4 (i := 57) rfl rfl
theorem tw_4_58 : (Jvm.Cond.methodLink "KnowsBetterModel" (135 : Nat) ({ cls := "KnowsBetterModel", name := "knowersOf", desc := "([IIII)I" } : Jvm.MethodName)) ∈ mBG := mem_t4 (i := 58) rfl rfl
theorem tw_4_60 : (Jvm.Cond.instanceMethod ({ cls := "KnowsBetterModel", name := "knowersOf", desc := "([IIII)I" } : Jvm.MethodName)) ∈ mBG := mem_t4 (i := 60) rfl rfl
theorem tw_4_61 : (Jvm.Cond.code ({ cls := "KnowsBetterModel", name := "knowersOf", desc := "([IIII)I" } : Jvm.MethodName) prog_10_method_21_code (7 : Nat) (Option.some Jvm.ClassFile.FieldType.int)) ∈ mBG := mem_t4 (i := 61) rfl rfl
theorem tw_4_62 : (Jvm.Cond.methodLink "KnowsBetterModel" (112 : Nat) ({ cls := "KnowsBetterModel", name := "hears", desc := "([IIII)Z" } : Jvm.MethodName)) ∈ mBG := mem_t4 (i := 62) rfl rfl
theorem tw_4_64 : (Jvm.Cond.instanceMethod ({ cls := "KnowsBetterModel", name := "hears", desc := "([IIII)Z" } : Jvm.MethodName)) ∈ mBG := mem_t4 (i := 64) rfl rfl
theorem tw_4_65 : (Jvm.Cond.code ({ cls := "KnowsBetterModel", name := "hears", desc := "([IIII)Z" } : Jvm.MethodName) prog_10_method_19_code (6 : Nat) (Option.some Jvm.ClassFile.FieldType.boolean)) ∈ mBG := mem_t4 (i := 65) rfl rfl
theorem tw_4_66 : (Jvm.Cond.methodLink "KnowsBetterModel" (139 : Nat) ({ cls := "KnowsBetterModel", name := "corrector", desc := "([III)I" } : Jvm.MethodName)) ∈ mBG := mem_t4 (i := 66) rfl rfl
theorem tw_4_68 : (Jvm.Cond.instanceMethod ({ cls := "KnowsBetterModel", name := "corrector", desc := "([III)I" } : Jvm.MethodName)) ∈ mBG := mem_t4 (i := 68) rfl rfl
theorem tw_4_69 : (Jvm.Cond.code ({ cls := "KnowsBetterModel", name := "corrector", desc := "([III)I" } : Jvm.MethodName) prog_10_method_28_code (7 : Nat) (Option.some Jvm.ClassFile.FieldType.int)) ∈ mBG := mem_t4 (i := 69) rfl rfl
theorem tw_4_70 : (Jvm.Cond.methodLink "KnowsBetterModel" (131 : Nat) ({ cls := "KnowsBetterModel", name := "sitter", desc := "([II)I" } : Jvm.MethodName)) ∈ mBG := mem_t4 (i := 70) rfl rfl
theorem tw_4_72 : (Jvm.Cond.instanceMethod ({ cls := "KnowsBetterModel", name := "sitter", desc := "([II)I" } : Jvm.MethodName)) ∈ mBG := mem_t4 (i := 72) rfl rfl
theorem tw_4_73 : (Jvm.Cond.code ({ cls := "KnowsBetterModel", name := "sitter", desc := "([II)I" } : Jvm.MethodName) prog_10_method_27_code (5 : Nat) (Option.some Jvm.ClassFile.FieldType.int)) ∈ mBG := mem_t4 (i := 73) rfl rfl
theorem tw_4_74 : (Jvm.Cond.methodLink "KnowsBetterModel" (142 : Nat) ({ cls := "KnowsBetterModel", name := "hearersOf", desc := "([III)I" } : Jvm.MethodName)) ∈ mBG := mem_t4 (i := 74) rfl rfl
theorem tw_4_76 : (Jvm.Cond.instanceMethod ({ cls := "KnowsBetterModel", name := "hearersOf", desc := "([III)I" } : Jvm.MethodName)) ∈ mBG := mem_t4 (i := 76) rfl rfl
theorem tw_4_77 : (Jvm.Cond.code ({ cls := "KnowsBetterModel", name := "hearersOf", desc := "([III)I" } : Jvm.MethodName) prog_10_method_20_code (6 : Nat) (Option.some Jvm.ClassFile.FieldType.int)) ∈ mBG := mem_t4 (i := 77) rfl rfl
theorem tw_4_78 : (Jvm.Cond.methodLink "KnowsBetterModel" (145 : Nat) ({ cls := "KnowsBetterModel", name := "many", desc := "(I)I" } : Jvm.MethodName)) ∈ mBG := mem_t4 (i := 78) rfl rfl
theorem tw_4_79 : (Jvm.Cond.static ({ cls := "KnowsBetterModel", name := "many", desc := "(I)I" } : Jvm.MethodName)) ∈ mBG := mem_t4 (i := 79) rfl rfl
theorem tw_4_80 : (Jvm.Cond.code ({ cls := "KnowsBetterModel", name := "many", desc := "(I)I" } : Jvm.MethodName) prog_10_method_5_code (3 : Nat) (Option.some Jvm.ClassFile.FieldType.int)) ∈ mBG := mem_t4 (i := 80) rfl rfl
theorem tw_4_81 : (Jvm.Cond.methodLink "KnowsBetterLaw" (52 : Nat) ({ cls := "KnowsBetterModel", name := "teach", desc := "(II)I" } : Jvm.MethodName)) ∈ mBG := mem_t4 (i := 81) rfl rfl
theorem tw_4_82 : (Jvm.Cond.instanceMethod ({ cls := "KnowsBetterModel", name := "teach", desc := "(II)I" } : Jvm.MethodName)) ∈ mBG := mem_t4 (i := 82) rfl rfl
theorem tw_4_83 : (Jvm.Cond.selects "KnowsBetterModel" ({ cls := "KnowsBetterModel", name := "teach", desc := "(II)I" } : Jvm.MethodName) ({ cls := "KnowsBetterModel", name := "teach", desc := "(II)I" } : Jvm.MethodName)) ∈ mBG := mem_t4 (i := 83) rfl rfl
theorem tw_4_84 : (Jvm.Cond.code ({ cls := "KnowsBetterModel", name := "teach", desc := "(II)I" } : Jvm.MethodName) prog_10_method_31_code (3 : Nat) (Option.some Jvm.ClassFile.FieldType.int)) ∈ mBG := mem_t4 (i := 84) rfl rfl
theorem tw_4_85 : (Jvm.Cond.methodLink "KnowsBetterLaw" (56 : Nat) ({ cls := "KnowsBetterModel", name := "forget", desc := "(II)I" } : Jvm.MethodName)) ∈ mBG := mem_t4 (i := 85) rfl rfl
theorem tw_4_86 : (Jvm.Cond.instanceMethod ({ cls := "KnowsBetterModel", name := "forget", desc := "(II)I" } : Jvm.MethodName)) ∈ mBG := mem_t4 (i := 86) rfl rfl
theorem tw_4_87 : (Jvm.Cond.selects "KnowsBetterModel" ({ cls := "KnowsBetterModel", name := "forget", desc := "(II)I" } : Jvm.MethodName) ({ cls := "KnowsBetterModel", name := "forget", desc := "(II)I" } : Jvm.MethodName)) ∈ mBG := mem_t4 (i := 87) rfl rfl
theorem tw_4_88 : (Jvm.Cond.code ({ cls := "KnowsBetterModel", name := "forget", desc := "(II)I" } : Jvm.MethodName) prog_10_method_32_code (3 : Nat) (Option.some Jvm.ClassFile.FieldType.int)) ∈ mBG := mem_t4 (i := 88) rfl rfl
theorem tw_4_89 : (Jvm.Cond.methodLink "KnowsBetterLaw" (60 : Nat) ({ cls := "KnowsBetterModel", name := "change", desc := "(II)I" } : Jvm.MethodName)) ∈ mBG := mem_t4 (i := 89) rfl rfl
theorem tw_4_90 : (Jvm.Cond.instanceMethod ({ cls := "KnowsBetterModel", name := "change", desc := "(II)I" } : Jvm.MethodName)) ∈ mBG := mem_t4 (i := 90) rfl rfl
theorem tw_4_91 : (Jvm.Cond.selects "KnowsBetterModel" ({ cls := "KnowsBetterModel", name := "change", desc := "(II)I" } : Jvm.MethodName) ({ cls := "KnowsBetterModel", name := "change", desc := "(II)I" } : Jvm.MethodName)) ∈ mBG := mem_t4 (i := 91) rfl rfl
theorem tw_4_92 : (Jvm.Cond.code ({ cls := "KnowsBetterModel", name := "change", desc := "(II)I" } : Jvm.MethodName) prog_10_method_33_code (4 : Nat) (Option.some Jvm.ClassFile.FieldType.int)) ∈ mBG := mem_t4 (i := 92) rfl rfl
theorem tw_4_93 : (Jvm.Cond.methodLink "KnowsBetterLaw" (64 : Nat) ({ cls := "KnowsBetterModel", name := "undo", desc := "()I" } : Jvm.MethodName)) ∈ mBG := mem_t4 (i := 93) rfl rfl
theorem tw_4_94 : (Jvm.Cond.instanceMethod ({ cls := "KnowsBetterModel", name := "undo", desc := "()I" } : Jvm.MethodName)) ∈ mBG := mem_t4 (i := 94) rfl rfl
theorem tw_4_95 : (Jvm.Cond.selects "KnowsBetterModel" ({ cls := "KnowsBetterModel", name := "undo", desc := "()I" } : Jvm.MethodName) ({ cls := "KnowsBetterModel", name := "undo", desc := "()I" } : Jvm.MethodName)) ∈ mBG := mem_t4 (i := 95) rfl rfl
theorem tw_4_96 : (Jvm.Cond.code ({ cls := "KnowsBetterModel", name := "undo", desc := "()I" } : Jvm.MethodName) prog_10_method_34_code (2 : Nat) (Option.some Jvm.ClassFile.FieldType.int)) ∈ mBG := mem_t4 (i := 96) rfl rfl
theorem tw_4_97 : (Jvm.Cond.methodLink "KnowsBetterLaw" (68 : Nat) ({ cls := "KnowsBetterModel", name := "hearers", desc := "(II)I" } : Jvm.MethodName)) ∈ mBG := mem_t4 (i := 97) rfl rfl
theorem tw_4_98 : (Jvm.Cond.instanceMethod ({ cls := "KnowsBetterModel", name := "hearers", desc := "(II)I" } : Jvm.MethodName)) ∈ mBG := mem_t4 (i := 98) rfl rfl
theorem tw_4_99 : (Jvm.Cond.selects "KnowsBetterModel" ({ cls := "KnowsBetterModel", name := "hearers", desc := "(II)I" } : Jvm.MethodName) ({ cls := "KnowsBetterModel", name := "hearers", desc := "(II)I" } : Jvm.MethodName)) ∈ mBG := mem_t4 (i := 99) rfl rfl
theorem tw_4_100 : (Jvm.Cond.code ({ cls := "KnowsBetterModel", name := "hearers", desc := "(II)I" } : Jvm.MethodName) prog_10_method_35_code (3 : Nat) (Option.some Jvm.ClassFile.FieldType.int)) ∈ mBG := mem_t4 (i := 100) rfl rfl
theorem tw_4_101 : (Jvm.Cond.methodLink "KnowsBetterLaw" (72 : Nat) ({ cls := "KnowsBetterModel", name := "safe", desc := "(II)I" } : Jvm.MethodName)) ∈ mBG := mem_t4 (i := 101) rfl rfl
theorem tw_4_102 : (Jvm.Cond.instanceMethod ({ cls := "KnowsBetterModel", name := "safe", desc := "(II)I" } : Jvm.MethodName)) ∈ mBG := mem_t4 (i := 102) rfl rfl
theorem tw_4_103 : (Jvm.Cond.selects "KnowsBetterModel" ({ cls := "KnowsBetterModel", name := "safe", desc := "(II)I" } : Jvm.MethodName) ({ cls := "KnowsBetterModel", name := "safe", desc := "(II)I" } : Jvm.MethodName)) ∈ mBG := mem_t4 (i := 103) rfl rfl
theorem tw_4_104 : (Jvm.Cond.code ({ cls := "KnowsBetterModel", name := "safe", desc := "(II)I" } : Jvm.MethodName) prog_10_method_36_code (5 : Nat) (Option.some Jvm.ClassFile.FieldType.int)) ∈ mBG := mem_t4 (i := 104) rfl rfl
theorem tw_4_105 : (Jvm.Cond.methodLink "KnowsBetterLaw" (77 : Nat) ({ cls := "KnowsBetterModel", name := "seating", desc := "(IIIZZ)I" } : Jvm.MethodName)) ∈ mBG := mem_t4 (i := 105) rfl rfl
theorem tw_4_106 : (Jvm.Cond.instanceMethod ({ cls := "KnowsBetterModel", name := "seating", desc := "(IIIZZ)I" } : Jvm.MethodName)) ∈ mBG := mem_t4 (i := 106) rfl rfl
theorem tw_4_107 : (Jvm.Cond.selects "KnowsBetterModel" ({ cls := "KnowsBetterModel", name := "seating", desc := "(IIIZZ)I" } : Jvm.MethodName) ({ cls := "KnowsBetterModel", name := "seating", desc := "(IIIZZ)I" } : Jvm.MethodName)) ∈ mBG := mem_t4 (i := 107) rfl rfl
theorem tw_4_108 : (Jvm.Cond.code ({ cls := "KnowsBetterModel", name := "seating", desc := "(IIIZZ)I" } : Jvm.MethodName) prog_10_method_41_code (6 : Nat) (Option.some Jvm.ClassFile.FieldType.int)) ∈ mBG := mem_t4 (i := 108) rfl rfl
theorem tw_4_109 : (Jvm.Cond.methodLink "KnowsBetterModel" (174 : Nat) ({ cls := "KnowsBetterModel", name := "findSeats", desc := "(IIIZ)V" } : Jvm.MethodName)) ∈ mBG := mem_t4 (i := 109) rfl rfl
theorem tw_4_111 : (Jvm.Cond.instanceMethod ({ cls := "KnowsBetterModel", name := "findSeats", desc := "(IIIZ)V" } : Jvm.MethodName)) ∈ mBG := mem_t4 (i := 111) rfl rfl
theorem tw_4_112 : (Jvm.Cond.code ({ cls := "KnowsBetterModel", name := "findSeats", desc := "(IIIZ)V" } : Jvm.MethodName) prog_10_method_40_code (8 : Nat) (Option.none : Option Jvm.ClassFile.FieldType)) ∈ mBG := mem_t4 (i := 112) rfl rfl
theorem tw_4_113 : (Jvm.Cond.methodLink "KnowsBetterModel" (162 : Nat) ({ cls := "KnowsBetterModel", name := "power", desc := "(II)I" } : Jvm.MethodName)) ∈ mBG := mem_t4 (i := 113) rfl rfl
theorem tw_4_114 : (Jvm.Cond.static ({ cls := "KnowsBetterModel", name := "power", desc := "(II)I" } : Jvm.MethodName)) ∈ mBG := mem_t4 (i := 114) rfl rfl
theorem tw_4_115 : (Jvm.Cond.code ({ cls := "KnowsBetterModel", name := "power", desc := "(II)I" } : Jvm.MethodName) prog_10_method_38_code (4 : Nat) (Option.some Jvm.ClassFile.FieldType.int)) ∈ mBG := mem_t4 (i := 115) rfl rfl
theorem tw_4_116 : (Jvm.Cond.methodLink "KnowsBetterModel" (171 : Nat) ({ cls := "KnowsBetterModel", name := "laySeats", desc := "(I)Z" } : Jvm.MethodName)) ∈ mBG := mem_t4 (i := 116) rfl rfl
theorem tw_4_118 : (Jvm.Cond.instanceMethod ({ cls := "KnowsBetterModel", name := "laySeats", desc := "(I)Z" } : Jvm.MethodName)) ∈ mBG := mem_t4 (i := 118) rfl rfl
theorem tw_4_119 : (Jvm.Cond.code ({ cls := "KnowsBetterModel", name := "laySeats", desc := "(I)Z" } : Jvm.MethodName) prog_10_method_39_code (5 : Nat) (Option.some Jvm.ClassFile.FieldType.boolean)) ∈ mBG := mem_t4 (i := 119) rfl rfl
theorem tw_4_120 : (Jvm.Cond.methodLink "KnowsBetterModel" (159 : Nat) ({ cls := "KnowsBetterModel", name := "begin", desc := "()V" } : Jvm.MethodName)) ∈ mBG := mem_t4 (i := 120) rfl rfl
theorem tw_4_122 : (Jvm.Cond.instanceMethod ({ cls := "KnowsBetterModel", name := "begin", desc := "()V" } : Jvm.MethodName)) ∈ mBG := mem_t4 (i := 122) rfl rfl
theorem tw_4_123 : (Jvm.Cond.code ({ cls := "KnowsBetterModel", name := "begin", desc := "()V" } : Jvm.MethodName) prog_10_method_37_code (2 : Nat) (Option.none : Option Jvm.ClassFile.FieldType)) ∈ mBG := mem_t4 (i := 123) rfl rfl
theorem tw_4_124 : (Jvm.Cond.methodLink "KnowsBetterLaw" (81 : Nat) ({ cls := "KnowsBetterModel", name := "keepFrom", desc := "(II)I" } : Jvm.MethodName)) ∈ mBG := mem_t4 (i := 124) rfl rfl
theorem tw_4_125 : (Jvm.Cond.instanceMethod ({ cls := "KnowsBetterModel", name := "keepFrom", desc := "(II)I" } : Jvm.MethodName)) ∈ mBG := mem_t4 (i := 125) rfl rfl
theorem tw_4_126 : (Jvm.Cond.selects "KnowsBetterModel" ({ cls := "KnowsBetterModel", name := "keepFrom", desc := "(II)I" } : Jvm.MethodName) ({ cls := "KnowsBetterModel", name := "keepFrom", desc := "(II)I" } : Jvm.MethodName)) ∈ mBG := mem_t4 (i := 126) rfl rfl
theorem tw_4_127 : (Jvm.Cond.code ({ cls := "KnowsBetterModel", name := "keepFrom", desc := "(II)I" } : Jvm.MethodName) prog_10_method_42_code (7 : Nat) (Option.some Jvm.ClassFile.FieldType.int)) ∈ mBG := mem_t4 (i := 127) rfl rfl
theorem tw_4_128 : (Jvm.Cond.methodLink "KnowsBetterLaw" (85 : Nat) ({ cls := "KnowsBetterModel", name := "learn", desc := "(II)I" } : Jvm.MethodName)) ∈ mBG := mem_t4 (i := 128) rfl rfl
theorem tw_4_129 : (Jvm.Cond.instanceMethod ({ cls := "KnowsBetterModel", name := "learn", desc := "(II)I" } : Jvm.MethodName)) ∈ mBG := mem_t4 (i := 129) rfl rfl
theorem tw_4_130 : (Jvm.Cond.selects "KnowsBetterModel" ({ cls := "KnowsBetterModel", name := "learn", desc := "(II)I" } : Jvm.MethodName) ({ cls := "KnowsBetterModel", name := "learn", desc := "(II)I" } : Jvm.MethodName)) ∈ mBG := mem_t4 (i := 130) rfl rfl
theorem tw_4_131 : (Jvm.Cond.code ({ cls := "KnowsBetterModel", name := "learn", desc := "(II)I" } : Jvm.MethodName) prog_10_method_43_code (7 : Nat) (Option.some Jvm.ClassFile.FieldType.int)) ∈ mBG := mem_t4 (i := 131) rfl rfl
theorem tw_4_132 : (Jvm.Cond.methodLink "KnowsBetterLaw" (89 : Nat) ({ cls := "KnowsBetterModel", name := "judge", desc := "(II)I" } : Jvm.MethodName)) ∈ mBG := mem_t4 (i := 132) rfl rfl
theorem tw_4_133 : (Jvm.Cond.instanceMethod ({ cls := "KnowsBetterModel", name := "judge", desc := "(II)I" } : Jvm.MethodName)) ∈ mBG := mem_t4 (i := 133) rfl rfl
theorem tw_4_134 : (Jvm.Cond.selects "KnowsBetterModel" ({ cls := "KnowsBetterModel", name := "judge", desc := "(II)I" } : Jvm.MethodName) ({ cls := "KnowsBetterModel", name := "judge", desc := "(II)I" } : Jvm.MethodName)) ∈ mBG := mem_t4 (i := 134) rfl rfl
theorem tw_4_135 : (Jvm.Cond.code ({ cls := "KnowsBetterModel", name := "judge", desc := "(II)I" } : Jvm.MethodName) prog_10_method_44_code (8 : Nat) (Option.some Jvm.ClassFile.FieldType.int)) ∈ mBG := mem_t4 (i := 135) rfl rfl
theorem tw_4_136 : (Jvm.Cond.constantLong "KnowsBetterModel" (178 : Nat) (3 : Int64)) ∈ mBG := mem_t4 (i := 136) rfl rfl
theorem tw_4_137 : (Jvm.Cond.methodLink "KnowsBetterLaw" (94 : Nat) ({ cls := "KnowsBetterModel", name := "share", desc := "(IZ)I" } : Jvm.MethodName)) ∈ mBG := mem_t4 (i := 137) rfl rfl
theorem tw_4_138 : (Jvm.Cond.instanceMethod ({ cls := "KnowsBetterModel", name := "share", desc := "(IZ)I" } : Jvm.MethodName)) ∈ mBG := mem_t4 (i := 138) rfl rfl
theorem tw_4_139 : (Jvm.Cond.selects "KnowsBetterModel" ({ cls := "KnowsBetterModel", name := "share", desc := "(IZ)I" } : Jvm.MethodName) ({ cls := "KnowsBetterModel", name := "share", desc := "(IZ)I" } : Jvm.MethodName)) ∈ mBG := mem_t4 (i := 139) rfl rfl
theorem tw_4_140 : (Jvm.Cond.code ({ cls := "KnowsBetterModel", name := "share", desc := "(IZ)I" } : Jvm.MethodName) prog_10_method_48_code (6 : Nat) (Option.some Jvm.ClassFile.FieldType.int)) ∈ mBG := mem_t4 (i := 140) rfl rfl
theorem tw_4_141 : (Jvm.Cond.methodLink "KnowsBetterModel" (183 : Nat) ({ cls := "KnowsBetterModel", name := "ways", desc := "(I)I" } : Jvm.MethodName)) ∈ mBG := mem_t4 (i := 141) rfl rfl
theorem tw_4_142 : (Jvm.Cond.static ({ cls := "KnowsBetterModel", name := "ways", desc := "(I)I" } : Jvm.MethodName)) ∈ mBG := mem_t4 (i := 142) rfl rfl
theorem tw_4_143 : (Jvm.Cond.code ({ cls := "KnowsBetterModel", name := "ways", desc := "(I)I" } : Jvm.MethodName) prog_10_method_45_code (3 : Nat) (Option.some Jvm.ClassFile.FieldType.int)) ∈ mBG := mem_t4 (i := 143) rfl rfl
theorem tw_4_144 : (Jvm.Cond.methodLink "KnowsBetterModel" (186 : Nat) ({ cls := "KnowsBetterModel", name := "fraction", desc := "(IIZ)I" } : Jvm.MethodName)) ∈ mBG := mem_t4 (i := 144) rfl rfl
theorem tw_4_145 : (Jvm.Cond.static ({ cls := "KnowsBetterModel", name := "fraction", desc := "(IIZ)I" } : Jvm.MethodName)) ∈ mBG := mem_t4 (i := 145) rfl rfl
theorem tw_4_146 : (Jvm.Cond.code ({ cls := "KnowsBetterModel", name := "fraction", desc := "(IIZ)I" } : Jvm.MethodName) prog_10_method_47_code (4 : Nat) (Option.some Jvm.ClassFile.FieldType.int)) ∈ mBG := mem_t4 (i := 146) rfl rfl
theorem tw_4_147 : (Jvm.Cond.methodLink "KnowsBetterModel" (180 : Nat) ({ cls := "KnowsBetterModel", name := "divisor", desc := "(II)I" } : Jvm.MethodName)) ∈ mBG := mem_t4 (i := 147) rfl rfl
theorem tw_4_148 : (Jvm.Cond.static ({ cls := "KnowsBetterModel", name := "divisor", desc := "(II)I" } : Jvm.MethodName)) ∈ mBG := mem_t4 (i := 148) rfl rfl
theorem tw_4_149 : (Jvm.Cond.code ({ cls := "KnowsBetterModel", name := "divisor", desc := "(II)I" } : Jvm.MethodName) prog_10_method_46_code (5 : Nat) (Option.some Jvm.ClassFile.FieldType.int)) ∈ mBG := mem_t4 (i := 149) rfl rfl
theorem tw_4_150 : (Jvm.Cond.methodLink "KnowsBetterLaw" (98 : Nat) ({ cls := "KnowsBetterModel", name := "see", desc := "(II)I" } : Jvm.MethodName)) ∈ mBG := mem_t4 (i := 150) rfl rfl
theorem tw_4_151 : (Jvm.Cond.instanceMethod ({ cls := "KnowsBetterModel", name := "see", desc := "(II)I" } : Jvm.MethodName)) ∈ mBG := mem_t4 (i := 151) rfl rfl
theorem tw_4_152 : (Jvm.Cond.selects "KnowsBetterModel" ({ cls := "KnowsBetterModel", name := "see", desc := "(II)I" } : Jvm.MethodName) ({ cls := "KnowsBetterModel", name := "see", desc := "(II)I" } : Jvm.MethodName)) ∈ mBG := mem_t4 (i := 152) rfl rfl
theorem tw_4_153 : (Jvm.Cond.code ({ cls := "KnowsBetterModel", name := "see", desc := "(II)I" } : Jvm.MethodName) prog_10_method_49_code (3 : Nat) (Option.some Jvm.ClassFile.FieldType.int)) ∈ mBG := mem_t4 (i := 153) rfl rfl
theorem tw_4_154 : (Jvm.Cond.methodLink "KnowsBetterLaw" (102 : Nat) ({ cls := "KnowsBetterModel", name := "unsee", desc := "()I" } : Jvm.MethodName)) ∈ mBG := mem_t4 (i := 154) rfl rfl
theorem tw_4_155 : (Jvm.Cond.instanceMethod ({ cls := "KnowsBetterModel", name := "unsee", desc := "()I" } : Jvm.MethodName)) ∈ mBG := mem_t4 (i := 155) rfl rfl
theorem tw_4_156 : (Jvm.Cond.selects "KnowsBetterModel" ({ cls := "KnowsBetterModel", name := "unsee", desc := "()I" } : Jvm.MethodName) ({ cls := "KnowsBetterModel", name := "unsee", desc := "()I" } : Jvm.MethodName)) ∈ mBG := mem_t4 (i := 156) rfl rfl
theorem tw_4_157 : (Jvm.Cond.code ({ cls := "KnowsBetterModel", name := "unsee", desc := "()I" } : Jvm.MethodName) prog_10_method_50_code (2 : Nat) (Option.some Jvm.ClassFile.FieldType.int)) ∈ mBG := mem_t4 (i := 157) rfl rfl
theorem tw_4_158 : (Jvm.Cond.methodLink "KnowsBetterLaw" (106 : Nat) ({ cls := "KnowsBetterModel", name := "minds", desc := "(I)I" } : Jvm.MethodName)) ∈ mBG := mem_t4 (i := 158) rfl rfl
theorem tw_4_159 : (Jvm.Cond.instanceMethod ({ cls := "KnowsBetterModel", name := "minds", desc := "(I)I" } : Jvm.MethodName)) ∈ mBG := mem_t4 (i := 159) rfl rfl
theorem tw_4_160 : (Jvm.Cond.selects "KnowsBetterModel" ({ cls := "KnowsBetterModel", name := "minds", desc := "(I)I" } : Jvm.MethodName) ({ cls := "KnowsBetterModel", name := "minds", desc := "(I)I" } : Jvm.MethodName)) ∈ mBG := mem_t4 (i := 160) rfl rfl
theorem tw_4_161 : (Jvm.Cond.code ({ cls := "KnowsBetterModel", name := "minds", desc := "(I)I" } : Jvm.MethodName) prog_10_method_52_code (2 : Nat) (Option.some Jvm.ClassFile.FieldType.int)) ∈ mBG := mem_t4 (i := 161) rfl rfl
theorem tw_4_162 : (Jvm.Cond.methodLink "KnowsBetterModel" (199 : Nat) ({ cls := "KnowsBetterModel", name := "findMinds", desc := "()V" } : Jvm.MethodName)) ∈ mBG := mem_t4 (i := 162) rfl rfl
theorem tw_4_164 : (Jvm.Cond.instanceMethod ({ cls := "KnowsBetterModel", name := "findMinds", desc := "()V" } : Jvm.MethodName)) ∈ mBG := mem_t4 (i := 164) rfl rfl
theorem tw_4_165 : (Jvm.Cond.code ({ cls := "KnowsBetterModel", name := "findMinds", desc := "()V" } : Jvm.MethodName) prog_10_method_51_code (5 : Nat) (Option.none : Option Jvm.ClassFile.FieldType)) ∈ mBG := mem_t4 (i := 165) rfl rfl
theorem tw_4_166 : (Jvm.Cond.methodLink "KnowsBetterLaw" (110 : Nat) ({ cls := "KnowsBetterModel", name := "rests", desc := "(I)I" } : Jvm.MethodName)) ∈ mBG := mem_t4 (i := 166) rfl rfl
theorem tw_4_167 : (Jvm.Cond.instanceMethod ({ cls := "KnowsBetterModel", name := "rests", desc := "(I)I" } : Jvm.MethodName)) ∈ mBG := mem_t4 (i := 167) rfl rfl
theorem tw_4_168 : (Jvm.Cond.selects "KnowsBetterModel" ({ cls := "KnowsBetterModel", name := "rests", desc := "(I)I" } : Jvm.MethodName) ({ cls := "KnowsBetterModel", name := "rests", desc := "(I)I" } : Jvm.MethodName)) ∈ mBG := mem_t4 (i := 168) rfl rfl
theorem tw_4_169 : (Jvm.Cond.code ({ cls := "KnowsBetterModel", name := "rests", desc := "(I)I" } : Jvm.MethodName) prog_10_method_55_code (2 : Nat) (Option.some Jvm.ClassFile.FieldType.int)) ∈ mBG := mem_t4 (i := 169) rfl rfl
theorem tw_4_170 : (Jvm.Cond.methodLink "KnowsBetterModel" (211 : Nat) ({ cls := "KnowsBetterModel", name := "findRests", desc := "()V" } : Jvm.MethodName)) ∈ mBG := mem_t4 (i := 170) rfl rfl
theorem tw_4_172 : (Jvm.Cond.instanceMethod ({ cls := "KnowsBetterModel", name := "findRests", desc := "()V" } : Jvm.MethodName)) ∈ mBG := mem_t4 (i := 172) rfl rfl
theorem tw_4_173 : (Jvm.Cond.code ({ cls := "KnowsBetterModel", name := "findRests", desc := "()V" } : Jvm.MethodName) prog_10_method_54_code (5 : Nat) (Option.none : Option Jvm.ClassFile.FieldType)) ∈ mBG := mem_t4 (i := 173) rfl rfl
theorem tw_4_174 : (Jvm.Cond.methodLink "KnowsBetterModel" (208 : Nat) ({ cls := "KnowsBetterModel", name := "pays", desc := "(II)I" } : Jvm.MethodName)) ∈ mBG := mem_t4 (i := 174) rfl rfl
theorem tw_4_175 : (Jvm.Cond.static ({ cls := "KnowsBetterModel", name := "pays", desc := "(II)I" } : Jvm.MethodName)) ∈ mBG := mem_t4 (i := 175) rfl rfl
theorem tw_4_176 : (Jvm.Cond.code ({ cls := "KnowsBetterModel", name := "pays", desc := "(II)I" } : Jvm.MethodName) prog_10_method_53_code (2 : Nat) (Option.some Jvm.ClassFile.FieldType.int)) ∈ mBG := mem_t4 (i := 176) rfl rfl
theorem tw_4_177 : (Jvm.Cond.methodLink "KnowsBetterLaw" (115 : Nat) ({ cls := "KnowsBetterModel", name := "deaf", desc := "(IIIIZ)I" } : Jvm.MethodName)) ∈ mBG := mem_t4 (i := 177) rfl rfl
theorem tw_4_178 : (Jvm.Cond.instanceMethod ({ cls := "KnowsBetterModel", name := "deaf", desc := "(IIIIZ)I" } : Jvm.MethodName)) ∈ mBG := mem_t4 (i := 178) rfl rfl
theorem tw_4_179 : (Jvm.Cond.selects "KnowsBetterModel" ({ cls := "KnowsBetterModel", name := "deaf", desc := "(IIIIZ)I" } : Jvm.MethodName) ({ cls := "KnowsBetterModel", name := "deaf", desc := "(IIIIZ)I" } : Jvm.MethodName)) ∈ mBG := mem_t4 (i := 179) rfl rfl
theorem tw_4_180 : (Jvm.Cond.code ({ cls := "KnowsBetterModel", name := "deaf", desc := "(IIIIZ)I" } : Jvm.MethodName) prog_10_method_56_code (7 : Nat) (Option.some Jvm.ClassFile.FieldType.int)) ∈ mBG := mem_t4 (i := 180) rfl rfl
theorem tw_4_181 : (Jvm.Cond.constantLong "KnowsBetterModel" (214 : Nat) (10 : Int64)) ∈ mBG := mem_t4 (i := 181) rfl rfl
theorem tw_4_182 : (Jvm.Cond.methodLink "KnowsBetterLaw" (122 : Nat) ({ cls := "KnowsBetterModel", name := "seed", desc := "(J)J" } : Jvm.MethodName)) ∈ mBG := mem_t4 (i := 182) rfl rfl
theorem tw_4_183 : (Jvm.Cond.instanceMethod ({ cls := "KnowsBetterModel", name := "seed", desc := "(J)J" } : Jvm.MethodName)) ∈ mBG := mem_t4 (i := 183) rfl rfl
theorem tw_4_184 : (Jvm.Cond.selects "KnowsBetterModel" ({ cls := "KnowsBetterModel", name := "seed", desc := "(J)J" } : Jvm.MethodName) ({ cls := "KnowsBetterModel", name := "seed", desc := "(J)J" } : Jvm.MethodName)) ∈ mBG := mem_t4 (i := 184) rfl rfl
theorem tw_4_185 : (Jvm.Cond.code ({ cls := "KnowsBetterModel", name := "seed", desc := "(J)J" } : Jvm.MethodName) prog_10_method_57_code (5 : Nat) (Option.some Jvm.ClassFile.FieldType.long)) ∈ mBG := mem_t4 (i := 185) rfl rfl
theorem tw_4_186 : (Jvm.Cond.methodLink "KnowsBetterLaw" (126 : Nat) ({ cls := "KnowsBetterModel", name := "evenings", desc := "(I)I" } : Jvm.MethodName)) ∈ mBG := mem_t4 (i := 186) rfl rfl
theorem tw_4_187 : (Jvm.Cond.instanceMethod ({ cls := "KnowsBetterModel", name := "evenings", desc := "(I)I" } : Jvm.MethodName)) ∈ mBG := mem_t4 (i := 187) rfl rfl
theorem tw_4_188 : (Jvm.Cond.selects "KnowsBetterModel" ({ cls := "KnowsBetterModel", name := "evenings", desc := "(I)I" } : Jvm.MethodName) ({ cls := "KnowsBetterModel", name := "evenings", desc := "(I)I" } : Jvm.MethodName)) ∈ mBG := mem_t4 (i := 188) rfl rfl
theorem tw_4_189 : (Jvm.Cond.code ({ cls := "KnowsBetterModel", name := "evenings", desc := "(I)I" } : Jvm.MethodName) prog_10_method_58_code (4 : Nat) (Option.some Jvm.ClassFile.FieldType.int)) ∈ mBG := mem_t4 (i := 189) rfl rfl
theorem tw_4_190 : (Jvm.Cond.constantLong "KnowsBetterModel" (220 : Nat) (30 : Int64)) ∈ mBG := mem_t4 (i := 190) rfl rfl
theorem tw_4_191 : (Jvm.Cond.constantLong "KnowsBetterModel" (222 : Nat) (6364136223846793005 : Int64)) ∈ mBG := mem_t4 (i := 191) rfl rfl
theorem tw_4_192 : (Jvm.Cond.constantLong "KnowsBetterModel" (224 : Nat) (1442695040888963407 : Int64)) ∈ mBG := mem_t4 (i := 192) rfl rfl
theorem tw_4_193 : (Jvm.Cond.constantLong "KnowsBetterModel" (226 : Nat) (60 : Int64)) ∈ mBG := mem_t4 (i := 193) rfl rfl
theorem tw_4_194 : (Jvm.Cond.methodLink "KnowsBetterLaw" (130 : Nat) ({ cls := "KnowsBetterModel", name := "keep", desc := "(I)I" } : Jvm.MethodName)) ∈ mBG := mem_t4 (i := 194) rfl rfl
theorem tw_4_195 : (Jvm.Cond.instanceMethod ({ cls := "KnowsBetterModel", name := "keep", desc := "(I)I" } : Jvm.MethodName)) ∈ mBG := mem_t4 (i := 195) rfl rfl
theorem tw_4_196 : (Jvm.Cond.selects "KnowsBetterModel" ({ cls := "KnowsBetterModel", name := "keep", desc := "(I)I" } : Jvm.MethodName) ({ cls := "KnowsBetterModel", name := "keep", desc := "(I)I" } : Jvm.MethodName)) ∈ mBG := mem_t4 (i := 196) rfl rfl
theorem tw_4_197 : (Jvm.Cond.code ({ cls := "KnowsBetterModel", name := "keep", desc := "(I)I" } : Jvm.MethodName) prog_10_method_59_code (3 : Nat) (Option.some Jvm.ClassFile.FieldType.int)) ∈ mBG := mem_t4 (i := 197) rfl rfl
theorem tw_4_198 : (Jvm.Cond.methodLink "KnowsBetterLaw" (134 : Nat) ({ cls := "KnowsBetterModel", name := "again", desc := "(I)I" } : Jvm.MethodName)) ∈ mBG := mem_t4 (i := 198) rfl rfl
theorem tw_4_199 : (Jvm.Cond.instanceMethod ({ cls := "KnowsBetterModel", name := "again", desc := "(I)I" } : Jvm.MethodName)) ∈ mBG := mem_t4 (i := 199) rfl rfl
theorem tw_4_200 : (Jvm.Cond.selects "KnowsBetterModel" ({ cls := "KnowsBetterModel", name := "again", desc := "(I)I" } : Jvm.MethodName) ({ cls := "KnowsBetterModel", name := "again", desc := "(I)I" } : Jvm.MethodName)) ∈ mBG := mem_t4 (i := 200) rfl rfl
theorem tw_4_201 : (Jvm.Cond.code ({ cls := "KnowsBetterModel", name := "again", desc := "(I)I" } : Jvm.MethodName) prog_10_method_60_code (3 : Nat) (Option.some Jvm.ClassFile.FieldType.int)) ∈ mBG := mem_t4 (i := 201) rfl rfl
theorem tw_4_202 : (Jvm.Cond.constantLong "KnowsBetterLaw" (116 : Nat) (4294967295 : Int64)) ∈ mBG := mem_t4 (i := 202) rfl rfl
theorem tp_1_0 : (Jvm.Cond.selects "KnowsBetter$Text" ({ cls := "KnowsBetter$Text", name := "fits", desc := "(I)Z" } : Jvm.MethodName) ({ cls := "KnowsBetter$Text", name := "fits", desc := "(I)Z" } : Jvm.MethodName)) ∈ mBG := mem_p1 (i := 0) rfl rfl
theorem tp_1_1 : (Jvm.Cond.selects "KnowsBetter$Text" ({ cls := "KnowsBetter$Text", name := "startsPart", desc := "(I)Z" } : Jvm.MethodName) ({ cls := "KnowsBetter$Text", name := "startsPart", desc := "(I)Z" } : Jvm.MethodName)) ∈ mBG := mem_p1 (i := 1) rfl rfl
theorem tp_1_2 : (Jvm.Cond.selects "KnowsBetter$Text" ({ cls := "KnowsBetter$Text", name := "partsAhead", desc := "(II)I" } : Jvm.MethodName) ({ cls := "KnowsBetter$Text", name := "partsAhead", desc := "(II)I" } : Jvm.MethodName)) ∈ mBG := mem_p1 (i := 2) rfl rfl
theorem tp_1_3 : (Jvm.Cond.selects "KnowsBetter" ({ cls := "KnowsBetter", name := adN, desc := "(I)V" } : Jvm.MethodName) ({ cls := "KnowsBetter", name := adN, desc := "(I)V" } : Jvm.MethodName)) ∈ mBG := mem_p1 (i := 3) rfl rfl
theorem tp_1_4 : (Jvm.Cond.selects "KnowsBetter" ({ cls := "KnowsBetter", name := "isPerson", desc := "(I)Z" } : Jvm.MethodName) ({ cls := "KnowsBetter", name := "isPerson", desc := "(I)Z" } : Jvm.MethodName)) ∈ mBG := mem_p1 (i := 4) rfl rfl
theorem tp_1_5 : (Jvm.Cond.selects "KnowsBetter" ({ cls := "KnowsBetter", name := "refusalToSay", desc := "(III)I" } : Jvm.MethodName) ({ cls := "KnowsBetter", name := "refusalToSay", desc := "(III)I" } : Jvm.MethodName)) ∈ mBG := mem_p1 (i := 5) rfl rfl
theorem tp_1_6 : (Jvm.Cond.selects "KnowsBetter$Round" ({ cls := "KnowsBetter$Round", name := "firstBold", desc := "(II)I" } : Jvm.MethodName) ({ cls := "KnowsBetter$Round", name := "firstBold", desc := "(II)I" } : Jvm.MethodName)) ∈ mBG := mem_p1 (i := 6) rfl rfl
theorem tp_1_7 : (Jvm.Cond.selects "KnowsBetter$Round" ({ cls := "KnowsBetter$Round", name := "sitter", desc := "(I)I" } : Jvm.MethodName) ({ cls := "KnowsBetter$Round", name := "sitter", desc := "(I)I" } : Jvm.MethodName)) ∈ mBG := mem_p1 (i := 7) rfl rfl
theorem tp_1_8 : (Jvm.Cond.selects "KnowsBetter$Round" ({ cls := "KnowsBetter$Round", name := "fineEach", desc := "(I)V" } : Jvm.MethodName) ({ cls := "KnowsBetter$Round", name := "fineEach", desc := "(I)V" } : Jvm.MethodName)) ∈ mBG := mem_p1 (i := 8) rfl rfl
theorem tp_1_9 : (Jvm.Cond.selects "KnowsBetter$Round" ({ cls := "KnowsBetter$Round", name := "fine", desc := "(II)V" } : Jvm.MethodName) ({ cls := "KnowsBetter$Round", name := "fine", desc := "(II)V" } : Jvm.MethodName)) ∈ mBG := mem_p1 (i := 9) rfl rfl
theorem tp_1_10 : (Jvm.Cond.selects "KnowsBetter$Round" ({ cls := "KnowsBetter$Round", name := "tellEach", desc := "(II)V" } : Jvm.MethodName) ({ cls := "KnowsBetter$Round", name := "tellEach", desc := "(II)V" } : Jvm.MethodName)) ∈ mBG := mem_p1 (i := 10) rfl rfl
theorem tp_1_11 : (Jvm.Cond.selects "KnowsBetter$Round" ({ cls := "KnowsBetter$Round", name := "member", desc := "(II)I" } : Jvm.MethodName) ({ cls := "KnowsBetter$Round", name := "member", desc := "(II)I" } : Jvm.MethodName)) ∈ mBG := mem_p1 (i := 11) rfl rfl
theorem tp_1_12 : (Jvm.Cond.selects "KnowsBetter" ({ cls := "KnowsBetter", name := "isPutRight", desc := "(III)Z" } : Jvm.MethodName) ({ cls := "KnowsBetter", name := "isPutRight", desc := "(III)Z" } : Jvm.MethodName)) ∈ mBG := mem_p1 (i := 12) rfl rfl
theorem tp_1_13 : (Jvm.Cond.selects "KnowsBetter" ({ cls := "KnowsBetter", name := "factsTogether", desc := "(I)I" } : Jvm.MethodName) ({ cls := "KnowsBetter", name := "factsTogether", desc := "(I)I" } : Jvm.MethodName)) ∈ mBG := mem_p1 (i := 13) rfl rfl
theorem tp_1_14 : (Jvm.Cond.selects "KnowsBetterModel" ({ cls := "KnowsBetterModel", name := "readTable", desc := "()I" } : Jvm.MethodName) ({ cls := "KnowsBetterModel", name := "readTable", desc := "()I" } : Jvm.MethodName)) ∈ mBG := mem_p1 (i := 14) rfl rfl
theorem tp_1_15 : (Jvm.Cond.selects "KnowsBetterModel" ({ cls := "KnowsBetterModel", name := "readPart", desc := "()Z" } : Jvm.MethodName) ({ cls := "KnowsBetterModel", name := "readPart", desc := "()Z" } : Jvm.MethodName)) ∈ mBG := mem_p1 (i := 15) rfl rfl
theorem tp_2_0 : (Jvm.Cond.selects "KnowsBetterModel" ({ cls := "KnowsBetterModel", name := "readPerson", desc := "()Z" } : Jvm.MethodName) ({ cls := "KnowsBetterModel", name := "readPerson", desc := "()Z" } : Jvm.MethodName)) ∈ mBG := mem_p2 (i := 0) rfl rfl
theorem tp_2_1 : (Jvm.Cond.selects "KnowsBetterModel" ({ cls := "KnowsBetterModel", name := "sign", desc := "(II)I" } : Jvm.MethodName) ({ cls := "KnowsBetterModel", name := "sign", desc := "(II)I" } : Jvm.MethodName)) ∈ mBG := mem_p2 (i := 1) rfl rfl
theorem tp_2_2 : (Jvm.Cond.selects "KnowsBetterModel" ({ cls := "KnowsBetterModel", name := "readOne", desc := "()Z" } : Jvm.MethodName) ({ cls := "KnowsBetterModel", name := "readOne", desc := "()Z" } : Jvm.MethodName)) ∈ mBG := mem_p2 (i := 2) rfl rfl
theorem tp_2_3 : (Jvm.Cond.selects "KnowsBetterModel" ({ cls := "KnowsBetterModel", name := "closed", desc := "(I)I" } : Jvm.MethodName) ({ cls := "KnowsBetterModel", name := "closed", desc := "(I)I" } : Jvm.MethodName)) ∈ mBG := mem_p2 (i := 3) rfl rfl
theorem tp_2_4 : (Jvm.Cond.selects "KnowsBetterModel" ({ cls := "KnowsBetterModel", name := "finesOf", desc := "([I)I" } : Jvm.MethodName) ({ cls := "KnowsBetterModel", name := "finesOf", desc := "([I)I" } : Jvm.MethodName)) ∈ mBG := mem_p2 (i := 4) rfl rfl
theorem tp_2_5 : (Jvm.Cond.selects "KnowsBetterModel" ({ cls := "KnowsBetterModel", name := "noPerson", desc := "(I)Z" } : Jvm.MethodName) ({ cls := "KnowsBetterModel", name := "noPerson", desc := "(I)Z" } : Jvm.MethodName)) ∈ mBG := mem_p2 (i := 5) rfl rfl
theorem tp_2_6 : (Jvm.Cond.selects "KnowsBetterModel" ({ cls := "KnowsBetterModel", name := "farOf", desc := "([III)I" } : Jvm.MethodName) ({ cls := "KnowsBetterModel", name := "farOf", desc := "([III)I" } : Jvm.MethodName)) ∈ mBG := mem_p2 (i := 6) rfl rfl
theorem tp_2_7 : (Jvm.Cond.selects "KnowsBetterModel" ({ cls := "KnowsBetterModel", name := "note", desc := "()V" } : Jvm.MethodName) ({ cls := "KnowsBetterModel", name := "note", desc := "()V" } : Jvm.MethodName)) ∈ mBG := mem_p2 (i := 7) rfl rfl
theorem tp_2_8 : (Jvm.Cond.selects "KnowsBetterModel" ({ cls := "KnowsBetterModel", name := "goSay", desc := "([IIII)I" } : Jvm.MethodName) ({ cls := "KnowsBetterModel", name := "goSay", desc := "([IIII)I" } : Jvm.MethodName)) ∈ mBG := mem_p2 (i := 8) rfl rfl
theorem tp_2_9 : (Jvm.Cond.selects "KnowsBetterModel" ({ cls := "KnowsBetterModel", name := "knowersOf", desc := "([IIII)I" } : Jvm.MethodName) ({ cls := "KnowsBetterModel", name := "knowersOf", desc := "([IIII)I" } : Jvm.MethodName)) ∈ mBG := mem_p2 (i := 9) rfl rfl
theorem tp_2_10 : (Jvm.Cond.selects "KnowsBetterModel" ({ cls := "KnowsBetterModel", name := "hears", desc := "([IIII)Z" } : Jvm.MethodName) ({ cls := "KnowsBetterModel", name := "hears", desc := "([IIII)Z" } : Jvm.MethodName)) ∈ mBG := mem_p2 (i := 10) rfl rfl
theorem tp_2_11 : (Jvm.Cond.selects "KnowsBetterModel" ({ cls := "KnowsBetterModel", name := "corrector", desc := "([III)I" } : Jvm.MethodName) ({ cls := "KnowsBetterModel", name := "corrector", desc := "([III)I" } : Jvm.MethodName)) ∈ mBG := mem_p2 (i := 11) rfl rfl
theorem tp_2_12 : (Jvm.Cond.selects "KnowsBetterModel" ({ cls := "KnowsBetterModel", name := "sitter", desc := "([II)I" } : Jvm.MethodName) ({ cls := "KnowsBetterModel", name := "sitter", desc := "([II)I" } : Jvm.MethodName)) ∈ mBG := mem_p2 (i := 12) rfl rfl
theorem tp_2_13 : (Jvm.Cond.selects "KnowsBetterModel" ({ cls := "KnowsBetterModel", name := "hearersOf", desc := "([III)I" } : Jvm.MethodName) ({ cls := "KnowsBetterModel", name := "hearersOf", desc := "([III)I" } : Jvm.MethodName)) ∈ mBG := mem_p2 (i := 13) rfl rfl
theorem tp_2_14 : (Jvm.Cond.selects "KnowsBetterModel" ({ cls := "KnowsBetterModel", name := "findSeats", desc := "(IIIZ)V" } : Jvm.MethodName) ({ cls := "KnowsBetterModel", name := "findSeats", desc := "(IIIZ)V" } : Jvm.MethodName)) ∈ mBG := mem_p2 (i := 14) rfl rfl
theorem tp_2_15 : (Jvm.Cond.selects "KnowsBetterModel" ({ cls := "KnowsBetterModel", name := "laySeats", desc := "(I)Z" } : Jvm.MethodName) ({ cls := "KnowsBetterModel", name := "laySeats", desc := "(I)Z" } : Jvm.MethodName)) ∈ mBG := mem_p2 (i := 15) rfl rfl
theorem tp_3_0 : (Jvm.Cond.selects "KnowsBetterModel" ({ cls := "KnowsBetterModel", name := "begin", desc := "()V" } : Jvm.MethodName) ({ cls := "KnowsBetterModel", name := "begin", desc := "()V" } : Jvm.MethodName)) ∈ mBG := mem_p3 (i := 0) rfl rfl
theorem tp_3_1 : (Jvm.Cond.selects "KnowsBetterModel" ({ cls := "KnowsBetterModel", name := "findMinds", desc := "()V" } : Jvm.MethodName) ({ cls := "KnowsBetterModel", name := "findMinds", desc := "()V" } : Jvm.MethodName)) ∈ mBG := mem_p3 (i := 1) rfl rfl
theorem tp_3_2 : (Jvm.Cond.selects "KnowsBetterModel" ({ cls := "KnowsBetterModel", name := "findRests", desc := "()V" } : Jvm.MethodName) ({ cls := "KnowsBetterModel", name := "findRests", desc := "()V" } : Jvm.MethodName)) ∈ mBG := mem_p3 (i := 2) rfl rfl
theorem inG0 : ∀ w ∈ u_ws RX0 TX0 3, w ∈ mBG := by
  show ∀ w ∈ [u_lay RX0 TX0 0, u_lay RX0 TX0 1, u_lay RX0 TX0 2], w ∈ mBG
  simp only [List.forall_mem_cons]
  exact ⟨tw_1_108, tw_1_110, tw_1_112, fun _ h => absurd h List.not_mem_nil⟩
theorem inG1 : ∀ w ∈ u_ws RX1 TX1 2, w ∈ mBG := by
  show ∀ w ∈ [u_lay RX1 TX1 0, u_lay RX1 TX1 1], w ∈ mBG
  simp only [List.forall_mem_cons]
  exact ⟨tw_1_82, tw_1_84, fun _ h => absurd h List.not_mem_nil⟩
theorem inG2 : ∀ w ∈ u_ws RX2 TX2 1, w ∈ mBG := by
  show ∀ w ∈ [u_lay RX2 TX2 0], w ∈ mBG
  simp only [List.forall_mem_cons]
  exact ⟨tw_1_36, fun _ h => absurd h List.not_mem_nil⟩
theorem inG3 : ∀ w ∈ u_ws RX3 TX3 3, w ∈ mBG := by
  show ∀ w ∈ [u_lay RX3 TX3 0, u_lay RX3 TX3 1, u_lay RX3 TX3 2], w ∈ mBG
  simp only [List.forall_mem_cons]
  exact ⟨tw_1_126, tw_1_128, tw_1_130, fun _ h => absurd h List.not_mem_nil⟩
theorem inG4 : ∀ w ∈ u_ws RX4 TX4 1, w ∈ mBG := by
  show ∀ w ∈ [u_lay RX4 TX4 0], w ∈ mBG
  simp only [List.forall_mem_cons]
  exact ⟨tw_1_102, fun _ h => absurd h List.not_mem_nil⟩
theorem inG5 : ∀ w ∈ u_ws RX5 TX5 5, w ∈ mBG := by
  show ∀ w ∈ [u_lay RX5 TX5 0, u_lay RX5 TX5 1, u_lay RX5 TX5 2, u_lay RX5 TX5 3, u_lay RX5 TX5 4], w ∈ mBG
  simp only [List.forall_mem_cons]
  exact ⟨tw_1_45, tw_1_47, tw_1_49, tw_1_51, tw_1_53, fun _ h => absurd h List.not_mem_nil⟩
theorem inG6 : ∀ w ∈ u_ws RX6 TX6 2, w ∈ mBG := by
  show ∀ w ∈ [u_lay RX6 TX6 0, u_lay RX6 TX6 1], w ∈ mBG
  simp only [List.forall_mem_cons]
  exact ⟨tw_1_66, tw_1_68, fun _ h => absurd h List.not_mem_nil⟩
theorem inG7 : ∀ w ∈ u_ws RX7 TX7 9, w ∈ mBG := by
  show ∀ w ∈ [u_lay RX7 TX7 0, u_lay RX7 TX7 1, u_lay RX7 TX7 2, u_lay RX7 TX7 3, u_lay RX7 TX7 4, u_lay RX7 TX7 5, u_lay RX7 TX7 6, u_lay RX7 TX7 7, u_lay RX7 TX7 8], w ∈ mBG
  simp only [List.forall_mem_cons]
  exact ⟨tw_1_142, tw_1_144, tw_1_146, tw_1_148, tw_1_150, tw_1_152, tw_1_154, tw_1_156, tw_1_158, fun _ h => absurd h List.not_mem_nil⟩
theorem inG8 : ∀ w ∈ u_ws RX8 TX8 31, w ∈ mBG := by
  show ∀ w ∈ [u_lay RX8 TX8 0, u_lay RX8 TX8 1, u_lay RX8 TX8 2, u_lay RX8 TX8 3, u_lay RX8 TX8 4, u_lay RX8 TX8 5, u_lay RX8 TX8 6, u_lay RX8 TX8 7, u_lay RX8 TX8 8, u_lay RX8 TX8 9, u_lay RX8 TX8 10, u_lay RX8 TX8 11, u_lay RX8 TX8 12, u_lay RX8 TX8 13, u_lay RX8 TX8 14, u_lay RX8 TX8 15, u_lay RX8 TX8 16, u_lay RX8 TX8 17, u_lay RX8 TX8 18, u_lay RX8 TX8 19, u_lay RX8 TX8 20, u_lay RX8 TX8 21, u_lay RX8 TX8 22, u_lay RX8 TX8 23, u_lay RX8 TX8 24, u_lay RX8 TX8 25, u_lay RX8 TX8 26, u_lay RX8 TX8 27, u_lay RX8 TX8 28, u_lay RX8 TX8 29, u_lay RX8 TX8 30], w ∈ mBG
  simp only [List.forall_mem_cons]
  exact ⟨tw_3_146, tw_3_148, tw_3_150, tw_3_152, tw_3_154, tw_3_156, tw_3_158, tw_3_160, tw_3_162, tw_3_164, tw_3_166, tw_3_168, tw_3_170, tw_3_172, tw_3_174, tw_3_176, tw_3_178, tw_3_180, tw_3_182, tw_3_184, tw_3_186, tw_3_188, tw_3_190, tw_3_192, tw_3_194, tw_3_196, tw_3_198, tw_3_200, tw_3_202, tw_3_204, tw_3_206, fun _ h => absurd h List.not_mem_nil⟩
