/-! the tables' words, by their places: qw_n is the n-th word of tables_1 -/
theorem qw_0 : (Jvm.Cond.initialized "RegressionCourtLaw") ∈ lw_tbl := List.mem_of_getElem? (i := 50) (by decide +kernel)
theorem qw_1 : (Jvm.Cond.initialized "RegressionCourt") ∈ lw_tbl := List.mem_of_getElem? (i := 51) (by decide +kernel)
theorem qw_2 : (Jvm.Cond.initialized "java/util/AbstractCollection") ∈ lw_tbl := List.mem_of_getElem? (i := 52) (by decide +kernel)
theorem qw_3 : (Jvm.Cond.initialized "java/util/AbstractList") ∈ lw_tbl := List.mem_of_getElem? (i := 53) (by decide +kernel)
theorem qw_4 : (Jvm.Cond.initialized "java/util/ArrayList") ∈ lw_tbl := List.mem_of_getElem? (i := 54) (by decide +kernel)
theorem qw_5 : (Jvm.Cond.initialized "RegressionCourt$Change") ∈ lw_tbl := List.mem_of_getElem? (i := 55) (by decide +kernel)
theorem qw_6 : (Jvm.Cond.initialized "RegressionCourt$Sample") ∈ lw_tbl := List.mem_of_getElem? (i := 56) (by decide +kernel)
theorem qw_7 : (Jvm.Cond.initialized "RegressionCourt$Duel") ∈ lw_tbl := List.mem_of_getElem? (i := 57) (by decide +kernel)
theorem qw_8 : (Jvm.Cond.initialized "RegressionCourt$Bisection") ∈ lw_tbl := List.mem_of_getElem? (i := 58) (by decide +kernel)
theorem qw_9 : (Jvm.Cond.initialized "jdk/internal/util/ArraysSupport") ∈ lw_tbl := List.mem_of_getElem? (i := 59) (by decide +kernel)
theorem qw_10 : (Jvm.Cond.initialized "java/lang/Math") ∈ lw_tbl := List.mem_of_getElem? (i := 60) (by decide +kernel)
theorem qw_11 : (Jvm.Cond.initialized "java/util/Arrays") ∈ lw_tbl := List.mem_of_getElem? (i := 61) (by decide +kernel)
theorem qw_12 : (Jvm.Cond.initialized "java/lang/System") ∈ lw_tbl := List.mem_of_getElem? (i := 62) (by decide +kernel)
theorem qw_13 : (Jvm.Cond.initialized "java/lang/Throwable") ∈ lw_tbl := List.mem_of_getElem? (i := 63) (by decide +kernel)
theorem qw_14 : (Jvm.Cond.initialized "java/lang/Exception") ∈ lw_tbl := List.mem_of_getElem? (i := 64) (by decide +kernel)
theorem qw_15 : (Jvm.Cond.initialized "java/lang/RuntimeException") ∈ lw_tbl := List.mem_of_getElem? (i := 65) (by decide +kernel)
theorem qw_16 : (Jvm.Cond.initialized "java/lang/IllegalArgumentException") ∈ lw_tbl := List.mem_of_getElem? (i := 66) (by decide +kernel)
theorem qw_17 : (Jvm.Cond.initialized "java/lang/IllegalStateException") ∈ lw_tbl := List.mem_of_getElem? (i := 67) (by decide +kernel)
theorem qw_18 : (Jvm.Cond.initialized "RegressionCourt$Machine") ∈ lw_tbl := List.mem_of_getElem? (i := 68) (by decide +kernel)
theorem qw_19 : (Jvm.Cond.initialized "java/util/Objects") ∈ lw_tbl := List.mem_of_getElem? (i := 69) (by decide +kernel)
theorem qw_20 : (Jvm.Cond.initialized "jdk/internal/util/Preconditions") ∈ lw_tbl := List.mem_of_getElem? (i := 70) (by decide +kernel)
theorem qw_21 : (Jvm.Cond.initialized "java/lang/IndexOutOfBoundsException") ∈ lw_tbl := List.mem_of_getElem? (i := 71) (by decide +kernel)
theorem qw_22 : (Jvm.Cond.initialized "RegressionCourt$Run") ∈ lw_tbl := List.mem_of_getElem? (i := 72) (by decide +kernel)
theorem qw_23 : (Jvm.Cond.initialized "java/lang/Number") ∈ lw_tbl := List.mem_of_getElem? (i := 73) (by decide +kernel)
theorem qw_24 : (Jvm.Cond.initialized "java/lang/Double") ∈ lw_tbl := List.mem_of_getElem? (i := 74) (by decide +kernel)
theorem qw_25 : (Jvm.Cond.classLink "RegressionCourtLaw" (9 : Nat) "RegressionCourt") ∈ lw_tbl := List.mem_of_getElem? (i := 75) (by decide +kernel)
theorem qw_26 : (Jvm.Cond.instantiable "RegressionCourt" (13 : Nat)) ∈ lw_tbl := List.mem_of_getElem? (i := 76) (by decide +kernel)
theorem qw_27 : (Jvm.Cond.methodLink "RegressionCourtLaw" (11 : Nat) ({ cls := "RegressionCourt", name := "<init>", desc := "()V" } : Jvm.MethodName)) ∈ lw_tbl := List.mem_of_getElem? (i := 77) (by decide +kernel)
theorem qw_28 : (Jvm.Cond.instanceMethod ({ cls := "RegressionCourt", name := "<init>", desc := "()V" } : Jvm.MethodName)) ∈ lw_tbl := List.mem_of_getElem? (i := 78) (by decide +kernel)
set_option maxRecDepth 50000 in
theorem qw_29 : (Jvm.Cond.code ({ cls := "RegressionCourt", name := "<init>", desc := "()V" } : Jvm.MethodName) prog_1_method_1_code (1 : Nat) (Option.none : Option Jvm.ClassFile.FieldType)) ∈ lw_tbl := List.mem_of_getElem? (i := 79) rfl
theorem qw_30 : (Jvm.Cond.methodLink "RegressionCourt" (1 : Nat) ({ cls := "java/lang/Object", name := "<init>", desc := "()V" } : Jvm.MethodName)) ∈ lw_tbl := List.mem_of_getElem? (i := 80) (by decide +kernel)
theorem qw_31 : (Jvm.Cond.instanceMethod ({ cls := "java/lang/Object", name := "<init>", desc := "()V" } : Jvm.MethodName)) ∈ lw_tbl := List.mem_of_getElem? (i := 81) (by decide +kernel)
set_option maxRecDepth 50000 in
theorem qw_32 : (Jvm.Cond.code ({ cls := "java/lang/Object", name := "<init>", desc := "()V" } : Jvm.MethodName) object_method_1_code (1 : Nat) (Option.none : Option Jvm.ClassFile.FieldType)) ∈ lw_tbl := List.mem_of_getElem? (i := 82) rfl
theorem qw_33 : (Jvm.Cond.classLink "RegressionCourt" (7 : Nat) "java/util/ArrayList") ∈ lw_tbl := List.mem_of_getElem? (i := 83) (by decide +kernel)
theorem qw_34 : (Jvm.Cond.instantiable "java/util/ArrayList" (3 : Nat)) ∈ lw_tbl := List.mem_of_getElem? (i := 84) (by decide +kernel)
theorem qw_35 : (Jvm.Cond.methodLink "RegressionCourt" (9 : Nat) ({ cls := "java/util/ArrayList", name := "<init>", desc := "()V" } : Jvm.MethodName)) ∈ lw_tbl := List.mem_of_getElem? (i := 85) (by decide +kernel)
theorem qw_36 : (Jvm.Cond.instanceMethod ({ cls := "java/util/ArrayList", name := "<init>", desc := "()V" } : Jvm.MethodName)) ∈ lw_tbl := List.mem_of_getElem? (i := 86) (by decide +kernel)
set_option maxRecDepth 50000 in
theorem qw_37 : (Jvm.Cond.code ({ cls := "java/util/ArrayList", name := "<init>", desc := "()V" } : Jvm.MethodName) prog_29_method_2_code (1 : Nat) (Option.none : Option Jvm.ClassFile.FieldType)) ∈ lw_tbl := List.mem_of_getElem? (i := 87) rfl
theorem qw_38 : (Jvm.Cond.methodLink "java/util/ArrayList" (1 : Nat) ({ cls := "java/util/AbstractList", name := "<init>", desc := "()V" } : Jvm.MethodName)) ∈ lw_tbl := List.mem_of_getElem? (i := 88) (by decide +kernel)
theorem qw_39 : (Jvm.Cond.instanceMethod ({ cls := "java/util/AbstractList", name := "<init>", desc := "()V" } : Jvm.MethodName)) ∈ lw_tbl := List.mem_of_getElem? (i := 89) (by decide +kernel)
set_option maxRecDepth 50000 in
theorem qw_40 : (Jvm.Cond.code ({ cls := "java/util/AbstractList", name := "<init>", desc := "()V" } : Jvm.MethodName) prog_28_method_1_code (1 : Nat) (Option.none : Option Jvm.ClassFile.FieldType)) ∈ lw_tbl := List.mem_of_getElem? (i := 90) rfl
theorem qw_41 : (Jvm.Cond.methodLink "java/util/AbstractList" (1 : Nat) ({ cls := "java/util/AbstractCollection", name := "<init>", desc := "()V" } : Jvm.MethodName)) ∈ lw_tbl := List.mem_of_getElem? (i := 91) (by decide +kernel)
theorem qw_42 : (Jvm.Cond.instanceMethod ({ cls := "java/util/AbstractCollection", name := "<init>", desc := "()V" } : Jvm.MethodName)) ∈ lw_tbl := List.mem_of_getElem? (i := 92) (by decide +kernel)
set_option maxRecDepth 50000 in
theorem qw_43 : (Jvm.Cond.code ({ cls := "java/util/AbstractCollection", name := "<init>", desc := "()V" } : Jvm.MethodName) prog_27_method_1_code (1 : Nat) (Option.none : Option Jvm.ClassFile.FieldType)) ∈ lw_tbl := List.mem_of_getElem? (i := 93) rfl
theorem qw_44 : (Jvm.Cond.methodLink "java/util/AbstractCollection" (1 : Nat) ({ cls := "java/lang/Object", name := "<init>", desc := "()V" } : Jvm.MethodName)) ∈ lw_tbl := List.mem_of_getElem? (i := 94) (by decide +kernel)
theorem qw_45 : (Jvm.Cond.fieldLink "java/util/ArrayList" (39 : Nat) "java/util/ArrayList" "DEFAULTCAPACITY_EMPTY_ELEMENTDATA" "[Ljava/lang/Object;") ∈ lw_tbl := List.mem_of_getElem? (i := 95) (by decide +kernel)
theorem qw_47 : (Jvm.Cond.fieldLink "java/util/ArrayList" (9 : Nat) "java/util/ArrayList" "elementData" "[Ljava/lang/Object;") ∈ lw_tbl := List.mem_of_getElem? (i := 97) (by decide +kernel)
theorem qw_48 : (Jvm.Cond.fieldLink "java/util/ArrayList" (48 : Nat) "java/util/ArrayList" "size" "I") ∈ lw_tbl := List.mem_of_getElem? (i := 98) (by decide +kernel)
theorem qw_49 : (Jvm.Cond.fieldLink "java/util/AbstractList" (7 : Nat) "java/util/AbstractList" "modCount" "I") ∈ lw_tbl := List.mem_of_getElem? (i := 99) (by decide +kernel)
theorem qw_50 : (Jvm.Cond.fieldLink "java/util/ArrayList" (63 : Nat) "java/util/ArrayList" "modCount" "I") ∈ lw_tbl := List.mem_of_getElem? (i := 100) (by decide +kernel)
theorem qw_51 : (Jvm.Cond.sameField "java/util/ArrayList" "java/util/AbstractList" "modCount" "I") ∈ lw_tbl := List.mem_of_getElem? (i := 101) (by decide +kernel)
theorem qw_59 : (Jvm.Cond.classLink "RegressionCourt" (22 : Nat) "RegressionCourt$Change") ∈ lw_tbl := List.mem_of_getElem? (i := 109) (by decide +kernel)
theorem qw_60 : (Jvm.Cond.instantiable "RegressionCourt$Change" (3 : Nat)) ∈ lw_tbl := List.mem_of_getElem? (i := 110) (by decide +kernel)
theorem qw_61 : (Jvm.Cond.methodLinkNest "RegressionCourt" (24 : Nat) ({ cls := "RegressionCourt$Change", name := "<init>", desc := "()V" } : Jvm.MethodName) "RegressionCourt") ∈ lw_tbl := List.mem_of_getElem? (i := 111) (by decide +kernel)
theorem qw_62 : (Jvm.Cond.instanceMethod ({ cls := "RegressionCourt$Change", name := "<init>", desc := "()V" } : Jvm.MethodName)) ∈ lw_tbl := List.mem_of_getElem? (i := 112) (by decide +kernel)
set_option maxRecDepth 50000 in
theorem qw_63 : (Jvm.Cond.code ({ cls := "RegressionCourt$Change", name := "<init>", desc := "()V" } : Jvm.MethodName) prog_3_method_1_code (1 : Nat) (Option.none : Option Jvm.ClassFile.FieldType)) ∈ lw_tbl := List.mem_of_getElem? (i := 113) rfl
theorem qw_64 : (Jvm.Cond.methodLink "RegressionCourt$Change" (3 : Nat) ({ cls := "java/lang/Object", name := "<init>", desc := "()V" } : Jvm.MethodName)) ∈ lw_tbl := List.mem_of_getElem? (i := 114) (by decide +kernel)
theorem qw_65 : (Jvm.Cond.classLink "RegressionCourt$Change" (9 : Nat) "java/util/ArrayList") ∈ lw_tbl := List.mem_of_getElem? (i := 115) (by decide +kernel)
theorem qw_66 : (Jvm.Cond.methodLink "RegressionCourt$Change" (11 : Nat) ({ cls := "java/util/ArrayList", name := "<init>", desc := "()V" } : Jvm.MethodName)) ∈ lw_tbl := List.mem_of_getElem? (i := 116) (by decide +kernel)
theorem qw_67 : (Jvm.Cond.fieldLink "RegressionCourt$Change" (12 : Nat) "RegressionCourt$Change" "runs" "Ljava/util/ArrayList;") ∈ lw_tbl := List.mem_of_getElem? (i := 117) (by decide +kernel)
theorem qw_68 : (Jvm.Cond.fieldLinkNest "RegressionCourt$Sample" (19 : Nat) "RegressionCourt$Change" "runs" "Ljava/util/ArrayList;" "RegressionCourt") ∈ lw_tbl := List.mem_of_getElem? (i := 118) (by decide +kernel)
theorem qw_69 : (Jvm.Cond.fieldLinkNest "RegressionCourt" (155 : Nat) "RegressionCourt$Change" "runs" "Ljava/util/ArrayList;" "RegressionCourt") ∈ lw_tbl := List.mem_of_getElem? (i := 119) (by decide +kernel)
theorem qw_70 : (Jvm.Cond.fieldLink "RegressionCourt$Change" (18 : Nat) "RegressionCourt$Change" "isNamed" "Z") ∈ lw_tbl := List.mem_of_getElem? (i := 120) (by decide +kernel)
theorem qw_71 : (Jvm.Cond.fieldLinkNest "RegressionCourt" (223 : Nat) "RegressionCourt$Change" "isNamed" "Z" "RegressionCourt") ∈ lw_tbl := List.mem_of_getElem? (i := 121) (by decide +kernel)
theorem qw_72 : (Jvm.Cond.fieldLink "RegressionCourt$Change" (22 : Nat) "RegressionCourt$Change" "isExcused" "Z") ∈ lw_tbl := List.mem_of_getElem? (i := 122) (by decide +kernel)
theorem qw_73 : (Jvm.Cond.fieldLinkNest "RegressionCourt" (226 : Nat) "RegressionCourt$Change" "isExcused" "Z" "RegressionCourt") ∈ lw_tbl := List.mem_of_getElem? (i := 123) (by decide +kernel)
theorem qw_81 : (Jvm.Cond.classLink "RegressionCourt" (29 : Nat) "RegressionCourt$Sample") ∈ lw_tbl := List.mem_of_getElem? (i := 131) (by decide +kernel)
theorem qw_82 : (Jvm.Cond.instantiable "RegressionCourt$Sample" (2 : Nat)) ∈ lw_tbl := List.mem_of_getElem? (i := 132) (by decide +kernel)
theorem qw_83 : (Jvm.Cond.methodLinkNest "RegressionCourt" (31 : Nat) ({ cls := "RegressionCourt$Sample", name := "<init>", desc := "()V" } : Jvm.MethodName) "RegressionCourt") ∈ lw_tbl := List.mem_of_getElem? (i := 133) (by decide +kernel)
theorem qw_84 : (Jvm.Cond.instanceMethod ({ cls := "RegressionCourt$Sample", name := "<init>", desc := "()V" } : Jvm.MethodName)) ∈ lw_tbl := List.mem_of_getElem? (i := 134) (by decide +kernel)
set_option maxRecDepth 50000 in
theorem qw_85 : (Jvm.Cond.code ({ cls := "RegressionCourt$Sample", name := "<init>", desc := "()V" } : Jvm.MethodName) prog_7_method_1_code (1 : Nat) (Option.none : Option Jvm.ClassFile.FieldType)) ∈ lw_tbl := List.mem_of_getElem? (i := 135) rfl
theorem qw_86 : (Jvm.Cond.methodLink "RegressionCourt$Sample" (3 : Nat) ({ cls := "java/lang/Object", name := "<init>", desc := "()V" } : Jvm.MethodName)) ∈ lw_tbl := List.mem_of_getElem? (i := 136) (by decide +kernel)
theorem qw_87 : (Jvm.Cond.fieldLink "RegressionCourt$Sample" (9 : Nat) "RegressionCourt$Sample" "worths" "[I") ∈ lw_tbl := List.mem_of_getElem? (i := 137) (by decide +kernel)
theorem qw_88 : (Jvm.Cond.fieldLink "RegressionCourt$Sample" (15 : Nat) "RegressionCourt$Sample" "size" "I") ∈ lw_tbl := List.mem_of_getElem? (i := 138) (by decide +kernel)
theorem qw_89 : (Jvm.Cond.fieldLinkNest "RegressionCourt$Duel" (59 : Nat) "RegressionCourt$Sample" "size" "I" "RegressionCourt") ∈ lw_tbl := List.mem_of_getElem? (i := 139) (by decide +kernel)
theorem qw_90 : (Jvm.Cond.fieldLinkNest "RegressionCourt" (320 : Nat) "RegressionCourt$Sample" "size" "I" "RegressionCourt") ∈ lw_tbl := List.mem_of_getElem? (i := 140) (by decide +kernel)
theorem qw_96 : (Jvm.Cond.arrayClass Jvm.ClassFile.FieldType.int) ∈ lw_tbl := List.mem_of_getElem? (i := 146) (by decide +kernel)
theorem qw_97 : (Jvm.Cond.classLink "RegressionCourt" (36 : Nat) "RegressionCourt$Duel") ∈ lw_tbl := List.mem_of_getElem? (i := 147) (by decide +kernel)
theorem qw_98 : (Jvm.Cond.instantiable "RegressionCourt$Duel" (10 : Nat)) ∈ lw_tbl := List.mem_of_getElem? (i := 148) (by decide +kernel)
theorem qw_99 : (Jvm.Cond.methodLinkNest "RegressionCourt" (38 : Nat) ({ cls := "RegressionCourt$Duel", name := "<init>", desc := "()V" } : Jvm.MethodName) "RegressionCourt") ∈ lw_tbl := List.mem_of_getElem? (i := 149) (by decide +kernel)
theorem qw_100 : (Jvm.Cond.instanceMethod ({ cls := "RegressionCourt$Duel", name := "<init>", desc := "()V" } : Jvm.MethodName)) ∈ lw_tbl := List.mem_of_getElem? (i := 150) (by decide +kernel)
set_option maxRecDepth 50000 in
theorem qw_101 : (Jvm.Cond.code ({ cls := "RegressionCourt$Duel", name := "<init>", desc := "()V" } : Jvm.MethodName) prog_4_method_1_code (1 : Nat) (Option.none : Option Jvm.ClassFile.FieldType)) ∈ lw_tbl := List.mem_of_getElem? (i := 151) rfl
theorem qw_102 : (Jvm.Cond.methodLink "RegressionCourt$Duel" (5 : Nat) ({ cls := "java/lang/Object", name := "<init>", desc := "()V" } : Jvm.MethodName)) ∈ lw_tbl := List.mem_of_getElem? (i := 152) (by decide +kernel)
theorem qw_103 : (Jvm.Cond.classLink "RegressionCourt$Duel" (11 : Nat) "RegressionCourt$Sample") ∈ lw_tbl := List.mem_of_getElem? (i := 153) (by decide +kernel)
theorem qw_104 : (Jvm.Cond.methodLinkNest "RegressionCourt$Duel" (13 : Nat) ({ cls := "RegressionCourt$Sample", name := "<init>", desc := "()V" } : Jvm.MethodName) "RegressionCourt") ∈ lw_tbl := List.mem_of_getElem? (i := 154) (by decide +kernel)
theorem qw_105 : (Jvm.Cond.classLink "RegressionCourt$Duel" (25 : Nat) "[[I") ∈ lw_tbl := List.mem_of_getElem? (i := 155) (by decide +kernel)
theorem qw_106 : (Jvm.Cond.arrayOver (Jvm.ClassFile.FieldType.array Jvm.ClassFile.FieldType.int)) ∈ lw_tbl := List.mem_of_getElem? (i := 156) (by decide +kernel)
theorem qw_107 : (Jvm.Cond.fieldLink "RegressionCourt$Duel" (14 : Nat) "RegressionCourt$Duel" "first" "LRegressionCourt$Sample;") ∈ lw_tbl := List.mem_of_getElem? (i := 157) (by decide +kernel)
theorem qw_108 : (Jvm.Cond.fieldLinkNest "RegressionCourt" (247 : Nat) "RegressionCourt$Duel" "first" "LRegressionCourt$Sample;" "RegressionCourt") ∈ lw_tbl := List.mem_of_getElem? (i := 158) (by decide +kernel)
theorem qw_109 : (Jvm.Cond.fieldLink "RegressionCourt$Duel" (18 : Nat) "RegressionCourt$Duel" "second" "LRegressionCourt$Sample;") ∈ lw_tbl := List.mem_of_getElem? (i := 159) (by decide +kernel)
theorem qw_110 : (Jvm.Cond.fieldLinkNest "RegressionCourt" (257 : Nat) "RegressionCourt$Duel" "second" "LRegressionCourt$Sample;" "RegressionCourt") ∈ lw_tbl := List.mem_of_getElem? (i := 160) (by decide +kernel)
theorem qw_111 : (Jvm.Cond.fieldLink "RegressionCourt$Duel" (21 : Nat) "RegressionCourt$Duel" "laid" "[I") ∈ lw_tbl := List.mem_of_getElem? (i := 161) (by decide +kernel)
theorem qw_112 : (Jvm.Cond.fieldLink "RegressionCourt$Duel" (27 : Nat) "RegressionCourt$Duel" "ways" "[[I") ∈ lw_tbl := List.mem_of_getElem? (i := 162) (by decide +kernel)
theorem qw_113 : (Jvm.Cond.fieldLink "RegressionCourt$Duel" (30 : Nat) "RegressionCourt$Duel" "laidMany" "I") ∈ lw_tbl := List.mem_of_getElem? (i := 163) (by decide +kernel)
theorem qw_114 : (Jvm.Cond.fieldLink "RegressionCourt$Duel" (34 : Nat) "RegressionCourt$Duel" "leadsUpTo" "I") ∈ lw_tbl := List.mem_of_getElem? (i := 164) (by decide +kernel)
theorem qw_115 : (Jvm.Cond.fieldLink "RegressionCourt$Duel" (37 : Nat) "RegressionCourt$Duel" "score" "I") ∈ lw_tbl := List.mem_of_getElem? (i := 165) (by decide +kernel)
theorem qw_116 : (Jvm.Cond.fieldLinkNest "RegressionCourt" (325 : Nat) "RegressionCourt$Duel" "score" "I" "RegressionCourt") ∈ lw_tbl := List.mem_of_getElem? (i := 166) (by decide +kernel)
theorem qw_117 : (Jvm.Cond.fieldLink "RegressionCourt$Duel" (40 : Nat) "RegressionCourt$Duel" "high" "I") ∈ lw_tbl := List.mem_of_getElem? (i := 167) (by decide +kernel)
theorem qw_118 : (Jvm.Cond.fieldLinkNest "RegressionCourt" (328 : Nat) "RegressionCourt$Duel" "high" "I" "RegressionCourt") ∈ lw_tbl := List.mem_of_getElem? (i := 168) (by decide +kernel)
theorem qw_119 : (Jvm.Cond.fieldLink "RegressionCourt$Duel" (43 : Nat) "RegressionCourt$Duel" "low" "I") ∈ lw_tbl := List.mem_of_getElem? (i := 169) (by decide +kernel)
theorem qw_120 : (Jvm.Cond.fieldLinkNest "RegressionCourt" (331 : Nat) "RegressionCourt$Duel" "low" "I" "RegressionCourt") ∈ lw_tbl := List.mem_of_getElem? (i := 170) (by decide +kernel)
theorem qw_121 : (Jvm.Cond.fieldLink "RegressionCourt$Duel" (46 : Nat) "RegressionCourt$Duel" "all" "I") ∈ lw_tbl := List.mem_of_getElem? (i := 171) (by decide +kernel)
theorem qw_122 : (Jvm.Cond.fieldLinkNest "RegressionCourt" (334 : Nat) "RegressionCourt$Duel" "all" "I" "RegressionCourt") ∈ lw_tbl := List.mem_of_getElem? (i := 172) (by decide +kernel)
theorem qw_144 : (Jvm.Cond.classLink "RegressionCourt" (43 : Nat) "RegressionCourt$Bisection") ∈ lw_tbl := List.mem_of_getElem? (i := 194) (by decide +kernel)
theorem qw_145 : (Jvm.Cond.instantiable "RegressionCourt$Bisection" (4 : Nat)) ∈ lw_tbl := List.mem_of_getElem? (i := 195) (by decide +kernel)
theorem qw_146 : (Jvm.Cond.methodLinkNest "RegressionCourt" (45 : Nat) ({ cls := "RegressionCourt$Bisection", name := "<init>", desc := "()V" } : Jvm.MethodName) "RegressionCourt") ∈ lw_tbl := List.mem_of_getElem? (i := 196) (by decide +kernel)
theorem qw_147 : (Jvm.Cond.instanceMethod ({ cls := "RegressionCourt$Bisection", name := "<init>", desc := "()V" } : Jvm.MethodName)) ∈ lw_tbl := List.mem_of_getElem? (i := 197) (by decide +kernel)
set_option maxRecDepth 50000 in
theorem qw_148 : (Jvm.Cond.code ({ cls := "RegressionCourt$Bisection", name := "<init>", desc := "()V" } : Jvm.MethodName) prog_2_method_1_code (1 : Nat) (Option.none : Option Jvm.ClassFile.FieldType)) ∈ lw_tbl := List.mem_of_getElem? (i := 198) rfl
theorem qw_149 : (Jvm.Cond.methodLink "RegressionCourt$Bisection" (3 : Nat) ({ cls := "java/lang/Object", name := "<init>", desc := "()V" } : Jvm.MethodName)) ∈ lw_tbl := List.mem_of_getElem? (i := 199) (by decide +kernel)
theorem qw_150 : (Jvm.Cond.fieldLink "RegressionCourt$Bisection" (9 : Nat) "RegressionCourt$Bisection" "isOn" "Z") ∈ lw_tbl := List.mem_of_getElem? (i := 200) (by decide +kernel)
theorem qw_151 : (Jvm.Cond.fieldLinkNest "RegressionCourt" (194 : Nat) "RegressionCourt$Bisection" "isOn" "Z" "RegressionCourt") ∈ lw_tbl := List.mem_of_getElem? (i := 201) (by decide +kernel)
theorem qw_152 : (Jvm.Cond.fieldLink "RegressionCourt$Bisection" (15 : Nat) "RegressionCourt$Bisection" "good" "I") ∈ lw_tbl := List.mem_of_getElem? (i := 202) (by decide +kernel)
theorem qw_153 : (Jvm.Cond.fieldLinkNest "RegressionCourt" (210 : Nat) "RegressionCourt$Bisection" "good" "I" "RegressionCourt") ∈ lw_tbl := List.mem_of_getElem? (i := 203) (by decide +kernel)
theorem qw_154 : (Jvm.Cond.fieldLink "RegressionCourt$Bisection" (19 : Nat) "RegressionCourt$Bisection" "bad" "I") ∈ lw_tbl := List.mem_of_getElem? (i := 204) (by decide +kernel)
theorem qw_155 : (Jvm.Cond.fieldLinkNest "RegressionCourt" (207 : Nat) "RegressionCourt$Bisection" "bad" "I" "RegressionCourt") ∈ lw_tbl := List.mem_of_getElem? (i := 205) (by decide +kernel)
theorem qw_156 : (Jvm.Cond.fieldLink "RegressionCourt$Bisection" (22 : Nat) "RegressionCourt$Bisection" "waitsFor" "I") ∈ lw_tbl := List.mem_of_getElem? (i := 206) (by decide +kernel)
theorem qw_157 : (Jvm.Cond.fieldLinkNest "RegressionCourt" (202 : Nat) "RegressionCourt$Bisection" "waitsFor" "I" "RegressionCourt") ∈ lw_tbl := List.mem_of_getElem? (i := 207) (by decide +kernel)
theorem qw_167 : (Jvm.Cond.methodLink "RegressionCourt" (69 : Nat) ({ cls := "java/util/ArrayList", name := "add", desc := "(Ljava/lang/Object;)Z" } : Jvm.MethodName)) ∈ lw_tbl := List.mem_of_getElem? (i := 217) (by decide +kernel)
theorem qw_168 : (Jvm.Cond.instanceMethod ({ cls := "java/util/ArrayList", name := "add", desc := "(Ljava/lang/Object;)Z" } : Jvm.MethodName)) ∈ lw_tbl := List.mem_of_getElem? (i := 218) (by decide +kernel)
theorem qw_169 : (Jvm.Cond.selects "java/util/ArrayList" ({ cls := "java/util/ArrayList", name := "add", desc := "(Ljava/lang/Object;)Z" } : Jvm.MethodName) ({ cls := "java/util/ArrayList", name := "add", desc := "(Ljava/lang/Object;)Z" } : Jvm.MethodName)) ∈ lw_tbl := List.mem_of_getElem? (i := 219) (by decide +kernel)
set_option maxRecDepth 50000 in
theorem qw_170 : (Jvm.Cond.code ({ cls := "java/util/ArrayList", name := "add", desc := "(Ljava/lang/Object;)Z" } : Jvm.MethodName) prog_29_method_25_code (2 : Nat) (Option.some Jvm.ClassFile.FieldType.boolean)) ∈ lw_tbl := List.mem_of_getElem? (i := 220) rfl
theorem qw_171 : (Jvm.Cond.methodLink "java/util/ArrayList" (131 : Nat) ({ cls := "java/util/ArrayList", name := "add", desc := "(Ljava/lang/Object;[Ljava/lang/Object;I)V" } : Jvm.MethodName)) ∈ lw_tbl := List.mem_of_getElem? (i := 221) (by decide +kernel)
theorem qw_173 : (Jvm.Cond.instanceMethod ({ cls := "java/util/ArrayList", name := "add", desc := "(Ljava/lang/Object;[Ljava/lang/Object;I)V" } : Jvm.MethodName)) ∈ lw_tbl := List.mem_of_getElem? (i := 223) (by decide +kernel)
set_option maxRecDepth 50000 in
theorem qw_174 : (Jvm.Cond.code ({ cls := "java/util/ArrayList", name := "add", desc := "(Ljava/lang/Object;[Ljava/lang/Object;I)V" } : Jvm.MethodName) prog_29_method_24_code (4 : Nat) (Option.none : Option Jvm.ClassFile.FieldType)) ∈ lw_tbl := List.mem_of_getElem? (i := 224) rfl
theorem qw_175 : (Jvm.Cond.methodLink "java/util/ArrayList" (129 : Nat) ({ cls := "java/util/ArrayList", name := "grow", desc := "()[Ljava/lang/Object;" } : Jvm.MethodName)) ∈ lw_tbl := List.mem_of_getElem? (i := 225) (by decide +kernel)
theorem qw_177 : (Jvm.Cond.instanceMethod ({ cls := "java/util/ArrayList", name := "grow", desc := "()[Ljava/lang/Object;" } : Jvm.MethodName)) ∈ lw_tbl := List.mem_of_getElem? (i := 227) (by decide +kernel)
set_option maxRecDepth 50000 in
theorem qw_178 : (Jvm.Cond.code ({ cls := "java/util/ArrayList", name := "grow", desc := "()[Ljava/lang/Object;" } : Jvm.MethodName) prog_29_method_7_code (1 : Nat) (Option.some (Jvm.ClassFile.FieldType.array (Jvm.ClassFile.FieldType.object "java/lang/Object")))) ∈ lw_tbl := List.mem_of_getElem? (i := 228) rfl
theorem qw_179 : (Jvm.Cond.methodLink "java/util/ArrayList" (69 : Nat) ({ cls := "java/util/ArrayList", name := "grow", desc := "(I)[Ljava/lang/Object;" } : Jvm.MethodName)) ∈ lw_tbl := List.mem_of_getElem? (i := 229) (by decide +kernel)
theorem qw_181 : (Jvm.Cond.instanceMethod ({ cls := "java/util/ArrayList", name := "grow", desc := "(I)[Ljava/lang/Object;" } : Jvm.MethodName)) ∈ lw_tbl := List.mem_of_getElem? (i := 231) (by decide +kernel)
set_option maxRecDepth 50000 in
theorem qw_182 : (Jvm.Cond.code ({ cls := "java/util/ArrayList", name := "grow", desc := "(I)[Ljava/lang/Object;" } : Jvm.MethodName) prog_29_method_6_code (4 : Nat) (Option.some (Jvm.ClassFile.FieldType.array (Jvm.ClassFile.FieldType.object "java/lang/Object")))) ∈ lw_tbl := List.mem_of_getElem? (i := 232) rfl
theorem qw_183 : (Jvm.Cond.methodLink "java/util/ArrayList" (73 : Nat) ({ cls := "jdk/internal/util/ArraysSupport", name := "newLength", desc := "(III)I" } : Jvm.MethodName)) ∈ lw_tbl := List.mem_of_getElem? (i := 233) (by decide +kernel)
theorem qw_184 : (Jvm.Cond.static ({ cls := "jdk/internal/util/ArraysSupport", name := "newLength", desc := "(III)I" } : Jvm.MethodName)) ∈ lw_tbl := List.mem_of_getElem? (i := 234) (by decide +kernel)
set_option maxRecDepth 50000 in
theorem qw_185 : (Jvm.Cond.code ({ cls := "jdk/internal/util/ArraysSupport", name := "newLength", desc := "(III)I" } : Jvm.MethodName) prog_36_method_27_code (4 : Nat) (Option.some Jvm.ClassFile.FieldType.int)) ∈ lw_tbl := List.mem_of_getElem? (i := 235) rfl
theorem qw_186 : (Jvm.Cond.methodLink "jdk/internal/util/ArraysSupport" (194 : Nat) ({ cls := "java/lang/Math", name := "max", desc := "(II)I" } : Jvm.MethodName)) ∈ lw_tbl := List.mem_of_getElem? (i := 236) (by decide +kernel)
theorem qw_187 : (Jvm.Cond.static ({ cls := "java/lang/Math", name := "max", desc := "(II)I" } : Jvm.MethodName)) ∈ lw_tbl := List.mem_of_getElem? (i := 237) (by decide +kernel)
set_option maxRecDepth 50000 in
theorem qw_188 : (Jvm.Cond.code ({ cls := "java/lang/Math", name := "max", desc := "(II)I" } : Jvm.MethodName) prog_19_method_65_code (2 : Nat) (Option.some Jvm.ClassFile.FieldType.int)) ∈ lw_tbl := List.mem_of_getElem? (i := 238) rfl
theorem qw_189 : (Jvm.Cond.constant "jdk/internal/util/ArraysSupport" (200 : Nat) (2147483639 : Int32)) ∈ lw_tbl := List.mem_of_getElem? (i := 239) (by decide +kernel)
theorem qw_190 : (Jvm.Cond.methodLink "jdk/internal/util/ArraysSupport" (201 : Nat) ({ cls := "jdk/internal/util/ArraysSupport", name := "hugeLength", desc := "(II)I" } : Jvm.MethodName)) ∈ lw_tbl := List.mem_of_getElem? (i := 240) (by decide +kernel)
theorem qw_191 : (Jvm.Cond.static ({ cls := "jdk/internal/util/ArraysSupport", name := "hugeLength", desc := "(II)I" } : Jvm.MethodName)) ∈ lw_tbl := List.mem_of_getElem? (i := 241) (by decide +kernel)
set_option maxRecDepth 50000 in
theorem qw_192 : (Jvm.Cond.code ({ cls := "jdk/internal/util/ArraysSupport", name := "hugeLength", desc := "(II)I" } : Jvm.MethodName) prog_36_method_28_code (3 : Nat) (Option.some Jvm.ClassFile.FieldType.int)) ∈ lw_tbl := List.mem_of_getElem? (i := 242) rfl
theorem qw_193 : (Jvm.Cond.methodLink "java/util/ArrayList" (66 : Nat) ({ cls := "java/util/Arrays", name := "copyOf", desc := "([Ljava/lang/Object;I)[Ljava/lang/Object;" } : Jvm.MethodName)) ∈ lw_tbl := List.mem_of_getElem? (i := 243) (by decide +kernel)
theorem qw_194 : (Jvm.Cond.static ({ cls := "java/util/Arrays", name := "copyOf", desc := "([Ljava/lang/Object;I)[Ljava/lang/Object;" } : Jvm.MethodName)) ∈ lw_tbl := List.mem_of_getElem? (i := 244) (by decide +kernel)
set_option maxRecDepth 50000 in
theorem qw_195 : (Jvm.Cond.code ({ cls := "java/util/Arrays", name := "copyOf", desc := "([Ljava/lang/Object;I)[Ljava/lang/Object;" } : Jvm.MethodName) prog_30_method_119_code (2 : Nat) (Option.some (Jvm.ClassFile.FieldType.array (Jvm.ClassFile.FieldType.object "java/lang/Object")))) ∈ lw_tbl := List.mem_of_getElem? (i := 245) rfl
theorem qw_196 : (Jvm.Cond.methodLink "java/util/Arrays" (86 : Nat) ({ cls := "java/lang/Object", name := "getClass", desc := "()Ljava/lang/Class;" } : Jvm.MethodName)) ∈ lw_tbl := List.mem_of_getElem? (i := 246) (by decide +kernel)
theorem qw_197 : (Jvm.Cond.instanceMethod ({ cls := "java/lang/Object", name := "getClass", desc := "()Ljava/lang/Class;" } : Jvm.MethodName)) ∈ lw_tbl := List.mem_of_getElem? (i := 247) (by decide +kernel)
theorem qw_198 : (Jvm.Cond.sameMethod "java/lang/Object" "java/lang/Object" "getClass" "()Ljava/lang/Class;") ∈ lw_tbl := List.mem_of_getElem? (i := 248) (by decide +kernel)
theorem qw_199 : (Jvm.Cond.selects "RegressionCourt" ({ cls := "java/lang/Object", name := "getClass", desc := "()Ljava/lang/Class;" } : Jvm.MethodName) ({ cls := "java/lang/Object", name := "getClass", desc := "()Ljava/lang/Class;" } : Jvm.MethodName)) ∈ lw_tbl := List.mem_of_getElem? (i := 249) (by decide +kernel)
theorem qw_200 : (Jvm.Cond.selects "RegressionCourt$Bisection" ({ cls := "java/lang/Object", name := "getClass", desc := "()Ljava/lang/Class;" } : Jvm.MethodName) ({ cls := "java/lang/Object", name := "getClass", desc := "()Ljava/lang/Class;" } : Jvm.MethodName)) ∈ lw_tbl := List.mem_of_getElem? (i := 250) (by decide +kernel)
theorem qw_201 : (Jvm.Cond.selects "RegressionCourt$Change" ({ cls := "java/lang/Object", name := "getClass", desc := "()Ljava/lang/Class;" } : Jvm.MethodName) ({ cls := "java/lang/Object", name := "getClass", desc := "()Ljava/lang/Class;" } : Jvm.MethodName)) ∈ lw_tbl := List.mem_of_getElem? (i := 251) (by decide +kernel)
theorem qw_202 : (Jvm.Cond.selects "RegressionCourt$Duel" ({ cls := "java/lang/Object", name := "getClass", desc := "()Ljava/lang/Class;" } : Jvm.MethodName) ({ cls := "java/lang/Object", name := "getClass", desc := "()Ljava/lang/Class;" } : Jvm.MethodName)) ∈ lw_tbl := List.mem_of_getElem? (i := 252) (by decide +kernel)
theorem qw_203 : (Jvm.Cond.selects "RegressionCourt$Machine" ({ cls := "java/lang/Object", name := "getClass", desc := "()Ljava/lang/Class;" } : Jvm.MethodName) ({ cls := "java/lang/Object", name := "getClass", desc := "()Ljava/lang/Class;" } : Jvm.MethodName)) ∈ lw_tbl := List.mem_of_getElem? (i := 253) (by decide +kernel)
theorem qw_204 : (Jvm.Cond.selects "RegressionCourt$Run" ({ cls := "java/lang/Object", name := "getClass", desc := "()Ljava/lang/Class;" } : Jvm.MethodName) ({ cls := "java/lang/Object", name := "getClass", desc := "()Ljava/lang/Class;" } : Jvm.MethodName)) ∈ lw_tbl := List.mem_of_getElem? (i := 254) (by decide +kernel)
theorem qw_205 : (Jvm.Cond.selects "RegressionCourt$Sample" ({ cls := "java/lang/Object", name := "getClass", desc := "()Ljava/lang/Class;" } : Jvm.MethodName) ({ cls := "java/lang/Object", name := "getClass", desc := "()Ljava/lang/Class;" } : Jvm.MethodName)) ∈ lw_tbl := List.mem_of_getElem? (i := 255) (by decide +kernel)
theorem qw_206 : (Jvm.Cond.selects "java/lang/IllegalArgumentException" ({ cls := "java/lang/Object", name := "getClass", desc := "()Ljava/lang/Class;" } : Jvm.MethodName) ({ cls := "java/lang/Object", name := "getClass", desc := "()Ljava/lang/Class;" } : Jvm.MethodName)) ∈ lw_tbl := List.mem_of_getElem? (i := 256) (by decide +kernel)
theorem qw_207 : (Jvm.Cond.selects "java/lang/IllegalStateException" ({ cls := "java/lang/Object", name := "getClass", desc := "()Ljava/lang/Class;" } : Jvm.MethodName) ({ cls := "java/lang/Object", name := "getClass", desc := "()Ljava/lang/Class;" } : Jvm.MethodName)) ∈ lw_tbl := List.mem_of_getElem? (i := 257) (by decide +kernel)
theorem qw_208 : (Jvm.Cond.selects "java/lang/IndexOutOfBoundsException" ({ cls := "java/lang/Object", name := "getClass", desc := "()Ljava/lang/Class;" } : Jvm.MethodName) ({ cls := "java/lang/Object", name := "getClass", desc := "()Ljava/lang/Class;" } : Jvm.MethodName)) ∈ lw_tbl := List.mem_of_getElem? (i := 258) (by decide +kernel)
theorem qw_209 : (Jvm.Cond.selects "java/util/ArrayList" ({ cls := "java/lang/Object", name := "getClass", desc := "()Ljava/lang/Class;" } : Jvm.MethodName) ({ cls := "java/lang/Object", name := "getClass", desc := "()Ljava/lang/Class;" } : Jvm.MethodName)) ∈ lw_tbl := List.mem_of_getElem? (i := 259) (by decide +kernel)
theorem qw_210 : (Jvm.Cond.native ({ cls := "java/lang/Object", name := "getClass", desc := "()Ljava/lang/Class;" } : Jvm.MethodName)) ∈ lw_tbl := List.mem_of_getElem? (i := 260) (by decide +kernel)
theorem qw_211 : (Jvm.Cond.methodLink "java/util/Arrays" (300 : Nat) ({ cls := "java/util/Arrays", name := "copyOf", desc := "([Ljava/lang/Object;ILjava/lang/Class;)[Ljava/lang/Object;" } : Jvm.MethodName)) ∈ lw_tbl := List.mem_of_getElem? (i := 261) (by decide +kernel)
theorem qw_212 : (Jvm.Cond.static ({ cls := "java/util/Arrays", name := "copyOf", desc := "([Ljava/lang/Object;ILjava/lang/Class;)[Ljava/lang/Object;" } : Jvm.MethodName)) ∈ lw_tbl := List.mem_of_getElem? (i := 262) (by decide +kernel)
set_option maxRecDepth 50000 in
theorem qw_213 : (Jvm.Cond.code ({ cls := "java/util/Arrays", name := "copyOf", desc := "([Ljava/lang/Object;ILjava/lang/Class;)[Ljava/lang/Object;" } : Jvm.MethodName) prog_30_method_120_code (4 : Nat) (Option.some (Jvm.ClassFile.FieldType.array (Jvm.ClassFile.FieldType.object "java/lang/Object")))) ∈ lw_tbl := List.mem_of_getElem? (i := 263) rfl
theorem qw_214 : (Jvm.Cond.classLink "java/util/Arrays" (110 : Nat) "[Ljava/lang/Object;") ∈ lw_tbl := List.mem_of_getElem? (i := 264) (by decide +kernel)
theorem qw_215 : (Jvm.Cond.arrayOver (Jvm.ClassFile.FieldType.object "java/lang/Object")) ∈ lw_tbl := List.mem_of_getElem? (i := 265) (by decide +kernel)
theorem qw_216 : (Jvm.Cond.classLink "java/util/Arrays" (2 : Nat) "java/lang/Object") ∈ lw_tbl := List.mem_of_getElem? (i := 266) (by decide +kernel)
theorem qw_217 : (Jvm.Cond.methodLink "java/util/Arrays" (304 : Nat) ({ cls := "java/lang/Math", name := "min", desc := "(II)I" } : Jvm.MethodName)) ∈ lw_tbl := List.mem_of_getElem? (i := 267) (by decide +kernel)
theorem qw_218 : (Jvm.Cond.static ({ cls := "java/lang/Math", name := "min", desc := "(II)I" } : Jvm.MethodName)) ∈ lw_tbl := List.mem_of_getElem? (i := 268) (by decide +kernel)
set_option maxRecDepth 50000 in
theorem qw_219 : (Jvm.Cond.code ({ cls := "java/lang/Math", name := "min", desc := "(II)I" } : Jvm.MethodName) prog_19_method_69_code (2 : Nat) (Option.some Jvm.ClassFile.FieldType.int)) ∈ lw_tbl := List.mem_of_getElem? (i := 269) rfl
theorem qw_220 : (Jvm.Cond.methodLink "java/util/Arrays" (150 : Nat) ({ cls := "java/lang/System", name := "arraycopy", desc := "(Ljava/lang/Object;ILjava/lang/Object;II)V" } : Jvm.MethodName)) ∈ lw_tbl := List.mem_of_getElem? (i := 270) (by decide +kernel)
theorem qw_221 : (Jvm.Cond.static ({ cls := "java/lang/System", name := "arraycopy", desc := "(Ljava/lang/Object;ILjava/lang/Object;II)V" } : Jvm.MethodName)) ∈ lw_tbl := List.mem_of_getElem? (i := 271) (by decide +kernel)
theorem qw_222 : (Jvm.Cond.native ({ cls := "java/lang/System", name := "arraycopy", desc := "(Ljava/lang/Object;ILjava/lang/Object;II)V" } : Jvm.MethodName)) ∈ lw_tbl := List.mem_of_getElem? (i := 272) (by decide +kernel)
theorem qw_223 : (Jvm.Cond.methodLink "java/util/ArrayList" (79 : Nat) ({ cls := "java/lang/Math", name := "max", desc := "(II)I" } : Jvm.MethodName)) ∈ lw_tbl := List.mem_of_getElem? (i := 273) (by decide +kernel)
theorem qw_224 : (Jvm.Cond.classLink "java/util/ArrayList" (7 : Nat) "java/lang/Object") ∈ lw_tbl := List.mem_of_getElem? (i := 274) (by decide +kernel)
theorem qw_225 : (Jvm.Cond.fieldLink "RegressionCourt" (10 : Nat) "RegressionCourt" "machines" "Ljava/util/ArrayList;") ∈ lw_tbl := List.mem_of_getElem? (i := 275) (by decide +kernel)
theorem qw_226 : (Jvm.Cond.fieldLink "RegressionCourt" (16 : Nat) "RegressionCourt" "changes" "Ljava/util/ArrayList;") ∈ lw_tbl := List.mem_of_getElem? (i := 276) (by decide +kernel)
theorem qw_227 : (Jvm.Cond.fieldLink "RegressionCourt" (19 : Nat) "RegressionCourt" "runs" "Ljava/util/ArrayList;") ∈ lw_tbl := List.mem_of_getElem? (i := 277) (by decide +kernel)
theorem qw_228 : (Jvm.Cond.fieldLink "RegressionCourt" (25 : Nat) "RegressionCourt" "origin" "LRegressionCourt$Change;") ∈ lw_tbl := List.mem_of_getElem? (i := 278) (by decide +kernel)
theorem qw_229 : (Jvm.Cond.fieldLink "RegressionCourt" (32 : Nat) "RegressionCourt" "sample" "LRegressionCourt$Sample;") ∈ lw_tbl := List.mem_of_getElem? (i := 279) (by decide +kernel)
theorem qw_230 : (Jvm.Cond.fieldLink "RegressionCourt" (39 : Nat) "RegressionCourt" "duel" "LRegressionCourt$Duel;") ∈ lw_tbl := List.mem_of_getElem? (i := 280) (by decide +kernel)
theorem qw_231 : (Jvm.Cond.fieldLink "RegressionCourt" (46 : Nat) "RegressionCourt" "bisection" "LRegressionCourt$Bisection;") ∈ lw_tbl := List.mem_of_getElem? (i := 281) (by decide +kernel)
theorem qw_232 : (Jvm.Cond.fieldLink "RegressionCourt" (50 : Nat) "RegressionCourt" "enough" "I") ∈ lw_tbl := List.mem_of_getElem? (i := 282) (by decide +kernel)
theorem qw_233 : (Jvm.Cond.fieldLink "RegressionCourt" (54 : Nat) "RegressionCourt" "level" "I") ∈ lw_tbl := List.mem_of_getElem? (i := 283) (by decide +kernel)
theorem qw_234 : (Jvm.Cond.fieldLink "RegressionCourt" (57 : Nat) "RegressionCourt" "minutesLeft" "I") ∈ lw_tbl := List.mem_of_getElem? (i := 284) (by decide +kernel)
theorem qw_235 : (Jvm.Cond.fieldLink "RegressionCourt" (60 : Nat) "RegressionCourt" "credit" "I") ∈ lw_tbl := List.mem_of_getElem? (i := 285) (by decide +kernel)
theorem qw_236 : (Jvm.Cond.fieldLink "RegressionCourt" (63 : Nat) "RegressionCourt" "baseline" "I") ∈ lw_tbl := List.mem_of_getElem? (i := 286) (by decide +kernel)
theorem qw_237 : (Jvm.Cond.fieldLink "RegressionCourt" (66 : Nat) "RegressionCourt" "lastNamed" "I") ∈ lw_tbl := List.mem_of_getElem? (i := 287) (by decide +kernel)
theorem qw_265 : (Jvm.Cond.methodLink "RegressionCourtLaw" (22 : Nat) ({ cls := "RegressionCourt", name := "machine", desc := "(II)I" } : Jvm.MethodName)) ∈ lw_tbl := List.mem_of_getElem? (i := 315) (by decide +kernel)
theorem qw_266 : (Jvm.Cond.instanceMethod ({ cls := "RegressionCourt", name := "machine", desc := "(II)I" } : Jvm.MethodName)) ∈ lw_tbl := List.mem_of_getElem? (i := 316) (by decide +kernel)
theorem qw_267 : (Jvm.Cond.selects "RegressionCourt" ({ cls := "RegressionCourt", name := "machine", desc := "(II)I" } : Jvm.MethodName) ({ cls := "RegressionCourt", name := "machine", desc := "(II)I" } : Jvm.MethodName)) ∈ lw_tbl := List.mem_of_getElem? (i := 317) (by decide +kernel)
set_option maxRecDepth 50000 in
theorem qw_268 : (Jvm.Cond.code ({ cls := "RegressionCourt", name := "machine", desc := "(II)I" } : Jvm.MethodName) prog_1_method_2_code (3 : Nat) (Option.some Jvm.ClassFile.FieldType.int)) ∈ lw_tbl := List.mem_of_getElem? (i := 318) rfl
theorem qw_269 : (Jvm.Cond.methodLink "RegressionCourt" (73 : Nat) ({ cls := "RegressionCourt", name := "isOutside", desc := "(III)Z" } : Jvm.MethodName)) ∈ lw_tbl := List.mem_of_getElem? (i := 319) (by decide +kernel)
theorem qw_270 : (Jvm.Cond.static ({ cls := "RegressionCourt", name := "isOutside", desc := "(III)Z" } : Jvm.MethodName)) ∈ lw_tbl := List.mem_of_getElem? (i := 320) (by decide +kernel)
set_option maxRecDepth 50000 in
theorem qw_271 : (Jvm.Cond.code ({ cls := "RegressionCourt", name := "isOutside", desc := "(III)Z" } : Jvm.MethodName) prog_1_method_25_code (3 : Nat) (Option.some Jvm.ClassFile.FieldType.boolean)) ∈ lw_tbl := List.mem_of_getElem? (i := 321) rfl
theorem qw_272 : (Jvm.Cond.methodLink "RegressionCourt" (77 : Nat) ({ cls := "RegressionCourt", name := "isNoMeasure", desc := "(I)Z" } : Jvm.MethodName)) ∈ lw_tbl := List.mem_of_getElem? (i := 322) (by decide +kernel)
theorem qw_273 : (Jvm.Cond.static ({ cls := "RegressionCourt", name := "isNoMeasure", desc := "(I)Z" } : Jvm.MethodName)) ∈ lw_tbl := List.mem_of_getElem? (i := 323) (by decide +kernel)
set_option maxRecDepth 50000 in
theorem qw_274 : (Jvm.Cond.code ({ cls := "RegressionCourt", name := "isNoMeasure", desc := "(I)Z" } : Jvm.MethodName) prog_1_method_26_code (1 : Nat) (Option.some Jvm.ClassFile.FieldType.boolean)) ∈ lw_tbl := List.mem_of_getElem? (i := 324) rfl
theorem qw_275 : (Jvm.Cond.classLink "RegressionCourt" (81 : Nat) "java/lang/IllegalArgumentException") ∈ lw_tbl := List.mem_of_getElem? (i := 325) (by decide +kernel)
theorem qw_276 : (Jvm.Cond.instantiable "java/lang/IllegalArgumentException" (6 : Nat)) ∈ lw_tbl := List.mem_of_getElem? (i := 326) (by decide +kernel)
theorem qw_277 : (Jvm.Cond.castable "java/lang/IllegalArgumentException" "java/lang/IllegalArgumentException") ∈ lw_tbl := List.mem_of_getElem? (i := 327) (by decide +kernel)
theorem qw_278 : (Jvm.Cond.declares ({ cls := "java/lang/RuntimeException", name := "<init>", desc := "()V" } : Jvm.MethodName)) ∈ lw_tbl := List.mem_of_getElem? (i := 328) (by decide +kernel)
theorem qw_279 : (Jvm.Cond.declares ({ cls := "java/lang/RuntimeException", name := "<init>", desc := "(Ljava/lang/String;)V" } : Jvm.MethodName)) ∈ lw_tbl := List.mem_of_getElem? (i := 329) (by decide +kernel)
theorem qw_280 : (Jvm.Cond.declares ({ cls := "java/lang/Exception", name := "<init>", desc := "()V" } : Jvm.MethodName)) ∈ lw_tbl := List.mem_of_getElem? (i := 330) (by decide +kernel)
theorem qw_281 : (Jvm.Cond.declares ({ cls := "java/lang/Exception", name := "<init>", desc := "(Ljava/lang/String;)V" } : Jvm.MethodName)) ∈ lw_tbl := List.mem_of_getElem? (i := 331) (by decide +kernel)
theorem qw_282 : (Jvm.Cond.declares ({ cls := "java/lang/Throwable", name := "<init>", desc := "()V" } : Jvm.MethodName)) ∈ lw_tbl := List.mem_of_getElem? (i := 332) (by decide +kernel)
theorem qw_283 : (Jvm.Cond.declares ({ cls := "java/lang/Throwable", name := "<init>", desc := "(Ljava/lang/String;)V" } : Jvm.MethodName)) ∈ lw_tbl := List.mem_of_getElem? (i := 333) (by decide +kernel)
theorem qw_284 : (Jvm.Cond.selects "java/lang/IllegalArgumentException" ({ cls := "java/lang/Throwable", name := "fillInStackTrace", desc := "(I)Ljava/lang/Throwable;" } : Jvm.MethodName) ({ cls := "java/lang/Throwable", name := "fillInStackTrace", desc := "(I)Ljava/lang/Throwable;" } : Jvm.MethodName)) ∈ lw_tbl := List.mem_of_getElem? (i := 334) (by decide +kernel)
theorem qw_285 : (Jvm.Cond.selects "java/lang/IllegalArgumentException" ({ cls := "java/lang/Throwable", name := "fillInStackTrace", desc := "()Ljava/lang/Throwable;" } : Jvm.MethodName) ({ cls := "java/lang/Throwable", name := "fillInStackTrace", desc := "()Ljava/lang/Throwable;" } : Jvm.MethodName)) ∈ lw_tbl := List.mem_of_getElem? (i := 335) (by decide +kernel)
theorem qw_296 : (Jvm.Cond.fieldLink "java/lang/Throwable" (198 : Nat) "java/lang/Throwable" "backtrace" "Ljava/lang/Object;") ∈ lw_tbl := List.mem_of_getElem? (i := 346) (by decide +kernel)
theorem qw_298 : (Jvm.Cond.instanceMethod ({ cls := "java/lang/Throwable", name := "<init>", desc := "()V" } : Jvm.MethodName)) ∈ lw_tbl := List.mem_of_getElem? (i := 348) (by decide +kernel)
set_option maxRecDepth 50000 in
theorem qw_299 : (Jvm.Cond.code ({ cls := "java/lang/Throwable", name := "<init>", desc := "()V" } : Jvm.MethodName) prog_24_method_1_code (1 : Nat) (Option.none : Option Jvm.ClassFile.FieldType)) ∈ lw_tbl := List.mem_of_getElem? (i := 349) rfl
theorem qw_300 : (Jvm.Cond.methodLink "java/lang/Throwable" (1 : Nat) ({ cls := "java/lang/Object", name := "<init>", desc := "()V" } : Jvm.MethodName)) ∈ lw_tbl := List.mem_of_getElem? (i := 350) (by decide +kernel)
theorem qw_301 : (Jvm.Cond.fieldLink "java/lang/Throwable" (13 : Nat) "java/lang/Throwable" "UNASSIGNED_STACK" "[Ljava/lang/StackTraceElement;") ∈ lw_tbl := List.mem_of_getElem? (i := 351) (by decide +kernel)
theorem qw_303 : (Jvm.Cond.fieldLink "java/lang/Throwable" (20 : Nat) "java/lang/Throwable" "SUPPRESSED_SENTINEL" "Ljava/util/List;") ∈ lw_tbl := List.mem_of_getElem? (i := 353) (by decide +kernel)
theorem qw_305 : (Jvm.Cond.methodLink "java/lang/Throwable" (27 : Nat) ({ cls := "java/lang/Throwable", name := "fillInStackTrace", desc := "()Ljava/lang/Throwable;" } : Jvm.MethodName)) ∈ lw_tbl := List.mem_of_getElem? (i := 355) (by decide +kernel)
theorem qw_306 : (Jvm.Cond.instanceMethod ({ cls := "java/lang/Throwable", name := "fillInStackTrace", desc := "()Ljava/lang/Throwable;" } : Jvm.MethodName)) ∈ lw_tbl := List.mem_of_getElem? (i := 356) (by decide +kernel)
theorem qw_307 : (Jvm.Cond.sameMethod "java/lang/Throwable" "java/lang/Throwable" "fillInStackTrace" "()Ljava/lang/Throwable;") ∈ lw_tbl := List.mem_of_getElem? (i := 357) (by decide +kernel)
theorem qw_308 : (Jvm.Cond.selects "java/lang/IllegalStateException" ({ cls := "java/lang/Throwable", name := "fillInStackTrace", desc := "()Ljava/lang/Throwable;" } : Jvm.MethodName) ({ cls := "java/lang/Throwable", name := "fillInStackTrace", desc := "()Ljava/lang/Throwable;" } : Jvm.MethodName)) ∈ lw_tbl := List.mem_of_getElem? (i := 358) (by decide +kernel)
theorem qw_309 : (Jvm.Cond.selects "java/lang/IndexOutOfBoundsException" ({ cls := "java/lang/Throwable", name := "fillInStackTrace", desc := "()Ljava/lang/Throwable;" } : Jvm.MethodName) ({ cls := "java/lang/Throwable", name := "fillInStackTrace", desc := "()Ljava/lang/Throwable;" } : Jvm.MethodName)) ∈ lw_tbl := List.mem_of_getElem? (i := 359) (by decide +kernel)
theorem qw_311 : (Jvm.Cond.methodLink "java/lang/Throwable" (202 : Nat) ({ cls := "java/lang/Throwable", name := "fillInStackTrace", desc := "(I)Ljava/lang/Throwable;" } : Jvm.MethodName)) ∈ lw_tbl := List.mem_of_getElem? (i := 361) (by decide +kernel)
theorem qw_313 : (Jvm.Cond.instanceMethod ({ cls := "java/lang/Throwable", name := "fillInStackTrace", desc := "(I)Ljava/lang/Throwable;" } : Jvm.MethodName)) ∈ lw_tbl := List.mem_of_getElem? (i := 363) (by decide +kernel)
theorem qw_314 : (Jvm.Cond.instantiable "java/lang/Throwable" (6 : Nat)) ∈ lw_tbl := List.mem_of_getElem? (i := 364) (by decide +kernel)
theorem qw_315 : (Jvm.Cond.native ({ cls := "java/lang/Throwable", name := "fillInStackTrace", desc := "(I)Ljava/lang/Throwable;" } : Jvm.MethodName)) ∈ lw_tbl := List.mem_of_getElem? (i := 365) (by decide +kernel)
theorem qw_317 : (Jvm.Cond.methodLink "RegressionCourt" (85 : Nat) ({ cls := "java/lang/IllegalArgumentException", name := "<init>", desc := "(Ljava/lang/String;)V" } : Jvm.MethodName)) ∈ lw_tbl := List.mem_of_getElem? (i := 367) (by decide +kernel)
theorem qw_318 : (Jvm.Cond.instanceMethod ({ cls := "java/lang/IllegalArgumentException", name := "<init>", desc := "(Ljava/lang/String;)V" } : Jvm.MethodName)) ∈ lw_tbl := List.mem_of_getElem? (i := 368) (by decide +kernel)
set_option maxRecDepth 50000 in
theorem qw_319 : (Jvm.Cond.code ({ cls := "java/lang/IllegalArgumentException", name := "<init>", desc := "(Ljava/lang/String;)V" } : Jvm.MethodName) prog_15_method_2_code (2 : Nat) (Option.none : Option Jvm.ClassFile.FieldType)) ∈ lw_tbl := List.mem_of_getElem? (i := 369) rfl
theorem qw_320 : (Jvm.Cond.methodLink "java/lang/IllegalArgumentException" (7 : Nat) ({ cls := "java/lang/RuntimeException", name := "<init>", desc := "(Ljava/lang/String;)V" } : Jvm.MethodName)) ∈ lw_tbl := List.mem_of_getElem? (i := 370) (by decide +kernel)
theorem qw_321 : (Jvm.Cond.instanceMethod ({ cls := "java/lang/RuntimeException", name := "<init>", desc := "(Ljava/lang/String;)V" } : Jvm.MethodName)) ∈ lw_tbl := List.mem_of_getElem? (i := 371) (by decide +kernel)
set_option maxRecDepth 50000 in
theorem qw_322 : (Jvm.Cond.code ({ cls := "java/lang/RuntimeException", name := "<init>", desc := "(Ljava/lang/String;)V" } : Jvm.MethodName) prog_21_method_2_code (2 : Nat) (Option.none : Option Jvm.ClassFile.FieldType)) ∈ lw_tbl := List.mem_of_getElem? (i := 372) rfl
theorem qw_323 : (Jvm.Cond.methodLink "java/lang/RuntimeException" (7 : Nat) ({ cls := "java/lang/Exception", name := "<init>", desc := "(Ljava/lang/String;)V" } : Jvm.MethodName)) ∈ lw_tbl := List.mem_of_getElem? (i := 373) (by decide +kernel)
theorem qw_324 : (Jvm.Cond.instanceMethod ({ cls := "java/lang/Exception", name := "<init>", desc := "(Ljava/lang/String;)V" } : Jvm.MethodName)) ∈ lw_tbl := List.mem_of_getElem? (i := 374) (by decide +kernel)
set_option maxRecDepth 50000 in
theorem qw_325 : (Jvm.Cond.code ({ cls := "java/lang/Exception", name := "<init>", desc := "(Ljava/lang/String;)V" } : Jvm.MethodName) prog_14_method_2_code (2 : Nat) (Option.none : Option Jvm.ClassFile.FieldType)) ∈ lw_tbl := List.mem_of_getElem? (i := 375) rfl
theorem qw_326 : (Jvm.Cond.methodLink "java/lang/Exception" (7 : Nat) ({ cls := "java/lang/Throwable", name := "<init>", desc := "(Ljava/lang/String;)V" } : Jvm.MethodName)) ∈ lw_tbl := List.mem_of_getElem? (i := 376) (by decide +kernel)
theorem qw_327 : (Jvm.Cond.instanceMethod ({ cls := "java/lang/Throwable", name := "<init>", desc := "(Ljava/lang/String;)V" } : Jvm.MethodName)) ∈ lw_tbl := List.mem_of_getElem? (i := 377) (by decide +kernel)
set_option maxRecDepth 50000 in
theorem qw_328 : (Jvm.Cond.code ({ cls := "java/lang/Throwable", name := "<init>", desc := "(Ljava/lang/String;)V" } : Jvm.MethodName) prog_24_method_2_code (2 : Nat) (Option.none : Option Jvm.ClassFile.FieldType)) ∈ lw_tbl := List.mem_of_getElem? (i := 378) rfl
theorem qw_329 : (Jvm.Cond.fieldLink "java/lang/Throwable" (198 : Nat) "java/lang/Throwable" "backtrace" "Ljava/lang/Object;") ∈ lw_tbl := List.mem_of_getElem? (i := 379) (by decide +kernel)
theorem qw_330 : (Jvm.Cond.fieldLink "java/lang/Throwable" (31 : Nat) "java/lang/Throwable" "detailMessage" "Ljava/lang/String;") ∈ lw_tbl := List.mem_of_getElem? (i := 380) (by decide +kernel)
theorem qw_331 : (Jvm.Cond.fieldLink "java/lang/Throwable" (7 : Nat) "java/lang/Throwable" "cause" "Ljava/lang/Throwable;") ∈ lw_tbl := List.mem_of_getElem? (i := 381) (by decide +kernel)
theorem qw_332 : (Jvm.Cond.fieldLink "java/lang/Throwable" (17 : Nat) "java/lang/Throwable" "stackTrace" "[Ljava/lang/StackTraceElement;") ∈ lw_tbl := List.mem_of_getElem? (i := 382) (by decide +kernel)
theorem qw_333 : (Jvm.Cond.fieldLink "java/lang/Throwable" (24 : Nat) "java/lang/Throwable" "suppressedExceptions" "Ljava/util/List;") ∈ lw_tbl := List.mem_of_getElem? (i := 383) (by decide +kernel)
theorem qw_342 : (Jvm.Cond.arrayClass Jvm.ClassFile.FieldType.byte) ∈ lw_tbl := List.mem_of_getElem? (i := 392) (by decide +kernel)
theorem qw_343 : (Jvm.Cond.methodLink "RegressionCourt" (88 : Nat) ({ cls := "java/util/ArrayList", name := "size", desc := "()I" } : Jvm.MethodName)) ∈ lw_tbl := List.mem_of_getElem? (i := 393) (by decide +kernel)
theorem qw_344 : (Jvm.Cond.instanceMethod ({ cls := "java/util/ArrayList", name := "size", desc := "()I" } : Jvm.MethodName)) ∈ lw_tbl := List.mem_of_getElem? (i := 394) (by decide +kernel)
theorem qw_345 : (Jvm.Cond.selects "java/util/ArrayList" ({ cls := "java/util/ArrayList", name := "size", desc := "()I" } : Jvm.MethodName) ({ cls := "java/util/ArrayList", name := "size", desc := "()I" } : Jvm.MethodName)) ∈ lw_tbl := List.mem_of_getElem? (i := 395) (by decide +kernel)
set_option maxRecDepth 50000 in
theorem qw_346 : (Jvm.Cond.code ({ cls := "java/util/ArrayList", name := "size", desc := "()I" } : Jvm.MethodName) prog_29_method_8_code (1 : Nat) (Option.some Jvm.ClassFile.FieldType.int)) ∈ lw_tbl := List.mem_of_getElem? (i := 396) rfl
theorem qw_347 : (Jvm.Cond.classLink "RegressionCourt" (92 : Nat) "java/lang/IllegalStateException") ∈ lw_tbl := List.mem_of_getElem? (i := 397) (by decide +kernel)
theorem qw_348 : (Jvm.Cond.instantiable "java/lang/IllegalStateException" (6 : Nat)) ∈ lw_tbl := List.mem_of_getElem? (i := 398) (by decide +kernel)
theorem qw_349 : (Jvm.Cond.castable "java/lang/IllegalStateException" "java/lang/IllegalStateException") ∈ lw_tbl := List.mem_of_getElem? (i := 399) (by decide +kernel)
theorem qw_350 : (Jvm.Cond.selects "java/lang/IllegalStateException" ({ cls := "java/lang/Throwable", name := "fillInStackTrace", desc := "(I)Ljava/lang/Throwable;" } : Jvm.MethodName) ({ cls := "java/lang/Throwable", name := "fillInStackTrace", desc := "(I)Ljava/lang/Throwable;" } : Jvm.MethodName)) ∈ lw_tbl := List.mem_of_getElem? (i := 400) (by decide +kernel)
theorem qw_357 : (Jvm.Cond.methodLink "RegressionCourt" (96 : Nat) ({ cls := "java/lang/IllegalStateException", name := "<init>", desc := "(Ljava/lang/String;)V" } : Jvm.MethodName)) ∈ lw_tbl := List.mem_of_getElem? (i := 407) (by decide +kernel)
theorem qw_358 : (Jvm.Cond.instanceMethod ({ cls := "java/lang/IllegalStateException", name := "<init>", desc := "(Ljava/lang/String;)V" } : Jvm.MethodName)) ∈ lw_tbl := List.mem_of_getElem? (i := 408) (by decide +kernel)
set_option maxRecDepth 50000 in
theorem qw_359 : (Jvm.Cond.code ({ cls := "java/lang/IllegalStateException", name := "<init>", desc := "(Ljava/lang/String;)V" } : Jvm.MethodName) prog_16_method_2_code (2 : Nat) (Option.none : Option Jvm.ClassFile.FieldType)) ∈ lw_tbl := List.mem_of_getElem? (i := 409) rfl
theorem qw_360 : (Jvm.Cond.methodLink "java/lang/IllegalStateException" (7 : Nat) ({ cls := "java/lang/RuntimeException", name := "<init>", desc := "(Ljava/lang/String;)V" } : Jvm.MethodName)) ∈ lw_tbl := List.mem_of_getElem? (i := 410) (by decide +kernel)
theorem qw_363 : (Jvm.Cond.classLink "RegressionCourt" (97 : Nat) "RegressionCourt$Machine") ∈ lw_tbl := List.mem_of_getElem? (i := 413) (by decide +kernel)
theorem qw_364 : (Jvm.Cond.instantiable "RegressionCourt$Machine" (8 : Nat)) ∈ lw_tbl := List.mem_of_getElem? (i := 414) (by decide +kernel)
theorem qw_365 : (Jvm.Cond.methodLinkNest "RegressionCourt" (99 : Nat) ({ cls := "RegressionCourt$Machine", name := "<init>", desc := "(III)V" } : Jvm.MethodName) "RegressionCourt") ∈ lw_tbl := List.mem_of_getElem? (i := 415) (by decide +kernel)
theorem qw_366 : (Jvm.Cond.instanceMethod ({ cls := "RegressionCourt$Machine", name := "<init>", desc := "(III)V" } : Jvm.MethodName)) ∈ lw_tbl := List.mem_of_getElem? (i := 416) (by decide +kernel)
set_option maxRecDepth 50000 in
theorem qw_367 : (Jvm.Cond.code ({ cls := "RegressionCourt$Machine", name := "<init>", desc := "(III)V" } : Jvm.MethodName) prog_5_method_1_code (4 : Nat) (Option.none : Option Jvm.ClassFile.FieldType)) ∈ lw_tbl := List.mem_of_getElem? (i := 417) rfl
theorem qw_368 : (Jvm.Cond.methodLink "RegressionCourt$Machine" (1 : Nat) ({ cls := "java/lang/Object", name := "<init>", desc := "()V" } : Jvm.MethodName)) ∈ lw_tbl := List.mem_of_getElem? (i := 418) (by decide +kernel)
theorem qw_369 : (Jvm.Cond.fieldLink "RegressionCourt$Machine" (20 : Nat) "RegressionCourt$Machine" "number" "I") ∈ lw_tbl := List.mem_of_getElem? (i := 419) (by decide +kernel)
theorem qw_370 : (Jvm.Cond.fieldLinkNest "RegressionCourt" (307 : Nat) "RegressionCourt$Machine" "number" "I" "RegressionCourt") ∈ lw_tbl := List.mem_of_getElem? (i := 420) (by decide +kernel)
theorem qw_371 : (Jvm.Cond.fieldLink "RegressionCourt$Machine" (23 : Nat) "RegressionCourt$Machine" "price" "I") ∈ lw_tbl := List.mem_of_getElem? (i := 421) (by decide +kernel)
theorem qw_372 : (Jvm.Cond.fieldLinkNest "RegressionCourt" (141 : Nat) "RegressionCourt$Machine" "price" "I" "RegressionCourt") ∈ lw_tbl := List.mem_of_getElem? (i := 422) (by decide +kernel)
theorem qw_373 : (Jvm.Cond.fieldLink "RegressionCourt$Machine" (26 : Nat) "RegressionCourt$Machine" "scale" "I") ∈ lw_tbl := List.mem_of_getElem? (i := 423) (by decide +kernel)
theorem qw_374 : (Jvm.Cond.fieldLinkNest "RegressionCourt" (292 : Nat) "RegressionCourt$Machine" "scale" "I" "RegressionCourt") ∈ lw_tbl := List.mem_of_getElem? (i := 424) (by decide +kernel)
theorem qw_375 : (Jvm.Cond.fieldLink "RegressionCourt$Machine" (29 : Nat) "RegressionCourt$Machine" "measureBefore" "I") ∈ lw_tbl := List.mem_of_getElem? (i := 425) (by decide +kernel)
theorem qw_376 : (Jvm.Cond.fieldLink "RegressionCourt$Machine" (32 : Nat) "RegressionCourt$Machine" "measureTwoBefore" "I") ∈ lw_tbl := List.mem_of_getElem? (i := 426) (by decide +kernel)
theorem qw_377 : (Jvm.Cond.fieldLink "RegressionCourt$Machine" (7 : Nat) "RegressionCourt$Machine" "measures" "I") ∈ lw_tbl := List.mem_of_getElem? (i := 427) (by decide +kernel)
theorem qw_378 : (Jvm.Cond.fieldLinkNest "RegressionCourt" (299 : Nat) "RegressionCourt$Machine" "measures" "I" "RegressionCourt") ∈ lw_tbl := List.mem_of_getElem? (i := 428) (by decide +kernel)
theorem qw_379 : (Jvm.Cond.fieldLink "RegressionCourt$Machine" (13 : Nat) "RegressionCourt$Machine" "runs" "I") ∈ lw_tbl := List.mem_of_getElem? (i := 429) (by decide +kernel)
theorem qw_380 : (Jvm.Cond.fieldLinkNest "RegressionCourt" (156 : Nat) "RegressionCourt$Machine" "runs" "I" "RegressionCourt") ∈ lw_tbl := List.mem_of_getElem? (i := 430) (by decide +kernel)
theorem qw_381 : (Jvm.Cond.fieldLink "RegressionCourt$Machine" (16 : Nat) "RegressionCourt$Machine" "isAside" "Z") ∈ lw_tbl := List.mem_of_getElem? (i := 431) (by decide +kernel)
theorem qw_382 : (Jvm.Cond.fieldLinkNest "RegressionCourt$Run" (33 : Nat) "RegressionCourt$Machine" "isAside" "Z" "RegressionCourt") ∈ lw_tbl := List.mem_of_getElem? (i := 432) (by decide +kernel)
theorem qw_383 : (Jvm.Cond.fieldLinkNest "RegressionCourt" (120 : Nat) "RegressionCourt$Machine" "isAside" "Z" "RegressionCourt") ∈ lw_tbl := List.mem_of_getElem? (i := 433) (by decide +kernel)
theorem qw_401 : (Jvm.Cond.methodLink "RegressionCourtLaw" (25 : Nat) ({ cls := "RegressionCourt", name := "changes", desc := "(I)I" } : Jvm.MethodName)) ∈ lw_tbl := List.mem_of_getElem? (i := 451) (by decide +kernel)
theorem qw_402 : (Jvm.Cond.instanceMethod ({ cls := "RegressionCourt", name := "changes", desc := "(I)I" } : Jvm.MethodName)) ∈ lw_tbl := List.mem_of_getElem? (i := 452) (by decide +kernel)
theorem qw_403 : (Jvm.Cond.selects "RegressionCourt" ({ cls := "RegressionCourt", name := "changes", desc := "(I)I" } : Jvm.MethodName) ({ cls := "RegressionCourt", name := "changes", desc := "(I)I" } : Jvm.MethodName)) ∈ lw_tbl := List.mem_of_getElem? (i := 453) (by decide +kernel)
set_option maxRecDepth 50000 in
theorem qw_404 : (Jvm.Cond.code ({ cls := "RegressionCourt", name := "changes", desc := "(I)I" } : Jvm.MethodName) prog_1_method_5_code (3 : Nat) (Option.some Jvm.ClassFile.FieldType.int)) ∈ lw_tbl := List.mem_of_getElem? (i := 454) rfl
theorem qw_407 : (Jvm.Cond.methodLink "RegressionCourtLaw" (29 : Nat) ({ cls := "RegressionCourt", name := "rule", desc := "(II)I" } : Jvm.MethodName)) ∈ lw_tbl := List.mem_of_getElem? (i := 457) (by decide +kernel)
theorem qw_408 : (Jvm.Cond.instanceMethod ({ cls := "RegressionCourt", name := "rule", desc := "(II)I" } : Jvm.MethodName)) ∈ lw_tbl := List.mem_of_getElem? (i := 458) (by decide +kernel)
theorem qw_409 : (Jvm.Cond.selects "RegressionCourt" ({ cls := "RegressionCourt", name := "rule", desc := "(II)I" } : Jvm.MethodName) ({ cls := "RegressionCourt", name := "rule", desc := "(II)I" } : Jvm.MethodName)) ∈ lw_tbl := List.mem_of_getElem? (i := 459) (by decide +kernel)
set_option maxRecDepth 50000 in
theorem qw_410 : (Jvm.Cond.code ({ cls := "RegressionCourt", name := "rule", desc := "(II)I" } : Jvm.MethodName) prog_1_method_12_code (4 : Nat) (Option.some Jvm.ClassFile.FieldType.int)) ∈ lw_tbl := List.mem_of_getElem? (i := 460) rfl
theorem qw_412 : (Jvm.Cond.methodLink "RegressionCourt" (117 : Nat) ({ cls := "RegressionCourt", name := "goOn", desc := "()V" } : Jvm.MethodName)) ∈ lw_tbl := List.mem_of_getElem? (i := 462) (by decide +kernel)
theorem qw_414 : (Jvm.Cond.instanceMethod ({ cls := "RegressionCourt", name := "goOn", desc := "()V" } : Jvm.MethodName)) ∈ lw_tbl := List.mem_of_getElem? (i := 464) (by decide +kernel)
set_option maxRecDepth 50000 in
theorem qw_415 : (Jvm.Cond.code ({ cls := "RegressionCourt", name := "goOn", desc := "()V" } : Jvm.MethodName) prog_1_method_40_code (3 : Nat) (Option.none : Option Jvm.ClassFile.FieldType)) ∈ lw_tbl := List.mem_of_getElem? (i := 465) rfl
theorem qw_416 : (Jvm.Cond.methodLink "RegressionCourt" (346 : Nat) ({ cls := "RegressionCourt", name := "bisectOnce", desc := "()Z" } : Jvm.MethodName)) ∈ lw_tbl := List.mem_of_getElem? (i := 466) (by decide +kernel)
theorem qw_418 : (Jvm.Cond.instanceMethod ({ cls := "RegressionCourt", name := "bisectOnce", desc := "()Z" } : Jvm.MethodName)) ∈ lw_tbl := List.mem_of_getElem? (i := 468) (by decide +kernel)
set_option maxRecDepth 50000 in
theorem qw_419 : (Jvm.Cond.code ({ cls := "RegressionCourt", name := "bisectOnce", desc := "()Z" } : Jvm.MethodName) prog_1_method_41_code (3 : Nat) (Option.some Jvm.ClassFile.FieldType.boolean)) ∈ lw_tbl := List.mem_of_getElem? (i := 469) rfl
theorem qw_420 : (Jvm.Cond.methodLinkNest "RegressionCourt" (349 : Nat) ({ cls := "RegressionCourt$Bisection", name := "probe", desc := "()I" } : Jvm.MethodName) "RegressionCourt") ∈ lw_tbl := List.mem_of_getElem? (i := 470) (by decide +kernel)
theorem qw_422 : (Jvm.Cond.instanceMethod ({ cls := "RegressionCourt$Bisection", name := "probe", desc := "()I" } : Jvm.MethodName)) ∈ lw_tbl := List.mem_of_getElem? (i := 472) (by decide +kernel)
set_option maxRecDepth 50000 in
theorem qw_423 : (Jvm.Cond.code ({ cls := "RegressionCourt$Bisection", name := "probe", desc := "()I" } : Jvm.MethodName) prog_2_method_4_code (1 : Nat) (Option.some Jvm.ClassFile.FieldType.int)) ∈ lw_tbl := List.mem_of_getElem? (i := 473) rfl
theorem qw_424 : (Jvm.Cond.methodLink "RegressionCourt" (178 : Nat) ({ cls := "RegressionCourt", name := "meet", desc := "(II)V" } : Jvm.MethodName)) ∈ lw_tbl := List.mem_of_getElem? (i := 474) (by decide +kernel)
theorem qw_426 : (Jvm.Cond.instanceMethod ({ cls := "RegressionCourt", name := "meet", desc := "(II)V" } : Jvm.MethodName)) ∈ lw_tbl := List.mem_of_getElem? (i := 476) (by decide +kernel)
set_option maxRecDepth 50000 in
theorem qw_427 : (Jvm.Cond.code ({ cls := "RegressionCourt", name := "meet", desc := "(II)V" } : Jvm.MethodName) prog_1_method_39_code (3 : Nat) (Option.none : Option Jvm.ClassFile.FieldType)) ∈ lw_tbl := List.mem_of_getElem? (i := 477) rfl
theorem qw_428 : (Jvm.Cond.methodLinkNest "RegressionCourt" (250 : Nat) ({ cls := "RegressionCourt$Sample", name := "clear", desc := "()V" } : Jvm.MethodName) "RegressionCourt") ∈ lw_tbl := List.mem_of_getElem? (i := 478) (by decide +kernel)
theorem qw_430 : (Jvm.Cond.instanceMethod ({ cls := "RegressionCourt$Sample", name := "clear", desc := "()V" } : Jvm.MethodName)) ∈ lw_tbl := List.mem_of_getElem? (i := 480) (by decide +kernel)
set_option maxRecDepth 50000 in
theorem qw_431 : (Jvm.Cond.code ({ cls := "RegressionCourt$Sample", name := "clear", desc := "()V" } : Jvm.MethodName) prog_7_method_2_code (1 : Nat) (Option.none : Option Jvm.ClassFile.FieldType)) ∈ lw_tbl := List.mem_of_getElem? (i := 481) rfl
theorem qw_432 : (Jvm.Cond.methodLink "RegressionCourt" (151 : Nat) ({ cls := "RegressionCourt", name := "changeAt", desc := "(I)LRegressionCourt$Change;" } : Jvm.MethodName)) ∈ lw_tbl := List.mem_of_getElem? (i := 482) (by decide +kernel)
theorem qw_434 : (Jvm.Cond.instanceMethod ({ cls := "RegressionCourt", name := "changeAt", desc := "(I)LRegressionCourt$Change;" } : Jvm.MethodName)) ∈ lw_tbl := List.mem_of_getElem? (i := 484) (by decide +kernel)
set_option maxRecDepth 50000 in
theorem qw_435 : (Jvm.Cond.code ({ cls := "RegressionCourt", name := "changeAt", desc := "(I)LRegressionCourt$Change;" } : Jvm.MethodName) prog_1_method_28_code (2 : Nat) (Option.some (Jvm.ClassFile.FieldType.object "RegressionCourt$Change"))) ∈ lw_tbl := List.mem_of_getElem? (i := 485) rfl
theorem qw_436 : (Jvm.Cond.methodLink "RegressionCourt" (109 : Nat) ({ cls := "java/util/ArrayList", name := "get", desc := "(I)Ljava/lang/Object;" } : Jvm.MethodName)) ∈ lw_tbl := List.mem_of_getElem? (i := 486) (by decide +kernel)
theorem qw_437 : (Jvm.Cond.instanceMethod ({ cls := "java/util/ArrayList", name := "get", desc := "(I)Ljava/lang/Object;" } : Jvm.MethodName)) ∈ lw_tbl := List.mem_of_getElem? (i := 487) (by decide +kernel)
theorem qw_438 : (Jvm.Cond.selects "java/util/ArrayList" ({ cls := "java/util/ArrayList", name := "get", desc := "(I)Ljava/lang/Object;" } : Jvm.MethodName) ({ cls := "java/util/ArrayList", name := "get", desc := "(I)Ljava/lang/Object;" } : Jvm.MethodName)) ∈ lw_tbl := List.mem_of_getElem? (i := 488) (by decide +kernel)
set_option maxRecDepth 50000 in
theorem qw_439 : (Jvm.Cond.code ({ cls := "java/util/ArrayList", name := "get", desc := "(I)Ljava/lang/Object;" } : Jvm.MethodName) prog_29_method_20_code (2 : Nat) (Option.some (Jvm.ClassFile.FieldType.object "java/lang/Object"))) ∈ lw_tbl := List.mem_of_getElem? (i := 489) rfl
theorem qw_440 : (Jvm.Cond.methodLink "java/util/ArrayList" (118 : Nat) ({ cls := "java/util/Objects", name := "checkIndex", desc := "(II)I" } : Jvm.MethodName)) ∈ lw_tbl := List.mem_of_getElem? (i := 490) (by decide +kernel)
theorem qw_441 : (Jvm.Cond.static ({ cls := "java/util/Objects", name := "checkIndex", desc := "(II)I" } : Jvm.MethodName)) ∈ lw_tbl := List.mem_of_getElem? (i := 491) (by decide +kernel)
set_option maxRecDepth 50000 in
theorem qw_442 : (Jvm.Cond.code ({ cls := "java/util/Objects", name := "checkIndex", desc := "(II)I" } : Jvm.MethodName) prog_33_method_17_code (2 : Nat) (Option.some Jvm.ClassFile.FieldType.int)) ∈ lw_tbl := List.mem_of_getElem? (i := 492) rfl
theorem qw_443 : (Jvm.Cond.methodLink "java/util/Objects" (105 : Nat) ({ cls := "jdk/internal/util/Preconditions", name := "checkIndex", desc := "(IILjava/util/function/BiFunction;)I" } : Jvm.MethodName)) ∈ lw_tbl := List.mem_of_getElem? (i := 493) (by decide +kernel)
theorem qw_444 : (Jvm.Cond.static ({ cls := "jdk/internal/util/Preconditions", name := "checkIndex", desc := "(IILjava/util/function/BiFunction;)I" } : Jvm.MethodName)) ∈ lw_tbl := List.mem_of_getElem? (i := 494) (by decide +kernel)
set_option maxRecDepth 50000 in
theorem qw_445 : (Jvm.Cond.code ({ cls := "jdk/internal/util/Preconditions", name := "checkIndex", desc := "(IILjava/util/function/BiFunction;)I" } : Jvm.MethodName) prog_37_method_11_code (3 : Nat) (Option.some Jvm.ClassFile.FieldType.int)) ∈ lw_tbl := List.mem_of_getElem? (i := 495) rfl
theorem qw_446 : (Jvm.Cond.methodLink "java/util/ArrayList" (123 : Nat) ({ cls := "java/util/ArrayList", name := "elementData", desc := "(I)Ljava/lang/Object;" } : Jvm.MethodName)) ∈ lw_tbl := List.mem_of_getElem? (i := 496) (by decide +kernel)
theorem qw_447 : (Jvm.Cond.instanceMethod ({ cls := "java/util/ArrayList", name := "elementData", desc := "(I)Ljava/lang/Object;" } : Jvm.MethodName)) ∈ lw_tbl := List.mem_of_getElem? (i := 497) (by decide +kernel)
theorem qw_448 : (Jvm.Cond.selects "java/util/ArrayList" ({ cls := "java/util/ArrayList", name := "elementData", desc := "(I)Ljava/lang/Object;" } : Jvm.MethodName) ({ cls := "java/util/ArrayList", name := "elementData", desc := "(I)Ljava/lang/Object;" } : Jvm.MethodName)) ∈ lw_tbl := List.mem_of_getElem? (i := 498) (by decide +kernel)
set_option maxRecDepth 50000 in
theorem qw_449 : (Jvm.Cond.code ({ cls := "java/util/ArrayList", name := "elementData", desc := "(I)Ljava/lang/Object;" } : Jvm.MethodName) prog_29_method_18_code (2 : Nat) (Option.some (Jvm.ClassFile.FieldType.object "java/lang/Object"))) ∈ lw_tbl := List.mem_of_getElem? (i := 499) rfl
theorem qw_450 : (Jvm.Cond.methodLinkNest "RegressionCourt" (253 : Nat) ({ cls := "RegressionCourt$Sample", name := "addLastOf", desc := "(LRegressionCourt$Change;)V" } : Jvm.MethodName) "RegressionCourt") ∈ lw_tbl := List.mem_of_getElem? (i := 500) (by decide +kernel)
theorem qw_452 : (Jvm.Cond.instanceMethod ({ cls := "RegressionCourt$Sample", name := "addLastOf", desc := "(LRegressionCourt$Change;)V" } : Jvm.MethodName)) ∈ lw_tbl := List.mem_of_getElem? (i := 502) (by decide +kernel)
set_option maxRecDepth 50000 in
theorem qw_453 : (Jvm.Cond.code ({ cls := "RegressionCourt$Sample", name := "addLastOf", desc := "(LRegressionCourt$Change;)V" } : Jvm.MethodName) prog_7_method_4_code (4 : Nat) (Option.none : Option Jvm.ClassFile.FieldType)) ∈ lw_tbl := List.mem_of_getElem? (i := 503) rfl
theorem qw_454 : (Jvm.Cond.methodLink "RegressionCourt$Sample" (25 : Nat) ({ cls := "java/util/ArrayList", name := "size", desc := "()I" } : Jvm.MethodName)) ∈ lw_tbl := List.mem_of_getElem? (i := 504) (by decide +kernel)
theorem qw_455 : (Jvm.Cond.methodLink "RegressionCourt$Sample" (30 : Nat) ({ cls := "java/util/ArrayList", name := "get", desc := "(I)Ljava/lang/Object;" } : Jvm.MethodName)) ∈ lw_tbl := List.mem_of_getElem? (i := 505) (by decide +kernel)
theorem qw_456 : (Jvm.Cond.classLink "RegressionCourt$Sample" (34 : Nat) "RegressionCourt$Run") ∈ lw_tbl := List.mem_of_getElem? (i := 506) (by decide +kernel)
theorem qw_457 : (Jvm.Cond.methodLinkNest "RegressionCourt$Sample" (36 : Nat) ({ cls := "RegressionCourt$Run", name := "isCounting", desc := "()Z" } : Jvm.MethodName) "RegressionCourt") ∈ lw_tbl := List.mem_of_getElem? (i := 507) (by decide +kernel)
theorem qw_459 : (Jvm.Cond.instanceMethod ({ cls := "RegressionCourt$Run", name := "isCounting", desc := "()Z" } : Jvm.MethodName)) ∈ lw_tbl := List.mem_of_getElem? (i := 509) (by decide +kernel)
theorem qw_460 : (Jvm.Cond.instantiable "RegressionCourt$Run" (5 : Nat)) ∈ lw_tbl := List.mem_of_getElem? (i := 510) (by decide +kernel)
set_option maxRecDepth 50000 in
theorem qw_461 : (Jvm.Cond.code ({ cls := "RegressionCourt$Run", name := "isCounting", desc := "()Z" } : Jvm.MethodName) prog_6_method_2_code (1 : Nat) (Option.some Jvm.ClassFile.FieldType.boolean)) ∈ lw_tbl := List.mem_of_getElem? (i := 511) rfl
theorem qw_462 : (Jvm.Cond.methodLink "RegressionCourt$Sample" (43 : Nat) ({ cls := "RegressionCourt$Sample", name := "add", desc := "(I)V" } : Jvm.MethodName)) ∈ lw_tbl := List.mem_of_getElem? (i := 512) (by decide +kernel)
theorem qw_464 : (Jvm.Cond.instanceMethod ({ cls := "RegressionCourt$Sample", name := "add", desc := "(I)V" } : Jvm.MethodName)) ∈ lw_tbl := List.mem_of_getElem? (i := 514) (by decide +kernel)
set_option maxRecDepth 50000 in
theorem qw_465 : (Jvm.Cond.code ({ cls := "RegressionCourt$Sample", name := "add", desc := "(I)V" } : Jvm.MethodName) prog_7_method_3_code (3 : Nat) (Option.none : Option Jvm.ClassFile.FieldType)) ∈ lw_tbl := List.mem_of_getElem? (i := 515) rfl
theorem qw_466 : (Jvm.Cond.methodLinkNest "RegressionCourt" (262 : Nat) ({ cls := "RegressionCourt$Duel", name := "weigh", desc := "()V" } : Jvm.MethodName) "RegressionCourt") ∈ lw_tbl := List.mem_of_getElem? (i := 516) (by decide +kernel)
theorem qw_468 : (Jvm.Cond.instanceMethod ({ cls := "RegressionCourt$Duel", name := "weigh", desc := "()V" } : Jvm.MethodName)) ∈ lw_tbl := List.mem_of_getElem? (i := 518) (by decide +kernel)
set_option maxRecDepth 50000 in
theorem qw_469 : (Jvm.Cond.code ({ cls := "RegressionCourt$Duel", name := "weigh", desc := "()V" } : Jvm.MethodName) prog_4_method_2_code (3 : Nat) (Option.none : Option Jvm.ClassFile.FieldType)) ∈ lw_tbl := List.mem_of_getElem? (i := 519) rfl
theorem qw_470 : (Jvm.Cond.methodLink "RegressionCourt$Duel" (49 : Nat) ({ cls := "RegressionCourt$Duel", name := "lay", desc := "(LRegressionCourt$Sample;)V" } : Jvm.MethodName)) ∈ lw_tbl := List.mem_of_getElem? (i := 520) (by decide +kernel)
theorem qw_472 : (Jvm.Cond.instanceMethod ({ cls := "RegressionCourt$Duel", name := "lay", desc := "(LRegressionCourt$Sample;)V" } : Jvm.MethodName)) ∈ lw_tbl := List.mem_of_getElem? (i := 522) (by decide +kernel)
set_option maxRecDepth 50000 in
theorem qw_473 : (Jvm.Cond.code ({ cls := "RegressionCourt$Duel", name := "lay", desc := "(LRegressionCourt$Sample;)V" } : Jvm.MethodName) prog_4_method_3_code (3 : Nat) (Option.none : Option Jvm.ClassFile.FieldType)) ∈ lw_tbl := List.mem_of_getElem? (i := 523) rfl
theorem qw_474 : (Jvm.Cond.methodLinkNest "RegressionCourt$Duel" (73 : Nat) ({ cls := "RegressionCourt$Sample", name := "worthAt", desc := "(I)I" } : Jvm.MethodName) "RegressionCourt") ∈ lw_tbl := List.mem_of_getElem? (i := 524) (by decide +kernel)
theorem qw_476 : (Jvm.Cond.instanceMethod ({ cls := "RegressionCourt$Sample", name := "worthAt", desc := "(I)I" } : Jvm.MethodName)) ∈ lw_tbl := List.mem_of_getElem? (i := 526) (by decide +kernel)
set_option maxRecDepth 50000 in
theorem qw_477 : (Jvm.Cond.code ({ cls := "RegressionCourt$Sample", name := "worthAt", desc := "(I)I" } : Jvm.MethodName) prog_7_method_5_code (2 : Nat) (Option.some Jvm.ClassFile.FieldType.int)) ∈ lw_tbl := List.mem_of_getElem? (i := 527) rfl
theorem qw_478 : (Jvm.Cond.methodLink "RegressionCourt$Duel" (53 : Nat) ({ cls := "java/lang/Math", name := "min", desc := "(II)I" } : Jvm.MethodName)) ∈ lw_tbl := List.mem_of_getElem? (i := 528) (by decide +kernel)
theorem qw_479 : (Jvm.Cond.methodLink "RegressionCourt$Duel" (62 : Nat) ({ cls := "RegressionCourt$Duel", name := "leadOf", desc := "(I)I" } : Jvm.MethodName)) ∈ lw_tbl := List.mem_of_getElem? (i := 529) (by decide +kernel)
theorem qw_481 : (Jvm.Cond.instanceMethod ({ cls := "RegressionCourt$Duel", name := "leadOf", desc := "(I)I" } : Jvm.MethodName)) ∈ lw_tbl := List.mem_of_getElem? (i := 531) (by decide +kernel)
set_option maxRecDepth 50000 in
theorem qw_482 : (Jvm.Cond.code ({ cls := "RegressionCourt$Duel", name := "leadOf", desc := "(I)I" } : Jvm.MethodName) prog_4_method_4_code (4 : Nat) (Option.some Jvm.ClassFile.FieldType.int)) ∈ lw_tbl := List.mem_of_getElem? (i := 532) rfl
theorem qw_483 : (Jvm.Cond.methodLink "RegressionCourt$Duel" (66 : Nat) ({ cls := "RegressionCourt$Duel", name := "countWays", desc := "()V" } : Jvm.MethodName)) ∈ lw_tbl := List.mem_of_getElem? (i := 533) (by decide +kernel)
theorem qw_485 : (Jvm.Cond.instanceMethod ({ cls := "RegressionCourt$Duel", name := "countWays", desc := "()V" } : Jvm.MethodName)) ∈ lw_tbl := List.mem_of_getElem? (i := 535) (by decide +kernel)
set_option maxRecDepth 50000 in
theorem qw_486 : (Jvm.Cond.code ({ cls := "RegressionCourt$Duel", name := "countWays", desc := "()V" } : Jvm.MethodName) prog_4_method_5_code (5 : Nat) (Option.none : Option Jvm.ClassFile.FieldType)) ∈ lw_tbl := List.mem_of_getElem? (i := 536) rfl
theorem qw_487 : (Jvm.Cond.methodLink "RegressionCourt$Duel" (76 : Nat) ({ cls := "RegressionCourt$Duel", name := "clearLeads", desc := "([I)V" } : Jvm.MethodName)) ∈ lw_tbl := List.mem_of_getElem? (i := 537) (by decide +kernel)
theorem qw_489 : (Jvm.Cond.instanceMethod ({ cls := "RegressionCourt$Duel", name := "clearLeads", desc := "([I)V" } : Jvm.MethodName)) ∈ lw_tbl := List.mem_of_getElem? (i := 539) (by decide +kernel)
set_option maxRecDepth 50000 in
theorem qw_490 : (Jvm.Cond.code ({ cls := "RegressionCourt$Duel", name := "clearLeads", desc := "([I)V" } : Jvm.MethodName) prog_4_method_6_code (3 : Nat) (Option.none : Option Jvm.ClassFile.FieldType)) ∈ lw_tbl := List.mem_of_getElem? (i := 540) rfl
theorem qw_491 : (Jvm.Cond.methodLink "RegressionCourt$Duel" (80 : Nat) ({ cls := "RegressionCourt$Duel", name := "addShifted", desc := "([I[II)V" } : Jvm.MethodName)) ∈ lw_tbl := List.mem_of_getElem? (i := 541) (by decide +kernel)
theorem qw_493 : (Jvm.Cond.instanceMethod ({ cls := "RegressionCourt$Duel", name := "addShifted", desc := "([I[II)V" } : Jvm.MethodName)) ∈ lw_tbl := List.mem_of_getElem? (i := 543) (by decide +kernel)
set_option maxRecDepth 50000 in
theorem qw_494 : (Jvm.Cond.code ({ cls := "RegressionCourt$Duel", name := "addShifted", desc := "([I[II)V" } : Jvm.MethodName) prog_4_method_7_code (6 : Nat) (Option.none : Option Jvm.ClassFile.FieldType)) ∈ lw_tbl := List.mem_of_getElem? (i := 544) rfl
theorem qw_495 : (Jvm.Cond.methodLink "RegressionCourt$Duel" (69 : Nat) ({ cls := "RegressionCourt$Duel", name := "tally", desc := "(I)V" } : Jvm.MethodName)) ∈ lw_tbl := List.mem_of_getElem? (i := 545) (by decide +kernel)
theorem qw_497 : (Jvm.Cond.instanceMethod ({ cls := "RegressionCourt$Duel", name := "tally", desc := "(I)V" } : Jvm.MethodName)) ∈ lw_tbl := List.mem_of_getElem? (i := 547) (by decide +kernel)
set_option maxRecDepth 50000 in
theorem qw_498 : (Jvm.Cond.code ({ cls := "RegressionCourt$Duel", name := "tally", desc := "(I)V" } : Jvm.MethodName) prog_4_method_8_code (4 : Nat) (Option.none : Option Jvm.ClassFile.FieldType)) ∈ lw_tbl := List.mem_of_getElem? (i := 548) rfl
theorem qw_499 : (Jvm.Cond.methodLinkNest "RegressionCourt" (265 : Nat) ({ cls := "RegressionCourt$Duel", name := "outcome", desc := "(II)I" } : Jvm.MethodName) "RegressionCourt") ∈ lw_tbl := List.mem_of_getElem? (i := 549) (by decide +kernel)
theorem qw_501 : (Jvm.Cond.instanceMethod ({ cls := "RegressionCourt$Duel", name := "outcome", desc := "(II)I" } : Jvm.MethodName)) ∈ lw_tbl := List.mem_of_getElem? (i := 551) (by decide +kernel)
set_option maxRecDepth 50000 in
theorem qw_502 : (Jvm.Cond.code ({ cls := "RegressionCourt$Duel", name := "outcome", desc := "(II)I" } : Jvm.MethodName) prog_4_method_9_code (3 : Nat) (Option.some Jvm.ClassFile.FieldType.int)) ∈ lw_tbl := List.mem_of_getElem? (i := 552) rfl
theorem qw_503 : (Jvm.Cond.methodLinkNest "RegressionCourt" (213 : Nat) ({ cls := "RegressionCourt$Bisection", name := "close", desc := "()V" } : Jvm.MethodName) "RegressionCourt") ∈ lw_tbl := List.mem_of_getElem? (i := 553) (by decide +kernel)
theorem qw_505 : (Jvm.Cond.instanceMethod ({ cls := "RegressionCourt$Bisection", name := "close", desc := "()V" } : Jvm.MethodName)) ∈ lw_tbl := List.mem_of_getElem? (i := 555) (by decide +kernel)
set_option maxRecDepth 50000 in
theorem qw_506 : (Jvm.Cond.code ({ cls := "RegressionCourt$Bisection", name := "close", desc := "()V" } : Jvm.MethodName) prog_2_method_3_code (1 : Nat) (Option.none : Option Jvm.ClassFile.FieldType)) ∈ lw_tbl := List.mem_of_getElem? (i := 556) rfl
theorem qw_507 : (Jvm.Cond.methodLinkNest "RegressionCourt" (352 : Nat) ({ cls := "RegressionCourt$Bisection", name := "narrow", desc := "(IZ)V" } : Jvm.MethodName) "RegressionCourt") ∈ lw_tbl := List.mem_of_getElem? (i := 557) (by decide +kernel)
theorem qw_509 : (Jvm.Cond.instanceMethod ({ cls := "RegressionCourt$Bisection", name := "narrow", desc := "(IZ)V" } : Jvm.MethodName)) ∈ lw_tbl := List.mem_of_getElem? (i := 559) (by decide +kernel)
set_option maxRecDepth 50000 in
theorem qw_510 : (Jvm.Cond.code ({ cls := "RegressionCourt$Bisection", name := "narrow", desc := "(IZ)V" } : Jvm.MethodName) prog_2_method_5_code (3 : Nat) (Option.none : Option Jvm.ClassFile.FieldType)) ∈ lw_tbl := List.mem_of_getElem? (i := 560) rfl
theorem qw_511 : (Jvm.Cond.methodLink "RegressionCourtLaw" (32 : Nat) ({ cls := "RegressionCourt", name := "many", desc := "(I)I" } : Jvm.MethodName)) ∈ lw_tbl := List.mem_of_getElem? (i := 561) (by decide +kernel)
theorem qw_512 : (Jvm.Cond.instanceMethod ({ cls := "RegressionCourt", name := "many", desc := "(I)I" } : Jvm.MethodName)) ∈ lw_tbl := List.mem_of_getElem? (i := 562) (by decide +kernel)
theorem qw_513 : (Jvm.Cond.selects "RegressionCourt" ({ cls := "RegressionCourt", name := "many", desc := "(I)I" } : Jvm.MethodName) ({ cls := "RegressionCourt", name := "many", desc := "(I)I" } : Jvm.MethodName)) ∈ lw_tbl := List.mem_of_getElem? (i := 563) (by decide +kernel)
set_option maxRecDepth 50000 in
theorem qw_514 : (Jvm.Cond.code ({ cls := "RegressionCourt", name := "many", desc := "(I)I" } : Jvm.MethodName) prog_1_method_19_code (2 : Nat) (Option.some Jvm.ClassFile.FieldType.int)) ∈ lw_tbl := List.mem_of_getElem? (i := 564) rfl
theorem qw_516 : (Jvm.Cond.methodLink "RegressionCourt" (239 : Nat) ({ cls := "RegressionCourt", name := "courtFact", desc := "(I)I" } : Jvm.MethodName)) ∈ lw_tbl := List.mem_of_getElem? (i := 566) (by decide +kernel)
theorem qw_518 : (Jvm.Cond.instanceMethod ({ cls := "RegressionCourt", name := "courtFact", desc := "(I)I" } : Jvm.MethodName)) ∈ lw_tbl := List.mem_of_getElem? (i := 568) (by decide +kernel)
set_option maxRecDepth 50000 in
theorem qw_519 : (Jvm.Cond.code ({ cls := "RegressionCourt", name := "courtFact", desc := "(I)I" } : Jvm.MethodName) prog_1_method_35_code (2 : Nat) (Option.some Jvm.ClassFile.FieldType.int)) ∈ lw_tbl := List.mem_of_getElem? (i := 569) rfl
theorem qw_520 : (Jvm.Cond.methodLink "RegressionCourt" (337 : Nat) ({ cls := "RegressionCourt", name := "runsThatCount", desc := "()I" } : Jvm.MethodName)) ∈ lw_tbl := List.mem_of_getElem? (i := 570) (by decide +kernel)
theorem qw_522 : (Jvm.Cond.instanceMethod ({ cls := "RegressionCourt", name := "runsThatCount", desc := "()I" } : Jvm.MethodName)) ∈ lw_tbl := List.mem_of_getElem? (i := 572) (by decide +kernel)
set_option maxRecDepth 50000 in
theorem qw_523 : (Jvm.Cond.code ({ cls := "RegressionCourt", name := "runsThatCount", desc := "()I" } : Jvm.MethodName) prog_1_method_36_code (3 : Nat) (Option.some Jvm.ClassFile.FieldType.int)) ∈ lw_tbl := List.mem_of_getElem? (i := 573) rfl
theorem qw_524 : (Jvm.Cond.classLink "RegressionCourt" (146 : Nat) "RegressionCourt$Run") ∈ lw_tbl := List.mem_of_getElem? (i := 574) (by decide +kernel)
theorem qw_525 : (Jvm.Cond.methodLinkNest "RegressionCourt" (312 : Nat) ({ cls := "RegressionCourt$Run", name := "isCounting", desc := "()Z" } : Jvm.MethodName) "RegressionCourt") ∈ lw_tbl := List.mem_of_getElem? (i := 575) (by decide +kernel)
theorem qw_526 : (Jvm.Cond.methodLink "RegressionCourt" (295 : Nat) ({ cls := "RegressionCourt", name := "oneIf", desc := "(Z)I" } : Jvm.MethodName)) ∈ lw_tbl := List.mem_of_getElem? (i := 576) (by decide +kernel)
theorem qw_527 : (Jvm.Cond.static ({ cls := "RegressionCourt", name := "oneIf", desc := "(Z)I" } : Jvm.MethodName)) ∈ lw_tbl := List.mem_of_getElem? (i := 577) (by decide +kernel)
set_option maxRecDepth 50000 in
theorem qw_528 : (Jvm.Cond.code ({ cls := "RegressionCourt", name := "oneIf", desc := "(Z)I" } : Jvm.MethodName) prog_1_method_29_code (1 : Nat) (Option.some Jvm.ClassFile.FieldType.int)) ∈ lw_tbl := List.mem_of_getElem? (i := 578) rfl
theorem qw_529 : (Jvm.Cond.methodLink "RegressionCourt" (340 : Nat) ({ cls := "RegressionCourt", name := "changesNamed", desc := "()I" } : Jvm.MethodName)) ∈ lw_tbl := List.mem_of_getElem? (i := 579) (by decide +kernel)
theorem qw_531 : (Jvm.Cond.instanceMethod ({ cls := "RegressionCourt", name := "changesNamed", desc := "()I" } : Jvm.MethodName)) ∈ lw_tbl := List.mem_of_getElem? (i := 581) (by decide +kernel)
set_option maxRecDepth 50000 in
theorem qw_532 : (Jvm.Cond.code ({ cls := "RegressionCourt", name := "changesNamed", desc := "()I" } : Jvm.MethodName) prog_1_method_37_code (3 : Nat) (Option.some Jvm.ClassFile.FieldType.int)) ∈ lw_tbl := List.mem_of_getElem? (i := 582) rfl
theorem qw_533 : (Jvm.Cond.methodLink "RegressionCourt" (343 : Nat) ({ cls := "RegressionCourt", name := "machinesAside", desc := "()I" } : Jvm.MethodName)) ∈ lw_tbl := List.mem_of_getElem? (i := 583) (by decide +kernel)
theorem qw_535 : (Jvm.Cond.instanceMethod ({ cls := "RegressionCourt", name := "machinesAside", desc := "()I" } : Jvm.MethodName)) ∈ lw_tbl := List.mem_of_getElem? (i := 585) (by decide +kernel)
set_option maxRecDepth 50000 in
theorem qw_536 : (Jvm.Cond.code ({ cls := "RegressionCourt", name := "machinesAside", desc := "()I" } : Jvm.MethodName) prog_1_method_38_code (3 : Nat) (Option.some Jvm.ClassFile.FieldType.int)) ∈ lw_tbl := List.mem_of_getElem? (i := 586) rfl
theorem qw_537 : (Jvm.Cond.methodLink "RegressionCourtLaw" (39 : Nat) ({ cls := "RegressionCourt", name := "digest", desc := "()J" } : Jvm.MethodName)) ∈ lw_tbl := List.mem_of_getElem? (i := 587) (by decide +kernel)
theorem qw_538 : (Jvm.Cond.instanceMethod ({ cls := "RegressionCourt", name := "digest", desc := "()J" } : Jvm.MethodName)) ∈ lw_tbl := List.mem_of_getElem? (i := 588) (by decide +kernel)
theorem qw_539 : (Jvm.Cond.selects "RegressionCourt" ({ cls := "RegressionCourt", name := "digest", desc := "()J" } : Jvm.MethodName) ({ cls := "RegressionCourt", name := "digest", desc := "()J" } : Jvm.MethodName)) ∈ lw_tbl := List.mem_of_getElem? (i := 589) (by decide +kernel)
set_option maxRecDepth 50000 in
theorem qw_540 : (Jvm.Cond.code ({ cls := "RegressionCourt", name := "digest", desc := "()J" } : Jvm.MethodName) prog_1_method_24_code (4 : Nat) (Option.some Jvm.ClassFile.FieldType.long)) ∈ lw_tbl := List.mem_of_getElem? (i := 590) rfl
theorem qw_541 : (Jvm.Cond.constantLong "RegressionCourt" (272 : Nat) (5750 : Int64)) ∈ lw_tbl := List.mem_of_getElem? (i := 591) (by decide +kernel)
theorem qw_542 : (Jvm.Cond.constantLong "RegressionCourt" (274 : Nat) (31 : Int64)) ∈ lw_tbl := List.mem_of_getElem? (i := 592) (by decide +kernel)
theorem qw_543 : (Jvm.Cond.methodLink "RegressionCourt" (276 : Nat) ({ cls := "RegressionCourt", name := "digestOfMachines", desc := "(J)J" } : Jvm.MethodName)) ∈ lw_tbl := List.mem_of_getElem? (i := 593) (by decide +kernel)
theorem qw_545 : (Jvm.Cond.instanceMethod ({ cls := "RegressionCourt", name := "digestOfMachines", desc := "(J)J" } : Jvm.MethodName)) ∈ lw_tbl := List.mem_of_getElem? (i := 595) (by decide +kernel)
set_option maxRecDepth 50000 in
theorem qw_546 : (Jvm.Cond.code ({ cls := "RegressionCourt", name := "digestOfMachines", desc := "(J)J" } : Jvm.MethodName) prog_1_method_46_code (6 : Nat) (Option.some Jvm.ClassFile.FieldType.long)) ∈ lw_tbl := List.mem_of_getElem? (i := 596) rfl
theorem qw_547 : (Jvm.Cond.methodLink "RegressionCourt" (126 : Nat) ({ cls := "RegressionCourt", name := "machineFact", desc := "(LRegressionCourt$Machine;I)I" } : Jvm.MethodName)) ∈ lw_tbl := List.mem_of_getElem? (i := 597) (by decide +kernel)
theorem qw_549 : (Jvm.Cond.instanceMethod ({ cls := "RegressionCourt", name := "machineFact", desc := "(LRegressionCourt$Machine;I)I" } : Jvm.MethodName)) ∈ lw_tbl := List.mem_of_getElem? (i := 599) (by decide +kernel)
set_option maxRecDepth 50000 in
theorem qw_550 : (Jvm.Cond.code ({ cls := "RegressionCourt", name := "machineFact", desc := "(LRegressionCourt$Machine;I)I" } : Jvm.MethodName) prog_1_method_30_code (3 : Nat) (Option.some Jvm.ClassFile.FieldType.int)) ∈ lw_tbl := List.mem_of_getElem? (i := 600) rfl
theorem qw_551 : (Jvm.Cond.methodLink "RegressionCourt" (268 : Nat) ({ cls := "RegressionCourt", name := "changesHurtWithout", desc := "(LRegressionCourt$Machine;)I" } : Jvm.MethodName)) ∈ lw_tbl := List.mem_of_getElem? (i := 601) (by decide +kernel)
theorem qw_553 : (Jvm.Cond.instanceMethod ({ cls := "RegressionCourt", name := "changesHurtWithout", desc := "(LRegressionCourt$Machine;)I" } : Jvm.MethodName)) ∈ lw_tbl := List.mem_of_getElem? (i := 603) (by decide +kernel)
set_option maxRecDepth 50000 in
theorem qw_554 : (Jvm.Cond.code ({ cls := "RegressionCourt", name := "changesHurtWithout", desc := "(LRegressionCourt$Machine;)I" } : Jvm.MethodName) prog_1_method_45_code (5 : Nat) (Option.some Jvm.ClassFile.FieldType.int)) ∈ lw_tbl := List.mem_of_getElem? (i := 604) rfl
theorem qw_555 : (Jvm.Cond.methodLinkNest "RegressionCourt" (362 : Nat) ({ cls := "RegressionCourt$Change", name := "sampleSizeWithout", desc := "(LRegressionCourt$Machine;)I" } : Jvm.MethodName) "RegressionCourt") ∈ lw_tbl := List.mem_of_getElem? (i := 605) (by decide +kernel)
theorem qw_557 : (Jvm.Cond.instanceMethod ({ cls := "RegressionCourt$Change", name := "sampleSizeWithout", desc := "(LRegressionCourt$Machine;)I" } : Jvm.MethodName)) ∈ lw_tbl := List.mem_of_getElem? (i := 607) (by decide +kernel)
set_option maxRecDepth 50000 in
theorem qw_558 : (Jvm.Cond.code ({ cls := "RegressionCourt$Change", name := "sampleSizeWithout", desc := "(LRegressionCourt$Machine;)I" } : Jvm.MethodName) prog_3_method_3_code (5 : Nat) (Option.some Jvm.ClassFile.FieldType.int)) ∈ lw_tbl := List.mem_of_getElem? (i := 608) rfl
theorem qw_559 : (Jvm.Cond.methodLink "RegressionCourt$Change" (25 : Nat) ({ cls := "java/util/ArrayList", name := "size", desc := "()I" } : Jvm.MethodName)) ∈ lw_tbl := List.mem_of_getElem? (i := 609) (by decide +kernel)
theorem qw_560 : (Jvm.Cond.methodLink "RegressionCourt$Change" (29 : Nat) ({ cls := "java/util/ArrayList", name := "get", desc := "(I)Ljava/lang/Object;" } : Jvm.MethodName)) ∈ lw_tbl := List.mem_of_getElem? (i := 610) (by decide +kernel)
theorem qw_561 : (Jvm.Cond.classLink "RegressionCourt$Change" (33 : Nat) "RegressionCourt$Run") ∈ lw_tbl := List.mem_of_getElem? (i := 611) (by decide +kernel)
theorem qw_562 : (Jvm.Cond.methodLinkNest "RegressionCourt$Change" (35 : Nat) ({ cls := "RegressionCourt$Run", name := "isCounting", desc := "()Z" } : Jvm.MethodName) "RegressionCourt") ∈ lw_tbl := List.mem_of_getElem? (i := 612) (by decide +kernel)
theorem qw_563 : (Jvm.Cond.methodLinkNest "RegressionCourt$Change" (39 : Nat) ({ cls := "RegressionCourt", name := "oneIf", desc := "(Z)I" } : Jvm.MethodName) "RegressionCourt") ∈ lw_tbl := List.mem_of_getElem? (i := 613) (by decide +kernel)
theorem qw_564 : (Jvm.Cond.methodLink "RegressionCourt$Change" (43 : Nat) ({ cls := "java/lang/Math", name := "min", desc := "(II)I" } : Jvm.MethodName)) ∈ lw_tbl := List.mem_of_getElem? (i := 614) (by decide +kernel)
theorem qw_565 : (Jvm.Cond.methodLinkNest "RegressionCourt" (356 : Nat) ({ cls := "RegressionCourt$Change", name := "sampleSize", desc := "()I" } : Jvm.MethodName) "RegressionCourt") ∈ lw_tbl := List.mem_of_getElem? (i := 615) (by decide +kernel)
theorem qw_567 : (Jvm.Cond.instanceMethod ({ cls := "RegressionCourt$Change", name := "sampleSize", desc := "()I" } : Jvm.MethodName)) ∈ lw_tbl := List.mem_of_getElem? (i := 617) (by decide +kernel)
set_option maxRecDepth 50000 in
theorem qw_568 : (Jvm.Cond.code ({ cls := "RegressionCourt$Change", name := "sampleSize", desc := "()I" } : Jvm.MethodName) prog_3_method_2_code (3 : Nat) (Option.some Jvm.ClassFile.FieldType.int)) ∈ lw_tbl := List.mem_of_getElem? (i := 618) rfl
theorem qw_569 : (Jvm.Cond.methodLink "RegressionCourt" (280 : Nat) ({ cls := "RegressionCourt", name := "digestOfChanges", desc := "(J)J" } : Jvm.MethodName)) ∈ lw_tbl := List.mem_of_getElem? (i := 619) (by decide +kernel)
theorem qw_571 : (Jvm.Cond.instanceMethod ({ cls := "RegressionCourt", name := "digestOfChanges", desc := "(J)J" } : Jvm.MethodName)) ∈ lw_tbl := List.mem_of_getElem? (i := 621) (by decide +kernel)
set_option maxRecDepth 50000 in
theorem qw_572 : (Jvm.Cond.code ({ cls := "RegressionCourt", name := "digestOfChanges", desc := "(J)J" } : Jvm.MethodName) prog_1_method_47_code (6 : Nat) (Option.some Jvm.ClassFile.FieldType.long)) ∈ lw_tbl := List.mem_of_getElem? (i := 622) rfl
theorem qw_573 : (Jvm.Cond.methodLink "RegressionCourt" (174 : Nat) ({ cls := "RegressionCourt", name := "changeFact", desc := "(LRegressionCourt$Change;I)I" } : Jvm.MethodName)) ∈ lw_tbl := List.mem_of_getElem? (i := 623) (by decide +kernel)
theorem qw_575 : (Jvm.Cond.instanceMethod ({ cls := "RegressionCourt", name := "changeFact", desc := "(LRegressionCourt$Change;I)I" } : Jvm.MethodName)) ∈ lw_tbl := List.mem_of_getElem? (i := 625) (by decide +kernel)
set_option maxRecDepth 50000 in
theorem qw_576 : (Jvm.Cond.code ({ cls := "RegressionCourt", name := "changeFact", desc := "(LRegressionCourt$Change;I)I" } : Jvm.MethodName) prog_1_method_32_code (3 : Nat) (Option.some Jvm.ClassFile.FieldType.int)) ∈ lw_tbl := List.mem_of_getElem? (i := 626) rfl
theorem qw_577 : (Jvm.Cond.methodLinkNest "RegressionCourt" (322 : Nat) ({ cls := "RegressionCourt$Sample", name := "worthAt", desc := "(I)I" } : Jvm.MethodName) "RegressionCourt") ∈ lw_tbl := List.mem_of_getElem? (i := 627) (by decide +kernel)
theorem qw_578 : (Jvm.Cond.methodLink "RegressionCourt" (242 : Nat) ({ cls := "RegressionCourt", name := "minutesToFill", desc := "(LRegressionCourt$Change;)I" } : Jvm.MethodName)) ∈ lw_tbl := List.mem_of_getElem? (i := 628) (by decide +kernel)
theorem qw_580 : (Jvm.Cond.instanceMethod ({ cls := "RegressionCourt", name := "minutesToFill", desc := "(LRegressionCourt$Change;)I" } : Jvm.MethodName)) ∈ lw_tbl := List.mem_of_getElem? (i := 630) (by decide +kernel)
set_option maxRecDepth 50000 in
theorem qw_581 : (Jvm.Cond.code ({ cls := "RegressionCourt", name := "minutesToFill", desc := "(LRegressionCourt$Change;)I" } : Jvm.MethodName) prog_1_method_43_code (4 : Nat) (Option.some Jvm.ClassFile.FieldType.int)) ∈ lw_tbl := List.mem_of_getElem? (i := 631) rfl
theorem qw_582 : (Jvm.Cond.methodLink "RegressionCourt" (359 : Nat) ({ cls := "RegressionCourt", name := "leastPrice", desc := "()I" } : Jvm.MethodName)) ∈ lw_tbl := List.mem_of_getElem? (i := 632) (by decide +kernel)
theorem qw_584 : (Jvm.Cond.instanceMethod ({ cls := "RegressionCourt", name := "leastPrice", desc := "()I" } : Jvm.MethodName)) ∈ lw_tbl := List.mem_of_getElem? (i := 634) (by decide +kernel)
set_option maxRecDepth 50000 in
theorem qw_585 : (Jvm.Cond.code ({ cls := "RegressionCourt", name := "leastPrice", desc := "()I" } : Jvm.MethodName) prog_1_method_44_code (4 : Nat) (Option.some Jvm.ClassFile.FieldType.int)) ∈ lw_tbl := List.mem_of_getElem? (i := 635) rfl
theorem qw_586 : (Jvm.Cond.methodLink "RegressionCourt" (283 : Nat) ({ cls := "RegressionCourt", name := "digestOfRuns", desc := "(J)J" } : Jvm.MethodName)) ∈ lw_tbl := List.mem_of_getElem? (i := 636) (by decide +kernel)
theorem qw_588 : (Jvm.Cond.instanceMethod ({ cls := "RegressionCourt", name := "digestOfRuns", desc := "(J)J" } : Jvm.MethodName)) ∈ lw_tbl := List.mem_of_getElem? (i := 638) (by decide +kernel)
set_option maxRecDepth 50000 in
theorem qw_589 : (Jvm.Cond.code ({ cls := "RegressionCourt", name := "digestOfRuns", desc := "(J)J" } : Jvm.MethodName) prog_1_method_48_code (6 : Nat) (Option.some Jvm.ClassFile.FieldType.long)) ∈ lw_tbl := List.mem_of_getElem? (i := 639) rfl
theorem qw_590 : (Jvm.Cond.methodLink "RegressionCourt" (168 : Nat) ({ cls := "RegressionCourt", name := "runFact", desc := "(LRegressionCourt$Run;I)I" } : Jvm.MethodName)) ∈ lw_tbl := List.mem_of_getElem? (i := 640) (by decide +kernel)
theorem qw_592 : (Jvm.Cond.instanceMethod ({ cls := "RegressionCourt", name := "runFact", desc := "(LRegressionCourt$Run;I)I" } : Jvm.MethodName)) ∈ lw_tbl := List.mem_of_getElem? (i := 642) (by decide +kernel)
set_option maxRecDepth 50000 in
theorem qw_593 : (Jvm.Cond.code ({ cls := "RegressionCourt", name := "runFact", desc := "(LRegressionCourt$Run;I)I" } : Jvm.MethodName) prog_1_method_31_code (3 : Nat) (Option.some Jvm.ClassFile.FieldType.int)) ∈ lw_tbl := List.mem_of_getElem? (i := 643) rfl
theorem qw_594 : (Jvm.Cond.methodLinkNest "RegressionCourt" (316 : Nat) ({ cls := "RegressionCourt$Change", name := "isInSample", desc := "(LRegressionCourt$Run;)Z" } : Jvm.MethodName) "RegressionCourt") ∈ lw_tbl := List.mem_of_getElem? (i := 644) (by decide +kernel)
theorem qw_596 : (Jvm.Cond.instanceMethod ({ cls := "RegressionCourt$Change", name := "isInSample", desc := "(LRegressionCourt$Run;)Z" } : Jvm.MethodName)) ∈ lw_tbl := List.mem_of_getElem? (i := 646) (by decide +kernel)
set_option maxRecDepth 50000 in
theorem qw_597 : (Jvm.Cond.code ({ cls := "RegressionCourt$Change", name := "isInSample", desc := "(LRegressionCourt$Run;)Z" } : Jvm.MethodName) prog_3_method_4_code (5 : Nat) (Option.some Jvm.ClassFile.FieldType.boolean)) ∈ lw_tbl := List.mem_of_getElem? (i := 647) rfl
theorem qw_598 : (Jvm.Cond.methodLink "RegressionCourt" (286 : Nat) ({ cls := "RegressionCourt", name := "digestOfVerdicts", desc := "(J)J" } : Jvm.MethodName)) ∈ lw_tbl := List.mem_of_getElem? (i := 648) (by decide +kernel)
theorem qw_600 : (Jvm.Cond.instanceMethod ({ cls := "RegressionCourt", name := "digestOfVerdicts", desc := "(J)J" } : Jvm.MethodName)) ∈ lw_tbl := List.mem_of_getElem? (i := 650) (by decide +kernel)
set_option maxRecDepth 50000 in
theorem qw_601 : (Jvm.Cond.code ({ cls := "RegressionCourt", name := "digestOfVerdicts", desc := "(J)J" } : Jvm.MethodName) prog_1_method_49_code (5 : Nat) (Option.some Jvm.ClassFile.FieldType.long)) ∈ lw_tbl := List.mem_of_getElem? (i := 651) rfl
theorem qw_602 : (Jvm.Cond.methodLink "RegressionCourt" (182 : Nat) ({ cls := "RegressionCourt", name := "duelFact", desc := "(I)I" } : Jvm.MethodName)) ∈ lw_tbl := List.mem_of_getElem? (i := 652) (by decide +kernel)
theorem qw_604 : (Jvm.Cond.instanceMethod ({ cls := "RegressionCourt", name := "duelFact", desc := "(I)I" } : Jvm.MethodName)) ∈ lw_tbl := List.mem_of_getElem? (i := 654) (by decide +kernel)
set_option maxRecDepth 50000 in
theorem qw_605 : (Jvm.Cond.code ({ cls := "RegressionCourt", name := "duelFact", desc := "(I)I" } : Jvm.MethodName) prog_1_method_33_code (2 : Nat) (Option.some Jvm.ClassFile.FieldType.int)) ∈ lw_tbl := List.mem_of_getElem? (i := 655) rfl
theorem qw_606 : (Jvm.Cond.methodLink "RegressionCourt" (216 : Nat) ({ cls := "RegressionCourt", name := "caseFact", desc := "(I)I" } : Jvm.MethodName)) ∈ lw_tbl := List.mem_of_getElem? (i := 656) (by decide +kernel)
theorem qw_608 : (Jvm.Cond.instanceMethod ({ cls := "RegressionCourt", name := "caseFact", desc := "(I)I" } : Jvm.MethodName)) ∈ lw_tbl := List.mem_of_getElem? (i := 658) (by decide +kernel)
set_option maxRecDepth 50000 in
theorem qw_609 : (Jvm.Cond.code ({ cls := "RegressionCourt", name := "caseFact", desc := "(I)I" } : Jvm.MethodName) prog_1_method_34_code (2 : Nat) (Option.some Jvm.ClassFile.FieldType.int)) ∈ lw_tbl := List.mem_of_getElem? (i := 659) rfl
theorem qw_610 : (Jvm.Cond.methodLink "RegressionCourt" (289 : Nat) ({ cls := "RegressionCourt", name := "wouldMove", desc := "()I" } : Jvm.MethodName)) ∈ lw_tbl := List.mem_of_getElem? (i := 660) (by decide +kernel)
theorem qw_611 : (Jvm.Cond.instanceMethod ({ cls := "RegressionCourt", name := "wouldMove", desc := "()I" } : Jvm.MethodName)) ∈ lw_tbl := List.mem_of_getElem? (i := 661) (by decide +kernel)
theorem qw_612 : (Jvm.Cond.selects "RegressionCourt" ({ cls := "RegressionCourt", name := "wouldMove", desc := "()I" } : Jvm.MethodName) ({ cls := "RegressionCourt", name := "wouldMove", desc := "()I" } : Jvm.MethodName)) ∈ lw_tbl := List.mem_of_getElem? (i := 662) (by decide +kernel)
set_option maxRecDepth 50000 in
theorem qw_613 : (Jvm.Cond.code ({ cls := "RegressionCourt", name := "wouldMove", desc := "()I" } : Jvm.MethodName) prog_1_method_23_code (3 : Nat) (Option.some Jvm.ClassFile.FieldType.int)) ∈ lw_tbl := List.mem_of_getElem? (i := 663) rfl
theorem qw_614 : (Jvm.Cond.methodLink "RegressionCourt" (219 : Nat) ({ cls := "RegressionCourt", name := "creditOfStepTo", desc := "(I)I" } : Jvm.MethodName)) ∈ lw_tbl := List.mem_of_getElem? (i := 664) (by decide +kernel)
theorem qw_616 : (Jvm.Cond.instanceMethod ({ cls := "RegressionCourt", name := "creditOfStepTo", desc := "(I)I" } : Jvm.MethodName)) ∈ lw_tbl := List.mem_of_getElem? (i := 666) (by decide +kernel)
set_option maxRecDepth 50000 in
theorem qw_617 : (Jvm.Cond.code ({ cls := "RegressionCourt", name := "creditOfStepTo", desc := "(I)I" } : Jvm.MethodName) prog_1_method_42_code (2 : Nat) (Option.some Jvm.ClassFile.FieldType.int)) ∈ lw_tbl := List.mem_of_getElem? (i := 667) rfl
theorem qw_618 : (Jvm.Cond.methodLink "RegressionCourtLaw" (18 : Nat) ({ cls := "RegressionCourtLaw", name := "below", desc := "(II)I" } : Jvm.MethodName)) ∈ lw_tbl := List.mem_of_getElem? (i := 668) (by decide +kernel)
theorem qw_619 : (Jvm.Cond.static ({ cls := "RegressionCourtLaw", name := "below", desc := "(II)I" } : Jvm.MethodName)) ∈ lw_tbl := List.mem_of_getElem? (i := 669) (by decide +kernel)
set_option maxRecDepth 50000 in
theorem qw_620 : (Jvm.Cond.code ({ cls := "RegressionCourtLaw", name := "below", desc := "(II)I" } : Jvm.MethodName) method_2_code (2 : Nat) (Option.some Jvm.ClassFile.FieldType.int)) ∈ lw_tbl := List.mem_of_getElem? (i := 670) rfl
theorem qw_621 : (Jvm.Cond.constant "RegressionCourtLaw" (7 : Nat) (2147483647 : Int32)) ∈ lw_tbl := List.mem_of_getElem? (i := 671) (by decide +kernel)
theorem qw_622 : (Jvm.Cond.methodLink "RegressionCourtLaw" (12 : Nat) ({ cls := "RegressionCourtLaw", name := "cell", desc := "([II)I" } : Jvm.MethodName)) ∈ lw_tbl := List.mem_of_getElem? (i := 672) (by decide +kernel)
theorem qw_623 : (Jvm.Cond.static ({ cls := "RegressionCourtLaw", name := "cell", desc := "([II)I" } : Jvm.MethodName)) ∈ lw_tbl := List.mem_of_getElem? (i := 673) (by decide +kernel)
set_option maxRecDepth 50000 in
theorem qw_624 : (Jvm.Cond.code ({ cls := "RegressionCourtLaw", name := "cell", desc := "([II)I" } : Jvm.MethodName) method_3_code (2 : Nat) (Option.some Jvm.ClassFile.FieldType.int)) ∈ lw_tbl := List.mem_of_getElem? (i := 674) rfl
theorem qw_625 : (Jvm.Cond.constant "RegressionCourtLaw" (8 : Nat) (790386105 : Int32)) ∈ lw_tbl := List.mem_of_getElem? (i := 675) (by decide +kernel)
theorem qw_626 : (Jvm.Cond.methodLink "RegressionCourtLaw" (35 : Nat) ({ cls := "RegressionCourtLaw", name := "act", desc := "(LRegressionCourt;I)Z" } : Jvm.MethodName)) ∈ lw_tbl := List.mem_of_getElem? (i := 676) (by decide +kernel)
theorem qw_627 : (Jvm.Cond.static ({ cls := "RegressionCourtLaw", name := "act", desc := "(LRegressionCourt;I)Z" } : Jvm.MethodName)) ∈ lw_tbl := List.mem_of_getElem? (i := 677) (by decide +kernel)
set_option maxRecDepth 50000 in
theorem qw_628 : (Jvm.Cond.codeWith ({ cls := "RegressionCourtLaw", name := "act", desc := "(LRegressionCourt;I)Z" } : Jvm.MethodName) method_5_code (12 : Nat) (Option.some Jvm.ClassFile.FieldType.boolean) [((24 : Nat), (156 : Nat), (512 : Nat), (101 : Nat)), ((157 : Nat), (184 : Nat), (512 : Nat), (101 : Nat)), ((185 : Nat), (242 : Nat), (512 : Nat), (101 : Nat)), ((243 : Nat), (264 : Nat), (512 : Nat), (101 : Nat)), ((265 : Nat), (320 : Nat), (512 : Nat), (101 : Nat)), ((321 : Nat), (369 : Nat), (512 : Nat), (101 : Nat)), ((370 : Nat), (397 : Nat), (512 : Nat), (101 : Nat)), ((398 : Nat), (511 : Nat), (512 : Nat), (101 : Nat)), ((24 : Nat), (156 : Nat), (528 : Nat), (103 : Nat)), ((157 : Nat), (184 : Nat), (528 : Nat), (103 : Nat)), ((185 : Nat), (242 : Nat), (528 : Nat), (103 : Nat)), ((243 : Nat), (264 : Nat), (528 : Nat), (103 : Nat)), ((265 : Nat), (320 : Nat), (528 : Nat), (103 : Nat)), ((321 : Nat), (369 : Nat), (528 : Nat), (103 : Nat)), ((370 : Nat), (397 : Nat), (528 : Nat), (103 : Nat)), ((398 : Nat), (511 : Nat), (528 : Nat), (103 : Nat)), ((24 : Nat), (156 : Nat), (546 : Nat), (105 : Nat)), ((157 : Nat), (184 : Nat), (546 : Nat), (105 : Nat)), ((185 : Nat), (242 : Nat), (546 : Nat), (105 : Nat)), ((243 : Nat), (264 : Nat), (546 : Nat), (105 : Nat)), ((265 : Nat), (320 : Nat), (546 : Nat), (105 : Nat)), ((321 : Nat), (369 : Nat), (546 : Nat), (105 : Nat)), ((370 : Nat), (397 : Nat), (546 : Nat), (105 : Nat)), ((398 : Nat), (511 : Nat), (546 : Nat), (105 : Nat))]) ∈ lw_tbl := List.mem_of_getElem? (i := 678) rfl
theorem qw_629 : (Jvm.Cond.classLink "RegressionCourtLaw" (101 : Nat) "java/lang/IndexOutOfBoundsException") ∈ lw_tbl := List.mem_of_getElem? (i := 679) (by decide +kernel)
theorem qw_630 : (Jvm.Cond.classLink "RegressionCourtLaw" (103 : Nat) "java/lang/IllegalArgumentException") ∈ lw_tbl := List.mem_of_getElem? (i := 680) (by decide +kernel)
theorem qw_631 : (Jvm.Cond.classLink "RegressionCourtLaw" (105 : Nat) "java/lang/IllegalStateException") ∈ lw_tbl := List.mem_of_getElem? (i := 681) (by decide +kernel)
theorem qw_632 : (Jvm.Cond.methodLink "RegressionCourtLaw" (54 : Nat) ({ cls := "RegressionCourt", name := "ofMachine", desc := "(II)I" } : Jvm.MethodName)) ∈ lw_tbl := List.mem_of_getElem? (i := 682) (by decide +kernel)
theorem qw_633 : (Jvm.Cond.instanceMethod ({ cls := "RegressionCourt", name := "ofMachine", desc := "(II)I" } : Jvm.MethodName)) ∈ lw_tbl := List.mem_of_getElem? (i := 683) (by decide +kernel)
theorem qw_634 : (Jvm.Cond.selects "RegressionCourt" ({ cls := "RegressionCourt", name := "ofMachine", desc := "(II)I" } : Jvm.MethodName) ({ cls := "RegressionCourt", name := "ofMachine", desc := "(II)I" } : Jvm.MethodName)) ∈ lw_tbl := List.mem_of_getElem? (i := 684) (by decide +kernel)
set_option maxRecDepth 50000 in
theorem qw_635 : (Jvm.Cond.code ({ cls := "RegressionCourt", name := "ofMachine", desc := "(II)I" } : Jvm.MethodName) prog_1_method_4_code (3 : Nat) (Option.some Jvm.ClassFile.FieldType.int)) ∈ lw_tbl := List.mem_of_getElem? (i := 685) rfl
theorem qw_636 : (Jvm.Cond.classLink "RegressionCourt" (102 : Nat) "java/lang/IndexOutOfBoundsException") ∈ lw_tbl := List.mem_of_getElem? (i := 686) (by decide +kernel)
theorem qw_637 : (Jvm.Cond.instantiable "java/lang/IndexOutOfBoundsException" (6 : Nat)) ∈ lw_tbl := List.mem_of_getElem? (i := 687) (by decide +kernel)
theorem qw_638 : (Jvm.Cond.castable "java/lang/IndexOutOfBoundsException" "java/lang/IndexOutOfBoundsException") ∈ lw_tbl := List.mem_of_getElem? (i := 688) (by decide +kernel)
theorem qw_639 : (Jvm.Cond.selects "java/lang/IndexOutOfBoundsException" ({ cls := "java/lang/Throwable", name := "fillInStackTrace", desc := "(I)Ljava/lang/Throwable;" } : Jvm.MethodName) ({ cls := "java/lang/Throwable", name := "fillInStackTrace", desc := "(I)Ljava/lang/Throwable;" } : Jvm.MethodName)) ∈ lw_tbl := List.mem_of_getElem? (i := 689) (by decide +kernel)
theorem qw_646 : (Jvm.Cond.methodLink "RegressionCourt" (106 : Nat) ({ cls := "java/lang/IndexOutOfBoundsException", name := "<init>", desc := "(Ljava/lang/String;)V" } : Jvm.MethodName)) ∈ lw_tbl := List.mem_of_getElem? (i := 696) (by decide +kernel)
theorem qw_647 : (Jvm.Cond.instanceMethod ({ cls := "java/lang/IndexOutOfBoundsException", name := "<init>", desc := "(Ljava/lang/String;)V" } : Jvm.MethodName)) ∈ lw_tbl := List.mem_of_getElem? (i := 697) (by decide +kernel)
set_option maxRecDepth 50000 in
theorem qw_648 : (Jvm.Cond.code ({ cls := "java/lang/IndexOutOfBoundsException", name := "<init>", desc := "(Ljava/lang/String;)V" } : Jvm.MethodName) prog_17_method_2_code (2 : Nat) (Option.none : Option Jvm.ClassFile.FieldType)) ∈ lw_tbl := List.mem_of_getElem? (i := 698) rfl
theorem qw_649 : (Jvm.Cond.methodLink "java/lang/IndexOutOfBoundsException" (7 : Nat) ({ cls := "java/lang/RuntimeException", name := "<init>", desc := "(Ljava/lang/String;)V" } : Jvm.MethodName)) ∈ lw_tbl := List.mem_of_getElem? (i := 699) (by decide +kernel)
theorem qw_652 : (Jvm.Cond.methodLink "RegressionCourtLaw" (57 : Nat) ({ cls := "RegressionCourt", name := "measure", desc := "(II)Z" } : Jvm.MethodName)) ∈ lw_tbl := List.mem_of_getElem? (i := 702) (by decide +kernel)
theorem qw_653 : (Jvm.Cond.instanceMethod ({ cls := "RegressionCourt", name := "measure", desc := "(II)Z" } : Jvm.MethodName)) ∈ lw_tbl := List.mem_of_getElem? (i := 703) (by decide +kernel)
theorem qw_654 : (Jvm.Cond.selects "RegressionCourt" ({ cls := "RegressionCourt", name := "measure", desc := "(II)Z" } : Jvm.MethodName) ({ cls := "RegressionCourt", name := "measure", desc := "(II)Z" } : Jvm.MethodName)) ∈ lw_tbl := List.mem_of_getElem? (i := 704) (by decide +kernel)
set_option maxRecDepth 50000 in
theorem qw_655 : (Jvm.Cond.code ({ cls := "RegressionCourt", name := "measure", desc := "(II)Z" } : Jvm.MethodName) prog_1_method_3_code (4 : Nat) (Option.some Jvm.ClassFile.FieldType.boolean)) ∈ lw_tbl := List.mem_of_getElem? (i := 705) rfl
theorem qw_657 : (Jvm.Cond.methodLinkNest "RegressionCourt" (113 : Nat) ({ cls := "RegressionCourt$Machine", name := "take", desc := "(I)V" } : Jvm.MethodName) "RegressionCourt") ∈ lw_tbl := List.mem_of_getElem? (i := 707) (by decide +kernel)
theorem qw_659 : (Jvm.Cond.instanceMethod ({ cls := "RegressionCourt$Machine", name := "take", desc := "(I)V" } : Jvm.MethodName)) ∈ lw_tbl := List.mem_of_getElem? (i := 709) (by decide +kernel)
set_option maxRecDepth 50000 in
theorem qw_660 : (Jvm.Cond.code ({ cls := "RegressionCourt$Machine", name := "take", desc := "(I)V" } : Jvm.MethodName) prog_5_method_2_code (2 : Nat) (Option.none : Option Jvm.ClassFile.FieldType)) ∈ lw_tbl := List.mem_of_getElem? (i := 710) rfl
theorem qw_661 : (Jvm.Cond.methodLink "RegressionCourt$Machine" (35 : Nat) ({ cls := "RegressionCourt$Machine", name := "drifts", desc := "()Z" } : Jvm.MethodName)) ∈ lw_tbl := List.mem_of_getElem? (i := 711) (by decide +kernel)
theorem qw_663 : (Jvm.Cond.instanceMethod ({ cls := "RegressionCourt$Machine", name := "drifts", desc := "()Z" } : Jvm.MethodName)) ∈ lw_tbl := List.mem_of_getElem? (i := 713) (by decide +kernel)
set_option maxRecDepth 50000 in
theorem qw_664 : (Jvm.Cond.code ({ cls := "RegressionCourt$Machine", name := "drifts", desc := "()Z" } : Jvm.MethodName) prog_5_method_3_code (3 : Nat) (Option.some Jvm.ClassFile.FieldType.boolean)) ∈ lw_tbl := List.mem_of_getElem? (i := 714) rfl
theorem qw_665 : (Jvm.Cond.methodLink "RegressionCourt$Machine" (39 : Nat) ({ cls := "java/lang/Math", name := "max", desc := "(II)I" } : Jvm.MethodName)) ∈ lw_tbl := List.mem_of_getElem? (i := 715) (by decide +kernel)
theorem qw_666 : (Jvm.Cond.methodLink "RegressionCourt$Machine" (45 : Nat) ({ cls := "java/lang/Math", name := "min", desc := "(II)I" } : Jvm.MethodName)) ∈ lw_tbl := List.mem_of_getElem? (i := 716) (by decide +kernel)
theorem qw_667 : (Jvm.Cond.methodLink "RegressionCourtLaw" (61 : Nat) ({ cls := "java/lang/Math", name := "max", desc := "(II)I" } : Jvm.MethodName)) ∈ lw_tbl := List.mem_of_getElem? (i := 717) (by decide +kernel)
theorem qw_668 : (Jvm.Cond.methodLink "RegressionCourtLaw" (66 : Nat) ({ cls := "RegressionCourt", name := "strike", desc := "(I)I" } : Jvm.MethodName)) ∈ lw_tbl := List.mem_of_getElem? (i := 718) (by decide +kernel)
theorem qw_669 : (Jvm.Cond.instanceMethod ({ cls := "RegressionCourt", name := "strike", desc := "(I)I" } : Jvm.MethodName)) ∈ lw_tbl := List.mem_of_getElem? (i := 719) (by decide +kernel)
theorem qw_670 : (Jvm.Cond.selects "RegressionCourt" ({ cls := "RegressionCourt", name := "strike", desc := "(I)I" } : Jvm.MethodName) ({ cls := "RegressionCourt", name := "strike", desc := "(I)I" } : Jvm.MethodName)) ∈ lw_tbl := List.mem_of_getElem? (i := 720) (by decide +kernel)
set_option maxRecDepth 50000 in
theorem qw_671 : (Jvm.Cond.code ({ cls := "RegressionCourt", name := "strike", desc := "(I)I" } : Jvm.MethodName) prog_1_method_7_code (3 : Nat) (Option.some Jvm.ClassFile.FieldType.int)) ∈ lw_tbl := List.mem_of_getElem? (i := 721) rfl
theorem qw_674 : (Jvm.Cond.methodLink "RegressionCourtLaw" (69 : Nat) ({ cls := "RegressionCourt", name := "begin", desc := "(II)I" } : Jvm.MethodName)) ∈ lw_tbl := List.mem_of_getElem? (i := 724) (by decide +kernel)
theorem qw_675 : (Jvm.Cond.instanceMethod ({ cls := "RegressionCourt", name := "begin", desc := "(II)I" } : Jvm.MethodName)) ∈ lw_tbl := List.mem_of_getElem? (i := 725) (by decide +kernel)
theorem qw_676 : (Jvm.Cond.selects "RegressionCourt" ({ cls := "RegressionCourt", name := "begin", desc := "(II)I" } : Jvm.MethodName) ({ cls := "RegressionCourt", name := "begin", desc := "(II)I" } : Jvm.MethodName)) ∈ lw_tbl := List.mem_of_getElem? (i := 726) (by decide +kernel)
set_option maxRecDepth 50000 in
theorem qw_677 : (Jvm.Cond.code ({ cls := "RegressionCourt", name := "begin", desc := "(II)I" } : Jvm.MethodName) prog_1_method_13_code (3 : Nat) (Option.some Jvm.ClassFile.FieldType.int)) ∈ lw_tbl := List.mem_of_getElem? (i := 727) rfl
theorem qw_678 : (Jvm.Cond.methodLink "RegressionCourt" (134 : Nat) ({ cls := "RegressionCourt", name := "isNoChange", desc := "(I)Z" } : Jvm.MethodName)) ∈ lw_tbl := List.mem_of_getElem? (i := 728) (by decide +kernel)
theorem qw_680 : (Jvm.Cond.instanceMethod ({ cls := "RegressionCourt", name := "isNoChange", desc := "(I)Z" } : Jvm.MethodName)) ∈ lw_tbl := List.mem_of_getElem? (i := 730) (by decide +kernel)
set_option maxRecDepth 50000 in
theorem qw_681 : (Jvm.Cond.code ({ cls := "RegressionCourt", name := "isNoChange", desc := "(I)Z" } : Jvm.MethodName) prog_1_method_27_code (2 : Nat) (Option.some Jvm.ClassFile.FieldType.boolean)) ∈ lw_tbl := List.mem_of_getElem? (i := 731) rfl
theorem qw_685 : (Jvm.Cond.methodLinkNest "RegressionCourt" (199 : Nat) ({ cls := "RegressionCourt$Bisection", name := "open", desc := "(II)V" } : Jvm.MethodName) "RegressionCourt") ∈ lw_tbl := List.mem_of_getElem? (i := 735) (by decide +kernel)
theorem qw_687 : (Jvm.Cond.instanceMethod ({ cls := "RegressionCourt$Bisection", name := "open", desc := "(II)V" } : Jvm.MethodName)) ∈ lw_tbl := List.mem_of_getElem? (i := 737) (by decide +kernel)
set_option maxRecDepth 50000 in
theorem qw_688 : (Jvm.Cond.code ({ cls := "RegressionCourt$Bisection", name := "open", desc := "(II)V" } : Jvm.MethodName) prog_2_method_2_code (3 : Nat) (Option.none : Option Jvm.ClassFile.FieldType)) ∈ lw_tbl := List.mem_of_getElem? (i := 738) rfl
theorem qw_689 : (Jvm.Cond.methodLink "RegressionCourtLaw" (72 : Nat) ({ cls := "RegressionCourt", name := "ofCase", desc := "(I)I" } : Jvm.MethodName)) ∈ lw_tbl := List.mem_of_getElem? (i := 739) (by decide +kernel)
theorem qw_690 : (Jvm.Cond.instanceMethod ({ cls := "RegressionCourt", name := "ofCase", desc := "(I)I" } : Jvm.MethodName)) ∈ lw_tbl := List.mem_of_getElem? (i := 740) (by decide +kernel)
theorem qw_691 : (Jvm.Cond.selects "RegressionCourt" ({ cls := "RegressionCourt", name := "ofCase", desc := "(I)I" } : Jvm.MethodName) ({ cls := "RegressionCourt", name := "ofCase", desc := "(I)I" } : Jvm.MethodName)) ∈ lw_tbl := List.mem_of_getElem? (i := 741) (by decide +kernel)
set_option maxRecDepth 50000 in
theorem qw_692 : (Jvm.Cond.code ({ cls := "RegressionCourt", name := "ofCase", desc := "(I)I" } : Jvm.MethodName) prog_1_method_15_code (2 : Nat) (Option.some Jvm.ClassFile.FieldType.int)) ∈ lw_tbl := List.mem_of_getElem? (i := 742) rfl
theorem qw_693 : (Jvm.Cond.methodLink "RegressionCourtLaw" (75 : Nat) ({ cls := "RegressionCourt", name := "drop", desc := "()I" } : Jvm.MethodName)) ∈ lw_tbl := List.mem_of_getElem? (i := 743) (by decide +kernel)
theorem qw_694 : (Jvm.Cond.instanceMethod ({ cls := "RegressionCourt", name := "drop", desc := "()I" } : Jvm.MethodName)) ∈ lw_tbl := List.mem_of_getElem? (i := 744) (by decide +kernel)
theorem qw_695 : (Jvm.Cond.selects "RegressionCourt" ({ cls := "RegressionCourt", name := "drop", desc := "()I" } : Jvm.MethodName) ({ cls := "RegressionCourt", name := "drop", desc := "()I" } : Jvm.MethodName)) ∈ lw_tbl := List.mem_of_getElem? (i := 745) (by decide +kernel)
set_option maxRecDepth 50000 in
theorem qw_696 : (Jvm.Cond.code ({ cls := "RegressionCourt", name := "drop", desc := "()I" } : Jvm.MethodName) prog_1_method_14_code (2 : Nat) (Option.some Jvm.ClassFile.FieldType.int)) ∈ lw_tbl := List.mem_of_getElem? (i := 746) rfl
theorem qw_698 : (Jvm.Cond.methodLink "RegressionCourtLaw" (79 : Nat) ({ cls := "RegressionCourt", name := "wouldMove", desc := "()I" } : Jvm.MethodName)) ∈ lw_tbl := List.mem_of_getElem? (i := 748) (by decide +kernel)
theorem qw_699 : (Jvm.Cond.methodLink "RegressionCourtLaw" (82 : Nat) ({ cls := "RegressionCourt", name := "move", desc := "()I" } : Jvm.MethodName)) ∈ lw_tbl := List.mem_of_getElem? (i := 749) (by decide +kernel)
theorem qw_700 : (Jvm.Cond.instanceMethod ({ cls := "RegressionCourt", name := "move", desc := "()I" } : Jvm.MethodName)) ∈ lw_tbl := List.mem_of_getElem? (i := 750) (by decide +kernel)
theorem qw_701 : (Jvm.Cond.selects "RegressionCourt" ({ cls := "RegressionCourt", name := "move", desc := "()I" } : Jvm.MethodName) ({ cls := "RegressionCourt", name := "move", desc := "()I" } : Jvm.MethodName)) ∈ lw_tbl := List.mem_of_getElem? (i := 751) (by decide +kernel)
set_option maxRecDepth 50000 in
theorem qw_702 : (Jvm.Cond.code ({ cls := "RegressionCourt", name := "move", desc := "()I" } : Jvm.MethodName) prog_1_method_16_code (3 : Nat) (Option.some Jvm.ClassFile.FieldType.int)) ∈ lw_tbl := List.mem_of_getElem? (i := 752) rfl
theorem qw_703 : (Jvm.Cond.methodLink "RegressionCourtLaw" (85 : Nat) ({ cls := "RegressionCourt", name := "excuse", desc := "(II)I" } : Jvm.MethodName)) ∈ lw_tbl := List.mem_of_getElem? (i := 753) (by decide +kernel)
theorem qw_704 : (Jvm.Cond.instanceMethod ({ cls := "RegressionCourt", name := "excuse", desc := "(II)I" } : Jvm.MethodName)) ∈ lw_tbl := List.mem_of_getElem? (i := 754) (by decide +kernel)
theorem qw_705 : (Jvm.Cond.selects "RegressionCourt" ({ cls := "RegressionCourt", name := "excuse", desc := "(II)I" } : Jvm.MethodName) ({ cls := "RegressionCourt", name := "excuse", desc := "(II)I" } : Jvm.MethodName)) ∈ lw_tbl := List.mem_of_getElem? (i := 755) (by decide +kernel)
set_option maxRecDepth 50000 in
theorem qw_706 : (Jvm.Cond.code ({ cls := "RegressionCourt", name := "excuse", desc := "(II)I" } : Jvm.MethodName) prog_1_method_17_code (4 : Nat) (Option.some Jvm.ClassFile.FieldType.int)) ∈ lw_tbl := List.mem_of_getElem? (i := 756) rfl
theorem qw_709 : (Jvm.Cond.methodLink "RegressionCourtLaw" (88 : Nat) ({ cls := "RegressionCourt", name := "ofChange", desc := "(II)I" } : Jvm.MethodName)) ∈ lw_tbl := List.mem_of_getElem? (i := 759) (by decide +kernel)
theorem qw_710 : (Jvm.Cond.instanceMethod ({ cls := "RegressionCourt", name := "ofChange", desc := "(II)I" } : Jvm.MethodName)) ∈ lw_tbl := List.mem_of_getElem? (i := 760) (by decide +kernel)
theorem qw_711 : (Jvm.Cond.selects "RegressionCourt" ({ cls := "RegressionCourt", name := "ofChange", desc := "(II)I" } : Jvm.MethodName) ({ cls := "RegressionCourt", name := "ofChange", desc := "(II)I" } : Jvm.MethodName)) ∈ lw_tbl := List.mem_of_getElem? (i := 761) (by decide +kernel)
set_option maxRecDepth 50000 in
theorem qw_712 : (Jvm.Cond.code ({ cls := "RegressionCourt", name := "ofChange", desc := "(II)I" } : Jvm.MethodName) prog_1_method_9_code (3 : Nat) (Option.some Jvm.ClassFile.FieldType.int)) ∈ lw_tbl := List.mem_of_getElem? (i := 762) rfl
theorem qw_713 : (Jvm.Cond.methodLink "RegressionCourtLaw" (91 : Nat) ({ cls := "RegressionCourt", name := "budget", desc := "(I)I" } : Jvm.MethodName)) ∈ lw_tbl := List.mem_of_getElem? (i := 763) (by decide +kernel)
theorem qw_714 : (Jvm.Cond.instanceMethod ({ cls := "RegressionCourt", name := "budget", desc := "(I)I" } : Jvm.MethodName)) ∈ lw_tbl := List.mem_of_getElem? (i := 764) (by decide +kernel)
theorem qw_715 : (Jvm.Cond.selects "RegressionCourt" ({ cls := "RegressionCourt", name := "budget", desc := "(I)I" } : Jvm.MethodName) ({ cls := "RegressionCourt", name := "budget", desc := "(I)I" } : Jvm.MethodName)) ∈ lw_tbl := List.mem_of_getElem? (i := 765) (by decide +kernel)
set_option maxRecDepth 50000 in
theorem qw_716 : (Jvm.Cond.code ({ cls := "RegressionCourt", name := "budget", desc := "(I)I" } : Jvm.MethodName) prog_1_method_18_code (2 : Nat) (Option.some Jvm.ClassFile.FieldType.int)) ∈ lw_tbl := List.mem_of_getElem? (i := 766) rfl
theorem qw_718 : (Jvm.Cond.methodLink "RegressionCourt" (233 : Nat) ({ cls := "java/lang/Math", name := "min", desc := "(II)I" } : Jvm.MethodName)) ∈ lw_tbl := List.mem_of_getElem? (i := 768) (by decide +kernel)
theorem qw_719 : (Jvm.Cond.methodLink "RegressionCourtLaw" (94 : Nat) ({ cls := "RegressionCourt", name := "run", desc := "(III)I" } : Jvm.MethodName)) ∈ lw_tbl := List.mem_of_getElem? (i := 769) (by decide +kernel)
theorem qw_720 : (Jvm.Cond.instanceMethod ({ cls := "RegressionCourt", name := "run", desc := "(III)I" } : Jvm.MethodName)) ∈ lw_tbl := List.mem_of_getElem? (i := 770) (by decide +kernel)
theorem qw_721 : (Jvm.Cond.selects "RegressionCourt" ({ cls := "RegressionCourt", name := "run", desc := "(III)I" } : Jvm.MethodName) ({ cls := "RegressionCourt", name := "run", desc := "(III)I" } : Jvm.MethodName)) ∈ lw_tbl := List.mem_of_getElem? (i := 771) (by decide +kernel)
set_option maxRecDepth 50000 in
theorem qw_722 : (Jvm.Cond.code ({ cls := "RegressionCourt", name := "run", desc := "(III)I" } : Jvm.MethodName) prog_1_method_6_code (6 : Nat) (Option.some Jvm.ClassFile.FieldType.int)) ∈ lw_tbl := List.mem_of_getElem? (i := 772) rfl
theorem qw_726 : (Jvm.Cond.methodLinkNest "RegressionCourt" (148 : Nat) ({ cls := "RegressionCourt$Run", name := "<init>", desc := "(ILRegressionCourt$Machine;I)V" } : Jvm.MethodName) "RegressionCourt") ∈ lw_tbl := List.mem_of_getElem? (i := 776) (by decide +kernel)
theorem qw_727 : (Jvm.Cond.instanceMethod ({ cls := "RegressionCourt$Run", name := "<init>", desc := "(ILRegressionCourt$Machine;I)V" } : Jvm.MethodName)) ∈ lw_tbl := List.mem_of_getElem? (i := 777) (by decide +kernel)
set_option maxRecDepth 50000 in
theorem qw_728 : (Jvm.Cond.code ({ cls := "RegressionCourt$Run", name := "<init>", desc := "(ILRegressionCourt$Machine;I)V" } : Jvm.MethodName) prog_6_method_1_code (4 : Nat) (Option.none : Option Jvm.ClassFile.FieldType)) ∈ lw_tbl := List.mem_of_getElem? (i := 778) rfl
theorem qw_729 : (Jvm.Cond.methodLink "RegressionCourt$Run" (1 : Nat) ({ cls := "java/lang/Object", name := "<init>", desc := "()V" } : Jvm.MethodName)) ∈ lw_tbl := List.mem_of_getElem? (i := 779) (by decide +kernel)
theorem qw_730 : (Jvm.Cond.methodLinkNest "RegressionCourt$Run" (24 : Nat) ({ cls := "RegressionCourt$Machine", name := "worthOf", desc := "(I)I" } : Jvm.MethodName) "RegressionCourt") ∈ lw_tbl := List.mem_of_getElem? (i := 780) (by decide +kernel)
theorem qw_732 : (Jvm.Cond.instanceMethod ({ cls := "RegressionCourt$Machine", name := "worthOf", desc := "(I)I" } : Jvm.MethodName)) ∈ lw_tbl := List.mem_of_getElem? (i := 782) (by decide +kernel)
set_option maxRecDepth 50000 in
theorem qw_733 : (Jvm.Cond.code ({ cls := "RegressionCourt$Machine", name := "worthOf", desc := "(I)I" } : Jvm.MethodName) prog_5_method_4_code (2 : Nat) (Option.some Jvm.ClassFile.FieldType.int)) ∈ lw_tbl := List.mem_of_getElem? (i := 783) rfl
theorem qw_734 : (Jvm.Cond.fieldLink "RegressionCourt$Run" (13 : Nat) "RegressionCourt$Run" "change" "I") ∈ lw_tbl := List.mem_of_getElem? (i := 784) (by decide +kernel)
theorem qw_735 : (Jvm.Cond.fieldLinkNest "RegressionCourt" (302 : Nat) "RegressionCourt$Run" "change" "I" "RegressionCourt") ∈ lw_tbl := List.mem_of_getElem? (i := 785) (by decide +kernel)
theorem qw_736 : (Jvm.Cond.fieldLink "RegressionCourt$Run" (17 : Nat) "RegressionCourt$Run" "machine" "LRegressionCourt$Machine;") ∈ lw_tbl := List.mem_of_getElem? (i := 786) (by decide +kernel)
theorem qw_737 : (Jvm.Cond.fieldLinkNest "RegressionCourt$Change" (49 : Nat) "RegressionCourt$Run" "machine" "LRegressionCourt$Machine;" "RegressionCourt") ∈ lw_tbl := List.mem_of_getElem? (i := 787) (by decide +kernel)
theorem qw_738 : (Jvm.Cond.fieldLinkNest "RegressionCourt" (304 : Nat) "RegressionCourt$Run" "machine" "LRegressionCourt$Machine;" "RegressionCourt") ∈ lw_tbl := List.mem_of_getElem? (i := 788) (by decide +kernel)
theorem qw_739 : (Jvm.Cond.fieldLink "RegressionCourt$Run" (21 : Nat) "RegressionCourt$Run" "time" "I") ∈ lw_tbl := List.mem_of_getElem? (i := 789) (by decide +kernel)
theorem qw_740 : (Jvm.Cond.fieldLinkNest "RegressionCourt" (310 : Nat) "RegressionCourt$Run" "time" "I" "RegressionCourt") ∈ lw_tbl := List.mem_of_getElem? (i := 790) (by decide +kernel)
theorem qw_741 : (Jvm.Cond.fieldLink "RegressionCourt$Run" (30 : Nat) "RegressionCourt$Run" "worth" "I") ∈ lw_tbl := List.mem_of_getElem? (i := 791) (by decide +kernel)
theorem qw_742 : (Jvm.Cond.fieldLinkNest "RegressionCourt$Sample" (40 : Nat) "RegressionCourt$Run" "worth" "I" "RegressionCourt") ∈ lw_tbl := List.mem_of_getElem? (i := 792) (by decide +kernel)
theorem qw_743 : (Jvm.Cond.fieldLinkNest "RegressionCourt" (158 : Nat) "RegressionCourt$Run" "worth" "I" "RegressionCourt") ∈ lw_tbl := List.mem_of_getElem? (i := 793) (by decide +kernel)
theorem qw_744 : (Jvm.Cond.fieldLink "RegressionCourt$Run" (7 : Nat) "RegressionCourt$Run" "isStruck" "Z") ∈ lw_tbl := List.mem_of_getElem? (i := 794) (by decide +kernel)
theorem qw_745 : (Jvm.Cond.fieldLinkNest "RegressionCourt" (163 : Nat) "RegressionCourt$Run" "isStruck" "Z" "RegressionCourt") ∈ lw_tbl := List.mem_of_getElem? (i := 795) (by decide +kernel)
theorem qw_757 : (Jvm.Cond.methodLink "RegressionCourtLaw" (98 : Nat) ({ cls := "RegressionCourt", name := "ofRun", desc := "(II)I" } : Jvm.MethodName)) ∈ lw_tbl := List.mem_of_getElem? (i := 807) (by decide +kernel)
theorem qw_758 : (Jvm.Cond.instanceMethod ({ cls := "RegressionCourt", name := "ofRun", desc := "(II)I" } : Jvm.MethodName)) ∈ lw_tbl := List.mem_of_getElem? (i := 808) (by decide +kernel)
theorem qw_759 : (Jvm.Cond.selects "RegressionCourt" ({ cls := "RegressionCourt", name := "ofRun", desc := "(II)I" } : Jvm.MethodName) ({ cls := "RegressionCourt", name := "ofRun", desc := "(II)I" } : Jvm.MethodName)) ∈ lw_tbl := List.mem_of_getElem? (i := 809) (by decide +kernel)
set_option maxRecDepth 50000 in
theorem qw_760 : (Jvm.Cond.code ({ cls := "RegressionCourt", name := "ofRun", desc := "(II)I" } : Jvm.MethodName) prog_1_method_8_code (3 : Nat) (Option.some Jvm.ClassFile.FieldType.int)) ∈ lw_tbl := List.mem_of_getElem? (i := 810) rfl
theorem qw_761 : (Jvm.Cond.methodLink "RegressionCourtLaw" (43 : Nat) ({ cls := "RegressionCourtLaw", name := "areSamplesRight", desc := "(LRegressionCourt;)Z" } : Jvm.MethodName)) ∈ lw_tbl := List.mem_of_getElem? (i := 811) (by decide +kernel)
theorem qw_762 : (Jvm.Cond.static ({ cls := "RegressionCourtLaw", name := "areSamplesRight", desc := "(LRegressionCourt;)Z" } : Jvm.MethodName)) ∈ lw_tbl := List.mem_of_getElem? (i := 812) (by decide +kernel)
set_option maxRecDepth 50000 in
theorem qw_763 : (Jvm.Cond.code ({ cls := "RegressionCourtLaw", name := "areSamplesRight", desc := "(LRegressionCourt;)Z" } : Jvm.MethodName) method_6_code (7 : Nat) (Option.some Jvm.ClassFile.FieldType.boolean)) ∈ lw_tbl := List.mem_of_getElem? (i := 813) rfl
theorem qw_764 : (Jvm.Cond.methodLink "RegressionCourtLaw" (107 : Nat) ({ cls := "RegressionCourt", name := "minutesFor", desc := "(I)I" } : Jvm.MethodName)) ∈ lw_tbl := List.mem_of_getElem? (i := 814) (by decide +kernel)
theorem qw_765 : (Jvm.Cond.instanceMethod ({ cls := "RegressionCourt", name := "minutesFor", desc := "(I)I" } : Jvm.MethodName)) ∈ lw_tbl := List.mem_of_getElem? (i := 815) (by decide +kernel)
theorem qw_766 : (Jvm.Cond.selects "RegressionCourt" ({ cls := "RegressionCourt", name := "minutesFor", desc := "(I)I" } : Jvm.MethodName) ({ cls := "RegressionCourt", name := "minutesFor", desc := "(I)I" } : Jvm.MethodName)) ∈ lw_tbl := List.mem_of_getElem? (i := 816) (by decide +kernel)
set_option maxRecDepth 50000 in
theorem qw_767 : (Jvm.Cond.code ({ cls := "RegressionCourt", name := "minutesFor", desc := "(I)I" } : Jvm.MethodName) prog_1_method_20_code (2 : Nat) (Option.some Jvm.ClassFile.FieldType.int)) ∈ lw_tbl := List.mem_of_getElem? (i := 817) rfl
theorem qw_768 : (Jvm.Cond.methodLink "RegressionCourtLaw" (47 : Nat) ({ cls := "RegressionCourtLaw", name := "isVerdictRight", desc := "(LRegressionCourt;IIII)Z" } : Jvm.MethodName)) ∈ lw_tbl := List.mem_of_getElem? (i := 818) (by decide +kernel)
theorem qw_769 : (Jvm.Cond.static ({ cls := "RegressionCourtLaw", name := "isVerdictRight", desc := "(LRegressionCourt;IIII)Z" } : Jvm.MethodName)) ∈ lw_tbl := List.mem_of_getElem? (i := 819) (by decide +kernel)
set_option maxRecDepth 50000 in
theorem qw_770 : (Jvm.Cond.code ({ cls := "RegressionCourtLaw", name := "isVerdictRight", desc := "(LRegressionCourt;IIII)Z" } : Jvm.MethodName) method_7_code (14 : Nat) (Option.some Jvm.ClassFile.FieldType.boolean)) ∈ lw_tbl := List.mem_of_getElem? (i := 820) rfl
theorem qw_771 : (Jvm.Cond.methodLink "RegressionCourtLaw" (110 : Nat) ({ cls := "RegressionCourt", name := "verdict", desc := "(III)I" } : Jvm.MethodName)) ∈ lw_tbl := List.mem_of_getElem? (i := 821) (by decide +kernel)
theorem qw_772 : (Jvm.Cond.instanceMethod ({ cls := "RegressionCourt", name := "verdict", desc := "(III)I" } : Jvm.MethodName)) ∈ lw_tbl := List.mem_of_getElem? (i := 822) (by decide +kernel)
theorem qw_773 : (Jvm.Cond.selects "RegressionCourt" ({ cls := "RegressionCourt", name := "verdict", desc := "(III)I" } : Jvm.MethodName) ({ cls := "RegressionCourt", name := "verdict", desc := "(III)I" } : Jvm.MethodName)) ∈ lw_tbl := List.mem_of_getElem? (i := 823) (by decide +kernel)
set_option maxRecDepth 50000 in
theorem qw_774 : (Jvm.Cond.code ({ cls := "RegressionCourt", name := "verdict", desc := "(III)I" } : Jvm.MethodName) prog_1_method_10_code (4 : Nat) (Option.some Jvm.ClassFile.FieldType.int)) ∈ lw_tbl := List.mem_of_getElem? (i := 824) rfl
theorem qw_775 : (Jvm.Cond.methodLink "RegressionCourtLaw" (113 : Nat) ({ cls := "RegressionCourt", name := "doubt", desc := "(II)D" } : Jvm.MethodName)) ∈ lw_tbl := List.mem_of_getElem? (i := 825) (by decide +kernel)
theorem qw_776 : (Jvm.Cond.instanceMethod ({ cls := "RegressionCourt", name := "doubt", desc := "(II)D" } : Jvm.MethodName)) ∈ lw_tbl := List.mem_of_getElem? (i := 826) (by decide +kernel)
theorem qw_777 : (Jvm.Cond.selects "RegressionCourt" ({ cls := "RegressionCourt", name := "doubt", desc := "(II)D" } : Jvm.MethodName) ({ cls := "RegressionCourt", name := "doubt", desc := "(II)D" } : Jvm.MethodName)) ∈ lw_tbl := List.mem_of_getElem? (i := 827) (by decide +kernel)
set_option maxRecDepth 50000 in
theorem qw_778 : (Jvm.Cond.code ({ cls := "RegressionCourt", name := "doubt", desc := "(II)D" } : Jvm.MethodName) prog_1_method_11_code (3 : Nat) (Option.some Jvm.ClassFile.FieldType.double)) ∈ lw_tbl := List.mem_of_getElem? (i := 828) rfl
theorem qw_779 : (Jvm.Cond.methodLinkNest "RegressionCourt" (186 : Nat) ({ cls := "RegressionCourt$Duel", name := "shareOfHigh", desc := "()D" } : Jvm.MethodName) "RegressionCourt") ∈ lw_tbl := List.mem_of_getElem? (i := 829) (by decide +kernel)
theorem qw_781 : (Jvm.Cond.instanceMethod ({ cls := "RegressionCourt$Duel", name := "shareOfHigh", desc := "()D" } : Jvm.MethodName)) ∈ lw_tbl := List.mem_of_getElem? (i := 831) (by decide +kernel)
set_option maxRecDepth 50000 in
theorem qw_782 : (Jvm.Cond.code ({ cls := "RegressionCourt$Duel", name := "shareOfHigh", desc := "()D" } : Jvm.MethodName) prog_4_method_10_code (1 : Nat) (Option.some Jvm.ClassFile.FieldType.double)) ∈ lw_tbl := List.mem_of_getElem? (i := 832) rfl
theorem qw_783 : (Jvm.Cond.methodLink "RegressionCourtLaw" (117 : Nat) ({ cls := "java/lang/Math", name := "abs", desc := "(D)D" } : Jvm.MethodName)) ∈ lw_tbl := List.mem_of_getElem? (i := 833) (by decide +kernel)
theorem qw_784 : (Jvm.Cond.static ({ cls := "java/lang/Math", name := "abs", desc := "(D)D" } : Jvm.MethodName)) ∈ lw_tbl := List.mem_of_getElem? (i := 834) (by decide +kernel)
set_option maxRecDepth 50000 in
theorem qw_785 : (Jvm.Cond.code ({ cls := "java/lang/Math", name := "abs", desc := "(D)D" } : Jvm.MethodName) prog_19_method_64_code (2 : Nat) (Option.some Jvm.ClassFile.FieldType.double)) ∈ lw_tbl := List.mem_of_getElem? (i := 835) rfl
theorem qw_786 : (Jvm.Cond.methodLink "java/lang/Math" (79 : Nat) ({ cls := "java/lang/Double", name := "doubleToRawLongBits", desc := "(D)J" } : Jvm.MethodName)) ∈ lw_tbl := List.mem_of_getElem? (i := 836) (by decide +kernel)
theorem qw_787 : (Jvm.Cond.static ({ cls := "java/lang/Double", name := "doubleToRawLongBits", desc := "(D)J" } : Jvm.MethodName)) ∈ lw_tbl := List.mem_of_getElem? (i := 837) (by decide +kernel)
theorem qw_788 : (Jvm.Cond.native ({ cls := "java/lang/Double", name := "doubleToRawLongBits", desc := "(D)J" } : Jvm.MethodName)) ∈ lw_tbl := List.mem_of_getElem? (i := 838) (by decide +kernel)
theorem qw_789 : (Jvm.Cond.constantLong "java/lang/Math" (135 : Nat) (9223372036854775807 : Int64)) ∈ lw_tbl := List.mem_of_getElem? (i := 839) (by decide +kernel)
theorem qw_790 : (Jvm.Cond.methodLink "java/lang/Math" (166 : Nat) ({ cls := "java/lang/Double", name := "longBitsToDouble", desc := "(J)D" } : Jvm.MethodName)) ∈ lw_tbl := List.mem_of_getElem? (i := 840) (by decide +kernel)
theorem qw_791 : (Jvm.Cond.static ({ cls := "java/lang/Double", name := "longBitsToDouble", desc := "(J)D" } : Jvm.MethodName)) ∈ lw_tbl := List.mem_of_getElem? (i := 841) (by decide +kernel)
theorem qw_792 : (Jvm.Cond.native ({ cls := "java/lang/Double", name := "longBitsToDouble", desc := "(J)D" } : Jvm.MethodName)) ∈ lw_tbl := List.mem_of_getElem? (i := 842) (by decide +kernel)
theorem qw_793 : (Jvm.Cond.constantDouble "RegressionCourtLaw" (121 : Nat) (4562254508917369340 : UInt64)) ∈ lw_tbl := List.mem_of_getElem? (i := 843) (by decide +kernel)
theorem qw_794 : (Jvm.Cond.methodLink "RegressionCourtLaw" (51 : Nat) ({ cls := "RegressionCourtLaw", name := "isCaseRight", desc := "(LRegressionCourt;)Z" } : Jvm.MethodName)) ∈ lw_tbl := List.mem_of_getElem? (i := 844) (by decide +kernel)
theorem qw_795 : (Jvm.Cond.static ({ cls := "RegressionCourtLaw", name := "isCaseRight", desc := "(LRegressionCourt;)Z" } : Jvm.MethodName)) ∈ lw_tbl := List.mem_of_getElem? (i := 845) (by decide +kernel)
set_option maxRecDepth 50000 in
theorem qw_796 : (Jvm.Cond.code ({ cls := "RegressionCourtLaw", name := "isCaseRight", desc := "(LRegressionCourt;)Z" } : Jvm.MethodName) method_8_code (6 : Nat) (Option.some Jvm.ClassFile.FieldType.boolean)) ∈ lw_tbl := List.mem_of_getElem? (i := 846) rfl
theorem qw_797 : (Jvm.Cond.sameMethod "java/lang/Throwable" "java/lang/Throwable" "fillInStackTrace" "(I)Ljava/lang/Throwable;") ∈ lw_tbl := List.mem_of_getElem? (i := 847) (by decide +kernel)
theorem qw_798 : (Jvm.Cond.castable "RegressionCourt" "java/lang/Object") ∈ lw_tbl := List.mem_of_getElem? (i := 848) (by decide +kernel)
theorem qw_799 : (Jvm.Cond.castable "java/util/ArrayList" "java/lang/Object") ∈ lw_tbl := List.mem_of_getElem? (i := 849) (by decide +kernel)
theorem qw_800 : (Jvm.Cond.castable "RegressionCourt$Change" "java/lang/Object") ∈ lw_tbl := List.mem_of_getElem? (i := 850) (by decide +kernel)
theorem qw_801 : (Jvm.Cond.castable "RegressionCourt$Sample" "java/lang/Object") ∈ lw_tbl := List.mem_of_getElem? (i := 851) (by decide +kernel)
theorem qw_802 : (Jvm.Cond.castable "RegressionCourt$Duel" "java/lang/Object") ∈ lw_tbl := List.mem_of_getElem? (i := 852) (by decide +kernel)
theorem qw_803 : (Jvm.Cond.castable "RegressionCourt$Bisection" "java/lang/Object") ∈ lw_tbl := List.mem_of_getElem? (i := 853) (by decide +kernel)
theorem qw_804 : (Jvm.Cond.castable "java/lang/IllegalArgumentException" "java/lang/Object") ∈ lw_tbl := List.mem_of_getElem? (i := 854) (by decide +kernel)
theorem qw_805 : (Jvm.Cond.castable "java/lang/IllegalStateException" "java/lang/Object") ∈ lw_tbl := List.mem_of_getElem? (i := 855) (by decide +kernel)
theorem qw_806 : (Jvm.Cond.castable "RegressionCourt$Machine" "java/lang/Object") ∈ lw_tbl := List.mem_of_getElem? (i := 856) (by decide +kernel)
theorem qw_807 : (Jvm.Cond.castable "java/lang/IndexOutOfBoundsException" "java/lang/Object") ∈ lw_tbl := List.mem_of_getElem? (i := 857) (by decide +kernel)
theorem qw_808 : (Jvm.Cond.castable "RegressionCourt$Run" "java/lang/Object") ∈ lw_tbl := List.mem_of_getElem? (i := 858) (by decide +kernel)
theorem qw_809 : (Jvm.Cond.castable "java/lang/Throwable" "java/lang/Object") ∈ lw_tbl := List.mem_of_getElem? (i := 859) (by decide +kernel)
theorem qw_810 : (Jvm.Cond.castable "java/lang/String" "java/lang/Object") ∈ lw_tbl := List.mem_of_getElem? (i := 860) (by decide +kernel)
theorem qw_811 : (Jvm.Cond.sameMethod "[Ljava/lang/Object;" "java/lang/Object" "getClass" "()Ljava/lang/Class;") ∈ lw_tbl := List.mem_of_getElem? (i := 861) (by decide +kernel)
theorem qw_812 : (Jvm.Cond.selects "[Ljava/lang/Object;" ({ cls := "java/lang/Object", name := "getClass", desc := "()Ljava/lang/Class;" } : Jvm.MethodName) ({ cls := "java/lang/Object", name := "getClass", desc := "()Ljava/lang/Class;" } : Jvm.MethodName)) ∈ lw_tbl := List.mem_of_getElem? (i := 862) (by decide +kernel)
theorem qw_813 : (Jvm.Cond.declares ({ cls := "java/lang/Object", name := "getClass", desc := "()Ljava/lang/Class;" } : Jvm.MethodName)) ∈ lw_tbl := List.mem_of_getElem? (i := 863) (by decide +kernel)
theorem qw_814 : (Jvm.Cond.castable "[I" "java/lang/Object") ∈ lw_tbl := List.mem_of_getElem? (i := 864) (by decide +kernel)
theorem qw_815 : (Jvm.Cond.castable "[[I" "java/lang/Object") ∈ lw_tbl := List.mem_of_getElem? (i := 865) (by decide +kernel)
theorem qw_816 : (Jvm.Cond.castable "[Ljava/lang/Object;" "java/lang/Object") ∈ lw_tbl := List.mem_of_getElem? (i := 866) (by decide +kernel)
theorem qw_817 : (Jvm.Cond.castable "[B" "java/lang/Object") ∈ lw_tbl := List.mem_of_getElem? (i := 867) (by decide +kernel)
theorem qs_0 : Cond.selects "java/util/ArrayList" ⟨"java/util/ArrayList", "add", "(Ljava/lang/Object;[Ljava/lang/Object;I)V"⟩ ⟨"java/util/ArrayList", "add", "(Ljava/lang/Object;[Ljava/lang/Object;I)V"⟩ ∈ lw_tbl := List.mem_of_getElem? (i := 0) (by decide +kernel)
theorem qs_1 : Cond.selects "java/util/ArrayList" ⟨"java/util/ArrayList", "grow", "()[Ljava/lang/Object;"⟩ ⟨"java/util/ArrayList", "grow", "()[Ljava/lang/Object;"⟩ ∈ lw_tbl := List.mem_of_getElem? (i := 1) (by decide +kernel)
theorem qs_2 : Cond.selects "java/util/ArrayList" ⟨"java/util/ArrayList", "grow", "(I)[Ljava/lang/Object;"⟩ ⟨"java/util/ArrayList", "grow", "(I)[Ljava/lang/Object;"⟩ ∈ lw_tbl := List.mem_of_getElem? (i := 2) (by decide +kernel)
theorem qs_3 : Cond.selects "java/lang/Throwable" ⟨"java/lang/Throwable", "fillInStackTrace", "(I)Ljava/lang/Throwable;"⟩ ⟨"java/lang/Throwable", "fillInStackTrace", "(I)Ljava/lang/Throwable;"⟩ ∈ lw_tbl := List.mem_of_getElem? (i := 3) (by decide +kernel)
theorem qs_4 : Cond.selects "RegressionCourt" ⟨"RegressionCourt", "goOn", "()V"⟩ ⟨"RegressionCourt", "goOn", "()V"⟩ ∈ lw_tbl := List.mem_of_getElem? (i := 4) (by decide +kernel)
theorem qs_5 : Cond.selects "RegressionCourt" ⟨"RegressionCourt", "bisectOnce", "()Z"⟩ ⟨"RegressionCourt", "bisectOnce", "()Z"⟩ ∈ lw_tbl := List.mem_of_getElem? (i := 5) (by decide +kernel)
theorem qs_6 : Cond.selects "RegressionCourt$Bisection" ⟨"RegressionCourt$Bisection", "probe", "()I"⟩ ⟨"RegressionCourt$Bisection", "probe", "()I"⟩ ∈ lw_tbl := List.mem_of_getElem? (i := 6) (by decide +kernel)
theorem qs_7 : Cond.selects "RegressionCourt" ⟨"RegressionCourt", "meet", "(II)V"⟩ ⟨"RegressionCourt", "meet", "(II)V"⟩ ∈ lw_tbl := List.mem_of_getElem? (i := 7) (by decide +kernel)
theorem qs_8 : Cond.selects "RegressionCourt$Sample" ⟨"RegressionCourt$Sample", "clear", "()V"⟩ ⟨"RegressionCourt$Sample", "clear", "()V"⟩ ∈ lw_tbl := List.mem_of_getElem? (i := 8) (by decide +kernel)
theorem qs_9 : Cond.selects "RegressionCourt" ⟨"RegressionCourt", "changeAt", "(I)LRegressionCourt$Change;"⟩ ⟨"RegressionCourt", "changeAt", "(I)LRegressionCourt$Change;"⟩ ∈ lw_tbl := List.mem_of_getElem? (i := 9) (by decide +kernel)
theorem qs_10 : Cond.selects "RegressionCourt$Sample" ⟨"RegressionCourt$Sample", "addLastOf", "(LRegressionCourt$Change;)V"⟩ ⟨"RegressionCourt$Sample", "addLastOf", "(LRegressionCourt$Change;)V"⟩ ∈ lw_tbl := List.mem_of_getElem? (i := 10) (by decide +kernel)
theorem qs_11 : Cond.selects "RegressionCourt$Run" ⟨"RegressionCourt$Run", "isCounting", "()Z"⟩ ⟨"RegressionCourt$Run", "isCounting", "()Z"⟩ ∈ lw_tbl := List.mem_of_getElem? (i := 11) (by decide +kernel)
theorem qs_12 : Cond.selects "RegressionCourt$Sample" ⟨"RegressionCourt$Sample", "add", "(I)V"⟩ ⟨"RegressionCourt$Sample", "add", "(I)V"⟩ ∈ lw_tbl := List.mem_of_getElem? (i := 12) (by decide +kernel)
theorem qs_13 : Cond.selects "RegressionCourt$Duel" ⟨"RegressionCourt$Duel", "weigh", "()V"⟩ ⟨"RegressionCourt$Duel", "weigh", "()V"⟩ ∈ lw_tbl := List.mem_of_getElem? (i := 13) (by decide +kernel)
theorem qs_14 : Cond.selects "RegressionCourt$Duel" ⟨"RegressionCourt$Duel", "lay", "(LRegressionCourt$Sample;)V"⟩ ⟨"RegressionCourt$Duel", "lay", "(LRegressionCourt$Sample;)V"⟩ ∈ lw_tbl := List.mem_of_getElem? (i := 14) (by decide +kernel)
theorem qs_15 : Cond.selects "RegressionCourt$Sample" ⟨"RegressionCourt$Sample", "worthAt", "(I)I"⟩ ⟨"RegressionCourt$Sample", "worthAt", "(I)I"⟩ ∈ lw_tbl := List.mem_of_getElem? (i := 15) (by decide +kernel)
theorem qs_16 : Cond.selects "RegressionCourt$Duel" ⟨"RegressionCourt$Duel", "leadOf", "(I)I"⟩ ⟨"RegressionCourt$Duel", "leadOf", "(I)I"⟩ ∈ lw_tbl := List.mem_of_getElem? (i := 16) (by decide +kernel)
theorem qs_17 : Cond.selects "RegressionCourt$Duel" ⟨"RegressionCourt$Duel", "countWays", "()V"⟩ ⟨"RegressionCourt$Duel", "countWays", "()V"⟩ ∈ lw_tbl := List.mem_of_getElem? (i := 17) (by decide +kernel)
theorem qs_18 : Cond.selects "RegressionCourt$Duel" ⟨"RegressionCourt$Duel", "clearLeads", "([I)V"⟩ ⟨"RegressionCourt$Duel", "clearLeads", "([I)V"⟩ ∈ lw_tbl := List.mem_of_getElem? (i := 18) (by decide +kernel)
theorem qs_19 : Cond.selects "RegressionCourt$Duel" ⟨"RegressionCourt$Duel", "addShifted", "([I[II)V"⟩ ⟨"RegressionCourt$Duel", "addShifted", "([I[II)V"⟩ ∈ lw_tbl := List.mem_of_getElem? (i := 19) (by decide +kernel)
theorem qs_20 : Cond.selects "RegressionCourt$Duel" ⟨"RegressionCourt$Duel", "tally", "(I)V"⟩ ⟨"RegressionCourt$Duel", "tally", "(I)V"⟩ ∈ lw_tbl := List.mem_of_getElem? (i := 20) (by decide +kernel)
theorem qs_21 : Cond.selects "RegressionCourt$Duel" ⟨"RegressionCourt$Duel", "outcome", "(II)I"⟩ ⟨"RegressionCourt$Duel", "outcome", "(II)I"⟩ ∈ lw_tbl := List.mem_of_getElem? (i := 21) (by decide +kernel)
theorem qs_22 : Cond.selects "RegressionCourt$Bisection" ⟨"RegressionCourt$Bisection", "close", "()V"⟩ ⟨"RegressionCourt$Bisection", "close", "()V"⟩ ∈ lw_tbl := List.mem_of_getElem? (i := 22) (by decide +kernel)
theorem qs_23 : Cond.selects "RegressionCourt$Bisection" ⟨"RegressionCourt$Bisection", "narrow", "(IZ)V"⟩ ⟨"RegressionCourt$Bisection", "narrow", "(IZ)V"⟩ ∈ lw_tbl := List.mem_of_getElem? (i := 23) (by decide +kernel)
theorem qs_24 : Cond.selects "RegressionCourt" ⟨"RegressionCourt", "courtFact", "(I)I"⟩ ⟨"RegressionCourt", "courtFact", "(I)I"⟩ ∈ lw_tbl := List.mem_of_getElem? (i := 24) (by decide +kernel)
theorem qs_25 : Cond.selects "RegressionCourt" ⟨"RegressionCourt", "runsThatCount", "()I"⟩ ⟨"RegressionCourt", "runsThatCount", "()I"⟩ ∈ lw_tbl := List.mem_of_getElem? (i := 25) (by decide +kernel)
theorem qs_26 : Cond.selects "RegressionCourt" ⟨"RegressionCourt", "changesNamed", "()I"⟩ ⟨"RegressionCourt", "changesNamed", "()I"⟩ ∈ lw_tbl := List.mem_of_getElem? (i := 26) (by decide +kernel)
theorem qs_27 : Cond.selects "RegressionCourt" ⟨"RegressionCourt", "machinesAside", "()I"⟩ ⟨"RegressionCourt", "machinesAside", "()I"⟩ ∈ lw_tbl := List.mem_of_getElem? (i := 27) (by decide +kernel)
theorem qs_28 : Cond.selects "RegressionCourt" ⟨"RegressionCourt", "digestOfMachines", "(J)J"⟩ ⟨"RegressionCourt", "digestOfMachines", "(J)J"⟩ ∈ lw_tbl := List.mem_of_getElem? (i := 28) (by decide +kernel)
theorem qs_29 : Cond.selects "RegressionCourt" ⟨"RegressionCourt", "machineFact", "(LRegressionCourt$Machine;I)I"⟩ ⟨"RegressionCourt", "machineFact", "(LRegressionCourt$Machine;I)I"⟩ ∈ lw_tbl := List.mem_of_getElem? (i := 29) (by decide +kernel)
theorem qs_30 : Cond.selects "RegressionCourt" ⟨"RegressionCourt", "changesHurtWithout", "(LRegressionCourt$Machine;)I"⟩ ⟨"RegressionCourt", "changesHurtWithout", "(LRegressionCourt$Machine;)I"⟩ ∈ lw_tbl := List.mem_of_getElem? (i := 30) (by decide +kernel)
theorem qs_31 : Cond.selects "RegressionCourt$Change" ⟨"RegressionCourt$Change", "sampleSizeWithout", "(LRegressionCourt$Machine;)I"⟩ ⟨"RegressionCourt$Change", "sampleSizeWithout", "(LRegressionCourt$Machine;)I"⟩ ∈ lw_tbl := List.mem_of_getElem? (i := 31) (by decide +kernel)
theorem qs_32 : Cond.selects "RegressionCourt$Change" ⟨"RegressionCourt$Change", "sampleSize", "()I"⟩ ⟨"RegressionCourt$Change", "sampleSize", "()I"⟩ ∈ lw_tbl := List.mem_of_getElem? (i := 32) (by decide +kernel)
theorem qs_33 : Cond.selects "RegressionCourt" ⟨"RegressionCourt", "digestOfChanges", "(J)J"⟩ ⟨"RegressionCourt", "digestOfChanges", "(J)J"⟩ ∈ lw_tbl := List.mem_of_getElem? (i := 33) (by decide +kernel)
theorem qs_34 : Cond.selects "RegressionCourt" ⟨"RegressionCourt", "changeFact", "(LRegressionCourt$Change;I)I"⟩ ⟨"RegressionCourt", "changeFact", "(LRegressionCourt$Change;I)I"⟩ ∈ lw_tbl := List.mem_of_getElem? (i := 34) (by decide +kernel)
theorem qs_35 : Cond.selects "RegressionCourt" ⟨"RegressionCourt", "minutesToFill", "(LRegressionCourt$Change;)I"⟩ ⟨"RegressionCourt", "minutesToFill", "(LRegressionCourt$Change;)I"⟩ ∈ lw_tbl := List.mem_of_getElem? (i := 35) (by decide +kernel)
theorem qs_36 : Cond.selects "RegressionCourt" ⟨"RegressionCourt", "leastPrice", "()I"⟩ ⟨"RegressionCourt", "leastPrice", "()I"⟩ ∈ lw_tbl := List.mem_of_getElem? (i := 36) (by decide +kernel)
theorem qs_37 : Cond.selects "RegressionCourt" ⟨"RegressionCourt", "digestOfRuns", "(J)J"⟩ ⟨"RegressionCourt", "digestOfRuns", "(J)J"⟩ ∈ lw_tbl := List.mem_of_getElem? (i := 37) (by decide +kernel)
theorem qs_38 : Cond.selects "RegressionCourt" ⟨"RegressionCourt", "runFact", "(LRegressionCourt$Run;I)I"⟩ ⟨"RegressionCourt", "runFact", "(LRegressionCourt$Run;I)I"⟩ ∈ lw_tbl := List.mem_of_getElem? (i := 38) (by decide +kernel)
theorem qs_39 : Cond.selects "RegressionCourt$Change" ⟨"RegressionCourt$Change", "isInSample", "(LRegressionCourt$Run;)Z"⟩ ⟨"RegressionCourt$Change", "isInSample", "(LRegressionCourt$Run;)Z"⟩ ∈ lw_tbl := List.mem_of_getElem? (i := 39) (by decide +kernel)
theorem qs_40 : Cond.selects "RegressionCourt" ⟨"RegressionCourt", "digestOfVerdicts", "(J)J"⟩ ⟨"RegressionCourt", "digestOfVerdicts", "(J)J"⟩ ∈ lw_tbl := List.mem_of_getElem? (i := 40) (by decide +kernel)
theorem qs_41 : Cond.selects "RegressionCourt" ⟨"RegressionCourt", "duelFact", "(I)I"⟩ ⟨"RegressionCourt", "duelFact", "(I)I"⟩ ∈ lw_tbl := List.mem_of_getElem? (i := 41) (by decide +kernel)
theorem qs_42 : Cond.selects "RegressionCourt" ⟨"RegressionCourt", "caseFact", "(I)I"⟩ ⟨"RegressionCourt", "caseFact", "(I)I"⟩ ∈ lw_tbl := List.mem_of_getElem? (i := 42) (by decide +kernel)
theorem qs_43 : Cond.selects "RegressionCourt" ⟨"RegressionCourt", "creditOfStepTo", "(I)I"⟩ ⟨"RegressionCourt", "creditOfStepTo", "(I)I"⟩ ∈ lw_tbl := List.mem_of_getElem? (i := 43) (by decide +kernel)
theorem qs_44 : Cond.selects "RegressionCourt$Machine" ⟨"RegressionCourt$Machine", "take", "(I)V"⟩ ⟨"RegressionCourt$Machine", "take", "(I)V"⟩ ∈ lw_tbl := List.mem_of_getElem? (i := 44) (by decide +kernel)
theorem qs_45 : Cond.selects "RegressionCourt$Machine" ⟨"RegressionCourt$Machine", "drifts", "()Z"⟩ ⟨"RegressionCourt$Machine", "drifts", "()Z"⟩ ∈ lw_tbl := List.mem_of_getElem? (i := 45) (by decide +kernel)
theorem qs_46 : Cond.selects "RegressionCourt" ⟨"RegressionCourt", "isNoChange", "(I)Z"⟩ ⟨"RegressionCourt", "isNoChange", "(I)Z"⟩ ∈ lw_tbl := List.mem_of_getElem? (i := 46) (by decide +kernel)
theorem qs_47 : Cond.selects "RegressionCourt$Bisection" ⟨"RegressionCourt$Bisection", "open", "(II)V"⟩ ⟨"RegressionCourt$Bisection", "open", "(II)V"⟩ ∈ lw_tbl := List.mem_of_getElem? (i := 47) (by decide +kernel)
theorem qs_48 : Cond.selects "RegressionCourt$Machine" ⟨"RegressionCourt$Machine", "worthOf", "(I)I"⟩ ⟨"RegressionCourt$Machine", "worthOf", "(I)I"⟩ ∈ lw_tbl := List.mem_of_getElem? (i := 48) (by decide +kernel)
theorem qs_49 : Cond.selects "RegressionCourt$Duel" ⟨"RegressionCourt$Duel", "shareOfHigh", "()D"⟩ ⟨"RegressionCourt$Duel", "shareOfHigh", "()D"⟩ ∈ lw_tbl := List.mem_of_getElem? (i := 49) (by decide +kernel)
