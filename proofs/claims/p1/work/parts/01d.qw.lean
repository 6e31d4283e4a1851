/-! the tables' words, by their places: qw_n is the n-th word of tables_1 -/
theorem qw_0 : (Jvm.Cond.initialized "RegressionCourtLaw") ∈ lw_tbl := List.mem_of_getElem? (i := 73) (by decide +kernel)
theorem qw_1 : (Jvm.Cond.initialized "RegressionCourt") ∈ lw_tbl := List.mem_of_getElem? (i := 74) (by decide +kernel)
theorem qw_2 : (Jvm.Cond.initialized "java/util/AbstractCollection") ∈ lw_tbl := List.mem_of_getElem? (i := 75) (by decide +kernel)
theorem qw_3 : (Jvm.Cond.initialized "java/util/AbstractList") ∈ lw_tbl := List.mem_of_getElem? (i := 76) (by decide +kernel)
theorem qw_4 : (Jvm.Cond.initialized "java/util/ArrayList") ∈ lw_tbl := List.mem_of_getElem? (i := 77) (by decide +kernel)
theorem qw_5 : (Jvm.Cond.initialized "RegressionCourt$Change") ∈ lw_tbl := List.mem_of_getElem? (i := 78) (by decide +kernel)
theorem qw_6 : (Jvm.Cond.initialized "RegressionCourt$Sample") ∈ lw_tbl := List.mem_of_getElem? (i := 79) (by decide +kernel)
theorem qw_7 : (Jvm.Cond.initialized "RegressionCourt$Duel") ∈ lw_tbl := List.mem_of_getElem? (i := 80) (by decide +kernel)
theorem qw_8 : (Jvm.Cond.initialized "RegressionCourt$Bisection") ∈ lw_tbl := List.mem_of_getElem? (i := 81) (by decide +kernel)
theorem qw_9 : (Jvm.Cond.initialized "jdk/internal/util/ArraysSupport") ∈ lw_tbl := List.mem_of_getElem? (i := 82) (by decide +kernel)
theorem qw_10 : (Jvm.Cond.initialized "java/lang/Math") ∈ lw_tbl := List.mem_of_getElem? (i := 83) (by decide +kernel)
theorem qw_11 : (Jvm.Cond.initialized "java/util/Arrays") ∈ lw_tbl := List.mem_of_getElem? (i := 84) (by decide +kernel)
theorem qw_12 : (Jvm.Cond.initialized "java/lang/System") ∈ lw_tbl := List.mem_of_getElem? (i := 85) (by decide +kernel)
theorem qw_13 : (Jvm.Cond.initialized "RegressionCourtModel") ∈ lw_tbl := List.mem_of_getElem? (i := 86) (by decide +kernel)
theorem qw_14 : (Jvm.Cond.initialized "java/lang/Throwable") ∈ lw_tbl := List.mem_of_getElem? (i := 87) (by decide +kernel)
theorem qw_15 : (Jvm.Cond.initialized "java/lang/Exception") ∈ lw_tbl := List.mem_of_getElem? (i := 88) (by decide +kernel)
theorem qw_16 : (Jvm.Cond.initialized "java/lang/RuntimeException") ∈ lw_tbl := List.mem_of_getElem? (i := 89) (by decide +kernel)
theorem qw_17 : (Jvm.Cond.initialized "java/lang/IllegalArgumentException") ∈ lw_tbl := List.mem_of_getElem? (i := 90) (by decide +kernel)
theorem qw_18 : (Jvm.Cond.initialized "java/lang/IllegalStateException") ∈ lw_tbl := List.mem_of_getElem? (i := 91) (by decide +kernel)
theorem qw_19 : (Jvm.Cond.initialized "RegressionCourt$Machine") ∈ lw_tbl := List.mem_of_getElem? (i := 92) (by decide +kernel)
theorem qw_20 : (Jvm.Cond.initialized "java/lang/Number") ∈ lw_tbl := List.mem_of_getElem? (i := 93) (by decide +kernel)
theorem qw_21 : (Jvm.Cond.initialized "java/lang/Integer") ∈ lw_tbl := List.mem_of_getElem? (i := 94) (by decide +kernel)
theorem qw_22 : (Jvm.Cond.initialized "java/lang/Integer$IntegerCache") ∈ lw_tbl := List.mem_of_getElem? (i := 95) (by decide +kernel)
theorem qw_23 : (Jvm.Cond.initialized "java/lang/IndexOutOfBoundsException") ∈ lw_tbl := List.mem_of_getElem? (i := 96) (by decide +kernel)
theorem qw_24 : (Jvm.Cond.initialized "java/util/Objects") ∈ lw_tbl := List.mem_of_getElem? (i := 97) (by decide +kernel)
theorem qw_25 : (Jvm.Cond.initialized "jdk/internal/util/Preconditions") ∈ lw_tbl := List.mem_of_getElem? (i := 98) (by decide +kernel)
theorem qw_26 : (Jvm.Cond.initialized "java/lang/AbstractStringBuilder") ∈ lw_tbl := List.mem_of_getElem? (i := 99) (by decide +kernel)
theorem qw_27 : (Jvm.Cond.initialized "java/lang/StringBuilder") ∈ lw_tbl := List.mem_of_getElem? (i := 100) (by decide +kernel)
theorem qw_28 : (Jvm.Cond.initialized "java/lang/String") ∈ lw_tbl := List.mem_of_getElem? (i := 101) (by decide +kernel)
theorem qw_29 : (Jvm.Cond.initialized "java/lang/StringUTF16") ∈ lw_tbl := List.mem_of_getElem? (i := 102) (by decide +kernel)
theorem qw_30 : (Jvm.Cond.initialized "java/lang/StringLatin1") ∈ lw_tbl := List.mem_of_getElem? (i := 103) (by decide +kernel)
theorem qw_31 : (Jvm.Cond.initialized "java/util/DualPivotQuicksort") ∈ lw_tbl := List.mem_of_getElem? (i := 104) (by decide +kernel)
theorem qw_32 : (Jvm.Cond.initialized "java/util/ArrayList$Itr") ∈ lw_tbl := List.mem_of_getElem? (i := 105) (by decide +kernel)
theorem qw_33 : (Jvm.Cond.initialized "RegressionCourt$Run") ∈ lw_tbl := List.mem_of_getElem? (i := 106) (by decide +kernel)
theorem qw_34 : (Jvm.Cond.classLink "RegressionCourtLaw" (8 : Nat) "RegressionCourt") ∈ lw_tbl := List.mem_of_getElem? (i := 107) (by decide +kernel)
theorem qw_35 : (Jvm.Cond.instantiable "RegressionCourt" (13 : Nat)) ∈ lw_tbl := List.mem_of_getElem? (i := 108) (by decide +kernel)
theorem qw_36 : (Jvm.Cond.methodLink "RegressionCourtLaw" (81 : Nat) ({ cls := "RegressionCourt", name := "<init>", desc := "()V" } : Jvm.MethodName)) ∈ lw_tbl := List.mem_of_getElem? (i := 109) (by decide +kernel)
theorem qw_37 : (Jvm.Cond.instanceMethod ({ cls := "RegressionCourt", name := "<init>", desc := "()V" } : Jvm.MethodName)) ∈ lw_tbl := List.mem_of_getElem? (i := 110) (by decide +kernel)
set_option maxRecDepth 50000 in
theorem qw_38 : (Jvm.Cond.code ({ cls := "RegressionCourt", name := "<init>", desc := "()V" } : Jvm.MethodName) prog_1_method_1_code (1 : Nat) (Option.none : Option Jvm.ClassFile.FieldType)) ∈ lw_tbl := List.mem_of_getElem? (i := 111) rfl
theorem qw_39 : (Jvm.Cond.methodLink "RegressionCourt" (1 : Nat) ({ cls := "java/lang/Object", name := "<init>", desc := "()V" } : Jvm.MethodName)) ∈ lw_tbl := List.mem_of_getElem? (i := 112) (by decide +kernel)
theorem qw_40 : (Jvm.Cond.instanceMethod ({ cls := "java/lang/Object", name := "<init>", desc := "()V" } : Jvm.MethodName)) ∈ lw_tbl := List.mem_of_getElem? (i := 113) (by decide +kernel)
set_option maxRecDepth 50000 in
theorem qw_41 : (Jvm.Cond.code ({ cls := "java/lang/Object", name := "<init>", desc := "()V" } : Jvm.MethodName) object_method_1_code (1 : Nat) (Option.none : Option Jvm.ClassFile.FieldType)) ∈ lw_tbl := List.mem_of_getElem? (i := 114) rfl
theorem qw_42 : (Jvm.Cond.classLink "RegressionCourt" (7 : Nat) "java/util/ArrayList") ∈ lw_tbl := List.mem_of_getElem? (i := 115) (by decide +kernel)
theorem qw_43 : (Jvm.Cond.instantiable "java/util/ArrayList" (3 : Nat)) ∈ lw_tbl := List.mem_of_getElem? (i := 116) (by decide +kernel)
theorem qw_44 : (Jvm.Cond.methodLink "RegressionCourt" (9 : Nat) ({ cls := "java/util/ArrayList", name := "<init>", desc := "()V" } : Jvm.MethodName)) ∈ lw_tbl := List.mem_of_getElem? (i := 117) (by decide +kernel)
theorem qw_45 : (Jvm.Cond.instanceMethod ({ cls := "java/util/ArrayList", name := "<init>", desc := "()V" } : Jvm.MethodName)) ∈ lw_tbl := List.mem_of_getElem? (i := 118) (by decide +kernel)
set_option maxRecDepth 50000 in
theorem qw_46 : (Jvm.Cond.code ({ cls := "java/util/ArrayList", name := "<init>", desc := "()V" } : Jvm.MethodName) prog_36_method_2_code (1 : Nat) (Option.none : Option Jvm.ClassFile.FieldType)) ∈ lw_tbl := List.mem_of_getElem? (i := 119) rfl
theorem qw_47 : (Jvm.Cond.methodLink "java/util/ArrayList" (1 : Nat) ({ cls := "java/util/AbstractList", name := "<init>", desc := "()V" } : Jvm.MethodName)) ∈ lw_tbl := List.mem_of_getElem? (i := 120) (by decide +kernel)
theorem qw_48 : (Jvm.Cond.instanceMethod ({ cls := "java/util/AbstractList", name := "<init>", desc := "()V" } : Jvm.MethodName)) ∈ lw_tbl := List.mem_of_getElem? (i := 121) (by decide +kernel)
set_option maxRecDepth 50000 in
theorem qw_49 : (Jvm.Cond.code ({ cls := "java/util/AbstractList", name := "<init>", desc := "()V" } : Jvm.MethodName) prog_35_method_1_code (1 : Nat) (Option.none : Option Jvm.ClassFile.FieldType)) ∈ lw_tbl := List.mem_of_getElem? (i := 122) rfl
theorem qw_50 : (Jvm.Cond.methodLink "java/util/AbstractList" (1 : Nat) ({ cls := "java/util/AbstractCollection", name := "<init>", desc := "()V" } : Jvm.MethodName)) ∈ lw_tbl := List.mem_of_getElem? (i := 123) (by decide +kernel)
theorem qw_51 : (Jvm.Cond.instanceMethod ({ cls := "java/util/AbstractCollection", name := "<init>", desc := "()V" } : Jvm.MethodName)) ∈ lw_tbl := List.mem_of_getElem? (i := 124) (by decide +kernel)
set_option maxRecDepth 50000 in
theorem qw_52 : (Jvm.Cond.code ({ cls := "java/util/AbstractCollection", name := "<init>", desc := "()V" } : Jvm.MethodName) prog_34_method_1_code (1 : Nat) (Option.none : Option Jvm.ClassFile.FieldType)) ∈ lw_tbl := List.mem_of_getElem? (i := 125) rfl
theorem qw_53 : (Jvm.Cond.methodLink "java/util/AbstractCollection" (1 : Nat) ({ cls := "java/lang/Object", name := "<init>", desc := "()V" } : Jvm.MethodName)) ∈ lw_tbl := List.mem_of_getElem? (i := 126) (by decide +kernel)
theorem qw_54 : (Jvm.Cond.fieldLink "java/util/ArrayList" (39 : Nat) "java/util/ArrayList" "DEFAULTCAPACITY_EMPTY_ELEMENTDATA" "[Ljava/lang/Object;") ∈ lw_tbl := List.mem_of_getElem? (i := 127) (by decide +kernel)
theorem qw_56 : (Jvm.Cond.fieldLink "java/util/ArrayList" (9 : Nat) "java/util/ArrayList" "elementData" "[Ljava/lang/Object;") ∈ lw_tbl := List.mem_of_getElem? (i := 129) (by decide +kernel)
theorem qw_57 : (Jvm.Cond.fieldLink "java/util/ArrayList$Itr" (37 : Nat) "java/util/ArrayList" "elementData" "[Ljava/lang/Object;") ∈ lw_tbl := List.mem_of_getElem? (i := 130) (by decide +kernel)
theorem qw_58 : (Jvm.Cond.fieldLinkNest "java/util/ArrayList$Itr" (28 : Nat) "java/util/ArrayList" "size" "I" "java/util/ArrayList") ∈ lw_tbl := List.mem_of_getElem? (i := 131) (by decide +kernel)
theorem qw_59 : (Jvm.Cond.fieldLink "java/util/ArrayList" (48 : Nat) "java/util/ArrayList" "size" "I") ∈ lw_tbl := List.mem_of_getElem? (i := 132) (by decide +kernel)
theorem qw_60 : (Jvm.Cond.fieldLink "java/util/AbstractList" (7 : Nat) "java/util/AbstractList" "modCount" "I") ∈ lw_tbl := List.mem_of_getElem? (i := 133) (by decide +kernel)
theorem qw_61 : (Jvm.Cond.fieldLink "java/util/ArrayList$Itr" (17 : Nat) "java/util/ArrayList" "modCount" "I") ∈ lw_tbl := List.mem_of_getElem? (i := 134) (by decide +kernel)
theorem qw_62 : (Jvm.Cond.sameField "java/util/ArrayList" "java/util/AbstractList" "modCount" "I") ∈ lw_tbl := List.mem_of_getElem? (i := 135) (by decide +kernel)
theorem qw_63 : (Jvm.Cond.fieldLink "java/util/ArrayList" (63 : Nat) "java/util/ArrayList" "modCount" "I") ∈ lw_tbl := List.mem_of_getElem? (i := 136) (by decide +kernel)
theorem qw_71 : (Jvm.Cond.classLink "RegressionCourt" (22 : Nat) "RegressionCourt$Change") ∈ lw_tbl := List.mem_of_getElem? (i := 144) (by decide +kernel)
theorem qw_72 : (Jvm.Cond.instantiable "RegressionCourt$Change" (3 : Nat)) ∈ lw_tbl := List.mem_of_getElem? (i := 145) (by decide +kernel)
theorem qw_73 : (Jvm.Cond.methodLinkNest "RegressionCourt" (24 : Nat) ({ cls := "RegressionCourt$Change", name := "<init>", desc := "()V" } : Jvm.MethodName) "RegressionCourt") ∈ lw_tbl := List.mem_of_getElem? (i := 146) (by decide +kernel)
theorem qw_74 : (Jvm.Cond.instanceMethod ({ cls := "RegressionCourt$Change", name := "<init>", desc := "()V" } : Jvm.MethodName)) ∈ lw_tbl := List.mem_of_getElem? (i := 147) (by decide +kernel)
set_option maxRecDepth 50000 in
theorem qw_75 : (Jvm.Cond.code ({ cls := "RegressionCourt$Change", name := "<init>", desc := "()V" } : Jvm.MethodName) prog_3_method_1_code (1 : Nat) (Option.none : Option Jvm.ClassFile.FieldType)) ∈ lw_tbl := List.mem_of_getElem? (i := 148) rfl
theorem qw_76 : (Jvm.Cond.methodLink "RegressionCourt$Change" (3 : Nat) ({ cls := "java/lang/Object", name := "<init>", desc := "()V" } : Jvm.MethodName)) ∈ lw_tbl := List.mem_of_getElem? (i := 149) (by decide +kernel)
theorem qw_77 : (Jvm.Cond.classLink "RegressionCourt$Change" (9 : Nat) "java/util/ArrayList") ∈ lw_tbl := List.mem_of_getElem? (i := 150) (by decide +kernel)
theorem qw_78 : (Jvm.Cond.methodLink "RegressionCourt$Change" (11 : Nat) ({ cls := "java/util/ArrayList", name := "<init>", desc := "()V" } : Jvm.MethodName)) ∈ lw_tbl := List.mem_of_getElem? (i := 151) (by decide +kernel)
theorem qw_79 : (Jvm.Cond.fieldLink "RegressionCourt$Change" (12 : Nat) "RegressionCourt$Change" "runs" "Ljava/util/ArrayList;") ∈ lw_tbl := List.mem_of_getElem? (i := 152) (by decide +kernel)
theorem qw_80 : (Jvm.Cond.fieldLinkNest "RegressionCourt$Sample" (19 : Nat) "RegressionCourt$Change" "runs" "Ljava/util/ArrayList;" "RegressionCourt") ∈ lw_tbl := List.mem_of_getElem? (i := 153) (by decide +kernel)
theorem qw_81 : (Jvm.Cond.fieldLinkNest "RegressionCourt" (155 : Nat) "RegressionCourt$Change" "runs" "Ljava/util/ArrayList;" "RegressionCourt") ∈ lw_tbl := List.mem_of_getElem? (i := 154) (by decide +kernel)
theorem qw_82 : (Jvm.Cond.fieldLink "RegressionCourt$Change" (18 : Nat) "RegressionCourt$Change" "isNamed" "Z") ∈ lw_tbl := List.mem_of_getElem? (i := 155) (by decide +kernel)
theorem qw_83 : (Jvm.Cond.fieldLinkNest "RegressionCourt" (223 : Nat) "RegressionCourt$Change" "isNamed" "Z" "RegressionCourt") ∈ lw_tbl := List.mem_of_getElem? (i := 156) (by decide +kernel)
theorem qw_84 : (Jvm.Cond.fieldLink "RegressionCourt$Change" (22 : Nat) "RegressionCourt$Change" "isExcused" "Z") ∈ lw_tbl := List.mem_of_getElem? (i := 157) (by decide +kernel)
theorem qw_85 : (Jvm.Cond.fieldLinkNest "RegressionCourt" (226 : Nat) "RegressionCourt$Change" "isExcused" "Z" "RegressionCourt") ∈ lw_tbl := List.mem_of_getElem? (i := 158) (by decide +kernel)
theorem qw_93 : (Jvm.Cond.classLink "RegressionCourt" (29 : Nat) "RegressionCourt$Sample") ∈ lw_tbl := List.mem_of_getElem? (i := 166) (by decide +kernel)
theorem qw_94 : (Jvm.Cond.instantiable "RegressionCourt$Sample" (2 : Nat)) ∈ lw_tbl := List.mem_of_getElem? (i := 167) (by decide +kernel)
theorem qw_95 : (Jvm.Cond.methodLinkNest "RegressionCourt" (31 : Nat) ({ cls := "RegressionCourt$Sample", name := "<init>", desc := "()V" } : Jvm.MethodName) "RegressionCourt") ∈ lw_tbl := List.mem_of_getElem? (i := 168) (by decide +kernel)
theorem qw_96 : (Jvm.Cond.instanceMethod ({ cls := "RegressionCourt$Sample", name := "<init>", desc := "()V" } : Jvm.MethodName)) ∈ lw_tbl := List.mem_of_getElem? (i := 169) (by decide +kernel)
set_option maxRecDepth 50000 in
theorem qw_97 : (Jvm.Cond.code ({ cls := "RegressionCourt$Sample", name := "<init>", desc := "()V" } : Jvm.MethodName) prog_7_method_1_code (1 : Nat) (Option.none : Option Jvm.ClassFile.FieldType)) ∈ lw_tbl := List.mem_of_getElem? (i := 170) rfl
theorem qw_98 : (Jvm.Cond.methodLink "RegressionCourt$Sample" (3 : Nat) ({ cls := "java/lang/Object", name := "<init>", desc := "()V" } : Jvm.MethodName)) ∈ lw_tbl := List.mem_of_getElem? (i := 171) (by decide +kernel)
theorem qw_99 : (Jvm.Cond.fieldLink "RegressionCourt$Sample" (9 : Nat) "RegressionCourt$Sample" "worths" "[I") ∈ lw_tbl := List.mem_of_getElem? (i := 172) (by decide +kernel)
theorem qw_100 : (Jvm.Cond.fieldLink "RegressionCourt$Sample" (15 : Nat) "RegressionCourt$Sample" "size" "I") ∈ lw_tbl := List.mem_of_getElem? (i := 173) (by decide +kernel)
theorem qw_101 : (Jvm.Cond.fieldLinkNest "RegressionCourt$Duel" (59 : Nat) "RegressionCourt$Sample" "size" "I" "RegressionCourt") ∈ lw_tbl := List.mem_of_getElem? (i := 174) (by decide +kernel)
theorem qw_102 : (Jvm.Cond.fieldLinkNest "RegressionCourt" (320 : Nat) "RegressionCourt$Sample" "size" "I" "RegressionCourt") ∈ lw_tbl := List.mem_of_getElem? (i := 175) (by decide +kernel)
theorem qw_108 : (Jvm.Cond.arrayClass Jvm.ClassFile.FieldType.int) ∈ lw_tbl := List.mem_of_getElem? (i := 181) (by decide +kernel)
theorem qw_109 : (Jvm.Cond.classLink "RegressionCourt" (36 : Nat) "RegressionCourt$Duel") ∈ lw_tbl := List.mem_of_getElem? (i := 182) (by decide +kernel)
theorem qw_110 : (Jvm.Cond.instantiable "RegressionCourt$Duel" (10 : Nat)) ∈ lw_tbl := List.mem_of_getElem? (i := 183) (by decide +kernel)
theorem qw_111 : (Jvm.Cond.methodLinkNest "RegressionCourt" (38 : Nat) ({ cls := "RegressionCourt$Duel", name := "<init>", desc := "()V" } : Jvm.MethodName) "RegressionCourt") ∈ lw_tbl := List.mem_of_getElem? (i := 184) (by decide +kernel)
theorem qw_112 : (Jvm.Cond.instanceMethod ({ cls := "RegressionCourt$Duel", name := "<init>", desc := "()V" } : Jvm.MethodName)) ∈ lw_tbl := List.mem_of_getElem? (i := 185) (by decide +kernel)
set_option maxRecDepth 50000 in
theorem qw_113 : (Jvm.Cond.code ({ cls := "RegressionCourt$Duel", name := "<init>", desc := "()V" } : Jvm.MethodName) prog_4_method_1_code (1 : Nat) (Option.none : Option Jvm.ClassFile.FieldType)) ∈ lw_tbl := List.mem_of_getElem? (i := 186) rfl
theorem qw_114 : (Jvm.Cond.methodLink "RegressionCourt$Duel" (5 : Nat) ({ cls := "java/lang/Object", name := "<init>", desc := "()V" } : Jvm.MethodName)) ∈ lw_tbl := List.mem_of_getElem? (i := 187) (by decide +kernel)
theorem qw_115 : (Jvm.Cond.classLink "RegressionCourt$Duel" (11 : Nat) "RegressionCourt$Sample") ∈ lw_tbl := List.mem_of_getElem? (i := 188) (by decide +kernel)
theorem qw_116 : (Jvm.Cond.methodLinkNest "RegressionCourt$Duel" (13 : Nat) ({ cls := "RegressionCourt$Sample", name := "<init>", desc := "()V" } : Jvm.MethodName) "RegressionCourt") ∈ lw_tbl := List.mem_of_getElem? (i := 189) (by decide +kernel)
theorem qw_117 : (Jvm.Cond.classLink "RegressionCourt$Duel" (25 : Nat) "[[I") ∈ lw_tbl := List.mem_of_getElem? (i := 190) (by decide +kernel)
theorem qw_118 : (Jvm.Cond.arrayOver (Jvm.ClassFile.FieldType.array Jvm.ClassFile.FieldType.int)) ∈ lw_tbl := List.mem_of_getElem? (i := 191) (by decide +kernel)
theorem qw_119 : (Jvm.Cond.fieldLink "RegressionCourt$Duel" (14 : Nat) "RegressionCourt$Duel" "first" "LRegressionCourt$Sample;") ∈ lw_tbl := List.mem_of_getElem? (i := 192) (by decide +kernel)
theorem qw_120 : (Jvm.Cond.fieldLinkNest "RegressionCourt" (247 : Nat) "RegressionCourt$Duel" "first" "LRegressionCourt$Sample;" "RegressionCourt") ∈ lw_tbl := List.mem_of_getElem? (i := 193) (by decide +kernel)
theorem qw_121 : (Jvm.Cond.fieldLink "RegressionCourt$Duel" (18 : Nat) "RegressionCourt$Duel" "second" "LRegressionCourt$Sample;") ∈ lw_tbl := List.mem_of_getElem? (i := 194) (by decide +kernel)
theorem qw_122 : (Jvm.Cond.fieldLinkNest "RegressionCourt" (257 : Nat) "RegressionCourt$Duel" "second" "LRegressionCourt$Sample;" "RegressionCourt") ∈ lw_tbl := List.mem_of_getElem? (i := 195) (by decide +kernel)
theorem qw_123 : (Jvm.Cond.fieldLink "RegressionCourt$Duel" (21 : Nat) "RegressionCourt$Duel" "laid" "[I") ∈ lw_tbl := List.mem_of_getElem? (i := 196) (by decide +kernel)
theorem qw_124 : (Jvm.Cond.fieldLink "RegressionCourt$Duel" (27 : Nat) "RegressionCourt$Duel" "ways" "[[I") ∈ lw_tbl := List.mem_of_getElem? (i := 197) (by decide +kernel)
theorem qw_125 : (Jvm.Cond.fieldLink "RegressionCourt$Duel" (30 : Nat) "RegressionCourt$Duel" "laidMany" "I") ∈ lw_tbl := List.mem_of_getElem? (i := 198) (by decide +kernel)
theorem qw_126 : (Jvm.Cond.fieldLink "RegressionCourt$Duel" (34 : Nat) "RegressionCourt$Duel" "leadsUpTo" "I") ∈ lw_tbl := List.mem_of_getElem? (i := 199) (by decide +kernel)
theorem qw_127 : (Jvm.Cond.fieldLink "RegressionCourt$Duel" (37 : Nat) "RegressionCourt$Duel" "score" "I") ∈ lw_tbl := List.mem_of_getElem? (i := 200) (by decide +kernel)
theorem qw_128 : (Jvm.Cond.fieldLinkNest "RegressionCourt" (325 : Nat) "RegressionCourt$Duel" "score" "I" "RegressionCourt") ∈ lw_tbl := List.mem_of_getElem? (i := 201) (by decide +kernel)
theorem qw_129 : (Jvm.Cond.fieldLink "RegressionCourt$Duel" (40 : Nat) "RegressionCourt$Duel" "high" "I") ∈ lw_tbl := List.mem_of_getElem? (i := 202) (by decide +kernel)
theorem qw_130 : (Jvm.Cond.fieldLinkNest "RegressionCourt" (328 : Nat) "RegressionCourt$Duel" "high" "I" "RegressionCourt") ∈ lw_tbl := List.mem_of_getElem? (i := 203) (by decide +kernel)
theorem qw_131 : (Jvm.Cond.fieldLink "RegressionCourt$Duel" (43 : Nat) "RegressionCourt$Duel" "low" "I") ∈ lw_tbl := List.mem_of_getElem? (i := 204) (by decide +kernel)
theorem qw_132 : (Jvm.Cond.fieldLinkNest "RegressionCourt" (331 : Nat) "RegressionCourt$Duel" "low" "I" "RegressionCourt") ∈ lw_tbl := List.mem_of_getElem? (i := 205) (by decide +kernel)
theorem qw_133 : (Jvm.Cond.fieldLink "RegressionCourt$Duel" (46 : Nat) "RegressionCourt$Duel" "all" "I") ∈ lw_tbl := List.mem_of_getElem? (i := 206) (by decide +kernel)
theorem qw_134 : (Jvm.Cond.fieldLinkNest "RegressionCourt" (334 : Nat) "RegressionCourt$Duel" "all" "I" "RegressionCourt") ∈ lw_tbl := List.mem_of_getElem? (i := 207) (by decide +kernel)
theorem qw_156 : (Jvm.Cond.classLink "RegressionCourt" (43 : Nat) "RegressionCourt$Bisection") ∈ lw_tbl := List.mem_of_getElem? (i := 229) (by decide +kernel)
theorem qw_157 : (Jvm.Cond.instantiable "RegressionCourt$Bisection" (4 : Nat)) ∈ lw_tbl := List.mem_of_getElem? (i := 230) (by decide +kernel)
theorem qw_158 : (Jvm.Cond.methodLinkNest "RegressionCourt" (45 : Nat) ({ cls := "RegressionCourt$Bisection", name := "<init>", desc := "()V" } : Jvm.MethodName) "RegressionCourt") ∈ lw_tbl := List.mem_of_getElem? (i := 231) (by decide +kernel)
theorem qw_159 : (Jvm.Cond.instanceMethod ({ cls := "RegressionCourt$Bisection", name := "<init>", desc := "()V" } : Jvm.MethodName)) ∈ lw_tbl := List.mem_of_getElem? (i := 232) (by decide +kernel)
set_option maxRecDepth 50000 in
theorem qw_160 : (Jvm.Cond.code ({ cls := "RegressionCourt$Bisection", name := "<init>", desc := "()V" } : Jvm.MethodName) prog_2_method_1_code (1 : Nat) (Option.none : Option Jvm.ClassFile.FieldType)) ∈ lw_tbl := List.mem_of_getElem? (i := 233) rfl
theorem qw_161 : (Jvm.Cond.methodLink "RegressionCourt$Bisection" (3 : Nat) ({ cls := "java/lang/Object", name := "<init>", desc := "()V" } : Jvm.MethodName)) ∈ lw_tbl := List.mem_of_getElem? (i := 234) (by decide +kernel)
theorem qw_162 : (Jvm.Cond.fieldLink "RegressionCourt$Bisection" (9 : Nat) "RegressionCourt$Bisection" "isOn" "Z") ∈ lw_tbl := List.mem_of_getElem? (i := 235) (by decide +kernel)
theorem qw_163 : (Jvm.Cond.fieldLinkNest "RegressionCourt" (194 : Nat) "RegressionCourt$Bisection" "isOn" "Z" "RegressionCourt") ∈ lw_tbl := List.mem_of_getElem? (i := 236) (by decide +kernel)
theorem qw_164 : (Jvm.Cond.fieldLink "RegressionCourt$Bisection" (15 : Nat) "RegressionCourt$Bisection" "good" "I") ∈ lw_tbl := List.mem_of_getElem? (i := 237) (by decide +kernel)
theorem qw_165 : (Jvm.Cond.fieldLinkNest "RegressionCourt" (210 : Nat) "RegressionCourt$Bisection" "good" "I" "RegressionCourt") ∈ lw_tbl := List.mem_of_getElem? (i := 238) (by decide +kernel)
theorem qw_166 : (Jvm.Cond.fieldLink "RegressionCourt$Bisection" (19 : Nat) "RegressionCourt$Bisection" "bad" "I") ∈ lw_tbl := List.mem_of_getElem? (i := 239) (by decide +kernel)
theorem qw_167 : (Jvm.Cond.fieldLinkNest "RegressionCourt" (207 : Nat) "RegressionCourt$Bisection" "bad" "I" "RegressionCourt") ∈ lw_tbl := List.mem_of_getElem? (i := 240) (by decide +kernel)
theorem qw_168 : (Jvm.Cond.fieldLink "RegressionCourt$Bisection" (22 : Nat) "RegressionCourt$Bisection" "waitsFor" "I") ∈ lw_tbl := List.mem_of_getElem? (i := 241) (by decide +kernel)
theorem qw_169 : (Jvm.Cond.fieldLinkNest "RegressionCourt" (202 : Nat) "RegressionCourt$Bisection" "waitsFor" "I" "RegressionCourt") ∈ lw_tbl := List.mem_of_getElem? (i := 242) (by decide +kernel)
theorem qw_179 : (Jvm.Cond.methodLink "RegressionCourt" (69 : Nat) ({ cls := "java/util/ArrayList", name := "add", desc := "(Ljava/lang/Object;)Z" } : Jvm.MethodName)) ∈ lw_tbl := List.mem_of_getElem? (i := 252) (by decide +kernel)
theorem qw_180 : (Jvm.Cond.instanceMethod ({ cls := "java/util/ArrayList", name := "add", desc := "(Ljava/lang/Object;)Z" } : Jvm.MethodName)) ∈ lw_tbl := List.mem_of_getElem? (i := 253) (by decide +kernel)
theorem qw_181 : (Jvm.Cond.selects "java/util/ArrayList" ({ cls := "java/util/ArrayList", name := "add", desc := "(Ljava/lang/Object;)Z" } : Jvm.MethodName) ({ cls := "java/util/ArrayList", name := "add", desc := "(Ljava/lang/Object;)Z" } : Jvm.MethodName)) ∈ lw_tbl := List.mem_of_getElem? (i := 254) (by decide +kernel)
set_option maxRecDepth 50000 in
theorem qw_182 : (Jvm.Cond.code ({ cls := "java/util/ArrayList", name := "add", desc := "(Ljava/lang/Object;)Z" } : Jvm.MethodName) prog_36_method_25_code (2 : Nat) (Option.some Jvm.ClassFile.FieldType.boolean)) ∈ lw_tbl := List.mem_of_getElem? (i := 255) rfl
theorem qw_183 : (Jvm.Cond.methodLink "java/util/ArrayList" (131 : Nat) ({ cls := "java/util/ArrayList", name := "add", desc := "(Ljava/lang/Object;[Ljava/lang/Object;I)V" } : Jvm.MethodName)) ∈ lw_tbl := List.mem_of_getElem? (i := 256) (by decide +kernel)
theorem qw_185 : (Jvm.Cond.instanceMethod ({ cls := "java/util/ArrayList", name := "add", desc := "(Ljava/lang/Object;[Ljava/lang/Object;I)V" } : Jvm.MethodName)) ∈ lw_tbl := List.mem_of_getElem? (i := 258) (by decide +kernel)
set_option maxRecDepth 50000 in
theorem qw_186 : (Jvm.Cond.code ({ cls := "java/util/ArrayList", name := "add", desc := "(Ljava/lang/Object;[Ljava/lang/Object;I)V" } : Jvm.MethodName) prog_36_method_24_code (4 : Nat) (Option.none : Option Jvm.ClassFile.FieldType)) ∈ lw_tbl := List.mem_of_getElem? (i := 259) rfl
theorem qw_187 : (Jvm.Cond.methodLink "java/util/ArrayList" (129 : Nat) ({ cls := "java/util/ArrayList", name := "grow", desc := "()[Ljava/lang/Object;" } : Jvm.MethodName)) ∈ lw_tbl := List.mem_of_getElem? (i := 260) (by decide +kernel)
theorem qw_189 : (Jvm.Cond.instanceMethod ({ cls := "java/util/ArrayList", name := "grow", desc := "()[Ljava/lang/Object;" } : Jvm.MethodName)) ∈ lw_tbl := List.mem_of_getElem? (i := 262) (by decide +kernel)
set_option maxRecDepth 50000 in
theorem qw_190 : (Jvm.Cond.code ({ cls := "java/util/ArrayList", name := "grow", desc := "()[Ljava/lang/Object;" } : Jvm.MethodName) prog_36_method_7_code (1 : Nat) (Option.some (Jvm.ClassFile.FieldType.array (Jvm.ClassFile.FieldType.object "java/lang/Object")))) ∈ lw_tbl := List.mem_of_getElem? (i := 263) rfl
theorem qw_191 : (Jvm.Cond.methodLink "java/util/ArrayList" (69 : Nat) ({ cls := "java/util/ArrayList", name := "grow", desc := "(I)[Ljava/lang/Object;" } : Jvm.MethodName)) ∈ lw_tbl := List.mem_of_getElem? (i := 264) (by decide +kernel)
theorem qw_193 : (Jvm.Cond.instanceMethod ({ cls := "java/util/ArrayList", name := "grow", desc := "(I)[Ljava/lang/Object;" } : Jvm.MethodName)) ∈ lw_tbl := List.mem_of_getElem? (i := 266) (by decide +kernel)
set_option maxRecDepth 50000 in
theorem qw_194 : (Jvm.Cond.code ({ cls := "java/util/ArrayList", name := "grow", desc := "(I)[Ljava/lang/Object;" } : Jvm.MethodName) prog_36_method_6_code (4 : Nat) (Option.some (Jvm.ClassFile.FieldType.array (Jvm.ClassFile.FieldType.object "java/lang/Object")))) ∈ lw_tbl := List.mem_of_getElem? (i := 267) rfl
theorem qw_195 : (Jvm.Cond.methodLink "java/util/ArrayList" (73 : Nat) ({ cls := "jdk/internal/util/ArraysSupport", name := "newLength", desc := "(III)I" } : Jvm.MethodName)) ∈ lw_tbl := List.mem_of_getElem? (i := 268) (by decide +kernel)
theorem qw_196 : (Jvm.Cond.static ({ cls := "jdk/internal/util/ArraysSupport", name := "newLength", desc := "(III)I" } : Jvm.MethodName)) ∈ lw_tbl := List.mem_of_getElem? (i := 269) (by decide +kernel)
set_option maxRecDepth 50000 in
theorem qw_197 : (Jvm.Cond.code ({ cls := "jdk/internal/util/ArraysSupport", name := "newLength", desc := "(III)I" } : Jvm.MethodName) prog_46_method_27_code (4 : Nat) (Option.some Jvm.ClassFile.FieldType.int)) ∈ lw_tbl := List.mem_of_getElem? (i := 270) rfl
theorem qw_198 : (Jvm.Cond.methodLink "jdk/internal/util/ArraysSupport" (194 : Nat) ({ cls := "java/lang/Math", name := "max", desc := "(II)I" } : Jvm.MethodName)) ∈ lw_tbl := List.mem_of_getElem? (i := 271) (by decide +kernel)
theorem qw_199 : (Jvm.Cond.static ({ cls := "java/lang/Math", name := "max", desc := "(II)I" } : Jvm.MethodName)) ∈ lw_tbl := List.mem_of_getElem? (i := 272) (by decide +kernel)
set_option maxRecDepth 50000 in
theorem qw_200 : (Jvm.Cond.code ({ cls := "java/lang/Math", name := "max", desc := "(II)I" } : Jvm.MethodName) prog_23_method_65_code (2 : Nat) (Option.some Jvm.ClassFile.FieldType.int)) ∈ lw_tbl := List.mem_of_getElem? (i := 273) rfl
theorem qw_201 : (Jvm.Cond.constant "jdk/internal/util/ArraysSupport" (200 : Nat) (2147483639 : Int32)) ∈ lw_tbl := List.mem_of_getElem? (i := 274) (by decide +kernel)
theorem qw_202 : (Jvm.Cond.methodLink "jdk/internal/util/ArraysSupport" (201 : Nat) ({ cls := "jdk/internal/util/ArraysSupport", name := "hugeLength", desc := "(II)I" } : Jvm.MethodName)) ∈ lw_tbl := List.mem_of_getElem? (i := 275) (by decide +kernel)
theorem qw_203 : (Jvm.Cond.static ({ cls := "jdk/internal/util/ArraysSupport", name := "hugeLength", desc := "(II)I" } : Jvm.MethodName)) ∈ lw_tbl := List.mem_of_getElem? (i := 276) (by decide +kernel)
set_option maxRecDepth 50000 in
theorem qw_204 : (Jvm.Cond.code ({ cls := "jdk/internal/util/ArraysSupport", name := "hugeLength", desc := "(II)I" } : Jvm.MethodName) prog_46_method_28_code (3 : Nat) (Option.some Jvm.ClassFile.FieldType.int)) ∈ lw_tbl := List.mem_of_getElem? (i := 277) rfl
theorem qw_205 : (Jvm.Cond.methodLink "java/util/ArrayList" (66 : Nat) ({ cls := "java/util/Arrays", name := "copyOf", desc := "([Ljava/lang/Object;I)[Ljava/lang/Object;" } : Jvm.MethodName)) ∈ lw_tbl := List.mem_of_getElem? (i := 278) (by decide +kernel)
theorem qw_206 : (Jvm.Cond.static ({ cls := "java/util/Arrays", name := "copyOf", desc := "([Ljava/lang/Object;I)[Ljava/lang/Object;" } : Jvm.MethodName)) ∈ lw_tbl := List.mem_of_getElem? (i := 279) (by decide +kernel)
set_option maxRecDepth 50000 in
theorem qw_207 : (Jvm.Cond.code ({ cls := "java/util/Arrays", name := "copyOf", desc := "([Ljava/lang/Object;I)[Ljava/lang/Object;" } : Jvm.MethodName) prog_38_method_119_code (2 : Nat) (Option.some (Jvm.ClassFile.FieldType.array (Jvm.ClassFile.FieldType.object "java/lang/Object")))) ∈ lw_tbl := List.mem_of_getElem? (i := 280) rfl
theorem qw_208 : (Jvm.Cond.methodLink "java/util/Arrays" (86 : Nat) ({ cls := "java/lang/Object", name := "getClass", desc := "()Ljava/lang/Class;" } : Jvm.MethodName)) ∈ lw_tbl := List.mem_of_getElem? (i := 281) (by decide +kernel)
theorem qw_209 : (Jvm.Cond.instanceMethod ({ cls := "java/lang/Object", name := "getClass", desc := "()Ljava/lang/Class;" } : Jvm.MethodName)) ∈ lw_tbl := List.mem_of_getElem? (i := 282) (by decide +kernel)
theorem qw_210 : (Jvm.Cond.sameMethod "java/lang/Object" "java/lang/Object" "getClass" "()Ljava/lang/Class;") ∈ lw_tbl := List.mem_of_getElem? (i := 283) (by decide +kernel)
theorem qw_211 : (Jvm.Cond.selects "RegressionCourt" ({ cls := "java/lang/Object", name := "getClass", desc := "()Ljava/lang/Class;" } : Jvm.MethodName) ({ cls := "java/lang/Object", name := "getClass", desc := "()Ljava/lang/Class;" } : Jvm.MethodName)) ∈ lw_tbl := List.mem_of_getElem? (i := 284) (by decide +kernel)
theorem qw_212 : (Jvm.Cond.selects "RegressionCourt$Bisection" ({ cls := "java/lang/Object", name := "getClass", desc := "()Ljava/lang/Class;" } : Jvm.MethodName) ({ cls := "java/lang/Object", name := "getClass", desc := "()Ljava/lang/Class;" } : Jvm.MethodName)) ∈ lw_tbl := List.mem_of_getElem? (i := 285) (by decide +kernel)
theorem qw_213 : (Jvm.Cond.selects "RegressionCourt$Change" ({ cls := "java/lang/Object", name := "getClass", desc := "()Ljava/lang/Class;" } : Jvm.MethodName) ({ cls := "java/lang/Object", name := "getClass", desc := "()Ljava/lang/Class;" } : Jvm.MethodName)) ∈ lw_tbl := List.mem_of_getElem? (i := 286) (by decide +kernel)
theorem qw_214 : (Jvm.Cond.selects "RegressionCourt$Duel" ({ cls := "java/lang/Object", name := "getClass", desc := "()Ljava/lang/Class;" } : Jvm.MethodName) ({ cls := "java/lang/Object", name := "getClass", desc := "()Ljava/lang/Class;" } : Jvm.MethodName)) ∈ lw_tbl := List.mem_of_getElem? (i := 287) (by decide +kernel)
theorem qw_215 : (Jvm.Cond.selects "RegressionCourt$Machine" ({ cls := "java/lang/Object", name := "getClass", desc := "()Ljava/lang/Class;" } : Jvm.MethodName) ({ cls := "java/lang/Object", name := "getClass", desc := "()Ljava/lang/Class;" } : Jvm.MethodName)) ∈ lw_tbl := List.mem_of_getElem? (i := 288) (by decide +kernel)
theorem qw_216 : (Jvm.Cond.selects "RegressionCourt$Run" ({ cls := "java/lang/Object", name := "getClass", desc := "()Ljava/lang/Class;" } : Jvm.MethodName) ({ cls := "java/lang/Object", name := "getClass", desc := "()Ljava/lang/Class;" } : Jvm.MethodName)) ∈ lw_tbl := List.mem_of_getElem? (i := 289) (by decide +kernel)
theorem qw_217 : (Jvm.Cond.selects "RegressionCourt$Sample" ({ cls := "java/lang/Object", name := "getClass", desc := "()Ljava/lang/Class;" } : Jvm.MethodName) ({ cls := "java/lang/Object", name := "getClass", desc := "()Ljava/lang/Class;" } : Jvm.MethodName)) ∈ lw_tbl := List.mem_of_getElem? (i := 290) (by decide +kernel)
theorem qw_218 : (Jvm.Cond.selects "RegressionCourtModel" ({ cls := "java/lang/Object", name := "getClass", desc := "()Ljava/lang/Class;" } : Jvm.MethodName) ({ cls := "java/lang/Object", name := "getClass", desc := "()Ljava/lang/Class;" } : Jvm.MethodName)) ∈ lw_tbl := List.mem_of_getElem? (i := 291) (by decide +kernel)
theorem qw_219 : (Jvm.Cond.selects "java/lang/IllegalArgumentException" ({ cls := "java/lang/Object", name := "getClass", desc := "()Ljava/lang/Class;" } : Jvm.MethodName) ({ cls := "java/lang/Object", name := "getClass", desc := "()Ljava/lang/Class;" } : Jvm.MethodName)) ∈ lw_tbl := List.mem_of_getElem? (i := 292) (by decide +kernel)
theorem qw_220 : (Jvm.Cond.selects "java/lang/IllegalStateException" ({ cls := "java/lang/Object", name := "getClass", desc := "()Ljava/lang/Class;" } : Jvm.MethodName) ({ cls := "java/lang/Object", name := "getClass", desc := "()Ljava/lang/Class;" } : Jvm.MethodName)) ∈ lw_tbl := List.mem_of_getElem? (i := 293) (by decide +kernel)
theorem qw_221 : (Jvm.Cond.selects "java/lang/IndexOutOfBoundsException" ({ cls := "java/lang/Object", name := "getClass", desc := "()Ljava/lang/Class;" } : Jvm.MethodName) ({ cls := "java/lang/Object", name := "getClass", desc := "()Ljava/lang/Class;" } : Jvm.MethodName)) ∈ lw_tbl := List.mem_of_getElem? (i := 294) (by decide +kernel)
theorem qw_222 : (Jvm.Cond.selects "java/lang/Integer" ({ cls := "java/lang/Object", name := "getClass", desc := "()Ljava/lang/Class;" } : Jvm.MethodName) ({ cls := "java/lang/Object", name := "getClass", desc := "()Ljava/lang/Class;" } : Jvm.MethodName)) ∈ lw_tbl := List.mem_of_getElem? (i := 295) (by decide +kernel)
theorem qw_223 : (Jvm.Cond.selects "java/lang/String" ({ cls := "java/lang/Object", name := "getClass", desc := "()Ljava/lang/Class;" } : Jvm.MethodName) ({ cls := "java/lang/Object", name := "getClass", desc := "()Ljava/lang/Class;" } : Jvm.MethodName)) ∈ lw_tbl := List.mem_of_getElem? (i := 296) (by decide +kernel)
theorem qw_224 : (Jvm.Cond.selects "java/lang/StringBuilder" ({ cls := "java/lang/Object", name := "getClass", desc := "()Ljava/lang/Class;" } : Jvm.MethodName) ({ cls := "java/lang/Object", name := "getClass", desc := "()Ljava/lang/Class;" } : Jvm.MethodName)) ∈ lw_tbl := List.mem_of_getElem? (i := 297) (by decide +kernel)
theorem qw_225 : (Jvm.Cond.selects "java/util/ArrayList" ({ cls := "java/lang/Object", name := "getClass", desc := "()Ljava/lang/Class;" } : Jvm.MethodName) ({ cls := "java/lang/Object", name := "getClass", desc := "()Ljava/lang/Class;" } : Jvm.MethodName)) ∈ lw_tbl := List.mem_of_getElem? (i := 298) (by decide +kernel)
theorem qw_226 : (Jvm.Cond.selects "java/util/ArrayList$Itr" ({ cls := "java/lang/Object", name := "getClass", desc := "()Ljava/lang/Class;" } : Jvm.MethodName) ({ cls := "java/lang/Object", name := "getClass", desc := "()Ljava/lang/Class;" } : Jvm.MethodName)) ∈ lw_tbl := List.mem_of_getElem? (i := 299) (by decide +kernel)
theorem qw_227 : (Jvm.Cond.native ({ cls := "java/lang/Object", name := "getClass", desc := "()Ljava/lang/Class;" } : Jvm.MethodName)) ∈ lw_tbl := List.mem_of_getElem? (i := 300) (by decide +kernel)
theorem qw_228 : (Jvm.Cond.methodLink "java/util/Arrays" (300 : Nat) ({ cls := "java/util/Arrays", name := "copyOf", desc := "([Ljava/lang/Object;ILjava/lang/Class;)[Ljava/lang/Object;" } : Jvm.MethodName)) ∈ lw_tbl := List.mem_of_getElem? (i := 301) (by decide +kernel)
theorem qw_229 : (Jvm.Cond.static ({ cls := "java/util/Arrays", name := "copyOf", desc := "([Ljava/lang/Object;ILjava/lang/Class;)[Ljava/lang/Object;" } : Jvm.MethodName)) ∈ lw_tbl := List.mem_of_getElem? (i := 302) (by decide +kernel)
set_option maxRecDepth 50000 in
theorem qw_230 : (Jvm.Cond.code ({ cls := "java/util/Arrays", name := "copyOf", desc := "([Ljava/lang/Object;ILjava/lang/Class;)[Ljava/lang/Object;" } : Jvm.MethodName) prog_38_method_120_code (4 : Nat) (Option.some (Jvm.ClassFile.FieldType.array (Jvm.ClassFile.FieldType.object "java/lang/Object")))) ∈ lw_tbl := List.mem_of_getElem? (i := 303) rfl
theorem qw_231 : (Jvm.Cond.classLink "java/util/Arrays" (110 : Nat) "[Ljava/lang/Object;") ∈ lw_tbl := List.mem_of_getElem? (i := 304) (by decide +kernel)
theorem qw_232 : (Jvm.Cond.arrayOver (Jvm.ClassFile.FieldType.object "java/lang/Object")) ∈ lw_tbl := List.mem_of_getElem? (i := 305) (by decide +kernel)
theorem qw_233 : (Jvm.Cond.classLink "java/util/Arrays" (2 : Nat) "java/lang/Object") ∈ lw_tbl := List.mem_of_getElem? (i := 306) (by decide +kernel)
theorem qw_234 : (Jvm.Cond.methodLink "java/util/Arrays" (304 : Nat) ({ cls := "java/lang/Math", name := "min", desc := "(II)I" } : Jvm.MethodName)) ∈ lw_tbl := List.mem_of_getElem? (i := 307) (by decide +kernel)
theorem qw_235 : (Jvm.Cond.static ({ cls := "java/lang/Math", name := "min", desc := "(II)I" } : Jvm.MethodName)) ∈ lw_tbl := List.mem_of_getElem? (i := 308) (by decide +kernel)
set_option maxRecDepth 50000 in
theorem qw_236 : (Jvm.Cond.code ({ cls := "java/lang/Math", name := "min", desc := "(II)I" } : Jvm.MethodName) prog_23_method_69_code (2 : Nat) (Option.some Jvm.ClassFile.FieldType.int)) ∈ lw_tbl := List.mem_of_getElem? (i := 309) rfl
theorem qw_237 : (Jvm.Cond.methodLink "java/util/Arrays" (150 : Nat) ({ cls := "java/lang/System", name := "arraycopy", desc := "(Ljava/lang/Object;ILjava/lang/Object;II)V" } : Jvm.MethodName)) ∈ lw_tbl := List.mem_of_getElem? (i := 310) (by decide +kernel)
theorem qw_238 : (Jvm.Cond.static ({ cls := "java/lang/System", name := "arraycopy", desc := "(Ljava/lang/Object;ILjava/lang/Object;II)V" } : Jvm.MethodName)) ∈ lw_tbl := List.mem_of_getElem? (i := 311) (by decide +kernel)
theorem qw_239 : (Jvm.Cond.native ({ cls := "java/lang/System", name := "arraycopy", desc := "(Ljava/lang/Object;ILjava/lang/Object;II)V" } : Jvm.MethodName)) ∈ lw_tbl := List.mem_of_getElem? (i := 312) (by decide +kernel)
theorem qw_240 : (Jvm.Cond.methodLink "java/util/ArrayList" (79 : Nat) ({ cls := "java/lang/Math", name := "max", desc := "(II)I" } : Jvm.MethodName)) ∈ lw_tbl := List.mem_of_getElem? (i := 313) (by decide +kernel)
theorem qw_241 : (Jvm.Cond.classLink "java/util/ArrayList" (7 : Nat) "java/lang/Object") ∈ lw_tbl := List.mem_of_getElem? (i := 314) (by decide +kernel)
theorem qw_242 : (Jvm.Cond.fieldLink "RegressionCourt" (10 : Nat) "RegressionCourt" "machines" "Ljava/util/ArrayList;") ∈ lw_tbl := List.mem_of_getElem? (i := 315) (by decide +kernel)
theorem qw_243 : (Jvm.Cond.fieldLink "RegressionCourt" (16 : Nat) "RegressionCourt" "changes" "Ljava/util/ArrayList;") ∈ lw_tbl := List.mem_of_getElem? (i := 316) (by decide +kernel)
theorem qw_244 : (Jvm.Cond.fieldLink "RegressionCourt" (19 : Nat) "RegressionCourt" "runs" "Ljava/util/ArrayList;") ∈ lw_tbl := List.mem_of_getElem? (i := 317) (by decide +kernel)
theorem qw_245 : (Jvm.Cond.fieldLink "RegressionCourt" (25 : Nat) "RegressionCourt" "origin" "LRegressionCourt$Change;") ∈ lw_tbl := List.mem_of_getElem? (i := 318) (by decide +kernel)
theorem qw_246 : (Jvm.Cond.fieldLink "RegressionCourt" (32 : Nat) "RegressionCourt" "sample" "LRegressionCourt$Sample;") ∈ lw_tbl := List.mem_of_getElem? (i := 319) (by decide +kernel)
theorem qw_247 : (Jvm.Cond.fieldLink "RegressionCourt" (39 : Nat) "RegressionCourt" "duel" "LRegressionCourt$Duel;") ∈ lw_tbl := List.mem_of_getElem? (i := 320) (by decide +kernel)
theorem qw_248 : (Jvm.Cond.fieldLink "RegressionCourt" (46 : Nat) "RegressionCourt" "bisection" "LRegressionCourt$Bisection;") ∈ lw_tbl := List.mem_of_getElem? (i := 321) (by decide +kernel)
theorem qw_249 : (Jvm.Cond.fieldLink "RegressionCourt" (50 : Nat) "RegressionCourt" "enough" "I") ∈ lw_tbl := List.mem_of_getElem? (i := 322) (by decide +kernel)
theorem qw_250 : (Jvm.Cond.fieldLink "RegressionCourt" (54 : Nat) "RegressionCourt" "level" "I") ∈ lw_tbl := List.mem_of_getElem? (i := 323) (by decide +kernel)
theorem qw_251 : (Jvm.Cond.fieldLink "RegressionCourt" (57 : Nat) "RegressionCourt" "minutesLeft" "I") ∈ lw_tbl := List.mem_of_getElem? (i := 324) (by decide +kernel)
theorem qw_252 : (Jvm.Cond.fieldLink "RegressionCourt" (60 : Nat) "RegressionCourt" "credit" "I") ∈ lw_tbl := List.mem_of_getElem? (i := 325) (by decide +kernel)
theorem qw_253 : (Jvm.Cond.fieldLink "RegressionCourt" (63 : Nat) "RegressionCourt" "baseline" "I") ∈ lw_tbl := List.mem_of_getElem? (i := 326) (by decide +kernel)
theorem qw_254 : (Jvm.Cond.fieldLink "RegressionCourt" (66 : Nat) "RegressionCourt" "lastNamed" "I") ∈ lw_tbl := List.mem_of_getElem? (i := 327) (by decide +kernel)
theorem qw_282 : (Jvm.Cond.methodLink "RegressionCourtLaw" (137 : Nat) ({ cls := "RegressionCourt", name := "move", desc := "()I" } : Jvm.MethodName)) ∈ lw_tbl := List.mem_of_getElem? (i := 355) (by decide +kernel)
theorem qw_283 : (Jvm.Cond.instanceMethod ({ cls := "RegressionCourt", name := "move", desc := "()I" } : Jvm.MethodName)) ∈ lw_tbl := List.mem_of_getElem? (i := 356) (by decide +kernel)
theorem qw_284 : (Jvm.Cond.selects "RegressionCourt" ({ cls := "RegressionCourt", name := "move", desc := "()I" } : Jvm.MethodName) ({ cls := "RegressionCourt", name := "move", desc := "()I" } : Jvm.MethodName)) ∈ lw_tbl := List.mem_of_getElem? (i := 357) (by decide +kernel)
set_option maxRecDepth 50000 in
theorem qw_285 : (Jvm.Cond.code ({ cls := "RegressionCourt", name := "move", desc := "()I" } : Jvm.MethodName) prog_1_method_16_code (3 : Nat) (Option.some Jvm.ClassFile.FieldType.int)) ∈ lw_tbl := List.mem_of_getElem? (i := 358) rfl
theorem qw_286 : (Jvm.Cond.methodLink "RegressionCourt" (88 : Nat) ({ cls := "java/util/ArrayList", name := "size", desc := "()I" } : Jvm.MethodName)) ∈ lw_tbl := List.mem_of_getElem? (i := 359) (by decide +kernel)
theorem qw_287 : (Jvm.Cond.instanceMethod ({ cls := "java/util/ArrayList", name := "size", desc := "()I" } : Jvm.MethodName)) ∈ lw_tbl := List.mem_of_getElem? (i := 360) (by decide +kernel)
theorem qw_288 : (Jvm.Cond.selects "java/util/ArrayList" ({ cls := "java/util/ArrayList", name := "size", desc := "()I" } : Jvm.MethodName) ({ cls := "java/util/ArrayList", name := "size", desc := "()I" } : Jvm.MethodName)) ∈ lw_tbl := List.mem_of_getElem? (i := 361) (by decide +kernel)
set_option maxRecDepth 50000 in
theorem qw_289 : (Jvm.Cond.code ({ cls := "java/util/ArrayList", name := "size", desc := "()I" } : Jvm.MethodName) prog_36_method_8_code (1 : Nat) (Option.some Jvm.ClassFile.FieldType.int)) ∈ lw_tbl := List.mem_of_getElem? (i := 362) rfl
theorem qw_290 : (Jvm.Cond.methodLink "RegressionCourt" (219 : Nat) ({ cls := "RegressionCourt", name := "creditOfStepTo", desc := "(I)I" } : Jvm.MethodName)) ∈ lw_tbl := List.mem_of_getElem? (i := 363) (by decide +kernel)
theorem qw_292 : (Jvm.Cond.instanceMethod ({ cls := "RegressionCourt", name := "creditOfStepTo", desc := "(I)I" } : Jvm.MethodName)) ∈ lw_tbl := List.mem_of_getElem? (i := 365) (by decide +kernel)
set_option maxRecDepth 50000 in
theorem qw_293 : (Jvm.Cond.code ({ cls := "RegressionCourt", name := "creditOfStepTo", desc := "(I)I" } : Jvm.MethodName) prog_1_method_42_code (2 : Nat) (Option.some Jvm.ClassFile.FieldType.int)) ∈ lw_tbl := List.mem_of_getElem? (i := 366) rfl
theorem qw_294 : (Jvm.Cond.methodLink "RegressionCourt" (151 : Nat) ({ cls := "RegressionCourt", name := "changeAt", desc := "(I)LRegressionCourt$Change;" } : Jvm.MethodName)) ∈ lw_tbl := List.mem_of_getElem? (i := 367) (by decide +kernel)
theorem qw_296 : (Jvm.Cond.instanceMethod ({ cls := "RegressionCourt", name := "changeAt", desc := "(I)LRegressionCourt$Change;" } : Jvm.MethodName)) ∈ lw_tbl := List.mem_of_getElem? (i := 369) (by decide +kernel)
set_option maxRecDepth 50000 in
theorem qw_297 : (Jvm.Cond.code ({ cls := "RegressionCourt", name := "changeAt", desc := "(I)LRegressionCourt$Change;" } : Jvm.MethodName) prog_1_method_28_code (2 : Nat) (Option.some (Jvm.ClassFile.FieldType.object "RegressionCourt$Change"))) ∈ lw_tbl := List.mem_of_getElem? (i := 370) rfl
theorem qw_298 : (Jvm.Cond.methodLink "RegressionCourt" (109 : Nat) ({ cls := "java/util/ArrayList", name := "get", desc := "(I)Ljava/lang/Object;" } : Jvm.MethodName)) ∈ lw_tbl := List.mem_of_getElem? (i := 371) (by decide +kernel)
theorem qw_299 : (Jvm.Cond.instanceMethod ({ cls := "java/util/ArrayList", name := "get", desc := "(I)Ljava/lang/Object;" } : Jvm.MethodName)) ∈ lw_tbl := List.mem_of_getElem? (i := 372) (by decide +kernel)
theorem qw_300 : (Jvm.Cond.selects "java/util/ArrayList" ({ cls := "java/util/ArrayList", name := "get", desc := "(I)Ljava/lang/Object;" } : Jvm.MethodName) ({ cls := "java/util/ArrayList", name := "get", desc := "(I)Ljava/lang/Object;" } : Jvm.MethodName)) ∈ lw_tbl := List.mem_of_getElem? (i := 373) (by decide +kernel)
set_option maxRecDepth 50000 in
theorem qw_301 : (Jvm.Cond.code ({ cls := "java/util/ArrayList", name := "get", desc := "(I)Ljava/lang/Object;" } : Jvm.MethodName) prog_36_method_20_code (2 : Nat) (Option.some (Jvm.ClassFile.FieldType.object "java/lang/Object"))) ∈ lw_tbl := List.mem_of_getElem? (i := 374) rfl
theorem qw_302 : (Jvm.Cond.methodLink "java/util/ArrayList" (118 : Nat) ({ cls := "java/util/Objects", name := "checkIndex", desc := "(II)I" } : Jvm.MethodName)) ∈ lw_tbl := List.mem_of_getElem? (i := 375) (by decide +kernel)
theorem qw_303 : (Jvm.Cond.static ({ cls := "java/util/Objects", name := "checkIndex", desc := "(II)I" } : Jvm.MethodName)) ∈ lw_tbl := List.mem_of_getElem? (i := 376) (by decide +kernel)
set_option maxRecDepth 50000 in
theorem qw_304 : (Jvm.Cond.code ({ cls := "java/util/Objects", name := "checkIndex", desc := "(II)I" } : Jvm.MethodName) prog_43_method_17_code (2 : Nat) (Option.some Jvm.ClassFile.FieldType.int)) ∈ lw_tbl := List.mem_of_getElem? (i := 377) rfl
theorem qw_305 : (Jvm.Cond.methodLink "java/util/Objects" (105 : Nat) ({ cls := "jdk/internal/util/Preconditions", name := "checkIndex", desc := "(IILjava/util/function/BiFunction;)I" } : Jvm.MethodName)) ∈ lw_tbl := List.mem_of_getElem? (i := 378) (by decide +kernel)
theorem qw_306 : (Jvm.Cond.static ({ cls := "jdk/internal/util/Preconditions", name := "checkIndex", desc := "(IILjava/util/function/BiFunction;)I" } : Jvm.MethodName)) ∈ lw_tbl := List.mem_of_getElem? (i := 379) (by decide +kernel)
set_option maxRecDepth 50000 in
theorem qw_307 : (Jvm.Cond.code ({ cls := "jdk/internal/util/Preconditions", name := "checkIndex", desc := "(IILjava/util/function/BiFunction;)I" } : Jvm.MethodName) prog_47_method_11_code (3 : Nat) (Option.some Jvm.ClassFile.FieldType.int)) ∈ lw_tbl := List.mem_of_getElem? (i := 380) rfl
theorem qw_308 : (Jvm.Cond.methodLink "java/util/ArrayList" (123 : Nat) ({ cls := "java/util/ArrayList", name := "elementData", desc := "(I)Ljava/lang/Object;" } : Jvm.MethodName)) ∈ lw_tbl := List.mem_of_getElem? (i := 381) (by decide +kernel)
theorem qw_309 : (Jvm.Cond.instanceMethod ({ cls := "java/util/ArrayList", name := "elementData", desc := "(I)Ljava/lang/Object;" } : Jvm.MethodName)) ∈ lw_tbl := List.mem_of_getElem? (i := 382) (by decide +kernel)
theorem qw_310 : (Jvm.Cond.selects "java/util/ArrayList" ({ cls := "java/util/ArrayList", name := "elementData", desc := "(I)Ljava/lang/Object;" } : Jvm.MethodName) ({ cls := "java/util/ArrayList", name := "elementData", desc := "(I)Ljava/lang/Object;" } : Jvm.MethodName)) ∈ lw_tbl := List.mem_of_getElem? (i := 383) (by decide +kernel)
set_option maxRecDepth 50000 in
theorem qw_311 : (Jvm.Cond.code ({ cls := "java/util/ArrayList", name := "elementData", desc := "(I)Ljava/lang/Object;" } : Jvm.MethodName) prog_36_method_18_code (2 : Nat) (Option.some (Jvm.ClassFile.FieldType.object "java/lang/Object"))) ∈ lw_tbl := List.mem_of_getElem? (i := 384) rfl
theorem qw_312 : (Jvm.Cond.methodLink "RegressionCourt" (178 : Nat) ({ cls := "RegressionCourt", name := "meet", desc := "(II)V" } : Jvm.MethodName)) ∈ lw_tbl := List.mem_of_getElem? (i := 385) (by decide +kernel)
theorem qw_314 : (Jvm.Cond.instanceMethod ({ cls := "RegressionCourt", name := "meet", desc := "(II)V" } : Jvm.MethodName)) ∈ lw_tbl := List.mem_of_getElem? (i := 387) (by decide +kernel)
set_option maxRecDepth 50000 in
theorem qw_315 : (Jvm.Cond.code ({ cls := "RegressionCourt", name := "meet", desc := "(II)V" } : Jvm.MethodName) prog_1_method_39_code (3 : Nat) (Option.none : Option Jvm.ClassFile.FieldType)) ∈ lw_tbl := List.mem_of_getElem? (i := 388) rfl
theorem qw_316 : (Jvm.Cond.methodLinkNest "RegressionCourt" (250 : Nat) ({ cls := "RegressionCourt$Sample", name := "clear", desc := "()V" } : Jvm.MethodName) "RegressionCourt") ∈ lw_tbl := List.mem_of_getElem? (i := 389) (by decide +kernel)
theorem qw_318 : (Jvm.Cond.instanceMethod ({ cls := "RegressionCourt$Sample", name := "clear", desc := "()V" } : Jvm.MethodName)) ∈ lw_tbl := List.mem_of_getElem? (i := 391) (by decide +kernel)
set_option maxRecDepth 50000 in
theorem qw_319 : (Jvm.Cond.code ({ cls := "RegressionCourt$Sample", name := "clear", desc := "()V" } : Jvm.MethodName) prog_7_method_2_code (1 : Nat) (Option.none : Option Jvm.ClassFile.FieldType)) ∈ lw_tbl := List.mem_of_getElem? (i := 392) rfl
theorem qw_320 : (Jvm.Cond.methodLinkNest "RegressionCourt" (253 : Nat) ({ cls := "RegressionCourt$Sample", name := "addLastOf", desc := "(LRegressionCourt$Change;)V" } : Jvm.MethodName) "RegressionCourt") ∈ lw_tbl := List.mem_of_getElem? (i := 393) (by decide +kernel)
theorem qw_322 : (Jvm.Cond.instanceMethod ({ cls := "RegressionCourt$Sample", name := "addLastOf", desc := "(LRegressionCourt$Change;)V" } : Jvm.MethodName)) ∈ lw_tbl := List.mem_of_getElem? (i := 395) (by decide +kernel)
set_option maxRecDepth 50000 in
theorem qw_323 : (Jvm.Cond.code ({ cls := "RegressionCourt$Sample", name := "addLastOf", desc := "(LRegressionCourt$Change;)V" } : Jvm.MethodName) prog_7_method_4_code (4 : Nat) (Option.none : Option Jvm.ClassFile.FieldType)) ∈ lw_tbl := List.mem_of_getElem? (i := 396) rfl
theorem qw_324 : (Jvm.Cond.methodLink "RegressionCourt$Sample" (25 : Nat) ({ cls := "java/util/ArrayList", name := "size", desc := "()I" } : Jvm.MethodName)) ∈ lw_tbl := List.mem_of_getElem? (i := 397) (by decide +kernel)
theorem qw_325 : (Jvm.Cond.methodLink "RegressionCourt$Sample" (30 : Nat) ({ cls := "java/util/ArrayList", name := "get", desc := "(I)Ljava/lang/Object;" } : Jvm.MethodName)) ∈ lw_tbl := List.mem_of_getElem? (i := 398) (by decide +kernel)
theorem qw_326 : (Jvm.Cond.classLink "RegressionCourt$Sample" (34 : Nat) "RegressionCourt$Run") ∈ lw_tbl := List.mem_of_getElem? (i := 399) (by decide +kernel)
theorem qw_327 : (Jvm.Cond.methodLinkNest "RegressionCourt$Sample" (36 : Nat) ({ cls := "RegressionCourt$Run", name := "isCounting", desc := "()Z" } : Jvm.MethodName) "RegressionCourt") ∈ lw_tbl := List.mem_of_getElem? (i := 400) (by decide +kernel)
theorem qw_329 : (Jvm.Cond.instanceMethod ({ cls := "RegressionCourt$Run", name := "isCounting", desc := "()Z" } : Jvm.MethodName)) ∈ lw_tbl := List.mem_of_getElem? (i := 402) (by decide +kernel)
theorem qw_330 : (Jvm.Cond.instantiable "RegressionCourt$Run" (5 : Nat)) ∈ lw_tbl := List.mem_of_getElem? (i := 403) (by decide +kernel)
set_option maxRecDepth 50000 in
theorem qw_331 : (Jvm.Cond.code ({ cls := "RegressionCourt$Run", name := "isCounting", desc := "()Z" } : Jvm.MethodName) prog_6_method_2_code (1 : Nat) (Option.some Jvm.ClassFile.FieldType.boolean)) ∈ lw_tbl := List.mem_of_getElem? (i := 404) rfl
theorem qw_332 : (Jvm.Cond.methodLink "RegressionCourt$Sample" (43 : Nat) ({ cls := "RegressionCourt$Sample", name := "add", desc := "(I)V" } : Jvm.MethodName)) ∈ lw_tbl := List.mem_of_getElem? (i := 405) (by decide +kernel)
theorem qw_334 : (Jvm.Cond.instanceMethod ({ cls := "RegressionCourt$Sample", name := "add", desc := "(I)V" } : Jvm.MethodName)) ∈ lw_tbl := List.mem_of_getElem? (i := 407) (by decide +kernel)
set_option maxRecDepth 50000 in
theorem qw_335 : (Jvm.Cond.code ({ cls := "RegressionCourt$Sample", name := "add", desc := "(I)V" } : Jvm.MethodName) prog_7_method_3_code (3 : Nat) (Option.none : Option Jvm.ClassFile.FieldType)) ∈ lw_tbl := List.mem_of_getElem? (i := 408) rfl
theorem qw_336 : (Jvm.Cond.methodLinkNest "RegressionCourt" (262 : Nat) ({ cls := "RegressionCourt$Duel", name := "weigh", desc := "()V" } : Jvm.MethodName) "RegressionCourt") ∈ lw_tbl := List.mem_of_getElem? (i := 409) (by decide +kernel)
theorem qw_338 : (Jvm.Cond.instanceMethod ({ cls := "RegressionCourt$Duel", name := "weigh", desc := "()V" } : Jvm.MethodName)) ∈ lw_tbl := List.mem_of_getElem? (i := 411) (by decide +kernel)
set_option maxRecDepth 50000 in
theorem qw_339 : (Jvm.Cond.code ({ cls := "RegressionCourt$Duel", name := "weigh", desc := "()V" } : Jvm.MethodName) prog_4_method_2_code (3 : Nat) (Option.none : Option Jvm.ClassFile.FieldType)) ∈ lw_tbl := List.mem_of_getElem? (i := 412) rfl
theorem qw_340 : (Jvm.Cond.methodLink "RegressionCourt$Duel" (49 : Nat) ({ cls := "RegressionCourt$Duel", name := "lay", desc := "(LRegressionCourt$Sample;)V" } : Jvm.MethodName)) ∈ lw_tbl := List.mem_of_getElem? (i := 413) (by decide +kernel)
theorem qw_342 : (Jvm.Cond.instanceMethod ({ cls := "RegressionCourt$Duel", name := "lay", desc := "(LRegressionCourt$Sample;)V" } : Jvm.MethodName)) ∈ lw_tbl := List.mem_of_getElem? (i := 415) (by decide +kernel)
set_option maxRecDepth 50000 in
theorem qw_343 : (Jvm.Cond.code ({ cls := "RegressionCourt$Duel", name := "lay", desc := "(LRegressionCourt$Sample;)V" } : Jvm.MethodName) prog_4_method_3_code (3 : Nat) (Option.none : Option Jvm.ClassFile.FieldType)) ∈ lw_tbl := List.mem_of_getElem? (i := 416) rfl
theorem qw_344 : (Jvm.Cond.methodLinkNest "RegressionCourt$Duel" (73 : Nat) ({ cls := "RegressionCourt$Sample", name := "worthAt", desc := "(I)I" } : Jvm.MethodName) "RegressionCourt") ∈ lw_tbl := List.mem_of_getElem? (i := 417) (by decide +kernel)
theorem qw_346 : (Jvm.Cond.instanceMethod ({ cls := "RegressionCourt$Sample", name := "worthAt", desc := "(I)I" } : Jvm.MethodName)) ∈ lw_tbl := List.mem_of_getElem? (i := 419) (by decide +kernel)
set_option maxRecDepth 50000 in
theorem qw_347 : (Jvm.Cond.code ({ cls := "RegressionCourt$Sample", name := "worthAt", desc := "(I)I" } : Jvm.MethodName) prog_7_method_5_code (2 : Nat) (Option.some Jvm.ClassFile.FieldType.int)) ∈ lw_tbl := List.mem_of_getElem? (i := 420) rfl
theorem qw_348 : (Jvm.Cond.methodLink "RegressionCourt$Duel" (53 : Nat) ({ cls := "java/lang/Math", name := "min", desc := "(II)I" } : Jvm.MethodName)) ∈ lw_tbl := List.mem_of_getElem? (i := 421) (by decide +kernel)
theorem qw_349 : (Jvm.Cond.methodLink "RegressionCourt$Duel" (62 : Nat) ({ cls := "RegressionCourt$Duel", name := "leadOf", desc := "(I)I" } : Jvm.MethodName)) ∈ lw_tbl := List.mem_of_getElem? (i := 422) (by decide +kernel)
theorem qw_351 : (Jvm.Cond.instanceMethod ({ cls := "RegressionCourt$Duel", name := "leadOf", desc := "(I)I" } : Jvm.MethodName)) ∈ lw_tbl := List.mem_of_getElem? (i := 424) (by decide +kernel)
set_option maxRecDepth 50000 in
theorem qw_352 : (Jvm.Cond.code ({ cls := "RegressionCourt$Duel", name := "leadOf", desc := "(I)I" } : Jvm.MethodName) prog_4_method_4_code (4 : Nat) (Option.some Jvm.ClassFile.FieldType.int)) ∈ lw_tbl := List.mem_of_getElem? (i := 425) rfl
theorem qw_353 : (Jvm.Cond.methodLink "RegressionCourt$Duel" (66 : Nat) ({ cls := "RegressionCourt$Duel", name := "countWays", desc := "()V" } : Jvm.MethodName)) ∈ lw_tbl := List.mem_of_getElem? (i := 426) (by decide +kernel)
theorem qw_355 : (Jvm.Cond.instanceMethod ({ cls := "RegressionCourt$Duel", name := "countWays", desc := "()V" } : Jvm.MethodName)) ∈ lw_tbl := List.mem_of_getElem? (i := 428) (by decide +kernel)
set_option maxRecDepth 50000 in
theorem qw_356 : (Jvm.Cond.code ({ cls := "RegressionCourt$Duel", name := "countWays", desc := "()V" } : Jvm.MethodName) prog_4_method_5_code (5 : Nat) (Option.none : Option Jvm.ClassFile.FieldType)) ∈ lw_tbl := List.mem_of_getElem? (i := 429) rfl
theorem qw_357 : (Jvm.Cond.methodLink "RegressionCourt$Duel" (76 : Nat) ({ cls := "RegressionCourt$Duel", name := "clearLeads", desc := "([I)V" } : Jvm.MethodName)) ∈ lw_tbl := List.mem_of_getElem? (i := 430) (by decide +kernel)
theorem qw_359 : (Jvm.Cond.instanceMethod ({ cls := "RegressionCourt$Duel", name := "clearLeads", desc := "([I)V" } : Jvm.MethodName)) ∈ lw_tbl := List.mem_of_getElem? (i := 432) (by decide +kernel)
set_option maxRecDepth 50000 in
theorem qw_360 : (Jvm.Cond.code ({ cls := "RegressionCourt$Duel", name := "clearLeads", desc := "([I)V" } : Jvm.MethodName) prog_4_method_6_code (3 : Nat) (Option.none : Option Jvm.ClassFile.FieldType)) ∈ lw_tbl := List.mem_of_getElem? (i := 433) rfl
theorem qw_361 : (Jvm.Cond.methodLink "RegressionCourt$Duel" (80 : Nat) ({ cls := "RegressionCourt$Duel", name := "addShifted", desc := "([I[II)V" } : Jvm.MethodName)) ∈ lw_tbl := List.mem_of_getElem? (i := 434) (by decide +kernel)
theorem qw_363 : (Jvm.Cond.instanceMethod ({ cls := "RegressionCourt$Duel", name := "addShifted", desc := "([I[II)V" } : Jvm.MethodName)) ∈ lw_tbl := List.mem_of_getElem? (i := 436) (by decide +kernel)
set_option maxRecDepth 50000 in
theorem qw_364 : (Jvm.Cond.code ({ cls := "RegressionCourt$Duel", name := "addShifted", desc := "([I[II)V" } : Jvm.MethodName) prog_4_method_7_code (6 : Nat) (Option.none : Option Jvm.ClassFile.FieldType)) ∈ lw_tbl := List.mem_of_getElem? (i := 437) rfl
theorem qw_365 : (Jvm.Cond.methodLink "RegressionCourt$Duel" (69 : Nat) ({ cls := "RegressionCourt$Duel", name := "tally", desc := "(I)V" } : Jvm.MethodName)) ∈ lw_tbl := List.mem_of_getElem? (i := 438) (by decide +kernel)
theorem qw_367 : (Jvm.Cond.instanceMethod ({ cls := "RegressionCourt$Duel", name := "tally", desc := "(I)V" } : Jvm.MethodName)) ∈ lw_tbl := List.mem_of_getElem? (i := 440) (by decide +kernel)
set_option maxRecDepth 50000 in
theorem qw_368 : (Jvm.Cond.code ({ cls := "RegressionCourt$Duel", name := "tally", desc := "(I)V" } : Jvm.MethodName) prog_4_method_8_code (4 : Nat) (Option.none : Option Jvm.ClassFile.FieldType)) ∈ lw_tbl := List.mem_of_getElem? (i := 441) rfl
theorem qw_369 : (Jvm.Cond.methodLinkNest "RegressionCourt" (265 : Nat) ({ cls := "RegressionCourt$Duel", name := "outcome", desc := "(II)I" } : Jvm.MethodName) "RegressionCourt") ∈ lw_tbl := List.mem_of_getElem? (i := 442) (by decide +kernel)
theorem qw_371 : (Jvm.Cond.instanceMethod ({ cls := "RegressionCourt$Duel", name := "outcome", desc := "(II)I" } : Jvm.MethodName)) ∈ lw_tbl := List.mem_of_getElem? (i := 444) (by decide +kernel)
set_option maxRecDepth 50000 in
theorem qw_372 : (Jvm.Cond.code ({ cls := "RegressionCourt$Duel", name := "outcome", desc := "(II)I" } : Jvm.MethodName) prog_4_method_9_code (3 : Nat) (Option.some Jvm.ClassFile.FieldType.int)) ∈ lw_tbl := List.mem_of_getElem? (i := 445) rfl
theorem qw_373 : (Jvm.Cond.methodLink "RegressionCourtLaw" (159 : Nat) ({ cls := "RegressionCourt", name := "wouldMove", desc := "()I" } : Jvm.MethodName)) ∈ lw_tbl := List.mem_of_getElem? (i := 446) (by decide +kernel)
theorem qw_374 : (Jvm.Cond.instanceMethod ({ cls := "RegressionCourt", name := "wouldMove", desc := "()I" } : Jvm.MethodName)) ∈ lw_tbl := List.mem_of_getElem? (i := 447) (by decide +kernel)
theorem qw_375 : (Jvm.Cond.selects "RegressionCourt" ({ cls := "RegressionCourt", name := "wouldMove", desc := "()I" } : Jvm.MethodName) ({ cls := "RegressionCourt", name := "wouldMove", desc := "()I" } : Jvm.MethodName)) ∈ lw_tbl := List.mem_of_getElem? (i := 448) (by decide +kernel)
set_option maxRecDepth 50000 in
theorem qw_376 : (Jvm.Cond.code ({ cls := "RegressionCourt", name := "wouldMove", desc := "()I" } : Jvm.MethodName) prog_1_method_23_code (3 : Nat) (Option.some Jvm.ClassFile.FieldType.int)) ∈ lw_tbl := List.mem_of_getElem? (i := 449) rfl
theorem qw_377 : (Jvm.Cond.methodLink "RegressionCourtLaw" (163 : Nat) ({ cls := "RegressionCourt", name := "digest", desc := "()J" } : Jvm.MethodName)) ∈ lw_tbl := List.mem_of_getElem? (i := 450) (by decide +kernel)
theorem qw_378 : (Jvm.Cond.instanceMethod ({ cls := "RegressionCourt", name := "digest", desc := "()J" } : Jvm.MethodName)) ∈ lw_tbl := List.mem_of_getElem? (i := 451) (by decide +kernel)
theorem qw_379 : (Jvm.Cond.selects "RegressionCourt" ({ cls := "RegressionCourt", name := "digest", desc := "()J" } : Jvm.MethodName) ({ cls := "RegressionCourt", name := "digest", desc := "()J" } : Jvm.MethodName)) ∈ lw_tbl := List.mem_of_getElem? (i := 452) (by decide +kernel)
set_option maxRecDepth 50000 in
theorem qw_380 : (Jvm.Cond.code ({ cls := "RegressionCourt", name := "digest", desc := "()J" } : Jvm.MethodName) prog_1_method_24_code (4 : Nat) (Option.some Jvm.ClassFile.FieldType.long)) ∈ lw_tbl := List.mem_of_getElem? (i := 453) rfl
theorem qw_381 : (Jvm.Cond.constantLong "RegressionCourt" (272 : Nat) (5750 : Int64)) ∈ lw_tbl := List.mem_of_getElem? (i := 454) (by decide +kernel)
theorem qw_382 : (Jvm.Cond.constantLong "RegressionCourt" (274 : Nat) (31 : Int64)) ∈ lw_tbl := List.mem_of_getElem? (i := 455) (by decide +kernel)
theorem qw_383 : (Jvm.Cond.methodLink "RegressionCourt" (239 : Nat) ({ cls := "RegressionCourt", name := "courtFact", desc := "(I)I" } : Jvm.MethodName)) ∈ lw_tbl := List.mem_of_getElem? (i := 456) (by decide +kernel)
theorem qw_385 : (Jvm.Cond.instanceMethod ({ cls := "RegressionCourt", name := "courtFact", desc := "(I)I" } : Jvm.MethodName)) ∈ lw_tbl := List.mem_of_getElem? (i := 458) (by decide +kernel)
set_option maxRecDepth 50000 in
theorem qw_386 : (Jvm.Cond.code ({ cls := "RegressionCourt", name := "courtFact", desc := "(I)I" } : Jvm.MethodName) prog_1_method_35_code (2 : Nat) (Option.some Jvm.ClassFile.FieldType.int)) ∈ lw_tbl := List.mem_of_getElem? (i := 459) rfl
theorem qw_387 : (Jvm.Cond.methodLink "RegressionCourt" (337 : Nat) ({ cls := "RegressionCourt", name := "runsThatCount", desc := "()I" } : Jvm.MethodName)) ∈ lw_tbl := List.mem_of_getElem? (i := 460) (by decide +kernel)
theorem qw_389 : (Jvm.Cond.instanceMethod ({ cls := "RegressionCourt", name := "runsThatCount", desc := "()I" } : Jvm.MethodName)) ∈ lw_tbl := List.mem_of_getElem? (i := 462) (by decide +kernel)
set_option maxRecDepth 50000 in
theorem qw_390 : (Jvm.Cond.code ({ cls := "RegressionCourt", name := "runsThatCount", desc := "()I" } : Jvm.MethodName) prog_1_method_36_code (3 : Nat) (Option.some Jvm.ClassFile.FieldType.int)) ∈ lw_tbl := List.mem_of_getElem? (i := 463) rfl
theorem qw_391 : (Jvm.Cond.classLink "RegressionCourt" (146 : Nat) "RegressionCourt$Run") ∈ lw_tbl := List.mem_of_getElem? (i := 464) (by decide +kernel)
theorem qw_392 : (Jvm.Cond.methodLinkNest "RegressionCourt" (312 : Nat) ({ cls := "RegressionCourt$Run", name := "isCounting", desc := "()Z" } : Jvm.MethodName) "RegressionCourt") ∈ lw_tbl := List.mem_of_getElem? (i := 465) (by decide +kernel)
theorem qw_393 : (Jvm.Cond.methodLink "RegressionCourt" (295 : Nat) ({ cls := "RegressionCourt", name := "oneIf", desc := "(Z)I" } : Jvm.MethodName)) ∈ lw_tbl := List.mem_of_getElem? (i := 466) (by decide +kernel)
theorem qw_394 : (Jvm.Cond.static ({ cls := "RegressionCourt", name := "oneIf", desc := "(Z)I" } : Jvm.MethodName)) ∈ lw_tbl := List.mem_of_getElem? (i := 467) (by decide +kernel)
set_option maxRecDepth 50000 in
theorem qw_395 : (Jvm.Cond.code ({ cls := "RegressionCourt", name := "oneIf", desc := "(Z)I" } : Jvm.MethodName) prog_1_method_29_code (1 : Nat) (Option.some Jvm.ClassFile.FieldType.int)) ∈ lw_tbl := List.mem_of_getElem? (i := 468) rfl
theorem qw_396 : (Jvm.Cond.methodLink "RegressionCourt" (340 : Nat) ({ cls := "RegressionCourt", name := "changesNamed", desc := "()I" } : Jvm.MethodName)) ∈ lw_tbl := List.mem_of_getElem? (i := 469) (by decide +kernel)
theorem qw_398 : (Jvm.Cond.instanceMethod ({ cls := "RegressionCourt", name := "changesNamed", desc := "()I" } : Jvm.MethodName)) ∈ lw_tbl := List.mem_of_getElem? (i := 471) (by decide +kernel)
set_option maxRecDepth 50000 in
theorem qw_399 : (Jvm.Cond.code ({ cls := "RegressionCourt", name := "changesNamed", desc := "()I" } : Jvm.MethodName) prog_1_method_37_code (3 : Nat) (Option.some Jvm.ClassFile.FieldType.int)) ∈ lw_tbl := List.mem_of_getElem? (i := 472) rfl
theorem qw_400 : (Jvm.Cond.methodLink "RegressionCourt" (343 : Nat) ({ cls := "RegressionCourt", name := "machinesAside", desc := "()I" } : Jvm.MethodName)) ∈ lw_tbl := List.mem_of_getElem? (i := 473) (by decide +kernel)
theorem qw_402 : (Jvm.Cond.instanceMethod ({ cls := "RegressionCourt", name := "machinesAside", desc := "()I" } : Jvm.MethodName)) ∈ lw_tbl := List.mem_of_getElem? (i := 475) (by decide +kernel)
set_option maxRecDepth 50000 in
theorem qw_403 : (Jvm.Cond.code ({ cls := "RegressionCourt", name := "machinesAside", desc := "()I" } : Jvm.MethodName) prog_1_method_38_code (3 : Nat) (Option.some Jvm.ClassFile.FieldType.int)) ∈ lw_tbl := List.mem_of_getElem? (i := 476) rfl
theorem qw_404 : (Jvm.Cond.classLink "RegressionCourt" (97 : Nat) "RegressionCourt$Machine") ∈ lw_tbl := List.mem_of_getElem? (i := 477) (by decide +kernel)
theorem qw_405 : (Jvm.Cond.methodLink "RegressionCourt" (276 : Nat) ({ cls := "RegressionCourt", name := "digestOfMachines", desc := "(J)J" } : Jvm.MethodName)) ∈ lw_tbl := List.mem_of_getElem? (i := 478) (by decide +kernel)
theorem qw_407 : (Jvm.Cond.instanceMethod ({ cls := "RegressionCourt", name := "digestOfMachines", desc := "(J)J" } : Jvm.MethodName)) ∈ lw_tbl := List.mem_of_getElem? (i := 480) (by decide +kernel)
set_option maxRecDepth 50000 in
theorem qw_408 : (Jvm.Cond.code ({ cls := "RegressionCourt", name := "digestOfMachines", desc := "(J)J" } : Jvm.MethodName) prog_1_method_46_code (6 : Nat) (Option.some Jvm.ClassFile.FieldType.long)) ∈ lw_tbl := List.mem_of_getElem? (i := 481) rfl
theorem qw_409 : (Jvm.Cond.methodLink "RegressionCourt" (126 : Nat) ({ cls := "RegressionCourt", name := "machineFact", desc := "(LRegressionCourt$Machine;I)I" } : Jvm.MethodName)) ∈ lw_tbl := List.mem_of_getElem? (i := 482) (by decide +kernel)
theorem qw_411 : (Jvm.Cond.instanceMethod ({ cls := "RegressionCourt", name := "machineFact", desc := "(LRegressionCourt$Machine;I)I" } : Jvm.MethodName)) ∈ lw_tbl := List.mem_of_getElem? (i := 484) (by decide +kernel)
set_option maxRecDepth 50000 in
theorem qw_412 : (Jvm.Cond.code ({ cls := "RegressionCourt", name := "machineFact", desc := "(LRegressionCourt$Machine;I)I" } : Jvm.MethodName) prog_1_method_30_code (3 : Nat) (Option.some Jvm.ClassFile.FieldType.int)) ∈ lw_tbl := List.mem_of_getElem? (i := 485) rfl
theorem qw_413 : (Jvm.Cond.methodLink "RegressionCourt" (268 : Nat) ({ cls := "RegressionCourt", name := "changesHurtWithout", desc := "(LRegressionCourt$Machine;)I" } : Jvm.MethodName)) ∈ lw_tbl := List.mem_of_getElem? (i := 486) (by decide +kernel)
theorem qw_415 : (Jvm.Cond.instanceMethod ({ cls := "RegressionCourt", name := "changesHurtWithout", desc := "(LRegressionCourt$Machine;)I" } : Jvm.MethodName)) ∈ lw_tbl := List.mem_of_getElem? (i := 488) (by decide +kernel)
set_option maxRecDepth 50000 in
theorem qw_416 : (Jvm.Cond.code ({ cls := "RegressionCourt", name := "changesHurtWithout", desc := "(LRegressionCourt$Machine;)I" } : Jvm.MethodName) prog_1_method_45_code (5 : Nat) (Option.some Jvm.ClassFile.FieldType.int)) ∈ lw_tbl := List.mem_of_getElem? (i := 489) rfl
theorem qw_417 : (Jvm.Cond.methodLinkNest "RegressionCourt" (362 : Nat) ({ cls := "RegressionCourt$Change", name := "sampleSizeWithout", desc := "(LRegressionCourt$Machine;)I" } : Jvm.MethodName) "RegressionCourt") ∈ lw_tbl := List.mem_of_getElem? (i := 490) (by decide +kernel)
theorem qw_419 : (Jvm.Cond.instanceMethod ({ cls := "RegressionCourt$Change", name := "sampleSizeWithout", desc := "(LRegressionCourt$Machine;)I" } : Jvm.MethodName)) ∈ lw_tbl := List.mem_of_getElem? (i := 492) (by decide +kernel)
set_option maxRecDepth 50000 in
theorem qw_420 : (Jvm.Cond.code ({ cls := "RegressionCourt$Change", name := "sampleSizeWithout", desc := "(LRegressionCourt$Machine;)I" } : Jvm.MethodName) prog_3_method_3_code (5 : Nat) (Option.some Jvm.ClassFile.FieldType.int)) ∈ lw_tbl := List.mem_of_getElem? (i := 493) rfl
theorem qw_421 : (Jvm.Cond.methodLink "RegressionCourt$Change" (25 : Nat) ({ cls := "java/util/ArrayList", name := "size", desc := "()I" } : Jvm.MethodName)) ∈ lw_tbl := List.mem_of_getElem? (i := 494) (by decide +kernel)
theorem qw_422 : (Jvm.Cond.methodLink "RegressionCourt$Change" (29 : Nat) ({ cls := "java/util/ArrayList", name := "get", desc := "(I)Ljava/lang/Object;" } : Jvm.MethodName)) ∈ lw_tbl := List.mem_of_getElem? (i := 495) (by decide +kernel)
theorem qw_423 : (Jvm.Cond.classLink "RegressionCourt$Change" (33 : Nat) "RegressionCourt$Run") ∈ lw_tbl := List.mem_of_getElem? (i := 496) (by decide +kernel)
theorem qw_424 : (Jvm.Cond.methodLinkNest "RegressionCourt$Change" (35 : Nat) ({ cls := "RegressionCourt$Run", name := "isCounting", desc := "()Z" } : Jvm.MethodName) "RegressionCourt") ∈ lw_tbl := List.mem_of_getElem? (i := 497) (by decide +kernel)
theorem qw_425 : (Jvm.Cond.methodLinkNest "RegressionCourt$Change" (39 : Nat) ({ cls := "RegressionCourt", name := "oneIf", desc := "(Z)I" } : Jvm.MethodName) "RegressionCourt") ∈ lw_tbl := List.mem_of_getElem? (i := 498) (by decide +kernel)
theorem qw_426 : (Jvm.Cond.methodLink "RegressionCourt$Change" (43 : Nat) ({ cls := "java/lang/Math", name := "min", desc := "(II)I" } : Jvm.MethodName)) ∈ lw_tbl := List.mem_of_getElem? (i := 499) (by decide +kernel)
theorem qw_427 : (Jvm.Cond.methodLinkNest "RegressionCourt" (356 : Nat) ({ cls := "RegressionCourt$Change", name := "sampleSize", desc := "()I" } : Jvm.MethodName) "RegressionCourt") ∈ lw_tbl := List.mem_of_getElem? (i := 500) (by decide +kernel)
theorem qw_429 : (Jvm.Cond.instanceMethod ({ cls := "RegressionCourt$Change", name := "sampleSize", desc := "()I" } : Jvm.MethodName)) ∈ lw_tbl := List.mem_of_getElem? (i := 502) (by decide +kernel)
set_option maxRecDepth 50000 in
theorem qw_430 : (Jvm.Cond.code ({ cls := "RegressionCourt$Change", name := "sampleSize", desc := "()I" } : Jvm.MethodName) prog_3_method_2_code (3 : Nat) (Option.some Jvm.ClassFile.FieldType.int)) ∈ lw_tbl := List.mem_of_getElem? (i := 503) rfl
theorem qw_431 : (Jvm.Cond.methodLink "RegressionCourt" (280 : Nat) ({ cls := "RegressionCourt", name := "digestOfChanges", desc := "(J)J" } : Jvm.MethodName)) ∈ lw_tbl := List.mem_of_getElem? (i := 504) (by decide +kernel)
theorem qw_433 : (Jvm.Cond.instanceMethod ({ cls := "RegressionCourt", name := "digestOfChanges", desc := "(J)J" } : Jvm.MethodName)) ∈ lw_tbl := List.mem_of_getElem? (i := 506) (by decide +kernel)
set_option maxRecDepth 50000 in
theorem qw_434 : (Jvm.Cond.code ({ cls := "RegressionCourt", name := "digestOfChanges", desc := "(J)J" } : Jvm.MethodName) prog_1_method_47_code (6 : Nat) (Option.some Jvm.ClassFile.FieldType.long)) ∈ lw_tbl := List.mem_of_getElem? (i := 507) rfl
theorem qw_435 : (Jvm.Cond.methodLink "RegressionCourt" (174 : Nat) ({ cls := "RegressionCourt", name := "changeFact", desc := "(LRegressionCourt$Change;I)I" } : Jvm.MethodName)) ∈ lw_tbl := List.mem_of_getElem? (i := 508) (by decide +kernel)
theorem qw_437 : (Jvm.Cond.instanceMethod ({ cls := "RegressionCourt", name := "changeFact", desc := "(LRegressionCourt$Change;I)I" } : Jvm.MethodName)) ∈ lw_tbl := List.mem_of_getElem? (i := 510) (by decide +kernel)
set_option maxRecDepth 50000 in
theorem qw_438 : (Jvm.Cond.code ({ cls := "RegressionCourt", name := "changeFact", desc := "(LRegressionCourt$Change;I)I" } : Jvm.MethodName) prog_1_method_32_code (3 : Nat) (Option.some Jvm.ClassFile.FieldType.int)) ∈ lw_tbl := List.mem_of_getElem? (i := 511) rfl
theorem qw_439 : (Jvm.Cond.methodLinkNest "RegressionCourt" (322 : Nat) ({ cls := "RegressionCourt$Sample", name := "worthAt", desc := "(I)I" } : Jvm.MethodName) "RegressionCourt") ∈ lw_tbl := List.mem_of_getElem? (i := 512) (by decide +kernel)
theorem qw_440 : (Jvm.Cond.methodLink "RegressionCourt" (242 : Nat) ({ cls := "RegressionCourt", name := "minutesToFill", desc := "(LRegressionCourt$Change;)I" } : Jvm.MethodName)) ∈ lw_tbl := List.mem_of_getElem? (i := 513) (by decide +kernel)
theorem qw_442 : (Jvm.Cond.instanceMethod ({ cls := "RegressionCourt", name := "minutesToFill", desc := "(LRegressionCourt$Change;)I" } : Jvm.MethodName)) ∈ lw_tbl := List.mem_of_getElem? (i := 515) (by decide +kernel)
set_option maxRecDepth 50000 in
theorem qw_443 : (Jvm.Cond.code ({ cls := "RegressionCourt", name := "minutesToFill", desc := "(LRegressionCourt$Change;)I" } : Jvm.MethodName) prog_1_method_43_code (4 : Nat) (Option.some Jvm.ClassFile.FieldType.int)) ∈ lw_tbl := List.mem_of_getElem? (i := 516) rfl
theorem qw_444 : (Jvm.Cond.methodLink "RegressionCourt" (359 : Nat) ({ cls := "RegressionCourt", name := "leastPrice", desc := "()I" } : Jvm.MethodName)) ∈ lw_tbl := List.mem_of_getElem? (i := 517) (by decide +kernel)
theorem qw_446 : (Jvm.Cond.instanceMethod ({ cls := "RegressionCourt", name := "leastPrice", desc := "()I" } : Jvm.MethodName)) ∈ lw_tbl := List.mem_of_getElem? (i := 519) (by decide +kernel)
set_option maxRecDepth 50000 in
theorem qw_447 : (Jvm.Cond.code ({ cls := "RegressionCourt", name := "leastPrice", desc := "()I" } : Jvm.MethodName) prog_1_method_44_code (4 : Nat) (Option.some Jvm.ClassFile.FieldType.int)) ∈ lw_tbl := List.mem_of_getElem? (i := 520) rfl
theorem qw_448 : (Jvm.Cond.methodLink "RegressionCourt" (283 : Nat) ({ cls := "RegressionCourt", name := "digestOfRuns", desc := "(J)J" } : Jvm.MethodName)) ∈ lw_tbl := List.mem_of_getElem? (i := 521) (by decide +kernel)
theorem qw_450 : (Jvm.Cond.instanceMethod ({ cls := "RegressionCourt", name := "digestOfRuns", desc := "(J)J" } : Jvm.MethodName)) ∈ lw_tbl := List.mem_of_getElem? (i := 523) (by decide +kernel)
set_option maxRecDepth 50000 in
theorem qw_451 : (Jvm.Cond.code ({ cls := "RegressionCourt", name := "digestOfRuns", desc := "(J)J" } : Jvm.MethodName) prog_1_method_48_code (6 : Nat) (Option.some Jvm.ClassFile.FieldType.long)) ∈ lw_tbl := List.mem_of_getElem? (i := 524) rfl
theorem qw_452 : (Jvm.Cond.methodLink "RegressionCourt" (168 : Nat) ({ cls := "RegressionCourt", name := "runFact", desc := "(LRegressionCourt$Run;I)I" } : Jvm.MethodName)) ∈ lw_tbl := List.mem_of_getElem? (i := 525) (by decide +kernel)
theorem qw_454 : (Jvm.Cond.instanceMethod ({ cls := "RegressionCourt", name := "runFact", desc := "(LRegressionCourt$Run;I)I" } : Jvm.MethodName)) ∈ lw_tbl := List.mem_of_getElem? (i := 527) (by decide +kernel)
set_option maxRecDepth 50000 in
theorem qw_455 : (Jvm.Cond.code ({ cls := "RegressionCourt", name := "runFact", desc := "(LRegressionCourt$Run;I)I" } : Jvm.MethodName) prog_1_method_31_code (3 : Nat) (Option.some Jvm.ClassFile.FieldType.int)) ∈ lw_tbl := List.mem_of_getElem? (i := 528) rfl
theorem qw_456 : (Jvm.Cond.methodLinkNest "RegressionCourt" (316 : Nat) ({ cls := "RegressionCourt$Change", name := "isInSample", desc := "(LRegressionCourt$Run;)Z" } : Jvm.MethodName) "RegressionCourt") ∈ lw_tbl := List.mem_of_getElem? (i := 529) (by decide +kernel)
theorem qw_458 : (Jvm.Cond.instanceMethod ({ cls := "RegressionCourt$Change", name := "isInSample", desc := "(LRegressionCourt$Run;)Z" } : Jvm.MethodName)) ∈ lw_tbl := List.mem_of_getElem? (i := 531) (by decide +kernel)
set_option maxRecDepth 50000 in
theorem qw_459 : (Jvm.Cond.code ({ cls := "RegressionCourt$Change", name := "isInSample", desc := "(LRegressionCourt$Run;)Z" } : Jvm.MethodName) prog_3_method_4_code (5 : Nat) (Option.some Jvm.ClassFile.FieldType.boolean)) ∈ lw_tbl := List.mem_of_getElem? (i := 532) rfl
theorem qw_460 : (Jvm.Cond.methodLink "RegressionCourt" (286 : Nat) ({ cls := "RegressionCourt", name := "digestOfVerdicts", desc := "(J)J" } : Jvm.MethodName)) ∈ lw_tbl := List.mem_of_getElem? (i := 533) (by decide +kernel)
theorem qw_462 : (Jvm.Cond.instanceMethod ({ cls := "RegressionCourt", name := "digestOfVerdicts", desc := "(J)J" } : Jvm.MethodName)) ∈ lw_tbl := List.mem_of_getElem? (i := 535) (by decide +kernel)
set_option maxRecDepth 50000 in
theorem qw_463 : (Jvm.Cond.code ({ cls := "RegressionCourt", name := "digestOfVerdicts", desc := "(J)J" } : Jvm.MethodName) prog_1_method_49_code (5 : Nat) (Option.some Jvm.ClassFile.FieldType.long)) ∈ lw_tbl := List.mem_of_getElem? (i := 536) rfl
theorem qw_464 : (Jvm.Cond.methodLink "RegressionCourt" (182 : Nat) ({ cls := "RegressionCourt", name := "duelFact", desc := "(I)I" } : Jvm.MethodName)) ∈ lw_tbl := List.mem_of_getElem? (i := 537) (by decide +kernel)
theorem qw_466 : (Jvm.Cond.instanceMethod ({ cls := "RegressionCourt", name := "duelFact", desc := "(I)I" } : Jvm.MethodName)) ∈ lw_tbl := List.mem_of_getElem? (i := 539) (by decide +kernel)
set_option maxRecDepth 50000 in
theorem qw_467 : (Jvm.Cond.code ({ cls := "RegressionCourt", name := "duelFact", desc := "(I)I" } : Jvm.MethodName) prog_1_method_33_code (2 : Nat) (Option.some Jvm.ClassFile.FieldType.int)) ∈ lw_tbl := List.mem_of_getElem? (i := 540) rfl
theorem qw_468 : (Jvm.Cond.methodLink "RegressionCourt" (216 : Nat) ({ cls := "RegressionCourt", name := "caseFact", desc := "(I)I" } : Jvm.MethodName)) ∈ lw_tbl := List.mem_of_getElem? (i := 541) (by decide +kernel)
theorem qw_470 : (Jvm.Cond.instanceMethod ({ cls := "RegressionCourt", name := "caseFact", desc := "(I)I" } : Jvm.MethodName)) ∈ lw_tbl := List.mem_of_getElem? (i := 543) (by decide +kernel)
set_option maxRecDepth 50000 in
theorem qw_471 : (Jvm.Cond.code ({ cls := "RegressionCourt", name := "caseFact", desc := "(I)I" } : Jvm.MethodName) prog_1_method_34_code (2 : Nat) (Option.some Jvm.ClassFile.FieldType.int)) ∈ lw_tbl := List.mem_of_getElem? (i := 544) rfl
theorem qw_472 : (Jvm.Cond.methodLink "RegressionCourt" (289 : Nat) ({ cls := "RegressionCourt", name := "wouldMove", desc := "()I" } : Jvm.MethodName)) ∈ lw_tbl := List.mem_of_getElem? (i := 545) (by decide +kernel)
theorem qw_473 : (Jvm.Cond.methodLink "RegressionCourtLaw" (85 : Nat) ({ cls := "RegressionCourtLaw", name := "machine", desc := "(LRegressionCourt;II[J)I" } : Jvm.MethodName)) ∈ lw_tbl := List.mem_of_getElem? (i := 546) (by decide +kernel)
theorem qw_474 : (Jvm.Cond.static ({ cls := "RegressionCourtLaw", name := "machine", desc := "(LRegressionCourt;II[J)I" } : Jvm.MethodName)) ∈ lw_tbl := List.mem_of_getElem? (i := 547) (by decide +kernel)
set_option maxRecDepth 50000 in
theorem qw_475 : (Jvm.Cond.codeWith ({ cls := "RegressionCourtLaw", name := "machine", desc := "(LRegressionCourt;II[J)I" } : Jvm.MethodName) method_3_code (5 : Nat) (Option.some Jvm.ClassFile.FieldType.int) [((0 : Nat), (10 : Nat), (13 : Nat), (13 : Nat)), ((0 : Nat), (10 : Nat), (17 : Nat), (15 : Nat))]) ∈ lw_tbl := List.mem_of_getElem? (i := 548) rfl
theorem qw_476 : (Jvm.Cond.classLink "RegressionCourtLaw" (13 : Nat) "java/lang/IllegalArgumentException") ∈ lw_tbl := List.mem_of_getElem? (i := 549) (by decide +kernel)
theorem qw_477 : (Jvm.Cond.classLink "RegressionCourtLaw" (15 : Nat) "java/lang/IllegalStateException") ∈ lw_tbl := List.mem_of_getElem? (i := 550) (by decide +kernel)
theorem qw_478 : (Jvm.Cond.methodLink "RegressionCourtLaw" (7 : Nat) ({ cls := "RegressionCourt", name := "machine", desc := "(II)I" } : Jvm.MethodName)) ∈ lw_tbl := List.mem_of_getElem? (i := 551) (by decide +kernel)
theorem qw_479 : (Jvm.Cond.instanceMethod ({ cls := "RegressionCourt", name := "machine", desc := "(II)I" } : Jvm.MethodName)) ∈ lw_tbl := List.mem_of_getElem? (i := 552) (by decide +kernel)
theorem qw_480 : (Jvm.Cond.selects "RegressionCourt" ({ cls := "RegressionCourt", name := "machine", desc := "(II)I" } : Jvm.MethodName) ({ cls := "RegressionCourt", name := "machine", desc := "(II)I" } : Jvm.MethodName)) ∈ lw_tbl := List.mem_of_getElem? (i := 553) (by decide +kernel)
set_option maxRecDepth 50000 in
theorem qw_481 : (Jvm.Cond.code ({ cls := "RegressionCourt", name := "machine", desc := "(II)I" } : Jvm.MethodName) prog_1_method_2_code (3 : Nat) (Option.some Jvm.ClassFile.FieldType.int)) ∈ lw_tbl := List.mem_of_getElem? (i := 554) rfl
theorem qw_482 : (Jvm.Cond.methodLink "RegressionCourt" (73 : Nat) ({ cls := "RegressionCourt", name := "isOutside", desc := "(III)Z" } : Jvm.MethodName)) ∈ lw_tbl := List.mem_of_getElem? (i := 555) (by decide +kernel)
theorem qw_483 : (Jvm.Cond.static ({ cls := "RegressionCourt", name := "isOutside", desc := "(III)Z" } : Jvm.MethodName)) ∈ lw_tbl := List.mem_of_getElem? (i := 556) (by decide +kernel)
set_option maxRecDepth 50000 in
theorem qw_484 : (Jvm.Cond.code ({ cls := "RegressionCourt", name := "isOutside", desc := "(III)Z" } : Jvm.MethodName) prog_1_method_25_code (3 : Nat) (Option.some Jvm.ClassFile.FieldType.boolean)) ∈ lw_tbl := List.mem_of_getElem? (i := 557) rfl
theorem qw_485 : (Jvm.Cond.methodLink "RegressionCourt" (77 : Nat) ({ cls := "RegressionCourt", name := "isNoMeasure", desc := "(I)Z" } : Jvm.MethodName)) ∈ lw_tbl := List.mem_of_getElem? (i := 558) (by decide +kernel)
theorem qw_486 : (Jvm.Cond.static ({ cls := "RegressionCourt", name := "isNoMeasure", desc := "(I)Z" } : Jvm.MethodName)) ∈ lw_tbl := List.mem_of_getElem? (i := 559) (by decide +kernel)
set_option maxRecDepth 50000 in
theorem qw_487 : (Jvm.Cond.code ({ cls := "RegressionCourt", name := "isNoMeasure", desc := "(I)Z" } : Jvm.MethodName) prog_1_method_26_code (1 : Nat) (Option.some Jvm.ClassFile.FieldType.boolean)) ∈ lw_tbl := List.mem_of_getElem? (i := 560) rfl
theorem qw_488 : (Jvm.Cond.classLink "RegressionCourt" (81 : Nat) "java/lang/IllegalArgumentException") ∈ lw_tbl := List.mem_of_getElem? (i := 561) (by decide +kernel)
theorem qw_489 : (Jvm.Cond.instantiable "java/lang/IllegalArgumentException" (6 : Nat)) ∈ lw_tbl := List.mem_of_getElem? (i := 562) (by decide +kernel)
theorem qw_490 : (Jvm.Cond.castable "java/lang/IllegalArgumentException" "java/lang/IllegalArgumentException") ∈ lw_tbl := List.mem_of_getElem? (i := 563) (by decide +kernel)
theorem qw_491 : (Jvm.Cond.declares ({ cls := "java/lang/RuntimeException", name := "<init>", desc := "()V" } : Jvm.MethodName)) ∈ lw_tbl := List.mem_of_getElem? (i := 564) (by decide +kernel)
theorem qw_492 : (Jvm.Cond.declares ({ cls := "java/lang/RuntimeException", name := "<init>", desc := "(Ljava/lang/String;)V" } : Jvm.MethodName)) ∈ lw_tbl := List.mem_of_getElem? (i := 565) (by decide +kernel)
theorem qw_493 : (Jvm.Cond.declares ({ cls := "java/lang/Exception", name := "<init>", desc := "()V" } : Jvm.MethodName)) ∈ lw_tbl := List.mem_of_getElem? (i := 566) (by decide +kernel)
theorem qw_494 : (Jvm.Cond.declares ({ cls := "java/lang/Exception", name := "<init>", desc := "(Ljava/lang/String;)V" } : Jvm.MethodName)) ∈ lw_tbl := List.mem_of_getElem? (i := 567) (by decide +kernel)
theorem qw_495 : (Jvm.Cond.declares ({ cls := "java/lang/Throwable", name := "<init>", desc := "()V" } : Jvm.MethodName)) ∈ lw_tbl := List.mem_of_getElem? (i := 568) (by decide +kernel)
theorem qw_496 : (Jvm.Cond.declares ({ cls := "java/lang/Throwable", name := "<init>", desc := "(Ljava/lang/String;)V" } : Jvm.MethodName)) ∈ lw_tbl := List.mem_of_getElem? (i := 569) (by decide +kernel)
theorem qw_497 : (Jvm.Cond.selects "java/lang/IllegalArgumentException" ({ cls := "java/lang/Throwable", name := "fillInStackTrace", desc := "(I)Ljava/lang/Throwable;" } : Jvm.MethodName) ({ cls := "java/lang/Throwable", name := "fillInStackTrace", desc := "(I)Ljava/lang/Throwable;" } : Jvm.MethodName)) ∈ lw_tbl := List.mem_of_getElem? (i := 570) (by decide +kernel)
theorem qw_498 : (Jvm.Cond.selects "java/lang/IllegalArgumentException" ({ cls := "java/lang/Throwable", name := "fillInStackTrace", desc := "()Ljava/lang/Throwable;" } : Jvm.MethodName) ({ cls := "java/lang/Throwable", name := "fillInStackTrace", desc := "()Ljava/lang/Throwable;" } : Jvm.MethodName)) ∈ lw_tbl := List.mem_of_getElem? (i := 571) (by decide +kernel)
theorem qw_509 : (Jvm.Cond.fieldLink "java/lang/Throwable" (198 : Nat) "java/lang/Throwable" "backtrace" "Ljava/lang/Object;") ∈ lw_tbl := List.mem_of_getElem? (i := 582) (by decide +kernel)
theorem qw_511 : (Jvm.Cond.instanceMethod ({ cls := "java/lang/Throwable", name := "<init>", desc := "()V" } : Jvm.MethodName)) ∈ lw_tbl := List.mem_of_getElem? (i := 584) (by decide +kernel)
set_option maxRecDepth 50000 in
theorem qw_512 : (Jvm.Cond.code ({ cls := "java/lang/Throwable", name := "<init>", desc := "()V" } : Jvm.MethodName) prog_31_method_1_code (1 : Nat) (Option.none : Option Jvm.ClassFile.FieldType)) ∈ lw_tbl := List.mem_of_getElem? (i := 585) rfl
theorem qw_513 : (Jvm.Cond.methodLink "java/lang/Throwable" (1 : Nat) ({ cls := "java/lang/Object", name := "<init>", desc := "()V" } : Jvm.MethodName)) ∈ lw_tbl := List.mem_of_getElem? (i := 586) (by decide +kernel)
theorem qw_514 : (Jvm.Cond.fieldLink "java/lang/Throwable" (13 : Nat) "java/lang/Throwable" "UNASSIGNED_STACK" "[Ljava/lang/StackTraceElement;") ∈ lw_tbl := List.mem_of_getElem? (i := 587) (by decide +kernel)
theorem qw_516 : (Jvm.Cond.fieldLink "java/lang/Throwable" (20 : Nat) "java/lang/Throwable" "SUPPRESSED_SENTINEL" "Ljava/util/List;") ∈ lw_tbl := List.mem_of_getElem? (i := 589) (by decide +kernel)
theorem qw_518 : (Jvm.Cond.methodLink "java/lang/Throwable" (27 : Nat) ({ cls := "java/lang/Throwable", name := "fillInStackTrace", desc := "()Ljava/lang/Throwable;" } : Jvm.MethodName)) ∈ lw_tbl := List.mem_of_getElem? (i := 591) (by decide +kernel)
theorem qw_519 : (Jvm.Cond.instanceMethod ({ cls := "java/lang/Throwable", name := "fillInStackTrace", desc := "()Ljava/lang/Throwable;" } : Jvm.MethodName)) ∈ lw_tbl := List.mem_of_getElem? (i := 592) (by decide +kernel)
theorem qw_520 : (Jvm.Cond.sameMethod "java/lang/Throwable" "java/lang/Throwable" "fillInStackTrace" "()Ljava/lang/Throwable;") ∈ lw_tbl := List.mem_of_getElem? (i := 593) (by decide +kernel)
theorem qw_521 : (Jvm.Cond.selects "java/lang/IllegalStateException" ({ cls := "java/lang/Throwable", name := "fillInStackTrace", desc := "()Ljava/lang/Throwable;" } : Jvm.MethodName) ({ cls := "java/lang/Throwable", name := "fillInStackTrace", desc := "()Ljava/lang/Throwable;" } : Jvm.MethodName)) ∈ lw_tbl := List.mem_of_getElem? (i := 594) (by decide +kernel)
theorem qw_522 : (Jvm.Cond.selects "java/lang/IndexOutOfBoundsException" ({ cls := "java/lang/Throwable", name := "fillInStackTrace", desc := "()Ljava/lang/Throwable;" } : Jvm.MethodName) ({ cls := "java/lang/Throwable", name := "fillInStackTrace", desc := "()Ljava/lang/Throwable;" } : Jvm.MethodName)) ∈ lw_tbl := List.mem_of_getElem? (i := 595) (by decide +kernel)
theorem qw_524 : (Jvm.Cond.methodLink "java/lang/Throwable" (202 : Nat) ({ cls := "java/lang/Throwable", name := "fillInStackTrace", desc := "(I)Ljava/lang/Throwable;" } : Jvm.MethodName)) ∈ lw_tbl := List.mem_of_getElem? (i := 597) (by decide +kernel)
theorem qw_526 : (Jvm.Cond.instanceMethod ({ cls := "java/lang/Throwable", name := "fillInStackTrace", desc := "(I)Ljava/lang/Throwable;" } : Jvm.MethodName)) ∈ lw_tbl := List.mem_of_getElem? (i := 599) (by decide +kernel)
theorem qw_527 : (Jvm.Cond.instantiable "java/lang/Throwable" (6 : Nat)) ∈ lw_tbl := List.mem_of_getElem? (i := 600) (by decide +kernel)
theorem qw_528 : (Jvm.Cond.native ({ cls := "java/lang/Throwable", name := "fillInStackTrace", desc := "(I)Ljava/lang/Throwable;" } : Jvm.MethodName)) ∈ lw_tbl := List.mem_of_getElem? (i := 601) (by decide +kernel)
theorem qw_530 : (Jvm.Cond.methodLink "RegressionCourt" (85 : Nat) ({ cls := "java/lang/IllegalArgumentException", name := "<init>", desc := "(Ljava/lang/String;)V" } : Jvm.MethodName)) ∈ lw_tbl := List.mem_of_getElem? (i := 603) (by decide +kernel)
theorem qw_531 : (Jvm.Cond.instanceMethod ({ cls := "java/lang/IllegalArgumentException", name := "<init>", desc := "(Ljava/lang/String;)V" } : Jvm.MethodName)) ∈ lw_tbl := List.mem_of_getElem? (i := 604) (by decide +kernel)
set_option maxRecDepth 50000 in
theorem qw_532 : (Jvm.Cond.code ({ cls := "java/lang/IllegalArgumentException", name := "<init>", desc := "(Ljava/lang/String;)V" } : Jvm.MethodName) prog_17_method_2_code (2 : Nat) (Option.none : Option Jvm.ClassFile.FieldType)) ∈ lw_tbl := List.mem_of_getElem? (i := 605) rfl
theorem qw_533 : (Jvm.Cond.methodLink "java/lang/IllegalArgumentException" (7 : Nat) ({ cls := "java/lang/RuntimeException", name := "<init>", desc := "(Ljava/lang/String;)V" } : Jvm.MethodName)) ∈ lw_tbl := List.mem_of_getElem? (i := 606) (by decide +kernel)
theorem qw_534 : (Jvm.Cond.instanceMethod ({ cls := "java/lang/RuntimeException", name := "<init>", desc := "(Ljava/lang/String;)V" } : Jvm.MethodName)) ∈ lw_tbl := List.mem_of_getElem? (i := 607) (by decide +kernel)
set_option maxRecDepth 50000 in
theorem qw_535 : (Jvm.Cond.code ({ cls := "java/lang/RuntimeException", name := "<init>", desc := "(Ljava/lang/String;)V" } : Jvm.MethodName) prog_25_method_2_code (2 : Nat) (Option.none : Option Jvm.ClassFile.FieldType)) ∈ lw_tbl := List.mem_of_getElem? (i := 608) rfl
theorem qw_536 : (Jvm.Cond.methodLink "java/lang/RuntimeException" (7 : Nat) ({ cls := "java/lang/Exception", name := "<init>", desc := "(Ljava/lang/String;)V" } : Jvm.MethodName)) ∈ lw_tbl := List.mem_of_getElem? (i := 609) (by decide +kernel)
theorem qw_537 : (Jvm.Cond.instanceMethod ({ cls := "java/lang/Exception", name := "<init>", desc := "(Ljava/lang/String;)V" } : Jvm.MethodName)) ∈ lw_tbl := List.mem_of_getElem? (i := 610) (by decide +kernel)
set_option maxRecDepth 50000 in
theorem qw_538 : (Jvm.Cond.code ({ cls := "java/lang/Exception", name := "<init>", desc := "(Ljava/lang/String;)V" } : Jvm.MethodName) prog_16_method_2_code (2 : Nat) (Option.none : Option Jvm.ClassFile.FieldType)) ∈ lw_tbl := List.mem_of_getElem? (i := 611) rfl
theorem qw_539 : (Jvm.Cond.methodLink "java/lang/Exception" (7 : Nat) ({ cls := "java/lang/Throwable", name := "<init>", desc := "(Ljava/lang/String;)V" } : Jvm.MethodName)) ∈ lw_tbl := List.mem_of_getElem? (i := 612) (by decide +kernel)
theorem qw_540 : (Jvm.Cond.instanceMethod ({ cls := "java/lang/Throwable", name := "<init>", desc := "(Ljava/lang/String;)V" } : Jvm.MethodName)) ∈ lw_tbl := List.mem_of_getElem? (i := 613) (by decide +kernel)
set_option maxRecDepth 50000 in
theorem qw_541 : (Jvm.Cond.code ({ cls := "java/lang/Throwable", name := "<init>", desc := "(Ljava/lang/String;)V" } : Jvm.MethodName) prog_31_method_2_code (2 : Nat) (Option.none : Option Jvm.ClassFile.FieldType)) ∈ lw_tbl := List.mem_of_getElem? (i := 614) rfl
theorem qw_542 : (Jvm.Cond.fieldLink "java/lang/Throwable" (198 : Nat) "java/lang/Throwable" "backtrace" "Ljava/lang/Object;") ∈ lw_tbl := List.mem_of_getElem? (i := 615) (by decide +kernel)
theorem qw_543 : (Jvm.Cond.fieldLink "java/lang/Throwable" (31 : Nat) "java/lang/Throwable" "detailMessage" "Ljava/lang/String;") ∈ lw_tbl := List.mem_of_getElem? (i := 616) (by decide +kernel)
theorem qw_544 : (Jvm.Cond.fieldLink "java/lang/Throwable" (7 : Nat) "java/lang/Throwable" "cause" "Ljava/lang/Throwable;") ∈ lw_tbl := List.mem_of_getElem? (i := 617) (by decide +kernel)
theorem qw_545 : (Jvm.Cond.fieldLink "java/lang/Throwable" (17 : Nat) "java/lang/Throwable" "stackTrace" "[Ljava/lang/StackTraceElement;") ∈ lw_tbl := List.mem_of_getElem? (i := 618) (by decide +kernel)
theorem qw_546 : (Jvm.Cond.fieldLink "java/lang/Throwable" (24 : Nat) "java/lang/Throwable" "suppressedExceptions" "Ljava/util/List;") ∈ lw_tbl := List.mem_of_getElem? (i := 619) (by decide +kernel)
theorem qw_555 : (Jvm.Cond.arrayClass Jvm.ClassFile.FieldType.byte) ∈ lw_tbl := List.mem_of_getElem? (i := 628) (by decide +kernel)
theorem qw_556 : (Jvm.Cond.classLink "RegressionCourt" (92 : Nat) "java/lang/IllegalStateException") ∈ lw_tbl := List.mem_of_getElem? (i := 629) (by decide +kernel)
theorem qw_557 : (Jvm.Cond.instantiable "java/lang/IllegalStateException" (6 : Nat)) ∈ lw_tbl := List.mem_of_getElem? (i := 630) (by decide +kernel)
theorem qw_558 : (Jvm.Cond.castable "java/lang/IllegalStateException" "java/lang/IllegalStateException") ∈ lw_tbl := List.mem_of_getElem? (i := 631) (by decide +kernel)
theorem qw_559 : (Jvm.Cond.selects "java/lang/IllegalStateException" ({ cls := "java/lang/Throwable", name := "fillInStackTrace", desc := "(I)Ljava/lang/Throwable;" } : Jvm.MethodName) ({ cls := "java/lang/Throwable", name := "fillInStackTrace", desc := "(I)Ljava/lang/Throwable;" } : Jvm.MethodName)) ∈ lw_tbl := List.mem_of_getElem? (i := 632) (by decide +kernel)
theorem qw_566 : (Jvm.Cond.methodLink "RegressionCourt" (96 : Nat) ({ cls := "java/lang/IllegalStateException", name := "<init>", desc := "(Ljava/lang/String;)V" } : Jvm.MethodName)) ∈ lw_tbl := List.mem_of_getElem? (i := 639) (by decide +kernel)
theorem qw_567 : (Jvm.Cond.instanceMethod ({ cls := "java/lang/IllegalStateException", name := "<init>", desc := "(Ljava/lang/String;)V" } : Jvm.MethodName)) ∈ lw_tbl := List.mem_of_getElem? (i := 640) (by decide +kernel)
set_option maxRecDepth 50000 in
theorem qw_568 : (Jvm.Cond.code ({ cls := "java/lang/IllegalStateException", name := "<init>", desc := "(Ljava/lang/String;)V" } : Jvm.MethodName) prog_18_method_2_code (2 : Nat) (Option.none : Option Jvm.ClassFile.FieldType)) ∈ lw_tbl := List.mem_of_getElem? (i := 641) rfl
theorem qw_569 : (Jvm.Cond.methodLink "java/lang/IllegalStateException" (7 : Nat) ({ cls := "java/lang/RuntimeException", name := "<init>", desc := "(Ljava/lang/String;)V" } : Jvm.MethodName)) ∈ lw_tbl := List.mem_of_getElem? (i := 642) (by decide +kernel)
theorem qw_572 : (Jvm.Cond.instantiable "RegressionCourt$Machine" (8 : Nat)) ∈ lw_tbl := List.mem_of_getElem? (i := 645) (by decide +kernel)
theorem qw_573 : (Jvm.Cond.methodLinkNest "RegressionCourt" (99 : Nat) ({ cls := "RegressionCourt$Machine", name := "<init>", desc := "(III)V" } : Jvm.MethodName) "RegressionCourt") ∈ lw_tbl := List.mem_of_getElem? (i := 646) (by decide +kernel)
theorem qw_574 : (Jvm.Cond.instanceMethod ({ cls := "RegressionCourt$Machine", name := "<init>", desc := "(III)V" } : Jvm.MethodName)) ∈ lw_tbl := List.mem_of_getElem? (i := 647) (by decide +kernel)
set_option maxRecDepth 50000 in
theorem qw_575 : (Jvm.Cond.code ({ cls := "RegressionCourt$Machine", name := "<init>", desc := "(III)V" } : Jvm.MethodName) prog_5_method_1_code (4 : Nat) (Option.none : Option Jvm.ClassFile.FieldType)) ∈ lw_tbl := List.mem_of_getElem? (i := 648) rfl
theorem qw_576 : (Jvm.Cond.methodLink "RegressionCourt$Machine" (1 : Nat) ({ cls := "java/lang/Object", name := "<init>", desc := "()V" } : Jvm.MethodName)) ∈ lw_tbl := List.mem_of_getElem? (i := 649) (by decide +kernel)
theorem qw_577 : (Jvm.Cond.fieldLink "RegressionCourt$Machine" (20 : Nat) "RegressionCourt$Machine" "number" "I") ∈ lw_tbl := List.mem_of_getElem? (i := 650) (by decide +kernel)
theorem qw_578 : (Jvm.Cond.fieldLinkNest "RegressionCourt" (307 : Nat) "RegressionCourt$Machine" "number" "I" "RegressionCourt") ∈ lw_tbl := List.mem_of_getElem? (i := 651) (by decide +kernel)
theorem qw_579 : (Jvm.Cond.fieldLink "RegressionCourt$Machine" (23 : Nat) "RegressionCourt$Machine" "price" "I") ∈ lw_tbl := List.mem_of_getElem? (i := 652) (by decide +kernel)
theorem qw_580 : (Jvm.Cond.fieldLinkNest "RegressionCourt" (141 : Nat) "RegressionCourt$Machine" "price" "I" "RegressionCourt") ∈ lw_tbl := List.mem_of_getElem? (i := 653) (by decide +kernel)
theorem qw_581 : (Jvm.Cond.fieldLink "RegressionCourt$Machine" (26 : Nat) "RegressionCourt$Machine" "scale" "I") ∈ lw_tbl := List.mem_of_getElem? (i := 654) (by decide +kernel)
theorem qw_582 : (Jvm.Cond.fieldLinkNest "RegressionCourt" (292 : Nat) "RegressionCourt$Machine" "scale" "I" "RegressionCourt") ∈ lw_tbl := List.mem_of_getElem? (i := 655) (by decide +kernel)
theorem qw_583 : (Jvm.Cond.fieldLink "RegressionCourt$Machine" (29 : Nat) "RegressionCourt$Machine" "measureBefore" "I") ∈ lw_tbl := List.mem_of_getElem? (i := 656) (by decide +kernel)
theorem qw_584 : (Jvm.Cond.fieldLink "RegressionCourt$Machine" (32 : Nat) "RegressionCourt$Machine" "measureTwoBefore" "I") ∈ lw_tbl := List.mem_of_getElem? (i := 657) (by decide +kernel)
theorem qw_585 : (Jvm.Cond.fieldLink "RegressionCourt$Machine" (7 : Nat) "RegressionCourt$Machine" "measures" "I") ∈ lw_tbl := List.mem_of_getElem? (i := 658) (by decide +kernel)
theorem qw_586 : (Jvm.Cond.fieldLinkNest "RegressionCourt" (299 : Nat) "RegressionCourt$Machine" "measures" "I" "RegressionCourt") ∈ lw_tbl := List.mem_of_getElem? (i := 659) (by decide +kernel)
theorem qw_587 : (Jvm.Cond.fieldLink "RegressionCourt$Machine" (13 : Nat) "RegressionCourt$Machine" "runs" "I") ∈ lw_tbl := List.mem_of_getElem? (i := 660) (by decide +kernel)
theorem qw_588 : (Jvm.Cond.fieldLinkNest "RegressionCourt" (156 : Nat) "RegressionCourt$Machine" "runs" "I" "RegressionCourt") ∈ lw_tbl := List.mem_of_getElem? (i := 661) (by decide +kernel)
theorem qw_589 : (Jvm.Cond.fieldLink "RegressionCourt$Machine" (16 : Nat) "RegressionCourt$Machine" "isAside" "Z") ∈ lw_tbl := List.mem_of_getElem? (i := 662) (by decide +kernel)
theorem qw_590 : (Jvm.Cond.fieldLinkNest "RegressionCourt$Run" (33 : Nat) "RegressionCourt$Machine" "isAside" "Z" "RegressionCourt") ∈ lw_tbl := List.mem_of_getElem? (i := 663) (by decide +kernel)
theorem qw_591 : (Jvm.Cond.fieldLinkNest "RegressionCourt" (120 : Nat) "RegressionCourt$Machine" "isAside" "Z" "RegressionCourt") ∈ lw_tbl := List.mem_of_getElem? (i := 664) (by decide +kernel)
theorem qw_609 : (Jvm.Cond.methodLink "RegressionCourtLaw" (94 : Nat) ({ cls := "RegressionCourtLaw", name := "measure", desc := "(LRegressionCourt;II[J)I" } : Jvm.MethodName)) ∈ lw_tbl := List.mem_of_getElem? (i := 682) (by decide +kernel)
theorem qw_610 : (Jvm.Cond.static ({ cls := "RegressionCourtLaw", name := "measure", desc := "(LRegressionCourt;II[J)I" } : Jvm.MethodName)) ∈ lw_tbl := List.mem_of_getElem? (i := 683) (by decide +kernel)
set_option maxRecDepth 50000 in
theorem qw_611 : (Jvm.Cond.codeWith ({ cls := "RegressionCourtLaw", name := "measure", desc := "(LRegressionCourt;II[J)I" } : Jvm.MethodName) method_4_code (5 : Nat) (Option.some Jvm.ClassFile.FieldType.int) [((0 : Nat), (17 : Nat), (20 : Nat), (21 : Nat)), ((0 : Nat), (17 : Nat), (24 : Nat), (13 : Nat))]) ∈ lw_tbl := List.mem_of_getElem? (i := 684) rfl
theorem qw_612 : (Jvm.Cond.classLink "RegressionCourtLaw" (21 : Nat) "java/lang/IndexOutOfBoundsException") ∈ lw_tbl := List.mem_of_getElem? (i := 685) (by decide +kernel)
theorem qw_613 : (Jvm.Cond.methodLink "RegressionCourtLaw" (17 : Nat) ({ cls := "RegressionCourt", name := "measure", desc := "(II)Z" } : Jvm.MethodName)) ∈ lw_tbl := List.mem_of_getElem? (i := 686) (by decide +kernel)
theorem qw_614 : (Jvm.Cond.instanceMethod ({ cls := "RegressionCourt", name := "measure", desc := "(II)Z" } : Jvm.MethodName)) ∈ lw_tbl := List.mem_of_getElem? (i := 687) (by decide +kernel)
theorem qw_615 : (Jvm.Cond.selects "RegressionCourt" ({ cls := "RegressionCourt", name := "measure", desc := "(II)Z" } : Jvm.MethodName) ({ cls := "RegressionCourt", name := "measure", desc := "(II)Z" } : Jvm.MethodName)) ∈ lw_tbl := List.mem_of_getElem? (i := 688) (by decide +kernel)
set_option maxRecDepth 50000 in
theorem qw_616 : (Jvm.Cond.code ({ cls := "RegressionCourt", name := "measure", desc := "(II)Z" } : Jvm.MethodName) prog_1_method_3_code (4 : Nat) (Option.some Jvm.ClassFile.FieldType.boolean)) ∈ lw_tbl := List.mem_of_getElem? (i := 689) rfl
theorem qw_617 : (Jvm.Cond.classLink "RegressionCourt" (102 : Nat) "java/lang/IndexOutOfBoundsException") ∈ lw_tbl := List.mem_of_getElem? (i := 690) (by decide +kernel)
theorem qw_618 : (Jvm.Cond.instantiable "java/lang/IndexOutOfBoundsException" (6 : Nat)) ∈ lw_tbl := List.mem_of_getElem? (i := 691) (by decide +kernel)
theorem qw_619 : (Jvm.Cond.castable "java/lang/IndexOutOfBoundsException" "java/lang/IndexOutOfBoundsException") ∈ lw_tbl := List.mem_of_getElem? (i := 692) (by decide +kernel)
theorem qw_620 : (Jvm.Cond.selects "java/lang/IndexOutOfBoundsException" ({ cls := "java/lang/Throwable", name := "fillInStackTrace", desc := "(I)Ljava/lang/Throwable;" } : Jvm.MethodName) ({ cls := "java/lang/Throwable", name := "fillInStackTrace", desc := "(I)Ljava/lang/Throwable;" } : Jvm.MethodName)) ∈ lw_tbl := List.mem_of_getElem? (i := 693) (by decide +kernel)
theorem qw_627 : (Jvm.Cond.methodLink "RegressionCourt" (106 : Nat) ({ cls := "java/lang/IndexOutOfBoundsException", name := "<init>", desc := "(Ljava/lang/String;)V" } : Jvm.MethodName)) ∈ lw_tbl := List.mem_of_getElem? (i := 700) (by decide +kernel)
theorem qw_628 : (Jvm.Cond.instanceMethod ({ cls := "java/lang/IndexOutOfBoundsException", name := "<init>", desc := "(Ljava/lang/String;)V" } : Jvm.MethodName)) ∈ lw_tbl := List.mem_of_getElem? (i := 701) (by decide +kernel)
set_option maxRecDepth 50000 in
theorem qw_629 : (Jvm.Cond.code ({ cls := "java/lang/IndexOutOfBoundsException", name := "<init>", desc := "(Ljava/lang/String;)V" } : Jvm.MethodName) prog_19_method_2_code (2 : Nat) (Option.none : Option Jvm.ClassFile.FieldType)) ∈ lw_tbl := List.mem_of_getElem? (i := 702) rfl
theorem qw_630 : (Jvm.Cond.methodLink "java/lang/IndexOutOfBoundsException" (7 : Nat) ({ cls := "java/lang/RuntimeException", name := "<init>", desc := "(Ljava/lang/String;)V" } : Jvm.MethodName)) ∈ lw_tbl := List.mem_of_getElem? (i := 703) (by decide +kernel)
theorem qw_634 : (Jvm.Cond.methodLinkNest "RegressionCourt" (113 : Nat) ({ cls := "RegressionCourt$Machine", name := "take", desc := "(I)V" } : Jvm.MethodName) "RegressionCourt") ∈ lw_tbl := List.mem_of_getElem? (i := 707) (by decide +kernel)
theorem qw_636 : (Jvm.Cond.instanceMethod ({ cls := "RegressionCourt$Machine", name := "take", desc := "(I)V" } : Jvm.MethodName)) ∈ lw_tbl := List.mem_of_getElem? (i := 709) (by decide +kernel)
set_option maxRecDepth 50000 in
theorem qw_637 : (Jvm.Cond.code ({ cls := "RegressionCourt$Machine", name := "take", desc := "(I)V" } : Jvm.MethodName) prog_5_method_2_code (2 : Nat) (Option.none : Option Jvm.ClassFile.FieldType)) ∈ lw_tbl := List.mem_of_getElem? (i := 710) rfl
theorem qw_638 : (Jvm.Cond.methodLink "RegressionCourt$Machine" (35 : Nat) ({ cls := "RegressionCourt$Machine", name := "drifts", desc := "()Z" } : Jvm.MethodName)) ∈ lw_tbl := List.mem_of_getElem? (i := 711) (by decide +kernel)
theorem qw_640 : (Jvm.Cond.instanceMethod ({ cls := "RegressionCourt$Machine", name := "drifts", desc := "()Z" } : Jvm.MethodName)) ∈ lw_tbl := List.mem_of_getElem? (i := 713) (by decide +kernel)
set_option maxRecDepth 50000 in
theorem qw_641 : (Jvm.Cond.code ({ cls := "RegressionCourt$Machine", name := "drifts", desc := "()Z" } : Jvm.MethodName) prog_5_method_3_code (3 : Nat) (Option.some Jvm.ClassFile.FieldType.boolean)) ∈ lw_tbl := List.mem_of_getElem? (i := 714) rfl
theorem qw_642 : (Jvm.Cond.methodLink "RegressionCourt$Machine" (39 : Nat) ({ cls := "java/lang/Math", name := "max", desc := "(II)I" } : Jvm.MethodName)) ∈ lw_tbl := List.mem_of_getElem? (i := 715) (by decide +kernel)
theorem qw_643 : (Jvm.Cond.methodLink "RegressionCourt$Machine" (45 : Nat) ({ cls := "java/lang/Math", name := "min", desc := "(II)I" } : Jvm.MethodName)) ∈ lw_tbl := List.mem_of_getElem? (i := 716) (by decide +kernel)
theorem qw_644 : (Jvm.Cond.methodLink "RegressionCourt" (117 : Nat) ({ cls := "RegressionCourt", name := "goOn", desc := "()V" } : Jvm.MethodName)) ∈ lw_tbl := List.mem_of_getElem? (i := 717) (by decide +kernel)
theorem qw_646 : (Jvm.Cond.instanceMethod ({ cls := "RegressionCourt", name := "goOn", desc := "()V" } : Jvm.MethodName)) ∈ lw_tbl := List.mem_of_getElem? (i := 719) (by decide +kernel)
set_option maxRecDepth 50000 in
theorem qw_647 : (Jvm.Cond.code ({ cls := "RegressionCourt", name := "goOn", desc := "()V" } : Jvm.MethodName) prog_1_method_40_code (3 : Nat) (Option.none : Option Jvm.ClassFile.FieldType)) ∈ lw_tbl := List.mem_of_getElem? (i := 720) rfl
theorem qw_648 : (Jvm.Cond.methodLink "RegressionCourt" (346 : Nat) ({ cls := "RegressionCourt", name := "bisectOnce", desc := "()Z" } : Jvm.MethodName)) ∈ lw_tbl := List.mem_of_getElem? (i := 721) (by decide +kernel)
theorem qw_650 : (Jvm.Cond.instanceMethod ({ cls := "RegressionCourt", name := "bisectOnce", desc := "()Z" } : Jvm.MethodName)) ∈ lw_tbl := List.mem_of_getElem? (i := 723) (by decide +kernel)
set_option maxRecDepth 50000 in
theorem qw_651 : (Jvm.Cond.code ({ cls := "RegressionCourt", name := "bisectOnce", desc := "()Z" } : Jvm.MethodName) prog_1_method_41_code (3 : Nat) (Option.some Jvm.ClassFile.FieldType.boolean)) ∈ lw_tbl := List.mem_of_getElem? (i := 724) rfl
theorem qw_652 : (Jvm.Cond.methodLinkNest "RegressionCourt" (349 : Nat) ({ cls := "RegressionCourt$Bisection", name := "probe", desc := "()I" } : Jvm.MethodName) "RegressionCourt") ∈ lw_tbl := List.mem_of_getElem? (i := 725) (by decide +kernel)
theorem qw_654 : (Jvm.Cond.instanceMethod ({ cls := "RegressionCourt$Bisection", name := "probe", desc := "()I" } : Jvm.MethodName)) ∈ lw_tbl := List.mem_of_getElem? (i := 727) (by decide +kernel)
set_option maxRecDepth 50000 in
theorem qw_655 : (Jvm.Cond.code ({ cls := "RegressionCourt$Bisection", name := "probe", desc := "()I" } : Jvm.MethodName) prog_2_method_4_code (1 : Nat) (Option.some Jvm.ClassFile.FieldType.int)) ∈ lw_tbl := List.mem_of_getElem? (i := 728) rfl
theorem qw_656 : (Jvm.Cond.methodLinkNest "RegressionCourt" (213 : Nat) ({ cls := "RegressionCourt$Bisection", name := "close", desc := "()V" } : Jvm.MethodName) "RegressionCourt") ∈ lw_tbl := List.mem_of_getElem? (i := 729) (by decide +kernel)
theorem qw_658 : (Jvm.Cond.instanceMethod ({ cls := "RegressionCourt$Bisection", name := "close", desc := "()V" } : Jvm.MethodName)) ∈ lw_tbl := List.mem_of_getElem? (i := 731) (by decide +kernel)
set_option maxRecDepth 50000 in
theorem qw_659 : (Jvm.Cond.code ({ cls := "RegressionCourt$Bisection", name := "close", desc := "()V" } : Jvm.MethodName) prog_2_method_3_code (1 : Nat) (Option.none : Option Jvm.ClassFile.FieldType)) ∈ lw_tbl := List.mem_of_getElem? (i := 732) rfl
theorem qw_660 : (Jvm.Cond.methodLinkNest "RegressionCourt" (352 : Nat) ({ cls := "RegressionCourt$Bisection", name := "narrow", desc := "(IZ)V" } : Jvm.MethodName) "RegressionCourt") ∈ lw_tbl := List.mem_of_getElem? (i := 733) (by decide +kernel)
theorem qw_662 : (Jvm.Cond.instanceMethod ({ cls := "RegressionCourt$Bisection", name := "narrow", desc := "(IZ)V" } : Jvm.MethodName)) ∈ lw_tbl := List.mem_of_getElem? (i := 735) (by decide +kernel)
set_option maxRecDepth 50000 in
theorem qw_663 : (Jvm.Cond.code ({ cls := "RegressionCourt$Bisection", name := "narrow", desc := "(IZ)V" } : Jvm.MethodName) prog_2_method_5_code (3 : Nat) (Option.none : Option Jvm.ClassFile.FieldType)) ∈ lw_tbl := List.mem_of_getElem? (i := 736) rfl
theorem qw_664 : (Jvm.Cond.methodLink "RegressionCourtLaw" (97 : Nat) ({ cls := "RegressionCourtLaw", name := "ofMachine", desc := "(LRegressionCourt;II[J)I" } : Jvm.MethodName)) ∈ lw_tbl := List.mem_of_getElem? (i := 737) (by decide +kernel)
theorem qw_665 : (Jvm.Cond.static ({ cls := "RegressionCourtLaw", name := "ofMachine", desc := "(LRegressionCourt;II[J)I" } : Jvm.MethodName)) ∈ lw_tbl := List.mem_of_getElem? (i := 738) (by decide +kernel)
set_option maxRecDepth 50000 in
theorem qw_666 : (Jvm.Cond.codeWith ({ cls := "RegressionCourtLaw", name := "ofMachine", desc := "(LRegressionCourt;II[J)I" } : Jvm.MethodName) method_5_code (5 : Nat) (Option.some Jvm.ClassFile.FieldType.int) [((0 : Nat), (10 : Nat), (13 : Nat), (21 : Nat)), ((0 : Nat), (10 : Nat), (17 : Nat), (13 : Nat))]) ∈ lw_tbl := List.mem_of_getElem? (i := 739) rfl
theorem qw_667 : (Jvm.Cond.methodLink "RegressionCourtLaw" (23 : Nat) ({ cls := "RegressionCourt", name := "ofMachine", desc := "(II)I" } : Jvm.MethodName)) ∈ lw_tbl := List.mem_of_getElem? (i := 740) (by decide +kernel)
theorem qw_668 : (Jvm.Cond.instanceMethod ({ cls := "RegressionCourt", name := "ofMachine", desc := "(II)I" } : Jvm.MethodName)) ∈ lw_tbl := List.mem_of_getElem? (i := 741) (by decide +kernel)
theorem qw_669 : (Jvm.Cond.selects "RegressionCourt" ({ cls := "RegressionCourt", name := "ofMachine", desc := "(II)I" } : Jvm.MethodName) ({ cls := "RegressionCourt", name := "ofMachine", desc := "(II)I" } : Jvm.MethodName)) ∈ lw_tbl := List.mem_of_getElem? (i := 742) (by decide +kernel)
set_option maxRecDepth 50000 in
theorem qw_670 : (Jvm.Cond.code ({ cls := "RegressionCourt", name := "ofMachine", desc := "(II)I" } : Jvm.MethodName) prog_1_method_4_code (3 : Nat) (Option.some Jvm.ClassFile.FieldType.int)) ∈ lw_tbl := List.mem_of_getElem? (i := 743) rfl
theorem qw_672 : (Jvm.Cond.methodLink "RegressionCourtLaw" (100 : Nat) ({ cls := "RegressionCourtLaw", name := "changes", desc := "(LRegressionCourt;I[J)I" } : Jvm.MethodName)) ∈ lw_tbl := List.mem_of_getElem? (i := 745) (by decide +kernel)
theorem qw_673 : (Jvm.Cond.static ({ cls := "RegressionCourtLaw", name := "changes", desc := "(LRegressionCourt;I[J)I" } : Jvm.MethodName)) ∈ lw_tbl := List.mem_of_getElem? (i := 746) (by decide +kernel)
set_option maxRecDepth 50000 in
theorem qw_674 : (Jvm.Cond.codeWith ({ cls := "RegressionCourtLaw", name := "changes", desc := "(LRegressionCourt;I[J)I" } : Jvm.MethodName) method_6_code (4 : Nat) (Option.some Jvm.ClassFile.FieldType.int) [((0 : Nat), (9 : Nat), (12 : Nat), (13 : Nat)), ((0 : Nat), (9 : Nat), (15 : Nat), (15 : Nat))]) ∈ lw_tbl := List.mem_of_getElem? (i := 747) rfl
theorem qw_675 : (Jvm.Cond.methodLink "RegressionCourtLaw" (26 : Nat) ({ cls := "RegressionCourt", name := "changes", desc := "(I)I" } : Jvm.MethodName)) ∈ lw_tbl := List.mem_of_getElem? (i := 748) (by decide +kernel)
theorem qw_676 : (Jvm.Cond.instanceMethod ({ cls := "RegressionCourt", name := "changes", desc := "(I)I" } : Jvm.MethodName)) ∈ lw_tbl := List.mem_of_getElem? (i := 749) (by decide +kernel)
theorem qw_677 : (Jvm.Cond.selects "RegressionCourt" ({ cls := "RegressionCourt", name := "changes", desc := "(I)I" } : Jvm.MethodName) ({ cls := "RegressionCourt", name := "changes", desc := "(I)I" } : Jvm.MethodName)) ∈ lw_tbl := List.mem_of_getElem? (i := 750) (by decide +kernel)
set_option maxRecDepth 50000 in
theorem qw_678 : (Jvm.Cond.code ({ cls := "RegressionCourt", name := "changes", desc := "(I)I" } : Jvm.MethodName) prog_1_method_5_code (3 : Nat) (Option.some Jvm.ClassFile.FieldType.int)) ∈ lw_tbl := List.mem_of_getElem? (i := 751) rfl
theorem qw_681 : (Jvm.Cond.methodLink "RegressionCourtLaw" (104 : Nat) ({ cls := "RegressionCourtLaw", name := "run", desc := "(LRegressionCourt;III[J)I" } : Jvm.MethodName)) ∈ lw_tbl := List.mem_of_getElem? (i := 754) (by decide +kernel)
theorem qw_682 : (Jvm.Cond.static ({ cls := "RegressionCourtLaw", name := "run", desc := "(LRegressionCourt;III[J)I" } : Jvm.MethodName)) ∈ lw_tbl := List.mem_of_getElem? (i := 755) (by decide +kernel)
set_option maxRecDepth 50000 in
theorem qw_683 : (Jvm.Cond.codeWith ({ cls := "RegressionCourtLaw", name := "run", desc := "(LRegressionCourt;III[J)I" } : Jvm.MethodName) method_7_code (6 : Nat) (Option.some Jvm.ClassFile.FieldType.int) [((0 : Nat), (12 : Nat), (15 : Nat), (21 : Nat)), ((0 : Nat), (12 : Nat), (19 : Nat), (13 : Nat)), ((0 : Nat), (12 : Nat), (23 : Nat), (15 : Nat))]) ∈ lw_tbl := List.mem_of_getElem? (i := 756) rfl
theorem qw_684 : (Jvm.Cond.methodLink "RegressionCourtLaw" (30 : Nat) ({ cls := "RegressionCourt", name := "run", desc := "(III)I" } : Jvm.MethodName)) ∈ lw_tbl := List.mem_of_getElem? (i := 757) (by decide +kernel)
theorem qw_685 : (Jvm.Cond.instanceMethod ({ cls := "RegressionCourt", name := "run", desc := "(III)I" } : Jvm.MethodName)) ∈ lw_tbl := List.mem_of_getElem? (i := 758) (by decide +kernel)
theorem qw_686 : (Jvm.Cond.selects "RegressionCourt" ({ cls := "RegressionCourt", name := "run", desc := "(III)I" } : Jvm.MethodName) ({ cls := "RegressionCourt", name := "run", desc := "(III)I" } : Jvm.MethodName)) ∈ lw_tbl := List.mem_of_getElem? (i := 759) (by decide +kernel)
set_option maxRecDepth 50000 in
theorem qw_687 : (Jvm.Cond.code ({ cls := "RegressionCourt", name := "run", desc := "(III)I" } : Jvm.MethodName) prog_1_method_6_code (6 : Nat) (Option.some Jvm.ClassFile.FieldType.int)) ∈ lw_tbl := List.mem_of_getElem? (i := 760) rfl
theorem qw_688 : (Jvm.Cond.methodLink "RegressionCourt" (134 : Nat) ({ cls := "RegressionCourt", name := "isNoChange", desc := "(I)Z" } : Jvm.MethodName)) ∈ lw_tbl := List.mem_of_getElem? (i := 761) (by decide +kernel)
theorem qw_690 : (Jvm.Cond.instanceMethod ({ cls := "RegressionCourt", name := "isNoChange", desc := "(I)Z" } : Jvm.MethodName)) ∈ lw_tbl := List.mem_of_getElem? (i := 763) (by decide +kernel)
set_option maxRecDepth 50000 in
theorem qw_691 : (Jvm.Cond.code ({ cls := "RegressionCourt", name := "isNoChange", desc := "(I)Z" } : Jvm.MethodName) prog_1_method_27_code (2 : Nat) (Option.some Jvm.ClassFile.FieldType.boolean)) ∈ lw_tbl := List.mem_of_getElem? (i := 764) rfl
theorem qw_695 : (Jvm.Cond.methodLinkNest "RegressionCourt" (148 : Nat) ({ cls := "RegressionCourt$Run", name := "<init>", desc := "(ILRegressionCourt$Machine;I)V" } : Jvm.MethodName) "RegressionCourt") ∈ lw_tbl := List.mem_of_getElem? (i := 768) (by decide +kernel)
theorem qw_696 : (Jvm.Cond.instanceMethod ({ cls := "RegressionCourt$Run", name := "<init>", desc := "(ILRegressionCourt$Machine;I)V" } : Jvm.MethodName)) ∈ lw_tbl := List.mem_of_getElem? (i := 769) (by decide +kernel)
set_option maxRecDepth 50000 in
theorem qw_697 : (Jvm.Cond.code ({ cls := "RegressionCourt$Run", name := "<init>", desc := "(ILRegressionCourt$Machine;I)V" } : Jvm.MethodName) prog_6_method_1_code (4 : Nat) (Option.none : Option Jvm.ClassFile.FieldType)) ∈ lw_tbl := List.mem_of_getElem? (i := 770) rfl
theorem qw_698 : (Jvm.Cond.methodLink "RegressionCourt$Run" (1 : Nat) ({ cls := "java/lang/Object", name := "<init>", desc := "()V" } : Jvm.MethodName)) ∈ lw_tbl := List.mem_of_getElem? (i := 771) (by decide +kernel)
theorem qw_699 : (Jvm.Cond.methodLinkNest "RegressionCourt$Run" (24 : Nat) ({ cls := "RegressionCourt$Machine", name := "worthOf", desc := "(I)I" } : Jvm.MethodName) "RegressionCourt") ∈ lw_tbl := List.mem_of_getElem? (i := 772) (by decide +kernel)
theorem qw_701 : (Jvm.Cond.instanceMethod ({ cls := "RegressionCourt$Machine", name := "worthOf", desc := "(I)I" } : Jvm.MethodName)) ∈ lw_tbl := List.mem_of_getElem? (i := 774) (by decide +kernel)
set_option maxRecDepth 50000 in
theorem qw_702 : (Jvm.Cond.code ({ cls := "RegressionCourt$Machine", name := "worthOf", desc := "(I)I" } : Jvm.MethodName) prog_5_method_4_code (2 : Nat) (Option.some Jvm.ClassFile.FieldType.int)) ∈ lw_tbl := List.mem_of_getElem? (i := 775) rfl
theorem qw_703 : (Jvm.Cond.fieldLink "RegressionCourt$Run" (13 : Nat) "RegressionCourt$Run" "change" "I") ∈ lw_tbl := List.mem_of_getElem? (i := 776) (by decide +kernel)
theorem qw_704 : (Jvm.Cond.fieldLinkNest "RegressionCourt" (302 : Nat) "RegressionCourt$Run" "change" "I" "RegressionCourt") ∈ lw_tbl := List.mem_of_getElem? (i := 777) (by decide +kernel)
theorem qw_705 : (Jvm.Cond.fieldLink "RegressionCourt$Run" (17 : Nat) "RegressionCourt$Run" "machine" "LRegressionCourt$Machine;") ∈ lw_tbl := List.mem_of_getElem? (i := 778) (by decide +kernel)
theorem qw_706 : (Jvm.Cond.fieldLinkNest "RegressionCourt$Change" (49 : Nat) "RegressionCourt$Run" "machine" "LRegressionCourt$Machine;" "RegressionCourt") ∈ lw_tbl := List.mem_of_getElem? (i := 779) (by decide +kernel)
theorem qw_707 : (Jvm.Cond.fieldLinkNest "RegressionCourt" (304 : Nat) "RegressionCourt$Run" "machine" "LRegressionCourt$Machine;" "RegressionCourt") ∈ lw_tbl := List.mem_of_getElem? (i := 780) (by decide +kernel)
theorem qw_708 : (Jvm.Cond.fieldLink "RegressionCourt$Run" (21 : Nat) "RegressionCourt$Run" "time" "I") ∈ lw_tbl := List.mem_of_getElem? (i := 781) (by decide +kernel)
theorem qw_709 : (Jvm.Cond.fieldLinkNest "RegressionCourt" (310 : Nat) "RegressionCourt$Run" "time" "I" "RegressionCourt") ∈ lw_tbl := List.mem_of_getElem? (i := 782) (by decide +kernel)
theorem qw_710 : (Jvm.Cond.fieldLink "RegressionCourt$Run" (30 : Nat) "RegressionCourt$Run" "worth" "I") ∈ lw_tbl := List.mem_of_getElem? (i := 783) (by decide +kernel)
theorem qw_711 : (Jvm.Cond.fieldLinkNest "RegressionCourt$Sample" (40 : Nat) "RegressionCourt$Run" "worth" "I" "RegressionCourt") ∈ lw_tbl := List.mem_of_getElem? (i := 784) (by decide +kernel)
theorem qw_712 : (Jvm.Cond.fieldLinkNest "RegressionCourt" (158 : Nat) "RegressionCourt$Run" "worth" "I" "RegressionCourt") ∈ lw_tbl := List.mem_of_getElem? (i := 785) (by decide +kernel)
theorem qw_713 : (Jvm.Cond.fieldLink "RegressionCourt$Run" (7 : Nat) "RegressionCourt$Run" "isStruck" "Z") ∈ lw_tbl := List.mem_of_getElem? (i := 786) (by decide +kernel)
theorem qw_714 : (Jvm.Cond.fieldLinkNest "RegressionCourt" (163 : Nat) "RegressionCourt$Run" "isStruck" "Z" "RegressionCourt") ∈ lw_tbl := List.mem_of_getElem? (i := 787) (by decide +kernel)
theorem qw_726 : (Jvm.Cond.methodLink "RegressionCourtLaw" (108 : Nat) ({ cls := "RegressionCourtLaw", name := "strike", desc := "(LRegressionCourt;I[J)I" } : Jvm.MethodName)) ∈ lw_tbl := List.mem_of_getElem? (i := 799) (by decide +kernel)
theorem qw_727 : (Jvm.Cond.static ({ cls := "RegressionCourtLaw", name := "strike", desc := "(LRegressionCourt;I[J)I" } : Jvm.MethodName)) ∈ lw_tbl := List.mem_of_getElem? (i := 800) (by decide +kernel)
set_option maxRecDepth 50000 in
theorem qw_728 : (Jvm.Cond.codeWith ({ cls := "RegressionCourtLaw", name := "strike", desc := "(LRegressionCourt;I[J)I" } : Jvm.MethodName) method_8_code (4 : Nat) (Option.some Jvm.ClassFile.FieldType.int) [((0 : Nat), (9 : Nat), (12 : Nat), (21 : Nat)), ((0 : Nat), (9 : Nat), (15 : Nat), (15 : Nat))]) ∈ lw_tbl := List.mem_of_getElem? (i := 801) rfl
theorem qw_729 : (Jvm.Cond.methodLink "RegressionCourtLaw" (34 : Nat) ({ cls := "RegressionCourt", name := "strike", desc := "(I)I" } : Jvm.MethodName)) ∈ lw_tbl := List.mem_of_getElem? (i := 802) (by decide +kernel)
theorem qw_730 : (Jvm.Cond.instanceMethod ({ cls := "RegressionCourt", name := "strike", desc := "(I)I" } : Jvm.MethodName)) ∈ lw_tbl := List.mem_of_getElem? (i := 803) (by decide +kernel)
theorem qw_731 : (Jvm.Cond.selects "RegressionCourt" ({ cls := "RegressionCourt", name := "strike", desc := "(I)I" } : Jvm.MethodName) ({ cls := "RegressionCourt", name := "strike", desc := "(I)I" } : Jvm.MethodName)) ∈ lw_tbl := List.mem_of_getElem? (i := 804) (by decide +kernel)
set_option maxRecDepth 50000 in
theorem qw_732 : (Jvm.Cond.code ({ cls := "RegressionCourt", name := "strike", desc := "(I)I" } : Jvm.MethodName) prog_1_method_7_code (3 : Nat) (Option.some Jvm.ClassFile.FieldType.int)) ∈ lw_tbl := List.mem_of_getElem? (i := 805) rfl
theorem qw_735 : (Jvm.Cond.methodLink "RegressionCourtLaw" (111 : Nat) ({ cls := "RegressionCourtLaw", name := "ofRun", desc := "(LRegressionCourt;II[J)I" } : Jvm.MethodName)) ∈ lw_tbl := List.mem_of_getElem? (i := 808) (by decide +kernel)
theorem qw_736 : (Jvm.Cond.static ({ cls := "RegressionCourtLaw", name := "ofRun", desc := "(LRegressionCourt;II[J)I" } : Jvm.MethodName)) ∈ lw_tbl := List.mem_of_getElem? (i := 809) (by decide +kernel)
set_option maxRecDepth 50000 in
theorem qw_737 : (Jvm.Cond.codeWith ({ cls := "RegressionCourtLaw", name := "ofRun", desc := "(LRegressionCourt;II[J)I" } : Jvm.MethodName) method_9_code (5 : Nat) (Option.some Jvm.ClassFile.FieldType.int) [((0 : Nat), (10 : Nat), (13 : Nat), (21 : Nat)), ((0 : Nat), (10 : Nat), (17 : Nat), (13 : Nat))]) ∈ lw_tbl := List.mem_of_getElem? (i := 810) rfl
theorem qw_738 : (Jvm.Cond.methodLink "RegressionCourtLaw" (37 : Nat) ({ cls := "RegressionCourt", name := "ofRun", desc := "(II)I" } : Jvm.MethodName)) ∈ lw_tbl := List.mem_of_getElem? (i := 811) (by decide +kernel)
theorem qw_739 : (Jvm.Cond.instanceMethod ({ cls := "RegressionCourt", name := "ofRun", desc := "(II)I" } : Jvm.MethodName)) ∈ lw_tbl := List.mem_of_getElem? (i := 812) (by decide +kernel)
theorem qw_740 : (Jvm.Cond.selects "RegressionCourt" ({ cls := "RegressionCourt", name := "ofRun", desc := "(II)I" } : Jvm.MethodName) ({ cls := "RegressionCourt", name := "ofRun", desc := "(II)I" } : Jvm.MethodName)) ∈ lw_tbl := List.mem_of_getElem? (i := 813) (by decide +kernel)
set_option maxRecDepth 50000 in
theorem qw_741 : (Jvm.Cond.code ({ cls := "RegressionCourt", name := "ofRun", desc := "(II)I" } : Jvm.MethodName) prog_1_method_8_code (3 : Nat) (Option.some Jvm.ClassFile.FieldType.int)) ∈ lw_tbl := List.mem_of_getElem? (i := 814) rfl
theorem qw_742 : (Jvm.Cond.methodLink "RegressionCourtLaw" (114 : Nat) ({ cls := "RegressionCourtLaw", name := "ofChange", desc := "(LRegressionCourt;II[J)I" } : Jvm.MethodName)) ∈ lw_tbl := List.mem_of_getElem? (i := 815) (by decide +kernel)
theorem qw_743 : (Jvm.Cond.static ({ cls := "RegressionCourtLaw", name := "ofChange", desc := "(LRegressionCourt;II[J)I" } : Jvm.MethodName)) ∈ lw_tbl := List.mem_of_getElem? (i := 816) (by decide +kernel)
set_option maxRecDepth 50000 in
theorem qw_744 : (Jvm.Cond.codeWith ({ cls := "RegressionCourtLaw", name := "ofChange", desc := "(LRegressionCourt;II[J)I" } : Jvm.MethodName) method_10_code (5 : Nat) (Option.some Jvm.ClassFile.FieldType.int) [((0 : Nat), (10 : Nat), (13 : Nat), (21 : Nat)), ((0 : Nat), (10 : Nat), (17 : Nat), (13 : Nat))]) ∈ lw_tbl := List.mem_of_getElem? (i := 817) rfl
theorem qw_745 : (Jvm.Cond.methodLink "RegressionCourtLaw" (40 : Nat) ({ cls := "RegressionCourt", name := "ofChange", desc := "(II)I" } : Jvm.MethodName)) ∈ lw_tbl := List.mem_of_getElem? (i := 818) (by decide +kernel)
theorem qw_746 : (Jvm.Cond.instanceMethod ({ cls := "RegressionCourt", name := "ofChange", desc := "(II)I" } : Jvm.MethodName)) ∈ lw_tbl := List.mem_of_getElem? (i := 819) (by decide +kernel)
theorem qw_747 : (Jvm.Cond.selects "RegressionCourt" ({ cls := "RegressionCourt", name := "ofChange", desc := "(II)I" } : Jvm.MethodName) ({ cls := "RegressionCourt", name := "ofChange", desc := "(II)I" } : Jvm.MethodName)) ∈ lw_tbl := List.mem_of_getElem? (i := 820) (by decide +kernel)
set_option maxRecDepth 50000 in
theorem qw_748 : (Jvm.Cond.code ({ cls := "RegressionCourt", name := "ofChange", desc := "(II)I" } : Jvm.MethodName) prog_1_method_9_code (3 : Nat) (Option.some Jvm.ClassFile.FieldType.int)) ∈ lw_tbl := List.mem_of_getElem? (i := 821) rfl
theorem qw_750 : (Jvm.Cond.methodLink "RegressionCourtLaw" (117 : Nat) ({ cls := "RegressionCourtLaw", name := "verdict", desc := "(LRegressionCourt;III[J)I" } : Jvm.MethodName)) ∈ lw_tbl := List.mem_of_getElem? (i := 823) (by decide +kernel)
theorem qw_751 : (Jvm.Cond.static ({ cls := "RegressionCourtLaw", name := "verdict", desc := "(LRegressionCourt;III[J)I" } : Jvm.MethodName)) ∈ lw_tbl := List.mem_of_getElem? (i := 824) (by decide +kernel)
set_option maxRecDepth 50000 in
theorem qw_752 : (Jvm.Cond.codeWith ({ cls := "RegressionCourtLaw", name := "verdict", desc := "(LRegressionCourt;III[J)I" } : Jvm.MethodName) method_11_code (6 : Nat) (Option.some Jvm.ClassFile.FieldType.int) [((0 : Nat), (12 : Nat), (15 : Nat), (21 : Nat)), ((0 : Nat), (12 : Nat), (19 : Nat), (13 : Nat))]) ∈ lw_tbl := List.mem_of_getElem? (i := 825) rfl
theorem qw_753 : (Jvm.Cond.methodLink "RegressionCourtLaw" (43 : Nat) ({ cls := "RegressionCourt", name := "verdict", desc := "(III)I" } : Jvm.MethodName)) ∈ lw_tbl := List.mem_of_getElem? (i := 826) (by decide +kernel)
theorem qw_754 : (Jvm.Cond.instanceMethod ({ cls := "RegressionCourt", name := "verdict", desc := "(III)I" } : Jvm.MethodName)) ∈ lw_tbl := List.mem_of_getElem? (i := 827) (by decide +kernel)
theorem qw_755 : (Jvm.Cond.selects "RegressionCourt" ({ cls := "RegressionCourt", name := "verdict", desc := "(III)I" } : Jvm.MethodName) ({ cls := "RegressionCourt", name := "verdict", desc := "(III)I" } : Jvm.MethodName)) ∈ lw_tbl := List.mem_of_getElem? (i := 828) (by decide +kernel)
set_option maxRecDepth 50000 in
theorem qw_756 : (Jvm.Cond.code ({ cls := "RegressionCourt", name := "verdict", desc := "(III)I" } : Jvm.MethodName) prog_1_method_10_code (4 : Nat) (Option.some Jvm.ClassFile.FieldType.int)) ∈ lw_tbl := List.mem_of_getElem? (i := 829) rfl
theorem qw_757 : (Jvm.Cond.methodLink "RegressionCourtLaw" (120 : Nat) ({ cls := "RegressionCourtLaw", name := "doubt", desc := "(LRegressionCourt;II[D)I" } : Jvm.MethodName)) ∈ lw_tbl := List.mem_of_getElem? (i := 830) (by decide +kernel)
theorem qw_758 : (Jvm.Cond.static ({ cls := "RegressionCourtLaw", name := "doubt", desc := "(LRegressionCourt;II[D)I" } : Jvm.MethodName)) ∈ lw_tbl := List.mem_of_getElem? (i := 831) (by decide +kernel)
set_option maxRecDepth 50000 in
theorem qw_759 : (Jvm.Cond.codeWith ({ cls := "RegressionCourtLaw", name := "doubt", desc := "(LRegressionCourt;II[D)I" } : Jvm.MethodName) method_12_code (5 : Nat) (Option.some Jvm.ClassFile.FieldType.int) [((0 : Nat), (9 : Nat), (12 : Nat), (21 : Nat))]) ∈ lw_tbl := List.mem_of_getElem? (i := 832) rfl
theorem qw_760 : (Jvm.Cond.methodLink "RegressionCourtLaw" (46 : Nat) ({ cls := "RegressionCourt", name := "doubt", desc := "(II)D" } : Jvm.MethodName)) ∈ lw_tbl := List.mem_of_getElem? (i := 833) (by decide +kernel)
theorem qw_761 : (Jvm.Cond.instanceMethod ({ cls := "RegressionCourt", name := "doubt", desc := "(II)D" } : Jvm.MethodName)) ∈ lw_tbl := List.mem_of_getElem? (i := 834) (by decide +kernel)
theorem qw_762 : (Jvm.Cond.selects "RegressionCourt" ({ cls := "RegressionCourt", name := "doubt", desc := "(II)D" } : Jvm.MethodName) ({ cls := "RegressionCourt", name := "doubt", desc := "(II)D" } : Jvm.MethodName)) ∈ lw_tbl := List.mem_of_getElem? (i := 835) (by decide +kernel)
set_option maxRecDepth 50000 in
theorem qw_763 : (Jvm.Cond.code ({ cls := "RegressionCourt", name := "doubt", desc := "(II)D" } : Jvm.MethodName) prog_1_method_11_code (3 : Nat) (Option.some Jvm.ClassFile.FieldType.double)) ∈ lw_tbl := List.mem_of_getElem? (i := 836) rfl
theorem qw_764 : (Jvm.Cond.methodLinkNest "RegressionCourt" (186 : Nat) ({ cls := "RegressionCourt$Duel", name := "shareOfHigh", desc := "()D" } : Jvm.MethodName) "RegressionCourt") ∈ lw_tbl := List.mem_of_getElem? (i := 837) (by decide +kernel)
theorem qw_766 : (Jvm.Cond.instanceMethod ({ cls := "RegressionCourt$Duel", name := "shareOfHigh", desc := "()D" } : Jvm.MethodName)) ∈ lw_tbl := List.mem_of_getElem? (i := 839) (by decide +kernel)
set_option maxRecDepth 50000 in
theorem qw_767 : (Jvm.Cond.code ({ cls := "RegressionCourt$Duel", name := "shareOfHigh", desc := "()D" } : Jvm.MethodName) prog_4_method_10_code (1 : Nat) (Option.some Jvm.ClassFile.FieldType.double)) ∈ lw_tbl := List.mem_of_getElem? (i := 840) rfl
theorem qw_768 : (Jvm.Cond.methodLink "RegressionCourtLaw" (124 : Nat) ({ cls := "RegressionCourtLaw", name := "rule", desc := "(LRegressionCourt;II[J)I" } : Jvm.MethodName)) ∈ lw_tbl := List.mem_of_getElem? (i := 841) (by decide +kernel)
theorem qw_769 : (Jvm.Cond.static ({ cls := "RegressionCourtLaw", name := "rule", desc := "(LRegressionCourt;II[J)I" } : Jvm.MethodName)) ∈ lw_tbl := List.mem_of_getElem? (i := 842) (by decide +kernel)
set_option maxRecDepth 50000 in
theorem qw_770 : (Jvm.Cond.codeWith ({ cls := "RegressionCourtLaw", name := "rule", desc := "(LRegressionCourt;II[J)I" } : Jvm.MethodName) method_13_code (5 : Nat) (Option.some Jvm.ClassFile.FieldType.int) [((0 : Nat), (10 : Nat), (13 : Nat), (13 : Nat))]) ∈ lw_tbl := List.mem_of_getElem? (i := 843) rfl
theorem qw_771 : (Jvm.Cond.methodLink "RegressionCourtLaw" (50 : Nat) ({ cls := "RegressionCourt", name := "rule", desc := "(II)I" } : Jvm.MethodName)) ∈ lw_tbl := List.mem_of_getElem? (i := 844) (by decide +kernel)
theorem qw_772 : (Jvm.Cond.instanceMethod ({ cls := "RegressionCourt", name := "rule", desc := "(II)I" } : Jvm.MethodName)) ∈ lw_tbl := List.mem_of_getElem? (i := 845) (by decide +kernel)
theorem qw_773 : (Jvm.Cond.selects "RegressionCourt" ({ cls := "RegressionCourt", name := "rule", desc := "(II)I" } : Jvm.MethodName) ({ cls := "RegressionCourt", name := "rule", desc := "(II)I" } : Jvm.MethodName)) ∈ lw_tbl := List.mem_of_getElem? (i := 846) (by decide +kernel)
set_option maxRecDepth 50000 in
theorem qw_774 : (Jvm.Cond.code ({ cls := "RegressionCourt", name := "rule", desc := "(II)I" } : Jvm.MethodName) prog_1_method_12_code (4 : Nat) (Option.some Jvm.ClassFile.FieldType.int)) ∈ lw_tbl := List.mem_of_getElem? (i := 847) rfl
theorem qw_776 : (Jvm.Cond.methodLink "RegressionCourtLaw" (127 : Nat) ({ cls := "RegressionCourtLaw", name := "begin", desc := "(LRegressionCourt;II[J)I" } : Jvm.MethodName)) ∈ lw_tbl := List.mem_of_getElem? (i := 849) (by decide +kernel)
theorem qw_777 : (Jvm.Cond.static ({ cls := "RegressionCourtLaw", name := "begin", desc := "(LRegressionCourt;II[J)I" } : Jvm.MethodName)) ∈ lw_tbl := List.mem_of_getElem? (i := 850) (by decide +kernel)
set_option maxRecDepth 50000 in
theorem qw_778 : (Jvm.Cond.codeWith ({ cls := "RegressionCourtLaw", name := "begin", desc := "(LRegressionCourt;II[J)I" } : Jvm.MethodName) method_14_code (5 : Nat) (Option.some Jvm.ClassFile.FieldType.int) [((0 : Nat), (10 : Nat), (13 : Nat), (21 : Nat)), ((0 : Nat), (10 : Nat), (17 : Nat), (13 : Nat)), ((0 : Nat), (10 : Nat), (21 : Nat), (15 : Nat))]) ∈ lw_tbl := List.mem_of_getElem? (i := 851) rfl
theorem qw_779 : (Jvm.Cond.methodLink "RegressionCourtLaw" (53 : Nat) ({ cls := "RegressionCourt", name := "begin", desc := "(II)I" } : Jvm.MethodName)) ∈ lw_tbl := List.mem_of_getElem? (i := 852) (by decide +kernel)
theorem qw_780 : (Jvm.Cond.instanceMethod ({ cls := "RegressionCourt", name := "begin", desc := "(II)I" } : Jvm.MethodName)) ∈ lw_tbl := List.mem_of_getElem? (i := 853) (by decide +kernel)
theorem qw_781 : (Jvm.Cond.selects "RegressionCourt" ({ cls := "RegressionCourt", name := "begin", desc := "(II)I" } : Jvm.MethodName) ({ cls := "RegressionCourt", name := "begin", desc := "(II)I" } : Jvm.MethodName)) ∈ lw_tbl := List.mem_of_getElem? (i := 854) (by decide +kernel)
set_option maxRecDepth 50000 in
theorem qw_782 : (Jvm.Cond.code ({ cls := "RegressionCourt", name := "begin", desc := "(II)I" } : Jvm.MethodName) prog_1_method_13_code (3 : Nat) (Option.some Jvm.ClassFile.FieldType.int)) ∈ lw_tbl := List.mem_of_getElem? (i := 855) rfl
theorem qw_785 : (Jvm.Cond.methodLinkNest "RegressionCourt" (199 : Nat) ({ cls := "RegressionCourt$Bisection", name := "open", desc := "(II)V" } : Jvm.MethodName) "RegressionCourt") ∈ lw_tbl := List.mem_of_getElem? (i := 858) (by decide +kernel)
theorem qw_787 : (Jvm.Cond.instanceMethod ({ cls := "RegressionCourt$Bisection", name := "open", desc := "(II)V" } : Jvm.MethodName)) ∈ lw_tbl := List.mem_of_getElem? (i := 860) (by decide +kernel)
set_option maxRecDepth 50000 in
theorem qw_788 : (Jvm.Cond.code ({ cls := "RegressionCourt$Bisection", name := "open", desc := "(II)V" } : Jvm.MethodName) prog_2_method_2_code (3 : Nat) (Option.none : Option Jvm.ClassFile.FieldType)) ∈ lw_tbl := List.mem_of_getElem? (i := 861) rfl
theorem qw_789 : (Jvm.Cond.methodLink "RegressionCourtLaw" (130 : Nat) ({ cls := "RegressionCourtLaw", name := "drop", desc := "(LRegressionCourt;[J)I" } : Jvm.MethodName)) ∈ lw_tbl := List.mem_of_getElem? (i := 862) (by decide +kernel)
theorem qw_790 : (Jvm.Cond.static ({ cls := "RegressionCourtLaw", name := "drop", desc := "(LRegressionCourt;[J)I" } : Jvm.MethodName)) ∈ lw_tbl := List.mem_of_getElem? (i := 863) (by decide +kernel)
set_option maxRecDepth 50000 in
theorem qw_791 : (Jvm.Cond.codeWith ({ cls := "RegressionCourtLaw", name := "drop", desc := "(LRegressionCourt;[J)I" } : Jvm.MethodName) method_15_code (3 : Nat) (Option.some Jvm.ClassFile.FieldType.int) [((0 : Nat), (8 : Nat), (11 : Nat), (15 : Nat))]) ∈ lw_tbl := List.mem_of_getElem? (i := 864) rfl
theorem qw_792 : (Jvm.Cond.methodLink "RegressionCourtLaw" (56 : Nat) ({ cls := "RegressionCourt", name := "drop", desc := "()I" } : Jvm.MethodName)) ∈ lw_tbl := List.mem_of_getElem? (i := 865) (by decide +kernel)
theorem qw_793 : (Jvm.Cond.instanceMethod ({ cls := "RegressionCourt", name := "drop", desc := "()I" } : Jvm.MethodName)) ∈ lw_tbl := List.mem_of_getElem? (i := 866) (by decide +kernel)
theorem qw_794 : (Jvm.Cond.selects "RegressionCourt" ({ cls := "RegressionCourt", name := "drop", desc := "()I" } : Jvm.MethodName) ({ cls := "RegressionCourt", name := "drop", desc := "()I" } : Jvm.MethodName)) ∈ lw_tbl := List.mem_of_getElem? (i := 867) (by decide +kernel)
set_option maxRecDepth 50000 in
theorem qw_795 : (Jvm.Cond.code ({ cls := "RegressionCourt", name := "drop", desc := "()I" } : Jvm.MethodName) prog_1_method_14_code (2 : Nat) (Option.some Jvm.ClassFile.FieldType.int)) ∈ lw_tbl := List.mem_of_getElem? (i := 868) rfl
theorem qw_797 : (Jvm.Cond.methodLink "RegressionCourtLaw" (134 : Nat) ({ cls := "RegressionCourtLaw", name := "ofCase", desc := "(LRegressionCourt;I[J)I" } : Jvm.MethodName)) ∈ lw_tbl := List.mem_of_getElem? (i := 870) (by decide +kernel)
theorem qw_798 : (Jvm.Cond.static ({ cls := "RegressionCourtLaw", name := "ofCase", desc := "(LRegressionCourt;I[J)I" } : Jvm.MethodName)) ∈ lw_tbl := List.mem_of_getElem? (i := 871) (by decide +kernel)
set_option maxRecDepth 50000 in
theorem qw_799 : (Jvm.Cond.codeWith ({ cls := "RegressionCourtLaw", name := "ofCase", desc := "(LRegressionCourt;I[J)I" } : Jvm.MethodName) method_16_code (4 : Nat) (Option.some Jvm.ClassFile.FieldType.int) [((0 : Nat), (9 : Nat), (12 : Nat), (13 : Nat))]) ∈ lw_tbl := List.mem_of_getElem? (i := 872) rfl
theorem qw_800 : (Jvm.Cond.methodLink "RegressionCourtLaw" (60 : Nat) ({ cls := "RegressionCourt", name := "ofCase", desc := "(I)I" } : Jvm.MethodName)) ∈ lw_tbl := List.mem_of_getElem? (i := 873) (by decide +kernel)
theorem qw_801 : (Jvm.Cond.instanceMethod ({ cls := "RegressionCourt", name := "ofCase", desc := "(I)I" } : Jvm.MethodName)) ∈ lw_tbl := List.mem_of_getElem? (i := 874) (by decide +kernel)
theorem qw_802 : (Jvm.Cond.selects "RegressionCourt" ({ cls := "RegressionCourt", name := "ofCase", desc := "(I)I" } : Jvm.MethodName) ({ cls := "RegressionCourt", name := "ofCase", desc := "(I)I" } : Jvm.MethodName)) ∈ lw_tbl := List.mem_of_getElem? (i := 875) (by decide +kernel)
set_option maxRecDepth 50000 in
theorem qw_803 : (Jvm.Cond.code ({ cls := "RegressionCourt", name := "ofCase", desc := "(I)I" } : Jvm.MethodName) prog_1_method_15_code (2 : Nat) (Option.some Jvm.ClassFile.FieldType.int)) ∈ lw_tbl := List.mem_of_getElem? (i := 876) rfl
theorem qw_804 : (Jvm.Cond.methodLink "RegressionCourtLaw" (141 : Nat) ({ cls := "RegressionCourtLaw", name := "excuse", desc := "(LRegressionCourt;II[J)I" } : Jvm.MethodName)) ∈ lw_tbl := List.mem_of_getElem? (i := 877) (by decide +kernel)
theorem qw_805 : (Jvm.Cond.static ({ cls := "RegressionCourtLaw", name := "excuse", desc := "(LRegressionCourt;II[J)I" } : Jvm.MethodName)) ∈ lw_tbl := List.mem_of_getElem? (i := 878) (by decide +kernel)
set_option maxRecDepth 50000 in
theorem qw_806 : (Jvm.Cond.codeWith ({ cls := "RegressionCourtLaw", name := "excuse", desc := "(LRegressionCourt;II[J)I" } : Jvm.MethodName) method_17_code (5 : Nat) (Option.some Jvm.ClassFile.FieldType.int) [((0 : Nat), (10 : Nat), (13 : Nat), (21 : Nat)), ((0 : Nat), (10 : Nat), (17 : Nat), (13 : Nat)), ((0 : Nat), (10 : Nat), (21 : Nat), (15 : Nat))]) ∈ lw_tbl := List.mem_of_getElem? (i := 879) rfl
theorem qw_807 : (Jvm.Cond.methodLink "RegressionCourtLaw" (63 : Nat) ({ cls := "RegressionCourt", name := "excuse", desc := "(II)I" } : Jvm.MethodName)) ∈ lw_tbl := List.mem_of_getElem? (i := 880) (by decide +kernel)
theorem qw_808 : (Jvm.Cond.instanceMethod ({ cls := "RegressionCourt", name := "excuse", desc := "(II)I" } : Jvm.MethodName)) ∈ lw_tbl := List.mem_of_getElem? (i := 881) (by decide +kernel)
theorem qw_809 : (Jvm.Cond.selects "RegressionCourt" ({ cls := "RegressionCourt", name := "excuse", desc := "(II)I" } : Jvm.MethodName) ({ cls := "RegressionCourt", name := "excuse", desc := "(II)I" } : Jvm.MethodName)) ∈ lw_tbl := List.mem_of_getElem? (i := 882) (by decide +kernel)
set_option maxRecDepth 50000 in
theorem qw_810 : (Jvm.Cond.code ({ cls := "RegressionCourt", name := "excuse", desc := "(II)I" } : Jvm.MethodName) prog_1_method_17_code (4 : Nat) (Option.some Jvm.ClassFile.FieldType.int)) ∈ lw_tbl := List.mem_of_getElem? (i := 883) rfl
theorem qw_813 : (Jvm.Cond.methodLink "RegressionCourtLaw" (144 : Nat) ({ cls := "RegressionCourtLaw", name := "budget", desc := "(LRegressionCourt;I[J)I" } : Jvm.MethodName)) ∈ lw_tbl := List.mem_of_getElem? (i := 886) (by decide +kernel)
theorem qw_814 : (Jvm.Cond.static ({ cls := "RegressionCourtLaw", name := "budget", desc := "(LRegressionCourt;I[J)I" } : Jvm.MethodName)) ∈ lw_tbl := List.mem_of_getElem? (i := 887) (by decide +kernel)
set_option maxRecDepth 50000 in
theorem qw_815 : (Jvm.Cond.codeWith ({ cls := "RegressionCourtLaw", name := "budget", desc := "(LRegressionCourt;I[J)I" } : Jvm.MethodName) method_18_code (4 : Nat) (Option.some Jvm.ClassFile.FieldType.int) [((0 : Nat), (9 : Nat), (12 : Nat), (13 : Nat))]) ∈ lw_tbl := List.mem_of_getElem? (i := 888) rfl
theorem qw_816 : (Jvm.Cond.methodLink "RegressionCourtLaw" (66 : Nat) ({ cls := "RegressionCourt", name := "budget", desc := "(I)I" } : Jvm.MethodName)) ∈ lw_tbl := List.mem_of_getElem? (i := 889) (by decide +kernel)
theorem qw_817 : (Jvm.Cond.instanceMethod ({ cls := "RegressionCourt", name := "budget", desc := "(I)I" } : Jvm.MethodName)) ∈ lw_tbl := List.mem_of_getElem? (i := 890) (by decide +kernel)
theorem qw_818 : (Jvm.Cond.selects "RegressionCourt" ({ cls := "RegressionCourt", name := "budget", desc := "(I)I" } : Jvm.MethodName) ({ cls := "RegressionCourt", name := "budget", desc := "(I)I" } : Jvm.MethodName)) ∈ lw_tbl := List.mem_of_getElem? (i := 891) (by decide +kernel)
set_option maxRecDepth 50000 in
theorem qw_819 : (Jvm.Cond.code ({ cls := "RegressionCourt", name := "budget", desc := "(I)I" } : Jvm.MethodName) prog_1_method_18_code (2 : Nat) (Option.some Jvm.ClassFile.FieldType.int)) ∈ lw_tbl := List.mem_of_getElem? (i := 892) rfl
theorem qw_821 : (Jvm.Cond.methodLink "RegressionCourt" (233 : Nat) ({ cls := "java/lang/Math", name := "min", desc := "(II)I" } : Jvm.MethodName)) ∈ lw_tbl := List.mem_of_getElem? (i := 894) (by decide +kernel)
theorem qw_822 : (Jvm.Cond.methodLink "RegressionCourtLaw" (147 : Nat) ({ cls := "RegressionCourtLaw", name := "many", desc := "(LRegressionCourt;I[J)I" } : Jvm.MethodName)) ∈ lw_tbl := List.mem_of_getElem? (i := 895) (by decide +kernel)
theorem qw_823 : (Jvm.Cond.static ({ cls := "RegressionCourtLaw", name := "many", desc := "(LRegressionCourt;I[J)I" } : Jvm.MethodName)) ∈ lw_tbl := List.mem_of_getElem? (i := 896) (by decide +kernel)
set_option maxRecDepth 50000 in
theorem qw_824 : (Jvm.Cond.codeWith ({ cls := "RegressionCourtLaw", name := "many", desc := "(LRegressionCourt;I[J)I" } : Jvm.MethodName) method_19_code (4 : Nat) (Option.some Jvm.ClassFile.FieldType.int) [((0 : Nat), (9 : Nat), (12 : Nat), (13 : Nat))]) ∈ lw_tbl := List.mem_of_getElem? (i := 897) rfl
theorem qw_825 : (Jvm.Cond.methodLink "RegressionCourtLaw" (69 : Nat) ({ cls := "RegressionCourt", name := "many", desc := "(I)I" } : Jvm.MethodName)) ∈ lw_tbl := List.mem_of_getElem? (i := 898) (by decide +kernel)
theorem qw_826 : (Jvm.Cond.instanceMethod ({ cls := "RegressionCourt", name := "many", desc := "(I)I" } : Jvm.MethodName)) ∈ lw_tbl := List.mem_of_getElem? (i := 899) (by decide +kernel)
theorem qw_827 : (Jvm.Cond.selects "RegressionCourt" ({ cls := "RegressionCourt", name := "many", desc := "(I)I" } : Jvm.MethodName) ({ cls := "RegressionCourt", name := "many", desc := "(I)I" } : Jvm.MethodName)) ∈ lw_tbl := List.mem_of_getElem? (i := 900) (by decide +kernel)
set_option maxRecDepth 50000 in
theorem qw_828 : (Jvm.Cond.code ({ cls := "RegressionCourt", name := "many", desc := "(I)I" } : Jvm.MethodName) prog_1_method_19_code (2 : Nat) (Option.some Jvm.ClassFile.FieldType.int)) ∈ lw_tbl := List.mem_of_getElem? (i := 901) rfl
theorem qw_829 : (Jvm.Cond.methodLink "RegressionCourtLaw" (150 : Nat) ({ cls := "RegressionCourtLaw", name := "minutesFor", desc := "(LRegressionCourt;I[J)I" } : Jvm.MethodName)) ∈ lw_tbl := List.mem_of_getElem? (i := 902) (by decide +kernel)
theorem qw_830 : (Jvm.Cond.static ({ cls := "RegressionCourtLaw", name := "minutesFor", desc := "(LRegressionCourt;I[J)I" } : Jvm.MethodName)) ∈ lw_tbl := List.mem_of_getElem? (i := 903) (by decide +kernel)
set_option maxRecDepth 50000 in
theorem qw_831 : (Jvm.Cond.codeWith ({ cls := "RegressionCourtLaw", name := "minutesFor", desc := "(LRegressionCourt;I[J)I" } : Jvm.MethodName) method_20_code (4 : Nat) (Option.some Jvm.ClassFile.FieldType.int) [((0 : Nat), (9 : Nat), (12 : Nat), (21 : Nat))]) ∈ lw_tbl := List.mem_of_getElem? (i := 904) rfl
theorem qw_832 : (Jvm.Cond.methodLink "RegressionCourtLaw" (72 : Nat) ({ cls := "RegressionCourt", name := "minutesFor", desc := "(I)I" } : Jvm.MethodName)) ∈ lw_tbl := List.mem_of_getElem? (i := 905) (by decide +kernel)
theorem qw_833 : (Jvm.Cond.instanceMethod ({ cls := "RegressionCourt", name := "minutesFor", desc := "(I)I" } : Jvm.MethodName)) ∈ lw_tbl := List.mem_of_getElem? (i := 906) (by decide +kernel)
theorem qw_834 : (Jvm.Cond.selects "RegressionCourt" ({ cls := "RegressionCourt", name := "minutesFor", desc := "(I)I" } : Jvm.MethodName) ({ cls := "RegressionCourt", name := "minutesFor", desc := "(I)I" } : Jvm.MethodName)) ∈ lw_tbl := List.mem_of_getElem? (i := 907) (by decide +kernel)
set_option maxRecDepth 50000 in
theorem qw_835 : (Jvm.Cond.code ({ cls := "RegressionCourt", name := "minutesFor", desc := "(I)I" } : Jvm.MethodName) prog_1_method_20_code (2 : Nat) (Option.some Jvm.ClassFile.FieldType.int)) ∈ lw_tbl := List.mem_of_getElem? (i := 908) rfl
theorem qw_836 : (Jvm.Cond.methodLink "RegressionCourtLaw" (153 : Nat) ({ cls := "RegressionCourtLaw", name := "verdictWith", desc := "(LRegressionCourt;III[J)I" } : Jvm.MethodName)) ∈ lw_tbl := List.mem_of_getElem? (i := 909) (by decide +kernel)
theorem qw_837 : (Jvm.Cond.static ({ cls := "RegressionCourtLaw", name := "verdictWith", desc := "(LRegressionCourt;III[J)I" } : Jvm.MethodName)) ∈ lw_tbl := List.mem_of_getElem? (i := 910) (by decide +kernel)
set_option maxRecDepth 50000 in
theorem qw_838 : (Jvm.Cond.codeWith ({ cls := "RegressionCourtLaw", name := "verdictWith", desc := "(LRegressionCourt;III[J)I" } : Jvm.MethodName) method_21_code (6 : Nat) (Option.some Jvm.ClassFile.FieldType.int) [((0 : Nat), (12 : Nat), (15 : Nat), (21 : Nat)), ((0 : Nat), (12 : Nat), (19 : Nat), (13 : Nat))]) ∈ lw_tbl := List.mem_of_getElem? (i := 911) rfl
theorem qw_839 : (Jvm.Cond.methodLink "RegressionCourtLaw" (75 : Nat) ({ cls := "RegressionCourt", name := "verdictWith", desc := "(III)I" } : Jvm.MethodName)) ∈ lw_tbl := List.mem_of_getElem? (i := 912) (by decide +kernel)
theorem qw_840 : (Jvm.Cond.instanceMethod ({ cls := "RegressionCourt", name := "verdictWith", desc := "(III)I" } : Jvm.MethodName)) ∈ lw_tbl := List.mem_of_getElem? (i := 913) (by decide +kernel)
theorem qw_841 : (Jvm.Cond.selects "RegressionCourt" ({ cls := "RegressionCourt", name := "verdictWith", desc := "(III)I" } : Jvm.MethodName) ({ cls := "RegressionCourt", name := "verdictWith", desc := "(III)I" } : Jvm.MethodName)) ∈ lw_tbl := List.mem_of_getElem? (i := 914) (by decide +kernel)
set_option maxRecDepth 50000 in
theorem qw_842 : (Jvm.Cond.code ({ cls := "RegressionCourt", name := "verdictWith", desc := "(III)I" } : Jvm.MethodName) prog_1_method_21_code (4 : Nat) (Option.some Jvm.ClassFile.FieldType.int)) ∈ lw_tbl := List.mem_of_getElem? (i := 915) rfl
theorem qw_844 : (Jvm.Cond.methodLinkNest "RegressionCourt" (260 : Nat) ({ cls := "RegressionCourt$Sample", name := "add", desc := "(I)V" } : Jvm.MethodName) "RegressionCourt") ∈ lw_tbl := List.mem_of_getElem? (i := 917) (by decide +kernel)
theorem qw_845 : (Jvm.Cond.methodLink "RegressionCourtLaw" (156 : Nat) ({ cls := "RegressionCourtLaw", name := "without", desc := "(LRegressionCourt;I[J)I" } : Jvm.MethodName)) ∈ lw_tbl := List.mem_of_getElem? (i := 918) (by decide +kernel)
theorem qw_846 : (Jvm.Cond.static ({ cls := "RegressionCourtLaw", name := "without", desc := "(LRegressionCourt;I[J)I" } : Jvm.MethodName)) ∈ lw_tbl := List.mem_of_getElem? (i := 919) (by decide +kernel)
set_option maxRecDepth 50000 in
theorem qw_847 : (Jvm.Cond.codeWith ({ cls := "RegressionCourtLaw", name := "without", desc := "(LRegressionCourt;I[J)I" } : Jvm.MethodName) method_22_code (4 : Nat) (Option.some Jvm.ClassFile.FieldType.int) [((0 : Nat), (9 : Nat), (12 : Nat), (21 : Nat))]) ∈ lw_tbl := List.mem_of_getElem? (i := 920) rfl
theorem qw_848 : (Jvm.Cond.methodLink "RegressionCourtLaw" (78 : Nat) ({ cls := "RegressionCourt", name := "without", desc := "(I)I" } : Jvm.MethodName)) ∈ lw_tbl := List.mem_of_getElem? (i := 921) (by decide +kernel)
theorem qw_849 : (Jvm.Cond.instanceMethod ({ cls := "RegressionCourt", name := "without", desc := "(I)I" } : Jvm.MethodName)) ∈ lw_tbl := List.mem_of_getElem? (i := 922) (by decide +kernel)
theorem qw_850 : (Jvm.Cond.selects "RegressionCourt" ({ cls := "RegressionCourt", name := "without", desc := "(I)I" } : Jvm.MethodName) ({ cls := "RegressionCourt", name := "without", desc := "(I)I" } : Jvm.MethodName)) ∈ lw_tbl := List.mem_of_getElem? (i := 923) (by decide +kernel)
set_option maxRecDepth 50000 in
theorem qw_851 : (Jvm.Cond.code ({ cls := "RegressionCourt", name := "without", desc := "(I)I" } : Jvm.MethodName) prog_1_method_22_code (2 : Nat) (Option.some Jvm.ClassFile.FieldType.int)) ∈ lw_tbl := List.mem_of_getElem? (i := 924) rfl
theorem qw_852 : (Jvm.Cond.classLink "RegressionCourtLaw" (82 : Nat) "RegressionCourtModel") ∈ lw_tbl := List.mem_of_getElem? (i := 925) (by decide +kernel)
theorem qw_853 : (Jvm.Cond.instantiable "RegressionCourtModel" (17 : Nat)) ∈ lw_tbl := List.mem_of_getElem? (i := 926) (by decide +kernel)
theorem qw_854 : (Jvm.Cond.methodLink "RegressionCourtLaw" (84 : Nat) ({ cls := "RegressionCourtModel", name := "<init>", desc := "()V" } : Jvm.MethodName)) ∈ lw_tbl := List.mem_of_getElem? (i := 927) (by decide +kernel)
theorem qw_855 : (Jvm.Cond.instanceMethod ({ cls := "RegressionCourtModel", name := "<init>", desc := "()V" } : Jvm.MethodName)) ∈ lw_tbl := List.mem_of_getElem? (i := 928) (by decide +kernel)
set_option maxRecDepth 50000 in
theorem qw_856 : (Jvm.Cond.code ({ cls := "RegressionCourtModel", name := "<init>", desc := "()V" } : Jvm.MethodName) prog_9_method_1_code (1 : Nat) (Option.none : Option Jvm.ClassFile.FieldType)) ∈ lw_tbl := List.mem_of_getElem? (i := 929) rfl
theorem qw_857 : (Jvm.Cond.methodLink "RegressionCourtModel" (1 : Nat) ({ cls := "java/lang/Object", name := "<init>", desc := "()V" } : Jvm.MethodName)) ∈ lw_tbl := List.mem_of_getElem? (i := 930) (by decide +kernel)
theorem qw_858 : (Jvm.Cond.classLink "RegressionCourtModel" (7 : Nat) "java/util/ArrayList") ∈ lw_tbl := List.mem_of_getElem? (i := 931) (by decide +kernel)
theorem qw_859 : (Jvm.Cond.methodLink "RegressionCourtModel" (9 : Nat) ({ cls := "java/util/ArrayList", name := "<init>", desc := "()V" } : Jvm.MethodName)) ∈ lw_tbl := List.mem_of_getElem? (i := 932) (by decide +kernel)
theorem qw_860 : (Jvm.Cond.fieldLink "RegressionCourtModel" (57 : Nat) "RegressionCourtModel" "thrown" "I") ∈ lw_tbl := List.mem_of_getElem? (i := 933) (by decide +kernel)
theorem qw_861 : (Jvm.Cond.fieldLink "RegressionCourtModel" (10 : Nat) "RegressionCourtModel" "measures" "Ljava/util/ArrayList;") ∈ lw_tbl := List.mem_of_getElem? (i := 934) (by decide +kernel)
theorem qw_862 : (Jvm.Cond.fieldLink "RegressionCourtModel" (16 : Nat) "RegressionCourtModel" "prices" "Ljava/util/ArrayList;") ∈ lw_tbl := List.mem_of_getElem? (i := 935) (by decide +kernel)
theorem qw_863 : (Jvm.Cond.fieldLink "RegressionCourtModel" (19 : Nat) "RegressionCourtModel" "runs" "Ljava/util/ArrayList;") ∈ lw_tbl := List.mem_of_getElem? (i := 936) (by decide +kernel)
theorem qw_864 : (Jvm.Cond.fieldLink "RegressionCourtModel" (22 : Nat) "RegressionCourtModel" "isNamed" "[Z") ∈ lw_tbl := List.mem_of_getElem? (i := 937) (by decide +kernel)
theorem qw_865 : (Jvm.Cond.fieldLink "RegressionCourtModel" (26 : Nat) "RegressionCourtModel" "isExcused" "[Z") ∈ lw_tbl := List.mem_of_getElem? (i := 938) (by decide +kernel)
theorem qw_866 : (Jvm.Cond.fieldLink "RegressionCourtModel" (29 : Nat) "RegressionCourtModel" "changes" "I") ∈ lw_tbl := List.mem_of_getElem? (i := 939) (by decide +kernel)
theorem qw_867 : (Jvm.Cond.fieldLink "RegressionCourtModel" (33 : Nat) "RegressionCourtModel" "enough" "I") ∈ lw_tbl := List.mem_of_getElem? (i := 940) (by decide +kernel)
theorem qw_868 : (Jvm.Cond.fieldLink "RegressionCourtModel" (36 : Nat) "RegressionCourtModel" "level" "I") ∈ lw_tbl := List.mem_of_getElem? (i := 941) (by decide +kernel)
theorem qw_869 : (Jvm.Cond.fieldLink "RegressionCourtModel" (39 : Nat) "RegressionCourtModel" "good" "I") ∈ lw_tbl := List.mem_of_getElem? (i := 942) (by decide +kernel)
theorem qw_870 : (Jvm.Cond.fieldLink "RegressionCourtModel" (42 : Nat) "RegressionCourtModel" "bad" "I") ∈ lw_tbl := List.mem_of_getElem? (i := 943) (by decide +kernel)
theorem qw_871 : (Jvm.Cond.fieldLink "RegressionCourtModel" (45 : Nat) "RegressionCourtModel" "waits" "I") ∈ lw_tbl := List.mem_of_getElem? (i := 944) (by decide +kernel)
theorem qw_872 : (Jvm.Cond.fieldLink "RegressionCourtModel" (48 : Nat) "RegressionCourtModel" "named" "I") ∈ lw_tbl := List.mem_of_getElem? (i := 945) (by decide +kernel)
theorem qw_873 : (Jvm.Cond.fieldLink "RegressionCourtModel" (210 : Nat) "RegressionCourtModel" "baseline" "I") ∈ lw_tbl := List.mem_of_getElem? (i := 946) (by decide +kernel)
theorem qw_874 : (Jvm.Cond.fieldLink "RegressionCourtModel" (51 : Nat) "RegressionCourtModel" "credit" "I") ∈ lw_tbl := List.mem_of_getElem? (i := 947) (by decide +kernel)
theorem qw_875 : (Jvm.Cond.fieldLink "RegressionCourtModel" (54 : Nat) "RegressionCourtModel" "minutes" "I") ∈ lw_tbl := List.mem_of_getElem? (i := 948) (by decide +kernel)
theorem qw_876 : (Jvm.Cond.fieldLink "RegressionCourtModel" (225 : Nat) "RegressionCourtModel" "sum" "J") ∈ lw_tbl := List.mem_of_getElem? (i := 949) (by decide +kernel)
theorem qw_912 : (Jvm.Cond.arrayClass Jvm.ClassFile.FieldType.boolean) ∈ lw_tbl := List.mem_of_getElem? (i := 985) (by decide +kernel)
theorem qw_913 : (Jvm.Cond.methodLink "RegressionCourtLaw" (91 : Nat) ({ cls := "RegressionCourtModel", name := "thrown", desc := "()I" } : Jvm.MethodName)) ∈ lw_tbl := List.mem_of_getElem? (i := 986) (by decide +kernel)
theorem qw_914 : (Jvm.Cond.instanceMethod ({ cls := "RegressionCourtModel", name := "thrown", desc := "()I" } : Jvm.MethodName)) ∈ lw_tbl := List.mem_of_getElem? (i := 987) (by decide +kernel)
theorem qw_915 : (Jvm.Cond.selects "RegressionCourtModel" ({ cls := "RegressionCourtModel", name := "thrown", desc := "()I" } : Jvm.MethodName) ({ cls := "RegressionCourtModel", name := "thrown", desc := "()I" } : Jvm.MethodName)) ∈ lw_tbl := List.mem_of_getElem? (i := 988) (by decide +kernel)
set_option maxRecDepth 50000 in
theorem qw_916 : (Jvm.Cond.code ({ cls := "RegressionCourtModel", name := "thrown", desc := "()I" } : Jvm.MethodName) prog_9_method_2_code (1 : Nat) (Option.some Jvm.ClassFile.FieldType.int)) ∈ lw_tbl := List.mem_of_getElem? (i := 989) rfl
theorem qw_917 : (Jvm.Cond.methodLink "RegressionCourtLaw" (90 : Nat) ({ cls := "RegressionCourtModel", name := "machine", desc := "(II)I" } : Jvm.MethodName)) ∈ lw_tbl := List.mem_of_getElem? (i := 990) (by decide +kernel)
theorem qw_918 : (Jvm.Cond.instanceMethod ({ cls := "RegressionCourtModel", name := "machine", desc := "(II)I" } : Jvm.MethodName)) ∈ lw_tbl := List.mem_of_getElem? (i := 991) (by decide +kernel)
theorem qw_919 : (Jvm.Cond.selects "RegressionCourtModel" ({ cls := "RegressionCourtModel", name := "machine", desc := "(II)I" } : Jvm.MethodName) ({ cls := "RegressionCourtModel", name := "machine", desc := "(II)I" } : Jvm.MethodName)) ∈ lw_tbl := List.mem_of_getElem? (i := 992) (by decide +kernel)
set_option maxRecDepth 50000 in
theorem qw_920 : (Jvm.Cond.code ({ cls := "RegressionCourtModel", name := "machine", desc := "(II)I" } : Jvm.MethodName) prog_9_method_9_code (4 : Nat) (Option.some Jvm.ClassFile.FieldType.int)) ∈ lw_tbl := List.mem_of_getElem? (i := 993) rfl
theorem qw_921 : (Jvm.Cond.methodLink "RegressionCourtModel" (64 : Nat) ({ cls := "RegressionCourtModel", name := "is", desc := "(III)Z" } : Jvm.MethodName)) ∈ lw_tbl := List.mem_of_getElem? (i := 994) (by decide +kernel)
theorem qw_922 : (Jvm.Cond.static ({ cls := "RegressionCourtModel", name := "is", desc := "(III)Z" } : Jvm.MethodName)) ∈ lw_tbl := List.mem_of_getElem? (i := 995) (by decide +kernel)
set_option maxRecDepth 50000 in
theorem qw_923 : (Jvm.Cond.code ({ cls := "RegressionCourtModel", name := "is", desc := "(III)Z" } : Jvm.MethodName) prog_9_method_4_code (3 : Nat) (Option.some Jvm.ClassFile.FieldType.boolean)) ∈ lw_tbl := List.mem_of_getElem? (i := 996) rfl
theorem qw_924 : (Jvm.Cond.methodLink "RegressionCourtModel" (87 : Nat) ({ cls := "RegressionCourtModel", name := "refuse", desc := "(I)I" } : Jvm.MethodName)) ∈ lw_tbl := List.mem_of_getElem? (i := 997) (by decide +kernel)
theorem qw_926 : (Jvm.Cond.instanceMethod ({ cls := "RegressionCourtModel", name := "refuse", desc := "(I)I" } : Jvm.MethodName)) ∈ lw_tbl := List.mem_of_getElem? (i := 999) (by decide +kernel)
set_option maxRecDepth 50000 in
theorem qw_927 : (Jvm.Cond.code ({ cls := "RegressionCourtModel", name := "refuse", desc := "(I)I" } : Jvm.MethodName) prog_9_method_3_code (2 : Nat) (Option.some Jvm.ClassFile.FieldType.int)) ∈ lw_tbl := List.mem_of_getElem? (i := 1000) rfl
theorem qw_928 : (Jvm.Cond.methodLink "RegressionCourtModel" (60 : Nat) ({ cls := "java/util/ArrayList", name := "size", desc := "()I" } : Jvm.MethodName)) ∈ lw_tbl := List.mem_of_getElem? (i := 1001) (by decide +kernel)
theorem qw_929 : (Jvm.Cond.methodLink "RegressionCourtModel" (91 : Nat) ({ cls := "java/lang/Integer", name := "valueOf", desc := "(I)Ljava/lang/Integer;" } : Jvm.MethodName)) ∈ lw_tbl := List.mem_of_getElem? (i := 1002) (by decide +kernel)
theorem qw_930 : (Jvm.Cond.static ({ cls := "java/lang/Integer", name := "valueOf", desc := "(I)Ljava/lang/Integer;" } : Jvm.MethodName)) ∈ lw_tbl := List.mem_of_getElem? (i := 1003) (by decide +kernel)
set_option maxRecDepth 50000 in
theorem qw_931 : (Jvm.Cond.code ({ cls := "java/lang/Integer", name := "valueOf", desc := "(I)Ljava/lang/Integer;" } : Jvm.MethodName) prog_20_method_22_code (1 : Nat) (Option.some (Jvm.ClassFile.FieldType.object "java/lang/Integer"))) ∈ lw_tbl := List.mem_of_getElem? (i := 1004) rfl
theorem qw_932 : (Jvm.Cond.fieldLink "java/lang/Integer" (191 : Nat) "java/lang/Integer$IntegerCache" "high" "I") ∈ lw_tbl := List.mem_of_getElem? (i := 1005) (by decide +kernel)
theorem qw_934 : (Jvm.Cond.fieldLink "java/lang/Integer" (195 : Nat) "java/lang/Integer$IntegerCache" "cache" "[Ljava/lang/Integer;") ∈ lw_tbl := List.mem_of_getElem? (i := 1007) (by decide +kernel)
theorem qw_936 : (Jvm.Cond.classLink "java/lang/Integer" (1 : Nat) "java/lang/Integer") ∈ lw_tbl := List.mem_of_getElem? (i := 1009) (by decide +kernel)
theorem qw_937 : (Jvm.Cond.instantiable "java/lang/Integer" (1 : Nat)) ∈ lw_tbl := List.mem_of_getElem? (i := 1010) (by decide +kernel)
theorem qw_938 : (Jvm.Cond.methodLink "java/lang/Integer" (199 : Nat) ({ cls := "java/lang/Integer", name := "<init>", desc := "(I)V" } : Jvm.MethodName)) ∈ lw_tbl := List.mem_of_getElem? (i := 1011) (by decide +kernel)
theorem qw_939 : (Jvm.Cond.instanceMethod ({ cls := "java/lang/Integer", name := "<init>", desc := "(I)V" } : Jvm.MethodName)) ∈ lw_tbl := List.mem_of_getElem? (i := 1012) (by decide +kernel)
set_option maxRecDepth 50000 in
theorem qw_940 : (Jvm.Cond.code ({ cls := "java/lang/Integer", name := "<init>", desc := "(I)V" } : Jvm.MethodName) prog_20_method_23_code (2 : Nat) (Option.none : Option Jvm.ClassFile.FieldType)) ∈ lw_tbl := List.mem_of_getElem? (i := 1013) rfl
theorem qw_941 : (Jvm.Cond.methodLink "java/lang/Integer" (202 : Nat) ({ cls := "java/lang/Number", name := "<init>", desc := "()V" } : Jvm.MethodName)) ∈ lw_tbl := List.mem_of_getElem? (i := 1014) (by decide +kernel)
theorem qw_942 : (Jvm.Cond.instanceMethod ({ cls := "java/lang/Number", name := "<init>", desc := "()V" } : Jvm.MethodName)) ∈ lw_tbl := List.mem_of_getElem? (i := 1015) (by decide +kernel)
set_option maxRecDepth 50000 in
theorem qw_943 : (Jvm.Cond.code ({ cls := "java/lang/Number", name := "<init>", desc := "()V" } : Jvm.MethodName) prog_24_method_1_code (1 : Nat) (Option.none : Option Jvm.ClassFile.FieldType)) ∈ lw_tbl := List.mem_of_getElem? (i := 1016) rfl
theorem qw_944 : (Jvm.Cond.methodLink "java/lang/Number" (1 : Nat) ({ cls := "java/lang/Object", name := "<init>", desc := "()V" } : Jvm.MethodName)) ∈ lw_tbl := List.mem_of_getElem? (i := 1017) (by decide +kernel)
theorem qw_945 : (Jvm.Cond.fieldLink "java/lang/Integer" (205 : Nat) "java/lang/Integer" "value" "I") ∈ lw_tbl := List.mem_of_getElem? (i := 1018) (by decide +kernel)
theorem qw_949 : (Jvm.Cond.methodLink "RegressionCourtModel" (95 : Nat) ({ cls := "java/util/ArrayList", name := "add", desc := "(Ljava/lang/Object;)Z" } : Jvm.MethodName)) ∈ lw_tbl := List.mem_of_getElem? (i := 1022) (by decide +kernel)
theorem qw_950 : (Jvm.Cond.methodLink "RegressionCourtLaw" (96 : Nat) ({ cls := "RegressionCourtModel", name := "measure", desc := "(II)Z" } : Jvm.MethodName)) ∈ lw_tbl := List.mem_of_getElem? (i := 1023) (by decide +kernel)
theorem qw_951 : (Jvm.Cond.instanceMethod ({ cls := "RegressionCourtModel", name := "measure", desc := "(II)Z" } : Jvm.MethodName)) ∈ lw_tbl := List.mem_of_getElem? (i := 1024) (by decide +kernel)
theorem qw_952 : (Jvm.Cond.selects "RegressionCourtModel" ({ cls := "RegressionCourtModel", name := "measure", desc := "(II)Z" } : Jvm.MethodName) ({ cls := "RegressionCourtModel", name := "measure", desc := "(II)Z" } : Jvm.MethodName)) ∈ lw_tbl := List.mem_of_getElem? (i := 1025) (by decide +kernel)
set_option maxRecDepth 50000 in
theorem qw_953 : (Jvm.Cond.code ({ cls := "RegressionCourtModel", name := "measure", desc := "(II)Z" } : Jvm.MethodName) prog_9_method_10_code (3 : Nat) (Option.some Jvm.ClassFile.FieldType.boolean)) ∈ lw_tbl := List.mem_of_getElem? (i := 1026) rfl
theorem qw_954 : (Jvm.Cond.methodLink "RegressionCourtModel" (99 : Nat) ({ cls := "RegressionCourtModel", name := "isMachine", desc := "(I)Z" } : Jvm.MethodName)) ∈ lw_tbl := List.mem_of_getElem? (i := 1027) (by decide +kernel)
theorem qw_956 : (Jvm.Cond.instanceMethod ({ cls := "RegressionCourtModel", name := "isMachine", desc := "(I)Z" } : Jvm.MethodName)) ∈ lw_tbl := List.mem_of_getElem? (i := 1029) (by decide +kernel)
set_option maxRecDepth 50000 in
theorem qw_957 : (Jvm.Cond.code ({ cls := "RegressionCourtModel", name := "isMachine", desc := "(I)Z" } : Jvm.MethodName) prog_9_method_5_code (2 : Nat) (Option.some Jvm.ClassFile.FieldType.boolean)) ∈ lw_tbl := List.mem_of_getElem? (i := 1030) rfl
theorem qw_958 : (Jvm.Cond.methodLink "RegressionCourtModel" (68 : Nat) ({ cls := "java/util/ArrayList", name := "get", desc := "(I)Ljava/lang/Object;" } : Jvm.MethodName)) ∈ lw_tbl := List.mem_of_getElem? (i := 1031) (by decide +kernel)
theorem qw_959 : (Jvm.Cond.methodLink "RegressionCourtModel" (103 : Nat) ({ cls := "RegressionCourtModel", name := "goOn", desc := "()V" } : Jvm.MethodName)) ∈ lw_tbl := List.mem_of_getElem? (i := 1032) (by decide +kernel)
theorem qw_961 : (Jvm.Cond.instanceMethod ({ cls := "RegressionCourtModel", name := "goOn", desc := "()V" } : Jvm.MethodName)) ∈ lw_tbl := List.mem_of_getElem? (i := 1034) (by decide +kernel)
set_option maxRecDepth 50000 in
theorem qw_962 : (Jvm.Cond.code ({ cls := "RegressionCourtModel", name := "goOn", desc := "()V" } : Jvm.MethodName) prog_9_method_35_code (3 : Nat) (Option.none : Option Jvm.ClassFile.FieldType)) ∈ lw_tbl := List.mem_of_getElem? (i := 1035) rfl
theorem qw_963 : (Jvm.Cond.methodLink "RegressionCourtModel" (197 : Nat) ({ cls := "RegressionCourtModel", name := "verdictNow", desc := "(III)I" } : Jvm.MethodName)) ∈ lw_tbl := List.mem_of_getElem? (i := 1036) (by decide +kernel)
theorem qw_965 : (Jvm.Cond.instanceMethod ({ cls := "RegressionCourtModel", name := "verdictNow", desc := "(III)I" } : Jvm.MethodName)) ∈ lw_tbl := List.mem_of_getElem? (i := 1038) (by decide +kernel)
set_option maxRecDepth 50000 in
theorem qw_966 : (Jvm.Cond.code ({ cls := "RegressionCourtModel", name := "verdictNow", desc := "(III)I" } : Jvm.MethodName) prog_9_method_30_code (4 : Nat) (Option.some Jvm.ClassFile.FieldType.int)) ∈ lw_tbl := List.mem_of_getElem? (i := 1039) rfl
theorem qw_967 : (Jvm.Cond.methodLink "RegressionCourtModel" (154 : Nat) ({ cls := "RegressionCourtModel", name := "sample", desc := "(I)[I" } : Jvm.MethodName)) ∈ lw_tbl := List.mem_of_getElem? (i := 1040) (by decide +kernel)
theorem qw_969 : (Jvm.Cond.instanceMethod ({ cls := "RegressionCourtModel", name := "sample", desc := "(I)[I" } : Jvm.MethodName)) ∈ lw_tbl := List.mem_of_getElem? (i := 1042) (by decide +kernel)
set_option maxRecDepth 50000 in
theorem qw_970 : (Jvm.Cond.code ({ cls := "RegressionCourtModel", name := "sample", desc := "(I)[I" } : Jvm.MethodName) prog_9_method_15_code (2 : Nat) (Option.some (Jvm.ClassFile.FieldType.array Jvm.ClassFile.FieldType.int))) ∈ lw_tbl := List.mem_of_getElem? (i := 1043) rfl
theorem qw_971 : (Jvm.Cond.methodLink "RegressionCourtModel" (141 : Nat) ({ cls := "RegressionCourtModel", name := "sample", desc := "(II)[I" } : Jvm.MethodName)) ∈ lw_tbl := List.mem_of_getElem? (i := 1044) (by decide +kernel)
theorem qw_973 : (Jvm.Cond.instanceMethod ({ cls := "RegressionCourtModel", name := "sample", desc := "(II)[I" } : Jvm.MethodName)) ∈ lw_tbl := List.mem_of_getElem? (i := 1046) (by decide +kernel)
set_option maxRecDepth 50000 in
theorem qw_974 : (Jvm.Cond.code ({ cls := "RegressionCourtModel", name := "sample", desc := "(II)[I" } : Jvm.MethodName) prog_9_method_14_code (6 : Nat) (Option.some (Jvm.ClassFile.FieldType.array Jvm.ClassFile.FieldType.int))) ∈ lw_tbl := List.mem_of_getElem? (i := 1047) rfl
theorem qw_975 : (Jvm.Cond.classLink "RegressionCourtModel" (123 : Nat) "[I") ∈ lw_tbl := List.mem_of_getElem? (i := 1048) (by decide +kernel)
theorem qw_976 : (Jvm.Cond.methodLink "RegressionCourtModel" (131 : Nat) ({ cls := "RegressionCourtModel", name := "counts", desc := "([II)Z" } : Jvm.MethodName)) ∈ lw_tbl := List.mem_of_getElem? (i := 1049) (by decide +kernel)
theorem qw_978 : (Jvm.Cond.instanceMethod ({ cls := "RegressionCourtModel", name := "counts", desc := "([II)Z" } : Jvm.MethodName)) ∈ lw_tbl := List.mem_of_getElem? (i := 1051) (by decide +kernel)
set_option maxRecDepth 50000 in
theorem qw_979 : (Jvm.Cond.code ({ cls := "RegressionCourtModel", name := "counts", desc := "([II)Z" } : Jvm.MethodName) prog_9_method_13_code (3 : Nat) (Option.some Jvm.ClassFile.FieldType.boolean)) ∈ lw_tbl := List.mem_of_getElem? (i := 1052) rfl
theorem qw_980 : (Jvm.Cond.methodLink "RegressionCourtModel" (106 : Nat) ({ cls := "RegressionCourtModel", name := "isAside", desc := "(I)Z" } : Jvm.MethodName)) ∈ lw_tbl := List.mem_of_getElem? (i := 1053) (by decide +kernel)
theorem qw_982 : (Jvm.Cond.instanceMethod ({ cls := "RegressionCourtModel", name := "isAside", desc := "(I)Z" } : Jvm.MethodName)) ∈ lw_tbl := List.mem_of_getElem? (i := 1055) (by decide +kernel)
set_option maxRecDepth 50000 in
theorem qw_983 : (Jvm.Cond.code ({ cls := "RegressionCourtModel", name := "isAside", desc := "(I)Z" } : Jvm.MethodName) prog_9_method_7_code (6 : Nat) (Option.some Jvm.ClassFile.FieldType.boolean)) ∈ lw_tbl := List.mem_of_getElem? (i := 1056) rfl
theorem qw_984 : (Jvm.Cond.constant "RegressionCourtModel" (74 : Nat) (2147483647 : Int32)) ∈ lw_tbl := List.mem_of_getElem? (i := 1057) (by decide +kernel)
theorem qw_985 : (Jvm.Cond.methodLink "RegressionCourtModel" (75 : Nat) ({ cls := "java/lang/Math", name := "max", desc := "(II)I" } : Jvm.MethodName)) ∈ lw_tbl := List.mem_of_getElem? (i := 1058) (by decide +kernel)
theorem qw_986 : (Jvm.Cond.classLink "RegressionCourtModel" (72 : Nat) "java/lang/Integer") ∈ lw_tbl := List.mem_of_getElem? (i := 1059) (by decide +kernel)
theorem qw_987 : (Jvm.Cond.methodLink "RegressionCourtModel" (81 : Nat) ({ cls := "java/lang/Integer", name := "intValue", desc := "()I" } : Jvm.MethodName)) ∈ lw_tbl := List.mem_of_getElem? (i := 1060) (by decide +kernel)
theorem qw_988 : (Jvm.Cond.instanceMethod ({ cls := "java/lang/Integer", name := "intValue", desc := "()I" } : Jvm.MethodName)) ∈ lw_tbl := List.mem_of_getElem? (i := 1061) (by decide +kernel)
theorem qw_989 : (Jvm.Cond.selects "java/lang/Integer" ({ cls := "java/lang/Integer", name := "intValue", desc := "()I" } : Jvm.MethodName) ({ cls := "java/lang/Integer", name := "intValue", desc := "()I" } : Jvm.MethodName)) ∈ lw_tbl := List.mem_of_getElem? (i := 1062) (by decide +kernel)
set_option maxRecDepth 50000 in
theorem qw_990 : (Jvm.Cond.code ({ cls := "java/lang/Integer", name := "intValue", desc := "()I" } : Jvm.MethodName) prog_20_method_27_code (1 : Nat) (Option.some Jvm.ClassFile.FieldType.int)) ∈ lw_tbl := List.mem_of_getElem? (i := 1063) rfl
theorem qw_991 : (Jvm.Cond.methodLink "RegressionCourtModel" (84 : Nat) ({ cls := "java/lang/Math", name := "min", desc := "(II)I" } : Jvm.MethodName)) ∈ lw_tbl := List.mem_of_getElem? (i := 1064) (by decide +kernel)
theorem qw_992 : (Jvm.Cond.methodLink "RegressionCourtModel" (135 : Nat) ({ cls := "java/util/Arrays", name := "copyOfRange", desc := "([III)[I" } : Jvm.MethodName)) ∈ lw_tbl := List.mem_of_getElem? (i := 1065) (by decide +kernel)
theorem qw_993 : (Jvm.Cond.static ({ cls := "java/util/Arrays", name := "copyOfRange", desc := "([III)[I" } : Jvm.MethodName)) ∈ lw_tbl := List.mem_of_getElem? (i := 1066) (by decide +kernel)
set_option maxRecDepth 50000 in
theorem qw_994 : (Jvm.Cond.code ({ cls := "java/util/Arrays", name := "copyOfRange", desc := "([III)[I" } : Jvm.MethodName) prog_38_method_136_code (3 : Nat) (Option.some (Jvm.ClassFile.FieldType.array Jvm.ClassFile.FieldType.int))) ∈ lw_tbl := List.mem_of_getElem? (i := 1067) rfl
theorem qw_995 : (Jvm.Cond.methodLink "java/util/Arrays" (351 : Nat) ({ cls := "java/util/Arrays", name := "copyOfRangeInt", desc := "([III)[I" } : Jvm.MethodName)) ∈ lw_tbl := List.mem_of_getElem? (i := 1068) (by decide +kernel)
theorem qw_996 : (Jvm.Cond.static ({ cls := "java/util/Arrays", name := "copyOfRangeInt", desc := "([III)[I" } : Jvm.MethodName)) ∈ lw_tbl := List.mem_of_getElem? (i := 1069) (by decide +kernel)
set_option maxRecDepth 50000 in
theorem qw_997 : (Jvm.Cond.code ({ cls := "java/util/Arrays", name := "copyOfRangeInt", desc := "([III)[I" } : Jvm.MethodName) prog_38_method_137_code (5 : Nat) (Option.some (Jvm.ClassFile.FieldType.array Jvm.ClassFile.FieldType.int))) ∈ lw_tbl := List.mem_of_getElem? (i := 1070) rfl
theorem qw_998 : (Jvm.Cond.methodLink "java/util/Arrays" (343 : Nat) ({ cls := "java/util/Arrays", name := "checkLength", desc := "(II)V" } : Jvm.MethodName)) ∈ lw_tbl := List.mem_of_getElem? (i := 1071) (by decide +kernel)
theorem qw_999 : (Jvm.Cond.static ({ cls := "java/util/Arrays", name := "checkLength", desc := "(II)V" } : Jvm.MethodName)) ∈ lw_tbl := List.mem_of_getElem? (i := 1072) (by decide +kernel)
set_option maxRecDepth 50000 in
theorem qw_1000 : (Jvm.Cond.code ({ cls := "java/util/Arrays", name := "checkLength", desc := "(II)V" } : Jvm.MethodName) prog_38_method_131_code (2 : Nat) (Option.none : Option Jvm.ClassFile.FieldType)) ∈ lw_tbl := List.mem_of_getElem? (i := 1073) rfl
theorem qw_1001 : (Jvm.Cond.classLink "java/util/Arrays" (43 : Nat) "java/lang/IllegalArgumentException") ∈ lw_tbl := List.mem_of_getElem? (i := 1074) (by decide +kernel)
theorem qw_1002 : (Jvm.Cond.classLink "java/util/Arrays" (45 : Nat) "java/lang/StringBuilder") ∈ lw_tbl := List.mem_of_getElem? (i := 1075) (by decide +kernel)
theorem qw_1003 : (Jvm.Cond.instantiable "java/lang/StringBuilder" (4 : Nat)) ∈ lw_tbl := List.mem_of_getElem? (i := 1076) (by decide +kernel)
theorem qw_1004 : (Jvm.Cond.methodLink "java/util/Arrays" (47 : Nat) ({ cls := "java/lang/StringBuilder", name := "<init>", desc := "()V" } : Jvm.MethodName)) ∈ lw_tbl := List.mem_of_getElem? (i := 1077) (by decide +kernel)
theorem qw_1005 : (Jvm.Cond.instanceMethod ({ cls := "java/lang/StringBuilder", name := "<init>", desc := "()V" } : Jvm.MethodName)) ∈ lw_tbl := List.mem_of_getElem? (i := 1078) (by decide +kernel)
set_option maxRecDepth 50000 in
theorem qw_1006 : (Jvm.Cond.code ({ cls := "java/lang/StringBuilder", name := "<init>", desc := "()V" } : Jvm.MethodName) prog_27_method_1_code (1 : Nat) (Option.none : Option Jvm.ClassFile.FieldType)) ∈ lw_tbl := List.mem_of_getElem? (i := 1079) rfl
theorem qw_1007 : (Jvm.Cond.methodLink "java/lang/StringBuilder" (1 : Nat) ({ cls := "java/lang/AbstractStringBuilder", name := "<init>", desc := "(I)V" } : Jvm.MethodName)) ∈ lw_tbl := List.mem_of_getElem? (i := 1080) (by decide +kernel)
theorem qw_1008 : (Jvm.Cond.instanceMethod ({ cls := "java/lang/AbstractStringBuilder", name := "<init>", desc := "(I)V" } : Jvm.MethodName)) ∈ lw_tbl := List.mem_of_getElem? (i := 1081) (by decide +kernel)
set_option maxRecDepth 50000 in
theorem qw_1009 : (Jvm.Cond.code ({ cls := "java/lang/AbstractStringBuilder", name := "<init>", desc := "(I)V" } : Jvm.MethodName) prog_11_method_2_code (2 : Nat) (Option.none : Option Jvm.ClassFile.FieldType)) ∈ lw_tbl := List.mem_of_getElem? (i := 1082) rfl
theorem qw_1010 : (Jvm.Cond.methodLink "java/lang/AbstractStringBuilder" (3 : Nat) ({ cls := "java/lang/Object", name := "<init>", desc := "()V" } : Jvm.MethodName)) ∈ lw_tbl := List.mem_of_getElem? (i := 1083) (by decide +kernel)
theorem qw_1011 : (Jvm.Cond.fieldLink "java/lang/AbstractStringBuilder" (18 : Nat) "java/lang/String" "COMPACT_STRINGS" "Z") ∈ lw_tbl := List.mem_of_getElem? (i := 1084) (by decide +kernel)
theorem qw_1013 : (Jvm.Cond.methodLink "java/lang/AbstractStringBuilder" (26 : Nat) ({ cls := "java/lang/StringUTF16", name := "newBytesFor", desc := "(I)[B" } : Jvm.MethodName)) ∈ lw_tbl := List.mem_of_getElem? (i := 1086) (by decide +kernel)
theorem qw_1014 : (Jvm.Cond.static ({ cls := "java/lang/StringUTF16", name := "newBytesFor", desc := "(I)[B" } : Jvm.MethodName)) ∈ lw_tbl := List.mem_of_getElem? (i := 1087) (by decide +kernel)
set_option maxRecDepth 50000 in
theorem qw_1015 : (Jvm.Cond.code ({ cls := "java/lang/StringUTF16", name := "newBytesFor", desc := "(I)[B" } : Jvm.MethodName) prog_29_method_2_code (1 : Nat) (Option.some (Jvm.ClassFile.FieldType.array Jvm.ClassFile.FieldType.byte))) ∈ lw_tbl := List.mem_of_getElem? (i := 1088) rfl
theorem qw_1016 : (Jvm.Cond.methodLink "java/lang/StringUTF16" (11 : Nat) ({ cls := "java/lang/StringUTF16", name := "newBytesLength", desc := "(I)I" } : Jvm.MethodName)) ∈ lw_tbl := List.mem_of_getElem? (i := 1089) (by decide +kernel)
theorem qw_1017 : (Jvm.Cond.static ({ cls := "java/lang/StringUTF16", name := "newBytesLength", desc := "(I)I" } : Jvm.MethodName)) ∈ lw_tbl := List.mem_of_getElem? (i := 1090) (by decide +kernel)
set_option maxRecDepth 50000 in
theorem qw_1018 : (Jvm.Cond.code ({ cls := "java/lang/StringUTF16", name := "newBytesLength", desc := "(I)I" } : Jvm.MethodName) prog_29_method_3_code (1 : Nat) (Option.some Jvm.ClassFile.FieldType.int)) ∈ lw_tbl := List.mem_of_getElem? (i := 1091) rfl
theorem qw_1019 : (Jvm.Cond.constant "java/lang/StringUTF16" (20 : Nat) (1073741823 : Int32)) ∈ lw_tbl := List.mem_of_getElem? (i := 1092) (by decide +kernel)
theorem qw_1020 : (Jvm.Cond.fieldLink "java/lang/AbstractStringBuilder" (15 : Nat) "java/lang/AbstractStringBuilder" "value" "[B") ∈ lw_tbl := List.mem_of_getElem? (i := 1093) (by decide +kernel)
theorem qw_1021 : (Jvm.Cond.fieldLink "java/lang/AbstractStringBuilder" (22 : Nat) "java/lang/AbstractStringBuilder" "coder" "B") ∈ lw_tbl := List.mem_of_getElem? (i := 1094) (by decide +kernel)
theorem qw_1022 : (Jvm.Cond.fieldLink "java/lang/String" (1048 : Nat) "java/lang/AbstractStringBuilder" "maybeLatin1" "Z") ∈ lw_tbl := List.mem_of_getElem? (i := 1095) (by decide +kernel)
theorem qw_1023 : (Jvm.Cond.fieldLink "java/lang/AbstractStringBuilder" (79 : Nat) "java/lang/AbstractStringBuilder" "count" "I") ∈ lw_tbl := List.mem_of_getElem? (i := 1096) (by decide +kernel)
theorem qw_1033 : (Jvm.Cond.methodLink "java/util/Arrays" (54 : Nat) ({ cls := "java/lang/StringBuilder", name := "append", desc := "(I)Ljava/lang/StringBuilder;" } : Jvm.MethodName)) ∈ lw_tbl := List.mem_of_getElem? (i := 1106) (by decide +kernel)
theorem qw_1034 : (Jvm.Cond.instanceMethod ({ cls := "java/lang/StringBuilder", name := "append", desc := "(I)Ljava/lang/StringBuilder;" } : Jvm.MethodName)) ∈ lw_tbl := List.mem_of_getElem? (i := 1107) (by decide +kernel)
theorem qw_1035 : (Jvm.Cond.selects "java/lang/StringBuilder" ({ cls := "java/lang/StringBuilder", name := "append", desc := "(I)Ljava/lang/StringBuilder;" } : Jvm.MethodName) ({ cls := "java/lang/StringBuilder", name := "append", desc := "(I)Ljava/lang/StringBuilder;" } : Jvm.MethodName)) ∈ lw_tbl := List.mem_of_getElem? (i := 1108) (by decide +kernel)
set_option maxRecDepth 50000 in
theorem qw_1036 : (Jvm.Cond.code ({ cls := "java/lang/StringBuilder", name := "append", desc := "(I)Ljava/lang/StringBuilder;" } : Jvm.MethodName) prog_27_method_15_code (2 : Nat) (Option.some (Jvm.ClassFile.FieldType.object "java/lang/StringBuilder"))) ∈ lw_tbl := List.mem_of_getElem? (i := 1109) rfl
theorem qw_1037 : (Jvm.Cond.methodLink "java/lang/StringBuilder" (53 : Nat) ({ cls := "java/lang/AbstractStringBuilder", name := "append", desc := "(I)Ljava/lang/AbstractStringBuilder;" } : Jvm.MethodName)) ∈ lw_tbl := List.mem_of_getElem? (i := 1110) (by decide +kernel)
theorem qw_1038 : (Jvm.Cond.instanceMethod ({ cls := "java/lang/AbstractStringBuilder", name := "append", desc := "(I)Ljava/lang/AbstractStringBuilder;" } : Jvm.MethodName)) ∈ lw_tbl := List.mem_of_getElem? (i := 1111) (by decide +kernel)
set_option maxRecDepth 50000 in
theorem qw_1039 : (Jvm.Cond.code ({ cls := "java/lang/AbstractStringBuilder", name := "append", desc := "(I)Ljava/lang/AbstractStringBuilder;" } : Jvm.MethodName) prog_11_method_32_code (4 : Nat) (Option.some (Jvm.ClassFile.FieldType.object "java/lang/AbstractStringBuilder"))) ∈ lw_tbl := List.mem_of_getElem? (i := 1112) rfl
theorem qw_1040 : (Jvm.Cond.methodLink "java/lang/AbstractStringBuilder" (245 : Nat) ({ cls := "java/lang/Integer", name := "stringSize", desc := "(I)I" } : Jvm.MethodName)) ∈ lw_tbl := List.mem_of_getElem? (i := 1113) (by decide +kernel)
theorem qw_1041 : (Jvm.Cond.static ({ cls := "java/lang/Integer", name := "stringSize", desc := "(I)I" } : Jvm.MethodName)) ∈ lw_tbl := List.mem_of_getElem? (i := 1114) (by decide +kernel)
set_option maxRecDepth 50000 in
theorem qw_1042 : (Jvm.Cond.code ({ cls := "java/lang/Integer", name := "stringSize", desc := "(I)I" } : Jvm.MethodName) prog_20_method_13_code (4 : Nat) (Option.some Jvm.ClassFile.FieldType.int)) ∈ lw_tbl := List.mem_of_getElem? (i := 1115) rfl
theorem qw_1043 : (Jvm.Cond.methodLink "java/lang/AbstractStringBuilder" (100 : Nat) ({ cls := "java/lang/AbstractStringBuilder", name := "ensureCapacityInternal", desc := "(I)V" } : Jvm.MethodName)) ∈ lw_tbl := List.mem_of_getElem? (i := 1116) (by decide +kernel)
theorem qw_1045 : (Jvm.Cond.instanceMethod ({ cls := "java/lang/AbstractStringBuilder", name := "ensureCapacityInternal", desc := "(I)V" } : Jvm.MethodName)) ∈ lw_tbl := List.mem_of_getElem? (i := 1118) (by decide +kernel)
set_option maxRecDepth 50000 in
theorem qw_1046 : (Jvm.Cond.code ({ cls := "java/lang/AbstractStringBuilder", name := "ensureCapacityInternal", desc := "(I)V" } : Jvm.MethodName) prog_11_method_9_code (3 : Nat) (Option.none : Option Jvm.ClassFile.FieldType)) ∈ lw_tbl := List.mem_of_getElem? (i := 1119) rfl
theorem qw_1047 : (Jvm.Cond.methodLink "java/lang/AbstractStringBuilder" (104 : Nat) ({ cls := "java/lang/AbstractStringBuilder", name := "newCapacity", desc := "(I)I" } : Jvm.MethodName)) ∈ lw_tbl := List.mem_of_getElem? (i := 1120) (by decide +kernel)
theorem qw_1049 : (Jvm.Cond.instanceMethod ({ cls := "java/lang/AbstractStringBuilder", name := "newCapacity", desc := "(I)I" } : Jvm.MethodName)) ∈ lw_tbl := List.mem_of_getElem? (i := 1122) (by decide +kernel)
set_option maxRecDepth 50000 in
theorem qw_1050 : (Jvm.Cond.code ({ cls := "java/lang/AbstractStringBuilder", name := "newCapacity", desc := "(I)I" } : Jvm.MethodName) prog_11_method_10_code (6 : Nat) (Option.some Jvm.ClassFile.FieldType.int)) ∈ lw_tbl := List.mem_of_getElem? (i := 1123) rfl
theorem qw_1051 : (Jvm.Cond.methodLink "java/lang/AbstractStringBuilder" (114 : Nat) ({ cls := "jdk/internal/util/ArraysSupport", name := "newLength", desc := "(III)I" } : Jvm.MethodName)) ∈ lw_tbl := List.mem_of_getElem? (i := 1124) (by decide +kernel)
theorem qw_1052 : (Jvm.Cond.constant "java/lang/AbstractStringBuilder" (39 : Nat) (2147483647 : Int32)) ∈ lw_tbl := List.mem_of_getElem? (i := 1125) (by decide +kernel)
theorem qw_1053 : (Jvm.Cond.methodLink "java/lang/AbstractStringBuilder" (108 : Nat) ({ cls := "java/util/Arrays", name := "copyOf", desc := "([BI)[B" } : Jvm.MethodName)) ∈ lw_tbl := List.mem_of_getElem? (i := 1126) (by decide +kernel)
theorem qw_1054 : (Jvm.Cond.static ({ cls := "java/util/Arrays", name := "copyOf", desc := "([BI)[B" } : Jvm.MethodName)) ∈ lw_tbl := List.mem_of_getElem? (i := 1127) (by decide +kernel)
set_option maxRecDepth 50000 in
theorem qw_1055 : (Jvm.Cond.code ({ cls := "java/util/Arrays", name := "copyOf", desc := "([BI)[B" } : Jvm.MethodName) prog_38_method_121_code (3 : Nat) (Option.some (Jvm.ClassFile.FieldType.array Jvm.ClassFile.FieldType.byte))) ∈ lw_tbl := List.mem_of_getElem? (i := 1128) rfl
theorem qw_1056 : (Jvm.Cond.methodLink "java/util/Arrays" (310 : Nat) ({ cls := "[B", name := "clone", desc := "()Ljava/lang/Object;" } : Jvm.MethodName)) ∈ lw_tbl := List.mem_of_getElem? (i := 1129) (by decide +kernel)
theorem qw_1057 : (Jvm.Cond.sameMethod "[B" "java/lang/Object" "clone" "()Ljava/lang/Object;") ∈ lw_tbl := List.mem_of_getElem? (i := 1130) (by decide +kernel)
theorem qw_1058 : (Jvm.Cond.native ({ cls := "java/lang/Object", name := "clone", desc := "()Ljava/lang/Object;" } : Jvm.MethodName)) ∈ lw_tbl := List.mem_of_getElem? (i := 1131) (by decide +kernel)
theorem qw_1059 : (Jvm.Cond.instanceMethod ({ cls := "java/lang/Object", name := "clone", desc := "()Ljava/lang/Object;" } : Jvm.MethodName)) ∈ lw_tbl := List.mem_of_getElem? (i := 1132) (by decide +kernel)
theorem qw_1060 : (Jvm.Cond.selects "[B" ({ cls := "[B", name := "clone", desc := "()Ljava/lang/Object;" } : Jvm.MethodName) ({ cls := "java/lang/Object", name := "clone", desc := "()Ljava/lang/Object;" } : Jvm.MethodName)) ∈ lw_tbl := List.mem_of_getElem? (i := 1133) (by decide +kernel)
theorem qw_1061 : (Jvm.Cond.castable "[B" "java/lang/Cloneable") ∈ lw_tbl := List.mem_of_getElem? (i := 1134) (by decide +kernel)
theorem qw_1062 : (Jvm.Cond.classLink "java/util/Arrays" (311 : Nat) "[B") ∈ lw_tbl := List.mem_of_getElem? (i := 1135) (by decide +kernel)
theorem qw_1063 : (Jvm.Cond.methodLink "java/lang/AbstractStringBuilder" (83 : Nat) ({ cls := "java/lang/AbstractStringBuilder", name := "isLatin1", desc := "()Z" } : Jvm.MethodName)) ∈ lw_tbl := List.mem_of_getElem? (i := 1136) (by decide +kernel)
theorem qw_1064 : (Jvm.Cond.instanceMethod ({ cls := "java/lang/AbstractStringBuilder", name := "isLatin1", desc := "()Z" } : Jvm.MethodName)) ∈ lw_tbl := List.mem_of_getElem? (i := 1137) (by decide +kernel)
theorem qw_1065 : (Jvm.Cond.sameMethod "java/lang/AbstractStringBuilder" "java/lang/AbstractStringBuilder" "isLatin1" "()Z") ∈ lw_tbl := List.mem_of_getElem? (i := 1138) (by decide +kernel)
theorem qw_1066 : (Jvm.Cond.selects "java/lang/StringBuilder" ({ cls := "java/lang/AbstractStringBuilder", name := "isLatin1", desc := "()Z" } : Jvm.MethodName) ({ cls := "java/lang/AbstractStringBuilder", name := "isLatin1", desc := "()Z" } : Jvm.MethodName)) ∈ lw_tbl := List.mem_of_getElem? (i := 1139) (by decide +kernel)
set_option maxRecDepth 50000 in
theorem qw_1067 : (Jvm.Cond.code ({ cls := "java/lang/AbstractStringBuilder", name := "isLatin1", desc := "()Z" } : Jvm.MethodName) prog_11_method_68_code (1 : Nat) (Option.some Jvm.ClassFile.FieldType.boolean)) ∈ lw_tbl := List.mem_of_getElem? (i := 1140) rfl
theorem qw_1068 : (Jvm.Cond.methodLink "java/lang/AbstractStringBuilder" (248 : Nat) ({ cls := "java/lang/Integer", name := "getChars", desc := "(II[B)I" } : Jvm.MethodName)) ∈ lw_tbl := List.mem_of_getElem? (i := 1141) (by decide +kernel)
theorem qw_1069 : (Jvm.Cond.static ({ cls := "java/lang/Integer", name := "getChars", desc := "(II[B)I" } : Jvm.MethodName)) ∈ lw_tbl := List.mem_of_getElem? (i := 1142) (by decide +kernel)
set_option maxRecDepth 50000 in
theorem qw_1070 : (Jvm.Cond.code ({ cls := "java/lang/Integer", name := "getChars", desc := "(II[B)I" } : Jvm.MethodName) prog_20_method_12_code (7 : Nat) (Option.some Jvm.ClassFile.FieldType.int)) ∈ lw_tbl := List.mem_of_getElem? (i := 1143) rfl
theorem qw_1071 : (Jvm.Cond.fieldLink "java/lang/Integer" (83 : Nat) "java/lang/Integer" "DigitOnes" "[B") ∈ lw_tbl := List.mem_of_getElem? (i := 1144) (by decide +kernel)
theorem qw_1073 : (Jvm.Cond.fieldLink "java/lang/Integer" (87 : Nat) "java/lang/Integer" "DigitTens" "[B") ∈ lw_tbl := List.mem_of_getElem? (i := 1146) (by decide +kernel)
theorem qw_1075 : (Jvm.Cond.methodLink "java/lang/AbstractStringBuilder" (251 : Nat) ({ cls := "java/lang/StringUTF16", name := "getChars", desc := "(III[B)I" } : Jvm.MethodName)) ∈ lw_tbl := List.mem_of_getElem? (i := 1148) (by decide +kernel)
theorem qw_1076 : (Jvm.Cond.static ({ cls := "java/lang/StringUTF16", name := "getChars", desc := "(III[B)I" } : Jvm.MethodName)) ∈ lw_tbl := List.mem_of_getElem? (i := 1149) (by decide +kernel)
set_option maxRecDepth 50000 in
theorem qw_1077 : (Jvm.Cond.code ({ cls := "java/lang/StringUTF16", name := "getChars", desc := "(III[B)I" } : Jvm.MethodName) prog_29_method_77_code (5 : Nat) (Option.some Jvm.ClassFile.FieldType.int)) ∈ lw_tbl := List.mem_of_getElem? (i := 1150) rfl
theorem qw_1078 : (Jvm.Cond.methodLink "java/lang/StringUTF16" (96 : Nat) ({ cls := "java/lang/StringUTF16", name := "checkBoundsBeginEnd", desc := "(II[B)V" } : Jvm.MethodName)) ∈ lw_tbl := List.mem_of_getElem? (i := 1151) (by decide +kernel)
theorem qw_1079 : (Jvm.Cond.static ({ cls := "java/lang/StringUTF16", name := "checkBoundsBeginEnd", desc := "(II[B)V" } : Jvm.MethodName)) ∈ lw_tbl := List.mem_of_getElem? (i := 1152) (by decide +kernel)
set_option maxRecDepth 50000 in
theorem qw_1080 : (Jvm.Cond.code ({ cls := "java/lang/StringUTF16", name := "checkBoundsBeginEnd", desc := "(II[B)V" } : Jvm.MethodName) prog_29_method_93_code (3 : Nat) (Option.none : Option Jvm.ClassFile.FieldType)) ∈ lw_tbl := List.mem_of_getElem? (i := 1153) rfl
theorem qw_1081 : (Jvm.Cond.methodLink "java/lang/StringUTF16" (48 : Nat) ({ cls := "java/lang/StringUTF16", name := "length", desc := "([B)I" } : Jvm.MethodName)) ∈ lw_tbl := List.mem_of_getElem? (i := 1154) (by decide +kernel)
theorem qw_1082 : (Jvm.Cond.static ({ cls := "java/lang/StringUTF16", name := "length", desc := "([B)I" } : Jvm.MethodName)) ∈ lw_tbl := List.mem_of_getElem? (i := 1155) (by decide +kernel)
set_option maxRecDepth 50000 in
theorem qw_1083 : (Jvm.Cond.code ({ cls := "java/lang/StringUTF16", name := "length", desc := "([B)I" } : Jvm.MethodName) prog_29_method_6_code (1 : Nat) (Option.some Jvm.ClassFile.FieldType.int)) ∈ lw_tbl := List.mem_of_getElem? (i := 1156) rfl
theorem qw_1084 : (Jvm.Cond.methodLink "java/lang/StringUTF16" (241 : Nat) ({ cls := "java/lang/String", name := "checkBoundsBeginEnd", desc := "(III)V" } : Jvm.MethodName)) ∈ lw_tbl := List.mem_of_getElem? (i := 1157) (by decide +kernel)
theorem qw_1085 : (Jvm.Cond.static ({ cls := "java/lang/String", name := "checkBoundsBeginEnd", desc := "(III)V" } : Jvm.MethodName)) ∈ lw_tbl := List.mem_of_getElem? (i := 1158) (by decide +kernel)
set_option maxRecDepth 50000 in
theorem qw_1086 : (Jvm.Cond.code ({ cls := "java/lang/String", name := "checkBoundsBeginEnd", desc := "(III)V" } : Jvm.MethodName) prog_26_method_158_code (3 : Nat) (Option.none : Option Jvm.ClassFile.FieldType)) ∈ lw_tbl := List.mem_of_getElem? (i := 1159) rfl
theorem qw_1087 : (Jvm.Cond.fieldLink "java/lang/String" (1053 : Nat) "jdk/internal/util/Preconditions" "SIOOBE_FORMATTER" "Ljava/util/function/BiFunction;") ∈ lw_tbl := List.mem_of_getElem? (i := 1160) (by decide +kernel)
theorem qw_1089 : (Jvm.Cond.methodLink "java/lang/String" (1062 : Nat) ({ cls := "jdk/internal/util/Preconditions", name := "checkFromToIndex", desc := "(IIILjava/util/function/BiFunction;)I" } : Jvm.MethodName)) ∈ lw_tbl := List.mem_of_getElem? (i := 1162) (by decide +kernel)
theorem qw_1090 : (Jvm.Cond.static ({ cls := "jdk/internal/util/Preconditions", name := "checkFromToIndex", desc := "(IIILjava/util/function/BiFunction;)I" } : Jvm.MethodName)) ∈ lw_tbl := List.mem_of_getElem? (i := 1163) (by decide +kernel)
set_option maxRecDepth 50000 in
theorem qw_1091 : (Jvm.Cond.code ({ cls := "jdk/internal/util/Preconditions", name := "checkFromToIndex", desc := "(IIILjava/util/function/BiFunction;)I" } : Jvm.MethodName) prog_47_method_12_code (4 : Nat) (Option.some Jvm.ClassFile.FieldType.int)) ∈ lw_tbl := List.mem_of_getElem? (i := 1164) rfl
theorem qw_1092 : (Jvm.Cond.methodLink "java/lang/StringUTF16" (393 : Nat) ({ cls := "java/lang/StringUTF16", name := "getChars", desc := "(II[B)I" } : Jvm.MethodName)) ∈ lw_tbl := List.mem_of_getElem? (i := 1165) (by decide +kernel)
theorem qw_1093 : (Jvm.Cond.static ({ cls := "java/lang/StringUTF16", name := "getChars", desc := "(II[B)I" } : Jvm.MethodName)) ∈ lw_tbl := List.mem_of_getElem? (i := 1166) (by decide +kernel)
set_option maxRecDepth 50000 in
theorem qw_1094 : (Jvm.Cond.code ({ cls := "java/lang/StringUTF16", name := "getChars", desc := "(II[B)I" } : Jvm.MethodName) prog_29_method_89_code (7 : Nat) (Option.some Jvm.ClassFile.FieldType.int)) ∈ lw_tbl := List.mem_of_getElem? (i := 1167) rfl
theorem qw_1095 : (Jvm.Cond.fieldLink "java/lang/StringUTF16" (403 : Nat) "java/lang/Integer" "DigitOnes" "[B") ∈ lw_tbl := List.mem_of_getElem? (i := 1168) (by decide +kernel)
theorem qw_1096 : (Jvm.Cond.methodLink "java/lang/StringUTF16" (111 : Nat) ({ cls := "java/lang/StringUTF16", name := "putChar", desc := "([BII)V" } : Jvm.MethodName)) ∈ lw_tbl := List.mem_of_getElem? (i := 1169) (by decide +kernel)
theorem qw_1097 : (Jvm.Cond.static ({ cls := "java/lang/StringUTF16", name := "putChar", desc := "([BII)V" } : Jvm.MethodName)) ∈ lw_tbl := List.mem_of_getElem? (i := 1170) (by decide +kernel)
set_option maxRecDepth 50000 in
theorem qw_1098 : (Jvm.Cond.code ({ cls := "java/lang/StringUTF16", name := "putChar", desc := "([BII)V" } : Jvm.MethodName) prog_29_method_4_code (3 : Nat) (Option.none : Option Jvm.ClassFile.FieldType)) ∈ lw_tbl := List.mem_of_getElem? (i := 1171) rfl
theorem qw_1099 : (Jvm.Cond.fieldLink "java/lang/StringUTF16" (44 : Nat) "java/lang/StringUTF16" "$assertionsDisabled" "Z") ∈ lw_tbl := List.mem_of_getElem? (i := 1172) (by decide +kernel)
theorem qw_1101 : (Jvm.Cond.fieldLink "java/lang/StringUTF16" (59 : Nat) "java/lang/StringUTF16" "HI_BYTE_SHIFT" "I") ∈ lw_tbl := List.mem_of_getElem? (i := 1174) (by decide +kernel)
theorem qw_1103 : (Jvm.Cond.fieldLink "java/lang/StringUTF16" (63 : Nat) "java/lang/StringUTF16" "LO_BYTE_SHIFT" "I") ∈ lw_tbl := List.mem_of_getElem? (i := 1176) (by decide +kernel)
theorem qw_1105 : (Jvm.Cond.fieldLink "java/lang/StringUTF16" (407 : Nat) "java/lang/Integer" "DigitTens" "[B") ∈ lw_tbl := List.mem_of_getElem? (i := 1178) (by decide +kernel)
theorem qw_1107 : (Jvm.Cond.methodLink "java/util/Arrays" (50 : Nat) ({ cls := "java/lang/StringBuilder", name := "append", desc := "(Ljava/lang/String;)Ljava/lang/StringBuilder;" } : Jvm.MethodName)) ∈ lw_tbl := List.mem_of_getElem? (i := 1180) (by decide +kernel)
theorem qw_1108 : (Jvm.Cond.instanceMethod ({ cls := "java/lang/StringBuilder", name := "append", desc := "(Ljava/lang/String;)Ljava/lang/StringBuilder;" } : Jvm.MethodName)) ∈ lw_tbl := List.mem_of_getElem? (i := 1181) (by decide +kernel)
theorem qw_1109 : (Jvm.Cond.selects "java/lang/StringBuilder" ({ cls := "java/lang/StringBuilder", name := "append", desc := "(Ljava/lang/String;)Ljava/lang/StringBuilder;" } : Jvm.MethodName) ({ cls := "java/lang/StringBuilder", name := "append", desc := "(Ljava/lang/String;)Ljava/lang/StringBuilder;" } : Jvm.MethodName)) ∈ lw_tbl := List.mem_of_getElem? (i := 1182) (by decide +kernel)
set_option maxRecDepth 50000 in
theorem qw_1110 : (Jvm.Cond.code ({ cls := "java/lang/StringBuilder", name := "append", desc := "(Ljava/lang/String;)Ljava/lang/StringBuilder;" } : Jvm.MethodName) prog_27_method_7_code (2 : Nat) (Option.some (Jvm.ClassFile.FieldType.object "java/lang/StringBuilder"))) ∈ lw_tbl := List.mem_of_getElem? (i := 1183) rfl
theorem qw_1111 : (Jvm.Cond.methodLink "java/lang/StringBuilder" (29 : Nat) ({ cls := "java/lang/AbstractStringBuilder", name := "append", desc := "(Ljava/lang/String;)Ljava/lang/AbstractStringBuilder;" } : Jvm.MethodName)) ∈ lw_tbl := List.mem_of_getElem? (i := 1184) (by decide +kernel)
theorem qw_1112 : (Jvm.Cond.instanceMethod ({ cls := "java/lang/AbstractStringBuilder", name := "append", desc := "(Ljava/lang/String;)Ljava/lang/AbstractStringBuilder;" } : Jvm.MethodName)) ∈ lw_tbl := List.mem_of_getElem? (i := 1185) (by decide +kernel)
set_option maxRecDepth 50000 in
theorem qw_1113 : (Jvm.Cond.code ({ cls := "java/lang/AbstractStringBuilder", name := "append", desc := "(Ljava/lang/String;)Ljava/lang/AbstractStringBuilder;" } : Jvm.MethodName) prog_11_method_22_code (3 : Nat) (Option.some (Jvm.ClassFile.FieldType.object "java/lang/AbstractStringBuilder"))) ∈ lw_tbl := List.mem_of_getElem? (i := 1186) rfl
theorem qw_1114 : (Jvm.Cond.methodLink "java/lang/AbstractStringBuilder" (204 : Nat) ({ cls := "java/lang/AbstractStringBuilder", name := "appendNull", desc := "()Ljava/lang/AbstractStringBuilder;" } : Jvm.MethodName)) ∈ lw_tbl := List.mem_of_getElem? (i := 1187) (by decide +kernel)
theorem qw_1116 : (Jvm.Cond.instanceMethod ({ cls := "java/lang/AbstractStringBuilder", name := "appendNull", desc := "()Ljava/lang/AbstractStringBuilder;" } : Jvm.MethodName)) ∈ lw_tbl := List.mem_of_getElem? (i := 1189) (by decide +kernel)
set_option maxRecDepth 50000 in
theorem qw_1117 : (Jvm.Cond.code ({ cls := "java/lang/AbstractStringBuilder", name := "appendNull", desc := "()Ljava/lang/AbstractStringBuilder;" } : Jvm.MethodName) prog_11_method_26_code (3 : Nat) (Option.some (Jvm.ClassFile.FieldType.object "java/lang/AbstractStringBuilder"))) ∈ lw_tbl := List.mem_of_getElem? (i := 1190) rfl
theorem qw_1118 : (Jvm.Cond.methodLink "java/lang/AbstractStringBuilder" (226 : Nat) ({ cls := "java/lang/StringUTF16", name := "putCharsAt", desc := "([BICCCC)I" } : Jvm.MethodName)) ∈ lw_tbl := List.mem_of_getElem? (i := 1191) (by decide +kernel)
theorem qw_1119 : (Jvm.Cond.static ({ cls := "java/lang/StringUTF16", name := "putCharsAt", desc := "([BICCCC)I" } : Jvm.MethodName)) ∈ lw_tbl := List.mem_of_getElem? (i := 1192) (by decide +kernel)
set_option maxRecDepth 50000 in
theorem qw_1120 : (Jvm.Cond.code ({ cls := "java/lang/StringUTF16", name := "putCharsAt", desc := "([BICCCC)I" } : Jvm.MethodName) prog_29_method_81_code (7 : Nat) (Option.some Jvm.ClassFile.FieldType.int)) ∈ lw_tbl := List.mem_of_getElem? (i := 1193) rfl
theorem qw_1121 : (Jvm.Cond.methodLink "java/lang/AbstractStringBuilder" (32 : Nat) ({ cls := "java/lang/String", name := "length", desc := "()I" } : Jvm.MethodName)) ∈ lw_tbl := List.mem_of_getElem? (i := 1194) (by decide +kernel)
theorem qw_1122 : (Jvm.Cond.instanceMethod ({ cls := "java/lang/String", name := "length", desc := "()I" } : Jvm.MethodName)) ∈ lw_tbl := List.mem_of_getElem? (i := 1195) (by decide +kernel)
theorem qw_1123 : (Jvm.Cond.selects "java/lang/String" ({ cls := "java/lang/String", name := "length", desc := "()I" } : Jvm.MethodName) ({ cls := "java/lang/String", name := "length", desc := "()I" } : Jvm.MethodName)) ∈ lw_tbl := List.mem_of_getElem? (i := 1196) (by decide +kernel)
set_option maxRecDepth 50000 in
theorem qw_1124 : (Jvm.Cond.code ({ cls := "java/lang/String", name := "length", desc := "()I" } : Jvm.MethodName) prog_26_method_54_code (1 : Nat) (Option.some Jvm.ClassFile.FieldType.int)) ∈ lw_tbl := List.mem_of_getElem? (i := 1197) rfl
theorem qw_1125 : (Jvm.Cond.methodLink "java/lang/String" (335 : Nat) ({ cls := "java/lang/String", name := "coder", desc := "()B" } : Jvm.MethodName)) ∈ lw_tbl := List.mem_of_getElem? (i := 1198) (by decide +kernel)
theorem qw_1126 : (Jvm.Cond.instanceMethod ({ cls := "java/lang/String", name := "coder", desc := "()B" } : Jvm.MethodName)) ∈ lw_tbl := List.mem_of_getElem? (i := 1199) (by decide +kernel)
theorem qw_1127 : (Jvm.Cond.selects "java/lang/String" ({ cls := "java/lang/String", name := "coder", desc := "()B" } : Jvm.MethodName) ({ cls := "java/lang/String", name := "coder", desc := "()B" } : Jvm.MethodName)) ∈ lw_tbl := List.mem_of_getElem? (i := 1200) (by decide +kernel)
set_option maxRecDepth 50000 in
theorem qw_1128 : (Jvm.Cond.code ({ cls := "java/lang/String", name := "coder", desc := "()B" } : Jvm.MethodName) prog_26_method_152_code (1 : Nat) (Option.some Jvm.ClassFile.FieldType.byte)) ∈ lw_tbl := List.mem_of_getElem? (i := 1201) rfl
theorem qw_1129 : (Jvm.Cond.fieldLink "java/lang/String" (38 : Nat) "java/lang/String" "COMPACT_STRINGS" "Z") ∈ lw_tbl := List.mem_of_getElem? (i := 1202) (by decide +kernel)
theorem qw_1130 : (Jvm.Cond.methodLink "java/lang/AbstractStringBuilder" (208 : Nat) ({ cls := "java/lang/AbstractStringBuilder", name := "putStringAt", desc := "(ILjava/lang/String;)V" } : Jvm.MethodName)) ∈ lw_tbl := List.mem_of_getElem? (i := 1203) (by decide +kernel)
theorem qw_1132 : (Jvm.Cond.instanceMethod ({ cls := "java/lang/AbstractStringBuilder", name := "putStringAt", desc := "(ILjava/lang/String;)V" } : Jvm.MethodName)) ∈ lw_tbl := List.mem_of_getElem? (i := 1205) (by decide +kernel)
set_option maxRecDepth 50000 in
theorem qw_1133 : (Jvm.Cond.code ({ cls := "java/lang/AbstractStringBuilder", name := "putStringAt", desc := "(ILjava/lang/String;)V" } : Jvm.MethodName) prog_11_method_73_code (3 : Nat) (Option.none : Option Jvm.ClassFile.FieldType)) ∈ lw_tbl := List.mem_of_getElem? (i := 1206) rfl
theorem qw_1134 : (Jvm.Cond.methodLink "java/lang/AbstractStringBuilder" (397 : Nat) ({ cls := "java/lang/AbstractStringBuilder", name := "inflateIfNeededFor", desc := "(Ljava/lang/String;)V" } : Jvm.MethodName)) ∈ lw_tbl := List.mem_of_getElem? (i := 1207) (by decide +kernel)
theorem qw_1136 : (Jvm.Cond.instanceMethod ({ cls := "java/lang/AbstractStringBuilder", name := "inflateIfNeededFor", desc := "(Ljava/lang/String;)V" } : Jvm.MethodName)) ∈ lw_tbl := List.mem_of_getElem? (i := 1209) (by decide +kernel)
set_option maxRecDepth 50000 in
theorem qw_1137 : (Jvm.Cond.code ({ cls := "java/lang/AbstractStringBuilder", name := "inflateIfNeededFor", desc := "(Ljava/lang/String;)V" } : Jvm.MethodName) prog_11_method_71_code (2 : Nat) (Option.none : Option Jvm.ClassFile.FieldType)) ∈ lw_tbl := List.mem_of_getElem? (i := 1210) rfl
theorem qw_1138 : (Jvm.Cond.methodLink "java/lang/AbstractStringBuilder" (40 : Nat) ({ cls := "java/lang/String", name := "coder", desc := "()B" } : Jvm.MethodName)) ∈ lw_tbl := List.mem_of_getElem? (i := 1211) (by decide +kernel)
theorem qw_1139 : (Jvm.Cond.methodLink "java/lang/AbstractStringBuilder" (195 : Nat) ({ cls := "java/lang/AbstractStringBuilder", name := "inflate", desc := "()V" } : Jvm.MethodName)) ∈ lw_tbl := List.mem_of_getElem? (i := 1212) (by decide +kernel)
theorem qw_1141 : (Jvm.Cond.instanceMethod ({ cls := "java/lang/AbstractStringBuilder", name := "inflate", desc := "()V" } : Jvm.MethodName)) ∈ lw_tbl := List.mem_of_getElem? (i := 1214) (by decide +kernel)
set_option maxRecDepth 50000 in
theorem qw_1142 : (Jvm.Cond.code ({ cls := "java/lang/AbstractStringBuilder", name := "inflate", desc := "()V" } : Jvm.MethodName) prog_11_method_11_code (2 : Nat) (Option.none : Option Jvm.ClassFile.FieldType)) ∈ lw_tbl := List.mem_of_getElem? (i := 1215) rfl
theorem qw_1143 : (Jvm.Cond.methodLink "java/lang/AbstractStringBuilder" (125 : Nat) ({ cls := "java/lang/StringLatin1", name := "inflate", desc := "([BI[BII)V" } : Jvm.MethodName)) ∈ lw_tbl := List.mem_of_getElem? (i := 1216) (by decide +kernel)
theorem qw_1144 : (Jvm.Cond.static ({ cls := "java/lang/StringLatin1", name := "inflate", desc := "([BI[BII)V" } : Jvm.MethodName)) ∈ lw_tbl := List.mem_of_getElem? (i := 1217) (by decide +kernel)
set_option maxRecDepth 50000 in
theorem qw_1145 : (Jvm.Cond.code ({ cls := "java/lang/StringLatin1", name := "inflate", desc := "([BI[BII)V" } : Jvm.MethodName) prog_28_method_50_code (5 : Nat) (Option.none : Option Jvm.ClassFile.FieldType)) ∈ lw_tbl := List.mem_of_getElem? (i := 1218) rfl
theorem qw_1146 : (Jvm.Cond.methodLink "java/lang/StringLatin1" (240 : Nat) ({ cls := "java/lang/StringUTF16", name := "inflate", desc := "([BI[BII)V" } : Jvm.MethodName)) ∈ lw_tbl := List.mem_of_getElem? (i := 1219) (by decide +kernel)
theorem qw_1147 : (Jvm.Cond.static ({ cls := "java/lang/StringUTF16", name := "inflate", desc := "([BI[BII)V" } : Jvm.MethodName)) ∈ lw_tbl := List.mem_of_getElem? (i := 1220) (by decide +kernel)
set_option maxRecDepth 50000 in
theorem qw_1148 : (Jvm.Cond.code ({ cls := "java/lang/StringUTF16", name := "inflate", desc := "([BI[BII)V" } : Jvm.MethodName) prog_29_method_86_code (6 : Nat) (Option.none : Option Jvm.ClassFile.FieldType)) ∈ lw_tbl := List.mem_of_getElem? (i := 1221) rfl
theorem qw_1149 : (Jvm.Cond.methodLink "java/lang/StringUTF16" (173 : Nat) ({ cls := "java/lang/StringUTF16", name := "checkBoundsOffCount", desc := "(II[B)V" } : Jvm.MethodName)) ∈ lw_tbl := List.mem_of_getElem? (i := 1222) (by decide +kernel)
theorem qw_1150 : (Jvm.Cond.static ({ cls := "java/lang/StringUTF16", name := "checkBoundsOffCount", desc := "(II[B)V" } : Jvm.MethodName)) ∈ lw_tbl := List.mem_of_getElem? (i := 1223) (by decide +kernel)
set_option maxRecDepth 50000 in
theorem qw_1151 : (Jvm.Cond.code ({ cls := "java/lang/StringUTF16", name := "checkBoundsOffCount", desc := "(II[B)V" } : Jvm.MethodName) prog_29_method_94_code (3 : Nat) (Option.none : Option Jvm.ClassFile.FieldType)) ∈ lw_tbl := List.mem_of_getElem? (i := 1224) rfl
theorem qw_1152 : (Jvm.Cond.methodLink "java/lang/StringUTF16" (419 : Nat) ({ cls := "java/lang/String", name := "checkBoundsOffCount", desc := "(III)I" } : Jvm.MethodName)) ∈ lw_tbl := List.mem_of_getElem? (i := 1225) (by decide +kernel)
theorem qw_1153 : (Jvm.Cond.static ({ cls := "java/lang/String", name := "checkBoundsOffCount", desc := "(III)I" } : Jvm.MethodName)) ∈ lw_tbl := List.mem_of_getElem? (i := 1226) (by decide +kernel)
set_option maxRecDepth 50000 in
theorem qw_1154 : (Jvm.Cond.code ({ cls := "java/lang/String", name := "checkBoundsOffCount", desc := "(III)I" } : Jvm.MethodName) prog_26_method_157_code (3 : Nat) (Option.some Jvm.ClassFile.FieldType.int)) ∈ lw_tbl := List.mem_of_getElem? (i := 1227) rfl
theorem qw_1155 : (Jvm.Cond.methodLink "java/lang/String" (1065 : Nat) ({ cls := "jdk/internal/util/Preconditions", name := "checkFromIndexSize", desc := "(IIILjava/util/function/BiFunction;)I" } : Jvm.MethodName)) ∈ lw_tbl := List.mem_of_getElem? (i := 1228) (by decide +kernel)
theorem qw_1156 : (Jvm.Cond.static ({ cls := "jdk/internal/util/Preconditions", name := "checkFromIndexSize", desc := "(IIILjava/util/function/BiFunction;)I" } : Jvm.MethodName)) ∈ lw_tbl := List.mem_of_getElem? (i := 1229) (by decide +kernel)
set_option maxRecDepth 50000 in
theorem qw_1157 : (Jvm.Cond.code ({ cls := "jdk/internal/util/Preconditions", name := "checkFromIndexSize", desc := "(IIILjava/util/function/BiFunction;)I" } : Jvm.MethodName) prog_47_method_13_code (4 : Nat) (Option.some Jvm.ClassFile.FieldType.int)) ∈ lw_tbl := List.mem_of_getElem? (i := 1230) rfl
theorem qw_1158 : (Jvm.Cond.methodLink "java/lang/AbstractStringBuilder" (399 : Nat) ({ cls := "java/lang/String", name := "getBytes", desc := "([BIB)V" } : Jvm.MethodName)) ∈ lw_tbl := List.mem_of_getElem? (i := 1231) (by decide +kernel)
theorem qw_1159 : (Jvm.Cond.instanceMethod ({ cls := "java/lang/String", name := "getBytes", desc := "([BIB)V" } : Jvm.MethodName)) ∈ lw_tbl := List.mem_of_getElem? (i := 1232) (by decide +kernel)
theorem qw_1160 : (Jvm.Cond.selects "java/lang/String" ({ cls := "java/lang/String", name := "getBytes", desc := "([BIB)V" } : Jvm.MethodName) ({ cls := "java/lang/String", name := "getBytes", desc := "([BIB)V" } : Jvm.MethodName)) ∈ lw_tbl := List.mem_of_getElem? (i := 1233) (by decide +kernel)
set_option maxRecDepth 50000 in
theorem qw_1161 : (Jvm.Cond.code ({ cls := "java/lang/String", name := "getBytes", desc := "([BIB)V" } : Jvm.MethodName) prog_26_method_147_code (4 : Nat) (Option.none : Option Jvm.ClassFile.FieldType)) ∈ lw_tbl := List.mem_of_getElem? (i := 1234) rfl
theorem qw_1162 : (Jvm.Cond.methodLink "java/lang/String" (212 : Nat) ({ cls := "java/lang/System", name := "arraycopy", desc := "(Ljava/lang/Object;ILjava/lang/Object;II)V" } : Jvm.MethodName)) ∈ lw_tbl := List.mem_of_getElem? (i := 1235) (by decide +kernel)
theorem qw_1163 : (Jvm.Cond.methodLink "java/lang/String" (106 : Nat) ({ cls := "java/lang/StringLatin1", name := "inflate", desc := "([BI[BII)V" } : Jvm.MethodName)) ∈ lw_tbl := List.mem_of_getElem? (i := 1236) (by decide +kernel)
theorem qw_1164 : (Jvm.Cond.methodLink "java/util/Arrays" (61 : Nat) ({ cls := "java/lang/StringBuilder", name := "toString", desc := "()Ljava/lang/String;" } : Jvm.MethodName)) ∈ lw_tbl := List.mem_of_getElem? (i := 1237) (by decide +kernel)
theorem qw_1165 : (Jvm.Cond.instanceMethod ({ cls := "java/lang/StringBuilder", name := "toString", desc := "()Ljava/lang/String;" } : Jvm.MethodName)) ∈ lw_tbl := List.mem_of_getElem? (i := 1238) (by decide +kernel)
theorem qw_1166 : (Jvm.Cond.selects "java/lang/StringBuilder" ({ cls := "java/lang/StringBuilder", name := "toString", desc := "()Ljava/lang/String;" } : Jvm.MethodName) ({ cls := "java/lang/StringBuilder", name := "toString", desc := "()Ljava/lang/String;" } : Jvm.MethodName)) ∈ lw_tbl := List.mem_of_getElem? (i := 1239) (by decide +kernel)
set_option maxRecDepth 50000 in
theorem qw_1167 : (Jvm.Cond.code ({ cls := "java/lang/StringBuilder", name := "toString", desc := "()Ljava/lang/String;" } : Jvm.MethodName) prog_27_method_42_code (1 : Nat) (Option.some (Jvm.ClassFile.FieldType.object "java/lang/String"))) ∈ lw_tbl := List.mem_of_getElem? (i := 1240) rfl
theorem qw_1168 : (Jvm.Cond.classLink "java/lang/StringBuilder" (18 : Nat) "java/lang/String") ∈ lw_tbl := List.mem_of_getElem? (i := 1241) (by decide +kernel)
theorem qw_1169 : (Jvm.Cond.instantiable "java/lang/String" (4 : Nat)) ∈ lw_tbl := List.mem_of_getElem? (i := 1242) (by decide +kernel)
theorem qw_1170 : (Jvm.Cond.methodLink "java/lang/StringBuilder" (137 : Nat) ({ cls := "java/lang/String", name := "<init>", desc := "(Ljava/lang/StringBuilder;)V" } : Jvm.MethodName)) ∈ lw_tbl := List.mem_of_getElem? (i := 1243) (by decide +kernel)
theorem qw_1171 : (Jvm.Cond.instanceMethod ({ cls := "java/lang/String", name := "<init>", desc := "(Ljava/lang/StringBuilder;)V" } : Jvm.MethodName)) ∈ lw_tbl := List.mem_of_getElem? (i := 1244) (by decide +kernel)
set_option maxRecDepth 50000 in
theorem qw_1172 : (Jvm.Cond.code ({ cls := "java/lang/String", name := "<init>", desc := "(Ljava/lang/StringBuilder;)V" } : Jvm.MethodName) prog_26_method_53_code (2 : Nat) (Option.none : Option Jvm.ClassFile.FieldType)) ∈ lw_tbl := List.mem_of_getElem? (i := 1245) rfl
theorem qw_1173 : (Jvm.Cond.methodLink "java/lang/String" (489 : Nat) ({ cls := "java/lang/String", name := "<init>", desc := "(Ljava/lang/AbstractStringBuilder;Ljava/lang/Void;)V" } : Jvm.MethodName)) ∈ lw_tbl := List.mem_of_getElem? (i := 1246) (by decide +kernel)
theorem qw_1174 : (Jvm.Cond.instanceMethod ({ cls := "java/lang/String", name := "<init>", desc := "(Ljava/lang/AbstractStringBuilder;Ljava/lang/Void;)V" } : Jvm.MethodName)) ∈ lw_tbl := List.mem_of_getElem? (i := 1247) (by decide +kernel)
set_option maxRecDepth 50000 in
theorem qw_1175 : (Jvm.Cond.code ({ cls := "java/lang/String", name := "<init>", desc := "(Ljava/lang/AbstractStringBuilder;Ljava/lang/Void;)V" } : Jvm.MethodName) prog_26_method_150_code (5 : Nat) (Option.none : Option Jvm.ClassFile.FieldType)) ∈ lw_tbl := List.mem_of_getElem? (i := 1248) rfl
theorem qw_1176 : (Jvm.Cond.methodLink "java/lang/String" (1 : Nat) ({ cls := "java/lang/Object", name := "<init>", desc := "()V" } : Jvm.MethodName)) ∈ lw_tbl := List.mem_of_getElem? (i := 1249) (by decide +kernel)
theorem qw_1177 : (Jvm.Cond.methodLink "java/lang/String" (552 : Nat) ({ cls := "java/lang/AbstractStringBuilder", name := "getValue", desc := "()[B" } : Jvm.MethodName)) ∈ lw_tbl := List.mem_of_getElem? (i := 1250) (by decide +kernel)
theorem qw_1178 : (Jvm.Cond.instanceMethod ({ cls := "java/lang/AbstractStringBuilder", name := "getValue", desc := "()[B" } : Jvm.MethodName)) ∈ lw_tbl := List.mem_of_getElem? (i := 1251) (by decide +kernel)
theorem qw_1179 : (Jvm.Cond.sameMethod "java/lang/AbstractStringBuilder" "java/lang/AbstractStringBuilder" "getValue" "()[B") ∈ lw_tbl := List.mem_of_getElem? (i := 1252) (by decide +kernel)
theorem qw_1180 : (Jvm.Cond.selects "java/lang/StringBuilder" ({ cls := "java/lang/AbstractStringBuilder", name := "getValue", desc := "()[B" } : Jvm.MethodName) ({ cls := "java/lang/AbstractStringBuilder", name := "getValue", desc := "()[B" } : Jvm.MethodName)) ∈ lw_tbl := List.mem_of_getElem? (i := 1253) (by decide +kernel)
set_option maxRecDepth 50000 in
theorem qw_1181 : (Jvm.Cond.code ({ cls := "java/lang/AbstractStringBuilder", name := "getValue", desc := "()[B" } : Jvm.MethodName) prog_11_method_64_code (1 : Nat) (Option.some (Jvm.ClassFile.FieldType.array Jvm.ClassFile.FieldType.byte))) ∈ lw_tbl := List.mem_of_getElem? (i := 1254) rfl
theorem qw_1182 : (Jvm.Cond.methodLink "java/lang/String" (549 : Nat) ({ cls := "java/lang/AbstractStringBuilder", name := "length", desc := "()I" } : Jvm.MethodName)) ∈ lw_tbl := List.mem_of_getElem? (i := 1255) (by decide +kernel)
theorem qw_1183 : (Jvm.Cond.instanceMethod ({ cls := "java/lang/AbstractStringBuilder", name := "length", desc := "()I" } : Jvm.MethodName)) ∈ lw_tbl := List.mem_of_getElem? (i := 1256) (by decide +kernel)
theorem qw_1184 : (Jvm.Cond.sameMethod "java/lang/AbstractStringBuilder" "java/lang/AbstractStringBuilder" "length" "()I") ∈ lw_tbl := List.mem_of_getElem? (i := 1257) (by decide +kernel)
theorem qw_1185 : (Jvm.Cond.selects "java/lang/StringBuilder" ({ cls := "java/lang/AbstractStringBuilder", name := "length", desc := "()I" } : Jvm.MethodName) ({ cls := "java/lang/StringBuilder", name := "length", desc := "()I" } : Jvm.MethodName)) ∈ lw_tbl := List.mem_of_getElem? (i := 1258) (by decide +kernel)
theorem qw_1186 : (Jvm.Cond.instanceMethod ({ cls := "java/lang/StringBuilder", name := "length", desc := "()I" } : Jvm.MethodName)) ∈ lw_tbl := List.mem_of_getElem? (i := 1259) (by decide +kernel)
set_option maxRecDepth 50000 in
theorem qw_1187 : (Jvm.Cond.code ({ cls := "java/lang/StringBuilder", name := "length", desc := "()I" } : Jvm.MethodName) prog_27_method_93_code (1 : Nat) (Option.some Jvm.ClassFile.FieldType.int)) ∈ lw_tbl := List.mem_of_getElem? (i := 1260) rfl
theorem qw_1188 : (Jvm.Cond.methodLink "java/lang/StringBuilder" (343 : Nat) ({ cls := "java/lang/AbstractStringBuilder", name := "length", desc := "()I" } : Jvm.MethodName)) ∈ lw_tbl := List.mem_of_getElem? (i := 1261) (by decide +kernel)
set_option maxRecDepth 50000 in
theorem qw_1189 : (Jvm.Cond.code ({ cls := "java/lang/AbstractStringBuilder", name := "length", desc := "()I" } : Jvm.MethodName) prog_11_method_6_code (1 : Nat) (Option.some Jvm.ClassFile.FieldType.int)) ∈ lw_tbl := List.mem_of_getElem? (i := 1262) rfl
theorem qw_1190 : (Jvm.Cond.methodLink "java/lang/String" (1047 : Nat) ({ cls := "java/lang/AbstractStringBuilder", name := "isLatin1", desc := "()Z" } : Jvm.MethodName)) ∈ lw_tbl := List.mem_of_getElem? (i := 1263) (by decide +kernel)
theorem qw_1191 : (Jvm.Cond.methodLink "java/lang/String" (54 : Nat) ({ cls := "java/util/Arrays", name := "copyOfRange", desc := "([BII)[B" } : Jvm.MethodName)) ∈ lw_tbl := List.mem_of_getElem? (i := 1264) (by decide +kernel)
theorem qw_1192 : (Jvm.Cond.static ({ cls := "java/util/Arrays", name := "copyOfRange", desc := "([BII)[B" } : Jvm.MethodName)) ∈ lw_tbl := List.mem_of_getElem? (i := 1265) (by decide +kernel)
set_option maxRecDepth 50000 in
theorem qw_1193 : (Jvm.Cond.code ({ cls := "java/util/Arrays", name := "copyOfRange", desc := "([BII)[B" } : Jvm.MethodName) prog_38_method_132_code (3 : Nat) (Option.some (Jvm.ClassFile.FieldType.array Jvm.ClassFile.FieldType.byte))) ∈ lw_tbl := List.mem_of_getElem? (i := 1266) rfl
theorem qw_1194 : (Jvm.Cond.methodLink "java/util/Arrays" (339 : Nat) ({ cls := "java/util/Arrays", name := "copyOfRangeByte", desc := "([BII)[B" } : Jvm.MethodName)) ∈ lw_tbl := List.mem_of_getElem? (i := 1267) (by decide +kernel)
theorem qw_1195 : (Jvm.Cond.static ({ cls := "java/util/Arrays", name := "copyOfRangeByte", desc := "([BII)[B" } : Jvm.MethodName)) ∈ lw_tbl := List.mem_of_getElem? (i := 1268) (by decide +kernel)
set_option maxRecDepth 50000 in
theorem qw_1196 : (Jvm.Cond.code ({ cls := "java/util/Arrays", name := "copyOfRangeByte", desc := "([BII)[B" } : Jvm.MethodName) prog_38_method_133_code (5 : Nat) (Option.some (Jvm.ClassFile.FieldType.array Jvm.ClassFile.FieldType.byte))) ∈ lw_tbl := List.mem_of_getElem? (i := 1269) rfl
theorem qw_1197 : (Jvm.Cond.methodLink "java/lang/String" (1051 : Nat) ({ cls := "java/lang/StringUTF16", name := "compress", desc := "([BII)[B" } : Jvm.MethodName)) ∈ lw_tbl := List.mem_of_getElem? (i := 1270) (by decide +kernel)
theorem qw_1198 : (Jvm.Cond.static ({ cls := "java/lang/StringUTF16", name := "compress", desc := "([BII)[B" } : Jvm.MethodName)) ∈ lw_tbl := List.mem_of_getElem? (i := 1271) (by decide +kernel)
set_option maxRecDepth 50000 in
theorem qw_1199 : (Jvm.Cond.code ({ cls := "java/lang/StringUTF16", name := "compress", desc := "([BII)[B" } : Jvm.MethodName) prog_29_method_17_code (6 : Nat) (Option.some (Jvm.ClassFile.FieldType.array Jvm.ClassFile.FieldType.byte))) ∈ lw_tbl := List.mem_of_getElem? (i := 1272) rfl
theorem qw_1200 : (Jvm.Cond.methodLink "java/lang/StringUTF16" (123 : Nat) ({ cls := "java/lang/StringUTF16", name := "compress", desc := "([BI[BII)I" } : Jvm.MethodName)) ∈ lw_tbl := List.mem_of_getElem? (i := 1273) (by decide +kernel)
theorem qw_1201 : (Jvm.Cond.static ({ cls := "java/lang/StringUTF16", name := "compress", desc := "([BI[BII)I" } : Jvm.MethodName)) ∈ lw_tbl := List.mem_of_getElem? (i := 1274) (by decide +kernel)
set_option maxRecDepth 50000 in
theorem qw_1202 : (Jvm.Cond.code ({ cls := "java/lang/StringUTF16", name := "compress", desc := "([BI[BII)I" } : Jvm.MethodName) prog_29_method_22_code (7 : Nat) (Option.some Jvm.ClassFile.FieldType.int)) ∈ lw_tbl := List.mem_of_getElem? (i := 1275) rfl
theorem qw_1203 : (Jvm.Cond.methodLink "java/lang/StringUTF16" (71 : Nat) ({ cls := "java/lang/StringUTF16", name := "getChar", desc := "([BI)C" } : Jvm.MethodName)) ∈ lw_tbl := List.mem_of_getElem? (i := 1276) (by decide +kernel)
theorem qw_1204 : (Jvm.Cond.static ({ cls := "java/lang/StringUTF16", name := "getChar", desc := "([BI)C" } : Jvm.MethodName)) ∈ lw_tbl := List.mem_of_getElem? (i := 1277) (by decide +kernel)
set_option maxRecDepth 50000 in
theorem qw_1205 : (Jvm.Cond.code ({ cls := "java/lang/StringUTF16", name := "getChar", desc := "([BI)C" } : Jvm.MethodName) prog_29_method_5_code (2 : Nat) (Option.some Jvm.ClassFile.FieldType.char)) ∈ lw_tbl := List.mem_of_getElem? (i := 1278) rfl
theorem qw_1206 : (Jvm.Cond.methodLink "java/lang/StringUTF16" (126 : Nat) ({ cls := "java/util/Arrays", name := "copyOfRange", desc := "([BII)[B" } : Jvm.MethodName)) ∈ lw_tbl := List.mem_of_getElem? (i := 1279) (by decide +kernel)
theorem qw_1207 : (Jvm.Cond.methodLink "java/lang/String" (47 : Nat) ({ cls := "java/lang/StringUTF16", name := "coderFromArrayLen", desc := "([BI)B" } : Jvm.MethodName)) ∈ lw_tbl := List.mem_of_getElem? (i := 1280) (by decide +kernel)
theorem qw_1208 : (Jvm.Cond.static ({ cls := "java/lang/StringUTF16", name := "coderFromArrayLen", desc := "([BI)B" } : Jvm.MethodName)) ∈ lw_tbl := List.mem_of_getElem? (i := 1281) (by decide +kernel)
set_option maxRecDepth 50000 in
theorem qw_1209 : (Jvm.Cond.code ({ cls := "java/lang/StringUTF16", name := "coderFromArrayLen", desc := "([BI)B" } : Jvm.MethodName) prog_29_method_15_code (2 : Nat) (Option.some Jvm.ClassFile.FieldType.byte)) ∈ lw_tbl := List.mem_of_getElem? (i := 1282) rfl
theorem qw_1210 : (Jvm.Cond.fieldLink "java/lang/String" (9 : Nat) "java/lang/String" "value" "[B") ∈ lw_tbl := List.mem_of_getElem? (i := 1283) (by decide +kernel)
theorem qw_1211 : (Jvm.Cond.fieldLink "java/lang/String" (15 : Nat) "java/lang/String" "coder" "B") ∈ lw_tbl := List.mem_of_getElem? (i := 1284) (by decide +kernel)
theorem qw_1221 : (Jvm.Cond.methodLink "java/util/Arrays" (65 : Nat) ({ cls := "java/lang/IllegalArgumentException", name := "<init>", desc := "(Ljava/lang/String;)V" } : Jvm.MethodName)) ∈ lw_tbl := List.mem_of_getElem? (i := 1294) (by decide +kernel)
theorem qw_1222 : (Jvm.Cond.methodLink "java/util/Arrays" (316 : Nat) ({ cls := "[I", name := "clone", desc := "()Ljava/lang/Object;" } : Jvm.MethodName)) ∈ lw_tbl := List.mem_of_getElem? (i := 1295) (by decide +kernel)
theorem qw_1223 : (Jvm.Cond.sameMethod "[I" "java/lang/Object" "clone" "()Ljava/lang/Object;") ∈ lw_tbl := List.mem_of_getElem? (i := 1296) (by decide +kernel)
theorem qw_1224 : (Jvm.Cond.selects "[I" ({ cls := "[I", name := "clone", desc := "()Ljava/lang/Object;" } : Jvm.MethodName) ({ cls := "java/lang/Object", name := "clone", desc := "()Ljava/lang/Object;" } : Jvm.MethodName)) ∈ lw_tbl := List.mem_of_getElem? (i := 1297) (by decide +kernel)
theorem qw_1225 : (Jvm.Cond.castable "[I" "java/lang/Cloneable") ∈ lw_tbl := List.mem_of_getElem? (i := 1298) (by decide +kernel)
theorem qw_1226 : (Jvm.Cond.classLink "java/util/Arrays" (317 : Nat) "[I") ∈ lw_tbl := List.mem_of_getElem? (i := 1299) (by decide +kernel)
theorem qw_1227 : (Jvm.Cond.methodLink "RegressionCourtModel" (194 : Nat) ({ cls := "RegressionCourtModel", name := "verdictOf", desc := "([I[I)I" } : Jvm.MethodName)) ∈ lw_tbl := List.mem_of_getElem? (i := 1300) (by decide +kernel)
theorem qw_1229 : (Jvm.Cond.instanceMethod ({ cls := "RegressionCourtModel", name := "verdictOf", desc := "([I[I)I" } : Jvm.MethodName)) ∈ lw_tbl := List.mem_of_getElem? (i := 1302) (by decide +kernel)
set_option maxRecDepth 50000 in
theorem qw_1230 : (Jvm.Cond.code ({ cls := "RegressionCourtModel", name := "verdictOf", desc := "([I[I)I" } : Jvm.MethodName) prog_9_method_29_code (4 : Nat) (Option.some Jvm.ClassFile.FieldType.int)) ∈ lw_tbl := List.mem_of_getElem? (i := 1303) rfl
theorem qw_1231 : (Jvm.Cond.methodLink "RegressionCourtModel" (191 : Nat) ({ cls := "RegressionCourtModel", name := "reckoned", desc := "([I[I)[I" } : Jvm.MethodName)) ∈ lw_tbl := List.mem_of_getElem? (i := 1304) (by decide +kernel)
theorem qw_1232 : (Jvm.Cond.static ({ cls := "RegressionCourtModel", name := "reckoned", desc := "([I[I)[I" } : Jvm.MethodName)) ∈ lw_tbl := List.mem_of_getElem? (i := 1305) (by decide +kernel)
set_option maxRecDepth 50000 in
theorem qw_1233 : (Jvm.Cond.code ({ cls := "RegressionCourtModel", name := "reckoned", desc := "([I[I)[I" } : Jvm.MethodName) prog_9_method_28_code (6 : Nat) (Option.some (Jvm.ClassFile.FieldType.array Jvm.ClassFile.FieldType.int))) ∈ lw_tbl := List.mem_of_getElem? (i := 1306) rfl
theorem qw_1234 : (Jvm.Cond.methodLink "RegressionCourtModel" (183 : Nat) ({ cls := "RegressionCourtModel", name := "ways", desc := "([I[I)[I" } : Jvm.MethodName)) ∈ lw_tbl := List.mem_of_getElem? (i := 1307) (by decide +kernel)
theorem qw_1235 : (Jvm.Cond.static ({ cls := "RegressionCourtModel", name := "ways", desc := "([I[I)[I" } : Jvm.MethodName)) ∈ lw_tbl := List.mem_of_getElem? (i := 1308) (by decide +kernel)
set_option maxRecDepth 50000 in
theorem qw_1236 : (Jvm.Cond.code ({ cls := "RegressionCourtModel", name := "ways", desc := "([I[I)[I" } : Jvm.MethodName) prog_9_method_25_code (7 : Nat) (Option.some (Jvm.ClassFile.FieldType.array Jvm.ClassFile.FieldType.int))) ∈ lw_tbl := List.mem_of_getElem? (i := 1309) rfl
theorem qw_1237 : (Jvm.Cond.methodLink "RegressionCourtModel" (164 : Nat) ({ cls := "java/util/Arrays", name := "copyOf", desc := "([II)[I" } : Jvm.MethodName)) ∈ lw_tbl := List.mem_of_getElem? (i := 1310) (by decide +kernel)
theorem qw_1238 : (Jvm.Cond.static ({ cls := "java/util/Arrays", name := "copyOf", desc := "([II)[I" } : Jvm.MethodName)) ∈ lw_tbl := List.mem_of_getElem? (i := 1311) (by decide +kernel)
set_option maxRecDepth 50000 in
theorem qw_1239 : (Jvm.Cond.code ({ cls := "java/util/Arrays", name := "copyOf", desc := "([II)[I" } : Jvm.MethodName) prog_38_method_123_code (3 : Nat) (Option.some (Jvm.ClassFile.FieldType.array Jvm.ClassFile.FieldType.int))) ∈ lw_tbl := List.mem_of_getElem? (i := 1312) rfl
theorem qw_1240 : (Jvm.Cond.methodLink "RegressionCourtModel" (168 : Nat) ({ cls := "java/lang/System", name := "arraycopy", desc := "(Ljava/lang/Object;ILjava/lang/Object;II)V" } : Jvm.MethodName)) ∈ lw_tbl := List.mem_of_getElem? (i := 1313) (by decide +kernel)
theorem qw_1241 : (Jvm.Cond.methodLink "RegressionCourtModel" (157 : Nat) ({ cls := "java/util/Arrays", name := "sort", desc := "([I)V" } : Jvm.MethodName)) ∈ lw_tbl := List.mem_of_getElem? (i := 1314) (by decide +kernel)
theorem qw_1242 : (Jvm.Cond.static ({ cls := "java/util/Arrays", name := "sort", desc := "([I)V" } : Jvm.MethodName)) ∈ lw_tbl := List.mem_of_getElem? (i := 1315) (by decide +kernel)
set_option maxRecDepth 50000 in
theorem qw_1243 : (Jvm.Cond.code ({ cls := "java/util/Arrays", name := "sort", desc := "([I)V" } : Jvm.MethodName) prog_38_method_2_code (1 : Nat) (Option.none : Option Jvm.ClassFile.FieldType)) ∈ lw_tbl := List.mem_of_getElem? (i := 1316) rfl
theorem qw_1244 : (Jvm.Cond.methodLink "java/util/Arrays" (7 : Nat) ({ cls := "java/util/DualPivotQuicksort", name := "sort", desc := "([IIII)V" } : Jvm.MethodName)) ∈ lw_tbl := List.mem_of_getElem? (i := 1317) (by decide +kernel)
theorem qw_1245 : (Jvm.Cond.static ({ cls := "java/util/DualPivotQuicksort", name := "sort", desc := "([IIII)V" } : Jvm.MethodName)) ∈ lw_tbl := List.mem_of_getElem? (i := 1318) (by decide +kernel)
set_option maxRecDepth 50000 in
theorem qw_1246 : (Jvm.Cond.code ({ cls := "java/util/DualPivotQuicksort", name := "sort", desc := "([IIII)V" } : Jvm.MethodName) prog_40_method_3_code (7 : Nat) (Option.none : Option Jvm.ClassFile.FieldType)) ∈ lw_tbl := List.mem_of_getElem? (i := 1319) rfl
theorem qw_1247 : (Jvm.Cond.methodLink "java/util/DualPivotQuicksort" (26 : Nat) ({ cls := "java/util/DualPivotQuicksort", name := "sort", desc := "(Ljava/util/DualPivotQuicksort$Sorter;[IIII)V" } : Jvm.MethodName)) ∈ lw_tbl := List.mem_of_getElem? (i := 1320) (by decide +kernel)
theorem qw_1248 : (Jvm.Cond.static ({ cls := "java/util/DualPivotQuicksort", name := "sort", desc := "(Ljava/util/DualPivotQuicksort$Sorter;[IIII)V" } : Jvm.MethodName)) ∈ lw_tbl := List.mem_of_getElem? (i := 1321) (by decide +kernel)
set_option maxRecDepth 50000 in
theorem qw_1249 : (Jvm.Cond.code ({ cls := "java/util/DualPivotQuicksort", name := "sort", desc := "(Ljava/util/DualPivotQuicksort$Sorter;[IIII)V" } : Jvm.MethodName) prog_40_method_4_code (21 : Nat) (Option.none : Option Jvm.ClassFile.FieldType)) ∈ lw_tbl := List.mem_of_getElem? (i := 1322) rfl
theorem qw_1250 : (Jvm.Cond.methodLink "java/util/DualPivotQuicksort" (30 : Nat) ({ cls := "java/util/DualPivotQuicksort", name := "mixedInsertionSort", desc := "([IIII)V" } : Jvm.MethodName)) ∈ lw_tbl := List.mem_of_getElem? (i := 1323) (by decide +kernel)
theorem qw_1251 : (Jvm.Cond.static ({ cls := "java/util/DualPivotQuicksort", name := "mixedInsertionSort", desc := "([IIII)V" } : Jvm.MethodName)) ∈ lw_tbl := List.mem_of_getElem? (i := 1324) (by decide +kernel)
set_option maxRecDepth 50000 in
theorem qw_1252 : (Jvm.Cond.code ({ cls := "java/util/DualPivotQuicksort", name := "mixedInsertionSort", desc := "([IIII)V" } : Jvm.MethodName) prog_40_method_5_code (8 : Nat) (Option.none : Option Jvm.ClassFile.FieldType)) ∈ lw_tbl := List.mem_of_getElem? (i := 1325) rfl
theorem qw_1253 : (Jvm.Cond.methodLink "java/util/DualPivotQuicksort" (34 : Nat) ({ cls := "java/util/DualPivotQuicksort", name := "insertionSort", desc := "([III)V" } : Jvm.MethodName)) ∈ lw_tbl := List.mem_of_getElem? (i := 1326) (by decide +kernel)
theorem qw_1254 : (Jvm.Cond.static ({ cls := "java/util/DualPivotQuicksort", name := "insertionSort", desc := "([III)V" } : Jvm.MethodName)) ∈ lw_tbl := List.mem_of_getElem? (i := 1327) (by decide +kernel)
set_option maxRecDepth 50000 in
theorem qw_1255 : (Jvm.Cond.code ({ cls := "java/util/DualPivotQuicksort", name := "insertionSort", desc := "([III)V" } : Jvm.MethodName) prog_40_method_6_code (6 : Nat) (Option.none : Option Jvm.ClassFile.FieldType)) ∈ lw_tbl := List.mem_of_getElem? (i := 1328) rfl
theorem qw_1256 : (Jvm.Cond.methodLink "java/util/DualPivotQuicksort" (38 : Nat) ({ cls := "java/util/DualPivotQuicksort", name := "tryMergeRuns", desc := "(Ljava/util/DualPivotQuicksort$Sorter;[III)Z" } : Jvm.MethodName)) ∈ lw_tbl := List.mem_of_getElem? (i := 1329) (by decide +kernel)
theorem qw_1257 : (Jvm.Cond.static ({ cls := "java/util/DualPivotQuicksort", name := "tryMergeRuns", desc := "(Ljava/util/DualPivotQuicksort$Sorter;[III)Z" } : Jvm.MethodName)) ∈ lw_tbl := List.mem_of_getElem? (i := 1330) (by decide +kernel)
set_option maxRecDepth 50000 in
theorem qw_1258 : (Jvm.Cond.code ({ cls := "java/util/DualPivotQuicksort", name := "tryMergeRuns", desc := "(Ljava/util/DualPivotQuicksort$Sorter;[III)Z" } : Jvm.MethodName) prog_40_method_9_code (12 : Nat) (Option.some Jvm.ClassFile.FieldType.boolean)) ∈ lw_tbl := List.mem_of_getElem? (i := 1331) rfl
theorem qw_1259 : (Jvm.Cond.methodLink "java/util/DualPivotQuicksort" (53 : Nat) ({ cls := "java/util/Arrays", name := "copyOf", desc := "([II)[I" } : Jvm.MethodName)) ∈ lw_tbl := List.mem_of_getElem? (i := 1332) (by decide +kernel)
theorem qw_1260 : (Jvm.Cond.classLink "java/util/DualPivotQuicksort" (63 : Nat) "[I") ∈ lw_tbl := List.mem_of_getElem? (i := 1333) (by decide +kernel)
theorem qw_1261 : (Jvm.Cond.methodLink "java/util/DualPivotQuicksort" (69 : Nat) ({ cls := "java/util/DualPivotQuicksort", name := "mergeRuns", desc := "([I[IIIZ[III)[I" } : Jvm.MethodName)) ∈ lw_tbl := List.mem_of_getElem? (i := 1334) (by decide +kernel)
theorem qw_1262 : (Jvm.Cond.static ({ cls := "java/util/DualPivotQuicksort", name := "mergeRuns", desc := "([I[IIIZ[III)[I" } : Jvm.MethodName)) ∈ lw_tbl := List.mem_of_getElem? (i := 1335) (by decide +kernel)
set_option maxRecDepth 50000 in
theorem qw_1263 : (Jvm.Cond.code ({ cls := "java/util/DualPivotQuicksort", name := "mergeRuns", desc := "([I[IIIZ[III)[I" } : Jvm.MethodName) prog_40_method_10_code (18 : Nat) (Option.some (Jvm.ClassFile.FieldType.array Jvm.ClassFile.FieldType.int))) ∈ lw_tbl := List.mem_of_getElem? (i := 1336) rfl
theorem qw_1264 : (Jvm.Cond.methodLink "java/util/DualPivotQuicksort" (91 : Nat) ({ cls := "java/util/DualPivotQuicksort", name := "mergeParts", desc := "(Ljava/util/DualPivotQuicksort$Merger;[II[III[III)V" } : Jvm.MethodName)) ∈ lw_tbl := List.mem_of_getElem? (i := 1337) (by decide +kernel)
theorem qw_1265 : (Jvm.Cond.static ({ cls := "java/util/DualPivotQuicksort", name := "mergeParts", desc := "(Ljava/util/DualPivotQuicksort$Merger;[II[III[III)V" } : Jvm.MethodName)) ∈ lw_tbl := List.mem_of_getElem? (i := 1338) (by decide +kernel)
set_option maxRecDepth 50000 in
theorem qw_1266 : (Jvm.Cond.code ({ cls := "java/util/DualPivotQuicksort", name := "mergeParts", desc := "(Ljava/util/DualPivotQuicksort$Merger;[II[III[III)V" } : Jvm.MethodName) prog_40_method_11_code (14 : Nat) (Option.none : Option Jvm.ClassFile.FieldType)) ∈ lw_tbl := List.mem_of_getElem? (i := 1339) rfl
theorem qw_1267 : (Jvm.Cond.methodLink "java/util/DualPivotQuicksort" (42 : Nat) ({ cls := "java/util/DualPivotQuicksort", name := "heapSort", desc := "([III)V" } : Jvm.MethodName)) ∈ lw_tbl := List.mem_of_getElem? (i := 1340) (by decide +kernel)
theorem qw_1268 : (Jvm.Cond.static ({ cls := "java/util/DualPivotQuicksort", name := "heapSort", desc := "([III)V" } : Jvm.MethodName)) ∈ lw_tbl := List.mem_of_getElem? (i := 1341) (by decide +kernel)
set_option maxRecDepth 50000 in
theorem qw_1269 : (Jvm.Cond.code ({ cls := "java/util/DualPivotQuicksort", name := "heapSort", desc := "([III)V" } : Jvm.MethodName) prog_40_method_7_code (4 : Nat) (Option.none : Option Jvm.ClassFile.FieldType)) ∈ lw_tbl := List.mem_of_getElem? (i := 1342) rfl
theorem qw_1270 : (Jvm.Cond.methodLink "java/util/DualPivotQuicksort" (49 : Nat) ({ cls := "java/util/DualPivotQuicksort", name := "pushDown", desc := "([IIIII)V" } : Jvm.MethodName)) ∈ lw_tbl := List.mem_of_getElem? (i := 1343) (by decide +kernel)
theorem qw_1271 : (Jvm.Cond.static ({ cls := "java/util/DualPivotQuicksort", name := "pushDown", desc := "([IIIII)V" } : Jvm.MethodName)) ∈ lw_tbl := List.mem_of_getElem? (i := 1344) (by decide +kernel)
set_option maxRecDepth 50000 in
theorem qw_1272 : (Jvm.Cond.code ({ cls := "java/util/DualPivotQuicksort", name := "pushDown", desc := "([IIIII)V" } : Jvm.MethodName) prog_40_method_8_code (6 : Nat) (Option.none : Option Jvm.ClassFile.FieldType)) ∈ lw_tbl := List.mem_of_getElem? (i := 1345) rfl
theorem qw_1273 : (Jvm.Cond.classLink "RegressionCourtModel" (174 : Nat) "[[I") ∈ lw_tbl := List.mem_of_getElem? (i := 1346) (by decide +kernel)
theorem qw_1274 : (Jvm.Cond.methodLink "RegressionCourtModel" (176 : Nat) ({ cls := "RegressionCourtModel", name := "passed", desc := "([[IIIII)[[I" } : Jvm.MethodName)) ∈ lw_tbl := List.mem_of_getElem? (i := 1347) (by decide +kernel)
theorem qw_1275 : (Jvm.Cond.static ({ cls := "RegressionCourtModel", name := "passed", desc := "([[IIIII)[[I" } : Jvm.MethodName)) ∈ lw_tbl := List.mem_of_getElem? (i := 1348) (by decide +kernel)
set_option maxRecDepth 50000 in
theorem qw_1276 : (Jvm.Cond.code ({ cls := "RegressionCourtModel", name := "passed", desc := "([[IIIII)[[I" } : Jvm.MethodName) prog_9_method_26_code (12 : Nat) (Option.some (Jvm.ClassFile.FieldType.array (Jvm.ClassFile.FieldType.array Jvm.ClassFile.FieldType.int)))) ∈ lw_tbl := List.mem_of_getElem? (i := 1349) rfl
theorem qw_1277 : (Jvm.Cond.methodLink "RegressionCourtModel" (180 : Nat) ({ cls := "RegressionCourtModel", name := "choose", desc := "(II)I" } : Jvm.MethodName)) ∈ lw_tbl := List.mem_of_getElem? (i := 1350) (by decide +kernel)
theorem qw_1278 : (Jvm.Cond.static ({ cls := "RegressionCourtModel", name := "choose", desc := "(II)I" } : Jvm.MethodName)) ∈ lw_tbl := List.mem_of_getElem? (i := 1351) (by decide +kernel)
set_option maxRecDepth 50000 in
theorem qw_1279 : (Jvm.Cond.code ({ cls := "RegressionCourtModel", name := "choose", desc := "(II)I" } : Jvm.MethodName) prog_9_method_27_code (4 : Nat) (Option.some Jvm.ClassFile.FieldType.int)) ∈ lw_tbl := List.mem_of_getElem? (i := 1352) rfl
theorem qw_1280 : (Jvm.Cond.methodLink "RegressionCourtModel" (187 : Nat) ({ cls := "RegressionCourtModel", name := "score", desc := "([I[I)I" } : Jvm.MethodName)) ∈ lw_tbl := List.mem_of_getElem? (i := 1353) (by decide +kernel)
theorem qw_1281 : (Jvm.Cond.static ({ cls := "RegressionCourtModel", name := "score", desc := "([I[I)I" } : Jvm.MethodName)) ∈ lw_tbl := List.mem_of_getElem? (i := 1354) (by decide +kernel)
set_option maxRecDepth 50000 in
theorem qw_1282 : (Jvm.Cond.code ({ cls := "RegressionCourtModel", name := "score", desc := "([I[I)I" } : Jvm.MethodName) prog_9_method_24_code (11 : Nat) (Option.some Jvm.ClassFile.FieldType.int)) ∈ lw_tbl := List.mem_of_getElem? (i := 1355) rfl
theorem qw_1283 : (Jvm.Cond.methodLink "RegressionCourtModel" (201 : Nat) ({ cls := "RegressionCourtModel", name := "end", desc := "()V" } : Jvm.MethodName)) ∈ lw_tbl := List.mem_of_getElem? (i := 1356) (by decide +kernel)
theorem qw_1285 : (Jvm.Cond.instanceMethod ({ cls := "RegressionCourtModel", name := "end", desc := "()V" } : Jvm.MethodName)) ∈ lw_tbl := List.mem_of_getElem? (i := 1358) (by decide +kernel)
set_option maxRecDepth 50000 in
theorem qw_1286 : (Jvm.Cond.code ({ cls := "RegressionCourtModel", name := "end", desc := "()V" } : Jvm.MethodName) prog_9_method_34_code (1 : Nat) (Option.none : Option Jvm.ClassFile.FieldType)) ∈ lw_tbl := List.mem_of_getElem? (i := 1359) rfl
theorem qw_1287 : (Jvm.Cond.methodLink "RegressionCourtLaw" (99 : Nat) ({ cls := "RegressionCourtModel", name := "ofMachine", desc := "(II)I" } : Jvm.MethodName)) ∈ lw_tbl := List.mem_of_getElem? (i := 1360) (by decide +kernel)
theorem qw_1288 : (Jvm.Cond.instanceMethod ({ cls := "RegressionCourtModel", name := "ofMachine", desc := "(II)I" } : Jvm.MethodName)) ∈ lw_tbl := List.mem_of_getElem? (i := 1361) (by decide +kernel)
theorem qw_1289 : (Jvm.Cond.selects "RegressionCourtModel" ({ cls := "RegressionCourtModel", name := "ofMachine", desc := "(II)I" } : Jvm.MethodName) ({ cls := "RegressionCourtModel", name := "ofMachine", desc := "(II)I" } : Jvm.MethodName)) ∈ lw_tbl := List.mem_of_getElem? (i := 1362) (by decide +kernel)
set_option maxRecDepth 50000 in
theorem qw_1290 : (Jvm.Cond.code ({ cls := "RegressionCourtModel", name := "ofMachine", desc := "(II)I" } : Jvm.MethodName) prog_9_method_12_code (3 : Nat) (Option.some Jvm.ClassFile.FieldType.int)) ∈ lw_tbl := List.mem_of_getElem? (i := 1363) rfl
theorem qw_1291 : (Jvm.Cond.methodLink "RegressionCourtModel" (128 : Nat) ({ cls := "RegressionCourtModel", name := "ofMachineNow", desc := "(II)I" } : Jvm.MethodName)) ∈ lw_tbl := List.mem_of_getElem? (i := 1364) (by decide +kernel)
theorem qw_1293 : (Jvm.Cond.instanceMethod ({ cls := "RegressionCourtModel", name := "ofMachineNow", desc := "(II)I" } : Jvm.MethodName)) ∈ lw_tbl := List.mem_of_getElem? (i := 1366) (by decide +kernel)
set_option maxRecDepth 50000 in
theorem qw_1294 : (Jvm.Cond.code ({ cls := "RegressionCourtModel", name := "ofMachineNow", desc := "(II)I" } : Jvm.MethodName) prog_9_method_11_code (6 : Nat) (Option.some Jvm.ClassFile.FieldType.int)) ∈ lw_tbl := List.mem_of_getElem? (i := 1367) rfl
theorem qw_1295 : (Jvm.Cond.methodLink "RegressionCourtModel" (109 : Nat) ({ cls := "java/util/ArrayList", name := "iterator", desc := "()Ljava/util/Iterator;" } : Jvm.MethodName)) ∈ lw_tbl := List.mem_of_getElem? (i := 1368) (by decide +kernel)
theorem qw_1296 : (Jvm.Cond.instanceMethod ({ cls := "java/util/ArrayList", name := "iterator", desc := "()Ljava/util/Iterator;" } : Jvm.MethodName)) ∈ lw_tbl := List.mem_of_getElem? (i := 1369) (by decide +kernel)
theorem qw_1297 : (Jvm.Cond.selects "java/util/ArrayList" ({ cls := "java/util/ArrayList", name := "iterator", desc := "()Ljava/util/Iterator;" } : Jvm.MethodName) ({ cls := "java/util/ArrayList", name := "iterator", desc := "()Ljava/util/Iterator;" } : Jvm.MethodName)) ∈ lw_tbl := List.mem_of_getElem? (i := 1370) (by decide +kernel)
set_option maxRecDepth 50000 in
theorem qw_1298 : (Jvm.Cond.code ({ cls := "java/util/ArrayList", name := "iterator", desc := "()Ljava/util/Iterator;" } : Jvm.MethodName) prog_36_method_55_code (1 : Nat) (Option.some (Jvm.ClassFile.FieldType.object "java/util/Iterator"))) ∈ lw_tbl := List.mem_of_getElem? (i := 1371) rfl
theorem qw_1299 : (Jvm.Cond.classLink "java/util/ArrayList" (267 : Nat) "java/util/ArrayList$Itr") ∈ lw_tbl := List.mem_of_getElem? (i := 1372) (by decide +kernel)
theorem qw_1300 : (Jvm.Cond.instantiable "java/util/ArrayList$Itr" (4 : Nat)) ∈ lw_tbl := List.mem_of_getElem? (i := 1373) (by decide +kernel)
theorem qw_1301 : (Jvm.Cond.methodLink "java/util/ArrayList" (269 : Nat) ({ cls := "java/util/ArrayList$Itr", name := "<init>", desc := "(Ljava/util/ArrayList;)V" } : Jvm.MethodName)) ∈ lw_tbl := List.mem_of_getElem? (i := 1374) (by decide +kernel)
theorem qw_1302 : (Jvm.Cond.instanceMethod ({ cls := "java/util/ArrayList$Itr", name := "<init>", desc := "(Ljava/util/ArrayList;)V" } : Jvm.MethodName)) ∈ lw_tbl := List.mem_of_getElem? (i := 1375) (by decide +kernel)
set_option maxRecDepth 50000 in
theorem qw_1303 : (Jvm.Cond.code ({ cls := "java/util/ArrayList$Itr", name := "<init>", desc := "(Ljava/util/ArrayList;)V" } : Jvm.MethodName) prog_37_method_1_code (2 : Nat) (Option.none : Option Jvm.ClassFile.FieldType)) ∈ lw_tbl := List.mem_of_getElem? (i := 1376) rfl
theorem qw_1304 : (Jvm.Cond.methodLink "java/util/ArrayList$Itr" (7 : Nat) ({ cls := "java/lang/Object", name := "<init>", desc := "()V" } : Jvm.MethodName)) ∈ lw_tbl := List.mem_of_getElem? (i := 1377) (by decide +kernel)
theorem qw_1305 : (Jvm.Cond.fieldLink "java/util/ArrayList$Itr" (25 : Nat) "java/util/ArrayList$Itr" "cursor" "I") ∈ lw_tbl := List.mem_of_getElem? (i := 1378) (by decide +kernel)
theorem qw_1306 : (Jvm.Cond.fieldLink "java/util/ArrayList$Itr" (13 : Nat) "java/util/ArrayList$Itr" "lastRet" "I") ∈ lw_tbl := List.mem_of_getElem? (i := 1379) (by decide +kernel)
theorem qw_1307 : (Jvm.Cond.fieldLink "java/util/ArrayList$Itr" (22 : Nat) "java/util/ArrayList$Itr" "expectedModCount" "I") ∈ lw_tbl := List.mem_of_getElem? (i := 1380) (by decide +kernel)
theorem qw_1308 : (Jvm.Cond.fieldLink "java/util/ArrayList$Itr" (1 : Nat) "java/util/ArrayList$Itr" "this$0" "Ljava/util/ArrayList;") ∈ lw_tbl := List.mem_of_getElem? (i := 1381) (by decide +kernel)
theorem qw_1319 : (Jvm.Cond.methodLink "RegressionCourtModel" (113 : Nat) ({ cls := "java/util/Iterator", name := "hasNext", desc := "()Z" } : Jvm.MethodName)) ∈ lw_tbl := List.mem_of_getElem? (i := 1392) (by decide +kernel)
theorem qw_1320 : (Jvm.Cond.interfaceMethod "java/util/Iterator" "java/util/Iterator" "hasNext" "()Z") ∈ lw_tbl := List.mem_of_getElem? (i := 1393) (by decide +kernel)
theorem qw_1321 : (Jvm.Cond.declares ({ cls := "java/util/Iterator", name := "hasNext", desc := "()Z" } : Jvm.MethodName)) ∈ lw_tbl := List.mem_of_getElem? (i := 1394) (by decide +kernel)
theorem qw_1322 : (Jvm.Cond.castable "java/util/ArrayList$Itr" "java/util/Iterator") ∈ lw_tbl := List.mem_of_getElem? (i := 1395) (by decide +kernel)
theorem qw_1323 : (Jvm.Cond.selects "java/util/ArrayList$Itr" ({ cls := "java/util/Iterator", name := "hasNext", desc := "()Z" } : Jvm.MethodName) ({ cls := "java/util/ArrayList$Itr", name := "hasNext", desc := "()Z" } : Jvm.MethodName)) ∈ lw_tbl := List.mem_of_getElem? (i := 1396) (by decide +kernel)
theorem qw_1324 : (Jvm.Cond.unhidden "java/util/ArrayList$Itr" "hasNext" "()Z") ∈ lw_tbl := List.mem_of_getElem? (i := 1397) (by decide +kernel)
theorem qw_1325 : (Jvm.Cond.instanceMethod ({ cls := "java/util/ArrayList$Itr", name := "hasNext", desc := "()Z" } : Jvm.MethodName)) ∈ lw_tbl := List.mem_of_getElem? (i := 1398) (by decide +kernel)
theorem qw_1326 : (Jvm.Cond.publicMethod ({ cls := "java/util/ArrayList$Itr", name := "hasNext", desc := "()Z" } : Jvm.MethodName)) ∈ lw_tbl := List.mem_of_getElem? (i := 1399) (by decide +kernel)
set_option maxRecDepth 50000 in
theorem qw_1327 : (Jvm.Cond.code ({ cls := "java/util/ArrayList$Itr", name := "hasNext", desc := "()Z" } : Jvm.MethodName) prog_37_method_2_code (1 : Nat) (Option.some Jvm.ClassFile.FieldType.boolean)) ∈ lw_tbl := List.mem_of_getElem? (i := 1400) rfl
theorem qw_1329 : (Jvm.Cond.methodLink "RegressionCourtModel" (119 : Nat) ({ cls := "java/util/Iterator", name := "next", desc := "()Ljava/lang/Object;" } : Jvm.MethodName)) ∈ lw_tbl := List.mem_of_getElem? (i := 1402) (by decide +kernel)
theorem qw_1330 : (Jvm.Cond.interfaceMethod "java/util/Iterator" "java/util/Iterator" "next" "()Ljava/lang/Object;") ∈ lw_tbl := List.mem_of_getElem? (i := 1403) (by decide +kernel)
theorem qw_1331 : (Jvm.Cond.declares ({ cls := "java/util/Iterator", name := "next", desc := "()Ljava/lang/Object;" } : Jvm.MethodName)) ∈ lw_tbl := List.mem_of_getElem? (i := 1404) (by decide +kernel)
theorem qw_1332 : (Jvm.Cond.selects "java/util/ArrayList$Itr" ({ cls := "java/util/Iterator", name := "next", desc := "()Ljava/lang/Object;" } : Jvm.MethodName) ({ cls := "java/util/ArrayList$Itr", name := "next", desc := "()Ljava/lang/Object;" } : Jvm.MethodName)) ∈ lw_tbl := List.mem_of_getElem? (i := 1405) (by decide +kernel)
theorem qw_1333 : (Jvm.Cond.unhidden "java/util/ArrayList$Itr" "next" "()Ljava/lang/Object;") ∈ lw_tbl := List.mem_of_getElem? (i := 1406) (by decide +kernel)
theorem qw_1334 : (Jvm.Cond.instanceMethod ({ cls := "java/util/ArrayList$Itr", name := "next", desc := "()Ljava/lang/Object;" } : Jvm.MethodName)) ∈ lw_tbl := List.mem_of_getElem? (i := 1407) (by decide +kernel)
theorem qw_1335 : (Jvm.Cond.publicMethod ({ cls := "java/util/ArrayList$Itr", name := "next", desc := "()Ljava/lang/Object;" } : Jvm.MethodName)) ∈ lw_tbl := List.mem_of_getElem? (i := 1408) (by decide +kernel)
set_option maxRecDepth 50000 in
theorem qw_1336 : (Jvm.Cond.code ({ cls := "java/util/ArrayList$Itr", name := "next", desc := "()Ljava/lang/Object;" } : Jvm.MethodName) prog_37_method_3_code (3 : Nat) (Option.some (Jvm.ClassFile.FieldType.object "java/lang/Object"))) ∈ lw_tbl := List.mem_of_getElem? (i := 1409) rfl
theorem qw_1337 : (Jvm.Cond.methodLink "java/util/ArrayList$Itr" (31 : Nat) ({ cls := "java/util/ArrayList$Itr", name := "checkForComodification", desc := "()V" } : Jvm.MethodName)) ∈ lw_tbl := List.mem_of_getElem? (i := 1410) (by decide +kernel)
theorem qw_1338 : (Jvm.Cond.instanceMethod ({ cls := "java/util/ArrayList$Itr", name := "checkForComodification", desc := "()V" } : Jvm.MethodName)) ∈ lw_tbl := List.mem_of_getElem? (i := 1411) (by decide +kernel)
theorem qw_1339 : (Jvm.Cond.selects "java/util/ArrayList$Itr" ({ cls := "java/util/ArrayList$Itr", name := "checkForComodification", desc := "()V" } : Jvm.MethodName) ({ cls := "java/util/ArrayList$Itr", name := "checkForComodification", desc := "()V" } : Jvm.MethodName)) ∈ lw_tbl := List.mem_of_getElem? (i := 1412) (by decide +kernel)
set_option maxRecDepth 50000 in
theorem qw_1340 : (Jvm.Cond.code ({ cls := "java/util/ArrayList$Itr", name := "checkForComodification", desc := "()V" } : Jvm.MethodName) prog_37_method_6_code (1 : Nat) (Option.none : Option Jvm.ClassFile.FieldType)) ∈ lw_tbl := List.mem_of_getElem? (i := 1413) rfl
theorem qw_1341 : (Jvm.Cond.methodLink "RegressionCourtModel" (125 : Nat) ({ cls := "RegressionCourtModel", name := "scale", desc := "(I)I" } : Jvm.MethodName)) ∈ lw_tbl := List.mem_of_getElem? (i := 1414) (by decide +kernel)
theorem qw_1343 : (Jvm.Cond.instanceMethod ({ cls := "RegressionCourtModel", name := "scale", desc := "(I)I" } : Jvm.MethodName)) ∈ lw_tbl := List.mem_of_getElem? (i := 1416) (by decide +kernel)
set_option maxRecDepth 50000 in
theorem qw_1344 : (Jvm.Cond.code ({ cls := "RegressionCourtModel", name := "scale", desc := "(I)I" } : Jvm.MethodName) prog_9_method_8_code (2 : Nat) (Option.some Jvm.ClassFile.FieldType.int)) ∈ lw_tbl := List.mem_of_getElem? (i := 1417) rfl
theorem qw_1345 : (Jvm.Cond.methodLink "RegressionCourtLaw" (103 : Nat) ({ cls := "RegressionCourtModel", name := "changes", desc := "(I)I" } : Jvm.MethodName)) ∈ lw_tbl := List.mem_of_getElem? (i := 1418) (by decide +kernel)
theorem qw_1346 : (Jvm.Cond.instanceMethod ({ cls := "RegressionCourtModel", name := "changes", desc := "(I)I" } : Jvm.MethodName)) ∈ lw_tbl := List.mem_of_getElem? (i := 1419) (by decide +kernel)
theorem qw_1347 : (Jvm.Cond.selects "RegressionCourtModel" ({ cls := "RegressionCourtModel", name := "changes", desc := "(I)I" } : Jvm.MethodName) ({ cls := "RegressionCourtModel", name := "changes", desc := "(I)I" } : Jvm.MethodName)) ∈ lw_tbl := List.mem_of_getElem? (i := 1420) (by decide +kernel)
set_option maxRecDepth 50000 in
theorem qw_1348 : (Jvm.Cond.code ({ cls := "RegressionCourtModel", name := "changes", desc := "(I)I" } : Jvm.MethodName) prog_9_method_16_code (2 : Nat) (Option.some Jvm.ClassFile.FieldType.int)) ∈ lw_tbl := List.mem_of_getElem? (i := 1421) rfl
theorem qw_1349 : (Jvm.Cond.methodLink "RegressionCourtLaw" (107 : Nat) ({ cls := "RegressionCourtModel", name := "run", desc := "(III)I" } : Jvm.MethodName)) ∈ lw_tbl := List.mem_of_getElem? (i := 1422) (by decide +kernel)
theorem qw_1350 : (Jvm.Cond.instanceMethod ({ cls := "RegressionCourtModel", name := "run", desc := "(III)I" } : Jvm.MethodName)) ∈ lw_tbl := List.mem_of_getElem? (i := 1423) (by decide +kernel)
theorem qw_1351 : (Jvm.Cond.selects "RegressionCourtModel" ({ cls := "RegressionCourtModel", name := "run", desc := "(III)I" } : Jvm.MethodName) ({ cls := "RegressionCourtModel", name := "run", desc := "(III)I" } : Jvm.MethodName)) ∈ lw_tbl := List.mem_of_getElem? (i := 1424) (by decide +kernel)
set_option maxRecDepth 50000 in
theorem qw_1352 : (Jvm.Cond.code ({ cls := "RegressionCourtModel", name := "run", desc := "(III)I" } : Jvm.MethodName) prog_9_method_17_code (5 : Nat) (Option.some Jvm.ClassFile.FieldType.int)) ∈ lw_tbl := List.mem_of_getElem? (i := 1425) rfl
theorem qw_1353 : (Jvm.Cond.methodLink "RegressionCourtModel" (145 : Nat) ({ cls := "RegressionCourtModel", name := "isChange", desc := "(I)Z" } : Jvm.MethodName)) ∈ lw_tbl := List.mem_of_getElem? (i := 1426) (by decide +kernel)
theorem qw_1355 : (Jvm.Cond.instanceMethod ({ cls := "RegressionCourtModel", name := "isChange", desc := "(I)Z" } : Jvm.MethodName)) ∈ lw_tbl := List.mem_of_getElem? (i := 1428) (by decide +kernel)
set_option maxRecDepth 50000 in
theorem qw_1356 : (Jvm.Cond.code ({ cls := "RegressionCourtModel", name := "isChange", desc := "(I)Z" } : Jvm.MethodName) prog_9_method_6_code (2 : Nat) (Option.some Jvm.ClassFile.FieldType.boolean)) ∈ lw_tbl := List.mem_of_getElem? (i := 1429) rfl
theorem qw_1357 : (Jvm.Cond.methodLink "RegressionCourtLaw" (110 : Nat) ({ cls := "RegressionCourtModel", name := "strike", desc := "(I)I" } : Jvm.MethodName)) ∈ lw_tbl := List.mem_of_getElem? (i := 1430) (by decide +kernel)
theorem qw_1358 : (Jvm.Cond.instanceMethod ({ cls := "RegressionCourtModel", name := "strike", desc := "(I)I" } : Jvm.MethodName)) ∈ lw_tbl := List.mem_of_getElem? (i := 1431) (by decide +kernel)
theorem qw_1359 : (Jvm.Cond.selects "RegressionCourtModel" ({ cls := "RegressionCourtModel", name := "strike", desc := "(I)I" } : Jvm.MethodName) ({ cls := "RegressionCourtModel", name := "strike", desc := "(I)I" } : Jvm.MethodName)) ∈ lw_tbl := List.mem_of_getElem? (i := 1432) (by decide +kernel)
set_option maxRecDepth 50000 in
theorem qw_1360 : (Jvm.Cond.code ({ cls := "RegressionCourtModel", name := "strike", desc := "(I)I" } : Jvm.MethodName) prog_9_method_19_code (2 : Nat) (Option.some Jvm.ClassFile.FieldType.int)) ∈ lw_tbl := List.mem_of_getElem? (i := 1433) rfl
theorem qw_1361 : (Jvm.Cond.methodLink "RegressionCourtModel" (148 : Nat) ({ cls := "RegressionCourtModel", name := "isRun", desc := "(I)Z" } : Jvm.MethodName)) ∈ lw_tbl := List.mem_of_getElem? (i := 1434) (by decide +kernel)
theorem qw_1363 : (Jvm.Cond.instanceMethod ({ cls := "RegressionCourtModel", name := "isRun", desc := "(I)Z" } : Jvm.MethodName)) ∈ lw_tbl := List.mem_of_getElem? (i := 1436) (by decide +kernel)
set_option maxRecDepth 50000 in
theorem qw_1364 : (Jvm.Cond.code ({ cls := "RegressionCourtModel", name := "isRun", desc := "(I)Z" } : Jvm.MethodName) prog_9_method_18_code (2 : Nat) (Option.some Jvm.ClassFile.FieldType.boolean)) ∈ lw_tbl := List.mem_of_getElem? (i := 1437) rfl
theorem qw_1365 : (Jvm.Cond.methodLink "RegressionCourtLaw" (113 : Nat) ({ cls := "RegressionCourtModel", name := "ofRun", desc := "(II)I" } : Jvm.MethodName)) ∈ lw_tbl := List.mem_of_getElem? (i := 1438) (by decide +kernel)
theorem qw_1366 : (Jvm.Cond.instanceMethod ({ cls := "RegressionCourtModel", name := "ofRun", desc := "(II)I" } : Jvm.MethodName)) ∈ lw_tbl := List.mem_of_getElem? (i := 1439) (by decide +kernel)
theorem qw_1367 : (Jvm.Cond.selects "RegressionCourtModel" ({ cls := "RegressionCourtModel", name := "ofRun", desc := "(II)I" } : Jvm.MethodName) ({ cls := "RegressionCourtModel", name := "ofRun", desc := "(II)I" } : Jvm.MethodName)) ∈ lw_tbl := List.mem_of_getElem? (i := 1440) (by decide +kernel)
set_option maxRecDepth 50000 in
theorem qw_1368 : (Jvm.Cond.code ({ cls := "RegressionCourtModel", name := "ofRun", desc := "(II)I" } : Jvm.MethodName) prog_9_method_21_code (3 : Nat) (Option.some Jvm.ClassFile.FieldType.int)) ∈ lw_tbl := List.mem_of_getElem? (i := 1441) rfl
theorem qw_1369 : (Jvm.Cond.methodLink "RegressionCourtModel" (151 : Nat) ({ cls := "RegressionCourtModel", name := "ofRunNow", desc := "(II)I" } : Jvm.MethodName)) ∈ lw_tbl := List.mem_of_getElem? (i := 1442) (by decide +kernel)
theorem qw_1371 : (Jvm.Cond.instanceMethod ({ cls := "RegressionCourtModel", name := "ofRunNow", desc := "(II)I" } : Jvm.MethodName)) ∈ lw_tbl := List.mem_of_getElem? (i := 1444) (by decide +kernel)
set_option maxRecDepth 50000 in
theorem qw_1372 : (Jvm.Cond.code ({ cls := "RegressionCourtModel", name := "ofRunNow", desc := "(II)I" } : Jvm.MethodName) prog_9_method_20_code (6 : Nat) (Option.some Jvm.ClassFile.FieldType.int)) ∈ lw_tbl := List.mem_of_getElem? (i := 1445) rfl
theorem qw_1373 : (Jvm.Cond.methodLink "RegressionCourtLaw" (116 : Nat) ({ cls := "RegressionCourtModel", name := "ofChange", desc := "(II)I" } : Jvm.MethodName)) ∈ lw_tbl := List.mem_of_getElem? (i := 1446) (by decide +kernel)
theorem qw_1374 : (Jvm.Cond.instanceMethod ({ cls := "RegressionCourtModel", name := "ofChange", desc := "(II)I" } : Jvm.MethodName)) ∈ lw_tbl := List.mem_of_getElem? (i := 1447) (by decide +kernel)
theorem qw_1375 : (Jvm.Cond.selects "RegressionCourtModel" ({ cls := "RegressionCourtModel", name := "ofChange", desc := "(II)I" } : Jvm.MethodName) ({ cls := "RegressionCourtModel", name := "ofChange", desc := "(II)I" } : Jvm.MethodName)) ∈ lw_tbl := List.mem_of_getElem? (i := 1448) (by decide +kernel)
set_option maxRecDepth 50000 in
theorem qw_1376 : (Jvm.Cond.code ({ cls := "RegressionCourtModel", name := "ofChange", desc := "(II)I" } : Jvm.MethodName) prog_9_method_23_code (3 : Nat) (Option.some Jvm.ClassFile.FieldType.int)) ∈ lw_tbl := List.mem_of_getElem? (i := 1449) rfl
theorem qw_1377 : (Jvm.Cond.methodLink "RegressionCourtModel" (161 : Nat) ({ cls := "RegressionCourtModel", name := "ofChangeNow", desc := "(II)I" } : Jvm.MethodName)) ∈ lw_tbl := List.mem_of_getElem? (i := 1450) (by decide +kernel)
theorem qw_1379 : (Jvm.Cond.instanceMethod ({ cls := "RegressionCourtModel", name := "ofChangeNow", desc := "(II)I" } : Jvm.MethodName)) ∈ lw_tbl := List.mem_of_getElem? (i := 1452) (by decide +kernel)
set_option maxRecDepth 50000 in
theorem qw_1380 : (Jvm.Cond.code ({ cls := "RegressionCourtModel", name := "ofChangeNow", desc := "(II)I" } : Jvm.MethodName) prog_9_method_22_code (6 : Nat) (Option.some Jvm.ClassFile.FieldType.int)) ∈ lw_tbl := List.mem_of_getElem? (i := 1453) rfl
theorem qw_1381 : (Jvm.Cond.methodLink "RegressionCourtLaw" (119 : Nat) ({ cls := "RegressionCourtModel", name := "verdict", desc := "(III)I" } : Jvm.MethodName)) ∈ lw_tbl := List.mem_of_getElem? (i := 1454) (by decide +kernel)
theorem qw_1382 : (Jvm.Cond.instanceMethod ({ cls := "RegressionCourtModel", name := "verdict", desc := "(III)I" } : Jvm.MethodName)) ∈ lw_tbl := List.mem_of_getElem? (i := 1455) (by decide +kernel)
theorem qw_1383 : (Jvm.Cond.selects "RegressionCourtModel" ({ cls := "RegressionCourtModel", name := "verdict", desc := "(III)I" } : Jvm.MethodName) ({ cls := "RegressionCourtModel", name := "verdict", desc := "(III)I" } : Jvm.MethodName)) ∈ lw_tbl := List.mem_of_getElem? (i := 1456) (by decide +kernel)
set_option maxRecDepth 50000 in
theorem qw_1384 : (Jvm.Cond.code ({ cls := "RegressionCourtModel", name := "verdict", desc := "(III)I" } : Jvm.MethodName) prog_9_method_31_code (4 : Nat) (Option.some Jvm.ClassFile.FieldType.int)) ∈ lw_tbl := List.mem_of_getElem? (i := 1457) rfl
theorem qw_1385 : (Jvm.Cond.methodLink "RegressionCourtLaw" (123 : Nat) ({ cls := "RegressionCourtModel", name := "doubt", desc := "(II)D" } : Jvm.MethodName)) ∈ lw_tbl := List.mem_of_getElem? (i := 1458) (by decide +kernel)
theorem qw_1386 : (Jvm.Cond.instanceMethod ({ cls := "RegressionCourtModel", name := "doubt", desc := "(II)D" } : Jvm.MethodName)) ∈ lw_tbl := List.mem_of_getElem? (i := 1459) (by decide +kernel)
theorem qw_1387 : (Jvm.Cond.selects "RegressionCourtModel" ({ cls := "RegressionCourtModel", name := "doubt", desc := "(II)D" } : Jvm.MethodName) ({ cls := "RegressionCourtModel", name := "doubt", desc := "(II)D" } : Jvm.MethodName)) ∈ lw_tbl := List.mem_of_getElem? (i := 1460) (by decide +kernel)
set_option maxRecDepth 50000 in
theorem qw_1388 : (Jvm.Cond.code ({ cls := "RegressionCourtModel", name := "doubt", desc := "(II)D" } : Jvm.MethodName) prog_9_method_32_code (4 : Nat) (Option.some Jvm.ClassFile.FieldType.double)) ∈ lw_tbl := List.mem_of_getElem? (i := 1461) rfl
theorem qw_1389 : (Jvm.Cond.methodLink "RegressionCourtLaw" (126 : Nat) ({ cls := "RegressionCourtModel", name := "rule", desc := "(II)I" } : Jvm.MethodName)) ∈ lw_tbl := List.mem_of_getElem? (i := 1462) (by decide +kernel)
theorem qw_1390 : (Jvm.Cond.instanceMethod ({ cls := "RegressionCourtModel", name := "rule", desc := "(II)I" } : Jvm.MethodName)) ∈ lw_tbl := List.mem_of_getElem? (i := 1463) (by decide +kernel)
theorem qw_1391 : (Jvm.Cond.selects "RegressionCourtModel" ({ cls := "RegressionCourtModel", name := "rule", desc := "(II)I" } : Jvm.MethodName) ({ cls := "RegressionCourtModel", name := "rule", desc := "(II)I" } : Jvm.MethodName)) ∈ lw_tbl := List.mem_of_getElem? (i := 1464) (by decide +kernel)
set_option maxRecDepth 50000 in
theorem qw_1392 : (Jvm.Cond.code ({ cls := "RegressionCourtModel", name := "rule", desc := "(II)I" } : Jvm.MethodName) prog_9_method_33_code (4 : Nat) (Option.some Jvm.ClassFile.FieldType.int)) ∈ lw_tbl := List.mem_of_getElem? (i := 1465) rfl
theorem qw_1393 : (Jvm.Cond.methodLink "RegressionCourtLaw" (129 : Nat) ({ cls := "RegressionCourtModel", name := "begin", desc := "(II)I" } : Jvm.MethodName)) ∈ lw_tbl := List.mem_of_getElem? (i := 1466) (by decide +kernel)
theorem qw_1394 : (Jvm.Cond.instanceMethod ({ cls := "RegressionCourtModel", name := "begin", desc := "(II)I" } : Jvm.MethodName)) ∈ lw_tbl := List.mem_of_getElem? (i := 1467) (by decide +kernel)
theorem qw_1395 : (Jvm.Cond.selects "RegressionCourtModel" ({ cls := "RegressionCourtModel", name := "begin", desc := "(II)I" } : Jvm.MethodName) ({ cls := "RegressionCourtModel", name := "begin", desc := "(II)I" } : Jvm.MethodName)) ∈ lw_tbl := List.mem_of_getElem? (i := 1468) (by decide +kernel)
set_option maxRecDepth 50000 in
theorem qw_1396 : (Jvm.Cond.code ({ cls := "RegressionCourtModel", name := "begin", desc := "(II)I" } : Jvm.MethodName) prog_9_method_36_code (3 : Nat) (Option.some Jvm.ClassFile.FieldType.int)) ∈ lw_tbl := List.mem_of_getElem? (i := 1469) rfl
theorem qw_1397 : (Jvm.Cond.methodLink "RegressionCourtLaw" (133 : Nat) ({ cls := "RegressionCourtModel", name := "drop", desc := "()I" } : Jvm.MethodName)) ∈ lw_tbl := List.mem_of_getElem? (i := 1470) (by decide +kernel)
theorem qw_1398 : (Jvm.Cond.instanceMethod ({ cls := "RegressionCourtModel", name := "drop", desc := "()I" } : Jvm.MethodName)) ∈ lw_tbl := List.mem_of_getElem? (i := 1471) (by decide +kernel)
theorem qw_1399 : (Jvm.Cond.selects "RegressionCourtModel" ({ cls := "RegressionCourtModel", name := "drop", desc := "()I" } : Jvm.MethodName) ({ cls := "RegressionCourtModel", name := "drop", desc := "()I" } : Jvm.MethodName)) ∈ lw_tbl := List.mem_of_getElem? (i := 1472) (by decide +kernel)
set_option maxRecDepth 50000 in
theorem qw_1400 : (Jvm.Cond.code ({ cls := "RegressionCourtModel", name := "drop", desc := "()I" } : Jvm.MethodName) prog_9_method_37_code (2 : Nat) (Option.some Jvm.ClassFile.FieldType.int)) ∈ lw_tbl := List.mem_of_getElem? (i := 1473) rfl
theorem qw_1401 : (Jvm.Cond.methodLink "RegressionCourtLaw" (136 : Nat) ({ cls := "RegressionCourtModel", name := "ofCase", desc := "(I)I" } : Jvm.MethodName)) ∈ lw_tbl := List.mem_of_getElem? (i := 1474) (by decide +kernel)
theorem qw_1402 : (Jvm.Cond.instanceMethod ({ cls := "RegressionCourtModel", name := "ofCase", desc := "(I)I" } : Jvm.MethodName)) ∈ lw_tbl := List.mem_of_getElem? (i := 1475) (by decide +kernel)
theorem qw_1403 : (Jvm.Cond.selects "RegressionCourtModel" ({ cls := "RegressionCourtModel", name := "ofCase", desc := "(I)I" } : Jvm.MethodName) ({ cls := "RegressionCourtModel", name := "ofCase", desc := "(I)I" } : Jvm.MethodName)) ∈ lw_tbl := List.mem_of_getElem? (i := 1476) (by decide +kernel)
set_option maxRecDepth 50000 in
theorem qw_1404 : (Jvm.Cond.code ({ cls := "RegressionCourtModel", name := "ofCase", desc := "(I)I" } : Jvm.MethodName) prog_9_method_39_code (2 : Nat) (Option.some Jvm.ClassFile.FieldType.int)) ∈ lw_tbl := List.mem_of_getElem? (i := 1477) rfl
theorem qw_1405 : (Jvm.Cond.methodLink "RegressionCourtModel" (204 : Nat) ({ cls := "RegressionCourtModel", name := "ofCaseNow", desc := "(I)I" } : Jvm.MethodName)) ∈ lw_tbl := List.mem_of_getElem? (i := 1478) (by decide +kernel)
theorem qw_1407 : (Jvm.Cond.instanceMethod ({ cls := "RegressionCourtModel", name := "ofCaseNow", desc := "(I)I" } : Jvm.MethodName)) ∈ lw_tbl := List.mem_of_getElem? (i := 1480) (by decide +kernel)
set_option maxRecDepth 50000 in
theorem qw_1408 : (Jvm.Cond.code ({ cls := "RegressionCourtModel", name := "ofCaseNow", desc := "(I)I" } : Jvm.MethodName) prog_9_method_38_code (2 : Nat) (Option.some Jvm.ClassFile.FieldType.int)) ∈ lw_tbl := List.mem_of_getElem? (i := 1481) rfl
theorem qw_1409 : (Jvm.Cond.methodLink "RegressionCourtLaw" (140 : Nat) ({ cls := "RegressionCourtModel", name := "move", desc := "()I" } : Jvm.MethodName)) ∈ lw_tbl := List.mem_of_getElem? (i := 1482) (by decide +kernel)
theorem qw_1410 : (Jvm.Cond.instanceMethod ({ cls := "RegressionCourtModel", name := "move", desc := "()I" } : Jvm.MethodName)) ∈ lw_tbl := List.mem_of_getElem? (i := 1483) (by decide +kernel)
theorem qw_1411 : (Jvm.Cond.selects "RegressionCourtModel" ({ cls := "RegressionCourtModel", name := "move", desc := "()I" } : Jvm.MethodName) ({ cls := "RegressionCourtModel", name := "move", desc := "()I" } : Jvm.MethodName)) ∈ lw_tbl := List.mem_of_getElem? (i := 1484) (by decide +kernel)
set_option maxRecDepth 50000 in
theorem qw_1412 : (Jvm.Cond.code ({ cls := "RegressionCourtModel", name := "move", desc := "()I" } : Jvm.MethodName) prog_9_method_42_code (2 : Nat) (Option.some Jvm.ClassFile.FieldType.int)) ∈ lw_tbl := List.mem_of_getElem? (i := 1485) rfl
theorem qw_1413 : (Jvm.Cond.methodLink "RegressionCourtModel" (213 : Nat) ({ cls := "RegressionCourtModel", name := "moved", desc := "(I)I" } : Jvm.MethodName)) ∈ lw_tbl := List.mem_of_getElem? (i := 1486) (by decide +kernel)
theorem qw_1415 : (Jvm.Cond.instanceMethod ({ cls := "RegressionCourtModel", name := "moved", desc := "(I)I" } : Jvm.MethodName)) ∈ lw_tbl := List.mem_of_getElem? (i := 1488) (by decide +kernel)
set_option maxRecDepth 50000 in
theorem qw_1416 : (Jvm.Cond.code ({ cls := "RegressionCourtModel", name := "moved", desc := "(I)I" } : Jvm.MethodName) prog_9_method_41_code (3 : Nat) (Option.some Jvm.ClassFile.FieldType.int)) ∈ lw_tbl := List.mem_of_getElem? (i := 1489) rfl
theorem qw_1417 : (Jvm.Cond.methodLink "RegressionCourtModel" (207 : Nat) ({ cls := "RegressionCourtModel", name := "isNext", desc := "(I)Z" } : Jvm.MethodName)) ∈ lw_tbl := List.mem_of_getElem? (i := 1490) (by decide +kernel)
theorem qw_1419 : (Jvm.Cond.instanceMethod ({ cls := "RegressionCourtModel", name := "isNext", desc := "(I)Z" } : Jvm.MethodName)) ∈ lw_tbl := List.mem_of_getElem? (i := 1492) (by decide +kernel)
set_option maxRecDepth 50000 in
theorem qw_1420 : (Jvm.Cond.code ({ cls := "RegressionCourtModel", name := "isNext", desc := "(I)Z" } : Jvm.MethodName) prog_9_method_40_code (3 : Nat) (Option.some Jvm.ClassFile.FieldType.boolean)) ∈ lw_tbl := List.mem_of_getElem? (i := 1493) rfl
theorem qw_1421 : (Jvm.Cond.methodLink "RegressionCourtLaw" (143 : Nat) ({ cls := "RegressionCourtModel", name := "excuse", desc := "(II)I" } : Jvm.MethodName)) ∈ lw_tbl := List.mem_of_getElem? (i := 1494) (by decide +kernel)
theorem qw_1422 : (Jvm.Cond.instanceMethod ({ cls := "RegressionCourtModel", name := "excuse", desc := "(II)I" } : Jvm.MethodName)) ∈ lw_tbl := List.mem_of_getElem? (i := 1495) (by decide +kernel)
theorem qw_1423 : (Jvm.Cond.selects "RegressionCourtModel" ({ cls := "RegressionCourtModel", name := "excuse", desc := "(II)I" } : Jvm.MethodName) ({ cls := "RegressionCourtModel", name := "excuse", desc := "(II)I" } : Jvm.MethodName)) ∈ lw_tbl := List.mem_of_getElem? (i := 1496) (by decide +kernel)
set_option maxRecDepth 50000 in
theorem qw_1424 : (Jvm.Cond.code ({ cls := "RegressionCourtModel", name := "excuse", desc := "(II)I" } : Jvm.MethodName) prog_9_method_43_code (3 : Nat) (Option.some Jvm.ClassFile.FieldType.int)) ∈ lw_tbl := List.mem_of_getElem? (i := 1497) rfl
theorem qw_1425 : (Jvm.Cond.methodLink "RegressionCourtLaw" (146 : Nat) ({ cls := "RegressionCourtModel", name := "budget", desc := "(I)I" } : Jvm.MethodName)) ∈ lw_tbl := List.mem_of_getElem? (i := 1498) (by decide +kernel)
theorem qw_1426 : (Jvm.Cond.instanceMethod ({ cls := "RegressionCourtModel", name := "budget", desc := "(I)I" } : Jvm.MethodName)) ∈ lw_tbl := List.mem_of_getElem? (i := 1499) (by decide +kernel)
theorem qw_1427 : (Jvm.Cond.selects "RegressionCourtModel" ({ cls := "RegressionCourtModel", name := "budget", desc := "(I)I" } : Jvm.MethodName) ({ cls := "RegressionCourtModel", name := "budget", desc := "(I)I" } : Jvm.MethodName)) ∈ lw_tbl := List.mem_of_getElem? (i := 1500) (by decide +kernel)
set_option maxRecDepth 50000 in
theorem qw_1428 : (Jvm.Cond.code ({ cls := "RegressionCourtModel", name := "budget", desc := "(I)I" } : Jvm.MethodName) prog_9_method_44_code (2 : Nat) (Option.some Jvm.ClassFile.FieldType.int)) ∈ lw_tbl := List.mem_of_getElem? (i := 1501) rfl
theorem qw_1429 : (Jvm.Cond.methodLink "RegressionCourtLaw" (149 : Nat) ({ cls := "RegressionCourtModel", name := "many", desc := "(I)I" } : Jvm.MethodName)) ∈ lw_tbl := List.mem_of_getElem? (i := 1502) (by decide +kernel)
theorem qw_1430 : (Jvm.Cond.instanceMethod ({ cls := "RegressionCourtModel", name := "many", desc := "(I)I" } : Jvm.MethodName)) ∈ lw_tbl := List.mem_of_getElem? (i := 1503) (by decide +kernel)
theorem qw_1431 : (Jvm.Cond.selects "RegressionCourtModel" ({ cls := "RegressionCourtModel", name := "many", desc := "(I)I" } : Jvm.MethodName) ({ cls := "RegressionCourtModel", name := "many", desc := "(I)I" } : Jvm.MethodName)) ∈ lw_tbl := List.mem_of_getElem? (i := 1504) (by decide +kernel)
set_option maxRecDepth 50000 in
theorem qw_1432 : (Jvm.Cond.code ({ cls := "RegressionCourtModel", name := "many", desc := "(I)I" } : Jvm.MethodName) prog_9_method_46_code (2 : Nat) (Option.some Jvm.ClassFile.FieldType.int)) ∈ lw_tbl := List.mem_of_getElem? (i := 1505) rfl
theorem qw_1433 : (Jvm.Cond.methodLink "RegressionCourtModel" (216 : Nat) ({ cls := "RegressionCourtModel", name := "manyNow", desc := "(I)I" } : Jvm.MethodName)) ∈ lw_tbl := List.mem_of_getElem? (i := 1506) (by decide +kernel)
theorem qw_1435 : (Jvm.Cond.instanceMethod ({ cls := "RegressionCourtModel", name := "manyNow", desc := "(I)I" } : Jvm.MethodName)) ∈ lw_tbl := List.mem_of_getElem? (i := 1508) (by decide +kernel)
set_option maxRecDepth 50000 in
theorem qw_1436 : (Jvm.Cond.code ({ cls := "RegressionCourtModel", name := "manyNow", desc := "(I)I" } : Jvm.MethodName) prog_9_method_45_code (7 : Nat) (Option.some Jvm.ClassFile.FieldType.int)) ∈ lw_tbl := List.mem_of_getElem? (i := 1509) rfl
theorem qw_1437 : (Jvm.Cond.methodLink "RegressionCourtLaw" (152 : Nat) ({ cls := "RegressionCourtModel", name := "minutesFor", desc := "(I)I" } : Jvm.MethodName)) ∈ lw_tbl := List.mem_of_getElem? (i := 1510) (by decide +kernel)
theorem qw_1438 : (Jvm.Cond.instanceMethod ({ cls := "RegressionCourtModel", name := "minutesFor", desc := "(I)I" } : Jvm.MethodName)) ∈ lw_tbl := List.mem_of_getElem? (i := 1511) (by decide +kernel)
theorem qw_1439 : (Jvm.Cond.selects "RegressionCourtModel" ({ cls := "RegressionCourtModel", name := "minutesFor", desc := "(I)I" } : Jvm.MethodName) ({ cls := "RegressionCourtModel", name := "minutesFor", desc := "(I)I" } : Jvm.MethodName)) ∈ lw_tbl := List.mem_of_getElem? (i := 1512) (by decide +kernel)
set_option maxRecDepth 50000 in
theorem qw_1440 : (Jvm.Cond.code ({ cls := "RegressionCourtModel", name := "minutesFor", desc := "(I)I" } : Jvm.MethodName) prog_9_method_48_code (2 : Nat) (Option.some Jvm.ClassFile.FieldType.int)) ∈ lw_tbl := List.mem_of_getElem? (i := 1513) rfl
theorem qw_1441 : (Jvm.Cond.methodLink "RegressionCourtModel" (219 : Nat) ({ cls := "RegressionCourtModel", name := "minutesForNow", desc := "(I)I" } : Jvm.MethodName)) ∈ lw_tbl := List.mem_of_getElem? (i := 1514) (by decide +kernel)
theorem qw_1443 : (Jvm.Cond.instanceMethod ({ cls := "RegressionCourtModel", name := "minutesForNow", desc := "(I)I" } : Jvm.MethodName)) ∈ lw_tbl := List.mem_of_getElem? (i := 1516) (by decide +kernel)
set_option maxRecDepth 50000 in
theorem qw_1444 : (Jvm.Cond.code ({ cls := "RegressionCourtModel", name := "minutesForNow", desc := "(I)I" } : Jvm.MethodName) prog_9_method_47_code (5 : Nat) (Option.some Jvm.ClassFile.FieldType.int)) ∈ lw_tbl := List.mem_of_getElem? (i := 1517) rfl
theorem qw_1445 : (Jvm.Cond.methodLink "RegressionCourtLaw" (155 : Nat) ({ cls := "RegressionCourtModel", name := "verdictWith", desc := "(III)I" } : Jvm.MethodName)) ∈ lw_tbl := List.mem_of_getElem? (i := 1518) (by decide +kernel)
theorem qw_1446 : (Jvm.Cond.instanceMethod ({ cls := "RegressionCourtModel", name := "verdictWith", desc := "(III)I" } : Jvm.MethodName)) ∈ lw_tbl := List.mem_of_getElem? (i := 1519) (by decide +kernel)
theorem qw_1447 : (Jvm.Cond.selects "RegressionCourtModel" ({ cls := "RegressionCourtModel", name := "verdictWith", desc := "(III)I" } : Jvm.MethodName) ({ cls := "RegressionCourtModel", name := "verdictWith", desc := "(III)I" } : Jvm.MethodName)) ∈ lw_tbl := List.mem_of_getElem? (i := 1520) (by decide +kernel)
set_option maxRecDepth 50000 in
theorem qw_1448 : (Jvm.Cond.code ({ cls := "RegressionCourtModel", name := "verdictWith", desc := "(III)I" } : Jvm.MethodName) prog_9_method_49_code (6 : Nat) (Option.some Jvm.ClassFile.FieldType.int)) ∈ lw_tbl := List.mem_of_getElem? (i := 1521) rfl
theorem qw_1449 : (Jvm.Cond.methodLink "RegressionCourtLaw" (158 : Nat) ({ cls := "RegressionCourtModel", name := "without", desc := "(I)I" } : Jvm.MethodName)) ∈ lw_tbl := List.mem_of_getElem? (i := 1522) (by decide +kernel)
theorem qw_1450 : (Jvm.Cond.instanceMethod ({ cls := "RegressionCourtModel", name := "without", desc := "(I)I" } : Jvm.MethodName)) ∈ lw_tbl := List.mem_of_getElem? (i := 1523) (by decide +kernel)
theorem qw_1451 : (Jvm.Cond.selects "RegressionCourtModel" ({ cls := "RegressionCourtModel", name := "without", desc := "(I)I" } : Jvm.MethodName) ({ cls := "RegressionCourtModel", name := "without", desc := "(I)I" } : Jvm.MethodName)) ∈ lw_tbl := List.mem_of_getElem? (i := 1524) (by decide +kernel)
set_option maxRecDepth 50000 in
theorem qw_1452 : (Jvm.Cond.code ({ cls := "RegressionCourtModel", name := "without", desc := "(I)I" } : Jvm.MethodName) prog_9_method_51_code (2 : Nat) (Option.some Jvm.ClassFile.FieldType.int)) ∈ lw_tbl := List.mem_of_getElem? (i := 1525) rfl
theorem qw_1453 : (Jvm.Cond.methodLink "RegressionCourtModel" (222 : Nat) ({ cls := "RegressionCourtModel", name := "withoutNow", desc := "(I)I" } : Jvm.MethodName)) ∈ lw_tbl := List.mem_of_getElem? (i := 1526) (by decide +kernel)
theorem qw_1455 : (Jvm.Cond.instanceMethod ({ cls := "RegressionCourtModel", name := "withoutNow", desc := "(I)I" } : Jvm.MethodName)) ∈ lw_tbl := List.mem_of_getElem? (i := 1528) (by decide +kernel)
set_option maxRecDepth 50000 in
theorem qw_1456 : (Jvm.Cond.code ({ cls := "RegressionCourtModel", name := "withoutNow", desc := "(I)I" } : Jvm.MethodName) prog_9_method_50_code (4 : Nat) (Option.some Jvm.ClassFile.FieldType.int)) ∈ lw_tbl := List.mem_of_getElem? (i := 1529) rfl
theorem qw_1457 : (Jvm.Cond.methodLink "RegressionCourtLaw" (162 : Nat) ({ cls := "RegressionCourtModel", name := "wouldMove", desc := "()I" } : Jvm.MethodName)) ∈ lw_tbl := List.mem_of_getElem? (i := 1530) (by decide +kernel)
theorem qw_1458 : (Jvm.Cond.instanceMethod ({ cls := "RegressionCourtModel", name := "wouldMove", desc := "()I" } : Jvm.MethodName)) ∈ lw_tbl := List.mem_of_getElem? (i := 1531) (by decide +kernel)
theorem qw_1459 : (Jvm.Cond.selects "RegressionCourtModel" ({ cls := "RegressionCourtModel", name := "wouldMove", desc := "()I" } : Jvm.MethodName) ({ cls := "RegressionCourtModel", name := "wouldMove", desc := "()I" } : Jvm.MethodName)) ∈ lw_tbl := List.mem_of_getElem? (i := 1532) (by decide +kernel)
set_option maxRecDepth 50000 in
theorem qw_1460 : (Jvm.Cond.code ({ cls := "RegressionCourtModel", name := "wouldMove", desc := "()I" } : Jvm.MethodName) prog_9_method_52_code (1 : Nat) (Option.some Jvm.ClassFile.FieldType.int)) ∈ lw_tbl := List.mem_of_getElem? (i := 1533) rfl
theorem qw_1461 : (Jvm.Cond.methodLink "RegressionCourtLaw" (167 : Nat) ({ cls := "RegressionCourtModel", name := "digest", desc := "()J" } : Jvm.MethodName)) ∈ lw_tbl := List.mem_of_getElem? (i := 1534) (by decide +kernel)
theorem qw_1462 : (Jvm.Cond.instanceMethod ({ cls := "RegressionCourtModel", name := "digest", desc := "()J" } : Jvm.MethodName)) ∈ lw_tbl := List.mem_of_getElem? (i := 1535) (by decide +kernel)
theorem qw_1463 : (Jvm.Cond.selects "RegressionCourtModel" ({ cls := "RegressionCourtModel", name := "digest", desc := "()J" } : Jvm.MethodName) ({ cls := "RegressionCourtModel", name := "digest", desc := "()J" } : Jvm.MethodName)) ∈ lw_tbl := List.mem_of_getElem? (i := 1536) (by decide +kernel)
set_option maxRecDepth 50000 in
theorem qw_1464 : (Jvm.Cond.code ({ cls := "RegressionCourtModel", name := "digest", desc := "()J" } : Jvm.MethodName) prog_9_method_54_code (3 : Nat) (Option.some Jvm.ClassFile.FieldType.long)) ∈ lw_tbl := List.mem_of_getElem? (i := 1537) rfl
theorem qw_1465 : (Jvm.Cond.constantLong "RegressionCourtModel" (231 : Nat) (5750 : Int64)) ∈ lw_tbl := List.mem_of_getElem? (i := 1538) (by decide +kernel)
theorem qw_1466 : (Jvm.Cond.methodLink "RegressionCourtModel" (233 : Nat) ({ cls := "RegressionCourtModel", name := "add", desc := "(I)V" } : Jvm.MethodName)) ∈ lw_tbl := List.mem_of_getElem? (i := 1539) (by decide +kernel)
theorem qw_1468 : (Jvm.Cond.instanceMethod ({ cls := "RegressionCourtModel", name := "add", desc := "(I)V" } : Jvm.MethodName)) ∈ lw_tbl := List.mem_of_getElem? (i := 1541) (by decide +kernel)
set_option maxRecDepth 50000 in
theorem qw_1469 : (Jvm.Cond.code ({ cls := "RegressionCourtModel", name := "add", desc := "(I)V" } : Jvm.MethodName) prog_9_method_53_code (2 : Nat) (Option.none : Option Jvm.ClassFile.FieldType)) ∈ lw_tbl := List.mem_of_getElem? (i := 1542) rfl
theorem qw_1470 : (Jvm.Cond.constantLong "RegressionCourtModel" (229 : Nat) (31 : Int64)) ∈ lw_tbl := List.mem_of_getElem? (i := 1543) (by decide +kernel)
theorem qw_1471 : (Jvm.Cond.arrayClass Jvm.ClassFile.FieldType.long) ∈ lw_tbl := List.mem_of_getElem? (i := 1544) (by decide +kernel)
theorem qw_1472 : (Jvm.Cond.arrayClass Jvm.ClassFile.FieldType.double) ∈ lw_tbl := List.mem_of_getElem? (i := 1545) (by decide +kernel)
theorem qw_1473 : (Jvm.Cond.sameMethod "java/lang/Throwable" "java/lang/Throwable" "fillInStackTrace" "(I)Ljava/lang/Throwable;") ∈ lw_tbl := List.mem_of_getElem? (i := 1546) (by decide +kernel)
theorem qw_1474 : (Jvm.Cond.sameMethod "java/lang/AbstractStringBuilder" "java/lang/AbstractStringBuilder" "append" "(I)Ljava/lang/AbstractStringBuilder;") ∈ lw_tbl := List.mem_of_getElem? (i := 1547) (by decide +kernel)
theorem qw_1475 : (Jvm.Cond.sameMethod "java/lang/AbstractStringBuilder" "java/lang/AbstractStringBuilder" "ensureCapacityInternal" "(I)V") ∈ lw_tbl := List.mem_of_getElem? (i := 1548) (by decide +kernel)
theorem qw_1476 : (Jvm.Cond.sameMethod "java/lang/AbstractStringBuilder" "java/lang/AbstractStringBuilder" "newCapacity" "(I)I") ∈ lw_tbl := List.mem_of_getElem? (i := 1549) (by decide +kernel)
theorem qw_1477 : (Jvm.Cond.sameMethod "java/lang/AbstractStringBuilder" "java/lang/AbstractStringBuilder" "append" "(Ljava/lang/String;)Ljava/lang/AbstractStringBuilder;") ∈ lw_tbl := List.mem_of_getElem? (i := 1550) (by decide +kernel)
theorem qw_1478 : (Jvm.Cond.sameMethod "java/lang/AbstractStringBuilder" "java/lang/AbstractStringBuilder" "appendNull" "()Ljava/lang/AbstractStringBuilder;") ∈ lw_tbl := List.mem_of_getElem? (i := 1551) (by decide +kernel)
theorem qw_1479 : (Jvm.Cond.sameMethod "java/lang/AbstractStringBuilder" "java/lang/AbstractStringBuilder" "putStringAt" "(ILjava/lang/String;)V") ∈ lw_tbl := List.mem_of_getElem? (i := 1552) (by decide +kernel)
theorem qw_1480 : (Jvm.Cond.sameMethod "java/lang/AbstractStringBuilder" "java/lang/AbstractStringBuilder" "inflateIfNeededFor" "(Ljava/lang/String;)V") ∈ lw_tbl := List.mem_of_getElem? (i := 1553) (by decide +kernel)
theorem qw_1481 : (Jvm.Cond.sameMethod "java/lang/AbstractStringBuilder" "java/lang/AbstractStringBuilder" "inflate" "()V") ∈ lw_tbl := List.mem_of_getElem? (i := 1554) (by decide +kernel)
theorem qw_1482 : (Jvm.Cond.castable "java/lang/Integer" "java/lang/Object") ∈ lw_tbl := List.mem_of_getElem? (i := 1555) (by decide +kernel)
theorem qw_1483 : (Jvm.Cond.castable "RegressionCourt" "java/lang/Object") ∈ lw_tbl := List.mem_of_getElem? (i := 1556) (by decide +kernel)
theorem qw_1484 : (Jvm.Cond.castable "java/util/ArrayList" "java/lang/Object") ∈ lw_tbl := List.mem_of_getElem? (i := 1557) (by decide +kernel)
theorem qw_1485 : (Jvm.Cond.castable "RegressionCourt$Change" "java/lang/Object") ∈ lw_tbl := List.mem_of_getElem? (i := 1558) (by decide +kernel)
theorem qw_1486 : (Jvm.Cond.castable "RegressionCourt$Sample" "java/lang/Object") ∈ lw_tbl := List.mem_of_getElem? (i := 1559) (by decide +kernel)
theorem qw_1487 : (Jvm.Cond.castable "RegressionCourt$Duel" "java/lang/Object") ∈ lw_tbl := List.mem_of_getElem? (i := 1560) (by decide +kernel)
theorem qw_1488 : (Jvm.Cond.castable "RegressionCourt$Bisection" "java/lang/Object") ∈ lw_tbl := List.mem_of_getElem? (i := 1561) (by decide +kernel)
theorem qw_1489 : (Jvm.Cond.castable "RegressionCourtModel" "java/lang/Object") ∈ lw_tbl := List.mem_of_getElem? (i := 1562) (by decide +kernel)
theorem qw_1490 : (Jvm.Cond.castable "java/lang/IllegalArgumentException" "java/lang/Object") ∈ lw_tbl := List.mem_of_getElem? (i := 1563) (by decide +kernel)
theorem qw_1491 : (Jvm.Cond.castable "java/lang/IllegalStateException" "java/lang/Object") ∈ lw_tbl := List.mem_of_getElem? (i := 1564) (by decide +kernel)
theorem qw_1492 : (Jvm.Cond.castable "RegressionCourt$Machine" "java/lang/Object") ∈ lw_tbl := List.mem_of_getElem? (i := 1565) (by decide +kernel)
theorem qw_1493 : (Jvm.Cond.castable "java/lang/IndexOutOfBoundsException" "java/lang/Object") ∈ lw_tbl := List.mem_of_getElem? (i := 1566) (by decide +kernel)
theorem qw_1494 : (Jvm.Cond.castable "java/lang/StringBuilder" "java/lang/Object") ∈ lw_tbl := List.mem_of_getElem? (i := 1567) (by decide +kernel)
theorem qw_1495 : (Jvm.Cond.castable "java/lang/String" "java/lang/Object") ∈ lw_tbl := List.mem_of_getElem? (i := 1568) (by decide +kernel)
theorem qw_1496 : (Jvm.Cond.castable "java/util/ArrayList$Itr" "java/lang/Object") ∈ lw_tbl := List.mem_of_getElem? (i := 1569) (by decide +kernel)
theorem qw_1497 : (Jvm.Cond.castable "RegressionCourt$Run" "java/lang/Object") ∈ lw_tbl := List.mem_of_getElem? (i := 1570) (by decide +kernel)
theorem qw_1498 : (Jvm.Cond.castable "java/lang/Throwable" "java/lang/Object") ∈ lw_tbl := List.mem_of_getElem? (i := 1571) (by decide +kernel)
theorem qw_1499 : (Jvm.Cond.sameMethod "[Ljava/lang/Object;" "java/lang/Object" "getClass" "()Ljava/lang/Class;") ∈ lw_tbl := List.mem_of_getElem? (i := 1572) (by decide +kernel)
theorem qw_1500 : (Jvm.Cond.selects "[Ljava/lang/Object;" ({ cls := "java/lang/Object", name := "getClass", desc := "()Ljava/lang/Class;" } : Jvm.MethodName) ({ cls := "java/lang/Object", name := "getClass", desc := "()Ljava/lang/Class;" } : Jvm.MethodName)) ∈ lw_tbl := List.mem_of_getElem? (i := 1573) (by decide +kernel)
theorem qw_1501 : (Jvm.Cond.declares ({ cls := "java/lang/Object", name := "getClass", desc := "()Ljava/lang/Class;" } : Jvm.MethodName)) ∈ lw_tbl := List.mem_of_getElem? (i := 1574) (by decide +kernel)
theorem qw_1502 : (Jvm.Cond.castable "[I" "java/lang/Object") ∈ lw_tbl := List.mem_of_getElem? (i := 1575) (by decide +kernel)
theorem qw_1503 : (Jvm.Cond.castable "[[I" "java/lang/Object") ∈ lw_tbl := List.mem_of_getElem? (i := 1576) (by decide +kernel)
theorem qw_1504 : (Jvm.Cond.castable "[Ljava/lang/Object;" "java/lang/Object") ∈ lw_tbl := List.mem_of_getElem? (i := 1577) (by decide +kernel)
theorem qw_1505 : (Jvm.Cond.castable "[B" "java/lang/Object") ∈ lw_tbl := List.mem_of_getElem? (i := 1578) (by decide +kernel)
theorem qw_1506 : (Jvm.Cond.castable "[Z" "java/lang/Object") ∈ lw_tbl := List.mem_of_getElem? (i := 1579) (by decide +kernel)
theorem qw_1507 : (Jvm.Cond.castable "[J" "java/lang/Object") ∈ lw_tbl := List.mem_of_getElem? (i := 1580) (by decide +kernel)
theorem qw_1508 : (Jvm.Cond.castable "[D" "java/lang/Object") ∈ lw_tbl := List.mem_of_getElem? (i := 1581) (by decide +kernel)
theorem qs_0 : Cond.selects "java/util/ArrayList" ⟨"java/util/ArrayList", "add", "(Ljava/lang/Object;[Ljava/lang/Object;I)V"⟩ ⟨"java/util/ArrayList", "add", "(Ljava/lang/Object;[Ljava/lang/Object;I)V"⟩ ∈ lw_tbl := List.mem_of_getElem? (i := 0) (by decide +kernel)
theorem qs_1 : Cond.selects "java/util/ArrayList" ⟨"java/util/ArrayList", "grow", "()[Ljava/lang/Object;"⟩ ⟨"java/util/ArrayList", "grow", "()[Ljava/lang/Object;"⟩ ∈ lw_tbl := List.mem_of_getElem? (i := 1) (by decide +kernel)
theorem qs_2 : Cond.selects "java/util/ArrayList" ⟨"java/util/ArrayList", "grow", "(I)[Ljava/lang/Object;"⟩ ⟨"java/util/ArrayList", "grow", "(I)[Ljava/lang/Object;"⟩ ∈ lw_tbl := List.mem_of_getElem? (i := 2) (by decide +kernel)
theorem qs_3 : Cond.selects "RegressionCourt" ⟨"RegressionCourt", "creditOfStepTo", "(I)I"⟩ ⟨"RegressionCourt", "creditOfStepTo", "(I)I"⟩ ∈ lw_tbl := List.mem_of_getElem? (i := 3) (by decide +kernel)
theorem qs_4 : Cond.selects "RegressionCourt" ⟨"RegressionCourt", "changeAt", "(I)LRegressionCourt$Change;"⟩ ⟨"RegressionCourt", "changeAt", "(I)LRegressionCourt$Change;"⟩ ∈ lw_tbl := List.mem_of_getElem? (i := 4) (by decide +kernel)
theorem qs_5 : Cond.selects "RegressionCourt" ⟨"RegressionCourt", "meet", "(II)V"⟩ ⟨"RegressionCourt", "meet", "(II)V"⟩ ∈ lw_tbl := List.mem_of_getElem? (i := 5) (by decide +kernel)
theorem qs_6 : Cond.selects "RegressionCourt$Sample" ⟨"RegressionCourt$Sample", "clear", "()V"⟩ ⟨"RegressionCourt$Sample", "clear", "()V"⟩ ∈ lw_tbl := List.mem_of_getElem? (i := 6) (by decide +kernel)
theorem qs_7 : Cond.selects "RegressionCourt$Sample" ⟨"RegressionCourt$Sample", "addLastOf", "(LRegressionCourt$Change;)V"⟩ ⟨"RegressionCourt$Sample", "addLastOf", "(LRegressionCourt$Change;)V"⟩ ∈ lw_tbl := List.mem_of_getElem? (i := 7) (by decide +kernel)
theorem qs_8 : Cond.selects "RegressionCourt$Run" ⟨"RegressionCourt$Run", "isCounting", "()Z"⟩ ⟨"RegressionCourt$Run", "isCounting", "()Z"⟩ ∈ lw_tbl := List.mem_of_getElem? (i := 8) (by decide +kernel)
theorem qs_9 : Cond.selects "RegressionCourt$Sample" ⟨"RegressionCourt$Sample", "add", "(I)V"⟩ ⟨"RegressionCourt$Sample", "add", "(I)V"⟩ ∈ lw_tbl := List.mem_of_getElem? (i := 9) (by decide +kernel)
theorem qs_10 : Cond.selects "RegressionCourt$Duel" ⟨"RegressionCourt$Duel", "weigh", "()V"⟩ ⟨"RegressionCourt$Duel", "weigh", "()V"⟩ ∈ lw_tbl := List.mem_of_getElem? (i := 10) (by decide +kernel)
theorem qs_11 : Cond.selects "RegressionCourt$Duel" ⟨"RegressionCourt$Duel", "lay", "(LRegressionCourt$Sample;)V"⟩ ⟨"RegressionCourt$Duel", "lay", "(LRegressionCourt$Sample;)V"⟩ ∈ lw_tbl := List.mem_of_getElem? (i := 11) (by decide +kernel)
theorem qs_12 : Cond.selects "RegressionCourt$Sample" ⟨"RegressionCourt$Sample", "worthAt", "(I)I"⟩ ⟨"RegressionCourt$Sample", "worthAt", "(I)I"⟩ ∈ lw_tbl := List.mem_of_getElem? (i := 12) (by decide +kernel)
theorem qs_13 : Cond.selects "RegressionCourt$Duel" ⟨"RegressionCourt$Duel", "leadOf", "(I)I"⟩ ⟨"RegressionCourt$Duel", "leadOf", "(I)I"⟩ ∈ lw_tbl := List.mem_of_getElem? (i := 13) (by decide +kernel)
theorem qs_14 : Cond.selects "RegressionCourt$Duel" ⟨"RegressionCourt$Duel", "countWays", "()V"⟩ ⟨"RegressionCourt$Duel", "countWays", "()V"⟩ ∈ lw_tbl := List.mem_of_getElem? (i := 14) (by decide +kernel)
theorem qs_15 : Cond.selects "RegressionCourt$Duel" ⟨"RegressionCourt$Duel", "clearLeads", "([I)V"⟩ ⟨"RegressionCourt$Duel", "clearLeads", "([I)V"⟩ ∈ lw_tbl := List.mem_of_getElem? (i := 15) (by decide +kernel)
theorem qs_16 : Cond.selects "RegressionCourt$Duel" ⟨"RegressionCourt$Duel", "addShifted", "([I[II)V"⟩ ⟨"RegressionCourt$Duel", "addShifted", "([I[II)V"⟩ ∈ lw_tbl := List.mem_of_getElem? (i := 16) (by decide +kernel)
theorem qs_17 : Cond.selects "RegressionCourt$Duel" ⟨"RegressionCourt$Duel", "tally", "(I)V"⟩ ⟨"RegressionCourt$Duel", "tally", "(I)V"⟩ ∈ lw_tbl := List.mem_of_getElem? (i := 17) (by decide +kernel)
theorem qs_18 : Cond.selects "RegressionCourt$Duel" ⟨"RegressionCourt$Duel", "outcome", "(II)I"⟩ ⟨"RegressionCourt$Duel", "outcome", "(II)I"⟩ ∈ lw_tbl := List.mem_of_getElem? (i := 18) (by decide +kernel)
theorem qs_19 : Cond.selects "RegressionCourt" ⟨"RegressionCourt", "courtFact", "(I)I"⟩ ⟨"RegressionCourt", "courtFact", "(I)I"⟩ ∈ lw_tbl := List.mem_of_getElem? (i := 19) (by decide +kernel)
theorem qs_20 : Cond.selects "RegressionCourt" ⟨"RegressionCourt", "runsThatCount", "()I"⟩ ⟨"RegressionCourt", "runsThatCount", "()I"⟩ ∈ lw_tbl := List.mem_of_getElem? (i := 20) (by decide +kernel)
theorem qs_21 : Cond.selects "RegressionCourt" ⟨"RegressionCourt", "changesNamed", "()I"⟩ ⟨"RegressionCourt", "changesNamed", "()I"⟩ ∈ lw_tbl := List.mem_of_getElem? (i := 21) (by decide +kernel)
theorem qs_22 : Cond.selects "RegressionCourt" ⟨"RegressionCourt", "machinesAside", "()I"⟩ ⟨"RegressionCourt", "machinesAside", "()I"⟩ ∈ lw_tbl := List.mem_of_getElem? (i := 22) (by decide +kernel)
theorem qs_23 : Cond.selects "RegressionCourt" ⟨"RegressionCourt", "digestOfMachines", "(J)J"⟩ ⟨"RegressionCourt", "digestOfMachines", "(J)J"⟩ ∈ lw_tbl := List.mem_of_getElem? (i := 23) (by decide +kernel)
theorem qs_24 : Cond.selects "RegressionCourt" ⟨"RegressionCourt", "machineFact", "(LRegressionCourt$Machine;I)I"⟩ ⟨"RegressionCourt", "machineFact", "(LRegressionCourt$Machine;I)I"⟩ ∈ lw_tbl := List.mem_of_getElem? (i := 24) (by decide +kernel)
theorem qs_25 : Cond.selects "RegressionCourt" ⟨"RegressionCourt", "changesHurtWithout", "(LRegressionCourt$Machine;)I"⟩ ⟨"RegressionCourt", "changesHurtWithout", "(LRegressionCourt$Machine;)I"⟩ ∈ lw_tbl := List.mem_of_getElem? (i := 25) (by decide +kernel)
theorem qs_26 : Cond.selects "RegressionCourt$Change" ⟨"RegressionCourt$Change", "sampleSizeWithout", "(LRegressionCourt$Machine;)I"⟩ ⟨"RegressionCourt$Change", "sampleSizeWithout", "(LRegressionCourt$Machine;)I"⟩ ∈ lw_tbl := List.mem_of_getElem? (i := 26) (by decide +kernel)
theorem qs_27 : Cond.selects "RegressionCourt$Change" ⟨"RegressionCourt$Change", "sampleSize", "()I"⟩ ⟨"RegressionCourt$Change", "sampleSize", "()I"⟩ ∈ lw_tbl := List.mem_of_getElem? (i := 27) (by decide +kernel)
theorem qs_28 : Cond.selects "RegressionCourt" ⟨"RegressionCourt", "digestOfChanges", "(J)J"⟩ ⟨"RegressionCourt", "digestOfChanges", "(J)J"⟩ ∈ lw_tbl := List.mem_of_getElem? (i := 28) (by decide +kernel)
theorem qs_29 : Cond.selects "RegressionCourt" ⟨"RegressionCourt", "changeFact", "(LRegressionCourt$Change;I)I"⟩ ⟨"RegressionCourt", "changeFact", "(LRegressionCourt$Change;I)I"⟩ ∈ lw_tbl := List.mem_of_getElem? (i := 29) (by decide +kernel)
theorem qs_30 : Cond.selects "RegressionCourt" ⟨"RegressionCourt", "minutesToFill", "(LRegressionCourt$Change;)I"⟩ ⟨"RegressionCourt", "minutesToFill", "(LRegressionCourt$Change;)I"⟩ ∈ lw_tbl := List.mem_of_getElem? (i := 30) (by decide +kernel)
theorem qs_31 : Cond.selects "RegressionCourt" ⟨"RegressionCourt", "leastPrice", "()I"⟩ ⟨"RegressionCourt", "leastPrice", "()I"⟩ ∈ lw_tbl := List.mem_of_getElem? (i := 31) (by decide +kernel)
theorem qs_32 : Cond.selects "RegressionCourt" ⟨"RegressionCourt", "digestOfRuns", "(J)J"⟩ ⟨"RegressionCourt", "digestOfRuns", "(J)J"⟩ ∈ lw_tbl := List.mem_of_getElem? (i := 32) (by decide +kernel)
theorem qs_33 : Cond.selects "RegressionCourt" ⟨"RegressionCourt", "runFact", "(LRegressionCourt$Run;I)I"⟩ ⟨"RegressionCourt", "runFact", "(LRegressionCourt$Run;I)I"⟩ ∈ lw_tbl := List.mem_of_getElem? (i := 33) (by decide +kernel)
theorem qs_34 : Cond.selects "RegressionCourt$Change" ⟨"RegressionCourt$Change", "isInSample", "(LRegressionCourt$Run;)Z"⟩ ⟨"RegressionCourt$Change", "isInSample", "(LRegressionCourt$Run;)Z"⟩ ∈ lw_tbl := List.mem_of_getElem? (i := 34) (by decide +kernel)
theorem qs_35 : Cond.selects "RegressionCourt" ⟨"RegressionCourt", "digestOfVerdicts", "(J)J"⟩ ⟨"RegressionCourt", "digestOfVerdicts", "(J)J"⟩ ∈ lw_tbl := List.mem_of_getElem? (i := 35) (by decide +kernel)
theorem qs_36 : Cond.selects "RegressionCourt" ⟨"RegressionCourt", "duelFact", "(I)I"⟩ ⟨"RegressionCourt", "duelFact", "(I)I"⟩ ∈ lw_tbl := List.mem_of_getElem? (i := 36) (by decide +kernel)
theorem qs_37 : Cond.selects "RegressionCourt" ⟨"RegressionCourt", "caseFact", "(I)I"⟩ ⟨"RegressionCourt", "caseFact", "(I)I"⟩ ∈ lw_tbl := List.mem_of_getElem? (i := 37) (by decide +kernel)
theorem qs_38 : Cond.selects "java/lang/Throwable" ⟨"java/lang/Throwable", "fillInStackTrace", "(I)Ljava/lang/Throwable;"⟩ ⟨"java/lang/Throwable", "fillInStackTrace", "(I)Ljava/lang/Throwable;"⟩ ∈ lw_tbl := List.mem_of_getElem? (i := 38) (by decide +kernel)
theorem qs_39 : Cond.selects "RegressionCourt$Machine" ⟨"RegressionCourt$Machine", "take", "(I)V"⟩ ⟨"RegressionCourt$Machine", "take", "(I)V"⟩ ∈ lw_tbl := List.mem_of_getElem? (i := 39) (by decide +kernel)
theorem qs_40 : Cond.selects "RegressionCourt$Machine" ⟨"RegressionCourt$Machine", "drifts", "()Z"⟩ ⟨"RegressionCourt$Machine", "drifts", "()Z"⟩ ∈ lw_tbl := List.mem_of_getElem? (i := 40) (by decide +kernel)
theorem qs_41 : Cond.selects "RegressionCourt" ⟨"RegressionCourt", "goOn", "()V"⟩ ⟨"RegressionCourt", "goOn", "()V"⟩ ∈ lw_tbl := List.mem_of_getElem? (i := 41) (by decide +kernel)
theorem qs_42 : Cond.selects "RegressionCourt" ⟨"RegressionCourt", "bisectOnce", "()Z"⟩ ⟨"RegressionCourt", "bisectOnce", "()Z"⟩ ∈ lw_tbl := List.mem_of_getElem? (i := 42) (by decide +kernel)
theorem qs_43 : Cond.selects "RegressionCourt$Bisection" ⟨"RegressionCourt$Bisection", "probe", "()I"⟩ ⟨"RegressionCourt$Bisection", "probe", "()I"⟩ ∈ lw_tbl := List.mem_of_getElem? (i := 43) (by decide +kernel)
theorem qs_44 : Cond.selects "RegressionCourt$Bisection" ⟨"RegressionCourt$Bisection", "close", "()V"⟩ ⟨"RegressionCourt$Bisection", "close", "()V"⟩ ∈ lw_tbl := List.mem_of_getElem? (i := 44) (by decide +kernel)
theorem qs_45 : Cond.selects "RegressionCourt$Bisection" ⟨"RegressionCourt$Bisection", "narrow", "(IZ)V"⟩ ⟨"RegressionCourt$Bisection", "narrow", "(IZ)V"⟩ ∈ lw_tbl := List.mem_of_getElem? (i := 45) (by decide +kernel)
theorem qs_46 : Cond.selects "RegressionCourt" ⟨"RegressionCourt", "isNoChange", "(I)Z"⟩ ⟨"RegressionCourt", "isNoChange", "(I)Z"⟩ ∈ lw_tbl := List.mem_of_getElem? (i := 46) (by decide +kernel)
theorem qs_47 : Cond.selects "RegressionCourt$Machine" ⟨"RegressionCourt$Machine", "worthOf", "(I)I"⟩ ⟨"RegressionCourt$Machine", "worthOf", "(I)I"⟩ ∈ lw_tbl := List.mem_of_getElem? (i := 47) (by decide +kernel)
theorem qs_48 : Cond.selects "RegressionCourt$Duel" ⟨"RegressionCourt$Duel", "shareOfHigh", "()D"⟩ ⟨"RegressionCourt$Duel", "shareOfHigh", "()D"⟩ ∈ lw_tbl := List.mem_of_getElem? (i := 48) (by decide +kernel)
theorem qs_49 : Cond.selects "RegressionCourt$Bisection" ⟨"RegressionCourt$Bisection", "open", "(II)V"⟩ ⟨"RegressionCourt$Bisection", "open", "(II)V"⟩ ∈ lw_tbl := List.mem_of_getElem? (i := 49) (by decide +kernel)
theorem qs_50 : Cond.selects "RegressionCourtModel" ⟨"RegressionCourtModel", "refuse", "(I)I"⟩ ⟨"RegressionCourtModel", "refuse", "(I)I"⟩ ∈ lw_tbl := List.mem_of_getElem? (i := 50) (by decide +kernel)
theorem qs_51 : Cond.selects "RegressionCourtModel" ⟨"RegressionCourtModel", "isMachine", "(I)Z"⟩ ⟨"RegressionCourtModel", "isMachine", "(I)Z"⟩ ∈ lw_tbl := List.mem_of_getElem? (i := 51) (by decide +kernel)
theorem qs_52 : Cond.selects "RegressionCourtModel" ⟨"RegressionCourtModel", "goOn", "()V"⟩ ⟨"RegressionCourtModel", "goOn", "()V"⟩ ∈ lw_tbl := List.mem_of_getElem? (i := 52) (by decide +kernel)
theorem qs_53 : Cond.selects "RegressionCourtModel" ⟨"RegressionCourtModel", "verdictNow", "(III)I"⟩ ⟨"RegressionCourtModel", "verdictNow", "(III)I"⟩ ∈ lw_tbl := List.mem_of_getElem? (i := 53) (by decide +kernel)
theorem qs_54 : Cond.selects "RegressionCourtModel" ⟨"RegressionCourtModel", "sample", "(I)[I"⟩ ⟨"RegressionCourtModel", "sample", "(I)[I"⟩ ∈ lw_tbl := List.mem_of_getElem? (i := 54) (by decide +kernel)
theorem qs_55 : Cond.selects "RegressionCourtModel" ⟨"RegressionCourtModel", "sample", "(II)[I"⟩ ⟨"RegressionCourtModel", "sample", "(II)[I"⟩ ∈ lw_tbl := List.mem_of_getElem? (i := 55) (by decide +kernel)
theorem qs_56 : Cond.selects "RegressionCourtModel" ⟨"RegressionCourtModel", "counts", "([II)Z"⟩ ⟨"RegressionCourtModel", "counts", "([II)Z"⟩ ∈ lw_tbl := List.mem_of_getElem? (i := 56) (by decide +kernel)
theorem qs_57 : Cond.selects "RegressionCourtModel" ⟨"RegressionCourtModel", "isAside", "(I)Z"⟩ ⟨"RegressionCourtModel", "isAside", "(I)Z"⟩ ∈ lw_tbl := List.mem_of_getElem? (i := 57) (by decide +kernel)
theorem qs_58 : Cond.selects "RegressionCourtModel" ⟨"RegressionCourtModel", "verdictOf", "([I[I)I"⟩ ⟨"RegressionCourtModel", "verdictOf", "([I[I)I"⟩ ∈ lw_tbl := List.mem_of_getElem? (i := 58) (by decide +kernel)
theorem qs_59 : Cond.selects "RegressionCourtModel" ⟨"RegressionCourtModel", "end", "()V"⟩ ⟨"RegressionCourtModel", "end", "()V"⟩ ∈ lw_tbl := List.mem_of_getElem? (i := 59) (by decide +kernel)
theorem qs_60 : Cond.selects "RegressionCourtModel" ⟨"RegressionCourtModel", "ofMachineNow", "(II)I"⟩ ⟨"RegressionCourtModel", "ofMachineNow", "(II)I"⟩ ∈ lw_tbl := List.mem_of_getElem? (i := 60) (by decide +kernel)
theorem qs_61 : Cond.selects "RegressionCourtModel" ⟨"RegressionCourtModel", "scale", "(I)I"⟩ ⟨"RegressionCourtModel", "scale", "(I)I"⟩ ∈ lw_tbl := List.mem_of_getElem? (i := 61) (by decide +kernel)
theorem qs_62 : Cond.selects "RegressionCourtModel" ⟨"RegressionCourtModel", "isChange", "(I)Z"⟩ ⟨"RegressionCourtModel", "isChange", "(I)Z"⟩ ∈ lw_tbl := List.mem_of_getElem? (i := 62) (by decide +kernel)
theorem qs_63 : Cond.selects "RegressionCourtModel" ⟨"RegressionCourtModel", "isRun", "(I)Z"⟩ ⟨"RegressionCourtModel", "isRun", "(I)Z"⟩ ∈ lw_tbl := List.mem_of_getElem? (i := 63) (by decide +kernel)
theorem qs_64 : Cond.selects "RegressionCourtModel" ⟨"RegressionCourtModel", "ofRunNow", "(II)I"⟩ ⟨"RegressionCourtModel", "ofRunNow", "(II)I"⟩ ∈ lw_tbl := List.mem_of_getElem? (i := 64) (by decide +kernel)
theorem qs_65 : Cond.selects "RegressionCourtModel" ⟨"RegressionCourtModel", "ofChangeNow", "(II)I"⟩ ⟨"RegressionCourtModel", "ofChangeNow", "(II)I"⟩ ∈ lw_tbl := List.mem_of_getElem? (i := 65) (by decide +kernel)
theorem qs_66 : Cond.selects "RegressionCourtModel" ⟨"RegressionCourtModel", "ofCaseNow", "(I)I"⟩ ⟨"RegressionCourtModel", "ofCaseNow", "(I)I"⟩ ∈ lw_tbl := List.mem_of_getElem? (i := 66) (by decide +kernel)
theorem qs_67 : Cond.selects "RegressionCourtModel" ⟨"RegressionCourtModel", "moved", "(I)I"⟩ ⟨"RegressionCourtModel", "moved", "(I)I"⟩ ∈ lw_tbl := List.mem_of_getElem? (i := 67) (by decide +kernel)
theorem qs_68 : Cond.selects "RegressionCourtModel" ⟨"RegressionCourtModel", "isNext", "(I)Z"⟩ ⟨"RegressionCourtModel", "isNext", "(I)Z"⟩ ∈ lw_tbl := List.mem_of_getElem? (i := 68) (by decide +kernel)
theorem qs_69 : Cond.selects "RegressionCourtModel" ⟨"RegressionCourtModel", "manyNow", "(I)I"⟩ ⟨"RegressionCourtModel", "manyNow", "(I)I"⟩ ∈ lw_tbl := List.mem_of_getElem? (i := 69) (by decide +kernel)
theorem qs_70 : Cond.selects "RegressionCourtModel" ⟨"RegressionCourtModel", "minutesForNow", "(I)I"⟩ ⟨"RegressionCourtModel", "minutesForNow", "(I)I"⟩ ∈ lw_tbl := List.mem_of_getElem? (i := 70) (by decide +kernel)
theorem qs_71 : Cond.selects "RegressionCourtModel" ⟨"RegressionCourtModel", "withoutNow", "(I)I"⟩ ⟨"RegressionCourtModel", "withoutNow", "(I)I"⟩ ∈ lw_tbl := List.mem_of_getElem? (i := 71) (by decide +kernel)
theorem qs_72 : Cond.selects "RegressionCourtModel" ⟨"RegressionCourtModel", "add", "(I)V"⟩ ⟨"RegressionCourtModel", "add", "(I)V"⟩ ∈ lw_tbl := List.mem_of_getElem? (i := 72) (by decide +kernel)
