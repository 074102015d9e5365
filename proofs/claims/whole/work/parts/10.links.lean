theorem w_0 : (Jvm.Cond.initialized "WhileSheLooksLaw") ∈ TB := TB_of 0 (by decide +kernel) (by decide +kernel)
theorem w_1 : (Jvm.Cond.initialized "WhileSheLooks") ∈ TB := TB_of 1 (by decide +kernel) (by decide +kernel)
theorem w_2 : (Jvm.Cond.initialized "WhileSheLooks$Child") ∈ TB := TB_of 2 (by decide +kernel) (by decide +kernel)
theorem w_3 : (Jvm.Cond.initialized "WhileSheLooks$Quick") ∈ TB := TB_of 3 (by decide +kernel) (by decide +kernel)
theorem w_4 : (Jvm.Cond.initialized "WhileSheLooks$Steady") ∈ TB := TB_of 4 (by decide +kernel) (by decide +kernel)
theorem w_5 : (Jvm.Cond.initialized "WhileSheLooks$Small") ∈ TB := TB_of 5 (by decide +kernel) (by decide +kernel)
theorem w_6 : (Jvm.Cond.initialized "WhileSheLooks$Reckless") ∈ TB := TB_of 6 (by decide +kernel) (by decide +kernel)
theorem w_7 : (Jvm.Cond.initialized "WhileSheLooks$Careful") ∈ TB := TB_of 7 (by decide +kernel) (by decide +kernel)
theorem w_8 : (Jvm.Cond.initialized "WhileSheLooks$Told") ∈ TB := TB_of 8 (by decide +kernel) (by decide +kernel)
theorem w_9 : (Jvm.Cond.initialized "WhileSheLooks$Yard") ∈ TB := TB_of 9 (by decide +kernel) (by decide +kernel)
theorem w_10 : (Jvm.Cond.initialized "WhileSheLooks$Scene") ∈ TB := TB_of 10 (by decide +kernel) (by decide +kernel)
theorem w_11 : (Jvm.Cond.initialized "WhileSheLooks$Turns") ∈ TB := TB_of 11 (by decide +kernel) (by decide +kernel)
theorem w_12 : (Jvm.Cond.initialized "java/lang/String") ∈ TB := TB_of 12 (by decide +kernel) (by decide +kernel)
theorem w_13 : (Jvm.Cond.initialized "WhileSheLooks$Acts") ∈ TB := TB_of 13 (by decide +kernel) (by decide +kernel)
theorem w_14 : (Jvm.Cond.initialized "WhileSheLooksModel") ∈ TB := TB_of 14 (by decide +kernel) (by decide +kernel)
theorem w_15 : (Jvm.Cond.initialized "java/lang/Math") ∈ TB := TB_of 15 (by decide +kernel) (by decide +kernel)
theorem w_16 : (Jvm.Cond.initialized "java/lang/StringLatin1") ∈ TB := TB_of 16 (by decide +kernel) (by decide +kernel)
theorem w_17 : (Jvm.Cond.initialized "jdk/internal/util/Preconditions") ∈ TB := TB_of 17 (by decide +kernel) (by decide +kernel)
theorem w_18 : (Jvm.Cond.initialized "java/lang/StringUTF16") ∈ TB := TB_of 18 (by decide +kernel) (by decide +kernel)
theorem w_19 : (Jvm.Cond.initialized "java/lang/Character") ∈ TB := TB_of 19 (by decide +kernel) (by decide +kernel)
theorem w_20 : (Jvm.Cond.initialized "java/lang/System") ∈ TB := TB_of 20 (by decide +kernel) (by decide +kernel)
theorem w_21 : (Jvm.Cond.initialized "java/lang/Integer") ∈ TB := TB_of 21 (by decide +kernel) (by decide +kernel)
theorem w_22 : (Jvm.Cond.classLink "WhileSheLooksLaw" (7 : Nat) "WhileSheLooks") ∈ TB := TB_of 22 (by decide +kernel) (by decide +kernel)
theorem w_23 : (Jvm.Cond.instantiable "WhileSheLooks" (14 : Nat)) ∈ TB := TB_of 23 (by decide +kernel) (by decide +kernel)
theorem w_27 : (Jvm.Cond.methodLink "WhileSheLooks" (3 : Nat) ({ cls := "java/lang/Object", name := "<init>", desc := "()V" } : Jvm.MethodName)) ∈ TB := TB_of 27 (by decide +kernel) (by decide +kernel)
theorem w_28 : (Jvm.Cond.instanceMethod ({ cls := "java/lang/Object", name := "<init>", desc := "()V" } : Jvm.MethodName)) ∈ TB := TB_of 28 (by decide +kernel) (by decide +kernel)
theorem w_29 : (Jvm.Cond.code ({ cls := "java/lang/Object", name := "<init>", desc := "()V" } : Jvm.MethodName) object_method_1_code (1 : Nat) (Option.none : Option Jvm.ClassFile.FieldType)) ∈ TB := TB_of 29 (by decide +kernel) (by decide +kernel)
theorem w_30 : (Jvm.Cond.classLink "WhileSheLooks" (9 : Nat) "WhileSheLooks$Child") ∈ TB := TB_of 30 (by decide +kernel) (by decide +kernel)
theorem w_32 : (Jvm.Cond.instantiable "WhileSheLooks$Child" (0 : Nat)) ∈ TB := TB_of 32 (by decide +kernel) (by decide +kernel)
theorem w_34 : (Jvm.Cond.instanceMethod ({ cls := "WhileSheLooks$Child", name := "<init>", desc := "()V" } : Jvm.MethodName)) ∈ TB := TB_of 34 (by decide +kernel) (by decide +kernel)
theorem w_35 : (Jvm.Cond.code ({ cls := "WhileSheLooks$Child", name := "<init>", desc := "()V" } : Jvm.MethodName) prog_4_method_1_code (1 : Nat) (Option.none : Option Jvm.ClassFile.FieldType)) ∈ TB := TB_of 35 (by decide +kernel) (by decide +kernel)
theorem w_36 : (Jvm.Cond.methodLink "WhileSheLooks$Child" (1 : Nat) ({ cls := "java/lang/Object", name := "<init>", desc := "()V" } : Jvm.MethodName)) ∈ TB := TB_of 36 (by decide +kernel) (by decide +kernel)
theorem w_38 : (Jvm.Cond.classLink "WhileSheLooks" (12 : Nat) "WhileSheLooks$Quick") ∈ TB := TB_of 38 (by decide +kernel) (by decide +kernel)
theorem w_39 : (Jvm.Cond.instantiable "WhileSheLooks$Quick" (0 : Nat)) ∈ TB := TB_of 39 (by decide +kernel) (by decide +kernel)
theorem w_41 : (Jvm.Cond.instanceMethod ({ cls := "WhileSheLooks$Quick", name := "<init>", desc := "()V" } : Jvm.MethodName)) ∈ TB := TB_of 41 (by decide +kernel) (by decide +kernel)
theorem w_42 : (Jvm.Cond.code ({ cls := "WhileSheLooks$Quick", name := "<init>", desc := "()V" } : Jvm.MethodName) prog_5_method_1_code (1 : Nat) (Option.none : Option Jvm.ClassFile.FieldType)) ∈ TB := TB_of 42 (by decide +kernel) (by decide +kernel)
theorem w_44 : (Jvm.Cond.superclass "WhileSheLooks$Quick" "WhileSheLooks$Child") ∈ TB := TB_of 44 (by decide +kernel) (by decide +kernel)
theorem w_45 : (Jvm.Cond.classLink "WhileSheLooks" (15 : Nat) "WhileSheLooks$Steady") ∈ TB := TB_of 45 (by decide +kernel) (by decide +kernel)
theorem w_46 : (Jvm.Cond.instantiable "WhileSheLooks$Steady" (0 : Nat)) ∈ TB := TB_of 46 (by decide +kernel) (by decide +kernel)
theorem w_48 : (Jvm.Cond.instanceMethod ({ cls := "WhileSheLooks$Steady", name := "<init>", desc := "()V" } : Jvm.MethodName)) ∈ TB := TB_of 48 (by decide +kernel) (by decide +kernel)
theorem w_49 : (Jvm.Cond.code ({ cls := "WhileSheLooks$Steady", name := "<init>", desc := "()V" } : Jvm.MethodName) prog_9_method_1_code (1 : Nat) (Option.none : Option Jvm.ClassFile.FieldType)) ∈ TB := TB_of 49 (by decide +kernel) (by decide +kernel)
theorem w_51 : (Jvm.Cond.superclass "WhileSheLooks$Steady" "WhileSheLooks$Child") ∈ TB := TB_of 51 (by decide +kernel) (by decide +kernel)
theorem w_52 : (Jvm.Cond.classLink "WhileSheLooks" (18 : Nat) "WhileSheLooks$Small") ∈ TB := TB_of 52 (by decide +kernel) (by decide +kernel)
theorem w_53 : (Jvm.Cond.instantiable "WhileSheLooks$Small" (0 : Nat)) ∈ TB := TB_of 53 (by decide +kernel) (by decide +kernel)
theorem w_55 : (Jvm.Cond.instanceMethod ({ cls := "WhileSheLooks$Small", name := "<init>", desc := "()V" } : Jvm.MethodName)) ∈ TB := TB_of 55 (by decide +kernel) (by decide +kernel)
theorem w_56 : (Jvm.Cond.code ({ cls := "WhileSheLooks$Small", name := "<init>", desc := "()V" } : Jvm.MethodName) prog_8_method_1_code (1 : Nat) (Option.none : Option Jvm.ClassFile.FieldType)) ∈ TB := TB_of 56 (by decide +kernel) (by decide +kernel)
theorem w_58 : (Jvm.Cond.superclass "WhileSheLooks$Small" "WhileSheLooks$Child") ∈ TB := TB_of 58 (by decide +kernel) (by decide +kernel)
theorem w_59 : (Jvm.Cond.classLink "WhileSheLooks" (21 : Nat) "WhileSheLooks$Reckless") ∈ TB := TB_of 59 (by decide +kernel) (by decide +kernel)
theorem w_60 : (Jvm.Cond.instantiable "WhileSheLooks$Reckless" (0 : Nat)) ∈ TB := TB_of 60 (by decide +kernel) (by decide +kernel)
theorem w_62 : (Jvm.Cond.instanceMethod ({ cls := "WhileSheLooks$Reckless", name := "<init>", desc := "()V" } : Jvm.MethodName)) ∈ TB := TB_of 62 (by decide +kernel) (by decide +kernel)
theorem w_63 : (Jvm.Cond.code ({ cls := "WhileSheLooks$Reckless", name := "<init>", desc := "()V" } : Jvm.MethodName) prog_6_method_1_code (1 : Nat) (Option.none : Option Jvm.ClassFile.FieldType)) ∈ TB := TB_of 63 (by decide +kernel) (by decide +kernel)
theorem w_65 : (Jvm.Cond.superclass "WhileSheLooks$Reckless" "WhileSheLooks$Quick") ∈ TB := TB_of 65 (by decide +kernel) (by decide +kernel)
theorem w_66 : (Jvm.Cond.classLink "WhileSheLooks" (24 : Nat) "WhileSheLooks$Careful") ∈ TB := TB_of 66 (by decide +kernel) (by decide +kernel)
theorem w_67 : (Jvm.Cond.instantiable "WhileSheLooks$Careful" (0 : Nat)) ∈ TB := TB_of 67 (by decide +kernel) (by decide +kernel)
theorem w_69 : (Jvm.Cond.instanceMethod ({ cls := "WhileSheLooks$Careful", name := "<init>", desc := "()V" } : Jvm.MethodName)) ∈ TB := TB_of 69 (by decide +kernel) (by decide +kernel)
theorem w_70 : (Jvm.Cond.code ({ cls := "WhileSheLooks$Careful", name := "<init>", desc := "()V" } : Jvm.MethodName) prog_3_method_1_code (1 : Nat) (Option.none : Option Jvm.ClassFile.FieldType)) ∈ TB := TB_of 70 (by decide +kernel) (by decide +kernel)
theorem w_72 : (Jvm.Cond.superclass "WhileSheLooks$Careful" "WhileSheLooks$Steady") ∈ TB := TB_of 72 (by decide +kernel) (by decide +kernel)
theorem w_73 : (Jvm.Cond.classLink "WhileSheLooks" (27 : Nat) "WhileSheLooks$Told") ∈ TB := TB_of 73 (by decide +kernel) (by decide +kernel)
theorem w_74 : (Jvm.Cond.instantiable "WhileSheLooks$Told" (0 : Nat)) ∈ TB := TB_of 74 (by decide +kernel) (by decide +kernel)
theorem w_76 : (Jvm.Cond.instanceMethod ({ cls := "WhileSheLooks$Told", name := "<init>", desc := "()V" } : Jvm.MethodName)) ∈ TB := TB_of 76 (by decide +kernel) (by decide +kernel)
theorem w_77 : (Jvm.Cond.code ({ cls := "WhileSheLooks$Told", name := "<init>", desc := "()V" } : Jvm.MethodName) prog_10_method_1_code (1 : Nat) (Option.none : Option Jvm.ClassFile.FieldType)) ∈ TB := TB_of 77 (by decide +kernel) (by decide +kernel)
theorem w_79 : (Jvm.Cond.superclass "WhileSheLooks$Told" "WhileSheLooks$Small") ∈ TB := TB_of 79 (by decide +kernel) (by decide +kernel)
theorem w_80 : (Jvm.Cond.classLink "WhileSheLooks" (40 : Nat) "WhileSheLooks$Yard") ∈ TB := TB_of 80 (by decide +kernel) (by decide +kernel)
theorem w_82 : (Jvm.Cond.instantiable "WhileSheLooks$Yard" (13 : Nat)) ∈ TB := TB_of 82 (by decide +kernel) (by decide +kernel)
theorem w_83 : (Jvm.Cond.methodLink "WhileSheLooks" (46 : Nat) ({ cls := "WhileSheLooks$Yard", name := "<init>", desc := "([B)V" } : Jvm.MethodName)) ∈ TB := TB_of 83 (by decide +kernel) (by decide +kernel)
theorem w_84 : (Jvm.Cond.instanceMethod ({ cls := "WhileSheLooks$Yard", name := "<init>", desc := "([B)V" } : Jvm.MethodName)) ∈ TB := TB_of 84 (by decide +kernel) (by decide +kernel)
theorem w_85 : (Jvm.Cond.code ({ cls := "WhileSheLooks$Yard", name := "<init>", desc := "([B)V" } : Jvm.MethodName) prog_12_method_1_code (2 : Nat) (Option.none : Option Jvm.ClassFile.FieldType)) ∈ TB := TB_of 85 (by decide +kernel) (by decide +kernel)
theorem w_86 : (Jvm.Cond.methodLink "WhileSheLooks$Yard" (3 : Nat) ({ cls := "java/lang/Object", name := "<init>", desc := "()V" } : Jvm.MethodName)) ∈ TB := TB_of 86 (by decide +kernel) (by decide +kernel)
theorem w_87 : (Jvm.Cond.fieldLink "WhileSheLooks$Yard" (37 : Nat) "WhileSheLooks$Yard" "text" "[B") ∈ TB := TB_of 87 (by decide +kernel) (by decide +kernel)
theorem w_88 : (Jvm.Cond.fieldLink "WhileSheLooks$Yard" (41 : Nat) "WhileSheLooks$Yard" "end" "I") ∈ TB := TB_of 88 (by decide +kernel) (by decide +kernel)
theorem w_89 : (Jvm.Cond.fieldLink "WhileSheLooks$Yard" (44 : Nat) "WhileSheLooks$Yard" "place" "I") ∈ TB := TB_of 89 (by decide +kernel) (by decide +kernel)
theorem w_90 : (Jvm.Cond.fieldLink "WhileSheLooks$Yard" (11 : Nat) "WhileSheLooks$Yard" "word" "[I") ∈ TB := TB_of 90 (by decide +kernel) (by decide +kernel)
theorem w_91 : (Jvm.Cond.fieldLink "WhileSheLooks$Yard" (15 : Nat) "WhileSheLooks$Yard" "number" "[I") ∈ TB := TB_of 91 (by decide +kernel) (by decide +kernel)
theorem w_92 : (Jvm.Cond.fieldLink "WhileSheLooks$Yard" (18 : Nat) "WhileSheLooks$Yard" "codeFrom" "[I") ∈ TB := TB_of 92 (by decide +kernel) (by decide +kernel)
theorem w_93 : (Jvm.Cond.fieldLink "WhileSheLooks$Yard" (21 : Nat) "WhileSheLooks$Yard" "codeTo" "[I") ∈ TB := TB_of 93 (by decide +kernel) (by decide +kernel)
theorem w_94 : (Jvm.Cond.fieldLink "WhileSheLooks$Yard" (47 : Nat) "WhileSheLooks$Yard" "clauses" "I") ∈ TB := TB_of 94 (by decide +kernel) (by decide +kernel)
theorem w_95 : (Jvm.Cond.fieldLink "WhileSheLooks$Yard" (24 : Nat) "WhileSheLooks$Yard" "codes" "[I") ∈ TB := TB_of 95 (by decide +kernel) (by decide +kernel)
theorem w_96 : (Jvm.Cond.fieldLink "WhileSheLooks$Yard" (50 : Nat) "WhileSheLooks$Yard" "codeCount" "I") ∈ TB := TB_of 96 (by decide +kernel) (by decide +kernel)
theorem w_97 : (Jvm.Cond.fieldLink "WhileSheLooks$Yard" (27 : Nat) "WhileSheLooks$Yard" "far" "I") ∈ TB := TB_of 97 (by decide +kernel) (by decide +kernel)
theorem w_98 : (Jvm.Cond.fieldLink "WhileSheLooks" (143 : Nat) "WhileSheLooks$Yard" "far" "I") ∈ TB := TB_of 98 (by decide +kernel) (by decide +kernel)
theorem w_99 : (Jvm.Cond.fieldLink "WhileSheLooks$Turns" (107 : Nat) "WhileSheLooks$Yard" "far" "I") ∈ TB := TB_of 99 (by decide +kernel) (by decide +kernel)
theorem w_100 : (Jvm.Cond.fieldLink "WhileSheLooks$Yard" (31 : Nat) "WhileSheLooks$Yard" "sharp" "I") ∈ TB := TB_of 100 (by decide +kernel) (by decide +kernel)
theorem w_101 : (Jvm.Cond.fieldLink "WhileSheLooks$Turns" (113 : Nat) "WhileSheLooks$Yard" "sharp" "I") ∈ TB := TB_of 101 (by decide +kernel) (by decide +kernel)
theorem w_102 : (Jvm.Cond.fieldLink "WhileSheLooks" (169 : Nat) "WhileSheLooks$Yard" "sharp" "I") ∈ TB := TB_of 102 (by decide +kernel) (by decide +kernel)
theorem w_103 : (Jvm.Cond.fieldLink "WhileSheLooks$Yard" (34 : Nat) "WhileSheLooks$Yard" "sees" "I") ∈ TB := TB_of 103 (by decide +kernel) (by decide +kernel)
theorem w_104 : (Jvm.Cond.fieldLink "WhileSheLooks$Turns" (119 : Nat) "WhileSheLooks$Yard" "sees" "I") ∈ TB := TB_of 104 (by decide +kernel) (by decide +kernel)
theorem w_105 : (Jvm.Cond.fieldLink "WhileSheLooks" (172 : Nat) "WhileSheLooks$Yard" "sees" "I") ∈ TB := TB_of 105 (by decide +kernel) (by decide +kernel)
theorem w_106 : (Jvm.Cond.laysFinal "WhileSheLooks$Yard" "WhileSheLooks$Yard" "text" "[B") ∈ TB := TB_of 106 (by decide +kernel) (by decide +kernel)
theorem w_108 : (Jvm.Cond.lays "WhileSheLooks$Yard" "WhileSheLooks$Yard" "end" "I") ∈ TB := TB_of 108 (by decide +kernel) (by decide +kernel)
theorem w_110 : (Jvm.Cond.lays "WhileSheLooks$Yard" "WhileSheLooks$Yard" "place" "I") ∈ TB := TB_of 110 (by decide +kernel) (by decide +kernel)
theorem w_112 : (Jvm.Cond.laysFinal "WhileSheLooks$Yard" "WhileSheLooks$Yard" "word" "[I") ∈ TB := TB_of 112 (by decide +kernel) (by decide +kernel)
theorem w_114 : (Jvm.Cond.laysFinal "WhileSheLooks$Yard" "WhileSheLooks$Yard" "number" "[I") ∈ TB := TB_of 114 (by decide +kernel) (by decide +kernel)
theorem w_116 : (Jvm.Cond.laysFinal "WhileSheLooks$Yard" "WhileSheLooks$Yard" "codeFrom" "[I") ∈ TB := TB_of 116 (by decide +kernel) (by decide +kernel)
theorem w_118 : (Jvm.Cond.laysFinal "WhileSheLooks$Yard" "WhileSheLooks$Yard" "codeTo" "[I") ∈ TB := TB_of 118 (by decide +kernel) (by decide +kernel)
theorem w_120 : (Jvm.Cond.lays "WhileSheLooks$Yard" "WhileSheLooks$Yard" "clauses" "I") ∈ TB := TB_of 120 (by decide +kernel) (by decide +kernel)
theorem w_122 : (Jvm.Cond.laysFinal "WhileSheLooks$Yard" "WhileSheLooks$Yard" "codes" "[I") ∈ TB := TB_of 122 (by decide +kernel) (by decide +kernel)
theorem w_124 : (Jvm.Cond.lays "WhileSheLooks$Yard" "WhileSheLooks$Yard" "codeCount" "I") ∈ TB := TB_of 124 (by decide +kernel) (by decide +kernel)
theorem w_126 : (Jvm.Cond.lays "WhileSheLooks$Yard" "WhileSheLooks$Yard" "far" "I") ∈ TB := TB_of 126 (by decide +kernel) (by decide +kernel)
theorem w_128 : (Jvm.Cond.lays "WhileSheLooks$Yard" "WhileSheLooks$Yard" "sharp" "I") ∈ TB := TB_of 128 (by decide +kernel) (by decide +kernel)
theorem w_130 : (Jvm.Cond.lays "WhileSheLooks$Yard" "WhileSheLooks$Yard" "sees" "I") ∈ TB := TB_of 130 (by decide +kernel) (by decide +kernel)
theorem w_133 : (Jvm.Cond.arrayClass Jvm.ClassFile.FieldType.byte) ∈ TB := TB_of 133 (by decide +kernel) (by decide +kernel)
theorem w_134 : (Jvm.Cond.arrayClass Jvm.ClassFile.FieldType.int) ∈ TB := TB_of 134 (by decide +kernel) (by decide +kernel)
theorem w_135 : (Jvm.Cond.classLink "WhileSheLooks" (49 : Nat) "WhileSheLooks$Scene") ∈ TB := TB_of 135 (by decide +kernel) (by decide +kernel)
theorem w_136 : (Jvm.Cond.instantiable "WhileSheLooks$Scene" (18 : Nat)) ∈ TB := TB_of 136 (by decide +kernel) (by decide +kernel)
theorem w_137 : (Jvm.Cond.methodLink "WhileSheLooks" (51 : Nat) ({ cls := "WhileSheLooks$Scene", name := "<init>", desc := "(LWhileSheLooks$Yard;)V" } : Jvm.MethodName)) ∈ TB := TB_of 137 (by decide +kernel) (by decide +kernel)
theorem w_138 : (Jvm.Cond.instanceMethod ({ cls := "WhileSheLooks$Scene", name := "<init>", desc := "(LWhileSheLooks$Yard;)V" } : Jvm.MethodName)) ∈ TB := TB_of 138 (by decide +kernel) (by decide +kernel)
theorem w_139 : (Jvm.Cond.code ({ cls := "WhileSheLooks$Scene", name := "<init>", desc := "(LWhileSheLooks$Yard;)V" } : Jvm.MethodName) prog_7_method_1_code (3 : Nat) (Option.none : Option Jvm.ClassFile.FieldType)) ∈ TB := TB_of 139 (by decide +kernel) (by decide +kernel)
theorem w_140 : (Jvm.Cond.methodLink "WhileSheLooks$Scene" (3 : Nat) ({ cls := "java/lang/Object", name := "<init>", desc := "()V" } : Jvm.MethodName)) ∈ TB := TB_of 140 (by decide +kernel) (by decide +kernel)
theorem w_141 : (Jvm.Cond.fieldLink "WhileSheLooks$Scene" (9 : Nat) "WhileSheLooks$Scene" "kind" "[I") ∈ TB := TB_of 141 (by decide +kernel) (by decide +kernel)
theorem w_142 : (Jvm.Cond.fieldLink "WhileSheLooks$Turns" (50 : Nat) "WhileSheLooks$Scene" "kind" "[I") ∈ TB := TB_of 142 (by decide +kernel) (by decide +kernel)
theorem w_143 : (Jvm.Cond.fieldLink "WhileSheLooks" (112 : Nat) "WhileSheLooks$Scene" "kind" "[I") ∈ TB := TB_of 143 (by decide +kernel) (by decide +kernel)
theorem w_144 : (Jvm.Cond.fieldLink "WhileSheLooks$Scene" (15 : Nat) "WhileSheLooks$Scene" "v" "[I") ∈ TB := TB_of 144 (by decide +kernel) (by decide +kernel)
theorem w_145 : (Jvm.Cond.fieldLink "WhileSheLooks$Turns" (56 : Nat) "WhileSheLooks$Scene" "v" "[I") ∈ TB := TB_of 145 (by decide +kernel) (by decide +kernel)
theorem w_146 : (Jvm.Cond.fieldLink "WhileSheLooks" (115 : Nat) "WhileSheLooks$Scene" "v" "[I") ∈ TB := TB_of 146 (by decide +kernel) (by decide +kernel)
theorem w_147 : (Jvm.Cond.fieldLink "WhileSheLooks$Scene" (18 : Nat) "WhileSheLooks$Scene" "at" "[I") ∈ TB := TB_of 147 (by decide +kernel) (by decide +kernel)
theorem w_148 : (Jvm.Cond.fieldLink "WhileSheLooks$Turns" (68 : Nat) "WhileSheLooks$Scene" "at" "[I") ∈ TB := TB_of 148 (by decide +kernel) (by decide +kernel)
theorem w_149 : (Jvm.Cond.fieldLink "WhileSheLooks" (118 : Nat) "WhileSheLooks$Scene" "at" "[I") ∈ TB := TB_of 149 (by decide +kernel) (by decide +kernel)
theorem w_150 : (Jvm.Cond.fieldLink "WhileSheLooks$Scene" (21 : Nat) "WhileSheLooks$Scene" "early" "[I") ∈ TB := TB_of 150 (by decide +kernel) (by decide +kernel)
theorem w_151 : (Jvm.Cond.fieldLink "WhileSheLooks$Turns" (53 : Nat) "WhileSheLooks$Scene" "early" "[I") ∈ TB := TB_of 151 (by decide +kernel) (by decide +kernel)
theorem w_152 : (Jvm.Cond.fieldLink "WhileSheLooks" (121 : Nat) "WhileSheLooks$Scene" "early" "[I") ∈ TB := TB_of 152 (by decide +kernel) (by decide +kernel)
theorem w_153 : (Jvm.Cond.fieldLink "WhileSheLooks$Scene" (24 : Nat) "WhileSheLooks$Scene" "sent" "[I") ∈ TB := TB_of 153 (by decide +kernel) (by decide +kernel)
theorem w_154 : (Jvm.Cond.fieldLink "WhileSheLooks$Turns" (101 : Nat) "WhileSheLooks$Scene" "sent" "[I") ∈ TB := TB_of 154 (by decide +kernel) (by decide +kernel)
theorem w_155 : (Jvm.Cond.fieldLink "WhileSheLooks" (124 : Nat) "WhileSheLooks$Scene" "sent" "[I") ∈ TB := TB_of 155 (by decide +kernel) (by decide +kernel)
theorem w_156 : (Jvm.Cond.fieldLink "WhileSheLooks$Scene" (27 : Nat) "WhileSheLooks$Scene" "rows" "[I") ∈ TB := TB_of 156 (by decide +kernel) (by decide +kernel)
theorem w_157 : (Jvm.Cond.fieldLink "WhileSheLooks$Turns" (59 : Nat) "WhileSheLooks$Scene" "rows" "[I") ∈ TB := TB_of 157 (by decide +kernel) (by decide +kernel)
theorem w_158 : (Jvm.Cond.fieldLink "WhileSheLooks" (150 : Nat) "WhileSheLooks$Scene" "rows" "[I") ∈ TB := TB_of 158 (by decide +kernel) (by decide +kernel)
theorem w_159 : (Jvm.Cond.fieldLink "WhileSheLooks$Turns" (46 : Nat) "WhileSheLooks$Scene" "size" "I") ∈ TB := TB_of 159 (by decide +kernel) (by decide +kernel)
theorem w_160 : (Jvm.Cond.fieldLink "WhileSheLooks" (96 : Nat) "WhileSheLooks$Scene" "size" "I") ∈ TB := TB_of 160 (by decide +kernel) (by decide +kernel)
theorem w_161 : (Jvm.Cond.fieldLink "WhileSheLooks$Scene" (58 : Nat) "WhileSheLooks$Scene" "size" "I") ∈ TB := TB_of 161 (by decide +kernel) (by decide +kernel)
theorem w_162 : (Jvm.Cond.fieldLink "WhileSheLooks$Scene" (62 : Nat) "WhileSheLooks$Scene" "wall" "I") ∈ TB := TB_of 162 (by decide +kernel) (by decide +kernel)
theorem w_163 : (Jvm.Cond.fieldLink "WhileSheLooks$Turns" (110 : Nat) "WhileSheLooks$Scene" "wall" "I") ∈ TB := TB_of 163 (by decide +kernel) (by decide +kernel)
theorem w_164 : (Jvm.Cond.fieldLink "WhileSheLooks" (175 : Nat) "WhileSheLooks$Scene" "wall" "I") ∈ TB := TB_of 164 (by decide +kernel) (by decide +kernel)
theorem w_165 : (Jvm.Cond.fieldLink "WhileSheLooks$Scene" (30 : Nat) "WhileSheLooks$Scene" "herCounts" "[I") ∈ TB := TB_of 165 (by decide +kernel) (by decide +kernel)
theorem w_166 : (Jvm.Cond.fieldLink "WhileSheLooks$Turns" (38 : Nat) "WhileSheLooks$Scene" "herCounts" "[I") ∈ TB := TB_of 166 (by decide +kernel) (by decide +kernel)
theorem w_167 : (Jvm.Cond.fieldLink "WhileSheLooks" (153 : Nat) "WhileSheLooks$Scene" "herCounts" "[I") ∈ TB := TB_of 167 (by decide +kernel) (by decide +kernel)
theorem w_168 : (Jvm.Cond.fieldLink "WhileSheLooks$Scene" (65 : Nat) "WhileSheLooks$Scene" "turn" "I") ∈ TB := TB_of 168 (by decide +kernel) (by decide +kernel)
theorem w_169 : (Jvm.Cond.fieldLink "WhileSheLooks$Turns" (71 : Nat) "WhileSheLooks$Scene" "turn" "I") ∈ TB := TB_of 169 (by decide +kernel) (by decide +kernel)
theorem w_170 : (Jvm.Cond.fieldLink "WhileSheLooks" (166 : Nat) "WhileSheLooks$Scene" "turn" "I") ∈ TB := TB_of 170 (by decide +kernel) (by decide +kernel)
theorem w_171 : (Jvm.Cond.fieldLink "WhileSheLooks$Scene" (48 : Nat) "WhileSheLooks$Scene" "yard" "LWhileSheLooks$Yard;") ∈ TB := TB_of 171 (by decide +kernel) (by decide +kernel)
theorem w_172 : (Jvm.Cond.fieldLink "WhileSheLooks$Turns" (74 : Nat) "WhileSheLooks$Scene" "yard" "LWhileSheLooks$Yard;") ∈ TB := TB_of 172 (by decide +kernel) (by decide +kernel)
theorem w_173 : (Jvm.Cond.fieldLink "WhileSheLooks" (139 : Nat) "WhileSheLooks$Scene" "yard" "LWhileSheLooks$Yard;") ∈ TB := TB_of 173 (by decide +kernel) (by decide +kernel)
theorem w_174 : (Jvm.Cond.fieldLink "WhileSheLooks$Scene" (33 : Nat) "WhileSheLooks$Scene" "seenChild" "[I") ∈ TB := TB_of 174 (by decide +kernel) (by decide +kernel)
theorem w_175 : (Jvm.Cond.fieldLink "WhileSheLooks" (277 : Nat) "WhileSheLooks$Scene" "seenChild" "[I") ∈ TB := TB_of 175 (by decide +kernel) (by decide +kernel)
theorem w_176 : (Jvm.Cond.fieldLink "WhileSheLooks$Scene" (36 : Nat) "WhileSheLooks$Scene" "seenBehind" "[I") ∈ TB := TB_of 176 (by decide +kernel) (by decide +kernel)
theorem w_177 : (Jvm.Cond.fieldLink "WhileSheLooks" (280 : Nat) "WhileSheLooks$Scene" "seenBehind" "[I") ∈ TB := TB_of 177 (by decide +kernel) (by decide +kernel)
theorem w_178 : (Jvm.Cond.fieldLink "WhileSheLooks$Scene" (39 : Nat) "WhileSheLooks$Scene" "seenAt" "[I") ∈ TB := TB_of 178 (by decide +kernel) (by decide +kernel)
theorem w_179 : (Jvm.Cond.fieldLink "WhileSheLooks" (283 : Nat) "WhileSheLooks$Scene" "seenAt" "[I") ∈ TB := TB_of 179 (by decide +kernel) (by decide +kernel)
theorem w_180 : (Jvm.Cond.fieldLink "WhileSheLooks$Scene" (68 : Nat) "WhileSheLooks$Scene" "seenCount" "I") ∈ TB := TB_of 180 (by decide +kernel) (by decide +kernel)
theorem w_181 : (Jvm.Cond.fieldLink "WhileSheLooks" (207 : Nat) "WhileSheLooks$Scene" "seenCount" "I") ∈ TB := TB_of 181 (by decide +kernel) (by decide +kernel)
theorem w_182 : (Jvm.Cond.fieldLink "WhileSheLooks$Scene" (42 : Nat) "WhileSheLooks$Scene" "bookChild" "[I") ∈ TB := TB_of 182 (by decide +kernel) (by decide +kernel)
theorem w_183 : (Jvm.Cond.fieldLink "WhileSheLooks" (230 : Nat) "WhileSheLooks$Scene" "bookChild" "[I") ∈ TB := TB_of 183 (by decide +kernel) (by decide +kernel)
theorem w_184 : (Jvm.Cond.fieldLink "WhileSheLooks$Scene" (45 : Nat) "WhileSheLooks$Scene" "bookAt" "[I") ∈ TB := TB_of 184 (by decide +kernel) (by decide +kernel)
theorem w_185 : (Jvm.Cond.fieldLink "WhileSheLooks" (233 : Nat) "WhileSheLooks$Scene" "bookAt" "[I") ∈ TB := TB_of 185 (by decide +kernel) (by decide +kernel)
theorem w_186 : (Jvm.Cond.fieldLink "WhileSheLooks$Scene" (71 : Nat) "WhileSheLooks$Scene" "bookCount" "I") ∈ TB := TB_of 186 (by decide +kernel) (by decide +kernel)
theorem w_187 : (Jvm.Cond.fieldLink "WhileSheLooks" (224 : Nat) "WhileSheLooks$Scene" "bookCount" "I") ∈ TB := TB_of 187 (by decide +kernel) (by decide +kernel)
theorem w_188 : (Jvm.Cond.laysFinal "WhileSheLooks$Scene" "WhileSheLooks$Scene" "kind" "[I") ∈ TB := TB_of 188 (by decide +kernel) (by decide +kernel)
theorem w_190 : (Jvm.Cond.laysFinal "WhileSheLooks$Scene" "WhileSheLooks$Scene" "v" "[I") ∈ TB := TB_of 190 (by decide +kernel) (by decide +kernel)
theorem w_192 : (Jvm.Cond.laysFinal "WhileSheLooks$Scene" "WhileSheLooks$Scene" "at" "[I") ∈ TB := TB_of 192 (by decide +kernel) (by decide +kernel)
theorem w_194 : (Jvm.Cond.laysFinal "WhileSheLooks$Scene" "WhileSheLooks$Scene" "early" "[I") ∈ TB := TB_of 194 (by decide +kernel) (by decide +kernel)
theorem w_196 : (Jvm.Cond.laysFinal "WhileSheLooks$Scene" "WhileSheLooks$Scene" "sent" "[I") ∈ TB := TB_of 196 (by decide +kernel) (by decide +kernel)
theorem w_198 : (Jvm.Cond.laysFinal "WhileSheLooks$Scene" "WhileSheLooks$Scene" "rows" "[I") ∈ TB := TB_of 198 (by decide +kernel) (by decide +kernel)
theorem w_200 : (Jvm.Cond.lays "WhileSheLooks$Scene" "WhileSheLooks$Scene" "size" "I") ∈ TB := TB_of 200 (by decide +kernel) (by decide +kernel)
theorem w_202 : (Jvm.Cond.lays "WhileSheLooks$Scene" "WhileSheLooks$Scene" "wall" "I") ∈ TB := TB_of 202 (by decide +kernel) (by decide +kernel)
theorem w_204 : (Jvm.Cond.laysFinal "WhileSheLooks$Scene" "WhileSheLooks$Scene" "herCounts" "[I") ∈ TB := TB_of 204 (by decide +kernel) (by decide +kernel)
theorem w_206 : (Jvm.Cond.lays "WhileSheLooks$Scene" "WhileSheLooks$Scene" "turn" "I") ∈ TB := TB_of 206 (by decide +kernel) (by decide +kernel)
theorem w_208 : (Jvm.Cond.lays "WhileSheLooks$Scene" "WhileSheLooks$Scene" "yard" "LWhileSheLooks$Yard;") ∈ TB := TB_of 208 (by decide +kernel) (by decide +kernel)
theorem w_210 : (Jvm.Cond.laysFinal "WhileSheLooks$Scene" "WhileSheLooks$Scene" "seenChild" "[I") ∈ TB := TB_of 210 (by decide +kernel) (by decide +kernel)
theorem w_212 : (Jvm.Cond.laysFinal "WhileSheLooks$Scene" "WhileSheLooks$Scene" "seenBehind" "[I") ∈ TB := TB_of 212 (by decide +kernel) (by decide +kernel)
theorem w_214 : (Jvm.Cond.laysFinal "WhileSheLooks$Scene" "WhileSheLooks$Scene" "seenAt" "[I") ∈ TB := TB_of 214 (by decide +kernel) (by decide +kernel)
theorem w_216 : (Jvm.Cond.lays "WhileSheLooks$Scene" "WhileSheLooks$Scene" "seenCount" "I") ∈ TB := TB_of 216 (by decide +kernel) (by decide +kernel)
theorem w_218 : (Jvm.Cond.laysFinal "WhileSheLooks$Scene" "WhileSheLooks$Scene" "bookChild" "[I") ∈ TB := TB_of 218 (by decide +kernel) (by decide +kernel)
theorem w_220 : (Jvm.Cond.laysFinal "WhileSheLooks$Scene" "WhileSheLooks$Scene" "bookAt" "[I") ∈ TB := TB_of 220 (by decide +kernel) (by decide +kernel)
theorem w_222 : (Jvm.Cond.lays "WhileSheLooks$Scene" "WhileSheLooks$Scene" "bookCount" "I") ∈ TB := TB_of 222 (by decide +kernel) (by decide +kernel)
theorem w_225 : (Jvm.Cond.classLink "WhileSheLooks" (64 : Nat) "WhileSheLooks$Turns") ∈ TB := TB_of 225 (by decide +kernel) (by decide +kernel)
theorem w_226 : (Jvm.Cond.instantiable "WhileSheLooks$Turns" (5 : Nat)) ∈ TB := TB_of 226 (by decide +kernel) (by decide +kernel)
theorem w_227 : (Jvm.Cond.methodLink "WhileSheLooks" (66 : Nat) ({ cls := "WhileSheLooks$Turns", name := "<init>", desc := "([LWhileSheLooks$Child;)V" } : Jvm.MethodName)) ∈ TB := TB_of 227 (by decide +kernel) (by decide +kernel)
theorem w_228 : (Jvm.Cond.instanceMethod ({ cls := "WhileSheLooks$Turns", name := "<init>", desc := "([LWhileSheLooks$Child;)V" } : Jvm.MethodName)) ∈ TB := TB_of 228 (by decide +kernel) (by decide +kernel)
theorem w_229 : (Jvm.Cond.code ({ cls := "WhileSheLooks$Turns", name := "<init>", desc := "([LWhileSheLooks$Child;)V" } : Jvm.MethodName) prog_11_method_1_code (2 : Nat) (Option.none : Option Jvm.ClassFile.FieldType)) ∈ TB := TB_of 229 (by decide +kernel) (by decide +kernel)
theorem w_230 : (Jvm.Cond.methodLink "WhileSheLooks$Turns" (3 : Nat) ({ cls := "java/lang/Object", name := "<init>", desc := "()V" } : Jvm.MethodName)) ∈ TB := TB_of 230 (by decide +kernel) (by decide +kernel)
theorem w_232 : (Jvm.Cond.methodLink "WhileSheLooks$Turns" (25 : Nat) ({ cls := "java/lang/String", name := "length", desc := "()I" } : Jvm.MethodName)) ∈ TB := TB_of 232 (by decide +kernel) (by decide +kernel)
theorem w_233 : (Jvm.Cond.instanceMethod ({ cls := "java/lang/String", name := "length", desc := "()I" } : Jvm.MethodName)) ∈ TB := TB_of 233 (by decide +kernel) (by decide +kernel)
theorem w_234 : (Jvm.Cond.selects "java/lang/String" ({ cls := "java/lang/String", name := "length", desc := "()I" } : Jvm.MethodName) ({ cls := "java/lang/String", name := "length", desc := "()I" } : Jvm.MethodName)) ∈ TB := TB_of 234 (by decide +kernel) (by decide +kernel)
theorem w_235 : (Jvm.Cond.code ({ cls := "java/lang/String", name := "length", desc := "()I" } : Jvm.MethodName) prog_18_method_54_code (1 : Nat) (Option.some Jvm.ClassFile.FieldType.int)) ∈ TB := TB_of 235 (by decide +kernel) (by decide +kernel)
theorem w_236 : (Jvm.Cond.methodLink "java/lang/String" (335 : Nat) ({ cls := "java/lang/String", name := "coder", desc := "()B" } : Jvm.MethodName)) ∈ TB := TB_of 236 (by decide +kernel) (by decide +kernel)
theorem w_237 : (Jvm.Cond.instanceMethod ({ cls := "java/lang/String", name := "coder", desc := "()B" } : Jvm.MethodName)) ∈ TB := TB_of 237 (by decide +kernel) (by decide +kernel)
theorem w_238 : (Jvm.Cond.selects "java/lang/String" ({ cls := "java/lang/String", name := "coder", desc := "()B" } : Jvm.MethodName) ({ cls := "java/lang/String", name := "coder", desc := "()B" } : Jvm.MethodName)) ∈ TB := TB_of 238 (by decide +kernel) (by decide +kernel)
theorem w_239 : (Jvm.Cond.code ({ cls := "java/lang/String", name := "coder", desc := "()B" } : Jvm.MethodName) prog_18_method_152_code (1 : Nat) (Option.some Jvm.ClassFile.FieldType.byte)) ∈ TB := TB_of 239 (by decide +kernel) (by decide +kernel)
theorem w_240 : (Jvm.Cond.fieldLink "java/lang/String" (38 : Nat) "java/lang/String" "COMPACT_STRINGS" "Z") ∈ TB := TB_of 240 (by decide +kernel) (by decide +kernel)
theorem w_242 : (Jvm.Cond.fieldLink "WhileSheLooks$Turns" (34 : Nat) "WhileSheLooks$Turns" "kinds" "[LWhileSheLooks$Child;") ∈ TB := TB_of 242 (by decide +kernel) (by decide +kernel)
theorem w_243 : (Jvm.Cond.fieldLink "WhileSheLooks$Turns" (9 : Nat) "WhileSheLooks$Turns" "pace" "[I") ∈ TB := TB_of 243 (by decide +kernel) (by decide +kernel)
theorem w_244 : (Jvm.Cond.fieldLink "WhileSheLooks" (130 : Nat) "WhileSheLooks$Turns" "pace" "[I") ∈ TB := TB_of 244 (by decide +kernel) (by decide +kernel)
theorem w_245 : (Jvm.Cond.fieldLink "WhileSheLooks$Turns" (15 : Nat) "WhileSheLooks$Turns" "goes" "[I") ∈ TB := TB_of 245 (by decide +kernel) (by decide +kernel)
theorem w_246 : (Jvm.Cond.fieldLink "WhileSheLooks" (133 : Nat) "WhileSheLooks$Turns" "goes" "[I") ∈ TB := TB_of 246 (by decide +kernel) (by decide +kernel)
theorem w_247 : (Jvm.Cond.fieldLink "WhileSheLooks$Turns" (18 : Nat) "WhileSheLooks$Turns" "wobbles" "[I") ∈ TB := TB_of 247 (by decide +kernel) (by decide +kernel)
theorem w_248 : (Jvm.Cond.fieldLink "WhileSheLooks" (136 : Nat) "WhileSheLooks$Turns" "wobbles" "[I") ∈ TB := TB_of 248 (by decide +kernel) (by decide +kernel)
theorem w_249 : (Jvm.Cond.fieldLink "WhileSheLooks$Turns" (31 : Nat) "WhileSheLooks$Turns" "facts" "[I") ∈ TB := TB_of 249 (by decide +kernel) (by decide +kernel)
theorem w_250 : (Jvm.Cond.laysFinal "WhileSheLooks$Turns" "WhileSheLooks$Turns" "kinds" "[LWhileSheLooks$Child;") ∈ TB := TB_of 250 (by decide +kernel) (by decide +kernel)
theorem w_252 : (Jvm.Cond.laysFinal "WhileSheLooks$Turns" "WhileSheLooks$Turns" "pace" "[I") ∈ TB := TB_of 252 (by decide +kernel) (by decide +kernel)
theorem w_254 : (Jvm.Cond.laysFinal "WhileSheLooks$Turns" "WhileSheLooks$Turns" "goes" "[I") ∈ TB := TB_of 254 (by decide +kernel) (by decide +kernel)
theorem w_256 : (Jvm.Cond.laysFinal "WhileSheLooks$Turns" "WhileSheLooks$Turns" "wobbles" "[I") ∈ TB := TB_of 256 (by decide +kernel) (by decide +kernel)
theorem w_258 : (Jvm.Cond.laysFinal "WhileSheLooks$Turns" "WhileSheLooks$Turns" "facts" "[I") ∈ TB := TB_of 258 (by decide +kernel) (by decide +kernel)
theorem w_261 : (Jvm.Cond.classLink "WhileSheLooks" (73 : Nat) "WhileSheLooks$Acts") ∈ TB := TB_of 261 (by decide +kernel) (by decide +kernel)
theorem w_262 : (Jvm.Cond.instantiable "WhileSheLooks$Acts" (4 : Nat)) ∈ TB := TB_of 262 (by decide +kernel) (by decide +kernel)
theorem w_264 : (Jvm.Cond.instanceMethod ({ cls := "WhileSheLooks$Acts", name := "<init>", desc := "()V" } : Jvm.MethodName)) ∈ TB := TB_of 264 (by decide +kernel) (by decide +kernel)
theorem w_265 : (Jvm.Cond.code ({ cls := "WhileSheLooks$Acts", name := "<init>", desc := "()V" } : Jvm.MethodName) prog_2_method_1_code (1 : Nat) (Option.none : Option Jvm.ClassFile.FieldType)) ∈ TB := TB_of 265 (by decide +kernel) (by decide +kernel)
theorem w_266 : (Jvm.Cond.methodLink "WhileSheLooks$Acts" (1 : Nat) ({ cls := "java/lang/Object", name := "<init>", desc := "()V" } : Jvm.MethodName)) ∈ TB := TB_of 266 (by decide +kernel) (by decide +kernel)
theorem w_267 : (Jvm.Cond.fieldLink "WhileSheLooks$Acts" (9 : Nat) "WhileSheLooks$Acts" "bodies" "[I") ∈ TB := TB_of 267 (by decide +kernel) (by decide +kernel)
theorem w_268 : (Jvm.Cond.fieldLink "WhileSheLooks" (261 : Nat) "WhileSheLooks$Acts" "bodies" "[I") ∈ TB := TB_of 268 (by decide +kernel) (by decide +kernel)
theorem w_269 : (Jvm.Cond.fieldLink "WhileSheLooks$Acts" (13 : Nat) "WhileSheLooks$Acts" "ran" "I") ∈ TB := TB_of 269 (by decide +kernel) (by decide +kernel)
theorem w_270 : (Jvm.Cond.fieldLink "WhileSheLooks" (243 : Nat) "WhileSheLooks$Acts" "ran" "I") ∈ TB := TB_of 270 (by decide +kernel) (by decide +kernel)
theorem w_271 : (Jvm.Cond.fieldLink "WhileSheLooks$Child" (19 : Nat) "WhileSheLooks$Acts" "number" "I") ∈ TB := TB_of 271 (by decide +kernel) (by decide +kernel)
theorem w_272 : (Jvm.Cond.fieldLink "WhileSheLooks$Careful" (21 : Nat) "WhileSheLooks$Acts" "number" "I") ∈ TB := TB_of 272 (by decide +kernel) (by decide +kernel)
theorem w_273 : (Jvm.Cond.fieldLink "WhileSheLooks" (246 : Nat) "WhileSheLooks$Acts" "number" "I") ∈ TB := TB_of 273 (by decide +kernel) (by decide +kernel)
theorem w_274 : (Jvm.Cond.fieldLink "WhileSheLooks$Told" (21 : Nat) "WhileSheLooks$Acts" "v" "I") ∈ TB := TB_of 274 (by decide +kernel) (by decide +kernel)
theorem w_275 : (Jvm.Cond.fieldLink "WhileSheLooks$Child" (29 : Nat) "WhileSheLooks$Acts" "v" "I") ∈ TB := TB_of 275 (by decide +kernel) (by decide +kernel)
theorem w_276 : (Jvm.Cond.fieldLink "WhileSheLooks" (249 : Nat) "WhileSheLooks$Acts" "v" "I") ∈ TB := TB_of 276 (by decide +kernel) (by decide +kernel)
theorem w_277 : (Jvm.Cond.laysFinal "WhileSheLooks$Acts" "WhileSheLooks$Acts" "bodies" "[I") ∈ TB := TB_of 277 (by decide +kernel) (by decide +kernel)
theorem w_279 : (Jvm.Cond.lays "WhileSheLooks$Acts" "WhileSheLooks$Acts" "ran" "I") ∈ TB := TB_of 279 (by decide +kernel) (by decide +kernel)
theorem w_281 : (Jvm.Cond.lays "WhileSheLooks$Acts" "WhileSheLooks$Acts" "number" "I") ∈ TB := TB_of 281 (by decide +kernel) (by decide +kernel)
theorem w_283 : (Jvm.Cond.lays "WhileSheLooks$Acts" "WhileSheLooks$Acts" "v" "I") ∈ TB := TB_of 283 (by decide +kernel) (by decide +kernel)
theorem w_286 : (Jvm.Cond.classLink "WhileSheLooks" (80 : Nat) "[[J") ∈ TB := TB_of 286 (by decide +kernel) (by decide +kernel)
theorem w_288 : (Jvm.Cond.fieldLink "WhileSheLooks" (30 : Nat) "WhileSheLooks" "kinds" "[LWhileSheLooks$Child;") ∈ TB := TB_of 288 (by decide +kernel) (by decide +kernel)
theorem w_289 : (Jvm.Cond.fieldLink "WhileSheLooks" (36 : Nat) "WhileSheLooks" "text" "[B") ∈ TB := TB_of 289 (by decide +kernel) (by decide +kernel)
theorem w_290 : (Jvm.Cond.fieldLink "WhileSheLooks" (156 : Nat) "WhileSheLooks" "textLength" "I") ∈ TB := TB_of 290 (by decide +kernel) (by decide +kernel)
theorem w_291 : (Jvm.Cond.fieldLink "WhileSheLooks" (42 : Nat) "WhileSheLooks" "yards" "[LWhileSheLooks$Yard;") ∈ TB := TB_of 291 (by decide +kernel) (by decide +kernel)
theorem w_292 : (Jvm.Cond.fieldLink "WhileSheLooks" (159 : Nat) "WhileSheLooks" "yardCount" "I") ∈ TB := TB_of 292 (by decide +kernel) (by decide +kernel)
theorem w_293 : (Jvm.Cond.fieldLink "WhileSheLooks" (54 : Nat) "WhileSheLooks" "now" "LWhileSheLooks$Scene;") ∈ TB := TB_of 293 (by decide +kernel) (by decide +kernel)
theorem w_294 : (Jvm.Cond.fieldLink "WhileSheLooks" (58 : Nat) "WhileSheLooks" "ahead" "LWhileSheLooks$Scene;") ∈ TB := TB_of 294 (by decide +kernel) (by decide +kernel)
theorem w_295 : (Jvm.Cond.fieldLink "WhileSheLooks" (61 : Nat) "WhileSheLooks" "kept" "LWhileSheLooks$Scene;") ∈ TB := TB_of 295 (by decide +kernel) (by decide +kernel)
theorem w_296 : (Jvm.Cond.fieldLink "WhileSheLooks" (239 : Nat) "WhileSheLooks" "hasImage" "Z") ∈ TB := TB_of 296 (by decide +kernel) (by decide +kernel)
theorem w_297 : (Jvm.Cond.fieldLink "WhileSheLooks" (69 : Nat) "WhileSheLooks" "turns" "LWhileSheLooks$Turns;") ∈ TB := TB_of 297 (by decide +kernel) (by decide +kernel)
theorem w_298 : (Jvm.Cond.fieldLink "WhileSheLooks" (76 : Nat) "WhileSheLooks" "acts" "LWhileSheLooks$Acts;") ∈ TB := TB_of 298 (by decide +kernel) (by decide +kernel)
theorem w_299 : (Jvm.Cond.fieldLink "WhileSheLooks" (82 : Nat) "WhileSheLooks" "tapeItems" "[[J") ∈ TB := TB_of 299 (by decide +kernel) (by decide +kernel)
theorem w_300 : (Jvm.Cond.fieldLink "WhileSheLooks" (85 : Nat) "WhileSheLooks" "tapeSort" "[I") ∈ TB := TB_of 300 (by decide +kernel) (by decide +kernel)
theorem w_301 : (Jvm.Cond.fieldLink "WhileSheLooks" (89 : Nat) "WhileSheLooks" "tapeSize" "[I") ∈ TB := TB_of 301 (by decide +kernel) (by decide +kernel)
theorem w_302 : (Jvm.Cond.laysFinal "WhileSheLooks" "WhileSheLooks" "kinds" "[LWhileSheLooks$Child;") ∈ TB := TB_of 302 (by decide +kernel) (by decide +kernel)
theorem w_304 : (Jvm.Cond.laysFinal "WhileSheLooks" "WhileSheLooks" "text" "[B") ∈ TB := TB_of 304 (by decide +kernel) (by decide +kernel)
theorem w_306 : (Jvm.Cond.lays "WhileSheLooks" "WhileSheLooks" "textLength" "I") ∈ TB := TB_of 306 (by decide +kernel) (by decide +kernel)
theorem w_308 : (Jvm.Cond.laysFinal "WhileSheLooks" "WhileSheLooks" "yards" "[LWhileSheLooks$Yard;") ∈ TB := TB_of 308 (by decide +kernel) (by decide +kernel)
theorem w_310 : (Jvm.Cond.lays "WhileSheLooks" "WhileSheLooks" "yardCount" "I") ∈ TB := TB_of 310 (by decide +kernel) (by decide +kernel)
theorem w_312 : (Jvm.Cond.laysFinal "WhileSheLooks" "WhileSheLooks" "now" "LWhileSheLooks$Scene;") ∈ TB := TB_of 312 (by decide +kernel) (by decide +kernel)
theorem w_314 : (Jvm.Cond.laysFinal "WhileSheLooks" "WhileSheLooks" "ahead" "LWhileSheLooks$Scene;") ∈ TB := TB_of 314 (by decide +kernel) (by decide +kernel)
theorem w_316 : (Jvm.Cond.laysFinal "WhileSheLooks" "WhileSheLooks" "kept" "LWhileSheLooks$Scene;") ∈ TB := TB_of 316 (by decide +kernel) (by decide +kernel)
theorem w_318 : (Jvm.Cond.lays "WhileSheLooks" "WhileSheLooks" "hasImage" "Z") ∈ TB := TB_of 318 (by decide +kernel) (by decide +kernel)
theorem w_320 : (Jvm.Cond.laysFinal "WhileSheLooks" "WhileSheLooks" "turns" "LWhileSheLooks$Turns;") ∈ TB := TB_of 320 (by decide +kernel) (by decide +kernel)
theorem w_322 : (Jvm.Cond.laysFinal "WhileSheLooks" "WhileSheLooks" "acts" "LWhileSheLooks$Acts;") ∈ TB := TB_of 322 (by decide +kernel) (by decide +kernel)
theorem w_324 : (Jvm.Cond.laysFinal "WhileSheLooks" "WhileSheLooks" "tapeItems" "[[J") ∈ TB := TB_of 324 (by decide +kernel) (by decide +kernel)
theorem w_326 : (Jvm.Cond.laysFinal "WhileSheLooks" "WhileSheLooks" "tapeSort" "[I") ∈ TB := TB_of 326 (by decide +kernel) (by decide +kernel)
theorem w_328 : (Jvm.Cond.laysFinal "WhileSheLooks" "WhileSheLooks" "tapeSize" "[I") ∈ TB := TB_of 328 (by decide +kernel) (by decide +kernel)
theorem w_331 : (Jvm.Cond.arrayClass Jvm.ClassFile.FieldType.long) ∈ TB := TB_of 331 (by decide +kernel) (by decide +kernel)
theorem w_336 : (Jvm.Cond.methodLink "WhileSheLooks" (92 : Nat) ({ cls := "WhileSheLooks", name := "within", desc := "(III)Z" } : Jvm.MethodName)) ∈ TB := TB_of 336 (by decide +kernel) (by decide +kernel)
theorem w_337 : (Jvm.Cond.static ({ cls := "WhileSheLooks", name := "within", desc := "(III)Z" } : Jvm.MethodName)) ∈ TB := TB_of 337 (by decide +kernel) (by decide +kernel)
theorem w_338 : (Jvm.Cond.code ({ cls := "WhileSheLooks", name := "within", desc := "(III)Z" } : Jvm.MethodName) prog_1_method_40_code (3 : Nat) (Option.some Jvm.ClassFile.FieldType.boolean)) ∈ TB := TB_of 338 (by decide +kernel) (by decide +kernel)
theorem w_339 : (Jvm.Cond.methodLink "WhileSheLooks" (100 : Nat) ({ cls := "WhileSheLooks$Scene", name := "addChild", desc := "(II)I" } : Jvm.MethodName)) ∈ TB := TB_of 339 (by decide +kernel) (by decide +kernel)
theorem w_340 : (Jvm.Cond.instanceMethod ({ cls := "WhileSheLooks$Scene", name := "addChild", desc := "(II)I" } : Jvm.MethodName)) ∈ TB := TB_of 340 (by decide +kernel) (by decide +kernel)
theorem w_341 : (Jvm.Cond.selects "WhileSheLooks$Scene" ({ cls := "WhileSheLooks$Scene", name := "addChild", desc := "(II)I" } : Jvm.MethodName) ({ cls := "WhileSheLooks$Scene", name := "addChild", desc := "(II)I" } : Jvm.MethodName)) ∈ TB := TB_of 341 (by decide +kernel) (by decide +kernel)
theorem w_342 : (Jvm.Cond.code ({ cls := "WhileSheLooks$Scene", name := "addChild", desc := "(II)I" } : Jvm.MethodName) prog_7_method_7_code (5 : Nat) (Option.some Jvm.ClassFile.FieldType.int)) ∈ TB := TB_of 342 (by decide +kernel) (by decide +kernel)
theorem w_347 : (Jvm.Cond.methodLink "WhileSheLooks" (104 : Nat) ({ cls := "WhileSheLooks$Scene", name := "has", desc := "(I)Z" } : Jvm.MethodName)) ∈ TB := TB_of 347 (by decide +kernel) (by decide +kernel)
theorem w_348 : (Jvm.Cond.instanceMethod ({ cls := "WhileSheLooks$Scene", name := "has", desc := "(I)Z" } : Jvm.MethodName)) ∈ TB := TB_of 348 (by decide +kernel) (by decide +kernel)
theorem w_349 : (Jvm.Cond.selects "WhileSheLooks$Scene" ({ cls := "WhileSheLooks$Scene", name := "has", desc := "(I)Z" } : Jvm.MethodName) ({ cls := "WhileSheLooks$Scene", name := "has", desc := "(I)Z" } : Jvm.MethodName)) ∈ TB := TB_of 349 (by decide +kernel) (by decide +kernel)
theorem w_350 : (Jvm.Cond.code ({ cls := "WhileSheLooks$Scene", name := "has", desc := "(I)Z" } : Jvm.MethodName) prog_7_method_3_code (2 : Nat) (Option.some Jvm.ClassFile.FieldType.boolean)) ∈ TB := TB_of 350 (by decide +kernel) (by decide +kernel)
theorem w_351 : (Jvm.Cond.methodLink "WhileSheLooks" (108 : Nat) ({ cls := "WhileSheLooks$Turns", name := "foresee", desc := "(LWhileSheLooks$Scene;)V" } : Jvm.MethodName)) ∈ TB := TB_of 351 (by decide +kernel) (by decide +kernel)
theorem w_352 : (Jvm.Cond.instanceMethod ({ cls := "WhileSheLooks$Turns", name := "foresee", desc := "(LWhileSheLooks$Scene;)V" } : Jvm.MethodName)) ∈ TB := TB_of 352 (by decide +kernel) (by decide +kernel)
theorem w_353 : (Jvm.Cond.selects "WhileSheLooks$Turns" ({ cls := "WhileSheLooks$Turns", name := "foresee", desc := "(LWhileSheLooks$Scene;)V" } : Jvm.MethodName) ({ cls := "WhileSheLooks$Turns", name := "foresee", desc := "(LWhileSheLooks$Scene;)V" } : Jvm.MethodName)) ∈ TB := TB_of 353 (by decide +kernel) (by decide +kernel)
theorem w_354 : (Jvm.Cond.code ({ cls := "WhileSheLooks$Turns", name := "foresee", desc := "(LWhileSheLooks$Scene;)V" } : Jvm.MethodName) prog_11_method_2_code (8 : Nat) (Option.none : Option Jvm.ClassFile.FieldType)) ∈ TB := TB_of 354 (by decide +kernel) (by decide +kernel)
theorem w_355 : (Jvm.Cond.methodLink "WhileSheLooks$Turns" (43 : Nat) ({ cls := "WhileSheLooks$Scene", name := "placeNow", desc := "()I" } : Jvm.MethodName)) ∈ TB := TB_of 355 (by decide +kernel) (by decide +kernel)
theorem w_356 : (Jvm.Cond.instanceMethod ({ cls := "WhileSheLooks$Scene", name := "placeNow", desc := "()I" } : Jvm.MethodName)) ∈ TB := TB_of 356 (by decide +kernel) (by decide +kernel)
theorem w_357 : (Jvm.Cond.selects "WhileSheLooks$Scene" ({ cls := "WhileSheLooks$Scene", name := "placeNow", desc := "()I" } : Jvm.MethodName) ({ cls := "WhileSheLooks$Scene", name := "placeNow", desc := "()I" } : Jvm.MethodName)) ∈ TB := TB_of 357 (by decide +kernel) (by decide +kernel)
theorem w_358 : (Jvm.Cond.code ({ cls := "WhileSheLooks$Scene", name := "placeNow", desc := "()I" } : Jvm.MethodName) prog_7_method_6_code (1 : Nat) (Option.some Jvm.ClassFile.FieldType.int)) ∈ TB := TB_of 358 (by decide +kernel) (by decide +kernel)
theorem w_359 : (Jvm.Cond.methodLink "WhileSheLooks$Turns" (62 : Nat) ({ cls := "WhileSheLooks$Child", name := "paceOf", desc := "(II)I" } : Jvm.MethodName)) ∈ TB := TB_of 359 (by decide +kernel) (by decide +kernel)
theorem w_360 : (Jvm.Cond.instanceMethod ({ cls := "WhileSheLooks$Child", name := "paceOf", desc := "(II)I" } : Jvm.MethodName)) ∈ TB := TB_of 360 (by decide +kernel) (by decide +kernel)
theorem w_361 : (Jvm.Cond.selects "WhileSheLooks$Child" ({ cls := "WhileSheLooks$Child", name := "paceOf", desc := "(II)I" } : Jvm.MethodName) ({ cls := "WhileSheLooks$Child", name := "paceOf", desc := "(II)I" } : Jvm.MethodName)) ∈ TB := TB_of 361 (by decide +kernel) (by decide +kernel)
theorem w_362 : (Jvm.Cond.sameMethod "WhileSheLooks$Child" "WhileSheLooks$Child" "paceOf" "(II)I") ∈ TB := TB_of 362 (by decide +kernel) (by decide +kernel)
theorem w_363 : (Jvm.Cond.selects "WhileSheLooks$Careful" ({ cls := "WhileSheLooks$Child", name := "paceOf", desc := "(II)I" } : Jvm.MethodName) ({ cls := "WhileSheLooks$Careful", name := "paceOf", desc := "(II)I" } : Jvm.MethodName)) ∈ TB := TB_of 363 (by decide +kernel) (by decide +kernel)
theorem w_364 : (Jvm.Cond.instanceMethod ({ cls := "WhileSheLooks$Careful", name := "paceOf", desc := "(II)I" } : Jvm.MethodName)) ∈ TB := TB_of 364 (by decide +kernel) (by decide +kernel)
theorem w_365 : (Jvm.Cond.code ({ cls := "WhileSheLooks$Careful", name := "paceOf", desc := "(II)I" } : Jvm.MethodName) prog_3_method_2_code (3 : Nat) (Option.some Jvm.ClassFile.FieldType.int)) ∈ TB := TB_of 365 (by decide +kernel) (by decide +kernel)
theorem w_366 : (Jvm.Cond.methodLink "WhileSheLooks$Careful" (7 : Nat) ({ cls := "WhileSheLooks$Steady", name := "paceOf", desc := "(II)I" } : Jvm.MethodName)) ∈ TB := TB_of 366 (by decide +kernel) (by decide +kernel)
theorem w_367 : (Jvm.Cond.sameMethod "WhileSheLooks$Steady" "WhileSheLooks$Child" "paceOf" "(II)I") ∈ TB := TB_of 367 (by decide +kernel) (by decide +kernel)
theorem w_369 : (Jvm.Cond.selects "WhileSheLooks$Quick" ({ cls := "WhileSheLooks$Child", name := "paceOf", desc := "(II)I" } : Jvm.MethodName) ({ cls := "WhileSheLooks$Quick", name := "paceOf", desc := "(II)I" } : Jvm.MethodName)) ∈ TB := TB_of 369 (by decide +kernel) (by decide +kernel)
theorem w_370 : (Jvm.Cond.instanceMethod ({ cls := "WhileSheLooks$Quick", name := "paceOf", desc := "(II)I" } : Jvm.MethodName)) ∈ TB := TB_of 370 (by decide +kernel) (by decide +kernel)
theorem w_371 : (Jvm.Cond.code ({ cls := "WhileSheLooks$Quick", name := "paceOf", desc := "(II)I" } : Jvm.MethodName) prog_5_method_2_code (3 : Nat) (Option.some Jvm.ClassFile.FieldType.int)) ∈ TB := TB_of 371 (by decide +kernel) (by decide +kernel)
theorem w_372 : (Jvm.Cond.methodLink "WhileSheLooks$Quick" (7 : Nat) ({ cls := "WhileSheLooks$Child", name := "paceOf", desc := "(II)I" } : Jvm.MethodName)) ∈ TB := TB_of 372 (by decide +kernel) (by decide +kernel)
theorem w_373 : (Jvm.Cond.selects "WhileSheLooks$Reckless" ({ cls := "WhileSheLooks$Child", name := "paceOf", desc := "(II)I" } : Jvm.MethodName) ({ cls := "WhileSheLooks$Reckless", name := "paceOf", desc := "(II)I" } : Jvm.MethodName)) ∈ TB := TB_of 373 (by decide +kernel) (by decide +kernel)
theorem w_374 : (Jvm.Cond.instanceMethod ({ cls := "WhileSheLooks$Reckless", name := "paceOf", desc := "(II)I" } : Jvm.MethodName)) ∈ TB := TB_of 374 (by decide +kernel) (by decide +kernel)
theorem w_375 : (Jvm.Cond.code ({ cls := "WhileSheLooks$Reckless", name := "paceOf", desc := "(II)I" } : Jvm.MethodName) prog_6_method_2_code (3 : Nat) (Option.some Jvm.ClassFile.FieldType.int)) ∈ TB := TB_of 375 (by decide +kernel) (by decide +kernel)
theorem w_376 : (Jvm.Cond.methodLink "WhileSheLooks$Reckless" (7 : Nat) ({ cls := "WhileSheLooks$Quick", name := "paceOf", desc := "(II)I" } : Jvm.MethodName)) ∈ TB := TB_of 376 (by decide +kernel) (by decide +kernel)
theorem w_377 : (Jvm.Cond.selects "WhileSheLooks$Small" ({ cls := "WhileSheLooks$Child", name := "paceOf", desc := "(II)I" } : Jvm.MethodName) ({ cls := "WhileSheLooks$Small", name := "paceOf", desc := "(II)I" } : Jvm.MethodName)) ∈ TB := TB_of 377 (by decide +kernel) (by decide +kernel)
theorem w_378 : (Jvm.Cond.instanceMethod ({ cls := "WhileSheLooks$Small", name := "paceOf", desc := "(II)I" } : Jvm.MethodName)) ∈ TB := TB_of 378 (by decide +kernel) (by decide +kernel)
theorem w_379 : (Jvm.Cond.code ({ cls := "WhileSheLooks$Small", name := "paceOf", desc := "(II)I" } : Jvm.MethodName) prog_8_method_2_code (3 : Nat) (Option.some Jvm.ClassFile.FieldType.int)) ∈ TB := TB_of 379 (by decide +kernel) (by decide +kernel)
theorem w_380 : (Jvm.Cond.selects "WhileSheLooks$Steady" ({ cls := "WhileSheLooks$Child", name := "paceOf", desc := "(II)I" } : Jvm.MethodName) ({ cls := "WhileSheLooks$Child", name := "paceOf", desc := "(II)I" } : Jvm.MethodName)) ∈ TB := TB_of 380 (by decide +kernel) (by decide +kernel)
theorem w_381 : (Jvm.Cond.selects "WhileSheLooks$Told" ({ cls := "WhileSheLooks$Child", name := "paceOf", desc := "(II)I" } : Jvm.MethodName) ({ cls := "WhileSheLooks$Told", name := "paceOf", desc := "(II)I" } : Jvm.MethodName)) ∈ TB := TB_of 381 (by decide +kernel) (by decide +kernel)
theorem w_382 : (Jvm.Cond.instanceMethod ({ cls := "WhileSheLooks$Told", name := "paceOf", desc := "(II)I" } : Jvm.MethodName)) ∈ TB := TB_of 382 (by decide +kernel) (by decide +kernel)
theorem w_383 : (Jvm.Cond.code ({ cls := "WhileSheLooks$Told", name := "paceOf", desc := "(II)I" } : Jvm.MethodName) prog_10_method_2_code (3 : Nat) (Option.some Jvm.ClassFile.FieldType.int)) ∈ TB := TB_of 383 (by decide +kernel) (by decide +kernel)
theorem w_384 : (Jvm.Cond.methodLink "WhileSheLooks$Told" (7 : Nat) ({ cls := "WhileSheLooks$Small", name := "paceOf", desc := "(II)I" } : Jvm.MethodName)) ∈ TB := TB_of 384 (by decide +kernel) (by decide +kernel)
theorem w_385 : (Jvm.Cond.code ({ cls := "WhileSheLooks$Child", name := "paceOf", desc := "(II)I" } : Jvm.MethodName) prog_4_method_2_code (3 : Nat) (Option.some Jvm.ClassFile.FieldType.int)) ∈ TB := TB_of 385 (by decide +kernel) (by decide +kernel)
theorem w_386 : (Jvm.Cond.methodLink "WhileSheLooks$Turns" (78 : Nat) ({ cls := "WhileSheLooks$Yard", name := "shakeFor", desc := "([I)I" } : Jvm.MethodName)) ∈ TB := TB_of 386 (by decide +kernel) (by decide +kernel)
theorem w_387 : (Jvm.Cond.instanceMethod ({ cls := "WhileSheLooks$Yard", name := "shakeFor", desc := "([I)I" } : Jvm.MethodName)) ∈ TB := TB_of 387 (by decide +kernel) (by decide +kernel)
theorem w_388 : (Jvm.Cond.selects "WhileSheLooks$Yard" ({ cls := "WhileSheLooks$Yard", name := "shakeFor", desc := "([I)I" } : Jvm.MethodName) ({ cls := "WhileSheLooks$Yard", name := "shakeFor", desc := "([I)I" } : Jvm.MethodName)) ∈ TB := TB_of 388 (by decide +kernel) (by decide +kernel)
theorem w_389 : (Jvm.Cond.code ({ cls := "WhileSheLooks$Yard", name := "shakeFor", desc := "([I)I" } : Jvm.MethodName) prog_12_method_17_code (4 : Nat) (Option.some Jvm.ClassFile.FieldType.int)) ∈ TB := TB_of 389 (by decide +kernel) (by decide +kernel)
theorem w_390 : (Jvm.Cond.methodLink "WhileSheLooks$Yard" (133 : Nat) ({ cls := "WhileSheLooks$Yard", name := "holds", desc := "(I[I)Z" } : Jvm.MethodName)) ∈ TB := TB_of 390 (by decide +kernel) (by decide +kernel)
theorem w_391 : (Jvm.Cond.instanceMethod ({ cls := "WhileSheLooks$Yard", name := "holds", desc := "(I[I)Z" } : Jvm.MethodName)) ∈ TB := TB_of 391 (by decide +kernel) (by decide +kernel)
theorem w_392 : (Jvm.Cond.selects "WhileSheLooks$Yard" ({ cls := "WhileSheLooks$Yard", name := "holds", desc := "(I[I)Z" } : Jvm.MethodName) ({ cls := "WhileSheLooks$Yard", name := "holds", desc := "(I[I)Z" } : Jvm.MethodName)) ∈ TB := TB_of 392 (by decide +kernel) (by decide +kernel)
theorem w_393 : (Jvm.Cond.code ({ cls := "WhileSheLooks$Yard", name := "holds", desc := "(I[I)Z" } : Jvm.MethodName) prog_12_method_18_code (6 : Nat) (Option.some Jvm.ClassFile.FieldType.boolean)) ∈ TB := TB_of 393 (by decide +kernel) (by decide +kernel)
theorem w_394 : (Jvm.Cond.methodLink "WhileSheLooks$Yard" (137 : Nat) ({ cls := "WhileSheLooks$Yard", name := "isSo", desc := "(I[I)Z" } : Jvm.MethodName)) ∈ TB := TB_of 394 (by decide +kernel) (by decide +kernel)
theorem w_395 : (Jvm.Cond.static ({ cls := "WhileSheLooks$Yard", name := "isSo", desc := "(I[I)Z" } : Jvm.MethodName)) ∈ TB := TB_of 395 (by decide +kernel) (by decide +kernel)
theorem w_396 : (Jvm.Cond.code ({ cls := "WhileSheLooks$Yard", name := "isSo", desc := "(I[I)Z" } : Jvm.MethodName) prog_12_method_19_code (4 : Nat) (Option.some Jvm.ClassFile.FieldType.boolean)) ∈ TB := TB_of 396 (by decide +kernel) (by decide +kernel)
theorem w_397 : (Jvm.Cond.methodLink "WhileSheLooks$Turns" (82 : Nat) ({ cls := "WhileSheLooks$Child", name := "wobblesOf", desc := "(IIIII)I" } : Jvm.MethodName)) ∈ TB := TB_of 397 (by decide +kernel) (by decide +kernel)
theorem w_398 : (Jvm.Cond.instanceMethod ({ cls := "WhileSheLooks$Child", name := "wobblesOf", desc := "(IIIII)I" } : Jvm.MethodName)) ∈ TB := TB_of 398 (by decide +kernel) (by decide +kernel)
theorem w_399 : (Jvm.Cond.selects "WhileSheLooks$Child" ({ cls := "WhileSheLooks$Child", name := "wobblesOf", desc := "(IIIII)I" } : Jvm.MethodName) ({ cls := "WhileSheLooks$Child", name := "wobblesOf", desc := "(IIIII)I" } : Jvm.MethodName)) ∈ TB := TB_of 399 (by decide +kernel) (by decide +kernel)
theorem w_400 : (Jvm.Cond.sameMethod "WhileSheLooks$Child" "WhileSheLooks$Child" "wobblesOf" "(IIIII)I") ∈ TB := TB_of 400 (by decide +kernel) (by decide +kernel)
theorem w_401 : (Jvm.Cond.selects "WhileSheLooks$Careful" ({ cls := "WhileSheLooks$Child", name := "wobblesOf", desc := "(IIIII)I" } : Jvm.MethodName) ({ cls := "WhileSheLooks$Careful", name := "wobblesOf", desc := "(IIIII)I" } : Jvm.MethodName)) ∈ TB := TB_of 401 (by decide +kernel) (by decide +kernel)
theorem w_402 : (Jvm.Cond.instanceMethod ({ cls := "WhileSheLooks$Careful", name := "wobblesOf", desc := "(IIIII)I" } : Jvm.MethodName)) ∈ TB := TB_of 402 (by decide +kernel) (by decide +kernel)
theorem w_403 : (Jvm.Cond.code ({ cls := "WhileSheLooks$Careful", name := "wobblesOf", desc := "(IIIII)I" } : Jvm.MethodName) prog_3_method_3_code (6 : Nat) (Option.some Jvm.ClassFile.FieldType.int)) ∈ TB := TB_of 403 (by decide +kernel) (by decide +kernel)
theorem w_404 : (Jvm.Cond.methodLink "WhileSheLooks$Careful" (11 : Nat) ({ cls := "WhileSheLooks$Steady", name := "wobblesOf", desc := "(IIIII)I" } : Jvm.MethodName)) ∈ TB := TB_of 404 (by decide +kernel) (by decide +kernel)
theorem w_405 : (Jvm.Cond.instanceMethod ({ cls := "WhileSheLooks$Steady", name := "wobblesOf", desc := "(IIIII)I" } : Jvm.MethodName)) ∈ TB := TB_of 405 (by decide +kernel) (by decide +kernel)
theorem w_406 : (Jvm.Cond.code ({ cls := "WhileSheLooks$Steady", name := "wobblesOf", desc := "(IIIII)I" } : Jvm.MethodName) prog_9_method_2_code (6 : Nat) (Option.some Jvm.ClassFile.FieldType.int)) ∈ TB := TB_of 406 (by decide +kernel) (by decide +kernel)
theorem w_407 : (Jvm.Cond.methodLink "WhileSheLooks$Steady" (7 : Nat) ({ cls := "WhileSheLooks$Child", name := "wobblesOf", desc := "(IIIII)I" } : Jvm.MethodName)) ∈ TB := TB_of 407 (by decide +kernel) (by decide +kernel)
theorem w_408 : (Jvm.Cond.methodLink "WhileSheLooks$Steady" (11 : Nat) ({ cls := "java/lang/Math", name := "max", desc := "(II)I" } : Jvm.MethodName)) ∈ TB := TB_of 408 (by decide +kernel) (by decide +kernel)
theorem w_409 : (Jvm.Cond.static ({ cls := "java/lang/Math", name := "max", desc := "(II)I" } : Jvm.MethodName)) ∈ TB := TB_of 409 (by decide +kernel) (by decide +kernel)
theorem w_410 : (Jvm.Cond.code ({ cls := "java/lang/Math", name := "max", desc := "(II)I" } : Jvm.MethodName) prog_17_method_65_code (2 : Nat) (Option.some Jvm.ClassFile.FieldType.int)) ∈ TB := TB_of 410 (by decide +kernel) (by decide +kernel)
theorem w_411 : (Jvm.Cond.selects "WhileSheLooks$Quick" ({ cls := "WhileSheLooks$Child", name := "wobblesOf", desc := "(IIIII)I" } : Jvm.MethodName) ({ cls := "WhileSheLooks$Child", name := "wobblesOf", desc := "(IIIII)I" } : Jvm.MethodName)) ∈ TB := TB_of 411 (by decide +kernel) (by decide +kernel)
theorem w_412 : (Jvm.Cond.selects "WhileSheLooks$Reckless" ({ cls := "WhileSheLooks$Child", name := "wobblesOf", desc := "(IIIII)I" } : Jvm.MethodName) ({ cls := "WhileSheLooks$Reckless", name := "wobblesOf", desc := "(IIIII)I" } : Jvm.MethodName)) ∈ TB := TB_of 412 (by decide +kernel) (by decide +kernel)
theorem w_413 : (Jvm.Cond.instanceMethod ({ cls := "WhileSheLooks$Reckless", name := "wobblesOf", desc := "(IIIII)I" } : Jvm.MethodName)) ∈ TB := TB_of 413 (by decide +kernel) (by decide +kernel)
theorem w_414 : (Jvm.Cond.code ({ cls := "WhileSheLooks$Reckless", name := "wobblesOf", desc := "(IIIII)I" } : Jvm.MethodName) prog_6_method_3_code (6 : Nat) (Option.some Jvm.ClassFile.FieldType.int)) ∈ TB := TB_of 414 (by decide +kernel) (by decide +kernel)
theorem w_415 : (Jvm.Cond.methodLink "WhileSheLooks$Reckless" (11 : Nat) ({ cls := "WhileSheLooks$Quick", name := "wobblesOf", desc := "(IIIII)I" } : Jvm.MethodName)) ∈ TB := TB_of 415 (by decide +kernel) (by decide +kernel)
theorem w_416 : (Jvm.Cond.sameMethod "WhileSheLooks$Quick" "WhileSheLooks$Child" "wobblesOf" "(IIIII)I") ∈ TB := TB_of 416 (by decide +kernel) (by decide +kernel)
theorem w_418 : (Jvm.Cond.selects "WhileSheLooks$Small" ({ cls := "WhileSheLooks$Child", name := "wobblesOf", desc := "(IIIII)I" } : Jvm.MethodName) ({ cls := "WhileSheLooks$Small", name := "wobblesOf", desc := "(IIIII)I" } : Jvm.MethodName)) ∈ TB := TB_of 418 (by decide +kernel) (by decide +kernel)
theorem w_419 : (Jvm.Cond.instanceMethod ({ cls := "WhileSheLooks$Small", name := "wobblesOf", desc := "(IIIII)I" } : Jvm.MethodName)) ∈ TB := TB_of 419 (by decide +kernel) (by decide +kernel)
theorem w_420 : (Jvm.Cond.code ({ cls := "WhileSheLooks$Small", name := "wobblesOf", desc := "(IIIII)I" } : Jvm.MethodName) prog_8_method_3_code (6 : Nat) (Option.some Jvm.ClassFile.FieldType.int)) ∈ TB := TB_of 420 (by decide +kernel) (by decide +kernel)
theorem w_421 : (Jvm.Cond.methodLink "WhileSheLooks$Small" (7 : Nat) ({ cls := "WhileSheLooks$Child", name := "wobblesOf", desc := "(IIIII)I" } : Jvm.MethodName)) ∈ TB := TB_of 421 (by decide +kernel) (by decide +kernel)
theorem w_422 : (Jvm.Cond.methodLink "WhileSheLooks$Small" (11 : Nat) ({ cls := "java/lang/Math", name := "min", desc := "(II)I" } : Jvm.MethodName)) ∈ TB := TB_of 422 (by decide +kernel) (by decide +kernel)
theorem w_423 : (Jvm.Cond.static ({ cls := "java/lang/Math", name := "min", desc := "(II)I" } : Jvm.MethodName)) ∈ TB := TB_of 423 (by decide +kernel) (by decide +kernel)
theorem w_424 : (Jvm.Cond.code ({ cls := "java/lang/Math", name := "min", desc := "(II)I" } : Jvm.MethodName) prog_17_method_69_code (2 : Nat) (Option.some Jvm.ClassFile.FieldType.int)) ∈ TB := TB_of 424 (by decide +kernel) (by decide +kernel)
theorem w_425 : (Jvm.Cond.selects "WhileSheLooks$Steady" ({ cls := "WhileSheLooks$Child", name := "wobblesOf", desc := "(IIIII)I" } : Jvm.MethodName) ({ cls := "WhileSheLooks$Steady", name := "wobblesOf", desc := "(IIIII)I" } : Jvm.MethodName)) ∈ TB := TB_of 425 (by decide +kernel) (by decide +kernel)
theorem w_426 : (Jvm.Cond.selects "WhileSheLooks$Told" ({ cls := "WhileSheLooks$Child", name := "wobblesOf", desc := "(IIIII)I" } : Jvm.MethodName) ({ cls := "WhileSheLooks$Small", name := "wobblesOf", desc := "(IIIII)I" } : Jvm.MethodName)) ∈ TB := TB_of 426 (by decide +kernel) (by decide +kernel)
theorem w_427 : (Jvm.Cond.code ({ cls := "WhileSheLooks$Child", name := "wobblesOf", desc := "(IIIII)I" } : Jvm.MethodName) prog_4_method_3_code (6 : Nat) (Option.some Jvm.ClassFile.FieldType.int)) ∈ TB := TB_of 427 (by decide +kernel) (by decide +kernel)
theorem w_428 : (Jvm.Cond.methodLink "WhileSheLooks$Child" (7 : Nat) ({ cls := "java/lang/Math", name := "max", desc := "(II)I" } : Jvm.MethodName)) ∈ TB := TB_of 428 (by decide +kernel) (by decide +kernel)
theorem w_429 : (Jvm.Cond.methodLink "WhileSheLooks" (127 : Nat) ({ cls := "WhileSheLooks$Scene", name := "isAtWall", desc := "(I)Z" } : Jvm.MethodName)) ∈ TB := TB_of 429 (by decide +kernel) (by decide +kernel)
theorem w_430 : (Jvm.Cond.instanceMethod ({ cls := "WhileSheLooks$Scene", name := "isAtWall", desc := "(I)Z" } : Jvm.MethodName)) ∈ TB := TB_of 430 (by decide +kernel) (by decide +kernel)
theorem w_431 : (Jvm.Cond.selects "WhileSheLooks$Scene" ({ cls := "WhileSheLooks$Scene", name := "isAtWall", desc := "(I)Z" } : Jvm.MethodName) ({ cls := "WhileSheLooks$Scene", name := "isAtWall", desc := "(I)Z" } : Jvm.MethodName)) ∈ TB := TB_of 431 (by decide +kernel) (by decide +kernel)
theorem w_432 : (Jvm.Cond.code ({ cls := "WhileSheLooks$Scene", name := "isAtWall", desc := "(I)Z" } : Jvm.MethodName) prog_7_method_4_code (2 : Nat) (Option.some Jvm.ClassFile.FieldType.boolean)) ∈ TB := TB_of 432 (by decide +kernel) (by decide +kernel)
theorem w_437 : (Jvm.Cond.methodLink "WhileSheLooks" (146 : Nat) ({ cls := "WhileSheLooks$Scene", name := "putOnTheWay", desc := "(II)V" } : Jvm.MethodName)) ∈ TB := TB_of 437 (by decide +kernel) (by decide +kernel)
theorem w_438 : (Jvm.Cond.instanceMethod ({ cls := "WhileSheLooks$Scene", name := "putOnTheWay", desc := "(II)V" } : Jvm.MethodName)) ∈ TB := TB_of 438 (by decide +kernel) (by decide +kernel)
theorem w_439 : (Jvm.Cond.selects "WhileSheLooks$Scene" ({ cls := "WhileSheLooks$Scene", name := "putOnTheWay", desc := "(II)V" } : Jvm.MethodName) ({ cls := "WhileSheLooks$Scene", name := "putOnTheWay", desc := "(II)V" } : Jvm.MethodName)) ∈ TB := TB_of 439 (by decide +kernel) (by decide +kernel)
theorem w_440 : (Jvm.Cond.code ({ cls := "WhileSheLooks$Scene", name := "putOnTheWay", desc := "(II)V" } : Jvm.MethodName) prog_7_method_8_code (3 : Nat) (Option.none : Option Jvm.ClassFile.FieldType)) ∈ TB := TB_of 440 (by decide +kernel) (by decide +kernel)
theorem w_457 : (Jvm.Cond.methodLink "WhileSheLooks" (162 : Nat) ({ cls := "WhileSheLooks$Yard", name := "faultOf", desc := "(I)I" } : Jvm.MethodName)) ∈ TB := TB_of 457 (by decide +kernel) (by decide +kernel)
theorem w_458 : (Jvm.Cond.instanceMethod ({ cls := "WhileSheLooks$Yard", name := "faultOf", desc := "(I)I" } : Jvm.MethodName)) ∈ TB := TB_of 458 (by decide +kernel) (by decide +kernel)
theorem w_459 : (Jvm.Cond.selects "WhileSheLooks$Yard" ({ cls := "WhileSheLooks$Yard", name := "faultOf", desc := "(I)I" } : Jvm.MethodName) ({ cls := "WhileSheLooks$Yard", name := "faultOf", desc := "(I)I" } : Jvm.MethodName)) ∈ TB := TB_of 459 (by decide +kernel) (by decide +kernel)
theorem w_460 : (Jvm.Cond.code ({ cls := "WhileSheLooks$Yard", name := "faultOf", desc := "(I)I" } : Jvm.MethodName) prog_12_method_2_code (3 : Nat) (Option.some Jvm.ClassFile.FieldType.int)) ∈ TB := TB_of 460 (by decide +kernel) (by decide +kernel)
theorem w_461 : (Jvm.Cond.methodLink "WhileSheLooks$Yard" (53 : Nat) ({ cls := "WhileSheLooks$Yard", name := "readClause", desc := "()Z" } : Jvm.MethodName)) ∈ TB := TB_of 461 (by decide +kernel) (by decide +kernel)
theorem w_462 : (Jvm.Cond.instanceMethod ({ cls := "WhileSheLooks$Yard", name := "readClause", desc := "()Z" } : Jvm.MethodName)) ∈ TB := TB_of 462 (by decide +kernel) (by decide +kernel)
theorem w_463 : (Jvm.Cond.selects "WhileSheLooks$Yard" ({ cls := "WhileSheLooks$Yard", name := "readClause", desc := "()Z" } : Jvm.MethodName) ({ cls := "WhileSheLooks$Yard", name := "readClause", desc := "()Z" } : Jvm.MethodName)) ∈ TB := TB_of 463 (by decide +kernel) (by decide +kernel)
theorem w_464 : (Jvm.Cond.code ({ cls := "WhileSheLooks$Yard", name := "readClause", desc := "()Z" } : Jvm.MethodName) prog_12_method_3_code (4 : Nat) (Option.some Jvm.ClassFile.FieldType.boolean)) ∈ TB := TB_of 464 (by decide +kernel) (by decide +kernel)
theorem w_465 : (Jvm.Cond.methodLink "WhileSheLooks$Yard" (61 : Nat) ({ cls := "WhileSheLooks$Yard", name := "readWord", desc := "()I" } : Jvm.MethodName)) ∈ TB := TB_of 465 (by decide +kernel) (by decide +kernel)
theorem w_466 : (Jvm.Cond.instanceMethod ({ cls := "WhileSheLooks$Yard", name := "readWord", desc := "()I" } : Jvm.MethodName)) ∈ TB := TB_of 466 (by decide +kernel) (by decide +kernel)
theorem w_467 : (Jvm.Cond.selects "WhileSheLooks$Yard" ({ cls := "WhileSheLooks$Yard", name := "readWord", desc := "()I" } : Jvm.MethodName) ({ cls := "WhileSheLooks$Yard", name := "readWord", desc := "()I" } : Jvm.MethodName)) ∈ TB := TB_of 467 (by decide +kernel) (by decide +kernel)
theorem w_468 : (Jvm.Cond.code ({ cls := "WhileSheLooks$Yard", name := "readWord", desc := "()I" } : Jvm.MethodName) prog_12_method_6_code (5 : Nat) (Option.some Jvm.ClassFile.FieldType.int)) ∈ TB := TB_of 468 (by decide +kernel) (by decide +kernel)
theorem w_469 : (Jvm.Cond.methodLink "WhileSheLooks$Yard" (83 : Nat) ({ cls := "WhileSheLooks$Yard", name := "wordOf", desc := "(I)Ljava/lang/String;" } : Jvm.MethodName)) ∈ TB := TB_of 469 (by decide +kernel) (by decide +kernel)
theorem w_470 : (Jvm.Cond.static ({ cls := "WhileSheLooks$Yard", name := "wordOf", desc := "(I)Ljava/lang/String;" } : Jvm.MethodName)) ∈ TB := TB_of 470 (by decide +kernel) (by decide +kernel)
theorem w_471 : (Jvm.Cond.code ({ cls := "WhileSheLooks$Yard", name := "wordOf", desc := "(I)Ljava/lang/String;" } : Jvm.MethodName) prog_12_method_5_code (1 : Nat) (Option.some (Jvm.ClassFile.FieldType.object "java/lang/String"))) ∈ TB := TB_of 471 (by decide +kernel) (by decide +kernel)
theorem w_477 : (Jvm.Cond.methodLink "WhileSheLooks$Yard" (87 : Nat) ({ cls := "WhileSheLooks$Yard", name := "sameAs", desc := "(Ljava/lang/String;)I" } : Jvm.MethodName)) ∈ TB := TB_of 477 (by decide +kernel) (by decide +kernel)
theorem w_478 : (Jvm.Cond.instanceMethod ({ cls := "WhileSheLooks$Yard", name := "sameAs", desc := "(Ljava/lang/String;)I" } : Jvm.MethodName)) ∈ TB := TB_of 478 (by decide +kernel) (by decide +kernel)
theorem w_479 : (Jvm.Cond.selects "WhileSheLooks$Yard" ({ cls := "WhileSheLooks$Yard", name := "sameAs", desc := "(Ljava/lang/String;)I" } : Jvm.MethodName) ({ cls := "WhileSheLooks$Yard", name := "sameAs", desc := "(Ljava/lang/String;)I" } : Jvm.MethodName)) ∈ TB := TB_of 479 (by decide +kernel) (by decide +kernel)
theorem w_480 : (Jvm.Cond.code ({ cls := "WhileSheLooks$Yard", name := "sameAs", desc := "(Ljava/lang/String;)I" } : Jvm.MethodName) prog_12_method_7_code (3 : Nat) (Option.some Jvm.ClassFile.FieldType.int)) ∈ TB := TB_of 480 (by decide +kernel) (by decide +kernel)
theorem w_481 : (Jvm.Cond.methodLink "WhileSheLooks$Yard" (91 : Nat) ({ cls := "java/lang/String", name := "length", desc := "()I" } : Jvm.MethodName)) ∈ TB := TB_of 481 (by decide +kernel) (by decide +kernel)
theorem w_482 : (Jvm.Cond.methodLink "WhileSheLooks$Yard" (102 : Nat) ({ cls := "WhileSheLooks$Yard", name := "signAt", desc := "(I)I" } : Jvm.MethodName)) ∈ TB := TB_of 482 (by decide +kernel) (by decide +kernel)
theorem w_483 : (Jvm.Cond.instanceMethod ({ cls := "WhileSheLooks$Yard", name := "signAt", desc := "(I)I" } : Jvm.MethodName)) ∈ TB := TB_of 483 (by decide +kernel) (by decide +kernel)
theorem w_484 : (Jvm.Cond.selects "WhileSheLooks$Yard" ({ cls := "WhileSheLooks$Yard", name := "signAt", desc := "(I)I" } : Jvm.MethodName) ({ cls := "WhileSheLooks$Yard", name := "signAt", desc := "(I)I" } : Jvm.MethodName)) ∈ TB := TB_of 484 (by decide +kernel) (by decide +kernel)
theorem w_485 : (Jvm.Cond.code ({ cls := "WhileSheLooks$Yard", name := "signAt", desc := "(I)I" } : Jvm.MethodName) prog_12_method_8_code (2 : Nat) (Option.some Jvm.ClassFile.FieldType.int)) ∈ TB := TB_of 485 (by decide +kernel) (by decide +kernel)
theorem w_486 : (Jvm.Cond.methodLink "WhileSheLooks$Yard" (106 : Nat) ({ cls := "java/lang/String", name := "charAt", desc := "(I)C" } : Jvm.MethodName)) ∈ TB := TB_of 486 (by decide +kernel) (by decide +kernel)
theorem w_487 : (Jvm.Cond.instanceMethod ({ cls := "java/lang/String", name := "charAt", desc := "(I)C" } : Jvm.MethodName)) ∈ TB := TB_of 487 (by decide +kernel) (by decide +kernel)
theorem w_488 : (Jvm.Cond.selects "java/lang/String" ({ cls := "java/lang/String", name := "charAt", desc := "(I)C" } : Jvm.MethodName) ({ cls := "java/lang/String", name := "charAt", desc := "(I)C" } : Jvm.MethodName)) ∈ TB := TB_of 488 (by decide +kernel) (by decide +kernel)
theorem w_489 : (Jvm.Cond.code ({ cls := "java/lang/String", name := "charAt", desc := "(I)C" } : Jvm.MethodName) prog_18_method_56_code (2 : Nat) (Option.some Jvm.ClassFile.FieldType.char)) ∈ TB := TB_of 489 (by decide +kernel) (by decide +kernel)
theorem w_490 : (Jvm.Cond.methodLink "java/lang/String" (492 : Nat) ({ cls := "java/lang/String", name := "isLatin1", desc := "()Z" } : Jvm.MethodName)) ∈ TB := TB_of 490 (by decide +kernel) (by decide +kernel)
theorem w_491 : (Jvm.Cond.instanceMethod ({ cls := "java/lang/String", name := "isLatin1", desc := "()Z" } : Jvm.MethodName)) ∈ TB := TB_of 491 (by decide +kernel) (by decide +kernel)
theorem w_492 : (Jvm.Cond.selects "java/lang/String" ({ cls := "java/lang/String", name := "isLatin1", desc := "()Z" } : Jvm.MethodName) ({ cls := "java/lang/String", name := "isLatin1", desc := "()Z" } : Jvm.MethodName)) ∈ TB := TB_of 492 (by decide +kernel) (by decide +kernel)
theorem w_493 : (Jvm.Cond.code ({ cls := "java/lang/String", name := "isLatin1", desc := "()Z" } : Jvm.MethodName) prog_18_method_154_code (1 : Nat) (Option.some Jvm.ClassFile.FieldType.boolean)) ∈ TB := TB_of 493 (by decide +kernel) (by decide +kernel)
theorem w_494 : (Jvm.Cond.methodLink "java/lang/String" (495 : Nat) ({ cls := "java/lang/StringLatin1", name := "charAt", desc := "([BI)C" } : Jvm.MethodName)) ∈ TB := TB_of 494 (by decide +kernel) (by decide +kernel)
theorem w_495 : (Jvm.Cond.static ({ cls := "java/lang/StringLatin1", name := "charAt", desc := "([BI)C" } : Jvm.MethodName)) ∈ TB := TB_of 495 (by decide +kernel) (by decide +kernel)
theorem w_496 : (Jvm.Cond.code ({ cls := "java/lang/StringLatin1", name := "charAt", desc := "([BI)C" } : Jvm.MethodName) prog_19_method_2_code (2 : Nat) (Option.some Jvm.ClassFile.FieldType.char)) ∈ TB := TB_of 496 (by decide +kernel) (by decide +kernel)
theorem w_497 : (Jvm.Cond.methodLink "java/lang/StringLatin1" (9 : Nat) ({ cls := "java/lang/String", name := "checkIndex", desc := "(II)V" } : Jvm.MethodName)) ∈ TB := TB_of 497 (by decide +kernel) (by decide +kernel)
theorem w_498 : (Jvm.Cond.static ({ cls := "java/lang/String", name := "checkIndex", desc := "(II)V" } : Jvm.MethodName)) ∈ TB := TB_of 498 (by decide +kernel) (by decide +kernel)
theorem w_499 : (Jvm.Cond.code ({ cls := "java/lang/String", name := "checkIndex", desc := "(II)V" } : Jvm.MethodName) prog_18_method_155_code (2 : Nat) (Option.none : Option Jvm.ClassFile.FieldType)) ∈ TB := TB_of 499 (by decide +kernel) (by decide +kernel)
theorem w_500 : (Jvm.Cond.fieldLink "java/lang/String" (1053 : Nat) "jdk/internal/util/Preconditions" "SIOOBE_FORMATTER" "Ljava/util/function/BiFunction;") ∈ TB := TB_of 500 (by decide +kernel) (by decide +kernel)
theorem w_502 : (Jvm.Cond.methodLink "java/lang/String" (1059 : Nat) ({ cls := "jdk/internal/util/Preconditions", name := "checkIndex", desc := "(IILjava/util/function/BiFunction;)I" } : Jvm.MethodName)) ∈ TB := TB_of 502 (by decide +kernel) (by decide +kernel)
theorem w_503 : (Jvm.Cond.static ({ cls := "jdk/internal/util/Preconditions", name := "checkIndex", desc := "(IILjava/util/function/BiFunction;)I" } : Jvm.MethodName)) ∈ TB := TB_of 503 (by decide +kernel) (by decide +kernel)
theorem w_504 : (Jvm.Cond.code ({ cls := "jdk/internal/util/Preconditions", name := "checkIndex", desc := "(IILjava/util/function/BiFunction;)I" } : Jvm.MethodName) prog_22_method_11_code (3 : Nat) (Option.some Jvm.ClassFile.FieldType.int)) ∈ TB := TB_of 504 (by decide +kernel) (by decide +kernel)
theorem w_505 : (Jvm.Cond.methodLink "java/lang/String" (498 : Nat) ({ cls := "java/lang/StringUTF16", name := "charAt", desc := "([BI)C" } : Jvm.MethodName)) ∈ TB := TB_of 505 (by decide +kernel) (by decide +kernel)
theorem w_506 : (Jvm.Cond.static ({ cls := "java/lang/StringUTF16", name := "charAt", desc := "([BI)C" } : Jvm.MethodName)) ∈ TB := TB_of 506 (by decide +kernel) (by decide +kernel)
theorem w_507 : (Jvm.Cond.code ({ cls := "java/lang/StringUTF16", name := "charAt", desc := "([BI)C" } : Jvm.MethodName) prog_20_method_83_code (2 : Nat) (Option.some Jvm.ClassFile.FieldType.char)) ∈ TB := TB_of 507 (by decide +kernel) (by decide +kernel)
theorem w_508 : (Jvm.Cond.methodLink "java/lang/StringUTF16" (67 : Nat) ({ cls := "java/lang/StringUTF16", name := "checkIndex", desc := "(I[B)V" } : Jvm.MethodName)) ∈ TB := TB_of 508 (by decide +kernel) (by decide +kernel)
theorem w_509 : (Jvm.Cond.static ({ cls := "java/lang/StringUTF16", name := "checkIndex", desc := "(I[B)V" } : Jvm.MethodName)) ∈ TB := TB_of 509 (by decide +kernel) (by decide +kernel)
theorem w_510 : (Jvm.Cond.code ({ cls := "java/lang/StringUTF16", name := "checkIndex", desc := "(I[B)V" } : Jvm.MethodName) prog_20_method_91_code (2 : Nat) (Option.none : Option Jvm.ClassFile.FieldType)) ∈ TB := TB_of 510 (by decide +kernel) (by decide +kernel)
theorem w_511 : (Jvm.Cond.methodLink "java/lang/StringUTF16" (48 : Nat) ({ cls := "java/lang/StringUTF16", name := "length", desc := "([B)I" } : Jvm.MethodName)) ∈ TB := TB_of 511 (by decide +kernel) (by decide +kernel)
theorem w_512 : (Jvm.Cond.static ({ cls := "java/lang/StringUTF16", name := "length", desc := "([B)I" } : Jvm.MethodName)) ∈ TB := TB_of 512 (by decide +kernel) (by decide +kernel)
theorem w_513 : (Jvm.Cond.code ({ cls := "java/lang/StringUTF16", name := "length", desc := "([B)I" } : Jvm.MethodName) prog_20_method_6_code (1 : Nat) (Option.some Jvm.ClassFile.FieldType.int)) ∈ TB := TB_of 513 (by decide +kernel) (by decide +kernel)
theorem w_514 : (Jvm.Cond.methodLink "java/lang/StringUTF16" (414 : Nat) ({ cls := "java/lang/String", name := "checkIndex", desc := "(II)V" } : Jvm.MethodName)) ∈ TB := TB_of 514 (by decide +kernel) (by decide +kernel)
theorem w_515 : (Jvm.Cond.methodLink "java/lang/StringUTF16" (71 : Nat) ({ cls := "java/lang/StringUTF16", name := "getChar", desc := "([BI)C" } : Jvm.MethodName)) ∈ TB := TB_of 515 (by decide +kernel) (by decide +kernel)
theorem w_516 : (Jvm.Cond.static ({ cls := "java/lang/StringUTF16", name := "getChar", desc := "([BI)C" } : Jvm.MethodName)) ∈ TB := TB_of 516 (by decide +kernel) (by decide +kernel)
theorem w_517 : (Jvm.Cond.code ({ cls := "java/lang/StringUTF16", name := "getChar", desc := "([BI)C" } : Jvm.MethodName) prog_20_method_5_code (2 : Nat) (Option.some Jvm.ClassFile.FieldType.char)) ∈ TB := TB_of 517 (by decide +kernel) (by decide +kernel)
theorem w_518 : (Jvm.Cond.fieldLink "java/lang/StringUTF16" (44 : Nat) "java/lang/StringUTF16" "$assertionsDisabled" "Z") ∈ TB := TB_of 518 (by decide +kernel) (by decide +kernel)
theorem w_520 : (Jvm.Cond.fieldLink "java/lang/StringUTF16" (59 : Nat) "java/lang/StringUTF16" "HI_BYTE_SHIFT" "I") ∈ TB := TB_of 520 (by decide +kernel) (by decide +kernel)
theorem w_522 : (Jvm.Cond.fieldLink "java/lang/StringUTF16" (63 : Nat) "java/lang/StringUTF16" "LO_BYTE_SHIFT" "I") ∈ TB := TB_of 522 (by decide +kernel) (by decide +kernel)
theorem w_524 : (Jvm.Cond.methodLink "WhileSheLooks$Yard" (96 : Nat) ({ cls := "java/lang/Math", name := "max", desc := "(II)I" } : Jvm.MethodName)) ∈ TB := TB_of 524 (by decide +kernel) (by decide +kernel)
theorem w_525 : (Jvm.Cond.methodLink "WhileSheLooks$Yard" (57 : Nat) ({ cls := "WhileSheLooks$Yard", name := "skip", desc := "(C)Z" } : Jvm.MethodName)) ∈ TB := TB_of 525 (by decide +kernel) (by decide +kernel)
theorem w_526 : (Jvm.Cond.instanceMethod ({ cls := "WhileSheLooks$Yard", name := "skip", desc := "(C)Z" } : Jvm.MethodName)) ∈ TB := TB_of 526 (by decide +kernel) (by decide +kernel)
theorem w_527 : (Jvm.Cond.selects "WhileSheLooks$Yard" ({ cls := "WhileSheLooks$Yard", name := "skip", desc := "(C)Z" } : Jvm.MethodName) ({ cls := "WhileSheLooks$Yard", name := "skip", desc := "(C)Z" } : Jvm.MethodName)) ∈ TB := TB_of 527 (by decide +kernel) (by decide +kernel)
theorem w_528 : (Jvm.Cond.code ({ cls := "WhileSheLooks$Yard", name := "skip", desc := "(C)Z" } : Jvm.MethodName) prog_12_method_9_code (2 : Nat) (Option.some Jvm.ClassFile.FieldType.boolean)) ∈ TB := TB_of 528 (by decide +kernel) (by decide +kernel)
theorem w_529 : (Jvm.Cond.methodLink "WhileSheLooks$Yard" (65 : Nat) ({ cls := "WhileSheLooks$Yard", name := "readNumber", desc := "()I" } : Jvm.MethodName)) ∈ TB := TB_of 529 (by decide +kernel) (by decide +kernel)
theorem w_530 : (Jvm.Cond.instanceMethod ({ cls := "WhileSheLooks$Yard", name := "readNumber", desc := "()I" } : Jvm.MethodName)) ∈ TB := TB_of 530 (by decide +kernel) (by decide +kernel)
theorem w_531 : (Jvm.Cond.selects "WhileSheLooks$Yard" ({ cls := "WhileSheLooks$Yard", name := "readNumber", desc := "()I" } : Jvm.MethodName) ({ cls := "WhileSheLooks$Yard", name := "readNumber", desc := "()I" } : Jvm.MethodName)) ∈ TB := TB_of 531 (by decide +kernel) (by decide +kernel)
theorem w_532 : (Jvm.Cond.code ({ cls := "WhileSheLooks$Yard", name := "readNumber", desc := "()I" } : Jvm.MethodName) prog_12_method_11_code (3 : Nat) (Option.some Jvm.ClassFile.FieldType.int)) ∈ TB := TB_of 532 (by decide +kernel) (by decide +kernel)
theorem w_533 : (Jvm.Cond.methodLink "WhileSheLooks$Yard" (110 : Nat) ({ cls := "WhileSheLooks$Yard", name := "isDigit", desc := "(I)Z" } : Jvm.MethodName)) ∈ TB := TB_of 533 (by decide +kernel) (by decide +kernel)
theorem w_534 : (Jvm.Cond.static ({ cls := "WhileSheLooks$Yard", name := "isDigit", desc := "(I)Z" } : Jvm.MethodName)) ∈ TB := TB_of 534 (by decide +kernel) (by decide +kernel)
theorem w_535 : (Jvm.Cond.code ({ cls := "WhileSheLooks$Yard", name := "isDigit", desc := "(I)Z" } : Jvm.MethodName) prog_12_method_10_code (1 : Nat) (Option.some Jvm.ClassFile.FieldType.boolean)) ∈ TB := TB_of 535 (by decide +kernel) (by decide +kernel)
theorem w_536 : (Jvm.Cond.methodLink "WhileSheLooks$Yard" (68 : Nat) ({ cls := "WhileSheLooks$Yard", name := "readEither", desc := "(I)Z" } : Jvm.MethodName)) ∈ TB := TB_of 536 (by decide +kernel) (by decide +kernel)
theorem w_537 : (Jvm.Cond.instanceMethod ({ cls := "WhileSheLooks$Yard", name := "readEither", desc := "(I)Z" } : Jvm.MethodName)) ∈ TB := TB_of 537 (by decide +kernel) (by decide +kernel)
theorem w_538 : (Jvm.Cond.selects "WhileSheLooks$Yard" ({ cls := "WhileSheLooks$Yard", name := "readEither", desc := "(I)Z" } : Jvm.MethodName) ({ cls := "WhileSheLooks$Yard", name := "readEither", desc := "(I)Z" } : Jvm.MethodName)) ∈ TB := TB_of 538 (by decide +kernel) (by decide +kernel)
theorem w_539 : (Jvm.Cond.code ({ cls := "WhileSheLooks$Yard", name := "readEither", desc := "(I)Z" } : Jvm.MethodName) prog_12_method_12_code (5 : Nat) (Option.some Jvm.ClassFile.FieldType.boolean)) ∈ TB := TB_of 539 (by decide +kernel) (by decide +kernel)
theorem w_540 : (Jvm.Cond.methodLink "WhileSheLooks$Yard" (113 : Nat) ({ cls := "WhileSheLooks$Yard", name := "readPart", desc := "(I)Z" } : Jvm.MethodName)) ∈ TB := TB_of 540 (by decide +kernel) (by decide +kernel)
theorem w_541 : (Jvm.Cond.instanceMethod ({ cls := "WhileSheLooks$Yard", name := "readPart", desc := "(I)Z" } : Jvm.MethodName)) ∈ TB := TB_of 541 (by decide +kernel) (by decide +kernel)
theorem w_542 : (Jvm.Cond.selects "WhileSheLooks$Yard" ({ cls := "WhileSheLooks$Yard", name := "readPart", desc := "(I)Z" } : Jvm.MethodName) ({ cls := "WhileSheLooks$Yard", name := "readPart", desc := "(I)Z" } : Jvm.MethodName)) ∈ TB := TB_of 542 (by decide +kernel) (by decide +kernel)
theorem w_543 : (Jvm.Cond.code ({ cls := "WhileSheLooks$Yard", name := "readPart", desc := "(I)Z" } : Jvm.MethodName) prog_12_method_13_code (3 : Nat) (Option.some Jvm.ClassFile.FieldType.boolean)) ∈ TB := TB_of 543 (by decide +kernel) (by decide +kernel)
theorem w_544 : (Jvm.Cond.methodLink "WhileSheLooks$Yard" (120 : Nat) ({ cls := "WhileSheLooks$Yard", name := "readTest", desc := "()Z" } : Jvm.MethodName)) ∈ TB := TB_of 544 (by decide +kernel) (by decide +kernel)
theorem w_545 : (Jvm.Cond.instanceMethod ({ cls := "WhileSheLooks$Yard", name := "readTest", desc := "()Z" } : Jvm.MethodName)) ∈ TB := TB_of 545 (by decide +kernel) (by decide +kernel)
theorem w_546 : (Jvm.Cond.selects "WhileSheLooks$Yard" ({ cls := "WhileSheLooks$Yard", name := "readTest", desc := "()Z" } : Jvm.MethodName) ({ cls := "WhileSheLooks$Yard", name := "readTest", desc := "()Z" } : Jvm.MethodName)) ∈ TB := TB_of 546 (by decide +kernel) (by decide +kernel)
theorem w_547 : (Jvm.Cond.code ({ cls := "WhileSheLooks$Yard", name := "readTest", desc := "()Z" } : Jvm.MethodName) prog_12_method_14_code (4 : Nat) (Option.some Jvm.ClassFile.FieldType.boolean)) ∈ TB := TB_of 547 (by decide +kernel) (by decide +kernel)
theorem w_549 : (Jvm.Cond.methodLink "WhileSheLooks$Yard" (125 : Nat) ({ cls := "WhileSheLooks$Yard", name := "readOneOf", desc := "(Ljava/lang/String;)I" } : Jvm.MethodName)) ∈ TB := TB_of 549 (by decide +kernel) (by decide +kernel)
theorem w_550 : (Jvm.Cond.instanceMethod ({ cls := "WhileSheLooks$Yard", name := "readOneOf", desc := "(Ljava/lang/String;)I" } : Jvm.MethodName)) ∈ TB := TB_of 550 (by decide +kernel) (by decide +kernel)
theorem w_551 : (Jvm.Cond.selects "WhileSheLooks$Yard" ({ cls := "WhileSheLooks$Yard", name := "readOneOf", desc := "(Ljava/lang/String;)I" } : Jvm.MethodName) ({ cls := "WhileSheLooks$Yard", name := "readOneOf", desc := "(Ljava/lang/String;)I" } : Jvm.MethodName)) ∈ TB := TB_of 551 (by decide +kernel) (by decide +kernel)
theorem w_552 : (Jvm.Cond.code ({ cls := "WhileSheLooks$Yard", name := "readOneOf", desc := "(Ljava/lang/String;)I" } : Jvm.MethodName) prog_12_method_15_code (4 : Nat) (Option.some Jvm.ClassFile.FieldType.int)) ∈ TB := TB_of 552 (by decide +kernel) (by decide +kernel)
theorem w_553 : (Jvm.Cond.methodLink "WhileSheLooks$Yard" (130 : Nat) ({ cls := "java/lang/String", name := "indexOf", desc := "(I)I" } : Jvm.MethodName)) ∈ TB := TB_of 553 (by decide +kernel) (by decide +kernel)
theorem w_554 : (Jvm.Cond.instanceMethod ({ cls := "java/lang/String", name := "indexOf", desc := "(I)I" } : Jvm.MethodName)) ∈ TB := TB_of 554 (by decide +kernel) (by decide +kernel)
theorem w_555 : (Jvm.Cond.selects "java/lang/String" ({ cls := "java/lang/String", name := "indexOf", desc := "(I)I" } : Jvm.MethodName) ({ cls := "java/lang/String", name := "indexOf", desc := "(I)I" } : Jvm.MethodName)) ∈ TB := TB_of 555 (by decide +kernel) (by decide +kernel)
theorem w_556 : (Jvm.Cond.code ({ cls := "java/lang/String", name := "indexOf", desc := "(I)I" } : Jvm.MethodName) prog_18_method_79_code (2 : Nat) (Option.some Jvm.ClassFile.FieldType.int)) ∈ TB := TB_of 556 (by decide +kernel) (by decide +kernel)
theorem w_557 : (Jvm.Cond.methodLink "java/lang/String" (633 : Nat) ({ cls := "java/lang/String", name := "indexOf", desc := "(II)I" } : Jvm.MethodName)) ∈ TB := TB_of 557 (by decide +kernel) (by decide +kernel)
theorem w_558 : (Jvm.Cond.instanceMethod ({ cls := "java/lang/String", name := "indexOf", desc := "(II)I" } : Jvm.MethodName)) ∈ TB := TB_of 558 (by decide +kernel) (by decide +kernel)
theorem w_559 : (Jvm.Cond.selects "java/lang/String" ({ cls := "java/lang/String", name := "indexOf", desc := "(II)I" } : Jvm.MethodName) ({ cls := "java/lang/String", name := "indexOf", desc := "(II)I" } : Jvm.MethodName)) ∈ TB := TB_of 559 (by decide +kernel) (by decide +kernel)
theorem w_560 : (Jvm.Cond.code ({ cls := "java/lang/String", name := "indexOf", desc := "(II)I" } : Jvm.MethodName) prog_18_method_80_code (3 : Nat) (Option.some Jvm.ClassFile.FieldType.int)) ∈ TB := TB_of 560 (by decide +kernel) (by decide +kernel)
theorem w_561 : (Jvm.Cond.methodLink "java/lang/String" (505 : Nat) ({ cls := "java/lang/String", name := "length", desc := "()I" } : Jvm.MethodName)) ∈ TB := TB_of 561 (by decide +kernel) (by decide +kernel)
theorem w_562 : (Jvm.Cond.methodLink "java/lang/String" (637 : Nat) ({ cls := "java/lang/StringLatin1", name := "indexOf", desc := "([BIII)I" } : Jvm.MethodName)) ∈ TB := TB_of 562 (by decide +kernel) (by decide +kernel)
theorem w_563 : (Jvm.Cond.static ({ cls := "java/lang/StringLatin1", name := "indexOf", desc := "([BIII)I" } : Jvm.MethodName)) ∈ TB := TB_of 563 (by decide +kernel) (by decide +kernel)
theorem w_564 : (Jvm.Cond.code ({ cls := "java/lang/StringLatin1", name := "indexOf", desc := "([BIII)I" } : Jvm.MethodName) prog_19_method_22_code (4 : Nat) (Option.some Jvm.ClassFile.FieldType.int)) ∈ TB := TB_of 564 (by decide +kernel) (by decide +kernel)
theorem w_565 : (Jvm.Cond.methodLink "java/lang/StringLatin1" (88 : Nat) ({ cls := "java/lang/StringLatin1", name := "canEncode", desc := "(I)Z" } : Jvm.MethodName)) ∈ TB := TB_of 565 (by decide +kernel) (by decide +kernel)
theorem w_566 : (Jvm.Cond.static ({ cls := "java/lang/StringLatin1", name := "canEncode", desc := "(I)Z" } : Jvm.MethodName)) ∈ TB := TB_of 566 (by decide +kernel) (by decide +kernel)
theorem w_567 : (Jvm.Cond.code ({ cls := "java/lang/StringLatin1", name := "canEncode", desc := "(I)Z" } : Jvm.MethodName) prog_19_method_4_code (1 : Nat) (Option.some Jvm.ClassFile.FieldType.boolean)) ∈ TB := TB_of 567 (by decide +kernel) (by decide +kernel)
theorem w_568 : (Jvm.Cond.methodLink "java/lang/StringLatin1" (92 : Nat) ({ cls := "java/lang/Math", name := "max", desc := "(II)I" } : Jvm.MethodName)) ∈ TB := TB_of 568 (by decide +kernel) (by decide +kernel)
theorem w_569 : (Jvm.Cond.methodLink "java/lang/StringLatin1" (38 : Nat) ({ cls := "java/lang/Math", name := "min", desc := "(II)I" } : Jvm.MethodName)) ∈ TB := TB_of 569 (by decide +kernel) (by decide +kernel)
theorem w_570 : (Jvm.Cond.methodLink "java/lang/StringLatin1" (95 : Nat) ({ cls := "java/lang/StringLatin1", name := "indexOfChar", desc := "([BIII)I" } : Jvm.MethodName)) ∈ TB := TB_of 570 (by decide +kernel) (by decide +kernel)
theorem w_571 : (Jvm.Cond.static ({ cls := "java/lang/StringLatin1", name := "indexOfChar", desc := "([BIII)I" } : Jvm.MethodName)) ∈ TB := TB_of 571 (by decide +kernel) (by decide +kernel)
theorem w_572 : (Jvm.Cond.code ({ cls := "java/lang/StringLatin1", name := "indexOfChar", desc := "([BIII)I" } : Jvm.MethodName) prog_19_method_23_code (6 : Nat) (Option.some Jvm.ClassFile.FieldType.int)) ∈ TB := TB_of 572 (by decide +kernel) (by decide +kernel)
theorem w_573 : (Jvm.Cond.methodLink "java/lang/String" (640 : Nat) ({ cls := "java/lang/StringUTF16", name := "indexOf", desc := "([BIII)I" } : Jvm.MethodName)) ∈ TB := TB_of 573 (by decide +kernel) (by decide +kernel)
theorem w_574 : (Jvm.Cond.static ({ cls := "java/lang/StringUTF16", name := "indexOf", desc := "([BIII)I" } : Jvm.MethodName)) ∈ TB := TB_of 574 (by decide +kernel) (by decide +kernel)
theorem w_575 : (Jvm.Cond.code ({ cls := "java/lang/StringUTF16", name := "indexOf", desc := "([BIII)I" } : Jvm.MethodName) prog_20_method_40_code (4 : Nat) (Option.some Jvm.ClassFile.FieldType.int)) ∈ TB := TB_of 575 (by decide +kernel) (by decide +kernel)
theorem w_576 : (Jvm.Cond.methodLink "java/lang/StringUTF16" (224 : Nat) ({ cls := "java/lang/Math", name := "max", desc := "(II)I" } : Jvm.MethodName)) ∈ TB := TB_of 576 (by decide +kernel) (by decide +kernel)
theorem w_577 : (Jvm.Cond.methodLink "java/lang/StringUTF16" (183 : Nat) ({ cls := "java/lang/Math", name := "min", desc := "(II)I" } : Jvm.MethodName)) ∈ TB := TB_of 577 (by decide +kernel) (by decide +kernel)
theorem w_578 : (Jvm.Cond.constant "java/lang/StringUTF16" (227 : Nat) (65536 : Int32)) ∈ TB := TB_of 578 (by decide +kernel) (by decide +kernel)
theorem w_579 : (Jvm.Cond.methodLink "java/lang/StringUTF16" (228 : Nat) ({ cls := "java/lang/StringUTF16", name := "indexOfChar", desc := "([BIII)I" } : Jvm.MethodName)) ∈ TB := TB_of 579 (by decide +kernel) (by decide +kernel)
theorem w_580 : (Jvm.Cond.static ({ cls := "java/lang/StringUTF16", name := "indexOfChar", desc := "([BIII)I" } : Jvm.MethodName)) ∈ TB := TB_of 580 (by decide +kernel) (by decide +kernel)
theorem w_581 : (Jvm.Cond.code ({ cls := "java/lang/StringUTF16", name := "indexOfChar", desc := "([BIII)I" } : Jvm.MethodName) prog_20_method_47_code (4 : Nat) (Option.some Jvm.ClassFile.FieldType.int)) ∈ TB := TB_of 581 (by decide +kernel) (by decide +kernel)
theorem w_582 : (Jvm.Cond.methodLink "java/lang/StringUTF16" (96 : Nat) ({ cls := "java/lang/StringUTF16", name := "checkBoundsBeginEnd", desc := "(II[B)V" } : Jvm.MethodName)) ∈ TB := TB_of 582 (by decide +kernel) (by decide +kernel)
theorem w_583 : (Jvm.Cond.static ({ cls := "java/lang/StringUTF16", name := "checkBoundsBeginEnd", desc := "(II[B)V" } : Jvm.MethodName)) ∈ TB := TB_of 583 (by decide +kernel) (by decide +kernel)
theorem w_584 : (Jvm.Cond.code ({ cls := "java/lang/StringUTF16", name := "checkBoundsBeginEnd", desc := "(II[B)V" } : Jvm.MethodName) prog_20_method_93_code (3 : Nat) (Option.none : Option Jvm.ClassFile.FieldType)) ∈ TB := TB_of 584 (by decide +kernel) (by decide +kernel)
theorem w_585 : (Jvm.Cond.methodLink "java/lang/StringUTF16" (241 : Nat) ({ cls := "java/lang/String", name := "checkBoundsBeginEnd", desc := "(III)V" } : Jvm.MethodName)) ∈ TB := TB_of 585 (by decide +kernel) (by decide +kernel)
theorem w_586 : (Jvm.Cond.static ({ cls := "java/lang/String", name := "checkBoundsBeginEnd", desc := "(III)V" } : Jvm.MethodName)) ∈ TB := TB_of 586 (by decide +kernel) (by decide +kernel)
theorem w_587 : (Jvm.Cond.code ({ cls := "java/lang/String", name := "checkBoundsBeginEnd", desc := "(III)V" } : Jvm.MethodName) prog_18_method_158_code (3 : Nat) (Option.none : Option Jvm.ClassFile.FieldType)) ∈ TB := TB_of 587 (by decide +kernel) (by decide +kernel)
theorem w_588 : (Jvm.Cond.methodLink "java/lang/String" (1062 : Nat) ({ cls := "jdk/internal/util/Preconditions", name := "checkFromToIndex", desc := "(IIILjava/util/function/BiFunction;)I" } : Jvm.MethodName)) ∈ TB := TB_of 588 (by decide +kernel) (by decide +kernel)
theorem w_589 : (Jvm.Cond.static ({ cls := "jdk/internal/util/Preconditions", name := "checkFromToIndex", desc := "(IIILjava/util/function/BiFunction;)I" } : Jvm.MethodName)) ∈ TB := TB_of 589 (by decide +kernel) (by decide +kernel)
theorem w_590 : (Jvm.Cond.code ({ cls := "jdk/internal/util/Preconditions", name := "checkFromToIndex", desc := "(IIILjava/util/function/BiFunction;)I" } : Jvm.MethodName) prog_22_method_12_code (4 : Nat) (Option.some Jvm.ClassFile.FieldType.int)) ∈ TB := TB_of 590 (by decide +kernel) (by decide +kernel)
theorem w_591 : (Jvm.Cond.methodLink "java/lang/StringUTF16" (244 : Nat) ({ cls := "java/lang/StringUTF16", name := "indexOfCharUnsafe", desc := "([BIII)I" } : Jvm.MethodName)) ∈ TB := TB_of 591 (by decide +kernel) (by decide +kernel)
theorem w_592 : (Jvm.Cond.static ({ cls := "java/lang/StringUTF16", name := "indexOfCharUnsafe", desc := "([BIII)I" } : Jvm.MethodName)) ∈ TB := TB_of 592 (by decide +kernel) (by decide +kernel)
theorem w_593 : (Jvm.Cond.code ({ cls := "java/lang/StringUTF16", name := "indexOfCharUnsafe", desc := "([BIII)I" } : Jvm.MethodName) prog_20_method_48_code (5 : Nat) (Option.some Jvm.ClassFile.FieldType.int)) ∈ TB := TB_of 593 (by decide +kernel) (by decide +kernel)
theorem w_594 : (Jvm.Cond.methodLink "java/lang/StringUTF16" (232 : Nat) ({ cls := "java/lang/StringUTF16", name := "indexOfSupplementary", desc := "([BIII)I" } : Jvm.MethodName)) ∈ TB := TB_of 594 (by decide +kernel) (by decide +kernel)
theorem w_595 : (Jvm.Cond.static ({ cls := "java/lang/StringUTF16", name := "indexOfSupplementary", desc := "([BIII)I" } : Jvm.MethodName)) ∈ TB := TB_of 595 (by decide +kernel) (by decide +kernel)
theorem w_596 : (Jvm.Cond.code ({ cls := "java/lang/StringUTF16", name := "indexOfSupplementary", desc := "([BIII)I" } : Jvm.MethodName) prog_20_method_49_code (7 : Nat) (Option.some Jvm.ClassFile.FieldType.int)) ∈ TB := TB_of 596 (by decide +kernel) (by decide +kernel)
theorem w_597 : (Jvm.Cond.methodLink "java/lang/StringUTF16" (164 : Nat) ({ cls := "java/lang/Character", name := "isValidCodePoint", desc := "(I)Z" } : Jvm.MethodName)) ∈ TB := TB_of 597 (by decide +kernel) (by decide +kernel)
theorem w_598 : (Jvm.Cond.static ({ cls := "java/lang/Character", name := "isValidCodePoint", desc := "(I)Z" } : Jvm.MethodName)) ∈ TB := TB_of 598 (by decide +kernel) (by decide +kernel)
theorem w_599 : (Jvm.Cond.code ({ cls := "java/lang/Character", name := "isValidCodePoint", desc := "(I)Z" } : Jvm.MethodName) prog_15_method_11_code (2 : Nat) (Option.some Jvm.ClassFile.FieldType.boolean)) ∈ TB := TB_of 599 (by decide +kernel) (by decide +kernel)
theorem w_600 : (Jvm.Cond.methodLink "java/lang/StringUTF16" (157 : Nat) ({ cls := "java/lang/Character", name := "highSurrogate", desc := "(I)C" } : Jvm.MethodName)) ∈ TB := TB_of 600 (by decide +kernel) (by decide +kernel)
theorem w_601 : (Jvm.Cond.static ({ cls := "java/lang/Character", name := "highSurrogate", desc := "(I)C" } : Jvm.MethodName)) ∈ TB := TB_of 601 (by decide +kernel) (by decide +kernel)
theorem w_602 : (Jvm.Cond.code ({ cls := "java/lang/Character", name := "highSurrogate", desc := "(I)C" } : Jvm.MethodName) prog_15_method_28_code (1 : Nat) (Option.some Jvm.ClassFile.FieldType.char)) ∈ TB := TB_of 602 (by decide +kernel) (by decide +kernel)
theorem w_603 : (Jvm.Cond.constant "java/lang/Character" (110 : Nat) (55232 : Int32)) ∈ TB := TB_of 603 (by decide +kernel) (by decide +kernel)
theorem w_604 : (Jvm.Cond.methodLink "java/lang/StringUTF16" (161 : Nat) ({ cls := "java/lang/Character", name := "lowSurrogate", desc := "(I)C" } : Jvm.MethodName)) ∈ TB := TB_of 604 (by decide +kernel) (by decide +kernel)
theorem w_605 : (Jvm.Cond.static ({ cls := "java/lang/Character", name := "lowSurrogate", desc := "(I)C" } : Jvm.MethodName)) ∈ TB := TB_of 605 (by decide +kernel) (by decide +kernel)
theorem w_606 : (Jvm.Cond.code ({ cls := "java/lang/Character", name := "lowSurrogate", desc := "(I)C" } : Jvm.MethodName) prog_15_method_29_code (1 : Nat) (Option.some Jvm.ClassFile.FieldType.char)) ∈ TB := TB_of 606 (by decide +kernel) (by decide +kernel)
theorem w_607 : (Jvm.Cond.constant "java/lang/Character" (76 : Nat) (56320 : Int32)) ∈ TB := TB_of 607 (by decide +kernel) (by decide +kernel)
theorem w_609 : (Jvm.Cond.methodLink "WhileSheLooks$Yard" (116 : Nat) ({ cls := "WhileSheLooks$Yard", name := "addCode", desc := "(I)V" } : Jvm.MethodName)) ∈ TB := TB_of 609 (by decide +kernel) (by decide +kernel)
theorem w_610 : (Jvm.Cond.instanceMethod ({ cls := "WhileSheLooks$Yard", name := "addCode", desc := "(I)V" } : Jvm.MethodName)) ∈ TB := TB_of 610 (by decide +kernel) (by decide +kernel)
theorem w_611 : (Jvm.Cond.selects "WhileSheLooks$Yard" ({ cls := "WhileSheLooks$Yard", name := "addCode", desc := "(I)V" } : Jvm.MethodName) ({ cls := "WhileSheLooks$Yard", name := "addCode", desc := "(I)V" } : Jvm.MethodName)) ∈ TB := TB_of 611 (by decide +kernel) (by decide +kernel)
theorem w_612 : (Jvm.Cond.code ({ cls := "WhileSheLooks$Yard", name := "addCode", desc := "(I)V" } : Jvm.MethodName) prog_12_method_16_code (2 : Nat) (Option.none : Option Jvm.ClassFile.FieldType)) ∈ TB := TB_of 612 (by decide +kernel) (by decide +kernel)
theorem w_613 : (Jvm.Cond.methodLink "WhileSheLooks$Yard" (72 : Nat) ({ cls := "WhileSheLooks$Yard", name := "addClause", desc := "(III)V" } : Jvm.MethodName)) ∈ TB := TB_of 613 (by decide +kernel) (by decide +kernel)
theorem w_614 : (Jvm.Cond.instanceMethod ({ cls := "WhileSheLooks$Yard", name := "addClause", desc := "(III)V" } : Jvm.MethodName)) ∈ TB := TB_of 614 (by decide +kernel) (by decide +kernel)
theorem w_615 : (Jvm.Cond.selects "WhileSheLooks$Yard" ({ cls := "WhileSheLooks$Yard", name := "addClause", desc := "(III)V" } : Jvm.MethodName) ({ cls := "WhileSheLooks$Yard", name := "addClause", desc := "(III)V" } : Jvm.MethodName)) ∈ TB := TB_of 615 (by decide +kernel) (by decide +kernel)
theorem w_616 : (Jvm.Cond.code ({ cls := "WhileSheLooks$Yard", name := "addClause", desc := "(III)V" } : Jvm.MethodName) prog_12_method_4_code (4 : Nat) (Option.none : Option Jvm.ClassFile.FieldType)) ∈ TB := TB_of 616 (by decide +kernel) (by decide +kernel)
theorem w_625 : (Jvm.Cond.methodLink "WhileSheLooks" (178 : Nat) ({ cls := "WhileSheLooks$Turns", name := "pass", desc := "(LWhileSheLooks$Scene;I)I" } : Jvm.MethodName)) ∈ TB := TB_of 625 (by decide +kernel) (by decide +kernel)
theorem w_626 : (Jvm.Cond.instanceMethod ({ cls := "WhileSheLooks$Turns", name := "pass", desc := "(LWhileSheLooks$Scene;I)I" } : Jvm.MethodName)) ∈ TB := TB_of 626 (by decide +kernel) (by decide +kernel)
theorem w_627 : (Jvm.Cond.selects "WhileSheLooks$Turns" ({ cls := "WhileSheLooks$Turns", name := "pass", desc := "(LWhileSheLooks$Scene;I)I" } : Jvm.MethodName) ({ cls := "WhileSheLooks$Turns", name := "pass", desc := "(LWhileSheLooks$Scene;I)I" } : Jvm.MethodName)) ∈ TB := TB_of 627 (by decide +kernel) (by decide +kernel)
theorem w_628 : (Jvm.Cond.code ({ cls := "WhileSheLooks$Turns", name := "pass", desc := "(LWhileSheLooks$Scene;I)I" } : Jvm.MethodName) prog_11_method_7_code (5 : Nat) (Option.some Jvm.ClassFile.FieldType.int)) ∈ TB := TB_of 628 (by decide +kernel) (by decide +kernel)
theorem w_629 : (Jvm.Cond.methodLink "WhileSheLooks$Turns" (122 : Nat) ({ cls := "WhileSheLooks$Turns", name := "step", desc := "(LWhileSheLooks$Scene;II)I" } : Jvm.MethodName)) ∈ TB := TB_of 629 (by decide +kernel) (by decide +kernel)
theorem w_630 : (Jvm.Cond.instanceMethod ({ cls := "WhileSheLooks$Turns", name := "step", desc := "(LWhileSheLooks$Scene;II)I" } : Jvm.MethodName)) ∈ TB := TB_of 630 (by decide +kernel) (by decide +kernel)
theorem w_631 : (Jvm.Cond.selects "WhileSheLooks$Turns" ({ cls := "WhileSheLooks$Turns", name := "step", desc := "(LWhileSheLooks$Scene;II)I" } : Jvm.MethodName) ({ cls := "WhileSheLooks$Turns", name := "step", desc := "(LWhileSheLooks$Scene;II)I" } : Jvm.MethodName)) ∈ TB := TB_of 631 (by decide +kernel) (by decide +kernel)
theorem w_632 : (Jvm.Cond.code ({ cls := "WhileSheLooks$Turns", name := "step", desc := "(LWhileSheLooks$Scene;II)I" } : Jvm.MethodName) prog_11_method_3_code (6 : Nat) (Option.some Jvm.ClassFile.FieldType.int)) ∈ TB := TB_of 632 (by decide +kernel) (by decide +kernel)
theorem w_633 : (Jvm.Cond.methodLink "WhileSheLooks$Turns" (86 : Nat) ({ cls := "WhileSheLooks$Turns", name := "foresee", desc := "(LWhileSheLooks$Scene;)V" } : Jvm.MethodName)) ∈ TB := TB_of 633 (by decide +kernel) (by decide +kernel)
theorem w_634 : (Jvm.Cond.methodLink "WhileSheLooks$Turns" (90 : Nat) ({ cls := "WhileSheLooks$Scene", name := "has", desc := "(I)Z" } : Jvm.MethodName)) ∈ TB := TB_of 634 (by decide +kernel) (by decide +kernel)
theorem w_635 : (Jvm.Cond.methodLink "WhileSheLooks$Turns" (94 : Nat) ({ cls := "WhileSheLooks$Turns", name := "goOn", desc := "(LWhileSheLooks$Scene;)V" } : Jvm.MethodName)) ∈ TB := TB_of 635 (by decide +kernel) (by decide +kernel)
theorem w_636 : (Jvm.Cond.instanceMethod ({ cls := "WhileSheLooks$Turns", name := "goOn", desc := "(LWhileSheLooks$Scene;)V" } : Jvm.MethodName)) ∈ TB := TB_of 636 (by decide +kernel) (by decide +kernel)
theorem w_637 : (Jvm.Cond.selects "WhileSheLooks$Turns" ({ cls := "WhileSheLooks$Turns", name := "goOn", desc := "(LWhileSheLooks$Scene;)V" } : Jvm.MethodName) ({ cls := "WhileSheLooks$Turns", name := "goOn", desc := "(LWhileSheLooks$Scene;)V" } : Jvm.MethodName)) ∈ TB := TB_of 637 (by decide +kernel) (by decide +kernel)
theorem w_638 : (Jvm.Cond.code ({ cls := "WhileSheLooks$Turns", name := "goOn", desc := "(LWhileSheLooks$Scene;)V" } : Jvm.MethodName) prog_11_method_4_code (3 : Nat) (Option.none : Option Jvm.ClassFile.FieldType)) ∈ TB := TB_of 638 (by decide +kernel) (by decide +kernel)
theorem w_639 : (Jvm.Cond.methodLink "WhileSheLooks$Turns" (104 : Nat) ({ cls := "WhileSheLooks$Scene", name := "isAtWall", desc := "(I)Z" } : Jvm.MethodName)) ∈ TB := TB_of 639 (by decide +kernel) (by decide +kernel)
theorem w_640 : (Jvm.Cond.methodLink "WhileSheLooks$Turns" (97 : Nat) ({ cls := "WhileSheLooks$Turns", name := "whoIsSentBack", desc := "(LWhileSheLooks$Scene;I)I" } : Jvm.MethodName)) ∈ TB := TB_of 640 (by decide +kernel) (by decide +kernel)
theorem w_641 : (Jvm.Cond.instanceMethod ({ cls := "WhileSheLooks$Turns", name := "whoIsSentBack", desc := "(LWhileSheLooks$Scene;I)I" } : Jvm.MethodName)) ∈ TB := TB_of 641 (by decide +kernel) (by decide +kernel)
theorem w_642 : (Jvm.Cond.selects "WhileSheLooks$Turns" ({ cls := "WhileSheLooks$Turns", name := "whoIsSentBack", desc := "(LWhileSheLooks$Scene;I)I" } : Jvm.MethodName) ({ cls := "WhileSheLooks$Turns", name := "whoIsSentBack", desc := "(LWhileSheLooks$Scene;I)I" } : Jvm.MethodName)) ∈ TB := TB_of 642 (by decide +kernel) (by decide +kernel)
theorem w_643 : (Jvm.Cond.code ({ cls := "WhileSheLooks$Turns", name := "whoIsSentBack", desc := "(LWhileSheLooks$Scene;I)I" } : Jvm.MethodName) prog_11_method_5_code (6 : Nat) (Option.some Jvm.ClassFile.FieldType.int)) ∈ TB := TB_of 643 (by decide +kernel) (by decide +kernel)
theorem w_644 : (Jvm.Cond.methodLink "WhileSheLooks$Turns" (116 : Nat) ({ cls := "WhileSheLooks$Turns", name := "lookedAtAhead", desc := "(LWhileSheLooks$Scene;I)I" } : Jvm.MethodName)) ∈ TB := TB_of 644 (by decide +kernel) (by decide +kernel)
theorem w_645 : (Jvm.Cond.instanceMethod ({ cls := "WhileSheLooks$Turns", name := "lookedAtAhead", desc := "(LWhileSheLooks$Scene;I)I" } : Jvm.MethodName)) ∈ TB := TB_of 645 (by decide +kernel) (by decide +kernel)
theorem w_646 : (Jvm.Cond.selects "WhileSheLooks$Turns" ({ cls := "WhileSheLooks$Turns", name := "lookedAtAhead", desc := "(LWhileSheLooks$Scene;I)I" } : Jvm.MethodName) ({ cls := "WhileSheLooks$Turns", name := "lookedAtAhead", desc := "(LWhileSheLooks$Scene;I)I" } : Jvm.MethodName)) ∈ TB := TB_of 646 (by decide +kernel) (by decide +kernel)
theorem w_647 : (Jvm.Cond.code ({ cls := "WhileSheLooks$Turns", name := "lookedAtAhead", desc := "(LWhileSheLooks$Scene;I)I" } : Jvm.MethodName) prog_11_method_6_code (6 : Nat) (Option.some Jvm.ClassFile.FieldType.int)) ∈ TB := TB_of 647 (by decide +kernel) (by decide +kernel)
theorem w_652 : (Jvm.Cond.methodLink "WhileSheLooks" (182 : Nat) ({ cls := "WhileSheLooks$Scene", name := "copyFrom", desc := "(LWhileSheLooks$Scene;)V" } : Jvm.MethodName)) ∈ TB := TB_of 652 (by decide +kernel) (by decide +kernel)
theorem w_653 : (Jvm.Cond.instanceMethod ({ cls := "WhileSheLooks$Scene", name := "copyFrom", desc := "(LWhileSheLooks$Scene;)V" } : Jvm.MethodName)) ∈ TB := TB_of 653 (by decide +kernel) (by decide +kernel)
theorem w_654 : (Jvm.Cond.selects "WhileSheLooks$Scene" ({ cls := "WhileSheLooks$Scene", name := "copyFrom", desc := "(LWhileSheLooks$Scene;)V" } : Jvm.MethodName) ({ cls := "WhileSheLooks$Scene", name := "copyFrom", desc := "(LWhileSheLooks$Scene;)V" } : Jvm.MethodName)) ∈ TB := TB_of 654 (by decide +kernel) (by decide +kernel)
theorem w_655 : (Jvm.Cond.code ({ cls := "WhileSheLooks$Scene", name := "copyFrom", desc := "(LWhileSheLooks$Scene;)V" } : Jvm.MethodName) prog_7_method_2_code (2 : Nat) (Option.none : Option Jvm.ClassFile.FieldType)) ∈ TB := TB_of 655 (by decide +kernel) (by decide +kernel)
theorem w_656 : (Jvm.Cond.methodLink "WhileSheLooks$Scene" (52 : Nat) ({ cls := "java/lang/System", name := "arraycopy", desc := "(Ljava/lang/Object;ILjava/lang/Object;II)V" } : Jvm.MethodName)) ∈ TB := TB_of 656 (by decide +kernel) (by decide +kernel)
theorem w_657 : (Jvm.Cond.static ({ cls := "java/lang/System", name := "arraycopy", desc := "(Ljava/lang/Object;ILjava/lang/Object;II)V" } : Jvm.MethodName)) ∈ TB := TB_of 657 (by decide +kernel) (by decide +kernel)
theorem w_658 : (Jvm.Cond.native ({ cls := "java/lang/System", name := "arraycopy", desc := "(Ljava/lang/Object;ILjava/lang/Object;II)V" } : Jvm.MethodName)) ∈ TB := TB_of 658 (by decide +kernel) (by decide +kernel)
theorem w_659 : (Jvm.Cond.methodLink "WhileSheLooks" (185 : Nat) ({ cls := "java/lang/Integer", name := "bitCount", desc := "(I)I" } : Jvm.MethodName)) ∈ TB := TB_of 659 (by decide +kernel) (by decide +kernel)
theorem w_660 : (Jvm.Cond.static ({ cls := "java/lang/Integer", name := "bitCount", desc := "(I)I" } : Jvm.MethodName)) ∈ TB := TB_of 660 (by decide +kernel) (by decide +kernel)
theorem w_661 : (Jvm.Cond.code ({ cls := "java/lang/Integer", name := "bitCount", desc := "(I)I" } : Jvm.MethodName) prog_16_method_49_code (1 : Nat) (Option.some Jvm.ClassFile.FieldType.int)) ∈ TB := TB_of 661 (by decide +kernel) (by decide +kernel)
theorem w_662 : (Jvm.Cond.constant "java/lang/Integer" (265 : Nat) (1431655765 : Int32)) ∈ TB := TB_of 662 (by decide +kernel) (by decide +kernel)
theorem w_663 : (Jvm.Cond.constant "java/lang/Integer" (266 : Nat) (858993459 : Int32)) ∈ TB := TB_of 663 (by decide +kernel) (by decide +kernel)
theorem w_664 : (Jvm.Cond.constant "java/lang/Integer" (267 : Nat) (252645135 : Int32)) ∈ TB := TB_of 664 (by decide +kernel) (by decide +kernel)
theorem w_669 : (Jvm.Cond.methodLink "WhileSheLooks" (190 : Nat) ({ cls := "WhileSheLooks$Turns", name := "untilWall", desc := "(LWhileSheLooks$Scene;I)I" } : Jvm.MethodName)) ∈ TB := TB_of 669 (by decide +kernel) (by decide +kernel)
theorem w_670 : (Jvm.Cond.instanceMethod ({ cls := "WhileSheLooks$Turns", name := "untilWall", desc := "(LWhileSheLooks$Scene;I)I" } : Jvm.MethodName)) ∈ TB := TB_of 670 (by decide +kernel) (by decide +kernel)
theorem w_671 : (Jvm.Cond.selects "WhileSheLooks$Turns" ({ cls := "WhileSheLooks$Turns", name := "untilWall", desc := "(LWhileSheLooks$Scene;I)I" } : Jvm.MethodName) ({ cls := "WhileSheLooks$Turns", name := "untilWall", desc := "(LWhileSheLooks$Scene;I)I" } : Jvm.MethodName)) ∈ TB := TB_of 671 (by decide +kernel) (by decide +kernel)
theorem w_672 : (Jvm.Cond.code ({ cls := "WhileSheLooks$Turns", name := "untilWall", desc := "(LWhileSheLooks$Scene;I)I" } : Jvm.MethodName) prog_11_method_8_code (4 : Nat) (Option.some Jvm.ClassFile.FieldType.int)) ∈ TB := TB_of 672 (by decide +kernel) (by decide +kernel)
theorem w_677 : (Jvm.Cond.methodLink "WhileSheLooks" (193 : Nat) ({ cls := "WhileSheLooks$Scene", name := "everybody", desc := "()I" } : Jvm.MethodName)) ∈ TB := TB_of 677 (by decide +kernel) (by decide +kernel)
theorem w_678 : (Jvm.Cond.instanceMethod ({ cls := "WhileSheLooks$Scene", name := "everybody", desc := "()I" } : Jvm.MethodName)) ∈ TB := TB_of 678 (by decide +kernel) (by decide +kernel)
theorem w_679 : (Jvm.Cond.selects "WhileSheLooks$Scene" ({ cls := "WhileSheLooks$Scene", name := "everybody", desc := "()I" } : Jvm.MethodName) ({ cls := "WhileSheLooks$Scene", name := "everybody", desc := "()I" } : Jvm.MethodName)) ∈ TB := TB_of 679 (by decide +kernel) (by decide +kernel)
theorem w_680 : (Jvm.Cond.code ({ cls := "WhileSheLooks$Scene", name := "everybody", desc := "()I" } : Jvm.MethodName) prog_7_method_5_code (1 : Nat) (Option.some Jvm.ClassFile.FieldType.int)) ∈ TB := TB_of 680 (by decide +kernel) (by decide +kernel)
theorem w_697 : (Jvm.Cond.methodLink "WhileSheLooks" (197 : Nat) ({ cls := "WhileSheLooks", name := "namesEachPlace", desc := "(I)Z" } : Jvm.MethodName)) ∈ TB := TB_of 697 (by decide +kernel) (by decide +kernel)
theorem w_698 : (Jvm.Cond.static ({ cls := "WhileSheLooks", name := "namesEachPlace", desc := "(I)Z" } : Jvm.MethodName)) ∈ TB := TB_of 698 (by decide +kernel) (by decide +kernel)
theorem w_699 : (Jvm.Cond.code ({ cls := "WhileSheLooks", name := "namesEachPlace", desc := "(I)Z" } : Jvm.MethodName) prog_1_method_43_code (3 : Nat) (Option.some Jvm.ClassFile.FieldType.boolean)) ∈ TB := TB_of 699 (by decide +kernel) (by decide +kernel)
theorem w_700 : (Jvm.Cond.methodLink "WhileSheLooks" (200 : Nat) ({ cls := "WhileSheLooks", name := "placeIn", desc := "(II)I" } : Jvm.MethodName)) ∈ TB := TB_of 700 (by decide +kernel) (by decide +kernel)
theorem w_701 : (Jvm.Cond.static ({ cls := "WhileSheLooks", name := "placeIn", desc := "(II)I" } : Jvm.MethodName)) ∈ TB := TB_of 701 (by decide +kernel) (by decide +kernel)
theorem w_702 : (Jvm.Cond.code ({ cls := "WhileSheLooks", name := "placeIn", desc := "(II)I" } : Jvm.MethodName) prog_1_method_42_code (2 : Nat) (Option.some Jvm.ClassFile.FieldType.int)) ∈ TB := TB_of 702 (by decide +kernel) (by decide +kernel)
theorem w_707 : (Jvm.Cond.methodLink "WhileSheLooks" (203 : Nat) ({ cls := "WhileSheLooks$Turns", name := "step", desc := "(LWhileSheLooks$Scene;II)I" } : Jvm.MethodName)) ∈ TB := TB_of 707 (by decide +kernel) (by decide +kernel)
theorem w_724 : (Jvm.Cond.methodLink "WhileSheLooks" (210 : Nat) ({ cls := "WhileSheLooks$Scene", name := "addSeen", desc := "(III)I" } : Jvm.MethodName)) ∈ TB := TB_of 724 (by decide +kernel) (by decide +kernel)
theorem w_725 : (Jvm.Cond.instanceMethod ({ cls := "WhileSheLooks$Scene", name := "addSeen", desc := "(III)I" } : Jvm.MethodName)) ∈ TB := TB_of 725 (by decide +kernel) (by decide +kernel)
theorem w_726 : (Jvm.Cond.selects "WhileSheLooks$Scene" ({ cls := "WhileSheLooks$Scene", name := "addSeen", desc := "(III)I" } : Jvm.MethodName) ({ cls := "WhileSheLooks$Scene", name := "addSeen", desc := "(III)I" } : Jvm.MethodName)) ∈ TB := TB_of 726 (by decide +kernel) (by decide +kernel)
theorem w_727 : (Jvm.Cond.code ({ cls := "WhileSheLooks$Scene", name := "addSeen", desc := "(III)I" } : Jvm.MethodName) prog_7_method_9_code (4 : Nat) (Option.some Jvm.ClassFile.FieldType.int)) ∈ TB := TB_of 727 (by decide +kernel) (by decide +kernel)
theorem w_732 : (Jvm.Cond.methodLink "WhileSheLooks" (214 : Nat) ({ cls := "WhileSheLooks", name := "allSeenIsSo", desc := "()Z" } : Jvm.MethodName)) ∈ TB := TB_of 732 (by decide +kernel) (by decide +kernel)
theorem w_734 : (Jvm.Cond.instanceMethod ({ cls := "WhileSheLooks", name := "allSeenIsSo", desc := "()Z" } : Jvm.MethodName)) ∈ TB := TB_of 734 (by decide +kernel) (by decide +kernel)
theorem w_735 : (Jvm.Cond.code ({ cls := "WhileSheLooks", name := "allSeenIsSo", desc := "()Z" } : Jvm.MethodName) prog_1_method_44_code (4 : Nat) (Option.some Jvm.ClassFile.FieldType.boolean)) ∈ TB := TB_of 735 (by decide +kernel) (by decide +kernel)
theorem w_744 : (Jvm.Cond.constantLong "WhileSheLooks" (218 : Nat) (-9223372036854775808 : Int64)) ∈ TB := TB_of 744 (by decide +kernel) (by decide +kernel)
theorem w_745 : (Jvm.Cond.methodLink "WhileSheLooks" (220 : Nat) ({ cls := "WhileSheLooks", name := "partOfFraction", desc := "(III)J" } : Jvm.MethodName)) ∈ TB := TB_of 745 (by decide +kernel) (by decide +kernel)
theorem w_746 : (Jvm.Cond.static ({ cls := "WhileSheLooks", name := "partOfFraction", desc := "(III)J" } : Jvm.MethodName)) ∈ TB := TB_of 746 (by decide +kernel) (by decide +kernel)
theorem w_747 : (Jvm.Cond.code ({ cls := "WhileSheLooks", name := "partOfFraction", desc := "(III)J" } : Jvm.MethodName) prog_1_method_45_code (5 : Nat) (Option.some Jvm.ClassFile.FieldType.long)) ∈ TB := TB_of 747 (by decide +kernel) (by decide +kernel)
theorem w_756 : (Jvm.Cond.methodLink "WhileSheLooks" (227 : Nat) ({ cls := "WhileSheLooks$Scene", name := "addToBook", desc := "(II)I" } : Jvm.MethodName)) ∈ TB := TB_of 756 (by decide +kernel) (by decide +kernel)
theorem w_757 : (Jvm.Cond.instanceMethod ({ cls := "WhileSheLooks$Scene", name := "addToBook", desc := "(II)I" } : Jvm.MethodName)) ∈ TB := TB_of 757 (by decide +kernel) (by decide +kernel)
theorem w_758 : (Jvm.Cond.selects "WhileSheLooks$Scene" ({ cls := "WhileSheLooks$Scene", name := "addToBook", desc := "(II)I" } : Jvm.MethodName) ({ cls := "WhileSheLooks$Scene", name := "addToBook", desc := "(II)I" } : Jvm.MethodName)) ∈ TB := TB_of 758 (by decide +kernel) (by decide +kernel)
theorem w_759 : (Jvm.Cond.code ({ cls := "WhileSheLooks$Scene", name := "addToBook", desc := "(II)I" } : Jvm.MethodName) prog_7_method_10_code (3 : Nat) (Option.some Jvm.ClassFile.FieldType.int)) ∈ TB := TB_of 759 (by decide +kernel) (by decide +kernel)
theorem w_768 : (Jvm.Cond.methodLink "WhileSheLooks" (236 : Nat) ({ cls := "WhileSheLooks", name := "isTape", desc := "(I)Z" } : Jvm.MethodName)) ∈ TB := TB_of 768 (by decide +kernel) (by decide +kernel)
theorem w_769 : (Jvm.Cond.static ({ cls := "WhileSheLooks", name := "isTape", desc := "(I)Z" } : Jvm.MethodName)) ∈ TB := TB_of 769 (by decide +kernel) (by decide +kernel)
theorem w_770 : (Jvm.Cond.code ({ cls := "WhileSheLooks", name := "isTape", desc := "(I)Z" } : Jvm.MethodName) prog_1_method_41_code (1 : Nat) (Option.some Jvm.ClassFile.FieldType.boolean)) ∈ TB := TB_of 770 (by decide +kernel) (by decide +kernel)
theorem w_783 : (Jvm.Cond.methodLink "WhileSheLooks" (251 : Nat) ({ cls := "WhileSheLooks$Child", name := "running", desc := "(LWhileSheLooks$Acts;I)I" } : Jvm.MethodName)) ∈ TB := TB_of 783 (by decide +kernel) (by decide +kernel)
theorem w_784 : (Jvm.Cond.instanceMethod ({ cls := "WhileSheLooks$Child", name := "running", desc := "(LWhileSheLooks$Acts;I)I" } : Jvm.MethodName)) ∈ TB := TB_of 784 (by decide +kernel) (by decide +kernel)
theorem w_785 : (Jvm.Cond.selects "WhileSheLooks$Child" ({ cls := "WhileSheLooks$Child", name := "running", desc := "(LWhileSheLooks$Acts;I)I" } : Jvm.MethodName) ({ cls := "WhileSheLooks$Child", name := "running", desc := "(LWhileSheLooks$Acts;I)I" } : Jvm.MethodName)) ∈ TB := TB_of 785 (by decide +kernel) (by decide +kernel)
theorem w_786 : (Jvm.Cond.sameMethod "WhileSheLooks$Child" "WhileSheLooks$Child" "running" "(LWhileSheLooks$Acts;I)I") ∈ TB := TB_of 786 (by decide +kernel) (by decide +kernel)
theorem w_787 : (Jvm.Cond.selects "WhileSheLooks$Careful" ({ cls := "WhileSheLooks$Child", name := "running", desc := "(LWhileSheLooks$Acts;I)I" } : Jvm.MethodName) ({ cls := "WhileSheLooks$Steady", name := "running", desc := "(LWhileSheLooks$Acts;I)I" } : Jvm.MethodName)) ∈ TB := TB_of 787 (by decide +kernel) (by decide +kernel)
theorem w_788 : (Jvm.Cond.instanceMethod ({ cls := "WhileSheLooks$Steady", name := "running", desc := "(LWhileSheLooks$Acts;I)I" } : Jvm.MethodName)) ∈ TB := TB_of 788 (by decide +kernel) (by decide +kernel)
theorem w_789 : (Jvm.Cond.code ({ cls := "WhileSheLooks$Steady", name := "running", desc := "(LWhileSheLooks$Acts;I)I" } : Jvm.MethodName) prog_9_method_3_code (3 : Nat) (Option.some Jvm.ClassFile.FieldType.int)) ∈ TB := TB_of 789 (by decide +kernel) (by decide +kernel)
theorem w_790 : (Jvm.Cond.methodLink "WhileSheLooks$Steady" (17 : Nat) ({ cls := "WhileSheLooks$Acts", name := "begin", desc := "(I)V" } : Jvm.MethodName)) ∈ TB := TB_of 790 (by decide +kernel) (by decide +kernel)
theorem w_791 : (Jvm.Cond.instanceMethod ({ cls := "WhileSheLooks$Acts", name := "begin", desc := "(I)V" } : Jvm.MethodName)) ∈ TB := TB_of 791 (by decide +kernel) (by decide +kernel)
theorem w_792 : (Jvm.Cond.selects "WhileSheLooks$Acts" ({ cls := "WhileSheLooks$Acts", name := "begin", desc := "(I)V" } : Jvm.MethodName) ({ cls := "WhileSheLooks$Acts", name := "begin", desc := "(I)V" } : Jvm.MethodName)) ∈ TB := TB_of 792 (by decide +kernel) (by decide +kernel)
theorem w_793 : (Jvm.Cond.code ({ cls := "WhileSheLooks$Acts", name := "begin", desc := "(I)V" } : Jvm.MethodName) prog_2_method_2_code (2 : Nat) (Option.none : Option Jvm.ClassFile.FieldType)) ∈ TB := TB_of 793 (by decide +kernel) (by decide +kernel)
theorem w_794 : (Jvm.Cond.methodLink "WhileSheLooks$Steady" (23 : Nat) ({ cls := "WhileSheLooks$Child", name := "running", desc := "(LWhileSheLooks$Acts;I)I" } : Jvm.MethodName)) ∈ TB := TB_of 794 (by decide +kernel) (by decide +kernel)
theorem w_795 : (Jvm.Cond.selects "WhileSheLooks$Quick" ({ cls := "WhileSheLooks$Child", name := "running", desc := "(LWhileSheLooks$Acts;I)I" } : Jvm.MethodName) ({ cls := "WhileSheLooks$Child", name := "running", desc := "(LWhileSheLooks$Acts;I)I" } : Jvm.MethodName)) ∈ TB := TB_of 795 (by decide +kernel) (by decide +kernel)
theorem w_796 : (Jvm.Cond.selects "WhileSheLooks$Reckless" ({ cls := "WhileSheLooks$Child", name := "running", desc := "(LWhileSheLooks$Acts;I)I" } : Jvm.MethodName) ({ cls := "WhileSheLooks$Reckless", name := "running", desc := "(LWhileSheLooks$Acts;I)I" } : Jvm.MethodName)) ∈ TB := TB_of 796 (by decide +kernel) (by decide +kernel)
theorem w_797 : (Jvm.Cond.instanceMethod ({ cls := "WhileSheLooks$Reckless", name := "running", desc := "(LWhileSheLooks$Acts;I)I" } : Jvm.MethodName)) ∈ TB := TB_of 797 (by decide +kernel) (by decide +kernel)
theorem w_798 : (Jvm.Cond.code ({ cls := "WhileSheLooks$Reckless", name := "running", desc := "(LWhileSheLooks$Acts;I)I" } : Jvm.MethodName) prog_6_method_4_code (3 : Nat) (Option.some Jvm.ClassFile.FieldType.int)) ∈ TB := TB_of 798 (by decide +kernel) (by decide +kernel)
theorem w_799 : (Jvm.Cond.methodLink "WhileSheLooks$Reckless" (15 : Nat) ({ cls := "WhileSheLooks$Acts", name := "begin", desc := "(I)V" } : Jvm.MethodName)) ∈ TB := TB_of 799 (by decide +kernel) (by decide +kernel)
theorem w_800 : (Jvm.Cond.methodLink "WhileSheLooks$Reckless" (21 : Nat) ({ cls := "WhileSheLooks$Quick", name := "running", desc := "(LWhileSheLooks$Acts;I)I" } : Jvm.MethodName)) ∈ TB := TB_of 800 (by decide +kernel) (by decide +kernel)
theorem w_801 : (Jvm.Cond.sameMethod "WhileSheLooks$Quick" "WhileSheLooks$Child" "running" "(LWhileSheLooks$Acts;I)I") ∈ TB := TB_of 801 (by decide +kernel) (by decide +kernel)
theorem w_803 : (Jvm.Cond.selects "WhileSheLooks$Small" ({ cls := "WhileSheLooks$Child", name := "running", desc := "(LWhileSheLooks$Acts;I)I" } : Jvm.MethodName) ({ cls := "WhileSheLooks$Child", name := "running", desc := "(LWhileSheLooks$Acts;I)I" } : Jvm.MethodName)) ∈ TB := TB_of 803 (by decide +kernel) (by decide +kernel)
theorem w_804 : (Jvm.Cond.selects "WhileSheLooks$Steady" ({ cls := "WhileSheLooks$Child", name := "running", desc := "(LWhileSheLooks$Acts;I)I" } : Jvm.MethodName) ({ cls := "WhileSheLooks$Steady", name := "running", desc := "(LWhileSheLooks$Acts;I)I" } : Jvm.MethodName)) ∈ TB := TB_of 804 (by decide +kernel) (by decide +kernel)
theorem w_805 : (Jvm.Cond.selects "WhileSheLooks$Told" ({ cls := "WhileSheLooks$Child", name := "running", desc := "(LWhileSheLooks$Acts;I)I" } : Jvm.MethodName) ({ cls := "WhileSheLooks$Told", name := "running", desc := "(LWhileSheLooks$Acts;I)I" } : Jvm.MethodName)) ∈ TB := TB_of 805 (by decide +kernel) (by decide +kernel)
theorem w_806 : (Jvm.Cond.instanceMethod ({ cls := "WhileSheLooks$Told", name := "running", desc := "(LWhileSheLooks$Acts;I)I" } : Jvm.MethodName)) ∈ TB := TB_of 806 (by decide +kernel) (by decide +kernel)
theorem w_807 : (Jvm.Cond.code ({ cls := "WhileSheLooks$Told", name := "running", desc := "(LWhileSheLooks$Acts;I)I" } : Jvm.MethodName) prog_10_method_3_code (3 : Nat) (Option.some Jvm.ClassFile.FieldType.int)) ∈ TB := TB_of 807 (by decide +kernel) (by decide +kernel)
theorem w_808 : (Jvm.Cond.methodLink "WhileSheLooks$Told" (11 : Nat) ({ cls := "WhileSheLooks$Acts", name := "begin", desc := "(I)V" } : Jvm.MethodName)) ∈ TB := TB_of 808 (by decide +kernel) (by decide +kernel)
theorem w_809 : (Jvm.Cond.methodLink "WhileSheLooks$Told" (17 : Nat) ({ cls := "WhileSheLooks$Small", name := "running", desc := "(LWhileSheLooks$Acts;I)I" } : Jvm.MethodName)) ∈ TB := TB_of 809 (by decide +kernel) (by decide +kernel)
theorem w_810 : (Jvm.Cond.sameMethod "WhileSheLooks$Small" "WhileSheLooks$Child" "running" "(LWhileSheLooks$Acts;I)I") ∈ TB := TB_of 810 (by decide +kernel) (by decide +kernel)
theorem w_811 : (Jvm.Cond.code ({ cls := "WhileSheLooks$Child", name := "running", desc := "(LWhileSheLooks$Acts;I)I" } : Jvm.MethodName) prog_4_method_4_code (3 : Nat) (Option.some Jvm.ClassFile.FieldType.int)) ∈ TB := TB_of 811 (by decide +kernel) (by decide +kernel)
theorem w_812 : (Jvm.Cond.methodLink "WhileSheLooks$Child" (13 : Nat) ({ cls := "WhileSheLooks$Acts", name := "begin", desc := "(I)V" } : Jvm.MethodName)) ∈ TB := TB_of 812 (by decide +kernel) (by decide +kernel)
theorem w_813 : (Jvm.Cond.methodLink "WhileSheLooks" (255 : Nat) ({ cls := "WhileSheLooks$Child", name := "standing", desc := "(LWhileSheLooks$Acts;I)I" } : Jvm.MethodName)) ∈ TB := TB_of 813 (by decide +kernel) (by decide +kernel)
theorem w_814 : (Jvm.Cond.instanceMethod ({ cls := "WhileSheLooks$Child", name := "standing", desc := "(LWhileSheLooks$Acts;I)I" } : Jvm.MethodName)) ∈ TB := TB_of 814 (by decide +kernel) (by decide +kernel)
theorem w_815 : (Jvm.Cond.selects "WhileSheLooks$Child" ({ cls := "WhileSheLooks$Child", name := "standing", desc := "(LWhileSheLooks$Acts;I)I" } : Jvm.MethodName) ({ cls := "WhileSheLooks$Child", name := "standing", desc := "(LWhileSheLooks$Acts;I)I" } : Jvm.MethodName)) ∈ TB := TB_of 815 (by decide +kernel) (by decide +kernel)
theorem w_816 : (Jvm.Cond.sameMethod "WhileSheLooks$Child" "WhileSheLooks$Child" "standing" "(LWhileSheLooks$Acts;I)I") ∈ TB := TB_of 816 (by decide +kernel) (by decide +kernel)
theorem w_817 : (Jvm.Cond.selects "WhileSheLooks$Careful" ({ cls := "WhileSheLooks$Child", name := "standing", desc := "(LWhileSheLooks$Acts;I)I" } : Jvm.MethodName) ({ cls := "WhileSheLooks$Child", name := "standing", desc := "(LWhileSheLooks$Acts;I)I" } : Jvm.MethodName)) ∈ TB := TB_of 817 (by decide +kernel) (by decide +kernel)
theorem w_818 : (Jvm.Cond.selects "WhileSheLooks$Quick" ({ cls := "WhileSheLooks$Child", name := "standing", desc := "(LWhileSheLooks$Acts;I)I" } : Jvm.MethodName) ({ cls := "WhileSheLooks$Quick", name := "standing", desc := "(LWhileSheLooks$Acts;I)I" } : Jvm.MethodName)) ∈ TB := TB_of 818 (by decide +kernel) (by decide +kernel)
theorem w_819 : (Jvm.Cond.instanceMethod ({ cls := "WhileSheLooks$Quick", name := "standing", desc := "(LWhileSheLooks$Acts;I)I" } : Jvm.MethodName)) ∈ TB := TB_of 819 (by decide +kernel) (by decide +kernel)
theorem w_820 : (Jvm.Cond.code ({ cls := "WhileSheLooks$Quick", name := "standing", desc := "(LWhileSheLooks$Acts;I)I" } : Jvm.MethodName) prog_5_method_3_code (3 : Nat) (Option.some Jvm.ClassFile.FieldType.int)) ∈ TB := TB_of 820 (by decide +kernel) (by decide +kernel)
theorem w_821 : (Jvm.Cond.methodLink "WhileSheLooks$Quick" (11 : Nat) ({ cls := "WhileSheLooks$Acts", name := "begin", desc := "(I)V" } : Jvm.MethodName)) ∈ TB := TB_of 821 (by decide +kernel) (by decide +kernel)
theorem w_822 : (Jvm.Cond.methodLink "WhileSheLooks$Quick" (17 : Nat) ({ cls := "WhileSheLooks$Child", name := "standing", desc := "(LWhileSheLooks$Acts;I)I" } : Jvm.MethodName)) ∈ TB := TB_of 822 (by decide +kernel) (by decide +kernel)
theorem w_823 : (Jvm.Cond.selects "WhileSheLooks$Reckless" ({ cls := "WhileSheLooks$Child", name := "standing", desc := "(LWhileSheLooks$Acts;I)I" } : Jvm.MethodName) ({ cls := "WhileSheLooks$Reckless", name := "standing", desc := "(LWhileSheLooks$Acts;I)I" } : Jvm.MethodName)) ∈ TB := TB_of 823 (by decide +kernel) (by decide +kernel)
theorem w_824 : (Jvm.Cond.instanceMethod ({ cls := "WhileSheLooks$Reckless", name := "standing", desc := "(LWhileSheLooks$Acts;I)I" } : Jvm.MethodName)) ∈ TB := TB_of 824 (by decide +kernel) (by decide +kernel)
theorem w_825 : (Jvm.Cond.code ({ cls := "WhileSheLooks$Reckless", name := "standing", desc := "(LWhileSheLooks$Acts;I)I" } : Jvm.MethodName) prog_6_method_5_code (3 : Nat) (Option.some Jvm.ClassFile.FieldType.int)) ∈ TB := TB_of 825 (by decide +kernel) (by decide +kernel)
theorem w_826 : (Jvm.Cond.methodLink "WhileSheLooks$Reckless" (25 : Nat) ({ cls := "WhileSheLooks$Quick", name := "standing", desc := "(LWhileSheLooks$Acts;I)I" } : Jvm.MethodName)) ∈ TB := TB_of 826 (by decide +kernel) (by decide +kernel)
theorem w_827 : (Jvm.Cond.selects "WhileSheLooks$Small" ({ cls := "WhileSheLooks$Child", name := "standing", desc := "(LWhileSheLooks$Acts;I)I" } : Jvm.MethodName) ({ cls := "WhileSheLooks$Child", name := "standing", desc := "(LWhileSheLooks$Acts;I)I" } : Jvm.MethodName)) ∈ TB := TB_of 827 (by decide +kernel) (by decide +kernel)
theorem w_828 : (Jvm.Cond.selects "WhileSheLooks$Steady" ({ cls := "WhileSheLooks$Child", name := "standing", desc := "(LWhileSheLooks$Acts;I)I" } : Jvm.MethodName) ({ cls := "WhileSheLooks$Child", name := "standing", desc := "(LWhileSheLooks$Acts;I)I" } : Jvm.MethodName)) ∈ TB := TB_of 828 (by decide +kernel) (by decide +kernel)
theorem w_829 : (Jvm.Cond.selects "WhileSheLooks$Told" ({ cls := "WhileSheLooks$Child", name := "standing", desc := "(LWhileSheLooks$Acts;I)I" } : Jvm.MethodName) ({ cls := "WhileSheLooks$Told", name := "standing", desc := "(LWhileSheLooks$Acts;I)I" } : Jvm.MethodName)) ∈ TB := TB_of 829 (by decide +kernel) (by decide +kernel)
theorem w_830 : (Jvm.Cond.instanceMethod ({ cls := "WhileSheLooks$Told", name := "standing", desc := "(LWhileSheLooks$Acts;I)I" } : Jvm.MethodName)) ∈ TB := TB_of 830 (by decide +kernel) (by decide +kernel)
theorem w_831 : (Jvm.Cond.code ({ cls := "WhileSheLooks$Told", name := "standing", desc := "(LWhileSheLooks$Acts;I)I" } : Jvm.MethodName) prog_10_method_4_code (3 : Nat) (Option.some Jvm.ClassFile.FieldType.int)) ∈ TB := TB_of 831 (by decide +kernel) (by decide +kernel)
theorem w_832 : (Jvm.Cond.methodLink "WhileSheLooks$Told" (25 : Nat) ({ cls := "WhileSheLooks$Small", name := "standing", desc := "(LWhileSheLooks$Acts;I)I" } : Jvm.MethodName)) ∈ TB := TB_of 832 (by decide +kernel) (by decide +kernel)
theorem w_833 : (Jvm.Cond.sameMethod "WhileSheLooks$Small" "WhileSheLooks$Child" "standing" "(LWhileSheLooks$Acts;I)I") ∈ TB := TB_of 833 (by decide +kernel) (by decide +kernel)
theorem w_835 : (Jvm.Cond.code ({ cls := "WhileSheLooks$Child", name := "standing", desc := "(LWhileSheLooks$Acts;I)I" } : Jvm.MethodName) prog_4_method_5_code (3 : Nat) (Option.some Jvm.ClassFile.FieldType.int)) ∈ TB := TB_of 835 (by decide +kernel) (by decide +kernel)
theorem w_836 : (Jvm.Cond.methodLink "WhileSheLooks$Child" (23 : Nat) ({ cls := "WhileSheLooks$Child", name := "running", desc := "(LWhileSheLooks$Acts;I)I" } : Jvm.MethodName)) ∈ TB := TB_of 836 (by decide +kernel) (by decide +kernel)
theorem w_837 : (Jvm.Cond.methodLink "WhileSheLooks" (258 : Nat) ({ cls := "WhileSheLooks$Child", name := "telling", desc := "(LWhileSheLooks$Acts;I)I" } : Jvm.MethodName)) ∈ TB := TB_of 837 (by decide +kernel) (by decide +kernel)
theorem w_838 : (Jvm.Cond.instanceMethod ({ cls := "WhileSheLooks$Child", name := "telling", desc := "(LWhileSheLooks$Acts;I)I" } : Jvm.MethodName)) ∈ TB := TB_of 838 (by decide +kernel) (by decide +kernel)
theorem w_839 : (Jvm.Cond.selects "WhileSheLooks$Child" ({ cls := "WhileSheLooks$Child", name := "telling", desc := "(LWhileSheLooks$Acts;I)I" } : Jvm.MethodName) ({ cls := "WhileSheLooks$Child", name := "telling", desc := "(LWhileSheLooks$Acts;I)I" } : Jvm.MethodName)) ∈ TB := TB_of 839 (by decide +kernel) (by decide +kernel)
theorem w_840 : (Jvm.Cond.sameMethod "WhileSheLooks$Child" "WhileSheLooks$Child" "telling" "(LWhileSheLooks$Acts;I)I") ∈ TB := TB_of 840 (by decide +kernel) (by decide +kernel)
theorem w_841 : (Jvm.Cond.selects "WhileSheLooks$Careful" ({ cls := "WhileSheLooks$Child", name := "telling", desc := "(LWhileSheLooks$Acts;I)I" } : Jvm.MethodName) ({ cls := "WhileSheLooks$Careful", name := "telling", desc := "(LWhileSheLooks$Acts;I)I" } : Jvm.MethodName)) ∈ TB := TB_of 841 (by decide +kernel) (by decide +kernel)
theorem w_842 : (Jvm.Cond.instanceMethod ({ cls := "WhileSheLooks$Careful", name := "telling", desc := "(LWhileSheLooks$Acts;I)I" } : Jvm.MethodName)) ∈ TB := TB_of 842 (by decide +kernel) (by decide +kernel)
theorem w_843 : (Jvm.Cond.code ({ cls := "WhileSheLooks$Careful", name := "telling", desc := "(LWhileSheLooks$Acts;I)I" } : Jvm.MethodName) prog_3_method_4_code (3 : Nat) (Option.some Jvm.ClassFile.FieldType.int)) ∈ TB := TB_of 843 (by decide +kernel) (by decide +kernel)
theorem w_844 : (Jvm.Cond.methodLink "WhileSheLooks$Careful" (15 : Nat) ({ cls := "WhileSheLooks$Acts", name := "begin", desc := "(I)V" } : Jvm.MethodName)) ∈ TB := TB_of 844 (by decide +kernel) (by decide +kernel)
theorem w_845 : (Jvm.Cond.methodLink "WhileSheLooks$Careful" (25 : Nat) ({ cls := "WhileSheLooks$Steady", name := "telling", desc := "(LWhileSheLooks$Acts;I)I" } : Jvm.MethodName)) ∈ TB := TB_of 845 (by decide +kernel) (by decide +kernel)
theorem w_846 : (Jvm.Cond.sameMethod "WhileSheLooks$Steady" "WhileSheLooks$Child" "telling" "(LWhileSheLooks$Acts;I)I") ∈ TB := TB_of 846 (by decide +kernel) (by decide +kernel)
theorem w_848 : (Jvm.Cond.selects "WhileSheLooks$Quick" ({ cls := "WhileSheLooks$Child", name := "telling", desc := "(LWhileSheLooks$Acts;I)I" } : Jvm.MethodName) ({ cls := "WhileSheLooks$Child", name := "telling", desc := "(LWhileSheLooks$Acts;I)I" } : Jvm.MethodName)) ∈ TB := TB_of 848 (by decide +kernel) (by decide +kernel)
theorem w_849 : (Jvm.Cond.selects "WhileSheLooks$Reckless" ({ cls := "WhileSheLooks$Child", name := "telling", desc := "(LWhileSheLooks$Acts;I)I" } : Jvm.MethodName) ({ cls := "WhileSheLooks$Child", name := "telling", desc := "(LWhileSheLooks$Acts;I)I" } : Jvm.MethodName)) ∈ TB := TB_of 849 (by decide +kernel) (by decide +kernel)
theorem w_850 : (Jvm.Cond.selects "WhileSheLooks$Small" ({ cls := "WhileSheLooks$Child", name := "telling", desc := "(LWhileSheLooks$Acts;I)I" } : Jvm.MethodName) ({ cls := "WhileSheLooks$Small", name := "telling", desc := "(LWhileSheLooks$Acts;I)I" } : Jvm.MethodName)) ∈ TB := TB_of 850 (by decide +kernel) (by decide +kernel)
theorem w_851 : (Jvm.Cond.instanceMethod ({ cls := "WhileSheLooks$Small", name := "telling", desc := "(LWhileSheLooks$Acts;I)I" } : Jvm.MethodName)) ∈ TB := TB_of 851 (by decide +kernel) (by decide +kernel)
theorem w_852 : (Jvm.Cond.code ({ cls := "WhileSheLooks$Small", name := "telling", desc := "(LWhileSheLooks$Acts;I)I" } : Jvm.MethodName) prog_8_method_4_code (3 : Nat) (Option.some Jvm.ClassFile.FieldType.int)) ∈ TB := TB_of 852 (by decide +kernel) (by decide +kernel)
theorem w_853 : (Jvm.Cond.methodLink "WhileSheLooks$Small" (17 : Nat) ({ cls := "WhileSheLooks$Acts", name := "begin", desc := "(I)V" } : Jvm.MethodName)) ∈ TB := TB_of 853 (by decide +kernel) (by decide +kernel)
theorem w_854 : (Jvm.Cond.methodLink "WhileSheLooks$Small" (23 : Nat) ({ cls := "WhileSheLooks$Child", name := "telling", desc := "(LWhileSheLooks$Acts;I)I" } : Jvm.MethodName)) ∈ TB := TB_of 854 (by decide +kernel) (by decide +kernel)
theorem w_855 : (Jvm.Cond.methodLink "WhileSheLooks$Small" (27 : Nat) ({ cls := "WhileSheLooks$Small", name := "standing", desc := "(LWhileSheLooks$Acts;I)I" } : Jvm.MethodName)) ∈ TB := TB_of 855 (by decide +kernel) (by decide +kernel)
theorem w_856 : (Jvm.Cond.selects "WhileSheLooks$Small" ({ cls := "WhileSheLooks$Small", name := "standing", desc := "(LWhileSheLooks$Acts;I)I" } : Jvm.MethodName) ({ cls := "WhileSheLooks$Child", name := "standing", desc := "(LWhileSheLooks$Acts;I)I" } : Jvm.MethodName)) ∈ TB := TB_of 856 (by decide +kernel) (by decide +kernel)
theorem w_857 : (Jvm.Cond.selects "WhileSheLooks$Told" ({ cls := "WhileSheLooks$Small", name := "standing", desc := "(LWhileSheLooks$Acts;I)I" } : Jvm.MethodName) ({ cls := "WhileSheLooks$Told", name := "standing", desc := "(LWhileSheLooks$Acts;I)I" } : Jvm.MethodName)) ∈ TB := TB_of 857 (by decide +kernel) (by decide +kernel)
theorem w_858 : (Jvm.Cond.selects "WhileSheLooks$Steady" ({ cls := "WhileSheLooks$Child", name := "telling", desc := "(LWhileSheLooks$Acts;I)I" } : Jvm.MethodName) ({ cls := "WhileSheLooks$Child", name := "telling", desc := "(LWhileSheLooks$Acts;I)I" } : Jvm.MethodName)) ∈ TB := TB_of 858 (by decide +kernel) (by decide +kernel)
theorem w_859 : (Jvm.Cond.selects "WhileSheLooks$Told" ({ cls := "WhileSheLooks$Child", name := "telling", desc := "(LWhileSheLooks$Acts;I)I" } : Jvm.MethodName) ({ cls := "WhileSheLooks$Small", name := "telling", desc := "(LWhileSheLooks$Acts;I)I" } : Jvm.MethodName)) ∈ TB := TB_of 859 (by decide +kernel) (by decide +kernel)
theorem w_860 : (Jvm.Cond.code ({ cls := "WhileSheLooks$Child", name := "telling", desc := "(LWhileSheLooks$Acts;I)I" } : Jvm.MethodName) prog_4_method_6_code (3 : Nat) (Option.some Jvm.ClassFile.FieldType.int)) ∈ TB := TB_of 860 (by decide +kernel) (by decide +kernel)
theorem w_861 : (Jvm.Cond.methodLink "WhileSheLooks$Child" (32 : Nat) ({ cls := "WhileSheLooks$Child", name := "standing", desc := "(LWhileSheLooks$Acts;I)I" } : Jvm.MethodName)) ∈ TB := TB_of 861 (by decide +kernel) (by decide +kernel)
theorem w_870 : (Jvm.Cond.fieldLink "WhileSheLooks" (264 : Nat) "WhileSheLooks" "KIND_ABOVE" "[I") ∈ TB := TB_of 870 (by decide +kernel) (by decide +kernel)
theorem w_884 : (Jvm.Cond.methodLink "WhileSheLooks" (267 : Nat) ({ cls := "WhileSheLooks", name := "asItem", desc := "(IJ)J" } : Jvm.MethodName)) ∈ TB := TB_of 884 (by decide +kernel) (by decide +kernel)
theorem w_885 : (Jvm.Cond.static ({ cls := "WhileSheLooks", name := "asItem", desc := "(IJ)J" } : Jvm.MethodName)) ∈ TB := TB_of 885 (by decide +kernel) (by decide +kernel)
theorem w_886 : (Jvm.Cond.code ({ cls := "WhileSheLooks", name := "asItem", desc := "(IJ)J" } : Jvm.MethodName) prog_1_method_46_code (3 : Nat) (Option.some Jvm.ClassFile.FieldType.long)) ∈ TB := TB_of 886 (by decide +kernel) (by decide +kernel)
theorem w_895 : (Jvm.Cond.methodLink "WhileSheLooks" (271 : Nat) ({ cls := "java/lang/System", name := "arraycopy", desc := "(Ljava/lang/Object;ILjava/lang/Object;II)V" } : Jvm.MethodName)) ∈ TB := TB_of 895 (by decide +kernel) (by decide +kernel)
theorem w_896 : (Jvm.Cond.classLink "WhileSheLooksLaw" (10 : Nat) "WhileSheLooksModel") ∈ TB := TB_of 896 (by decide +kernel) (by decide +kernel)
theorem w_897 : (Jvm.Cond.instantiable "WhileSheLooksModel" (74 : Nat)) ∈ TB := TB_of 897 (by decide +kernel) (by decide +kernel)
theorem w_901 : (Jvm.Cond.methodLink "WhileSheLooksModel" (1 : Nat) ({ cls := "java/lang/Object", name := "<init>", desc := "()V" } : Jvm.MethodName)) ∈ TB := TB_of 901 (by decide +kernel) (by decide +kernel)
theorem w_902 : (Jvm.Cond.fieldLink "WhileSheLooksModel" (7 : Nat) "WhileSheLooksModel" "children" "I") ∈ TB := TB_of 902 (by decide +kernel) (by decide +kernel)
theorem w_903 : (Jvm.Cond.fieldLink "WhileSheLooksModel" (13 : Nat) "WhileSheLooksModel" "turns" "I") ∈ TB := TB_of 903 (by decide +kernel) (by decide +kernel)
theorem w_904 : (Jvm.Cond.fieldLink "WhileSheLooksModel" (16 : Nat) "WhileSheLooksModel" "wall" "I") ∈ TB := TB_of 904 (by decide +kernel) (by decide +kernel)
theorem w_905 : (Jvm.Cond.fieldLink "WhileSheLooksModel" (19 : Nat) "WhileSheLooksModel" "kind" "[I") ∈ TB := TB_of 905 (by decide +kernel) (by decide +kernel)
theorem w_906 : (Jvm.Cond.fieldLink "WhileSheLooksModel" (23 : Nat) "WhileSheLooksModel" "v" "[I") ∈ TB := TB_of 906 (by decide +kernel) (by decide +kernel)
theorem w_907 : (Jvm.Cond.fieldLink "WhileSheLooksModel" (26 : Nat) "WhileSheLooksModel" "come" "[I") ∈ TB := TB_of 907 (by decide +kernel) (by decide +kernel)
theorem w_908 : (Jvm.Cond.fieldLink "WhileSheLooksModel" (29 : Nat) "WhileSheLooksModel" "early" "[I") ∈ TB := TB_of 908 (by decide +kernel) (by decide +kernel)
theorem w_909 : (Jvm.Cond.fieldLink "WhileSheLooksModel" (32 : Nat) "WhileSheLooksModel" "sent" "[I") ∈ TB := TB_of 909 (by decide +kernel) (by decide +kernel)
theorem w_910 : (Jvm.Cond.fieldLink "WhileSheLooksModel" (35 : Nat) "WhileSheLooksModel" "rows" "[I") ∈ TB := TB_of 910 (by decide +kernel) (by decide +kernel)
theorem w_911 : (Jvm.Cond.fieldLink "WhileSheLooksModel" (38 : Nat) "WhileSheLooksModel" "count" "[I") ∈ TB := TB_of 911 (by decide +kernel) (by decide +kernel)
theorem w_912 : (Jvm.Cond.fieldLink "WhileSheLooksModel" (41 : Nat) "WhileSheLooksModel" "yards" "I") ∈ TB := TB_of 912 (by decide +kernel) (by decide +kernel)
theorem w_913 : (Jvm.Cond.fieldLink "WhileSheLooksModel" (44 : Nat) "WhileSheLooksModel" "the" "I") ∈ TB := TB_of 913 (by decide +kernel) (by decide +kernel)
theorem w_914 : (Jvm.Cond.fieldLink "WhileSheLooksModel" (47 : Nat) "WhileSheLooksModel" "fed" "I") ∈ TB := TB_of 914 (by decide +kernel) (by decide +kernel)
theorem w_915 : (Jvm.Cond.fieldLink "WhileSheLooksModel" (50 : Nat) "WhileSheLooksModel" "at" "I") ∈ TB := TB_of 915 (by decide +kernel) (by decide +kernel)
theorem w_916 : (Jvm.Cond.fieldLink "WhileSheLooksModel" (53 : Nat) "WhileSheLooksModel" "digits" "I") ∈ TB := TB_of 916 (by decide +kernel) (by decide +kernel)
theorem w_917 : (Jvm.Cond.fieldLink "WhileSheLooksModel" (56 : Nat) "WhileSheLooksModel" "text" "[I") ∈ TB := TB_of 917 (by decide +kernel) (by decide +kernel)
theorem w_918 : (Jvm.Cond.fieldLink "WhileSheLooksModel" (59 : Nat) "WhileSheLooksModel" "clauses" "[I") ∈ TB := TB_of 918 (by decide +kernel) (by decide +kernel)
theorem w_919 : (Jvm.Cond.fieldLink "WhileSheLooksModel" (62 : Nat) "WhileSheLooksModel" "word" "[I") ∈ TB := TB_of 919 (by decide +kernel) (by decide +kernel)
theorem w_920 : (Jvm.Cond.fieldLink "WhileSheLooksModel" (65 : Nat) "WhileSheLooksModel" "number" "[I") ∈ TB := TB_of 920 (by decide +kernel) (by decide +kernel)
theorem w_921 : (Jvm.Cond.fieldLink "WhileSheLooksModel" (68 : Nat) "WhileSheLooksModel" "from" "[I") ∈ TB := TB_of 921 (by decide +kernel) (by decide +kernel)
theorem w_922 : (Jvm.Cond.fieldLink "WhileSheLooksModel" (71 : Nat) "WhileSheLooksModel" "to" "[I") ∈ TB := TB_of 922 (by decide +kernel) (by decide +kernel)
theorem w_923 : (Jvm.Cond.fieldLink "WhileSheLooksModel" (74 : Nat) "WhileSheLooksModel" "sign" "[I") ∈ TB := TB_of 923 (by decide +kernel) (by decide +kernel)
theorem w_924 : (Jvm.Cond.fieldLink "WhileSheLooksModel" (77 : Nat) "WhileSheLooksModel" "waits" "[I") ∈ TB := TB_of 924 (by decide +kernel) (by decide +kernel)
theorem w_925 : (Jvm.Cond.fieldLink "WhileSheLooksModel" (80 : Nat) "WhileSheLooksModel" "signs" "I") ∈ TB := TB_of 925 (by decide +kernel) (by decide +kernel)
theorem w_926 : (Jvm.Cond.fieldLink "WhileSheLooksModel" (83 : Nat) "WhileSheLooksModel" "waiting" "I") ∈ TB := TB_of 926 (by decide +kernel) (by decide +kernel)
theorem w_927 : (Jvm.Cond.fieldLink "WhileSheLooksModel" (86 : Nat) "WhileSheLooksModel" "open" "I") ∈ TB := TB_of 927 (by decide +kernel) (by decide +kernel)
theorem w_928 : (Jvm.Cond.fieldLink "WhileSheLooksModel" (89 : Nat) "WhileSheLooksModel" "letters" "[I") ∈ TB := TB_of 928 (by decide +kernel) (by decide +kernel)
theorem w_929 : (Jvm.Cond.fieldLink "WhileSheLooksModel" (92 : Nat) "WhileSheLooksModel" "seesInMind" "I") ∈ TB := TB_of 929 (by decide +kernel) (by decide +kernel)
theorem w_930 : (Jvm.Cond.fieldLink "WhileSheLooksModel" (95 : Nat) "WhileSheLooksModel" "pile" "[Z") ∈ TB := TB_of 930 (by decide +kernel) (by decide +kernel)
theorem w_931 : (Jvm.Cond.fieldLink "WhileSheLooksModel" (99 : Nat) "WhileSheLooksModel" "mostSent" "I") ∈ TB := TB_of 931 (by decide +kernel) (by decide +kernel)
theorem w_932 : (Jvm.Cond.fieldLink "WhileSheLooksModel" (102 : Nat) "WhileSheLooksModel" "idle" "I") ∈ TB := TB_of 932 (by decide +kernel) (by decide +kernel)
theorem w_933 : (Jvm.Cond.fieldLink "WhileSheLooksModel" (105 : Nat) "WhileSheLooksModel" "going" "[I") ∈ TB := TB_of 933 (by decide +kernel) (by decide +kernel)
theorem w_934 : (Jvm.Cond.fieldLink "WhileSheLooksModel" (108 : Nat) "WhileSheLooksModel" "wobbling" "[I") ∈ TB := TB_of 934 (by decide +kernel) (by decide +kernel)
theorem w_935 : (Jvm.Cond.fieldLink "WhileSheLooksModel" (111 : Nat) "WhileSheLooksModel" "keptTurns" "I") ∈ TB := TB_of 935 (by decide +kernel) (by decide +kernel)
theorem w_936 : (Jvm.Cond.fieldLink "WhileSheLooksModel" (114 : Nat) "WhileSheLooksModel" "keptWall" "I") ∈ TB := TB_of 936 (by decide +kernel) (by decide +kernel)
theorem w_937 : (Jvm.Cond.fieldLink "WhileSheLooksModel" (117 : Nat) "WhileSheLooksModel" "keptCome" "[I") ∈ TB := TB_of 937 (by decide +kernel) (by decide +kernel)
theorem w_938 : (Jvm.Cond.fieldLink "WhileSheLooksModel" (120 : Nat) "WhileSheLooksModel" "keptSent" "[I") ∈ TB := TB_of 938 (by decide +kernel) (by decide +kernel)
theorem w_939 : (Jvm.Cond.fieldLink "WhileSheLooksModel" (123 : Nat) "WhileSheLooksModel" "thenCome" "[I") ∈ TB := TB_of 939 (by decide +kernel) (by decide +kernel)
theorem w_940 : (Jvm.Cond.fieldLink "WhileSheLooksModel" (126 : Nat) "WhileSheLooksModel" "thenWall" "I") ∈ TB := TB_of 940 (by decide +kernel) (by decide +kernel)
theorem w_941 : (Jvm.Cond.fieldLink "WhileSheLooksModel" (129 : Nat) "WhileSheLooksModel" "thenSent" "I") ∈ TB := TB_of 941 (by decide +kernel) (by decide +kernel)
theorem w_942 : (Jvm.Cond.fieldLink "WhileSheLooksModel" (132 : Nat) "WhileSheLooksModel" "keptCount" "[I") ∈ TB := TB_of 942 (by decide +kernel) (by decide +kernel)
theorem w_943 : (Jvm.Cond.fieldLink "WhileSheLooksModel" (135 : Nat) "WhileSheLooksModel" "bestCount" "[I") ∈ TB := TB_of 943 (by decide +kernel) (by decide +kernel)
theorem w_944 : (Jvm.Cond.fieldLink "WhileSheLooksModel" (138 : Nat) "WhileSheLooksModel" "seen" "I") ∈ TB := TB_of 944 (by decide +kernel) (by decide +kernel)
theorem w_945 : (Jvm.Cond.fieldLink "WhileSheLooksModel" (141 : Nat) "WhileSheLooksModel" "seenWho" "[I") ∈ TB := TB_of 945 (by decide +kernel) (by decide +kernel)
theorem w_946 : (Jvm.Cond.fieldLink "WhileSheLooksModel" (144 : Nat) "WhileSheLooksModel" "seenWhen" "[I") ∈ TB := TB_of 946 (by decide +kernel) (by decide +kernel)
theorem w_947 : (Jvm.Cond.fieldLink "WhileSheLooksModel" (147 : Nat) "WhileSheLooksModel" "seenAt" "[I") ∈ TB := TB_of 947 (by decide +kernel) (by decide +kernel)
theorem w_948 : (Jvm.Cond.fieldLink "WhileSheLooksModel" (150 : Nat) "WhileSheLooksModel" "books" "I") ∈ TB := TB_of 948 (by decide +kernel) (by decide +kernel)
theorem w_949 : (Jvm.Cond.fieldLink "WhileSheLooksModel" (153 : Nat) "WhileSheLooksModel" "bookWho" "[I") ∈ TB := TB_of 949 (by decide +kernel) (by decide +kernel)
theorem w_950 : (Jvm.Cond.fieldLink "WhileSheLooksModel" (156 : Nat) "WhileSheLooksModel" "bookAt" "[I") ∈ TB := TB_of 950 (by decide +kernel) (by decide +kernel)
theorem w_951 : (Jvm.Cond.fieldLink "WhileSheLooksModel" (159 : Nat) "WhileSheLooksModel" "hasImage" "Z") ∈ TB := TB_of 951 (by decide +kernel) (by decide +kernel)
theorem w_952 : (Jvm.Cond.fieldLink "WhileSheLooksModel" (163 : Nat) "WhileSheLooksModel" "imageThe" "I") ∈ TB := TB_of 952 (by decide +kernel) (by decide +kernel)
theorem w_953 : (Jvm.Cond.fieldLink "WhileSheLooksModel" (166 : Nat) "WhileSheLooksModel" "imageChildren" "I") ∈ TB := TB_of 953 (by decide +kernel) (by decide +kernel)
theorem w_954 : (Jvm.Cond.fieldLink "WhileSheLooksModel" (169 : Nat) "WhileSheLooksModel" "imageTurns" "I") ∈ TB := TB_of 954 (by decide +kernel) (by decide +kernel)
theorem w_955 : (Jvm.Cond.fieldLink "WhileSheLooksModel" (172 : Nat) "WhileSheLooksModel" "imageWall" "I") ∈ TB := TB_of 955 (by decide +kernel) (by decide +kernel)
theorem w_956 : (Jvm.Cond.fieldLink "WhileSheLooksModel" (175 : Nat) "WhileSheLooksModel" "imageSeen" "I") ∈ TB := TB_of 956 (by decide +kernel) (by decide +kernel)
theorem w_957 : (Jvm.Cond.fieldLink "WhileSheLooksModel" (178 : Nat) "WhileSheLooksModel" "imageBooks" "I") ∈ TB := TB_of 957 (by decide +kernel) (by decide +kernel)
theorem w_958 : (Jvm.Cond.fieldLink "WhileSheLooksModel" (181 : Nat) "WhileSheLooksModel" "imageKind" "[I") ∈ TB := TB_of 958 (by decide +kernel) (by decide +kernel)
theorem w_959 : (Jvm.Cond.fieldLink "WhileSheLooksModel" (184 : Nat) "WhileSheLooksModel" "imageV" "[I") ∈ TB := TB_of 959 (by decide +kernel) (by decide +kernel)
theorem w_960 : (Jvm.Cond.fieldLink "WhileSheLooksModel" (187 : Nat) "WhileSheLooksModel" "imageCome" "[I") ∈ TB := TB_of 960 (by decide +kernel) (by decide +kernel)
theorem w_961 : (Jvm.Cond.fieldLink "WhileSheLooksModel" (190 : Nat) "WhileSheLooksModel" "imageEarly" "[I") ∈ TB := TB_of 961 (by decide +kernel) (by decide +kernel)
theorem w_962 : (Jvm.Cond.fieldLink "WhileSheLooksModel" (193 : Nat) "WhileSheLooksModel" "imageSent" "[I") ∈ TB := TB_of 962 (by decide +kernel) (by decide +kernel)
theorem w_963 : (Jvm.Cond.fieldLink "WhileSheLooksModel" (196 : Nat) "WhileSheLooksModel" "imageRows" "[I") ∈ TB := TB_of 963 (by decide +kernel) (by decide +kernel)
theorem w_964 : (Jvm.Cond.fieldLink "WhileSheLooksModel" (199 : Nat) "WhileSheLooksModel" "imageCount" "[I") ∈ TB := TB_of 964 (by decide +kernel) (by decide +kernel)
theorem w_965 : (Jvm.Cond.fieldLink "WhileSheLooksModel" (202 : Nat) "WhileSheLooksModel" "imageWho" "[I") ∈ TB := TB_of 965 (by decide +kernel) (by decide +kernel)
theorem w_966 : (Jvm.Cond.fieldLink "WhileSheLooksModel" (205 : Nat) "WhileSheLooksModel" "imageWhen" "[I") ∈ TB := TB_of 966 (by decide +kernel) (by decide +kernel)
theorem w_967 : (Jvm.Cond.fieldLink "WhileSheLooksModel" (208 : Nat) "WhileSheLooksModel" "imageAt" "[I") ∈ TB := TB_of 967 (by decide +kernel) (by decide +kernel)
theorem w_968 : (Jvm.Cond.fieldLink "WhileSheLooksModel" (211 : Nat) "WhileSheLooksModel" "imageBookWho" "[I") ∈ TB := TB_of 968 (by decide +kernel) (by decide +kernel)
theorem w_969 : (Jvm.Cond.fieldLink "WhileSheLooksModel" (214 : Nat) "WhileSheLooksModel" "imageBookAt" "[I") ∈ TB := TB_of 969 (by decide +kernel) (by decide +kernel)
theorem w_970 : (Jvm.Cond.fieldLink "WhileSheLooksModel" (217 : Nat) "WhileSheLooksModel" "ran" "I") ∈ TB := TB_of 970 (by decide +kernel) (by decide +kernel)
theorem w_971 : (Jvm.Cond.fieldLink "WhileSheLooksModel" (220 : Nat) "WhileSheLooksModel" "bodies" "[I") ∈ TB := TB_of 971 (by decide +kernel) (by decide +kernel)
theorem w_972 : (Jvm.Cond.fieldLink "WhileSheLooksModel" (223 : Nat) "WhileSheLooksModel" "sort" "[I") ∈ TB := TB_of 972 (by decide +kernel) (by decide +kernel)
theorem w_973 : (Jvm.Cond.fieldLink "WhileSheLooksModel" (226 : Nat) "WhileSheLooksModel" "length" "[I") ∈ TB := TB_of 973 (by decide +kernel) (by decide +kernel)
theorem w_974 : (Jvm.Cond.fieldLink "WhileSheLooksModel" (229 : Nat) "WhileSheLooksModel" "item" "[J") ∈ TB := TB_of 974 (by decide +kernel) (by decide +kernel)
theorem w_975 : (Jvm.Cond.fieldLink "WhileSheLooksModel" (233 : Nat) "WhileSheLooksModel" "aside" "[J") ∈ TB := TB_of 975 (by decide +kernel) (by decide +kernel)
theorem w_976 : (Jvm.Cond.lays "WhileSheLooksModel" "WhileSheLooksModel" "children" "I") ∈ TB := TB_of 976 (by decide +kernel) (by decide +kernel)
theorem w_978 : (Jvm.Cond.lays "WhileSheLooksModel" "WhileSheLooksModel" "turns" "I") ∈ TB := TB_of 978 (by decide +kernel) (by decide +kernel)
theorem w_980 : (Jvm.Cond.lays "WhileSheLooksModel" "WhileSheLooksModel" "wall" "I") ∈ TB := TB_of 980 (by decide +kernel) (by decide +kernel)
theorem w_982 : (Jvm.Cond.laysFinal "WhileSheLooksModel" "WhileSheLooksModel" "kind" "[I") ∈ TB := TB_of 982 (by decide +kernel) (by decide +kernel)
theorem w_984 : (Jvm.Cond.laysFinal "WhileSheLooksModel" "WhileSheLooksModel" "v" "[I") ∈ TB := TB_of 984 (by decide +kernel) (by decide +kernel)
theorem w_986 : (Jvm.Cond.laysFinal "WhileSheLooksModel" "WhileSheLooksModel" "come" "[I") ∈ TB := TB_of 986 (by decide +kernel) (by decide +kernel)
theorem w_988 : (Jvm.Cond.laysFinal "WhileSheLooksModel" "WhileSheLooksModel" "early" "[I") ∈ TB := TB_of 988 (by decide +kernel) (by decide +kernel)
theorem w_990 : (Jvm.Cond.laysFinal "WhileSheLooksModel" "WhileSheLooksModel" "sent" "[I") ∈ TB := TB_of 990 (by decide +kernel) (by decide +kernel)
theorem w_992 : (Jvm.Cond.laysFinal "WhileSheLooksModel" "WhileSheLooksModel" "rows" "[I") ∈ TB := TB_of 992 (by decide +kernel) (by decide +kernel)
theorem w_994 : (Jvm.Cond.laysFinal "WhileSheLooksModel" "WhileSheLooksModel" "count" "[I") ∈ TB := TB_of 994 (by decide +kernel) (by decide +kernel)
theorem w_996 : (Jvm.Cond.lays "WhileSheLooksModel" "WhileSheLooksModel" "yards" "I") ∈ TB := TB_of 996 (by decide +kernel) (by decide +kernel)
theorem w_998 : (Jvm.Cond.lays "WhileSheLooksModel" "WhileSheLooksModel" "the" "I") ∈ TB := TB_of 998 (by decide +kernel) (by decide +kernel)
theorem w_1000 : (Jvm.Cond.lays "WhileSheLooksModel" "WhileSheLooksModel" "fed" "I") ∈ TB := TB_of 1000 (by decide +kernel) (by decide +kernel)
theorem w_1002 : (Jvm.Cond.lays "WhileSheLooksModel" "WhileSheLooksModel" "at" "I") ∈ TB := TB_of 1002 (by decide +kernel) (by decide +kernel)
theorem w_1004 : (Jvm.Cond.lays "WhileSheLooksModel" "WhileSheLooksModel" "digits" "I") ∈ TB := TB_of 1004 (by decide +kernel) (by decide +kernel)
theorem w_1006 : (Jvm.Cond.laysFinal "WhileSheLooksModel" "WhileSheLooksModel" "text" "[I") ∈ TB := TB_of 1006 (by decide +kernel) (by decide +kernel)
theorem w_1008 : (Jvm.Cond.laysFinal "WhileSheLooksModel" "WhileSheLooksModel" "clauses" "[I") ∈ TB := TB_of 1008 (by decide +kernel) (by decide +kernel)
theorem w_1010 : (Jvm.Cond.laysFinal "WhileSheLooksModel" "WhileSheLooksModel" "word" "[I") ∈ TB := TB_of 1010 (by decide +kernel) (by decide +kernel)
theorem w_1012 : (Jvm.Cond.laysFinal "WhileSheLooksModel" "WhileSheLooksModel" "number" "[I") ∈ TB := TB_of 1012 (by decide +kernel) (by decide +kernel)
theorem w_1014 : (Jvm.Cond.laysFinal "WhileSheLooksModel" "WhileSheLooksModel" "from" "[I") ∈ TB := TB_of 1014 (by decide +kernel) (by decide +kernel)
theorem w_1016 : (Jvm.Cond.laysFinal "WhileSheLooksModel" "WhileSheLooksModel" "to" "[I") ∈ TB := TB_of 1016 (by decide +kernel) (by decide +kernel)
theorem w_1018 : (Jvm.Cond.laysFinal "WhileSheLooksModel" "WhileSheLooksModel" "sign" "[I") ∈ TB := TB_of 1018 (by decide +kernel) (by decide +kernel)
theorem w_1020 : (Jvm.Cond.laysFinal "WhileSheLooksModel" "WhileSheLooksModel" "waits" "[I") ∈ TB := TB_of 1020 (by decide +kernel) (by decide +kernel)
theorem w_1022 : (Jvm.Cond.lays "WhileSheLooksModel" "WhileSheLooksModel" "signs" "I") ∈ TB := TB_of 1022 (by decide +kernel) (by decide +kernel)
theorem w_1024 : (Jvm.Cond.lays "WhileSheLooksModel" "WhileSheLooksModel" "waiting" "I") ∈ TB := TB_of 1024 (by decide +kernel) (by decide +kernel)
theorem w_1026 : (Jvm.Cond.lays "WhileSheLooksModel" "WhileSheLooksModel" "open" "I") ∈ TB := TB_of 1026 (by decide +kernel) (by decide +kernel)
theorem w_1028 : (Jvm.Cond.laysFinal "WhileSheLooksModel" "WhileSheLooksModel" "letters" "[I") ∈ TB := TB_of 1028 (by decide +kernel) (by decide +kernel)
theorem w_1030 : (Jvm.Cond.lays "WhileSheLooksModel" "WhileSheLooksModel" "seesInMind" "I") ∈ TB := TB_of 1030 (by decide +kernel) (by decide +kernel)
theorem w_1032 : (Jvm.Cond.laysFinal "WhileSheLooksModel" "WhileSheLooksModel" "pile" "[Z") ∈ TB := TB_of 1032 (by decide +kernel) (by decide +kernel)
theorem w_1034 : (Jvm.Cond.lays "WhileSheLooksModel" "WhileSheLooksModel" "mostSent" "I") ∈ TB := TB_of 1034 (by decide +kernel) (by decide +kernel)
theorem w_1036 : (Jvm.Cond.lays "WhileSheLooksModel" "WhileSheLooksModel" "idle" "I") ∈ TB := TB_of 1036 (by decide +kernel) (by decide +kernel)
theorem w_1038 : (Jvm.Cond.laysFinal "WhileSheLooksModel" "WhileSheLooksModel" "going" "[I") ∈ TB := TB_of 1038 (by decide +kernel) (by decide +kernel)
theorem w_1040 : (Jvm.Cond.laysFinal "WhileSheLooksModel" "WhileSheLooksModel" "wobbling" "[I") ∈ TB := TB_of 1040 (by decide +kernel) (by decide +kernel)
theorem w_1042 : (Jvm.Cond.lays "WhileSheLooksModel" "WhileSheLooksModel" "keptTurns" "I") ∈ TB := TB_of 1042 (by decide +kernel) (by decide +kernel)
theorem w_1044 : (Jvm.Cond.lays "WhileSheLooksModel" "WhileSheLooksModel" "keptWall" "I") ∈ TB := TB_of 1044 (by decide +kernel) (by decide +kernel)
theorem w_1046 : (Jvm.Cond.laysFinal "WhileSheLooksModel" "WhileSheLooksModel" "keptCome" "[I") ∈ TB := TB_of 1046 (by decide +kernel) (by decide +kernel)
theorem w_1048 : (Jvm.Cond.laysFinal "WhileSheLooksModel" "WhileSheLooksModel" "keptSent" "[I") ∈ TB := TB_of 1048 (by decide +kernel) (by decide +kernel)
theorem w_1050 : (Jvm.Cond.laysFinal "WhileSheLooksModel" "WhileSheLooksModel" "thenCome" "[I") ∈ TB := TB_of 1050 (by decide +kernel) (by decide +kernel)
theorem w_1052 : (Jvm.Cond.lays "WhileSheLooksModel" "WhileSheLooksModel" "thenWall" "I") ∈ TB := TB_of 1052 (by decide +kernel) (by decide +kernel)
theorem w_1054 : (Jvm.Cond.lays "WhileSheLooksModel" "WhileSheLooksModel" "thenSent" "I") ∈ TB := TB_of 1054 (by decide +kernel) (by decide +kernel)
theorem w_1056 : (Jvm.Cond.laysFinal "WhileSheLooksModel" "WhileSheLooksModel" "keptCount" "[I") ∈ TB := TB_of 1056 (by decide +kernel) (by decide +kernel)
theorem w_1058 : (Jvm.Cond.laysFinal "WhileSheLooksModel" "WhileSheLooksModel" "bestCount" "[I") ∈ TB := TB_of 1058 (by decide +kernel) (by decide +kernel)
theorem w_1060 : (Jvm.Cond.lays "WhileSheLooksModel" "WhileSheLooksModel" "seen" "I") ∈ TB := TB_of 1060 (by decide +kernel) (by decide +kernel)
theorem w_1062 : (Jvm.Cond.laysFinal "WhileSheLooksModel" "WhileSheLooksModel" "seenWho" "[I") ∈ TB := TB_of 1062 (by decide +kernel) (by decide +kernel)
theorem w_1064 : (Jvm.Cond.laysFinal "WhileSheLooksModel" "WhileSheLooksModel" "seenWhen" "[I") ∈ TB := TB_of 1064 (by decide +kernel) (by decide +kernel)
theorem w_1066 : (Jvm.Cond.laysFinal "WhileSheLooksModel" "WhileSheLooksModel" "seenAt" "[I") ∈ TB := TB_of 1066 (by decide +kernel) (by decide +kernel)
theorem w_1068 : (Jvm.Cond.lays "WhileSheLooksModel" "WhileSheLooksModel" "books" "I") ∈ TB := TB_of 1068 (by decide +kernel) (by decide +kernel)
theorem w_1070 : (Jvm.Cond.laysFinal "WhileSheLooksModel" "WhileSheLooksModel" "bookWho" "[I") ∈ TB := TB_of 1070 (by decide +kernel) (by decide +kernel)
theorem w_1072 : (Jvm.Cond.laysFinal "WhileSheLooksModel" "WhileSheLooksModel" "bookAt" "[I") ∈ TB := TB_of 1072 (by decide +kernel) (by decide +kernel)
theorem w_1074 : (Jvm.Cond.lays "WhileSheLooksModel" "WhileSheLooksModel" "hasImage" "Z") ∈ TB := TB_of 1074 (by decide +kernel) (by decide +kernel)
theorem w_1076 : (Jvm.Cond.lays "WhileSheLooksModel" "WhileSheLooksModel" "imageThe" "I") ∈ TB := TB_of 1076 (by decide +kernel) (by decide +kernel)
theorem w_1078 : (Jvm.Cond.lays "WhileSheLooksModel" "WhileSheLooksModel" "imageChildren" "I") ∈ TB := TB_of 1078 (by decide +kernel) (by decide +kernel)
theorem w_1080 : (Jvm.Cond.lays "WhileSheLooksModel" "WhileSheLooksModel" "imageTurns" "I") ∈ TB := TB_of 1080 (by decide +kernel) (by decide +kernel)
theorem w_1082 : (Jvm.Cond.lays "WhileSheLooksModel" "WhileSheLooksModel" "imageWall" "I") ∈ TB := TB_of 1082 (by decide +kernel) (by decide +kernel)
theorem w_1084 : (Jvm.Cond.lays "WhileSheLooksModel" "WhileSheLooksModel" "imageSeen" "I") ∈ TB := TB_of 1084 (by decide +kernel) (by decide +kernel)
theorem w_1086 : (Jvm.Cond.lays "WhileSheLooksModel" "WhileSheLooksModel" "imageBooks" "I") ∈ TB := TB_of 1086 (by decide +kernel) (by decide +kernel)
theorem w_1088 : (Jvm.Cond.laysFinal "WhileSheLooksModel" "WhileSheLooksModel" "imageKind" "[I") ∈ TB := TB_of 1088 (by decide +kernel) (by decide +kernel)
theorem w_1090 : (Jvm.Cond.laysFinal "WhileSheLooksModel" "WhileSheLooksModel" "imageV" "[I") ∈ TB := TB_of 1090 (by decide +kernel) (by decide +kernel)
theorem w_1092 : (Jvm.Cond.laysFinal "WhileSheLooksModel" "WhileSheLooksModel" "imageCome" "[I") ∈ TB := TB_of 1092 (by decide +kernel) (by decide +kernel)
theorem w_1094 : (Jvm.Cond.laysFinal "WhileSheLooksModel" "WhileSheLooksModel" "imageEarly" "[I") ∈ TB := TB_of 1094 (by decide +kernel) (by decide +kernel)
theorem w_1096 : (Jvm.Cond.laysFinal "WhileSheLooksModel" "WhileSheLooksModel" "imageSent" "[I") ∈ TB := TB_of 1096 (by decide +kernel) (by decide +kernel)
theorem w_1098 : (Jvm.Cond.laysFinal "WhileSheLooksModel" "WhileSheLooksModel" "imageRows" "[I") ∈ TB := TB_of 1098 (by decide +kernel) (by decide +kernel)
theorem w_1100 : (Jvm.Cond.laysFinal "WhileSheLooksModel" "WhileSheLooksModel" "imageCount" "[I") ∈ TB := TB_of 1100 (by decide +kernel) (by decide +kernel)
theorem w_1102 : (Jvm.Cond.laysFinal "WhileSheLooksModel" "WhileSheLooksModel" "imageWho" "[I") ∈ TB := TB_of 1102 (by decide +kernel) (by decide +kernel)
theorem w_1104 : (Jvm.Cond.laysFinal "WhileSheLooksModel" "WhileSheLooksModel" "imageWhen" "[I") ∈ TB := TB_of 1104 (by decide +kernel) (by decide +kernel)
theorem w_1106 : (Jvm.Cond.laysFinal "WhileSheLooksModel" "WhileSheLooksModel" "imageAt" "[I") ∈ TB := TB_of 1106 (by decide +kernel) (by decide +kernel)
theorem w_1108 : (Jvm.Cond.laysFinal "WhileSheLooksModel" "WhileSheLooksModel" "imageBookWho" "[I") ∈ TB := TB_of 1108 (by decide +kernel) (by decide +kernel)
theorem w_1110 : (Jvm.Cond.laysFinal "WhileSheLooksModel" "WhileSheLooksModel" "imageBookAt" "[I") ∈ TB := TB_of 1110 (by decide +kernel) (by decide +kernel)
theorem w_1112 : (Jvm.Cond.lays "WhileSheLooksModel" "WhileSheLooksModel" "ran" "I") ∈ TB := TB_of 1112 (by decide +kernel) (by decide +kernel)
theorem w_1114 : (Jvm.Cond.laysFinal "WhileSheLooksModel" "WhileSheLooksModel" "bodies" "[I") ∈ TB := TB_of 1114 (by decide +kernel) (by decide +kernel)
theorem w_1116 : (Jvm.Cond.laysFinal "WhileSheLooksModel" "WhileSheLooksModel" "sort" "[I") ∈ TB := TB_of 1116 (by decide +kernel) (by decide +kernel)
theorem w_1118 : (Jvm.Cond.laysFinal "WhileSheLooksModel" "WhileSheLooksModel" "length" "[I") ∈ TB := TB_of 1118 (by decide +kernel) (by decide +kernel)
theorem w_1120 : (Jvm.Cond.laysFinal "WhileSheLooksModel" "WhileSheLooksModel" "item" "[J") ∈ TB := TB_of 1120 (by decide +kernel) (by decide +kernel)
theorem w_1122 : (Jvm.Cond.laysFinal "WhileSheLooksModel" "WhileSheLooksModel" "aside" "[J") ∈ TB := TB_of 1122 (by decide +kernel) (by decide +kernel)
theorem w_1125 : (Jvm.Cond.arrayClass Jvm.ClassFile.FieldType.boolean) ∈ TB := TB_of 1125 (by decide +kernel) (by decide +kernel)
theorem w_1130 : (Jvm.Cond.methodLink "WhileSheLooksModel" (236 : Nat) ({ cls := "WhileSheLooksModel", name := "in", desc := "(III)Z" } : Jvm.MethodName)) ∈ TB := TB_of 1130 (by decide +kernel) (by decide +kernel)
theorem w_1132 : (Jvm.Cond.instanceMethod ({ cls := "WhileSheLooksModel", name := "in", desc := "(III)Z" } : Jvm.MethodName)) ∈ TB := TB_of 1132 (by decide +kernel) (by decide +kernel)
theorem w_1133 : (Jvm.Cond.code ({ cls := "WhileSheLooksModel", name := "in", desc := "(III)Z" } : Jvm.MethodName) prog_14_method_2_code (4 : Nat) (Option.some Jvm.ClassFile.FieldType.boolean)) ∈ TB := TB_of 1133 (by decide +kernel) (by decide +kernel)
theorem w_1138 : (Jvm.Cond.methodLink "WhileSheLooksModel" (240 : Nat) ({ cls := "WhileSheLooksModel", name := "isChild", desc := "(I)Z" } : Jvm.MethodName)) ∈ TB := TB_of 1138 (by decide +kernel) (by decide +kernel)
theorem w_1140 : (Jvm.Cond.instanceMethod ({ cls := "WhileSheLooksModel", name := "isChild", desc := "(I)Z" } : Jvm.MethodName)) ∈ TB := TB_of 1140 (by decide +kernel) (by decide +kernel)
theorem w_1141 : (Jvm.Cond.code ({ cls := "WhileSheLooksModel", name := "isChild", desc := "(I)Z" } : Jvm.MethodName) prog_14_method_5_code (2 : Nat) (Option.some Jvm.ClassFile.FieldType.boolean)) ∈ TB := TB_of 1141 (by decide +kernel) (by decide +kernel)
theorem w_1142 : (Jvm.Cond.methodLink "WhileSheLooksModel" (244 : Nat) ({ cls := "WhileSheLooksModel", name := "far", desc := "()I" } : Jvm.MethodName)) ∈ TB := TB_of 1142 (by decide +kernel) (by decide +kernel)
theorem w_1144 : (Jvm.Cond.instanceMethod ({ cls := "WhileSheLooksModel", name := "far", desc := "()I" } : Jvm.MethodName)) ∈ TB := TB_of 1144 (by decide +kernel) (by decide +kernel)
theorem w_1145 : (Jvm.Cond.code ({ cls := "WhileSheLooksModel", name := "far", desc := "()I" } : Jvm.MethodName) prog_14_method_30_code (2 : Nat) (Option.some Jvm.ClassFile.FieldType.int)) ∈ TB := TB_of 1145 (by decide +kernel) (by decide +kernel)
theorem w_1146 : (Jvm.Cond.methodLink "WhileSheLooksModel" (303 : Nat) ({ cls := "WhileSheLooksModel", name := "lastOf", desc := "(II)I" } : Jvm.MethodName)) ∈ TB := TB_of 1146 (by decide +kernel) (by decide +kernel)
theorem w_1148 : (Jvm.Cond.instanceMethod ({ cls := "WhileSheLooksModel", name := "lastOf", desc := "(II)I" } : Jvm.MethodName)) ∈ TB := TB_of 1148 (by decide +kernel) (by decide +kernel)
theorem w_1149 : (Jvm.Cond.code ({ cls := "WhileSheLooksModel", name := "lastOf", desc := "(II)I" } : Jvm.MethodName) prog_14_method_29_code (5 : Nat) (Option.some Jvm.ClassFile.FieldType.int)) ∈ TB := TB_of 1149 (by decide +kernel) (by decide +kernel)
theorem w_1150 : (Jvm.Cond.methodLink "WhileSheLooksModel" (297 : Nat) ({ cls := "WhileSheLooksModel", name := "begin", desc := "()I" } : Jvm.MethodName)) ∈ TB := TB_of 1150 (by decide +kernel) (by decide +kernel)
theorem w_1152 : (Jvm.Cond.instanceMethod ({ cls := "WhileSheLooksModel", name := "begin", desc := "()I" } : Jvm.MethodName)) ∈ TB := TB_of 1152 (by decide +kernel) (by decide +kernel)
theorem w_1153 : (Jvm.Cond.code ({ cls := "WhileSheLooksModel", name := "begin", desc := "()I" } : Jvm.MethodName) prog_14_method_27_code (1 : Nat) (Option.some Jvm.ClassFile.FieldType.int)) ∈ TB := TB_of 1153 (by decide +kernel) (by decide +kernel)
theorem w_1154 : (Jvm.Cond.methodLink "WhileSheLooksModel" (300 : Nat) ({ cls := "WhileSheLooksModel", name := "behind", desc := "()I" } : Jvm.MethodName)) ∈ TB := TB_of 1154 (by decide +kernel) (by decide +kernel)
theorem w_1156 : (Jvm.Cond.instanceMethod ({ cls := "WhileSheLooksModel", name := "behind", desc := "()I" } : Jvm.MethodName)) ∈ TB := TB_of 1156 (by decide +kernel) (by decide +kernel)
theorem w_1157 : (Jvm.Cond.code ({ cls := "WhileSheLooksModel", name := "behind", desc := "()I" } : Jvm.MethodName) prog_14_method_28_code (1 : Nat) (Option.some Jvm.ClassFile.FieldType.int)) ∈ TB := TB_of 1157 (by decide +kernel) (by decide +kernel)
theorem w_1174 : (Jvm.Cond.methodLink "WhileSheLooksModel" (294 : Nat) ({ cls := "WhileSheLooksModel", name := "goesText", desc := "(I)Z" } : Jvm.MethodName)) ∈ TB := TB_of 1174 (by decide +kernel) (by decide +kernel)
theorem w_1176 : (Jvm.Cond.instanceMethod ({ cls := "WhileSheLooksModel", name := "goesText", desc := "(I)Z" } : Jvm.MethodName)) ∈ TB := TB_of 1176 (by decide +kernel) (by decide +kernel)
theorem w_1177 : (Jvm.Cond.code ({ cls := "WhileSheLooksModel", name := "goesText", desc := "(I)Z" } : Jvm.MethodName) prog_14_method_25_code (3 : Nat) (Option.some Jvm.ClassFile.FieldType.boolean)) ∈ TB := TB_of 1177 (by decide +kernel) (by decide +kernel)
theorem w_1178 : (Jvm.Cond.methodLink "WhileSheLooksModel" (291 : Nat) ({ cls := "WhileSheLooksModel", name := "takesClause", desc := "(I)Z" } : Jvm.MethodName)) ∈ TB := TB_of 1178 (by decide +kernel) (by decide +kernel)
theorem w_1180 : (Jvm.Cond.instanceMethod ({ cls := "WhileSheLooksModel", name := "takesClause", desc := "(I)Z" } : Jvm.MethodName)) ∈ TB := TB_of 1180 (by decide +kernel) (by decide +kernel)
theorem w_1181 : (Jvm.Cond.code ({ cls := "WhileSheLooksModel", name := "takesClause", desc := "(I)Z" } : Jvm.MethodName) prog_14_method_24_code (2 : Nat) (Option.some Jvm.ClassFile.FieldType.boolean)) ∈ TB := TB_of 1181 (by decide +kernel) (by decide +kernel)
theorem w_1182 : (Jvm.Cond.methodLink "WhileSheLooksModel" (285 : Nat) ({ cls := "WhileSheLooksModel", name := "takesHead", desc := "(I)Z" } : Jvm.MethodName)) ∈ TB := TB_of 1182 (by decide +kernel) (by decide +kernel)
theorem w_1184 : (Jvm.Cond.instanceMethod ({ cls := "WhileSheLooksModel", name := "takesHead", desc := "(I)Z" } : Jvm.MethodName)) ∈ TB := TB_of 1184 (by decide +kernel) (by decide +kernel)
theorem w_1185 : (Jvm.Cond.code ({ cls := "WhileSheLooksModel", name := "takesHead", desc := "(I)Z" } : Jvm.MethodName) prog_14_method_23_code (2 : Nat) (Option.some Jvm.ClassFile.FieldType.boolean)) ∈ TB := TB_of 1185 (by decide +kernel) (by decide +kernel)
theorem w_1186 : (Jvm.Cond.methodLink "WhileSheLooksModel" (248 : Nat) ({ cls := "WhileSheLooksModel", name := "next", desc := "()I" } : Jvm.MethodName)) ∈ TB := TB_of 1186 (by decide +kernel) (by decide +kernel)
theorem w_1188 : (Jvm.Cond.instanceMethod ({ cls := "WhileSheLooksModel", name := "next", desc := "()I" } : Jvm.MethodName)) ∈ TB := TB_of 1188 (by decide +kernel) (by decide +kernel)
theorem w_1189 : (Jvm.Cond.code ({ cls := "WhileSheLooksModel", name := "next", desc := "()I" } : Jvm.MethodName) prog_14_method_11_code (1 : Nat) (Option.some Jvm.ClassFile.FieldType.int)) ∈ TB := TB_of 1189 (by decide +kernel) (by decide +kernel)
theorem w_1190 : (Jvm.Cond.methodLink "WhileSheLooksModel" (278 : Nat) ({ cls := "WhileSheLooksModel", name := "takesWord", desc := "(II)Z" } : Jvm.MethodName)) ∈ TB := TB_of 1190 (by decide +kernel) (by decide +kernel)
theorem w_1192 : (Jvm.Cond.instanceMethod ({ cls := "WhileSheLooksModel", name := "takesWord", desc := "(II)Z" } : Jvm.MethodName)) ∈ TB := TB_of 1192 (by decide +kernel) (by decide +kernel)
theorem w_1193 : (Jvm.Cond.code ({ cls := "WhileSheLooksModel", name := "takesWord", desc := "(II)Z" } : Jvm.MethodName) prog_14_method_14_code (4 : Nat) (Option.some Jvm.ClassFile.FieldType.boolean)) ∈ TB := TB_of 1193 (by decide +kernel) (by decide +kernel)
theorem w_1194 : (Jvm.Cond.methodLink "WhileSheLooksModel" (251 : Nat) ({ cls := "WhileSheLooksModel", name := "takes", desc := "(I)Z" } : Jvm.MethodName)) ∈ TB := TB_of 1194 (by decide +kernel) (by decide +kernel)
theorem w_1196 : (Jvm.Cond.instanceMethod ({ cls := "WhileSheLooksModel", name := "takes", desc := "(I)Z" } : Jvm.MethodName)) ∈ TB := TB_of 1196 (by decide +kernel) (by decide +kernel)
theorem w_1197 : (Jvm.Cond.code ({ cls := "WhileSheLooksModel", name := "takes", desc := "(I)Z" } : Jvm.MethodName) prog_14_method_13_code (2 : Nat) (Option.some Jvm.ClassFile.FieldType.boolean)) ∈ TB := TB_of 1197 (by decide +kernel) (by decide +kernel)
theorem w_1198 : (Jvm.Cond.methodLink "WhileSheLooksModel" (282 : Nat) ({ cls := "WhileSheLooksModel", name := "second", desc := "()I" } : Jvm.MethodName)) ∈ TB := TB_of 1198 (by decide +kernel) (by decide +kernel)
theorem w_1200 : (Jvm.Cond.instanceMethod ({ cls := "WhileSheLooksModel", name := "second", desc := "()I" } : Jvm.MethodName)) ∈ TB := TB_of 1200 (by decide +kernel) (by decide +kernel)
theorem w_1201 : (Jvm.Cond.code ({ cls := "WhileSheLooksModel", name := "second", desc := "()I" } : Jvm.MethodName) prog_14_method_12_code (1 : Nat) (Option.some Jvm.ClassFile.FieldType.int)) ∈ TB := TB_of 1201 (by decide +kernel) (by decide +kernel)
theorem w_1202 : (Jvm.Cond.methodLink "WhileSheLooksModel" (266 : Nat) ({ cls := "WhileSheLooksModel", name := "takesNumber", desc := "()Z" } : Jvm.MethodName)) ∈ TB := TB_of 1202 (by decide +kernel) (by decide +kernel)
theorem w_1204 : (Jvm.Cond.instanceMethod ({ cls := "WhileSheLooksModel", name := "takesNumber", desc := "()Z" } : Jvm.MethodName)) ∈ TB := TB_of 1204 (by decide +kernel) (by decide +kernel)
theorem w_1205 : (Jvm.Cond.code ({ cls := "WhileSheLooksModel", name := "takesNumber", desc := "()Z" } : Jvm.MethodName) prog_14_method_16_code (2 : Nat) (Option.some Jvm.ClassFile.FieldType.boolean)) ∈ TB := TB_of 1205 (by decide +kernel) (by decide +kernel)
theorem w_1206 : (Jvm.Cond.methodLink "WhileSheLooksModel" (254 : Nat) ({ cls := "WhileSheLooksModel", name := "isDigit", desc := "()Z" } : Jvm.MethodName)) ∈ TB := TB_of 1206 (by decide +kernel) (by decide +kernel)
theorem w_1208 : (Jvm.Cond.instanceMethod ({ cls := "WhileSheLooksModel", name := "isDigit", desc := "()Z" } : Jvm.MethodName)) ∈ TB := TB_of 1208 (by decide +kernel) (by decide +kernel)
theorem w_1209 : (Jvm.Cond.code ({ cls := "WhileSheLooksModel", name := "isDigit", desc := "()Z" } : Jvm.MethodName) prog_14_method_15_code (1 : Nat) (Option.some Jvm.ClassFile.FieldType.boolean)) ∈ TB := TB_of 1209 (by decide +kernel) (by decide +kernel)
theorem w_1210 : (Jvm.Cond.methodLink "WhileSheLooksModel" (288 : Nat) ({ cls := "WhileSheLooksModel", name := "takesE", desc := "(I)Z" } : Jvm.MethodName)) ∈ TB := TB_of 1210 (by decide +kernel) (by decide +kernel)
theorem w_1212 : (Jvm.Cond.instanceMethod ({ cls := "WhileSheLooksModel", name := "takesE", desc := "(I)Z" } : Jvm.MethodName)) ∈ TB := TB_of 1212 (by decide +kernel) (by decide +kernel)
theorem w_1213 : (Jvm.Cond.code ({ cls := "WhileSheLooksModel", name := "takesE", desc := "(I)Z" } : Jvm.MethodName) prog_14_method_22_code (4 : Nat) (Option.some Jvm.ClassFile.FieldType.boolean)) ∈ TB := TB_of 1213 (by decide +kernel) (by decide +kernel)
theorem w_1214 : (Jvm.Cond.methodLink "WhileSheLooksModel" (272 : Nat) ({ cls := "WhileSheLooksModel", name := "takesTest", desc := "()Z" } : Jvm.MethodName)) ∈ TB := TB_of 1214 (by decide +kernel) (by decide +kernel)
theorem w_1216 : (Jvm.Cond.instanceMethod ({ cls := "WhileSheLooksModel", name := "takesTest", desc := "()Z" } : Jvm.MethodName)) ∈ TB := TB_of 1216 (by decide +kernel) (by decide +kernel)
theorem w_1217 : (Jvm.Cond.code ({ cls := "WhileSheLooksModel", name := "takesTest", desc := "()Z" } : Jvm.MethodName) prog_14_method_21_code (3 : Nat) (Option.some Jvm.ClassFile.FieldType.boolean)) ∈ TB := TB_of 1217 (by decide +kernel) (by decide +kernel)
theorem w_1218 : (Jvm.Cond.methodLink "WhileSheLooksModel" (262 : Nat) ({ cls := "WhileSheLooksModel", name := "place", desc := "(I)I" } : Jvm.MethodName)) ∈ TB := TB_of 1218 (by decide +kernel) (by decide +kernel)
theorem w_1220 : (Jvm.Cond.instanceMethod ({ cls := "WhileSheLooksModel", name := "place", desc := "(I)I" } : Jvm.MethodName)) ∈ TB := TB_of 1220 (by decide +kernel) (by decide +kernel)
theorem w_1221 : (Jvm.Cond.code ({ cls := "WhileSheLooksModel", name := "place", desc := "(I)I" } : Jvm.MethodName) prog_14_method_20_code (2 : Nat) (Option.some Jvm.ClassFile.FieldType.int)) ∈ TB := TB_of 1221 (by decide +kernel) (by decide +kernel)
theorem w_1222 : (Jvm.Cond.methodLink "WhileSheLooksModel" (258 : Nat) ({ cls := "WhileSheLooksModel", name := "emits", desc := "(I)V" } : Jvm.MethodName)) ∈ TB := TB_of 1222 (by decide +kernel) (by decide +kernel)
theorem w_1224 : (Jvm.Cond.instanceMethod ({ cls := "WhileSheLooksModel", name := "emits", desc := "(I)V" } : Jvm.MethodName)) ∈ TB := TB_of 1224 (by decide +kernel) (by decide +kernel)
theorem w_1225 : (Jvm.Cond.code ({ cls := "WhileSheLooksModel", name := "emits", desc := "(I)V" } : Jvm.MethodName) prog_14_method_17_code (2 : Nat) (Option.none : Option Jvm.ClassFile.FieldType)) ∈ TB := TB_of 1225 (by decide +kernel) (by decide +kernel)
theorem w_1226 : (Jvm.Cond.methodLink "WhileSheLooksModel" (269 : Nat) ({ cls := "WhileSheLooksModel", name := "whole", desc := "()V" } : Jvm.MethodName)) ∈ TB := TB_of 1226 (by decide +kernel) (by decide +kernel)
theorem w_1228 : (Jvm.Cond.instanceMethod ({ cls := "WhileSheLooksModel", name := "whole", desc := "()V" } : Jvm.MethodName)) ∈ TB := TB_of 1228 (by decide +kernel) (by decide +kernel)
theorem w_1229 : (Jvm.Cond.code ({ cls := "WhileSheLooksModel", name := "whole", desc := "()V" } : Jvm.MethodName) prog_14_method_18_code (1 : Nat) (Option.none : Option Jvm.ClassFile.FieldType)) ∈ TB := TB_of 1229 (by decide +kernel) (by decide +kernel)
theorem w_1230 : (Jvm.Cond.methodLink "WhileSheLooksModel" (275 : Nat) ({ cls := "WhileSheLooksModel", name := "settle", desc := "(I)V" } : Jvm.MethodName)) ∈ TB := TB_of 1230 (by decide +kernel) (by decide +kernel)
theorem w_1232 : (Jvm.Cond.instanceMethod ({ cls := "WhileSheLooksModel", name := "settle", desc := "(I)V" } : Jvm.MethodName)) ∈ TB := TB_of 1232 (by decide +kernel) (by decide +kernel)
theorem w_1233 : (Jvm.Cond.code ({ cls := "WhileSheLooksModel", name := "settle", desc := "(I)V" } : Jvm.MethodName) prog_14_method_19_code (2 : Nat) (Option.none : Option Jvm.ClassFile.FieldType)) ∈ TB := TB_of 1233 (by decide +kernel) (by decide +kernel)
theorem w_1238 : (Jvm.Cond.methodLink "WhileSheLooksModel" (328 : Nat) ({ cls := "WhileSheLooksModel", name := "has", desc := "(II)Z" } : Jvm.MethodName)) ∈ TB := TB_of 1238 (by decide +kernel) (by decide +kernel)
theorem w_1240 : (Jvm.Cond.instanceMethod ({ cls := "WhileSheLooksModel", name := "has", desc := "(II)Z" } : Jvm.MethodName)) ∈ TB := TB_of 1240 (by decide +kernel) (by decide +kernel)
theorem w_1241 : (Jvm.Cond.code ({ cls := "WhileSheLooksModel", name := "has", desc := "(II)Z" } : Jvm.MethodName) prog_14_method_3_code (3 : Nat) (Option.some Jvm.ClassFile.FieldType.boolean)) ∈ TB := TB_of 1241 (by decide +kernel) (by decide +kernel)
theorem w_1242 : (Jvm.Cond.methodLink "WhileSheLooksModel" (316 : Nat) ({ cls := "WhileSheLooksModel", name := "pace", desc := "(I)I" } : Jvm.MethodName)) ∈ TB := TB_of 1242 (by decide +kernel) (by decide +kernel)
theorem w_1244 : (Jvm.Cond.instanceMethod ({ cls := "WhileSheLooksModel", name := "pace", desc := "(I)I" } : Jvm.MethodName)) ∈ TB := TB_of 1244 (by decide +kernel) (by decide +kernel)
theorem w_1245 : (Jvm.Cond.code ({ cls := "WhileSheLooksModel", name := "pace", desc := "(I)I" } : Jvm.MethodName) prog_14_method_37_code (3 : Nat) (Option.some Jvm.ClassFile.FieldType.int)) ∈ TB := TB_of 1245 (by decide +kernel) (by decide +kernel)
theorem w_1246 : (Jvm.Cond.methodLink "WhileSheLooksModel" (319 : Nat) ({ cls := "WhileSheLooksModel", name := "goes", desc := "(I)I" } : Jvm.MethodName)) ∈ TB := TB_of 1246 (by decide +kernel) (by decide +kernel)
theorem w_1248 : (Jvm.Cond.instanceMethod ({ cls := "WhileSheLooksModel", name := "goes", desc := "(I)I" } : Jvm.MethodName)) ∈ TB := TB_of 1248 (by decide +kernel) (by decide +kernel)
theorem w_1249 : (Jvm.Cond.code ({ cls := "WhileSheLooksModel", name := "goes", desc := "(I)I" } : Jvm.MethodName) prog_14_method_38_code (2 : Nat) (Option.some Jvm.ClassFile.FieldType.int)) ∈ TB := TB_of 1249 (by decide +kernel) (by decide +kernel)
theorem w_1250 : (Jvm.Cond.methodLink "WhileSheLooksModel" (307 : Nat) ({ cls := "WhileSheLooksModel", name := "countNow", desc := "()I" } : Jvm.MethodName)) ∈ TB := TB_of 1250 (by decide +kernel) (by decide +kernel)
theorem w_1252 : (Jvm.Cond.instanceMethod ({ cls := "WhileSheLooksModel", name := "countNow", desc := "()I" } : Jvm.MethodName)) ∈ TB := TB_of 1252 (by decide +kernel) (by decide +kernel)
theorem w_1253 : (Jvm.Cond.code ({ cls := "WhileSheLooksModel", name := "countNow", desc := "()I" } : Jvm.MethodName) prog_14_method_33_code (1 : Nat) (Option.some Jvm.ClassFile.FieldType.int)) ∈ TB := TB_of 1253 (by decide +kernel) (by decide +kernel)
theorem w_1254 : (Jvm.Cond.methodLink "WhileSheLooksModel" (331 : Nat) ({ cls := "WhileSheLooksModel", name := "wobbles", desc := "(I)I" } : Jvm.MethodName)) ∈ TB := TB_of 1254 (by decide +kernel) (by decide +kernel)
theorem w_1256 : (Jvm.Cond.instanceMethod ({ cls := "WhileSheLooksModel", name := "wobbles", desc := "(I)I" } : Jvm.MethodName)) ∈ TB := TB_of 1256 (by decide +kernel) (by decide +kernel)
theorem w_1257 : (Jvm.Cond.code ({ cls := "WhileSheLooksModel", name := "wobbles", desc := "(I)I" } : Jvm.MethodName) prog_14_method_40_code (3 : Nat) (Option.some Jvm.ClassFile.FieldType.int)) ∈ TB := TB_of 1257 (by decide +kernel) (by decide +kernel)
theorem w_1258 : (Jvm.Cond.methodLink "WhileSheLooksModel" (322 : Nat) ({ cls := "WhileSheLooksModel", name := "shake", desc := "(I)I" } : Jvm.MethodName)) ∈ TB := TB_of 1258 (by decide +kernel) (by decide +kernel)
theorem w_1260 : (Jvm.Cond.instanceMethod ({ cls := "WhileSheLooksModel", name := "shake", desc := "(I)I" } : Jvm.MethodName)) ∈ TB := TB_of 1260 (by decide +kernel) (by decide +kernel)
theorem w_1261 : (Jvm.Cond.code ({ cls := "WhileSheLooksModel", name := "shake", desc := "(I)I" } : Jvm.MethodName) prog_14_method_36_code (4 : Nat) (Option.some Jvm.ClassFile.FieldType.int)) ∈ TB := TB_of 1261 (by decide +kernel) (by decide +kernel)
theorem w_1262 : (Jvm.Cond.methodLink "WhileSheLooksModel" (313 : Nat) ({ cls := "WhileSheLooksModel", name := "holds", desc := "(II)Z" } : Jvm.MethodName)) ∈ TB := TB_of 1262 (by decide +kernel) (by decide +kernel)
theorem w_1264 : (Jvm.Cond.instanceMethod ({ cls := "WhileSheLooksModel", name := "holds", desc := "(II)Z" } : Jvm.MethodName)) ∈ TB := TB_of 1264 (by decide +kernel) (by decide +kernel)
theorem w_1265 : (Jvm.Cond.code ({ cls := "WhileSheLooksModel", name := "holds", desc := "(II)Z" } : Jvm.MethodName) prog_14_method_35_code (8 : Nat) (Option.some Jvm.ClassFile.FieldType.boolean)) ∈ TB := TB_of 1265 (by decide +kernel) (by decide +kernel)
theorem w_1266 : (Jvm.Cond.methodLink "WhileSheLooksModel" (310 : Nat) ({ cls := "WhileSheLooksModel", name := "factOf", desc := "(II)I" } : Jvm.MethodName)) ∈ TB := TB_of 1266 (by decide +kernel) (by decide +kernel)
theorem w_1268 : (Jvm.Cond.instanceMethod ({ cls := "WhileSheLooksModel", name := "factOf", desc := "(II)I" } : Jvm.MethodName)) ∈ TB := TB_of 1268 (by decide +kernel) (by decide +kernel)
theorem w_1269 : (Jvm.Cond.code ({ cls := "WhileSheLooksModel", name := "factOf", desc := "(II)I" } : Jvm.MethodName) prog_14_method_34_code (3 : Nat) (Option.some Jvm.ClassFile.FieldType.int)) ∈ TB := TB_of 1269 (by decide +kernel) (by decide +kernel)
theorem w_1270 : (Jvm.Cond.methodLink "WhileSheLooksModel" (325 : Nat) ({ cls := "WhileSheLooksModel", name := "least0", desc := "(I)I" } : Jvm.MethodName)) ∈ TB := TB_of 1270 (by decide +kernel) (by decide +kernel)
theorem w_1272 : (Jvm.Cond.instanceMethod ({ cls := "WhileSheLooksModel", name := "least0", desc := "(I)I" } : Jvm.MethodName)) ∈ TB := TB_of 1272 (by decide +kernel) (by decide +kernel)
theorem w_1273 : (Jvm.Cond.code ({ cls := "WhileSheLooksModel", name := "least0", desc := "(I)I" } : Jvm.MethodName) prog_14_method_39_code (2 : Nat) (Option.some Jvm.ClassFile.FieldType.int)) ∈ TB := TB_of 1273 (by decide +kernel) (by decide +kernel)
theorem w_1278 : (Jvm.Cond.methodLink "WhileSheLooksModel" (334 : Nat) ({ cls := "WhileSheLooksModel", name := "sharp", desc := "()I" } : Jvm.MethodName)) ∈ TB := TB_of 1278 (by decide +kernel) (by decide +kernel)
theorem w_1280 : (Jvm.Cond.instanceMethod ({ cls := "WhileSheLooksModel", name := "sharp", desc := "()I" } : Jvm.MethodName)) ∈ TB := TB_of 1280 (by decide +kernel) (by decide +kernel)
theorem w_1281 : (Jvm.Cond.code ({ cls := "WhileSheLooksModel", name := "sharp", desc := "()I" } : Jvm.MethodName) prog_14_method_31_code (1 : Nat) (Option.some Jvm.ClassFile.FieldType.int)) ∈ TB := TB_of 1281 (by decide +kernel) (by decide +kernel)
theorem w_1282 : (Jvm.Cond.methodLink "WhileSheLooksModel" (337 : Nat) ({ cls := "WhileSheLooksModel", name := "sees", desc := "()I" } : Jvm.MethodName)) ∈ TB := TB_of 1282 (by decide +kernel) (by decide +kernel)
theorem w_1284 : (Jvm.Cond.instanceMethod ({ cls := "WhileSheLooksModel", name := "sees", desc := "()I" } : Jvm.MethodName)) ∈ TB := TB_of 1284 (by decide +kernel) (by decide +kernel)
theorem w_1285 : (Jvm.Cond.code ({ cls := "WhileSheLooksModel", name := "sees", desc := "()I" } : Jvm.MethodName) prog_14_method_32_code (1 : Nat) (Option.some Jvm.ClassFile.FieldType.int)) ∈ TB := TB_of 1285 (by decide +kernel) (by decide +kernel)
theorem w_1290 : (Jvm.Cond.methodLink "WhileSheLooksModel" (343 : Nat) ({ cls := "WhileSheLooksModel", name := "goTurn", desc := "()I" } : Jvm.MethodName)) ∈ TB := TB_of 1290 (by decide +kernel) (by decide +kernel)
theorem w_1292 : (Jvm.Cond.instanceMethod ({ cls := "WhileSheLooksModel", name := "goTurn", desc := "()I" } : Jvm.MethodName)) ∈ TB := TB_of 1292 (by decide +kernel) (by decide +kernel)
theorem w_1293 : (Jvm.Cond.code ({ cls := "WhileSheLooksModel", name := "goTurn", desc := "()I" } : Jvm.MethodName) prog_14_method_44_code (3 : Nat) (Option.some Jvm.ClassFile.FieldType.int)) ∈ TB := TB_of 1293 (by decide +kernel) (by decide +kernel)
theorem w_1294 : (Jvm.Cond.methodLink "WhileSheLooksModel" (340 : Nat) ({ cls := "WhileSheLooksModel", name := "ahead", desc := "(I)I" } : Jvm.MethodName)) ∈ TB := TB_of 1294 (by decide +kernel) (by decide +kernel)
theorem w_1296 : (Jvm.Cond.instanceMethod ({ cls := "WhileSheLooksModel", name := "ahead", desc := "(I)I" } : Jvm.MethodName)) ∈ TB := TB_of 1296 (by decide +kernel) (by decide +kernel)
theorem w_1297 : (Jvm.Cond.code ({ cls := "WhileSheLooksModel", name := "ahead", desc := "(I)I" } : Jvm.MethodName) prog_14_method_43_code (4 : Nat) (Option.some Jvm.ClassFile.FieldType.int)) ∈ TB := TB_of 1297 (by decide +kernel) (by decide +kernel)
theorem w_1302 : (Jvm.Cond.methodLink "WhileSheLooksModel" (353 : Nat) ({ cls := "WhileSheLooksModel", name := "lay", desc := "(I)V" } : Jvm.MethodName)) ∈ TB := TB_of 1302 (by decide +kernel) (by decide +kernel)
theorem w_1304 : (Jvm.Cond.instanceMethod ({ cls := "WhileSheLooksModel", name := "lay", desc := "(I)V" } : Jvm.MethodName)) ∈ TB := TB_of 1304 (by decide +kernel) (by decide +kernel)
theorem w_1305 : (Jvm.Cond.code ({ cls := "WhileSheLooksModel", name := "lay", desc := "(I)V" } : Jvm.MethodName) prog_14_method_48_code (3 : Nat) (Option.none : Option Jvm.ClassFile.FieldType)) ∈ TB := TB_of 1305 (by decide +kernel) (by decide +kernel)
theorem w_1306 : (Jvm.Cond.methodLink "WhileSheLooksModel" (347 : Nat) ({ cls := "WhileSheLooksModel", name := "save", desc := "()V" } : Jvm.MethodName)) ∈ TB := TB_of 1306 (by decide +kernel) (by decide +kernel)
theorem w_1308 : (Jvm.Cond.instanceMethod ({ cls := "WhileSheLooksModel", name := "save", desc := "()V" } : Jvm.MethodName)) ∈ TB := TB_of 1308 (by decide +kernel) (by decide +kernel)
theorem w_1309 : (Jvm.Cond.code ({ cls := "WhileSheLooksModel", name := "save", desc := "()V" } : Jvm.MethodName) prog_14_method_46_code (2 : Nat) (Option.none : Option Jvm.ClassFile.FieldType)) ∈ TB := TB_of 1309 (by decide +kernel) (by decide +kernel)
theorem w_1310 : (Jvm.Cond.constant "WhileSheLooksModel" (346 : Nat) (2000000000 : Int32)) ∈ TB := TB_of 1310 (by decide +kernel) (by decide +kernel)
theorem w_1311 : (Jvm.Cond.methodLink "WhileSheLooksModel" (350 : Nat) ({ cls := "WhileSheLooksModel", name := "putBack", desc := "()V" } : Jvm.MethodName)) ∈ TB := TB_of 1311 (by decide +kernel) (by decide +kernel)
theorem w_1313 : (Jvm.Cond.instanceMethod ({ cls := "WhileSheLooksModel", name := "putBack", desc := "()V" } : Jvm.MethodName)) ∈ TB := TB_of 1313 (by decide +kernel) (by decide +kernel)
theorem w_1314 : (Jvm.Cond.code ({ cls := "WhileSheLooksModel", name := "putBack", desc := "()V" } : Jvm.MethodName) prog_14_method_47_code (2 : Nat) (Option.none : Option Jvm.ClassFile.FieldType)) ∈ TB := TB_of 1314 (by decide +kernel) (by decide +kernel)
theorem w_1315 : (Jvm.Cond.methodLink "WhileSheLooksModel" (356 : Nat) ({ cls := "WhileSheLooksModel", name := "ones", desc := "(I)I" } : Jvm.MethodName)) ∈ TB := TB_of 1315 (by decide +kernel) (by decide +kernel)
theorem w_1317 : (Jvm.Cond.instanceMethod ({ cls := "WhileSheLooksModel", name := "ones", desc := "(I)I" } : Jvm.MethodName)) ∈ TB := TB_of 1317 (by decide +kernel) (by decide +kernel)
theorem w_1318 : (Jvm.Cond.code ({ cls := "WhileSheLooksModel", name := "ones", desc := "(I)I" } : Jvm.MethodName) prog_14_method_4_code (4 : Nat) (Option.some Jvm.ClassFile.FieldType.int)) ∈ TB := TB_of 1318 (by decide +kernel) (by decide +kernel)
theorem w_1323 : (Jvm.Cond.methodLink "WhileSheLooksModel" (359 : Nat) ({ cls := "WhileSheLooksModel", name := "touchesOf", desc := "(I)I" } : Jvm.MethodName)) ∈ TB := TB_of 1323 (by decide +kernel) (by decide +kernel)
theorem w_1325 : (Jvm.Cond.instanceMethod ({ cls := "WhileSheLooksModel", name := "touchesOf", desc := "(I)I" } : Jvm.MethodName)) ∈ TB := TB_of 1325 (by decide +kernel) (by decide +kernel)
theorem w_1326 : (Jvm.Cond.code ({ cls := "WhileSheLooksModel", name := "touchesOf", desc := "(I)I" } : Jvm.MethodName) prog_14_method_50_code (4 : Nat) (Option.some Jvm.ClassFile.FieldType.int)) ∈ TB := TB_of 1326 (by decide +kernel) (by decide +kernel)
theorem w_1343 : (Jvm.Cond.methodLink "WhileSheLooksModel" (362 : Nat) ({ cls := "WhileSheLooksModel", name := "keepCounts", desc := "()V" } : Jvm.MethodName)) ∈ TB := TB_of 1343 (by decide +kernel) (by decide +kernel)
theorem w_1345 : (Jvm.Cond.instanceMethod ({ cls := "WhileSheLooksModel", name := "keepCounts", desc := "()V" } : Jvm.MethodName)) ∈ TB := TB_of 1345 (by decide +kernel) (by decide +kernel)
theorem w_1346 : (Jvm.Cond.code ({ cls := "WhileSheLooksModel", name := "keepCounts", desc := "()V" } : Jvm.MethodName) prog_14_method_55_code (2 : Nat) (Option.none : Option Jvm.ClassFile.FieldType)) ∈ TB := TB_of 1346 (by decide +kernel) (by decide +kernel)
theorem w_1347 : (Jvm.Cond.methodLink "WhileSheLooksModel" (365 : Nat) ({ cls := "WhileSheLooksModel", name := "wallBehind", desc := "(I)I" } : Jvm.MethodName)) ∈ TB := TB_of 1347 (by decide +kernel) (by decide +kernel)
theorem w_1349 : (Jvm.Cond.instanceMethod ({ cls := "WhileSheLooksModel", name := "wallBehind", desc := "(I)I" } : Jvm.MethodName)) ∈ TB := TB_of 1349 (by decide +kernel) (by decide +kernel)
theorem w_1350 : (Jvm.Cond.code ({ cls := "WhileSheLooksModel", name := "wallBehind", desc := "(I)I" } : Jvm.MethodName) prog_14_method_57_code (2 : Nat) (Option.some Jvm.ClassFile.FieldType.int)) ∈ TB := TB_of 1350 (by decide +kernel) (by decide +kernel)
theorem w_1351 : (Jvm.Cond.methodLink "WhileSheLooksModel" (368 : Nat) ({ cls := "WhileSheLooksModel", name := "putCounts", desc := "()V" } : Jvm.MethodName)) ∈ TB := TB_of 1351 (by decide +kernel) (by decide +kernel)
theorem w_1353 : (Jvm.Cond.instanceMethod ({ cls := "WhileSheLooksModel", name := "putCounts", desc := "()V" } : Jvm.MethodName)) ∈ TB := TB_of 1353 (by decide +kernel) (by decide +kernel)
theorem w_1354 : (Jvm.Cond.code ({ cls := "WhileSheLooksModel", name := "putCounts", desc := "()V" } : Jvm.MethodName) prog_14_method_56_code (2 : Nat) (Option.none : Option Jvm.ClassFile.FieldType)) ∈ TB := TB_of 1354 (by decide +kernel) (by decide +kernel)
theorem w_1371 : (Jvm.Cond.methodLink "WhileSheLooksModel" (371 : Nat) ({ cls := "WhileSheLooksModel", name := "comeBy", desc := "(III)I" } : Jvm.MethodName)) ∈ TB := TB_of 1371 (by decide +kernel) (by decide +kernel)
theorem w_1373 : (Jvm.Cond.instanceMethod ({ cls := "WhileSheLooksModel", name := "comeBy", desc := "(III)I" } : Jvm.MethodName)) ∈ TB := TB_of 1373 (by decide +kernel) (by decide +kernel)
theorem w_1374 : (Jvm.Cond.code ({ cls := "WhileSheLooksModel", name := "comeBy", desc := "(III)I" } : Jvm.MethodName) prog_14_method_62_code (6 : Nat) (Option.some Jvm.ClassFile.FieldType.int)) ∈ TB := TB_of 1374 (by decide +kernel) (by decide +kernel)
theorem w_1387 : (Jvm.Cond.methodLink "WhileSheLooksModel" (375 : Nat) ({ cls := "WhileSheLooksModel", name := "isSeen", desc := "()Z" } : Jvm.MethodName)) ∈ TB := TB_of 1387 (by decide +kernel) (by decide +kernel)
theorem w_1389 : (Jvm.Cond.instanceMethod ({ cls := "WhileSheLooksModel", name := "isSeen", desc := "()Z" } : Jvm.MethodName)) ∈ TB := TB_of 1389 (by decide +kernel) (by decide +kernel)
theorem w_1390 : (Jvm.Cond.code ({ cls := "WhileSheLooksModel", name := "isSeen", desc := "()Z" } : Jvm.MethodName) prog_14_method_66_code (2 : Nat) (Option.some Jvm.ClassFile.FieldType.boolean)) ∈ TB := TB_of 1390 (by decide +kernel) (by decide +kernel)
theorem w_1399 : (Jvm.Cond.constantLong "WhileSheLooksModel" (381 : Nat) (-9223372036854775808 : Int64)) ∈ TB := TB_of 1399 (by decide +kernel) (by decide +kernel)
theorem w_1400 : (Jvm.Cond.methodLink "WhileSheLooksModel" (383 : Nat) ({ cls := "WhileSheLooksModel", name := "lowest", desc := "(III)J" } : Jvm.MethodName)) ∈ TB := TB_of 1400 (by decide +kernel) (by decide +kernel)
theorem w_1402 : (Jvm.Cond.instanceMethod ({ cls := "WhileSheLooksModel", name := "lowest", desc := "(III)J" } : Jvm.MethodName)) ∈ TB := TB_of 1402 (by decide +kernel) (by decide +kernel)
theorem w_1403 : (Jvm.Cond.code ({ cls := "WhileSheLooksModel", name := "lowest", desc := "(III)J" } : Jvm.MethodName) prog_14_method_70_code (5 : Nat) (Option.some Jvm.ClassFile.FieldType.long)) ∈ TB := TB_of 1403 (by decide +kernel) (by decide +kernel)
theorem w_1404 : (Jvm.Cond.methodLink "WhileSheLooksModel" (378 : Nat) ({ cls := "WhileSheLooksModel", name := "divisor", desc := "(II)I" } : Jvm.MethodName)) ∈ TB := TB_of 1404 (by decide +kernel) (by decide +kernel)
theorem w_1406 : (Jvm.Cond.instanceMethod ({ cls := "WhileSheLooksModel", name := "divisor", desc := "(II)I" } : Jvm.MethodName)) ∈ TB := TB_of 1406 (by decide +kernel) (by decide +kernel)
theorem w_1407 : (Jvm.Cond.code ({ cls := "WhileSheLooksModel", name := "divisor", desc := "(II)I" } : Jvm.MethodName) prog_14_method_69_code (6 : Nat) (Option.some Jvm.ClassFile.FieldType.int)) ∈ TB := TB_of 1407 (by decide +kernel) (by decide +kernel)
theorem w_1424 : (Jvm.Cond.methodLink "WhileSheLooksModel" (387 : Nat) ({ cls := "WhileSheLooksModel", name := "isTape", desc := "(I)Z" } : Jvm.MethodName)) ∈ TB := TB_of 1424 (by decide +kernel) (by decide +kernel)
theorem w_1426 : (Jvm.Cond.instanceMethod ({ cls := "WhileSheLooksModel", name := "isTape", desc := "(I)Z" } : Jvm.MethodName)) ∈ TB := TB_of 1426 (by decide +kernel) (by decide +kernel)
theorem w_1427 : (Jvm.Cond.code ({ cls := "WhileSheLooksModel", name := "isTape", desc := "(I)Z" } : Jvm.MethodName) prog_14_method_90_code (2 : Nat) (Option.some Jvm.ClassFile.FieldType.boolean)) ∈ TB := TB_of 1427 (by decide +kernel) (by decide +kernel)
theorem w_1440 : (Jvm.Cond.methodLink "WhileSheLooksModel" (396 : Nat) ({ cls := "WhileSheLooksModel", name := "runsAct", desc := "(II)I" } : Jvm.MethodName)) ∈ TB := TB_of 1440 (by decide +kernel) (by decide +kernel)
theorem w_1442 : (Jvm.Cond.instanceMethod ({ cls := "WhileSheLooksModel", name := "runsAct", desc := "(II)I" } : Jvm.MethodName)) ∈ TB := TB_of 1442 (by decide +kernel) (by decide +kernel)
theorem w_1443 : (Jvm.Cond.code ({ cls := "WhileSheLooksModel", name := "runsAct", desc := "(II)I" } : Jvm.MethodName) prog_14_method_80_code (3 : Nat) (Option.some Jvm.ClassFile.FieldType.int)) ∈ TB := TB_of 1443 (by decide +kernel) (by decide +kernel)
theorem w_1444 : (Jvm.Cond.methodLink "WhileSheLooksModel" (390 : Nat) ({ cls := "WhileSheLooksModel", name := "body", desc := "(I)V" } : Jvm.MethodName)) ∈ TB := TB_of 1444 (by decide +kernel) (by decide +kernel)
theorem w_1446 : (Jvm.Cond.instanceMethod ({ cls := "WhileSheLooksModel", name := "body", desc := "(I)V" } : Jvm.MethodName)) ∈ TB := TB_of 1446 (by decide +kernel) (by decide +kernel)
theorem w_1447 : (Jvm.Cond.code ({ cls := "WhileSheLooksModel", name := "body", desc := "(I)V" } : Jvm.MethodName) prog_14_method_78_code (2 : Nat) (Option.none : Option Jvm.ClassFile.FieldType)) ∈ TB := TB_of 1447 (by decide +kernel) (by decide +kernel)
theorem w_1448 : (Jvm.Cond.methodLink "WhileSheLooksModel" (393 : Nat) ({ cls := "WhileSheLooksModel", name := "childRuns", desc := "(II)I" } : Jvm.MethodName)) ∈ TB := TB_of 1448 (by decide +kernel) (by decide +kernel)
theorem w_1450 : (Jvm.Cond.instanceMethod ({ cls := "WhileSheLooksModel", name := "childRuns", desc := "(II)I" } : Jvm.MethodName)) ∈ TB := TB_of 1450 (by decide +kernel) (by decide +kernel)
theorem w_1451 : (Jvm.Cond.code ({ cls := "WhileSheLooksModel", name := "childRuns", desc := "(II)I" } : Jvm.MethodName) prog_14_method_79_code (3 : Nat) (Option.some Jvm.ClassFile.FieldType.int)) ∈ TB := TB_of 1451 (by decide +kernel) (by decide +kernel)
theorem w_1452 : (Jvm.Cond.methodLink "WhileSheLooksModel" (405 : Nat) ({ cls := "WhileSheLooksModel", name := "standsAct", desc := "(II)I" } : Jvm.MethodName)) ∈ TB := TB_of 1452 (by decide +kernel) (by decide +kernel)
theorem w_1454 : (Jvm.Cond.instanceMethod ({ cls := "WhileSheLooksModel", name := "standsAct", desc := "(II)I" } : Jvm.MethodName)) ∈ TB := TB_of 1454 (by decide +kernel) (by decide +kernel)
theorem w_1455 : (Jvm.Cond.code ({ cls := "WhileSheLooksModel", name := "standsAct", desc := "(II)I" } : Jvm.MethodName) prog_14_method_83_code (4 : Nat) (Option.some Jvm.ClassFile.FieldType.int)) ∈ TB := TB_of 1455 (by decide +kernel) (by decide +kernel)
theorem w_1456 : (Jvm.Cond.methodLink "WhileSheLooksModel" (402 : Nat) ({ cls := "WhileSheLooksModel", name := "quickStands", desc := "(II)I" } : Jvm.MethodName)) ∈ TB := TB_of 1456 (by decide +kernel) (by decide +kernel)
theorem w_1458 : (Jvm.Cond.instanceMethod ({ cls := "WhileSheLooksModel", name := "quickStands", desc := "(II)I" } : Jvm.MethodName)) ∈ TB := TB_of 1458 (by decide +kernel) (by decide +kernel)
theorem w_1459 : (Jvm.Cond.code ({ cls := "WhileSheLooksModel", name := "quickStands", desc := "(II)I" } : Jvm.MethodName) prog_14_method_82_code (3 : Nat) (Option.some Jvm.ClassFile.FieldType.int)) ∈ TB := TB_of 1459 (by decide +kernel) (by decide +kernel)
theorem w_1460 : (Jvm.Cond.methodLink "WhileSheLooksModel" (399 : Nat) ({ cls := "WhileSheLooksModel", name := "childStands", desc := "(II)I" } : Jvm.MethodName)) ∈ TB := TB_of 1460 (by decide +kernel) (by decide +kernel)
theorem w_1462 : (Jvm.Cond.instanceMethod ({ cls := "WhileSheLooksModel", name := "childStands", desc := "(II)I" } : Jvm.MethodName)) ∈ TB := TB_of 1462 (by decide +kernel) (by decide +kernel)
theorem w_1463 : (Jvm.Cond.code ({ cls := "WhileSheLooksModel", name := "childStands", desc := "(II)I" } : Jvm.MethodName) prog_14_method_81_code (3 : Nat) (Option.some Jvm.ClassFile.FieldType.int)) ∈ TB := TB_of 1463 (by decide +kernel) (by decide +kernel)
theorem w_1464 : (Jvm.Cond.methodLink "WhileSheLooksModel" (411 : Nat) ({ cls := "WhileSheLooksModel", name := "tellsAct", desc := "(II)I" } : Jvm.MethodName)) ∈ TB := TB_of 1464 (by decide +kernel) (by decide +kernel)
theorem w_1466 : (Jvm.Cond.instanceMethod ({ cls := "WhileSheLooksModel", name := "tellsAct", desc := "(II)I" } : Jvm.MethodName)) ∈ TB := TB_of 1466 (by decide +kernel) (by decide +kernel)
theorem w_1467 : (Jvm.Cond.code ({ cls := "WhileSheLooksModel", name := "tellsAct", desc := "(II)I" } : Jvm.MethodName) prog_14_method_85_code (4 : Nat) (Option.some Jvm.ClassFile.FieldType.int)) ∈ TB := TB_of 1467 (by decide +kernel) (by decide +kernel)
theorem w_1468 : (Jvm.Cond.methodLink "WhileSheLooksModel" (408 : Nat) ({ cls := "WhileSheLooksModel", name := "childTells", desc := "(II)I" } : Jvm.MethodName)) ∈ TB := TB_of 1468 (by decide +kernel) (by decide +kernel)
theorem w_1470 : (Jvm.Cond.instanceMethod ({ cls := "WhileSheLooksModel", name := "childTells", desc := "(II)I" } : Jvm.MethodName)) ∈ TB := TB_of 1470 (by decide +kernel) (by decide +kernel)
theorem w_1471 : (Jvm.Cond.code ({ cls := "WhileSheLooksModel", name := "childTells", desc := "(II)I" } : Jvm.MethodName) prog_14_method_84_code (3 : Nat) (Option.some Jvm.ClassFile.FieldType.int)) ∈ TB := TB_of 1471 (by decide +kernel) (by decide +kernel)
theorem w_1492 : (Jvm.Cond.methodLink "WhileSheLooksModel" (414 : Nat) ({ cls := "WhileSheLooksModel", name := "narrow", desc := "(IJ)J" } : Jvm.MethodName)) ∈ TB := TB_of 1492 (by decide +kernel) (by decide +kernel)
theorem w_1494 : (Jvm.Cond.instanceMethod ({ cls := "WhileSheLooksModel", name := "narrow", desc := "(IJ)J" } : Jvm.MethodName)) ∈ TB := TB_of 1494 (by decide +kernel) (by decide +kernel)
theorem w_1495 : (Jvm.Cond.code ({ cls := "WhileSheLooksModel", name := "narrow", desc := "(IJ)J" } : Jvm.MethodName) prog_14_method_92_code (4 : Nat) (Option.some Jvm.ClassFile.FieldType.long)) ∈ TB := TB_of 1495 (by decide +kernel) (by decide +kernel)
theorem w_1504 : (Jvm.Cond.constantLong "WhileSheLooksLaw" (158 : Nat) (4294967295 : Int64)) ∈ TB := TB_of 1504 (by decide +kernel) (by decide +kernel)
theorem w_1505 : (Jvm.Cond.sameMethod "WhileSheLooks$Quick" "WhileSheLooks$Quick" "paceOf" "(II)I") ∈ TB := TB_of 1505 (by decide +kernel) (by decide +kernel)
theorem w_1506 : (Jvm.Cond.sameMethod "WhileSheLooks$Small" "WhileSheLooks$Small" "paceOf" "(II)I") ∈ TB := TB_of 1506 (by decide +kernel) (by decide +kernel)
theorem w_1507 : (Jvm.Cond.sameMethod "WhileSheLooks$Steady" "WhileSheLooks$Steady" "wobblesOf" "(IIIII)I") ∈ TB := TB_of 1507 (by decide +kernel) (by decide +kernel)
theorem w_1508 : (Jvm.Cond.sameMethod "WhileSheLooks$Quick" "WhileSheLooks$Quick" "standing" "(LWhileSheLooks$Acts;I)I") ∈ TB := TB_of 1508 (by decide +kernel) (by decide +kernel)
theorem w_1515 : (Jvm.Cond.fieldLink "java/lang/String" (9 : Nat) "java/lang/String" "value" "[B") ∈ TB := TB_of 1515 (by decide +kernel) (by decide +kernel)
theorem w_1516 : (Jvm.Cond.fieldLink "java/lang/String" (15 : Nat) "java/lang/String" "coder" "B") ∈ TB := TB_of 1516 (by decide +kernel) (by decide +kernel)
abbrev mX11_init : MI := (yX11_init, cX11_init, 2, (Option.none : Option Jvm.ClassFile.FieldType))
abbrev mX2_init : MI := (yX2_init, cX2_init, 1, (Option.none : Option Jvm.ClassFile.FieldType))
abbrev mX3_init : MI := (yX3_init, cX3_init, 1, (Option.none : Option Jvm.ClassFile.FieldType))
abbrev mX7_init : MI := (yX7_init, cX7_init, 1, (Option.none : Option Jvm.ClassFile.FieldType))
abbrev mX6_init : MI := (yX6_init, cX6_init, 1, (Option.none : Option Jvm.ClassFile.FieldType))
abbrev mX4_init : MI := (yX4_init, cX4_init, 1, (Option.none : Option Jvm.ClassFile.FieldType))
abbrev mX1_init : MI := (yX1_init, cX1_init, 1, (Option.none : Option Jvm.ClassFile.FieldType))
abbrev mX8_init : MI := (yX8_init, cX8_init, 1, (Option.none : Option Jvm.ClassFile.FieldType))
abbrev mX10_init : MI := (yX10_init, cX10_init, 2, (Option.none : Option Jvm.ClassFile.FieldType))
abbrev mX5_init : MI := (yX5_init, cX5_init, 3, (Option.none : Option Jvm.ClassFile.FieldType))
abbrev mX9_init : MI := (yX9_init, cX9_init, 2, (Option.none : Option Jvm.ClassFile.FieldType))
abbrev mJ0_length_8abf5 : MI := (yJ0_length_8abf5, cJ0_length_8abf5, 1, (Option.some Jvm.ClassFile.FieldType.int))
abbrev mJ0_coder_7d493 : MI := (yJ0_coder_7d493, cJ0_coder_7d493, 1, (Option.some Jvm.ClassFile.FieldType.byte))
abbrev mX0_init : MI := (yX0_init, cX0_init, 1, (Option.none : Option Jvm.ClassFile.FieldType))
abbrev mX11_child : MI := (yX11_child, cX11_child, 3, (Option.some Jvm.ClassFile.FieldType.int))
abbrev mX11_within : MI := (yX11_within, cX11_within, 3, (Option.some Jvm.ClassFile.FieldType.boolean))
abbrev mX5_addChild : MI := (yX5_addChild, cX5_addChild, 5, (Option.some Jvm.ClassFile.FieldType.int))
abbrev mX11_of : MI := (yX11_of, cX11_of, 3, (Option.some Jvm.ClassFile.FieldType.int))
abbrev mX5_has : MI := (yX5_has, cX5_has, 2, (Option.some Jvm.ClassFile.FieldType.boolean))
abbrev mX9_foresee : MI := (yX9_foresee, cX9_foresee, 8, (Option.none : Option Jvm.ClassFile.FieldType))
abbrev mX5_placeNow : MI := (yX5_placeNow, cX5_placeNow, 1, (Option.some Jvm.ClassFile.FieldType.int))
abbrev mX1_paceOf : MI := (yX1_paceOf, cX1_paceOf, 3, (Option.some Jvm.ClassFile.FieldType.int))
abbrev mX3_paceOf : MI := (yX3_paceOf, cX3_paceOf, 3, (Option.some Jvm.ClassFile.FieldType.int))
abbrev mX4_paceOf : MI := (yX4_paceOf, cX4_paceOf, 3, (Option.some Jvm.ClassFile.FieldType.int))
abbrev mX6_paceOf : MI := (yX6_paceOf, cX6_paceOf, 3, (Option.some Jvm.ClassFile.FieldType.int))
abbrev mX8_paceOf : MI := (yX8_paceOf, cX8_paceOf, 3, (Option.some Jvm.ClassFile.FieldType.int))
abbrev mX2_paceOf : MI := (yX2_paceOf, cX2_paceOf, 3, (Option.some Jvm.ClassFile.FieldType.int))
abbrev mX10_shakeFor : MI := (yX10_shakeFor, cX10_shakeFor, 4, (Option.some Jvm.ClassFile.FieldType.int))
abbrev mX10_holds : MI := (yX10_holds, cX10_holds, 6, (Option.some Jvm.ClassFile.FieldType.boolean))
abbrev mX10_isSo : MI := (yX10_isSo, cX10_isSo, 4, (Option.some Jvm.ClassFile.FieldType.boolean))
abbrev mX1_wobblesOf : MI := (yX1_wobblesOf, cX1_wobblesOf, 6, (Option.some Jvm.ClassFile.FieldType.int))
abbrev mX7_wobblesOf : MI := (yX7_wobblesOf, cX7_wobblesOf, 6, (Option.some Jvm.ClassFile.FieldType.int))
abbrev mJ9_max_7cf53 : MI := (yJ9_max_7cf53, cJ9_max_7cf53, 2, (Option.some Jvm.ClassFile.FieldType.int))
abbrev mX4_wobblesOf : MI := (yX4_wobblesOf, cX4_wobblesOf, 6, (Option.some Jvm.ClassFile.FieldType.int))
abbrev mX6_wobblesOf : MI := (yX6_wobblesOf, cX6_wobblesOf, 6, (Option.some Jvm.ClassFile.FieldType.int))
abbrev mJ9_min_7cf53 : MI := (yJ9_min_7cf53, cJ9_min_7cf53, 2, (Option.some Jvm.ClassFile.FieldType.int))
abbrev mX2_wobblesOf : MI := (yX2_wobblesOf, cX2_wobblesOf, 6, (Option.some Jvm.ClassFile.FieldType.int))
abbrev mX5_isAtWall : MI := (yX5_isAtWall, cX5_isAtWall, 2, (Option.some Jvm.ClassFile.FieldType.boolean))
abbrev mX11_set : MI := (yX11_set, cX11_set, 5, (Option.some Jvm.ClassFile.FieldType.int))
abbrev mX5_putOnTheWay : MI := (yX5_putOnTheWay, cX5_putOnTheWay, 3, (Option.none : Option Jvm.ClassFile.FieldType))
abbrev mX11_row : MI := (yX11_row, cX11_row, 5, (Option.some Jvm.ClassFile.FieldType.int))
abbrev mX11_counts : MI := (yX11_counts, cX11_counts, 4, (Option.some Jvm.ClassFile.FieldType.int))
abbrev mX11_feed : MI := (yX11_feed, cX11_feed, 2, (Option.some Jvm.ClassFile.FieldType.int))
abbrev mX11_yard : MI := (yX11_yard, cX11_yard, 3, (Option.some Jvm.ClassFile.FieldType.int))
abbrev mX10_faultOf : MI := (yX10_faultOf, cX10_faultOf, 3, (Option.some Jvm.ClassFile.FieldType.int))
abbrev mX10_readClause : MI := (yX10_readClause, cX10_readClause, 4, (Option.some Jvm.ClassFile.FieldType.boolean))
abbrev mX10_readWord : MI := (yX10_readWord, cX10_readWord, 5, (Option.some Jvm.ClassFile.FieldType.int))
abbrev mX10_wordOf : MI := (yX10_wordOf, cX10_wordOf, 1, (Option.some (Jvm.ClassFile.FieldType.object "java/lang/String")))
abbrev mX10_sameAs : MI := (yX10_sameAs, cX10_sameAs, 3, (Option.some Jvm.ClassFile.FieldType.int))
abbrev mX10_signAt : MI := (yX10_signAt, cX10_signAt, 2, (Option.some Jvm.ClassFile.FieldType.int))
abbrev mJ0_charAt_5068e : MI := (yJ0_charAt_5068e, cJ0_charAt_5068e, 2, (Option.some Jvm.ClassFile.FieldType.char))
abbrev mJ0_isLatin1_aae02 : MI := (yJ0_isLatin1_aae02, cJ0_isLatin1_aae02, 1, (Option.some Jvm.ClassFile.FieldType.boolean))
abbrev mJ1_charAt_3b067 : MI := (yJ1_charAt_3b067, cJ1_charAt_3b067, 2, (Option.some Jvm.ClassFile.FieldType.char))
abbrev mJ0_checkIndex_df160 : MI := (yJ0_checkIndex_df160, cJ0_checkIndex_df160, 2, (Option.none : Option Jvm.ClassFile.FieldType))
abbrev mJ3_checkIndex_8e157 : MI := (yJ3_checkIndex_8e157, cJ3_checkIndex_8e157, 3, (Option.some Jvm.ClassFile.FieldType.int))
abbrev mJ2_charAt_3b067 : MI := (yJ2_charAt_3b067, cJ2_charAt_3b067, 2, (Option.some Jvm.ClassFile.FieldType.char))
abbrev mJ2_checkIndex_2214a : MI := (yJ2_checkIndex_2214a, cJ2_checkIndex_2214a, 2, (Option.none : Option Jvm.ClassFile.FieldType))
abbrev mJ2_length_9d52b : MI := (yJ2_length_9d52b, cJ2_length_9d52b, 1, (Option.some Jvm.ClassFile.FieldType.int))
abbrev mJ2_getChar_3b067 : MI := (yJ2_getChar_3b067, cJ2_getChar_3b067, 2, (Option.some Jvm.ClassFile.FieldType.char))
abbrev mX10_skip : MI := (yX10_skip, cX10_skip, 2, (Option.some Jvm.ClassFile.FieldType.boolean))
abbrev mX10_readNumber : MI := (yX10_readNumber, cX10_readNumber, 3, (Option.some Jvm.ClassFile.FieldType.int))
abbrev mX10_isDigit : MI := (yX10_isDigit, cX10_isDigit, 1, (Option.some Jvm.ClassFile.FieldType.boolean))
abbrev mX10_readEither : MI := (yX10_readEither, cX10_readEither, 5, (Option.some Jvm.ClassFile.FieldType.boolean))
abbrev mX10_readPart : MI := (yX10_readPart, cX10_readPart, 3, (Option.some Jvm.ClassFile.FieldType.boolean))
abbrev mX10_readTest : MI := (yX10_readTest, cX10_readTest, 4, (Option.some Jvm.ClassFile.FieldType.boolean))
abbrev mX10_readOneOf : MI := (yX10_readOneOf, cX10_readOneOf, 4, (Option.some Jvm.ClassFile.FieldType.int))
abbrev mJ0_indexOf_0f7a4 : MI := (yJ0_indexOf_0f7a4, cJ0_indexOf_0f7a4, 2, (Option.some Jvm.ClassFile.FieldType.int))
abbrev mJ0_indexOf_7cf53 : MI := (yJ0_indexOf_7cf53, cJ0_indexOf_7cf53, 3, (Option.some Jvm.ClassFile.FieldType.int))
abbrev mJ1_indexOf_4cfef : MI := (yJ1_indexOf_4cfef, cJ1_indexOf_4cfef, 4, (Option.some Jvm.ClassFile.FieldType.int))
abbrev mJ1_canEncode_9a6ad : MI := (yJ1_canEncode_9a6ad, cJ1_canEncode_9a6ad, 1, (Option.some Jvm.ClassFile.FieldType.boolean))
abbrev mJ1_indexOfChar_4cfef : MI := (yJ1_indexOfChar_4cfef, cJ1_indexOfChar_4cfef, 6, (Option.some Jvm.ClassFile.FieldType.int))
abbrev mJ2_indexOf_4cfef : MI := (yJ2_indexOf_4cfef, cJ2_indexOf_4cfef, 4, (Option.some Jvm.ClassFile.FieldType.int))
abbrev mJ2_indexOfChar_4cfef : MI := (yJ2_indexOfChar_4cfef, cJ2_indexOfChar_4cfef, 4, (Option.some Jvm.ClassFile.FieldType.int))
abbrev mJ2_checkBoundsBeginEnd_d044e : MI := (yJ2_checkBoundsBeginEnd_d044e, cJ2_checkBoundsBeginEnd_d044e, 3, (Option.none : Option Jvm.ClassFile.FieldType))
abbrev mJ0_checkBoundsBeginEnd_23922 : MI := (yJ0_checkBoundsBeginEnd_23922, cJ0_checkBoundsBeginEnd_23922, 3, (Option.none : Option Jvm.ClassFile.FieldType))
abbrev mJ3_checkFromToIndex_8c36e : MI := (yJ3_checkFromToIndex_8c36e, cJ3_checkFromToIndex_8c36e, 4, (Option.some Jvm.ClassFile.FieldType.int))
abbrev mJ2_indexOfCharUnsafe_4cfef : MI := (yJ2_indexOfCharUnsafe_4cfef, cJ2_indexOfCharUnsafe_4cfef, 5, (Option.some Jvm.ClassFile.FieldType.int))
abbrev mJ2_indexOfSupplementary_4cfef : MI := (yJ2_indexOfSupplementary_4cfef, cJ2_indexOfSupplementary_4cfef, 7, (Option.some Jvm.ClassFile.FieldType.int))
abbrev mJ11_isValidCodePoint_9a6ad : MI := (yJ11_isValidCodePoint_9a6ad, cJ11_isValidCodePoint_9a6ad, 2, (Option.some Jvm.ClassFile.FieldType.boolean))
abbrev mJ11_highSurrogate_5068e : MI := (yJ11_highSurrogate_5068e, cJ11_highSurrogate_5068e, 1, (Option.some Jvm.ClassFile.FieldType.char))
abbrev mJ11_lowSurrogate_5068e : MI := (yJ11_lowSurrogate_5068e, cJ11_lowSurrogate_5068e, 1, (Option.some Jvm.ClassFile.FieldType.char))
abbrev mX10_addCode : MI := (yX10_addCode, cX10_addCode, 2, (Option.none : Option Jvm.ClassFile.FieldType))
abbrev mX10_addClause : MI := (yX10_addClause, cX10_addClause, 4, (Option.none : Option Jvm.ClassFile.FieldType))
abbrev mX11_told : MI := (yX11_told, cX11_told, 2, (Option.some Jvm.ClassFile.FieldType.int))
abbrev mX11_turn : MI := (yX11_turn, cX11_turn, 1, (Option.some Jvm.ClassFile.FieldType.int))
abbrev mX9_pass : MI := (yX9_pass, cX9_pass, 5, (Option.some Jvm.ClassFile.FieldType.int))
abbrev mX9_step : MI := (yX9_step, cX9_step, 6, (Option.some Jvm.ClassFile.FieldType.int))
abbrev mX9_goOn : MI := (yX9_goOn, cX9_goOn, 3, (Option.none : Option Jvm.ClassFile.FieldType))
abbrev mX9_whoIsSentBack : MI := (yX9_whoIsSentBack, cX9_whoIsSentBack, 6, (Option.some Jvm.ClassFile.FieldType.int))
abbrev mX9_lookedAtAhead : MI := (yX9_lookedAtAhead, cX9_lookedAtAhead, 6, (Option.some Jvm.ClassFile.FieldType.int))
abbrev mX11_on : MI := (yX11_on, cX11_on, 5, (Option.some Jvm.ClassFile.FieldType.int))
abbrev mX5_copyFrom : MI := (yX5_copyFrom, cX5_copyFrom, 2, (Option.none : Option Jvm.ClassFile.FieldType))
abbrev mJ6_bitCount_0f7a4 : MI := (yJ6_bitCount_0f7a4, cJ6_bitCount_0f7a4, 1, (Option.some Jvm.ClassFile.FieldType.int))
abbrev mX11_touches : MI := (yX11_touches, cX11_touches, 2, (Option.some Jvm.ClassFile.FieldType.int))
abbrev mX9_untilWall : MI := (yX9_untilWall, cX9_untilWall, 4, (Option.some Jvm.ClassFile.FieldType.int))
abbrev mX11_first : MI := (yX11_first, cX11_first, 3, (Option.some Jvm.ClassFile.FieldType.int))
abbrev mX5_everybody : MI := (yX5_everybody, cX5_everybody, 1, (Option.some Jvm.ClassFile.FieldType.int))
abbrev mX11_risks : MI := (yX11_risks, cX11_risks, 3, (Option.some Jvm.ClassFile.FieldType.int))
abbrev mX11_stands : MI := (yX11_stands, cX11_stands, 6, (Option.some Jvm.ClassFile.FieldType.int))
abbrev mX11_slow : MI := (yX11_slow, cX11_slow, 7, (Option.some Jvm.ClassFile.FieldType.int))
abbrev mX11_order : MI := (yX11_order, cX11_order, 7, (Option.some Jvm.ClassFile.FieldType.int))
abbrev mX11_namesEachPlace : MI := (yX11_namesEachPlace, cX11_namesEachPlace, 3, (Option.some Jvm.ClassFile.FieldType.boolean))
abbrev mX11_placeIn : MI := (yX11_placeIn, cX11_placeIn, 2, (Option.some Jvm.ClassFile.FieldType.int))
abbrev mX11_look : MI := (yX11_look, cX11_look, 4, (Option.some Jvm.ClassFile.FieldType.int))
abbrev mX11_needs : MI := (yX11_needs, cX11_needs, 4, (Option.some Jvm.ClassFile.FieldType.int))
abbrev mX11_held : MI := (yX11_held, cX11_held, 7, (Option.some Jvm.ClassFile.FieldType.int))
abbrev mX11_shield : MI := (yX11_shield, cX11_shield, 5, (Option.some Jvm.ClassFile.FieldType.int))
abbrev mX11_see : MI := (yX11_see, cX11_see, 4, (Option.some Jvm.ClassFile.FieldType.int))
abbrev mX5_addSeen : MI := (yX5_addSeen, cX5_addSeen, 4, (Option.some Jvm.ClassFile.FieldType.int))
abbrev mX11_since : MI := (yX11_since, cX11_since, 3, (Option.some Jvm.ClassFile.FieldType.int))
abbrev mX11_allSeenIsSo : MI := (yX11_allSeenIsSo, cX11_allSeenIsSo, 4, (Option.some Jvm.ClassFile.FieldType.boolean))
abbrev mX11_who : MI := (yX11_who, cX11_who, 5, (Option.some Jvm.ClassFile.FieldType.int))
abbrev mX11_odds : MI := (yX11_odds, cX11_odds, 5, (Option.some Jvm.ClassFile.FieldType.long))
abbrev mX11_partOfFraction : MI := (yX11_partOfFraction, cX11_partOfFraction, 5, (Option.some Jvm.ClassFile.FieldType.long))
abbrev mX11_mean : MI := (yX11_mean, cX11_mean, 5, (Option.some Jvm.ClassFile.FieldType.long))
abbrev mX11_book : MI := (yX11_book, cX11_book, 3, (Option.some Jvm.ClassFile.FieldType.int))
abbrev mX5_addToBook : MI := (yX5_addToBook, cX5_addToBook, 3, (Option.some Jvm.ClassFile.FieldType.int))
abbrev mX11_looked : MI := (yX11_looked, cX11_looked, 3, (Option.some Jvm.ClassFile.FieldType.int))
abbrev mX11_judge : MI := (yX11_judge, cX11_judge, 4, (Option.some Jvm.ClassFile.FieldType.int))
abbrev mX11_isTape : MI := (yX11_isTape, cX11_isTape, 1, (Option.some Jvm.ClassFile.FieldType.boolean))
abbrev mX11_image : MI := (yX11_image, cX11_image, 1, (Option.some Jvm.ClassFile.FieldType.int))
abbrev mX11_undo : MI := (yX11_undo, cX11_undo, 1, (Option.some Jvm.ClassFile.FieldType.int))
abbrev mX11_act : MI := (yX11_act, cX11_act, 5, (Option.some Jvm.ClassFile.FieldType.int))
abbrev mX7_running : MI := (yX7_running, cX7_running, 3, (Option.some Jvm.ClassFile.FieldType.int))
abbrev mX0_begin : MI := (yX0_begin, cX0_begin, 2, (Option.none : Option Jvm.ClassFile.FieldType))
abbrev mX4_running : MI := (yX4_running, cX4_running, 3, (Option.some Jvm.ClassFile.FieldType.int))
abbrev mX8_running : MI := (yX8_running, cX8_running, 3, (Option.some Jvm.ClassFile.FieldType.int))
abbrev mX2_running : MI := (yX2_running, cX2_running, 3, (Option.some Jvm.ClassFile.FieldType.int))
abbrev mX3_standing : MI := (yX3_standing, cX3_standing, 3, (Option.some Jvm.ClassFile.FieldType.int))
abbrev mX4_standing : MI := (yX4_standing, cX4_standing, 3, (Option.some Jvm.ClassFile.FieldType.int))
abbrev mX8_standing : MI := (yX8_standing, cX8_standing, 3, (Option.some Jvm.ClassFile.FieldType.int))
abbrev mX2_standing : MI := (yX2_standing, cX2_standing, 3, (Option.some Jvm.ClassFile.FieldType.int))
abbrev mX1_telling : MI := (yX1_telling, cX1_telling, 3, (Option.some Jvm.ClassFile.FieldType.int))
abbrev mX6_telling : MI := (yX6_telling, cX6_telling, 3, (Option.some Jvm.ClassFile.FieldType.int))
abbrev mX2_telling : MI := (yX2_telling, cX2_telling, 3, (Option.some Jvm.ClassFile.FieldType.int))
abbrev mX11_trace : MI := (yX11_trace, cX11_trace, 2, (Option.some Jvm.ClassFile.FieldType.int))
abbrev mX11_taken : MI := (yX11_taken, cX11_taken, 5, (Option.some Jvm.ClassFile.FieldType.int))
abbrev mX11_count : MI := (yX11_count, cX11_count, 2, (Option.some Jvm.ClassFile.FieldType.int))
abbrev mX11_tape : MI := (yX11_tape, cX11_tape, 5, (Option.some Jvm.ClassFile.FieldType.int))
abbrev mX11_item : MI := (yX11_item, cX11_item, 5, (Option.some Jvm.ClassFile.FieldType.int))
abbrev mX11_asItem : MI := (yX11_asItem, cX11_asItem, 3, (Option.some Jvm.ClassFile.FieldType.long))
abbrev mX11_read : MI := (yX11_read, cX11_read, 3, (Option.some Jvm.ClassFile.FieldType.long))
abbrev mX11_shift : MI := (yX11_shift, cX11_shift, 6, (Option.some Jvm.ClassFile.FieldType.int))
abbrev mX12_init : MI := (yX12_init, cX12_init, 1, (Option.none : Option Jvm.ClassFile.FieldType))
abbrev mX12_child : MI := (yX12_child, cX12_child, 4, (Option.some Jvm.ClassFile.FieldType.int))
abbrev mX12_in : MI := (yX12_in, cX12_in, 4, (Option.some Jvm.ClassFile.FieldType.boolean))
abbrev mX12_set : MI := (yX12_set, cX12_set, 5, (Option.some Jvm.ClassFile.FieldType.int))
abbrev mX12_isChild : MI := (yX12_isChild, cX12_isChild, 2, (Option.some Jvm.ClassFile.FieldType.boolean))
abbrev mX12_far : MI := (yX12_far, cX12_far, 2, (Option.some Jvm.ClassFile.FieldType.int))
abbrev mX12_lastOf : MI := (yX12_lastOf, cX12_lastOf, 5, (Option.some Jvm.ClassFile.FieldType.int))
abbrev mX12_begin : MI := (yX12_begin, cX12_begin, 1, (Option.some Jvm.ClassFile.FieldType.int))
abbrev mX12_behind : MI := (yX12_behind, cX12_behind, 1, (Option.some Jvm.ClassFile.FieldType.int))
abbrev mX12_row : MI := (yX12_row, cX12_row, 5, (Option.some Jvm.ClassFile.FieldType.int))
abbrev mX12_counts : MI := (yX12_counts, cX12_counts, 4, (Option.some Jvm.ClassFile.FieldType.int))
abbrev mX12_feed : MI := (yX12_feed, cX12_feed, 2, (Option.some Jvm.ClassFile.FieldType.int))
abbrev mX12_yard : MI := (yX12_yard, cX12_yard, 2, (Option.some Jvm.ClassFile.FieldType.int))
abbrev mX12_goesText : MI := (yX12_goesText, cX12_goesText, 3, (Option.some Jvm.ClassFile.FieldType.boolean))
abbrev mX12_takesClause : MI := (yX12_takesClause, cX12_takesClause, 2, (Option.some Jvm.ClassFile.FieldType.boolean))
abbrev mX12_takesHead : MI := (yX12_takesHead, cX12_takesHead, 2, (Option.some Jvm.ClassFile.FieldType.boolean))
abbrev mX12_next : MI := (yX12_next, cX12_next, 1, (Option.some Jvm.ClassFile.FieldType.int))
abbrev mX12_takesWord : MI := (yX12_takesWord, cX12_takesWord, 4, (Option.some Jvm.ClassFile.FieldType.boolean))
abbrev mX12_takes : MI := (yX12_takes, cX12_takes, 2, (Option.some Jvm.ClassFile.FieldType.boolean))
abbrev mX12_second : MI := (yX12_second, cX12_second, 1, (Option.some Jvm.ClassFile.FieldType.int))
abbrev mX12_takesNumber : MI := (yX12_takesNumber, cX12_takesNumber, 2, (Option.some Jvm.ClassFile.FieldType.boolean))
abbrev mX12_isDigit : MI := (yX12_isDigit, cX12_isDigit, 1, (Option.some Jvm.ClassFile.FieldType.boolean))
abbrev mX12_takesE : MI := (yX12_takesE, cX12_takesE, 4, (Option.some Jvm.ClassFile.FieldType.boolean))
abbrev mX12_takesTest : MI := (yX12_takesTest, cX12_takesTest, 3, (Option.some Jvm.ClassFile.FieldType.boolean))
abbrev mX12_place : MI := (yX12_place, cX12_place, 2, (Option.some Jvm.ClassFile.FieldType.int))
abbrev mX12_emits : MI := (yX12_emits, cX12_emits, 2, (Option.none : Option Jvm.ClassFile.FieldType))
abbrev mX12_whole : MI := (yX12_whole, cX12_whole, 1, (Option.none : Option Jvm.ClassFile.FieldType))
abbrev mX12_settle : MI := (yX12_settle, cX12_settle, 2, (Option.none : Option Jvm.ClassFile.FieldType))
abbrev mX12_of : MI := (yX12_of, cX12_of, 3, (Option.some Jvm.ClassFile.FieldType.int))
abbrev mX12_has : MI := (yX12_has, cX12_has, 3, (Option.some Jvm.ClassFile.FieldType.boolean))
abbrev mX12_pace : MI := (yX12_pace, cX12_pace, 3, (Option.some Jvm.ClassFile.FieldType.int))
abbrev mX12_goes : MI := (yX12_goes, cX12_goes, 2, (Option.some Jvm.ClassFile.FieldType.int))
abbrev mX12_countNow : MI := (yX12_countNow, cX12_countNow, 1, (Option.some Jvm.ClassFile.FieldType.int))
abbrev mX12_wobbles : MI := (yX12_wobbles, cX12_wobbles, 3, (Option.some Jvm.ClassFile.FieldType.int))
abbrev mX12_shake : MI := (yX12_shake, cX12_shake, 4, (Option.some Jvm.ClassFile.FieldType.int))
abbrev mX12_holds : MI := (yX12_holds, cX12_holds, 8, (Option.some Jvm.ClassFile.FieldType.boolean))
abbrev mX12_factOf : MI := (yX12_factOf, cX12_factOf, 3, (Option.some Jvm.ClassFile.FieldType.int))
abbrev mX12_least0 : MI := (yX12_least0, cX12_least0, 2, (Option.some Jvm.ClassFile.FieldType.int))
abbrev mX12_told : MI := (yX12_told, cX12_told, 2, (Option.some Jvm.ClassFile.FieldType.int))
abbrev mX12_sharp : MI := (yX12_sharp, cX12_sharp, 1, (Option.some Jvm.ClassFile.FieldType.int))
abbrev mX12_sees : MI := (yX12_sees, cX12_sees, 1, (Option.some Jvm.ClassFile.FieldType.int))
abbrev mX12_turn : MI := (yX12_turn, cX12_turn, 1, (Option.some Jvm.ClassFile.FieldType.int))
abbrev mX12_goTurn : MI := (yX12_goTurn, cX12_goTurn, 3, (Option.some Jvm.ClassFile.FieldType.int))
abbrev mX12_ahead : MI := (yX12_ahead, cX12_ahead, 4, (Option.some Jvm.ClassFile.FieldType.int))
abbrev mX12_on : MI := (yX12_on, cX12_on, 3, (Option.some Jvm.ClassFile.FieldType.int))
abbrev mX12_lay : MI := (yX12_lay, cX12_lay, 3, (Option.none : Option Jvm.ClassFile.FieldType))
abbrev mX12_save : MI := (yX12_save, cX12_save, 2, (Option.none : Option Jvm.ClassFile.FieldType))
abbrev mX12_putBack : MI := (yX12_putBack, cX12_putBack, 2, (Option.none : Option Jvm.ClassFile.FieldType))
abbrev mX12_ones : MI := (yX12_ones, cX12_ones, 4, (Option.some Jvm.ClassFile.FieldType.int))
abbrev mX12_touches : MI := (yX12_touches, cX12_touches, 2, (Option.some Jvm.ClassFile.FieldType.int))
abbrev mX12_touchesOf : MI := (yX12_touchesOf, cX12_touchesOf, 4, (Option.some Jvm.ClassFile.FieldType.int))
abbrev mX12_first : MI := (yX12_first, cX12_first, 5, (Option.some Jvm.ClassFile.FieldType.int))
abbrev mX12_risks : MI := (yX12_risks, cX12_risks, 3, (Option.some Jvm.ClassFile.FieldType.int))
abbrev mX12_stands : MI := (yX12_stands, cX12_stands, 7, (Option.some Jvm.ClassFile.FieldType.int))
abbrev mX12_slow : MI := (yX12_slow, cX12_slow, 7, (Option.some Jvm.ClassFile.FieldType.int))
abbrev mX12_keepCounts : MI := (yX12_keepCounts, cX12_keepCounts, 2, (Option.none : Option Jvm.ClassFile.FieldType))
abbrev mX12_wallBehind : MI := (yX12_wallBehind, cX12_wallBehind, 2, (Option.some Jvm.ClassFile.FieldType.int))
abbrev mX12_putCounts : MI := (yX12_putCounts, cX12_putCounts, 2, (Option.none : Option Jvm.ClassFile.FieldType))
abbrev mX12_order : MI := (yX12_order, cX12_order, 11, (Option.some Jvm.ClassFile.FieldType.int))
abbrev mX12_look : MI := (yX12_look, cX12_look, 4, (Option.some Jvm.ClassFile.FieldType.int))
abbrev mX12_needs : MI := (yX12_needs, cX12_needs, 7, (Option.some Jvm.ClassFile.FieldType.int))
abbrev mX12_held : MI := (yX12_held, cX12_held, 7, (Option.some Jvm.ClassFile.FieldType.int))
abbrev mX12_comeBy : MI := (yX12_comeBy, cX12_comeBy, 6, (Option.some Jvm.ClassFile.FieldType.int))
abbrev mX12_shield : MI := (yX12_shield, cX12_shield, 6, (Option.some Jvm.ClassFile.FieldType.int))
abbrev mX12_see : MI := (yX12_see, cX12_see, 4, (Option.some Jvm.ClassFile.FieldType.int))
abbrev mX12_since : MI := (yX12_since, cX12_since, 4, (Option.some Jvm.ClassFile.FieldType.int))
abbrev mX12_isSeen : MI := (yX12_isSeen, cX12_isSeen, 2, (Option.some Jvm.ClassFile.FieldType.boolean))
abbrev mX12_who : MI := (yX12_who, cX12_who, 5, (Option.some Jvm.ClassFile.FieldType.int))
abbrev mX12_odds : MI := (yX12_odds, cX12_odds, 6, (Option.some Jvm.ClassFile.FieldType.long))
abbrev mX12_lowest : MI := (yX12_lowest, cX12_lowest, 5, (Option.some Jvm.ClassFile.FieldType.long))
abbrev mX12_divisor : MI := (yX12_divisor, cX12_divisor, 6, (Option.some Jvm.ClassFile.FieldType.int))
abbrev mX12_mean : MI := (yX12_mean, cX12_mean, 5, (Option.some Jvm.ClassFile.FieldType.long))
abbrev mX12_book : MI := (yX12_book, cX12_book, 3, (Option.some Jvm.ClassFile.FieldType.int))
abbrev mX12_looked : MI := (yX12_looked, cX12_looked, 2, (Option.some Jvm.ClassFile.FieldType.int))
abbrev mX12_judge : MI := (yX12_judge, cX12_judge, 4, (Option.some Jvm.ClassFile.FieldType.int))
abbrev mX12_isTape : MI := (yX12_isTape, cX12_isTape, 2, (Option.some Jvm.ClassFile.FieldType.boolean))
abbrev mX12_image : MI := (yX12_image, cX12_image, 2, (Option.some Jvm.ClassFile.FieldType.int))
abbrev mX12_undo : MI := (yX12_undo, cX12_undo, 2, (Option.some Jvm.ClassFile.FieldType.int))
abbrev mX12_act : MI := (yX12_act, cX12_act, 4, (Option.some Jvm.ClassFile.FieldType.int))
abbrev mX12_runsAct : MI := (yX12_runsAct, cX12_runsAct, 3, (Option.some Jvm.ClassFile.FieldType.int))
abbrev mX12_body : MI := (yX12_body, cX12_body, 2, (Option.none : Option Jvm.ClassFile.FieldType))
abbrev mX12_childRuns : MI := (yX12_childRuns, cX12_childRuns, 3, (Option.some Jvm.ClassFile.FieldType.int))
abbrev mX12_standsAct : MI := (yX12_standsAct, cX12_standsAct, 4, (Option.some Jvm.ClassFile.FieldType.int))
abbrev mX12_quickStands : MI := (yX12_quickStands, cX12_quickStands, 3, (Option.some Jvm.ClassFile.FieldType.int))
abbrev mX12_childStands : MI := (yX12_childStands, cX12_childStands, 3, (Option.some Jvm.ClassFile.FieldType.int))
abbrev mX12_tellsAct : MI := (yX12_tellsAct, cX12_tellsAct, 4, (Option.some Jvm.ClassFile.FieldType.int))
abbrev mX12_childTells : MI := (yX12_childTells, cX12_childTells, 3, (Option.some Jvm.ClassFile.FieldType.int))
abbrev mX12_trace : MI := (yX12_trace, cX12_trace, 2, (Option.some Jvm.ClassFile.FieldType.int))
abbrev mX12_taken : MI := (yX12_taken, cX12_taken, 4, (Option.some Jvm.ClassFile.FieldType.int))
abbrev mX12_count : MI := (yX12_count, cX12_count, 2, (Option.some Jvm.ClassFile.FieldType.int))
abbrev mX12_tape : MI := (yX12_tape, cX12_tape, 5, (Option.some Jvm.ClassFile.FieldType.int))
abbrev mX12_item : MI := (yX12_item, cX12_item, 5, (Option.some Jvm.ClassFile.FieldType.int))
abbrev mX12_narrow : MI := (yX12_narrow, cX12_narrow, 4, (Option.some Jvm.ClassFile.FieldType.long))
abbrev mX12_read : MI := (yX12_read, cX12_read, 3, (Option.some Jvm.ClassFile.FieldType.long))
abbrev mX12_shift : MI := (yX12_shift, cX12_shift, 7, (Option.some Jvm.ClassFile.FieldType.int))
theorem inT_X0 : ∀ w ∈ u_ws RX0 TX0 4, w ∈ TB := List.forall_mem_cons.mpr ⟨w_277, List.forall_mem_cons.mpr ⟨w_279, List.forall_mem_cons.mpr ⟨w_281, List.forall_mem_cons.mpr ⟨w_283, fun _ h => absurd h List.not_mem_nil⟩⟩⟩⟩
theorem inT_X1 : ∀ w ∈ u_ws RX1 TX1 0, w ∈ TB := fun _ h => absurd h List.not_mem_nil
theorem inT_X2 : ∀ w ∈ u_ws RX2 TX2 0, w ∈ TB := fun _ h => absurd h List.not_mem_nil
theorem inT_X3 : ∀ w ∈ u_ws RX3 TX3 0, w ∈ TB := fun _ h => absurd h List.not_mem_nil
theorem inT_X4 : ∀ w ∈ u_ws RX4 TX4 0, w ∈ TB := fun _ h => absurd h List.not_mem_nil
theorem inT_X5 : ∀ w ∈ u_ws RX5 TX5 18, w ∈ TB := List.forall_mem_cons.mpr ⟨w_188, List.forall_mem_cons.mpr ⟨w_190, List.forall_mem_cons.mpr ⟨w_192, List.forall_mem_cons.mpr ⟨w_194, List.forall_mem_cons.mpr ⟨w_196, List.forall_mem_cons.mpr ⟨w_198, List.forall_mem_cons.mpr ⟨w_200, List.forall_mem_cons.mpr ⟨w_202, List.forall_mem_cons.mpr ⟨w_204, List.forall_mem_cons.mpr ⟨w_206, List.forall_mem_cons.mpr ⟨w_208, List.forall_mem_cons.mpr ⟨w_210, List.forall_mem_cons.mpr ⟨w_212, List.forall_mem_cons.mpr ⟨w_214, List.forall_mem_cons.mpr ⟨w_216, List.forall_mem_cons.mpr ⟨w_218, List.forall_mem_cons.mpr ⟨w_220, List.forall_mem_cons.mpr ⟨w_222, fun _ h => absurd h List.not_mem_nil⟩⟩⟩⟩⟩⟩⟩⟩⟩⟩⟩⟩⟩⟩⟩⟩⟩⟩
theorem inT_X6 : ∀ w ∈ u_ws RX6 TX6 0, w ∈ TB := fun _ h => absurd h List.not_mem_nil
theorem inT_X7 : ∀ w ∈ u_ws RX7 TX7 0, w ∈ TB := fun _ h => absurd h List.not_mem_nil
theorem inT_X8 : ∀ w ∈ u_ws RX8 TX8 0, w ∈ TB := fun _ h => absurd h List.not_mem_nil
theorem inT_X9 : ∀ w ∈ u_ws RX9 TX9 5, w ∈ TB := List.forall_mem_cons.mpr ⟨w_250, List.forall_mem_cons.mpr ⟨w_252, List.forall_mem_cons.mpr ⟨w_254, List.forall_mem_cons.mpr ⟨w_256, List.forall_mem_cons.mpr ⟨w_258, fun _ h => absurd h List.not_mem_nil⟩⟩⟩⟩⟩
theorem inT_X10 : ∀ w ∈ u_ws RX10 TX10 13, w ∈ TB := List.forall_mem_cons.mpr ⟨w_106, List.forall_mem_cons.mpr ⟨w_108, List.forall_mem_cons.mpr ⟨w_110, List.forall_mem_cons.mpr ⟨w_112, List.forall_mem_cons.mpr ⟨w_114, List.forall_mem_cons.mpr ⟨w_116, List.forall_mem_cons.mpr ⟨w_118, List.forall_mem_cons.mpr ⟨w_120, List.forall_mem_cons.mpr ⟨w_122, List.forall_mem_cons.mpr ⟨w_124, List.forall_mem_cons.mpr ⟨w_126, List.forall_mem_cons.mpr ⟨w_128, List.forall_mem_cons.mpr ⟨w_130, fun _ h => absurd h List.not_mem_nil⟩⟩⟩⟩⟩⟩⟩⟩⟩⟩⟩⟩⟩
theorem inT_X11 : ∀ w ∈ u_ws RX11 TX11 14, w ∈ TB := List.forall_mem_cons.mpr ⟨w_302, List.forall_mem_cons.mpr ⟨w_304, List.forall_mem_cons.mpr ⟨w_306, List.forall_mem_cons.mpr ⟨w_308, List.forall_mem_cons.mpr ⟨w_310, List.forall_mem_cons.mpr ⟨w_312, List.forall_mem_cons.mpr ⟨w_314, List.forall_mem_cons.mpr ⟨w_316, List.forall_mem_cons.mpr ⟨w_318, List.forall_mem_cons.mpr ⟨w_320, List.forall_mem_cons.mpr ⟨w_322, List.forall_mem_cons.mpr ⟨w_324, List.forall_mem_cons.mpr ⟨w_326, List.forall_mem_cons.mpr ⟨w_328, fun _ h => absurd h List.not_mem_nil⟩⟩⟩⟩⟩⟩⟩⟩⟩⟩⟩⟩⟩⟩
theorem inT_X12 : ∀ w ∈ u_ws RX12 TX12 74, w ∈ TB := List.forall_mem_cons.mpr ⟨w_976, List.forall_mem_cons.mpr ⟨w_978, List.forall_mem_cons.mpr ⟨w_980, List.forall_mem_cons.mpr ⟨w_982, List.forall_mem_cons.mpr ⟨w_984, List.forall_mem_cons.mpr ⟨w_986, List.forall_mem_cons.mpr ⟨w_988, List.forall_mem_cons.mpr ⟨w_990, List.forall_mem_cons.mpr ⟨w_992, List.forall_mem_cons.mpr ⟨w_994, List.forall_mem_cons.mpr ⟨w_996, List.forall_mem_cons.mpr ⟨w_998, List.forall_mem_cons.mpr ⟨w_1000, List.forall_mem_cons.mpr ⟨w_1002, List.forall_mem_cons.mpr ⟨w_1004, List.forall_mem_cons.mpr ⟨w_1006, List.forall_mem_cons.mpr ⟨w_1008, List.forall_mem_cons.mpr ⟨w_1010, List.forall_mem_cons.mpr ⟨w_1012, List.forall_mem_cons.mpr ⟨w_1014, List.forall_mem_cons.mpr ⟨w_1016, List.forall_mem_cons.mpr ⟨w_1018, List.forall_mem_cons.mpr ⟨w_1020, List.forall_mem_cons.mpr ⟨w_1022, List.forall_mem_cons.mpr ⟨w_1024, List.forall_mem_cons.mpr ⟨w_1026, List.forall_mem_cons.mpr ⟨w_1028, List.forall_mem_cons.mpr ⟨w_1030, List.forall_mem_cons.mpr ⟨w_1032, List.forall_mem_cons.mpr ⟨w_1034, List.forall_mem_cons.mpr ⟨w_1036, List.forall_mem_cons.mpr ⟨w_1038, List.forall_mem_cons.mpr ⟨w_1040, List.forall_mem_cons.mpr ⟨w_1042, List.forall_mem_cons.mpr ⟨w_1044, List.forall_mem_cons.mpr ⟨w_1046, List.forall_mem_cons.mpr ⟨w_1048, List.forall_mem_cons.mpr ⟨w_1050, List.forall_mem_cons.mpr ⟨w_1052, List.forall_mem_cons.mpr ⟨w_1054, List.forall_mem_cons.mpr ⟨w_1056, List.forall_mem_cons.mpr ⟨w_1058, List.forall_mem_cons.mpr ⟨w_1060, List.forall_mem_cons.mpr ⟨w_1062, List.forall_mem_cons.mpr ⟨w_1064, List.forall_mem_cons.mpr ⟨w_1066, List.forall_mem_cons.mpr ⟨w_1068, List.forall_mem_cons.mpr ⟨w_1070, List.forall_mem_cons.mpr ⟨w_1072, List.forall_mem_cons.mpr ⟨w_1074, List.forall_mem_cons.mpr ⟨w_1076, List.forall_mem_cons.mpr ⟨w_1078, List.forall_mem_cons.mpr ⟨w_1080, List.forall_mem_cons.mpr ⟨w_1082, List.forall_mem_cons.mpr ⟨w_1084, List.forall_mem_cons.mpr ⟨w_1086, List.forall_mem_cons.mpr ⟨w_1088, List.forall_mem_cons.mpr ⟨w_1090, List.forall_mem_cons.mpr ⟨w_1092, List.forall_mem_cons.mpr ⟨w_1094, List.forall_mem_cons.mpr ⟨w_1096, List.forall_mem_cons.mpr ⟨w_1098, List.forall_mem_cons.mpr ⟨w_1100, List.forall_mem_cons.mpr ⟨w_1102, List.forall_mem_cons.mpr ⟨w_1104, List.forall_mem_cons.mpr ⟨w_1106, List.forall_mem_cons.mpr ⟨w_1108, List.forall_mem_cons.mpr ⟨w_1110, List.forall_mem_cons.mpr ⟨w_1112, List.forall_mem_cons.mpr ⟨w_1114, List.forall_mem_cons.mpr ⟨w_1116, List.forall_mem_cons.mpr ⟨w_1118, List.forall_mem_cons.mpr ⟨w_1120, List.forall_mem_cons.mpr ⟨w_1122, fun _ h => absurd h List.not_mem_nil⟩⟩⟩⟩⟩⟩⟩⟩⟩⟩⟩⟩⟩⟩⟩⟩⟩⟩⟩⟩⟩⟩⟩⟩⟩⟩⟩⟩⟩⟩⟩⟩⟩⟩⟩⟩⟩⟩⟩⟩⟩⟩⟩⟩⟩⟩⟩⟩⟩⟩⟩⟩⟩⟩⟩⟩⟩⟩⟩⟩⟩⟩⟩⟩⟩⟩⟩⟩⟩⟩⟩⟩⟩⟩
theorem flX10_37 : FLk RX10 37 10 0 true (.array .byte) := ⟨RX10, TX10, 13, tyX10, rfl, inT_X10, by decide, w_87, tyX10_ok, nmX10, rfl, by decide +kernel, trivial⟩
theorem flX10_41 : FLk RX10 41 10 1 false .int := ⟨RX10, TX10, 13, tyX10, rfl, inT_X10, by decide, w_88, tyX10_ok, nmX10, rfl, by decide +kernel, trivial⟩
theorem flX10_44 : FLk RX10 44 10 2 false .int := ⟨RX10, TX10, 13, tyX10, rfl, inT_X10, by decide, w_89, tyX10_ok, nmX10, rfl, by decide +kernel, trivial⟩
theorem flX10_11 : FLk RX10 11 10 3 true (.array .int) := ⟨RX10, TX10, 13, tyX10, rfl, inT_X10, by decide, w_90, tyX10_ok, nmX10, rfl, by decide +kernel, trivial⟩
theorem flX10_15 : FLk RX10 15 10 4 true (.array .int) := ⟨RX10, TX10, 13, tyX10, rfl, inT_X10, by decide, w_91, tyX10_ok, nmX10, rfl, by decide +kernel, trivial⟩
theorem flX10_18 : FLk RX10 18 10 5 true (.array .int) := ⟨RX10, TX10, 13, tyX10, rfl, inT_X10, by decide, w_92, tyX10_ok, nmX10, rfl, by decide +kernel, trivial⟩
theorem flX10_21 : FLk RX10 21 10 6 true (.array .int) := ⟨RX10, TX10, 13, tyX10, rfl, inT_X10, by decide, w_93, tyX10_ok, nmX10, rfl, by decide +kernel, trivial⟩
theorem flX10_47 : FLk RX10 47 10 7 false .int := ⟨RX10, TX10, 13, tyX10, rfl, inT_X10, by decide, w_94, tyX10_ok, nmX10, rfl, by decide +kernel, trivial⟩
theorem flX10_24 : FLk RX10 24 10 8 true (.array .int) := ⟨RX10, TX10, 13, tyX10, rfl, inT_X10, by decide, w_95, tyX10_ok, nmX10, rfl, by decide +kernel, trivial⟩
theorem flX10_50 : FLk RX10 50 10 9 false .int := ⟨RX10, TX10, 13, tyX10, rfl, inT_X10, by decide, w_96, tyX10_ok, nmX10, rfl, by decide +kernel, trivial⟩
theorem flX10_27 : FLk RX10 27 10 10 false .int := ⟨RX10, TX10, 13, tyX10, rfl, inT_X10, by decide, w_97, tyX10_ok, nmX10, rfl, by decide +kernel, trivial⟩
theorem flX11_143 : FLk RX11 143 10 10 false .int := ⟨RX10, TX10, 13, tyX10, rfl, inT_X10, by decide, w_98, tyX10_ok, nmX10, rfl, by decide +kernel, trivial⟩
theorem flX9_107 : FLk RX9 107 10 10 false .int := ⟨RX10, TX10, 13, tyX10, rfl, inT_X10, by decide, w_99, tyX10_ok, nmX10, rfl, by decide +kernel, trivial⟩
theorem flX10_31 : FLk RX10 31 10 11 false .int := ⟨RX10, TX10, 13, tyX10, rfl, inT_X10, by decide, w_100, tyX10_ok, nmX10, rfl, by decide +kernel, trivial⟩
theorem flX9_113 : FLk RX9 113 10 11 false .int := ⟨RX10, TX10, 13, tyX10, rfl, inT_X10, by decide, w_101, tyX10_ok, nmX10, rfl, by decide +kernel, trivial⟩
theorem flX11_169 : FLk RX11 169 10 11 false .int := ⟨RX10, TX10, 13, tyX10, rfl, inT_X10, by decide, w_102, tyX10_ok, nmX10, rfl, by decide +kernel, trivial⟩
theorem flX10_34 : FLk RX10 34 10 12 false .int := ⟨RX10, TX10, 13, tyX10, rfl, inT_X10, by decide, w_103, tyX10_ok, nmX10, rfl, by decide +kernel, trivial⟩
theorem flX9_119 : FLk RX9 119 10 12 false .int := ⟨RX10, TX10, 13, tyX10, rfl, inT_X10, by decide, w_104, tyX10_ok, nmX10, rfl, by decide +kernel, trivial⟩
theorem flX11_172 : FLk RX11 172 10 12 false .int := ⟨RX10, TX10, 13, tyX10, rfl, inT_X10, by decide, w_105, tyX10_ok, nmX10, rfl, by decide +kernel, trivial⟩
theorem flX5_9 : FLk RX5 9 5 0 true (.array .int) := ⟨RX5, TX5, 18, tyX5, rfl, inT_X5, by decide, w_141, tyX5_ok, nmX5, rfl, by decide +kernel, trivial⟩
theorem flX9_50 : FLk RX9 50 5 0 true (.array .int) := ⟨RX5, TX5, 18, tyX5, rfl, inT_X5, by decide, w_142, tyX5_ok, nmX5, rfl, by decide +kernel, trivial⟩
theorem flX11_112 : FLk RX11 112 5 0 true (.array .int) := ⟨RX5, TX5, 18, tyX5, rfl, inT_X5, by decide, w_143, tyX5_ok, nmX5, rfl, by decide +kernel, trivial⟩
theorem flX5_15 : FLk RX5 15 5 1 true (.array .int) := ⟨RX5, TX5, 18, tyX5, rfl, inT_X5, by decide, w_144, tyX5_ok, nmX5, rfl, by decide +kernel, trivial⟩
theorem flX9_56 : FLk RX9 56 5 1 true (.array .int) := ⟨RX5, TX5, 18, tyX5, rfl, inT_X5, by decide, w_145, tyX5_ok, nmX5, rfl, by decide +kernel, trivial⟩
theorem flX11_115 : FLk RX11 115 5 1 true (.array .int) := ⟨RX5, TX5, 18, tyX5, rfl, inT_X5, by decide, w_146, tyX5_ok, nmX5, rfl, by decide +kernel, trivial⟩
theorem flX5_18 : FLk RX5 18 5 2 true (.array .int) := ⟨RX5, TX5, 18, tyX5, rfl, inT_X5, by decide, w_147, tyX5_ok, nmX5, rfl, by decide +kernel, trivial⟩
theorem flX9_68 : FLk RX9 68 5 2 true (.array .int) := ⟨RX5, TX5, 18, tyX5, rfl, inT_X5, by decide, w_148, tyX5_ok, nmX5, rfl, by decide +kernel, trivial⟩
theorem flX11_118 : FLk RX11 118 5 2 true (.array .int) := ⟨RX5, TX5, 18, tyX5, rfl, inT_X5, by decide, w_149, tyX5_ok, nmX5, rfl, by decide +kernel, trivial⟩
theorem flX5_21 : FLk RX5 21 5 3 true (.array .int) := ⟨RX5, TX5, 18, tyX5, rfl, inT_X5, by decide, w_150, tyX5_ok, nmX5, rfl, by decide +kernel, trivial⟩
theorem flX9_53 : FLk RX9 53 5 3 true (.array .int) := ⟨RX5, TX5, 18, tyX5, rfl, inT_X5, by decide, w_151, tyX5_ok, nmX5, rfl, by decide +kernel, trivial⟩
theorem flX11_121 : FLk RX11 121 5 3 true (.array .int) := ⟨RX5, TX5, 18, tyX5, rfl, inT_X5, by decide, w_152, tyX5_ok, nmX5, rfl, by decide +kernel, trivial⟩
theorem flX5_24 : FLk RX5 24 5 4 true (.array .int) := ⟨RX5, TX5, 18, tyX5, rfl, inT_X5, by decide, w_153, tyX5_ok, nmX5, rfl, by decide +kernel, trivial⟩
theorem flX9_101 : FLk RX9 101 5 4 true (.array .int) := ⟨RX5, TX5, 18, tyX5, rfl, inT_X5, by decide, w_154, tyX5_ok, nmX5, rfl, by decide +kernel, trivial⟩
theorem flX11_124 : FLk RX11 124 5 4 true (.array .int) := ⟨RX5, TX5, 18, tyX5, rfl, inT_X5, by decide, w_155, tyX5_ok, nmX5, rfl, by decide +kernel, trivial⟩
theorem flX5_27 : FLk RX5 27 5 5 true (.array .int) := ⟨RX5, TX5, 18, tyX5, rfl, inT_X5, by decide, w_156, tyX5_ok, nmX5, rfl, by decide +kernel, trivial⟩
theorem flX9_59 : FLk RX9 59 5 5 true (.array .int) := ⟨RX5, TX5, 18, tyX5, rfl, inT_X5, by decide, w_157, tyX5_ok, nmX5, rfl, by decide +kernel, trivial⟩
theorem flX11_150 : FLk RX11 150 5 5 true (.array .int) := ⟨RX5, TX5, 18, tyX5, rfl, inT_X5, by decide, w_158, tyX5_ok, nmX5, rfl, by decide +kernel, trivial⟩
theorem flX9_46 : FLk RX9 46 5 6 false .int := ⟨RX5, TX5, 18, tyX5, rfl, inT_X5, by decide, w_159, tyX5_ok, nmX5, rfl, by decide +kernel, trivial⟩
theorem flX11_96 : FLk RX11 96 5 6 false .int := ⟨RX5, TX5, 18, tyX5, rfl, inT_X5, by decide, w_160, tyX5_ok, nmX5, rfl, by decide +kernel, trivial⟩
theorem flX5_58 : FLk RX5 58 5 6 false .int := ⟨RX5, TX5, 18, tyX5, rfl, inT_X5, by decide, w_161, tyX5_ok, nmX5, rfl, by decide +kernel, trivial⟩
theorem flX5_62 : FLk RX5 62 5 7 false .int := ⟨RX5, TX5, 18, tyX5, rfl, inT_X5, by decide, w_162, tyX5_ok, nmX5, rfl, by decide +kernel, trivial⟩
theorem flX9_110 : FLk RX9 110 5 7 false .int := ⟨RX5, TX5, 18, tyX5, rfl, inT_X5, by decide, w_163, tyX5_ok, nmX5, rfl, by decide +kernel, trivial⟩
theorem flX11_175 : FLk RX11 175 5 7 false .int := ⟨RX5, TX5, 18, tyX5, rfl, inT_X5, by decide, w_164, tyX5_ok, nmX5, rfl, by decide +kernel, trivial⟩
theorem flX5_30 : FLk RX5 30 5 8 true (.array .int) := ⟨RX5, TX5, 18, tyX5, rfl, inT_X5, by decide, w_165, tyX5_ok, nmX5, rfl, by decide +kernel, trivial⟩
theorem flX9_38 : FLk RX9 38 5 8 true (.array .int) := ⟨RX5, TX5, 18, tyX5, rfl, inT_X5, by decide, w_166, tyX5_ok, nmX5, rfl, by decide +kernel, trivial⟩
theorem flX11_153 : FLk RX11 153 5 8 true (.array .int) := ⟨RX5, TX5, 18, tyX5, rfl, inT_X5, by decide, w_167, tyX5_ok, nmX5, rfl, by decide +kernel, trivial⟩
theorem flX5_65 : FLk RX5 65 5 9 false .int := ⟨RX5, TX5, 18, tyX5, rfl, inT_X5, by decide, w_168, tyX5_ok, nmX5, rfl, by decide +kernel, trivial⟩
theorem flX9_71 : FLk RX9 71 5 9 false .int := ⟨RX5, TX5, 18, tyX5, rfl, inT_X5, by decide, w_169, tyX5_ok, nmX5, rfl, by decide +kernel, trivial⟩
theorem flX11_166 : FLk RX11 166 5 9 false .int := ⟨RX5, TX5, 18, tyX5, rfl, inT_X5, by decide, w_170, tyX5_ok, nmX5, rfl, by decide +kernel, trivial⟩
theorem flX5_48 : FLk RX5 48 5 10 false (.object "WhileSheLooks$Yard") := ⟨RX5, TX5, 18, tyX5, rfl, inT_X5, by decide, w_171, tyX5_ok, nmX5, rfl, by decide +kernel, trivial⟩
theorem flX9_74 : FLk RX9 74 5 10 false (.object "WhileSheLooks$Yard") := ⟨RX5, TX5, 18, tyX5, rfl, inT_X5, by decide, w_172, tyX5_ok, nmX5, rfl, by decide +kernel, trivial⟩
theorem flX11_139 : FLk RX11 139 5 10 false (.object "WhileSheLooks$Yard") := ⟨RX5, TX5, 18, tyX5, rfl, inT_X5, by decide, w_173, tyX5_ok, nmX5, rfl, by decide +kernel, trivial⟩
theorem flX5_33 : FLk RX5 33 5 11 true (.array .int) := ⟨RX5, TX5, 18, tyX5, rfl, inT_X5, by decide, w_174, tyX5_ok, nmX5, rfl, by decide +kernel, trivial⟩
theorem flX11_277 : FLk RX11 277 5 11 true (.array .int) := ⟨RX5, TX5, 18, tyX5, rfl, inT_X5, by decide, w_175, tyX5_ok, nmX5, rfl, by decide +kernel, trivial⟩
theorem flX5_36 : FLk RX5 36 5 12 true (.array .int) := ⟨RX5, TX5, 18, tyX5, rfl, inT_X5, by decide, w_176, tyX5_ok, nmX5, rfl, by decide +kernel, trivial⟩
theorem flX11_280 : FLk RX11 280 5 12 true (.array .int) := ⟨RX5, TX5, 18, tyX5, rfl, inT_X5, by decide, w_177, tyX5_ok, nmX5, rfl, by decide +kernel, trivial⟩
theorem flX5_39 : FLk RX5 39 5 13 true (.array .int) := ⟨RX5, TX5, 18, tyX5, rfl, inT_X5, by decide, w_178, tyX5_ok, nmX5, rfl, by decide +kernel, trivial⟩
theorem flX11_283 : FLk RX11 283 5 13 true (.array .int) := ⟨RX5, TX5, 18, tyX5, rfl, inT_X5, by decide, w_179, tyX5_ok, nmX5, rfl, by decide +kernel, trivial⟩
theorem flX5_68 : FLk RX5 68 5 14 false .int := ⟨RX5, TX5, 18, tyX5, rfl, inT_X5, by decide, w_180, tyX5_ok, nmX5, rfl, by decide +kernel, trivial⟩
theorem flX11_207 : FLk RX11 207 5 14 false .int := ⟨RX5, TX5, 18, tyX5, rfl, inT_X5, by decide, w_181, tyX5_ok, nmX5, rfl, by decide +kernel, trivial⟩
theorem flX5_42 : FLk RX5 42 5 15 true (.array .int) := ⟨RX5, TX5, 18, tyX5, rfl, inT_X5, by decide, w_182, tyX5_ok, nmX5, rfl, by decide +kernel, trivial⟩
theorem flX11_230 : FLk RX11 230 5 15 true (.array .int) := ⟨RX5, TX5, 18, tyX5, rfl, inT_X5, by decide, w_183, tyX5_ok, nmX5, rfl, by decide +kernel, trivial⟩
theorem flX5_45 : FLk RX5 45 5 16 true (.array .int) := ⟨RX5, TX5, 18, tyX5, rfl, inT_X5, by decide, w_184, tyX5_ok, nmX5, rfl, by decide +kernel, trivial⟩
theorem flX11_233 : FLk RX11 233 5 16 true (.array .int) := ⟨RX5, TX5, 18, tyX5, rfl, inT_X5, by decide, w_185, tyX5_ok, nmX5, rfl, by decide +kernel, trivial⟩
theorem flX5_71 : FLk RX5 71 5 17 false .int := ⟨RX5, TX5, 18, tyX5, rfl, inT_X5, by decide, w_186, tyX5_ok, nmX5, rfl, by decide +kernel, trivial⟩
theorem flX11_224 : FLk RX11 224 5 17 false .int := ⟨RX5, TX5, 18, tyX5, rfl, inT_X5, by decide, w_187, tyX5_ok, nmX5, rfl, by decide +kernel, trivial⟩
theorem flX9_34 : FLk RX9 34 9 0 true (.array (.object "WhileSheLooks$Child")) := ⟨RX9, TX9, 5, tyX9, rfl, inT_X9, by decide, w_242, tyX9_ok, nmX9, rfl, by decide +kernel, trivial⟩
theorem flX9_9 : FLk RX9 9 9 1 true (.array .int) := ⟨RX9, TX9, 5, tyX9, rfl, inT_X9, by decide, w_243, tyX9_ok, nmX9, rfl, by decide +kernel, trivial⟩
theorem flX11_130 : FLk RX11 130 9 1 true (.array .int) := ⟨RX9, TX9, 5, tyX9, rfl, inT_X9, by decide, w_244, tyX9_ok, nmX9, rfl, by decide +kernel, trivial⟩
theorem flX9_15 : FLk RX9 15 9 2 true (.array .int) := ⟨RX9, TX9, 5, tyX9, rfl, inT_X9, by decide, w_245, tyX9_ok, nmX9, rfl, by decide +kernel, trivial⟩
theorem flX11_133 : FLk RX11 133 9 2 true (.array .int) := ⟨RX9, TX9, 5, tyX9, rfl, inT_X9, by decide, w_246, tyX9_ok, nmX9, rfl, by decide +kernel, trivial⟩
theorem flX9_18 : FLk RX9 18 9 3 true (.array .int) := ⟨RX9, TX9, 5, tyX9, rfl, inT_X9, by decide, w_247, tyX9_ok, nmX9, rfl, by decide +kernel, trivial⟩
theorem flX11_136 : FLk RX11 136 9 3 true (.array .int) := ⟨RX9, TX9, 5, tyX9, rfl, inT_X9, by decide, w_248, tyX9_ok, nmX9, rfl, by decide +kernel, trivial⟩
theorem flX9_31 : FLk RX9 31 9 4 true (.array .int) := ⟨RX9, TX9, 5, tyX9, rfl, inT_X9, by decide, w_249, tyX9_ok, nmX9, rfl, by decide +kernel, trivial⟩
theorem flX0_9 : FLk RX0 9 0 0 true (.array .int) := ⟨RX0, TX0, 4, tyX0, rfl, inT_X0, by decide, w_267, tyX0_ok, nmX0, rfl, by decide +kernel, trivial⟩
theorem flX11_261 : FLk RX11 261 0 0 true (.array .int) := ⟨RX0, TX0, 4, tyX0, rfl, inT_X0, by decide, w_268, tyX0_ok, nmX0, rfl, by decide +kernel, trivial⟩
theorem flX0_13 : FLk RX0 13 0 1 false .int := ⟨RX0, TX0, 4, tyX0, rfl, inT_X0, by decide, w_269, tyX0_ok, nmX0, rfl, by decide +kernel, trivial⟩
theorem flX11_243 : FLk RX11 243 0 1 false .int := ⟨RX0, TX0, 4, tyX0, rfl, inT_X0, by decide, w_270, tyX0_ok, nmX0, rfl, by decide +kernel, trivial⟩
theorem flX2_19 : FLk RX2 19 0 2 false .int := ⟨RX0, TX0, 4, tyX0, rfl, inT_X0, by decide, w_271, tyX0_ok, nmX0, rfl, by decide +kernel, trivial⟩
theorem flX1_21 : FLk RX1 21 0 2 false .int := ⟨RX0, TX0, 4, tyX0, rfl, inT_X0, by decide, w_272, tyX0_ok, nmX0, rfl, by decide +kernel, trivial⟩
theorem flX11_246 : FLk RX11 246 0 2 false .int := ⟨RX0, TX0, 4, tyX0, rfl, inT_X0, by decide, w_273, tyX0_ok, nmX0, rfl, by decide +kernel, trivial⟩
theorem flX8_21 : FLk RX8 21 0 3 false .int := ⟨RX0, TX0, 4, tyX0, rfl, inT_X0, by decide, w_274, tyX0_ok, nmX0, rfl, by decide +kernel, trivial⟩
theorem flX2_29 : FLk RX2 29 0 3 false .int := ⟨RX0, TX0, 4, tyX0, rfl, inT_X0, by decide, w_275, tyX0_ok, nmX0, rfl, by decide +kernel, trivial⟩
theorem flX11_249 : FLk RX11 249 0 3 false .int := ⟨RX0, TX0, 4, tyX0, rfl, inT_X0, by decide, w_276, tyX0_ok, nmX0, rfl, by decide +kernel, trivial⟩
theorem flX11_30 : FLk RX11 30 11 0 true (.array (.object "WhileSheLooks$Child")) := ⟨RX11, TX11, 14, tyX11, rfl, inT_X11, by decide, w_288, tyX11_ok, nmX11, rfl, by decide +kernel, trivial⟩
theorem flX11_36 : FLk RX11 36 11 1 true (.array .byte) := ⟨RX11, TX11, 14, tyX11, rfl, inT_X11, by decide, w_289, tyX11_ok, nmX11, rfl, by decide +kernel, trivial⟩
theorem flX11_156 : FLk RX11 156 11 2 false .int := ⟨RX11, TX11, 14, tyX11, rfl, inT_X11, by decide, w_290, tyX11_ok, nmX11, rfl, by decide +kernel, trivial⟩
theorem flX11_42 : FLk RX11 42 11 3 true (.array (.object "WhileSheLooks$Yard")) := ⟨RX11, TX11, 14, tyX11, rfl, inT_X11, by decide, w_291, tyX11_ok, nmX11, rfl, by decide +kernel, trivial⟩
theorem flX11_159 : FLk RX11 159 11 4 false .int := ⟨RX11, TX11, 14, tyX11, rfl, inT_X11, by decide, w_292, tyX11_ok, nmX11, rfl, by decide +kernel, trivial⟩
theorem flX11_54 : FLk RX11 54 11 5 true (.object "WhileSheLooks$Scene") := ⟨RX11, TX11, 14, tyX11, rfl, inT_X11, by decide, w_293, tyX11_ok, nmX11, rfl, by decide +kernel, trivial⟩
theorem flX11_58 : FLk RX11 58 11 6 true (.object "WhileSheLooks$Scene") := ⟨RX11, TX11, 14, tyX11, rfl, inT_X11, by decide, w_294, tyX11_ok, nmX11, rfl, by decide +kernel, trivial⟩
theorem flX11_61 : FLk RX11 61 11 7 true (.object "WhileSheLooks$Scene") := ⟨RX11, TX11, 14, tyX11, rfl, inT_X11, by decide, w_295, tyX11_ok, nmX11, rfl, by decide +kernel, trivial⟩
theorem flX11_239 : FLk RX11 239 11 8 false .boolean := ⟨RX11, TX11, 14, tyX11, rfl, inT_X11, by decide, w_296, tyX11_ok, nmX11, rfl, by decide +kernel, trivial⟩
theorem flX11_69 : FLk RX11 69 11 9 true (.object "WhileSheLooks$Turns") := ⟨RX11, TX11, 14, tyX11, rfl, inT_X11, by decide, w_297, tyX11_ok, nmX11, rfl, by decide +kernel, trivial⟩
theorem flX11_76 : FLk RX11 76 11 10 true (.object "WhileSheLooks$Acts") := ⟨RX11, TX11, 14, tyX11, rfl, inT_X11, by decide, w_298, tyX11_ok, nmX11, rfl, by decide +kernel, trivial⟩
theorem flX11_82 : FLk RX11 82 11 11 true (.array (.array .long)) := ⟨RX11, TX11, 14, tyX11, rfl, inT_X11, by decide, w_299, tyX11_ok, nmX11, rfl, by decide +kernel, trivial⟩
theorem flX11_85 : FLk RX11 85 11 12 true (.array .int) := ⟨RX11, TX11, 14, tyX11, rfl, inT_X11, by decide, w_300, tyX11_ok, nmX11, rfl, by decide +kernel, trivial⟩
theorem flX11_89 : FLk RX11 89 11 13 true (.array .int) := ⟨RX11, TX11, 14, tyX11, rfl, inT_X11, by decide, w_301, tyX11_ok, nmX11, rfl, by decide +kernel, trivial⟩
theorem flX12_7 : FLk RX12 7 12 0 false .int := ⟨RX12, TX12, 74, tyX12, rfl, inT_X12, by decide, w_902, tyX12_ok, nmX12, rfl, by decide +kernel, trivial⟩
theorem flX12_13 : FLk RX12 13 12 1 false .int := ⟨RX12, TX12, 74, tyX12, rfl, inT_X12, by decide, w_903, tyX12_ok, nmX12, rfl, by decide +kernel, trivial⟩
theorem flX12_16 : FLk RX12 16 12 2 false .int := ⟨RX12, TX12, 74, tyX12, rfl, inT_X12, by decide, w_904, tyX12_ok, nmX12, rfl, by decide +kernel, trivial⟩
theorem flX12_19 : FLk RX12 19 12 3 true (.array .int) := ⟨RX12, TX12, 74, tyX12, rfl, inT_X12, by decide, w_905, tyX12_ok, nmX12, rfl, by decide +kernel, trivial⟩
theorem flX12_23 : FLk RX12 23 12 4 true (.array .int) := ⟨RX12, TX12, 74, tyX12, rfl, inT_X12, by decide, w_906, tyX12_ok, nmX12, rfl, by decide +kernel, trivial⟩
theorem flX12_26 : FLk RX12 26 12 5 true (.array .int) := ⟨RX12, TX12, 74, tyX12, rfl, inT_X12, by decide, w_907, tyX12_ok, nmX12, rfl, by decide +kernel, trivial⟩
theorem flX12_29 : FLk RX12 29 12 6 true (.array .int) := ⟨RX12, TX12, 74, tyX12, rfl, inT_X12, by decide, w_908, tyX12_ok, nmX12, rfl, by decide +kernel, trivial⟩
theorem flX12_32 : FLk RX12 32 12 7 true (.array .int) := ⟨RX12, TX12, 74, tyX12, rfl, inT_X12, by decide, w_909, tyX12_ok, nmX12, rfl, by decide +kernel, trivial⟩
theorem flX12_35 : FLk RX12 35 12 8 true (.array .int) := ⟨RX12, TX12, 74, tyX12, rfl, inT_X12, by decide, w_910, tyX12_ok, nmX12, rfl, by decide +kernel, trivial⟩
theorem flX12_38 : FLk RX12 38 12 9 true (.array .int) := ⟨RX12, TX12, 74, tyX12, rfl, inT_X12, by decide, w_911, tyX12_ok, nmX12, rfl, by decide +kernel, trivial⟩
theorem flX12_41 : FLk RX12 41 12 10 false .int := ⟨RX12, TX12, 74, tyX12, rfl, inT_X12, by decide, w_912, tyX12_ok, nmX12, rfl, by decide +kernel, trivial⟩
theorem flX12_44 : FLk RX12 44 12 11 false .int := ⟨RX12, TX12, 74, tyX12, rfl, inT_X12, by decide, w_913, tyX12_ok, nmX12, rfl, by decide +kernel, trivial⟩
theorem flX12_47 : FLk RX12 47 12 12 false .int := ⟨RX12, TX12, 74, tyX12, rfl, inT_X12, by decide, w_914, tyX12_ok, nmX12, rfl, by decide +kernel, trivial⟩
theorem flX12_50 : FLk RX12 50 12 13 false .int := ⟨RX12, TX12, 74, tyX12, rfl, inT_X12, by decide, w_915, tyX12_ok, nmX12, rfl, by decide +kernel, trivial⟩
theorem flX12_53 : FLk RX12 53 12 14 false .int := ⟨RX12, TX12, 74, tyX12, rfl, inT_X12, by decide, w_916, tyX12_ok, nmX12, rfl, by decide +kernel, trivial⟩
theorem flX12_56 : FLk RX12 56 12 15 true (.array .int) := ⟨RX12, TX12, 74, tyX12, rfl, inT_X12, by decide, w_917, tyX12_ok, nmX12, rfl, by decide +kernel, trivial⟩
theorem flX12_59 : FLk RX12 59 12 16 true (.array .int) := ⟨RX12, TX12, 74, tyX12, rfl, inT_X12, by decide, w_918, tyX12_ok, nmX12, rfl, by decide +kernel, trivial⟩
theorem flX12_62 : FLk RX12 62 12 17 true (.array .int) := ⟨RX12, TX12, 74, tyX12, rfl, inT_X12, by decide, w_919, tyX12_ok, nmX12, rfl, by decide +kernel, trivial⟩
theorem flX12_65 : FLk RX12 65 12 18 true (.array .int) := ⟨RX12, TX12, 74, tyX12, rfl, inT_X12, by decide, w_920, tyX12_ok, nmX12, rfl, by decide +kernel, trivial⟩
theorem flX12_68 : FLk RX12 68 12 19 true (.array .int) := ⟨RX12, TX12, 74, tyX12, rfl, inT_X12, by decide, w_921, tyX12_ok, nmX12, rfl, by decide +kernel, trivial⟩
theorem flX12_71 : FLk RX12 71 12 20 true (.array .int) := ⟨RX12, TX12, 74, tyX12, rfl, inT_X12, by decide, w_922, tyX12_ok, nmX12, rfl, by decide +kernel, trivial⟩
theorem flX12_74 : FLk RX12 74 12 21 true (.array .int) := ⟨RX12, TX12, 74, tyX12, rfl, inT_X12, by decide, w_923, tyX12_ok, nmX12, rfl, by decide +kernel, trivial⟩
theorem flX12_77 : FLk RX12 77 12 22 true (.array .int) := ⟨RX12, TX12, 74, tyX12, rfl, inT_X12, by decide, w_924, tyX12_ok, nmX12, rfl, by decide +kernel, trivial⟩
theorem flX12_80 : FLk RX12 80 12 23 false .int := ⟨RX12, TX12, 74, tyX12, rfl, inT_X12, by decide, w_925, tyX12_ok, nmX12, rfl, by decide +kernel, trivial⟩
theorem flX12_83 : FLk RX12 83 12 24 false .int := ⟨RX12, TX12, 74, tyX12, rfl, inT_X12, by decide, w_926, tyX12_ok, nmX12, rfl, by decide +kernel, trivial⟩
theorem flX12_86 : FLk RX12 86 12 25 false .int := ⟨RX12, TX12, 74, tyX12, rfl, inT_X12, by decide, w_927, tyX12_ok, nmX12, rfl, by decide +kernel, trivial⟩
theorem flX12_89 : FLk RX12 89 12 26 true (.array .int) := ⟨RX12, TX12, 74, tyX12, rfl, inT_X12, by decide, w_928, tyX12_ok, nmX12, rfl, by decide +kernel, trivial⟩
theorem flX12_92 : FLk RX12 92 12 27 false .int := ⟨RX12, TX12, 74, tyX12, rfl, inT_X12, by decide, w_929, tyX12_ok, nmX12, rfl, by decide +kernel, trivial⟩
theorem flX12_95 : FLk RX12 95 12 28 true (.array .boolean) := ⟨RX12, TX12, 74, tyX12, rfl, inT_X12, by decide, w_930, tyX12_ok, nmX12, rfl, by decide +kernel, trivial⟩
theorem flX12_99 : FLk RX12 99 12 29 false .int := ⟨RX12, TX12, 74, tyX12, rfl, inT_X12, by decide, w_931, tyX12_ok, nmX12, rfl, by decide +kernel, trivial⟩
theorem flX12_102 : FLk RX12 102 12 30 false .int := ⟨RX12, TX12, 74, tyX12, rfl, inT_X12, by decide, w_932, tyX12_ok, nmX12, rfl, by decide +kernel, trivial⟩
theorem flX12_105 : FLk RX12 105 12 31 true (.array .int) := ⟨RX12, TX12, 74, tyX12, rfl, inT_X12, by decide, w_933, tyX12_ok, nmX12, rfl, by decide +kernel, trivial⟩
theorem flX12_108 : FLk RX12 108 12 32 true (.array .int) := ⟨RX12, TX12, 74, tyX12, rfl, inT_X12, by decide, w_934, tyX12_ok, nmX12, rfl, by decide +kernel, trivial⟩
theorem flX12_111 : FLk RX12 111 12 33 false .int := ⟨RX12, TX12, 74, tyX12, rfl, inT_X12, by decide, w_935, tyX12_ok, nmX12, rfl, by decide +kernel, trivial⟩
theorem flX12_114 : FLk RX12 114 12 34 false .int := ⟨RX12, TX12, 74, tyX12, rfl, inT_X12, by decide, w_936, tyX12_ok, nmX12, rfl, by decide +kernel, trivial⟩
theorem flX12_117 : FLk RX12 117 12 35 true (.array .int) := ⟨RX12, TX12, 74, tyX12, rfl, inT_X12, by decide, w_937, tyX12_ok, nmX12, rfl, by decide +kernel, trivial⟩
theorem flX12_120 : FLk RX12 120 12 36 true (.array .int) := ⟨RX12, TX12, 74, tyX12, rfl, inT_X12, by decide, w_938, tyX12_ok, nmX12, rfl, by decide +kernel, trivial⟩
theorem flX12_123 : FLk RX12 123 12 37 true (.array .int) := ⟨RX12, TX12, 74, tyX12, rfl, inT_X12, by decide, w_939, tyX12_ok, nmX12, rfl, by decide +kernel, trivial⟩
theorem flX12_126 : FLk RX12 126 12 38 false .int := ⟨RX12, TX12, 74, tyX12, rfl, inT_X12, by decide, w_940, tyX12_ok, nmX12, rfl, by decide +kernel, trivial⟩
theorem flX12_129 : FLk RX12 129 12 39 false .int := ⟨RX12, TX12, 74, tyX12, rfl, inT_X12, by decide, w_941, tyX12_ok, nmX12, rfl, by decide +kernel, trivial⟩
theorem flX12_132 : FLk RX12 132 12 40 true (.array .int) := ⟨RX12, TX12, 74, tyX12, rfl, inT_X12, by decide, w_942, tyX12_ok, nmX12, rfl, by decide +kernel, trivial⟩
theorem flX12_135 : FLk RX12 135 12 41 true (.array .int) := ⟨RX12, TX12, 74, tyX12, rfl, inT_X12, by decide, w_943, tyX12_ok, nmX12, rfl, by decide +kernel, trivial⟩
theorem flX12_138 : FLk RX12 138 12 42 false .int := ⟨RX12, TX12, 74, tyX12, rfl, inT_X12, by decide, w_944, tyX12_ok, nmX12, rfl, by decide +kernel, trivial⟩
theorem flX12_141 : FLk RX12 141 12 43 true (.array .int) := ⟨RX12, TX12, 74, tyX12, rfl, inT_X12, by decide, w_945, tyX12_ok, nmX12, rfl, by decide +kernel, trivial⟩
theorem flX12_144 : FLk RX12 144 12 44 true (.array .int) := ⟨RX12, TX12, 74, tyX12, rfl, inT_X12, by decide, w_946, tyX12_ok, nmX12, rfl, by decide +kernel, trivial⟩
theorem flX12_147 : FLk RX12 147 12 45 true (.array .int) := ⟨RX12, TX12, 74, tyX12, rfl, inT_X12, by decide, w_947, tyX12_ok, nmX12, rfl, by decide +kernel, trivial⟩
theorem flX12_150 : FLk RX12 150 12 46 false .int := ⟨RX12, TX12, 74, tyX12, rfl, inT_X12, by decide, w_948, tyX12_ok, nmX12, rfl, by decide +kernel, trivial⟩
theorem flX12_153 : FLk RX12 153 12 47 true (.array .int) := ⟨RX12, TX12, 74, tyX12, rfl, inT_X12, by decide, w_949, tyX12_ok, nmX12, rfl, by decide +kernel, trivial⟩
theorem flX12_156 : FLk RX12 156 12 48 true (.array .int) := ⟨RX12, TX12, 74, tyX12, rfl, inT_X12, by decide, w_950, tyX12_ok, nmX12, rfl, by decide +kernel, trivial⟩
theorem flX12_159 : FLk RX12 159 12 49 false .boolean := ⟨RX12, TX12, 74, tyX12, rfl, inT_X12, by decide, w_951, tyX12_ok, nmX12, rfl, by decide +kernel, trivial⟩
theorem flX12_163 : FLk RX12 163 12 50 false .int := ⟨RX12, TX12, 74, tyX12, rfl, inT_X12, by decide, w_952, tyX12_ok, nmX12, rfl, by decide +kernel, trivial⟩
theorem flX12_166 : FLk RX12 166 12 51 false .int := ⟨RX12, TX12, 74, tyX12, rfl, inT_X12, by decide, w_953, tyX12_ok, nmX12, rfl, by decide +kernel, trivial⟩
theorem flX12_169 : FLk RX12 169 12 52 false .int := ⟨RX12, TX12, 74, tyX12, rfl, inT_X12, by decide, w_954, tyX12_ok, nmX12, rfl, by decide +kernel, trivial⟩
theorem flX12_172 : FLk RX12 172 12 53 false .int := ⟨RX12, TX12, 74, tyX12, rfl, inT_X12, by decide, w_955, tyX12_ok, nmX12, rfl, by decide +kernel, trivial⟩
theorem flX12_175 : FLk RX12 175 12 54 false .int := ⟨RX12, TX12, 74, tyX12, rfl, inT_X12, by decide, w_956, tyX12_ok, nmX12, rfl, by decide +kernel, trivial⟩
theorem flX12_178 : FLk RX12 178 12 55 false .int := ⟨RX12, TX12, 74, tyX12, rfl, inT_X12, by decide, w_957, tyX12_ok, nmX12, rfl, by decide +kernel, trivial⟩
theorem flX12_181 : FLk RX12 181 12 56 true (.array .int) := ⟨RX12, TX12, 74, tyX12, rfl, inT_X12, by decide, w_958, tyX12_ok, nmX12, rfl, by decide +kernel, trivial⟩
theorem flX12_184 : FLk RX12 184 12 57 true (.array .int) := ⟨RX12, TX12, 74, tyX12, rfl, inT_X12, by decide, w_959, tyX12_ok, nmX12, rfl, by decide +kernel, trivial⟩
theorem flX12_187 : FLk RX12 187 12 58 true (.array .int) := ⟨RX12, TX12, 74, tyX12, rfl, inT_X12, by decide, w_960, tyX12_ok, nmX12, rfl, by decide +kernel, trivial⟩
theorem flX12_190 : FLk RX12 190 12 59 true (.array .int) := ⟨RX12, TX12, 74, tyX12, rfl, inT_X12, by decide, w_961, tyX12_ok, nmX12, rfl, by decide +kernel, trivial⟩
theorem flX12_193 : FLk RX12 193 12 60 true (.array .int) := ⟨RX12, TX12, 74, tyX12, rfl, inT_X12, by decide, w_962, tyX12_ok, nmX12, rfl, by decide +kernel, trivial⟩
theorem flX12_196 : FLk RX12 196 12 61 true (.array .int) := ⟨RX12, TX12, 74, tyX12, rfl, inT_X12, by decide, w_963, tyX12_ok, nmX12, rfl, by decide +kernel, trivial⟩
theorem flX12_199 : FLk RX12 199 12 62 true (.array .int) := ⟨RX12, TX12, 74, tyX12, rfl, inT_X12, by decide, w_964, tyX12_ok, nmX12, rfl, by decide +kernel, trivial⟩
theorem flX12_202 : FLk RX12 202 12 63 true (.array .int) := ⟨RX12, TX12, 74, tyX12, rfl, inT_X12, by decide, w_965, tyX12_ok, nmX12, rfl, by decide +kernel, trivial⟩
theorem flX12_205 : FLk RX12 205 12 64 true (.array .int) := ⟨RX12, TX12, 74, tyX12, rfl, inT_X12, by decide, w_966, tyX12_ok, nmX12, rfl, by decide +kernel, trivial⟩
theorem flX12_208 : FLk RX12 208 12 65 true (.array .int) := ⟨RX12, TX12, 74, tyX12, rfl, inT_X12, by decide, w_967, tyX12_ok, nmX12, rfl, by decide +kernel, trivial⟩
theorem flX12_211 : FLk RX12 211 12 66 true (.array .int) := ⟨RX12, TX12, 74, tyX12, rfl, inT_X12, by decide, w_968, tyX12_ok, nmX12, rfl, by decide +kernel, trivial⟩
theorem flX12_214 : FLk RX12 214 12 67 true (.array .int) := ⟨RX12, TX12, 74, tyX12, rfl, inT_X12, by decide, w_969, tyX12_ok, nmX12, rfl, by decide +kernel, trivial⟩
theorem flX12_217 : FLk RX12 217 12 68 false .int := ⟨RX12, TX12, 74, tyX12, rfl, inT_X12, by decide, w_970, tyX12_ok, nmX12, rfl, by decide +kernel, trivial⟩
theorem flX12_220 : FLk RX12 220 12 69 true (.array .int) := ⟨RX12, TX12, 74, tyX12, rfl, inT_X12, by decide, w_971, tyX12_ok, nmX12, rfl, by decide +kernel, trivial⟩
theorem flX12_223 : FLk RX12 223 12 70 true (.array .int) := ⟨RX12, TX12, 74, tyX12, rfl, inT_X12, by decide, w_972, tyX12_ok, nmX12, rfl, by decide +kernel, trivial⟩
theorem flX12_226 : FLk RX12 226 12 71 true (.array .int) := ⟨RX12, TX12, 74, tyX12, rfl, inT_X12, by decide, w_973, tyX12_ok, nmX12, rfl, by decide +kernel, trivial⟩
theorem flX12_229 : FLk RX12 229 12 72 true (.array .long) := ⟨RX12, TX12, 74, tyX12, rfl, inT_X12, by decide, w_974, tyX12_ok, nmX12, rfl, by decide +kernel, trivial⟩
theorem flX12_233 : FLk RX12 233 12 73 true (.array .long) := ⟨RX12, TX12, 74, tyX12, rfl, inT_X12, by decide, w_975, tyX12_ok, nmX12, rfl, by decide +kernel, trivial⟩
theorem clX11_46 : CLi RX11 46 mX10_init 1 := cli_of rfl w_83 w_84 w_9 w_85 rfl ⟨by decide +kernel, by decide +kernel, by decide +kernel⟩
theorem clX11_51 : CLi RX11 51 mX5_init 1 := cli_of rfl w_137 w_138 w_10 w_139 rfl ⟨by decide +kernel, by decide +kernel, by decide +kernel⟩
theorem clX11_66 : CLi RX11 66 mX9_init 1 := cli_of rfl w_227 w_228 w_11 w_229 rfl ⟨by decide +kernel, by decide +kernel, by decide +kernel⟩
theorem clX9_25 : CLv RX9 25 RJ0 mJ0_length_8abf5 0 := clv_of rfl w_232 w_233 w_234 w_12 w_235 ⟨by decide +kernel, by decide +kernel, by decide +kernel⟩
theorem clJ0_335 : CLv RJ0 335 RJ0 mJ0_coder_7d493 0 := clv_of rfl w_236 w_237 w_238 w_12 w_239 ⟨by decide +kernel, by decide +kernel, by decide +kernel⟩
theorem clX11_92 : CLs RX11 92 mX11_within 3 := cls_of w_336 w_337 w_1 w_338 ⟨by decide +kernel, by decide +kernel, by decide +kernel⟩
theorem clX11_100 : CLv RX11 100 RX5 mX5_addChild 2 := clv_of rfl w_339 w_340 w_341 w_10 w_342 ⟨by decide +kernel, by decide +kernel, by decide +kernel⟩
theorem clX11_104 : CLv RX11 104 RX5 mX5_has 1 := clv_of rfl w_347 w_348 w_349 w_10 w_350 ⟨by decide +kernel, by decide +kernel, by decide +kernel⟩
theorem clX11_108 : CLv RX11 108 RX9 mX9_foresee 1 := clv_of rfl w_351 w_352 w_353 w_11 w_354 ⟨by decide +kernel, by decide +kernel, by decide +kernel⟩
theorem clX9_43 : CLv RX9 43 RX5 mX5_placeNow 0 := clv_of rfl w_355 w_356 w_357 w_10 w_358 ⟨by decide +kernel, by decide +kernel, by decide +kernel⟩
theorem clX9_62_X2 : CLv RX9 62 RX2 mX2_paceOf 2 := clv_of rfl w_359 w_360 w_361 w_2 w_385 ⟨by decide +kernel, by decide +kernel, by decide +kernel⟩
theorem clX9_62_X1 : CLv RX9 62 RX1 mX1_paceOf 2 := clvO_of (y := ⟨"WhileSheLooks$Child", "paceOf", "(II)I"⟩) (owner := "WhileSheLooks$Child") w_359 w_362 w_360 w_363 w_364 w_7 w_365 w_385 ⟨by decide +kernel, by decide +kernel, by decide +kernel⟩
theorem clX9_62_X3 : CLv RX9 62 RX3 mX3_paceOf 2 := clvO_of (y := ⟨"WhileSheLooks$Child", "paceOf", "(II)I"⟩) (owner := "WhileSheLooks$Child") w_359 w_362 w_360 w_369 w_370 w_3 w_371 w_385 ⟨by decide +kernel, by decide +kernel, by decide +kernel⟩
theorem clX9_62_X4 : CLv RX9 62 RX4 mX4_paceOf 2 := clvO_of (y := ⟨"WhileSheLooks$Child", "paceOf", "(II)I"⟩) (owner := "WhileSheLooks$Child") w_359 w_362 w_360 w_373 w_374 w_6 w_375 w_385 ⟨by decide +kernel, by decide +kernel, by decide +kernel⟩
theorem clX9_62_X6 : CLv RX9 62 RX6 mX6_paceOf 2 := clvO_of (y := ⟨"WhileSheLooks$Child", "paceOf", "(II)I"⟩) (owner := "WhileSheLooks$Child") w_359 w_362 w_360 w_377 w_378 w_5 w_379 w_385 ⟨by decide +kernel, by decide +kernel, by decide +kernel⟩
theorem clX9_62_X7 : CLv RX9 62 RX7 mX2_paceOf 2 := clvO_of (y := ⟨"WhileSheLooks$Child", "paceOf", "(II)I"⟩) (owner := "WhileSheLooks$Child") w_359 w_362 w_360 w_380 w_360 w_2 w_385 w_385 ⟨by decide +kernel, by decide +kernel, by decide +kernel⟩
theorem clX9_62_X8 : CLv RX9 62 RX8 mX8_paceOf 2 := clvO_of (y := ⟨"WhileSheLooks$Child", "paceOf", "(II)I"⟩) (owner := "WhileSheLooks$Child") w_359 w_362 w_360 w_381 w_382 w_8 w_383 w_385 ⟨by decide +kernel, by decide +kernel, by decide +kernel⟩
theorem cuX1_7 : CLu RX1 7 mX2_paceOf 2 := cluI_of (y := ⟨"WhileSheLooks$Steady", "paceOf", "(II)I"⟩) (owner := "WhileSheLooks$Child") w_366 w_367 w_72 w_51 w_360 w_2 w_385 rfl ⟨by decide +kernel, by decide +kernel⟩
theorem clX3_7_X2 : CLv RX3 7 RX2 mX2_paceOf 2 := clv_of rfl w_372 w_360 w_361 w_2 w_385 ⟨by decide +kernel, by decide +kernel, by decide +kernel⟩
theorem clX3_7_X1 : CLv RX3 7 RX1 mX1_paceOf 2 := clvO_of (y := ⟨"WhileSheLooks$Child", "paceOf", "(II)I"⟩) (owner := "WhileSheLooks$Child") w_372 w_362 w_360 w_363 w_364 w_7 w_365 w_385 ⟨by decide +kernel, by decide +kernel, by decide +kernel⟩
theorem clX3_7_X3 : CLv RX3 7 RX3 mX3_paceOf 2 := clvO_of (y := ⟨"WhileSheLooks$Child", "paceOf", "(II)I"⟩) (owner := "WhileSheLooks$Child") w_372 w_362 w_360 w_369 w_370 w_3 w_371 w_385 ⟨by decide +kernel, by decide +kernel, by decide +kernel⟩
theorem clX3_7_X4 : CLv RX3 7 RX4 mX4_paceOf 2 := clvO_of (y := ⟨"WhileSheLooks$Child", "paceOf", "(II)I"⟩) (owner := "WhileSheLooks$Child") w_372 w_362 w_360 w_373 w_374 w_6 w_375 w_385 ⟨by decide +kernel, by decide +kernel, by decide +kernel⟩
theorem clX3_7_X6 : CLv RX3 7 RX6 mX6_paceOf 2 := clvO_of (y := ⟨"WhileSheLooks$Child", "paceOf", "(II)I"⟩) (owner := "WhileSheLooks$Child") w_372 w_362 w_360 w_377 w_378 w_5 w_379 w_385 ⟨by decide +kernel, by decide +kernel, by decide +kernel⟩
theorem clX3_7_X7 : CLv RX3 7 RX7 mX2_paceOf 2 := clvO_of (y := ⟨"WhileSheLooks$Child", "paceOf", "(II)I"⟩) (owner := "WhileSheLooks$Child") w_372 w_362 w_360 w_380 w_360 w_2 w_385 w_385 ⟨by decide +kernel, by decide +kernel, by decide +kernel⟩
theorem clX3_7_X8 : CLv RX3 7 RX8 mX8_paceOf 2 := clvO_of (y := ⟨"WhileSheLooks$Child", "paceOf", "(II)I"⟩) (owner := "WhileSheLooks$Child") w_372 w_362 w_360 w_381 w_382 w_8 w_383 w_385 ⟨by decide +kernel, by decide +kernel, by decide +kernel⟩
theorem cuX3_7 : CLu RX3 7 mX2_paceOf 2 := clu_of w_372 w_362 w_44 w_360 w_2 w_385 ⟨by decide +kernel, by decide +kernel⟩
theorem cuX4_7 : CLu RX4 7 mX3_paceOf 2 := clu_of w_376 w_1505 w_65 w_370 w_3 w_371 ⟨by decide +kernel, by decide +kernel⟩
theorem cuX8_7 : CLu RX8 7 mX6_paceOf 2 := clu_of w_384 w_1506 w_79 w_378 w_5 w_379 ⟨by decide +kernel, by decide +kernel⟩
theorem clX9_78 : CLv RX9 78 RX10 mX10_shakeFor 1 := clv_of rfl w_386 w_387 w_388 w_9 w_389 ⟨by decide +kernel, by decide +kernel, by decide +kernel⟩
theorem clX10_133 : CLv RX10 133 RX10 mX10_holds 2 := clv_of rfl w_390 w_391 w_392 w_9 w_393 ⟨by decide +kernel, by decide +kernel, by decide +kernel⟩
theorem clX10_137 : CLs RX10 137 mX10_isSo 2 := cls_of w_394 w_395 w_9 w_396 ⟨by decide +kernel, by decide +kernel, by decide +kernel⟩
theorem clX9_82_X2 : CLv RX9 82 RX2 mX2_wobblesOf 5 := clv_of rfl w_397 w_398 w_399 w_2 w_427 ⟨by decide +kernel, by decide +kernel, by decide +kernel⟩
theorem clX9_82_X1 : CLv RX9 82 RX1 mX1_wobblesOf 5 := clvO_of (y := ⟨"WhileSheLooks$Child", "wobblesOf", "(IIIII)I"⟩) (owner := "WhileSheLooks$Child") w_397 w_400 w_398 w_401 w_402 w_7 w_403 w_427 ⟨by decide +kernel, by decide +kernel, by decide +kernel⟩
theorem clX9_82_X3 : CLv RX9 82 RX3 mX2_wobblesOf 5 := clvO_of (y := ⟨"WhileSheLooks$Child", "wobblesOf", "(IIIII)I"⟩) (owner := "WhileSheLooks$Child") w_397 w_400 w_398 w_411 w_398 w_2 w_427 w_427 ⟨by decide +kernel, by decide +kernel, by decide +kernel⟩
theorem clX9_82_X4 : CLv RX9 82 RX4 mX4_wobblesOf 5 := clvO_of (y := ⟨"WhileSheLooks$Child", "wobblesOf", "(IIIII)I"⟩) (owner := "WhileSheLooks$Child") w_397 w_400 w_398 w_412 w_413 w_6 w_414 w_427 ⟨by decide +kernel, by decide +kernel, by decide +kernel⟩
theorem clX9_82_X6 : CLv RX9 82 RX6 mX6_wobblesOf 5 := clvO_of (y := ⟨"WhileSheLooks$Child", "wobblesOf", "(IIIII)I"⟩) (owner := "WhileSheLooks$Child") w_397 w_400 w_398 w_418 w_419 w_5 w_420 w_427 ⟨by decide +kernel, by decide +kernel, by decide +kernel⟩
theorem clX9_82_X7 : CLv RX9 82 RX7 mX7_wobblesOf 5 := clvO_of (y := ⟨"WhileSheLooks$Child", "wobblesOf", "(IIIII)I"⟩) (owner := "WhileSheLooks$Child") w_397 w_400 w_398 w_425 w_405 w_4 w_406 w_427 ⟨by decide +kernel, by decide +kernel, by decide +kernel⟩
theorem clX9_82_X8 : CLv RX9 82 RX8 mX6_wobblesOf 5 := clvO_of (y := ⟨"WhileSheLooks$Child", "wobblesOf", "(IIIII)I"⟩) (owner := "WhileSheLooks$Child") w_397 w_400 w_398 w_426 w_419 w_5 w_420 w_427 ⟨by decide +kernel, by decide +kernel, by decide +kernel⟩
theorem cuX1_11 : CLu RX1 11 mX7_wobblesOf 5 := clu_of w_404 w_1507 w_72 w_405 w_4 w_406 ⟨by decide +kernel, by decide +kernel⟩
theorem clX7_7_X2 : CLv RX7 7 RX2 mX2_wobblesOf 5 := clv_of rfl w_407 w_398 w_399 w_2 w_427 ⟨by decide +kernel, by decide +kernel, by decide +kernel⟩
theorem clX7_7_X1 : CLv RX7 7 RX1 mX1_wobblesOf 5 := clvO_of (y := ⟨"WhileSheLooks$Child", "wobblesOf", "(IIIII)I"⟩) (owner := "WhileSheLooks$Child") w_407 w_400 w_398 w_401 w_402 w_7 w_403 w_427 ⟨by decide +kernel, by decide +kernel, by decide +kernel⟩
theorem clX7_7_X3 : CLv RX7 7 RX3 mX2_wobblesOf 5 := clvO_of (y := ⟨"WhileSheLooks$Child", "wobblesOf", "(IIIII)I"⟩) (owner := "WhileSheLooks$Child") w_407 w_400 w_398 w_411 w_398 w_2 w_427 w_427 ⟨by decide +kernel, by decide +kernel, by decide +kernel⟩
theorem clX7_7_X4 : CLv RX7 7 RX4 mX4_wobblesOf 5 := clvO_of (y := ⟨"WhileSheLooks$Child", "wobblesOf", "(IIIII)I"⟩) (owner := "WhileSheLooks$Child") w_407 w_400 w_398 w_412 w_413 w_6 w_414 w_427 ⟨by decide +kernel, by decide +kernel, by decide +kernel⟩
theorem clX7_7_X6 : CLv RX7 7 RX6 mX6_wobblesOf 5 := clvO_of (y := ⟨"WhileSheLooks$Child", "wobblesOf", "(IIIII)I"⟩) (owner := "WhileSheLooks$Child") w_407 w_400 w_398 w_418 w_419 w_5 w_420 w_427 ⟨by decide +kernel, by decide +kernel, by decide +kernel⟩
theorem clX7_7_X7 : CLv RX7 7 RX7 mX7_wobblesOf 5 := clvO_of (y := ⟨"WhileSheLooks$Child", "wobblesOf", "(IIIII)I"⟩) (owner := "WhileSheLooks$Child") w_407 w_400 w_398 w_425 w_405 w_4 w_406 w_427 ⟨by decide +kernel, by decide +kernel, by decide +kernel⟩
theorem clX7_7_X8 : CLv RX7 7 RX8 mX6_wobblesOf 5 := clvO_of (y := ⟨"WhileSheLooks$Child", "wobblesOf", "(IIIII)I"⟩) (owner := "WhileSheLooks$Child") w_407 w_400 w_398 w_426 w_419 w_5 w_420 w_427 ⟨by decide +kernel, by decide +kernel, by decide +kernel⟩
theorem cuX7_7 : CLu RX7 7 mX2_wobblesOf 5 := clu_of w_407 w_400 w_51 w_398 w_2 w_427 ⟨by decide +kernel, by decide +kernel⟩
theorem clX7_11 : CLs RX7 11 mJ9_max_7cf53 2 := cls_of w_408 w_409 w_15 w_410 ⟨by decide +kernel, by decide +kernel, by decide +kernel⟩
theorem cuX4_11 : CLu RX4 11 mX2_wobblesOf 5 := cluI_of (y := ⟨"WhileSheLooks$Quick", "wobblesOf", "(IIIII)I"⟩) (owner := "WhileSheLooks$Child") w_415 w_416 w_65 w_44 w_398 w_2 w_427 rfl ⟨by decide +kernel, by decide +kernel⟩
theorem clX6_7_X2 : CLv RX6 7 RX2 mX2_wobblesOf 5 := clv_of rfl w_421 w_398 w_399 w_2 w_427 ⟨by decide +kernel, by decide +kernel, by decide +kernel⟩
theorem clX6_7_X1 : CLv RX6 7 RX1 mX1_wobblesOf 5 := clvO_of (y := ⟨"WhileSheLooks$Child", "wobblesOf", "(IIIII)I"⟩) (owner := "WhileSheLooks$Child") w_421 w_400 w_398 w_401 w_402 w_7 w_403 w_427 ⟨by decide +kernel, by decide +kernel, by decide +kernel⟩
theorem clX6_7_X3 : CLv RX6 7 RX3 mX2_wobblesOf 5 := clvO_of (y := ⟨"WhileSheLooks$Child", "wobblesOf", "(IIIII)I"⟩) (owner := "WhileSheLooks$Child") w_421 w_400 w_398 w_411 w_398 w_2 w_427 w_427 ⟨by decide +kernel, by decide +kernel, by decide +kernel⟩
theorem clX6_7_X4 : CLv RX6 7 RX4 mX4_wobblesOf 5 := clvO_of (y := ⟨"WhileSheLooks$Child", "wobblesOf", "(IIIII)I"⟩) (owner := "WhileSheLooks$Child") w_421 w_400 w_398 w_412 w_413 w_6 w_414 w_427 ⟨by decide +kernel, by decide +kernel, by decide +kernel⟩
theorem clX6_7_X6 : CLv RX6 7 RX6 mX6_wobblesOf 5 := clvO_of (y := ⟨"WhileSheLooks$Child", "wobblesOf", "(IIIII)I"⟩) (owner := "WhileSheLooks$Child") w_421 w_400 w_398 w_418 w_419 w_5 w_420 w_427 ⟨by decide +kernel, by decide +kernel, by decide +kernel⟩
theorem clX6_7_X7 : CLv RX6 7 RX7 mX7_wobblesOf 5 := clvO_of (y := ⟨"WhileSheLooks$Child", "wobblesOf", "(IIIII)I"⟩) (owner := "WhileSheLooks$Child") w_421 w_400 w_398 w_425 w_405 w_4 w_406 w_427 ⟨by decide +kernel, by decide +kernel, by decide +kernel⟩
theorem clX6_7_X8 : CLv RX6 7 RX8 mX6_wobblesOf 5 := clvO_of (y := ⟨"WhileSheLooks$Child", "wobblesOf", "(IIIII)I"⟩) (owner := "WhileSheLooks$Child") w_421 w_400 w_398 w_426 w_419 w_5 w_420 w_427 ⟨by decide +kernel, by decide +kernel, by decide +kernel⟩
theorem cuX6_7 : CLu RX6 7 mX2_wobblesOf 5 := clu_of w_421 w_400 w_58 w_398 w_2 w_427 ⟨by decide +kernel, by decide +kernel⟩
theorem clX6_11 : CLs RX6 11 mJ9_min_7cf53 2 := cls_of w_422 w_423 w_15 w_424 ⟨by decide +kernel, by decide +kernel, by decide +kernel⟩
theorem clX2_7 : CLs RX2 7 mJ9_max_7cf53 2 := cls_of w_428 w_409 w_15 w_410 ⟨by decide +kernel, by decide +kernel, by decide +kernel⟩
theorem clX11_127 : CLv RX11 127 RX5 mX5_isAtWall 1 := clv_of rfl w_429 w_430 w_431 w_10 w_432 ⟨by decide +kernel, by decide +kernel, by decide +kernel⟩
theorem clX11_146 : CLv RX11 146 RX5 mX5_putOnTheWay 2 := clv_of rfl w_437 w_438 w_439 w_10 w_440 ⟨by decide +kernel, by decide +kernel, by decide +kernel⟩
theorem clX11_162 : CLv RX11 162 RX10 mX10_faultOf 1 := clv_of rfl w_457 w_458 w_459 w_9 w_460 ⟨by decide +kernel, by decide +kernel, by decide +kernel⟩
theorem clX10_53 : CLv RX10 53 RX10 mX10_readClause 0 := clv_of rfl w_461 w_462 w_463 w_9 w_464 ⟨by decide +kernel, by decide +kernel, by decide +kernel⟩
theorem clX10_61 : CLv RX10 61 RX10 mX10_readWord 0 := clv_of rfl w_465 w_466 w_467 w_9 w_468 ⟨by decide +kernel, by decide +kernel, by decide +kernel⟩
theorem clX10_83 : CLs RX10 83 mX10_wordOf 1 := cls_of w_469 w_470 w_9 w_471 ⟨by decide +kernel, by decide +kernel, by decide +kernel⟩
theorem clX10_87 : CLv RX10 87 RX10 mX10_sameAs 1 := clv_of rfl w_477 w_478 w_479 w_9 w_480 ⟨by decide +kernel, by decide +kernel, by decide +kernel⟩
theorem clX10_91 : CLv RX10 91 RJ0 mJ0_length_8abf5 0 := clv_of rfl w_481 w_233 w_234 w_12 w_235 ⟨by decide +kernel, by decide +kernel, by decide +kernel⟩
theorem clX10_102 : CLv RX10 102 RX10 mX10_signAt 1 := clv_of rfl w_482 w_483 w_484 w_9 w_485 ⟨by decide +kernel, by decide +kernel, by decide +kernel⟩
theorem clX10_106 : CLv RX10 106 RJ0 mJ0_charAt_5068e 1 := clv_of rfl w_486 w_487 w_488 w_12 w_489 ⟨by decide +kernel, by decide +kernel, by decide +kernel⟩
theorem clJ0_492 : CLv RJ0 492 RJ0 mJ0_isLatin1_aae02 0 := clv_of rfl w_490 w_491 w_492 w_12 w_493 ⟨by decide +kernel, by decide +kernel, by decide +kernel⟩
theorem clJ0_495 : CLs RJ0 495 mJ1_charAt_3b067 2 := cls_of w_494 w_495 w_16 w_496 ⟨by decide +kernel, by decide +kernel, by decide +kernel⟩
theorem clJ1_9 : CLs RJ1 9 mJ0_checkIndex_df160 2 := cls_of w_497 w_498 w_12 w_499 ⟨by decide +kernel, by decide +kernel, by decide +kernel⟩
theorem clJ0_1059 : CLs RJ0 1059 mJ3_checkIndex_8e157 3 := cls_of w_502 w_503 w_17 w_504 ⟨by decide +kernel, by decide +kernel, by decide +kernel⟩
theorem clJ0_498 : CLs RJ0 498 mJ2_charAt_3b067 2 := cls_of w_505 w_506 w_18 w_507 ⟨by decide +kernel, by decide +kernel, by decide +kernel⟩
theorem clJ2_67 : CLs RJ2 67 mJ2_checkIndex_2214a 2 := cls_of w_508 w_509 w_18 w_510 ⟨by decide +kernel, by decide +kernel, by decide +kernel⟩
theorem clJ2_48 : CLs RJ2 48 mJ2_length_9d52b 1 := cls_of w_511 w_512 w_18 w_513 ⟨by decide +kernel, by decide +kernel, by decide +kernel⟩
theorem clJ2_414 : CLs RJ2 414 mJ0_checkIndex_df160 2 := cls_of w_514 w_498 w_12 w_499 ⟨by decide +kernel, by decide +kernel, by decide +kernel⟩
theorem clJ2_71 : CLs RJ2 71 mJ2_getChar_3b067 2 := cls_of w_515 w_516 w_18 w_517 ⟨by decide +kernel, by decide +kernel, by decide +kernel⟩
theorem clX10_96 : CLs RX10 96 mJ9_max_7cf53 2 := cls_of w_524 w_409 w_15 w_410 ⟨by decide +kernel, by decide +kernel, by decide +kernel⟩
theorem clX10_57 : CLv RX10 57 RX10 mX10_skip 1 := clv_of rfl w_525 w_526 w_527 w_9 w_528 ⟨by decide +kernel, by decide +kernel, by decide +kernel⟩
theorem clX10_65 : CLv RX10 65 RX10 mX10_readNumber 0 := clv_of rfl w_529 w_530 w_531 w_9 w_532 ⟨by decide +kernel, by decide +kernel, by decide +kernel⟩
theorem clX10_110 : CLs RX10 110 mX10_isDigit 1 := cls_of w_533 w_534 w_9 w_535 ⟨by decide +kernel, by decide +kernel, by decide +kernel⟩
theorem clX10_68 : CLv RX10 68 RX10 mX10_readEither 1 := clv_of rfl w_536 w_537 w_538 w_9 w_539 ⟨by decide +kernel, by decide +kernel, by decide +kernel⟩
theorem clX10_113 : CLv RX10 113 RX10 mX10_readPart 1 := clv_of rfl w_540 w_541 w_542 w_9 w_543 ⟨by decide +kernel, by decide +kernel, by decide +kernel⟩
theorem clX10_120 : CLv RX10 120 RX10 mX10_readTest 0 := clv_of rfl w_544 w_545 w_546 w_9 w_547 ⟨by decide +kernel, by decide +kernel, by decide +kernel⟩
theorem clX10_125 : CLv RX10 125 RX10 mX10_readOneOf 1 := clv_of rfl w_549 w_550 w_551 w_9 w_552 ⟨by decide +kernel, by decide +kernel, by decide +kernel⟩
theorem clX10_130 : CLv RX10 130 RJ0 mJ0_indexOf_0f7a4 1 := clv_of rfl w_553 w_554 w_555 w_12 w_556 ⟨by decide +kernel, by decide +kernel, by decide +kernel⟩
theorem clJ0_633 : CLv RJ0 633 RJ0 mJ0_indexOf_7cf53 2 := clv_of rfl w_557 w_558 w_559 w_12 w_560 ⟨by decide +kernel, by decide +kernel, by decide +kernel⟩
theorem clJ0_505 : CLv RJ0 505 RJ0 mJ0_length_8abf5 0 := clv_of rfl w_561 w_233 w_234 w_12 w_235 ⟨by decide +kernel, by decide +kernel, by decide +kernel⟩
theorem clJ0_637 : CLs RJ0 637 mJ1_indexOf_4cfef 4 := cls_of w_562 w_563 w_16 w_564 ⟨by decide +kernel, by decide +kernel, by decide +kernel⟩
theorem clJ1_88 : CLs RJ1 88 mJ1_canEncode_9a6ad 1 := cls_of w_565 w_566 w_16 w_567 ⟨by decide +kernel, by decide +kernel, by decide +kernel⟩
theorem clJ1_92 : CLs RJ1 92 mJ9_max_7cf53 2 := cls_of w_568 w_409 w_15 w_410 ⟨by decide +kernel, by decide +kernel, by decide +kernel⟩
theorem clJ1_38 : CLs RJ1 38 mJ9_min_7cf53 2 := cls_of w_569 w_423 w_15 w_424 ⟨by decide +kernel, by decide +kernel, by decide +kernel⟩
theorem clJ1_95 : CLs RJ1 95 mJ1_indexOfChar_4cfef 4 := cls_of w_570 w_571 w_16 w_572 ⟨by decide +kernel, by decide +kernel, by decide +kernel⟩
theorem clJ0_640 : CLs RJ0 640 mJ2_indexOf_4cfef 4 := cls_of w_573 w_574 w_18 w_575 ⟨by decide +kernel, by decide +kernel, by decide +kernel⟩
theorem clJ2_224 : CLs RJ2 224 mJ9_max_7cf53 2 := cls_of w_576 w_409 w_15 w_410 ⟨by decide +kernel, by decide +kernel, by decide +kernel⟩
theorem clJ2_183 : CLs RJ2 183 mJ9_min_7cf53 2 := cls_of w_577 w_423 w_15 w_424 ⟨by decide +kernel, by decide +kernel, by decide +kernel⟩
theorem clJ2_228 : CLs RJ2 228 mJ2_indexOfChar_4cfef 4 := cls_of w_579 w_580 w_18 w_581 ⟨by decide +kernel, by decide +kernel, by decide +kernel⟩
theorem clJ2_96 : CLs RJ2 96 mJ2_checkBoundsBeginEnd_d044e 3 := cls_of w_582 w_583 w_18 w_584 ⟨by decide +kernel, by decide +kernel, by decide +kernel⟩
theorem clJ2_241 : CLs RJ2 241 mJ0_checkBoundsBeginEnd_23922 3 := cls_of w_585 w_586 w_12 w_587 ⟨by decide +kernel, by decide +kernel, by decide +kernel⟩
theorem clJ0_1062 : CLs RJ0 1062 mJ3_checkFromToIndex_8c36e 4 := cls_of w_588 w_589 w_17 w_590 ⟨by decide +kernel, by decide +kernel, by decide +kernel⟩
theorem clJ2_244 : CLs RJ2 244 mJ2_indexOfCharUnsafe_4cfef 4 := cls_of w_591 w_592 w_18 w_593 ⟨by decide +kernel, by decide +kernel, by decide +kernel⟩
theorem clJ2_232 : CLs RJ2 232 mJ2_indexOfSupplementary_4cfef 4 := cls_of w_594 w_595 w_18 w_596 ⟨by decide +kernel, by decide +kernel, by decide +kernel⟩
theorem clJ2_164 : CLs RJ2 164 mJ11_isValidCodePoint_9a6ad 1 := cls_of w_597 w_598 w_19 w_599 ⟨by decide +kernel, by decide +kernel, by decide +kernel⟩
theorem clJ2_157 : CLs RJ2 157 mJ11_highSurrogate_5068e 1 := cls_of w_600 w_601 w_19 w_602 ⟨by decide +kernel, by decide +kernel, by decide +kernel⟩
theorem clJ2_161 : CLs RJ2 161 mJ11_lowSurrogate_5068e 1 := cls_of w_604 w_605 w_19 w_606 ⟨by decide +kernel, by decide +kernel, by decide +kernel⟩
theorem clX10_116 : CLv RX10 116 RX10 mX10_addCode 1 := clv_of rfl w_609 w_610 w_611 w_9 w_612 ⟨by decide +kernel, by decide +kernel, by decide +kernel⟩
theorem clX10_72 : CLv RX10 72 RX10 mX10_addClause 3 := clv_of rfl w_613 w_614 w_615 w_9 w_616 ⟨by decide +kernel, by decide +kernel, by decide +kernel⟩
theorem clX11_178 : CLv RX11 178 RX9 mX9_pass 2 := clv_of rfl w_625 w_626 w_627 w_11 w_628 ⟨by decide +kernel, by decide +kernel, by decide +kernel⟩
theorem clX9_122 : CLv RX9 122 RX9 mX9_step 3 := clv_of rfl w_629 w_630 w_631 w_11 w_632 ⟨by decide +kernel, by decide +kernel, by decide +kernel⟩
theorem clX9_86 : CLv RX9 86 RX9 mX9_foresee 1 := clv_of rfl w_633 w_352 w_353 w_11 w_354 ⟨by decide +kernel, by decide +kernel, by decide +kernel⟩
theorem clX9_90 : CLv RX9 90 RX5 mX5_has 1 := clv_of rfl w_634 w_348 w_349 w_10 w_350 ⟨by decide +kernel, by decide +kernel, by decide +kernel⟩
theorem clX9_94 : CLv RX9 94 RX9 mX9_goOn 1 := clv_of rfl w_635 w_636 w_637 w_11 w_638 ⟨by decide +kernel, by decide +kernel, by decide +kernel⟩
theorem clX9_104 : CLv RX9 104 RX5 mX5_isAtWall 1 := clv_of rfl w_639 w_430 w_431 w_10 w_432 ⟨by decide +kernel, by decide +kernel, by decide +kernel⟩
theorem clX9_97 : CLv RX9 97 RX9 mX9_whoIsSentBack 2 := clv_of rfl w_640 w_641 w_642 w_11 w_643 ⟨by decide +kernel, by decide +kernel, by decide +kernel⟩
theorem clX9_116 : CLv RX9 116 RX9 mX9_lookedAtAhead 2 := clv_of rfl w_644 w_645 w_646 w_11 w_647 ⟨by decide +kernel, by decide +kernel, by decide +kernel⟩
theorem clX11_182 : CLv RX11 182 RX5 mX5_copyFrom 1 := clv_of rfl w_652 w_653 w_654 w_10 w_655 ⟨by decide +kernel, by decide +kernel, by decide +kernel⟩
theorem clX11_185 : CLs RX11 185 mJ6_bitCount_0f7a4 1 := cls_of w_659 w_660 w_21 w_661 ⟨by decide +kernel, by decide +kernel, by decide +kernel⟩
theorem clX11_190 : CLv RX11 190 RX9 mX9_untilWall 2 := clv_of rfl w_669 w_670 w_671 w_11 w_672 ⟨by decide +kernel, by decide +kernel, by decide +kernel⟩
theorem clX11_193 : CLv RX11 193 RX5 mX5_everybody 0 := clv_of rfl w_677 w_678 w_679 w_10 w_680 ⟨by decide +kernel, by decide +kernel, by decide +kernel⟩
theorem clX11_197 : CLs RX11 197 mX11_namesEachPlace 1 := cls_of w_697 w_698 w_1 w_699 ⟨by decide +kernel, by decide +kernel, by decide +kernel⟩
theorem clX11_200 : CLs RX11 200 mX11_placeIn 2 := cls_of w_700 w_701 w_1 w_702 ⟨by decide +kernel, by decide +kernel, by decide +kernel⟩
theorem clX11_203 : CLv RX11 203 RX9 mX9_step 3 := clv_of rfl w_707 w_630 w_631 w_11 w_632 ⟨by decide +kernel, by decide +kernel, by decide +kernel⟩
theorem clX11_210 : CLv RX11 210 RX5 mX5_addSeen 3 := clv_of rfl w_724 w_725 w_726 w_10 w_727 ⟨by decide +kernel, by decide +kernel, by decide +kernel⟩
theorem clX11_214 : CLv RX11 214 RX11 mX11_allSeenIsSo 0 := clv_of rfl w_732 w_734 (TB_sel 0 (by decide +kernel) (by decide +kernel)) w_1 w_735 ⟨by decide +kernel, by decide +kernel, by decide +kernel⟩
theorem clX11_220 : CLs RX11 220 mX11_partOfFraction 3 := cls_of w_745 w_746 w_1 w_747 ⟨by decide +kernel, by decide +kernel, by decide +kernel⟩
theorem clX11_227 : CLv RX11 227 RX5 mX5_addToBook 2 := clv_of rfl w_756 w_757 w_758 w_10 w_759 ⟨by decide +kernel, by decide +kernel, by decide +kernel⟩
theorem clX11_236 : CLs RX11 236 mX11_isTape 1 := cls_of w_768 w_769 w_1 w_770 ⟨by decide +kernel, by decide +kernel, by decide +kernel⟩
theorem clX11_251_X2 : CLv RX11 251 RX2 mX2_running 2 := clv_of rfl w_783 w_784 w_785 w_2 w_811 ⟨by decide +kernel, by decide +kernel, by decide +kernel⟩
theorem clX11_251_X1 : CLv RX11 251 RX1 mX7_running 2 := clvO_of (y := ⟨"WhileSheLooks$Child", "running", "(LWhileSheLooks$Acts;I)I"⟩) (owner := "WhileSheLooks$Child") w_783 w_786 w_784 w_787 w_788 w_4 w_789 w_811 ⟨by decide +kernel, by decide +kernel, by decide +kernel⟩
theorem clX11_251_X3 : CLv RX11 251 RX3 mX2_running 2 := clvO_of (y := ⟨"WhileSheLooks$Child", "running", "(LWhileSheLooks$Acts;I)I"⟩) (owner := "WhileSheLooks$Child") w_783 w_786 w_784 w_795 w_784 w_2 w_811 w_811 ⟨by decide +kernel, by decide +kernel, by decide +kernel⟩
theorem clX11_251_X4 : CLv RX11 251 RX4 mX4_running 2 := clvO_of (y := ⟨"WhileSheLooks$Child", "running", "(LWhileSheLooks$Acts;I)I"⟩) (owner := "WhileSheLooks$Child") w_783 w_786 w_784 w_796 w_797 w_6 w_798 w_811 ⟨by decide +kernel, by decide +kernel, by decide +kernel⟩
theorem clX11_251_X6 : CLv RX11 251 RX6 mX2_running 2 := clvO_of (y := ⟨"WhileSheLooks$Child", "running", "(LWhileSheLooks$Acts;I)I"⟩) (owner := "WhileSheLooks$Child") w_783 w_786 w_784 w_803 w_784 w_2 w_811 w_811 ⟨by decide +kernel, by decide +kernel, by decide +kernel⟩
theorem clX11_251_X7 : CLv RX11 251 RX7 mX7_running 2 := clvO_of (y := ⟨"WhileSheLooks$Child", "running", "(LWhileSheLooks$Acts;I)I"⟩) (owner := "WhileSheLooks$Child") w_783 w_786 w_784 w_804 w_788 w_4 w_789 w_811 ⟨by decide +kernel, by decide +kernel, by decide +kernel⟩
theorem clX11_251_X8 : CLv RX11 251 RX8 mX8_running 2 := clvO_of (y := ⟨"WhileSheLooks$Child", "running", "(LWhileSheLooks$Acts;I)I"⟩) (owner := "WhileSheLooks$Child") w_783 w_786 w_784 w_805 w_806 w_8 w_807 w_811 ⟨by decide +kernel, by decide +kernel, by decide +kernel⟩
theorem clX7_17 : CLv RX7 17 RX0 mX0_begin 1 := clv_of rfl w_790 w_791 w_792 w_13 w_793 ⟨by decide +kernel, by decide +kernel, by decide +kernel⟩
theorem clX7_23_X2 : CLv RX7 23 RX2 mX2_running 2 := clv_of rfl w_794 w_784 w_785 w_2 w_811 ⟨by decide +kernel, by decide +kernel, by decide +kernel⟩
theorem clX7_23_X1 : CLv RX7 23 RX1 mX7_running 2 := clvO_of (y := ⟨"WhileSheLooks$Child", "running", "(LWhileSheLooks$Acts;I)I"⟩) (owner := "WhileSheLooks$Child") w_794 w_786 w_784 w_787 w_788 w_4 w_789 w_811 ⟨by decide +kernel, by decide +kernel, by decide +kernel⟩
theorem clX7_23_X3 : CLv RX7 23 RX3 mX2_running 2 := clvO_of (y := ⟨"WhileSheLooks$Child", "running", "(LWhileSheLooks$Acts;I)I"⟩) (owner := "WhileSheLooks$Child") w_794 w_786 w_784 w_795 w_784 w_2 w_811 w_811 ⟨by decide +kernel, by decide +kernel, by decide +kernel⟩
theorem clX7_23_X4 : CLv RX7 23 RX4 mX4_running 2 := clvO_of (y := ⟨"WhileSheLooks$Child", "running", "(LWhileSheLooks$Acts;I)I"⟩) (owner := "WhileSheLooks$Child") w_794 w_786 w_784 w_796 w_797 w_6 w_798 w_811 ⟨by decide +kernel, by decide +kernel, by decide +kernel⟩
theorem clX7_23_X6 : CLv RX7 23 RX6 mX2_running 2 := clvO_of (y := ⟨"WhileSheLooks$Child", "running", "(LWhileSheLooks$Acts;I)I"⟩) (owner := "WhileSheLooks$Child") w_794 w_786 w_784 w_803 w_784 w_2 w_811 w_811 ⟨by decide +kernel, by decide +kernel, by decide +kernel⟩
theorem clX7_23_X7 : CLv RX7 23 RX7 mX7_running 2 := clvO_of (y := ⟨"WhileSheLooks$Child", "running", "(LWhileSheLooks$Acts;I)I"⟩) (owner := "WhileSheLooks$Child") w_794 w_786 w_784 w_804 w_788 w_4 w_789 w_811 ⟨by decide +kernel, by decide +kernel, by decide +kernel⟩
theorem clX7_23_X8 : CLv RX7 23 RX8 mX8_running 2 := clvO_of (y := ⟨"WhileSheLooks$Child", "running", "(LWhileSheLooks$Acts;I)I"⟩) (owner := "WhileSheLooks$Child") w_794 w_786 w_784 w_805 w_806 w_8 w_807 w_811 ⟨by decide +kernel, by decide +kernel, by decide +kernel⟩
theorem cuX7_23 : CLu RX7 23 mX2_running 2 := clu_of w_794 w_786 w_51 w_784 w_2 w_811 ⟨by decide +kernel, by decide +kernel⟩
theorem clX4_15 : CLv RX4 15 RX0 mX0_begin 1 := clv_of rfl w_799 w_791 w_792 w_13 w_793 ⟨by decide +kernel, by decide +kernel, by decide +kernel⟩
theorem cuX4_21 : CLu RX4 21 mX2_running 2 := cluI_of (y := ⟨"WhileSheLooks$Quick", "running", "(LWhileSheLooks$Acts;I)I"⟩) (owner := "WhileSheLooks$Child") w_800 w_801 w_65 w_44 w_784 w_2 w_811 rfl ⟨by decide +kernel, by decide +kernel⟩
theorem clX8_11 : CLv RX8 11 RX0 mX0_begin 1 := clv_of rfl w_808 w_791 w_792 w_13 w_793 ⟨by decide +kernel, by decide +kernel, by decide +kernel⟩
theorem cuX8_17 : CLu RX8 17 mX2_running 2 := cluI_of (y := ⟨"WhileSheLooks$Small", "running", "(LWhileSheLooks$Acts;I)I"⟩) (owner := "WhileSheLooks$Child") w_809 w_810 w_79 w_58 w_784 w_2 w_811 rfl ⟨by decide +kernel, by decide +kernel⟩
theorem clX2_13 : CLv RX2 13 RX0 mX0_begin 1 := clv_of rfl w_812 w_791 w_792 w_13 w_793 ⟨by decide +kernel, by decide +kernel, by decide +kernel⟩
theorem clX11_255_X2 : CLv RX11 255 RX2 mX2_standing 2 := clv_of rfl w_813 w_814 w_815 w_2 w_835 ⟨by decide +kernel, by decide +kernel, by decide +kernel⟩
theorem clX11_255_X1 : CLv RX11 255 RX1 mX2_standing 2 := clvO_of (y := ⟨"WhileSheLooks$Child", "standing", "(LWhileSheLooks$Acts;I)I"⟩) (owner := "WhileSheLooks$Child") w_813 w_816 w_814 w_817 w_814 w_2 w_835 w_835 ⟨by decide +kernel, by decide +kernel, by decide +kernel⟩
theorem clX11_255_X3 : CLv RX11 255 RX3 mX3_standing 2 := clvO_of (y := ⟨"WhileSheLooks$Child", "standing", "(LWhileSheLooks$Acts;I)I"⟩) (owner := "WhileSheLooks$Child") w_813 w_816 w_814 w_818 w_819 w_3 w_820 w_835 ⟨by decide +kernel, by decide +kernel, by decide +kernel⟩
theorem clX11_255_X4 : CLv RX11 255 RX4 mX4_standing 2 := clvO_of (y := ⟨"WhileSheLooks$Child", "standing", "(LWhileSheLooks$Acts;I)I"⟩) (owner := "WhileSheLooks$Child") w_813 w_816 w_814 w_823 w_824 w_6 w_825 w_835 ⟨by decide +kernel, by decide +kernel, by decide +kernel⟩
theorem clX11_255_X6 : CLv RX11 255 RX6 mX2_standing 2 := clvO_of (y := ⟨"WhileSheLooks$Child", "standing", "(LWhileSheLooks$Acts;I)I"⟩) (owner := "WhileSheLooks$Child") w_813 w_816 w_814 w_827 w_814 w_2 w_835 w_835 ⟨by decide +kernel, by decide +kernel, by decide +kernel⟩
theorem clX11_255_X7 : CLv RX11 255 RX7 mX2_standing 2 := clvO_of (y := ⟨"WhileSheLooks$Child", "standing", "(LWhileSheLooks$Acts;I)I"⟩) (owner := "WhileSheLooks$Child") w_813 w_816 w_814 w_828 w_814 w_2 w_835 w_835 ⟨by decide +kernel, by decide +kernel, by decide +kernel⟩
theorem clX11_255_X8 : CLv RX11 255 RX8 mX8_standing 2 := clvO_of (y := ⟨"WhileSheLooks$Child", "standing", "(LWhileSheLooks$Acts;I)I"⟩) (owner := "WhileSheLooks$Child") w_813 w_816 w_814 w_829 w_830 w_8 w_831 w_835 ⟨by decide +kernel, by decide +kernel, by decide +kernel⟩
theorem clX3_11 : CLv RX3 11 RX0 mX0_begin 1 := clv_of rfl w_821 w_791 w_792 w_13 w_793 ⟨by decide +kernel, by decide +kernel, by decide +kernel⟩
theorem clX3_17_X2 : CLv RX3 17 RX2 mX2_standing 2 := clv_of rfl w_822 w_814 w_815 w_2 w_835 ⟨by decide +kernel, by decide +kernel, by decide +kernel⟩
theorem clX3_17_X1 : CLv RX3 17 RX1 mX2_standing 2 := clvO_of (y := ⟨"WhileSheLooks$Child", "standing", "(LWhileSheLooks$Acts;I)I"⟩) (owner := "WhileSheLooks$Child") w_822 w_816 w_814 w_817 w_814 w_2 w_835 w_835 ⟨by decide +kernel, by decide +kernel, by decide +kernel⟩
theorem clX3_17_X3 : CLv RX3 17 RX3 mX3_standing 2 := clvO_of (y := ⟨"WhileSheLooks$Child", "standing", "(LWhileSheLooks$Acts;I)I"⟩) (owner := "WhileSheLooks$Child") w_822 w_816 w_814 w_818 w_819 w_3 w_820 w_835 ⟨by decide +kernel, by decide +kernel, by decide +kernel⟩
theorem clX3_17_X4 : CLv RX3 17 RX4 mX4_standing 2 := clvO_of (y := ⟨"WhileSheLooks$Child", "standing", "(LWhileSheLooks$Acts;I)I"⟩) (owner := "WhileSheLooks$Child") w_822 w_816 w_814 w_823 w_824 w_6 w_825 w_835 ⟨by decide +kernel, by decide +kernel, by decide +kernel⟩
theorem clX3_17_X6 : CLv RX3 17 RX6 mX2_standing 2 := clvO_of (y := ⟨"WhileSheLooks$Child", "standing", "(LWhileSheLooks$Acts;I)I"⟩) (owner := "WhileSheLooks$Child") w_822 w_816 w_814 w_827 w_814 w_2 w_835 w_835 ⟨by decide +kernel, by decide +kernel, by decide +kernel⟩
theorem clX3_17_X7 : CLv RX3 17 RX7 mX2_standing 2 := clvO_of (y := ⟨"WhileSheLooks$Child", "standing", "(LWhileSheLooks$Acts;I)I"⟩) (owner := "WhileSheLooks$Child") w_822 w_816 w_814 w_828 w_814 w_2 w_835 w_835 ⟨by decide +kernel, by decide +kernel, by decide +kernel⟩
theorem clX3_17_X8 : CLv RX3 17 RX8 mX8_standing 2 := clvO_of (y := ⟨"WhileSheLooks$Child", "standing", "(LWhileSheLooks$Acts;I)I"⟩) (owner := "WhileSheLooks$Child") w_822 w_816 w_814 w_829 w_830 w_8 w_831 w_835 ⟨by decide +kernel, by decide +kernel, by decide +kernel⟩
theorem cuX3_17 : CLu RX3 17 mX2_standing 2 := clu_of w_822 w_816 w_44 w_814 w_2 w_835 ⟨by decide +kernel, by decide +kernel⟩
theorem cuX4_25 : CLu RX4 25 mX3_standing 2 := clu_of w_826 w_1508 w_65 w_819 w_3 w_820 ⟨by decide +kernel, by decide +kernel⟩
theorem clX8_25_X6 : CLv RX8 25 RX6 mX2_standing 2 := clvO_of (y := ⟨"WhileSheLooks$Small", "standing", "(LWhileSheLooks$Acts;I)I"⟩) (owner := "WhileSheLooks$Child") w_832 w_833 w_814 w_856 w_814 w_2 w_835 w_835 ⟨by decide +kernel, by decide +kernel, by decide +kernel⟩
theorem clX8_25_X8 : CLv RX8 25 RX8 mX8_standing 2 := clvO_of (y := ⟨"WhileSheLooks$Small", "standing", "(LWhileSheLooks$Acts;I)I"⟩) (owner := "WhileSheLooks$Child") w_832 w_833 w_814 w_857 w_830 w_8 w_831 w_835 ⟨by decide +kernel, by decide +kernel, by decide +kernel⟩
theorem cuX8_25 : CLu RX8 25 mX2_standing 2 := cluI_of (y := ⟨"WhileSheLooks$Small", "standing", "(LWhileSheLooks$Acts;I)I"⟩) (owner := "WhileSheLooks$Child") w_832 w_833 w_79 w_58 w_814 w_2 w_835 rfl ⟨by decide +kernel, by decide +kernel⟩
theorem clX2_23_X2 : CLv RX2 23 RX2 mX2_running 2 := clv_of rfl w_836 w_784 w_785 w_2 w_811 ⟨by decide +kernel, by decide +kernel, by decide +kernel⟩
theorem clX2_23_X1 : CLv RX2 23 RX1 mX7_running 2 := clvO_of (y := ⟨"WhileSheLooks$Child", "running", "(LWhileSheLooks$Acts;I)I"⟩) (owner := "WhileSheLooks$Child") w_836 w_786 w_784 w_787 w_788 w_4 w_789 w_811 ⟨by decide +kernel, by decide +kernel, by decide +kernel⟩
theorem clX2_23_X3 : CLv RX2 23 RX3 mX2_running 2 := clvO_of (y := ⟨"WhileSheLooks$Child", "running", "(LWhileSheLooks$Acts;I)I"⟩) (owner := "WhileSheLooks$Child") w_836 w_786 w_784 w_795 w_784 w_2 w_811 w_811 ⟨by decide +kernel, by decide +kernel, by decide +kernel⟩
theorem clX2_23_X4 : CLv RX2 23 RX4 mX4_running 2 := clvO_of (y := ⟨"WhileSheLooks$Child", "running", "(LWhileSheLooks$Acts;I)I"⟩) (owner := "WhileSheLooks$Child") w_836 w_786 w_784 w_796 w_797 w_6 w_798 w_811 ⟨by decide +kernel, by decide +kernel, by decide +kernel⟩
theorem clX2_23_X6 : CLv RX2 23 RX6 mX2_running 2 := clvO_of (y := ⟨"WhileSheLooks$Child", "running", "(LWhileSheLooks$Acts;I)I"⟩) (owner := "WhileSheLooks$Child") w_836 w_786 w_784 w_803 w_784 w_2 w_811 w_811 ⟨by decide +kernel, by decide +kernel, by decide +kernel⟩
theorem clX2_23_X7 : CLv RX2 23 RX7 mX7_running 2 := clvO_of (y := ⟨"WhileSheLooks$Child", "running", "(LWhileSheLooks$Acts;I)I"⟩) (owner := "WhileSheLooks$Child") w_836 w_786 w_784 w_804 w_788 w_4 w_789 w_811 ⟨by decide +kernel, by decide +kernel, by decide +kernel⟩
theorem clX2_23_X8 : CLv RX2 23 RX8 mX8_running 2 := clvO_of (y := ⟨"WhileSheLooks$Child", "running", "(LWhileSheLooks$Acts;I)I"⟩) (owner := "WhileSheLooks$Child") w_836 w_786 w_784 w_805 w_806 w_8 w_807 w_811 ⟨by decide +kernel, by decide +kernel, by decide +kernel⟩
theorem clX11_258_X2 : CLv RX11 258 RX2 mX2_telling 2 := clv_of rfl w_837 w_838 w_839 w_2 w_860 ⟨by decide +kernel, by decide +kernel, by decide +kernel⟩
theorem clX11_258_X1 : CLv RX11 258 RX1 mX1_telling 2 := clvO_of (y := ⟨"WhileSheLooks$Child", "telling", "(LWhileSheLooks$Acts;I)I"⟩) (owner := "WhileSheLooks$Child") w_837 w_840 w_838 w_841 w_842 w_7 w_843 w_860 ⟨by decide +kernel, by decide +kernel, by decide +kernel⟩
theorem clX11_258_X3 : CLv RX11 258 RX3 mX2_telling 2 := clvO_of (y := ⟨"WhileSheLooks$Child", "telling", "(LWhileSheLooks$Acts;I)I"⟩) (owner := "WhileSheLooks$Child") w_837 w_840 w_838 w_848 w_838 w_2 w_860 w_860 ⟨by decide +kernel, by decide +kernel, by decide +kernel⟩
theorem clX11_258_X4 : CLv RX11 258 RX4 mX2_telling 2 := clvO_of (y := ⟨"WhileSheLooks$Child", "telling", "(LWhileSheLooks$Acts;I)I"⟩) (owner := "WhileSheLooks$Child") w_837 w_840 w_838 w_849 w_838 w_2 w_860 w_860 ⟨by decide +kernel, by decide +kernel, by decide +kernel⟩
theorem clX11_258_X6 : CLv RX11 258 RX6 mX6_telling 2 := clvO_of (y := ⟨"WhileSheLooks$Child", "telling", "(LWhileSheLooks$Acts;I)I"⟩) (owner := "WhileSheLooks$Child") w_837 w_840 w_838 w_850 w_851 w_5 w_852 w_860 ⟨by decide +kernel, by decide +kernel, by decide +kernel⟩
theorem clX11_258_X7 : CLv RX11 258 RX7 mX2_telling 2 := clvO_of (y := ⟨"WhileSheLooks$Child", "telling", "(LWhileSheLooks$Acts;I)I"⟩) (owner := "WhileSheLooks$Child") w_837 w_840 w_838 w_858 w_838 w_2 w_860 w_860 ⟨by decide +kernel, by decide +kernel, by decide +kernel⟩
theorem clX11_258_X8 : CLv RX11 258 RX8 mX6_telling 2 := clvO_of (y := ⟨"WhileSheLooks$Child", "telling", "(LWhileSheLooks$Acts;I)I"⟩) (owner := "WhileSheLooks$Child") w_837 w_840 w_838 w_859 w_851 w_5 w_852 w_860 ⟨by decide +kernel, by decide +kernel, by decide +kernel⟩
theorem clX1_15 : CLv RX1 15 RX0 mX0_begin 1 := clv_of rfl w_844 w_791 w_792 w_13 w_793 ⟨by decide +kernel, by decide +kernel, by decide +kernel⟩
theorem cuX1_25 : CLu RX1 25 mX2_telling 2 := cluI_of (y := ⟨"WhileSheLooks$Steady", "telling", "(LWhileSheLooks$Acts;I)I"⟩) (owner := "WhileSheLooks$Child") w_845 w_846 w_72 w_51 w_838 w_2 w_860 rfl ⟨by decide +kernel, by decide +kernel⟩
theorem clX6_17 : CLv RX6 17 RX0 mX0_begin 1 := clv_of rfl w_853 w_791 w_792 w_13 w_793 ⟨by decide +kernel, by decide +kernel, by decide +kernel⟩
theorem clX6_23_X2 : CLv RX6 23 RX2 mX2_telling 2 := clv_of rfl w_854 w_838 w_839 w_2 w_860 ⟨by decide +kernel, by decide +kernel, by decide +kernel⟩
theorem clX6_23_X1 : CLv RX6 23 RX1 mX1_telling 2 := clvO_of (y := ⟨"WhileSheLooks$Child", "telling", "(LWhileSheLooks$Acts;I)I"⟩) (owner := "WhileSheLooks$Child") w_854 w_840 w_838 w_841 w_842 w_7 w_843 w_860 ⟨by decide +kernel, by decide +kernel, by decide +kernel⟩
theorem clX6_23_X3 : CLv RX6 23 RX3 mX2_telling 2 := clvO_of (y := ⟨"WhileSheLooks$Child", "telling", "(LWhileSheLooks$Acts;I)I"⟩) (owner := "WhileSheLooks$Child") w_854 w_840 w_838 w_848 w_838 w_2 w_860 w_860 ⟨by decide +kernel, by decide +kernel, by decide +kernel⟩
theorem clX6_23_X4 : CLv RX6 23 RX4 mX2_telling 2 := clvO_of (y := ⟨"WhileSheLooks$Child", "telling", "(LWhileSheLooks$Acts;I)I"⟩) (owner := "WhileSheLooks$Child") w_854 w_840 w_838 w_849 w_838 w_2 w_860 w_860 ⟨by decide +kernel, by decide +kernel, by decide +kernel⟩
theorem clX6_23_X6 : CLv RX6 23 RX6 mX6_telling 2 := clvO_of (y := ⟨"WhileSheLooks$Child", "telling", "(LWhileSheLooks$Acts;I)I"⟩) (owner := "WhileSheLooks$Child") w_854 w_840 w_838 w_850 w_851 w_5 w_852 w_860 ⟨by decide +kernel, by decide +kernel, by decide +kernel⟩
theorem clX6_23_X7 : CLv RX6 23 RX7 mX2_telling 2 := clvO_of (y := ⟨"WhileSheLooks$Child", "telling", "(LWhileSheLooks$Acts;I)I"⟩) (owner := "WhileSheLooks$Child") w_854 w_840 w_838 w_858 w_838 w_2 w_860 w_860 ⟨by decide +kernel, by decide +kernel, by decide +kernel⟩
theorem clX6_23_X8 : CLv RX6 23 RX8 mX6_telling 2 := clvO_of (y := ⟨"WhileSheLooks$Child", "telling", "(LWhileSheLooks$Acts;I)I"⟩) (owner := "WhileSheLooks$Child") w_854 w_840 w_838 w_859 w_851 w_5 w_852 w_860 ⟨by decide +kernel, by decide +kernel, by decide +kernel⟩
theorem cuX6_23 : CLu RX6 23 mX2_telling 2 := clu_of w_854 w_840 w_58 w_838 w_2 w_860 ⟨by decide +kernel, by decide +kernel⟩
theorem clX6_27_X6 : CLv RX6 27 RX6 mX2_standing 2 := clvO_of (y := ⟨"WhileSheLooks$Small", "standing", "(LWhileSheLooks$Acts;I)I"⟩) (owner := "WhileSheLooks$Child") w_855 w_833 w_814 w_856 w_814 w_2 w_835 w_835 ⟨by decide +kernel, by decide +kernel, by decide +kernel⟩
theorem clX6_27_X8 : CLv RX6 27 RX8 mX8_standing 2 := clvO_of (y := ⟨"WhileSheLooks$Small", "standing", "(LWhileSheLooks$Acts;I)I"⟩) (owner := "WhileSheLooks$Child") w_855 w_833 w_814 w_857 w_830 w_8 w_831 w_835 ⟨by decide +kernel, by decide +kernel, by decide +kernel⟩
theorem clX2_32_X2 : CLv RX2 32 RX2 mX2_standing 2 := clv_of rfl w_861 w_814 w_815 w_2 w_835 ⟨by decide +kernel, by decide +kernel, by decide +kernel⟩
theorem clX2_32_X1 : CLv RX2 32 RX1 mX2_standing 2 := clvO_of (y := ⟨"WhileSheLooks$Child", "standing", "(LWhileSheLooks$Acts;I)I"⟩) (owner := "WhileSheLooks$Child") w_861 w_816 w_814 w_817 w_814 w_2 w_835 w_835 ⟨by decide +kernel, by decide +kernel, by decide +kernel⟩
theorem clX2_32_X3 : CLv RX2 32 RX3 mX3_standing 2 := clvO_of (y := ⟨"WhileSheLooks$Child", "standing", "(LWhileSheLooks$Acts;I)I"⟩) (owner := "WhileSheLooks$Child") w_861 w_816 w_814 w_818 w_819 w_3 w_820 w_835 ⟨by decide +kernel, by decide +kernel, by decide +kernel⟩
theorem clX2_32_X4 : CLv RX2 32 RX4 mX4_standing 2 := clvO_of (y := ⟨"WhileSheLooks$Child", "standing", "(LWhileSheLooks$Acts;I)I"⟩) (owner := "WhileSheLooks$Child") w_861 w_816 w_814 w_823 w_824 w_6 w_825 w_835 ⟨by decide +kernel, by decide +kernel, by decide +kernel⟩
theorem clX2_32_X6 : CLv RX2 32 RX6 mX2_standing 2 := clvO_of (y := ⟨"WhileSheLooks$Child", "standing", "(LWhileSheLooks$Acts;I)I"⟩) (owner := "WhileSheLooks$Child") w_861 w_816 w_814 w_827 w_814 w_2 w_835 w_835 ⟨by decide +kernel, by decide +kernel, by decide +kernel⟩
theorem clX2_32_X7 : CLv RX2 32 RX7 mX2_standing 2 := clvO_of (y := ⟨"WhileSheLooks$Child", "standing", "(LWhileSheLooks$Acts;I)I"⟩) (owner := "WhileSheLooks$Child") w_861 w_816 w_814 w_828 w_814 w_2 w_835 w_835 ⟨by decide +kernel, by decide +kernel, by decide +kernel⟩
theorem clX2_32_X8 : CLv RX2 32 RX8 mX8_standing 2 := clvO_of (y := ⟨"WhileSheLooks$Child", "standing", "(LWhileSheLooks$Acts;I)I"⟩) (owner := "WhileSheLooks$Child") w_861 w_816 w_814 w_829 w_830 w_8 w_831 w_835 ⟨by decide +kernel, by decide +kernel, by decide +kernel⟩
theorem clX11_267 : CLs RX11 267 mX11_asItem 2 := cls_of w_884 w_885 w_1 w_886 ⟨by decide +kernel, by decide +kernel, by decide +kernel⟩
theorem clX12_236 : CLv RX12 236 RX12 mX12_in 3 := clv_of rfl w_1130 w_1132 (TB_sel 1 (by decide +kernel) (by decide +kernel)) w_14 w_1133 ⟨by decide +kernel, by decide +kernel, by decide +kernel⟩
theorem clX12_240 : CLv RX12 240 RX12 mX12_isChild 1 := clv_of rfl w_1138 w_1140 (TB_sel 2 (by decide +kernel) (by decide +kernel)) w_14 w_1141 ⟨by decide +kernel, by decide +kernel, by decide +kernel⟩
theorem clX12_244 : CLv RX12 244 RX12 mX12_far 0 := clv_of rfl w_1142 w_1144 (TB_sel 3 (by decide +kernel) (by decide +kernel)) w_14 w_1145 ⟨by decide +kernel, by decide +kernel, by decide +kernel⟩
theorem clX12_303 : CLv RX12 303 RX12 mX12_lastOf 2 := clv_of rfl w_1146 w_1148 (TB_sel 4 (by decide +kernel) (by decide +kernel)) w_14 w_1149 ⟨by decide +kernel, by decide +kernel, by decide +kernel⟩
theorem clX12_297 : CLv RX12 297 RX12 mX12_begin 0 := clv_of rfl w_1150 w_1152 (TB_sel 5 (by decide +kernel) (by decide +kernel)) w_14 w_1153 ⟨by decide +kernel, by decide +kernel, by decide +kernel⟩
theorem clX12_300 : CLv RX12 300 RX12 mX12_behind 0 := clv_of rfl w_1154 w_1156 (TB_sel 6 (by decide +kernel) (by decide +kernel)) w_14 w_1157 ⟨by decide +kernel, by decide +kernel, by decide +kernel⟩
theorem clX12_294 : CLv RX12 294 RX12 mX12_goesText 1 := clv_of rfl w_1174 w_1176 (TB_sel 7 (by decide +kernel) (by decide +kernel)) w_14 w_1177 ⟨by decide +kernel, by decide +kernel, by decide +kernel⟩
theorem clX12_291 : CLv RX12 291 RX12 mX12_takesClause 1 := clv_of rfl w_1178 w_1180 (TB_sel 8 (by decide +kernel) (by decide +kernel)) w_14 w_1181 ⟨by decide +kernel, by decide +kernel, by decide +kernel⟩
theorem clX12_285 : CLv RX12 285 RX12 mX12_takesHead 1 := clv_of rfl w_1182 w_1184 (TB_sel 9 (by decide +kernel) (by decide +kernel)) w_14 w_1185 ⟨by decide +kernel, by decide +kernel, by decide +kernel⟩
theorem clX12_248 : CLv RX12 248 RX12 mX12_next 0 := clv_of rfl w_1186 w_1188 (TB_sel 10 (by decide +kernel) (by decide +kernel)) w_14 w_1189 ⟨by decide +kernel, by decide +kernel, by decide +kernel⟩
theorem clX12_278 : CLv RX12 278 RX12 mX12_takesWord 2 := clv_of rfl w_1190 w_1192 (TB_sel 11 (by decide +kernel) (by decide +kernel)) w_14 w_1193 ⟨by decide +kernel, by decide +kernel, by decide +kernel⟩
theorem clX12_251 : CLv RX12 251 RX12 mX12_takes 1 := clv_of rfl w_1194 w_1196 (TB_sel 12 (by decide +kernel) (by decide +kernel)) w_14 w_1197 ⟨by decide +kernel, by decide +kernel, by decide +kernel⟩
theorem clX12_282 : CLv RX12 282 RX12 mX12_second 0 := clv_of rfl w_1198 w_1200 (TB_sel 13 (by decide +kernel) (by decide +kernel)) w_14 w_1201 ⟨by decide +kernel, by decide +kernel, by decide +kernel⟩
theorem clX12_266 : CLv RX12 266 RX12 mX12_takesNumber 0 := clv_of rfl w_1202 w_1204 (TB_sel 14 (by decide +kernel) (by decide +kernel)) w_14 w_1205 ⟨by decide +kernel, by decide +kernel, by decide +kernel⟩
theorem clX12_254 : CLv RX12 254 RX12 mX12_isDigit 0 := clv_of rfl w_1206 w_1208 (TB_sel 15 (by decide +kernel) (by decide +kernel)) w_14 w_1209 ⟨by decide +kernel, by decide +kernel, by decide +kernel⟩
theorem clX12_288 : CLv RX12 288 RX12 mX12_takesE 1 := clv_of rfl w_1210 w_1212 (TB_sel 16 (by decide +kernel) (by decide +kernel)) w_14 w_1213 ⟨by decide +kernel, by decide +kernel, by decide +kernel⟩
theorem clX12_272 : CLv RX12 272 RX12 mX12_takesTest 0 := clv_of rfl w_1214 w_1216 (TB_sel 17 (by decide +kernel) (by decide +kernel)) w_14 w_1217 ⟨by decide +kernel, by decide +kernel, by decide +kernel⟩
theorem clX12_262 : CLv RX12 262 RX12 mX12_place 1 := clv_of rfl w_1218 w_1220 (TB_sel 18 (by decide +kernel) (by decide +kernel)) w_14 w_1221 ⟨by decide +kernel, by decide +kernel, by decide +kernel⟩
theorem clX12_258 : CLv RX12 258 RX12 mX12_emits 1 := clv_of rfl w_1222 w_1224 (TB_sel 19 (by decide +kernel) (by decide +kernel)) w_14 w_1225 ⟨by decide +kernel, by decide +kernel, by decide +kernel⟩
theorem clX12_269 : CLv RX12 269 RX12 mX12_whole 0 := clv_of rfl w_1226 w_1228 (TB_sel 20 (by decide +kernel) (by decide +kernel)) w_14 w_1229 ⟨by decide +kernel, by decide +kernel, by decide +kernel⟩
theorem clX12_275 : CLv RX12 275 RX12 mX12_settle 1 := clv_of rfl w_1230 w_1232 (TB_sel 21 (by decide +kernel) (by decide +kernel)) w_14 w_1233 ⟨by decide +kernel, by decide +kernel, by decide +kernel⟩
theorem clX12_328 : CLv RX12 328 RX12 mX12_has 2 := clv_of rfl w_1238 w_1240 (TB_sel 22 (by decide +kernel) (by decide +kernel)) w_14 w_1241 ⟨by decide +kernel, by decide +kernel, by decide +kernel⟩
theorem clX12_316 : CLv RX12 316 RX12 mX12_pace 1 := clv_of rfl w_1242 w_1244 (TB_sel 23 (by decide +kernel) (by decide +kernel)) w_14 w_1245 ⟨by decide +kernel, by decide +kernel, by decide +kernel⟩
theorem clX12_319 : CLv RX12 319 RX12 mX12_goes 1 := clv_of rfl w_1246 w_1248 (TB_sel 24 (by decide +kernel) (by decide +kernel)) w_14 w_1249 ⟨by decide +kernel, by decide +kernel, by decide +kernel⟩
theorem clX12_307 : CLv RX12 307 RX12 mX12_countNow 0 := clv_of rfl w_1250 w_1252 (TB_sel 25 (by decide +kernel) (by decide +kernel)) w_14 w_1253 ⟨by decide +kernel, by decide +kernel, by decide +kernel⟩
theorem clX12_331 : CLv RX12 331 RX12 mX12_wobbles 1 := clv_of rfl w_1254 w_1256 (TB_sel 26 (by decide +kernel) (by decide +kernel)) w_14 w_1257 ⟨by decide +kernel, by decide +kernel, by decide +kernel⟩
theorem clX12_322 : CLv RX12 322 RX12 mX12_shake 1 := clv_of rfl w_1258 w_1260 (TB_sel 27 (by decide +kernel) (by decide +kernel)) w_14 w_1261 ⟨by decide +kernel, by decide +kernel, by decide +kernel⟩
theorem clX12_313 : CLv RX12 313 RX12 mX12_holds 2 := clv_of rfl w_1262 w_1264 (TB_sel 28 (by decide +kernel) (by decide +kernel)) w_14 w_1265 ⟨by decide +kernel, by decide +kernel, by decide +kernel⟩
theorem clX12_310 : CLv RX12 310 RX12 mX12_factOf 2 := clv_of rfl w_1266 w_1268 (TB_sel 29 (by decide +kernel) (by decide +kernel)) w_14 w_1269 ⟨by decide +kernel, by decide +kernel, by decide +kernel⟩
theorem clX12_325 : CLv RX12 325 RX12 mX12_least0 1 := clv_of rfl w_1270 w_1272 (TB_sel 30 (by decide +kernel) (by decide +kernel)) w_14 w_1273 ⟨by decide +kernel, by decide +kernel, by decide +kernel⟩
theorem clX12_334 : CLv RX12 334 RX12 mX12_sharp 0 := clv_of rfl w_1278 w_1280 (TB_sel 31 (by decide +kernel) (by decide +kernel)) w_14 w_1281 ⟨by decide +kernel, by decide +kernel, by decide +kernel⟩
theorem clX12_337 : CLv RX12 337 RX12 mX12_sees 0 := clv_of rfl w_1282 w_1284 (TB_sel 32 (by decide +kernel) (by decide +kernel)) w_14 w_1285 ⟨by decide +kernel, by decide +kernel, by decide +kernel⟩
theorem clX12_343 : CLv RX12 343 RX12 mX12_goTurn 0 := clv_of rfl w_1290 w_1292 (TB_sel 33 (by decide +kernel) (by decide +kernel)) w_14 w_1293 ⟨by decide +kernel, by decide +kernel, by decide +kernel⟩
theorem clX12_340 : CLv RX12 340 RX12 mX12_ahead 1 := clv_of rfl w_1294 w_1296 (TB_sel 34 (by decide +kernel) (by decide +kernel)) w_14 w_1297 ⟨by decide +kernel, by decide +kernel, by decide +kernel⟩
theorem clX12_353 : CLv RX12 353 RX12 mX12_lay 1 := clv_of rfl w_1302 w_1304 (TB_sel 35 (by decide +kernel) (by decide +kernel)) w_14 w_1305 ⟨by decide +kernel, by decide +kernel, by decide +kernel⟩
theorem clX12_347 : CLv RX12 347 RX12 mX12_save 0 := clv_of rfl w_1306 w_1308 (TB_sel 36 (by decide +kernel) (by decide +kernel)) w_14 w_1309 ⟨by decide +kernel, by decide +kernel, by decide +kernel⟩
theorem clX12_350 : CLv RX12 350 RX12 mX12_putBack 0 := clv_of rfl w_1311 w_1313 (TB_sel 37 (by decide +kernel) (by decide +kernel)) w_14 w_1314 ⟨by decide +kernel, by decide +kernel, by decide +kernel⟩
theorem clX12_356 : CLv RX12 356 RX12 mX12_ones 1 := clv_of rfl w_1315 w_1317 (TB_sel 38 (by decide +kernel) (by decide +kernel)) w_14 w_1318 ⟨by decide +kernel, by decide +kernel, by decide +kernel⟩
theorem clX12_359 : CLv RX12 359 RX12 mX12_touchesOf 1 := clv_of rfl w_1323 w_1325 (TB_sel 39 (by decide +kernel) (by decide +kernel)) w_14 w_1326 ⟨by decide +kernel, by decide +kernel, by decide +kernel⟩
theorem clX12_362 : CLv RX12 362 RX12 mX12_keepCounts 0 := clv_of rfl w_1343 w_1345 (TB_sel 40 (by decide +kernel) (by decide +kernel)) w_14 w_1346 ⟨by decide +kernel, by decide +kernel, by decide +kernel⟩
theorem clX12_365 : CLv RX12 365 RX12 mX12_wallBehind 1 := clv_of rfl w_1347 w_1349 (TB_sel 41 (by decide +kernel) (by decide +kernel)) w_14 w_1350 ⟨by decide +kernel, by decide +kernel, by decide +kernel⟩
theorem clX12_368 : CLv RX12 368 RX12 mX12_putCounts 0 := clv_of rfl w_1351 w_1353 (TB_sel 42 (by decide +kernel) (by decide +kernel)) w_14 w_1354 ⟨by decide +kernel, by decide +kernel, by decide +kernel⟩
theorem clX12_371 : CLv RX12 371 RX12 mX12_comeBy 3 := clv_of rfl w_1371 w_1373 (TB_sel 43 (by decide +kernel) (by decide +kernel)) w_14 w_1374 ⟨by decide +kernel, by decide +kernel, by decide +kernel⟩
theorem clX12_375 : CLv RX12 375 RX12 mX12_isSeen 0 := clv_of rfl w_1387 w_1389 (TB_sel 44 (by decide +kernel) (by decide +kernel)) w_14 w_1390 ⟨by decide +kernel, by decide +kernel, by decide +kernel⟩
theorem clX12_383 : CLv RX12 383 RX12 mX12_lowest 3 := clv_of rfl w_1400 w_1402 (TB_sel 45 (by decide +kernel) (by decide +kernel)) w_14 w_1403 ⟨by decide +kernel, by decide +kernel, by decide +kernel⟩
theorem clX12_378 : CLv RX12 378 RX12 mX12_divisor 2 := clv_of rfl w_1404 w_1406 (TB_sel 46 (by decide +kernel) (by decide +kernel)) w_14 w_1407 ⟨by decide +kernel, by decide +kernel, by decide +kernel⟩
theorem clX12_387 : CLv RX12 387 RX12 mX12_isTape 1 := clv_of rfl w_1424 w_1426 (TB_sel 47 (by decide +kernel) (by decide +kernel)) w_14 w_1427 ⟨by decide +kernel, by decide +kernel, by decide +kernel⟩
theorem clX12_396 : CLv RX12 396 RX12 mX12_runsAct 2 := clv_of rfl w_1440 w_1442 (TB_sel 48 (by decide +kernel) (by decide +kernel)) w_14 w_1443 ⟨by decide +kernel, by decide +kernel, by decide +kernel⟩
theorem clX12_390 : CLv RX12 390 RX12 mX12_body 1 := clv_of rfl w_1444 w_1446 (TB_sel 49 (by decide +kernel) (by decide +kernel)) w_14 w_1447 ⟨by decide +kernel, by decide +kernel, by decide +kernel⟩
theorem clX12_393 : CLv RX12 393 RX12 mX12_childRuns 2 := clv_of rfl w_1448 w_1450 (TB_sel 50 (by decide +kernel) (by decide +kernel)) w_14 w_1451 ⟨by decide +kernel, by decide +kernel, by decide +kernel⟩
theorem clX12_405 : CLv RX12 405 RX12 mX12_standsAct 2 := clv_of rfl w_1452 w_1454 (TB_sel 51 (by decide +kernel) (by decide +kernel)) w_14 w_1455 ⟨by decide +kernel, by decide +kernel, by decide +kernel⟩
theorem clX12_402 : CLv RX12 402 RX12 mX12_quickStands 2 := clv_of rfl w_1456 w_1458 (TB_sel 52 (by decide +kernel) (by decide +kernel)) w_14 w_1459 ⟨by decide +kernel, by decide +kernel, by decide +kernel⟩
theorem clX12_399 : CLv RX12 399 RX12 mX12_childStands 2 := clv_of rfl w_1460 w_1462 (TB_sel 53 (by decide +kernel) (by decide +kernel)) w_14 w_1463 ⟨by decide +kernel, by decide +kernel, by decide +kernel⟩
theorem clX12_411 : CLv RX12 411 RX12 mX12_tellsAct 2 := clv_of rfl w_1464 w_1466 (TB_sel 54 (by decide +kernel) (by decide +kernel)) w_14 w_1467 ⟨by decide +kernel, by decide +kernel, by decide +kernel⟩
theorem clX12_408 : CLv RX12 408 RX12 mX12_childTells 2 := clv_of rfl w_1468 w_1470 (TB_sel 55 (by decide +kernel) (by decide +kernel)) w_14 w_1471 ⟨by decide +kernel, by decide +kernel, by decide +kernel⟩
theorem clX12_414 : CLv RX12 414 RX12 mX12_narrow 2 := clv_of rfl w_1492 w_1494 (TB_sel 56 (by decide +kernel) (by decide +kernel)) w_14 w_1495 ⟨by decide +kernel, by decide +kernel, by decide +kernel⟩
theorem clX11_11 : CLi RX11 11 mX2_init 0 := cliN_of (host := "WhileSheLooks") rfl (by decide +kernel) w_34 w_2 w_35 rfl ⟨by decide +kernel, by decide +kernel, by decide +kernel⟩
theorem clX11_14 : CLi RX11 14 mX3_init 0 := cliN_of (host := "WhileSheLooks") rfl (by decide +kernel) w_41 w_3 w_42 rfl ⟨by decide +kernel, by decide +kernel, by decide +kernel⟩
theorem clX3_1 : CLi RX3 1 mX2_init 0 := cliN_of (host := "WhileSheLooks") rfl (by decide +kernel) w_34 w_2 w_35 rfl ⟨by decide +kernel, by decide +kernel, by decide +kernel⟩
theorem clX11_17 : CLi RX11 17 mX7_init 0 := cliN_of (host := "WhileSheLooks") rfl (by decide +kernel) w_48 w_4 w_49 rfl ⟨by decide +kernel, by decide +kernel, by decide +kernel⟩
theorem clX7_1 : CLi RX7 1 mX2_init 0 := cliN_of (host := "WhileSheLooks") rfl (by decide +kernel) w_34 w_2 w_35 rfl ⟨by decide +kernel, by decide +kernel, by decide +kernel⟩
theorem clX11_20 : CLi RX11 20 mX6_init 0 := cliN_of (host := "WhileSheLooks") rfl (by decide +kernel) w_55 w_5 w_56 rfl ⟨by decide +kernel, by decide +kernel, by decide +kernel⟩
theorem clX6_1 : CLi RX6 1 mX2_init 0 := cliN_of (host := "WhileSheLooks") rfl (by decide +kernel) w_34 w_2 w_35 rfl ⟨by decide +kernel, by decide +kernel, by decide +kernel⟩
theorem clX11_23 : CLi RX11 23 mX4_init 0 := cliN_of (host := "WhileSheLooks") rfl (by decide +kernel) w_62 w_6 w_63 rfl ⟨by decide +kernel, by decide +kernel, by decide +kernel⟩
theorem clX4_1 : CLi RX4 1 mX3_init 0 := cliN_of (host := "WhileSheLooks") rfl (by decide +kernel) w_41 w_3 w_42 rfl ⟨by decide +kernel, by decide +kernel, by decide +kernel⟩
theorem clX11_26 : CLi RX11 26 mX1_init 0 := cliN_of (host := "WhileSheLooks") rfl (by decide +kernel) w_69 w_7 w_70 rfl ⟨by decide +kernel, by decide +kernel, by decide +kernel⟩
theorem clX1_1 : CLi RX1 1 mX7_init 0 := cliN_of (host := "WhileSheLooks") rfl (by decide +kernel) w_48 w_4 w_49 rfl ⟨by decide +kernel, by decide +kernel, by decide +kernel⟩
theorem clX11_29 : CLi RX11 29 mX8_init 0 := cliN_of (host := "WhileSheLooks") rfl (by decide +kernel) w_76 w_8 w_77 rfl ⟨by decide +kernel, by decide +kernel, by decide +kernel⟩
theorem clX8_1 : CLi RX8 1 mX6_init 0 := cliN_of (host := "WhileSheLooks") rfl (by decide +kernel) w_55 w_5 w_56 rfl ⟨by decide +kernel, by decide +kernel, by decide +kernel⟩
theorem clX11_75 : CLi RX11 75 mX0_init 0 := cliN_of (host := "WhileSheLooks") rfl (by decide +kernel) w_264 w_13 w_265 rfl ⟨by decide +kernel, by decide +kernel, by decide +kernel⟩
