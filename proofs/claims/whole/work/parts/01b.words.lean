set_option maxRecDepth 20000 in
theorem tIni_L : (Jvm.Cond.initialized "YesterdayScaleLaw") ∈ gT := gT_in 65 (by decide +kernel) (by decide +kernel)
set_option maxRecDepth 20000 in
theorem tIni_X11 : (Jvm.Cond.initialized "YesterdayScale") ∈ gT := gT_in 66 (by decide +kernel) (by decide +kernel)
set_option maxRecDepth 20000 in
theorem tIni_X6 : (Jvm.Cond.initialized "YesterdayScale$Tape") ∈ gT := gT_in 67 (by decide +kernel) (by decide +kernel)
set_option maxRecDepth 20000 in
theorem tIni_X2 : (Jvm.Cond.initialized "YesterdayScale$Port") ∈ gT := gT_in 68 (by decide +kernel) (by decide +kernel)
set_option maxRecDepth 20000 in
theorem tIni_X10 : (Jvm.Cond.initialized "YesterdayScale$Worlds") ∈ gT := gT_in 69 (by decide +kernel) (by decide +kernel)
set_option maxRecDepth 20000 in
theorem tIni_X0 : (Jvm.Cond.initialized "YesterdayScale$Asking") ∈ gT := gT_in 70 (by decide +kernel) (by decide +kernel)
set_option maxRecDepth 20000 in
theorem tIni_X3 : (Jvm.Cond.initialized "YesterdayScale$Row") ∈ gT := gT_in 71 (by decide +kernel) (by decide +kernel)
set_option maxRecDepth 20000 in
theorem tIni_X12 : (Jvm.Cond.initialized "YesterdayScaleModel") ∈ gT := gT_in 72 (by decide +kernel) (by decide +kernel)
set_option maxRecDepth 20000 in
theorem tIni_J10 : (Jvm.Cond.initialized "java/lang/System") ∈ gT := gT_in 73 (by decide +kernel) (by decide +kernel)
set_option maxRecDepth 20000 in
theorem tIni_J0 : (Jvm.Cond.initialized "java/lang/String") ∈ gT := gT_in 74 (by decide +kernel) (by decide +kernel)
set_option maxRecDepth 20000 in
theorem tIni_J1 : (Jvm.Cond.initialized "java/lang/StringLatin1") ∈ gT := gT_in 75 (by decide +kernel) (by decide +kernel)
set_option maxRecDepth 20000 in
theorem tIni_J3 : (Jvm.Cond.initialized "jdk/internal/util/Preconditions") ∈ gT := gT_in 76 (by decide +kernel) (by decide +kernel)
set_option maxRecDepth 20000 in
theorem tIni_J2 : (Jvm.Cond.initialized "java/lang/StringUTF16") ∈ gT := gT_in 77 (by decide +kernel) (by decide +kernel)
set_option maxRecDepth 20000 in
theorem tIni_X7 : (Jvm.Cond.initialized "YesterdayScale$Thing") ∈ gT := gT_in 78 (by decide +kernel) (by decide +kernel)
set_option maxRecDepth 20000 in
theorem tIni_X4 : (Jvm.Cond.initialized "YesterdayScale$Salt") ∈ gT := gT_in 79 (by decide +kernel) (by decide +kernel)
set_option maxRecDepth 20000 in
theorem tIni_X1 : (Jvm.Cond.initialized "YesterdayScale$Fish") ∈ gT := gT_in 80 (by decide +kernel) (by decide +kernel)
set_option maxRecDepth 20000 in
theorem tIni_X9 : (Jvm.Cond.initialized "YesterdayScale$Wool") ∈ gT := gT_in 81 (by decide +kernel) (by decide +kernel)
set_option maxRecDepth 20000 in
theorem tIni_X5 : (Jvm.Cond.initialized "YesterdayScale$Stone") ∈ gT := gT_in 82 (by decide +kernel) (by decide +kernel)
set_option maxRecDepth 20000 in
theorem tIni_X8 : (Jvm.Cond.initialized "YesterdayScale$Whale") ∈ gT := gT_in 83 (by decide +kernel) (by decide +kernel)
set_option maxRecDepth 20000 in
theorem tIni_J6 : (Jvm.Cond.initialized "java/lang/Integer") ∈ gT := gT_in 84 (by decide +kernel) (by decide +kernel)
set_option maxRecDepth 20000 in
theorem tC_L_7 : (Jvm.Cond.classLink "YesterdayScaleLaw" (7 : Nat) "YesterdayScale") ∈ gT := gT_in 85 (by decide +kernel) (by decide +kernel)
set_option maxRecDepth 20000 in
theorem tIns_X11 : (Jvm.Cond.instantiable "YesterdayScale" (9 : Nat)) ∈ gT := gT_in 86 (by decide +kernel) (by decide +kernel)
set_option maxRecDepth 20000 in
theorem tM_L_9 : (Jvm.Cond.methodLink "YesterdayScaleLaw" (9 : Nat) ({ cls := "YesterdayScale", name := "<init>", desc := "()V" } : Jvm.MethodName)) ∈ gT := gT_in 87 (by decide +kernel) (by decide +kernel)
set_option maxRecDepth 20000 in
theorem tI_X11_init : (Jvm.Cond.instanceMethod ({ cls := "YesterdayScale", name := "<init>", desc := "()V" } : Jvm.MethodName)) ∈ gT := gT_in 88 (by decide +kernel) (by decide +kernel)
set_option maxRecDepth 20000 in
theorem tY_X11_init : (Jvm.Cond.code ({ cls := "YesterdayScale", name := "<init>", desc := "()V" } : Jvm.MethodName) prog_1_method_1_code (2 : Nat) (Option.none : Option Jvm.ClassFile.FieldType)) ∈ gT := gT_in 89 (by decide +kernel) (by decide +kernel)
set_option maxRecDepth 20000 in
theorem tM_X11_1 : (Jvm.Cond.methodLink "YesterdayScale" (1 : Nat) ({ cls := "java/lang/Object", name := "<init>", desc := "()V" } : Jvm.MethodName)) ∈ gT := gT_in 90 (by decide +kernel) (by decide +kernel)
set_option maxRecDepth 20000 in
theorem tI_obj : (Jvm.Cond.instanceMethod ({ cls := "java/lang/Object", name := "<init>", desc := "()V" } : Jvm.MethodName)) ∈ gT := gT_in 91 (by decide +kernel) (by decide +kernel)
set_option maxRecDepth 20000 in
theorem tY_obj : (Jvm.Cond.code ({ cls := "java/lang/Object", name := "<init>", desc := "()V" } : Jvm.MethodName) object_method_1_code (1 : Nat) (Option.none : Option Jvm.ClassFile.FieldType)) ∈ gT := gT_in 92 (by decide +kernel) (by decide +kernel)
set_option maxRecDepth 20000 in
theorem tC_X11_9 : (Jvm.Cond.classLink "YesterdayScale" (9 : Nat) "YesterdayScale$Row") ∈ gT := gT_in 93 (by decide +kernel) (by decide +kernel)
set_option maxRecDepth 20000 in
theorem tC_X11_15 : (Jvm.Cond.classLink "YesterdayScale" (15 : Nat) "YesterdayScale$Tape") ∈ gT := gT_in 95 (by decide +kernel) (by decide +kernel)
set_option maxRecDepth 20000 in
theorem tIns_X6 : (Jvm.Cond.instantiable "YesterdayScale$Tape" (8 : Nat)) ∈ gT := gT_in 96 (by decide +kernel) (by decide +kernel)
set_option maxRecDepth 20000 in
theorem tI_X6_init : (Jvm.Cond.instanceMethod ({ cls := "YesterdayScale$Tape", name := "<init>", desc := "()V" } : Jvm.MethodName)) ∈ gT := gT_in 98 (by decide +kernel) (by decide +kernel)
set_option maxRecDepth 20000 in
theorem tY_X6_init : (Jvm.Cond.code ({ cls := "YesterdayScale$Tape", name := "<init>", desc := "()V" } : Jvm.MethodName) prog_8_method_1_code (1 : Nat) (Option.none : Option Jvm.ClassFile.FieldType)) ∈ gT := gT_in 99 (by decide +kernel) (by decide +kernel)
set_option maxRecDepth 20000 in
theorem tM_X6_3 : (Jvm.Cond.methodLink "YesterdayScale$Tape" (3 : Nat) ({ cls := "java/lang/Object", name := "<init>", desc := "()V" } : Jvm.MethodName)) ∈ gT := gT_in 100 (by decide +kernel) (by decide +kernel)
set_option maxRecDepth 20000 in
theorem tF_X6_11 : (Jvm.Cond.fieldLink "YesterdayScale$Tape" (11 : Nat) "YesterdayScale$Tape" "bytes" "[B") ∈ gT := gT_in 101 (by decide +kernel) (by decide +kernel)
set_option maxRecDepth 20000 in
theorem tF_X6_15 : (Jvm.Cond.fieldLink "YesterdayScale$Tape" (15 : Nat) "YesterdayScale$Tape" "length" "I") ∈ gT := gT_in 102 (by decide +kernel) (by decide +kernel)
set_option maxRecDepth 20000 in
theorem tF_X11_258 : (Jvm.Cond.fieldLink "YesterdayScale" (258 : Nat) "YesterdayScale$Tape" "length" "I") ∈ gT := gT_in 103 (by decide +kernel) (by decide +kernel)
set_option maxRecDepth 20000 in
theorem tF_X11_107 : (Jvm.Cond.fieldLink "YesterdayScale" (107 : Nat) "YesterdayScale$Tape" "faultNumber" "I") ∈ gT := gT_in 104 (by decide +kernel) (by decide +kernel)
set_option maxRecDepth 20000 in
theorem tF_X6_128 : (Jvm.Cond.fieldLink "YesterdayScale$Tape" (128 : Nat) "YesterdayScale$Tape" "faultNumber" "I") ∈ gT := gT_in 105 (by decide +kernel) (by decide +kernel)
set_option maxRecDepth 20000 in
theorem tF_X11_114 : (Jvm.Cond.fieldLink "YesterdayScale" (114 : Nat) "YesterdayScale$Tape" "faultPlace" "I") ∈ gT := gT_in 106 (by decide +kernel) (by decide +kernel)
set_option maxRecDepth 20000 in
theorem tF_X6_134 : (Jvm.Cond.fieldLink "YesterdayScale$Tape" (134 : Nat) "YesterdayScale$Tape" "faultPlace" "I") ∈ gT := gT_in 107 (by decide +kernel) (by decide +kernel)
set_option maxRecDepth 20000 in
theorem tF_X6_24 : (Jvm.Cond.fieldLink "YesterdayScale$Tape" (24 : Nat) "YesterdayScale$Tape" "at" "I") ∈ gT := gT_in 108 (by decide +kernel) (by decide +kernel)
set_option maxRecDepth 20000 in
theorem tF_X6_131 : (Jvm.Cond.fieldLink "YesterdayScale$Tape" (131 : Nat) "YesterdayScale$Tape" "start" "I") ∈ gT := gT_in 109 (by decide +kernel) (by decide +kernel)
set_option maxRecDepth 20000 in
theorem tF_X6_102 : (Jvm.Cond.fieldLink "YesterdayScale$Tape" (102 : Nat) "YesterdayScale$Tape" "token" "I") ∈ gT := gT_in 110 (by decide +kernel) (by decide +kernel)
set_option maxRecDepth 20000 in
theorem tF_X6_58 : (Jvm.Cond.fieldLink "YesterdayScale$Tape" (58 : Nat) "YesterdayScale$Tape" "taken" "I") ∈ gT := gT_in 111 (by decide +kernel) (by decide +kernel)
set_option maxRecDepth 20000 in
theorem tSup_X6 : (Jvm.Cond.superclass "YesterdayScale$Tape" "java/lang/Object") ∈ gT := gT_in 128 (by decide +kernel) (by decide +kernel)
set_option maxRecDepth 20000 in
theorem tArr_byte : (Jvm.Cond.arrayClass Jvm.ClassFile.FieldType.byte) ∈ gT := gT_in 129 (by decide +kernel) (by decide +kernel)
set_option maxRecDepth 20000 in
theorem tC_X11_22 : (Jvm.Cond.classLink "YesterdayScale" (22 : Nat) "YesterdayScale$Port") ∈ gT := gT_in 130 (by decide +kernel) (by decide +kernel)
set_option maxRecDepth 20000 in
theorem tIns_X2 : (Jvm.Cond.instantiable "YesterdayScale$Port" (11 : Nat)) ∈ gT := gT_in 131 (by decide +kernel) (by decide +kernel)
set_option maxRecDepth 20000 in
theorem tI_X2_init : (Jvm.Cond.instanceMethod ({ cls := "YesterdayScale$Port", name := "<init>", desc := "()V" } : Jvm.MethodName)) ∈ gT := gT_in 133 (by decide +kernel) (by decide +kernel)
set_option maxRecDepth 20000 in
theorem tY_X2_init : (Jvm.Cond.code ({ cls := "YesterdayScale$Port", name := "<init>", desc := "()V" } : Jvm.MethodName) prog_4_method_1_code (1 : Nat) (Option.none : Option Jvm.ClassFile.FieldType)) ∈ gT := gT_in 134 (by decide +kernel) (by decide +kernel)
set_option maxRecDepth 20000 in
theorem tM_X2_3 : (Jvm.Cond.methodLink "YesterdayScale$Port" (3 : Nat) ({ cls := "java/lang/Object", name := "<init>", desc := "()V" } : Jvm.MethodName)) ∈ gT := gT_in 135 (by decide +kernel) (by decide +kernel)
set_option maxRecDepth 20000 in
theorem tC_X2_18 : (Jvm.Cond.classLink "YesterdayScale$Port" (18 : Nat) "YesterdayScale$Thing") ∈ gT := gT_in 136 (by decide +kernel) (by decide +kernel)
set_option maxRecDepth 20000 in
theorem tF_X2_37 : (Jvm.Cond.fieldLink "YesterdayScale$Port" (37 : Nat) "YesterdayScale$Port" "there" "Z") ∈ gT := gT_in 138 (by decide +kernel) (by decide +kernel)
set_option maxRecDepth 20000 in
theorem tF_X6_44 : (Jvm.Cond.fieldLink "YesterdayScale$Tape" (44 : Nat) "YesterdayScale$Port" "there" "Z") ∈ gT := gT_in 139 (by decide +kernel) (by decide +kernel)
set_option maxRecDepth 20000 in
theorem tF_X11_130 : (Jvm.Cond.fieldLink "YesterdayScale" (130 : Nat) "YesterdayScale$Port" "there" "Z") ∈ gT := gT_in 140 (by decide +kernel) (by decide +kernel)
set_option maxRecDepth 20000 in
theorem tF_X2_41 : (Jvm.Cond.fieldLink "YesterdayScale$Port" (41 : Nat) "YesterdayScale$Port" "keeps" "I") ∈ gT := gT_in 141 (by decide +kernel) (by decide +kernel)
set_option maxRecDepth 20000 in
theorem tF_X10_62 : (Jvm.Cond.fieldLink "YesterdayScale$Worlds" (62 : Nat) "YesterdayScale$Port" "keeps" "I") ∈ gT := gT_in 142 (by decide +kernel) (by decide +kernel)
set_option maxRecDepth 20000 in
theorem tF_X6_61 : (Jvm.Cond.fieldLink "YesterdayScale$Tape" (61 : Nat) "YesterdayScale$Port" "keeps" "I") ∈ gT := gT_in 143 (by decide +kernel) (by decide +kernel)
set_option maxRecDepth 20000 in
theorem tF_X11_249 : (Jvm.Cond.fieldLink "YesterdayScale" (249 : Nat) "YesterdayScale$Port" "keeps" "I") ∈ gT := gT_in 144 (by decide +kernel) (by decide +kernel)
set_option maxRecDepth 20000 in
theorem tF_X10_41 : (Jvm.Cond.fieldLink "YesterdayScale$Worlds" (41 : Nat) "YesterdayScale$Port" "half" "I") ∈ gT := gT_in 145 (by decide +kernel) (by decide +kernel)
set_option maxRecDepth 20000 in
theorem tF_X2_44 : (Jvm.Cond.fieldLink "YesterdayScale$Port" (44 : Nat) "YesterdayScale$Port" "half" "I") ∈ gT := gT_in 146 (by decide +kernel) (by decide +kernel)
set_option maxRecDepth 20000 in
theorem tF_X6_64 : (Jvm.Cond.fieldLink "YesterdayScale$Tape" (64 : Nat) "YesterdayScale$Port" "half" "I") ∈ gT := gT_in 147 (by decide +kernel) (by decide +kernel)
set_option maxRecDepth 20000 in
theorem tF_X11_252 : (Jvm.Cond.fieldLink "YesterdayScale" (252 : Nat) "YesterdayScale$Port" "half" "I") ∈ gT := gT_in 148 (by decide +kernel) (by decide +kernel)
set_option maxRecDepth 20000 in
theorem tF_X10_47 : (Jvm.Cond.fieldLink "YesterdayScale$Worlds" (47 : Nat) "YesterdayScale$Port" "top" "I") ∈ gT := gT_in 149 (by decide +kernel) (by decide +kernel)
set_option maxRecDepth 20000 in
theorem tF_X2_47 : (Jvm.Cond.fieldLink "YesterdayScale$Port" (47 : Nat) "YesterdayScale$Port" "top" "I") ∈ gT := gT_in 150 (by decide +kernel) (by decide +kernel)
set_option maxRecDepth 20000 in
theorem tF_X6_67 : (Jvm.Cond.fieldLink "YesterdayScale$Tape" (67 : Nat) "YesterdayScale$Port" "top" "I") ∈ gT := gT_in 151 (by decide +kernel) (by decide +kernel)
set_option maxRecDepth 20000 in
theorem tF_X11_255 : (Jvm.Cond.fieldLink "YesterdayScale" (255 : Nat) "YesterdayScale$Port" "top" "I") ∈ gT := gT_in 152 (by decide +kernel) (by decide +kernel)
set_option maxRecDepth 20000 in
theorem tF_X2_27 : (Jvm.Cond.fieldLink "YesterdayScale$Port" (27 : Nat) "YesterdayScale$Port" "things" "I") ∈ gT := gT_in 153 (by decide +kernel) (by decide +kernel)
set_option maxRecDepth 20000 in
theorem tF_X10_52 : (Jvm.Cond.fieldLink "YesterdayScale$Worlds" (52 : Nat) "YesterdayScale$Port" "things" "I") ∈ gT := gT_in 154 (by decide +kernel) (by decide +kernel)
set_option maxRecDepth 20000 in
theorem tF_X11_246 : (Jvm.Cond.fieldLink "YesterdayScale" (246 : Nat) "YesterdayScale$Port" "things" "I") ∈ gT := gT_in 155 (by decide +kernel) (by decide +kernel)
set_option maxRecDepth 20000 in
theorem tF_X2_31 : (Jvm.Cond.fieldLink "YesterdayScale$Port" (31 : Nat) "YesterdayScale$Port" "days" "I") ∈ gT := gT_in 156 (by decide +kernel) (by decide +kernel)
set_option maxRecDepth 20000 in
theorem tF_X10_51 : (Jvm.Cond.fieldLink "YesterdayScale$Worlds" (51 : Nat) "YesterdayScale$Port" "days" "I") ∈ gT := gT_in 157 (by decide +kernel) (by decide +kernel)
set_option maxRecDepth 20000 in
theorem tF_X11_127 : (Jvm.Cond.fieldLink "YesterdayScale" (127 : Nat) "YesterdayScale$Port" "days" "I") ∈ gT := gT_in 158 (by decide +kernel) (by decide +kernel)
set_option maxRecDepth 20000 in
theorem tF_X2_34 : (Jvm.Cond.fieldLink "YesterdayScale$Port" (34 : Nat) "YesterdayScale$Port" "stones" "I") ∈ gT := gT_in 159 (by decide +kernel) (by decide +kernel)
set_option maxRecDepth 20000 in
theorem tF_X2_9 : (Jvm.Cond.fieldLink "YesterdayScale$Port" (9 : Nat) "YesterdayScale$Port" "sorts" "[I") ∈ gT := gT_in 160 (by decide +kernel) (by decide +kernel)
set_option maxRecDepth 20000 in
theorem tF_X2_15 : (Jvm.Cond.fieldLink "YesterdayScale$Port" (15 : Nat) "YesterdayScale$Port" "weights" "[I") ∈ gT := gT_in 161 (by decide +kernel) (by decide +kernel)
set_option maxRecDepth 20000 in
theorem tF_X10_141 : (Jvm.Cond.fieldLink "YesterdayScale$Worlds" (141 : Nat) "YesterdayScale$Port" "weights" "[I") ∈ gT := gT_in 162 (by decide +kernel) (by decide +kernel)
set_option maxRecDepth 20000 in
theorem tF_X2_20 : (Jvm.Cond.fieldLink "YesterdayScale$Port" (20 : Nat) "YesterdayScale$Port" "laid" "[LYesterdayScale$Thing;") ∈ gT := gT_in 163 (by decide +kernel) (by decide +kernel)
set_option maxRecDepth 20000 in
theorem tF_X2_24 : (Jvm.Cond.fieldLink "YesterdayScale$Port" (24 : Nat) "YesterdayScale$Port" "sets" "[I") ∈ gT := gT_in 164 (by decide +kernel) (by decide +kernel)
set_option maxRecDepth 20000 in
theorem tF_X11_145 : (Jvm.Cond.fieldLink "YesterdayScale" (145 : Nat) "YesterdayScale$Port" "sets" "[I") ∈ gT := gT_in 165 (by decide +kernel) (by decide +kernel)
set_option maxRecDepth 20000 in
theorem tF_X10_151 : (Jvm.Cond.fieldLink "YesterdayScale$Worlds" (151 : Nat) "YesterdayScale$Port" "sets" "[I") ∈ gT := gT_in 166 (by decide +kernel) (by decide +kernel)
set_option maxRecDepth 20000 in
theorem tSup_X2 : (Jvm.Cond.superclass "YesterdayScale$Port" "java/lang/Object") ∈ gT := gT_in 189 (by decide +kernel) (by decide +kernel)
set_option maxRecDepth 20000 in
theorem tArr_int : (Jvm.Cond.arrayClass Jvm.ClassFile.FieldType.int) ∈ gT := gT_in 190 (by decide +kernel) (by decide +kernel)
set_option maxRecDepth 20000 in
theorem tC_X11_36 : (Jvm.Cond.classLink "YesterdayScale" (36 : Nat) "YesterdayScale$Worlds") ∈ gT := gT_in 192 (by decide +kernel) (by decide +kernel)
set_option maxRecDepth 20000 in
theorem tIns_X10 : (Jvm.Cond.instantiable "YesterdayScale$Worlds" (13 : Nat)) ∈ gT := gT_in 193 (by decide +kernel) (by decide +kernel)
set_option maxRecDepth 20000 in
theorem tI_X10_init : (Jvm.Cond.instanceMethod ({ cls := "YesterdayScale$Worlds", name := "<init>", desc := "()V" } : Jvm.MethodName)) ∈ gT := gT_in 195 (by decide +kernel) (by decide +kernel)
set_option maxRecDepth 20000 in
theorem tY_X10_init : (Jvm.Cond.code ({ cls := "YesterdayScale$Worlds", name := "<init>", desc := "()V" } : Jvm.MethodName) prog_12_method_1_code (1 : Nat) (Option.none : Option Jvm.ClassFile.FieldType)) ∈ gT := gT_in 196 (by decide +kernel) (by decide +kernel)
set_option maxRecDepth 20000 in
theorem tM_X10_5 : (Jvm.Cond.methodLink "YesterdayScale$Worlds" (5 : Nat) ({ cls := "java/lang/Object", name := "<init>", desc := "()V" } : Jvm.MethodName)) ∈ gT := gT_in 197 (by decide +kernel) (by decide +kernel)
set_option maxRecDepth 20000 in
theorem tF_X10_117 : (Jvm.Cond.fieldLink "YesterdayScale$Worlds" (117 : Nat) "YesterdayScale$Worlds" "soonDays" "I") ∈ gT := gT_in 198 (by decide +kernel) (by decide +kernel)
set_option maxRecDepth 20000 in
theorem tF_X11_198 : (Jvm.Cond.fieldLink "YesterdayScale" (198 : Nat) "YesterdayScale$Worlds" "soonDays" "I") ∈ gT := gT_in 199 (by decide +kernel) (by decide +kernel)
set_option maxRecDepth 20000 in
theorem tF_X10_113 : (Jvm.Cond.fieldLink "YesterdayScale$Worlds" (113 : Nat) "YesterdayScale$Worlds" "soonKnown" "Z") ∈ gT := gT_in 200 (by decide +kernel) (by decide +kernel)
set_option maxRecDepth 20000 in
theorem tF_X10_120 : (Jvm.Cond.fieldLink "YesterdayScale$Worlds" (120 : Nat) "YesterdayScale$Worlds" "soonFirst" "I") ∈ gT := gT_in 201 (by decide +kernel) (by decide +kernel)
set_option maxRecDepth 20000 in
theorem tF_X10_123 : (Jvm.Cond.fieldLink "YesterdayScale$Worlds" (123 : Nat) "YesterdayScale$Worlds" "soonSecond" "I") ∈ gT := gT_in 202 (by decide +kernel) (by decide +kernel)
set_option maxRecDepth 20000 in
theorem tF_X10_46 : (Jvm.Cond.fieldLink "YesterdayScale$Worlds" (46 : Nat) "YesterdayScale$Worlds" "half" "I") ∈ gT := gT_in 203 (by decide +kernel) (by decide +kernel)
set_option maxRecDepth 20000 in
theorem tF_X10_50 : (Jvm.Cond.fieldLink "YesterdayScale$Worlds" (50 : Nat) "YesterdayScale$Worlds" "top" "I") ∈ gT := gT_in 204 (by decide +kernel) (by decide +kernel)
set_option maxRecDepth 20000 in
theorem tF_X10_31 : (Jvm.Cond.fieldLink "YesterdayScale$Worlds" (31 : Nat) "YesterdayScale$Worlds" "days" "I") ∈ gT := gT_in 205 (by decide +kernel) (by decide +kernel)
set_option maxRecDepth 20000 in
theorem tF_X10_55 : (Jvm.Cond.fieldLink "YesterdayScale$Worlds" (55 : Nat) "YesterdayScale$Worlds" "worlds" "I") ∈ gT := gT_in 206 (by decide +kernel) (by decide +kernel)
set_option maxRecDepth 20000 in
theorem tF_X10_11 : (Jvm.Cond.fieldLink "YesterdayScale$Worlds" (11 : Nat) "YesterdayScale$Worlds" "lower" "[I") ∈ gT := gT_in 207 (by decide +kernel) (by decide +kernel)
set_option maxRecDepth 20000 in
theorem tF_X10_15 : (Jvm.Cond.fieldLink "YesterdayScale$Worlds" (15 : Nat) "YesterdayScale$Worlds" "upper" "[I") ∈ gT := gT_in 208 (by decide +kernel) (by decide +kernel)
set_option maxRecDepth 20000 in
theorem tF_X10_18 : (Jvm.Cond.fieldLink "YesterdayScale$Worlds" (18 : Nat) "YesterdayScale$Worlds" "reaches" "[I") ∈ gT := gT_in 209 (by decide +kernel) (by decide +kernel)
set_option maxRecDepth 20000 in
theorem tF_X10_21 : (Jvm.Cond.fieldLink "YesterdayScale$Worlds" (21 : Nat) "YesterdayScale$Worlds" "told" "[I") ∈ gT := gT_in 210 (by decide +kernel) (by decide +kernel)
set_option maxRecDepth 20000 in
theorem tF_X10_24 : (Jvm.Cond.fieldLink "YesterdayScale$Worlds" (24 : Nat) "YesterdayScale$Worlds" "fitting" "[I") ∈ gT := gT_in 211 (by decide +kernel) (by decide +kernel)
set_option maxRecDepth 20000 in
theorem tSup_X10 : (Jvm.Cond.superclass "YesterdayScale$Worlds" "java/lang/Object") ∈ gT := gT_in 238 (by decide +kernel) (by decide +kernel)
set_option maxRecDepth 20000 in
theorem tC_X11_43 : (Jvm.Cond.classLink "YesterdayScale" (43 : Nat) "YesterdayScale$Asking") ∈ gT := gT_in 239 (by decide +kernel) (by decide +kernel)
set_option maxRecDepth 20000 in
theorem tIns_X0 : (Jvm.Cond.instantiable "YesterdayScale$Asking" (3 : Nat)) ∈ gT := gT_in 240 (by decide +kernel) (by decide +kernel)
set_option maxRecDepth 20000 in
theorem tI_X0_init : (Jvm.Cond.instanceMethod ({ cls := "YesterdayScale$Asking", name := "<init>", desc := "()V" } : Jvm.MethodName)) ∈ gT := gT_in 242 (by decide +kernel) (by decide +kernel)
set_option maxRecDepth 20000 in
theorem tY_X0_init : (Jvm.Cond.code ({ cls := "YesterdayScale$Asking", name := "<init>", desc := "()V" } : Jvm.MethodName) prog_2_method_1_code (1 : Nat) (Option.none : Option Jvm.ClassFile.FieldType)) ∈ gT := gT_in 243 (by decide +kernel) (by decide +kernel)
set_option maxRecDepth 20000 in
theorem tM_X0_1 : (Jvm.Cond.methodLink "YesterdayScale$Asking" (1 : Nat) ({ cls := "java/lang/Object", name := "<init>", desc := "()V" } : Jvm.MethodName)) ∈ gT := gT_in 244 (by decide +kernel) (by decide +kernel)
set_option maxRecDepth 20000 in
theorem tF_X0_13 : (Jvm.Cond.fieldLink "YesterdayScale$Asking" (13 : Nat) "YesterdayScale$Asking" "traced" "I") ∈ gT := gT_in 245 (by decide +kernel) (by decide +kernel)
set_option maxRecDepth 20000 in
theorem tF_X11_236 : (Jvm.Cond.fieldLink "YesterdayScale" (236 : Nat) "YesterdayScale$Asking" "traced" "I") ∈ gT := gT_in 246 (by decide +kernel) (by decide +kernel)
set_option maxRecDepth 20000 in
theorem tF_X0_17 : (Jvm.Cond.fieldLink "YesterdayScale$Asking" (17 : Nat) "YesterdayScale$Asking" "days" "I") ∈ gT := gT_in 247 (by decide +kernel) (by decide +kernel)
set_option maxRecDepth 20000 in
theorem tF_X4_23 : (Jvm.Cond.fieldLink "YesterdayScale$Salt" (23 : Nat) "YesterdayScale$Asking" "days" "I") ∈ gT := gT_in 248 (by decide +kernel) (by decide +kernel)
set_option maxRecDepth 20000 in
theorem tF_X0_9 : (Jvm.Cond.fieldLink "YesterdayScale$Asking" (9 : Nat) "YesterdayScale$Asking" "numbers" "[I") ∈ gT := gT_in 249 (by decide +kernel) (by decide +kernel)
set_option maxRecDepth 20000 in
theorem tF_X11_239 : (Jvm.Cond.fieldLink "YesterdayScale" (239 : Nat) "YesterdayScale$Asking" "numbers" "[I") ∈ gT := gT_in 250 (by decide +kernel) (by decide +kernel)
set_option maxRecDepth 20000 in
theorem tSup_X0 : (Jvm.Cond.superclass "YesterdayScale$Asking" "java/lang/Object") ∈ gT := gT_in 257 (by decide +kernel) (by decide +kernel)
set_option maxRecDepth 20000 in
theorem tIns_X3 : (Jvm.Cond.instantiable "YesterdayScale$Row" (4 : Nat)) ∈ gT := gT_in 258 (by decide +kernel) (by decide +kernel)
set_option maxRecDepth 20000 in
theorem tI_X3_init : (Jvm.Cond.instanceMethod ({ cls := "YesterdayScale$Row", name := "<init>", desc := "()V" } : Jvm.MethodName)) ∈ gT := gT_in 260 (by decide +kernel) (by decide +kernel)
set_option maxRecDepth 20000 in
theorem tY_X3_init : (Jvm.Cond.code ({ cls := "YesterdayScale$Row", name := "<init>", desc := "()V" } : Jvm.MethodName) prog_5_method_1_code (1 : Nat) (Option.none : Option Jvm.ClassFile.FieldType)) ∈ gT := gT_in 261 (by decide +kernel) (by decide +kernel)
set_option maxRecDepth 20000 in
theorem tM_X3_3 : (Jvm.Cond.methodLink "YesterdayScale$Row" (3 : Nat) ({ cls := "java/lang/Object", name := "<init>", desc := "()V" } : Jvm.MethodName)) ∈ gT := gT_in 262 (by decide +kernel) (by decide +kernel)
set_option maxRecDepth 20000 in
theorem tF_X3_15 : (Jvm.Cond.fieldLink "YesterdayScale$Row" (15 : Nat) "YesterdayScale$Row" "there" "Z") ∈ gT := gT_in 263 (by decide +kernel) (by decide +kernel)
set_option maxRecDepth 20000 in
theorem tF_X11_67 : (Jvm.Cond.fieldLink "YesterdayScale" (67 : Nat) "YesterdayScale$Row" "there" "Z") ∈ gT := gT_in 264 (by decide +kernel) (by decide +kernel)
set_option maxRecDepth 20000 in
theorem tF_X3_19 : (Jvm.Cond.fieldLink "YesterdayScale$Row" (19 : Nat) "YesterdayScale$Row" "lane" "I") ∈ gT := gT_in 265 (by decide +kernel) (by decide +kernel)
set_option maxRecDepth 20000 in
theorem tF_X11_82 : (Jvm.Cond.fieldLink "YesterdayScale" (82 : Nat) "YesterdayScale$Row" "lane" "I") ∈ gT := gT_in 266 (by decide +kernel) (by decide +kernel)
set_option maxRecDepth 20000 in
theorem tF_X3_23 : (Jvm.Cond.fieldLink "YesterdayScale$Row" (23 : Nat) "YesterdayScale$Row" "size" "I") ∈ gT := gT_in 267 (by decide +kernel) (by decide +kernel)
set_option maxRecDepth 20000 in
theorem tF_X11_71 : (Jvm.Cond.fieldLink "YesterdayScale" (71 : Nat) "YesterdayScale$Row" "size" "I") ∈ gT := gT_in 268 (by decide +kernel) (by decide +kernel)
set_option maxRecDepth 20000 in
theorem tF_X3_9 : (Jvm.Cond.fieldLink "YesterdayScale$Row" (9 : Nat) "YesterdayScale$Row" "items" "[I") ∈ gT := gT_in 269 (by decide +kernel) (by decide +kernel)
set_option maxRecDepth 20000 in
theorem tF_X11_75 : (Jvm.Cond.fieldLink "YesterdayScale" (75 : Nat) "YesterdayScale$Row" "items" "[I") ∈ gT := gT_in 270 (by decide +kernel) (by decide +kernel)
set_option maxRecDepth 20000 in
theorem tSup_X3 : (Jvm.Cond.superclass "YesterdayScale$Row" "java/lang/Object") ∈ gT := gT_in 279 (by decide +kernel) (by decide +kernel)
set_option maxRecDepth 20000 in
theorem tF_X11_11 : (Jvm.Cond.fieldLink "YesterdayScale" (11 : Nat) "YesterdayScale" "rows" "[LYesterdayScale$Row;") ∈ gT := gT_in 280 (by decide +kernel) (by decide +kernel)
set_option maxRecDepth 20000 in
theorem tF_X11_18 : (Jvm.Cond.fieldLink "YesterdayScale" (18 : Nat) "YesterdayScale" "tape" "LYesterdayScale$Tape;") ∈ gT := gT_in 281 (by decide +kernel) (by decide +kernel)
set_option maxRecDepth 20000 in
theorem tF_X11_25 : (Jvm.Cond.fieldLink "YesterdayScale" (25 : Nat) "YesterdayScale" "current" "LYesterdayScale$Port;") ∈ gT := gT_in 282 (by decide +kernel) (by decide +kernel)
set_option maxRecDepth 20000 in
theorem tF_X11_29 : (Jvm.Cond.fieldLink "YesterdayScale" (29 : Nat) "YesterdayScale" "draft" "LYesterdayScale$Port;") ∈ gT := gT_in 283 (by decide +kernel) (by decide +kernel)
set_option maxRecDepth 20000 in
theorem tF_X11_32 : (Jvm.Cond.fieldLink "YesterdayScale" (32 : Nat) "YesterdayScale" "images" "[LYesterdayScale$Port;") ∈ gT := gT_in 284 (by decide +kernel) (by decide +kernel)
set_option maxRecDepth 20000 in
theorem tF_X11_39 : (Jvm.Cond.fieldLink "YesterdayScale" (39 : Nat) "YesterdayScale" "worlds" "LYesterdayScale$Worlds;") ∈ gT := gT_in 285 (by decide +kernel) (by decide +kernel)
set_option maxRecDepth 20000 in
theorem tF_X11_46 : (Jvm.Cond.fieldLink "YesterdayScale" (46 : Nat) "YesterdayScale" "asking" "LYesterdayScale$Asking;") ∈ gT := gT_in 286 (by decide +kernel) (by decide +kernel)
set_option maxRecDepth 20000 in
theorem tF_X11_110 : (Jvm.Cond.fieldLink "YesterdayScale" (110 : Nat) "YesterdayScale" "latestFault" "I") ∈ gT := gT_in 287 (by decide +kernel) (by decide +kernel)
set_option maxRecDepth 20000 in
theorem tF_X11_261 : (Jvm.Cond.fieldLink "YesterdayScale" (261 : Nat) "YesterdayScale" "latestFinding" "I") ∈ gT := gT_in 288 (by decide +kernel) (by decide +kernel)
set_option maxRecDepth 20000 in
theorem tSup_X11 : (Jvm.Cond.superclass "YesterdayScale" "java/lang/Object") ∈ gT := gT_in 307 (by decide +kernel) (by decide +kernel)
set_option maxRecDepth 20000 in
theorem tM_L_13 : (Jvm.Cond.methodLink "YesterdayScaleLaw" (13 : Nat) ({ cls := "YesterdayScale", name := "row", desc := "(III)I" } : Jvm.MethodName)) ∈ gT := gT_in 308 (by decide +kernel) (by decide +kernel)
set_option maxRecDepth 20000 in
theorem tI_X11_row : (Jvm.Cond.instanceMethod ({ cls := "YesterdayScale", name := "row", desc := "(III)I" } : Jvm.MethodName)) ∈ gT := gT_in 309 (by decide +kernel) (by decide +kernel)
set_option maxRecDepth 20000 in
theorem tSel_X11_X11_X11_row : (Jvm.Cond.selects "YesterdayScale" ({ cls := "YesterdayScale", name := "row", desc := "(III)I" } : Jvm.MethodName) ({ cls := "YesterdayScale", name := "row", desc := "(III)I" } : Jvm.MethodName)) ∈ gT := gT_in 310 (by decide +kernel) (by decide +kernel)
set_option maxRecDepth 20000 in
theorem tY_X11_row : (Jvm.Cond.code ({ cls := "YesterdayScale", name := "row", desc := "(III)I" } : Jvm.MethodName) prog_1_method_2_code (4 : Nat) (Option.some Jvm.ClassFile.FieldType.int)) ∈ gT := gT_in 311 (by decide +kernel) (by decide +kernel)
set_option maxRecDepth 20000 in
theorem tM_X11_51 : (Jvm.Cond.methodLink "YesterdayScale" (51 : Nat) ({ cls := "YesterdayScale", name := "isRow", desc := "(I)Z" } : Jvm.MethodName)) ∈ gT := gT_in 312 (by decide +kernel) (by decide +kernel)
set_option maxRecDepth 20000 in
theorem tS_X11_isRow : (Jvm.Cond.static ({ cls := "YesterdayScale", name := "isRow", desc := "(I)Z" } : Jvm.MethodName)) ∈ gT := gT_in 313 (by decide +kernel) (by decide +kernel)
set_option maxRecDepth 20000 in
theorem tY_X11_isRow : (Jvm.Cond.code ({ cls := "YesterdayScale", name := "isRow", desc := "(I)Z" } : Jvm.MethodName) prog_1_method_30_code (1 : Nat) (Option.some Jvm.ClassFile.FieldType.boolean)) ∈ gT := gT_in 314 (by decide +kernel) (by decide +kernel)
set_option maxRecDepth 20000 in
theorem tK_X11_55 : (Jvm.Cond.constant "YesterdayScale" (55 : Nat) (-1000001 : Int32)) ∈ gT := gT_in 315 (by decide +kernel) (by decide +kernel)
set_option maxRecDepth 20000 in
theorem tM_X11_56 : (Jvm.Cond.methodLink "YesterdayScale" (56 : Nat) ({ cls := "YesterdayScale", name := "found", desc := "(I)I" } : Jvm.MethodName)) ∈ gT := gT_in 316 (by decide +kernel) (by decide +kernel)
set_option maxRecDepth 20000 in
theorem tI_X11_found : (Jvm.Cond.instanceMethod ({ cls := "YesterdayScale", name := "found", desc := "(I)I" } : Jvm.MethodName)) ∈ gT := gT_in 318 (by decide +kernel) (by decide +kernel)
set_option maxRecDepth 20000 in
theorem tY_X11_found : (Jvm.Cond.code ({ cls := "YesterdayScale", name := "found", desc := "(I)I" } : Jvm.MethodName) prog_1_method_32_code (2 : Nat) (Option.some Jvm.ClassFile.FieldType.int)) ∈ gT := gT_in 319 (by decide +kernel) (by decide +kernel)
set_option maxRecDepth 20000 in
theorem tK_X11_264 : (Jvm.Cond.constant "YesterdayScale" (264 : Nat) (-1000010 : Int32)) ∈ gT := gT_in 320 (by decide +kernel) (by decide +kernel)
set_option maxRecDepth 20000 in
theorem tM_X11_60 : (Jvm.Cond.methodLink "YesterdayScale" (60 : Nat) ({ cls := "YesterdayScale$Row", name := "begin", desc := "(II)V" } : Jvm.MethodName)) ∈ gT := gT_in 321 (by decide +kernel) (by decide +kernel)
set_option maxRecDepth 20000 in
theorem tI_X3_begin : (Jvm.Cond.instanceMethod ({ cls := "YesterdayScale$Row", name := "begin", desc := "(II)V" } : Jvm.MethodName)) ∈ gT := gT_in 322 (by decide +kernel) (by decide +kernel)
set_option maxRecDepth 20000 in
theorem tSel_X3_X3_X3_begin : (Jvm.Cond.selects "YesterdayScale$Row" ({ cls := "YesterdayScale$Row", name := "begin", desc := "(II)V" } : Jvm.MethodName) ({ cls := "YesterdayScale$Row", name := "begin", desc := "(II)V" } : Jvm.MethodName)) ∈ gT := gT_in 323 (by decide +kernel) (by decide +kernel)
set_option maxRecDepth 20000 in
theorem tY_X3_begin : (Jvm.Cond.code ({ cls := "YesterdayScale$Row", name := "begin", desc := "(II)V" } : Jvm.MethodName) prog_5_method_2_code (4 : Nat) (Option.none : Option Jvm.ClassFile.FieldType)) ∈ gT := gT_in 324 (by decide +kernel) (by decide +kernel)
set_option maxRecDepth 20000 in
theorem tM_X11_64 : (Jvm.Cond.methodLink "YesterdayScale" (64 : Nat) ({ cls := "YesterdayScale", name := "passed", desc := "(I)I" } : Jvm.MethodName)) ∈ gT := gT_in 325 (by decide +kernel) (by decide +kernel)
set_option maxRecDepth 20000 in
theorem tI_X11_passed : (Jvm.Cond.instanceMethod ({ cls := "YesterdayScale", name := "passed", desc := "(I)I" } : Jvm.MethodName)) ∈ gT := gT_in 327 (by decide +kernel) (by decide +kernel)
set_option maxRecDepth 20000 in
theorem tY_X11_passed : (Jvm.Cond.code ({ cls := "YesterdayScale", name := "passed", desc := "(I)I" } : Jvm.MethodName) prog_1_method_33_code (2 : Nat) (Option.some Jvm.ClassFile.FieldType.int)) ∈ gT := gT_in 328 (by decide +kernel) (by decide +kernel)
set_option maxRecDepth 20000 in
theorem tM_L_18 : (Jvm.Cond.methodLink "YesterdayScaleLaw" (18 : Nat) ({ cls := "YesterdayScale", name := "set", desc := "(III)I" } : Jvm.MethodName)) ∈ gT := gT_in 329 (by decide +kernel) (by decide +kernel)
set_option maxRecDepth 20000 in
theorem tI_X11_set : (Jvm.Cond.instanceMethod ({ cls := "YesterdayScale", name := "set", desc := "(III)I" } : Jvm.MethodName)) ∈ gT := gT_in 330 (by decide +kernel) (by decide +kernel)
set_option maxRecDepth 20000 in
theorem tSel_X11_X11_X11_set : (Jvm.Cond.selects "YesterdayScale" ({ cls := "YesterdayScale", name := "set", desc := "(III)I" } : Jvm.MethodName) ({ cls := "YesterdayScale", name := "set", desc := "(III)I" } : Jvm.MethodName)) ∈ gT := gT_in 331 (by decide +kernel) (by decide +kernel)
set_option maxRecDepth 20000 in
theorem tY_X11_set : (Jvm.Cond.code ({ cls := "YesterdayScale", name := "set", desc := "(III)I" } : Jvm.MethodName) prog_1_method_3_code (5 : Nat) (Option.some Jvm.ClassFile.FieldType.int)) ∈ gT := gT_in 332 (by decide +kernel) (by decide +kernel)
set_option maxRecDepth 20000 in
theorem tM_X11_79 : (Jvm.Cond.methodLink "YesterdayScale" (79 : Nat) ({ cls := "YesterdayScale$Row", name := "cut", desc := "(I)I" } : Jvm.MethodName)) ∈ gT := gT_in 333 (by decide +kernel) (by decide +kernel)
set_option maxRecDepth 20000 in
theorem tI_X3_cut : (Jvm.Cond.instanceMethod ({ cls := "YesterdayScale$Row", name := "cut", desc := "(I)I" } : Jvm.MethodName)) ∈ gT := gT_in 334 (by decide +kernel) (by decide +kernel)
set_option maxRecDepth 20000 in
theorem tSel_X3_X3_X3_cut : (Jvm.Cond.selects "YesterdayScale$Row" ({ cls := "YesterdayScale$Row", name := "cut", desc := "(I)I" } : Jvm.MethodName) ({ cls := "YesterdayScale$Row", name := "cut", desc := "(I)I" } : Jvm.MethodName)) ∈ gT := gT_in 335 (by decide +kernel) (by decide +kernel)
set_option maxRecDepth 20000 in
theorem tY_X3_cut : (Jvm.Cond.code ({ cls := "YesterdayScale$Row", name := "cut", desc := "(I)I" } : Jvm.MethodName) prog_5_method_3_code (2 : Nat) (Option.some Jvm.ClassFile.FieldType.int)) ∈ gT := gT_in 336 (by decide +kernel) (by decide +kernel)
set_option maxRecDepth 20000 in
theorem tM_L_22 : (Jvm.Cond.methodLink "YesterdayScaleLaw" (22 : Nat) ({ cls := "YesterdayScale", name := "copy", desc := "(IIIII)I" } : Jvm.MethodName)) ∈ gT := gT_in 337 (by decide +kernel) (by decide +kernel)
set_option maxRecDepth 20000 in
theorem tI_X11_copy : (Jvm.Cond.instanceMethod ({ cls := "YesterdayScale", name := "copy", desc := "(IIIII)I" } : Jvm.MethodName)) ∈ gT := gT_in 338 (by decide +kernel) (by decide +kernel)
set_option maxRecDepth 20000 in
theorem tSel_X11_X11_X11_copy : (Jvm.Cond.selects "YesterdayScale" ({ cls := "YesterdayScale", name := "copy", desc := "(IIIII)I" } : Jvm.MethodName) ({ cls := "YesterdayScale", name := "copy", desc := "(IIIII)I" } : Jvm.MethodName)) ∈ gT := gT_in 339 (by decide +kernel) (by decide +kernel)
set_option maxRecDepth 20000 in
theorem tY_X11_copy : (Jvm.Cond.code ({ cls := "YesterdayScale", name := "copy", desc := "(IIIII)I" } : Jvm.MethodName) prog_1_method_4_code (8 : Nat) (Option.some Jvm.ClassFile.FieldType.int)) ∈ gT := gT_in 340 (by decide +kernel) (by decide +kernel)
set_option maxRecDepth 20000 in
theorem tM_X11_85 : (Jvm.Cond.methodLink "YesterdayScale" (85 : Nat) ({ cls := "YesterdayScale$Row", name := "hasPlaces", desc := "(II)Z" } : Jvm.MethodName)) ∈ gT := gT_in 341 (by decide +kernel) (by decide +kernel)
set_option maxRecDepth 20000 in
theorem tI_X3_hasPlaces : (Jvm.Cond.instanceMethod ({ cls := "YesterdayScale$Row", name := "hasPlaces", desc := "(II)Z" } : Jvm.MethodName)) ∈ gT := gT_in 342 (by decide +kernel) (by decide +kernel)
set_option maxRecDepth 20000 in
theorem tSel_X3_X3_X3_hasPlaces : (Jvm.Cond.selects "YesterdayScale$Row" ({ cls := "YesterdayScale$Row", name := "hasPlaces", desc := "(II)Z" } : Jvm.MethodName) ({ cls := "YesterdayScale$Row", name := "hasPlaces", desc := "(II)Z" } : Jvm.MethodName)) ∈ gT := gT_in 343 (by decide +kernel) (by decide +kernel)
set_option maxRecDepth 20000 in
theorem tY_X3_hasPlaces : (Jvm.Cond.code ({ cls := "YesterdayScale$Row", name := "hasPlaces", desc := "(II)Z" } : Jvm.MethodName) prog_5_method_4_code (3 : Nat) (Option.some Jvm.ClassFile.FieldType.boolean)) ∈ gT := gT_in 344 (by decide +kernel) (by decide +kernel)
set_option maxRecDepth 20000 in
theorem tM_X11_89 : (Jvm.Cond.methodLink "YesterdayScale" (89 : Nat) ({ cls := "java/lang/System", name := "arraycopy", desc := "(Ljava/lang/Object;ILjava/lang/Object;II)V" } : Jvm.MethodName)) ∈ gT := gT_in 345 (by decide +kernel) (by decide +kernel)
set_option maxRecDepth 20000 in
theorem tS_acopy : (Jvm.Cond.static ({ cls := "java/lang/System", name := "arraycopy", desc := "(Ljava/lang/Object;ILjava/lang/Object;II)V" } : Jvm.MethodName)) ∈ gT := gT_in 346 (by decide +kernel) (by decide +kernel)
set_option maxRecDepth 20000 in
theorem tNat_acopy : (Jvm.Cond.native ({ cls := "java/lang/System", name := "arraycopy", desc := "(Ljava/lang/Object;ILjava/lang/Object;II)V" } : Jvm.MethodName)) ∈ gT := gT_in 347 (by decide +kernel) (by decide +kernel)
set_option maxRecDepth 20000 in
theorem tM_L_27 : (Jvm.Cond.methodLink "YesterdayScaleLaw" (27 : Nat) ({ cls := "YesterdayScale", name := "drop", desc := "(I)I" } : Jvm.MethodName)) ∈ gT := gT_in 348 (by decide +kernel) (by decide +kernel)
set_option maxRecDepth 20000 in
theorem tI_X11_drop : (Jvm.Cond.instanceMethod ({ cls := "YesterdayScale", name := "drop", desc := "(I)I" } : Jvm.MethodName)) ∈ gT := gT_in 349 (by decide +kernel) (by decide +kernel)
set_option maxRecDepth 20000 in
theorem tSel_X11_X11_X11_drop : (Jvm.Cond.selects "YesterdayScale" ({ cls := "YesterdayScale", name := "drop", desc := "(I)I" } : Jvm.MethodName) ({ cls := "YesterdayScale", name := "drop", desc := "(I)I" } : Jvm.MethodName)) ∈ gT := gT_in 350 (by decide +kernel) (by decide +kernel)
set_option maxRecDepth 20000 in
theorem tY_X11_drop : (Jvm.Cond.code ({ cls := "YesterdayScale", name := "drop", desc := "(I)I" } : Jvm.MethodName) prog_1_method_5_code (2 : Nat) (Option.some Jvm.ClassFile.FieldType.int)) ∈ gT := gT_in 351 (by decide +kernel) (by decide +kernel)
set_option maxRecDepth 20000 in
theorem tM_L_34 : (Jvm.Cond.methodLink "YesterdayScaleLaw" (34 : Nat) ({ cls := "YesterdayScale", name := "feed", desc := "(JI)I" } : Jvm.MethodName)) ∈ gT := gT_in 352 (by decide +kernel) (by decide +kernel)
set_option maxRecDepth 20000 in
theorem tI_X11_feed : (Jvm.Cond.instanceMethod ({ cls := "YesterdayScale", name := "feed", desc := "(JI)I" } : Jvm.MethodName)) ∈ gT := gT_in 353 (by decide +kernel) (by decide +kernel)
set_option maxRecDepth 20000 in
theorem tSel_X11_X11_X11_feed : (Jvm.Cond.selects "YesterdayScale" ({ cls := "YesterdayScale", name := "feed", desc := "(JI)I" } : Jvm.MethodName) ({ cls := "YesterdayScale", name := "feed", desc := "(JI)I" } : Jvm.MethodName)) ∈ gT := gT_in 354 (by decide +kernel) (by decide +kernel)
set_option maxRecDepth 20000 in
theorem tY_X11_feed : (Jvm.Cond.code ({ cls := "YesterdayScale", name := "feed", desc := "(JI)I" } : Jvm.MethodName) prog_1_method_6_code (4 : Nat) (Option.some Jvm.ClassFile.FieldType.int)) ∈ gT := gT_in 355 (by decide +kernel) (by decide +kernel)
set_option maxRecDepth 20000 in
theorem tM_X11_95 : (Jvm.Cond.methodLink "YesterdayScale" (95 : Nat) ({ cls := "YesterdayScale$Tape", name := "hasRoom", desc := "(I)Z" } : Jvm.MethodName)) ∈ gT := gT_in 356 (by decide +kernel) (by decide +kernel)
set_option maxRecDepth 20000 in
theorem tI_X6_hasRoom : (Jvm.Cond.instanceMethod ({ cls := "YesterdayScale$Tape", name := "hasRoom", desc := "(I)Z" } : Jvm.MethodName)) ∈ gT := gT_in 357 (by decide +kernel) (by decide +kernel)
set_option maxRecDepth 20000 in
theorem tSel_X6_X6_X6_hasRoom : (Jvm.Cond.selects "YesterdayScale$Tape" ({ cls := "YesterdayScale$Tape", name := "hasRoom", desc := "(I)Z" } : Jvm.MethodName) ({ cls := "YesterdayScale$Tape", name := "hasRoom", desc := "(I)Z" } : Jvm.MethodName)) ∈ gT := gT_in 358 (by decide +kernel) (by decide +kernel)
set_option maxRecDepth 20000 in
theorem tY_X6_hasRoom : (Jvm.Cond.code ({ cls := "YesterdayScale$Tape", name := "hasRoom", desc := "(I)Z" } : Jvm.MethodName) prog_8_method_2_code (2 : Nat) (Option.some Jvm.ClassFile.FieldType.boolean)) ∈ gT := gT_in 359 (by decide +kernel) (by decide +kernel)
set_option maxRecDepth 20000 in
theorem tM_X11_98 : (Jvm.Cond.methodLink "YesterdayScale" (98 : Nat) ({ cls := "YesterdayScale$Tape", name := "append", desc := "(JI)I" } : Jvm.MethodName)) ∈ gT := gT_in 360 (by decide +kernel) (by decide +kernel)
set_option maxRecDepth 20000 in
theorem tI_X6_append : (Jvm.Cond.instanceMethod ({ cls := "YesterdayScale$Tape", name := "append", desc := "(JI)I" } : Jvm.MethodName)) ∈ gT := gT_in 361 (by decide +kernel) (by decide +kernel)
set_option maxRecDepth 20000 in
theorem tSel_X6_X6_X6_append : (Jvm.Cond.selects "YesterdayScale$Tape" ({ cls := "YesterdayScale$Tape", name := "append", desc := "(JI)I" } : Jvm.MethodName) ({ cls := "YesterdayScale$Tape", name := "append", desc := "(JI)I" } : Jvm.MethodName)) ∈ gT := gT_in 362 (by decide +kernel) (by decide +kernel)
set_option maxRecDepth 20000 in
theorem tY_X6_append : (Jvm.Cond.code ({ cls := "YesterdayScale$Tape", name := "append", desc := "(JI)I" } : Jvm.MethodName) prog_8_method_3_code (5 : Nat) (Option.some Jvm.ClassFile.FieldType.int)) ∈ gT := gT_in 363 (by decide +kernel) (by decide +kernel)
set_option maxRecDepth 20000 in
theorem tK_X11_102 : (Jvm.Cond.constant "YesterdayScale" (102 : Nat) (-1000003 : Int32)) ∈ gT := gT_in 364 (by decide +kernel) (by decide +kernel)
set_option maxRecDepth 20000 in
theorem tM_L_39 : (Jvm.Cond.methodLink "YesterdayScaleLaw" (39 : Nat) ({ cls := "YesterdayScale", name := "port", desc := "()I" } : Jvm.MethodName)) ∈ gT := gT_in 365 (by decide +kernel) (by decide +kernel)
set_option maxRecDepth 20000 in
theorem tI_X11_port : (Jvm.Cond.instanceMethod ({ cls := "YesterdayScale", name := "port", desc := "()I" } : Jvm.MethodName)) ∈ gT := gT_in 366 (by decide +kernel) (by decide +kernel)
set_option maxRecDepth 20000 in
theorem tSel_X11_X11_X11_port : (Jvm.Cond.selects "YesterdayScale" ({ cls := "YesterdayScale", name := "port", desc := "()I" } : Jvm.MethodName) ({ cls := "YesterdayScale", name := "port", desc := "()I" } : Jvm.MethodName)) ∈ gT := gT_in 367 (by decide +kernel) (by decide +kernel)
set_option maxRecDepth 20000 in
theorem tY_X11_port : (Jvm.Cond.code ({ cls := "YesterdayScale", name := "port", desc := "()I" } : Jvm.MethodName) prog_1_method_7_code (1 : Nat) (Option.some Jvm.ClassFile.FieldType.int)) ∈ gT := gT_in 368 (by decide +kernel) (by decide +kernel)
set_option maxRecDepth 20000 in
theorem tM_X11_103 : (Jvm.Cond.methodLink "YesterdayScale" (103 : Nat) ({ cls := "YesterdayScale$Tape", name := "readInto", desc := "(LYesterdayScale$Port;)Z" } : Jvm.MethodName)) ∈ gT := gT_in 369 (by decide +kernel) (by decide +kernel)
set_option maxRecDepth 20000 in
theorem tI_X6_readInto : (Jvm.Cond.instanceMethod ({ cls := "YesterdayScale$Tape", name := "readInto", desc := "(LYesterdayScale$Port;)Z" } : Jvm.MethodName)) ∈ gT := gT_in 370 (by decide +kernel) (by decide +kernel)
set_option maxRecDepth 20000 in
theorem tSel_X6_X6_X6_readInto : (Jvm.Cond.selects "YesterdayScale$Tape" ({ cls := "YesterdayScale$Tape", name := "readInto", desc := "(LYesterdayScale$Port;)Z" } : Jvm.MethodName) ({ cls := "YesterdayScale$Tape", name := "readInto", desc := "(LYesterdayScale$Port;)Z" } : Jvm.MethodName)) ∈ gT := gT_in 371 (by decide +kernel) (by decide +kernel)
set_option maxRecDepth 20000 in
theorem tY_X6_readInto : (Jvm.Cond.code ({ cls := "YesterdayScale$Tape", name := "readInto", desc := "(LYesterdayScale$Port;)Z" } : Jvm.MethodName) prog_8_method_4_code (3 : Nat) (Option.some Jvm.ClassFile.FieldType.boolean)) ∈ gT := gT_in 372 (by decide +kernel) (by decide +kernel)
set_option maxRecDepth 20000 in
theorem tM_X6_19 : (Jvm.Cond.methodLink "YesterdayScale$Tape" (19 : Nat) ({ cls := "YesterdayScale$Port", name := "clear", desc := "()V" } : Jvm.MethodName)) ∈ gT := gT_in 373 (by decide +kernel) (by decide +kernel)
set_option maxRecDepth 20000 in
theorem tI_X2_clear : (Jvm.Cond.instanceMethod ({ cls := "YesterdayScale$Port", name := "clear", desc := "()V" } : Jvm.MethodName)) ∈ gT := gT_in 374 (by decide +kernel) (by decide +kernel)
set_option maxRecDepth 20000 in
theorem tSel_X2_X2_X2_clear : (Jvm.Cond.selects "YesterdayScale$Port" ({ cls := "YesterdayScale$Port", name := "clear", desc := "()V" } : Jvm.MethodName) ({ cls := "YesterdayScale$Port", name := "clear", desc := "()V" } : Jvm.MethodName)) ∈ gT := gT_in 375 (by decide +kernel) (by decide +kernel)
set_option maxRecDepth 20000 in
theorem tY_X2_clear : (Jvm.Cond.code ({ cls := "YesterdayScale$Port", name := "clear", desc := "()V" } : Jvm.MethodName) prog_4_method_2_code (1 : Nat) (Option.none : Option Jvm.ClassFile.FieldType)) ∈ gT := gT_in 376 (by decide +kernel) (by decide +kernel)
set_option maxRecDepth 20000 in
theorem tM_X6_27 : (Jvm.Cond.methodLink "YesterdayScale$Tape" (27 : Nat) ({ cls := "YesterdayScale$Tape", name := "advance", desc := "()V" } : Jvm.MethodName)) ∈ gT := gT_in 377 (by decide +kernel) (by decide +kernel)
set_option maxRecDepth 20000 in
theorem tI_X6_advance : (Jvm.Cond.instanceMethod ({ cls := "YesterdayScale$Tape", name := "advance", desc := "()V" } : Jvm.MethodName)) ∈ gT := gT_in 379 (by decide +kernel) (by decide +kernel)
set_option maxRecDepth 20000 in
theorem tY_X6_advance : (Jvm.Cond.code ({ cls := "YesterdayScale$Tape", name := "advance", desc := "()V" } : Jvm.MethodName) prog_8_method_17_code (1 : Nat) (Option.none : Option Jvm.ClassFile.FieldType)) ∈ gT := gT_in 380 (by decide +kernel) (by decide +kernel)
set_option maxRecDepth 20000 in
theorem tM_X6_145 : (Jvm.Cond.methodLink "YesterdayScale$Tape" (145 : Nat) ({ cls := "YesterdayScale$Tape", name := "isBetween", desc := "(I)Z" } : Jvm.MethodName)) ∈ gT := gT_in 381 (by decide +kernel) (by decide +kernel)
set_option maxRecDepth 20000 in
theorem tS_X6_isBetween : (Jvm.Cond.static ({ cls := "YesterdayScale$Tape", name := "isBetween", desc := "(I)Z" } : Jvm.MethodName)) ∈ gT := gT_in 382 (by decide +kernel) (by decide +kernel)
set_option maxRecDepth 20000 in
theorem tY_X6_isBetween : (Jvm.Cond.code ({ cls := "YesterdayScale$Tape", name := "isBetween", desc := "(I)Z" } : Jvm.MethodName) prog_8_method_18_code (1 : Nat) (Option.some Jvm.ClassFile.FieldType.boolean)) ∈ gT := gT_in 383 (by decide +kernel) (by decide +kernel)
set_option maxRecDepth 20000 in
theorem tM_X6_148 : (Jvm.Cond.methodLink "YesterdayScale$Tape" (148 : Nat) ({ cls := "YesterdayScale$Tape", name := "isLetter", desc := "(I)Z" } : Jvm.MethodName)) ∈ gT := gT_in 384 (by decide +kernel) (by decide +kernel)
set_option maxRecDepth 20000 in
theorem tS_X6_isLetter : (Jvm.Cond.static ({ cls := "YesterdayScale$Tape", name := "isLetter", desc := "(I)Z" } : Jvm.MethodName)) ∈ gT := gT_in 385 (by decide +kernel) (by decide +kernel)
set_option maxRecDepth 20000 in
theorem tY_X6_isLetter : (Jvm.Cond.code ({ cls := "YesterdayScale$Tape", name := "isLetter", desc := "(I)Z" } : Jvm.MethodName) prog_8_method_19_code (1 : Nat) (Option.some Jvm.ClassFile.FieldType.boolean)) ∈ gT := gT_in 386 (by decide +kernel) (by decide +kernel)
set_option maxRecDepth 20000 in
theorem tM_X6_151 : (Jvm.Cond.methodLink "YesterdayScale$Tape" (151 : Nat) ({ cls := "YesterdayScale$Tape", name := "isFigure", desc := "(I)Z" } : Jvm.MethodName)) ∈ gT := gT_in 387 (by decide +kernel) (by decide +kernel)
set_option maxRecDepth 20000 in
theorem tS_X6_isFigure : (Jvm.Cond.static ({ cls := "YesterdayScale$Tape", name := "isFigure", desc := "(I)Z" } : Jvm.MethodName)) ∈ gT := gT_in 388 (by decide +kernel) (by decide +kernel)
set_option maxRecDepth 20000 in
theorem tY_X6_isFigure : (Jvm.Cond.code ({ cls := "YesterdayScale$Tape", name := "isFigure", desc := "(I)Z" } : Jvm.MethodName) prog_8_method_20_code (1 : Nat) (Option.some Jvm.ClassFile.FieldType.boolean)) ∈ gT := gT_in 389 (by decide +kernel) (by decide +kernel)
set_option maxRecDepth 20000 in
theorem tM_X6_30 : (Jvm.Cond.methodLink "YesterdayScale$Tape" (30 : Nat) ({ cls := "YesterdayScale$Tape", name := "readLaw", desc := "(LYesterdayScale$Port;)Z" } : Jvm.MethodName)) ∈ gT := gT_in 390 (by decide +kernel) (by decide +kernel)
set_option maxRecDepth 20000 in
theorem tI_X6_readLaw : (Jvm.Cond.instanceMethod ({ cls := "YesterdayScale$Tape", name := "readLaw", desc := "(LYesterdayScale$Port;)Z" } : Jvm.MethodName)) ∈ gT := gT_in 392 (by decide +kernel) (by decide +kernel)
set_option maxRecDepth 20000 in
theorem tY_X6_readLaw : (Jvm.Cond.code ({ cls := "YesterdayScale$Tape", name := "readLaw", desc := "(LYesterdayScale$Port;)Z" } : Jvm.MethodName) prog_8_method_5_code (2 : Nat) (Option.some Jvm.ClassFile.FieldType.boolean)) ∈ gT := gT_in 393 (by decide +kernel) (by decide +kernel)
set_option maxRecDepth 20000 in
theorem tM_X6_50 : (Jvm.Cond.methodLink "YesterdayScale$Tape" (50 : Nat) ({ cls := "YesterdayScale$Tape", name := "takeWord", desc := "(Ljava/lang/String;)Z" } : Jvm.MethodName)) ∈ gT := gT_in 395 (by decide +kernel) (by decide +kernel)
set_option maxRecDepth 20000 in
theorem tI_X6_takeWord : (Jvm.Cond.instanceMethod ({ cls := "YesterdayScale$Tape", name := "takeWord", desc := "(Ljava/lang/String;)Z" } : Jvm.MethodName)) ∈ gT := gT_in 397 (by decide +kernel) (by decide +kernel)
set_option maxRecDepth 20000 in
theorem tY_X6_takeWord : (Jvm.Cond.code ({ cls := "YesterdayScale$Tape", name := "takeWord", desc := "(Ljava/lang/String;)Z" } : Jvm.MethodName) prog_8_method_11_code (2 : Nat) (Option.some Jvm.ClassFile.FieldType.boolean)) ∈ gT := gT_in 398 (by decide +kernel) (by decide +kernel)
set_option maxRecDepth 20000 in
theorem tM_X6_75 : (Jvm.Cond.methodLink "YesterdayScale$Tape" (75 : Nat) ({ cls := "YesterdayScale$Tape", name := "isWord", desc := "(Ljava/lang/String;)Z" } : Jvm.MethodName)) ∈ gT := gT_in 399 (by decide +kernel) (by decide +kernel)
set_option maxRecDepth 20000 in
theorem tI_X6_isWord : (Jvm.Cond.instanceMethod ({ cls := "YesterdayScale$Tape", name := "isWord", desc := "(Ljava/lang/String;)Z" } : Jvm.MethodName)) ∈ gT := gT_in 401 (by decide +kernel) (by decide +kernel)
set_option maxRecDepth 20000 in
theorem tY_X6_isWord : (Jvm.Cond.code ({ cls := "YesterdayScale$Tape", name := "isWord", desc := "(Ljava/lang/String;)Z" } : Jvm.MethodName) prog_8_method_15_code (3 : Nat) (Option.some Jvm.ClassFile.FieldType.boolean)) ∈ gT := gT_in 402 (by decide +kernel) (by decide +kernel)
set_option maxRecDepth 20000 in
theorem tM_X6_137 : (Jvm.Cond.methodLink "YesterdayScale$Tape" (137 : Nat) ({ cls := "java/lang/String", name := "length", desc := "()I" } : Jvm.MethodName)) ∈ gT := gT_in 403 (by decide +kernel) (by decide +kernel)
set_option maxRecDepth 20000 in
theorem tI_J0_length_8abf5 : (Jvm.Cond.instanceMethod ({ cls := "java/lang/String", name := "length", desc := "()I" } : Jvm.MethodName)) ∈ gT := gT_in 404 (by decide +kernel) (by decide +kernel)
set_option maxRecDepth 20000 in
theorem tSel_J0_J0_J0_length_8abf5 : (Jvm.Cond.selects "java/lang/String" ({ cls := "java/lang/String", name := "length", desc := "()I" } : Jvm.MethodName) ({ cls := "java/lang/String", name := "length", desc := "()I" } : Jvm.MethodName)) ∈ gT := gT_in 405 (by decide +kernel) (by decide +kernel)
set_option maxRecDepth 20000 in
theorem tY_J0_length_8abf5 : (Jvm.Cond.code ({ cls := "java/lang/String", name := "length", desc := "()I" } : Jvm.MethodName) prog_16_method_54_code (1 : Nat) (Option.some Jvm.ClassFile.FieldType.int)) ∈ gT := gT_in 406 (by decide +kernel) (by decide +kernel)
set_option maxRecDepth 20000 in
theorem tM_J0_335 : (Jvm.Cond.methodLink "java/lang/String" (335 : Nat) ({ cls := "java/lang/String", name := "coder", desc := "()B" } : Jvm.MethodName)) ∈ gT := gT_in 407 (by decide +kernel) (by decide +kernel)
set_option maxRecDepth 20000 in
theorem tI_J0_coder_7d493 : (Jvm.Cond.instanceMethod ({ cls := "java/lang/String", name := "coder", desc := "()B" } : Jvm.MethodName)) ∈ gT := gT_in 408 (by decide +kernel) (by decide +kernel)
set_option maxRecDepth 20000 in
theorem tSel_J0_J0_J0_coder_7d493 : (Jvm.Cond.selects "java/lang/String" ({ cls := "java/lang/String", name := "coder", desc := "()B" } : Jvm.MethodName) ({ cls := "java/lang/String", name := "coder", desc := "()B" } : Jvm.MethodName)) ∈ gT := gT_in 409 (by decide +kernel) (by decide +kernel)
set_option maxRecDepth 20000 in
theorem tY_J0_coder_7d493 : (Jvm.Cond.code ({ cls := "java/lang/String", name := "coder", desc := "()B" } : Jvm.MethodName) prog_16_method_152_code (1 : Nat) (Option.some Jvm.ClassFile.FieldType.byte)) ∈ gT := gT_in 410 (by decide +kernel) (by decide +kernel)
set_option maxRecDepth 20000 in
theorem tF_J0_38 : (Jvm.Cond.fieldLink "java/lang/String" (38 : Nat) "java/lang/String" "COMPACT_STRINGS" "Z") ∈ gT := gT_in 411 (by decide +kernel) (by decide +kernel)
set_option maxRecDepth 20000 in
theorem tM_X6_141 : (Jvm.Cond.methodLink "YesterdayScale$Tape" (141 : Nat) ({ cls := "java/lang/String", name := "charAt", desc := "(I)C" } : Jvm.MethodName)) ∈ gT := gT_in 413 (by decide +kernel) (by decide +kernel)
set_option maxRecDepth 20000 in
theorem tI_J0_charAt_5068e : (Jvm.Cond.instanceMethod ({ cls := "java/lang/String", name := "charAt", desc := "(I)C" } : Jvm.MethodName)) ∈ gT := gT_in 414 (by decide +kernel) (by decide +kernel)
set_option maxRecDepth 20000 in
theorem tSel_J0_J0_J0_charAt_5068e : (Jvm.Cond.selects "java/lang/String" ({ cls := "java/lang/String", name := "charAt", desc := "(I)C" } : Jvm.MethodName) ({ cls := "java/lang/String", name := "charAt", desc := "(I)C" } : Jvm.MethodName)) ∈ gT := gT_in 415 (by decide +kernel) (by decide +kernel)
set_option maxRecDepth 20000 in
theorem tY_J0_charAt_5068e : (Jvm.Cond.code ({ cls := "java/lang/String", name := "charAt", desc := "(I)C" } : Jvm.MethodName) prog_16_method_56_code (2 : Nat) (Option.some Jvm.ClassFile.FieldType.char)) ∈ gT := gT_in 416 (by decide +kernel) (by decide +kernel)
set_option maxRecDepth 20000 in
theorem tM_J0_492 : (Jvm.Cond.methodLink "java/lang/String" (492 : Nat) ({ cls := "java/lang/String", name := "isLatin1", desc := "()Z" } : Jvm.MethodName)) ∈ gT := gT_in 417 (by decide +kernel) (by decide +kernel)
set_option maxRecDepth 20000 in
theorem tI_J0_isLatin1_aae02 : (Jvm.Cond.instanceMethod ({ cls := "java/lang/String", name := "isLatin1", desc := "()Z" } : Jvm.MethodName)) ∈ gT := gT_in 418 (by decide +kernel) (by decide +kernel)
set_option maxRecDepth 20000 in
theorem tSel_J0_J0_J0_isLatin1_aae02 : (Jvm.Cond.selects "java/lang/String" ({ cls := "java/lang/String", name := "isLatin1", desc := "()Z" } : Jvm.MethodName) ({ cls := "java/lang/String", name := "isLatin1", desc := "()Z" } : Jvm.MethodName)) ∈ gT := gT_in 419 (by decide +kernel) (by decide +kernel)
set_option maxRecDepth 20000 in
theorem tY_J0_isLatin1_aae02 : (Jvm.Cond.code ({ cls := "java/lang/String", name := "isLatin1", desc := "()Z" } : Jvm.MethodName) prog_16_method_154_code (1 : Nat) (Option.some Jvm.ClassFile.FieldType.boolean)) ∈ gT := gT_in 420 (by decide +kernel) (by decide +kernel)
set_option maxRecDepth 20000 in
theorem tM_J0_495 : (Jvm.Cond.methodLink "java/lang/String" (495 : Nat) ({ cls := "java/lang/StringLatin1", name := "charAt", desc := "([BI)C" } : Jvm.MethodName)) ∈ gT := gT_in 421 (by decide +kernel) (by decide +kernel)
set_option maxRecDepth 20000 in
theorem tS_J1_charAt_3b067 : (Jvm.Cond.static ({ cls := "java/lang/StringLatin1", name := "charAt", desc := "([BI)C" } : Jvm.MethodName)) ∈ gT := gT_in 422 (by decide +kernel) (by decide +kernel)
set_option maxRecDepth 20000 in
theorem tY_J1_charAt_3b067 : (Jvm.Cond.code ({ cls := "java/lang/StringLatin1", name := "charAt", desc := "([BI)C" } : Jvm.MethodName) prog_17_method_2_code (2 : Nat) (Option.some Jvm.ClassFile.FieldType.char)) ∈ gT := gT_in 423 (by decide +kernel) (by decide +kernel)
set_option maxRecDepth 20000 in
theorem tM_J1_9 : (Jvm.Cond.methodLink "java/lang/StringLatin1" (9 : Nat) ({ cls := "java/lang/String", name := "checkIndex", desc := "(II)V" } : Jvm.MethodName)) ∈ gT := gT_in 424 (by decide +kernel) (by decide +kernel)
set_option maxRecDepth 20000 in
theorem tS_J0_checkIndex_df160 : (Jvm.Cond.static ({ cls := "java/lang/String", name := "checkIndex", desc := "(II)V" } : Jvm.MethodName)) ∈ gT := gT_in 425 (by decide +kernel) (by decide +kernel)
set_option maxRecDepth 20000 in
theorem tY_J0_checkIndex_df160 : (Jvm.Cond.code ({ cls := "java/lang/String", name := "checkIndex", desc := "(II)V" } : Jvm.MethodName) prog_16_method_155_code (2 : Nat) (Option.none : Option Jvm.ClassFile.FieldType)) ∈ gT := gT_in 426 (by decide +kernel) (by decide +kernel)
set_option maxRecDepth 20000 in
theorem tF_J0_1053 : (Jvm.Cond.fieldLink "java/lang/String" (1053 : Nat) "jdk/internal/util/Preconditions" "SIOOBE_FORMATTER" "Ljava/util/function/BiFunction;") ∈ gT := gT_in 427 (by decide +kernel) (by decide +kernel)
set_option maxRecDepth 20000 in
theorem tM_J0_1059 : (Jvm.Cond.methodLink "java/lang/String" (1059 : Nat) ({ cls := "jdk/internal/util/Preconditions", name := "checkIndex", desc := "(IILjava/util/function/BiFunction;)I" } : Jvm.MethodName)) ∈ gT := gT_in 429 (by decide +kernel) (by decide +kernel)
set_option maxRecDepth 20000 in
theorem tS_J3_checkIndex_8e157 : (Jvm.Cond.static ({ cls := "jdk/internal/util/Preconditions", name := "checkIndex", desc := "(IILjava/util/function/BiFunction;)I" } : Jvm.MethodName)) ∈ gT := gT_in 430 (by decide +kernel) (by decide +kernel)
set_option maxRecDepth 20000 in
theorem tY_J3_checkIndex_8e157 : (Jvm.Cond.code ({ cls := "jdk/internal/util/Preconditions", name := "checkIndex", desc := "(IILjava/util/function/BiFunction;)I" } : Jvm.MethodName) prog_20_method_11_code (3 : Nat) (Option.some Jvm.ClassFile.FieldType.int)) ∈ gT := gT_in 431 (by decide +kernel) (by decide +kernel)
set_option maxRecDepth 20000 in
theorem tM_J0_498 : (Jvm.Cond.methodLink "java/lang/String" (498 : Nat) ({ cls := "java/lang/StringUTF16", name := "charAt", desc := "([BI)C" } : Jvm.MethodName)) ∈ gT := gT_in 432 (by decide +kernel) (by decide +kernel)
set_option maxRecDepth 20000 in
theorem tS_J2_charAt_3b067 : (Jvm.Cond.static ({ cls := "java/lang/StringUTF16", name := "charAt", desc := "([BI)C" } : Jvm.MethodName)) ∈ gT := gT_in 433 (by decide +kernel) (by decide +kernel)
set_option maxRecDepth 20000 in
theorem tY_J2_charAt_3b067 : (Jvm.Cond.code ({ cls := "java/lang/StringUTF16", name := "charAt", desc := "([BI)C" } : Jvm.MethodName) prog_18_method_83_code (2 : Nat) (Option.some Jvm.ClassFile.FieldType.char)) ∈ gT := gT_in 434 (by decide +kernel) (by decide +kernel)
set_option maxRecDepth 20000 in
theorem tM_J2_67 : (Jvm.Cond.methodLink "java/lang/StringUTF16" (67 : Nat) ({ cls := "java/lang/StringUTF16", name := "checkIndex", desc := "(I[B)V" } : Jvm.MethodName)) ∈ gT := gT_in 435 (by decide +kernel) (by decide +kernel)
set_option maxRecDepth 20000 in
theorem tS_J2_checkIndex_2214a : (Jvm.Cond.static ({ cls := "java/lang/StringUTF16", name := "checkIndex", desc := "(I[B)V" } : Jvm.MethodName)) ∈ gT := gT_in 436 (by decide +kernel) (by decide +kernel)
set_option maxRecDepth 20000 in
theorem tY_J2_checkIndex_2214a : (Jvm.Cond.code ({ cls := "java/lang/StringUTF16", name := "checkIndex", desc := "(I[B)V" } : Jvm.MethodName) prog_18_method_91_code (2 : Nat) (Option.none : Option Jvm.ClassFile.FieldType)) ∈ gT := gT_in 437 (by decide +kernel) (by decide +kernel)
set_option maxRecDepth 20000 in
theorem tM_J2_48 : (Jvm.Cond.methodLink "java/lang/StringUTF16" (48 : Nat) ({ cls := "java/lang/StringUTF16", name := "length", desc := "([B)I" } : Jvm.MethodName)) ∈ gT := gT_in 438 (by decide +kernel) (by decide +kernel)
set_option maxRecDepth 20000 in
theorem tS_J2_length_9d52b : (Jvm.Cond.static ({ cls := "java/lang/StringUTF16", name := "length", desc := "([B)I" } : Jvm.MethodName)) ∈ gT := gT_in 439 (by decide +kernel) (by decide +kernel)
set_option maxRecDepth 20000 in
theorem tY_J2_length_9d52b : (Jvm.Cond.code ({ cls := "java/lang/StringUTF16", name := "length", desc := "([B)I" } : Jvm.MethodName) prog_18_method_6_code (1 : Nat) (Option.some Jvm.ClassFile.FieldType.int)) ∈ gT := gT_in 440 (by decide +kernel) (by decide +kernel)
set_option maxRecDepth 20000 in
theorem tM_J2_414 : (Jvm.Cond.methodLink "java/lang/StringUTF16" (414 : Nat) ({ cls := "java/lang/String", name := "checkIndex", desc := "(II)V" } : Jvm.MethodName)) ∈ gT := gT_in 441 (by decide +kernel) (by decide +kernel)
set_option maxRecDepth 20000 in
theorem tM_J2_71 : (Jvm.Cond.methodLink "java/lang/StringUTF16" (71 : Nat) ({ cls := "java/lang/StringUTF16", name := "getChar", desc := "([BI)C" } : Jvm.MethodName)) ∈ gT := gT_in 442 (by decide +kernel) (by decide +kernel)
set_option maxRecDepth 20000 in
theorem tS_J2_getChar_3b067 : (Jvm.Cond.static ({ cls := "java/lang/StringUTF16", name := "getChar", desc := "([BI)C" } : Jvm.MethodName)) ∈ gT := gT_in 443 (by decide +kernel) (by decide +kernel)
set_option maxRecDepth 20000 in
theorem tY_J2_getChar_3b067 : (Jvm.Cond.code ({ cls := "java/lang/StringUTF16", name := "getChar", desc := "([BI)C" } : Jvm.MethodName) prog_18_method_5_code (2 : Nat) (Option.some Jvm.ClassFile.FieldType.char)) ∈ gT := gT_in 444 (by decide +kernel) (by decide +kernel)
set_option maxRecDepth 20000 in
theorem tF_J2_44 : (Jvm.Cond.fieldLink "java/lang/StringUTF16" (44 : Nat) "java/lang/StringUTF16" "$assertionsDisabled" "Z") ∈ gT := gT_in 445 (by decide +kernel) (by decide +kernel)
set_option maxRecDepth 20000 in
theorem tF_J2_59 : (Jvm.Cond.fieldLink "java/lang/StringUTF16" (59 : Nat) "java/lang/StringUTF16" "HI_BYTE_SHIFT" "I") ∈ gT := gT_in 447 (by decide +kernel) (by decide +kernel)
set_option maxRecDepth 20000 in
theorem tF_J2_63 : (Jvm.Cond.fieldLink "java/lang/StringUTF16" (63 : Nat) "java/lang/StringUTF16" "LO_BYTE_SHIFT" "I") ∈ gT := gT_in 449 (by decide +kernel) (by decide +kernel)
set_option maxRecDepth 20000 in
theorem tM_X6_78 : (Jvm.Cond.methodLink "YesterdayScale$Tape" (78 : Nat) ({ cls := "YesterdayScale$Tape", name := "fail", desc := "(I)Z" } : Jvm.MethodName)) ∈ gT := gT_in 451 (by decide +kernel) (by decide +kernel)
set_option maxRecDepth 20000 in
theorem tI_X6_fail : (Jvm.Cond.instanceMethod ({ cls := "YesterdayScale$Tape", name := "fail", desc := "(I)Z" } : Jvm.MethodName)) ∈ gT := gT_in 453 (by decide +kernel) (by decide +kernel)
set_option maxRecDepth 20000 in
theorem tY_X6_fail : (Jvm.Cond.code ({ cls := "YesterdayScale$Tape", name := "fail", desc := "(I)Z" } : Jvm.MethodName) prog_8_method_14_code (2 : Nat) (Option.some Jvm.ClassFile.FieldType.boolean)) ∈ gT := gT_in 454 (by decide +kernel) (by decide +kernel)
set_option maxRecDepth 20000 in
theorem tM_X6_54 : (Jvm.Cond.methodLink "YesterdayScale$Tape" (54 : Nat) ({ cls := "YesterdayScale$Tape", name := "takeNumber", desc := "(II)Z" } : Jvm.MethodName)) ∈ gT := gT_in 455 (by decide +kernel) (by decide +kernel)
set_option maxRecDepth 20000 in
theorem tI_X6_takeNumber : (Jvm.Cond.instanceMethod ({ cls := "YesterdayScale$Tape", name := "takeNumber", desc := "(II)Z" } : Jvm.MethodName)) ∈ gT := gT_in 457 (by decide +kernel) (by decide +kernel)
set_option maxRecDepth 20000 in
theorem tY_X6_takeNumber : (Jvm.Cond.code ({ cls := "YesterdayScale$Tape", name := "takeNumber", desc := "(II)Z" } : Jvm.MethodName) prog_8_method_12_code (3 : Nat) (Option.some Jvm.ClassFile.FieldType.boolean)) ∈ gT := gT_in 458 (by decide +kernel) (by decide +kernel)
set_option maxRecDepth 20000 in
theorem tM_X6_125 : (Jvm.Cond.methodLink "YesterdayScale$Tape" (125 : Nat) ({ cls := "YesterdayScale$Tape", name := "numberRead", desc := "()I" } : Jvm.MethodName)) ∈ gT := gT_in 459 (by decide +kernel) (by decide +kernel)
set_option maxRecDepth 20000 in
theorem tI_X6_numberRead : (Jvm.Cond.instanceMethod ({ cls := "YesterdayScale$Tape", name := "numberRead", desc := "()I" } : Jvm.MethodName)) ∈ gT := gT_in 461 (by decide +kernel) (by decide +kernel)
set_option maxRecDepth 20000 in
theorem tY_X6_numberRead : (Jvm.Cond.code ({ cls := "YesterdayScale$Tape", name := "numberRead", desc := "()I" } : Jvm.MethodName) prog_8_method_16_code (3 : Nat) (Option.some Jvm.ClassFile.FieldType.int)) ∈ gT := gT_in 462 (by decide +kernel) (by decide +kernel)
set_option maxRecDepth 20000 in
theorem tM_X6_70 : (Jvm.Cond.methodLink "YesterdayScale$Tape" (70 : Nat) ({ cls := "YesterdayScale$Tape", name := "takeSemicolon", desc := "()Z" } : Jvm.MethodName)) ∈ gT := gT_in 463 (by decide +kernel) (by decide +kernel)
set_option maxRecDepth 20000 in
theorem tI_X6_takeSemicolon : (Jvm.Cond.instanceMethod ({ cls := "YesterdayScale$Tape", name := "takeSemicolon", desc := "()Z" } : Jvm.MethodName)) ∈ gT := gT_in 465 (by decide +kernel) (by decide +kernel)
set_option maxRecDepth 20000 in
theorem tY_X6_takeSemicolon : (Jvm.Cond.code ({ cls := "YesterdayScale$Tape", name := "takeSemicolon", desc := "()Z" } : Jvm.MethodName) prog_8_method_13_code (1 : Nat) (Option.some Jvm.ClassFile.FieldType.boolean)) ∈ gT := gT_in 466 (by decide +kernel) (by decide +kernel)
set_option maxRecDepth 20000 in
theorem tM_X6_34 : (Jvm.Cond.methodLink "YesterdayScale$Tape" (34 : Nat) ({ cls := "YesterdayScale$Tape", name := "readThings", desc := "(LYesterdayScale$Port;)Z" } : Jvm.MethodName)) ∈ gT := gT_in 467 (by decide +kernel) (by decide +kernel)
set_option maxRecDepth 20000 in
theorem tI_X6_readThings : (Jvm.Cond.instanceMethod ({ cls := "YesterdayScale$Tape", name := "readThings", desc := "(LYesterdayScale$Port;)Z" } : Jvm.MethodName)) ∈ gT := gT_in 469 (by decide +kernel) (by decide +kernel)
set_option maxRecDepth 20000 in
theorem tY_X6_readThings : (Jvm.Cond.code ({ cls := "YesterdayScale$Tape", name := "readThings", desc := "(LYesterdayScale$Port;)Z" } : Jvm.MethodName) prog_8_method_6_code (3 : Nat) (Option.some Jvm.ClassFile.FieldType.boolean)) ∈ gT := gT_in 470 (by decide +kernel) (by decide +kernel)
set_option maxRecDepth 20000 in
theorem tM_X6_82 : (Jvm.Cond.methodLink "YesterdayScale$Tape" (82 : Nat) ({ cls := "YesterdayScale$Tape", name := "readThing", desc := "(LYesterdayScale$Port;)Z" } : Jvm.MethodName)) ∈ gT := gT_in 472 (by decide +kernel) (by decide +kernel)
set_option maxRecDepth 20000 in
theorem tI_X6_readThing : (Jvm.Cond.instanceMethod ({ cls := "YesterdayScale$Tape", name := "readThing", desc := "(LYesterdayScale$Port;)Z" } : Jvm.MethodName)) ∈ gT := gT_in 474 (by decide +kernel) (by decide +kernel)
set_option maxRecDepth 20000 in
theorem tY_X6_readThing : (Jvm.Cond.code ({ cls := "YesterdayScale$Tape", name := "readThing", desc := "(LYesterdayScale$Port;)Z" } : Jvm.MethodName) prog_8_method_7_code (3 : Nat) (Option.some Jvm.ClassFile.FieldType.boolean)) ∈ gT := gT_in 475 (by decide +kernel) (by decide +kernel)
set_option maxRecDepth 20000 in
theorem tM_X6_85 : (Jvm.Cond.methodLink "YesterdayScale$Tape" (85 : Nat) ({ cls := "YesterdayScale$Tape", name := "sortNamed", desc := "()I" } : Jvm.MethodName)) ∈ gT := gT_in 476 (by decide +kernel) (by decide +kernel)
set_option maxRecDepth 20000 in
theorem tI_X6_sortNamed : (Jvm.Cond.instanceMethod ({ cls := "YesterdayScale$Tape", name := "sortNamed", desc := "()I" } : Jvm.MethodName)) ∈ gT := gT_in 478 (by decide +kernel) (by decide +kernel)
set_option maxRecDepth 20000 in
theorem tY_X6_sortNamed : (Jvm.Cond.code ({ cls := "YesterdayScale$Tape", name := "sortNamed", desc := "()I" } : Jvm.MethodName) prog_8_method_10_code (1 : Nat) (Option.some Jvm.ClassFile.FieldType.int)) ∈ gT := gT_in 479 (by decide +kernel) (by decide +kernel)
set_option maxRecDepth 20000 in
theorem tM_X6_89 : (Jvm.Cond.methodLink "YesterdayScale$Tape" (89 : Nat) ({ cls := "YesterdayScale$Port", name := "addThing", desc := "(II)V" } : Jvm.MethodName)) ∈ gT := gT_in 485 (by decide +kernel) (by decide +kernel)
set_option maxRecDepth 20000 in
theorem tI_X2_addThing : (Jvm.Cond.instanceMethod ({ cls := "YesterdayScale$Port", name := "addThing", desc := "(II)V" } : Jvm.MethodName)) ∈ gT := gT_in 486 (by decide +kernel) (by decide +kernel)
set_option maxRecDepth 20000 in
theorem tSel_X2_X2_X2_addThing : (Jvm.Cond.selects "YesterdayScale$Port" ({ cls := "YesterdayScale$Port", name := "addThing", desc := "(II)V" } : Jvm.MethodName) ({ cls := "YesterdayScale$Port", name := "addThing", desc := "(II)V" } : Jvm.MethodName)) ∈ gT := gT_in 487 (by decide +kernel) (by decide +kernel)
set_option maxRecDepth 20000 in
theorem tY_X2_addThing : (Jvm.Cond.code ({ cls := "YesterdayScale$Port", name := "addThing", desc := "(II)V" } : Jvm.MethodName) prog_4_method_4_code (3 : Nat) (Option.none : Option Jvm.ClassFile.FieldType)) ∈ gT := gT_in 488 (by decide +kernel) (by decide +kernel)
set_option maxRecDepth 20000 in
theorem tM_X6_37 : (Jvm.Cond.methodLink "YesterdayScale$Tape" (37 : Nat) ({ cls := "YesterdayScale$Tape", name := "readDays", desc := "(LYesterdayScale$Port;)Z" } : Jvm.MethodName)) ∈ gT := gT_in 489 (by decide +kernel) (by decide +kernel)
set_option maxRecDepth 20000 in
theorem tI_X6_readDays : (Jvm.Cond.instanceMethod ({ cls := "YesterdayScale$Tape", name := "readDays", desc := "(LYesterdayScale$Port;)Z" } : Jvm.MethodName)) ∈ gT := gT_in 491 (by decide +kernel) (by decide +kernel)
set_option maxRecDepth 20000 in
theorem tY_X6_readDays : (Jvm.Cond.code ({ cls := "YesterdayScale$Tape", name := "readDays", desc := "(LYesterdayScale$Port;)Z" } : Jvm.MethodName) prog_8_method_8_code (3 : Nat) (Option.some Jvm.ClassFile.FieldType.boolean)) ∈ gT := gT_in 492 (by decide +kernel) (by decide +kernel)
set_option maxRecDepth 20000 in
theorem tM_X6_95 : (Jvm.Cond.methodLink "YesterdayScale$Tape" (95 : Nat) ({ cls := "YesterdayScale$Port", name := "allThings", desc := "()I" } : Jvm.MethodName)) ∈ gT := gT_in 494 (by decide +kernel) (by decide +kernel)
set_option maxRecDepth 20000 in
theorem tI_X2_allThings : (Jvm.Cond.instanceMethod ({ cls := "YesterdayScale$Port", name := "allThings", desc := "()I" } : Jvm.MethodName)) ∈ gT := gT_in 495 (by decide +kernel) (by decide +kernel)
set_option maxRecDepth 20000 in
theorem tSel_X2_X2_X2_allThings : (Jvm.Cond.selects "YesterdayScale$Port" ({ cls := "YesterdayScale$Port", name := "allThings", desc := "()I" } : Jvm.MethodName) ({ cls := "YesterdayScale$Port", name := "allThings", desc := "()I" } : Jvm.MethodName)) ∈ gT := gT_in 496 (by decide +kernel) (by decide +kernel)
set_option maxRecDepth 20000 in
theorem tY_X2_allThings : (Jvm.Cond.code ({ cls := "YesterdayScale$Port", name := "allThings", desc := "()I" } : Jvm.MethodName) prog_4_method_8_code (1 : Nat) (Option.some Jvm.ClassFile.FieldType.int)) ∈ gT := gT_in 497 (by decide +kernel) (by decide +kernel)
set_option maxRecDepth 20000 in
theorem tM_X6_98 : (Jvm.Cond.methodLink "YesterdayScale$Tape" (98 : Nat) ({ cls := "YesterdayScale$Port", name := "addDay", desc := "(I)V" } : Jvm.MethodName)) ∈ gT := gT_in 498 (by decide +kernel) (by decide +kernel)
set_option maxRecDepth 20000 in
theorem tI_X2_addDay : (Jvm.Cond.instanceMethod ({ cls := "YesterdayScale$Port", name := "addDay", desc := "(I)V" } : Jvm.MethodName)) ∈ gT := gT_in 499 (by decide +kernel) (by decide +kernel)
set_option maxRecDepth 20000 in
theorem tSel_X2_X2_X2_addDay : (Jvm.Cond.selects "YesterdayScale$Port" ({ cls := "YesterdayScale$Port", name := "addDay", desc := "(I)V" } : Jvm.MethodName) ({ cls := "YesterdayScale$Port", name := "addDay", desc := "(I)V" } : Jvm.MethodName)) ∈ gT := gT_in 500 (by decide +kernel) (by decide +kernel)
set_option maxRecDepth 20000 in
theorem tY_X2_addDay : (Jvm.Cond.code ({ cls := "YesterdayScale$Port", name := "addDay", desc := "(I)V" } : Jvm.MethodName) prog_4_method_7_code (2 : Nat) (Option.none : Option Jvm.ClassFile.FieldType)) ∈ gT := gT_in 501 (by decide +kernel) (by decide +kernel)
set_option maxRecDepth 20000 in
theorem tM_X6_40 : (Jvm.Cond.methodLink "YesterdayScale$Tape" (40 : Nat) ({ cls := "YesterdayScale$Tape", name := "readEnd", desc := "()Z" } : Jvm.MethodName)) ∈ gT := gT_in 502 (by decide +kernel) (by decide +kernel)
set_option maxRecDepth 20000 in
theorem tI_X6_readEnd : (Jvm.Cond.instanceMethod ({ cls := "YesterdayScale$Tape", name := "readEnd", desc := "()Z" } : Jvm.MethodName)) ∈ gT := gT_in 504 (by decide +kernel) (by decide +kernel)
set_option maxRecDepth 20000 in
theorem tY_X6_readEnd : (Jvm.Cond.code ({ cls := "YesterdayScale$Tape", name := "readEnd", desc := "()Z" } : Jvm.MethodName) prog_8_method_9_code (1 : Nat) (Option.some Jvm.ClassFile.FieldType.boolean)) ∈ gT := gT_in 505 (by decide +kernel) (by decide +kernel)
set_option maxRecDepth 20000 in
theorem tK_X11_113 : (Jvm.Cond.constant "YesterdayScale" (113 : Nat) (-1000100 : Int32)) ∈ gT := gT_in 506 (by decide +kernel) (by decide +kernel)
set_option maxRecDepth 20000 in
theorem tM_X11_117 : (Jvm.Cond.methodLink "YesterdayScale" (117 : Nat) ({ cls := "YesterdayScale$Port", name := "makeThings", desc := "()V" } : Jvm.MethodName)) ∈ gT := gT_in 507 (by decide +kernel) (by decide +kernel)
set_option maxRecDepth 20000 in
theorem tI_X2_makeThings : (Jvm.Cond.instanceMethod ({ cls := "YesterdayScale$Port", name := "makeThings", desc := "()V" } : Jvm.MethodName)) ∈ gT := gT_in 508 (by decide +kernel) (by decide +kernel)
set_option maxRecDepth 20000 in
theorem tSel_X2_X2_X2_makeThings : (Jvm.Cond.selects "YesterdayScale$Port" ({ cls := "YesterdayScale$Port", name := "makeThings", desc := "()V" } : Jvm.MethodName) ({ cls := "YesterdayScale$Port", name := "makeThings", desc := "()V" } : Jvm.MethodName)) ∈ gT := gT_in 509 (by decide +kernel) (by decide +kernel)
set_option maxRecDepth 20000 in
theorem tY_X2_makeThings : (Jvm.Cond.code ({ cls := "YesterdayScale$Port", name := "makeThings", desc := "()V" } : Jvm.MethodName) prog_4_method_5_code (2 : Nat) (Option.none : Option Jvm.ClassFile.FieldType)) ∈ gT := gT_in 510 (by decide +kernel) (by decide +kernel)
set_option maxRecDepth 20000 in
theorem tM_X2_58 : (Jvm.Cond.methodLink "YesterdayScale$Port" (58 : Nat) ({ cls := "YesterdayScale$Port", name := "made", desc := "(III)LYesterdayScale$Thing;" } : Jvm.MethodName)) ∈ gT := gT_in 511 (by decide +kernel) (by decide +kernel)
set_option maxRecDepth 20000 in
theorem tS_X2_made : (Jvm.Cond.static ({ cls := "YesterdayScale$Port", name := "made", desc := "(III)LYesterdayScale$Thing;" } : Jvm.MethodName)) ∈ gT := gT_in 512 (by decide +kernel) (by decide +kernel)
set_option maxRecDepth 20000 in
theorem tY_X2_made : (Jvm.Cond.code ({ cls := "YesterdayScale$Port", name := "made", desc := "(III)LYesterdayScale$Thing;" } : Jvm.MethodName) prog_4_method_6_code (3 : Nat) (Option.some (Jvm.ClassFile.FieldType.object "YesterdayScale$Thing"))) ∈ gT := gT_in 513 (by decide +kernel) (by decide +kernel)
set_option maxRecDepth 20000 in
theorem tC_X2_62 : (Jvm.Cond.classLink "YesterdayScale$Port" (62 : Nat) "YesterdayScale$Fish") ∈ gT := gT_in 514 (by decide +kernel) (by decide +kernel)
set_option maxRecDepth 20000 in
theorem tIns_X1 : (Jvm.Cond.instantiable "YesterdayScale$Fish" (2 : Nat)) ∈ gT := gT_in 515 (by decide +kernel) (by decide +kernel)
set_option maxRecDepth 20000 in
theorem tM_X2_64 : (Jvm.Cond.methodLink "YesterdayScale$Port" (64 : Nat) ({ cls := "YesterdayScale$Fish", name := "<init>", desc := "(II)V" } : Jvm.MethodName)) ∈ gT := gT_in 516 (by decide +kernel) (by decide +kernel)
set_option maxRecDepth 20000 in
theorem tI_X1_init : (Jvm.Cond.instanceMethod ({ cls := "YesterdayScale$Fish", name := "<init>", desc := "(II)V" } : Jvm.MethodName)) ∈ gT := gT_in 517 (by decide +kernel) (by decide +kernel)
set_option maxRecDepth 20000 in
theorem tY_X1_init : (Jvm.Cond.code ({ cls := "YesterdayScale$Fish", name := "<init>", desc := "(II)V" } : Jvm.MethodName) prog_3_method_1_code (3 : Nat) (Option.none : Option Jvm.ClassFile.FieldType)) ∈ gT := gT_in 518 (by decide +kernel) (by decide +kernel)
set_option maxRecDepth 20000 in
theorem tM_X1_1 : (Jvm.Cond.methodLink "YesterdayScale$Fish" (1 : Nat) ({ cls := "YesterdayScale$Salt", name := "<init>", desc := "(II)V" } : Jvm.MethodName)) ∈ gT := gT_in 519 (by decide +kernel) (by decide +kernel)
set_option maxRecDepth 20000 in
theorem tI_X4_init : (Jvm.Cond.instanceMethod ({ cls := "YesterdayScale$Salt", name := "<init>", desc := "(II)V" } : Jvm.MethodName)) ∈ gT := gT_in 520 (by decide +kernel) (by decide +kernel)
set_option maxRecDepth 20000 in
theorem tY_X4_init : (Jvm.Cond.code ({ cls := "YesterdayScale$Salt", name := "<init>", desc := "(II)V" } : Jvm.MethodName) prog_6_method_1_code (3 : Nat) (Option.none : Option Jvm.ClassFile.FieldType)) ∈ gT := gT_in 521 (by decide +kernel) (by decide +kernel)
set_option maxRecDepth 20000 in
theorem tM_X4_1 : (Jvm.Cond.methodLink "YesterdayScale$Salt" (1 : Nat) ({ cls := "YesterdayScale$Thing", name := "<init>", desc := "(II)V" } : Jvm.MethodName)) ∈ gT := gT_in 522 (by decide +kernel) (by decide +kernel)
set_option maxRecDepth 20000 in
theorem tI_X7_init : (Jvm.Cond.instanceMethod ({ cls := "YesterdayScale$Thing", name := "<init>", desc := "(II)V" } : Jvm.MethodName)) ∈ gT := gT_in 523 (by decide +kernel) (by decide +kernel)
set_option maxRecDepth 20000 in
theorem tY_X7_init : (Jvm.Cond.code ({ cls := "YesterdayScale$Thing", name := "<init>", desc := "(II)V" } : Jvm.MethodName) prog_9_method_1_code (3 : Nat) (Option.none : Option Jvm.ClassFile.FieldType)) ∈ gT := gT_in 524 (by decide +kernel) (by decide +kernel)
set_option maxRecDepth 20000 in
theorem tM_X7_1 : (Jvm.Cond.methodLink "YesterdayScale$Thing" (1 : Nat) ({ cls := "java/lang/Object", name := "<init>", desc := "()V" } : Jvm.MethodName)) ∈ gT := gT_in 525 (by decide +kernel) (by decide +kernel)
set_option maxRecDepth 20000 in
theorem tF_X7_7 : (Jvm.Cond.fieldLink "YesterdayScale$Thing" (7 : Nat) "YesterdayScale$Thing" "number" "I") ∈ gT := gT_in 526 (by decide +kernel) (by decide +kernel)
set_option maxRecDepth 20000 in
theorem tF_X11_224 : (Jvm.Cond.fieldLink "YesterdayScale" (224 : Nat) "YesterdayScale$Thing" "number" "I") ∈ gT := gT_in 527 (by decide +kernel) (by decide +kernel)
set_option maxRecDepth 20000 in
theorem tF_X7_13 : (Jvm.Cond.fieldLink "YesterdayScale$Thing" (13 : Nat) "YesterdayScale$Thing" "weight" "I") ∈ gT := gT_in 528 (by decide +kernel) (by decide +kernel)
set_option maxRecDepth 20000 in
theorem tF_X11_158 : (Jvm.Cond.fieldLink "YesterdayScale" (158 : Nat) "YesterdayScale$Thing" "weight" "I") ∈ gT := gT_in 529 (by decide +kernel) (by decide +kernel)
set_option maxRecDepth 20000 in
theorem tF_X2_85 : (Jvm.Cond.fieldLink "YesterdayScale$Port" (85 : Nat) "YesterdayScale$Thing" "weight" "I") ∈ gT := gT_in 530 (by decide +kernel) (by decide +kernel)
set_option maxRecDepth 20000 in
theorem tSup_X1 : (Jvm.Cond.superclass "YesterdayScale$Fish" "YesterdayScale$Salt") ∈ gT := gT_in 535 (by decide +kernel) (by decide +kernel)
set_option maxRecDepth 20000 in
theorem tC_X2_67 : (Jvm.Cond.classLink "YesterdayScale$Port" (67 : Nat) "YesterdayScale$Wool") ∈ gT := gT_in 536 (by decide +kernel) (by decide +kernel)
set_option maxRecDepth 20000 in
theorem tIns_X9 : (Jvm.Cond.instantiable "YesterdayScale$Wool" (2 : Nat)) ∈ gT := gT_in 537 (by decide +kernel) (by decide +kernel)
set_option maxRecDepth 20000 in
theorem tM_X2_69 : (Jvm.Cond.methodLink "YesterdayScale$Port" (69 : Nat) ({ cls := "YesterdayScale$Wool", name := "<init>", desc := "(II)V" } : Jvm.MethodName)) ∈ gT := gT_in 538 (by decide +kernel) (by decide +kernel)
set_option maxRecDepth 20000 in
theorem tI_X9_init : (Jvm.Cond.instanceMethod ({ cls := "YesterdayScale$Wool", name := "<init>", desc := "(II)V" } : Jvm.MethodName)) ∈ gT := gT_in 539 (by decide +kernel) (by decide +kernel)
set_option maxRecDepth 20000 in
theorem tY_X9_init : (Jvm.Cond.code ({ cls := "YesterdayScale$Wool", name := "<init>", desc := "(II)V" } : Jvm.MethodName) prog_11_method_1_code (3 : Nat) (Option.none : Option Jvm.ClassFile.FieldType)) ∈ gT := gT_in 540 (by decide +kernel) (by decide +kernel)
set_option maxRecDepth 20000 in
theorem tM_X9_1 : (Jvm.Cond.methodLink "YesterdayScale$Wool" (1 : Nat) ({ cls := "YesterdayScale$Salt", name := "<init>", desc := "(II)V" } : Jvm.MethodName)) ∈ gT := gT_in 541 (by decide +kernel) (by decide +kernel)
set_option maxRecDepth 20000 in
theorem tSup_X9 : (Jvm.Cond.superclass "YesterdayScale$Wool" "YesterdayScale$Salt") ∈ gT := gT_in 544 (by decide +kernel) (by decide +kernel)
set_option maxRecDepth 20000 in
theorem tC_X2_56 : (Jvm.Cond.classLink "YesterdayScale$Port" (56 : Nat) "YesterdayScale$Stone") ∈ gT := gT_in 545 (by decide +kernel) (by decide +kernel)
set_option maxRecDepth 20000 in
theorem tIns_X5 : (Jvm.Cond.instantiable "YesterdayScale$Stone" (2 : Nat)) ∈ gT := gT_in 546 (by decide +kernel) (by decide +kernel)
set_option maxRecDepth 20000 in
theorem tM_X2_70 : (Jvm.Cond.methodLink "YesterdayScale$Port" (70 : Nat) ({ cls := "YesterdayScale$Stone", name := "<init>", desc := "(II)V" } : Jvm.MethodName)) ∈ gT := gT_in 547 (by decide +kernel) (by decide +kernel)
set_option maxRecDepth 20000 in
theorem tI_X5_init : (Jvm.Cond.instanceMethod ({ cls := "YesterdayScale$Stone", name := "<init>", desc := "(II)V" } : Jvm.MethodName)) ∈ gT := gT_in 548 (by decide +kernel) (by decide +kernel)
set_option maxRecDepth 20000 in
theorem tY_X5_init : (Jvm.Cond.code ({ cls := "YesterdayScale$Stone", name := "<init>", desc := "(II)V" } : Jvm.MethodName) prog_7_method_1_code (3 : Nat) (Option.none : Option Jvm.ClassFile.FieldType)) ∈ gT := gT_in 549 (by decide +kernel) (by decide +kernel)
set_option maxRecDepth 20000 in
theorem tM_X5_1 : (Jvm.Cond.methodLink "YesterdayScale$Stone" (1 : Nat) ({ cls := "YesterdayScale$Thing", name := "<init>", desc := "(II)V" } : Jvm.MethodName)) ∈ gT := gT_in 550 (by decide +kernel) (by decide +kernel)
set_option maxRecDepth 20000 in
theorem tSup_X5 : (Jvm.Cond.superclass "YesterdayScale$Stone" "YesterdayScale$Thing") ∈ gT := gT_in 553 (by decide +kernel) (by decide +kernel)
set_option maxRecDepth 20000 in
theorem tC_X2_71 : (Jvm.Cond.classLink "YesterdayScale$Port" (71 : Nat) "YesterdayScale$Whale") ∈ gT := gT_in 554 (by decide +kernel) (by decide +kernel)
set_option maxRecDepth 20000 in
theorem tIns_X8 : (Jvm.Cond.instantiable "YesterdayScale$Whale" (2 : Nat)) ∈ gT := gT_in 555 (by decide +kernel) (by decide +kernel)
set_option maxRecDepth 20000 in
theorem tM_X2_73 : (Jvm.Cond.methodLink "YesterdayScale$Port" (73 : Nat) ({ cls := "YesterdayScale$Whale", name := "<init>", desc := "(II)V" } : Jvm.MethodName)) ∈ gT := gT_in 556 (by decide +kernel) (by decide +kernel)
set_option maxRecDepth 20000 in
theorem tI_X8_init : (Jvm.Cond.instanceMethod ({ cls := "YesterdayScale$Whale", name := "<init>", desc := "(II)V" } : Jvm.MethodName)) ∈ gT := gT_in 557 (by decide +kernel) (by decide +kernel)
set_option maxRecDepth 20000 in
theorem tY_X8_init : (Jvm.Cond.code ({ cls := "YesterdayScale$Whale", name := "<init>", desc := "(II)V" } : Jvm.MethodName) prog_10_method_1_code (3 : Nat) (Option.none : Option Jvm.ClassFile.FieldType)) ∈ gT := gT_in 558 (by decide +kernel) (by decide +kernel)
set_option maxRecDepth 20000 in
theorem tM_X8_1 : (Jvm.Cond.methodLink "YesterdayScale$Whale" (1 : Nat) ({ cls := "YesterdayScale$Stone", name := "<init>", desc := "(II)V" } : Jvm.MethodName)) ∈ gT := gT_in 559 (by decide +kernel) (by decide +kernel)
set_option maxRecDepth 20000 in
theorem tSup_X8 : (Jvm.Cond.superclass "YesterdayScale$Whale" "YesterdayScale$Stone") ∈ gT := gT_in 562 (by decide +kernel) (by decide +kernel)
set_option maxRecDepth 20000 in
theorem tC_X2_74 : (Jvm.Cond.classLink "YesterdayScale$Port" (74 : Nat) "YesterdayScale$Salt") ∈ gT := gT_in 563 (by decide +kernel) (by decide +kernel)
set_option maxRecDepth 20000 in
theorem tIns_X4 : (Jvm.Cond.instantiable "YesterdayScale$Salt" (2 : Nat)) ∈ gT := gT_in 564 (by decide +kernel) (by decide +kernel)
set_option maxRecDepth 20000 in
theorem tM_X2_76 : (Jvm.Cond.methodLink "YesterdayScale$Port" (76 : Nat) ({ cls := "YesterdayScale$Salt", name := "<init>", desc := "(II)V" } : Jvm.MethodName)) ∈ gT := gT_in 565 (by decide +kernel) (by decide +kernel)
set_option maxRecDepth 20000 in
theorem tSup_X4 : (Jvm.Cond.superclass "YesterdayScale$Salt" "YesterdayScale$Thing") ∈ gT := gT_in 568 (by decide +kernel) (by decide +kernel)
set_option maxRecDepth 20000 in
theorem tM_X11_120 : (Jvm.Cond.methodLink "YesterdayScale" (120 : Nat) ({ cls := "YesterdayScale$Port", name := "become", desc := "(LYesterdayScale$Port;)V" } : Jvm.MethodName)) ∈ gT := gT_in 569 (by decide +kernel) (by decide +kernel)
set_option maxRecDepth 20000 in
theorem tI_X2_become : (Jvm.Cond.instanceMethod ({ cls := "YesterdayScale$Port", name := "become", desc := "(LYesterdayScale$Port;)V" } : Jvm.MethodName)) ∈ gT := gT_in 570 (by decide +kernel) (by decide +kernel)
set_option maxRecDepth 20000 in
theorem tSel_X2_X2_X2_become : (Jvm.Cond.selects "YesterdayScale$Port" ({ cls := "YesterdayScale$Port", name := "become", desc := "(LYesterdayScale$Port;)V" } : Jvm.MethodName) ({ cls := "YesterdayScale$Port", name := "become", desc := "(LYesterdayScale$Port;)V" } : Jvm.MethodName)) ∈ gT := gT_in 571 (by decide +kernel) (by decide +kernel)
set_option maxRecDepth 20000 in
theorem tY_X2_become : (Jvm.Cond.code ({ cls := "YesterdayScale$Port", name := "become", desc := "(LYesterdayScale$Port;)V" } : Jvm.MethodName) prog_4_method_3_code (3 : Nat) (Option.none : Option Jvm.ClassFile.FieldType)) ∈ gT := gT_in 572 (by decide +kernel) (by decide +kernel)
set_option maxRecDepth 20000 in
theorem tM_X2_50 : (Jvm.Cond.methodLink "YesterdayScale$Port" (50 : Nat) ({ cls := "java/lang/System", name := "arraycopy", desc := "(Ljava/lang/Object;ILjava/lang/Object;II)V" } : Jvm.MethodName)) ∈ gT := gT_in 573 (by decide +kernel) (by decide +kernel)
set_option maxRecDepth 20000 in
theorem tM_X11_124 : (Jvm.Cond.methodLink "YesterdayScale" (124 : Nat) ({ cls := "YesterdayScale$Worlds", name := "forget", desc := "()V" } : Jvm.MethodName)) ∈ gT := gT_in 574 (by decide +kernel) (by decide +kernel)
set_option maxRecDepth 20000 in
theorem tI_X10_forget : (Jvm.Cond.instanceMethod ({ cls := "YesterdayScale$Worlds", name := "forget", desc := "()V" } : Jvm.MethodName)) ∈ gT := gT_in 575 (by decide +kernel) (by decide +kernel)
set_option maxRecDepth 20000 in
theorem tSel_X10_X10_X10_forget : (Jvm.Cond.selects "YesterdayScale$Worlds" ({ cls := "YesterdayScale$Worlds", name := "forget", desc := "()V" } : Jvm.MethodName) ({ cls := "YesterdayScale$Worlds", name := "forget", desc := "()V" } : Jvm.MethodName)) ∈ gT := gT_in 576 (by decide +kernel) (by decide +kernel)
set_option maxRecDepth 20000 in
theorem tY_X10_forget : (Jvm.Cond.code ({ cls := "YesterdayScale$Worlds", name := "forget", desc := "()V" } : Jvm.MethodName) prog_12_method_16_code (1 : Nat) (Option.none : Option Jvm.ClassFile.FieldType)) ∈ gT := gT_in 577 (by decide +kernel) (by decide +kernel)
set_option maxRecDepth 20000 in
theorem tM_L_44 : (Jvm.Cond.methodLink "YesterdayScaleLaw" (44 : Nat) ({ cls := "YesterdayScale", name := "fault", desc := "()I" } : Jvm.MethodName)) ∈ gT := gT_in 578 (by decide +kernel) (by decide +kernel)
set_option maxRecDepth 20000 in
theorem tI_X11_fault : (Jvm.Cond.instanceMethod ({ cls := "YesterdayScale", name := "fault", desc := "()I" } : Jvm.MethodName)) ∈ gT := gT_in 579 (by decide +kernel) (by decide +kernel)
set_option maxRecDepth 20000 in
theorem tSel_X11_X11_X11_fault : (Jvm.Cond.selects "YesterdayScale" ({ cls := "YesterdayScale", name := "fault", desc := "()I" } : Jvm.MethodName) ({ cls := "YesterdayScale", name := "fault", desc := "()I" } : Jvm.MethodName)) ∈ gT := gT_in 580 (by decide +kernel) (by decide +kernel)
set_option maxRecDepth 20000 in
theorem tY_X11_fault : (Jvm.Cond.code ({ cls := "YesterdayScale", name := "fault", desc := "()I" } : Jvm.MethodName) prog_1_method_8_code (1 : Nat) (Option.some Jvm.ClassFile.FieldType.int)) ∈ gT := gT_in 581 (by decide +kernel) (by decide +kernel)
set_option maxRecDepth 20000 in
theorem tM_L_48 : (Jvm.Cond.methodLink "YesterdayScaleLaw" (48 : Nat) ({ cls := "YesterdayScale", name := "day", desc := "(I)I" } : Jvm.MethodName)) ∈ gT := gT_in 582 (by decide +kernel) (by decide +kernel)
set_option maxRecDepth 20000 in
theorem tI_X11_day : (Jvm.Cond.instanceMethod ({ cls := "YesterdayScale", name := "day", desc := "(I)I" } : Jvm.MethodName)) ∈ gT := gT_in 583 (by decide +kernel) (by decide +kernel)
set_option maxRecDepth 20000 in
theorem tSel_X11_X11_X11_day : (Jvm.Cond.selects "YesterdayScale" ({ cls := "YesterdayScale", name := "day", desc := "(I)I" } : Jvm.MethodName) ({ cls := "YesterdayScale", name := "day", desc := "(I)I" } : Jvm.MethodName)) ∈ gT := gT_in 584 (by decide +kernel) (by decide +kernel)
set_option maxRecDepth 20000 in
theorem tY_X11_day : (Jvm.Cond.code ({ cls := "YesterdayScale", name := "day", desc := "(I)I" } : Jvm.MethodName) prog_1_method_9_code (2 : Nat) (Option.some Jvm.ClassFile.FieldType.int)) ∈ gT := gT_in 585 (by decide +kernel) (by decide +kernel)
set_option maxRecDepth 20000 in
theorem tK_X11_131 : (Jvm.Cond.constant "YesterdayScale" (131 : Nat) (-1000002 : Int32)) ∈ gT := gT_in 586 (by decide +kernel) (by decide +kernel)
set_option maxRecDepth 20000 in
theorem tM_X11_132 : (Jvm.Cond.methodLink "YesterdayScale" (132 : Nat) ({ cls := "YesterdayScale$Port", name := "canLay", desc := "(I)Z" } : Jvm.MethodName)) ∈ gT := gT_in 587 (by decide +kernel) (by decide +kernel)
set_option maxRecDepth 20000 in
theorem tI_X2_canLay : (Jvm.Cond.instanceMethod ({ cls := "YesterdayScale$Port", name := "canLay", desc := "(I)Z" } : Jvm.MethodName)) ∈ gT := gT_in 588 (by decide +kernel) (by decide +kernel)
set_option maxRecDepth 20000 in
theorem tSel_X2_X2_X2_canLay : (Jvm.Cond.selects "YesterdayScale$Port" ({ cls := "YesterdayScale$Port", name := "canLay", desc := "(I)Z" } : Jvm.MethodName) ({ cls := "YesterdayScale$Port", name := "canLay", desc := "(I)Z" } : Jvm.MethodName)) ∈ gT := gT_in 589 (by decide +kernel) (by decide +kernel)
set_option maxRecDepth 20000 in
theorem tY_X2_canLay : (Jvm.Cond.code ({ cls := "YesterdayScale$Port", name := "canLay", desc := "(I)Z" } : Jvm.MethodName) prog_4_method_9_code (2 : Nat) (Option.some Jvm.ClassFile.FieldType.boolean)) ∈ gT := gT_in 590 (by decide +kernel) (by decide +kernel)
set_option maxRecDepth 20000 in
theorem tM_X2_77 : (Jvm.Cond.methodLink "YesterdayScale$Port" (77 : Nat) ({ cls := "YesterdayScale$Port", name := "allThings", desc := "()I" } : Jvm.MethodName)) ∈ gT := gT_in 591 (by decide +kernel) (by decide +kernel)
set_option maxRecDepth 20000 in
theorem tM_X11_135 : (Jvm.Cond.methodLink "YesterdayScale" (135 : Nat) ({ cls := "YesterdayScale$Port", name := "addDay", desc := "(I)V" } : Jvm.MethodName)) ∈ gT := gT_in 592 (by decide +kernel) (by decide +kernel)
set_option maxRecDepth 20000 in
theorem tM_X11_139 : (Jvm.Cond.methodLink "YesterdayScale" (139 : Nat) ({ cls := "YesterdayScale$Port", name := "shownOn", desc := "(I)I" } : Jvm.MethodName)) ∈ gT := gT_in 593 (by decide +kernel) (by decide +kernel)
set_option maxRecDepth 20000 in
theorem tI_X2_shownOn : (Jvm.Cond.instanceMethod ({ cls := "YesterdayScale$Port", name := "shownOn", desc := "(I)I" } : Jvm.MethodName)) ∈ gT := gT_in 594 (by decide +kernel) (by decide +kernel)
set_option maxRecDepth 20000 in
theorem tSel_X2_X2_X2_shownOn : (Jvm.Cond.selects "YesterdayScale$Port" ({ cls := "YesterdayScale$Port", name := "shownOn", desc := "(I)I" } : Jvm.MethodName) ({ cls := "YesterdayScale$Port", name := "shownOn", desc := "(I)I" } : Jvm.MethodName)) ∈ gT := gT_in 595 (by decide +kernel) (by decide +kernel)
set_option maxRecDepth 20000 in
theorem tY_X2_shownOn : (Jvm.Cond.code ({ cls := "YesterdayScale$Port", name := "shownOn", desc := "(I)I" } : Jvm.MethodName) prog_4_method_16_code (2 : Nat) (Option.some Jvm.ClassFile.FieldType.int)) ∈ gT := gT_in 596 (by decide +kernel) (by decide +kernel)
set_option maxRecDepth 20000 in
theorem tM_X2_96 : (Jvm.Cond.methodLink "YesterdayScale$Port" (96 : Nat) ({ cls := "YesterdayScale$Port", name := "shownBy", desc := "(IIII)I" } : Jvm.MethodName)) ∈ gT := gT_in 597 (by decide +kernel) (by decide +kernel)
set_option maxRecDepth 20000 in
theorem tI_X2_shownBy : (Jvm.Cond.instanceMethod ({ cls := "YesterdayScale$Port", name := "shownBy", desc := "(IIII)I" } : Jvm.MethodName)) ∈ gT := gT_in 599 (by decide +kernel) (by decide +kernel)
set_option maxRecDepth 20000 in
theorem tY_X2_shownBy : (Jvm.Cond.code ({ cls := "YesterdayScale$Port", name := "shownBy", desc := "(IIII)I" } : Jvm.MethodName) prog_4_method_17_code (9 : Nat) (Option.some Jvm.ClassFile.FieldType.int)) ∈ gT := gT_in 600 (by decide +kernel) (by decide +kernel)
set_option maxRecDepth 20000 in
theorem tM_X2_100 : (Jvm.Cond.methodLink "YesterdayScale$Port" (100 : Nat) ({ cls := "YesterdayScale$Port", name := "reachOf", desc := "(II)I" } : Jvm.MethodName)) ∈ gT := gT_in 601 (by decide +kernel) (by decide +kernel)
set_option maxRecDepth 20000 in
theorem tI_X2_reachOf : (Jvm.Cond.instanceMethod ({ cls := "YesterdayScale$Port", name := "reachOf", desc := "(II)I" } : Jvm.MethodName)) ∈ gT := gT_in 602 (by decide +kernel) (by decide +kernel)
set_option maxRecDepth 20000 in
theorem tSel_X2_X2_X2_reachOf : (Jvm.Cond.selects "YesterdayScale$Port" ({ cls := "YesterdayScale$Port", name := "reachOf", desc := "(II)I" } : Jvm.MethodName) ({ cls := "YesterdayScale$Port", name := "reachOf", desc := "(II)I" } : Jvm.MethodName)) ∈ gT := gT_in 603 (by decide +kernel) (by decide +kernel)
set_option maxRecDepth 20000 in
theorem tY_X2_reachOf : (Jvm.Cond.code ({ cls := "YesterdayScale$Port", name := "reachOf", desc := "(II)I" } : Jvm.MethodName) prog_4_method_15_code (4 : Nat) (Option.some Jvm.ClassFile.FieldType.int)) ∈ gT := gT_in 604 (by decide +kernel) (by decide +kernel)
set_option maxRecDepth 20000 in
theorem tM_X2_92 : (Jvm.Cond.methodLink "YesterdayScale$Port" (92 : Nat) ({ cls := "YesterdayScale$Port", name := "isFresh", desc := "(I)Z" } : Jvm.MethodName)) ∈ gT := gT_in 605 (by decide +kernel) (by decide +kernel)
set_option maxRecDepth 20000 in
theorem tI_X2_isFresh : (Jvm.Cond.instanceMethod ({ cls := "YesterdayScale$Port", name := "isFresh", desc := "(I)Z" } : Jvm.MethodName)) ∈ gT := gT_in 606 (by decide +kernel) (by decide +kernel)
set_option maxRecDepth 20000 in
theorem tSel_X2_X2_X2_isFresh : (Jvm.Cond.selects "YesterdayScale$Port" ({ cls := "YesterdayScale$Port", name := "isFresh", desc := "(I)Z" } : Jvm.MethodName) ({ cls := "YesterdayScale$Port", name := "isFresh", desc := "(I)Z" } : Jvm.MethodName)) ∈ gT := gT_in 607 (by decide +kernel) (by decide +kernel)
set_option maxRecDepth 20000 in
theorem tY_X2_isFresh : (Jvm.Cond.code ({ cls := "YesterdayScale$Port", name := "isFresh", desc := "(I)Z" } : Jvm.MethodName) prog_4_method_13_code (2 : Nat) (Option.some Jvm.ClassFile.FieldType.boolean)) ∈ gT := gT_in 608 (by decide +kernel) (by decide +kernel)
set_option maxRecDepth 20000 in
theorem tM_X2_103 : (Jvm.Cond.methodLink "YesterdayScale$Port" (103 : Nat) ({ cls := "YesterdayScale$Port", name := "loadOn", desc := "(I)I" } : Jvm.MethodName)) ∈ gT := gT_in 609 (by decide +kernel) (by decide +kernel)
set_option maxRecDepth 20000 in
theorem tI_X2_loadOn : (Jvm.Cond.instanceMethod ({ cls := "YesterdayScale$Port", name := "loadOn", desc := "(I)I" } : Jvm.MethodName)) ∈ gT := gT_in 610 (by decide +kernel) (by decide +kernel)
set_option maxRecDepth 20000 in
theorem tSel_X2_X2_X2_loadOn : (Jvm.Cond.selects "YesterdayScale$Port" ({ cls := "YesterdayScale$Port", name := "loadOn", desc := "(I)I" } : Jvm.MethodName) ({ cls := "YesterdayScale$Port", name := "loadOn", desc := "(I)I" } : Jvm.MethodName)) ∈ gT := gT_in 611 (by decide +kernel) (by decide +kernel)
set_option maxRecDepth 20000 in
theorem tY_X2_loadOn : (Jvm.Cond.code ({ cls := "YesterdayScale$Port", name := "loadOn", desc := "(I)I" } : Jvm.MethodName) prog_4_method_14_code (5 : Nat) (Option.some Jvm.ClassFile.FieldType.int)) ∈ gT := gT_in 612 (by decide +kernel) (by decide +kernel)
set_option maxRecDepth 20000 in
theorem tM_X2_81 : (Jvm.Cond.methodLink "YesterdayScale$Port" (81 : Nat) ({ cls := "YesterdayScale$Port", name := "liesOn", desc := "(II)Z" } : Jvm.MethodName)) ∈ gT := gT_in 613 (by decide +kernel) (by decide +kernel)
set_option maxRecDepth 20000 in
theorem tI_X2_liesOn : (Jvm.Cond.instanceMethod ({ cls := "YesterdayScale$Port", name := "liesOn", desc := "(II)Z" } : Jvm.MethodName)) ∈ gT := gT_in 614 (by decide +kernel) (by decide +kernel)
set_option maxRecDepth 20000 in
theorem tSel_X2_X2_X2_liesOn : (Jvm.Cond.selects "YesterdayScale$Port" ({ cls := "YesterdayScale$Port", name := "liesOn", desc := "(II)Z" } : Jvm.MethodName) ({ cls := "YesterdayScale$Port", name := "liesOn", desc := "(II)Z" } : Jvm.MethodName)) ∈ gT := gT_in 615 (by decide +kernel) (by decide +kernel)
set_option maxRecDepth 20000 in
theorem tY_X2_liesOn : (Jvm.Cond.code ({ cls := "YesterdayScale$Port", name := "liesOn", desc := "(II)Z" } : Jvm.MethodName) prog_4_method_12_code (3 : Nat) (Option.some Jvm.ClassFile.FieldType.boolean)) ∈ gT := gT_in 616 (by decide +kernel) (by decide +kernel)
set_option maxRecDepth 20000 in
theorem tM_X2_88 : (Jvm.Cond.methodLink "YesterdayScale$Port" (88 : Nat) ({ cls := "YesterdayScale$Thing", name := "heavyWith", desc := "(II)I" } : Jvm.MethodName)) ∈ gT := gT_in 617 (by decide +kernel) (by decide +kernel)
set_option maxRecDepth 20000 in
theorem tI_X7_heavyWith : (Jvm.Cond.instanceMethod ({ cls := "YesterdayScale$Thing", name := "heavyWith", desc := "(II)I" } : Jvm.MethodName)) ∈ gT := gT_in 618 (by decide +kernel) (by decide +kernel)
set_option maxRecDepth 20000 in
theorem tSam_X7_X7_heavyWith : (Jvm.Cond.sameMethod "YesterdayScale$Thing" "YesterdayScale$Thing" "heavyWith" "(II)I") ∈ gT := gT_in 619 (by decide +kernel) (by decide +kernel)
set_option maxRecDepth 20000 in
theorem tSel_X1_X7_X1_heavyWith : (Jvm.Cond.selects "YesterdayScale$Fish" ({ cls := "YesterdayScale$Thing", name := "heavyWith", desc := "(II)I" } : Jvm.MethodName) ({ cls := "YesterdayScale$Fish", name := "heavyWith", desc := "(II)I" } : Jvm.MethodName)) ∈ gT := gT_in 620 (by decide +kernel) (by decide +kernel)
set_option maxRecDepth 20000 in
theorem tI_X1_heavyWith : (Jvm.Cond.instanceMethod ({ cls := "YesterdayScale$Fish", name := "heavyWith", desc := "(II)I" } : Jvm.MethodName)) ∈ gT := gT_in 621 (by decide +kernel) (by decide +kernel)
set_option maxRecDepth 20000 in
theorem tY_X1_heavyWith : (Jvm.Cond.code ({ cls := "YesterdayScale$Fish", name := "heavyWith", desc := "(II)I" } : Jvm.MethodName) prog_3_method_3_code (4 : Nat) (Option.some Jvm.ClassFile.FieldType.int)) ∈ gT := gT_in 622 (by decide +kernel) (by decide +kernel)
set_option maxRecDepth 20000 in
theorem tSel_X4_X7_X7_heavyWith : (Jvm.Cond.selects "YesterdayScale$Salt" ({ cls := "YesterdayScale$Thing", name := "heavyWith", desc := "(II)I" } : Jvm.MethodName) ({ cls := "YesterdayScale$Thing", name := "heavyWith", desc := "(II)I" } : Jvm.MethodName)) ∈ gT := gT_in 623 (by decide +kernel) (by decide +kernel)
set_option maxRecDepth 20000 in
theorem tSel_X5_X7_X7_heavyWith : (Jvm.Cond.selects "YesterdayScale$Stone" ({ cls := "YesterdayScale$Thing", name := "heavyWith", desc := "(II)I" } : Jvm.MethodName) ({ cls := "YesterdayScale$Thing", name := "heavyWith", desc := "(II)I" } : Jvm.MethodName)) ∈ gT := gT_in 624 (by decide +kernel) (by decide +kernel)
set_option maxRecDepth 20000 in
theorem tSel_X8_X7_X8_heavyWith : (Jvm.Cond.selects "YesterdayScale$Whale" ({ cls := "YesterdayScale$Thing", name := "heavyWith", desc := "(II)I" } : Jvm.MethodName) ({ cls := "YesterdayScale$Whale", name := "heavyWith", desc := "(II)I" } : Jvm.MethodName)) ∈ gT := gT_in 625 (by decide +kernel) (by decide +kernel)
set_option maxRecDepth 20000 in
theorem tI_X8_heavyWith : (Jvm.Cond.instanceMethod ({ cls := "YesterdayScale$Whale", name := "heavyWith", desc := "(II)I" } : Jvm.MethodName)) ∈ gT := gT_in 626 (by decide +kernel) (by decide +kernel)
set_option maxRecDepth 20000 in
theorem tY_X8_heavyWith : (Jvm.Cond.code ({ cls := "YesterdayScale$Whale", name := "heavyWith", desc := "(II)I" } : Jvm.MethodName) prog_10_method_3_code (3 : Nat) (Option.some Jvm.ClassFile.FieldType.int)) ∈ gT := gT_in 627 (by decide +kernel) (by decide +kernel)
set_option maxRecDepth 20000 in
theorem tSel_X9_X7_X9_heavyWith : (Jvm.Cond.selects "YesterdayScale$Wool" ({ cls := "YesterdayScale$Thing", name := "heavyWith", desc := "(II)I" } : Jvm.MethodName) ({ cls := "YesterdayScale$Wool", name := "heavyWith", desc := "(II)I" } : Jvm.MethodName)) ∈ gT := gT_in 628 (by decide +kernel) (by decide +kernel)
set_option maxRecDepth 20000 in
theorem tI_X9_heavyWith : (Jvm.Cond.instanceMethod ({ cls := "YesterdayScale$Wool", name := "heavyWith", desc := "(II)I" } : Jvm.MethodName)) ∈ gT := gT_in 629 (by decide +kernel) (by decide +kernel)
set_option maxRecDepth 20000 in
theorem tY_X9_heavyWith : (Jvm.Cond.code ({ cls := "YesterdayScale$Wool", name := "heavyWith", desc := "(II)I" } : Jvm.MethodName) prog_11_method_3_code (3 : Nat) (Option.some Jvm.ClassFile.FieldType.int)) ∈ gT := gT_in 630 (by decide +kernel) (by decide +kernel)
set_option maxRecDepth 20000 in
theorem tY_X7_heavyWith : (Jvm.Cond.code ({ cls := "YesterdayScale$Thing", name := "heavyWith", desc := "(II)I" } : Jvm.MethodName) prog_9_method_3_code (3 : Nat) (Option.some Jvm.ClassFile.FieldType.int)) ∈ gT := gT_in 631 (by decide +kernel) (by decide +kernel)
set_option maxRecDepth 20000 in
theorem tM_X2_107 : (Jvm.Cond.methodLink "YesterdayScale$Port" (107 : Nat) ({ cls := "YesterdayScale$Port", name := "leftOver", desc := "(II)I" } : Jvm.MethodName)) ∈ gT := gT_in 632 (by decide +kernel) (by decide +kernel)
set_option maxRecDepth 20000 in
theorem tS_X2_leftOver : (Jvm.Cond.static ({ cls := "YesterdayScale$Port", name := "leftOver", desc := "(II)I" } : Jvm.MethodName)) ∈ gT := gT_in 633 (by decide +kernel) (by decide +kernel)
set_option maxRecDepth 20000 in
theorem tY_X2_leftOver : (Jvm.Cond.code ({ cls := "YesterdayScale$Port", name := "leftOver", desc := "(II)I" } : Jvm.MethodName) prog_4_method_21_code (2 : Nat) (Option.some Jvm.ClassFile.FieldType.int)) ∈ gT := gT_in 634 (by decide +kernel) (by decide +kernel)
set_option maxRecDepth 20000 in
theorem tM_L_52 : (Jvm.Cond.methodLink "YesterdayScaleLaw" (52 : Nat) ({ cls := "YesterdayScale", name := "undo", desc := "()I" } : Jvm.MethodName)) ∈ gT := gT_in 635 (by decide +kernel) (by decide +kernel)
set_option maxRecDepth 20000 in
theorem tI_X11_undo : (Jvm.Cond.instanceMethod ({ cls := "YesterdayScale", name := "undo", desc := "()I" } : Jvm.MethodName)) ∈ gT := gT_in 636 (by decide +kernel) (by decide +kernel)
set_option maxRecDepth 20000 in
theorem tSel_X11_X11_X11_undo : (Jvm.Cond.selects "YesterdayScale" ({ cls := "YesterdayScale", name := "undo", desc := "()I" } : Jvm.MethodName) ({ cls := "YesterdayScale", name := "undo", desc := "()I" } : Jvm.MethodName)) ∈ gT := gT_in 637 (by decide +kernel) (by decide +kernel)
set_option maxRecDepth 20000 in
theorem tY_X11_undo : (Jvm.Cond.code ({ cls := "YesterdayScale", name := "undo", desc := "()I" } : Jvm.MethodName) prog_1_method_10_code (1 : Nat) (Option.some Jvm.ClassFile.FieldType.int)) ∈ gT := gT_in 638 (by decide +kernel) (by decide +kernel)
set_option maxRecDepth 20000 in
theorem tM_L_56 : (Jvm.Cond.methodLink "YesterdayScaleLaw" (56 : Nat) ({ cls := "YesterdayScale", name := "shown", desc := "(II)I" } : Jvm.MethodName)) ∈ gT := gT_in 639 (by decide +kernel) (by decide +kernel)
set_option maxRecDepth 20000 in
theorem tI_X11_shown : (Jvm.Cond.instanceMethod ({ cls := "YesterdayScale", name := "shown", desc := "(II)I" } : Jvm.MethodName)) ∈ gT := gT_in 640 (by decide +kernel) (by decide +kernel)
set_option maxRecDepth 20000 in
theorem tSel_X11_X11_X11_shown : (Jvm.Cond.selects "YesterdayScale" ({ cls := "YesterdayScale", name := "shown", desc := "(II)I" } : Jvm.MethodName) ({ cls := "YesterdayScale", name := "shown", desc := "(II)I" } : Jvm.MethodName)) ∈ gT := gT_in 641 (by decide +kernel) (by decide +kernel)
set_option maxRecDepth 20000 in
theorem tY_X11_shown : (Jvm.Cond.code ({ cls := "YesterdayScale", name := "shown", desc := "(II)I" } : Jvm.MethodName) prog_1_method_11_code (3 : Nat) (Option.some Jvm.ClassFile.FieldType.int)) ∈ gT := gT_in 642 (by decide +kernel) (by decide +kernel)
set_option maxRecDepth 20000 in
theorem tM_X11_142 : (Jvm.Cond.methodLink "YesterdayScale" (142 : Nat) ({ cls := "YesterdayScale$Port", name := "hasDay", desc := "(I)Z" } : Jvm.MethodName)) ∈ gT := gT_in 643 (by decide +kernel) (by decide +kernel)
set_option maxRecDepth 20000 in
theorem tI_X2_hasDay : (Jvm.Cond.instanceMethod ({ cls := "YesterdayScale$Port", name := "hasDay", desc := "(I)Z" } : Jvm.MethodName)) ∈ gT := gT_in 644 (by decide +kernel) (by decide +kernel)
set_option maxRecDepth 20000 in
theorem tSel_X2_X2_X2_hasDay : (Jvm.Cond.selects "YesterdayScale$Port" ({ cls := "YesterdayScale$Port", name := "hasDay", desc := "(I)Z" } : Jvm.MethodName) ({ cls := "YesterdayScale$Port", name := "hasDay", desc := "(I)Z" } : Jvm.MethodName)) ∈ gT := gT_in 645 (by decide +kernel) (by decide +kernel)
set_option maxRecDepth 20000 in
theorem tY_X2_hasDay : (Jvm.Cond.code ({ cls := "YesterdayScale$Port", name := "hasDay", desc := "(I)Z" } : Jvm.MethodName) prog_4_method_11_code (2 : Nat) (Option.some Jvm.ClassFile.FieldType.boolean)) ∈ gT := gT_in 646 (by decide +kernel) (by decide +kernel)
set_option maxRecDepth 20000 in
theorem tM_X11_148 : (Jvm.Cond.methodLink "YesterdayScale" (148 : Nat) ({ cls := "YesterdayScale$Port", name := "loadOn", desc := "(I)I" } : Jvm.MethodName)) ∈ gT := gT_in 647 (by decide +kernel) (by decide +kernel)
set_option maxRecDepth 20000 in
theorem tM_X11_151 : (Jvm.Cond.methodLink "YesterdayScale" (151 : Nat) ({ cls := "YesterdayScale$Port", name := "isFresh", desc := "(I)Z" } : Jvm.MethodName)) ∈ gT := gT_in 648 (by decide +kernel) (by decide +kernel)
set_option maxRecDepth 20000 in
theorem tM_L_61 : (Jvm.Cond.methodLink "YesterdayScaleLaw" (61 : Nat) ({ cls := "YesterdayScale", name := "heavy", desc := "(II)I" } : Jvm.MethodName)) ∈ gT := gT_in 649 (by decide +kernel) (by decide +kernel)
set_option maxRecDepth 20000 in
theorem tI_X11_heavy : (Jvm.Cond.instanceMethod ({ cls := "YesterdayScale", name := "heavy", desc := "(II)I" } : Jvm.MethodName)) ∈ gT := gT_in 650 (by decide +kernel) (by decide +kernel)
set_option maxRecDepth 20000 in
theorem tSel_X11_X11_X11_heavy : (Jvm.Cond.selects "YesterdayScale" ({ cls := "YesterdayScale", name := "heavy", desc := "(II)I" } : Jvm.MethodName) ({ cls := "YesterdayScale", name := "heavy", desc := "(II)I" } : Jvm.MethodName)) ∈ gT := gT_in 651 (by decide +kernel) (by decide +kernel)
set_option maxRecDepth 20000 in
theorem tY_X11_heavy : (Jvm.Cond.code ({ cls := "YesterdayScale", name := "heavy", desc := "(II)I" } : Jvm.MethodName) prog_1_method_12_code (4 : Nat) (Option.some Jvm.ClassFile.FieldType.int)) ∈ gT := gT_in 652 (by decide +kernel) (by decide +kernel)
set_option maxRecDepth 20000 in
theorem tM_X11_154 : (Jvm.Cond.methodLink "YesterdayScale" (154 : Nat) ({ cls := "YesterdayScale$Port", name := "thingAt", desc := "(I)LYesterdayScale$Thing;" } : Jvm.MethodName)) ∈ gT := gT_in 653 (by decide +kernel) (by decide +kernel)
set_option maxRecDepth 20000 in
theorem tI_X2_thingAt : (Jvm.Cond.instanceMethod ({ cls := "YesterdayScale$Port", name := "thingAt", desc := "(I)LYesterdayScale$Thing;" } : Jvm.MethodName)) ∈ gT := gT_in 654 (by decide +kernel) (by decide +kernel)
set_option maxRecDepth 20000 in
theorem tSel_X2_X2_X2_thingAt : (Jvm.Cond.selects "YesterdayScale$Port" ({ cls := "YesterdayScale$Port", name := "thingAt", desc := "(I)LYesterdayScale$Thing;" } : Jvm.MethodName) ({ cls := "YesterdayScale$Port", name := "thingAt", desc := "(I)LYesterdayScale$Thing;" } : Jvm.MethodName)) ∈ gT := gT_in 655 (by decide +kernel) (by decide +kernel)
set_option maxRecDepth 20000 in
theorem tY_X2_thingAt : (Jvm.Cond.code ({ cls := "YesterdayScale$Port", name := "thingAt", desc := "(I)LYesterdayScale$Thing;" } : Jvm.MethodName) prog_4_method_10_code (2 : Nat) (Option.some (Jvm.ClassFile.FieldType.object "YesterdayScale$Thing"))) ∈ gT := gT_in 656 (by decide +kernel) (by decide +kernel)
set_option maxRecDepth 20000 in
theorem tM_X11_163 : (Jvm.Cond.methodLink "YesterdayScale" (163 : Nat) ({ cls := "YesterdayScale$Thing", name := "heavyWith", desc := "(II)I" } : Jvm.MethodName)) ∈ gT := gT_in 657 (by decide +kernel) (by decide +kernel)
set_option maxRecDepth 20000 in
theorem tM_L_65 : (Jvm.Cond.methodLink "YesterdayScaleLaw" (65 : Nat) ({ cls := "YesterdayScale", name := "next", desc := "(I)I" } : Jvm.MethodName)) ∈ gT := gT_in 658 (by decide +kernel) (by decide +kernel)
set_option maxRecDepth 20000 in
theorem tI_X11_next : (Jvm.Cond.instanceMethod ({ cls := "YesterdayScale", name := "next", desc := "(I)I" } : Jvm.MethodName)) ∈ gT := gT_in 659 (by decide +kernel) (by decide +kernel)
set_option maxRecDepth 20000 in
theorem tSel_X11_X11_X11_next : (Jvm.Cond.selects "YesterdayScale" ({ cls := "YesterdayScale", name := "next", desc := "(I)I" } : Jvm.MethodName) ({ cls := "YesterdayScale", name := "next", desc := "(I)I" } : Jvm.MethodName)) ∈ gT := gT_in 660 (by decide +kernel) (by decide +kernel)
set_option maxRecDepth 20000 in
theorem tY_X11_next : (Jvm.Cond.code ({ cls := "YesterdayScale", name := "next", desc := "(I)I" } : Jvm.MethodName) prog_1_method_13_code (2 : Nat) (Option.some Jvm.ClassFile.FieldType.int)) ∈ gT := gT_in 661 (by decide +kernel) (by decide +kernel)
set_option maxRecDepth 20000 in
theorem tM_L_69 : (Jvm.Cond.methodLink "YesterdayScaleLaw" (69 : Nat) ({ cls := "YesterdayScale", name := "fits", desc := "(III)I" } : Jvm.MethodName)) ∈ gT := gT_in 662 (by decide +kernel) (by decide +kernel)
set_option maxRecDepth 20000 in
theorem tI_X11_fits : (Jvm.Cond.instanceMethod ({ cls := "YesterdayScale", name := "fits", desc := "(III)I" } : Jvm.MethodName)) ∈ gT := gT_in 663 (by decide +kernel) (by decide +kernel)
set_option maxRecDepth 20000 in
theorem tSel_X11_X11_X11_fits : (Jvm.Cond.selects "YesterdayScale" ({ cls := "YesterdayScale", name := "fits", desc := "(III)I" } : Jvm.MethodName) ({ cls := "YesterdayScale", name := "fits", desc := "(III)I" } : Jvm.MethodName)) ∈ gT := gT_in 664 (by decide +kernel) (by decide +kernel)
set_option maxRecDepth 20000 in
theorem tY_X11_fits : (Jvm.Cond.code ({ cls := "YesterdayScale", name := "fits", desc := "(III)I" } : Jvm.MethodName) prog_1_method_14_code (7 : Nat) (Option.some Jvm.ClassFile.FieldType.int)) ∈ gT := gT_in 665 (by decide +kernel) (by decide +kernel)
set_option maxRecDepth 20000 in
theorem tM_X11_167 : (Jvm.Cond.methodLink "YesterdayScale" (167 : Nat) ({ cls := "YesterdayScale", name := "refusalToTell", desc := "(IZ)I" } : Jvm.MethodName)) ∈ gT := gT_in 666 (by decide +kernel) (by decide +kernel)
set_option maxRecDepth 20000 in
theorem tI_X11_refusalToTell : (Jvm.Cond.instanceMethod ({ cls := "YesterdayScale", name := "refusalToTell", desc := "(IZ)I" } : Jvm.MethodName)) ∈ gT := gT_in 668 (by decide +kernel) (by decide +kernel)
set_option maxRecDepth 20000 in
theorem tY_X11_refusalToTell : (Jvm.Cond.code ({ cls := "YesterdayScale", name := "refusalToTell", desc := "(IZ)I" } : Jvm.MethodName) prog_1_method_35_code (5 : Nat) (Option.some Jvm.ClassFile.FieldType.int)) ∈ gT := gT_in 669 (by decide +kernel) (by decide +kernel)
set_option maxRecDepth 20000 in
theorem tM_X11_171 : (Jvm.Cond.methodLink "YesterdayScale" (171 : Nat) ({ cls := "YesterdayScale$Worlds", name := "begin", desc := "(LYesterdayScale$Port;[I)V" } : Jvm.MethodName)) ∈ gT := gT_in 670 (by decide +kernel) (by decide +kernel)
set_option maxRecDepth 20000 in
theorem tI_X10_begin : (Jvm.Cond.instanceMethod ({ cls := "YesterdayScale$Worlds", name := "begin", desc := "(LYesterdayScale$Port;[I)V" } : Jvm.MethodName)) ∈ gT := gT_in 671 (by decide +kernel) (by decide +kernel)
set_option maxRecDepth 20000 in
theorem tSel_X10_X10_X10_begin : (Jvm.Cond.selects "YesterdayScale$Worlds" ({ cls := "YesterdayScale$Worlds", name := "begin", desc := "(LYesterdayScale$Port;[I)V" } : Jvm.MethodName) ({ cls := "YesterdayScale$Worlds", name := "begin", desc := "(LYesterdayScale$Port;[I)V" } : Jvm.MethodName)) ∈ gT := gT_in 672 (by decide +kernel) (by decide +kernel)
set_option maxRecDepth 20000 in
theorem tY_X10_begin : (Jvm.Cond.code ({ cls := "YesterdayScale$Worlds", name := "begin", desc := "(LYesterdayScale$Port;[I)V" } : Jvm.MethodName) prog_12_method_2_code (3 : Nat) (Option.none : Option Jvm.ClassFile.FieldType)) ∈ gT := gT_in 673 (by decide +kernel) (by decide +kernel)
set_option maxRecDepth 20000 in
theorem tM_X10_27 : (Jvm.Cond.methodLink "YesterdayScale$Worlds" (27 : Nat) ({ cls := "YesterdayScale$Worlds", name := "take", desc := "(LYesterdayScale$Port;)V" } : Jvm.MethodName)) ∈ gT := gT_in 674 (by decide +kernel) (by decide +kernel)
set_option maxRecDepth 20000 in
theorem tI_X10_take : (Jvm.Cond.instanceMethod ({ cls := "YesterdayScale$Worlds", name := "take", desc := "(LYesterdayScale$Port;)V" } : Jvm.MethodName)) ∈ gT := gT_in 676 (by decide +kernel) (by decide +kernel)
set_option maxRecDepth 20000 in
theorem tY_X10_take : (Jvm.Cond.code ({ cls := "YesterdayScale$Worlds", name := "take", desc := "(LYesterdayScale$Port;)V" } : Jvm.MethodName) prog_12_method_3_code (3 : Nat) (Option.none : Option Jvm.ClassFile.FieldType)) ∈ gT := gT_in 677 (by decide +kernel) (by decide +kernel)
set_option maxRecDepth 20000 in
theorem tM_X10_58 : (Jvm.Cond.methodLink "YesterdayScale$Worlds" (58 : Nat) ({ cls := "YesterdayScale$Worlds", name := "takeDay", desc := "(LYesterdayScale$Port;I)V" } : Jvm.MethodName)) ∈ gT := gT_in 678 (by decide +kernel) (by decide +kernel)
set_option maxRecDepth 20000 in
theorem tI_X10_takeDay : (Jvm.Cond.instanceMethod ({ cls := "YesterdayScale$Worlds", name := "takeDay", desc := "(LYesterdayScale$Port;I)V" } : Jvm.MethodName)) ∈ gT := gT_in 680 (by decide +kernel) (by decide +kernel)
set_option maxRecDepth 20000 in
theorem tY_X10_takeDay : (Jvm.Cond.code ({ cls := "YesterdayScale$Worlds", name := "takeDay", desc := "(LYesterdayScale$Port;I)V" } : Jvm.MethodName) prog_12_method_4_code (3 : Nat) (Option.none : Option Jvm.ClassFile.FieldType)) ∈ gT := gT_in 681 (by decide +kernel) (by decide +kernel)
set_option maxRecDepth 20000 in
theorem tM_X10_65 : (Jvm.Cond.methodLink "YesterdayScale$Worlds" (65 : Nat) ({ cls := "YesterdayScale$Port", name := "reachOf", desc := "(II)I" } : Jvm.MethodName)) ∈ gT := gT_in 682 (by decide +kernel) (by decide +kernel)
set_option maxRecDepth 20000 in
theorem tM_X10_69 : (Jvm.Cond.methodLink "YesterdayScale$Worlds" (69 : Nat) ({ cls := "YesterdayScale$Worlds", name := "fillPair", desc := "([ILYesterdayScale$Port;II)V" } : Jvm.MethodName)) ∈ gT := gT_in 683 (by decide +kernel) (by decide +kernel)
set_option maxRecDepth 20000 in
theorem tS_X10_fillPair : (Jvm.Cond.static ({ cls := "YesterdayScale$Worlds", name := "fillPair", desc := "([ILYesterdayScale$Port;II)V" } : Jvm.MethodName)) ∈ gT := gT_in 684 (by decide +kernel) (by decide +kernel)
set_option maxRecDepth 20000 in
theorem tY_X10_fillPair : (Jvm.Cond.code ({ cls := "YesterdayScale$Worlds", name := "fillPair", desc := "([ILYesterdayScale$Port;II)V" } : Jvm.MethodName) prog_12_method_5_code (8 : Nat) (Option.none : Option Jvm.ClassFile.FieldType)) ∈ gT := gT_in 685 (by decide +kernel) (by decide +kernel)
set_option maxRecDepth 20000 in
theorem tM_X10_73 : (Jvm.Cond.methodLink "YesterdayScale$Worlds" (73 : Nat) ({ cls := "YesterdayScale$Worlds", name := "heavyIn", desc := "(LYesterdayScale$Port;III)I" } : Jvm.MethodName)) ∈ gT := gT_in 686 (by decide +kernel) (by decide +kernel)
set_option maxRecDepth 20000 in
theorem tS_X10_heavyIn : (Jvm.Cond.static ({ cls := "YesterdayScale$Worlds", name := "heavyIn", desc := "(LYesterdayScale$Port;III)I" } : Jvm.MethodName)) ∈ gT := gT_in 687 (by decide +kernel) (by decide +kernel)
set_option maxRecDepth 20000 in
theorem tY_X10_heavyIn : (Jvm.Cond.code ({ cls := "YesterdayScale$Worlds", name := "heavyIn", desc := "(LYesterdayScale$Port;III)I" } : Jvm.MethodName) prog_12_method_6_code (5 : Nat) (Option.some Jvm.ClassFile.FieldType.int)) ∈ gT := gT_in 688 (by decide +kernel) (by decide +kernel)
set_option maxRecDepth 20000 in
theorem tM_X10_77 : (Jvm.Cond.methodLink "YesterdayScale$Worlds" (77 : Nat) ({ cls := "YesterdayScale$Port", name := "thingAt", desc := "(I)LYesterdayScale$Thing;" } : Jvm.MethodName)) ∈ gT := gT_in 689 (by decide +kernel) (by decide +kernel)
set_option maxRecDepth 20000 in
theorem tM_X10_81 : (Jvm.Cond.methodLink "YesterdayScale$Worlds" (81 : Nat) ({ cls := "YesterdayScale$Port", name := "liesOn", desc := "(II)Z" } : Jvm.MethodName)) ∈ gT := gT_in 690 (by decide +kernel) (by decide +kernel)
set_option maxRecDepth 20000 in
theorem tM_X10_85 : (Jvm.Cond.methodLink "YesterdayScale$Worlds" (85 : Nat) ({ cls := "YesterdayScale$Thing", name := "heavyWith", desc := "(II)I" } : Jvm.MethodName)) ∈ gT := gT_in 691 (by decide +kernel) (by decide +kernel)
set_option maxRecDepth 20000 in
theorem tM_X10_35 : (Jvm.Cond.methodLink "YesterdayScale$Worlds" (35 : Nat) ({ cls := "java/lang/System", name := "arraycopy", desc := "(Ljava/lang/Object;ILjava/lang/Object;II)V" } : Jvm.MethodName)) ∈ gT := gT_in 692 (by decide +kernel) (by decide +kernel)
set_option maxRecDepth 20000 in
theorem tM_X11_174 : (Jvm.Cond.methodLink "YesterdayScale" (174 : Nat) ({ cls := "YesterdayScale$Worlds", name := "howManyFit", desc := "()I" } : Jvm.MethodName)) ∈ gT := gT_in 693 (by decide +kernel) (by decide +kernel)
set_option maxRecDepth 20000 in
theorem tI_X10_howManyFit : (Jvm.Cond.instanceMethod ({ cls := "YesterdayScale$Worlds", name := "howManyFit", desc := "()I" } : Jvm.MethodName)) ∈ gT := gT_in 694 (by decide +kernel) (by decide +kernel)
set_option maxRecDepth 20000 in
theorem tSel_X10_X10_X10_howManyFit : (Jvm.Cond.selects "YesterdayScale$Worlds" ({ cls := "YesterdayScale$Worlds", name := "howManyFit", desc := "()I" } : Jvm.MethodName) ({ cls := "YesterdayScale$Worlds", name := "howManyFit", desc := "()I" } : Jvm.MethodName)) ∈ gT := gT_in 695 (by decide +kernel) (by decide +kernel)
set_option maxRecDepth 20000 in
theorem tY_X10_howManyFit : (Jvm.Cond.code ({ cls := "YesterdayScale$Worlds", name := "howManyFit", desc := "()I" } : Jvm.MethodName) prog_12_method_10_code (3 : Nat) (Option.some Jvm.ClassFile.FieldType.int)) ∈ gT := gT_in 696 (by decide +kernel) (by decide +kernel)
set_option maxRecDepth 20000 in
theorem tM_X10_96 : (Jvm.Cond.methodLink "YesterdayScale$Worlds" (96 : Nat) ({ cls := "YesterdayScale$Worlds", name := "isFitting", desc := "(I)Z" } : Jvm.MethodName)) ∈ gT := gT_in 697 (by decide +kernel) (by decide +kernel)
set_option maxRecDepth 20000 in
theorem tI_X10_isFitting : (Jvm.Cond.instanceMethod ({ cls := "YesterdayScale$Worlds", name := "isFitting", desc := "(I)Z" } : Jvm.MethodName)) ∈ gT := gT_in 699 (by decide +kernel) (by decide +kernel)
set_option maxRecDepth 20000 in
theorem tY_X10_isFitting : (Jvm.Cond.code ({ cls := "YesterdayScale$Worlds", name := "isFitting", desc := "(I)Z" } : Jvm.MethodName) prog_12_method_9_code (3 : Nat) (Option.some Jvm.ClassFile.FieldType.boolean)) ∈ gT := gT_in 700 (by decide +kernel) (by decide +kernel)
set_option maxRecDepth 20000 in
theorem tM_X10_93 : (Jvm.Cond.methodLink "YesterdayScale$Worlds" (93 : Nat) ({ cls := "YesterdayScale$Worlds", name := "shownIn", desc := "(II)I" } : Jvm.MethodName)) ∈ gT := gT_in 701 (by decide +kernel) (by decide +kernel)
set_option maxRecDepth 20000 in
theorem tI_X10_shownIn : (Jvm.Cond.instanceMethod ({ cls := "YesterdayScale$Worlds", name := "shownIn", desc := "(II)I" } : Jvm.MethodName)) ∈ gT := gT_in 703 (by decide +kernel) (by decide +kernel)
set_option maxRecDepth 20000 in
theorem tY_X10_shownIn : (Jvm.Cond.code ({ cls := "YesterdayScale$Worlds", name := "shownIn", desc := "(II)I" } : Jvm.MethodName) prog_12_method_8_code (9 : Nat) (Option.some Jvm.ClassFile.FieldType.int)) ∈ gT := gT_in 704 (by decide +kernel) (by decide +kernel)
set_option maxRecDepth 20000 in
theorem tM_X10_90 : (Jvm.Cond.methodLink "YesterdayScale$Worlds" (90 : Nat) ({ cls := "YesterdayScale$Port", name := "leftOver", desc := "(II)I" } : Jvm.MethodName)) ∈ gT := gT_in 705 (by decide +kernel) (by decide +kernel)
set_option maxRecDepth 20000 in
theorem tM_X11_178 : (Jvm.Cond.methodLink "YesterdayScale" (178 : Nat) ({ cls := "YesterdayScale$Worlds", name := "howManyFitWith", desc := "(II)I" } : Jvm.MethodName)) ∈ gT := gT_in 706 (by decide +kernel) (by decide +kernel)
set_option maxRecDepth 20000 in
theorem tI_X10_howManyFitWith : (Jvm.Cond.instanceMethod ({ cls := "YesterdayScale$Worlds", name := "howManyFitWith", desc := "(II)I" } : Jvm.MethodName)) ∈ gT := gT_in 707 (by decide +kernel) (by decide +kernel)
set_option maxRecDepth 20000 in
theorem tSel_X10_X10_X10_howManyFitWith : (Jvm.Cond.selects "YesterdayScale$Worlds" ({ cls := "YesterdayScale$Worlds", name := "howManyFitWith", desc := "(II)I" } : Jvm.MethodName) ({ cls := "YesterdayScale$Worlds", name := "howManyFitWith", desc := "(II)I" } : Jvm.MethodName)) ∈ gT := gT_in 708 (by decide +kernel) (by decide +kernel)
set_option maxRecDepth 20000 in
theorem tY_X10_howManyFitWith : (Jvm.Cond.code ({ cls := "YesterdayScale$Worlds", name := "howManyFitWith", desc := "(II)I" } : Jvm.MethodName) prog_12_method_11_code (5 : Nat) (Option.some Jvm.ClassFile.FieldType.int)) ∈ gT := gT_in 709 (by decide +kernel) (by decide +kernel)
set_option maxRecDepth 20000 in
theorem tM_X10_100 : (Jvm.Cond.methodLink "YesterdayScale$Worlds" (100 : Nat) ({ cls := "YesterdayScale$Worlds", name := "weightIn", desc := "(II)I" } : Jvm.MethodName)) ∈ gT := gT_in 710 (by decide +kernel) (by decide +kernel)
set_option maxRecDepth 20000 in
theorem tS_X10_weightIn : (Jvm.Cond.static ({ cls := "YesterdayScale$Worlds", name := "weightIn", desc := "(II)I" } : Jvm.MethodName)) ∈ gT := gT_in 711 (by decide +kernel) (by decide +kernel)
set_option maxRecDepth 20000 in
theorem tY_X10_weightIn : (Jvm.Cond.code ({ cls := "YesterdayScale$Worlds", name := "weightIn", desc := "(II)I" } : Jvm.MethodName) prog_12_method_7_code (2 : Nat) (Option.some Jvm.ClassFile.FieldType.int)) ∈ gT := gT_in 712 (by decide +kernel) (by decide +kernel)
set_option maxRecDepth 20000 in
theorem tM_L_73 : (Jvm.Cond.methodLink "YesterdayScaleLaw" (73 : Nat) ({ cls := "YesterdayScale", name := "sure", desc := "(II)I" } : Jvm.MethodName)) ∈ gT := gT_in 713 (by decide +kernel) (by decide +kernel)
set_option maxRecDepth 20000 in
theorem tI_X11_sure : (Jvm.Cond.instanceMethod ({ cls := "YesterdayScale", name := "sure", desc := "(II)I" } : Jvm.MethodName)) ∈ gT := gT_in 714 (by decide +kernel) (by decide +kernel)
set_option maxRecDepth 20000 in
theorem tSel_X11_X11_X11_sure : (Jvm.Cond.selects "YesterdayScale" ({ cls := "YesterdayScale", name := "sure", desc := "(II)I" } : Jvm.MethodName) ({ cls := "YesterdayScale", name := "sure", desc := "(II)I" } : Jvm.MethodName)) ∈ gT := gT_in 715 (by decide +kernel) (by decide +kernel)
set_option maxRecDepth 20000 in
theorem tY_X11_sure : (Jvm.Cond.code ({ cls := "YesterdayScale", name := "sure", desc := "(II)I" } : Jvm.MethodName) prog_1_method_15_code (4 : Nat) (Option.some Jvm.ClassFile.FieldType.int)) ∈ gT := gT_in 716 (by decide +kernel) (by decide +kernel)
set_option maxRecDepth 20000 in
theorem tM_X11_181 : (Jvm.Cond.methodLink "YesterdayScale" (181 : Nat) ({ cls := "YesterdayScale$Worlds", name := "sureWeight", desc := "(I)I" } : Jvm.MethodName)) ∈ gT := gT_in 717 (by decide +kernel) (by decide +kernel)
set_option maxRecDepth 20000 in
theorem tI_X10_sureWeight : (Jvm.Cond.instanceMethod ({ cls := "YesterdayScale$Worlds", name := "sureWeight", desc := "(I)I" } : Jvm.MethodName)) ∈ gT := gT_in 718 (by decide +kernel) (by decide +kernel)
set_option maxRecDepth 20000 in
theorem tSel_X10_X10_X10_sureWeight : (Jvm.Cond.selects "YesterdayScale$Worlds" ({ cls := "YesterdayScale$Worlds", name := "sureWeight", desc := "(I)I" } : Jvm.MethodName) ({ cls := "YesterdayScale$Worlds", name := "sureWeight", desc := "(I)I" } : Jvm.MethodName)) ∈ gT := gT_in 719 (by decide +kernel) (by decide +kernel)
set_option maxRecDepth 20000 in
theorem tY_X10_sureWeight : (Jvm.Cond.code ({ cls := "YesterdayScale$Worlds", name := "sureWeight", desc := "(I)I" } : Jvm.MethodName) prog_12_method_12_code (5 : Nat) (Option.some Jvm.ClassFile.FieldType.int)) ∈ gT := gT_in 720 (by decide +kernel) (by decide +kernel)
set_option maxRecDepth 20000 in
theorem tK_X10_103 : (Jvm.Cond.constant "YesterdayScale$Worlds" (103 : Nat) (-1000000 : Int32)) ∈ gT := gT_in 721 (by decide +kernel) (by decide +kernel)
set_option maxRecDepth 20000 in
theorem tM_L_77 : (Jvm.Cond.methodLink "YesterdayScaleLaw" (77 : Nat) ({ cls := "YesterdayScale", name := "gap", desc := "(II)I" } : Jvm.MethodName)) ∈ gT := gT_in 722 (by decide +kernel) (by decide +kernel)
set_option maxRecDepth 20000 in
theorem tI_X11_gap : (Jvm.Cond.instanceMethod ({ cls := "YesterdayScale", name := "gap", desc := "(II)I" } : Jvm.MethodName)) ∈ gT := gT_in 723 (by decide +kernel) (by decide +kernel)
set_option maxRecDepth 20000 in
theorem tSel_X11_X11_X11_gap : (Jvm.Cond.selects "YesterdayScale" ({ cls := "YesterdayScale", name := "gap", desc := "(II)I" } : Jvm.MethodName) ({ cls := "YesterdayScale", name := "gap", desc := "(II)I" } : Jvm.MethodName)) ∈ gT := gT_in 724 (by decide +kernel) (by decide +kernel)
set_option maxRecDepth 20000 in
theorem tY_X11_gap : (Jvm.Cond.code ({ cls := "YesterdayScale", name := "gap", desc := "(II)I" } : Jvm.MethodName) prog_1_method_16_code (4 : Nat) (Option.some Jvm.ClassFile.FieldType.int)) ∈ gT := gT_in 725 (by decide +kernel) (by decide +kernel)
set_option maxRecDepth 20000 in
theorem tM_X11_184 : (Jvm.Cond.methodLink "YesterdayScale" (184 : Nat) ({ cls := "YesterdayScale$Worlds", name := "sureShown", desc := "(I)I" } : Jvm.MethodName)) ∈ gT := gT_in 726 (by decide +kernel) (by decide +kernel)
set_option maxRecDepth 20000 in
theorem tI_X10_sureShown : (Jvm.Cond.instanceMethod ({ cls := "YesterdayScale$Worlds", name := "sureShown", desc := "(I)I" } : Jvm.MethodName)) ∈ gT := gT_in 727 (by decide +kernel) (by decide +kernel)
set_option maxRecDepth 20000 in
theorem tSel_X10_X10_X10_sureShown : (Jvm.Cond.selects "YesterdayScale$Worlds" ({ cls := "YesterdayScale$Worlds", name := "sureShown", desc := "(I)I" } : Jvm.MethodName) ({ cls := "YesterdayScale$Worlds", name := "sureShown", desc := "(I)I" } : Jvm.MethodName)) ∈ gT := gT_in 728 (by decide +kernel) (by decide +kernel)
set_option maxRecDepth 20000 in
theorem tY_X10_sureShown : (Jvm.Cond.code ({ cls := "YesterdayScale$Worlds", name := "sureShown", desc := "(I)I" } : Jvm.MethodName) prog_12_method_13_code (5 : Nat) (Option.some Jvm.ClassFile.FieldType.int)) ∈ gT := gT_in 729 (by decide +kernel) (by decide +kernel)
set_option maxRecDepth 20000 in
theorem tM_L_81 : (Jvm.Cond.methodLink "YesterdayScaleLaw" (81 : Nat) ({ cls := "YesterdayScale", name := "wrong", desc := "(II)I" } : Jvm.MethodName)) ∈ gT := gT_in 730 (by decide +kernel) (by decide +kernel)
set_option maxRecDepth 20000 in
theorem tI_X11_wrong : (Jvm.Cond.instanceMethod ({ cls := "YesterdayScale", name := "wrong", desc := "(II)I" } : Jvm.MethodName)) ∈ gT := gT_in 731 (by decide +kernel) (by decide +kernel)
set_option maxRecDepth 20000 in
theorem tSel_X11_X11_X11_wrong : (Jvm.Cond.selects "YesterdayScale" ({ cls := "YesterdayScale", name := "wrong", desc := "(II)I" } : Jvm.MethodName) ({ cls := "YesterdayScale", name := "wrong", desc := "(II)I" } : Jvm.MethodName)) ∈ gT := gT_in 732 (by decide +kernel) (by decide +kernel)
set_option maxRecDepth 20000 in
theorem tY_X11_wrong : (Jvm.Cond.code ({ cls := "YesterdayScale", name := "wrong", desc := "(II)I" } : Jvm.MethodName) prog_1_method_17_code (5 : Nat) (Option.some Jvm.ClassFile.FieldType.int)) ∈ gT := gT_in 733 (by decide +kernel) (by decide +kernel)
set_option maxRecDepth 20000 in
theorem tM_X11_187 : (Jvm.Cond.methodLink "YesterdayScale" (187 : Nat) ({ cls := "YesterdayScale$Worlds", name := "fewestFalse", desc := "()I" } : Jvm.MethodName)) ∈ gT := gT_in 734 (by decide +kernel) (by decide +kernel)
set_option maxRecDepth 20000 in
theorem tI_X10_fewestFalse : (Jvm.Cond.instanceMethod ({ cls := "YesterdayScale$Worlds", name := "fewestFalse", desc := "()I" } : Jvm.MethodName)) ∈ gT := gT_in 735 (by decide +kernel) (by decide +kernel)
set_option maxRecDepth 20000 in
theorem tSel_X10_X10_X10_fewestFalse : (Jvm.Cond.selects "YesterdayScale$Worlds" ({ cls := "YesterdayScale$Worlds", name := "fewestFalse", desc := "()I" } : Jvm.MethodName) ({ cls := "YesterdayScale$Worlds", name := "fewestFalse", desc := "()I" } : Jvm.MethodName)) ∈ gT := gT_in 736 (by decide +kernel) (by decide +kernel)
set_option maxRecDepth 20000 in
theorem tY_X10_fewestFalse : (Jvm.Cond.code ({ cls := "YesterdayScale$Worlds", name := "fewestFalse", desc := "()I" } : Jvm.MethodName) prog_12_method_14_code (6 : Nat) (Option.some Jvm.ClassFile.FieldType.int)) ∈ gT := gT_in 737 (by decide +kernel) (by decide +kernel)
set_option maxRecDepth 20000 in
theorem tM_X10_104 : (Jvm.Cond.methodLink "YesterdayScale$Worlds" (104 : Nat) ({ cls := "YesterdayScale$Worlds", name := "falseIn", desc := "(II)I" } : Jvm.MethodName)) ∈ gT := gT_in 738 (by decide +kernel) (by decide +kernel)
set_option maxRecDepth 20000 in
theorem tI_X10_falseIn : (Jvm.Cond.instanceMethod ({ cls := "YesterdayScale$Worlds", name := "falseIn", desc := "(II)I" } : Jvm.MethodName)) ∈ gT := gT_in 740 (by decide +kernel) (by decide +kernel)
set_option maxRecDepth 20000 in
theorem tY_X10_falseIn : (Jvm.Cond.code ({ cls := "YesterdayScale$Worlds", name := "falseIn", desc := "(II)I" } : Jvm.MethodName) prog_12_method_15_code (6 : Nat) (Option.some Jvm.ClassFile.FieldType.int)) ∈ gT := gT_in 741 (by decide +kernel) (by decide +kernel)
set_option maxRecDepth 20000 in
theorem tM_X10_107 : (Jvm.Cond.methodLink "YesterdayScale$Worlds" (107 : Nat) ({ cls := "java/lang/Integer", name := "bitCount", desc := "(I)I" } : Jvm.MethodName)) ∈ gT := gT_in 742 (by decide +kernel) (by decide +kernel)
set_option maxRecDepth 20000 in
theorem tS_J6_bitCount_0f7a4 : (Jvm.Cond.static ({ cls := "java/lang/Integer", name := "bitCount", desc := "(I)I" } : Jvm.MethodName)) ∈ gT := gT_in 743 (by decide +kernel) (by decide +kernel)
set_option maxRecDepth 20000 in
theorem tY_J6_bitCount_0f7a4 : (Jvm.Cond.code ({ cls := "java/lang/Integer", name := "bitCount", desc := "(I)I" } : Jvm.MethodName) prog_15_method_49_code (1 : Nat) (Option.some Jvm.ClassFile.FieldType.int)) ∈ gT := gT_in 744 (by decide +kernel) (by decide +kernel)
set_option maxRecDepth 20000 in
theorem tK_J6_265 : (Jvm.Cond.constant "java/lang/Integer" (265 : Nat) (1431655765 : Int32)) ∈ gT := gT_in 745 (by decide +kernel) (by decide +kernel)
set_option maxRecDepth 20000 in
theorem tK_J6_266 : (Jvm.Cond.constant "java/lang/Integer" (266 : Nat) (858993459 : Int32)) ∈ gT := gT_in 746 (by decide +kernel) (by decide +kernel)
set_option maxRecDepth 20000 in
theorem tK_J6_267 : (Jvm.Cond.constant "java/lang/Integer" (267 : Nat) (252645135 : Int32)) ∈ gT := gT_in 747 (by decide +kernel) (by decide +kernel)
set_option maxRecDepth 20000 in
theorem tM_X11_190 : (Jvm.Cond.methodLink "YesterdayScale" (190 : Nat) ({ cls := "java/lang/Integer", name := "bitCount", desc := "(I)I" } : Jvm.MethodName)) ∈ gT := gT_in 748 (by decide +kernel) (by decide +kernel)
set_option maxRecDepth 20000 in
theorem tM_L_85 : (Jvm.Cond.methodLink "YesterdayScaleLaw" (85 : Nat) ({ cls := "YesterdayScale", name := "soon", desc := "(I)I" } : Jvm.MethodName)) ∈ gT := gT_in 749 (by decide +kernel) (by decide +kernel)
set_option maxRecDepth 20000 in
theorem tI_X11_soon : (Jvm.Cond.instanceMethod ({ cls := "YesterdayScale", name := "soon", desc := "(I)I" } : Jvm.MethodName)) ∈ gT := gT_in 750 (by decide +kernel) (by decide +kernel)
set_option maxRecDepth 20000 in
theorem tSel_X11_X11_X11_soon : (Jvm.Cond.selects "YesterdayScale" ({ cls := "YesterdayScale", name := "soon", desc := "(I)I" } : Jvm.MethodName) ({ cls := "YesterdayScale", name := "soon", desc := "(I)I" } : Jvm.MethodName)) ∈ gT := gT_in 751 (by decide +kernel) (by decide +kernel)
set_option maxRecDepth 20000 in
theorem tY_X11_soon : (Jvm.Cond.code ({ cls := "YesterdayScale", name := "soon", desc := "(I)I" } : Jvm.MethodName) prog_1_method_18_code (2 : Nat) (Option.some Jvm.ClassFile.FieldType.int)) ∈ gT := gT_in 752 (by decide +kernel) (by decide +kernel)
set_option maxRecDepth 20000 in
theorem tM_X11_195 : (Jvm.Cond.methodLink "YesterdayScale" (195 : Nat) ({ cls := "YesterdayScale$Worlds", name := "learnSoon", desc := "(LYesterdayScale$Port;)V" } : Jvm.MethodName)) ∈ gT := gT_in 753 (by decide +kernel) (by decide +kernel)
set_option maxRecDepth 20000 in
theorem tI_X10_learnSoon : (Jvm.Cond.instanceMethod ({ cls := "YesterdayScale$Worlds", name := "learnSoon", desc := "(LYesterdayScale$Port;)V" } : Jvm.MethodName)) ∈ gT := gT_in 754 (by decide +kernel) (by decide +kernel)
set_option maxRecDepth 20000 in
theorem tSel_X10_X10_X10_learnSoon : (Jvm.Cond.selects "YesterdayScale$Worlds" ({ cls := "YesterdayScale$Worlds", name := "learnSoon", desc := "(LYesterdayScale$Port;)V" } : Jvm.MethodName) ({ cls := "YesterdayScale$Worlds", name := "learnSoon", desc := "(LYesterdayScale$Port;)V" } : Jvm.MethodName)) ∈ gT := gT_in 755 (by decide +kernel) (by decide +kernel)
set_option maxRecDepth 20000 in
theorem tY_X10_learnSoon : (Jvm.Cond.code ({ cls := "YesterdayScale$Worlds", name := "learnSoon", desc := "(LYesterdayScale$Port;)V" } : Jvm.MethodName) prog_12_method_18_code (4 : Nat) (Option.none : Option Jvm.ClassFile.FieldType)) ∈ gT := gT_in 756 (by decide +kernel) (by decide +kernel)
set_option maxRecDepth 20000 in
theorem tM_X10_126 : (Jvm.Cond.methodLink "YesterdayScale$Worlds" (126 : Nat) ({ cls := "YesterdayScale$Worlds", name := "gatherTrue", desc := "(LYesterdayScale$Port;)I" } : Jvm.MethodName)) ∈ gT := gT_in 757 (by decide +kernel) (by decide +kernel)
set_option maxRecDepth 20000 in
theorem tI_X10_gatherTrue : (Jvm.Cond.instanceMethod ({ cls := "YesterdayScale$Worlds", name := "gatherTrue", desc := "(LYesterdayScale$Port;)I" } : Jvm.MethodName)) ∈ gT := gT_in 759 (by decide +kernel) (by decide +kernel)
set_option maxRecDepth 20000 in
theorem tY_X10_gatherTrue : (Jvm.Cond.code ({ cls := "YesterdayScale$Worlds", name := "gatherTrue", desc := "(LYesterdayScale$Port;)I" } : Jvm.MethodName) prog_12_method_20_code (4 : Nat) (Option.some Jvm.ClassFile.FieldType.int)) ∈ gT := gT_in 760 (by decide +kernel) (by decide +kernel)
set_option maxRecDepth 20000 in
theorem tM_X10_144 : (Jvm.Cond.methodLink "YesterdayScale$Worlds" (144 : Nat) ({ cls := "YesterdayScale$Port", name := "shownOn", desc := "(I)I" } : Jvm.MethodName)) ∈ gT := gT_in 761 (by decide +kernel) (by decide +kernel)
set_option maxRecDepth 20000 in
theorem tM_X10_130 : (Jvm.Cond.methodLink "YesterdayScale$Worlds" (130 : Nat) ({ cls := "YesterdayScale$Worlds", name := "worldOf", desc := "(LYesterdayScale$Port;)I" } : Jvm.MethodName)) ∈ gT := gT_in 762 (by decide +kernel) (by decide +kernel)
set_option maxRecDepth 20000 in
theorem tS_X10_worldOf : (Jvm.Cond.static ({ cls := "YesterdayScale$Worlds", name := "worldOf", desc := "(LYesterdayScale$Port;)I" } : Jvm.MethodName)) ∈ gT := gT_in 763 (by decide +kernel) (by decide +kernel)
set_option maxRecDepth 20000 in
theorem tY_X10_worldOf : (Jvm.Cond.code ({ cls := "YesterdayScale$Worlds", name := "worldOf", desc := "(LYesterdayScale$Port;)I" } : Jvm.MethodName) prog_12_method_19_code (3 : Nat) (Option.some Jvm.ClassFile.FieldType.int)) ∈ gT := gT_in 764 (by decide +kernel) (by decide +kernel)
set_option maxRecDepth 20000 in
theorem tM_X10_133 : (Jvm.Cond.methodLink "YesterdayScale$Worlds" (133 : Nat) ({ cls := "YesterdayScale$Worlds", name := "findOneDay", desc := "(LYesterdayScale$Port;II)Z" } : Jvm.MethodName)) ∈ gT := gT_in 765 (by decide +kernel) (by decide +kernel)
set_option maxRecDepth 20000 in
theorem tI_X10_findOneDay : (Jvm.Cond.instanceMethod ({ cls := "YesterdayScale$Worlds", name := "findOneDay", desc := "(LYesterdayScale$Port;II)Z" } : Jvm.MethodName)) ∈ gT := gT_in 767 (by decide +kernel) (by decide +kernel)
set_option maxRecDepth 20000 in
theorem tY_X10_findOneDay : (Jvm.Cond.code ({ cls := "YesterdayScale$Worlds", name := "findOneDay", desc := "(LYesterdayScale$Port;II)Z" } : Jvm.MethodName) prog_12_method_21_code (5 : Nat) (Option.some Jvm.ClassFile.FieldType.boolean)) ∈ gT := gT_in 768 (by decide +kernel) (by decide +kernel)
set_option maxRecDepth 20000 in
theorem tM_X10_147 : (Jvm.Cond.methodLink "YesterdayScale$Worlds" (147 : Nat) ({ cls := "YesterdayScale$Port", name := "allThings", desc := "()I" } : Jvm.MethodName)) ∈ gT := gT_in 769 (by decide +kernel) (by decide +kernel)
set_option maxRecDepth 20000 in
theorem tM_X10_154 : (Jvm.Cond.methodLink "YesterdayScale$Worlds" (154 : Nat) ({ cls := "YesterdayScale$Worlds", name := "isAlone", desc := "(III)Z" } : Jvm.MethodName)) ∈ gT := gT_in 770 (by decide +kernel) (by decide +kernel)
set_option maxRecDepth 20000 in
theorem tI_X10_isAlone : (Jvm.Cond.instanceMethod ({ cls := "YesterdayScale$Worlds", name := "isAlone", desc := "(III)Z" } : Jvm.MethodName)) ∈ gT := gT_in 772 (by decide +kernel) (by decide +kernel)
set_option maxRecDepth 20000 in
theorem tY_X10_isAlone : (Jvm.Cond.code ({ cls := "YesterdayScale$Worlds", name := "isAlone", desc := "(III)Z" } : Jvm.MethodName) prog_12_method_23_code (6 : Nat) (Option.some Jvm.ClassFile.FieldType.boolean)) ∈ gT := gT_in 773 (by decide +kernel) (by decide +kernel)
set_option maxRecDepth 20000 in
theorem tM_X10_137 : (Jvm.Cond.methodLink "YesterdayScale$Worlds" (137 : Nat) ({ cls := "YesterdayScale$Worlds", name := "findTwoDays", desc := "(LYesterdayScale$Port;II)V" } : Jvm.MethodName)) ∈ gT := gT_in 774 (by decide +kernel) (by decide +kernel)
set_option maxRecDepth 20000 in
theorem tI_X10_findTwoDays : (Jvm.Cond.instanceMethod ({ cls := "YesterdayScale$Worlds", name := "findTwoDays", desc := "(LYesterdayScale$Port;II)V" } : Jvm.MethodName)) ∈ gT := gT_in 776 (by decide +kernel) (by decide +kernel)
set_option maxRecDepth 20000 in
theorem tY_X10_findTwoDays : (Jvm.Cond.code ({ cls := "YesterdayScale$Worlds", name := "findTwoDays", desc := "(LYesterdayScale$Port;II)V" } : Jvm.MethodName) prog_12_method_22_code (7 : Nat) (Option.none : Option Jvm.ClassFile.FieldType)) ∈ gT := gT_in 777 (by decide +kernel) (by decide +kernel)
set_option maxRecDepth 20000 in
theorem tM_X10_158 : (Jvm.Cond.methodLink "YesterdayScale$Worlds" (158 : Nat) ({ cls := "YesterdayScale$Worlds", name := "bringForward", desc := "(II)I" } : Jvm.MethodName)) ∈ gT := gT_in 778 (by decide +kernel) (by decide +kernel)
set_option maxRecDepth 20000 in
theorem tI_X10_bringForward : (Jvm.Cond.instanceMethod ({ cls := "YesterdayScale$Worlds", name := "bringForward", desc := "(II)I" } : Jvm.MethodName)) ∈ gT := gT_in 780 (by decide +kernel) (by decide +kernel)
set_option maxRecDepth 20000 in
theorem tY_X10_bringForward : (Jvm.Cond.code ({ cls := "YesterdayScale$Worlds", name := "bringForward", desc := "(II)I" } : Jvm.MethodName) prog_12_method_24_code (7 : Nat) (Option.some Jvm.ClassFile.FieldType.int)) ∈ gT := gT_in 781 (by decide +kernel) (by decide +kernel)
set_option maxRecDepth 20000 in
theorem tM_X11_201 : (Jvm.Cond.methodLink "YesterdayScale" (201 : Nat) ({ cls := "YesterdayScale$Worlds", name := "soonSet", desc := "(I)I" } : Jvm.MethodName)) ∈ gT := gT_in 782 (by decide +kernel) (by decide +kernel)
set_option maxRecDepth 20000 in
theorem tI_X10_soonSet : (Jvm.Cond.instanceMethod ({ cls := "YesterdayScale$Worlds", name := "soonSet", desc := "(I)I" } : Jvm.MethodName)) ∈ gT := gT_in 783 (by decide +kernel) (by decide +kernel)
set_option maxRecDepth 20000 in
theorem tSel_X10_X10_X10_soonSet : (Jvm.Cond.selects "YesterdayScale$Worlds" ({ cls := "YesterdayScale$Worlds", name := "soonSet", desc := "(I)I" } : Jvm.MethodName) ({ cls := "YesterdayScale$Worlds", name := "soonSet", desc := "(I)I" } : Jvm.MethodName)) ∈ gT := gT_in 784 (by decide +kernel) (by decide +kernel)
set_option maxRecDepth 20000 in
theorem tY_X10_soonSet : (Jvm.Cond.code ({ cls := "YesterdayScale$Worlds", name := "soonSet", desc := "(I)I" } : Jvm.MethodName) prog_12_method_17_code (2 : Nat) (Option.some Jvm.ClassFile.FieldType.int)) ∈ gT := gT_in 785 (by decide +kernel) (by decide +kernel)
set_option maxRecDepth 20000 in
theorem tM_L_89 : (Jvm.Cond.methodLink "YesterdayScaleLaw" (89 : Nat) ({ cls := "YesterdayScale", name := "laws", desc := "(I)I" } : Jvm.MethodName)) ∈ gT := gT_in 786 (by decide +kernel) (by decide +kernel)
set_option maxRecDepth 20000 in
theorem tI_X11_laws : (Jvm.Cond.instanceMethod ({ cls := "YesterdayScale", name := "laws", desc := "(I)I" } : Jvm.MethodName)) ∈ gT := gT_in 787 (by decide +kernel) (by decide +kernel)
set_option maxRecDepth 20000 in
theorem tSel_X11_X11_X11_laws : (Jvm.Cond.selects "YesterdayScale" ({ cls := "YesterdayScale", name := "laws", desc := "(I)I" } : Jvm.MethodName) ({ cls := "YesterdayScale", name := "laws", desc := "(I)I" } : Jvm.MethodName)) ∈ gT := gT_in 788 (by decide +kernel) (by decide +kernel)
set_option maxRecDepth 20000 in
theorem tY_X11_laws : (Jvm.Cond.code ({ cls := "YesterdayScale", name := "laws", desc := "(I)I" } : Jvm.MethodName) prog_1_method_19_code (3 : Nat) (Option.some Jvm.ClassFile.FieldType.int)) ∈ gT := gT_in 789 (by decide +kernel) (by decide +kernel)
set_option maxRecDepth 20000 in
theorem tM_X11_204 : (Jvm.Cond.methodLink "YesterdayScale" (204 : Nat) ({ cls := "YesterdayScale$Port", name := "lawsTelling", desc := "([I)I" } : Jvm.MethodName)) ∈ gT := gT_in 790 (by decide +kernel) (by decide +kernel)
set_option maxRecDepth 20000 in
theorem tI_X2_lawsTelling : (Jvm.Cond.instanceMethod ({ cls := "YesterdayScale$Port", name := "lawsTelling", desc := "([I)I" } : Jvm.MethodName)) ∈ gT := gT_in 791 (by decide +kernel) (by decide +kernel)
set_option maxRecDepth 20000 in
theorem tSel_X2_X2_X2_lawsTelling : (Jvm.Cond.selects "YesterdayScale$Port" ({ cls := "YesterdayScale$Port", name := "lawsTelling", desc := "([I)I" } : Jvm.MethodName) ({ cls := "YesterdayScale$Port", name := "lawsTelling", desc := "([I)I" } : Jvm.MethodName)) ∈ gT := gT_in 792 (by decide +kernel) (by decide +kernel)
set_option maxRecDepth 20000 in
theorem tY_X2_lawsTelling : (Jvm.Cond.code ({ cls := "YesterdayScale$Port", name := "lawsTelling", desc := "([I)I" } : Jvm.MethodName) prog_4_method_19_code (4 : Nat) (Option.some Jvm.ClassFile.FieldType.int)) ∈ gT := gT_in 793 (by decide +kernel) (by decide +kernel)
set_option maxRecDepth 20000 in
theorem tM_X2_113 : (Jvm.Cond.methodLink "YesterdayScale$Port" (113 : Nat) ({ cls := "YesterdayScale$Port", name := "tellsBy", desc := "(II[I)Z" } : Jvm.MethodName)) ∈ gT := gT_in 794 (by decide +kernel) (by decide +kernel)
set_option maxRecDepth 20000 in
theorem tI_X2_tellsBy : (Jvm.Cond.instanceMethod ({ cls := "YesterdayScale$Port", name := "tellsBy", desc := "(II[I)Z" } : Jvm.MethodName)) ∈ gT := gT_in 796 (by decide +kernel) (by decide +kernel)
set_option maxRecDepth 20000 in
theorem tY_X2_tellsBy : (Jvm.Cond.code ({ cls := "YesterdayScale$Port", name := "tellsBy", desc := "(II[I)Z" } : Jvm.MethodName) prog_4_method_20_code (5 : Nat) (Option.some Jvm.ClassFile.FieldType.boolean)) ∈ gT := gT_in 797 (by decide +kernel) (by decide +kernel)
set_option maxRecDepth 20000 in
theorem tM_L_93 : (Jvm.Cond.methodLink "YesterdayScaleLaw" (93 : Nat) ({ cls := "YesterdayScale", name := "error", desc := "(I)I" } : Jvm.MethodName)) ∈ gT := gT_in 798 (by decide +kernel) (by decide +kernel)
set_option maxRecDepth 20000 in
theorem tI_X11_error : (Jvm.Cond.instanceMethod ({ cls := "YesterdayScale", name := "error", desc := "(I)I" } : Jvm.MethodName)) ∈ gT := gT_in 799 (by decide +kernel) (by decide +kernel)
set_option maxRecDepth 20000 in
theorem tSel_X11_X11_X11_error : (Jvm.Cond.selects "YesterdayScale" ({ cls := "YesterdayScale", name := "error", desc := "(I)I" } : Jvm.MethodName) ({ cls := "YesterdayScale", name := "error", desc := "(I)I" } : Jvm.MethodName)) ∈ gT := gT_in 800 (by decide +kernel) (by decide +kernel)
set_option maxRecDepth 20000 in
theorem tY_X11_error : (Jvm.Cond.code ({ cls := "YesterdayScale", name := "error", desc := "(I)I" } : Jvm.MethodName) prog_1_method_20_code (2 : Nat) (Option.some Jvm.ClassFile.FieldType.int)) ∈ gT := gT_in 801 (by decide +kernel) (by decide +kernel)
set_option maxRecDepth 20000 in
theorem tM_X11_208 : (Jvm.Cond.methodLink "YesterdayScale" (208 : Nat) ({ cls := "YesterdayScale$Port", name := "changedBy", desc := "(I)I" } : Jvm.MethodName)) ∈ gT := gT_in 802 (by decide +kernel) (by decide +kernel)
set_option maxRecDepth 20000 in
theorem tI_X2_changedBy : (Jvm.Cond.instanceMethod ({ cls := "YesterdayScale$Port", name := "changedBy", desc := "(I)I" } : Jvm.MethodName)) ∈ gT := gT_in 803 (by decide +kernel) (by decide +kernel)
set_option maxRecDepth 20000 in
theorem tSel_X2_X2_X2_changedBy : (Jvm.Cond.selects "YesterdayScale$Port" ({ cls := "YesterdayScale$Port", name := "changedBy", desc := "(I)I" } : Jvm.MethodName) ({ cls := "YesterdayScale$Port", name := "changedBy", desc := "(I)I" } : Jvm.MethodName)) ∈ gT := gT_in 804 (by decide +kernel) (by decide +kernel)
set_option maxRecDepth 20000 in
theorem tY_X2_changedBy : (Jvm.Cond.code ({ cls := "YesterdayScale$Port", name := "changedBy", desc := "(I)I" } : Jvm.MethodName) prog_4_method_18_code (4 : Nat) (Option.some Jvm.ClassFile.FieldType.int)) ∈ gT := gT_in 805 (by decide +kernel) (by decide +kernel)
set_option maxRecDepth 20000 in
theorem tM_X2_110 : (Jvm.Cond.methodLink "YesterdayScale$Port" (110 : Nat) ({ cls := "YesterdayScale$Port", name := "shownOn", desc := "(I)I" } : Jvm.MethodName)) ∈ gT := gT_in 806 (by decide +kernel) (by decide +kernel)
set_option maxRecDepth 20000 in
theorem tM_L_97 : (Jvm.Cond.methodLink "YesterdayScaleLaw" (97 : Nat) ({ cls := "YesterdayScale", name := "sold", desc := "(II)I" } : Jvm.MethodName)) ∈ gT := gT_in 807 (by decide +kernel) (by decide +kernel)
set_option maxRecDepth 20000 in
theorem tI_X11_sold : (Jvm.Cond.instanceMethod ({ cls := "YesterdayScale", name := "sold", desc := "(II)I" } : Jvm.MethodName)) ∈ gT := gT_in 808 (by decide +kernel) (by decide +kernel)
set_option maxRecDepth 20000 in
theorem tSel_X11_X11_X11_sold : (Jvm.Cond.selects "YesterdayScale" ({ cls := "YesterdayScale", name := "sold", desc := "(II)I" } : Jvm.MethodName) ({ cls := "YesterdayScale", name := "sold", desc := "(II)I" } : Jvm.MethodName)) ∈ gT := gT_in 809 (by decide +kernel) (by decide +kernel)
set_option maxRecDepth 20000 in
theorem tY_X11_sold : (Jvm.Cond.code ({ cls := "YesterdayScale", name := "sold", desc := "(II)I" } : Jvm.MethodName) prog_1_method_21_code (5 : Nat) (Option.some Jvm.ClassFile.FieldType.int)) ∈ gT := gT_in 810 (by decide +kernel) (by decide +kernel)
set_option maxRecDepth 20000 in
theorem tM_X11_211 : (Jvm.Cond.methodLink "YesterdayScale" (211 : Nat) ({ cls := "YesterdayScale$Port", name := "liesOn", desc := "(II)Z" } : Jvm.MethodName)) ∈ gT := gT_in 811 (by decide +kernel) (by decide +kernel)
set_option maxRecDepth 20000 in
theorem tM_L_101 : (Jvm.Cond.methodLink "YesterdayScaleLaw" (101 : Nat) ({ cls := "YesterdayScale", name := "image", desc := "(I)I" } : Jvm.MethodName)) ∈ gT := gT_in 812 (by decide +kernel) (by decide +kernel)
set_option maxRecDepth 20000 in
theorem tI_X11_image : (Jvm.Cond.instanceMethod ({ cls := "YesterdayScale", name := "image", desc := "(I)I" } : Jvm.MethodName)) ∈ gT := gT_in 813 (by decide +kernel) (by decide +kernel)
set_option maxRecDepth 20000 in
theorem tSel_X11_X11_X11_image : (Jvm.Cond.selects "YesterdayScale" ({ cls := "YesterdayScale", name := "image", desc := "(I)I" } : Jvm.MethodName) ({ cls := "YesterdayScale", name := "image", desc := "(I)I" } : Jvm.MethodName)) ∈ gT := gT_in 814 (by decide +kernel) (by decide +kernel)
set_option maxRecDepth 20000 in
theorem tY_X11_image : (Jvm.Cond.code ({ cls := "YesterdayScale", name := "image", desc := "(I)I" } : Jvm.MethodName) prog_1_method_22_code (2 : Nat) (Option.some Jvm.ClassFile.FieldType.int)) ∈ gT := gT_in 815 (by decide +kernel) (by decide +kernel)
set_option maxRecDepth 20000 in
theorem tM_X11_214 : (Jvm.Cond.methodLink "YesterdayScale" (214 : Nat) ({ cls := "YesterdayScale", name := "isImage", desc := "(I)Z" } : Jvm.MethodName)) ∈ gT := gT_in 816 (by decide +kernel) (by decide +kernel)
set_option maxRecDepth 20000 in
theorem tS_X11_isImage : (Jvm.Cond.static ({ cls := "YesterdayScale", name := "isImage", desc := "(I)Z" } : Jvm.MethodName)) ∈ gT := gT_in 817 (by decide +kernel) (by decide +kernel)
set_option maxRecDepth 20000 in
theorem tY_X11_isImage : (Jvm.Cond.code ({ cls := "YesterdayScale", name := "isImage", desc := "(I)Z" } : Jvm.MethodName) prog_1_method_31_code (1 : Nat) (Option.some Jvm.ClassFile.FieldType.boolean)) ∈ gT := gT_in 818 (by decide +kernel) (by decide +kernel)
set_option maxRecDepth 20000 in
theorem tM_L_105 : (Jvm.Cond.methodLink "YesterdayScaleLaw" (105 : Nat) ({ cls := "YesterdayScale", name := "restore", desc := "(I)I" } : Jvm.MethodName)) ∈ gT := gT_in 819 (by decide +kernel) (by decide +kernel)
set_option maxRecDepth 20000 in
theorem tI_X11_restore : (Jvm.Cond.instanceMethod ({ cls := "YesterdayScale", name := "restore", desc := "(I)I" } : Jvm.MethodName)) ∈ gT := gT_in 820 (by decide +kernel) (by decide +kernel)
set_option maxRecDepth 20000 in
theorem tSel_X11_X11_X11_restore : (Jvm.Cond.selects "YesterdayScale" ({ cls := "YesterdayScale", name := "restore", desc := "(I)I" } : Jvm.MethodName) ({ cls := "YesterdayScale", name := "restore", desc := "(I)I" } : Jvm.MethodName)) ∈ gT := gT_in 821 (by decide +kernel) (by decide +kernel)
set_option maxRecDepth 20000 in
theorem tY_X11_restore : (Jvm.Cond.code ({ cls := "YesterdayScale", name := "restore", desc := "(I)I" } : Jvm.MethodName) prog_1_method_23_code (2 : Nat) (Option.some Jvm.ClassFile.FieldType.int)) ∈ gT := gT_in 822 (by decide +kernel) (by decide +kernel)
set_option maxRecDepth 20000 in
theorem tM_L_109 : (Jvm.Cond.methodLink "YesterdayScaleLaw" (109 : Nat) ({ cls := "YesterdayScale", name := "kind", desc := "(I)I" } : Jvm.MethodName)) ∈ gT := gT_in 823 (by decide +kernel) (by decide +kernel)
set_option maxRecDepth 20000 in
theorem tI_X11_kind : (Jvm.Cond.instanceMethod ({ cls := "YesterdayScale", name := "kind", desc := "(I)I" } : Jvm.MethodName)) ∈ gT := gT_in 824 (by decide +kernel) (by decide +kernel)
set_option maxRecDepth 20000 in
theorem tSel_X11_X11_X11_kind : (Jvm.Cond.selects "YesterdayScale" ({ cls := "YesterdayScale", name := "kind", desc := "(I)I" } : Jvm.MethodName) ({ cls := "YesterdayScale", name := "kind", desc := "(I)I" } : Jvm.MethodName)) ∈ gT := gT_in 825 (by decide +kernel) (by decide +kernel)
set_option maxRecDepth 20000 in
theorem tY_X11_kind : (Jvm.Cond.code ({ cls := "YesterdayScale", name := "kind", desc := "(I)I" } : Jvm.MethodName) prog_1_method_24_code (3 : Nat) (Option.some Jvm.ClassFile.FieldType.int)) ∈ gT := gT_in 826 (by decide +kernel) (by decide +kernel)
set_option maxRecDepth 20000 in
theorem tM_X11_217 : (Jvm.Cond.methodLink "YesterdayScale" (217 : Nat) ({ cls := "YesterdayScale$Thing", name := "kindNumber", desc := "()I" } : Jvm.MethodName)) ∈ gT := gT_in 827 (by decide +kernel) (by decide +kernel)
set_option maxRecDepth 20000 in
theorem tSam_X7_X7_kindNumber : (Jvm.Cond.sameMethod "YesterdayScale$Thing" "YesterdayScale$Thing" "kindNumber" "()I") ∈ gT := gT_in 829 (by decide +kernel) (by decide +kernel)
set_option maxRecDepth 20000 in
theorem tSel_X1_X7_X1_kindNumber : (Jvm.Cond.selects "YesterdayScale$Fish" ({ cls := "YesterdayScale$Thing", name := "kindNumber", desc := "()I" } : Jvm.MethodName) ({ cls := "YesterdayScale$Fish", name := "kindNumber", desc := "()I" } : Jvm.MethodName)) ∈ gT := gT_in 830 (by decide +kernel) (by decide +kernel)
set_option maxRecDepth 20000 in
theorem tI_X1_kindNumber : (Jvm.Cond.instanceMethod ({ cls := "YesterdayScale$Fish", name := "kindNumber", desc := "()I" } : Jvm.MethodName)) ∈ gT := gT_in 831 (by decide +kernel) (by decide +kernel)
set_option maxRecDepth 20000 in
theorem tY_X1_kindNumber : (Jvm.Cond.code ({ cls := "YesterdayScale$Fish", name := "kindNumber", desc := "()I" } : Jvm.MethodName) prog_3_method_2_code (1 : Nat) (Option.some Jvm.ClassFile.FieldType.int)) ∈ gT := gT_in 832 (by decide +kernel) (by decide +kernel)
set_option maxRecDepth 20000 in
theorem tSel_X4_X7_X4_kindNumber : (Jvm.Cond.selects "YesterdayScale$Salt" ({ cls := "YesterdayScale$Thing", name := "kindNumber", desc := "()I" } : Jvm.MethodName) ({ cls := "YesterdayScale$Salt", name := "kindNumber", desc := "()I" } : Jvm.MethodName)) ∈ gT := gT_in 833 (by decide +kernel) (by decide +kernel)
set_option maxRecDepth 20000 in
theorem tI_X4_kindNumber : (Jvm.Cond.instanceMethod ({ cls := "YesterdayScale$Salt", name := "kindNumber", desc := "()I" } : Jvm.MethodName)) ∈ gT := gT_in 834 (by decide +kernel) (by decide +kernel)
set_option maxRecDepth 20000 in
theorem tY_X4_kindNumber : (Jvm.Cond.code ({ cls := "YesterdayScale$Salt", name := "kindNumber", desc := "()I" } : Jvm.MethodName) prog_6_method_2_code (1 : Nat) (Option.some Jvm.ClassFile.FieldType.int)) ∈ gT := gT_in 835 (by decide +kernel) (by decide +kernel)
set_option maxRecDepth 20000 in
theorem tSel_X5_X7_X5_kindNumber : (Jvm.Cond.selects "YesterdayScale$Stone" ({ cls := "YesterdayScale$Thing", name := "kindNumber", desc := "()I" } : Jvm.MethodName) ({ cls := "YesterdayScale$Stone", name := "kindNumber", desc := "()I" } : Jvm.MethodName)) ∈ gT := gT_in 836 (by decide +kernel) (by decide +kernel)
set_option maxRecDepth 20000 in
theorem tI_X5_kindNumber : (Jvm.Cond.instanceMethod ({ cls := "YesterdayScale$Stone", name := "kindNumber", desc := "()I" } : Jvm.MethodName)) ∈ gT := gT_in 837 (by decide +kernel) (by decide +kernel)
set_option maxRecDepth 20000 in
theorem tY_X5_kindNumber : (Jvm.Cond.code ({ cls := "YesterdayScale$Stone", name := "kindNumber", desc := "()I" } : Jvm.MethodName) prog_7_method_2_code (1 : Nat) (Option.some Jvm.ClassFile.FieldType.int)) ∈ gT := gT_in 838 (by decide +kernel) (by decide +kernel)
set_option maxRecDepth 20000 in
theorem tSel_X8_X7_X8_kindNumber : (Jvm.Cond.selects "YesterdayScale$Whale" ({ cls := "YesterdayScale$Thing", name := "kindNumber", desc := "()I" } : Jvm.MethodName) ({ cls := "YesterdayScale$Whale", name := "kindNumber", desc := "()I" } : Jvm.MethodName)) ∈ gT := gT_in 839 (by decide +kernel) (by decide +kernel)
set_option maxRecDepth 20000 in
theorem tI_X8_kindNumber : (Jvm.Cond.instanceMethod ({ cls := "YesterdayScale$Whale", name := "kindNumber", desc := "()I" } : Jvm.MethodName)) ∈ gT := gT_in 840 (by decide +kernel) (by decide +kernel)
set_option maxRecDepth 20000 in
theorem tY_X8_kindNumber : (Jvm.Cond.code ({ cls := "YesterdayScale$Whale", name := "kindNumber", desc := "()I" } : Jvm.MethodName) prog_10_method_2_code (1 : Nat) (Option.some Jvm.ClassFile.FieldType.int)) ∈ gT := gT_in 841 (by decide +kernel) (by decide +kernel)
set_option maxRecDepth 20000 in
theorem tSel_X9_X7_X9_kindNumber : (Jvm.Cond.selects "YesterdayScale$Wool" ({ cls := "YesterdayScale$Thing", name := "kindNumber", desc := "()I" } : Jvm.MethodName) ({ cls := "YesterdayScale$Wool", name := "kindNumber", desc := "()I" } : Jvm.MethodName)) ∈ gT := gT_in 842 (by decide +kernel) (by decide +kernel)
set_option maxRecDepth 20000 in
theorem tI_X9_kindNumber : (Jvm.Cond.instanceMethod ({ cls := "YesterdayScale$Wool", name := "kindNumber", desc := "()I" } : Jvm.MethodName)) ∈ gT := gT_in 843 (by decide +kernel) (by decide +kernel)
set_option maxRecDepth 20000 in
theorem tY_X9_kindNumber : (Jvm.Cond.code ({ cls := "YesterdayScale$Wool", name := "kindNumber", desc := "()I" } : Jvm.MethodName) prog_11_method_2_code (1 : Nat) (Option.some Jvm.ClassFile.FieldType.int)) ∈ gT := gT_in 844 (by decide +kernel) (by decide +kernel)
set_option maxRecDepth 20000 in
theorem tM_L_113 : (Jvm.Cond.methodLink "YesterdayScaleLaw" (113 : Nat) ({ cls := "YesterdayScale", name := "as", desc := "(II)I" } : Jvm.MethodName)) ∈ gT := gT_in 845 (by decide +kernel) (by decide +kernel)
set_option maxRecDepth 20000 in
theorem tI_X11_as : (Jvm.Cond.instanceMethod ({ cls := "YesterdayScale", name := "as", desc := "(II)I" } : Jvm.MethodName)) ∈ gT := gT_in 846 (by decide +kernel) (by decide +kernel)
set_option maxRecDepth 20000 in
theorem tSel_X11_X11_X11_as : (Jvm.Cond.selects "YesterdayScale" ({ cls := "YesterdayScale", name := "as", desc := "(II)I" } : Jvm.MethodName) ({ cls := "YesterdayScale", name := "as", desc := "(II)I" } : Jvm.MethodName)) ∈ gT := gT_in 847 (by decide +kernel) (by decide +kernel)
set_option maxRecDepth 20000 in
theorem tY_X11_as : (Jvm.Cond.code ({ cls := "YesterdayScale", name := "as", desc := "(II)I" } : Jvm.MethodName) prog_1_method_25_code (4 : Nat) (Option.some Jvm.ClassFile.FieldType.int)) ∈ gT := gT_in 848 (by decide +kernel) (by decide +kernel)
set_option maxRecDepth 20000 in
theorem tM_X11_220 : (Jvm.Cond.methodLink "YesterdayScale" (220 : Nat) ({ cls := "YesterdayScale", name := "isOfKind", desc := "(LYesterdayScale$Thing;I)Z" } : Jvm.MethodName)) ∈ gT := gT_in 849 (by decide +kernel) (by decide +kernel)
set_option maxRecDepth 20000 in
theorem tS_X11_isOfKind : (Jvm.Cond.static ({ cls := "YesterdayScale", name := "isOfKind", desc := "(LYesterdayScale$Thing;I)Z" } : Jvm.MethodName)) ∈ gT := gT_in 850 (by decide +kernel) (by decide +kernel)
set_option maxRecDepth 20000 in
theorem tY_X11_isOfKind : (Jvm.Cond.code ({ cls := "YesterdayScale", name := "isOfKind", desc := "(LYesterdayScale$Thing;I)Z" } : Jvm.MethodName) prog_1_method_36_code (2 : Nat) (Option.some Jvm.ClassFile.FieldType.boolean)) ∈ gT := gT_in 851 (by decide +kernel) (by decide +kernel)
set_option maxRecDepth 20000 in
theorem tC_X11_265 : (Jvm.Cond.classLink "YesterdayScale" (265 : Nat) "YesterdayScale$Salt") ∈ gT := gT_in 852 (by decide +kernel) (by decide +kernel)
set_option maxRecDepth 20000 in
theorem tC_X11_267 : (Jvm.Cond.classLink "YesterdayScale" (267 : Nat) "YesterdayScale$Fish") ∈ gT := gT_in 853 (by decide +kernel) (by decide +kernel)
set_option maxRecDepth 20000 in
theorem tC_X11_269 : (Jvm.Cond.classLink "YesterdayScale" (269 : Nat) "YesterdayScale$Wool") ∈ gT := gT_in 854 (by decide +kernel) (by decide +kernel)
set_option maxRecDepth 20000 in
theorem tC_X11_271 : (Jvm.Cond.classLink "YesterdayScale" (271 : Nat) "YesterdayScale$Stone") ∈ gT := gT_in 855 (by decide +kernel) (by decide +kernel)
set_option maxRecDepth 20000 in
theorem tC_X11_273 : (Jvm.Cond.classLink "YesterdayScale" (273 : Nat) "YesterdayScale$Whale") ∈ gT := gT_in 856 (by decide +kernel) (by decide +kernel)
set_option maxRecDepth 20000 in
theorem tM_L_117 : (Jvm.Cond.methodLink "YesterdayScaleLaw" (117 : Nat) ({ cls := "YesterdayScale", name := "ask", desc := "(II)I" } : Jvm.MethodName)) ∈ gT := gT_in 857 (by decide +kernel) (by decide +kernel)
set_option maxRecDepth 20000 in
theorem tI_X11_ask : (Jvm.Cond.instanceMethod ({ cls := "YesterdayScale", name := "ask", desc := "(II)I" } : Jvm.MethodName)) ∈ gT := gT_in 858 (by decide +kernel) (by decide +kernel)
set_option maxRecDepth 20000 in
theorem tSel_X11_X11_X11_ask : (Jvm.Cond.selects "YesterdayScale" ({ cls := "YesterdayScale", name := "ask", desc := "(II)I" } : Jvm.MethodName) ({ cls := "YesterdayScale", name := "ask", desc := "(II)I" } : Jvm.MethodName)) ∈ gT := gT_in 859 (by decide +kernel) (by decide +kernel)
set_option maxRecDepth 20000 in
theorem tY_X11_ask : (Jvm.Cond.code ({ cls := "YesterdayScale", name := "ask", desc := "(II)I" } : Jvm.MethodName) prog_1_method_26_code (4 : Nat) (Option.some Jvm.ClassFile.FieldType.int)) ∈ gT := gT_in 860 (by decide +kernel) (by decide +kernel)
set_option maxRecDepth 20000 in
theorem tM_X11_227 : (Jvm.Cond.methodLink "YesterdayScale" (227 : Nat) ({ cls := "YesterdayScale$Asking", name := "begin", desc := "(I)V" } : Jvm.MethodName)) ∈ gT := gT_in 861 (by decide +kernel) (by decide +kernel)
set_option maxRecDepth 20000 in
theorem tI_X0_begin : (Jvm.Cond.instanceMethod ({ cls := "YesterdayScale$Asking", name := "begin", desc := "(I)V" } : Jvm.MethodName)) ∈ gT := gT_in 862 (by decide +kernel) (by decide +kernel)
set_option maxRecDepth 20000 in
theorem tSel_X0_X0_X0_begin : (Jvm.Cond.selects "YesterdayScale$Asking" ({ cls := "YesterdayScale$Asking", name := "begin", desc := "(I)V" } : Jvm.MethodName) ({ cls := "YesterdayScale$Asking", name := "begin", desc := "(I)V" } : Jvm.MethodName)) ∈ gT := gT_in 863 (by decide +kernel) (by decide +kernel)
set_option maxRecDepth 20000 in
theorem tY_X0_begin : (Jvm.Cond.code ({ cls := "YesterdayScale$Asking", name := "begin", desc := "(I)V" } : Jvm.MethodName) prog_2_method_2_code (2 : Nat) (Option.none : Option Jvm.ClassFile.FieldType)) ∈ gT := gT_in 864 (by decide +kernel) (by decide +kernel)
set_option maxRecDepth 20000 in
theorem tM_X11_229 : (Jvm.Cond.methodLink "YesterdayScale" (229 : Nat) ({ cls := "YesterdayScale$Thing", name := "sizeBy", desc := "(LYesterdayScale$Asking;I)I" } : Jvm.MethodName)) ∈ gT := gT_in 865 (by decide +kernel) (by decide +kernel)
set_option maxRecDepth 20000 in
theorem tI_X7_sizeBy : (Jvm.Cond.instanceMethod ({ cls := "YesterdayScale$Thing", name := "sizeBy", desc := "(LYesterdayScale$Asking;I)I" } : Jvm.MethodName)) ∈ gT := gT_in 866 (by decide +kernel) (by decide +kernel)
set_option maxRecDepth 20000 in
theorem tSam_X7_X7_sizeBy : (Jvm.Cond.sameMethod "YesterdayScale$Thing" "YesterdayScale$Thing" "sizeBy" "(LYesterdayScale$Asking;I)I") ∈ gT := gT_in 867 (by decide +kernel) (by decide +kernel)
set_option maxRecDepth 20000 in
theorem tSel_X1_X7_X4_sizeBy : (Jvm.Cond.selects "YesterdayScale$Fish" ({ cls := "YesterdayScale$Thing", name := "sizeBy", desc := "(LYesterdayScale$Asking;I)I" } : Jvm.MethodName) ({ cls := "YesterdayScale$Salt", name := "sizeBy", desc := "(LYesterdayScale$Asking;I)I" } : Jvm.MethodName)) ∈ gT := gT_in 868 (by decide +kernel) (by decide +kernel)
set_option maxRecDepth 20000 in
theorem tI_X4_sizeBy : (Jvm.Cond.instanceMethod ({ cls := "YesterdayScale$Salt", name := "sizeBy", desc := "(LYesterdayScale$Asking;I)I" } : Jvm.MethodName)) ∈ gT := gT_in 869 (by decide +kernel) (by decide +kernel)
set_option maxRecDepth 20000 in
theorem tY_X4_sizeBy : (Jvm.Cond.code ({ cls := "YesterdayScale$Salt", name := "sizeBy", desc := "(LYesterdayScale$Asking;I)I" } : Jvm.MethodName) prog_6_method_3_code (4 : Nat) (Option.some Jvm.ClassFile.FieldType.int)) ∈ gT := gT_in 870 (by decide +kernel) (by decide +kernel)
set_option maxRecDepth 20000 in
theorem tM_X4_9 : (Jvm.Cond.methodLink "YesterdayScale$Salt" (9 : Nat) ({ cls := "YesterdayScale$Asking", name := "enter", desc := "(I)V" } : Jvm.MethodName)) ∈ gT := gT_in 871 (by decide +kernel) (by decide +kernel)
set_option maxRecDepth 20000 in
theorem tI_X0_enter : (Jvm.Cond.instanceMethod ({ cls := "YesterdayScale$Asking", name := "enter", desc := "(I)V" } : Jvm.MethodName)) ∈ gT := gT_in 872 (by decide +kernel) (by decide +kernel)
set_option maxRecDepth 20000 in
theorem tSel_X0_X0_X0_enter : (Jvm.Cond.selects "YesterdayScale$Asking" ({ cls := "YesterdayScale$Asking", name := "enter", desc := "(I)V" } : Jvm.MethodName) ({ cls := "YesterdayScale$Asking", name := "enter", desc := "(I)V" } : Jvm.MethodName)) ∈ gT := gT_in 873 (by decide +kernel) (by decide +kernel)
set_option maxRecDepth 20000 in
theorem tY_X0_enter : (Jvm.Cond.code ({ cls := "YesterdayScale$Asking", name := "enter", desc := "(I)V" } : Jvm.MethodName) prog_2_method_3_code (2 : Nat) (Option.none : Option Jvm.ClassFile.FieldType)) ∈ gT := gT_in 874 (by decide +kernel) (by decide +kernel)
set_option maxRecDepth 20000 in
theorem tM_X4_15 : (Jvm.Cond.methodLink "YesterdayScale$Salt" (15 : Nat) ({ cls := "YesterdayScale$Thing", name := "sizeBy", desc := "(LYesterdayScale$Asking;I)I" } : Jvm.MethodName)) ∈ gT := gT_in 875 (by decide +kernel) (by decide +kernel)
set_option maxRecDepth 20000 in
theorem tM_X4_19 : (Jvm.Cond.methodLink "YesterdayScale$Salt" (19 : Nat) ({ cls := "YesterdayScale$Salt", name := "markBy", desc := "(LYesterdayScale$Asking;I)I" } : Jvm.MethodName)) ∈ gT := gT_in 876 (by decide +kernel) (by decide +kernel)
set_option maxRecDepth 20000 in
theorem tI_X4_markBy : (Jvm.Cond.instanceMethod ({ cls := "YesterdayScale$Salt", name := "markBy", desc := "(LYesterdayScale$Asking;I)I" } : Jvm.MethodName)) ∈ gT := gT_in 877 (by decide +kernel) (by decide +kernel)
set_option maxRecDepth 20000 in
theorem tSel_X4_X4_X4_markBy : (Jvm.Cond.selects "YesterdayScale$Salt" ({ cls := "YesterdayScale$Salt", name := "markBy", desc := "(LYesterdayScale$Asking;I)I" } : Jvm.MethodName) ({ cls := "YesterdayScale$Salt", name := "markBy", desc := "(LYesterdayScale$Asking;I)I" } : Jvm.MethodName)) ∈ gT := gT_in 878 (by decide +kernel) (by decide +kernel)
set_option maxRecDepth 20000 in
theorem tSam_X4_X4_markBy : (Jvm.Cond.sameMethod "YesterdayScale$Salt" "YesterdayScale$Salt" "markBy" "(LYesterdayScale$Asking;I)I") ∈ gT := gT_in 879 (by decide +kernel) (by decide +kernel)
set_option maxRecDepth 20000 in
theorem tSel_X1_X4_X1_markBy : (Jvm.Cond.selects "YesterdayScale$Fish" ({ cls := "YesterdayScale$Salt", name := "markBy", desc := "(LYesterdayScale$Asking;I)I" } : Jvm.MethodName) ({ cls := "YesterdayScale$Fish", name := "markBy", desc := "(LYesterdayScale$Asking;I)I" } : Jvm.MethodName)) ∈ gT := gT_in 880 (by decide +kernel) (by decide +kernel)
set_option maxRecDepth 20000 in
theorem tI_X1_markBy : (Jvm.Cond.instanceMethod ({ cls := "YesterdayScale$Fish", name := "markBy", desc := "(LYesterdayScale$Asking;I)I" } : Jvm.MethodName)) ∈ gT := gT_in 881 (by decide +kernel) (by decide +kernel)
set_option maxRecDepth 20000 in
theorem tY_X1_markBy : (Jvm.Cond.code ({ cls := "YesterdayScale$Fish", name := "markBy", desc := "(LYesterdayScale$Asking;I)I" } : Jvm.MethodName) prog_3_method_4_code (3 : Nat) (Option.some Jvm.ClassFile.FieldType.int)) ∈ gT := gT_in 882 (by decide +kernel) (by decide +kernel)
set_option maxRecDepth 20000 in
theorem tM_X1_9 : (Jvm.Cond.methodLink "YesterdayScale$Fish" (9 : Nat) ({ cls := "YesterdayScale$Asking", name := "enter", desc := "(I)V" } : Jvm.MethodName)) ∈ gT := gT_in 883 (by decide +kernel) (by decide +kernel)
set_option maxRecDepth 20000 in
theorem tM_X1_15 : (Jvm.Cond.methodLink "YesterdayScale$Fish" (15 : Nat) ({ cls := "YesterdayScale$Salt", name := "markBy", desc := "(LYesterdayScale$Asking;I)I" } : Jvm.MethodName)) ∈ gT := gT_in 884 (by decide +kernel) (by decide +kernel)
set_option maxRecDepth 20000 in
theorem tSel_X9_X4_X9_markBy : (Jvm.Cond.selects "YesterdayScale$Wool" ({ cls := "YesterdayScale$Salt", name := "markBy", desc := "(LYesterdayScale$Asking;I)I" } : Jvm.MethodName) ({ cls := "YesterdayScale$Wool", name := "markBy", desc := "(LYesterdayScale$Asking;I)I" } : Jvm.MethodName)) ∈ gT := gT_in 885 (by decide +kernel) (by decide +kernel)
set_option maxRecDepth 20000 in
theorem tI_X9_markBy : (Jvm.Cond.instanceMethod ({ cls := "YesterdayScale$Wool", name := "markBy", desc := "(LYesterdayScale$Asking;I)I" } : Jvm.MethodName)) ∈ gT := gT_in 886 (by decide +kernel) (by decide +kernel)
set_option maxRecDepth 20000 in
theorem tY_X9_markBy : (Jvm.Cond.code ({ cls := "YesterdayScale$Wool", name := "markBy", desc := "(LYesterdayScale$Asking;I)I" } : Jvm.MethodName) prog_11_method_5_code (3 : Nat) (Option.some Jvm.ClassFile.FieldType.int)) ∈ gT := gT_in 887 (by decide +kernel) (by decide +kernel)
set_option maxRecDepth 20000 in
theorem tM_X9_9 : (Jvm.Cond.methodLink "YesterdayScale$Wool" (9 : Nat) ({ cls := "YesterdayScale$Asking", name := "enter", desc := "(I)V" } : Jvm.MethodName)) ∈ gT := gT_in 888 (by decide +kernel) (by decide +kernel)
set_option maxRecDepth 20000 in
theorem tM_X9_19 : (Jvm.Cond.methodLink "YesterdayScale$Wool" (19 : Nat) ({ cls := "YesterdayScale$Salt", name := "markBy", desc := "(LYesterdayScale$Asking;I)I" } : Jvm.MethodName)) ∈ gT := gT_in 889 (by decide +kernel) (by decide +kernel)
set_option maxRecDepth 20000 in
theorem tY_X4_markBy : (Jvm.Cond.code ({ cls := "YesterdayScale$Salt", name := "markBy", desc := "(LYesterdayScale$Asking;I)I" } : Jvm.MethodName) prog_6_method_4_code (3 : Nat) (Option.some Jvm.ClassFile.FieldType.int)) ∈ gT := gT_in 890 (by decide +kernel) (by decide +kernel)
set_option maxRecDepth 20000 in
theorem tM_X4_22 : (Jvm.Cond.methodLink "YesterdayScale$Salt" (22 : Nat) ({ cls := "YesterdayScale$Thing", name := "markBy", desc := "(LYesterdayScale$Asking;I)I" } : Jvm.MethodName)) ∈ gT := gT_in 891 (by decide +kernel) (by decide +kernel)
set_option maxRecDepth 20000 in
theorem tI_X7_markBy : (Jvm.Cond.instanceMethod ({ cls := "YesterdayScale$Thing", name := "markBy", desc := "(LYesterdayScale$Asking;I)I" } : Jvm.MethodName)) ∈ gT := gT_in 892 (by decide +kernel) (by decide +kernel)
set_option maxRecDepth 20000 in
theorem tY_X7_markBy : (Jvm.Cond.code ({ cls := "YesterdayScale$Thing", name := "markBy", desc := "(LYesterdayScale$Asking;I)I" } : Jvm.MethodName) prog_9_method_5_code (3 : Nat) (Option.some Jvm.ClassFile.FieldType.int)) ∈ gT := gT_in 893 (by decide +kernel) (by decide +kernel)
set_option maxRecDepth 20000 in
theorem tM_X7_16 : (Jvm.Cond.methodLink "YesterdayScale$Thing" (16 : Nat) ({ cls := "YesterdayScale$Asking", name := "enter", desc := "(I)V" } : Jvm.MethodName)) ∈ gT := gT_in 894 (by decide +kernel) (by decide +kernel)
set_option maxRecDepth 20000 in
theorem tSel_X4_X7_X4_sizeBy : (Jvm.Cond.selects "YesterdayScale$Salt" ({ cls := "YesterdayScale$Thing", name := "sizeBy", desc := "(LYesterdayScale$Asking;I)I" } : Jvm.MethodName) ({ cls := "YesterdayScale$Salt", name := "sizeBy", desc := "(LYesterdayScale$Asking;I)I" } : Jvm.MethodName)) ∈ gT := gT_in 895 (by decide +kernel) (by decide +kernel)
set_option maxRecDepth 20000 in
theorem tSel_X5_X7_X5_sizeBy : (Jvm.Cond.selects "YesterdayScale$Stone" ({ cls := "YesterdayScale$Thing", name := "sizeBy", desc := "(LYesterdayScale$Asking;I)I" } : Jvm.MethodName) ({ cls := "YesterdayScale$Stone", name := "sizeBy", desc := "(LYesterdayScale$Asking;I)I" } : Jvm.MethodName)) ∈ gT := gT_in 896 (by decide +kernel) (by decide +kernel)
set_option maxRecDepth 20000 in
theorem tI_X5_sizeBy : (Jvm.Cond.instanceMethod ({ cls := "YesterdayScale$Stone", name := "sizeBy", desc := "(LYesterdayScale$Asking;I)I" } : Jvm.MethodName)) ∈ gT := gT_in 897 (by decide +kernel) (by decide +kernel)
set_option maxRecDepth 20000 in
theorem tY_X5_sizeBy : (Jvm.Cond.code ({ cls := "YesterdayScale$Stone", name := "sizeBy", desc := "(LYesterdayScale$Asking;I)I" } : Jvm.MethodName) prog_7_method_3_code (3 : Nat) (Option.some Jvm.ClassFile.FieldType.int)) ∈ gT := gT_in 898 (by decide +kernel) (by decide +kernel)
set_option maxRecDepth 20000 in
theorem tM_X5_9 : (Jvm.Cond.methodLink "YesterdayScale$Stone" (9 : Nat) ({ cls := "YesterdayScale$Asking", name := "enter", desc := "(I)V" } : Jvm.MethodName)) ∈ gT := gT_in 899 (by decide +kernel) (by decide +kernel)
set_option maxRecDepth 20000 in
theorem tM_X5_15 : (Jvm.Cond.methodLink "YesterdayScale$Stone" (15 : Nat) ({ cls := "YesterdayScale$Thing", name := "sizeBy", desc := "(LYesterdayScale$Asking;I)I" } : Jvm.MethodName)) ∈ gT := gT_in 900 (by decide +kernel) (by decide +kernel)
set_option maxRecDepth 20000 in
theorem tSel_X8_X7_X8_sizeBy : (Jvm.Cond.selects "YesterdayScale$Whale" ({ cls := "YesterdayScale$Thing", name := "sizeBy", desc := "(LYesterdayScale$Asking;I)I" } : Jvm.MethodName) ({ cls := "YesterdayScale$Whale", name := "sizeBy", desc := "(LYesterdayScale$Asking;I)I" } : Jvm.MethodName)) ∈ gT := gT_in 901 (by decide +kernel) (by decide +kernel)
set_option maxRecDepth 20000 in
theorem tI_X8_sizeBy : (Jvm.Cond.instanceMethod ({ cls := "YesterdayScale$Whale", name := "sizeBy", desc := "(LYesterdayScale$Asking;I)I" } : Jvm.MethodName)) ∈ gT := gT_in 902 (by decide +kernel) (by decide +kernel)
set_option maxRecDepth 20000 in
theorem tY_X8_sizeBy : (Jvm.Cond.code ({ cls := "YesterdayScale$Whale", name := "sizeBy", desc := "(LYesterdayScale$Asking;I)I" } : Jvm.MethodName) prog_10_method_4_code (3 : Nat) (Option.some Jvm.ClassFile.FieldType.int)) ∈ gT := gT_in 903 (by decide +kernel) (by decide +kernel)
set_option maxRecDepth 20000 in
theorem tM_X8_9 : (Jvm.Cond.methodLink "YesterdayScale$Whale" (9 : Nat) ({ cls := "YesterdayScale$Asking", name := "enter", desc := "(I)V" } : Jvm.MethodName)) ∈ gT := gT_in 904 (by decide +kernel) (by decide +kernel)
set_option maxRecDepth 20000 in
theorem tM_X8_15 : (Jvm.Cond.methodLink "YesterdayScale$Whale" (15 : Nat) ({ cls := "YesterdayScale$Stone", name := "sizeBy", desc := "(LYesterdayScale$Asking;I)I" } : Jvm.MethodName)) ∈ gT := gT_in 905 (by decide +kernel) (by decide +kernel)
set_option maxRecDepth 20000 in
theorem tSel_X9_X7_X9_sizeBy : (Jvm.Cond.selects "YesterdayScale$Wool" ({ cls := "YesterdayScale$Thing", name := "sizeBy", desc := "(LYesterdayScale$Asking;I)I" } : Jvm.MethodName) ({ cls := "YesterdayScale$Wool", name := "sizeBy", desc := "(LYesterdayScale$Asking;I)I" } : Jvm.MethodName)) ∈ gT := gT_in 906 (by decide +kernel) (by decide +kernel)
set_option maxRecDepth 20000 in
theorem tI_X9_sizeBy : (Jvm.Cond.instanceMethod ({ cls := "YesterdayScale$Wool", name := "sizeBy", desc := "(LYesterdayScale$Asking;I)I" } : Jvm.MethodName)) ∈ gT := gT_in 907 (by decide +kernel) (by decide +kernel)
set_option maxRecDepth 20000 in
theorem tY_X9_sizeBy : (Jvm.Cond.code ({ cls := "YesterdayScale$Wool", name := "sizeBy", desc := "(LYesterdayScale$Asking;I)I" } : Jvm.MethodName) prog_11_method_4_code (3 : Nat) (Option.some Jvm.ClassFile.FieldType.int)) ∈ gT := gT_in 908 (by decide +kernel) (by decide +kernel)
set_option maxRecDepth 20000 in
theorem tM_X9_15 : (Jvm.Cond.methodLink "YesterdayScale$Wool" (15 : Nat) ({ cls := "YesterdayScale$Salt", name := "sizeBy", desc := "(LYesterdayScale$Asking;I)I" } : Jvm.MethodName)) ∈ gT := gT_in 909 (by decide +kernel) (by decide +kernel)
set_option maxRecDepth 20000 in
theorem tY_X7_sizeBy : (Jvm.Cond.code ({ cls := "YesterdayScale$Thing", name := "sizeBy", desc := "(LYesterdayScale$Asking;I)I" } : Jvm.MethodName) prog_9_method_4_code (3 : Nat) (Option.some Jvm.ClassFile.FieldType.int)) ∈ gT := gT_in 910 (by decide +kernel) (by decide +kernel)
set_option maxRecDepth 20000 in
theorem tM_X11_233 : (Jvm.Cond.methodLink "YesterdayScale" (233 : Nat) ({ cls := "YesterdayScale$Thing", name := "markBy", desc := "(LYesterdayScale$Asking;I)I" } : Jvm.MethodName)) ∈ gT := gT_in 911 (by decide +kernel) (by decide +kernel)
set_option maxRecDepth 20000 in
theorem tI_X5_markBy : (Jvm.Cond.instanceMethod ({ cls := "YesterdayScale$Stone", name := "markBy", desc := "(LYesterdayScale$Asking;I)I" } : Jvm.MethodName)) ∈ gT := gT_in 912 (by decide +kernel) (by decide +kernel)
set_option maxRecDepth 20000 in
theorem tY_X5_markBy : (Jvm.Cond.code ({ cls := "YesterdayScale$Stone", name := "markBy", desc := "(LYesterdayScale$Asking;I)I" } : Jvm.MethodName) prog_7_method_4_code (4 : Nat) (Option.some Jvm.ClassFile.FieldType.int)) ∈ gT := gT_in 913 (by decide +kernel) (by decide +kernel)
set_option maxRecDepth 20000 in
theorem tM_X5_19 : (Jvm.Cond.methodLink "YesterdayScale$Stone" (19 : Nat) ({ cls := "YesterdayScale$Thing", name := "markBy", desc := "(LYesterdayScale$Asking;I)I" } : Jvm.MethodName)) ∈ gT := gT_in 914 (by decide +kernel) (by decide +kernel)
set_option maxRecDepth 20000 in
theorem tM_X5_22 : (Jvm.Cond.methodLink "YesterdayScale$Stone" (22 : Nat) ({ cls := "YesterdayScale$Stone", name := "sizeBy", desc := "(LYesterdayScale$Asking;I)I" } : Jvm.MethodName)) ∈ gT := gT_in 915 (by decide +kernel) (by decide +kernel)
set_option maxRecDepth 20000 in
theorem tM_L_121 : (Jvm.Cond.methodLink "YesterdayScaleLaw" (121 : Nat) ({ cls := "YesterdayScale", name := "trace", desc := "(I)I" } : Jvm.MethodName)) ∈ gT := gT_in 916 (by decide +kernel) (by decide +kernel)
set_option maxRecDepth 20000 in
theorem tI_X11_trace : (Jvm.Cond.instanceMethod ({ cls := "YesterdayScale", name := "trace", desc := "(I)I" } : Jvm.MethodName)) ∈ gT := gT_in 917 (by decide +kernel) (by decide +kernel)
set_option maxRecDepth 20000 in
theorem tSel_X11_X11_X11_trace : (Jvm.Cond.selects "YesterdayScale" ({ cls := "YesterdayScale", name := "trace", desc := "(I)I" } : Jvm.MethodName) ({ cls := "YesterdayScale", name := "trace", desc := "(I)I" } : Jvm.MethodName)) ∈ gT := gT_in 918 (by decide +kernel) (by decide +kernel)
set_option maxRecDepth 20000 in
theorem tY_X11_trace : (Jvm.Cond.code ({ cls := "YesterdayScale", name := "trace", desc := "(I)I" } : Jvm.MethodName) prog_1_method_27_code (2 : Nat) (Option.some Jvm.ClassFile.FieldType.int)) ∈ gT := gT_in 919 (by decide +kernel) (by decide +kernel)
set_option maxRecDepth 20000 in
theorem tK_X11_242 : (Jvm.Cond.constant "YesterdayScale" (242 : Nat) (-1000000 : Int32)) ∈ gT := gT_in 920 (by decide +kernel) (by decide +kernel)
set_option maxRecDepth 20000 in
theorem tM_L_125 : (Jvm.Cond.methodLink "YesterdayScaleLaw" (125 : Nat) ({ cls := "YesterdayScale", name := "count", desc := "(I)I" } : Jvm.MethodName)) ∈ gT := gT_in 921 (by decide +kernel) (by decide +kernel)
set_option maxRecDepth 20000 in
theorem tI_X11_count : (Jvm.Cond.instanceMethod ({ cls := "YesterdayScale", name := "count", desc := "(I)I" } : Jvm.MethodName)) ∈ gT := gT_in 922 (by decide +kernel) (by decide +kernel)
set_option maxRecDepth 20000 in
theorem tSel_X11_X11_X11_count : (Jvm.Cond.selects "YesterdayScale" ({ cls := "YesterdayScale", name := "count", desc := "(I)I" } : Jvm.MethodName) ({ cls := "YesterdayScale", name := "count", desc := "(I)I" } : Jvm.MethodName)) ∈ gT := gT_in 923 (by decide +kernel) (by decide +kernel)
set_option maxRecDepth 20000 in
theorem tY_X11_count : (Jvm.Cond.code ({ cls := "YesterdayScale", name := "count", desc := "(I)I" } : Jvm.MethodName) prog_1_method_28_code (2 : Nat) (Option.some Jvm.ClassFile.FieldType.int)) ∈ gT := gT_in 924 (by decide +kernel) (by decide +kernel)
set_option maxRecDepth 20000 in
theorem tM_X11_243 : (Jvm.Cond.methodLink "YesterdayScale" (243 : Nat) ({ cls := "YesterdayScale", name := "howManyRows", desc := "()I" } : Jvm.MethodName)) ∈ gT := gT_in 925 (by decide +kernel) (by decide +kernel)
set_option maxRecDepth 20000 in
theorem tI_X11_howManyRows : (Jvm.Cond.instanceMethod ({ cls := "YesterdayScale", name := "howManyRows", desc := "()I" } : Jvm.MethodName)) ∈ gT := gT_in 927 (by decide +kernel) (by decide +kernel)
set_option maxRecDepth 20000 in
theorem tY_X11_howManyRows : (Jvm.Cond.code ({ cls := "YesterdayScale", name := "howManyRows", desc := "()I" } : Jvm.MethodName) prog_1_method_34_code (3 : Nat) (Option.some Jvm.ClassFile.FieldType.int)) ∈ gT := gT_in 928 (by decide +kernel) (by decide +kernel)
set_option maxRecDepth 20000 in
theorem tM_L_129 : (Jvm.Cond.methodLink "YesterdayScaleLaw" (129 : Nat) ({ cls := "YesterdayScale", name := "status", desc := "()I" } : Jvm.MethodName)) ∈ gT := gT_in 929 (by decide +kernel) (by decide +kernel)
set_option maxRecDepth 20000 in
theorem tI_X11_status : (Jvm.Cond.instanceMethod ({ cls := "YesterdayScale", name := "status", desc := "()I" } : Jvm.MethodName)) ∈ gT := gT_in 930 (by decide +kernel) (by decide +kernel)
set_option maxRecDepth 20000 in
theorem tSel_X11_X11_X11_status : (Jvm.Cond.selects "YesterdayScale" ({ cls := "YesterdayScale", name := "status", desc := "()I" } : Jvm.MethodName) ({ cls := "YesterdayScale", name := "status", desc := "()I" } : Jvm.MethodName)) ∈ gT := gT_in 931 (by decide +kernel) (by decide +kernel)
set_option maxRecDepth 20000 in
theorem tY_X11_status : (Jvm.Cond.code ({ cls := "YesterdayScale", name := "status", desc := "()I" } : Jvm.MethodName) prog_1_method_29_code (1 : Nat) (Option.some Jvm.ClassFile.FieldType.int)) ∈ gT := gT_in 932 (by decide +kernel) (by decide +kernel)
set_option maxRecDepth 20000 in
theorem tC_L_10 : (Jvm.Cond.classLink "YesterdayScaleLaw" (10 : Nat) "YesterdayScaleModel") ∈ gT := gT_in 933 (by decide +kernel) (by decide +kernel)
set_option maxRecDepth 20000 in
theorem tIns_X12 : (Jvm.Cond.instantiable "YesterdayScaleModel" (31 : Nat)) ∈ gT := gT_in 934 (by decide +kernel) (by decide +kernel)
set_option maxRecDepth 20000 in
theorem tM_L_12 : (Jvm.Cond.methodLink "YesterdayScaleLaw" (12 : Nat) ({ cls := "YesterdayScaleModel", name := "<init>", desc := "()V" } : Jvm.MethodName)) ∈ gT := gT_in 935 (by decide +kernel) (by decide +kernel)
set_option maxRecDepth 20000 in
theorem tI_X12_init : (Jvm.Cond.instanceMethod ({ cls := "YesterdayScaleModel", name := "<init>", desc := "()V" } : Jvm.MethodName)) ∈ gT := gT_in 936 (by decide +kernel) (by decide +kernel)
set_option maxRecDepth 20000 in
theorem tY_X12_init : (Jvm.Cond.code ({ cls := "YesterdayScaleModel", name := "<init>", desc := "()V" } : Jvm.MethodName) prog_14_method_1_code (1 : Nat) (Option.none : Option Jvm.ClassFile.FieldType)) ∈ gT := gT_in 937 (by decide +kernel) (by decide +kernel)
set_option maxRecDepth 20000 in
theorem tM_X12_1 : (Jvm.Cond.methodLink "YesterdayScaleModel" (1 : Nat) ({ cls := "java/lang/Object", name := "<init>", desc := "()V" } : Jvm.MethodName)) ∈ gT := gT_in 938 (by decide +kernel) (by decide +kernel)
set_option maxRecDepth 20000 in
theorem tF_X12_47 : (Jvm.Cond.fieldLink "YesterdayScaleModel" (47 : Nat) "YesterdayScaleModel" "thrown" "I") ∈ gT := gT_in 939 (by decide +kernel) (by decide +kernel)
set_option maxRecDepth 20000 in
theorem tF_X12_51 : (Jvm.Cond.fieldLink "YesterdayScaleModel" (51 : Nat) "YesterdayScaleModel" "status" "I") ∈ gT := gT_in 940 (by decide +kernel) (by decide +kernel)
set_option maxRecDepth 20000 in
theorem tF_X12_7 : (Jvm.Cond.fieldLink "YesterdayScaleModel" (7 : Nat) "YesterdayScaleModel" "lane" "[I") ∈ gT := gT_in 941 (by decide +kernel) (by decide +kernel)
set_option maxRecDepth 20000 in
theorem tF_X12_13 : (Jvm.Cond.fieldLink "YesterdayScaleModel" (13 : Nat) "YesterdayScaleModel" "many" "[I") ∈ gT := gT_in 942 (by decide +kernel) (by decide +kernel)
set_option maxRecDepth 20000 in
theorem tF_X12_16 : (Jvm.Cond.fieldLink "YesterdayScaleModel" (16 : Nat) "YesterdayScaleModel" "item" "[I") ∈ gT := gT_in 943 (by decide +kernel) (by decide +kernel)
set_option maxRecDepth 20000 in
theorem tF_X12_19 : (Jvm.Cond.fieldLink "YesterdayScaleModel" (19 : Nat) "YesterdayScaleModel" "port" "[I") ∈ gT := gT_in 944 (by decide +kernel) (by decide +kernel)
set_option maxRecDepth 20000 in
theorem tF_X12_22 : (Jvm.Cond.fieldLink "YesterdayScaleModel" (22 : Nat) "YesterdayScaleModel" "fresh" "[I") ∈ gT := gT_in 945 (by decide +kernel) (by decide +kernel)
set_option maxRecDepth 20000 in
theorem tF_X12_25 : (Jvm.Cond.fieldLink "YesterdayScaleModel" (25 : Nat) "YesterdayScaleModel" "tape" "[I") ∈ gT := gT_in 946 (by decide +kernel) (by decide +kernel)
set_option maxRecDepth 20000 in
theorem tF_X12_74 : (Jvm.Cond.fieldLink "YesterdayScaleModel" (74 : Nat) "YesterdayScaleModel" "taped" "I") ∈ gT := gT_in 947 (by decide +kernel) (by decide +kernel)
set_option maxRecDepth 20000 in
theorem tF_X12_170 : (Jvm.Cond.fieldLink "YesterdayScaleModel" (170 : Nat) "YesterdayScaleModel" "latest" "I") ∈ gT := gT_in 948 (by decide +kernel) (by decide +kernel)
set_option maxRecDepth 20000 in
theorem tF_X12_80 : (Jvm.Cond.fieldLink "YesterdayScaleModel" (80 : Nat) "YesterdayScaleModel" "length" "I") ∈ gT := gT_in 949 (by decide +kernel) (by decide +kernel)
set_option maxRecDepth 20000 in
theorem tF_X12_84 : (Jvm.Cond.fieldLink "YesterdayScaleModel" (84 : Nat) "YesterdayScaleModel" "cursor" "I") ∈ gT := gT_in 950 (by decide +kernel) (by decide +kernel)
set_option maxRecDepth 20000 in
theorem tF_X12_93 : (Jvm.Cond.fieldLink "YesterdayScaleModel" (93 : Nat) "YesterdayScaleModel" "token" "I") ∈ gT := gT_in 951 (by decide +kernel) (by decide +kernel)
set_option maxRecDepth 20000 in
theorem tF_X12_90 : (Jvm.Cond.fieldLink "YesterdayScaleModel" (90 : Nat) "YesterdayScaleModel" "start" "I") ∈ gT := gT_in 952 (by decide +kernel) (by decide +kernel)
set_option maxRecDepth 20000 in
theorem tF_X12_102 : (Jvm.Cond.fieldLink "YesterdayScaleModel" (102 : Nat) "YesterdayScaleModel" "till" "I") ∈ gT := gT_in 953 (by decide +kernel) (by decide +kernel)
set_option maxRecDepth 20000 in
theorem tF_X12_105 : (Jvm.Cond.fieldLink "YesterdayScaleModel" (105 : Nat) "YesterdayScaleModel" "fault" "I") ∈ gT := gT_in 954 (by decide +kernel) (by decide +kernel)
set_option maxRecDepth 20000 in
theorem tF_X12_111 : (Jvm.Cond.fieldLink "YesterdayScaleModel" (111 : Nat) "YesterdayScaleModel" "faultAt" "I") ∈ gT := gT_in 955 (by decide +kernel) (by decide +kernel)
set_option maxRecDepth 20000 in
theorem tF_X12_28 : (Jvm.Cond.fieldLink "YesterdayScaleModel" (28 : Nat) "YesterdayScaleModel" "weight" "[I") ∈ gT := gT_in 956 (by decide +kernel) (by decide +kernel)
set_option maxRecDepth 20000 in
theorem tF_X12_174 : (Jvm.Cond.fieldLink "YesterdayScaleModel" (174 : Nat) "YesterdayScaleModel" "keeps" "I") ∈ gT := gT_in 957 (by decide +kernel) (by decide +kernel)
set_option maxRecDepth 20000 in
theorem tF_X12_177 : (Jvm.Cond.fieldLink "YesterdayScaleModel" (177 : Nat) "YesterdayScaleModel" "half" "I") ∈ gT := gT_in 958 (by decide +kernel) (by decide +kernel)
set_option maxRecDepth 20000 in
theorem tF_X12_180 : (Jvm.Cond.fieldLink "YesterdayScaleModel" (180 : Nat) "YesterdayScaleModel" "errorAt" "I") ∈ gT := gT_in 959 (by decide +kernel) (by decide +kernel)
set_option maxRecDepth 20000 in
theorem tF_X12_31 : (Jvm.Cond.fieldLink "YesterdayScaleModel" (31 : Nat) "YesterdayScaleModel" "left" "[I") ∈ gT := gT_in 960 (by decide +kernel) (by decide +kernel)
set_option maxRecDepth 20000 in
theorem tF_X12_243 : (Jvm.Cond.fieldLink "YesterdayScaleModel" (243 : Nat) "YesterdayScaleModel" "leftMany" "I") ∈ gT := gT_in 961 (by decide +kernel) (by decide +kernel)
set_option maxRecDepth 20000 in
theorem tF_X12_34 : (Jvm.Cond.fieldLink "YesterdayScaleModel" (34 : Nat) "YesterdayScaleModel" "truly" "[I") ∈ gT := gT_in 962 (by decide +kernel) (by decide +kernel)
set_option maxRecDepth 20000 in
theorem tF_X12_246 : (Jvm.Cond.fieldLink "YesterdayScaleModel" (246 : Nat) "YesterdayScaleModel" "soonMany" "I") ∈ gT := gT_in 963 (by decide +kernel) (by decide +kernel)
set_option maxRecDepth 20000 in
theorem tF_X12_255 : (Jvm.Cond.fieldLink "YesterdayScaleModel" (255 : Nat) "YesterdayScaleModel" "soonSet" "I") ∈ gT := gT_in 964 (by decide +kernel) (by decide +kernel)
set_option maxRecDepth 20000 in
theorem tF_X12_258 : (Jvm.Cond.fieldLink "YesterdayScaleModel" (258 : Nat) "YesterdayScaleModel" "soonOther" "I") ∈ gT := gT_in 965 (by decide +kernel) (by decide +kernel)
set_option maxRecDepth 20000 in
theorem tF_X12_37 : (Jvm.Cond.fieldLink "YesterdayScaleModel" (37 : Nat) "YesterdayScaleModel" "isKept" "[Z") ∈ gT := gT_in 966 (by decide +kernel) (by decide +kernel)
set_option maxRecDepth 20000 in
theorem tF_X12_41 : (Jvm.Cond.fieldLink "YesterdayScaleModel" (41 : Nat) "YesterdayScaleModel" "kept" "[I") ∈ gT := gT_in 967 (by decide +kernel) (by decide +kernel)
set_option maxRecDepth 20000 in
theorem tF_X12_44 : (Jvm.Cond.fieldLink "YesterdayScaleModel" (44 : Nat) "YesterdayScaleModel" "trace" "[I") ∈ gT := gT_in 968 (by decide +kernel) (by decide +kernel)
set_option maxRecDepth 20000 in
theorem tF_X12_270 : (Jvm.Cond.fieldLink "YesterdayScaleModel" (270 : Nat) "YesterdayScaleModel" "traced" "I") ∈ gT := gT_in 969 (by decide +kernel) (by decide +kernel)
set_option maxRecDepth 20000 in
theorem tSup_X12 : (Jvm.Cond.superclass "YesterdayScaleModel" "java/lang/Object") ∈ gT := gT_in 1032 (by decide +kernel) (by decide +kernel)
set_option maxRecDepth 20000 in
theorem tArr_boolean : (Jvm.Cond.arrayClass Jvm.ClassFile.FieldType.boolean) ∈ gT := gT_in 1033 (by decide +kernel) (by decide +kernel)
set_option maxRecDepth 20000 in
theorem tM_L_17 : (Jvm.Cond.methodLink "YesterdayScaleLaw" (17 : Nat) ({ cls := "YesterdayScaleModel", name := "row", desc := "(III)I" } : Jvm.MethodName)) ∈ gT := gT_in 1034 (by decide +kernel) (by decide +kernel)
set_option maxRecDepth 20000 in
theorem tI_X12_row : (Jvm.Cond.instanceMethod ({ cls := "YesterdayScaleModel", name := "row", desc := "(III)I" } : Jvm.MethodName)) ∈ gT := gT_in 1035 (by decide +kernel) (by decide +kernel)
set_option maxRecDepth 20000 in
theorem tSel_X12_X12_X12_row : (Jvm.Cond.selects "YesterdayScaleModel" ({ cls := "YesterdayScaleModel", name := "row", desc := "(III)I" } : Jvm.MethodName) ({ cls := "YesterdayScaleModel", name := "row", desc := "(III)I" } : Jvm.MethodName)) ∈ gT := gT_in 1036 (by decide +kernel) (by decide +kernel)
set_option maxRecDepth 20000 in
theorem tY_X12_row : (Jvm.Cond.code ({ cls := "YesterdayScaleModel", name := "row", desc := "(III)I" } : Jvm.MethodName) prog_14_method_6_code (5 : Nat) (Option.some Jvm.ClassFile.FieldType.int)) ∈ gT := gT_in 1037 (by decide +kernel) (by decide +kernel)
set_option maxRecDepth 20000 in
theorem tM_X12_61 : (Jvm.Cond.methodLink "YesterdayScaleModel" (61 : Nat) ({ cls := "YesterdayScaleModel", name := "isRow", desc := "(I)Z" } : Jvm.MethodName)) ∈ gT := gT_in 1038 (by decide +kernel) (by decide +kernel)
set_option maxRecDepth 20000 in
theorem tS_X12_isRow : (Jvm.Cond.static ({ cls := "YesterdayScaleModel", name := "isRow", desc := "(I)Z" } : Jvm.MethodName)) ∈ gT := gT_in 1039 (by decide +kernel) (by decide +kernel)
set_option maxRecDepth 20000 in
theorem tY_X12_isRow : (Jvm.Cond.code ({ cls := "YesterdayScaleModel", name := "isRow", desc := "(I)Z" } : Jvm.MethodName) prog_14_method_5_code (1 : Nat) (Option.some Jvm.ClassFile.FieldType.boolean)) ∈ gT := gT_in 1040 (by decide +kernel) (by decide +kernel)
set_option maxRecDepth 20000 in
theorem tL_X12_55 : (Jvm.Cond.constantLong "YesterdayScaleModel" (55 : Nat) (7 : Int64)) ∈ gT := gT_in 1041 (by decide +kernel) (by decide +kernel)
set_option maxRecDepth 20000 in
theorem tM_X12_57 : (Jvm.Cond.methodLink "YesterdayScaleModel" (57 : Nat) ({ cls := "YesterdayScaleModel", name := "in", desc := "(JJJ)Z" } : Jvm.MethodName)) ∈ gT := gT_in 1042 (by decide +kernel) (by decide +kernel)
set_option maxRecDepth 20000 in
theorem tS_X12_in : (Jvm.Cond.static ({ cls := "YesterdayScaleModel", name := "in", desc := "(JJJ)Z" } : Jvm.MethodName)) ∈ gT := gT_in 1043 (by decide +kernel) (by decide +kernel)
set_option maxRecDepth 20000 in
theorem tY_X12_in : (Jvm.Cond.code ({ cls := "YesterdayScaleModel", name := "in", desc := "(JJJ)Z" } : Jvm.MethodName) prog_14_method_3_code (6 : Nat) (Option.some Jvm.ClassFile.FieldType.boolean)) ∈ gT := gT_in 1044 (by decide +kernel) (by decide +kernel)
set_option maxRecDepth 20000 in
theorem tL_X12_65 : (Jvm.Cond.constantLong "YesterdayScaleModel" (65 : Nat) (2 : Int64)) ∈ gT := gT_in 1045 (by decide +kernel) (by decide +kernel)
set_option maxRecDepth 20000 in
theorem tK_X12_67 : (Jvm.Cond.constant "YesterdayScaleModel" (67 : Nat) (-1000001 : Int32)) ∈ gT := gT_in 1046 (by decide +kernel) (by decide +kernel)
set_option maxRecDepth 20000 in
theorem tM_X12_68 : (Jvm.Cond.methodLink "YesterdayScaleModel" (68 : Nat) ({ cls := "YesterdayScaleModel", name := "finding", desc := "(I)I" } : Jvm.MethodName)) ∈ gT := gT_in 1047 (by decide +kernel) (by decide +kernel)
set_option maxRecDepth 20000 in
theorem tI_X12_finding : (Jvm.Cond.instanceMethod ({ cls := "YesterdayScaleModel", name := "finding", desc := "(I)I" } : Jvm.MethodName)) ∈ gT := gT_in 1049 (by decide +kernel) (by decide +kernel)
set_option maxRecDepth 20000 in
theorem tY_X12_finding : (Jvm.Cond.code ({ cls := "YesterdayScaleModel", name := "finding", desc := "(I)I" } : Jvm.MethodName) prog_14_method_4_code (2 : Nat) (Option.some Jvm.ClassFile.FieldType.int)) ∈ gT := gT_in 1050 (by decide +kernel) (by decide +kernel)
set_option maxRecDepth 20000 in
theorem tK_X12_54 : (Jvm.Cond.constant "YesterdayScaleModel" (54 : Nat) (-1000010 : Int32)) ∈ gT := gT_in 1051 (by decide +kernel) (by decide +kernel)
set_option maxRecDepth 20000 in
theorem tM_L_21 : (Jvm.Cond.methodLink "YesterdayScaleLaw" (21 : Nat) ({ cls := "YesterdayScaleModel", name := "set", desc := "(III)I" } : Jvm.MethodName)) ∈ gT := gT_in 1052 (by decide +kernel) (by decide +kernel)
set_option maxRecDepth 20000 in
theorem tI_X12_set : (Jvm.Cond.instanceMethod ({ cls := "YesterdayScaleModel", name := "set", desc := "(III)I" } : Jvm.MethodName)) ∈ gT := gT_in 1053 (by decide +kernel) (by decide +kernel)
set_option maxRecDepth 20000 in
theorem tSel_X12_X12_X12_set : (Jvm.Cond.selects "YesterdayScaleModel" ({ cls := "YesterdayScaleModel", name := "set", desc := "(III)I" } : Jvm.MethodName) ({ cls := "YesterdayScaleModel", name := "set", desc := "(III)I" } : Jvm.MethodName)) ∈ gT := gT_in 1054 (by decide +kernel) (by decide +kernel)
set_option maxRecDepth 20000 in
theorem tY_X12_set : (Jvm.Cond.code ({ cls := "YesterdayScaleModel", name := "set", desc := "(III)I" } : Jvm.MethodName) prog_14_method_7_code (4 : Nat) (Option.some Jvm.ClassFile.FieldType.int)) ∈ gT := gT_in 1055 (by decide +kernel) (by decide +kernel)
set_option maxRecDepth 20000 in
theorem tM_L_26 : (Jvm.Cond.methodLink "YesterdayScaleLaw" (26 : Nat) ({ cls := "YesterdayScaleModel", name := "copy", desc := "(IIIII)I" } : Jvm.MethodName)) ∈ gT := gT_in 1056 (by decide +kernel) (by decide +kernel)
set_option maxRecDepth 20000 in
theorem tI_X12_copy : (Jvm.Cond.instanceMethod ({ cls := "YesterdayScaleModel", name := "copy", desc := "(IIIII)I" } : Jvm.MethodName)) ∈ gT := gT_in 1057 (by decide +kernel) (by decide +kernel)
set_option maxRecDepth 20000 in
theorem tSel_X12_X12_X12_copy : (Jvm.Cond.selects "YesterdayScaleModel" ({ cls := "YesterdayScaleModel", name := "copy", desc := "(IIIII)I" } : Jvm.MethodName) ({ cls := "YesterdayScaleModel", name := "copy", desc := "(IIIII)I" } : Jvm.MethodName)) ∈ gT := gT_in 1058 (by decide +kernel) (by decide +kernel)
set_option maxRecDepth 20000 in
theorem tY_X12_copy : (Jvm.Cond.code ({ cls := "YesterdayScaleModel", name := "copy", desc := "(IIIII)I" } : Jvm.MethodName) prog_14_method_8_code (9 : Nat) (Option.some Jvm.ClassFile.FieldType.int)) ∈ gT := gT_in 1059 (by decide +kernel) (by decide +kernel)
set_option maxRecDepth 20000 in
theorem tM_L_31 : (Jvm.Cond.methodLink "YesterdayScaleLaw" (31 : Nat) ({ cls := "YesterdayScaleModel", name := "drop", desc := "(I)I" } : Jvm.MethodName)) ∈ gT := gT_in 1060 (by decide +kernel) (by decide +kernel)
set_option maxRecDepth 20000 in
theorem tI_X12_drop : (Jvm.Cond.instanceMethod ({ cls := "YesterdayScaleModel", name := "drop", desc := "(I)I" } : Jvm.MethodName)) ∈ gT := gT_in 1061 (by decide +kernel) (by decide +kernel)
set_option maxRecDepth 20000 in
theorem tSel_X12_X12_X12_drop : (Jvm.Cond.selects "YesterdayScaleModel" ({ cls := "YesterdayScaleModel", name := "drop", desc := "(I)I" } : Jvm.MethodName) ({ cls := "YesterdayScaleModel", name := "drop", desc := "(I)I" } : Jvm.MethodName)) ∈ gT := gT_in 1062 (by decide +kernel) (by decide +kernel)
set_option maxRecDepth 20000 in
theorem tY_X12_drop : (Jvm.Cond.code ({ cls := "YesterdayScaleModel", name := "drop", desc := "(I)I" } : Jvm.MethodName) prog_14_method_9_code (2 : Nat) (Option.some Jvm.ClassFile.FieldType.int)) ∈ gT := gT_in 1063 (by decide +kernel) (by decide +kernel)
set_option maxRecDepth 20000 in
theorem tM_L_38 : (Jvm.Cond.methodLink "YesterdayScaleLaw" (38 : Nat) ({ cls := "YesterdayScaleModel", name := "feed", desc := "(JI)I" } : Jvm.MethodName)) ∈ gT := gT_in 1064 (by decide +kernel) (by decide +kernel)
set_option maxRecDepth 20000 in
theorem tI_X12_feed : (Jvm.Cond.instanceMethod ({ cls := "YesterdayScaleModel", name := "feed", desc := "(JI)I" } : Jvm.MethodName)) ∈ gT := gT_in 1065 (by decide +kernel) (by decide +kernel)
set_option maxRecDepth 20000 in
theorem tSel_X12_X12_X12_feed : (Jvm.Cond.selects "YesterdayScaleModel" ({ cls := "YesterdayScaleModel", name := "feed", desc := "(JI)I" } : Jvm.MethodName) ({ cls := "YesterdayScaleModel", name := "feed", desc := "(JI)I" } : Jvm.MethodName)) ∈ gT := gT_in 1066 (by decide +kernel) (by decide +kernel)
set_option maxRecDepth 20000 in
theorem tY_X12_feed : (Jvm.Cond.code ({ cls := "YesterdayScaleModel", name := "feed", desc := "(JI)I" } : Jvm.MethodName) prog_14_method_10_code (5 : Nat) (Option.some Jvm.ClassFile.FieldType.int)) ∈ gT := gT_in 1067 (by decide +kernel) (by decide +kernel)
set_option maxRecDepth 20000 in
theorem tL_X12_72 : (Jvm.Cond.constantLong "YesterdayScaleModel" (72 : Nat) (8 : Int64)) ∈ gT := gT_in 1068 (by decide +kernel) (by decide +kernel)
set_option maxRecDepth 20000 in
theorem tK_X12_77 : (Jvm.Cond.constant "YesterdayScaleModel" (77 : Nat) (-1000003 : Int32)) ∈ gT := gT_in 1069 (by decide +kernel) (by decide +kernel)
set_option maxRecDepth 20000 in
theorem tL_X12_78 : (Jvm.Cond.constantLong "YesterdayScaleModel" (78 : Nat) (255 : Int64)) ∈ gT := gT_in 1070 (by decide +kernel) (by decide +kernel)
set_option maxRecDepth 20000 in
theorem tM_L_43 : (Jvm.Cond.methodLink "YesterdayScaleLaw" (43 : Nat) ({ cls := "YesterdayScaleModel", name := "port", desc := "()I" } : Jvm.MethodName)) ∈ gT := gT_in 1071 (by decide +kernel) (by decide +kernel)
set_option maxRecDepth 20000 in
theorem tI_X12_port : (Jvm.Cond.instanceMethod ({ cls := "YesterdayScaleModel", name := "port", desc := "()I" } : Jvm.MethodName)) ∈ gT := gT_in 1072 (by decide +kernel) (by decide +kernel)
set_option maxRecDepth 20000 in
theorem tSel_X12_X12_X12_port : (Jvm.Cond.selects "YesterdayScaleModel" ({ cls := "YesterdayScaleModel", name := "port", desc := "()I" } : Jvm.MethodName) ({ cls := "YesterdayScaleModel", name := "port", desc := "()I" } : Jvm.MethodName)) ∈ gT := gT_in 1073 (by decide +kernel) (by decide +kernel)
set_option maxRecDepth 20000 in
theorem tY_X12_port : (Jvm.Cond.code ({ cls := "YesterdayScaleModel", name := "port", desc := "()I" } : Jvm.MethodName) prog_14_method_26_code (2 : Nat) (Option.some Jvm.ClassFile.FieldType.int)) ∈ gT := gT_in 1074 (by decide +kernel) (by decide +kernel)
set_option maxRecDepth 20000 in
theorem tM_X12_155 : (Jvm.Cond.methodLink "YesterdayScaleModel" (155 : Nat) ({ cls := "YesterdayScaleModel", name := "begin", desc := "()V" } : Jvm.MethodName)) ∈ gT := gT_in 1075 (by decide +kernel) (by decide +kernel)
set_option maxRecDepth 20000 in
theorem tI_X12_begin : (Jvm.Cond.instanceMethod ({ cls := "YesterdayScaleModel", name := "begin", desc := "()V" } : Jvm.MethodName)) ∈ gT := gT_in 1077 (by decide +kernel) (by decide +kernel)
set_option maxRecDepth 20000 in
theorem tY_X12_begin : (Jvm.Cond.code ({ cls := "YesterdayScaleModel", name := "begin", desc := "()V" } : Jvm.MethodName) prog_14_method_15_code (1 : Nat) (Option.none : Option Jvm.ClassFile.FieldType)) ∈ gT := gT_in 1078 (by decide +kernel) (by decide +kernel)
set_option maxRecDepth 20000 in
theorem tM_X12_108 : (Jvm.Cond.methodLink "YesterdayScaleModel" (108 : Nat) ({ cls := "YesterdayScaleModel", name := "nextToken", desc := "()V" } : Jvm.MethodName)) ∈ gT := gT_in 1079 (by decide +kernel) (by decide +kernel)
set_option maxRecDepth 20000 in
theorem tI_X12_nextToken : (Jvm.Cond.instanceMethod ({ cls := "YesterdayScaleModel", name := "nextToken", desc := "()V" } : Jvm.MethodName)) ∈ gT := gT_in 1081 (by decide +kernel) (by decide +kernel)
set_option maxRecDepth 20000 in
theorem tY_X12_nextToken : (Jvm.Cond.code ({ cls := "YesterdayScaleModel", name := "nextToken", desc := "()V" } : Jvm.MethodName) prog_14_method_14_code (2 : Nat) (Option.none : Option Jvm.ClassFile.FieldType)) ∈ gT := gT_in 1082 (by decide +kernel) (by decide +kernel)
set_option maxRecDepth 20000 in
theorem tM_X12_87 : (Jvm.Cond.methodLink "YesterdayScaleModel" (87 : Nat) ({ cls := "YesterdayScaleModel", name := "byteAt", desc := "(I)I" } : Jvm.MethodName)) ∈ gT := gT_in 1083 (by decide +kernel) (by decide +kernel)
set_option maxRecDepth 20000 in
theorem tI_X12_byteAt : (Jvm.Cond.instanceMethod ({ cls := "YesterdayScaleModel", name := "byteAt", desc := "(I)I" } : Jvm.MethodName)) ∈ gT := gT_in 1085 (by decide +kernel) (by decide +kernel)
set_option maxRecDepth 20000 in
theorem tY_X12_byteAt : (Jvm.Cond.code ({ cls := "YesterdayScaleModel", name := "byteAt", desc := "(I)I" } : Jvm.MethodName) prog_14_method_11_code (2 : Nat) (Option.some Jvm.ClassFile.FieldType.int)) ∈ gT := gT_in 1086 (by decide +kernel) (by decide +kernel)
set_option maxRecDepth 20000 in
theorem tK_X12_83 : (Jvm.Cond.constant "YesterdayScaleModel" (83 : Nat) (-1000000 : Int32)) ∈ gT := gT_in 1087 (by decide +kernel) (by decide +kernel)
set_option maxRecDepth 20000 in
theorem tM_X12_96 : (Jvm.Cond.methodLink "YesterdayScaleModel" (96 : Nat) ({ cls := "YesterdayScaleModel", name := "isLetter", desc := "(I)Z" } : Jvm.MethodName)) ∈ gT := gT_in 1088 (by decide +kernel) (by decide +kernel)
set_option maxRecDepth 20000 in
theorem tS_X12_isLetter : (Jvm.Cond.static ({ cls := "YesterdayScaleModel", name := "isLetter", desc := "(I)Z" } : Jvm.MethodName)) ∈ gT := gT_in 1089 (by decide +kernel) (by decide +kernel)
set_option maxRecDepth 20000 in
theorem tY_X12_isLetter : (Jvm.Cond.code ({ cls := "YesterdayScaleModel", name := "isLetter", desc := "(I)Z" } : Jvm.MethodName) prog_14_method_12_code (1 : Nat) (Option.some Jvm.ClassFile.FieldType.boolean)) ∈ gT := gT_in 1090 (by decide +kernel) (by decide +kernel)
set_option maxRecDepth 20000 in
theorem tM_X12_99 : (Jvm.Cond.methodLink "YesterdayScaleModel" (99 : Nat) ({ cls := "YesterdayScaleModel", name := "isFigure", desc := "(I)Z" } : Jvm.MethodName)) ∈ gT := gT_in 1091 (by decide +kernel) (by decide +kernel)
set_option maxRecDepth 20000 in
theorem tS_X12_isFigure : (Jvm.Cond.static ({ cls := "YesterdayScaleModel", name := "isFigure", desc := "(I)Z" } : Jvm.MethodName)) ∈ gT := gT_in 1092 (by decide +kernel) (by decide +kernel)
set_option maxRecDepth 20000 in
theorem tY_X12_isFigure : (Jvm.Cond.code ({ cls := "YesterdayScaleModel", name := "isFigure", desc := "(I)Z" } : Jvm.MethodName) prog_14_method_13_code (1 : Nat) (Option.some Jvm.ClassFile.FieldType.boolean)) ∈ gT := gT_in 1093 (by decide +kernel) (by decide +kernel)
set_option maxRecDepth 20000 in
theorem tM_X12_140 : (Jvm.Cond.methodLink "YesterdayScaleModel" (140 : Nat) ({ cls := "YesterdayScaleModel", name := "name", desc := "()J" } : Jvm.MethodName)) ∈ gT := gT_in 1094 (by decide +kernel) (by decide +kernel)
set_option maxRecDepth 20000 in
theorem tI_X12_name : (Jvm.Cond.instanceMethod ({ cls := "YesterdayScaleModel", name := "name", desc := "()J" } : Jvm.MethodName)) ∈ gT := gT_in 1096 (by decide +kernel) (by decide +kernel)
set_option maxRecDepth 20000 in
theorem tY_X12_name : (Jvm.Cond.code ({ cls := "YesterdayScaleModel", name := "name", desc := "()J" } : Jvm.MethodName) prog_14_method_18_code (4 : Nat) (Option.some Jvm.ClassFile.FieldType.long)) ∈ gT := gT_in 1097 (by decide +kernel) (by decide +kernel)
set_option maxRecDepth 20000 in
theorem tL_X12_158 : (Jvm.Cond.constantLong "YesterdayScaleModel" (158 : Nat) (7102839 : Int64)) ∈ gT := gT_in 1098 (by decide +kernel) (by decide +kernel)
set_option maxRecDepth 20000 in
theorem tM_X12_122 : (Jvm.Cond.methodLink "YesterdayScaleModel" (122 : Nat) ({ cls := "YesterdayScaleModel", name := "must", desc := "(Z)V" } : Jvm.MethodName)) ∈ gT := gT_in 1099 (by decide +kernel) (by decide +kernel)
set_option maxRecDepth 20000 in
theorem tI_X12_must : (Jvm.Cond.instanceMethod ({ cls := "YesterdayScaleModel", name := "must", desc := "(Z)V" } : Jvm.MethodName)) ∈ gT := gT_in 1101 (by decide +kernel) (by decide +kernel)
set_option maxRecDepth 20000 in
theorem tY_X12_must : (Jvm.Cond.code ({ cls := "YesterdayScaleModel", name := "must", desc := "(Z)V" } : Jvm.MethodName) prog_14_method_17_code (2 : Nat) (Option.none : Option Jvm.ClassFile.FieldType)) ∈ gT := gT_in 1102 (by decide +kernel) (by decide +kernel)
set_option maxRecDepth 20000 in
theorem tM_X12_114 : (Jvm.Cond.methodLink "YesterdayScaleModel" (114 : Nat) ({ cls := "YesterdayScaleModel", name := "bad", desc := "(I)V" } : Jvm.MethodName)) ∈ gT := gT_in 1103 (by decide +kernel) (by decide +kernel)
set_option maxRecDepth 20000 in
theorem tI_X12_bad : (Jvm.Cond.instanceMethod ({ cls := "YesterdayScaleModel", name := "bad", desc := "(I)V" } : Jvm.MethodName)) ∈ gT := gT_in 1105 (by decide +kernel) (by decide +kernel)
set_option maxRecDepth 20000 in
theorem tY_X12_bad : (Jvm.Cond.code ({ cls := "YesterdayScaleModel", name := "bad", desc := "(I)V" } : Jvm.MethodName) prog_14_method_16_code (2 : Nat) (Option.none : Option Jvm.ClassFile.FieldType)) ∈ gT := gT_in 1106 (by decide +kernel) (by decide +kernel)
set_option maxRecDepth 20000 in
theorem tM_X12_148 : (Jvm.Cond.methodLink "YesterdayScaleModel" (148 : Nat) ({ cls := "YesterdayScaleModel", name := "number", desc := "(II)I" } : Jvm.MethodName)) ∈ gT := gT_in 1107 (by decide +kernel) (by decide +kernel)
set_option maxRecDepth 20000 in
theorem tI_X12_number : (Jvm.Cond.instanceMethod ({ cls := "YesterdayScaleModel", name := "number", desc := "(II)I" } : Jvm.MethodName)) ∈ gT := gT_in 1109 (by decide +kernel) (by decide +kernel)
set_option maxRecDepth 20000 in
theorem tY_X12_number : (Jvm.Cond.code ({ cls := "YesterdayScaleModel", name := "number", desc := "(II)I" } : Jvm.MethodName) prog_14_method_20_code (4 : Nat) (Option.some Jvm.ClassFile.FieldType.int)) ∈ gT := gT_in 1110 (by decide +kernel) (by decide +kernel)
set_option maxRecDepth 20000 in
theorem tM_X12_118 : (Jvm.Cond.methodLink "YesterdayScaleModel" (118 : Nat) ({ cls := "YesterdayScaleModel", name := "figures", desc := "()I" } : Jvm.MethodName)) ∈ gT := gT_in 1111 (by decide +kernel) (by decide +kernel)
set_option maxRecDepth 20000 in
theorem tI_X12_figures : (Jvm.Cond.instanceMethod ({ cls := "YesterdayScaleModel", name := "figures", desc := "()I" } : Jvm.MethodName)) ∈ gT := gT_in 1113 (by decide +kernel) (by decide +kernel)
set_option maxRecDepth 20000 in
theorem tY_X12_figures : (Jvm.Cond.code ({ cls := "YesterdayScaleModel", name := "figures", desc := "()I" } : Jvm.MethodName) prog_14_method_19_code (3 : Nat) (Option.some Jvm.ClassFile.FieldType.int)) ∈ gT := gT_in 1114 (by decide +kernel) (by decide +kernel)
set_option maxRecDepth 20000 in
theorem tM_X12_152 : (Jvm.Cond.methodLink "YesterdayScaleModel" (152 : Nat) ({ cls := "YesterdayScaleModel", name := "mustEnd", desc := "()V" } : Jvm.MethodName)) ∈ gT := gT_in 1115 (by decide +kernel) (by decide +kernel)
set_option maxRecDepth 20000 in
theorem tI_X12_mustEnd : (Jvm.Cond.instanceMethod ({ cls := "YesterdayScaleModel", name := "mustEnd", desc := "()V" } : Jvm.MethodName)) ∈ gT := gT_in 1117 (by decide +kernel) (by decide +kernel)
set_option maxRecDepth 20000 in
theorem tY_X12_mustEnd : (Jvm.Cond.code ({ cls := "YesterdayScaleModel", name := "mustEnd", desc := "()V" } : Jvm.MethodName) prog_14_method_22_code (1 : Nat) (Option.none : Option Jvm.ClassFile.FieldType)) ∈ gT := gT_in 1118 (by decide +kernel) (by decide +kernel)
set_option maxRecDepth 20000 in
theorem tL_X12_160 : (Jvm.Cond.constantLong "YesterdayScaleModel" (160 : Nat) (499967946343 : Int64)) ∈ gT := gT_in 1119 (by decide +kernel) (by decide +kernel)
set_option maxRecDepth 20000 in
theorem tM_X12_162 : (Jvm.Cond.methodLink "YesterdayScaleModel" (162 : Nat) ({ cls := "YesterdayScaleModel", name := "readThing", desc := "()V" } : Jvm.MethodName)) ∈ gT := gT_in 1120 (by decide +kernel) (by decide +kernel)
set_option maxRecDepth 20000 in
theorem tI_X12_readThing : (Jvm.Cond.instanceMethod ({ cls := "YesterdayScaleModel", name := "readThing", desc := "()V" } : Jvm.MethodName)) ∈ gT := gT_in 1122 (by decide +kernel) (by decide +kernel)
set_option maxRecDepth 20000 in
theorem tY_X12_readThing : (Jvm.Cond.code ({ cls := "YesterdayScaleModel", name := "readThing", desc := "()V" } : Jvm.MethodName) prog_14_method_24_code (3 : Nat) (Option.none : Option Jvm.ClassFile.FieldType)) ∈ gT := gT_in 1123 (by decide +kernel) (by decide +kernel)
set_option maxRecDepth 20000 in
theorem tM_X12_136 : (Jvm.Cond.methodLink "YesterdayScaleModel" (136 : Nat) ({ cls := "YesterdayScaleModel", name := "begins", desc := "(II)V" } : Jvm.MethodName)) ∈ gT := gT_in 1124 (by decide +kernel) (by decide +kernel)
set_option maxRecDepth 20000 in
theorem tI_X12_begins : (Jvm.Cond.instanceMethod ({ cls := "YesterdayScaleModel", name := "begins", desc := "(II)V" } : Jvm.MethodName)) ∈ gT := gT_in 1126 (by decide +kernel) (by decide +kernel)
set_option maxRecDepth 20000 in
theorem tY_X12_begins : (Jvm.Cond.code ({ cls := "YesterdayScaleModel", name := "begins", desc := "(II)V" } : Jvm.MethodName) prog_14_method_23_code (3 : Nat) (Option.none : Option Jvm.ClassFile.FieldType)) ∈ gT := gT_in 1127 (by decide +kernel) (by decide +kernel)
set_option maxRecDepth 20000 in
theorem tM_X12_144 : (Jvm.Cond.methodLink "YesterdayScaleModel" (144 : Nat) ({ cls := "YesterdayScaleModel", name := "kindBy", desc := "(J)I" } : Jvm.MethodName)) ∈ gT := gT_in 1128 (by decide +kernel) (by decide +kernel)
set_option maxRecDepth 20000 in
theorem tS_X12_kindBy : (Jvm.Cond.static ({ cls := "YesterdayScaleModel", name := "kindBy", desc := "(J)I" } : Jvm.MethodName)) ∈ gT := gT_in 1129 (by decide +kernel) (by decide +kernel)
set_option maxRecDepth 20000 in
theorem tY_X12_kindBy : (Jvm.Cond.code ({ cls := "YesterdayScaleModel", name := "kindBy", desc := "(J)I" } : Jvm.MethodName) prog_14_method_21_code (2 : Nat) (Option.some Jvm.ClassFile.FieldType.int)) ∈ gT := gT_in 1130 (by decide +kernel) (by decide +kernel)
set_option maxRecDepth 20000 in
theorem tL_X12_126 : (Jvm.Cond.constantLong "YesterdayScaleModel" (126 : Nat) (1935764596 : Int64)) ∈ gT := gT_in 1131 (by decide +kernel) (by decide +kernel)
set_option maxRecDepth 20000 in
theorem tL_X12_128 : (Jvm.Cond.constantLong "YesterdayScaleModel" (128 : Nat) (1718186856 : Int64)) ∈ gT := gT_in 1132 (by decide +kernel) (by decide +kernel)
set_option maxRecDepth 20000 in
theorem tL_X12_130 : (Jvm.Cond.constantLong "YesterdayScaleModel" (130 : Nat) (495874698853 : Int64)) ∈ gT := gT_in 1133 (by decide +kernel) (by decide +kernel)
set_option maxRecDepth 20000 in
theorem tL_X12_132 : (Jvm.Cond.constantLong "YesterdayScaleModel" (132 : Nat) (2003791724 : Int64)) ∈ gT := gT_in 1134 (by decide +kernel) (by decide +kernel)
set_option maxRecDepth 20000 in
theorem tL_X12_134 : (Jvm.Cond.constantLong "YesterdayScaleModel" (134 : Nat) (512852323429 : Int64)) ∈ gT := gT_in 1135 (by decide +kernel) (by decide +kernel)
set_option maxRecDepth 20000 in
theorem tL_X12_165 : (Jvm.Cond.constantLong "YesterdayScaleModel" (165 : Nat) (6578553 : Int64)) ∈ gT := gT_in 1136 (by decide +kernel) (by decide +kernel)
set_option maxRecDepth 20000 in
theorem tM_X12_167 : (Jvm.Cond.methodLink "YesterdayScaleModel" (167 : Nat) ({ cls := "YesterdayScaleModel", name := "readDay", desc := "()V" } : Jvm.MethodName)) ∈ gT := gT_in 1137 (by decide +kernel) (by decide +kernel)
set_option maxRecDepth 20000 in
theorem tI_X12_readDay : (Jvm.Cond.instanceMethod ({ cls := "YesterdayScaleModel", name := "readDay", desc := "()V" } : Jvm.MethodName)) ∈ gT := gT_in 1139 (by decide +kernel) (by decide +kernel)
set_option maxRecDepth 20000 in
theorem tY_X12_readDay : (Jvm.Cond.code ({ cls := "YesterdayScaleModel", name := "readDay", desc := "()V" } : Jvm.MethodName) prog_14_method_25_code (2 : Nat) (Option.none : Option Jvm.ClassFile.FieldType)) ∈ gT := gT_in 1140 (by decide +kernel) (by decide +kernel)
set_option maxRecDepth 20000 in
theorem tK_X12_173 : (Jvm.Cond.constant "YesterdayScaleModel" (173 : Nat) (-1000100 : Int32)) ∈ gT := gT_in 1141 (by decide +kernel) (by decide +kernel)
set_option maxRecDepth 20000 in
theorem tM_L_47 : (Jvm.Cond.methodLink "YesterdayScaleLaw" (47 : Nat) ({ cls := "YesterdayScaleModel", name := "fault", desc := "()I" } : Jvm.MethodName)) ∈ gT := gT_in 1142 (by decide +kernel) (by decide +kernel)
set_option maxRecDepth 20000 in
theorem tI_X12_fault : (Jvm.Cond.instanceMethod ({ cls := "YesterdayScaleModel", name := "fault", desc := "()I" } : Jvm.MethodName)) ∈ gT := gT_in 1143 (by decide +kernel) (by decide +kernel)
set_option maxRecDepth 20000 in
theorem tSel_X12_X12_X12_fault : (Jvm.Cond.selects "YesterdayScaleModel" ({ cls := "YesterdayScaleModel", name := "fault", desc := "()I" } : Jvm.MethodName) ({ cls := "YesterdayScaleModel", name := "fault", desc := "()I" } : Jvm.MethodName)) ∈ gT := gT_in 1144 (by decide +kernel) (by decide +kernel)
set_option maxRecDepth 20000 in
theorem tY_X12_fault : (Jvm.Cond.code ({ cls := "YesterdayScaleModel", name := "fault", desc := "()I" } : Jvm.MethodName) prog_14_method_27_code (1 : Nat) (Option.some Jvm.ClassFile.FieldType.int)) ∈ gT := gT_in 1145 (by decide +kernel) (by decide +kernel)
set_option maxRecDepth 20000 in
theorem tM_L_51 : (Jvm.Cond.methodLink "YesterdayScaleLaw" (51 : Nat) ({ cls := "YesterdayScaleModel", name := "day", desc := "(I)I" } : Jvm.MethodName)) ∈ gT := gT_in 1146 (by decide +kernel) (by decide +kernel)
set_option maxRecDepth 20000 in
theorem tI_X12_day : (Jvm.Cond.instanceMethod ({ cls := "YesterdayScaleModel", name := "day", desc := "(I)I" } : Jvm.MethodName)) ∈ gT := gT_in 1147 (by decide +kernel) (by decide +kernel)
set_option maxRecDepth 20000 in
theorem tSel_X12_X12_X12_day : (Jvm.Cond.selects "YesterdayScaleModel" ({ cls := "YesterdayScaleModel", name := "day", desc := "(I)I" } : Jvm.MethodName) ({ cls := "YesterdayScaleModel", name := "day", desc := "(I)I" } : Jvm.MethodName)) ∈ gT := gT_in 1148 (by decide +kernel) (by decide +kernel)
set_option maxRecDepth 20000 in
theorem tY_X12_day : (Jvm.Cond.code ({ cls := "YesterdayScaleModel", name := "day", desc := "(I)I" } : Jvm.MethodName) prog_14_method_40_code (2 : Nat) (Option.some Jvm.ClassFile.FieldType.int)) ∈ gT := gT_in 1149 (by decide +kernel) (by decide +kernel)
set_option maxRecDepth 20000 in
theorem tM_X12_195 : (Jvm.Cond.methodLink "YesterdayScaleModel" (195 : Nat) ({ cls := "YesterdayScaleModel", name := "isThere", desc := "()Z" } : Jvm.MethodName)) ∈ gT := gT_in 1150 (by decide +kernel) (by decide +kernel)
set_option maxRecDepth 20000 in
theorem tI_X12_isThere : (Jvm.Cond.instanceMethod ({ cls := "YesterdayScaleModel", name := "isThere", desc := "()Z" } : Jvm.MethodName)) ∈ gT := gT_in 1152 (by decide +kernel) (by decide +kernel)
set_option maxRecDepth 20000 in
theorem tY_X12_isThere : (Jvm.Cond.code ({ cls := "YesterdayScaleModel", name := "isThere", desc := "()Z" } : Jvm.MethodName) prog_14_method_28_code (1 : Nat) (Option.some Jvm.ClassFile.FieldType.boolean)) ∈ gT := gT_in 1153 (by decide +kernel) (by decide +kernel)
set_option maxRecDepth 20000 in
theorem tK_X12_199 : (Jvm.Cond.constant "YesterdayScaleModel" (199 : Nat) (-1000002 : Int32)) ∈ gT := gT_in 1154 (by decide +kernel) (by decide +kernel)
set_option maxRecDepth 20000 in
theorem tM_X12_200 : (Jvm.Cond.methodLink "YesterdayScaleModel" (200 : Nat) ({ cls := "YesterdayScaleModel", name := "isSet", desc := "(I)Z" } : Jvm.MethodName)) ∈ gT := gT_in 1155 (by decide +kernel) (by decide +kernel)
set_option maxRecDepth 20000 in
theorem tI_X12_isSet : (Jvm.Cond.instanceMethod ({ cls := "YesterdayScaleModel", name := "isSet", desc := "(I)Z" } : Jvm.MethodName)) ∈ gT := gT_in 1157 (by decide +kernel) (by decide +kernel)
set_option maxRecDepth 20000 in
theorem tY_X12_isSet : (Jvm.Cond.code ({ cls := "YesterdayScaleModel", name := "isSet", desc := "(I)Z" } : Jvm.MethodName) prog_14_method_31_code (2 : Nat) (Option.some Jvm.ClassFile.FieldType.boolean)) ∈ gT := gT_in 1158 (by decide +kernel) (by decide +kernel)
set_option maxRecDepth 20000 in
theorem tM_X12_203 : (Jvm.Cond.methodLink "YesterdayScaleModel" (203 : Nat) ({ cls := "YesterdayScaleModel", name := "layTruly", desc := "()V" } : Jvm.MethodName)) ∈ gT := gT_in 1159 (by decide +kernel) (by decide +kernel)
set_option maxRecDepth 20000 in
theorem tI_X12_layTruly : (Jvm.Cond.instanceMethod ({ cls := "YesterdayScaleModel", name := "layTruly", desc := "()V" } : Jvm.MethodName)) ∈ gT := gT_in 1161 (by decide +kernel) (by decide +kernel)
set_option maxRecDepth 20000 in
theorem tY_X12_layTruly : (Jvm.Cond.code ({ cls := "YesterdayScaleModel", name := "layTruly", desc := "()V" } : Jvm.MethodName) prog_14_method_33_code (2 : Nat) (Option.none : Option Jvm.ClassFile.FieldType)) ∈ gT := gT_in 1162 (by decide +kernel) (by decide +kernel)
set_option maxRecDepth 20000 in
theorem tM_X12_206 : (Jvm.Cond.methodLink "YesterdayScaleModel" (206 : Nat) ({ cls := "YesterdayScaleModel", name := "shows", desc := "(I)I" } : Jvm.MethodName)) ∈ gT := gT_in 1163 (by decide +kernel) (by decide +kernel)
set_option maxRecDepth 20000 in
theorem tI_X12_shows : (Jvm.Cond.instanceMethod ({ cls := "YesterdayScaleModel", name := "shows", desc := "(I)I" } : Jvm.MethodName)) ∈ gT := gT_in 1165 (by decide +kernel) (by decide +kernel)
set_option maxRecDepth 20000 in
theorem tY_X12_shows : (Jvm.Cond.code ({ cls := "YesterdayScaleModel", name := "shows", desc := "(I)I" } : Jvm.MethodName) prog_14_method_39_code (5 : Nat) (Option.some Jvm.ClassFile.FieldType.int)) ∈ gT := gT_in 1166 (by decide +kernel) (by decide +kernel)
set_option maxRecDepth 20000 in
theorem tM_X12_189 : (Jvm.Cond.methodLink "YesterdayScaleModel" (189 : Nat) ({ cls := "YesterdayScaleModel", name := "loadOn", desc := "(I)I" } : Jvm.MethodName)) ∈ gT := gT_in 1167 (by decide +kernel) (by decide +kernel)
set_option maxRecDepth 20000 in
theorem tI_X12_loadOn : (Jvm.Cond.instanceMethod ({ cls := "YesterdayScaleModel", name := "loadOn", desc := "(I)I" } : Jvm.MethodName)) ∈ gT := gT_in 1169 (by decide +kernel) (by decide +kernel)
set_option maxRecDepth 20000 in
theorem tY_X12_loadOn : (Jvm.Cond.code ({ cls := "YesterdayScaleModel", name := "loadOn", desc := "(I)I" } : Jvm.MethodName) prog_14_method_37_code (4 : Nat) (Option.some Jvm.ClassFile.FieldType.int)) ∈ gT := gT_in 1170 (by decide +kernel) (by decide +kernel)
set_option maxRecDepth 20000 in
theorem tM_X12_186 : (Jvm.Cond.methodLink "YesterdayScaleModel" (186 : Nat) ({ cls := "YesterdayScaleModel", name := "heavyOn", desc := "(II)I" } : Jvm.MethodName)) ∈ gT := gT_in 1171 (by decide +kernel) (by decide +kernel)
set_option maxRecDepth 20000 in
theorem tI_X12_heavyOn : (Jvm.Cond.instanceMethod ({ cls := "YesterdayScaleModel", name := "heavyOn", desc := "(II)I" } : Jvm.MethodName)) ∈ gT := gT_in 1173 (by decide +kernel) (by decide +kernel)
set_option maxRecDepth 20000 in
theorem tY_X12_heavyOn : (Jvm.Cond.code ({ cls := "YesterdayScaleModel", name := "heavyOn", desc := "(II)I" } : Jvm.MethodName) prog_14_method_36_code (3 : Nat) (Option.some Jvm.ClassFile.FieldType.int)) ∈ gT := gT_in 1174 (by decide +kernel) (by decide +kernel)
set_option maxRecDepth 20000 in
theorem tM_X12_183 : (Jvm.Cond.methodLink "YesterdayScaleModel" (183 : Nat) ({ cls := "YesterdayScaleModel", name := "kindOf", desc := "(I)I" } : Jvm.MethodName)) ∈ gT := gT_in 1175 (by decide +kernel) (by decide +kernel)
set_option maxRecDepth 20000 in
theorem tI_X12_kindOf : (Jvm.Cond.instanceMethod ({ cls := "YesterdayScaleModel", name := "kindOf", desc := "(I)I" } : Jvm.MethodName)) ∈ gT := gT_in 1177 (by decide +kernel) (by decide +kernel)
set_option maxRecDepth 20000 in
theorem tY_X12_kindOf : (Jvm.Cond.code ({ cls := "YesterdayScaleModel", name := "kindOf", desc := "(I)I" } : Jvm.MethodName) prog_14_method_32_code (2 : Nat) (Option.some Jvm.ClassFile.FieldType.int)) ∈ gT := gT_in 1178 (by decide +kernel) (by decide +kernel)
set_option maxRecDepth 20000 in
theorem tM_X12_192 : (Jvm.Cond.methodLink "YesterdayScaleModel" (192 : Nat) ({ cls := "YesterdayScaleModel", name := "isFresh", desc := "(I)Z" } : Jvm.MethodName)) ∈ gT := gT_in 1179 (by decide +kernel) (by decide +kernel)
set_option maxRecDepth 20000 in
theorem tI_X12_isFresh : (Jvm.Cond.instanceMethod ({ cls := "YesterdayScaleModel", name := "isFresh", desc := "(I)Z" } : Jvm.MethodName)) ∈ gT := gT_in 1181 (by decide +kernel) (by decide +kernel)
set_option maxRecDepth 20000 in
theorem tY_X12_isFresh : (Jvm.Cond.code ({ cls := "YesterdayScaleModel", name := "isFresh", desc := "(I)Z" } : Jvm.MethodName) prog_14_method_38_code (4 : Nat) (Option.some Jvm.ClassFile.FieldType.boolean)) ∈ gT := gT_in 1182 (by decide +kernel) (by decide +kernel)
set_option maxRecDepth 20000 in
theorem tM_L_55 : (Jvm.Cond.methodLink "YesterdayScaleLaw" (55 : Nat) ({ cls := "YesterdayScaleModel", name := "undo", desc := "()I" } : Jvm.MethodName)) ∈ gT := gT_in 1183 (by decide +kernel) (by decide +kernel)
set_option maxRecDepth 20000 in
theorem tI_X12_undo : (Jvm.Cond.instanceMethod ({ cls := "YesterdayScaleModel", name := "undo", desc := "()I" } : Jvm.MethodName)) ∈ gT := gT_in 1184 (by decide +kernel) (by decide +kernel)
set_option maxRecDepth 20000 in
theorem tSel_X12_X12_X12_undo : (Jvm.Cond.selects "YesterdayScaleModel" ({ cls := "YesterdayScaleModel", name := "undo", desc := "()I" } : Jvm.MethodName) ({ cls := "YesterdayScaleModel", name := "undo", desc := "()I" } : Jvm.MethodName)) ∈ gT := gT_in 1185 (by decide +kernel) (by decide +kernel)
set_option maxRecDepth 20000 in
theorem tY_X12_undo : (Jvm.Cond.code ({ cls := "YesterdayScaleModel", name := "undo", desc := "()I" } : Jvm.MethodName) prog_14_method_41_code (1 : Nat) (Option.some Jvm.ClassFile.FieldType.int)) ∈ gT := gT_in 1186 (by decide +kernel) (by decide +kernel)
set_option maxRecDepth 20000 in
theorem tM_L_60 : (Jvm.Cond.methodLink "YesterdayScaleLaw" (60 : Nat) ({ cls := "YesterdayScaleModel", name := "shown", desc := "(II)I" } : Jvm.MethodName)) ∈ gT := gT_in 1187 (by decide +kernel) (by decide +kernel)
set_option maxRecDepth 20000 in
theorem tI_X12_shown : (Jvm.Cond.instanceMethod ({ cls := "YesterdayScaleModel", name := "shown", desc := "(II)I" } : Jvm.MethodName)) ∈ gT := gT_in 1188 (by decide +kernel) (by decide +kernel)
set_option maxRecDepth 20000 in
theorem tSel_X12_X12_X12_shown : (Jvm.Cond.selects "YesterdayScaleModel" ({ cls := "YesterdayScaleModel", name := "shown", desc := "(II)I" } : Jvm.MethodName) ({ cls := "YesterdayScaleModel", name := "shown", desc := "(II)I" } : Jvm.MethodName)) ∈ gT := gT_in 1189 (by decide +kernel) (by decide +kernel)
set_option maxRecDepth 20000 in
theorem tY_X12_shown : (Jvm.Cond.code ({ cls := "YesterdayScaleModel", name := "shown", desc := "(II)I" } : Jvm.MethodName) prog_14_method_42_code (3 : Nat) (Option.some Jvm.ClassFile.FieldType.int)) ∈ gT := gT_in 1190 (by decide +kernel) (by decide +kernel)
set_option maxRecDepth 20000 in
theorem tM_X12_209 : (Jvm.Cond.methodLink "YesterdayScaleModel" (209 : Nat) ({ cls := "YesterdayScaleModel", name := "isDay", desc := "(I)Z" } : Jvm.MethodName)) ∈ gT := gT_in 1191 (by decide +kernel) (by decide +kernel)
set_option maxRecDepth 20000 in
theorem tI_X12_isDay : (Jvm.Cond.instanceMethod ({ cls := "YesterdayScaleModel", name := "isDay", desc := "(I)Z" } : Jvm.MethodName)) ∈ gT := gT_in 1193 (by decide +kernel) (by decide +kernel)
set_option maxRecDepth 20000 in
theorem tY_X12_isDay : (Jvm.Cond.code ({ cls := "YesterdayScaleModel", name := "isDay", desc := "(I)Z" } : Jvm.MethodName) prog_14_method_30_code (2 : Nat) (Option.some Jvm.ClassFile.FieldType.boolean)) ∈ gT := gT_in 1194 (by decide +kernel) (by decide +kernel)
set_option maxRecDepth 20000 in
theorem tL_X12_212 : (Jvm.Cond.constantLong "YesterdayScaleModel" (212 : Nat) (3 : Int64)) ∈ gT := gT_in 1195 (by decide +kernel) (by decide +kernel)
set_option maxRecDepth 20000 in
theorem tM_L_64 : (Jvm.Cond.methodLink "YesterdayScaleLaw" (64 : Nat) ({ cls := "YesterdayScaleModel", name := "heavy", desc := "(II)I" } : Jvm.MethodName)) ∈ gT := gT_in 1196 (by decide +kernel) (by decide +kernel)
set_option maxRecDepth 20000 in
theorem tI_X12_heavy : (Jvm.Cond.instanceMethod ({ cls := "YesterdayScaleModel", name := "heavy", desc := "(II)I" } : Jvm.MethodName)) ∈ gT := gT_in 1197 (by decide +kernel) (by decide +kernel)
set_option maxRecDepth 20000 in
theorem tSel_X12_X12_X12_heavy : (Jvm.Cond.selects "YesterdayScaleModel" ({ cls := "YesterdayScaleModel", name := "heavy", desc := "(II)I" } : Jvm.MethodName) ({ cls := "YesterdayScaleModel", name := "heavy", desc := "(II)I" } : Jvm.MethodName)) ∈ gT := gT_in 1198 (by decide +kernel) (by decide +kernel)
set_option maxRecDepth 20000 in
theorem tY_X12_heavy : (Jvm.Cond.code ({ cls := "YesterdayScaleModel", name := "heavy", desc := "(II)I" } : Jvm.MethodName) prog_14_method_43_code (3 : Nat) (Option.some Jvm.ClassFile.FieldType.int)) ∈ gT := gT_in 1199 (by decide +kernel) (by decide +kernel)
set_option maxRecDepth 20000 in
theorem tM_X12_214 : (Jvm.Cond.methodLink "YesterdayScaleModel" (214 : Nat) ({ cls := "YesterdayScaleModel", name := "isThing", desc := "(I)Z" } : Jvm.MethodName)) ∈ gT := gT_in 1200 (by decide +kernel) (by decide +kernel)
set_option maxRecDepth 20000 in
theorem tI_X12_isThing : (Jvm.Cond.instanceMethod ({ cls := "YesterdayScaleModel", name := "isThing", desc := "(I)Z" } : Jvm.MethodName)) ∈ gT := gT_in 1202 (by decide +kernel) (by decide +kernel)
set_option maxRecDepth 20000 in
theorem tY_X12_isThing : (Jvm.Cond.code ({ cls := "YesterdayScaleModel", name := "isThing", desc := "(I)Z" } : Jvm.MethodName) prog_14_method_29_code (2 : Nat) (Option.some Jvm.ClassFile.FieldType.boolean)) ∈ gT := gT_in 1203 (by decide +kernel) (by decide +kernel)
set_option maxRecDepth 20000 in
theorem tL_X12_217 : (Jvm.Cond.constantLong "YesterdayScaleModel" (217 : Nat) (-1 : Int64)) ∈ gT := gT_in 1204 (by decide +kernel) (by decide +kernel)
set_option maxRecDepth 20000 in
theorem tL_X12_219 : (Jvm.Cond.constantLong "YesterdayScaleModel" (219 : Nat) (99 : Int64)) ∈ gT := gT_in 1205 (by decide +kernel) (by decide +kernel)
set_option maxRecDepth 20000 in
theorem tM_L_68 : (Jvm.Cond.methodLink "YesterdayScaleLaw" (68 : Nat) ({ cls := "YesterdayScaleModel", name := "next", desc := "(I)I" } : Jvm.MethodName)) ∈ gT := gT_in 1206 (by decide +kernel) (by decide +kernel)
set_option maxRecDepth 20000 in
theorem tI_X12_next : (Jvm.Cond.instanceMethod ({ cls := "YesterdayScaleModel", name := "next", desc := "(I)I" } : Jvm.MethodName)) ∈ gT := gT_in 1207 (by decide +kernel) (by decide +kernel)
set_option maxRecDepth 20000 in
theorem tSel_X12_X12_X12_next : (Jvm.Cond.selects "YesterdayScaleModel" ({ cls := "YesterdayScaleModel", name := "next", desc := "(I)I" } : Jvm.MethodName) ({ cls := "YesterdayScaleModel", name := "next", desc := "(I)I" } : Jvm.MethodName)) ∈ gT := gT_in 1208 (by decide +kernel) (by decide +kernel)
set_option maxRecDepth 20000 in
theorem tY_X12_next : (Jvm.Cond.code ({ cls := "YesterdayScaleModel", name := "next", desc := "(I)I" } : Jvm.MethodName) prog_14_method_44_code (2 : Nat) (Option.some Jvm.ClassFile.FieldType.int)) ∈ gT := gT_in 1209 (by decide +kernel) (by decide +kernel)
set_option maxRecDepth 20000 in
theorem tM_L_72 : (Jvm.Cond.methodLink "YesterdayScaleLaw" (72 : Nat) ({ cls := "YesterdayScaleModel", name := "fits", desc := "(III)I" } : Jvm.MethodName)) ∈ gT := gT_in 1210 (by decide +kernel) (by decide +kernel)
set_option maxRecDepth 20000 in
theorem tI_X12_fits : (Jvm.Cond.instanceMethod ({ cls := "YesterdayScaleModel", name := "fits", desc := "(III)I" } : Jvm.MethodName)) ∈ gT := gT_in 1211 (by decide +kernel) (by decide +kernel)
set_option maxRecDepth 20000 in
theorem tSel_X12_X12_X12_fits : (Jvm.Cond.selects "YesterdayScaleModel" ({ cls := "YesterdayScaleModel", name := "fits", desc := "(III)I" } : Jvm.MethodName) ({ cls := "YesterdayScaleModel", name := "fits", desc := "(III)I" } : Jvm.MethodName)) ∈ gT := gT_in 1212 (by decide +kernel) (by decide +kernel)
set_option maxRecDepth 20000 in
theorem tY_X12_fits : (Jvm.Cond.code ({ cls := "YesterdayScaleModel", name := "fits", desc := "(III)I" } : Jvm.MethodName) prog_14_method_47_code (7 : Nat) (Option.some Jvm.ClassFile.FieldType.int)) ∈ gT := gT_in 1213 (by decide +kernel) (by decide +kernel)
set_option maxRecDepth 20000 in
theorem tM_X12_221 : (Jvm.Cond.methodLink "YesterdayScaleModel" (221 : Nat) ({ cls := "YesterdayScaleModel", name := "barred", desc := "(IZ)I" } : Jvm.MethodName)) ∈ gT := gT_in 1214 (by decide +kernel) (by decide +kernel)
set_option maxRecDepth 20000 in
theorem tI_X12_barred : (Jvm.Cond.instanceMethod ({ cls := "YesterdayScaleModel", name := "barred", desc := "(IZ)I" } : Jvm.MethodName)) ∈ gT := gT_in 1216 (by decide +kernel) (by decide +kernel)
set_option maxRecDepth 20000 in
theorem tY_X12_barred : (Jvm.Cond.code ({ cls := "YesterdayScaleModel", name := "barred", desc := "(IZ)I" } : Jvm.MethodName) prog_14_method_45_code (4 : Nat) (Option.some Jvm.ClassFile.FieldType.int)) ∈ gT := gT_in 1217 (by decide +kernel) (by decide +kernel)
set_option maxRecDepth 20000 in
theorem tM_X12_225 : (Jvm.Cond.methodLink "YesterdayScaleModel" (225 : Nat) ({ cls := "YesterdayScaleModel", name := "worlds", desc := "()I" } : Jvm.MethodName)) ∈ gT := gT_in 1218 (by decide +kernel) (by decide +kernel)
set_option maxRecDepth 20000 in
theorem tI_X12_worlds : (Jvm.Cond.instanceMethod ({ cls := "YesterdayScaleModel", name := "worlds", desc := "()I" } : Jvm.MethodName)) ∈ gT := gT_in 1220 (by decide +kernel) (by decide +kernel)
set_option maxRecDepth 20000 in
theorem tY_X12_worlds : (Jvm.Cond.code ({ cls := "YesterdayScaleModel", name := "worlds", desc := "()I" } : Jvm.MethodName) prog_14_method_35_code (1 : Nat) (Option.some Jvm.ClassFile.FieldType.int)) ∈ gT := gT_in 1221 (by decide +kernel) (by decide +kernel)
set_option maxRecDepth 20000 in
theorem tM_X12_228 : (Jvm.Cond.methodLink "YesterdayScaleModel" (228 : Nat) ({ cls := "YesterdayScaleModel", name := "layWorld", desc := "(I)V" } : Jvm.MethodName)) ∈ gT := gT_in 1222 (by decide +kernel) (by decide +kernel)
set_option maxRecDepth 20000 in
theorem tI_X12_layWorld : (Jvm.Cond.instanceMethod ({ cls := "YesterdayScaleModel", name := "layWorld", desc := "(I)V" } : Jvm.MethodName)) ∈ gT := gT_in 1224 (by decide +kernel) (by decide +kernel)
set_option maxRecDepth 20000 in
theorem tY_X12_layWorld : (Jvm.Cond.code ({ cls := "YesterdayScaleModel", name := "layWorld", desc := "(I)V" } : Jvm.MethodName) prog_14_method_34_code (3 : Nat) (Option.none : Option Jvm.ClassFile.FieldType)) ∈ gT := gT_in 1225 (by decide +kernel) (by decide +kernel)
set_option maxRecDepth 20000 in
theorem tM_X12_231 : (Jvm.Cond.methodLink "YesterdayScaleModel" (231 : Nat) ({ cls := "YesterdayScaleModel", name := "wrongDays", desc := "(I)I" } : Jvm.MethodName)) ∈ gT := gT_in 1226 (by decide +kernel) (by decide +kernel)
set_option maxRecDepth 20000 in
theorem tI_X12_wrongDays : (Jvm.Cond.instanceMethod ({ cls := "YesterdayScaleModel", name := "wrongDays", desc := "(I)I" } : Jvm.MethodName)) ∈ gT := gT_in 1228 (by decide +kernel) (by decide +kernel)
set_option maxRecDepth 20000 in
theorem tY_X12_wrongDays : (Jvm.Cond.code ({ cls := "YesterdayScaleModel", name := "wrongDays", desc := "(I)I" } : Jvm.MethodName) prog_14_method_46_code (5 : Nat) (Option.some Jvm.ClassFile.FieldType.int)) ∈ gT := gT_in 1229 (by decide +kernel) (by decide +kernel)
set_option maxRecDepth 20000 in
theorem tM_L_76 : (Jvm.Cond.methodLink "YesterdayScaleLaw" (76 : Nat) ({ cls := "YesterdayScaleModel", name := "sure", desc := "(II)I" } : Jvm.MethodName)) ∈ gT := gT_in 1230 (by decide +kernel) (by decide +kernel)
set_option maxRecDepth 20000 in
theorem tI_X12_sure : (Jvm.Cond.instanceMethod ({ cls := "YesterdayScaleModel", name := "sure", desc := "(II)I" } : Jvm.MethodName)) ∈ gT := gT_in 1231 (by decide +kernel) (by decide +kernel)
set_option maxRecDepth 20000 in
theorem tSel_X12_X12_X12_sure : (Jvm.Cond.selects "YesterdayScaleModel" ({ cls := "YesterdayScaleModel", name := "sure", desc := "(II)I" } : Jvm.MethodName) ({ cls := "YesterdayScaleModel", name := "sure", desc := "(II)I" } : Jvm.MethodName)) ∈ gT := gT_in 1232 (by decide +kernel) (by decide +kernel)
set_option maxRecDepth 20000 in
theorem tY_X12_sure : (Jvm.Cond.code ({ cls := "YesterdayScaleModel", name := "sure", desc := "(II)I" } : Jvm.MethodName) prog_14_method_48_code (6 : Nat) (Option.some Jvm.ClassFile.FieldType.int)) ∈ gT := gT_in 1233 (by decide +kernel) (by decide +kernel)
set_option maxRecDepth 20000 in
theorem tM_X12_234 : (Jvm.Cond.methodLink "YesterdayScaleModel" (234 : Nat) ({ cls := "YesterdayScaleModel", name := "oneOf", desc := "(I)I" } : Jvm.MethodName)) ∈ gT := gT_in 1234 (by decide +kernel) (by decide +kernel)
set_option maxRecDepth 20000 in
theorem tS_X12_oneOf : (Jvm.Cond.static ({ cls := "YesterdayScaleModel", name := "oneOf", desc := "(I)I" } : Jvm.MethodName)) ∈ gT := gT_in 1235 (by decide +kernel) (by decide +kernel)
set_option maxRecDepth 20000 in
theorem tY_X12_oneOf : (Jvm.Cond.code ({ cls := "YesterdayScaleModel", name := "oneOf", desc := "(I)I" } : Jvm.MethodName) prog_14_method_49_code (3 : Nat) (Option.some Jvm.ClassFile.FieldType.int)) ∈ gT := gT_in 1236 (by decide +kernel) (by decide +kernel)
set_option maxRecDepth 20000 in
theorem tM_L_80 : (Jvm.Cond.methodLink "YesterdayScaleLaw" (80 : Nat) ({ cls := "YesterdayScaleModel", name := "gap", desc := "(II)I" } : Jvm.MethodName)) ∈ gT := gT_in 1237 (by decide +kernel) (by decide +kernel)
set_option maxRecDepth 20000 in
theorem tI_X12_gap : (Jvm.Cond.instanceMethod ({ cls := "YesterdayScaleModel", name := "gap", desc := "(II)I" } : Jvm.MethodName)) ∈ gT := gT_in 1238 (by decide +kernel) (by decide +kernel)
set_option maxRecDepth 20000 in
theorem tSel_X12_X12_X12_gap : (Jvm.Cond.selects "YesterdayScaleModel" ({ cls := "YesterdayScaleModel", name := "gap", desc := "(II)I" } : Jvm.MethodName) ({ cls := "YesterdayScaleModel", name := "gap", desc := "(II)I" } : Jvm.MethodName)) ∈ gT := gT_in 1239 (by decide +kernel) (by decide +kernel)
set_option maxRecDepth 20000 in
theorem tY_X12_gap : (Jvm.Cond.code ({ cls := "YesterdayScaleModel", name := "gap", desc := "(II)I" } : Jvm.MethodName) prog_14_method_50_code (7 : Nat) (Option.some Jvm.ClassFile.FieldType.int)) ∈ gT := gT_in 1240 (by decide +kernel) (by decide +kernel)
set_option maxRecDepth 20000 in
theorem tM_L_84 : (Jvm.Cond.methodLink "YesterdayScaleLaw" (84 : Nat) ({ cls := "YesterdayScaleModel", name := "wrong", desc := "(II)I" } : Jvm.MethodName)) ∈ gT := gT_in 1241 (by decide +kernel) (by decide +kernel)
set_option maxRecDepth 20000 in
theorem tI_X12_wrong : (Jvm.Cond.instanceMethod ({ cls := "YesterdayScaleModel", name := "wrong", desc := "(II)I" } : Jvm.MethodName)) ∈ gT := gT_in 1242 (by decide +kernel) (by decide +kernel)
set_option maxRecDepth 20000 in
theorem tSel_X12_X12_X12_wrong : (Jvm.Cond.selects "YesterdayScaleModel" ({ cls := "YesterdayScaleModel", name := "wrong", desc := "(II)I" } : Jvm.MethodName) ({ cls := "YesterdayScaleModel", name := "wrong", desc := "(II)I" } : Jvm.MethodName)) ∈ gT := gT_in 1243 (by decide +kernel) (by decide +kernel)
set_option maxRecDepth 20000 in
theorem tY_X12_wrong : (Jvm.Cond.code ({ cls := "YesterdayScaleModel", name := "wrong", desc := "(II)I" } : Jvm.MethodName) prog_14_method_52_code (8 : Nat) (Option.some Jvm.ClassFile.FieldType.int)) ∈ gT := gT_in 1244 (by decide +kernel) (by decide +kernel)
set_option maxRecDepth 20000 in
theorem tM_X12_237 : (Jvm.Cond.methodLink "YesterdayScaleModel" (237 : Nat) ({ cls := "YesterdayScaleModel", name := "bits", desc := "(I)I" } : Jvm.MethodName)) ∈ gT := gT_in 1245 (by decide +kernel) (by decide +kernel)
set_option maxRecDepth 20000 in
theorem tS_X12_bits : (Jvm.Cond.static ({ cls := "YesterdayScaleModel", name := "bits", desc := "(I)I" } : Jvm.MethodName)) ∈ gT := gT_in 1246 (by decide +kernel) (by decide +kernel)
set_option maxRecDepth 20000 in
theorem tY_X12_bits : (Jvm.Cond.code ({ cls := "YesterdayScaleModel", name := "bits", desc := "(I)I" } : Jvm.MethodName) prog_14_method_51_code (3 : Nat) (Option.some Jvm.ClassFile.FieldType.int)) ∈ gT := gT_in 1247 (by decide +kernel) (by decide +kernel)
set_option maxRecDepth 20000 in
theorem tM_L_88 : (Jvm.Cond.methodLink "YesterdayScaleLaw" (88 : Nat) ({ cls := "YesterdayScaleModel", name := "soon", desc := "(I)I" } : Jvm.MethodName)) ∈ gT := gT_in 1248 (by decide +kernel) (by decide +kernel)
set_option maxRecDepth 20000 in
theorem tI_X12_soon : (Jvm.Cond.instanceMethod ({ cls := "YesterdayScaleModel", name := "soon", desc := "(I)I" } : Jvm.MethodName)) ∈ gT := gT_in 1249 (by decide +kernel) (by decide +kernel)
set_option maxRecDepth 20000 in
theorem tSel_X12_X12_X12_soon : (Jvm.Cond.selects "YesterdayScaleModel" ({ cls := "YesterdayScaleModel", name := "soon", desc := "(I)I" } : Jvm.MethodName) ({ cls := "YesterdayScaleModel", name := "soon", desc := "(I)I" } : Jvm.MethodName)) ∈ gT := gT_in 1250 (by decide +kernel) (by decide +kernel)
set_option maxRecDepth 20000 in
theorem tY_X12_soon : (Jvm.Cond.code ({ cls := "YesterdayScaleModel", name := "soon", desc := "(I)I" } : Jvm.MethodName) prog_14_method_57_code (2 : Nat) (Option.some Jvm.ClassFile.FieldType.int)) ∈ gT := gT_in 1251 (by decide +kernel) (by decide +kernel)
set_option maxRecDepth 20000 in
theorem tM_X12_261 : (Jvm.Cond.methodLink "YesterdayScaleModel" (261 : Nat) ({ cls := "YesterdayScaleModel", name := "laySoon", desc := "()V" } : Jvm.MethodName)) ∈ gT := gT_in 1252 (by decide +kernel) (by decide +kernel)
set_option maxRecDepth 20000 in
theorem tI_X12_laySoon : (Jvm.Cond.instanceMethod ({ cls := "YesterdayScaleModel", name := "laySoon", desc := "()V" } : Jvm.MethodName)) ∈ gT := gT_in 1254 (by decide +kernel) (by decide +kernel)
set_option maxRecDepth 20000 in
theorem tY_X12_laySoon : (Jvm.Cond.code ({ cls := "YesterdayScaleModel", name := "laySoon", desc := "()V" } : Jvm.MethodName) prog_14_method_56_code (4 : Nat) (Option.none : Option Jvm.ClassFile.FieldType)) ∈ gT := gT_in 1255 (by decide +kernel) (by decide +kernel)
set_option maxRecDepth 20000 in
theorem tM_X12_249 : (Jvm.Cond.methodLink "YesterdayScaleModel" (249 : Nat) ({ cls := "YesterdayScaleModel", name := "layLeft", desc := "()V" } : Jvm.MethodName)) ∈ gT := gT_in 1256 (by decide +kernel) (by decide +kernel)
set_option maxRecDepth 20000 in
theorem tI_X12_layLeft : (Jvm.Cond.instanceMethod ({ cls := "YesterdayScaleModel", name := "layLeft", desc := "()V" } : Jvm.MethodName)) ∈ gT := gT_in 1258 (by decide +kernel) (by decide +kernel)
set_option maxRecDepth 20000 in
theorem tY_X12_layLeft : (Jvm.Cond.code ({ cls := "YesterdayScaleModel", name := "layLeft", desc := "()V" } : Jvm.MethodName) prog_14_method_54_code (4 : Nat) (Option.none : Option Jvm.ClassFile.FieldType)) ∈ gT := gT_in 1259 (by decide +kernel) (by decide +kernel)
set_option maxRecDepth 20000 in
theorem tM_X12_240 : (Jvm.Cond.methodLink "YesterdayScaleModel" (240 : Nat) ({ cls := "YesterdayScaleModel", name := "layTrulyShown", desc := "(I)V" } : Jvm.MethodName)) ∈ gT := gT_in 1260 (by decide +kernel) (by decide +kernel)
set_option maxRecDepth 20000 in
theorem tI_X12_layTrulyShown : (Jvm.Cond.instanceMethod ({ cls := "YesterdayScaleModel", name := "layTrulyShown", desc := "(I)V" } : Jvm.MethodName)) ∈ gT := gT_in 1262 (by decide +kernel) (by decide +kernel)
set_option maxRecDepth 20000 in
theorem tY_X12_layTrulyShown : (Jvm.Cond.code ({ cls := "YesterdayScaleModel", name := "layTrulyShown", desc := "(I)V" } : Jvm.MethodName) prog_14_method_53_code (3 : Nat) (Option.none : Option Jvm.ClassFile.FieldType)) ∈ gT := gT_in 1263 (by decide +kernel) (by decide +kernel)
set_option maxRecDepth 20000 in
theorem tM_X12_252 : (Jvm.Cond.methodLink "YesterdayScaleModel" (252 : Nat) ({ cls := "YesterdayScaleModel", name := "isOne", desc := "(I)Z" } : Jvm.MethodName)) ∈ gT := gT_in 1264 (by decide +kernel) (by decide +kernel)
set_option maxRecDepth 20000 in
theorem tI_X12_isOne : (Jvm.Cond.instanceMethod ({ cls := "YesterdayScaleModel", name := "isOne", desc := "(I)Z" } : Jvm.MethodName)) ∈ gT := gT_in 1266 (by decide +kernel) (by decide +kernel)
set_option maxRecDepth 20000 in
theorem tY_X12_isOne : (Jvm.Cond.code ({ cls := "YesterdayScaleModel", name := "isOne", desc := "(I)Z" } : Jvm.MethodName) prog_14_method_55_code (7 : Nat) (Option.some Jvm.ClassFile.FieldType.boolean)) ∈ gT := gT_in 1267 (by decide +kernel) (by decide +kernel)
set_option maxRecDepth 20000 in
theorem tM_L_92 : (Jvm.Cond.methodLink "YesterdayScaleLaw" (92 : Nat) ({ cls := "YesterdayScaleModel", name := "laws", desc := "(I)I" } : Jvm.MethodName)) ∈ gT := gT_in 1268 (by decide +kernel) (by decide +kernel)
set_option maxRecDepth 20000 in
theorem tI_X12_laws : (Jvm.Cond.instanceMethod ({ cls := "YesterdayScaleModel", name := "laws", desc := "(I)I" } : Jvm.MethodName)) ∈ gT := gT_in 1269 (by decide +kernel) (by decide +kernel)
set_option maxRecDepth 20000 in
theorem tSel_X12_X12_X12_laws : (Jvm.Cond.selects "YesterdayScaleModel" ({ cls := "YesterdayScaleModel", name := "laws", desc := "(I)I" } : Jvm.MethodName) ({ cls := "YesterdayScaleModel", name := "laws", desc := "(I)I" } : Jvm.MethodName)) ∈ gT := gT_in 1270 (by decide +kernel) (by decide +kernel)
set_option maxRecDepth 20000 in
theorem tY_X12_laws : (Jvm.Cond.code ({ cls := "YesterdayScaleModel", name := "laws", desc := "(I)I" } : Jvm.MethodName) prog_14_method_58_code (5 : Nat) (Option.some Jvm.ClassFile.FieldType.int)) ∈ gT := gT_in 1271 (by decide +kernel) (by decide +kernel)
set_option maxRecDepth 20000 in
theorem tM_L_96 : (Jvm.Cond.methodLink "YesterdayScaleLaw" (96 : Nat) ({ cls := "YesterdayScaleModel", name := "error", desc := "(I)I" } : Jvm.MethodName)) ∈ gT := gT_in 1272 (by decide +kernel) (by decide +kernel)
set_option maxRecDepth 20000 in
theorem tI_X12_error : (Jvm.Cond.instanceMethod ({ cls := "YesterdayScaleModel", name := "error", desc := "(I)I" } : Jvm.MethodName)) ∈ gT := gT_in 1273 (by decide +kernel) (by decide +kernel)
set_option maxRecDepth 20000 in
theorem tSel_X12_X12_X12_error : (Jvm.Cond.selects "YesterdayScaleModel" ({ cls := "YesterdayScaleModel", name := "error", desc := "(I)I" } : Jvm.MethodName) ({ cls := "YesterdayScaleModel", name := "error", desc := "(I)I" } : Jvm.MethodName)) ∈ gT := gT_in 1274 (by decide +kernel) (by decide +kernel)
set_option maxRecDepth 20000 in
theorem tY_X12_error : (Jvm.Cond.code ({ cls := "YesterdayScaleModel", name := "error", desc := "(I)I" } : Jvm.MethodName) prog_14_method_59_code (4 : Nat) (Option.some Jvm.ClassFile.FieldType.int)) ∈ gT := gT_in 1275 (by decide +kernel) (by decide +kernel)
set_option maxRecDepth 20000 in
theorem tM_L_100 : (Jvm.Cond.methodLink "YesterdayScaleLaw" (100 : Nat) ({ cls := "YesterdayScaleModel", name := "sold", desc := "(II)I" } : Jvm.MethodName)) ∈ gT := gT_in 1276 (by decide +kernel) (by decide +kernel)
set_option maxRecDepth 20000 in
theorem tI_X12_sold : (Jvm.Cond.instanceMethod ({ cls := "YesterdayScaleModel", name := "sold", desc := "(II)I" } : Jvm.MethodName)) ∈ gT := gT_in 1277 (by decide +kernel) (by decide +kernel)
set_option maxRecDepth 20000 in
theorem tSel_X12_X12_X12_sold : (Jvm.Cond.selects "YesterdayScaleModel" ({ cls := "YesterdayScaleModel", name := "sold", desc := "(II)I" } : Jvm.MethodName) ({ cls := "YesterdayScaleModel", name := "sold", desc := "(II)I" } : Jvm.MethodName)) ∈ gT := gT_in 1278 (by decide +kernel) (by decide +kernel)
set_option maxRecDepth 20000 in
theorem tY_X12_sold : (Jvm.Cond.code ({ cls := "YesterdayScaleModel", name := "sold", desc := "(II)I" } : Jvm.MethodName) prog_14_method_60_code (3 : Nat) (Option.some Jvm.ClassFile.FieldType.int)) ∈ gT := gT_in 1279 (by decide +kernel) (by decide +kernel)
set_option maxRecDepth 20000 in
theorem tM_L_104 : (Jvm.Cond.methodLink "YesterdayScaleLaw" (104 : Nat) ({ cls := "YesterdayScaleModel", name := "image", desc := "(I)I" } : Jvm.MethodName)) ∈ gT := gT_in 1280 (by decide +kernel) (by decide +kernel)
set_option maxRecDepth 20000 in
theorem tI_X12_image : (Jvm.Cond.instanceMethod ({ cls := "YesterdayScaleModel", name := "image", desc := "(I)I" } : Jvm.MethodName)) ∈ gT := gT_in 1281 (by decide +kernel) (by decide +kernel)
set_option maxRecDepth 20000 in
theorem tSel_X12_X12_X12_image : (Jvm.Cond.selects "YesterdayScaleModel" ({ cls := "YesterdayScaleModel", name := "image", desc := "(I)I" } : Jvm.MethodName) ({ cls := "YesterdayScaleModel", name := "image", desc := "(I)I" } : Jvm.MethodName)) ∈ gT := gT_in 1282 (by decide +kernel) (by decide +kernel)
set_option maxRecDepth 20000 in
theorem tY_X12_image : (Jvm.Cond.code ({ cls := "YesterdayScaleModel", name := "image", desc := "(I)I" } : Jvm.MethodName) prog_14_method_61_code (3 : Nat) (Option.some Jvm.ClassFile.FieldType.int)) ∈ gT := gT_in 1283 (by decide +kernel) (by decide +kernel)
set_option maxRecDepth 20000 in
theorem tM_L_108 : (Jvm.Cond.methodLink "YesterdayScaleLaw" (108 : Nat) ({ cls := "YesterdayScaleModel", name := "restore", desc := "(I)I" } : Jvm.MethodName)) ∈ gT := gT_in 1284 (by decide +kernel) (by decide +kernel)
set_option maxRecDepth 20000 in
theorem tI_X12_restore : (Jvm.Cond.instanceMethod ({ cls := "YesterdayScaleModel", name := "restore", desc := "(I)I" } : Jvm.MethodName)) ∈ gT := gT_in 1285 (by decide +kernel) (by decide +kernel)
set_option maxRecDepth 20000 in
theorem tSel_X12_X12_X12_restore : (Jvm.Cond.selects "YesterdayScaleModel" ({ cls := "YesterdayScaleModel", name := "restore", desc := "(I)I" } : Jvm.MethodName) ({ cls := "YesterdayScaleModel", name := "restore", desc := "(I)I" } : Jvm.MethodName)) ∈ gT := gT_in 1286 (by decide +kernel) (by decide +kernel)
set_option maxRecDepth 20000 in
theorem tY_X12_restore : (Jvm.Cond.code ({ cls := "YesterdayScaleModel", name := "restore", desc := "(I)I" } : Jvm.MethodName) prog_14_method_62_code (3 : Nat) (Option.some Jvm.ClassFile.FieldType.int)) ∈ gT := gT_in 1287 (by decide +kernel) (by decide +kernel)
set_option maxRecDepth 20000 in
theorem tM_L_112 : (Jvm.Cond.methodLink "YesterdayScaleLaw" (112 : Nat) ({ cls := "YesterdayScaleModel", name := "kind", desc := "(I)I" } : Jvm.MethodName)) ∈ gT := gT_in 1288 (by decide +kernel) (by decide +kernel)
set_option maxRecDepth 20000 in
theorem tI_X12_kind : (Jvm.Cond.instanceMethod ({ cls := "YesterdayScaleModel", name := "kind", desc := "(I)I" } : Jvm.MethodName)) ∈ gT := gT_in 1289 (by decide +kernel) (by decide +kernel)
set_option maxRecDepth 20000 in
theorem tSel_X12_X12_X12_kind : (Jvm.Cond.selects "YesterdayScaleModel" ({ cls := "YesterdayScaleModel", name := "kind", desc := "(I)I" } : Jvm.MethodName) ({ cls := "YesterdayScaleModel", name := "kind", desc := "(I)I" } : Jvm.MethodName)) ∈ gT := gT_in 1290 (by decide +kernel) (by decide +kernel)
set_option maxRecDepth 20000 in
theorem tY_X12_kind : (Jvm.Cond.code ({ cls := "YesterdayScaleModel", name := "kind", desc := "(I)I" } : Jvm.MethodName) prog_14_method_64_code (2 : Nat) (Option.some Jvm.ClassFile.FieldType.int)) ∈ gT := gT_in 1291 (by decide +kernel) (by decide +kernel)
set_option maxRecDepth 20000 in
theorem tM_L_116 : (Jvm.Cond.methodLink "YesterdayScaleLaw" (116 : Nat) ({ cls := "YesterdayScaleModel", name := "as", desc := "(II)I" } : Jvm.MethodName)) ∈ gT := gT_in 1292 (by decide +kernel) (by decide +kernel)
set_option maxRecDepth 20000 in
theorem tI_X12_as : (Jvm.Cond.instanceMethod ({ cls := "YesterdayScaleModel", name := "as", desc := "(II)I" } : Jvm.MethodName)) ∈ gT := gT_in 1293 (by decide +kernel) (by decide +kernel)
set_option maxRecDepth 20000 in
theorem tSel_X12_X12_X12_as : (Jvm.Cond.selects "YesterdayScaleModel" ({ cls := "YesterdayScaleModel", name := "as", desc := "(II)I" } : Jvm.MethodName) ({ cls := "YesterdayScaleModel", name := "as", desc := "(II)I" } : Jvm.MethodName)) ∈ gT := gT_in 1294 (by decide +kernel) (by decide +kernel)
set_option maxRecDepth 20000 in
theorem tY_X12_as : (Jvm.Cond.code ({ cls := "YesterdayScaleModel", name := "as", desc := "(II)I" } : Jvm.MethodName) prog_14_method_65_code (3 : Nat) (Option.some Jvm.ClassFile.FieldType.int)) ∈ gT := gT_in 1295 (by decide +kernel) (by decide +kernel)
set_option maxRecDepth 20000 in
theorem tL_X12_264 : (Jvm.Cond.constantLong "YesterdayScaleModel" (264 : Nat) (5 : Int64)) ∈ gT := gT_in 1296 (by decide +kernel) (by decide +kernel)
set_option maxRecDepth 20000 in
theorem tM_X12_266 : (Jvm.Cond.methodLink "YesterdayScaleModel" (266 : Nat) ({ cls := "YesterdayScaleModel", name := "isOf", desc := "(II)Z" } : Jvm.MethodName)) ∈ gT := gT_in 1297 (by decide +kernel) (by decide +kernel)
set_option maxRecDepth 20000 in
theorem tS_X12_isOf : (Jvm.Cond.static ({ cls := "YesterdayScaleModel", name := "isOf", desc := "(II)Z" } : Jvm.MethodName)) ∈ gT := gT_in 1298 (by decide +kernel) (by decide +kernel)
set_option maxRecDepth 20000 in
theorem tY_X12_isOf : (Jvm.Cond.code ({ cls := "YesterdayScaleModel", name := "isOf", desc := "(II)Z" } : Jvm.MethodName) prog_14_method_63_code (2 : Nat) (Option.some Jvm.ClassFile.FieldType.boolean)) ∈ gT := gT_in 1299 (by decide +kernel) (by decide +kernel)
set_option maxRecDepth 20000 in
theorem tM_L_120 : (Jvm.Cond.methodLink "YesterdayScaleLaw" (120 : Nat) ({ cls := "YesterdayScaleModel", name := "ask", desc := "(II)I" } : Jvm.MethodName)) ∈ gT := gT_in 1300 (by decide +kernel) (by decide +kernel)
set_option maxRecDepth 20000 in
theorem tI_X12_ask : (Jvm.Cond.instanceMethod ({ cls := "YesterdayScaleModel", name := "ask", desc := "(II)I" } : Jvm.MethodName)) ∈ gT := gT_in 1301 (by decide +kernel) (by decide +kernel)
set_option maxRecDepth 20000 in
theorem tSel_X12_X12_X12_ask : (Jvm.Cond.selects "YesterdayScaleModel" ({ cls := "YesterdayScaleModel", name := "ask", desc := "(II)I" } : Jvm.MethodName) ({ cls := "YesterdayScaleModel", name := "ask", desc := "(II)I" } : Jvm.MethodName)) ∈ gT := gT_in 1302 (by decide +kernel) (by decide +kernel)
set_option maxRecDepth 20000 in
theorem tY_X12_ask : (Jvm.Cond.code ({ cls := "YesterdayScaleModel", name := "ask", desc := "(II)I" } : Jvm.MethodName) prog_14_method_71_code (3 : Nat) (Option.some Jvm.ClassFile.FieldType.int)) ∈ gT := gT_in 1303 (by decide +kernel) (by decide +kernel)
set_option maxRecDepth 20000 in
theorem tM_X12_285 : (Jvm.Cond.methodLink "YesterdayScaleModel" (285 : Nat) ({ cls := "YesterdayScaleModel", name := "sizeOf", desc := "(I)I" } : Jvm.MethodName)) ∈ gT := gT_in 1304 (by decide +kernel) (by decide +kernel)
set_option maxRecDepth 20000 in
theorem tI_X12_sizeOf : (Jvm.Cond.instanceMethod ({ cls := "YesterdayScaleModel", name := "sizeOf", desc := "(I)I" } : Jvm.MethodName)) ∈ gT := gT_in 1306 (by decide +kernel) (by decide +kernel)
set_option maxRecDepth 20000 in
theorem tY_X12_sizeOf : (Jvm.Cond.code ({ cls := "YesterdayScaleModel", name := "sizeOf", desc := "(I)I" } : Jvm.MethodName) prog_14_method_70_code (4 : Nat) (Option.some Jvm.ClassFile.FieldType.int)) ∈ gT := gT_in 1307 (by decide +kernel) (by decide +kernel)
set_option maxRecDepth 20000 in
theorem tM_X12_279 : (Jvm.Cond.methodLink "YesterdayScaleModel" (279 : Nat) ({ cls := "YesterdayScaleModel", name := "stoneSize", desc := "(I)I" } : Jvm.MethodName)) ∈ gT := gT_in 1308 (by decide +kernel) (by decide +kernel)
set_option maxRecDepth 20000 in
theorem tI_X12_stoneSize : (Jvm.Cond.instanceMethod ({ cls := "YesterdayScaleModel", name := "stoneSize", desc := "(I)I" } : Jvm.MethodName)) ∈ gT := gT_in 1310 (by decide +kernel) (by decide +kernel)
set_option maxRecDepth 20000 in
theorem tY_X12_stoneSize : (Jvm.Cond.code ({ cls := "YesterdayScaleModel", name := "stoneSize", desc := "(I)I" } : Jvm.MethodName) prog_14_method_68_code (3 : Nat) (Option.some Jvm.ClassFile.FieldType.int)) ∈ gT := gT_in 1311 (by decide +kernel) (by decide +kernel)
set_option maxRecDepth 20000 in
theorem tM_X12_273 : (Jvm.Cond.methodLink "YesterdayScaleModel" (273 : Nat) ({ cls := "YesterdayScaleModel", name := "began", desc := "(I)V" } : Jvm.MethodName)) ∈ gT := gT_in 1312 (by decide +kernel) (by decide +kernel)
set_option maxRecDepth 20000 in
theorem tI_X12_began : (Jvm.Cond.instanceMethod ({ cls := "YesterdayScaleModel", name := "began", desc := "(I)V" } : Jvm.MethodName)) ∈ gT := gT_in 1314 (by decide +kernel) (by decide +kernel)
set_option maxRecDepth 20000 in
theorem tY_X12_began : (Jvm.Cond.code ({ cls := "YesterdayScaleModel", name := "began", desc := "(I)V" } : Jvm.MethodName) prog_14_method_66_code (2 : Nat) (Option.none : Option Jvm.ClassFile.FieldType)) ∈ gT := gT_in 1315 (by decide +kernel) (by decide +kernel)
set_option maxRecDepth 20000 in
theorem tM_X12_276 : (Jvm.Cond.methodLink "YesterdayScaleModel" (276 : Nat) ({ cls := "YesterdayScaleModel", name := "plainSize", desc := "(I)I" } : Jvm.MethodName)) ∈ gT := gT_in 1316 (by decide +kernel) (by decide +kernel)
set_option maxRecDepth 20000 in
theorem tI_X12_plainSize : (Jvm.Cond.instanceMethod ({ cls := "YesterdayScaleModel", name := "plainSize", desc := "(I)I" } : Jvm.MethodName)) ∈ gT := gT_in 1318 (by decide +kernel) (by decide +kernel)
set_option maxRecDepth 20000 in
theorem tY_X12_plainSize : (Jvm.Cond.code ({ cls := "YesterdayScaleModel", name := "plainSize", desc := "(I)I" } : Jvm.MethodName) prog_14_method_67_code (2 : Nat) (Option.some Jvm.ClassFile.FieldType.int)) ∈ gT := gT_in 1319 (by decide +kernel) (by decide +kernel)
set_option maxRecDepth 20000 in
theorem tM_X12_282 : (Jvm.Cond.methodLink "YesterdayScaleModel" (282 : Nat) ({ cls := "YesterdayScaleModel", name := "markOf", desc := "(I)I" } : Jvm.MethodName)) ∈ gT := gT_in 1320 (by decide +kernel) (by decide +kernel)
set_option maxRecDepth 20000 in
theorem tI_X12_markOf : (Jvm.Cond.instanceMethod ({ cls := "YesterdayScaleModel", name := "markOf", desc := "(I)I" } : Jvm.MethodName)) ∈ gT := gT_in 1322 (by decide +kernel) (by decide +kernel)
set_option maxRecDepth 20000 in
theorem tY_X12_markOf : (Jvm.Cond.code ({ cls := "YesterdayScaleModel", name := "markOf", desc := "(I)I" } : Jvm.MethodName) prog_14_method_69_code (4 : Nat) (Option.some Jvm.ClassFile.FieldType.int)) ∈ gT := gT_in 1323 (by decide +kernel) (by decide +kernel)
set_option maxRecDepth 20000 in
theorem tM_L_124 : (Jvm.Cond.methodLink "YesterdayScaleLaw" (124 : Nat) ({ cls := "YesterdayScaleModel", name := "trace", desc := "(I)I" } : Jvm.MethodName)) ∈ gT := gT_in 1324 (by decide +kernel) (by decide +kernel)
set_option maxRecDepth 20000 in
theorem tI_X12_trace : (Jvm.Cond.instanceMethod ({ cls := "YesterdayScaleModel", name := "trace", desc := "(I)I" } : Jvm.MethodName)) ∈ gT := gT_in 1325 (by decide +kernel) (by decide +kernel)
set_option maxRecDepth 20000 in
theorem tSel_X12_X12_X12_trace : (Jvm.Cond.selects "YesterdayScaleModel" ({ cls := "YesterdayScaleModel", name := "trace", desc := "(I)I" } : Jvm.MethodName) ({ cls := "YesterdayScaleModel", name := "trace", desc := "(I)I" } : Jvm.MethodName)) ∈ gT := gT_in 1326 (by decide +kernel) (by decide +kernel)
set_option maxRecDepth 20000 in
theorem tY_X12_trace : (Jvm.Cond.code ({ cls := "YesterdayScaleModel", name := "trace", desc := "(I)I" } : Jvm.MethodName) prog_14_method_72_code (2 : Nat) (Option.some Jvm.ClassFile.FieldType.int)) ∈ gT := gT_in 1327 (by decide +kernel) (by decide +kernel)
set_option maxRecDepth 20000 in
theorem tM_L_128 : (Jvm.Cond.methodLink "YesterdayScaleLaw" (128 : Nat) ({ cls := "YesterdayScaleModel", name := "count", desc := "(I)I" } : Jvm.MethodName)) ∈ gT := gT_in 1328 (by decide +kernel) (by decide +kernel)
set_option maxRecDepth 20000 in
theorem tI_X12_count : (Jvm.Cond.instanceMethod ({ cls := "YesterdayScaleModel", name := "count", desc := "(I)I" } : Jvm.MethodName)) ∈ gT := gT_in 1329 (by decide +kernel) (by decide +kernel)
set_option maxRecDepth 20000 in
theorem tSel_X12_X12_X12_count : (Jvm.Cond.selects "YesterdayScaleModel" ({ cls := "YesterdayScaleModel", name := "count", desc := "(I)I" } : Jvm.MethodName) ({ cls := "YesterdayScaleModel", name := "count", desc := "(I)I" } : Jvm.MethodName)) ∈ gT := gT_in 1330 (by decide +kernel) (by decide +kernel)
set_option maxRecDepth 20000 in
theorem tY_X12_count : (Jvm.Cond.code ({ cls := "YesterdayScaleModel", name := "count", desc := "(I)I" } : Jvm.MethodName) prog_14_method_73_code (4 : Nat) (Option.some Jvm.ClassFile.FieldType.int)) ∈ gT := gT_in 1331 (by decide +kernel) (by decide +kernel)
set_option maxRecDepth 20000 in
theorem tM_L_132 : (Jvm.Cond.methodLink "YesterdayScaleLaw" (132 : Nat) ({ cls := "YesterdayScaleModel", name := "status", desc := "()I" } : Jvm.MethodName)) ∈ gT := gT_in 1332 (by decide +kernel) (by decide +kernel)
set_option maxRecDepth 20000 in
theorem tI_X12_status : (Jvm.Cond.instanceMethod ({ cls := "YesterdayScaleModel", name := "status", desc := "()I" } : Jvm.MethodName)) ∈ gT := gT_in 1333 (by decide +kernel) (by decide +kernel)
set_option maxRecDepth 20000 in
theorem tSel_X12_X12_X12_status : (Jvm.Cond.selects "YesterdayScaleModel" ({ cls := "YesterdayScaleModel", name := "status", desc := "()I" } : Jvm.MethodName) ({ cls := "YesterdayScaleModel", name := "status", desc := "()I" } : Jvm.MethodName)) ∈ gT := gT_in 1334 (by decide +kernel) (by decide +kernel)
set_option maxRecDepth 20000 in
theorem tY_X12_status : (Jvm.Cond.code ({ cls := "YesterdayScaleModel", name := "status", desc := "()I" } : Jvm.MethodName) prog_14_method_74_code (1 : Nat) (Option.some Jvm.ClassFile.FieldType.int)) ∈ gT := gT_in 1335 (by decide +kernel) (by decide +kernel)
set_option maxRecDepth 20000 in
theorem tL_L_32 : (Jvm.Cond.constantLong "YesterdayScaleLaw" (32 : Nat) (4294967295 : Int64)) ∈ gT := gT_in 1336 (by decide +kernel) (by decide +kernel)
set_option maxRecDepth 20000 in
theorem tSam_X7_X7_markBy : (Jvm.Cond.sameMethod "YesterdayScale$Thing" "YesterdayScale$Thing" "markBy" "(LYesterdayScale$Asking;I)I") ∈ gT := gT_in 1337 (by decide +kernel) (by decide +kernel)
set_option maxRecDepth 20000 in
theorem tSam_X5_X5_sizeBy : (Jvm.Cond.sameMethod "YesterdayScale$Stone" "YesterdayScale$Stone" "sizeBy" "(LYesterdayScale$Asking;I)I") ∈ gT := gT_in 1338 (by decide +kernel) (by decide +kernel)
set_option maxRecDepth 20000 in
theorem tSam_X4_X4_sizeBy : (Jvm.Cond.sameMethod "YesterdayScale$Salt" "YesterdayScale$Salt" "sizeBy" "(LYesterdayScale$Asking;I)I") ∈ gT := gT_in 1339 (by decide +kernel) (by decide +kernel)
set_option maxRecDepth 20000 in
theorem tSel_X1_X7_X1_markBy : (Jvm.Cond.selects "YesterdayScale$Fish" ({ cls := "YesterdayScale$Thing", name := "markBy", desc := "(LYesterdayScale$Asking;I)I" } : Jvm.MethodName) ({ cls := "YesterdayScale$Fish", name := "markBy", desc := "(LYesterdayScale$Asking;I)I" } : Jvm.MethodName)) ∈ gT := gT_in 1340 (by decide +kernel) (by decide +kernel)
set_option maxRecDepth 20000 in
theorem tSel_X4_X7_X4_markBy : (Jvm.Cond.selects "YesterdayScale$Salt" ({ cls := "YesterdayScale$Thing", name := "markBy", desc := "(LYesterdayScale$Asking;I)I" } : Jvm.MethodName) ({ cls := "YesterdayScale$Salt", name := "markBy", desc := "(LYesterdayScale$Asking;I)I" } : Jvm.MethodName)) ∈ gT := gT_in 1341 (by decide +kernel) (by decide +kernel)
set_option maxRecDepth 20000 in
theorem tSel_X5_X7_X5_markBy : (Jvm.Cond.selects "YesterdayScale$Stone" ({ cls := "YesterdayScale$Thing", name := "markBy", desc := "(LYesterdayScale$Asking;I)I" } : Jvm.MethodName) ({ cls := "YesterdayScale$Stone", name := "markBy", desc := "(LYesterdayScale$Asking;I)I" } : Jvm.MethodName)) ∈ gT := gT_in 1342 (by decide +kernel) (by decide +kernel)
set_option maxRecDepth 20000 in
theorem tSel_X5_X5_X5_sizeBy : (Jvm.Cond.selects "YesterdayScale$Stone" ({ cls := "YesterdayScale$Stone", name := "sizeBy", desc := "(LYesterdayScale$Asking;I)I" } : Jvm.MethodName) ({ cls := "YesterdayScale$Stone", name := "sizeBy", desc := "(LYesterdayScale$Asking;I)I" } : Jvm.MethodName)) ∈ gT := gT_in 1343 (by decide +kernel) (by decide +kernel)
set_option maxRecDepth 20000 in
theorem tSel_X8_X5_X8_sizeBy : (Jvm.Cond.selects "YesterdayScale$Whale" ({ cls := "YesterdayScale$Stone", name := "sizeBy", desc := "(LYesterdayScale$Asking;I)I" } : Jvm.MethodName) ({ cls := "YesterdayScale$Whale", name := "sizeBy", desc := "(LYesterdayScale$Asking;I)I" } : Jvm.MethodName)) ∈ gT := gT_in 1344 (by decide +kernel) (by decide +kernel)
set_option maxRecDepth 20000 in
theorem tSel_X8_X7_X5_markBy : (Jvm.Cond.selects "YesterdayScale$Whale" ({ cls := "YesterdayScale$Thing", name := "markBy", desc := "(LYesterdayScale$Asking;I)I" } : Jvm.MethodName) ({ cls := "YesterdayScale$Stone", name := "markBy", desc := "(LYesterdayScale$Asking;I)I" } : Jvm.MethodName)) ∈ gT := gT_in 1345 (by decide +kernel) (by decide +kernel)
set_option maxRecDepth 20000 in
theorem tSel_X9_X7_X9_markBy : (Jvm.Cond.selects "YesterdayScale$Wool" ({ cls := "YesterdayScale$Thing", name := "markBy", desc := "(LYesterdayScale$Asking;I)I" } : Jvm.MethodName) ({ cls := "YesterdayScale$Wool", name := "markBy", desc := "(LYesterdayScale$Asking;I)I" } : Jvm.MethodName)) ∈ gT := gT_in 1346 (by decide +kernel) (by decide +kernel)
set_option maxRecDepth 20000 in
theorem tF_J0_9 : (Jvm.Cond.fieldLink "java/lang/String" (9 : Nat) "java/lang/String" "value" "[B") ∈ gT := gT_in 1355 (by decide +kernel) (by decide +kernel)
set_option maxRecDepth 20000 in
theorem tF_J0_15 : (Jvm.Cond.fieldLink "java/lang/String" (15 : Nat) "java/lang/String" "coder" "B") ∈ gT := gT_in 1356 (by decide +kernel) (by decide +kernel)
