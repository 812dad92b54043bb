theorem tw_0 : (Jvm.Cond.initialized "HammockReachLaw") ∈ TT := TT_mem 0 (by decide +kernel) rfl
theorem tw_1 : (Jvm.Cond.initialized "HammockReach") ∈ TT := TT_mem 1 (by decide +kernel) rfl
theorem tw_2 : (Jvm.Cond.initialized "HammockReach$Tape") ∈ TT := TT_mem 2 (by decide +kernel) rfl
theorem tw_3 : (Jvm.Cond.initialized "HammockReach$Forest") ∈ TT := TT_mem 3 (by decide +kernel) rfl
theorem tw_4 : (Jvm.Cond.initialized "HammockReach$Acts") ∈ TT := TT_mem 4 (by decide +kernel) rfl
theorem tw_5 : (Jvm.Cond.initialized "HammockReach$Outlook") ∈ TT := TT_mem 5 (by decide +kernel) rfl
theorem tw_6 : (Jvm.Cond.initialized "HammockReach$Row") ∈ TT := TT_mem 6 (by decide +kernel) rfl
theorem tw_7 : (Jvm.Cond.initialized "HammockReachModel") ∈ TT := TT_mem 7 (by decide +kernel) rfl
theorem tw_8 : (Jvm.Cond.initialized "java/lang/System") ∈ TT := TT_mem 8 (by decide +kernel) rfl
theorem tw_9 : (Jvm.Cond.initialized "java/lang/Math") ∈ TT := TT_mem 9 (by decide +kernel) rfl
theorem tw_10 : (Jvm.Cond.initialized "java/lang/Integer") ∈ TT := TT_mem 10 (by decide +kernel) rfl
theorem tw_11 : (Jvm.Cond.classLink "HammockReachLaw" (7 : Nat) "HammockReach") ∈ TT := TT_mem 11 (by decide +kernel) rfl
theorem tw_12 : (Jvm.Cond.instantiable "HammockReach" (10 : Nat)) ∈ TT := TT_mem 12 (by decide +kernel) rfl
theorem tw_13 : (Jvm.Cond.methodLink "HammockReachLaw" (9 : Nat) ({ cls := "HammockReach", name := "<init>", desc := "()V" } : Jvm.MethodName)) ∈ TT := TT_mem 13 (by decide +kernel) rfl
theorem tw_14 : (Jvm.Cond.instanceMethod ({ cls := "HammockReach", name := "<init>", desc := "()V" } : Jvm.MethodName)) ∈ TT := TT_mem 14 (by decide +kernel) rfl
theorem tw_15 : (Jvm.Cond.code ({ cls := "HammockReach", name := "<init>", desc := "()V" } : Jvm.MethodName) prog_1_method_1_code (2 : Nat) (Option.none : Option Jvm.ClassFile.FieldType)) ∈ TT := TT_mem 15 (by decide +kernel) rfl
theorem tw_16 : (Jvm.Cond.methodLink "HammockReach" (1 : Nat) ({ cls := "java/lang/Object", name := "<init>", desc := "()V" } : Jvm.MethodName)) ∈ TT := TT_mem 16 (by decide +kernel) rfl
theorem tw_17 : (Jvm.Cond.instanceMethod ({ cls := "java/lang/Object", name := "<init>", desc := "()V" } : Jvm.MethodName)) ∈ TT := TT_mem 17 (by decide +kernel) rfl
theorem tw_18 : (Jvm.Cond.code ({ cls := "java/lang/Object", name := "<init>", desc := "()V" } : Jvm.MethodName) object_method_1_code (1 : Nat) (Option.none : Option Jvm.ClassFile.FieldType)) ∈ TT := TT_mem 18 (by decide +kernel) rfl
theorem tw_19 : (Jvm.Cond.classLink "HammockReach" (9 : Nat) "HammockReach$Row") ∈ TT := TT_mem 19 (by decide +kernel) rfl
theorem tw_21 : (Jvm.Cond.classLink "HammockReach" (15 : Nat) "HammockReach$Tape") ∈ TT := TT_mem 21 (by decide +kernel) rfl
theorem tw_22 : (Jvm.Cond.instantiable "HammockReach$Tape" (4 : Nat)) ∈ TT := TT_mem 22 (by decide +kernel) rfl
theorem tw_24 : (Jvm.Cond.instanceMethod ({ cls := "HammockReach$Tape", name := "<init>", desc := "()V" } : Jvm.MethodName)) ∈ TT := TT_mem 24 (by decide +kernel) rfl
theorem tw_25 : (Jvm.Cond.code ({ cls := "HammockReach$Tape", name := "<init>", desc := "()V" } : Jvm.MethodName) prog_6_method_1_code (1 : Nat) (Option.none : Option Jvm.ClassFile.FieldType)) ∈ TT := TT_mem 25 (by decide +kernel) rfl
theorem tw_26 : (Jvm.Cond.methodLink "HammockReach$Tape" (3 : Nat) ({ cls := "java/lang/Object", name := "<init>", desc := "()V" } : Jvm.MethodName)) ∈ TT := TT_mem 26 (by decide +kernel) rfl
theorem tw_27 : (Jvm.Cond.fieldLink "HammockReach$Tape" (9 : Nat) "HammockReach$Tape" "bytes" "[I") ∈ TT := TT_mem 27 (by decide +kernel) rfl
theorem tw_28 : (Jvm.Cond.fieldLink "HammockReach" (101 : Nat) "HammockReach$Tape" "bytes" "[I") ∈ TT := TT_mem 28 (by decide +kernel) rfl
theorem tw_29 : (Jvm.Cond.fieldLink "HammockReach$Tape" (28 : Nat) "HammockReach$Tape" "length" "I") ∈ TT := TT_mem 29 (by decide +kernel) rfl
theorem tw_30 : (Jvm.Cond.fieldLink "HammockReach" (97 : Nat) "HammockReach$Tape" "length" "I") ∈ TT := TT_mem 30 (by decide +kernel) rfl
theorem tw_31 : (Jvm.Cond.fieldLink "HammockReach$Tape" (15 : Nat) "HammockReach$Tape" "at" "I") ∈ TT := TT_mem 31 (by decide +kernel) rfl
theorem tw_32 : (Jvm.Cond.fieldLink "HammockReach" (109 : Nat) "HammockReach$Tape" "at" "I") ∈ TT := TT_mem 32 (by decide +kernel) rfl
theorem tw_33 : (Jvm.Cond.fieldLink "HammockReach" (120 : Nat) "HammockReach$Tape" "fault" "I") ∈ TT := TT_mem 33 (by decide +kernel) rfl
theorem tw_34 : (Jvm.Cond.fieldLink "HammockReach$Tape" (86 : Nat) "HammockReach$Tape" "fault" "I") ∈ TT := TT_mem 34 (by decide +kernel) rfl
theorem tw_44 : (Jvm.Cond.arrayClass Jvm.ClassFile.FieldType.int) ∈ TT := TT_mem 44 (by decide +kernel) rfl
theorem tw_45 : (Jvm.Cond.classLink "HammockReach" (22 : Nat) "HammockReach$Forest") ∈ TT := TT_mem 45 (by decide +kernel) rfl
theorem tw_46 : (Jvm.Cond.instantiable "HammockReach$Forest" (11 : Nat)) ∈ TT := TT_mem 46 (by decide +kernel) rfl
theorem tw_48 : (Jvm.Cond.instanceMethod ({ cls := "HammockReach$Forest", name := "<init>", desc := "()V" } : Jvm.MethodName)) ∈ TT := TT_mem 48 (by decide +kernel) rfl
theorem tw_49 : (Jvm.Cond.code ({ cls := "HammockReach$Forest", name := "<init>", desc := "()V" } : Jvm.MethodName) prog_3_method_1_code (1 : Nat) (Option.none : Option Jvm.ClassFile.FieldType)) ∈ TT := TT_mem 49 (by decide +kernel) rfl
theorem tw_50 : (Jvm.Cond.methodLink "HammockReach$Forest" (3 : Nat) ({ cls := "java/lang/Object", name := "<init>", desc := "()V" } : Jvm.MethodName)) ∈ TT := TT_mem 50 (by decide +kernel) rfl
theorem tw_51 : (Jvm.Cond.fieldLink "HammockReach$Forest" (9 : Nat) "HammockReach$Forest" "sort" "[I") ∈ TT := TT_mem 51 (by decide +kernel) rfl
theorem tw_52 : (Jvm.Cond.fieldLink "HammockReach$Tape" (61 : Nat) "HammockReach$Forest" "sort" "[I") ∈ TT := TT_mem 52 (by decide +kernel) rfl
theorem tw_53 : (Jvm.Cond.fieldLink "HammockReach" (226 : Nat) "HammockReach$Forest" "sort" "[I") ∈ TT := TT_mem 53 (by decide +kernel) rfl
theorem tw_54 : (Jvm.Cond.fieldLink "HammockReach$Forest" (15 : Nat) "HammockReach$Forest" "low" "[I") ∈ TT := TT_mem 54 (by decide +kernel) rfl
theorem tw_55 : (Jvm.Cond.fieldLink "HammockReach$Acts" (31 : Nat) "HammockReach$Forest" "low" "[I") ∈ TT := TT_mem 55 (by decide +kernel) rfl
theorem tw_56 : (Jvm.Cond.fieldLink "HammockReach$Tape" (71 : Nat) "HammockReach$Forest" "low" "[I") ∈ TT := TT_mem 56 (by decide +kernel) rfl
theorem tw_57 : (Jvm.Cond.fieldLink "HammockReach" (141 : Nat) "HammockReach$Forest" "low" "[I") ∈ TT := TT_mem 57 (by decide +kernel) rfl
theorem tw_58 : (Jvm.Cond.fieldLink "HammockReach$Forest" (18 : Nat) "HammockReach$Forest" "top" "[I") ∈ TT := TT_mem 58 (by decide +kernel) rfl
theorem tw_59 : (Jvm.Cond.fieldLink "HammockReach$Acts" (36 : Nat) "HammockReach$Forest" "top" "[I") ∈ TT := TT_mem 59 (by decide +kernel) rfl
theorem tw_60 : (Jvm.Cond.fieldLink "HammockReach$Tape" (74 : Nat) "HammockReach$Forest" "top" "[I") ∈ TT := TT_mem 60 (by decide +kernel) rfl
theorem tw_61 : (Jvm.Cond.fieldLink "HammockReach" (144 : Nat) "HammockReach$Forest" "top" "[I") ∈ TT := TT_mem 61 (by decide +kernel) rfl
theorem tw_62 : (Jvm.Cond.fieldLink "HammockReach$Forest" (21 : Nat) "HammockReach$Forest" "weight" "[I") ∈ TT := TT_mem 62 (by decide +kernel) rfl
theorem tw_63 : (Jvm.Cond.fieldLink "HammockReach$Acts" (39 : Nat) "HammockReach$Forest" "weight" "[I") ∈ TT := TT_mem 63 (by decide +kernel) rfl
theorem tw_64 : (Jvm.Cond.fieldLink "HammockReach$Tape" (77 : Nat) "HammockReach$Forest" "weight" "[I") ∈ TT := TT_mem 64 (by decide +kernel) rfl
theorem tw_65 : (Jvm.Cond.fieldLink "HammockReach" (151 : Nat) "HammockReach$Forest" "weight" "[I") ∈ TT := TT_mem 65 (by decide +kernel) rfl
theorem tw_66 : (Jvm.Cond.fieldLink "HammockReach$Forest" (24 : Nat) "HammockReach$Forest" "swing" "[I") ∈ TT := TT_mem 66 (by decide +kernel) rfl
theorem tw_67 : (Jvm.Cond.fieldLink "HammockReach$Tape" (80 : Nat) "HammockReach$Forest" "swing" "[I") ∈ TT := TT_mem 67 (by decide +kernel) rfl
theorem tw_68 : (Jvm.Cond.fieldLink "HammockReach" (169 : Nat) "HammockReach$Forest" "swing" "[I") ∈ TT := TT_mem 68 (by decide +kernel) rfl
theorem tw_69 : (Jvm.Cond.fieldLink "HammockReach$Forest" (27 : Nat) "HammockReach$Forest" "stands" "Z") ∈ TT := TT_mem 69 (by decide +kernel) rfl
theorem tw_70 : (Jvm.Cond.fieldLink "HammockReach" (123 : Nat) "HammockReach$Forest" "stands" "Z") ∈ TT := TT_mem 70 (by decide +kernel) rfl
theorem tw_71 : (Jvm.Cond.fieldLink "HammockReach$Tape" (42 : Nat) "HammockReach$Forest" "high" "I") ∈ TT := TT_mem 71 (by decide +kernel) rfl
theorem tw_72 : (Jvm.Cond.fieldLink "HammockReach$Forest" (47 : Nat) "HammockReach$Forest" "high" "I") ∈ TT := TT_mem 72 (by decide +kernel) rfl
theorem tw_73 : (Jvm.Cond.fieldLink "HammockReach" (242 : Nat) "HammockReach$Forest" "high" "I") ∈ TT := TT_mem 73 (by decide +kernel) rfl
theorem tw_74 : (Jvm.Cond.fieldLink "HammockReach$Tape" (45 : Nat) "HammockReach$Forest" "arm" "I") ∈ TT := TT_mem 74 (by decide +kernel) rfl
theorem tw_75 : (Jvm.Cond.fieldLink "HammockReach$Forest" (50 : Nat) "HammockReach$Forest" "arm" "I") ∈ TT := TT_mem 75 (by decide +kernel) rfl
theorem tw_76 : (Jvm.Cond.fieldLink "HammockReach" (245 : Nat) "HammockReach$Forest" "arm" "I") ∈ TT := TT_mem 76 (by decide +kernel) rfl
theorem tw_77 : (Jvm.Cond.fieldLink "HammockReach$Forest" (31 : Nat) "HammockReach$Forest" "minute" "I") ∈ TT := TT_mem 77 (by decide +kernel) rfl
theorem tw_78 : (Jvm.Cond.fieldLink "HammockReach$Outlook" (28 : Nat) "HammockReach$Forest" "minute" "I") ∈ TT := TT_mem 78 (by decide +kernel) rfl
theorem tw_79 : (Jvm.Cond.fieldLink "HammockReach$Acts" (45 : Nat) "HammockReach$Forest" "minute" "I") ∈ TT := TT_mem 79 (by decide +kernel) rfl
theorem tw_80 : (Jvm.Cond.fieldLink "HammockReach" (128 : Nat) "HammockReach$Forest" "minute" "I") ∈ TT := TT_mem 80 (by decide +kernel) rfl
theorem tw_81 : (Jvm.Cond.fieldLink "HammockReach$Outlook" (21 : Nat) "HammockReach$Forest" "size" "I") ∈ TT := TT_mem 81 (by decide +kernel) rfl
theorem tw_82 : (Jvm.Cond.fieldLink "HammockReach$Forest" (35 : Nat) "HammockReach$Forest" "size" "I") ∈ TT := TT_mem 82 (by decide +kernel) rfl
theorem tw_83 : (Jvm.Cond.fieldLink "HammockReach$Tape" (48 : Nat) "HammockReach$Forest" "size" "I") ∈ TT := TT_mem 83 (by decide +kernel) rfl
theorem tw_84 : (Jvm.Cond.fieldLink "HammockReach" (119 : Nat) "HammockReach$Forest" "size" "I") ∈ TT := TT_mem 84 (by decide +kernel) rfl
theorem tw_85 : (Jvm.Cond.fieldLink "HammockReach$Forest" (38 : Nat) "HammockReach$Forest" "cut" "I") ∈ TT := TT_mem 85 (by decide +kernel) rfl
theorem tw_86 : (Jvm.Cond.fieldLink "HammockReach$Acts" (42 : Nat) "HammockReach$Forest" "cut" "I") ∈ TT := TT_mem 86 (by decide +kernel) rfl
theorem tw_87 : (Jvm.Cond.fieldLink "HammockReach" (160 : Nat) "HammockReach$Forest" "cut" "I") ∈ TT := TT_mem 87 (by decide +kernel) rfl
theorem tw_112 : (Jvm.Cond.classLink "HammockReach" (36 : Nat) "HammockReach$Acts") ∈ TT := TT_mem 112 (by decide +kernel) rfl
theorem tw_113 : (Jvm.Cond.instantiable "HammockReach$Acts" (6 : Nat)) ∈ TT := TT_mem 113 (by decide +kernel) rfl
theorem tw_115 : (Jvm.Cond.instanceMethod ({ cls := "HammockReach$Acts", name := "<init>", desc := "()V" } : Jvm.MethodName)) ∈ TT := TT_mem 115 (by decide +kernel) rfl
theorem tw_116 : (Jvm.Cond.code ({ cls := "HammockReach$Acts", name := "<init>", desc := "()V" } : Jvm.MethodName) prog_2_method_1_code (1 : Nat) (Option.none : Option Jvm.ClassFile.FieldType)) ∈ TT := TT_mem 116 (by decide +kernel) rfl
theorem tw_117 : (Jvm.Cond.methodLink "HammockReach$Acts" (3 : Nat) ({ cls := "java/lang/Object", name := "<init>", desc := "()V" } : Jvm.MethodName)) ∈ TT := TT_mem 117 (by decide +kernel) rfl
theorem tw_118 : (Jvm.Cond.fieldLink "HammockReach$Acts" (9 : Nat) "HammockReach$Acts" "what" "[I") ∈ TT := TT_mem 118 (by decide +kernel) rfl
theorem tw_119 : (Jvm.Cond.fieldLink "HammockReach$Acts" (15 : Nat) "HammockReach$Acts" "whose" "[I") ∈ TT := TT_mem 119 (by decide +kernel) rfl
theorem tw_120 : (Jvm.Cond.fieldLink "HammockReach$Acts" (18 : Nat) "HammockReach$Acts" "before" "[I") ∈ TT := TT_mem 120 (by decide +kernel) rfl
theorem tw_121 : (Jvm.Cond.fieldLink "HammockReach$Acts" (21 : Nat) "HammockReach$Acts" "beforeToo" "[I") ∈ TT := TT_mem 121 (by decide +kernel) rfl
theorem tw_122 : (Jvm.Cond.fieldLink "HammockReach$Acts" (28 : Nat) "HammockReach$Acts" "oldest" "I") ∈ TT := TT_mem 122 (by decide +kernel) rfl
theorem tw_123 : (Jvm.Cond.fieldLink "HammockReach$Acts" (24 : Nat) "HammockReach$Acts" "kept" "I") ∈ TT := TT_mem 123 (by decide +kernel) rfl
theorem tw_124 : (Jvm.Cond.fieldLink "HammockReach" (163 : Nat) "HammockReach$Acts" "kept" "I") ∈ TT := TT_mem 124 (by decide +kernel) rfl
theorem tw_138 : (Jvm.Cond.classLink "HammockReach" (43 : Nat) "HammockReach$Outlook") ∈ TT := TT_mem 138 (by decide +kernel) rfl
theorem tw_139 : (Jvm.Cond.instantiable "HammockReach$Outlook" (4 : Nat)) ∈ TT := TT_mem 139 (by decide +kernel) rfl
theorem tw_141 : (Jvm.Cond.instanceMethod ({ cls := "HammockReach$Outlook", name := "<init>", desc := "()V" } : Jvm.MethodName)) ∈ TT := TT_mem 141 (by decide +kernel) rfl
theorem tw_142 : (Jvm.Cond.code ({ cls := "HammockReach$Outlook", name := "<init>", desc := "()V" } : Jvm.MethodName) prog_4_method_1_code (1 : Nat) (Option.none : Option Jvm.ClassFile.FieldType)) ∈ TT := TT_mem 142 (by decide +kernel) rfl
theorem tw_143 : (Jvm.Cond.methodLink "HammockReach$Outlook" (3 : Nat) ({ cls := "java/lang/Object", name := "<init>", desc := "()V" } : Jvm.MethodName)) ∈ TT := TT_mem 143 (by decide +kernel) rfl
theorem tw_144 : (Jvm.Cond.fieldLink "HammockReach$Outlook" (9 : Nat) "HammockReach$Outlook" "spots" "[I") ∈ TT := TT_mem 144 (by decide +kernel) rfl
theorem tw_145 : (Jvm.Cond.fieldLink "HammockReach$Outlook" (15 : Nat) "HammockReach$Outlook" "near" "[I") ∈ TT := TT_mem 145 (by decide +kernel) rfl
theorem tw_146 : (Jvm.Cond.fieldLink "HammockReach$Outlook" (18 : Nat) "HammockReach$Outlook" "within" "[I") ∈ TT := TT_mem 146 (by decide +kernel) rfl
theorem tw_147 : (Jvm.Cond.fieldLink "HammockReach$Outlook" (27 : Nat) "HammockReach$Outlook" "size" "I") ∈ TT := TT_mem 147 (by decide +kernel) rfl
theorem tw_157 : (Jvm.Cond.instantiable "HammockReach$Row" (3 : Nat)) ∈ TT := TT_mem 157 (by decide +kernel) rfl
theorem tw_159 : (Jvm.Cond.instanceMethod ({ cls := "HammockReach$Row", name := "<init>", desc := "()V" } : Jvm.MethodName)) ∈ TT := TT_mem 159 (by decide +kernel) rfl
theorem tw_160 : (Jvm.Cond.code ({ cls := "HammockReach$Row", name := "<init>", desc := "()V" } : Jvm.MethodName) prog_5_method_1_code (1 : Nat) (Option.none : Option Jvm.ClassFile.FieldType)) ∈ TT := TT_mem 160 (by decide +kernel) rfl
theorem tw_161 : (Jvm.Cond.methodLink "HammockReach$Row" (3 : Nat) ({ cls := "java/lang/Object", name := "<init>", desc := "()V" } : Jvm.MethodName)) ∈ TT := TT_mem 161 (by decide +kernel) rfl
theorem tw_162 : (Jvm.Cond.fieldLink "HammockReach$Row" (9 : Nat) "HammockReach$Row" "items" "[I") ∈ TT := TT_mem 162 (by decide +kernel) rfl
theorem tw_163 : (Jvm.Cond.fieldLink "HammockReach" (82 : Nat) "HammockReach$Row" "items" "[I") ∈ TT := TT_mem 163 (by decide +kernel) rfl
theorem tw_164 : (Jvm.Cond.fieldLink "HammockReach$Row" (15 : Nat) "HammockReach$Row" "lane" "I") ∈ TT := TT_mem 164 (by decide +kernel) rfl
theorem tw_165 : (Jvm.Cond.fieldLink "HammockReach" (76 : Nat) "HammockReach$Row" "lane" "I") ∈ TT := TT_mem 165 (by decide +kernel) rfl
theorem tw_166 : (Jvm.Cond.fieldLink "HammockReach$Row" (19 : Nat) "HammockReach$Row" "size" "I") ∈ TT := TT_mem 166 (by decide +kernel) rfl
theorem tw_167 : (Jvm.Cond.fieldLink "HammockReach" (79 : Nat) "HammockReach$Row" "size" "I") ∈ TT := TT_mem 167 (by decide +kernel) rfl
theorem tw_175 : (Jvm.Cond.fieldLink "HammockReach" (11 : Nat) "HammockReach" "rows" "[LHammockReach$Row;") ∈ TT := TT_mem 175 (by decide +kernel) rfl
theorem tw_176 : (Jvm.Cond.fieldLink "HammockReach" (18 : Nat) "HammockReach" "tape" "LHammockReach$Tape;") ∈ TT := TT_mem 176 (by decide +kernel) rfl
theorem tw_177 : (Jvm.Cond.fieldLink "HammockReach" (25 : Nat) "HammockReach" "now" "LHammockReach$Forest;") ∈ TT := TT_mem 177 (by decide +kernel) rfl
theorem tw_178 : (Jvm.Cond.fieldLink "HammockReach" (29 : Nat) "HammockReach" "trial" "LHammockReach$Forest;") ∈ TT := TT_mem 178 (by decide +kernel) rfl
theorem tw_179 : (Jvm.Cond.fieldLink "HammockReach" (32 : Nat) "HammockReach" "images" "[LHammockReach$Forest;") ∈ TT := TT_mem 179 (by decide +kernel) rfl
theorem tw_180 : (Jvm.Cond.fieldLink "HammockReach" (39 : Nat) "HammockReach" "acts" "LHammockReach$Acts;") ∈ TT := TT_mem 180 (by decide +kernel) rfl
theorem tw_181 : (Jvm.Cond.fieldLink "HammockReach" (46 : Nat) "HammockReach" "outlook" "LHammockReach$Outlook;") ∈ TT := TT_mem 181 (by decide +kernel) rfl
theorem tw_182 : (Jvm.Cond.fieldLink "HammockReach" (50 : Nat) "HammockReach" "traced" "[I") ∈ TT := TT_mem 182 (by decide +kernel) rfl
theorem tw_183 : (Jvm.Cond.fieldLink "HammockReach" (232 : Nat) "HammockReach" "tracedCount" "I") ∈ TT := TT_mem 183 (by decide +kernel) rfl
theorem tw_184 : (Jvm.Cond.fieldLink "HammockReach" (68 : Nat) "HammockReach" "finding" "I") ∈ TT := TT_mem 184 (by decide +kernel) rfl
theorem tw_206 : (Jvm.Cond.methodLink "HammockReachLaw" (13 : Nat) ({ cls := "HammockReach", name := "row", desc := "(III)I" } : Jvm.MethodName)) ∈ TT := TT_mem 206 (by decide +kernel) rfl
theorem tw_207 : (Jvm.Cond.instanceMethod ({ cls := "HammockReach", name := "row", desc := "(III)I" } : Jvm.MethodName)) ∈ TT := TT_mem 207 (by decide +kernel) rfl
theorem tw_208 : (Jvm.Cond.selects "HammockReach" ({ cls := "HammockReach", name := "row", desc := "(III)I" } : Jvm.MethodName) ({ cls := "HammockReach", name := "row", desc := "(III)I" } : Jvm.MethodName)) ∈ TT := TT_mem 208 (by decide +kernel) rfl
theorem tw_209 : (Jvm.Cond.code ({ cls := "HammockReach", name := "row", desc := "(III)I" } : Jvm.MethodName) prog_1_method_2_code (4 : Nat) (Option.some Jvm.ClassFile.FieldType.int)) ∈ TT := TT_mem 209 (by decide +kernel) rfl
theorem tw_210 : (Jvm.Cond.methodLink "HammockReach" (55 : Nat) ({ cls := "HammockReach", name := "isRow", desc := "(I)Z" } : Jvm.MethodName)) ∈ TT := TT_mem 210 (by decide +kernel) rfl
theorem tw_211 : (Jvm.Cond.static ({ cls := "HammockReach", name := "isRow", desc := "(I)Z" } : Jvm.MethodName)) ∈ TT := TT_mem 211 (by decide +kernel) rfl
theorem tw_212 : (Jvm.Cond.code ({ cls := "HammockReach", name := "isRow", desc := "(I)Z" } : Jvm.MethodName) prog_1_method_35_code (1 : Nat) (Option.some Jvm.ClassFile.FieldType.boolean)) ∈ TT := TT_mem 212 (by decide +kernel) rfl
theorem tw_213 : (Jvm.Cond.methodLink "HammockReach" (59 : Nat) ({ cls := "HammockReach", name := "isBelow", desc := "(II)Z" } : Jvm.MethodName)) ∈ TT := TT_mem 213 (by decide +kernel) rfl
theorem tw_214 : (Jvm.Cond.static ({ cls := "HammockReach", name := "isBelow", desc := "(II)Z" } : Jvm.MethodName)) ∈ TT := TT_mem 214 (by decide +kernel) rfl
theorem tw_215 : (Jvm.Cond.code ({ cls := "HammockReach", name := "isBelow", desc := "(II)Z" } : Jvm.MethodName) prog_1_method_34_code (2 : Nat) (Option.some Jvm.ClassFile.FieldType.boolean)) ∈ TT := TT_mem 215 (by decide +kernel) rfl
theorem tw_216 : (Jvm.Cond.constant "HammockReach" (63 : Nat) (-1000001 : Int32)) ∈ TT := TT_mem 216 (by decide +kernel) rfl
theorem tw_217 : (Jvm.Cond.methodLink "HammockReach" (64 : Nat) ({ cls := "HammockReach", name := "finds", desc := "(I)I" } : Jvm.MethodName)) ∈ TT := TT_mem 217 (by decide +kernel) rfl
theorem tw_219 : (Jvm.Cond.instanceMethod ({ cls := "HammockReach", name := "finds", desc := "(I)I" } : Jvm.MethodName)) ∈ TT := TT_mem 219 (by decide +kernel) rfl
theorem tw_220 : (Jvm.Cond.code ({ cls := "HammockReach", name := "finds", desc := "(I)I" } : Jvm.MethodName) prog_1_method_39_code (2 : Nat) (Option.some Jvm.ClassFile.FieldType.int)) ∈ TT := TT_mem 220 (by decide +kernel) rfl
theorem tw_221 : (Jvm.Cond.constant "HammockReach" (253 : Nat) (-1000010 : Int32)) ∈ TT := TT_mem 221 (by decide +kernel) rfl
theorem tw_222 : (Jvm.Cond.methodLink "HammockReach" (72 : Nat) ({ cls := "HammockReach$Row", name := "begin", desc := "(II)V" } : Jvm.MethodName)) ∈ TT := TT_mem 222 (by decide +kernel) rfl
theorem tw_223 : (Jvm.Cond.instanceMethod ({ cls := "HammockReach$Row", name := "begin", desc := "(II)V" } : Jvm.MethodName)) ∈ TT := TT_mem 223 (by decide +kernel) rfl
theorem tw_224 : (Jvm.Cond.selects "HammockReach$Row" ({ cls := "HammockReach$Row", name := "begin", desc := "(II)V" } : Jvm.MethodName) ({ cls := "HammockReach$Row", name := "begin", desc := "(II)V" } : Jvm.MethodName)) ∈ TT := TT_mem 224 (by decide +kernel) rfl
theorem tw_225 : (Jvm.Cond.code ({ cls := "HammockReach$Row", name := "begin", desc := "(II)V" } : Jvm.MethodName) prog_5_method_2_code (4 : Nat) (Option.none : Option Jvm.ClassFile.FieldType)) ∈ TT := TT_mem 225 (by decide +kernel) rfl
theorem tw_226 : (Jvm.Cond.methodLink "HammockReachLaw" (18 : Nat) ({ cls := "HammockReach", name := "set", desc := "(III)I" } : Jvm.MethodName)) ∈ TT := TT_mem 226 (by decide +kernel) rfl
theorem tw_227 : (Jvm.Cond.instanceMethod ({ cls := "HammockReach", name := "set", desc := "(III)I" } : Jvm.MethodName)) ∈ TT := TT_mem 227 (by decide +kernel) rfl
theorem tw_228 : (Jvm.Cond.selects "HammockReach" ({ cls := "HammockReach", name := "set", desc := "(III)I" } : Jvm.MethodName) ({ cls := "HammockReach", name := "set", desc := "(III)I" } : Jvm.MethodName)) ∈ TT := TT_mem 228 (by decide +kernel) rfl
theorem tw_229 : (Jvm.Cond.code ({ cls := "HammockReach", name := "set", desc := "(III)I" } : Jvm.MethodName) prog_1_method_3_code (5 : Nat) (Option.some Jvm.ClassFile.FieldType.int)) ∈ TT := TT_mem 229 (by decide +kernel) rfl
theorem tw_230 : (Jvm.Cond.methodLink "HammockReach" (85 : Nat) ({ cls := "HammockReach$Row", name := "narrowed", desc := "(I)I" } : Jvm.MethodName)) ∈ TT := TT_mem 230 (by decide +kernel) rfl
theorem tw_231 : (Jvm.Cond.instanceMethod ({ cls := "HammockReach$Row", name := "narrowed", desc := "(I)I" } : Jvm.MethodName)) ∈ TT := TT_mem 231 (by decide +kernel) rfl
theorem tw_232 : (Jvm.Cond.selects "HammockReach$Row" ({ cls := "HammockReach$Row", name := "narrowed", desc := "(I)I" } : Jvm.MethodName) ({ cls := "HammockReach$Row", name := "narrowed", desc := "(I)I" } : Jvm.MethodName)) ∈ TT := TT_mem 232 (by decide +kernel) rfl
theorem tw_233 : (Jvm.Cond.code ({ cls := "HammockReach$Row", name := "narrowed", desc := "(I)I" } : Jvm.MethodName) prog_5_method_3_code (2 : Nat) (Option.some Jvm.ClassFile.FieldType.int)) ∈ TT := TT_mem 233 (by decide +kernel) rfl
theorem tw_234 : (Jvm.Cond.methodLink "HammockReachLaw" (22 : Nat) ({ cls := "HammockReach", name := "copy", desc := "(IIIII)I" } : Jvm.MethodName)) ∈ TT := TT_mem 234 (by decide +kernel) rfl
theorem tw_235 : (Jvm.Cond.instanceMethod ({ cls := "HammockReach", name := "copy", desc := "(IIIII)I" } : Jvm.MethodName)) ∈ TT := TT_mem 235 (by decide +kernel) rfl
theorem tw_236 : (Jvm.Cond.selects "HammockReach" ({ cls := "HammockReach", name := "copy", desc := "(IIIII)I" } : Jvm.MethodName) ({ cls := "HammockReach", name := "copy", desc := "(IIIII)I" } : Jvm.MethodName)) ∈ TT := TT_mem 236 (by decide +kernel) rfl
theorem tw_237 : (Jvm.Cond.code ({ cls := "HammockReach", name := "copy", desc := "(IIIII)I" } : Jvm.MethodName) prog_1_method_4_code (8 : Nat) (Option.some Jvm.ClassFile.FieldType.int)) ∈ TT := TT_mem 237 (by decide +kernel) rfl
theorem tw_238 : (Jvm.Cond.methodLink "HammockReach" (88 : Nat) ({ cls := "HammockReach$Row", name := "hasSpan", desc := "(II)Z" } : Jvm.MethodName)) ∈ TT := TT_mem 238 (by decide +kernel) rfl
theorem tw_239 : (Jvm.Cond.instanceMethod ({ cls := "HammockReach$Row", name := "hasSpan", desc := "(II)Z" } : Jvm.MethodName)) ∈ TT := TT_mem 239 (by decide +kernel) rfl
theorem tw_240 : (Jvm.Cond.selects "HammockReach$Row" ({ cls := "HammockReach$Row", name := "hasSpan", desc := "(II)Z" } : Jvm.MethodName) ({ cls := "HammockReach$Row", name := "hasSpan", desc := "(II)Z" } : Jvm.MethodName)) ∈ TT := TT_mem 240 (by decide +kernel) rfl
theorem tw_241 : (Jvm.Cond.code ({ cls := "HammockReach$Row", name := "hasSpan", desc := "(II)Z" } : Jvm.MethodName) prog_5_method_4_code (3 : Nat) (Option.some Jvm.ClassFile.FieldType.boolean)) ∈ TT := TT_mem 241 (by decide +kernel) rfl
theorem tw_242 : (Jvm.Cond.methodLink "HammockReach" (91 : Nat) ({ cls := "java/lang/System", name := "arraycopy", desc := "(Ljava/lang/Object;ILjava/lang/Object;II)V" } : Jvm.MethodName)) ∈ TT := TT_mem 242 (by decide +kernel) rfl
theorem tw_243 : (Jvm.Cond.static ({ cls := "java/lang/System", name := "arraycopy", desc := "(Ljava/lang/Object;ILjava/lang/Object;II)V" } : Jvm.MethodName)) ∈ TT := TT_mem 243 (by decide +kernel) rfl
theorem tw_244 : (Jvm.Cond.native ({ cls := "java/lang/System", name := "arraycopy", desc := "(Ljava/lang/Object;ILjava/lang/Object;II)V" } : Jvm.MethodName)) ∈ TT := TT_mem 244 (by decide +kernel) rfl
theorem tw_245 : (Jvm.Cond.methodLink "HammockReachLaw" (27 : Nat) ({ cls := "HammockReach", name := "drop", desc := "(I)I" } : Jvm.MethodName)) ∈ TT := TT_mem 245 (by decide +kernel) rfl
theorem tw_246 : (Jvm.Cond.instanceMethod ({ cls := "HammockReach", name := "drop", desc := "(I)I" } : Jvm.MethodName)) ∈ TT := TT_mem 246 (by decide +kernel) rfl
theorem tw_247 : (Jvm.Cond.selects "HammockReach" ({ cls := "HammockReach", name := "drop", desc := "(I)I" } : Jvm.MethodName) ({ cls := "HammockReach", name := "drop", desc := "(I)I" } : Jvm.MethodName)) ∈ TT := TT_mem 247 (by decide +kernel) rfl
theorem tw_248 : (Jvm.Cond.code ({ cls := "HammockReach", name := "drop", desc := "(I)I" } : Jvm.MethodName) prog_1_method_5_code (3 : Nat) (Option.some Jvm.ClassFile.FieldType.int)) ∈ TT := TT_mem 248 (by decide +kernel) rfl
theorem tw_249 : (Jvm.Cond.methodLink "HammockReachLaw" (32 : Nat) ({ cls := "HammockReach", name := "feed", desc := "(I)I" } : Jvm.MethodName)) ∈ TT := TT_mem 249 (by decide +kernel) rfl
theorem tw_250 : (Jvm.Cond.instanceMethod ({ cls := "HammockReach", name := "feed", desc := "(I)I" } : Jvm.MethodName)) ∈ TT := TT_mem 250 (by decide +kernel) rfl
theorem tw_251 : (Jvm.Cond.selects "HammockReach" ({ cls := "HammockReach", name := "feed", desc := "(I)I" } : Jvm.MethodName) ({ cls := "HammockReach", name := "feed", desc := "(I)I" } : Jvm.MethodName)) ∈ TT := TT_mem 251 (by decide +kernel) rfl
theorem tw_252 : (Jvm.Cond.code ({ cls := "HammockReach", name := "feed", desc := "(I)I" } : Jvm.MethodName) prog_1_method_6_code (2 : Nat) (Option.some Jvm.ClassFile.FieldType.int)) ∈ TT := TT_mem 252 (by decide +kernel) rfl
theorem tw_253 : (Jvm.Cond.constant "HammockReach" (100 : Nat) (-1000003 : Int32)) ∈ TT := TT_mem 253 (by decide +kernel) rfl
theorem tw_254 : (Jvm.Cond.methodLink "HammockReachLaw" (36 : Nat) ({ cls := "HammockReach", name := "forest", desc := "()I" } : Jvm.MethodName)) ∈ TT := TT_mem 254 (by decide +kernel) rfl
theorem tw_255 : (Jvm.Cond.instanceMethod ({ cls := "HammockReach", name := "forest", desc := "()I" } : Jvm.MethodName)) ∈ TT := TT_mem 255 (by decide +kernel) rfl
theorem tw_256 : (Jvm.Cond.selects "HammockReach" ({ cls := "HammockReach", name := "forest", desc := "()I" } : Jvm.MethodName) ({ cls := "HammockReach", name := "forest", desc := "()I" } : Jvm.MethodName)) ∈ TT := TT_mem 256 (by decide +kernel) rfl
theorem tw_257 : (Jvm.Cond.code ({ cls := "HammockReach", name := "forest", desc := "()I" } : Jvm.MethodName) prog_1_method_7_code (2 : Nat) (Option.some Jvm.ClassFile.FieldType.int)) ∈ TT := TT_mem 257 (by decide +kernel) rfl
theorem tw_258 : (Jvm.Cond.methodLink "HammockReach" (104 : Nat) ({ cls := "HammockReach$Tape", name := "readInto", desc := "(LHammockReach$Forest;)Z" } : Jvm.MethodName)) ∈ TT := TT_mem 258 (by decide +kernel) rfl
theorem tw_259 : (Jvm.Cond.instanceMethod ({ cls := "HammockReach$Tape", name := "readInto", desc := "(LHammockReach$Forest;)Z" } : Jvm.MethodName)) ∈ TT := TT_mem 259 (by decide +kernel) rfl
theorem tw_260 : (Jvm.Cond.selects "HammockReach$Tape" ({ cls := "HammockReach$Tape", name := "readInto", desc := "(LHammockReach$Forest;)Z" } : Jvm.MethodName) ({ cls := "HammockReach$Tape", name := "readInto", desc := "(LHammockReach$Forest;)Z" } : Jvm.MethodName)) ∈ TT := TT_mem 260 (by decide +kernel) rfl
theorem tw_261 : (Jvm.Cond.code ({ cls := "HammockReach$Tape", name := "readInto", desc := "(LHammockReach$Forest;)Z" } : Jvm.MethodName) prog_6_method_2_code (3 : Nat) (Option.some Jvm.ClassFile.FieldType.boolean)) ∈ TT := TT_mem 261 (by decide +kernel) rfl
theorem tw_262 : (Jvm.Cond.methodLink "HammockReach$Tape" (19 : Nat) ({ cls := "HammockReach$Forest", name := "begin", desc := "()V" } : Jvm.MethodName)) ∈ TT := TT_mem 262 (by decide +kernel) rfl
theorem tw_263 : (Jvm.Cond.instanceMethod ({ cls := "HammockReach$Forest", name := "begin", desc := "()V" } : Jvm.MethodName)) ∈ TT := TT_mem 263 (by decide +kernel) rfl
theorem tw_264 : (Jvm.Cond.selects "HammockReach$Forest" ({ cls := "HammockReach$Forest", name := "begin", desc := "()V" } : Jvm.MethodName) ({ cls := "HammockReach$Forest", name := "begin", desc := "()V" } : Jvm.MethodName)) ∈ TT := TT_mem 264 (by decide +kernel) rfl
theorem tw_265 : (Jvm.Cond.code ({ cls := "HammockReach$Forest", name := "begin", desc := "()V" } : Jvm.MethodName) prog_3_method_2_code (1 : Nat) (Option.none : Option Jvm.ClassFile.FieldType)) ∈ TT := TT_mem 265 (by decide +kernel) rfl
theorem tw_266 : (Jvm.Cond.methodLink "HammockReach$Tape" (24 : Nat) ({ cls := "HammockReach$Tape", name := "readLaw", desc := "(LHammockReach$Forest;)Z" } : Jvm.MethodName)) ∈ TT := TT_mem 266 (by decide +kernel) rfl
theorem tw_268 : (Jvm.Cond.instanceMethod ({ cls := "HammockReach$Tape", name := "readLaw", desc := "(LHammockReach$Forest;)Z" } : Jvm.MethodName)) ∈ TT := TT_mem 268 (by decide +kernel) rfl
theorem tw_269 : (Jvm.Cond.code ({ cls := "HammockReach$Tape", name := "readLaw", desc := "(LHammockReach$Forest;)Z" } : Jvm.MethodName) prog_6_method_3_code (2 : Nat) (Option.some Jvm.ClassFile.FieldType.boolean)) ∈ TT := TT_mem 269 (by decide +kernel) rfl
theorem tw_270 : (Jvm.Cond.methodLink "HammockReach$Tape" (34 : Nat) ({ cls := "HammockReach$Tape", name := "readSign", desc := "(I)Z" } : Jvm.MethodName)) ∈ TT := TT_mem 270 (by decide +kernel) rfl
theorem tw_272 : (Jvm.Cond.instanceMethod ({ cls := "HammockReach$Tape", name := "readSign", desc := "(I)Z" } : Jvm.MethodName)) ∈ TT := TT_mem 272 (by decide +kernel) rfl
theorem tw_273 : (Jvm.Cond.code ({ cls := "HammockReach$Tape", name := "readSign", desc := "(I)Z" } : Jvm.MethodName) prog_6_method_7_code (2 : Nat) (Option.some Jvm.ClassFile.FieldType.boolean)) ∈ TT := TT_mem 273 (by decide +kernel) rfl
theorem tw_274 : (Jvm.Cond.methodLink "HammockReach$Tape" (51 : Nat) ({ cls := "HammockReach$Tape", name := "byteAt", desc := "(I)I" } : Jvm.MethodName)) ∈ TT := TT_mem 274 (by decide +kernel) rfl
theorem tw_276 : (Jvm.Cond.instanceMethod ({ cls := "HammockReach$Tape", name := "byteAt", desc := "(I)I" } : Jvm.MethodName)) ∈ TT := TT_mem 276 (by decide +kernel) rfl
theorem tw_277 : (Jvm.Cond.code ({ cls := "HammockReach$Tape", name := "byteAt", desc := "(I)I" } : Jvm.MethodName) prog_6_method_10_code (2 : Nat) (Option.some Jvm.ClassFile.FieldType.int)) ∈ TT := TT_mem 277 (by decide +kernel) rfl
theorem tw_279 : (Jvm.Cond.methodLink "HammockReach$Tape" (58 : Nat) ({ cls := "HammockReach$Tape", name := "refuse", desc := "(I)Z" } : Jvm.MethodName)) ∈ TT := TT_mem 279 (by decide +kernel) rfl
theorem tw_281 : (Jvm.Cond.instanceMethod ({ cls := "HammockReach$Tape", name := "refuse", desc := "(I)Z" } : Jvm.MethodName)) ∈ TT := TT_mem 281 (by decide +kernel) rfl
theorem tw_282 : (Jvm.Cond.code ({ cls := "HammockReach$Tape", name := "refuse", desc := "(I)Z" } : Jvm.MethodName) prog_6_method_9_code (2 : Nat) (Option.some Jvm.ClassFile.FieldType.boolean)) ∈ TT := TT_mem 282 (by decide +kernel) rfl
theorem tw_283 : (Jvm.Cond.methodLink "HammockReach$Tape" (38 : Nat) ({ cls := "HammockReach$Tape", name := "readNumber", desc := "(II)I" } : Jvm.MethodName)) ∈ TT := TT_mem 283 (by decide +kernel) rfl
theorem tw_285 : (Jvm.Cond.instanceMethod ({ cls := "HammockReach$Tape", name := "readNumber", desc := "(II)I" } : Jvm.MethodName)) ∈ TT := TT_mem 285 (by decide +kernel) rfl
theorem tw_286 : (Jvm.Cond.code ({ cls := "HammockReach$Tape", name := "readNumber", desc := "(II)I" } : Jvm.MethodName) prog_6_method_8_code (6 : Nat) (Option.some Jvm.ClassFile.FieldType.int)) ∈ TT := TT_mem 286 (by decide +kernel) rfl
theorem tw_287 : (Jvm.Cond.methodLink "HammockReach$Tape" (83 : Nat) ({ cls := "HammockReach$Tape", name := "isFigure", desc := "(I)Z" } : Jvm.MethodName)) ∈ TT := TT_mem 287 (by decide +kernel) rfl
theorem tw_288 : (Jvm.Cond.static ({ cls := "HammockReach$Tape", name := "isFigure", desc := "(I)Z" } : Jvm.MethodName)) ∈ TT := TT_mem 288 (by decide +kernel) rfl
theorem tw_289 : (Jvm.Cond.code ({ cls := "HammockReach$Tape", name := "isFigure", desc := "(I)Z" } : Jvm.MethodName) prog_6_method_11_code (1 : Nat) (Option.some Jvm.ClassFile.FieldType.boolean)) ∈ TT := TT_mem 289 (by decide +kernel) rfl
theorem tw_290 : (Jvm.Cond.methodLink "HammockReach$Tape" (31 : Nat) ({ cls := "HammockReach$Tape", name := "readHammock", desc := "(LHammockReach$Forest;)Z" } : Jvm.MethodName)) ∈ TT := TT_mem 290 (by decide +kernel) rfl
theorem tw_292 : (Jvm.Cond.instanceMethod ({ cls := "HammockReach$Tape", name := "readHammock", desc := "(LHammockReach$Forest;)Z" } : Jvm.MethodName)) ∈ TT := TT_mem 292 (by decide +kernel) rfl
theorem tw_293 : (Jvm.Cond.code ({ cls := "HammockReach$Tape", name := "readHammock", desc := "(LHammockReach$Forest;)Z" } : Jvm.MethodName) prog_6_method_4_code (4 : Nat) (Option.some Jvm.ClassFile.FieldType.boolean)) ∈ TT := TT_mem 293 (by decide +kernel) rfl
theorem tw_294 : (Jvm.Cond.methodLink "HammockReach$Tape" (55 : Nat) ({ cls := "HammockReach$Tape", name := "sortOf", desc := "(I)I" } : Jvm.MethodName)) ∈ TT := TT_mem 294 (by decide +kernel) rfl
theorem tw_295 : (Jvm.Cond.static ({ cls := "HammockReach$Tape", name := "sortOf", desc := "(I)I" } : Jvm.MethodName)) ∈ TT := TT_mem 295 (by decide +kernel) rfl
theorem tw_296 : (Jvm.Cond.code ({ cls := "HammockReach$Tape", name := "sortOf", desc := "(I)I" } : Jvm.MethodName) prog_6_method_12_code (1 : Nat) (Option.some Jvm.ClassFile.FieldType.int)) ∈ TT := TT_mem 296 (by decide +kernel) rfl
theorem tw_297 : (Jvm.Cond.methodLink "HammockReach$Tape" (64 : Nat) ({ cls := "HammockReach$Tape", name := "readTrees", desc := "(LHammockReach$Forest;I)Z" } : Jvm.MethodName)) ∈ TT := TT_mem 297 (by decide +kernel) rfl
theorem tw_299 : (Jvm.Cond.instanceMethod ({ cls := "HammockReach$Tape", name := "readTrees", desc := "(LHammockReach$Forest;I)Z" } : Jvm.MethodName)) ∈ TT := TT_mem 299 (by decide +kernel) rfl
theorem tw_300 : (Jvm.Cond.code ({ cls := "HammockReach$Tape", name := "readTrees", desc := "(LHammockReach$Forest;I)Z" } : Jvm.MethodName) prog_6_method_5_code (3 : Nat) (Option.some Jvm.ClassFile.FieldType.boolean)) ∈ TT := TT_mem 300 (by decide +kernel) rfl
theorem tw_301 : (Jvm.Cond.methodLink "HammockReach$Tape" (68 : Nat) ({ cls := "HammockReach$Tape", name := "readLoad", desc := "(LHammockReach$Forest;I)Z" } : Jvm.MethodName)) ∈ TT := TT_mem 301 (by decide +kernel) rfl
theorem tw_303 : (Jvm.Cond.instanceMethod ({ cls := "HammockReach$Tape", name := "readLoad", desc := "(LHammockReach$Forest;I)Z" } : Jvm.MethodName)) ∈ TT := TT_mem 303 (by decide +kernel) rfl
theorem tw_304 : (Jvm.Cond.code ({ cls := "HammockReach$Tape", name := "readLoad", desc := "(LHammockReach$Forest;I)Z" } : Jvm.MethodName) prog_6_method_6_code (3 : Nat) (Option.some Jvm.ClassFile.FieldType.boolean)) ∈ TT := TT_mem 304 (by decide +kernel) rfl
theorem tw_305 : (Jvm.Cond.constant "HammockReach" (108 : Nat) (-1000100 : Int32)) ∈ TT := TT_mem 305 (by decide +kernel) rfl
theorem tw_306 : (Jvm.Cond.methodLink "HammockReach" (112 : Nat) ({ cls := "HammockReach$Forest", name := "takeFrom", desc := "(LHammockReach$Forest;)V" } : Jvm.MethodName)) ∈ TT := TT_mem 306 (by decide +kernel) rfl
theorem tw_307 : (Jvm.Cond.instanceMethod ({ cls := "HammockReach$Forest", name := "takeFrom", desc := "(LHammockReach$Forest;)V" } : Jvm.MethodName)) ∈ TT := TT_mem 307 (by decide +kernel) rfl
theorem tw_308 : (Jvm.Cond.selects "HammockReach$Forest" ({ cls := "HammockReach$Forest", name := "takeFrom", desc := "(LHammockReach$Forest;)V" } : Jvm.MethodName) ({ cls := "HammockReach$Forest", name := "takeFrom", desc := "(LHammockReach$Forest;)V" } : Jvm.MethodName)) ∈ TT := TT_mem 308 (by decide +kernel) rfl
theorem tw_309 : (Jvm.Cond.code ({ cls := "HammockReach$Forest", name := "takeFrom", desc := "(LHammockReach$Forest;)V" } : Jvm.MethodName) prog_3_method_3_code (2 : Nat) (Option.none : Option Jvm.ClassFile.FieldType)) ∈ TT := TT_mem 309 (by decide +kernel) rfl
theorem tw_310 : (Jvm.Cond.methodLink "HammockReach$Forest" (41 : Nat) ({ cls := "java/lang/System", name := "arraycopy", desc := "(Ljava/lang/Object;ILjava/lang/Object;II)V" } : Jvm.MethodName)) ∈ TT := TT_mem 310 (by decide +kernel) rfl
theorem tw_311 : (Jvm.Cond.methodLink "HammockReach" (116 : Nat) ({ cls := "HammockReach$Acts", name := "forget", desc := "()V" } : Jvm.MethodName)) ∈ TT := TT_mem 311 (by decide +kernel) rfl
theorem tw_312 : (Jvm.Cond.instanceMethod ({ cls := "HammockReach$Acts", name := "forget", desc := "()V" } : Jvm.MethodName)) ∈ TT := TT_mem 312 (by decide +kernel) rfl
theorem tw_313 : (Jvm.Cond.selects "HammockReach$Acts" ({ cls := "HammockReach$Acts", name := "forget", desc := "()V" } : Jvm.MethodName) ({ cls := "HammockReach$Acts", name := "forget", desc := "()V" } : Jvm.MethodName)) ∈ TT := TT_mem 313 (by decide +kernel) rfl
theorem tw_314 : (Jvm.Cond.code ({ cls := "HammockReach$Acts", name := "forget", desc := "()V" } : Jvm.MethodName) prog_2_method_2_code (1 : Nat) (Option.none : Option Jvm.ClassFile.FieldType)) ∈ TT := TT_mem 314 (by decide +kernel) rfl
theorem tw_315 : (Jvm.Cond.methodLink "HammockReachLaw" (41 : Nat) ({ cls := "HammockReach", name := "fault", desc := "()I" } : Jvm.MethodName)) ∈ TT := TT_mem 315 (by decide +kernel) rfl
theorem tw_316 : (Jvm.Cond.instanceMethod ({ cls := "HammockReach", name := "fault", desc := "()I" } : Jvm.MethodName)) ∈ TT := TT_mem 316 (by decide +kernel) rfl
theorem tw_317 : (Jvm.Cond.selects "HammockReach" ({ cls := "HammockReach", name := "fault", desc := "()I" } : Jvm.MethodName) ({ cls := "HammockReach", name := "fault", desc := "()I" } : Jvm.MethodName)) ∈ TT := TT_mem 317 (by decide +kernel) rfl
theorem tw_318 : (Jvm.Cond.code ({ cls := "HammockReach", name := "fault", desc := "()I" } : Jvm.MethodName) prog_1_method_8_code (1 : Nat) (Option.some Jvm.ClassFile.FieldType.int)) ∈ TT := TT_mem 318 (by decide +kernel) rfl
theorem tw_319 : (Jvm.Cond.methodLink "HammockReachLaw" (45 : Nat) ({ cls := "HammockReach", name := "minutes", desc := "(I)I" } : Jvm.MethodName)) ∈ TT := TT_mem 319 (by decide +kernel) rfl
theorem tw_320 : (Jvm.Cond.instanceMethod ({ cls := "HammockReach", name := "minutes", desc := "(I)I" } : Jvm.MethodName)) ∈ TT := TT_mem 320 (by decide +kernel) rfl
theorem tw_321 : (Jvm.Cond.selects "HammockReach" ({ cls := "HammockReach", name := "minutes", desc := "(I)I" } : Jvm.MethodName) ({ cls := "HammockReach", name := "minutes", desc := "(I)I" } : Jvm.MethodName)) ∈ TT := TT_mem 321 (by decide +kernel) rfl
theorem tw_322 : (Jvm.Cond.code ({ cls := "HammockReach", name := "minutes", desc := "(I)I" } : Jvm.MethodName) prog_1_method_9_code (3 : Nat) (Option.some Jvm.ClassFile.FieldType.int)) ∈ TT := TT_mem 322 (by decide +kernel) rfl
theorem tw_323 : (Jvm.Cond.constant "HammockReach" (127 : Nat) (-1000002 : Int32)) ∈ TT := TT_mem 323 (by decide +kernel) rfl
theorem tw_324 : (Jvm.Cond.methodLink "HammockReach" (131 : Nat) ({ cls := "HammockReach$Acts", name := "keep", desc := "(IIII)V" } : Jvm.MethodName)) ∈ TT := TT_mem 324 (by decide +kernel) rfl
theorem tw_325 : (Jvm.Cond.instanceMethod ({ cls := "HammockReach$Acts", name := "keep", desc := "(IIII)V" } : Jvm.MethodName)) ∈ TT := TT_mem 325 (by decide +kernel) rfl
theorem tw_326 : (Jvm.Cond.selects "HammockReach$Acts" ({ cls := "HammockReach$Acts", name := "keep", desc := "(IIII)V" } : Jvm.MethodName) ({ cls := "HammockReach$Acts", name := "keep", desc := "(IIII)V" } : Jvm.MethodName)) ∈ TT := TT_mem 326 (by decide +kernel) rfl
theorem tw_327 : (Jvm.Cond.code ({ cls := "HammockReach$Acts", name := "keep", desc := "(IIII)V" } : Jvm.MethodName) prog_2_method_3_code (6 : Nat) (Option.none : Option Jvm.ClassFile.FieldType)) ∈ TT := TT_mem 327 (by decide +kernel) rfl
theorem tw_328 : (Jvm.Cond.methodLink "HammockReach" (135 : Nat) ({ cls := "HammockReach$Forest", name := "downBits", desc := "(I)I" } : Jvm.MethodName)) ∈ TT := TT_mem 328 (by decide +kernel) rfl
theorem tw_329 : (Jvm.Cond.instanceMethod ({ cls := "HammockReach$Forest", name := "downBits", desc := "(I)I" } : Jvm.MethodName)) ∈ TT := TT_mem 329 (by decide +kernel) rfl
theorem tw_330 : (Jvm.Cond.selects "HammockReach$Forest" ({ cls := "HammockReach$Forest", name := "downBits", desc := "(I)I" } : Jvm.MethodName) ({ cls := "HammockReach$Forest", name := "downBits", desc := "(I)I" } : Jvm.MethodName)) ∈ TT := TT_mem 330 (by decide +kernel) rfl
theorem tw_331 : (Jvm.Cond.code ({ cls := "HammockReach$Forest", name := "downBits", desc := "(I)I" } : Jvm.MethodName) prog_3_method_7_code (4 : Nat) (Option.some Jvm.ClassFile.FieldType.int)) ∈ TT := TT_mem 331 (by decide +kernel) rfl
theorem tw_332 : (Jvm.Cond.methodLink "HammockReach$Forest" (61 : Nat) ({ cls := "HammockReach$Forest", name := "isDown", desc := "(II)Z" } : Jvm.MethodName)) ∈ TT := TT_mem 332 (by decide +kernel) rfl
theorem tw_333 : (Jvm.Cond.instanceMethod ({ cls := "HammockReach$Forest", name := "isDown", desc := "(II)Z" } : Jvm.MethodName)) ∈ TT := TT_mem 333 (by decide +kernel) rfl
theorem tw_334 : (Jvm.Cond.selects "HammockReach$Forest" ({ cls := "HammockReach$Forest", name := "isDown", desc := "(II)Z" } : Jvm.MethodName) ({ cls := "HammockReach$Forest", name := "isDown", desc := "(II)Z" } : Jvm.MethodName)) ∈ TT := TT_mem 334 (by decide +kernel) rfl
theorem tw_335 : (Jvm.Cond.code ({ cls := "HammockReach$Forest", name := "isDown", desc := "(II)Z" } : Jvm.MethodName) prog_3_method_6_code (3 : Nat) (Option.some Jvm.ClassFile.FieldType.boolean)) ∈ TT := TT_mem 335 (by decide +kernel) rfl
theorem tw_336 : (Jvm.Cond.methodLink "HammockReach$Forest" (53 : Nat) ({ cls := "HammockReach$Forest", name := "isCut", desc := "(I)Z" } : Jvm.MethodName)) ∈ TT := TT_mem 336 (by decide +kernel) rfl
theorem tw_337 : (Jvm.Cond.instanceMethod ({ cls := "HammockReach$Forest", name := "isCut", desc := "(I)Z" } : Jvm.MethodName)) ∈ TT := TT_mem 337 (by decide +kernel) rfl
theorem tw_338 : (Jvm.Cond.selects "HammockReach$Forest" ({ cls := "HammockReach$Forest", name := "isCut", desc := "(I)Z" } : Jvm.MethodName) ({ cls := "HammockReach$Forest", name := "isCut", desc := "(I)Z" } : Jvm.MethodName)) ∈ TT := TT_mem 338 (by decide +kernel) rfl
theorem tw_339 : (Jvm.Cond.code ({ cls := "HammockReach$Forest", name := "isCut", desc := "(I)Z" } : Jvm.MethodName) prog_3_method_4_code (2 : Nat) (Option.some Jvm.ClassFile.FieldType.boolean)) ∈ TT := TT_mem 339 (by decide +kernel) rfl
theorem tw_340 : (Jvm.Cond.methodLink "HammockReach$Forest" (57 : Nat) ({ cls := "HammockReach$Forest", name := "dip", desc := "(II)I" } : Jvm.MethodName)) ∈ TT := TT_mem 340 (by decide +kernel) rfl
theorem tw_341 : (Jvm.Cond.instanceMethod ({ cls := "HammockReach$Forest", name := "dip", desc := "(II)I" } : Jvm.MethodName)) ∈ TT := TT_mem 341 (by decide +kernel) rfl
theorem tw_342 : (Jvm.Cond.selects "HammockReach$Forest" ({ cls := "HammockReach$Forest", name := "dip", desc := "(II)I" } : Jvm.MethodName) ({ cls := "HammockReach$Forest", name := "dip", desc := "(II)I" } : Jvm.MethodName)) ∈ TT := TT_mem 342 (by decide +kernel) rfl
theorem tw_343 : (Jvm.Cond.code ({ cls := "HammockReach$Forest", name := "dip", desc := "(II)I" } : Jvm.MethodName) prog_3_method_5_code (5 : Nat) (Option.some Jvm.ClassFile.FieldType.int)) ∈ TT := TT_mem 343 (by decide +kernel) rfl
theorem tw_344 : (Jvm.Cond.methodLink "HammockReachLaw" (49 : Nat) ({ cls := "HammockReach", name := "sling", desc := "(III)I" } : Jvm.MethodName)) ∈ TT := TT_mem 344 (by decide +kernel) rfl
theorem tw_345 : (Jvm.Cond.instanceMethod ({ cls := "HammockReach", name := "sling", desc := "(III)I" } : Jvm.MethodName)) ∈ TT := TT_mem 345 (by decide +kernel) rfl
theorem tw_346 : (Jvm.Cond.selects "HammockReach" ({ cls := "HammockReach", name := "sling", desc := "(III)I" } : Jvm.MethodName) ({ cls := "HammockReach", name := "sling", desc := "(III)I" } : Jvm.MethodName)) ∈ TT := TT_mem 346 (by decide +kernel) rfl
theorem tw_347 : (Jvm.Cond.code ({ cls := "HammockReach", name := "sling", desc := "(III)I" } : Jvm.MethodName) prog_1_method_10_code (4 : Nat) (Option.some Jvm.ClassFile.FieldType.int)) ∈ TT := TT_mem 347 (by decide +kernel) rfl
theorem tw_348 : (Jvm.Cond.methodLink "HammockReach" (138 : Nat) ({ cls := "HammockReach", name := "isHammock", desc := "(I)Z" } : Jvm.MethodName)) ∈ TT := TT_mem 348 (by decide +kernel) rfl
theorem tw_350 : (Jvm.Cond.instanceMethod ({ cls := "HammockReach", name := "isHammock", desc := "(I)Z" } : Jvm.MethodName)) ∈ TT := TT_mem 350 (by decide +kernel) rfl
theorem tw_351 : (Jvm.Cond.code ({ cls := "HammockReach", name := "isHammock", desc := "(I)Z" } : Jvm.MethodName) prog_1_method_37_code (2 : Nat) (Option.some Jvm.ClassFile.FieldType.boolean)) ∈ TT := TT_mem 351 (by decide +kernel) rfl
theorem tw_352 : (Jvm.Cond.methodLink "HammockReach" (147 : Nat) ({ cls := "HammockReach$Forest", name := "place", desc := "(II)I" } : Jvm.MethodName)) ∈ TT := TT_mem 352 (by decide +kernel) rfl
theorem tw_353 : (Jvm.Cond.instanceMethod ({ cls := "HammockReach$Forest", name := "place", desc := "(II)I" } : Jvm.MethodName)) ∈ TT := TT_mem 353 (by decide +kernel) rfl
theorem tw_354 : (Jvm.Cond.selects "HammockReach$Forest" ({ cls := "HammockReach$Forest", name := "place", desc := "(II)I" } : Jvm.MethodName) ({ cls := "HammockReach$Forest", name := "place", desc := "(II)I" } : Jvm.MethodName)) ∈ TT := TT_mem 354 (by decide +kernel) rfl
theorem tw_355 : (Jvm.Cond.code ({ cls := "HammockReach$Forest", name := "place", desc := "(II)I" } : Jvm.MethodName) prog_3_method_8_code (3 : Nat) (Option.some Jvm.ClassFile.FieldType.int)) ∈ TT := TT_mem 355 (by decide +kernel) rfl
theorem tw_356 : (Jvm.Cond.methodLink "HammockReach$Forest" (65 : Nat) ({ cls := "HammockReach$Forest", name := "offset", desc := "(II)I" } : Jvm.MethodName)) ∈ TT := TT_mem 356 (by decide +kernel) rfl
theorem tw_358 : (Jvm.Cond.instanceMethod ({ cls := "HammockReach$Forest", name := "offset", desc := "(II)I" } : Jvm.MethodName)) ∈ TT := TT_mem 358 (by decide +kernel) rfl
theorem tw_359 : (Jvm.Cond.code ({ cls := "HammockReach$Forest", name := "offset", desc := "(II)I" } : Jvm.MethodName) prog_3_method_9_code (3 : Nat) (Option.some Jvm.ClassFile.FieldType.int)) ∈ TT := TT_mem 359 (by decide +kernel) rfl
theorem tw_360 : (Jvm.Cond.methodLink "HammockReach$Forest" (68 : Nat) ({ cls := "HammockReach$Forest", name := "swung", desc := "(II)I" } : Jvm.MethodName)) ∈ TT := TT_mem 360 (by decide +kernel) rfl
theorem tw_361 : (Jvm.Cond.static ({ cls := "HammockReach$Forest", name := "swung", desc := "(II)I" } : Jvm.MethodName)) ∈ TT := TT_mem 361 (by decide +kernel) rfl
theorem tw_362 : (Jvm.Cond.code ({ cls := "HammockReach$Forest", name := "swung", desc := "(II)I" } : Jvm.MethodName) prog_3_method_10_code (3 : Nat) (Option.some Jvm.ClassFile.FieldType.int)) ∈ TT := TT_mem 362 (by decide +kernel) rfl
theorem tw_363 : (Jvm.Cond.methodLink "HammockReachLaw" (53 : Nat) ({ cls := "HammockReach", name := "load", desc := "(II)I" } : Jvm.MethodName)) ∈ TT := TT_mem 363 (by decide +kernel) rfl
theorem tw_364 : (Jvm.Cond.instanceMethod ({ cls := "HammockReach", name := "load", desc := "(II)I" } : Jvm.MethodName)) ∈ TT := TT_mem 364 (by decide +kernel) rfl
theorem tw_365 : (Jvm.Cond.selects "HammockReach" ({ cls := "HammockReach", name := "load", desc := "(II)I" } : Jvm.MethodName) ({ cls := "HammockReach", name := "load", desc := "(II)I" } : Jvm.MethodName)) ∈ TT := TT_mem 365 (by decide +kernel) rfl
theorem tw_366 : (Jvm.Cond.code ({ cls := "HammockReach", name := "load", desc := "(II)I" } : Jvm.MethodName) prog_1_method_11_code (3 : Nat) (Option.some Jvm.ClassFile.FieldType.int)) ∈ TT := TT_mem 366 (by decide +kernel) rfl
theorem tw_367 : (Jvm.Cond.methodLink "HammockReach" (154 : Nat) ({ cls := "HammockReach$Forest", name := "dip", desc := "(II)I" } : Jvm.MethodName)) ∈ TT := TT_mem 367 (by decide +kernel) rfl
theorem tw_368 : (Jvm.Cond.methodLink "HammockReachLaw" (58 : Nat) ({ cls := "HammockReach", name := "cord", desc := "(II)I" } : Jvm.MethodName)) ∈ TT := TT_mem 368 (by decide +kernel) rfl
theorem tw_369 : (Jvm.Cond.instanceMethod ({ cls := "HammockReach", name := "cord", desc := "(II)I" } : Jvm.MethodName)) ∈ TT := TT_mem 369 (by decide +kernel) rfl
theorem tw_370 : (Jvm.Cond.selects "HammockReach" ({ cls := "HammockReach", name := "cord", desc := "(II)I" } : Jvm.MethodName) ({ cls := "HammockReach", name := "cord", desc := "(II)I" } : Jvm.MethodName)) ∈ TT := TT_mem 370 (by decide +kernel) rfl
theorem tw_371 : (Jvm.Cond.code ({ cls := "HammockReach", name := "cord", desc := "(II)I" } : Jvm.MethodName) prog_1_method_12_code (3 : Nat) (Option.some Jvm.ClassFile.FieldType.int)) ∈ TT := TT_mem 371 (by decide +kernel) rfl
theorem tw_372 : (Jvm.Cond.methodLink "HammockReach" (157 : Nat) ({ cls := "HammockReach$Forest", name := "isCut", desc := "(I)Z" } : Jvm.MethodName)) ∈ TT := TT_mem 372 (by decide +kernel) rfl
theorem tw_373 : (Jvm.Cond.methodLink "HammockReachLaw" (62 : Nat) ({ cls := "HammockReach", name := "undo", desc := "()I" } : Jvm.MethodName)) ∈ TT := TT_mem 373 (by decide +kernel) rfl
theorem tw_374 : (Jvm.Cond.instanceMethod ({ cls := "HammockReach", name := "undo", desc := "()I" } : Jvm.MethodName)) ∈ TT := TT_mem 374 (by decide +kernel) rfl
theorem tw_375 : (Jvm.Cond.selects "HammockReach" ({ cls := "HammockReach", name := "undo", desc := "()I" } : Jvm.MethodName) ({ cls := "HammockReach", name := "undo", desc := "()I" } : Jvm.MethodName)) ∈ TT := TT_mem 375 (by decide +kernel) rfl
theorem tw_376 : (Jvm.Cond.code ({ cls := "HammockReach", name := "undo", desc := "()I" } : Jvm.MethodName) prog_1_method_13_code (1 : Nat) (Option.some Jvm.ClassFile.FieldType.int)) ∈ TT := TT_mem 376 (by decide +kernel) rfl
theorem tw_377 : (Jvm.Cond.methodLink "HammockReach" (166 : Nat) ({ cls := "HammockReach$Acts", name := "takeBack", desc := "(LHammockReach$Forest;)V" } : Jvm.MethodName)) ∈ TT := TT_mem 377 (by decide +kernel) rfl
theorem tw_378 : (Jvm.Cond.instanceMethod ({ cls := "HammockReach$Acts", name := "takeBack", desc := "(LHammockReach$Forest;)V" } : Jvm.MethodName)) ∈ TT := TT_mem 378 (by decide +kernel) rfl
theorem tw_379 : (Jvm.Cond.selects "HammockReach$Acts" ({ cls := "HammockReach$Acts", name := "takeBack", desc := "(LHammockReach$Forest;)V" } : Jvm.MethodName) ({ cls := "HammockReach$Acts", name := "takeBack", desc := "(LHammockReach$Forest;)V" } : Jvm.MethodName)) ∈ TT := TT_mem 379 (by decide +kernel) rfl
theorem tw_380 : (Jvm.Cond.code ({ cls := "HammockReach$Acts", name := "takeBack", desc := "(LHammockReach$Forest;)V" } : Jvm.MethodName) prog_2_method_4_code (4 : Nat) (Option.none : Option Jvm.ClassFile.FieldType)) ∈ TT := TT_mem 380 (by decide +kernel) rfl
theorem tw_381 : (Jvm.Cond.methodLink "HammockReachLaw" (66 : Nat) ({ cls := "HammockReach", name := "hammock", desc := "(II)I" } : Jvm.MethodName)) ∈ TT := TT_mem 381 (by decide +kernel) rfl
theorem tw_382 : (Jvm.Cond.instanceMethod ({ cls := "HammockReach", name := "hammock", desc := "(II)I" } : Jvm.MethodName)) ∈ TT := TT_mem 382 (by decide +kernel) rfl
theorem tw_383 : (Jvm.Cond.selects "HammockReach" ({ cls := "HammockReach", name := "hammock", desc := "(II)I" } : Jvm.MethodName) ({ cls := "HammockReach", name := "hammock", desc := "(II)I" } : Jvm.MethodName)) ∈ TT := TT_mem 383 (by decide +kernel) rfl
theorem tw_384 : (Jvm.Cond.code ({ cls := "HammockReach", name := "hammock", desc := "(II)I" } : Jvm.MethodName) prog_1_method_14_code (3 : Nat) (Option.some Jvm.ClassFile.FieldType.int)) ∈ TT := TT_mem 384 (by decide +kernel) rfl
theorem tw_385 : (Jvm.Cond.methodLink "HammockReachLaw" (70 : Nat) ({ cls := "HammockReach", name := "ahead", desc := "(III)I" } : Jvm.MethodName)) ∈ TT := TT_mem 385 (by decide +kernel) rfl
theorem tw_386 : (Jvm.Cond.instanceMethod ({ cls := "HammockReach", name := "ahead", desc := "(III)I" } : Jvm.MethodName)) ∈ TT := TT_mem 386 (by decide +kernel) rfl
theorem tw_387 : (Jvm.Cond.selects "HammockReach" ({ cls := "HammockReach", name := "ahead", desc := "(III)I" } : Jvm.MethodName) ({ cls := "HammockReach", name := "ahead", desc := "(III)I" } : Jvm.MethodName)) ∈ TT := TT_mem 387 (by decide +kernel) rfl
theorem tw_388 : (Jvm.Cond.code ({ cls := "HammockReach", name := "ahead", desc := "(III)I" } : Jvm.MethodName) prog_1_method_15_code (5 : Nat) (Option.some Jvm.ClassFile.FieldType.int)) ∈ TT := TT_mem 388 (by decide +kernel) rfl
theorem tw_389 : (Jvm.Cond.methodLink "HammockReach" (172 : Nat) ({ cls := "HammockReach", name := "isAhead", desc := "(I)Z" } : Jvm.MethodName)) ∈ TT := TT_mem 389 (by decide +kernel) rfl
theorem tw_390 : (Jvm.Cond.static ({ cls := "HammockReach", name := "isAhead", desc := "(I)Z" } : Jvm.MethodName)) ∈ TT := TT_mem 390 (by decide +kernel) rfl
theorem tw_391 : (Jvm.Cond.code ({ cls := "HammockReach", name := "isAhead", desc := "(I)Z" } : Jvm.MethodName) prog_1_method_36_code (1 : Nat) (Option.some Jvm.ClassFile.FieldType.boolean)) ∈ TT := TT_mem 391 (by decide +kernel) rfl
theorem tw_392 : (Jvm.Cond.methodLink "HammockReachLaw" (74 : Nat) ({ cls := "HammockReach", name := "down", desc := "(I)I" } : Jvm.MethodName)) ∈ TT := TT_mem 392 (by decide +kernel) rfl
theorem tw_393 : (Jvm.Cond.instanceMethod ({ cls := "HammockReach", name := "down", desc := "(I)I" } : Jvm.MethodName)) ∈ TT := TT_mem 393 (by decide +kernel) rfl
theorem tw_394 : (Jvm.Cond.selects "HammockReach" ({ cls := "HammockReach", name := "down", desc := "(I)I" } : Jvm.MethodName) ({ cls := "HammockReach", name := "down", desc := "(I)I" } : Jvm.MethodName)) ∈ TT := TT_mem 394 (by decide +kernel) rfl
theorem tw_395 : (Jvm.Cond.code ({ cls := "HammockReach", name := "down", desc := "(I)I" } : Jvm.MethodName) prog_1_method_16_code (2 : Nat) (Option.some Jvm.ClassFile.FieldType.int)) ∈ TT := TT_mem 395 (by decide +kernel) rfl
theorem tw_396 : (Jvm.Cond.methodLink "HammockReachLaw" (78 : Nat) ({ cls := "HammockReach", name := "reach", desc := "(II)I" } : Jvm.MethodName)) ∈ TT := TT_mem 396 (by decide +kernel) rfl
theorem tw_397 : (Jvm.Cond.instanceMethod ({ cls := "HammockReach", name := "reach", desc := "(II)I" } : Jvm.MethodName)) ∈ TT := TT_mem 397 (by decide +kernel) rfl
theorem tw_398 : (Jvm.Cond.selects "HammockReach" ({ cls := "HammockReach", name := "reach", desc := "(II)I" } : Jvm.MethodName) ({ cls := "HammockReach", name := "reach", desc := "(II)I" } : Jvm.MethodName)) ∈ TT := TT_mem 398 (by decide +kernel) rfl
theorem tw_399 : (Jvm.Cond.code ({ cls := "HammockReach", name := "reach", desc := "(II)I" } : Jvm.MethodName) prog_1_method_17_code (3 : Nat) (Option.some Jvm.ClassFile.FieldType.int)) ∈ TT := TT_mem 399 (by decide +kernel) rfl
theorem tw_400 : (Jvm.Cond.methodLink "HammockReach" (175 : Nat) ({ cls := "HammockReach$Forest", name := "nearBits", desc := "(II)I" } : Jvm.MethodName)) ∈ TT := TT_mem 400 (by decide +kernel) rfl
theorem tw_401 : (Jvm.Cond.instanceMethod ({ cls := "HammockReach$Forest", name := "nearBits", desc := "(II)I" } : Jvm.MethodName)) ∈ TT := TT_mem 401 (by decide +kernel) rfl
theorem tw_402 : (Jvm.Cond.selects "HammockReach$Forest" ({ cls := "HammockReach$Forest", name := "nearBits", desc := "(II)I" } : Jvm.MethodName) ({ cls := "HammockReach$Forest", name := "nearBits", desc := "(II)I" } : Jvm.MethodName)) ∈ TT := TT_mem 402 (by decide +kernel) rfl
theorem tw_403 : (Jvm.Cond.code ({ cls := "HammockReach$Forest", name := "nearBits", desc := "(II)I" } : Jvm.MethodName) prog_3_method_13_code (6 : Nat) (Option.some Jvm.ClassFile.FieldType.int)) ∈ TT := TT_mem 403 (by decide +kernel) rfl
theorem tw_404 : (Jvm.Cond.methodLink "HammockReach$Forest" (80 : Nat) ({ cls := "HammockReach$Forest", name := "spot", desc := "(II)I" } : Jvm.MethodName)) ∈ TT := TT_mem 404 (by decide +kernel) rfl
theorem tw_405 : (Jvm.Cond.instanceMethod ({ cls := "HammockReach$Forest", name := "spot", desc := "(II)I" } : Jvm.MethodName)) ∈ TT := TT_mem 405 (by decide +kernel) rfl
theorem tw_406 : (Jvm.Cond.selects "HammockReach$Forest" ({ cls := "HammockReach$Forest", name := "spot", desc := "(II)I" } : Jvm.MethodName) ({ cls := "HammockReach$Forest", name := "spot", desc := "(II)I" } : Jvm.MethodName)) ∈ TT := TT_mem 406 (by decide +kernel) rfl
theorem tw_407 : (Jvm.Cond.code ({ cls := "HammockReach$Forest", name := "spot", desc := "(II)I" } : Jvm.MethodName) prog_3_method_11_code (3 : Nat) (Option.some Jvm.ClassFile.FieldType.int)) ∈ TT := TT_mem 407 (by decide +kernel) rfl
theorem tw_408 : (Jvm.Cond.methodLink "HammockReach$Forest" (71 : Nat) ({ cls := "HammockReach$Forest", name := "place", desc := "(II)I" } : Jvm.MethodName)) ∈ TT := TT_mem 408 (by decide +kernel) rfl
theorem tw_409 : (Jvm.Cond.methodLink "HammockReach$Forest" (83 : Nat) ({ cls := "HammockReach$Forest", name := "areNear", desc := "(II)Z" } : Jvm.MethodName)) ∈ TT := TT_mem 409 (by decide +kernel) rfl
theorem tw_410 : (Jvm.Cond.instanceMethod ({ cls := "HammockReach$Forest", name := "areNear", desc := "(II)Z" } : Jvm.MethodName)) ∈ TT := TT_mem 410 (by decide +kernel) rfl
theorem tw_411 : (Jvm.Cond.selects "HammockReach$Forest" ({ cls := "HammockReach$Forest", name := "areNear", desc := "(II)Z" } : Jvm.MethodName) ({ cls := "HammockReach$Forest", name := "areNear", desc := "(II)Z" } : Jvm.MethodName)) ∈ TT := TT_mem 411 (by decide +kernel) rfl
theorem tw_412 : (Jvm.Cond.code ({ cls := "HammockReach$Forest", name := "areNear", desc := "(II)Z" } : Jvm.MethodName) prog_3_method_12_code (3 : Nat) (Option.some Jvm.ClassFile.FieldType.boolean)) ∈ TT := TT_mem 412 (by decide +kernel) rfl
theorem tw_413 : (Jvm.Cond.methodLink "HammockReach$Forest" (74 : Nat) ({ cls := "java/lang/Math", name := "abs", desc := "(I)I" } : Jvm.MethodName)) ∈ TT := TT_mem 413 (by decide +kernel) rfl
theorem tw_414 : (Jvm.Cond.static ({ cls := "java/lang/Math", name := "abs", desc := "(I)I" } : Jvm.MethodName)) ∈ TT := TT_mem 414 (by decide +kernel) rfl
theorem tw_415 : (Jvm.Cond.code ({ cls := "java/lang/Math", name := "abs", desc := "(I)I" } : Jvm.MethodName) prog_10_method_59_code (1 : Nat) (Option.some Jvm.ClassFile.FieldType.int)) ∈ TT := TT_mem 415 (by decide +kernel) rfl
theorem tw_416 : (Jvm.Cond.methodLink "HammockReachLaw" (82 : Nat) ({ cls := "HammockReach", name := "meet", desc := "(II)I" } : Jvm.MethodName)) ∈ TT := TT_mem 416 (by decide +kernel) rfl
theorem tw_417 : (Jvm.Cond.instanceMethod ({ cls := "HammockReach", name := "meet", desc := "(II)I" } : Jvm.MethodName)) ∈ TT := TT_mem 417 (by decide +kernel) rfl
theorem tw_418 : (Jvm.Cond.selects "HammockReach" ({ cls := "HammockReach", name := "meet", desc := "(II)I" } : Jvm.MethodName) ({ cls := "HammockReach", name := "meet", desc := "(II)I" } : Jvm.MethodName)) ∈ TT := TT_mem 418 (by decide +kernel) rfl
theorem tw_419 : (Jvm.Cond.code ({ cls := "HammockReach", name := "meet", desc := "(II)I" } : Jvm.MethodName) prog_1_method_18_code (4 : Nat) (Option.some Jvm.ClassFile.FieldType.int)) ∈ TT := TT_mem 419 (by decide +kernel) rfl
theorem tw_420 : (Jvm.Cond.methodLink "HammockReach" (178 : Nat) ({ cls := "HammockReach", name := "areTwo", desc := "(II)Z" } : Jvm.MethodName)) ∈ TT := TT_mem 420 (by decide +kernel) rfl
theorem tw_422 : (Jvm.Cond.instanceMethod ({ cls := "HammockReach", name := "areTwo", desc := "(II)Z" } : Jvm.MethodName)) ∈ TT := TT_mem 422 (by decide +kernel) rfl
theorem tw_423 : (Jvm.Cond.code ({ cls := "HammockReach", name := "areTwo", desc := "(II)Z" } : Jvm.MethodName) prog_1_method_38_code (3 : Nat) (Option.some Jvm.ClassFile.FieldType.boolean)) ∈ TT := TT_mem 423 (by decide +kernel) rfl
theorem tw_424 : (Jvm.Cond.methodLink "HammockReach" (181 : Nat) ({ cls := "HammockReach$Forest", name := "spot", desc := "(II)I" } : Jvm.MethodName)) ∈ TT := TT_mem 424 (by decide +kernel) rfl
theorem tw_425 : (Jvm.Cond.methodLink "HammockReach" (184 : Nat) ({ cls := "HammockReach$Forest", name := "areNear", desc := "(II)Z" } : Jvm.MethodName)) ∈ TT := TT_mem 425 (by decide +kernel) rfl
theorem tw_426 : (Jvm.Cond.constant "HammockReach" (187 : Nat) (-1000000 : Int32)) ∈ TT := TT_mem 426 (by decide +kernel) rfl
theorem tw_427 : (Jvm.Cond.methodLink "HammockReachLaw" (86 : Nat) ({ cls := "HammockReach", name := "soonest", desc := "(II)I" } : Jvm.MethodName)) ∈ TT := TT_mem 427 (by decide +kernel) rfl
theorem tw_428 : (Jvm.Cond.instanceMethod ({ cls := "HammockReach", name := "soonest", desc := "(II)I" } : Jvm.MethodName)) ∈ TT := TT_mem 428 (by decide +kernel) rfl
theorem tw_429 : (Jvm.Cond.selects "HammockReach" ({ cls := "HammockReach", name := "soonest", desc := "(II)I" } : Jvm.MethodName) ({ cls := "HammockReach", name := "soonest", desc := "(II)I" } : Jvm.MethodName)) ∈ TT := TT_mem 429 (by decide +kernel) rfl
theorem tw_430 : (Jvm.Cond.code ({ cls := "HammockReach", name := "soonest", desc := "(II)I" } : Jvm.MethodName) prog_1_method_19_code (3 : Nat) (Option.some Jvm.ClassFile.FieldType.int)) ∈ TT := TT_mem 430 (by decide +kernel) rfl
theorem tw_431 : (Jvm.Cond.methodLink "HammockReach" (188 : Nat) ({ cls := "HammockReach$Outlook", name := "foresee", desc := "(LHammockReach$Forest;I)V" } : Jvm.MethodName)) ∈ TT := TT_mem 431 (by decide +kernel) rfl
theorem tw_432 : (Jvm.Cond.instanceMethod ({ cls := "HammockReach$Outlook", name := "foresee", desc := "(LHammockReach$Forest;I)V" } : Jvm.MethodName)) ∈ TT := TT_mem 432 (by decide +kernel) rfl
theorem tw_433 : (Jvm.Cond.selects "HammockReach$Outlook" ({ cls := "HammockReach$Outlook", name := "foresee", desc := "(LHammockReach$Forest;I)V" } : Jvm.MethodName) ({ cls := "HammockReach$Outlook", name := "foresee", desc := "(LHammockReach$Forest;I)V" } : Jvm.MethodName)) ∈ TT := TT_mem 433 (by decide +kernel) rfl
theorem tw_434 : (Jvm.Cond.code ({ cls := "HammockReach$Outlook", name := "foresee", desc := "(LHammockReach$Forest;I)V" } : Jvm.MethodName) prog_4_method_2_code (6 : Nat) (Option.none : Option Jvm.ClassFile.FieldType)) ∈ TT := TT_mem 434 (by decide +kernel) rfl
theorem tw_435 : (Jvm.Cond.methodLink "HammockReach$Outlook" (31 : Nat) ({ cls := "HammockReach$Forest", name := "spot", desc := "(II)I" } : Jvm.MethodName)) ∈ TT := TT_mem 435 (by decide +kernel) rfl
theorem tw_436 : (Jvm.Cond.methodLink "HammockReach$Outlook" (35 : Nat) ({ cls := "HammockReach$Outlook", name := "link", desc := "(LHammockReach$Forest;II)V" } : Jvm.MethodName)) ∈ TT := TT_mem 436 (by decide +kernel) rfl
theorem tw_438 : (Jvm.Cond.instanceMethod ({ cls := "HammockReach$Outlook", name := "link", desc := "(LHammockReach$Forest;II)V" } : Jvm.MethodName)) ∈ TT := TT_mem 438 (by decide +kernel) rfl
theorem tw_439 : (Jvm.Cond.code ({ cls := "HammockReach$Outlook", name := "link", desc := "(LHammockReach$Forest;II)V" } : Jvm.MethodName) prog_4_method_4_code (6 : Nat) (Option.none : Option Jvm.ClassFile.FieldType)) ∈ TT := TT_mem 439 (by decide +kernel) rfl
theorem tw_440 : (Jvm.Cond.methodLink "HammockReach$Outlook" (39 : Nat) ({ cls := "HammockReach$Forest", name := "areNear", desc := "(II)Z" } : Jvm.MethodName)) ∈ TT := TT_mem 440 (by decide +kernel) rfl
theorem tw_441 : (Jvm.Cond.methodLink "HammockReach" (192 : Nat) ({ cls := "HammockReach$Outlook", name := "arrival", desc := "(IIII)I" } : Jvm.MethodName)) ∈ TT := TT_mem 441 (by decide +kernel) rfl
theorem tw_442 : (Jvm.Cond.instanceMethod ({ cls := "HammockReach$Outlook", name := "arrival", desc := "(IIII)I" } : Jvm.MethodName)) ∈ TT := TT_mem 442 (by decide +kernel) rfl
theorem tw_443 : (Jvm.Cond.selects "HammockReach$Outlook" ({ cls := "HammockReach$Outlook", name := "arrival", desc := "(IIII)I" } : Jvm.MethodName) ({ cls := "HammockReach$Outlook", name := "arrival", desc := "(IIII)I" } : Jvm.MethodName)) ∈ TT := TT_mem 443 (by decide +kernel) rfl
theorem tw_444 : (Jvm.Cond.code ({ cls := "HammockReach$Outlook", name := "arrival", desc := "(IIII)I" } : Jvm.MethodName) prog_4_method_7_code (7 : Nat) (Option.some Jvm.ClassFile.FieldType.int)) ∈ TT := TT_mem 444 (by decide +kernel) rfl
theorem tw_445 : (Jvm.Cond.methodLink "HammockReach$Outlook" (43 : Nat) ({ cls := "HammockReach$Outlook", name := "spread", desc := "(III)I" } : Jvm.MethodName)) ∈ TT := TT_mem 445 (by decide +kernel) rfl
theorem tw_447 : (Jvm.Cond.instanceMethod ({ cls := "HammockReach$Outlook", name := "spread", desc := "(III)I" } : Jvm.MethodName)) ∈ TT := TT_mem 447 (by decide +kernel) rfl
theorem tw_448 : (Jvm.Cond.code ({ cls := "HammockReach$Outlook", name := "spread", desc := "(III)I" } : Jvm.MethodName) prog_4_method_5_code (6 : Nat) (Option.some Jvm.ClassFile.FieldType.int)) ∈ TT := TT_mem 448 (by decide +kernel) rfl
theorem tw_449 : (Jvm.Cond.constant "HammockReach$Outlook" (47 : Nat) (-1000000 : Int32)) ∈ TT := TT_mem 449 (by decide +kernel) rfl
theorem tw_450 : (Jvm.Cond.methodLink "HammockReachLaw" (90 : Nat) ({ cls := "HammockReach", name := "hands", desc := "(II)I" } : Jvm.MethodName)) ∈ TT := TT_mem 450 (by decide +kernel) rfl
theorem tw_451 : (Jvm.Cond.instanceMethod ({ cls := "HammockReach", name := "hands", desc := "(II)I" } : Jvm.MethodName)) ∈ TT := TT_mem 451 (by decide +kernel) rfl
theorem tw_452 : (Jvm.Cond.selects "HammockReach" ({ cls := "HammockReach", name := "hands", desc := "(II)I" } : Jvm.MethodName) ({ cls := "HammockReach", name := "hands", desc := "(II)I" } : Jvm.MethodName)) ∈ TT := TT_mem 452 (by decide +kernel) rfl
theorem tw_453 : (Jvm.Cond.code ({ cls := "HammockReach", name := "hands", desc := "(II)I" } : Jvm.MethodName) prog_1_method_20_code (3 : Nat) (Option.some Jvm.ClassFile.FieldType.int)) ∈ TT := TT_mem 453 (by decide +kernel) rfl
theorem tw_454 : (Jvm.Cond.methodLink "HammockReach" (196 : Nat) ({ cls := "HammockReach$Outlook", name := "fewestHands", desc := "(II)I" } : Jvm.MethodName)) ∈ TT := TT_mem 454 (by decide +kernel) rfl
theorem tw_455 : (Jvm.Cond.instanceMethod ({ cls := "HammockReach$Outlook", name := "fewestHands", desc := "(II)I" } : Jvm.MethodName)) ∈ TT := TT_mem 455 (by decide +kernel) rfl
theorem tw_456 : (Jvm.Cond.selects "HammockReach$Outlook" ({ cls := "HammockReach$Outlook", name := "fewestHands", desc := "(II)I" } : Jvm.MethodName) ({ cls := "HammockReach$Outlook", name := "fewestHands", desc := "(II)I" } : Jvm.MethodName)) ∈ TT := TT_mem 456 (by decide +kernel) rfl
theorem tw_457 : (Jvm.Cond.code ({ cls := "HammockReach$Outlook", name := "fewestHands", desc := "(II)I" } : Jvm.MethodName) prog_4_method_8_code (5 : Nat) (Option.some Jvm.ClassFile.FieldType.int)) ∈ TT := TT_mem 457 (by decide +kernel) rfl
theorem tw_458 : (Jvm.Cond.methodLink "HammockReachLaw" (94 : Nat) ({ cls := "HammockReach", name := "everywhere", desc := "(II)I" } : Jvm.MethodName)) ∈ TT := TT_mem 458 (by decide +kernel) rfl
theorem tw_459 : (Jvm.Cond.instanceMethod ({ cls := "HammockReach", name := "everywhere", desc := "(II)I" } : Jvm.MethodName)) ∈ TT := TT_mem 459 (by decide +kernel) rfl
theorem tw_460 : (Jvm.Cond.selects "HammockReach" ({ cls := "HammockReach", name := "everywhere", desc := "(II)I" } : Jvm.MethodName) ({ cls := "HammockReach", name := "everywhere", desc := "(II)I" } : Jvm.MethodName)) ∈ TT := TT_mem 460 (by decide +kernel) rfl
theorem tw_461 : (Jvm.Cond.code ({ cls := "HammockReach", name := "everywhere", desc := "(II)I" } : Jvm.MethodName) prog_1_method_21_code (3 : Nat) (Option.some Jvm.ClassFile.FieldType.int)) ∈ TT := TT_mem 461 (by decide +kernel) rfl
theorem tw_462 : (Jvm.Cond.methodLink "HammockReach" (199 : Nat) ({ cls := "HammockReach$Outlook", name := "holders", desc := "(II)I" } : Jvm.MethodName)) ∈ TT := TT_mem 462 (by decide +kernel) rfl
theorem tw_463 : (Jvm.Cond.instanceMethod ({ cls := "HammockReach$Outlook", name := "holders", desc := "(II)I" } : Jvm.MethodName)) ∈ TT := TT_mem 463 (by decide +kernel) rfl
theorem tw_464 : (Jvm.Cond.selects "HammockReach$Outlook" ({ cls := "HammockReach$Outlook", name := "holders", desc := "(II)I" } : Jvm.MethodName) ({ cls := "HammockReach$Outlook", name := "holders", desc := "(II)I" } : Jvm.MethodName)) ∈ TT := TT_mem 464 (by decide +kernel) rfl
theorem tw_465 : (Jvm.Cond.code ({ cls := "HammockReach$Outlook", name := "holders", desc := "(II)I" } : Jvm.MethodName) prog_4_method_6_code (5 : Nat) (Option.some Jvm.ClassFile.FieldType.int)) ∈ TT := TT_mem 465 (by decide +kernel) rfl
theorem tw_466 : (Jvm.Cond.methodLink "HammockReachLaw" (98 : Nat) ({ cls := "HammockReach", name := "stops", desc := "(III)I" } : Jvm.MethodName)) ∈ TT := TT_mem 466 (by decide +kernel) rfl
theorem tw_467 : (Jvm.Cond.instanceMethod ({ cls := "HammockReach", name := "stops", desc := "(III)I" } : Jvm.MethodName)) ∈ TT := TT_mem 467 (by decide +kernel) rfl
theorem tw_468 : (Jvm.Cond.selects "HammockReach" ({ cls := "HammockReach", name := "stops", desc := "(III)I" } : Jvm.MethodName) ({ cls := "HammockReach", name := "stops", desc := "(III)I" } : Jvm.MethodName)) ∈ TT := TT_mem 468 (by decide +kernel) rfl
theorem tw_469 : (Jvm.Cond.code ({ cls := "HammockReach", name := "stops", desc := "(III)I" } : Jvm.MethodName) prog_1_method_22_code (6 : Nat) (Option.some Jvm.ClassFile.FieldType.int)) ∈ TT := TT_mem 469 (by decide +kernel) rfl
theorem tw_470 : (Jvm.Cond.methodLink "HammockReachLaw" (102 : Nat) ({ cls := "HammockReach", name := "toSling", desc := "(IIII)I" } : Jvm.MethodName)) ∈ TT := TT_mem 470 (by decide +kernel) rfl
theorem tw_471 : (Jvm.Cond.instanceMethod ({ cls := "HammockReach", name := "toSling", desc := "(IIII)I" } : Jvm.MethodName)) ∈ TT := TT_mem 471 (by decide +kernel) rfl
theorem tw_472 : (Jvm.Cond.selects "HammockReach" ({ cls := "HammockReach", name := "toSling", desc := "(IIII)I" } : Jvm.MethodName) ({ cls := "HammockReach", name := "toSling", desc := "(IIII)I" } : Jvm.MethodName)) ∈ TT := TT_mem 472 (by decide +kernel) rfl
theorem tw_473 : (Jvm.Cond.code ({ cls := "HammockReach", name := "toSling", desc := "(IIII)I" } : Jvm.MethodName) prog_1_method_23_code (10 : Nat) (Option.some Jvm.ClassFile.FieldType.int)) ∈ TT := TT_mem 473 (by decide +kernel) rfl
theorem tw_474 : (Jvm.Cond.methodLink "HammockReach" (202 : Nat) ({ cls := "HammockReach$Outlook", name := "foreseeAnew", desc := "(LHammockReach$Forest;II)V" } : Jvm.MethodName)) ∈ TT := TT_mem 474 (by decide +kernel) rfl
theorem tw_475 : (Jvm.Cond.instanceMethod ({ cls := "HammockReach$Outlook", name := "foreseeAnew", desc := "(LHammockReach$Forest;II)V" } : Jvm.MethodName)) ∈ TT := TT_mem 475 (by decide +kernel) rfl
theorem tw_476 : (Jvm.Cond.selects "HammockReach$Outlook" ({ cls := "HammockReach$Outlook", name := "foreseeAnew", desc := "(LHammockReach$Forest;II)V" } : Jvm.MethodName) ({ cls := "HammockReach$Outlook", name := "foreseeAnew", desc := "(LHammockReach$Forest;II)V" } : Jvm.MethodName)) ∈ TT := TT_mem 476 (by decide +kernel) rfl
theorem tw_477 : (Jvm.Cond.code ({ cls := "HammockReach$Outlook", name := "foreseeAnew", desc := "(LHammockReach$Forest;II)V" } : Jvm.MethodName) prog_4_method_3_code (6 : Nat) (Option.none : Option Jvm.ClassFile.FieldType)) ∈ TT := TT_mem 477 (by decide +kernel) rfl
theorem tw_478 : (Jvm.Cond.methodLink "HammockReachLaw" (107 : Nat) ({ cls := "HammockReach", name := "fits", desc := "(IIIII)I" } : Jvm.MethodName)) ∈ TT := TT_mem 478 (by decide +kernel) rfl
theorem tw_479 : (Jvm.Cond.instanceMethod ({ cls := "HammockReach", name := "fits", desc := "(IIIII)I" } : Jvm.MethodName)) ∈ TT := TT_mem 479 (by decide +kernel) rfl
theorem tw_480 : (Jvm.Cond.selects "HammockReach" ({ cls := "HammockReach", name := "fits", desc := "(IIIII)I" } : Jvm.MethodName) ({ cls := "HammockReach", name := "fits", desc := "(IIIII)I" } : Jvm.MethodName)) ∈ TT := TT_mem 480 (by decide +kernel) rfl
theorem tw_481 : (Jvm.Cond.code ({ cls := "HammockReach", name := "fits", desc := "(IIIII)I" } : Jvm.MethodName) prog_1_method_24_code (7 : Nat) (Option.some Jvm.ClassFile.FieldType.int)) ∈ TT := TT_mem 481 (by decide +kernel) rfl
theorem tw_482 : (Jvm.Cond.methodLink "HammockReach" (206 : Nat) ({ cls := "HammockReach", name := "fittingKinds", desc := "(ILHammockReach$Row;II)I" } : Jvm.MethodName)) ∈ TT := TT_mem 482 (by decide +kernel) rfl
theorem tw_484 : (Jvm.Cond.instanceMethod ({ cls := "HammockReach", name := "fittingKinds", desc := "(ILHammockReach$Row;II)I" } : Jvm.MethodName)) ∈ TT := TT_mem 484 (by decide +kernel) rfl
theorem tw_485 : (Jvm.Cond.code ({ cls := "HammockReach", name := "fittingKinds", desc := "(ILHammockReach$Row;II)I" } : Jvm.MethodName) prog_1_method_41_code (7 : Nat) (Option.some Jvm.ClassFile.FieldType.int)) ∈ TT := TT_mem 485 (by decide +kernel) rfl
theorem tw_486 : (Jvm.Cond.methodLink "HammockReach" (254 : Nat) ({ cls := "HammockReach", name := "wasThere", desc := "(ILHammockReach$Row;II)Z" } : Jvm.MethodName)) ∈ TT := TT_mem 486 (by decide +kernel) rfl
theorem tw_488 : (Jvm.Cond.instanceMethod ({ cls := "HammockReach", name := "wasThere", desc := "(ILHammockReach$Row;II)Z" } : Jvm.MethodName)) ∈ TT := TT_mem 488 (by decide +kernel) rfl
theorem tw_489 : (Jvm.Cond.code ({ cls := "HammockReach", name := "wasThere", desc := "(ILHammockReach$Row;II)Z" } : Jvm.MethodName) prog_1_method_44_code (6 : Nat) (Option.some Jvm.ClassFile.FieldType.boolean)) ∈ TT := TT_mem 489 (by decide +kernel) rfl
theorem tw_490 : (Jvm.Cond.methodLink "HammockReach" (210 : Nat) ({ cls := "HammockReach", name := "fittingSwings", desc := "(ILHammockReach$Row;II)I" } : Jvm.MethodName)) ∈ TT := TT_mem 490 (by decide +kernel) rfl
theorem tw_492 : (Jvm.Cond.instanceMethod ({ cls := "HammockReach", name := "fittingSwings", desc := "(ILHammockReach$Row;II)I" } : Jvm.MethodName)) ∈ TT := TT_mem 492 (by decide +kernel) rfl
theorem tw_493 : (Jvm.Cond.code ({ cls := "HammockReach", name := "fittingSwings", desc := "(ILHammockReach$Row;II)I" } : Jvm.MethodName) prog_1_method_42_code (7 : Nat) (Option.some Jvm.ClassFile.FieldType.int)) ∈ TT := TT_mem 493 (by decide +kernel) rfl
theorem tw_494 : (Jvm.Cond.methodLink "HammockReach" (213 : Nat) ({ cls := "HammockReach", name := "fittingWeights", desc := "(ILHammockReach$Row;II)I" } : Jvm.MethodName)) ∈ TT := TT_mem 494 (by decide +kernel) rfl
theorem tw_496 : (Jvm.Cond.instanceMethod ({ cls := "HammockReach", name := "fittingWeights", desc := "(ILHammockReach$Row;II)I" } : Jvm.MethodName)) ∈ TT := TT_mem 496 (by decide +kernel) rfl
theorem tw_497 : (Jvm.Cond.code ({ cls := "HammockReach", name := "fittingWeights", desc := "(ILHammockReach$Row;II)I" } : Jvm.MethodName) prog_1_method_43_code (7 : Nat) (Option.some Jvm.ClassFile.FieldType.int)) ∈ TT := TT_mem 497 (by decide +kernel) rfl
theorem tw_498 : (Jvm.Cond.methodLink "HammockReach" (258 : Nat) ({ cls := "HammockReach", name := "wasReached", desc := "(ILHammockReach$Row;II)Z" } : Jvm.MethodName)) ∈ TT := TT_mem 498 (by decide +kernel) rfl
theorem tw_500 : (Jvm.Cond.instanceMethod ({ cls := "HammockReach", name := "wasReached", desc := "(ILHammockReach$Row;II)Z" } : Jvm.MethodName)) ∈ TT := TT_mem 500 (by decide +kernel) rfl
theorem tw_501 : (Jvm.Cond.code ({ cls := "HammockReach", name := "wasReached", desc := "(ILHammockReach$Row;II)Z" } : Jvm.MethodName) prog_1_method_45_code (6 : Nat) (Option.some Jvm.ClassFile.FieldType.boolean)) ∈ TT := TT_mem 501 (by decide +kernel) rfl
theorem tw_502 : (Jvm.Cond.methodLink "HammockReachLaw" (111 : Nat) ({ cls := "HammockReach", name := "breaks", desc := "(IIIII)I" } : Jvm.MethodName)) ∈ TT := TT_mem 502 (by decide +kernel) rfl
theorem tw_503 : (Jvm.Cond.instanceMethod ({ cls := "HammockReach", name := "breaks", desc := "(IIIII)I" } : Jvm.MethodName)) ∈ TT := TT_mem 503 (by decide +kernel) rfl
theorem tw_504 : (Jvm.Cond.selects "HammockReach" ({ cls := "HammockReach", name := "breaks", desc := "(IIIII)I" } : Jvm.MethodName) ({ cls := "HammockReach", name := "breaks", desc := "(IIIII)I" } : Jvm.MethodName)) ∈ TT := TT_mem 504 (by decide +kernel) rfl
theorem tw_505 : (Jvm.Cond.code ({ cls := "HammockReach", name := "breaks", desc := "(IIIII)I" } : Jvm.MethodName) prog_1_method_25_code (9 : Nat) (Option.some Jvm.ClassFile.FieldType.int)) ∈ TT := TT_mem 505 (by decide +kernel) rfl
theorem tw_506 : (Jvm.Cond.methodLink "HammockReach" (216 : Nat) ({ cls := "HammockReach", name := "partsOf", desc := "(II)I" } : Jvm.MethodName)) ∈ TT := TT_mem 506 (by decide +kernel) rfl
theorem tw_508 : (Jvm.Cond.instanceMethod ({ cls := "HammockReach", name := "partsOf", desc := "(II)I" } : Jvm.MethodName)) ∈ TT := TT_mem 508 (by decide +kernel) rfl
theorem tw_509 : (Jvm.Cond.code ({ cls := "HammockReach", name := "partsOf", desc := "(II)I" } : Jvm.MethodName) prog_1_method_46_code (5 : Nat) (Option.some Jvm.ClassFile.FieldType.int)) ∈ TT := TT_mem 509 (by decide +kernel) rfl
theorem tw_510 : (Jvm.Cond.methodLink "HammockReach" (219 : Nat) ({ cls := "HammockReach", name := "partsOfAll", desc := "()I" } : Jvm.MethodName)) ∈ TT := TT_mem 510 (by decide +kernel) rfl
theorem tw_512 : (Jvm.Cond.instanceMethod ({ cls := "HammockReach", name := "partsOfAll", desc := "()I" } : Jvm.MethodName)) ∈ TT := TT_mem 512 (by decide +kernel) rfl
theorem tw_513 : (Jvm.Cond.code ({ cls := "HammockReach", name := "partsOfAll", desc := "()I" } : Jvm.MethodName) prog_1_method_47_code (3 : Nat) (Option.some Jvm.ClassFile.FieldType.int)) ∈ TT := TT_mem 513 (by decide +kernel) rfl
theorem tw_514 : (Jvm.Cond.methodLink "HammockReach" (223 : Nat) ({ cls := "HammockReach", name := "commonDivisor", desc := "(II)I" } : Jvm.MethodName)) ∈ TT := TT_mem 514 (by decide +kernel) rfl
theorem tw_515 : (Jvm.Cond.static ({ cls := "HammockReach", name := "commonDivisor", desc := "(II)I" } : Jvm.MethodName)) ∈ TT := TT_mem 515 (by decide +kernel) rfl
theorem tw_516 : (Jvm.Cond.code ({ cls := "HammockReach", name := "commonDivisor", desc := "(II)I" } : Jvm.MethodName) prog_1_method_48_code (6 : Nat) (Option.some Jvm.ClassFile.FieldType.int)) ∈ TT := TT_mem 516 (by decide +kernel) rfl
theorem tw_517 : (Jvm.Cond.methodLink "HammockReachLaw" (115 : Nat) ({ cls := "HammockReach", name := "image", desc := "(I)I" } : Jvm.MethodName)) ∈ TT := TT_mem 517 (by decide +kernel) rfl
theorem tw_518 : (Jvm.Cond.instanceMethod ({ cls := "HammockReach", name := "image", desc := "(I)I" } : Jvm.MethodName)) ∈ TT := TT_mem 518 (by decide +kernel) rfl
theorem tw_519 : (Jvm.Cond.selects "HammockReach" ({ cls := "HammockReach", name := "image", desc := "(I)I" } : Jvm.MethodName) ({ cls := "HammockReach", name := "image", desc := "(I)I" } : Jvm.MethodName)) ∈ TT := TT_mem 519 (by decide +kernel) rfl
theorem tw_520 : (Jvm.Cond.code ({ cls := "HammockReach", name := "image", desc := "(I)I" } : Jvm.MethodName) prog_1_method_26_code (2 : Nat) (Option.some Jvm.ClassFile.FieldType.int)) ∈ TT := TT_mem 520 (by decide +kernel) rfl
theorem tw_521 : (Jvm.Cond.methodLink "HammockReachLaw" (119 : Nat) ({ cls := "HammockReach", name := "restore", desc := "(I)I" } : Jvm.MethodName)) ∈ TT := TT_mem 521 (by decide +kernel) rfl
theorem tw_522 : (Jvm.Cond.instanceMethod ({ cls := "HammockReach", name := "restore", desc := "(I)I" } : Jvm.MethodName)) ∈ TT := TT_mem 522 (by decide +kernel) rfl
theorem tw_523 : (Jvm.Cond.selects "HammockReach" ({ cls := "HammockReach", name := "restore", desc := "(I)I" } : Jvm.MethodName) ({ cls := "HammockReach", name := "restore", desc := "(I)I" } : Jvm.MethodName)) ∈ TT := TT_mem 523 (by decide +kernel) rfl
theorem tw_524 : (Jvm.Cond.code ({ cls := "HammockReach", name := "restore", desc := "(I)I" } : Jvm.MethodName) prog_1_method_27_code (2 : Nat) (Option.some Jvm.ClassFile.FieldType.int)) ∈ TT := TT_mem 524 (by decide +kernel) rfl
theorem tw_525 : (Jvm.Cond.methodLink "HammockReachLaw" (123 : Nat) ({ cls := "HammockReach", name := "kind", desc := "(I)I" } : Jvm.MethodName)) ∈ TT := TT_mem 525 (by decide +kernel) rfl
theorem tw_526 : (Jvm.Cond.instanceMethod ({ cls := "HammockReach", name := "kind", desc := "(I)I" } : Jvm.MethodName)) ∈ TT := TT_mem 526 (by decide +kernel) rfl
theorem tw_527 : (Jvm.Cond.selects "HammockReach" ({ cls := "HammockReach", name := "kind", desc := "(I)I" } : Jvm.MethodName) ({ cls := "HammockReach", name := "kind", desc := "(I)I" } : Jvm.MethodName)) ∈ TT := TT_mem 527 (by decide +kernel) rfl
theorem tw_528 : (Jvm.Cond.code ({ cls := "HammockReach", name := "kind", desc := "(I)I" } : Jvm.MethodName) prog_1_method_28_code (2 : Nat) (Option.some Jvm.ClassFile.FieldType.int)) ∈ TT := TT_mem 528 (by decide +kernel) rfl
theorem tw_529 : (Jvm.Cond.methodLink "HammockReachLaw" (127 : Nat) ({ cls := "HammockReach", name := "as", desc := "(II)I" } : Jvm.MethodName)) ∈ TT := TT_mem 529 (by decide +kernel) rfl
theorem tw_530 : (Jvm.Cond.instanceMethod ({ cls := "HammockReach", name := "as", desc := "(II)I" } : Jvm.MethodName)) ∈ TT := TT_mem 530 (by decide +kernel) rfl
theorem tw_531 : (Jvm.Cond.selects "HammockReach" ({ cls := "HammockReach", name := "as", desc := "(II)I" } : Jvm.MethodName) ({ cls := "HammockReach", name := "as", desc := "(II)I" } : Jvm.MethodName)) ∈ TT := TT_mem 531 (by decide +kernel) rfl
theorem tw_532 : (Jvm.Cond.code ({ cls := "HammockReach", name := "as", desc := "(II)I" } : Jvm.MethodName) prog_1_method_29_code (3 : Nat) (Option.some Jvm.ClassFile.FieldType.int)) ∈ TT := TT_mem 532 (by decide +kernel) rfl
theorem tw_533 : (Jvm.Cond.methodLink "HammockReach" (229 : Nat) ({ cls := "HammockReach", name := "isOfKind", desc := "(II)Z" } : Jvm.MethodName)) ∈ TT := TT_mem 533 (by decide +kernel) rfl
theorem tw_534 : (Jvm.Cond.static ({ cls := "HammockReach", name := "isOfKind", desc := "(II)Z" } : Jvm.MethodName)) ∈ TT := TT_mem 534 (by decide +kernel) rfl
theorem tw_535 : (Jvm.Cond.code ({ cls := "HammockReach", name := "isOfKind", desc := "(II)Z" } : Jvm.MethodName) prog_1_method_49_code (4 : Nat) (Option.some Jvm.ClassFile.FieldType.boolean)) ∈ TT := TT_mem 535 (by decide +kernel) rfl
theorem tw_536 : (Jvm.Cond.fieldLink "HammockReach" (261 : Nat) "HammockReach" "ABOVE" "[I") ∈ TT := TT_mem 536 (by decide +kernel) rfl
theorem tw_538 : (Jvm.Cond.methodLink "HammockReachLaw" (131 : Nat) ({ cls := "HammockReach", name := "ask", desc := "(II)I" } : Jvm.MethodName)) ∈ TT := TT_mem 538 (by decide +kernel) rfl
theorem tw_539 : (Jvm.Cond.instanceMethod ({ cls := "HammockReach", name := "ask", desc := "(II)I" } : Jvm.MethodName)) ∈ TT := TT_mem 539 (by decide +kernel) rfl
theorem tw_540 : (Jvm.Cond.selects "HammockReach" ({ cls := "HammockReach", name := "ask", desc := "(II)I" } : Jvm.MethodName) ({ cls := "HammockReach", name := "ask", desc := "(II)I" } : Jvm.MethodName)) ∈ TT := TT_mem 540 (by decide +kernel) rfl
theorem tw_541 : (Jvm.Cond.code ({ cls := "HammockReach", name := "ask", desc := "(II)I" } : Jvm.MethodName) prog_1_method_30_code (3 : Nat) (Option.some Jvm.ClassFile.FieldType.int)) ∈ TT := TT_mem 541 (by decide +kernel) rfl
theorem tw_542 : (Jvm.Cond.methodLink "HammockReach" (235 : Nat) ({ cls := "HammockReach", name := "answer", desc := "(III)I" } : Jvm.MethodName)) ∈ TT := TT_mem 542 (by decide +kernel) rfl
theorem tw_544 : (Jvm.Cond.instanceMethod ({ cls := "HammockReach", name := "answer", desc := "(III)I" } : Jvm.MethodName)) ∈ TT := TT_mem 544 (by decide +kernel) rfl
theorem tw_545 : (Jvm.Cond.code ({ cls := "HammockReach", name := "answer", desc := "(III)I" } : Jvm.MethodName) prog_1_method_51_code (4 : Nat) (Option.some Jvm.ClassFile.FieldType.int)) ∈ TT := TT_mem 545 (by decide +kernel) rfl
theorem tw_546 : (Jvm.Cond.methodLink "HammockReach" (270 : Nat) ({ cls := "HammockReach", name := "nearestBody", desc := "(II)I" } : Jvm.MethodName)) ∈ TT := TT_mem 546 (by decide +kernel) rfl
theorem tw_547 : (Jvm.Cond.static ({ cls := "HammockReach", name := "nearestBody", desc := "(II)I" } : Jvm.MethodName)) ∈ TT := TT_mem 547 (by decide +kernel) rfl
theorem tw_548 : (Jvm.Cond.code ({ cls := "HammockReach", name := "nearestBody", desc := "(II)I" } : Jvm.MethodName) prog_1_method_50_code (5 : Nat) (Option.some Jvm.ClassFile.FieldType.int)) ∈ TT := TT_mem 548 (by decide +kernel) rfl
theorem tw_549 : (Jvm.Cond.fieldLink "HammockReach" (264 : Nat) "HammockReach" "SIZE_BODIES" "[I") ∈ TT := TT_mem 549 (by decide +kernel) rfl
theorem tw_551 : (Jvm.Cond.fieldLink "HammockReach" (267 : Nat) "HammockReach" "MARK_BODIES" "[I") ∈ TT := TT_mem 551 (by decide +kernel) rfl
theorem tw_553 : (Jvm.Cond.methodLink "HammockReach" (273 : Nat) ({ cls := "HammockReach", name := "body", desc := "(III)I" } : Jvm.MethodName)) ∈ TT := TT_mem 553 (by decide +kernel) rfl
theorem tw_555 : (Jvm.Cond.instanceMethod ({ cls := "HammockReach", name := "body", desc := "(III)I" } : Jvm.MethodName)) ∈ TT := TT_mem 555 (by decide +kernel) rfl
theorem tw_556 : (Jvm.Cond.code ({ cls := "HammockReach", name := "body", desc := "(III)I" } : Jvm.MethodName) prog_1_method_52_code (5 : Nat) (Option.some Jvm.ClassFile.FieldType.int)) ∈ TT := TT_mem 556 (by decide +kernel) rfl
theorem tw_557 : (Jvm.Cond.methodLink "HammockReachLaw" (135 : Nat) ({ cls := "HammockReach", name := "trace", desc := "(I)I" } : Jvm.MethodName)) ∈ TT := TT_mem 557 (by decide +kernel) rfl
theorem tw_558 : (Jvm.Cond.instanceMethod ({ cls := "HammockReach", name := "trace", desc := "(I)I" } : Jvm.MethodName)) ∈ TT := TT_mem 558 (by decide +kernel) rfl
theorem tw_559 : (Jvm.Cond.selects "HammockReach" ({ cls := "HammockReach", name := "trace", desc := "(I)I" } : Jvm.MethodName) ({ cls := "HammockReach", name := "trace", desc := "(I)I" } : Jvm.MethodName)) ∈ TT := TT_mem 559 (by decide +kernel) rfl
theorem tw_560 : (Jvm.Cond.code ({ cls := "HammockReach", name := "trace", desc := "(I)I" } : Jvm.MethodName) prog_1_method_31_code (2 : Nat) (Option.some Jvm.ClassFile.FieldType.int)) ∈ TT := TT_mem 560 (by decide +kernel) rfl
theorem tw_561 : (Jvm.Cond.methodLink "HammockReachLaw" (139 : Nat) ({ cls := "HammockReach", name := "count", desc := "(I)I" } : Jvm.MethodName)) ∈ TT := TT_mem 561 (by decide +kernel) rfl
theorem tw_562 : (Jvm.Cond.instanceMethod ({ cls := "HammockReach", name := "count", desc := "(I)I" } : Jvm.MethodName)) ∈ TT := TT_mem 562 (by decide +kernel) rfl
theorem tw_563 : (Jvm.Cond.selects "HammockReach" ({ cls := "HammockReach", name := "count", desc := "(I)I" } : Jvm.MethodName) ({ cls := "HammockReach", name := "count", desc := "(I)I" } : Jvm.MethodName)) ∈ TT := TT_mem 563 (by decide +kernel) rfl
theorem tw_564 : (Jvm.Cond.code ({ cls := "HammockReach", name := "count", desc := "(I)I" } : Jvm.MethodName) prog_1_method_32_code (2 : Nat) (Option.some Jvm.ClassFile.FieldType.int)) ∈ TT := TT_mem 564 (by decide +kernel) rfl
theorem tw_565 : (Jvm.Cond.methodLink "HammockReach" (239 : Nat) ({ cls := "HammockReach", name := "countRows", desc := "()I" } : Jvm.MethodName)) ∈ TT := TT_mem 565 (by decide +kernel) rfl
theorem tw_567 : (Jvm.Cond.instanceMethod ({ cls := "HammockReach", name := "countRows", desc := "()I" } : Jvm.MethodName)) ∈ TT := TT_mem 567 (by decide +kernel) rfl
theorem tw_568 : (Jvm.Cond.code ({ cls := "HammockReach", name := "countRows", desc := "()I" } : Jvm.MethodName) prog_1_method_40_code (3 : Nat) (Option.some Jvm.ClassFile.FieldType.int)) ∈ TT := TT_mem 568 (by decide +kernel) rfl
theorem tw_569 : (Jvm.Cond.methodLink "HammockReach" (248 : Nat) ({ cls := "java/lang/Integer", name := "bitCount", desc := "(I)I" } : Jvm.MethodName)) ∈ TT := TT_mem 569 (by decide +kernel) rfl
theorem tw_570 : (Jvm.Cond.static ({ cls := "java/lang/Integer", name := "bitCount", desc := "(I)I" } : Jvm.MethodName)) ∈ TT := TT_mem 570 (by decide +kernel) rfl
theorem tw_571 : (Jvm.Cond.code ({ cls := "java/lang/Integer", name := "bitCount", desc := "(I)I" } : Jvm.MethodName) prog_9_method_49_code (1 : Nat) (Option.some Jvm.ClassFile.FieldType.int)) ∈ TT := TT_mem 571 (by decide +kernel) rfl
theorem tw_572 : (Jvm.Cond.constant "java/lang/Integer" (265 : Nat) (1431655765 : Int32)) ∈ TT := TT_mem 572 (by decide +kernel) rfl
theorem tw_573 : (Jvm.Cond.constant "java/lang/Integer" (266 : Nat) (858993459 : Int32)) ∈ TT := TT_mem 573 (by decide +kernel) rfl
theorem tw_574 : (Jvm.Cond.constant "java/lang/Integer" (267 : Nat) (252645135 : Int32)) ∈ TT := TT_mem 574 (by decide +kernel) rfl
theorem tw_575 : (Jvm.Cond.methodLink "HammockReachLaw" (143 : Nat) ({ cls := "HammockReach", name := "status", desc := "()I" } : Jvm.MethodName)) ∈ TT := TT_mem 575 (by decide +kernel) rfl
theorem tw_576 : (Jvm.Cond.instanceMethod ({ cls := "HammockReach", name := "status", desc := "()I" } : Jvm.MethodName)) ∈ TT := TT_mem 576 (by decide +kernel) rfl
theorem tw_577 : (Jvm.Cond.selects "HammockReach" ({ cls := "HammockReach", name := "status", desc := "()I" } : Jvm.MethodName) ({ cls := "HammockReach", name := "status", desc := "()I" } : Jvm.MethodName)) ∈ TT := TT_mem 577 (by decide +kernel) rfl
theorem tw_578 : (Jvm.Cond.code ({ cls := "HammockReach", name := "status", desc := "()I" } : Jvm.MethodName) prog_1_method_33_code (1 : Nat) (Option.some Jvm.ClassFile.FieldType.int)) ∈ TT := TT_mem 578 (by decide +kernel) rfl
theorem tw_579 : (Jvm.Cond.classLink "HammockReachLaw" (10 : Nat) "HammockReachModel") ∈ TT := TT_mem 579 (by decide +kernel) rfl
theorem tw_580 : (Jvm.Cond.instantiable "HammockReachModel" (23 : Nat)) ∈ TT := TT_mem 580 (by decide +kernel) rfl
theorem tw_581 : (Jvm.Cond.methodLink "HammockReachLaw" (12 : Nat) ({ cls := "HammockReachModel", name := "<init>", desc := "()V" } : Jvm.MethodName)) ∈ TT := TT_mem 581 (by decide +kernel) rfl
theorem tw_582 : (Jvm.Cond.instanceMethod ({ cls := "HammockReachModel", name := "<init>", desc := "()V" } : Jvm.MethodName)) ∈ TT := TT_mem 582 (by decide +kernel) rfl
theorem tw_583 : (Jvm.Cond.code ({ cls := "HammockReachModel", name := "<init>", desc := "()V" } : Jvm.MethodName) prog_8_method_1_code (2 : Nat) (Option.none : Option Jvm.ClassFile.FieldType)) ∈ TT := TT_mem 583 (by decide +kernel) rfl
theorem tw_584 : (Jvm.Cond.methodLink "HammockReachModel" (1 : Nat) ({ cls := "java/lang/Object", name := "<init>", desc := "()V" } : Jvm.MethodName)) ∈ TT := TT_mem 584 (by decide +kernel) rfl
theorem tw_585 : (Jvm.Cond.fieldLink "HammockReachModel" (7 : Nat) "HammockReachModel" "lanes" "[I") ∈ TT := TT_mem 585 (by decide +kernel) rfl
theorem tw_586 : (Jvm.Cond.fieldLink "HammockReachModel" (13 : Nat) "HammockReachModel" "sizes" "[I") ∈ TT := TT_mem 586 (by decide +kernel) rfl
theorem tw_587 : (Jvm.Cond.fieldLink "HammockReachModel" (16 : Nat) "HammockReachModel" "items" "[I") ∈ TT := TT_mem 587 (by decide +kernel) rfl
theorem tw_588 : (Jvm.Cond.fieldLink "HammockReachModel" (50 : Nat) "HammockReachModel" "status" "I") ∈ TT := TT_mem 588 (by decide +kernel) rfl
theorem tw_589 : (Jvm.Cond.fieldLink "HammockReachModel" (19 : Nat) "HammockReachModel" "now" "[I") ∈ TT := TT_mem 589 (by decide +kernel) rfl
theorem tw_590 : (Jvm.Cond.fieldLink "HammockReachModel" (22 : Nat) "HammockReachModel" "read" "[I") ∈ TT := TT_mem 590 (by decide +kernel) rfl
theorem tw_591 : (Jvm.Cond.fieldLink "HammockReachModel" (25 : Nat) "HammockReachModel" "aside" "[I") ∈ TT := TT_mem 591 (by decide +kernel) rfl
theorem tw_592 : (Jvm.Cond.fieldLink "HammockReachModel" (28 : Nat) "HammockReachModel" "past" "[I") ∈ TT := TT_mem 592 (by decide +kernel) rfl
theorem tw_593 : (Jvm.Cond.fieldLink "HammockReachModel" (136 : Nat) "HammockReachModel" "acts" "I") ∈ TT := TT_mem 593 (by decide +kernel) rfl
theorem tw_594 : (Jvm.Cond.fieldLink "HammockReachModel" (31 : Nat) "HammockReachModel" "images" "[I") ∈ TT := TT_mem 594 (by decide +kernel) rfl
theorem tw_595 : (Jvm.Cond.fieldLink "HammockReachModel" (34 : Nat) "HammockReachModel" "kept" "[Z") ∈ TT := TT_mem 595 (by decide +kernel) rfl
theorem tw_596 : (Jvm.Cond.fieldLink "HammockReachModel" (38 : Nat) "HammockReachModel" "tape" "[I") ∈ TT := TT_mem 596 (by decide +kernel) rfl
theorem tw_597 : (Jvm.Cond.fieldLink "HammockReachModel" (77 : Nat) "HammockReachModel" "size" "I") ∈ TT := TT_mem 597 (by decide +kernel) rfl
theorem tw_598 : (Jvm.Cond.fieldLink "HammockReachModel" (128 : Nat) "HammockReachModel" "fault" "I") ∈ TT := TT_mem 598 (by decide +kernel) rfl
theorem tw_599 : (Jvm.Cond.fieldLink "HammockReachModel" (41 : Nat) "HammockReachModel" "trace" "[I") ∈ TT := TT_mem 599 (by decide +kernel) rfl
theorem tw_600 : (Jvm.Cond.fieldLink "HammockReachModel" (218 : Nat) "HammockReachModel" "traced" "I") ∈ TT := TT_mem 600 (by decide +kernel) rfl
theorem tw_601 : (Jvm.Cond.fieldLink "HammockReachModel" (81 : Nat) "HammockReachModel" "at" "I") ∈ TT := TT_mem 601 (by decide +kernel) rfl
theorem tw_602 : (Jvm.Cond.fieldLink "HammockReachModel" (84 : Nat) "HammockReachModel" "begin" "I") ∈ TT := TT_mem 602 (by decide +kernel) rfl
theorem tw_603 : (Jvm.Cond.fieldLink "HammockReachModel" (102 : Nat) "HammockReachModel" "token" "I") ∈ TT := TT_mem 603 (by decide +kernel) rfl
theorem tw_604 : (Jvm.Cond.fieldLink "HammockReachModel" (91 : Nat) "HammockReachModel" "value" "I") ∈ TT := TT_mem 604 (by decide +kernel) rfl
theorem tw_605 : (Jvm.Cond.fieldLink "HammockReachModel" (105 : Nat) "HammockReachModel" "wrong" "I") ∈ TT := TT_mem 605 (by decide +kernel) rfl
theorem tw_606 : (Jvm.Cond.fieldLink "HammockReachModel" (44 : Nat) "HammockReachModel" "given" "[I") ∈ TT := TT_mem 606 (by decide +kernel) rfl
theorem tw_607 : (Jvm.Cond.fieldLink "HammockReachModel" (47 : Nat) "HammockReachModel" "then" "[I") ∈ TT := TT_mem 607 (by decide +kernel) rfl
theorem tw_655 : (Jvm.Cond.arrayClass Jvm.ClassFile.FieldType.boolean) ∈ TT := TT_mem 655 (by decide +kernel) rfl
theorem tw_656 : (Jvm.Cond.methodLink "HammockReachLaw" (17 : Nat) ({ cls := "HammockReachModel", name := "row", desc := "(III)I" } : Jvm.MethodName)) ∈ TT := TT_mem 656 (by decide +kernel) rfl
theorem tw_657 : (Jvm.Cond.instanceMethod ({ cls := "HammockReachModel", name := "row", desc := "(III)I" } : Jvm.MethodName)) ∈ TT := TT_mem 657 (by decide +kernel) rfl
theorem tw_658 : (Jvm.Cond.selects "HammockReachModel" ({ cls := "HammockReachModel", name := "row", desc := "(III)I" } : Jvm.MethodName) ({ cls := "HammockReachModel", name := "row", desc := "(III)I" } : Jvm.MethodName)) ∈ TT := TT_mem 658 (by decide +kernel) rfl
theorem tw_659 : (Jvm.Cond.code ({ cls := "HammockReachModel", name := "row", desc := "(III)I" } : Jvm.MethodName) prog_8_method_7_code (5 : Nat) (Option.some Jvm.ClassFile.FieldType.int)) ∈ TT := TT_mem 659 (by decide +kernel) rfl
theorem tw_660 : (Jvm.Cond.methodLink "HammockReachModel" (61 : Nat) ({ cls := "HammockReachModel", name := "isRow", desc := "(I)Z" } : Jvm.MethodName)) ∈ TT := TT_mem 660 (by decide +kernel) rfl
theorem tw_661 : (Jvm.Cond.static ({ cls := "HammockReachModel", name := "isRow", desc := "(I)Z" } : Jvm.MethodName)) ∈ TT := TT_mem 661 (by decide +kernel) rfl
theorem tw_662 : (Jvm.Cond.code ({ cls := "HammockReachModel", name := "isRow", desc := "(I)Z" } : Jvm.MethodName) prog_8_method_6_code (1 : Nat) (Option.some Jvm.ClassFile.FieldType.boolean)) ∈ TT := TT_mem 662 (by decide +kernel) rfl
theorem tw_663 : (Jvm.Cond.constantLong "HammockReachModel" (55 : Nat) (7 : Int64)) ∈ TT := TT_mem 663 (by decide +kernel) rfl
theorem tw_664 : (Jvm.Cond.methodLink "HammockReachModel" (57 : Nat) ({ cls := "HammockReachModel", name := "in", desc := "(JJJ)Z" } : Jvm.MethodName)) ∈ TT := TT_mem 664 (by decide +kernel) rfl
theorem tw_665 : (Jvm.Cond.static ({ cls := "HammockReachModel", name := "in", desc := "(JJJ)Z" } : Jvm.MethodName)) ∈ TT := TT_mem 665 (by decide +kernel) rfl
theorem tw_666 : (Jvm.Cond.code ({ cls := "HammockReachModel", name := "in", desc := "(JJJ)Z" } : Jvm.MethodName) prog_8_method_3_code (6 : Nat) (Option.some Jvm.ClassFile.FieldType.boolean)) ∈ TT := TT_mem 666 (by decide +kernel) rfl
theorem tw_667 : (Jvm.Cond.constantLong "HammockReachModel" (65 : Nat) (2 : Int64)) ∈ TT := TT_mem 667 (by decide +kernel) rfl
theorem tw_668 : (Jvm.Cond.constant "HammockReachModel" (67 : Nat) (-1000001 : Int32)) ∈ TT := TT_mem 668 (by decide +kernel) rfl
theorem tw_669 : (Jvm.Cond.methodLink "HammockReachModel" (68 : Nat) ({ cls := "HammockReachModel", name := "found", desc := "(I)I" } : Jvm.MethodName)) ∈ TT := TT_mem 669 (by decide +kernel) rfl
theorem tw_671 : (Jvm.Cond.instanceMethod ({ cls := "HammockReachModel", name := "found", desc := "(I)I" } : Jvm.MethodName)) ∈ TT := TT_mem 671 (by decide +kernel) rfl
theorem tw_672 : (Jvm.Cond.code ({ cls := "HammockReachModel", name := "found", desc := "(I)I" } : Jvm.MethodName) prog_8_method_4_code (2 : Nat) (Option.some Jvm.ClassFile.FieldType.int)) ∈ TT := TT_mem 672 (by decide +kernel) rfl
theorem tw_673 : (Jvm.Cond.constant "HammockReachModel" (54 : Nat) (-1000010 : Int32)) ∈ TT := TT_mem 673 (by decide +kernel) rfl
theorem tw_674 : (Jvm.Cond.methodLink "HammockReachModel" (72 : Nat) ({ cls := "HammockReachModel", name := "well", desc := "(I)I" } : Jvm.MethodName)) ∈ TT := TT_mem 674 (by decide +kernel) rfl
theorem tw_676 : (Jvm.Cond.instanceMethod ({ cls := "HammockReachModel", name := "well", desc := "(I)I" } : Jvm.MethodName)) ∈ TT := TT_mem 676 (by decide +kernel) rfl
theorem tw_677 : (Jvm.Cond.code ({ cls := "HammockReachModel", name := "well", desc := "(I)I" } : Jvm.MethodName) prog_8_method_5_code (2 : Nat) (Option.some Jvm.ClassFile.FieldType.int)) ∈ TT := TT_mem 677 (by decide +kernel) rfl
theorem tw_678 : (Jvm.Cond.methodLink "HammockReachLaw" (21 : Nat) ({ cls := "HammockReachModel", name := "set", desc := "(III)I" } : Jvm.MethodName)) ∈ TT := TT_mem 678 (by decide +kernel) rfl
theorem tw_679 : (Jvm.Cond.instanceMethod ({ cls := "HammockReachModel", name := "set", desc := "(III)I" } : Jvm.MethodName)) ∈ TT := TT_mem 679 (by decide +kernel) rfl
theorem tw_680 : (Jvm.Cond.selects "HammockReachModel" ({ cls := "HammockReachModel", name := "set", desc := "(III)I" } : Jvm.MethodName) ({ cls := "HammockReachModel", name := "set", desc := "(III)I" } : Jvm.MethodName)) ∈ TT := TT_mem 680 (by decide +kernel) rfl
theorem tw_681 : (Jvm.Cond.code ({ cls := "HammockReachModel", name := "set", desc := "(III)I" } : Jvm.MethodName) prog_8_method_8_code (4 : Nat) (Option.some Jvm.ClassFile.FieldType.int)) ∈ TT := TT_mem 681 (by decide +kernel) rfl
theorem tw_682 : (Jvm.Cond.methodLink "HammockReachLaw" (26 : Nat) ({ cls := "HammockReachModel", name := "copy", desc := "(IIIII)I" } : Jvm.MethodName)) ∈ TT := TT_mem 682 (by decide +kernel) rfl
theorem tw_683 : (Jvm.Cond.instanceMethod ({ cls := "HammockReachModel", name := "copy", desc := "(IIIII)I" } : Jvm.MethodName)) ∈ TT := TT_mem 683 (by decide +kernel) rfl
theorem tw_684 : (Jvm.Cond.selects "HammockReachModel" ({ cls := "HammockReachModel", name := "copy", desc := "(IIIII)I" } : Jvm.MethodName) ({ cls := "HammockReachModel", name := "copy", desc := "(IIIII)I" } : Jvm.MethodName)) ∈ TT := TT_mem 684 (by decide +kernel) rfl
theorem tw_685 : (Jvm.Cond.code ({ cls := "HammockReachModel", name := "copy", desc := "(IIIII)I" } : Jvm.MethodName) prog_8_method_9_code (8 : Nat) (Option.some Jvm.ClassFile.FieldType.int)) ∈ TT := TT_mem 685 (by decide +kernel) rfl
theorem tw_686 : (Jvm.Cond.methodLink "HammockReachLaw" (31 : Nat) ({ cls := "HammockReachModel", name := "drop", desc := "(I)I" } : Jvm.MethodName)) ∈ TT := TT_mem 686 (by decide +kernel) rfl
theorem tw_687 : (Jvm.Cond.instanceMethod ({ cls := "HammockReachModel", name := "drop", desc := "(I)I" } : Jvm.MethodName)) ∈ TT := TT_mem 687 (by decide +kernel) rfl
theorem tw_688 : (Jvm.Cond.selects "HammockReachModel" ({ cls := "HammockReachModel", name := "drop", desc := "(I)I" } : Jvm.MethodName) ({ cls := "HammockReachModel", name := "drop", desc := "(I)I" } : Jvm.MethodName)) ∈ TT := TT_mem 688 (by decide +kernel) rfl
theorem tw_689 : (Jvm.Cond.code ({ cls := "HammockReachModel", name := "drop", desc := "(I)I" } : Jvm.MethodName) prog_8_method_10_code (3 : Nat) (Option.some Jvm.ClassFile.FieldType.int)) ∈ TT := TT_mem 689 (by decide +kernel) rfl
theorem tw_690 : (Jvm.Cond.methodLink "HammockReachLaw" (35 : Nat) ({ cls := "HammockReachModel", name := "feed", desc := "(I)I" } : Jvm.MethodName)) ∈ TT := TT_mem 690 (by decide +kernel) rfl
theorem tw_691 : (Jvm.Cond.instanceMethod ({ cls := "HammockReachModel", name := "feed", desc := "(I)I" } : Jvm.MethodName)) ∈ TT := TT_mem 691 (by decide +kernel) rfl
theorem tw_692 : (Jvm.Cond.selects "HammockReachModel" ({ cls := "HammockReachModel", name := "feed", desc := "(I)I" } : Jvm.MethodName) ({ cls := "HammockReachModel", name := "feed", desc := "(I)I" } : Jvm.MethodName)) ∈ TT := TT_mem 692 (by decide +kernel) rfl
theorem tw_693 : (Jvm.Cond.code ({ cls := "HammockReachModel", name := "feed", desc := "(I)I" } : Jvm.MethodName) prog_8_method_11_code (2 : Nat) (Option.some Jvm.ClassFile.FieldType.int)) ∈ TT := TT_mem 693 (by decide +kernel) rfl
theorem tw_694 : (Jvm.Cond.constantLong "HammockReachModel" (75 : Nat) (255 : Int64)) ∈ TT := TT_mem 694 (by decide +kernel) rfl
theorem tw_695 : (Jvm.Cond.constant "HammockReachModel" (80 : Nat) (-1000003 : Int32)) ∈ TT := TT_mem 695 (by decide +kernel) rfl
theorem tw_696 : (Jvm.Cond.methodLink "HammockReachLaw" (40 : Nat) ({ cls := "HammockReachModel", name := "forest", desc := "()I" } : Jvm.MethodName)) ∈ TT := TT_mem 696 (by decide +kernel) rfl
theorem tw_697 : (Jvm.Cond.instanceMethod ({ cls := "HammockReachModel", name := "forest", desc := "()I" } : Jvm.MethodName)) ∈ TT := TT_mem 697 (by decide +kernel) rfl
theorem tw_698 : (Jvm.Cond.selects "HammockReachModel" ({ cls := "HammockReachModel", name := "forest", desc := "()I" } : Jvm.MethodName) ({ cls := "HammockReachModel", name := "forest", desc := "()I" } : Jvm.MethodName)) ∈ TT := TT_mem 698 (by decide +kernel) rfl
theorem tw_699 : (Jvm.Cond.code ({ cls := "HammockReachModel", name := "forest", desc := "()I" } : Jvm.MethodName) prog_8_method_19_code (2 : Nat) (Option.some Jvm.ClassFile.FieldType.int)) ∈ TT := TT_mem 699 (by decide +kernel) rfl
theorem tw_700 : (Jvm.Cond.methodLink "HammockReachModel" (125 : Nat) ({ cls := "HammockReachModel", name := "reads", desc := "()Z" } : Jvm.MethodName)) ∈ TT := TT_mem 700 (by decide +kernel) rfl
theorem tw_702 : (Jvm.Cond.instanceMethod ({ cls := "HammockReachModel", name := "reads", desc := "()Z" } : Jvm.MethodName)) ∈ TT := TT_mem 702 (by decide +kernel) rfl
theorem tw_703 : (Jvm.Cond.code ({ cls := "HammockReachModel", name := "reads", desc := "()Z" } : Jvm.MethodName) prog_8_method_18_code (2 : Nat) (Option.some Jvm.ClassFile.FieldType.boolean)) ∈ TT := TT_mem 703 (by decide +kernel) rfl
theorem tw_704 : (Jvm.Cond.methodLink "HammockReachModel" (108 : Nat) ({ cls := "HammockReachModel", name := "step", desc := "()V" } : Jvm.MethodName)) ∈ TT := TT_mem 704 (by decide +kernel) rfl
theorem tw_706 : (Jvm.Cond.instanceMethod ({ cls := "HammockReachModel", name := "step", desc := "()V" } : Jvm.MethodName)) ∈ TT := TT_mem 706 (by decide +kernel) rfl
theorem tw_707 : (Jvm.Cond.code ({ cls := "HammockReachModel", name := "step", desc := "()V" } : Jvm.MethodName) prog_8_method_13_code (1 : Nat) (Option.none : Option Jvm.ClassFile.FieldType)) ∈ TT := TT_mem 707 (by decide +kernel) rfl
theorem tw_708 : (Jvm.Cond.methodLink "HammockReachModel" (87 : Nat) ({ cls := "HammockReachModel", name := "here", desc := "()I" } : Jvm.MethodName)) ∈ TT := TT_mem 708 (by decide +kernel) rfl
theorem tw_710 : (Jvm.Cond.instanceMethod ({ cls := "HammockReachModel", name := "here", desc := "()I" } : Jvm.MethodName)) ∈ TT := TT_mem 710 (by decide +kernel) rfl
theorem tw_711 : (Jvm.Cond.code ({ cls := "HammockReachModel", name := "here", desc := "()I" } : Jvm.MethodName) prog_8_method_12_code (1 : Nat) (Option.some Jvm.ClassFile.FieldType.int)) ∈ TT := TT_mem 711 (by decide +kernel) rfl
theorem tw_712 : (Jvm.Cond.constantLong "HammockReachModel" (94 : Nat) (97 : Int64)) ∈ TT := TT_mem 712 (by decide +kernel) rfl
theorem tw_713 : (Jvm.Cond.constantLong "HammockReachModel" (96 : Nat) (122 : Int64)) ∈ TT := TT_mem 713 (by decide +kernel) rfl
theorem tw_714 : (Jvm.Cond.constantLong "HammockReachModel" (98 : Nat) (48 : Int64)) ∈ TT := TT_mem 714 (by decide +kernel) rfl
theorem tw_715 : (Jvm.Cond.constantLong "HammockReachModel" (100 : Nat) (57 : Int64)) ∈ TT := TT_mem 715 (by decide +kernel) rfl
theorem tw_716 : (Jvm.Cond.methodLink "HammockReachModel" (111 : Nat) ({ cls := "HammockReachModel", name := "fails", desc := "(I)Z" } : Jvm.MethodName)) ∈ TT := TT_mem 716 (by decide +kernel) rfl
theorem tw_718 : (Jvm.Cond.instanceMethod ({ cls := "HammockReachModel", name := "fails", desc := "(I)Z" } : Jvm.MethodName)) ∈ TT := TT_mem 718 (by decide +kernel) rfl
theorem tw_719 : (Jvm.Cond.code ({ cls := "HammockReachModel", name := "fails", desc := "(I)Z" } : Jvm.MethodName) prog_8_method_14_code (2 : Nat) (Option.some Jvm.ClassFile.FieldType.boolean)) ∈ TT := TT_mem 719 (by decide +kernel) rfl
theorem tw_720 : (Jvm.Cond.methodLink "HammockReachModel" (117 : Nat) ({ cls := "HammockReachModel", name := "number", desc := "(IIII)Z" } : Jvm.MethodName)) ∈ TT := TT_mem 720 (by decide +kernel) rfl
theorem tw_722 : (Jvm.Cond.instanceMethod ({ cls := "HammockReachModel", name := "number", desc := "(IIII)Z" } : Jvm.MethodName)) ∈ TT := TT_mem 722 (by decide +kernel) rfl
theorem tw_723 : (Jvm.Cond.code ({ cls := "HammockReachModel", name := "number", desc := "(IIII)Z" } : Jvm.MethodName) prog_8_method_15_code (5 : Nat) (Option.some Jvm.ClassFile.FieldType.boolean)) ∈ TT := TT_mem 723 (by decide +kernel) rfl
theorem tw_724 : (Jvm.Cond.methodLink "HammockReachModel" (121 : Nat) ({ cls := "HammockReachModel", name := "readsHammock", desc := "()Z" } : Jvm.MethodName)) ∈ TT := TT_mem 724 (by decide +kernel) rfl
theorem tw_726 : (Jvm.Cond.instanceMethod ({ cls := "HammockReachModel", name := "readsHammock", desc := "()Z" } : Jvm.MethodName)) ∈ TT := TT_mem 726 (by decide +kernel) rfl
theorem tw_727 : (Jvm.Cond.code ({ cls := "HammockReachModel", name := "readsHammock", desc := "()Z" } : Jvm.MethodName) prog_8_method_17_code (3 : Nat) (Option.some Jvm.ClassFile.FieldType.boolean)) ∈ TT := TT_mem 727 (by decide +kernel) rfl
theorem tw_728 : (Jvm.Cond.methodLink "HammockReachModel" (114 : Nat) ({ cls := "HammockReachModel", name := "sortOf", desc := "(I)I" } : Jvm.MethodName)) ∈ TT := TT_mem 728 (by decide +kernel) rfl
theorem tw_729 : (Jvm.Cond.static ({ cls := "HammockReachModel", name := "sortOf", desc := "(I)I" } : Jvm.MethodName)) ∈ TT := TT_mem 729 (by decide +kernel) rfl
theorem tw_730 : (Jvm.Cond.code ({ cls := "HammockReachModel", name := "sortOf", desc := "(I)I" } : Jvm.MethodName) prog_8_method_16_code (1 : Nat) (Option.some Jvm.ClassFile.FieldType.int)) ∈ TT := TT_mem 730 (by decide +kernel) rfl
theorem tw_731 : (Jvm.Cond.constant "HammockReachModel" (131 : Nat) (-1000100 : Int32)) ∈ TT := TT_mem 731 (by decide +kernel) rfl
theorem tw_732 : (Jvm.Cond.methodLink "HammockReachModel" (132 : Nat) ({ cls := "HammockReachModel", name := "copies", desc := "([II[II)V" } : Jvm.MethodName)) ∈ TT := TT_mem 732 (by decide +kernel) rfl
theorem tw_733 : (Jvm.Cond.static ({ cls := "HammockReachModel", name := "copies", desc := "([II[II)V" } : Jvm.MethodName)) ∈ TT := TT_mem 733 (by decide +kernel) rfl
theorem tw_734 : (Jvm.Cond.code ({ cls := "HammockReachModel", name := "copies", desc := "([II[II)V" } : Jvm.MethodName) prog_8_method_21_code (5 : Nat) (Option.none : Option Jvm.ClassFile.FieldType)) ∈ TT := TT_mem 734 (by decide +kernel) rfl
theorem tw_735 : (Jvm.Cond.methodLink "HammockReachLaw" (44 : Nat) ({ cls := "HammockReachModel", name := "fault", desc := "()I" } : Jvm.MethodName)) ∈ TT := TT_mem 735 (by decide +kernel) rfl
theorem tw_736 : (Jvm.Cond.instanceMethod ({ cls := "HammockReachModel", name := "fault", desc := "()I" } : Jvm.MethodName)) ∈ TT := TT_mem 736 (by decide +kernel) rfl
theorem tw_737 : (Jvm.Cond.selects "HammockReachModel" ({ cls := "HammockReachModel", name := "fault", desc := "()I" } : Jvm.MethodName) ({ cls := "HammockReachModel", name := "fault", desc := "()I" } : Jvm.MethodName)) ∈ TT := TT_mem 737 (by decide +kernel) rfl
theorem tw_738 : (Jvm.Cond.code ({ cls := "HammockReachModel", name := "fault", desc := "()I" } : Jvm.MethodName) prog_8_method_20_code (1 : Nat) (Option.some Jvm.ClassFile.FieldType.int)) ∈ TT := TT_mem 738 (by decide +kernel) rfl
theorem tw_739 : (Jvm.Cond.methodLink "HammockReachLaw" (48 : Nat) ({ cls := "HammockReachModel", name := "minutes", desc := "(I)I" } : Jvm.MethodName)) ∈ TT := TT_mem 739 (by decide +kernel) rfl
theorem tw_740 : (Jvm.Cond.instanceMethod ({ cls := "HammockReachModel", name := "minutes", desc := "(I)I" } : Jvm.MethodName)) ∈ TT := TT_mem 740 (by decide +kernel) rfl
theorem tw_741 : (Jvm.Cond.selects "HammockReachModel" ({ cls := "HammockReachModel", name := "minutes", desc := "(I)I" } : Jvm.MethodName) ({ cls := "HammockReachModel", name := "minutes", desc := "(I)I" } : Jvm.MethodName)) ∈ TT := TT_mem 741 (by decide +kernel) rfl
theorem tw_742 : (Jvm.Cond.code ({ cls := "HammockReachModel", name := "minutes", desc := "(I)I" } : Jvm.MethodName) prog_8_method_37_code (3 : Nat) (Option.some Jvm.ClassFile.FieldType.int)) ∈ TT := TT_mem 742 (by decide +kernel) rfl
theorem tw_743 : (Jvm.Cond.methodLink "HammockReachModel" (168 : Nat) ({ cls := "HammockReachModel", name := "isForest", desc := "()Z" } : Jvm.MethodName)) ∈ TT := TT_mem 743 (by decide +kernel) rfl
theorem tw_745 : (Jvm.Cond.instanceMethod ({ cls := "HammockReachModel", name := "isForest", desc := "()Z" } : Jvm.MethodName)) ∈ TT := TT_mem 745 (by decide +kernel) rfl
theorem tw_746 : (Jvm.Cond.code ({ cls := "HammockReachModel", name := "isForest", desc := "()Z" } : Jvm.MethodName) prog_8_method_32_code (1 : Nat) (Option.some Jvm.ClassFile.FieldType.boolean)) ∈ TT := TT_mem 746 (by decide +kernel) rfl
theorem tw_747 : (Jvm.Cond.constant "HammockReachModel" (171 : Nat) (-1000002 : Int32)) ∈ TT := TT_mem 747 (by decide +kernel) rfl
theorem tw_748 : (Jvm.Cond.constantLong "HammockReachModel" (172 : Nat) (24 : Int64)) ∈ TT := TT_mem 748 (by decide +kernel) rfl
theorem tw_749 : (Jvm.Cond.methodLink "HammockReachModel" (174 : Nat) ({ cls := "HammockReachModel", name := "remember", desc := "()V" } : Jvm.MethodName)) ∈ TT := TT_mem 749 (by decide +kernel) rfl
theorem tw_751 : (Jvm.Cond.instanceMethod ({ cls := "HammockReachModel", name := "remember", desc := "()V" } : Jvm.MethodName)) ∈ TT := TT_mem 751 (by decide +kernel) rfl
theorem tw_752 : (Jvm.Cond.code ({ cls := "HammockReachModel", name := "remember", desc := "()V" } : Jvm.MethodName) prog_8_method_36_code (2 : Nat) (Option.none : Option Jvm.ClassFile.FieldType)) ∈ TT := TT_mem 752 (by decide +kernel) rfl
theorem tw_753 : (Jvm.Cond.methodLink "HammockReachModel" (177 : Nat) ({ cls := "HammockReachModel", name := "downOf", desc := "([II)I" } : Jvm.MethodName)) ∈ TT := TT_mem 753 (by decide +kernel) rfl
theorem tw_754 : (Jvm.Cond.static ({ cls := "HammockReachModel", name := "downOf", desc := "([II)I" } : Jvm.MethodName)) ∈ TT := TT_mem 754 (by decide +kernel) rfl
theorem tw_755 : (Jvm.Cond.code ({ cls := "HammockReachModel", name := "downOf", desc := "([II)I" } : Jvm.MethodName) prog_8_method_27_code (4 : Nat) (Option.some Jvm.ClassFile.FieldType.int)) ∈ TT := TT_mem 755 (by decide +kernel) rfl
theorem tw_756 : (Jvm.Cond.methodLink "HammockReachModel" (151 : Nat) ({ cls := "HammockReachModel", name := "isDown", desc := "([III)Z" } : Jvm.MethodName)) ∈ TT := TT_mem 756 (by decide +kernel) rfl
theorem tw_757 : (Jvm.Cond.static ({ cls := "HammockReachModel", name := "isDown", desc := "([III)Z" } : Jvm.MethodName)) ∈ TT := TT_mem 757 (by decide +kernel) rfl
theorem tw_758 : (Jvm.Cond.code ({ cls := "HammockReachModel", name := "isDown", desc := "([III)Z" } : Jvm.MethodName) prog_8_method_26_code (3 : Nat) (Option.some Jvm.ClassFile.FieldType.boolean)) ∈ TT := TT_mem 758 (by decide +kernel) rfl
theorem tw_759 : (Jvm.Cond.methodLink "HammockReachModel" (143 : Nat) ({ cls := "HammockReachModel", name := "has", desc := "(II)Z" } : Jvm.MethodName)) ∈ TT := TT_mem 759 (by decide +kernel) rfl
theorem tw_760 : (Jvm.Cond.static ({ cls := "HammockReachModel", name := "has", desc := "(II)Z" } : Jvm.MethodName)) ∈ TT := TT_mem 760 (by decide +kernel) rfl
theorem tw_761 : (Jvm.Cond.code ({ cls := "HammockReachModel", name := "has", desc := "(II)Z" } : Jvm.MethodName) prog_8_method_22_code (2 : Nat) (Option.some Jvm.ClassFile.FieldType.boolean)) ∈ TT := TT_mem 761 (by decide +kernel) rfl
theorem tw_762 : (Jvm.Cond.methodLink "HammockReachModel" (147 : Nat) ({ cls := "HammockReachModel", name := "dip", desc := "([III)I" } : Jvm.MethodName)) ∈ TT := TT_mem 762 (by decide +kernel) rfl
theorem tw_763 : (Jvm.Cond.static ({ cls := "HammockReachModel", name := "dip", desc := "([III)I" } : Jvm.MethodName)) ∈ TT := TT_mem 763 (by decide +kernel) rfl
theorem tw_764 : (Jvm.Cond.code ({ cls := "HammockReachModel", name := "dip", desc := "([III)I" } : Jvm.MethodName) prog_8_method_23_code (5 : Nat) (Option.some Jvm.ClassFile.FieldType.int)) ∈ TT := TT_mem 764 (by decide +kernel) rfl
theorem tw_765 : (Jvm.Cond.methodLink "HammockReachLaw" (52 : Nat) ({ cls := "HammockReachModel", name := "sling", desc := "(III)I" } : Jvm.MethodName)) ∈ TT := TT_mem 765 (by decide +kernel) rfl
theorem tw_766 : (Jvm.Cond.instanceMethod ({ cls := "HammockReachModel", name := "sling", desc := "(III)I" } : Jvm.MethodName)) ∈ TT := TT_mem 766 (by decide +kernel) rfl
theorem tw_767 : (Jvm.Cond.selects "HammockReachModel" ({ cls := "HammockReachModel", name := "sling", desc := "(III)I" } : Jvm.MethodName) ({ cls := "HammockReachModel", name := "sling", desc := "(III)I" } : Jvm.MethodName)) ∈ TT := TT_mem 767 (by decide +kernel) rfl
theorem tw_768 : (Jvm.Cond.code ({ cls := "HammockReachModel", name := "sling", desc := "(III)I" } : Jvm.MethodName) prog_8_method_38_code (4 : Nat) (Option.some Jvm.ClassFile.FieldType.int)) ∈ TT := TT_mem 768 (by decide +kernel) rfl
theorem tw_769 : (Jvm.Cond.methodLink "HammockReachModel" (181 : Nat) ({ cls := "HammockReachModel", name := "isHammock", desc := "(I)Z" } : Jvm.MethodName)) ∈ TT := TT_mem 769 (by decide +kernel) rfl
theorem tw_771 : (Jvm.Cond.instanceMethod ({ cls := "HammockReachModel", name := "isHammock", desc := "(I)Z" } : Jvm.MethodName)) ∈ TT := TT_mem 771 (by decide +kernel) rfl
theorem tw_772 : (Jvm.Cond.code ({ cls := "HammockReachModel", name := "isHammock", desc := "(I)Z" } : Jvm.MethodName) prog_8_method_33_code (2 : Nat) (Option.some Jvm.ClassFile.FieldType.boolean)) ∈ TT := TT_mem 772 (by decide +kernel) rfl
theorem tw_773 : (Jvm.Cond.constantLong "HammockReachModel" (184 : Nat) (11 : Int64)) ∈ TT := TT_mem 773 (by decide +kernel) rfl
theorem tw_774 : (Jvm.Cond.methodLink "HammockReachModel" (155 : Nat) ({ cls := "HammockReachModel", name := "where", desc := "([III)I" } : Jvm.MethodName)) ∈ TT := TT_mem 774 (by decide +kernel) rfl
theorem tw_775 : (Jvm.Cond.static ({ cls := "HammockReachModel", name := "where", desc := "([III)I" } : Jvm.MethodName)) ∈ TT := TT_mem 775 (by decide +kernel) rfl
theorem tw_776 : (Jvm.Cond.code ({ cls := "HammockReachModel", name := "where", desc := "([III)I" } : Jvm.MethodName) prog_8_method_25_code (6 : Nat) (Option.some Jvm.ClassFile.FieldType.int)) ∈ TT := TT_mem 776 (by decide +kernel) rfl
theorem tw_777 : (Jvm.Cond.methodLink "HammockReachModel" (139 : Nat) ({ cls := "HammockReachModel", name := "swung", desc := "(II)I" } : Jvm.MethodName)) ∈ TT := TT_mem 777 (by decide +kernel) rfl
theorem tw_778 : (Jvm.Cond.static ({ cls := "HammockReachModel", name := "swung", desc := "(II)I" } : Jvm.MethodName)) ∈ TT := TT_mem 778 (by decide +kernel) rfl
theorem tw_779 : (Jvm.Cond.code ({ cls := "HammockReachModel", name := "swung", desc := "(II)I" } : Jvm.MethodName) prog_8_method_24_code (3 : Nat) (Option.some Jvm.ClassFile.FieldType.int)) ∈ TT := TT_mem 779 (by decide +kernel) rfl
theorem tw_780 : (Jvm.Cond.methodLink "HammockReachLaw" (57 : Nat) ({ cls := "HammockReachModel", name := "load", desc := "(II)I" } : Jvm.MethodName)) ∈ TT := TT_mem 780 (by decide +kernel) rfl
theorem tw_781 : (Jvm.Cond.instanceMethod ({ cls := "HammockReachModel", name := "load", desc := "(II)I" } : Jvm.MethodName)) ∈ TT := TT_mem 781 (by decide +kernel) rfl
theorem tw_782 : (Jvm.Cond.selects "HammockReachModel" ({ cls := "HammockReachModel", name := "load", desc := "(II)I" } : Jvm.MethodName) ({ cls := "HammockReachModel", name := "load", desc := "(II)I" } : Jvm.MethodName)) ∈ TT := TT_mem 782 (by decide +kernel) rfl
theorem tw_783 : (Jvm.Cond.code ({ cls := "HammockReachModel", name := "load", desc := "(II)I" } : Jvm.MethodName) prog_8_method_39_code (3 : Nat) (Option.some Jvm.ClassFile.FieldType.int)) ∈ TT := TT_mem 783 (by decide +kernel) rfl
theorem tw_784 : (Jvm.Cond.constantLong "HammockReachModel" (186 : Nat) (20 : Int64)) ∈ TT := TT_mem 784 (by decide +kernel) rfl
theorem tw_785 : (Jvm.Cond.methodLink "HammockReachLaw" (61 : Nat) ({ cls := "HammockReachModel", name := "cord", desc := "(II)I" } : Jvm.MethodName)) ∈ TT := TT_mem 785 (by decide +kernel) rfl
theorem tw_786 : (Jvm.Cond.instanceMethod ({ cls := "HammockReachModel", name := "cord", desc := "(II)I" } : Jvm.MethodName)) ∈ TT := TT_mem 786 (by decide +kernel) rfl
theorem tw_787 : (Jvm.Cond.selects "HammockReachModel" ({ cls := "HammockReachModel", name := "cord", desc := "(II)I" } : Jvm.MethodName) ({ cls := "HammockReachModel", name := "cord", desc := "(II)I" } : Jvm.MethodName)) ∈ TT := TT_mem 787 (by decide +kernel) rfl
theorem tw_788 : (Jvm.Cond.code ({ cls := "HammockReachModel", name := "cord", desc := "(II)I" } : Jvm.MethodName) prog_8_method_40_code (3 : Nat) (Option.some Jvm.ClassFile.FieldType.int)) ∈ TT := TT_mem 788 (by decide +kernel) rfl
theorem tw_789 : (Jvm.Cond.methodLink "HammockReachModel" (188 : Nat) ({ cls := "HammockReachModel", name := "isTwo", desc := "(I)Z" } : Jvm.MethodName)) ∈ TT := TT_mem 789 (by decide +kernel) rfl
theorem tw_790 : (Jvm.Cond.static ({ cls := "HammockReachModel", name := "isTwo", desc := "(I)Z" } : Jvm.MethodName)) ∈ TT := TT_mem 790 (by decide +kernel) rfl
theorem tw_791 : (Jvm.Cond.code ({ cls := "HammockReachModel", name := "isTwo", desc := "(I)Z" } : Jvm.MethodName) prog_8_method_34_code (1 : Nat) (Option.some Jvm.ClassFile.FieldType.boolean)) ∈ TT := TT_mem 791 (by decide +kernel) rfl
theorem tw_792 : (Jvm.Cond.methodLink "HammockReachLaw" (65 : Nat) ({ cls := "HammockReachModel", name := "undo", desc := "()I" } : Jvm.MethodName)) ∈ TT := TT_mem 792 (by decide +kernel) rfl
theorem tw_793 : (Jvm.Cond.instanceMethod ({ cls := "HammockReachModel", name := "undo", desc := "()I" } : Jvm.MethodName)) ∈ TT := TT_mem 793 (by decide +kernel) rfl
theorem tw_794 : (Jvm.Cond.selects "HammockReachModel" ({ cls := "HammockReachModel", name := "undo", desc := "()I" } : Jvm.MethodName) ({ cls := "HammockReachModel", name := "undo", desc := "()I" } : Jvm.MethodName)) ∈ TT := TT_mem 794 (by decide +kernel) rfl
theorem tw_795 : (Jvm.Cond.code ({ cls := "HammockReachModel", name := "undo", desc := "()I" } : Jvm.MethodName) prog_8_method_41_code (1 : Nat) (Option.some Jvm.ClassFile.FieldType.int)) ∈ TT := TT_mem 795 (by decide +kernel) rfl
theorem tw_796 : (Jvm.Cond.methodLink "HammockReachLaw" (69 : Nat) ({ cls := "HammockReachModel", name := "hammock", desc := "(II)I" } : Jvm.MethodName)) ∈ TT := TT_mem 796 (by decide +kernel) rfl
theorem tw_797 : (Jvm.Cond.instanceMethod ({ cls := "HammockReachModel", name := "hammock", desc := "(II)I" } : Jvm.MethodName)) ∈ TT := TT_mem 797 (by decide +kernel) rfl
theorem tw_798 : (Jvm.Cond.selects "HammockReachModel" ({ cls := "HammockReachModel", name := "hammock", desc := "(II)I" } : Jvm.MethodName) ({ cls := "HammockReachModel", name := "hammock", desc := "(II)I" } : Jvm.MethodName)) ∈ TT := TT_mem 798 (by decide +kernel) rfl
theorem tw_799 : (Jvm.Cond.code ({ cls := "HammockReachModel", name := "hammock", desc := "(II)I" } : Jvm.MethodName) prog_8_method_42_code (3 : Nat) (Option.some Jvm.ClassFile.FieldType.int)) ∈ TT := TT_mem 799 (by decide +kernel) rfl
theorem tw_800 : (Jvm.Cond.methodLink "HammockReachLaw" (73 : Nat) ({ cls := "HammockReachModel", name := "ahead", desc := "(III)I" } : Jvm.MethodName)) ∈ TT := TT_mem 800 (by decide +kernel) rfl
theorem tw_801 : (Jvm.Cond.instanceMethod ({ cls := "HammockReachModel", name := "ahead", desc := "(III)I" } : Jvm.MethodName)) ∈ TT := TT_mem 801 (by decide +kernel) rfl
theorem tw_802 : (Jvm.Cond.selects "HammockReachModel" ({ cls := "HammockReachModel", name := "ahead", desc := "(III)I" } : Jvm.MethodName) ({ cls := "HammockReachModel", name := "ahead", desc := "(III)I" } : Jvm.MethodName)) ∈ TT := TT_mem 802 (by decide +kernel) rfl
theorem tw_803 : (Jvm.Cond.code ({ cls := "HammockReachModel", name := "ahead", desc := "(III)I" } : Jvm.MethodName) prog_8_method_43_code (4 : Nat) (Option.some Jvm.ClassFile.FieldType.int)) ∈ TT := TT_mem 803 (by decide +kernel) rfl
theorem tw_804 : (Jvm.Cond.methodLink "HammockReachModel" (191 : Nat) ({ cls := "HammockReachModel", name := "isSpan", desc := "(I)Z" } : Jvm.MethodName)) ∈ TT := TT_mem 804 (by decide +kernel) rfl
theorem tw_805 : (Jvm.Cond.static ({ cls := "HammockReachModel", name := "isSpan", desc := "(I)Z" } : Jvm.MethodName)) ∈ TT := TT_mem 805 (by decide +kernel) rfl
theorem tw_806 : (Jvm.Cond.code ({ cls := "HammockReachModel", name := "isSpan", desc := "(I)Z" } : Jvm.MethodName) prog_8_method_35_code (1 : Nat) (Option.some Jvm.ClassFile.FieldType.boolean)) ∈ TT := TT_mem 806 (by decide +kernel) rfl
theorem tw_807 : (Jvm.Cond.constantLong "HammockReachModel" (166 : Nat) (60 : Int64)) ∈ TT := TT_mem 807 (by decide +kernel) rfl
theorem tw_808 : (Jvm.Cond.methodLink "HammockReachLaw" (77 : Nat) ({ cls := "HammockReachModel", name := "down", desc := "(I)I" } : Jvm.MethodName)) ∈ TT := TT_mem 808 (by decide +kernel) rfl
theorem tw_809 : (Jvm.Cond.instanceMethod ({ cls := "HammockReachModel", name := "down", desc := "(I)I" } : Jvm.MethodName)) ∈ TT := TT_mem 809 (by decide +kernel) rfl
theorem tw_810 : (Jvm.Cond.selects "HammockReachModel" ({ cls := "HammockReachModel", name := "down", desc := "(I)I" } : Jvm.MethodName) ({ cls := "HammockReachModel", name := "down", desc := "(I)I" } : Jvm.MethodName)) ∈ TT := TT_mem 810 (by decide +kernel) rfl
theorem tw_811 : (Jvm.Cond.code ({ cls := "HammockReachModel", name := "down", desc := "(I)I" } : Jvm.MethodName) prog_8_method_44_code (2 : Nat) (Option.some Jvm.ClassFile.FieldType.int)) ∈ TT := TT_mem 811 (by decide +kernel) rfl
theorem tw_812 : (Jvm.Cond.methodLink "HammockReachLaw" (81 : Nat) ({ cls := "HammockReachModel", name := "reach", desc := "(II)I" } : Jvm.MethodName)) ∈ TT := TT_mem 812 (by decide +kernel) rfl
theorem tw_813 : (Jvm.Cond.instanceMethod ({ cls := "HammockReachModel", name := "reach", desc := "(II)I" } : Jvm.MethodName)) ∈ TT := TT_mem 813 (by decide +kernel) rfl
theorem tw_814 : (Jvm.Cond.selects "HammockReachModel" ({ cls := "HammockReachModel", name := "reach", desc := "(II)I" } : Jvm.MethodName) ({ cls := "HammockReachModel", name := "reach", desc := "(II)I" } : Jvm.MethodName)) ∈ TT := TT_mem 814 (by decide +kernel) rfl
theorem tw_815 : (Jvm.Cond.code ({ cls := "HammockReachModel", name := "reach", desc := "(II)I" } : Jvm.MethodName) prog_8_method_45_code (3 : Nat) (Option.some Jvm.ClassFile.FieldType.int)) ∈ TT := TT_mem 815 (by decide +kernel) rfl
theorem tw_816 : (Jvm.Cond.methodLink "HammockReachModel" (162 : Nat) ({ cls := "HammockReachModel", name := "reachOf", desc := "([III)I" } : Jvm.MethodName)) ∈ TT := TT_mem 816 (by decide +kernel) rfl
theorem tw_817 : (Jvm.Cond.static ({ cls := "HammockReachModel", name := "reachOf", desc := "([III)I" } : Jvm.MethodName)) ∈ TT := TT_mem 817 (by decide +kernel) rfl
theorem tw_818 : (Jvm.Cond.code ({ cls := "HammockReachModel", name := "reachOf", desc := "([III)I" } : Jvm.MethodName) prog_8_method_29_code (5 : Nat) (Option.some Jvm.ClassFile.FieldType.int)) ∈ TT := TT_mem 818 (by decide +kernel) rfl
theorem tw_819 : (Jvm.Cond.methodLink "HammockReachModel" (158 : Nat) ({ cls := "HammockReachModel", name := "areNear", desc := "([IIII)Z" } : Jvm.MethodName)) ∈ TT := TT_mem 819 (by decide +kernel) rfl
theorem tw_820 : (Jvm.Cond.static ({ cls := "HammockReachModel", name := "areNear", desc := "([IIII)Z" } : Jvm.MethodName)) ∈ TT := TT_mem 820 (by decide +kernel) rfl
theorem tw_821 : (Jvm.Cond.code ({ cls := "HammockReachModel", name := "areNear", desc := "([IIII)Z" } : Jvm.MethodName) prog_8_method_28_code (5 : Nat) (Option.some Jvm.ClassFile.FieldType.boolean)) ∈ TT := TT_mem 821 (by decide +kernel) rfl
theorem tw_822 : (Jvm.Cond.methodLink "HammockReachLaw" (85 : Nat) ({ cls := "HammockReachModel", name := "meet", desc := "(II)I" } : Jvm.MethodName)) ∈ TT := TT_mem 822 (by decide +kernel) rfl
theorem tw_823 : (Jvm.Cond.instanceMethod ({ cls := "HammockReachModel", name := "meet", desc := "(II)I" } : Jvm.MethodName)) ∈ TT := TT_mem 823 (by decide +kernel) rfl
theorem tw_824 : (Jvm.Cond.selects "HammockReachModel" ({ cls := "HammockReachModel", name := "meet", desc := "(II)I" } : Jvm.MethodName) ({ cls := "HammockReachModel", name := "meet", desc := "(II)I" } : Jvm.MethodName)) ∈ TT := TT_mem 824 (by decide +kernel) rfl
theorem tw_825 : (Jvm.Cond.code ({ cls := "HammockReachModel", name := "meet", desc := "(II)I" } : Jvm.MethodName) prog_8_method_46_code (4 : Nat) (Option.some Jvm.ClassFile.FieldType.int)) ∈ TT := TT_mem 825 (by decide +kernel) rfl
theorem tw_826 : (Jvm.Cond.constant "HammockReachModel" (194 : Nat) (-1000000 : Int32)) ∈ TT := TT_mem 826 (by decide +kernel) rfl
theorem tw_827 : (Jvm.Cond.methodLink "HammockReachLaw" (89 : Nat) ({ cls := "HammockReachModel", name := "soonest", desc := "(II)I" } : Jvm.MethodName)) ∈ TT := TT_mem 827 (by decide +kernel) rfl
theorem tw_828 : (Jvm.Cond.instanceMethod ({ cls := "HammockReachModel", name := "soonest", desc := "(II)I" } : Jvm.MethodName)) ∈ TT := TT_mem 828 (by decide +kernel) rfl
theorem tw_829 : (Jvm.Cond.selects "HammockReachModel" ({ cls := "HammockReachModel", name := "soonest", desc := "(II)I" } : Jvm.MethodName) ({ cls := "HammockReachModel", name := "soonest", desc := "(II)I" } : Jvm.MethodName)) ∈ TT := TT_mem 829 (by decide +kernel) rfl
theorem tw_830 : (Jvm.Cond.code ({ cls := "HammockReachModel", name := "soonest", desc := "(II)I" } : Jvm.MethodName) prog_8_method_48_code (3 : Nat) (Option.some Jvm.ClassFile.FieldType.int)) ∈ TT := TT_mem 830 (by decide +kernel) rfl
theorem tw_831 : (Jvm.Cond.methodLink "HammockReachModel" (195 : Nat) ({ cls := "HammockReachModel", name := "soonestOf", desc := "([III)I" } : Jvm.MethodName)) ∈ TT := TT_mem 831 (by decide +kernel) rfl
theorem tw_832 : (Jvm.Cond.static ({ cls := "HammockReachModel", name := "soonestOf", desc := "([III)I" } : Jvm.MethodName)) ∈ TT := TT_mem 832 (by decide +kernel) rfl
theorem tw_833 : (Jvm.Cond.code ({ cls := "HammockReachModel", name := "soonestOf", desc := "([III)I" } : Jvm.MethodName) prog_8_method_31_code (7 : Nat) (Option.some Jvm.ClassFile.FieldType.int)) ∈ TT := TT_mem 833 (by decide +kernel) rfl
theorem tw_834 : (Jvm.Cond.constant "HammockReachModel" (165 : Nat) (1000000 : Int32)) ∈ TT := TT_mem 834 (by decide +kernel) rfl
theorem tw_835 : (Jvm.Cond.methodLink "HammockReachModel" (198 : Nat) ({ cls := "HammockReachModel", name := "told", desc := "(I)I" } : Jvm.MethodName)) ∈ TT := TT_mem 835 (by decide +kernel) rfl
theorem tw_836 : (Jvm.Cond.static ({ cls := "HammockReachModel", name := "told", desc := "(I)I" } : Jvm.MethodName)) ∈ TT := TT_mem 836 (by decide +kernel) rfl
theorem tw_837 : (Jvm.Cond.code ({ cls := "HammockReachModel", name := "told", desc := "(I)I" } : Jvm.MethodName) prog_8_method_47_code (1 : Nat) (Option.some Jvm.ClassFile.FieldType.int)) ∈ TT := TT_mem 837 (by decide +kernel) rfl
theorem tw_838 : (Jvm.Cond.methodLink "HammockReachLaw" (93 : Nat) ({ cls := "HammockReachModel", name := "hands", desc := "(II)I" } : Jvm.MethodName)) ∈ TT := TT_mem 838 (by decide +kernel) rfl
theorem tw_839 : (Jvm.Cond.instanceMethod ({ cls := "HammockReachModel", name := "hands", desc := "(II)I" } : Jvm.MethodName)) ∈ TT := TT_mem 839 (by decide +kernel) rfl
theorem tw_840 : (Jvm.Cond.selects "HammockReachModel" ({ cls := "HammockReachModel", name := "hands", desc := "(II)I" } : Jvm.MethodName) ({ cls := "HammockReachModel", name := "hands", desc := "(II)I" } : Jvm.MethodName)) ∈ TT := TT_mem 840 (by decide +kernel) rfl
theorem tw_841 : (Jvm.Cond.code ({ cls := "HammockReachModel", name := "hands", desc := "(II)I" } : Jvm.MethodName) prog_8_method_49_code (7 : Nat) (Option.some Jvm.ClassFile.FieldType.int)) ∈ TT := TT_mem 841 (by decide +kernel) rfl
theorem tw_842 : (Jvm.Cond.methodLink "HammockReachLaw" (97 : Nat) ({ cls := "HammockReachModel", name := "everywhere", desc := "(II)I" } : Jvm.MethodName)) ∈ TT := TT_mem 842 (by decide +kernel) rfl
theorem tw_843 : (Jvm.Cond.instanceMethod ({ cls := "HammockReachModel", name := "everywhere", desc := "(II)I" } : Jvm.MethodName)) ∈ TT := TT_mem 843 (by decide +kernel) rfl
theorem tw_844 : (Jvm.Cond.selects "HammockReachModel" ({ cls := "HammockReachModel", name := "everywhere", desc := "(II)I" } : Jvm.MethodName) ({ cls := "HammockReachModel", name := "everywhere", desc := "(II)I" } : Jvm.MethodName)) ∈ TT := TT_mem 844 (by decide +kernel) rfl
theorem tw_845 : (Jvm.Cond.code ({ cls := "HammockReachModel", name := "everywhere", desc := "(II)I" } : Jvm.MethodName) prog_8_method_50_code (3 : Nat) (Option.some Jvm.ClassFile.FieldType.int)) ∈ TT := TT_mem 845 (by decide +kernel) rfl
theorem tw_846 : (Jvm.Cond.methodLink "HammockReachModel" (201 : Nat) ({ cls := "HammockReachModel", name := "spread", desc := "([III)I" } : Jvm.MethodName)) ∈ TT := TT_mem 846 (by decide +kernel) rfl
theorem tw_847 : (Jvm.Cond.static ({ cls := "HammockReachModel", name := "spread", desc := "([III)I" } : Jvm.MethodName)) ∈ TT := TT_mem 847 (by decide +kernel) rfl
theorem tw_848 : (Jvm.Cond.code ({ cls := "HammockReachModel", name := "spread", desc := "([III)I" } : Jvm.MethodName) prog_8_method_30_code (7 : Nat) (Option.some Jvm.ClassFile.FieldType.int)) ∈ TT := TT_mem 848 (by decide +kernel) rfl
theorem tw_849 : (Jvm.Cond.methodLink "HammockReachLaw" (101 : Nat) ({ cls := "HammockReachModel", name := "stops", desc := "(III)I" } : Jvm.MethodName)) ∈ TT := TT_mem 849 (by decide +kernel) rfl
theorem tw_850 : (Jvm.Cond.instanceMethod ({ cls := "HammockReachModel", name := "stops", desc := "(III)I" } : Jvm.MethodName)) ∈ TT := TT_mem 850 (by decide +kernel) rfl
theorem tw_851 : (Jvm.Cond.selects "HammockReachModel" ({ cls := "HammockReachModel", name := "stops", desc := "(III)I" } : Jvm.MethodName) ({ cls := "HammockReachModel", name := "stops", desc := "(III)I" } : Jvm.MethodName)) ∈ TT := TT_mem 851 (by decide +kernel) rfl
theorem tw_852 : (Jvm.Cond.code ({ cls := "HammockReachModel", name := "stops", desc := "(III)I" } : Jvm.MethodName) prog_8_method_52_code (6 : Nat) (Option.some Jvm.ClassFile.FieldType.int)) ∈ TT := TT_mem 852 (by decide +kernel) rfl
theorem tw_853 : (Jvm.Cond.methodLink "HammockReachModel" (204 : Nat) ({ cls := "HammockReachModel", name := "layAside", desc := "()V" } : Jvm.MethodName)) ∈ TT := TT_mem 853 (by decide +kernel) rfl
theorem tw_855 : (Jvm.Cond.instanceMethod ({ cls := "HammockReachModel", name := "layAside", desc := "()V" } : Jvm.MethodName)) ∈ TT := TT_mem 855 (by decide +kernel) rfl
theorem tw_856 : (Jvm.Cond.code ({ cls := "HammockReachModel", name := "layAside", desc := "()V" } : Jvm.MethodName) prog_8_method_51_code (1 : Nat) (Option.none : Option Jvm.ClassFile.FieldType)) ∈ TT := TT_mem 856 (by decide +kernel) rfl
theorem tw_857 : (Jvm.Cond.methodLink "HammockReachLaw" (106 : Nat) ({ cls := "HammockReachModel", name := "toSling", desc := "(IIII)I" } : Jvm.MethodName)) ∈ TT := TT_mem 857 (by decide +kernel) rfl
theorem tw_858 : (Jvm.Cond.instanceMethod ({ cls := "HammockReachModel", name := "toSling", desc := "(IIII)I" } : Jvm.MethodName)) ∈ TT := TT_mem 858 (by decide +kernel) rfl
theorem tw_859 : (Jvm.Cond.selects "HammockReachModel" ({ cls := "HammockReachModel", name := "toSling", desc := "(IIII)I" } : Jvm.MethodName) ({ cls := "HammockReachModel", name := "toSling", desc := "(IIII)I" } : Jvm.MethodName)) ∈ TT := TT_mem 859 (by decide +kernel) rfl
theorem tw_860 : (Jvm.Cond.code ({ cls := "HammockReachModel", name := "toSling", desc := "(IIII)I" } : Jvm.MethodName) prog_8_method_53_code (10 : Nat) (Option.some Jvm.ClassFile.FieldType.int)) ∈ TT := TT_mem 860 (by decide +kernel) rfl
theorem tw_861 : (Jvm.Cond.methodLink "HammockReachLaw" (110 : Nat) ({ cls := "HammockReachModel", name := "fits", desc := "(IIIII)I" } : Jvm.MethodName)) ∈ TT := TT_mem 861 (by decide +kernel) rfl
theorem tw_862 : (Jvm.Cond.instanceMethod ({ cls := "HammockReachModel", name := "fits", desc := "(IIIII)I" } : Jvm.MethodName)) ∈ TT := TT_mem 862 (by decide +kernel) rfl
theorem tw_863 : (Jvm.Cond.selects "HammockReachModel" ({ cls := "HammockReachModel", name := "fits", desc := "(IIIII)I" } : Jvm.MethodName) ({ cls := "HammockReachModel", name := "fits", desc := "(IIIII)I" } : Jvm.MethodName)) ∈ TT := TT_mem 863 (by decide +kernel) rfl
theorem tw_864 : (Jvm.Cond.code ({ cls := "HammockReachModel", name := "fits", desc := "(IIIII)I" } : Jvm.MethodName) prog_8_method_54_code (14 : Nat) (Option.some Jvm.ClassFile.FieldType.int)) ∈ TT := TT_mem 864 (by decide +kernel) rfl
theorem tw_865 : (Jvm.Cond.constantLong "HammockReachModel" (207 : Nat) (16 : Int64)) ∈ TT := TT_mem 865 (by decide +kernel) rfl
theorem tw_866 : (Jvm.Cond.methodLink "HammockReachLaw" (114 : Nat) ({ cls := "HammockReachModel", name := "breaks", desc := "(IIIII)I" } : Jvm.MethodName)) ∈ TT := TT_mem 866 (by decide +kernel) rfl
theorem tw_867 : (Jvm.Cond.instanceMethod ({ cls := "HammockReachModel", name := "breaks", desc := "(IIIII)I" } : Jvm.MethodName)) ∈ TT := TT_mem 867 (by decide +kernel) rfl
theorem tw_868 : (Jvm.Cond.selects "HammockReachModel" ({ cls := "HammockReachModel", name := "breaks", desc := "(IIIII)I" } : Jvm.MethodName) ({ cls := "HammockReachModel", name := "breaks", desc := "(IIIII)I" } : Jvm.MethodName)) ∈ TT := TT_mem 868 (by decide +kernel) rfl
theorem tw_869 : (Jvm.Cond.code ({ cls := "HammockReachModel", name := "breaks", desc := "(IIIII)I" } : Jvm.MethodName) prog_8_method_55_code (16 : Nat) (Option.some Jvm.ClassFile.FieldType.int)) ∈ TT := TT_mem 869 (by decide +kernel) rfl
theorem tw_870 : (Jvm.Cond.constantLong "HammockReachModel" (209 : Nat) (10 : Int64)) ∈ TT := TT_mem 870 (by decide +kernel) rfl
theorem tw_871 : (Jvm.Cond.methodLink "HammockReachLaw" (118 : Nat) ({ cls := "HammockReachModel", name := "image", desc := "(I)I" } : Jvm.MethodName)) ∈ TT := TT_mem 871 (by decide +kernel) rfl
theorem tw_872 : (Jvm.Cond.instanceMethod ({ cls := "HammockReachModel", name := "image", desc := "(I)I" } : Jvm.MethodName)) ∈ TT := TT_mem 872 (by decide +kernel) rfl
theorem tw_873 : (Jvm.Cond.selects "HammockReachModel" ({ cls := "HammockReachModel", name := "image", desc := "(I)I" } : Jvm.MethodName) ({ cls := "HammockReachModel", name := "image", desc := "(I)I" } : Jvm.MethodName)) ∈ TT := TT_mem 873 (by decide +kernel) rfl
theorem tw_874 : (Jvm.Cond.code ({ cls := "HammockReachModel", name := "image", desc := "(I)I" } : Jvm.MethodName) prog_8_method_56_code (2 : Nat) (Option.some Jvm.ClassFile.FieldType.int)) ∈ TT := TT_mem 874 (by decide +kernel) rfl
theorem tw_875 : (Jvm.Cond.methodLink "HammockReachLaw" (122 : Nat) ({ cls := "HammockReachModel", name := "restore", desc := "(I)I" } : Jvm.MethodName)) ∈ TT := TT_mem 875 (by decide +kernel) rfl
theorem tw_876 : (Jvm.Cond.instanceMethod ({ cls := "HammockReachModel", name := "restore", desc := "(I)I" } : Jvm.MethodName)) ∈ TT := TT_mem 876 (by decide +kernel) rfl
theorem tw_877 : (Jvm.Cond.selects "HammockReachModel" ({ cls := "HammockReachModel", name := "restore", desc := "(I)I" } : Jvm.MethodName) ({ cls := "HammockReachModel", name := "restore", desc := "(I)I" } : Jvm.MethodName)) ∈ TT := TT_mem 877 (by decide +kernel) rfl
theorem tw_878 : (Jvm.Cond.code ({ cls := "HammockReachModel", name := "restore", desc := "(I)I" } : Jvm.MethodName) prog_8_method_57_code (2 : Nat) (Option.some Jvm.ClassFile.FieldType.int)) ∈ TT := TT_mem 878 (by decide +kernel) rfl
theorem tw_879 : (Jvm.Cond.methodLink "HammockReachLaw" (126 : Nat) ({ cls := "HammockReachModel", name := "kind", desc := "(I)I" } : Jvm.MethodName)) ∈ TT := TT_mem 879 (by decide +kernel) rfl
theorem tw_880 : (Jvm.Cond.instanceMethod ({ cls := "HammockReachModel", name := "kind", desc := "(I)I" } : Jvm.MethodName)) ∈ TT := TT_mem 880 (by decide +kernel) rfl
theorem tw_881 : (Jvm.Cond.selects "HammockReachModel" ({ cls := "HammockReachModel", name := "kind", desc := "(I)I" } : Jvm.MethodName) ({ cls := "HammockReachModel", name := "kind", desc := "(I)I" } : Jvm.MethodName)) ∈ TT := TT_mem 881 (by decide +kernel) rfl
theorem tw_882 : (Jvm.Cond.code ({ cls := "HammockReachModel", name := "kind", desc := "(I)I" } : Jvm.MethodName) prog_8_method_58_code (2 : Nat) (Option.some Jvm.ClassFile.FieldType.int)) ∈ TT := TT_mem 882 (by decide +kernel) rfl
theorem tw_883 : (Jvm.Cond.methodLink "HammockReachLaw" (130 : Nat) ({ cls := "HammockReachModel", name := "as", desc := "(II)I" } : Jvm.MethodName)) ∈ TT := TT_mem 883 (by decide +kernel) rfl
theorem tw_884 : (Jvm.Cond.instanceMethod ({ cls := "HammockReachModel", name := "as", desc := "(II)I" } : Jvm.MethodName)) ∈ TT := TT_mem 884 (by decide +kernel) rfl
theorem tw_885 : (Jvm.Cond.selects "HammockReachModel" ({ cls := "HammockReachModel", name := "as", desc := "(II)I" } : Jvm.MethodName) ({ cls := "HammockReachModel", name := "as", desc := "(II)I" } : Jvm.MethodName)) ∈ TT := TT_mem 885 (by decide +kernel) rfl
theorem tw_886 : (Jvm.Cond.code ({ cls := "HammockReachModel", name := "as", desc := "(II)I" } : Jvm.MethodName) prog_8_method_60_code (3 : Nat) (Option.some Jvm.ClassFile.FieldType.int)) ∈ TT := TT_mem 886 (by decide +kernel) rfl
theorem tw_887 : (Jvm.Cond.constantLong "HammockReachModel" (211 : Nat) (5 : Int64)) ∈ TT := TT_mem 887 (by decide +kernel) rfl
theorem tw_888 : (Jvm.Cond.methodLink "HammockReachModel" (213 : Nat) ({ cls := "HammockReachModel", name := "isOf", desc := "(II)Z" } : Jvm.MethodName)) ∈ TT := TT_mem 888 (by decide +kernel) rfl
theorem tw_889 : (Jvm.Cond.static ({ cls := "HammockReachModel", name := "isOf", desc := "(II)Z" } : Jvm.MethodName)) ∈ TT := TT_mem 889 (by decide +kernel) rfl
theorem tw_890 : (Jvm.Cond.code ({ cls := "HammockReachModel", name := "isOf", desc := "(II)Z" } : Jvm.MethodName) prog_8_method_59_code (2 : Nat) (Option.some Jvm.ClassFile.FieldType.boolean)) ∈ TT := TT_mem 890 (by decide +kernel) rfl
theorem tw_891 : (Jvm.Cond.methodLink "HammockReachLaw" (134 : Nat) ({ cls := "HammockReachModel", name := "ask", desc := "(II)I" } : Jvm.MethodName)) ∈ TT := TT_mem 891 (by decide +kernel) rfl
theorem tw_892 : (Jvm.Cond.instanceMethod ({ cls := "HammockReachModel", name := "ask", desc := "(II)I" } : Jvm.MethodName)) ∈ TT := TT_mem 892 (by decide +kernel) rfl
theorem tw_893 : (Jvm.Cond.selects "HammockReachModel" ({ cls := "HammockReachModel", name := "ask", desc := "(II)I" } : Jvm.MethodName) ({ cls := "HammockReachModel", name := "ask", desc := "(II)I" } : Jvm.MethodName)) ∈ TT := TT_mem 893 (by decide +kernel) rfl
theorem tw_894 : (Jvm.Cond.code ({ cls := "HammockReachModel", name := "ask", desc := "(II)I" } : Jvm.MethodName) prog_8_method_64_code (5 : Nat) (Option.some Jvm.ClassFile.FieldType.int)) ∈ TT := TT_mem 894 (by decide +kernel) rfl
theorem tw_895 : (Jvm.Cond.methodLink "HammockReachModel" (235 : Nat) ({ cls := "HammockReachModel", name := "mark", desc := "(I)I" } : Jvm.MethodName)) ∈ TT := TT_mem 895 (by decide +kernel) rfl
theorem tw_897 : (Jvm.Cond.instanceMethod ({ cls := "HammockReachModel", name := "mark", desc := "(I)I" } : Jvm.MethodName)) ∈ TT := TT_mem 897 (by decide +kernel) rfl
theorem tw_898 : (Jvm.Cond.code ({ cls := "HammockReachModel", name := "mark", desc := "(I)I" } : Jvm.MethodName) prog_8_method_62_code (4 : Nat) (Option.some Jvm.ClassFile.FieldType.int)) ∈ TT := TT_mem 898 (by decide +kernel) rfl
theorem tw_899 : (Jvm.Cond.constantLong "HammockReachModel" (221 : Nat) (242120 : Int64)) ∈ TT := TT_mem 899 (by decide +kernel) rfl
theorem tw_900 : (Jvm.Cond.constantLong "HammockReachModel" (223 : Nat) (222120 : Int64)) ∈ TT := TT_mem 900 (by decide +kernel) rfl
theorem tw_901 : (Jvm.Cond.constantLong "HammockReachModel" (225 : Nat) (2120 : Int64)) ∈ TT := TT_mem 901 (by decide +kernel) rfl
theorem tw_902 : (Jvm.Cond.methodLink "HammockReachModel" (227 : Nat) ({ cls := "HammockReachModel", name := "leave", desc := "(J)V" } : Jvm.MethodName)) ∈ TT := TT_mem 902 (by decide +kernel) rfl
theorem tw_904 : (Jvm.Cond.instanceMethod ({ cls := "HammockReachModel", name := "leave", desc := "(J)V" } : Jvm.MethodName)) ∈ TT := TT_mem 904 (by decide +kernel) rfl
theorem tw_905 : (Jvm.Cond.code ({ cls := "HammockReachModel", name := "leave", desc := "(J)V" } : Jvm.MethodName) prog_8_method_61_code (7 : Nat) (Option.none : Option Jvm.ClassFile.FieldType)) ∈ TT := TT_mem 905 (by decide +kernel) rfl
theorem tw_906 : (Jvm.Cond.constantLong "HammockReachModel" (216 : Nat) (100 : Int64)) ∈ TT := TT_mem 906 (by decide +kernel) rfl
theorem tw_907 : (Jvm.Cond.constantLong "HammockReachModel" (238 : Nat) (121110 : Int64)) ∈ TT := TT_mem 907 (by decide +kernel) rfl
theorem tw_908 : (Jvm.Cond.constantLong "HammockReachModel" (240 : Nat) (1110 : Int64)) ∈ TT := TT_mem 908 (by decide +kernel) rfl
theorem tw_909 : (Jvm.Cond.methodLink "HammockReachModel" (242 : Nat) ({ cls := "HammockReachModel", name := "sizeOf", desc := "(I)I" } : Jvm.MethodName)) ∈ TT := TT_mem 909 (by decide +kernel) rfl
theorem tw_911 : (Jvm.Cond.instanceMethod ({ cls := "HammockReachModel", name := "sizeOf", desc := "(I)I" } : Jvm.MethodName)) ∈ TT := TT_mem 911 (by decide +kernel) rfl
theorem tw_912 : (Jvm.Cond.code ({ cls := "HammockReachModel", name := "sizeOf", desc := "(I)I" } : Jvm.MethodName) prog_8_method_63_code (4 : Nat) (Option.some Jvm.ClassFile.FieldType.int)) ∈ TT := TT_mem 912 (by decide +kernel) rfl
theorem tw_913 : (Jvm.Cond.constantLong "HammockReachModel" (231 : Nat) (141310 : Int64)) ∈ TT := TT_mem 913 (by decide +kernel) rfl
theorem tw_914 : (Jvm.Cond.constantLong "HammockReachModel" (233 : Nat) (1310 : Int64)) ∈ TT := TT_mem 914 (by decide +kernel) rfl
theorem tw_915 : (Jvm.Cond.constantLong "HammockReachModel" (245 : Nat) (2320 : Int64)) ∈ TT := TT_mem 915 (by decide +kernel) rfl
theorem tw_916 : (Jvm.Cond.methodLink "HammockReachLaw" (138 : Nat) ({ cls := "HammockReachModel", name := "trace", desc := "(I)I" } : Jvm.MethodName)) ∈ TT := TT_mem 916 (by decide +kernel) rfl
theorem tw_917 : (Jvm.Cond.instanceMethod ({ cls := "HammockReachModel", name := "trace", desc := "(I)I" } : Jvm.MethodName)) ∈ TT := TT_mem 917 (by decide +kernel) rfl
theorem tw_918 : (Jvm.Cond.selects "HammockReachModel" ({ cls := "HammockReachModel", name := "trace", desc := "(I)I" } : Jvm.MethodName) ({ cls := "HammockReachModel", name := "trace", desc := "(I)I" } : Jvm.MethodName)) ∈ TT := TT_mem 918 (by decide +kernel) rfl
theorem tw_919 : (Jvm.Cond.code ({ cls := "HammockReachModel", name := "trace", desc := "(I)I" } : Jvm.MethodName) prog_8_method_65_code (2 : Nat) (Option.some Jvm.ClassFile.FieldType.int)) ∈ TT := TT_mem 919 (by decide +kernel) rfl
theorem tw_920 : (Jvm.Cond.methodLink "HammockReachLaw" (142 : Nat) ({ cls := "HammockReachModel", name := "count", desc := "(I)I" } : Jvm.MethodName)) ∈ TT := TT_mem 920 (by decide +kernel) rfl
theorem tw_921 : (Jvm.Cond.instanceMethod ({ cls := "HammockReachModel", name := "count", desc := "(I)I" } : Jvm.MethodName)) ∈ TT := TT_mem 921 (by decide +kernel) rfl
theorem tw_922 : (Jvm.Cond.selects "HammockReachModel" ({ cls := "HammockReachModel", name := "count", desc := "(I)I" } : Jvm.MethodName) ({ cls := "HammockReachModel", name := "count", desc := "(I)I" } : Jvm.MethodName)) ∈ TT := TT_mem 922 (by decide +kernel) rfl
theorem tw_923 : (Jvm.Cond.code ({ cls := "HammockReachModel", name := "count", desc := "(I)I" } : Jvm.MethodName) prog_8_method_66_code (5 : Nat) (Option.some Jvm.ClassFile.FieldType.int)) ∈ TT := TT_mem 923 (by decide +kernel) rfl
theorem tw_924 : (Jvm.Cond.methodLink "HammockReachLaw" (146 : Nat) ({ cls := "HammockReachModel", name := "status", desc := "()I" } : Jvm.MethodName)) ∈ TT := TT_mem 924 (by decide +kernel) rfl
theorem tw_925 : (Jvm.Cond.instanceMethod ({ cls := "HammockReachModel", name := "status", desc := "()I" } : Jvm.MethodName)) ∈ TT := TT_mem 925 (by decide +kernel) rfl
theorem tw_926 : (Jvm.Cond.selects "HammockReachModel" ({ cls := "HammockReachModel", name := "status", desc := "()I" } : Jvm.MethodName) ({ cls := "HammockReachModel", name := "status", desc := "()I" } : Jvm.MethodName)) ∈ TT := TT_mem 926 (by decide +kernel) rfl
theorem tw_927 : (Jvm.Cond.code ({ cls := "HammockReachModel", name := "status", desc := "()I" } : Jvm.MethodName) prog_8_method_67_code (1 : Nat) (Option.some Jvm.ClassFile.FieldType.int)) ∈ TT := TT_mem 927 (by decide +kernel) rfl
theorem xlay_X0 : ∀ w ∈ u_ws RX0 TX0 6, w ∈ TT := by
  have h : ∀ w ∈ u_ws RX0 TX0 6, w ∈ lw_tbl ∧ goodWord w = true := by decide +kernel
  exact fun w hw => List.mem_filter.mpr (h w hw)
theorem xlay_X1 : ∀ w ∈ u_ws RX1 TX1 11, w ∈ TT := by
  have h : ∀ w ∈ u_ws RX1 TX1 11, w ∈ lw_tbl ∧ goodWord w = true := by decide +kernel
  exact fun w hw => List.mem_filter.mpr (h w hw)
theorem xlay_X2 : ∀ w ∈ u_ws RX2 TX2 4, w ∈ TT := by
  have h : ∀ w ∈ u_ws RX2 TX2 4, w ∈ lw_tbl ∧ goodWord w = true := by decide +kernel
  exact fun w hw => List.mem_filter.mpr (h w hw)
theorem xlay_X3 : ∀ w ∈ u_ws RX3 TX3 3, w ∈ TT := by
  have h : ∀ w ∈ u_ws RX3 TX3 3, w ∈ lw_tbl ∧ goodWord w = true := by decide +kernel
  exact fun w hw => List.mem_filter.mpr (h w hw)
theorem xlay_X4 : ∀ w ∈ u_ws RX4 TX4 4, w ∈ TT := by
  have h : ∀ w ∈ u_ws RX4 TX4 4, w ∈ lw_tbl ∧ goodWord w = true := by decide +kernel
  exact fun w hw => List.mem_filter.mpr (h w hw)
theorem xlay_X5 : ∀ w ∈ u_ws RX5 TX5 10, w ∈ TT := by
  have h : ∀ w ∈ u_ws RX5 TX5 10, w ∈ lw_tbl ∧ goodWord w = true := by decide +kernel
  exact fun w hw => List.mem_filter.mpr (h w hw)
theorem xlay_X6 : ∀ w ∈ u_ws RX6 TX6 23, w ∈ TT := by
  have h : ∀ w ∈ u_ws RX6 TX6 23, w ∈ lw_tbl ∧ goodWord w = true := by decide +kernel
  exact fun w hw => List.mem_filter.mpr (h w hw)
theorem xf_X4_9 : xF RX4 9 4 0 := ⟨RX4, TX4, 4, rfl, by decide, tw_27, xlay_X4, ⟨tyX4, tyX4_ok⟩, nmX4⟩
theorem xf_X5_101 : xF RX5 101 4 0 := ⟨RX4, TX4, 4, rfl, by decide, tw_28, xlay_X4, ⟨tyX4, tyX4_ok⟩, nmX4⟩
theorem xf_X4_28 : xF RX4 28 4 1 := ⟨RX4, TX4, 4, rfl, by decide, tw_29, xlay_X4, ⟨tyX4, tyX4_ok⟩, nmX4⟩
theorem xf_X5_97 : xF RX5 97 4 1 := ⟨RX4, TX4, 4, rfl, by decide, tw_30, xlay_X4, ⟨tyX4, tyX4_ok⟩, nmX4⟩
theorem xf_X4_15 : xF RX4 15 4 2 := ⟨RX4, TX4, 4, rfl, by decide, tw_31, xlay_X4, ⟨tyX4, tyX4_ok⟩, nmX4⟩
theorem xf_X5_109 : xF RX5 109 4 2 := ⟨RX4, TX4, 4, rfl, by decide, tw_32, xlay_X4, ⟨tyX4, tyX4_ok⟩, nmX4⟩
theorem xf_X5_120 : xF RX5 120 4 3 := ⟨RX4, TX4, 4, rfl, by decide, tw_33, xlay_X4, ⟨tyX4, tyX4_ok⟩, nmX4⟩
theorem xf_X4_86 : xF RX4 86 4 3 := ⟨RX4, TX4, 4, rfl, by decide, tw_34, xlay_X4, ⟨tyX4, tyX4_ok⟩, nmX4⟩
theorem xf_X1_9 : xF RX1 9 1 0 := ⟨RX1, TX1, 11, rfl, by decide, tw_51, xlay_X1, ⟨tyX1, tyX1_ok⟩, nmX1⟩
theorem xf_X4_61 : xF RX4 61 1 0 := ⟨RX1, TX1, 11, rfl, by decide, tw_52, xlay_X1, ⟨tyX1, tyX1_ok⟩, nmX1⟩
theorem xf_X5_226 : xF RX5 226 1 0 := ⟨RX1, TX1, 11, rfl, by decide, tw_53, xlay_X1, ⟨tyX1, tyX1_ok⟩, nmX1⟩
theorem xf_X1_15 : xF RX1 15 1 1 := ⟨RX1, TX1, 11, rfl, by decide, tw_54, xlay_X1, ⟨tyX1, tyX1_ok⟩, nmX1⟩
theorem xf_X0_31 : xF RX0 31 1 1 := ⟨RX1, TX1, 11, rfl, by decide, tw_55, xlay_X1, ⟨tyX1, tyX1_ok⟩, nmX1⟩
theorem xf_X4_71 : xF RX4 71 1 1 := ⟨RX1, TX1, 11, rfl, by decide, tw_56, xlay_X1, ⟨tyX1, tyX1_ok⟩, nmX1⟩
theorem xf_X5_141 : xF RX5 141 1 1 := ⟨RX1, TX1, 11, rfl, by decide, tw_57, xlay_X1, ⟨tyX1, tyX1_ok⟩, nmX1⟩
theorem xf_X1_18 : xF RX1 18 1 2 := ⟨RX1, TX1, 11, rfl, by decide, tw_58, xlay_X1, ⟨tyX1, tyX1_ok⟩, nmX1⟩
theorem xf_X0_36 : xF RX0 36 1 2 := ⟨RX1, TX1, 11, rfl, by decide, tw_59, xlay_X1, ⟨tyX1, tyX1_ok⟩, nmX1⟩
theorem xf_X4_74 : xF RX4 74 1 2 := ⟨RX1, TX1, 11, rfl, by decide, tw_60, xlay_X1, ⟨tyX1, tyX1_ok⟩, nmX1⟩
theorem xf_X5_144 : xF RX5 144 1 2 := ⟨RX1, TX1, 11, rfl, by decide, tw_61, xlay_X1, ⟨tyX1, tyX1_ok⟩, nmX1⟩
theorem xf_X1_21 : xF RX1 21 1 3 := ⟨RX1, TX1, 11, rfl, by decide, tw_62, xlay_X1, ⟨tyX1, tyX1_ok⟩, nmX1⟩
theorem xf_X0_39 : xF RX0 39 1 3 := ⟨RX1, TX1, 11, rfl, by decide, tw_63, xlay_X1, ⟨tyX1, tyX1_ok⟩, nmX1⟩
theorem xf_X4_77 : xF RX4 77 1 3 := ⟨RX1, TX1, 11, rfl, by decide, tw_64, xlay_X1, ⟨tyX1, tyX1_ok⟩, nmX1⟩
theorem xf_X5_151 : xF RX5 151 1 3 := ⟨RX1, TX1, 11, rfl, by decide, tw_65, xlay_X1, ⟨tyX1, tyX1_ok⟩, nmX1⟩
theorem xf_X1_24 : xF RX1 24 1 4 := ⟨RX1, TX1, 11, rfl, by decide, tw_66, xlay_X1, ⟨tyX1, tyX1_ok⟩, nmX1⟩
theorem xf_X4_80 : xF RX4 80 1 4 := ⟨RX1, TX1, 11, rfl, by decide, tw_67, xlay_X1, ⟨tyX1, tyX1_ok⟩, nmX1⟩
theorem xf_X5_169 : xF RX5 169 1 4 := ⟨RX1, TX1, 11, rfl, by decide, tw_68, xlay_X1, ⟨tyX1, tyX1_ok⟩, nmX1⟩
theorem xf_X1_27 : xF RX1 27 1 5 := ⟨RX1, TX1, 11, rfl, by decide, tw_69, xlay_X1, ⟨tyX1, tyX1_ok⟩, nmX1⟩
theorem xf_X5_123 : xF RX5 123 1 5 := ⟨RX1, TX1, 11, rfl, by decide, tw_70, xlay_X1, ⟨tyX1, tyX1_ok⟩, nmX1⟩
theorem xf_X4_42 : xF RX4 42 1 6 := ⟨RX1, TX1, 11, rfl, by decide, tw_71, xlay_X1, ⟨tyX1, tyX1_ok⟩, nmX1⟩
theorem xf_X1_47 : xF RX1 47 1 6 := ⟨RX1, TX1, 11, rfl, by decide, tw_72, xlay_X1, ⟨tyX1, tyX1_ok⟩, nmX1⟩
theorem xf_X5_242 : xF RX5 242 1 6 := ⟨RX1, TX1, 11, rfl, by decide, tw_73, xlay_X1, ⟨tyX1, tyX1_ok⟩, nmX1⟩
theorem xf_X4_45 : xF RX4 45 1 7 := ⟨RX1, TX1, 11, rfl, by decide, tw_74, xlay_X1, ⟨tyX1, tyX1_ok⟩, nmX1⟩
theorem xf_X1_50 : xF RX1 50 1 7 := ⟨RX1, TX1, 11, rfl, by decide, tw_75, xlay_X1, ⟨tyX1, tyX1_ok⟩, nmX1⟩
theorem xf_X5_245 : xF RX5 245 1 7 := ⟨RX1, TX1, 11, rfl, by decide, tw_76, xlay_X1, ⟨tyX1, tyX1_ok⟩, nmX1⟩
theorem xf_X1_31 : xF RX1 31 1 8 := ⟨RX1, TX1, 11, rfl, by decide, tw_77, xlay_X1, ⟨tyX1, tyX1_ok⟩, nmX1⟩
theorem xf_X2_28 : xF RX2 28 1 8 := ⟨RX1, TX1, 11, rfl, by decide, tw_78, xlay_X1, ⟨tyX1, tyX1_ok⟩, nmX1⟩
theorem xf_X0_45 : xF RX0 45 1 8 := ⟨RX1, TX1, 11, rfl, by decide, tw_79, xlay_X1, ⟨tyX1, tyX1_ok⟩, nmX1⟩
theorem xf_X5_128 : xF RX5 128 1 8 := ⟨RX1, TX1, 11, rfl, by decide, tw_80, xlay_X1, ⟨tyX1, tyX1_ok⟩, nmX1⟩
theorem xf_X2_21 : xF RX2 21 1 9 := ⟨RX1, TX1, 11, rfl, by decide, tw_81, xlay_X1, ⟨tyX1, tyX1_ok⟩, nmX1⟩
theorem xf_X1_35 : xF RX1 35 1 9 := ⟨RX1, TX1, 11, rfl, by decide, tw_82, xlay_X1, ⟨tyX1, tyX1_ok⟩, nmX1⟩
theorem xf_X4_48 : xF RX4 48 1 9 := ⟨RX1, TX1, 11, rfl, by decide, tw_83, xlay_X1, ⟨tyX1, tyX1_ok⟩, nmX1⟩
theorem xf_X5_119 : xF RX5 119 1 9 := ⟨RX1, TX1, 11, rfl, by decide, tw_84, xlay_X1, ⟨tyX1, tyX1_ok⟩, nmX1⟩
theorem xf_X1_38 : xF RX1 38 1 10 := ⟨RX1, TX1, 11, rfl, by decide, tw_85, xlay_X1, ⟨tyX1, tyX1_ok⟩, nmX1⟩
theorem xf_X0_42 : xF RX0 42 1 10 := ⟨RX1, TX1, 11, rfl, by decide, tw_86, xlay_X1, ⟨tyX1, tyX1_ok⟩, nmX1⟩
theorem xf_X5_160 : xF RX5 160 1 10 := ⟨RX1, TX1, 11, rfl, by decide, tw_87, xlay_X1, ⟨tyX1, tyX1_ok⟩, nmX1⟩
theorem xf_X0_9 : xF RX0 9 0 0 := ⟨RX0, TX0, 6, rfl, by decide, tw_118, xlay_X0, ⟨tyX0, tyX0_ok⟩, nmX0⟩
theorem xf_X0_15 : xF RX0 15 0 1 := ⟨RX0, TX0, 6, rfl, by decide, tw_119, xlay_X0, ⟨tyX0, tyX0_ok⟩, nmX0⟩
theorem xf_X0_18 : xF RX0 18 0 2 := ⟨RX0, TX0, 6, rfl, by decide, tw_120, xlay_X0, ⟨tyX0, tyX0_ok⟩, nmX0⟩
theorem xf_X0_21 : xF RX0 21 0 3 := ⟨RX0, TX0, 6, rfl, by decide, tw_121, xlay_X0, ⟨tyX0, tyX0_ok⟩, nmX0⟩
theorem xf_X0_28 : xF RX0 28 0 4 := ⟨RX0, TX0, 6, rfl, by decide, tw_122, xlay_X0, ⟨tyX0, tyX0_ok⟩, nmX0⟩
theorem xf_X0_24 : xF RX0 24 0 5 := ⟨RX0, TX0, 6, rfl, by decide, tw_123, xlay_X0, ⟨tyX0, tyX0_ok⟩, nmX0⟩
theorem xf_X5_163 : xF RX5 163 0 5 := ⟨RX0, TX0, 6, rfl, by decide, tw_124, xlay_X0, ⟨tyX0, tyX0_ok⟩, nmX0⟩
theorem xf_X2_9 : xF RX2 9 2 0 := ⟨RX2, TX2, 4, rfl, by decide, tw_144, xlay_X2, ⟨tyX2, tyX2_ok⟩, nmX2⟩
theorem xf_X2_15 : xF RX2 15 2 1 := ⟨RX2, TX2, 4, rfl, by decide, tw_145, xlay_X2, ⟨tyX2, tyX2_ok⟩, nmX2⟩
theorem xf_X2_18 : xF RX2 18 2 2 := ⟨RX2, TX2, 4, rfl, by decide, tw_146, xlay_X2, ⟨tyX2, tyX2_ok⟩, nmX2⟩
theorem xf_X2_27 : xF RX2 27 2 3 := ⟨RX2, TX2, 4, rfl, by decide, tw_147, xlay_X2, ⟨tyX2, tyX2_ok⟩, nmX2⟩
theorem xf_X3_9 : xF RX3 9 3 0 := ⟨RX3, TX3, 3, rfl, by decide, tw_162, xlay_X3, ⟨tyX3, tyX3_ok⟩, nmX3⟩
theorem xf_X5_82 : xF RX5 82 3 0 := ⟨RX3, TX3, 3, rfl, by decide, tw_163, xlay_X3, ⟨tyX3, tyX3_ok⟩, nmX3⟩
theorem xf_X3_15 : xF RX3 15 3 1 := ⟨RX3, TX3, 3, rfl, by decide, tw_164, xlay_X3, ⟨tyX3, tyX3_ok⟩, nmX3⟩
theorem xf_X5_76 : xF RX5 76 3 1 := ⟨RX3, TX3, 3, rfl, by decide, tw_165, xlay_X3, ⟨tyX3, tyX3_ok⟩, nmX3⟩
theorem xf_X3_19 : xF RX3 19 3 2 := ⟨RX3, TX3, 3, rfl, by decide, tw_166, xlay_X3, ⟨tyX3, tyX3_ok⟩, nmX3⟩
theorem xf_X5_79 : xF RX5 79 3 2 := ⟨RX3, TX3, 3, rfl, by decide, tw_167, xlay_X3, ⟨tyX3, tyX3_ok⟩, nmX3⟩
theorem xf_X5_11 : xF RX5 11 5 0 := ⟨RX5, TX5, 10, rfl, by decide, tw_175, xlay_X5, ⟨tyX5, tyX5_ok⟩, nmX5⟩
theorem xf_X5_18 : xF RX5 18 5 1 := ⟨RX5, TX5, 10, rfl, by decide, tw_176, xlay_X5, ⟨tyX5, tyX5_ok⟩, nmX5⟩
theorem xf_X5_25 : xF RX5 25 5 2 := ⟨RX5, TX5, 10, rfl, by decide, tw_177, xlay_X5, ⟨tyX5, tyX5_ok⟩, nmX5⟩
theorem xf_X5_29 : xF RX5 29 5 3 := ⟨RX5, TX5, 10, rfl, by decide, tw_178, xlay_X5, ⟨tyX5, tyX5_ok⟩, nmX5⟩
theorem xf_X5_32 : xF RX5 32 5 4 := ⟨RX5, TX5, 10, rfl, by decide, tw_179, xlay_X5, ⟨tyX5, tyX5_ok⟩, nmX5⟩
theorem xf_X5_39 : xF RX5 39 5 5 := ⟨RX5, TX5, 10, rfl, by decide, tw_180, xlay_X5, ⟨tyX5, tyX5_ok⟩, nmX5⟩
theorem xf_X5_46 : xF RX5 46 5 6 := ⟨RX5, TX5, 10, rfl, by decide, tw_181, xlay_X5, ⟨tyX5, tyX5_ok⟩, nmX5⟩
theorem xf_X5_50 : xF RX5 50 5 7 := ⟨RX5, TX5, 10, rfl, by decide, tw_182, xlay_X5, ⟨tyX5, tyX5_ok⟩, nmX5⟩
theorem xf_X5_232 : xF RX5 232 5 8 := ⟨RX5, TX5, 10, rfl, by decide, tw_183, xlay_X5, ⟨tyX5, tyX5_ok⟩, nmX5⟩
theorem xf_X5_68 : xF RX5 68 5 9 := ⟨RX5, TX5, 10, rfl, by decide, tw_184, xlay_X5, ⟨tyX5, tyX5_ok⟩, nmX5⟩
theorem xf_X6_7 : xF RX6 7 6 0 := ⟨RX6, TX6, 23, rfl, by decide, tw_585, xlay_X6, ⟨tyX6, tyX6_ok⟩, nmX6⟩
theorem xf_X6_13 : xF RX6 13 6 1 := ⟨RX6, TX6, 23, rfl, by decide, tw_586, xlay_X6, ⟨tyX6, tyX6_ok⟩, nmX6⟩
theorem xf_X6_16 : xF RX6 16 6 2 := ⟨RX6, TX6, 23, rfl, by decide, tw_587, xlay_X6, ⟨tyX6, tyX6_ok⟩, nmX6⟩
theorem xf_X6_50 : xF RX6 50 6 3 := ⟨RX6, TX6, 23, rfl, by decide, tw_588, xlay_X6, ⟨tyX6, tyX6_ok⟩, nmX6⟩
theorem xf_X6_19 : xF RX6 19 6 4 := ⟨RX6, TX6, 23, rfl, by decide, tw_589, xlay_X6, ⟨tyX6, tyX6_ok⟩, nmX6⟩
theorem xf_X6_22 : xF RX6 22 6 5 := ⟨RX6, TX6, 23, rfl, by decide, tw_590, xlay_X6, ⟨tyX6, tyX6_ok⟩, nmX6⟩
theorem xf_X6_25 : xF RX6 25 6 6 := ⟨RX6, TX6, 23, rfl, by decide, tw_591, xlay_X6, ⟨tyX6, tyX6_ok⟩, nmX6⟩
theorem xf_X6_28 : xF RX6 28 6 7 := ⟨RX6, TX6, 23, rfl, by decide, tw_592, xlay_X6, ⟨tyX6, tyX6_ok⟩, nmX6⟩
theorem xf_X6_136 : xF RX6 136 6 8 := ⟨RX6, TX6, 23, rfl, by decide, tw_593, xlay_X6, ⟨tyX6, tyX6_ok⟩, nmX6⟩
theorem xf_X6_31 : xF RX6 31 6 9 := ⟨RX6, TX6, 23, rfl, by decide, tw_594, xlay_X6, ⟨tyX6, tyX6_ok⟩, nmX6⟩
theorem xf_X6_34 : xF RX6 34 6 10 := ⟨RX6, TX6, 23, rfl, by decide, tw_595, xlay_X6, ⟨tyX6, tyX6_ok⟩, nmX6⟩
theorem xf_X6_38 : xF RX6 38 6 11 := ⟨RX6, TX6, 23, rfl, by decide, tw_596, xlay_X6, ⟨tyX6, tyX6_ok⟩, nmX6⟩
theorem xf_X6_77 : xF RX6 77 6 12 := ⟨RX6, TX6, 23, rfl, by decide, tw_597, xlay_X6, ⟨tyX6, tyX6_ok⟩, nmX6⟩
theorem xf_X6_128 : xF RX6 128 6 13 := ⟨RX6, TX6, 23, rfl, by decide, tw_598, xlay_X6, ⟨tyX6, tyX6_ok⟩, nmX6⟩
theorem xf_X6_41 : xF RX6 41 6 14 := ⟨RX6, TX6, 23, rfl, by decide, tw_599, xlay_X6, ⟨tyX6, tyX6_ok⟩, nmX6⟩
theorem xf_X6_218 : xF RX6 218 6 15 := ⟨RX6, TX6, 23, rfl, by decide, tw_600, xlay_X6, ⟨tyX6, tyX6_ok⟩, nmX6⟩
theorem xf_X6_81 : xF RX6 81 6 16 := ⟨RX6, TX6, 23, rfl, by decide, tw_601, xlay_X6, ⟨tyX6, tyX6_ok⟩, nmX6⟩
theorem xf_X6_84 : xF RX6 84 6 17 := ⟨RX6, TX6, 23, rfl, by decide, tw_602, xlay_X6, ⟨tyX6, tyX6_ok⟩, nmX6⟩
theorem xf_X6_102 : xF RX6 102 6 18 := ⟨RX6, TX6, 23, rfl, by decide, tw_603, xlay_X6, ⟨tyX6, tyX6_ok⟩, nmX6⟩
theorem xf_X6_91 : xF RX6 91 6 19 := ⟨RX6, TX6, 23, rfl, by decide, tw_604, xlay_X6, ⟨tyX6, tyX6_ok⟩, nmX6⟩
theorem xf_X6_105 : xF RX6 105 6 20 := ⟨RX6, TX6, 23, rfl, by decide, tw_605, xlay_X6, ⟨tyX6, tyX6_ok⟩, nmX6⟩
theorem xf_X6_44 : xF RX6 44 6 21 := ⟨RX6, TX6, 23, rfl, by decide, tw_606, xlay_X6, ⟨tyX6, tyX6_ok⟩, nmX6⟩
theorem xf_X6_47 : xF RX6 47 6 22 := ⟨RX6, TX6, 23, rfl, by decide, tw_607, xlay_X6, ⟨tyX6, tyX6_ok⟩, nmX6⟩
theorem xt_X0_0 : xFt 0 0 true (.array .int) := ⟨rfl, by decide +kernel, fun _ => rfl⟩
theorem xt_X0_1 : xFt 0 1 true (.array .int) := ⟨rfl, by decide +kernel, fun _ => rfl⟩
theorem xt_X0_2 : xFt 0 2 true (.array .int) := ⟨rfl, by decide +kernel, fun _ => rfl⟩
theorem xt_X0_3 : xFt 0 3 true (.array .int) := ⟨rfl, by decide +kernel, fun _ => rfl⟩
theorem xt_X0_4 : xFt 0 4 false .int := ⟨rfl, by decide +kernel, fun h => by cases h⟩
theorem xt_X0_5 : xFt 0 5 false .int := ⟨rfl, by decide +kernel, fun h => by cases h⟩
theorem xt_X1_0 : xFt 1 0 true (.array .int) := ⟨rfl, by decide +kernel, fun _ => rfl⟩
theorem xt_X1_1 : xFt 1 1 true (.array .int) := ⟨rfl, by decide +kernel, fun _ => rfl⟩
theorem xt_X1_2 : xFt 1 2 true (.array .int) := ⟨rfl, by decide +kernel, fun _ => rfl⟩
theorem xt_X1_3 : xFt 1 3 true (.array .int) := ⟨rfl, by decide +kernel, fun _ => rfl⟩
theorem xt_X1_4 : xFt 1 4 true (.array .int) := ⟨rfl, by decide +kernel, fun _ => rfl⟩
theorem xt_X1_5 : xFt 1 5 false .boolean := ⟨rfl, by decide +kernel, fun h => by cases h⟩
theorem xt_X1_6 : xFt 1 6 false .int := ⟨rfl, by decide +kernel, fun h => by cases h⟩
theorem xt_X1_7 : xFt 1 7 false .int := ⟨rfl, by decide +kernel, fun h => by cases h⟩
theorem xt_X1_8 : xFt 1 8 false .int := ⟨rfl, by decide +kernel, fun h => by cases h⟩
theorem xt_X1_9 : xFt 1 9 false .int := ⟨rfl, by decide +kernel, fun h => by cases h⟩
theorem xt_X1_10 : xFt 1 10 false .int := ⟨rfl, by decide +kernel, fun h => by cases h⟩
theorem xt_X2_0 : xFt 2 0 true (.array .int) := ⟨rfl, by decide +kernel, fun _ => rfl⟩
theorem xt_X2_1 : xFt 2 1 true (.array .int) := ⟨rfl, by decide +kernel, fun _ => rfl⟩
theorem xt_X2_2 : xFt 2 2 true (.array .int) := ⟨rfl, by decide +kernel, fun _ => rfl⟩
theorem xt_X2_3 : xFt 2 3 false .int := ⟨rfl, by decide +kernel, fun h => by cases h⟩
theorem xt_X3_0 : xFt 3 0 true (.array .int) := ⟨rfl, by decide +kernel, fun _ => rfl⟩
theorem xt_X3_1 : xFt 3 1 false .int := ⟨rfl, by decide +kernel, fun h => by cases h⟩
theorem xt_X3_2 : xFt 3 2 false .int := ⟨rfl, by decide +kernel, fun h => by cases h⟩
theorem xt_X4_0 : xFt 4 0 true (.array .int) := ⟨rfl, by decide +kernel, fun _ => rfl⟩
theorem xt_X4_1 : xFt 4 1 false .int := ⟨rfl, by decide +kernel, fun h => by cases h⟩
theorem xt_X4_2 : xFt 4 2 false .int := ⟨rfl, by decide +kernel, fun h => by cases h⟩
theorem xt_X4_3 : xFt 4 3 false .int := ⟨rfl, by decide +kernel, fun h => by cases h⟩
theorem xt_X5_0 : xFt 5 0 true (.array (.object "HammockReach$Row")) := ⟨rfl, by decide +kernel, fun _ => rfl⟩
theorem xt_X5_1 : xFt 5 1 true (.object "HammockReach$Tape") := ⟨rfl, by decide +kernel, fun _ => rfl⟩
theorem xt_X5_2 : xFt 5 2 true (.object "HammockReach$Forest") := ⟨rfl, by decide +kernel, fun _ => rfl⟩
theorem xt_X5_3 : xFt 5 3 true (.object "HammockReach$Forest") := ⟨rfl, by decide +kernel, fun _ => rfl⟩
theorem xt_X5_4 : xFt 5 4 true (.array (.object "HammockReach$Forest")) := ⟨rfl, by decide +kernel, fun _ => rfl⟩
theorem xt_X5_5 : xFt 5 5 true (.object "HammockReach$Acts") := ⟨rfl, by decide +kernel, fun _ => rfl⟩
theorem xt_X5_6 : xFt 5 6 true (.object "HammockReach$Outlook") := ⟨rfl, by decide +kernel, fun _ => rfl⟩
theorem xt_X5_7 : xFt 5 7 true (.array .int) := ⟨rfl, by decide +kernel, fun _ => rfl⟩
theorem xt_X5_8 : xFt 5 8 false .int := ⟨rfl, by decide +kernel, fun h => by cases h⟩
theorem xt_X5_9 : xFt 5 9 false .int := ⟨rfl, by decide +kernel, fun h => by cases h⟩
theorem xt_X6_0 : xFt 6 0 true (.array .int) := ⟨rfl, by decide +kernel, fun _ => rfl⟩
theorem xt_X6_1 : xFt 6 1 true (.array .int) := ⟨rfl, by decide +kernel, fun _ => rfl⟩
theorem xt_X6_2 : xFt 6 2 true (.array .int) := ⟨rfl, by decide +kernel, fun _ => rfl⟩
theorem xt_X6_3 : xFt 6 3 false .int := ⟨rfl, by decide +kernel, fun h => by cases h⟩
theorem xt_X6_4 : xFt 6 4 true (.array .int) := ⟨rfl, by decide +kernel, fun _ => rfl⟩
theorem xt_X6_5 : xFt 6 5 true (.array .int) := ⟨rfl, by decide +kernel, fun _ => rfl⟩
theorem xt_X6_6 : xFt 6 6 true (.array .int) := ⟨rfl, by decide +kernel, fun _ => rfl⟩
theorem xt_X6_7 : xFt 6 7 true (.array .int) := ⟨rfl, by decide +kernel, fun _ => rfl⟩
theorem xt_X6_8 : xFt 6 8 false .int := ⟨rfl, by decide +kernel, fun h => by cases h⟩
theorem xt_X6_9 : xFt 6 9 true (.array .int) := ⟨rfl, by decide +kernel, fun _ => rfl⟩
theorem xt_X6_10 : xFt 6 10 true (.array .boolean) := ⟨rfl, by decide +kernel, fun _ => rfl⟩
theorem xt_X6_11 : xFt 6 11 true (.array .int) := ⟨rfl, by decide +kernel, fun _ => rfl⟩
theorem xt_X6_12 : xFt 6 12 false .int := ⟨rfl, by decide +kernel, fun h => by cases h⟩
theorem xt_X6_13 : xFt 6 13 false .int := ⟨rfl, by decide +kernel, fun h => by cases h⟩
theorem xt_X6_14 : xFt 6 14 true (.array .int) := ⟨rfl, by decide +kernel, fun _ => rfl⟩
theorem xt_X6_15 : xFt 6 15 false .int := ⟨rfl, by decide +kernel, fun h => by cases h⟩
theorem xt_X6_16 : xFt 6 16 false .int := ⟨rfl, by decide +kernel, fun h => by cases h⟩
theorem xt_X6_17 : xFt 6 17 false .int := ⟨rfl, by decide +kernel, fun h => by cases h⟩
theorem xt_X6_18 : xFt 6 18 false .int := ⟨rfl, by decide +kernel, fun h => by cases h⟩
theorem xt_X6_19 : xFt 6 19 false .int := ⟨rfl, by decide +kernel, fun h => by cases h⟩
theorem xt_X6_20 : xFt 6 20 false .int := ⟨rfl, by decide +kernel, fun h => by cases h⟩
theorem xt_X6_21 : xFt 6 21 true (.array .int) := ⟨rfl, by decide +kernel, fun _ => rfl⟩
theorem xt_X6_22 : xFt 6 22 true (.array .int) := ⟨rfl, by decide +kernel, fun _ => rfl⟩
theorem xm_X0_init : xM RX0 yX0_init cX0_init 1 none 0 := ⟨tw_116, tw_4, by decide +kernel⟩
theorem xm_X0_forget : xMV RX0 yX0_forget cX0_forget 1 none 0 := ⟨⟨tw_314, tw_4, by decide +kernel⟩, tw_312, tw_313⟩
theorem xm_X0_keep : xMV RX0 yX0_keep cX0_keep 6 none 4 := ⟨⟨tw_327, tw_4, by decide +kernel⟩, tw_325, tw_326⟩
theorem xm_X0_takeBack : xMV RX0 yX0_takeBack cX0_takeBack 4 none 1 := ⟨⟨tw_380, tw_4, by decide +kernel⟩, tw_378, tw_379⟩
theorem xm_X1_init : xM RX1 yX1_init cX1_init 1 none 0 := ⟨tw_49, tw_3, by decide +kernel⟩
theorem xm_X1_begin : xMV RX1 yX1_begin cX1_begin 1 none 0 := ⟨⟨tw_265, tw_3, by decide +kernel⟩, tw_263, tw_264⟩
theorem xm_X1_takeFrom : xMV RX1 yX1_takeFrom cX1_takeFrom 2 none 1 := ⟨⟨tw_309, tw_3, by decide +kernel⟩, tw_307, tw_308⟩
theorem xm_X1_isCut : xMV RX1 yX1_isCut cX1_isCut 2 (some .boolean) 1 := ⟨⟨tw_339, tw_3, by decide +kernel⟩, tw_337, tw_338⟩
theorem xm_X1_dip : xMV RX1 yX1_dip cX1_dip 5 (some .int) 2 := ⟨⟨tw_343, tw_3, by decide +kernel⟩, tw_341, tw_342⟩
theorem xm_X1_isDown : xMV RX1 yX1_isDown cX1_isDown 3 (some .boolean) 2 := ⟨⟨tw_335, tw_3, by decide +kernel⟩, tw_333, tw_334⟩
theorem xm_X1_downBits : xMV RX1 yX1_downBits cX1_downBits 4 (some .int) 1 := ⟨⟨tw_331, tw_3, by decide +kernel⟩, tw_329, tw_330⟩
theorem xm_X1_place : xMV RX1 yX1_place cX1_place 3 (some .int) 2 := ⟨⟨tw_355, tw_3, by decide +kernel⟩, tw_353, tw_354⟩
theorem xm_X1_offset : xMV RX1 yX1_offset cX1_offset 3 (some .int) 2 := ⟨⟨tw_359, tw_3, by decide +kernel⟩, tw_358, (TT_sel 10 (by decide +kernel) rfl)⟩
theorem xm_X1_swung : xMS RX1 yX1_swung cX1_swung 3 (some .int) 2 := ⟨⟨tw_362, tw_3, by decide +kernel⟩, tw_361⟩
theorem xm_X1_spot : xMV RX1 yX1_spot cX1_spot 3 (some .int) 2 := ⟨⟨tw_407, tw_3, by decide +kernel⟩, tw_405, tw_406⟩
theorem xm_X1_areNear : xMV RX1 yX1_areNear cX1_areNear 3 (some .boolean) 2 := ⟨⟨tw_412, tw_3, by decide +kernel⟩, tw_410, tw_411⟩
theorem xm_X1_nearBits : xMV RX1 yX1_nearBits cX1_nearBits 6 (some .int) 2 := ⟨⟨tw_403, tw_3, by decide +kernel⟩, tw_401, tw_402⟩
theorem xm_X2_init : xM RX2 yX2_init cX2_init 1 none 0 := ⟨tw_142, tw_5, by decide +kernel⟩
theorem xm_X2_foresee : xMV RX2 yX2_foresee cX2_foresee 6 none 2 := ⟨⟨tw_434, tw_5, by decide +kernel⟩, tw_432, tw_433⟩
theorem xm_X2_foreseeAnew : xMV RX2 yX2_foreseeAnew cX2_foreseeAnew 6 none 3 := ⟨⟨tw_477, tw_5, by decide +kernel⟩, tw_475, tw_476⟩
theorem xm_X2_link : xMV RX2 yX2_link cX2_link 6 none 3 := ⟨⟨tw_439, tw_5, by decide +kernel⟩, tw_438, (TT_sel 12 (by decide +kernel) rfl)⟩
theorem xm_X2_spread : xMV RX2 yX2_spread cX2_spread 6 (some .int) 3 := ⟨⟨tw_448, tw_5, by decide +kernel⟩, tw_447, (TT_sel 13 (by decide +kernel) rfl)⟩
theorem xm_X2_holders : xMV RX2 yX2_holders cX2_holders 5 (some .int) 2 := ⟨⟨tw_465, tw_5, by decide +kernel⟩, tw_463, tw_464⟩
theorem xm_X2_arrival : xMV RX2 yX2_arrival cX2_arrival 7 (some .int) 4 := ⟨⟨tw_444, tw_5, by decide +kernel⟩, tw_442, tw_443⟩
theorem xm_X2_fewestHands : xMV RX2 yX2_fewestHands cX2_fewestHands 5 (some .int) 2 := ⟨⟨tw_457, tw_5, by decide +kernel⟩, tw_455, tw_456⟩
theorem xm_X3_init : xM RX3 yX3_init cX3_init 1 none 0 := ⟨tw_160, tw_6, by decide +kernel⟩
theorem xm_X3_begin : xMV RX3 yX3_begin cX3_begin 4 none 2 := ⟨⟨tw_225, tw_6, by decide +kernel⟩, tw_223, tw_224⟩
theorem xm_X3_narrowed : xMV RX3 yX3_narrowed cX3_narrowed 2 (some .int) 1 := ⟨⟨tw_233, tw_6, by decide +kernel⟩, tw_231, tw_232⟩
theorem xm_X3_hasSpan : xMV RX3 yX3_hasSpan cX3_hasSpan 3 (some .boolean) 2 := ⟨⟨tw_241, tw_6, by decide +kernel⟩, tw_239, tw_240⟩
theorem xm_X4_init : xM RX4 yX4_init cX4_init 1 none 0 := ⟨tw_25, tw_2, by decide +kernel⟩
theorem xm_X4_readInto : xMV RX4 yX4_readInto cX4_readInto 3 (some .boolean) 1 := ⟨⟨tw_261, tw_2, by decide +kernel⟩, tw_259, tw_260⟩
theorem xm_X4_readLaw : xMV RX4 yX4_readLaw cX4_readLaw 2 (some .boolean) 1 := ⟨⟨tw_269, tw_2, by decide +kernel⟩, tw_268, (TT_sel 1 (by decide +kernel) rfl)⟩
theorem xm_X4_readHammock : xMV RX4 yX4_readHammock cX4_readHammock 4 (some .boolean) 1 := ⟨⟨tw_293, tw_2, by decide +kernel⟩, tw_292, (TT_sel 6 (by decide +kernel) rfl)⟩
theorem xm_X4_readTrees : xMV RX4 yX4_readTrees cX4_readTrees 3 (some .boolean) 2 := ⟨⟨tw_300, tw_2, by decide +kernel⟩, tw_299, (TT_sel 7 (by decide +kernel) rfl)⟩
theorem xm_X4_readLoad : xMV RX4 yX4_readLoad cX4_readLoad 3 (some .boolean) 2 := ⟨⟨tw_304, tw_2, by decide +kernel⟩, tw_303, (TT_sel 8 (by decide +kernel) rfl)⟩
theorem xm_X4_readSign : xMV RX4 yX4_readSign cX4_readSign 2 (some .boolean) 1 := ⟨⟨tw_273, tw_2, by decide +kernel⟩, tw_272, (TT_sel 2 (by decide +kernel) rfl)⟩
theorem xm_X4_readNumber : xMV RX4 yX4_readNumber cX4_readNumber 6 (some .int) 2 := ⟨⟨tw_286, tw_2, by decide +kernel⟩, tw_285, (TT_sel 5 (by decide +kernel) rfl)⟩
theorem xm_X4_refuse : xMV RX4 yX4_refuse cX4_refuse 2 (some .boolean) 1 := ⟨⟨tw_282, tw_2, by decide +kernel⟩, tw_281, (TT_sel 4 (by decide +kernel) rfl)⟩
theorem xm_X4_byteAt : xMV RX4 yX4_byteAt cX4_byteAt 2 (some .int) 1 := ⟨⟨tw_277, tw_2, by decide +kernel⟩, tw_276, (TT_sel 3 (by decide +kernel) rfl)⟩
theorem xm_X4_isFigure : xMS RX4 yX4_isFigure cX4_isFigure 1 (some .boolean) 1 := ⟨⟨tw_289, tw_2, by decide +kernel⟩, tw_288⟩
theorem xm_X4_sortOf : xMS RX4 yX4_sortOf cX4_sortOf 1 (some .int) 1 := ⟨⟨tw_296, tw_2, by decide +kernel⟩, tw_295⟩
theorem xm_X5_init : xM RX5 yX5_init cX5_init 2 none 0 := ⟨tw_15, tw_1, by decide +kernel⟩
theorem xm_X5_row : xMV RX5 yX5_row cX5_row 4 (some .int) 3 := ⟨⟨tw_209, tw_1, by decide +kernel⟩, tw_207, tw_208⟩
theorem xm_X5_set : xMV RX5 yX5_set cX5_set 5 (some .int) 3 := ⟨⟨tw_229, tw_1, by decide +kernel⟩, tw_227, tw_228⟩
theorem xm_X5_copy : xMV RX5 yX5_copy cX5_copy 8 (some .int) 5 := ⟨⟨tw_237, tw_1, by decide +kernel⟩, tw_235, tw_236⟩
theorem xm_X5_drop : xMV RX5 yX5_drop cX5_drop 3 (some .int) 1 := ⟨⟨tw_248, tw_1, by decide +kernel⟩, tw_246, tw_247⟩
theorem xm_X5_feed : xMV RX5 yX5_feed cX5_feed 2 (some .int) 1 := ⟨⟨tw_252, tw_1, by decide +kernel⟩, tw_250, tw_251⟩
theorem xm_X5_forest : xMV RX5 yX5_forest cX5_forest 2 (some .int) 0 := ⟨⟨tw_257, tw_1, by decide +kernel⟩, tw_255, tw_256⟩
theorem xm_X5_fault : xMV RX5 yX5_fault cX5_fault 1 (some .int) 0 := ⟨⟨tw_318, tw_1, by decide +kernel⟩, tw_316, tw_317⟩
theorem xm_X5_minutes : xMV RX5 yX5_minutes cX5_minutes 3 (some .int) 1 := ⟨⟨tw_322, tw_1, by decide +kernel⟩, tw_320, tw_321⟩
theorem xm_X5_sling : xMV RX5 yX5_sling cX5_sling 4 (some .int) 3 := ⟨⟨tw_347, tw_1, by decide +kernel⟩, tw_345, tw_346⟩
theorem xm_X5_load : xMV RX5 yX5_load cX5_load 3 (some .int) 2 := ⟨⟨tw_366, tw_1, by decide +kernel⟩, tw_364, tw_365⟩
theorem xm_X5_cord : xMV RX5 yX5_cord cX5_cord 3 (some .int) 2 := ⟨⟨tw_371, tw_1, by decide +kernel⟩, tw_369, tw_370⟩
theorem xm_X5_undo : xMV RX5 yX5_undo cX5_undo 1 (some .int) 0 := ⟨⟨tw_376, tw_1, by decide +kernel⟩, tw_374, tw_375⟩
theorem xm_X5_hammock : xMV RX5 yX5_hammock cX5_hammock 3 (some .int) 2 := ⟨⟨tw_384, tw_1, by decide +kernel⟩, tw_382, tw_383⟩
theorem xm_X5_ahead : xMV RX5 yX5_ahead cX5_ahead 5 (some .int) 3 := ⟨⟨tw_388, tw_1, by decide +kernel⟩, tw_386, tw_387⟩
theorem xm_X5_down : xMV RX5 yX5_down cX5_down 2 (some .int) 1 := ⟨⟨tw_395, tw_1, by decide +kernel⟩, tw_393, tw_394⟩
theorem xm_X5_reach : xMV RX5 yX5_reach cX5_reach 3 (some .int) 2 := ⟨⟨tw_399, tw_1, by decide +kernel⟩, tw_397, tw_398⟩
theorem xm_X5_meet : xMV RX5 yX5_meet cX5_meet 4 (some .int) 2 := ⟨⟨tw_419, tw_1, by decide +kernel⟩, tw_417, tw_418⟩
theorem xm_X5_soonest : xMV RX5 yX5_soonest cX5_soonest 3 (some .int) 2 := ⟨⟨tw_430, tw_1, by decide +kernel⟩, tw_428, tw_429⟩
theorem xm_X5_hands : xMV RX5 yX5_hands cX5_hands 3 (some .int) 2 := ⟨⟨tw_453, tw_1, by decide +kernel⟩, tw_451, tw_452⟩
theorem xm_X5_everywhere : xMV RX5 yX5_everywhere cX5_everywhere 3 (some .int) 2 := ⟨⟨tw_461, tw_1, by decide +kernel⟩, tw_459, tw_460⟩
theorem xm_X5_stops : xMV RX5 yX5_stops cX5_stops 6 (some .int) 3 := ⟨⟨tw_469, tw_1, by decide +kernel⟩, tw_467, tw_468⟩
theorem xm_X5_toSling : xMV RX5 yX5_toSling cX5_toSling 10 (some .int) 4 := ⟨⟨tw_473, tw_1, by decide +kernel⟩, tw_471, tw_472⟩
theorem xm_X5_fits : xMV RX5 yX5_fits cX5_fits 7 (some .int) 5 := ⟨⟨tw_481, tw_1, by decide +kernel⟩, tw_479, tw_480⟩
theorem xm_X5_breaks : xMV RX5 yX5_breaks cX5_breaks 9 (some .int) 5 := ⟨⟨tw_505, tw_1, by decide +kernel⟩, tw_503, tw_504⟩
theorem xm_X5_image : xMV RX5 yX5_image cX5_image 2 (some .int) 1 := ⟨⟨tw_520, tw_1, by decide +kernel⟩, tw_518, tw_519⟩
theorem xm_X5_restore : xMV RX5 yX5_restore cX5_restore 2 (some .int) 1 := ⟨⟨tw_524, tw_1, by decide +kernel⟩, tw_522, tw_523⟩
theorem xm_X5_kind : xMV RX5 yX5_kind cX5_kind 2 (some .int) 1 := ⟨⟨tw_528, tw_1, by decide +kernel⟩, tw_526, tw_527⟩
theorem xm_X5_as : xMV RX5 yX5_as cX5_as 3 (some .int) 2 := ⟨⟨tw_532, tw_1, by decide +kernel⟩, tw_530, tw_531⟩
theorem xm_X5_ask : xMV RX5 yX5_ask cX5_ask 3 (some .int) 2 := ⟨⟨tw_541, tw_1, by decide +kernel⟩, tw_539, tw_540⟩
theorem xm_X5_trace : xMV RX5 yX5_trace cX5_trace 2 (some .int) 1 := ⟨⟨tw_560, tw_1, by decide +kernel⟩, tw_558, tw_559⟩
theorem xm_X5_count : xMV RX5 yX5_count cX5_count 2 (some .int) 1 := ⟨⟨tw_564, tw_1, by decide +kernel⟩, tw_562, tw_563⟩
theorem xm_X5_status : xMV RX5 yX5_status cX5_status 1 (some .int) 0 := ⟨⟨tw_578, tw_1, by decide +kernel⟩, tw_576, tw_577⟩
theorem xm_X5_isBelow : xMS RX5 yX5_isBelow cX5_isBelow 2 (some .boolean) 2 := ⟨⟨tw_215, tw_1, by decide +kernel⟩, tw_214⟩
theorem xm_X5_isRow : xMS RX5 yX5_isRow cX5_isRow 1 (some .boolean) 1 := ⟨⟨tw_212, tw_1, by decide +kernel⟩, tw_211⟩
theorem xm_X5_isAhead : xMS RX5 yX5_isAhead cX5_isAhead 1 (some .boolean) 1 := ⟨⟨tw_391, tw_1, by decide +kernel⟩, tw_390⟩
theorem xm_X5_isHammock : xMV RX5 yX5_isHammock cX5_isHammock 2 (some .boolean) 1 := ⟨⟨tw_351, tw_1, by decide +kernel⟩, tw_350, (TT_sel 9 (by decide +kernel) rfl)⟩
theorem xm_X5_areTwo : xMV RX5 yX5_areTwo cX5_areTwo 3 (some .boolean) 2 := ⟨⟨tw_423, tw_1, by decide +kernel⟩, tw_422, (TT_sel 11 (by decide +kernel) rfl)⟩
theorem xm_X5_finds : xMV RX5 yX5_finds cX5_finds 2 (some .int) 1 := ⟨⟨tw_220, tw_1, by decide +kernel⟩, tw_219, (TT_sel 0 (by decide +kernel) rfl)⟩
theorem xm_X5_countRows : xMV RX5 yX5_countRows cX5_countRows 3 (some .int) 0 := ⟨⟨tw_568, tw_1, by decide +kernel⟩, tw_567, (TT_sel 23 (by decide +kernel) rfl)⟩
theorem xm_X5_fittingKinds : xMV RX5 yX5_fittingKinds cX5_fittingKinds 7 (some .int) 4 := ⟨⟨tw_485, tw_1, by decide +kernel⟩, tw_484, (TT_sel 14 (by decide +kernel) rfl)⟩
theorem xm_X5_fittingSwings : xMV RX5 yX5_fittingSwings cX5_fittingSwings 7 (some .int) 4 := ⟨⟨tw_493, tw_1, by decide +kernel⟩, tw_492, (TT_sel 16 (by decide +kernel) rfl)⟩
theorem xm_X5_fittingWeights : xMV RX5 yX5_fittingWeights cX5_fittingWeights 7 (some .int) 4 := ⟨⟨tw_497, tw_1, by decide +kernel⟩, tw_496, (TT_sel 17 (by decide +kernel) rfl)⟩
theorem xm_X5_wasThere : xMV RX5 yX5_wasThere cX5_wasThere 6 (some .boolean) 4 := ⟨⟨tw_489, tw_1, by decide +kernel⟩, tw_488, (TT_sel 15 (by decide +kernel) rfl)⟩
theorem xm_X5_wasReached : xMV RX5 yX5_wasReached cX5_wasReached 6 (some .boolean) 4 := ⟨⟨tw_501, tw_1, by decide +kernel⟩, tw_500, (TT_sel 18 (by decide +kernel) rfl)⟩
theorem xm_X5_partsOf : xMV RX5 yX5_partsOf cX5_partsOf 5 (some .int) 2 := ⟨⟨tw_509, tw_1, by decide +kernel⟩, tw_508, (TT_sel 19 (by decide +kernel) rfl)⟩
theorem xm_X5_partsOfAll : xMV RX5 yX5_partsOfAll cX5_partsOfAll 3 (some .int) 0 := ⟨⟨tw_513, tw_1, by decide +kernel⟩, tw_512, (TT_sel 20 (by decide +kernel) rfl)⟩
theorem xm_X5_commonDivisor : xMS RX5 yX5_commonDivisor cX5_commonDivisor 6 (some .int) 2 := ⟨⟨tw_516, tw_1, by decide +kernel⟩, tw_515⟩
theorem xm_X5_isOfKind : xMS RX5 yX5_isOfKind cX5_isOfKind 4 (some .boolean) 2 := ⟨⟨tw_535, tw_1, by decide +kernel⟩, tw_534⟩
theorem xm_X5_nearestBody : xMS RX5 yX5_nearestBody cX5_nearestBody 5 (some .int) 2 := ⟨⟨tw_548, tw_1, by decide +kernel⟩, tw_547⟩
theorem xm_X5_answer : xMV RX5 yX5_answer cX5_answer 4 (some .int) 3 := ⟨⟨tw_545, tw_1, by decide +kernel⟩, tw_544, (TT_sel 21 (by decide +kernel) rfl)⟩
theorem xm_X5_body : xMV RX5 yX5_body cX5_body 5 (some .int) 3 := ⟨⟨tw_556, tw_1, by decide +kernel⟩, tw_555, (TT_sel 22 (by decide +kernel) rfl)⟩
theorem xm_X6_init : xM RX6 yX6_init cX6_init 2 none 0 := ⟨tw_583, tw_7, by decide +kernel⟩
theorem xm_X6_in : xMS RX6 yX6_in cX6_in 6 (some .boolean) 3 := ⟨⟨tw_666, tw_7, by decide +kernel⟩, tw_665⟩
theorem xm_X6_found : xMV RX6 yX6_found cX6_found 2 (some .int) 1 := ⟨⟨tw_672, tw_7, by decide +kernel⟩, tw_671, (TT_sel 24 (by decide +kernel) rfl)⟩
theorem xm_X6_well : xMV RX6 yX6_well cX6_well 2 (some .int) 1 := ⟨⟨tw_677, tw_7, by decide +kernel⟩, tw_676, (TT_sel 25 (by decide +kernel) rfl)⟩
theorem xm_X6_isRow : xMS RX6 yX6_isRow cX6_isRow 1 (some .boolean) 1 := ⟨⟨tw_662, tw_7, by decide +kernel⟩, tw_661⟩
theorem xm_X6_row : xMV RX6 yX6_row cX6_row 5 (some .int) 3 := ⟨⟨tw_659, tw_7, by decide +kernel⟩, tw_657, tw_658⟩
theorem xm_X6_set : xMV RX6 yX6_set cX6_set 4 (some .int) 3 := ⟨⟨tw_681, tw_7, by decide +kernel⟩, tw_679, tw_680⟩
theorem xm_X6_copy : xMV RX6 yX6_copy cX6_copy 8 (some .int) 5 := ⟨⟨tw_685, tw_7, by decide +kernel⟩, tw_683, tw_684⟩
theorem xm_X6_drop : xMV RX6 yX6_drop cX6_drop 3 (some .int) 1 := ⟨⟨tw_689, tw_7, by decide +kernel⟩, tw_687, tw_688⟩
theorem xm_X6_feed : xMV RX6 yX6_feed cX6_feed 2 (some .int) 1 := ⟨⟨tw_693, tw_7, by decide +kernel⟩, tw_691, tw_692⟩
theorem xm_X6_here : xMV RX6 yX6_here cX6_here 1 (some .int) 0 := ⟨⟨tw_711, tw_7, by decide +kernel⟩, tw_710, (TT_sel 28 (by decide +kernel) rfl)⟩
theorem xm_X6_step : xMV RX6 yX6_step cX6_step 1 none 0 := ⟨⟨tw_707, tw_7, by decide +kernel⟩, tw_706, (TT_sel 27 (by decide +kernel) rfl)⟩
theorem xm_X6_fails : xMV RX6 yX6_fails cX6_fails 2 (some .boolean) 1 := ⟨⟨tw_719, tw_7, by decide +kernel⟩, tw_718, (TT_sel 29 (by decide +kernel) rfl)⟩
theorem xm_X6_number : xMV RX6 yX6_number cX6_number 5 (some .boolean) 4 := ⟨⟨tw_723, tw_7, by decide +kernel⟩, tw_722, (TT_sel 30 (by decide +kernel) rfl)⟩
theorem xm_X6_sortOf : xMS RX6 yX6_sortOf cX6_sortOf 1 (some .int) 1 := ⟨⟨tw_730, tw_7, by decide +kernel⟩, tw_729⟩
theorem xm_X6_readsHammock : xMV RX6 yX6_readsHammock cX6_readsHammock 3 (some .boolean) 0 := ⟨⟨tw_727, tw_7, by decide +kernel⟩, tw_726, (TT_sel 31 (by decide +kernel) rfl)⟩
theorem xm_X6_reads : xMV RX6 yX6_reads cX6_reads 2 (some .boolean) 0 := ⟨⟨tw_703, tw_7, by decide +kernel⟩, tw_702, (TT_sel 26 (by decide +kernel) rfl)⟩
theorem xm_X6_forest : xMV RX6 yX6_forest cX6_forest 2 (some .int) 0 := ⟨⟨tw_699, tw_7, by decide +kernel⟩, tw_697, tw_698⟩
theorem xm_X6_fault : xMV RX6 yX6_fault cX6_fault 1 (some .int) 0 := ⟨⟨tw_738, tw_7, by decide +kernel⟩, tw_736, tw_737⟩
theorem xm_X6_copies : xMS RX6 yX6_copies cX6_copies 5 none 4 := ⟨⟨tw_734, tw_7, by decide +kernel⟩, tw_733⟩
theorem xm_X6_has : xMS RX6 yX6_has cX6_has 2 (some .boolean) 2 := ⟨⟨tw_761, tw_7, by decide +kernel⟩, tw_760⟩
theorem xm_X6_dip : xMS RX6 yX6_dip cX6_dip 5 (some .int) 3 := ⟨⟨tw_764, tw_7, by decide +kernel⟩, tw_763⟩
theorem xm_X6_swung : xMS RX6 yX6_swung cX6_swung 3 (some .int) 2 := ⟨⟨tw_779, tw_7, by decide +kernel⟩, tw_778⟩
theorem xm_X6_where : xMS RX6 yX6_where cX6_where 6 (some .int) 3 := ⟨⟨tw_776, tw_7, by decide +kernel⟩, tw_775⟩
theorem xm_X6_isDown : xMS RX6 yX6_isDown cX6_isDown 3 (some .boolean) 3 := ⟨⟨tw_758, tw_7, by decide +kernel⟩, tw_757⟩
theorem xm_X6_downOf : xMS RX6 yX6_downOf cX6_downOf 4 (some .int) 2 := ⟨⟨tw_755, tw_7, by decide +kernel⟩, tw_754⟩
theorem xm_X6_areNear : xMS RX6 yX6_areNear cX6_areNear 5 (some .boolean) 4 := ⟨⟨tw_821, tw_7, by decide +kernel⟩, tw_820⟩
theorem xm_X6_reachOf : xMS RX6 yX6_reachOf cX6_reachOf 5 (some .int) 3 := ⟨⟨tw_818, tw_7, by decide +kernel⟩, tw_817⟩
theorem xm_X6_spread : xMS RX6 yX6_spread cX6_spread 7 (some .int) 3 := ⟨⟨tw_848, tw_7, by decide +kernel⟩, tw_847⟩
theorem xm_X6_soonestOf : xMS RX6 yX6_soonestOf cX6_soonestOf 7 (some .int) 3 := ⟨⟨tw_833, tw_7, by decide +kernel⟩, tw_832⟩
theorem xm_X6_isForest : xMV RX6 yX6_isForest cX6_isForest 1 (some .boolean) 0 := ⟨⟨tw_746, tw_7, by decide +kernel⟩, tw_745, (TT_sel 32 (by decide +kernel) rfl)⟩
theorem xm_X6_isHammock : xMV RX6 yX6_isHammock cX6_isHammock 2 (some .boolean) 1 := ⟨⟨tw_772, tw_7, by decide +kernel⟩, tw_771, (TT_sel 34 (by decide +kernel) rfl)⟩
theorem xm_X6_isTwo : xMS RX6 yX6_isTwo cX6_isTwo 1 (some .boolean) 1 := ⟨⟨tw_791, tw_7, by decide +kernel⟩, tw_790⟩
theorem xm_X6_isSpan : xMS RX6 yX6_isSpan cX6_isSpan 1 (some .boolean) 1 := ⟨⟨tw_806, tw_7, by decide +kernel⟩, tw_805⟩
theorem xm_X6_remember : xMV RX6 yX6_remember cX6_remember 2 none 0 := ⟨⟨tw_752, tw_7, by decide +kernel⟩, tw_751, (TT_sel 33 (by decide +kernel) rfl)⟩
theorem xm_X6_minutes : xMV RX6 yX6_minutes cX6_minutes 3 (some .int) 1 := ⟨⟨tw_742, tw_7, by decide +kernel⟩, tw_740, tw_741⟩
theorem xm_X6_sling : xMV RX6 yX6_sling cX6_sling 4 (some .int) 3 := ⟨⟨tw_768, tw_7, by decide +kernel⟩, tw_766, tw_767⟩
theorem xm_X6_load : xMV RX6 yX6_load cX6_load 3 (some .int) 2 := ⟨⟨tw_783, tw_7, by decide +kernel⟩, tw_781, tw_782⟩
theorem xm_X6_cord : xMV RX6 yX6_cord cX6_cord 3 (some .int) 2 := ⟨⟨tw_788, tw_7, by decide +kernel⟩, tw_786, tw_787⟩
theorem xm_X6_undo : xMV RX6 yX6_undo cX6_undo 1 (some .int) 0 := ⟨⟨tw_795, tw_7, by decide +kernel⟩, tw_793, tw_794⟩
theorem xm_X6_hammock : xMV RX6 yX6_hammock cX6_hammock 3 (some .int) 2 := ⟨⟨tw_799, tw_7, by decide +kernel⟩, tw_797, tw_798⟩
theorem xm_X6_ahead : xMV RX6 yX6_ahead cX6_ahead 4 (some .int) 3 := ⟨⟨tw_803, tw_7, by decide +kernel⟩, tw_801, tw_802⟩
theorem xm_X6_down : xMV RX6 yX6_down cX6_down 2 (some .int) 1 := ⟨⟨tw_811, tw_7, by decide +kernel⟩, tw_809, tw_810⟩
theorem xm_X6_reach : xMV RX6 yX6_reach cX6_reach 3 (some .int) 2 := ⟨⟨tw_815, tw_7, by decide +kernel⟩, tw_813, tw_814⟩
theorem xm_X6_meet : xMV RX6 yX6_meet cX6_meet 4 (some .int) 2 := ⟨⟨tw_825, tw_7, by decide +kernel⟩, tw_823, tw_824⟩
theorem xm_X6_told : xMS RX6 yX6_told cX6_told 1 (some .int) 1 := ⟨⟨tw_837, tw_7, by decide +kernel⟩, tw_836⟩
theorem xm_X6_soonest : xMV RX6 yX6_soonest cX6_soonest 3 (some .int) 2 := ⟨⟨tw_830, tw_7, by decide +kernel⟩, tw_828, tw_829⟩
theorem xm_X6_hands : xMV RX6 yX6_hands cX6_hands 7 (some .int) 2 := ⟨⟨tw_841, tw_7, by decide +kernel⟩, tw_839, tw_840⟩
theorem xm_X6_everywhere : xMV RX6 yX6_everywhere cX6_everywhere 3 (some .int) 2 := ⟨⟨tw_845, tw_7, by decide +kernel⟩, tw_843, tw_844⟩
theorem xm_X6_layAside : xMV RX6 yX6_layAside cX6_layAside 1 none 0 := ⟨⟨tw_856, tw_7, by decide +kernel⟩, tw_855, (TT_sel 35 (by decide +kernel) rfl)⟩
theorem xm_X6_stops : xMV RX6 yX6_stops cX6_stops 6 (some .int) 3 := ⟨⟨tw_852, tw_7, by decide +kernel⟩, tw_850, tw_851⟩
theorem xm_X6_toSling : xMV RX6 yX6_toSling cX6_toSling 10 (some .int) 4 := ⟨⟨tw_860, tw_7, by decide +kernel⟩, tw_858, tw_859⟩
theorem xm_X6_fits : xMV RX6 yX6_fits cX6_fits 14 (some .int) 5 := ⟨⟨tw_864, tw_7, by decide +kernel⟩, tw_862, tw_863⟩
theorem xm_X6_breaks : xMV RX6 yX6_breaks cX6_breaks 16 (some .int) 5 := ⟨⟨tw_869, tw_7, by decide +kernel⟩, tw_867, tw_868⟩
theorem xm_X6_image : xMV RX6 yX6_image cX6_image 2 (some .int) 1 := ⟨⟨tw_874, tw_7, by decide +kernel⟩, tw_872, tw_873⟩
theorem xm_X6_restore : xMV RX6 yX6_restore cX6_restore 2 (some .int) 1 := ⟨⟨tw_878, tw_7, by decide +kernel⟩, tw_876, tw_877⟩
theorem xm_X6_kind : xMV RX6 yX6_kind cX6_kind 2 (some .int) 1 := ⟨⟨tw_882, tw_7, by decide +kernel⟩, tw_880, tw_881⟩
theorem xm_X6_isOf : xMS RX6 yX6_isOf cX6_isOf 2 (some .boolean) 2 := ⟨⟨tw_890, tw_7, by decide +kernel⟩, tw_889⟩
theorem xm_X6_as : xMV RX6 yX6_as cX6_as 3 (some .int) 2 := ⟨⟨tw_886, tw_7, by decide +kernel⟩, tw_884, tw_885⟩
theorem xm_X6_leave : xMV RX6 yX6_leave cX6_leave 7 none 1 := ⟨⟨tw_905, tw_7, by decide +kernel⟩, tw_904, (TT_sel 37 (by decide +kernel) rfl)⟩
theorem xm_X6_mark : xMV RX6 yX6_mark cX6_mark 4 (some .int) 1 := ⟨⟨tw_898, tw_7, by decide +kernel⟩, tw_897, (TT_sel 36 (by decide +kernel) rfl)⟩
theorem xm_X6_sizeOf : xMV RX6 yX6_sizeOf cX6_sizeOf 4 (some .int) 1 := ⟨⟨tw_912, tw_7, by decide +kernel⟩, tw_911, (TT_sel 38 (by decide +kernel) rfl)⟩
theorem xm_X6_ask : xMV RX6 yX6_ask cX6_ask 5 (some .int) 2 := ⟨⟨tw_894, tw_7, by decide +kernel⟩, tw_892, tw_893⟩
theorem xm_X6_trace : xMV RX6 yX6_trace cX6_trace 2 (some .int) 1 := ⟨⟨tw_919, tw_7, by decide +kernel⟩, tw_917, tw_918⟩
theorem xm_X6_count : xMV RX6 yX6_count cX6_count 5 (some .int) 1 := ⟨⟨tw_923, tw_7, by decide +kernel⟩, tw_921, tw_922⟩
theorem xm_X6_status : xMV RX6 yX6_status cX6_status 1 (some .int) 0 := ⟨⟨tw_927, tw_7, by decide +kernel⟩, tw_925, tw_926⟩
theorem xm_J6_bitCount_0f7a4 : xMS RJ6 yJ6_bitCount_0f7a4 cJ6_bitCount_0f7a4 1 (some .int) 1 := ⟨⟨tw_571, tw_10, by decide +kernel⟩, tw_570⟩
theorem xm_J9_abs_0f7a4 : xMS RJ9 yJ9_abs_0f7a4 cJ9_abs_0f7a4 1 (some .int) 1 := ⟨⟨tw_415, tw_9, by decide +kernel⟩, tw_414⟩
theorem xk_L_9 : Cond.methodLink RL 9 yX5_init ∈ TT := tw_13
theorem xk_L_13 : Cond.methodLink RL 13 yX5_row ∈ TT := tw_206
theorem xk_X5_55 : Cond.methodLink RX5 55 yX5_isRow ∈ TT := tw_210
theorem xk_X5_59 : Cond.methodLink RX5 59 yX5_isBelow ∈ TT := tw_213
theorem xk_X5_64 : Cond.methodLink RX5 64 yX5_finds ∈ TT := tw_217
theorem xk_X5_72 : Cond.methodLink RX5 72 yX3_begin ∈ TT := tw_222
theorem xk_L_18 : Cond.methodLink RL 18 yX5_set ∈ TT := tw_226
theorem xk_X5_85 : Cond.methodLink RX5 85 yX3_narrowed ∈ TT := tw_230
theorem xk_L_22 : Cond.methodLink RL 22 yX5_copy ∈ TT := tw_234
theorem xk_X5_88 : Cond.methodLink RX5 88 yX3_hasSpan ∈ TT := tw_238
theorem xk_L_27 : Cond.methodLink RL 27 yX5_drop ∈ TT := tw_245
theorem xk_L_32 : Cond.methodLink RL 32 yX5_feed ∈ TT := tw_249
theorem xk_L_36 : Cond.methodLink RL 36 yX5_forest ∈ TT := tw_254
theorem xk_X5_104 : Cond.methodLink RX5 104 yX4_readInto ∈ TT := tw_258
theorem xk_X4_19 : Cond.methodLink RX4 19 yX1_begin ∈ TT := tw_262
theorem xk_X4_24 : Cond.methodLink RX4 24 yX4_readLaw ∈ TT := tw_266
theorem xk_X4_34 : Cond.methodLink RX4 34 yX4_readSign ∈ TT := tw_270
theorem xk_X4_51 : Cond.methodLink RX4 51 yX4_byteAt ∈ TT := tw_274
theorem xk_X4_58 : Cond.methodLink RX4 58 yX4_refuse ∈ TT := tw_279
theorem xk_X4_38 : Cond.methodLink RX4 38 yX4_readNumber ∈ TT := tw_283
theorem xk_X4_83 : Cond.methodLink RX4 83 yX4_isFigure ∈ TT := tw_287
theorem xk_X4_31 : Cond.methodLink RX4 31 yX4_readHammock ∈ TT := tw_290
theorem xk_X4_55 : Cond.methodLink RX4 55 yX4_sortOf ∈ TT := tw_294
theorem xk_X4_64 : Cond.methodLink RX4 64 yX4_readTrees ∈ TT := tw_297
theorem xk_X4_68 : Cond.methodLink RX4 68 yX4_readLoad ∈ TT := tw_301
theorem xk_X5_112 : Cond.methodLink RX5 112 yX1_takeFrom ∈ TT := tw_306
theorem xk_X5_116 : Cond.methodLink RX5 116 yX0_forget ∈ TT := tw_311
theorem xk_L_41 : Cond.methodLink RL 41 yX5_fault ∈ TT := tw_315
theorem xk_L_45 : Cond.methodLink RL 45 yX5_minutes ∈ TT := tw_319
theorem xk_X5_131 : Cond.methodLink RX5 131 yX0_keep ∈ TT := tw_324
theorem xk_X5_135 : Cond.methodLink RX5 135 yX1_downBits ∈ TT := tw_328
theorem xk_X1_61 : Cond.methodLink RX1 61 yX1_isDown ∈ TT := tw_332
theorem xk_X1_53 : Cond.methodLink RX1 53 yX1_isCut ∈ TT := tw_336
theorem xk_X1_57 : Cond.methodLink RX1 57 yX1_dip ∈ TT := tw_340
theorem xk_L_49 : Cond.methodLink RL 49 yX5_sling ∈ TT := tw_344
theorem xk_X5_138 : Cond.methodLink RX5 138 yX5_isHammock ∈ TT := tw_348
theorem xk_X5_147 : Cond.methodLink RX5 147 yX1_place ∈ TT := tw_352
theorem xk_X1_65 : Cond.methodLink RX1 65 yX1_offset ∈ TT := tw_356
theorem xk_X1_68 : Cond.methodLink RX1 68 yX1_swung ∈ TT := tw_360
theorem xk_L_53 : Cond.methodLink RL 53 yX5_load ∈ TT := tw_363
theorem xk_X5_154 : Cond.methodLink RX5 154 yX1_dip ∈ TT := tw_367
theorem xk_L_58 : Cond.methodLink RL 58 yX5_cord ∈ TT := tw_368
theorem xk_X5_157 : Cond.methodLink RX5 157 yX1_isCut ∈ TT := tw_372
theorem xk_L_62 : Cond.methodLink RL 62 yX5_undo ∈ TT := tw_373
theorem xk_X5_166 : Cond.methodLink RX5 166 yX0_takeBack ∈ TT := tw_377
theorem xk_L_66 : Cond.methodLink RL 66 yX5_hammock ∈ TT := tw_381
theorem xk_L_70 : Cond.methodLink RL 70 yX5_ahead ∈ TT := tw_385
theorem xk_X5_172 : Cond.methodLink RX5 172 yX5_isAhead ∈ TT := tw_389
theorem xk_L_74 : Cond.methodLink RL 74 yX5_down ∈ TT := tw_392
theorem xk_L_78 : Cond.methodLink RL 78 yX5_reach ∈ TT := tw_396
theorem xk_X5_175 : Cond.methodLink RX5 175 yX1_nearBits ∈ TT := tw_400
theorem xk_X1_80 : Cond.methodLink RX1 80 yX1_spot ∈ TT := tw_404
theorem xk_X1_71 : Cond.methodLink RX1 71 yX1_place ∈ TT := tw_408
theorem xk_X1_83 : Cond.methodLink RX1 83 yX1_areNear ∈ TT := tw_409
theorem xk_X1_74 : Cond.methodLink RX1 74 yJ9_abs_0f7a4 ∈ TT := tw_413
theorem xk_L_82 : Cond.methodLink RL 82 yX5_meet ∈ TT := tw_416
theorem xk_X5_178 : Cond.methodLink RX5 178 yX5_areTwo ∈ TT := tw_420
theorem xk_X5_181 : Cond.methodLink RX5 181 yX1_spot ∈ TT := tw_424
theorem xk_X5_184 : Cond.methodLink RX5 184 yX1_areNear ∈ TT := tw_425
theorem xk_L_86 : Cond.methodLink RL 86 yX5_soonest ∈ TT := tw_427
theorem xk_X5_188 : Cond.methodLink RX5 188 yX2_foresee ∈ TT := tw_431
theorem xk_X2_31 : Cond.methodLink RX2 31 yX1_spot ∈ TT := tw_435
theorem xk_X2_35 : Cond.methodLink RX2 35 yX2_link ∈ TT := tw_436
theorem xk_X2_39 : Cond.methodLink RX2 39 yX1_areNear ∈ TT := tw_440
theorem xk_X5_192 : Cond.methodLink RX5 192 yX2_arrival ∈ TT := tw_441
theorem xk_X2_43 : Cond.methodLink RX2 43 yX2_spread ∈ TT := tw_445
theorem xk_L_90 : Cond.methodLink RL 90 yX5_hands ∈ TT := tw_450
theorem xk_X5_196 : Cond.methodLink RX5 196 yX2_fewestHands ∈ TT := tw_454
theorem xk_L_94 : Cond.methodLink RL 94 yX5_everywhere ∈ TT := tw_458
theorem xk_X5_199 : Cond.methodLink RX5 199 yX2_holders ∈ TT := tw_462
theorem xk_L_98 : Cond.methodLink RL 98 yX5_stops ∈ TT := tw_466
theorem xk_L_102 : Cond.methodLink RL 102 yX5_toSling ∈ TT := tw_470
theorem xk_X5_202 : Cond.methodLink RX5 202 yX2_foreseeAnew ∈ TT := tw_474
theorem xk_L_107 : Cond.methodLink RL 107 yX5_fits ∈ TT := tw_478
theorem xk_X5_206 : Cond.methodLink RX5 206 yX5_fittingKinds ∈ TT := tw_482
theorem xk_X5_254 : Cond.methodLink RX5 254 yX5_wasThere ∈ TT := tw_486
theorem xk_X5_210 : Cond.methodLink RX5 210 yX5_fittingSwings ∈ TT := tw_490
theorem xk_X5_213 : Cond.methodLink RX5 213 yX5_fittingWeights ∈ TT := tw_494
theorem xk_X5_258 : Cond.methodLink RX5 258 yX5_wasReached ∈ TT := tw_498
theorem xk_L_111 : Cond.methodLink RL 111 yX5_breaks ∈ TT := tw_502
theorem xk_X5_216 : Cond.methodLink RX5 216 yX5_partsOf ∈ TT := tw_506
theorem xk_X5_219 : Cond.methodLink RX5 219 yX5_partsOfAll ∈ TT := tw_510
theorem xk_X5_223 : Cond.methodLink RX5 223 yX5_commonDivisor ∈ TT := tw_514
theorem xk_L_115 : Cond.methodLink RL 115 yX5_image ∈ TT := tw_517
theorem xk_L_119 : Cond.methodLink RL 119 yX5_restore ∈ TT := tw_521
theorem xk_L_123 : Cond.methodLink RL 123 yX5_kind ∈ TT := tw_525
theorem xk_L_127 : Cond.methodLink RL 127 yX5_as ∈ TT := tw_529
theorem xk_X5_229 : Cond.methodLink RX5 229 yX5_isOfKind ∈ TT := tw_533
theorem xk_L_131 : Cond.methodLink RL 131 yX5_ask ∈ TT := tw_538
theorem xk_X5_235 : Cond.methodLink RX5 235 yX5_answer ∈ TT := tw_542
theorem xk_X5_270 : Cond.methodLink RX5 270 yX5_nearestBody ∈ TT := tw_546
theorem xk_X5_273 : Cond.methodLink RX5 273 yX5_body ∈ TT := tw_553
theorem xk_L_135 : Cond.methodLink RL 135 yX5_trace ∈ TT := tw_557
theorem xk_L_139 : Cond.methodLink RL 139 yX5_count ∈ TT := tw_561
theorem xk_X5_239 : Cond.methodLink RX5 239 yX5_countRows ∈ TT := tw_565
theorem xk_X5_248 : Cond.methodLink RX5 248 yJ6_bitCount_0f7a4 ∈ TT := tw_569
theorem xk_L_143 : Cond.methodLink RL 143 yX5_status ∈ TT := tw_575
theorem xk_L_12 : Cond.methodLink RL 12 yX6_init ∈ TT := tw_581
theorem xk_L_17 : Cond.methodLink RL 17 yX6_row ∈ TT := tw_656
theorem xk_X6_61 : Cond.methodLink RX6 61 yX6_isRow ∈ TT := tw_660
theorem xk_X6_57 : Cond.methodLink RX6 57 yX6_in ∈ TT := tw_664
theorem xk_X6_68 : Cond.methodLink RX6 68 yX6_found ∈ TT := tw_669
theorem xk_X6_72 : Cond.methodLink RX6 72 yX6_well ∈ TT := tw_674
theorem xk_L_21 : Cond.methodLink RL 21 yX6_set ∈ TT := tw_678
theorem xk_L_26 : Cond.methodLink RL 26 yX6_copy ∈ TT := tw_682
theorem xk_L_31 : Cond.methodLink RL 31 yX6_drop ∈ TT := tw_686
theorem xk_L_35 : Cond.methodLink RL 35 yX6_feed ∈ TT := tw_690
theorem xk_L_40 : Cond.methodLink RL 40 yX6_forest ∈ TT := tw_696
theorem xk_X6_125 : Cond.methodLink RX6 125 yX6_reads ∈ TT := tw_700
theorem xk_X6_108 : Cond.methodLink RX6 108 yX6_step ∈ TT := tw_704
theorem xk_X6_87 : Cond.methodLink RX6 87 yX6_here ∈ TT := tw_708
theorem xk_X6_111 : Cond.methodLink RX6 111 yX6_fails ∈ TT := tw_716
theorem xk_X6_117 : Cond.methodLink RX6 117 yX6_number ∈ TT := tw_720
theorem xk_X6_121 : Cond.methodLink RX6 121 yX6_readsHammock ∈ TT := tw_724
theorem xk_X6_114 : Cond.methodLink RX6 114 yX6_sortOf ∈ TT := tw_728
theorem xk_X6_132 : Cond.methodLink RX6 132 yX6_copies ∈ TT := tw_732
theorem xk_L_44 : Cond.methodLink RL 44 yX6_fault ∈ TT := tw_735
theorem xk_L_48 : Cond.methodLink RL 48 yX6_minutes ∈ TT := tw_739
theorem xk_X6_168 : Cond.methodLink RX6 168 yX6_isForest ∈ TT := tw_743
theorem xk_X6_174 : Cond.methodLink RX6 174 yX6_remember ∈ TT := tw_749
theorem xk_X6_177 : Cond.methodLink RX6 177 yX6_downOf ∈ TT := tw_753
theorem xk_X6_151 : Cond.methodLink RX6 151 yX6_isDown ∈ TT := tw_756
theorem xk_X6_143 : Cond.methodLink RX6 143 yX6_has ∈ TT := tw_759
theorem xk_X6_147 : Cond.methodLink RX6 147 yX6_dip ∈ TT := tw_762
theorem xk_L_52 : Cond.methodLink RL 52 yX6_sling ∈ TT := tw_765
theorem xk_X6_181 : Cond.methodLink RX6 181 yX6_isHammock ∈ TT := tw_769
theorem xk_X6_155 : Cond.methodLink RX6 155 yX6_where ∈ TT := tw_774
theorem xk_X6_139 : Cond.methodLink RX6 139 yX6_swung ∈ TT := tw_777
theorem xk_L_57 : Cond.methodLink RL 57 yX6_load ∈ TT := tw_780
theorem xk_L_61 : Cond.methodLink RL 61 yX6_cord ∈ TT := tw_785
theorem xk_X6_188 : Cond.methodLink RX6 188 yX6_isTwo ∈ TT := tw_789
theorem xk_L_65 : Cond.methodLink RL 65 yX6_undo ∈ TT := tw_792
theorem xk_L_69 : Cond.methodLink RL 69 yX6_hammock ∈ TT := tw_796
theorem xk_L_73 : Cond.methodLink RL 73 yX6_ahead ∈ TT := tw_800
theorem xk_X6_191 : Cond.methodLink RX6 191 yX6_isSpan ∈ TT := tw_804
theorem xk_L_77 : Cond.methodLink RL 77 yX6_down ∈ TT := tw_808
theorem xk_L_81 : Cond.methodLink RL 81 yX6_reach ∈ TT := tw_812
theorem xk_X6_162 : Cond.methodLink RX6 162 yX6_reachOf ∈ TT := tw_816
theorem xk_X6_158 : Cond.methodLink RX6 158 yX6_areNear ∈ TT := tw_819
theorem xk_L_85 : Cond.methodLink RL 85 yX6_meet ∈ TT := tw_822
theorem xk_L_89 : Cond.methodLink RL 89 yX6_soonest ∈ TT := tw_827
theorem xk_X6_195 : Cond.methodLink RX6 195 yX6_soonestOf ∈ TT := tw_831
theorem xk_X6_198 : Cond.methodLink RX6 198 yX6_told ∈ TT := tw_835
theorem xk_L_93 : Cond.methodLink RL 93 yX6_hands ∈ TT := tw_838
theorem xk_L_97 : Cond.methodLink RL 97 yX6_everywhere ∈ TT := tw_842
theorem xk_X6_201 : Cond.methodLink RX6 201 yX6_spread ∈ TT := tw_846
theorem xk_L_101 : Cond.methodLink RL 101 yX6_stops ∈ TT := tw_849
theorem xk_X6_204 : Cond.methodLink RX6 204 yX6_layAside ∈ TT := tw_853
theorem xk_L_106 : Cond.methodLink RL 106 yX6_toSling ∈ TT := tw_857
theorem xk_L_110 : Cond.methodLink RL 110 yX6_fits ∈ TT := tw_861
theorem xk_L_114 : Cond.methodLink RL 114 yX6_breaks ∈ TT := tw_866
theorem xk_L_118 : Cond.methodLink RL 118 yX6_image ∈ TT := tw_871
theorem xk_L_122 : Cond.methodLink RL 122 yX6_restore ∈ TT := tw_875
theorem xk_L_126 : Cond.methodLink RL 126 yX6_kind ∈ TT := tw_879
theorem xk_L_130 : Cond.methodLink RL 130 yX6_as ∈ TT := tw_883
theorem xk_X6_213 : Cond.methodLink RX6 213 yX6_isOf ∈ TT := tw_888
theorem xk_L_134 : Cond.methodLink RL 134 yX6_ask ∈ TT := tw_891
theorem xk_X6_235 : Cond.methodLink RX6 235 yX6_mark ∈ TT := tw_895
theorem xk_X6_227 : Cond.methodLink RX6 227 yX6_leave ∈ TT := tw_902
theorem xk_X6_242 : Cond.methodLink RX6 242 yX6_sizeOf ∈ TT := tw_909
theorem xk_L_138 : Cond.methodLink RL 138 yX6_trace ∈ TT := tw_916
theorem xk_L_142 : Cond.methodLink RL 142 yX6_count ∈ TT := tw_920
theorem xk_L_146 : Cond.methodLink RL 146 yX6_status ∈ TT := tw_924
