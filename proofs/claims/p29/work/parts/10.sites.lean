/-! the tables' words that are used, by their places; then the sites: fields, calls, new -/
theorem abTb_all {ws : List Cond} (h1 : ∀ w ∈ ws, w ∈ lw_tbl) (h2 : ws.all goodWord = true) : ∀ w ∈ ws, w ∈ abTb := fun w hw => List.mem_filter.mpr ⟨h1 w hw, List.all_eq_true.mp h2 w hw⟩
theorem tb_1 : ((Jvm.Cond.initialized "ShadowCourt") : Jvm.Cond) ∈ abTb := abTb_mem 5 (by decide +kernel) rfl
theorem tb_2 : ((Jvm.Cond.initialized "ShadowCourt$Page") : Jvm.Cond) ∈ abTb := abTb_mem 6 (by decide +kernel) rfl
theorem tb_3 : ((Jvm.Cond.initialized "ShadowCourt$Court") : Jvm.Cond) ∈ abTb := abTb_mem 7 (by decide +kernel) rfl
theorem tb_4 : ((Jvm.Cond.initialized "ShadowCourt$Sight") : Jvm.Cond) ∈ abTb := abTb_mem 8 (by decide +kernel) rfl
theorem tb_5 : ((Jvm.Cond.initialized "ShadowCourt$Game") : Jvm.Cond) ∈ abTb := abTb_mem 9 (by decide +kernel) rfl
theorem tb_6 : ((Jvm.Cond.initialized "ShadowCourt$Docket") : Jvm.Cond) ∈ abTb := abTb_mem 10 (by decide +kernel) rfl
theorem tb_7 : ((Jvm.Cond.initialized "ShadowCourt$Terms") : Jvm.Cond) ∈ abTb := abTb_mem 11 (by decide +kernel) rfl
theorem tb_8 : ((Jvm.Cond.initialized "java/lang/String") : Jvm.Cond) ∈ abTb := abTb_mem 12 (by decide +kernel) rfl
theorem tb_9 : ((Jvm.Cond.initialized "java/lang/StringLatin1") : Jvm.Cond) ∈ abTb := abTb_mem 13 (by decide +kernel) rfl
theorem tb_10 : ((Jvm.Cond.initialized "java/lang/Math") : Jvm.Cond) ∈ abTb := abTb_mem 14 (by decide +kernel) rfl
theorem tb_14 : ((Jvm.Cond.initialized "ShadowCourt$Kind") : Jvm.Cond) ∈ abTb := abTb_mem 18 (by decide +kernel) rfl
theorem tb_15 : ((Jvm.Cond.initialized "ShadowCourt$Hat") : Jvm.Cond) ∈ abTb := abTb_mem 19 (by decide +kernel) rfl
theorem tb_16 : ((Jvm.Cond.initialized "ShadowCourt$Thin") : Jvm.Cond) ∈ abTb := abTb_mem 20 (by decide +kernel) rfl
theorem tb_17 : ((Jvm.Cond.initialized "ShadowCourt$Child") : Jvm.Cond) ∈ abTb := abTb_mem 21 (by decide +kernel) rfl
theorem tb_18 : ((Jvm.Cond.initialized "ShadowCourt$Plume") : Jvm.Cond) ∈ abTb := abTb_mem 22 (by decide +kernel) rfl
theorem tb_19 : ((Jvm.Cond.initialized "java/lang/Integer") : Jvm.Cond) ∈ abTb := abTb_mem 23 (by decide +kernel) rfl
theorem tb_25 : ((Jvm.Cond.methodLink "ShadowCourt" (1 : Nat) ({ cls := "java/lang/Object", name := "<init>", desc := "()V" } : Jvm.MethodName)) : Jvm.Cond) ∈ abTb := abTb_mem 29 (by decide +kernel) rfl
theorem tb_26 : ((Jvm.Cond.instanceMethod ({ cls := "java/lang/Object", name := "<init>", desc := "()V" } : Jvm.MethodName)) : Jvm.Cond) ∈ abTb := abTb_mem 30 (by decide +kernel) rfl
theorem tb_27 : ((Jvm.Cond.code ({ cls := "java/lang/Object", name := "<init>", desc := "()V" } : Jvm.MethodName) object_method_1_code (1 : Nat) (Option.none : Option Jvm.ClassFile.FieldType)) : Jvm.Cond) ∈ abTb := abTb_mem 31 (by decide +kernel) rfl
theorem tb_28 : ((Jvm.Cond.classLink "ShadowCourt" (7 : Nat) "ShadowCourt$Page") : Jvm.Cond) ∈ abTb := abTb_mem 32 (by decide +kernel) rfl
theorem tb_29 : ((Jvm.Cond.instantiable "ShadowCourt$Page" (2 : Nat)) : Jvm.Cond) ∈ abTb := abTb_mem 33 (by decide +kernel) rfl
theorem tb_31 : ((Jvm.Cond.instanceMethod ({ cls := "ShadowCourt$Page", name := "<init>", desc := "()V" } : Jvm.MethodName)) : Jvm.Cond) ∈ abTb := abTb_mem 35 (by decide +kernel) rfl
theorem tb_32 : ((Jvm.Cond.code ({ cls := "ShadowCourt$Page", name := "<init>", desc := "()V" } : Jvm.MethodName) prog_8_method_1_code (1 : Nat) (Option.none : Option Jvm.ClassFile.FieldType)) : Jvm.Cond) ∈ abTb := abTb_mem 36 (by decide +kernel) rfl
theorem tb_33 : ((Jvm.Cond.methodLink "ShadowCourt$Page" (5 : Nat) ({ cls := "java/lang/Object", name := "<init>", desc := "()V" } : Jvm.MethodName)) : Jvm.Cond) ∈ abTb := abTb_mem 37 (by decide +kernel) rfl
theorem tb_34 : ((Jvm.Cond.fieldLink "ShadowCourt$Page" (11 : Nat) "ShadowCourt$Page" "letters" "[C") : Jvm.Cond) ∈ abTb := abTb_mem 38 (by decide +kernel) rfl
theorem tb_35 : ((Jvm.Cond.fieldLink "ShadowCourt$Court" (45 : Nat) "ShadowCourt$Page" "letters" "[C") : Jvm.Cond) ∈ abTb := abTb_mem 39 (by decide +kernel) rfl
theorem tb_36 : ((Jvm.Cond.fieldLink "ShadowCourt" (62 : Nat) "ShadowCourt$Page" "letters" "[C") : Jvm.Cond) ∈ abTb := abTb_mem 40 (by decide +kernel) rfl
theorem tb_37 : ((Jvm.Cond.fieldLink "ShadowCourt$Page" (15 : Nat) "ShadowCourt$Page" "length" "I") : Jvm.Cond) ∈ abTb := abTb_mem 41 (by decide +kernel) rfl
theorem tb_38 : ((Jvm.Cond.fieldLink "ShadowCourt" (58 : Nat) "ShadowCourt$Page" "length" "I") : Jvm.Cond) ∈ abTb := abTb_mem 42 (by decide +kernel) rfl
theorem tb_44 : ((Jvm.Cond.arrayClass Jvm.ClassFile.FieldType.char) : Jvm.Cond) ∈ abTb := abTb_mem 48 (by decide +kernel) rfl
theorem tb_45 : ((Jvm.Cond.classLink "ShadowCourt" (16 : Nat) "ShadowCourt$Court") : Jvm.Cond) ∈ abTb := abTb_mem 49 (by decide +kernel) rfl
theorem tb_46 : ((Jvm.Cond.instantiable "ShadowCourt$Court" (15 : Nat)) : Jvm.Cond) ∈ abTb := abTb_mem 50 (by decide +kernel) rfl
theorem tb_48 : ((Jvm.Cond.instanceMethod ({ cls := "ShadowCourt$Court", name := "<init>", desc := "()V" } : Jvm.MethodName)) : Jvm.Cond) ∈ abTb := abTb_mem 52 (by decide +kernel) rfl
theorem tb_49 : ((Jvm.Cond.code ({ cls := "ShadowCourt$Court", name := "<init>", desc := "()V" } : Jvm.MethodName) prog_3_method_1_code (1 : Nat) (Option.none : Option Jvm.ClassFile.FieldType)) : Jvm.Cond) ∈ abTb := abTb_mem 53 (by decide +kernel) rfl
theorem tb_50 : ((Jvm.Cond.methodLink "ShadowCourt$Court" (3 : Nat) ({ cls := "java/lang/Object", name := "<init>", desc := "()V" } : Jvm.MethodName)) : Jvm.Cond) ∈ abTb := abTb_mem 54 (by decide +kernel) rfl
theorem tb_51 : ((Jvm.Cond.classLink "ShadowCourt$Court" (9 : Nat) "ShadowCourt$Kind") : Jvm.Cond) ∈ abTb := abTb_mem 55 (by decide +kernel) rfl
theorem tb_53 : ((Jvm.Cond.fieldLink "ShadowCourt$Terms" (22 : Nat) "ShadowCourt$Court" "parties" "I") : Jvm.Cond) ∈ abTb := abTb_mem 57 (by decide +kernel) rfl
theorem tb_54 : ((Jvm.Cond.fieldLink "ShadowCourt$Court" (61 : Nat) "ShadowCourt$Court" "parties" "I") : Jvm.Cond) ∈ abTb := abTb_mem 58 (by decide +kernel) rfl
theorem tb_55 : ((Jvm.Cond.fieldLink "ShadowCourt" (85 : Nat) "ShadowCourt$Court" "parties" "I") : Jvm.Cond) ∈ abTb := abTb_mem 59 (by decide +kernel) rfl
theorem tb_56 : ((Jvm.Cond.fieldLink "ShadowCourt$Court" (11 : Nat) "ShadowCourt$Court" "kinds" "[LShadowCourt$Kind;") : Jvm.Cond) ∈ abTb := abTb_mem 60 (by decide +kernel) rfl
theorem tb_57 : ((Jvm.Cond.fieldLink "ShadowCourt" (92 : Nat) "ShadowCourt$Court" "kinds" "[LShadowCourt$Kind;") : Jvm.Cond) ∈ abTb := abTb_mem 61 (by decide +kernel) rfl
theorem tb_58 : ((Jvm.Cond.fieldLink "ShadowCourt$Court" (17 : Nat) "ShadowCourt$Court" "high" "[I") : Jvm.Cond) ∈ abTb := abTb_mem 62 (by decide +kernel) rfl
theorem tb_59 : ((Jvm.Cond.fieldLink "ShadowCourt" (101 : Nat) "ShadowCourt$Court" "high" "[I") : Jvm.Cond) ∈ abTb := abTb_mem 63 (by decide +kernel) rfl
theorem tb_60 : ((Jvm.Cond.fieldLink "ShadowCourt$Court" (21 : Nat) "ShadowCourt$Court" "tile" "[I") : Jvm.Cond) ∈ abTb := abTb_mem 64 (by decide +kernel) rfl
theorem tb_61 : ((Jvm.Cond.fieldLink "ShadowCourt$Sight" (28 : Nat) "ShadowCourt$Court" "tile" "[I") : Jvm.Cond) ∈ abTb := abTb_mem 65 (by decide +kernel) rfl
theorem tb_62 : ((Jvm.Cond.fieldLink "ShadowCourt" (105 : Nat) "ShadowCourt$Court" "tile" "[I") : Jvm.Cond) ∈ abTb := abTb_mem 66 (by decide +kernel) rfl
theorem tb_63 : ((Jvm.Cond.fieldLink "ShadowCourt$Court" (24 : Nat) "ShadowCourt$Court" "worth" "[I") : Jvm.Cond) ∈ abTb := abTb_mem 67 (by decide +kernel) rfl
theorem tb_64 : ((Jvm.Cond.fieldLink "ShadowCourt" (140 : Nat) "ShadowCourt$Court" "worth" "[I") : Jvm.Cond) ∈ abTb := abTb_mem 68 (by decide +kernel) rfl
theorem tb_65 : ((Jvm.Cond.fieldLink "ShadowCourt$Court" (71 : Nat) "ShadowCourt$Court" "hour" "I") : Jvm.Cond) ∈ abTb := abTb_mem 69 (by decide +kernel) rfl
theorem tb_66 : ((Jvm.Cond.fieldLink "ShadowCourt" (108 : Nat) "ShadowCourt$Court" "hour" "I") : Jvm.Cond) ∈ abTb := abTb_mem 70 (by decide +kernel) rfl
theorem tb_67 : ((Jvm.Cond.fieldLink "ShadowCourt$Court" (74 : Nat) "ShadowCourt$Court" "days" "I") : Jvm.Cond) ∈ abTb := abTb_mem 71 (by decide +kernel) rfl
theorem tb_68 : ((Jvm.Cond.fieldLink "ShadowCourt" (160 : Nat) "ShadowCourt$Court" "days" "I") : Jvm.Cond) ∈ abTb := abTb_mem 72 (by decide +kernel) rfl
theorem tb_69 : ((Jvm.Cond.fieldLink "ShadowCourt$Court" (77 : Nat) "ShadowCourt$Court" "cases" "I") : Jvm.Cond) ∈ abTb := abTb_mem 73 (by decide +kernel) rfl
theorem tb_70 : ((Jvm.Cond.fieldLink "ShadowCourt" (166 : Nat) "ShadowCourt$Court" "cases" "I") : Jvm.Cond) ∈ abTb := abTb_mem 74 (by decide +kernel) rfl
theorem tb_71 : ((Jvm.Cond.fieldLink "ShadowCourt$Court" (27 : Nat) "ShadowCourt$Court" "caseFirst" "[I") : Jvm.Cond) ∈ abTb := abTb_mem 75 (by decide +kernel) rfl
theorem tb_72 : ((Jvm.Cond.fieldLink "ShadowCourt" (169 : Nat) "ShadowCourt$Court" "caseFirst" "[I") : Jvm.Cond) ∈ abTb := abTb_mem 76 (by decide +kernel) rfl
theorem tb_73 : ((Jvm.Cond.fieldLink "ShadowCourt$Court" (30 : Nat) "ShadowCourt$Court" "caseOther" "[I") : Jvm.Cond) ∈ abTb := abTb_mem 77 (by decide +kernel) rfl
theorem tb_74 : ((Jvm.Cond.fieldLink "ShadowCourt" (172 : Nat) "ShadowCourt$Court" "caseOther" "[I") : Jvm.Cond) ∈ abTb := abTb_mem 78 (by decide +kernel) rfl
theorem tb_75 : ((Jvm.Cond.fieldLink "ShadowCourt$Court" (80 : Nat) "ShadowCourt$Court" "seen" "I") : Jvm.Cond) ∈ abTb := abTb_mem 79 (by decide +kernel) rfl
theorem tb_76 : ((Jvm.Cond.fieldLink "ShadowCourt$Sight" (19 : Nat) "ShadowCourt$Court" "seen" "I") : Jvm.Cond) ∈ abTb := abTb_mem 80 (by decide +kernel) rfl
theorem tb_77 : ((Jvm.Cond.fieldLink "ShadowCourt" (199 : Nat) "ShadowCourt$Court" "seen" "I") : Jvm.Cond) ∈ abTb := abTb_mem 81 (by decide +kernel) rfl
theorem tb_78 : ((Jvm.Cond.fieldLink "ShadowCourt$Court" (33 : Nat) "ShadowCourt$Court" "seenParty" "[I") : Jvm.Cond) ∈ abTb := abTb_mem 82 (by decide +kernel) rfl
theorem tb_79 : ((Jvm.Cond.fieldLink "ShadowCourt$Sight" (25 : Nat) "ShadowCourt$Court" "seenParty" "[I") : Jvm.Cond) ∈ abTb := abTb_mem 83 (by decide +kernel) rfl
theorem tb_80 : ((Jvm.Cond.fieldLink "ShadowCourt$Court" (36 : Nat) "ShadowCourt$Court" "seenHour" "[I") : Jvm.Cond) ∈ abTb := abTb_mem 84 (by decide +kernel) rfl
theorem tb_81 : ((Jvm.Cond.fieldLink "ShadowCourt$Sight" (31 : Nat) "ShadowCourt$Court" "seenHour" "[I") : Jvm.Cond) ∈ abTb := abTb_mem 85 (by decide +kernel) rfl
theorem tb_82 : ((Jvm.Cond.fieldLink "ShadowCourt$Court" (39 : Nat) "ShadowCourt$Court" "seenTile" "[I") : Jvm.Cond) ∈ abTb := abTb_mem 86 (by decide +kernel) rfl
theorem tb_83 : ((Jvm.Cond.fieldLink "ShadowCourt$Sight" (38 : Nat) "ShadowCourt$Court" "seenTile" "[I") : Jvm.Cond) ∈ abTb := abTb_mem 87 (by decide +kernel) rfl
theorem tb_84 : ((Jvm.Cond.fieldLink "ShadowCourt$Court" (42 : Nat) "ShadowCourt$Court" "seenCovers" "[I") : Jvm.Cond) ∈ abTb := abTb_mem 88 (by decide +kernel) rfl
theorem tb_85 : ((Jvm.Cond.fieldLink "ShadowCourt$Sight" (41 : Nat) "ShadowCourt$Court" "seenCovers" "[I") : Jvm.Cond) ∈ abTb := abTb_mem 89 (by decide +kernel) rfl
theorem tb_117 : ((Jvm.Cond.arrayClass Jvm.ClassFile.FieldType.int) : Jvm.Cond) ∈ abTb := abTb_mem 121 (by decide +kernel) rfl
theorem tb_118 : ((Jvm.Cond.classLink "ShadowCourt" (26 : Nat) "ShadowCourt$Sight") : Jvm.Cond) ∈ abTb := abTb_mem 122 (by decide +kernel) rfl
theorem tb_119 : ((Jvm.Cond.instantiable "ShadowCourt$Sight" (1 : Nat)) : Jvm.Cond) ∈ abTb := abTb_mem 123 (by decide +kernel) rfl
theorem tb_121 : ((Jvm.Cond.instanceMethod ({ cls := "ShadowCourt$Sight", name := "<init>", desc := "()V" } : Jvm.MethodName)) : Jvm.Cond) ∈ abTb := abTb_mem 125 (by decide +kernel) rfl
theorem tb_122 : ((Jvm.Cond.code ({ cls := "ShadowCourt$Sight", name := "<init>", desc := "()V" } : Jvm.MethodName) prog_10_method_1_code (1 : Nat) (Option.none : Option Jvm.ClassFile.FieldType)) : Jvm.Cond) ∈ abTb := abTb_mem 126 (by decide +kernel) rfl
theorem tb_123 : ((Jvm.Cond.methodLink "ShadowCourt$Sight" (3 : Nat) ({ cls := "java/lang/Object", name := "<init>", desc := "()V" } : Jvm.MethodName)) : Jvm.Cond) ∈ abTb := abTb_mem 127 (by decide +kernel) rfl
theorem tb_124 : ((Jvm.Cond.fieldLink "ShadowCourt$Sight" (9 : Nat) "ShadowCourt$Sight" "shades" "[I") : Jvm.Cond) ∈ abTb := abTb_mem 128 (by decide +kernel) rfl
theorem tb_128 : ((Jvm.Cond.classLink "ShadowCourt" (33 : Nat) "ShadowCourt$Game") : Jvm.Cond) ∈ abTb := abTb_mem 132 (by decide +kernel) rfl
theorem tb_129 : ((Jvm.Cond.instantiable "ShadowCourt$Game" (6 : Nat)) : Jvm.Cond) ∈ abTb := abTb_mem 133 (by decide +kernel) rfl
theorem tb_131 : ((Jvm.Cond.instanceMethod ({ cls := "ShadowCourt$Game", name := "<init>", desc := "()V" } : Jvm.MethodName)) : Jvm.Cond) ∈ abTb := abTb_mem 135 (by decide +kernel) rfl
theorem tb_132 : ((Jvm.Cond.code ({ cls := "ShadowCourt$Game", name := "<init>", desc := "()V" } : Jvm.MethodName) prog_5_method_1_code (1 : Nat) (Option.none : Option Jvm.ClassFile.FieldType)) : Jvm.Cond) ∈ abTb := abTb_mem 136 (by decide +kernel) rfl
theorem tb_133 : ((Jvm.Cond.methodLink "ShadowCourt$Game" (3 : Nat) ({ cls := "java/lang/Object", name := "<init>", desc := "()V" } : Jvm.MethodName)) : Jvm.Cond) ∈ abTb := abTb_mem 137 (by decide +kernel) rfl
theorem tb_134 : ((Jvm.Cond.fieldLink "ShadowCourt$Game" (9 : Nat) "ShadowCourt$Game" "worthA" "[I") : Jvm.Cond) ∈ abTb := abTb_mem 138 (by decide +kernel) rfl
theorem tb_135 : ((Jvm.Cond.fieldLink "ShadowCourt$Game" (15 : Nat) "ShadowCourt$Game" "worthB" "[I") : Jvm.Cond) ∈ abTb := abTb_mem 139 (by decide +kernel) rfl
theorem tb_136 : ((Jvm.Cond.fieldLink "ShadowCourt$Game" (18 : Nat) "ShadowCourt$Game" "ahead" "[I") : Jvm.Cond) ∈ abTb := abTb_mem 140 (by decide +kernel) rfl
theorem tb_137 : ((Jvm.Cond.fieldLink "ShadowCourt$Game" (21 : Nat) "ShadowCourt$Game" "behind" "[I") : Jvm.Cond) ∈ abTb := abTb_mem 141 (by decide +kernel) rfl
theorem tb_151 : ((Jvm.Cond.classLink "ShadowCourt" (40 : Nat) "ShadowCourt$Docket") : Jvm.Cond) ∈ abTb := abTb_mem 155 (by decide +kernel) rfl
theorem tb_152 : ((Jvm.Cond.instantiable "ShadowCourt$Docket" (4 : Nat)) : Jvm.Cond) ∈ abTb := abTb_mem 156 (by decide +kernel) rfl
theorem tb_154 : ((Jvm.Cond.instanceMethod ({ cls := "ShadowCourt$Docket", name := "<init>", desc := "()V" } : Jvm.MethodName)) : Jvm.Cond) ∈ abTb := abTb_mem 158 (by decide +kernel) rfl
theorem tb_155 : ((Jvm.Cond.code ({ cls := "ShadowCourt$Docket", name := "<init>", desc := "()V" } : Jvm.MethodName) prog_4_method_1_code (1 : Nat) (Option.none : Option Jvm.ClassFile.FieldType)) : Jvm.Cond) ∈ abTb := abTb_mem 159 (by decide +kernel) rfl
theorem tb_156 : ((Jvm.Cond.methodLink "ShadowCourt$Docket" (3 : Nat) ({ cls := "java/lang/Object", name := "<init>", desc := "()V" } : Jvm.MethodName)) : Jvm.Cond) ∈ abTb := abTb_mem 160 (by decide +kernel) rfl
theorem tb_157 : ((Jvm.Cond.fieldLink "ShadowCourt$Docket" (9 : Nat) "ShadowCourt$Docket" "rightHours" "[I") : Jvm.Cond) ∈ abTb := abTb_mem 161 (by decide +kernel) rfl
theorem tb_158 : ((Jvm.Cond.fieldLink "ShadowCourt$Docket" (15 : Nat) "ShadowCourt$Docket" "hourOf" "[I") : Jvm.Cond) ∈ abTb := abTb_mem 162 (by decide +kernel) rfl
theorem tb_168 : ((Jvm.Cond.classLink "ShadowCourt" (47 : Nat) "ShadowCourt$Terms") : Jvm.Cond) ∈ abTb := abTb_mem 172 (by decide +kernel) rfl
theorem tb_169 : ((Jvm.Cond.instantiable "ShadowCourt$Terms" (3 : Nat)) : Jvm.Cond) ∈ abTb := abTb_mem 173 (by decide +kernel) rfl
theorem tb_171 : ((Jvm.Cond.instanceMethod ({ cls := "ShadowCourt$Terms", name := "<init>", desc := "()V" } : Jvm.MethodName)) : Jvm.Cond) ∈ abTb := abTb_mem 175 (by decide +kernel) rfl
theorem tb_172 : ((Jvm.Cond.code ({ cls := "ShadowCourt$Terms", name := "<init>", desc := "()V" } : Jvm.MethodName) prog_11_method_1_code (1 : Nat) (Option.none : Option Jvm.ClassFile.FieldType)) : Jvm.Cond) ∈ abTb := abTb_mem 176 (by decide +kernel) rfl
theorem tb_173 : ((Jvm.Cond.methodLink "ShadowCourt$Terms" (3 : Nat) ({ cls := "java/lang/Object", name := "<init>", desc := "()V" } : Jvm.MethodName)) : Jvm.Cond) ∈ abTb := abTb_mem 177 (by decide +kernel) rfl
theorem tb_174 : ((Jvm.Cond.fieldLink "ShadowCourt$Terms" (9 : Nat) "ShadowCourt$Terms" "seed" "J") : Jvm.Cond) ∈ abTb := abTb_mem 178 (by decide +kernel) rfl
theorem tb_175 : ((Jvm.Cond.fieldLink "ShadowCourt" (224 : Nat) "ShadowCourt$Terms" "seed" "J") : Jvm.Cond) ∈ abTb := abTb_mem 179 (by decide +kernel) rfl
theorem tb_176 : ((Jvm.Cond.fieldLink "ShadowCourt$Terms" (15 : Nat) "ShadowCourt$Terms" "forFirst" "I") : Jvm.Cond) ∈ abTb := abTb_mem 180 (by decide +kernel) rfl
theorem tb_177 : ((Jvm.Cond.fieldLink "ShadowCourt" (218 : Nat) "ShadowCourt$Terms" "forFirst" "I") : Jvm.Cond) ∈ abTb := abTb_mem 181 (by decide +kernel) rfl
theorem tb_178 : ((Jvm.Cond.fieldLink "ShadowCourt$Terms" (19 : Nat) "ShadowCourt$Terms" "stayed" "I") : Jvm.Cond) ∈ abTb := abTb_mem 182 (by decide +kernel) rfl
theorem tb_179 : ((Jvm.Cond.fieldLink "ShadowCourt" (221 : Nat) "ShadowCourt$Terms" "stayed" "I") : Jvm.Cond) ∈ abTb := abTb_mem 183 (by decide +kernel) rfl
theorem tb_187 : ((Jvm.Cond.fieldLink "ShadowCourt" (10 : Nat) "ShadowCourt" "page" "LShadowCourt$Page;") : Jvm.Cond) ∈ abTb := abTb_mem 191 (by decide +kernel) rfl
theorem tb_188 : ((Jvm.Cond.fieldLink "ShadowCourt" (19 : Nat) "ShadowCourt" "now" "LShadowCourt$Court;") : Jvm.Cond) ∈ abTb := abTb_mem 192 (by decide +kernel) rfl
theorem tb_189 : ((Jvm.Cond.fieldLink "ShadowCourt" (23 : Nat) "ShadowCourt" "kept" "LShadowCourt$Court;") : Jvm.Cond) ∈ abTb := abTb_mem 193 (by decide +kernel) rfl
theorem tb_190 : ((Jvm.Cond.fieldLink "ShadowCourt" (29 : Nat) "ShadowCourt" "sight" "LShadowCourt$Sight;") : Jvm.Cond) ∈ abTb := abTb_mem 194 (by decide +kernel) rfl
theorem tb_191 : ((Jvm.Cond.fieldLink "ShadowCourt" (36 : Nat) "ShadowCourt" "play" "LShadowCourt$Game;") : Jvm.Cond) ∈ abTb := abTb_mem 195 (by decide +kernel) rfl
theorem tb_192 : ((Jvm.Cond.fieldLink "ShadowCourt" (43 : Nat) "ShadowCourt" "list" "LShadowCourt$Docket;") : Jvm.Cond) ∈ abTb := abTb_mem 196 (by decide +kernel) rfl
theorem tb_193 : ((Jvm.Cond.fieldLink "ShadowCourt" (50 : Nat) "ShadowCourt" "draws" "LShadowCourt$Terms;") : Jvm.Cond) ∈ abTb := abTb_mem 197 (by decide +kernel) rfl
theorem tb_194 : ((Jvm.Cond.fieldLink "ShadowCourt" (78 : Nat) "ShadowCourt" "isKept" "Z") : Jvm.Cond) ∈ abTb := abTb_mem 198 (by decide +kernel) rfl
theorem tb_195 : ((Jvm.Cond.fieldLink "ShadowCourt" (82 : Nat) "ShadowCourt" "courts" "I") : Jvm.Cond) ∈ abTb := abTb_mem 199 (by decide +kernel) rfl
theorem tb_219 : ((Jvm.Cond.methodLink "ShadowCourt" (88 : Nat) ({ cls := "ShadowCourt$Court", name := "has", desc := "(I)Z" } : Jvm.MethodName)) : Jvm.Cond) ∈ abTb := abTb_mem 223 (by decide +kernel) rfl
theorem tb_220 : ((Jvm.Cond.instanceMethod ({ cls := "ShadowCourt$Court", name := "has", desc := "(I)Z" } : Jvm.MethodName)) : Jvm.Cond) ∈ abTb := abTb_mem 224 (by decide +kernel) rfl
theorem tb_221 : ((Jvm.Cond.selects "ShadowCourt$Court" ({ cls := "ShadowCourt$Court", name := "has", desc := "(I)Z" } : Jvm.MethodName) ({ cls := "ShadowCourt$Court", name := "has", desc := "(I)Z" } : Jvm.MethodName)) : Jvm.Cond) ∈ abTb := abTb_mem 225 (by decide +kernel) rfl
theorem tb_222 : ((Jvm.Cond.code ({ cls := "ShadowCourt$Court", name := "has", desc := "(I)Z" } : Jvm.MethodName) prog_3_method_6_code (2 : Nat) (Option.some Jvm.ClassFile.FieldType.boolean)) : Jvm.Cond) ∈ abTb := abTb_mem 226 (by decide +kernel) rfl
theorem tb_223 : ((Jvm.Cond.methodLink "ShadowCourt" (111 : Nat) ({ cls := "ShadowCourt$Court", name := "shade", desc := "(II)I" } : Jvm.MethodName)) : Jvm.Cond) ∈ abTb := abTb_mem 227 (by decide +kernel) rfl
theorem tb_224 : ((Jvm.Cond.instanceMethod ({ cls := "ShadowCourt$Court", name := "shade", desc := "(II)I" } : Jvm.MethodName)) : Jvm.Cond) ∈ abTb := abTb_mem 228 (by decide +kernel) rfl
theorem tb_225 : ((Jvm.Cond.selects "ShadowCourt$Court" ({ cls := "ShadowCourt$Court", name := "shade", desc := "(II)I" } : Jvm.MethodName) ({ cls := "ShadowCourt$Court", name := "shade", desc := "(II)I" } : Jvm.MethodName)) : Jvm.Cond) ∈ abTb := abTb_mem 229 (by decide +kernel) rfl
theorem tb_226 : ((Jvm.Cond.code ({ cls := "ShadowCourt$Court", name := "shade", desc := "(II)I" } : Jvm.MethodName) prog_3_method_10_code (3 : Nat) (Option.some Jvm.ClassFile.FieldType.int)) : Jvm.Cond) ∈ abTb := abTb_mem 230 (by decide +kernel) rfl
theorem tb_227 : ((Jvm.Cond.methodLink "ShadowCourt$Court" (93 : Nat) ({ cls := "ShadowCourt$Court", name := "has", desc := "(I)Z" } : Jvm.MethodName)) : Jvm.Cond) ∈ abTb := abTb_mem 231 (by decide +kernel) rfl
theorem tb_228 : ((Jvm.Cond.methodLink "ShadowCourt$Court" (104 : Nat) ({ cls := "ShadowCourt$Kind", name := "shade", desc := "(III)I" } : Jvm.MethodName)) : Jvm.Cond) ∈ abTb := abTb_mem 232 (by decide +kernel) rfl
theorem tb_229 : ((Jvm.Cond.instanceMethod ({ cls := "ShadowCourt$Kind", name := "shade", desc := "(III)I" } : Jvm.MethodName)) : Jvm.Cond) ∈ abTb := abTb_mem 233 (by decide +kernel) rfl
theorem tb_230 : ((Jvm.Cond.selects "ShadowCourt$Kind" ({ cls := "ShadowCourt$Kind", name := "shade", desc := "(III)I" } : Jvm.MethodName) ({ cls := "ShadowCourt$Kind", name := "shade", desc := "(III)I" } : Jvm.MethodName)) : Jvm.Cond) ∈ abTb := abTb_mem 234 (by decide +kernel) rfl
theorem tb_231 : ((Jvm.Cond.sameMethod "ShadowCourt$Kind" "ShadowCourt$Kind" "shade" "(III)I") : Jvm.Cond) ∈ abTb := abTb_mem 235 (by decide +kernel) rfl
theorem tb_232 : ((Jvm.Cond.selects "ShadowCourt$Child" ({ cls := "ShadowCourt$Kind", name := "shade", desc := "(III)I" } : Jvm.MethodName) ({ cls := "ShadowCourt$Child", name := "shade", desc := "(III)I" } : Jvm.MethodName)) : Jvm.Cond) ∈ abTb := abTb_mem 236 (by decide +kernel) rfl
theorem tb_233 : ((Jvm.Cond.instanceMethod ({ cls := "ShadowCourt$Child", name := "shade", desc := "(III)I" } : Jvm.MethodName)) : Jvm.Cond) ∈ abTb := abTb_mem 237 (by decide +kernel) rfl
theorem tb_234 : ((Jvm.Cond.code ({ cls := "ShadowCourt$Child", name := "shade", desc := "(III)I" } : Jvm.MethodName) prog_2_method_2_code (5 : Nat) (Option.some Jvm.ClassFile.FieldType.int)) : Jvm.Cond) ∈ abTb := abTb_mem 238 (by decide +kernel) rfl
theorem tb_235 : ((Jvm.Cond.methodLink "ShadowCourt$Child" (9 : Nat) ({ cls := "ShadowCourt$Child", name := "length", desc := "(II)I" } : Jvm.MethodName)) : Jvm.Cond) ∈ abTb := abTb_mem 239 (by decide +kernel) rfl
theorem tb_236 : ((Jvm.Cond.sameMethod "ShadowCourt$Child" "ShadowCourt$Kind" "length" "(II)I") : Jvm.Cond) ∈ abTb := abTb_mem 240 (by decide +kernel) rfl
theorem tb_238 : ((Jvm.Cond.selects "ShadowCourt$Child" ({ cls := "ShadowCourt$Child", name := "length", desc := "(II)I" } : Jvm.MethodName) ({ cls := "ShadowCourt$Kind", name := "length", desc := "(II)I" } : Jvm.MethodName)) : Jvm.Cond) ∈ abTb := abTb_mem 242 (by decide +kernel) rfl
theorem tb_239 : ((Jvm.Cond.instanceMethod ({ cls := "ShadowCourt$Kind", name := "length", desc := "(II)I" } : Jvm.MethodName)) : Jvm.Cond) ∈ abTb := abTb_mem 243 (by decide +kernel) rfl
theorem tb_240 : ((Jvm.Cond.code ({ cls := "ShadowCourt$Kind", name := "length", desc := "(II)I" } : Jvm.MethodName) prog_7_method_3_code (4 : Nat) (Option.some Jvm.ClassFile.FieldType.int)) : Jvm.Cond) ∈ abTb := abTb_mem 244 (by decide +kernel) rfl
theorem tb_241 : ((Jvm.Cond.methodLink "ShadowCourt$Child" (15 : Nat) ({ cls := "ShadowCourt$Child", name := "west", desc := "(II)I" } : Jvm.MethodName)) : Jvm.Cond) ∈ abTb := abTb_mem 245 (by decide +kernel) rfl
theorem tb_242 : ((Jvm.Cond.sameMethod "ShadowCourt$Child" "ShadowCourt$Kind" "west" "(II)I") : Jvm.Cond) ∈ abTb := abTb_mem 246 (by decide +kernel) rfl
theorem tb_243 : ((Jvm.Cond.static ({ cls := "ShadowCourt$Kind", name := "west", desc := "(II)I" } : Jvm.MethodName)) : Jvm.Cond) ∈ abTb := abTb_mem 247 (by decide +kernel) rfl
theorem tb_244 : ((Jvm.Cond.code ({ cls := "ShadowCourt$Kind", name := "west", desc := "(II)I" } : Jvm.MethodName) prog_7_method_4_code (3 : Nat) (Option.some Jvm.ClassFile.FieldType.int)) : Jvm.Cond) ∈ abTb := abTb_mem 248 (by decide +kernel) rfl
theorem tb_245 : ((Jvm.Cond.methodLink "ShadowCourt$Child" (18 : Nat) ({ cls := "ShadowCourt$Child", name := "east", desc := "(II)I" } : Jvm.MethodName)) : Jvm.Cond) ∈ abTb := abTb_mem 249 (by decide +kernel) rfl
theorem tb_246 : ((Jvm.Cond.sameMethod "ShadowCourt$Child" "ShadowCourt$Kind" "east" "(II)I") : Jvm.Cond) ∈ abTb := abTb_mem 250 (by decide +kernel) rfl
theorem tb_247 : ((Jvm.Cond.static ({ cls := "ShadowCourt$Kind", name := "east", desc := "(II)I" } : Jvm.MethodName)) : Jvm.Cond) ∈ abTb := abTb_mem 251 (by decide +kernel) rfl
theorem tb_248 : ((Jvm.Cond.code ({ cls := "ShadowCourt$Kind", name := "east", desc := "(II)I" } : Jvm.MethodName) prog_7_method_5_code (3 : Nat) (Option.some Jvm.ClassFile.FieldType.int)) : Jvm.Cond) ∈ abTb := abTb_mem 252 (by decide +kernel) rfl
theorem tb_249 : ((Jvm.Cond.selects "ShadowCourt$Hat" ({ cls := "ShadowCourt$Kind", name := "shade", desc := "(III)I" } : Jvm.MethodName) ({ cls := "ShadowCourt$Kind", name := "shade", desc := "(III)I" } : Jvm.MethodName)) : Jvm.Cond) ∈ abTb := abTb_mem 253 (by decide +kernel) rfl
theorem tb_250 : ((Jvm.Cond.selects "ShadowCourt$Plume" ({ cls := "ShadowCourt$Kind", name := "shade", desc := "(III)I" } : Jvm.MethodName) ({ cls := "ShadowCourt$Kind", name := "shade", desc := "(III)I" } : Jvm.MethodName)) : Jvm.Cond) ∈ abTb := abTb_mem 254 (by decide +kernel) rfl
theorem tb_251 : ((Jvm.Cond.selects "ShadowCourt$Thin" ({ cls := "ShadowCourt$Kind", name := "shade", desc := "(III)I" } : Jvm.MethodName) ({ cls := "ShadowCourt$Thin", name := "shade", desc := "(III)I" } : Jvm.MethodName)) : Jvm.Cond) ∈ abTb := abTb_mem 255 (by decide +kernel) rfl
theorem tb_252 : ((Jvm.Cond.instanceMethod ({ cls := "ShadowCourt$Thin", name := "shade", desc := "(III)I" } : Jvm.MethodName)) : Jvm.Cond) ∈ abTb := abTb_mem 256 (by decide +kernel) rfl
theorem tb_253 : ((Jvm.Cond.code ({ cls := "ShadowCourt$Thin", name := "shade", desc := "(III)I" } : Jvm.MethodName) prog_12_method_2_code (6 : Nat) (Option.some Jvm.ClassFile.FieldType.int)) : Jvm.Cond) ∈ abTb := abTb_mem 257 (by decide +kernel) rfl
theorem tb_254 : ((Jvm.Cond.methodLink "ShadowCourt$Thin" (9 : Nat) ({ cls := "ShadowCourt$Thin", name := "length", desc := "(II)I" } : Jvm.MethodName)) : Jvm.Cond) ∈ abTb := abTb_mem 258 (by decide +kernel) rfl
theorem tb_255 : ((Jvm.Cond.sameMethod "ShadowCourt$Thin" "ShadowCourt$Kind" "length" "(II)I") : Jvm.Cond) ∈ abTb := abTb_mem 259 (by decide +kernel) rfl
theorem tb_256 : ((Jvm.Cond.selects "ShadowCourt$Thin" ({ cls := "ShadowCourt$Thin", name := "length", desc := "(II)I" } : Jvm.MethodName) ({ cls := "ShadowCourt$Kind", name := "length", desc := "(II)I" } : Jvm.MethodName)) : Jvm.Cond) ∈ abTb := abTb_mem 260 (by decide +kernel) rfl
theorem tb_258 : ((Jvm.Cond.static ({ cls := "ShadowCourt", name := "isTile", desc := "(I)Z" } : Jvm.MethodName)) : Jvm.Cond) ∈ abTb := abTb_mem 262 (by decide +kernel) rfl
theorem tb_259 : ((Jvm.Cond.code ({ cls := "ShadowCourt", name := "isTile", desc := "(I)Z" } : Jvm.MethodName) prog_1_method_30_code (1 : Nat) (Option.some Jvm.ClassFile.FieldType.boolean)) : Jvm.Cond) ∈ abTb := abTb_mem 263 (by decide +kernel) rfl
theorem tb_260 : ((Jvm.Cond.code ({ cls := "ShadowCourt$Kind", name := "shade", desc := "(III)I" } : Jvm.MethodName) prog_7_method_2_code (5 : Nat) (Option.some Jvm.ClassFile.FieldType.int)) : Jvm.Cond) ∈ abTb := abTb_mem 264 (by decide +kernel) rfl
theorem tb_261 : ((Jvm.Cond.methodLink "ShadowCourt$Kind" (18 : Nat) ({ cls := "ShadowCourt$Kind", name := "length", desc := "(II)I" } : Jvm.MethodName)) : Jvm.Cond) ∈ abTb := abTb_mem 265 (by decide +kernel) rfl
theorem tb_262 : ((Jvm.Cond.methodLink "ShadowCourt$Kind" (22 : Nat) ({ cls := "ShadowCourt$Kind", name := "west", desc := "(II)I" } : Jvm.MethodName)) : Jvm.Cond) ∈ abTb := abTb_mem 266 (by decide +kernel) rfl
theorem tb_263 : ((Jvm.Cond.methodLink "ShadowCourt$Kind" (25 : Nat) ({ cls := "ShadowCourt$Kind", name := "east", desc := "(II)I" } : Jvm.MethodName)) : Jvm.Cond) ∈ abTb := abTb_mem 267 (by decide +kernel) rfl
theorem tb_264 : ((Jvm.Cond.methodLink "ShadowCourt" (115 : Nat) ({ cls := "ShadowCourt$Court", name := "worthOf", desc := "(I)I" } : Jvm.MethodName)) : Jvm.Cond) ∈ abTb := abTb_mem 268 (by decide +kernel) rfl
theorem tb_265 : ((Jvm.Cond.instanceMethod ({ cls := "ShadowCourt$Court", name := "worthOf", desc := "(I)I" } : Jvm.MethodName)) : Jvm.Cond) ∈ abTb := abTb_mem 269 (by decide +kernel) rfl
theorem tb_266 : ((Jvm.Cond.selects "ShadowCourt$Court" ({ cls := "ShadowCourt$Court", name := "worthOf", desc := "(I)I" } : Jvm.MethodName) ({ cls := "ShadowCourt$Court", name := "worthOf", desc := "(I)I" } : Jvm.MethodName)) : Jvm.Cond) ∈ abTb := abTb_mem 270 (by decide +kernel) rfl
theorem tb_267 : ((Jvm.Cond.code ({ cls := "ShadowCourt$Court", name := "worthOf", desc := "(I)I" } : Jvm.MethodName) prog_3_method_12_code (4 : Nat) (Option.some Jvm.ClassFile.FieldType.int)) : Jvm.Cond) ∈ abTb := abTb_mem 271 (by decide +kernel) rfl
theorem tb_268 : ((Jvm.Cond.methodLink "ShadowCourt" (119 : Nat) ({ cls := "ShadowCourt$Sight", name := "heights", desc := "(LShadowCourt$Court;I)I" } : Jvm.MethodName)) : Jvm.Cond) ∈ abTb := abTb_mem 272 (by decide +kernel) rfl
theorem tb_269 : ((Jvm.Cond.instanceMethod ({ cls := "ShadowCourt$Sight", name := "heights", desc := "(LShadowCourt$Court;I)I" } : Jvm.MethodName)) : Jvm.Cond) ∈ abTb := abTb_mem 273 (by decide +kernel) rfl
theorem tb_270 : ((Jvm.Cond.selects "ShadowCourt$Sight" ({ cls := "ShadowCourt$Sight", name := "heights", desc := "(LShadowCourt$Court;I)I" } : Jvm.MethodName) ({ cls := "ShadowCourt$Sight", name := "heights", desc := "(LShadowCourt$Court;I)I" } : Jvm.MethodName)) : Jvm.Cond) ∈ abTb := abTb_mem 274 (by decide +kernel) rfl
theorem tb_271 : ((Jvm.Cond.code ({ cls := "ShadowCourt$Sight", name := "heights", desc := "(LShadowCourt$Court;I)I" } : Jvm.MethodName) prog_10_method_2_code (5 : Nat) (Option.some Jvm.ClassFile.FieldType.int)) : Jvm.Cond) ∈ abTb := abTb_mem 275 (by decide +kernel) rfl
theorem tb_272 : ((Jvm.Cond.methodLink "ShadowCourt$Sight" (15 : Nat) ({ cls := "ShadowCourt$Sight", name := "isAsSeen", desc := "(LShadowCourt$Court;II)Z" } : Jvm.MethodName)) : Jvm.Cond) ∈ abTb := abTb_mem 276 (by decide +kernel) rfl
theorem tb_274 : ((Jvm.Cond.instanceMethod ({ cls := "ShadowCourt$Sight", name := "isAsSeen", desc := "(LShadowCourt$Court;II)Z" } : Jvm.MethodName)) : Jvm.Cond) ∈ abTb := abTb_mem 278 (by decide +kernel) rfl
theorem tb_275 : ((Jvm.Cond.code ({ cls := "ShadowCourt$Sight", name := "isAsSeen", desc := "(LShadowCourt$Court;II)Z" } : Jvm.MethodName) prog_10_method_3_code (6 : Nat) (Option.some Jvm.ClassFile.FieldType.boolean)) : Jvm.Cond) ∈ abTb := abTb_mem 279 (by decide +kernel) rfl
theorem tb_276 : ((Jvm.Cond.methodLink "ShadowCourt$Sight" (34 : Nat) ({ cls := "ShadowCourt$Court", name := "shadeIf", desc := "(IIII)I" } : Jvm.MethodName)) : Jvm.Cond) ∈ abTb := abTb_mem 280 (by decide +kernel) rfl
theorem tb_277 : ((Jvm.Cond.instanceMethod ({ cls := "ShadowCourt$Court", name := "shadeIf", desc := "(IIII)I" } : Jvm.MethodName)) : Jvm.Cond) ∈ abTb := abTb_mem 281 (by decide +kernel) rfl
theorem tb_278 : ((Jvm.Cond.selects "ShadowCourt$Court" ({ cls := "ShadowCourt$Court", name := "shadeIf", desc := "(IIII)I" } : Jvm.MethodName) ({ cls := "ShadowCourt$Court", name := "shadeIf", desc := "(IIII)I" } : Jvm.MethodName)) : Jvm.Cond) ∈ abTb := abTb_mem 282 (by decide +kernel) rfl
theorem tb_279 : ((Jvm.Cond.code ({ cls := "ShadowCourt$Court", name := "shadeIf", desc := "(IIII)I" } : Jvm.MethodName) prog_3_method_11_code (5 : Nat) (Option.some Jvm.ClassFile.FieldType.int)) : Jvm.Cond) ∈ abTb := abTb_mem 283 (by decide +kernel) rfl
theorem tb_280 : ((Jvm.Cond.methodLink "ShadowCourt" (123 : Nat) ({ cls := "ShadowCourt$Sight", name := "look", desc := "(LShadowCourt$Court;I)I" } : Jvm.MethodName)) : Jvm.Cond) ∈ abTb := abTb_mem 284 (by decide +kernel) rfl
theorem tb_281 : ((Jvm.Cond.instanceMethod ({ cls := "ShadowCourt$Sight", name := "look", desc := "(LShadowCourt$Court;I)I" } : Jvm.MethodName)) : Jvm.Cond) ∈ abTb := abTb_mem 285 (by decide +kernel) rfl
theorem tb_282 : ((Jvm.Cond.selects "ShadowCourt$Sight" ({ cls := "ShadowCourt$Sight", name := "look", desc := "(LShadowCourt$Court;I)I" } : Jvm.MethodName) ({ cls := "ShadowCourt$Sight", name := "look", desc := "(LShadowCourt$Court;I)I" } : Jvm.MethodName)) : Jvm.Cond) ∈ abTb := abTb_mem 286 (by decide +kernel) rfl
theorem tb_283 : ((Jvm.Cond.code ({ cls := "ShadowCourt$Sight", name := "look", desc := "(LShadowCourt$Court;I)I" } : Jvm.MethodName) prog_10_method_4_code (9 : Nat) (Option.some Jvm.ClassFile.FieldType.int)) : Jvm.Cond) ∈ abTb := abTb_mem 287 (by decide +kernel) rfl
theorem tb_284 : ((Jvm.Cond.methodLink "ShadowCourt$Sight" (44 : Nat) ({ cls := "ShadowCourt$Sight", name := "heights", desc := "(LShadowCourt$Court;I)I" } : Jvm.MethodName)) : Jvm.Cond) ∈ abTb := abTb_mem 288 (by decide +kernel) rfl
theorem tb_285 : ((Jvm.Cond.methodLink "ShadowCourt$Sight" (48 : Nat) ({ cls := "ShadowCourt$Sight", name := "leftAtWorst", desc := "(II)I" } : Jvm.MethodName)) : Jvm.Cond) ∈ abTb := abTb_mem 289 (by decide +kernel) rfl
theorem tb_287 : ((Jvm.Cond.instanceMethod ({ cls := "ShadowCourt$Sight", name := "leftAtWorst", desc := "(II)I" } : Jvm.MethodName)) : Jvm.Cond) ∈ abTb := abTb_mem 291 (by decide +kernel) rfl
theorem tb_288 : ((Jvm.Cond.code ({ cls := "ShadowCourt$Sight", name := "leftAtWorst", desc := "(II)I" } : Jvm.MethodName) prog_10_method_5_code (5 : Nat) (Option.some Jvm.ClassFile.FieldType.int)) : Jvm.Cond) ∈ abTb := abTb_mem 292 (by decide +kernel) rfl
theorem tb_289 : ((Jvm.Cond.methodLink "ShadowCourt$Sight" (52 : Nat) ({ cls := "java/lang/Integer", name := "bitCount", desc := "(I)I" } : Jvm.MethodName)) : Jvm.Cond) ∈ abTb := abTb_mem 293 (by decide +kernel) rfl
theorem tb_290 : ((Jvm.Cond.static ({ cls := "java/lang/Integer", name := "bitCount", desc := "(I)I" } : Jvm.MethodName)) : Jvm.Cond) ∈ abTb := abTb_mem 294 (by decide +kernel) rfl
theorem tb_291 : ((Jvm.Cond.code ({ cls := "java/lang/Integer", name := "bitCount", desc := "(I)I" } : Jvm.MethodName) prog_16_method_49_code (1 : Nat) (Option.some Jvm.ClassFile.FieldType.int)) : Jvm.Cond) ∈ abTb := abTb_mem 295 (by decide +kernel) rfl
theorem tb_292 : ((Jvm.Cond.constant "java/lang/Integer" (265 : Nat) (1431655765 : Int32)) : Jvm.Cond) ∈ abTb := abTb_mem 296 (by decide +kernel) rfl
theorem tb_293 : ((Jvm.Cond.constant "java/lang/Integer" (266 : Nat) (858993459 : Int32)) : Jvm.Cond) ∈ abTb := abTb_mem 297 (by decide +kernel) rfl
theorem tb_294 : ((Jvm.Cond.constant "java/lang/Integer" (267 : Nat) (252645135 : Int32)) : Jvm.Cond) ∈ abTb := abTb_mem 298 (by decide +kernel) rfl
theorem tb_295 : ((Jvm.Cond.methodLink "ShadowCourt$Sight" (58 : Nat) ({ cls := "java/lang/Math", name := "max", desc := "(II)I" } : Jvm.MethodName)) : Jvm.Cond) ∈ abTb := abTb_mem 299 (by decide +kernel) rfl
theorem tb_296 : ((Jvm.Cond.static ({ cls := "java/lang/Math", name := "max", desc := "(II)I" } : Jvm.MethodName)) : Jvm.Cond) ∈ abTb := abTb_mem 300 (by decide +kernel) rfl
theorem tb_297 : ((Jvm.Cond.code ({ cls := "java/lang/Math", name := "max", desc := "(II)I" } : Jvm.MethodName) prog_17_method_65_code (2 : Nat) (Option.some Jvm.ClassFile.FieldType.int)) : Jvm.Cond) ∈ abTb := abTb_mem 301 (by decide +kernel) rfl
theorem tb_302 : ((Jvm.Cond.classLink "ShadowCourt" (126 : Nat) "ShadowCourt$Hat") : Jvm.Cond) ∈ abTb := abTb_mem 306 (by decide +kernel) rfl
theorem tb_303 : ((Jvm.Cond.classLink "ShadowCourt" (128 : Nat) "ShadowCourt$Thin") : Jvm.Cond) ∈ abTb := abTb_mem 307 (by decide +kernel) rfl
theorem tb_304 : ((Jvm.Cond.classLink "ShadowCourt" (130 : Nat) "ShadowCourt$Child") : Jvm.Cond) ∈ abTb := abTb_mem 308 (by decide +kernel) rfl
theorem tb_305 : ((Jvm.Cond.classLink "ShadowCourt" (132 : Nat) "ShadowCourt$Plume") : Jvm.Cond) ∈ abTb := abTb_mem 309 (by decide +kernel) rfl
theorem tb_310 : ((Jvm.Cond.methodLink "ShadowCourt" (134 : Nat) ({ cls := "ShadowCourt", name := "isHour", desc := "(I)Z" } : Jvm.MethodName)) : Jvm.Cond) ∈ abTb := abTb_mem 314 (by decide +kernel) rfl
theorem tb_311 : ((Jvm.Cond.static ({ cls := "ShadowCourt", name := "isHour", desc := "(I)Z" } : Jvm.MethodName)) : Jvm.Cond) ∈ abTb := abTb_mem 315 (by decide +kernel) rfl
theorem tb_312 : ((Jvm.Cond.code ({ cls := "ShadowCourt", name := "isHour", desc := "(I)Z" } : Jvm.MethodName) prog_1_method_31_code (1 : Nat) (Option.some Jvm.ClassFile.FieldType.boolean)) : Jvm.Cond) ∈ abTb := abTb_mem 316 (by decide +kernel) rfl
theorem tb_317 : ((Jvm.Cond.methodLink "ShadowCourt" (137 : Nat) ({ cls := "ShadowCourt$Court", name := "hasTile", desc := "(I)Z" } : Jvm.MethodName)) : Jvm.Cond) ∈ abTb := abTb_mem 321 (by decide +kernel) rfl
theorem tb_318 : ((Jvm.Cond.instanceMethod ({ cls := "ShadowCourt$Court", name := "hasTile", desc := "(I)Z" } : Jvm.MethodName)) : Jvm.Cond) ∈ abTb := abTb_mem 322 (by decide +kernel) rfl
theorem tb_319 : ((Jvm.Cond.selects "ShadowCourt$Court" ({ cls := "ShadowCourt$Court", name := "hasTile", desc := "(I)Z" } : Jvm.MethodName) ({ cls := "ShadowCourt$Court", name := "hasTile", desc := "(I)Z" } : Jvm.MethodName)) : Jvm.Cond) ∈ abTb := abTb_mem 323 (by decide +kernel) rfl
theorem tb_320 : ((Jvm.Cond.code ({ cls := "ShadowCourt$Court", name := "hasTile", desc := "(I)Z" } : Jvm.MethodName) prog_3_method_8_code (2 : Nat) (Option.some Jvm.ClassFile.FieldType.boolean)) : Jvm.Cond) ∈ abTb := abTb_mem 324 (by decide +kernel) rfl
theorem tb_321 : ((Jvm.Cond.methodLink "ShadowCourt$Court" (97 : Nat) ({ cls := "ShadowCourt$Court", name := "isNone", desc := "()Z" } : Jvm.MethodName)) : Jvm.Cond) ∈ abTb := abTb_mem 325 (by decide +kernel) rfl
theorem tb_322 : ((Jvm.Cond.instanceMethod ({ cls := "ShadowCourt$Court", name := "isNone", desc := "()Z" } : Jvm.MethodName)) : Jvm.Cond) ∈ abTb := abTb_mem 326 (by decide +kernel) rfl
theorem tb_323 : ((Jvm.Cond.selects "ShadowCourt$Court" ({ cls := "ShadowCourt$Court", name := "isNone", desc := "()Z" } : Jvm.MethodName) ({ cls := "ShadowCourt$Court", name := "isNone", desc := "()Z" } : Jvm.MethodName)) : Jvm.Cond) ∈ abTb := abTb_mem 327 (by decide +kernel) rfl
theorem tb_324 : ((Jvm.Cond.code ({ cls := "ShadowCourt$Court", name := "isNone", desc := "()Z" } : Jvm.MethodName) prog_3_method_5_code (1 : Nat) (Option.some Jvm.ClassFile.FieldType.boolean)) : Jvm.Cond) ∈ abTb := abTb_mem 328 (by decide +kernel) rfl
theorem tb_326 : ((Jvm.Cond.methodLink "ShadowCourt" (143 : Nat) ({ cls := "ShadowCourt$Court", name := "standingOn", desc := "(I)I" } : Jvm.MethodName)) : Jvm.Cond) ∈ abTb := abTb_mem 330 (by decide +kernel) rfl
theorem tb_327 : ((Jvm.Cond.instanceMethod ({ cls := "ShadowCourt$Court", name := "standingOn", desc := "(I)I" } : Jvm.MethodName)) : Jvm.Cond) ∈ abTb := abTb_mem 331 (by decide +kernel) rfl
theorem tb_328 : ((Jvm.Cond.selects "ShadowCourt$Court" ({ cls := "ShadowCourt$Court", name := "standingOn", desc := "(I)I" } : Jvm.MethodName) ({ cls := "ShadowCourt$Court", name := "standingOn", desc := "(I)I" } : Jvm.MethodName)) : Jvm.Cond) ∈ abTb := abTb_mem 332 (by decide +kernel) rfl
theorem tb_329 : ((Jvm.Cond.code ({ cls := "ShadowCourt$Court", name := "standingOn", desc := "(I)I" } : Jvm.MethodName) prog_3_method_14_code (4 : Nat) (Option.some Jvm.ClassFile.FieldType.int)) : Jvm.Cond) ∈ abTb := abTb_mem 333 (by decide +kernel) rfl
theorem tb_330 : ((Jvm.Cond.methodLink "ShadowCourt" (146 : Nat) ({ cls := "ShadowCourt$Court", name := "covering", desc := "(I)I" } : Jvm.MethodName)) : Jvm.Cond) ∈ abTb := abTb_mem 334 (by decide +kernel) rfl
theorem tb_331 : ((Jvm.Cond.instanceMethod ({ cls := "ShadowCourt$Court", name := "covering", desc := "(I)I" } : Jvm.MethodName)) : Jvm.Cond) ∈ abTb := abTb_mem 335 (by decide +kernel) rfl
theorem tb_332 : ((Jvm.Cond.selects "ShadowCourt$Court" ({ cls := "ShadowCourt$Court", name := "covering", desc := "(I)I" } : Jvm.MethodName) ({ cls := "ShadowCourt$Court", name := "covering", desc := "(I)I" } : Jvm.MethodName)) : Jvm.Cond) ∈ abTb := abTb_mem 336 (by decide +kernel) rfl
theorem tb_333 : ((Jvm.Cond.code ({ cls := "ShadowCourt$Court", name := "covering", desc := "(I)I" } : Jvm.MethodName) prog_3_method_15_code (4 : Nat) (Option.some Jvm.ClassFile.FieldType.int)) : Jvm.Cond) ∈ abTb := abTb_mem 337 (by decide +kernel) rfl
theorem tb_334 : ((Jvm.Cond.methodLink "ShadowCourt$Court" (108 : Nat) ({ cls := "ShadowCourt$Court", name := "shade", desc := "(II)I" } : Jvm.MethodName)) : Jvm.Cond) ∈ abTb := abTb_mem 338 (by decide +kernel) rfl
theorem tb_339 : ((Jvm.Cond.methodLink "ShadowCourt" (149 : Nat) ({ cls := "ShadowCourt$Court", name := "hasTwo", desc := "(II)Z" } : Jvm.MethodName)) : Jvm.Cond) ∈ abTb := abTb_mem 343 (by decide +kernel) rfl
theorem tb_340 : ((Jvm.Cond.instanceMethod ({ cls := "ShadowCourt$Court", name := "hasTwo", desc := "(II)Z" } : Jvm.MethodName)) : Jvm.Cond) ∈ abTb := abTb_mem 344 (by decide +kernel) rfl
theorem tb_341 : ((Jvm.Cond.selects "ShadowCourt$Court" ({ cls := "ShadowCourt$Court", name := "hasTwo", desc := "(II)Z" } : Jvm.MethodName) ({ cls := "ShadowCourt$Court", name := "hasTwo", desc := "(II)Z" } : Jvm.MethodName)) : Jvm.Cond) ∈ abTb := abTb_mem 345 (by decide +kernel) rfl
theorem tb_342 : ((Jvm.Cond.code ({ cls := "ShadowCourt$Court", name := "hasTwo", desc := "(II)Z" } : Jvm.MethodName) prog_3_method_7_code (3 : Nat) (Option.some Jvm.ClassFile.FieldType.boolean)) : Jvm.Cond) ∈ abTb := abTb_mem 346 (by decide +kernel) rfl
theorem tb_343 : ((Jvm.Cond.methodLink "ShadowCourt" (153 : Nat) ({ cls := "ShadowCourt$Court", name := "balance", desc := "(III)I" } : Jvm.MethodName)) : Jvm.Cond) ∈ abTb := abTb_mem 347 (by decide +kernel) rfl
theorem tb_344 : ((Jvm.Cond.instanceMethod ({ cls := "ShadowCourt$Court", name := "balance", desc := "(III)I" } : Jvm.MethodName)) : Jvm.Cond) ∈ abTb := abTb_mem 348 (by decide +kernel) rfl
theorem tb_345 : ((Jvm.Cond.selects "ShadowCourt$Court" ({ cls := "ShadowCourt$Court", name := "balance", desc := "(III)I" } : Jvm.MethodName) ({ cls := "ShadowCourt$Court", name := "balance", desc := "(III)I" } : Jvm.MethodName)) : Jvm.Cond) ∈ abTb := abTb_mem 349 (by decide +kernel) rfl
theorem tb_346 : ((Jvm.Cond.code ({ cls := "ShadowCourt$Court", name := "balance", desc := "(III)I" } : Jvm.MethodName) prog_3_method_13_code (4 : Nat) (Option.some Jvm.ClassFile.FieldType.int)) : Jvm.Cond) ∈ abTb := abTb_mem 350 (by decide +kernel) rfl
theorem tb_347 : ((Jvm.Cond.methodLink "ShadowCourt$Court" (110 : Nat) ({ cls := "ShadowCourt$Court", name := "worthOf", desc := "(I)I" } : Jvm.MethodName)) : Jvm.Cond) ∈ abTb := abTb_mem 351 (by decide +kernel) rfl
theorem tb_352 : ((Jvm.Cond.methodLink "ShadowCourt" (163 : Nat) ({ cls := "ShadowCourt", name := "isTile", desc := "(I)Z" } : Jvm.MethodName)) : Jvm.Cond) ∈ abTb := abTb_mem 356 (by decide +kernel) rfl
theorem tb_361 : ((Jvm.Cond.methodLink "ShadowCourt" (54 : Nat) ({ cls := "ShadowCourt", name := "within", desc := "(III)Z" } : Jvm.MethodName)) : Jvm.Cond) ∈ abTb := abTb_mem 365 (by decide +kernel) rfl
theorem tb_362 : ((Jvm.Cond.static ({ cls := "ShadowCourt", name := "within", desc := "(III)Z" } : Jvm.MethodName)) : Jvm.Cond) ∈ abTb := abTb_mem 366 (by decide +kernel) rfl
theorem tb_363 : ((Jvm.Cond.code ({ cls := "ShadowCourt", name := "within", desc := "(III)Z" } : Jvm.MethodName) prog_1_method_29_code (3 : Nat) (Option.some Jvm.ClassFile.FieldType.boolean)) : Jvm.Cond) ∈ abTb := abTb_mem 367 (by decide +kernel) rfl
theorem tb_376 : ((Jvm.Cond.methodLink "ShadowCourt" (157 : Nat) ({ cls := "ShadowCourt$Court", name := "isNone", desc := "()Z" } : Jvm.MethodName)) : Jvm.Cond) ∈ abTb := abTb_mem 380 (by decide +kernel) rfl
theorem tb_377 : ((Jvm.Cond.methodLink "ShadowCourt" (214 : Nat) ({ cls := "ShadowCourt$Terms", name := "hold", desc := "(LShadowCourt$Court;II)V" } : Jvm.MethodName)) : Jvm.Cond) ∈ abTb := abTb_mem 381 (by decide +kernel) rfl
theorem tb_378 : ((Jvm.Cond.instanceMethod ({ cls := "ShadowCourt$Terms", name := "hold", desc := "(LShadowCourt$Court;II)V" } : Jvm.MethodName)) : Jvm.Cond) ∈ abTb := abTb_mem 382 (by decide +kernel) rfl
theorem tb_379 : ((Jvm.Cond.selects "ShadowCourt$Terms" ({ cls := "ShadowCourt$Terms", name := "hold", desc := "(LShadowCourt$Court;II)V" } : Jvm.MethodName) ({ cls := "ShadowCourt$Terms", name := "hold", desc := "(LShadowCourt$Court;II)V" } : Jvm.MethodName)) : Jvm.Cond) ∈ abTb := abTb_mem 383 (by decide +kernel) rfl
theorem tb_380 : ((Jvm.Cond.code ({ cls := "ShadowCourt$Terms", name := "hold", desc := "(LShadowCourt$Court;II)V" } : Jvm.MethodName) prog_11_method_2_code (9 : Nat) (Option.none : Option Jvm.ClassFile.FieldType)) : Jvm.Cond) ∈ abTb := abTb_mem 384 (by decide +kernel) rfl
theorem tb_381 : ((Jvm.Cond.methodLink "ShadowCourt$Terms" (27 : Nat) ({ cls := "ShadowCourt$Terms", name := "draw", desc := "(I)I" } : Jvm.MethodName)) : Jvm.Cond) ∈ abTb := abTb_mem 385 (by decide +kernel) rfl
theorem tb_383 : ((Jvm.Cond.instanceMethod ({ cls := "ShadowCourt$Terms", name := "draw", desc := "(I)I" } : Jvm.MethodName)) : Jvm.Cond) ∈ abTb := abTb_mem 387 (by decide +kernel) rfl
theorem tb_384 : ((Jvm.Cond.code ({ cls := "ShadowCourt$Terms", name := "draw", desc := "(I)I" } : Jvm.MethodName) prog_11_method_3_code (2 : Nat) (Option.some Jvm.ClassFile.FieldType.int)) : Jvm.Cond) ∈ abTb := abTb_mem 388 (by decide +kernel) rfl
theorem tb_385 : ((Jvm.Cond.constantLong "ShadowCourt$Terms" (35 : Nat) (1103515245 : Int64)) : Jvm.Cond) ∈ abTb := abTb_mem 389 (by decide +kernel) rfl
theorem tb_386 : ((Jvm.Cond.constantLong "ShadowCourt$Terms" (37 : Nat) (12345 : Int64)) : Jvm.Cond) ∈ abTb := abTb_mem 390 (by decide +kernel) rfl
theorem tb_387 : ((Jvm.Cond.constantLong "ShadowCourt$Terms" (39 : Nat) (2147483648 : Int64)) : Jvm.Cond) ∈ abTb := abTb_mem 391 (by decide +kernel) rfl
theorem tb_388 : ((Jvm.Cond.constantLong "ShadowCourt$Terms" (41 : Nat) (65536 : Int64)) : Jvm.Cond) ∈ abTb := abTb_mem 392 (by decide +kernel) rfl
theorem tb_389 : ((Jvm.Cond.methodLink "ShadowCourt$Terms" (31 : Nat) ({ cls := "ShadowCourt$Court", name := "balance", desc := "(III)I" } : Jvm.MethodName)) : Jvm.Cond) ∈ abTb := abTb_mem 393 (by decide +kernel) rfl
theorem tb_408 : ((Jvm.Cond.methodLink "ShadowCourt" (66 : Nat) ({ cls := "ShadowCourt$Page", name := "firstWrong", desc := "()I" } : Jvm.MethodName)) : Jvm.Cond) ∈ abTb := abTb_mem 412 (by decide +kernel) rfl
theorem tb_409 : ((Jvm.Cond.instanceMethod ({ cls := "ShadowCourt$Page", name := "firstWrong", desc := "()I" } : Jvm.MethodName)) : Jvm.Cond) ∈ abTb := abTb_mem 413 (by decide +kernel) rfl
theorem tb_410 : ((Jvm.Cond.selects "ShadowCourt$Page" ({ cls := "ShadowCourt$Page", name := "firstWrong", desc := "()I" } : Jvm.MethodName) ({ cls := "ShadowCourt$Page", name := "firstWrong", desc := "()I" } : Jvm.MethodName)) : Jvm.Cond) ∈ abTb := abTb_mem 414 (by decide +kernel) rfl
theorem tb_411 : ((Jvm.Cond.code ({ cls := "ShadowCourt$Page", name := "firstWrong", desc := "()I" } : Jvm.MethodName) prog_8_method_2_code (2 : Nat) (Option.some Jvm.ClassFile.FieldType.int)) : Jvm.Cond) ∈ abTb := abTb_mem 415 (by decide +kernel) rfl
theorem tb_412 : ((Jvm.Cond.methodLink "ShadowCourt$Page" (19 : Nat) ({ cls := "ShadowCourt$Page", name := "fits", desc := "(I)Z" } : Jvm.MethodName)) : Jvm.Cond) ∈ abTb := abTb_mem 416 (by decide +kernel) rfl
theorem tb_414 : ((Jvm.Cond.instanceMethod ({ cls := "ShadowCourt$Page", name := "fits", desc := "(I)Z" } : Jvm.MethodName)) : Jvm.Cond) ∈ abTb := abTb_mem 418 (by decide +kernel) rfl
theorem tb_415 : ((Jvm.Cond.code ({ cls := "ShadowCourt$Page", name := "fits", desc := "(I)Z" } : Jvm.MethodName) prog_8_method_8_code (3 : Nat) (Option.some Jvm.ClassFile.FieldType.boolean)) : Jvm.Cond) ∈ abTb := abTb_mem 419 (by decide +kernel) rfl
theorem tb_418 : ((Jvm.Cond.methodLink "ShadowCourt$Page" (54 : Nat) ({ cls := "java/lang/String", name := "indexOf", desc := "(I)I" } : Jvm.MethodName)) : Jvm.Cond) ∈ abTb := abTb_mem 422 (by decide +kernel) rfl
theorem tb_419 : ((Jvm.Cond.instanceMethod ({ cls := "java/lang/String", name := "indexOf", desc := "(I)I" } : Jvm.MethodName)) : Jvm.Cond) ∈ abTb := abTb_mem 423 (by decide +kernel) rfl
theorem tb_420 : ((Jvm.Cond.selects "java/lang/String" ({ cls := "java/lang/String", name := "indexOf", desc := "(I)I" } : Jvm.MethodName) ({ cls := "java/lang/String", name := "indexOf", desc := "(I)I" } : Jvm.MethodName)) : Jvm.Cond) ∈ abTb := abTb_mem 424 (by decide +kernel) rfl
theorem tb_421 : ((Jvm.Cond.code ({ cls := "java/lang/String", name := "indexOf", desc := "(I)I" } : Jvm.MethodName) prog_18_method_79_code (2 : Nat) (Option.some Jvm.ClassFile.FieldType.int)) : Jvm.Cond) ∈ abTb := abTb_mem 425 (by decide +kernel) rfl
theorem tb_422 : ((Jvm.Cond.methodLink "java/lang/String" (633 : Nat) ({ cls := "java/lang/String", name := "indexOf", desc := "(II)I" } : Jvm.MethodName)) : Jvm.Cond) ∈ abTb := abTb_mem 426 (by decide +kernel) rfl
theorem tb_423 : ((Jvm.Cond.instanceMethod ({ cls := "java/lang/String", name := "indexOf", desc := "(II)I" } : Jvm.MethodName)) : Jvm.Cond) ∈ abTb := abTb_mem 427 (by decide +kernel) rfl
theorem tb_424 : ((Jvm.Cond.selects "java/lang/String" ({ cls := "java/lang/String", name := "indexOf", desc := "(II)I" } : Jvm.MethodName) ({ cls := "java/lang/String", name := "indexOf", desc := "(II)I" } : Jvm.MethodName)) : Jvm.Cond) ∈ abTb := abTb_mem 428 (by decide +kernel) rfl
theorem tb_425 : ((Jvm.Cond.code ({ cls := "java/lang/String", name := "indexOf", desc := "(II)I" } : Jvm.MethodName) prog_18_method_80_code (3 : Nat) (Option.some Jvm.ClassFile.FieldType.int)) : Jvm.Cond) ∈ abTb := abTb_mem 429 (by decide +kernel) rfl
theorem tb_426 : ((Jvm.Cond.methodLink "java/lang/String" (492 : Nat) ({ cls := "java/lang/String", name := "isLatin1", desc := "()Z" } : Jvm.MethodName)) : Jvm.Cond) ∈ abTb := abTb_mem 430 (by decide +kernel) rfl
theorem tb_427 : ((Jvm.Cond.instanceMethod ({ cls := "java/lang/String", name := "isLatin1", desc := "()Z" } : Jvm.MethodName)) : Jvm.Cond) ∈ abTb := abTb_mem 431 (by decide +kernel) rfl
theorem tb_428 : ((Jvm.Cond.selects "java/lang/String" ({ cls := "java/lang/String", name := "isLatin1", desc := "()Z" } : Jvm.MethodName) ({ cls := "java/lang/String", name := "isLatin1", desc := "()Z" } : Jvm.MethodName)) : Jvm.Cond) ∈ abTb := abTb_mem 432 (by decide +kernel) rfl
theorem tb_429 : ((Jvm.Cond.code ({ cls := "java/lang/String", name := "isLatin1", desc := "()Z" } : Jvm.MethodName) prog_18_method_154_code (1 : Nat) (Option.some Jvm.ClassFile.FieldType.boolean)) : Jvm.Cond) ∈ abTb := abTb_mem 433 (by decide +kernel) rfl
theorem tb_430 : ((Jvm.Cond.fieldLink "java/lang/String" (38 : Nat) "java/lang/String" "COMPACT_STRINGS" "Z") : Jvm.Cond) ∈ abTb := abTb_mem 434 (by decide +kernel) rfl
theorem tb_432 : ((Jvm.Cond.methodLink "java/lang/String" (505 : Nat) ({ cls := "java/lang/String", name := "length", desc := "()I" } : Jvm.MethodName)) : Jvm.Cond) ∈ abTb := abTb_mem 436 (by decide +kernel) rfl
theorem tb_433 : ((Jvm.Cond.instanceMethod ({ cls := "java/lang/String", name := "length", desc := "()I" } : Jvm.MethodName)) : Jvm.Cond) ∈ abTb := abTb_mem 437 (by decide +kernel) rfl
theorem tb_434 : ((Jvm.Cond.selects "java/lang/String" ({ cls := "java/lang/String", name := "length", desc := "()I" } : Jvm.MethodName) ({ cls := "java/lang/String", name := "length", desc := "()I" } : Jvm.MethodName)) : Jvm.Cond) ∈ abTb := abTb_mem 438 (by decide +kernel) rfl
theorem tb_435 : ((Jvm.Cond.code ({ cls := "java/lang/String", name := "length", desc := "()I" } : Jvm.MethodName) prog_18_method_54_code (1 : Nat) (Option.some Jvm.ClassFile.FieldType.int)) : Jvm.Cond) ∈ abTb := abTb_mem 439 (by decide +kernel) rfl
theorem tb_436 : ((Jvm.Cond.methodLink "java/lang/String" (335 : Nat) ({ cls := "java/lang/String", name := "coder", desc := "()B" } : Jvm.MethodName)) : Jvm.Cond) ∈ abTb := abTb_mem 440 (by decide +kernel) rfl
theorem tb_437 : ((Jvm.Cond.instanceMethod ({ cls := "java/lang/String", name := "coder", desc := "()B" } : Jvm.MethodName)) : Jvm.Cond) ∈ abTb := abTb_mem 441 (by decide +kernel) rfl
theorem tb_438 : ((Jvm.Cond.selects "java/lang/String" ({ cls := "java/lang/String", name := "coder", desc := "()B" } : Jvm.MethodName) ({ cls := "java/lang/String", name := "coder", desc := "()B" } : Jvm.MethodName)) : Jvm.Cond) ∈ abTb := abTb_mem 442 (by decide +kernel) rfl
theorem tb_439 : ((Jvm.Cond.code ({ cls := "java/lang/String", name := "coder", desc := "()B" } : Jvm.MethodName) prog_18_method_152_code (1 : Nat) (Option.some Jvm.ClassFile.FieldType.byte)) : Jvm.Cond) ∈ abTb := abTb_mem 443 (by decide +kernel) rfl
theorem tb_440 : ((Jvm.Cond.methodLink "java/lang/String" (637 : Nat) ({ cls := "java/lang/StringLatin1", name := "indexOf", desc := "([BIII)I" } : Jvm.MethodName)) : Jvm.Cond) ∈ abTb := abTb_mem 444 (by decide +kernel) rfl
theorem tb_441 : ((Jvm.Cond.static ({ cls := "java/lang/StringLatin1", name := "indexOf", desc := "([BIII)I" } : Jvm.MethodName)) : Jvm.Cond) ∈ abTb := abTb_mem 445 (by decide +kernel) rfl
theorem tb_442 : ((Jvm.Cond.code ({ cls := "java/lang/StringLatin1", name := "indexOf", desc := "([BIII)I" } : Jvm.MethodName) prog_19_method_22_code (4 : Nat) (Option.some Jvm.ClassFile.FieldType.int)) : Jvm.Cond) ∈ abTb := abTb_mem 446 (by decide +kernel) rfl
theorem tb_443 : ((Jvm.Cond.methodLink "java/lang/StringLatin1" (88 : Nat) ({ cls := "java/lang/StringLatin1", name := "canEncode", desc := "(I)Z" } : Jvm.MethodName)) : Jvm.Cond) ∈ abTb := abTb_mem 447 (by decide +kernel) rfl
theorem tb_444 : ((Jvm.Cond.static ({ cls := "java/lang/StringLatin1", name := "canEncode", desc := "(I)Z" } : Jvm.MethodName)) : Jvm.Cond) ∈ abTb := abTb_mem 448 (by decide +kernel) rfl
theorem tb_445 : ((Jvm.Cond.code ({ cls := "java/lang/StringLatin1", name := "canEncode", desc := "(I)Z" } : Jvm.MethodName) prog_19_method_4_code (1 : Nat) (Option.some Jvm.ClassFile.FieldType.boolean)) : Jvm.Cond) ∈ abTb := abTb_mem 449 (by decide +kernel) rfl
theorem tb_446 : ((Jvm.Cond.methodLink "java/lang/StringLatin1" (92 : Nat) ({ cls := "java/lang/Math", name := "max", desc := "(II)I" } : Jvm.MethodName)) : Jvm.Cond) ∈ abTb := abTb_mem 450 (by decide +kernel) rfl
theorem tb_447 : ((Jvm.Cond.methodLink "java/lang/StringLatin1" (38 : Nat) ({ cls := "java/lang/Math", name := "min", desc := "(II)I" } : Jvm.MethodName)) : Jvm.Cond) ∈ abTb := abTb_mem 451 (by decide +kernel) rfl
theorem tb_448 : ((Jvm.Cond.static ({ cls := "java/lang/Math", name := "min", desc := "(II)I" } : Jvm.MethodName)) : Jvm.Cond) ∈ abTb := abTb_mem 452 (by decide +kernel) rfl
theorem tb_449 : ((Jvm.Cond.code ({ cls := "java/lang/Math", name := "min", desc := "(II)I" } : Jvm.MethodName) prog_17_method_69_code (2 : Nat) (Option.some Jvm.ClassFile.FieldType.int)) : Jvm.Cond) ∈ abTb := abTb_mem 453 (by decide +kernel) rfl
theorem tb_450 : ((Jvm.Cond.methodLink "java/lang/StringLatin1" (95 : Nat) ({ cls := "java/lang/StringLatin1", name := "indexOfChar", desc := "([BIII)I" } : Jvm.MethodName)) : Jvm.Cond) ∈ abTb := abTb_mem 454 (by decide +kernel) rfl
theorem tb_451 : ((Jvm.Cond.static ({ cls := "java/lang/StringLatin1", name := "indexOfChar", desc := "([BIII)I" } : Jvm.MethodName)) : Jvm.Cond) ∈ abTb := abTb_mem 455 (by decide +kernel) rfl
theorem tb_452 : ((Jvm.Cond.code ({ cls := "java/lang/StringLatin1", name := "indexOfChar", desc := "([BIII)I" } : Jvm.MethodName) prog_19_method_23_code (6 : Nat) (Option.some Jvm.ClassFile.FieldType.int)) : Jvm.Cond) ∈ abTb := abTb_mem 456 (by decide +kernel) rfl
theorem tb_506 : ((Jvm.Cond.methodLink "ShadowCourt" (70 : Nat) ({ cls := "ShadowCourt$Page", name := "isCourt", desc := "()Z" } : Jvm.MethodName)) : Jvm.Cond) ∈ abTb := abTb_mem 510 (by decide +kernel) rfl
theorem tb_507 : ((Jvm.Cond.instanceMethod ({ cls := "ShadowCourt$Page", name := "isCourt", desc := "()Z" } : Jvm.MethodName)) : Jvm.Cond) ∈ abTb := abTb_mem 511 (by decide +kernel) rfl
theorem tb_508 : ((Jvm.Cond.selects "ShadowCourt$Page" ({ cls := "ShadowCourt$Page", name := "isCourt", desc := "()Z" } : Jvm.MethodName) ({ cls := "ShadowCourt$Page", name := "isCourt", desc := "()Z" } : Jvm.MethodName)) : Jvm.Cond) ∈ abTb := abTb_mem 512 (by decide +kernel) rfl
theorem tb_509 : ((Jvm.Cond.code ({ cls := "ShadowCourt$Page", name := "isCourt", desc := "()Z" } : Jvm.MethodName) prog_8_method_3_code (1 : Nat) (Option.some Jvm.ClassFile.FieldType.boolean)) : Jvm.Cond) ∈ abTb := abTb_mem 513 (by decide +kernel) rfl
theorem tb_510 : ((Jvm.Cond.methodLink "ShadowCourt$Page" (23 : Nat) ({ cls := "ShadowCourt$Page", name := "hasWholeParties", desc := "()Z" } : Jvm.MethodName)) : Jvm.Cond) ∈ abTb := abTb_mem 514 (by decide +kernel) rfl
theorem tb_511 : ((Jvm.Cond.instanceMethod ({ cls := "ShadowCourt$Page", name := "hasWholeParties", desc := "()Z" } : Jvm.MethodName)) : Jvm.Cond) ∈ abTb := abTb_mem 515 (by decide +kernel) rfl
theorem tb_512 : ((Jvm.Cond.selects "ShadowCourt$Page" ({ cls := "ShadowCourt$Page", name := "hasWholeParties", desc := "()Z" } : Jvm.MethodName) ({ cls := "ShadowCourt$Page", name := "hasWholeParties", desc := "()Z" } : Jvm.MethodName)) : Jvm.Cond) ∈ abTb := abTb_mem 516 (by decide +kernel) rfl
theorem tb_513 : ((Jvm.Cond.code ({ cls := "ShadowCourt$Page", name := "hasWholeParties", desc := "()Z" } : Jvm.MethodName) prog_8_method_4_code (1 : Nat) (Option.some Jvm.ClassFile.FieldType.boolean)) : Jvm.Cond) ∈ abTb := abTb_mem 517 (by decide +kernel) rfl
theorem tb_514 : ((Jvm.Cond.methodLink "ShadowCourt$Page" (27 : Nat) ({ cls := "ShadowCourt$Page", name := "firstWrong", desc := "()I" } : Jvm.MethodName)) : Jvm.Cond) ∈ abTb := abTb_mem 518 (by decide +kernel) rfl
theorem tb_515 : ((Jvm.Cond.methodLink "ShadowCourt" (74 : Nat) ({ cls := "ShadowCourt$Court", name := "read", desc := "(LShadowCourt$Page;)V" } : Jvm.MethodName)) : Jvm.Cond) ∈ abTb := abTb_mem 519 (by decide +kernel) rfl
theorem tb_516 : ((Jvm.Cond.instanceMethod ({ cls := "ShadowCourt$Court", name := "read", desc := "(LShadowCourt$Page;)V" } : Jvm.MethodName)) : Jvm.Cond) ∈ abTb := abTb_mem 520 (by decide +kernel) rfl
theorem tb_517 : ((Jvm.Cond.selects "ShadowCourt$Court" ({ cls := "ShadowCourt$Court", name := "read", desc := "(LShadowCourt$Page;)V" } : Jvm.MethodName) ({ cls := "ShadowCourt$Court", name := "read", desc := "(LShadowCourt$Page;)V" } : Jvm.MethodName)) : Jvm.Cond) ∈ abTb := abTb_mem 521 (by decide +kernel) rfl
theorem tb_518 : ((Jvm.Cond.code ({ cls := "ShadowCourt$Court", name := "read", desc := "(LShadowCourt$Page;)V" } : Jvm.MethodName) prog_3_method_2_code (3 : Nat) (Option.none : Option Jvm.ClassFile.FieldType)) : Jvm.Cond) ∈ abTb := abTb_mem 522 (by decide +kernel) rfl
theorem tb_519 : ((Jvm.Cond.methodLink "ShadowCourt$Court" (51 : Nat) ({ cls := "ShadowCourt$Page", name := "parties", desc := "()I" } : Jvm.MethodName)) : Jvm.Cond) ∈ abTb := abTb_mem 523 (by decide +kernel) rfl
theorem tb_520 : ((Jvm.Cond.instanceMethod ({ cls := "ShadowCourt$Page", name := "parties", desc := "()I" } : Jvm.MethodName)) : Jvm.Cond) ∈ abTb := abTb_mem 524 (by decide +kernel) rfl
theorem tb_521 : ((Jvm.Cond.selects "ShadowCourt$Page" ({ cls := "ShadowCourt$Page", name := "parties", desc := "()I" } : Jvm.MethodName) ({ cls := "ShadowCourt$Page", name := "parties", desc := "()I" } : Jvm.MethodName)) : Jvm.Cond) ∈ abTb := abTb_mem 525 (by decide +kernel) rfl
theorem tb_522 : ((Jvm.Cond.code ({ cls := "ShadowCourt$Page", name := "parties", desc := "()I" } : Jvm.MethodName) prog_8_method_5_code (1 : Nat) (Option.some Jvm.ClassFile.FieldType.int)) : Jvm.Cond) ∈ abTb := abTb_mem 526 (by decide +kernel) rfl
theorem tb_523 : ((Jvm.Cond.methodLink "ShadowCourt$Court" (55 : Nat) ({ cls := "java/lang/Math", name := "min", desc := "(II)I" } : Jvm.MethodName)) : Jvm.Cond) ∈ abTb := abTb_mem 527 (by decide +kernel) rfl
theorem tb_524 : ((Jvm.Cond.methodLink "ShadowCourt$Court" (64 : Nat) ({ cls := "ShadowCourt$Page", name := "kindOf", desc := "(I)LShadowCourt$Kind;" } : Jvm.MethodName)) : Jvm.Cond) ∈ abTb := abTb_mem 528 (by decide +kernel) rfl
theorem tb_525 : ((Jvm.Cond.instanceMethod ({ cls := "ShadowCourt$Page", name := "kindOf", desc := "(I)LShadowCourt$Kind;" } : Jvm.MethodName)) : Jvm.Cond) ∈ abTb := abTb_mem 529 (by decide +kernel) rfl
theorem tb_526 : ((Jvm.Cond.selects "ShadowCourt$Page" ({ cls := "ShadowCourt$Page", name := "kindOf", desc := "(I)LShadowCourt$Kind;" } : Jvm.MethodName) ({ cls := "ShadowCourt$Page", name := "kindOf", desc := "(I)LShadowCourt$Kind;" } : Jvm.MethodName)) : Jvm.Cond) ∈ abTb := abTb_mem 530 (by decide +kernel) rfl
theorem tb_527 : ((Jvm.Cond.code ({ cls := "ShadowCourt$Page", name := "kindOf", desc := "(I)LShadowCourt$Kind;" } : Jvm.MethodName) prog_8_method_7_code (2 : Nat) (Option.some (Jvm.ClassFile.FieldType.object "ShadowCourt$Kind"))) : Jvm.Cond) ∈ abTb := abTb_mem 531 (by decide +kernel) rfl
theorem tb_528 : ((Jvm.Cond.classLink "ShadowCourt$Page" (31 : Nat) "ShadowCourt$Hat") : Jvm.Cond) ∈ abTb := abTb_mem 532 (by decide +kernel) rfl
theorem tb_529 : ((Jvm.Cond.instantiable "ShadowCourt$Hat" (2 : Nat)) : Jvm.Cond) ∈ abTb := abTb_mem 533 (by decide +kernel) rfl
theorem tb_530 : ((Jvm.Cond.methodLink "ShadowCourt$Page" (33 : Nat) ({ cls := "ShadowCourt$Hat", name := "<init>", desc := "()V" } : Jvm.MethodName)) : Jvm.Cond) ∈ abTb := abTb_mem 534 (by decide +kernel) rfl
theorem tb_531 : ((Jvm.Cond.instanceMethod ({ cls := "ShadowCourt$Hat", name := "<init>", desc := "()V" } : Jvm.MethodName)) : Jvm.Cond) ∈ abTb := abTb_mem 535 (by decide +kernel) rfl
theorem tb_532 : ((Jvm.Cond.code ({ cls := "ShadowCourt$Hat", name := "<init>", desc := "()V" } : Jvm.MethodName) prog_6_method_1_code (1 : Nat) (Option.none : Option Jvm.ClassFile.FieldType)) : Jvm.Cond) ∈ abTb := abTb_mem 536 (by decide +kernel) rfl
theorem tb_533 : ((Jvm.Cond.methodLink "ShadowCourt$Hat" (5 : Nat) ({ cls := "ShadowCourt$Hat", name := "<init>", desc := "(II)V" } : Jvm.MethodName)) : Jvm.Cond) ∈ abTb := abTb_mem 537 (by decide +kernel) rfl
theorem tb_534 : ((Jvm.Cond.instanceMethod ({ cls := "ShadowCourt$Hat", name := "<init>", desc := "(II)V" } : Jvm.MethodName)) : Jvm.Cond) ∈ abTb := abTb_mem 538 (by decide +kernel) rfl
theorem tb_535 : ((Jvm.Cond.code ({ cls := "ShadowCourt$Hat", name := "<init>", desc := "(II)V" } : Jvm.MethodName) prog_6_method_2_code (3 : Nat) (Option.none : Option Jvm.ClassFile.FieldType)) : Jvm.Cond) ∈ abTb := abTb_mem 539 (by decide +kernel) rfl
theorem tb_536 : ((Jvm.Cond.methodLink "ShadowCourt$Hat" (9 : Nat) ({ cls := "ShadowCourt$Kind", name := "<init>", desc := "(II)V" } : Jvm.MethodName)) : Jvm.Cond) ∈ abTb := abTb_mem 540 (by decide +kernel) rfl
theorem tb_537 : ((Jvm.Cond.instanceMethod ({ cls := "ShadowCourt$Kind", name := "<init>", desc := "(II)V" } : Jvm.MethodName)) : Jvm.Cond) ∈ abTb := abTb_mem 541 (by decide +kernel) rfl
theorem tb_538 : ((Jvm.Cond.code ({ cls := "ShadowCourt$Kind", name := "<init>", desc := "(II)V" } : Jvm.MethodName) prog_7_method_1_code (3 : Nat) (Option.none : Option Jvm.ClassFile.FieldType)) : Jvm.Cond) ∈ abTb := abTb_mem 542 (by decide +kernel) rfl
theorem tb_539 : ((Jvm.Cond.methodLink "ShadowCourt$Kind" (3 : Nat) ({ cls := "java/lang/Object", name := "<init>", desc := "()V" } : Jvm.MethodName)) : Jvm.Cond) ∈ abTb := abTb_mem 543 (by decide +kernel) rfl
theorem tb_540 : ((Jvm.Cond.fieldLink "ShadowCourt$Kind" (9 : Nat) "ShadowCourt$Kind" "number" "I") : Jvm.Cond) ∈ abTb := abTb_mem 544 (by decide +kernel) rfl
theorem tb_541 : ((Jvm.Cond.fieldLink "ShadowCourt" (96 : Nat) "ShadowCourt$Kind" "number" "I") : Jvm.Cond) ∈ abTb := abTb_mem 545 (by decide +kernel) rfl
theorem tb_542 : ((Jvm.Cond.fieldLink "ShadowCourt$Kind" (15 : Nat) "ShadowCourt$Kind" "higher" "I") : Jvm.Cond) ∈ abTb := abTb_mem 546 (by decide +kernel) rfl
theorem tb_549 : ((Jvm.Cond.classLink "ShadowCourt$Page" (34 : Nat) "ShadowCourt$Thin") : Jvm.Cond) ∈ abTb := abTb_mem 553 (by decide +kernel) rfl
theorem tb_550 : ((Jvm.Cond.instantiable "ShadowCourt$Thin" (2 : Nat)) : Jvm.Cond) ∈ abTb := abTb_mem 554 (by decide +kernel) rfl
theorem tb_551 : ((Jvm.Cond.methodLink "ShadowCourt$Page" (36 : Nat) ({ cls := "ShadowCourt$Thin", name := "<init>", desc := "()V" } : Jvm.MethodName)) : Jvm.Cond) ∈ abTb := abTb_mem 555 (by decide +kernel) rfl
theorem tb_552 : ((Jvm.Cond.instanceMethod ({ cls := "ShadowCourt$Thin", name := "<init>", desc := "()V" } : Jvm.MethodName)) : Jvm.Cond) ∈ abTb := abTb_mem 556 (by decide +kernel) rfl
theorem tb_553 : ((Jvm.Cond.code ({ cls := "ShadowCourt$Thin", name := "<init>", desc := "()V" } : Jvm.MethodName) prog_12_method_1_code (1 : Nat) (Option.none : Option Jvm.ClassFile.FieldType)) : Jvm.Cond) ∈ abTb := abTb_mem 557 (by decide +kernel) rfl
theorem tb_554 : ((Jvm.Cond.methodLink "ShadowCourt$Thin" (3 : Nat) ({ cls := "ShadowCourt$Kind", name := "<init>", desc := "(II)V" } : Jvm.MethodName)) : Jvm.Cond) ∈ abTb := abTb_mem 558 (by decide +kernel) rfl
theorem tb_558 : ((Jvm.Cond.classLink "ShadowCourt$Page" (37 : Nat) "ShadowCourt$Child") : Jvm.Cond) ∈ abTb := abTb_mem 562 (by decide +kernel) rfl
theorem tb_559 : ((Jvm.Cond.instantiable "ShadowCourt$Child" (2 : Nat)) : Jvm.Cond) ∈ abTb := abTb_mem 563 (by decide +kernel) rfl
theorem tb_560 : ((Jvm.Cond.methodLink "ShadowCourt$Page" (39 : Nat) ({ cls := "ShadowCourt$Child", name := "<init>", desc := "()V" } : Jvm.MethodName)) : Jvm.Cond) ∈ abTb := abTb_mem 564 (by decide +kernel) rfl
theorem tb_561 : ((Jvm.Cond.instanceMethod ({ cls := "ShadowCourt$Child", name := "<init>", desc := "()V" } : Jvm.MethodName)) : Jvm.Cond) ∈ abTb := abTb_mem 565 (by decide +kernel) rfl
theorem tb_562 : ((Jvm.Cond.code ({ cls := "ShadowCourt$Child", name := "<init>", desc := "()V" } : Jvm.MethodName) prog_2_method_1_code (1 : Nat) (Option.none : Option Jvm.ClassFile.FieldType)) : Jvm.Cond) ∈ abTb := abTb_mem 566 (by decide +kernel) rfl
theorem tb_563 : ((Jvm.Cond.methodLink "ShadowCourt$Child" (3 : Nat) ({ cls := "ShadowCourt$Kind", name := "<init>", desc := "(II)V" } : Jvm.MethodName)) : Jvm.Cond) ∈ abTb := abTb_mem 567 (by decide +kernel) rfl
theorem tb_567 : ((Jvm.Cond.classLink "ShadowCourt$Page" (40 : Nat) "ShadowCourt$Plume") : Jvm.Cond) ∈ abTb := abTb_mem 571 (by decide +kernel) rfl
theorem tb_568 : ((Jvm.Cond.instantiable "ShadowCourt$Plume" (2 : Nat)) : Jvm.Cond) ∈ abTb := abTb_mem 572 (by decide +kernel) rfl
theorem tb_569 : ((Jvm.Cond.methodLink "ShadowCourt$Page" (42 : Nat) ({ cls := "ShadowCourt$Plume", name := "<init>", desc := "()V" } : Jvm.MethodName)) : Jvm.Cond) ∈ abTb := abTb_mem 573 (by decide +kernel) rfl
theorem tb_570 : ((Jvm.Cond.instanceMethod ({ cls := "ShadowCourt$Plume", name := "<init>", desc := "()V" } : Jvm.MethodName)) : Jvm.Cond) ∈ abTb := abTb_mem 574 (by decide +kernel) rfl
theorem tb_571 : ((Jvm.Cond.code ({ cls := "ShadowCourt$Plume", name := "<init>", desc := "()V" } : Jvm.MethodName) prog_9_method_1_code (1 : Nat) (Option.none : Option Jvm.ClassFile.FieldType)) : Jvm.Cond) ∈ abTb := abTb_mem 575 (by decide +kernel) rfl
theorem tb_572 : ((Jvm.Cond.methodLink "ShadowCourt$Plume" (5 : Nat) ({ cls := "ShadowCourt$Hat", name := "<init>", desc := "(II)V" } : Jvm.MethodName)) : Jvm.Cond) ∈ abTb := abTb_mem 576 (by decide +kernel) rfl
theorem tb_576 : ((Jvm.Cond.classLink "ShadowCourt$Page" (43 : Nat) "ShadowCourt$Kind") : Jvm.Cond) ∈ abTb := abTb_mem 580 (by decide +kernel) rfl
theorem tb_577 : ((Jvm.Cond.instantiable "ShadowCourt$Kind" (2 : Nat)) : Jvm.Cond) ∈ abTb := abTb_mem 581 (by decide +kernel) rfl
theorem tb_578 : ((Jvm.Cond.methodLink "ShadowCourt$Page" (45 : Nat) ({ cls := "ShadowCourt$Kind", name := "<init>", desc := "(II)V" } : Jvm.MethodName)) : Jvm.Cond) ∈ abTb := abTb_mem 582 (by decide +kernel) rfl
theorem tb_582 : ((Jvm.Cond.methodLink "ShadowCourt$Court" (68 : Nat) ({ cls := "ShadowCourt$Page", name := "digitOf", desc := "(II)I" } : Jvm.MethodName)) : Jvm.Cond) ∈ abTb := abTb_mem 586 (by decide +kernel) rfl
theorem tb_583 : ((Jvm.Cond.instanceMethod ({ cls := "ShadowCourt$Page", name := "digitOf", desc := "(II)I" } : Jvm.MethodName)) : Jvm.Cond) ∈ abTb := abTb_mem 587 (by decide +kernel) rfl
theorem tb_584 : ((Jvm.Cond.selects "ShadowCourt$Page" ({ cls := "ShadowCourt$Page", name := "digitOf", desc := "(II)I" } : Jvm.MethodName) ({ cls := "ShadowCourt$Page", name := "digitOf", desc := "(II)I" } : Jvm.MethodName)) : Jvm.Cond) ∈ abTb := abTb_mem 588 (by decide +kernel) rfl
theorem tb_585 : ((Jvm.Cond.code ({ cls := "ShadowCourt$Page", name := "digitOf", desc := "(II)I" } : Jvm.MethodName) prog_8_method_6_code (3 : Nat) (Option.some Jvm.ClassFile.FieldType.int)) : Jvm.Cond) ∈ abTb := abTb_mem 589 (by decide +kernel) rfl
theorem tb_619 : ((Jvm.Cond.methodLink "ShadowCourt" (234 : Nat) ({ cls := "ShadowCourt$Court", name := "tilesCoveredBy", desc := "(I)I" } : Jvm.MethodName)) : Jvm.Cond) ∈ abTb := abTb_mem 623 (by decide +kernel) rfl
theorem tb_620 : ((Jvm.Cond.instanceMethod ({ cls := "ShadowCourt$Court", name := "tilesCoveredBy", desc := "(I)I" } : Jvm.MethodName)) : Jvm.Cond) ∈ abTb := abTb_mem 624 (by decide +kernel) rfl
theorem tb_621 : ((Jvm.Cond.selects "ShadowCourt$Court" ({ cls := "ShadowCourt$Court", name := "tilesCoveredBy", desc := "(I)I" } : Jvm.MethodName) ({ cls := "ShadowCourt$Court", name := "tilesCoveredBy", desc := "(I)I" } : Jvm.MethodName)) : Jvm.Cond) ∈ abTb := abTb_mem 625 (by decide +kernel) rfl
theorem tb_622 : ((Jvm.Cond.code ({ cls := "ShadowCourt$Court", name := "tilesCoveredBy", desc := "(I)I" } : Jvm.MethodName) prog_3_method_16_code (4 : Nat) (Option.some Jvm.ClassFile.FieldType.int)) : Jvm.Cond) ∈ abTb := abTb_mem 626 (by decide +kernel) rfl
theorem tb_623 : ((Jvm.Cond.methodLink "ShadowCourt$Court" (114 : Nat) ({ cls := "ShadowCourt$Court", name := "covering", desc := "(I)I" } : Jvm.MethodName)) : Jvm.Cond) ∈ abTb := abTb_mem 627 (by decide +kernel) rfl
theorem tb_624 : ((Jvm.Cond.methodLink "ShadowCourt$Court" (117 : Nat) ({ cls := "java/lang/Integer", name := "bitCount", desc := "(I)I" } : Jvm.MethodName)) : Jvm.Cond) ∈ abTb := abTb_mem 628 (by decide +kernel) rfl
theorem tb_625 : ((Jvm.Cond.methodLink "ShadowCourt" (237 : Nat) ({ cls := "ShadowCourt$Court", name := "casesAsTheyShouldBe", desc := "()I" } : Jvm.MethodName)) : Jvm.Cond) ∈ abTb := abTb_mem 629 (by decide +kernel) rfl
theorem tb_626 : ((Jvm.Cond.instanceMethod ({ cls := "ShadowCourt$Court", name := "casesAsTheyShouldBe", desc := "()I" } : Jvm.MethodName)) : Jvm.Cond) ∈ abTb := abTb_mem 630 (by decide +kernel) rfl
theorem tb_627 : ((Jvm.Cond.selects "ShadowCourt$Court" ({ cls := "ShadowCourt$Court", name := "casesAsTheyShouldBe", desc := "()I" } : Jvm.MethodName) ({ cls := "ShadowCourt$Court", name := "casesAsTheyShouldBe", desc := "()I" } : Jvm.MethodName)) : Jvm.Cond) ∈ abTb := abTb_mem 631 (by decide +kernel) rfl
theorem tb_628 : ((Jvm.Cond.code ({ cls := "ShadowCourt$Court", name := "casesAsTheyShouldBe", desc := "()I" } : Jvm.MethodName) prog_3_method_17_code (3 : Nat) (Option.some Jvm.ClassFile.FieldType.int)) : Jvm.Cond) ∈ abTb := abTb_mem 632 (by decide +kernel) rfl
theorem tb_629 : ((Jvm.Cond.methodLink "ShadowCourt$Court" (122 : Nat) ({ cls := "ShadowCourt$Court", name := "balance", desc := "(III)I" } : Jvm.MethodName)) : Jvm.Cond) ∈ abTb := abTb_mem 633 (by decide +kernel) rfl
theorem tb_635 : ((Jvm.Cond.sameMethod "ShadowCourt$Kind" "ShadowCourt$Kind" "length" "(II)I") : Jvm.Cond) ∈ abTb := abTb_mem 639 (by decide +kernel) rfl
theorem tb_636 : ((Jvm.Cond.selects "ShadowCourt$Child" ({ cls := "ShadowCourt$Kind", name := "length", desc := "(II)I" } : Jvm.MethodName) ({ cls := "ShadowCourt$Kind", name := "length", desc := "(II)I" } : Jvm.MethodName)) : Jvm.Cond) ∈ abTb := abTb_mem 640 (by decide +kernel) rfl
theorem tb_637 : ((Jvm.Cond.selects "ShadowCourt$Hat" ({ cls := "ShadowCourt$Kind", name := "length", desc := "(II)I" } : Jvm.MethodName) ({ cls := "ShadowCourt$Kind", name := "length", desc := "(II)I" } : Jvm.MethodName)) : Jvm.Cond) ∈ abTb := abTb_mem 641 (by decide +kernel) rfl
theorem tb_638 : ((Jvm.Cond.selects "ShadowCourt$Kind" ({ cls := "ShadowCourt$Kind", name := "length", desc := "(II)I" } : Jvm.MethodName) ({ cls := "ShadowCourt$Kind", name := "length", desc := "(II)I" } : Jvm.MethodName)) : Jvm.Cond) ∈ abTb := abTb_mem 642 (by decide +kernel) rfl
theorem tb_639 : ((Jvm.Cond.selects "ShadowCourt$Plume" ({ cls := "ShadowCourt$Kind", name := "length", desc := "(II)I" } : Jvm.MethodName) ({ cls := "ShadowCourt$Kind", name := "length", desc := "(II)I" } : Jvm.MethodName)) : Jvm.Cond) ∈ abTb := abTb_mem 643 (by decide +kernel) rfl
theorem tb_640 : ((Jvm.Cond.selects "ShadowCourt$Thin" ({ cls := "ShadowCourt$Kind", name := "length", desc := "(II)I" } : Jvm.MethodName) ({ cls := "ShadowCourt$Kind", name := "length", desc := "(II)I" } : Jvm.MethodName)) : Jvm.Cond) ∈ abTb := abTb_mem 644 (by decide +kernel) rfl
theorem tb_646 : ((Jvm.Cond.fieldLink "java/lang/String" (15 : Nat) "java/lang/String" "coder" "B") : Jvm.Cond) ∈ abTb := abTb_mem 650 (by decide +kernel) rfl
theorem tb_647 : ((Jvm.Cond.fieldLink "java/lang/String" (9 : Nat) "java/lang/String" "value" "[B") : Jvm.Cond) ∈ abTb := abTb_mem 651 (by decide +kernel) rfl
theorem tbp_0 : Cond.selects "ShadowCourt$Sight" ⟨"ShadowCourt$Sight", "isAsSeen", "(LShadowCourt$Court;II)Z"⟩ ⟨"ShadowCourt$Sight", "isAsSeen", "(LShadowCourt$Court;II)Z"⟩ ∈ abTb := abTb_mem 0 (by decide +kernel) rfl
theorem tbp_1 : Cond.selects "ShadowCourt$Sight" ⟨"ShadowCourt$Sight", "leftAtWorst", "(II)I"⟩ ⟨"ShadowCourt$Sight", "leftAtWorst", "(II)I"⟩ ∈ abTb := abTb_mem 1 (by decide +kernel) rfl
theorem tbp_2 : Cond.selects "ShadowCourt$Terms" ⟨"ShadowCourt$Terms", "draw", "(I)I"⟩ ⟨"ShadowCourt$Terms", "draw", "(I)I"⟩ ∈ abTb := abTb_mem 2 (by decide +kernel) rfl
theorem tbp_3 : Cond.selects "ShadowCourt$Page" ⟨"ShadowCourt$Page", "fits", "(I)Z"⟩ ⟨"ShadowCourt$Page", "fits", "(I)Z"⟩ ∈ abTb := abTb_mem 3 (by decide +kernel) rfl
theorem inT_X0 : ∀ w ∈ wsX00, w ∈ abTb := abTb_all (by decide +kernel) (by decide +kernel)
theorem inT_X1 : ∀ w ∈ wsX10, w ∈ abTb := abTb_all (by decide +kernel) (by decide +kernel)
theorem inT_X2 : ∀ w ∈ wsX20, w ∈ abTb := abTb_all (by decide +kernel) (by decide +kernel)
theorem inT_X3 : ∀ w ∈ wsX30, w ∈ abTb := abTb_all (by decide +kernel) (by decide +kernel)
theorem inT_X4 : ∀ w ∈ wsX40, w ∈ abTb := abTb_all (by decide +kernel) (by decide +kernel)
theorem inT_X5 : ∀ w ∈ wsX50, w ∈ abTb := abTb_all (by decide +kernel) (by decide +kernel)
theorem inT_X6 : ∀ w ∈ wsX60, w ∈ abTb := abTb_all (by decide +kernel) (by decide +kernel)
theorem inT_X7 : ∀ w ∈ wsX70, w ∈ abTb := abTb_all (by decide +kernel) (by decide +kernel)
theorem inT_X8 : ∀ w ∈ wsX80, w ∈ abTb := abTb_all (by decide +kernel) (by decide +kernel)
theorem inT_X9 : ∀ w ∈ wsX90, w ∈ abTb := abTb_all (by decide +kernel) (by decide +kernel)
theorem inT_X10 : ∀ w ∈ wsX100, w ∈ abTb := abTb_all (by decide +kernel) (by decide +kernel)
theorem inT_X11 : ∀ w ∈ wsX110, w ∈ abTb := abTb_all (by decide +kernel) (by decide +kernel)
theorem inT_X12 : ∀ w ∈ wsX120, w ∈ abTb := abTb_all (by decide +kernel) (by decide +kernel)
theorem cs_J0_335 : abQw RJ0 335 yJ0_coder_7d493 cJ0_coder_7d493 1 (some .byte) 0 := ⟨rfl, tb_436, tb_437, tb_438, tb_8, tb_439, by decide +kernel, by decide +kernel, by decide +kernel⟩
theorem cs_J0_492 : abQw RJ0 492 yJ0_isLatin1_aae02 cJ0_isLatin1_aae02 1 (some .boolean) 0 := ⟨rfl, tb_426, tb_427, tb_428, tb_8, tb_429, by decide +kernel, by decide +kernel, by decide +kernel⟩
theorem cs_J0_505 : abQw RJ0 505 yJ0_length_8abf5 cJ0_length_8abf5 1 (some .int) 0 := ⟨rfl, tb_432, tb_433, tb_434, tb_8, tb_435, by decide +kernel, by decide +kernel, by decide +kernel⟩
theorem cs_J0_633 : abQw RJ0 633 yJ0_indexOf_7cf53 cJ0_indexOf_7cf53 3 (some .int) 2 := ⟨rfl, tb_422, tb_423, tb_424, tb_8, tb_425, by decide +kernel, by decide +kernel, by decide +kernel⟩
theorem cs_J0_637 : abSw RJ0 637 yJ1_indexOf_4cfef cJ1_indexOf_4cfef 4 (some .int) 4 := ⟨tb_440, tb_441, tb_9, tb_442, by decide +kernel, by decide +kernel, by decide +kernel⟩
theorem cs_J1_88 : abSw RJ1 88 yJ1_canEncode_9a6ad cJ1_canEncode_9a6ad 1 (some .boolean) 1 := ⟨tb_443, tb_444, tb_9, tb_445, by decide +kernel, by decide +kernel, by decide +kernel⟩
theorem cs_J1_95 : abSw RJ1 95 yJ1_indexOfChar_4cfef cJ1_indexOfChar_4cfef 6 (some .int) 4 := ⟨tb_450, tb_451, tb_9, tb_452, by decide +kernel, by decide +kernel, by decide +kernel⟩
theorem cs_X0_15 : abTw RX0 15 "ShadowCourt$Kind" ⟨"ShadowCourt$Child", "west", "(II)I"⟩ cX5_west 3 (some .int) 2 := ⟨tb_241, tb_242, tb_243, tb_14, tb_244, by decide +kernel, by decide +kernel, by decide +kernel⟩
theorem cs_X0_18 : abTw RX0 18 "ShadowCourt$Kind" ⟨"ShadowCourt$Child", "east", "(II)I"⟩ cX5_east 3 (some .int) 2 := ⟨tb_245, tb_246, tb_247, tb_14, tb_248, by decide +kernel, by decide +kernel, by decide +kernel⟩
theorem cs_X0_3 : abIw RX0 3 yX5_init cX5_init 3 none 2 := ⟨tb_563, tb_537, tb_14, tb_538, by decide +kernel, by decide +kernel, by decide +kernel⟩
theorem cs_X0_9_0 : abUw RX0 9 0 "ShadowCourt$Kind" ⟨"ShadowCourt$Child", "length", "(II)I"⟩ yX5_length cX5_length 4 (some .int) 2 := ⟨_, _, _, rfl, tb_235, tb_236, tb_238, tb_239, tb_14, tb_240, Or.inl rfl, by decide +kernel, by decide +kernel, by decide +kernel⟩
theorem cs_X10_15 : abNw RX10 15 yX11_isTile (.static yX11_isTile) cX11_isTile 1 (some .boolean) 1 := ⟨"ShadowCourt", by decide +kernel, tb_258, tb_1, tb_259, by decide +kernel, by decide +kernel, by decide +kernel⟩
theorem cs_X10_3 : abIw RX10 3 yX5_init cX5_init 3 none 2 := ⟨tb_554, tb_537, tb_14, tb_538, by decide +kernel, by decide +kernel, by decide +kernel⟩
theorem cs_X10_9_10 : abUw RX10 9 10 "ShadowCourt$Kind" ⟨"ShadowCourt$Thin", "length", "(II)I"⟩ yX5_length cX5_length 4 (some .int) 2 := ⟨_, _, _, rfl, tb_254, tb_255, tb_256, tb_239, tb_14, tb_240, Or.inl rfl, by decide +kernel, by decide +kernel, by decide +kernel⟩
theorem cs_X11_111 : abVw RX11 111 1 yX1_shade cX1_shade 3 (some .int) 2 := ⟨_, _, rfl, tb_223, tb_224, tb_225, tb_3, tb_226, by decide +kernel, by decide +kernel, by decide +kernel⟩
theorem cs_X11_115 : abVw RX11 115 1 yX1_worthOf cX1_worthOf 4 (some .int) 1 := ⟨_, _, rfl, tb_264, tb_265, tb_266, tb_3, tb_267, by decide +kernel, by decide +kernel, by decide +kernel⟩
theorem cs_X11_119 : abVw RX11 119 8 yX8_heights cX8_heights 5 (some .int) 2 := ⟨_, _, rfl, tb_268, tb_269, tb_270, tb_4, tb_271, by decide +kernel, by decide +kernel, by decide +kernel⟩
theorem cs_X11_123 : abVw RX11 123 8 yX8_look cX8_look 9 (some .int) 2 := ⟨_, _, rfl, tb_280, tb_281, tb_282, tb_4, tb_283, by decide +kernel, by decide +kernel, by decide +kernel⟩
theorem cs_X11_134 : abSw RX11 134 yX11_isHour cX11_isHour 1 (some .boolean) 1 := ⟨tb_310, tb_311, tb_1, tb_312, by decide +kernel, by decide +kernel, by decide +kernel⟩
theorem cs_X11_137 : abVw RX11 137 1 yX1_hasTile cX1_hasTile 2 (some .boolean) 1 := ⟨_, _, rfl, tb_317, tb_318, tb_319, tb_3, tb_320, by decide +kernel, by decide +kernel, by decide +kernel⟩
theorem cs_X11_143 : abVw RX11 143 1 yX1_standingOn cX1_standingOn 4 (some .int) 1 := ⟨_, _, rfl, tb_326, tb_327, tb_328, tb_3, tb_329, by decide +kernel, by decide +kernel, by decide +kernel⟩
theorem cs_X11_146 : abVw RX11 146 1 yX1_covering cX1_covering 4 (some .int) 1 := ⟨_, _, rfl, tb_330, tb_331, tb_332, tb_3, tb_333, by decide +kernel, by decide +kernel, by decide +kernel⟩
theorem cs_X11_149 : abVw RX11 149 1 yX1_hasTwo cX1_hasTwo 3 (some .boolean) 2 := ⟨_, _, rfl, tb_339, tb_340, tb_341, tb_3, tb_342, by decide +kernel, by decide +kernel, by decide +kernel⟩
theorem cs_X11_153 : abVw RX11 153 1 yX1_balance cX1_balance 4 (some .int) 3 := ⟨_, _, rfl, tb_343, tb_344, tb_345, tb_3, tb_346, by decide +kernel, by decide +kernel, by decide +kernel⟩
theorem cs_X11_157 : abVw RX11 157 1 yX1_isNone cX1_isNone 1 (some .boolean) 0 := ⟨_, _, rfl, tb_376, tb_322, tb_323, tb_3, tb_324, by decide +kernel, by decide +kernel, by decide +kernel⟩
theorem cs_X11_163 : abSw RX11 163 yX11_isTile cX11_isTile 1 (some .boolean) 1 := ⟨tb_352, tb_258, tb_1, tb_259, by decide +kernel, by decide +kernel, by decide +kernel⟩
theorem cs_X11_18 : abNw RX11 18 yX1_init (.instanceMethod yX1_init) cX1_init 1 none 0 := ⟨"ShadowCourt", by decide +kernel, tb_48, tb_3, tb_49, by decide +kernel, by decide +kernel, by decide +kernel⟩
theorem cs_X11_214 : abVw RX11 214 9 yX9_hold cX9_hold 9 none 3 := ⟨_, _, rfl, tb_377, tb_378, tb_379, tb_7, tb_380, by decide +kernel, by decide +kernel, by decide +kernel⟩
theorem cs_X11_234 : abVw RX11 234 1 yX1_tilesCoveredBy cX1_tilesCoveredBy 4 (some .int) 1 := ⟨_, _, rfl, tb_619, tb_620, tb_621, tb_3, tb_622, by decide +kernel, by decide +kernel, by decide +kernel⟩
theorem cs_X11_237 : abVw RX11 237 1 yX1_casesAsTheyShouldBe cX1_casesAsTheyShouldBe 3 (some .int) 0 := ⟨_, _, rfl, tb_625, tb_626, tb_627, tb_3, tb_628, by decide +kernel, by decide +kernel, by decide +kernel⟩
theorem cs_X11_28 : abNw RX11 28 yX8_init (.instanceMethod yX8_init) cX8_init 1 none 0 := ⟨"ShadowCourt", by decide +kernel, tb_121, tb_4, tb_122, by decide +kernel, by decide +kernel, by decide +kernel⟩
theorem cs_X11_35 : abNw RX11 35 yX3_init (.instanceMethod yX3_init) cX3_init 1 none 0 := ⟨"ShadowCourt", by decide +kernel, tb_131, tb_5, tb_132, by decide +kernel, by decide +kernel, by decide +kernel⟩
theorem cs_X11_42 : abNw RX11 42 yX2_init (.instanceMethod yX2_init) cX2_init 1 none 0 := ⟨"ShadowCourt", by decide +kernel, tb_154, tb_6, tb_155, by decide +kernel, by decide +kernel, by decide +kernel⟩
theorem cs_X11_49 : abNw RX11 49 yX9_init (.instanceMethod yX9_init) cX9_init 1 none 0 := ⟨"ShadowCourt", by decide +kernel, tb_171, tb_7, tb_172, by decide +kernel, by decide +kernel, by decide +kernel⟩
theorem cs_X11_54 : abSw RX11 54 yX11_within cX11_within 3 (some .boolean) 3 := ⟨tb_361, tb_362, tb_1, tb_363, by decide +kernel, by decide +kernel, by decide +kernel⟩
theorem cs_X11_66 : abVw RX11 66 6 yX6_firstWrong cX6_firstWrong 2 (some .int) 0 := ⟨_, _, rfl, tb_408, tb_409, tb_410, tb_2, tb_411, by decide +kernel, by decide +kernel, by decide +kernel⟩
theorem cs_X11_70 : abVw RX11 70 6 yX6_isCourt cX6_isCourt 1 (some .boolean) 0 := ⟨_, _, rfl, tb_506, tb_507, tb_508, tb_2, tb_509, by decide +kernel, by decide +kernel, by decide +kernel⟩
theorem cs_X11_74 : abVw RX11 74 1 yX1_read cX1_read 3 none 1 := ⟨_, _, rfl, tb_515, tb_516, tb_517, tb_3, tb_518, by decide +kernel, by decide +kernel, by decide +kernel⟩
theorem cs_X11_88 : abVw RX11 88 1 yX1_has cX1_has 2 (some .boolean) 1 := ⟨_, _, rfl, tb_219, tb_220, tb_221, tb_3, tb_222, by decide +kernel, by decide +kernel, by decide +kernel⟩
theorem cs_X11_9 : abNw RX11 9 yX6_init (.instanceMethod yX6_init) cX6_init 1 none 0 := ⟨"ShadowCourt", by decide +kernel, tb_31, tb_2, tb_32, by decide +kernel, by decide +kernel, by decide +kernel⟩
theorem cs_X1_101 : abNw RX1 101 yX11_isTile (.static yX11_isTile) cX11_isTile 1 (some .boolean) 1 := ⟨"ShadowCourt", by decide +kernel, tb_258, tb_1, tb_259, by decide +kernel, by decide +kernel, by decide +kernel⟩
theorem cs_X1_104_0 : abUw RX1 104 0 "ShadowCourt$Kind" ⟨"ShadowCourt$Kind", "shade", "(III)I"⟩ yX0_shade cX0_shade 5 (some .int) 3 := ⟨_, _, _, rfl, tb_228, tb_231, tb_232, tb_233, tb_17, tb_234, Or.inr ⟨tb_229, _, _, _, tb_260⟩, by decide +kernel, by decide +kernel, by decide +kernel⟩
theorem cs_X1_104_10 : abUw RX1 104 10 "ShadowCourt$Kind" ⟨"ShadowCourt$Kind", "shade", "(III)I"⟩ yX10_shade cX10_shade 6 (some .int) 3 := ⟨_, _, _, rfl, tb_228, tb_231, tb_251, tb_252, tb_16, tb_253, Or.inr ⟨tb_229, _, _, _, tb_260⟩, by decide +kernel, by decide +kernel, by decide +kernel⟩
theorem cs_X1_104_4 : abUw RX1 104 4 "ShadowCourt$Kind" ⟨"ShadowCourt$Kind", "shade", "(III)I"⟩ yX5_shade cX5_shade 5 (some .int) 3 := ⟨_, _, _, rfl, tb_228, tb_231, tb_249, tb_229, tb_14, tb_260, Or.inl rfl, by decide +kernel, by decide +kernel, by decide +kernel⟩
theorem cs_X1_104_5 : abVw RX1 104 5 yX5_shade cX5_shade 5 (some .int) 3 := ⟨_, _, rfl, tb_228, tb_229, tb_230, tb_14, tb_260, by decide +kernel, by decide +kernel, by decide +kernel⟩
theorem cs_X1_104_7 : abUw RX1 104 7 "ShadowCourt$Kind" ⟨"ShadowCourt$Kind", "shade", "(III)I"⟩ yX5_shade cX5_shade 5 (some .int) 3 := ⟨_, _, _, rfl, tb_228, tb_231, tb_250, tb_229, tb_14, tb_260, Or.inl rfl, by decide +kernel, by decide +kernel, by decide +kernel⟩
theorem cs_X1_108 : abVw RX1 108 1 yX1_shade cX1_shade 3 (some .int) 2 := ⟨_, _, rfl, tb_334, tb_224, tb_225, tb_3, tb_226, by decide +kernel, by decide +kernel, by decide +kernel⟩
theorem cs_X1_110 : abVw RX1 110 1 yX1_worthOf cX1_worthOf 4 (some .int) 1 := ⟨_, _, rfl, tb_347, tb_265, tb_266, tb_3, tb_267, by decide +kernel, by decide +kernel, by decide +kernel⟩
theorem cs_X1_114 : abVw RX1 114 1 yX1_covering cX1_covering 4 (some .int) 1 := ⟨_, _, rfl, tb_623, tb_331, tb_332, tb_3, tb_333, by decide +kernel, by decide +kernel, by decide +kernel⟩
theorem cs_X1_117 : abSw RX1 117 yJ6_bitCount_0f7a4 cJ6_bitCount_0f7a4 1 (some .int) 1 := ⟨tb_624, tb_290, tb_19, tb_291, by decide +kernel, by decide +kernel, by decide +kernel⟩
theorem cs_X1_122 : abVw RX1 122 1 yX1_balance cX1_balance 4 (some .int) 3 := ⟨_, _, rfl, tb_629, tb_344, tb_345, tb_3, tb_346, by decide +kernel, by decide +kernel, by decide +kernel⟩
theorem cs_X1_51 : abVw RX1 51 6 yX6_parties cX6_parties 1 (some .int) 0 := ⟨_, _, rfl, tb_519, tb_520, tb_521, tb_2, tb_522, by decide +kernel, by decide +kernel, by decide +kernel⟩
theorem cs_X1_64 : abVw RX1 64 6 yX6_kindOf cX6_kindOf 2 (some (.object "ShadowCourt$Kind")) 1 := ⟨_, _, rfl, tb_524, tb_525, tb_526, tb_2, tb_527, by decide +kernel, by decide +kernel, by decide +kernel⟩
theorem cs_X1_68 : abVw RX1 68 6 yX6_digitOf cX6_digitOf 3 (some .int) 2 := ⟨_, _, rfl, tb_582, tb_583, tb_584, tb_2, tb_585, by decide +kernel, by decide +kernel, by decide +kernel⟩
theorem cs_X1_93 : abVw RX1 93 1 yX1_has cX1_has 2 (some .boolean) 1 := ⟨_, _, rfl, tb_227, tb_220, tb_221, tb_3, tb_222, by decide +kernel, by decide +kernel, by decide +kernel⟩
theorem cs_X1_97 : abVw RX1 97 1 yX1_isNone cX1_isNone 1 (some .boolean) 0 := ⟨_, _, rfl, tb_321, tb_322, tb_323, tb_3, tb_324, by decide +kernel, by decide +kernel, by decide +kernel⟩
theorem cs_X4_5 : abIw RX4 5 yX4_init_ cX4_init_ 3 none 2 := ⟨tb_533, tb_534, tb_15, tb_535, by decide +kernel, by decide +kernel, by decide +kernel⟩
theorem cs_X4_9 : abIw RX4 9 yX5_init cX5_init 3 none 2 := ⟨tb_536, tb_537, tb_14, tb_538, by decide +kernel, by decide +kernel, by decide +kernel⟩
theorem cs_X5_18_0 : abUw RX5 18 0 "ShadowCourt$Kind" ⟨"ShadowCourt$Kind", "length", "(II)I"⟩ yX5_length cX5_length 4 (some .int) 2 := ⟨_, _, _, rfl, tb_261, tb_635, tb_636, tb_239, tb_14, tb_240, Or.inl rfl, by decide +kernel, by decide +kernel, by decide +kernel⟩
theorem cs_X5_18_10 : abUw RX5 18 10 "ShadowCourt$Kind" ⟨"ShadowCourt$Kind", "length", "(II)I"⟩ yX5_length cX5_length 4 (some .int) 2 := ⟨_, _, _, rfl, tb_261, tb_635, tb_640, tb_239, tb_14, tb_240, Or.inl rfl, by decide +kernel, by decide +kernel, by decide +kernel⟩
theorem cs_X5_18_4 : abUw RX5 18 4 "ShadowCourt$Kind" ⟨"ShadowCourt$Kind", "length", "(II)I"⟩ yX5_length cX5_length 4 (some .int) 2 := ⟨_, _, _, rfl, tb_261, tb_635, tb_637, tb_239, tb_14, tb_240, Or.inl rfl, by decide +kernel, by decide +kernel, by decide +kernel⟩
theorem cs_X5_18_5 : abVw RX5 18 5 yX5_length cX5_length 4 (some .int) 2 := ⟨_, _, rfl, tb_261, tb_239, tb_638, tb_14, tb_240, by decide +kernel, by decide +kernel, by decide +kernel⟩
theorem cs_X5_18_7 : abUw RX5 18 7 "ShadowCourt$Kind" ⟨"ShadowCourt$Kind", "length", "(II)I"⟩ yX5_length cX5_length 4 (some .int) 2 := ⟨_, _, _, rfl, tb_261, tb_635, tb_639, tb_239, tb_14, tb_240, Or.inl rfl, by decide +kernel, by decide +kernel, by decide +kernel⟩
theorem cs_X5_22 : abSw RX5 22 yX5_west cX5_west 3 (some .int) 2 := ⟨tb_262, tb_243, tb_14, tb_244, by decide +kernel, by decide +kernel, by decide +kernel⟩
theorem cs_X5_25 : abSw RX5 25 yX5_east cX5_east 3 (some .int) 2 := ⟨tb_263, tb_247, tb_14, tb_248, by decide +kernel, by decide +kernel, by decide +kernel⟩
theorem cs_X6_19 : abVw RX6 19 6 yX6_fits cX6_fits 3 (some .boolean) 1 := ⟨_, _, rfl, tb_412, tb_414, tbp_3, tb_2, tb_415, by decide +kernel, by decide +kernel, by decide +kernel⟩
theorem cs_X6_23 : abVw RX6 23 6 yX6_hasWholeParties cX6_hasWholeParties 1 (some .boolean) 0 := ⟨_, _, rfl, tb_510, tb_511, tb_512, tb_2, tb_513, by decide +kernel, by decide +kernel, by decide +kernel⟩
theorem cs_X6_27 : abVw RX6 27 6 yX6_firstWrong cX6_firstWrong 2 (some .int) 0 := ⟨_, _, rfl, tb_514, tb_409, tb_410, tb_2, tb_411, by decide +kernel, by decide +kernel, by decide +kernel⟩
theorem cs_X6_33 : abIw RX6 33 yX4_init cX4_init 1 none 0 := ⟨tb_530, tb_531, tb_15, tb_532, by decide +kernel, by decide +kernel, by decide +kernel⟩
theorem cs_X6_36 : abIw RX6 36 yX10_init cX10_init 1 none 0 := ⟨tb_551, tb_552, tb_16, tb_553, by decide +kernel, by decide +kernel, by decide +kernel⟩
theorem cs_X6_39 : abIw RX6 39 yX0_init cX0_init 1 none 0 := ⟨tb_560, tb_561, tb_17, tb_562, by decide +kernel, by decide +kernel, by decide +kernel⟩
theorem cs_X6_42 : abIw RX6 42 yX7_init cX7_init 1 none 0 := ⟨tb_569, tb_570, tb_18, tb_571, by decide +kernel, by decide +kernel, by decide +kernel⟩
theorem cs_X6_45 : abIw RX6 45 yX5_init cX5_init 3 none 2 := ⟨tb_578, tb_537, tb_14, tb_538, by decide +kernel, by decide +kernel, by decide +kernel⟩
theorem cs_X6_48 : abNw RX6 48 yX11_within (.static yX11_within) cX11_within 3 (some .boolean) 3 := ⟨"ShadowCourt", by decide +kernel, tb_362, tb_1, tb_363, by decide +kernel, by decide +kernel, by decide +kernel⟩
theorem cs_X6_54 : abQw RX6 54 yJ0_indexOf_0f7a4 cJ0_indexOf_0f7a4 2 (some .int) 1 := ⟨rfl, tb_418, tb_419, tb_420, tb_8, tb_421, by decide +kernel, by decide +kernel, by decide +kernel⟩
theorem cs_X7_5 : abIw RX7 5 yX4_init_ cX4_init_ 3 none 2 := ⟨tb_572, tb_534, tb_15, tb_535, by decide +kernel, by decide +kernel, by decide +kernel⟩
theorem cs_X8_15 : abVw RX8 15 8 yX8_isAsSeen cX8_isAsSeen 6 (some .boolean) 3 := ⟨_, _, rfl, tb_272, tb_274, tbp_0, tb_4, tb_275, by decide +kernel, by decide +kernel, by decide +kernel⟩
theorem cs_X8_34 : abVw RX8 34 1 yX1_shadeIf cX1_shadeIf 5 (some .int) 4 := ⟨_, _, rfl, tb_276, tb_277, tb_278, tb_3, tb_279, by decide +kernel, by decide +kernel, by decide +kernel⟩
theorem cs_X8_44 : abVw RX8 44 8 yX8_heights cX8_heights 5 (some .int) 2 := ⟨_, _, rfl, tb_284, tb_269, tb_270, tb_4, tb_271, by decide +kernel, by decide +kernel, by decide +kernel⟩
theorem cs_X8_48 : abVw RX8 48 8 yX8_leftAtWorst cX8_leftAtWorst 5 (some .int) 2 := ⟨_, _, rfl, tb_285, tb_287, tbp_1, tb_4, tb_288, by decide +kernel, by decide +kernel, by decide +kernel⟩
theorem cs_X8_52 : abSw RX8 52 yJ6_bitCount_0f7a4 cJ6_bitCount_0f7a4 1 (some .int) 1 := ⟨tb_289, tb_290, tb_19, tb_291, by decide +kernel, by decide +kernel, by decide +kernel⟩
theorem cs_X9_27 : abVw RX9 27 9 yX9_draw cX9_draw 2 (some .int) 1 := ⟨_, _, rfl, tb_381, tb_383, tbp_2, tb_7, tb_384, by decide +kernel, by decide +kernel, by decide +kernel⟩
theorem cs_X9_31 : abVw RX9 31 1 yX1_balance cX1_balance 4 (some .int) 3 := ⟨_, _, rfl, tb_389, tb_344, tb_345, tb_3, tb_346, by decide +kernel, by decide +kernel, by decide +kernel⟩
theorem fp_X11_10 : abFp RX11 10 11 0 (.object "ShadowCourt$Page") true := ⟨_, _, _, _, rfl, inT_X11, by decide, tb_187, tyX11_ok, nmX11, rfl, by decide +kernel, fun q => by first | rfl | cases q⟩
theorem fp_X11_108 : abFp RX11 108 1 5 .int false := ⟨_, _, _, _, rfl, inT_X1, by decide, tb_66, tyX1_ok, nmX1, rfl, by decide +kernel, fun q => by first | rfl | cases q⟩
theorem fp_X11_160 : abFp RX11 160 1 6 .int false := ⟨_, _, _, _, rfl, inT_X1, by decide, tb_68, tyX1_ok, nmX1, rfl, by decide +kernel, fun q => by first | rfl | cases q⟩
theorem fp_X11_166 : abFp RX11 166 1 7 .int false := ⟨_, _, _, _, rfl, inT_X1, by decide, tb_70, tyX1_ok, nmX1, rfl, by decide +kernel, fun q => by first | rfl | cases q⟩
theorem fp_X11_19 : abFp RX11 19 11 1 (.object "ShadowCourt$Court") true := ⟨_, _, _, _, rfl, inT_X11, by decide, tb_188, tyX11_ok, nmX11, rfl, by decide +kernel, fun q => by first | rfl | cases q⟩
theorem fp_X11_23 : abFp RX11 23 11 2 (.object "ShadowCourt$Court") true := ⟨_, _, _, _, rfl, inT_X11, by decide, tb_189, tyX11_ok, nmX11, rfl, by decide +kernel, fun q => by first | rfl | cases q⟩
theorem fp_X11_29 : abFp RX11 29 11 3 (.object "ShadowCourt$Sight") true := ⟨_, _, _, _, rfl, inT_X11, by decide, tb_190, tyX11_ok, nmX11, rfl, by decide +kernel, fun q => by first | rfl | cases q⟩
theorem fp_X11_36 : abFp RX11 36 11 4 (.object "ShadowCourt$Game") true := ⟨_, _, _, _, rfl, inT_X11, by decide, tb_191, tyX11_ok, nmX11, rfl, by decide +kernel, fun q => by first | rfl | cases q⟩
theorem fp_X11_43 : abFp RX11 43 11 5 (.object "ShadowCourt$Docket") true := ⟨_, _, _, _, rfl, inT_X11, by decide, tb_192, tyX11_ok, nmX11, rfl, by decide +kernel, fun q => by first | rfl | cases q⟩
theorem fp_X11_50 : abFp RX11 50 11 6 (.object "ShadowCourt$Terms") true := ⟨_, _, _, _, rfl, inT_X11, by decide, tb_193, tyX11_ok, nmX11, rfl, by decide +kernel, fun q => by first | rfl | cases q⟩
theorem fp_X11_58 : abFp RX11 58 6 1 .int false := ⟨_, _, _, _, rfl, inT_X6, by decide, tb_38, tyX6_ok, nmX6, rfl, by decide +kernel, fun q => by first | rfl | cases q⟩
theorem fp_X11_78 : abFp RX11 78 11 7 .boolean false := ⟨_, _, _, _, rfl, inT_X11, by decide, tb_194, tyX11_ok, nmX11, rfl, by decide +kernel, fun q => by first | rfl | cases q⟩
theorem fp_X11_82 : abFp RX11 82 11 8 .int false := ⟨_, _, _, _, rfl, inT_X11, by decide, tb_195, tyX11_ok, nmX11, rfl, by decide +kernel, fun q => by first | rfl | cases q⟩
theorem fp_X1_11 : abFp RX1 11 1 1 (.array (.object "ShadowCourt$Kind")) true := ⟨_, _, _, _, rfl, inT_X1, by decide, tb_56, tyX1_ok, nmX1, rfl, by decide +kernel, fun q => by first | rfl | cases q⟩
theorem fp_X1_17 : abFp RX1 17 1 2 (.array .int) true := ⟨_, _, _, _, rfl, inT_X1, by decide, tb_58, tyX1_ok, nmX1, rfl, by decide +kernel, fun q => by first | rfl | cases q⟩
theorem fp_X1_21 : abFp RX1 21 1 3 (.array .int) true := ⟨_, _, _, _, rfl, inT_X1, by decide, tb_60, tyX1_ok, nmX1, rfl, by decide +kernel, fun q => by first | rfl | cases q⟩
theorem fp_X1_24 : abFp RX1 24 1 4 (.array .int) true := ⟨_, _, _, _, rfl, inT_X1, by decide, tb_63, tyX1_ok, nmX1, rfl, by decide +kernel, fun q => by first | rfl | cases q⟩
theorem fp_X1_27 : abFp RX1 27 1 8 (.array .int) true := ⟨_, _, _, _, rfl, inT_X1, by decide, tb_71, tyX1_ok, nmX1, rfl, by decide +kernel, fun q => by first | rfl | cases q⟩
theorem fp_X1_30 : abFp RX1 30 1 9 (.array .int) true := ⟨_, _, _, _, rfl, inT_X1, by decide, tb_73, tyX1_ok, nmX1, rfl, by decide +kernel, fun q => by first | rfl | cases q⟩
theorem fp_X1_33 : abFp RX1 33 1 11 (.array .int) true := ⟨_, _, _, _, rfl, inT_X1, by decide, tb_78, tyX1_ok, nmX1, rfl, by decide +kernel, fun q => by first | rfl | cases q⟩
theorem fp_X1_36 : abFp RX1 36 1 12 (.array .int) true := ⟨_, _, _, _, rfl, inT_X1, by decide, tb_80, tyX1_ok, nmX1, rfl, by decide +kernel, fun q => by first | rfl | cases q⟩
theorem fp_X1_39 : abFp RX1 39 1 13 (.array .int) true := ⟨_, _, _, _, rfl, inT_X1, by decide, tb_82, tyX1_ok, nmX1, rfl, by decide +kernel, fun q => by first | rfl | cases q⟩
theorem fp_X1_42 : abFp RX1 42 1 14 (.array .int) true := ⟨_, _, _, _, rfl, inT_X1, by decide, tb_84, tyX1_ok, nmX1, rfl, by decide +kernel, fun q => by first | rfl | cases q⟩
theorem fp_X1_61 : abFp RX1 61 1 0 .int false := ⟨_, _, _, _, rfl, inT_X1, by decide, tb_54, tyX1_ok, nmX1, rfl, by decide +kernel, fun q => by first | rfl | cases q⟩
theorem fp_X1_71 : abFp RX1 71 1 5 .int false := ⟨_, _, _, _, rfl, inT_X1, by decide, tb_65, tyX1_ok, nmX1, rfl, by decide +kernel, fun q => by first | rfl | cases q⟩
theorem fp_X1_74 : abFp RX1 74 1 6 .int false := ⟨_, _, _, _, rfl, inT_X1, by decide, tb_67, tyX1_ok, nmX1, rfl, by decide +kernel, fun q => by first | rfl | cases q⟩
theorem fp_X1_77 : abFp RX1 77 1 7 .int false := ⟨_, _, _, _, rfl, inT_X1, by decide, tb_69, tyX1_ok, nmX1, rfl, by decide +kernel, fun q => by first | rfl | cases q⟩
theorem fp_X1_80 : abFp RX1 80 1 10 .int false := ⟨_, _, _, _, rfl, inT_X1, by decide, tb_75, tyX1_ok, nmX1, rfl, by decide +kernel, fun q => by first | rfl | cases q⟩
theorem fp_X2_15 : abFp RX2 15 2 2 (.array .int) true := ⟨_, _, _, _, rfl, inT_X2, by decide, tb_158, tyX2_ok, nmX2, rfl, by decide +kernel, fun q => by first | rfl | cases q⟩
theorem fp_X2_9 : abFp RX2 9 2 0 (.array .int) true := ⟨_, _, _, _, rfl, inT_X2, by decide, tb_157, tyX2_ok, nmX2, rfl, by decide +kernel, fun q => by first | rfl | cases q⟩
theorem fp_X3_15 : abFp RX3 15 3 1 (.array .int) true := ⟨_, _, _, _, rfl, inT_X3, by decide, tb_135, tyX3_ok, nmX3, rfl, by decide +kernel, fun q => by first | rfl | cases q⟩
theorem fp_X3_18 : abFp RX3 18 3 2 (.array .int) true := ⟨_, _, _, _, rfl, inT_X3, by decide, tb_136, tyX3_ok, nmX3, rfl, by decide +kernel, fun q => by first | rfl | cases q⟩
theorem fp_X3_21 : abFp RX3 21 3 3 (.array .int) true := ⟨_, _, _, _, rfl, inT_X3, by decide, tb_137, tyX3_ok, nmX3, rfl, by decide +kernel, fun q => by first | rfl | cases q⟩
theorem fp_X3_9 : abFp RX3 9 3 0 (.array .int) true := ⟨_, _, _, _, rfl, inT_X3, by decide, tb_134, tyX3_ok, nmX3, rfl, by decide +kernel, fun q => by first | rfl | cases q⟩
theorem fp_X5_15_0 : abFp RX5 15 0 1 .int true := ⟨_, _, _, _, rfl, inT_X0, by decide, tb_542, tyX0_ok, nmX0, rfl, by decide +kernel, fun q => by first | rfl | cases q⟩
theorem fp_X5_15_10 : abFp RX5 15 10 1 .int true := ⟨_, _, _, _, rfl, inT_X10, by decide, tb_542, tyX10_ok, nmX10, rfl, by decide +kernel, fun q => by first | rfl | cases q⟩
theorem fp_X5_15_4 : abFp RX5 15 4 1 .int true := ⟨_, _, _, _, rfl, inT_X4, by decide, tb_542, tyX4_ok, nmX4, rfl, by decide +kernel, fun q => by first | rfl | cases q⟩
theorem fp_X5_15_5 : abFp RX5 15 5 1 .int true := ⟨_, _, _, _, rfl, inT_X5, by decide, tb_542, tyX5_ok, nmX5, rfl, by decide +kernel, fun q => by first | rfl | cases q⟩
theorem fp_X5_15_7 : abFp RX5 15 7 1 .int true := ⟨_, _, _, _, rfl, inT_X7, by decide, tb_542, tyX7_ok, nmX7, rfl, by decide +kernel, fun q => by first | rfl | cases q⟩
theorem fp_X5_9_0 : abFp RX5 9 0 0 .int true := ⟨_, _, _, _, rfl, inT_X0, by decide, tb_540, tyX0_ok, nmX0, rfl, by decide +kernel, fun q => by first | rfl | cases q⟩
theorem fp_X5_9_10 : abFp RX5 9 10 0 .int true := ⟨_, _, _, _, rfl, inT_X10, by decide, tb_540, tyX10_ok, nmX10, rfl, by decide +kernel, fun q => by first | rfl | cases q⟩
theorem fp_X5_9_4 : abFp RX5 9 4 0 .int true := ⟨_, _, _, _, rfl, inT_X4, by decide, tb_540, tyX4_ok, nmX4, rfl, by decide +kernel, fun q => by first | rfl | cases q⟩
theorem fp_X5_9_5 : abFp RX5 9 5 0 .int true := ⟨_, _, _, _, rfl, inT_X5, by decide, tb_540, tyX5_ok, nmX5, rfl, by decide +kernel, fun q => by first | rfl | cases q⟩
theorem fp_X5_9_7 : abFp RX5 9 7 0 .int true := ⟨_, _, _, _, rfl, inT_X7, by decide, tb_540, tyX7_ok, nmX7, rfl, by decide +kernel, fun q => by first | rfl | cases q⟩
theorem fp_X6_11 : abFp RX6 11 6 0 (.array .char) true := ⟨_, _, _, _, rfl, inT_X6, by decide, tb_34, tyX6_ok, nmX6, rfl, by decide +kernel, fun q => by first | rfl | cases q⟩
theorem fp_X8_9 : abFp RX8 9 8 0 (.array .int) true := ⟨_, _, _, _, rfl, inT_X8, by decide, tb_124, tyX8_ok, nmX8, rfl, by decide +kernel, fun q => by first | rfl | cases q⟩
theorem fp_X9_15 : abFp RX9 15 9 1 .int false := ⟨_, _, _, _, rfl, inT_X9, by decide, tb_176, tyX9_ok, nmX9, rfl, by decide +kernel, fun q => by first | rfl | cases q⟩
theorem fp_X9_19 : abFp RX9 19 9 2 .int false := ⟨_, _, _, _, rfl, inT_X9, by decide, tb_178, tyX9_ok, nmX9, rfl, by decide +kernel, fun q => by first | rfl | cases q⟩
theorem fp_X9_9 : abFp RX9 9 9 0 .long false := ⟨_, _, _, _, rfl, inT_X9, by decide, tb_174, tyX9_ok, nmX9, rfl, by decide +kernel, fun q => by first | rfl | cases q⟩
theorem fq_X5_15 : ∀ c, isKd c = true → abFp RX5 15 c 1 .int true := fun c hc => kd_all (P := fun c => abFp RX5 15 c 1 .int true) fp_X5_15_0 fp_X5_15_4 fp_X5_15_5 fp_X5_15_7 fp_X5_15_10 c hc
theorem fq_X5_9 : ∀ c, isKd c = true → abFp RX5 9 c 0 .int true := fun c hc => kd_all (P := fun c => abFp RX5 9 c 0 .int true) fp_X5_9_0 fp_X5_9_4 fp_X5_9_5 fp_X5_9_7 fp_X5_9_10 c hc
theorem fs_X11_10 : abFs RX11 10 11 0 := ⟨_, _, _, rfl, inT_X11, by decide, tb_187⟩
theorem fs_X11_101 : abFs RX11 101 1 2 := ⟨_, _, _, rfl, inT_X1, by decide, tb_59⟩
theorem fs_X11_105 : abFs RX11 105 1 3 := ⟨_, _, _, rfl, inT_X1, by decide, tb_62⟩
theorem fs_X11_108 : abFs RX11 108 1 5 := ⟨_, _, _, rfl, inT_X1, by decide, tb_66⟩
theorem fs_X11_140 : abFs RX11 140 1 4 := ⟨_, _, _, rfl, inT_X1, by decide, tb_64⟩
theorem fs_X11_160 : abFs RX11 160 1 6 := ⟨_, _, _, rfl, inT_X1, by decide, tb_68⟩
theorem fs_X11_166 : abFs RX11 166 1 7 := ⟨_, _, _, rfl, inT_X1, by decide, tb_70⟩
theorem fs_X11_169 : abFs RX11 169 1 8 := ⟨_, _, _, rfl, inT_X1, by decide, tb_72⟩
theorem fs_X11_172 : abFs RX11 172 1 9 := ⟨_, _, _, rfl, inT_X1, by decide, tb_74⟩
theorem fs_X11_19 : abFs RX11 19 11 1 := ⟨_, _, _, rfl, inT_X11, by decide, tb_188⟩
theorem fs_X11_199 : abFs RX11 199 1 10 := ⟨_, _, _, rfl, inT_X1, by decide, tb_77⟩
theorem fs_X11_218 : abFs RX11 218 9 1 := ⟨_, _, _, rfl, inT_X9, by decide, tb_177⟩
theorem fs_X11_221 : abFs RX11 221 9 2 := ⟨_, _, _, rfl, inT_X9, by decide, tb_179⟩
theorem fs_X11_224 : abFs RX11 224 9 0 := ⟨_, _, _, rfl, inT_X9, by decide, tb_175⟩
theorem fs_X11_29 : abFs RX11 29 11 3 := ⟨_, _, _, rfl, inT_X11, by decide, tb_190⟩
theorem fs_X11_50 : abFs RX11 50 11 6 := ⟨_, _, _, rfl, inT_X11, by decide, tb_193⟩
theorem fs_X11_58 : abFs RX11 58 6 1 := ⟨_, _, _, rfl, inT_X6, by decide, tb_38⟩
theorem fs_X11_62 : abFs RX11 62 6 0 := ⟨_, _, _, rfl, inT_X6, by decide, tb_36⟩
theorem fs_X11_82 : abFs RX11 82 11 8 := ⟨_, _, _, rfl, inT_X11, by decide, tb_195⟩
theorem fs_X11_85 : abFs RX11 85 1 0 := ⟨_, _, _, rfl, inT_X1, by decide, tb_55⟩
theorem fs_X11_92 : abFs RX11 92 1 1 := ⟨_, _, _, rfl, inT_X1, by decide, tb_57⟩
theorem fs_X11_96_0 : abFs RX11 96 0 0 := ⟨_, _, _, rfl, inT_X0, by decide, tb_541⟩
theorem fs_X11_96_10 : abFs RX11 96 10 0 := ⟨_, _, _, rfl, inT_X10, by decide, tb_541⟩
theorem fs_X11_96_4 : abFs RX11 96 4 0 := ⟨_, _, _, rfl, inT_X4, by decide, tb_541⟩
theorem fs_X11_96_5 : abFs RX11 96 5 0 := ⟨_, _, _, rfl, inT_X5, by decide, tb_541⟩
theorem fs_X11_96_7 : abFs RX11 96 7 0 := ⟨_, _, _, rfl, inT_X7, by decide, tb_541⟩
theorem fs_X1_11 : abFs RX1 11 1 1 := ⟨_, _, _, rfl, inT_X1, by decide, tb_56⟩
theorem fs_X1_17 : abFs RX1 17 1 2 := ⟨_, _, _, rfl, inT_X1, by decide, tb_58⟩
theorem fs_X1_21 : abFs RX1 21 1 3 := ⟨_, _, _, rfl, inT_X1, by decide, tb_60⟩
theorem fs_X1_24 : abFs RX1 24 1 4 := ⟨_, _, _, rfl, inT_X1, by decide, tb_63⟩
theorem fs_X1_27 : abFs RX1 27 1 8 := ⟨_, _, _, rfl, inT_X1, by decide, tb_71⟩
theorem fs_X1_30 : abFs RX1 30 1 9 := ⟨_, _, _, rfl, inT_X1, by decide, tb_73⟩
theorem fs_X1_45 : abFs RX1 45 6 0 := ⟨_, _, _, rfl, inT_X6, by decide, tb_35⟩
theorem fs_X1_61 : abFs RX1 61 1 0 := ⟨_, _, _, rfl, inT_X1, by decide, tb_54⟩
theorem fs_X1_71 : abFs RX1 71 1 5 := ⟨_, _, _, rfl, inT_X1, by decide, tb_65⟩
theorem fs_X1_77 : abFs RX1 77 1 7 := ⟨_, _, _, rfl, inT_X1, by decide, tb_69⟩
theorem fs_X5_15_0 : abFs RX5 15 0 1 := ⟨_, _, _, rfl, inT_X0, by decide, tb_542⟩
theorem fs_X5_15_10 : abFs RX5 15 10 1 := ⟨_, _, _, rfl, inT_X10, by decide, tb_542⟩
theorem fs_X5_15_4 : abFs RX5 15 4 1 := ⟨_, _, _, rfl, inT_X4, by decide, tb_542⟩
theorem fs_X5_15_5 : abFs RX5 15 5 1 := ⟨_, _, _, rfl, inT_X5, by decide, tb_542⟩
theorem fs_X5_15_7 : abFs RX5 15 7 1 := ⟨_, _, _, rfl, inT_X7, by decide, tb_542⟩
theorem fs_X6_11 : abFs RX6 11 6 0 := ⟨_, _, _, rfl, inT_X6, by decide, tb_34⟩
theorem fs_X6_15 : abFs RX6 15 6 1 := ⟨_, _, _, rfl, inT_X6, by decide, tb_37⟩
theorem fs_X8_19 : abFs RX8 19 1 10 := ⟨_, _, _, rfl, inT_X1, by decide, tb_76⟩
theorem fs_X8_25 : abFs RX8 25 1 11 := ⟨_, _, _, rfl, inT_X1, by decide, tb_79⟩
theorem fs_X8_28 : abFs RX8 28 1 3 := ⟨_, _, _, rfl, inT_X1, by decide, tb_61⟩
theorem fs_X8_31 : abFs RX8 31 1 12 := ⟨_, _, _, rfl, inT_X1, by decide, tb_81⟩
theorem fs_X8_38 : abFs RX8 38 1 13 := ⟨_, _, _, rfl, inT_X1, by decide, tb_83⟩
theorem fs_X8_41 : abFs RX8 41 1 14 := ⟨_, _, _, rfl, inT_X1, by decide, tb_85⟩
theorem fs_X8_9 : abFs RX8 9 8 0 := ⟨_, _, _, rfl, inT_X8, by decide, tb_124⟩
theorem fs_X9_15 : abFs RX9 15 9 1 := ⟨_, _, _, rfl, inT_X9, by decide, tb_176⟩
theorem fs_X9_19 : abFs RX9 19 9 2 := ⟨_, _, _, rfl, inT_X9, by decide, tb_178⟩
theorem fs_X9_22 : abFs RX9 22 1 0 := ⟨_, _, _, rfl, inT_X1, by decide, tb_53⟩
theorem fs_X9_9 : abFs RX9 9 9 0 := ⟨_, _, _, rfl, inT_X9, by decide, tb_174⟩
theorem ft_X11_96 : ∀ c, isKd c = true → abFs RX11 96 c 0 := fun c hc => kd_all (P := fun c => abFs RX11 96 c 0) fs_X11_96_0 fs_X11_96_4 fs_X11_96_5 fs_X11_96_7 fs_X11_96_10 c hc
theorem ft_X5_15 : ∀ c, isKd c = true → abFs RX5 15 c 1 := fun c hc => kd_all (P := fun c => abFs RX5 15 c 1) fs_X5_15_0 fs_X5_15_4 fs_X5_15_5 fs_X5_15_7 fs_X5_15_10 c hc
theorem ns_X11_16 : abNs RX11 16 1 [.int 0, .null, .null, .null, .null, .int 0, .int 0, .int 0, .null, .null, .int 0, .null, .null, .null, .null] 15 := ⟨_, _, _, rfl, inT_X1, tyX1_ok, tb_45, tb_46, tb_3, fun j hj => by rcases (by omega : j = 0 ∨ j = 1 ∨ j = 2 ∨ j = 3 ∨ j = 4 ∨ j = 5 ∨ j = 6 ∨ j = 7 ∨ j = 8 ∨ j = 9 ∨ j = 10 ∨ j = 11 ∨ j = 12 ∨ j = 13 ∨ j = 14) with rfl | rfl | rfl | rfl | rfl | rfl | rfl | rfl | rfl | rfl | rfl | rfl | rfl | rfl | rfl <;> rfl, fun _ => rfl⟩
theorem ns_X11_26 : abNs RX11 26 8 [.null] 1 := ⟨_, _, _, rfl, inT_X8, tyX8_ok, tb_118, tb_119, tb_4, fun j hj => by rcases (by omega : j = 0) with rfl <;> rfl, fun _ => rfl⟩
theorem ns_X11_33 : abNs RX11 33 3 [.null, .null, .null, .null, .int 0, .int 0] 6 := ⟨_, _, _, rfl, inT_X3, tyX3_ok, tb_128, tb_129, tb_5, fun j hj => by rcases (by omega : j = 0 ∨ j = 1 ∨ j = 2 ∨ j = 3 ∨ j = 4 ∨ j = 5) with rfl | rfl | rfl | rfl | rfl | rfl <;> rfl, fun _ => rfl⟩
theorem ns_X11_40 : abNs RX11 40 2 [.null, .int 0, .null, .int 0] 4 := ⟨_, _, _, rfl, inT_X2, tyX2_ok, tb_151, tb_152, tb_6, fun j hj => by rcases (by omega : j = 0 ∨ j = 1 ∨ j = 2 ∨ j = 3) with rfl | rfl | rfl | rfl <;> rfl, fun _ => rfl⟩
theorem ns_X11_47 : abNs RX11 47 9 [.long 0, .int 0, .int 0] 3 := ⟨_, _, _, rfl, inT_X9, tyX9_ok, tb_168, tb_169, tb_7, fun j hj => by rcases (by omega : j = 0 ∨ j = 1 ∨ j = 2) with rfl | rfl | rfl <;> rfl, fun _ => rfl⟩
theorem ns_X11_7 : abNs RX11 7 6 [.null, .int 0] 2 := ⟨_, _, _, rfl, inT_X6, tyX6_ok, tb_28, tb_29, tb_2, fun j hj => by rcases (by omega : j = 0 ∨ j = 1) with rfl | rfl <;> rfl, fun _ => rfl⟩
theorem ns_X6_31 : abNs RX6 31 4 [.int 0, .int 0] 2 := ⟨_, _, _, rfl, inT_X4, tyX4_ok, tb_528, tb_529, tb_15, fun j hj => by rcases (by omega : j = 0 ∨ j = 1) with rfl | rfl <;> rfl, fun _ => rfl⟩
theorem ns_X6_34 : abNs RX6 34 10 [.int 0, .int 0] 2 := ⟨_, _, _, rfl, inT_X10, tyX10_ok, tb_549, tb_550, tb_16, fun j hj => by rcases (by omega : j = 0 ∨ j = 1) with rfl | rfl <;> rfl, fun _ => rfl⟩
theorem ns_X6_37 : abNs RX6 37 0 [.int 0, .int 0] 2 := ⟨_, _, _, rfl, inT_X0, tyX0_ok, tb_558, tb_559, tb_17, fun j hj => by rcases (by omega : j = 0 ∨ j = 1) with rfl | rfl <;> rfl, fun _ => rfl⟩
theorem ns_X6_40 : abNs RX6 40 7 [.int 0, .int 0] 2 := ⟨_, _, _, rfl, inT_X7, tyX7_ok, tb_567, tb_568, tb_18, fun j hj => by rcases (by omega : j = 0 ∨ j = 1) with rfl | rfl <;> rfl, fun _ => rfl⟩
theorem ns_X6_43 : abNs RX6 43 5 [.int 0, .int 0] 2 := ⟨_, _, _, rfl, inT_X5, tyX5_ok, tb_576, tb_577, tb_14, fun j hj => by rcases (by omega : j = 0 ∨ j = 1) with rfl | rfl <;> rfl, fun _ => rfl⟩
