/-! the tables' words that are used, by their places; then the sites: fields, calls, new -/
theorem abTb_all {ws : List Cond} (h1 : ∀ w ∈ ws, w ∈ lw_tbl) (h2 : ws.all goodWord = true) : ∀ w ∈ ws, w ∈ abTb := fun w hw => List.mem_filter.mpr ⟨h1 w hw, List.all_eq_true.mp h2 w hw⟩
theorem tb_1 : ((Jvm.Cond.initialized "ShadowCourt") : Jvm.Cond) ∈ abTb := abTb_mem 49 (by decide +kernel) rfl
theorem tb_2 : ((Jvm.Cond.initialized "ShadowCourt$Page") : Jvm.Cond) ∈ abTb := abTb_mem 50 (by decide +kernel) rfl
theorem tb_3 : ((Jvm.Cond.initialized "ShadowCourt$Court") : Jvm.Cond) ∈ abTb := abTb_mem 51 (by decide +kernel) rfl
theorem tb_4 : ((Jvm.Cond.initialized "ShadowCourt$Sight") : Jvm.Cond) ∈ abTb := abTb_mem 52 (by decide +kernel) rfl
theorem tb_5 : ((Jvm.Cond.initialized "ShadowCourt$Game") : Jvm.Cond) ∈ abTb := abTb_mem 53 (by decide +kernel) rfl
theorem tb_6 : ((Jvm.Cond.initialized "ShadowCourt$Docket") : Jvm.Cond) ∈ abTb := abTb_mem 54 (by decide +kernel) rfl
theorem tb_7 : ((Jvm.Cond.initialized "ShadowCourt$Terms") : Jvm.Cond) ∈ abTb := abTb_mem 55 (by decide +kernel) rfl
theorem tb_8 : ((Jvm.Cond.initialized "ShadowCourtModel") : Jvm.Cond) ∈ abTb := abTb_mem 56 (by decide +kernel) rfl
theorem tb_9 : ((Jvm.Cond.initialized "java/lang/String") : Jvm.Cond) ∈ abTb := abTb_mem 57 (by decide +kernel) rfl
theorem tb_10 : ((Jvm.Cond.initialized "java/lang/StringLatin1") : Jvm.Cond) ∈ abTb := abTb_mem 58 (by decide +kernel) rfl
theorem tb_11 : ((Jvm.Cond.initialized "java/lang/Math") : Jvm.Cond) ∈ abTb := abTb_mem 59 (by decide +kernel) rfl
theorem tb_15 : ((Jvm.Cond.initialized "ShadowCourt$Kind") : Jvm.Cond) ∈ abTb := abTb_mem 63 (by decide +kernel) rfl
theorem tb_16 : ((Jvm.Cond.initialized "ShadowCourt$Hat") : Jvm.Cond) ∈ abTb := abTb_mem 64 (by decide +kernel) rfl
theorem tb_17 : ((Jvm.Cond.initialized "ShadowCourt$Thin") : Jvm.Cond) ∈ abTb := abTb_mem 65 (by decide +kernel) rfl
theorem tb_18 : ((Jvm.Cond.initialized "ShadowCourt$Child") : Jvm.Cond) ∈ abTb := abTb_mem 66 (by decide +kernel) rfl
theorem tb_19 : ((Jvm.Cond.initialized "ShadowCourt$Plume") : Jvm.Cond) ∈ abTb := abTb_mem 67 (by decide +kernel) rfl
theorem tb_20 : ((Jvm.Cond.initialized "java/lang/Integer") : Jvm.Cond) ∈ abTb := abTb_mem 68 (by decide +kernel) rfl
theorem tb_21 : ((Jvm.Cond.initialized "java/lang/System") : Jvm.Cond) ∈ abTb := abTb_mem 69 (by decide +kernel) rfl
theorem tb_27 : ((Jvm.Cond.methodLink "ShadowCourt" (1 : Nat) ({ cls := "java/lang/Object", name := "<init>", desc := "()V" } : Jvm.MethodName)) : Jvm.Cond) ∈ abTb := abTb_mem 75 (by decide +kernel) rfl
theorem tb_28 : ((Jvm.Cond.instanceMethod ({ cls := "java/lang/Object", name := "<init>", desc := "()V" } : Jvm.MethodName)) : Jvm.Cond) ∈ abTb := abTb_mem 76 (by decide +kernel) rfl
theorem tb_29 : ((Jvm.Cond.code ({ cls := "java/lang/Object", name := "<init>", desc := "()V" } : Jvm.MethodName) object_method_1_code (1 : Nat) (Option.none : Option Jvm.ClassFile.FieldType)) : Jvm.Cond) ∈ abTb := abTb_mem 77 (by decide +kernel) rfl
theorem tb_30 : ((Jvm.Cond.classLink "ShadowCourt" (7 : Nat) "ShadowCourt$Page") : Jvm.Cond) ∈ abTb := abTb_mem 78 (by decide +kernel) rfl
theorem tb_31 : ((Jvm.Cond.instantiable "ShadowCourt$Page" (2 : Nat)) : Jvm.Cond) ∈ abTb := abTb_mem 79 (by decide +kernel) rfl
theorem tb_33 : ((Jvm.Cond.instanceMethod ({ cls := "ShadowCourt$Page", name := "<init>", desc := "()V" } : Jvm.MethodName)) : Jvm.Cond) ∈ abTb := abTb_mem 81 (by decide +kernel) rfl
theorem tb_34 : ((Jvm.Cond.code ({ cls := "ShadowCourt$Page", name := "<init>", desc := "()V" } : Jvm.MethodName) prog_8_method_1_code (1 : Nat) (Option.none : Option Jvm.ClassFile.FieldType)) : Jvm.Cond) ∈ abTb := abTb_mem 82 (by decide +kernel) rfl
theorem tb_35 : ((Jvm.Cond.methodLink "ShadowCourt$Page" (5 : Nat) ({ cls := "java/lang/Object", name := "<init>", desc := "()V" } : Jvm.MethodName)) : Jvm.Cond) ∈ abTb := abTb_mem 83 (by decide +kernel) rfl
theorem tb_36 : ((Jvm.Cond.fieldLink "ShadowCourt$Page" (11 : Nat) "ShadowCourt$Page" "letters" "[C") : Jvm.Cond) ∈ abTb := abTb_mem 84 (by decide +kernel) rfl
theorem tb_37 : ((Jvm.Cond.fieldLink "ShadowCourt$Court" (45 : Nat) "ShadowCourt$Page" "letters" "[C") : Jvm.Cond) ∈ abTb := abTb_mem 85 (by decide +kernel) rfl
theorem tb_38 : ((Jvm.Cond.fieldLink "ShadowCourt" (62 : Nat) "ShadowCourt$Page" "letters" "[C") : Jvm.Cond) ∈ abTb := abTb_mem 86 (by decide +kernel) rfl
theorem tb_39 : ((Jvm.Cond.fieldLink "ShadowCourt$Page" (15 : Nat) "ShadowCourt$Page" "length" "I") : Jvm.Cond) ∈ abTb := abTb_mem 87 (by decide +kernel) rfl
theorem tb_40 : ((Jvm.Cond.fieldLink "ShadowCourt" (58 : Nat) "ShadowCourt$Page" "length" "I") : Jvm.Cond) ∈ abTb := abTb_mem 88 (by decide +kernel) rfl
theorem tb_46 : ((Jvm.Cond.arrayClass Jvm.ClassFile.FieldType.char) : Jvm.Cond) ∈ abTb := abTb_mem 94 (by decide +kernel) rfl
theorem tb_47 : ((Jvm.Cond.classLink "ShadowCourt" (16 : Nat) "ShadowCourt$Court") : Jvm.Cond) ∈ abTb := abTb_mem 95 (by decide +kernel) rfl
theorem tb_48 : ((Jvm.Cond.instantiable "ShadowCourt$Court" (15 : Nat)) : Jvm.Cond) ∈ abTb := abTb_mem 96 (by decide +kernel) rfl
theorem tb_50 : ((Jvm.Cond.instanceMethod ({ cls := "ShadowCourt$Court", name := "<init>", desc := "()V" } : Jvm.MethodName)) : Jvm.Cond) ∈ abTb := abTb_mem 98 (by decide +kernel) rfl
theorem tb_51 : ((Jvm.Cond.code ({ cls := "ShadowCourt$Court", name := "<init>", desc := "()V" } : Jvm.MethodName) prog_3_method_1_code (1 : Nat) (Option.none : Option Jvm.ClassFile.FieldType)) : Jvm.Cond) ∈ abTb := abTb_mem 99 (by decide +kernel) rfl
theorem tb_52 : ((Jvm.Cond.methodLink "ShadowCourt$Court" (3 : Nat) ({ cls := "java/lang/Object", name := "<init>", desc := "()V" } : Jvm.MethodName)) : Jvm.Cond) ∈ abTb := abTb_mem 100 (by decide +kernel) rfl
theorem tb_53 : ((Jvm.Cond.classLink "ShadowCourt$Court" (9 : Nat) "ShadowCourt$Kind") : Jvm.Cond) ∈ abTb := abTb_mem 101 (by decide +kernel) rfl
theorem tb_55 : ((Jvm.Cond.fieldLink "ShadowCourt$Terms" (22 : Nat) "ShadowCourt$Court" "parties" "I") : Jvm.Cond) ∈ abTb := abTb_mem 103 (by decide +kernel) rfl
theorem tb_56 : ((Jvm.Cond.fieldLink "ShadowCourt$Court" (61 : Nat) "ShadowCourt$Court" "parties" "I") : Jvm.Cond) ∈ abTb := abTb_mem 104 (by decide +kernel) rfl
theorem tb_57 : ((Jvm.Cond.fieldLink "ShadowCourt" (85 : Nat) "ShadowCourt$Court" "parties" "I") : Jvm.Cond) ∈ abTb := abTb_mem 105 (by decide +kernel) rfl
theorem tb_58 : ((Jvm.Cond.fieldLink "ShadowCourt$Court" (11 : Nat) "ShadowCourt$Court" "kinds" "[LShadowCourt$Kind;") : Jvm.Cond) ∈ abTb := abTb_mem 106 (by decide +kernel) rfl
theorem tb_59 : ((Jvm.Cond.fieldLink "ShadowCourt" (92 : Nat) "ShadowCourt$Court" "kinds" "[LShadowCourt$Kind;") : Jvm.Cond) ∈ abTb := abTb_mem 107 (by decide +kernel) rfl
theorem tb_60 : ((Jvm.Cond.fieldLink "ShadowCourt$Court" (17 : Nat) "ShadowCourt$Court" "high" "[I") : Jvm.Cond) ∈ abTb := abTb_mem 108 (by decide +kernel) rfl
theorem tb_61 : ((Jvm.Cond.fieldLink "ShadowCourt$Game" (53 : Nat) "ShadowCourt$Court" "high" "[I") : Jvm.Cond) ∈ abTb := abTb_mem 109 (by decide +kernel) rfl
theorem tb_62 : ((Jvm.Cond.fieldLink "ShadowCourt" (101 : Nat) "ShadowCourt$Court" "high" "[I") : Jvm.Cond) ∈ abTb := abTb_mem 110 (by decide +kernel) rfl
theorem tb_63 : ((Jvm.Cond.fieldLink "ShadowCourt$Court" (21 : Nat) "ShadowCourt$Court" "tile" "[I") : Jvm.Cond) ∈ abTb := abTb_mem 111 (by decide +kernel) rfl
theorem tb_64 : ((Jvm.Cond.fieldLink "ShadowCourt$Game" (37 : Nat) "ShadowCourt$Court" "tile" "[I") : Jvm.Cond) ∈ abTb := abTb_mem 112 (by decide +kernel) rfl
theorem tb_65 : ((Jvm.Cond.fieldLink "ShadowCourt$Sight" (28 : Nat) "ShadowCourt$Court" "tile" "[I") : Jvm.Cond) ∈ abTb := abTb_mem 113 (by decide +kernel) rfl
theorem tb_66 : ((Jvm.Cond.fieldLink "ShadowCourt" (105 : Nat) "ShadowCourt$Court" "tile" "[I") : Jvm.Cond) ∈ abTb := abTb_mem 114 (by decide +kernel) rfl
theorem tb_67 : ((Jvm.Cond.fieldLink "ShadowCourt$Court" (24 : Nat) "ShadowCourt$Court" "worth" "[I") : Jvm.Cond) ∈ abTb := abTb_mem 115 (by decide +kernel) rfl
theorem tb_68 : ((Jvm.Cond.fieldLink "ShadowCourt" (140 : Nat) "ShadowCourt$Court" "worth" "[I") : Jvm.Cond) ∈ abTb := abTb_mem 116 (by decide +kernel) rfl
theorem tb_69 : ((Jvm.Cond.fieldLink "ShadowCourt$Game" (24 : Nat) "ShadowCourt$Court" "hour" "I") : Jvm.Cond) ∈ abTb := abTb_mem 117 (by decide +kernel) rfl
theorem tb_70 : ((Jvm.Cond.fieldLink "ShadowCourt$Court" (71 : Nat) "ShadowCourt$Court" "hour" "I") : Jvm.Cond) ∈ abTb := abTb_mem 118 (by decide +kernel) rfl
theorem tb_71 : ((Jvm.Cond.fieldLink "ShadowCourt" (108 : Nat) "ShadowCourt$Court" "hour" "I") : Jvm.Cond) ∈ abTb := abTb_mem 119 (by decide +kernel) rfl
theorem tb_72 : ((Jvm.Cond.fieldLink "ShadowCourt$Court" (74 : Nat) "ShadowCourt$Court" "days" "I") : Jvm.Cond) ∈ abTb := abTb_mem 120 (by decide +kernel) rfl
theorem tb_73 : ((Jvm.Cond.fieldLink "ShadowCourt" (160 : Nat) "ShadowCourt$Court" "days" "I") : Jvm.Cond) ∈ abTb := abTb_mem 121 (by decide +kernel) rfl
theorem tb_74 : ((Jvm.Cond.fieldLink "ShadowCourt$Docket" (18 : Nat) "ShadowCourt$Court" "cases" "I") : Jvm.Cond) ∈ abTb := abTb_mem 122 (by decide +kernel) rfl
theorem tb_75 : ((Jvm.Cond.fieldLink "ShadowCourt$Court" (77 : Nat) "ShadowCourt$Court" "cases" "I") : Jvm.Cond) ∈ abTb := abTb_mem 123 (by decide +kernel) rfl
theorem tb_76 : ((Jvm.Cond.fieldLink "ShadowCourt" (166 : Nat) "ShadowCourt$Court" "cases" "I") : Jvm.Cond) ∈ abTb := abTb_mem 124 (by decide +kernel) rfl
theorem tb_77 : ((Jvm.Cond.fieldLink "ShadowCourt$Court" (27 : Nat) "ShadowCourt$Court" "caseFirst" "[I") : Jvm.Cond) ∈ abTb := abTb_mem 125 (by decide +kernel) rfl
theorem tb_78 : ((Jvm.Cond.fieldLink "ShadowCourt$Docket" (25 : Nat) "ShadowCourt$Court" "caseFirst" "[I") : Jvm.Cond) ∈ abTb := abTb_mem 126 (by decide +kernel) rfl
theorem tb_79 : ((Jvm.Cond.fieldLink "ShadowCourt" (169 : Nat) "ShadowCourt$Court" "caseFirst" "[I") : Jvm.Cond) ∈ abTb := abTb_mem 127 (by decide +kernel) rfl
theorem tb_80 : ((Jvm.Cond.fieldLink "ShadowCourt$Court" (30 : Nat) "ShadowCourt$Court" "caseOther" "[I") : Jvm.Cond) ∈ abTb := abTb_mem 128 (by decide +kernel) rfl
theorem tb_81 : ((Jvm.Cond.fieldLink "ShadowCourt$Docket" (28 : Nat) "ShadowCourt$Court" "caseOther" "[I") : Jvm.Cond) ∈ abTb := abTb_mem 129 (by decide +kernel) rfl
theorem tb_82 : ((Jvm.Cond.fieldLink "ShadowCourt" (172 : Nat) "ShadowCourt$Court" "caseOther" "[I") : Jvm.Cond) ∈ abTb := abTb_mem 130 (by decide +kernel) rfl
theorem tb_83 : ((Jvm.Cond.fieldLink "ShadowCourt$Court" (80 : Nat) "ShadowCourt$Court" "seen" "I") : Jvm.Cond) ∈ abTb := abTb_mem 131 (by decide +kernel) rfl
theorem tb_84 : ((Jvm.Cond.fieldLink "ShadowCourt$Sight" (19 : Nat) "ShadowCourt$Court" "seen" "I") : Jvm.Cond) ∈ abTb := abTb_mem 132 (by decide +kernel) rfl
theorem tb_85 : ((Jvm.Cond.fieldLink "ShadowCourt" (199 : Nat) "ShadowCourt$Court" "seen" "I") : Jvm.Cond) ∈ abTb := abTb_mem 133 (by decide +kernel) rfl
theorem tb_86 : ((Jvm.Cond.fieldLink "ShadowCourt$Court" (33 : Nat) "ShadowCourt$Court" "seenParty" "[I") : Jvm.Cond) ∈ abTb := abTb_mem 134 (by decide +kernel) rfl
theorem tb_87 : ((Jvm.Cond.fieldLink "ShadowCourt$Sight" (25 : Nat) "ShadowCourt$Court" "seenParty" "[I") : Jvm.Cond) ∈ abTb := abTb_mem 135 (by decide +kernel) rfl
theorem tb_88 : ((Jvm.Cond.fieldLink "ShadowCourt" (202 : Nat) "ShadowCourt$Court" "seenParty" "[I") : Jvm.Cond) ∈ abTb := abTb_mem 136 (by decide +kernel) rfl
theorem tb_89 : ((Jvm.Cond.fieldLink "ShadowCourt$Court" (36 : Nat) "ShadowCourt$Court" "seenHour" "[I") : Jvm.Cond) ∈ abTb := abTb_mem 137 (by decide +kernel) rfl
theorem tb_90 : ((Jvm.Cond.fieldLink "ShadowCourt$Sight" (31 : Nat) "ShadowCourt$Court" "seenHour" "[I") : Jvm.Cond) ∈ abTb := abTb_mem 138 (by decide +kernel) rfl
theorem tb_91 : ((Jvm.Cond.fieldLink "ShadowCourt" (205 : Nat) "ShadowCourt$Court" "seenHour" "[I") : Jvm.Cond) ∈ abTb := abTb_mem 139 (by decide +kernel) rfl
theorem tb_92 : ((Jvm.Cond.fieldLink "ShadowCourt$Court" (39 : Nat) "ShadowCourt$Court" "seenTile" "[I") : Jvm.Cond) ∈ abTb := abTb_mem 140 (by decide +kernel) rfl
theorem tb_93 : ((Jvm.Cond.fieldLink "ShadowCourt$Sight" (38 : Nat) "ShadowCourt$Court" "seenTile" "[I") : Jvm.Cond) ∈ abTb := abTb_mem 141 (by decide +kernel) rfl
theorem tb_94 : ((Jvm.Cond.fieldLink "ShadowCourt" (208 : Nat) "ShadowCourt$Court" "seenTile" "[I") : Jvm.Cond) ∈ abTb := abTb_mem 142 (by decide +kernel) rfl
theorem tb_95 : ((Jvm.Cond.fieldLink "ShadowCourt$Court" (42 : Nat) "ShadowCourt$Court" "seenCovers" "[I") : Jvm.Cond) ∈ abTb := abTb_mem 143 (by decide +kernel) rfl
theorem tb_96 : ((Jvm.Cond.fieldLink "ShadowCourt$Sight" (41 : Nat) "ShadowCourt$Court" "seenCovers" "[I") : Jvm.Cond) ∈ abTb := abTb_mem 144 (by decide +kernel) rfl
theorem tb_97 : ((Jvm.Cond.fieldLink "ShadowCourt" (211 : Nat) "ShadowCourt$Court" "seenCovers" "[I") : Jvm.Cond) ∈ abTb := abTb_mem 145 (by decide +kernel) rfl
theorem tb_129 : ((Jvm.Cond.arrayClass Jvm.ClassFile.FieldType.int) : Jvm.Cond) ∈ abTb := abTb_mem 177 (by decide +kernel) rfl
theorem tb_130 : ((Jvm.Cond.classLink "ShadowCourt" (26 : Nat) "ShadowCourt$Sight") : Jvm.Cond) ∈ abTb := abTb_mem 178 (by decide +kernel) rfl
theorem tb_131 : ((Jvm.Cond.instantiable "ShadowCourt$Sight" (1 : Nat)) : Jvm.Cond) ∈ abTb := abTb_mem 179 (by decide +kernel) rfl
theorem tb_133 : ((Jvm.Cond.instanceMethod ({ cls := "ShadowCourt$Sight", name := "<init>", desc := "()V" } : Jvm.MethodName)) : Jvm.Cond) ∈ abTb := abTb_mem 181 (by decide +kernel) rfl
theorem tb_134 : ((Jvm.Cond.code ({ cls := "ShadowCourt$Sight", name := "<init>", desc := "()V" } : Jvm.MethodName) prog_10_method_1_code (1 : Nat) (Option.none : Option Jvm.ClassFile.FieldType)) : Jvm.Cond) ∈ abTb := abTb_mem 182 (by decide +kernel) rfl
theorem tb_135 : ((Jvm.Cond.methodLink "ShadowCourt$Sight" (3 : Nat) ({ cls := "java/lang/Object", name := "<init>", desc := "()V" } : Jvm.MethodName)) : Jvm.Cond) ∈ abTb := abTb_mem 183 (by decide +kernel) rfl
theorem tb_136 : ((Jvm.Cond.fieldLink "ShadowCourt$Sight" (9 : Nat) "ShadowCourt$Sight" "shades" "[I") : Jvm.Cond) ∈ abTb := abTb_mem 184 (by decide +kernel) rfl
theorem tb_140 : ((Jvm.Cond.classLink "ShadowCourt" (33 : Nat) "ShadowCourt$Game") : Jvm.Cond) ∈ abTb := abTb_mem 188 (by decide +kernel) rfl
theorem tb_141 : ((Jvm.Cond.instantiable "ShadowCourt$Game" (6 : Nat)) : Jvm.Cond) ∈ abTb := abTb_mem 189 (by decide +kernel) rfl
theorem tb_143 : ((Jvm.Cond.instanceMethod ({ cls := "ShadowCourt$Game", name := "<init>", desc := "()V" } : Jvm.MethodName)) : Jvm.Cond) ∈ abTb := abTb_mem 191 (by decide +kernel) rfl
theorem tb_144 : ((Jvm.Cond.code ({ cls := "ShadowCourt$Game", name := "<init>", desc := "()V" } : Jvm.MethodName) prog_5_method_1_code (1 : Nat) (Option.none : Option Jvm.ClassFile.FieldType)) : Jvm.Cond) ∈ abTb := abTb_mem 192 (by decide +kernel) rfl
theorem tb_145 : ((Jvm.Cond.methodLink "ShadowCourt$Game" (3 : Nat) ({ cls := "java/lang/Object", name := "<init>", desc := "()V" } : Jvm.MethodName)) : Jvm.Cond) ∈ abTb := abTb_mem 193 (by decide +kernel) rfl
theorem tb_146 : ((Jvm.Cond.fieldLink "ShadowCourt$Game" (9 : Nat) "ShadowCourt$Game" "worthA" "[I") : Jvm.Cond) ∈ abTb := abTb_mem 194 (by decide +kernel) rfl
theorem tb_147 : ((Jvm.Cond.fieldLink "ShadowCourt$Game" (15 : Nat) "ShadowCourt$Game" "worthB" "[I") : Jvm.Cond) ∈ abTb := abTb_mem 195 (by decide +kernel) rfl
theorem tb_148 : ((Jvm.Cond.fieldLink "ShadowCourt$Game" (18 : Nat) "ShadowCourt$Game" "ahead" "[I") : Jvm.Cond) ∈ abTb := abTb_mem 196 (by decide +kernel) rfl
theorem tb_149 : ((Jvm.Cond.fieldLink "ShadowCourt$Game" (21 : Nat) "ShadowCourt$Game" "behind" "[I") : Jvm.Cond) ∈ abTb := abTb_mem 197 (by decide +kernel) rfl
theorem tb_150 : ((Jvm.Cond.fieldLink "ShadowCourt$Game" (50 : Nat) "ShadowCourt$Game" "total" "I") : Jvm.Cond) ∈ abTb := abTb_mem 198 (by decide +kernel) rfl
theorem tb_151 : ((Jvm.Cond.fieldLink "ShadowCourt" (179 : Nat) "ShadowCourt$Game" "total" "I") : Jvm.Cond) ∈ abTb := abTb_mem 199 (by decide +kernel) rfl
theorem tb_152 : ((Jvm.Cond.fieldLink "ShadowCourt$Game" (44 : Nat) "ShadowCourt$Game" "firstStep" "I") : Jvm.Cond) ∈ abTb := abTb_mem 200 (by decide +kernel) rfl
theorem tb_153 : ((Jvm.Cond.fieldLink "ShadowCourt" (182 : Nat) "ShadowCourt$Game" "firstStep" "I") : Jvm.Cond) ∈ abTb := abTb_mem 201 (by decide +kernel) rfl
theorem tb_167 : ((Jvm.Cond.classLink "ShadowCourt" (40 : Nat) "ShadowCourt$Docket") : Jvm.Cond) ∈ abTb := abTb_mem 215 (by decide +kernel) rfl
theorem tb_168 : ((Jvm.Cond.instantiable "ShadowCourt$Docket" (4 : Nat)) : Jvm.Cond) ∈ abTb := abTb_mem 216 (by decide +kernel) rfl
theorem tb_170 : ((Jvm.Cond.instanceMethod ({ cls := "ShadowCourt$Docket", name := "<init>", desc := "()V" } : Jvm.MethodName)) : Jvm.Cond) ∈ abTb := abTb_mem 218 (by decide +kernel) rfl
theorem tb_171 : ((Jvm.Cond.code ({ cls := "ShadowCourt$Docket", name := "<init>", desc := "()V" } : Jvm.MethodName) prog_4_method_1_code (1 : Nat) (Option.none : Option Jvm.ClassFile.FieldType)) : Jvm.Cond) ∈ abTb := abTb_mem 219 (by decide +kernel) rfl
theorem tb_172 : ((Jvm.Cond.methodLink "ShadowCourt$Docket" (3 : Nat) ({ cls := "java/lang/Object", name := "<init>", desc := "()V" } : Jvm.MethodName)) : Jvm.Cond) ∈ abTb := abTb_mem 220 (by decide +kernel) rfl
theorem tb_173 : ((Jvm.Cond.fieldLink "ShadowCourt$Docket" (9 : Nat) "ShadowCourt$Docket" "rightHours" "[I") : Jvm.Cond) ∈ abTb := abTb_mem 221 (by decide +kernel) rfl
theorem tb_174 : ((Jvm.Cond.fieldLink "ShadowCourt$Docket" (24 : Nat) "ShadowCourt$Docket" "cases" "I") : Jvm.Cond) ∈ abTb := abTb_mem 222 (by decide +kernel) rfl
theorem tb_175 : ((Jvm.Cond.fieldLink "ShadowCourt$Docket" (15 : Nat) "ShadowCourt$Docket" "hourOf" "[I") : Jvm.Cond) ∈ abTb := abTb_mem 223 (by decide +kernel) rfl
theorem tb_176 : ((Jvm.Cond.fieldLink "ShadowCourt" (192 : Nat) "ShadowCourt$Docket" "hourOf" "[I") : Jvm.Cond) ∈ abTb := abTb_mem 224 (by decide +kernel) rfl
theorem tb_177 : ((Jvm.Cond.fieldLink "ShadowCourt$Docket" (39 : Nat) "ShadowCourt$Docket" "heard" "I") : Jvm.Cond) ∈ abTb := abTb_mem 225 (by decide +kernel) rfl
theorem tb_178 : ((Jvm.Cond.fieldLink "ShadowCourt" (189 : Nat) "ShadowCourt$Docket" "heard" "I") : Jvm.Cond) ∈ abTb := abTb_mem 226 (by decide +kernel) rfl
theorem tb_188 : ((Jvm.Cond.classLink "ShadowCourt" (47 : Nat) "ShadowCourt$Terms") : Jvm.Cond) ∈ abTb := abTb_mem 236 (by decide +kernel) rfl
theorem tb_189 : ((Jvm.Cond.instantiable "ShadowCourt$Terms" (3 : Nat)) : Jvm.Cond) ∈ abTb := abTb_mem 237 (by decide +kernel) rfl
theorem tb_191 : ((Jvm.Cond.instanceMethod ({ cls := "ShadowCourt$Terms", name := "<init>", desc := "()V" } : Jvm.MethodName)) : Jvm.Cond) ∈ abTb := abTb_mem 239 (by decide +kernel) rfl
theorem tb_192 : ((Jvm.Cond.code ({ cls := "ShadowCourt$Terms", name := "<init>", desc := "()V" } : Jvm.MethodName) prog_11_method_1_code (1 : Nat) (Option.none : Option Jvm.ClassFile.FieldType)) : Jvm.Cond) ∈ abTb := abTb_mem 240 (by decide +kernel) rfl
theorem tb_193 : ((Jvm.Cond.methodLink "ShadowCourt$Terms" (3 : Nat) ({ cls := "java/lang/Object", name := "<init>", desc := "()V" } : Jvm.MethodName)) : Jvm.Cond) ∈ abTb := abTb_mem 241 (by decide +kernel) rfl
theorem tb_194 : ((Jvm.Cond.fieldLink "ShadowCourt$Terms" (9 : Nat) "ShadowCourt$Terms" "seed" "J") : Jvm.Cond) ∈ abTb := abTb_mem 242 (by decide +kernel) rfl
theorem tb_195 : ((Jvm.Cond.fieldLink "ShadowCourt" (224 : Nat) "ShadowCourt$Terms" "seed" "J") : Jvm.Cond) ∈ abTb := abTb_mem 243 (by decide +kernel) rfl
theorem tb_196 : ((Jvm.Cond.fieldLink "ShadowCourt$Terms" (15 : Nat) "ShadowCourt$Terms" "forFirst" "I") : Jvm.Cond) ∈ abTb := abTb_mem 244 (by decide +kernel) rfl
theorem tb_197 : ((Jvm.Cond.fieldLink "ShadowCourt" (218 : Nat) "ShadowCourt$Terms" "forFirst" "I") : Jvm.Cond) ∈ abTb := abTb_mem 245 (by decide +kernel) rfl
theorem tb_198 : ((Jvm.Cond.fieldLink "ShadowCourt$Terms" (19 : Nat) "ShadowCourt$Terms" "stayed" "I") : Jvm.Cond) ∈ abTb := abTb_mem 246 (by decide +kernel) rfl
theorem tb_199 : ((Jvm.Cond.fieldLink "ShadowCourt" (221 : Nat) "ShadowCourt$Terms" "stayed" "I") : Jvm.Cond) ∈ abTb := abTb_mem 247 (by decide +kernel) rfl
theorem tb_207 : ((Jvm.Cond.fieldLink "ShadowCourt" (10 : Nat) "ShadowCourt" "page" "LShadowCourt$Page;") : Jvm.Cond) ∈ abTb := abTb_mem 255 (by decide +kernel) rfl
theorem tb_208 : ((Jvm.Cond.fieldLink "ShadowCourt" (19 : Nat) "ShadowCourt" "now" "LShadowCourt$Court;") : Jvm.Cond) ∈ abTb := abTb_mem 256 (by decide +kernel) rfl
theorem tb_209 : ((Jvm.Cond.fieldLink "ShadowCourt" (23 : Nat) "ShadowCourt" "kept" "LShadowCourt$Court;") : Jvm.Cond) ∈ abTb := abTb_mem 257 (by decide +kernel) rfl
theorem tb_210 : ((Jvm.Cond.fieldLink "ShadowCourt" (29 : Nat) "ShadowCourt" "sight" "LShadowCourt$Sight;") : Jvm.Cond) ∈ abTb := abTb_mem 258 (by decide +kernel) rfl
theorem tb_211 : ((Jvm.Cond.fieldLink "ShadowCourt" (36 : Nat) "ShadowCourt" "play" "LShadowCourt$Game;") : Jvm.Cond) ∈ abTb := abTb_mem 259 (by decide +kernel) rfl
theorem tb_212 : ((Jvm.Cond.fieldLink "ShadowCourt" (43 : Nat) "ShadowCourt" "list" "LShadowCourt$Docket;") : Jvm.Cond) ∈ abTb := abTb_mem 260 (by decide +kernel) rfl
theorem tb_213 : ((Jvm.Cond.fieldLink "ShadowCourt" (50 : Nat) "ShadowCourt" "draws" "LShadowCourt$Terms;") : Jvm.Cond) ∈ abTb := abTb_mem 261 (by decide +kernel) rfl
theorem tb_214 : ((Jvm.Cond.fieldLink "ShadowCourt" (78 : Nat) "ShadowCourt" "isKept" "Z") : Jvm.Cond) ∈ abTb := abTb_mem 262 (by decide +kernel) rfl
theorem tb_215 : ((Jvm.Cond.fieldLink "ShadowCourt" (82 : Nat) "ShadowCourt" "courts" "I") : Jvm.Cond) ∈ abTb := abTb_mem 263 (by decide +kernel) rfl
theorem tb_239 : ((Jvm.Cond.methodLink "ShadowCourt" (54 : Nat) ({ cls := "ShadowCourt", name := "within", desc := "(III)Z" } : Jvm.MethodName)) : Jvm.Cond) ∈ abTb := abTb_mem 287 (by decide +kernel) rfl
theorem tb_240 : ((Jvm.Cond.static ({ cls := "ShadowCourt", name := "within", desc := "(III)Z" } : Jvm.MethodName)) : Jvm.Cond) ∈ abTb := abTb_mem 288 (by decide +kernel) rfl
theorem tb_241 : ((Jvm.Cond.code ({ cls := "ShadowCourt", name := "within", desc := "(III)Z" } : Jvm.MethodName) prog_1_method_29_code (3 : Nat) (Option.some Jvm.ClassFile.FieldType.boolean)) : Jvm.Cond) ∈ abTb := abTb_mem 289 (by decide +kernel) rfl
theorem tb_250 : ((Jvm.Cond.methodLink "ShadowCourt" (66 : Nat) ({ cls := "ShadowCourt$Page", name := "firstWrong", desc := "()I" } : Jvm.MethodName)) : Jvm.Cond) ∈ abTb := abTb_mem 298 (by decide +kernel) rfl
theorem tb_251 : ((Jvm.Cond.instanceMethod ({ cls := "ShadowCourt$Page", name := "firstWrong", desc := "()I" } : Jvm.MethodName)) : Jvm.Cond) ∈ abTb := abTb_mem 299 (by decide +kernel) rfl
theorem tb_252 : ((Jvm.Cond.selects "ShadowCourt$Page" ({ cls := "ShadowCourt$Page", name := "firstWrong", desc := "()I" } : Jvm.MethodName) ({ cls := "ShadowCourt$Page", name := "firstWrong", desc := "()I" } : Jvm.MethodName)) : Jvm.Cond) ∈ abTb := abTb_mem 300 (by decide +kernel) rfl
theorem tb_253 : ((Jvm.Cond.code ({ cls := "ShadowCourt$Page", name := "firstWrong", desc := "()I" } : Jvm.MethodName) prog_8_method_2_code (2 : Nat) (Option.some Jvm.ClassFile.FieldType.int)) : Jvm.Cond) ∈ abTb := abTb_mem 301 (by decide +kernel) rfl
theorem tb_254 : ((Jvm.Cond.methodLink "ShadowCourt$Page" (19 : Nat) ({ cls := "ShadowCourt$Page", name := "fits", desc := "(I)Z" } : Jvm.MethodName)) : Jvm.Cond) ∈ abTb := abTb_mem 302 (by decide +kernel) rfl
theorem tb_256 : ((Jvm.Cond.instanceMethod ({ cls := "ShadowCourt$Page", name := "fits", desc := "(I)Z" } : Jvm.MethodName)) : Jvm.Cond) ∈ abTb := abTb_mem 304 (by decide +kernel) rfl
theorem tb_257 : ((Jvm.Cond.code ({ cls := "ShadowCourt$Page", name := "fits", desc := "(I)Z" } : Jvm.MethodName) prog_8_method_8_code (3 : Nat) (Option.some Jvm.ClassFile.FieldType.boolean)) : Jvm.Cond) ∈ abTb := abTb_mem 305 (by decide +kernel) rfl
theorem tb_260 : ((Jvm.Cond.methodLink "ShadowCourt$Page" (54 : Nat) ({ cls := "java/lang/String", name := "indexOf", desc := "(I)I" } : Jvm.MethodName)) : Jvm.Cond) ∈ abTb := abTb_mem 308 (by decide +kernel) rfl
theorem tb_261 : ((Jvm.Cond.instanceMethod ({ cls := "java/lang/String", name := "indexOf", desc := "(I)I" } : Jvm.MethodName)) : Jvm.Cond) ∈ abTb := abTb_mem 309 (by decide +kernel) rfl
theorem tb_262 : ((Jvm.Cond.selects "java/lang/String" ({ cls := "java/lang/String", name := "indexOf", desc := "(I)I" } : Jvm.MethodName) ({ cls := "java/lang/String", name := "indexOf", desc := "(I)I" } : Jvm.MethodName)) : Jvm.Cond) ∈ abTb := abTb_mem 310 (by decide +kernel) rfl
theorem tb_263 : ((Jvm.Cond.code ({ cls := "java/lang/String", name := "indexOf", desc := "(I)I" } : Jvm.MethodName) prog_18_method_79_code (2 : Nat) (Option.some Jvm.ClassFile.FieldType.int)) : Jvm.Cond) ∈ abTb := abTb_mem 311 (by decide +kernel) rfl
theorem tb_264 : ((Jvm.Cond.methodLink "java/lang/String" (633 : Nat) ({ cls := "java/lang/String", name := "indexOf", desc := "(II)I" } : Jvm.MethodName)) : Jvm.Cond) ∈ abTb := abTb_mem 312 (by decide +kernel) rfl
theorem tb_265 : ((Jvm.Cond.instanceMethod ({ cls := "java/lang/String", name := "indexOf", desc := "(II)I" } : Jvm.MethodName)) : Jvm.Cond) ∈ abTb := abTb_mem 313 (by decide +kernel) rfl
theorem tb_266 : ((Jvm.Cond.selects "java/lang/String" ({ cls := "java/lang/String", name := "indexOf", desc := "(II)I" } : Jvm.MethodName) ({ cls := "java/lang/String", name := "indexOf", desc := "(II)I" } : Jvm.MethodName)) : Jvm.Cond) ∈ abTb := abTb_mem 314 (by decide +kernel) rfl
theorem tb_267 : ((Jvm.Cond.code ({ cls := "java/lang/String", name := "indexOf", desc := "(II)I" } : Jvm.MethodName) prog_18_method_80_code (3 : Nat) (Option.some Jvm.ClassFile.FieldType.int)) : Jvm.Cond) ∈ abTb := abTb_mem 315 (by decide +kernel) rfl
theorem tb_268 : ((Jvm.Cond.methodLink "java/lang/String" (492 : Nat) ({ cls := "java/lang/String", name := "isLatin1", desc := "()Z" } : Jvm.MethodName)) : Jvm.Cond) ∈ abTb := abTb_mem 316 (by decide +kernel) rfl
theorem tb_269 : ((Jvm.Cond.instanceMethod ({ cls := "java/lang/String", name := "isLatin1", desc := "()Z" } : Jvm.MethodName)) : Jvm.Cond) ∈ abTb := abTb_mem 317 (by decide +kernel) rfl
theorem tb_270 : ((Jvm.Cond.selects "java/lang/String" ({ cls := "java/lang/String", name := "isLatin1", desc := "()Z" } : Jvm.MethodName) ({ cls := "java/lang/String", name := "isLatin1", desc := "()Z" } : Jvm.MethodName)) : Jvm.Cond) ∈ abTb := abTb_mem 318 (by decide +kernel) rfl
theorem tb_271 : ((Jvm.Cond.code ({ cls := "java/lang/String", name := "isLatin1", desc := "()Z" } : Jvm.MethodName) prog_18_method_154_code (1 : Nat) (Option.some Jvm.ClassFile.FieldType.boolean)) : Jvm.Cond) ∈ abTb := abTb_mem 319 (by decide +kernel) rfl
theorem tb_272 : ((Jvm.Cond.fieldLink "java/lang/String" (38 : Nat) "java/lang/String" "COMPACT_STRINGS" "Z") : Jvm.Cond) ∈ abTb := abTb_mem 320 (by decide +kernel) rfl
theorem tb_274 : ((Jvm.Cond.methodLink "java/lang/String" (505 : Nat) ({ cls := "java/lang/String", name := "length", desc := "()I" } : Jvm.MethodName)) : Jvm.Cond) ∈ abTb := abTb_mem 322 (by decide +kernel) rfl
theorem tb_275 : ((Jvm.Cond.instanceMethod ({ cls := "java/lang/String", name := "length", desc := "()I" } : Jvm.MethodName)) : Jvm.Cond) ∈ abTb := abTb_mem 323 (by decide +kernel) rfl
theorem tb_276 : ((Jvm.Cond.selects "java/lang/String" ({ cls := "java/lang/String", name := "length", desc := "()I" } : Jvm.MethodName) ({ cls := "java/lang/String", name := "length", desc := "()I" } : Jvm.MethodName)) : Jvm.Cond) ∈ abTb := abTb_mem 324 (by decide +kernel) rfl
theorem tb_277 : ((Jvm.Cond.code ({ cls := "java/lang/String", name := "length", desc := "()I" } : Jvm.MethodName) prog_18_method_54_code (1 : Nat) (Option.some Jvm.ClassFile.FieldType.int)) : Jvm.Cond) ∈ abTb := abTb_mem 325 (by decide +kernel) rfl
theorem tb_278 : ((Jvm.Cond.methodLink "java/lang/String" (335 : Nat) ({ cls := "java/lang/String", name := "coder", desc := "()B" } : Jvm.MethodName)) : Jvm.Cond) ∈ abTb := abTb_mem 326 (by decide +kernel) rfl
theorem tb_279 : ((Jvm.Cond.instanceMethod ({ cls := "java/lang/String", name := "coder", desc := "()B" } : Jvm.MethodName)) : Jvm.Cond) ∈ abTb := abTb_mem 327 (by decide +kernel) rfl
theorem tb_280 : ((Jvm.Cond.selects "java/lang/String" ({ cls := "java/lang/String", name := "coder", desc := "()B" } : Jvm.MethodName) ({ cls := "java/lang/String", name := "coder", desc := "()B" } : Jvm.MethodName)) : Jvm.Cond) ∈ abTb := abTb_mem 328 (by decide +kernel) rfl
theorem tb_281 : ((Jvm.Cond.code ({ cls := "java/lang/String", name := "coder", desc := "()B" } : Jvm.MethodName) prog_18_method_152_code (1 : Nat) (Option.some Jvm.ClassFile.FieldType.byte)) : Jvm.Cond) ∈ abTb := abTb_mem 329 (by decide +kernel) rfl
theorem tb_282 : ((Jvm.Cond.methodLink "java/lang/String" (637 : Nat) ({ cls := "java/lang/StringLatin1", name := "indexOf", desc := "([BIII)I" } : Jvm.MethodName)) : Jvm.Cond) ∈ abTb := abTb_mem 330 (by decide +kernel) rfl
theorem tb_283 : ((Jvm.Cond.static ({ cls := "java/lang/StringLatin1", name := "indexOf", desc := "([BIII)I" } : Jvm.MethodName)) : Jvm.Cond) ∈ abTb := abTb_mem 331 (by decide +kernel) rfl
theorem tb_284 : ((Jvm.Cond.code ({ cls := "java/lang/StringLatin1", name := "indexOf", desc := "([BIII)I" } : Jvm.MethodName) prog_19_method_22_code (4 : Nat) (Option.some Jvm.ClassFile.FieldType.int)) : Jvm.Cond) ∈ abTb := abTb_mem 332 (by decide +kernel) rfl
theorem tb_285 : ((Jvm.Cond.methodLink "java/lang/StringLatin1" (88 : Nat) ({ cls := "java/lang/StringLatin1", name := "canEncode", desc := "(I)Z" } : Jvm.MethodName)) : Jvm.Cond) ∈ abTb := abTb_mem 333 (by decide +kernel) rfl
theorem tb_286 : ((Jvm.Cond.static ({ cls := "java/lang/StringLatin1", name := "canEncode", desc := "(I)Z" } : Jvm.MethodName)) : Jvm.Cond) ∈ abTb := abTb_mem 334 (by decide +kernel) rfl
theorem tb_287 : ((Jvm.Cond.code ({ cls := "java/lang/StringLatin1", name := "canEncode", desc := "(I)Z" } : Jvm.MethodName) prog_19_method_4_code (1 : Nat) (Option.some Jvm.ClassFile.FieldType.boolean)) : Jvm.Cond) ∈ abTb := abTb_mem 335 (by decide +kernel) rfl
theorem tb_288 : ((Jvm.Cond.methodLink "java/lang/StringLatin1" (92 : Nat) ({ cls := "java/lang/Math", name := "max", desc := "(II)I" } : Jvm.MethodName)) : Jvm.Cond) ∈ abTb := abTb_mem 336 (by decide +kernel) rfl
theorem tb_289 : ((Jvm.Cond.static ({ cls := "java/lang/Math", name := "max", desc := "(II)I" } : Jvm.MethodName)) : Jvm.Cond) ∈ abTb := abTb_mem 337 (by decide +kernel) rfl
theorem tb_290 : ((Jvm.Cond.code ({ cls := "java/lang/Math", name := "max", desc := "(II)I" } : Jvm.MethodName) prog_17_method_65_code (2 : Nat) (Option.some Jvm.ClassFile.FieldType.int)) : Jvm.Cond) ∈ abTb := abTb_mem 338 (by decide +kernel) rfl
theorem tb_291 : ((Jvm.Cond.methodLink "java/lang/StringLatin1" (38 : Nat) ({ cls := "java/lang/Math", name := "min", desc := "(II)I" } : Jvm.MethodName)) : Jvm.Cond) ∈ abTb := abTb_mem 339 (by decide +kernel) rfl
theorem tb_292 : ((Jvm.Cond.static ({ cls := "java/lang/Math", name := "min", desc := "(II)I" } : Jvm.MethodName)) : Jvm.Cond) ∈ abTb := abTb_mem 340 (by decide +kernel) rfl
theorem tb_293 : ((Jvm.Cond.code ({ cls := "java/lang/Math", name := "min", desc := "(II)I" } : Jvm.MethodName) prog_17_method_69_code (2 : Nat) (Option.some Jvm.ClassFile.FieldType.int)) : Jvm.Cond) ∈ abTb := abTb_mem 341 (by decide +kernel) rfl
theorem tb_294 : ((Jvm.Cond.methodLink "java/lang/StringLatin1" (95 : Nat) ({ cls := "java/lang/StringLatin1", name := "indexOfChar", desc := "([BIII)I" } : Jvm.MethodName)) : Jvm.Cond) ∈ abTb := abTb_mem 342 (by decide +kernel) rfl
theorem tb_295 : ((Jvm.Cond.static ({ cls := "java/lang/StringLatin1", name := "indexOfChar", desc := "([BIII)I" } : Jvm.MethodName)) : Jvm.Cond) ∈ abTb := abTb_mem 343 (by decide +kernel) rfl
theorem tb_296 : ((Jvm.Cond.code ({ cls := "java/lang/StringLatin1", name := "indexOfChar", desc := "([BIII)I" } : Jvm.MethodName) prog_19_method_23_code (6 : Nat) (Option.some Jvm.ClassFile.FieldType.int)) : Jvm.Cond) ∈ abTb := abTb_mem 344 (by decide +kernel) rfl
theorem tb_346 : ((Jvm.Cond.arrayClass Jvm.ClassFile.FieldType.byte) : Jvm.Cond) ∈ abTb := abTb_mem 394 (by decide +kernel) rfl
theorem tb_351 : ((Jvm.Cond.methodLink "ShadowCourt" (70 : Nat) ({ cls := "ShadowCourt$Page", name := "isCourt", desc := "()Z" } : Jvm.MethodName)) : Jvm.Cond) ∈ abTb := abTb_mem 399 (by decide +kernel) rfl
theorem tb_352 : ((Jvm.Cond.instanceMethod ({ cls := "ShadowCourt$Page", name := "isCourt", desc := "()Z" } : Jvm.MethodName)) : Jvm.Cond) ∈ abTb := abTb_mem 400 (by decide +kernel) rfl
theorem tb_353 : ((Jvm.Cond.selects "ShadowCourt$Page" ({ cls := "ShadowCourt$Page", name := "isCourt", desc := "()Z" } : Jvm.MethodName) ({ cls := "ShadowCourt$Page", name := "isCourt", desc := "()Z" } : Jvm.MethodName)) : Jvm.Cond) ∈ abTb := abTb_mem 401 (by decide +kernel) rfl
theorem tb_354 : ((Jvm.Cond.code ({ cls := "ShadowCourt$Page", name := "isCourt", desc := "()Z" } : Jvm.MethodName) prog_8_method_3_code (1 : Nat) (Option.some Jvm.ClassFile.FieldType.boolean)) : Jvm.Cond) ∈ abTb := abTb_mem 402 (by decide +kernel) rfl
theorem tb_355 : ((Jvm.Cond.methodLink "ShadowCourt$Page" (23 : Nat) ({ cls := "ShadowCourt$Page", name := "hasWholeParties", desc := "()Z" } : Jvm.MethodName)) : Jvm.Cond) ∈ abTb := abTb_mem 403 (by decide +kernel) rfl
theorem tb_356 : ((Jvm.Cond.instanceMethod ({ cls := "ShadowCourt$Page", name := "hasWholeParties", desc := "()Z" } : Jvm.MethodName)) : Jvm.Cond) ∈ abTb := abTb_mem 404 (by decide +kernel) rfl
theorem tb_357 : ((Jvm.Cond.selects "ShadowCourt$Page" ({ cls := "ShadowCourt$Page", name := "hasWholeParties", desc := "()Z" } : Jvm.MethodName) ({ cls := "ShadowCourt$Page", name := "hasWholeParties", desc := "()Z" } : Jvm.MethodName)) : Jvm.Cond) ∈ abTb := abTb_mem 405 (by decide +kernel) rfl
theorem tb_358 : ((Jvm.Cond.code ({ cls := "ShadowCourt$Page", name := "hasWholeParties", desc := "()Z" } : Jvm.MethodName) prog_8_method_4_code (1 : Nat) (Option.some Jvm.ClassFile.FieldType.boolean)) : Jvm.Cond) ∈ abTb := abTb_mem 406 (by decide +kernel) rfl
theorem tb_359 : ((Jvm.Cond.methodLink "ShadowCourt$Page" (27 : Nat) ({ cls := "ShadowCourt$Page", name := "firstWrong", desc := "()I" } : Jvm.MethodName)) : Jvm.Cond) ∈ abTb := abTb_mem 407 (by decide +kernel) rfl
theorem tb_360 : ((Jvm.Cond.methodLink "ShadowCourt" (74 : Nat) ({ cls := "ShadowCourt$Court", name := "read", desc := "(LShadowCourt$Page;)V" } : Jvm.MethodName)) : Jvm.Cond) ∈ abTb := abTb_mem 408 (by decide +kernel) rfl
theorem tb_361 : ((Jvm.Cond.instanceMethod ({ cls := "ShadowCourt$Court", name := "read", desc := "(LShadowCourt$Page;)V" } : Jvm.MethodName)) : Jvm.Cond) ∈ abTb := abTb_mem 409 (by decide +kernel) rfl
theorem tb_362 : ((Jvm.Cond.selects "ShadowCourt$Court" ({ cls := "ShadowCourt$Court", name := "read", desc := "(LShadowCourt$Page;)V" } : Jvm.MethodName) ({ cls := "ShadowCourt$Court", name := "read", desc := "(LShadowCourt$Page;)V" } : Jvm.MethodName)) : Jvm.Cond) ∈ abTb := abTb_mem 410 (by decide +kernel) rfl
theorem tb_363 : ((Jvm.Cond.code ({ cls := "ShadowCourt$Court", name := "read", desc := "(LShadowCourt$Page;)V" } : Jvm.MethodName) prog_3_method_2_code (3 : Nat) (Option.none : Option Jvm.ClassFile.FieldType)) : Jvm.Cond) ∈ abTb := abTb_mem 411 (by decide +kernel) rfl
theorem tb_364 : ((Jvm.Cond.methodLink "ShadowCourt$Court" (51 : Nat) ({ cls := "ShadowCourt$Page", name := "parties", desc := "()I" } : Jvm.MethodName)) : Jvm.Cond) ∈ abTb := abTb_mem 412 (by decide +kernel) rfl
theorem tb_365 : ((Jvm.Cond.instanceMethod ({ cls := "ShadowCourt$Page", name := "parties", desc := "()I" } : Jvm.MethodName)) : Jvm.Cond) ∈ abTb := abTb_mem 413 (by decide +kernel) rfl
theorem tb_366 : ((Jvm.Cond.selects "ShadowCourt$Page" ({ cls := "ShadowCourt$Page", name := "parties", desc := "()I" } : Jvm.MethodName) ({ cls := "ShadowCourt$Page", name := "parties", desc := "()I" } : Jvm.MethodName)) : Jvm.Cond) ∈ abTb := abTb_mem 414 (by decide +kernel) rfl
theorem tb_367 : ((Jvm.Cond.code ({ cls := "ShadowCourt$Page", name := "parties", desc := "()I" } : Jvm.MethodName) prog_8_method_5_code (1 : Nat) (Option.some Jvm.ClassFile.FieldType.int)) : Jvm.Cond) ∈ abTb := abTb_mem 415 (by decide +kernel) rfl
theorem tb_368 : ((Jvm.Cond.methodLink "ShadowCourt$Court" (55 : Nat) ({ cls := "java/lang/Math", name := "min", desc := "(II)I" } : Jvm.MethodName)) : Jvm.Cond) ∈ abTb := abTb_mem 416 (by decide +kernel) rfl
theorem tb_369 : ((Jvm.Cond.methodLink "ShadowCourt$Court" (64 : Nat) ({ cls := "ShadowCourt$Page", name := "kindOf", desc := "(I)LShadowCourt$Kind;" } : Jvm.MethodName)) : Jvm.Cond) ∈ abTb := abTb_mem 417 (by decide +kernel) rfl
theorem tb_370 : ((Jvm.Cond.instanceMethod ({ cls := "ShadowCourt$Page", name := "kindOf", desc := "(I)LShadowCourt$Kind;" } : Jvm.MethodName)) : Jvm.Cond) ∈ abTb := abTb_mem 418 (by decide +kernel) rfl
theorem tb_371 : ((Jvm.Cond.selects "ShadowCourt$Page" ({ cls := "ShadowCourt$Page", name := "kindOf", desc := "(I)LShadowCourt$Kind;" } : Jvm.MethodName) ({ cls := "ShadowCourt$Page", name := "kindOf", desc := "(I)LShadowCourt$Kind;" } : Jvm.MethodName)) : Jvm.Cond) ∈ abTb := abTb_mem 419 (by decide +kernel) rfl
theorem tb_372 : ((Jvm.Cond.code ({ cls := "ShadowCourt$Page", name := "kindOf", desc := "(I)LShadowCourt$Kind;" } : Jvm.MethodName) prog_8_method_7_code (2 : Nat) (Option.some (Jvm.ClassFile.FieldType.object "ShadowCourt$Kind"))) : Jvm.Cond) ∈ abTb := abTb_mem 420 (by decide +kernel) rfl
theorem tb_373 : ((Jvm.Cond.classLink "ShadowCourt$Page" (31 : Nat) "ShadowCourt$Hat") : Jvm.Cond) ∈ abTb := abTb_mem 421 (by decide +kernel) rfl
theorem tb_374 : ((Jvm.Cond.instantiable "ShadowCourt$Hat" (2 : Nat)) : Jvm.Cond) ∈ abTb := abTb_mem 422 (by decide +kernel) rfl
theorem tb_375 : ((Jvm.Cond.methodLink "ShadowCourt$Page" (33 : Nat) ({ cls := "ShadowCourt$Hat", name := "<init>", desc := "()V" } : Jvm.MethodName)) : Jvm.Cond) ∈ abTb := abTb_mem 423 (by decide +kernel) rfl
theorem tb_376 : ((Jvm.Cond.instanceMethod ({ cls := "ShadowCourt$Hat", name := "<init>", desc := "()V" } : Jvm.MethodName)) : Jvm.Cond) ∈ abTb := abTb_mem 424 (by decide +kernel) rfl
theorem tb_377 : ((Jvm.Cond.code ({ cls := "ShadowCourt$Hat", name := "<init>", desc := "()V" } : Jvm.MethodName) prog_6_method_1_code (1 : Nat) (Option.none : Option Jvm.ClassFile.FieldType)) : Jvm.Cond) ∈ abTb := abTb_mem 425 (by decide +kernel) rfl
theorem tb_378 : ((Jvm.Cond.methodLink "ShadowCourt$Hat" (5 : Nat) ({ cls := "ShadowCourt$Hat", name := "<init>", desc := "(II)V" } : Jvm.MethodName)) : Jvm.Cond) ∈ abTb := abTb_mem 426 (by decide +kernel) rfl
theorem tb_379 : ((Jvm.Cond.instanceMethod ({ cls := "ShadowCourt$Hat", name := "<init>", desc := "(II)V" } : Jvm.MethodName)) : Jvm.Cond) ∈ abTb := abTb_mem 427 (by decide +kernel) rfl
theorem tb_380 : ((Jvm.Cond.code ({ cls := "ShadowCourt$Hat", name := "<init>", desc := "(II)V" } : Jvm.MethodName) prog_6_method_2_code (3 : Nat) (Option.none : Option Jvm.ClassFile.FieldType)) : Jvm.Cond) ∈ abTb := abTb_mem 428 (by decide +kernel) rfl
theorem tb_381 : ((Jvm.Cond.methodLink "ShadowCourt$Hat" (9 : Nat) ({ cls := "ShadowCourt$Kind", name := "<init>", desc := "(II)V" } : Jvm.MethodName)) : Jvm.Cond) ∈ abTb := abTb_mem 429 (by decide +kernel) rfl
theorem tb_382 : ((Jvm.Cond.instanceMethod ({ cls := "ShadowCourt$Kind", name := "<init>", desc := "(II)V" } : Jvm.MethodName)) : Jvm.Cond) ∈ abTb := abTb_mem 430 (by decide +kernel) rfl
theorem tb_383 : ((Jvm.Cond.code ({ cls := "ShadowCourt$Kind", name := "<init>", desc := "(II)V" } : Jvm.MethodName) prog_7_method_1_code (3 : Nat) (Option.none : Option Jvm.ClassFile.FieldType)) : Jvm.Cond) ∈ abTb := abTb_mem 431 (by decide +kernel) rfl
theorem tb_384 : ((Jvm.Cond.methodLink "ShadowCourt$Kind" (3 : Nat) ({ cls := "java/lang/Object", name := "<init>", desc := "()V" } : Jvm.MethodName)) : Jvm.Cond) ∈ abTb := abTb_mem 432 (by decide +kernel) rfl
theorem tb_385 : ((Jvm.Cond.fieldLink "ShadowCourt$Kind" (9 : Nat) "ShadowCourt$Kind" "number" "I") : Jvm.Cond) ∈ abTb := abTb_mem 433 (by decide +kernel) rfl
theorem tb_386 : ((Jvm.Cond.fieldLink "ShadowCourt" (96 : Nat) "ShadowCourt$Kind" "number" "I") : Jvm.Cond) ∈ abTb := abTb_mem 434 (by decide +kernel) rfl
theorem tb_387 : ((Jvm.Cond.fieldLink "ShadowCourt$Kind" (15 : Nat) "ShadowCourt$Kind" "higher" "I") : Jvm.Cond) ∈ abTb := abTb_mem 435 (by decide +kernel) rfl
theorem tb_393 : ((Jvm.Cond.classLink "ShadowCourt$Page" (34 : Nat) "ShadowCourt$Thin") : Jvm.Cond) ∈ abTb := abTb_mem 441 (by decide +kernel) rfl
theorem tb_394 : ((Jvm.Cond.instantiable "ShadowCourt$Thin" (2 : Nat)) : Jvm.Cond) ∈ abTb := abTb_mem 442 (by decide +kernel) rfl
theorem tb_395 : ((Jvm.Cond.methodLink "ShadowCourt$Page" (36 : Nat) ({ cls := "ShadowCourt$Thin", name := "<init>", desc := "()V" } : Jvm.MethodName)) : Jvm.Cond) ∈ abTb := abTb_mem 443 (by decide +kernel) rfl
theorem tb_396 : ((Jvm.Cond.instanceMethod ({ cls := "ShadowCourt$Thin", name := "<init>", desc := "()V" } : Jvm.MethodName)) : Jvm.Cond) ∈ abTb := abTb_mem 444 (by decide +kernel) rfl
theorem tb_397 : ((Jvm.Cond.code ({ cls := "ShadowCourt$Thin", name := "<init>", desc := "()V" } : Jvm.MethodName) prog_12_method_1_code (1 : Nat) (Option.none : Option Jvm.ClassFile.FieldType)) : Jvm.Cond) ∈ abTb := abTb_mem 445 (by decide +kernel) rfl
theorem tb_398 : ((Jvm.Cond.methodLink "ShadowCourt$Thin" (3 : Nat) ({ cls := "ShadowCourt$Kind", name := "<init>", desc := "(II)V" } : Jvm.MethodName)) : Jvm.Cond) ∈ abTb := abTb_mem 446 (by decide +kernel) rfl
theorem tb_402 : ((Jvm.Cond.classLink "ShadowCourt$Page" (37 : Nat) "ShadowCourt$Child") : Jvm.Cond) ∈ abTb := abTb_mem 450 (by decide +kernel) rfl
theorem tb_403 : ((Jvm.Cond.instantiable "ShadowCourt$Child" (2 : Nat)) : Jvm.Cond) ∈ abTb := abTb_mem 451 (by decide +kernel) rfl
theorem tb_404 : ((Jvm.Cond.methodLink "ShadowCourt$Page" (39 : Nat) ({ cls := "ShadowCourt$Child", name := "<init>", desc := "()V" } : Jvm.MethodName)) : Jvm.Cond) ∈ abTb := abTb_mem 452 (by decide +kernel) rfl
theorem tb_405 : ((Jvm.Cond.instanceMethod ({ cls := "ShadowCourt$Child", name := "<init>", desc := "()V" } : Jvm.MethodName)) : Jvm.Cond) ∈ abTb := abTb_mem 453 (by decide +kernel) rfl
theorem tb_406 : ((Jvm.Cond.code ({ cls := "ShadowCourt$Child", name := "<init>", desc := "()V" } : Jvm.MethodName) prog_2_method_1_code (1 : Nat) (Option.none : Option Jvm.ClassFile.FieldType)) : Jvm.Cond) ∈ abTb := abTb_mem 454 (by decide +kernel) rfl
theorem tb_407 : ((Jvm.Cond.methodLink "ShadowCourt$Child" (3 : Nat) ({ cls := "ShadowCourt$Kind", name := "<init>", desc := "(II)V" } : Jvm.MethodName)) : Jvm.Cond) ∈ abTb := abTb_mem 455 (by decide +kernel) rfl
theorem tb_411 : ((Jvm.Cond.classLink "ShadowCourt$Page" (40 : Nat) "ShadowCourt$Plume") : Jvm.Cond) ∈ abTb := abTb_mem 459 (by decide +kernel) rfl
theorem tb_412 : ((Jvm.Cond.instantiable "ShadowCourt$Plume" (2 : Nat)) : Jvm.Cond) ∈ abTb := abTb_mem 460 (by decide +kernel) rfl
theorem tb_413 : ((Jvm.Cond.methodLink "ShadowCourt$Page" (42 : Nat) ({ cls := "ShadowCourt$Plume", name := "<init>", desc := "()V" } : Jvm.MethodName)) : Jvm.Cond) ∈ abTb := abTb_mem 461 (by decide +kernel) rfl
theorem tb_414 : ((Jvm.Cond.instanceMethod ({ cls := "ShadowCourt$Plume", name := "<init>", desc := "()V" } : Jvm.MethodName)) : Jvm.Cond) ∈ abTb := abTb_mem 462 (by decide +kernel) rfl
theorem tb_415 : ((Jvm.Cond.code ({ cls := "ShadowCourt$Plume", name := "<init>", desc := "()V" } : Jvm.MethodName) prog_9_method_1_code (1 : Nat) (Option.none : Option Jvm.ClassFile.FieldType)) : Jvm.Cond) ∈ abTb := abTb_mem 463 (by decide +kernel) rfl
theorem tb_416 : ((Jvm.Cond.methodLink "ShadowCourt$Plume" (5 : Nat) ({ cls := "ShadowCourt$Hat", name := "<init>", desc := "(II)V" } : Jvm.MethodName)) : Jvm.Cond) ∈ abTb := abTb_mem 464 (by decide +kernel) rfl
theorem tb_420 : ((Jvm.Cond.classLink "ShadowCourt$Page" (43 : Nat) "ShadowCourt$Kind") : Jvm.Cond) ∈ abTb := abTb_mem 468 (by decide +kernel) rfl
theorem tb_421 : ((Jvm.Cond.instantiable "ShadowCourt$Kind" (2 : Nat)) : Jvm.Cond) ∈ abTb := abTb_mem 469 (by decide +kernel) rfl
theorem tb_422 : ((Jvm.Cond.methodLink "ShadowCourt$Page" (45 : Nat) ({ cls := "ShadowCourt$Kind", name := "<init>", desc := "(II)V" } : Jvm.MethodName)) : Jvm.Cond) ∈ abTb := abTb_mem 470 (by decide +kernel) rfl
theorem tb_426 : ((Jvm.Cond.methodLink "ShadowCourt$Court" (68 : Nat) ({ cls := "ShadowCourt$Page", name := "digitOf", desc := "(II)I" } : Jvm.MethodName)) : Jvm.Cond) ∈ abTb := abTb_mem 474 (by decide +kernel) rfl
theorem tb_427 : ((Jvm.Cond.instanceMethod ({ cls := "ShadowCourt$Page", name := "digitOf", desc := "(II)I" } : Jvm.MethodName)) : Jvm.Cond) ∈ abTb := abTb_mem 475 (by decide +kernel) rfl
theorem tb_428 : ((Jvm.Cond.selects "ShadowCourt$Page" ({ cls := "ShadowCourt$Page", name := "digitOf", desc := "(II)I" } : Jvm.MethodName) ({ cls := "ShadowCourt$Page", name := "digitOf", desc := "(II)I" } : Jvm.MethodName)) : Jvm.Cond) ∈ abTb := abTb_mem 476 (by decide +kernel) rfl
theorem tb_429 : ((Jvm.Cond.code ({ cls := "ShadowCourt$Page", name := "digitOf", desc := "(II)I" } : Jvm.MethodName) prog_8_method_6_code (3 : Nat) (Option.some Jvm.ClassFile.FieldType.int)) : Jvm.Cond) ∈ abTb := abTb_mem 477 (by decide +kernel) rfl
theorem tb_431 : ((Jvm.Cond.instanceMethod ({ cls := "ShadowCourt", name := "party", desc := "(II)I" } : Jvm.MethodName)) : Jvm.Cond) ∈ abTb := abTb_mem 479 (by decide +kernel) rfl
theorem tb_432 : ((Jvm.Cond.selects "ShadowCourt" ({ cls := "ShadowCourt", name := "party", desc := "(II)I" } : Jvm.MethodName) ({ cls := "ShadowCourt", name := "party", desc := "(II)I" } : Jvm.MethodName)) : Jvm.Cond) ∈ abTb := abTb_mem 480 (by decide +kernel) rfl
theorem tb_433 : ((Jvm.Cond.code ({ cls := "ShadowCourt", name := "party", desc := "(II)I" } : Jvm.MethodName) prog_1_method_6_code (3 : Nat) (Option.some Jvm.ClassFile.FieldType.int)) : Jvm.Cond) ∈ abTb := abTb_mem 481 (by decide +kernel) rfl
theorem tb_434 : ((Jvm.Cond.methodLink "ShadowCourt" (88 : Nat) ({ cls := "ShadowCourt$Court", name := "has", desc := "(I)Z" } : Jvm.MethodName)) : Jvm.Cond) ∈ abTb := abTb_mem 482 (by decide +kernel) rfl
theorem tb_435 : ((Jvm.Cond.instanceMethod ({ cls := "ShadowCourt$Court", name := "has", desc := "(I)Z" } : Jvm.MethodName)) : Jvm.Cond) ∈ abTb := abTb_mem 483 (by decide +kernel) rfl
theorem tb_436 : ((Jvm.Cond.selects "ShadowCourt$Court" ({ cls := "ShadowCourt$Court", name := "has", desc := "(I)Z" } : Jvm.MethodName) ({ cls := "ShadowCourt$Court", name := "has", desc := "(I)Z" } : Jvm.MethodName)) : Jvm.Cond) ∈ abTb := abTb_mem 484 (by decide +kernel) rfl
theorem tb_437 : ((Jvm.Cond.code ({ cls := "ShadowCourt$Court", name := "has", desc := "(I)Z" } : Jvm.MethodName) prog_3_method_6_code (2 : Nat) (Option.some Jvm.ClassFile.FieldType.boolean)) : Jvm.Cond) ∈ abTb := abTb_mem 485 (by decide +kernel) rfl
theorem tb_438 : ((Jvm.Cond.methodLink "ShadowCourt" (111 : Nat) ({ cls := "ShadowCourt$Court", name := "shade", desc := "(II)I" } : Jvm.MethodName)) : Jvm.Cond) ∈ abTb := abTb_mem 486 (by decide +kernel) rfl
theorem tb_439 : ((Jvm.Cond.instanceMethod ({ cls := "ShadowCourt$Court", name := "shade", desc := "(II)I" } : Jvm.MethodName)) : Jvm.Cond) ∈ abTb := abTb_mem 487 (by decide +kernel) rfl
theorem tb_440 : ((Jvm.Cond.selects "ShadowCourt$Court" ({ cls := "ShadowCourt$Court", name := "shade", desc := "(II)I" } : Jvm.MethodName) ({ cls := "ShadowCourt$Court", name := "shade", desc := "(II)I" } : Jvm.MethodName)) : Jvm.Cond) ∈ abTb := abTb_mem 488 (by decide +kernel) rfl
theorem tb_441 : ((Jvm.Cond.code ({ cls := "ShadowCourt$Court", name := "shade", desc := "(II)I" } : Jvm.MethodName) prog_3_method_10_code (3 : Nat) (Option.some Jvm.ClassFile.FieldType.int)) : Jvm.Cond) ∈ abTb := abTb_mem 489 (by decide +kernel) rfl
theorem tb_442 : ((Jvm.Cond.methodLink "ShadowCourt$Court" (93 : Nat) ({ cls := "ShadowCourt$Court", name := "has", desc := "(I)Z" } : Jvm.MethodName)) : Jvm.Cond) ∈ abTb := abTb_mem 490 (by decide +kernel) rfl
theorem tb_443 : ((Jvm.Cond.methodLink "ShadowCourt$Court" (104 : Nat) ({ cls := "ShadowCourt$Kind", name := "shade", desc := "(III)I" } : Jvm.MethodName)) : Jvm.Cond) ∈ abTb := abTb_mem 491 (by decide +kernel) rfl
theorem tb_444 : ((Jvm.Cond.instanceMethod ({ cls := "ShadowCourt$Kind", name := "shade", desc := "(III)I" } : Jvm.MethodName)) : Jvm.Cond) ∈ abTb := abTb_mem 492 (by decide +kernel) rfl
theorem tb_445 : ((Jvm.Cond.selects "ShadowCourt$Kind" ({ cls := "ShadowCourt$Kind", name := "shade", desc := "(III)I" } : Jvm.MethodName) ({ cls := "ShadowCourt$Kind", name := "shade", desc := "(III)I" } : Jvm.MethodName)) : Jvm.Cond) ∈ abTb := abTb_mem 493 (by decide +kernel) rfl
theorem tb_446 : ((Jvm.Cond.sameMethod "ShadowCourt$Kind" "ShadowCourt$Kind" "shade" "(III)I") : Jvm.Cond) ∈ abTb := abTb_mem 494 (by decide +kernel) rfl
theorem tb_447 : ((Jvm.Cond.selects "ShadowCourt$Child" ({ cls := "ShadowCourt$Kind", name := "shade", desc := "(III)I" } : Jvm.MethodName) ({ cls := "ShadowCourt$Child", name := "shade", desc := "(III)I" } : Jvm.MethodName)) : Jvm.Cond) ∈ abTb := abTb_mem 495 (by decide +kernel) rfl
theorem tb_448 : ((Jvm.Cond.instanceMethod ({ cls := "ShadowCourt$Child", name := "shade", desc := "(III)I" } : Jvm.MethodName)) : Jvm.Cond) ∈ abTb := abTb_mem 496 (by decide +kernel) rfl
theorem tb_449 : ((Jvm.Cond.code ({ cls := "ShadowCourt$Child", name := "shade", desc := "(III)I" } : Jvm.MethodName) prog_2_method_2_code (5 : Nat) (Option.some Jvm.ClassFile.FieldType.int)) : Jvm.Cond) ∈ abTb := abTb_mem 497 (by decide +kernel) rfl
theorem tb_450 : ((Jvm.Cond.methodLink "ShadowCourt$Child" (9 : Nat) ({ cls := "ShadowCourt$Child", name := "length", desc := "(II)I" } : Jvm.MethodName)) : Jvm.Cond) ∈ abTb := abTb_mem 498 (by decide +kernel) rfl
theorem tb_451 : ((Jvm.Cond.sameMethod "ShadowCourt$Child" "ShadowCourt$Kind" "length" "(II)I") : Jvm.Cond) ∈ abTb := abTb_mem 499 (by decide +kernel) rfl
theorem tb_453 : ((Jvm.Cond.selects "ShadowCourt$Child" ({ cls := "ShadowCourt$Child", name := "length", desc := "(II)I" } : Jvm.MethodName) ({ cls := "ShadowCourt$Kind", name := "length", desc := "(II)I" } : Jvm.MethodName)) : Jvm.Cond) ∈ abTb := abTb_mem 501 (by decide +kernel) rfl
theorem tb_454 : ((Jvm.Cond.instanceMethod ({ cls := "ShadowCourt$Kind", name := "length", desc := "(II)I" } : Jvm.MethodName)) : Jvm.Cond) ∈ abTb := abTb_mem 502 (by decide +kernel) rfl
theorem tb_455 : ((Jvm.Cond.code ({ cls := "ShadowCourt$Kind", name := "length", desc := "(II)I" } : Jvm.MethodName) prog_7_method_3_code (4 : Nat) (Option.some Jvm.ClassFile.FieldType.int)) : Jvm.Cond) ∈ abTb := abTb_mem 503 (by decide +kernel) rfl
theorem tb_456 : ((Jvm.Cond.methodLink "ShadowCourt$Child" (15 : Nat) ({ cls := "ShadowCourt$Child", name := "west", desc := "(II)I" } : Jvm.MethodName)) : Jvm.Cond) ∈ abTb := abTb_mem 504 (by decide +kernel) rfl
theorem tb_457 : ((Jvm.Cond.sameMethod "ShadowCourt$Child" "ShadowCourt$Kind" "west" "(II)I") : Jvm.Cond) ∈ abTb := abTb_mem 505 (by decide +kernel) rfl
theorem tb_458 : ((Jvm.Cond.static ({ cls := "ShadowCourt$Kind", name := "west", desc := "(II)I" } : Jvm.MethodName)) : Jvm.Cond) ∈ abTb := abTb_mem 506 (by decide +kernel) rfl
theorem tb_459 : ((Jvm.Cond.code ({ cls := "ShadowCourt$Kind", name := "west", desc := "(II)I" } : Jvm.MethodName) prog_7_method_4_code (3 : Nat) (Option.some Jvm.ClassFile.FieldType.int)) : Jvm.Cond) ∈ abTb := abTb_mem 507 (by decide +kernel) rfl
theorem tb_460 : ((Jvm.Cond.methodLink "ShadowCourt$Child" (18 : Nat) ({ cls := "ShadowCourt$Child", name := "east", desc := "(II)I" } : Jvm.MethodName)) : Jvm.Cond) ∈ abTb := abTb_mem 508 (by decide +kernel) rfl
theorem tb_461 : ((Jvm.Cond.sameMethod "ShadowCourt$Child" "ShadowCourt$Kind" "east" "(II)I") : Jvm.Cond) ∈ abTb := abTb_mem 509 (by decide +kernel) rfl
theorem tb_462 : ((Jvm.Cond.static ({ cls := "ShadowCourt$Kind", name := "east", desc := "(II)I" } : Jvm.MethodName)) : Jvm.Cond) ∈ abTb := abTb_mem 510 (by decide +kernel) rfl
theorem tb_463 : ((Jvm.Cond.code ({ cls := "ShadowCourt$Kind", name := "east", desc := "(II)I" } : Jvm.MethodName) prog_7_method_5_code (3 : Nat) (Option.some Jvm.ClassFile.FieldType.int)) : Jvm.Cond) ∈ abTb := abTb_mem 511 (by decide +kernel) rfl
theorem tb_464 : ((Jvm.Cond.selects "ShadowCourt$Hat" ({ cls := "ShadowCourt$Kind", name := "shade", desc := "(III)I" } : Jvm.MethodName) ({ cls := "ShadowCourt$Kind", name := "shade", desc := "(III)I" } : Jvm.MethodName)) : Jvm.Cond) ∈ abTb := abTb_mem 512 (by decide +kernel) rfl
theorem tb_465 : ((Jvm.Cond.selects "ShadowCourt$Plume" ({ cls := "ShadowCourt$Kind", name := "shade", desc := "(III)I" } : Jvm.MethodName) ({ cls := "ShadowCourt$Kind", name := "shade", desc := "(III)I" } : Jvm.MethodName)) : Jvm.Cond) ∈ abTb := abTb_mem 513 (by decide +kernel) rfl
theorem tb_466 : ((Jvm.Cond.selects "ShadowCourt$Thin" ({ cls := "ShadowCourt$Kind", name := "shade", desc := "(III)I" } : Jvm.MethodName) ({ cls := "ShadowCourt$Thin", name := "shade", desc := "(III)I" } : Jvm.MethodName)) : Jvm.Cond) ∈ abTb := abTb_mem 514 (by decide +kernel) rfl
theorem tb_467 : ((Jvm.Cond.instanceMethod ({ cls := "ShadowCourt$Thin", name := "shade", desc := "(III)I" } : Jvm.MethodName)) : Jvm.Cond) ∈ abTb := abTb_mem 515 (by decide +kernel) rfl
theorem tb_468 : ((Jvm.Cond.code ({ cls := "ShadowCourt$Thin", name := "shade", desc := "(III)I" } : Jvm.MethodName) prog_12_method_2_code (6 : Nat) (Option.some Jvm.ClassFile.FieldType.int)) : Jvm.Cond) ∈ abTb := abTb_mem 516 (by decide +kernel) rfl
theorem tb_469 : ((Jvm.Cond.methodLink "ShadowCourt$Thin" (9 : Nat) ({ cls := "ShadowCourt$Thin", name := "length", desc := "(II)I" } : Jvm.MethodName)) : Jvm.Cond) ∈ abTb := abTb_mem 517 (by decide +kernel) rfl
theorem tb_470 : ((Jvm.Cond.sameMethod "ShadowCourt$Thin" "ShadowCourt$Kind" "length" "(II)I") : Jvm.Cond) ∈ abTb := abTb_mem 518 (by decide +kernel) rfl
theorem tb_471 : ((Jvm.Cond.selects "ShadowCourt$Thin" ({ cls := "ShadowCourt$Thin", name := "length", desc := "(II)I" } : Jvm.MethodName) ({ cls := "ShadowCourt$Kind", name := "length", desc := "(II)I" } : Jvm.MethodName)) : Jvm.Cond) ∈ abTb := abTb_mem 519 (by decide +kernel) rfl
theorem tb_473 : ((Jvm.Cond.static ({ cls := "ShadowCourt", name := "isTile", desc := "(I)Z" } : Jvm.MethodName)) : Jvm.Cond) ∈ abTb := abTb_mem 521 (by decide +kernel) rfl
theorem tb_474 : ((Jvm.Cond.code ({ cls := "ShadowCourt", name := "isTile", desc := "(I)Z" } : Jvm.MethodName) prog_1_method_30_code (1 : Nat) (Option.some Jvm.ClassFile.FieldType.boolean)) : Jvm.Cond) ∈ abTb := abTb_mem 522 (by decide +kernel) rfl
theorem tb_475 : ((Jvm.Cond.code ({ cls := "ShadowCourt$Kind", name := "shade", desc := "(III)I" } : Jvm.MethodName) prog_7_method_2_code (5 : Nat) (Option.some Jvm.ClassFile.FieldType.int)) : Jvm.Cond) ∈ abTb := abTb_mem 523 (by decide +kernel) rfl
theorem tb_476 : ((Jvm.Cond.methodLink "ShadowCourt$Kind" (18 : Nat) ({ cls := "ShadowCourt$Kind", name := "length", desc := "(II)I" } : Jvm.MethodName)) : Jvm.Cond) ∈ abTb := abTb_mem 524 (by decide +kernel) rfl
theorem tb_477 : ((Jvm.Cond.methodLink "ShadowCourt$Kind" (22 : Nat) ({ cls := "ShadowCourt$Kind", name := "west", desc := "(II)I" } : Jvm.MethodName)) : Jvm.Cond) ∈ abTb := abTb_mem 525 (by decide +kernel) rfl
theorem tb_478 : ((Jvm.Cond.methodLink "ShadowCourt$Kind" (25 : Nat) ({ cls := "ShadowCourt$Kind", name := "east", desc := "(II)I" } : Jvm.MethodName)) : Jvm.Cond) ∈ abTb := abTb_mem 526 (by decide +kernel) rfl
theorem tb_479 : ((Jvm.Cond.methodLink "ShadowCourt" (115 : Nat) ({ cls := "ShadowCourt$Court", name := "worthOf", desc := "(I)I" } : Jvm.MethodName)) : Jvm.Cond) ∈ abTb := abTb_mem 527 (by decide +kernel) rfl
theorem tb_480 : ((Jvm.Cond.instanceMethod ({ cls := "ShadowCourt$Court", name := "worthOf", desc := "(I)I" } : Jvm.MethodName)) : Jvm.Cond) ∈ abTb := abTb_mem 528 (by decide +kernel) rfl
theorem tb_481 : ((Jvm.Cond.selects "ShadowCourt$Court" ({ cls := "ShadowCourt$Court", name := "worthOf", desc := "(I)I" } : Jvm.MethodName) ({ cls := "ShadowCourt$Court", name := "worthOf", desc := "(I)I" } : Jvm.MethodName)) : Jvm.Cond) ∈ abTb := abTb_mem 529 (by decide +kernel) rfl
theorem tb_482 : ((Jvm.Cond.code ({ cls := "ShadowCourt$Court", name := "worthOf", desc := "(I)I" } : Jvm.MethodName) prog_3_method_12_code (4 : Nat) (Option.some Jvm.ClassFile.FieldType.int)) : Jvm.Cond) ∈ abTb := abTb_mem 530 (by decide +kernel) rfl
theorem tb_483 : ((Jvm.Cond.methodLink "ShadowCourt" (119 : Nat) ({ cls := "ShadowCourt$Sight", name := "heights", desc := "(LShadowCourt$Court;I)I" } : Jvm.MethodName)) : Jvm.Cond) ∈ abTb := abTb_mem 531 (by decide +kernel) rfl
theorem tb_484 : ((Jvm.Cond.instanceMethod ({ cls := "ShadowCourt$Sight", name := "heights", desc := "(LShadowCourt$Court;I)I" } : Jvm.MethodName)) : Jvm.Cond) ∈ abTb := abTb_mem 532 (by decide +kernel) rfl
theorem tb_485 : ((Jvm.Cond.selects "ShadowCourt$Sight" ({ cls := "ShadowCourt$Sight", name := "heights", desc := "(LShadowCourt$Court;I)I" } : Jvm.MethodName) ({ cls := "ShadowCourt$Sight", name := "heights", desc := "(LShadowCourt$Court;I)I" } : Jvm.MethodName)) : Jvm.Cond) ∈ abTb := abTb_mem 533 (by decide +kernel) rfl
theorem tb_486 : ((Jvm.Cond.code ({ cls := "ShadowCourt$Sight", name := "heights", desc := "(LShadowCourt$Court;I)I" } : Jvm.MethodName) prog_10_method_2_code (5 : Nat) (Option.some Jvm.ClassFile.FieldType.int)) : Jvm.Cond) ∈ abTb := abTb_mem 534 (by decide +kernel) rfl
theorem tb_487 : ((Jvm.Cond.methodLink "ShadowCourt$Sight" (15 : Nat) ({ cls := "ShadowCourt$Sight", name := "isAsSeen", desc := "(LShadowCourt$Court;II)Z" } : Jvm.MethodName)) : Jvm.Cond) ∈ abTb := abTb_mem 535 (by decide +kernel) rfl
theorem tb_489 : ((Jvm.Cond.instanceMethod ({ cls := "ShadowCourt$Sight", name := "isAsSeen", desc := "(LShadowCourt$Court;II)Z" } : Jvm.MethodName)) : Jvm.Cond) ∈ abTb := abTb_mem 537 (by decide +kernel) rfl
theorem tb_490 : ((Jvm.Cond.code ({ cls := "ShadowCourt$Sight", name := "isAsSeen", desc := "(LShadowCourt$Court;II)Z" } : Jvm.MethodName) prog_10_method_3_code (6 : Nat) (Option.some Jvm.ClassFile.FieldType.boolean)) : Jvm.Cond) ∈ abTb := abTb_mem 538 (by decide +kernel) rfl
theorem tb_491 : ((Jvm.Cond.methodLink "ShadowCourt$Sight" (34 : Nat) ({ cls := "ShadowCourt$Court", name := "shadeIf", desc := "(IIII)I" } : Jvm.MethodName)) : Jvm.Cond) ∈ abTb := abTb_mem 539 (by decide +kernel) rfl
theorem tb_492 : ((Jvm.Cond.instanceMethod ({ cls := "ShadowCourt$Court", name := "shadeIf", desc := "(IIII)I" } : Jvm.MethodName)) : Jvm.Cond) ∈ abTb := abTb_mem 540 (by decide +kernel) rfl
theorem tb_493 : ((Jvm.Cond.selects "ShadowCourt$Court" ({ cls := "ShadowCourt$Court", name := "shadeIf", desc := "(IIII)I" } : Jvm.MethodName) ({ cls := "ShadowCourt$Court", name := "shadeIf", desc := "(IIII)I" } : Jvm.MethodName)) : Jvm.Cond) ∈ abTb := abTb_mem 541 (by decide +kernel) rfl
theorem tb_494 : ((Jvm.Cond.code ({ cls := "ShadowCourt$Court", name := "shadeIf", desc := "(IIII)I" } : Jvm.MethodName) prog_3_method_11_code (5 : Nat) (Option.some Jvm.ClassFile.FieldType.int)) : Jvm.Cond) ∈ abTb := abTb_mem 542 (by decide +kernel) rfl
theorem tb_495 : ((Jvm.Cond.methodLink "ShadowCourt" (123 : Nat) ({ cls := "ShadowCourt$Sight", name := "look", desc := "(LShadowCourt$Court;I)I" } : Jvm.MethodName)) : Jvm.Cond) ∈ abTb := abTb_mem 543 (by decide +kernel) rfl
theorem tb_496 : ((Jvm.Cond.instanceMethod ({ cls := "ShadowCourt$Sight", name := "look", desc := "(LShadowCourt$Court;I)I" } : Jvm.MethodName)) : Jvm.Cond) ∈ abTb := abTb_mem 544 (by decide +kernel) rfl
theorem tb_497 : ((Jvm.Cond.selects "ShadowCourt$Sight" ({ cls := "ShadowCourt$Sight", name := "look", desc := "(LShadowCourt$Court;I)I" } : Jvm.MethodName) ({ cls := "ShadowCourt$Sight", name := "look", desc := "(LShadowCourt$Court;I)I" } : Jvm.MethodName)) : Jvm.Cond) ∈ abTb := abTb_mem 545 (by decide +kernel) rfl
theorem tb_498 : ((Jvm.Cond.code ({ cls := "ShadowCourt$Sight", name := "look", desc := "(LShadowCourt$Court;I)I" } : Jvm.MethodName) prog_10_method_4_code (9 : Nat) (Option.some Jvm.ClassFile.FieldType.int)) : Jvm.Cond) ∈ abTb := abTb_mem 546 (by decide +kernel) rfl
theorem tb_499 : ((Jvm.Cond.methodLink "ShadowCourt$Sight" (44 : Nat) ({ cls := "ShadowCourt$Sight", name := "heights", desc := "(LShadowCourt$Court;I)I" } : Jvm.MethodName)) : Jvm.Cond) ∈ abTb := abTb_mem 547 (by decide +kernel) rfl
theorem tb_500 : ((Jvm.Cond.methodLink "ShadowCourt$Sight" (48 : Nat) ({ cls := "ShadowCourt$Sight", name := "leftAtWorst", desc := "(II)I" } : Jvm.MethodName)) : Jvm.Cond) ∈ abTb := abTb_mem 548 (by decide +kernel) rfl
theorem tb_502 : ((Jvm.Cond.instanceMethod ({ cls := "ShadowCourt$Sight", name := "leftAtWorst", desc := "(II)I" } : Jvm.MethodName)) : Jvm.Cond) ∈ abTb := abTb_mem 550 (by decide +kernel) rfl
theorem tb_503 : ((Jvm.Cond.code ({ cls := "ShadowCourt$Sight", name := "leftAtWorst", desc := "(II)I" } : Jvm.MethodName) prog_10_method_5_code (5 : Nat) (Option.some Jvm.ClassFile.FieldType.int)) : Jvm.Cond) ∈ abTb := abTb_mem 551 (by decide +kernel) rfl
theorem tb_504 : ((Jvm.Cond.methodLink "ShadowCourt$Sight" (52 : Nat) ({ cls := "java/lang/Integer", name := "bitCount", desc := "(I)I" } : Jvm.MethodName)) : Jvm.Cond) ∈ abTb := abTb_mem 552 (by decide +kernel) rfl
theorem tb_505 : ((Jvm.Cond.static ({ cls := "java/lang/Integer", name := "bitCount", desc := "(I)I" } : Jvm.MethodName)) : Jvm.Cond) ∈ abTb := abTb_mem 553 (by decide +kernel) rfl
theorem tb_506 : ((Jvm.Cond.code ({ cls := "java/lang/Integer", name := "bitCount", desc := "(I)I" } : Jvm.MethodName) prog_16_method_49_code (1 : Nat) (Option.some Jvm.ClassFile.FieldType.int)) : Jvm.Cond) ∈ abTb := abTb_mem 554 (by decide +kernel) rfl
theorem tb_507 : ((Jvm.Cond.constant "java/lang/Integer" (265 : Nat) (1431655765 : Int32)) : Jvm.Cond) ∈ abTb := abTb_mem 555 (by decide +kernel) rfl
theorem tb_508 : ((Jvm.Cond.constant "java/lang/Integer" (266 : Nat) (858993459 : Int32)) : Jvm.Cond) ∈ abTb := abTb_mem 556 (by decide +kernel) rfl
theorem tb_509 : ((Jvm.Cond.constant "java/lang/Integer" (267 : Nat) (252645135 : Int32)) : Jvm.Cond) ∈ abTb := abTb_mem 557 (by decide +kernel) rfl
theorem tb_510 : ((Jvm.Cond.methodLink "ShadowCourt$Sight" (58 : Nat) ({ cls := "java/lang/Math", name := "max", desc := "(II)I" } : Jvm.MethodName)) : Jvm.Cond) ∈ abTb := abTb_mem 558 (by decide +kernel) rfl
theorem tb_515 : ((Jvm.Cond.classLink "ShadowCourt" (126 : Nat) "ShadowCourt$Hat") : Jvm.Cond) ∈ abTb := abTb_mem 563 (by decide +kernel) rfl
theorem tb_516 : ((Jvm.Cond.classLink "ShadowCourt" (128 : Nat) "ShadowCourt$Thin") : Jvm.Cond) ∈ abTb := abTb_mem 564 (by decide +kernel) rfl
theorem tb_517 : ((Jvm.Cond.classLink "ShadowCourt" (130 : Nat) "ShadowCourt$Child") : Jvm.Cond) ∈ abTb := abTb_mem 565 (by decide +kernel) rfl
theorem tb_518 : ((Jvm.Cond.classLink "ShadowCourt" (132 : Nat) "ShadowCourt$Plume") : Jvm.Cond) ∈ abTb := abTb_mem 566 (by decide +kernel) rfl
theorem tb_520 : ((Jvm.Cond.instanceMethod ({ cls := "ShadowCourt", name := "covers", desc := "(II)I" } : Jvm.MethodName)) : Jvm.Cond) ∈ abTb := abTb_mem 568 (by decide +kernel) rfl
theorem tb_521 : ((Jvm.Cond.selects "ShadowCourt" ({ cls := "ShadowCourt", name := "covers", desc := "(II)I" } : Jvm.MethodName) ({ cls := "ShadowCourt", name := "covers", desc := "(II)I" } : Jvm.MethodName)) : Jvm.Cond) ∈ abTb := abTb_mem 569 (by decide +kernel) rfl
theorem tb_522 : ((Jvm.Cond.code ({ cls := "ShadowCourt", name := "covers", desc := "(II)I" } : Jvm.MethodName) prog_1_method_8_code (3 : Nat) (Option.some Jvm.ClassFile.FieldType.int)) : Jvm.Cond) ∈ abTb := abTb_mem 570 (by decide +kernel) rfl
theorem tb_523 : ((Jvm.Cond.methodLink "ShadowCourt" (134 : Nat) ({ cls := "ShadowCourt", name := "isHour", desc := "(I)Z" } : Jvm.MethodName)) : Jvm.Cond) ∈ abTb := abTb_mem 571 (by decide +kernel) rfl
theorem tb_524 : ((Jvm.Cond.static ({ cls := "ShadowCourt", name := "isHour", desc := "(I)Z" } : Jvm.MethodName)) : Jvm.Cond) ∈ abTb := abTb_mem 572 (by decide +kernel) rfl
theorem tb_525 : ((Jvm.Cond.code ({ cls := "ShadowCourt", name := "isHour", desc := "(I)Z" } : Jvm.MethodName) prog_1_method_31_code (1 : Nat) (Option.some Jvm.ClassFile.FieldType.boolean)) : Jvm.Cond) ∈ abTb := abTb_mem 573 (by decide +kernel) rfl
theorem tb_527 : ((Jvm.Cond.instanceMethod ({ cls := "ShadowCourt", name := "tile", desc := "(II)I" } : Jvm.MethodName)) : Jvm.Cond) ∈ abTb := abTb_mem 575 (by decide +kernel) rfl
theorem tb_528 : ((Jvm.Cond.selects "ShadowCourt" ({ cls := "ShadowCourt", name := "tile", desc := "(II)I" } : Jvm.MethodName) ({ cls := "ShadowCourt", name := "tile", desc := "(II)I" } : Jvm.MethodName)) : Jvm.Cond) ∈ abTb := abTb_mem 576 (by decide +kernel) rfl
theorem tb_529 : ((Jvm.Cond.code ({ cls := "ShadowCourt", name := "tile", desc := "(II)I" } : Jvm.MethodName) prog_1_method_9_code (3 : Nat) (Option.some Jvm.ClassFile.FieldType.int)) : Jvm.Cond) ∈ abTb := abTb_mem 577 (by decide +kernel) rfl
theorem tb_530 : ((Jvm.Cond.methodLink "ShadowCourt" (137 : Nat) ({ cls := "ShadowCourt$Court", name := "hasTile", desc := "(I)Z" } : Jvm.MethodName)) : Jvm.Cond) ∈ abTb := abTb_mem 578 (by decide +kernel) rfl
theorem tb_531 : ((Jvm.Cond.instanceMethod ({ cls := "ShadowCourt$Court", name := "hasTile", desc := "(I)Z" } : Jvm.MethodName)) : Jvm.Cond) ∈ abTb := abTb_mem 579 (by decide +kernel) rfl
theorem tb_532 : ((Jvm.Cond.selects "ShadowCourt$Court" ({ cls := "ShadowCourt$Court", name := "hasTile", desc := "(I)Z" } : Jvm.MethodName) ({ cls := "ShadowCourt$Court", name := "hasTile", desc := "(I)Z" } : Jvm.MethodName)) : Jvm.Cond) ∈ abTb := abTb_mem 580 (by decide +kernel) rfl
theorem tb_533 : ((Jvm.Cond.code ({ cls := "ShadowCourt$Court", name := "hasTile", desc := "(I)Z" } : Jvm.MethodName) prog_3_method_8_code (2 : Nat) (Option.some Jvm.ClassFile.FieldType.boolean)) : Jvm.Cond) ∈ abTb := abTb_mem 581 (by decide +kernel) rfl
theorem tb_534 : ((Jvm.Cond.methodLink "ShadowCourt$Court" (97 : Nat) ({ cls := "ShadowCourt$Court", name := "isNone", desc := "()Z" } : Jvm.MethodName)) : Jvm.Cond) ∈ abTb := abTb_mem 582 (by decide +kernel) rfl
theorem tb_535 : ((Jvm.Cond.instanceMethod ({ cls := "ShadowCourt$Court", name := "isNone", desc := "()Z" } : Jvm.MethodName)) : Jvm.Cond) ∈ abTb := abTb_mem 583 (by decide +kernel) rfl
theorem tb_536 : ((Jvm.Cond.selects "ShadowCourt$Court" ({ cls := "ShadowCourt$Court", name := "isNone", desc := "()Z" } : Jvm.MethodName) ({ cls := "ShadowCourt$Court", name := "isNone", desc := "()Z" } : Jvm.MethodName)) : Jvm.Cond) ∈ abTb := abTb_mem 584 (by decide +kernel) rfl
theorem tb_537 : ((Jvm.Cond.code ({ cls := "ShadowCourt$Court", name := "isNone", desc := "()Z" } : Jvm.MethodName) prog_3_method_5_code (1 : Nat) (Option.some Jvm.ClassFile.FieldType.boolean)) : Jvm.Cond) ∈ abTb := abTb_mem 585 (by decide +kernel) rfl
theorem tb_539 : ((Jvm.Cond.methodLink "ShadowCourt" (143 : Nat) ({ cls := "ShadowCourt$Court", name := "standingOn", desc := "(I)I" } : Jvm.MethodName)) : Jvm.Cond) ∈ abTb := abTb_mem 587 (by decide +kernel) rfl
theorem tb_540 : ((Jvm.Cond.instanceMethod ({ cls := "ShadowCourt$Court", name := "standingOn", desc := "(I)I" } : Jvm.MethodName)) : Jvm.Cond) ∈ abTb := abTb_mem 588 (by decide +kernel) rfl
theorem tb_541 : ((Jvm.Cond.selects "ShadowCourt$Court" ({ cls := "ShadowCourt$Court", name := "standingOn", desc := "(I)I" } : Jvm.MethodName) ({ cls := "ShadowCourt$Court", name := "standingOn", desc := "(I)I" } : Jvm.MethodName)) : Jvm.Cond) ∈ abTb := abTb_mem 589 (by decide +kernel) rfl
theorem tb_542 : ((Jvm.Cond.code ({ cls := "ShadowCourt$Court", name := "standingOn", desc := "(I)I" } : Jvm.MethodName) prog_3_method_14_code (4 : Nat) (Option.some Jvm.ClassFile.FieldType.int)) : Jvm.Cond) ∈ abTb := abTb_mem 590 (by decide +kernel) rfl
theorem tb_543 : ((Jvm.Cond.methodLink "ShadowCourt" (146 : Nat) ({ cls := "ShadowCourt$Court", name := "covering", desc := "(I)I" } : Jvm.MethodName)) : Jvm.Cond) ∈ abTb := abTb_mem 591 (by decide +kernel) rfl
theorem tb_544 : ((Jvm.Cond.instanceMethod ({ cls := "ShadowCourt$Court", name := "covering", desc := "(I)I" } : Jvm.MethodName)) : Jvm.Cond) ∈ abTb := abTb_mem 592 (by decide +kernel) rfl
theorem tb_545 : ((Jvm.Cond.selects "ShadowCourt$Court" ({ cls := "ShadowCourt$Court", name := "covering", desc := "(I)I" } : Jvm.MethodName) ({ cls := "ShadowCourt$Court", name := "covering", desc := "(I)I" } : Jvm.MethodName)) : Jvm.Cond) ∈ abTb := abTb_mem 593 (by decide +kernel) rfl
theorem tb_546 : ((Jvm.Cond.code ({ cls := "ShadowCourt$Court", name := "covering", desc := "(I)I" } : Jvm.MethodName) prog_3_method_15_code (4 : Nat) (Option.some Jvm.ClassFile.FieldType.int)) : Jvm.Cond) ∈ abTb := abTb_mem 594 (by decide +kernel) rfl
theorem tb_547 : ((Jvm.Cond.methodLink "ShadowCourt$Court" (108 : Nat) ({ cls := "ShadowCourt$Court", name := "shade", desc := "(II)I" } : Jvm.MethodName)) : Jvm.Cond) ∈ abTb := abTb_mem 595 (by decide +kernel) rfl
theorem tb_549 : ((Jvm.Cond.instanceMethod ({ cls := "ShadowCourt", name := "found", desc := "(III)I" } : Jvm.MethodName)) : Jvm.Cond) ∈ abTb := abTb_mem 597 (by decide +kernel) rfl
theorem tb_550 : ((Jvm.Cond.selects "ShadowCourt" ({ cls := "ShadowCourt", name := "found", desc := "(III)I" } : Jvm.MethodName) ({ cls := "ShadowCourt", name := "found", desc := "(III)I" } : Jvm.MethodName)) : Jvm.Cond) ∈ abTb := abTb_mem 598 (by decide +kernel) rfl
theorem tb_551 : ((Jvm.Cond.code ({ cls := "ShadowCourt", name := "found", desc := "(III)I" } : Jvm.MethodName) prog_1_method_10_code (4 : Nat) (Option.some Jvm.ClassFile.FieldType.int)) : Jvm.Cond) ∈ abTb := abTb_mem 599 (by decide +kernel) rfl
theorem tb_552 : ((Jvm.Cond.methodLink "ShadowCourt" (149 : Nat) ({ cls := "ShadowCourt$Court", name := "hasTwo", desc := "(II)Z" } : Jvm.MethodName)) : Jvm.Cond) ∈ abTb := abTb_mem 600 (by decide +kernel) rfl
theorem tb_553 : ((Jvm.Cond.instanceMethod ({ cls := "ShadowCourt$Court", name := "hasTwo", desc := "(II)Z" } : Jvm.MethodName)) : Jvm.Cond) ∈ abTb := abTb_mem 601 (by decide +kernel) rfl
theorem tb_554 : ((Jvm.Cond.selects "ShadowCourt$Court" ({ cls := "ShadowCourt$Court", name := "hasTwo", desc := "(II)Z" } : Jvm.MethodName) ({ cls := "ShadowCourt$Court", name := "hasTwo", desc := "(II)Z" } : Jvm.MethodName)) : Jvm.Cond) ∈ abTb := abTb_mem 602 (by decide +kernel) rfl
theorem tb_555 : ((Jvm.Cond.code ({ cls := "ShadowCourt$Court", name := "hasTwo", desc := "(II)Z" } : Jvm.MethodName) prog_3_method_7_code (3 : Nat) (Option.some Jvm.ClassFile.FieldType.boolean)) : Jvm.Cond) ∈ abTb := abTb_mem 603 (by decide +kernel) rfl
theorem tb_556 : ((Jvm.Cond.methodLink "ShadowCourt" (153 : Nat) ({ cls := "ShadowCourt$Court", name := "balance", desc := "(III)I" } : Jvm.MethodName)) : Jvm.Cond) ∈ abTb := abTb_mem 604 (by decide +kernel) rfl
theorem tb_557 : ((Jvm.Cond.instanceMethod ({ cls := "ShadowCourt$Court", name := "balance", desc := "(III)I" } : Jvm.MethodName)) : Jvm.Cond) ∈ abTb := abTb_mem 605 (by decide +kernel) rfl
theorem tb_558 : ((Jvm.Cond.selects "ShadowCourt$Court" ({ cls := "ShadowCourt$Court", name := "balance", desc := "(III)I" } : Jvm.MethodName) ({ cls := "ShadowCourt$Court", name := "balance", desc := "(III)I" } : Jvm.MethodName)) : Jvm.Cond) ∈ abTb := abTb_mem 606 (by decide +kernel) rfl
theorem tb_559 : ((Jvm.Cond.code ({ cls := "ShadowCourt$Court", name := "balance", desc := "(III)I" } : Jvm.MethodName) prog_3_method_13_code (4 : Nat) (Option.some Jvm.ClassFile.FieldType.int)) : Jvm.Cond) ∈ abTb := abTb_mem 607 (by decide +kernel) rfl
theorem tb_560 : ((Jvm.Cond.methodLink "ShadowCourt$Court" (110 : Nat) ({ cls := "ShadowCourt$Court", name := "worthOf", desc := "(I)I" } : Jvm.MethodName)) : Jvm.Cond) ∈ abTb := abTb_mem 608 (by decide +kernel) rfl
theorem tb_565 : ((Jvm.Cond.methodLink "ShadowCourt" (157 : Nat) ({ cls := "ShadowCourt$Court", name := "isNone", desc := "()Z" } : Jvm.MethodName)) : Jvm.Cond) ∈ abTb := abTb_mem 613 (by decide +kernel) rfl
theorem tb_570 : ((Jvm.Cond.methodLink "ShadowCourt" (163 : Nat) ({ cls := "ShadowCourt", name := "isTile", desc := "(I)Z" } : Jvm.MethodName)) : Jvm.Cond) ∈ abTb := abTb_mem 618 (by decide +kernel) rfl
theorem tb_592 : ((Jvm.Cond.instanceMethod ({ cls := "ShadowCourt", name := "game", desc := "(IIII)I" } : Jvm.MethodName)) : Jvm.Cond) ∈ abTb := abTb_mem 640 (by decide +kernel) rfl
theorem tb_593 : ((Jvm.Cond.selects "ShadowCourt" ({ cls := "ShadowCourt", name := "game", desc := "(IIII)I" } : Jvm.MethodName) ({ cls := "ShadowCourt", name := "game", desc := "(IIII)I" } : Jvm.MethodName)) : Jvm.Cond) ∈ abTb := abTb_mem 641 (by decide +kernel) rfl
theorem tb_594 : ((Jvm.Cond.code ({ cls := "ShadowCourt", name := "game", desc := "(IIII)I" } : Jvm.MethodName) prog_1_method_18_code (5 : Nat) (Option.some Jvm.ClassFile.FieldType.int)) : Jvm.Cond) ∈ abTb := abTb_mem 642 (by decide +kernel) rfl
theorem tb_595 : ((Jvm.Cond.methodLink "ShadowCourt" (175 : Nat) ({ cls := "ShadowCourt$Game", name := "solve", desc := "(LShadowCourt$Court;III)V" } : Jvm.MethodName)) : Jvm.Cond) ∈ abTb := abTb_mem 643 (by decide +kernel) rfl
theorem tb_596 : ((Jvm.Cond.instanceMethod ({ cls := "ShadowCourt$Game", name := "solve", desc := "(LShadowCourt$Court;III)V" } : Jvm.MethodName)) : Jvm.Cond) ∈ abTb := abTb_mem 644 (by decide +kernel) rfl
theorem tb_597 : ((Jvm.Cond.selects "ShadowCourt$Game" ({ cls := "ShadowCourt$Game", name := "solve", desc := "(LShadowCourt$Court;III)V" } : Jvm.MethodName) ({ cls := "ShadowCourt$Game", name := "solve", desc := "(LShadowCourt$Court;III)V" } : Jvm.MethodName)) : Jvm.Cond) ∈ abTb := abTb_mem 645 (by decide +kernel) rfl
theorem tb_598 : ((Jvm.Cond.code ({ cls := "ShadowCourt$Game", name := "solve", desc := "(LShadowCourt$Court;III)V" } : Jvm.MethodName) prog_5_method_2_code (6 : Nat) (Option.none : Option Jvm.ClassFile.FieldType)) : Jvm.Cond) ∈ abTb := abTb_mem 646 (by decide +kernel) rfl
theorem tb_599 : ((Jvm.Cond.methodLink "ShadowCourt$Game" (30 : Nat) ({ cls := "ShadowCourt$Game", name := "weigh", desc := "(LShadowCourt$Court;III)V" } : Jvm.MethodName)) : Jvm.Cond) ∈ abTb := abTb_mem 647 (by decide +kernel) rfl
theorem tb_601 : ((Jvm.Cond.instanceMethod ({ cls := "ShadowCourt$Game", name := "weigh", desc := "(LShadowCourt$Court;III)V" } : Jvm.MethodName)) : Jvm.Cond) ∈ abTb := abTb_mem 649 (by decide +kernel) rfl
theorem tb_602 : ((Jvm.Cond.code ({ cls := "ShadowCourt$Game", name := "weigh", desc := "(LShadowCourt$Court;III)V" } : Jvm.MethodName) prog_5_method_3_code (6 : Nat) (Option.none : Option Jvm.ClassFile.FieldType)) : Jvm.Cond) ∈ abTb := abTb_mem 650 (by decide +kernel) rfl
theorem tb_603 : ((Jvm.Cond.methodLink "ShadowCourt$Game" (56 : Nat) ({ cls := "ShadowCourt$Court", name := "shadeIf", desc := "(IIII)I" } : Jvm.MethodName)) : Jvm.Cond) ∈ abTb := abTb_mem 651 (by decide +kernel) rfl
theorem tb_604 : ((Jvm.Cond.methodLink "ShadowCourt$Game" (60 : Nat) ({ cls := "ShadowCourt$Court", name := "worthOf", desc := "(I)I" } : Jvm.MethodName)) : Jvm.Cond) ∈ abTb := abTb_mem 652 (by decide +kernel) rfl
theorem tb_605 : ((Jvm.Cond.methodLink "ShadowCourt$Game" (34 : Nat) ({ cls := "ShadowCourt$Game", name := "goBackAnHour", desc := "()V" } : Jvm.MethodName)) : Jvm.Cond) ∈ abTb := abTb_mem 653 (by decide +kernel) rfl
theorem tb_607 : ((Jvm.Cond.instanceMethod ({ cls := "ShadowCourt$Game", name := "goBackAnHour", desc := "()V" } : Jvm.MethodName)) : Jvm.Cond) ∈ abTb := abTb_mem 655 (by decide +kernel) rfl
theorem tb_608 : ((Jvm.Cond.code ({ cls := "ShadowCourt$Game", name := "goBackAnHour", desc := "()V" } : Jvm.MethodName) prog_5_method_4_code (4 : Nat) (Option.none : Option Jvm.ClassFile.FieldType)) : Jvm.Cond) ∈ abTb := abTb_mem 656 (by decide +kernel) rfl
theorem tb_609 : ((Jvm.Cond.methodLink "ShadowCourt$Game" (40 : Nat) ({ cls := "ShadowCourt$Game", name := "bestStep", desc := "(II)I" } : Jvm.MethodName)) : Jvm.Cond) ∈ abTb := abTb_mem 657 (by decide +kernel) rfl
theorem tb_611 : ((Jvm.Cond.instanceMethod ({ cls := "ShadowCourt$Game", name := "bestStep", desc := "(II)I" } : Jvm.MethodName)) : Jvm.Cond) ∈ abTb := abTb_mem 659 (by decide +kernel) rfl
theorem tb_612 : ((Jvm.Cond.code ({ cls := "ShadowCourt$Game", name := "bestStep", desc := "(II)I" } : Jvm.MethodName) prog_5_method_5_code (8 : Nat) (Option.some Jvm.ClassFile.FieldType.int)) : Jvm.Cond) ∈ abTb := abTb_mem 660 (by decide +kernel) rfl
theorem tb_613 : ((Jvm.Cond.methodLink "ShadowCourt$Game" (70 : Nat) ({ cls := "ShadowCourt$Game", name := "mayStand", desc := "(III)Z" } : Jvm.MethodName)) : Jvm.Cond) ∈ abTb := abTb_mem 661 (by decide +kernel) rfl
theorem tb_614 : ((Jvm.Cond.static ({ cls := "ShadowCourt$Game", name := "mayStand", desc := "(III)Z" } : Jvm.MethodName)) : Jvm.Cond) ∈ abTb := abTb_mem 662 (by decide +kernel) rfl
theorem tb_615 : ((Jvm.Cond.code ({ cls := "ShadowCourt$Game", name := "mayStand", desc := "(III)Z" } : Jvm.MethodName) prog_5_method_7_code (3 : Nat) (Option.some Jvm.ClassFile.FieldType.boolean)) : Jvm.Cond) ∈ abTb := abTb_mem 663 (by decide +kernel) rfl
theorem tb_617 : ((Jvm.Cond.methodLink "ShadowCourt$Game" (47 : Nat) ({ cls := "ShadowCourt$Game", name := "afterAStood", desc := "(II)I" } : Jvm.MethodName)) : Jvm.Cond) ∈ abTb := abTb_mem 665 (by decide +kernel) rfl
theorem tb_619 : ((Jvm.Cond.instanceMethod ({ cls := "ShadowCourt$Game", name := "afterAStood", desc := "(II)I" } : Jvm.MethodName)) : Jvm.Cond) ∈ abTb := abTb_mem 667 (by decide +kernel) rfl
theorem tb_620 : ((Jvm.Cond.code ({ cls := "ShadowCourt$Game", name := "afterAStood", desc := "(II)I" } : Jvm.MethodName) prog_5_method_6_code (5 : Nat) (Option.some Jvm.ClassFile.FieldType.int)) : Jvm.Cond) ∈ abTb := abTb_mem 668 (by decide +kernel) rfl
theorem tb_621 : ((Jvm.Cond.methodLink "ShadowCourt$Game" (74 : Nat) ({ cls := "java/lang/Math", name := "min", desc := "(II)I" } : Jvm.MethodName)) : Jvm.Cond) ∈ abTb := abTb_mem 669 (by decide +kernel) rfl
theorem tb_622 : ((Jvm.Cond.methodLink "ShadowCourt$Game" (64 : Nat) ({ cls := "java/lang/System", name := "arraycopy", desc := "(Ljava/lang/Object;ILjava/lang/Object;II)V" } : Jvm.MethodName)) : Jvm.Cond) ∈ abTb := abTb_mem 670 (by decide +kernel) rfl
theorem tb_623 : ((Jvm.Cond.static ({ cls := "java/lang/System", name := "arraycopy", desc := "(Ljava/lang/Object;ILjava/lang/Object;II)V" } : Jvm.MethodName)) : Jvm.Cond) ∈ abTb := abTb_mem 671 (by decide +kernel) rfl
theorem tb_624 : ((Jvm.Cond.native ({ cls := "java/lang/System", name := "arraycopy", desc := "(Ljava/lang/Object;ILjava/lang/Object;II)V" } : Jvm.MethodName)) : Jvm.Cond) ∈ abTb := abTb_mem 672 (by decide +kernel) rfl
theorem tb_626 : ((Jvm.Cond.instanceMethod ({ cls := "ShadowCourt", name := "docket", desc := "(I)I" } : Jvm.MethodName)) : Jvm.Cond) ∈ abTb := abTb_mem 674 (by decide +kernel) rfl
theorem tb_627 : ((Jvm.Cond.selects "ShadowCourt" ({ cls := "ShadowCourt", name := "docket", desc := "(I)I" } : Jvm.MethodName) ({ cls := "ShadowCourt", name := "docket", desc := "(I)I" } : Jvm.MethodName)) : Jvm.Cond) ∈ abTb := abTb_mem 675 (by decide +kernel) rfl
theorem tb_628 : ((Jvm.Cond.code ({ cls := "ShadowCourt", name := "docket", desc := "(I)I" } : Jvm.MethodName) prog_1_method_19_code (3 : Nat) (Option.some Jvm.ClassFile.FieldType.int)) : Jvm.Cond) ∈ abTb := abTb_mem 676 (by decide +kernel) rfl
theorem tb_629 : ((Jvm.Cond.methodLink "ShadowCourt" (185 : Nat) ({ cls := "ShadowCourt$Docket", name := "set", desc := "(LShadowCourt$Court;)V" } : Jvm.MethodName)) : Jvm.Cond) ∈ abTb := abTb_mem 677 (by decide +kernel) rfl
theorem tb_630 : ((Jvm.Cond.instanceMethod ({ cls := "ShadowCourt$Docket", name := "set", desc := "(LShadowCourt$Court;)V" } : Jvm.MethodName)) : Jvm.Cond) ∈ abTb := abTb_mem 678 (by decide +kernel) rfl
theorem tb_631 : ((Jvm.Cond.selects "ShadowCourt$Docket" ({ cls := "ShadowCourt$Docket", name := "set", desc := "(LShadowCourt$Court;)V" } : Jvm.MethodName) ({ cls := "ShadowCourt$Docket", name := "set", desc := "(LShadowCourt$Court;)V" } : Jvm.MethodName)) : Jvm.Cond) ∈ abTb := abTb_mem 679 (by decide +kernel) rfl
theorem tb_632 : ((Jvm.Cond.code ({ cls := "ShadowCourt$Docket", name := "set", desc := "(LShadowCourt$Court;)V" } : Jvm.MethodName) prog_4_method_2_code (5 : Nat) (Option.none : Option Jvm.ClassFile.FieldType)) : Jvm.Cond) ∈ abTb := abTb_mem 680 (by decide +kernel) rfl
theorem tb_633 : ((Jvm.Cond.methodLink "ShadowCourt$Docket" (31 : Nat) ({ cls := "ShadowCourt$Docket", name := "hoursForFirst", desc := "(LShadowCourt$Court;II)I" } : Jvm.MethodName)) : Jvm.Cond) ∈ abTb := abTb_mem 681 (by decide +kernel) rfl
theorem tb_634 : ((Jvm.Cond.static ({ cls := "ShadowCourt$Docket", name := "hoursForFirst", desc := "(LShadowCourt$Court;II)I" } : Jvm.MethodName)) : Jvm.Cond) ∈ abTb := abTb_mem 682 (by decide +kernel) rfl
theorem tb_635 : ((Jvm.Cond.code ({ cls := "ShadowCourt$Docket", name := "hoursForFirst", desc := "(LShadowCourt$Court;II)I" } : Jvm.MethodName) prog_4_method_3_code (5 : Nat) (Option.some Jvm.ClassFile.FieldType.int)) : Jvm.Cond) ∈ abTb := abTb_mem 683 (by decide +kernel) rfl
theorem tb_636 : ((Jvm.Cond.methodLink "ShadowCourt$Docket" (46 : Nat) ({ cls := "ShadowCourt$Court", name := "balance", desc := "(III)I" } : Jvm.MethodName)) : Jvm.Cond) ∈ abTb := abTb_mem 684 (by decide +kernel) rfl
theorem tb_637 : ((Jvm.Cond.methodLink "ShadowCourt$Docket" (35 : Nat) ({ cls := "ShadowCourt$Docket", name := "mostFrom", desc := "(II)I" } : Jvm.MethodName)) : Jvm.Cond) ∈ abTb := abTb_mem 685 (by decide +kernel) rfl
theorem tb_639 : ((Jvm.Cond.instanceMethod ({ cls := "ShadowCourt$Docket", name := "mostFrom", desc := "(II)I" } : Jvm.MethodName)) : Jvm.Cond) ∈ abTb := abTb_mem 687 (by decide +kernel) rfl
theorem tb_640 : ((Jvm.Cond.code ({ cls := "ShadowCourt$Docket", name := "mostFrom", desc := "(II)I" } : Jvm.MethodName) prog_4_method_5_code (8 : Nat) (Option.some Jvm.ClassFile.FieldType.int)) : Jvm.Cond) ∈ abTb := abTb_mem 688 (by decide +kernel) rfl
theorem tb_641 : ((Jvm.Cond.methodLink "ShadowCourt$Docket" (49 : Nat) ({ cls := "java/lang/Math", name := "max", desc := "(II)I" } : Jvm.MethodName)) : Jvm.Cond) ∈ abTb := abTb_mem 689 (by decide +kernel) rfl
theorem tb_642 : ((Jvm.Cond.methodLink "ShadowCourt$Docket" (54 : Nat) ({ cls := "java/lang/Integer", name := "bitCount", desc := "(I)I" } : Jvm.MethodName)) : Jvm.Cond) ∈ abTb := abTb_mem 690 (by decide +kernel) rfl
theorem tb_643 : ((Jvm.Cond.methodLink "ShadowCourt$Docket" (60 : Nat) ({ cls := "java/lang/Math", name := "min", desc := "(II)I" } : Jvm.MethodName)) : Jvm.Cond) ∈ abTb := abTb_mem 691 (by decide +kernel) rfl
theorem tb_644 : ((Jvm.Cond.methodLink "ShadowCourt$Docket" (42 : Nat) ({ cls := "ShadowCourt$Docket", name := "firstHour", desc := "(III)I" } : Jvm.MethodName)) : Jvm.Cond) ∈ abTb := abTb_mem 692 (by decide +kernel) rfl
theorem tb_646 : ((Jvm.Cond.instanceMethod ({ cls := "ShadowCourt$Docket", name := "firstHour", desc := "(III)I" } : Jvm.MethodName)) : Jvm.Cond) ∈ abTb := abTb_mem 694 (by decide +kernel) rfl
theorem tb_647 : ((Jvm.Cond.code ({ cls := "ShadowCourt$Docket", name := "firstHour", desc := "(III)I" } : Jvm.MethodName) prog_4_method_4_code (6 : Nat) (Option.some Jvm.ClassFile.FieldType.int)) : Jvm.Cond) ∈ abTb := abTb_mem 695 (by decide +kernel) rfl
theorem tb_649 : ((Jvm.Cond.instanceMethod ({ cls := "ShadowCourt", name := "odds", desc := "(IIIII)I" } : Jvm.MethodName)) : Jvm.Cond) ∈ abTb := abTb_mem 697 (by decide +kernel) rfl
theorem tb_650 : ((Jvm.Cond.selects "ShadowCourt" ({ cls := "ShadowCourt", name := "odds", desc := "(IIIII)I" } : Jvm.MethodName) ({ cls := "ShadowCourt", name := "odds", desc := "(IIIII)I" } : Jvm.MethodName)) : Jvm.Cond) ∈ abTb := abTb_mem 698 (by decide +kernel) rfl
theorem tb_651 : ((Jvm.Cond.code ({ cls := "ShadowCourt", name := "odds", desc := "(IIIII)I" } : Jvm.MethodName) prog_1_method_20_code (11 : Nat) (Option.some Jvm.ClassFile.FieldType.int)) : Jvm.Cond) ∈ abTb := abTb_mem 699 (by decide +kernel) rfl
theorem tb_652 : ((Jvm.Cond.methodLink "ShadowCourt" (195 : Nat) ({ cls := "ShadowCourt", name := "inLowestTerms", desc := "(IIZ)I" } : Jvm.MethodName)) : Jvm.Cond) ∈ abTb := abTb_mem 700 (by decide +kernel) rfl
theorem tb_653 : ((Jvm.Cond.static ({ cls := "ShadowCourt", name := "inLowestTerms", desc := "(IIZ)I" } : Jvm.MethodName)) : Jvm.Cond) ∈ abTb := abTb_mem 701 (by decide +kernel) rfl
theorem tb_654 : ((Jvm.Cond.code ({ cls := "ShadowCourt", name := "inLowestTerms", desc := "(IIZ)I" } : Jvm.MethodName) prog_1_method_28_code (6 : Nat) (Option.some Jvm.ClassFile.FieldType.int)) : Jvm.Cond) ∈ abTb := abTb_mem 702 (by decide +kernel) rfl
theorem tb_667 : ((Jvm.Cond.methodLink "ShadowCourt" (214 : Nat) ({ cls := "ShadowCourt$Terms", name := "hold", desc := "(LShadowCourt$Court;II)V" } : Jvm.MethodName)) : Jvm.Cond) ∈ abTb := abTb_mem 715 (by decide +kernel) rfl
theorem tb_668 : ((Jvm.Cond.instanceMethod ({ cls := "ShadowCourt$Terms", name := "hold", desc := "(LShadowCourt$Court;II)V" } : Jvm.MethodName)) : Jvm.Cond) ∈ abTb := abTb_mem 716 (by decide +kernel) rfl
theorem tb_669 : ((Jvm.Cond.selects "ShadowCourt$Terms" ({ cls := "ShadowCourt$Terms", name := "hold", desc := "(LShadowCourt$Court;II)V" } : Jvm.MethodName) ({ cls := "ShadowCourt$Terms", name := "hold", desc := "(LShadowCourt$Court;II)V" } : Jvm.MethodName)) : Jvm.Cond) ∈ abTb := abTb_mem 717 (by decide +kernel) rfl
theorem tb_670 : ((Jvm.Cond.code ({ cls := "ShadowCourt$Terms", name := "hold", desc := "(LShadowCourt$Court;II)V" } : Jvm.MethodName) prog_11_method_2_code (9 : Nat) (Option.none : Option Jvm.ClassFile.FieldType)) : Jvm.Cond) ∈ abTb := abTb_mem 718 (by decide +kernel) rfl
theorem tb_671 : ((Jvm.Cond.methodLink "ShadowCourt$Terms" (27 : Nat) ({ cls := "ShadowCourt$Terms", name := "draw", desc := "(I)I" } : Jvm.MethodName)) : Jvm.Cond) ∈ abTb := abTb_mem 719 (by decide +kernel) rfl
theorem tb_673 : ((Jvm.Cond.instanceMethod ({ cls := "ShadowCourt$Terms", name := "draw", desc := "(I)I" } : Jvm.MethodName)) : Jvm.Cond) ∈ abTb := abTb_mem 721 (by decide +kernel) rfl
theorem tb_674 : ((Jvm.Cond.code ({ cls := "ShadowCourt$Terms", name := "draw", desc := "(I)I" } : Jvm.MethodName) prog_11_method_3_code (2 : Nat) (Option.some Jvm.ClassFile.FieldType.int)) : Jvm.Cond) ∈ abTb := abTb_mem 722 (by decide +kernel) rfl
theorem tb_675 : ((Jvm.Cond.constantLong "ShadowCourt$Terms" (35 : Nat) (1103515245 : Int64)) : Jvm.Cond) ∈ abTb := abTb_mem 723 (by decide +kernel) rfl
theorem tb_676 : ((Jvm.Cond.constantLong "ShadowCourt$Terms" (37 : Nat) (12345 : Int64)) : Jvm.Cond) ∈ abTb := abTb_mem 724 (by decide +kernel) rfl
theorem tb_677 : ((Jvm.Cond.constantLong "ShadowCourt$Terms" (39 : Nat) (2147483648 : Int64)) : Jvm.Cond) ∈ abTb := abTb_mem 725 (by decide +kernel) rfl
theorem tb_678 : ((Jvm.Cond.constantLong "ShadowCourt$Terms" (41 : Nat) (65536 : Int64)) : Jvm.Cond) ∈ abTb := abTb_mem 726 (by decide +kernel) rfl
theorem tb_679 : ((Jvm.Cond.methodLink "ShadowCourt$Terms" (31 : Nat) ({ cls := "ShadowCourt$Court", name := "balance", desc := "(III)I" } : Jvm.MethodName)) : Jvm.Cond) ∈ abTb := abTb_mem 727 (by decide +kernel) rfl
theorem tb_684 : ((Jvm.Cond.methodLink "ShadowCourt" (228 : Nat) ({ cls := "ShadowCourt$Court", name := "keepAllOf", desc := "(LShadowCourt$Court;)V" } : Jvm.MethodName)) : Jvm.Cond) ∈ abTb := abTb_mem 732 (by decide +kernel) rfl
theorem tb_685 : ((Jvm.Cond.instanceMethod ({ cls := "ShadowCourt$Court", name := "keepAllOf", desc := "(LShadowCourt$Court;)V" } : Jvm.MethodName)) : Jvm.Cond) ∈ abTb := abTb_mem 733 (by decide +kernel) rfl
theorem tb_686 : ((Jvm.Cond.selects "ShadowCourt$Court" ({ cls := "ShadowCourt$Court", name := "keepAllOf", desc := "(LShadowCourt$Court;)V" } : Jvm.MethodName) ({ cls := "ShadowCourt$Court", name := "keepAllOf", desc := "(LShadowCourt$Court;)V" } : Jvm.MethodName)) : Jvm.Cond) ∈ abTb := abTb_mem 734 (by decide +kernel) rfl
theorem tb_687 : ((Jvm.Cond.code ({ cls := "ShadowCourt$Court", name := "keepAllOf", desc := "(LShadowCourt$Court;)V" } : Jvm.MethodName) prog_3_method_3_code (2 : Nat) (Option.none : Option Jvm.ClassFile.FieldType)) : Jvm.Cond) ∈ abTb := abTb_mem 735 (by decide +kernel) rfl
theorem tb_688 : ((Jvm.Cond.methodLink "ShadowCourt$Court" (83 : Nat) ({ cls := "ShadowCourt$Court", name := "copy", desc := "([I[I)V" } : Jvm.MethodName)) : Jvm.Cond) ∈ abTb := abTb_mem 736 (by decide +kernel) rfl
theorem tb_689 : ((Jvm.Cond.static ({ cls := "ShadowCourt$Court", name := "copy", desc := "([I[I)V" } : Jvm.MethodName)) : Jvm.Cond) ∈ abTb := abTb_mem 737 (by decide +kernel) rfl
theorem tb_690 : ((Jvm.Cond.code ({ cls := "ShadowCourt$Court", name := "copy", desc := "([I[I)V" } : Jvm.MethodName) prog_3_method_4_code (2 : Nat) (Option.none : Option Jvm.ClassFile.FieldType)) : Jvm.Cond) ∈ abTb := abTb_mem 738 (by decide +kernel) rfl
theorem tb_691 : ((Jvm.Cond.methodLink "ShadowCourt$Court" (87 : Nat) ({ cls := "java/lang/System", name := "arraycopy", desc := "(Ljava/lang/Object;ILjava/lang/Object;II)V" } : Jvm.MethodName)) : Jvm.Cond) ∈ abTb := abTb_mem 739 (by decide +kernel) rfl
theorem tb_692 : ((Jvm.Cond.methodLink "ShadowCourt" (231 : Nat) ({ cls := "ShadowCourt$Court", name := "hoursInAll", desc := "()I" } : Jvm.MethodName)) : Jvm.Cond) ∈ abTb := abTb_mem 740 (by decide +kernel) rfl
theorem tb_693 : ((Jvm.Cond.instanceMethod ({ cls := "ShadowCourt$Court", name := "hoursInAll", desc := "()I" } : Jvm.MethodName)) : Jvm.Cond) ∈ abTb := abTb_mem 741 (by decide +kernel) rfl
theorem tb_694 : ((Jvm.Cond.selects "ShadowCourt$Court" ({ cls := "ShadowCourt$Court", name := "hoursInAll", desc := "()I" } : Jvm.MethodName) ({ cls := "ShadowCourt$Court", name := "hoursInAll", desc := "()I" } : Jvm.MethodName)) : Jvm.Cond) ∈ abTb := abTb_mem 742 (by decide +kernel) rfl
theorem tb_695 : ((Jvm.Cond.code ({ cls := "ShadowCourt$Court", name := "hoursInAll", desc := "()I" } : Jvm.MethodName) prog_3_method_9_code (1 : Nat) (Option.some Jvm.ClassFile.FieldType.int)) : Jvm.Cond) ∈ abTb := abTb_mem 743 (by decide +kernel) rfl
theorem tb_701 : ((Jvm.Cond.instanceMethod ({ cls := "ShadowCourt", name := "count", desc := "(I)I" } : Jvm.MethodName)) : Jvm.Cond) ∈ abTb := abTb_mem 749 (by decide +kernel) rfl
theorem tb_702 : ((Jvm.Cond.selects "ShadowCourt" ({ cls := "ShadowCourt", name := "count", desc := "(I)I" } : Jvm.MethodName) ({ cls := "ShadowCourt", name := "count", desc := "(I)I" } : Jvm.MethodName)) : Jvm.Cond) ∈ abTb := abTb_mem 750 (by decide +kernel) rfl
theorem tb_703 : ((Jvm.Cond.code ({ cls := "ShadowCourt", name := "count", desc := "(I)I" } : Jvm.MethodName) prog_1_method_26_code (2 : Nat) (Option.some Jvm.ClassFile.FieldType.int)) : Jvm.Cond) ∈ abTb := abTb_mem 751 (by decide +kernel) rfl
theorem tb_704 : ((Jvm.Cond.methodLink "ShadowCourt" (234 : Nat) ({ cls := "ShadowCourt$Court", name := "tilesCoveredBy", desc := "(I)I" } : Jvm.MethodName)) : Jvm.Cond) ∈ abTb := abTb_mem 752 (by decide +kernel) rfl
theorem tb_705 : ((Jvm.Cond.instanceMethod ({ cls := "ShadowCourt$Court", name := "tilesCoveredBy", desc := "(I)I" } : Jvm.MethodName)) : Jvm.Cond) ∈ abTb := abTb_mem 753 (by decide +kernel) rfl
theorem tb_706 : ((Jvm.Cond.selects "ShadowCourt$Court" ({ cls := "ShadowCourt$Court", name := "tilesCoveredBy", desc := "(I)I" } : Jvm.MethodName) ({ cls := "ShadowCourt$Court", name := "tilesCoveredBy", desc := "(I)I" } : Jvm.MethodName)) : Jvm.Cond) ∈ abTb := abTb_mem 754 (by decide +kernel) rfl
theorem tb_707 : ((Jvm.Cond.code ({ cls := "ShadowCourt$Court", name := "tilesCoveredBy", desc := "(I)I" } : Jvm.MethodName) prog_3_method_16_code (4 : Nat) (Option.some Jvm.ClassFile.FieldType.int)) : Jvm.Cond) ∈ abTb := abTb_mem 755 (by decide +kernel) rfl
theorem tb_708 : ((Jvm.Cond.methodLink "ShadowCourt$Court" (114 : Nat) ({ cls := "ShadowCourt$Court", name := "covering", desc := "(I)I" } : Jvm.MethodName)) : Jvm.Cond) ∈ abTb := abTb_mem 756 (by decide +kernel) rfl
theorem tb_709 : ((Jvm.Cond.methodLink "ShadowCourt$Court" (117 : Nat) ({ cls := "java/lang/Integer", name := "bitCount", desc := "(I)I" } : Jvm.MethodName)) : Jvm.Cond) ∈ abTb := abTb_mem 757 (by decide +kernel) rfl
theorem tb_710 : ((Jvm.Cond.methodLink "ShadowCourt" (237 : Nat) ({ cls := "ShadowCourt$Court", name := "casesAsTheyShouldBe", desc := "()I" } : Jvm.MethodName)) : Jvm.Cond) ∈ abTb := abTb_mem 758 (by decide +kernel) rfl
theorem tb_711 : ((Jvm.Cond.instanceMethod ({ cls := "ShadowCourt$Court", name := "casesAsTheyShouldBe", desc := "()I" } : Jvm.MethodName)) : Jvm.Cond) ∈ abTb := abTb_mem 759 (by decide +kernel) rfl
theorem tb_712 : ((Jvm.Cond.selects "ShadowCourt$Court" ({ cls := "ShadowCourt$Court", name := "casesAsTheyShouldBe", desc := "()I" } : Jvm.MethodName) ({ cls := "ShadowCourt$Court", name := "casesAsTheyShouldBe", desc := "()I" } : Jvm.MethodName)) : Jvm.Cond) ∈ abTb := abTb_mem 760 (by decide +kernel) rfl
theorem tb_713 : ((Jvm.Cond.code ({ cls := "ShadowCourt$Court", name := "casesAsTheyShouldBe", desc := "()I" } : Jvm.MethodName) prog_3_method_17_code (3 : Nat) (Option.some Jvm.ClassFile.FieldType.int)) : Jvm.Cond) ∈ abTb := abTb_mem 761 (by decide +kernel) rfl
theorem tb_714 : ((Jvm.Cond.methodLink "ShadowCourt$Court" (122 : Nat) ({ cls := "ShadowCourt$Court", name := "balance", desc := "(III)I" } : Jvm.MethodName)) : Jvm.Cond) ∈ abTb := abTb_mem 762 (by decide +kernel) rfl
theorem tb_719 : ((Jvm.Cond.constantLong "ShadowCourt" (240 : Nat) (1217 : Int64)) : Jvm.Cond) ∈ abTb := abTb_mem 767 (by decide +kernel) rfl
theorem tb_720 : ((Jvm.Cond.constantLong "ShadowCourt" (242 : Nat) (31 : Int64)) : Jvm.Cond) ∈ abTb := abTb_mem 768 (by decide +kernel) rfl
theorem tb_721 : ((Jvm.Cond.methodLink "ShadowCourt" (244 : Nat) ({ cls := "ShadowCourt", name := "party", desc := "(II)I" } : Jvm.MethodName)) : Jvm.Cond) ∈ abTb := abTb_mem 769 (by decide +kernel) rfl
theorem tb_722 : ((Jvm.Cond.methodLink "ShadowCourt" (247 : Nat) ({ cls := "ShadowCourt", name := "covers", desc := "(II)I" } : Jvm.MethodName)) : Jvm.Cond) ∈ abTb := abTb_mem 770 (by decide +kernel) rfl
theorem tb_723 : ((Jvm.Cond.methodLink "ShadowCourt" (250 : Nat) ({ cls := "ShadowCourt", name := "tile", desc := "(II)I" } : Jvm.MethodName)) : Jvm.Cond) ∈ abTb := abTb_mem 771 (by decide +kernel) rfl
theorem tb_724 : ((Jvm.Cond.methodLink "ShadowCourt" (252 : Nat) ({ cls := "ShadowCourt", name := "found", desc := "(III)I" } : Jvm.MethodName)) : Jvm.Cond) ∈ abTb := abTb_mem 772 (by decide +kernel) rfl
theorem tb_725 : ((Jvm.Cond.methodLink "ShadowCourt" (255 : Nat) ({ cls := "ShadowCourt", name := "game", desc := "(IIII)I" } : Jvm.MethodName)) : Jvm.Cond) ∈ abTb := abTb_mem 773 (by decide +kernel) rfl
theorem tb_726 : ((Jvm.Cond.methodLink "ShadowCourt" (259 : Nat) ({ cls := "ShadowCourt", name := "odds", desc := "(IIIII)I" } : Jvm.MethodName)) : Jvm.Cond) ∈ abTb := abTb_mem 774 (by decide +kernel) rfl
theorem tb_727 : ((Jvm.Cond.methodLink "ShadowCourt" (263 : Nat) ({ cls := "ShadowCourt", name := "docket", desc := "(I)I" } : Jvm.MethodName)) : Jvm.Cond) ∈ abTb := abTb_mem 775 (by decide +kernel) rfl
theorem tb_728 : ((Jvm.Cond.methodLink "ShadowCourt" (266 : Nat) ({ cls := "ShadowCourt", name := "count", desc := "(I)I" } : Jvm.MethodName)) : Jvm.Cond) ∈ abTb := abTb_mem 776 (by decide +kernel) rfl
theorem tb_734 : ((Jvm.Cond.methodLink "ShadowCourtModel" (1 : Nat) ({ cls := "java/lang/Object", name := "<init>", desc := "()V" } : Jvm.MethodName)) : Jvm.Cond) ∈ abTb := abTb_mem 782 (by decide +kernel) rfl
theorem tb_735 : ((Jvm.Cond.fieldLink "ShadowCourtModel" (128 : Nat) "ShadowCourtModel" "courts" "I") : Jvm.Cond) ∈ abTb := abTb_mem 783 (by decide +kernel) rfl
theorem tb_736 : ((Jvm.Cond.fieldLink "ShadowCourtModel" (116 : Nat) "ShadowCourtModel" "parties" "I") : Jvm.Cond) ∈ abTb := abTb_mem 784 (by decide +kernel) rfl
theorem tb_737 : ((Jvm.Cond.fieldLink "ShadowCourtModel" (7 : Nat) "ShadowCourtModel" "worthOf" "[I") : Jvm.Cond) ∈ abTb := abTb_mem 785 (by decide +kernel) rfl
theorem tb_738 : ((Jvm.Cond.fieldLink "ShadowCourtModel" (13 : Nat) "ShadowCourtModel" "kindOf" "[I") : Jvm.Cond) ∈ abTb := abTb_mem 786 (by decide +kernel) rfl
theorem tb_739 : ((Jvm.Cond.fieldLink "ShadowCourtModel" (16 : Nat) "ShadowCourtModel" "highOf" "[I") : Jvm.Cond) ∈ abTb := abTb_mem 787 (by decide +kernel) rfl
theorem tb_740 : ((Jvm.Cond.fieldLink "ShadowCourtModel" (19 : Nat) "ShadowCourtModel" "tileOf" "[I") : Jvm.Cond) ∈ abTb := abTb_mem 788 (by decide +kernel) rfl
theorem tb_741 : ((Jvm.Cond.fieldLink "ShadowCourtModel" (119 : Nat) "ShadowCourtModel" "hour" "I") : Jvm.Cond) ∈ abTb := abTb_mem 789 (by decide +kernel) rfl
theorem tb_742 : ((Jvm.Cond.fieldLink "ShadowCourtModel" (122 : Nat) "ShadowCourtModel" "days" "I") : Jvm.Cond) ∈ abTb := abTb_mem 790 (by decide +kernel) rfl
theorem tb_743 : ((Jvm.Cond.fieldLink "ShadowCourtModel" (125 : Nat) "ShadowCourtModel" "cases" "I") : Jvm.Cond) ∈ abTb := abTb_mem 791 (by decide +kernel) rfl
theorem tb_744 : ((Jvm.Cond.fieldLink "ShadowCourtModel" (22 : Nat) "ShadowCourtModel" "caseOne" "[I") : Jvm.Cond) ∈ abTb := abTb_mem 792 (by decide +kernel) rfl
theorem tb_745 : ((Jvm.Cond.fieldLink "ShadowCourtModel" (25 : Nat) "ShadowCourtModel" "caseOther" "[I") : Jvm.Cond) ∈ abTb := abTb_mem 793 (by decide +kernel) rfl
theorem tb_746 : ((Jvm.Cond.fieldLink "ShadowCourtModel" (131 : Nat) "ShadowCourtModel" "seen" "I") : Jvm.Cond) ∈ abTb := abTb_mem 794 (by decide +kernel) rfl
theorem tb_747 : ((Jvm.Cond.fieldLink "ShadowCourtModel" (28 : Nat) "ShadowCourtModel" "seenParty" "[I") : Jvm.Cond) ∈ abTb := abTb_mem 795 (by decide +kernel) rfl
theorem tb_748 : ((Jvm.Cond.fieldLink "ShadowCourtModel" (31 : Nat) "ShadowCourtModel" "seenHour" "[I") : Jvm.Cond) ∈ abTb := abTb_mem 796 (by decide +kernel) rfl
theorem tb_749 : ((Jvm.Cond.fieldLink "ShadowCourtModel" (34 : Nat) "ShadowCourtModel" "seenTile" "[I") : Jvm.Cond) ∈ abTb := abTb_mem 797 (by decide +kernel) rfl
theorem tb_750 : ((Jvm.Cond.fieldLink "ShadowCourtModel" (37 : Nat) "ShadowCourtModel" "seenCovers" "[I") : Jvm.Cond) ∈ abTb := abTb_mem 798 (by decide +kernel) rfl
theorem tb_751 : ((Jvm.Cond.fieldLink "ShadowCourtModel" (87 : Nat) "ShadowCourtModel" "pageLength" "I") : Jvm.Cond) ∈ abTb := abTb_mem 799 (by decide +kernel) rfl
theorem tb_752 : ((Jvm.Cond.fieldLink "ShadowCourtModel" (40 : Nat) "ShadowCourtModel" "page" "[B") : Jvm.Cond) ∈ abTb := abTb_mem 800 (by decide +kernel) rfl
theorem tb_753 : ((Jvm.Cond.fieldLink "ShadowCourtModel" (102 : Nat) "ShadowCourtModel" "isWhole" "Z") : Jvm.Cond) ∈ abTb := abTb_mem 801 (by decide +kernel) rfl
theorem tb_754 : ((Jvm.Cond.fieldLink "ShadowCourtModel" (106 : Nat) "ShadowCourtModel" "newParties" "I") : Jvm.Cond) ∈ abTb := abTb_mem 802 (by decide +kernel) rfl
theorem tb_755 : ((Jvm.Cond.fieldLink "ShadowCourtModel" (44 : Nat) "ShadowCourtModel" "gameBy" "[I") : Jvm.Cond) ∈ abTb := abTb_mem 803 (by decide +kernel) rfl
theorem tb_756 : ((Jvm.Cond.fieldLink "ShadowCourtModel" (47 : Nat) "ShadowCourtModel" "gameNext" "[I") : Jvm.Cond) ∈ abTb := abTb_mem 804 (by decide +kernel) rfl
theorem tb_757 : ((Jvm.Cond.fieldLink "ShadowCourtModel" (50 : Nat) "ShadowCourtModel" "goodOf" "[I") : Jvm.Cond) ∈ abTb := abTb_mem 805 (by decide +kernel) rfl
theorem tb_758 : ((Jvm.Cond.fieldLink "ShadowCourtModel" (53 : Nat) "ShadowCourtModel" "hourOf" "[I") : Jvm.Cond) ∈ abTb := abTb_mem 806 (by decide +kernel) rfl
theorem tb_759 : ((Jvm.Cond.fieldLink "ShadowCourtModel" (248 : Nat) "ShadowCourtModel" "seedNow" "J") : Jvm.Cond) ∈ abTb := abTb_mem 807 (by decide +kernel) rfl
theorem tb_760 : ((Jvm.Cond.fieldLink "ShadowCourtModel" (264 : Nat) "ShadowCourtModel" "isKept" "Z") : Jvm.Cond) ∈ abTb := abTb_mem 808 (by decide +kernel) rfl
theorem tb_761 : ((Jvm.Cond.fieldLink "ShadowCourtModel" (267 : Nat) "ShadowCourtModel" "keptCourt" "I") : Jvm.Cond) ∈ abTb := abTb_mem 809 (by decide +kernel) rfl
theorem tb_762 : ((Jvm.Cond.fieldLink "ShadowCourtModel" (270 : Nat) "ShadowCourtModel" "keptHour" "I") : Jvm.Cond) ∈ abTb := abTb_mem 810 (by decide +kernel) rfl
theorem tb_763 : ((Jvm.Cond.fieldLink "ShadowCourtModel" (273 : Nat) "ShadowCourtModel" "keptDays" "I") : Jvm.Cond) ∈ abTb := abTb_mem 811 (by decide +kernel) rfl
theorem tb_764 : ((Jvm.Cond.fieldLink "ShadowCourtModel" (276 : Nat) "ShadowCourtModel" "keptCases" "I") : Jvm.Cond) ∈ abTb := abTb_mem 812 (by decide +kernel) rfl
theorem tb_765 : ((Jvm.Cond.fieldLink "ShadowCourtModel" (279 : Nat) "ShadowCourtModel" "keptSeen" "I") : Jvm.Cond) ∈ abTb := abTb_mem 813 (by decide +kernel) rfl
theorem tb_766 : ((Jvm.Cond.fieldLink "ShadowCourtModel" (56 : Nat) "ShadowCourtModel" "keptWorth" "[I") : Jvm.Cond) ∈ abTb := abTb_mem 814 (by decide +kernel) rfl
theorem tb_767 : ((Jvm.Cond.fieldLink "ShadowCourtModel" (59 : Nat) "ShadowCourtModel" "keptHigh" "[I") : Jvm.Cond) ∈ abTb := abTb_mem 815 (by decide +kernel) rfl
theorem tb_768 : ((Jvm.Cond.fieldLink "ShadowCourtModel" (62 : Nat) "ShadowCourtModel" "keptTile" "[I") : Jvm.Cond) ∈ abTb := abTb_mem 816 (by decide +kernel) rfl
theorem tb_769 : ((Jvm.Cond.fieldLink "ShadowCourtModel" (65 : Nat) "ShadowCourtModel" "keptOne" "[I") : Jvm.Cond) ∈ abTb := abTb_mem 817 (by decide +kernel) rfl
theorem tb_770 : ((Jvm.Cond.fieldLink "ShadowCourtModel" (68 : Nat) "ShadowCourtModel" "keptOther" "[I") : Jvm.Cond) ∈ abTb := abTb_mem 818 (by decide +kernel) rfl
theorem tb_771 : ((Jvm.Cond.fieldLink "ShadowCourtModel" (71 : Nat) "ShadowCourtModel" "keptParty" "[I") : Jvm.Cond) ∈ abTb := abTb_mem 819 (by decide +kernel) rfl
theorem tb_772 : ((Jvm.Cond.fieldLink "ShadowCourtModel" (74 : Nat) "ShadowCourtModel" "keptSeenHour" "[I") : Jvm.Cond) ∈ abTb := abTb_mem 820 (by decide +kernel) rfl
theorem tb_773 : ((Jvm.Cond.fieldLink "ShadowCourtModel" (77 : Nat) "ShadowCourtModel" "keptSeenTile" "[I") : Jvm.Cond) ∈ abTb := abTb_mem 821 (by decide +kernel) rfl
theorem tb_774 : ((Jvm.Cond.fieldLink "ShadowCourtModel" (80 : Nat) "ShadowCourtModel" "keptCovers" "[I") : Jvm.Cond) ∈ abTb := abTb_mem 822 (by decide +kernel) rfl
theorem tb_775 : ((Jvm.Cond.fieldLink "ShadowCourtModel" (293 : Nat) "ShadowCourtModel" "h" "J") : Jvm.Cond) ∈ abTb := abTb_mem 823 (by decide +kernel) rfl
theorem tb_863 : ((Jvm.Cond.methodLink "ShadowCourtModel" (83 : Nat) ({ cls := "ShadowCourtModel", name := "within", desc := "(III)Z" } : Jvm.MethodName)) : Jvm.Cond) ∈ abTb := abTb_mem 911 (by decide +kernel) rfl
theorem tb_864 : ((Jvm.Cond.static ({ cls := "ShadowCourtModel", name := "within", desc := "(III)Z" } : Jvm.MethodName)) : Jvm.Cond) ∈ abTb := abTb_mem 912 (by decide +kernel) rfl
theorem tb_865 : ((Jvm.Cond.code ({ cls := "ShadowCourtModel", name := "within", desc := "(III)Z" } : Jvm.MethodName) prog_14_method_3_code (3 : Nat) (Option.some Jvm.ClassFile.FieldType.boolean)) : Jvm.Cond) ∈ abTb := abTb_mem 913 (by decide +kernel) rfl
theorem tb_874 : ((Jvm.Cond.methodLink "ShadowCourtModel" (112 : Nat) ({ cls := "ShadowCourtModel", name := "read", desc := "()I" } : Jvm.MethodName)) : Jvm.Cond) ∈ abTb := abTb_mem 922 (by decide +kernel) rfl
theorem tb_876 : ((Jvm.Cond.instanceMethod ({ cls := "ShadowCourtModel", name := "read", desc := "()I" } : Jvm.MethodName)) : Jvm.Cond) ∈ abTb := abTb_mem 924 (by decide +kernel) rfl
theorem tb_877 : ((Jvm.Cond.code ({ cls := "ShadowCourtModel", name := "read", desc := "()I" } : Jvm.MethodName) prog_14_method_13_code (3 : Nat) (Option.some Jvm.ClassFile.FieldType.int)) : Jvm.Cond) ∈ abTb := abTb_mem 925 (by decide +kernel) rfl
theorem tb_878 : ((Jvm.Cond.methodLink "ShadowCourtModel" (98 : Nat) ({ cls := "ShadowCourtModel", name := "isFigure", desc := "(II)Z" } : Jvm.MethodName)) : Jvm.Cond) ∈ abTb := abTb_mem 926 (by decide +kernel) rfl
theorem tb_880 : ((Jvm.Cond.instanceMethod ({ cls := "ShadowCourtModel", name := "isFigure", desc := "(II)Z" } : Jvm.MethodName)) : Jvm.Cond) ∈ abTb := abTb_mem 928 (by decide +kernel) rfl
theorem tb_881 : ((Jvm.Cond.code ({ cls := "ShadowCourtModel", name := "isFigure", desc := "(II)Z" } : Jvm.MethodName) prog_14_method_11_code (3 : Nat) (Option.some Jvm.ClassFile.FieldType.boolean)) : Jvm.Cond) ∈ abTb := abTb_mem 929 (by decide +kernel) rfl
theorem tb_882 : ((Jvm.Cond.methodLink "ShadowCourtModel" (91 : Nat) ({ cls := "ShadowCourtModel", name := "at", desc := "(I)I" } : Jvm.MethodName)) : Jvm.Cond) ∈ abTb := abTb_mem 930 (by decide +kernel) rfl
theorem tb_884 : ((Jvm.Cond.instanceMethod ({ cls := "ShadowCourtModel", name := "at", desc := "(I)I" } : Jvm.MethodName)) : Jvm.Cond) ∈ abTb := abTb_mem 932 (by decide +kernel) rfl
theorem tb_885 : ((Jvm.Cond.code ({ cls := "ShadowCourtModel", name := "at", desc := "(I)I" } : Jvm.MethodName) prog_14_method_10_code (2 : Nat) (Option.some Jvm.ClassFile.FieldType.int)) : Jvm.Cond) ∈ abTb := abTb_mem 933 (by decide +kernel) rfl
theorem tb_886 : ((Jvm.Cond.methodLink "ShadowCourtModel" (109 : Nat) ({ cls := "ShadowCourtModel", name := "readParty", desc := "(I)I" } : Jvm.MethodName)) : Jvm.Cond) ∈ abTb := abTb_mem 934 (by decide +kernel) rfl
theorem tb_888 : ((Jvm.Cond.instanceMethod ({ cls := "ShadowCourtModel", name := "readParty", desc := "(I)I" } : Jvm.MethodName)) : Jvm.Cond) ∈ abTb := abTb_mem 936 (by decide +kernel) rfl
theorem tb_889 : ((Jvm.Cond.code ({ cls := "ShadowCourtModel", name := "readParty", desc := "(I)I" } : Jvm.MethodName) prog_14_method_12_code (2 : Nat) (Option.some Jvm.ClassFile.FieldType.int)) : Jvm.Cond) ∈ abTb := abTb_mem 937 (by decide +kernel) rfl
theorem tb_890 : ((Jvm.Cond.methodLink "ShadowCourtModel" (95 : Nat) ({ cls := "ShadowCourtModel", name := "kindBy", desc := "(I)I" } : Jvm.MethodName)) : Jvm.Cond) ∈ abTb := abTb_mem 938 (by decide +kernel) rfl
theorem tb_891 : ((Jvm.Cond.static ({ cls := "ShadowCourtModel", name := "kindBy", desc := "(I)I" } : Jvm.MethodName)) : Jvm.Cond) ∈ abTb := abTb_mem 939 (by decide +kernel) rfl
theorem tb_892 : ((Jvm.Cond.code ({ cls := "ShadowCourtModel", name := "kindBy", desc := "(I)I" } : Jvm.MethodName) prog_14_method_9_code (1 : Nat) (Option.some Jvm.ClassFile.FieldType.int)) : Jvm.Cond) ∈ abTb := abTb_mem 940 (by decide +kernel) rfl
theorem tb_901 : ((Jvm.Cond.methodLink "ShadowCourtModel" (134 : Nat) ({ cls := "ShadowCourtModel", name := "isParty", desc := "(I)Z" } : Jvm.MethodName)) : Jvm.Cond) ∈ abTb := abTb_mem 949 (by decide +kernel) rfl
theorem tb_903 : ((Jvm.Cond.instanceMethod ({ cls := "ShadowCourtModel", name := "isParty", desc := "(I)Z" } : Jvm.MethodName)) : Jvm.Cond) ∈ abTb := abTb_mem 951 (by decide +kernel) rfl
theorem tb_904 : ((Jvm.Cond.code ({ cls := "ShadowCourtModel", name := "isParty", desc := "(I)Z" } : Jvm.MethodName) prog_14_method_16_code (2 : Nat) (Option.some Jvm.ClassFile.FieldType.boolean)) : Jvm.Cond) ∈ abTb := abTb_mem 952 (by decide +kernel) rfl
theorem tb_905 : ((Jvm.Cond.methodLink "ShadowCourtModel" (174 : Nat) ({ cls := "ShadowCourtModel", name := "partyNow", desc := "(II)I" } : Jvm.MethodName)) : Jvm.Cond) ∈ abTb := abTb_mem 953 (by decide +kernel) rfl
theorem tb_907 : ((Jvm.Cond.instanceMethod ({ cls := "ShadowCourtModel", name := "partyNow", desc := "(II)I" } : Jvm.MethodName)) : Jvm.Cond) ∈ abTb := abTb_mem 955 (by decide +kernel) rfl
theorem tb_908 : ((Jvm.Cond.code ({ cls := "ShadowCourtModel", name := "partyNow", desc := "(II)I" } : Jvm.MethodName) prog_14_method_28_code (3 : Nat) (Option.some Jvm.ClassFile.FieldType.int)) : Jvm.Cond) ∈ abTb := abTb_mem 956 (by decide +kernel) rfl
theorem tb_909 : ((Jvm.Cond.methodLink "ShadowCourtModel" (162 : Nat) ({ cls := "ShadowCourtModel", name := "coversIn", desc := "(II)I" } : Jvm.MethodName)) : Jvm.Cond) ∈ abTb := abTb_mem 957 (by decide +kernel) rfl
theorem tb_911 : ((Jvm.Cond.instanceMethod ({ cls := "ShadowCourtModel", name := "coversIn", desc := "(II)I" } : Jvm.MethodName)) : Jvm.Cond) ∈ abTb := abTb_mem 959 (by decide +kernel) rfl
theorem tb_912 : ((Jvm.Cond.code ({ cls := "ShadowCourtModel", name := "coversIn", desc := "(II)I" } : Jvm.MethodName) prog_14_method_24_code (3 : Nat) (Option.some Jvm.ClassFile.FieldType.int)) : Jvm.Cond) ∈ abTb := abTb_mem 960 (by decide +kernel) rfl
theorem tb_913 : ((Jvm.Cond.methodLink "ShadowCourtModel" (152 : Nat) ({ cls := "ShadowCourtModel", name := "coversAt", desc := "(III)I" } : Jvm.MethodName)) : Jvm.Cond) ∈ abTb := abTb_mem 961 (by decide +kernel) rfl
theorem tb_915 : ((Jvm.Cond.instanceMethod ({ cls := "ShadowCourtModel", name := "coversAt", desc := "(III)I" } : Jvm.MethodName)) : Jvm.Cond) ∈ abTb := abTb_mem 963 (by decide +kernel) rfl
theorem tb_916 : ((Jvm.Cond.code ({ cls := "ShadowCourtModel", name := "coversAt", desc := "(III)I" } : Jvm.MethodName) prog_14_method_23_code (6 : Nat) (Option.some Jvm.ClassFile.FieldType.int)) : Jvm.Cond) ∈ abTb := abTb_mem 964 (by decide +kernel) rfl
theorem tb_917 : ((Jvm.Cond.methodLink "ShadowCourtModel" (138 : Nat) ({ cls := "ShadowCourtModel", name := "longBy", desc := "(II)I" } : Jvm.MethodName)) : Jvm.Cond) ∈ abTb := abTb_mem 965 (by decide +kernel) rfl
theorem tb_919 : ((Jvm.Cond.instanceMethod ({ cls := "ShadowCourtModel", name := "longBy", desc := "(II)I" } : Jvm.MethodName)) : Jvm.Cond) ∈ abTb := abTb_mem 967 (by decide +kernel) rfl
theorem tb_920 : ((Jvm.Cond.code ({ cls := "ShadowCourtModel", name := "longBy", desc := "(II)I" } : Jvm.MethodName) prog_14_method_19_code (4 : Nat) (Option.some Jvm.ClassFile.FieldType.int)) : Jvm.Cond) ∈ abTb := abTb_mem 968 (by decide +kernel) rfl
theorem tb_921 : ((Jvm.Cond.methodLink "ShadowCourtModel" (142 : Nat) ({ cls := "ShadowCourtModel", name := "lastOf", desc := "(IIZ)I" } : Jvm.MethodName)) : Jvm.Cond) ∈ abTb := abTb_mem 969 (by decide +kernel) rfl
theorem tb_922 : ((Jvm.Cond.static ({ cls := "ShadowCourtModel", name := "lastOf", desc := "(IIZ)I" } : Jvm.MethodName)) : Jvm.Cond) ∈ abTb := abTb_mem 970 (by decide +kernel) rfl
theorem tb_923 : ((Jvm.Cond.code ({ cls := "ShadowCourtModel", name := "lastOf", desc := "(IIZ)I" } : Jvm.MethodName) prog_14_method_22_code (4 : Nat) (Option.some Jvm.ClassFile.FieldType.int)) : Jvm.Cond) ∈ abTb := abTb_mem 971 (by decide +kernel) rfl
theorem tb_924 : ((Jvm.Cond.methodLink "ShadowCourtModel" (146 : Nat) ({ cls := "ShadowCourtModel", name := "west", desc := "(II)I" } : Jvm.MethodName)) : Jvm.Cond) ∈ abTb := abTb_mem 972 (by decide +kernel) rfl
theorem tb_925 : ((Jvm.Cond.static ({ cls := "ShadowCourtModel", name := "west", desc := "(II)I" } : Jvm.MethodName)) : Jvm.Cond) ∈ abTb := abTb_mem 973 (by decide +kernel) rfl
theorem tb_926 : ((Jvm.Cond.code ({ cls := "ShadowCourtModel", name := "west", desc := "(II)I" } : Jvm.MethodName) prog_14_method_20_code (3 : Nat) (Option.some Jvm.ClassFile.FieldType.int)) : Jvm.Cond) ∈ abTb := abTb_mem 974 (by decide +kernel) rfl
theorem tb_927 : ((Jvm.Cond.methodLink "ShadowCourtModel" (149 : Nat) ({ cls := "ShadowCourtModel", name := "east", desc := "(II)I" } : Jvm.MethodName)) : Jvm.Cond) ∈ abTb := abTb_mem 975 (by decide +kernel) rfl
theorem tb_928 : ((Jvm.Cond.static ({ cls := "ShadowCourtModel", name := "east", desc := "(II)I" } : Jvm.MethodName)) : Jvm.Cond) ∈ abTb := abTb_mem 976 (by decide +kernel) rfl
theorem tb_929 : ((Jvm.Cond.code ({ cls := "ShadowCourtModel", name := "east", desc := "(II)I" } : Jvm.MethodName) prog_14_method_21_code (3 : Nat) (Option.some Jvm.ClassFile.FieldType.int)) : Jvm.Cond) ∈ abTb := abTb_mem 977 (by decide +kernel) rfl
theorem tb_930 : ((Jvm.Cond.methodLink "ShadowCourtModel" (159 : Nat) ({ cls := "ShadowCourtModel", name := "worthIn", desc := "(I)I" } : Jvm.MethodName)) : Jvm.Cond) ∈ abTb := abTb_mem 978 (by decide +kernel) rfl
theorem tb_932 : ((Jvm.Cond.instanceMethod ({ cls := "ShadowCourtModel", name := "worthIn", desc := "(I)I" } : Jvm.MethodName)) : Jvm.Cond) ∈ abTb := abTb_mem 980 (by decide +kernel) rfl
theorem tb_933 : ((Jvm.Cond.code ({ cls := "ShadowCourtModel", name := "worthIn", desc := "(I)I" } : Jvm.MethodName) prog_14_method_25_code (4 : Nat) (Option.some Jvm.ClassFile.FieldType.int)) : Jvm.Cond) ∈ abTb := abTb_mem 981 (by decide +kernel) rfl
theorem tb_934 : ((Jvm.Cond.methodLink "ShadowCourtModel" (156 : Nat) ({ cls := "ShadowCourtModel", name := "isIn", desc := "(II)Z" } : Jvm.MethodName)) : Jvm.Cond) ∈ abTb := abTb_mem 982 (by decide +kernel) rfl
theorem tb_935 : ((Jvm.Cond.static ({ cls := "ShadowCourtModel", name := "isIn", desc := "(II)Z" } : Jvm.MethodName)) : Jvm.Cond) ∈ abTb := abTb_mem 983 (by decide +kernel) rfl
theorem tb_936 : ((Jvm.Cond.code ({ cls := "ShadowCourtModel", name := "isIn", desc := "(II)Z" } : Jvm.MethodName) prog_14_method_4_code (2 : Nat) (Option.some Jvm.ClassFile.FieldType.boolean)) : Jvm.Cond) ∈ abTb := abTb_mem 984 (by decide +kernel) rfl
theorem tb_937 : ((Jvm.Cond.methodLink "ShadowCourtModel" (168 : Nat) ({ cls := "ShadowCourtModel", name := "heightsOf", desc := "(I)I" } : Jvm.MethodName)) : Jvm.Cond) ∈ abTb := abTb_mem 985 (by decide +kernel) rfl
theorem tb_939 : ((Jvm.Cond.instanceMethod ({ cls := "ShadowCourtModel", name := "heightsOf", desc := "(I)I" } : Jvm.MethodName)) : Jvm.Cond) ∈ abTb := abTb_mem 987 (by decide +kernel) rfl
theorem tb_940 : ((Jvm.Cond.code ({ cls := "ShadowCourtModel", name := "heightsOf", desc := "(I)I" } : Jvm.MethodName) prog_14_method_61_code (6 : Nat) (Option.some Jvm.ClassFile.FieldType.int)) : Jvm.Cond) ∈ abTb := abTb_mem 988 (by decide +kernel) rfl
theorem tb_941 : ((Jvm.Cond.methodLink "ShadowCourtModel" (239 : Nat) ({ cls := "ShadowCourtModel", name := "coversWith", desc := "(IIII)Z" } : Jvm.MethodName)) : Jvm.Cond) ∈ abTb := abTb_mem 989 (by decide +kernel) rfl
theorem tb_943 : ((Jvm.Cond.instanceMethod ({ cls := "ShadowCourtModel", name := "coversWith", desc := "(IIII)Z" } : Jvm.MethodName)) : Jvm.Cond) ∈ abTb := abTb_mem 991 (by decide +kernel) rfl
theorem tb_944 : ((Jvm.Cond.code ({ cls := "ShadowCourtModel", name := "coversWith", desc := "(IIII)Z" } : Jvm.MethodName) prog_14_method_60_code (7 : Nat) (Option.some Jvm.ClassFile.FieldType.boolean)) : Jvm.Cond) ∈ abTb := abTb_mem 992 (by decide +kernel) rfl
theorem tb_945 : ((Jvm.Cond.methodLink "ShadowCourtModel" (171 : Nat) ({ cls := "ShadowCourtModel", name := "lookFor", desc := "(I)I" } : Jvm.MethodName)) : Jvm.Cond) ∈ abTb := abTb_mem 993 (by decide +kernel) rfl
theorem tb_947 : ((Jvm.Cond.instanceMethod ({ cls := "ShadowCourtModel", name := "lookFor", desc := "(I)I" } : Jvm.MethodName)) : Jvm.Cond) ∈ abTb := abTb_mem 995 (by decide +kernel) rfl
theorem tb_948 : ((Jvm.Cond.code ({ cls := "ShadowCourtModel", name := "lookFor", desc := "(I)I" } : Jvm.MethodName) prog_14_method_63_code (7 : Nat) (Option.some Jvm.ClassFile.FieldType.int)) : Jvm.Cond) ∈ abTb := abTb_mem 996 (by decide +kernel) rfl
theorem tb_949 : ((Jvm.Cond.constant "ShadowCourtModel" (189 : Nat) (268435456 : Int32)) : Jvm.Cond) ∈ abTb := abTb_mem 997 (by decide +kernel) rfl
theorem tb_950 : ((Jvm.Cond.methodLink "ShadowCourtModel" (243 : Nat) ({ cls := "ShadowCourtModel", name := "worstBy", desc := "(IIII)I" } : Jvm.MethodName)) : Jvm.Cond) ∈ abTb := abTb_mem 998 (by decide +kernel) rfl
theorem tb_952 : ((Jvm.Cond.instanceMethod ({ cls := "ShadowCourtModel", name := "worstBy", desc := "(IIII)I" } : Jvm.MethodName)) : Jvm.Cond) ∈ abTb := abTb_mem 1000 (by decide +kernel) rfl
theorem tb_953 : ((Jvm.Cond.code ({ cls := "ShadowCourtModel", name := "worstBy", desc := "(IIII)I" } : Jvm.MethodName) prog_14_method_62_code (7 : Nat) (Option.some Jvm.ClassFile.FieldType.int)) : Jvm.Cond) ∈ abTb := abTb_mem 1001 (by decide +kernel) rfl
theorem tb_954 : ((Jvm.Cond.methodLink "ShadowCourtModel" (212 : Nat) ({ cls := "ShadowCourtModel", name := "size", desc := "(I)I" } : Jvm.MethodName)) : Jvm.Cond) ∈ abTb := abTb_mem 1002 (by decide +kernel) rfl
theorem tb_955 : ((Jvm.Cond.static ({ cls := "ShadowCourtModel", name := "size", desc := "(I)I" } : Jvm.MethodName)) : Jvm.Cond) ∈ abTb := abTb_mem 1003 (by decide +kernel) rfl
theorem tb_956 : ((Jvm.Cond.code ({ cls := "ShadowCourtModel", name := "size", desc := "(I)I" } : Jvm.MethodName) prog_14_method_5_code (3 : Nat) (Option.some Jvm.ClassFile.FieldType.int)) : Jvm.Cond) ∈ abTb := abTb_mem 1004 (by decide +kernel) rfl
theorem tb_969 : ((Jvm.Cond.methodLink "ShadowCourtModel" (177 : Nat) ({ cls := "ShadowCourtModel", name := "isTile", desc := "(I)Z" } : Jvm.MethodName)) : Jvm.Cond) ∈ abTb := abTb_mem 1017 (by decide +kernel) rfl
theorem tb_971 : ((Jvm.Cond.instanceMethod ({ cls := "ShadowCourtModel", name := "isTile", desc := "(I)Z" } : Jvm.MethodName)) : Jvm.Cond) ∈ abTb := abTb_mem 1019 (by decide +kernel) rfl
theorem tb_972 : ((Jvm.Cond.code ({ cls := "ShadowCourtModel", name := "isTile", desc := "(I)Z" } : Jvm.MethodName) prog_14_method_18_code (2 : Nat) (Option.some Jvm.ClassFile.FieldType.boolean)) : Jvm.Cond) ∈ abTb := abTb_mem 1020 (by decide +kernel) rfl
theorem tb_973 : ((Jvm.Cond.methodLink "ShadowCourtModel" (180 : Nat) ({ cls := "ShadowCourtModel", name := "tileNow", desc := "(II)I" } : Jvm.MethodName)) : Jvm.Cond) ∈ abTb := abTb_mem 1021 (by decide +kernel) rfl
theorem tb_975 : ((Jvm.Cond.instanceMethod ({ cls := "ShadowCourtModel", name := "tileNow", desc := "(II)I" } : Jvm.MethodName)) : Jvm.Cond) ∈ abTb := abTb_mem 1023 (by decide +kernel) rfl
theorem tb_976 : ((Jvm.Cond.code ({ cls := "ShadowCourtModel", name := "tileNow", desc := "(II)I" } : Jvm.MethodName) prog_14_method_32_code (6 : Nat) (Option.some Jvm.ClassFile.FieldType.int)) : Jvm.Cond) ∈ abTb := abTb_mem 1024 (by decide +kernel) rfl
theorem tb_981 : ((Jvm.Cond.methodLink "ShadowCourtModel" (183 : Nat) ({ cls := "ShadowCourtModel", name := "areTwo", desc := "(II)Z" } : Jvm.MethodName)) : Jvm.Cond) ∈ abTb := abTb_mem 1029 (by decide +kernel) rfl
theorem tb_983 : ((Jvm.Cond.instanceMethod ({ cls := "ShadowCourtModel", name := "areTwo", desc := "(II)Z" } : Jvm.MethodName)) : Jvm.Cond) ∈ abTb := abTb_mem 1031 (by decide +kernel) rfl
theorem tb_984 : ((Jvm.Cond.code ({ cls := "ShadowCourtModel", name := "areTwo", desc := "(II)Z" } : Jvm.MethodName) prog_14_method_17_code (3 : Nat) (Option.some Jvm.ClassFile.FieldType.boolean)) : Jvm.Cond) ∈ abTb := abTb_mem 1032 (by decide +kernel) rfl
theorem tb_985 : ((Jvm.Cond.methodLink "ShadowCourtModel" (186 : Nat) ({ cls := "ShadowCourtModel", name := "foundIn", desc := "(III)I" } : Jvm.MethodName)) : Jvm.Cond) ∈ abTb := abTb_mem 1033 (by decide +kernel) rfl
theorem tb_987 : ((Jvm.Cond.instanceMethod ({ cls := "ShadowCourtModel", name := "foundIn", desc := "(III)I" } : Jvm.MethodName)) : Jvm.Cond) ∈ abTb := abTb_mem 1035 (by decide +kernel) rfl
theorem tb_988 : ((Jvm.Cond.code ({ cls := "ShadowCourtModel", name := "foundIn", desc := "(III)I" } : Jvm.MethodName) prog_14_method_27_code (4 : Nat) (Option.some Jvm.ClassFile.FieldType.int)) : Jvm.Cond) ∈ abTb := abTb_mem 1036 (by decide +kernel) rfl
theorem tb_989 : ((Jvm.Cond.methodLink "ShadowCourtModel" (165 : Nat) ({ cls := "ShadowCourtModel", name := "foundBy", desc := "(II)I" } : Jvm.MethodName)) : Jvm.Cond) ∈ abTb := abTb_mem 1037 (by decide +kernel) rfl
theorem tb_991 : ((Jvm.Cond.instanceMethod ({ cls := "ShadowCourtModel", name := "foundBy", desc := "(II)I" } : Jvm.MethodName)) : Jvm.Cond) ∈ abTb := abTb_mem 1039 (by decide +kernel) rfl
theorem tb_992 : ((Jvm.Cond.code ({ cls := "ShadowCourtModel", name := "foundBy", desc := "(II)I" } : Jvm.MethodName) prog_14_method_26_code (3 : Nat) (Option.some Jvm.ClassFile.FieldType.int)) : Jvm.Cond) ∈ abTb := abTb_mem 1040 (by decide +kernel) rfl
theorem tb_1025 : ((Jvm.Cond.methodLink "ShadowCourtModel" (208 : Nat) ({ cls := "ShadowCourtModel", name := "gameNow", desc := "(IIII)I" } : Jvm.MethodName)) : Jvm.Cond) ∈ abTb := abTb_mem 1073 (by decide +kernel) rfl
theorem tb_1027 : ((Jvm.Cond.instanceMethod ({ cls := "ShadowCourtModel", name := "gameNow", desc := "(IIII)I" } : Jvm.MethodName)) : Jvm.Cond) ∈ abTb := abTb_mem 1075 (by decide +kernel) rfl
theorem tb_1028 : ((Jvm.Cond.code ({ cls := "ShadowCourtModel", name := "gameNow", desc := "(IIII)I" } : Jvm.MethodName) prog_14_method_47_code (9 : Nat) (Option.some Jvm.ClassFile.FieldType.int)) : Jvm.Cond) ∈ abTb := abTb_mem 1076 (by decide +kernel) rfl
theorem tb_1029 : ((Jvm.Cond.methodLink "ShadowCourtModel" (204 : Nat) ({ cls := "ShadowCourtModel", name := "layGame", desc := "(III)V" } : Jvm.MethodName)) : Jvm.Cond) ∈ abTb := abTb_mem 1077 (by decide +kernel) rfl
theorem tb_1031 : ((Jvm.Cond.instanceMethod ({ cls := "ShadowCourtModel", name := "layGame", desc := "(III)V" } : Jvm.MethodName)) : Jvm.Cond) ∈ abTb := abTb_mem 1079 (by decide +kernel) rfl
theorem tb_1032 : ((Jvm.Cond.code ({ cls := "ShadowCourtModel", name := "layGame", desc := "(III)V" } : Jvm.MethodName) prog_14_method_46_code (7 : Nat) (Option.none : Option Jvm.ClassFile.FieldType)) : Jvm.Cond) ∈ abTb := abTb_mem 1080 (by decide +kernel) rfl
theorem tb_1033 : ((Jvm.Cond.methodLink "ShadowCourtModel" (201 : Nat) ({ cls := "ShadowCourtModel", name := "bestFrom", desc := "(IIIII)I" } : Jvm.MethodName)) : Jvm.Cond) ∈ abTb := abTb_mem 1081 (by decide +kernel) rfl
theorem tb_1035 : ((Jvm.Cond.instanceMethod ({ cls := "ShadowCourtModel", name := "bestFrom", desc := "(IIIII)I" } : Jvm.MethodName)) : Jvm.Cond) ∈ abTb := abTb_mem 1083 (by decide +kernel) rfl
theorem tb_1036 : ((Jvm.Cond.code ({ cls := "ShadowCourtModel", name := "bestFrom", desc := "(IIIII)I" } : Jvm.MethodName) prog_14_method_45_code (9 : Nat) (Option.some Jvm.ClassFile.FieldType.int)) : Jvm.Cond) ∈ abTb := abTb_mem 1084 (by decide +kernel) rfl
theorem tb_1037 : ((Jvm.Cond.constant "ShadowCourtModel" (197 : Nat) (-268435456 : Int32)) : Jvm.Cond) ∈ abTb := abTb_mem 1085 (by decide +kernel) rfl
theorem tb_1038 : ((Jvm.Cond.methodLink "ShadowCourtModel" (190 : Nat) ({ cls := "ShadowCourtModel", name := "mayStep", desc := "(III)Z" } : Jvm.MethodName)) : Jvm.Cond) ∈ abTb := abTb_mem 1086 (by decide +kernel) rfl
theorem tb_1039 : ((Jvm.Cond.static ({ cls := "ShadowCourtModel", name := "mayStep", desc := "(III)Z" } : Jvm.MethodName)) : Jvm.Cond) ∈ abTb := abTb_mem 1087 (by decide +kernel) rfl
theorem tb_1040 : ((Jvm.Cond.code ({ cls := "ShadowCourtModel", name := "mayStep", desc := "(III)Z" } : Jvm.MethodName) prog_14_method_42_code (4 : Nat) (Option.some Jvm.ClassFile.FieldType.boolean)) : Jvm.Cond) ∈ abTb := abTb_mem 1088 (by decide +kernel) rfl
theorem tb_1041 : ((Jvm.Cond.methodLink "ShadowCourtModel" (198 : Nat) ({ cls := "ShadowCourtModel", name := "answered", desc := "(IIIII)I" } : Jvm.MethodName)) : Jvm.Cond) ∈ abTb := abTb_mem 1089 (by decide +kernel) rfl
theorem tb_1043 : ((Jvm.Cond.instanceMethod ({ cls := "ShadowCourtModel", name := "answered", desc := "(IIIII)I" } : Jvm.MethodName)) : Jvm.Cond) ∈ abTb := abTb_mem 1091 (by decide +kernel) rfl
theorem tb_1044 : ((Jvm.Cond.code ({ cls := "ShadowCourtModel", name := "answered", desc := "(IIIII)I" } : Jvm.MethodName) prog_14_method_44_code (9 : Nat) (Option.some Jvm.ClassFile.FieldType.int)) : Jvm.Cond) ∈ abTb := abTb_mem 1092 (by decide +kernel) rfl
theorem tb_1045 : ((Jvm.Cond.methodLink "ShadowCourtModel" (193 : Nat) ({ cls := "ShadowCourtModel", name := "behind", desc := "(IIIII)I" } : Jvm.MethodName)) : Jvm.Cond) ∈ abTb := abTb_mem 1093 (by decide +kernel) rfl
theorem tb_1047 : ((Jvm.Cond.instanceMethod ({ cls := "ShadowCourtModel", name := "behind", desc := "(IIIII)I" } : Jvm.MethodName)) : Jvm.Cond) ∈ abTb := abTb_mem 1095 (by decide +kernel) rfl
theorem tb_1048 : ((Jvm.Cond.code ({ cls := "ShadowCourtModel", name := "behind", desc := "(IIIII)I" } : Jvm.MethodName) prog_14_method_43_code (6 : Nat) (Option.some Jvm.ClassFile.FieldType.int)) : Jvm.Cond) ∈ abTb := abTb_mem 1096 (by decide +kernel) rfl
theorem tb_1053 : ((Jvm.Cond.methodLink "ShadowCourtModel" (230 : Nat) ({ cls := "ShadowCourtModel", name := "layDocket", desc := "()I" } : Jvm.MethodName)) : Jvm.Cond) ∈ abTb := abTb_mem 1101 (by decide +kernel) rfl
theorem tb_1055 : ((Jvm.Cond.instanceMethod ({ cls := "ShadowCourtModel", name := "layDocket", desc := "()I" } : Jvm.MethodName)) : Jvm.Cond) ∈ abTb := abTb_mem 1103 (by decide +kernel) rfl
theorem tb_1056 : ((Jvm.Cond.code ({ cls := "ShadowCourtModel", name := "layDocket", desc := "()I" } : Jvm.MethodName) prog_14_method_54_code (5 : Nat) (Option.some Jvm.ClassFile.FieldType.int)) : Jvm.Cond) ∈ abTb := abTb_mem 1104 (by decide +kernel) rfl
theorem tb_1057 : ((Jvm.Cond.methodLink "ShadowCourtModel" (224 : Nat) ({ cls := "ShadowCourtModel", name := "layGood", desc := "()V" } : Jvm.MethodName)) : Jvm.Cond) ∈ abTb := abTb_mem 1105 (by decide +kernel) rfl
theorem tb_1059 : ((Jvm.Cond.instanceMethod ({ cls := "ShadowCourtModel", name := "layGood", desc := "()V" } : Jvm.MethodName)) : Jvm.Cond) ∈ abTb := abTb_mem 1107 (by decide +kernel) rfl
theorem tb_1060 : ((Jvm.Cond.code ({ cls := "ShadowCourtModel", name := "layGood", desc := "()V" } : Jvm.MethodName) prog_14_method_49_code (3 : Nat) (Option.none : Option Jvm.ClassFile.FieldType)) : Jvm.Cond) ∈ abTb := abTb_mem 1108 (by decide +kernel) rfl
theorem tb_1061 : ((Jvm.Cond.methodLink "ShadowCourtModel" (221 : Nat) ({ cls := "ShadowCourtModel", name := "restFrom", desc := "(II)I" } : Jvm.MethodName)) : Jvm.Cond) ∈ abTb := abTb_mem 1109 (by decide +kernel) rfl
theorem tb_1063 : ((Jvm.Cond.instanceMethod ({ cls := "ShadowCourtModel", name := "restFrom", desc := "(II)I" } : Jvm.MethodName)) : Jvm.Cond) ∈ abTb := abTb_mem 1111 (by decide +kernel) rfl
theorem tb_1064 : ((Jvm.Cond.code ({ cls := "ShadowCourtModel", name := "restFrom", desc := "(II)I" } : Jvm.MethodName) prog_14_method_52_code (6 : Nat) (Option.some Jvm.ClassFile.FieldType.int)) : Jvm.Cond) ∈ abTb := abTb_mem 1112 (by decide +kernel) rfl
theorem tb_1065 : ((Jvm.Cond.methodLink "ShadowCourtModel" (218 : Nat) ({ cls := "ShadowCourtModel", name := "canBe", desc := "(II)Z" } : Jvm.MethodName)) : Jvm.Cond) ∈ abTb := abTb_mem 1113 (by decide +kernel) rfl
theorem tb_1067 : ((Jvm.Cond.instanceMethod ({ cls := "ShadowCourtModel", name := "canBe", desc := "(II)Z" } : Jvm.MethodName)) : Jvm.Cond) ∈ abTb := abTb_mem 1115 (by decide +kernel) rfl
theorem tb_1068 : ((Jvm.Cond.code ({ cls := "ShadowCourtModel", name := "canBe", desc := "(II)Z" } : Jvm.MethodName) prog_14_method_51_code (5 : Nat) (Option.some Jvm.ClassFile.FieldType.boolean)) : Jvm.Cond) ∈ abTb := abTb_mem 1116 (by decide +kernel) rfl
theorem tb_1069 : ((Jvm.Cond.methodLink "ShadowCourtModel" (215 : Nat) ({ cls := "ShadowCourtModel", name := "hoursFor", desc := "(II)I" } : Jvm.MethodName)) : Jvm.Cond) ∈ abTb := abTb_mem 1117 (by decide +kernel) rfl
theorem tb_1071 : ((Jvm.Cond.instanceMethod ({ cls := "ShadowCourtModel", name := "hoursFor", desc := "(II)I" } : Jvm.MethodName)) : Jvm.Cond) ∈ abTb := abTb_mem 1119 (by decide +kernel) rfl
theorem tb_1072 : ((Jvm.Cond.code ({ cls := "ShadowCourtModel", name := "hoursFor", desc := "(II)I" } : Jvm.MethodName) prog_14_method_50_code (5 : Nat) (Option.some Jvm.ClassFile.FieldType.int)) : Jvm.Cond) ∈ abTb := abTb_mem 1120 (by decide +kernel) rfl
theorem tb_1073 : ((Jvm.Cond.methodLink "ShadowCourtModel" (227 : Nat) ({ cls := "ShadowCourtModel", name := "hourFor", desc := "(III)I" } : Jvm.MethodName)) : Jvm.Cond) ∈ abTb := abTb_mem 1121 (by decide +kernel) rfl
theorem tb_1075 : ((Jvm.Cond.instanceMethod ({ cls := "ShadowCourtModel", name := "hourFor", desc := "(III)I" } : Jvm.MethodName)) : Jvm.Cond) ∈ abTb := abTb_mem 1123 (by decide +kernel) rfl
theorem tb_1076 : ((Jvm.Cond.code ({ cls := "ShadowCourtModel", name := "hourFor", desc := "(III)I" } : Jvm.MethodName) prog_14_method_53_code (5 : Nat) (Option.some Jvm.ClassFile.FieldType.int)) : Jvm.Cond) ∈ abTb := abTb_mem 1124 (by decide +kernel) rfl
theorem tb_1081 : ((Jvm.Cond.methodLink "ShadowCourtModel" (236 : Nat) ({ cls := "ShadowCourtModel", name := "oddsNow", desc := "(IIIII)I" } : Jvm.MethodName)) : Jvm.Cond) ∈ abTb := abTb_mem 1129 (by decide +kernel) rfl
theorem tb_1083 : ((Jvm.Cond.instanceMethod ({ cls := "ShadowCourtModel", name := "oddsNow", desc := "(IIIII)I" } : Jvm.MethodName)) : Jvm.Cond) ∈ abTb := abTb_mem 1131 (by decide +kernel) rfl
theorem tb_1084 : ((Jvm.Cond.code ({ cls := "ShadowCourtModel", name := "oddsNow", desc := "(IIIII)I" } : Jvm.MethodName) prog_14_method_56_code (11 : Nat) (Option.some Jvm.ClassFile.FieldType.int)) : Jvm.Cond) ∈ abTb := abTb_mem 1132 (by decide +kernel) rfl
theorem tb_1085 : ((Jvm.Cond.methodLink "ShadowCourtModel" (233 : Nat) ({ cls := "ShadowCourtModel", name := "divisor", desc := "(II)I" } : Jvm.MethodName)) : Jvm.Cond) ∈ abTb := abTb_mem 1133 (by decide +kernel) rfl
theorem tb_1086 : ((Jvm.Cond.static ({ cls := "ShadowCourtModel", name := "divisor", desc := "(II)I" } : Jvm.MethodName)) : Jvm.Cond) ∈ abTb := abTb_mem 1134 (by decide +kernel) rfl
theorem tb_1087 : ((Jvm.Cond.code ({ cls := "ShadowCourtModel", name := "divisor", desc := "(II)I" } : Jvm.MethodName) prog_14_method_6_code (5 : Nat) (Option.some Jvm.ClassFile.FieldType.int)) : Jvm.Cond) ∈ abTb := abTb_mem 1135 (by decide +kernel) rfl
theorem tb_1100 : ((Jvm.Cond.methodLink "ShadowCourtModel" (261 : Nat) ({ cls := "ShadowCourtModel", name := "termsNow", desc := "(III)I" } : Jvm.MethodName)) : Jvm.Cond) ∈ abTb := abTb_mem 1148 (by decide +kernel) rfl
theorem tb_1102 : ((Jvm.Cond.instanceMethod ({ cls := "ShadowCourtModel", name := "termsNow", desc := "(III)I" } : Jvm.MethodName)) : Jvm.Cond) ∈ abTb := abTb_mem 1150 (by decide +kernel) rfl
theorem tb_1103 : ((Jvm.Cond.code ({ cls := "ShadowCourtModel", name := "termsNow", desc := "(III)I" } : Jvm.MethodName) prog_14_method_65_code (10 : Nat) (Option.some Jvm.ClassFile.FieldType.int)) : Jvm.Cond) ∈ abTb := abTb_mem 1151 (by decide +kernel) rfl
theorem tb_1104 : ((Jvm.Cond.methodLink "ShadowCourtModel" (258 : Nat) ({ cls := "ShadowCourtModel", name := "draw", desc := "(I)I" } : Jvm.MethodName)) : Jvm.Cond) ∈ abTb := abTb_mem 1152 (by decide +kernel) rfl
theorem tb_1106 : ((Jvm.Cond.instanceMethod ({ cls := "ShadowCourtModel", name := "draw", desc := "(I)I" } : Jvm.MethodName)) : Jvm.Cond) ∈ abTb := abTb_mem 1154 (by decide +kernel) rfl
theorem tb_1107 : ((Jvm.Cond.code ({ cls := "ShadowCourtModel", name := "draw", desc := "(I)I" } : Jvm.MethodName) prog_14_method_64_code (2 : Nat) (Option.some Jvm.ClassFile.FieldType.int)) : Jvm.Cond) ∈ abTb := abTb_mem 1155 (by decide +kernel) rfl
theorem tb_1108 : ((Jvm.Cond.constantLong "ShadowCourtModel" (246 : Nat) (1103515245 : Int64)) : Jvm.Cond) ∈ abTb := abTb_mem 1156 (by decide +kernel) rfl
theorem tb_1109 : ((Jvm.Cond.constantLong "ShadowCourtModel" (252 : Nat) (12345 : Int64)) : Jvm.Cond) ∈ abTb := abTb_mem 1157 (by decide +kernel) rfl
theorem tb_1110 : ((Jvm.Cond.constantLong "ShadowCourtModel" (254 : Nat) (2147483647 : Int64)) : Jvm.Cond) ∈ abTb := abTb_mem 1158 (by decide +kernel) rfl
theorem tb_1111 : ((Jvm.Cond.constantLong "ShadowCourtModel" (256 : Nat) (65536 : Int64)) : Jvm.Cond) ∈ abTb := abTb_mem 1159 (by decide +kernel) rfl
theorem tb_1124 : ((Jvm.Cond.methodLink "ShadowCourtModel" (288 : Nat) ({ cls := "ShadowCourtModel", name := "howMany", desc := "(I)I" } : Jvm.MethodName)) : Jvm.Cond) ∈ abTb := abTb_mem 1172 (by decide +kernel) rfl
theorem tb_1126 : ((Jvm.Cond.instanceMethod ({ cls := "ShadowCourtModel", name := "howMany", desc := "(I)I" } : Jvm.MethodName)) : Jvm.Cond) ∈ abTb := abTb_mem 1174 (by decide +kernel) rfl
theorem tb_1127 : ((Jvm.Cond.code ({ cls := "ShadowCourtModel", name := "howMany", desc := "(I)I" } : Jvm.MethodName) prog_14_method_71_code (2 : Nat) (Option.some Jvm.ClassFile.FieldType.int)) : Jvm.Cond) ∈ abTb := abTb_mem 1175 (by decide +kernel) rfl
theorem tb_1128 : ((Jvm.Cond.methodLink "ShadowCourtModel" (282 : Nat) ({ cls := "ShadowCourtModel", name := "coveredBy", desc := "(I)I" } : Jvm.MethodName)) : Jvm.Cond) ∈ abTb := abTb_mem 1176 (by decide +kernel) rfl
theorem tb_1130 : ((Jvm.Cond.instanceMethod ({ cls := "ShadowCourtModel", name := "coveredBy", desc := "(I)I" } : Jvm.MethodName)) : Jvm.Cond) ∈ abTb := abTb_mem 1178 (by decide +kernel) rfl
theorem tb_1131 : ((Jvm.Cond.code ({ cls := "ShadowCourtModel", name := "coveredBy", desc := "(I)I" } : Jvm.MethodName) prog_14_method_69_code (4 : Nat) (Option.some Jvm.ClassFile.FieldType.int)) : Jvm.Cond) ∈ abTb := abTb_mem 1179 (by decide +kernel) rfl
theorem tb_1132 : ((Jvm.Cond.methodLink "ShadowCourtModel" (285 : Nat) ({ cls := "ShadowCourtModel", name := "goodCases", desc := "()I" } : Jvm.MethodName)) : Jvm.Cond) ∈ abTb := abTb_mem 1180 (by decide +kernel) rfl
theorem tb_1134 : ((Jvm.Cond.instanceMethod ({ cls := "ShadowCourtModel", name := "goodCases", desc := "()I" } : Jvm.MethodName)) : Jvm.Cond) ∈ abTb := abTb_mem 1182 (by decide +kernel) rfl
theorem tb_1135 : ((Jvm.Cond.code ({ cls := "ShadowCourtModel", name := "goodCases", desc := "()I" } : Jvm.MethodName) prog_14_method_70_code (3 : Nat) (Option.some Jvm.ClassFile.FieldType.int)) : Jvm.Cond) ∈ abTb := abTb_mem 1183 (by decide +kernel) rfl
theorem tb_1140 : ((Jvm.Cond.constantLong "ShadowCourtModel" (300 : Nat) (1217 : Int64)) : Jvm.Cond) ∈ abTb := abTb_mem 1188 (by decide +kernel) rfl
theorem tb_1141 : ((Jvm.Cond.methodLink "ShadowCourtModel" (296 : Nat) ({ cls := "ShadowCourtModel", name := "mix", desc := "(J)V" } : Jvm.MethodName)) : Jvm.Cond) ∈ abTb := abTb_mem 1189 (by decide +kernel) rfl
theorem tb_1143 : ((Jvm.Cond.instanceMethod ({ cls := "ShadowCourtModel", name := "mix", desc := "(J)V" } : Jvm.MethodName)) : Jvm.Cond) ∈ abTb := abTb_mem 1191 (by decide +kernel) rfl
theorem tb_1144 : ((Jvm.Cond.code ({ cls := "ShadowCourtModel", name := "mix", desc := "(J)V" } : Jvm.MethodName) prog_14_method_73_code (3 : Nat) (Option.none : Option Jvm.ClassFile.FieldType)) : Jvm.Cond) ∈ abTb := abTb_mem 1192 (by decide +kernel) rfl
theorem tb_1145 : ((Jvm.Cond.constantLong "ShadowCourtModel" (291 : Nat) (31 : Int64)) : Jvm.Cond) ∈ abTb := abTb_mem 1193 (by decide +kernel) rfl
theorem tb_1146 : ((Jvm.Cond.methodLink "ShadowCourtModel" (302 : Nat) ({ cls := "ShadowCourtModel", name := "mixCourt", desc := "()V" } : Jvm.MethodName)) : Jvm.Cond) ∈ abTb := abTb_mem 1194 (by decide +kernel) rfl
theorem tb_1148 : ((Jvm.Cond.instanceMethod ({ cls := "ShadowCourtModel", name := "mixCourt", desc := "()V" } : Jvm.MethodName)) : Jvm.Cond) ∈ abTb := abTb_mem 1196 (by decide +kernel) rfl
theorem tb_1149 : ((Jvm.Cond.code ({ cls := "ShadowCourtModel", name := "mixCourt", desc := "()V" } : Jvm.MethodName) prog_14_method_74_code (3 : Nat) (Option.none : Option Jvm.ClassFile.FieldType)) : Jvm.Cond) ∈ abTb := abTb_mem 1197 (by decide +kernel) rfl
theorem tb_1150 : ((Jvm.Cond.sameMethod "ShadowCourt$Kind" "ShadowCourt$Kind" "length" "(II)I") : Jvm.Cond) ∈ abTb := abTb_mem 1198 (by decide +kernel) rfl
theorem tb_1151 : ((Jvm.Cond.selects "ShadowCourt$Child" ({ cls := "ShadowCourt$Kind", name := "length", desc := "(II)I" } : Jvm.MethodName) ({ cls := "ShadowCourt$Kind", name := "length", desc := "(II)I" } : Jvm.MethodName)) : Jvm.Cond) ∈ abTb := abTb_mem 1199 (by decide +kernel) rfl
theorem tb_1152 : ((Jvm.Cond.selects "ShadowCourt$Hat" ({ cls := "ShadowCourt$Kind", name := "length", desc := "(II)I" } : Jvm.MethodName) ({ cls := "ShadowCourt$Kind", name := "length", desc := "(II)I" } : Jvm.MethodName)) : Jvm.Cond) ∈ abTb := abTb_mem 1200 (by decide +kernel) rfl
theorem tb_1153 : ((Jvm.Cond.selects "ShadowCourt$Kind" ({ cls := "ShadowCourt$Kind", name := "length", desc := "(II)I" } : Jvm.MethodName) ({ cls := "ShadowCourt$Kind", name := "length", desc := "(II)I" } : Jvm.MethodName)) : Jvm.Cond) ∈ abTb := abTb_mem 1201 (by decide +kernel) rfl
theorem tb_1154 : ((Jvm.Cond.selects "ShadowCourt$Plume" ({ cls := "ShadowCourt$Kind", name := "length", desc := "(II)I" } : Jvm.MethodName) ({ cls := "ShadowCourt$Kind", name := "length", desc := "(II)I" } : Jvm.MethodName)) : Jvm.Cond) ∈ abTb := abTb_mem 1202 (by decide +kernel) rfl
theorem tb_1155 : ((Jvm.Cond.selects "ShadowCourt$Thin" ({ cls := "ShadowCourt$Kind", name := "length", desc := "(II)I" } : Jvm.MethodName) ({ cls := "ShadowCourt$Kind", name := "length", desc := "(II)I" } : Jvm.MethodName)) : Jvm.Cond) ∈ abTb := abTb_mem 1203 (by decide +kernel) rfl
theorem tb_1161 : ((Jvm.Cond.fieldLink "java/lang/String" (15 : Nat) "java/lang/String" "coder" "B") : Jvm.Cond) ∈ abTb := abTb_mem 1209 (by decide +kernel) rfl
theorem tb_1162 : ((Jvm.Cond.fieldLink "java/lang/String" (9 : Nat) "java/lang/String" "value" "[B") : Jvm.Cond) ∈ abTb := abTb_mem 1210 (by decide +kernel) rfl
theorem tbp_0 : Cond.selects "ShadowCourt$Page" ⟨"ShadowCourt$Page", "fits", "(I)Z"⟩ ⟨"ShadowCourt$Page", "fits", "(I)Z"⟩ ∈ abTb := abTb_mem 0 (by decide +kernel) rfl
theorem tbp_1 : Cond.selects "ShadowCourt$Sight" ⟨"ShadowCourt$Sight", "isAsSeen", "(LShadowCourt$Court;II)Z"⟩ ⟨"ShadowCourt$Sight", "isAsSeen", "(LShadowCourt$Court;II)Z"⟩ ∈ abTb := abTb_mem 1 (by decide +kernel) rfl
theorem tbp_2 : Cond.selects "ShadowCourt$Sight" ⟨"ShadowCourt$Sight", "leftAtWorst", "(II)I"⟩ ⟨"ShadowCourt$Sight", "leftAtWorst", "(II)I"⟩ ∈ abTb := abTb_mem 2 (by decide +kernel) rfl
theorem tbp_3 : Cond.selects "ShadowCourt$Game" ⟨"ShadowCourt$Game", "weigh", "(LShadowCourt$Court;III)V"⟩ ⟨"ShadowCourt$Game", "weigh", "(LShadowCourt$Court;III)V"⟩ ∈ abTb := abTb_mem 3 (by decide +kernel) rfl
theorem tbp_4 : Cond.selects "ShadowCourt$Game" ⟨"ShadowCourt$Game", "goBackAnHour", "()V"⟩ ⟨"ShadowCourt$Game", "goBackAnHour", "()V"⟩ ∈ abTb := abTb_mem 4 (by decide +kernel) rfl
theorem tbp_5 : Cond.selects "ShadowCourt$Game" ⟨"ShadowCourt$Game", "bestStep", "(II)I"⟩ ⟨"ShadowCourt$Game", "bestStep", "(II)I"⟩ ∈ abTb := abTb_mem 5 (by decide +kernel) rfl
theorem tbp_6 : Cond.selects "ShadowCourt$Game" ⟨"ShadowCourt$Game", "afterAStood", "(II)I"⟩ ⟨"ShadowCourt$Game", "afterAStood", "(II)I"⟩ ∈ abTb := abTb_mem 6 (by decide +kernel) rfl
theorem tbp_7 : Cond.selects "ShadowCourt$Docket" ⟨"ShadowCourt$Docket", "mostFrom", "(II)I"⟩ ⟨"ShadowCourt$Docket", "mostFrom", "(II)I"⟩ ∈ abTb := abTb_mem 7 (by decide +kernel) rfl
theorem tbp_8 : Cond.selects "ShadowCourt$Docket" ⟨"ShadowCourt$Docket", "firstHour", "(III)I"⟩ ⟨"ShadowCourt$Docket", "firstHour", "(III)I"⟩ ∈ abTb := abTb_mem 8 (by decide +kernel) rfl
theorem tbp_9 : Cond.selects "ShadowCourt$Terms" ⟨"ShadowCourt$Terms", "draw", "(I)I"⟩ ⟨"ShadowCourt$Terms", "draw", "(I)I"⟩ ∈ abTb := abTb_mem 9 (by decide +kernel) rfl
theorem tbp_10 : Cond.selects "ShadowCourtModel" ⟨"ShadowCourtModel", "read", "()I"⟩ ⟨"ShadowCourtModel", "read", "()I"⟩ ∈ abTb := abTb_mem 10 (by decide +kernel) rfl
theorem tbp_11 : Cond.selects "ShadowCourtModel" ⟨"ShadowCourtModel", "isFigure", "(II)Z"⟩ ⟨"ShadowCourtModel", "isFigure", "(II)Z"⟩ ∈ abTb := abTb_mem 11 (by decide +kernel) rfl
theorem tbp_12 : Cond.selects "ShadowCourtModel" ⟨"ShadowCourtModel", "at", "(I)I"⟩ ⟨"ShadowCourtModel", "at", "(I)I"⟩ ∈ abTb := abTb_mem 12 (by decide +kernel) rfl
theorem tbp_13 : Cond.selects "ShadowCourtModel" ⟨"ShadowCourtModel", "readParty", "(I)I"⟩ ⟨"ShadowCourtModel", "readParty", "(I)I"⟩ ∈ abTb := abTb_mem 13 (by decide +kernel) rfl
theorem tbp_14 : Cond.selects "ShadowCourtModel" ⟨"ShadowCourtModel", "isParty", "(I)Z"⟩ ⟨"ShadowCourtModel", "isParty", "(I)Z"⟩ ∈ abTb := abTb_mem 14 (by decide +kernel) rfl
theorem tbp_15 : Cond.selects "ShadowCourtModel" ⟨"ShadowCourtModel", "partyNow", "(II)I"⟩ ⟨"ShadowCourtModel", "partyNow", "(II)I"⟩ ∈ abTb := abTb_mem 15 (by decide +kernel) rfl
theorem tbp_16 : Cond.selects "ShadowCourtModel" ⟨"ShadowCourtModel", "coversIn", "(II)I"⟩ ⟨"ShadowCourtModel", "coversIn", "(II)I"⟩ ∈ abTb := abTb_mem 16 (by decide +kernel) rfl
theorem tbp_17 : Cond.selects "ShadowCourtModel" ⟨"ShadowCourtModel", "coversAt", "(III)I"⟩ ⟨"ShadowCourtModel", "coversAt", "(III)I"⟩ ∈ abTb := abTb_mem 17 (by decide +kernel) rfl
theorem tbp_18 : Cond.selects "ShadowCourtModel" ⟨"ShadowCourtModel", "longBy", "(II)I"⟩ ⟨"ShadowCourtModel", "longBy", "(II)I"⟩ ∈ abTb := abTb_mem 18 (by decide +kernel) rfl
theorem tbp_19 : Cond.selects "ShadowCourtModel" ⟨"ShadowCourtModel", "worthIn", "(I)I"⟩ ⟨"ShadowCourtModel", "worthIn", "(I)I"⟩ ∈ abTb := abTb_mem 19 (by decide +kernel) rfl
theorem tbp_20 : Cond.selects "ShadowCourtModel" ⟨"ShadowCourtModel", "heightsOf", "(I)I"⟩ ⟨"ShadowCourtModel", "heightsOf", "(I)I"⟩ ∈ abTb := abTb_mem 20 (by decide +kernel) rfl
theorem tbp_21 : Cond.selects "ShadowCourtModel" ⟨"ShadowCourtModel", "coversWith", "(IIII)Z"⟩ ⟨"ShadowCourtModel", "coversWith", "(IIII)Z"⟩ ∈ abTb := abTb_mem 21 (by decide +kernel) rfl
theorem tbp_22 : Cond.selects "ShadowCourtModel" ⟨"ShadowCourtModel", "lookFor", "(I)I"⟩ ⟨"ShadowCourtModel", "lookFor", "(I)I"⟩ ∈ abTb := abTb_mem 22 (by decide +kernel) rfl
theorem tbp_23 : Cond.selects "ShadowCourtModel" ⟨"ShadowCourtModel", "worstBy", "(IIII)I"⟩ ⟨"ShadowCourtModel", "worstBy", "(IIII)I"⟩ ∈ abTb := abTb_mem 23 (by decide +kernel) rfl
theorem tbp_24 : Cond.selects "ShadowCourtModel" ⟨"ShadowCourtModel", "isTile", "(I)Z"⟩ ⟨"ShadowCourtModel", "isTile", "(I)Z"⟩ ∈ abTb := abTb_mem 24 (by decide +kernel) rfl
theorem tbp_25 : Cond.selects "ShadowCourtModel" ⟨"ShadowCourtModel", "tileNow", "(II)I"⟩ ⟨"ShadowCourtModel", "tileNow", "(II)I"⟩ ∈ abTb := abTb_mem 25 (by decide +kernel) rfl
theorem tbp_26 : Cond.selects "ShadowCourtModel" ⟨"ShadowCourtModel", "areTwo", "(II)Z"⟩ ⟨"ShadowCourtModel", "areTwo", "(II)Z"⟩ ∈ abTb := abTb_mem 26 (by decide +kernel) rfl
theorem tbp_27 : Cond.selects "ShadowCourtModel" ⟨"ShadowCourtModel", "foundIn", "(III)I"⟩ ⟨"ShadowCourtModel", "foundIn", "(III)I"⟩ ∈ abTb := abTb_mem 27 (by decide +kernel) rfl
theorem tbp_28 : Cond.selects "ShadowCourtModel" ⟨"ShadowCourtModel", "foundBy", "(II)I"⟩ ⟨"ShadowCourtModel", "foundBy", "(II)I"⟩ ∈ abTb := abTb_mem 28 (by decide +kernel) rfl
theorem tbp_29 : Cond.selects "ShadowCourtModel" ⟨"ShadowCourtModel", "gameNow", "(IIII)I"⟩ ⟨"ShadowCourtModel", "gameNow", "(IIII)I"⟩ ∈ abTb := abTb_mem 29 (by decide +kernel) rfl
theorem tbp_30 : Cond.selects "ShadowCourtModel" ⟨"ShadowCourtModel", "layGame", "(III)V"⟩ ⟨"ShadowCourtModel", "layGame", "(III)V"⟩ ∈ abTb := abTb_mem 30 (by decide +kernel) rfl
theorem tbp_31 : Cond.selects "ShadowCourtModel" ⟨"ShadowCourtModel", "bestFrom", "(IIIII)I"⟩ ⟨"ShadowCourtModel", "bestFrom", "(IIIII)I"⟩ ∈ abTb := abTb_mem 31 (by decide +kernel) rfl
theorem tbp_32 : Cond.selects "ShadowCourtModel" ⟨"ShadowCourtModel", "answered", "(IIIII)I"⟩ ⟨"ShadowCourtModel", "answered", "(IIIII)I"⟩ ∈ abTb := abTb_mem 32 (by decide +kernel) rfl
theorem tbp_33 : Cond.selects "ShadowCourtModel" ⟨"ShadowCourtModel", "behind", "(IIIII)I"⟩ ⟨"ShadowCourtModel", "behind", "(IIIII)I"⟩ ∈ abTb := abTb_mem 33 (by decide +kernel) rfl
theorem tbp_34 : Cond.selects "ShadowCourtModel" ⟨"ShadowCourtModel", "layDocket", "()I"⟩ ⟨"ShadowCourtModel", "layDocket", "()I"⟩ ∈ abTb := abTb_mem 34 (by decide +kernel) rfl
theorem tbp_35 : Cond.selects "ShadowCourtModel" ⟨"ShadowCourtModel", "layGood", "()V"⟩ ⟨"ShadowCourtModel", "layGood", "()V"⟩ ∈ abTb := abTb_mem 35 (by decide +kernel) rfl
theorem tbp_36 : Cond.selects "ShadowCourtModel" ⟨"ShadowCourtModel", "restFrom", "(II)I"⟩ ⟨"ShadowCourtModel", "restFrom", "(II)I"⟩ ∈ abTb := abTb_mem 36 (by decide +kernel) rfl
theorem tbp_37 : Cond.selects "ShadowCourtModel" ⟨"ShadowCourtModel", "canBe", "(II)Z"⟩ ⟨"ShadowCourtModel", "canBe", "(II)Z"⟩ ∈ abTb := abTb_mem 37 (by decide +kernel) rfl
theorem tbp_38 : Cond.selects "ShadowCourtModel" ⟨"ShadowCourtModel", "hoursFor", "(II)I"⟩ ⟨"ShadowCourtModel", "hoursFor", "(II)I"⟩ ∈ abTb := abTb_mem 38 (by decide +kernel) rfl
theorem tbp_39 : Cond.selects "ShadowCourtModel" ⟨"ShadowCourtModel", "hourFor", "(III)I"⟩ ⟨"ShadowCourtModel", "hourFor", "(III)I"⟩ ∈ abTb := abTb_mem 39 (by decide +kernel) rfl
theorem tbp_40 : Cond.selects "ShadowCourtModel" ⟨"ShadowCourtModel", "oddsNow", "(IIIII)I"⟩ ⟨"ShadowCourtModel", "oddsNow", "(IIIII)I"⟩ ∈ abTb := abTb_mem 40 (by decide +kernel) rfl
theorem tbp_41 : Cond.selects "ShadowCourtModel" ⟨"ShadowCourtModel", "termsNow", "(III)I"⟩ ⟨"ShadowCourtModel", "termsNow", "(III)I"⟩ ∈ abTb := abTb_mem 41 (by decide +kernel) rfl
theorem tbp_42 : Cond.selects "ShadowCourtModel" ⟨"ShadowCourtModel", "draw", "(I)I"⟩ ⟨"ShadowCourtModel", "draw", "(I)I"⟩ ∈ abTb := abTb_mem 42 (by decide +kernel) rfl
theorem tbp_43 : Cond.selects "ShadowCourtModel" ⟨"ShadowCourtModel", "howMany", "(I)I"⟩ ⟨"ShadowCourtModel", "howMany", "(I)I"⟩ ∈ abTb := abTb_mem 43 (by decide +kernel) rfl
theorem tbp_44 : Cond.selects "ShadowCourtModel" ⟨"ShadowCourtModel", "coveredBy", "(I)I"⟩ ⟨"ShadowCourtModel", "coveredBy", "(I)I"⟩ ∈ abTb := abTb_mem 44 (by decide +kernel) rfl
theorem tbp_45 : Cond.selects "ShadowCourtModel" ⟨"ShadowCourtModel", "goodCases", "()I"⟩ ⟨"ShadowCourtModel", "goodCases", "()I"⟩ ∈ abTb := abTb_mem 45 (by decide +kernel) rfl
theorem tbp_46 : Cond.selects "ShadowCourtModel" ⟨"ShadowCourtModel", "mix", "(J)V"⟩ ⟨"ShadowCourtModel", "mix", "(J)V"⟩ ∈ abTb := abTb_mem 46 (by decide +kernel) rfl
theorem tbp_47 : Cond.selects "ShadowCourtModel" ⟨"ShadowCourtModel", "mixCourt", "()V"⟩ ⟨"ShadowCourtModel", "mixCourt", "()V"⟩ ∈ abTb := abTb_mem 47 (by decide +kernel) rfl
theorem inT_X0 : ∀ w ∈ wsX00, w ∈ abTb := abTb_all (by decide +kernel) (by decide +kernel)
theorem inT_X1 : ∀ w ∈ wsX10, w ∈ abTb := abTb_all (by decide +kernel) (by decide +kernel)
theorem inT_X2 : ∀ w ∈ wsX20, w ∈ abTb := abTb_all (by decide +kernel) (by decide +kernel)
theorem inT_X3 : ∀ w ∈ wsX30, w ∈ abTb := abTb_all (by decide +kernel) (by decide +kernel)
theorem inT_X4 : ∀ w ∈ wsX40, w ∈ abTb := abTb_all (by decide +kernel) (by decide +kernel)
theorem inT_X5 : ∀ w ∈ wsX50, w ∈ abTb := abTb_all (by decide +kernel) (by decide +kernel)
theorem inT_X6 : ∀ w ∈ wsX60, w ∈ abTb := abTb_all (by decide +kernel) (by decide +kernel)
theorem inT_X7 : ∀ w ∈ wsX70, w ∈ abTb := abTb_all (by decide +kernel) (by decide +kernel)
theorem inT_X8 : ∀ w ∈ wsX80, w ∈ abTb := abTb_all (by decide +kernel) (by decide +kernel)
theorem inT_X9 : ∀ w ∈ wsX90, w ∈ abTb := abTb_all (by decide +kernel) (by decide +kernel)
theorem inT_X10 : ∀ w ∈ wsX100, w ∈ abTb := abTb_all (by decide +kernel) (by decide +kernel)
theorem inT_X11 : ∀ w ∈ wsX110, w ∈ abTb := abTb_all (by decide +kernel) (by decide +kernel)
theorem inT_X12 : ∀ w ∈ wsX120, w ∈ abTb := abTb_all (by decide +kernel) (by decide +kernel)
theorem cs_J0_335 : abQw RJ0 335 yJ0_coder_7d493 cJ0_coder_7d493 1 (some .byte) 0 := ⟨rfl, tb_278, tb_279, tb_280, tb_9, tb_281, by decide +kernel, by decide +kernel, by decide +kernel⟩
theorem cs_J0_492 : abQw RJ0 492 yJ0_isLatin1_aae02 cJ0_isLatin1_aae02 1 (some .boolean) 0 := ⟨rfl, tb_268, tb_269, tb_270, tb_9, tb_271, by decide +kernel, by decide +kernel, by decide +kernel⟩
theorem cs_J0_505 : abQw RJ0 505 yJ0_length_8abf5 cJ0_length_8abf5 1 (some .int) 0 := ⟨rfl, tb_274, tb_275, tb_276, tb_9, tb_277, by decide +kernel, by decide +kernel, by decide +kernel⟩
theorem cs_J0_633 : abQw RJ0 633 yJ0_indexOf_7cf53 cJ0_indexOf_7cf53 3 (some .int) 2 := ⟨rfl, tb_264, tb_265, tb_266, tb_9, tb_267, by decide +kernel, by decide +kernel, by decide +kernel⟩
theorem cs_J0_637 : abSw RJ0 637 yJ1_indexOf_4cfef cJ1_indexOf_4cfef 4 (some .int) 4 := ⟨tb_282, tb_283, tb_10, tb_284, by decide +kernel, by decide +kernel, by decide +kernel⟩
theorem cs_J1_88 : abSw RJ1 88 yJ1_canEncode_9a6ad cJ1_canEncode_9a6ad 1 (some .boolean) 1 := ⟨tb_285, tb_286, tb_10, tb_287, by decide +kernel, by decide +kernel, by decide +kernel⟩
theorem cs_J1_95 : abSw RJ1 95 yJ1_indexOfChar_4cfef cJ1_indexOfChar_4cfef 6 (some .int) 4 := ⟨tb_294, tb_295, tb_10, tb_296, by decide +kernel, by decide +kernel, by decide +kernel⟩
theorem cs_X0_15 : abTw RX0 15 "ShadowCourt$Kind" ⟨"ShadowCourt$Child", "west", "(II)I"⟩ cX5_west 3 (some .int) 2 := ⟨tb_456, tb_457, tb_458, tb_15, tb_459, by decide +kernel, by decide +kernel, by decide +kernel⟩
theorem cs_X0_18 : abTw RX0 18 "ShadowCourt$Kind" ⟨"ShadowCourt$Child", "east", "(II)I"⟩ cX5_east 3 (some .int) 2 := ⟨tb_460, tb_461, tb_462, tb_15, tb_463, by decide +kernel, by decide +kernel, by decide +kernel⟩
theorem cs_X0_3 : abIw RX0 3 yX5_init cX5_init 3 none 2 := ⟨tb_407, tb_382, tb_15, tb_383, by decide +kernel, by decide +kernel, by decide +kernel⟩
theorem cs_X0_9_0 : abUw RX0 9 0 "ShadowCourt$Kind" ⟨"ShadowCourt$Child", "length", "(II)I"⟩ yX5_length cX5_length 4 (some .int) 2 := ⟨_, _, _, rfl, tb_450, tb_451, tb_453, tb_454, tb_15, tb_455, Or.inl rfl, by decide +kernel, by decide +kernel, by decide +kernel⟩
theorem cs_X10_15 : abNw RX10 15 yX11_isTile (.static yX11_isTile) cX11_isTile 1 (some .boolean) 1 := ⟨"ShadowCourt", by decide +kernel, tb_473, tb_1, tb_474, by decide +kernel, by decide +kernel, by decide +kernel⟩
theorem cs_X10_3 : abIw RX10 3 yX5_init cX5_init 3 none 2 := ⟨tb_398, tb_382, tb_15, tb_383, by decide +kernel, by decide +kernel, by decide +kernel⟩
theorem cs_X10_9_10 : abUw RX10 9 10 "ShadowCourt$Kind" ⟨"ShadowCourt$Thin", "length", "(II)I"⟩ yX5_length cX5_length 4 (some .int) 2 := ⟨_, _, _, rfl, tb_469, tb_470, tb_471, tb_454, tb_15, tb_455, Or.inl rfl, by decide +kernel, by decide +kernel, by decide +kernel⟩
theorem cs_X11_111 : abVw RX11 111 1 yX1_shade cX1_shade 3 (some .int) 2 := ⟨_, _, rfl, tb_438, tb_439, tb_440, tb_3, tb_441, by decide +kernel, by decide +kernel, by decide +kernel⟩
theorem cs_X11_115 : abVw RX11 115 1 yX1_worthOf cX1_worthOf 4 (some .int) 1 := ⟨_, _, rfl, tb_479, tb_480, tb_481, tb_3, tb_482, by decide +kernel, by decide +kernel, by decide +kernel⟩
theorem cs_X11_119 : abVw RX11 119 8 yX8_heights cX8_heights 5 (some .int) 2 := ⟨_, _, rfl, tb_483, tb_484, tb_485, tb_4, tb_486, by decide +kernel, by decide +kernel, by decide +kernel⟩
theorem cs_X11_123 : abVw RX11 123 8 yX8_look cX8_look 9 (some .int) 2 := ⟨_, _, rfl, tb_495, tb_496, tb_497, tb_4, tb_498, by decide +kernel, by decide +kernel, by decide +kernel⟩
theorem cs_X11_134 : abSw RX11 134 yX11_isHour cX11_isHour 1 (some .boolean) 1 := ⟨tb_523, tb_524, tb_1, tb_525, by decide +kernel, by decide +kernel, by decide +kernel⟩
theorem cs_X11_137 : abVw RX11 137 1 yX1_hasTile cX1_hasTile 2 (some .boolean) 1 := ⟨_, _, rfl, tb_530, tb_531, tb_532, tb_3, tb_533, by decide +kernel, by decide +kernel, by decide +kernel⟩
theorem cs_X11_143 : abVw RX11 143 1 yX1_standingOn cX1_standingOn 4 (some .int) 1 := ⟨_, _, rfl, tb_539, tb_540, tb_541, tb_3, tb_542, by decide +kernel, by decide +kernel, by decide +kernel⟩
theorem cs_X11_146 : abVw RX11 146 1 yX1_covering cX1_covering 4 (some .int) 1 := ⟨_, _, rfl, tb_543, tb_544, tb_545, tb_3, tb_546, by decide +kernel, by decide +kernel, by decide +kernel⟩
theorem cs_X11_149 : abVw RX11 149 1 yX1_hasTwo cX1_hasTwo 3 (some .boolean) 2 := ⟨_, _, rfl, tb_552, tb_553, tb_554, tb_3, tb_555, by decide +kernel, by decide +kernel, by decide +kernel⟩
theorem cs_X11_153 : abVw RX11 153 1 yX1_balance cX1_balance 4 (some .int) 3 := ⟨_, _, rfl, tb_556, tb_557, tb_558, tb_3, tb_559, by decide +kernel, by decide +kernel, by decide +kernel⟩
theorem cs_X11_157 : abVw RX11 157 1 yX1_isNone cX1_isNone 1 (some .boolean) 0 := ⟨_, _, rfl, tb_565, tb_535, tb_536, tb_3, tb_537, by decide +kernel, by decide +kernel, by decide +kernel⟩
theorem cs_X11_163 : abSw RX11 163 yX11_isTile cX11_isTile 1 (some .boolean) 1 := ⟨tb_570, tb_473, tb_1, tb_474, by decide +kernel, by decide +kernel, by decide +kernel⟩
theorem cs_X11_175 : abVw RX11 175 3 yX3_solve cX3_solve 6 none 4 := ⟨_, _, rfl, tb_595, tb_596, tb_597, tb_5, tb_598, by decide +kernel, by decide +kernel, by decide +kernel⟩
theorem cs_X11_18 : abNw RX11 18 yX1_init (.instanceMethod yX1_init) cX1_init 1 none 0 := ⟨"ShadowCourt", by decide +kernel, tb_50, tb_3, tb_51, by decide +kernel, by decide +kernel, by decide +kernel⟩
theorem cs_X11_185 : abVw RX11 185 2 yX2_set cX2_set 5 none 1 := ⟨_, _, rfl, tb_629, tb_630, tb_631, tb_6, tb_632, by decide +kernel, by decide +kernel, by decide +kernel⟩
theorem cs_X11_195 : abSw RX11 195 yX11_inLowestTerms cX11_inLowestTerms 6 (some .int) 3 := ⟨tb_652, tb_653, tb_1, tb_654, by decide +kernel, by decide +kernel, by decide +kernel⟩
theorem cs_X11_214 : abVw RX11 214 9 yX9_hold cX9_hold 9 none 3 := ⟨_, _, rfl, tb_667, tb_668, tb_669, tb_7, tb_670, by decide +kernel, by decide +kernel, by decide +kernel⟩
theorem cs_X11_228 : abVw RX11 228 1 yX1_keepAllOf cX1_keepAllOf 2 none 1 := ⟨_, _, rfl, tb_684, tb_685, tb_686, tb_3, tb_687, by decide +kernel, by decide +kernel, by decide +kernel⟩
theorem cs_X11_231 : abVw RX11 231 1 yX1_hoursInAll cX1_hoursInAll 1 (some .int) 0 := ⟨_, _, rfl, tb_692, tb_693, tb_694, tb_3, tb_695, by decide +kernel, by decide +kernel, by decide +kernel⟩
theorem cs_X11_234 : abVw RX11 234 1 yX1_tilesCoveredBy cX1_tilesCoveredBy 4 (some .int) 1 := ⟨_, _, rfl, tb_704, tb_705, tb_706, tb_3, tb_707, by decide +kernel, by decide +kernel, by decide +kernel⟩
theorem cs_X11_237 : abVw RX11 237 1 yX1_casesAsTheyShouldBe cX1_casesAsTheyShouldBe 3 (some .int) 0 := ⟨_, _, rfl, tb_710, tb_711, tb_712, tb_3, tb_713, by decide +kernel, by decide +kernel, by decide +kernel⟩
theorem cs_X11_244 : abVw RX11 244 11 yX11_party cX11_party 3 (some .int) 2 := ⟨_, _, rfl, tb_721, tb_431, tb_432, tb_1, tb_433, by decide +kernel, by decide +kernel, by decide +kernel⟩
theorem cs_X11_247 : abVw RX11 247 11 yX11_covers cX11_covers 3 (some .int) 2 := ⟨_, _, rfl, tb_722, tb_520, tb_521, tb_1, tb_522, by decide +kernel, by decide +kernel, by decide +kernel⟩
theorem cs_X11_250 : abVw RX11 250 11 yX11_tile cX11_tile 3 (some .int) 2 := ⟨_, _, rfl, tb_723, tb_527, tb_528, tb_1, tb_529, by decide +kernel, by decide +kernel, by decide +kernel⟩
theorem cs_X11_252 : abVw RX11 252 11 yX11_found cX11_found 4 (some .int) 3 := ⟨_, _, rfl, tb_724, tb_549, tb_550, tb_1, tb_551, by decide +kernel, by decide +kernel, by decide +kernel⟩
theorem cs_X11_255 : abVw RX11 255 11 yX11_game cX11_game 5 (some .int) 4 := ⟨_, _, rfl, tb_725, tb_592, tb_593, tb_1, tb_594, by decide +kernel, by decide +kernel, by decide +kernel⟩
theorem cs_X11_259 : abVw RX11 259 11 yX11_odds cX11_odds 11 (some .int) 5 := ⟨_, _, rfl, tb_726, tb_649, tb_650, tb_1, tb_651, by decide +kernel, by decide +kernel, by decide +kernel⟩
theorem cs_X11_263 : abVw RX11 263 11 yX11_docket cX11_docket 3 (some .int) 1 := ⟨_, _, rfl, tb_727, tb_626, tb_627, tb_1, tb_628, by decide +kernel, by decide +kernel, by decide +kernel⟩
theorem cs_X11_266 : abVw RX11 266 11 yX11_count cX11_count 2 (some .int) 1 := ⟨_, _, rfl, tb_728, tb_701, tb_702, tb_1, tb_703, by decide +kernel, by decide +kernel, by decide +kernel⟩
theorem cs_X11_28 : abNw RX11 28 yX8_init (.instanceMethod yX8_init) cX8_init 1 none 0 := ⟨"ShadowCourt", by decide +kernel, tb_133, tb_4, tb_134, by decide +kernel, by decide +kernel, by decide +kernel⟩
theorem cs_X11_35 : abNw RX11 35 yX3_init (.instanceMethod yX3_init) cX3_init 1 none 0 := ⟨"ShadowCourt", by decide +kernel, tb_143, tb_5, tb_144, by decide +kernel, by decide +kernel, by decide +kernel⟩
theorem cs_X11_42 : abNw RX11 42 yX2_init (.instanceMethod yX2_init) cX2_init 1 none 0 := ⟨"ShadowCourt", by decide +kernel, tb_170, tb_6, tb_171, by decide +kernel, by decide +kernel, by decide +kernel⟩
theorem cs_X11_49 : abNw RX11 49 yX9_init (.instanceMethod yX9_init) cX9_init 1 none 0 := ⟨"ShadowCourt", by decide +kernel, tb_191, tb_7, tb_192, by decide +kernel, by decide +kernel, by decide +kernel⟩
theorem cs_X11_54 : abSw RX11 54 yX11_within cX11_within 3 (some .boolean) 3 := ⟨tb_239, tb_240, tb_1, tb_241, by decide +kernel, by decide +kernel, by decide +kernel⟩
theorem cs_X11_66 : abVw RX11 66 6 yX6_firstWrong cX6_firstWrong 2 (some .int) 0 := ⟨_, _, rfl, tb_250, tb_251, tb_252, tb_2, tb_253, by decide +kernel, by decide +kernel, by decide +kernel⟩
theorem cs_X11_70 : abVw RX11 70 6 yX6_isCourt cX6_isCourt 1 (some .boolean) 0 := ⟨_, _, rfl, tb_351, tb_352, tb_353, tb_2, tb_354, by decide +kernel, by decide +kernel, by decide +kernel⟩
theorem cs_X11_74 : abVw RX11 74 1 yX1_read cX1_read 3 none 1 := ⟨_, _, rfl, tb_360, tb_361, tb_362, tb_3, tb_363, by decide +kernel, by decide +kernel, by decide +kernel⟩
theorem cs_X11_88 : abVw RX11 88 1 yX1_has cX1_has 2 (some .boolean) 1 := ⟨_, _, rfl, tb_434, tb_435, tb_436, tb_3, tb_437, by decide +kernel, by decide +kernel, by decide +kernel⟩
theorem cs_X11_9 : abNw RX11 9 yX6_init (.instanceMethod yX6_init) cX6_init 1 none 0 := ⟨"ShadowCourt", by decide +kernel, tb_33, tb_2, tb_34, by decide +kernel, by decide +kernel, by decide +kernel⟩
theorem cs_X12_109 : abVw RX12 109 12 yX12_readParty cX12_readParty 2 (some .int) 1 := ⟨_, _, rfl, tb_886, tb_888, tbp_13, tb_8, tb_889, by decide +kernel, by decide +kernel, by decide +kernel⟩
theorem cs_X12_112 : abVw RX12 112 12 yX12_read cX12_read 3 (some .int) 0 := ⟨_, _, rfl, tb_874, tb_876, tbp_10, tb_8, tb_877, by decide +kernel, by decide +kernel, by decide +kernel⟩
theorem cs_X12_134 : abVw RX12 134 12 yX12_isParty cX12_isParty 2 (some .boolean) 1 := ⟨_, _, rfl, tb_901, tb_903, tbp_14, tb_8, tb_904, by decide +kernel, by decide +kernel, by decide +kernel⟩
theorem cs_X12_138 : abVw RX12 138 12 yX12_longBy cX12_longBy 4 (some .int) 2 := ⟨_, _, rfl, tb_917, tb_919, tbp_18, tb_8, tb_920, by decide +kernel, by decide +kernel, by decide +kernel⟩
theorem cs_X12_142 : abSw RX12 142 yX12_lastOf cX12_lastOf 4 (some .int) 3 := ⟨tb_921, tb_922, tb_8, tb_923, by decide +kernel, by decide +kernel, by decide +kernel⟩
theorem cs_X12_146 : abSw RX12 146 yX12_west cX12_west 3 (some .int) 2 := ⟨tb_924, tb_925, tb_8, tb_926, by decide +kernel, by decide +kernel, by decide +kernel⟩
theorem cs_X12_149 : abSw RX12 149 yX12_east cX12_east 3 (some .int) 2 := ⟨tb_927, tb_928, tb_8, tb_929, by decide +kernel, by decide +kernel, by decide +kernel⟩
theorem cs_X12_152 : abVw RX12 152 12 yX12_coversAt cX12_coversAt 6 (some .int) 3 := ⟨_, _, rfl, tb_913, tb_915, tbp_17, tb_8, tb_916, by decide +kernel, by decide +kernel, by decide +kernel⟩
theorem cs_X12_156 : abSw RX12 156 yX12_isIn cX12_isIn 2 (some .boolean) 2 := ⟨tb_934, tb_935, tb_8, tb_936, by decide +kernel, by decide +kernel, by decide +kernel⟩
theorem cs_X12_159 : abVw RX12 159 12 yX12_worthIn cX12_worthIn 4 (some .int) 1 := ⟨_, _, rfl, tb_930, tb_932, tbp_19, tb_8, tb_933, by decide +kernel, by decide +kernel, by decide +kernel⟩
theorem cs_X12_162 : abVw RX12 162 12 yX12_coversIn cX12_coversIn 3 (some .int) 2 := ⟨_, _, rfl, tb_909, tb_911, tbp_16, tb_8, tb_912, by decide +kernel, by decide +kernel, by decide +kernel⟩
theorem cs_X12_165 : abVw RX12 165 12 yX12_foundBy cX12_foundBy 3 (some .int) 2 := ⟨_, _, rfl, tb_989, tb_991, tbp_28, tb_8, tb_992, by decide +kernel, by decide +kernel, by decide +kernel⟩
theorem cs_X12_168 : abVw RX12 168 12 yX12_heightsOf cX12_heightsOf 6 (some .int) 1 := ⟨_, _, rfl, tb_937, tb_939, tbp_20, tb_8, tb_940, by decide +kernel, by decide +kernel, by decide +kernel⟩
theorem cs_X12_171 : abVw RX12 171 12 yX12_lookFor cX12_lookFor 7 (some .int) 1 := ⟨_, _, rfl, tb_945, tb_947, tbp_22, tb_8, tb_948, by decide +kernel, by decide +kernel, by decide +kernel⟩
theorem cs_X12_174 : abVw RX12 174 12 yX12_partyNow cX12_partyNow 3 (some .int) 2 := ⟨_, _, rfl, tb_905, tb_907, tbp_15, tb_8, tb_908, by decide +kernel, by decide +kernel, by decide +kernel⟩
theorem cs_X12_177 : abVw RX12 177 12 yX12_isTile cX12_isTile 2 (some .boolean) 1 := ⟨_, _, rfl, tb_969, tb_971, tbp_24, tb_8, tb_972, by decide +kernel, by decide +kernel, by decide +kernel⟩
theorem cs_X12_180 : abVw RX12 180 12 yX12_tileNow cX12_tileNow 6 (some .int) 2 := ⟨_, _, rfl, tb_973, tb_975, tbp_25, tb_8, tb_976, by decide +kernel, by decide +kernel, by decide +kernel⟩
theorem cs_X12_183 : abVw RX12 183 12 yX12_areTwo cX12_areTwo 3 (some .boolean) 2 := ⟨_, _, rfl, tb_981, tb_983, tbp_26, tb_8, tb_984, by decide +kernel, by decide +kernel, by decide +kernel⟩
theorem cs_X12_186 : abVw RX12 186 12 yX12_foundIn cX12_foundIn 4 (some .int) 3 := ⟨_, _, rfl, tb_985, tb_987, tbp_27, tb_8, tb_988, by decide +kernel, by decide +kernel, by decide +kernel⟩
theorem cs_X12_190 : abSw RX12 190 yX12_mayStep cX12_mayStep 4 (some .boolean) 3 := ⟨tb_1038, tb_1039, tb_8, tb_1040, by decide +kernel, by decide +kernel, by decide +kernel⟩
theorem cs_X12_193 : abVw RX12 193 12 yX12_behind cX12_behind 6 (some .int) 5 := ⟨_, _, rfl, tb_1045, tb_1047, tbp_33, tb_8, tb_1048, by decide +kernel, by decide +kernel, by decide +kernel⟩
theorem cs_X12_198 : abVw RX12 198 12 yX12_answered cX12_answered 9 (some .int) 5 := ⟨_, _, rfl, tb_1041, tb_1043, tbp_32, tb_8, tb_1044, by decide +kernel, by decide +kernel, by decide +kernel⟩
theorem cs_X12_201 : abVw RX12 201 12 yX12_bestFrom cX12_bestFrom 9 (some .int) 5 := ⟨_, _, rfl, tb_1033, tb_1035, tbp_31, tb_8, tb_1036, by decide +kernel, by decide +kernel, by decide +kernel⟩
theorem cs_X12_204 : abVw RX12 204 12 yX12_layGame cX12_layGame 7 none 3 := ⟨_, _, rfl, tb_1029, tb_1031, tbp_30, tb_8, tb_1032, by decide +kernel, by decide +kernel, by decide +kernel⟩
theorem cs_X12_208 : abVw RX12 208 12 yX12_gameNow cX12_gameNow 9 (some .int) 4 := ⟨_, _, rfl, tb_1025, tb_1027, tbp_29, tb_8, tb_1028, by decide +kernel, by decide +kernel, by decide +kernel⟩
theorem cs_X12_212 : abSw RX12 212 yX12_size cX12_size 3 (some .int) 1 := ⟨tb_954, tb_955, tb_8, tb_956, by decide +kernel, by decide +kernel, by decide +kernel⟩
theorem cs_X12_215 : abVw RX12 215 12 yX12_hoursFor cX12_hoursFor 5 (some .int) 2 := ⟨_, _, rfl, tb_1069, tb_1071, tbp_38, tb_8, tb_1072, by decide +kernel, by decide +kernel, by decide +kernel⟩
theorem cs_X12_218 : abVw RX12 218 12 yX12_canBe cX12_canBe 5 (some .boolean) 2 := ⟨_, _, rfl, tb_1065, tb_1067, tbp_37, tb_8, tb_1068, by decide +kernel, by decide +kernel, by decide +kernel⟩
theorem cs_X12_221 : abVw RX12 221 12 yX12_restFrom cX12_restFrom 6 (some .int) 2 := ⟨_, _, rfl, tb_1061, tb_1063, tbp_36, tb_8, tb_1064, by decide +kernel, by decide +kernel, by decide +kernel⟩
theorem cs_X12_224 : abVw RX12 224 12 yX12_layGood cX12_layGood 3 none 0 := ⟨_, _, rfl, tb_1057, tb_1059, tbp_35, tb_8, tb_1060, by decide +kernel, by decide +kernel, by decide +kernel⟩
theorem cs_X12_227 : abVw RX12 227 12 yX12_hourFor cX12_hourFor 5 (some .int) 3 := ⟨_, _, rfl, tb_1073, tb_1075, tbp_39, tb_8, tb_1076, by decide +kernel, by decide +kernel, by decide +kernel⟩
theorem cs_X12_230 : abVw RX12 230 12 yX12_layDocket cX12_layDocket 5 (some .int) 0 := ⟨_, _, rfl, tb_1053, tb_1055, tbp_34, tb_8, tb_1056, by decide +kernel, by decide +kernel, by decide +kernel⟩
theorem cs_X12_233 : abSw RX12 233 yX12_divisor cX12_divisor 5 (some .int) 2 := ⟨tb_1085, tb_1086, tb_8, tb_1087, by decide +kernel, by decide +kernel, by decide +kernel⟩
theorem cs_X12_236 : abVw RX12 236 12 yX12_oddsNow cX12_oddsNow 11 (some .int) 5 := ⟨_, _, rfl, tb_1081, tb_1083, tbp_40, tb_8, tb_1084, by decide +kernel, by decide +kernel, by decide +kernel⟩
theorem cs_X12_239 : abVw RX12 239 12 yX12_coversWith cX12_coversWith 7 (some .boolean) 4 := ⟨_, _, rfl, tb_941, tb_943, tbp_21, tb_8, tb_944, by decide +kernel, by decide +kernel, by decide +kernel⟩
theorem cs_X12_243 : abVw RX12 243 12 yX12_worstBy cX12_worstBy 7 (some .int) 4 := ⟨_, _, rfl, tb_950, tb_952, tbp_23, tb_8, tb_953, by decide +kernel, by decide +kernel, by decide +kernel⟩
theorem cs_X12_258 : abVw RX12 258 12 yX12_draw cX12_draw 2 (some .int) 1 := ⟨_, _, rfl, tb_1104, tb_1106, tbp_42, tb_8, tb_1107, by decide +kernel, by decide +kernel, by decide +kernel⟩
theorem cs_X12_261 : abVw RX12 261 12 yX12_termsNow cX12_termsNow 10 (some .int) 3 := ⟨_, _, rfl, tb_1100, tb_1102, tbp_41, tb_8, tb_1103, by decide +kernel, by decide +kernel, by decide +kernel⟩
theorem cs_X12_282 : abVw RX12 282 12 yX12_coveredBy cX12_coveredBy 4 (some .int) 1 := ⟨_, _, rfl, tb_1128, tb_1130, tbp_44, tb_8, tb_1131, by decide +kernel, by decide +kernel, by decide +kernel⟩
theorem cs_X12_285 : abVw RX12 285 12 yX12_goodCases cX12_goodCases 3 (some .int) 0 := ⟨_, _, rfl, tb_1132, tb_1134, tbp_45, tb_8, tb_1135, by decide +kernel, by decide +kernel, by decide +kernel⟩
theorem cs_X12_288 : abVw RX12 288 12 yX12_howMany cX12_howMany 2 (some .int) 1 := ⟨_, _, rfl, tb_1124, tb_1126, tbp_43, tb_8, tb_1127, by decide +kernel, by decide +kernel, by decide +kernel⟩
theorem cs_X12_296 : abVw RX12 296 12 yX12_mix cX12_mix 3 none 1 := ⟨_, _, rfl, tb_1141, tb_1143, tbp_46, tb_8, tb_1144, by decide +kernel, by decide +kernel, by decide +kernel⟩
theorem cs_X12_302 : abVw RX12 302 12 yX12_mixCourt cX12_mixCourt 3 none 0 := ⟨_, _, rfl, tb_1146, tb_1148, tbp_47, tb_8, tb_1149, by decide +kernel, by decide +kernel, by decide +kernel⟩
theorem cs_X12_83 : abSw RX12 83 yX12_within cX12_within 3 (some .boolean) 3 := ⟨tb_863, tb_864, tb_8, tb_865, by decide +kernel, by decide +kernel, by decide +kernel⟩
theorem cs_X12_91 : abVw RX12 91 12 yX12_at cX12_at 2 (some .int) 1 := ⟨_, _, rfl, tb_882, tb_884, tbp_12, tb_8, tb_885, by decide +kernel, by decide +kernel, by decide +kernel⟩
theorem cs_X12_95 : abSw RX12 95 yX12_kindBy cX12_kindBy 1 (some .int) 1 := ⟨tb_890, tb_891, tb_8, tb_892, by decide +kernel, by decide +kernel, by decide +kernel⟩
theorem cs_X12_98 : abVw RX12 98 12 yX12_isFigure cX12_isFigure 3 (some .boolean) 2 := ⟨_, _, rfl, tb_878, tb_880, tbp_11, tb_8, tb_881, by decide +kernel, by decide +kernel, by decide +kernel⟩
theorem cs_X1_101 : abNw RX1 101 yX11_isTile (.static yX11_isTile) cX11_isTile 1 (some .boolean) 1 := ⟨"ShadowCourt", by decide +kernel, tb_473, tb_1, tb_474, by decide +kernel, by decide +kernel, by decide +kernel⟩
theorem cs_X1_104_0 : abUw RX1 104 0 "ShadowCourt$Kind" ⟨"ShadowCourt$Kind", "shade", "(III)I"⟩ yX0_shade cX0_shade 5 (some .int) 3 := ⟨_, _, _, rfl, tb_443, tb_446, tb_447, tb_448, tb_18, tb_449, Or.inr ⟨tb_444, _, _, _, tb_475⟩, by decide +kernel, by decide +kernel, by decide +kernel⟩
theorem cs_X1_104_10 : abUw RX1 104 10 "ShadowCourt$Kind" ⟨"ShadowCourt$Kind", "shade", "(III)I"⟩ yX10_shade cX10_shade 6 (some .int) 3 := ⟨_, _, _, rfl, tb_443, tb_446, tb_466, tb_467, tb_17, tb_468, Or.inr ⟨tb_444, _, _, _, tb_475⟩, by decide +kernel, by decide +kernel, by decide +kernel⟩
theorem cs_X1_104_4 : abUw RX1 104 4 "ShadowCourt$Kind" ⟨"ShadowCourt$Kind", "shade", "(III)I"⟩ yX5_shade cX5_shade 5 (some .int) 3 := ⟨_, _, _, rfl, tb_443, tb_446, tb_464, tb_444, tb_15, tb_475, Or.inl rfl, by decide +kernel, by decide +kernel, by decide +kernel⟩
theorem cs_X1_104_5 : abVw RX1 104 5 yX5_shade cX5_shade 5 (some .int) 3 := ⟨_, _, rfl, tb_443, tb_444, tb_445, tb_15, tb_475, by decide +kernel, by decide +kernel, by decide +kernel⟩
theorem cs_X1_104_7 : abUw RX1 104 7 "ShadowCourt$Kind" ⟨"ShadowCourt$Kind", "shade", "(III)I"⟩ yX5_shade cX5_shade 5 (some .int) 3 := ⟨_, _, _, rfl, tb_443, tb_446, tb_465, tb_444, tb_15, tb_475, Or.inl rfl, by decide +kernel, by decide +kernel, by decide +kernel⟩
theorem cs_X1_108 : abVw RX1 108 1 yX1_shade cX1_shade 3 (some .int) 2 := ⟨_, _, rfl, tb_547, tb_439, tb_440, tb_3, tb_441, by decide +kernel, by decide +kernel, by decide +kernel⟩
theorem cs_X1_110 : abVw RX1 110 1 yX1_worthOf cX1_worthOf 4 (some .int) 1 := ⟨_, _, rfl, tb_560, tb_480, tb_481, tb_3, tb_482, by decide +kernel, by decide +kernel, by decide +kernel⟩
theorem cs_X1_114 : abVw RX1 114 1 yX1_covering cX1_covering 4 (some .int) 1 := ⟨_, _, rfl, tb_708, tb_544, tb_545, tb_3, tb_546, by decide +kernel, by decide +kernel, by decide +kernel⟩
theorem cs_X1_117 : abSw RX1 117 yJ6_bitCount_0f7a4 cJ6_bitCount_0f7a4 1 (some .int) 1 := ⟨tb_709, tb_505, tb_20, tb_506, by decide +kernel, by decide +kernel, by decide +kernel⟩
theorem cs_X1_122 : abVw RX1 122 1 yX1_balance cX1_balance 4 (some .int) 3 := ⟨_, _, rfl, tb_714, tb_557, tb_558, tb_3, tb_559, by decide +kernel, by decide +kernel, by decide +kernel⟩
theorem cs_X1_51 : abVw RX1 51 6 yX6_parties cX6_parties 1 (some .int) 0 := ⟨_, _, rfl, tb_364, tb_365, tb_366, tb_2, tb_367, by decide +kernel, by decide +kernel, by decide +kernel⟩
theorem cs_X1_64 : abVw RX1 64 6 yX6_kindOf cX6_kindOf 2 (some (.object "ShadowCourt$Kind")) 1 := ⟨_, _, rfl, tb_369, tb_370, tb_371, tb_2, tb_372, by decide +kernel, by decide +kernel, by decide +kernel⟩
theorem cs_X1_68 : abVw RX1 68 6 yX6_digitOf cX6_digitOf 3 (some .int) 2 := ⟨_, _, rfl, tb_426, tb_427, tb_428, tb_2, tb_429, by decide +kernel, by decide +kernel, by decide +kernel⟩
theorem cs_X1_83 : abSw RX1 83 yX1_copy cX1_copy 2 none 2 := ⟨tb_688, tb_689, tb_3, tb_690, by decide +kernel, by decide +kernel, by decide +kernel⟩
theorem cs_X1_93 : abVw RX1 93 1 yX1_has cX1_has 2 (some .boolean) 1 := ⟨_, _, rfl, tb_442, tb_435, tb_436, tb_3, tb_437, by decide +kernel, by decide +kernel, by decide +kernel⟩
theorem cs_X1_97 : abVw RX1 97 1 yX1_isNone cX1_isNone 1 (some .boolean) 0 := ⟨_, _, rfl, tb_534, tb_535, tb_536, tb_3, tb_537, by decide +kernel, by decide +kernel, by decide +kernel⟩
theorem cs_X2_31 : abSw RX2 31 yX2_hoursForFirst cX2_hoursForFirst 5 (some .int) 3 := ⟨tb_633, tb_634, tb_6, tb_635, by decide +kernel, by decide +kernel, by decide +kernel⟩
theorem cs_X2_35 : abVw RX2 35 2 yX2_mostFrom cX2_mostFrom 8 (some .int) 2 := ⟨_, _, rfl, tb_637, tb_639, tbp_7, tb_6, tb_640, by decide +kernel, by decide +kernel, by decide +kernel⟩
theorem cs_X2_42 : abVw RX2 42 2 yX2_firstHour cX2_firstHour 6 (some .int) 3 := ⟨_, _, rfl, tb_644, tb_646, tbp_8, tb_6, tb_647, by decide +kernel, by decide +kernel, by decide +kernel⟩
theorem cs_X2_46 : abVw RX2 46 1 yX1_balance cX1_balance 4 (some .int) 3 := ⟨_, _, rfl, tb_636, tb_557, tb_558, tb_3, tb_559, by decide +kernel, by decide +kernel, by decide +kernel⟩
theorem cs_X2_54 : abSw RX2 54 yJ6_bitCount_0f7a4 cJ6_bitCount_0f7a4 1 (some .int) 1 := ⟨tb_642, tb_505, tb_20, tb_506, by decide +kernel, by decide +kernel, by decide +kernel⟩
theorem cs_X3_30 : abVw RX3 30 3 yX3_weigh cX3_weigh 6 none 4 := ⟨_, _, rfl, tb_599, tb_601, tbp_3, tb_5, tb_602, by decide +kernel, by decide +kernel, by decide +kernel⟩
theorem cs_X3_34 : abVw RX3 34 3 yX3_goBackAnHour cX3_goBackAnHour 4 none 0 := ⟨_, _, rfl, tb_605, tb_607, tbp_4, tb_5, tb_608, by decide +kernel, by decide +kernel, by decide +kernel⟩
theorem cs_X3_40 : abVw RX3 40 3 yX3_bestStep cX3_bestStep 8 (some .int) 2 := ⟨_, _, rfl, tb_609, tb_611, tbp_5, tb_5, tb_612, by decide +kernel, by decide +kernel, by decide +kernel⟩
theorem cs_X3_47 : abVw RX3 47 3 yX3_afterAStood cX3_afterAStood 5 (some .int) 2 := ⟨_, _, rfl, tb_617, tb_619, tbp_6, tb_5, tb_620, by decide +kernel, by decide +kernel, by decide +kernel⟩
theorem cs_X3_56 : abVw RX3 56 1 yX1_shadeIf cX1_shadeIf 5 (some .int) 4 := ⟨_, _, rfl, tb_603, tb_492, tb_493, tb_3, tb_494, by decide +kernel, by decide +kernel, by decide +kernel⟩
theorem cs_X3_60 : abVw RX3 60 1 yX1_worthOf cX1_worthOf 4 (some .int) 1 := ⟨_, _, rfl, tb_604, tb_480, tb_481, tb_3, tb_482, by decide +kernel, by decide +kernel, by decide +kernel⟩
theorem cs_X3_70 : abSw RX3 70 yX3_mayStand cX3_mayStand 3 (some .boolean) 3 := ⟨tb_613, tb_614, tb_5, tb_615, by decide +kernel, by decide +kernel, by decide +kernel⟩
theorem cs_X3_79 : abNw RX3 79 yX11_isTile (.static yX11_isTile) cX11_isTile 1 (some .boolean) 1 := ⟨"ShadowCourt", by decide +kernel, tb_473, tb_1, tb_474, by decide +kernel, by decide +kernel, by decide +kernel⟩
theorem cs_X4_5 : abIw RX4 5 yX4_init_ cX4_init_ 3 none 2 := ⟨tb_378, tb_379, tb_16, tb_380, by decide +kernel, by decide +kernel, by decide +kernel⟩
theorem cs_X4_9 : abIw RX4 9 yX5_init cX5_init 3 none 2 := ⟨tb_381, tb_382, tb_15, tb_383, by decide +kernel, by decide +kernel, by decide +kernel⟩
theorem cs_X5_18_0 : abUw RX5 18 0 "ShadowCourt$Kind" ⟨"ShadowCourt$Kind", "length", "(II)I"⟩ yX5_length cX5_length 4 (some .int) 2 := ⟨_, _, _, rfl, tb_476, tb_1150, tb_1151, tb_454, tb_15, tb_455, Or.inl rfl, by decide +kernel, by decide +kernel, by decide +kernel⟩
theorem cs_X5_18_10 : abUw RX5 18 10 "ShadowCourt$Kind" ⟨"ShadowCourt$Kind", "length", "(II)I"⟩ yX5_length cX5_length 4 (some .int) 2 := ⟨_, _, _, rfl, tb_476, tb_1150, tb_1155, tb_454, tb_15, tb_455, Or.inl rfl, by decide +kernel, by decide +kernel, by decide +kernel⟩
theorem cs_X5_18_4 : abUw RX5 18 4 "ShadowCourt$Kind" ⟨"ShadowCourt$Kind", "length", "(II)I"⟩ yX5_length cX5_length 4 (some .int) 2 := ⟨_, _, _, rfl, tb_476, tb_1150, tb_1152, tb_454, tb_15, tb_455, Or.inl rfl, by decide +kernel, by decide +kernel, by decide +kernel⟩
theorem cs_X5_18_5 : abVw RX5 18 5 yX5_length cX5_length 4 (some .int) 2 := ⟨_, _, rfl, tb_476, tb_454, tb_1153, tb_15, tb_455, by decide +kernel, by decide +kernel, by decide +kernel⟩
theorem cs_X5_18_7 : abUw RX5 18 7 "ShadowCourt$Kind" ⟨"ShadowCourt$Kind", "length", "(II)I"⟩ yX5_length cX5_length 4 (some .int) 2 := ⟨_, _, _, rfl, tb_476, tb_1150, tb_1154, tb_454, tb_15, tb_455, Or.inl rfl, by decide +kernel, by decide +kernel, by decide +kernel⟩
theorem cs_X5_22 : abSw RX5 22 yX5_west cX5_west 3 (some .int) 2 := ⟨tb_477, tb_458, tb_15, tb_459, by decide +kernel, by decide +kernel, by decide +kernel⟩
theorem cs_X5_25 : abSw RX5 25 yX5_east cX5_east 3 (some .int) 2 := ⟨tb_478, tb_462, tb_15, tb_463, by decide +kernel, by decide +kernel, by decide +kernel⟩
theorem cs_X6_19 : abVw RX6 19 6 yX6_fits cX6_fits 3 (some .boolean) 1 := ⟨_, _, rfl, tb_254, tb_256, tbp_0, tb_2, tb_257, by decide +kernel, by decide +kernel, by decide +kernel⟩
theorem cs_X6_23 : abVw RX6 23 6 yX6_hasWholeParties cX6_hasWholeParties 1 (some .boolean) 0 := ⟨_, _, rfl, tb_355, tb_356, tb_357, tb_2, tb_358, by decide +kernel, by decide +kernel, by decide +kernel⟩
theorem cs_X6_27 : abVw RX6 27 6 yX6_firstWrong cX6_firstWrong 2 (some .int) 0 := ⟨_, _, rfl, tb_359, tb_251, tb_252, tb_2, tb_253, by decide +kernel, by decide +kernel, by decide +kernel⟩
theorem cs_X6_33 : abIw RX6 33 yX4_init cX4_init 1 none 0 := ⟨tb_375, tb_376, tb_16, tb_377, by decide +kernel, by decide +kernel, by decide +kernel⟩
theorem cs_X6_36 : abIw RX6 36 yX10_init cX10_init 1 none 0 := ⟨tb_395, tb_396, tb_17, tb_397, by decide +kernel, by decide +kernel, by decide +kernel⟩
theorem cs_X6_39 : abIw RX6 39 yX0_init cX0_init 1 none 0 := ⟨tb_404, tb_405, tb_18, tb_406, by decide +kernel, by decide +kernel, by decide +kernel⟩
theorem cs_X6_42 : abIw RX6 42 yX7_init cX7_init 1 none 0 := ⟨tb_413, tb_414, tb_19, tb_415, by decide +kernel, by decide +kernel, by decide +kernel⟩
theorem cs_X6_45 : abIw RX6 45 yX5_init cX5_init 3 none 2 := ⟨tb_422, tb_382, tb_15, tb_383, by decide +kernel, by decide +kernel, by decide +kernel⟩
theorem cs_X6_48 : abNw RX6 48 yX11_within (.static yX11_within) cX11_within 3 (some .boolean) 3 := ⟨"ShadowCourt", by decide +kernel, tb_240, tb_1, tb_241, by decide +kernel, by decide +kernel, by decide +kernel⟩
theorem cs_X6_54 : abQw RX6 54 yJ0_indexOf_0f7a4 cJ0_indexOf_0f7a4 2 (some .int) 1 := ⟨rfl, tb_260, tb_261, tb_262, tb_9, tb_263, by decide +kernel, by decide +kernel, by decide +kernel⟩
theorem cs_X7_5 : abIw RX7 5 yX4_init_ cX4_init_ 3 none 2 := ⟨tb_416, tb_379, tb_16, tb_380, by decide +kernel, by decide +kernel, by decide +kernel⟩
theorem cs_X8_15 : abVw RX8 15 8 yX8_isAsSeen cX8_isAsSeen 6 (some .boolean) 3 := ⟨_, _, rfl, tb_487, tb_489, tbp_1, tb_4, tb_490, by decide +kernel, by decide +kernel, by decide +kernel⟩
theorem cs_X8_34 : abVw RX8 34 1 yX1_shadeIf cX1_shadeIf 5 (some .int) 4 := ⟨_, _, rfl, tb_491, tb_492, tb_493, tb_3, tb_494, by decide +kernel, by decide +kernel, by decide +kernel⟩
theorem cs_X8_44 : abVw RX8 44 8 yX8_heights cX8_heights 5 (some .int) 2 := ⟨_, _, rfl, tb_499, tb_484, tb_485, tb_4, tb_486, by decide +kernel, by decide +kernel, by decide +kernel⟩
theorem cs_X8_48 : abVw RX8 48 8 yX8_leftAtWorst cX8_leftAtWorst 5 (some .int) 2 := ⟨_, _, rfl, tb_500, tb_502, tbp_2, tb_4, tb_503, by decide +kernel, by decide +kernel, by decide +kernel⟩
theorem cs_X8_52 : abSw RX8 52 yJ6_bitCount_0f7a4 cJ6_bitCount_0f7a4 1 (some .int) 1 := ⟨tb_504, tb_505, tb_20, tb_506, by decide +kernel, by decide +kernel, by decide +kernel⟩
theorem cs_X9_27 : abVw RX9 27 9 yX9_draw cX9_draw 2 (some .int) 1 := ⟨_, _, rfl, tb_671, tb_673, tbp_9, tb_7, tb_674, by decide +kernel, by decide +kernel, by decide +kernel⟩
theorem cs_X9_31 : abVw RX9 31 1 yX1_balance cX1_balance 4 (some .int) 3 := ⟨_, _, rfl, tb_679, tb_557, tb_558, tb_3, tb_559, by decide +kernel, by decide +kernel, by decide +kernel⟩
theorem fp_X11_10 : abFp RX11 10 11 0 (.object "ShadowCourt$Page") true := ⟨_, _, _, _, rfl, inT_X11, by decide, tb_207, tyX11_ok, nmX11, rfl, by decide +kernel, fun q => by first | rfl | cases q⟩
theorem fp_X11_108 : abFp RX11 108 1 5 .int false := ⟨_, _, _, _, rfl, inT_X1, by decide, tb_71, tyX1_ok, nmX1, rfl, by decide +kernel, fun q => by first | rfl | cases q⟩
theorem fp_X11_160 : abFp RX11 160 1 6 .int false := ⟨_, _, _, _, rfl, inT_X1, by decide, tb_73, tyX1_ok, nmX1, rfl, by decide +kernel, fun q => by first | rfl | cases q⟩
theorem fp_X11_166 : abFp RX11 166 1 7 .int false := ⟨_, _, _, _, rfl, inT_X1, by decide, tb_76, tyX1_ok, nmX1, rfl, by decide +kernel, fun q => by first | rfl | cases q⟩
theorem fp_X11_19 : abFp RX11 19 11 1 (.object "ShadowCourt$Court") true := ⟨_, _, _, _, rfl, inT_X11, by decide, tb_208, tyX11_ok, nmX11, rfl, by decide +kernel, fun q => by first | rfl | cases q⟩
theorem fp_X11_199 : abFp RX11 199 1 10 .int false := ⟨_, _, _, _, rfl, inT_X1, by decide, tb_85, tyX1_ok, nmX1, rfl, by decide +kernel, fun q => by first | rfl | cases q⟩
theorem fp_X11_23 : abFp RX11 23 11 2 (.object "ShadowCourt$Court") true := ⟨_, _, _, _, rfl, inT_X11, by decide, tb_209, tyX11_ok, nmX11, rfl, by decide +kernel, fun q => by first | rfl | cases q⟩
theorem fp_X11_29 : abFp RX11 29 11 3 (.object "ShadowCourt$Sight") true := ⟨_, _, _, _, rfl, inT_X11, by decide, tb_210, tyX11_ok, nmX11, rfl, by decide +kernel, fun q => by first | rfl | cases q⟩
theorem fp_X11_36 : abFp RX11 36 11 4 (.object "ShadowCourt$Game") true := ⟨_, _, _, _, rfl, inT_X11, by decide, tb_211, tyX11_ok, nmX11, rfl, by decide +kernel, fun q => by first | rfl | cases q⟩
theorem fp_X11_43 : abFp RX11 43 11 5 (.object "ShadowCourt$Docket") true := ⟨_, _, _, _, rfl, inT_X11, by decide, tb_212, tyX11_ok, nmX11, rfl, by decide +kernel, fun q => by first | rfl | cases q⟩
theorem fp_X11_50 : abFp RX11 50 11 6 (.object "ShadowCourt$Terms") true := ⟨_, _, _, _, rfl, inT_X11, by decide, tb_213, tyX11_ok, nmX11, rfl, by decide +kernel, fun q => by first | rfl | cases q⟩
theorem fp_X11_58 : abFp RX11 58 6 1 .int false := ⟨_, _, _, _, rfl, inT_X6, by decide, tb_40, tyX6_ok, nmX6, rfl, by decide +kernel, fun q => by first | rfl | cases q⟩
theorem fp_X11_78 : abFp RX11 78 11 7 .boolean false := ⟨_, _, _, _, rfl, inT_X11, by decide, tb_214, tyX11_ok, nmX11, rfl, by decide +kernel, fun q => by first | rfl | cases q⟩
theorem fp_X11_82 : abFp RX11 82 11 8 .int false := ⟨_, _, _, _, rfl, inT_X11, by decide, tb_215, tyX11_ok, nmX11, rfl, by decide +kernel, fun q => by first | rfl | cases q⟩
theorem fp_X12_102 : abFp RX12 102 12 18 .boolean false := ⟨_, _, _, _, rfl, inT_X12, by decide, tb_753, tyX12_ok, nmX12, rfl, by decide +kernel, fun q => by first | rfl | cases q⟩
theorem fp_X12_106 : abFp RX12 106 12 19 .int false := ⟨_, _, _, _, rfl, inT_X12, by decide, tb_754, tyX12_ok, nmX12, rfl, by decide +kernel, fun q => by first | rfl | cases q⟩
theorem fp_X12_116 : abFp RX12 116 12 1 .int false := ⟨_, _, _, _, rfl, inT_X12, by decide, tb_736, tyX12_ok, nmX12, rfl, by decide +kernel, fun q => by first | rfl | cases q⟩
theorem fp_X12_119 : abFp RX12 119 12 6 .int false := ⟨_, _, _, _, rfl, inT_X12, by decide, tb_741, tyX12_ok, nmX12, rfl, by decide +kernel, fun q => by first | rfl | cases q⟩
theorem fp_X12_122 : abFp RX12 122 12 7 .int false := ⟨_, _, _, _, rfl, inT_X12, by decide, tb_742, tyX12_ok, nmX12, rfl, by decide +kernel, fun q => by first | rfl | cases q⟩
theorem fp_X12_125 : abFp RX12 125 12 8 .int false := ⟨_, _, _, _, rfl, inT_X12, by decide, tb_743, tyX12_ok, nmX12, rfl, by decide +kernel, fun q => by first | rfl | cases q⟩
theorem fp_X12_128 : abFp RX12 128 12 0 .int false := ⟨_, _, _, _, rfl, inT_X12, by decide, tb_735, tyX12_ok, nmX12, rfl, by decide +kernel, fun q => by first | rfl | cases q⟩
theorem fp_X12_13 : abFp RX12 13 12 3 (.array .int) true := ⟨_, _, _, _, rfl, inT_X12, by decide, tb_738, tyX12_ok, nmX12, rfl, by decide +kernel, fun q => by first | rfl | cases q⟩
theorem fp_X12_131 : abFp RX12 131 12 11 .int false := ⟨_, _, _, _, rfl, inT_X12, by decide, tb_746, tyX12_ok, nmX12, rfl, by decide +kernel, fun q => by first | rfl | cases q⟩
theorem fp_X12_16 : abFp RX12 16 12 4 (.array .int) true := ⟨_, _, _, _, rfl, inT_X12, by decide, tb_739, tyX12_ok, nmX12, rfl, by decide +kernel, fun q => by first | rfl | cases q⟩
theorem fp_X12_19 : abFp RX12 19 12 5 (.array .int) true := ⟨_, _, _, _, rfl, inT_X12, by decide, tb_740, tyX12_ok, nmX12, rfl, by decide +kernel, fun q => by first | rfl | cases q⟩
theorem fp_X12_22 : abFp RX12 22 12 9 (.array .int) true := ⟨_, _, _, _, rfl, inT_X12, by decide, tb_744, tyX12_ok, nmX12, rfl, by decide +kernel, fun q => by first | rfl | cases q⟩
theorem fp_X12_248 : abFp RX12 248 12 24 .long false := ⟨_, _, _, _, rfl, inT_X12, by decide, tb_759, tyX12_ok, nmX12, rfl, by decide +kernel, fun q => by first | rfl | cases q⟩
theorem fp_X12_25 : abFp RX12 25 12 10 (.array .int) true := ⟨_, _, _, _, rfl, inT_X12, by decide, tb_745, tyX12_ok, nmX12, rfl, by decide +kernel, fun q => by first | rfl | cases q⟩
theorem fp_X12_264 : abFp RX12 264 12 25 .boolean false := ⟨_, _, _, _, rfl, inT_X12, by decide, tb_760, tyX12_ok, nmX12, rfl, by decide +kernel, fun q => by first | rfl | cases q⟩
theorem fp_X12_267 : abFp RX12 267 12 26 .int false := ⟨_, _, _, _, rfl, inT_X12, by decide, tb_761, tyX12_ok, nmX12, rfl, by decide +kernel, fun q => by first | rfl | cases q⟩
theorem fp_X12_270 : abFp RX12 270 12 27 .int false := ⟨_, _, _, _, rfl, inT_X12, by decide, tb_762, tyX12_ok, nmX12, rfl, by decide +kernel, fun q => by first | rfl | cases q⟩
theorem fp_X12_273 : abFp RX12 273 12 28 .int false := ⟨_, _, _, _, rfl, inT_X12, by decide, tb_763, tyX12_ok, nmX12, rfl, by decide +kernel, fun q => by first | rfl | cases q⟩
theorem fp_X12_276 : abFp RX12 276 12 29 .int false := ⟨_, _, _, _, rfl, inT_X12, by decide, tb_764, tyX12_ok, nmX12, rfl, by decide +kernel, fun q => by first | rfl | cases q⟩
theorem fp_X12_279 : abFp RX12 279 12 30 .int false := ⟨_, _, _, _, rfl, inT_X12, by decide, tb_765, tyX12_ok, nmX12, rfl, by decide +kernel, fun q => by first | rfl | cases q⟩
theorem fp_X12_28 : abFp RX12 28 12 12 (.array .int) true := ⟨_, _, _, _, rfl, inT_X12, by decide, tb_747, tyX12_ok, nmX12, rfl, by decide +kernel, fun q => by first | rfl | cases q⟩
theorem fp_X12_293 : abFp RX12 293 12 40 .long false := ⟨_, _, _, _, rfl, inT_X12, by decide, tb_775, tyX12_ok, nmX12, rfl, by decide +kernel, fun q => by first | rfl | cases q⟩
theorem fp_X12_31 : abFp RX12 31 12 13 (.array .int) true := ⟨_, _, _, _, rfl, inT_X12, by decide, tb_748, tyX12_ok, nmX12, rfl, by decide +kernel, fun q => by first | rfl | cases q⟩
theorem fp_X12_34 : abFp RX12 34 12 14 (.array .int) true := ⟨_, _, _, _, rfl, inT_X12, by decide, tb_749, tyX12_ok, nmX12, rfl, by decide +kernel, fun q => by first | rfl | cases q⟩
theorem fp_X12_37 : abFp RX12 37 12 15 (.array .int) true := ⟨_, _, _, _, rfl, inT_X12, by decide, tb_750, tyX12_ok, nmX12, rfl, by decide +kernel, fun q => by first | rfl | cases q⟩
theorem fp_X12_40 : abFp RX12 40 12 17 (.array .byte) true := ⟨_, _, _, _, rfl, inT_X12, by decide, tb_752, tyX12_ok, nmX12, rfl, by decide +kernel, fun q => by first | rfl | cases q⟩
theorem fp_X12_44 : abFp RX12 44 12 20 (.array .int) true := ⟨_, _, _, _, rfl, inT_X12, by decide, tb_755, tyX12_ok, nmX12, rfl, by decide +kernel, fun q => by first | rfl | cases q⟩
theorem fp_X12_47 : abFp RX12 47 12 21 (.array .int) true := ⟨_, _, _, _, rfl, inT_X12, by decide, tb_756, tyX12_ok, nmX12, rfl, by decide +kernel, fun q => by first | rfl | cases q⟩
theorem fp_X12_50 : abFp RX12 50 12 22 (.array .int) true := ⟨_, _, _, _, rfl, inT_X12, by decide, tb_757, tyX12_ok, nmX12, rfl, by decide +kernel, fun q => by first | rfl | cases q⟩
theorem fp_X12_53 : abFp RX12 53 12 23 (.array .int) true := ⟨_, _, _, _, rfl, inT_X12, by decide, tb_758, tyX12_ok, nmX12, rfl, by decide +kernel, fun q => by first | rfl | cases q⟩
theorem fp_X12_56 : abFp RX12 56 12 31 (.array .int) true := ⟨_, _, _, _, rfl, inT_X12, by decide, tb_766, tyX12_ok, nmX12, rfl, by decide +kernel, fun q => by first | rfl | cases q⟩
theorem fp_X12_59 : abFp RX12 59 12 32 (.array .int) true := ⟨_, _, _, _, rfl, inT_X12, by decide, tb_767, tyX12_ok, nmX12, rfl, by decide +kernel, fun q => by first | rfl | cases q⟩
theorem fp_X12_62 : abFp RX12 62 12 33 (.array .int) true := ⟨_, _, _, _, rfl, inT_X12, by decide, tb_768, tyX12_ok, nmX12, rfl, by decide +kernel, fun q => by first | rfl | cases q⟩
theorem fp_X12_65 : abFp RX12 65 12 34 (.array .int) true := ⟨_, _, _, _, rfl, inT_X12, by decide, tb_769, tyX12_ok, nmX12, rfl, by decide +kernel, fun q => by first | rfl | cases q⟩
theorem fp_X12_68 : abFp RX12 68 12 35 (.array .int) true := ⟨_, _, _, _, rfl, inT_X12, by decide, tb_770, tyX12_ok, nmX12, rfl, by decide +kernel, fun q => by first | rfl | cases q⟩
theorem fp_X12_7 : abFp RX12 7 12 2 (.array .int) true := ⟨_, _, _, _, rfl, inT_X12, by decide, tb_737, tyX12_ok, nmX12, rfl, by decide +kernel, fun q => by first | rfl | cases q⟩
theorem fp_X12_71 : abFp RX12 71 12 36 (.array .int) true := ⟨_, _, _, _, rfl, inT_X12, by decide, tb_771, tyX12_ok, nmX12, rfl, by decide +kernel, fun q => by first | rfl | cases q⟩
theorem fp_X12_74 : abFp RX12 74 12 37 (.array .int) true := ⟨_, _, _, _, rfl, inT_X12, by decide, tb_772, tyX12_ok, nmX12, rfl, by decide +kernel, fun q => by first | rfl | cases q⟩
theorem fp_X12_77 : abFp RX12 77 12 38 (.array .int) true := ⟨_, _, _, _, rfl, inT_X12, by decide, tb_773, tyX12_ok, nmX12, rfl, by decide +kernel, fun q => by first | rfl | cases q⟩
theorem fp_X12_80 : abFp RX12 80 12 39 (.array .int) true := ⟨_, _, _, _, rfl, inT_X12, by decide, tb_774, tyX12_ok, nmX12, rfl, by decide +kernel, fun q => by first | rfl | cases q⟩
theorem fp_X12_87 : abFp RX12 87 12 16 .int false := ⟨_, _, _, _, rfl, inT_X12, by decide, tb_751, tyX12_ok, nmX12, rfl, by decide +kernel, fun q => by first | rfl | cases q⟩
theorem fp_X1_11 : abFp RX1 11 1 1 (.array (.object "ShadowCourt$Kind")) true := ⟨_, _, _, _, rfl, inT_X1, by decide, tb_58, tyX1_ok, nmX1, rfl, by decide +kernel, fun q => by first | rfl | cases q⟩
theorem fp_X1_17 : abFp RX1 17 1 2 (.array .int) true := ⟨_, _, _, _, rfl, inT_X1, by decide, tb_60, tyX1_ok, nmX1, rfl, by decide +kernel, fun q => by first | rfl | cases q⟩
theorem fp_X1_21 : abFp RX1 21 1 3 (.array .int) true := ⟨_, _, _, _, rfl, inT_X1, by decide, tb_63, tyX1_ok, nmX1, rfl, by decide +kernel, fun q => by first | rfl | cases q⟩
theorem fp_X1_24 : abFp RX1 24 1 4 (.array .int) true := ⟨_, _, _, _, rfl, inT_X1, by decide, tb_67, tyX1_ok, nmX1, rfl, by decide +kernel, fun q => by first | rfl | cases q⟩
theorem fp_X1_27 : abFp RX1 27 1 8 (.array .int) true := ⟨_, _, _, _, rfl, inT_X1, by decide, tb_77, tyX1_ok, nmX1, rfl, by decide +kernel, fun q => by first | rfl | cases q⟩
theorem fp_X1_30 : abFp RX1 30 1 9 (.array .int) true := ⟨_, _, _, _, rfl, inT_X1, by decide, tb_80, tyX1_ok, nmX1, rfl, by decide +kernel, fun q => by first | rfl | cases q⟩
theorem fp_X1_33 : abFp RX1 33 1 11 (.array .int) true := ⟨_, _, _, _, rfl, inT_X1, by decide, tb_86, tyX1_ok, nmX1, rfl, by decide +kernel, fun q => by first | rfl | cases q⟩
theorem fp_X1_36 : abFp RX1 36 1 12 (.array .int) true := ⟨_, _, _, _, rfl, inT_X1, by decide, tb_89, tyX1_ok, nmX1, rfl, by decide +kernel, fun q => by first | rfl | cases q⟩
theorem fp_X1_39 : abFp RX1 39 1 13 (.array .int) true := ⟨_, _, _, _, rfl, inT_X1, by decide, tb_92, tyX1_ok, nmX1, rfl, by decide +kernel, fun q => by first | rfl | cases q⟩
theorem fp_X1_42 : abFp RX1 42 1 14 (.array .int) true := ⟨_, _, _, _, rfl, inT_X1, by decide, tb_95, tyX1_ok, nmX1, rfl, by decide +kernel, fun q => by first | rfl | cases q⟩
theorem fp_X1_61 : abFp RX1 61 1 0 .int false := ⟨_, _, _, _, rfl, inT_X1, by decide, tb_56, tyX1_ok, nmX1, rfl, by decide +kernel, fun q => by first | rfl | cases q⟩
theorem fp_X1_71 : abFp RX1 71 1 5 .int false := ⟨_, _, _, _, rfl, inT_X1, by decide, tb_70, tyX1_ok, nmX1, rfl, by decide +kernel, fun q => by first | rfl | cases q⟩
theorem fp_X1_74 : abFp RX1 74 1 6 .int false := ⟨_, _, _, _, rfl, inT_X1, by decide, tb_72, tyX1_ok, nmX1, rfl, by decide +kernel, fun q => by first | rfl | cases q⟩
theorem fp_X1_77 : abFp RX1 77 1 7 .int false := ⟨_, _, _, _, rfl, inT_X1, by decide, tb_75, tyX1_ok, nmX1, rfl, by decide +kernel, fun q => by first | rfl | cases q⟩
theorem fp_X1_80 : abFp RX1 80 1 10 .int false := ⟨_, _, _, _, rfl, inT_X1, by decide, tb_83, tyX1_ok, nmX1, rfl, by decide +kernel, fun q => by first | rfl | cases q⟩
theorem fp_X2_15 : abFp RX2 15 2 2 (.array .int) true := ⟨_, _, _, _, rfl, inT_X2, by decide, tb_175, tyX2_ok, nmX2, rfl, by decide +kernel, fun q => by first | rfl | cases q⟩
theorem fp_X2_24 : abFp RX2 24 2 1 .int false := ⟨_, _, _, _, rfl, inT_X2, by decide, tb_174, tyX2_ok, nmX2, rfl, by decide +kernel, fun q => by first | rfl | cases q⟩
theorem fp_X2_39 : abFp RX2 39 2 3 .int false := ⟨_, _, _, _, rfl, inT_X2, by decide, tb_177, tyX2_ok, nmX2, rfl, by decide +kernel, fun q => by first | rfl | cases q⟩
theorem fp_X2_9 : abFp RX2 9 2 0 (.array .int) true := ⟨_, _, _, _, rfl, inT_X2, by decide, tb_173, tyX2_ok, nmX2, rfl, by decide +kernel, fun q => by first | rfl | cases q⟩
theorem fp_X3_15 : abFp RX3 15 3 1 (.array .int) true := ⟨_, _, _, _, rfl, inT_X3, by decide, tb_147, tyX3_ok, nmX3, rfl, by decide +kernel, fun q => by first | rfl | cases q⟩
theorem fp_X3_18 : abFp RX3 18 3 2 (.array .int) true := ⟨_, _, _, _, rfl, inT_X3, by decide, tb_148, tyX3_ok, nmX3, rfl, by decide +kernel, fun q => by first | rfl | cases q⟩
theorem fp_X3_21 : abFp RX3 21 3 3 (.array .int) true := ⟨_, _, _, _, rfl, inT_X3, by decide, tb_149, tyX3_ok, nmX3, rfl, by decide +kernel, fun q => by first | rfl | cases q⟩
theorem fp_X3_44 : abFp RX3 44 3 5 .int false := ⟨_, _, _, _, rfl, inT_X3, by decide, tb_152, tyX3_ok, nmX3, rfl, by decide +kernel, fun q => by first | rfl | cases q⟩
theorem fp_X3_50 : abFp RX3 50 3 4 .int false := ⟨_, _, _, _, rfl, inT_X3, by decide, tb_150, tyX3_ok, nmX3, rfl, by decide +kernel, fun q => by first | rfl | cases q⟩
theorem fp_X3_9 : abFp RX3 9 3 0 (.array .int) true := ⟨_, _, _, _, rfl, inT_X3, by decide, tb_146, tyX3_ok, nmX3, rfl, by decide +kernel, fun q => by first | rfl | cases q⟩
theorem fp_X5_15_0 : abFp RX5 15 0 1 .int true := ⟨_, _, _, _, rfl, inT_X0, by decide, tb_387, tyX0_ok, nmX0, rfl, by decide +kernel, fun q => by first | rfl | cases q⟩
theorem fp_X5_15_10 : abFp RX5 15 10 1 .int true := ⟨_, _, _, _, rfl, inT_X10, by decide, tb_387, tyX10_ok, nmX10, rfl, by decide +kernel, fun q => by first | rfl | cases q⟩
theorem fp_X5_15_4 : abFp RX5 15 4 1 .int true := ⟨_, _, _, _, rfl, inT_X4, by decide, tb_387, tyX4_ok, nmX4, rfl, by decide +kernel, fun q => by first | rfl | cases q⟩
theorem fp_X5_15_5 : abFp RX5 15 5 1 .int true := ⟨_, _, _, _, rfl, inT_X5, by decide, tb_387, tyX5_ok, nmX5, rfl, by decide +kernel, fun q => by first | rfl | cases q⟩
theorem fp_X5_15_7 : abFp RX5 15 7 1 .int true := ⟨_, _, _, _, rfl, inT_X7, by decide, tb_387, tyX7_ok, nmX7, rfl, by decide +kernel, fun q => by first | rfl | cases q⟩
theorem fp_X5_9_0 : abFp RX5 9 0 0 .int true := ⟨_, _, _, _, rfl, inT_X0, by decide, tb_385, tyX0_ok, nmX0, rfl, by decide +kernel, fun q => by first | rfl | cases q⟩
theorem fp_X5_9_10 : abFp RX5 9 10 0 .int true := ⟨_, _, _, _, rfl, inT_X10, by decide, tb_385, tyX10_ok, nmX10, rfl, by decide +kernel, fun q => by first | rfl | cases q⟩
theorem fp_X5_9_4 : abFp RX5 9 4 0 .int true := ⟨_, _, _, _, rfl, inT_X4, by decide, tb_385, tyX4_ok, nmX4, rfl, by decide +kernel, fun q => by first | rfl | cases q⟩
theorem fp_X5_9_5 : abFp RX5 9 5 0 .int true := ⟨_, _, _, _, rfl, inT_X5, by decide, tb_385, tyX5_ok, nmX5, rfl, by decide +kernel, fun q => by first | rfl | cases q⟩
theorem fp_X5_9_7 : abFp RX5 9 7 0 .int true := ⟨_, _, _, _, rfl, inT_X7, by decide, tb_385, tyX7_ok, nmX7, rfl, by decide +kernel, fun q => by first | rfl | cases q⟩
theorem fp_X6_11 : abFp RX6 11 6 0 (.array .char) true := ⟨_, _, _, _, rfl, inT_X6, by decide, tb_36, tyX6_ok, nmX6, rfl, by decide +kernel, fun q => by first | rfl | cases q⟩
theorem fp_X8_9 : abFp RX8 9 8 0 (.array .int) true := ⟨_, _, _, _, rfl, inT_X8, by decide, tb_136, tyX8_ok, nmX8, rfl, by decide +kernel, fun q => by first | rfl | cases q⟩
theorem fp_X9_15 : abFp RX9 15 9 1 .int false := ⟨_, _, _, _, rfl, inT_X9, by decide, tb_196, tyX9_ok, nmX9, rfl, by decide +kernel, fun q => by first | rfl | cases q⟩
theorem fp_X9_19 : abFp RX9 19 9 2 .int false := ⟨_, _, _, _, rfl, inT_X9, by decide, tb_198, tyX9_ok, nmX9, rfl, by decide +kernel, fun q => by first | rfl | cases q⟩
theorem fp_X9_9 : abFp RX9 9 9 0 .long false := ⟨_, _, _, _, rfl, inT_X9, by decide, tb_194, tyX9_ok, nmX9, rfl, by decide +kernel, fun q => by first | rfl | cases q⟩
theorem fq_X5_15 : ∀ c, isKd c = true → abFp RX5 15 c 1 .int true := fun c hc => kd_all (P := fun c => abFp RX5 15 c 1 .int true) fp_X5_15_0 fp_X5_15_4 fp_X5_15_5 fp_X5_15_7 fp_X5_15_10 c hc
theorem fq_X5_9 : ∀ c, isKd c = true → abFp RX5 9 c 0 .int true := fun c hc => kd_all (P := fun c => abFp RX5 9 c 0 .int true) fp_X5_9_0 fp_X5_9_4 fp_X5_9_5 fp_X5_9_7 fp_X5_9_10 c hc
theorem fs_X11_10 : abFs RX11 10 11 0 := ⟨_, _, _, rfl, inT_X11, by decide, tb_207⟩
theorem fs_X11_101 : abFs RX11 101 1 2 := ⟨_, _, _, rfl, inT_X1, by decide, tb_62⟩
theorem fs_X11_105 : abFs RX11 105 1 3 := ⟨_, _, _, rfl, inT_X1, by decide, tb_66⟩
theorem fs_X11_108 : abFs RX11 108 1 5 := ⟨_, _, _, rfl, inT_X1, by decide, tb_71⟩
theorem fs_X11_140 : abFs RX11 140 1 4 := ⟨_, _, _, rfl, inT_X1, by decide, tb_68⟩
theorem fs_X11_160 : abFs RX11 160 1 6 := ⟨_, _, _, rfl, inT_X1, by decide, tb_73⟩
theorem fs_X11_166 : abFs RX11 166 1 7 := ⟨_, _, _, rfl, inT_X1, by decide, tb_76⟩
theorem fs_X11_169 : abFs RX11 169 1 8 := ⟨_, _, _, rfl, inT_X1, by decide, tb_79⟩
theorem fs_X11_172 : abFs RX11 172 1 9 := ⟨_, _, _, rfl, inT_X1, by decide, tb_82⟩
theorem fs_X11_179 : abFs RX11 179 3 4 := ⟨_, _, _, rfl, inT_X3, by decide, tb_151⟩
theorem fs_X11_182 : abFs RX11 182 3 5 := ⟨_, _, _, rfl, inT_X3, by decide, tb_153⟩
theorem fs_X11_189 : abFs RX11 189 2 3 := ⟨_, _, _, rfl, inT_X2, by decide, tb_178⟩
theorem fs_X11_19 : abFs RX11 19 11 1 := ⟨_, _, _, rfl, inT_X11, by decide, tb_208⟩
theorem fs_X11_192 : abFs RX11 192 2 2 := ⟨_, _, _, rfl, inT_X2, by decide, tb_176⟩
theorem fs_X11_199 : abFs RX11 199 1 10 := ⟨_, _, _, rfl, inT_X1, by decide, tb_85⟩
theorem fs_X11_202 : abFs RX11 202 1 11 := ⟨_, _, _, rfl, inT_X1, by decide, tb_88⟩
theorem fs_X11_205 : abFs RX11 205 1 12 := ⟨_, _, _, rfl, inT_X1, by decide, tb_91⟩
theorem fs_X11_208 : abFs RX11 208 1 13 := ⟨_, _, _, rfl, inT_X1, by decide, tb_94⟩
theorem fs_X11_211 : abFs RX11 211 1 14 := ⟨_, _, _, rfl, inT_X1, by decide, tb_97⟩
theorem fs_X11_218 : abFs RX11 218 9 1 := ⟨_, _, _, rfl, inT_X9, by decide, tb_197⟩
theorem fs_X11_221 : abFs RX11 221 9 2 := ⟨_, _, _, rfl, inT_X9, by decide, tb_199⟩
theorem fs_X11_224 : abFs RX11 224 9 0 := ⟨_, _, _, rfl, inT_X9, by decide, tb_195⟩
theorem fs_X11_23 : abFs RX11 23 11 2 := ⟨_, _, _, rfl, inT_X11, by decide, tb_209⟩
theorem fs_X11_29 : abFs RX11 29 11 3 := ⟨_, _, _, rfl, inT_X11, by decide, tb_210⟩
theorem fs_X11_36 : abFs RX11 36 11 4 := ⟨_, _, _, rfl, inT_X11, by decide, tb_211⟩
theorem fs_X11_43 : abFs RX11 43 11 5 := ⟨_, _, _, rfl, inT_X11, by decide, tb_212⟩
theorem fs_X11_50 : abFs RX11 50 11 6 := ⟨_, _, _, rfl, inT_X11, by decide, tb_213⟩
theorem fs_X11_58 : abFs RX11 58 6 1 := ⟨_, _, _, rfl, inT_X6, by decide, tb_40⟩
theorem fs_X11_62 : abFs RX11 62 6 0 := ⟨_, _, _, rfl, inT_X6, by decide, tb_38⟩
theorem fs_X11_78 : abFs RX11 78 11 7 := ⟨_, _, _, rfl, inT_X11, by decide, tb_214⟩
theorem fs_X11_82 : abFs RX11 82 11 8 := ⟨_, _, _, rfl, inT_X11, by decide, tb_215⟩
theorem fs_X11_85 : abFs RX11 85 1 0 := ⟨_, _, _, rfl, inT_X1, by decide, tb_57⟩
theorem fs_X11_92 : abFs RX11 92 1 1 := ⟨_, _, _, rfl, inT_X1, by decide, tb_59⟩
theorem fs_X11_96_0 : abFs RX11 96 0 0 := ⟨_, _, _, rfl, inT_X0, by decide, tb_386⟩
theorem fs_X11_96_10 : abFs RX11 96 10 0 := ⟨_, _, _, rfl, inT_X10, by decide, tb_386⟩
theorem fs_X11_96_4 : abFs RX11 96 4 0 := ⟨_, _, _, rfl, inT_X4, by decide, tb_386⟩
theorem fs_X11_96_5 : abFs RX11 96 5 0 := ⟨_, _, _, rfl, inT_X5, by decide, tb_386⟩
theorem fs_X11_96_7 : abFs RX11 96 7 0 := ⟨_, _, _, rfl, inT_X7, by decide, tb_386⟩
theorem fs_X12_102 : abFs RX12 102 12 18 := ⟨_, _, _, rfl, inT_X12, by decide, tb_753⟩
theorem fs_X12_106 : abFs RX12 106 12 19 := ⟨_, _, _, rfl, inT_X12, by decide, tb_754⟩
theorem fs_X12_116 : abFs RX12 116 12 1 := ⟨_, _, _, rfl, inT_X12, by decide, tb_736⟩
theorem fs_X12_119 : abFs RX12 119 12 6 := ⟨_, _, _, rfl, inT_X12, by decide, tb_741⟩
theorem fs_X12_122 : abFs RX12 122 12 7 := ⟨_, _, _, rfl, inT_X12, by decide, tb_742⟩
theorem fs_X12_125 : abFs RX12 125 12 8 := ⟨_, _, _, rfl, inT_X12, by decide, tb_743⟩
theorem fs_X12_128 : abFs RX12 128 12 0 := ⟨_, _, _, rfl, inT_X12, by decide, tb_735⟩
theorem fs_X12_13 : abFs RX12 13 12 3 := ⟨_, _, _, rfl, inT_X12, by decide, tb_738⟩
theorem fs_X12_131 : abFs RX12 131 12 11 := ⟨_, _, _, rfl, inT_X12, by decide, tb_746⟩
theorem fs_X12_16 : abFs RX12 16 12 4 := ⟨_, _, _, rfl, inT_X12, by decide, tb_739⟩
theorem fs_X12_19 : abFs RX12 19 12 5 := ⟨_, _, _, rfl, inT_X12, by decide, tb_740⟩
theorem fs_X12_22 : abFs RX12 22 12 9 := ⟨_, _, _, rfl, inT_X12, by decide, tb_744⟩
theorem fs_X12_248 : abFs RX12 248 12 24 := ⟨_, _, _, rfl, inT_X12, by decide, tb_759⟩
theorem fs_X12_25 : abFs RX12 25 12 10 := ⟨_, _, _, rfl, inT_X12, by decide, tb_745⟩
theorem fs_X12_264 : abFs RX12 264 12 25 := ⟨_, _, _, rfl, inT_X12, by decide, tb_760⟩
theorem fs_X12_267 : abFs RX12 267 12 26 := ⟨_, _, _, rfl, inT_X12, by decide, tb_761⟩
theorem fs_X12_270 : abFs RX12 270 12 27 := ⟨_, _, _, rfl, inT_X12, by decide, tb_762⟩
theorem fs_X12_273 : abFs RX12 273 12 28 := ⟨_, _, _, rfl, inT_X12, by decide, tb_763⟩
theorem fs_X12_276 : abFs RX12 276 12 29 := ⟨_, _, _, rfl, inT_X12, by decide, tb_764⟩
theorem fs_X12_279 : abFs RX12 279 12 30 := ⟨_, _, _, rfl, inT_X12, by decide, tb_765⟩
theorem fs_X12_28 : abFs RX12 28 12 12 := ⟨_, _, _, rfl, inT_X12, by decide, tb_747⟩
theorem fs_X12_293 : abFs RX12 293 12 40 := ⟨_, _, _, rfl, inT_X12, by decide, tb_775⟩
theorem fs_X12_31 : abFs RX12 31 12 13 := ⟨_, _, _, rfl, inT_X12, by decide, tb_748⟩
theorem fs_X12_34 : abFs RX12 34 12 14 := ⟨_, _, _, rfl, inT_X12, by decide, tb_749⟩
theorem fs_X12_37 : abFs RX12 37 12 15 := ⟨_, _, _, rfl, inT_X12, by decide, tb_750⟩
theorem fs_X12_40 : abFs RX12 40 12 17 := ⟨_, _, _, rfl, inT_X12, by decide, tb_752⟩
theorem fs_X12_44 : abFs RX12 44 12 20 := ⟨_, _, _, rfl, inT_X12, by decide, tb_755⟩
theorem fs_X12_47 : abFs RX12 47 12 21 := ⟨_, _, _, rfl, inT_X12, by decide, tb_756⟩
theorem fs_X12_50 : abFs RX12 50 12 22 := ⟨_, _, _, rfl, inT_X12, by decide, tb_757⟩
theorem fs_X12_53 : abFs RX12 53 12 23 := ⟨_, _, _, rfl, inT_X12, by decide, tb_758⟩
theorem fs_X12_56 : abFs RX12 56 12 31 := ⟨_, _, _, rfl, inT_X12, by decide, tb_766⟩
theorem fs_X12_59 : abFs RX12 59 12 32 := ⟨_, _, _, rfl, inT_X12, by decide, tb_767⟩
theorem fs_X12_62 : abFs RX12 62 12 33 := ⟨_, _, _, rfl, inT_X12, by decide, tb_768⟩
theorem fs_X12_65 : abFs RX12 65 12 34 := ⟨_, _, _, rfl, inT_X12, by decide, tb_769⟩
theorem fs_X12_68 : abFs RX12 68 12 35 := ⟨_, _, _, rfl, inT_X12, by decide, tb_770⟩
theorem fs_X12_7 : abFs RX12 7 12 2 := ⟨_, _, _, rfl, inT_X12, by decide, tb_737⟩
theorem fs_X12_71 : abFs RX12 71 12 36 := ⟨_, _, _, rfl, inT_X12, by decide, tb_771⟩
theorem fs_X12_74 : abFs RX12 74 12 37 := ⟨_, _, _, rfl, inT_X12, by decide, tb_772⟩
theorem fs_X12_77 : abFs RX12 77 12 38 := ⟨_, _, _, rfl, inT_X12, by decide, tb_773⟩
theorem fs_X12_80 : abFs RX12 80 12 39 := ⟨_, _, _, rfl, inT_X12, by decide, tb_774⟩
theorem fs_X12_87 : abFs RX12 87 12 16 := ⟨_, _, _, rfl, inT_X12, by decide, tb_751⟩
theorem fs_X1_11 : abFs RX1 11 1 1 := ⟨_, _, _, rfl, inT_X1, by decide, tb_58⟩
theorem fs_X1_17 : abFs RX1 17 1 2 := ⟨_, _, _, rfl, inT_X1, by decide, tb_60⟩
theorem fs_X1_21 : abFs RX1 21 1 3 := ⟨_, _, _, rfl, inT_X1, by decide, tb_63⟩
theorem fs_X1_24 : abFs RX1 24 1 4 := ⟨_, _, _, rfl, inT_X1, by decide, tb_67⟩
theorem fs_X1_27 : abFs RX1 27 1 8 := ⟨_, _, _, rfl, inT_X1, by decide, tb_77⟩
theorem fs_X1_30 : abFs RX1 30 1 9 := ⟨_, _, _, rfl, inT_X1, by decide, tb_80⟩
theorem fs_X1_33 : abFs RX1 33 1 11 := ⟨_, _, _, rfl, inT_X1, by decide, tb_86⟩
theorem fs_X1_36 : abFs RX1 36 1 12 := ⟨_, _, _, rfl, inT_X1, by decide, tb_89⟩
theorem fs_X1_39 : abFs RX1 39 1 13 := ⟨_, _, _, rfl, inT_X1, by decide, tb_92⟩
theorem fs_X1_42 : abFs RX1 42 1 14 := ⟨_, _, _, rfl, inT_X1, by decide, tb_95⟩
theorem fs_X1_45 : abFs RX1 45 6 0 := ⟨_, _, _, rfl, inT_X6, by decide, tb_37⟩
theorem fs_X1_61 : abFs RX1 61 1 0 := ⟨_, _, _, rfl, inT_X1, by decide, tb_56⟩
theorem fs_X1_71 : abFs RX1 71 1 5 := ⟨_, _, _, rfl, inT_X1, by decide, tb_70⟩
theorem fs_X1_74 : abFs RX1 74 1 6 := ⟨_, _, _, rfl, inT_X1, by decide, tb_72⟩
theorem fs_X1_77 : abFs RX1 77 1 7 := ⟨_, _, _, rfl, inT_X1, by decide, tb_75⟩
theorem fs_X1_80 : abFs RX1 80 1 10 := ⟨_, _, _, rfl, inT_X1, by decide, tb_83⟩
theorem fs_X2_15 : abFs RX2 15 2 2 := ⟨_, _, _, rfl, inT_X2, by decide, tb_175⟩
theorem fs_X2_18 : abFs RX2 18 1 7 := ⟨_, _, _, rfl, inT_X1, by decide, tb_74⟩
theorem fs_X2_24 : abFs RX2 24 2 1 := ⟨_, _, _, rfl, inT_X2, by decide, tb_174⟩
theorem fs_X2_25 : abFs RX2 25 1 8 := ⟨_, _, _, rfl, inT_X1, by decide, tb_78⟩
theorem fs_X2_28 : abFs RX2 28 1 9 := ⟨_, _, _, rfl, inT_X1, by decide, tb_81⟩
theorem fs_X2_39 : abFs RX2 39 2 3 := ⟨_, _, _, rfl, inT_X2, by decide, tb_177⟩
theorem fs_X2_9 : abFs RX2 9 2 0 := ⟨_, _, _, rfl, inT_X2, by decide, tb_173⟩
theorem fs_X3_15 : abFs RX3 15 3 1 := ⟨_, _, _, rfl, inT_X3, by decide, tb_147⟩
theorem fs_X3_18 : abFs RX3 18 3 2 := ⟨_, _, _, rfl, inT_X3, by decide, tb_148⟩
theorem fs_X3_21 : abFs RX3 21 3 3 := ⟨_, _, _, rfl, inT_X3, by decide, tb_149⟩
theorem fs_X3_24 : abFs RX3 24 1 5 := ⟨_, _, _, rfl, inT_X1, by decide, tb_69⟩
theorem fs_X3_37 : abFs RX3 37 1 3 := ⟨_, _, _, rfl, inT_X1, by decide, tb_64⟩
theorem fs_X3_44 : abFs RX3 44 3 5 := ⟨_, _, _, rfl, inT_X3, by decide, tb_152⟩
theorem fs_X3_53 : abFs RX3 53 1 2 := ⟨_, _, _, rfl, inT_X1, by decide, tb_61⟩
theorem fs_X3_9 : abFs RX3 9 3 0 := ⟨_, _, _, rfl, inT_X3, by decide, tb_146⟩
theorem fs_X5_15_0 : abFs RX5 15 0 1 := ⟨_, _, _, rfl, inT_X0, by decide, tb_387⟩
theorem fs_X5_15_10 : abFs RX5 15 10 1 := ⟨_, _, _, rfl, inT_X10, by decide, tb_387⟩
theorem fs_X5_15_4 : abFs RX5 15 4 1 := ⟨_, _, _, rfl, inT_X4, by decide, tb_387⟩
theorem fs_X5_15_5 : abFs RX5 15 5 1 := ⟨_, _, _, rfl, inT_X5, by decide, tb_387⟩
theorem fs_X5_15_7 : abFs RX5 15 7 1 := ⟨_, _, _, rfl, inT_X7, by decide, tb_387⟩
theorem fs_X6_11 : abFs RX6 11 6 0 := ⟨_, _, _, rfl, inT_X6, by decide, tb_36⟩
theorem fs_X6_15 : abFs RX6 15 6 1 := ⟨_, _, _, rfl, inT_X6, by decide, tb_39⟩
theorem fs_X8_19 : abFs RX8 19 1 10 := ⟨_, _, _, rfl, inT_X1, by decide, tb_84⟩
theorem fs_X8_25 : abFs RX8 25 1 11 := ⟨_, _, _, rfl, inT_X1, by decide, tb_87⟩
theorem fs_X8_28 : abFs RX8 28 1 3 := ⟨_, _, _, rfl, inT_X1, by decide, tb_65⟩
theorem fs_X8_31 : abFs RX8 31 1 12 := ⟨_, _, _, rfl, inT_X1, by decide, tb_90⟩
theorem fs_X8_38 : abFs RX8 38 1 13 := ⟨_, _, _, rfl, inT_X1, by decide, tb_93⟩
theorem fs_X8_41 : abFs RX8 41 1 14 := ⟨_, _, _, rfl, inT_X1, by decide, tb_96⟩
theorem fs_X8_9 : abFs RX8 9 8 0 := ⟨_, _, _, rfl, inT_X8, by decide, tb_136⟩
theorem fs_X9_15 : abFs RX9 15 9 1 := ⟨_, _, _, rfl, inT_X9, by decide, tb_196⟩
theorem fs_X9_19 : abFs RX9 19 9 2 := ⟨_, _, _, rfl, inT_X9, by decide, tb_198⟩
theorem fs_X9_22 : abFs RX9 22 1 0 := ⟨_, _, _, rfl, inT_X1, by decide, tb_55⟩
theorem fs_X9_9 : abFs RX9 9 9 0 := ⟨_, _, _, rfl, inT_X9, by decide, tb_194⟩
theorem ft_X11_96 : ∀ c, isKd c = true → abFs RX11 96 c 0 := fun c hc => kd_all (P := fun c => abFs RX11 96 c 0) fs_X11_96_0 fs_X11_96_4 fs_X11_96_5 fs_X11_96_7 fs_X11_96_10 c hc
theorem ft_X5_15 : ∀ c, isKd c = true → abFs RX5 15 c 1 := fun c hc => kd_all (P := fun c => abFs RX5 15 c 1) fs_X5_15_0 fs_X5_15_4 fs_X5_15_5 fs_X5_15_7 fs_X5_15_10 c hc
theorem ns_X11_16 : abNs RX11 16 1 [.int 0, .null, .null, .null, .null, .int 0, .int 0, .int 0, .null, .null, .int 0, .null, .null, .null, .null] 15 := ⟨_, _, _, rfl, inT_X1, tyX1_ok, tb_47, tb_48, tb_3, fun j hj => by rcases (by omega : j = 0 ∨ j = 1 ∨ j = 2 ∨ j = 3 ∨ j = 4 ∨ j = 5 ∨ j = 6 ∨ j = 7 ∨ j = 8 ∨ j = 9 ∨ j = 10 ∨ j = 11 ∨ j = 12 ∨ j = 13 ∨ j = 14) with rfl | rfl | rfl | rfl | rfl | rfl | rfl | rfl | rfl | rfl | rfl | rfl | rfl | rfl | rfl <;> rfl, fun _ => rfl⟩
theorem ns_X11_26 : abNs RX11 26 8 [.null] 1 := ⟨_, _, _, rfl, inT_X8, tyX8_ok, tb_130, tb_131, tb_4, fun j hj => by rcases (by omega : j = 0) with rfl <;> rfl, fun _ => rfl⟩
theorem ns_X11_33 : abNs RX11 33 3 [.null, .null, .null, .null, .int 0, .int 0] 6 := ⟨_, _, _, rfl, inT_X3, tyX3_ok, tb_140, tb_141, tb_5, fun j hj => by rcases (by omega : j = 0 ∨ j = 1 ∨ j = 2 ∨ j = 3 ∨ j = 4 ∨ j = 5) with rfl | rfl | rfl | rfl | rfl | rfl <;> rfl, fun _ => rfl⟩
theorem ns_X11_40 : abNs RX11 40 2 [.null, .int 0, .null, .int 0] 4 := ⟨_, _, _, rfl, inT_X2, tyX2_ok, tb_167, tb_168, tb_6, fun j hj => by rcases (by omega : j = 0 ∨ j = 1 ∨ j = 2 ∨ j = 3) with rfl | rfl | rfl | rfl <;> rfl, fun _ => rfl⟩
theorem ns_X11_47 : abNs RX11 47 9 [.long 0, .int 0, .int 0] 3 := ⟨_, _, _, rfl, inT_X9, tyX9_ok, tb_188, tb_189, tb_7, fun j hj => by rcases (by omega : j = 0 ∨ j = 1 ∨ j = 2) with rfl | rfl | rfl <;> rfl, fun _ => rfl⟩
theorem ns_X11_7 : abNs RX11 7 6 [.null, .int 0] 2 := ⟨_, _, _, rfl, inT_X6, tyX6_ok, tb_30, tb_31, tb_2, fun j hj => by rcases (by omega : j = 0 ∨ j = 1) with rfl | rfl <;> rfl, fun _ => rfl⟩
theorem ns_X6_31 : abNs RX6 31 4 [.int 0, .int 0] 2 := ⟨_, _, _, rfl, inT_X4, tyX4_ok, tb_373, tb_374, tb_16, fun j hj => by rcases (by omega : j = 0 ∨ j = 1) with rfl | rfl <;> rfl, fun _ => rfl⟩
theorem ns_X6_34 : abNs RX6 34 10 [.int 0, .int 0] 2 := ⟨_, _, _, rfl, inT_X10, tyX10_ok, tb_393, tb_394, tb_17, fun j hj => by rcases (by omega : j = 0 ∨ j = 1) with rfl | rfl <;> rfl, fun _ => rfl⟩
theorem ns_X6_37 : abNs RX6 37 0 [.int 0, .int 0] 2 := ⟨_, _, _, rfl, inT_X0, tyX0_ok, tb_402, tb_403, tb_18, fun j hj => by rcases (by omega : j = 0 ∨ j = 1) with rfl | rfl <;> rfl, fun _ => rfl⟩
theorem ns_X6_40 : abNs RX6 40 7 [.int 0, .int 0] 2 := ⟨_, _, _, rfl, inT_X7, tyX7_ok, tb_411, tb_412, tb_19, fun j hj => by rcases (by omega : j = 0 ∨ j = 1) with rfl | rfl <;> rfl, fun _ => rfl⟩
theorem ns_X6_43 : abNs RX6 43 5 [.int 0, .int 0] 2 := ⟨_, _, _, rfl, inT_X5, tyX5_ok, tb_420, tb_421, tb_15, fun j hj => by rcases (by omega : j = 0 ∨ j = 1) with rfl | rfl <;> rfl, fun _ => rfl⟩
