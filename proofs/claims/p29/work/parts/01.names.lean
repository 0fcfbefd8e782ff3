-- ===== PART A: goes FIRST, ahead of the names: the tables' words, and 'selects' of the private methods out of them =====
/-- a private method of a class that the tables say can be made, by its rows of tables_1 -/
def lw_okq (q : MethodName × Nat) : Prop := (q.1.cls ≠ "java/lang/invoke/MethodHandle" ∧ q.1.cls ≠ "java/lang/invoke/VarHandle") ∧ Cond.instantiable q.1.cls q.2 ∈ tables_1 ∧ Cond.privateMethod q.1 ∈ tables_1 ∧ Cond.instanceMethod q.1 ∈ tables_1
theorem lw_p0 : lw_okq (⟨"ShadowCourt$Sight", "isAsSeen", "(LShadowCourt$Court;II)Z"⟩, 1) := ⟨⟨by decide +kernel, by decide +kernel⟩, List.mem_of_getElem? (i := 119) (by decide +kernel), List.mem_of_getElem? (i := 273) (by decide +kernel), List.mem_of_getElem? (i := 274) (by decide +kernel)⟩
theorem lw_p1 : lw_okq (⟨"ShadowCourt$Sight", "leftAtWorst", "(II)I"⟩, 1) := ⟨⟨by decide +kernel, by decide +kernel⟩, List.mem_of_getElem? (i := 119) (by decide +kernel), List.mem_of_getElem? (i := 286) (by decide +kernel), List.mem_of_getElem? (i := 287) (by decide +kernel)⟩
theorem lw_p2 : lw_okq (⟨"ShadowCourt$Terms", "draw", "(I)I"⟩, 3) := ⟨⟨by decide +kernel, by decide +kernel⟩, List.mem_of_getElem? (i := 169) (by decide +kernel), List.mem_of_getElem? (i := 382) (by decide +kernel), List.mem_of_getElem? (i := 383) (by decide +kernel)⟩
theorem lw_p3 : lw_okq (⟨"ShadowCourt$Page", "fits", "(I)Z"⟩, 2) := ⟨⟨by decide +kernel, by decide +kernel⟩, List.mem_of_getElem? (i := 29) (by decide +kernel), List.mem_of_getElem? (i := 413) (by decide +kernel), List.mem_of_getElem? (i := 414) (by decide +kernel)⟩
def lw_privs_1 : List (MethodName × Nat) := [(⟨"ShadowCourt$Sight", "isAsSeen", "(LShadowCourt$Court;II)Z"⟩, 1), (⟨"ShadowCourt$Sight", "leftAtWorst", "(II)I"⟩, 1), (⟨"ShadowCourt$Terms", "draw", "(I)I"⟩, 3), (⟨"ShadowCourt$Page", "fits", "(I)Z"⟩, 2)]
theorem lw_r1 : ∀ q ∈ lw_privs_1, lw_okq q := List.forall_mem_cons.mpr ⟨lw_p0, List.forall_mem_cons.mpr ⟨lw_p1, List.forall_mem_cons.mpr ⟨lw_p2, List.forall_mem_cons.mpr ⟨lw_p3, fun _ h => absurd h List.not_mem_nil⟩⟩⟩⟩
def lw_privs : List (MethodName × Nat) := lw_privs_1
def lw_tbl : List Cond := k2_sels lw_privs ++ tables_1
theorem lw_privs_ok : ∀ q ∈ lw_privs, lw_okq q := lw_r1
/-! ===== BEGIN printed: names, fields, word lists, decode rows ===== -/
def RX0 : String := "ShadowCourt$Child"
def TX0 : u_T := fun k => match k with
  | 0 => ("ShadowCourt$Kind", "number", "I", true)
  | _ => ("ShadowCourt$Kind", "higher", "I", true)
def tyX0 : Nat → FieldType := fun k => match k with
  | 0 => .int
  | _ => .int
abbrev wsX00 : List Cond := u_ws RX0 TX0 2
theorem nmX0 : ∀ a, a < 2 → ∀ b, b < 2 → a ≠ b → (TX0 a).2.1 ≠ (TX0 b).2.1 := by decide +kernel
theorem tyX0_ok : ∀ k, k < 2 → parseFieldDescriptor (TX0 k).2.2.1 = some (tyX0 k) := by decide +kernel
abbrev cX0_init : ByteArray := prog_2_method_1_code
def yX0_init : MethodName := ⟨RX0, "<init>", "()V"⟩
abbrev cX0_shade : ByteArray := prog_2_method_2_code
def yX0_shade : MethodName := ⟨RX0, "shade", "(III)I"⟩
def RX1 : String := "ShadowCourt$Court"
def TX1 : u_T := fun k => match k with
  | 0 => ("ShadowCourt$Court", "parties", "I", false)
  | 1 => ("ShadowCourt$Court", "kinds", "[LShadowCourt$Kind;", true)
  | 2 => ("ShadowCourt$Court", "high", "[I", true)
  | 3 => ("ShadowCourt$Court", "tile", "[I", true)
  | 4 => ("ShadowCourt$Court", "worth", "[I", true)
  | 5 => ("ShadowCourt$Court", "hour", "I", false)
  | 6 => ("ShadowCourt$Court", "days", "I", false)
  | 7 => ("ShadowCourt$Court", "cases", "I", false)
  | 8 => ("ShadowCourt$Court", "caseFirst", "[I", true)
  | 9 => ("ShadowCourt$Court", "caseOther", "[I", true)
  | 10 => ("ShadowCourt$Court", "seen", "I", false)
  | 11 => ("ShadowCourt$Court", "seenParty", "[I", true)
  | 12 => ("ShadowCourt$Court", "seenHour", "[I", true)
  | 13 => ("ShadowCourt$Court", "seenTile", "[I", true)
  | _ => ("ShadowCourt$Court", "seenCovers", "[I", true)
def tyX1 : Nat → FieldType := fun k => match k with
  | 0 => .int
  | 1 => .array (.object "ShadowCourt$Kind")
  | 2 => .array .int
  | 3 => .array .int
  | 4 => .array .int
  | 5 => .int
  | 6 => .int
  | 7 => .int
  | 8 => .array .int
  | 9 => .array .int
  | 10 => .int
  | 11 => .array .int
  | 12 => .array .int
  | 13 => .array .int
  | _ => .array .int
abbrev wsX10 : List Cond := u_ws RX1 TX1 15
theorem nmX1 : ∀ a, a < 15 → ∀ b, b < 15 → a ≠ b → (TX1 a).2.1 ≠ (TX1 b).2.1 := by decide +kernel
theorem tyX1_ok : ∀ k, k < 15 → parseFieldDescriptor (TX1 k).2.2.1 = some (tyX1 k) := by decide +kernel
abbrev cX1_init : ByteArray := prog_3_method_1_code
def yX1_init : MethodName := ⟨RX1, "<init>", "()V"⟩
abbrev cX1_read : ByteArray := prog_3_method_2_code
def yX1_read : MethodName := ⟨RX1, "read", "(LShadowCourt$Page;)V"⟩
abbrev cX1_isNone : ByteArray := prog_3_method_5_code
def yX1_isNone : MethodName := ⟨RX1, "isNone", "()Z"⟩
abbrev cX1_has : ByteArray := prog_3_method_6_code
def yX1_has : MethodName := ⟨RX1, "has", "(I)Z"⟩
abbrev cX1_hasTwo : ByteArray := prog_3_method_7_code
def yX1_hasTwo : MethodName := ⟨RX1, "hasTwo", "(II)Z"⟩
abbrev cX1_hasTile : ByteArray := prog_3_method_8_code
def yX1_hasTile : MethodName := ⟨RX1, "hasTile", "(I)Z"⟩
abbrev cX1_shade : ByteArray := prog_3_method_10_code
def yX1_shade : MethodName := ⟨RX1, "shade", "(II)I"⟩
abbrev cX1_shadeIf : ByteArray := prog_3_method_11_code
def yX1_shadeIf : MethodName := ⟨RX1, "shadeIf", "(IIII)I"⟩
abbrev cX1_worthOf : ByteArray := prog_3_method_12_code
def yX1_worthOf : MethodName := ⟨RX1, "worthOf", "(I)I"⟩
abbrev cX1_balance : ByteArray := prog_3_method_13_code
def yX1_balance : MethodName := ⟨RX1, "balance", "(III)I"⟩
abbrev cX1_standingOn : ByteArray := prog_3_method_14_code
def yX1_standingOn : MethodName := ⟨RX1, "standingOn", "(I)I"⟩
abbrev cX1_covering : ByteArray := prog_3_method_15_code
def yX1_covering : MethodName := ⟨RX1, "covering", "(I)I"⟩
abbrev cX1_tilesCoveredBy : ByteArray := prog_3_method_16_code
def yX1_tilesCoveredBy : MethodName := ⟨RX1, "tilesCoveredBy", "(I)I"⟩
abbrev cX1_casesAsTheyShouldBe : ByteArray := prog_3_method_17_code
def yX1_casesAsTheyShouldBe : MethodName := ⟨RX1, "casesAsTheyShouldBe", "()I"⟩
def RX2 : String := "ShadowCourt$Docket"
def TX2 : u_T := fun k => match k with
  | 0 => ("ShadowCourt$Docket", "rightHours", "[I", true)
  | 1 => ("ShadowCourt$Docket", "cases", "I", false)
  | 2 => ("ShadowCourt$Docket", "hourOf", "[I", true)
  | _ => ("ShadowCourt$Docket", "heard", "I", false)
def tyX2 : Nat → FieldType := fun k => match k with
  | 0 => .array .int
  | 1 => .int
  | 2 => .array .int
  | _ => .int
abbrev wsX20 : List Cond := u_ws RX2 TX2 4
theorem nmX2 : ∀ a, a < 4 → ∀ b, b < 4 → a ≠ b → (TX2 a).2.1 ≠ (TX2 b).2.1 := by decide +kernel
theorem tyX2_ok : ∀ k, k < 4 → parseFieldDescriptor (TX2 k).2.2.1 = some (tyX2 k) := by decide +kernel
abbrev cX2_init : ByteArray := prog_4_method_1_code
def yX2_init : MethodName := ⟨RX2, "<init>", "()V"⟩
def RX3 : String := "ShadowCourt$Game"
def TX3 : u_T := fun k => match k with
  | 0 => ("ShadowCourt$Game", "worthA", "[I", true)
  | 1 => ("ShadowCourt$Game", "worthB", "[I", true)
  | 2 => ("ShadowCourt$Game", "ahead", "[I", true)
  | 3 => ("ShadowCourt$Game", "behind", "[I", true)
  | 4 => ("ShadowCourt$Game", "total", "I", false)
  | _ => ("ShadowCourt$Game", "firstStep", "I", false)
def tyX3 : Nat → FieldType := fun k => match k with
  | 0 => .array .int
  | 1 => .array .int
  | 2 => .array .int
  | 3 => .array .int
  | 4 => .int
  | _ => .int
abbrev wsX30 : List Cond := u_ws RX3 TX3 6
theorem nmX3 : ∀ a, a < 6 → ∀ b, b < 6 → a ≠ b → (TX3 a).2.1 ≠ (TX3 b).2.1 := by decide +kernel
theorem tyX3_ok : ∀ k, k < 6 → parseFieldDescriptor (TX3 k).2.2.1 = some (tyX3 k) := by decide +kernel
abbrev cX3_init : ByteArray := prog_5_method_1_code
def yX3_init : MethodName := ⟨RX3, "<init>", "()V"⟩
def RX4 : String := "ShadowCourt$Hat"
def TX4 : u_T := fun k => match k with
  | 0 => ("ShadowCourt$Kind", "number", "I", true)
  | _ => ("ShadowCourt$Kind", "higher", "I", true)
def tyX4 : Nat → FieldType := fun k => match k with
  | 0 => .int
  | _ => .int
abbrev wsX40 : List Cond := u_ws RX4 TX4 2
theorem nmX4 : ∀ a, a < 2 → ∀ b, b < 2 → a ≠ b → (TX4 a).2.1 ≠ (TX4 b).2.1 := by decide +kernel
theorem tyX4_ok : ∀ k, k < 2 → parseFieldDescriptor (TX4 k).2.2.1 = some (tyX4 k) := by decide +kernel
abbrev cX4_init : ByteArray := prog_6_method_1_code
def yX4_init : MethodName := ⟨RX4, "<init>", "()V"⟩
abbrev cX4_init_ : ByteArray := prog_6_method_2_code
def yX4_init_ : MethodName := ⟨RX4, "<init>", "(II)V"⟩
def RX5 : String := "ShadowCourt$Kind"
def TX5 : u_T := fun k => match k with
  | 0 => ("ShadowCourt$Kind", "number", "I", true)
  | _ => ("ShadowCourt$Kind", "higher", "I", true)
def tyX5 : Nat → FieldType := fun k => match k with
  | 0 => .int
  | _ => .int
abbrev wsX50 : List Cond := u_ws RX5 TX5 2
theorem nmX5 : ∀ a, a < 2 → ∀ b, b < 2 → a ≠ b → (TX5 a).2.1 ≠ (TX5 b).2.1 := by decide +kernel
theorem tyX5_ok : ∀ k, k < 2 → parseFieldDescriptor (TX5 k).2.2.1 = some (tyX5 k) := by decide +kernel
abbrev cX5_init : ByteArray := prog_7_method_1_code
def yX5_init : MethodName := ⟨RX5, "<init>", "(II)V"⟩
abbrev cX5_shade : ByteArray := prog_7_method_2_code
def yX5_shade : MethodName := ⟨RX5, "shade", "(III)I"⟩
abbrev cX5_length : ByteArray := prog_7_method_3_code
def yX5_length : MethodName := ⟨RX5, "length", "(II)I"⟩
abbrev cX5_west : ByteArray := prog_7_method_4_code
def yX5_west : MethodName := ⟨RX5, "west", "(II)I"⟩
abbrev cX5_east : ByteArray := prog_7_method_5_code
def yX5_east : MethodName := ⟨RX5, "east", "(II)I"⟩
def RX6 : String := "ShadowCourt$Page"
def TX6 : u_T := fun k => match k with
  | 0 => ("ShadowCourt$Page", "letters", "[C", true)
  | _ => ("ShadowCourt$Page", "length", "I", false)
def tyX6 : Nat → FieldType := fun k => match k with
  | 0 => .array .char
  | _ => .int
abbrev wsX60 : List Cond := u_ws RX6 TX6 2
theorem nmX6 : ∀ a, a < 2 → ∀ b, b < 2 → a ≠ b → (TX6 a).2.1 ≠ (TX6 b).2.1 := by decide +kernel
theorem tyX6_ok : ∀ k, k < 2 → parseFieldDescriptor (TX6 k).2.2.1 = some (tyX6 k) := by decide +kernel
abbrev cX6_init : ByteArray := prog_8_method_1_code
def yX6_init : MethodName := ⟨RX6, "<init>", "()V"⟩
abbrev cX6_firstWrong : ByteArray := prog_8_method_2_code
def yX6_firstWrong : MethodName := ⟨RX6, "firstWrong", "()I"⟩
abbrev cX6_isCourt : ByteArray := prog_8_method_3_code
def yX6_isCourt : MethodName := ⟨RX6, "isCourt", "()Z"⟩
abbrev cX6_hasWholeParties : ByteArray := prog_8_method_4_code
def yX6_hasWholeParties : MethodName := ⟨RX6, "hasWholeParties", "()Z"⟩
abbrev cX6_parties : ByteArray := prog_8_method_5_code
def yX6_parties : MethodName := ⟨RX6, "parties", "()I"⟩
abbrev cX6_digitOf : ByteArray := prog_8_method_6_code
def yX6_digitOf : MethodName := ⟨RX6, "digitOf", "(II)I"⟩
abbrev cX6_kindOf : ByteArray := prog_8_method_7_code
def yX6_kindOf : MethodName := ⟨RX6, "kindOf", "(I)LShadowCourt$Kind;"⟩
abbrev cX6_fits : ByteArray := prog_8_method_8_code
def yX6_fits : MethodName := ⟨RX6, "fits", "(I)Z"⟩
def RX7 : String := "ShadowCourt$Plume"
def TX7 : u_T := fun k => match k with
  | 0 => ("ShadowCourt$Kind", "number", "I", true)
  | _ => ("ShadowCourt$Kind", "higher", "I", true)
def tyX7 : Nat → FieldType := fun k => match k with
  | 0 => .int
  | _ => .int
abbrev wsX70 : List Cond := u_ws RX7 TX7 2
theorem nmX7 : ∀ a, a < 2 → ∀ b, b < 2 → a ≠ b → (TX7 a).2.1 ≠ (TX7 b).2.1 := by decide +kernel
theorem tyX7_ok : ∀ k, k < 2 → parseFieldDescriptor (TX7 k).2.2.1 = some (tyX7 k) := by decide +kernel
abbrev cX7_init : ByteArray := prog_9_method_1_code
def yX7_init : MethodName := ⟨RX7, "<init>", "()V"⟩
def RX8 : String := "ShadowCourt$Sight"
def TX8 : u_T := fun k => match k with
  | _ => ("ShadowCourt$Sight", "shades", "[I", true)
def tyX8 : Nat → FieldType := fun k => match k with
  | _ => .array .int
abbrev wsX80 : List Cond := u_ws RX8 TX8 1
theorem nmX8 : ∀ a, a < 1 → ∀ b, b < 1 → a ≠ b → (TX8 a).2.1 ≠ (TX8 b).2.1 := by decide +kernel
theorem tyX8_ok : ∀ k, k < 1 → parseFieldDescriptor (TX8 k).2.2.1 = some (tyX8 k) := by decide +kernel
abbrev cX8_init : ByteArray := prog_10_method_1_code
def yX8_init : MethodName := ⟨RX8, "<init>", "()V"⟩
abbrev cX8_heights : ByteArray := prog_10_method_2_code
def yX8_heights : MethodName := ⟨RX8, "heights", "(LShadowCourt$Court;I)I"⟩
abbrev cX8_isAsSeen : ByteArray := prog_10_method_3_code
def yX8_isAsSeen : MethodName := ⟨RX8, "isAsSeen", "(LShadowCourt$Court;II)Z"⟩
abbrev cX8_look : ByteArray := prog_10_method_4_code
def yX8_look : MethodName := ⟨RX8, "look", "(LShadowCourt$Court;I)I"⟩
abbrev cX8_leftAtWorst : ByteArray := prog_10_method_5_code
def yX8_leftAtWorst : MethodName := ⟨RX8, "leftAtWorst", "(II)I"⟩
def RX9 : String := "ShadowCourt$Terms"
def TX9 : u_T := fun k => match k with
  | 0 => ("ShadowCourt$Terms", "seed", "J", false)
  | 1 => ("ShadowCourt$Terms", "forFirst", "I", false)
  | _ => ("ShadowCourt$Terms", "stayed", "I", false)
def tyX9 : Nat → FieldType := fun k => match k with
  | 0 => .long
  | 1 => .int
  | _ => .int
abbrev wsX90 : List Cond := u_ws RX9 TX9 3
theorem nmX9 : ∀ a, a < 3 → ∀ b, b < 3 → a ≠ b → (TX9 a).2.1 ≠ (TX9 b).2.1 := by decide +kernel
theorem tyX9_ok : ∀ k, k < 3 → parseFieldDescriptor (TX9 k).2.2.1 = some (tyX9 k) := by decide +kernel
abbrev cX9_init : ByteArray := prog_11_method_1_code
def yX9_init : MethodName := ⟨RX9, "<init>", "()V"⟩
abbrev cX9_hold : ByteArray := prog_11_method_2_code
def yX9_hold : MethodName := ⟨RX9, "hold", "(LShadowCourt$Court;II)V"⟩
abbrev cX9_draw : ByteArray := prog_11_method_3_code
def yX9_draw : MethodName := ⟨RX9, "draw", "(I)I"⟩
def RX10 : String := "ShadowCourt$Thin"
def TX10 : u_T := fun k => match k with
  | 0 => ("ShadowCourt$Kind", "number", "I", true)
  | _ => ("ShadowCourt$Kind", "higher", "I", true)
def tyX10 : Nat → FieldType := fun k => match k with
  | 0 => .int
  | _ => .int
abbrev wsX100 : List Cond := u_ws RX10 TX10 2
theorem nmX10 : ∀ a, a < 2 → ∀ b, b < 2 → a ≠ b → (TX10 a).2.1 ≠ (TX10 b).2.1 := by decide +kernel
theorem tyX10_ok : ∀ k, k < 2 → parseFieldDescriptor (TX10 k).2.2.1 = some (tyX10 k) := by decide +kernel
abbrev cX10_init : ByteArray := prog_12_method_1_code
def yX10_init : MethodName := ⟨RX10, "<init>", "()V"⟩
abbrev cX10_shade : ByteArray := prog_12_method_2_code
def yX10_shade : MethodName := ⟨RX10, "shade", "(III)I"⟩
def RX11 : String := "ShadowCourt"
def TX11 : u_T := fun k => match k with
  | 0 => ("ShadowCourt", "page", "LShadowCourt$Page;", true)
  | 1 => ("ShadowCourt", "now", "LShadowCourt$Court;", true)
  | 2 => ("ShadowCourt", "kept", "LShadowCourt$Court;", true)
  | 3 => ("ShadowCourt", "sight", "LShadowCourt$Sight;", true)
  | 4 => ("ShadowCourt", "play", "LShadowCourt$Game;", true)
  | 5 => ("ShadowCourt", "list", "LShadowCourt$Docket;", true)
  | 6 => ("ShadowCourt", "draws", "LShadowCourt$Terms;", true)
  | 7 => ("ShadowCourt", "isKept", "Z", false)
  | _ => ("ShadowCourt", "courts", "I", false)
def tyX11 : Nat → FieldType := fun k => match k with
  | 0 => .object "ShadowCourt$Page"
  | 1 => .object "ShadowCourt$Court"
  | 2 => .object "ShadowCourt$Court"
  | 3 => .object "ShadowCourt$Sight"
  | 4 => .object "ShadowCourt$Game"
  | 5 => .object "ShadowCourt$Docket"
  | 6 => .object "ShadowCourt$Terms"
  | 7 => .boolean
  | _ => .int
abbrev wsX110 : List Cond := u_ws RX11 TX11 9
theorem nmX11 : ∀ a, a < 9 → ∀ b, b < 9 → a ≠ b → (TX11 a).2.1 ≠ (TX11 b).2.1 := by decide +kernel
theorem tyX11_ok : ∀ k, k < 9 → parseFieldDescriptor (TX11 k).2.2.1 = some (tyX11 k) := by decide +kernel
abbrev cX11_init : ByteArray := prog_1_method_1_code
def yX11_init : MethodName := ⟨RX11, "<init>", "()V"⟩
abbrev cX11_letter : ByteArray := prog_1_method_2_code
def yX11_letter : MethodName := ⟨RX11, "letter", "(I)I"⟩
abbrev cX11_fault : ByteArray := prog_1_method_4_code
def yX11_fault : MethodName := ⟨RX11, "fault", "()I"⟩
abbrev cX11_court : ByteArray := prog_1_method_5_code
def yX11_court : MethodName := ⟨RX11, "court", "()I"⟩
abbrev cX11_party : ByteArray := prog_1_method_6_code
def yX11_party : MethodName := ⟨RX11, "party", "(II)I"⟩
abbrev cX11_as : ByteArray := prog_1_method_7_code
def yX11_as : MethodName := ⟨RX11, "as", "(II)I"⟩
abbrev cX11_covers : ByteArray := prog_1_method_8_code
def yX11_covers : MethodName := ⟨RX11, "covers", "(II)I"⟩
abbrev cX11_tile : ByteArray := prog_1_method_9_code
def yX11_tile : MethodName := ⟨RX11, "tile", "(II)I"⟩
abbrev cX11_found : ByteArray := prog_1_method_10_code
def yX11_found : MethodName := ⟨RX11, "found", "(III)I"⟩
abbrev cX11_tick : ByteArray := prog_1_method_11_code
def yX11_tick : MethodName := ⟨RX11, "tick", "()I"⟩
abbrev cX11_step : ByteArray := prog_1_method_12_code
def yX11_step : MethodName := ⟨RX11, "step", "(II)I"⟩
abbrev cX11_stand : ByteArray := prog_1_method_13_code
def yX11_stand : MethodName := ⟨RX11, "stand", "(II)I"⟩
abbrev cX11_rise : ByteArray := prog_1_method_14_code
def yX11_rise : MethodName := ⟨RX11, "rise", "(II)I"⟩
abbrev cX11_lay : ByteArray := prog_1_method_15_code
def yX11_lay : MethodName := ⟨RX11, "lay", "(II)I"⟩
abbrev cX11_file : ByteArray := prog_1_method_16_code
def yX11_file : MethodName := ⟨RX11, "file", "(II)I"⟩
abbrev cX11_settle : ByteArray := prog_1_method_17_code
def yX11_settle : MethodName := ⟨RX11, "settle", "()I"⟩
abbrev cX11_terms : ByteArray := prog_1_method_23_code
def yX11_terms : MethodName := ⟨RX11, "terms", "(III)I"⟩
abbrev cX11_count : ByteArray := prog_1_method_26_code
def yX11_count : MethodName := ⟨RX11, "count", "(I)I"⟩
abbrev cX11_within : ByteArray := prog_1_method_29_code
def yX11_within : MethodName := ⟨RX11, "within", "(III)Z"⟩
abbrev cX11_isTile : ByteArray := prog_1_method_30_code
def yX11_isTile : MethodName := ⟨RX11, "isTile", "(I)Z"⟩
abbrev cX11_isHour : ByteArray := prog_1_method_31_code
def yX11_isHour : MethodName := ⟨RX11, "isHour", "(I)Z"⟩
def RX12 : String := "ShadowCourtModel"
def TX12 : u_T := fun k => match k with
  | _ => ("", "", "", false)
def tyX12 : Nat → FieldType := fun k => match k with
  | _ => .int
abbrev wsX120 : List Cond := u_ws RX12 TX12 0
theorem nmX12 : ∀ a, a < 0 → ∀ b, b < 0 → a ≠ b → (TX12 a).2.1 ≠ (TX12 b).2.1 := by decide +kernel
theorem tyX12_ok : ∀ k, k < 0 → parseFieldDescriptor (TX12 k).2.2.1 = some (tyX12 k) := by decide +kernel
def RJ11 : String := "java/lang/Character"
def TJ11 : u_T := fun k => match k with
  | _ => ("", "", "", false)
def tyJ11 : Nat → FieldType := fun k => match k with
  | _ => .int
abbrev wsJ110 : List Cond := u_ws RJ11 TJ11 0
theorem nmJ11 : ∀ a, a < 0 → ∀ b, b < 0 → a ≠ b → (TJ11 a).2.1 ≠ (TJ11 b).2.1 := by decide +kernel
theorem tyJ11_ok : ∀ k, k < 0 → parseFieldDescriptor (TJ11 k).2.2.1 = some (tyJ11 k) := by decide +kernel
abbrev cJ11_isValidCodePoint_9a6ad : ByteArray := prog_15_method_11_code
def yJ11_isValidCodePoint_9a6ad : MethodName := ⟨RJ11, "isValidCodePoint", "(I)Z"⟩
abbrev cJ11_highSurrogate_5068e : ByteArray := prog_15_method_28_code
def yJ11_highSurrogate_5068e : MethodName := ⟨RJ11, "highSurrogate", "(I)C"⟩
abbrev cJ11_lowSurrogate_5068e : ByteArray := prog_15_method_29_code
def yJ11_lowSurrogate_5068e : MethodName := ⟨RJ11, "lowSurrogate", "(I)C"⟩
def RJ6 : String := "java/lang/Integer"
def TJ6 : u_T := fun k => match k with
  | _ => ("", "", "", false)
def tyJ6 : Nat → FieldType := fun k => match k with
  | _ => .int
abbrev wsJ60 : List Cond := u_ws RJ6 TJ6 0
theorem nmJ6 : ∀ a, a < 0 → ∀ b, b < 0 → a ≠ b → (TJ6 a).2.1 ≠ (TJ6 b).2.1 := by decide +kernel
theorem tyJ6_ok : ∀ k, k < 0 → parseFieldDescriptor (TJ6 k).2.2.1 = some (tyJ6 k) := by decide +kernel
abbrev cJ6_bitCount_0f7a4 : ByteArray := prog_16_method_49_code
def yJ6_bitCount_0f7a4 : MethodName := ⟨RJ6, "bitCount", "(I)I"⟩
def RJ9 : String := "java/lang/Math"
def TJ9 : u_T := fun k => match k with
  | _ => ("", "", "", false)
def tyJ9 : Nat → FieldType := fun k => match k with
  | _ => .int
abbrev wsJ90 : List Cond := u_ws RJ9 TJ9 0
theorem nmJ9 : ∀ a, a < 0 → ∀ b, b < 0 → a ≠ b → (TJ9 a).2.1 ≠ (TJ9 b).2.1 := by decide +kernel
theorem tyJ9_ok : ∀ k, k < 0 → parseFieldDescriptor (TJ9 k).2.2.1 = some (tyJ9 k) := by decide +kernel
abbrev cJ9_max_7cf53 : ByteArray := prog_17_method_65_code
def yJ9_max_7cf53 : MethodName := ⟨RJ9, "max", "(II)I"⟩
abbrev cJ9_min_7cf53 : ByteArray := prog_17_method_69_code
def yJ9_min_7cf53 : MethodName := ⟨RJ9, "min", "(II)I"⟩
def RJ0 : String := "java/lang/String"
def TJ0 : u_T := fun k => match k with
  | _ => ("", "", "", false)
def tyJ0 : Nat → FieldType := fun k => match k with
  | _ => .int
abbrev wsJ00 : List Cond := u_ws RJ0 TJ0 0
theorem nmJ0 : ∀ a, a < 0 → ∀ b, b < 0 → a ≠ b → (TJ0 a).2.1 ≠ (TJ0 b).2.1 := by decide +kernel
theorem tyJ0_ok : ∀ k, k < 0 → parseFieldDescriptor (TJ0 k).2.2.1 = some (tyJ0 k) := by decide +kernel
abbrev cJ0_length_8abf5 : ByteArray := prog_18_method_54_code
def yJ0_length_8abf5 : MethodName := ⟨RJ0, "length", "()I"⟩
abbrev cJ0_indexOf_0f7a4 : ByteArray := prog_18_method_79_code
def yJ0_indexOf_0f7a4 : MethodName := ⟨RJ0, "indexOf", "(I)I"⟩
abbrev cJ0_indexOf_7cf53 : ByteArray := prog_18_method_80_code
def yJ0_indexOf_7cf53 : MethodName := ⟨RJ0, "indexOf", "(II)I"⟩
abbrev cJ0_coder_7d493 : ByteArray := prog_18_method_152_code
def yJ0_coder_7d493 : MethodName := ⟨RJ0, "coder", "()B"⟩
abbrev cJ0_isLatin1_aae02 : ByteArray := prog_18_method_154_code
def yJ0_isLatin1_aae02 : MethodName := ⟨RJ0, "isLatin1", "()Z"⟩
abbrev cJ0_checkBoundsBeginEnd_23922 : ByteArray := prog_18_method_158_code
def yJ0_checkBoundsBeginEnd_23922 : MethodName := ⟨RJ0, "checkBoundsBeginEnd", "(III)V"⟩
def RJ1 : String := "java/lang/StringLatin1"
def TJ1 : u_T := fun k => match k with
  | _ => ("", "", "", false)
def tyJ1 : Nat → FieldType := fun k => match k with
  | _ => .int
abbrev wsJ10 : List Cond := u_ws RJ1 TJ1 0
theorem nmJ1 : ∀ a, a < 0 → ∀ b, b < 0 → a ≠ b → (TJ1 a).2.1 ≠ (TJ1 b).2.1 := by decide +kernel
theorem tyJ1_ok : ∀ k, k < 0 → parseFieldDescriptor (TJ1 k).2.2.1 = some (tyJ1 k) := by decide +kernel
abbrev cJ1_canEncode_9a6ad : ByteArray := prog_19_method_4_code
def yJ1_canEncode_9a6ad : MethodName := ⟨RJ1, "canEncode", "(I)Z"⟩
abbrev cJ1_indexOf_4cfef : ByteArray := prog_19_method_22_code
def yJ1_indexOf_4cfef : MethodName := ⟨RJ1, "indexOf", "([BIII)I"⟩
abbrev cJ1_indexOfChar_4cfef : ByteArray := prog_19_method_23_code
def yJ1_indexOfChar_4cfef : MethodName := ⟨RJ1, "indexOfChar", "([BIII)I"⟩
def RJ2 : String := "java/lang/StringUTF16"
def TJ2 : u_T := fun k => match k with
  | _ => ("", "", "", false)
def tyJ2 : Nat → FieldType := fun k => match k with
  | _ => .int
abbrev wsJ20 : List Cond := u_ws RJ2 TJ2 0
theorem nmJ2 : ∀ a, a < 0 → ∀ b, b < 0 → a ≠ b → (TJ2 a).2.1 ≠ (TJ2 b).2.1 := by decide +kernel
theorem tyJ2_ok : ∀ k, k < 0 → parseFieldDescriptor (TJ2 k).2.2.1 = some (tyJ2 k) := by decide +kernel
abbrev cJ2_getChar_3b067 : ByteArray := prog_20_method_5_code
def yJ2_getChar_3b067 : MethodName := ⟨RJ2, "getChar", "([BI)C"⟩
abbrev cJ2_length_9d52b : ByteArray := prog_20_method_6_code
def yJ2_length_9d52b : MethodName := ⟨RJ2, "length", "([B)I"⟩
abbrev cJ2_indexOf_4cfef : ByteArray := prog_20_method_40_code
def yJ2_indexOf_4cfef : MethodName := ⟨RJ2, "indexOf", "([BIII)I"⟩
abbrev cJ2_indexOfChar_4cfef : ByteArray := prog_20_method_47_code
def yJ2_indexOfChar_4cfef : MethodName := ⟨RJ2, "indexOfChar", "([BIII)I"⟩
abbrev cJ2_indexOfCharUnsafe_4cfef : ByteArray := prog_20_method_48_code
def yJ2_indexOfCharUnsafe_4cfef : MethodName := ⟨RJ2, "indexOfCharUnsafe", "([BIII)I"⟩
abbrev cJ2_indexOfSupplementary_4cfef : ByteArray := prog_20_method_49_code
def yJ2_indexOfSupplementary_4cfef : MethodName := ⟨RJ2, "indexOfSupplementary", "([BIII)I"⟩
abbrev cJ2_checkBoundsBeginEnd_d044e : ByteArray := prog_20_method_93_code
def yJ2_checkBoundsBeginEnd_d044e : MethodName := ⟨RJ2, "checkBoundsBeginEnd", "(II[B)V"⟩
def RJ3 : String := "jdk/internal/util/Preconditions"
def TJ3 : u_T := fun k => match k with
  | _ => ("", "", "", false)
def tyJ3 : Nat → FieldType := fun k => match k with
  | _ => .int
abbrev wsJ30 : List Cond := u_ws RJ3 TJ3 0
theorem nmJ3 : ∀ a, a < 0 → ∀ b, b < 0 → a ≠ b → (TJ3 a).2.1 ≠ (TJ3 b).2.1 := by decide +kernel
theorem tyJ3_ok : ∀ k, k < 0 → parseFieldDescriptor (TJ3 k).2.2.1 = some (tyJ3 k) := by decide +kernel
abbrev cJ3_checkFromToIndex_8c36e : ByteArray := prog_21_method_12_code
def yJ3_checkFromToIndex_8c36e : MethodName := ⟨RJ3, "checkFromToIndex", "(IIILjava/util/function/BiFunction;)I"⟩
def RL : String := "ShadowCourtLaw"
abbrev cL_cell : ByteArray := method_2_code
def yL_cell : MethodName := ⟨RL, "cell", "([II)I"⟩
abbrev cL_put : ByteArray := method_3_code
def yL_put : MethodName := ⟨RL, "put", "(LShadowCourt;I)Z"⟩
abbrev cL_court : ByteArray := method_4_code
def yL_court : MethodName := ⟨RL, "court", "(LShadowCourt;III[I)Z"⟩
abbrev cL_covers : ByteArray := method_5_code
def yL_covers : MethodName := ⟨RL, "covers", "(IIIII)Z"⟩
abbrev cL_bits : ByteArray := method_6_code
def yL_bits : MethodName := ⟨RL, "bits", "([III)I"⟩
abbrev cL_worth : ByteArray := method_7_code
def yL_worth : MethodName := ⟨RL, "worth", "([II)I"⟩
abbrev cL_find : ByteArray := method_8_code
def yL_find : MethodName := ⟨RL, "find", "([IIII)I"⟩
abbrev cL_ones : ByteArray := method_9_code
def yL_ones : MethodName := ⟨RL, "ones", "(I)I"⟩
abbrev cL_act : ByteArray := method_10_code
def yL_act : MethodName := ⟨RL, "act", "(LShadowCourt;I[I)Z"⟩
abbrev cL_law : ByteArray := code
def yL_law : MethodName := ⟨RL, "law", "([I)Z"⟩
abbrev cL_told : ByteArray := method_12_code
def yL_told : MethodName := ⟨RL, "told", "(LShadowCourt;[II)Z"⟩
abbrev vwCl : List vw_C := [(RX0, TX0, 2), (RX1, TX1, 15), (RX2, TX2, 4), (RX3, TX3, 6), (RX4, TX4, 2), (RX5, TX5, 2), (RX6, TX6, 2), (RX7, TX7, 2), (RX8, TX8, 1), (RX9, TX9, 3), (RX10, TX10, 2), (RX11, TX11, 9)]
