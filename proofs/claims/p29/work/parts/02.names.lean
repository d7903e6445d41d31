def RX0 : String := "TagRoot$Hands"
def TX0 : u_T := fun k => match k with
  | 0 => ("TagRoot$Hands", "sets", "[I", true)
  | 1 => ("TagRoot$Hands", "edited", "[I", true)
  | 2 => ("TagRoot$Hands", "changedThings", "[I", true)
  | 3 => ("TagRoot$Hands", "setsAhead", "[I", true)
  | 4 => ("TagRoot$Hands", "size", "I", false)
  | 5 => ("TagRoot$Hands", "keptSize", "I", false)
  | _ => ("TagRoot$Hands", "nextSlot", "I", false)
def tyX0 : Nat → FieldType := fun k => match k with
  | 0 => .array .int
  | 1 => .array .int
  | 2 => .array .int
  | 3 => .array .int
  | 4 => .int
  | 5 => .int
  | _ => .int
theorem nmX0 : ∀ a, a < 7 → ∀ b, b < 7 → a ≠ b → (TX0 a).2.1 ≠ (TX0 b).2.1 := by decide +kernel
theorem tyX0_ok : ∀ k, k < 7 → parseFieldDescriptor (TX0 k).2.2.1 = some (tyX0 k) := by decide +kernel
abbrev cX0_init : ByteArray := prog_2_method_1_code
def yX0_init : MethodName := ⟨RX0, "<init>", "()V"⟩
abbrev cX0_startEdit : ByteArray := prog_2_method_2_code
def yX0_startEdit : MethodName := ⟨RX0, "startEdit", "()V"⟩
abbrev cX0_finishEdit : ByteArray := prog_2_method_3_code
def yX0_finishEdit : MethodName := ⟨RX0, "finishEdit", "()I"⟩
abbrev cX0_keep : ByteArray := prog_2_method_4_code
def yX0_keep : MethodName := ⟨RX0, "keep", "(I)V"⟩
abbrev cX0_restoreLatest : ByteArray := prog_2_method_5_code
def yX0_restoreLatest : MethodName := ⟨RX0, "restoreLatest", "()I"⟩
def RX1 : String := "TagRoot$Names"
def TX1 : u_T := fun k => match k with
  | 0 => ("TagRoot$Names", "letters", "[C", true)
  | 1 => ("TagRoot$Names", "lengths", "[I", true)
  | 2 => ("TagRoot$Names", "draft", "[C", true)
  | 3 => ("TagRoot$Names", "size", "I", false)
  | _ => ("TagRoot$Names", "draftLength", "I", false)
def tyX1 : Nat → FieldType := fun k => match k with
  | 0 => .array .char
  | 1 => .array .int
  | 2 => .array .char
  | 3 => .int
  | _ => .int
theorem nmX1 : ∀ a, a < 5 → ∀ b, b < 5 → a ≠ b → (TX1 a).2.1 ≠ (TX1 b).2.1 := by decide +kernel
theorem tyX1_ok : ∀ k, k < 5 → parseFieldDescriptor (TX1 k).2.2.1 = some (tyX1 k) := by decide +kernel
abbrev cX1_init : ByteArray := prog_3_method_1_code
def yX1_init : MethodName := ⟨RX1, "<init>", "()V"⟩
abbrev cX1_append : ByteArray := prog_3_method_2_code
def yX1_append : MethodName := ⟨RX1, "append", "(C)V"⟩
abbrev cX1_emptyDraft : ByteArray := prog_3_method_3_code
def yX1_emptyDraft : MethodName := ⟨RX1, "emptyDraft", "()V"⟩
abbrev cX1_letterAt : ByteArray := prog_3_method_4_code
def yX1_letterAt : MethodName := ⟨RX1, "letterAt", "(II)C"⟩
abbrev cX1_findDraft : ByteArray := prog_3_method_5_code
def yX1_findDraft : MethodName := ⟨RX1, "findDraft", "()I"⟩
abbrev cX1_addDraft : ByteArray := prog_3_method_6_code
def yX1_addDraft : MethodName := ⟨RX1, "addDraft", "()I"⟩
abbrev cX1_isDraft : ByteArray := prog_3_method_7_code
def yX1_isDraft : MethodName := ⟨RX1, "isDraft", "(I)Z"⟩
abbrev cX1_plain : ByteArray := prog_3_method_8_code
def yX1_plain : MethodName := ⟨RX1, "plain", "(C)C"⟩
def RX2 : String := "TagRoot$Requests"
def TX2 : u_T := fun k => match k with
  | 0 => ("TagRoot$Requests", "kinds", "[I", true)
  | 1 => ("TagRoot$Requests", "sources", "[I", true)
  | 2 => ("TagRoot$Requests", "targets", "[I", true)
  | 3 => ("TagRoot$Requests", "states", "[I", true)
  | 4 => ("TagRoot$Requests", "votersFor", "[I", true)
  | 5 => ("TagRoot$Requests", "votersAgainst", "[I", true)
  | _ => ("TagRoot$Requests", "size", "I", false)
def tyX2 : Nat → FieldType := fun k => match k with
  | 0 => .array .int
  | 1 => .array .int
  | 2 => .array .int
  | 3 => .array .int
  | 4 => .array .int
  | 5 => .array .int
  | _ => .int
theorem nmX2 : ∀ a, a < 7 → ∀ b, b < 7 → a ≠ b → (TX2 a).2.1 ≠ (TX2 b).2.1 := by decide +kernel
theorem tyX2_ok : ∀ k, k < 7 → parseFieldDescriptor (TX2 k).2.2.1 = some (tyX2 k) := by decide +kernel
abbrev cX2_init : ByteArray := prog_4_method_1_code
def yX2_init : MethodName := ⟨RX2, "<init>", "()V"⟩
abbrev cX2_add : ByteArray := prog_4_method_2_code
def yX2_add : MethodName := ⟨RX2, "add", "(III)I"⟩
abbrev cX2_setVote : ByteArray := prog_4_method_3_code
def yX2_setVote : MethodName := ⟨RX2, "setVote", "(IIZ)V"⟩
abbrev cX2_leadOf : ByteArray := prog_4_method_4_code
def yX2_leadOf : MethodName := ⟨RX2, "leadOf", "(I)I"⟩
abbrev cX2_isAllowedBy : ByteArray := prog_4_method_5_code
def yX2_isAllowedBy : MethodName := ⟨RX2, "isAllowedBy", "(LTagRoot$Rules;I)Z"⟩
abbrev cX2_carryOut : ByteArray := prog_4_method_6_code
def yX2_carryOut : MethodName := ⟨RX2, "carryOut", "(LTagRoot$Rules;I)V"⟩
def RX3 : String := "TagRoot$Rows"
def TX3 : u_T := fun k => match k with
  | _ => ("TagRoot$Rows", "showing", "[I", true)
def tyX3 : Nat → FieldType := fun k => match k with
  | _ => .array .int
theorem nmX3 : ∀ a, a < 1 → ∀ b, b < 1 → a ≠ b → (TX3 a).2.1 ≠ (TX3 b).2.1 := by decide +kernel
theorem tyX3_ok : ∀ k, k < 1 → parseFieldDescriptor (TX3 k).2.2.1 = some (tyX3 k) := by decide +kernel
abbrev cX3_init : ByteArray := prog_5_method_1_code
def yX3_init : MethodName := ⟨RX3, "<init>", "()V"⟩
abbrev cX3_refresh : ByteArray := prog_5_method_2_code
def yX3_refresh : MethodName := ⟨RX3, "refresh", "(LTagRoot$Rules;LTagRoot$Hands;)V"⟩
abbrev cX3_column : ByteArray := prog_5_method_3_code
def yX3_column : MethodName := ⟨RX3, "column", "(II)I"⟩
def RX4 : String := "TagRoot$Rules"
def TX4 : u_T := fun k => match k with
  | 0 => ("TagRoot$Rules", "aliases", "[I", true)
  | 1 => ("TagRoot$Rules", "implied", "[I", true)
  | 2 => ("TagRoot$Rules", "next", "[I", true)
  | 3 => ("TagRoot$Rules", "reached", "[I", true)
  | _ => ("TagRoot$Rules", "size", "I", false)
def tyX4 : Nat → FieldType := fun k => match k with
  | 0 => .array .int
  | 1 => .array .int
  | 2 => .array .int
  | 3 => .array .int
  | _ => .int
theorem nmX4 : ∀ a, a < 5 → ∀ b, b < 5 → a ≠ b → (TX4 a).2.1 ≠ (TX4 b).2.1 := by decide +kernel
theorem tyX4_ok : ∀ k, k < 5 → parseFieldDescriptor (TX4 k).2.2.1 = some (tyX4 k) := by decide +kernel
abbrev cX4_init : ByteArray := prog_6_method_1_code
def yX4_init : MethodName := ⟨RX4, "<init>", "()V"⟩
abbrev cX4_grow : ByteArray := prog_6_method_2_code
def yX4_grow : MethodName := ⟨RX4, "grow", "(I)V"⟩
abbrev cX4_copyFrom : ByteArray := prog_6_method_3_code
def yX4_copyFrom : MethodName := ⟨RX4, "copyFrom", "(LTagRoot$Rules;)V"⟩
abbrev cX4_endOf : ByteArray := prog_6_method_4_code
def yX4_endOf : MethodName := ⟨RX4, "endOf", "(I)I"⟩
abbrev cX4_allows : ByteArray := prog_6_method_5_code
def yX4_allows : MethodName := ⟨RX4, "allows", "(III)Z"⟩
abbrev cX4_allowsAlias : ByteArray := prog_6_method_6_code
def yX4_allowsAlias : MethodName := ⟨RX4, "allowsAlias", "(II)Z"⟩
abbrev cX4_carryOut : ByteArray := prog_6_method_7_code
def yX4_carryOut : MethodName := ⟨RX4, "carryOut", "(III)V"⟩
abbrev cX4_workOut : ByteArray := prog_6_method_8_code
def yX4_workOut : MethodName := ⟨RX4, "workOut", "()V"⟩
abbrev cX4_reachOver : ByteArray := prog_6_method_9_code
def yX4_reachOver : MethodName := ⟨RX4, "reachOver", "(I)V"⟩
abbrev cX4_endsOf : ByteArray := prog_6_method_10_code
def yX4_endsOf : MethodName := ⟨RX4, "endsOf", "(I)I"⟩
abbrev cX4_reachedFrom : ByteArray := prog_6_method_11_code
def yX4_reachedFrom : MethodName := ⟨RX4, "reachedFrom", "(I)I"⟩
abbrev cX4_spread : ByteArray := prog_6_method_12_code
def yX4_spread : MethodName := ⟨RX4, "spread", "(I)I"⟩
abbrev cX4_nearest : ByteArray := prog_6_method_13_code
def yX4_nearest : MethodName := ⟨RX4, "nearest", "(II)I"⟩
abbrev cX4_leadingTo : ByteArray := prog_6_method_14_code
def yX4_leadingTo : MethodName := ⟨RX4, "leadingTo", "(I)I"⟩
def RX5 : String := "TagRoot"
def TX5 : u_T := fun k => match k with
  | 0 => ("TagRoot", "names", "LTagRoot$Names;", true)
  | 1 => ("TagRoot", "rules", "LTagRoot$Rules;", true)
  | 2 => ("TagRoot", "trial", "LTagRoot$Rules;", true)
  | 3 => ("TagRoot", "requests", "LTagRoot$Requests;", true)
  | 4 => ("TagRoot", "hands", "LTagRoot$Hands;", true)
  | _ => ("TagRoot", "rows", "LTagRoot$Rows;", true)
def tyX5 : Nat → FieldType := fun k => match k with
  | 0 => .object "TagRoot$Names"
  | 1 => .object "TagRoot$Rules"
  | 2 => .object "TagRoot$Rules"
  | 3 => .object "TagRoot$Requests"
  | 4 => .object "TagRoot$Hands"
  | _ => .object "TagRoot$Rows"
theorem nmX5 : ∀ a, a < 6 → ∀ b, b < 6 → a ≠ b → (TX5 a).2.1 ≠ (TX5 b).2.1 := by decide +kernel
theorem tyX5_ok : ∀ k, k < 6 → parseFieldDescriptor (TX5 k).2.2.1 = some (tyX5 k) := by decide +kernel
abbrev cX5_init : ByteArray := prog_1_method_1_code
def yX5_init : MethodName := ⟨RX5, "<init>", "()V"⟩
abbrev cX5_type : ByteArray := prog_1_method_2_code
def yX5_type : MethodName := ⟨RX5, "type", "(C)I"⟩
abbrev cX5_enter : ByteArray := prog_1_method_3_code
def yX5_enter : MethodName := ⟨RX5, "enter", "()I"⟩
abbrev cX5_tags : ByteArray := prog_1_method_4_code
def yX5_tags : MethodName := ⟨RX5, "tags", "()I"⟩
abbrev cX5_letter : ByteArray := prog_1_method_5_code
def yX5_letter : MethodName := ⟨RX5, "letter", "(II)C"⟩
abbrev cX5_addThing : ByteArray := prog_1_method_6_code
def yX5_addThing : MethodName := ⟨RX5, "addThing", "()I"⟩
abbrev cX5_things : ByteArray := prog_1_method_7_code
def yX5_things : MethodName := ⟨RX5, "things", "()I"⟩
abbrev cX5_tag : ByteArray := prog_1_method_8_code
def yX5_tag : MethodName := ⟨RX5, "tag", "(II)Z"⟩
abbrev cX5_untag : ByteArray := prog_1_method_9_code
def yX5_untag : MethodName := ⟨RX5, "untag", "(II)Z"⟩
abbrev cX5_mass : ByteArray := prog_1_method_10_code
def yX5_mass : MethodName := ⟨RX5, "mass", "(III)I"⟩
abbrev cX5_undo : ByteArray := prog_1_method_11_code
def yX5_undo : MethodName := ⟨RX5, "undo", "()I"⟩
abbrev cX5_kept : ByteArray := prog_1_method_12_code
def yX5_kept : MethodName := ⟨RX5, "kept", "()I"⟩
abbrev cX5_hand : ByteArray := prog_1_method_13_code
def yX5_hand : MethodName := ⟨RX5, "hand", "(I)I"⟩
abbrev cX5_ask : ByteArray := prog_1_method_14_code
def yX5_ask : MethodName := ⟨RX5, "ask", "(III)I"⟩
abbrev cX5_vote : ByteArray := prog_1_method_15_code
def yX5_vote : MethodName := ⟨RX5, "vote", "(IIZ)I"⟩
abbrev cX5_standing : ByteArray := prog_1_method_16_code
def yX5_standing : MethodName := ⟨RX5, "standing", "(I)I"⟩
abbrev cX5_couldPass : ByteArray := prog_1_method_17_code
def yX5_couldPass : MethodName := ⟨RX5, "couldPass", "(I)Z"⟩
abbrev cX5_clashes : ByteArray := prog_1_method_18_code
def yX5_clashes : MethodName := ⟨RX5, "clashes", "(I)I"⟩
abbrev cX5_alias : ByteArray := prog_1_method_19_code
def yX5_alias : MethodName := ⟨RX5, "alias", "(I)I"⟩
abbrev cX5_end : ByteArray := prog_1_method_20_code
def yX5_end : MethodName := ⟨RX5, "end", "(I)I"⟩
abbrev cX5_implies : ByteArray := prog_1_method_21_code
def yX5_implies : MethodName := ⟨RX5, "implies", "(II)Z"⟩
abbrev cX5_shown : ByteArray := prog_1_method_22_code
def yX5_shown : MethodName := ⟨RX5, "shown", "(I)I"⟩
abbrev cX5_shownByHand : ByteArray := prog_1_method_23_code
def yX5_shownByHand : MethodName := ⟨RX5, "shownByHand", "(I)I"⟩
abbrev cX5_users : ByteArray := prog_1_method_24_code
def yX5_users : MethodName := ⟨RX5, "users", "(I)I"⟩
abbrev cX5_reason : ByteArray := prog_1_method_25_code
def yX5_reason : MethodName := ⟨RX5, "reason", "(II)I"⟩
abbrev cX5_count : ByteArray := prog_1_method_26_code
def yX5_count : MethodName := ⟨RX5, "count", "(III)I"⟩
abbrev cX5_match : ByteArray := prog_1_method_27_code
def yX5_match : MethodName := ⟨RX5, "match", "(IIII)I"⟩
abbrev cX5_needTag : ByteArray := prog_1_method_28_code
def yX5_needTag : MethodName := ⟨RX5, "needTag", "(I)V"⟩
abbrev cX5_needThing : ByteArray := prog_1_method_29_code
def yX5_needThing : MethodName := ⟨RX5, "needThing", "(I)V"⟩
abbrev cX5_needRequest : ByteArray := prog_1_method_30_code
def yX5_needRequest : MethodName := ⟨RX5, "needRequest", "(I)V"⟩
abbrev cX5_needSets : ByteArray := prog_1_method_31_code
def yX5_needSets : MethodName := ⟨RX5, "needSets", "(III)V"⟩
abbrev cX5_isTagSet : ByteArray := prog_1_method_32_code
def yX5_isTagSet : MethodName := ⟨RX5, "isTagSet", "(I)Z"⟩
abbrev cX5_finishEdit : ByteArray := prog_1_method_33_code
def yX5_finishEdit : MethodName := ⟨RX5, "finishEdit", "()I"⟩
abbrev cX5_decide : ByteArray := prog_1_method_34_code
def yX5_decide : MethodName := ⟨RX5, "decide", "(II)V"⟩
abbrev cX5_isOpenAndAllowed : ByteArray := prog_1_method_35_code
def yX5_isOpenAndAllowed : MethodName := ⟨RX5, "isOpenAndAllowed", "(I)Z"⟩
abbrev cX5_isAllowedBehind : ByteArray := prog_1_method_36_code
def yX5_isAllowedBehind : MethodName := ⟨RX5, "isAllowedBehind", "(II)Z"⟩
abbrev cX5_matching : ByteArray := prog_1_method_37_code
def yX5_matching : MethodName := ⟨RX5, "matching", "(III)I"⟩
abbrev cX5_memberAt : ByteArray := prog_1_method_38_code
def yX5_memberAt : MethodName := ⟨RX5, "memberAt", "(II)I"⟩
abbrev cX5_massEdited : ByteArray := prog_1_method_39_code
def yX5_massEdited : MethodName := ⟨RX5, "massEdited", "(IIII)I"⟩
abbrev cX5_has : ByteArray := prog_1_method_40_code
def yX5_has : MethodName := ⟨RX5, "has", "(II)Z"⟩
abbrev cX5_isNameCharacter : ByteArray := prog_1_method_41_code
def yX5_isNameCharacter : MethodName := ⟨RX5, "isNameCharacter", "(C)Z"⟩
def RX6 : String := "TagRootModel"
def TX6 : u_T := fun k => match k with
  | _ => ("", "", "", false)
def tyX6 : Nat → FieldType := fun k => match k with
  | _ => .int
theorem nmX6 : ∀ a, a < 0 → ∀ b, b < 0 → a ≠ b → (TX6 a).2.1 ≠ (TX6 b).2.1 := by decide +kernel
theorem tyX6_ok : ∀ k, k < 0 → parseFieldDescriptor (TX6 k).2.2.1 = some (tyX6 k) := by decide +kernel
def RJ6 : String := "java/lang/Integer"
abbrev cJ6_bitCount_0f7a4 : ByteArray := prog_13_method_49_code
def yJ6_bitCount_0f7a4 : MethodName := ⟨RJ6, "bitCount", "(I)I"⟩
def RJ9 : String := "java/lang/Math"
abbrev cJ9_abs_0f7a4 : ByteArray := prog_14_method_59_code
def yJ9_abs_0f7a4 : MethodName := ⟨RJ9, "abs", "(I)I"⟩
abbrev cJ9_min_7cf53 : ByteArray := prog_14_method_69_code
def yJ9_min_7cf53 : MethodName := ⟨RJ9, "min", "(II)I"⟩
def RJ0 : String := "java/lang/String"
def RL : String := "TagRootLaw"
abbrev cL_cell : ByteArray := method_2_code
def yL_cell : MethodName := ⟨RL, "cell", "([II)I"⟩
abbrev cL_low : ByteArray := method_3_code
def yL_low : MethodName := ⟨RL, "low", "(II)I"⟩
abbrev cL_does : ByteArray := method_4_code
def yL_does : MethodName := ⟨RL, "does", "(LTagRoot;IIII)I"⟩
abbrev cL_type : ByteArray := method_5_code
def yL_type : MethodName := ⟨RL, "type", "(LTagRoot;C)I"⟩
abbrev cL_standing : ByteArray := method_6_code
def yL_standing : MethodName := ⟨RL, "standing", "(LTagRoot;I)I"⟩
abbrev cL_match : ByteArray := method_7_code
def yL_match : MethodName := ⟨RL, "match", "(LTagRoot;IIII)I"⟩
abbrev cL_act : ByteArray := method_8_code
def yL_act : MethodName := ⟨RL, "act", "(LTagRoot;I)I"⟩
abbrev cL_areAlike : ByteArray := method_9_code
def yL_areAlike : MethodName := ⟨RL, "areAlike", "(LTagRoot;LTagRoot;)Z"⟩
abbrev cL_areShownSo : ByteArray := method_10_code
def yL_areShownSo : MethodName := ⟨RL, "areShownSo", "(LTagRoot;I)Z"⟩
abbrev cL_areRulesSo : ByteArray := method_11_code
def yL_areRulesSo : MethodName := ⟨RL, "areRulesSo", "(LTagRoot;)Z"⟩
abbrev cL_areCountedSo : ByteArray := method_12_code
def yL_areCountedSo : MethodName := ⟨RL, "areCountedSo", "(LTagRoot;III)Z"⟩
abbrev cL_isUndoneSo : ByteArray := method_13_code
def yL_isUndoneSo : MethodName := ⟨RL, "isUndoneSo", "(LTagRoot;LTagRoot;III)Z"⟩
abbrev cL_law : ByteArray := code
def yL_law : MethodName := ⟨RL, "law", "([I)Z"⟩
theorem dX0_init_0 : decode cX0_init 0 = .ok (.aload_n 0, 1) := by decide +kernel
theorem dX0_init_1 : decode cX0_init 1 = .ok (.invokespecial 3, 3) := by decide +kernel
theorem dX0_init_4 : decode cX0_init 4 = .ok (.aload_n 0, 1) := by decide +kernel
theorem dX0_init_5 : decode cX0_init 5 = .ok (.bipush 20, 2) := by decide +kernel
theorem dX0_init_7 : decode cX0_init 7 = .ok (.newarray .int, 2) := by decide +kernel
theorem dX0_init_9 : decode cX0_init 9 = .ok (.putfield 9, 3) := by decide +kernel
theorem dX0_init_12 : decode cX0_init 12 = .ok (.aload_n 0, 1) := by decide +kernel
theorem dX0_init_13 : decode cX0_init 13 = .ok (.bipush 20, 2) := by decide +kernel
theorem dX0_init_15 : decode cX0_init 15 = .ok (.newarray .int, 2) := by decide +kernel
theorem dX0_init_17 : decode cX0_init 17 = .ok (.putfield 15, 3) := by decide +kernel
theorem dX0_init_20 : decode cX0_init 20 = .ok (.aload_n 0, 1) := by decide +kernel
theorem dX0_init_21 : decode cX0_init 21 = .ok (.bipush 20, 2) := by decide +kernel
theorem dX0_init_23 : decode cX0_init 23 = .ok (.newarray .int, 2) := by decide +kernel
theorem dX0_init_25 : decode cX0_init 25 = .ok (.putfield 18, 3) := by decide +kernel
theorem dX0_init_28 : decode cX0_init 28 = .ok (.aload_n 0, 1) := by decide +kernel
theorem dX0_init_29 : decode cX0_init 29 = .ok (.sipush 400, 3) := by decide +kernel
theorem dX0_init_32 : decode cX0_init 32 = .ok (.newarray .int, 2) := by decide +kernel
theorem dX0_init_34 : decode cX0_init 34 = .ok (.putfield 21, 3) := by decide +kernel
theorem dX0_init_37 : decode cX0_init 37 = .ok (.return_, 1) := by decide +kernel
theorem dX0_startEdit_0 : decode cX0_startEdit 0 = .ok (.iconst 0, 1) := by decide +kernel
theorem dX0_startEdit_1 : decode cX0_startEdit 1 = .ok (.istore_n 1, 1) := by decide +kernel
theorem dX0_startEdit_2 : decode cX0_startEdit 2 = .ok (.iload_n 1, 1) := by decide +kernel
theorem dX0_startEdit_3 : decode cX0_startEdit 3 = .ok (.aload_n 0, 1) := by decide +kernel
theorem dX0_startEdit_4 : decode cX0_startEdit 4 = .ok (.getfield 24, 3) := by decide +kernel
theorem dX0_startEdit_7 : decode cX0_startEdit 7 = .ok (.if_icmp .ge 21, 3) := by decide +kernel
theorem dX0_startEdit_10 : decode cX0_startEdit 10 = .ok (.aload_n 0, 1) := by decide +kernel
theorem dX0_startEdit_11 : decode cX0_startEdit 11 = .ok (.getfield 15, 3) := by decide +kernel
theorem dX0_startEdit_14 : decode cX0_startEdit 14 = .ok (.iload_n 1, 1) := by decide +kernel
theorem dX0_startEdit_15 : decode cX0_startEdit 15 = .ok (.aload_n 0, 1) := by decide +kernel
theorem dX0_startEdit_16 : decode cX0_startEdit 16 = .ok (.getfield 9, 3) := by decide +kernel
theorem dX0_startEdit_19 : decode cX0_startEdit 19 = .ok (.iload_n 1, 1) := by decide +kernel
theorem dX0_startEdit_20 : decode cX0_startEdit 20 = .ok (.iaload, 1) := by decide +kernel
theorem dX0_startEdit_21 : decode cX0_startEdit 21 = .ok (.iastore, 1) := by decide +kernel
theorem dX0_startEdit_22 : decode cX0_startEdit 22 = .ok (.iinc 1 1, 3) := by decide +kernel
theorem dX0_startEdit_25 : decode cX0_startEdit 25 = .ok (.goto (-23), 3) := by decide +kernel
theorem dX0_startEdit_28 : decode cX0_startEdit 28 = .ok (.return_, 1) := by decide +kernel
theorem dX0_finishEdit_0 : decode cX0_finishEdit 0 = .ok (.iconst 0, 1) := by decide +kernel
theorem dX0_finishEdit_1 : decode cX0_finishEdit 1 = .ok (.istore_n 1, 1) := by decide +kernel
theorem dX0_finishEdit_2 : decode cX0_finishEdit 2 = .ok (.iconst 0, 1) := by decide +kernel
theorem dX0_finishEdit_3 : decode cX0_finishEdit 3 = .ok (.istore_n 2, 1) := by decide +kernel
theorem dX0_finishEdit_4 : decode cX0_finishEdit 4 = .ok (.iload_n 2, 1) := by decide +kernel
theorem dX0_finishEdit_5 : decode cX0_finishEdit 5 = .ok (.aload_n 0, 1) := by decide +kernel
theorem dX0_finishEdit_6 : decode cX0_finishEdit 6 = .ok (.getfield 24, 3) := by decide +kernel
theorem dX0_finishEdit_9 : decode cX0_finishEdit 9 = .ok (.if_icmp .ge 30, 3) := by decide +kernel
theorem dX0_finishEdit_12 : decode cX0_finishEdit 12 = .ok (.aload_n 0, 1) := by decide +kernel
theorem dX0_finishEdit_13 : decode cX0_finishEdit 13 = .ok (.getfield 15, 3) := by decide +kernel
theorem dX0_finishEdit_16 : decode cX0_finishEdit 16 = .ok (.iload_n 2, 1) := by decide +kernel
theorem dX0_finishEdit_17 : decode cX0_finishEdit 17 = .ok (.iaload, 1) := by decide +kernel
theorem dX0_finishEdit_18 : decode cX0_finishEdit 18 = .ok (.aload_n 0, 1) := by decide +kernel
theorem dX0_finishEdit_19 : decode cX0_finishEdit 19 = .ok (.getfield 9, 3) := by decide +kernel
theorem dX0_finishEdit_22 : decode cX0_finishEdit 22 = .ok (.iload_n 2, 1) := by decide +kernel
theorem dX0_finishEdit_23 : decode cX0_finishEdit 23 = .ok (.iaload, 1) := by decide +kernel
theorem dX0_finishEdit_24 : decode cX0_finishEdit 24 = .ok (.if_icmp .eq 9, 3) := by decide +kernel
theorem dX0_finishEdit_27 : decode cX0_finishEdit 27 = .ok (.iload_n 1, 1) := by decide +kernel
theorem dX0_finishEdit_28 : decode cX0_finishEdit 28 = .ok (.iconst 1, 1) := by decide +kernel
theorem dX0_finishEdit_29 : decode cX0_finishEdit 29 = .ok (.iload_n 2, 1) := by decide +kernel
theorem dX0_finishEdit_30 : decode cX0_finishEdit 30 = .ok (.ishl, 1) := by decide +kernel
theorem dX0_finishEdit_31 : decode cX0_finishEdit 31 = .ok (.ior, 1) := by decide +kernel
theorem dX0_finishEdit_32 : decode cX0_finishEdit 32 = .ok (.istore_n 1, 1) := by decide +kernel
theorem dX0_finishEdit_33 : decode cX0_finishEdit 33 = .ok (.iinc 2 1, 3) := by decide +kernel
theorem dX0_finishEdit_36 : decode cX0_finishEdit 36 = .ok (.goto (-32), 3) := by decide +kernel
theorem dX0_finishEdit_39 : decode cX0_finishEdit 39 = .ok (.iload_n 1, 1) := by decide +kernel
theorem dX0_finishEdit_40 : decode cX0_finishEdit 40 = .ok (.ifCond .eq 8, 3) := by decide +kernel
theorem dX0_finishEdit_43 : decode cX0_finishEdit 43 = .ok (.aload_n 0, 1) := by decide +kernel
theorem dX0_finishEdit_44 : decode cX0_finishEdit 44 = .ok (.iload_n 1, 1) := by decide +kernel
theorem dX0_finishEdit_45 : decode cX0_finishEdit 45 = .ok (.invokevirtual 28, 3) := by decide +kernel
theorem dX0_finishEdit_48 : decode cX0_finishEdit 48 = .ok (.iload_n 1, 1) := by decide +kernel
theorem dX0_finishEdit_49 : decode cX0_finishEdit 49 = .ok (.invokestatic 32, 3) := by decide +kernel
theorem dX0_finishEdit_52 : decode cX0_finishEdit 52 = .ok (.ireturn, 1) := by decide +kernel
theorem dX0_keep_0 : decode cX0_keep 0 = .ok (.iconst 0, 1) := by decide +kernel
theorem dX0_keep_1 : decode cX0_keep 1 = .ok (.istore_n 2, 1) := by decide +kernel
theorem dX0_keep_2 : decode cX0_keep 2 = .ok (.iload_n 2, 1) := by decide +kernel
theorem dX0_keep_3 : decode cX0_keep 3 = .ok (.aload_n 0, 1) := by decide +kernel
theorem dX0_keep_4 : decode cX0_keep 4 = .ok (.getfield 24, 3) := by decide +kernel
theorem dX0_keep_7 : decode cX0_keep 7 = .ok (.if_icmp .ge 41, 3) := by decide +kernel
theorem dX0_keep_10 : decode cX0_keep 10 = .ok (.aload_n 0, 1) := by decide +kernel
theorem dX0_keep_11 : decode cX0_keep 11 = .ok (.getfield 21, 3) := by decide +kernel
theorem dX0_keep_14 : decode cX0_keep 14 = .ok (.aload_n 0, 1) := by decide +kernel
theorem dX0_keep_15 : decode cX0_keep 15 = .ok (.getfield 38, 3) := by decide +kernel
theorem dX0_keep_18 : decode cX0_keep 18 = .ok (.bipush 20, 2) := by decide +kernel
theorem dX0_keep_20 : decode cX0_keep 20 = .ok (.imul, 1) := by decide +kernel
theorem dX0_keep_21 : decode cX0_keep 21 = .ok (.iload_n 2, 1) := by decide +kernel
theorem dX0_keep_22 : decode cX0_keep 22 = .ok (.iadd, 1) := by decide +kernel
theorem dX0_keep_23 : decode cX0_keep 23 = .ok (.aload_n 0, 1) := by decide +kernel
theorem dX0_keep_24 : decode cX0_keep 24 = .ok (.getfield 9, 3) := by decide +kernel
theorem dX0_keep_27 : decode cX0_keep 27 = .ok (.iload_n 2, 1) := by decide +kernel
theorem dX0_keep_28 : decode cX0_keep 28 = .ok (.iaload, 1) := by decide +kernel
theorem dX0_keep_29 : decode cX0_keep 29 = .ok (.iastore, 1) := by decide +kernel
theorem dX0_keep_30 : decode cX0_keep 30 = .ok (.aload_n 0, 1) := by decide +kernel
theorem dX0_keep_31 : decode cX0_keep 31 = .ok (.getfield 9, 3) := by decide +kernel
theorem dX0_keep_34 : decode cX0_keep 34 = .ok (.iload_n 2, 1) := by decide +kernel
theorem dX0_keep_35 : decode cX0_keep 35 = .ok (.aload_n 0, 1) := by decide +kernel
theorem dX0_keep_36 : decode cX0_keep 36 = .ok (.getfield 15, 3) := by decide +kernel
theorem dX0_keep_39 : decode cX0_keep 39 = .ok (.iload_n 2, 1) := by decide +kernel
theorem dX0_keep_40 : decode cX0_keep 40 = .ok (.iaload, 1) := by decide +kernel
theorem dX0_keep_41 : decode cX0_keep 41 = .ok (.iastore, 1) := by decide +kernel
theorem dX0_keep_42 : decode cX0_keep 42 = .ok (.iinc 2 1, 3) := by decide +kernel
theorem dX0_keep_45 : decode cX0_keep 45 = .ok (.goto (-43), 3) := by decide +kernel
theorem dX0_keep_48 : decode cX0_keep 48 = .ok (.aload_n 0, 1) := by decide +kernel
theorem dX0_keep_49 : decode cX0_keep 49 = .ok (.getfield 18, 3) := by decide +kernel
theorem dX0_keep_52 : decode cX0_keep 52 = .ok (.aload_n 0, 1) := by decide +kernel
theorem dX0_keep_53 : decode cX0_keep 53 = .ok (.getfield 38, 3) := by decide +kernel
theorem dX0_keep_56 : decode cX0_keep 56 = .ok (.iload_n 1, 1) := by decide +kernel
theorem dX0_keep_57 : decode cX0_keep 57 = .ok (.iastore, 1) := by decide +kernel
theorem dX0_keep_58 : decode cX0_keep 58 = .ok (.aload_n 0, 1) := by decide +kernel
theorem dX0_keep_59 : decode cX0_keep 59 = .ok (.aload_n 0, 1) := by decide +kernel
theorem dX0_keep_60 : decode cX0_keep 60 = .ok (.getfield 38, 3) := by decide +kernel
theorem dX0_keep_63 : decode cX0_keep 63 = .ok (.iconst 1, 1) := by decide +kernel
theorem dX0_keep_64 : decode cX0_keep 64 = .ok (.iadd, 1) := by decide +kernel
theorem dX0_keep_65 : decode cX0_keep 65 = .ok (.bipush 20, 2) := by decide +kernel
theorem dX0_keep_67 : decode cX0_keep 67 = .ok (.if_icmp .ge 12, 3) := by decide +kernel
theorem dX0_keep_70 : decode cX0_keep 70 = .ok (.aload_n 0, 1) := by decide +kernel
theorem dX0_keep_71 : decode cX0_keep 71 = .ok (.getfield 38, 3) := by decide +kernel
theorem dX0_keep_74 : decode cX0_keep 74 = .ok (.iconst 1, 1) := by decide +kernel
theorem dX0_keep_75 : decode cX0_keep 75 = .ok (.iadd, 1) := by decide +kernel
theorem dX0_keep_76 : decode cX0_keep 76 = .ok (.goto 4, 3) := by decide +kernel
theorem dX0_keep_79 : decode cX0_keep 79 = .ok (.iconst 0, 1) := by decide +kernel
theorem dX0_keep_80 : decode cX0_keep 80 = .ok (.putfield 38, 3) := by decide +kernel
theorem dX0_keep_83 : decode cX0_keep 83 = .ok (.aload_n 0, 1) := by decide +kernel
theorem dX0_keep_84 : decode cX0_keep 84 = .ok (.aload_n 0, 1) := by decide +kernel
theorem dX0_keep_85 : decode cX0_keep 85 = .ok (.getfield 41, 3) := by decide +kernel
theorem dX0_keep_88 : decode cX0_keep 88 = .ok (.iconst 1, 1) := by decide +kernel
theorem dX0_keep_89 : decode cX0_keep 89 = .ok (.iadd, 1) := by decide +kernel
theorem dX0_keep_90 : decode cX0_keep 90 = .ok (.bipush 20, 2) := by decide +kernel
theorem dX0_keep_92 : decode cX0_keep 92 = .ok (.invokestatic 44, 3) := by decide +kernel
theorem dX0_keep_95 : decode cX0_keep 95 = .ok (.putfield 41, 3) := by decide +kernel
theorem dX0_keep_98 : decode cX0_keep 98 = .ok (.return_, 1) := by decide +kernel
theorem dX0_restoreLatest_0 : decode cX0_restoreLatest 0 = .ok (.aload_n 0, 1) := by decide +kernel
theorem dX0_restoreLatest_1 : decode cX0_restoreLatest 1 = .ok (.aload_n 0, 1) := by decide +kernel
theorem dX0_restoreLatest_2 : decode cX0_restoreLatest 2 = .ok (.getfield 38, 3) := by decide +kernel
theorem dX0_restoreLatest_5 : decode cX0_restoreLatest 5 = .ok (.ifCond .le 12, 3) := by decide +kernel
theorem dX0_restoreLatest_8 : decode cX0_restoreLatest 8 = .ok (.aload_n 0, 1) := by decide +kernel
theorem dX0_restoreLatest_9 : decode cX0_restoreLatest 9 = .ok (.getfield 38, 3) := by decide +kernel
theorem dX0_restoreLatest_12 : decode cX0_restoreLatest 12 = .ok (.iconst 1, 1) := by decide +kernel
theorem dX0_restoreLatest_13 : decode cX0_restoreLatest 13 = .ok (.isub, 1) := by decide +kernel
theorem dX0_restoreLatest_14 : decode cX0_restoreLatest 14 = .ok (.goto 5, 3) := by decide +kernel
theorem dX0_restoreLatest_17 : decode cX0_restoreLatest 17 = .ok (.bipush 19, 2) := by decide +kernel
theorem dX0_restoreLatest_19 : decode cX0_restoreLatest 19 = .ok (.putfield 38, 3) := by decide +kernel
theorem dX0_restoreLatest_22 : decode cX0_restoreLatest 22 = .ok (.aload_n 0, 1) := by decide +kernel
theorem dX0_restoreLatest_23 : decode cX0_restoreLatest 23 = .ok (.dup, 1) := by decide +kernel
theorem dX0_restoreLatest_24 : decode cX0_restoreLatest 24 = .ok (.getfield 41, 3) := by decide +kernel
theorem dX0_restoreLatest_27 : decode cX0_restoreLatest 27 = .ok (.iconst 1, 1) := by decide +kernel
theorem dX0_restoreLatest_28 : decode cX0_restoreLatest 28 = .ok (.isub, 1) := by decide +kernel
theorem dX0_restoreLatest_29 : decode cX0_restoreLatest 29 = .ok (.putfield 41, 3) := by decide +kernel
theorem dX0_restoreLatest_32 : decode cX0_restoreLatest 32 = .ok (.aload_n 0, 1) := by decide +kernel
theorem dX0_restoreLatest_33 : decode cX0_restoreLatest 33 = .ok (.getfield 18, 3) := by decide +kernel
theorem dX0_restoreLatest_36 : decode cX0_restoreLatest 36 = .ok (.aload_n 0, 1) := by decide +kernel
theorem dX0_restoreLatest_37 : decode cX0_restoreLatest 37 = .ok (.getfield 38, 3) := by decide +kernel
theorem dX0_restoreLatest_40 : decode cX0_restoreLatest 40 = .ok (.iaload, 1) := by decide +kernel
theorem dX0_restoreLatest_41 : decode cX0_restoreLatest 41 = .ok (.istore_n 1, 1) := by decide +kernel
theorem dX0_restoreLatest_42 : decode cX0_restoreLatest 42 = .ok (.iconst 0, 1) := by decide +kernel
theorem dX0_restoreLatest_43 : decode cX0_restoreLatest 43 = .ok (.istore_n 2, 1) := by decide +kernel
theorem dX0_restoreLatest_44 : decode cX0_restoreLatest 44 = .ok (.iload_n 2, 1) := by decide +kernel
theorem dX0_restoreLatest_45 : decode cX0_restoreLatest 45 = .ok (.aload_n 0, 1) := by decide +kernel
theorem dX0_restoreLatest_46 : decode cX0_restoreLatest 46 = .ok (.getfield 24, 3) := by decide +kernel
theorem dX0_restoreLatest_49 : decode cX0_restoreLatest 49 = .ok (.if_icmp .ge 37, 3) := by decide +kernel
theorem dX0_restoreLatest_52 : decode cX0_restoreLatest 52 = .ok (.iload_n 1, 1) := by decide +kernel
theorem dX0_restoreLatest_53 : decode cX0_restoreLatest 53 = .ok (.iload_n 2, 1) := by decide +kernel
theorem dX0_restoreLatest_54 : decode cX0_restoreLatest 54 = .ok (.invokestatic 50, 3) := by decide +kernel
theorem dX0_restoreLatest_57 : decode cX0_restoreLatest 57 = .ok (.ifCond .eq 23, 3) := by decide +kernel
theorem dX0_restoreLatest_60 : decode cX0_restoreLatest 60 = .ok (.aload_n 0, 1) := by decide +kernel
theorem dX0_restoreLatest_61 : decode cX0_restoreLatest 61 = .ok (.getfield 9, 3) := by decide +kernel
theorem dX0_restoreLatest_64 : decode cX0_restoreLatest 64 = .ok (.iload_n 2, 1) := by decide +kernel
theorem dX0_restoreLatest_65 : decode cX0_restoreLatest 65 = .ok (.aload_n 0, 1) := by decide +kernel
theorem dX0_restoreLatest_66 : decode cX0_restoreLatest 66 = .ok (.getfield 21, 3) := by decide +kernel
theorem dX0_restoreLatest_69 : decode cX0_restoreLatest 69 = .ok (.aload_n 0, 1) := by decide +kernel
theorem dX0_restoreLatest_70 : decode cX0_restoreLatest 70 = .ok (.getfield 38, 3) := by decide +kernel
theorem dX0_restoreLatest_73 : decode cX0_restoreLatest 73 = .ok (.bipush 20, 2) := by decide +kernel
theorem dX0_restoreLatest_75 : decode cX0_restoreLatest 75 = .ok (.imul, 1) := by decide +kernel
theorem dX0_restoreLatest_76 : decode cX0_restoreLatest 76 = .ok (.iload_n 2, 1) := by decide +kernel
theorem dX0_restoreLatest_77 : decode cX0_restoreLatest 77 = .ok (.iadd, 1) := by decide +kernel
theorem dX0_restoreLatest_78 : decode cX0_restoreLatest 78 = .ok (.iaload, 1) := by decide +kernel
theorem dX0_restoreLatest_79 : decode cX0_restoreLatest 79 = .ok (.iastore, 1) := by decide +kernel
theorem dX0_restoreLatest_80 : decode cX0_restoreLatest 80 = .ok (.iinc 2 1, 3) := by decide +kernel
theorem dX0_restoreLatest_83 : decode cX0_restoreLatest 83 = .ok (.goto (-39), 3) := by decide +kernel
theorem dX0_restoreLatest_86 : decode cX0_restoreLatest 86 = .ok (.iload_n 1, 1) := by decide +kernel
theorem dX0_restoreLatest_87 : decode cX0_restoreLatest 87 = .ok (.invokestatic 32, 3) := by decide +kernel
theorem dX0_restoreLatest_90 : decode cX0_restoreLatest 90 = .ok (.ireturn, 1) := by decide +kernel
theorem dX1_init_0 : decode cX1_init 0 = .ok (.aload_n 0, 1) := by decide +kernel
theorem dX1_init_1 : decode cX1_init 1 = .ok (.invokespecial 3, 3) := by decide +kernel
theorem dX1_init_4 : decode cX1_init 4 = .ok (.aload_n 0, 1) := by decide +kernel
theorem dX1_init_5 : decode cX1_init 5 = .ok (.sipush 192, 3) := by decide +kernel
theorem dX1_init_8 : decode cX1_init 8 = .ok (.newarray .char, 2) := by decide +kernel
theorem dX1_init_10 : decode cX1_init 10 = .ok (.putfield 9, 3) := by decide +kernel
theorem dX1_init_13 : decode cX1_init 13 = .ok (.aload_n 0, 1) := by decide +kernel
theorem dX1_init_14 : decode cX1_init 14 = .ok (.bipush 24, 2) := by decide +kernel
theorem dX1_init_16 : decode cX1_init 16 = .ok (.newarray .int, 2) := by decide +kernel
theorem dX1_init_18 : decode cX1_init 18 = .ok (.putfield 15, 3) := by decide +kernel
theorem dX1_init_21 : decode cX1_init 21 = .ok (.aload_n 0, 1) := by decide +kernel
theorem dX1_init_22 : decode cX1_init 22 = .ok (.bipush 8, 2) := by decide +kernel
theorem dX1_init_24 : decode cX1_init 24 = .ok (.newarray .char, 2) := by decide +kernel
theorem dX1_init_26 : decode cX1_init 26 = .ok (.putfield 19, 3) := by decide +kernel
theorem dX1_init_29 : decode cX1_init 29 = .ok (.return_, 1) := by decide +kernel
theorem dX1_append_0 : decode cX1_append 0 = .ok (.aload_n 0, 1) := by decide +kernel
theorem dX1_append_1 : decode cX1_append 1 = .ok (.getfield 19, 3) := by decide +kernel
theorem dX1_append_4 : decode cX1_append 4 = .ok (.aload_n 0, 1) := by decide +kernel
theorem dX1_append_5 : decode cX1_append 5 = .ok (.getfield 22, 3) := by decide +kernel
theorem dX1_append_8 : decode cX1_append 8 = .ok (.iload_n 1, 1) := by decide +kernel
theorem dX1_append_9 : decode cX1_append 9 = .ok (.castore, 1) := by decide +kernel
theorem dX1_append_10 : decode cX1_append 10 = .ok (.aload_n 0, 1) := by decide +kernel
theorem dX1_append_11 : decode cX1_append 11 = .ok (.dup, 1) := by decide +kernel
theorem dX1_append_12 : decode cX1_append 12 = .ok (.getfield 22, 3) := by decide +kernel
theorem dX1_append_15 : decode cX1_append 15 = .ok (.iconst 1, 1) := by decide +kernel
theorem dX1_append_16 : decode cX1_append 16 = .ok (.iadd, 1) := by decide +kernel
theorem dX1_append_17 : decode cX1_append 17 = .ok (.putfield 22, 3) := by decide +kernel
theorem dX1_append_20 : decode cX1_append 20 = .ok (.return_, 1) := by decide +kernel
theorem dX1_emptyDraft_0 : decode cX1_emptyDraft 0 = .ok (.aload_n 0, 1) := by decide +kernel
theorem dX1_emptyDraft_1 : decode cX1_emptyDraft 1 = .ok (.iconst 0, 1) := by decide +kernel
theorem dX1_emptyDraft_2 : decode cX1_emptyDraft 2 = .ok (.putfield 22, 3) := by decide +kernel
theorem dX1_emptyDraft_5 : decode cX1_emptyDraft 5 = .ok (.return_, 1) := by decide +kernel
theorem dX1_letterAt_0 : decode cX1_letterAt 0 = .ok (.aload_n 0, 1) := by decide +kernel
theorem dX1_letterAt_1 : decode cX1_letterAt 1 = .ok (.getfield 9, 3) := by decide +kernel
theorem dX1_letterAt_4 : decode cX1_letterAt 4 = .ok (.iload_n 1, 1) := by decide +kernel
theorem dX1_letterAt_5 : decode cX1_letterAt 5 = .ok (.bipush 8, 2) := by decide +kernel
theorem dX1_letterAt_7 : decode cX1_letterAt 7 = .ok (.imul, 1) := by decide +kernel
theorem dX1_letterAt_8 : decode cX1_letterAt 8 = .ok (.iload_n 2, 1) := by decide +kernel
theorem dX1_letterAt_9 : decode cX1_letterAt 9 = .ok (.iadd, 1) := by decide +kernel
theorem dX1_letterAt_10 : decode cX1_letterAt 10 = .ok (.caload, 1) := by decide +kernel
theorem dX1_letterAt_11 : decode cX1_letterAt 11 = .ok (.ireturn, 1) := by decide +kernel
theorem dX1_findDraft_0 : decode cX1_findDraft 0 = .ok (.iconst 0, 1) := by decide +kernel
theorem dX1_findDraft_1 : decode cX1_findDraft 1 = .ok (.istore_n 1, 1) := by decide +kernel
theorem dX1_findDraft_2 : decode cX1_findDraft 2 = .ok (.iload_n 1, 1) := by decide +kernel
theorem dX1_findDraft_3 : decode cX1_findDraft 3 = .ok (.aload_n 0, 1) := by decide +kernel
theorem dX1_findDraft_4 : decode cX1_findDraft 4 = .ok (.getfield 26, 3) := by decide +kernel
theorem dX1_findDraft_7 : decode cX1_findDraft 7 = .ok (.if_icmp .ge 19, 3) := by decide +kernel
theorem dX1_findDraft_10 : decode cX1_findDraft 10 = .ok (.aload_n 0, 1) := by decide +kernel
theorem dX1_findDraft_11 : decode cX1_findDraft 11 = .ok (.iload_n 1, 1) := by decide +kernel
theorem dX1_findDraft_12 : decode cX1_findDraft 12 = .ok (.invokevirtual 29, 3) := by decide +kernel
theorem dX1_findDraft_15 : decode cX1_findDraft 15 = .ok (.ifCond .eq 5, 3) := by decide +kernel
theorem dX1_findDraft_18 : decode cX1_findDraft 18 = .ok (.iload_n 1, 1) := by decide +kernel
theorem dX1_findDraft_19 : decode cX1_findDraft 19 = .ok (.ireturn, 1) := by decide +kernel
theorem dX1_findDraft_20 : decode cX1_findDraft 20 = .ok (.iinc 1 1, 3) := by decide +kernel
theorem dX1_findDraft_23 : decode cX1_findDraft 23 = .ok (.goto (-21), 3) := by decide +kernel
theorem dX1_findDraft_26 : decode cX1_findDraft 26 = .ok (.iconst (-1), 1) := by decide +kernel
theorem dX1_findDraft_27 : decode cX1_findDraft 27 = .ok (.ireturn, 1) := by decide +kernel
theorem dX1_addDraft_0 : decode cX1_addDraft 0 = .ok (.iconst 0, 1) := by decide +kernel
theorem dX1_addDraft_1 : decode cX1_addDraft 1 = .ok (.istore_n 1, 1) := by decide +kernel
theorem dX1_addDraft_2 : decode cX1_addDraft 2 = .ok (.iload_n 1, 1) := by decide +kernel
theorem dX1_addDraft_3 : decode cX1_addDraft 3 = .ok (.aload_n 0, 1) := by decide +kernel
theorem dX1_addDraft_4 : decode cX1_addDraft 4 = .ok (.getfield 22, 3) := by decide +kernel
theorem dX1_addDraft_7 : decode cX1_addDraft 7 = .ok (.if_icmp .ge 29, 3) := by decide +kernel
theorem dX1_addDraft_10 : decode cX1_addDraft 10 = .ok (.aload_n 0, 1) := by decide +kernel
theorem dX1_addDraft_11 : decode cX1_addDraft 11 = .ok (.getfield 9, 3) := by decide +kernel
theorem dX1_addDraft_14 : decode cX1_addDraft 14 = .ok (.aload_n 0, 1) := by decide +kernel
theorem dX1_addDraft_15 : decode cX1_addDraft 15 = .ok (.getfield 26, 3) := by decide +kernel
theorem dX1_addDraft_18 : decode cX1_addDraft 18 = .ok (.bipush 8, 2) := by decide +kernel
theorem dX1_addDraft_20 : decode cX1_addDraft 20 = .ok (.imul, 1) := by decide +kernel
theorem dX1_addDraft_21 : decode cX1_addDraft 21 = .ok (.iload_n 1, 1) := by decide +kernel
theorem dX1_addDraft_22 : decode cX1_addDraft 22 = .ok (.iadd, 1) := by decide +kernel
theorem dX1_addDraft_23 : decode cX1_addDraft 23 = .ok (.aload_n 0, 1) := by decide +kernel
theorem dX1_addDraft_24 : decode cX1_addDraft 24 = .ok (.getfield 19, 3) := by decide +kernel
theorem dX1_addDraft_27 : decode cX1_addDraft 27 = .ok (.iload_n 1, 1) := by decide +kernel
theorem dX1_addDraft_28 : decode cX1_addDraft 28 = .ok (.caload, 1) := by decide +kernel
theorem dX1_addDraft_29 : decode cX1_addDraft 29 = .ok (.castore, 1) := by decide +kernel
theorem dX1_addDraft_30 : decode cX1_addDraft 30 = .ok (.iinc 1 1, 3) := by decide +kernel
theorem dX1_addDraft_33 : decode cX1_addDraft 33 = .ok (.goto (-31), 3) := by decide +kernel
theorem dX1_addDraft_36 : decode cX1_addDraft 36 = .ok (.aload_n 0, 1) := by decide +kernel
theorem dX1_addDraft_37 : decode cX1_addDraft 37 = .ok (.getfield 15, 3) := by decide +kernel
theorem dX1_addDraft_40 : decode cX1_addDraft 40 = .ok (.aload_n 0, 1) := by decide +kernel
theorem dX1_addDraft_41 : decode cX1_addDraft 41 = .ok (.getfield 26, 3) := by decide +kernel
theorem dX1_addDraft_44 : decode cX1_addDraft 44 = .ok (.aload_n 0, 1) := by decide +kernel
theorem dX1_addDraft_45 : decode cX1_addDraft 45 = .ok (.getfield 22, 3) := by decide +kernel
theorem dX1_addDraft_48 : decode cX1_addDraft 48 = .ok (.iastore, 1) := by decide +kernel
theorem dX1_addDraft_49 : decode cX1_addDraft 49 = .ok (.aload_n 0, 1) := by decide +kernel
theorem dX1_addDraft_50 : decode cX1_addDraft 50 = .ok (.dup, 1) := by decide +kernel
theorem dX1_addDraft_51 : decode cX1_addDraft 51 = .ok (.getfield 26, 3) := by decide +kernel
theorem dX1_addDraft_54 : decode cX1_addDraft 54 = .ok (.iconst 1, 1) := by decide +kernel
theorem dX1_addDraft_55 : decode cX1_addDraft 55 = .ok (.iadd, 1) := by decide +kernel
theorem dX1_addDraft_56 : decode cX1_addDraft 56 = .ok (.putfield 26, 3) := by decide +kernel
theorem dX1_addDraft_59 : decode cX1_addDraft 59 = .ok (.aload_n 0, 1) := by decide +kernel
theorem dX1_addDraft_60 : decode cX1_addDraft 60 = .ok (.getfield 26, 3) := by decide +kernel
theorem dX1_addDraft_63 : decode cX1_addDraft 63 = .ok (.iconst 1, 1) := by decide +kernel
theorem dX1_addDraft_64 : decode cX1_addDraft 64 = .ok (.isub, 1) := by decide +kernel
theorem dX1_addDraft_65 : decode cX1_addDraft 65 = .ok (.ireturn, 1) := by decide +kernel
theorem dX1_isDraft_0 : decode cX1_isDraft 0 = .ok (.aload_n 0, 1) := by decide +kernel
theorem dX1_isDraft_1 : decode cX1_isDraft 1 = .ok (.getfield 15, 3) := by decide +kernel
theorem dX1_isDraft_4 : decode cX1_isDraft 4 = .ok (.iload_n 1, 1) := by decide +kernel
theorem dX1_isDraft_5 : decode cX1_isDraft 5 = .ok (.iaload, 1) := by decide +kernel
theorem dX1_isDraft_6 : decode cX1_isDraft 6 = .ok (.aload_n 0, 1) := by decide +kernel
theorem dX1_isDraft_7 : decode cX1_isDraft 7 = .ok (.getfield 22, 3) := by decide +kernel
theorem dX1_isDraft_10 : decode cX1_isDraft 10 = .ok (.if_icmp .eq 5, 3) := by decide +kernel
theorem dX1_isDraft_13 : decode cX1_isDraft 13 = .ok (.iconst 0, 1) := by decide +kernel
theorem dX1_isDraft_14 : decode cX1_isDraft 14 = .ok (.ireturn, 1) := by decide +kernel
theorem dX1_isDraft_15 : decode cX1_isDraft 15 = .ok (.iconst 0, 1) := by decide +kernel
theorem dX1_isDraft_16 : decode cX1_isDraft 16 = .ok (.istore_n 2, 1) := by decide +kernel
theorem dX1_isDraft_17 : decode cX1_isDraft 17 = .ok (.iload_n 2, 1) := by decide +kernel
theorem dX1_isDraft_18 : decode cX1_isDraft 18 = .ok (.aload_n 0, 1) := by decide +kernel
theorem dX1_isDraft_19 : decode cX1_isDraft 19 = .ok (.getfield 22, 3) := by decide +kernel
theorem dX1_isDraft_22 : decode cX1_isDraft 22 = .ok (.if_icmp .ge 32, 3) := by decide +kernel
theorem dX1_isDraft_25 : decode cX1_isDraft 25 = .ok (.aload_n 0, 1) := by decide +kernel
theorem dX1_isDraft_26 : decode cX1_isDraft 26 = .ok (.iload_n 1, 1) := by decide +kernel
theorem dX1_isDraft_27 : decode cX1_isDraft 27 = .ok (.iload_n 2, 1) := by decide +kernel
theorem dX1_isDraft_28 : decode cX1_isDraft 28 = .ok (.invokevirtual 33, 3) := by decide +kernel
theorem dX1_isDraft_31 : decode cX1_isDraft 31 = .ok (.invokestatic 37, 3) := by decide +kernel
theorem dX1_isDraft_34 : decode cX1_isDraft 34 = .ok (.aload_n 0, 1) := by decide +kernel
theorem dX1_isDraft_35 : decode cX1_isDraft 35 = .ok (.getfield 19, 3) := by decide +kernel
theorem dX1_isDraft_38 : decode cX1_isDraft 38 = .ok (.iload_n 2, 1) := by decide +kernel
theorem dX1_isDraft_39 : decode cX1_isDraft 39 = .ok (.caload, 1) := by decide +kernel
theorem dX1_isDraft_40 : decode cX1_isDraft 40 = .ok (.invokestatic 37, 3) := by decide +kernel
theorem dX1_isDraft_43 : decode cX1_isDraft 43 = .ok (.if_icmp .eq 5, 3) := by decide +kernel
theorem dX1_isDraft_46 : decode cX1_isDraft 46 = .ok (.iconst 0, 1) := by decide +kernel
theorem dX1_isDraft_47 : decode cX1_isDraft 47 = .ok (.ireturn, 1) := by decide +kernel
theorem dX1_isDraft_48 : decode cX1_isDraft 48 = .ok (.iinc 2 1, 3) := by decide +kernel
theorem dX1_isDraft_51 : decode cX1_isDraft 51 = .ok (.goto (-34), 3) := by decide +kernel
theorem dX1_isDraft_54 : decode cX1_isDraft 54 = .ok (.iconst 1, 1) := by decide +kernel
theorem dX1_isDraft_55 : decode cX1_isDraft 55 = .ok (.ireturn, 1) := by decide +kernel
theorem dX1_plain_0 : decode cX1_plain 0 = .ok (.iload_n 0, 1) := by decide +kernel
theorem dX1_plain_1 : decode cX1_plain 1 = .ok (.bipush 65, 2) := by decide +kernel
theorem dX1_plain_3 : decode cX1_plain 3 = .ok (.if_icmp .lt 18, 3) := by decide +kernel
theorem dX1_plain_6 : decode cX1_plain 6 = .ok (.iload_n 0, 1) := by decide +kernel
theorem dX1_plain_7 : decode cX1_plain 7 = .ok (.bipush 90, 2) := by decide +kernel
theorem dX1_plain_9 : decode cX1_plain 9 = .ok (.if_icmp .gt 12, 3) := by decide +kernel
theorem dX1_plain_12 : decode cX1_plain 12 = .ok (.iload_n 0, 1) := by decide +kernel
theorem dX1_plain_13 : decode cX1_plain 13 = .ok (.bipush 65, 2) := by decide +kernel
theorem dX1_plain_15 : decode cX1_plain 15 = .ok (.isub, 1) := by decide +kernel
theorem dX1_plain_16 : decode cX1_plain 16 = .ok (.bipush 97, 2) := by decide +kernel
theorem dX1_plain_18 : decode cX1_plain 18 = .ok (.iadd, 1) := by decide +kernel
theorem dX1_plain_19 : decode cX1_plain 19 = .ok (.i2c, 1) := by decide +kernel
theorem dX1_plain_20 : decode cX1_plain 20 = .ok (.ireturn, 1) := by decide +kernel
theorem dX1_plain_21 : decode cX1_plain 21 = .ok (.iload_n 0, 1) := by decide +kernel
theorem dX1_plain_22 : decode cX1_plain 22 = .ok (.bipush 45, 2) := by decide +kernel
theorem dX1_plain_24 : decode cX1_plain 24 = .ok (.if_icmp .ne 8, 3) := by decide +kernel
theorem dX1_plain_27 : decode cX1_plain 27 = .ok (.bipush 95, 2) := by decide +kernel
theorem dX1_plain_29 : decode cX1_plain 29 = .ok (.goto 4, 3) := by decide +kernel
theorem dX1_plain_32 : decode cX1_plain 32 = .ok (.iload_n 0, 1) := by decide +kernel
theorem dX1_plain_33 : decode cX1_plain 33 = .ok (.ireturn, 1) := by decide +kernel
theorem dX2_init_0 : decode cX2_init 0 = .ok (.aload_n 0, 1) := by decide +kernel
theorem dX2_init_1 : decode cX2_init 1 = .ok (.invokespecial 3, 3) := by decide +kernel
theorem dX2_init_4 : decode cX2_init 4 = .ok (.aload_n 0, 1) := by decide +kernel
theorem dX2_init_5 : decode cX2_init 5 = .ok (.bipush 40, 2) := by decide +kernel
theorem dX2_init_7 : decode cX2_init 7 = .ok (.newarray .int, 2) := by decide +kernel
theorem dX2_init_9 : decode cX2_init 9 = .ok (.putfield 9, 3) := by decide +kernel
theorem dX2_init_12 : decode cX2_init 12 = .ok (.aload_n 0, 1) := by decide +kernel
theorem dX2_init_13 : decode cX2_init 13 = .ok (.bipush 40, 2) := by decide +kernel
theorem dX2_init_15 : decode cX2_init 15 = .ok (.newarray .int, 2) := by decide +kernel
theorem dX2_init_17 : decode cX2_init 17 = .ok (.putfield 15, 3) := by decide +kernel
theorem dX2_init_20 : decode cX2_init 20 = .ok (.aload_n 0, 1) := by decide +kernel
theorem dX2_init_21 : decode cX2_init 21 = .ok (.bipush 40, 2) := by decide +kernel
theorem dX2_init_23 : decode cX2_init 23 = .ok (.newarray .int, 2) := by decide +kernel
theorem dX2_init_25 : decode cX2_init 25 = .ok (.putfield 18, 3) := by decide +kernel
theorem dX2_init_28 : decode cX2_init 28 = .ok (.aload_n 0, 1) := by decide +kernel
theorem dX2_init_29 : decode cX2_init 29 = .ok (.bipush 40, 2) := by decide +kernel
theorem dX2_init_31 : decode cX2_init 31 = .ok (.newarray .int, 2) := by decide +kernel
theorem dX2_init_33 : decode cX2_init 33 = .ok (.putfield 21, 3) := by decide +kernel
theorem dX2_init_36 : decode cX2_init 36 = .ok (.aload_n 0, 1) := by decide +kernel
theorem dX2_init_37 : decode cX2_init 37 = .ok (.bipush 40, 2) := by decide +kernel
theorem dX2_init_39 : decode cX2_init 39 = .ok (.newarray .int, 2) := by decide +kernel
theorem dX2_init_41 : decode cX2_init 41 = .ok (.putfield 24, 3) := by decide +kernel
theorem dX2_init_44 : decode cX2_init 44 = .ok (.aload_n 0, 1) := by decide +kernel
theorem dX2_init_45 : decode cX2_init 45 = .ok (.bipush 40, 2) := by decide +kernel
theorem dX2_init_47 : decode cX2_init 47 = .ok (.newarray .int, 2) := by decide +kernel
theorem dX2_init_49 : decode cX2_init 49 = .ok (.putfield 27, 3) := by decide +kernel
theorem dX2_init_52 : decode cX2_init 52 = .ok (.return_, 1) := by decide +kernel
theorem dX2_add_0 : decode cX2_add 0 = .ok (.aload_n 0, 1) := by decide +kernel
theorem dX2_add_1 : decode cX2_add 1 = .ok (.getfield 9, 3) := by decide +kernel
theorem dX2_add_4 : decode cX2_add 4 = .ok (.aload_n 0, 1) := by decide +kernel
theorem dX2_add_5 : decode cX2_add 5 = .ok (.getfield 30, 3) := by decide +kernel
theorem dX2_add_8 : decode cX2_add 8 = .ok (.iload_n 1, 1) := by decide +kernel
theorem dX2_add_9 : decode cX2_add 9 = .ok (.iastore, 1) := by decide +kernel
theorem dX2_add_10 : decode cX2_add 10 = .ok (.aload_n 0, 1) := by decide +kernel
theorem dX2_add_11 : decode cX2_add 11 = .ok (.getfield 15, 3) := by decide +kernel
theorem dX2_add_14 : decode cX2_add 14 = .ok (.aload_n 0, 1) := by decide +kernel
theorem dX2_add_15 : decode cX2_add 15 = .ok (.getfield 30, 3) := by decide +kernel
theorem dX2_add_18 : decode cX2_add 18 = .ok (.iload_n 2, 1) := by decide +kernel
theorem dX2_add_19 : decode cX2_add 19 = .ok (.iastore, 1) := by decide +kernel
theorem dX2_add_20 : decode cX2_add 20 = .ok (.aload_n 0, 1) := by decide +kernel
theorem dX2_add_21 : decode cX2_add 21 = .ok (.getfield 18, 3) := by decide +kernel
theorem dX2_add_24 : decode cX2_add 24 = .ok (.aload_n 0, 1) := by decide +kernel
theorem dX2_add_25 : decode cX2_add 25 = .ok (.getfield 30, 3) := by decide +kernel
theorem dX2_add_28 : decode cX2_add 28 = .ok (.iload_n 3, 1) := by decide +kernel
theorem dX2_add_29 : decode cX2_add 29 = .ok (.iastore, 1) := by decide +kernel
theorem dX2_add_30 : decode cX2_add 30 = .ok (.aload_n 0, 1) := by decide +kernel
theorem dX2_add_31 : decode cX2_add 31 = .ok (.getfield 21, 3) := by decide +kernel
theorem dX2_add_34 : decode cX2_add 34 = .ok (.aload_n 0, 1) := by decide +kernel
theorem dX2_add_35 : decode cX2_add 35 = .ok (.getfield 30, 3) := by decide +kernel
theorem dX2_add_38 : decode cX2_add 38 = .ok (.iconst 0, 1) := by decide +kernel
theorem dX2_add_39 : decode cX2_add 39 = .ok (.iastore, 1) := by decide +kernel
theorem dX2_add_40 : decode cX2_add 40 = .ok (.aload_n 0, 1) := by decide +kernel
theorem dX2_add_41 : decode cX2_add 41 = .ok (.dup, 1) := by decide +kernel
theorem dX2_add_42 : decode cX2_add 42 = .ok (.getfield 30, 3) := by decide +kernel
theorem dX2_add_45 : decode cX2_add 45 = .ok (.iconst 1, 1) := by decide +kernel
theorem dX2_add_46 : decode cX2_add 46 = .ok (.iadd, 1) := by decide +kernel
theorem dX2_add_47 : decode cX2_add 47 = .ok (.putfield 30, 3) := by decide +kernel
theorem dX2_add_50 : decode cX2_add 50 = .ok (.aload_n 0, 1) := by decide +kernel
theorem dX2_add_51 : decode cX2_add 51 = .ok (.getfield 30, 3) := by decide +kernel
theorem dX2_add_54 : decode cX2_add 54 = .ok (.iconst 1, 1) := by decide +kernel
theorem dX2_add_55 : decode cX2_add 55 = .ok (.isub, 1) := by decide +kernel
theorem dX2_add_56 : decode cX2_add 56 = .ok (.ireturn, 1) := by decide +kernel
theorem dX2_setVote_0 : decode cX2_setVote 0 = .ok (.iconst 1, 1) := by decide +kernel
theorem dX2_setVote_1 : decode cX2_setVote 1 = .ok (.iload_n 2, 1) := by decide +kernel
theorem dX2_setVote_2 : decode cX2_setVote 2 = .ok (.ishl, 1) := by decide +kernel
theorem dX2_setVote_3 : decode cX2_setVote 3 = .ok (.istore 4, 2) := by decide +kernel
theorem dX2_setVote_5 : decode cX2_setVote 5 = .ok (.iload_n 3, 1) := by decide +kernel
theorem dX2_setVote_6 : decode cX2_setVote 6 = .ok (.ifCond .eq 30, 3) := by decide +kernel
theorem dX2_setVote_9 : decode cX2_setVote 9 = .ok (.aload_n 0, 1) := by decide +kernel
theorem dX2_setVote_10 : decode cX2_setVote 10 = .ok (.getfield 24, 3) := by decide +kernel
theorem dX2_setVote_13 : decode cX2_setVote 13 = .ok (.iload_n 1, 1) := by decide +kernel
theorem dX2_setVote_14 : decode cX2_setVote 14 = .ok (.dup2, 1) := by decide +kernel
theorem dX2_setVote_15 : decode cX2_setVote 15 = .ok (.iaload, 1) := by decide +kernel
theorem dX2_setVote_16 : decode cX2_setVote 16 = .ok (.iload 4, 2) := by decide +kernel
theorem dX2_setVote_18 : decode cX2_setVote 18 = .ok (.ior, 1) := by decide +kernel
theorem dX2_setVote_19 : decode cX2_setVote 19 = .ok (.iastore, 1) := by decide +kernel
theorem dX2_setVote_20 : decode cX2_setVote 20 = .ok (.aload_n 0, 1) := by decide +kernel
theorem dX2_setVote_21 : decode cX2_setVote 21 = .ok (.getfield 27, 3) := by decide +kernel
theorem dX2_setVote_24 : decode cX2_setVote 24 = .ok (.iload_n 1, 1) := by decide +kernel
theorem dX2_setVote_25 : decode cX2_setVote 25 = .ok (.dup2, 1) := by decide +kernel
theorem dX2_setVote_26 : decode cX2_setVote 26 = .ok (.iaload, 1) := by decide +kernel
theorem dX2_setVote_27 : decode cX2_setVote 27 = .ok (.iload 4, 2) := by decide +kernel
theorem dX2_setVote_29 : decode cX2_setVote 29 = .ok (.iconst (-1), 1) := by decide +kernel
theorem dX2_setVote_30 : decode cX2_setVote 30 = .ok (.ixor, 1) := by decide +kernel
theorem dX2_setVote_31 : decode cX2_setVote 31 = .ok (.iand, 1) := by decide +kernel
theorem dX2_setVote_32 : decode cX2_setVote 32 = .ok (.iastore, 1) := by decide +kernel
theorem dX2_setVote_33 : decode cX2_setVote 33 = .ok (.goto 27, 3) := by decide +kernel
theorem dX2_setVote_36 : decode cX2_setVote 36 = .ok (.aload_n 0, 1) := by decide +kernel
theorem dX2_setVote_37 : decode cX2_setVote 37 = .ok (.getfield 24, 3) := by decide +kernel
theorem dX2_setVote_40 : decode cX2_setVote 40 = .ok (.iload_n 1, 1) := by decide +kernel
theorem dX2_setVote_41 : decode cX2_setVote 41 = .ok (.dup2, 1) := by decide +kernel
theorem dX2_setVote_42 : decode cX2_setVote 42 = .ok (.iaload, 1) := by decide +kernel
theorem dX2_setVote_43 : decode cX2_setVote 43 = .ok (.iload 4, 2) := by decide +kernel
theorem dX2_setVote_45 : decode cX2_setVote 45 = .ok (.iconst (-1), 1) := by decide +kernel
theorem dX2_setVote_46 : decode cX2_setVote 46 = .ok (.ixor, 1) := by decide +kernel
theorem dX2_setVote_47 : decode cX2_setVote 47 = .ok (.iand, 1) := by decide +kernel
theorem dX2_setVote_48 : decode cX2_setVote 48 = .ok (.iastore, 1) := by decide +kernel
theorem dX2_setVote_49 : decode cX2_setVote 49 = .ok (.aload_n 0, 1) := by decide +kernel
theorem dX2_setVote_50 : decode cX2_setVote 50 = .ok (.getfield 27, 3) := by decide +kernel
theorem dX2_setVote_53 : decode cX2_setVote 53 = .ok (.iload_n 1, 1) := by decide +kernel
theorem dX2_setVote_54 : decode cX2_setVote 54 = .ok (.dup2, 1) := by decide +kernel
theorem dX2_setVote_55 : decode cX2_setVote 55 = .ok (.iaload, 1) := by decide +kernel
theorem dX2_setVote_56 : decode cX2_setVote 56 = .ok (.iload 4, 2) := by decide +kernel
theorem dX2_setVote_58 : decode cX2_setVote 58 = .ok (.ior, 1) := by decide +kernel
theorem dX2_setVote_59 : decode cX2_setVote 59 = .ok (.iastore, 1) := by decide +kernel
theorem dX2_setVote_60 : decode cX2_setVote 60 = .ok (.return_, 1) := by decide +kernel
theorem dX2_leadOf_0 : decode cX2_leadOf 0 = .ok (.aload_n 0, 1) := by decide +kernel
theorem dX2_leadOf_1 : decode cX2_leadOf 1 = .ok (.getfield 24, 3) := by decide +kernel
theorem dX2_leadOf_4 : decode cX2_leadOf 4 = .ok (.iload_n 1, 1) := by decide +kernel
theorem dX2_leadOf_5 : decode cX2_leadOf 5 = .ok (.iaload, 1) := by decide +kernel
theorem dX2_leadOf_6 : decode cX2_leadOf 6 = .ok (.invokestatic 34, 3) := by decide +kernel
theorem dX2_leadOf_9 : decode cX2_leadOf 9 = .ok (.aload_n 0, 1) := by decide +kernel
theorem dX2_leadOf_10 : decode cX2_leadOf 10 = .ok (.getfield 27, 3) := by decide +kernel
theorem dX2_leadOf_13 : decode cX2_leadOf 13 = .ok (.iload_n 1, 1) := by decide +kernel
theorem dX2_leadOf_14 : decode cX2_leadOf 14 = .ok (.iaload, 1) := by decide +kernel
theorem dX2_leadOf_15 : decode cX2_leadOf 15 = .ok (.invokestatic 34, 3) := by decide +kernel
theorem dX2_leadOf_18 : decode cX2_leadOf 18 = .ok (.isub, 1) := by decide +kernel
theorem dX2_leadOf_19 : decode cX2_leadOf 19 = .ok (.ireturn, 1) := by decide +kernel
theorem dX2_isAllowedBy_0 : decode cX2_isAllowedBy 0 = .ok (.aload_n 1, 1) := by decide +kernel
theorem dX2_isAllowedBy_1 : decode cX2_isAllowedBy 1 = .ok (.aload_n 0, 1) := by decide +kernel
theorem dX2_isAllowedBy_2 : decode cX2_isAllowedBy 2 = .ok (.getfield 9, 3) := by decide +kernel
theorem dX2_isAllowedBy_5 : decode cX2_isAllowedBy 5 = .ok (.iload_n 2, 1) := by decide +kernel
theorem dX2_isAllowedBy_6 : decode cX2_isAllowedBy 6 = .ok (.iaload, 1) := by decide +kernel
theorem dX2_isAllowedBy_7 : decode cX2_isAllowedBy 7 = .ok (.aload_n 0, 1) := by decide +kernel
theorem dX2_isAllowedBy_8 : decode cX2_isAllowedBy 8 = .ok (.getfield 15, 3) := by decide +kernel
theorem dX2_isAllowedBy_11 : decode cX2_isAllowedBy 11 = .ok (.iload_n 2, 1) := by decide +kernel
theorem dX2_isAllowedBy_12 : decode cX2_isAllowedBy 12 = .ok (.iaload, 1) := by decide +kernel
theorem dX2_isAllowedBy_13 : decode cX2_isAllowedBy 13 = .ok (.aload_n 0, 1) := by decide +kernel
theorem dX2_isAllowedBy_14 : decode cX2_isAllowedBy 14 = .ok (.getfield 18, 3) := by decide +kernel
theorem dX2_isAllowedBy_17 : decode cX2_isAllowedBy 17 = .ok (.iload_n 2, 1) := by decide +kernel
theorem dX2_isAllowedBy_18 : decode cX2_isAllowedBy 18 = .ok (.iaload, 1) := by decide +kernel
theorem dX2_isAllowedBy_19 : decode cX2_isAllowedBy 19 = .ok (.invokevirtual 40, 3) := by decide +kernel
theorem dX2_isAllowedBy_22 : decode cX2_isAllowedBy 22 = .ok (.ireturn, 1) := by decide +kernel
theorem dX2_carryOut_0 : decode cX2_carryOut 0 = .ok (.aload_n 1, 1) := by decide +kernel
theorem dX2_carryOut_1 : decode cX2_carryOut 1 = .ok (.aload_n 0, 1) := by decide +kernel
theorem dX2_carryOut_2 : decode cX2_carryOut 2 = .ok (.getfield 9, 3) := by decide +kernel
theorem dX2_carryOut_5 : decode cX2_carryOut 5 = .ok (.iload_n 2, 1) := by decide +kernel
theorem dX2_carryOut_6 : decode cX2_carryOut 6 = .ok (.iaload, 1) := by decide +kernel
theorem dX2_carryOut_7 : decode cX2_carryOut 7 = .ok (.aload_n 0, 1) := by decide +kernel
theorem dX2_carryOut_8 : decode cX2_carryOut 8 = .ok (.getfield 15, 3) := by decide +kernel
theorem dX2_carryOut_11 : decode cX2_carryOut 11 = .ok (.iload_n 2, 1) := by decide +kernel
theorem dX2_carryOut_12 : decode cX2_carryOut 12 = .ok (.iaload, 1) := by decide +kernel
theorem dX2_carryOut_13 : decode cX2_carryOut 13 = .ok (.aload_n 0, 1) := by decide +kernel
theorem dX2_carryOut_14 : decode cX2_carryOut 14 = .ok (.getfield 18, 3) := by decide +kernel
theorem dX2_carryOut_17 : decode cX2_carryOut 17 = .ok (.iload_n 2, 1) := by decide +kernel
theorem dX2_carryOut_18 : decode cX2_carryOut 18 = .ok (.iaload, 1) := by decide +kernel
theorem dX2_carryOut_19 : decode cX2_carryOut 19 = .ok (.invokevirtual 46, 3) := by decide +kernel
theorem dX2_carryOut_22 : decode cX2_carryOut 22 = .ok (.return_, 1) := by decide +kernel
theorem dX3_init_0 : decode cX3_init 0 = .ok (.aload_n 0, 1) := by decide +kernel
theorem dX3_init_1 : decode cX3_init 1 = .ok (.invokespecial 3, 3) := by decide +kernel
theorem dX3_init_4 : decode cX3_init 4 = .ok (.aload_n 0, 1) := by decide +kernel
theorem dX3_init_5 : decode cX3_init 5 = .ok (.bipush 24, 2) := by decide +kernel
theorem dX3_init_7 : decode cX3_init 7 = .ok (.newarray .int, 2) := by decide +kernel
theorem dX3_init_9 : decode cX3_init 9 = .ok (.putfield 9, 3) := by decide +kernel
theorem dX3_init_12 : decode cX3_init 12 = .ok (.return_, 1) := by decide +kernel
theorem dX3_refresh_0 : decode cX3_refresh 0 = .ok (.iconst 0, 1) := by decide +kernel
theorem dX3_refresh_1 : decode cX3_refresh 1 = .ok (.istore_n 3, 1) := by decide +kernel
theorem dX3_refresh_2 : decode cX3_refresh 2 = .ok (.iload_n 3, 1) := by decide +kernel
theorem dX3_refresh_3 : decode cX3_refresh 3 = .ok (.aload_n 1, 1) := by decide +kernel
theorem dX3_refresh_4 : decode cX3_refresh 4 = .ok (.getfield 15, 3) := by decide +kernel
theorem dX3_refresh_7 : decode cX3_refresh 7 = .ok (.if_icmp .ge 16, 3) := by decide +kernel
theorem dX3_refresh_10 : decode cX3_refresh 10 = .ok (.aload_n 0, 1) := by decide +kernel
theorem dX3_refresh_11 : decode cX3_refresh 11 = .ok (.getfield 9, 3) := by decide +kernel
theorem dX3_refresh_14 : decode cX3_refresh 14 = .ok (.iload_n 3, 1) := by decide +kernel
theorem dX3_refresh_15 : decode cX3_refresh 15 = .ok (.iconst 0, 1) := by decide +kernel
theorem dX3_refresh_16 : decode cX3_refresh 16 = .ok (.iastore, 1) := by decide +kernel
theorem dX3_refresh_17 : decode cX3_refresh 17 = .ok (.iinc 3 1, 3) := by decide +kernel
theorem dX3_refresh_20 : decode cX3_refresh 20 = .ok (.goto (-18), 3) := by decide +kernel
theorem dX3_refresh_23 : decode cX3_refresh 23 = .ok (.iconst 0, 1) := by decide +kernel
theorem dX3_refresh_24 : decode cX3_refresh 24 = .ok (.istore_n 3, 1) := by decide +kernel
theorem dX3_refresh_25 : decode cX3_refresh 25 = .ok (.iload_n 3, 1) := by decide +kernel
theorem dX3_refresh_26 : decode cX3_refresh 26 = .ok (.aload_n 2, 1) := by decide +kernel
theorem dX3_refresh_27 : decode cX3_refresh 27 = .ok (.getfield 21, 3) := by decide +kernel
theorem dX3_refresh_30 : decode cX3_refresh 30 = .ok (.if_icmp .ge 62, 3) := by decide +kernel
theorem dX3_refresh_33 : decode cX3_refresh 33 = .ok (.aload_n 1, 1) := by decide +kernel
theorem dX3_refresh_34 : decode cX3_refresh 34 = .ok (.aload_n 2, 1) := by decide +kernel
theorem dX3_refresh_35 : decode cX3_refresh 35 = .ok (.getfield 24, 3) := by decide +kernel
theorem dX3_refresh_38 : decode cX3_refresh 38 = .ok (.iload_n 3, 1) := by decide +kernel
theorem dX3_refresh_39 : decode cX3_refresh 39 = .ok (.iaload, 1) := by decide +kernel
theorem dX3_refresh_40 : decode cX3_refresh 40 = .ok (.invokevirtual 27, 3) := by decide +kernel
theorem dX3_refresh_43 : decode cX3_refresh 43 = .ok (.istore 4, 2) := by decide +kernel
theorem dX3_refresh_45 : decode cX3_refresh 45 = .ok (.iconst 0, 1) := by decide +kernel
theorem dX3_refresh_46 : decode cX3_refresh 46 = .ok (.istore 5, 2) := by decide +kernel
theorem dX3_refresh_48 : decode cX3_refresh 48 = .ok (.iload 5, 2) := by decide +kernel
theorem dX3_refresh_50 : decode cX3_refresh 50 = .ok (.aload_n 1, 1) := by decide +kernel
theorem dX3_refresh_51 : decode cX3_refresh 51 = .ok (.getfield 15, 3) := by decide +kernel
theorem dX3_refresh_54 : decode cX3_refresh 54 = .ok (.if_icmp .ge 32, 3) := by decide +kernel
theorem dX3_refresh_57 : decode cX3_refresh 57 = .ok (.iload 4, 2) := by decide +kernel
theorem dX3_refresh_59 : decode cX3_refresh 59 = .ok (.iload 5, 2) := by decide +kernel
theorem dX3_refresh_61 : decode cX3_refresh 61 = .ok (.invokestatic 31, 3) := by decide +kernel
theorem dX3_refresh_64 : decode cX3_refresh 64 = .ok (.ifCond .eq 16, 3) := by decide +kernel
theorem dX3_refresh_67 : decode cX3_refresh 67 = .ok (.aload_n 0, 1) := by decide +kernel
theorem dX3_refresh_68 : decode cX3_refresh 68 = .ok (.getfield 9, 3) := by decide +kernel
theorem dX3_refresh_71 : decode cX3_refresh 71 = .ok (.iload 5, 2) := by decide +kernel
theorem dX3_refresh_73 : decode cX3_refresh 73 = .ok (.dup2, 1) := by decide +kernel
theorem dX3_refresh_74 : decode cX3_refresh 74 = .ok (.iaload, 1) := by decide +kernel
theorem dX3_refresh_75 : decode cX3_refresh 75 = .ok (.iconst 1, 1) := by decide +kernel
theorem dX3_refresh_76 : decode cX3_refresh 76 = .ok (.iload_n 3, 1) := by decide +kernel
theorem dX3_refresh_77 : decode cX3_refresh 77 = .ok (.ishl, 1) := by decide +kernel
theorem dX3_refresh_78 : decode cX3_refresh 78 = .ok (.ior, 1) := by decide +kernel
theorem dX3_refresh_79 : decode cX3_refresh 79 = .ok (.iastore, 1) := by decide +kernel
theorem dX3_refresh_80 : decode cX3_refresh 80 = .ok (.iinc 5 1, 3) := by decide +kernel
theorem dX3_refresh_83 : decode cX3_refresh 83 = .ok (.goto (-35), 3) := by decide +kernel
theorem dX3_refresh_86 : decode cX3_refresh 86 = .ok (.iinc 3 1, 3) := by decide +kernel
theorem dX3_refresh_89 : decode cX3_refresh 89 = .ok (.goto (-64), 3) := by decide +kernel
theorem dX3_refresh_92 : decode cX3_refresh 92 = .ok (.return_, 1) := by decide +kernel
theorem dX3_column_0 : decode cX3_column 0 = .ok (.iconst 0, 1) := by decide +kernel
theorem dX3_column_1 : decode cX3_column 1 = .ok (.istore_n 3, 1) := by decide +kernel
theorem dX3_column_2 : decode cX3_column 2 = .ok (.iconst 0, 1) := by decide +kernel
theorem dX3_column_3 : decode cX3_column 3 = .ok (.istore 4, 2) := by decide +kernel
theorem dX3_column_5 : decode cX3_column 5 = .ok (.iload 4, 2) := by decide +kernel
theorem dX3_column_7 : decode cX3_column 7 = .ok (.iload_n 2, 1) := by decide +kernel
theorem dX3_column_8 : decode cX3_column 8 = .ok (.if_icmp .ge 30, 3) := by decide +kernel
theorem dX3_column_11 : decode cX3_column 11 = .ok (.aload_n 0, 1) := by decide +kernel
theorem dX3_column_12 : decode cX3_column 12 = .ok (.getfield 9, 3) := by decide +kernel
theorem dX3_column_15 : decode cX3_column 15 = .ok (.iload 4, 2) := by decide +kernel
theorem dX3_column_17 : decode cX3_column 17 = .ok (.iaload, 1) := by decide +kernel
theorem dX3_column_18 : decode cX3_column 18 = .ok (.iload_n 1, 1) := by decide +kernel
theorem dX3_column_19 : decode cX3_column 19 = .ok (.invokestatic 31, 3) := by decide +kernel
theorem dX3_column_22 : decode cX3_column 22 = .ok (.ifCond .eq 10, 3) := by decide +kernel
theorem dX3_column_25 : decode cX3_column 25 = .ok (.iload_n 3, 1) := by decide +kernel
theorem dX3_column_26 : decode cX3_column 26 = .ok (.iconst 1, 1) := by decide +kernel
theorem dX3_column_27 : decode cX3_column 27 = .ok (.iload 4, 2) := by decide +kernel
theorem dX3_column_29 : decode cX3_column 29 = .ok (.ishl, 1) := by decide +kernel
theorem dX3_column_30 : decode cX3_column 30 = .ok (.ior, 1) := by decide +kernel
theorem dX3_column_31 : decode cX3_column 31 = .ok (.istore_n 3, 1) := by decide +kernel
theorem dX3_column_32 : decode cX3_column 32 = .ok (.iinc 4 1, 3) := by decide +kernel
theorem dX3_column_35 : decode cX3_column 35 = .ok (.goto (-30), 3) := by decide +kernel
theorem dX3_column_38 : decode cX3_column 38 = .ok (.iload_n 3, 1) := by decide +kernel
theorem dX3_column_39 : decode cX3_column 39 = .ok (.ireturn, 1) := by decide +kernel
theorem dX4_init_0 : decode cX4_init 0 = .ok (.aload_n 0, 1) := by decide +kernel
theorem dX4_init_1 : decode cX4_init 1 = .ok (.invokespecial 3, 3) := by decide +kernel
theorem dX4_init_4 : decode cX4_init 4 = .ok (.aload_n 0, 1) := by decide +kernel
theorem dX4_init_5 : decode cX4_init 5 = .ok (.bipush 24, 2) := by decide +kernel
theorem dX4_init_7 : decode cX4_init 7 = .ok (.newarray .int, 2) := by decide +kernel
theorem dX4_init_9 : decode cX4_init 9 = .ok (.putfield 9, 3) := by decide +kernel
theorem dX4_init_12 : decode cX4_init 12 = .ok (.aload_n 0, 1) := by decide +kernel
theorem dX4_init_13 : decode cX4_init 13 = .ok (.bipush 24, 2) := by decide +kernel
theorem dX4_init_15 : decode cX4_init 15 = .ok (.newarray .int, 2) := by decide +kernel
theorem dX4_init_17 : decode cX4_init 17 = .ok (.putfield 15, 3) := by decide +kernel
theorem dX4_init_20 : decode cX4_init 20 = .ok (.aload_n 0, 1) := by decide +kernel
theorem dX4_init_21 : decode cX4_init 21 = .ok (.bipush 24, 2) := by decide +kernel
theorem dX4_init_23 : decode cX4_init 23 = .ok (.newarray .int, 2) := by decide +kernel
theorem dX4_init_25 : decode cX4_init 25 = .ok (.putfield 18, 3) := by decide +kernel
theorem dX4_init_28 : decode cX4_init 28 = .ok (.aload_n 0, 1) := by decide +kernel
theorem dX4_init_29 : decode cX4_init 29 = .ok (.bipush 24, 2) := by decide +kernel
theorem dX4_init_31 : decode cX4_init 31 = .ok (.newarray .int, 2) := by decide +kernel
theorem dX4_init_33 : decode cX4_init 33 = .ok (.putfield 21, 3) := by decide +kernel
theorem dX4_init_36 : decode cX4_init 36 = .ok (.return_, 1) := by decide +kernel
theorem dX4_grow_0 : decode cX4_grow 0 = .ok (.aload_n 0, 1) := by decide +kernel
theorem dX4_grow_1 : decode cX4_grow 1 = .ok (.getfield 24, 3) := by decide +kernel
theorem dX4_grow_4 : decode cX4_grow 4 = .ok (.istore_n 2, 1) := by decide +kernel
theorem dX4_grow_5 : decode cX4_grow 5 = .ok (.iload_n 2, 1) := by decide +kernel
theorem dX4_grow_6 : decode cX4_grow 6 = .ok (.iload_n 1, 1) := by decide +kernel
theorem dX4_grow_7 : decode cX4_grow 7 = .ok (.if_icmp .ge 16, 3) := by decide +kernel
theorem dX4_grow_10 : decode cX4_grow 10 = .ok (.aload_n 0, 1) := by decide +kernel
theorem dX4_grow_11 : decode cX4_grow 11 = .ok (.getfield 9, 3) := by decide +kernel
theorem dX4_grow_14 : decode cX4_grow 14 = .ok (.iload_n 2, 1) := by decide +kernel
theorem dX4_grow_15 : decode cX4_grow 15 = .ok (.iconst (-1), 1) := by decide +kernel
theorem dX4_grow_16 : decode cX4_grow 16 = .ok (.iastore, 1) := by decide +kernel
theorem dX4_grow_17 : decode cX4_grow 17 = .ok (.iinc 2 1, 3) := by decide +kernel
theorem dX4_grow_20 : decode cX4_grow 20 = .ok (.goto (-15), 3) := by decide +kernel
theorem dX4_grow_23 : decode cX4_grow 23 = .ok (.aload_n 0, 1) := by decide +kernel
theorem dX4_grow_24 : decode cX4_grow 24 = .ok (.iload_n 1, 1) := by decide +kernel
theorem dX4_grow_25 : decode cX4_grow 25 = .ok (.putfield 24, 3) := by decide +kernel
theorem dX4_grow_28 : decode cX4_grow 28 = .ok (.aload_n 0, 1) := by decide +kernel
theorem dX4_grow_29 : decode cX4_grow 29 = .ok (.invokevirtual 28, 3) := by decide +kernel
theorem dX4_grow_32 : decode cX4_grow 32 = .ok (.return_, 1) := by decide +kernel
theorem dX4_copyFrom_0 : decode cX4_copyFrom 0 = .ok (.aload_n 0, 1) := by decide +kernel
theorem dX4_copyFrom_1 : decode cX4_copyFrom 1 = .ok (.aload_n 1, 1) := by decide +kernel
theorem dX4_copyFrom_2 : decode cX4_copyFrom 2 = .ok (.getfield 24, 3) := by decide +kernel
theorem dX4_copyFrom_5 : decode cX4_copyFrom 5 = .ok (.putfield 24, 3) := by decide +kernel
theorem dX4_copyFrom_8 : decode cX4_copyFrom 8 = .ok (.iconst 0, 1) := by decide +kernel
theorem dX4_copyFrom_9 : decode cX4_copyFrom 9 = .ok (.istore_n 2, 1) := by decide +kernel
theorem dX4_copyFrom_10 : decode cX4_copyFrom 10 = .ok (.iload_n 2, 1) := by decide +kernel
theorem dX4_copyFrom_11 : decode cX4_copyFrom 11 = .ok (.aload_n 0, 1) := by decide +kernel
theorem dX4_copyFrom_12 : decode cX4_copyFrom 12 = .ok (.getfield 24, 3) := by decide +kernel
theorem dX4_copyFrom_15 : decode cX4_copyFrom 15 = .ok (.if_icmp .ge 33, 3) := by decide +kernel
theorem dX4_copyFrom_18 : decode cX4_copyFrom 18 = .ok (.aload_n 0, 1) := by decide +kernel
theorem dX4_copyFrom_19 : decode cX4_copyFrom 19 = .ok (.getfield 9, 3) := by decide +kernel
theorem dX4_copyFrom_22 : decode cX4_copyFrom 22 = .ok (.iload_n 2, 1) := by decide +kernel
theorem dX4_copyFrom_23 : decode cX4_copyFrom 23 = .ok (.aload_n 1, 1) := by decide +kernel
theorem dX4_copyFrom_24 : decode cX4_copyFrom 24 = .ok (.getfield 9, 3) := by decide +kernel
theorem dX4_copyFrom_27 : decode cX4_copyFrom 27 = .ok (.iload_n 2, 1) := by decide +kernel
theorem dX4_copyFrom_28 : decode cX4_copyFrom 28 = .ok (.iaload, 1) := by decide +kernel
theorem dX4_copyFrom_29 : decode cX4_copyFrom 29 = .ok (.iastore, 1) := by decide +kernel
theorem dX4_copyFrom_30 : decode cX4_copyFrom 30 = .ok (.aload_n 0, 1) := by decide +kernel
theorem dX4_copyFrom_31 : decode cX4_copyFrom 31 = .ok (.getfield 15, 3) := by decide +kernel
theorem dX4_copyFrom_34 : decode cX4_copyFrom 34 = .ok (.iload_n 2, 1) := by decide +kernel
theorem dX4_copyFrom_35 : decode cX4_copyFrom 35 = .ok (.aload_n 1, 1) := by decide +kernel
theorem dX4_copyFrom_36 : decode cX4_copyFrom 36 = .ok (.getfield 15, 3) := by decide +kernel
theorem dX4_copyFrom_39 : decode cX4_copyFrom 39 = .ok (.iload_n 2, 1) := by decide +kernel
theorem dX4_copyFrom_40 : decode cX4_copyFrom 40 = .ok (.iaload, 1) := by decide +kernel
theorem dX4_copyFrom_41 : decode cX4_copyFrom 41 = .ok (.iastore, 1) := by decide +kernel
theorem dX4_copyFrom_42 : decode cX4_copyFrom 42 = .ok (.iinc 2 1, 3) := by decide +kernel
theorem dX4_copyFrom_45 : decode cX4_copyFrom 45 = .ok (.goto (-35), 3) := by decide +kernel
theorem dX4_copyFrom_48 : decode cX4_copyFrom 48 = .ok (.return_, 1) := by decide +kernel
theorem dX4_endOf_0 : decode cX4_endOf 0 = .ok (.iload_n 1, 1) := by decide +kernel
theorem dX4_endOf_1 : decode cX4_endOf 1 = .ok (.istore_n 2, 1) := by decide +kernel
theorem dX4_endOf_2 : decode cX4_endOf 2 = .ok (.iconst 0, 1) := by decide +kernel
theorem dX4_endOf_3 : decode cX4_endOf 3 = .ok (.istore_n 3, 1) := by decide +kernel
theorem dX4_endOf_4 : decode cX4_endOf 4 = .ok (.iload_n 3, 1) := by decide +kernel
theorem dX4_endOf_5 : decode cX4_endOf 5 = .ok (.aload_n 0, 1) := by decide +kernel
theorem dX4_endOf_6 : decode cX4_endOf 6 = .ok (.getfield 24, 3) := by decide +kernel
theorem dX4_endOf_9 : decode cX4_endOf 9 = .ok (.if_icmp .ge 37, 3) := by decide +kernel
theorem dX4_endOf_12 : decode cX4_endOf 12 = .ok (.aload_n 0, 1) := by decide +kernel
theorem dX4_endOf_13 : decode cX4_endOf 13 = .ok (.getfield 9, 3) := by decide +kernel
theorem dX4_endOf_16 : decode cX4_endOf 16 = .ok (.iload_n 2, 1) := by decide +kernel
theorem dX4_endOf_17 : decode cX4_endOf 17 = .ok (.iaload, 1) := by decide +kernel
theorem dX4_endOf_18 : decode cX4_endOf 18 = .ok (.istore 4, 2) := by decide +kernel
theorem dX4_endOf_20 : decode cX4_endOf 20 = .ok (.iload 4, 2) := by decide +kernel
theorem dX4_endOf_22 : decode cX4_endOf 22 = .ok (.ifCond .lt 24, 3) := by decide +kernel
theorem dX4_endOf_25 : decode cX4_endOf 25 = .ok (.iload 4, 2) := by decide +kernel
theorem dX4_endOf_27 : decode cX4_endOf 27 = .ok (.aload_n 0, 1) := by decide +kernel
theorem dX4_endOf_28 : decode cX4_endOf 28 = .ok (.getfield 24, 3) := by decide +kernel
theorem dX4_endOf_31 : decode cX4_endOf 31 = .ok (.if_icmp .lt 6, 3) := by decide +kernel
theorem dX4_endOf_34 : decode cX4_endOf 34 = .ok (.goto 12, 3) := by decide +kernel
theorem dX4_endOf_37 : decode cX4_endOf 37 = .ok (.iload 4, 2) := by decide +kernel
theorem dX4_endOf_39 : decode cX4_endOf 39 = .ok (.istore_n 2, 1) := by decide +kernel
theorem dX4_endOf_40 : decode cX4_endOf 40 = .ok (.iinc 3 1, 3) := by decide +kernel
theorem dX4_endOf_43 : decode cX4_endOf 43 = .ok (.goto (-39), 3) := by decide +kernel
theorem dX4_endOf_46 : decode cX4_endOf 46 = .ok (.iload_n 2, 1) := by decide +kernel
theorem dX4_endOf_47 : decode cX4_endOf 47 = .ok (.ireturn, 1) := by decide +kernel
theorem dX4_allows_0 : decode cX4_allows 0 = .ok (.iload_n 1, 1) := by decide +kernel
theorem dX4_allows_1 : decode cX4_allows 1 = .ok (.tableswitch 90 0 2 #[27, 34, 74], 27) := by decide +kernel
theorem dX4_allows_28 : decode cX4_allows 28 = .ok (.aload_n 0, 1) := by decide +kernel
theorem dX4_allows_29 : decode cX4_allows 29 = .ok (.iload_n 2, 1) := by decide +kernel
theorem dX4_allows_30 : decode cX4_allows 30 = .ok (.iload_n 3, 1) := by decide +kernel
theorem dX4_allows_31 : decode cX4_allows 31 = .ok (.invokevirtual 31, 3) := by decide +kernel
theorem dX4_allows_34 : decode cX4_allows 34 = .ok (.ireturn, 1) := by decide +kernel
theorem dX4_allows_35 : decode cX4_allows 35 = .ok (.aload_n 0, 1) := by decide +kernel
theorem dX4_allows_36 : decode cX4_allows 36 = .ok (.getfield 15, 3) := by decide +kernel
theorem dX4_allows_39 : decode cX4_allows 39 = .ok (.iload_n 2, 1) := by decide +kernel
theorem dX4_allows_40 : decode cX4_allows 40 = .ok (.iaload, 1) := by decide +kernel
theorem dX4_allows_41 : decode cX4_allows 41 = .ok (.iload_n 3, 1) := by decide +kernel
theorem dX4_allows_42 : decode cX4_allows 42 = .ok (.invokestatic 35, 3) := by decide +kernel
theorem dX4_allows_45 : decode cX4_allows 45 = .ok (.ifCond .ne 28, 3) := by decide +kernel
theorem dX4_allows_48 : decode cX4_allows 48 = .ok (.aload_n 0, 1) := by decide +kernel
theorem dX4_allows_49 : decode cX4_allows 49 = .ok (.getfield 21, 3) := by decide +kernel
theorem dX4_allows_52 : decode cX4_allows 52 = .ok (.aload_n 0, 1) := by decide +kernel
theorem dX4_allows_53 : decode cX4_allows 53 = .ok (.iload_n 3, 1) := by decide +kernel
theorem dX4_allows_54 : decode cX4_allows 54 = .ok (.invokevirtual 38, 3) := by decide +kernel
theorem dX4_allows_57 : decode cX4_allows 57 = .ok (.iaload, 1) := by decide +kernel
theorem dX4_allows_58 : decode cX4_allows 58 = .ok (.aload_n 0, 1) := by decide +kernel
theorem dX4_allows_59 : decode cX4_allows 59 = .ok (.iload_n 2, 1) := by decide +kernel
theorem dX4_allows_60 : decode cX4_allows 60 = .ok (.invokevirtual 38, 3) := by decide +kernel
theorem dX4_allows_63 : decode cX4_allows 63 = .ok (.invokestatic 35, 3) := by decide +kernel
theorem dX4_allows_66 : decode cX4_allows 66 = .ok (.ifCond .ne 7, 3) := by decide +kernel
theorem dX4_allows_69 : decode cX4_allows 69 = .ok (.iconst 1, 1) := by decide +kernel
theorem dX4_allows_70 : decode cX4_allows 70 = .ok (.goto 4, 3) := by decide +kernel
theorem dX4_allows_73 : decode cX4_allows 73 = .ok (.iconst 0, 1) := by decide +kernel
theorem dX4_allows_74 : decode cX4_allows 74 = .ok (.ireturn, 1) := by decide +kernel
theorem dX4_allows_75 : decode cX4_allows 75 = .ok (.aload_n 0, 1) := by decide +kernel
theorem dX4_allows_76 : decode cX4_allows 76 = .ok (.getfield 9, 3) := by decide +kernel
theorem dX4_allows_79 : decode cX4_allows 79 = .ok (.iload_n 2, 1) := by decide +kernel
theorem dX4_allows_80 : decode cX4_allows 80 = .ok (.iaload, 1) := by decide +kernel
theorem dX4_allows_81 : decode cX4_allows 81 = .ok (.iload_n 3, 1) := by decide +kernel
theorem dX4_allows_82 : decode cX4_allows 82 = .ok (.if_icmp .ne 7, 3) := by decide +kernel
theorem dX4_allows_85 : decode cX4_allows 85 = .ok (.iconst 1, 1) := by decide +kernel
theorem dX4_allows_86 : decode cX4_allows 86 = .ok (.goto 4, 3) := by decide +kernel
theorem dX4_allows_89 : decode cX4_allows 89 = .ok (.iconst 0, 1) := by decide +kernel
theorem dX4_allows_90 : decode cX4_allows 90 = .ok (.ireturn, 1) := by decide +kernel
theorem dX4_allows_91 : decode cX4_allows 91 = .ok (.aload_n 0, 1) := by decide +kernel
theorem dX4_allows_92 : decode cX4_allows 92 = .ok (.getfield 15, 3) := by decide +kernel
theorem dX4_allows_95 : decode cX4_allows 95 = .ok (.iload_n 2, 1) := by decide +kernel
theorem dX4_allows_96 : decode cX4_allows 96 = .ok (.iaload, 1) := by decide +kernel
theorem dX4_allows_97 : decode cX4_allows 97 = .ok (.iload_n 3, 1) := by decide +kernel
theorem dX4_allows_98 : decode cX4_allows 98 = .ok (.invokestatic 35, 3) := by decide +kernel
theorem dX4_allows_101 : decode cX4_allows 101 = .ok (.ireturn, 1) := by decide +kernel
theorem dX4_allowsAlias_0 : decode cX4_allowsAlias 0 = .ok (.aload_n 0, 1) := by decide +kernel
theorem dX4_allowsAlias_1 : decode cX4_allowsAlias 1 = .ok (.iload_n 2, 1) := by decide +kernel
theorem dX4_allowsAlias_2 : decode cX4_allowsAlias 2 = .ok (.invokevirtual 38, 3) := by decide +kernel
theorem dX4_allowsAlias_5 : decode cX4_allowsAlias 5 = .ok (.istore_n 3, 1) := by decide +kernel
theorem dX4_allowsAlias_6 : decode cX4_allowsAlias 6 = .ok (.aload_n 0, 1) := by decide +kernel
theorem dX4_allowsAlias_7 : decode cX4_allowsAlias 7 = .ok (.getfield 9, 3) := by decide +kernel
theorem dX4_allowsAlias_10 : decode cX4_allowsAlias 10 = .ok (.iload_n 1, 1) := by decide +kernel
theorem dX4_allowsAlias_11 : decode cX4_allowsAlias 11 = .ok (.iaload, 1) := by decide +kernel
theorem dX4_allowsAlias_12 : decode cX4_allowsAlias 12 = .ok (.iconst (-1), 1) := by decide +kernel
theorem dX4_allowsAlias_13 : decode cX4_allowsAlias 13 = .ok (.if_icmp .ne 38, 3) := by decide +kernel
theorem dX4_allowsAlias_16 : decode cX4_allowsAlias 16 = .ok (.iload_n 3, 1) := by decide +kernel
theorem dX4_allowsAlias_17 : decode cX4_allowsAlias 17 = .ok (.iload_n 1, 1) := by decide +kernel
theorem dX4_allowsAlias_18 : decode cX4_allowsAlias 18 = .ok (.if_icmp .eq 33, 3) := by decide +kernel
theorem dX4_allowsAlias_21 : decode cX4_allowsAlias 21 = .ok (.aload_n 0, 1) := by decide +kernel
theorem dX4_allowsAlias_22 : decode cX4_allowsAlias 22 = .ok (.getfield 21, 3) := by decide +kernel
theorem dX4_allowsAlias_25 : decode cX4_allowsAlias 25 = .ok (.iload_n 1, 1) := by decide +kernel
theorem dX4_allowsAlias_26 : decode cX4_allowsAlias 26 = .ok (.iaload, 1) := by decide +kernel
theorem dX4_allowsAlias_27 : decode cX4_allowsAlias 27 = .ok (.iload_n 3, 1) := by decide +kernel
theorem dX4_allowsAlias_28 : decode cX4_allowsAlias 28 = .ok (.invokestatic 35, 3) := by decide +kernel
theorem dX4_allowsAlias_31 : decode cX4_allowsAlias 31 = .ok (.ifCond .ne 20, 3) := by decide +kernel
theorem dX4_allowsAlias_34 : decode cX4_allowsAlias 34 = .ok (.aload_n 0, 1) := by decide +kernel
theorem dX4_allowsAlias_35 : decode cX4_allowsAlias 35 = .ok (.getfield 21, 3) := by decide +kernel
theorem dX4_allowsAlias_38 : decode cX4_allowsAlias 38 = .ok (.iload_n 3, 1) := by decide +kernel
theorem dX4_allowsAlias_39 : decode cX4_allowsAlias 39 = .ok (.iaload, 1) := by decide +kernel
theorem dX4_allowsAlias_40 : decode cX4_allowsAlias 40 = .ok (.iload_n 1, 1) := by decide +kernel
theorem dX4_allowsAlias_41 : decode cX4_allowsAlias 41 = .ok (.invokestatic 35, 3) := by decide +kernel
theorem dX4_allowsAlias_44 : decode cX4_allowsAlias 44 = .ok (.ifCond .ne 7, 3) := by decide +kernel
theorem dX4_allowsAlias_47 : decode cX4_allowsAlias 47 = .ok (.iconst 1, 1) := by decide +kernel
theorem dX4_allowsAlias_48 : decode cX4_allowsAlias 48 = .ok (.goto 4, 3) := by decide +kernel
theorem dX4_allowsAlias_51 : decode cX4_allowsAlias 51 = .ok (.iconst 0, 1) := by decide +kernel
theorem dX4_allowsAlias_52 : decode cX4_allowsAlias 52 = .ok (.ireturn, 1) := by decide +kernel
theorem dX4_carryOut_0 : decode cX4_carryOut 0 = .ok (.iload_n 1, 1) := by decide +kernel
theorem dX4_carryOut_1 : decode cX4_carryOut 1 = .ok (.tableswitch 62 0 2 #[27, 37, 52], 27) := by decide +kernel
theorem dX4_carryOut_28 : decode cX4_carryOut 28 = .ok (.aload_n 0, 1) := by decide +kernel
theorem dX4_carryOut_29 : decode cX4_carryOut 29 = .ok (.getfield 9, 3) := by decide +kernel
theorem dX4_carryOut_32 : decode cX4_carryOut 32 = .ok (.iload_n 2, 1) := by decide +kernel
theorem dX4_carryOut_33 : decode cX4_carryOut 33 = .ok (.iload_n 3, 1) := by decide +kernel
theorem dX4_carryOut_34 : decode cX4_carryOut 34 = .ok (.iastore, 1) := by decide +kernel
theorem dX4_carryOut_35 : decode cX4_carryOut 35 = .ok (.goto 42, 3) := by decide +kernel
theorem dX4_carryOut_38 : decode cX4_carryOut 38 = .ok (.aload_n 0, 1) := by decide +kernel
theorem dX4_carryOut_39 : decode cX4_carryOut 39 = .ok (.getfield 15, 3) := by decide +kernel
theorem dX4_carryOut_42 : decode cX4_carryOut 42 = .ok (.iload_n 2, 1) := by decide +kernel
theorem dX4_carryOut_43 : decode cX4_carryOut 43 = .ok (.dup2, 1) := by decide +kernel
theorem dX4_carryOut_44 : decode cX4_carryOut 44 = .ok (.iaload, 1) := by decide +kernel
theorem dX4_carryOut_45 : decode cX4_carryOut 45 = .ok (.iconst 1, 1) := by decide +kernel
theorem dX4_carryOut_46 : decode cX4_carryOut 46 = .ok (.iload_n 3, 1) := by decide +kernel
theorem dX4_carryOut_47 : decode cX4_carryOut 47 = .ok (.ishl, 1) := by decide +kernel
theorem dX4_carryOut_48 : decode cX4_carryOut 48 = .ok (.ior, 1) := by decide +kernel
theorem dX4_carryOut_49 : decode cX4_carryOut 49 = .ok (.iastore, 1) := by decide +kernel
theorem dX4_carryOut_50 : decode cX4_carryOut 50 = .ok (.goto 27, 3) := by decide +kernel
theorem dX4_carryOut_53 : decode cX4_carryOut 53 = .ok (.aload_n 0, 1) := by decide +kernel
theorem dX4_carryOut_54 : decode cX4_carryOut 54 = .ok (.getfield 9, 3) := by decide +kernel
theorem dX4_carryOut_57 : decode cX4_carryOut 57 = .ok (.iload_n 2, 1) := by decide +kernel
theorem dX4_carryOut_58 : decode cX4_carryOut 58 = .ok (.iconst (-1), 1) := by decide +kernel
theorem dX4_carryOut_59 : decode cX4_carryOut 59 = .ok (.iastore, 1) := by decide +kernel
theorem dX4_carryOut_60 : decode cX4_carryOut 60 = .ok (.goto 17, 3) := by decide +kernel
theorem dX4_carryOut_63 : decode cX4_carryOut 63 = .ok (.aload_n 0, 1) := by decide +kernel
theorem dX4_carryOut_64 : decode cX4_carryOut 64 = .ok (.getfield 15, 3) := by decide +kernel
theorem dX4_carryOut_67 : decode cX4_carryOut 67 = .ok (.iload_n 2, 1) := by decide +kernel
theorem dX4_carryOut_68 : decode cX4_carryOut 68 = .ok (.dup2, 1) := by decide +kernel
theorem dX4_carryOut_69 : decode cX4_carryOut 69 = .ok (.iaload, 1) := by decide +kernel
theorem dX4_carryOut_70 : decode cX4_carryOut 70 = .ok (.iconst 1, 1) := by decide +kernel
theorem dX4_carryOut_71 : decode cX4_carryOut 71 = .ok (.iload_n 3, 1) := by decide +kernel
theorem dX4_carryOut_72 : decode cX4_carryOut 72 = .ok (.ishl, 1) := by decide +kernel
theorem dX4_carryOut_73 : decode cX4_carryOut 73 = .ok (.iconst (-1), 1) := by decide +kernel
theorem dX4_carryOut_74 : decode cX4_carryOut 74 = .ok (.ixor, 1) := by decide +kernel
theorem dX4_carryOut_75 : decode cX4_carryOut 75 = .ok (.iand, 1) := by decide +kernel
theorem dX4_carryOut_76 : decode cX4_carryOut 76 = .ok (.iastore, 1) := by decide +kernel
theorem dX4_carryOut_77 : decode cX4_carryOut 77 = .ok (.aload_n 0, 1) := by decide +kernel
theorem dX4_carryOut_78 : decode cX4_carryOut 78 = .ok (.invokevirtual 28, 3) := by decide +kernel
theorem dX4_carryOut_81 : decode cX4_carryOut 81 = .ok (.return_, 1) := by decide +kernel
theorem dX4_workOut_0 : decode cX4_workOut 0 = .ok (.iconst 0, 1) := by decide +kernel
theorem dX4_workOut_1 : decode cX4_workOut 1 = .ok (.istore_n 1, 1) := by decide +kernel
theorem dX4_workOut_2 : decode cX4_workOut 2 = .ok (.iload_n 1, 1) := by decide +kernel
theorem dX4_workOut_3 : decode cX4_workOut 3 = .ok (.aload_n 0, 1) := by decide +kernel
theorem dX4_workOut_4 : decode cX4_workOut 4 = .ok (.getfield 24, 3) := by decide +kernel
theorem dX4_workOut_7 : decode cX4_workOut 7 = .ok (.if_icmp .ge 16, 3) := by decide +kernel
theorem dX4_workOut_10 : decode cX4_workOut 10 = .ok (.aload_n 0, 1) := by decide +kernel
theorem dX4_workOut_11 : decode cX4_workOut 11 = .ok (.getfield 18, 3) := by decide +kernel
theorem dX4_workOut_14 : decode cX4_workOut 14 = .ok (.iload_n 1, 1) := by decide +kernel
theorem dX4_workOut_15 : decode cX4_workOut 15 = .ok (.iconst 0, 1) := by decide +kernel
theorem dX4_workOut_16 : decode cX4_workOut 16 = .ok (.iastore, 1) := by decide +kernel
theorem dX4_workOut_17 : decode cX4_workOut 17 = .ok (.iinc 1 1, 3) := by decide +kernel
theorem dX4_workOut_20 : decode cX4_workOut 20 = .ok (.goto (-18), 3) := by decide +kernel
theorem dX4_workOut_23 : decode cX4_workOut 23 = .ok (.iconst 0, 1) := by decide +kernel
theorem dX4_workOut_24 : decode cX4_workOut 24 = .ok (.istore_n 1, 1) := by decide +kernel
theorem dX4_workOut_25 : decode cX4_workOut 25 = .ok (.iload_n 1, 1) := by decide +kernel
theorem dX4_workOut_26 : decode cX4_workOut 26 = .ok (.aload_n 0, 1) := by decide +kernel
theorem dX4_workOut_27 : decode cX4_workOut 27 = .ok (.getfield 24, 3) := by decide +kernel
theorem dX4_workOut_30 : decode cX4_workOut 30 = .ok (.if_icmp .ge 41, 3) := by decide +kernel
theorem dX4_workOut_33 : decode cX4_workOut 33 = .ok (.aload_n 0, 1) := by decide +kernel
theorem dX4_workOut_34 : decode cX4_workOut 34 = .ok (.getfield 15, 3) := by decide +kernel
theorem dX4_workOut_37 : decode cX4_workOut 37 = .ok (.iload_n 1, 1) := by decide +kernel
theorem dX4_workOut_38 : decode cX4_workOut 38 = .ok (.iaload, 1) := by decide +kernel
theorem dX4_workOut_39 : decode cX4_workOut 39 = .ok (.ifCond .eq 26, 3) := by decide +kernel
theorem dX4_workOut_42 : decode cX4_workOut 42 = .ok (.aload_n 0, 1) := by decide +kernel
theorem dX4_workOut_43 : decode cX4_workOut 43 = .ok (.getfield 18, 3) := by decide +kernel
theorem dX4_workOut_46 : decode cX4_workOut 46 = .ok (.aload_n 0, 1) := by decide +kernel
theorem dX4_workOut_47 : decode cX4_workOut 47 = .ok (.iload_n 1, 1) := by decide +kernel
theorem dX4_workOut_48 : decode cX4_workOut 48 = .ok (.invokevirtual 38, 3) := by decide +kernel
theorem dX4_workOut_51 : decode cX4_workOut 51 = .ok (.dup2, 1) := by decide +kernel
theorem dX4_workOut_52 : decode cX4_workOut 52 = .ok (.iaload, 1) := by decide +kernel
theorem dX4_workOut_53 : decode cX4_workOut 53 = .ok (.aload_n 0, 1) := by decide +kernel
theorem dX4_workOut_54 : decode cX4_workOut 54 = .ok (.aload_n 0, 1) := by decide +kernel
theorem dX4_workOut_55 : decode cX4_workOut 55 = .ok (.getfield 15, 3) := by decide +kernel
theorem dX4_workOut_58 : decode cX4_workOut 58 = .ok (.iload_n 1, 1) := by decide +kernel
theorem dX4_workOut_59 : decode cX4_workOut 59 = .ok (.iaload, 1) := by decide +kernel
theorem dX4_workOut_60 : decode cX4_workOut 60 = .ok (.invokevirtual 42, 3) := by decide +kernel
theorem dX4_workOut_63 : decode cX4_workOut 63 = .ok (.ior, 1) := by decide +kernel
theorem dX4_workOut_64 : decode cX4_workOut 64 = .ok (.iastore, 1) := by decide +kernel
theorem dX4_workOut_65 : decode cX4_workOut 65 = .ok (.iinc 1 1, 3) := by decide +kernel
theorem dX4_workOut_68 : decode cX4_workOut 68 = .ok (.goto (-43), 3) := by decide +kernel
theorem dX4_workOut_71 : decode cX4_workOut 71 = .ok (.iconst 0, 1) := by decide +kernel
theorem dX4_workOut_72 : decode cX4_workOut 72 = .ok (.istore_n 1, 1) := by decide +kernel
theorem dX4_workOut_73 : decode cX4_workOut 73 = .ok (.iload_n 1, 1) := by decide +kernel
theorem dX4_workOut_74 : decode cX4_workOut 74 = .ok (.aload_n 0, 1) := by decide +kernel
theorem dX4_workOut_75 : decode cX4_workOut 75 = .ok (.getfield 24, 3) := by decide +kernel
theorem dX4_workOut_78 : decode cX4_workOut 78 = .ok (.if_icmp .ge 25, 3) := by decide +kernel
theorem dX4_workOut_81 : decode cX4_workOut 81 = .ok (.aload_n 0, 1) := by decide +kernel
theorem dX4_workOut_82 : decode cX4_workOut 82 = .ok (.getfield 21, 3) := by decide +kernel
theorem dX4_workOut_85 : decode cX4_workOut 85 = .ok (.iload_n 1, 1) := by decide +kernel
theorem dX4_workOut_86 : decode cX4_workOut 86 = .ok (.aload_n 0, 1) := by decide +kernel
theorem dX4_workOut_87 : decode cX4_workOut 87 = .ok (.getfield 18, 3) := by decide +kernel
theorem dX4_workOut_90 : decode cX4_workOut 90 = .ok (.iload_n 1, 1) := by decide +kernel
theorem dX4_workOut_91 : decode cX4_workOut 91 = .ok (.iaload, 1) := by decide +kernel
theorem dX4_workOut_92 : decode cX4_workOut 92 = .ok (.iconst 1, 1) := by decide +kernel
theorem dX4_workOut_93 : decode cX4_workOut 93 = .ok (.iload_n 1, 1) := by decide +kernel
theorem dX4_workOut_94 : decode cX4_workOut 94 = .ok (.ishl, 1) := by decide +kernel
theorem dX4_workOut_95 : decode cX4_workOut 95 = .ok (.ior, 1) := by decide +kernel
theorem dX4_workOut_96 : decode cX4_workOut 96 = .ok (.iastore, 1) := by decide +kernel
theorem dX4_workOut_97 : decode cX4_workOut 97 = .ok (.iinc 1 1, 3) := by decide +kernel
theorem dX4_workOut_100 : decode cX4_workOut 100 = .ok (.goto (-27), 3) := by decide +kernel
theorem dX4_workOut_103 : decode cX4_workOut 103 = .ok (.iconst 0, 1) := by decide +kernel
theorem dX4_workOut_104 : decode cX4_workOut 104 = .ok (.istore_n 1, 1) := by decide +kernel
theorem dX4_workOut_105 : decode cX4_workOut 105 = .ok (.iload_n 1, 1) := by decide +kernel
theorem dX4_workOut_106 : decode cX4_workOut 106 = .ok (.aload_n 0, 1) := by decide +kernel
theorem dX4_workOut_107 : decode cX4_workOut 107 = .ok (.getfield 24, 3) := by decide +kernel
theorem dX4_workOut_110 : decode cX4_workOut 110 = .ok (.if_icmp .ge 23, 3) := by decide +kernel
theorem dX4_workOut_113 : decode cX4_workOut 113 = .ok (.aload_n 0, 1) := by decide +kernel
theorem dX4_workOut_114 : decode cX4_workOut 114 = .ok (.getfield 18, 3) := by decide +kernel
theorem dX4_workOut_117 : decode cX4_workOut 117 = .ok (.iload_n 1, 1) := by decide +kernel
theorem dX4_workOut_118 : decode cX4_workOut 118 = .ok (.iaload, 1) := by decide +kernel
theorem dX4_workOut_119 : decode cX4_workOut 119 = .ok (.ifCond .eq 8, 3) := by decide +kernel
theorem dX4_workOut_122 : decode cX4_workOut 122 = .ok (.aload_n 0, 1) := by decide +kernel
theorem dX4_workOut_123 : decode cX4_workOut 123 = .ok (.iload_n 1, 1) := by decide +kernel
theorem dX4_workOut_124 : decode cX4_workOut 124 = .ok (.invokevirtual 45, 3) := by decide +kernel
theorem dX4_workOut_127 : decode cX4_workOut 127 = .ok (.iinc 1 1, 3) := by decide +kernel
theorem dX4_workOut_130 : decode cX4_workOut 130 = .ok (.goto (-25), 3) := by decide +kernel
theorem dX4_workOut_133 : decode cX4_workOut 133 = .ok (.return_, 1) := by decide +kernel
theorem dX4_reachOver_0 : decode cX4_reachOver 0 = .ok (.iconst 0, 1) := by decide +kernel
theorem dX4_reachOver_1 : decode cX4_reachOver 1 = .ok (.istore_n 2, 1) := by decide +kernel
theorem dX4_reachOver_2 : decode cX4_reachOver 2 = .ok (.iload_n 2, 1) := by decide +kernel
theorem dX4_reachOver_3 : decode cX4_reachOver 3 = .ok (.aload_n 0, 1) := by decide +kernel
theorem dX4_reachOver_4 : decode cX4_reachOver 4 = .ok (.getfield 24, 3) := by decide +kernel
theorem dX4_reachOver_7 : decode cX4_reachOver 7 = .ok (.if_icmp .ge 37, 3) := by decide +kernel
theorem dX4_reachOver_10 : decode cX4_reachOver 10 = .ok (.aload_n 0, 1) := by decide +kernel
theorem dX4_reachOver_11 : decode cX4_reachOver 11 = .ok (.getfield 21, 3) := by decide +kernel
theorem dX4_reachOver_14 : decode cX4_reachOver 14 = .ok (.iload_n 2, 1) := by decide +kernel
theorem dX4_reachOver_15 : decode cX4_reachOver 15 = .ok (.iaload, 1) := by decide +kernel
theorem dX4_reachOver_16 : decode cX4_reachOver 16 = .ok (.iload_n 1, 1) := by decide +kernel
theorem dX4_reachOver_17 : decode cX4_reachOver 17 = .ok (.invokestatic 35, 3) := by decide +kernel
theorem dX4_reachOver_20 : decode cX4_reachOver 20 = .ok (.ifCond .eq 18, 3) := by decide +kernel
theorem dX4_reachOver_23 : decode cX4_reachOver 23 = .ok (.aload_n 0, 1) := by decide +kernel
theorem dX4_reachOver_24 : decode cX4_reachOver 24 = .ok (.getfield 21, 3) := by decide +kernel
theorem dX4_reachOver_27 : decode cX4_reachOver 27 = .ok (.iload_n 2, 1) := by decide +kernel
theorem dX4_reachOver_28 : decode cX4_reachOver 28 = .ok (.dup2, 1) := by decide +kernel
theorem dX4_reachOver_29 : decode cX4_reachOver 29 = .ok (.iaload, 1) := by decide +kernel
theorem dX4_reachOver_30 : decode cX4_reachOver 30 = .ok (.aload_n 0, 1) := by decide +kernel
theorem dX4_reachOver_31 : decode cX4_reachOver 31 = .ok (.getfield 21, 3) := by decide +kernel
theorem dX4_reachOver_34 : decode cX4_reachOver 34 = .ok (.iload_n 1, 1) := by decide +kernel
theorem dX4_reachOver_35 : decode cX4_reachOver 35 = .ok (.iaload, 1) := by decide +kernel
theorem dX4_reachOver_36 : decode cX4_reachOver 36 = .ok (.ior, 1) := by decide +kernel
theorem dX4_reachOver_37 : decode cX4_reachOver 37 = .ok (.iastore, 1) := by decide +kernel
theorem dX4_reachOver_38 : decode cX4_reachOver 38 = .ok (.iinc 2 1, 3) := by decide +kernel
theorem dX4_reachOver_41 : decode cX4_reachOver 41 = .ok (.goto (-39), 3) := by decide +kernel
theorem dX4_reachOver_44 : decode cX4_reachOver 44 = .ok (.return_, 1) := by decide +kernel
theorem dX4_endsOf_0 : decode cX4_endsOf 0 = .ok (.iconst 0, 1) := by decide +kernel
theorem dX4_endsOf_1 : decode cX4_endsOf 1 = .ok (.istore_n 2, 1) := by decide +kernel
theorem dX4_endsOf_2 : decode cX4_endsOf 2 = .ok (.iconst 0, 1) := by decide +kernel
theorem dX4_endsOf_3 : decode cX4_endsOf 3 = .ok (.istore_n 3, 1) := by decide +kernel
theorem dX4_endsOf_4 : decode cX4_endsOf 4 = .ok (.iload_n 3, 1) := by decide +kernel
theorem dX4_endsOf_5 : decode cX4_endsOf 5 = .ok (.aload_n 0, 1) := by decide +kernel
theorem dX4_endsOf_6 : decode cX4_endsOf 6 = .ok (.getfield 24, 3) := by decide +kernel
theorem dX4_endsOf_9 : decode cX4_endsOf 9 = .ok (.if_icmp .ge 27, 3) := by decide +kernel
theorem dX4_endsOf_12 : decode cX4_endsOf 12 = .ok (.iload_n 1, 1) := by decide +kernel
theorem dX4_endsOf_13 : decode cX4_endsOf 13 = .ok (.iload_n 3, 1) := by decide +kernel
theorem dX4_endsOf_14 : decode cX4_endsOf 14 = .ok (.invokestatic 35, 3) := by decide +kernel
theorem dX4_endsOf_17 : decode cX4_endsOf 17 = .ok (.ifCond .eq 13, 3) := by decide +kernel
theorem dX4_endsOf_20 : decode cX4_endsOf 20 = .ok (.iload_n 2, 1) := by decide +kernel
theorem dX4_endsOf_21 : decode cX4_endsOf 21 = .ok (.iconst 1, 1) := by decide +kernel
theorem dX4_endsOf_22 : decode cX4_endsOf 22 = .ok (.aload_n 0, 1) := by decide +kernel
theorem dX4_endsOf_23 : decode cX4_endsOf 23 = .ok (.iload_n 3, 1) := by decide +kernel
theorem dX4_endsOf_24 : decode cX4_endsOf 24 = .ok (.invokevirtual 38, 3) := by decide +kernel
theorem dX4_endsOf_27 : decode cX4_endsOf 27 = .ok (.ishl, 1) := by decide +kernel
theorem dX4_endsOf_28 : decode cX4_endsOf 28 = .ok (.ior, 1) := by decide +kernel
theorem dX4_endsOf_29 : decode cX4_endsOf 29 = .ok (.istore_n 2, 1) := by decide +kernel
theorem dX4_endsOf_30 : decode cX4_endsOf 30 = .ok (.iinc 3 1, 3) := by decide +kernel
theorem dX4_endsOf_33 : decode cX4_endsOf 33 = .ok (.goto (-29), 3) := by decide +kernel
theorem dX4_endsOf_36 : decode cX4_endsOf 36 = .ok (.iload_n 2, 1) := by decide +kernel
theorem dX4_endsOf_37 : decode cX4_endsOf 37 = .ok (.ireturn, 1) := by decide +kernel
theorem dX4_reachedFrom_0 : decode cX4_reachedFrom 0 = .ok (.iconst 0, 1) := by decide +kernel
theorem dX4_reachedFrom_1 : decode cX4_reachedFrom 1 = .ok (.istore_n 2, 1) := by decide +kernel
theorem dX4_reachedFrom_2 : decode cX4_reachedFrom 2 = .ok (.iconst 0, 1) := by decide +kernel
theorem dX4_reachedFrom_3 : decode cX4_reachedFrom 3 = .ok (.istore_n 3, 1) := by decide +kernel
theorem dX4_reachedFrom_4 : decode cX4_reachedFrom 4 = .ok (.iload_n 3, 1) := by decide +kernel
theorem dX4_reachedFrom_5 : decode cX4_reachedFrom 5 = .ok (.aload_n 0, 1) := by decide +kernel
theorem dX4_reachedFrom_6 : decode cX4_reachedFrom 6 = .ok (.getfield 24, 3) := by decide +kernel
theorem dX4_reachedFrom_9 : decode cX4_reachedFrom 9 = .ok (.if_icmp .ge 30, 3) := by decide +kernel
theorem dX4_reachedFrom_12 : decode cX4_reachedFrom 12 = .ok (.iload_n 1, 1) := by decide +kernel
theorem dX4_reachedFrom_13 : decode cX4_reachedFrom 13 = .ok (.iload_n 3, 1) := by decide +kernel
theorem dX4_reachedFrom_14 : decode cX4_reachedFrom 14 = .ok (.invokestatic 35, 3) := by decide +kernel
theorem dX4_reachedFrom_17 : decode cX4_reachedFrom 17 = .ok (.ifCond .eq 16, 3) := by decide +kernel
theorem dX4_reachedFrom_20 : decode cX4_reachedFrom 20 = .ok (.iload_n 2, 1) := by decide +kernel
theorem dX4_reachedFrom_21 : decode cX4_reachedFrom 21 = .ok (.aload_n 0, 1) := by decide +kernel
theorem dX4_reachedFrom_22 : decode cX4_reachedFrom 22 = .ok (.getfield 21, 3) := by decide +kernel
theorem dX4_reachedFrom_25 : decode cX4_reachedFrom 25 = .ok (.aload_n 0, 1) := by decide +kernel
theorem dX4_reachedFrom_26 : decode cX4_reachedFrom 26 = .ok (.iload_n 3, 1) := by decide +kernel
theorem dX4_reachedFrom_27 : decode cX4_reachedFrom 27 = .ok (.invokevirtual 38, 3) := by decide +kernel
theorem dX4_reachedFrom_30 : decode cX4_reachedFrom 30 = .ok (.iaload, 1) := by decide +kernel
theorem dX4_reachedFrom_31 : decode cX4_reachedFrom 31 = .ok (.ior, 1) := by decide +kernel
theorem dX4_reachedFrom_32 : decode cX4_reachedFrom 32 = .ok (.istore_n 2, 1) := by decide +kernel
theorem dX4_reachedFrom_33 : decode cX4_reachedFrom 33 = .ok (.iinc 3 1, 3) := by decide +kernel
theorem dX4_reachedFrom_36 : decode cX4_reachedFrom 36 = .ok (.goto (-32), 3) := by decide +kernel
theorem dX4_reachedFrom_39 : decode cX4_reachedFrom 39 = .ok (.iload_n 2, 1) := by decide +kernel
theorem dX4_reachedFrom_40 : decode cX4_reachedFrom 40 = .ok (.ireturn, 1) := by decide +kernel
theorem dX4_spread_0 : decode cX4_spread 0 = .ok (.aload_n 0, 1) := by decide +kernel
theorem dX4_spread_1 : decode cX4_spread 1 = .ok (.iload_n 1, 1) := by decide +kernel
theorem dX4_spread_2 : decode cX4_spread 2 = .ok (.invokevirtual 42, 3) := by decide +kernel
theorem dX4_spread_5 : decode cX4_spread 5 = .ok (.istore_n 2, 1) := by decide +kernel
theorem dX4_spread_6 : decode cX4_spread 6 = .ok (.iconst 0, 1) := by decide +kernel
theorem dX4_spread_7 : decode cX4_spread 7 = .ok (.istore_n 3, 1) := by decide +kernel
theorem dX4_spread_8 : decode cX4_spread 8 = .ok (.iload_n 3, 1) := by decide +kernel
theorem dX4_spread_9 : decode cX4_spread 9 = .ok (.aload_n 0, 1) := by decide +kernel
theorem dX4_spread_10 : decode cX4_spread 10 = .ok (.getfield 24, 3) := by decide +kernel
theorem dX4_spread_13 : decode cX4_spread 13 = .ok (.if_icmp .ge 63, 3) := by decide +kernel
theorem dX4_spread_16 : decode cX4_spread 16 = .ok (.iload_n 2, 1) := by decide +kernel
theorem dX4_spread_17 : decode cX4_spread 17 = .ok (.istore 4, 2) := by decide +kernel
theorem dX4_spread_19 : decode cX4_spread 19 = .ok (.iconst 0, 1) := by decide +kernel
theorem dX4_spread_20 : decode cX4_spread 20 = .ok (.istore 5, 2) := by decide +kernel
theorem dX4_spread_22 : decode cX4_spread 22 = .ok (.iload 5, 2) := by decide +kernel
theorem dX4_spread_24 : decode cX4_spread 24 = .ok (.aload_n 0, 1) := by decide +kernel
theorem dX4_spread_25 : decode cX4_spread 25 = .ok (.getfield 24, 3) := by decide +kernel
theorem dX4_spread_28 : decode cX4_spread 28 = .ok (.if_icmp .ge 30, 3) := by decide +kernel
theorem dX4_spread_31 : decode cX4_spread 31 = .ok (.iload_n 2, 1) := by decide +kernel
theorem dX4_spread_32 : decode cX4_spread 32 = .ok (.iload 5, 2) := by decide +kernel
theorem dX4_spread_34 : decode cX4_spread 34 = .ok (.invokestatic 35, 3) := by decide +kernel
theorem dX4_spread_37 : decode cX4_spread 37 = .ok (.ifCond .eq 15, 3) := by decide +kernel
theorem dX4_spread_40 : decode cX4_spread 40 = .ok (.iload 4, 2) := by decide +kernel
theorem dX4_spread_42 : decode cX4_spread 42 = .ok (.aload_n 0, 1) := by decide +kernel
theorem dX4_spread_43 : decode cX4_spread 43 = .ok (.getfield 18, 3) := by decide +kernel
theorem dX4_spread_46 : decode cX4_spread 46 = .ok (.iload 5, 2) := by decide +kernel
theorem dX4_spread_48 : decode cX4_spread 48 = .ok (.iaload, 1) := by decide +kernel
theorem dX4_spread_49 : decode cX4_spread 49 = .ok (.ior, 1) := by decide +kernel
theorem dX4_spread_50 : decode cX4_spread 50 = .ok (.istore 4, 2) := by decide +kernel
theorem dX4_spread_52 : decode cX4_spread 52 = .ok (.iinc 5 1, 3) := by decide +kernel
theorem dX4_spread_55 : decode cX4_spread 55 = .ok (.goto (-33), 3) := by decide +kernel
theorem dX4_spread_58 : decode cX4_spread 58 = .ok (.iload 4, 2) := by decide +kernel
theorem dX4_spread_60 : decode cX4_spread 60 = .ok (.iload_n 2, 1) := by decide +kernel
theorem dX4_spread_61 : decode cX4_spread 61 = .ok (.if_icmp .ne 6, 3) := by decide +kernel
theorem dX4_spread_64 : decode cX4_spread 64 = .ok (.goto 12, 3) := by decide +kernel
theorem dX4_spread_67 : decode cX4_spread 67 = .ok (.iload 4, 2) := by decide +kernel
theorem dX4_spread_69 : decode cX4_spread 69 = .ok (.istore_n 2, 1) := by decide +kernel
theorem dX4_spread_70 : decode cX4_spread 70 = .ok (.iinc 3 1, 3) := by decide +kernel
theorem dX4_spread_73 : decode cX4_spread 73 = .ok (.goto (-65), 3) := by decide +kernel
theorem dX4_spread_76 : decode cX4_spread 76 = .ok (.iload_n 2, 1) := by decide +kernel
theorem dX4_spread_77 : decode cX4_spread 77 = .ok (.ireturn, 1) := by decide +kernel
theorem dX4_nearest_0 : decode cX4_nearest 0 = .ok (.iconst 1, 1) := by decide +kernel
theorem dX4_nearest_1 : decode cX4_nearest 1 = .ok (.iload_n 2, 1) := by decide +kernel
theorem dX4_nearest_2 : decode cX4_nearest 2 = .ok (.ishl, 1) := by decide +kernel
theorem dX4_nearest_3 : decode cX4_nearest 3 = .ok (.istore_n 3, 1) := by decide +kernel
theorem dX4_nearest_4 : decode cX4_nearest 4 = .ok (.iconst 0, 1) := by decide +kernel
theorem dX4_nearest_5 : decode cX4_nearest 5 = .ok (.istore 4, 2) := by decide +kernel
theorem dX4_nearest_7 : decode cX4_nearest 7 = .ok (.iload 4, 2) := by decide +kernel
theorem dX4_nearest_9 : decode cX4_nearest 9 = .ok (.aload_n 0, 1) := by decide +kernel
theorem dX4_nearest_10 : decode cX4_nearest 10 = .ok (.getfield 24, 3) := by decide +kernel
theorem dX4_nearest_13 : decode cX4_nearest 13 = .ok (.if_icmp .ge 66, 3) := by decide +kernel
theorem dX4_nearest_16 : decode cX4_nearest 16 = .ok (.iconst 0, 1) := by decide +kernel
theorem dX4_nearest_17 : decode cX4_nearest 17 = .ok (.istore 5, 2) := by decide +kernel
theorem dX4_nearest_19 : decode cX4_nearest 19 = .ok (.iload 5, 2) := by decide +kernel
theorem dX4_nearest_21 : decode cX4_nearest 21 = .ok (.aload_n 0, 1) := by decide +kernel
theorem dX4_nearest_22 : decode cX4_nearest 22 = .ok (.getfield 24, 3) := by decide +kernel
theorem dX4_nearest_25 : decode cX4_nearest 25 = .ok (.if_icmp .ge 40, 3) := by decide +kernel
theorem dX4_nearest_28 : decode cX4_nearest 28 = .ok (.iload_n 1, 1) := by decide +kernel
theorem dX4_nearest_29 : decode cX4_nearest 29 = .ok (.iload 5, 2) := by decide +kernel
theorem dX4_nearest_31 : decode cX4_nearest 31 = .ok (.invokestatic 35, 3) := by decide +kernel
theorem dX4_nearest_34 : decode cX4_nearest 34 = .ok (.ifCond .eq 25, 3) := by decide +kernel
theorem dX4_nearest_37 : decode cX4_nearest 37 = .ok (.iload_n 3, 1) := by decide +kernel
theorem dX4_nearest_38 : decode cX4_nearest 38 = .ok (.aload_n 0, 1) := by decide +kernel
theorem dX4_nearest_39 : decode cX4_nearest 39 = .ok (.iload 5, 2) := by decide +kernel
theorem dX4_nearest_41 : decode cX4_nearest 41 = .ok (.invokevirtual 38, 3) := by decide +kernel
theorem dX4_nearest_44 : decode cX4_nearest 44 = .ok (.invokestatic 35, 3) := by decide +kernel
theorem dX4_nearest_47 : decode cX4_nearest 47 = .ok (.ifCond .eq 12, 3) := by decide +kernel
theorem dX4_nearest_50 : decode cX4_nearest 50 = .ok (.bipush 100, 2) := by decide +kernel
theorem dX4_nearest_52 : decode cX4_nearest 52 = .ok (.iload 4, 2) := by decide +kernel
theorem dX4_nearest_54 : decode cX4_nearest 54 = .ok (.imul, 1) := by decide +kernel
theorem dX4_nearest_55 : decode cX4_nearest 55 = .ok (.iload 5, 2) := by decide +kernel
theorem dX4_nearest_57 : decode cX4_nearest 57 = .ok (.iadd, 1) := by decide +kernel
theorem dX4_nearest_58 : decode cX4_nearest 58 = .ok (.ireturn, 1) := by decide +kernel
theorem dX4_nearest_59 : decode cX4_nearest 59 = .ok (.iinc 5 1, 3) := by decide +kernel
theorem dX4_nearest_62 : decode cX4_nearest 62 = .ok (.goto (-43), 3) := by decide +kernel
theorem dX4_nearest_65 : decode cX4_nearest 65 = .ok (.iload_n 3, 1) := by decide +kernel
theorem dX4_nearest_66 : decode cX4_nearest 66 = .ok (.aload_n 0, 1) := by decide +kernel
theorem dX4_nearest_67 : decode cX4_nearest 67 = .ok (.iload_n 3, 1) := by decide +kernel
theorem dX4_nearest_68 : decode cX4_nearest 68 = .ok (.invokevirtual 49, 3) := by decide +kernel
theorem dX4_nearest_71 : decode cX4_nearest 71 = .ok (.ior, 1) := by decide +kernel
theorem dX4_nearest_72 : decode cX4_nearest 72 = .ok (.istore_n 3, 1) := by decide +kernel
theorem dX4_nearest_73 : decode cX4_nearest 73 = .ok (.iinc 4 1, 3) := by decide +kernel
theorem dX4_nearest_76 : decode cX4_nearest 76 = .ok (.goto (-69), 3) := by decide +kernel
theorem dX4_nearest_79 : decode cX4_nearest 79 = .ok (.iconst (-1), 1) := by decide +kernel
theorem dX4_nearest_80 : decode cX4_nearest 80 = .ok (.ireturn, 1) := by decide +kernel
theorem dX4_leadingTo_0 : decode cX4_leadingTo 0 = .ok (.iconst 0, 1) := by decide +kernel
theorem dX4_leadingTo_1 : decode cX4_leadingTo 1 = .ok (.istore_n 2, 1) := by decide +kernel
theorem dX4_leadingTo_2 : decode cX4_leadingTo 2 = .ok (.iconst 0, 1) := by decide +kernel
theorem dX4_leadingTo_3 : decode cX4_leadingTo 3 = .ok (.istore_n 3, 1) := by decide +kernel
theorem dX4_leadingTo_4 : decode cX4_leadingTo 4 = .ok (.iload_n 3, 1) := by decide +kernel
theorem dX4_leadingTo_5 : decode cX4_leadingTo 5 = .ok (.aload_n 0, 1) := by decide +kernel
theorem dX4_leadingTo_6 : decode cX4_leadingTo 6 = .ok (.getfield 24, 3) := by decide +kernel
theorem dX4_leadingTo_9 : decode cX4_leadingTo 9 = .ok (.if_icmp .ge 26, 3) := by decide +kernel
theorem dX4_leadingTo_12 : decode cX4_leadingTo 12 = .ok (.aload_n 0, 1) := by decide +kernel
theorem dX4_leadingTo_13 : decode cX4_leadingTo 13 = .ok (.getfield 18, 3) := by decide +kernel
theorem dX4_leadingTo_16 : decode cX4_leadingTo 16 = .ok (.iload_n 3, 1) := by decide +kernel
theorem dX4_leadingTo_17 : decode cX4_leadingTo 17 = .ok (.iaload, 1) := by decide +kernel
theorem dX4_leadingTo_18 : decode cX4_leadingTo 18 = .ok (.iload_n 1, 1) := by decide +kernel
theorem dX4_leadingTo_19 : decode cX4_leadingTo 19 = .ok (.iand, 1) := by decide +kernel
theorem dX4_leadingTo_20 : decode cX4_leadingTo 20 = .ok (.ifCond .eq 9, 3) := by decide +kernel
theorem dX4_leadingTo_23 : decode cX4_leadingTo 23 = .ok (.iload_n 2, 1) := by decide +kernel
theorem dX4_leadingTo_24 : decode cX4_leadingTo 24 = .ok (.iconst 1, 1) := by decide +kernel
theorem dX4_leadingTo_25 : decode cX4_leadingTo 25 = .ok (.iload_n 3, 1) := by decide +kernel
theorem dX4_leadingTo_26 : decode cX4_leadingTo 26 = .ok (.ishl, 1) := by decide +kernel
theorem dX4_leadingTo_27 : decode cX4_leadingTo 27 = .ok (.ior, 1) := by decide +kernel
theorem dX4_leadingTo_28 : decode cX4_leadingTo 28 = .ok (.istore_n 2, 1) := by decide +kernel
theorem dX4_leadingTo_29 : decode cX4_leadingTo 29 = .ok (.iinc 3 1, 3) := by decide +kernel
theorem dX4_leadingTo_32 : decode cX4_leadingTo 32 = .ok (.goto (-28), 3) := by decide +kernel
theorem dX4_leadingTo_35 : decode cX4_leadingTo 35 = .ok (.iload_n 2, 1) := by decide +kernel
theorem dX4_leadingTo_36 : decode cX4_leadingTo 36 = .ok (.ireturn, 1) := by decide +kernel
theorem dX5_init_0 : decode cX5_init 0 = .ok (.aload_n 0, 1) := by decide +kernel
theorem dX5_init_1 : decode cX5_init 1 = .ok (.invokespecial 1, 3) := by decide +kernel
theorem dX5_init_4 : decode cX5_init 4 = .ok (.aload_n 0, 1) := by decide +kernel
theorem dX5_init_5 : decode cX5_init 5 = .ok (.new 7, 3) := by decide +kernel
theorem dX5_init_8 : decode cX5_init 8 = .ok (.dup, 1) := by decide +kernel
theorem dX5_init_9 : decode cX5_init 9 = .ok (.invokespecial 9, 3) := by decide +kernel
theorem dX5_init_12 : decode cX5_init 12 = .ok (.putfield 10, 3) := by decide +kernel
theorem dX5_init_15 : decode cX5_init 15 = .ok (.aload_n 0, 1) := by decide +kernel
theorem dX5_init_16 : decode cX5_init 16 = .ok (.new 16, 3) := by decide +kernel
theorem dX5_init_19 : decode cX5_init 19 = .ok (.dup, 1) := by decide +kernel
theorem dX5_init_20 : decode cX5_init 20 = .ok (.invokespecial 18, 3) := by decide +kernel
theorem dX5_init_23 : decode cX5_init 23 = .ok (.putfield 19, 3) := by decide +kernel
theorem dX5_init_26 : decode cX5_init 26 = .ok (.aload_n 0, 1) := by decide +kernel
theorem dX5_init_27 : decode cX5_init 27 = .ok (.new 16, 3) := by decide +kernel
theorem dX5_init_30 : decode cX5_init 30 = .ok (.dup, 1) := by decide +kernel
theorem dX5_init_31 : decode cX5_init 31 = .ok (.invokespecial 18, 3) := by decide +kernel
theorem dX5_init_34 : decode cX5_init 34 = .ok (.putfield 23, 3) := by decide +kernel
theorem dX5_init_37 : decode cX5_init 37 = .ok (.aload_n 0, 1) := by decide +kernel
theorem dX5_init_38 : decode cX5_init 38 = .ok (.new 26, 3) := by decide +kernel
theorem dX5_init_41 : decode cX5_init 41 = .ok (.dup, 1) := by decide +kernel
theorem dX5_init_42 : decode cX5_init 42 = .ok (.invokespecial 28, 3) := by decide +kernel
theorem dX5_init_45 : decode cX5_init 45 = .ok (.putfield 29, 3) := by decide +kernel
theorem dX5_init_48 : decode cX5_init 48 = .ok (.aload_n 0, 1) := by decide +kernel
theorem dX5_init_49 : decode cX5_init 49 = .ok (.new 33, 3) := by decide +kernel
theorem dX5_init_52 : decode cX5_init 52 = .ok (.dup, 1) := by decide +kernel
theorem dX5_init_53 : decode cX5_init 53 = .ok (.invokespecial 35, 3) := by decide +kernel
theorem dX5_init_56 : decode cX5_init 56 = .ok (.putfield 36, 3) := by decide +kernel
theorem dX5_init_59 : decode cX5_init 59 = .ok (.aload_n 0, 1) := by decide +kernel
theorem dX5_init_60 : decode cX5_init 60 = .ok (.new 40, 3) := by decide +kernel
theorem dX5_init_63 : decode cX5_init 63 = .ok (.dup, 1) := by decide +kernel
theorem dX5_init_64 : decode cX5_init 64 = .ok (.invokespecial 42, 3) := by decide +kernel
theorem dX5_init_67 : decode cX5_init 67 = .ok (.putfield 43, 3) := by decide +kernel
theorem dX5_init_70 : decode cX5_init 70 = .ok (.return_, 1) := by decide +kernel
theorem dX5_type_0 : decode cX5_type 0 = .ok (.iload_n 1, 1) := by decide +kernel
theorem dX5_type_1 : decode cX5_type 1 = .ok (.invokestatic 47, 3) := by decide +kernel
theorem dX5_type_4 : decode cX5_type 4 = .ok (.ifCond .ne 13, 3) := by decide +kernel
theorem dX5_type_7 : decode cX5_type 7 = .ok (.new 51, 3) := by decide +kernel
theorem dX5_type_10 : decode cX5_type 10 = .ok (.dup, 1) := by decide +kernel
theorem dX5_type_11 : decode cX5_type 11 = .ok (.ldc 53, 2) := by decide +kernel
theorem dX5_type_13 : decode cX5_type 13 = .ok (.invokespecial 55, 3) := by decide +kernel
theorem dX5_type_16 : decode cX5_type 16 = .ok (.athrow, 1) := by decide +kernel
theorem dX5_type_17 : decode cX5_type 17 = .ok (.aload_n 0, 1) := by decide +kernel
theorem dX5_type_18 : decode cX5_type 18 = .ok (.getfield 10, 3) := by decide +kernel
theorem dX5_type_21 : decode cX5_type 21 = .ok (.getfield 58, 3) := by decide +kernel
theorem dX5_type_24 : decode cX5_type 24 = .ok (.bipush 8, 2) := by decide +kernel
theorem dX5_type_26 : decode cX5_type 26 = .ok (.if_icmp .lt 13, 3) := by decide +kernel
theorem dX5_type_29 : decode cX5_type 29 = .ok (.new 62, 3) := by decide +kernel
theorem dX5_type_32 : decode cX5_type 32 = .ok (.dup, 1) := by decide +kernel
theorem dX5_type_33 : decode cX5_type 33 = .ok (.ldc 64, 2) := by decide +kernel
theorem dX5_type_35 : decode cX5_type 35 = .ok (.invokespecial 66, 3) := by decide +kernel
theorem dX5_type_38 : decode cX5_type 38 = .ok (.athrow, 1) := by decide +kernel
theorem dX5_type_39 : decode cX5_type 39 = .ok (.aload_n 0, 1) := by decide +kernel
theorem dX5_type_40 : decode cX5_type 40 = .ok (.getfield 10, 3) := by decide +kernel
theorem dX5_type_43 : decode cX5_type 43 = .ok (.iload_n 1, 1) := by decide +kernel
theorem dX5_type_44 : decode cX5_type 44 = .ok (.invokevirtual 67, 3) := by decide +kernel
theorem dX5_type_47 : decode cX5_type 47 = .ok (.aload_n 0, 1) := by decide +kernel
theorem dX5_type_48 : decode cX5_type 48 = .ok (.getfield 10, 3) := by decide +kernel
theorem dX5_type_51 : decode cX5_type 51 = .ok (.getfield 58, 3) := by decide +kernel
theorem dX5_type_54 : decode cX5_type 54 = .ok (.ireturn, 1) := by decide +kernel
theorem dX5_enter_0 : decode cX5_enter 0 = .ok (.aload_n 0, 1) := by decide +kernel
theorem dX5_enter_1 : decode cX5_enter 1 = .ok (.getfield 10, 3) := by decide +kernel
theorem dX5_enter_4 : decode cX5_enter 4 = .ok (.getfield 58, 3) := by decide +kernel
theorem dX5_enter_7 : decode cX5_enter 7 = .ok (.ifCond .ne 13, 3) := by decide +kernel
theorem dX5_enter_10 : decode cX5_enter 10 = .ok (.new 62, 3) := by decide +kernel
theorem dX5_enter_13 : decode cX5_enter 13 = .ok (.dup, 1) := by decide +kernel
theorem dX5_enter_14 : decode cX5_enter 14 = .ok (.ldc 71, 2) := by decide +kernel
theorem dX5_enter_16 : decode cX5_enter 16 = .ok (.invokespecial 66, 3) := by decide +kernel
theorem dX5_enter_19 : decode cX5_enter 19 = .ok (.athrow, 1) := by decide +kernel
theorem dX5_enter_20 : decode cX5_enter 20 = .ok (.aload_n 0, 1) := by decide +kernel
theorem dX5_enter_21 : decode cX5_enter 21 = .ok (.getfield 10, 3) := by decide +kernel
theorem dX5_enter_24 : decode cX5_enter 24 = .ok (.invokevirtual 73, 3) := by decide +kernel
theorem dX5_enter_27 : decode cX5_enter 27 = .ok (.istore_n 1, 1) := by decide +kernel
theorem dX5_enter_28 : decode cX5_enter 28 = .ok (.iload_n 1, 1) := by decide +kernel
theorem dX5_enter_29 : decode cX5_enter 29 = .ok (.iconst (-1), 1) := by decide +kernel
theorem dX5_enter_30 : decode cX5_enter 30 = .ok (.if_icmp .ne 25, 3) := by decide +kernel
theorem dX5_enter_33 : decode cX5_enter 33 = .ok (.aload_n 0, 1) := by decide +kernel
theorem dX5_enter_34 : decode cX5_enter 34 = .ok (.getfield 10, 3) := by decide +kernel
theorem dX5_enter_37 : decode cX5_enter 37 = .ok (.getfield 77, 3) := by decide +kernel
theorem dX5_enter_40 : decode cX5_enter 40 = .ok (.bipush 24, 2) := by decide +kernel
theorem dX5_enter_42 : decode cX5_enter 42 = .ok (.if_icmp .lt 13, 3) := by decide +kernel
theorem dX5_enter_45 : decode cX5_enter 45 = .ok (.new 62, 3) := by decide +kernel
theorem dX5_enter_48 : decode cX5_enter 48 = .ok (.dup, 1) := by decide +kernel
theorem dX5_enter_49 : decode cX5_enter 49 = .ok (.ldc 80, 2) := by decide +kernel
theorem dX5_enter_51 : decode cX5_enter 51 = .ok (.invokespecial 66, 3) := by decide +kernel
theorem dX5_enter_54 : decode cX5_enter 54 = .ok (.athrow, 1) := by decide +kernel
theorem dX5_enter_55 : decode cX5_enter 55 = .ok (.iload_n 1, 1) := by decide +kernel
theorem dX5_enter_56 : decode cX5_enter 56 = .ok (.istore_n 2, 1) := by decide +kernel
theorem dX5_enter_57 : decode cX5_enter 57 = .ok (.iload_n 1, 1) := by decide +kernel
theorem dX5_enter_58 : decode cX5_enter 58 = .ok (.iconst (-1), 1) := by decide +kernel
theorem dX5_enter_59 : decode cX5_enter 59 = .ok (.if_icmp .ne 25, 3) := by decide +kernel
theorem dX5_enter_62 : decode cX5_enter 62 = .ok (.aload_n 0, 1) := by decide +kernel
theorem dX5_enter_63 : decode cX5_enter 63 = .ok (.getfield 10, 3) := by decide +kernel
theorem dX5_enter_66 : decode cX5_enter 66 = .ok (.invokevirtual 82, 3) := by decide +kernel
theorem dX5_enter_69 : decode cX5_enter 69 = .ok (.istore_n 2, 1) := by decide +kernel
theorem dX5_enter_70 : decode cX5_enter 70 = .ok (.aload_n 0, 1) := by decide +kernel
theorem dX5_enter_71 : decode cX5_enter 71 = .ok (.getfield 19, 3) := by decide +kernel
theorem dX5_enter_74 : decode cX5_enter 74 = .ok (.aload_n 0, 1) := by decide +kernel
theorem dX5_enter_75 : decode cX5_enter 75 = .ok (.getfield 10, 3) := by decide +kernel
theorem dX5_enter_78 : decode cX5_enter 78 = .ok (.getfield 77, 3) := by decide +kernel
theorem dX5_enter_81 : decode cX5_enter 81 = .ok (.invokevirtual 85, 3) := by decide +kernel
theorem dX5_enter_84 : decode cX5_enter 84 = .ok (.aload_n 0, 1) := by decide +kernel
theorem dX5_enter_85 : decode cX5_enter 85 = .ok (.getfield 10, 3) := by decide +kernel
theorem dX5_enter_88 : decode cX5_enter 88 = .ok (.invokevirtual 89, 3) := by decide +kernel
theorem dX5_enter_91 : decode cX5_enter 91 = .ok (.iload_n 2, 1) := by decide +kernel
theorem dX5_enter_92 : decode cX5_enter 92 = .ok (.ireturn, 1) := by decide +kernel
theorem dX5_tags_0 : decode cX5_tags 0 = .ok (.aload_n 0, 1) := by decide +kernel
theorem dX5_tags_1 : decode cX5_tags 1 = .ok (.getfield 10, 3) := by decide +kernel
theorem dX5_tags_4 : decode cX5_tags 4 = .ok (.getfield 77, 3) := by decide +kernel
theorem dX5_tags_7 : decode cX5_tags 7 = .ok (.ireturn, 1) := by decide +kernel
theorem dX5_letter_0 : decode cX5_letter 0 = .ok (.aload_n 0, 1) := by decide +kernel
theorem dX5_letter_1 : decode cX5_letter 1 = .ok (.iload_n 1, 1) := by decide +kernel
theorem dX5_letter_2 : decode cX5_letter 2 = .ok (.invokevirtual 92, 3) := by decide +kernel
theorem dX5_letter_5 : decode cX5_letter 5 = .ok (.iload_n 2, 1) := by decide +kernel
theorem dX5_letter_6 : decode cX5_letter 6 = .ok (.ifCond .lt 16, 3) := by decide +kernel
theorem dX5_letter_9 : decode cX5_letter 9 = .ok (.iload_n 2, 1) := by decide +kernel
theorem dX5_letter_10 : decode cX5_letter 10 = .ok (.aload_n 0, 1) := by decide +kernel
theorem dX5_letter_11 : decode cX5_letter 11 = .ok (.getfield 10, 3) := by decide +kernel
theorem dX5_letter_14 : decode cX5_letter 14 = .ok (.getfield 95, 3) := by decide +kernel
theorem dX5_letter_17 : decode cX5_letter 17 = .ok (.iload_n 1, 1) := by decide +kernel
theorem dX5_letter_18 : decode cX5_letter 18 = .ok (.iaload, 1) := by decide +kernel
theorem dX5_letter_19 : decode cX5_letter 19 = .ok (.if_icmp .lt 13, 3) := by decide +kernel
theorem dX5_letter_22 : decode cX5_letter 22 = .ok (.new 99, 3) := by decide +kernel
theorem dX5_letter_25 : decode cX5_letter 25 = .ok (.dup, 1) := by decide +kernel
theorem dX5_letter_26 : decode cX5_letter 26 = .ok (.ldc 101, 2) := by decide +kernel
theorem dX5_letter_28 : decode cX5_letter 28 = .ok (.invokespecial 103, 3) := by decide +kernel
theorem dX5_letter_31 : decode cX5_letter 31 = .ok (.athrow, 1) := by decide +kernel
theorem dX5_letter_32 : decode cX5_letter 32 = .ok (.aload_n 0, 1) := by decide +kernel
theorem dX5_letter_33 : decode cX5_letter 33 = .ok (.getfield 10, 3) := by decide +kernel
theorem dX5_letter_36 : decode cX5_letter 36 = .ok (.iload_n 1, 1) := by decide +kernel
theorem dX5_letter_37 : decode cX5_letter 37 = .ok (.iload_n 2, 1) := by decide +kernel
theorem dX5_letter_38 : decode cX5_letter 38 = .ok (.invokevirtual 104, 3) := by decide +kernel
theorem dX5_letter_41 : decode cX5_letter 41 = .ok (.ireturn, 1) := by decide +kernel
theorem dX5_addThing_0 : decode cX5_addThing 0 = .ok (.aload_n 0, 1) := by decide +kernel
theorem dX5_addThing_1 : decode cX5_addThing 1 = .ok (.getfield 36, 3) := by decide +kernel
theorem dX5_addThing_4 : decode cX5_addThing 4 = .ok (.getfield 108, 3) := by decide +kernel
theorem dX5_addThing_7 : decode cX5_addThing 7 = .ok (.bipush 20, 2) := by decide +kernel
theorem dX5_addThing_9 : decode cX5_addThing 9 = .ok (.if_icmp .lt 13, 3) := by decide +kernel
theorem dX5_addThing_12 : decode cX5_addThing 12 = .ok (.new 62, 3) := by decide +kernel
theorem dX5_addThing_15 : decode cX5_addThing 15 = .ok (.dup, 1) := by decide +kernel
theorem dX5_addThing_16 : decode cX5_addThing 16 = .ok (.ldc 109, 2) := by decide +kernel
theorem dX5_addThing_18 : decode cX5_addThing 18 = .ok (.invokespecial 66, 3) := by decide +kernel
theorem dX5_addThing_21 : decode cX5_addThing 21 = .ok (.athrow, 1) := by decide +kernel
theorem dX5_addThing_22 : decode cX5_addThing 22 = .ok (.aload_n 0, 1) := by decide +kernel
theorem dX5_addThing_23 : decode cX5_addThing 23 = .ok (.getfield 36, 3) := by decide +kernel
theorem dX5_addThing_26 : decode cX5_addThing 26 = .ok (.dup, 1) := by decide +kernel
theorem dX5_addThing_27 : decode cX5_addThing 27 = .ok (.getfield 108, 3) := by decide +kernel
theorem dX5_addThing_30 : decode cX5_addThing 30 = .ok (.iconst 1, 1) := by decide +kernel
theorem dX5_addThing_31 : decode cX5_addThing 31 = .ok (.iadd, 1) := by decide +kernel
theorem dX5_addThing_32 : decode cX5_addThing 32 = .ok (.putfield 108, 3) := by decide +kernel
theorem dX5_addThing_35 : decode cX5_addThing 35 = .ok (.aload_n 0, 1) := by decide +kernel
theorem dX5_addThing_36 : decode cX5_addThing 36 = .ok (.getfield 36, 3) := by decide +kernel
theorem dX5_addThing_39 : decode cX5_addThing 39 = .ok (.getfield 108, 3) := by decide +kernel
theorem dX5_addThing_42 : decode cX5_addThing 42 = .ok (.iconst 1, 1) := by decide +kernel
theorem dX5_addThing_43 : decode cX5_addThing 43 = .ok (.isub, 1) := by decide +kernel
theorem dX5_addThing_44 : decode cX5_addThing 44 = .ok (.ireturn, 1) := by decide +kernel
theorem dX5_things_0 : decode cX5_things 0 = .ok (.aload_n 0, 1) := by decide +kernel
theorem dX5_things_1 : decode cX5_things 1 = .ok (.getfield 36, 3) := by decide +kernel
theorem dX5_things_4 : decode cX5_things 4 = .ok (.getfield 108, 3) := by decide +kernel
theorem dX5_things_7 : decode cX5_things 7 = .ok (.ireturn, 1) := by decide +kernel
theorem dX5_tag_0 : decode cX5_tag 0 = .ok (.aload_n 0, 1) := by decide +kernel
theorem dX5_tag_1 : decode cX5_tag 1 = .ok (.iload_n 1, 1) := by decide +kernel
theorem dX5_tag_2 : decode cX5_tag 2 = .ok (.invokevirtual 111, 3) := by decide +kernel
theorem dX5_tag_5 : decode cX5_tag 5 = .ok (.aload_n 0, 1) := by decide +kernel
theorem dX5_tag_6 : decode cX5_tag 6 = .ok (.iload_n 2, 1) := by decide +kernel
theorem dX5_tag_7 : decode cX5_tag 7 = .ok (.invokevirtual 92, 3) := by decide +kernel
theorem dX5_tag_10 : decode cX5_tag 10 = .ok (.aload_n 0, 1) := by decide +kernel
theorem dX5_tag_11 : decode cX5_tag 11 = .ok (.getfield 36, 3) := by decide +kernel
theorem dX5_tag_14 : decode cX5_tag 14 = .ok (.invokevirtual 114, 3) := by decide +kernel
theorem dX5_tag_17 : decode cX5_tag 17 = .ok (.aload_n 0, 1) := by decide +kernel
theorem dX5_tag_18 : decode cX5_tag 18 = .ok (.getfield 36, 3) := by decide +kernel
theorem dX5_tag_21 : decode cX5_tag 21 = .ok (.getfield 117, 3) := by decide +kernel
theorem dX5_tag_24 : decode cX5_tag 24 = .ok (.iload_n 1, 1) := by decide +kernel
theorem dX5_tag_25 : decode cX5_tag 25 = .ok (.dup2, 1) := by decide +kernel
theorem dX5_tag_26 : decode cX5_tag 26 = .ok (.iaload, 1) := by decide +kernel
theorem dX5_tag_27 : decode cX5_tag 27 = .ok (.iconst 1, 1) := by decide +kernel
theorem dX5_tag_28 : decode cX5_tag 28 = .ok (.iload_n 2, 1) := by decide +kernel
theorem dX5_tag_29 : decode cX5_tag 29 = .ok (.ishl, 1) := by decide +kernel
theorem dX5_tag_30 : decode cX5_tag 30 = .ok (.ior, 1) := by decide +kernel
theorem dX5_tag_31 : decode cX5_tag 31 = .ok (.iastore, 1) := by decide +kernel
theorem dX5_tag_32 : decode cX5_tag 32 = .ok (.aload_n 0, 1) := by decide +kernel
theorem dX5_tag_33 : decode cX5_tag 33 = .ok (.invokevirtual 120, 3) := by decide +kernel
theorem dX5_tag_36 : decode cX5_tag 36 = .ok (.ifCond .le 7, 3) := by decide +kernel
theorem dX5_tag_39 : decode cX5_tag 39 = .ok (.iconst 1, 1) := by decide +kernel
theorem dX5_tag_40 : decode cX5_tag 40 = .ok (.goto 4, 3) := by decide +kernel
theorem dX5_tag_43 : decode cX5_tag 43 = .ok (.iconst 0, 1) := by decide +kernel
theorem dX5_tag_44 : decode cX5_tag 44 = .ok (.ireturn, 1) := by decide +kernel
theorem dX5_untag_0 : decode cX5_untag 0 = .ok (.aload_n 0, 1) := by decide +kernel
theorem dX5_untag_1 : decode cX5_untag 1 = .ok (.iload_n 1, 1) := by decide +kernel
theorem dX5_untag_2 : decode cX5_untag 2 = .ok (.invokevirtual 111, 3) := by decide +kernel
theorem dX5_untag_5 : decode cX5_untag 5 = .ok (.aload_n 0, 1) := by decide +kernel
theorem dX5_untag_6 : decode cX5_untag 6 = .ok (.iload_n 2, 1) := by decide +kernel
theorem dX5_untag_7 : decode cX5_untag 7 = .ok (.invokevirtual 92, 3) := by decide +kernel
theorem dX5_untag_10 : decode cX5_untag 10 = .ok (.aload_n 0, 1) := by decide +kernel
theorem dX5_untag_11 : decode cX5_untag 11 = .ok (.getfield 36, 3) := by decide +kernel
theorem dX5_untag_14 : decode cX5_untag 14 = .ok (.invokevirtual 114, 3) := by decide +kernel
theorem dX5_untag_17 : decode cX5_untag 17 = .ok (.aload_n 0, 1) := by decide +kernel
theorem dX5_untag_18 : decode cX5_untag 18 = .ok (.getfield 36, 3) := by decide +kernel
theorem dX5_untag_21 : decode cX5_untag 21 = .ok (.getfield 117, 3) := by decide +kernel
theorem dX5_untag_24 : decode cX5_untag 24 = .ok (.iload_n 1, 1) := by decide +kernel
theorem dX5_untag_25 : decode cX5_untag 25 = .ok (.dup2, 1) := by decide +kernel
theorem dX5_untag_26 : decode cX5_untag 26 = .ok (.iaload, 1) := by decide +kernel
theorem dX5_untag_27 : decode cX5_untag 27 = .ok (.iconst 1, 1) := by decide +kernel
theorem dX5_untag_28 : decode cX5_untag 28 = .ok (.iload_n 2, 1) := by decide +kernel
theorem dX5_untag_29 : decode cX5_untag 29 = .ok (.ishl, 1) := by decide +kernel
theorem dX5_untag_30 : decode cX5_untag 30 = .ok (.iconst (-1), 1) := by decide +kernel
theorem dX5_untag_31 : decode cX5_untag 31 = .ok (.ixor, 1) := by decide +kernel
theorem dX5_untag_32 : decode cX5_untag 32 = .ok (.iand, 1) := by decide +kernel
theorem dX5_untag_33 : decode cX5_untag 33 = .ok (.iastore, 1) := by decide +kernel
theorem dX5_untag_34 : decode cX5_untag 34 = .ok (.aload_n 0, 1) := by decide +kernel
theorem dX5_untag_35 : decode cX5_untag 35 = .ok (.invokevirtual 120, 3) := by decide +kernel
theorem dX5_untag_38 : decode cX5_untag 38 = .ok (.ifCond .le 7, 3) := by decide +kernel
theorem dX5_untag_41 : decode cX5_untag 41 = .ok (.iconst 1, 1) := by decide +kernel
theorem dX5_untag_42 : decode cX5_untag 42 = .ok (.goto 4, 3) := by decide +kernel
theorem dX5_untag_45 : decode cX5_untag 45 = .ok (.iconst 0, 1) := by decide +kernel
theorem dX5_untag_46 : decode cX5_untag 46 = .ok (.ireturn, 1) := by decide +kernel
theorem dX5_mass_0 : decode cX5_mass 0 = .ok (.aload_n 0, 1) := by decide +kernel
theorem dX5_mass_1 : decode cX5_mass 1 = .ok (.iload_n 2, 1) := by decide +kernel
theorem dX5_mass_2 : decode cX5_mass 2 = .ok (.invokevirtual 92, 3) := by decide +kernel
theorem dX5_mass_5 : decode cX5_mass 5 = .ok (.aload_n 0, 1) := by decide +kernel
theorem dX5_mass_6 : decode cX5_mass 6 = .ok (.iload_n 3, 1) := by decide +kernel
theorem dX5_mass_7 : decode cX5_mass 7 = .ok (.invokevirtual 92, 3) := by decide +kernel
theorem dX5_mass_10 : decode cX5_mass 10 = .ok (.iload_n 1, 1) := by decide +kernel
theorem dX5_mass_11 : decode cX5_mass 11 = .ok (.ifCond .lt 8, 3) := by decide +kernel
theorem dX5_mass_14 : decode cX5_mass 14 = .ok (.iload_n 1, 1) := by decide +kernel
theorem dX5_mass_15 : decode cX5_mass 15 = .ok (.iconst 2, 1) := by decide +kernel
theorem dX5_mass_16 : decode cX5_mass 16 = .ok (.if_icmp .le 13, 3) := by decide +kernel
theorem dX5_mass_19 : decode cX5_mass 19 = .ok (.new 51, 3) := by decide +kernel
theorem dX5_mass_22 : decode cX5_mass 22 = .ok (.dup, 1) := by decide +kernel
theorem dX5_mass_23 : decode cX5_mass 23 = .ok (.ldc 123, 2) := by decide +kernel
theorem dX5_mass_25 : decode cX5_mass 25 = .ok (.invokespecial 55, 3) := by decide +kernel
theorem dX5_mass_28 : decode cX5_mass 28 = .ok (.athrow, 1) := by decide +kernel
theorem dX5_mass_29 : decode cX5_mass 29 = .ok (.aload_n 0, 1) := by decide +kernel
theorem dX5_mass_30 : decode cX5_mass 30 = .ok (.getfield 43, 3) := by decide +kernel
theorem dX5_mass_33 : decode cX5_mass 33 = .ok (.getfield 125, 3) := by decide +kernel
theorem dX5_mass_36 : decode cX5_mass 36 = .ok (.aload_n 0, 1) := by decide +kernel
theorem dX5_mass_37 : decode cX5_mass 37 = .ok (.getfield 19, 3) := by decide +kernel
theorem dX5_mass_40 : decode cX5_mass 40 = .ok (.iload_n 2, 1) := by decide +kernel
theorem dX5_mass_41 : decode cX5_mass 41 = .ok (.invokevirtual 128, 3) := by decide +kernel
theorem dX5_mass_44 : decode cX5_mass 44 = .ok (.iaload, 1) := by decide +kernel
theorem dX5_mass_45 : decode cX5_mass 45 = .ok (.istore 4, 2) := by decide +kernel
theorem dX5_mass_47 : decode cX5_mass 47 = .ok (.aload_n 0, 1) := by decide +kernel
theorem dX5_mass_48 : decode cX5_mass 48 = .ok (.getfield 36, 3) := by decide +kernel
theorem dX5_mass_51 : decode cX5_mass 51 = .ok (.invokevirtual 114, 3) := by decide +kernel
theorem dX5_mass_54 : decode cX5_mass 54 = .ok (.iconst 0, 1) := by decide +kernel
theorem dX5_mass_55 : decode cX5_mass 55 = .ok (.istore 5, 2) := by decide +kernel
theorem dX5_mass_57 : decode cX5_mass 57 = .ok (.iload 5, 2) := by decide +kernel
theorem dX5_mass_59 : decode cX5_mass 59 = .ok (.aload_n 0, 1) := by decide +kernel
theorem dX5_mass_60 : decode cX5_mass 60 = .ok (.getfield 36, 3) := by decide +kernel
theorem dX5_mass_63 : decode cX5_mass 63 = .ok (.getfield 108, 3) := by decide +kernel
theorem dX5_mass_66 : decode cX5_mass 66 = .ok (.if_icmp .ge 71, 3) := by decide +kernel
theorem dX5_mass_69 : decode cX5_mass 69 = .ok (.iload_n 1, 1) := by decide +kernel
theorem dX5_mass_70 : decode cX5_mass 70 = .ok (.iconst 2, 1) := by decide +kernel
theorem dX5_mass_71 : decode cX5_mass 71 = .ok (.if_icmp .ne 20, 3) := by decide +kernel
theorem dX5_mass_74 : decode cX5_mass 74 = .ok (.aload_n 0, 1) := by decide +kernel
theorem dX5_mass_75 : decode cX5_mass 75 = .ok (.getfield 36, 3) := by decide +kernel
theorem dX5_mass_78 : decode cX5_mass 78 = .ok (.getfield 132, 3) := by decide +kernel
theorem dX5_mass_81 : decode cX5_mass 81 = .ok (.iload 5, 2) := by decide +kernel
theorem dX5_mass_83 : decode cX5_mass 83 = .ok (.iaload, 1) := by decide +kernel
theorem dX5_mass_84 : decode cX5_mass 84 = .ok (.iload_n 2, 1) := by decide +kernel
theorem dX5_mass_85 : decode cX5_mass 85 = .ok (.invokestatic 135, 3) := by decide +kernel
theorem dX5_mass_88 : decode cX5_mass 88 = .ok (.goto 10, 3) := by decide +kernel
theorem dX5_mass_91 : decode cX5_mass 91 = .ok (.iload 4, 2) := by decide +kernel
theorem dX5_mass_93 : decode cX5_mass 93 = .ok (.iload 5, 2) := by decide +kernel
theorem dX5_mass_95 : decode cX5_mass 95 = .ok (.invokestatic 135, 3) := by decide +kernel
theorem dX5_mass_98 : decode cX5_mass 98 = .ok (.istore 6, 2) := by decide +kernel
theorem dX5_mass_100 : decode cX5_mass 100 = .ok (.iload 6, 2) := by decide +kernel
theorem dX5_mass_102 : decode cX5_mass 102 = .ok (.ifCond .eq 29, 3) := by decide +kernel
theorem dX5_mass_105 : decode cX5_mass 105 = .ok (.aload_n 0, 1) := by decide +kernel
theorem dX5_mass_106 : decode cX5_mass 106 = .ok (.getfield 36, 3) := by decide +kernel
theorem dX5_mass_109 : decode cX5_mass 109 = .ok (.getfield 117, 3) := by decide +kernel
theorem dX5_mass_112 : decode cX5_mass 112 = .ok (.iload 5, 2) := by decide +kernel
theorem dX5_mass_114 : decode cX5_mass 114 = .ok (.iload_n 1, 1) := by decide +kernel
theorem dX5_mass_115 : decode cX5_mass 115 = .ok (.aload_n 0, 1) := by decide +kernel
theorem dX5_mass_116 : decode cX5_mass 116 = .ok (.getfield 36, 3) := by decide +kernel
theorem dX5_mass_119 : decode cX5_mass 119 = .ok (.getfield 132, 3) := by decide +kernel
theorem dX5_mass_122 : decode cX5_mass 122 = .ok (.iload 5, 2) := by decide +kernel
theorem dX5_mass_124 : decode cX5_mass 124 = .ok (.iaload, 1) := by decide +kernel
theorem dX5_mass_125 : decode cX5_mass 125 = .ok (.iload_n 2, 1) := by decide +kernel
theorem dX5_mass_126 : decode cX5_mass 126 = .ok (.iload_n 3, 1) := by decide +kernel
theorem dX5_mass_127 : decode cX5_mass 127 = .ok (.invokestatic 139, 3) := by decide +kernel
theorem dX5_mass_130 : decode cX5_mass 130 = .ok (.iastore, 1) := by decide +kernel
theorem dX5_mass_131 : decode cX5_mass 131 = .ok (.iinc 5 1, 3) := by decide +kernel
theorem dX5_mass_134 : decode cX5_mass 134 = .ok (.goto (-77), 3) := by decide +kernel
theorem dX5_mass_137 : decode cX5_mass 137 = .ok (.aload_n 0, 1) := by decide +kernel
theorem dX5_mass_138 : decode cX5_mass 138 = .ok (.invokevirtual 120, 3) := by decide +kernel
theorem dX5_mass_141 : decode cX5_mass 141 = .ok (.ireturn, 1) := by decide +kernel
theorem dX5_undo_0 : decode cX5_undo 0 = .ok (.aload_n 0, 1) := by decide +kernel
theorem dX5_undo_1 : decode cX5_undo 1 = .ok (.getfield 36, 3) := by decide +kernel
theorem dX5_undo_4 : decode cX5_undo 4 = .ok (.getfield 143, 3) := by decide +kernel
theorem dX5_undo_7 : decode cX5_undo 7 = .ok (.ifCond .ne 13, 3) := by decide +kernel
theorem dX5_undo_10 : decode cX5_undo 10 = .ok (.new 62, 3) := by decide +kernel
theorem dX5_undo_13 : decode cX5_undo 13 = .ok (.dup, 1) := by decide +kernel
theorem dX5_undo_14 : decode cX5_undo 14 = .ok (.ldc 146, 2) := by decide +kernel
theorem dX5_undo_16 : decode cX5_undo 16 = .ok (.invokespecial 66, 3) := by decide +kernel
theorem dX5_undo_19 : decode cX5_undo 19 = .ok (.athrow, 1) := by decide +kernel
theorem dX5_undo_20 : decode cX5_undo 20 = .ok (.aload_n 0, 1) := by decide +kernel
theorem dX5_undo_21 : decode cX5_undo 21 = .ok (.getfield 36, 3) := by decide +kernel
theorem dX5_undo_24 : decode cX5_undo 24 = .ok (.invokevirtual 148, 3) := by decide +kernel
theorem dX5_undo_27 : decode cX5_undo 27 = .ok (.istore_n 1, 1) := by decide +kernel
theorem dX5_undo_28 : decode cX5_undo 28 = .ok (.aload_n 0, 1) := by decide +kernel
theorem dX5_undo_29 : decode cX5_undo 29 = .ok (.getfield 43, 3) := by decide +kernel
theorem dX5_undo_32 : decode cX5_undo 32 = .ok (.aload_n 0, 1) := by decide +kernel
theorem dX5_undo_33 : decode cX5_undo 33 = .ok (.getfield 19, 3) := by decide +kernel
theorem dX5_undo_36 : decode cX5_undo 36 = .ok (.aload_n 0, 1) := by decide +kernel
theorem dX5_undo_37 : decode cX5_undo 37 = .ok (.getfield 36, 3) := by decide +kernel
theorem dX5_undo_40 : decode cX5_undo 40 = .ok (.invokevirtual 151, 3) := by decide +kernel
theorem dX5_undo_43 : decode cX5_undo 43 = .ok (.iload_n 1, 1) := by decide +kernel
theorem dX5_undo_44 : decode cX5_undo 44 = .ok (.ireturn, 1) := by decide +kernel
theorem dX5_kept_0 : decode cX5_kept 0 = .ok (.aload_n 0, 1) := by decide +kernel
theorem dX5_kept_1 : decode cX5_kept 1 = .ok (.getfield 36, 3) := by decide +kernel
theorem dX5_kept_4 : decode cX5_kept 4 = .ok (.getfield 143, 3) := by decide +kernel
theorem dX5_kept_7 : decode cX5_kept 7 = .ok (.ireturn, 1) := by decide +kernel
theorem dX5_hand_0 : decode cX5_hand 0 = .ok (.aload_n 0, 1) := by decide +kernel
theorem dX5_hand_1 : decode cX5_hand 1 = .ok (.iload_n 1, 1) := by decide +kernel
theorem dX5_hand_2 : decode cX5_hand 2 = .ok (.invokevirtual 111, 3) := by decide +kernel
theorem dX5_hand_5 : decode cX5_hand 5 = .ok (.aload_n 0, 1) := by decide +kernel
theorem dX5_hand_6 : decode cX5_hand 6 = .ok (.getfield 36, 3) := by decide +kernel
theorem dX5_hand_9 : decode cX5_hand 9 = .ok (.getfield 132, 3) := by decide +kernel
theorem dX5_hand_12 : decode cX5_hand 12 = .ok (.iload_n 1, 1) := by decide +kernel
theorem dX5_hand_13 : decode cX5_hand 13 = .ok (.iaload, 1) := by decide +kernel
theorem dX5_hand_14 : decode cX5_hand 14 = .ok (.ireturn, 1) := by decide +kernel
theorem dX5_ask_0 : decode cX5_ask 0 = .ok (.aload_n 0, 1) := by decide +kernel
theorem dX5_ask_1 : decode cX5_ask 1 = .ok (.iload_n 2, 1) := by decide +kernel
theorem dX5_ask_2 : decode cX5_ask 2 = .ok (.invokevirtual 92, 3) := by decide +kernel
theorem dX5_ask_5 : decode cX5_ask 5 = .ok (.aload_n 0, 1) := by decide +kernel
theorem dX5_ask_6 : decode cX5_ask 6 = .ok (.iload_n 3, 1) := by decide +kernel
theorem dX5_ask_7 : decode cX5_ask 7 = .ok (.invokevirtual 92, 3) := by decide +kernel
theorem dX5_ask_10 : decode cX5_ask 10 = .ok (.iload_n 1, 1) := by decide +kernel
theorem dX5_ask_11 : decode cX5_ask 11 = .ok (.ifCond .lt 8, 3) := by decide +kernel
theorem dX5_ask_14 : decode cX5_ask 14 = .ok (.iload_n 1, 1) := by decide +kernel
theorem dX5_ask_15 : decode cX5_ask 15 = .ok (.iconst 3, 1) := by decide +kernel
theorem dX5_ask_16 : decode cX5_ask 16 = .ok (.if_icmp .le 13, 3) := by decide +kernel
theorem dX5_ask_19 : decode cX5_ask 19 = .ok (.new 51, 3) := by decide +kernel
theorem dX5_ask_22 : decode cX5_ask 22 = .ok (.dup, 1) := by decide +kernel
theorem dX5_ask_23 : decode cX5_ask 23 = .ok (.ldc 155, 2) := by decide +kernel
theorem dX5_ask_25 : decode cX5_ask 25 = .ok (.invokespecial 55, 3) := by decide +kernel
theorem dX5_ask_28 : decode cX5_ask 28 = .ok (.athrow, 1) := by decide +kernel
theorem dX5_ask_29 : decode cX5_ask 29 = .ok (.iload_n 2, 1) := by decide +kernel
theorem dX5_ask_30 : decode cX5_ask 30 = .ok (.iload_n 3, 1) := by decide +kernel
theorem dX5_ask_31 : decode cX5_ask 31 = .ok (.if_icmp .ne 13, 3) := by decide +kernel
theorem dX5_ask_34 : decode cX5_ask 34 = .ok (.new 51, 3) := by decide +kernel
theorem dX5_ask_37 : decode cX5_ask 37 = .ok (.dup, 1) := by decide +kernel
theorem dX5_ask_38 : decode cX5_ask 38 = .ok (.ldc 157, 2) := by decide +kernel
theorem dX5_ask_40 : decode cX5_ask 40 = .ok (.invokespecial 55, 3) := by decide +kernel
theorem dX5_ask_43 : decode cX5_ask 43 = .ok (.athrow, 1) := by decide +kernel
theorem dX5_ask_44 : decode cX5_ask 44 = .ok (.aload_n 0, 1) := by decide +kernel
theorem dX5_ask_45 : decode cX5_ask 45 = .ok (.getfield 29, 3) := by decide +kernel
theorem dX5_ask_48 : decode cX5_ask 48 = .ok (.getfield 159, 3) := by decide +kernel
theorem dX5_ask_51 : decode cX5_ask 51 = .ok (.bipush 40, 2) := by decide +kernel
theorem dX5_ask_53 : decode cX5_ask 53 = .ok (.if_icmp .lt 13, 3) := by decide +kernel
theorem dX5_ask_56 : decode cX5_ask 56 = .ok (.new 62, 3) := by decide +kernel
theorem dX5_ask_59 : decode cX5_ask 59 = .ok (.dup, 1) := by decide +kernel
theorem dX5_ask_60 : decode cX5_ask 60 = .ok (.ldc 160, 2) := by decide +kernel
theorem dX5_ask_62 : decode cX5_ask 62 = .ok (.invokespecial 66, 3) := by decide +kernel
theorem dX5_ask_65 : decode cX5_ask 65 = .ok (.athrow, 1) := by decide +kernel
theorem dX5_ask_66 : decode cX5_ask 66 = .ok (.aload_n 0, 1) := by decide +kernel
theorem dX5_ask_67 : decode cX5_ask 67 = .ok (.getfield 29, 3) := by decide +kernel
theorem dX5_ask_70 : decode cX5_ask 70 = .ok (.iload_n 1, 1) := by decide +kernel
theorem dX5_ask_71 : decode cX5_ask 71 = .ok (.iload_n 2, 1) := by decide +kernel
theorem dX5_ask_72 : decode cX5_ask 72 = .ok (.iload_n 3, 1) := by decide +kernel
theorem dX5_ask_73 : decode cX5_ask 73 = .ok (.invokevirtual 162, 3) := by decide +kernel
theorem dX5_ask_76 : decode cX5_ask 76 = .ok (.ireturn, 1) := by decide +kernel
theorem dX5_vote_0 : decode cX5_vote 0 = .ok (.aload_n 0, 1) := by decide +kernel
theorem dX5_vote_1 : decode cX5_vote 1 = .ok (.iload_n 1, 1) := by decide +kernel
theorem dX5_vote_2 : decode cX5_vote 2 = .ok (.invokevirtual 166, 3) := by decide +kernel
theorem dX5_vote_5 : decode cX5_vote 5 = .ok (.iload_n 2, 1) := by decide +kernel
theorem dX5_vote_6 : decode cX5_vote 6 = .ok (.ifCond .lt 9, 3) := by decide +kernel
theorem dX5_vote_9 : decode cX5_vote 9 = .ok (.iload_n 2, 1) := by decide +kernel
theorem dX5_vote_10 : decode cX5_vote 10 = .ok (.bipush 10, 2) := by decide +kernel
theorem dX5_vote_12 : decode cX5_vote 12 = .ok (.if_icmp .lt 13, 3) := by decide +kernel
theorem dX5_vote_15 : decode cX5_vote 15 = .ok (.new 51, 3) := by decide +kernel
theorem dX5_vote_18 : decode cX5_vote 18 = .ok (.dup, 1) := by decide +kernel
theorem dX5_vote_19 : decode cX5_vote 19 = .ok (.ldc 169, 2) := by decide +kernel
theorem dX5_vote_21 : decode cX5_vote 21 = .ok (.invokespecial 55, 3) := by decide +kernel
theorem dX5_vote_24 : decode cX5_vote 24 = .ok (.athrow, 1) := by decide +kernel
theorem dX5_vote_25 : decode cX5_vote 25 = .ok (.aload_n 0, 1) := by decide +kernel
theorem dX5_vote_26 : decode cX5_vote 26 = .ok (.getfield 29, 3) := by decide +kernel
theorem dX5_vote_29 : decode cX5_vote 29 = .ok (.getfield 171, 3) := by decide +kernel
theorem dX5_vote_32 : decode cX5_vote 32 = .ok (.iload_n 1, 1) := by decide +kernel
theorem dX5_vote_33 : decode cX5_vote 33 = .ok (.iaload, 1) := by decide +kernel
theorem dX5_vote_34 : decode cX5_vote 34 = .ok (.ifCond .eq 13, 3) := by decide +kernel
theorem dX5_vote_37 : decode cX5_vote 37 = .ok (.new 62, 3) := by decide +kernel
theorem dX5_vote_40 : decode cX5_vote 40 = .ok (.dup, 1) := by decide +kernel
theorem dX5_vote_41 : decode cX5_vote 41 = .ok (.ldc 174, 2) := by decide +kernel
theorem dX5_vote_43 : decode cX5_vote 43 = .ok (.invokespecial 66, 3) := by decide +kernel
theorem dX5_vote_46 : decode cX5_vote 46 = .ok (.athrow, 1) := by decide +kernel
theorem dX5_vote_47 : decode cX5_vote 47 = .ok (.aload_n 0, 1) := by decide +kernel
theorem dX5_vote_48 : decode cX5_vote 48 = .ok (.getfield 29, 3) := by decide +kernel
theorem dX5_vote_51 : decode cX5_vote 51 = .ok (.iload_n 1, 1) := by decide +kernel
theorem dX5_vote_52 : decode cX5_vote 52 = .ok (.iload_n 2, 1) := by decide +kernel
theorem dX5_vote_53 : decode cX5_vote 53 = .ok (.iload_n 3, 1) := by decide +kernel
theorem dX5_vote_54 : decode cX5_vote 54 = .ok (.invokevirtual 176, 3) := by decide +kernel
theorem dX5_vote_57 : decode cX5_vote 57 = .ok (.aload_n 0, 1) := by decide +kernel
theorem dX5_vote_58 : decode cX5_vote 58 = .ok (.iload_n 1, 1) := by decide +kernel
theorem dX5_vote_59 : decode cX5_vote 59 = .ok (.aload_n 0, 1) := by decide +kernel
theorem dX5_vote_60 : decode cX5_vote 60 = .ok (.getfield 29, 3) := by decide +kernel
theorem dX5_vote_63 : decode cX5_vote 63 = .ok (.iload_n 1, 1) := by decide +kernel
theorem dX5_vote_64 : decode cX5_vote 64 = .ok (.invokevirtual 180, 3) := by decide +kernel
theorem dX5_vote_67 : decode cX5_vote 67 = .ok (.invokevirtual 183, 3) := by decide +kernel
theorem dX5_vote_70 : decode cX5_vote 70 = .ok (.aload_n 0, 1) := by decide +kernel
theorem dX5_vote_71 : decode cX5_vote 71 = .ok (.getfield 29, 3) := by decide +kernel
theorem dX5_vote_74 : decode cX5_vote 74 = .ok (.getfield 171, 3) := by decide +kernel
theorem dX5_vote_77 : decode cX5_vote 77 = .ok (.iload_n 1, 1) := by decide +kernel
theorem dX5_vote_78 : decode cX5_vote 78 = .ok (.iaload, 1) := by decide +kernel
theorem dX5_vote_79 : decode cX5_vote 79 = .ok (.ireturn, 1) := by decide +kernel
theorem dX5_standing_0 : decode cX5_standing 0 = .ok (.aload_n 0, 1) := by decide +kernel
theorem dX5_standing_1 : decode cX5_standing 1 = .ok (.iload_n 1, 1) := by decide +kernel
theorem dX5_standing_2 : decode cX5_standing 2 = .ok (.invokevirtual 166, 3) := by decide +kernel
theorem dX5_standing_5 : decode cX5_standing 5 = .ok (.aload_n 0, 1) := by decide +kernel
theorem dX5_standing_6 : decode cX5_standing 6 = .ok (.getfield 29, 3) := by decide +kernel
theorem dX5_standing_9 : decode cX5_standing 9 = .ok (.getfield 171, 3) := by decide +kernel
theorem dX5_standing_12 : decode cX5_standing 12 = .ok (.iload_n 1, 1) := by decide +kernel
theorem dX5_standing_13 : decode cX5_standing 13 = .ok (.iaload, 1) := by decide +kernel
theorem dX5_standing_14 : decode cX5_standing 14 = .ok (.ireturn, 1) := by decide +kernel
theorem dX5_couldPass_0 : decode cX5_couldPass 0 = .ok (.aload_n 0, 1) := by decide +kernel
theorem dX5_couldPass_1 : decode cX5_couldPass 1 = .ok (.iload_n 1, 1) := by decide +kernel
theorem dX5_couldPass_2 : decode cX5_couldPass 2 = .ok (.invokevirtual 166, 3) := by decide +kernel
theorem dX5_couldPass_5 : decode cX5_couldPass 5 = .ok (.aload_n 0, 1) := by decide +kernel
theorem dX5_couldPass_6 : decode cX5_couldPass 6 = .ok (.iload_n 1, 1) := by decide +kernel
theorem dX5_couldPass_7 : decode cX5_couldPass 7 = .ok (.invokevirtual 187, 3) := by decide +kernel
theorem dX5_couldPass_10 : decode cX5_couldPass 10 = .ok (.ireturn, 1) := by decide +kernel
theorem dX5_clashes_0 : decode cX5_clashes 0 = .ok (.aload_n 0, 1) := by decide +kernel
theorem dX5_clashes_1 : decode cX5_clashes 1 = .ok (.iload_n 1, 1) := by decide +kernel
theorem dX5_clashes_2 : decode cX5_clashes 2 = .ok (.invokevirtual 166, 3) := by decide +kernel
theorem dX5_clashes_5 : decode cX5_clashes 5 = .ok (.aload_n 0, 1) := by decide +kernel
theorem dX5_clashes_6 : decode cX5_clashes 6 = .ok (.iload_n 1, 1) := by decide +kernel
theorem dX5_clashes_7 : decode cX5_clashes 7 = .ok (.invokevirtual 187, 3) := by decide +kernel
theorem dX5_clashes_10 : decode cX5_clashes 10 = .ok (.ifCond .ne 5, 3) := by decide +kernel
theorem dX5_clashes_13 : decode cX5_clashes 13 = .ok (.iconst 0, 1) := by decide +kernel
theorem dX5_clashes_14 : decode cX5_clashes 14 = .ok (.ireturn, 1) := by decide +kernel
theorem dX5_clashes_15 : decode cX5_clashes 15 = .ok (.iconst 0, 1) := by decide +kernel
theorem dX5_clashes_16 : decode cX5_clashes 16 = .ok (.istore_n 2, 1) := by decide +kernel
theorem dX5_clashes_17 : decode cX5_clashes 17 = .ok (.iconst 0, 1) := by decide +kernel
theorem dX5_clashes_18 : decode cX5_clashes 18 = .ok (.istore_n 3, 1) := by decide +kernel
theorem dX5_clashes_19 : decode cX5_clashes 19 = .ok (.iload_n 3, 1) := by decide +kernel
theorem dX5_clashes_20 : decode cX5_clashes 20 = .ok (.aload_n 0, 1) := by decide +kernel
theorem dX5_clashes_21 : decode cX5_clashes 21 = .ok (.getfield 29, 3) := by decide +kernel
theorem dX5_clashes_24 : decode cX5_clashes 24 = .ok (.getfield 159, 3) := by decide +kernel
theorem dX5_clashes_27 : decode cX5_clashes 27 = .ok (.if_icmp .ge 43, 3) := by decide +kernel
theorem dX5_clashes_30 : decode cX5_clashes 30 = .ok (.iload_n 3, 1) := by decide +kernel
theorem dX5_clashes_31 : decode cX5_clashes 31 = .ok (.iload_n 1, 1) := by decide +kernel
theorem dX5_clashes_32 : decode cX5_clashes 32 = .ok (.if_icmp .eq 32, 3) := by decide +kernel
theorem dX5_clashes_35 : decode cX5_clashes 35 = .ok (.aload_n 0, 1) := by decide +kernel
theorem dX5_clashes_36 : decode cX5_clashes 36 = .ok (.iload_n 3, 1) := by decide +kernel
theorem dX5_clashes_37 : decode cX5_clashes 37 = .ok (.invokevirtual 187, 3) := by decide +kernel
theorem dX5_clashes_40 : decode cX5_clashes 40 = .ok (.ifCond .eq 24, 3) := by decide +kernel
theorem dX5_clashes_43 : decode cX5_clashes 43 = .ok (.aload_n 0, 1) := by decide +kernel
theorem dX5_clashes_44 : decode cX5_clashes 44 = .ok (.iload_n 1, 1) := by decide +kernel
theorem dX5_clashes_45 : decode cX5_clashes 45 = .ok (.iload_n 3, 1) := by decide +kernel
theorem dX5_clashes_46 : decode cX5_clashes 46 = .ok (.invokevirtual 191, 3) := by decide +kernel
theorem dX5_clashes_49 : decode cX5_clashes 49 = .ok (.ifCond .eq 12, 3) := by decide +kernel
theorem dX5_clashes_52 : decode cX5_clashes 52 = .ok (.aload_n 0, 1) := by decide +kernel
theorem dX5_clashes_53 : decode cX5_clashes 53 = .ok (.iload_n 3, 1) := by decide +kernel
theorem dX5_clashes_54 : decode cX5_clashes 54 = .ok (.iload_n 1, 1) := by decide +kernel
theorem dX5_clashes_55 : decode cX5_clashes 55 = .ok (.invokevirtual 191, 3) := by decide +kernel
theorem dX5_clashes_58 : decode cX5_clashes 58 = .ok (.ifCond .ne 6, 3) := by decide +kernel
theorem dX5_clashes_61 : decode cX5_clashes 61 = .ok (.iinc 2 1, 3) := by decide +kernel
theorem dX5_clashes_64 : decode cX5_clashes 64 = .ok (.iinc 3 1, 3) := by decide +kernel
theorem dX5_clashes_67 : decode cX5_clashes 67 = .ok (.goto (-48), 3) := by decide +kernel
theorem dX5_clashes_70 : decode cX5_clashes 70 = .ok (.iload_n 2, 1) := by decide +kernel
theorem dX5_clashes_71 : decode cX5_clashes 71 = .ok (.ireturn, 1) := by decide +kernel
theorem dX5_alias_0 : decode cX5_alias 0 = .ok (.aload_n 0, 1) := by decide +kernel
theorem dX5_alias_1 : decode cX5_alias 1 = .ok (.iload_n 1, 1) := by decide +kernel
theorem dX5_alias_2 : decode cX5_alias 2 = .ok (.invokevirtual 92, 3) := by decide +kernel
theorem dX5_alias_5 : decode cX5_alias 5 = .ok (.aload_n 0, 1) := by decide +kernel
theorem dX5_alias_6 : decode cX5_alias 6 = .ok (.getfield 19, 3) := by decide +kernel
theorem dX5_alias_9 : decode cX5_alias 9 = .ok (.getfield 194, 3) := by decide +kernel
theorem dX5_alias_12 : decode cX5_alias 12 = .ok (.iload_n 1, 1) := by decide +kernel
theorem dX5_alias_13 : decode cX5_alias 13 = .ok (.iaload, 1) := by decide +kernel
theorem dX5_alias_14 : decode cX5_alias 14 = .ok (.ireturn, 1) := by decide +kernel
theorem dX5_end_0 : decode cX5_end 0 = .ok (.aload_n 0, 1) := by decide +kernel
theorem dX5_end_1 : decode cX5_end 1 = .ok (.iload_n 1, 1) := by decide +kernel
theorem dX5_end_2 : decode cX5_end 2 = .ok (.invokevirtual 92, 3) := by decide +kernel
theorem dX5_end_5 : decode cX5_end 5 = .ok (.aload_n 0, 1) := by decide +kernel
theorem dX5_end_6 : decode cX5_end 6 = .ok (.getfield 19, 3) := by decide +kernel
theorem dX5_end_9 : decode cX5_end 9 = .ok (.iload_n 1, 1) := by decide +kernel
theorem dX5_end_10 : decode cX5_end 10 = .ok (.invokevirtual 128, 3) := by decide +kernel
theorem dX5_end_13 : decode cX5_end 13 = .ok (.ireturn, 1) := by decide +kernel
theorem dX5_implies_0 : decode cX5_implies 0 = .ok (.aload_n 0, 1) := by decide +kernel
theorem dX5_implies_1 : decode cX5_implies 1 = .ok (.iload_n 1, 1) := by decide +kernel
theorem dX5_implies_2 : decode cX5_implies 2 = .ok (.invokevirtual 92, 3) := by decide +kernel
theorem dX5_implies_5 : decode cX5_implies 5 = .ok (.aload_n 0, 1) := by decide +kernel
theorem dX5_implies_6 : decode cX5_implies 6 = .ok (.iload_n 2, 1) := by decide +kernel
theorem dX5_implies_7 : decode cX5_implies 7 = .ok (.invokevirtual 92, 3) := by decide +kernel
theorem dX5_implies_10 : decode cX5_implies 10 = .ok (.aload_n 0, 1) := by decide +kernel
theorem dX5_implies_11 : decode cX5_implies 11 = .ok (.getfield 19, 3) := by decide +kernel
theorem dX5_implies_14 : decode cX5_implies 14 = .ok (.getfield 197, 3) := by decide +kernel
theorem dX5_implies_17 : decode cX5_implies 17 = .ok (.iload_n 1, 1) := by decide +kernel
theorem dX5_implies_18 : decode cX5_implies 18 = .ok (.iaload, 1) := by decide +kernel
theorem dX5_implies_19 : decode cX5_implies 19 = .ok (.iload_n 2, 1) := by decide +kernel
theorem dX5_implies_20 : decode cX5_implies 20 = .ok (.invokestatic 135, 3) := by decide +kernel
theorem dX5_implies_23 : decode cX5_implies 23 = .ok (.ireturn, 1) := by decide +kernel
theorem dX5_shown_0 : decode cX5_shown 0 = .ok (.aload_n 0, 1) := by decide +kernel
theorem dX5_shown_1 : decode cX5_shown 1 = .ok (.iload_n 1, 1) := by decide +kernel
theorem dX5_shown_2 : decode cX5_shown 2 = .ok (.invokevirtual 111, 3) := by decide +kernel
theorem dX5_shown_5 : decode cX5_shown 5 = .ok (.aload_n 0, 1) := by decide +kernel
theorem dX5_shown_6 : decode cX5_shown 6 = .ok (.getfield 43, 3) := by decide +kernel
theorem dX5_shown_9 : decode cX5_shown 9 = .ok (.iload_n 1, 1) := by decide +kernel
theorem dX5_shown_10 : decode cX5_shown 10 = .ok (.aload_n 0, 1) := by decide +kernel
theorem dX5_shown_11 : decode cX5_shown 11 = .ok (.getfield 10, 3) := by decide +kernel
theorem dX5_shown_14 : decode cX5_shown 14 = .ok (.getfield 77, 3) := by decide +kernel
theorem dX5_shown_17 : decode cX5_shown 17 = .ok (.invokevirtual 200, 3) := by decide +kernel
theorem dX5_shown_20 : decode cX5_shown 20 = .ok (.ireturn, 1) := by decide +kernel
theorem dX5_shownByHand_0 : decode cX5_shownByHand 0 = .ok (.aload_n 0, 1) := by decide +kernel
theorem dX5_shownByHand_1 : decode cX5_shownByHand 1 = .ok (.iload_n 1, 1) := by decide +kernel
theorem dX5_shownByHand_2 : decode cX5_shownByHand 2 = .ok (.invokevirtual 111, 3) := by decide +kernel
theorem dX5_shownByHand_5 : decode cX5_shownByHand 5 = .ok (.aload_n 0, 1) := by decide +kernel
theorem dX5_shownByHand_6 : decode cX5_shownByHand 6 = .ok (.getfield 19, 3) := by decide +kernel
theorem dX5_shownByHand_9 : decode cX5_shownByHand 9 = .ok (.aload_n 0, 1) := by decide +kernel
theorem dX5_shownByHand_10 : decode cX5_shownByHand 10 = .ok (.getfield 36, 3) := by decide +kernel
theorem dX5_shownByHand_13 : decode cX5_shownByHand 13 = .ok (.getfield 132, 3) := by decide +kernel
theorem dX5_shownByHand_16 : decode cX5_shownByHand 16 = .ok (.iload_n 1, 1) := by decide +kernel
theorem dX5_shownByHand_17 : decode cX5_shownByHand 17 = .ok (.iaload, 1) := by decide +kernel
theorem dX5_shownByHand_18 : decode cX5_shownByHand 18 = .ok (.invokevirtual 204, 3) := by decide +kernel
theorem dX5_shownByHand_21 : decode cX5_shownByHand 21 = .ok (.ireturn, 1) := by decide +kernel
theorem dX5_users_0 : decode cX5_users 0 = .ok (.aload_n 0, 1) := by decide +kernel
theorem dX5_users_1 : decode cX5_users 1 = .ok (.iload_n 1, 1) := by decide +kernel
theorem dX5_users_2 : decode cX5_users 2 = .ok (.invokevirtual 92, 3) := by decide +kernel
theorem dX5_users_5 : decode cX5_users 5 = .ok (.aload_n 0, 1) := by decide +kernel
theorem dX5_users_6 : decode cX5_users 6 = .ok (.getfield 43, 3) := by decide +kernel
theorem dX5_users_9 : decode cX5_users 9 = .ok (.getfield 125, 3) := by decide +kernel
theorem dX5_users_12 : decode cX5_users 12 = .ok (.iload_n 1, 1) := by decide +kernel
theorem dX5_users_13 : decode cX5_users 13 = .ok (.iaload, 1) := by decide +kernel
theorem dX5_users_14 : decode cX5_users 14 = .ok (.invokestatic 207, 3) := by decide +kernel
theorem dX5_users_17 : decode cX5_users 17 = .ok (.ireturn, 1) := by decide +kernel
theorem dX5_reason_0 : decode cX5_reason 0 = .ok (.aload_n 0, 1) := by decide +kernel
theorem dX5_reason_1 : decode cX5_reason 1 = .ok (.iload_n 1, 1) := by decide +kernel
theorem dX5_reason_2 : decode cX5_reason 2 = .ok (.invokevirtual 111, 3) := by decide +kernel
theorem dX5_reason_5 : decode cX5_reason 5 = .ok (.aload_n 0, 1) := by decide +kernel
theorem dX5_reason_6 : decode cX5_reason 6 = .ok (.iload_n 2, 1) := by decide +kernel
theorem dX5_reason_7 : decode cX5_reason 7 = .ok (.invokevirtual 92, 3) := by decide +kernel
theorem dX5_reason_10 : decode cX5_reason 10 = .ok (.aload_n 0, 1) := by decide +kernel
theorem dX5_reason_11 : decode cX5_reason 11 = .ok (.getfield 19, 3) := by decide +kernel
theorem dX5_reason_14 : decode cX5_reason 14 = .ok (.aload_n 0, 1) := by decide +kernel
theorem dX5_reason_15 : decode cX5_reason 15 = .ok (.getfield 36, 3) := by decide +kernel
theorem dX5_reason_18 : decode cX5_reason 18 = .ok (.getfield 132, 3) := by decide +kernel
theorem dX5_reason_21 : decode cX5_reason 21 = .ok (.iload_n 1, 1) := by decide +kernel
theorem dX5_reason_22 : decode cX5_reason 22 = .ok (.iaload, 1) := by decide +kernel
theorem dX5_reason_23 : decode cX5_reason 23 = .ok (.iload_n 2, 1) := by decide +kernel
theorem dX5_reason_24 : decode cX5_reason 24 = .ok (.invokevirtual 212, 3) := by decide +kernel
theorem dX5_reason_27 : decode cX5_reason 27 = .ok (.ireturn, 1) := by decide +kernel
theorem dX5_count_0 : decode cX5_count 0 = .ok (.aload_n 0, 1) := by decide +kernel
theorem dX5_count_1 : decode cX5_count 1 = .ok (.iload_n 1, 1) := by decide +kernel
theorem dX5_count_2 : decode cX5_count 2 = .ok (.iload_n 2, 1) := by decide +kernel
theorem dX5_count_3 : decode cX5_count 3 = .ok (.iload_n 3, 1) := by decide +kernel
theorem dX5_count_4 : decode cX5_count 4 = .ok (.invokevirtual 215, 3) := by decide +kernel
theorem dX5_count_7 : decode cX5_count 7 = .ok (.aload_n 0, 1) := by decide +kernel
theorem dX5_count_8 : decode cX5_count 8 = .ok (.iload_n 1, 1) := by decide +kernel
theorem dX5_count_9 : decode cX5_count 9 = .ok (.iload_n 2, 1) := by decide +kernel
theorem dX5_count_10 : decode cX5_count 10 = .ok (.iload_n 3, 1) := by decide +kernel
theorem dX5_count_11 : decode cX5_count 11 = .ok (.invokevirtual 219, 3) := by decide +kernel
theorem dX5_count_14 : decode cX5_count 14 = .ok (.invokestatic 207, 3) := by decide +kernel
theorem dX5_count_17 : decode cX5_count 17 = .ok (.ireturn, 1) := by decide +kernel
theorem dX5_match_0 : decode cX5_match 0 = .ok (.iload_n 1, 1) := by decide +kernel
theorem dX5_match_1 : decode cX5_match 1 = .ok (.ifCond .ge 13, 3) := by decide +kernel
theorem dX5_match_4 : decode cX5_match 4 = .ok (.new 99, 3) := by decide +kernel
theorem dX5_match_7 : decode cX5_match 7 = .ok (.dup, 1) := by decide +kernel
theorem dX5_match_8 : decode cX5_match 8 = .ok (.ldc 222, 2) := by decide +kernel
theorem dX5_match_10 : decode cX5_match 10 = .ok (.invokespecial 103, 3) := by decide +kernel
theorem dX5_match_13 : decode cX5_match 13 = .ok (.athrow, 1) := by decide +kernel
theorem dX5_match_14 : decode cX5_match 14 = .ok (.aload_n 0, 1) := by decide +kernel
theorem dX5_match_15 : decode cX5_match 15 = .ok (.iload_n 2, 1) := by decide +kernel
theorem dX5_match_16 : decode cX5_match 16 = .ok (.iload_n 3, 1) := by decide +kernel
theorem dX5_match_17 : decode cX5_match 17 = .ok (.iload 4, 2) := by decide +kernel
theorem dX5_match_19 : decode cX5_match 19 = .ok (.invokevirtual 215, 3) := by decide +kernel
theorem dX5_match_22 : decode cX5_match 22 = .ok (.aload_n 0, 1) := by decide +kernel
theorem dX5_match_23 : decode cX5_match 23 = .ok (.iload_n 2, 1) := by decide +kernel
theorem dX5_match_24 : decode cX5_match 24 = .ok (.iload_n 3, 1) := by decide +kernel
theorem dX5_match_25 : decode cX5_match 25 = .ok (.iload 4, 2) := by decide +kernel
theorem dX5_match_27 : decode cX5_match 27 = .ok (.invokevirtual 219, 3) := by decide +kernel
theorem dX5_match_30 : decode cX5_match 30 = .ok (.iload_n 1, 1) := by decide +kernel
theorem dX5_match_31 : decode cX5_match 31 = .ok (.invokestatic 224, 3) := by decide +kernel
theorem dX5_match_34 : decode cX5_match 34 = .ok (.istore 5, 2) := by decide +kernel
theorem dX5_match_36 : decode cX5_match 36 = .ok (.iload 5, 2) := by decide +kernel
theorem dX5_match_38 : decode cX5_match 38 = .ok (.iconst (-1), 1) := by decide +kernel
theorem dX5_match_39 : decode cX5_match 39 = .ok (.if_icmp .ne 13, 3) := by decide +kernel
theorem dX5_match_42 : decode cX5_match 42 = .ok (.new 99, 3) := by decide +kernel
theorem dX5_match_45 : decode cX5_match 45 = .ok (.dup, 1) := by decide +kernel
theorem dX5_match_46 : decode cX5_match 46 = .ok (.ldc 227, 2) := by decide +kernel
theorem dX5_match_48 : decode cX5_match 48 = .ok (.invokespecial 103, 3) := by decide +kernel
theorem dX5_match_51 : decode cX5_match 51 = .ok (.athrow, 1) := by decide +kernel
theorem dX5_match_52 : decode cX5_match 52 = .ok (.iload 5, 2) := by decide +kernel
theorem dX5_match_54 : decode cX5_match 54 = .ok (.ireturn, 1) := by decide +kernel
theorem dX5_needTag_0 : decode cX5_needTag 0 = .ok (.iload_n 1, 1) := by decide +kernel
theorem dX5_needTag_1 : decode cX5_needTag 1 = .ok (.ifCond .lt 14, 3) := by decide +kernel
theorem dX5_needTag_4 : decode cX5_needTag 4 = .ok (.iload_n 1, 1) := by decide +kernel
theorem dX5_needTag_5 : decode cX5_needTag 5 = .ok (.aload_n 0, 1) := by decide +kernel
theorem dX5_needTag_6 : decode cX5_needTag 6 = .ok (.getfield 10, 3) := by decide +kernel
theorem dX5_needTag_9 : decode cX5_needTag 9 = .ok (.getfield 77, 3) := by decide +kernel
theorem dX5_needTag_12 : decode cX5_needTag 12 = .ok (.if_icmp .lt 13, 3) := by decide +kernel
theorem dX5_needTag_15 : decode cX5_needTag 15 = .ok (.new 99, 3) := by decide +kernel
theorem dX5_needTag_18 : decode cX5_needTag 18 = .ok (.dup, 1) := by decide +kernel
theorem dX5_needTag_19 : decode cX5_needTag 19 = .ok (.ldc 229, 2) := by decide +kernel
theorem dX5_needTag_21 : decode cX5_needTag 21 = .ok (.invokespecial 103, 3) := by decide +kernel
theorem dX5_needTag_24 : decode cX5_needTag 24 = .ok (.athrow, 1) := by decide +kernel
theorem dX5_needTag_25 : decode cX5_needTag 25 = .ok (.return_, 1) := by decide +kernel
theorem dX5_needThing_0 : decode cX5_needThing 0 = .ok (.iload_n 1, 1) := by decide +kernel
theorem dX5_needThing_1 : decode cX5_needThing 1 = .ok (.ifCond .lt 14, 3) := by decide +kernel
theorem dX5_needThing_4 : decode cX5_needThing 4 = .ok (.iload_n 1, 1) := by decide +kernel
theorem dX5_needThing_5 : decode cX5_needThing 5 = .ok (.aload_n 0, 1) := by decide +kernel
theorem dX5_needThing_6 : decode cX5_needThing 6 = .ok (.getfield 36, 3) := by decide +kernel
theorem dX5_needThing_9 : decode cX5_needThing 9 = .ok (.getfield 108, 3) := by decide +kernel
theorem dX5_needThing_12 : decode cX5_needThing 12 = .ok (.if_icmp .lt 13, 3) := by decide +kernel
theorem dX5_needThing_15 : decode cX5_needThing 15 = .ok (.new 99, 3) := by decide +kernel
theorem dX5_needThing_18 : decode cX5_needThing 18 = .ok (.dup, 1) := by decide +kernel
theorem dX5_needThing_19 : decode cX5_needThing 19 = .ok (.ldc 231, 2) := by decide +kernel
theorem dX5_needThing_21 : decode cX5_needThing 21 = .ok (.invokespecial 103, 3) := by decide +kernel
theorem dX5_needThing_24 : decode cX5_needThing 24 = .ok (.athrow, 1) := by decide +kernel
theorem dX5_needThing_25 : decode cX5_needThing 25 = .ok (.return_, 1) := by decide +kernel
theorem dX5_needRequest_0 : decode cX5_needRequest 0 = .ok (.iload_n 1, 1) := by decide +kernel
theorem dX5_needRequest_1 : decode cX5_needRequest 1 = .ok (.ifCond .lt 14, 3) := by decide +kernel
theorem dX5_needRequest_4 : decode cX5_needRequest 4 = .ok (.iload_n 1, 1) := by decide +kernel
theorem dX5_needRequest_5 : decode cX5_needRequest 5 = .ok (.aload_n 0, 1) := by decide +kernel
theorem dX5_needRequest_6 : decode cX5_needRequest 6 = .ok (.getfield 29, 3) := by decide +kernel
theorem dX5_needRequest_9 : decode cX5_needRequest 9 = .ok (.getfield 159, 3) := by decide +kernel
theorem dX5_needRequest_12 : decode cX5_needRequest 12 = .ok (.if_icmp .lt 13, 3) := by decide +kernel
theorem dX5_needRequest_15 : decode cX5_needRequest 15 = .ok (.new 99, 3) := by decide +kernel
theorem dX5_needRequest_18 : decode cX5_needRequest 18 = .ok (.dup, 1) := by decide +kernel
theorem dX5_needRequest_19 : decode cX5_needRequest 19 = .ok (.ldc 233, 2) := by decide +kernel
theorem dX5_needRequest_21 : decode cX5_needRequest 21 = .ok (.invokespecial 103, 3) := by decide +kernel
theorem dX5_needRequest_24 : decode cX5_needRequest 24 = .ok (.athrow, 1) := by decide +kernel
theorem dX5_needRequest_25 : decode cX5_needRequest 25 = .ok (.return_, 1) := by decide +kernel
theorem dX5_needSets_0 : decode cX5_needSets 0 = .ok (.aload_n 0, 1) := by decide +kernel
theorem dX5_needSets_1 : decode cX5_needSets 1 = .ok (.iload_n 1, 1) := by decide +kernel
theorem dX5_needSets_2 : decode cX5_needSets 2 = .ok (.invokevirtual 235, 3) := by decide +kernel
theorem dX5_needSets_5 : decode cX5_needSets 5 = .ok (.ifCond .eq 19, 3) := by decide +kernel
theorem dX5_needSets_8 : decode cX5_needSets 8 = .ok (.aload_n 0, 1) := by decide +kernel
theorem dX5_needSets_9 : decode cX5_needSets 9 = .ok (.iload_n 2, 1) := by decide +kernel
theorem dX5_needSets_10 : decode cX5_needSets 10 = .ok (.invokevirtual 235, 3) := by decide +kernel
theorem dX5_needSets_13 : decode cX5_needSets 13 = .ok (.ifCond .eq 11, 3) := by decide +kernel
theorem dX5_needSets_16 : decode cX5_needSets 16 = .ok (.aload_n 0, 1) := by decide +kernel
theorem dX5_needSets_17 : decode cX5_needSets 17 = .ok (.iload_n 3, 1) := by decide +kernel
theorem dX5_needSets_18 : decode cX5_needSets 18 = .ok (.invokevirtual 235, 3) := by decide +kernel
theorem dX5_needSets_21 : decode cX5_needSets 21 = .ok (.ifCond .ne 13, 3) := by decide +kernel
theorem dX5_needSets_24 : decode cX5_needSets 24 = .ok (.new 51, 3) := by decide +kernel
theorem dX5_needSets_27 : decode cX5_needSets 27 = .ok (.dup, 1) := by decide +kernel
theorem dX5_needSets_28 : decode cX5_needSets 28 = .ok (.ldc 238, 2) := by decide +kernel
theorem dX5_needSets_30 : decode cX5_needSets 30 = .ok (.invokespecial 55, 3) := by decide +kernel
theorem dX5_needSets_33 : decode cX5_needSets 33 = .ok (.athrow, 1) := by decide +kernel
theorem dX5_needSets_34 : decode cX5_needSets 34 = .ok (.return_, 1) := by decide +kernel
theorem dX5_isTagSet_0 : decode cX5_isTagSet 0 = .ok (.iload_n 1, 1) := by decide +kernel
theorem dX5_isTagSet_1 : decode cX5_isTagSet 1 = .ok (.ifCond .lt 20, 3) := by decide +kernel
theorem dX5_isTagSet_4 : decode cX5_isTagSet 4 = .ok (.iload_n 1, 1) := by decide +kernel
theorem dX5_isTagSet_5 : decode cX5_isTagSet 5 = .ok (.iconst 1, 1) := by decide +kernel
theorem dX5_isTagSet_6 : decode cX5_isTagSet 6 = .ok (.aload_n 0, 1) := by decide +kernel
theorem dX5_isTagSet_7 : decode cX5_isTagSet 7 = .ok (.getfield 10, 3) := by decide +kernel
theorem dX5_isTagSet_10 : decode cX5_isTagSet 10 = .ok (.getfield 77, 3) := by decide +kernel
theorem dX5_isTagSet_13 : decode cX5_isTagSet 13 = .ok (.ishl, 1) := by decide +kernel
theorem dX5_isTagSet_14 : decode cX5_isTagSet 14 = .ok (.if_icmp .ge 7, 3) := by decide +kernel
theorem dX5_isTagSet_17 : decode cX5_isTagSet 17 = .ok (.iconst 1, 1) := by decide +kernel
theorem dX5_isTagSet_18 : decode cX5_isTagSet 18 = .ok (.goto 4, 3) := by decide +kernel
theorem dX5_isTagSet_21 : decode cX5_isTagSet 21 = .ok (.iconst 0, 1) := by decide +kernel
theorem dX5_isTagSet_22 : decode cX5_isTagSet 22 = .ok (.ireturn, 1) := by decide +kernel
theorem dX5_finishEdit_0 : decode cX5_finishEdit 0 = .ok (.aload_n 0, 1) := by decide +kernel
theorem dX5_finishEdit_1 : decode cX5_finishEdit 1 = .ok (.getfield 36, 3) := by decide +kernel
theorem dX5_finishEdit_4 : decode cX5_finishEdit 4 = .ok (.invokevirtual 240, 3) := by decide +kernel
theorem dX5_finishEdit_7 : decode cX5_finishEdit 7 = .ok (.istore_n 1, 1) := by decide +kernel
theorem dX5_finishEdit_8 : decode cX5_finishEdit 8 = .ok (.iload_n 1, 1) := by decide +kernel
theorem dX5_finishEdit_9 : decode cX5_finishEdit 9 = .ok (.ifCond .le 18, 3) := by decide +kernel
theorem dX5_finishEdit_12 : decode cX5_finishEdit 12 = .ok (.aload_n 0, 1) := by decide +kernel
theorem dX5_finishEdit_13 : decode cX5_finishEdit 13 = .ok (.getfield 43, 3) := by decide +kernel
theorem dX5_finishEdit_16 : decode cX5_finishEdit 16 = .ok (.aload_n 0, 1) := by decide +kernel
theorem dX5_finishEdit_17 : decode cX5_finishEdit 17 = .ok (.getfield 19, 3) := by decide +kernel
theorem dX5_finishEdit_20 : decode cX5_finishEdit 20 = .ok (.aload_n 0, 1) := by decide +kernel
theorem dX5_finishEdit_21 : decode cX5_finishEdit 21 = .ok (.getfield 36, 3) := by decide +kernel
theorem dX5_finishEdit_24 : decode cX5_finishEdit 24 = .ok (.invokevirtual 151, 3) := by decide +kernel
theorem dX5_finishEdit_27 : decode cX5_finishEdit 27 = .ok (.iload_n 1, 1) := by decide +kernel
theorem dX5_finishEdit_28 : decode cX5_finishEdit 28 = .ok (.ireturn, 1) := by decide +kernel
theorem dX5_decide_0 : decode cX5_decide 0 = .ok (.iload_n 2, 1) := by decide +kernel
theorem dX5_decide_1 : decode cX5_decide 1 = .ok (.iconst 3, 1) := by decide +kernel
theorem dX5_decide_2 : decode cX5_decide 2 = .ok (.if_icmp .lt 58, 3) := by decide +kernel
theorem dX5_decide_5 : decode cX5_decide 5 = .ok (.aload_n 0, 1) := by decide +kernel
theorem dX5_decide_6 : decode cX5_decide 6 = .ok (.getfield 29, 3) := by decide +kernel
theorem dX5_decide_9 : decode cX5_decide 9 = .ok (.aload_n 0, 1) := by decide +kernel
theorem dX5_decide_10 : decode cX5_decide 10 = .ok (.getfield 19, 3) := by decide +kernel
theorem dX5_decide_13 : decode cX5_decide 13 = .ok (.iload_n 1, 1) := by decide +kernel
theorem dX5_decide_14 : decode cX5_decide 14 = .ok (.invokevirtual 241, 3) := by decide +kernel
theorem dX5_decide_17 : decode cX5_decide 17 = .ok (.ifCond .eq 43, 3) := by decide +kernel
theorem dX5_decide_20 : decode cX5_decide 20 = .ok (.aload_n 0, 1) := by decide +kernel
theorem dX5_decide_21 : decode cX5_decide 21 = .ok (.getfield 29, 3) := by decide +kernel
theorem dX5_decide_24 : decode cX5_decide 24 = .ok (.getfield 171, 3) := by decide +kernel
theorem dX5_decide_27 : decode cX5_decide 27 = .ok (.iload_n 1, 1) := by decide +kernel
theorem dX5_decide_28 : decode cX5_decide 28 = .ok (.iconst 1, 1) := by decide +kernel
theorem dX5_decide_29 : decode cX5_decide 29 = .ok (.iastore, 1) := by decide +kernel
theorem dX5_decide_30 : decode cX5_decide 30 = .ok (.aload_n 0, 1) := by decide +kernel
theorem dX5_decide_31 : decode cX5_decide 31 = .ok (.getfield 29, 3) := by decide +kernel
theorem dX5_decide_34 : decode cX5_decide 34 = .ok (.aload_n 0, 1) := by decide +kernel
theorem dX5_decide_35 : decode cX5_decide 35 = .ok (.getfield 19, 3) := by decide +kernel
theorem dX5_decide_38 : decode cX5_decide 38 = .ok (.iload_n 1, 1) := by decide +kernel
theorem dX5_decide_39 : decode cX5_decide 39 = .ok (.invokevirtual 245, 3) := by decide +kernel
theorem dX5_decide_42 : decode cX5_decide 42 = .ok (.aload_n 0, 1) := by decide +kernel
theorem dX5_decide_43 : decode cX5_decide 43 = .ok (.getfield 43, 3) := by decide +kernel
theorem dX5_decide_46 : decode cX5_decide 46 = .ok (.aload_n 0, 1) := by decide +kernel
theorem dX5_decide_47 : decode cX5_decide 47 = .ok (.getfield 19, 3) := by decide +kernel
theorem dX5_decide_50 : decode cX5_decide 50 = .ok (.aload_n 0, 1) := by decide +kernel
theorem dX5_decide_51 : decode cX5_decide 51 = .ok (.getfield 36, 3) := by decide +kernel
theorem dX5_decide_54 : decode cX5_decide 54 = .ok (.invokevirtual 151, 3) := by decide +kernel
theorem dX5_decide_57 : decode cX5_decide 57 = .ok (.goto 21, 3) := by decide +kernel
theorem dX5_decide_60 : decode cX5_decide 60 = .ok (.iload_n 2, 1) := by decide +kernel
theorem dX5_decide_61 : decode cX5_decide 61 = .ok (.invokestatic 249, 3) := by decide +kernel
theorem dX5_decide_64 : decode cX5_decide 64 = .ok (.iconst 3, 1) := by decide +kernel
theorem dX5_decide_65 : decode cX5_decide 65 = .ok (.if_icmp .lt 13, 3) := by decide +kernel
theorem dX5_decide_68 : decode cX5_decide 68 = .ok (.aload_n 0, 1) := by decide +kernel
theorem dX5_decide_69 : decode cX5_decide 69 = .ok (.getfield 29, 3) := by decide +kernel
theorem dX5_decide_72 : decode cX5_decide 72 = .ok (.getfield 171, 3) := by decide +kernel
theorem dX5_decide_75 : decode cX5_decide 75 = .ok (.iload_n 1, 1) := by decide +kernel
theorem dX5_decide_76 : decode cX5_decide 76 = .ok (.iconst 2, 1) := by decide +kernel
theorem dX5_decide_77 : decode cX5_decide 77 = .ok (.iastore, 1) := by decide +kernel
theorem dX5_decide_78 : decode cX5_decide 78 = .ok (.return_, 1) := by decide +kernel
theorem dX5_isOpenAndAllowed_0 : decode cX5_isOpenAndAllowed 0 = .ok (.aload_n 0, 1) := by decide +kernel
theorem dX5_isOpenAndAllowed_1 : decode cX5_isOpenAndAllowed 1 = .ok (.getfield 29, 3) := by decide +kernel
theorem dX5_isOpenAndAllowed_4 : decode cX5_isOpenAndAllowed 4 = .ok (.getfield 171, 3) := by decide +kernel
theorem dX5_isOpenAndAllowed_7 : decode cX5_isOpenAndAllowed 7 = .ok (.iload_n 1, 1) := by decide +kernel
theorem dX5_isOpenAndAllowed_8 : decode cX5_isOpenAndAllowed 8 = .ok (.iaload, 1) := by decide +kernel
theorem dX5_isOpenAndAllowed_9 : decode cX5_isOpenAndAllowed 9 = .ok (.ifCond .ne 22, 3) := by decide +kernel
theorem dX5_isOpenAndAllowed_12 : decode cX5_isOpenAndAllowed 12 = .ok (.aload_n 0, 1) := by decide +kernel
theorem dX5_isOpenAndAllowed_13 : decode cX5_isOpenAndAllowed 13 = .ok (.getfield 29, 3) := by decide +kernel
theorem dX5_isOpenAndAllowed_16 : decode cX5_isOpenAndAllowed 16 = .ok (.aload_n 0, 1) := by decide +kernel
theorem dX5_isOpenAndAllowed_17 : decode cX5_isOpenAndAllowed 17 = .ok (.getfield 19, 3) := by decide +kernel
theorem dX5_isOpenAndAllowed_20 : decode cX5_isOpenAndAllowed 20 = .ok (.iload_n 1, 1) := by decide +kernel
theorem dX5_isOpenAndAllowed_21 : decode cX5_isOpenAndAllowed 21 = .ok (.invokevirtual 241, 3) := by decide +kernel
theorem dX5_isOpenAndAllowed_24 : decode cX5_isOpenAndAllowed 24 = .ok (.ifCond .eq 7, 3) := by decide +kernel
theorem dX5_isOpenAndAllowed_27 : decode cX5_isOpenAndAllowed 27 = .ok (.iconst 1, 1) := by decide +kernel
theorem dX5_isOpenAndAllowed_28 : decode cX5_isOpenAndAllowed 28 = .ok (.goto 4, 3) := by decide +kernel
theorem dX5_isOpenAndAllowed_31 : decode cX5_isOpenAndAllowed 31 = .ok (.iconst 0, 1) := by decide +kernel
theorem dX5_isOpenAndAllowed_32 : decode cX5_isOpenAndAllowed 32 = .ok (.ireturn, 1) := by decide +kernel
theorem dX5_isAllowedBehind_0 : decode cX5_isAllowedBehind 0 = .ok (.aload_n 0, 1) := by decide +kernel
theorem dX5_isAllowedBehind_1 : decode cX5_isAllowedBehind 1 = .ok (.getfield 23, 3) := by decide +kernel
theorem dX5_isAllowedBehind_4 : decode cX5_isAllowedBehind 4 = .ok (.aload_n 0, 1) := by decide +kernel
theorem dX5_isAllowedBehind_5 : decode cX5_isAllowedBehind 5 = .ok (.getfield 19, 3) := by decide +kernel
theorem dX5_isAllowedBehind_8 : decode cX5_isAllowedBehind 8 = .ok (.invokevirtual 254, 3) := by decide +kernel
theorem dX5_isAllowedBehind_11 : decode cX5_isAllowedBehind 11 = .ok (.aload_n 0, 1) := by decide +kernel
theorem dX5_isAllowedBehind_12 : decode cX5_isAllowedBehind 12 = .ok (.getfield 29, 3) := by decide +kernel
theorem dX5_isAllowedBehind_15 : decode cX5_isAllowedBehind 15 = .ok (.aload_n 0, 1) := by decide +kernel
theorem dX5_isAllowedBehind_16 : decode cX5_isAllowedBehind 16 = .ok (.getfield 23, 3) := by decide +kernel
theorem dX5_isAllowedBehind_19 : decode cX5_isAllowedBehind 19 = .ok (.iload_n 1, 1) := by decide +kernel
theorem dX5_isAllowedBehind_20 : decode cX5_isAllowedBehind 20 = .ok (.invokevirtual 245, 3) := by decide +kernel
theorem dX5_isAllowedBehind_23 : decode cX5_isAllowedBehind 23 = .ok (.aload_n 0, 1) := by decide +kernel
theorem dX5_isAllowedBehind_24 : decode cX5_isAllowedBehind 24 = .ok (.getfield 29, 3) := by decide +kernel
theorem dX5_isAllowedBehind_27 : decode cX5_isAllowedBehind 27 = .ok (.aload_n 0, 1) := by decide +kernel
theorem dX5_isAllowedBehind_28 : decode cX5_isAllowedBehind 28 = .ok (.getfield 23, 3) := by decide +kernel
theorem dX5_isAllowedBehind_31 : decode cX5_isAllowedBehind 31 = .ok (.iload_n 2, 1) := by decide +kernel
theorem dX5_isAllowedBehind_32 : decode cX5_isAllowedBehind 32 = .ok (.invokevirtual 241, 3) := by decide +kernel
theorem dX5_isAllowedBehind_35 : decode cX5_isAllowedBehind 35 = .ok (.ireturn, 1) := by decide +kernel
theorem dX5_matching_0 : decode cX5_matching 0 = .ok (.iconst 1, 1) := by decide +kernel
theorem dX5_matching_1 : decode cX5_matching 1 = .ok (.aload_n 0, 1) := by decide +kernel
theorem dX5_matching_2 : decode cX5_matching 2 = .ok (.getfield 36, 3) := by decide +kernel
theorem dX5_matching_5 : decode cX5_matching 5 = .ok (.getfield 108, 3) := by decide +kernel
theorem dX5_matching_8 : decode cX5_matching 8 = .ok (.ishl, 1) := by decide +kernel
theorem dX5_matching_9 : decode cX5_matching 9 = .ok (.iconst 1, 1) := by decide +kernel
theorem dX5_matching_10 : decode cX5_matching 10 = .ok (.isub, 1) := by decide +kernel
theorem dX5_matching_11 : decode cX5_matching 11 = .ok (.istore 4, 2) := by decide +kernel
theorem dX5_matching_13 : decode cX5_matching 13 = .ok (.iload_n 2, 1) := by decide +kernel
theorem dX5_matching_14 : decode cX5_matching 14 = .ok (.ifCond .ne 8, 3) := by decide +kernel
theorem dX5_matching_17 : decode cX5_matching 17 = .ok (.iload 4, 2) := by decide +kernel
theorem dX5_matching_19 : decode cX5_matching 19 = .ok (.goto 4, 3) := by decide +kernel
theorem dX5_matching_22 : decode cX5_matching 22 = .ok (.iconst 0, 1) := by decide +kernel
theorem dX5_matching_23 : decode cX5_matching 23 = .ok (.istore 5, 2) := by decide +kernel
theorem dX5_matching_25 : decode cX5_matching 25 = .ok (.iconst 0, 1) := by decide +kernel
theorem dX5_matching_26 : decode cX5_matching 26 = .ok (.istore 6, 2) := by decide +kernel
theorem dX5_matching_28 : decode cX5_matching 28 = .ok (.iload 6, 2) := by decide +kernel
theorem dX5_matching_30 : decode cX5_matching 30 = .ok (.aload_n 0, 1) := by decide +kernel
theorem dX5_matching_31 : decode cX5_matching 31 = .ok (.getfield 10, 3) := by decide +kernel
theorem dX5_matching_34 : decode cX5_matching 34 = .ok (.getfield 77, 3) := by decide +kernel
theorem dX5_matching_37 : decode cX5_matching 37 = .ok (.if_icmp .ge 78, 3) := by decide +kernel
theorem dX5_matching_40 : decode cX5_matching 40 = .ok (.aload_n 0, 1) := by decide +kernel
theorem dX5_matching_41 : decode cX5_matching 41 = .ok (.getfield 43, 3) := by decide +kernel
theorem dX5_matching_44 : decode cX5_matching 44 = .ok (.getfield 125, 3) := by decide +kernel
theorem dX5_matching_47 : decode cX5_matching 47 = .ok (.aload_n 0, 1) := by decide +kernel
theorem dX5_matching_48 : decode cX5_matching 48 = .ok (.getfield 19, 3) := by decide +kernel
theorem dX5_matching_51 : decode cX5_matching 51 = .ok (.iload 6, 2) := by decide +kernel
theorem dX5_matching_53 : decode cX5_matching 53 = .ok (.invokevirtual 128, 3) := by decide +kernel
theorem dX5_matching_56 : decode cX5_matching 56 = .ok (.iaload, 1) := by decide +kernel
theorem dX5_matching_57 : decode cX5_matching 57 = .ok (.istore 7, 2) := by decide +kernel
theorem dX5_matching_59 : decode cX5_matching 59 = .ok (.iload_n 1, 1) := by decide +kernel
theorem dX5_matching_60 : decode cX5_matching 60 = .ok (.iload 6, 2) := by decide +kernel
theorem dX5_matching_62 : decode cX5_matching 62 = .ok (.invokestatic 135, 3) := by decide +kernel
theorem dX5_matching_65 : decode cX5_matching 65 = .ok (.ifCond .eq 10, 3) := by decide +kernel
theorem dX5_matching_68 : decode cX5_matching 68 = .ok (.iload 4, 2) := by decide +kernel
theorem dX5_matching_70 : decode cX5_matching 70 = .ok (.iload 7, 2) := by decide +kernel
theorem dX5_matching_72 : decode cX5_matching 72 = .ok (.iand, 1) := by decide +kernel
theorem dX5_matching_73 : decode cX5_matching 73 = .ok (.istore 4, 2) := by decide +kernel
theorem dX5_matching_75 : decode cX5_matching 75 = .ok (.iload_n 2, 1) := by decide +kernel
theorem dX5_matching_76 : decode cX5_matching 76 = .ok (.iload 6, 2) := by decide +kernel
theorem dX5_matching_78 : decode cX5_matching 78 = .ok (.invokestatic 135, 3) := by decide +kernel
theorem dX5_matching_81 : decode cX5_matching 81 = .ok (.ifCond .eq 10, 3) := by decide +kernel
theorem dX5_matching_84 : decode cX5_matching 84 = .ok (.iload 5, 2) := by decide +kernel
theorem dX5_matching_86 : decode cX5_matching 86 = .ok (.iload 7, 2) := by decide +kernel
theorem dX5_matching_88 : decode cX5_matching 88 = .ok (.ior, 1) := by decide +kernel
theorem dX5_matching_89 : decode cX5_matching 89 = .ok (.istore 5, 2) := by decide +kernel
theorem dX5_matching_91 : decode cX5_matching 91 = .ok (.iload_n 3, 1) := by decide +kernel
theorem dX5_matching_92 : decode cX5_matching 92 = .ok (.iload 6, 2) := by decide +kernel
theorem dX5_matching_94 : decode cX5_matching 94 = .ok (.invokestatic 135, 3) := by decide +kernel
theorem dX5_matching_97 : decode cX5_matching 97 = .ok (.ifCond .eq 12, 3) := by decide +kernel
theorem dX5_matching_100 : decode cX5_matching 100 = .ok (.iload 4, 2) := by decide +kernel
theorem dX5_matching_102 : decode cX5_matching 102 = .ok (.iload 7, 2) := by decide +kernel
theorem dX5_matching_104 : decode cX5_matching 104 = .ok (.iconst (-1), 1) := by decide +kernel
theorem dX5_matching_105 : decode cX5_matching 105 = .ok (.ixor, 1) := by decide +kernel
theorem dX5_matching_106 : decode cX5_matching 106 = .ok (.iand, 1) := by decide +kernel
theorem dX5_matching_107 : decode cX5_matching 107 = .ok (.istore 4, 2) := by decide +kernel
theorem dX5_matching_109 : decode cX5_matching 109 = .ok (.iinc 6 1, 3) := by decide +kernel
theorem dX5_matching_112 : decode cX5_matching 112 = .ok (.goto (-84), 3) := by decide +kernel
theorem dX5_matching_115 : decode cX5_matching 115 = .ok (.iload 4, 2) := by decide +kernel
theorem dX5_matching_117 : decode cX5_matching 117 = .ok (.iload 5, 2) := by decide +kernel
theorem dX5_matching_119 : decode cX5_matching 119 = .ok (.iand, 1) := by decide +kernel
theorem dX5_matching_120 : decode cX5_matching 120 = .ok (.ireturn, 1) := by decide +kernel
theorem dX5_memberAt_0 : decode cX5_memberAt 0 = .ok (.iconst 0, 1) := by decide +kernel
theorem dX5_memberAt_1 : decode cX5_memberAt 1 = .ok (.istore_n 2, 1) := by decide +kernel
theorem dX5_memberAt_2 : decode cX5_memberAt 2 = .ok (.iconst 0, 1) := by decide +kernel
theorem dX5_memberAt_3 : decode cX5_memberAt 3 = .ok (.istore_n 3, 1) := by decide +kernel
theorem dX5_memberAt_4 : decode cX5_memberAt 4 = .ok (.iload_n 3, 1) := by decide +kernel
theorem dX5_memberAt_5 : decode cX5_memberAt 5 = .ok (.bipush 20, 2) := by decide +kernel
theorem dX5_memberAt_7 : decode cX5_memberAt 7 = .ok (.if_icmp .ge 27, 3) := by decide +kernel
theorem dX5_memberAt_10 : decode cX5_memberAt 10 = .ok (.iload_n 0, 1) := by decide +kernel
theorem dX5_memberAt_11 : decode cX5_memberAt 11 = .ok (.iload_n 3, 1) := by decide +kernel
theorem dX5_memberAt_12 : decode cX5_memberAt 12 = .ok (.invokestatic 135, 3) := by decide +kernel
theorem dX5_memberAt_15 : decode cX5_memberAt 15 = .ok (.ifCond .eq 13, 3) := by decide +kernel
theorem dX5_memberAt_18 : decode cX5_memberAt 18 = .ok (.iload_n 2, 1) := by decide +kernel
theorem dX5_memberAt_19 : decode cX5_memberAt 19 = .ok (.iload_n 1, 1) := by decide +kernel
theorem dX5_memberAt_20 : decode cX5_memberAt 20 = .ok (.if_icmp .ne 5, 3) := by decide +kernel
theorem dX5_memberAt_23 : decode cX5_memberAt 23 = .ok (.iload_n 3, 1) := by decide +kernel
theorem dX5_memberAt_24 : decode cX5_memberAt 24 = .ok (.ireturn, 1) := by decide +kernel
theorem dX5_memberAt_25 : decode cX5_memberAt 25 = .ok (.iinc 2 1, 3) := by decide +kernel
theorem dX5_memberAt_28 : decode cX5_memberAt 28 = .ok (.iinc 3 1, 3) := by decide +kernel
theorem dX5_memberAt_31 : decode cX5_memberAt 31 = .ok (.goto (-27), 3) := by decide +kernel
theorem dX5_memberAt_34 : decode cX5_memberAt 34 = .ok (.iconst (-1), 1) := by decide +kernel
theorem dX5_memberAt_35 : decode cX5_memberAt 35 = .ok (.ireturn, 1) := by decide +kernel
theorem dX5_massEdited_0 : decode cX5_massEdited 0 = .ok (.iload_n 0, 1) := by decide +kernel
theorem dX5_massEdited_1 : decode cX5_massEdited 1 = .ok (.lookupswitch 41 #[(0, 27), (1, 33)], 27) := by decide +kernel
theorem dX5_massEdited_28 : decode cX5_massEdited 28 = .ok (.iload_n 1, 1) := by decide +kernel
theorem dX5_massEdited_29 : decode cX5_massEdited 29 = .ok (.iconst 1, 1) := by decide +kernel
theorem dX5_massEdited_30 : decode cX5_massEdited 30 = .ok (.iload_n 3, 1) := by decide +kernel
theorem dX5_massEdited_31 : decode cX5_massEdited 31 = .ok (.ishl, 1) := by decide +kernel
theorem dX5_massEdited_32 : decode cX5_massEdited 32 = .ok (.ior, 1) := by decide +kernel
theorem dX5_massEdited_33 : decode cX5_massEdited 33 = .ok (.ireturn, 1) := by decide +kernel
theorem dX5_massEdited_34 : decode cX5_massEdited 34 = .ok (.iload_n 1, 1) := by decide +kernel
theorem dX5_massEdited_35 : decode cX5_massEdited 35 = .ok (.iconst 1, 1) := by decide +kernel
theorem dX5_massEdited_36 : decode cX5_massEdited 36 = .ok (.iload_n 3, 1) := by decide +kernel
theorem dX5_massEdited_37 : decode cX5_massEdited 37 = .ok (.ishl, 1) := by decide +kernel
theorem dX5_massEdited_38 : decode cX5_massEdited 38 = .ok (.iconst (-1), 1) := by decide +kernel
theorem dX5_massEdited_39 : decode cX5_massEdited 39 = .ok (.ixor, 1) := by decide +kernel
theorem dX5_massEdited_40 : decode cX5_massEdited 40 = .ok (.iand, 1) := by decide +kernel
theorem dX5_massEdited_41 : decode cX5_massEdited 41 = .ok (.ireturn, 1) := by decide +kernel
theorem dX5_massEdited_42 : decode cX5_massEdited 42 = .ok (.iload_n 1, 1) := by decide +kernel
theorem dX5_massEdited_43 : decode cX5_massEdited 43 = .ok (.iconst 1, 1) := by decide +kernel
theorem dX5_massEdited_44 : decode cX5_massEdited 44 = .ok (.iload_n 2, 1) := by decide +kernel
theorem dX5_massEdited_45 : decode cX5_massEdited 45 = .ok (.ishl, 1) := by decide +kernel
theorem dX5_massEdited_46 : decode cX5_massEdited 46 = .ok (.iconst (-1), 1) := by decide +kernel
theorem dX5_massEdited_47 : decode cX5_massEdited 47 = .ok (.ixor, 1) := by decide +kernel
theorem dX5_massEdited_48 : decode cX5_massEdited 48 = .ok (.iand, 1) := by decide +kernel
theorem dX5_massEdited_49 : decode cX5_massEdited 49 = .ok (.iconst 1, 1) := by decide +kernel
theorem dX5_massEdited_50 : decode cX5_massEdited 50 = .ok (.iload_n 3, 1) := by decide +kernel
theorem dX5_massEdited_51 : decode cX5_massEdited 51 = .ok (.ishl, 1) := by decide +kernel
theorem dX5_massEdited_52 : decode cX5_massEdited 52 = .ok (.ior, 1) := by decide +kernel
theorem dX5_massEdited_53 : decode cX5_massEdited 53 = .ok (.ireturn, 1) := by decide +kernel
theorem dX5_has_0 : decode cX5_has 0 = .ok (.iload_n 0, 1) := by decide +kernel
theorem dX5_has_1 : decode cX5_has 1 = .ok (.iload_n 1, 1) := by decide +kernel
theorem dX5_has_2 : decode cX5_has 2 = .ok (.ishr, 1) := by decide +kernel
theorem dX5_has_3 : decode cX5_has 3 = .ok (.iconst 1, 1) := by decide +kernel
theorem dX5_has_4 : decode cX5_has 4 = .ok (.iand, 1) := by decide +kernel
theorem dX5_has_5 : decode cX5_has 5 = .ok (.iconst 1, 1) := by decide +kernel
theorem dX5_has_6 : decode cX5_has 6 = .ok (.if_icmp .ne 7, 3) := by decide +kernel
theorem dX5_has_9 : decode cX5_has 9 = .ok (.iconst 1, 1) := by decide +kernel
theorem dX5_has_10 : decode cX5_has 10 = .ok (.goto 4, 3) := by decide +kernel
theorem dX5_has_13 : decode cX5_has 13 = .ok (.iconst 0, 1) := by decide +kernel
theorem dX5_has_14 : decode cX5_has 14 = .ok (.ireturn, 1) := by decide +kernel
theorem dX5_isNameCharacter_0 : decode cX5_isNameCharacter 0 = .ok (.iload_n 0, 1) := by decide +kernel
theorem dX5_isNameCharacter_1 : decode cX5_isNameCharacter 1 = .ok (.bipush 97, 2) := by decide +kernel
theorem dX5_isNameCharacter_3 : decode cX5_isNameCharacter 3 = .ok (.if_icmp .lt 9, 3) := by decide +kernel
theorem dX5_isNameCharacter_6 : decode cX5_isNameCharacter 6 = .ok (.iload_n 0, 1) := by decide +kernel
theorem dX5_isNameCharacter_7 : decode cX5_isNameCharacter 7 = .ok (.bipush 122, 2) := by decide +kernel
theorem dX5_isNameCharacter_9 : decode cX5_isNameCharacter 9 = .ok (.if_icmp .le 27, 3) := by decide +kernel
theorem dX5_isNameCharacter_12 : decode cX5_isNameCharacter 12 = .ok (.iload_n 0, 1) := by decide +kernel
theorem dX5_isNameCharacter_13 : decode cX5_isNameCharacter 13 = .ok (.bipush 65, 2) := by decide +kernel
theorem dX5_isNameCharacter_15 : decode cX5_isNameCharacter 15 = .ok (.if_icmp .lt 9, 3) := by decide +kernel
theorem dX5_isNameCharacter_18 : decode cX5_isNameCharacter 18 = .ok (.iload_n 0, 1) := by decide +kernel
theorem dX5_isNameCharacter_19 : decode cX5_isNameCharacter 19 = .ok (.bipush 90, 2) := by decide +kernel
theorem dX5_isNameCharacter_21 : decode cX5_isNameCharacter 21 = .ok (.if_icmp .le 15, 3) := by decide +kernel
theorem dX5_isNameCharacter_24 : decode cX5_isNameCharacter 24 = .ok (.iload_n 0, 1) := by decide +kernel
theorem dX5_isNameCharacter_25 : decode cX5_isNameCharacter 25 = .ok (.bipush 45, 2) := by decide +kernel
theorem dX5_isNameCharacter_27 : decode cX5_isNameCharacter 27 = .ok (.if_icmp .eq 9, 3) := by decide +kernel
theorem dX5_isNameCharacter_30 : decode cX5_isNameCharacter 30 = .ok (.iload_n 0, 1) := by decide +kernel
theorem dX5_isNameCharacter_31 : decode cX5_isNameCharacter 31 = .ok (.bipush 95, 2) := by decide +kernel
theorem dX5_isNameCharacter_33 : decode cX5_isNameCharacter 33 = .ok (.if_icmp .ne 7, 3) := by decide +kernel
theorem dX5_isNameCharacter_36 : decode cX5_isNameCharacter 36 = .ok (.iconst 1, 1) := by decide +kernel
theorem dX5_isNameCharacter_37 : decode cX5_isNameCharacter 37 = .ok (.goto 4, 3) := by decide +kernel
theorem dX5_isNameCharacter_40 : decode cX5_isNameCharacter 40 = .ok (.iconst 0, 1) := by decide +kernel
theorem dX5_isNameCharacter_41 : decode cX5_isNameCharacter 41 = .ok (.ireturn, 1) := by decide +kernel
theorem dJ6_bitCount_0f7a4_0 : decode cJ6_bitCount_0f7a4 0 = .ok (.iload_n 0, 1) := by decide +kernel
theorem dJ6_bitCount_0f7a4_1 : decode cJ6_bitCount_0f7a4 1 = .ok (.iload_n 0, 1) := by decide +kernel
theorem dJ6_bitCount_0f7a4_2 : decode cJ6_bitCount_0f7a4 2 = .ok (.iconst 1, 1) := by decide +kernel
theorem dJ6_bitCount_0f7a4_3 : decode cJ6_bitCount_0f7a4 3 = .ok (.iushr, 1) := by decide +kernel
theorem dJ6_bitCount_0f7a4_4 : decode cJ6_bitCount_0f7a4 4 = .ok (.ldc_w 265, 3) := by decide +kernel
theorem dJ6_bitCount_0f7a4_7 : decode cJ6_bitCount_0f7a4 7 = .ok (.iand, 1) := by decide +kernel
theorem dJ6_bitCount_0f7a4_8 : decode cJ6_bitCount_0f7a4 8 = .ok (.isub, 1) := by decide +kernel
theorem dJ6_bitCount_0f7a4_9 : decode cJ6_bitCount_0f7a4 9 = .ok (.istore_n 0, 1) := by decide +kernel
theorem dJ6_bitCount_0f7a4_10 : decode cJ6_bitCount_0f7a4 10 = .ok (.iload_n 0, 1) := by decide +kernel
theorem dJ6_bitCount_0f7a4_11 : decode cJ6_bitCount_0f7a4 11 = .ok (.ldc_w 266, 3) := by decide +kernel
theorem dJ6_bitCount_0f7a4_14 : decode cJ6_bitCount_0f7a4 14 = .ok (.iand, 1) := by decide +kernel
theorem dJ6_bitCount_0f7a4_15 : decode cJ6_bitCount_0f7a4 15 = .ok (.iload_n 0, 1) := by decide +kernel
theorem dJ6_bitCount_0f7a4_16 : decode cJ6_bitCount_0f7a4 16 = .ok (.iconst 2, 1) := by decide +kernel
theorem dJ6_bitCount_0f7a4_17 : decode cJ6_bitCount_0f7a4 17 = .ok (.iushr, 1) := by decide +kernel
theorem dJ6_bitCount_0f7a4_18 : decode cJ6_bitCount_0f7a4 18 = .ok (.ldc_w 266, 3) := by decide +kernel
theorem dJ6_bitCount_0f7a4_21 : decode cJ6_bitCount_0f7a4 21 = .ok (.iand, 1) := by decide +kernel
theorem dJ6_bitCount_0f7a4_22 : decode cJ6_bitCount_0f7a4 22 = .ok (.iadd, 1) := by decide +kernel
theorem dJ6_bitCount_0f7a4_23 : decode cJ6_bitCount_0f7a4 23 = .ok (.istore_n 0, 1) := by decide +kernel
theorem dJ6_bitCount_0f7a4_24 : decode cJ6_bitCount_0f7a4 24 = .ok (.iload_n 0, 1) := by decide +kernel
theorem dJ6_bitCount_0f7a4_25 : decode cJ6_bitCount_0f7a4 25 = .ok (.iload_n 0, 1) := by decide +kernel
theorem dJ6_bitCount_0f7a4_26 : decode cJ6_bitCount_0f7a4 26 = .ok (.iconst 4, 1) := by decide +kernel
theorem dJ6_bitCount_0f7a4_27 : decode cJ6_bitCount_0f7a4 27 = .ok (.iushr, 1) := by decide +kernel
theorem dJ6_bitCount_0f7a4_28 : decode cJ6_bitCount_0f7a4 28 = .ok (.iadd, 1) := by decide +kernel
theorem dJ6_bitCount_0f7a4_29 : decode cJ6_bitCount_0f7a4 29 = .ok (.ldc_w 267, 3) := by decide +kernel
theorem dJ6_bitCount_0f7a4_32 : decode cJ6_bitCount_0f7a4 32 = .ok (.iand, 1) := by decide +kernel
theorem dJ6_bitCount_0f7a4_33 : decode cJ6_bitCount_0f7a4 33 = .ok (.istore_n 0, 1) := by decide +kernel
theorem dJ6_bitCount_0f7a4_34 : decode cJ6_bitCount_0f7a4 34 = .ok (.iload_n 0, 1) := by decide +kernel
theorem dJ6_bitCount_0f7a4_35 : decode cJ6_bitCount_0f7a4 35 = .ok (.iload_n 0, 1) := by decide +kernel
theorem dJ6_bitCount_0f7a4_36 : decode cJ6_bitCount_0f7a4 36 = .ok (.bipush 8, 2) := by decide +kernel
theorem dJ6_bitCount_0f7a4_38 : decode cJ6_bitCount_0f7a4 38 = .ok (.iushr, 1) := by decide +kernel
theorem dJ6_bitCount_0f7a4_39 : decode cJ6_bitCount_0f7a4 39 = .ok (.iadd, 1) := by decide +kernel
theorem dJ6_bitCount_0f7a4_40 : decode cJ6_bitCount_0f7a4 40 = .ok (.istore_n 0, 1) := by decide +kernel
theorem dJ6_bitCount_0f7a4_41 : decode cJ6_bitCount_0f7a4 41 = .ok (.iload_n 0, 1) := by decide +kernel
theorem dJ6_bitCount_0f7a4_42 : decode cJ6_bitCount_0f7a4 42 = .ok (.iload_n 0, 1) := by decide +kernel
theorem dJ6_bitCount_0f7a4_43 : decode cJ6_bitCount_0f7a4 43 = .ok (.bipush 16, 2) := by decide +kernel
theorem dJ6_bitCount_0f7a4_45 : decode cJ6_bitCount_0f7a4 45 = .ok (.iushr, 1) := by decide +kernel
theorem dJ6_bitCount_0f7a4_46 : decode cJ6_bitCount_0f7a4 46 = .ok (.iadd, 1) := by decide +kernel
theorem dJ6_bitCount_0f7a4_47 : decode cJ6_bitCount_0f7a4 47 = .ok (.istore_n 0, 1) := by decide +kernel
theorem dJ6_bitCount_0f7a4_48 : decode cJ6_bitCount_0f7a4 48 = .ok (.iload_n 0, 1) := by decide +kernel
theorem dJ6_bitCount_0f7a4_49 : decode cJ6_bitCount_0f7a4 49 = .ok (.bipush 63, 2) := by decide +kernel
theorem dJ6_bitCount_0f7a4_51 : decode cJ6_bitCount_0f7a4 51 = .ok (.iand, 1) := by decide +kernel
theorem dJ6_bitCount_0f7a4_52 : decode cJ6_bitCount_0f7a4 52 = .ok (.ireturn, 1) := by decide +kernel
theorem dJ9_abs_0f7a4_0 : decode cJ9_abs_0f7a4 0 = .ok (.iload_n 0, 1) := by decide +kernel
theorem dJ9_abs_0f7a4_1 : decode cJ9_abs_0f7a4 1 = .ok (.ifCond .ge 8, 3) := by decide +kernel
theorem dJ9_abs_0f7a4_4 : decode cJ9_abs_0f7a4 4 = .ok (.iload_n 0, 1) := by decide +kernel
theorem dJ9_abs_0f7a4_5 : decode cJ9_abs_0f7a4 5 = .ok (.ineg, 1) := by decide +kernel
theorem dJ9_abs_0f7a4_6 : decode cJ9_abs_0f7a4 6 = .ok (.goto 4, 3) := by decide +kernel
theorem dJ9_abs_0f7a4_9 : decode cJ9_abs_0f7a4 9 = .ok (.iload_n 0, 1) := by decide +kernel
theorem dJ9_abs_0f7a4_10 : decode cJ9_abs_0f7a4 10 = .ok (.ireturn, 1) := by decide +kernel
theorem dJ9_min_7cf53_0 : decode cJ9_min_7cf53 0 = .ok (.iload_n 0, 1) := by decide +kernel
theorem dJ9_min_7cf53_1 : decode cJ9_min_7cf53 1 = .ok (.iload_n 1, 1) := by decide +kernel
theorem dJ9_min_7cf53_2 : decode cJ9_min_7cf53 2 = .ok (.if_icmp .gt 7, 3) := by decide +kernel
theorem dJ9_min_7cf53_5 : decode cJ9_min_7cf53 5 = .ok (.iload_n 0, 1) := by decide +kernel
theorem dJ9_min_7cf53_6 : decode cJ9_min_7cf53 6 = .ok (.goto 4, 3) := by decide +kernel
theorem dJ9_min_7cf53_9 : decode cJ9_min_7cf53 9 = .ok (.iload_n 1, 1) := by decide +kernel
theorem dJ9_min_7cf53_10 : decode cJ9_min_7cf53 10 = .ok (.ireturn, 1) := by decide +kernel
abbrev vwCl : List vw_C := [(RX0, TX0, 7), (RX1, TX1, 5), (RX2, TX2, 7), (RX3, TX3, 1), (RX4, TX4, 5), (RX5, TX5, 6)]
