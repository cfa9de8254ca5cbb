/-! ===== BEGIN printed: names, fields, word lists, decode rows ===== -/
def RX0 : String := "ClashBoxes$Part"
def TX0 : u_T := fun k => match k with
  | 0 => ("ClashBoxes$Part", "kind", "I", true)
  | 1 => ("ClashBoxes$Part", "tubeAxis", "I", true)
  | 2 => ("ClashBoxes$Part", "radius", "I", true)
  | 3 => ("ClashBoxes$Part", "least", "[I", true)
  | 4 => ("ClashBoxes$Part", "greatest", "[I", true)
  | _ => ("ClashBoxes$Part", "softSpace", "I", false)
def tyX0 : Nat → FieldType := fun k => match k with
  | 0 => .int
  | 1 => .int
  | 2 => .int
  | 3 => .array .int
  | 4 => .array .int
  | _ => .int
abbrev wsX00 : List Cond := u_ws RX0 TX0 6
theorem nmX0 : ∀ a, a < 6 → ∀ b, b < 6 → a ≠ b → (TX0 a).2.1 ≠ (TX0 b).2.1 := by decide +kernel
theorem tyX0_ok : ∀ k, k < 6 → parseFieldDescriptor (TX0 k).2.2.1 = some (tyX0 k) := by decide +kernel
abbrev cX0_init : ByteArray := prog_2_method_1_code
def yX0_init : MethodName := ⟨RX0, "<init>", "(III)V"⟩
abbrev cX0_setCore : ByteArray := prog_2_method_2_code
def yX0_setCore : MethodName := ⟨RX0, "setCore", "(III)V"⟩
abbrev cX0_isTube : ByteArray := prog_2_method_3_code
def yX0_isTube : MethodName := ⟨RX0, "isTube", "()Z"⟩
abbrev cX0_hullLeast : ByteArray := prog_2_method_4_code
def yX0_hullLeast : MethodName := ⟨RX0, "hullLeast", "(I)I"⟩
abbrev cX0_hullGreatest : ByteArray := prog_2_method_5_code
def yX0_hullGreatest : MethodName := ⟨RX0, "hullGreatest", "(I)I"⟩
abbrev cX0_staysInSpace : ByteArray := prog_2_method_6_code
def yX0_staysInSpace : MethodName := ⟨RX0, "staysInSpace", "(II)Z"⟩
def RX1 : String := "ClashBoxes"
def TX1 : u_T := fun k => match k with
  | 0 => ("ClashBoxes", "row", "[LClashBoxes$Part;", true)
  | 1 => ("ClashBoxes", "freeKinds", "[Z", true)
  | 2 => ("ClashBoxes", "made", "I", false)
  | 3 => ("ClashBoxes", "left", "I", false)
  | 4 => ("ClashBoxes", "names", "[I", true)
  | 5 => ("ClashBoxes", "sizes", "[I", true)
  | 6 => ("ClashBoxes", "blockLeast", "[I", true)
  | _ => ("ClashBoxes", "blockGreatest", "[I", true)
def tyX1 : Nat → FieldType := fun k => match k with
  | 0 => .array (.object "ClashBoxes$Part")
  | 1 => .array .boolean
  | 2 => .int
  | 3 => .int
  | 4 => .array .int
  | 5 => .array .int
  | 6 => .array .int
  | _ => .array .int
abbrev wsX10 : List Cond := u_ws RX1 TX1 8
theorem nmX1 : ∀ a, a < 8 → ∀ b, b < 8 → a ≠ b → (TX1 a).2.1 ≠ (TX1 b).2.1 := by decide +kernel
theorem tyX1_ok : ∀ k, k < 8 → parseFieldDescriptor (TX1 k).2.2.1 = some (tyX1 k) := by decide +kernel
abbrev cX1_init : ByteArray := prog_1_method_1_code
def yX1_init : MethodName := ⟨RX1, "<init>", "()V"⟩
abbrev cX1_box : ByteArray := prog_1_method_2_code
def yX1_box : MethodName := ⟨RX1, "box", "(IIIIIII)I"⟩
abbrev cX1_tube : ByteArray := prog_1_method_3_code
def yX1_tube : MethodName := ⟨RX1, "tube", "(IIIIIII)I"⟩
abbrev cX1_margin : ByteArray := prog_1_method_4_code
def yX1_margin : MethodName := ⟨RX1, "margin", "(II)I"⟩
abbrev cX1_free : ByteArray := prog_1_method_5_code
def yX1_free : MethodName := ⟨RX1, "free", "(IIZ)Z"⟩
abbrev cX1_move : ByteArray := prog_1_method_6_code
def yX1_move : MethodName := ⟨RX1, "move", "(III)Z"⟩
abbrev cX1_drop : ByteArray := prog_1_method_7_code
def yX1_drop : MethodName := ⟨RX1, "drop", "(I)I"⟩
abbrev cX1_pair : ByteArray := prog_1_method_8_code
def yX1_pair : MethodName := ⟨RX1, "pair", "(II)I"⟩
abbrev cX1_clashes : ByteArray := prog_1_method_9_code
def yX1_clashes : MethodName := ⟨RX1, "clashes", "(I)I"⟩
abbrev cX1_clash : ByteArray := prog_1_method_10_code
def yX1_clash : MethodName := ⟨RX1, "clash", "(III)I"⟩
abbrev cX1_groups : ByteArray := prog_1_method_11_code
def yX1_groups : MethodName := ⟨RX1, "groups", "()I"⟩
abbrev cX1_group : ByteArray := prog_1_method_12_code
def yX1_group : MethodName := ⟨RX1, "group", "(I)I"⟩
abbrev cX1_common : ByteArray := prog_1_method_13_code
def yX1_common : MethodName := ⟨RX1, "common", "(II)J"⟩
abbrev cX1_inside : ByteArray := prog_1_method_14_code
def yX1_inside : MethodName := ⟨RX1, "inside", "(IIIIIII)I"⟩
abbrev cX1_shift : ByteArray := prog_1_method_15_code
def yX1_shift : MethodName := ⟨RX1, "shift", "(III)I"⟩
abbrev cX1_hull : ByteArray := prog_1_method_16_code
def yX1_hull : MethodName := ⟨RX1, "hull", "(III)I"⟩
abbrev cX1_parts : ByteArray := prog_1_method_17_code
def yX1_parts : MethodName := ⟨RX1, "parts", "()I"⟩
abbrev cX1_need : ByteArray := prog_1_method_18_code
def yX1_need : MethodName := ⟨RX1, "need", "(Z)V"⟩
abbrev cX1_needRoom : ByteArray := prog_1_method_19_code
def yX1_needRoom : MethodName := ⟨RX1, "needRoom", "()V"⟩
abbrev cX1_isWithin : ByteArray := prog_1_method_20_code
def yX1_isWithin : MethodName := ⟨RX1, "isWithin", "(III)Z"⟩
abbrev cX1_isKind : ByteArray := prog_1_method_21_code
def yX1_isKind : MethodName := ⟨RX1, "isKind", "(I)Z"⟩
abbrev cX1_isAxis : ByteArray := prog_1_method_22_code
def yX1_isAxis : MethodName := ⟨RX1, "isAxis", "(I)Z"⟩
abbrev cX1_isSpan : ByteArray := prog_1_method_23_code
def yX1_isSpan : MethodName := ⟨RX1, "isSpan", "(II)Z"⟩
abbrev cX1_isSeen : ByteArray := prog_1_method_24_code
def yX1_isSeen : MethodName := ⟨RX1, "isSeen", "(II)Z"⟩
abbrev cX1_isThere : ByteArray := prog_1_method_25_code
def yX1_isThere : MethodName := ⟨RX1, "isThere", "(I)Z"⟩
abbrev cX1_partAt : ByteArray := prog_1_method_26_code
def yX1_partAt : MethodName := ⟨RX1, "partAt", "(I)LClashBoxes$Part;"⟩
abbrev cX1_add : ByteArray := prog_1_method_27_code
def yX1_add : MethodName := ⟨RX1, "add", "(LClashBoxes$Part;)I"⟩
abbrev cX1_areFree : ByteArray := prog_1_method_28_code
def yX1_areFree : MethodName := ⟨RX1, "areFree", "(II)Z"⟩
abbrev cX1_stateOf : ByteArray := prog_1_method_29_code
def yX1_stateOf : MethodName := ⟨RX1, "stateOf", "(LClashBoxes$Part;LClashBoxes$Part;)I"⟩
abbrev cX1_meet : ByteArray := prog_1_method_30_code
def yX1_meet : MethodName := ⟨RX1, "meet", "(LClashBoxes$Part;ILClashBoxes$Part;)Z"⟩
abbrev cX1_roundAxis : ByteArray := prog_1_method_31_code
def yX1_roundAxis : MethodName := ⟨RX1, "roundAxis", "(LClashBoxes$Part;LClashBoxes$Part;)I"⟩
abbrev cX1_overlap : ByteArray := prog_1_method_32_code
def yX1_overlap : MethodName := ⟨RX1, "overlap", "(LClashBoxes$Part;ILClashBoxes$Part;I)Z"⟩
abbrev cX1_isNear : ByteArray := prog_1_method_33_code
def yX1_isNear : MethodName := ⟨RX1, "isNear", "(LClashBoxes$Part;ILClashBoxes$Part;I)Z"⟩
abbrev cX1_coreGap : ByteArray := prog_1_method_34_code
def yX1_coreGap : MethodName := ⟨RX1, "coreGap", "(LClashBoxes$Part;LClashBoxes$Part;I)I"⟩
abbrev cX1_isPair : ByteArray := prog_1_method_35_code
def yX1_isPair : MethodName := ⟨RX1, "isPair", "(III)Z"⟩
abbrev cX1_countPartners : ByteArray := prog_1_method_36_code
def yX1_countPartners : MethodName := ⟨RX1, "countPartners", "(II)I"⟩
abbrev cX1_partnerAt : ByteArray := prog_1_method_37_code
def yX1_partnerAt : MethodName := ⟨RX1, "partnerAt", "(III)I"⟩
abbrev cX1_nameGroups : ByteArray := prog_1_method_38_code
def yX1_nameGroups : MethodName := ⟨RX1, "nameGroups", "()V"⟩
abbrev cX1_joinNames : ByteArray := prog_1_method_39_code
def yX1_joinNames : MethodName := ⟨RX1, "joinNames", "(II)V"⟩
abbrev cX1_cuts : ByteArray := prog_1_method_40_code
def yX1_cuts : MethodName := ⟨RX1, "cuts", "(LClashBoxes$Part;III)Z"⟩
abbrev cX1_findBlocks : ByteArray := prog_1_method_41_code
def yX1_findBlocks : MethodName := ⟨RX1, "findBlocks", "(LClashBoxes$Part;II)I"⟩
abbrev cX1_noteBlock : ByteArray := prog_1_method_42_code
def yX1_noteBlock : MethodName := ⟨RX1, "noteBlock", "(LClashBoxes$Part;LClashBoxes$Part;II)Z"⟩
abbrev cX1_overlapAcross : ByteArray := prog_1_method_43_code
def yX1_overlapAcross : MethodName := ⟨RX1, "overlapAcross", "(LClashBoxes$Part;LClashBoxes$Part;I)Z"⟩
abbrev cX1_thirdAxis : ByteArray := prog_1_method_44_code
def yX1_thirdAxis : MethodName := ⟨RX1, "thirdAxis", "(II)I"⟩
abbrev cX1_roundWidth : ByteArray := prog_1_method_45_code
def yX1_roundWidth : MethodName := ⟨RX1, "roundWidth", "(LClashBoxes$Part;LClashBoxes$Part;I)I"⟩
abbrev cX1_freeShift : ByteArray := prog_1_method_46_code
def yX1_freeShift : MethodName := ⟨RX1, "freeShift", "(IZ)I"⟩
abbrev cX1_blockAt : ByteArray := prog_1_method_47_code
def yX1_blockAt : MethodName := ⟨RX1, "blockAt", "(II)I"⟩
def RX2 : String := "ClashBoxesModel"
def TX2 : u_T := fun k => match k with
  | 0 => ("ClashBoxesModel", "code", "I", false)
  | 1 => ("ClashBoxesModel", "made", "I", false)
  | 2 => ("ClashBoxesModel", "count", "I", false)
  | 3 => ("ClashBoxesModel", "isThere", "[Z", true)
  | 4 => ("ClashBoxesModel", "kinds", "[I", true)
  | 5 => ("ClashBoxesModel", "margins", "[I", true)
  | 6 => ("ClashBoxesModel", "axes", "[I", true)
  | 7 => ("ClashBoxesModel", "radii", "[I", true)
  | 8 => ("ClashBoxesModel", "lows", "[I", true)
  | 9 => ("ClashBoxesModel", "highs", "[I", true)
  | 10 => ("ClashBoxesModel", "areFree", "[Z", true)
  | 11 => ("ClashBoxesModel", "groups", "[I", true)
  | 12 => ("ClashBoxesModel", "movedPart", "I", false)
  | 13 => ("ClashBoxesModel", "movedAxis", "I", false)
  | _ => ("ClashBoxesModel", "movedBy", "I", false)
def tyX2 : Nat → FieldType := fun k => match k with
  | 0 => .int
  | 1 => .int
  | 2 => .int
  | 3 => .array .boolean
  | 4 => .array .int
  | 5 => .array .int
  | 6 => .array .int
  | 7 => .array .int
  | 8 => .array .int
  | 9 => .array .int
  | 10 => .array .boolean
  | 11 => .array .int
  | 12 => .int
  | 13 => .int
  | _ => .int
abbrev wsX20 : List Cond := u_ws RX2 TX2 15
theorem nmX2 : ∀ a, a < 15 → ∀ b, b < 15 → a ≠ b → (TX2 a).2.1 ≠ (TX2 b).2.1 := by decide +kernel
theorem tyX2_ok : ∀ k, k < 15 → parseFieldDescriptor (TX2 k).2.2.1 = some (tyX2 k) := by decide +kernel
abbrev cX2_init : ByteArray := prog_4_method_1_code
def yX2_init : MethodName := ⟨RX2, "<init>", "()V"⟩
abbrev cX2_thrown : ByteArray := prog_4_method_2_code
def yX2_thrown : MethodName := ⟨RX2, "thrown", "()I"⟩
abbrev cX2_isIn : ByteArray := prog_4_method_3_code
def yX2_isIn : MethodName := ⟨RX2, "isIn", "(III)Z"⟩
abbrev cX2_isKind : ByteArray := prog_4_method_4_code
def yX2_isKind : MethodName := ⟨RX2, "isKind", "(I)Z"⟩
abbrev cX2_isAxis : ByteArray := prog_4_method_5_code
def yX2_isAxis : MethodName := ⟨RX2, "isAxis", "(I)Z"⟩
abbrev cX2_isPart : ByteArray := prog_4_method_6_code
def yX2_isPart : MethodName := ⟨RX2, "isPart", "(I)Z"⟩
abbrev cX2_lay : ByteArray := prog_4_method_7_code
def yX2_lay : MethodName := ⟨RX2, "lay", "(III)I"⟩
abbrev cX2_isSpan : ByteArray := prog_4_method_8_code
def yX2_isSpan : MethodName := ⟨RX2, "isSpan", "(II)Z"⟩
abbrev cX2_side : ByteArray := prog_4_method_9_code
def yX2_side : MethodName := ⟨RX2, "side", "(III)V"⟩
abbrev cX2_box : ByteArray := prog_4_method_10_code
def yX2_box : MethodName := ⟨RX2, "box", "(IIIIIII)I"⟩
abbrev cX2_tube : ByteArray := prog_4_method_11_code
def yX2_tube : MethodName := ⟨RX2, "tube", "(IIIIIII)I"⟩
abbrev cX2_margin : ByteArray := prog_4_method_12_code
def yX2_margin : MethodName := ⟨RX2, "margin", "(II)I"⟩
abbrev cX2_free : ByteArray := prog_4_method_13_code
def yX2_free : MethodName := ⟨RX2, "free", "(IIZ)Z"⟩
abbrev cX2_mayMove : ByteArray := prog_4_method_14_code
def yX2_mayMove : MethodName := ⟨RX2, "mayMove", "(III)Z"⟩
abbrev cX2_move : ByteArray := prog_4_method_15_code
def yX2_move : MethodName := ⟨RX2, "move", "(III)Z"⟩
abbrev cX2_drop : ByteArray := prog_4_method_16_code
def yX2_drop : MethodName := ⟨RX2, "drop", "(I)I"⟩
abbrev cX2_end : ByteArray := prog_4_method_17_code
def yX2_end : MethodName := ⟨RX2, "end", "(IIZI)I"⟩
abbrev cX2_hullEnd : ByteArray := prog_4_method_18_code
def yX2_hullEnd : MethodName := ⟨RX2, "hullEnd", "(IIZI)I"⟩
abbrev cX2_overlaps : ByteArray := prog_4_method_19_code
def yX2_overlaps : MethodName := ⟨RX2, "overlaps", "(IIII)Z"⟩
abbrev cX2_hullsMeet : ByteArray := prog_4_method_20_code
def yX2_hullsMeet : MethodName := ⟨RX2, "hullsMeet", "(III)Z"⟩
abbrev cX2_off : ByteArray := prog_4_method_21_code
def yX2_off : MethodName := ⟨RX2, "off", "(III)I"⟩
abbrev cX2_tubeAndBox : ByteArray := prog_4_method_22_code
def yX2_tubeAndBox : MethodName := ⟨RX2, "tubeAndBox", "(IIII)Z"⟩
abbrev cX2_meets : ByteArray := prog_4_method_23_code
def yX2_meets : MethodName := ⟨RX2, "meets", "(III)Z"⟩
abbrev cX2_stateOf : ByteArray := prog_4_method_24_code
def yX2_stateOf : MethodName := ⟨RX2, "stateOf", "(II)I"⟩
abbrev cX2_pair : ByteArray := prog_4_method_25_code
def yX2_pair : MethodName := ⟨RX2, "pair", "(II)I"⟩
abbrev cX2_clashes : ByteArray := prog_4_method_26_code
def yX2_clashes : MethodName := ⟨RX2, "clashes", "(I)I"⟩
abbrev cX2_clash : ByteArray := prog_4_method_27_code
def yX2_clash : MethodName := ⟨RX2, "clash", "(III)I"⟩
abbrev cX2_findGroups : ByteArray := prog_4_method_28_code
def yX2_findGroups : MethodName := ⟨RX2, "findGroups", "()V"⟩
abbrev cX2_groups : ByteArray := prog_4_method_29_code
def yX2_groups : MethodName := ⟨RX2, "groups", "()I"⟩
abbrev cX2_group : ByteArray := prog_4_method_30_code
def yX2_group : MethodName := ⟨RX2, "group", "(I)I"⟩
abbrev cX2_common : ByteArray := prog_4_method_31_code
def yX2_common : MethodName := ⟨RX2, "common", "(II)J"⟩
abbrev cX2_isEnds : ByteArray := prog_4_method_32_code
def yX2_isEnds : MethodName := ⟨RX2, "isEnds", "(II)Z"⟩
abbrev cX2_inside : ByteArray := prog_4_method_33_code
def yX2_inside : MethodName := ⟨RX2, "inside", "(IIIIIII)I"⟩
abbrev cX2_isFreeAt : ByteArray := prog_4_method_34_code
def yX2_isFreeAt : MethodName := ⟨RX2, "isFreeAt", "(III)Z"⟩
abbrev cX2_shift : ByteArray := prog_4_method_35_code
def yX2_shift : MethodName := ⟨RX2, "shift", "(III)I"⟩
abbrev cX2_hull : ByteArray := prog_4_method_36_code
def yX2_hull : MethodName := ⟨RX2, "hull", "(III)I"⟩
abbrev cX2_parts : ByteArray := prog_4_method_37_code
def yX2_parts : MethodName := ⟨RX2, "parts", "()I"⟩
def RJ9 : String := "java/lang/Math"
def TJ9 : u_T := fun k => match k with
  | _ => ("", "", "", false)
def tyJ9 : Nat → FieldType := fun k => match k with
  | _ => .int
abbrev wsJ90 : List Cond := u_ws RJ9 TJ9 0
theorem nmJ9 : ∀ a, a < 0 → ∀ b, b < 0 → a ≠ b → (TJ9 a).2.1 ≠ (TJ9 b).2.1 := by decide +kernel
theorem tyJ9_ok : ∀ k, k < 0 → parseFieldDescriptor (TJ9 k).2.2.1 = some (tyJ9 k) := by decide +kernel
abbrev cJ9_max_7cf53 : ByteArray := prog_8_method_65_code
def yJ9_max_7cf53 : MethodName := ⟨RJ9, "max", "(II)I"⟩
abbrev cJ9_min_7cf53 : ByteArray := prog_8_method_69_code
def yJ9_min_7cf53 : MethodName := ⟨RJ9, "min", "(II)I"⟩
def RJ0 : String := "java/lang/String"
def TJ0 : u_T := fun k => match k with
  | _ => ("", "", "", false)
def tyJ0 : Nat → FieldType := fun k => match k with
  | _ => .int
abbrev wsJ00 : List Cond := u_ws RJ0 TJ0 0
theorem nmJ0 : ∀ a, a < 0 → ∀ b, b < 0 → a ≠ b → (TJ0 a).2.1 ≠ (TJ0 b).2.1 := by decide +kernel
theorem tyJ0_ok : ∀ k, k < 0 → parseFieldDescriptor (TJ0 k).2.2.1 = some (tyJ0 k) := by decide +kernel
def RL : String := "ClashBoxesLaw"
abbrev cL_box : ByteArray := method_3_code
def yL_box : MethodName := ⟨RL, "box", "(LClashBoxes;IIIIIII[J)I"⟩
abbrev cL_tube : ByteArray := method_4_code
def yL_tube : MethodName := ⟨RL, "tube", "(LClashBoxes;IIIIIII[J)I"⟩
abbrev cL_margin : ByteArray := method_5_code
def yL_margin : MethodName := ⟨RL, "margin", "(LClashBoxes;II[J)I"⟩
abbrev cL_free : ByteArray := method_6_code
def yL_free : MethodName := ⟨RL, "free", "(LClashBoxes;IIZ[J)I"⟩
abbrev cL_move : ByteArray := method_7_code
def yL_move : MethodName := ⟨RL, "move", "(LClashBoxes;III[J)I"⟩
abbrev cL_drop : ByteArray := method_8_code
def yL_drop : MethodName := ⟨RL, "drop", "(LClashBoxes;I[J)I"⟩
abbrev cL_pair : ByteArray := method_9_code
def yL_pair : MethodName := ⟨RL, "pair", "(LClashBoxes;II[J)I"⟩
abbrev cL_clashes : ByteArray := method_10_code
def yL_clashes : MethodName := ⟨RL, "clashes", "(LClashBoxes;I[J)I"⟩
abbrev cL_clash : ByteArray := method_11_code
def yL_clash : MethodName := ⟨RL, "clash", "(LClashBoxes;III[J)I"⟩
abbrev cL_group : ByteArray := method_12_code
def yL_group : MethodName := ⟨RL, "group", "(LClashBoxes;I[J)I"⟩
abbrev cL_common : ByteArray := method_13_code
def yL_common : MethodName := ⟨RL, "common", "(LClashBoxes;II[J)I"⟩
abbrev cL_inside : ByteArray := method_14_code
def yL_inside : MethodName := ⟨RL, "inside", "(LClashBoxes;IIIIIII[J)I"⟩
abbrev cL_shift : ByteArray := method_15_code
def yL_shift : MethodName := ⟨RL, "shift", "(LClashBoxes;III[J)I"⟩
abbrev cL_hull : ByteArray := method_16_code
def yL_hull : MethodName := ⟨RL, "hull", "(LClashBoxes;III[J)I"⟩
abbrev cL_law : ByteArray := code
def yL_law : MethodName := ⟨RL, "law", "([I)Z"⟩
def wsX0_init : List Cond := .code yX0_init cX0_init 4 none :: ([.methodLink RX0 3 objectInit, .instanceMethod objectInit, .code objectInit ⟨#[0xb1]⟩ 1 none, .arrayClass .int, .fieldLink RX0 9 "ClashBoxes$Part" "least" "[I", .fieldLink RX0 15 "ClashBoxes$Part" "greatest" "[I", .fieldLink RX0 18 "ClashBoxes$Part" "softSpace" "I", .fieldLink RX0 22 "ClashBoxes$Part" "kind" "I", .fieldLink RX0 25 "ClashBoxes$Part" "tubeAxis" "I", .fieldLink RX0 28 "ClashBoxes$Part" "radius" "I"] ++ wsX00)
def wsX0_setCore : List Cond := .code yX0_setCore cX0_setCore 4 none :: ([.fieldLink RX0 9 "ClashBoxes$Part" "least" "[I", .fieldLink RX0 15 "ClashBoxes$Part" "greatest" "[I"] ++ wsX00)
def wsX0_isTube : List Cond := .code yX0_isTube cX0_isTube 1 (some .boolean) :: ([.fieldLink RX0 25 "ClashBoxes$Part" "tubeAxis" "I"] ++ wsX00)
def wsX0_hullLeast : List Cond := .code yX0_hullLeast cX0_hullLeast 2 (some .int) :: ([.fieldLink RX0 25 "ClashBoxes$Part" "tubeAxis" "I", .fieldLink RX0 9 "ClashBoxes$Part" "least" "[I", .fieldLink RX0 28 "ClashBoxes$Part" "radius" "I"] ++ wsX00)
def wsX0_hullGreatest : List Cond := .code yX0_hullGreatest cX0_hullGreatest 2 (some .int) :: ([.fieldLink RX0 25 "ClashBoxes$Part" "tubeAxis" "I", .fieldLink RX0 15 "ClashBoxes$Part" "greatest" "[I", .fieldLink RX0 28 "ClashBoxes$Part" "radius" "I"] ++ wsX00)
def wsX0_staysInSpace : List Cond := .code yX0_staysInSpace cX0_staysInSpace 3 (some .boolean) :: ([.fieldLink RX0 9 "ClashBoxes$Part" "least" "[I", .fieldLink RX0 15 "ClashBoxes$Part" "greatest" "[I"] ++ wsX00)
def wsX1_init : List Cond := .code yX1_init cX1_init 1 none :: ([.methodLink RX1 1 objectInit, .instanceMethod objectInit, .code objectInit ⟨#[0xb1]⟩ 1 none, .classLink RX1 9 RX0, .fieldLink RX1 11 "ClashBoxes" "row" "[LClashBoxes$Part;", .arrayClass .boolean, .fieldLink RX1 15 "ClashBoxes" "freeKinds" "[Z", .fieldLink RX1 19 "ClashBoxes" "made" "I", .fieldLink RX1 23 "ClashBoxes" "left" "I", .arrayClass .int, .fieldLink RX1 26 "ClashBoxes" "names" "[I", .fieldLink RX1 30 "ClashBoxes" "sizes" "[I", .fieldLink RX1 33 "ClashBoxes" "blockLeast" "[I", .fieldLink RX1 36 "ClashBoxes" "blockGreatest" "[I"] ++ wsX10)
def wsX1_isWithin : List Cond := .code yX1_isWithin cX1_isWithin 3 (some .boolean) :: ([])
def wsX1_isKind : List Cond := .code yX1_isKind cX1_isKind 1 (some .boolean) :: ([.methodLink RX1 67 yX1_isWithin, .static yX1_isWithin, .initialized RX1, .code yX1_isWithin cX1_isWithin 3 (some .boolean)])
def wsX1_need : List Cond := .code yX1_need cX1_need 1 none :: ([.classLink RX1 138 "java/lang/IllegalArgumentException", .initialized "java/lang/IllegalArgumentException"] ++ (vx_atS RX1 142 "java/lang/IllegalArgumentException" ["java/lang/RuntimeException", "java/lang/Exception"]).filter goodWord)
def wsX1_isSpan : List Cond := .code yX1_isSpan cX1_isSpan 2 (some .boolean) :: ([.methodLink RX1 67 yX1_isWithin, .static yX1_isWithin, .initialized RX1, .code yX1_isWithin cX1_isWithin 3 (some .boolean)])
def wsX1_needRoom : List Cond := .code yX1_needRoom cX1_needRoom 1 none :: ([.classLink RX1 145 "java/lang/IllegalStateException", .initialized "java/lang/IllegalStateException", .fieldLink RX1 19 "ClashBoxes" "made" "I"] ++ wsX10 ++ (vx_atS RX1 149 "java/lang/IllegalStateException" ["java/lang/RuntimeException", "java/lang/Exception"]).filter goodWord)
def wsX1_add : List Cond := .code yX1_add cX1_add 3 (some .int) :: ([.fieldLink RX1 19 "ClashBoxes" "made" "I", .fieldLink RX1 11 "ClashBoxes" "row" "[LClashBoxes$Part;", .fieldLink RX1 23 "ClashBoxes" "left" "I"] ++ wsX10)
def wsX1_box_r1 : List Cond := [Cond.classLink RX1 9 RX0, Cond.instantiable RX0 6, Cond.initialized RX0, Cond.methodLink RX1 39 yX1_isKind, Cond.static yX1_isKind, Cond.initialized RX1, Cond.code yX1_isKind cX1_isKind 1 (some .boolean), Cond.methodLink RX1 67 yX1_isWithin, Cond.static yX1_isWithin, Cond.code yX1_isWithin cX1_isWithin 3 (some .boolean), Cond.methodLink RX1 43 yX1_need, Cond.static yX1_need, Cond.code yX1_need cX1_need 1 none, Cond.classLink RX1 138 "java/lang/IllegalArgumentException", Cond.initialized "java/lang/IllegalArgumentException", Cond.methodLink RX1 47 yX1_isSpan, Cond.static yX1_isSpan, Cond.code yX1_isSpan cX1_isSpan 2 (some .boolean), Cond.methodLink RX1 51 yX1_needRoom, Cond.instanceMethod yX1_needRoom, Cond.selects RX1 yX1_needRoom yX1_needRoom, Cond.code yX1_needRoom cX1_needRoom 1 none, Cond.classLink RX1 145 "java/lang/IllegalStateException", Cond.initialized "java/lang/IllegalStateException"]
def wsX1_box_r2 : List Cond := [Cond.fieldLink RX1 19 "ClashBoxes" "made" "I", Cond.methodLink RX1 54 yX0_init, Cond.instanceMethod yX0_init, Cond.code yX0_init cX0_init 4 none, Cond.methodLink RX0 3 objectInit, Cond.instanceMethod objectInit, Cond.code objectInit ⟨#[0xb1]⟩ 1 none, Cond.arrayClass .int, Cond.fieldLink RX0 9 "ClashBoxes$Part" "least" "[I", Cond.fieldLink RX0 15 "ClashBoxes$Part" "greatest" "[I", Cond.fieldLink RX0 18 "ClashBoxes$Part" "softSpace" "I", Cond.fieldLink RX0 22 "ClashBoxes$Part" "kind" "I", Cond.fieldLink RX0 25 "ClashBoxes$Part" "tubeAxis" "I", Cond.fieldLink RX0 28 "ClashBoxes$Part" "radius" "I", Cond.methodLink RX1 57 yX0_setCore, Cond.instanceMethod yX0_setCore, Cond.selects RX0 yX0_setCore yX0_setCore, Cond.code yX0_setCore cX0_setCore 4 none, Cond.methodLink RX1 60 yX1_add, Cond.instanceMethod yX1_add, Cond.selects RX1 yX1_add yX1_add, Cond.code yX1_add cX1_add 3 (some .int), Cond.fieldLink RX1 11 "ClashBoxes" "row" "[LClashBoxes$Part;", Cond.fieldLink RX1 23 "ClashBoxes" "left" "I"]
def wsX1_box : List Cond := .code yX1_box cX1_box 9 (some .int) :: ((wsX1_box_r1 ++ wsX1_box_r2) ++ wsX00 ++ wsX10 ++ (vx_atS RX1 142 "java/lang/IllegalArgumentException" ["java/lang/RuntimeException", "java/lang/Exception"]).filter goodWord ++ (vx_atS RX1 149 "java/lang/IllegalStateException" ["java/lang/RuntimeException", "java/lang/Exception"]).filter goodWord)
def wsX1_isAxis : List Cond := .code yX1_isAxis cX1_isAxis 1 (some .boolean) :: ([.methodLink RX1 67 yX1_isWithin, .static yX1_isWithin, .initialized RX1, .code yX1_isWithin cX1_isWithin 3 (some .boolean)])
def wsX1_tube_r1 : List Cond := [Cond.classLink RX1 9 RX0, Cond.instantiable RX0 6, Cond.initialized RX0, Cond.methodLink RX1 39 yX1_isKind, Cond.static yX1_isKind, Cond.initialized RX1, Cond.code yX1_isKind cX1_isKind 1 (some .boolean), Cond.methodLink RX1 67 yX1_isWithin, Cond.static yX1_isWithin, Cond.code yX1_isWithin cX1_isWithin 3 (some .boolean), Cond.methodLink RX1 64 yX1_isAxis, Cond.static yX1_isAxis, Cond.code yX1_isAxis cX1_isAxis 1 (some .boolean), Cond.methodLink RX1 43 yX1_need, Cond.static yX1_need, Cond.code yX1_need cX1_need 1 none, Cond.classLink RX1 138 "java/lang/IllegalArgumentException", Cond.initialized "java/lang/IllegalArgumentException", Cond.methodLink RX1 47 yX1_isSpan, Cond.static yX1_isSpan, Cond.code yX1_isSpan cX1_isSpan 2 (some .boolean), Cond.methodLink RX1 51 yX1_needRoom, Cond.instanceMethod yX1_needRoom, Cond.selects RX1 yX1_needRoom yX1_needRoom]
def wsX1_tube_r2 : List Cond := [Cond.code yX1_needRoom cX1_needRoom 1 none, Cond.classLink RX1 145 "java/lang/IllegalStateException", Cond.initialized "java/lang/IllegalStateException", Cond.fieldLink RX1 19 "ClashBoxes" "made" "I", Cond.methodLink RX1 54 yX0_init, Cond.instanceMethod yX0_init, Cond.code yX0_init cX0_init 4 none, Cond.methodLink RX0 3 objectInit, Cond.instanceMethod objectInit, Cond.code objectInit ⟨#[0xb1]⟩ 1 none, Cond.arrayClass .int, Cond.fieldLink RX0 9 "ClashBoxes$Part" "least" "[I", Cond.fieldLink RX0 15 "ClashBoxes$Part" "greatest" "[I", Cond.fieldLink RX0 18 "ClashBoxes$Part" "softSpace" "I", Cond.fieldLink RX0 22 "ClashBoxes$Part" "kind" "I", Cond.fieldLink RX0 25 "ClashBoxes$Part" "tubeAxis" "I", Cond.fieldLink RX0 28 "ClashBoxes$Part" "radius" "I", Cond.methodLink RX1 57 yX0_setCore, Cond.instanceMethod yX0_setCore, Cond.selects RX0 yX0_setCore yX0_setCore, Cond.code yX0_setCore cX0_setCore 4 none, Cond.methodLink RX1 60 yX1_add, Cond.instanceMethod yX1_add, Cond.selects RX1 yX1_add yX1_add]
def wsX1_tube_r3 : List Cond := [Cond.code yX1_add cX1_add 3 (some .int), Cond.fieldLink RX1 11 "ClashBoxes" "row" "[LClashBoxes$Part;", Cond.fieldLink RX1 23 "ClashBoxes" "left" "I"]
def wsX1_tube : List Cond := .code yX1_tube cX1_tube 11 (some .int) :: ((wsX1_tube_r1 ++ (wsX1_tube_r2 ++ wsX1_tube_r3)) ++ wsX00 ++ wsX10 ++ (vx_atS RX1 142 "java/lang/IllegalArgumentException" ["java/lang/RuntimeException", "java/lang/Exception"]).filter goodWord ++ (vx_atS RX1 149 "java/lang/IllegalStateException" ["java/lang/RuntimeException", "java/lang/Exception"]).filter goodWord)
def wsX1_partAt : List Cond := .code yX1_partAt cX1_partAt 3 (some (.object "ClashBoxes$Part")) :: ([.classLink RX1 138 "java/lang/IllegalArgumentException", .initialized "java/lang/IllegalArgumentException", .fieldLink RX1 11 "ClashBoxes" "row" "[LClashBoxes$Part;", .methodLink RX1 67 yX1_isWithin, .static yX1_isWithin, .initialized RX1, .code yX1_isWithin cX1_isWithin 3 (some .boolean)] ++ wsX10 ++ (vx_atS RX1 142 "java/lang/IllegalArgumentException" ["java/lang/RuntimeException", "java/lang/Exception"]).filter goodWord)
def wsX1_margin : List Cond := .code yX1_margin cX1_margin 5 (some .int) :: ([.fieldLink RX1 75 "ClashBoxes$Part" "softSpace" "I", .methodLink RX1 71 yX1_partAt, .instanceMethod yX1_partAt, .selects RX1 yX1_partAt yX1_partAt, .initialized RX1, .code yX1_partAt cX1_partAt 3 (some (.object "ClashBoxes$Part")), .classLink RX1 138 "java/lang/IllegalArgumentException", .initialized "java/lang/IllegalArgumentException", .fieldLink RX1 11 "ClashBoxes" "row" "[LClashBoxes$Part;", .methodLink RX1 67 yX1_isWithin, .static yX1_isWithin, .code yX1_isWithin cX1_isWithin 3 (some .boolean), .methodLink RX1 43 yX1_need, .static yX1_need, .code yX1_need cX1_need 1 none] ++ wsX00 ++ wsX10 ++ (vx_atS RX1 142 "java/lang/IllegalArgumentException" ["java/lang/RuntimeException", "java/lang/Exception"]).filter goodWord)
def wsX1_areFree : List Cond := .code yX1_areFree cX1_areFree 3 (some .boolean) :: ([.fieldLink RX1 15 "ClashBoxes" "freeKinds" "[Z"] ++ wsX10)
def wsX1_free : List Cond := .code yX1_free cX1_free 5 (some .boolean) :: ([.fieldLink RX1 15 "ClashBoxes" "freeKinds" "[Z", .methodLink RX1 39 yX1_isKind, .static yX1_isKind, .initialized RX1, .code yX1_isKind cX1_isKind 1 (some .boolean), .methodLink RX1 67 yX1_isWithin, .static yX1_isWithin, .code yX1_isWithin cX1_isWithin 3 (some .boolean), .methodLink RX1 43 yX1_need, .static yX1_need, .code yX1_need cX1_need 1 none, .classLink RX1 138 "java/lang/IllegalArgumentException", .initialized "java/lang/IllegalArgumentException", .methodLink RX1 78 yX1_areFree, .instanceMethod yX1_areFree, .selects RX1 yX1_areFree yX1_areFree, .code yX1_areFree cX1_areFree 3 (some .boolean)] ++ wsX10 ++ (vx_atS RX1 142 "java/lang/IllegalArgumentException" ["java/lang/RuntimeException", "java/lang/Exception"]).filter goodWord)
def wsX1_move_r1 : List Cond := [Cond.fieldLink RX1 84 "ClashBoxes$Part" "least" "[I", Cond.fieldLink RX1 87 "ClashBoxes$Part" "greatest" "[I", Cond.methodLink RX1 71 yX1_partAt, Cond.instanceMethod yX1_partAt, Cond.selects RX1 yX1_partAt yX1_partAt, Cond.initialized RX1, Cond.code yX1_partAt cX1_partAt 3 (some (.object "ClashBoxes$Part")), Cond.classLink RX1 138 "java/lang/IllegalArgumentException", Cond.initialized "java/lang/IllegalArgumentException", Cond.fieldLink RX1 11 "ClashBoxes" "row" "[LClashBoxes$Part;", Cond.methodLink RX1 67 yX1_isWithin, Cond.static yX1_isWithin, Cond.code yX1_isWithin cX1_isWithin 3 (some .boolean), Cond.methodLink RX1 64 yX1_isAxis, Cond.static yX1_isAxis, Cond.code yX1_isAxis cX1_isAxis 1 (some .boolean), Cond.methodLink RX1 43 yX1_need, Cond.static yX1_need, Cond.code yX1_need cX1_need 1 none, Cond.methodLink RX1 81 yX0_staysInSpace, Cond.instanceMethod yX0_staysInSpace, Cond.selects RX0 yX0_staysInSpace yX0_staysInSpace, Cond.initialized RX0, Cond.code yX0_staysInSpace cX0_staysInSpace 3 (some .boolean)]
def wsX1_move_r2 : List Cond := [Cond.fieldLink RX0 9 "ClashBoxes$Part" "least" "[I", Cond.fieldLink RX0 15 "ClashBoxes$Part" "greatest" "[I", Cond.methodLink RX1 57 yX0_setCore, Cond.instanceMethod yX0_setCore, Cond.selects RX0 yX0_setCore yX0_setCore, Cond.code yX0_setCore cX0_setCore 4 none]
def wsX1_move : List Cond := .code yX1_move cX1_move 5 (some .boolean) :: ((wsX1_move_r1 ++ wsX1_move_r2) ++ wsX00 ++ wsX10 ++ (vx_atS RX1 142 "java/lang/IllegalArgumentException" ["java/lang/RuntimeException", "java/lang/Exception"]).filter goodWord)
def wsX1_isThere : List Cond := .code yX1_isThere cX1_isThere 2 (some .boolean) :: ([.fieldLink RX1 11 "ClashBoxes" "row" "[LClashBoxes$Part;", .methodLink RX1 67 yX1_isWithin, .static yX1_isWithin, .initialized RX1, .code yX1_isWithin cX1_isWithin 3 (some .boolean)] ++ wsX10)
def wsX1_drop : List Cond := .code yX1_drop cX1_drop 2 (some .int) :: ([.fieldLink RX1 11 "ClashBoxes" "row" "[LClashBoxes$Part;", .fieldLink RX1 23 "ClashBoxes" "left" "I", .methodLink RX1 90 yX1_isThere, .instanceMethod yX1_isThere, .selects RX1 yX1_isThere yX1_isThere, .initialized RX1, .code yX1_isThere cX1_isThere 2 (some .boolean), .methodLink RX1 67 yX1_isWithin, .static yX1_isWithin, .code yX1_isWithin cX1_isWithin 3 (some .boolean), .methodLink RX1 43 yX1_need, .static yX1_need, .code yX1_need cX1_need 1 none, .classLink RX1 138 "java/lang/IllegalArgumentException", .initialized "java/lang/IllegalArgumentException"] ++ wsX10 ++ (vx_atS RX1 142 "java/lang/IllegalArgumentException" ["java/lang/RuntimeException", "java/lang/Exception"]).filter goodWord)
def wsX1_roundAxis : List Cond := .code yX1_roundAxis cX1_roundAxis 2 (some .int) :: ([.fieldLink RX1 173 "ClashBoxes$Part" "tubeAxis" "I", .methodLink RX1 169 yX0_isTube, .instanceMethod yX0_isTube, .selects RX0 yX0_isTube yX0_isTube, .initialized RX0, .code yX0_isTube cX0_isTube 1 (some .boolean), .fieldLink RX0 25 "ClashBoxes$Part" "tubeAxis" "I"] ++ wsX00)
def wsX1_overlap : List Cond := .code yX1_overlap cX1_overlap 4 (some .boolean) :: ([.methodLink RX1 108 yX0_hullLeast, .instanceMethod yX0_hullLeast, .selects RX0 yX0_hullLeast yX0_hullLeast, .initialized RX0, .code yX0_hullLeast cX0_hullLeast 2 (some .int), .fieldLink RX0 25 "ClashBoxes$Part" "tubeAxis" "I", .fieldLink RX0 9 "ClashBoxes$Part" "least" "[I", .fieldLink RX0 28 "ClashBoxes$Part" "radius" "I", .methodLink RX1 117 yX0_hullGreatest, .instanceMethod yX0_hullGreatest, .selects RX0 yX0_hullGreatest yX0_hullGreatest, .code yX0_hullGreatest cX0_hullGreatest 2 (some .int), .fieldLink RX0 15 "ClashBoxes$Part" "greatest" "[I"] ++ wsX00)
def wsX1_coreGap : List Cond := .code yX1_coreGap cX1_coreGap 5 (some .int) :: ([.fieldLink RX1 84 "ClashBoxes$Part" "least" "[I", .fieldLink RX1 87 "ClashBoxes$Part" "greatest" "[I", .methodLink RX1 112 Lib.Math.max.name, .static Lib.Math.max.name, .initialized "java/lang/Math", .code Lib.Math.max.name Lib.Math.max.code 2 (some .int)] ++ wsX00)
def wsX1_isNear : List Cond := .code yX1_isNear cX1_isNear 9 (some .boolean) :: ([.fieldLink RX1 176 "ClashBoxes$Part" "radius" "I", .methodLink RX1 112 Lib.Math.max.name, .static Lib.Math.max.name, .initialized "java/lang/Math", .code Lib.Math.max.name Lib.Math.max.code 2 (some .int), .methodLink RX1 169 yX0_isTube, .instanceMethod yX0_isTube, .selects RX0 yX0_isTube yX0_isTube, .initialized RX0, .code yX0_isTube cX0_isTube 1 (some .boolean), .fieldLink RX0 25 "ClashBoxes$Part" "tubeAxis" "I", .methodLink RX1 179 yX1_coreGap, .static yX1_coreGap, .initialized RX1, .code yX1_coreGap cX1_coreGap 5 (some .int), .fieldLink RX1 84 "ClashBoxes$Part" "least" "[I", .fieldLink RX1 87 "ClashBoxes$Part" "greatest" "[I"] ++ wsX00)
def wsX1_meet_r1 : List Cond := [Cond.methodLink RX1 159 yX1_roundAxis, Cond.static yX1_roundAxis, Cond.initialized RX1, Cond.code yX1_roundAxis cX1_roundAxis 2 (some .int), Cond.fieldLink RX1 173 "ClashBoxes$Part" "tubeAxis" "I", Cond.methodLink RX1 169 yX0_isTube, Cond.instanceMethod yX0_isTube, Cond.selects RX0 yX0_isTube yX0_isTube, Cond.initialized RX0, Cond.code yX0_isTube cX0_isTube 1 (some .boolean), Cond.fieldLink RX0 25 "ClashBoxes$Part" "tubeAxis" "I", Cond.methodLink RX1 162 yX1_overlap, Cond.static yX1_overlap, Cond.code yX1_overlap cX1_overlap 4 (some .boolean), Cond.methodLink RX1 108 yX0_hullLeast, Cond.instanceMethod yX0_hullLeast, Cond.selects RX0 yX0_hullLeast yX0_hullLeast, Cond.code yX0_hullLeast cX0_hullLeast 2 (some .int), Cond.fieldLink RX0 9 "ClashBoxes$Part" "least" "[I", Cond.fieldLink RX0 28 "ClashBoxes$Part" "radius" "I", Cond.methodLink RX1 117 yX0_hullGreatest, Cond.instanceMethod yX0_hullGreatest, Cond.selects RX0 yX0_hullGreatest yX0_hullGreatest, Cond.code yX0_hullGreatest cX0_hullGreatest 2 (some .int)]
def wsX1_meet_r2 : List Cond := [Cond.fieldLink RX0 15 "ClashBoxes$Part" "greatest" "[I", Cond.methodLink RX1 166 yX1_isNear, Cond.static yX1_isNear, Cond.code yX1_isNear cX1_isNear 9 (some .boolean), Cond.fieldLink RX1 176 "ClashBoxes$Part" "radius" "I", Cond.methodLink RX1 112 Lib.Math.max.name, Cond.static Lib.Math.max.name, Cond.initialized "java/lang/Math", Cond.code Lib.Math.max.name Lib.Math.max.code 2 (some .int), Cond.methodLink RX1 179 yX1_coreGap, Cond.static yX1_coreGap, Cond.code yX1_coreGap cX1_coreGap 5 (some .int), Cond.fieldLink RX1 84 "ClashBoxes$Part" "least" "[I", Cond.fieldLink RX1 87 "ClashBoxes$Part" "greatest" "[I"]
def wsX1_meet : List Cond := .code yX1_meet cX1_meet 4 (some .boolean) :: ((wsX1_meet_r1 ++ wsX1_meet_r2) ++ wsX00)
def wsX1_stateOf_r1 : List Cond := [Cond.fieldLink RX1 152 "ClashBoxes$Part" "kind" "I", Cond.fieldLink RX1 75 "ClashBoxes$Part" "softSpace" "I", Cond.methodLink RX1 78 yX1_areFree, Cond.instanceMethod yX1_areFree, Cond.selects RX1 yX1_areFree yX1_areFree, Cond.initialized RX1, Cond.code yX1_areFree cX1_areFree 3 (some .boolean), Cond.fieldLink RX1 15 "ClashBoxes" "freeKinds" "[Z", Cond.methodLink RX1 155 yX1_meet, Cond.static yX1_meet, Cond.code yX1_meet cX1_meet 4 (some .boolean), Cond.methodLink RX1 159 yX1_roundAxis, Cond.static yX1_roundAxis, Cond.code yX1_roundAxis cX1_roundAxis 2 (some .int), Cond.fieldLink RX1 173 "ClashBoxes$Part" "tubeAxis" "I", Cond.methodLink RX1 169 yX0_isTube, Cond.instanceMethod yX0_isTube, Cond.selects RX0 yX0_isTube yX0_isTube, Cond.initialized RX0, Cond.code yX0_isTube cX0_isTube 1 (some .boolean), Cond.fieldLink RX0 25 "ClashBoxes$Part" "tubeAxis" "I", Cond.methodLink RX1 162 yX1_overlap, Cond.static yX1_overlap, Cond.code yX1_overlap cX1_overlap 4 (some .boolean)]
def wsX1_stateOf_r2 : List Cond := [Cond.methodLink RX1 108 yX0_hullLeast, Cond.instanceMethod yX0_hullLeast, Cond.selects RX0 yX0_hullLeast yX0_hullLeast, Cond.code yX0_hullLeast cX0_hullLeast 2 (some .int), Cond.fieldLink RX0 9 "ClashBoxes$Part" "least" "[I", Cond.fieldLink RX0 28 "ClashBoxes$Part" "radius" "I", Cond.methodLink RX1 117 yX0_hullGreatest, Cond.instanceMethod yX0_hullGreatest, Cond.selects RX0 yX0_hullGreatest yX0_hullGreatest, Cond.code yX0_hullGreatest cX0_hullGreatest 2 (some .int), Cond.fieldLink RX0 15 "ClashBoxes$Part" "greatest" "[I", Cond.methodLink RX1 166 yX1_isNear, Cond.static yX1_isNear, Cond.code yX1_isNear cX1_isNear 9 (some .boolean), Cond.fieldLink RX1 176 "ClashBoxes$Part" "radius" "I", Cond.methodLink RX1 112 Lib.Math.max.name, Cond.static Lib.Math.max.name, Cond.initialized "java/lang/Math", Cond.code Lib.Math.max.name Lib.Math.max.code 2 (some .int), Cond.methodLink RX1 179 yX1_coreGap, Cond.static yX1_coreGap, Cond.code yX1_coreGap cX1_coreGap 5 (some .int), Cond.fieldLink RX1 84 "ClashBoxes$Part" "least" "[I", Cond.fieldLink RX1 87 "ClashBoxes$Part" "greatest" "[I"]
def wsX1_stateOf : List Cond := .code yX1_stateOf cX1_stateOf 4 (some .int) :: ((wsX1_stateOf_r1 ++ wsX1_stateOf_r2) ++ wsX00 ++ wsX10)
def wsX1_pair_r1 : List Cond := [Cond.methodLink RX1 71 yX1_partAt, Cond.instanceMethod yX1_partAt, Cond.selects RX1 yX1_partAt yX1_partAt, Cond.initialized RX1, Cond.code yX1_partAt cX1_partAt 3 (some (.object "ClashBoxes$Part")), Cond.classLink RX1 138 "java/lang/IllegalArgumentException", Cond.initialized "java/lang/IllegalArgumentException", Cond.fieldLink RX1 11 "ClashBoxes" "row" "[LClashBoxes$Part;", Cond.methodLink RX1 67 yX1_isWithin, Cond.static yX1_isWithin, Cond.code yX1_isWithin cX1_isWithin 3 (some .boolean), Cond.methodLink RX1 43 yX1_need, Cond.static yX1_need, Cond.code yX1_need cX1_need 1 none, Cond.methodLink RX1 93 yX1_stateOf, Cond.instanceMethod yX1_stateOf, Cond.selects RX1 yX1_stateOf yX1_stateOf, Cond.code yX1_stateOf cX1_stateOf 4 (some .int), Cond.fieldLink RX1 152 "ClashBoxes$Part" "kind" "I", Cond.fieldLink RX1 75 "ClashBoxes$Part" "softSpace" "I", Cond.methodLink RX1 78 yX1_areFree, Cond.instanceMethod yX1_areFree, Cond.selects RX1 yX1_areFree yX1_areFree, Cond.code yX1_areFree cX1_areFree 3 (some .boolean)]
def wsX1_pair_r2 : List Cond := [Cond.fieldLink RX1 15 "ClashBoxes" "freeKinds" "[Z", Cond.methodLink RX1 155 yX1_meet, Cond.static yX1_meet, Cond.code yX1_meet cX1_meet 4 (some .boolean), Cond.methodLink RX1 159 yX1_roundAxis, Cond.static yX1_roundAxis, Cond.code yX1_roundAxis cX1_roundAxis 2 (some .int), Cond.fieldLink RX1 173 "ClashBoxes$Part" "tubeAxis" "I", Cond.methodLink RX1 169 yX0_isTube, Cond.instanceMethod yX0_isTube, Cond.selects RX0 yX0_isTube yX0_isTube, Cond.initialized RX0, Cond.code yX0_isTube cX0_isTube 1 (some .boolean), Cond.fieldLink RX0 25 "ClashBoxes$Part" "tubeAxis" "I", Cond.methodLink RX1 162 yX1_overlap, Cond.static yX1_overlap, Cond.code yX1_overlap cX1_overlap 4 (some .boolean), Cond.methodLink RX1 108 yX0_hullLeast, Cond.instanceMethod yX0_hullLeast, Cond.selects RX0 yX0_hullLeast yX0_hullLeast, Cond.code yX0_hullLeast cX0_hullLeast 2 (some .int), Cond.fieldLink RX0 9 "ClashBoxes$Part" "least" "[I", Cond.fieldLink RX0 28 "ClashBoxes$Part" "radius" "I", Cond.methodLink RX1 117 yX0_hullGreatest]
def wsX1_pair_r3 : List Cond := [Cond.instanceMethod yX0_hullGreatest, Cond.selects RX0 yX0_hullGreatest yX0_hullGreatest, Cond.code yX0_hullGreatest cX0_hullGreatest 2 (some .int), Cond.fieldLink RX0 15 "ClashBoxes$Part" "greatest" "[I", Cond.methodLink RX1 166 yX1_isNear, Cond.static yX1_isNear, Cond.code yX1_isNear cX1_isNear 9 (some .boolean), Cond.fieldLink RX1 176 "ClashBoxes$Part" "radius" "I", Cond.methodLink RX1 112 Lib.Math.max.name, Cond.static Lib.Math.max.name, Cond.initialized "java/lang/Math", Cond.code Lib.Math.max.name Lib.Math.max.code 2 (some .int), Cond.methodLink RX1 179 yX1_coreGap, Cond.static yX1_coreGap, Cond.code yX1_coreGap cX1_coreGap 5 (some .int), Cond.fieldLink RX1 84 "ClashBoxes$Part" "least" "[I", Cond.fieldLink RX1 87 "ClashBoxes$Part" "greatest" "[I"]
def wsX1_pair : List Cond := .code yX1_pair cX1_pair 5 (some .int) :: ((wsX1_pair_r1 ++ (wsX1_pair_r2 ++ wsX1_pair_r3)) ++ wsX10 ++ wsX00 ++ (vx_atS RX1 142 "java/lang/IllegalArgumentException" ["java/lang/RuntimeException", "java/lang/Exception"]).filter goodWord)
def wsX1_isPair_r1 : List Cond := [Cond.fieldLink RX1 11 "ClashBoxes" "row" "[LClashBoxes$Part;", Cond.methodLink RX1 93 yX1_stateOf, Cond.instanceMethod yX1_stateOf, Cond.selects RX1 yX1_stateOf yX1_stateOf, Cond.initialized RX1, Cond.code yX1_stateOf cX1_stateOf 4 (some .int), Cond.fieldLink RX1 152 "ClashBoxes$Part" "kind" "I", Cond.fieldLink RX1 75 "ClashBoxes$Part" "softSpace" "I", Cond.methodLink RX1 78 yX1_areFree, Cond.instanceMethod yX1_areFree, Cond.selects RX1 yX1_areFree yX1_areFree, Cond.code yX1_areFree cX1_areFree 3 (some .boolean), Cond.fieldLink RX1 15 "ClashBoxes" "freeKinds" "[Z", Cond.methodLink RX1 155 yX1_meet, Cond.static yX1_meet, Cond.code yX1_meet cX1_meet 4 (some .boolean), Cond.methodLink RX1 159 yX1_roundAxis, Cond.static yX1_roundAxis, Cond.code yX1_roundAxis cX1_roundAxis 2 (some .int), Cond.fieldLink RX1 173 "ClashBoxes$Part" "tubeAxis" "I", Cond.methodLink RX1 169 yX0_isTube, Cond.instanceMethod yX0_isTube, Cond.selects RX0 yX0_isTube yX0_isTube, Cond.initialized RX0]
def wsX1_isPair_r2 : List Cond := [Cond.code yX0_isTube cX0_isTube 1 (some .boolean), Cond.fieldLink RX0 25 "ClashBoxes$Part" "tubeAxis" "I", Cond.methodLink RX1 162 yX1_overlap, Cond.static yX1_overlap, Cond.code yX1_overlap cX1_overlap 4 (some .boolean), Cond.methodLink RX1 108 yX0_hullLeast, Cond.instanceMethod yX0_hullLeast, Cond.selects RX0 yX0_hullLeast yX0_hullLeast, Cond.code yX0_hullLeast cX0_hullLeast 2 (some .int), Cond.fieldLink RX0 9 "ClashBoxes$Part" "least" "[I", Cond.fieldLink RX0 28 "ClashBoxes$Part" "radius" "I", Cond.methodLink RX1 117 yX0_hullGreatest, Cond.instanceMethod yX0_hullGreatest, Cond.selects RX0 yX0_hullGreatest yX0_hullGreatest, Cond.code yX0_hullGreatest cX0_hullGreatest 2 (some .int), Cond.fieldLink RX0 15 "ClashBoxes$Part" "greatest" "[I", Cond.methodLink RX1 166 yX1_isNear, Cond.static yX1_isNear, Cond.code yX1_isNear cX1_isNear 9 (some .boolean), Cond.fieldLink RX1 176 "ClashBoxes$Part" "radius" "I", Cond.methodLink RX1 112 Lib.Math.max.name, Cond.static Lib.Math.max.name, Cond.initialized "java/lang/Math", Cond.code Lib.Math.max.name Lib.Math.max.code 2 (some .int)]
def wsX1_isPair_r3 : List Cond := [Cond.methodLink RX1 179 yX1_coreGap, Cond.static yX1_coreGap, Cond.code yX1_coreGap cX1_coreGap 5 (some .int), Cond.fieldLink RX1 84 "ClashBoxes$Part" "least" "[I", Cond.fieldLink RX1 87 "ClashBoxes$Part" "greatest" "[I"]
def wsX1_isPair : List Cond := .code yX1_isPair cX1_isPair 6 (some .boolean) :: ((wsX1_isPair_r1 ++ (wsX1_isPair_r2 ++ wsX1_isPair_r3)) ++ wsX10 ++ wsX00)
def wsX1_countPartners_r1 : List Cond := [Cond.fieldLink RX1 19 "ClashBoxes" "made" "I", Cond.methodLink RX1 183 yX1_isPair, Cond.instanceMethod yX1_isPair, Cond.selects RX1 yX1_isPair yX1_isPair, Cond.initialized RX1, Cond.code yX1_isPair cX1_isPair 6 (some .boolean), Cond.fieldLink RX1 11 "ClashBoxes" "row" "[LClashBoxes$Part;", Cond.methodLink RX1 93 yX1_stateOf, Cond.instanceMethod yX1_stateOf, Cond.selects RX1 yX1_stateOf yX1_stateOf, Cond.code yX1_stateOf cX1_stateOf 4 (some .int), Cond.fieldLink RX1 152 "ClashBoxes$Part" "kind" "I", Cond.fieldLink RX1 75 "ClashBoxes$Part" "softSpace" "I", Cond.methodLink RX1 78 yX1_areFree, Cond.instanceMethod yX1_areFree, Cond.selects RX1 yX1_areFree yX1_areFree, Cond.code yX1_areFree cX1_areFree 3 (some .boolean), Cond.fieldLink RX1 15 "ClashBoxes" "freeKinds" "[Z", Cond.methodLink RX1 155 yX1_meet, Cond.static yX1_meet, Cond.code yX1_meet cX1_meet 4 (some .boolean), Cond.methodLink RX1 159 yX1_roundAxis, Cond.static yX1_roundAxis, Cond.code yX1_roundAxis cX1_roundAxis 2 (some .int)]
def wsX1_countPartners_r2 : List Cond := [Cond.fieldLink RX1 173 "ClashBoxes$Part" "tubeAxis" "I", Cond.methodLink RX1 169 yX0_isTube, Cond.instanceMethod yX0_isTube, Cond.selects RX0 yX0_isTube yX0_isTube, Cond.initialized RX0, Cond.code yX0_isTube cX0_isTube 1 (some .boolean), Cond.fieldLink RX0 25 "ClashBoxes$Part" "tubeAxis" "I", Cond.methodLink RX1 162 yX1_overlap, Cond.static yX1_overlap, Cond.code yX1_overlap cX1_overlap 4 (some .boolean), Cond.methodLink RX1 108 yX0_hullLeast, Cond.instanceMethod yX0_hullLeast, Cond.selects RX0 yX0_hullLeast yX0_hullLeast, Cond.code yX0_hullLeast cX0_hullLeast 2 (some .int), Cond.fieldLink RX0 9 "ClashBoxes$Part" "least" "[I", Cond.fieldLink RX0 28 "ClashBoxes$Part" "radius" "I", Cond.methodLink RX1 117 yX0_hullGreatest, Cond.instanceMethod yX0_hullGreatest, Cond.selects RX0 yX0_hullGreatest yX0_hullGreatest, Cond.code yX0_hullGreatest cX0_hullGreatest 2 (some .int), Cond.fieldLink RX0 15 "ClashBoxes$Part" "greatest" "[I", Cond.methodLink RX1 166 yX1_isNear, Cond.static yX1_isNear, Cond.code yX1_isNear cX1_isNear 9 (some .boolean)]
def wsX1_countPartners_r3 : List Cond := [Cond.fieldLink RX1 176 "ClashBoxes$Part" "radius" "I", Cond.methodLink RX1 112 Lib.Math.max.name, Cond.static Lib.Math.max.name, Cond.initialized "java/lang/Math", Cond.code Lib.Math.max.name Lib.Math.max.code 2 (some .int), Cond.methodLink RX1 179 yX1_coreGap, Cond.static yX1_coreGap, Cond.code yX1_coreGap cX1_coreGap 5 (some .int), Cond.fieldLink RX1 84 "ClashBoxes$Part" "least" "[I", Cond.fieldLink RX1 87 "ClashBoxes$Part" "greatest" "[I"]
def wsX1_countPartners : List Cond := .code yX1_countPartners cX1_countPartners 5 (some .int) :: ((wsX1_countPartners_r1 ++ (wsX1_countPartners_r2 ++ wsX1_countPartners_r3)) ++ wsX10 ++ wsX00)
def wsX1_clashes_r1 : List Cond := [Cond.fieldLink RX1 19 "ClashBoxes" "made" "I", Cond.methodLink RX1 67 yX1_isWithin, Cond.static yX1_isWithin, Cond.initialized RX1, Cond.code yX1_isWithin cX1_isWithin 3 (some .boolean), Cond.methodLink RX1 43 yX1_need, Cond.static yX1_need, Cond.code yX1_need cX1_need 1 none, Cond.classLink RX1 138 "java/lang/IllegalArgumentException", Cond.initialized "java/lang/IllegalArgumentException", Cond.methodLink RX1 97 yX1_countPartners, Cond.instanceMethod yX1_countPartners, Cond.selects RX1 yX1_countPartners yX1_countPartners, Cond.code yX1_countPartners cX1_countPartners 5 (some .int), Cond.methodLink RX1 183 yX1_isPair, Cond.instanceMethod yX1_isPair, Cond.selects RX1 yX1_isPair yX1_isPair, Cond.code yX1_isPair cX1_isPair 6 (some .boolean), Cond.fieldLink RX1 11 "ClashBoxes" "row" "[LClashBoxes$Part;", Cond.methodLink RX1 93 yX1_stateOf, Cond.instanceMethod yX1_stateOf, Cond.selects RX1 yX1_stateOf yX1_stateOf, Cond.code yX1_stateOf cX1_stateOf 4 (some .int), Cond.fieldLink RX1 152 "ClashBoxes$Part" "kind" "I"]
def wsX1_clashes_r2 : List Cond := [Cond.fieldLink RX1 75 "ClashBoxes$Part" "softSpace" "I", Cond.methodLink RX1 78 yX1_areFree, Cond.instanceMethod yX1_areFree, Cond.selects RX1 yX1_areFree yX1_areFree, Cond.code yX1_areFree cX1_areFree 3 (some .boolean), Cond.fieldLink RX1 15 "ClashBoxes" "freeKinds" "[Z", Cond.methodLink RX1 155 yX1_meet, Cond.static yX1_meet, Cond.code yX1_meet cX1_meet 4 (some .boolean), Cond.methodLink RX1 159 yX1_roundAxis, Cond.static yX1_roundAxis, Cond.code yX1_roundAxis cX1_roundAxis 2 (some .int), Cond.fieldLink RX1 173 "ClashBoxes$Part" "tubeAxis" "I", Cond.methodLink RX1 169 yX0_isTube, Cond.instanceMethod yX0_isTube, Cond.selects RX0 yX0_isTube yX0_isTube, Cond.initialized RX0, Cond.code yX0_isTube cX0_isTube 1 (some .boolean), Cond.fieldLink RX0 25 "ClashBoxes$Part" "tubeAxis" "I", Cond.methodLink RX1 162 yX1_overlap, Cond.static yX1_overlap, Cond.code yX1_overlap cX1_overlap 4 (some .boolean), Cond.methodLink RX1 108 yX0_hullLeast, Cond.instanceMethod yX0_hullLeast]
def wsX1_clashes_r3 : List Cond := [Cond.selects RX0 yX0_hullLeast yX0_hullLeast, Cond.code yX0_hullLeast cX0_hullLeast 2 (some .int), Cond.fieldLink RX0 9 "ClashBoxes$Part" "least" "[I", Cond.fieldLink RX0 28 "ClashBoxes$Part" "radius" "I", Cond.methodLink RX1 117 yX0_hullGreatest, Cond.instanceMethod yX0_hullGreatest, Cond.selects RX0 yX0_hullGreatest yX0_hullGreatest, Cond.code yX0_hullGreatest cX0_hullGreatest 2 (some .int), Cond.fieldLink RX0 15 "ClashBoxes$Part" "greatest" "[I", Cond.methodLink RX1 166 yX1_isNear, Cond.static yX1_isNear, Cond.code yX1_isNear cX1_isNear 9 (some .boolean), Cond.fieldLink RX1 176 "ClashBoxes$Part" "radius" "I", Cond.methodLink RX1 112 Lib.Math.max.name, Cond.static Lib.Math.max.name, Cond.initialized "java/lang/Math", Cond.code Lib.Math.max.name Lib.Math.max.code 2 (some .int), Cond.methodLink RX1 179 yX1_coreGap, Cond.static yX1_coreGap, Cond.code yX1_coreGap cX1_coreGap 5 (some .int), Cond.fieldLink RX1 84 "ClashBoxes$Part" "least" "[I", Cond.fieldLink RX1 87 "ClashBoxes$Part" "greatest" "[I"]
def wsX1_clashes : List Cond := .code yX1_clashes cX1_clashes 4 (some .int) :: ((wsX1_clashes_r1 ++ (wsX1_clashes_r2 ++ wsX1_clashes_r3)) ++ wsX10 ++ wsX00 ++ (vx_atS RX1 142 "java/lang/IllegalArgumentException" ["java/lang/RuntimeException", "java/lang/Exception"]).filter goodWord)
def wsX1_partnerAt_r1 : List Cond := [Cond.fieldLink RX1 19 "ClashBoxes" "made" "I", Cond.methodLink RX1 183 yX1_isPair, Cond.instanceMethod yX1_isPair, Cond.selects RX1 yX1_isPair yX1_isPair, Cond.initialized RX1, Cond.code yX1_isPair cX1_isPair 6 (some .boolean), Cond.fieldLink RX1 11 "ClashBoxes" "row" "[LClashBoxes$Part;", Cond.methodLink RX1 93 yX1_stateOf, Cond.instanceMethod yX1_stateOf, Cond.selects RX1 yX1_stateOf yX1_stateOf, Cond.code yX1_stateOf cX1_stateOf 4 (some .int), Cond.fieldLink RX1 152 "ClashBoxes$Part" "kind" "I", Cond.fieldLink RX1 75 "ClashBoxes$Part" "softSpace" "I", Cond.methodLink RX1 78 yX1_areFree, Cond.instanceMethod yX1_areFree, Cond.selects RX1 yX1_areFree yX1_areFree, Cond.code yX1_areFree cX1_areFree 3 (some .boolean), Cond.fieldLink RX1 15 "ClashBoxes" "freeKinds" "[Z", Cond.methodLink RX1 155 yX1_meet, Cond.static yX1_meet, Cond.code yX1_meet cX1_meet 4 (some .boolean), Cond.methodLink RX1 159 yX1_roundAxis, Cond.static yX1_roundAxis, Cond.code yX1_roundAxis cX1_roundAxis 2 (some .int)]
def wsX1_partnerAt_r2 : List Cond := [Cond.fieldLink RX1 173 "ClashBoxes$Part" "tubeAxis" "I", Cond.methodLink RX1 169 yX0_isTube, Cond.instanceMethod yX0_isTube, Cond.selects RX0 yX0_isTube yX0_isTube, Cond.initialized RX0, Cond.code yX0_isTube cX0_isTube 1 (some .boolean), Cond.fieldLink RX0 25 "ClashBoxes$Part" "tubeAxis" "I", Cond.methodLink RX1 162 yX1_overlap, Cond.static yX1_overlap, Cond.code yX1_overlap cX1_overlap 4 (some .boolean), Cond.methodLink RX1 108 yX0_hullLeast, Cond.instanceMethod yX0_hullLeast, Cond.selects RX0 yX0_hullLeast yX0_hullLeast, Cond.code yX0_hullLeast cX0_hullLeast 2 (some .int), Cond.fieldLink RX0 9 "ClashBoxes$Part" "least" "[I", Cond.fieldLink RX0 28 "ClashBoxes$Part" "radius" "I", Cond.methodLink RX1 117 yX0_hullGreatest, Cond.instanceMethod yX0_hullGreatest, Cond.selects RX0 yX0_hullGreatest yX0_hullGreatest, Cond.code yX0_hullGreatest cX0_hullGreatest 2 (some .int), Cond.fieldLink RX0 15 "ClashBoxes$Part" "greatest" "[I", Cond.methodLink RX1 166 yX1_isNear, Cond.static yX1_isNear, Cond.code yX1_isNear cX1_isNear 9 (some .boolean)]
def wsX1_partnerAt_r3 : List Cond := [Cond.fieldLink RX1 176 "ClashBoxes$Part" "radius" "I", Cond.methodLink RX1 112 Lib.Math.max.name, Cond.static Lib.Math.max.name, Cond.initialized "java/lang/Math", Cond.code Lib.Math.max.name Lib.Math.max.code 2 (some .int), Cond.methodLink RX1 179 yX1_coreGap, Cond.static yX1_coreGap, Cond.code yX1_coreGap cX1_coreGap 5 (some .int), Cond.fieldLink RX1 84 "ClashBoxes$Part" "least" "[I", Cond.fieldLink RX1 87 "ClashBoxes$Part" "greatest" "[I"]
def wsX1_partnerAt : List Cond := .code yX1_partnerAt cX1_partnerAt 6 (some .int) :: ((wsX1_partnerAt_r1 ++ (wsX1_partnerAt_r2 ++ wsX1_partnerAt_r3)) ++ wsX10 ++ wsX00)
def wsX1_clash_r1 : List Cond := [Cond.fieldLink RX1 19 "ClashBoxes" "made" "I", Cond.methodLink RX1 67 yX1_isWithin, Cond.static yX1_isWithin, Cond.initialized RX1, Cond.code yX1_isWithin cX1_isWithin 3 (some .boolean), Cond.methodLink RX1 43 yX1_need, Cond.static yX1_need, Cond.code yX1_need cX1_need 1 none, Cond.classLink RX1 138 "java/lang/IllegalArgumentException", Cond.initialized "java/lang/IllegalArgumentException", Cond.methodLink RX1 97 yX1_countPartners, Cond.instanceMethod yX1_countPartners, Cond.selects RX1 yX1_countPartners yX1_countPartners, Cond.code yX1_countPartners cX1_countPartners 5 (some .int), Cond.methodLink RX1 183 yX1_isPair, Cond.instanceMethod yX1_isPair, Cond.selects RX1 yX1_isPair yX1_isPair, Cond.code yX1_isPair cX1_isPair 6 (some .boolean), Cond.fieldLink RX1 11 "ClashBoxes" "row" "[LClashBoxes$Part;", Cond.methodLink RX1 93 yX1_stateOf, Cond.instanceMethod yX1_stateOf, Cond.selects RX1 yX1_stateOf yX1_stateOf, Cond.code yX1_stateOf cX1_stateOf 4 (some .int), Cond.fieldLink RX1 152 "ClashBoxes$Part" "kind" "I"]
def wsX1_clash_r2 : List Cond := [Cond.fieldLink RX1 75 "ClashBoxes$Part" "softSpace" "I", Cond.methodLink RX1 78 yX1_areFree, Cond.instanceMethod yX1_areFree, Cond.selects RX1 yX1_areFree yX1_areFree, Cond.code yX1_areFree cX1_areFree 3 (some .boolean), Cond.fieldLink RX1 15 "ClashBoxes" "freeKinds" "[Z", Cond.methodLink RX1 155 yX1_meet, Cond.static yX1_meet, Cond.code yX1_meet cX1_meet 4 (some .boolean), Cond.methodLink RX1 159 yX1_roundAxis, Cond.static yX1_roundAxis, Cond.code yX1_roundAxis cX1_roundAxis 2 (some .int), Cond.fieldLink RX1 173 "ClashBoxes$Part" "tubeAxis" "I", Cond.methodLink RX1 169 yX0_isTube, Cond.instanceMethod yX0_isTube, Cond.selects RX0 yX0_isTube yX0_isTube, Cond.initialized RX0, Cond.code yX0_isTube cX0_isTube 1 (some .boolean), Cond.fieldLink RX0 25 "ClashBoxes$Part" "tubeAxis" "I", Cond.methodLink RX1 162 yX1_overlap, Cond.static yX1_overlap, Cond.code yX1_overlap cX1_overlap 4 (some .boolean), Cond.methodLink RX1 108 yX0_hullLeast, Cond.instanceMethod yX0_hullLeast]
def wsX1_clash_r3 : List Cond := [Cond.selects RX0 yX0_hullLeast yX0_hullLeast, Cond.code yX0_hullLeast cX0_hullLeast 2 (some .int), Cond.fieldLink RX0 9 "ClashBoxes$Part" "least" "[I", Cond.fieldLink RX0 28 "ClashBoxes$Part" "radius" "I", Cond.methodLink RX1 117 yX0_hullGreatest, Cond.instanceMethod yX0_hullGreatest, Cond.selects RX0 yX0_hullGreatest yX0_hullGreatest, Cond.code yX0_hullGreatest cX0_hullGreatest 2 (some .int), Cond.fieldLink RX0 15 "ClashBoxes$Part" "greatest" "[I", Cond.methodLink RX1 166 yX1_isNear, Cond.static yX1_isNear, Cond.code yX1_isNear cX1_isNear 9 (some .boolean), Cond.fieldLink RX1 176 "ClashBoxes$Part" "radius" "I", Cond.methodLink RX1 112 Lib.Math.max.name, Cond.static Lib.Math.max.name, Cond.initialized "java/lang/Math", Cond.code Lib.Math.max.name Lib.Math.max.code 2 (some .int), Cond.methodLink RX1 179 yX1_coreGap, Cond.static yX1_coreGap, Cond.code yX1_coreGap cX1_coreGap 5 (some .int), Cond.fieldLink RX1 84 "ClashBoxes$Part" "least" "[I", Cond.fieldLink RX1 87 "ClashBoxes$Part" "greatest" "[I", Cond.methodLink RX1 101 yX1_partnerAt, Cond.instanceMethod yX1_partnerAt]
def wsX1_clash_r4 : List Cond := [Cond.selects RX1 yX1_partnerAt yX1_partnerAt, Cond.code yX1_partnerAt cX1_partnerAt 6 (some .int)]
def wsX1_clash : List Cond := .code yX1_clash cX1_clash 7 (some .int) :: ((wsX1_clash_r1 ++ (wsX1_clash_r2 ++ (wsX1_clash_r3 ++ wsX1_clash_r4))) ++ wsX10 ++ wsX00 ++ (vx_atS RX1 142 "java/lang/IllegalArgumentException" ["java/lang/RuntimeException", "java/lang/Exception"]).filter goodWord)
def wsX1_joinNames : List Cond := .code yX1_joinNames cX1_joinNames 4 none :: ([.fieldLink RX1 19 "ClashBoxes" "made" "I", .fieldLink RX1 26 "ClashBoxes" "names" "[I"] ++ wsX10)
def wsX1_nameGroups_r1 : List Cond := [Cond.fieldLink RX1 19 "ClashBoxes" "made" "I", Cond.fieldLink RX1 26 "ClashBoxes" "names" "[I", Cond.methodLink RX1 120 Lib.Math.min.name, Cond.static Lib.Math.min.name, Cond.initialized "java/lang/Math", Cond.code Lib.Math.min.name Lib.Math.min.code 2 (some .int), Cond.methodLink RX1 112 Lib.Math.max.name, Cond.static Lib.Math.max.name, Cond.code Lib.Math.max.name Lib.Math.max.code 2 (some .int), Cond.methodLink RX1 183 yX1_isPair, Cond.instanceMethod yX1_isPair, Cond.selects RX1 yX1_isPair yX1_isPair, Cond.initialized RX1, Cond.code yX1_isPair cX1_isPair 6 (some .boolean), Cond.fieldLink RX1 11 "ClashBoxes" "row" "[LClashBoxes$Part;", Cond.methodLink RX1 93 yX1_stateOf, Cond.instanceMethod yX1_stateOf, Cond.selects RX1 yX1_stateOf yX1_stateOf, Cond.code yX1_stateOf cX1_stateOf 4 (some .int), Cond.fieldLink RX1 152 "ClashBoxes$Part" "kind" "I", Cond.fieldLink RX1 75 "ClashBoxes$Part" "softSpace" "I", Cond.methodLink RX1 78 yX1_areFree, Cond.instanceMethod yX1_areFree, Cond.selects RX1 yX1_areFree yX1_areFree]
def wsX1_nameGroups_r2 : List Cond := [Cond.code yX1_areFree cX1_areFree 3 (some .boolean), Cond.fieldLink RX1 15 "ClashBoxes" "freeKinds" "[Z", Cond.methodLink RX1 155 yX1_meet, Cond.static yX1_meet, Cond.code yX1_meet cX1_meet 4 (some .boolean), Cond.methodLink RX1 159 yX1_roundAxis, Cond.static yX1_roundAxis, Cond.code yX1_roundAxis cX1_roundAxis 2 (some .int), Cond.fieldLink RX1 173 "ClashBoxes$Part" "tubeAxis" "I", Cond.methodLink RX1 169 yX0_isTube, Cond.instanceMethod yX0_isTube, Cond.selects RX0 yX0_isTube yX0_isTube, Cond.initialized RX0, Cond.code yX0_isTube cX0_isTube 1 (some .boolean), Cond.fieldLink RX0 25 "ClashBoxes$Part" "tubeAxis" "I", Cond.methodLink RX1 162 yX1_overlap, Cond.static yX1_overlap, Cond.code yX1_overlap cX1_overlap 4 (some .boolean), Cond.methodLink RX1 108 yX0_hullLeast, Cond.instanceMethod yX0_hullLeast, Cond.selects RX0 yX0_hullLeast yX0_hullLeast, Cond.code yX0_hullLeast cX0_hullLeast 2 (some .int), Cond.fieldLink RX0 9 "ClashBoxes$Part" "least" "[I", Cond.fieldLink RX0 28 "ClashBoxes$Part" "radius" "I"]
def wsX1_nameGroups_r3 : List Cond := [Cond.methodLink RX1 117 yX0_hullGreatest, Cond.instanceMethod yX0_hullGreatest, Cond.selects RX0 yX0_hullGreatest yX0_hullGreatest, Cond.code yX0_hullGreatest cX0_hullGreatest 2 (some .int), Cond.fieldLink RX0 15 "ClashBoxes$Part" "greatest" "[I", Cond.methodLink RX1 166 yX1_isNear, Cond.static yX1_isNear, Cond.code yX1_isNear cX1_isNear 9 (some .boolean), Cond.fieldLink RX1 176 "ClashBoxes$Part" "radius" "I", Cond.methodLink RX1 179 yX1_coreGap, Cond.static yX1_coreGap, Cond.code yX1_coreGap cX1_coreGap 5 (some .int), Cond.fieldLink RX1 84 "ClashBoxes$Part" "least" "[I", Cond.fieldLink RX1 87 "ClashBoxes$Part" "greatest" "[I", Cond.methodLink RX1 186 yX1_joinNames, Cond.instanceMethod yX1_joinNames, Cond.selects RX1 yX1_joinNames yX1_joinNames, Cond.code yX1_joinNames cX1_joinNames 4 none]
def wsX1_nameGroups : List Cond := .code yX1_nameGroups cX1_nameGroups 3 none :: ((wsX1_nameGroups_r1 ++ (wsX1_nameGroups_r2 ++ wsX1_nameGroups_r3)) ++ wsX10 ++ wsX00)
def wsX1_groups_r1 : List Cond := [Cond.fieldLink RX1 19 "ClashBoxes" "made" "I", Cond.fieldLink RX1 30 "ClashBoxes" "sizes" "[I", Cond.fieldLink RX1 26 "ClashBoxes" "names" "[I", Cond.methodLink RX1 105 yX1_nameGroups, Cond.instanceMethod yX1_nameGroups, Cond.selects RX1 yX1_nameGroups yX1_nameGroups, Cond.initialized RX1, Cond.code yX1_nameGroups cX1_nameGroups 3 none, Cond.methodLink RX1 120 Lib.Math.min.name, Cond.static Lib.Math.min.name, Cond.initialized "java/lang/Math", Cond.code Lib.Math.min.name Lib.Math.min.code 2 (some .int), Cond.methodLink RX1 112 Lib.Math.max.name, Cond.static Lib.Math.max.name, Cond.code Lib.Math.max.name Lib.Math.max.code 2 (some .int), Cond.methodLink RX1 183 yX1_isPair, Cond.instanceMethod yX1_isPair, Cond.selects RX1 yX1_isPair yX1_isPair, Cond.code yX1_isPair cX1_isPair 6 (some .boolean), Cond.fieldLink RX1 11 "ClashBoxes" "row" "[LClashBoxes$Part;", Cond.methodLink RX1 93 yX1_stateOf, Cond.instanceMethod yX1_stateOf, Cond.selects RX1 yX1_stateOf yX1_stateOf, Cond.code yX1_stateOf cX1_stateOf 4 (some .int)]
def wsX1_groups_r2 : List Cond := [Cond.fieldLink RX1 152 "ClashBoxes$Part" "kind" "I", Cond.fieldLink RX1 75 "ClashBoxes$Part" "softSpace" "I", Cond.methodLink RX1 78 yX1_areFree, Cond.instanceMethod yX1_areFree, Cond.selects RX1 yX1_areFree yX1_areFree, Cond.code yX1_areFree cX1_areFree 3 (some .boolean), Cond.fieldLink RX1 15 "ClashBoxes" "freeKinds" "[Z", Cond.methodLink RX1 155 yX1_meet, Cond.static yX1_meet, Cond.code yX1_meet cX1_meet 4 (some .boolean), Cond.methodLink RX1 159 yX1_roundAxis, Cond.static yX1_roundAxis, Cond.code yX1_roundAxis cX1_roundAxis 2 (some .int), Cond.fieldLink RX1 173 "ClashBoxes$Part" "tubeAxis" "I", Cond.methodLink RX1 169 yX0_isTube, Cond.instanceMethod yX0_isTube, Cond.selects RX0 yX0_isTube yX0_isTube, Cond.initialized RX0, Cond.code yX0_isTube cX0_isTube 1 (some .boolean), Cond.fieldLink RX0 25 "ClashBoxes$Part" "tubeAxis" "I", Cond.methodLink RX1 162 yX1_overlap, Cond.static yX1_overlap, Cond.code yX1_overlap cX1_overlap 4 (some .boolean), Cond.methodLink RX1 108 yX0_hullLeast]
def wsX1_groups_r3 : List Cond := [Cond.instanceMethod yX0_hullLeast, Cond.selects RX0 yX0_hullLeast yX0_hullLeast, Cond.code yX0_hullLeast cX0_hullLeast 2 (some .int), Cond.fieldLink RX0 9 "ClashBoxes$Part" "least" "[I", Cond.fieldLink RX0 28 "ClashBoxes$Part" "radius" "I", Cond.methodLink RX1 117 yX0_hullGreatest, Cond.instanceMethod yX0_hullGreatest, Cond.selects RX0 yX0_hullGreatest yX0_hullGreatest, Cond.code yX0_hullGreatest cX0_hullGreatest 2 (some .int), Cond.fieldLink RX0 15 "ClashBoxes$Part" "greatest" "[I", Cond.methodLink RX1 166 yX1_isNear, Cond.static yX1_isNear, Cond.code yX1_isNear cX1_isNear 9 (some .boolean), Cond.fieldLink RX1 176 "ClashBoxes$Part" "radius" "I", Cond.methodLink RX1 179 yX1_coreGap, Cond.static yX1_coreGap, Cond.code yX1_coreGap cX1_coreGap 5 (some .int), Cond.fieldLink RX1 84 "ClashBoxes$Part" "least" "[I", Cond.fieldLink RX1 87 "ClashBoxes$Part" "greatest" "[I", Cond.methodLink RX1 186 yX1_joinNames, Cond.instanceMethod yX1_joinNames, Cond.selects RX1 yX1_joinNames yX1_joinNames, Cond.code yX1_joinNames cX1_joinNames 4 none]
def wsX1_groups : List Cond := .code yX1_groups cX1_groups 4 (some .int) :: ((wsX1_groups_r1 ++ (wsX1_groups_r2 ++ wsX1_groups_r3)) ++ wsX10 ++ wsX00)
def wsX1_group_r1 : List Cond := [Cond.fieldLink RX1 26 "ClashBoxes" "names" "[I", Cond.methodLink RX1 90 yX1_isThere, Cond.instanceMethod yX1_isThere, Cond.selects RX1 yX1_isThere yX1_isThere, Cond.initialized RX1, Cond.code yX1_isThere cX1_isThere 2 (some .boolean), Cond.fieldLink RX1 11 "ClashBoxes" "row" "[LClashBoxes$Part;", Cond.methodLink RX1 67 yX1_isWithin, Cond.static yX1_isWithin, Cond.code yX1_isWithin cX1_isWithin 3 (some .boolean), Cond.methodLink RX1 43 yX1_need, Cond.static yX1_need, Cond.code yX1_need cX1_need 1 none, Cond.classLink RX1 138 "java/lang/IllegalArgumentException", Cond.initialized "java/lang/IllegalArgumentException", Cond.methodLink RX1 105 yX1_nameGroups, Cond.instanceMethod yX1_nameGroups, Cond.selects RX1 yX1_nameGroups yX1_nameGroups, Cond.code yX1_nameGroups cX1_nameGroups 3 none, Cond.fieldLink RX1 19 "ClashBoxes" "made" "I", Cond.methodLink RX1 120 Lib.Math.min.name, Cond.static Lib.Math.min.name, Cond.initialized "java/lang/Math", Cond.code Lib.Math.min.name Lib.Math.min.code 2 (some .int)]
def wsX1_group_r2 : List Cond := [Cond.methodLink RX1 112 Lib.Math.max.name, Cond.static Lib.Math.max.name, Cond.code Lib.Math.max.name Lib.Math.max.code 2 (some .int), Cond.methodLink RX1 183 yX1_isPair, Cond.instanceMethod yX1_isPair, Cond.selects RX1 yX1_isPair yX1_isPair, Cond.code yX1_isPair cX1_isPair 6 (some .boolean), Cond.methodLink RX1 93 yX1_stateOf, Cond.instanceMethod yX1_stateOf, Cond.selects RX1 yX1_stateOf yX1_stateOf, Cond.code yX1_stateOf cX1_stateOf 4 (some .int), Cond.fieldLink RX1 152 "ClashBoxes$Part" "kind" "I", Cond.fieldLink RX1 75 "ClashBoxes$Part" "softSpace" "I", Cond.methodLink RX1 78 yX1_areFree, Cond.instanceMethod yX1_areFree, Cond.selects RX1 yX1_areFree yX1_areFree, Cond.code yX1_areFree cX1_areFree 3 (some .boolean), Cond.fieldLink RX1 15 "ClashBoxes" "freeKinds" "[Z", Cond.methodLink RX1 155 yX1_meet, Cond.static yX1_meet, Cond.code yX1_meet cX1_meet 4 (some .boolean), Cond.methodLink RX1 159 yX1_roundAxis, Cond.static yX1_roundAxis, Cond.code yX1_roundAxis cX1_roundAxis 2 (some .int)]
def wsX1_group_r3 : List Cond := [Cond.fieldLink RX1 173 "ClashBoxes$Part" "tubeAxis" "I", Cond.methodLink RX1 169 yX0_isTube, Cond.instanceMethod yX0_isTube, Cond.selects RX0 yX0_isTube yX0_isTube, Cond.initialized RX0, Cond.code yX0_isTube cX0_isTube 1 (some .boolean), Cond.fieldLink RX0 25 "ClashBoxes$Part" "tubeAxis" "I", Cond.methodLink RX1 162 yX1_overlap, Cond.static yX1_overlap, Cond.code yX1_overlap cX1_overlap 4 (some .boolean), Cond.methodLink RX1 108 yX0_hullLeast, Cond.instanceMethod yX0_hullLeast, Cond.selects RX0 yX0_hullLeast yX0_hullLeast, Cond.code yX0_hullLeast cX0_hullLeast 2 (some .int), Cond.fieldLink RX0 9 "ClashBoxes$Part" "least" "[I", Cond.fieldLink RX0 28 "ClashBoxes$Part" "radius" "I", Cond.methodLink RX1 117 yX0_hullGreatest, Cond.instanceMethod yX0_hullGreatest, Cond.selects RX0 yX0_hullGreatest yX0_hullGreatest, Cond.code yX0_hullGreatest cX0_hullGreatest 2 (some .int), Cond.fieldLink RX0 15 "ClashBoxes$Part" "greatest" "[I", Cond.methodLink RX1 166 yX1_isNear, Cond.static yX1_isNear, Cond.code yX1_isNear cX1_isNear 9 (some .boolean)]
def wsX1_group_r4 : List Cond := [Cond.fieldLink RX1 176 "ClashBoxes$Part" "radius" "I", Cond.methodLink RX1 179 yX1_coreGap, Cond.static yX1_coreGap, Cond.code yX1_coreGap cX1_coreGap 5 (some .int), Cond.fieldLink RX1 84 "ClashBoxes$Part" "least" "[I", Cond.fieldLink RX1 87 "ClashBoxes$Part" "greatest" "[I", Cond.methodLink RX1 186 yX1_joinNames, Cond.instanceMethod yX1_joinNames, Cond.selects RX1 yX1_joinNames yX1_joinNames, Cond.code yX1_joinNames cX1_joinNames 4 none]
def wsX1_group : List Cond := .code yX1_group cX1_group 2 (some .int) :: ((wsX1_group_r1 ++ (wsX1_group_r2 ++ (wsX1_group_r3 ++ wsX1_group_r4))) ++ wsX10 ++ wsX00 ++ (vx_atS RX1 142 "java/lang/IllegalArgumentException" ["java/lang/RuntimeException", "java/lang/Exception"]).filter goodWord)
def wsX1_common_r1 : List Cond := [Cond.methodLink RX1 112 Lib.Math.max.name, Cond.static Lib.Math.max.name, Cond.initialized "java/lang/Math", Cond.code Lib.Math.max.name Lib.Math.max.code 2 (some .int), Cond.methodLink RX1 120 Lib.Math.min.name, Cond.static Lib.Math.min.name, Cond.code Lib.Math.min.name Lib.Math.min.code 2 (some .int), Cond.methodLink RX1 71 yX1_partAt, Cond.instanceMethod yX1_partAt, Cond.selects RX1 yX1_partAt yX1_partAt, Cond.initialized RX1, Cond.code yX1_partAt cX1_partAt 3 (some (.object "ClashBoxes$Part")), Cond.classLink RX1 138 "java/lang/IllegalArgumentException", Cond.initialized "java/lang/IllegalArgumentException", Cond.fieldLink RX1 11 "ClashBoxes" "row" "[LClashBoxes$Part;", Cond.methodLink RX1 67 yX1_isWithin, Cond.static yX1_isWithin, Cond.code yX1_isWithin cX1_isWithin 3 (some .boolean), Cond.methodLink RX1 43 yX1_need, Cond.static yX1_need, Cond.code yX1_need cX1_need 1 none, Cond.methodLink RX1 108 yX0_hullLeast, Cond.instanceMethod yX0_hullLeast, Cond.selects RX0 yX0_hullLeast yX0_hullLeast]
def wsX1_common_r2 : List Cond := [Cond.initialized RX0, Cond.code yX0_hullLeast cX0_hullLeast 2 (some .int), Cond.fieldLink RX0 25 "ClashBoxes$Part" "tubeAxis" "I", Cond.fieldLink RX0 9 "ClashBoxes$Part" "least" "[I", Cond.fieldLink RX0 28 "ClashBoxes$Part" "radius" "I", Cond.methodLink RX1 117 yX0_hullGreatest, Cond.instanceMethod yX0_hullGreatest, Cond.selects RX0 yX0_hullGreatest yX0_hullGreatest, Cond.code yX0_hullGreatest cX0_hullGreatest 2 (some .int), Cond.fieldLink RX0 15 "ClashBoxes$Part" "greatest" "[I"]
def wsX1_common : List Cond := .code yX1_common cX1_common 10 (some .long) :: ((wsX1_common_r1 ++ wsX1_common_r2) ++ wsX10 ++ wsX00 ++ (vx_atS RX1 142 "java/lang/IllegalArgumentException" ["java/lang/RuntimeException", "java/lang/Exception"]).filter goodWord)
def wsX1_isSeen : List Cond := .code yX1_isSeen cX1_isSeen 2 (some .boolean) :: ([.methodLink RX1 67 yX1_isWithin, .static yX1_isWithin, .initialized RX1, .code yX1_isWithin cX1_isWithin 3 (some .boolean)])
def wsX1_cuts : List Cond := .code yX1_cuts cX1_cuts 4 (some .boolean) :: ([.methodLink RX1 108 yX0_hullLeast, .instanceMethod yX0_hullLeast, .selects RX0 yX0_hullLeast yX0_hullLeast, .initialized RX0, .code yX0_hullLeast cX0_hullLeast 2 (some .int), .fieldLink RX0 25 "ClashBoxes$Part" "tubeAxis" "I", .fieldLink RX0 9 "ClashBoxes$Part" "least" "[I", .fieldLink RX0 28 "ClashBoxes$Part" "radius" "I", .methodLink RX1 117 yX0_hullGreatest, .instanceMethod yX0_hullGreatest, .selects RX0 yX0_hullGreatest yX0_hullGreatest, .code yX0_hullGreatest cX0_hullGreatest 2 (some .int), .fieldLink RX0 15 "ClashBoxes$Part" "greatest" "[I"] ++ wsX00)
def wsX1_inside_r1 : List Cond := [Cond.fieldLink RX1 19 "ClashBoxes" "made" "I", Cond.fieldLink RX1 11 "ClashBoxes" "row" "[LClashBoxes$Part;", Cond.methodLink RX1 123 yX1_isSeen, Cond.static yX1_isSeen, Cond.initialized RX1, Cond.code yX1_isSeen cX1_isSeen 2 (some .boolean), Cond.methodLink RX1 67 yX1_isWithin, Cond.static yX1_isWithin, Cond.code yX1_isWithin cX1_isWithin 3 (some .boolean), Cond.methodLink RX1 43 yX1_need, Cond.static yX1_need, Cond.code yX1_need cX1_need 1 none, Cond.classLink RX1 138 "java/lang/IllegalArgumentException", Cond.initialized "java/lang/IllegalArgumentException", Cond.methodLink RX1 126 yX1_cuts, Cond.static yX1_cuts, Cond.code yX1_cuts cX1_cuts 4 (some .boolean), Cond.methodLink RX1 108 yX0_hullLeast, Cond.instanceMethod yX0_hullLeast, Cond.selects RX0 yX0_hullLeast yX0_hullLeast, Cond.initialized RX0, Cond.code yX0_hullLeast cX0_hullLeast 2 (some .int), Cond.fieldLink RX0 25 "ClashBoxes$Part" "tubeAxis" "I", Cond.fieldLink RX0 9 "ClashBoxes$Part" "least" "[I"]
def wsX1_inside_r2 : List Cond := [Cond.fieldLink RX0 28 "ClashBoxes$Part" "radius" "I", Cond.methodLink RX1 117 yX0_hullGreatest, Cond.instanceMethod yX0_hullGreatest, Cond.selects RX0 yX0_hullGreatest yX0_hullGreatest, Cond.code yX0_hullGreatest cX0_hullGreatest 2 (some .int), Cond.fieldLink RX0 15 "ClashBoxes$Part" "greatest" "[I"]
def wsX1_inside : List Cond := .code yX1_inside cX1_inside 11 (some .int) :: ((wsX1_inside_r1 ++ wsX1_inside_r2) ++ wsX10 ++ wsX00 ++ (vx_atS RX1 142 "java/lang/IllegalArgumentException" ["java/lang/RuntimeException", "java/lang/Exception"]).filter goodWord)
def wsX1_overlapAcross : List Cond := .code yX1_overlapAcross cX1_overlapAcross 4 (some .boolean) :: ([.methodLink RX1 162 yX1_overlap, .static yX1_overlap, .initialized RX1, .code yX1_overlap cX1_overlap 4 (some .boolean), .methodLink RX1 108 yX0_hullLeast, .instanceMethod yX0_hullLeast, .selects RX0 yX0_hullLeast yX0_hullLeast, .initialized RX0, .code yX0_hullLeast cX0_hullLeast 2 (some .int), .fieldLink RX0 25 "ClashBoxes$Part" "tubeAxis" "I", .fieldLink RX0 9 "ClashBoxes$Part" "least" "[I", .fieldLink RX0 28 "ClashBoxes$Part" "radius" "I", .methodLink RX1 117 yX0_hullGreatest, .instanceMethod yX0_hullGreatest, .selects RX0 yX0_hullGreatest yX0_hullGreatest, .code yX0_hullGreatest cX0_hullGreatest 2 (some .int), .fieldLink RX0 15 "ClashBoxes$Part" "greatest" "[I"] ++ wsX00)
def wsX1_thirdAxis : List Cond := .code yX1_thirdAxis cX1_thirdAxis 2 (some .int) :: ([])
def wsX1_roundWidth : List Cond := .code yX1_roundWidth cX1_roundWidth 7 (some .int) :: ([.fieldLink RX1 176 "ClashBoxes$Part" "radius" "I", .methodLink RX1 179 yX1_coreGap, .static yX1_coreGap, .initialized RX1, .code yX1_coreGap cX1_coreGap 5 (some .int), .fieldLink RX1 84 "ClashBoxes$Part" "least" "[I", .fieldLink RX1 87 "ClashBoxes$Part" "greatest" "[I", .methodLink RX1 112 Lib.Math.max.name, .static Lib.Math.max.name, .initialized "java/lang/Math", .code Lib.Math.max.name Lib.Math.max.code 2 (some .int)] ++ wsX00)
def wsX1_noteBlock_r1 : List Cond := [Cond.fieldLink RX1 33 "ClashBoxes" "blockLeast" "[I", Cond.fieldLink RX1 36 "ClashBoxes" "blockGreatest" "[I", Cond.fieldLink RX1 84 "ClashBoxes$Part" "least" "[I", Cond.fieldLink RX1 87 "ClashBoxes$Part" "greatest" "[I", Cond.methodLink RX1 159 yX1_roundAxis, Cond.static yX1_roundAxis, Cond.initialized RX1, Cond.code yX1_roundAxis cX1_roundAxis 2 (some .int), Cond.fieldLink RX1 173 "ClashBoxes$Part" "tubeAxis" "I", Cond.methodLink RX1 169 yX0_isTube, Cond.instanceMethod yX0_isTube, Cond.selects RX0 yX0_isTube yX0_isTube, Cond.initialized RX0, Cond.code yX0_isTube cX0_isTube 1 (some .boolean), Cond.fieldLink RX0 25 "ClashBoxes$Part" "tubeAxis" "I", Cond.methodLink RX1 108 yX0_hullLeast, Cond.instanceMethod yX0_hullLeast, Cond.selects RX0 yX0_hullLeast yX0_hullLeast, Cond.code yX0_hullLeast cX0_hullLeast 2 (some .int), Cond.fieldLink RX0 9 "ClashBoxes$Part" "least" "[I", Cond.fieldLink RX0 28 "ClashBoxes$Part" "radius" "I", Cond.methodLink RX1 117 yX0_hullGreatest, Cond.instanceMethod yX0_hullGreatest, Cond.selects RX0 yX0_hullGreatest yX0_hullGreatest]
def wsX1_noteBlock_r2 : List Cond := [Cond.code yX0_hullGreatest cX0_hullGreatest 2 (some .int), Cond.fieldLink RX0 15 "ClashBoxes$Part" "greatest" "[I", Cond.methodLink RX1 194 yX1_overlapAcross, Cond.static yX1_overlapAcross, Cond.code yX1_overlapAcross cX1_overlapAcross 4 (some .boolean), Cond.methodLink RX1 162 yX1_overlap, Cond.static yX1_overlap, Cond.code yX1_overlap cX1_overlap 4 (some .boolean), Cond.methodLink RX1 166 yX1_isNear, Cond.static yX1_isNear, Cond.code yX1_isNear cX1_isNear 9 (some .boolean), Cond.fieldLink RX1 176 "ClashBoxes$Part" "radius" "I", Cond.methodLink RX1 112 Lib.Math.max.name, Cond.static Lib.Math.max.name, Cond.initialized "java/lang/Math", Cond.code Lib.Math.max.name Lib.Math.max.code 2 (some .int), Cond.methodLink RX1 179 yX1_coreGap, Cond.static yX1_coreGap, Cond.code yX1_coreGap cX1_coreGap 5 (some .int), Cond.methodLink RX1 198 yX1_thirdAxis, Cond.static yX1_thirdAxis, Cond.code yX1_thirdAxis cX1_thirdAxis 2 (some .int), Cond.methodLink RX1 201 yX1_roundWidth, Cond.static yX1_roundWidth]
def wsX1_noteBlock_r3 : List Cond := [Cond.code yX1_roundWidth cX1_roundWidth 7 (some .int)]
def wsX1_noteBlock : List Cond := .code yX1_noteBlock cX1_noteBlock 7 (some .boolean) :: ((wsX1_noteBlock_r1 ++ (wsX1_noteBlock_r2 ++ wsX1_noteBlock_r3)) ++ wsX10 ++ wsX00)
def wsX1_findBlocks_r1 : List Cond := [Cond.fieldLink RX1 19 "ClashBoxes" "made" "I", Cond.fieldLink RX1 11 "ClashBoxes" "row" "[LClashBoxes$Part;", Cond.fieldLink RX1 152 "ClashBoxes$Part" "kind" "I", Cond.methodLink RX1 78 yX1_areFree, Cond.instanceMethod yX1_areFree, Cond.selects RX1 yX1_areFree yX1_areFree, Cond.initialized RX1, Cond.code yX1_areFree cX1_areFree 3 (some .boolean), Cond.fieldLink RX1 15 "ClashBoxes" "freeKinds" "[Z", Cond.methodLink RX1 190 yX1_noteBlock, Cond.instanceMethod yX1_noteBlock, Cond.selects RX1 yX1_noteBlock yX1_noteBlock, Cond.code yX1_noteBlock cX1_noteBlock 7 (some .boolean), Cond.fieldLink RX1 33 "ClashBoxes" "blockLeast" "[I", Cond.fieldLink RX1 36 "ClashBoxes" "blockGreatest" "[I", Cond.fieldLink RX1 84 "ClashBoxes$Part" "least" "[I", Cond.fieldLink RX1 87 "ClashBoxes$Part" "greatest" "[I", Cond.methodLink RX1 159 yX1_roundAxis, Cond.static yX1_roundAxis, Cond.code yX1_roundAxis cX1_roundAxis 2 (some .int), Cond.fieldLink RX1 173 "ClashBoxes$Part" "tubeAxis" "I", Cond.methodLink RX1 169 yX0_isTube, Cond.instanceMethod yX0_isTube, Cond.selects RX0 yX0_isTube yX0_isTube]
def wsX1_findBlocks_r2 : List Cond := [Cond.initialized RX0, Cond.code yX0_isTube cX0_isTube 1 (some .boolean), Cond.fieldLink RX0 25 "ClashBoxes$Part" "tubeAxis" "I", Cond.methodLink RX1 108 yX0_hullLeast, Cond.instanceMethod yX0_hullLeast, Cond.selects RX0 yX0_hullLeast yX0_hullLeast, Cond.code yX0_hullLeast cX0_hullLeast 2 (some .int), Cond.fieldLink RX0 9 "ClashBoxes$Part" "least" "[I", Cond.fieldLink RX0 28 "ClashBoxes$Part" "radius" "I", Cond.methodLink RX1 117 yX0_hullGreatest, Cond.instanceMethod yX0_hullGreatest, Cond.selects RX0 yX0_hullGreatest yX0_hullGreatest, Cond.code yX0_hullGreatest cX0_hullGreatest 2 (some .int), Cond.fieldLink RX0 15 "ClashBoxes$Part" "greatest" "[I", Cond.methodLink RX1 194 yX1_overlapAcross, Cond.static yX1_overlapAcross, Cond.code yX1_overlapAcross cX1_overlapAcross 4 (some .boolean), Cond.methodLink RX1 162 yX1_overlap, Cond.static yX1_overlap, Cond.code yX1_overlap cX1_overlap 4 (some .boolean), Cond.methodLink RX1 166 yX1_isNear, Cond.static yX1_isNear, Cond.code yX1_isNear cX1_isNear 9 (some .boolean), Cond.fieldLink RX1 176 "ClashBoxes$Part" "radius" "I"]
def wsX1_findBlocks_r3 : List Cond := [Cond.methodLink RX1 112 Lib.Math.max.name, Cond.static Lib.Math.max.name, Cond.initialized "java/lang/Math", Cond.code Lib.Math.max.name Lib.Math.max.code 2 (some .int), Cond.methodLink RX1 179 yX1_coreGap, Cond.static yX1_coreGap, Cond.code yX1_coreGap cX1_coreGap 5 (some .int), Cond.methodLink RX1 198 yX1_thirdAxis, Cond.static yX1_thirdAxis, Cond.code yX1_thirdAxis cX1_thirdAxis 2 (some .int), Cond.methodLink RX1 201 yX1_roundWidth, Cond.static yX1_roundWidth, Cond.code yX1_roundWidth cX1_roundWidth 7 (some .int)]
def wsX1_findBlocks : List Cond := .code yX1_findBlocks cX1_findBlocks 7 (some .int) :: ((wsX1_findBlocks_r1 ++ (wsX1_findBlocks_r2 ++ wsX1_findBlocks_r3)) ++ wsX10 ++ wsX00)
def wsX1_blockAt : List Cond := .code yX1_blockAt cX1_blockAt 4 (some .int) :: ([.fieldLink RX1 33 "ClashBoxes" "blockLeast" "[I", .fieldLink RX1 36 "ClashBoxes" "blockGreatest" "[I", .methodLink RX1 67 yX1_isWithin, .static yX1_isWithin, .initialized RX1, .code yX1_isWithin cX1_isWithin 3 (some .boolean)] ++ wsX10)
def wsX1_freeShift : List Cond := .code yX1_freeShift cX1_freeShift 6 (some .int) :: ([.fieldLink RX1 36 "ClashBoxes" "blockGreatest" "[I", .fieldLink RX1 33 "ClashBoxes" "blockLeast" "[I", .methodLink RX1 204 yX1_blockAt, .instanceMethod yX1_blockAt, .selects RX1 yX1_blockAt yX1_blockAt, .initialized RX1, .code yX1_blockAt cX1_blockAt 4 (some .int), .methodLink RX1 67 yX1_isWithin, .static yX1_isWithin, .code yX1_isWithin cX1_isWithin 3 (some .boolean)] ++ wsX10)
def wsX1_shift_r1 : List Cond := [Cond.methodLink RX1 71 yX1_partAt, Cond.instanceMethod yX1_partAt, Cond.selects RX1 yX1_partAt yX1_partAt, Cond.initialized RX1, Cond.code yX1_partAt cX1_partAt 3 (some (.object "ClashBoxes$Part")), Cond.classLink RX1 138 "java/lang/IllegalArgumentException", Cond.initialized "java/lang/IllegalArgumentException", Cond.fieldLink RX1 11 "ClashBoxes" "row" "[LClashBoxes$Part;", Cond.methodLink RX1 67 yX1_isWithin, Cond.static yX1_isWithin, Cond.code yX1_isWithin cX1_isWithin 3 (some .boolean), Cond.methodLink RX1 64 yX1_isAxis, Cond.static yX1_isAxis, Cond.code yX1_isAxis cX1_isAxis 1 (some .boolean), Cond.methodLink RX1 43 yX1_need, Cond.static yX1_need, Cond.code yX1_need cX1_need 1 none, Cond.methodLink RX1 130 yX1_findBlocks, Cond.instanceMethod yX1_findBlocks, Cond.selects RX1 yX1_findBlocks yX1_findBlocks, Cond.code yX1_findBlocks cX1_findBlocks 7 (some .int), Cond.fieldLink RX1 19 "ClashBoxes" "made" "I", Cond.fieldLink RX1 152 "ClashBoxes$Part" "kind" "I", Cond.methodLink RX1 78 yX1_areFree]
def wsX1_shift_r2 : List Cond := [Cond.instanceMethod yX1_areFree, Cond.selects RX1 yX1_areFree yX1_areFree, Cond.code yX1_areFree cX1_areFree 3 (some .boolean), Cond.fieldLink RX1 15 "ClashBoxes" "freeKinds" "[Z", Cond.methodLink RX1 190 yX1_noteBlock, Cond.instanceMethod yX1_noteBlock, Cond.selects RX1 yX1_noteBlock yX1_noteBlock, Cond.code yX1_noteBlock cX1_noteBlock 7 (some .boolean), Cond.fieldLink RX1 33 "ClashBoxes" "blockLeast" "[I", Cond.fieldLink RX1 36 "ClashBoxes" "blockGreatest" "[I", Cond.fieldLink RX1 84 "ClashBoxes$Part" "least" "[I", Cond.fieldLink RX1 87 "ClashBoxes$Part" "greatest" "[I", Cond.methodLink RX1 159 yX1_roundAxis, Cond.static yX1_roundAxis, Cond.code yX1_roundAxis cX1_roundAxis 2 (some .int), Cond.fieldLink RX1 173 "ClashBoxes$Part" "tubeAxis" "I", Cond.methodLink RX1 169 yX0_isTube, Cond.instanceMethod yX0_isTube, Cond.selects RX0 yX0_isTube yX0_isTube, Cond.initialized RX0, Cond.code yX0_isTube cX0_isTube 1 (some .boolean), Cond.fieldLink RX0 25 "ClashBoxes$Part" "tubeAxis" "I", Cond.methodLink RX1 108 yX0_hullLeast, Cond.instanceMethod yX0_hullLeast]
def wsX1_shift_r3 : List Cond := [Cond.selects RX0 yX0_hullLeast yX0_hullLeast, Cond.code yX0_hullLeast cX0_hullLeast 2 (some .int), Cond.fieldLink RX0 9 "ClashBoxes$Part" "least" "[I", Cond.fieldLink RX0 28 "ClashBoxes$Part" "radius" "I", Cond.methodLink RX1 117 yX0_hullGreatest, Cond.instanceMethod yX0_hullGreatest, Cond.selects RX0 yX0_hullGreatest yX0_hullGreatest, Cond.code yX0_hullGreatest cX0_hullGreatest 2 (some .int), Cond.fieldLink RX0 15 "ClashBoxes$Part" "greatest" "[I", Cond.methodLink RX1 194 yX1_overlapAcross, Cond.static yX1_overlapAcross, Cond.code yX1_overlapAcross cX1_overlapAcross 4 (some .boolean), Cond.methodLink RX1 162 yX1_overlap, Cond.static yX1_overlap, Cond.code yX1_overlap cX1_overlap 4 (some .boolean), Cond.methodLink RX1 166 yX1_isNear, Cond.static yX1_isNear, Cond.code yX1_isNear cX1_isNear 9 (some .boolean), Cond.fieldLink RX1 176 "ClashBoxes$Part" "radius" "I", Cond.methodLink RX1 112 Lib.Math.max.name, Cond.static Lib.Math.max.name, Cond.initialized "java/lang/Math", Cond.code Lib.Math.max.name Lib.Math.max.code 2 (some .int), Cond.methodLink RX1 179 yX1_coreGap]
def wsX1_shift_r4 : List Cond := [Cond.static yX1_coreGap, Cond.code yX1_coreGap cX1_coreGap 5 (some .int), Cond.methodLink RX1 198 yX1_thirdAxis, Cond.static yX1_thirdAxis, Cond.code yX1_thirdAxis cX1_thirdAxis 2 (some .int), Cond.methodLink RX1 201 yX1_roundWidth, Cond.static yX1_roundWidth, Cond.code yX1_roundWidth cX1_roundWidth 7 (some .int), Cond.methodLink RX1 134 yX1_freeShift, Cond.instanceMethod yX1_freeShift, Cond.selects RX1 yX1_freeShift yX1_freeShift, Cond.code yX1_freeShift cX1_freeShift 6 (some .int), Cond.methodLink RX1 204 yX1_blockAt, Cond.instanceMethod yX1_blockAt, Cond.selects RX1 yX1_blockAt yX1_blockAt, Cond.code yX1_blockAt cX1_blockAt 4 (some .int), Cond.methodLink RX1 81 yX0_staysInSpace, Cond.instanceMethod yX0_staysInSpace, Cond.selects RX0 yX0_staysInSpace yX0_staysInSpace, Cond.code yX0_staysInSpace cX0_staysInSpace 3 (some .boolean)]
def wsX1_shift : List Cond := .code yX1_shift cX1_shift 10 (some .int) :: ((wsX1_shift_r1 ++ (wsX1_shift_r2 ++ (wsX1_shift_r3 ++ wsX1_shift_r4))) ++ wsX10 ++ wsX00 ++ (vx_atS RX1 142 "java/lang/IllegalArgumentException" ["java/lang/RuntimeException", "java/lang/Exception"]).filter goodWord)
def wsX1_hull_r1 : List Cond := [Cond.methodLink RX1 71 yX1_partAt, Cond.instanceMethod yX1_partAt, Cond.selects RX1 yX1_partAt yX1_partAt, Cond.initialized RX1, Cond.code yX1_partAt cX1_partAt 3 (some (.object "ClashBoxes$Part")), Cond.classLink RX1 138 "java/lang/IllegalArgumentException", Cond.initialized "java/lang/IllegalArgumentException", Cond.fieldLink RX1 11 "ClashBoxes" "row" "[LClashBoxes$Part;", Cond.methodLink RX1 67 yX1_isWithin, Cond.static yX1_isWithin, Cond.code yX1_isWithin cX1_isWithin 3 (some .boolean), Cond.methodLink RX1 64 yX1_isAxis, Cond.static yX1_isAxis, Cond.code yX1_isAxis cX1_isAxis 1 (some .boolean), Cond.methodLink RX1 43 yX1_need, Cond.static yX1_need, Cond.code yX1_need cX1_need 1 none, Cond.methodLink RX1 108 yX0_hullLeast, Cond.instanceMethod yX0_hullLeast, Cond.selects RX0 yX0_hullLeast yX0_hullLeast, Cond.initialized RX0, Cond.code yX0_hullLeast cX0_hullLeast 2 (some .int), Cond.fieldLink RX0 25 "ClashBoxes$Part" "tubeAxis" "I", Cond.fieldLink RX0 9 "ClashBoxes$Part" "least" "[I"]
def wsX1_hull_r2 : List Cond := [Cond.fieldLink RX0 28 "ClashBoxes$Part" "radius" "I", Cond.methodLink RX1 117 yX0_hullGreatest, Cond.instanceMethod yX0_hullGreatest, Cond.selects RX0 yX0_hullGreatest yX0_hullGreatest, Cond.code yX0_hullGreatest cX0_hullGreatest 2 (some .int), Cond.fieldLink RX0 15 "ClashBoxes$Part" "greatest" "[I"]
def wsX1_hull : List Cond := .code yX1_hull cX1_hull 5 (some .int) :: ((wsX1_hull_r1 ++ wsX1_hull_r2) ++ wsX10 ++ wsX00 ++ (vx_atS RX1 142 "java/lang/IllegalArgumentException" ["java/lang/RuntimeException", "java/lang/Exception"]).filter goodWord)
def wsX1_parts : List Cond := .code yX1_parts cX1_parts 1 (some .int) :: ([.fieldLink RX1 23 "ClashBoxes" "left" "I"] ++ wsX10)
def wsX2_init : List Cond := .code yX2_init cX2_init 1 none :: ([.methodLink RX2 1 objectInit, .instanceMethod objectInit, .code objectInit ⟨#[0xb1]⟩ 1 none, .arrayClass .boolean, .fieldLink RX2 7 "ClashBoxesModel" "isThere" "[Z", .arrayClass .int, .fieldLink RX2 13 "ClashBoxesModel" "kinds" "[I", .fieldLink RX2 17 "ClashBoxesModel" "margins" "[I", .fieldLink RX2 20 "ClashBoxesModel" "axes" "[I", .fieldLink RX2 23 "ClashBoxesModel" "radii" "[I", .fieldLink RX2 26 "ClashBoxesModel" "lows" "[I", .fieldLink RX2 29 "ClashBoxesModel" "highs" "[I", .fieldLink RX2 32 "ClashBoxesModel" "areFree" "[Z", .fieldLink RX2 35 "ClashBoxesModel" "groups" "[I", .fieldLink RX2 38 "ClashBoxesModel" "movedPart" "I"] ++ wsX20)
def wsX2_thrown : List Cond := .code yX2_thrown cX2_thrown 1 (some .int) :: ([.fieldLink RX2 42 "ClashBoxesModel" "code" "I"] ++ wsX20)
def wsX2_isIn : List Cond := .code yX2_isIn cX2_isIn 3 (some .boolean) :: ([])
def wsX2_isKind : List Cond := .code yX2_isKind cX2_isKind 1 (some .boolean) :: ([.methodLink RX2 45 yX2_isIn, .static yX2_isIn, .initialized RX2, .code yX2_isIn cX2_isIn 3 (some .boolean)])
def wsX2_isAxis : List Cond := .code yX2_isAxis cX2_isAxis 1 (some .boolean) :: ([.methodLink RX2 45 yX2_isIn, .static yX2_isIn, .initialized RX2, .code yX2_isIn cX2_isIn 3 (some .boolean)])
def wsX2_isPart : List Cond := .code yX2_isPart cX2_isPart 2 (some .boolean) :: ([.fieldLink RX2 49 "ClashBoxesModel" "made" "I", .fieldLink RX2 7 "ClashBoxesModel" "isThere" "[Z", .methodLink RX2 45 yX2_isIn, .static yX2_isIn, .initialized RX2, .code yX2_isIn cX2_isIn 3 (some .boolean)] ++ wsX20)
def wsX2_lay : List Cond := .code yX2_lay cX2_lay 4 (some .int) :: ([.fieldLink RX2 13 "ClashBoxesModel" "kinds" "[I", .fieldLink RX2 49 "ClashBoxesModel" "made" "I", .fieldLink RX2 17 "ClashBoxesModel" "margins" "[I", .fieldLink RX2 20 "ClashBoxesModel" "axes" "[I", .fieldLink RX2 23 "ClashBoxesModel" "radii" "[I", .fieldLink RX2 7 "ClashBoxesModel" "isThere" "[Z", .fieldLink RX2 52 "ClashBoxesModel" "count" "I"] ++ wsX20)
def wsX2_isSpan : List Cond := .code yX2_isSpan cX2_isSpan 2 (some .boolean) :: ([.methodLink RX2 45 yX2_isIn, .static yX2_isIn, .initialized RX2, .code yX2_isIn cX2_isIn 3 (some .boolean)])
def wsX2_side : List Cond := .code yX2_side cX2_side 4 none :: ([.fieldLink RX2 26 "ClashBoxesModel" "lows" "[I", .fieldLink RX2 49 "ClashBoxesModel" "made" "I", .fieldLink RX2 29 "ClashBoxesModel" "highs" "[I"] ++ wsX20)
def wsX2_box_r1 : List Cond := [Cond.fieldLink RX2 49 "ClashBoxesModel" "made" "I", Cond.fieldLink RX2 42 "ClashBoxesModel" "code" "I", Cond.methodLink RX2 55 yX2_isKind, Cond.static yX2_isKind, Cond.initialized RX2, Cond.code yX2_isKind cX2_isKind 1 (some .boolean), Cond.methodLink RX2 45 yX2_isIn, Cond.static yX2_isIn, Cond.code yX2_isIn cX2_isIn 3 (some .boolean), Cond.methodLink RX2 59 yX2_isSpan, Cond.static yX2_isSpan, Cond.code yX2_isSpan cX2_isSpan 2 (some .boolean), Cond.methodLink RX2 63 yX2_side, Cond.instanceMethod yX2_side, Cond.selects RX2 yX2_side yX2_side, Cond.code yX2_side cX2_side 4 none, Cond.fieldLink RX2 26 "ClashBoxesModel" "lows" "[I", Cond.fieldLink RX2 29 "ClashBoxesModel" "highs" "[I", Cond.methodLink RX2 67 yX2_lay, Cond.instanceMethod yX2_lay, Cond.selects RX2 yX2_lay yX2_lay, Cond.code yX2_lay cX2_lay 4 (some .int), Cond.fieldLink RX2 13 "ClashBoxesModel" "kinds" "[I", Cond.fieldLink RX2 17 "ClashBoxesModel" "margins" "[I"]
def wsX2_box_r2 : List Cond := [Cond.fieldLink RX2 20 "ClashBoxesModel" "axes" "[I", Cond.fieldLink RX2 23 "ClashBoxesModel" "radii" "[I", Cond.fieldLink RX2 7 "ClashBoxesModel" "isThere" "[Z", Cond.fieldLink RX2 52 "ClashBoxesModel" "count" "I"]
def wsX2_box : List Cond := .code yX2_box cX2_box 8 (some .int) :: ((wsX2_box_r1 ++ wsX2_box_r2) ++ wsX20)
def wsX2_tube_r1 : List Cond := [Cond.fieldLink RX2 49 "ClashBoxesModel" "made" "I", Cond.fieldLink RX2 42 "ClashBoxesModel" "code" "I", Cond.methodLink RX2 55 yX2_isKind, Cond.static yX2_isKind, Cond.initialized RX2, Cond.code yX2_isKind cX2_isKind 1 (some .boolean), Cond.methodLink RX2 45 yX2_isIn, Cond.static yX2_isIn, Cond.code yX2_isIn cX2_isIn 3 (some .boolean), Cond.methodLink RX2 71 yX2_isAxis, Cond.static yX2_isAxis, Cond.code yX2_isAxis cX2_isAxis 1 (some .boolean), Cond.methodLink RX2 59 yX2_isSpan, Cond.static yX2_isSpan, Cond.code yX2_isSpan cX2_isSpan 2 (some .boolean), Cond.methodLink RX2 63 yX2_side, Cond.instanceMethod yX2_side, Cond.selects RX2 yX2_side yX2_side, Cond.code yX2_side cX2_side 4 none, Cond.fieldLink RX2 26 "ClashBoxesModel" "lows" "[I", Cond.fieldLink RX2 29 "ClashBoxesModel" "highs" "[I", Cond.methodLink RX2 67 yX2_lay, Cond.instanceMethod yX2_lay, Cond.selects RX2 yX2_lay yX2_lay]
def wsX2_tube_r2 : List Cond := [Cond.code yX2_lay cX2_lay 4 (some .int), Cond.fieldLink RX2 13 "ClashBoxesModel" "kinds" "[I", Cond.fieldLink RX2 17 "ClashBoxesModel" "margins" "[I", Cond.fieldLink RX2 20 "ClashBoxesModel" "axes" "[I", Cond.fieldLink RX2 23 "ClashBoxesModel" "radii" "[I", Cond.fieldLink RX2 7 "ClashBoxesModel" "isThere" "[Z", Cond.fieldLink RX2 52 "ClashBoxesModel" "count" "I"]
def wsX2_tube : List Cond := .code yX2_tube cX2_tube 9 (some .int) :: ((wsX2_tube_r1 ++ wsX2_tube_r2) ++ wsX20)
def wsX2_margin : List Cond := .code yX2_margin cX2_margin 4 (some .int) :: ([.fieldLink RX2 42 "ClashBoxesModel" "code" "I", .fieldLink RX2 17 "ClashBoxesModel" "margins" "[I", .methodLink RX2 74 yX2_isPart, .instanceMethod yX2_isPart, .selects RX2 yX2_isPart yX2_isPart, .initialized RX2, .code yX2_isPart cX2_isPart 2 (some .boolean), .fieldLink RX2 49 "ClashBoxesModel" "made" "I", .fieldLink RX2 7 "ClashBoxesModel" "isThere" "[Z", .methodLink RX2 45 yX2_isIn, .static yX2_isIn, .code yX2_isIn cX2_isIn 3 (some .boolean)] ++ wsX20)
def wsX2_free : List Cond := .code yX2_free cX2_free 5 (some .boolean) :: ([.fieldLink RX2 42 "ClashBoxesModel" "code" "I", .fieldLink RX2 32 "ClashBoxesModel" "areFree" "[Z", .methodLink RX2 55 yX2_isKind, .static yX2_isKind, .initialized RX2, .code yX2_isKind cX2_isKind 1 (some .boolean), .methodLink RX2 45 yX2_isIn, .static yX2_isIn, .code yX2_isIn cX2_isIn 3 (some .boolean)] ++ wsX20)
def wsX2_mayMove : List Cond := .code yX2_mayMove cX2_mayMove 4 (some .boolean) :: ([.fieldLink RX2 26 "ClashBoxesModel" "lows" "[I", .fieldLink RX2 29 "ClashBoxesModel" "highs" "[I"] ++ wsX20)
def wsX2_move : List Cond := .code yX2_move cX2_move 4 (some .boolean) :: ([.fieldLink RX2 42 "ClashBoxesModel" "code" "I", .fieldLink RX2 26 "ClashBoxesModel" "lows" "[I", .fieldLink RX2 29 "ClashBoxesModel" "highs" "[I", .methodLink RX2 74 yX2_isPart, .instanceMethod yX2_isPart, .selects RX2 yX2_isPart yX2_isPart, .initialized RX2, .code yX2_isPart cX2_isPart 2 (some .boolean), .fieldLink RX2 49 "ClashBoxesModel" "made" "I", .fieldLink RX2 7 "ClashBoxesModel" "isThere" "[Z", .methodLink RX2 45 yX2_isIn, .static yX2_isIn, .code yX2_isIn cX2_isIn 3 (some .boolean), .methodLink RX2 71 yX2_isAxis, .static yX2_isAxis, .code yX2_isAxis cX2_isAxis 1 (some .boolean), .methodLink RX2 77 yX2_mayMove, .instanceMethod yX2_mayMove, .selects RX2 yX2_mayMove yX2_mayMove, .code yX2_mayMove cX2_mayMove 4 (some .boolean)] ++ wsX20)
def wsX2_drop : List Cond := .code yX2_drop cX2_drop 2 (some .int) :: ([.fieldLink RX2 42 "ClashBoxesModel" "code" "I", .fieldLink RX2 7 "ClashBoxesModel" "isThere" "[Z", .fieldLink RX2 52 "ClashBoxesModel" "count" "I", .methodLink RX2 74 yX2_isPart, .instanceMethod yX2_isPart, .selects RX2 yX2_isPart yX2_isPart, .initialized RX2, .code yX2_isPart cX2_isPart 2 (some .boolean), .fieldLink RX2 49 "ClashBoxesModel" "made" "I", .methodLink RX2 45 yX2_isIn, .static yX2_isIn, .code yX2_isIn cX2_isIn 3 (some .boolean)] ++ wsX20)
def wsX2_end : List Cond := .code yX2_end cX2_end 7 (some .int) :: ([.fieldLink RX2 29 "ClashBoxesModel" "highs" "[I", .fieldLink RX2 26 "ClashBoxesModel" "lows" "[I", .fieldLink RX2 38 "ClashBoxesModel" "movedPart" "I", .fieldLink RX2 80 "ClashBoxesModel" "movedAxis" "I", .fieldLink RX2 83 "ClashBoxesModel" "movedBy" "I", .fieldLink RX2 20 "ClashBoxesModel" "axes" "[I"] ++ wsX20)
def wsX2_hullEnd : List Cond := .code yX2_hullEnd cX2_hullEnd 8 (some .int) :: ([.fieldLink RX2 20 "ClashBoxesModel" "axes" "[I", .fieldLink RX2 23 "ClashBoxesModel" "radii" "[I", .methodLink RX2 86 yX2_end, .instanceMethod yX2_end, .selects RX2 yX2_end yX2_end, .initialized RX2, .code yX2_end cX2_end 7 (some .int), .fieldLink RX2 29 "ClashBoxesModel" "highs" "[I", .fieldLink RX2 26 "ClashBoxesModel" "lows" "[I", .fieldLink RX2 38 "ClashBoxesModel" "movedPart" "I", .fieldLink RX2 80 "ClashBoxesModel" "movedAxis" "I", .fieldLink RX2 83 "ClashBoxesModel" "movedBy" "I"] ++ wsX20)
def wsX2_overlaps : List Cond := .code yX2_overlaps cX2_overlaps 4 (some .boolean) :: ([])
def wsX2_hullsMeet : List Cond := .code yX2_hullsMeet cX2_hullsMeet 6 (some .boolean) :: ([.methodLink RX2 90 yX2_hullEnd, .instanceMethod yX2_hullEnd, .selects RX2 yX2_hullEnd yX2_hullEnd, .initialized RX2, .code yX2_hullEnd cX2_hullEnd 8 (some .int), .fieldLink RX2 20 "ClashBoxesModel" "axes" "[I", .fieldLink RX2 23 "ClashBoxesModel" "radii" "[I", .methodLink RX2 86 yX2_end, .instanceMethod yX2_end, .selects RX2 yX2_end yX2_end, .code yX2_end cX2_end 7 (some .int), .fieldLink RX2 29 "ClashBoxesModel" "highs" "[I", .fieldLink RX2 26 "ClashBoxesModel" "lows" "[I", .fieldLink RX2 38 "ClashBoxesModel" "movedPart" "I", .fieldLink RX2 80 "ClashBoxesModel" "movedAxis" "I", .fieldLink RX2 83 "ClashBoxesModel" "movedBy" "I", .methodLink RX2 93 yX2_overlaps, .static yX2_overlaps, .code yX2_overlaps cX2_overlaps 4 (some .boolean)] ++ wsX20)
def wsX2_off : List Cond := .code yX2_off cX2_off 3 (some .int) :: ([])
def wsX2_tubeAndBox : List Cond := .code yX2_tubeAndBox cX2_tubeAndBox 9 (some .boolean) :: ([.fieldLink RX2 20 "ClashBoxesModel" "axes" "[I", .fieldLink RX2 23 "ClashBoxesModel" "radii" "[I", .methodLink RX2 86 yX2_end, .instanceMethod yX2_end, .selects RX2 yX2_end yX2_end, .initialized RX2, .code yX2_end cX2_end 7 (some .int), .fieldLink RX2 29 "ClashBoxesModel" "highs" "[I", .fieldLink RX2 26 "ClashBoxesModel" "lows" "[I", .fieldLink RX2 38 "ClashBoxesModel" "movedPart" "I", .fieldLink RX2 80 "ClashBoxesModel" "movedAxis" "I", .fieldLink RX2 83 "ClashBoxesModel" "movedBy" "I", .methodLink RX2 93 yX2_overlaps, .static yX2_overlaps, .code yX2_overlaps cX2_overlaps 4 (some .boolean), .methodLink RX2 97 yX2_off, .static yX2_off, .code yX2_off cX2_off 3 (some .int)] ++ wsX20)
def wsX2_meets_r1 : List Cond := [Cond.fieldLink RX2 20 "ClashBoxesModel" "axes" "[I", Cond.fieldLink RX2 23 "ClashBoxesModel" "radii" "[I", Cond.methodLink RX2 100 yX2_hullsMeet, Cond.instanceMethod yX2_hullsMeet, Cond.selects RX2 yX2_hullsMeet yX2_hullsMeet, Cond.initialized RX2, Cond.code yX2_hullsMeet cX2_hullsMeet 6 (some .boolean), Cond.methodLink RX2 90 yX2_hullEnd, Cond.instanceMethod yX2_hullEnd, Cond.selects RX2 yX2_hullEnd yX2_hullEnd, Cond.code yX2_hullEnd cX2_hullEnd 8 (some .int), Cond.methodLink RX2 86 yX2_end, Cond.instanceMethod yX2_end, Cond.selects RX2 yX2_end yX2_end, Cond.code yX2_end cX2_end 7 (some .int), Cond.fieldLink RX2 29 "ClashBoxesModel" "highs" "[I", Cond.fieldLink RX2 26 "ClashBoxesModel" "lows" "[I", Cond.fieldLink RX2 38 "ClashBoxesModel" "movedPart" "I", Cond.fieldLink RX2 80 "ClashBoxesModel" "movedAxis" "I", Cond.fieldLink RX2 83 "ClashBoxesModel" "movedBy" "I", Cond.methodLink RX2 93 yX2_overlaps, Cond.static yX2_overlaps, Cond.code yX2_overlaps cX2_overlaps 4 (some .boolean), Cond.methodLink RX2 103 yX2_tubeAndBox]
def wsX2_meets_r2 : List Cond := [Cond.instanceMethod yX2_tubeAndBox, Cond.selects RX2 yX2_tubeAndBox yX2_tubeAndBox, Cond.code yX2_tubeAndBox cX2_tubeAndBox 9 (some .boolean), Cond.methodLink RX2 97 yX2_off, Cond.static yX2_off, Cond.code yX2_off cX2_off 3 (some .int)]
def wsX2_meets : List Cond := .code yX2_meets cX2_meets 8 (some .boolean) :: ((wsX2_meets_r1 ++ wsX2_meets_r2) ++ wsX20)
def wsX2_stateOf_r1 : List Cond := [Cond.fieldLink RX2 32 "ClashBoxesModel" "areFree" "[Z", Cond.fieldLink RX2 13 "ClashBoxesModel" "kinds" "[I", Cond.fieldLink RX2 17 "ClashBoxesModel" "margins" "[I", Cond.methodLink RX2 106 yX2_meets, Cond.instanceMethod yX2_meets, Cond.selects RX2 yX2_meets yX2_meets, Cond.initialized RX2, Cond.code yX2_meets cX2_meets 8 (some .boolean), Cond.fieldLink RX2 20 "ClashBoxesModel" "axes" "[I", Cond.fieldLink RX2 23 "ClashBoxesModel" "radii" "[I", Cond.methodLink RX2 100 yX2_hullsMeet, Cond.instanceMethod yX2_hullsMeet, Cond.selects RX2 yX2_hullsMeet yX2_hullsMeet, Cond.code yX2_hullsMeet cX2_hullsMeet 6 (some .boolean), Cond.methodLink RX2 90 yX2_hullEnd, Cond.instanceMethod yX2_hullEnd, Cond.selects RX2 yX2_hullEnd yX2_hullEnd, Cond.code yX2_hullEnd cX2_hullEnd 8 (some .int), Cond.methodLink RX2 86 yX2_end, Cond.instanceMethod yX2_end, Cond.selects RX2 yX2_end yX2_end, Cond.code yX2_end cX2_end 7 (some .int), Cond.fieldLink RX2 29 "ClashBoxesModel" "highs" "[I", Cond.fieldLink RX2 26 "ClashBoxesModel" "lows" "[I"]
def wsX2_stateOf_r2 : List Cond := [Cond.fieldLink RX2 38 "ClashBoxesModel" "movedPart" "I", Cond.fieldLink RX2 80 "ClashBoxesModel" "movedAxis" "I", Cond.fieldLink RX2 83 "ClashBoxesModel" "movedBy" "I", Cond.methodLink RX2 93 yX2_overlaps, Cond.static yX2_overlaps, Cond.code yX2_overlaps cX2_overlaps 4 (some .boolean), Cond.methodLink RX2 103 yX2_tubeAndBox, Cond.instanceMethod yX2_tubeAndBox, Cond.selects RX2 yX2_tubeAndBox yX2_tubeAndBox, Cond.code yX2_tubeAndBox cX2_tubeAndBox 9 (some .boolean), Cond.methodLink RX2 97 yX2_off, Cond.static yX2_off, Cond.code yX2_off cX2_off 3 (some .int)]
def wsX2_stateOf : List Cond := .code yX2_stateOf cX2_stateOf 3 (some .int) :: ((wsX2_stateOf_r1 ++ wsX2_stateOf_r2) ++ wsX20)
def wsX2_pair_r1 : List Cond := [Cond.fieldLink RX2 42 "ClashBoxesModel" "code" "I", Cond.methodLink RX2 74 yX2_isPart, Cond.instanceMethod yX2_isPart, Cond.selects RX2 yX2_isPart yX2_isPart, Cond.initialized RX2, Cond.code yX2_isPart cX2_isPart 2 (some .boolean), Cond.fieldLink RX2 49 "ClashBoxesModel" "made" "I", Cond.fieldLink RX2 7 "ClashBoxesModel" "isThere" "[Z", Cond.methodLink RX2 45 yX2_isIn, Cond.static yX2_isIn, Cond.code yX2_isIn cX2_isIn 3 (some .boolean), Cond.methodLink RX2 109 yX2_stateOf, Cond.instanceMethod yX2_stateOf, Cond.selects RX2 yX2_stateOf yX2_stateOf, Cond.code yX2_stateOf cX2_stateOf 3 (some .int), Cond.fieldLink RX2 32 "ClashBoxesModel" "areFree" "[Z", Cond.fieldLink RX2 13 "ClashBoxesModel" "kinds" "[I", Cond.fieldLink RX2 17 "ClashBoxesModel" "margins" "[I", Cond.methodLink RX2 106 yX2_meets, Cond.instanceMethod yX2_meets, Cond.selects RX2 yX2_meets yX2_meets, Cond.code yX2_meets cX2_meets 8 (some .boolean), Cond.fieldLink RX2 20 "ClashBoxesModel" "axes" "[I", Cond.fieldLink RX2 23 "ClashBoxesModel" "radii" "[I"]
def wsX2_pair_r2 : List Cond := [Cond.methodLink RX2 100 yX2_hullsMeet, Cond.instanceMethod yX2_hullsMeet, Cond.selects RX2 yX2_hullsMeet yX2_hullsMeet, Cond.code yX2_hullsMeet cX2_hullsMeet 6 (some .boolean), Cond.methodLink RX2 90 yX2_hullEnd, Cond.instanceMethod yX2_hullEnd, Cond.selects RX2 yX2_hullEnd yX2_hullEnd, Cond.code yX2_hullEnd cX2_hullEnd 8 (some .int), Cond.methodLink RX2 86 yX2_end, Cond.instanceMethod yX2_end, Cond.selects RX2 yX2_end yX2_end, Cond.code yX2_end cX2_end 7 (some .int), Cond.fieldLink RX2 29 "ClashBoxesModel" "highs" "[I", Cond.fieldLink RX2 26 "ClashBoxesModel" "lows" "[I", Cond.fieldLink RX2 38 "ClashBoxesModel" "movedPart" "I", Cond.fieldLink RX2 80 "ClashBoxesModel" "movedAxis" "I", Cond.fieldLink RX2 83 "ClashBoxesModel" "movedBy" "I", Cond.methodLink RX2 93 yX2_overlaps, Cond.static yX2_overlaps, Cond.code yX2_overlaps cX2_overlaps 4 (some .boolean), Cond.methodLink RX2 103 yX2_tubeAndBox, Cond.instanceMethod yX2_tubeAndBox, Cond.selects RX2 yX2_tubeAndBox yX2_tubeAndBox, Cond.code yX2_tubeAndBox cX2_tubeAndBox 9 (some .boolean)]
def wsX2_pair_r3 : List Cond := [Cond.methodLink RX2 97 yX2_off, Cond.static yX2_off, Cond.code yX2_off cX2_off 3 (some .int)]
def wsX2_pair : List Cond := .code yX2_pair cX2_pair 3 (some .int) :: ((wsX2_pair_r1 ++ (wsX2_pair_r2 ++ wsX2_pair_r3)) ++ wsX20)
def wsX2_clashes_r1 : List Cond := [Cond.fieldLink RX2 42 "ClashBoxesModel" "code" "I", Cond.fieldLink RX2 49 "ClashBoxesModel" "made" "I", Cond.fieldLink RX2 7 "ClashBoxesModel" "isThere" "[Z", Cond.methodLink RX2 45 yX2_isIn, Cond.static yX2_isIn, Cond.initialized RX2, Cond.code yX2_isIn cX2_isIn 3 (some .boolean), Cond.methodLink RX2 109 yX2_stateOf, Cond.instanceMethod yX2_stateOf, Cond.selects RX2 yX2_stateOf yX2_stateOf, Cond.code yX2_stateOf cX2_stateOf 3 (some .int), Cond.fieldLink RX2 32 "ClashBoxesModel" "areFree" "[Z", Cond.fieldLink RX2 13 "ClashBoxesModel" "kinds" "[I", Cond.fieldLink RX2 17 "ClashBoxesModel" "margins" "[I", Cond.methodLink RX2 106 yX2_meets, Cond.instanceMethod yX2_meets, Cond.selects RX2 yX2_meets yX2_meets, Cond.code yX2_meets cX2_meets 8 (some .boolean), Cond.fieldLink RX2 20 "ClashBoxesModel" "axes" "[I", Cond.fieldLink RX2 23 "ClashBoxesModel" "radii" "[I", Cond.methodLink RX2 100 yX2_hullsMeet, Cond.instanceMethod yX2_hullsMeet, Cond.selects RX2 yX2_hullsMeet yX2_hullsMeet, Cond.code yX2_hullsMeet cX2_hullsMeet 6 (some .boolean)]
def wsX2_clashes_r2 : List Cond := [Cond.methodLink RX2 90 yX2_hullEnd, Cond.instanceMethod yX2_hullEnd, Cond.selects RX2 yX2_hullEnd yX2_hullEnd, Cond.code yX2_hullEnd cX2_hullEnd 8 (some .int), Cond.methodLink RX2 86 yX2_end, Cond.instanceMethod yX2_end, Cond.selects RX2 yX2_end yX2_end, Cond.code yX2_end cX2_end 7 (some .int), Cond.fieldLink RX2 29 "ClashBoxesModel" "highs" "[I", Cond.fieldLink RX2 26 "ClashBoxesModel" "lows" "[I", Cond.fieldLink RX2 38 "ClashBoxesModel" "movedPart" "I", Cond.fieldLink RX2 80 "ClashBoxesModel" "movedAxis" "I", Cond.fieldLink RX2 83 "ClashBoxesModel" "movedBy" "I", Cond.methodLink RX2 93 yX2_overlaps, Cond.static yX2_overlaps, Cond.code yX2_overlaps cX2_overlaps 4 (some .boolean), Cond.methodLink RX2 103 yX2_tubeAndBox, Cond.instanceMethod yX2_tubeAndBox, Cond.selects RX2 yX2_tubeAndBox yX2_tubeAndBox, Cond.code yX2_tubeAndBox cX2_tubeAndBox 9 (some .boolean), Cond.methodLink RX2 97 yX2_off, Cond.static yX2_off, Cond.code yX2_off cX2_off 3 (some .int)]
def wsX2_clashes : List Cond := .code yX2_clashes cX2_clashes 5 (some .int) :: ((wsX2_clashes_r1 ++ wsX2_clashes_r2) ++ wsX20)
def wsX2_clash_r1 : List Cond := [Cond.fieldLink RX2 42 "ClashBoxesModel" "code" "I", Cond.fieldLink RX2 49 "ClashBoxesModel" "made" "I", Cond.fieldLink RX2 7 "ClashBoxesModel" "isThere" "[Z", Cond.methodLink RX2 45 yX2_isIn, Cond.static yX2_isIn, Cond.initialized RX2, Cond.code yX2_isIn cX2_isIn 3 (some .boolean), Cond.methodLink RX2 109 yX2_stateOf, Cond.instanceMethod yX2_stateOf, Cond.selects RX2 yX2_stateOf yX2_stateOf, Cond.code yX2_stateOf cX2_stateOf 3 (some .int), Cond.fieldLink RX2 32 "ClashBoxesModel" "areFree" "[Z", Cond.fieldLink RX2 13 "ClashBoxesModel" "kinds" "[I", Cond.fieldLink RX2 17 "ClashBoxesModel" "margins" "[I", Cond.methodLink RX2 106 yX2_meets, Cond.instanceMethod yX2_meets, Cond.selects RX2 yX2_meets yX2_meets, Cond.code yX2_meets cX2_meets 8 (some .boolean), Cond.fieldLink RX2 20 "ClashBoxesModel" "axes" "[I", Cond.fieldLink RX2 23 "ClashBoxesModel" "radii" "[I", Cond.methodLink RX2 100 yX2_hullsMeet, Cond.instanceMethod yX2_hullsMeet, Cond.selects RX2 yX2_hullsMeet yX2_hullsMeet, Cond.code yX2_hullsMeet cX2_hullsMeet 6 (some .boolean)]
def wsX2_clash_r2 : List Cond := [Cond.methodLink RX2 90 yX2_hullEnd, Cond.instanceMethod yX2_hullEnd, Cond.selects RX2 yX2_hullEnd yX2_hullEnd, Cond.code yX2_hullEnd cX2_hullEnd 8 (some .int), Cond.methodLink RX2 86 yX2_end, Cond.instanceMethod yX2_end, Cond.selects RX2 yX2_end yX2_end, Cond.code yX2_end cX2_end 7 (some .int), Cond.fieldLink RX2 29 "ClashBoxesModel" "highs" "[I", Cond.fieldLink RX2 26 "ClashBoxesModel" "lows" "[I", Cond.fieldLink RX2 38 "ClashBoxesModel" "movedPart" "I", Cond.fieldLink RX2 80 "ClashBoxesModel" "movedAxis" "I", Cond.fieldLink RX2 83 "ClashBoxesModel" "movedBy" "I", Cond.methodLink RX2 93 yX2_overlaps, Cond.static yX2_overlaps, Cond.code yX2_overlaps cX2_overlaps 4 (some .boolean), Cond.methodLink RX2 103 yX2_tubeAndBox, Cond.instanceMethod yX2_tubeAndBox, Cond.selects RX2 yX2_tubeAndBox yX2_tubeAndBox, Cond.code yX2_tubeAndBox cX2_tubeAndBox 9 (some .boolean), Cond.methodLink RX2 97 yX2_off, Cond.static yX2_off, Cond.code yX2_off cX2_off 3 (some .int)]
def wsX2_clash : List Cond := .code yX2_clash cX2_clash 7 (some .int) :: ((wsX2_clash_r1 ++ wsX2_clash_r2) ++ wsX20)
def wsX2_findGroups_r1 : List Cond := [Cond.fieldLink RX2 49 "ClashBoxesModel" "made" "I", Cond.fieldLink RX2 35 "ClashBoxesModel" "groups" "[I", Cond.fieldLink RX2 7 "ClashBoxesModel" "isThere" "[Z", Cond.methodLink RX2 109 yX2_stateOf, Cond.instanceMethod yX2_stateOf, Cond.selects RX2 yX2_stateOf yX2_stateOf, Cond.initialized RX2, Cond.code yX2_stateOf cX2_stateOf 3 (some .int), Cond.fieldLink RX2 32 "ClashBoxesModel" "areFree" "[Z", Cond.fieldLink RX2 13 "ClashBoxesModel" "kinds" "[I", Cond.fieldLink RX2 17 "ClashBoxesModel" "margins" "[I", Cond.methodLink RX2 106 yX2_meets, Cond.instanceMethod yX2_meets, Cond.selects RX2 yX2_meets yX2_meets, Cond.code yX2_meets cX2_meets 8 (some .boolean), Cond.fieldLink RX2 20 "ClashBoxesModel" "axes" "[I", Cond.fieldLink RX2 23 "ClashBoxesModel" "radii" "[I", Cond.methodLink RX2 100 yX2_hullsMeet, Cond.instanceMethod yX2_hullsMeet, Cond.selects RX2 yX2_hullsMeet yX2_hullsMeet, Cond.code yX2_hullsMeet cX2_hullsMeet 6 (some .boolean), Cond.methodLink RX2 90 yX2_hullEnd, Cond.instanceMethod yX2_hullEnd, Cond.selects RX2 yX2_hullEnd yX2_hullEnd]
def wsX2_findGroups_r2 : List Cond := [Cond.code yX2_hullEnd cX2_hullEnd 8 (some .int), Cond.methodLink RX2 86 yX2_end, Cond.instanceMethod yX2_end, Cond.selects RX2 yX2_end yX2_end, Cond.code yX2_end cX2_end 7 (some .int), Cond.fieldLink RX2 29 "ClashBoxesModel" "highs" "[I", Cond.fieldLink RX2 26 "ClashBoxesModel" "lows" "[I", Cond.fieldLink RX2 38 "ClashBoxesModel" "movedPart" "I", Cond.fieldLink RX2 80 "ClashBoxesModel" "movedAxis" "I", Cond.fieldLink RX2 83 "ClashBoxesModel" "movedBy" "I", Cond.methodLink RX2 93 yX2_overlaps, Cond.static yX2_overlaps, Cond.code yX2_overlaps cX2_overlaps 4 (some .boolean), Cond.methodLink RX2 103 yX2_tubeAndBox, Cond.instanceMethod yX2_tubeAndBox, Cond.selects RX2 yX2_tubeAndBox yX2_tubeAndBox, Cond.code yX2_tubeAndBox cX2_tubeAndBox 9 (some .boolean), Cond.methodLink RX2 97 yX2_off, Cond.static yX2_off, Cond.code yX2_off cX2_off 3 (some .int)]
def wsX2_findGroups : List Cond := .code yX2_findGroups cX2_findGroups 6 none :: ((wsX2_findGroups_r1 ++ wsX2_findGroups_r2) ++ wsX20)
def wsX2_groups_r1 : List Cond := [Cond.fieldLink RX2 42 "ClashBoxesModel" "code" "I", Cond.fieldLink RX2 49 "ClashBoxesModel" "made" "I", Cond.fieldLink RX2 7 "ClashBoxesModel" "isThere" "[Z", Cond.fieldLink RX2 35 "ClashBoxesModel" "groups" "[I", Cond.methodLink RX2 113 yX2_findGroups, Cond.instanceMethod yX2_findGroups, Cond.selects RX2 yX2_findGroups yX2_findGroups, Cond.initialized RX2, Cond.code yX2_findGroups cX2_findGroups 6 none, Cond.methodLink RX2 109 yX2_stateOf, Cond.instanceMethod yX2_stateOf, Cond.selects RX2 yX2_stateOf yX2_stateOf, Cond.code yX2_stateOf cX2_stateOf 3 (some .int), Cond.fieldLink RX2 32 "ClashBoxesModel" "areFree" "[Z", Cond.fieldLink RX2 13 "ClashBoxesModel" "kinds" "[I", Cond.fieldLink RX2 17 "ClashBoxesModel" "margins" "[I", Cond.methodLink RX2 106 yX2_meets, Cond.instanceMethod yX2_meets, Cond.selects RX2 yX2_meets yX2_meets, Cond.code yX2_meets cX2_meets 8 (some .boolean), Cond.fieldLink RX2 20 "ClashBoxesModel" "axes" "[I", Cond.fieldLink RX2 23 "ClashBoxesModel" "radii" "[I", Cond.methodLink RX2 100 yX2_hullsMeet, Cond.instanceMethod yX2_hullsMeet]
def wsX2_groups_r2 : List Cond := [Cond.selects RX2 yX2_hullsMeet yX2_hullsMeet, Cond.code yX2_hullsMeet cX2_hullsMeet 6 (some .boolean), Cond.methodLink RX2 90 yX2_hullEnd, Cond.instanceMethod yX2_hullEnd, Cond.selects RX2 yX2_hullEnd yX2_hullEnd, Cond.code yX2_hullEnd cX2_hullEnd 8 (some .int), Cond.methodLink RX2 86 yX2_end, Cond.instanceMethod yX2_end, Cond.selects RX2 yX2_end yX2_end, Cond.code yX2_end cX2_end 7 (some .int), Cond.fieldLink RX2 29 "ClashBoxesModel" "highs" "[I", Cond.fieldLink RX2 26 "ClashBoxesModel" "lows" "[I", Cond.fieldLink RX2 38 "ClashBoxesModel" "movedPart" "I", Cond.fieldLink RX2 80 "ClashBoxesModel" "movedAxis" "I", Cond.fieldLink RX2 83 "ClashBoxesModel" "movedBy" "I", Cond.methodLink RX2 93 yX2_overlaps, Cond.static yX2_overlaps, Cond.code yX2_overlaps cX2_overlaps 4 (some .boolean), Cond.methodLink RX2 103 yX2_tubeAndBox, Cond.instanceMethod yX2_tubeAndBox, Cond.selects RX2 yX2_tubeAndBox yX2_tubeAndBox, Cond.code yX2_tubeAndBox cX2_tubeAndBox 9 (some .boolean), Cond.methodLink RX2 97 yX2_off, Cond.static yX2_off]
def wsX2_groups_r3 : List Cond := [Cond.code yX2_off cX2_off 3 (some .int)]
def wsX2_groups : List Cond := .code yX2_groups cX2_groups 5 (some .int) :: ((wsX2_groups_r1 ++ (wsX2_groups_r2 ++ wsX2_groups_r3)) ++ wsX20)
def wsX2_group_r1 : List Cond := [Cond.fieldLink RX2 42 "ClashBoxesModel" "code" "I", Cond.fieldLink RX2 35 "ClashBoxesModel" "groups" "[I", Cond.methodLink RX2 74 yX2_isPart, Cond.instanceMethod yX2_isPart, Cond.selects RX2 yX2_isPart yX2_isPart, Cond.initialized RX2, Cond.code yX2_isPart cX2_isPart 2 (some .boolean), Cond.fieldLink RX2 49 "ClashBoxesModel" "made" "I", Cond.fieldLink RX2 7 "ClashBoxesModel" "isThere" "[Z", Cond.methodLink RX2 45 yX2_isIn, Cond.static yX2_isIn, Cond.code yX2_isIn cX2_isIn 3 (some .boolean), Cond.methodLink RX2 113 yX2_findGroups, Cond.instanceMethod yX2_findGroups, Cond.selects RX2 yX2_findGroups yX2_findGroups, Cond.code yX2_findGroups cX2_findGroups 6 none, Cond.methodLink RX2 109 yX2_stateOf, Cond.instanceMethod yX2_stateOf, Cond.selects RX2 yX2_stateOf yX2_stateOf, Cond.code yX2_stateOf cX2_stateOf 3 (some .int), Cond.fieldLink RX2 32 "ClashBoxesModel" "areFree" "[Z", Cond.fieldLink RX2 13 "ClashBoxesModel" "kinds" "[I", Cond.fieldLink RX2 17 "ClashBoxesModel" "margins" "[I", Cond.methodLink RX2 106 yX2_meets]
def wsX2_group_r2 : List Cond := [Cond.instanceMethod yX2_meets, Cond.selects RX2 yX2_meets yX2_meets, Cond.code yX2_meets cX2_meets 8 (some .boolean), Cond.fieldLink RX2 20 "ClashBoxesModel" "axes" "[I", Cond.fieldLink RX2 23 "ClashBoxesModel" "radii" "[I", Cond.methodLink RX2 100 yX2_hullsMeet, Cond.instanceMethod yX2_hullsMeet, Cond.selects RX2 yX2_hullsMeet yX2_hullsMeet, Cond.code yX2_hullsMeet cX2_hullsMeet 6 (some .boolean), Cond.methodLink RX2 90 yX2_hullEnd, Cond.instanceMethod yX2_hullEnd, Cond.selects RX2 yX2_hullEnd yX2_hullEnd, Cond.code yX2_hullEnd cX2_hullEnd 8 (some .int), Cond.methodLink RX2 86 yX2_end, Cond.instanceMethod yX2_end, Cond.selects RX2 yX2_end yX2_end, Cond.code yX2_end cX2_end 7 (some .int), Cond.fieldLink RX2 29 "ClashBoxesModel" "highs" "[I", Cond.fieldLink RX2 26 "ClashBoxesModel" "lows" "[I", Cond.fieldLink RX2 38 "ClashBoxesModel" "movedPart" "I", Cond.fieldLink RX2 80 "ClashBoxesModel" "movedAxis" "I", Cond.fieldLink RX2 83 "ClashBoxesModel" "movedBy" "I", Cond.methodLink RX2 93 yX2_overlaps, Cond.static yX2_overlaps]
def wsX2_group_r3 : List Cond := [Cond.code yX2_overlaps cX2_overlaps 4 (some .boolean), Cond.methodLink RX2 103 yX2_tubeAndBox, Cond.instanceMethod yX2_tubeAndBox, Cond.selects RX2 yX2_tubeAndBox yX2_tubeAndBox, Cond.code yX2_tubeAndBox cX2_tubeAndBox 9 (some .boolean), Cond.methodLink RX2 97 yX2_off, Cond.static yX2_off, Cond.code yX2_off cX2_off 3 (some .int)]
def wsX2_group : List Cond := .code yX2_group cX2_group 2 (some .int) :: ((wsX2_group_r1 ++ (wsX2_group_r2 ++ wsX2_group_r3)) ++ wsX20)
def wsX2_common_r1 : List Cond := [Cond.fieldLink RX2 42 "ClashBoxesModel" "code" "I", Cond.methodLink RX2 74 yX2_isPart, Cond.instanceMethod yX2_isPart, Cond.selects RX2 yX2_isPart yX2_isPart, Cond.initialized RX2, Cond.code yX2_isPart cX2_isPart 2 (some .boolean), Cond.fieldLink RX2 49 "ClashBoxesModel" "made" "I", Cond.fieldLink RX2 7 "ClashBoxesModel" "isThere" "[Z", Cond.methodLink RX2 45 yX2_isIn, Cond.static yX2_isIn, Cond.code yX2_isIn cX2_isIn 3 (some .boolean), Cond.methodLink RX2 90 yX2_hullEnd, Cond.instanceMethod yX2_hullEnd, Cond.selects RX2 yX2_hullEnd yX2_hullEnd, Cond.code yX2_hullEnd cX2_hullEnd 8 (some .int), Cond.fieldLink RX2 20 "ClashBoxesModel" "axes" "[I", Cond.fieldLink RX2 23 "ClashBoxesModel" "radii" "[I", Cond.methodLink RX2 86 yX2_end, Cond.instanceMethod yX2_end, Cond.selects RX2 yX2_end yX2_end, Cond.code yX2_end cX2_end 7 (some .int), Cond.fieldLink RX2 29 "ClashBoxesModel" "highs" "[I", Cond.fieldLink RX2 26 "ClashBoxesModel" "lows" "[I", Cond.fieldLink RX2 38 "ClashBoxesModel" "movedPart" "I"]
def wsX2_common_r2 : List Cond := [Cond.fieldLink RX2 80 "ClashBoxesModel" "movedAxis" "I", Cond.fieldLink RX2 83 "ClashBoxesModel" "movedBy" "I"]
def wsX2_common : List Cond := .code yX2_common cX2_common 12 (some .long) :: ((wsX2_common_r1 ++ wsX2_common_r2) ++ wsX20)
def wsX2_isEnds : List Cond := .code yX2_isEnds cX2_isEnds 2 (some .boolean) :: ([.methodLink RX2 45 yX2_isIn, .static yX2_isIn, .initialized RX2, .code yX2_isIn cX2_isIn 3 (some .boolean)])
def wsX2_inside_r1 : List Cond := [Cond.fieldLink RX2 42 "ClashBoxesModel" "code" "I", Cond.fieldLink RX2 49 "ClashBoxesModel" "made" "I", Cond.fieldLink RX2 7 "ClashBoxesModel" "isThere" "[Z", Cond.methodLink RX2 116 yX2_isEnds, Cond.static yX2_isEnds, Cond.initialized RX2, Cond.code yX2_isEnds cX2_isEnds 2 (some .boolean), Cond.methodLink RX2 45 yX2_isIn, Cond.static yX2_isIn, Cond.code yX2_isIn cX2_isIn 3 (some .boolean), Cond.methodLink RX2 90 yX2_hullEnd, Cond.instanceMethod yX2_hullEnd, Cond.selects RX2 yX2_hullEnd yX2_hullEnd, Cond.code yX2_hullEnd cX2_hullEnd 8 (some .int), Cond.fieldLink RX2 20 "ClashBoxesModel" "axes" "[I", Cond.fieldLink RX2 23 "ClashBoxesModel" "radii" "[I", Cond.methodLink RX2 86 yX2_end, Cond.instanceMethod yX2_end, Cond.selects RX2 yX2_end yX2_end, Cond.code yX2_end cX2_end 7 (some .int), Cond.fieldLink RX2 29 "ClashBoxesModel" "highs" "[I", Cond.fieldLink RX2 26 "ClashBoxesModel" "lows" "[I", Cond.fieldLink RX2 38 "ClashBoxesModel" "movedPart" "I", Cond.fieldLink RX2 80 "ClashBoxesModel" "movedAxis" "I"]
def wsX2_inside_r2 : List Cond := [Cond.fieldLink RX2 83 "ClashBoxesModel" "movedBy" "I", Cond.methodLink RX2 93 yX2_overlaps, Cond.static yX2_overlaps, Cond.code yX2_overlaps cX2_overlaps 4 (some .boolean)]
def wsX2_inside : List Cond := .code yX2_inside cX2_inside 12 (some .int) :: ((wsX2_inside_r1 ++ wsX2_inside_r2) ++ wsX20)
def wsX2_isFreeAt_r1 : List Cond := [Cond.fieldLink RX2 38 "ClashBoxesModel" "movedPart" "I", Cond.fieldLink RX2 80 "ClashBoxesModel" "movedAxis" "I", Cond.fieldLink RX2 83 "ClashBoxesModel" "movedBy" "I", Cond.fieldLink RX2 49 "ClashBoxesModel" "made" "I", Cond.fieldLink RX2 7 "ClashBoxesModel" "isThere" "[Z", Cond.fieldLink RX2 32 "ClashBoxesModel" "areFree" "[Z", Cond.fieldLink RX2 13 "ClashBoxesModel" "kinds" "[I", Cond.methodLink RX2 77 yX2_mayMove, Cond.instanceMethod yX2_mayMove, Cond.selects RX2 yX2_mayMove yX2_mayMove, Cond.initialized RX2, Cond.code yX2_mayMove cX2_mayMove 4 (some .boolean), Cond.fieldLink RX2 26 "ClashBoxesModel" "lows" "[I", Cond.fieldLink RX2 29 "ClashBoxesModel" "highs" "[I", Cond.methodLink RX2 106 yX2_meets, Cond.instanceMethod yX2_meets, Cond.selects RX2 yX2_meets yX2_meets, Cond.code yX2_meets cX2_meets 8 (some .boolean), Cond.fieldLink RX2 20 "ClashBoxesModel" "axes" "[I", Cond.fieldLink RX2 23 "ClashBoxesModel" "radii" "[I", Cond.methodLink RX2 100 yX2_hullsMeet, Cond.instanceMethod yX2_hullsMeet, Cond.selects RX2 yX2_hullsMeet yX2_hullsMeet, Cond.code yX2_hullsMeet cX2_hullsMeet 6 (some .boolean)]
def wsX2_isFreeAt_r2 : List Cond := [Cond.methodLink RX2 90 yX2_hullEnd, Cond.instanceMethod yX2_hullEnd, Cond.selects RX2 yX2_hullEnd yX2_hullEnd, Cond.code yX2_hullEnd cX2_hullEnd 8 (some .int), Cond.methodLink RX2 86 yX2_end, Cond.instanceMethod yX2_end, Cond.selects RX2 yX2_end yX2_end, Cond.code yX2_end cX2_end 7 (some .int), Cond.methodLink RX2 93 yX2_overlaps, Cond.static yX2_overlaps, Cond.code yX2_overlaps cX2_overlaps 4 (some .boolean), Cond.methodLink RX2 103 yX2_tubeAndBox, Cond.instanceMethod yX2_tubeAndBox, Cond.selects RX2 yX2_tubeAndBox yX2_tubeAndBox, Cond.code yX2_tubeAndBox cX2_tubeAndBox 9 (some .boolean), Cond.methodLink RX2 97 yX2_off, Cond.static yX2_off, Cond.code yX2_off cX2_off 3 (some .int)]
def wsX2_isFreeAt : List Cond := .code yX2_isFreeAt cX2_isFreeAt 6 (some .boolean) :: ((wsX2_isFreeAt_r1 ++ wsX2_isFreeAt_r2) ++ wsX20)
def wsX2_shift_r1 : List Cond := [Cond.fieldLink RX2 42 "ClashBoxesModel" "code" "I", Cond.methodLink RX2 74 yX2_isPart, Cond.instanceMethod yX2_isPart, Cond.selects RX2 yX2_isPart yX2_isPart, Cond.initialized RX2, Cond.code yX2_isPart cX2_isPart 2 (some .boolean), Cond.fieldLink RX2 49 "ClashBoxesModel" "made" "I", Cond.fieldLink RX2 7 "ClashBoxesModel" "isThere" "[Z", Cond.methodLink RX2 45 yX2_isIn, Cond.static yX2_isIn, Cond.code yX2_isIn cX2_isIn 3 (some .boolean), Cond.methodLink RX2 71 yX2_isAxis, Cond.static yX2_isAxis, Cond.code yX2_isAxis cX2_isAxis 1 (some .boolean), Cond.methodLink RX2 119 yX2_isFreeAt, Cond.instanceMethod yX2_isFreeAt, Cond.selects RX2 yX2_isFreeAt yX2_isFreeAt, Cond.code yX2_isFreeAt cX2_isFreeAt 6 (some .boolean), Cond.fieldLink RX2 38 "ClashBoxesModel" "movedPart" "I", Cond.fieldLink RX2 80 "ClashBoxesModel" "movedAxis" "I", Cond.fieldLink RX2 83 "ClashBoxesModel" "movedBy" "I", Cond.fieldLink RX2 32 "ClashBoxesModel" "areFree" "[Z", Cond.fieldLink RX2 13 "ClashBoxesModel" "kinds" "[I", Cond.methodLink RX2 77 yX2_mayMove]
def wsX2_shift_r2 : List Cond := [Cond.instanceMethod yX2_mayMove, Cond.selects RX2 yX2_mayMove yX2_mayMove, Cond.code yX2_mayMove cX2_mayMove 4 (some .boolean), Cond.fieldLink RX2 26 "ClashBoxesModel" "lows" "[I", Cond.fieldLink RX2 29 "ClashBoxesModel" "highs" "[I", Cond.methodLink RX2 106 yX2_meets, Cond.instanceMethod yX2_meets, Cond.selects RX2 yX2_meets yX2_meets, Cond.code yX2_meets cX2_meets 8 (some .boolean), Cond.fieldLink RX2 20 "ClashBoxesModel" "axes" "[I", Cond.fieldLink RX2 23 "ClashBoxesModel" "radii" "[I", Cond.methodLink RX2 100 yX2_hullsMeet, Cond.instanceMethod yX2_hullsMeet, Cond.selects RX2 yX2_hullsMeet yX2_hullsMeet, Cond.code yX2_hullsMeet cX2_hullsMeet 6 (some .boolean), Cond.methodLink RX2 90 yX2_hullEnd, Cond.instanceMethod yX2_hullEnd, Cond.selects RX2 yX2_hullEnd yX2_hullEnd, Cond.code yX2_hullEnd cX2_hullEnd 8 (some .int), Cond.methodLink RX2 86 yX2_end, Cond.instanceMethod yX2_end, Cond.selects RX2 yX2_end yX2_end, Cond.code yX2_end cX2_end 7 (some .int), Cond.methodLink RX2 93 yX2_overlaps]
def wsX2_shift_r3 : List Cond := [Cond.static yX2_overlaps, Cond.code yX2_overlaps cX2_overlaps 4 (some .boolean), Cond.methodLink RX2 103 yX2_tubeAndBox, Cond.instanceMethod yX2_tubeAndBox, Cond.selects RX2 yX2_tubeAndBox yX2_tubeAndBox, Cond.code yX2_tubeAndBox cX2_tubeAndBox 9 (some .boolean), Cond.methodLink RX2 97 yX2_off, Cond.static yX2_off, Cond.code yX2_off cX2_off 3 (some .int)]
def wsX2_shift : List Cond := .code yX2_shift cX2_shift 5 (some .int) :: ((wsX2_shift_r1 ++ (wsX2_shift_r2 ++ wsX2_shift_r3)) ++ wsX20)
def wsX2_hull_r1 : List Cond := [Cond.fieldLink RX2 42 "ClashBoxesModel" "code" "I", Cond.methodLink RX2 74 yX2_isPart, Cond.instanceMethod yX2_isPart, Cond.selects RX2 yX2_isPart yX2_isPart, Cond.initialized RX2, Cond.code yX2_isPart cX2_isPart 2 (some .boolean), Cond.fieldLink RX2 49 "ClashBoxesModel" "made" "I", Cond.fieldLink RX2 7 "ClashBoxesModel" "isThere" "[Z", Cond.methodLink RX2 45 yX2_isIn, Cond.static yX2_isIn, Cond.code yX2_isIn cX2_isIn 3 (some .boolean), Cond.methodLink RX2 71 yX2_isAxis, Cond.static yX2_isAxis, Cond.code yX2_isAxis cX2_isAxis 1 (some .boolean), Cond.methodLink RX2 90 yX2_hullEnd, Cond.instanceMethod yX2_hullEnd, Cond.selects RX2 yX2_hullEnd yX2_hullEnd, Cond.code yX2_hullEnd cX2_hullEnd 8 (some .int), Cond.fieldLink RX2 20 "ClashBoxesModel" "axes" "[I", Cond.fieldLink RX2 23 "ClashBoxesModel" "radii" "[I", Cond.methodLink RX2 86 yX2_end, Cond.instanceMethod yX2_end, Cond.selects RX2 yX2_end yX2_end, Cond.code yX2_end cX2_end 7 (some .int)]
def wsX2_hull_r2 : List Cond := [Cond.fieldLink RX2 29 "ClashBoxesModel" "highs" "[I", Cond.fieldLink RX2 26 "ClashBoxesModel" "lows" "[I", Cond.fieldLink RX2 38 "ClashBoxesModel" "movedPart" "I", Cond.fieldLink RX2 80 "ClashBoxesModel" "movedAxis" "I", Cond.fieldLink RX2 83 "ClashBoxesModel" "movedBy" "I"]
def wsX2_hull : List Cond := .code yX2_hull cX2_hull 4 (some .int) :: ((wsX2_hull_r1 ++ wsX2_hull_r2) ++ wsX20)
def wsX2_parts : List Cond := .code yX2_parts cX2_parts 1 (some .int) :: ([.fieldLink RX2 42 "ClashBoxesModel" "code" "I", .fieldLink RX2 52 "ClashBoxesModel" "count" "I"] ++ wsX20)
def wsJ9_max_7cf53 : List Cond := .code yJ9_max_7cf53 cJ9_max_7cf53 2 (some .int) :: ([])
def wsJ9_min_7cf53 : List Cond := .code yJ9_min_7cf53 cJ9_min_7cf53 2 (some .int) :: ([])
def wsL_box_r1 : List Cond := [Cond.classLink RL 13 "java/lang/IllegalArgumentException", Cond.classLink RL 15 "java/lang/IllegalStateException", Cond.methodLink RL 7 yX1_box, Cond.instanceMethod yX1_box, Cond.selects RX1 yX1_box yX1_box, Cond.initialized RX1, Cond.code yX1_box cX1_box 9 (some .int), Cond.classLink RX1 9 RX0, Cond.instantiable RX0 6, Cond.initialized RX0, Cond.methodLink RX1 39 yX1_isKind, Cond.static yX1_isKind, Cond.code yX1_isKind cX1_isKind 1 (some .boolean), Cond.methodLink RX1 67 yX1_isWithin, Cond.static yX1_isWithin, Cond.code yX1_isWithin cX1_isWithin 3 (some .boolean), Cond.methodLink RX1 43 yX1_need, Cond.static yX1_need, Cond.code yX1_need cX1_need 1 none, Cond.classLink RX1 138 "java/lang/IllegalArgumentException", Cond.initialized "java/lang/IllegalArgumentException", Cond.methodLink RX1 47 yX1_isSpan, Cond.static yX1_isSpan, Cond.code yX1_isSpan cX1_isSpan 2 (some .boolean)]
def wsL_box_r2 : List Cond := [Cond.methodLink RX1 51 yX1_needRoom, Cond.instanceMethod yX1_needRoom, Cond.selects RX1 yX1_needRoom yX1_needRoom, Cond.code yX1_needRoom cX1_needRoom 1 none, Cond.classLink RX1 145 "java/lang/IllegalStateException", Cond.initialized "java/lang/IllegalStateException", Cond.fieldLink RX1 19 "ClashBoxes" "made" "I", Cond.methodLink RX1 54 yX0_init, Cond.instanceMethod yX0_init, Cond.code yX0_init cX0_init 4 none, Cond.methodLink RX0 3 objectInit, Cond.instanceMethod objectInit, Cond.code objectInit ⟨#[0xb1]⟩ 1 none, Cond.arrayClass .int, Cond.fieldLink RX0 9 "ClashBoxes$Part" "least" "[I", Cond.fieldLink RX0 15 "ClashBoxes$Part" "greatest" "[I", Cond.fieldLink RX0 18 "ClashBoxes$Part" "softSpace" "I", Cond.fieldLink RX0 22 "ClashBoxes$Part" "kind" "I", Cond.fieldLink RX0 25 "ClashBoxes$Part" "tubeAxis" "I", Cond.fieldLink RX0 28 "ClashBoxes$Part" "radius" "I", Cond.methodLink RX1 57 yX0_setCore, Cond.instanceMethod yX0_setCore, Cond.selects RX0 yX0_setCore yX0_setCore, Cond.code yX0_setCore cX0_setCore 4 none]
def wsL_box_r3 : List Cond := [Cond.methodLink RX1 60 yX1_add, Cond.instanceMethod yX1_add, Cond.selects RX1 yX1_add yX1_add, Cond.code yX1_add cX1_add 3 (some .int), Cond.fieldLink RX1 11 "ClashBoxes" "row" "[LClashBoxes$Part;", Cond.fieldLink RX1 23 "ClashBoxes" "left" "I"]
def wsL_box : List Cond := .codeWith yL_box cL_box 10 (some .int) [(0, 20, 23, 13), (0, 20, 27, 15)] :: ((wsL_box_r1 ++ (wsL_box_r2 ++ wsL_box_r3)) ++ wsX00 ++ wsX10 ++ (vx_atS RX1 142 "java/lang/IllegalArgumentException" ["java/lang/RuntimeException", "java/lang/Exception"]).filter goodWord ++ (vx_atS RX1 149 "java/lang/IllegalStateException" ["java/lang/RuntimeException", "java/lang/Exception"]).filter goodWord)
def wsL_tube_r1 : List Cond := [Cond.classLink RL 13 "java/lang/IllegalArgumentException", Cond.classLink RL 15 "java/lang/IllegalStateException", Cond.methodLink RL 17 yX1_tube, Cond.instanceMethod yX1_tube, Cond.selects RX1 yX1_tube yX1_tube, Cond.initialized RX1, Cond.code yX1_tube cX1_tube 11 (some .int), Cond.classLink RX1 9 RX0, Cond.instantiable RX0 6, Cond.initialized RX0, Cond.methodLink RX1 39 yX1_isKind, Cond.static yX1_isKind, Cond.code yX1_isKind cX1_isKind 1 (some .boolean), Cond.methodLink RX1 67 yX1_isWithin, Cond.static yX1_isWithin, Cond.code yX1_isWithin cX1_isWithin 3 (some .boolean), Cond.methodLink RX1 64 yX1_isAxis, Cond.static yX1_isAxis, Cond.code yX1_isAxis cX1_isAxis 1 (some .boolean), Cond.methodLink RX1 43 yX1_need, Cond.static yX1_need, Cond.code yX1_need cX1_need 1 none, Cond.classLink RX1 138 "java/lang/IllegalArgumentException", Cond.initialized "java/lang/IllegalArgumentException"]
def wsL_tube_r2 : List Cond := [Cond.methodLink RX1 47 yX1_isSpan, Cond.static yX1_isSpan, Cond.code yX1_isSpan cX1_isSpan 2 (some .boolean), Cond.methodLink RX1 51 yX1_needRoom, Cond.instanceMethod yX1_needRoom, Cond.selects RX1 yX1_needRoom yX1_needRoom, Cond.code yX1_needRoom cX1_needRoom 1 none, Cond.classLink RX1 145 "java/lang/IllegalStateException", Cond.initialized "java/lang/IllegalStateException", Cond.fieldLink RX1 19 "ClashBoxes" "made" "I", Cond.methodLink RX1 54 yX0_init, Cond.instanceMethod yX0_init, Cond.code yX0_init cX0_init 4 none, Cond.methodLink RX0 3 objectInit, Cond.instanceMethod objectInit, Cond.code objectInit ⟨#[0xb1]⟩ 1 none, Cond.arrayClass .int, Cond.fieldLink RX0 9 "ClashBoxes$Part" "least" "[I", Cond.fieldLink RX0 15 "ClashBoxes$Part" "greatest" "[I", Cond.fieldLink RX0 18 "ClashBoxes$Part" "softSpace" "I", Cond.fieldLink RX0 22 "ClashBoxes$Part" "kind" "I", Cond.fieldLink RX0 25 "ClashBoxes$Part" "tubeAxis" "I", Cond.fieldLink RX0 28 "ClashBoxes$Part" "radius" "I", Cond.methodLink RX1 57 yX0_setCore]
def wsL_tube_r3 : List Cond := [Cond.instanceMethod yX0_setCore, Cond.selects RX0 yX0_setCore yX0_setCore, Cond.code yX0_setCore cX0_setCore 4 none, Cond.methodLink RX1 60 yX1_add, Cond.instanceMethod yX1_add, Cond.selects RX1 yX1_add yX1_add, Cond.code yX1_add cX1_add 3 (some .int), Cond.fieldLink RX1 11 "ClashBoxes" "row" "[LClashBoxes$Part;", Cond.fieldLink RX1 23 "ClashBoxes" "left" "I"]
def wsL_tube : List Cond := .codeWith yL_tube cL_tube 10 (some .int) [(0, 20, 23, 13), (0, 20, 27, 15)] :: ((wsL_tube_r1 ++ (wsL_tube_r2 ++ wsL_tube_r3)) ++ wsX00 ++ wsX10 ++ (vx_atS RX1 142 "java/lang/IllegalArgumentException" ["java/lang/RuntimeException", "java/lang/Exception"]).filter goodWord ++ (vx_atS RX1 149 "java/lang/IllegalStateException" ["java/lang/RuntimeException", "java/lang/Exception"]).filter goodWord)
def wsL_margin : List Cond := .codeWith yL_margin cL_margin 5 (some .int) [(0, 10, 13, 13)] :: ([.classLink RL 13 "java/lang/IllegalArgumentException", .methodLink RL 20 yX1_margin, .instanceMethod yX1_margin, .selects RX1 yX1_margin yX1_margin, .initialized RX1, .code yX1_margin cX1_margin 5 (some .int), .fieldLink RX1 75 "ClashBoxes$Part" "softSpace" "I", .methodLink RX1 71 yX1_partAt, .instanceMethod yX1_partAt, .selects RX1 yX1_partAt yX1_partAt, .code yX1_partAt cX1_partAt 3 (some (.object "ClashBoxes$Part")), .classLink RX1 138 "java/lang/IllegalArgumentException", .initialized "java/lang/IllegalArgumentException", .fieldLink RX1 11 "ClashBoxes" "row" "[LClashBoxes$Part;", .methodLink RX1 67 yX1_isWithin, .static yX1_isWithin, .code yX1_isWithin cX1_isWithin 3 (some .boolean), .methodLink RX1 43 yX1_need, .static yX1_need, .code yX1_need cX1_need 1 none] ++ wsX00 ++ wsX10 ++ (vx_atS RX1 142 "java/lang/IllegalArgumentException" ["java/lang/RuntimeException", "java/lang/Exception"]).filter goodWord)
def wsL_free : List Cond := .codeWith yL_free cL_free 6 (some .int) [(0, 19, 22, 13)] :: ([.classLink RL 13 "java/lang/IllegalArgumentException", .methodLink RL 24 yX1_free, .instanceMethod yX1_free, .selects RX1 yX1_free yX1_free, .initialized RX1, .code yX1_free cX1_free 5 (some .boolean), .fieldLink RX1 15 "ClashBoxes" "freeKinds" "[Z", .methodLink RX1 39 yX1_isKind, .static yX1_isKind, .code yX1_isKind cX1_isKind 1 (some .boolean), .methodLink RX1 67 yX1_isWithin, .static yX1_isWithin, .code yX1_isWithin cX1_isWithin 3 (some .boolean), .methodLink RX1 43 yX1_need, .static yX1_need, .code yX1_need cX1_need 1 none, .classLink RX1 138 "java/lang/IllegalArgumentException", .initialized "java/lang/IllegalArgumentException", .methodLink RX1 78 yX1_areFree, .instanceMethod yX1_areFree, .selects RX1 yX1_areFree yX1_areFree, .code yX1_areFree cX1_areFree 3 (some .boolean)] ++ wsX10 ++ (vx_atS RX1 142 "java/lang/IllegalArgumentException" ["java/lang/RuntimeException", "java/lang/Exception"]).filter goodWord)
def wsL_move_r1 : List Cond := [Cond.classLink RL 13 "java/lang/IllegalArgumentException", Cond.methodLink RL 28 yX1_move, Cond.instanceMethod yX1_move, Cond.selects RX1 yX1_move yX1_move, Cond.initialized RX1, Cond.code yX1_move cX1_move 5 (some .boolean), Cond.fieldLink RX1 84 "ClashBoxes$Part" "least" "[I", Cond.fieldLink RX1 87 "ClashBoxes$Part" "greatest" "[I", Cond.methodLink RX1 71 yX1_partAt, Cond.instanceMethod yX1_partAt, Cond.selects RX1 yX1_partAt yX1_partAt, Cond.code yX1_partAt cX1_partAt 3 (some (.object "ClashBoxes$Part")), Cond.classLink RX1 138 "java/lang/IllegalArgumentException", Cond.initialized "java/lang/IllegalArgumentException", Cond.fieldLink RX1 11 "ClashBoxes" "row" "[LClashBoxes$Part;", Cond.methodLink RX1 67 yX1_isWithin, Cond.static yX1_isWithin, Cond.code yX1_isWithin cX1_isWithin 3 (some .boolean), Cond.methodLink RX1 64 yX1_isAxis, Cond.static yX1_isAxis, Cond.code yX1_isAxis cX1_isAxis 1 (some .boolean), Cond.methodLink RX1 43 yX1_need, Cond.static yX1_need, Cond.code yX1_need cX1_need 1 none]
def wsL_move_r2 : List Cond := [Cond.methodLink RX1 81 yX0_staysInSpace, Cond.instanceMethod yX0_staysInSpace, Cond.selects RX0 yX0_staysInSpace yX0_staysInSpace, Cond.initialized RX0, Cond.code yX0_staysInSpace cX0_staysInSpace 3 (some .boolean), Cond.fieldLink RX0 9 "ClashBoxes$Part" "least" "[I", Cond.fieldLink RX0 15 "ClashBoxes$Part" "greatest" "[I", Cond.methodLink RX1 57 yX0_setCore, Cond.instanceMethod yX0_setCore, Cond.selects RX0 yX0_setCore yX0_setCore, Cond.code yX0_setCore cX0_setCore 4 none]
def wsL_move : List Cond := .codeWith yL_move cL_move 6 (some .int) [(0, 19, 22, 13)] :: ((wsL_move_r1 ++ wsL_move_r2) ++ wsX00 ++ wsX10 ++ (vx_atS RX1 142 "java/lang/IllegalArgumentException" ["java/lang/RuntimeException", "java/lang/Exception"]).filter goodWord)
def wsL_drop : List Cond := .codeWith yL_drop cL_drop 4 (some .int) [(0, 9, 12, 13)] :: ([.classLink RL 13 "java/lang/IllegalArgumentException", .methodLink RL 32 yX1_drop, .instanceMethod yX1_drop, .selects RX1 yX1_drop yX1_drop, .initialized RX1, .code yX1_drop cX1_drop 2 (some .int), .fieldLink RX1 11 "ClashBoxes" "row" "[LClashBoxes$Part;", .fieldLink RX1 23 "ClashBoxes" "left" "I", .methodLink RX1 90 yX1_isThere, .instanceMethod yX1_isThere, .selects RX1 yX1_isThere yX1_isThere, .code yX1_isThere cX1_isThere 2 (some .boolean), .methodLink RX1 67 yX1_isWithin, .static yX1_isWithin, .code yX1_isWithin cX1_isWithin 3 (some .boolean), .methodLink RX1 43 yX1_need, .static yX1_need, .code yX1_need cX1_need 1 none, .classLink RX1 138 "java/lang/IllegalArgumentException", .initialized "java/lang/IllegalArgumentException"] ++ wsX10 ++ (vx_atS RX1 142 "java/lang/IllegalArgumentException" ["java/lang/RuntimeException", "java/lang/Exception"]).filter goodWord)
def wsL_pair_r1 : List Cond := [Cond.classLink RL 13 "java/lang/IllegalArgumentException", Cond.methodLink RL 36 yX1_pair, Cond.instanceMethod yX1_pair, Cond.selects RX1 yX1_pair yX1_pair, Cond.initialized RX1, Cond.code yX1_pair cX1_pair 5 (some .int), Cond.methodLink RX1 71 yX1_partAt, Cond.instanceMethod yX1_partAt, Cond.selects RX1 yX1_partAt yX1_partAt, Cond.code yX1_partAt cX1_partAt 3 (some (.object "ClashBoxes$Part")), Cond.classLink RX1 138 "java/lang/IllegalArgumentException", Cond.initialized "java/lang/IllegalArgumentException", Cond.fieldLink RX1 11 "ClashBoxes" "row" "[LClashBoxes$Part;", Cond.methodLink RX1 67 yX1_isWithin, Cond.static yX1_isWithin, Cond.code yX1_isWithin cX1_isWithin 3 (some .boolean), Cond.methodLink RX1 43 yX1_need, Cond.static yX1_need, Cond.code yX1_need cX1_need 1 none, Cond.methodLink RX1 93 yX1_stateOf, Cond.instanceMethod yX1_stateOf, Cond.selects RX1 yX1_stateOf yX1_stateOf, Cond.code yX1_stateOf cX1_stateOf 4 (some .int), Cond.fieldLink RX1 152 "ClashBoxes$Part" "kind" "I"]
def wsL_pair_r2 : List Cond := [Cond.fieldLink RX1 75 "ClashBoxes$Part" "softSpace" "I", Cond.methodLink RX1 78 yX1_areFree, Cond.instanceMethod yX1_areFree, Cond.selects RX1 yX1_areFree yX1_areFree, Cond.code yX1_areFree cX1_areFree 3 (some .boolean), Cond.fieldLink RX1 15 "ClashBoxes" "freeKinds" "[Z", Cond.methodLink RX1 155 yX1_meet, Cond.static yX1_meet, Cond.code yX1_meet cX1_meet 4 (some .boolean), Cond.methodLink RX1 159 yX1_roundAxis, Cond.static yX1_roundAxis, Cond.code yX1_roundAxis cX1_roundAxis 2 (some .int), Cond.fieldLink RX1 173 "ClashBoxes$Part" "tubeAxis" "I", Cond.methodLink RX1 169 yX0_isTube, Cond.instanceMethod yX0_isTube, Cond.selects RX0 yX0_isTube yX0_isTube, Cond.initialized RX0, Cond.code yX0_isTube cX0_isTube 1 (some .boolean), Cond.fieldLink RX0 25 "ClashBoxes$Part" "tubeAxis" "I", Cond.methodLink RX1 162 yX1_overlap, Cond.static yX1_overlap, Cond.code yX1_overlap cX1_overlap 4 (some .boolean), Cond.methodLink RX1 108 yX0_hullLeast, Cond.instanceMethod yX0_hullLeast]
def wsL_pair_r3 : List Cond := [Cond.selects RX0 yX0_hullLeast yX0_hullLeast, Cond.code yX0_hullLeast cX0_hullLeast 2 (some .int), Cond.fieldLink RX0 9 "ClashBoxes$Part" "least" "[I", Cond.fieldLink RX0 28 "ClashBoxes$Part" "radius" "I", Cond.methodLink RX1 117 yX0_hullGreatest, Cond.instanceMethod yX0_hullGreatest, Cond.selects RX0 yX0_hullGreatest yX0_hullGreatest, Cond.code yX0_hullGreatest cX0_hullGreatest 2 (some .int), Cond.fieldLink RX0 15 "ClashBoxes$Part" "greatest" "[I", Cond.methodLink RX1 166 yX1_isNear, Cond.static yX1_isNear, Cond.code yX1_isNear cX1_isNear 9 (some .boolean), Cond.fieldLink RX1 176 "ClashBoxes$Part" "radius" "I", Cond.methodLink RX1 112 Lib.Math.max.name, Cond.static Lib.Math.max.name, Cond.initialized "java/lang/Math", Cond.code Lib.Math.max.name Lib.Math.max.code 2 (some .int), Cond.methodLink RX1 179 yX1_coreGap, Cond.static yX1_coreGap, Cond.code yX1_coreGap cX1_coreGap 5 (some .int), Cond.fieldLink RX1 84 "ClashBoxes$Part" "least" "[I", Cond.fieldLink RX1 87 "ClashBoxes$Part" "greatest" "[I"]
def wsL_pair : List Cond := .codeWith yL_pair cL_pair 5 (some .int) [(0, 10, 13, 13)] :: ((wsL_pair_r1 ++ (wsL_pair_r2 ++ wsL_pair_r3)) ++ wsX10 ++ wsX00 ++ (vx_atS RX1 142 "java/lang/IllegalArgumentException" ["java/lang/RuntimeException", "java/lang/Exception"]).filter goodWord)
def wsL_clashes_r1 : List Cond := [Cond.classLink RL 13 "java/lang/IllegalArgumentException", Cond.methodLink RL 39 yX1_clashes, Cond.instanceMethod yX1_clashes, Cond.selects RX1 yX1_clashes yX1_clashes, Cond.initialized RX1, Cond.code yX1_clashes cX1_clashes 4 (some .int), Cond.fieldLink RX1 19 "ClashBoxes" "made" "I", Cond.methodLink RX1 67 yX1_isWithin, Cond.static yX1_isWithin, Cond.code yX1_isWithin cX1_isWithin 3 (some .boolean), Cond.methodLink RX1 43 yX1_need, Cond.static yX1_need, Cond.code yX1_need cX1_need 1 none, Cond.classLink RX1 138 "java/lang/IllegalArgumentException", Cond.initialized "java/lang/IllegalArgumentException", Cond.methodLink RX1 97 yX1_countPartners, Cond.instanceMethod yX1_countPartners, Cond.selects RX1 yX1_countPartners yX1_countPartners, Cond.code yX1_countPartners cX1_countPartners 5 (some .int), Cond.methodLink RX1 183 yX1_isPair, Cond.instanceMethod yX1_isPair, Cond.selects RX1 yX1_isPair yX1_isPair, Cond.code yX1_isPair cX1_isPair 6 (some .boolean), Cond.fieldLink RX1 11 "ClashBoxes" "row" "[LClashBoxes$Part;"]
def wsL_clashes_r2 : List Cond := [Cond.methodLink RX1 93 yX1_stateOf, Cond.instanceMethod yX1_stateOf, Cond.selects RX1 yX1_stateOf yX1_stateOf, Cond.code yX1_stateOf cX1_stateOf 4 (some .int), Cond.fieldLink RX1 152 "ClashBoxes$Part" "kind" "I", Cond.fieldLink RX1 75 "ClashBoxes$Part" "softSpace" "I", Cond.methodLink RX1 78 yX1_areFree, Cond.instanceMethod yX1_areFree, Cond.selects RX1 yX1_areFree yX1_areFree, Cond.code yX1_areFree cX1_areFree 3 (some .boolean), Cond.fieldLink RX1 15 "ClashBoxes" "freeKinds" "[Z", Cond.methodLink RX1 155 yX1_meet, Cond.static yX1_meet, Cond.code yX1_meet cX1_meet 4 (some .boolean), Cond.methodLink RX1 159 yX1_roundAxis, Cond.static yX1_roundAxis, Cond.code yX1_roundAxis cX1_roundAxis 2 (some .int), Cond.fieldLink RX1 173 "ClashBoxes$Part" "tubeAxis" "I", Cond.methodLink RX1 169 yX0_isTube, Cond.instanceMethod yX0_isTube, Cond.selects RX0 yX0_isTube yX0_isTube, Cond.initialized RX0, Cond.code yX0_isTube cX0_isTube 1 (some .boolean), Cond.fieldLink RX0 25 "ClashBoxes$Part" "tubeAxis" "I"]
def wsL_clashes_r3 : List Cond := [Cond.methodLink RX1 162 yX1_overlap, Cond.static yX1_overlap, Cond.code yX1_overlap cX1_overlap 4 (some .boolean), Cond.methodLink RX1 108 yX0_hullLeast, Cond.instanceMethod yX0_hullLeast, Cond.selects RX0 yX0_hullLeast yX0_hullLeast, Cond.code yX0_hullLeast cX0_hullLeast 2 (some .int), Cond.fieldLink RX0 9 "ClashBoxes$Part" "least" "[I", Cond.fieldLink RX0 28 "ClashBoxes$Part" "radius" "I", Cond.methodLink RX1 117 yX0_hullGreatest, Cond.instanceMethod yX0_hullGreatest, Cond.selects RX0 yX0_hullGreatest yX0_hullGreatest, Cond.code yX0_hullGreatest cX0_hullGreatest 2 (some .int), Cond.fieldLink RX0 15 "ClashBoxes$Part" "greatest" "[I", Cond.methodLink RX1 166 yX1_isNear, Cond.static yX1_isNear, Cond.code yX1_isNear cX1_isNear 9 (some .boolean), Cond.fieldLink RX1 176 "ClashBoxes$Part" "radius" "I", Cond.methodLink RX1 112 Lib.Math.max.name, Cond.static Lib.Math.max.name, Cond.initialized "java/lang/Math", Cond.code Lib.Math.max.name Lib.Math.max.code 2 (some .int), Cond.methodLink RX1 179 yX1_coreGap, Cond.static yX1_coreGap]
def wsL_clashes_r4 : List Cond := [Cond.code yX1_coreGap cX1_coreGap 5 (some .int), Cond.fieldLink RX1 84 "ClashBoxes$Part" "least" "[I", Cond.fieldLink RX1 87 "ClashBoxes$Part" "greatest" "[I"]
def wsL_clashes : List Cond := .codeWith yL_clashes cL_clashes 4 (some .int) [(0, 9, 12, 13)] :: ((wsL_clashes_r1 ++ (wsL_clashes_r2 ++ (wsL_clashes_r3 ++ wsL_clashes_r4))) ++ wsX10 ++ wsX00 ++ (vx_atS RX1 142 "java/lang/IllegalArgumentException" ["java/lang/RuntimeException", "java/lang/Exception"]).filter goodWord)
def wsL_clash_r1 : List Cond := [Cond.classLink RL 13 "java/lang/IllegalArgumentException", Cond.methodLink RL 42 yX1_clash, Cond.instanceMethod yX1_clash, Cond.selects RX1 yX1_clash yX1_clash, Cond.initialized RX1, Cond.code yX1_clash cX1_clash 7 (some .int), Cond.fieldLink RX1 19 "ClashBoxes" "made" "I", Cond.methodLink RX1 67 yX1_isWithin, Cond.static yX1_isWithin, Cond.code yX1_isWithin cX1_isWithin 3 (some .boolean), Cond.methodLink RX1 43 yX1_need, Cond.static yX1_need, Cond.code yX1_need cX1_need 1 none, Cond.classLink RX1 138 "java/lang/IllegalArgumentException", Cond.initialized "java/lang/IllegalArgumentException", Cond.methodLink RX1 97 yX1_countPartners, Cond.instanceMethod yX1_countPartners, Cond.selects RX1 yX1_countPartners yX1_countPartners, Cond.code yX1_countPartners cX1_countPartners 5 (some .int), Cond.methodLink RX1 183 yX1_isPair, Cond.instanceMethod yX1_isPair, Cond.selects RX1 yX1_isPair yX1_isPair, Cond.code yX1_isPair cX1_isPair 6 (some .boolean), Cond.fieldLink RX1 11 "ClashBoxes" "row" "[LClashBoxes$Part;"]
def wsL_clash_r2 : List Cond := [Cond.methodLink RX1 93 yX1_stateOf, Cond.instanceMethod yX1_stateOf, Cond.selects RX1 yX1_stateOf yX1_stateOf, Cond.code yX1_stateOf cX1_stateOf 4 (some .int), Cond.fieldLink RX1 152 "ClashBoxes$Part" "kind" "I", Cond.fieldLink RX1 75 "ClashBoxes$Part" "softSpace" "I", Cond.methodLink RX1 78 yX1_areFree, Cond.instanceMethod yX1_areFree, Cond.selects RX1 yX1_areFree yX1_areFree, Cond.code yX1_areFree cX1_areFree 3 (some .boolean), Cond.fieldLink RX1 15 "ClashBoxes" "freeKinds" "[Z", Cond.methodLink RX1 155 yX1_meet, Cond.static yX1_meet, Cond.code yX1_meet cX1_meet 4 (some .boolean), Cond.methodLink RX1 159 yX1_roundAxis, Cond.static yX1_roundAxis, Cond.code yX1_roundAxis cX1_roundAxis 2 (some .int), Cond.fieldLink RX1 173 "ClashBoxes$Part" "tubeAxis" "I", Cond.methodLink RX1 169 yX0_isTube, Cond.instanceMethod yX0_isTube, Cond.selects RX0 yX0_isTube yX0_isTube, Cond.initialized RX0, Cond.code yX0_isTube cX0_isTube 1 (some .boolean), Cond.fieldLink RX0 25 "ClashBoxes$Part" "tubeAxis" "I"]
def wsL_clash_r3 : List Cond := [Cond.methodLink RX1 162 yX1_overlap, Cond.static yX1_overlap, Cond.code yX1_overlap cX1_overlap 4 (some .boolean), Cond.methodLink RX1 108 yX0_hullLeast, Cond.instanceMethod yX0_hullLeast, Cond.selects RX0 yX0_hullLeast yX0_hullLeast, Cond.code yX0_hullLeast cX0_hullLeast 2 (some .int), Cond.fieldLink RX0 9 "ClashBoxes$Part" "least" "[I", Cond.fieldLink RX0 28 "ClashBoxes$Part" "radius" "I", Cond.methodLink RX1 117 yX0_hullGreatest, Cond.instanceMethod yX0_hullGreatest, Cond.selects RX0 yX0_hullGreatest yX0_hullGreatest, Cond.code yX0_hullGreatest cX0_hullGreatest 2 (some .int), Cond.fieldLink RX0 15 "ClashBoxes$Part" "greatest" "[I", Cond.methodLink RX1 166 yX1_isNear, Cond.static yX1_isNear, Cond.code yX1_isNear cX1_isNear 9 (some .boolean), Cond.fieldLink RX1 176 "ClashBoxes$Part" "radius" "I", Cond.methodLink RX1 112 Lib.Math.max.name, Cond.static Lib.Math.max.name, Cond.initialized "java/lang/Math", Cond.code Lib.Math.max.name Lib.Math.max.code 2 (some .int), Cond.methodLink RX1 179 yX1_coreGap, Cond.static yX1_coreGap]
def wsL_clash_r4 : List Cond := [Cond.code yX1_coreGap cX1_coreGap 5 (some .int), Cond.fieldLink RX1 84 "ClashBoxes$Part" "least" "[I", Cond.fieldLink RX1 87 "ClashBoxes$Part" "greatest" "[I", Cond.methodLink RX1 101 yX1_partnerAt, Cond.instanceMethod yX1_partnerAt, Cond.selects RX1 yX1_partnerAt yX1_partnerAt, Cond.code yX1_partnerAt cX1_partnerAt 6 (some .int)]
def wsL_clash : List Cond := .codeWith yL_clash cL_clash 6 (some .int) [(0, 12, 15, 13)] :: ((wsL_clash_r1 ++ (wsL_clash_r2 ++ (wsL_clash_r3 ++ wsL_clash_r4))) ++ wsX10 ++ wsX00 ++ (vx_atS RX1 142 "java/lang/IllegalArgumentException" ["java/lang/RuntimeException", "java/lang/Exception"]).filter goodWord)
def wsL_group_r1 : List Cond := [Cond.classLink RL 13 "java/lang/IllegalArgumentException", Cond.methodLink RL 46 yX1_group, Cond.instanceMethod yX1_group, Cond.selects RX1 yX1_group yX1_group, Cond.initialized RX1, Cond.code yX1_group cX1_group 2 (some .int), Cond.fieldLink RX1 26 "ClashBoxes" "names" "[I", Cond.methodLink RX1 90 yX1_isThere, Cond.instanceMethod yX1_isThere, Cond.selects RX1 yX1_isThere yX1_isThere, Cond.code yX1_isThere cX1_isThere 2 (some .boolean), Cond.fieldLink RX1 11 "ClashBoxes" "row" "[LClashBoxes$Part;", Cond.methodLink RX1 67 yX1_isWithin, Cond.static yX1_isWithin, Cond.code yX1_isWithin cX1_isWithin 3 (some .boolean), Cond.methodLink RX1 43 yX1_need, Cond.static yX1_need, Cond.code yX1_need cX1_need 1 none, Cond.classLink RX1 138 "java/lang/IllegalArgumentException", Cond.initialized "java/lang/IllegalArgumentException", Cond.methodLink RX1 105 yX1_nameGroups, Cond.instanceMethod yX1_nameGroups, Cond.selects RX1 yX1_nameGroups yX1_nameGroups, Cond.code yX1_nameGroups cX1_nameGroups 3 none]
def wsL_group_r2 : List Cond := [Cond.fieldLink RX1 19 "ClashBoxes" "made" "I", Cond.methodLink RX1 120 Lib.Math.min.name, Cond.static Lib.Math.min.name, Cond.initialized "java/lang/Math", Cond.code Lib.Math.min.name Lib.Math.min.code 2 (some .int), Cond.methodLink RX1 112 Lib.Math.max.name, Cond.static Lib.Math.max.name, Cond.code Lib.Math.max.name Lib.Math.max.code 2 (some .int), Cond.methodLink RX1 183 yX1_isPair, Cond.instanceMethod yX1_isPair, Cond.selects RX1 yX1_isPair yX1_isPair, Cond.code yX1_isPair cX1_isPair 6 (some .boolean), Cond.methodLink RX1 93 yX1_stateOf, Cond.instanceMethod yX1_stateOf, Cond.selects RX1 yX1_stateOf yX1_stateOf, Cond.code yX1_stateOf cX1_stateOf 4 (some .int), Cond.fieldLink RX1 152 "ClashBoxes$Part" "kind" "I", Cond.fieldLink RX1 75 "ClashBoxes$Part" "softSpace" "I", Cond.methodLink RX1 78 yX1_areFree, Cond.instanceMethod yX1_areFree, Cond.selects RX1 yX1_areFree yX1_areFree, Cond.code yX1_areFree cX1_areFree 3 (some .boolean), Cond.fieldLink RX1 15 "ClashBoxes" "freeKinds" "[Z", Cond.methodLink RX1 155 yX1_meet]
def wsL_group_r3 : List Cond := [Cond.static yX1_meet, Cond.code yX1_meet cX1_meet 4 (some .boolean), Cond.methodLink RX1 159 yX1_roundAxis, Cond.static yX1_roundAxis, Cond.code yX1_roundAxis cX1_roundAxis 2 (some .int), Cond.fieldLink RX1 173 "ClashBoxes$Part" "tubeAxis" "I", Cond.methodLink RX1 169 yX0_isTube, Cond.instanceMethod yX0_isTube, Cond.selects RX0 yX0_isTube yX0_isTube, Cond.initialized RX0, Cond.code yX0_isTube cX0_isTube 1 (some .boolean), Cond.fieldLink RX0 25 "ClashBoxes$Part" "tubeAxis" "I", Cond.methodLink RX1 162 yX1_overlap, Cond.static yX1_overlap, Cond.code yX1_overlap cX1_overlap 4 (some .boolean), Cond.methodLink RX1 108 yX0_hullLeast, Cond.instanceMethod yX0_hullLeast, Cond.selects RX0 yX0_hullLeast yX0_hullLeast, Cond.code yX0_hullLeast cX0_hullLeast 2 (some .int), Cond.fieldLink RX0 9 "ClashBoxes$Part" "least" "[I", Cond.fieldLink RX0 28 "ClashBoxes$Part" "radius" "I", Cond.methodLink RX1 117 yX0_hullGreatest, Cond.instanceMethod yX0_hullGreatest, Cond.selects RX0 yX0_hullGreatest yX0_hullGreatest]
def wsL_group_r4 : List Cond := [Cond.code yX0_hullGreatest cX0_hullGreatest 2 (some .int), Cond.fieldLink RX0 15 "ClashBoxes$Part" "greatest" "[I", Cond.methodLink RX1 166 yX1_isNear, Cond.static yX1_isNear, Cond.code yX1_isNear cX1_isNear 9 (some .boolean), Cond.fieldLink RX1 176 "ClashBoxes$Part" "radius" "I", Cond.methodLink RX1 179 yX1_coreGap, Cond.static yX1_coreGap, Cond.code yX1_coreGap cX1_coreGap 5 (some .int), Cond.fieldLink RX1 84 "ClashBoxes$Part" "least" "[I", Cond.fieldLink RX1 87 "ClashBoxes$Part" "greatest" "[I", Cond.methodLink RX1 186 yX1_joinNames, Cond.instanceMethod yX1_joinNames, Cond.selects RX1 yX1_joinNames yX1_joinNames, Cond.code yX1_joinNames cX1_joinNames 4 none]
def wsL_group : List Cond := .codeWith yL_group cL_group 4 (some .int) [(0, 9, 12, 13)] :: ((wsL_group_r1 ++ (wsL_group_r2 ++ (wsL_group_r3 ++ wsL_group_r4))) ++ wsX10 ++ wsX00 ++ (vx_atS RX1 142 "java/lang/IllegalArgumentException" ["java/lang/RuntimeException", "java/lang/Exception"]).filter goodWord)
def wsL_common_r1 : List Cond := [Cond.classLink RL 13 "java/lang/IllegalArgumentException", Cond.methodLink RL 49 yX1_common, Cond.instanceMethod yX1_common, Cond.selects RX1 yX1_common yX1_common, Cond.initialized RX1, Cond.code yX1_common cX1_common 10 (some .long), Cond.methodLink RX1 112 Lib.Math.max.name, Cond.static Lib.Math.max.name, Cond.initialized "java/lang/Math", Cond.code Lib.Math.max.name Lib.Math.max.code 2 (some .int), Cond.methodLink RX1 120 Lib.Math.min.name, Cond.static Lib.Math.min.name, Cond.code Lib.Math.min.name Lib.Math.min.code 2 (some .int), Cond.methodLink RX1 71 yX1_partAt, Cond.instanceMethod yX1_partAt, Cond.selects RX1 yX1_partAt yX1_partAt, Cond.code yX1_partAt cX1_partAt 3 (some (.object "ClashBoxes$Part")), Cond.classLink RX1 138 "java/lang/IllegalArgumentException", Cond.initialized "java/lang/IllegalArgumentException", Cond.fieldLink RX1 11 "ClashBoxes" "row" "[LClashBoxes$Part;", Cond.methodLink RX1 67 yX1_isWithin, Cond.static yX1_isWithin, Cond.code yX1_isWithin cX1_isWithin 3 (some .boolean), Cond.methodLink RX1 43 yX1_need]
def wsL_common_r2 : List Cond := [Cond.static yX1_need, Cond.code yX1_need cX1_need 1 none, Cond.methodLink RX1 108 yX0_hullLeast, Cond.instanceMethod yX0_hullLeast, Cond.selects RX0 yX0_hullLeast yX0_hullLeast, Cond.initialized RX0, Cond.code yX0_hullLeast cX0_hullLeast 2 (some .int), Cond.fieldLink RX0 25 "ClashBoxes$Part" "tubeAxis" "I", Cond.fieldLink RX0 9 "ClashBoxes$Part" "least" "[I", Cond.fieldLink RX0 28 "ClashBoxes$Part" "radius" "I", Cond.methodLink RX1 117 yX0_hullGreatest, Cond.instanceMethod yX0_hullGreatest, Cond.selects RX0 yX0_hullGreatest yX0_hullGreatest, Cond.code yX0_hullGreatest cX0_hullGreatest 2 (some .int), Cond.fieldLink RX0 15 "ClashBoxes$Part" "greatest" "[I"]
def wsL_common : List Cond := .codeWith yL_common cL_common 5 (some .int) [(0, 9, 12, 13)] :: ((wsL_common_r1 ++ wsL_common_r2) ++ wsX10 ++ wsX00 ++ (vx_atS RX1 142 "java/lang/IllegalArgumentException" ["java/lang/RuntimeException", "java/lang/Exception"]).filter goodWord)
def wsL_inside_r1 : List Cond := [Cond.classLink RL 13 "java/lang/IllegalArgumentException", Cond.methodLink RL 53 yX1_inside, Cond.instanceMethod yX1_inside, Cond.selects RX1 yX1_inside yX1_inside, Cond.initialized RX1, Cond.code yX1_inside cX1_inside 11 (some .int), Cond.fieldLink RX1 19 "ClashBoxes" "made" "I", Cond.fieldLink RX1 11 "ClashBoxes" "row" "[LClashBoxes$Part;", Cond.methodLink RX1 123 yX1_isSeen, Cond.static yX1_isSeen, Cond.code yX1_isSeen cX1_isSeen 2 (some .boolean), Cond.methodLink RX1 67 yX1_isWithin, Cond.static yX1_isWithin, Cond.code yX1_isWithin cX1_isWithin 3 (some .boolean), Cond.methodLink RX1 43 yX1_need, Cond.static yX1_need, Cond.code yX1_need cX1_need 1 none, Cond.classLink RX1 138 "java/lang/IllegalArgumentException", Cond.initialized "java/lang/IllegalArgumentException", Cond.methodLink RX1 126 yX1_cuts, Cond.static yX1_cuts, Cond.code yX1_cuts cX1_cuts 4 (some .boolean), Cond.methodLink RX1 108 yX0_hullLeast, Cond.instanceMethod yX0_hullLeast]
def wsL_inside_r2 : List Cond := [Cond.selects RX0 yX0_hullLeast yX0_hullLeast, Cond.initialized RX0, Cond.code yX0_hullLeast cX0_hullLeast 2 (some .int), Cond.fieldLink RX0 25 "ClashBoxes$Part" "tubeAxis" "I", Cond.fieldLink RX0 9 "ClashBoxes$Part" "least" "[I", Cond.fieldLink RX0 28 "ClashBoxes$Part" "radius" "I", Cond.methodLink RX1 117 yX0_hullGreatest, Cond.instanceMethod yX0_hullGreatest, Cond.selects RX0 yX0_hullGreatest yX0_hullGreatest, Cond.code yX0_hullGreatest cX0_hullGreatest 2 (some .int), Cond.fieldLink RX0 15 "ClashBoxes$Part" "greatest" "[I"]
def wsL_inside : List Cond := .codeWith yL_inside cL_inside 10 (some .int) [(0, 20, 23, 13)] :: ((wsL_inside_r1 ++ wsL_inside_r2) ++ wsX10 ++ wsX00 ++ (vx_atS RX1 142 "java/lang/IllegalArgumentException" ["java/lang/RuntimeException", "java/lang/Exception"]).filter goodWord)
def wsL_shift_r1 : List Cond := [Cond.classLink RL 13 "java/lang/IllegalArgumentException", Cond.methodLink RL 56 yX1_shift, Cond.instanceMethod yX1_shift, Cond.selects RX1 yX1_shift yX1_shift, Cond.initialized RX1, Cond.code yX1_shift cX1_shift 10 (some .int), Cond.methodLink RX1 71 yX1_partAt, Cond.instanceMethod yX1_partAt, Cond.selects RX1 yX1_partAt yX1_partAt, Cond.code yX1_partAt cX1_partAt 3 (some (.object "ClashBoxes$Part")), Cond.classLink RX1 138 "java/lang/IllegalArgumentException", Cond.initialized "java/lang/IllegalArgumentException", Cond.fieldLink RX1 11 "ClashBoxes" "row" "[LClashBoxes$Part;", Cond.methodLink RX1 67 yX1_isWithin, Cond.static yX1_isWithin, Cond.code yX1_isWithin cX1_isWithin 3 (some .boolean), Cond.methodLink RX1 64 yX1_isAxis, Cond.static yX1_isAxis, Cond.code yX1_isAxis cX1_isAxis 1 (some .boolean), Cond.methodLink RX1 43 yX1_need, Cond.static yX1_need, Cond.code yX1_need cX1_need 1 none, Cond.methodLink RX1 130 yX1_findBlocks, Cond.instanceMethod yX1_findBlocks]
def wsL_shift_r2 : List Cond := [Cond.selects RX1 yX1_findBlocks yX1_findBlocks, Cond.code yX1_findBlocks cX1_findBlocks 7 (some .int), Cond.fieldLink RX1 19 "ClashBoxes" "made" "I", Cond.fieldLink RX1 152 "ClashBoxes$Part" "kind" "I", Cond.methodLink RX1 78 yX1_areFree, Cond.instanceMethod yX1_areFree, Cond.selects RX1 yX1_areFree yX1_areFree, Cond.code yX1_areFree cX1_areFree 3 (some .boolean), Cond.fieldLink RX1 15 "ClashBoxes" "freeKinds" "[Z", Cond.methodLink RX1 190 yX1_noteBlock, Cond.instanceMethod yX1_noteBlock, Cond.selects RX1 yX1_noteBlock yX1_noteBlock, Cond.code yX1_noteBlock cX1_noteBlock 7 (some .boolean), Cond.fieldLink RX1 33 "ClashBoxes" "blockLeast" "[I", Cond.fieldLink RX1 36 "ClashBoxes" "blockGreatest" "[I", Cond.fieldLink RX1 84 "ClashBoxes$Part" "least" "[I", Cond.fieldLink RX1 87 "ClashBoxes$Part" "greatest" "[I", Cond.methodLink RX1 159 yX1_roundAxis, Cond.static yX1_roundAxis, Cond.code yX1_roundAxis cX1_roundAxis 2 (some .int), Cond.fieldLink RX1 173 "ClashBoxes$Part" "tubeAxis" "I", Cond.methodLink RX1 169 yX0_isTube, Cond.instanceMethod yX0_isTube, Cond.selects RX0 yX0_isTube yX0_isTube]
def wsL_shift_r3 : List Cond := [Cond.initialized RX0, Cond.code yX0_isTube cX0_isTube 1 (some .boolean), Cond.fieldLink RX0 25 "ClashBoxes$Part" "tubeAxis" "I", Cond.methodLink RX1 108 yX0_hullLeast, Cond.instanceMethod yX0_hullLeast, Cond.selects RX0 yX0_hullLeast yX0_hullLeast, Cond.code yX0_hullLeast cX0_hullLeast 2 (some .int), Cond.fieldLink RX0 9 "ClashBoxes$Part" "least" "[I", Cond.fieldLink RX0 28 "ClashBoxes$Part" "radius" "I", Cond.methodLink RX1 117 yX0_hullGreatest, Cond.instanceMethod yX0_hullGreatest, Cond.selects RX0 yX0_hullGreatest yX0_hullGreatest, Cond.code yX0_hullGreatest cX0_hullGreatest 2 (some .int), Cond.fieldLink RX0 15 "ClashBoxes$Part" "greatest" "[I", Cond.methodLink RX1 194 yX1_overlapAcross, Cond.static yX1_overlapAcross, Cond.code yX1_overlapAcross cX1_overlapAcross 4 (some .boolean), Cond.methodLink RX1 162 yX1_overlap, Cond.static yX1_overlap, Cond.code yX1_overlap cX1_overlap 4 (some .boolean), Cond.methodLink RX1 166 yX1_isNear, Cond.static yX1_isNear, Cond.code yX1_isNear cX1_isNear 9 (some .boolean), Cond.fieldLink RX1 176 "ClashBoxes$Part" "radius" "I"]
def wsL_shift_r4 : List Cond := [Cond.methodLink RX1 112 Lib.Math.max.name, Cond.static Lib.Math.max.name, Cond.initialized "java/lang/Math", Cond.code Lib.Math.max.name Lib.Math.max.code 2 (some .int), Cond.methodLink RX1 179 yX1_coreGap, Cond.static yX1_coreGap, Cond.code yX1_coreGap cX1_coreGap 5 (some .int), Cond.methodLink RX1 198 yX1_thirdAxis, Cond.static yX1_thirdAxis, Cond.code yX1_thirdAxis cX1_thirdAxis 2 (some .int), Cond.methodLink RX1 201 yX1_roundWidth, Cond.static yX1_roundWidth, Cond.code yX1_roundWidth cX1_roundWidth 7 (some .int), Cond.methodLink RX1 134 yX1_freeShift, Cond.instanceMethod yX1_freeShift, Cond.selects RX1 yX1_freeShift yX1_freeShift, Cond.code yX1_freeShift cX1_freeShift 6 (some .int), Cond.methodLink RX1 204 yX1_blockAt, Cond.instanceMethod yX1_blockAt, Cond.selects RX1 yX1_blockAt yX1_blockAt, Cond.code yX1_blockAt cX1_blockAt 4 (some .int), Cond.methodLink RX1 81 yX0_staysInSpace, Cond.instanceMethod yX0_staysInSpace, Cond.selects RX0 yX0_staysInSpace yX0_staysInSpace]
def wsL_shift_r5 : List Cond := [Cond.code yX0_staysInSpace cX0_staysInSpace 3 (some .boolean)]
def wsL_shift : List Cond := .codeWith yL_shift cL_shift 6 (some .int) [(0, 12, 15, 13)] :: ((wsL_shift_r1 ++ (wsL_shift_r2 ++ (wsL_shift_r3 ++ (wsL_shift_r4 ++ wsL_shift_r5)))) ++ wsX10 ++ wsX00 ++ (vx_atS RX1 142 "java/lang/IllegalArgumentException" ["java/lang/RuntimeException", "java/lang/Exception"]).filter goodWord)
def wsL_hull_r1 : List Cond := [Cond.classLink RL 13 "java/lang/IllegalArgumentException", Cond.methodLink RL 59 yX1_hull, Cond.instanceMethod yX1_hull, Cond.selects RX1 yX1_hull yX1_hull, Cond.initialized RX1, Cond.code yX1_hull cX1_hull 5 (some .int), Cond.methodLink RX1 71 yX1_partAt, Cond.instanceMethod yX1_partAt, Cond.selects RX1 yX1_partAt yX1_partAt, Cond.code yX1_partAt cX1_partAt 3 (some (.object "ClashBoxes$Part")), Cond.classLink RX1 138 "java/lang/IllegalArgumentException", Cond.initialized "java/lang/IllegalArgumentException", Cond.fieldLink RX1 11 "ClashBoxes" "row" "[LClashBoxes$Part;", Cond.methodLink RX1 67 yX1_isWithin, Cond.static yX1_isWithin, Cond.code yX1_isWithin cX1_isWithin 3 (some .boolean), Cond.methodLink RX1 64 yX1_isAxis, Cond.static yX1_isAxis, Cond.code yX1_isAxis cX1_isAxis 1 (some .boolean), Cond.methodLink RX1 43 yX1_need, Cond.static yX1_need, Cond.code yX1_need cX1_need 1 none, Cond.methodLink RX1 108 yX0_hullLeast, Cond.instanceMethod yX0_hullLeast]
def wsL_hull_r2 : List Cond := [Cond.selects RX0 yX0_hullLeast yX0_hullLeast, Cond.initialized RX0, Cond.code yX0_hullLeast cX0_hullLeast 2 (some .int), Cond.fieldLink RX0 25 "ClashBoxes$Part" "tubeAxis" "I", Cond.fieldLink RX0 9 "ClashBoxes$Part" "least" "[I", Cond.fieldLink RX0 28 "ClashBoxes$Part" "radius" "I", Cond.methodLink RX1 117 yX0_hullGreatest, Cond.instanceMethod yX0_hullGreatest, Cond.selects RX0 yX0_hullGreatest yX0_hullGreatest, Cond.code yX0_hullGreatest cX0_hullGreatest 2 (some .int), Cond.fieldLink RX0 15 "ClashBoxes$Part" "greatest" "[I"]
def wsL_hull : List Cond := .codeWith yL_hull cL_hull 6 (some .int) [(0, 12, 15, 13)] :: ((wsL_hull_r1 ++ wsL_hull_r2) ++ wsX10 ++ wsX00 ++ (vx_atS RX1 142 "java/lang/IllegalArgumentException" ["java/lang/RuntimeException", "java/lang/Exception"]).filter goodWord)
def wsL_law0_r1 : List Cond := [Cond.classLink RL 8 RX1, Cond.instantiable RX1 8, Cond.initialized RX1, Cond.classLink RL 63 RX2, Cond.instantiable RX2 15, Cond.initialized RX2, Cond.arrayClass .long, Cond.methodLink RL 62 yX1_init, Cond.instanceMethod yX1_init, Cond.code yX1_init cX1_init 1 none, Cond.methodLink RX1 1 objectInit, Cond.instanceMethod objectInit, Cond.code objectInit ⟨#[0xb1]⟩ 1 none, Cond.classLink RX1 9 RX0, Cond.fieldLink RX1 11 "ClashBoxes" "row" "[LClashBoxes$Part;", Cond.arrayClass .boolean, Cond.fieldLink RX1 15 "ClashBoxes" "freeKinds" "[Z", Cond.fieldLink RX1 19 "ClashBoxes" "made" "I", Cond.fieldLink RX1 23 "ClashBoxes" "left" "I", Cond.arrayClass .int, Cond.fieldLink RX1 26 "ClashBoxes" "names" "[I", Cond.fieldLink RX1 30 "ClashBoxes" "sizes" "[I", Cond.fieldLink RX1 33 "ClashBoxes" "blockLeast" "[I", Cond.fieldLink RX1 36 "ClashBoxes" "blockGreatest" "[I"]
def wsL_law0_r2 : List Cond := [Cond.methodLink RL 65 yX2_init, Cond.instanceMethod yX2_init, Cond.code yX2_init cX2_init 1 none, Cond.methodLink RX2 1 objectInit, Cond.fieldLink RX2 7 "ClashBoxesModel" "isThere" "[Z", Cond.fieldLink RX2 13 "ClashBoxesModel" "kinds" "[I", Cond.fieldLink RX2 17 "ClashBoxesModel" "margins" "[I", Cond.fieldLink RX2 20 "ClashBoxesModel" "axes" "[I", Cond.fieldLink RX2 23 "ClashBoxesModel" "radii" "[I", Cond.fieldLink RX2 26 "ClashBoxesModel" "lows" "[I", Cond.fieldLink RX2 29 "ClashBoxesModel" "highs" "[I", Cond.fieldLink RX2 32 "ClashBoxesModel" "areFree" "[Z", Cond.fieldLink RX2 35 "ClashBoxesModel" "groups" "[I", Cond.fieldLink RX2 38 "ClashBoxesModel" "movedPart" "I", Cond.methodLink RL 66 yL_box, Cond.static yL_box, Cond.initialized RL, Cond.codeWith yL_box cL_box 10 (some .int) [(0, 20, 23, 13), (0, 20, 27, 15)], Cond.classLink RL 13 "java/lang/IllegalArgumentException", Cond.classLink RL 15 "java/lang/IllegalStateException", Cond.methodLink RL 7 yX1_box, Cond.instanceMethod yX1_box, Cond.selects RX1 yX1_box yX1_box, Cond.code yX1_box cX1_box 9 (some .int)]
def wsL_law0_r3 : List Cond := [Cond.instantiable RX0 6, Cond.initialized RX0, Cond.methodLink RX1 39 yX1_isKind, Cond.static yX1_isKind, Cond.code yX1_isKind cX1_isKind 1 (some .boolean), Cond.methodLink RX1 67 yX1_isWithin, Cond.static yX1_isWithin, Cond.code yX1_isWithin cX1_isWithin 3 (some .boolean), Cond.methodLink RX1 43 yX1_need, Cond.static yX1_need, Cond.code yX1_need cX1_need 1 none, Cond.classLink RX1 138 "java/lang/IllegalArgumentException", Cond.initialized "java/lang/IllegalArgumentException", Cond.methodLink RX1 47 yX1_isSpan, Cond.static yX1_isSpan, Cond.code yX1_isSpan cX1_isSpan 2 (some .boolean), Cond.methodLink RX1 51 yX1_needRoom, Cond.instanceMethod yX1_needRoom, Cond.selects RX1 yX1_needRoom yX1_needRoom, Cond.code yX1_needRoom cX1_needRoom 1 none, Cond.classLink RX1 145 "java/lang/IllegalStateException", Cond.initialized "java/lang/IllegalStateException", Cond.methodLink RX1 54 yX0_init, Cond.instanceMethod yX0_init]
def wsL_law0_r4 : List Cond := [Cond.code yX0_init cX0_init 4 none, Cond.methodLink RX0 3 objectInit, Cond.fieldLink RX0 9 "ClashBoxes$Part" "least" "[I", Cond.fieldLink RX0 15 "ClashBoxes$Part" "greatest" "[I", Cond.fieldLink RX0 18 "ClashBoxes$Part" "softSpace" "I", Cond.fieldLink RX0 22 "ClashBoxes$Part" "kind" "I", Cond.fieldLink RX0 25 "ClashBoxes$Part" "tubeAxis" "I", Cond.fieldLink RX0 28 "ClashBoxes$Part" "radius" "I", Cond.methodLink RX1 57 yX0_setCore, Cond.instanceMethod yX0_setCore, Cond.selects RX0 yX0_setCore yX0_setCore, Cond.code yX0_setCore cX0_setCore 4 none, Cond.methodLink RX1 60 yX1_add, Cond.instanceMethod yX1_add, Cond.selects RX1 yX1_add yX1_add, Cond.code yX1_add cX1_add 3 (some .int), Cond.methodLink RL 71 yX2_box, Cond.instanceMethod yX2_box, Cond.selects RX2 yX2_box yX2_box, Cond.code yX2_box cX2_box 8 (some .int), Cond.fieldLink RX2 49 "ClashBoxesModel" "made" "I", Cond.fieldLink RX2 42 "ClashBoxesModel" "code" "I", Cond.methodLink RX2 55 yX2_isKind, Cond.static yX2_isKind]
def wsL_law0_r5 : List Cond := [Cond.code yX2_isKind cX2_isKind 1 (some .boolean), Cond.methodLink RX2 45 yX2_isIn, Cond.static yX2_isIn, Cond.code yX2_isIn cX2_isIn 3 (some .boolean), Cond.methodLink RX2 59 yX2_isSpan, Cond.static yX2_isSpan, Cond.code yX2_isSpan cX2_isSpan 2 (some .boolean), Cond.methodLink RX2 63 yX2_side, Cond.instanceMethod yX2_side, Cond.selects RX2 yX2_side yX2_side, Cond.code yX2_side cX2_side 4 none, Cond.methodLink RX2 67 yX2_lay, Cond.instanceMethod yX2_lay, Cond.selects RX2 yX2_lay yX2_lay, Cond.code yX2_lay cX2_lay 4 (some .int), Cond.fieldLink RX2 52 "ClashBoxesModel" "count" "I", Cond.methodLink RL 72 yX2_thrown, Cond.instanceMethod yX2_thrown, Cond.selects RX2 yX2_thrown yX2_thrown, Cond.code yX2_thrown cX2_thrown 1 (some .int), Cond.methodLink RL 76 yL_tube, Cond.static yL_tube, Cond.codeWith yL_tube cL_tube 10 (some .int) [(0, 20, 23, 13), (0, 20, 27, 15)], Cond.methodLink RL 17 yX1_tube]
def wsL_law0_r6 : List Cond := [Cond.instanceMethod yX1_tube, Cond.selects RX1 yX1_tube yX1_tube, Cond.code yX1_tube cX1_tube 11 (some .int), Cond.methodLink RX1 64 yX1_isAxis, Cond.static yX1_isAxis, Cond.code yX1_isAxis cX1_isAxis 1 (some .boolean), Cond.methodLink RL 78 yX2_tube, Cond.instanceMethod yX2_tube, Cond.selects RX2 yX2_tube yX2_tube, Cond.code yX2_tube cX2_tube 9 (some .int), Cond.methodLink RX2 71 yX2_isAxis, Cond.static yX2_isAxis, Cond.code yX2_isAxis cX2_isAxis 1 (some .boolean), Cond.methodLink RL 79 yL_margin, Cond.static yL_margin, Cond.codeWith yL_margin cL_margin 5 (some .int) [(0, 10, 13, 13)], Cond.methodLink RL 20 yX1_margin, Cond.instanceMethod yX1_margin, Cond.selects RX1 yX1_margin yX1_margin, Cond.code yX1_margin cX1_margin 5 (some .int), Cond.fieldLink RX1 75 "ClashBoxes$Part" "softSpace" "I", Cond.methodLink RX1 71 yX1_partAt, Cond.instanceMethod yX1_partAt, Cond.selects RX1 yX1_partAt yX1_partAt]
def wsL_law0_r7 : List Cond := [Cond.code yX1_partAt cX1_partAt 3 (some (.object "ClashBoxes$Part")), Cond.methodLink RL 82 yX2_margin, Cond.instanceMethod yX2_margin, Cond.selects RX2 yX2_margin yX2_margin, Cond.code yX2_margin cX2_margin 4 (some .int), Cond.methodLink RX2 74 yX2_isPart, Cond.instanceMethod yX2_isPart, Cond.selects RX2 yX2_isPart yX2_isPart, Cond.code yX2_isPart cX2_isPart 2 (some .boolean), Cond.methodLink RL 83 yL_free, Cond.static yL_free, Cond.codeWith yL_free cL_free 6 (some .int) [(0, 19, 22, 13)], Cond.methodLink RL 24 yX1_free, Cond.instanceMethod yX1_free, Cond.selects RX1 yX1_free yX1_free, Cond.code yX1_free cX1_free 5 (some .boolean), Cond.methodLink RX1 78 yX1_areFree, Cond.instanceMethod yX1_areFree, Cond.selects RX1 yX1_areFree yX1_areFree, Cond.code yX1_areFree cX1_areFree 3 (some .boolean), Cond.methodLink RL 86 yX2_free, Cond.instanceMethod yX2_free, Cond.selects RX2 yX2_free yX2_free, Cond.code yX2_free cX2_free 5 (some .boolean)]
def wsL_law0_r8 : List Cond := [Cond.methodLink RL 87 yL_move, Cond.static yL_move, Cond.codeWith yL_move cL_move 6 (some .int) [(0, 19, 22, 13)], Cond.methodLink RL 28 yX1_move, Cond.instanceMethod yX1_move, Cond.selects RX1 yX1_move yX1_move, Cond.code yX1_move cX1_move 5 (some .boolean), Cond.fieldLink RX1 84 "ClashBoxes$Part" "least" "[I", Cond.fieldLink RX1 87 "ClashBoxes$Part" "greatest" "[I", Cond.methodLink RX1 81 yX0_staysInSpace, Cond.instanceMethod yX0_staysInSpace, Cond.selects RX0 yX0_staysInSpace yX0_staysInSpace, Cond.code yX0_staysInSpace cX0_staysInSpace 3 (some .boolean), Cond.methodLink RL 90 yX2_move, Cond.instanceMethod yX2_move, Cond.selects RX2 yX2_move yX2_move, Cond.code yX2_move cX2_move 4 (some .boolean), Cond.methodLink RX2 77 yX2_mayMove, Cond.instanceMethod yX2_mayMove, Cond.selects RX2 yX2_mayMove yX2_mayMove, Cond.code yX2_mayMove cX2_mayMove 4 (some .boolean), Cond.methodLink RL 91 yL_drop, Cond.static yL_drop, Cond.codeWith yL_drop cL_drop 4 (some .int) [(0, 9, 12, 13)]]
def wsL_law0_r9 : List Cond := [Cond.methodLink RL 32 yX1_drop, Cond.instanceMethod yX1_drop, Cond.selects RX1 yX1_drop yX1_drop, Cond.code yX1_drop cX1_drop 2 (some .int), Cond.methodLink RX1 90 yX1_isThere, Cond.instanceMethod yX1_isThere, Cond.selects RX1 yX1_isThere yX1_isThere, Cond.code yX1_isThere cX1_isThere 2 (some .boolean), Cond.methodLink RL 94 yX2_drop, Cond.instanceMethod yX2_drop, Cond.selects RX2 yX2_drop yX2_drop, Cond.code yX2_drop cX2_drop 2 (some .int), Cond.methodLink RL 95 yL_pair, Cond.static yL_pair, Cond.codeWith yL_pair cL_pair 5 (some .int) [(0, 10, 13, 13)], Cond.methodLink RL 36 yX1_pair, Cond.instanceMethod yX1_pair, Cond.selects RX1 yX1_pair yX1_pair, Cond.code yX1_pair cX1_pair 5 (some .int), Cond.methodLink RX1 93 yX1_stateOf, Cond.instanceMethod yX1_stateOf, Cond.selects RX1 yX1_stateOf yX1_stateOf, Cond.code yX1_stateOf cX1_stateOf 4 (some .int), Cond.fieldLink RX1 152 "ClashBoxes$Part" "kind" "I"]
def wsL_law0_r10 : List Cond := [Cond.methodLink RX1 155 yX1_meet, Cond.static yX1_meet, Cond.code yX1_meet cX1_meet 4 (some .boolean), Cond.methodLink RX1 159 yX1_roundAxis, Cond.static yX1_roundAxis, Cond.code yX1_roundAxis cX1_roundAxis 2 (some .int), Cond.fieldLink RX1 173 "ClashBoxes$Part" "tubeAxis" "I", Cond.methodLink RX1 169 yX0_isTube, Cond.instanceMethod yX0_isTube, Cond.selects RX0 yX0_isTube yX0_isTube, Cond.code yX0_isTube cX0_isTube 1 (some .boolean), Cond.methodLink RX1 162 yX1_overlap, Cond.static yX1_overlap, Cond.code yX1_overlap cX1_overlap 4 (some .boolean), Cond.methodLink RX1 108 yX0_hullLeast, Cond.instanceMethod yX0_hullLeast, Cond.selects RX0 yX0_hullLeast yX0_hullLeast, Cond.code yX0_hullLeast cX0_hullLeast 2 (some .int), Cond.methodLink RX1 117 yX0_hullGreatest, Cond.instanceMethod yX0_hullGreatest, Cond.selects RX0 yX0_hullGreatest yX0_hullGreatest, Cond.code yX0_hullGreatest cX0_hullGreatest 2 (some .int), Cond.methodLink RX1 166 yX1_isNear, Cond.static yX1_isNear]
def wsL_law0_r11 : List Cond := [Cond.code yX1_isNear cX1_isNear 9 (some .boolean), Cond.fieldLink RX1 176 "ClashBoxes$Part" "radius" "I", Cond.methodLink RX1 112 Lib.Math.max.name, Cond.static Lib.Math.max.name, Cond.initialized "java/lang/Math", Cond.code Lib.Math.max.name Lib.Math.max.code 2 (some .int), Cond.methodLink RX1 179 yX1_coreGap, Cond.static yX1_coreGap, Cond.code yX1_coreGap cX1_coreGap 5 (some .int), Cond.methodLink RL 97 yX2_pair, Cond.instanceMethod yX2_pair, Cond.selects RX2 yX2_pair yX2_pair, Cond.code yX2_pair cX2_pair 3 (some .int), Cond.methodLink RX2 109 yX2_stateOf, Cond.instanceMethod yX2_stateOf, Cond.selects RX2 yX2_stateOf yX2_stateOf, Cond.code yX2_stateOf cX2_stateOf 3 (some .int), Cond.methodLink RX2 106 yX2_meets, Cond.instanceMethod yX2_meets, Cond.selects RX2 yX2_meets yX2_meets, Cond.code yX2_meets cX2_meets 8 (some .boolean), Cond.methodLink RX2 100 yX2_hullsMeet, Cond.instanceMethod yX2_hullsMeet, Cond.selects RX2 yX2_hullsMeet yX2_hullsMeet]
def wsL_law0_r12 : List Cond := [Cond.code yX2_hullsMeet cX2_hullsMeet 6 (some .boolean), Cond.methodLink RX2 90 yX2_hullEnd, Cond.instanceMethod yX2_hullEnd, Cond.selects RX2 yX2_hullEnd yX2_hullEnd, Cond.code yX2_hullEnd cX2_hullEnd 8 (some .int), Cond.methodLink RX2 86 yX2_end, Cond.instanceMethod yX2_end, Cond.selects RX2 yX2_end yX2_end, Cond.code yX2_end cX2_end 7 (some .int), Cond.fieldLink RX2 80 "ClashBoxesModel" "movedAxis" "I", Cond.fieldLink RX2 83 "ClashBoxesModel" "movedBy" "I", Cond.methodLink RX2 93 yX2_overlaps, Cond.static yX2_overlaps, Cond.code yX2_overlaps cX2_overlaps 4 (some .boolean), Cond.methodLink RX2 103 yX2_tubeAndBox, Cond.instanceMethod yX2_tubeAndBox, Cond.selects RX2 yX2_tubeAndBox yX2_tubeAndBox, Cond.code yX2_tubeAndBox cX2_tubeAndBox 9 (some .boolean), Cond.methodLink RX2 97 yX2_off, Cond.static yX2_off, Cond.code yX2_off cX2_off 3 (some .int), Cond.methodLink RL 98 yL_clashes, Cond.static yL_clashes, Cond.codeWith yL_clashes cL_clashes 4 (some .int) [(0, 9, 12, 13)]]
def wsL_law0_r13 : List Cond := [Cond.methodLink RL 39 yX1_clashes, Cond.instanceMethod yX1_clashes, Cond.selects RX1 yX1_clashes yX1_clashes, Cond.code yX1_clashes cX1_clashes 4 (some .int), Cond.methodLink RX1 97 yX1_countPartners, Cond.instanceMethod yX1_countPartners, Cond.selects RX1 yX1_countPartners yX1_countPartners, Cond.code yX1_countPartners cX1_countPartners 5 (some .int), Cond.methodLink RX1 183 yX1_isPair, Cond.instanceMethod yX1_isPair, Cond.selects RX1 yX1_isPair yX1_isPair, Cond.code yX1_isPair cX1_isPair 6 (some .boolean), Cond.methodLink RL 100 yX2_clashes, Cond.instanceMethod yX2_clashes, Cond.selects RX2 yX2_clashes yX2_clashes, Cond.code yX2_clashes cX2_clashes 5 (some .int), Cond.methodLink RL 101 yL_clash, Cond.static yL_clash, Cond.codeWith yL_clash cL_clash 6 (some .int) [(0, 12, 15, 13)], Cond.methodLink RL 42 yX1_clash, Cond.instanceMethod yX1_clash, Cond.selects RX1 yX1_clash yX1_clash, Cond.code yX1_clash cX1_clash 7 (some .int), Cond.methodLink RX1 101 yX1_partnerAt]
def wsL_law0_r14 : List Cond := [Cond.instanceMethod yX1_partnerAt, Cond.selects RX1 yX1_partnerAt yX1_partnerAt, Cond.code yX1_partnerAt cX1_partnerAt 6 (some .int), Cond.methodLink RL 103 yX2_clash, Cond.instanceMethod yX2_clash, Cond.selects RX2 yX2_clash yX2_clash, Cond.code yX2_clash cX2_clash 7 (some .int), Cond.methodLink RL 104 yX1_groups, Cond.instanceMethod yX1_groups, Cond.selects RX1 yX1_groups yX1_groups, Cond.code yX1_groups cX1_groups 4 (some .int), Cond.methodLink RX1 105 yX1_nameGroups, Cond.instanceMethod yX1_nameGroups, Cond.selects RX1 yX1_nameGroups yX1_nameGroups, Cond.code yX1_nameGroups cX1_nameGroups 3 none, Cond.methodLink RX1 120 Lib.Math.min.name, Cond.static Lib.Math.min.name, Cond.code Lib.Math.min.name Lib.Math.min.code 2 (some .int), Cond.methodLink RX1 186 yX1_joinNames, Cond.instanceMethod yX1_joinNames, Cond.selects RX1 yX1_joinNames yX1_joinNames, Cond.code yX1_joinNames cX1_joinNames 4 none, Cond.methodLink RL 107 yX2_groups, Cond.instanceMethod yX2_groups]
def wsL_law0_r15 : List Cond := [Cond.selects RX2 yX2_groups yX2_groups, Cond.code yX2_groups cX2_groups 5 (some .int), Cond.methodLink RX2 113 yX2_findGroups, Cond.instanceMethod yX2_findGroups, Cond.selects RX2 yX2_findGroups yX2_findGroups, Cond.code yX2_findGroups cX2_findGroups 6 none, Cond.methodLink RL 108 yL_group, Cond.static yL_group, Cond.codeWith yL_group cL_group 4 (some .int) [(0, 9, 12, 13)], Cond.methodLink RL 46 yX1_group, Cond.instanceMethod yX1_group, Cond.selects RX1 yX1_group yX1_group, Cond.code yX1_group cX1_group 2 (some .int), Cond.methodLink RL 110 yX2_group, Cond.instanceMethod yX2_group, Cond.selects RX2 yX2_group yX2_group, Cond.code yX2_group cX2_group 2 (some .int), Cond.methodLink RL 111 yL_common, Cond.static yL_common, Cond.codeWith yL_common cL_common 5 (some .int) [(0, 9, 12, 13)], Cond.methodLink RL 49 yX1_common, Cond.instanceMethod yX1_common, Cond.selects RX1 yX1_common yX1_common, Cond.code yX1_common cX1_common 10 (some .long)]
def wsL_law0_r16 : List Cond := [Cond.methodLink RL 113 yX2_common, Cond.instanceMethod yX2_common, Cond.selects RX2 yX2_common yX2_common, Cond.code yX2_common cX2_common 12 (some .long), Cond.methodLink RL 114 yL_inside, Cond.static yL_inside, Cond.codeWith yL_inside cL_inside 10 (some .int) [(0, 20, 23, 13)], Cond.methodLink RL 53 yX1_inside, Cond.instanceMethod yX1_inside, Cond.selects RX1 yX1_inside yX1_inside, Cond.code yX1_inside cX1_inside 11 (some .int), Cond.methodLink RX1 123 yX1_isSeen, Cond.static yX1_isSeen, Cond.code yX1_isSeen cX1_isSeen 2 (some .boolean), Cond.methodLink RX1 126 yX1_cuts, Cond.static yX1_cuts, Cond.code yX1_cuts cX1_cuts 4 (some .boolean), Cond.methodLink RL 116 yX2_inside, Cond.instanceMethod yX2_inside, Cond.selects RX2 yX2_inside yX2_inside, Cond.code yX2_inside cX2_inside 12 (some .int), Cond.methodLink RX2 116 yX2_isEnds, Cond.static yX2_isEnds, Cond.code yX2_isEnds cX2_isEnds 2 (some .boolean)]
def wsL_law0_r17 : List Cond := [Cond.methodLink RL 117 yL_shift, Cond.static yL_shift, Cond.codeWith yL_shift cL_shift 6 (some .int) [(0, 12, 15, 13)], Cond.methodLink RL 56 yX1_shift, Cond.instanceMethod yX1_shift, Cond.selects RX1 yX1_shift yX1_shift, Cond.code yX1_shift cX1_shift 10 (some .int), Cond.methodLink RX1 130 yX1_findBlocks, Cond.instanceMethod yX1_findBlocks, Cond.selects RX1 yX1_findBlocks yX1_findBlocks, Cond.code yX1_findBlocks cX1_findBlocks 7 (some .int), Cond.methodLink RX1 190 yX1_noteBlock, Cond.instanceMethod yX1_noteBlock, Cond.selects RX1 yX1_noteBlock yX1_noteBlock, Cond.code yX1_noteBlock cX1_noteBlock 7 (some .boolean), Cond.methodLink RX1 194 yX1_overlapAcross, Cond.static yX1_overlapAcross, Cond.code yX1_overlapAcross cX1_overlapAcross 4 (some .boolean), Cond.methodLink RX1 198 yX1_thirdAxis, Cond.static yX1_thirdAxis, Cond.code yX1_thirdAxis cX1_thirdAxis 2 (some .int), Cond.methodLink RX1 201 yX1_roundWidth, Cond.static yX1_roundWidth, Cond.code yX1_roundWidth cX1_roundWidth 7 (some .int)]
def wsL_law0_r18 : List Cond := [Cond.methodLink RX1 134 yX1_freeShift, Cond.instanceMethod yX1_freeShift, Cond.selects RX1 yX1_freeShift yX1_freeShift, Cond.code yX1_freeShift cX1_freeShift 6 (some .int), Cond.methodLink RX1 204 yX1_blockAt, Cond.instanceMethod yX1_blockAt, Cond.selects RX1 yX1_blockAt yX1_blockAt, Cond.code yX1_blockAt cX1_blockAt 4 (some .int), Cond.methodLink RL 119 yX2_shift, Cond.instanceMethod yX2_shift, Cond.selects RX2 yX2_shift yX2_shift, Cond.code yX2_shift cX2_shift 5 (some .int), Cond.methodLink RX2 119 yX2_isFreeAt, Cond.instanceMethod yX2_isFreeAt, Cond.selects RX2 yX2_isFreeAt yX2_isFreeAt, Cond.code yX2_isFreeAt cX2_isFreeAt 6 (some .boolean), Cond.methodLink RL 120 yL_hull, Cond.static yL_hull, Cond.codeWith yL_hull cL_hull 6 (some .int) [(0, 12, 15, 13)], Cond.methodLink RL 59 yX1_hull, Cond.instanceMethod yX1_hull, Cond.selects RX1 yX1_hull yX1_hull, Cond.code yX1_hull cX1_hull 5 (some .int), Cond.methodLink RL 122 yX2_hull]
def wsL_law0_r19 : List Cond := [Cond.instanceMethod yX2_hull, Cond.selects RX2 yX2_hull yX2_hull, Cond.code yX2_hull cX2_hull 4 (some .int), Cond.methodLink RL 123 yX1_parts, Cond.instanceMethod yX1_parts, Cond.selects RX1 yX1_parts yX1_parts, Cond.code yX1_parts cX1_parts 1 (some .int), Cond.methodLink RL 126 yX2_parts, Cond.instanceMethod yX2_parts, Cond.selects RX2 yX2_parts yX2_parts, Cond.code yX2_parts cX2_parts 1 (some .int)]
def wsL_law0 : List Cond := (wsL_law0_r1 ++ (wsL_law0_r2 ++ (wsL_law0_r3 ++ (wsL_law0_r4 ++ (wsL_law0_r5 ++ (wsL_law0_r6 ++ (wsL_law0_r7 ++ (wsL_law0_r8 ++ (wsL_law0_r9 ++ (wsL_law0_r10 ++ (wsL_law0_r11 ++ (wsL_law0_r12 ++ (wsL_law0_r13 ++ (wsL_law0_r14 ++ (wsL_law0_r15 ++ (wsL_law0_r16 ++ (wsL_law0_r17 ++ (wsL_law0_r18 ++ wsL_law0_r19)))))))))))))))))) ++ wsX10 ++ wsX20 ++ wsX00 ++ ([] : List Cond)
def wsL_law : List Cond := wsL_law0 ++ (vx_atS RX1 142 "java/lang/IllegalArgumentException" ["java/lang/RuntimeException", "java/lang/Exception"]).filter goodWord ++ (vx_atS RX1 149 "java/lang/IllegalStateException" ["java/lang/RuntimeException", "java/lang/Exception"]).filter goodWord
theorem wsL_law_x0 : ∀ w ∈ (vx_atS RX1 142 "java/lang/IllegalArgumentException" ["java/lang/RuntimeException", "java/lang/Exception"]).filter goodWord, w ∈ lw_tbl := by decide +kernel
theorem wsL_law_x1 : ∀ w ∈ (vx_atS RX1 149 "java/lang/IllegalStateException" ["java/lang/RuntimeException", "java/lang/Exception"]).filter goodWord, w ∈ lw_tbl := by decide +kernel
theorem inlX0 : ∀ w ∈ wsX00, w ∈ wsL_law := fun _ h => List.mem_append_left _ (List.mem_append_left _ (List.mem_append_left _ (List.mem_append_right _ h)))
theorem inlX1 : ∀ w ∈ wsX10, w ∈ wsL_law := fun _ h => List.mem_append_left _ (List.mem_append_left _ (List.mem_append_left _ (List.mem_append_left _ (List.mem_append_left _ (List.mem_append_right _ h)))))
theorem inlX2 : ∀ w ∈ wsX20, w ∈ wsL_law := fun _ h => List.mem_append_left _ (List.mem_append_left _ (List.mem_append_left _ (List.mem_append_left _ (List.mem_append_right _ h))))
theorem inJ9 : ∀ w ∈ wsJ90, w ∈ lw_tbl := by decide +kernel
theorem inJ0 : ∀ w ∈ wsJ00, w ∈ lw_tbl := by decide +kernel
theorem dX0_init_0 : decode cX0_init 0 = .ok (.aload_n 0, 1) := by decide +kernel
theorem dX0_init_1 : decode cX0_init 1 = .ok (.invokespecial 3, 3) := by decide +kernel
theorem dX0_init_4 : decode cX0_init 4 = .ok (.aload_n 0, 1) := by decide +kernel
theorem dX0_init_5 : decode cX0_init 5 = .ok (.iconst 3, 1) := by decide +kernel
theorem dX0_init_6 : decode cX0_init 6 = .ok (.newarray .int, 2) := by decide +kernel
theorem dX0_init_8 : decode cX0_init 8 = .ok (.putfield 9, 3) := by decide +kernel
theorem dX0_init_11 : decode cX0_init 11 = .ok (.aload_n 0, 1) := by decide +kernel
theorem dX0_init_12 : decode cX0_init 12 = .ok (.iconst 3, 1) := by decide +kernel
theorem dX0_init_13 : decode cX0_init 13 = .ok (.newarray .int, 2) := by decide +kernel
theorem dX0_init_15 : decode cX0_init 15 = .ok (.putfield 15, 3) := by decide +kernel
theorem dX0_init_18 : decode cX0_init 18 = .ok (.aload_n 0, 1) := by decide +kernel
theorem dX0_init_19 : decode cX0_init 19 = .ok (.iconst 0, 1) := by decide +kernel
theorem dX0_init_20 : decode cX0_init 20 = .ok (.putfield 18, 3) := by decide +kernel
theorem dX0_init_23 : decode cX0_init 23 = .ok (.aload_n 0, 1) := by decide +kernel
theorem dX0_init_24 : decode cX0_init 24 = .ok (.iload_n 1, 1) := by decide +kernel
theorem dX0_init_25 : decode cX0_init 25 = .ok (.putfield 22, 3) := by decide +kernel
theorem dX0_init_28 : decode cX0_init 28 = .ok (.aload_n 0, 1) := by decide +kernel
theorem dX0_init_29 : decode cX0_init 29 = .ok (.iload_n 2, 1) := by decide +kernel
theorem dX0_init_30 : decode cX0_init 30 = .ok (.putfield 25, 3) := by decide +kernel
theorem dX0_init_33 : decode cX0_init 33 = .ok (.aload_n 0, 1) := by decide +kernel
theorem dX0_init_34 : decode cX0_init 34 = .ok (.iload_n 3, 1) := by decide +kernel
theorem dX0_init_35 : decode cX0_init 35 = .ok (.putfield 28, 3) := by decide +kernel
theorem dX0_init_38 : decode cX0_init 38 = .ok (.return_, 1) := by decide +kernel
theorem dX0_setCore_0 : decode cX0_setCore 0 = .ok (.aload_n 0, 1) := by decide +kernel
theorem dX0_setCore_1 : decode cX0_setCore 1 = .ok (.getfield 9, 3) := by decide +kernel
theorem dX0_setCore_4 : decode cX0_setCore 4 = .ok (.iload_n 1, 1) := by decide +kernel
theorem dX0_setCore_5 : decode cX0_setCore 5 = .ok (.iload_n 2, 1) := by decide +kernel
theorem dX0_setCore_6 : decode cX0_setCore 6 = .ok (.iastore, 1) := by decide +kernel
theorem dX0_setCore_7 : decode cX0_setCore 7 = .ok (.aload_n 0, 1) := by decide +kernel
theorem dX0_setCore_8 : decode cX0_setCore 8 = .ok (.getfield 15, 3) := by decide +kernel
theorem dX0_setCore_11 : decode cX0_setCore 11 = .ok (.iload_n 1, 1) := by decide +kernel
theorem dX0_setCore_12 : decode cX0_setCore 12 = .ok (.iload_n 3, 1) := by decide +kernel
theorem dX0_setCore_13 : decode cX0_setCore 13 = .ok (.iastore, 1) := by decide +kernel
theorem dX0_setCore_14 : decode cX0_setCore 14 = .ok (.return_, 1) := by decide +kernel
theorem dX0_isTube_0 : decode cX0_isTube 0 = .ok (.aload_n 0, 1) := by decide +kernel
theorem dX0_isTube_1 : decode cX0_isTube 1 = .ok (.getfield 25, 3) := by decide +kernel
theorem dX0_isTube_4 : decode cX0_isTube 4 = .ok (.iconst (-1), 1) := by decide +kernel
theorem dX0_isTube_5 : decode cX0_isTube 5 = .ok (.if_icmp .eq 7, 3) := by decide +kernel
theorem dX0_isTube_8 : decode cX0_isTube 8 = .ok (.iconst 1, 1) := by decide +kernel
theorem dX0_isTube_9 : decode cX0_isTube 9 = .ok (.goto 4, 3) := by decide +kernel
theorem dX0_isTube_12 : decode cX0_isTube 12 = .ok (.iconst 0, 1) := by decide +kernel
theorem dX0_isTube_13 : decode cX0_isTube 13 = .ok (.ireturn, 1) := by decide +kernel
theorem dX0_hullLeast_0 : decode cX0_hullLeast 0 = .ok (.iload_n 1, 1) := by decide +kernel
theorem dX0_hullLeast_1 : decode cX0_hullLeast 1 = .ok (.aload_n 0, 1) := by decide +kernel
theorem dX0_hullLeast_2 : decode cX0_hullLeast 2 = .ok (.getfield 25, 3) := by decide +kernel
theorem dX0_hullLeast_5 : decode cX0_hullLeast 5 = .ok (.if_icmp .ne 12, 3) := by decide +kernel
theorem dX0_hullLeast_8 : decode cX0_hullLeast 8 = .ok (.aload_n 0, 1) := by decide +kernel
theorem dX0_hullLeast_9 : decode cX0_hullLeast 9 = .ok (.getfield 9, 3) := by decide +kernel
theorem dX0_hullLeast_12 : decode cX0_hullLeast 12 = .ok (.iload_n 1, 1) := by decide +kernel
theorem dX0_hullLeast_13 : decode cX0_hullLeast 13 = .ok (.iaload, 1) := by decide +kernel
theorem dX0_hullLeast_14 : decode cX0_hullLeast 14 = .ok (.goto 14, 3) := by decide +kernel
theorem dX0_hullLeast_17 : decode cX0_hullLeast 17 = .ok (.aload_n 0, 1) := by decide +kernel
theorem dX0_hullLeast_18 : decode cX0_hullLeast 18 = .ok (.getfield 9, 3) := by decide +kernel
theorem dX0_hullLeast_21 : decode cX0_hullLeast 21 = .ok (.iload_n 1, 1) := by decide +kernel
theorem dX0_hullLeast_22 : decode cX0_hullLeast 22 = .ok (.iaload, 1) := by decide +kernel
theorem dX0_hullLeast_23 : decode cX0_hullLeast 23 = .ok (.aload_n 0, 1) := by decide +kernel
theorem dX0_hullLeast_24 : decode cX0_hullLeast 24 = .ok (.getfield 28, 3) := by decide +kernel
theorem dX0_hullLeast_27 : decode cX0_hullLeast 27 = .ok (.isub, 1) := by decide +kernel
theorem dX0_hullLeast_28 : decode cX0_hullLeast 28 = .ok (.ireturn, 1) := by decide +kernel
theorem dX0_hullGreatest_0 : decode cX0_hullGreatest 0 = .ok (.iload_n 1, 1) := by decide +kernel
theorem dX0_hullGreatest_1 : decode cX0_hullGreatest 1 = .ok (.aload_n 0, 1) := by decide +kernel
theorem dX0_hullGreatest_2 : decode cX0_hullGreatest 2 = .ok (.getfield 25, 3) := by decide +kernel
theorem dX0_hullGreatest_5 : decode cX0_hullGreatest 5 = .ok (.if_icmp .ne 12, 3) := by decide +kernel
theorem dX0_hullGreatest_8 : decode cX0_hullGreatest 8 = .ok (.aload_n 0, 1) := by decide +kernel
theorem dX0_hullGreatest_9 : decode cX0_hullGreatest 9 = .ok (.getfield 15, 3) := by decide +kernel
theorem dX0_hullGreatest_12 : decode cX0_hullGreatest 12 = .ok (.iload_n 1, 1) := by decide +kernel
theorem dX0_hullGreatest_13 : decode cX0_hullGreatest 13 = .ok (.iaload, 1) := by decide +kernel
theorem dX0_hullGreatest_14 : decode cX0_hullGreatest 14 = .ok (.goto 14, 3) := by decide +kernel
theorem dX0_hullGreatest_17 : decode cX0_hullGreatest 17 = .ok (.aload_n 0, 1) := by decide +kernel
theorem dX0_hullGreatest_18 : decode cX0_hullGreatest 18 = .ok (.getfield 15, 3) := by decide +kernel
theorem dX0_hullGreatest_21 : decode cX0_hullGreatest 21 = .ok (.iload_n 1, 1) := by decide +kernel
theorem dX0_hullGreatest_22 : decode cX0_hullGreatest 22 = .ok (.iaload, 1) := by decide +kernel
theorem dX0_hullGreatest_23 : decode cX0_hullGreatest 23 = .ok (.aload_n 0, 1) := by decide +kernel
theorem dX0_hullGreatest_24 : decode cX0_hullGreatest 24 = .ok (.getfield 28, 3) := by decide +kernel
theorem dX0_hullGreatest_27 : decode cX0_hullGreatest 27 = .ok (.iadd, 1) := by decide +kernel
theorem dX0_hullGreatest_28 : decode cX0_hullGreatest 28 = .ok (.ireturn, 1) := by decide +kernel
theorem dX0_staysInSpace_0 : decode cX0_staysInSpace 0 = .ok (.aload_n 0, 1) := by decide +kernel
theorem dX0_staysInSpace_1 : decode cX0_staysInSpace 1 = .ok (.getfield 9, 3) := by decide +kernel
theorem dX0_staysInSpace_4 : decode cX0_staysInSpace 4 = .ok (.iload_n 1, 1) := by decide +kernel
theorem dX0_staysInSpace_5 : decode cX0_staysInSpace 5 = .ok (.iaload, 1) := by decide +kernel
theorem dX0_staysInSpace_6 : decode cX0_staysInSpace 6 = .ok (.iload_n 2, 1) := by decide +kernel
theorem dX0_staysInSpace_7 : decode cX0_staysInSpace 7 = .ok (.iadd, 1) := by decide +kernel
theorem dX0_staysInSpace_8 : decode cX0_staysInSpace 8 = .ok (.ifCond .lt 21, 3) := by decide +kernel
theorem dX0_staysInSpace_11 : decode cX0_staysInSpace 11 = .ok (.aload_n 0, 1) := by decide +kernel
theorem dX0_staysInSpace_12 : decode cX0_staysInSpace 12 = .ok (.getfield 15, 3) := by decide +kernel
theorem dX0_staysInSpace_15 : decode cX0_staysInSpace 15 = .ok (.iload_n 1, 1) := by decide +kernel
theorem dX0_staysInSpace_16 : decode cX0_staysInSpace 16 = .ok (.iaload, 1) := by decide +kernel
theorem dX0_staysInSpace_17 : decode cX0_staysInSpace 17 = .ok (.iload_n 2, 1) := by decide +kernel
theorem dX0_staysInSpace_18 : decode cX0_staysInSpace 18 = .ok (.iadd, 1) := by decide +kernel
theorem dX0_staysInSpace_19 : decode cX0_staysInSpace 19 = .ok (.sipush 1000, 3) := by decide +kernel
theorem dX0_staysInSpace_22 : decode cX0_staysInSpace 22 = .ok (.if_icmp .gt 7, 3) := by decide +kernel
theorem dX0_staysInSpace_25 : decode cX0_staysInSpace 25 = .ok (.iconst 1, 1) := by decide +kernel
theorem dX0_staysInSpace_26 : decode cX0_staysInSpace 26 = .ok (.goto 4, 3) := by decide +kernel
theorem dX0_staysInSpace_29 : decode cX0_staysInSpace 29 = .ok (.iconst 0, 1) := by decide +kernel
theorem dX0_staysInSpace_30 : decode cX0_staysInSpace 30 = .ok (.ireturn, 1) := by decide +kernel
theorem dX1_init_0 : decode cX1_init 0 = .ok (.aload_n 0, 1) := by decide +kernel
theorem dX1_init_1 : decode cX1_init 1 = .ok (.invokespecial 1, 3) := by decide +kernel
theorem dX1_init_4 : decode cX1_init 4 = .ok (.aload_n 0, 1) := by decide +kernel
theorem dX1_init_5 : decode cX1_init 5 = .ok (.bipush 60, 2) := by decide +kernel
theorem dX1_init_7 : decode cX1_init 7 = .ok (.anewarray 9, 3) := by decide +kernel
theorem dX1_init_10 : decode cX1_init 10 = .ok (.putfield 11, 3) := by decide +kernel
theorem dX1_init_13 : decode cX1_init 13 = .ok (.aload_n 0, 1) := by decide +kernel
theorem dX1_init_14 : decode cX1_init 14 = .ok (.bipush 64, 2) := by decide +kernel
theorem dX1_init_16 : decode cX1_init 16 = .ok (.newarray .boolean, 2) := by decide +kernel
theorem dX1_init_18 : decode cX1_init 18 = .ok (.putfield 15, 3) := by decide +kernel
theorem dX1_init_21 : decode cX1_init 21 = .ok (.aload_n 0, 1) := by decide +kernel
theorem dX1_init_22 : decode cX1_init 22 = .ok (.iconst 0, 1) := by decide +kernel
theorem dX1_init_23 : decode cX1_init 23 = .ok (.putfield 19, 3) := by decide +kernel
theorem dX1_init_26 : decode cX1_init 26 = .ok (.aload_n 0, 1) := by decide +kernel
theorem dX1_init_27 : decode cX1_init 27 = .ok (.iconst 0, 1) := by decide +kernel
theorem dX1_init_28 : decode cX1_init 28 = .ok (.putfield 23, 3) := by decide +kernel
theorem dX1_init_31 : decode cX1_init 31 = .ok (.aload_n 0, 1) := by decide +kernel
theorem dX1_init_32 : decode cX1_init 32 = .ok (.bipush 60, 2) := by decide +kernel
theorem dX1_init_34 : decode cX1_init 34 = .ok (.newarray .int, 2) := by decide +kernel
theorem dX1_init_36 : decode cX1_init 36 = .ok (.putfield 26, 3) := by decide +kernel
theorem dX1_init_39 : decode cX1_init 39 = .ok (.aload_n 0, 1) := by decide +kernel
theorem dX1_init_40 : decode cX1_init 40 = .ok (.bipush 60, 2) := by decide +kernel
theorem dX1_init_42 : decode cX1_init 42 = .ok (.newarray .int, 2) := by decide +kernel
theorem dX1_init_44 : decode cX1_init 44 = .ok (.putfield 30, 3) := by decide +kernel
theorem dX1_init_47 : decode cX1_init 47 = .ok (.aload_n 0, 1) := by decide +kernel
theorem dX1_init_48 : decode cX1_init 48 = .ok (.bipush 60, 2) := by decide +kernel
theorem dX1_init_50 : decode cX1_init 50 = .ok (.newarray .int, 2) := by decide +kernel
theorem dX1_init_52 : decode cX1_init 52 = .ok (.putfield 33, 3) := by decide +kernel
theorem dX1_init_55 : decode cX1_init 55 = .ok (.aload_n 0, 1) := by decide +kernel
theorem dX1_init_56 : decode cX1_init 56 = .ok (.bipush 60, 2) := by decide +kernel
theorem dX1_init_58 : decode cX1_init 58 = .ok (.newarray .int, 2) := by decide +kernel
theorem dX1_init_60 : decode cX1_init 60 = .ok (.putfield 36, 3) := by decide +kernel
theorem dX1_init_63 : decode cX1_init 63 = .ok (.return_, 1) := by decide +kernel
set_option maxRecDepth 20000 in
theorem ggX1_box_X1_isKind : GoodIn wsX1_box wsX1_isKind := goodIn_r _ [7, 8, 9, 6, 10] (by decide +kernel) (by decide +kernel)
set_option maxRecDepth 20000 in
theorem gX1_box_X1_isKind : GoodIn wsX1_box (va_wsS RX1 39 yX1_isKind wsX1_isKind) := goodIn_app (goodIn_of _ (by decide +kernel)) ggX1_box_X1_isKind
set_option maxRecDepth 20000 in
theorem ggX1_box_X1_need : GoodIn wsX1_box wsX1_need := goodIn_ca (goodIn_r _ [13, 14, 15] (by decide +kernel) (by decide +kernel)) (goodIn_sub (fun _ h => List.mem_cons_of_mem _ (List.mem_append_left _ (List.mem_append_right _ h))) (by decide +kernel))
set_option maxRecDepth 20000 in
theorem gX1_box_X1_need : GoodIn wsX1_box (va_wsS RX1 43 yX1_need wsX1_need) := goodIn_app (goodIn_of _ (by decide +kernel)) ggX1_box_X1_need
set_option maxRecDepth 20000 in
theorem ggX1_box_X1_isSpan : GoodIn wsX1_box wsX1_isSpan := goodIn_r _ [18, 8, 9, 6, 10] (by decide +kernel) (by decide +kernel)
set_option maxRecDepth 20000 in
theorem gX1_box_X1_isSpan : GoodIn wsX1_box (va_wsS RX1 47 yX1_isSpan wsX1_isSpan) := goodIn_app (goodIn_of _ (by decide +kernel)) ggX1_box_X1_isSpan
set_option maxRecDepth 20000 in
theorem ggX1_box_X1_needRoom : GoodIn wsX1_box wsX1_needRoom := goodIn_ca (goodIn_r _ [22, 23, 24, 25, 55, 56, 57, 58, 59, 60, 61, 62] (by decide +kernel) (by decide +kernel)) (goodIn_sub (fun _ h => List.mem_cons_of_mem _ (List.mem_append_right _ h)) (by decide +kernel))
set_option maxRecDepth 20000 in
theorem gX1_box_X1_needRoom : GoodIn wsX1_box (wsV RX1 51 RX1 yX1_needRoom wsX1_needRoom) := goodIn_app (goodIn_of _ (by decide +kernel)) ggX1_box_X1_needRoom
set_option maxRecDepth 20000 in
theorem ggX1_box_X0_init : GoodIn wsX1_box wsX0_init := goodIn_r _ [28, 29, 30, 31, 32, 33, 34, 35, 36, 37, 38, 49, 50, 51, 52, 53, 54] (by decide +kernel) (by decide +kernel)
set_option maxRecDepth 20000 in
theorem gX1_box_X0_init : GoodIn wsX1_box (wsX0_init) := ggX1_box_X0_init
set_option maxRecDepth 20000 in
theorem ggX1_box_X0_setCore : GoodIn wsX1_box wsX0_setCore := goodIn_r _ [42, 33, 34, 49, 50, 51, 52, 53, 54] (by decide +kernel) (by decide +kernel)
set_option maxRecDepth 20000 in
theorem gX1_box_X0_setCore : GoodIn wsX1_box (wsV RX1 57 RX0 yX0_setCore wsX0_setCore) := goodIn_app (goodIn_of _ (by decide +kernel)) ggX1_box_X0_setCore
set_option maxRecDepth 20000 in
theorem ggX1_box_X1_add : GoodIn wsX1_box wsX1_add := goodIn_r _ [46, 25, 47, 48, 55, 56, 57, 58, 59, 60, 61, 62] (by decide +kernel) (by decide +kernel)
set_option maxRecDepth 20000 in
theorem gX1_box_X1_add : GoodIn wsX1_box (wsV RX1 60 RX1 yX1_add wsX1_add) := goodIn_app (goodIn_of _ (by decide +kernel)) ggX1_box_X1_add
theorem dX1_box_0 : decode cX1_box 0 = .ok (.iload_n 1, 1) := by decide +kernel
theorem dX1_box_1 : decode cX1_box 1 = .ok (.invokestatic 39, 3) := by decide +kernel
theorem dX1_box_4 : decode cX1_box 4 = .ok (.invokestatic 43, 3) := by decide +kernel
theorem dX1_box_7 : decode cX1_box 7 = .ok (.iload_n 2, 1) := by decide +kernel
theorem dX1_box_8 : decode cX1_box 8 = .ok (.iload 5, 2) := by decide +kernel
theorem dX1_box_10 : decode cX1_box 10 = .ok (.invokestatic 47, 3) := by decide +kernel
theorem dX1_box_13 : decode cX1_box 13 = .ok (.ifCond .eq 26, 3) := by decide +kernel
theorem dX1_box_16 : decode cX1_box 16 = .ok (.iload_n 3, 1) := by decide +kernel
theorem dX1_box_17 : decode cX1_box 17 = .ok (.iload 6, 2) := by decide +kernel
theorem dX1_box_19 : decode cX1_box 19 = .ok (.invokestatic 47, 3) := by decide +kernel
theorem dX1_box_22 : decode cX1_box 22 = .ok (.ifCond .eq 17, 3) := by decide +kernel
theorem dX1_box_25 : decode cX1_box 25 = .ok (.iload 4, 2) := by decide +kernel
theorem dX1_box_27 : decode cX1_box 27 = .ok (.iload 7, 2) := by decide +kernel
theorem dX1_box_29 : decode cX1_box 29 = .ok (.invokestatic 47, 3) := by decide +kernel
theorem dX1_box_32 : decode cX1_box 32 = .ok (.ifCond .eq 7, 3) := by decide +kernel
theorem dX1_box_35 : decode cX1_box 35 = .ok (.iconst 1, 1) := by decide +kernel
theorem dX1_box_36 : decode cX1_box 36 = .ok (.goto 4, 3) := by decide +kernel
theorem dX1_box_39 : decode cX1_box 39 = .ok (.iconst 0, 1) := by decide +kernel
theorem dX1_box_40 : decode cX1_box 40 = .ok (.invokestatic 43, 3) := by decide +kernel
theorem dX1_box_43 : decode cX1_box 43 = .ok (.aload_n 0, 1) := by decide +kernel
theorem dX1_box_44 : decode cX1_box 44 = .ok (.invokevirtual 51, 3) := by decide +kernel
theorem dX1_box_47 : decode cX1_box 47 = .ok (.new 9, 3) := by decide +kernel
theorem dX1_box_50 : decode cX1_box 50 = .ok (.dup, 1) := by decide +kernel
theorem dX1_box_51 : decode cX1_box 51 = .ok (.iload_n 1, 1) := by decide +kernel
theorem dX1_box_52 : decode cX1_box 52 = .ok (.iconst (-1), 1) := by decide +kernel
theorem dX1_box_53 : decode cX1_box 53 = .ok (.iconst 0, 1) := by decide +kernel
theorem dX1_box_54 : decode cX1_box 54 = .ok (.invokespecial 54, 3) := by decide +kernel
theorem dX1_box_57 : decode cX1_box 57 = .ok (.astore 8, 2) := by decide +kernel
theorem dX1_box_59 : decode cX1_box 59 = .ok (.aload 8, 2) := by decide +kernel
theorem dX1_box_61 : decode cX1_box 61 = .ok (.iconst 0, 1) := by decide +kernel
theorem dX1_box_62 : decode cX1_box 62 = .ok (.iload_n 2, 1) := by decide +kernel
theorem dX1_box_63 : decode cX1_box 63 = .ok (.iload_n 2, 1) := by decide +kernel
theorem dX1_box_64 : decode cX1_box 64 = .ok (.iload 5, 2) := by decide +kernel
theorem dX1_box_66 : decode cX1_box 66 = .ok (.iadd, 1) := by decide +kernel
theorem dX1_box_67 : decode cX1_box 67 = .ok (.invokevirtual 57, 3) := by decide +kernel
theorem dX1_box_70 : decode cX1_box 70 = .ok (.aload 8, 2) := by decide +kernel
theorem dX1_box_72 : decode cX1_box 72 = .ok (.iconst 1, 1) := by decide +kernel
theorem dX1_box_73 : decode cX1_box 73 = .ok (.iload_n 3, 1) := by decide +kernel
theorem dX1_box_74 : decode cX1_box 74 = .ok (.iload_n 3, 1) := by decide +kernel
theorem dX1_box_75 : decode cX1_box 75 = .ok (.iload 6, 2) := by decide +kernel
theorem dX1_box_77 : decode cX1_box 77 = .ok (.iadd, 1) := by decide +kernel
theorem dX1_box_78 : decode cX1_box 78 = .ok (.invokevirtual 57, 3) := by decide +kernel
theorem dX1_box_81 : decode cX1_box 81 = .ok (.aload 8, 2) := by decide +kernel
theorem dX1_box_83 : decode cX1_box 83 = .ok (.iconst 2, 1) := by decide +kernel
theorem dX1_box_84 : decode cX1_box 84 = .ok (.iload 4, 2) := by decide +kernel
theorem dX1_box_86 : decode cX1_box 86 = .ok (.iload 4, 2) := by decide +kernel
theorem dX1_box_88 : decode cX1_box 88 = .ok (.iload 7, 2) := by decide +kernel
theorem dX1_box_90 : decode cX1_box 90 = .ok (.iadd, 1) := by decide +kernel
theorem dX1_box_91 : decode cX1_box 91 = .ok (.invokevirtual 57, 3) := by decide +kernel
theorem dX1_box_94 : decode cX1_box 94 = .ok (.aload_n 0, 1) := by decide +kernel
theorem dX1_box_95 : decode cX1_box 95 = .ok (.aload 8, 2) := by decide +kernel
theorem dX1_box_97 : decode cX1_box 97 = .ok (.invokevirtual 60, 3) := by decide +kernel
theorem dX1_box_100 : decode cX1_box 100 = .ok (.ireturn, 1) := by decide +kernel
set_option maxRecDepth 20000 in
theorem ggX1_tube_X1_isKind : GoodIn wsX1_tube wsX1_isKind := goodIn_r _ [7, 8, 9, 6, 10] (by decide +kernel) (by decide +kernel)
set_option maxRecDepth 20000 in
theorem gX1_tube_X1_isKind : GoodIn wsX1_tube (va_wsS RX1 39 yX1_isKind wsX1_isKind) := goodIn_app (goodIn_of _ (by decide +kernel)) ggX1_tube_X1_isKind
set_option maxRecDepth 20000 in
theorem ggX1_tube_X1_isAxis : GoodIn wsX1_tube wsX1_isAxis := goodIn_r _ [13, 8, 9, 6, 10] (by decide +kernel) (by decide +kernel)
set_option maxRecDepth 20000 in
theorem gX1_tube_X1_isAxis : GoodIn wsX1_tube (va_wsS RX1 64 yX1_isAxis wsX1_isAxis) := goodIn_app (goodIn_of _ (by decide +kernel)) ggX1_tube_X1_isAxis
set_option maxRecDepth 20000 in
theorem ggX1_tube_X1_need : GoodIn wsX1_tube wsX1_need := goodIn_ca (goodIn_r _ [16, 17, 18] (by decide +kernel) (by decide +kernel)) (goodIn_sub (fun _ h => List.mem_cons_of_mem _ (List.mem_append_left _ (List.mem_append_right _ h))) (by decide +kernel))
set_option maxRecDepth 20000 in
theorem gX1_tube_X1_need : GoodIn wsX1_tube (va_wsS RX1 43 yX1_need wsX1_need) := goodIn_app (goodIn_of _ (by decide +kernel)) ggX1_tube_X1_need
set_option maxRecDepth 20000 in
theorem ggX1_tube_X1_isSpan : GoodIn wsX1_tube wsX1_isSpan := goodIn_r _ [21, 8, 9, 6, 10] (by decide +kernel) (by decide +kernel)
set_option maxRecDepth 20000 in
theorem gX1_tube_X1_isSpan : GoodIn wsX1_tube (va_wsS RX1 47 yX1_isSpan wsX1_isSpan) := goodIn_app (goodIn_of _ (by decide +kernel)) ggX1_tube_X1_isSpan
set_option maxRecDepth 20000 in
theorem ggX1_tube_X1_isWithin : GoodIn wsX1_tube wsX1_isWithin := goodIn_r _ [10] (by decide +kernel) (by decide +kernel)
set_option maxRecDepth 20000 in
theorem gX1_tube_X1_isWithin : GoodIn wsX1_tube (va_wsS RX1 67 yX1_isWithin wsX1_isWithin) := goodIn_app (goodIn_of _ (by decide +kernel)) ggX1_tube_X1_isWithin
set_option maxRecDepth 20000 in
theorem ggX1_tube_X1_needRoom : GoodIn wsX1_tube wsX1_needRoom := goodIn_ca (goodIn_r _ [25, 26, 27, 28, 58, 59, 60, 61, 62, 63, 64, 65] (by decide +kernel) (by decide +kernel)) (goodIn_sub (fun _ h => List.mem_cons_of_mem _ (List.mem_append_right _ h)) (by decide +kernel))
set_option maxRecDepth 20000 in
theorem gX1_tube_X1_needRoom : GoodIn wsX1_tube (wsV RX1 51 RX1 yX1_needRoom wsX1_needRoom) := goodIn_app (goodIn_of _ (by decide +kernel)) ggX1_tube_X1_needRoom
set_option maxRecDepth 20000 in
theorem ggX1_tube_X0_init : GoodIn wsX1_tube wsX0_init := goodIn_r _ [31, 32, 33, 34, 35, 36, 37, 38, 39, 40, 41, 52, 53, 54, 55, 56, 57] (by decide +kernel) (by decide +kernel)
set_option maxRecDepth 20000 in
theorem gX1_tube_X0_init : GoodIn wsX1_tube (wsX0_init) := ggX1_tube_X0_init
set_option maxRecDepth 20000 in
theorem ggX1_tube_X0_setCore : GoodIn wsX1_tube wsX0_setCore := goodIn_r _ [45, 36, 37, 52, 53, 54, 55, 56, 57] (by decide +kernel) (by decide +kernel)
set_option maxRecDepth 20000 in
theorem gX1_tube_X0_setCore : GoodIn wsX1_tube (wsV RX1 57 RX0 yX0_setCore wsX0_setCore) := goodIn_app (goodIn_of _ (by decide +kernel)) ggX1_tube_X0_setCore
set_option maxRecDepth 20000 in
theorem ggX1_tube_X1_add : GoodIn wsX1_tube wsX1_add := goodIn_r _ [49, 28, 50, 51, 58, 59, 60, 61, 62, 63, 64, 65] (by decide +kernel) (by decide +kernel)
set_option maxRecDepth 20000 in
theorem gX1_tube_X1_add : GoodIn wsX1_tube (wsV RX1 60 RX1 yX1_add wsX1_add) := goodIn_app (goodIn_of _ (by decide +kernel)) ggX1_tube_X1_add
theorem dX1_tube_0 : decode cX1_tube 0 = .ok (.iload_n 1, 1) := by decide +kernel
theorem dX1_tube_1 : decode cX1_tube 1 = .ok (.invokestatic 39, 3) := by decide +kernel
theorem dX1_tube_4 : decode cX1_tube 4 = .ok (.ifCond .eq 14, 3) := by decide +kernel
theorem dX1_tube_7 : decode cX1_tube 7 = .ok (.iload_n 2, 1) := by decide +kernel
theorem dX1_tube_8 : decode cX1_tube 8 = .ok (.invokestatic 64, 3) := by decide +kernel
theorem dX1_tube_11 : decode cX1_tube 11 = .ok (.ifCond .eq 7, 3) := by decide +kernel
theorem dX1_tube_14 : decode cX1_tube 14 = .ok (.iconst 1, 1) := by decide +kernel
theorem dX1_tube_15 : decode cX1_tube 15 = .ok (.goto 4, 3) := by decide +kernel
theorem dX1_tube_18 : decode cX1_tube 18 = .ok (.iconst 0, 1) := by decide +kernel
theorem dX1_tube_19 : decode cX1_tube 19 = .ok (.invokestatic 43, 3) := by decide +kernel
theorem dX1_tube_22 : decode cX1_tube 22 = .ok (.iload_n 3, 1) := by decide +kernel
theorem dX1_tube_23 : decode cX1_tube 23 = .ok (.iload 4, 2) := by decide +kernel
theorem dX1_tube_25 : decode cX1_tube 25 = .ok (.invokestatic 47, 3) := by decide +kernel
theorem dX1_tube_28 : decode cX1_tube 28 = .ok (.invokestatic 43, 3) := by decide +kernel
theorem dX1_tube_31 : decode cX1_tube 31 = .ok (.iload 5, 2) := by decide +kernel
theorem dX1_tube_33 : decode cX1_tube 33 = .ok (.iconst 0, 1) := by decide +kernel
theorem dX1_tube_34 : decode cX1_tube 34 = .ok (.sipush 1000, 3) := by decide +kernel
theorem dX1_tube_37 : decode cX1_tube 37 = .ok (.invokestatic 67, 3) := by decide +kernel
theorem dX1_tube_40 : decode cX1_tube 40 = .ok (.ifCond .eq 19, 3) := by decide +kernel
theorem dX1_tube_43 : decode cX1_tube 43 = .ok (.iload 6, 2) := by decide +kernel
theorem dX1_tube_45 : decode cX1_tube 45 = .ok (.iconst 0, 1) := by decide +kernel
theorem dX1_tube_46 : decode cX1_tube 46 = .ok (.sipush 1000, 3) := by decide +kernel
theorem dX1_tube_49 : decode cX1_tube 49 = .ok (.invokestatic 67, 3) := by decide +kernel
theorem dX1_tube_52 : decode cX1_tube 52 = .ok (.ifCond .eq 7, 3) := by decide +kernel
theorem dX1_tube_55 : decode cX1_tube 55 = .ok (.iconst 1, 1) := by decide +kernel
theorem dX1_tube_56 : decode cX1_tube 56 = .ok (.goto 4, 3) := by decide +kernel
theorem dX1_tube_59 : decode cX1_tube 59 = .ok (.iconst 0, 1) := by decide +kernel
theorem dX1_tube_60 : decode cX1_tube 60 = .ok (.invokestatic 43, 3) := by decide +kernel
theorem dX1_tube_63 : decode cX1_tube 63 = .ok (.iload 7, 2) := by decide +kernel
theorem dX1_tube_65 : decode cX1_tube 65 = .ok (.iconst 1, 1) := by decide +kernel
theorem dX1_tube_66 : decode cX1_tube 66 = .ok (.sipush 200, 3) := by decide +kernel
theorem dX1_tube_69 : decode cX1_tube 69 = .ok (.invokestatic 67, 3) := by decide +kernel
theorem dX1_tube_72 : decode cX1_tube 72 = .ok (.invokestatic 43, 3) := by decide +kernel
theorem dX1_tube_75 : decode cX1_tube 75 = .ok (.aload_n 0, 1) := by decide +kernel
theorem dX1_tube_76 : decode cX1_tube 76 = .ok (.invokevirtual 51, 3) := by decide +kernel
theorem dX1_tube_79 : decode cX1_tube 79 = .ok (.new 9, 3) := by decide +kernel
theorem dX1_tube_82 : decode cX1_tube 82 = .ok (.dup, 1) := by decide +kernel
theorem dX1_tube_83 : decode cX1_tube 83 = .ok (.iload_n 1, 1) := by decide +kernel
theorem dX1_tube_84 : decode cX1_tube 84 = .ok (.iload_n 2, 1) := by decide +kernel
theorem dX1_tube_85 : decode cX1_tube 85 = .ok (.iload 7, 2) := by decide +kernel
theorem dX1_tube_87 : decode cX1_tube 87 = .ok (.invokespecial 54, 3) := by decide +kernel
theorem dX1_tube_90 : decode cX1_tube 90 = .ok (.astore 8, 2) := by decide +kernel
theorem dX1_tube_92 : decode cX1_tube 92 = .ok (.iload_n 2, 1) := by decide +kernel
theorem dX1_tube_93 : decode cX1_tube 93 = .ok (.ifCond .ne 7, 3) := by decide +kernel
theorem dX1_tube_96 : decode cX1_tube 96 = .ok (.iconst 1, 1) := by decide +kernel
theorem dX1_tube_97 : decode cX1_tube 97 = .ok (.goto 4, 3) := by decide +kernel
theorem dX1_tube_100 : decode cX1_tube 100 = .ok (.iconst 0, 1) := by decide +kernel
theorem dX1_tube_101 : decode cX1_tube 101 = .ok (.istore 9, 2) := by decide +kernel
theorem dX1_tube_103 : decode cX1_tube 103 = .ok (.iload_n 2, 1) := by decide +kernel
theorem dX1_tube_104 : decode cX1_tube 104 = .ok (.iconst 2, 1) := by decide +kernel
theorem dX1_tube_105 : decode cX1_tube 105 = .ok (.if_icmp .ne 7, 3) := by decide +kernel
theorem dX1_tube_108 : decode cX1_tube 108 = .ok (.iconst 1, 1) := by decide +kernel
theorem dX1_tube_109 : decode cX1_tube 109 = .ok (.goto 4, 3) := by decide +kernel
theorem dX1_tube_112 : decode cX1_tube 112 = .ok (.iconst 2, 1) := by decide +kernel
theorem dX1_tube_113 : decode cX1_tube 113 = .ok (.istore 10, 2) := by decide +kernel
theorem dX1_tube_115 : decode cX1_tube 115 = .ok (.aload 8, 2) := by decide +kernel
theorem dX1_tube_117 : decode cX1_tube 117 = .ok (.iload_n 2, 1) := by decide +kernel
theorem dX1_tube_118 : decode cX1_tube 118 = .ok (.iload_n 3, 1) := by decide +kernel
theorem dX1_tube_119 : decode cX1_tube 119 = .ok (.iload_n 3, 1) := by decide +kernel
theorem dX1_tube_120 : decode cX1_tube 120 = .ok (.iload 4, 2) := by decide +kernel
theorem dX1_tube_122 : decode cX1_tube 122 = .ok (.iadd, 1) := by decide +kernel
theorem dX1_tube_123 : decode cX1_tube 123 = .ok (.invokevirtual 57, 3) := by decide +kernel
theorem dX1_tube_126 : decode cX1_tube 126 = .ok (.aload 8, 2) := by decide +kernel
theorem dX1_tube_128 : decode cX1_tube 128 = .ok (.iload 9, 2) := by decide +kernel
theorem dX1_tube_130 : decode cX1_tube 130 = .ok (.iload 5, 2) := by decide +kernel
theorem dX1_tube_132 : decode cX1_tube 132 = .ok (.iload 5, 2) := by decide +kernel
theorem dX1_tube_134 : decode cX1_tube 134 = .ok (.invokevirtual 57, 3) := by decide +kernel
theorem dX1_tube_137 : decode cX1_tube 137 = .ok (.aload 8, 2) := by decide +kernel
theorem dX1_tube_139 : decode cX1_tube 139 = .ok (.iload 10, 2) := by decide +kernel
theorem dX1_tube_141 : decode cX1_tube 141 = .ok (.iload 6, 2) := by decide +kernel
theorem dX1_tube_143 : decode cX1_tube 143 = .ok (.iload 6, 2) := by decide +kernel
theorem dX1_tube_145 : decode cX1_tube 145 = .ok (.invokevirtual 57, 3) := by decide +kernel
theorem dX1_tube_148 : decode cX1_tube 148 = .ok (.aload_n 0, 1) := by decide +kernel
theorem dX1_tube_149 : decode cX1_tube 149 = .ok (.aload 8, 2) := by decide +kernel
theorem dX1_tube_151 : decode cX1_tube 151 = .ok (.invokevirtual 60, 3) := by decide +kernel
theorem dX1_tube_154 : decode cX1_tube 154 = .ok (.ireturn, 1) := by decide +kernel
set_option maxRecDepth 20000 in
theorem ggX1_margin_X1_partAt : GoodIn wsX1_margin wsX1_partAt := goodIn_ca (goodIn_r _ [6, 7, 8, 9, 10, 11, 5, 12, 22, 23, 24, 25, 26, 27, 28, 29] (by decide +kernel) (by decide +kernel)) (goodIn_sub (fun _ h => List.mem_cons_of_mem _ (List.mem_append_right _ h)) (by decide +kernel))
set_option maxRecDepth 20000 in
theorem gX1_margin_X1_partAt : GoodIn wsX1_margin (wsV RX1 71 RX1 yX1_partAt wsX1_partAt) := goodIn_app (goodIn_of _ (by decide +kernel)) ggX1_margin_X1_partAt
set_option maxRecDepth 20000 in
theorem ggX1_margin_X1_isWithin : GoodIn wsX1_margin wsX1_isWithin := goodIn_r _ [12] (by decide +kernel) (by decide +kernel)
set_option maxRecDepth 20000 in
theorem gX1_margin_X1_isWithin : GoodIn wsX1_margin (va_wsS RX1 67 yX1_isWithin wsX1_isWithin) := goodIn_app (goodIn_of _ (by decide +kernel)) ggX1_margin_X1_isWithin
set_option maxRecDepth 20000 in
theorem ggX1_margin_X1_need : GoodIn wsX1_margin wsX1_need := goodIn_ca (goodIn_r _ [15, 7, 8] (by decide +kernel) (by decide +kernel)) (goodIn_sub (fun _ h => List.mem_cons_of_mem _ (List.mem_append_right _ h)) (by decide +kernel))
set_option maxRecDepth 20000 in
theorem gX1_margin_X1_need : GoodIn wsX1_margin (va_wsS RX1 43 yX1_need wsX1_need) := goodIn_app (goodIn_of _ (by decide +kernel)) ggX1_margin_X1_need
theorem dX1_margin_0 : decode cX1_margin 0 = .ok (.aload_n 0, 1) := by decide +kernel
theorem dX1_margin_1 : decode cX1_margin 1 = .ok (.iload_n 1, 1) := by decide +kernel
theorem dX1_margin_2 : decode cX1_margin 2 = .ok (.invokevirtual 71, 3) := by decide +kernel
theorem dX1_margin_5 : decode cX1_margin 5 = .ok (.astore_n 3, 1) := by decide +kernel
theorem dX1_margin_6 : decode cX1_margin 6 = .ok (.iload_n 2, 1) := by decide +kernel
theorem dX1_margin_7 : decode cX1_margin 7 = .ok (.iconst 0, 1) := by decide +kernel
theorem dX1_margin_8 : decode cX1_margin 8 = .ok (.bipush 50, 2) := by decide +kernel
theorem dX1_margin_10 : decode cX1_margin 10 = .ok (.invokestatic 67, 3) := by decide +kernel
theorem dX1_margin_13 : decode cX1_margin 13 = .ok (.invokestatic 43, 3) := by decide +kernel
theorem dX1_margin_16 : decode cX1_margin 16 = .ok (.aload_n 3, 1) := by decide +kernel
theorem dX1_margin_17 : decode cX1_margin 17 = .ok (.getfield 75, 3) := by decide +kernel
theorem dX1_margin_20 : decode cX1_margin 20 = .ok (.istore 4, 2) := by decide +kernel
theorem dX1_margin_22 : decode cX1_margin 22 = .ok (.aload_n 3, 1) := by decide +kernel
theorem dX1_margin_23 : decode cX1_margin 23 = .ok (.iload_n 2, 1) := by decide +kernel
theorem dX1_margin_24 : decode cX1_margin 24 = .ok (.putfield 75, 3) := by decide +kernel
theorem dX1_margin_27 : decode cX1_margin 27 = .ok (.iload 4, 2) := by decide +kernel
theorem dX1_margin_29 : decode cX1_margin 29 = .ok (.ireturn, 1) := by decide +kernel
set_option maxRecDepth 20000 in
theorem ggX1_free_X1_isKind : GoodIn wsX1_free wsX1_isKind := goodIn_r _ [5, 6, 7, 4, 8] (by decide +kernel) (by decide +kernel)
set_option maxRecDepth 20000 in
theorem gX1_free_X1_isKind : GoodIn wsX1_free (va_wsS RX1 39 yX1_isKind wsX1_isKind) := goodIn_app (goodIn_of _ (by decide +kernel)) ggX1_free_X1_isKind
set_option maxRecDepth 20000 in
theorem ggX1_free_X1_need : GoodIn wsX1_free wsX1_need := goodIn_ca (goodIn_r _ [11, 12, 13] (by decide +kernel) (by decide +kernel)) (goodIn_sub (fun _ h => List.mem_cons_of_mem _ (List.mem_append_right _ h)) (by decide +kernel))
set_option maxRecDepth 20000 in
theorem gX1_free_X1_need : GoodIn wsX1_free (va_wsS RX1 43 yX1_need wsX1_need) := goodIn_app (goodIn_of _ (by decide +kernel)) ggX1_free_X1_need
set_option maxRecDepth 20000 in
theorem ggX1_free_X1_areFree : GoodIn wsX1_free wsX1_areFree := goodIn_r _ [17, 1, 18, 19, 20, 21, 22, 23, 24, 25] (by decide +kernel) (by decide +kernel)
set_option maxRecDepth 20000 in
theorem gX1_free_X1_areFree : GoodIn wsX1_free (wsV RX1 78 RX1 yX1_areFree wsX1_areFree) := goodIn_app (goodIn_of _ (by decide +kernel)) ggX1_free_X1_areFree
theorem dX1_free_0 : decode cX1_free 0 = .ok (.iload_n 1, 1) := by decide +kernel
theorem dX1_free_1 : decode cX1_free 1 = .ok (.invokestatic 39, 3) := by decide +kernel
theorem dX1_free_4 : decode cX1_free 4 = .ok (.ifCond .eq 14, 3) := by decide +kernel
theorem dX1_free_7 : decode cX1_free 7 = .ok (.iload_n 2, 1) := by decide +kernel
theorem dX1_free_8 : decode cX1_free 8 = .ok (.invokestatic 39, 3) := by decide +kernel
theorem dX1_free_11 : decode cX1_free 11 = .ok (.ifCond .eq 7, 3) := by decide +kernel
theorem dX1_free_14 : decode cX1_free 14 = .ok (.iconst 1, 1) := by decide +kernel
theorem dX1_free_15 : decode cX1_free 15 = .ok (.goto 4, 3) := by decide +kernel
theorem dX1_free_18 : decode cX1_free 18 = .ok (.iconst 0, 1) := by decide +kernel
theorem dX1_free_19 : decode cX1_free 19 = .ok (.invokestatic 43, 3) := by decide +kernel
theorem dX1_free_22 : decode cX1_free 22 = .ok (.aload_n 0, 1) := by decide +kernel
theorem dX1_free_23 : decode cX1_free 23 = .ok (.iload_n 1, 1) := by decide +kernel
theorem dX1_free_24 : decode cX1_free 24 = .ok (.iload_n 2, 1) := by decide +kernel
theorem dX1_free_25 : decode cX1_free 25 = .ok (.invokevirtual 78, 3) := by decide +kernel
theorem dX1_free_28 : decode cX1_free 28 = .ok (.istore 4, 2) := by decide +kernel
theorem dX1_free_30 : decode cX1_free 30 = .ok (.aload_n 0, 1) := by decide +kernel
theorem dX1_free_31 : decode cX1_free 31 = .ok (.getfield 15, 3) := by decide +kernel
theorem dX1_free_34 : decode cX1_free 34 = .ok (.iload_n 1, 1) := by decide +kernel
theorem dX1_free_35 : decode cX1_free 35 = .ok (.bipush 8, 2) := by decide +kernel
theorem dX1_free_37 : decode cX1_free 37 = .ok (.imul, 1) := by decide +kernel
theorem dX1_free_38 : decode cX1_free 38 = .ok (.iload_n 2, 1) := by decide +kernel
theorem dX1_free_39 : decode cX1_free 39 = .ok (.iadd, 1) := by decide +kernel
theorem dX1_free_40 : decode cX1_free 40 = .ok (.iload_n 3, 1) := by decide +kernel
theorem dX1_free_41 : decode cX1_free 41 = .ok (.bastore, 1) := by decide +kernel
theorem dX1_free_42 : decode cX1_free 42 = .ok (.aload_n 0, 1) := by decide +kernel
theorem dX1_free_43 : decode cX1_free 43 = .ok (.getfield 15, 3) := by decide +kernel
theorem dX1_free_46 : decode cX1_free 46 = .ok (.iload_n 2, 1) := by decide +kernel
theorem dX1_free_47 : decode cX1_free 47 = .ok (.bipush 8, 2) := by decide +kernel
theorem dX1_free_49 : decode cX1_free 49 = .ok (.imul, 1) := by decide +kernel
theorem dX1_free_50 : decode cX1_free 50 = .ok (.iload_n 1, 1) := by decide +kernel
theorem dX1_free_51 : decode cX1_free 51 = .ok (.iadd, 1) := by decide +kernel
theorem dX1_free_52 : decode cX1_free 52 = .ok (.iload_n 3, 1) := by decide +kernel
theorem dX1_free_53 : decode cX1_free 53 = .ok (.bastore, 1) := by decide +kernel
theorem dX1_free_54 : decode cX1_free 54 = .ok (.iload 4, 2) := by decide +kernel
theorem dX1_free_56 : decode cX1_free 56 = .ok (.ireturn, 1) := by decide +kernel
set_option maxRecDepth 20000 in
theorem ggX1_move_X1_partAt : GoodIn wsX1_move wsX1_partAt := goodIn_ca (goodIn_r _ [7, 8, 9, 10, 11, 12, 6, 13, 37, 38, 39, 40, 41, 42, 43, 44] (by decide +kernel) (by decide +kernel)) (goodIn_sub (fun _ h => List.mem_cons_of_mem _ (List.mem_append_right _ h)) (by decide +kernel))
set_option maxRecDepth 20000 in
theorem gX1_move_X1_partAt : GoodIn wsX1_move (wsV RX1 71 RX1 yX1_partAt wsX1_partAt) := goodIn_app (goodIn_of _ (by decide +kernel)) ggX1_move_X1_partAt
set_option maxRecDepth 20000 in
theorem ggX1_move_X1_isAxis : GoodIn wsX1_move wsX1_isAxis := goodIn_r _ [16, 11, 12, 6, 13] (by decide +kernel) (by decide +kernel)
set_option maxRecDepth 20000 in
theorem gX1_move_X1_isAxis : GoodIn wsX1_move (va_wsS RX1 64 yX1_isAxis wsX1_isAxis) := goodIn_app (goodIn_of _ (by decide +kernel)) ggX1_move_X1_isAxis
set_option maxRecDepth 20000 in
theorem ggX1_move_X1_isWithin : GoodIn wsX1_move wsX1_isWithin := goodIn_r _ [13] (by decide +kernel) (by decide +kernel)
set_option maxRecDepth 20000 in
theorem gX1_move_X1_isWithin : GoodIn wsX1_move (va_wsS RX1 67 yX1_isWithin wsX1_isWithin) := goodIn_app (goodIn_of _ (by decide +kernel)) ggX1_move_X1_isWithin
set_option maxRecDepth 20000 in
theorem ggX1_move_X1_need : GoodIn wsX1_move wsX1_need := goodIn_ca (goodIn_r _ [19, 8, 9] (by decide +kernel) (by decide +kernel)) (goodIn_sub (fun _ h => List.mem_cons_of_mem _ (List.mem_append_right _ h)) (by decide +kernel))
set_option maxRecDepth 20000 in
theorem gX1_move_X1_need : GoodIn wsX1_move (va_wsS RX1 43 yX1_need wsX1_need) := goodIn_app (goodIn_of _ (by decide +kernel)) ggX1_move_X1_need
set_option maxRecDepth 20000 in
theorem ggX1_move_X0_staysInSpace : GoodIn wsX1_move wsX0_staysInSpace := goodIn_r _ [24, 25, 26, 31, 32, 33, 34, 35, 36] (by decide +kernel) (by decide +kernel)
set_option maxRecDepth 20000 in
theorem gX1_move_X0_staysInSpace : GoodIn wsX1_move (wsV RX1 81 RX0 yX0_staysInSpace wsX0_staysInSpace) := goodIn_app (goodIn_of _ (by decide +kernel)) ggX1_move_X0_staysInSpace
set_option maxRecDepth 20000 in
theorem ggX1_move_X0_setCore : GoodIn wsX1_move wsX0_setCore := goodIn_r _ [30, 25, 26, 31, 32, 33, 34, 35, 36] (by decide +kernel) (by decide +kernel)
set_option maxRecDepth 20000 in
theorem gX1_move_X0_setCore : GoodIn wsX1_move (wsV RX1 57 RX0 yX0_setCore wsX0_setCore) := goodIn_app (goodIn_of _ (by decide +kernel)) ggX1_move_X0_setCore
theorem dX1_move_0 : decode cX1_move 0 = .ok (.aload_n 0, 1) := by decide +kernel
theorem dX1_move_1 : decode cX1_move 1 = .ok (.iload_n 1, 1) := by decide +kernel
theorem dX1_move_2 : decode cX1_move 2 = .ok (.invokevirtual 71, 3) := by decide +kernel
theorem dX1_move_5 : decode cX1_move 5 = .ok (.astore 4, 2) := by decide +kernel
theorem dX1_move_7 : decode cX1_move 7 = .ok (.iload_n 2, 1) := by decide +kernel
theorem dX1_move_8 : decode cX1_move 8 = .ok (.invokestatic 64, 3) := by decide +kernel
theorem dX1_move_11 : decode cX1_move 11 = .ok (.ifCond .eq 20, 3) := by decide +kernel
theorem dX1_move_14 : decode cX1_move 14 = .ok (.iload_n 3, 1) := by decide +kernel
theorem dX1_move_15 : decode cX1_move 15 = .ok (.sipush (-1000), 3) := by decide +kernel
theorem dX1_move_18 : decode cX1_move 18 = .ok (.sipush 1000, 3) := by decide +kernel
theorem dX1_move_21 : decode cX1_move 21 = .ok (.invokestatic 67, 3) := by decide +kernel
theorem dX1_move_24 : decode cX1_move 24 = .ok (.ifCond .eq 7, 3) := by decide +kernel
theorem dX1_move_27 : decode cX1_move 27 = .ok (.iconst 1, 1) := by decide +kernel
theorem dX1_move_28 : decode cX1_move 28 = .ok (.goto 4, 3) := by decide +kernel
theorem dX1_move_31 : decode cX1_move 31 = .ok (.iconst 0, 1) := by decide +kernel
theorem dX1_move_32 : decode cX1_move 32 = .ok (.invokestatic 43, 3) := by decide +kernel
theorem dX1_move_35 : decode cX1_move 35 = .ok (.aload 4, 2) := by decide +kernel
theorem dX1_move_37 : decode cX1_move 37 = .ok (.iload_n 2, 1) := by decide +kernel
theorem dX1_move_38 : decode cX1_move 38 = .ok (.iload_n 3, 1) := by decide +kernel
theorem dX1_move_39 : decode cX1_move 39 = .ok (.invokevirtual 81, 3) := by decide +kernel
theorem dX1_move_42 : decode cX1_move 42 = .ok (.ifCond .ne 5, 3) := by decide +kernel
theorem dX1_move_45 : decode cX1_move 45 = .ok (.iconst 0, 1) := by decide +kernel
theorem dX1_move_46 : decode cX1_move 46 = .ok (.ireturn, 1) := by decide +kernel
theorem dX1_move_47 : decode cX1_move 47 = .ok (.aload 4, 2) := by decide +kernel
theorem dX1_move_49 : decode cX1_move 49 = .ok (.iload_n 2, 1) := by decide +kernel
theorem dX1_move_50 : decode cX1_move 50 = .ok (.aload 4, 2) := by decide +kernel
theorem dX1_move_52 : decode cX1_move 52 = .ok (.getfield 84, 3) := by decide +kernel
theorem dX1_move_55 : decode cX1_move 55 = .ok (.iload_n 2, 1) := by decide +kernel
theorem dX1_move_56 : decode cX1_move 56 = .ok (.iaload, 1) := by decide +kernel
theorem dX1_move_57 : decode cX1_move 57 = .ok (.iload_n 3, 1) := by decide +kernel
theorem dX1_move_58 : decode cX1_move 58 = .ok (.iadd, 1) := by decide +kernel
theorem dX1_move_59 : decode cX1_move 59 = .ok (.aload 4, 2) := by decide +kernel
theorem dX1_move_61 : decode cX1_move 61 = .ok (.getfield 87, 3) := by decide +kernel
theorem dX1_move_64 : decode cX1_move 64 = .ok (.iload_n 2, 1) := by decide +kernel
theorem dX1_move_65 : decode cX1_move 65 = .ok (.iaload, 1) := by decide +kernel
theorem dX1_move_66 : decode cX1_move 66 = .ok (.iload_n 3, 1) := by decide +kernel
theorem dX1_move_67 : decode cX1_move 67 = .ok (.iadd, 1) := by decide +kernel
theorem dX1_move_68 : decode cX1_move 68 = .ok (.invokevirtual 57, 3) := by decide +kernel
theorem dX1_move_71 : decode cX1_move 71 = .ok (.iconst 1, 1) := by decide +kernel
theorem dX1_move_72 : decode cX1_move 72 = .ok (.ireturn, 1) := by decide +kernel
set_option maxRecDepth 20000 in
theorem ggX1_drop_X1_isThere : GoodIn wsX1_drop wsX1_isThere := goodIn_r _ [7, 1, 8, 9, 6, 10, 16, 17, 18, 19, 20, 21, 22, 23] (by decide +kernel) (by decide +kernel)
set_option maxRecDepth 20000 in
theorem gX1_drop_X1_isThere : GoodIn wsX1_drop (wsV RX1 90 RX1 yX1_isThere wsX1_isThere) := goodIn_app (goodIn_of _ (by decide +kernel)) ggX1_drop_X1_isThere
set_option maxRecDepth 20000 in
theorem ggX1_drop_X1_need : GoodIn wsX1_drop wsX1_need := goodIn_ca (goodIn_r _ [13, 14, 15] (by decide +kernel) (by decide +kernel)) (goodIn_sub (fun _ h => List.mem_cons_of_mem _ (List.mem_append_right _ h)) (by decide +kernel))
set_option maxRecDepth 20000 in
theorem gX1_drop_X1_need : GoodIn wsX1_drop (va_wsS RX1 43 yX1_need wsX1_need) := goodIn_app (goodIn_of _ (by decide +kernel)) ggX1_drop_X1_need
theorem dX1_drop_0 : decode cX1_drop 0 = .ok (.aload_n 0, 1) := by decide +kernel
theorem dX1_drop_1 : decode cX1_drop 1 = .ok (.iload_n 1, 1) := by decide +kernel
theorem dX1_drop_2 : decode cX1_drop 2 = .ok (.invokevirtual 90, 3) := by decide +kernel
theorem dX1_drop_5 : decode cX1_drop 5 = .ok (.invokestatic 43, 3) := by decide +kernel
theorem dX1_drop_8 : decode cX1_drop 8 = .ok (.aload_n 0, 1) := by decide +kernel
theorem dX1_drop_9 : decode cX1_drop 9 = .ok (.getfield 11, 3) := by decide +kernel
theorem dX1_drop_12 : decode cX1_drop 12 = .ok (.iload_n 1, 1) := by decide +kernel
theorem dX1_drop_13 : decode cX1_drop 13 = .ok (.aconst_null, 1) := by decide +kernel
theorem dX1_drop_14 : decode cX1_drop 14 = .ok (.aastore, 1) := by decide +kernel
theorem dX1_drop_15 : decode cX1_drop 15 = .ok (.aload_n 0, 1) := by decide +kernel
theorem dX1_drop_16 : decode cX1_drop 16 = .ok (.dup, 1) := by decide +kernel
theorem dX1_drop_17 : decode cX1_drop 17 = .ok (.getfield 23, 3) := by decide +kernel
theorem dX1_drop_20 : decode cX1_drop 20 = .ok (.iconst 1, 1) := by decide +kernel
theorem dX1_drop_21 : decode cX1_drop 21 = .ok (.isub, 1) := by decide +kernel
theorem dX1_drop_22 : decode cX1_drop 22 = .ok (.putfield 23, 3) := by decide +kernel
theorem dX1_drop_25 : decode cX1_drop 25 = .ok (.aload_n 0, 1) := by decide +kernel
theorem dX1_drop_26 : decode cX1_drop 26 = .ok (.getfield 23, 3) := by decide +kernel
theorem dX1_drop_29 : decode cX1_drop 29 = .ok (.ireturn, 1) := by decide +kernel
set_option maxRecDepth 20000 in
theorem ggX1_pair_X1_partAt : GoodIn wsX1_pair wsX1_partAt := goodIn_ca (goodIn_r _ [5, 6, 7, 8, 9, 10, 4, 11, 66, 67, 68, 69, 70, 71, 72, 73] (by decide +kernel) (by decide +kernel)) (goodIn_sub (fun _ h => List.mem_cons_of_mem _ (List.mem_append_right _ h)) (by decide +kernel))
set_option maxRecDepth 20000 in
theorem gX1_pair_X1_partAt : GoodIn wsX1_pair (wsV RX1 71 RX1 yX1_partAt wsX1_partAt) := goodIn_app (goodIn_of _ (by decide +kernel)) ggX1_pair_X1_partAt
set_option maxRecDepth 20000 in
theorem ggX1_pair_X1_need : GoodIn wsX1_pair wsX1_need := goodIn_ca (goodIn_r _ [14, 6, 7] (by decide +kernel) (by decide +kernel)) (goodIn_sub (fun _ h => List.mem_cons_of_mem _ (List.mem_append_right _ h)) (by decide +kernel))
set_option maxRecDepth 20000 in
theorem gX1_pair_X1_need : GoodIn wsX1_pair (va_wsS RX1 43 yX1_need wsX1_need) := goodIn_app (goodIn_of _ (by decide +kernel)) ggX1_pair_X1_need
set_option maxRecDepth 20000 in
theorem ggX1_pair_X1_stateOf : GoodIn wsX1_pair wsX1_stateOf := goodIn_r _ [18, 19, 20, 21, 22, 23, 4, 24, 25, 26, 27, 28, 29, 30, 31, 32, 33, 34, 35, 36, 37, 38, 39, 40, 41, 42, 43, 44, 45, 46, 47, 48, 49, 50, 51, 52, 53, 54, 55, 56, 57, 58, 59, 60, 61, 62, 63, 64, 65, 74, 75, 76, 77, 78, 79, 66, 67, 68, 69, 70, 71, 72, 73] (by decide +kernel) (by decide +kernel)
set_option maxRecDepth 20000 in
theorem gX1_pair_X1_stateOf : GoodIn wsX1_pair (wsV RX1 93 RX1 yX1_stateOf wsX1_stateOf) := goodIn_app (goodIn_of _ (by decide +kernel)) ggX1_pair_X1_stateOf
theorem dX1_pair_0 : decode cX1_pair 0 = .ok (.aload_n 0, 1) := by decide +kernel
theorem dX1_pair_1 : decode cX1_pair 1 = .ok (.iload_n 1, 1) := by decide +kernel
theorem dX1_pair_2 : decode cX1_pair 2 = .ok (.invokevirtual 71, 3) := by decide +kernel
theorem dX1_pair_5 : decode cX1_pair 5 = .ok (.astore_n 3, 1) := by decide +kernel
theorem dX1_pair_6 : decode cX1_pair 6 = .ok (.aload_n 0, 1) := by decide +kernel
theorem dX1_pair_7 : decode cX1_pair 7 = .ok (.iload_n 2, 1) := by decide +kernel
theorem dX1_pair_8 : decode cX1_pair 8 = .ok (.invokevirtual 71, 3) := by decide +kernel
theorem dX1_pair_11 : decode cX1_pair 11 = .ok (.astore 4, 2) := by decide +kernel
theorem dX1_pair_13 : decode cX1_pair 13 = .ok (.iload_n 1, 1) := by decide +kernel
theorem dX1_pair_14 : decode cX1_pair 14 = .ok (.iload_n 2, 1) := by decide +kernel
theorem dX1_pair_15 : decode cX1_pair 15 = .ok (.if_icmp .eq 7, 3) := by decide +kernel
theorem dX1_pair_18 : decode cX1_pair 18 = .ok (.iconst 1, 1) := by decide +kernel
theorem dX1_pair_19 : decode cX1_pair 19 = .ok (.goto 4, 3) := by decide +kernel
theorem dX1_pair_22 : decode cX1_pair 22 = .ok (.iconst 0, 1) := by decide +kernel
theorem dX1_pair_23 : decode cX1_pair 23 = .ok (.invokestatic 43, 3) := by decide +kernel
theorem dX1_pair_26 : decode cX1_pair 26 = .ok (.aload_n 0, 1) := by decide +kernel
theorem dX1_pair_27 : decode cX1_pair 27 = .ok (.aload_n 3, 1) := by decide +kernel
theorem dX1_pair_28 : decode cX1_pair 28 = .ok (.aload 4, 2) := by decide +kernel
theorem dX1_pair_30 : decode cX1_pair 30 = .ok (.invokevirtual 93, 3) := by decide +kernel
theorem dX1_pair_33 : decode cX1_pair 33 = .ok (.ireturn, 1) := by decide +kernel
set_option maxRecDepth 20000 in
theorem ggX1_clashes_X1_isWithin : GoodIn wsX1_clashes wsX1_isWithin := goodIn_r _ [5] (by decide +kernel) (by decide +kernel)
set_option maxRecDepth 20000 in
theorem gX1_clashes_X1_isWithin : GoodIn wsX1_clashes (va_wsS RX1 67 yX1_isWithin wsX1_isWithin) := goodIn_app (goodIn_of _ (by decide +kernel)) ggX1_clashes_X1_isWithin
set_option maxRecDepth 20000 in
theorem ggX1_clashes_X1_need : GoodIn wsX1_clashes wsX1_need := goodIn_ca (goodIn_r _ [8, 9, 10] (by decide +kernel) (by decide +kernel)) (goodIn_sub (fun _ h => List.mem_cons_of_mem _ (List.mem_append_right _ h)) (by decide +kernel))
set_option maxRecDepth 20000 in
theorem gX1_clashes_X1_need : GoodIn wsX1_clashes (va_wsS RX1 43 yX1_need wsX1_need) := goodIn_app (goodIn_of _ (by decide +kernel)) ggX1_clashes_X1_need
set_option maxRecDepth 20000 in
theorem ggX1_clashes_X1_countPartners : GoodIn wsX1_clashes wsX1_countPartners := goodIn_r _ [14, 1, 15, 16, 17, 4, 18, 19, 20, 21, 22, 23, 24, 25, 26, 27, 28, 29, 30, 31, 32, 33, 34, 35, 36, 37, 38, 39, 40, 41, 42, 43, 44, 45, 46, 47, 48, 49, 50, 51, 52, 53, 54, 55, 56, 57, 58, 59, 60, 61, 62, 63, 64, 65, 66, 67, 68, 69, 70, 71, 72, 73, 74, 75, 76, 77, 78, 79, 80, 81, 82, 83, 84] (by decide +kernel) (by decide +kernel)
set_option maxRecDepth 20000 in
theorem gX1_clashes_X1_countPartners : GoodIn wsX1_clashes (wsV RX1 97 RX1 yX1_countPartners wsX1_countPartners) := goodIn_app (goodIn_of _ (by decide +kernel)) ggX1_clashes_X1_countPartners
theorem dX1_clashes_0 : decode cX1_clashes 0 = .ok (.iload_n 1, 1) := by decide +kernel
theorem dX1_clashes_1 : decode cX1_clashes 1 = .ok (.iconst 1, 1) := by decide +kernel
theorem dX1_clashes_2 : decode cX1_clashes 2 = .ok (.iconst 2, 1) := by decide +kernel
theorem dX1_clashes_3 : decode cX1_clashes 3 = .ok (.invokestatic 67, 3) := by decide +kernel
theorem dX1_clashes_6 : decode cX1_clashes 6 = .ok (.invokestatic 43, 3) := by decide +kernel
theorem dX1_clashes_9 : decode cX1_clashes 9 = .ok (.iconst 0, 1) := by decide +kernel
theorem dX1_clashes_10 : decode cX1_clashes 10 = .ok (.istore_n 2, 1) := by decide +kernel
theorem dX1_clashes_11 : decode cX1_clashes 11 = .ok (.iconst 0, 1) := by decide +kernel
theorem dX1_clashes_12 : decode cX1_clashes 12 = .ok (.istore_n 3, 1) := by decide +kernel
theorem dX1_clashes_13 : decode cX1_clashes 13 = .ok (.iload_n 3, 1) := by decide +kernel
theorem dX1_clashes_14 : decode cX1_clashes 14 = .ok (.aload_n 0, 1) := by decide +kernel
theorem dX1_clashes_15 : decode cX1_clashes 15 = .ok (.getfield 19, 3) := by decide +kernel
theorem dX1_clashes_18 : decode cX1_clashes 18 = .ok (.if_icmp .ge 18, 3) := by decide +kernel
theorem dX1_clashes_21 : decode cX1_clashes 21 = .ok (.iload_n 2, 1) := by decide +kernel
theorem dX1_clashes_22 : decode cX1_clashes 22 = .ok (.aload_n 0, 1) := by decide +kernel
theorem dX1_clashes_23 : decode cX1_clashes 23 = .ok (.iload_n 1, 1) := by decide +kernel
theorem dX1_clashes_24 : decode cX1_clashes 24 = .ok (.iload_n 3, 1) := by decide +kernel
theorem dX1_clashes_25 : decode cX1_clashes 25 = .ok (.invokevirtual 97, 3) := by decide +kernel
theorem dX1_clashes_28 : decode cX1_clashes 28 = .ok (.iadd, 1) := by decide +kernel
theorem dX1_clashes_29 : decode cX1_clashes 29 = .ok (.istore_n 2, 1) := by decide +kernel
theorem dX1_clashes_30 : decode cX1_clashes 30 = .ok (.iinc 3 1, 3) := by decide +kernel
theorem dX1_clashes_33 : decode cX1_clashes 33 = .ok (.goto (-20), 3) := by decide +kernel
theorem dX1_clashes_36 : decode cX1_clashes 36 = .ok (.iload_n 2, 1) := by decide +kernel
theorem dX1_clashes_37 : decode cX1_clashes 37 = .ok (.ireturn, 1) := by decide +kernel
set_option maxRecDepth 20000 in
theorem ggX1_clash_X1_isWithin : GoodIn wsX1_clash wsX1_isWithin := goodIn_r _ [5] (by decide +kernel) (by decide +kernel)
set_option maxRecDepth 20000 in
theorem gX1_clash_X1_isWithin : GoodIn wsX1_clash (va_wsS RX1 67 yX1_isWithin wsX1_isWithin) := goodIn_app (goodIn_of _ (by decide +kernel)) ggX1_clash_X1_isWithin
set_option maxRecDepth 20000 in
theorem ggX1_clash_X1_need : GoodIn wsX1_clash wsX1_need := goodIn_ca (goodIn_r _ [8, 9, 10] (by decide +kernel) (by decide +kernel)) (goodIn_sub (fun _ h => List.mem_cons_of_mem _ (List.mem_append_right _ h)) (by decide +kernel))
set_option maxRecDepth 20000 in
theorem gX1_clash_X1_need : GoodIn wsX1_clash (va_wsS RX1 43 yX1_need wsX1_need) := goodIn_app (goodIn_of _ (by decide +kernel)) ggX1_clash_X1_need
set_option maxRecDepth 20000 in
theorem ggX1_clash_X1_countPartners : GoodIn wsX1_clash wsX1_countPartners := goodIn_r _ [14, 1, 15, 16, 17, 4, 18, 19, 20, 21, 22, 23, 24, 25, 26, 27, 28, 29, 30, 31, 32, 33, 34, 35, 36, 37, 38, 39, 40, 41, 42, 43, 44, 45, 46, 47, 48, 49, 50, 51, 52, 53, 54, 55, 56, 57, 58, 59, 60, 61, 62, 63, 64, 65, 66, 67, 68, 69, 70, 75, 76, 77, 78, 79, 80, 81, 82, 83, 84, 85, 86, 87, 88] (by decide +kernel) (by decide +kernel)
set_option maxRecDepth 20000 in
theorem gX1_clash_X1_countPartners : GoodIn wsX1_clash (wsV RX1 97 RX1 yX1_countPartners wsX1_countPartners) := goodIn_app (goodIn_of _ (by decide +kernel)) ggX1_clash_X1_countPartners
set_option maxRecDepth 20000 in
theorem ggX1_clash_X1_partnerAt : GoodIn wsX1_clash wsX1_partnerAt := goodIn_r _ [74, 1, 15, 16, 17, 4, 18, 19, 20, 21, 22, 23, 24, 25, 26, 27, 28, 29, 30, 31, 32, 33, 34, 35, 36, 37, 38, 39, 40, 41, 42, 43, 44, 45, 46, 47, 48, 49, 50, 51, 52, 53, 54, 55, 56, 57, 58, 59, 60, 61, 62, 63, 64, 65, 66, 67, 68, 69, 70, 75, 76, 77, 78, 79, 80, 81, 82, 83, 84, 85, 86, 87, 88] (by decide +kernel) (by decide +kernel)
set_option maxRecDepth 20000 in
theorem gX1_clash_X1_partnerAt : GoodIn wsX1_clash (wsV RX1 101 RX1 yX1_partnerAt wsX1_partnerAt) := goodIn_app (goodIn_of _ (by decide +kernel)) ggX1_clash_X1_partnerAt
theorem dX1_clash_0 : decode cX1_clash 0 = .ok (.iload_n 1, 1) := by decide +kernel
theorem dX1_clash_1 : decode cX1_clash 1 = .ok (.iconst 1, 1) := by decide +kernel
theorem dX1_clash_2 : decode cX1_clash 2 = .ok (.iconst 2, 1) := by decide +kernel
theorem dX1_clash_3 : decode cX1_clash 3 = .ok (.invokestatic 67, 3) := by decide +kernel
theorem dX1_clash_6 : decode cX1_clash 6 = .ok (.ifCond .eq 20, 3) := by decide +kernel
theorem dX1_clash_9 : decode cX1_clash 9 = .ok (.iload_n 2, 1) := by decide +kernel
theorem dX1_clash_10 : decode cX1_clash 10 = .ok (.ifCond .lt 16, 3) := by decide +kernel
theorem dX1_clash_13 : decode cX1_clash 13 = .ok (.iload_n 3, 1) := by decide +kernel
theorem dX1_clash_14 : decode cX1_clash 14 = .ok (.iconst 0, 1) := by decide +kernel
theorem dX1_clash_15 : decode cX1_clash 15 = .ok (.iconst 1, 1) := by decide +kernel
theorem dX1_clash_16 : decode cX1_clash 16 = .ok (.invokestatic 67, 3) := by decide +kernel
theorem dX1_clash_19 : decode cX1_clash 19 = .ok (.ifCond .eq 7, 3) := by decide +kernel
theorem dX1_clash_22 : decode cX1_clash 22 = .ok (.iconst 1, 1) := by decide +kernel
theorem dX1_clash_23 : decode cX1_clash 23 = .ok (.goto 4, 3) := by decide +kernel
theorem dX1_clash_26 : decode cX1_clash 26 = .ok (.iconst 0, 1) := by decide +kernel
theorem dX1_clash_27 : decode cX1_clash 27 = .ok (.invokestatic 43, 3) := by decide +kernel
theorem dX1_clash_30 : decode cX1_clash 30 = .ok (.iload_n 2, 1) := by decide +kernel
theorem dX1_clash_31 : decode cX1_clash 31 = .ok (.istore 4, 2) := by decide +kernel
theorem dX1_clash_33 : decode cX1_clash 33 = .ok (.iconst 0, 1) := by decide +kernel
theorem dX1_clash_34 : decode cX1_clash 34 = .ok (.istore 5, 2) := by decide +kernel
theorem dX1_clash_36 : decode cX1_clash 36 = .ok (.iload 5, 2) := by decide +kernel
theorem dX1_clash_38 : decode cX1_clash 38 = .ok (.aload_n 0, 1) := by decide +kernel
theorem dX1_clash_39 : decode cX1_clash 39 = .ok (.getfield 19, 3) := by decide +kernel
theorem dX1_clash_42 : decode cX1_clash 42 = .ok (.if_icmp .ge 51, 3) := by decide +kernel
theorem dX1_clash_45 : decode cX1_clash 45 = .ok (.aload_n 0, 1) := by decide +kernel
theorem dX1_clash_46 : decode cX1_clash 46 = .ok (.iload_n 1, 1) := by decide +kernel
theorem dX1_clash_47 : decode cX1_clash 47 = .ok (.iload 5, 2) := by decide +kernel
theorem dX1_clash_49 : decode cX1_clash 49 = .ok (.invokevirtual 97, 3) := by decide +kernel
theorem dX1_clash_52 : decode cX1_clash 52 = .ok (.istore 6, 2) := by decide +kernel
theorem dX1_clash_54 : decode cX1_clash 54 = .ok (.iload 4, 2) := by decide +kernel
theorem dX1_clash_56 : decode cX1_clash 56 = .ok (.iload 6, 2) := by decide +kernel
theorem dX1_clash_58 : decode cX1_clash 58 = .ok (.if_icmp .ge 22, 3) := by decide +kernel
theorem dX1_clash_61 : decode cX1_clash 61 = .ok (.iload_n 3, 1) := by decide +kernel
theorem dX1_clash_62 : decode cX1_clash 62 = .ok (.ifCond .ne 8, 3) := by decide +kernel
theorem dX1_clash_65 : decode cX1_clash 65 = .ok (.iload 5, 2) := by decide +kernel
theorem dX1_clash_67 : decode cX1_clash 67 = .ok (.goto 12, 3) := by decide +kernel
theorem dX1_clash_70 : decode cX1_clash 70 = .ok (.aload_n 0, 1) := by decide +kernel
theorem dX1_clash_71 : decode cX1_clash 71 = .ok (.iload_n 1, 1) := by decide +kernel
theorem dX1_clash_72 : decode cX1_clash 72 = .ok (.iload 5, 2) := by decide +kernel
theorem dX1_clash_74 : decode cX1_clash 74 = .ok (.iload 4, 2) := by decide +kernel
theorem dX1_clash_76 : decode cX1_clash 76 = .ok (.invokevirtual 101, 3) := by decide +kernel
theorem dX1_clash_79 : decode cX1_clash 79 = .ok (.ireturn, 1) := by decide +kernel
theorem dX1_clash_80 : decode cX1_clash 80 = .ok (.iload 4, 2) := by decide +kernel
theorem dX1_clash_82 : decode cX1_clash 82 = .ok (.iload 6, 2) := by decide +kernel
theorem dX1_clash_84 : decode cX1_clash 84 = .ok (.isub, 1) := by decide +kernel
theorem dX1_clash_85 : decode cX1_clash 85 = .ok (.istore 4, 2) := by decide +kernel
theorem dX1_clash_87 : decode cX1_clash 87 = .ok (.iinc 5 1, 3) := by decide +kernel
theorem dX1_clash_90 : decode cX1_clash 90 = .ok (.goto (-54), 3) := by decide +kernel
theorem dX1_clash_93 : decode cX1_clash 93 = .ok (.iconst (-1), 1) := by decide +kernel
theorem dX1_clash_94 : decode cX1_clash 94 = .ok (.ireturn, 1) := by decide +kernel
set_option maxRecDepth 20000 in
theorem ggX1_groups_X1_nameGroups : GoodIn wsX1_groups wsX1_nameGroups := goodIn_r _ [8, 1, 3, 9, 10, 11, 12, 13, 14, 15, 16, 17, 18, 7, 19, 20, 21, 22, 23, 24, 25, 26, 27, 28, 29, 30, 31, 32, 33, 34, 35, 36, 37, 38, 39, 40, 41, 42, 43, 44, 45, 46, 47, 48, 49, 50, 51, 52, 53, 54, 55, 56, 57, 58, 59, 60, 61, 62, 63, 64, 65, 66, 67, 68, 69, 70, 71, 72, 73, 74, 75, 76, 77, 78, 79, 80, 81, 82, 83, 84, 85] (by decide +kernel) (by decide +kernel)
set_option maxRecDepth 20000 in
theorem gX1_groups_X1_nameGroups : GoodIn wsX1_groups (wsV RX1 105 RX1 yX1_nameGroups wsX1_nameGroups) := goodIn_app (goodIn_of _ (by decide +kernel)) ggX1_groups_X1_nameGroups
theorem dX1_groups_0 : decode cX1_groups 0 = .ok (.aload_n 0, 1) := by decide +kernel
theorem dX1_groups_1 : decode cX1_groups 1 = .ok (.invokevirtual 105, 3) := by decide +kernel
theorem dX1_groups_4 : decode cX1_groups 4 = .ok (.iconst 0, 1) := by decide +kernel
theorem dX1_groups_5 : decode cX1_groups 5 = .ok (.istore_n 1, 1) := by decide +kernel
theorem dX1_groups_6 : decode cX1_groups 6 = .ok (.iload_n 1, 1) := by decide +kernel
theorem dX1_groups_7 : decode cX1_groups 7 = .ok (.aload_n 0, 1) := by decide +kernel
theorem dX1_groups_8 : decode cX1_groups 8 = .ok (.getfield 19, 3) := by decide +kernel
theorem dX1_groups_11 : decode cX1_groups 11 = .ok (.if_icmp .ge 16, 3) := by decide +kernel
theorem dX1_groups_14 : decode cX1_groups 14 = .ok (.aload_n 0, 1) := by decide +kernel
theorem dX1_groups_15 : decode cX1_groups 15 = .ok (.getfield 30, 3) := by decide +kernel
theorem dX1_groups_18 : decode cX1_groups 18 = .ok (.iload_n 1, 1) := by decide +kernel
theorem dX1_groups_19 : decode cX1_groups 19 = .ok (.iconst 0, 1) := by decide +kernel
theorem dX1_groups_20 : decode cX1_groups 20 = .ok (.iastore, 1) := by decide +kernel
theorem dX1_groups_21 : decode cX1_groups 21 = .ok (.iinc 1 1, 3) := by decide +kernel
theorem dX1_groups_24 : decode cX1_groups 24 = .ok (.goto (-18), 3) := by decide +kernel
theorem dX1_groups_27 : decode cX1_groups 27 = .ok (.iconst 0, 1) := by decide +kernel
theorem dX1_groups_28 : decode cX1_groups 28 = .ok (.istore_n 1, 1) := by decide +kernel
theorem dX1_groups_29 : decode cX1_groups 29 = .ok (.iconst 0, 1) := by decide +kernel
theorem dX1_groups_30 : decode cX1_groups 30 = .ok (.istore_n 2, 1) := by decide +kernel
theorem dX1_groups_31 : decode cX1_groups 31 = .ok (.iload_n 2, 1) := by decide +kernel
theorem dX1_groups_32 : decode cX1_groups 32 = .ok (.aload_n 0, 1) := by decide +kernel
theorem dX1_groups_33 : decode cX1_groups 33 = .ok (.getfield 19, 3) := by decide +kernel
theorem dX1_groups_36 : decode cX1_groups 36 = .ok (.if_icmp .ge 39, 3) := by decide +kernel
theorem dX1_groups_39 : decode cX1_groups 39 = .ok (.aload_n 0, 1) := by decide +kernel
theorem dX1_groups_40 : decode cX1_groups 40 = .ok (.getfield 26, 3) := by decide +kernel
theorem dX1_groups_43 : decode cX1_groups 43 = .ok (.iload_n 2, 1) := by decide +kernel
theorem dX1_groups_44 : decode cX1_groups 44 = .ok (.iaload, 1) := by decide +kernel
theorem dX1_groups_45 : decode cX1_groups 45 = .ok (.istore_n 3, 1) := by decide +kernel
theorem dX1_groups_46 : decode cX1_groups 46 = .ok (.aload_n 0, 1) := by decide +kernel
theorem dX1_groups_47 : decode cX1_groups 47 = .ok (.getfield 30, 3) := by decide +kernel
theorem dX1_groups_50 : decode cX1_groups 50 = .ok (.iload_n 3, 1) := by decide +kernel
theorem dX1_groups_51 : decode cX1_groups 51 = .ok (.dup2, 1) := by decide +kernel
theorem dX1_groups_52 : decode cX1_groups 52 = .ok (.iaload, 1) := by decide +kernel
theorem dX1_groups_53 : decode cX1_groups 53 = .ok (.iconst 1, 1) := by decide +kernel
theorem dX1_groups_54 : decode cX1_groups 54 = .ok (.iadd, 1) := by decide +kernel
theorem dX1_groups_55 : decode cX1_groups 55 = .ok (.iastore, 1) := by decide +kernel
theorem dX1_groups_56 : decode cX1_groups 56 = .ok (.aload_n 0, 1) := by decide +kernel
theorem dX1_groups_57 : decode cX1_groups 57 = .ok (.getfield 30, 3) := by decide +kernel
theorem dX1_groups_60 : decode cX1_groups 60 = .ok (.iload_n 3, 1) := by decide +kernel
theorem dX1_groups_61 : decode cX1_groups 61 = .ok (.iaload, 1) := by decide +kernel
theorem dX1_groups_62 : decode cX1_groups 62 = .ok (.iconst 2, 1) := by decide +kernel
theorem dX1_groups_63 : decode cX1_groups 63 = .ok (.if_icmp .ne 6, 3) := by decide +kernel
theorem dX1_groups_66 : decode cX1_groups 66 = .ok (.iinc 1 1, 3) := by decide +kernel
theorem dX1_groups_69 : decode cX1_groups 69 = .ok (.iinc 2 1, 3) := by decide +kernel
theorem dX1_groups_72 : decode cX1_groups 72 = .ok (.goto (-41), 3) := by decide +kernel
theorem dX1_groups_75 : decode cX1_groups 75 = .ok (.iload_n 1, 1) := by decide +kernel
theorem dX1_groups_76 : decode cX1_groups 76 = .ok (.ireturn, 1) := by decide +kernel
set_option maxRecDepth 20000 in
theorem ggX1_group_X1_isThere : GoodIn wsX1_group wsX1_isThere := goodIn_r _ [6, 7, 8, 9, 5, 10, 83, 84, 85, 86, 87, 88, 89, 90] (by decide +kernel) (by decide +kernel)
set_option maxRecDepth 20000 in
theorem gX1_group_X1_isThere : GoodIn wsX1_group (wsV RX1 90 RX1 yX1_isThere wsX1_isThere) := goodIn_app (goodIn_of _ (by decide +kernel)) ggX1_group_X1_isThere
set_option maxRecDepth 20000 in
theorem ggX1_group_X1_need : GoodIn wsX1_group wsX1_need := goodIn_ca (goodIn_r _ [13, 14, 15] (by decide +kernel) (by decide +kernel)) (goodIn_sub (fun _ h => List.mem_cons_of_mem _ (List.mem_append_right _ h)) (by decide +kernel))
set_option maxRecDepth 20000 in
theorem gX1_group_X1_need : GoodIn wsX1_group (va_wsS RX1 43 yX1_need wsX1_need) := goodIn_app (goodIn_of _ (by decide +kernel)) ggX1_group_X1_need
set_option maxRecDepth 20000 in
theorem ggX1_group_X1_nameGroups : GoodIn wsX1_group wsX1_nameGroups := goodIn_r _ [19, 20, 1, 21, 22, 23, 24, 25, 26, 27, 28, 29, 30, 5, 31, 7, 32, 33, 34, 35, 36, 37, 38, 39, 40, 41, 42, 43, 44, 45, 46, 47, 48, 49, 50, 51, 52, 53, 54, 55, 56, 57, 58, 59, 60, 61, 62, 63, 64, 65, 66, 67, 68, 69, 70, 71, 72, 73, 74, 75, 76, 77, 78, 79, 80, 81, 82, 83, 84, 85, 86, 87, 88, 89, 90, 91, 92, 93, 94, 95, 96] (by decide +kernel) (by decide +kernel)
set_option maxRecDepth 20000 in
theorem gX1_group_X1_nameGroups : GoodIn wsX1_group (wsV RX1 105 RX1 yX1_nameGroups wsX1_nameGroups) := goodIn_app (goodIn_of _ (by decide +kernel)) ggX1_group_X1_nameGroups
theorem dX1_group_0 : decode cX1_group 0 = .ok (.aload_n 0, 1) := by decide +kernel
theorem dX1_group_1 : decode cX1_group 1 = .ok (.iload_n 1, 1) := by decide +kernel
theorem dX1_group_2 : decode cX1_group 2 = .ok (.invokevirtual 90, 3) := by decide +kernel
theorem dX1_group_5 : decode cX1_group 5 = .ok (.invokestatic 43, 3) := by decide +kernel
theorem dX1_group_8 : decode cX1_group 8 = .ok (.aload_n 0, 1) := by decide +kernel
theorem dX1_group_9 : decode cX1_group 9 = .ok (.invokevirtual 105, 3) := by decide +kernel
theorem dX1_group_12 : decode cX1_group 12 = .ok (.aload_n 0, 1) := by decide +kernel
theorem dX1_group_13 : decode cX1_group 13 = .ok (.getfield 26, 3) := by decide +kernel
theorem dX1_group_16 : decode cX1_group 16 = .ok (.iload_n 1, 1) := by decide +kernel
theorem dX1_group_17 : decode cX1_group 17 = .ok (.iaload, 1) := by decide +kernel
theorem dX1_group_18 : decode cX1_group 18 = .ok (.ireturn, 1) := by decide +kernel
set_option maxRecDepth 20000 in
theorem ggX1_common_X1_partAt : GoodIn wsX1_common wsX1_partAt := goodIn_ca (goodIn_r _ [12, 13, 14, 15, 16, 17, 11, 18, 35, 36, 37, 38, 39, 40, 41, 42] (by decide +kernel) (by decide +kernel)) (goodIn_sub (fun _ h => List.mem_cons_of_mem _ (List.mem_append_right _ h)) (by decide +kernel))
set_option maxRecDepth 20000 in
theorem gX1_common_X1_partAt : GoodIn wsX1_common (wsV RX1 71 RX1 yX1_partAt wsX1_partAt) := goodIn_app (goodIn_of _ (by decide +kernel)) ggX1_common_X1_partAt
set_option maxRecDepth 20000 in
theorem ggX1_common_X1_need : GoodIn wsX1_common wsX1_need := goodIn_ca (goodIn_r _ [21, 13, 14] (by decide +kernel) (by decide +kernel)) (goodIn_sub (fun _ h => List.mem_cons_of_mem _ (List.mem_append_right _ h)) (by decide +kernel))
set_option maxRecDepth 20000 in
theorem gX1_common_X1_need : GoodIn wsX1_common (va_wsS RX1 43 yX1_need wsX1_need) := goodIn_app (goodIn_of _ (by decide +kernel)) ggX1_common_X1_need
set_option maxRecDepth 20000 in
theorem ggX1_common_X0_hullLeast : GoodIn wsX1_common wsX0_hullLeast := goodIn_r _ [26, 27, 28, 29, 43, 44, 45, 46, 47, 48] (by decide +kernel) (by decide +kernel)
set_option maxRecDepth 20000 in
theorem gX1_common_X0_hullLeast : GoodIn wsX1_common (wsV RX1 108 RX0 yX0_hullLeast wsX0_hullLeast) := goodIn_app (goodIn_of _ (by decide +kernel)) ggX1_common_X0_hullLeast
set_option maxRecDepth 20000 in
theorem ggX1_common_X0_hullGreatest : GoodIn wsX1_common wsX0_hullGreatest := goodIn_r _ [33, 27, 34, 29, 43, 44, 45, 46, 47, 48] (by decide +kernel) (by decide +kernel)
set_option maxRecDepth 20000 in
theorem gX1_common_X0_hullGreatest : GoodIn wsX1_common (wsV RX1 117 RX0 yX0_hullGreatest wsX0_hullGreatest) := goodIn_app (goodIn_of _ (by decide +kernel)) ggX1_common_X0_hullGreatest
theorem dX1_common_0 : decode cX1_common 0 = .ok (.aload_n 0, 1) := by decide +kernel
theorem dX1_common_1 : decode cX1_common 1 = .ok (.iload_n 1, 1) := by decide +kernel
theorem dX1_common_2 : decode cX1_common 2 = .ok (.invokevirtual 71, 3) := by decide +kernel
theorem dX1_common_5 : decode cX1_common 5 = .ok (.astore_n 3, 1) := by decide +kernel
theorem dX1_common_6 : decode cX1_common 6 = .ok (.aload_n 0, 1) := by decide +kernel
theorem dX1_common_7 : decode cX1_common 7 = .ok (.iload_n 2, 1) := by decide +kernel
theorem dX1_common_8 : decode cX1_common 8 = .ok (.invokevirtual 71, 3) := by decide +kernel
theorem dX1_common_11 : decode cX1_common 11 = .ok (.astore 4, 2) := by decide +kernel
theorem dX1_common_13 : decode cX1_common 13 = .ok (.iload_n 1, 1) := by decide +kernel
theorem dX1_common_14 : decode cX1_common 14 = .ok (.iload_n 2, 1) := by decide +kernel
theorem dX1_common_15 : decode cX1_common 15 = .ok (.if_icmp .eq 7, 3) := by decide +kernel
theorem dX1_common_18 : decode cX1_common 18 = .ok (.iconst 1, 1) := by decide +kernel
theorem dX1_common_19 : decode cX1_common 19 = .ok (.goto 4, 3) := by decide +kernel
theorem dX1_common_22 : decode cX1_common 22 = .ok (.iconst 0, 1) := by decide +kernel
theorem dX1_common_23 : decode cX1_common 23 = .ok (.invokestatic 43, 3) := by decide +kernel
theorem dX1_common_26 : decode cX1_common 26 = .ok (.lconst 1, 1) := by decide +kernel
theorem dX1_common_27 : decode cX1_common 27 = .ok (.lstore 5, 2) := by decide +kernel
theorem dX1_common_29 : decode cX1_common 29 = .ok (.iconst 0, 1) := by decide +kernel
theorem dX1_common_30 : decode cX1_common 30 = .ok (.istore 7, 2) := by decide +kernel
theorem dX1_common_32 : decode cX1_common 32 = .ok (.iload 7, 2) := by decide +kernel
theorem dX1_common_34 : decode cX1_common 34 = .ok (.iconst 3, 1) := by decide +kernel
theorem dX1_common_35 : decode cX1_common 35 = .ok (.if_icmp .ge 60, 3) := by decide +kernel
theorem dX1_common_38 : decode cX1_common 38 = .ok (.aload_n 3, 1) := by decide +kernel
theorem dX1_common_39 : decode cX1_common 39 = .ok (.iload 7, 2) := by decide +kernel
