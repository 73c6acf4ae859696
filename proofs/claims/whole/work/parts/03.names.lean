/-! ===== BEGIN printed: names, fields, word lists, decode rows ===== -/
def RX0 : String := "ArrayClaims$ClaimList"
def TX0 : u_T := fun k => match k with
  | 0 => ("ArrayClaims$ClaimList", "literals", "[I", true)
  | 1 => ("ArrayClaims$ClaimList", "sizes", "[I", true)
  | _ => ("ArrayClaims$ClaimList", "count", "I", false)
def tyX0 : Nat → FieldType := fun k => match k with
  | 0 => .array .int
  | 1 => .array .int
  | _ => .int
abbrev wsX00 : List Cond := u_ws RX0 TX0 3
theorem nmX0 : ∀ a, a < 3 → ∀ b, b < 3 → a ≠ b → (TX0 a).2.1 ≠ (TX0 b).2.1 := by decide +kernel
theorem tyX0_ok : ∀ k, k < 3 → parseFieldDescriptor (TX0 k).2.2.1 = some (tyX0 k) := by decide +kernel
abbrev cX0_init : ByteArray := prog_2_method_1_code
def yX0_init : MethodName := ⟨RX0, "<init>", "(I)V"⟩
abbrev cX0_add : ByteArray := prog_2_method_2_code
def yX0_add : MethodName := ⟨RX0, "add", "([III)V"⟩
abbrev cX0_addFrom : ByteArray := prog_2_method_3_code
def yX0_addFrom : MethodName := ⟨RX0, "addFrom", "(LArrayClaims$ClaimList;I)V"⟩
abbrev cX0_addSingle : ByteArray := prog_2_method_4_code
def yX0_addSingle : MethodName := ⟨RX0, "addSingle", "(I)V"⟩
abbrev cX0_cutTo : ByteArray := prog_2_method_5_code
def yX0_cutTo : MethodName := ⟨RX0, "cutTo", "(I)V"⟩
abbrev cX0_sizeOf : ByteArray := prog_2_method_6_code
def yX0_sizeOf : MethodName := ⟨RX0, "sizeOf", "(I)I"⟩
abbrev cX0_at : ByteArray := prog_2_method_7_code
def yX0_at : MethodName := ⟨RX0, "at", "(II)I"⟩
def RX1 : String := "ArrayClaims$Literal"
def TX1 : u_T := fun k => match k with
  | _ => ("", "", "", false)
def tyX1 : Nat → FieldType := fun k => match k with
  | _ => .int
abbrev wsX10 : List Cond := u_ws RX1 TX1 0
theorem nmX1 : ∀ a, a < 0 → ∀ b, b < 0 → a ≠ b → (TX1 a).2.1 ≠ (TX1 b).2.1 := by decide +kernel
theorem tyX1_ok : ∀ k, k < 0 → parseFieldDescriptor (TX1 k).2.2.1 = some (tyX1 k) := by decide +kernel
abbrev cX1_of : ByteArray := prog_3_method_2_code
def yX1_of : MethodName := ⟨RX1, "of", "(IIZ)I"⟩
abbrev cX1_left : ByteArray := prog_3_method_3_code
def yX1_left : MethodName := ⟨RX1, "left", "(I)I"⟩
abbrev cX1_right : ByteArray := prog_3_method_4_code
def yX1_right : MethodName := ⟨RX1, "right", "(I)I"⟩
abbrev cX1_saysSame : ByteArray := prog_3_method_5_code
def yX1_saysSame : MethodName := ⟨RX1, "saysSame", "(I)Z"⟩
abbrev cX1_opposite : ByteArray := prog_3_method_6_code
def yX1_opposite : MethodName := ⟨RX1, "opposite", "(I)I"⟩
def RX2 : String := "ArrayClaims$ReadingSearch"
def TX2 : u_T := fun k => match k with
  | 0 => ("ArrayClaims$ReadingSearch", "parts", "[I", true)
  | _ => ("ArrayClaims$ReadingSearch", "chosen", "[I", true)
def tyX2 : Nat → FieldType := fun k => match k with
  | 0 => .array .int
  | _ => .array .int
abbrev wsX20 : List Cond := u_ws RX2 TX2 2
theorem nmX2 : ∀ a, a < 2 → ∀ b, b < 2 → a ≠ b → (TX2 a).2.1 ≠ (TX2 b).2.1 := by decide +kernel
theorem tyX2_ok : ∀ k, k < 2 → parseFieldDescriptor (TX2 k).2.2.1 = some (tyX2 k) := by decide +kernel
abbrev cX2_init : ByteArray := prog_4_method_1_code
def yX2_init : MethodName := ⟨RX2, "<init>", "()V"⟩
abbrev cX2_finds : ByteArray := prog_4_method_2_code
def yX2_finds : MethodName := ⟨RX2, "finds", "(LArrayClaims$TermTable;LArrayClaims$ClaimList;II)Z"⟩
abbrev cX2_lowest : ByteArray := prog_4_method_3_code
def yX2_lowest : MethodName := ⟨RX2, "lowest", "(II)I"⟩
abbrev cX2_spellOut : ByteArray := prog_4_method_4_code
def yX2_spellOut : MethodName := ⟨RX2, "spellOut", "(LArrayClaims$TermTable;I)V"⟩
abbrev cX2_spellOutNames : ByteArray := prog_4_method_5_code
def yX2_spellOutNames : MethodName := ⟨RX2, "spellOutNames", "(I)V"⟩
abbrev cX2_completes : ByteArray := prog_4_method_6_code
def yX2_completes : MethodName := ⟨RX2, "completes", "(LArrayClaims$TermTable;LArrayClaims$ClaimList;II)Z"⟩
abbrev cX2_holding : ByteArray := prog_4_method_7_code
def yX2_holding : MethodName := ⟨RX2, "holding", "(LArrayClaims$TermTable;LArrayClaims$ClaimList;I)I"⟩
abbrev cX2_rightness : ByteArray := prog_4_method_8_code
def yX2_rightness : MethodName := ⟨RX2, "rightness", "(LArrayClaims$TermTable;I)I"⟩
abbrev cX2_width : ByteArray := prog_4_method_9_code
def yX2_width : MethodName := ⟨RX2, "width", "(I)I"⟩
abbrev cX2_partLikeness : ByteArray := prog_4_method_10_code
def yX2_partLikeness : MethodName := ⟨RX2, "partLikeness", "(III)I"⟩
abbrev cX2_openSpot : ByteArray := prog_4_method_11_code
def yX2_openSpot : MethodName := ⟨RX2, "openSpot", "(LArrayClaims$TermTable;LArrayClaims$ClaimList;I)I"⟩
abbrev cX2_openSpotOf : ByteArray := prog_4_method_12_code
def yX2_openSpotOf : MethodName := ⟨RX2, "openSpotOf", "(LArrayClaims$TermTable;II)I"⟩
def RX3 : String := "ArrayClaims$TermTable"
def TX3 : u_T := fun k => match k with
  | 0 => ("ArrayClaims$TermTable", "sorts", "[I", true)
  | 1 => ("ArrayClaims$TermTable", "arrays", "[I", true)
  | 2 => ("ArrayClaims$TermTable", "indices", "[I", true)
  | 3 => ("ArrayClaims$TermTable", "elements", "[I", true)
  | _ => ("ArrayClaims$TermTable", "count", "I", false)
def tyX3 : Nat → FieldType := fun k => match k with
  | 0 => .array .int
  | 1 => .array .int
  | 2 => .array .int
  | 3 => .array .int
  | _ => .int
abbrev wsX30 : List Cond := u_ws RX3 TX3 5
theorem nmX3 : ∀ a, a < 5 → ∀ b, b < 5 → a ≠ b → (TX3 a).2.1 ≠ (TX3 b).2.1 := by decide +kernel
theorem tyX3_ok : ∀ k, k < 5 → parseFieldDescriptor (TX3 k).2.2.1 = some (tyX3 k) := by decide +kernel
abbrev cX3_init : ByteArray := prog_5_method_1_code
def yX3_init : MethodName := ⟨RX3, "<init>", "()V"⟩
abbrev cX3_has : ByteArray := prog_5_method_2_code
def yX3_has : MethodName := ⟨RX3, "has", "(I)Z"⟩
abbrev cX3_sortOf : ByteArray := prog_5_method_3_code
def yX3_sortOf : MethodName := ⟨RX3, "sortOf", "(I)I"⟩
abbrev cX3_find : ByteArray := prog_5_method_4_code
def yX3_find : MethodName := ⟨RX3, "find", "(IIII)I"⟩
abbrev cX3_add : ByteArray := prog_5_method_5_code
def yX3_add : MethodName := ⟨RX3, "add", "(IIII)I"⟩
def RX4 : String := "ArrayClaims"
def TX4 : u_T := fun k => match k with
  | 0 => ("ArrayClaims", "known", "LArrayClaims$TermTable;", true)
  | 1 => ("ArrayClaims", "made", "LArrayClaims$ClaimList;", true)
  | 2 => ("ArrayClaims", "drafted", "[I", true)
  | 3 => ("ArrayClaims", "draftSize", "I", false)
  | 4 => ("ArrayClaims", "asked", "LArrayClaims$ClaimList;", true)
  | _ => ("ArrayClaims", "search", "LArrayClaims$ReadingSearch;", true)
def tyX4 : Nat → FieldType := fun k => match k with
  | 0 => .object "ArrayClaims$TermTable"
  | 1 => .object "ArrayClaims$ClaimList"
  | 2 => .array .int
  | 3 => .int
  | 4 => .object "ArrayClaims$ClaimList"
  | _ => .object "ArrayClaims$ReadingSearch"
abbrev wsX40 : List Cond := u_ws RX4 TX4 6
theorem nmX4 : ∀ a, a < 6 → ∀ b, b < 6 → a ≠ b → (TX4 a).2.1 ≠ (TX4 b).2.1 := by decide +kernel
theorem tyX4_ok : ∀ k, k < 6 → parseFieldDescriptor (TX4 k).2.2.1 = some (tyX4 k) := by decide +kernel
abbrev cX4_init : ByteArray := prog_1_method_1_code
def yX4_init : MethodName := ⟨RX4, "<init>", "()V"⟩
abbrev cX4_select : ByteArray := prog_1_method_2_code
def yX4_select : MethodName := ⟨RX4, "select", "(II)I"⟩
abbrev cX4_store : ByteArray := prog_1_method_3_code
def yX4_store : MethodName := ⟨RX4, "store", "(III)I"⟩
abbrev cX4_terms : ByteArray := prog_1_method_4_code
def yX4_terms : MethodName := ⟨RX4, "terms", "()I"⟩
abbrev cX4_sort : ByteArray := prog_1_method_5_code
def yX4_sort : MethodName := ⟨RX4, "sort", "(I)I"⟩
abbrev cX4_literal : ByteArray := prog_1_method_6_code
def yX4_literal : MethodName := ⟨RX4, "literal", "(IIZ)I"⟩
abbrev cX4_draft : ByteArray := prog_1_method_7_code
def yX4_draft : MethodName := ⟨RX4, "draft", "()I"⟩
abbrev cX4_clear : ByteArray := prog_1_method_8_code
def yX4_clear : MethodName := ⟨RX4, "clear", "()V"⟩
abbrev cX4_claim : ByteArray := prog_1_method_9_code
def yX4_claim : MethodName := ⟨RX4, "claim", "()I"⟩
abbrev cX4_keep : ByteArray := prog_1_method_10_code
def yX4_keep : MethodName := ⟨RX4, "keep", "(I)Z"⟩
abbrev cX4_claims : ByteArray := prog_1_method_11_code
def yX4_claims : MethodName := ⟨RX4, "claims", "()I"⟩
abbrev cX4_can : ByteArray := prog_1_method_12_code
def yX4_can : MethodName := ⟨RX4, "can", "()Z"⟩
abbrev cX4_first : ByteArray := prog_1_method_13_code
def yX4_first : MethodName := ⟨RX4, "first", "()I"⟩
abbrev cX4_without : ByteArray := prog_1_method_14_code
def yX4_without : MethodName := ⟨RX4, "without", "(I)Z"⟩
abbrev cX4_same : ByteArray := prog_1_method_15_code
def yX4_same : MethodName := ⟨RX4, "same", "(II)I"⟩
abbrev cX4_follows : ByteArray := prog_1_method_16_code
def yX4_follows : MethodName := ⟨RX4, "follows", "()Z"⟩
abbrev cX4_apart : ByteArray := prog_1_method_17_code
def yX4_apart : MethodName := ⟨RX4, "apart", "(Z)I"⟩
abbrev cX4_termFor : ByteArray := prog_1_method_18_code
def yX4_termFor : MethodName := ⟨RX4, "termFor", "(IIII)I"⟩
abbrev cX4_checkPair : ByteArray := prog_1_method_19_code
def yX4_checkPair : MethodName := ⟨RX4, "checkPair", "(II)V"⟩
abbrev cX4_askClaims : ByteArray := prog_1_method_20_code
def yX4_askClaims : MethodName := ⟨RX4, "askClaims", "(II)V"⟩
abbrev cX4_isPossible : ByteArray := prog_1_method_21_code
def yX4_isPossible : MethodName := ⟨RX4, "isPossible", "()Z"⟩
def RX5 : String := "ArrayClaimsModel"
def TX5 : u_T := fun k => match k with
  | 0 => ("ArrayClaimsModel", "thrown", "I", false)
  | 1 => ("ArrayClaimsModel", "terms", "I", false)
  | 2 => ("ArrayClaimsModel", "sort", "[I", true)
  | 3 => ("ArrayClaimsModel", "kind", "[I", true)
  | 4 => ("ArrayClaimsModel", "first", "[I", true)
  | 5 => ("ArrayClaimsModel", "second", "[I", true)
  | 6 => ("ArrayClaimsModel", "third", "[I", true)
  | 7 => ("ArrayClaimsModel", "classOf", "[I", true)
  | 8 => ("ArrayClaimsModel", "classes", "[I", true)
  | 9 => ("ArrayClaimsModel", "code", "[I", true)
  | 10 => ("ArrayClaimsModel", "ways", "[I", true)
  | 11 => ("ArrayClaimsModel", "waysFrom", "[I", true)
  | 12 => ("ArrayClaimsModel", "howMany", "[I", true)
  | 13 => ("ArrayClaimsModel", "holds", "[I", true)
  | 14 => ("ArrayClaimsModel", "from", "[I", true)
  | 15 => ("ArrayClaimsModel", "claims", "I", false)
  | 16 => ("ArrayClaimsModel", "literals", "I", false)
  | 17 => ("ArrayClaimsModel", "left", "[I", true)
  | 18 => ("ArrayClaimsModel", "right", "[I", true)
  | _ => ("ArrayClaimsModel", "alike", "[Z", true)
def tyX5 : Nat → FieldType := fun k => match k with
  | 0 => .int
  | 1 => .int
  | 2 => .array .int
  | 3 => .array .int
  | 4 => .array .int
  | 5 => .array .int
  | 6 => .array .int
  | 7 => .array .int
  | 8 => .array .int
  | 9 => .array .int
  | 10 => .array .int
  | 11 => .array .int
  | 12 => .array .int
  | 13 => .array .int
  | 14 => .array .int
  | 15 => .int
  | 16 => .int
  | 17 => .array .int
  | 18 => .array .int
  | _ => .array .boolean
abbrev wsX50 : List Cond := u_ws RX5 TX5 20
theorem nmX5 : ∀ a, a < 20 → ∀ b, b < 20 → a ≠ b → (TX5 a).2.1 ≠ (TX5 b).2.1 := by decide +kernel
theorem tyX5_ok : ∀ k, k < 20 → parseFieldDescriptor (TX5 k).2.2.1 = some (tyX5 k) := by decide +kernel
abbrev cX5_init : ByteArray := prog_7_method_1_code
def yX5_init : MethodName := ⟨RX5, "<init>", "()V"⟩
abbrev cX5_thrown : ByteArray := prog_7_method_2_code
def yX5_thrown : MethodName := ⟨RX5, "thrown", "()I"⟩
abbrev cX5_fail : ByteArray := prog_7_method_3_code
def yX5_fail : MethodName := ⟨RX5, "fail", "(I)I"⟩
abbrev cX5_findWays : ByteArray := prog_7_method_4_code
def yX5_findWays : MethodName := ⟨RX5, "findWays", "(III)V"⟩
abbrev cX5_label : ByteArray := prog_7_method_5_code
def yX5_label : MethodName := ⟨RX5, "label", "(II)I"⟩
abbrev cX5_greatest : ByteArray := prog_7_method_6_code
def yX5_greatest : MethodName := ⟨RX5, "greatest", "(II)I"⟩
abbrev cX5_nextWay : ByteArray := prog_7_method_7_code
def yX5_nextWay : MethodName := ⟨RX5, "nextWay", "(II)I"⟩
abbrev cX5_isTerm : ByteArray := prog_7_method_8_code
def yX5_isTerm : MethodName := ⟨RX5, "isTerm", "(I)Z"⟩
abbrev cX5_part : ByteArray := prog_7_method_9_code
def yX5_part : MethodName := ⟨RX5, "part", "(II)I"⟩
abbrev cX5_found : ByteArray := prog_7_method_10_code
def yX5_found : MethodName := ⟨RX5, "found", "(IIII)I"⟩
abbrev cX5_make : ByteArray := prog_7_method_11_code
def yX5_make : MethodName := ⟨RX5, "make", "(IIII)I"⟩
abbrev cX5_select : ByteArray := prog_7_method_12_code
def yX5_select : MethodName := ⟨RX5, "select", "(II)I"⟩
abbrev cX5_store : ByteArray := prog_7_method_13_code
def yX5_store : MethodName := ⟨RX5, "store", "(III)I"⟩
abbrev cX5_terms : ByteArray := prog_7_method_14_code
def yX5_terms : MethodName := ⟨RX5, "terms", "()I"⟩
abbrev cX5_sort : ByteArray := prog_7_method_15_code
def yX5_sort : MethodName := ⟨RX5, "sort", "(I)I"⟩
abbrev cX5_areSame : ByteArray := prog_7_method_16_code
def yX5_areSame : MethodName := ⟨RX5, "areSame", "(IIIIZ)Z"⟩
abbrev cX5_sameIn : ByteArray := prog_7_method_17_code
def yX5_sameIn : MethodName := ⟨RX5, "sameIn", "(IIII)Z"⟩
abbrev cX5_draftHolds : ByteArray := prog_7_method_18_code
def yX5_draftHolds : MethodName := ⟨RX5, "draftHolds", "(II)Z"⟩
abbrev cX5_literal : ByteArray := prog_7_method_19_code
def yX5_literal : MethodName := ⟨RX5, "literal", "(IIZ)I"⟩
abbrev cX5_draft : ByteArray := prog_7_method_20_code
def yX5_draft : MethodName := ⟨RX5, "draft", "()I"⟩
abbrev cX5_clear : ByteArray := prog_7_method_21_code
def yX5_clear : MethodName := ⟨RX5, "clear", "()V"⟩
abbrev cX5_claim : ByteArray := prog_7_method_22_code
def yX5_claim : MethodName := ⟨RX5, "claim", "()I"⟩
abbrev cX5_keep : ByteArray := prog_7_method_23_code
def yX5_keep : MethodName := ⟨RX5, "keep", "(I)Z"⟩
abbrev cX5_claims : ByteArray := prog_7_method_24_code
def yX5_claims : MethodName := ⟨RX5, "claims", "()I"⟩
abbrev cX5_canHold : ByteArray := prog_7_method_25_code
def yX5_canHold : MethodName := ⟨RX5, "canHold", "(I)Z"⟩
abbrev cX5_all : ByteArray := prog_7_method_26_code
def yX5_all : MethodName := ⟨RX5, "all", "()I"⟩
abbrev cX5_can : ByteArray := prog_7_method_27_code
def yX5_can : MethodName := ⟨RX5, "can", "()Z"⟩
abbrev cX5_first : ByteArray := prog_7_method_28_code
def yX5_first : MethodName := ⟨RX5, "first", "()I"⟩
abbrev cX5_without : ByteArray := prog_7_method_29_code
def yX5_without : MethodName := ⟨RX5, "without", "(I)Z"⟩
abbrev cX5_same : ByteArray := prog_7_method_30_code
def yX5_same : MethodName := ⟨RX5, "same", "(II)I"⟩
abbrev cX5_follows : ByteArray := prog_7_method_31_code
def yX5_follows : MethodName := ⟨RX5, "follows", "()Z"⟩
abbrev cX5_apart : ByteArray := prog_7_method_32_code
def yX5_apart : MethodName := ⟨RX5, "apart", "(Z)I"⟩
def RJ7 : String := "java/util/Arrays"
def TJ7 : u_T := fun k => match k with
  | _ => ("", "", "", false)
def tyJ7 : Nat → FieldType := fun k => match k with
  | _ => .int
abbrev wsJ70 : List Cond := u_ws RJ7 TJ7 0
theorem nmJ7 : ∀ a, a < 0 → ∀ b, b < 0 → a ≠ b → (TJ7 a).2.1 ≠ (TJ7 b).2.1 := by decide +kernel
theorem tyJ7_ok : ∀ k, k < 0 → parseFieldDescriptor (TJ7 k).2.2.1 = some (tyJ7 k) := by decide +kernel
abbrev cJ7_fill_53178 : ByteArray := prog_15_method_103_code
def yJ7_fill_53178 : MethodName := ⟨RJ7, "fill", "([II)V"⟩
def RL : String := "ArrayClaimsLaw"
abbrev cL_select : ByteArray := method_3_code
def yL_select : MethodName := ⟨RL, "select", "(LArrayClaims;II[J)I"⟩
abbrev cL_store : ByteArray := method_4_code
def yL_store : MethodName := ⟨RL, "store", "(LArrayClaims;III[J)I"⟩
abbrev cL_literal : ByteArray := method_5_code
def yL_literal : MethodName := ⟨RL, "literal", "(LArrayClaims;IIZ[J)I"⟩
abbrev cL_claim : ByteArray := method_6_code
def yL_claim : MethodName := ⟨RL, "claim", "(LArrayClaims;[J)I"⟩
abbrev cL_without : ByteArray := method_7_code
def yL_without : MethodName := ⟨RL, "without", "(LArrayClaims;I[J)I"⟩
abbrev cL_same : ByteArray := method_8_code
def yL_same : MethodName := ⟨RL, "same", "(LArrayClaims;II[J)I"⟩
abbrev cL_follows : ByteArray := method_9_code
def yL_follows : MethodName := ⟨RL, "follows", "(LArrayClaims;[J)I"⟩
abbrev cL_apart : ByteArray := method_10_code
def yL_apart : MethodName := ⟨RL, "apart", "(LArrayClaims;Z[J)I"⟩
abbrev cL_law : ByteArray := code
def yL_law : MethodName := ⟨RL, "law", "([I)Z"⟩
def wsX0_init : List Cond := .code yX0_init cX0_init 2 none :: ([.methodLink RX0 3 objectInit, .instanceMethod objectInit, .code objectInit ⟨#[0xb1]⟩ 1 none, .arrayClass .int, .fieldLink RX0 9 "ArrayClaims$ClaimList" "literals" "[I", .fieldLink RX0 15 "ArrayClaims$ClaimList" "sizes" "[I", .fieldLink RX0 18 "ArrayClaims$ClaimList" "count" "I"] ++ wsX00)
def wsX0_add : List Cond := .code yX0_add cX0_add 5 none :: ([.fieldLink RX0 18 "ArrayClaims$ClaimList" "count" "I", .fieldLink RX0 15 "ArrayClaims$ClaimList" "sizes" "[I", .fieldLink RX0 9 "ArrayClaims$ClaimList" "literals" "[I"] ++ wsX00)
def wsX0_addFrom : List Cond := .code yX0_addFrom cX0_addFrom 3 none :: ([.fieldLink RX0 9 "ArrayClaims$ClaimList" "literals" "[I", .fieldLink RX0 15 "ArrayClaims$ClaimList" "sizes" "[I", .methodLink RX0 22 yX0_add, .instanceMethod yX0_add, .selects RX0 yX0_add yX0_add, .initialized RX0, .code yX0_add cX0_add 5 none, .fieldLink RX0 18 "ArrayClaims$ClaimList" "count" "I"] ++ wsX00)
def wsX0_addSingle : List Cond := .code yX0_addSingle cX0_addSingle 2 none :: ([.fieldLink RX0 18 "ArrayClaims$ClaimList" "count" "I", .fieldLink RX0 15 "ArrayClaims$ClaimList" "sizes" "[I", .fieldLink RX0 9 "ArrayClaims$ClaimList" "literals" "[I"] ++ wsX00)
def wsX0_cutTo : List Cond := .code yX0_cutTo cX0_cutTo 2 none :: ([.fieldLink RX0 18 "ArrayClaims$ClaimList" "count" "I"] ++ wsX00)
def wsX0_sizeOf : List Cond := .code yX0_sizeOf cX0_sizeOf 2 (some .int) :: ([.fieldLink RX0 15 "ArrayClaims$ClaimList" "sizes" "[I"] ++ wsX00)
def wsX0_at : List Cond := .code yX0_at cX0_at 3 (some .int) :: ([.fieldLink RX0 9 "ArrayClaims$ClaimList" "literals" "[I"] ++ wsX00)
def wsX1_of : List Cond := .code yX1_of cX1_of 3 (some .int) :: ([])
def wsX1_left : List Cond := .code yX1_left cX1_left 1 (some .int) :: ([])
def wsX1_right : List Cond := .code yX1_right cX1_right 1 (some .int) :: ([])
def wsX1_saysSame : List Cond := .code yX1_saysSame cX1_saysSame 1 (some .boolean) :: ([])
def wsX1_opposite : List Cond := .code yX1_opposite cX1_opposite 1 (some .int) :: ([])
def wsX2_init : List Cond := .code yX2_init cX2_init 1 none :: ([.methodLink RX2 5 objectInit, .instanceMethod objectInit, .code objectInit ⟨#[0xb1]⟩ 1 none, .arrayClass .int, .fieldLink RX2 11 "ArrayClaims$ReadingSearch" "parts" "[I", .fieldLink RX2 15 "ArrayClaims$ReadingSearch" "chosen" "[I"] ++ wsX20)
def wsX2_lowest : List Cond := .code yX2_lowest cX2_lowest 2 (some .int) :: ([.fieldLink RX2 35 "ArrayClaims$ReadingSearch" "LOWEST" "[I"])
def wsX2_spellOutNames : List Cond := .code yX2_spellOutNames cX2_spellOutNames 6 none :: ([.fieldLink RX2 11 "ArrayClaims$ReadingSearch" "parts" "[I", .methodLink RX2 54 yX2_lowest, .static yX2_lowest, .initialized RX2, .code yX2_lowest cX2_lowest 2 (some .int), .fieldLink RX2 35 "ArrayClaims$ReadingSearch" "LOWEST" "[I"] ++ wsX20)
def wsX2_spellOut : List Cond := .code yX2_spellOut cX2_spellOut 9 none :: ([.fieldLink RX2 11 "ArrayClaims$ReadingSearch" "parts" "[I", .methodLink RX2 38 yX2_spellOutNames, .instanceMethod yX2_spellOutNames, .selects RX2 yX2_spellOutNames yX2_spellOutNames, .initialized RX2, .code yX2_spellOutNames cX2_spellOutNames 6 none, .methodLink RX2 54 yX2_lowest, .static yX2_lowest, .code yX2_lowest cX2_lowest 2 (some .int), .fieldLink RX2 35 "ArrayClaims$ReadingSearch" "LOWEST" "[I"] ++ wsX30 ++ wsX20)
def wsJ7_fill_53178 : List Cond := .code yJ7_fill_53178 cJ7_fill_53178 4 none :: ([])
def wsX2_width : List Cond := .code yX2_width cX2_width 1 (some .int) :: ([])
def wsX2_partLikeness : List Cond := .code yX2_partLikeness cX2_partLikeness 4 (some .int) :: ([.fieldLink RX2 15 "ArrayClaims$ReadingSearch" "chosen" "[I"] ++ wsX20)
def wsX2_rightness : List Cond := .code yX2_rightness cX2_rightness 8 (some .int) :: ([.fieldLink RX2 11 "ArrayClaims$ReadingSearch" "parts" "[I", .methodLink RX2 85 yX1_left, .static yX1_left, .initialized RX1, .code yX1_left cX1_left 1 (some .int), .methodLink RX2 90 yX1_right, .static yX1_right, .code yX1_right cX1_right 1 (some .int), .methodLink RX2 93 yX2_width, .static yX2_width, .initialized RX2, .code yX2_width cX2_width 1 (some .int), .methodLink RX2 96 yX2_partLikeness, .instanceMethod yX2_partLikeness, .selects RX2 yX2_partLikeness yX2_partLikeness, .code yX2_partLikeness cX2_partLikeness 4 (some .int), .fieldLink RX2 15 "ArrayClaims$ReadingSearch" "chosen" "[I", .methodLink RX2 100 yX1_saysSame, .static yX1_saysSame, .code yX1_saysSame cX1_saysSame 1 (some .boolean)] ++ wsX30 ++ wsX20)
def wsX2_holding_r1 : List Cond := [Cond.methodLink RX2 74 yX0_sizeOf, Cond.instanceMethod yX0_sizeOf, Cond.selects RX0 yX0_sizeOf yX0_sizeOf, Cond.initialized RX0, Cond.code yX0_sizeOf cX0_sizeOf 2 (some .int), Cond.fieldLink RX0 15 "ArrayClaims$ClaimList" "sizes" "[I", Cond.methodLink RX2 78 yX0_at, Cond.instanceMethod yX0_at, Cond.selects RX0 yX0_at yX0_at, Cond.code yX0_at cX0_at 3 (some .int), Cond.fieldLink RX0 9 "ArrayClaims$ClaimList" "literals" "[I", Cond.methodLink RX2 81 yX2_rightness, Cond.instanceMethod yX2_rightness, Cond.selects RX2 yX2_rightness yX2_rightness, Cond.initialized RX2, Cond.code yX2_rightness cX2_rightness 8 (some .int), Cond.fieldLink RX2 11 "ArrayClaims$ReadingSearch" "parts" "[I", Cond.methodLink RX2 85 yX1_left, Cond.static yX1_left, Cond.initialized RX1, Cond.code yX1_left cX1_left 1 (some .int), Cond.methodLink RX2 90 yX1_right, Cond.static yX1_right, Cond.code yX1_right cX1_right 1 (some .int)]
def wsX2_holding_r2 : List Cond := [Cond.methodLink RX2 93 yX2_width, Cond.static yX2_width, Cond.code yX2_width cX2_width 1 (some .int), Cond.methodLink RX2 96 yX2_partLikeness, Cond.instanceMethod yX2_partLikeness, Cond.selects RX2 yX2_partLikeness yX2_partLikeness, Cond.code yX2_partLikeness cX2_partLikeness 4 (some .int), Cond.fieldLink RX2 15 "ArrayClaims$ReadingSearch" "chosen" "[I", Cond.methodLink RX2 100 yX1_saysSame, Cond.static yX1_saysSame, Cond.code yX1_saysSame cX1_saysSame 1 (some .boolean)]
def wsX2_holding : List Cond := .code yX2_holding cX2_holding 7 (some .int) :: ((wsX2_holding_r1 ++ wsX2_holding_r2) ++ wsX00 ++ wsX30 ++ wsX20)
def wsX2_openSpotOf : List Cond := .code yX2_openSpotOf cX2_openSpotOf 8 (some .int) :: ([.fieldLink RX2 11 "ArrayClaims$ReadingSearch" "parts" "[I", .fieldLink RX2 15 "ArrayClaims$ReadingSearch" "chosen" "[I", .methodLink RX2 93 yX2_width, .static yX2_width, .initialized RX2, .code yX2_width cX2_width 1 (some .int), .methodLink RX2 96 yX2_partLikeness, .instanceMethod yX2_partLikeness, .selects RX2 yX2_partLikeness yX2_partLikeness, .code yX2_partLikeness cX2_partLikeness 4 (some .int)] ++ wsX30 ++ wsX20)
def wsX2_openSpot_r1 : List Cond := [Cond.methodLink RX2 74 yX0_sizeOf, Cond.instanceMethod yX0_sizeOf, Cond.selects RX0 yX0_sizeOf yX0_sizeOf, Cond.initialized RX0, Cond.code yX0_sizeOf cX0_sizeOf 2 (some .int), Cond.fieldLink RX0 15 "ArrayClaims$ClaimList" "sizes" "[I", Cond.methodLink RX2 78 yX0_at, Cond.instanceMethod yX0_at, Cond.selects RX0 yX0_at yX0_at, Cond.code yX0_at cX0_at 3 (some .int), Cond.fieldLink RX0 9 "ArrayClaims$ClaimList" "literals" "[I", Cond.methodLink RX2 81 yX2_rightness, Cond.instanceMethod yX2_rightness, Cond.selects RX2 yX2_rightness yX2_rightness, Cond.initialized RX2, Cond.code yX2_rightness cX2_rightness 8 (some .int), Cond.fieldLink RX2 11 "ArrayClaims$ReadingSearch" "parts" "[I", Cond.methodLink RX2 85 yX1_left, Cond.static yX1_left, Cond.initialized RX1, Cond.code yX1_left cX1_left 1 (some .int), Cond.methodLink RX2 90 yX1_right, Cond.static yX1_right, Cond.code yX1_right cX1_right 1 (some .int)]
def wsX2_openSpot_r2 : List Cond := [Cond.methodLink RX2 93 yX2_width, Cond.static yX2_width, Cond.code yX2_width cX2_width 1 (some .int), Cond.methodLink RX2 96 yX2_partLikeness, Cond.instanceMethod yX2_partLikeness, Cond.selects RX2 yX2_partLikeness yX2_partLikeness, Cond.code yX2_partLikeness cX2_partLikeness 4 (some .int), Cond.fieldLink RX2 15 "ArrayClaims$ReadingSearch" "chosen" "[I", Cond.methodLink RX2 100 yX1_saysSame, Cond.static yX1_saysSame, Cond.code yX1_saysSame cX1_saysSame 1 (some .boolean), Cond.methodLink RX2 104 yX2_openSpotOf, Cond.instanceMethod yX2_openSpotOf, Cond.selects RX2 yX2_openSpotOf yX2_openSpotOf, Cond.code yX2_openSpotOf cX2_openSpotOf 8 (some .int)]
def wsX2_openSpot : List Cond := .code yX2_openSpot cX2_openSpot 6 (some .int) :: ((wsX2_openSpot_r1 ++ wsX2_openSpot_r2) ++ wsX00 ++ wsX30 ++ wsX20)
def wsX2_completes_r1 : List Cond := [Cond.fieldLink RX2 15 "ArrayClaims$ReadingSearch" "chosen" "[I", Cond.methodLink RX2 67 yX2_holding, Cond.instanceMethod yX2_holding, Cond.selects RX2 yX2_holding yX2_holding, Cond.initialized RX2, Cond.code yX2_holding cX2_holding 7 (some .int), Cond.methodLink RX2 74 yX0_sizeOf, Cond.instanceMethod yX0_sizeOf, Cond.selects RX0 yX0_sizeOf yX0_sizeOf, Cond.initialized RX0, Cond.code yX0_sizeOf cX0_sizeOf 2 (some .int), Cond.fieldLink RX0 15 "ArrayClaims$ClaimList" "sizes" "[I", Cond.methodLink RX2 78 yX0_at, Cond.instanceMethod yX0_at, Cond.selects RX0 yX0_at yX0_at, Cond.code yX0_at cX0_at 3 (some .int), Cond.fieldLink RX0 9 "ArrayClaims$ClaimList" "literals" "[I", Cond.methodLink RX2 81 yX2_rightness, Cond.instanceMethod yX2_rightness, Cond.selects RX2 yX2_rightness yX2_rightness, Cond.code yX2_rightness cX2_rightness 8 (some .int), Cond.fieldLink RX2 11 "ArrayClaims$ReadingSearch" "parts" "[I", Cond.methodLink RX2 85 yX1_left, Cond.static yX1_left]
def wsX2_completes_r2 : List Cond := [Cond.initialized RX1, Cond.code yX1_left cX1_left 1 (some .int), Cond.methodLink RX2 90 yX1_right, Cond.static yX1_right, Cond.code yX1_right cX1_right 1 (some .int), Cond.methodLink RX2 93 yX2_width, Cond.static yX2_width, Cond.code yX2_width cX2_width 1 (some .int), Cond.methodLink RX2 96 yX2_partLikeness, Cond.instanceMethod yX2_partLikeness, Cond.selects RX2 yX2_partLikeness yX2_partLikeness, Cond.code yX2_partLikeness cX2_partLikeness 4 (some .int), Cond.methodLink RX2 100 yX1_saysSame, Cond.static yX1_saysSame, Cond.code yX1_saysSame cX1_saysSame 1 (some .boolean), Cond.methodLink RX2 71 yX2_openSpot, Cond.instanceMethod yX2_openSpot, Cond.selects RX2 yX2_openSpot yX2_openSpot, Cond.code yX2_openSpot cX2_openSpot 6 (some .int), Cond.methodLink RX2 104 yX2_openSpotOf, Cond.instanceMethod yX2_openSpotOf, Cond.selects RX2 yX2_openSpotOf yX2_openSpotOf, Cond.code yX2_openSpotOf cX2_openSpotOf 8 (some .int), Cond.methodLink RX2 31 yX2_completes]
def wsX2_completes_r3 : List Cond := [Cond.instanceMethod yX2_completes, Cond.selects RX2 yX2_completes yX2_completes]
def wsX2_completes : List Cond := .code yX2_completes cX2_completes 10 (some .boolean) :: ((wsX2_completes_r1 ++ (wsX2_completes_r2 ++ wsX2_completes_r3)) ++ wsX00 ++ wsX20 ++ wsX30)
def wsX2_finds_r1 : List Cond := [Cond.fieldLink RX2 18 "ArrayClaims$ReadingSearch" "DIFFERENT" "[I", Cond.fieldLink RX2 15 "ArrayClaims$ReadingSearch" "chosen" "[I", Cond.methodLink RX2 21 yX2_spellOut, Cond.instanceMethod yX2_spellOut, Cond.selects RX2 yX2_spellOut yX2_spellOut, Cond.initialized RX2, Cond.code yX2_spellOut cX2_spellOut 9 none, Cond.fieldLink RX2 11 "ArrayClaims$ReadingSearch" "parts" "[I", Cond.methodLink RX2 38 yX2_spellOutNames, Cond.instanceMethod yX2_spellOutNames, Cond.selects RX2 yX2_spellOutNames yX2_spellOutNames, Cond.code yX2_spellOutNames cX2_spellOutNames 6 none, Cond.methodLink RX2 54 yX2_lowest, Cond.static yX2_lowest, Cond.code yX2_lowest cX2_lowest 2 (some .int), Cond.fieldLink RX2 35 "ArrayClaims$ReadingSearch" "LOWEST" "[I", Cond.methodLink RX2 25 yJ7_fill_53178, Cond.static yJ7_fill_53178, Cond.initialized RJ7, Cond.code yJ7_fill_53178 cJ7_fill_53178 4 none, Cond.methodLink RX2 31 yX2_completes, Cond.instanceMethod yX2_completes, Cond.selects RX2 yX2_completes yX2_completes, Cond.code yX2_completes cX2_completes 10 (some .boolean)]
def wsX2_finds_r2 : List Cond := [Cond.methodLink RX2 67 yX2_holding, Cond.instanceMethod yX2_holding, Cond.selects RX2 yX2_holding yX2_holding, Cond.code yX2_holding cX2_holding 7 (some .int), Cond.methodLink RX2 74 yX0_sizeOf, Cond.instanceMethod yX0_sizeOf, Cond.selects RX0 yX0_sizeOf yX0_sizeOf, Cond.initialized RX0, Cond.code yX0_sizeOf cX0_sizeOf 2 (some .int), Cond.fieldLink RX0 15 "ArrayClaims$ClaimList" "sizes" "[I", Cond.methodLink RX2 78 yX0_at, Cond.instanceMethod yX0_at, Cond.selects RX0 yX0_at yX0_at, Cond.code yX0_at cX0_at 3 (some .int), Cond.fieldLink RX0 9 "ArrayClaims$ClaimList" "literals" "[I", Cond.methodLink RX2 81 yX2_rightness, Cond.instanceMethod yX2_rightness, Cond.selects RX2 yX2_rightness yX2_rightness, Cond.code yX2_rightness cX2_rightness 8 (some .int), Cond.methodLink RX2 85 yX1_left, Cond.static yX1_left, Cond.initialized RX1, Cond.code yX1_left cX1_left 1 (some .int), Cond.methodLink RX2 90 yX1_right]
def wsX2_finds_r3 : List Cond := [Cond.static yX1_right, Cond.code yX1_right cX1_right 1 (some .int), Cond.methodLink RX2 93 yX2_width, Cond.static yX2_width, Cond.code yX2_width cX2_width 1 (some .int), Cond.methodLink RX2 96 yX2_partLikeness, Cond.instanceMethod yX2_partLikeness, Cond.selects RX2 yX2_partLikeness yX2_partLikeness, Cond.code yX2_partLikeness cX2_partLikeness 4 (some .int), Cond.methodLink RX2 100 yX1_saysSame, Cond.static yX1_saysSame, Cond.code yX1_saysSame cX1_saysSame 1 (some .boolean), Cond.methodLink RX2 71 yX2_openSpot, Cond.instanceMethod yX2_openSpot, Cond.selects RX2 yX2_openSpot yX2_openSpot, Cond.code yX2_openSpot cX2_openSpot 6 (some .int), Cond.methodLink RX2 104 yX2_openSpotOf, Cond.instanceMethod yX2_openSpotOf, Cond.selects RX2 yX2_openSpotOf yX2_openSpotOf, Cond.code yX2_openSpotOf cX2_openSpotOf 8 (some .int)]
def wsX2_finds : List Cond := .code yX2_finds cX2_finds 6 (some .boolean) :: ((wsX2_finds_r1 ++ (wsX2_finds_r2 ++ wsX2_finds_r3)) ++ wsX20 ++ wsX30 ++ wsX00)
def wsX3_init : List Cond := .code yX3_init cX3_init 2 none :: ([.methodLink RX3 3 objectInit, .instanceMethod objectInit, .code objectInit ⟨#[0xb1]⟩ 1 none, .arrayClass .int, .fieldLink RX3 9 "ArrayClaims$TermTable" "sorts" "[I", .fieldLink RX3 15 "ArrayClaims$TermTable" "arrays" "[I", .fieldLink RX3 18 "ArrayClaims$TermTable" "indices" "[I", .fieldLink RX3 21 "ArrayClaims$TermTable" "elements" "[I", .fieldLink RX3 24 "ArrayClaims$TermTable" "count" "I"] ++ wsX30)
def wsX3_has : List Cond := .code yX3_has cX3_has 2 (some .boolean) :: ([.fieldLink RX3 24 "ArrayClaims$TermTable" "count" "I"] ++ wsX30)
def wsX3_sortOf : List Cond := .code yX3_sortOf cX3_sortOf 2 (some .int) :: ([.fieldLink RX3 9 "ArrayClaims$TermTable" "sorts" "[I", .methodLink RX3 28 yX3_has, .instanceMethod yX3_has, .selects RX3 yX3_has yX3_has, .initialized RX3, .code yX3_has cX3_has 2 (some .boolean), .fieldLink RX3 24 "ArrayClaims$TermTable" "count" "I"] ++ wsX30)
def wsX3_find : List Cond := .code yX3_find cX3_find 6 (some .int) :: ([.fieldLink RX3 24 "ArrayClaims$TermTable" "count" "I", .fieldLink RX3 9 "ArrayClaims$TermTable" "sorts" "[I", .fieldLink RX3 15 "ArrayClaims$TermTable" "arrays" "[I", .fieldLink RX3 18 "ArrayClaims$TermTable" "indices" "[I", .fieldLink RX3 21 "ArrayClaims$TermTable" "elements" "[I"] ++ wsX30)
def wsX3_add : List Cond := .code yX3_add cX3_add 5 (some .int) :: ([.fieldLink RX3 24 "ArrayClaims$TermTable" "count" "I", .fieldLink RX3 9 "ArrayClaims$TermTable" "sorts" "[I", .fieldLink RX3 15 "ArrayClaims$TermTable" "arrays" "[I", .fieldLink RX3 18 "ArrayClaims$TermTable" "indices" "[I", .fieldLink RX3 21 "ArrayClaims$TermTable" "elements" "[I"] ++ wsX30)
def wsX4_init_r1 : List Cond := [Cond.methodLink RX4 3 objectInit, Cond.instanceMethod objectInit, Cond.code objectInit ⟨#[0xb1]⟩ 1 none, Cond.classLink RX4 9 RX3, Cond.instantiable RX3 5, Cond.initialized RX3, Cond.fieldLink RX4 12 "ArrayClaims" "known" "LArrayClaims$TermTable;", Cond.classLink RX4 16 RX0, Cond.instantiable RX0 3, Cond.initialized RX0, Cond.fieldLink RX4 21 "ArrayClaims" "made" "LArrayClaims$ClaimList;", Cond.arrayClass .int, Cond.fieldLink RX4 25 "ArrayClaims" "drafted" "[I", Cond.fieldLink RX4 29 "ArrayClaims" "draftSize" "I", Cond.fieldLink RX4 33 "ArrayClaims" "asked" "LArrayClaims$ClaimList;", Cond.classLink RX4 36 RX2, Cond.instantiable RX2 2, Cond.initialized RX2, Cond.fieldLink RX4 39 "ArrayClaims" "search" "LArrayClaims$ReadingSearch;", Cond.methodLink RX4 11 yX3_init, Cond.instanceMethod yX3_init, Cond.code yX3_init cX3_init 2 none, Cond.methodLink RX3 3 objectInit, Cond.fieldLink RX3 9 "ArrayClaims$TermTable" "sorts" "[I"]
def wsX4_init_r2 : List Cond := [Cond.fieldLink RX3 15 "ArrayClaims$TermTable" "arrays" "[I", Cond.fieldLink RX3 18 "ArrayClaims$TermTable" "indices" "[I", Cond.fieldLink RX3 21 "ArrayClaims$TermTable" "elements" "[I", Cond.fieldLink RX3 24 "ArrayClaims$TermTable" "count" "I", Cond.methodLink RX4 18 yX0_init, Cond.instanceMethod yX0_init, Cond.code yX0_init cX0_init 2 none, Cond.methodLink RX0 3 objectInit, Cond.fieldLink RX0 9 "ArrayClaims$ClaimList" "literals" "[I", Cond.fieldLink RX0 15 "ArrayClaims$ClaimList" "sizes" "[I", Cond.fieldLink RX0 18 "ArrayClaims$ClaimList" "count" "I", Cond.instanceMethod yX2_init, Cond.code yX2_init cX2_init 1 none, Cond.methodLink RX2 5 objectInit, Cond.fieldLink RX2 11 "ArrayClaims$ReadingSearch" "parts" "[I", Cond.fieldLink RX2 15 "ArrayClaims$ReadingSearch" "chosen" "[I"]
def wsX4_init : List Cond := .code yX4_init cX4_init 1 none :: ((wsX4_init_r1 ++ wsX4_init_r2) ++ wsX30 ++ wsX40 ++ wsX00 ++ wsX20)
def wsX4_select_r1 : List Cond := [Cond.classLink RX4 47 "java/lang/IndexOutOfBoundsException", Cond.initialized "java/lang/IndexOutOfBoundsException", Cond.classLink RX4 54 "java/lang/IllegalArgumentException", Cond.initialized "java/lang/IllegalArgumentException", Cond.fieldLink RX4 12 "ArrayClaims" "known" "LArrayClaims$TermTable;", Cond.methodLink RX4 43 yX3_has, Cond.instanceMethod yX3_has, Cond.selects RX3 yX3_has yX3_has, Cond.initialized RX3, Cond.code yX3_has cX3_has 2 (some .boolean), Cond.fieldLink RX3 24 "ArrayClaims$TermTable" "count" "I", Cond.methodLink RX4 50 yX3_sortOf, Cond.instanceMethod yX3_sortOf, Cond.selects RX3 yX3_sortOf yX3_sortOf, Cond.code yX3_sortOf cX3_sortOf 2 (some .int), Cond.fieldLink RX3 9 "ArrayClaims$TermTable" "sorts" "[I", Cond.methodLink RX3 28 yX3_has, Cond.methodLink RX4 57 yX4_termFor, Cond.instanceMethod yX4_termFor, Cond.selects RX4 yX4_termFor yX4_termFor, Cond.initialized RX4, Cond.code yX4_termFor cX4_termFor 6 (some .int), Cond.classLink RX4 78 "java/lang/UnsupportedOperationException", Cond.initialized "java/lang/UnsupportedOperationException"]
def wsX4_select_r2 : List Cond := [Cond.methodLink RX4 105 yX3_find, Cond.instanceMethod yX3_find, Cond.selects RX3 yX3_find yX3_find, Cond.code yX3_find cX3_find 6 (some .int), Cond.fieldLink RX3 15 "ArrayClaims$TermTable" "arrays" "[I", Cond.fieldLink RX3 18 "ArrayClaims$TermTable" "indices" "[I", Cond.fieldLink RX3 21 "ArrayClaims$TermTable" "elements" "[I", Cond.methodLink RX4 108 yX3_add, Cond.instanceMethod yX3_add, Cond.selects RX3 yX3_add yX3_add, Cond.code yX3_add cX3_add 5 (some .int)]
def wsX4_store_r1 : List Cond := [Cond.classLink RX4 47 "java/lang/IndexOutOfBoundsException", Cond.initialized "java/lang/IndexOutOfBoundsException", Cond.classLink RX4 54 "java/lang/IllegalArgumentException", Cond.initialized "java/lang/IllegalArgumentException", Cond.fieldLink RX4 12 "ArrayClaims" "known" "LArrayClaims$TermTable;", Cond.methodLink RX4 43 yX3_has, Cond.instanceMethod yX3_has, Cond.selects RX3 yX3_has yX3_has, Cond.initialized RX3, Cond.code yX3_has cX3_has 2 (some .boolean), Cond.fieldLink RX3 24 "ArrayClaims$TermTable" "count" "I", Cond.methodLink RX4 50 yX3_sortOf, Cond.instanceMethod yX3_sortOf, Cond.selects RX3 yX3_sortOf yX3_sortOf, Cond.code yX3_sortOf cX3_sortOf 2 (some .int), Cond.fieldLink RX3 9 "ArrayClaims$TermTable" "sorts" "[I", Cond.methodLink RX3 28 yX3_has, Cond.methodLink RX4 57 yX4_termFor, Cond.instanceMethod yX4_termFor, Cond.selects RX4 yX4_termFor yX4_termFor, Cond.initialized RX4, Cond.code yX4_termFor cX4_termFor 6 (some .int), Cond.classLink RX4 78 "java/lang/UnsupportedOperationException", Cond.initialized "java/lang/UnsupportedOperationException"]
def wsX4_store_r2 : List Cond := [Cond.methodLink RX4 105 yX3_find, Cond.instanceMethod yX3_find, Cond.selects RX3 yX3_find yX3_find, Cond.code yX3_find cX3_find 6 (some .int), Cond.fieldLink RX3 15 "ArrayClaims$TermTable" "arrays" "[I", Cond.fieldLink RX3 18 "ArrayClaims$TermTable" "indices" "[I", Cond.fieldLink RX3 21 "ArrayClaims$TermTable" "elements" "[I", Cond.methodLink RX4 108 yX3_add, Cond.instanceMethod yX3_add, Cond.selects RX3 yX3_add yX3_add, Cond.code yX3_add cX3_add 5 (some .int)]
def wsX4_terms : List Cond := .code yX4_terms cX4_terms 1 (some .int) :: ([.fieldLink RX4 12 "ArrayClaims" "known" "LArrayClaims$TermTable;"] ++ wsX40 ++ wsX30)
def wsX4_sort : List Cond := .code yX4_sort cX4_sort 2 (some .int) :: ([.fieldLink RX4 12 "ArrayClaims" "known" "LArrayClaims$TermTable;", .methodLink RX4 50 yX3_sortOf, .instanceMethod yX3_sortOf, .selects RX3 yX3_sortOf yX3_sortOf, .initialized RX3, .code yX3_sortOf cX3_sortOf 2 (some .int), .fieldLink RX3 9 "ArrayClaims$TermTable" "sorts" "[I", .methodLink RX3 28 yX3_has, .instanceMethod yX3_has, .selects RX3 yX3_has yX3_has, .code yX3_has cX3_has 2 (some .boolean), .fieldLink RX3 24 "ArrayClaims$TermTable" "count" "I"] ++ wsX40 ++ wsX30)
def wsX4_literal_r1 : List Cond := [Cond.classLink RX4 68 "java/lang/IllegalStateException", Cond.initialized "java/lang/IllegalStateException", Cond.fieldLink RX4 29 "ArrayClaims" "draftSize" "I", Cond.fieldLink RX4 25 "ArrayClaims" "drafted" "[I", Cond.methodLink RX4 64 yX4_checkPair, Cond.instanceMethod yX4_checkPair, Cond.selects RX4 yX4_checkPair yX4_checkPair, Cond.initialized RX4, Cond.code yX4_checkPair cX4_checkPair 3 none, Cond.classLink RX4 47 "java/lang/IndexOutOfBoundsException", Cond.initialized "java/lang/IndexOutOfBoundsException", Cond.classLink RX4 54 "java/lang/IllegalArgumentException", Cond.initialized "java/lang/IllegalArgumentException", Cond.fieldLink RX4 12 "ArrayClaims" "known" "LArrayClaims$TermTable;", Cond.methodLink RX4 43 yX3_has, Cond.instanceMethod yX3_has, Cond.selects RX3 yX3_has yX3_has, Cond.initialized RX3, Cond.code yX3_has cX3_has 2 (some .boolean), Cond.fieldLink RX3 24 "ArrayClaims$TermTable" "count" "I", Cond.methodLink RX4 50 yX3_sortOf, Cond.instanceMethod yX3_sortOf, Cond.selects RX3 yX3_sortOf yX3_sortOf, Cond.code yX3_sortOf cX3_sortOf 2 (some .int)]
def wsX4_literal_r2 : List Cond := [Cond.fieldLink RX3 9 "ArrayClaims$TermTable" "sorts" "[I", Cond.methodLink RX3 28 yX3_has, Cond.methodLink RX4 71 yX1_of, Cond.static yX1_of, Cond.initialized RX1, Cond.code yX1_of cX1_of 3 (some .int)]
def wsX4_draft : List Cond := .code yX4_draft cX4_draft 1 (some .int) :: ([.fieldLink RX4 29 "ArrayClaims" "draftSize" "I"] ++ wsX40)
def wsX4_clear : List Cond := .code yX4_clear cX4_clear 1 none :: ([.fieldLink RX4 29 "ArrayClaims" "draftSize" "I"] ++ wsX40)
def wsX4_keep : List Cond := .code yX4_keep cX4_keep 2 (some .boolean) :: ([.fieldLink RX4 21 "ArrayClaims" "made" "LArrayClaims$ClaimList;", .methodLink RX4 85 yX0_cutTo, .instanceMethod yX0_cutTo, .selects RX0 yX0_cutTo yX0_cutTo, .initialized RX0, .code yX0_cutTo cX0_cutTo 2 none, .fieldLink RX0 18 "ArrayClaims$ClaimList" "count" "I"] ++ wsX40 ++ wsX00)
def wsX4_claims : List Cond := .code yX4_claims cX4_claims 1 (some .int) :: ([.fieldLink RX4 21 "ArrayClaims" "made" "LArrayClaims$ClaimList;"] ++ wsX40 ++ wsX00)
def wsX4_askClaims : List Cond := .code yX4_askClaims cX4_askClaims 4 none :: ([.fieldLink RX4 33 "ArrayClaims" "asked" "LArrayClaims$ClaimList;", .fieldLink RX4 21 "ArrayClaims" "made" "LArrayClaims$ClaimList;", .methodLink RX4 85 yX0_cutTo, .instanceMethod yX0_cutTo, .selects RX0 yX0_cutTo yX0_cutTo, .initialized RX0, .code yX0_cutTo cX0_cutTo 2 none, .fieldLink RX0 18 "ArrayClaims$ClaimList" "count" "I", .methodLink RX4 110 yX0_addFrom, .instanceMethod yX0_addFrom, .selects RX0 yX0_addFrom yX0_addFrom, .code yX0_addFrom cX0_addFrom 3 none, .fieldLink RX0 9 "ArrayClaims$ClaimList" "literals" "[I", .fieldLink RX0 15 "ArrayClaims$ClaimList" "sizes" "[I", .methodLink RX0 22 yX0_add, .instanceMethod yX0_add, .selects RX0 yX0_add yX0_add, .code yX0_add cX0_add 5 none] ++ wsX40 ++ wsX00)
def wsX4_isPossible_r1 : List Cond := [Cond.fieldLink RX4 39 "ArrayClaims" "search" "LArrayClaims$ReadingSearch;", Cond.fieldLink RX4 12 "ArrayClaims" "known" "LArrayClaims$TermTable;", Cond.fieldLink RX4 33 "ArrayClaims" "asked" "LArrayClaims$ClaimList;", Cond.methodLink RX4 101 yX2_finds, Cond.instanceMethod yX2_finds, Cond.selects RX2 yX2_finds yX2_finds, Cond.initialized RX2, Cond.code yX2_finds cX2_finds 6 (some .boolean), Cond.fieldLink RX2 18 "ArrayClaims$ReadingSearch" "DIFFERENT" "[I", Cond.fieldLink RX2 15 "ArrayClaims$ReadingSearch" "chosen" "[I", Cond.methodLink RX2 21 yX2_spellOut, Cond.instanceMethod yX2_spellOut, Cond.selects RX2 yX2_spellOut yX2_spellOut, Cond.code yX2_spellOut cX2_spellOut 9 none, Cond.fieldLink RX2 11 "ArrayClaims$ReadingSearch" "parts" "[I", Cond.methodLink RX2 38 yX2_spellOutNames, Cond.instanceMethod yX2_spellOutNames, Cond.selects RX2 yX2_spellOutNames yX2_spellOutNames, Cond.code yX2_spellOutNames cX2_spellOutNames 6 none, Cond.methodLink RX2 54 yX2_lowest, Cond.static yX2_lowest, Cond.code yX2_lowest cX2_lowest 2 (some .int), Cond.fieldLink RX2 35 "ArrayClaims$ReadingSearch" "LOWEST" "[I", Cond.methodLink RX2 25 yJ7_fill_53178]
def wsX4_isPossible_r2 : List Cond := [Cond.static yJ7_fill_53178, Cond.initialized RJ7, Cond.code yJ7_fill_53178 cJ7_fill_53178 4 none, Cond.methodLink RX2 31 yX2_completes, Cond.instanceMethod yX2_completes, Cond.selects RX2 yX2_completes yX2_completes, Cond.code yX2_completes cX2_completes 10 (some .boolean), Cond.methodLink RX2 67 yX2_holding, Cond.instanceMethod yX2_holding, Cond.selects RX2 yX2_holding yX2_holding, Cond.code yX2_holding cX2_holding 7 (some .int), Cond.methodLink RX2 74 yX0_sizeOf, Cond.instanceMethod yX0_sizeOf, Cond.selects RX0 yX0_sizeOf yX0_sizeOf, Cond.initialized RX0, Cond.code yX0_sizeOf cX0_sizeOf 2 (some .int), Cond.fieldLink RX0 15 "ArrayClaims$ClaimList" "sizes" "[I", Cond.methodLink RX2 78 yX0_at, Cond.instanceMethod yX0_at, Cond.selects RX0 yX0_at yX0_at, Cond.code yX0_at cX0_at 3 (some .int), Cond.fieldLink RX0 9 "ArrayClaims$ClaimList" "literals" "[I", Cond.methodLink RX2 81 yX2_rightness, Cond.instanceMethod yX2_rightness]
def wsX4_isPossible_r3 : List Cond := [Cond.selects RX2 yX2_rightness yX2_rightness, Cond.code yX2_rightness cX2_rightness 8 (some .int), Cond.methodLink RX2 85 yX1_left, Cond.static yX1_left, Cond.initialized RX1, Cond.code yX1_left cX1_left 1 (some .int), Cond.methodLink RX2 90 yX1_right, Cond.static yX1_right, Cond.code yX1_right cX1_right 1 (some .int), Cond.methodLink RX2 93 yX2_width, Cond.static yX2_width, Cond.code yX2_width cX2_width 1 (some .int), Cond.methodLink RX2 96 yX2_partLikeness, Cond.instanceMethod yX2_partLikeness, Cond.selects RX2 yX2_partLikeness yX2_partLikeness, Cond.code yX2_partLikeness cX2_partLikeness 4 (some .int), Cond.methodLink RX2 100 yX1_saysSame, Cond.static yX1_saysSame, Cond.code yX1_saysSame cX1_saysSame 1 (some .boolean), Cond.methodLink RX2 71 yX2_openSpot, Cond.instanceMethod yX2_openSpot, Cond.selects RX2 yX2_openSpot yX2_openSpot, Cond.code yX2_openSpot cX2_openSpot 6 (some .int), Cond.methodLink RX2 104 yX2_openSpotOf]
def wsX4_isPossible_r4 : List Cond := [Cond.instanceMethod yX2_openSpotOf, Cond.selects RX2 yX2_openSpotOf yX2_openSpotOf, Cond.code yX2_openSpotOf cX2_openSpotOf 8 (some .int)]
def wsX4_isPossible : List Cond := .code yX4_isPossible cX4_isPossible 1 (some .boolean) :: ((wsX4_isPossible_r1 ++ (wsX4_isPossible_r2 ++ (wsX4_isPossible_r3 ++ wsX4_isPossible_r4))) ++ wsX40 ++ wsX20 ++ wsX30 ++ wsX00)
def wsX4_can_r1 : List Cond := [Cond.fieldLink RX4 21 "ArrayClaims" "made" "LArrayClaims$ClaimList;", Cond.methodLink RX4 88 yX4_askClaims, Cond.instanceMethod yX4_askClaims, Cond.selects RX4 yX4_askClaims yX4_askClaims, Cond.initialized RX4, Cond.code yX4_askClaims cX4_askClaims 4 none, Cond.fieldLink RX4 33 "ArrayClaims" "asked" "LArrayClaims$ClaimList;", Cond.methodLink RX4 85 yX0_cutTo, Cond.instanceMethod yX0_cutTo, Cond.selects RX0 yX0_cutTo yX0_cutTo, Cond.initialized RX0, Cond.code yX0_cutTo cX0_cutTo 2 none, Cond.fieldLink RX0 18 "ArrayClaims$ClaimList" "count" "I", Cond.methodLink RX4 110 yX0_addFrom, Cond.instanceMethod yX0_addFrom, Cond.selects RX0 yX0_addFrom yX0_addFrom, Cond.code yX0_addFrom cX0_addFrom 3 none, Cond.fieldLink RX0 9 "ArrayClaims$ClaimList" "literals" "[I", Cond.fieldLink RX0 15 "ArrayClaims$ClaimList" "sizes" "[I", Cond.methodLink RX0 22 yX0_add, Cond.instanceMethod yX0_add, Cond.selects RX0 yX0_add yX0_add, Cond.code yX0_add cX0_add 5 none, Cond.methodLink RX4 91 yX4_isPossible]
def wsX4_can_r2 : List Cond := [Cond.instanceMethod yX4_isPossible, Cond.selects RX4 yX4_isPossible yX4_isPossible, Cond.code yX4_isPossible cX4_isPossible 1 (some .boolean), Cond.fieldLink RX4 39 "ArrayClaims" "search" "LArrayClaims$ReadingSearch;", Cond.fieldLink RX4 12 "ArrayClaims" "known" "LArrayClaims$TermTable;", Cond.methodLink RX4 101 yX2_finds, Cond.instanceMethod yX2_finds, Cond.selects RX2 yX2_finds yX2_finds, Cond.initialized RX2, Cond.code yX2_finds cX2_finds 6 (some .boolean), Cond.fieldLink RX2 18 "ArrayClaims$ReadingSearch" "DIFFERENT" "[I", Cond.fieldLink RX2 15 "ArrayClaims$ReadingSearch" "chosen" "[I", Cond.methodLink RX2 21 yX2_spellOut, Cond.instanceMethod yX2_spellOut, Cond.selects RX2 yX2_spellOut yX2_spellOut, Cond.code yX2_spellOut cX2_spellOut 9 none, Cond.fieldLink RX2 11 "ArrayClaims$ReadingSearch" "parts" "[I", Cond.methodLink RX2 38 yX2_spellOutNames, Cond.instanceMethod yX2_spellOutNames, Cond.selects RX2 yX2_spellOutNames yX2_spellOutNames, Cond.code yX2_spellOutNames cX2_spellOutNames 6 none, Cond.methodLink RX2 54 yX2_lowest, Cond.static yX2_lowest, Cond.code yX2_lowest cX2_lowest 2 (some .int)]
def wsX4_can_r3 : List Cond := [Cond.fieldLink RX2 35 "ArrayClaims$ReadingSearch" "LOWEST" "[I", Cond.methodLink RX2 25 yJ7_fill_53178, Cond.static yJ7_fill_53178, Cond.initialized RJ7, Cond.code yJ7_fill_53178 cJ7_fill_53178 4 none, Cond.methodLink RX2 31 yX2_completes, Cond.instanceMethod yX2_completes, Cond.selects RX2 yX2_completes yX2_completes, Cond.code yX2_completes cX2_completes 10 (some .boolean), Cond.methodLink RX2 67 yX2_holding, Cond.instanceMethod yX2_holding, Cond.selects RX2 yX2_holding yX2_holding, Cond.code yX2_holding cX2_holding 7 (some .int), Cond.methodLink RX2 74 yX0_sizeOf, Cond.instanceMethod yX0_sizeOf, Cond.selects RX0 yX0_sizeOf yX0_sizeOf, Cond.code yX0_sizeOf cX0_sizeOf 2 (some .int), Cond.methodLink RX2 78 yX0_at, Cond.instanceMethod yX0_at, Cond.selects RX0 yX0_at yX0_at, Cond.code yX0_at cX0_at 3 (some .int), Cond.methodLink RX2 81 yX2_rightness, Cond.instanceMethod yX2_rightness, Cond.selects RX2 yX2_rightness yX2_rightness]
def wsX4_can_r4 : List Cond := [Cond.code yX2_rightness cX2_rightness 8 (some .int), Cond.methodLink RX2 85 yX1_left, Cond.static yX1_left, Cond.initialized RX1, Cond.code yX1_left cX1_left 1 (some .int), Cond.methodLink RX2 90 yX1_right, Cond.static yX1_right, Cond.code yX1_right cX1_right 1 (some .int), Cond.methodLink RX2 93 yX2_width, Cond.static yX2_width, Cond.code yX2_width cX2_width 1 (some .int), Cond.methodLink RX2 96 yX2_partLikeness, Cond.instanceMethod yX2_partLikeness, Cond.selects RX2 yX2_partLikeness yX2_partLikeness, Cond.code yX2_partLikeness cX2_partLikeness 4 (some .int), Cond.methodLink RX2 100 yX1_saysSame, Cond.static yX1_saysSame, Cond.code yX1_saysSame cX1_saysSame 1 (some .boolean), Cond.methodLink RX2 71 yX2_openSpot, Cond.instanceMethod yX2_openSpot, Cond.selects RX2 yX2_openSpot yX2_openSpot, Cond.code yX2_openSpot cX2_openSpot 6 (some .int), Cond.methodLink RX2 104 yX2_openSpotOf, Cond.instanceMethod yX2_openSpotOf]
def wsX4_can_r5 : List Cond := [Cond.selects RX2 yX2_openSpotOf yX2_openSpotOf, Cond.code yX2_openSpotOf cX2_openSpotOf 8 (some .int)]
def wsX4_can : List Cond := .code yX4_can cX4_can 1 (some .boolean) :: ((wsX4_can_r1 ++ (wsX4_can_r2 ++ (wsX4_can_r3 ++ (wsX4_can_r4 ++ wsX4_can_r5)))) ++ wsX40 ++ wsX00 ++ wsX20 ++ wsX30)
def wsX4_first_r1 : List Cond := [Cond.fieldLink RX4 21 "ArrayClaims" "made" "LArrayClaims$ClaimList;", Cond.methodLink RX4 88 yX4_askClaims, Cond.instanceMethod yX4_askClaims, Cond.selects RX4 yX4_askClaims yX4_askClaims, Cond.initialized RX4, Cond.code yX4_askClaims cX4_askClaims 4 none, Cond.fieldLink RX4 33 "ArrayClaims" "asked" "LArrayClaims$ClaimList;", Cond.methodLink RX4 85 yX0_cutTo, Cond.instanceMethod yX0_cutTo, Cond.selects RX0 yX0_cutTo yX0_cutTo, Cond.initialized RX0, Cond.code yX0_cutTo cX0_cutTo 2 none, Cond.fieldLink RX0 18 "ArrayClaims$ClaimList" "count" "I", Cond.methodLink RX4 110 yX0_addFrom, Cond.instanceMethod yX0_addFrom, Cond.selects RX0 yX0_addFrom yX0_addFrom, Cond.code yX0_addFrom cX0_addFrom 3 none, Cond.fieldLink RX0 9 "ArrayClaims$ClaimList" "literals" "[I", Cond.fieldLink RX0 15 "ArrayClaims$ClaimList" "sizes" "[I", Cond.methodLink RX0 22 yX0_add, Cond.instanceMethod yX0_add, Cond.selects RX0 yX0_add yX0_add, Cond.code yX0_add cX0_add 5 none, Cond.methodLink RX4 91 yX4_isPossible]
def wsX4_first_r2 : List Cond := [Cond.instanceMethod yX4_isPossible, Cond.selects RX4 yX4_isPossible yX4_isPossible, Cond.code yX4_isPossible cX4_isPossible 1 (some .boolean), Cond.fieldLink RX4 39 "ArrayClaims" "search" "LArrayClaims$ReadingSearch;", Cond.fieldLink RX4 12 "ArrayClaims" "known" "LArrayClaims$TermTable;", Cond.methodLink RX4 101 yX2_finds, Cond.instanceMethod yX2_finds, Cond.selects RX2 yX2_finds yX2_finds, Cond.initialized RX2, Cond.code yX2_finds cX2_finds 6 (some .boolean), Cond.fieldLink RX2 18 "ArrayClaims$ReadingSearch" "DIFFERENT" "[I", Cond.fieldLink RX2 15 "ArrayClaims$ReadingSearch" "chosen" "[I", Cond.methodLink RX2 21 yX2_spellOut, Cond.instanceMethod yX2_spellOut, Cond.selects RX2 yX2_spellOut yX2_spellOut, Cond.code yX2_spellOut cX2_spellOut 9 none, Cond.fieldLink RX2 11 "ArrayClaims$ReadingSearch" "parts" "[I", Cond.methodLink RX2 38 yX2_spellOutNames, Cond.instanceMethod yX2_spellOutNames, Cond.selects RX2 yX2_spellOutNames yX2_spellOutNames, Cond.code yX2_spellOutNames cX2_spellOutNames 6 none, Cond.methodLink RX2 54 yX2_lowest, Cond.static yX2_lowest, Cond.code yX2_lowest cX2_lowest 2 (some .int)]
def wsX4_first_r3 : List Cond := [Cond.fieldLink RX2 35 "ArrayClaims$ReadingSearch" "LOWEST" "[I", Cond.methodLink RX2 25 yJ7_fill_53178, Cond.static yJ7_fill_53178, Cond.initialized RJ7, Cond.code yJ7_fill_53178 cJ7_fill_53178 4 none, Cond.methodLink RX2 31 yX2_completes, Cond.instanceMethod yX2_completes, Cond.selects RX2 yX2_completes yX2_completes, Cond.code yX2_completes cX2_completes 10 (some .boolean), Cond.methodLink RX2 67 yX2_holding, Cond.instanceMethod yX2_holding, Cond.selects RX2 yX2_holding yX2_holding, Cond.code yX2_holding cX2_holding 7 (some .int), Cond.methodLink RX2 74 yX0_sizeOf, Cond.instanceMethod yX0_sizeOf, Cond.selects RX0 yX0_sizeOf yX0_sizeOf, Cond.code yX0_sizeOf cX0_sizeOf 2 (some .int), Cond.methodLink RX2 78 yX0_at, Cond.instanceMethod yX0_at, Cond.selects RX0 yX0_at yX0_at, Cond.code yX0_at cX0_at 3 (some .int), Cond.methodLink RX2 81 yX2_rightness, Cond.instanceMethod yX2_rightness, Cond.selects RX2 yX2_rightness yX2_rightness]
def wsX4_first_r4 : List Cond := [Cond.code yX2_rightness cX2_rightness 8 (some .int), Cond.methodLink RX2 85 yX1_left, Cond.static yX1_left, Cond.initialized RX1, Cond.code yX1_left cX1_left 1 (some .int), Cond.methodLink RX2 90 yX1_right, Cond.static yX1_right, Cond.code yX1_right cX1_right 1 (some .int), Cond.methodLink RX2 93 yX2_width, Cond.static yX2_width, Cond.code yX2_width cX2_width 1 (some .int), Cond.methodLink RX2 96 yX2_partLikeness, Cond.instanceMethod yX2_partLikeness, Cond.selects RX2 yX2_partLikeness yX2_partLikeness, Cond.code yX2_partLikeness cX2_partLikeness 4 (some .int), Cond.methodLink RX2 100 yX1_saysSame, Cond.static yX1_saysSame, Cond.code yX1_saysSame cX1_saysSame 1 (some .boolean), Cond.methodLink RX2 71 yX2_openSpot, Cond.instanceMethod yX2_openSpot, Cond.selects RX2 yX2_openSpot yX2_openSpot, Cond.code yX2_openSpot cX2_openSpot 6 (some .int), Cond.methodLink RX2 104 yX2_openSpotOf, Cond.instanceMethod yX2_openSpotOf]
def wsX4_first_r5 : List Cond := [Cond.selects RX2 yX2_openSpotOf yX2_openSpotOf, Cond.code yX2_openSpotOf cX2_openSpotOf 8 (some .int)]
def wsX4_first : List Cond := .code yX4_first cX4_first 2 (some .int) :: ((wsX4_first_r1 ++ (wsX4_first_r2 ++ (wsX4_first_r3 ++ (wsX4_first_r4 ++ wsX4_first_r5)))) ++ wsX40 ++ wsX00 ++ wsX20 ++ wsX30)
def wsX4_without_r1 : List Cond := [Cond.classLink RX4 47 "java/lang/IndexOutOfBoundsException", Cond.initialized "java/lang/IndexOutOfBoundsException", Cond.fieldLink RX4 21 "ArrayClaims" "made" "LArrayClaims$ClaimList;", Cond.methodLink RX4 88 yX4_askClaims, Cond.instanceMethod yX4_askClaims, Cond.selects RX4 yX4_askClaims yX4_askClaims, Cond.initialized RX4, Cond.code yX4_askClaims cX4_askClaims 4 none, Cond.fieldLink RX4 33 "ArrayClaims" "asked" "LArrayClaims$ClaimList;", Cond.methodLink RX4 85 yX0_cutTo, Cond.instanceMethod yX0_cutTo, Cond.selects RX0 yX0_cutTo yX0_cutTo, Cond.initialized RX0, Cond.code yX0_cutTo cX0_cutTo 2 none, Cond.fieldLink RX0 18 "ArrayClaims$ClaimList" "count" "I", Cond.methodLink RX4 110 yX0_addFrom, Cond.instanceMethod yX0_addFrom, Cond.selects RX0 yX0_addFrom yX0_addFrom, Cond.code yX0_addFrom cX0_addFrom 3 none, Cond.fieldLink RX0 9 "ArrayClaims$ClaimList" "literals" "[I", Cond.fieldLink RX0 15 "ArrayClaims$ClaimList" "sizes" "[I", Cond.methodLink RX0 22 yX0_add, Cond.instanceMethod yX0_add, Cond.selects RX0 yX0_add yX0_add]
def wsX4_without_r2 : List Cond := [Cond.code yX0_add cX0_add 5 none, Cond.methodLink RX4 91 yX4_isPossible, Cond.instanceMethod yX4_isPossible, Cond.selects RX4 yX4_isPossible yX4_isPossible, Cond.code yX4_isPossible cX4_isPossible 1 (some .boolean), Cond.fieldLink RX4 39 "ArrayClaims" "search" "LArrayClaims$ReadingSearch;", Cond.fieldLink RX4 12 "ArrayClaims" "known" "LArrayClaims$TermTable;", Cond.methodLink RX4 101 yX2_finds, Cond.instanceMethod yX2_finds, Cond.selects RX2 yX2_finds yX2_finds, Cond.initialized RX2, Cond.code yX2_finds cX2_finds 6 (some .boolean), Cond.fieldLink RX2 18 "ArrayClaims$ReadingSearch" "DIFFERENT" "[I", Cond.fieldLink RX2 15 "ArrayClaims$ReadingSearch" "chosen" "[I", Cond.methodLink RX2 21 yX2_spellOut, Cond.instanceMethod yX2_spellOut, Cond.selects RX2 yX2_spellOut yX2_spellOut, Cond.code yX2_spellOut cX2_spellOut 9 none, Cond.fieldLink RX2 11 "ArrayClaims$ReadingSearch" "parts" "[I", Cond.methodLink RX2 38 yX2_spellOutNames, Cond.instanceMethod yX2_spellOutNames, Cond.selects RX2 yX2_spellOutNames yX2_spellOutNames, Cond.code yX2_spellOutNames cX2_spellOutNames 6 none, Cond.methodLink RX2 54 yX2_lowest]
def wsX4_without_r3 : List Cond := [Cond.static yX2_lowest, Cond.code yX2_lowest cX2_lowest 2 (some .int), Cond.fieldLink RX2 35 "ArrayClaims$ReadingSearch" "LOWEST" "[I", Cond.methodLink RX2 25 yJ7_fill_53178, Cond.static yJ7_fill_53178, Cond.initialized RJ7, Cond.code yJ7_fill_53178 cJ7_fill_53178 4 none, Cond.methodLink RX2 31 yX2_completes, Cond.instanceMethod yX2_completes, Cond.selects RX2 yX2_completes yX2_completes, Cond.code yX2_completes cX2_completes 10 (some .boolean), Cond.methodLink RX2 67 yX2_holding, Cond.instanceMethod yX2_holding, Cond.selects RX2 yX2_holding yX2_holding, Cond.code yX2_holding cX2_holding 7 (some .int), Cond.methodLink RX2 74 yX0_sizeOf, Cond.instanceMethod yX0_sizeOf, Cond.selects RX0 yX0_sizeOf yX0_sizeOf, Cond.code yX0_sizeOf cX0_sizeOf 2 (some .int), Cond.methodLink RX2 78 yX0_at, Cond.instanceMethod yX0_at, Cond.selects RX0 yX0_at yX0_at, Cond.code yX0_at cX0_at 3 (some .int), Cond.methodLink RX2 81 yX2_rightness]
def wsX4_without_r4 : List Cond := [Cond.instanceMethod yX2_rightness, Cond.selects RX2 yX2_rightness yX2_rightness, Cond.code yX2_rightness cX2_rightness 8 (some .int), Cond.methodLink RX2 85 yX1_left, Cond.static yX1_left, Cond.initialized RX1, Cond.code yX1_left cX1_left 1 (some .int), Cond.methodLink RX2 90 yX1_right, Cond.static yX1_right, Cond.code yX1_right cX1_right 1 (some .int), Cond.methodLink RX2 93 yX2_width, Cond.static yX2_width, Cond.code yX2_width cX2_width 1 (some .int), Cond.methodLink RX2 96 yX2_partLikeness, Cond.instanceMethod yX2_partLikeness, Cond.selects RX2 yX2_partLikeness yX2_partLikeness, Cond.code yX2_partLikeness cX2_partLikeness 4 (some .int), Cond.methodLink RX2 100 yX1_saysSame, Cond.static yX1_saysSame, Cond.code yX1_saysSame cX1_saysSame 1 (some .boolean), Cond.methodLink RX2 71 yX2_openSpot, Cond.instanceMethod yX2_openSpot, Cond.selects RX2 yX2_openSpot yX2_openSpot, Cond.code yX2_openSpot cX2_openSpot 6 (some .int)]
def wsX4_without_r5 : List Cond := [Cond.methodLink RX2 104 yX2_openSpotOf, Cond.instanceMethod yX2_openSpotOf, Cond.selects RX2 yX2_openSpotOf yX2_openSpotOf, Cond.code yX2_openSpotOf cX2_openSpotOf 8 (some .int)]
def wsX4_same_r1 : List Cond := [Cond.classLink RX4 68 "java/lang/IllegalStateException", Cond.initialized "java/lang/IllegalStateException", Cond.fieldLink RX4 21 "ArrayClaims" "made" "LArrayClaims$ClaimList;", Cond.fieldLink RX4 33 "ArrayClaims" "asked" "LArrayClaims$ClaimList;", Cond.methodLink RX4 64 yX4_checkPair, Cond.instanceMethod yX4_checkPair, Cond.selects RX4 yX4_checkPair yX4_checkPair, Cond.initialized RX4, Cond.code yX4_checkPair cX4_checkPair 3 none, Cond.classLink RX4 47 "java/lang/IndexOutOfBoundsException", Cond.initialized "java/lang/IndexOutOfBoundsException", Cond.classLink RX4 54 "java/lang/IllegalArgumentException", Cond.initialized "java/lang/IllegalArgumentException", Cond.fieldLink RX4 12 "ArrayClaims" "known" "LArrayClaims$TermTable;", Cond.methodLink RX4 43 yX3_has, Cond.instanceMethod yX3_has, Cond.selects RX3 yX3_has yX3_has, Cond.initialized RX3, Cond.code yX3_has cX3_has 2 (some .boolean), Cond.fieldLink RX3 24 "ArrayClaims$TermTable" "count" "I", Cond.methodLink RX4 50 yX3_sortOf, Cond.instanceMethod yX3_sortOf, Cond.selects RX3 yX3_sortOf yX3_sortOf, Cond.code yX3_sortOf cX3_sortOf 2 (some .int)]
def wsX4_same_r2 : List Cond := [Cond.fieldLink RX3 9 "ArrayClaims$TermTable" "sorts" "[I", Cond.methodLink RX3 28 yX3_has, Cond.methodLink RX4 88 yX4_askClaims, Cond.instanceMethod yX4_askClaims, Cond.selects RX4 yX4_askClaims yX4_askClaims, Cond.code yX4_askClaims cX4_askClaims 4 none, Cond.methodLink RX4 85 yX0_cutTo, Cond.instanceMethod yX0_cutTo, Cond.selects RX0 yX0_cutTo yX0_cutTo, Cond.initialized RX0, Cond.code yX0_cutTo cX0_cutTo 2 none, Cond.fieldLink RX0 18 "ArrayClaims$ClaimList" "count" "I", Cond.methodLink RX4 110 yX0_addFrom, Cond.instanceMethod yX0_addFrom, Cond.selects RX0 yX0_addFrom yX0_addFrom, Cond.code yX0_addFrom cX0_addFrom 3 none, Cond.fieldLink RX0 9 "ArrayClaims$ClaimList" "literals" "[I", Cond.fieldLink RX0 15 "ArrayClaims$ClaimList" "sizes" "[I", Cond.methodLink RX0 22 yX0_add, Cond.instanceMethod yX0_add, Cond.selects RX0 yX0_add yX0_add, Cond.code yX0_add cX0_add 5 none, Cond.methodLink RX4 71 yX1_of, Cond.static yX1_of]
def wsX4_same_r3 : List Cond := [Cond.initialized RX1, Cond.code yX1_of cX1_of 3 (some .int), Cond.methodLink RX4 95 yX0_addSingle, Cond.instanceMethod yX0_addSingle, Cond.selects RX0 yX0_addSingle yX0_addSingle, Cond.code yX0_addSingle cX0_addSingle 2 none, Cond.methodLink RX4 91 yX4_isPossible, Cond.instanceMethod yX4_isPossible, Cond.selects RX4 yX4_isPossible yX4_isPossible, Cond.code yX4_isPossible cX4_isPossible 1 (some .boolean), Cond.fieldLink RX4 39 "ArrayClaims" "search" "LArrayClaims$ReadingSearch;", Cond.methodLink RX4 101 yX2_finds, Cond.instanceMethod yX2_finds, Cond.selects RX2 yX2_finds yX2_finds, Cond.initialized RX2, Cond.code yX2_finds cX2_finds 6 (some .boolean), Cond.fieldLink RX2 18 "ArrayClaims$ReadingSearch" "DIFFERENT" "[I", Cond.fieldLink RX2 15 "ArrayClaims$ReadingSearch" "chosen" "[I", Cond.methodLink RX2 21 yX2_spellOut, Cond.instanceMethod yX2_spellOut, Cond.selects RX2 yX2_spellOut yX2_spellOut, Cond.code yX2_spellOut cX2_spellOut 9 none, Cond.fieldLink RX2 11 "ArrayClaims$ReadingSearch" "parts" "[I", Cond.methodLink RX2 38 yX2_spellOutNames]
def wsX4_same_r4 : List Cond := [Cond.instanceMethod yX2_spellOutNames, Cond.selects RX2 yX2_spellOutNames yX2_spellOutNames, Cond.code yX2_spellOutNames cX2_spellOutNames 6 none, Cond.methodLink RX2 54 yX2_lowest, Cond.static yX2_lowest, Cond.code yX2_lowest cX2_lowest 2 (some .int), Cond.fieldLink RX2 35 "ArrayClaims$ReadingSearch" "LOWEST" "[I", Cond.methodLink RX2 25 yJ7_fill_53178, Cond.static yJ7_fill_53178, Cond.initialized RJ7, Cond.code yJ7_fill_53178 cJ7_fill_53178 4 none, Cond.methodLink RX2 31 yX2_completes, Cond.instanceMethod yX2_completes, Cond.selects RX2 yX2_completes yX2_completes, Cond.code yX2_completes cX2_completes 10 (some .boolean), Cond.methodLink RX2 67 yX2_holding, Cond.instanceMethod yX2_holding, Cond.selects RX2 yX2_holding yX2_holding, Cond.code yX2_holding cX2_holding 7 (some .int), Cond.methodLink RX2 74 yX0_sizeOf, Cond.instanceMethod yX0_sizeOf, Cond.selects RX0 yX0_sizeOf yX0_sizeOf, Cond.code yX0_sizeOf cX0_sizeOf 2 (some .int), Cond.methodLink RX2 78 yX0_at]
def wsX4_same_r5 : List Cond := [Cond.instanceMethod yX0_at, Cond.selects RX0 yX0_at yX0_at, Cond.code yX0_at cX0_at 3 (some .int), Cond.methodLink RX2 81 yX2_rightness, Cond.instanceMethod yX2_rightness, Cond.selects RX2 yX2_rightness yX2_rightness, Cond.code yX2_rightness cX2_rightness 8 (some .int), Cond.methodLink RX2 85 yX1_left, Cond.static yX1_left, Cond.code yX1_left cX1_left 1 (some .int), Cond.methodLink RX2 90 yX1_right, Cond.static yX1_right, Cond.code yX1_right cX1_right 1 (some .int), Cond.methodLink RX2 93 yX2_width, Cond.static yX2_width, Cond.code yX2_width cX2_width 1 (some .int), Cond.methodLink RX2 96 yX2_partLikeness, Cond.instanceMethod yX2_partLikeness, Cond.selects RX2 yX2_partLikeness yX2_partLikeness, Cond.code yX2_partLikeness cX2_partLikeness 4 (some .int), Cond.methodLink RX2 100 yX1_saysSame, Cond.static yX1_saysSame, Cond.code yX1_saysSame cX1_saysSame 1 (some .boolean), Cond.methodLink RX2 71 yX2_openSpot]
def wsX4_same_r6 : List Cond := [Cond.instanceMethod yX2_openSpot, Cond.selects RX2 yX2_openSpot yX2_openSpot, Cond.code yX2_openSpot cX2_openSpot 6 (some .int), Cond.methodLink RX2 104 yX2_openSpotOf, Cond.instanceMethod yX2_openSpotOf, Cond.selects RX2 yX2_openSpotOf yX2_openSpotOf, Cond.code yX2_openSpotOf cX2_openSpotOf 8 (some .int)]
def wsX4_follows_r1 : List Cond := [Cond.classLink RX4 68 "java/lang/IllegalStateException", Cond.initialized "java/lang/IllegalStateException", Cond.fieldLink RX4 29 "ArrayClaims" "draftSize" "I", Cond.fieldLink RX4 21 "ArrayClaims" "made" "LArrayClaims$ClaimList;", Cond.fieldLink RX4 33 "ArrayClaims" "asked" "LArrayClaims$ClaimList;", Cond.fieldLink RX4 25 "ArrayClaims" "drafted" "[I", Cond.methodLink RX4 88 yX4_askClaims, Cond.instanceMethod yX4_askClaims, Cond.selects RX4 yX4_askClaims yX4_askClaims, Cond.initialized RX4, Cond.code yX4_askClaims cX4_askClaims 4 none, Cond.methodLink RX4 85 yX0_cutTo, Cond.instanceMethod yX0_cutTo, Cond.selects RX0 yX0_cutTo yX0_cutTo, Cond.initialized RX0, Cond.code yX0_cutTo cX0_cutTo 2 none, Cond.fieldLink RX0 18 "ArrayClaims$ClaimList" "count" "I", Cond.methodLink RX4 110 yX0_addFrom, Cond.instanceMethod yX0_addFrom, Cond.selects RX0 yX0_addFrom yX0_addFrom, Cond.code yX0_addFrom cX0_addFrom 3 none, Cond.fieldLink RX0 9 "ArrayClaims$ClaimList" "literals" "[I", Cond.fieldLink RX0 15 "ArrayClaims$ClaimList" "sizes" "[I", Cond.methodLink RX0 22 yX0_add]
def wsX4_follows_r2 : List Cond := [Cond.instanceMethod yX0_add, Cond.selects RX0 yX0_add yX0_add, Cond.code yX0_add cX0_add 5 none, Cond.methodLink RX4 98 yX1_opposite, Cond.static yX1_opposite, Cond.initialized RX1, Cond.code yX1_opposite cX1_opposite 1 (some .int), Cond.methodLink RX4 95 yX0_addSingle, Cond.instanceMethod yX0_addSingle, Cond.selects RX0 yX0_addSingle yX0_addSingle, Cond.code yX0_addSingle cX0_addSingle 2 none, Cond.methodLink RX4 91 yX4_isPossible, Cond.instanceMethod yX4_isPossible, Cond.selects RX4 yX4_isPossible yX4_isPossible, Cond.code yX4_isPossible cX4_isPossible 1 (some .boolean), Cond.fieldLink RX4 39 "ArrayClaims" "search" "LArrayClaims$ReadingSearch;", Cond.fieldLink RX4 12 "ArrayClaims" "known" "LArrayClaims$TermTable;", Cond.methodLink RX4 101 yX2_finds, Cond.instanceMethod yX2_finds, Cond.selects RX2 yX2_finds yX2_finds, Cond.initialized RX2, Cond.code yX2_finds cX2_finds 6 (some .boolean), Cond.fieldLink RX2 18 "ArrayClaims$ReadingSearch" "DIFFERENT" "[I", Cond.fieldLink RX2 15 "ArrayClaims$ReadingSearch" "chosen" "[I"]
def wsX4_follows_r3 : List Cond := [Cond.methodLink RX2 21 yX2_spellOut, Cond.instanceMethod yX2_spellOut, Cond.selects RX2 yX2_spellOut yX2_spellOut, Cond.code yX2_spellOut cX2_spellOut 9 none, Cond.fieldLink RX2 11 "ArrayClaims$ReadingSearch" "parts" "[I", Cond.methodLink RX2 38 yX2_spellOutNames, Cond.instanceMethod yX2_spellOutNames, Cond.selects RX2 yX2_spellOutNames yX2_spellOutNames, Cond.code yX2_spellOutNames cX2_spellOutNames 6 none, Cond.methodLink RX2 54 yX2_lowest, Cond.static yX2_lowest, Cond.code yX2_lowest cX2_lowest 2 (some .int), Cond.fieldLink RX2 35 "ArrayClaims$ReadingSearch" "LOWEST" "[I", Cond.methodLink RX2 25 yJ7_fill_53178, Cond.static yJ7_fill_53178, Cond.initialized RJ7, Cond.code yJ7_fill_53178 cJ7_fill_53178 4 none, Cond.methodLink RX2 31 yX2_completes, Cond.instanceMethod yX2_completes, Cond.selects RX2 yX2_completes yX2_completes, Cond.code yX2_completes cX2_completes 10 (some .boolean), Cond.methodLink RX2 67 yX2_holding, Cond.instanceMethod yX2_holding, Cond.selects RX2 yX2_holding yX2_holding]
def wsX4_follows_r4 : List Cond := [Cond.code yX2_holding cX2_holding 7 (some .int), Cond.methodLink RX2 74 yX0_sizeOf, Cond.instanceMethod yX0_sizeOf, Cond.selects RX0 yX0_sizeOf yX0_sizeOf, Cond.code yX0_sizeOf cX0_sizeOf 2 (some .int), Cond.methodLink RX2 78 yX0_at, Cond.instanceMethod yX0_at, Cond.selects RX0 yX0_at yX0_at, Cond.code yX0_at cX0_at 3 (some .int), Cond.methodLink RX2 81 yX2_rightness, Cond.instanceMethod yX2_rightness, Cond.selects RX2 yX2_rightness yX2_rightness, Cond.code yX2_rightness cX2_rightness 8 (some .int), Cond.methodLink RX2 85 yX1_left, Cond.static yX1_left, Cond.code yX1_left cX1_left 1 (some .int), Cond.methodLink RX2 90 yX1_right, Cond.static yX1_right, Cond.code yX1_right cX1_right 1 (some .int), Cond.methodLink RX2 93 yX2_width, Cond.static yX2_width, Cond.code yX2_width cX2_width 1 (some .int), Cond.methodLink RX2 96 yX2_partLikeness, Cond.instanceMethod yX2_partLikeness]
def wsX4_follows_r5 : List Cond := [Cond.selects RX2 yX2_partLikeness yX2_partLikeness, Cond.code yX2_partLikeness cX2_partLikeness 4 (some .int), Cond.methodLink RX2 100 yX1_saysSame, Cond.static yX1_saysSame, Cond.code yX1_saysSame cX1_saysSame 1 (some .boolean), Cond.methodLink RX2 71 yX2_openSpot, Cond.instanceMethod yX2_openSpot, Cond.selects RX2 yX2_openSpot yX2_openSpot, Cond.code yX2_openSpot cX2_openSpot 6 (some .int), Cond.methodLink RX2 104 yX2_openSpotOf, Cond.instanceMethod yX2_openSpotOf, Cond.selects RX2 yX2_openSpotOf yX2_openSpotOf, Cond.code yX2_openSpotOf cX2_openSpotOf 8 (some .int)]
def wsX4_apart_r1 : List Cond := [Cond.classLink RX4 68 "java/lang/IllegalStateException", Cond.initialized "java/lang/IllegalStateException", Cond.fieldLink RX4 21 "ArrayClaims" "made" "LArrayClaims$ClaimList;", Cond.fieldLink RX4 39 "ArrayClaims" "search" "LArrayClaims$ReadingSearch;", Cond.fieldLink RX4 12 "ArrayClaims" "known" "LArrayClaims$TermTable;", Cond.fieldLink RX4 33 "ArrayClaims" "asked" "LArrayClaims$ClaimList;", Cond.methodLink RX4 88 yX4_askClaims, Cond.instanceMethod yX4_askClaims, Cond.selects RX4 yX4_askClaims yX4_askClaims, Cond.initialized RX4, Cond.code yX4_askClaims cX4_askClaims 4 none, Cond.methodLink RX4 85 yX0_cutTo, Cond.instanceMethod yX0_cutTo, Cond.selects RX0 yX0_cutTo yX0_cutTo, Cond.initialized RX0, Cond.code yX0_cutTo cX0_cutTo 2 none, Cond.fieldLink RX0 18 "ArrayClaims$ClaimList" "count" "I", Cond.methodLink RX4 110 yX0_addFrom, Cond.instanceMethod yX0_addFrom, Cond.selects RX0 yX0_addFrom yX0_addFrom, Cond.code yX0_addFrom cX0_addFrom 3 none, Cond.fieldLink RX0 9 "ArrayClaims$ClaimList" "literals" "[I", Cond.fieldLink RX0 15 "ArrayClaims$ClaimList" "sizes" "[I", Cond.methodLink RX0 22 yX0_add]
def wsX4_apart_r2 : List Cond := [Cond.instanceMethod yX0_add, Cond.selects RX0 yX0_add yX0_add, Cond.code yX0_add cX0_add 5 none, Cond.methodLink RX4 101 yX2_finds, Cond.instanceMethod yX2_finds, Cond.selects RX2 yX2_finds yX2_finds, Cond.initialized RX2, Cond.code yX2_finds cX2_finds 6 (some .boolean), Cond.fieldLink RX2 18 "ArrayClaims$ReadingSearch" "DIFFERENT" "[I", Cond.fieldLink RX2 15 "ArrayClaims$ReadingSearch" "chosen" "[I", Cond.methodLink RX2 21 yX2_spellOut, Cond.instanceMethod yX2_spellOut, Cond.selects RX2 yX2_spellOut yX2_spellOut, Cond.code yX2_spellOut cX2_spellOut 9 none, Cond.fieldLink RX2 11 "ArrayClaims$ReadingSearch" "parts" "[I", Cond.methodLink RX2 38 yX2_spellOutNames, Cond.instanceMethod yX2_spellOutNames, Cond.selects RX2 yX2_spellOutNames yX2_spellOutNames, Cond.code yX2_spellOutNames cX2_spellOutNames 6 none, Cond.methodLink RX2 54 yX2_lowest, Cond.static yX2_lowest, Cond.code yX2_lowest cX2_lowest 2 (some .int), Cond.fieldLink RX2 35 "ArrayClaims$ReadingSearch" "LOWEST" "[I", Cond.methodLink RX2 25 yJ7_fill_53178]
def wsX4_apart_r3 : List Cond := [Cond.static yJ7_fill_53178, Cond.initialized RJ7, Cond.code yJ7_fill_53178 cJ7_fill_53178 4 none, Cond.methodLink RX2 31 yX2_completes, Cond.instanceMethod yX2_completes, Cond.selects RX2 yX2_completes yX2_completes, Cond.code yX2_completes cX2_completes 10 (some .boolean), Cond.methodLink RX2 67 yX2_holding, Cond.instanceMethod yX2_holding, Cond.selects RX2 yX2_holding yX2_holding, Cond.code yX2_holding cX2_holding 7 (some .int), Cond.methodLink RX2 74 yX0_sizeOf, Cond.instanceMethod yX0_sizeOf, Cond.selects RX0 yX0_sizeOf yX0_sizeOf, Cond.code yX0_sizeOf cX0_sizeOf 2 (some .int), Cond.methodLink RX2 78 yX0_at, Cond.instanceMethod yX0_at, Cond.selects RX0 yX0_at yX0_at, Cond.code yX0_at cX0_at 3 (some .int), Cond.methodLink RX2 81 yX2_rightness, Cond.instanceMethod yX2_rightness, Cond.selects RX2 yX2_rightness yX2_rightness, Cond.code yX2_rightness cX2_rightness 8 (some .int), Cond.methodLink RX2 85 yX1_left]
def wsX4_apart_r4 : List Cond := [Cond.static yX1_left, Cond.initialized RX1, Cond.code yX1_left cX1_left 1 (some .int), Cond.methodLink RX2 90 yX1_right, Cond.static yX1_right, Cond.code yX1_right cX1_right 1 (some .int), Cond.methodLink RX2 93 yX2_width, Cond.static yX2_width, Cond.code yX2_width cX2_width 1 (some .int), Cond.methodLink RX2 96 yX2_partLikeness, Cond.instanceMethod yX2_partLikeness, Cond.selects RX2 yX2_partLikeness yX2_partLikeness, Cond.code yX2_partLikeness cX2_partLikeness 4 (some .int), Cond.methodLink RX2 100 yX1_saysSame, Cond.static yX1_saysSame, Cond.code yX1_saysSame cX1_saysSame 1 (some .boolean), Cond.methodLink RX2 71 yX2_openSpot, Cond.instanceMethod yX2_openSpot, Cond.selects RX2 yX2_openSpot yX2_openSpot, Cond.code yX2_openSpot cX2_openSpot 6 (some .int), Cond.methodLink RX2 104 yX2_openSpotOf, Cond.instanceMethod yX2_openSpotOf, Cond.selects RX2 yX2_openSpotOf yX2_openSpotOf, Cond.code yX2_openSpotOf cX2_openSpotOf 8 (some .int)]
def wsX5_label : List Cond := .code yX5_label cX5_label 2 (some .int) :: ([])
def wsX5_greatest : List Cond := .code yX5_greatest cX5_greatest 4 (some .int) :: ([.methodLink RX5 74 yX5_label, .static yX5_label, .initialized RX5, .code yX5_label cX5_label 2 (some .int)])
def wsX5_nextWay : List Cond := .code yX5_nextWay cX5_nextWay 3 (some .int) :: ([.methodLink RX5 74 yX5_label, .static yX5_label, .initialized RX5, .code yX5_label cX5_label 2 (some .int), .methodLink RX5 77 yX5_greatest, .static yX5_greatest, .code yX5_greatest cX5_greatest 4 (some .int)])
def wsX5_findWays : List Cond := .code yX5_findWays cX5_findWays 6 none :: ([.fieldLink RX5 38 "ArrayClaimsModel" "ways" "[I", .methodLink RX5 70 yX5_nextWay, .static yX5_nextWay, .initialized RX5, .code yX5_nextWay cX5_nextWay 3 (some .int), .methodLink RX5 74 yX5_label, .static yX5_label, .code yX5_label cX5_label 2 (some .int), .methodLink RX5 77 yX5_greatest, .static yX5_greatest, .code yX5_greatest cX5_greatest 4 (some .int)] ++ wsX50)
def wsX5_init_r1 : List Cond := [Cond.methodLink RX5 1 objectInit, Cond.instanceMethod objectInit, Cond.code objectInit ⟨#[0xb1]⟩ 1 none, Cond.fieldLink RX5 7 "ArrayClaimsModel" "terms" "I", Cond.arrayClass .int, Cond.fieldLink RX5 13 "ArrayClaimsModel" "sort" "[I", Cond.fieldLink RX5 17 "ArrayClaimsModel" "kind" "[I", Cond.fieldLink RX5 20 "ArrayClaimsModel" "first" "[I", Cond.fieldLink RX5 23 "ArrayClaimsModel" "second" "[I", Cond.fieldLink RX5 26 "ArrayClaimsModel" "third" "[I", Cond.fieldLink RX5 29 "ArrayClaimsModel" "classOf" "[I", Cond.fieldLink RX5 32 "ArrayClaimsModel" "classes" "[I", Cond.fieldLink RX5 35 "ArrayClaimsModel" "code" "[I", Cond.fieldLink RX5 38 "ArrayClaimsModel" "ways" "[I", Cond.fieldLink RX5 41 "ArrayClaimsModel" "waysFrom" "[I", Cond.fieldLink RX5 44 "ArrayClaimsModel" "howMany" "[I", Cond.fieldLink RX5 47 "ArrayClaimsModel" "holds" "[I", Cond.fieldLink RX5 50 "ArrayClaimsModel" "from" "[I", Cond.fieldLink RX5 53 "ArrayClaimsModel" "left" "[I", Cond.fieldLink RX5 56 "ArrayClaimsModel" "right" "[I", Cond.arrayClass .boolean, Cond.fieldLink RX5 59 "ArrayClaimsModel" "alike" "[Z", Cond.methodLink RX5 63 yX5_findWays, Cond.instanceMethod yX5_findWays]
def wsX5_init_r2 : List Cond := [Cond.selects RX5 yX5_findWays yX5_findWays, Cond.initialized RX5, Cond.code yX5_findWays cX5_findWays 6 none, Cond.methodLink RX5 70 yX5_nextWay, Cond.static yX5_nextWay, Cond.code yX5_nextWay cX5_nextWay 3 (some .int), Cond.methodLink RX5 74 yX5_label, Cond.static yX5_label, Cond.code yX5_label cX5_label 2 (some .int), Cond.methodLink RX5 77 yX5_greatest, Cond.static yX5_greatest, Cond.code yX5_greatest cX5_greatest 4 (some .int)]
def wsX5_init : List Cond := .code yX5_init cX5_init 5 none :: ((wsX5_init_r1 ++ wsX5_init_r2) ++ wsX50)
def wsX5_thrown : List Cond := .code yX5_thrown cX5_thrown 1 (some .int) :: ([.fieldLink RX5 67 "ArrayClaimsModel" "thrown" "I"] ++ wsX50)
def wsX5_fail : List Cond := .code yX5_fail cX5_fail 2 (some .int) :: ([.fieldLink RX5 67 "ArrayClaimsModel" "thrown" "I"] ++ wsX50)
def wsX5_isTerm : List Cond := .code yX5_isTerm cX5_isTerm 2 (some .boolean) :: ([.fieldLink RX5 7 "ArrayClaimsModel" "terms" "I"] ++ wsX50)
def wsX5_part : List Cond := .code yX5_part cX5_part 2 (some .int) :: ([])
def wsX5_found : List Cond := .code yX5_found cX5_found 6 (some .int) :: ([.fieldLink RX5 7 "ArrayClaimsModel" "terms" "I", .fieldLink RX5 17 "ArrayClaimsModel" "kind" "[I", .fieldLink RX5 20 "ArrayClaimsModel" "first" "[I", .fieldLink RX5 23 "ArrayClaimsModel" "second" "[I", .fieldLink RX5 26 "ArrayClaimsModel" "third" "[I"] ++ wsX50)
def wsX5_make : List Cond := .code yX5_make cX5_make 10 (some .int) :: ([.fieldLink RX5 7 "ArrayClaimsModel" "terms" "I", .fieldLink RX5 17 "ArrayClaimsModel" "kind" "[I", .fieldLink RX5 20 "ArrayClaimsModel" "first" "[I", .fieldLink RX5 23 "ArrayClaimsModel" "second" "[I", .fieldLink RX5 26 "ArrayClaimsModel" "third" "[I", .fieldLink RX5 13 "ArrayClaimsModel" "sort" "[I", .fieldLink RX5 35 "ArrayClaimsModel" "code" "[I", .methodLink RX5 80 yX5_found, .instanceMethod yX5_found, .selects RX5 yX5_found yX5_found, .initialized RX5, .code yX5_found cX5_found 6 (some .int), .methodLink RX5 84 yX5_fail, .instanceMethod yX5_fail, .selects RX5 yX5_fail yX5_fail, .code yX5_fail cX5_fail 2 (some .int), .fieldLink RX5 67 "ArrayClaimsModel" "thrown" "I", .methodLink RX5 88 yX5_part, .static yX5_part, .code yX5_part cX5_part 2 (some .int)] ++ wsX50)
def wsX5_select_r1 : List Cond := [Cond.fieldLink RX5 13 "ArrayClaimsModel" "sort" "[I", Cond.fieldLink RX5 67 "ArrayClaimsModel" "thrown" "I", Cond.methodLink RX5 91 yX5_isTerm, Cond.instanceMethod yX5_isTerm, Cond.selects RX5 yX5_isTerm yX5_isTerm, Cond.initialized RX5, Cond.code yX5_isTerm cX5_isTerm 2 (some .boolean), Cond.fieldLink RX5 7 "ArrayClaimsModel" "terms" "I", Cond.methodLink RX5 95 yX5_make, Cond.instanceMethod yX5_make, Cond.selects RX5 yX5_make yX5_make, Cond.code yX5_make cX5_make 10 (some .int), Cond.fieldLink RX5 17 "ArrayClaimsModel" "kind" "[I", Cond.fieldLink RX5 20 "ArrayClaimsModel" "first" "[I", Cond.fieldLink RX5 23 "ArrayClaimsModel" "second" "[I", Cond.fieldLink RX5 26 "ArrayClaimsModel" "third" "[I", Cond.fieldLink RX5 35 "ArrayClaimsModel" "code" "[I", Cond.methodLink RX5 80 yX5_found, Cond.instanceMethod yX5_found, Cond.selects RX5 yX5_found yX5_found, Cond.code yX5_found cX5_found 6 (some .int), Cond.methodLink RX5 84 yX5_fail, Cond.instanceMethod yX5_fail, Cond.selects RX5 yX5_fail yX5_fail]
def wsX5_select_r2 : List Cond := [Cond.code yX5_fail cX5_fail 2 (some .int), Cond.methodLink RX5 88 yX5_part, Cond.static yX5_part, Cond.code yX5_part cX5_part 2 (some .int)]
def wsX5_select : List Cond := .code yX5_select cX5_select 3 (some .int) :: ((wsX5_select_r1 ++ wsX5_select_r2) ++ wsX50)
def wsX5_store_r1 : List Cond := [Cond.fieldLink RX5 13 "ArrayClaimsModel" "sort" "[I", Cond.fieldLink RX5 67 "ArrayClaimsModel" "thrown" "I", Cond.methodLink RX5 91 yX5_isTerm, Cond.instanceMethod yX5_isTerm, Cond.selects RX5 yX5_isTerm yX5_isTerm, Cond.initialized RX5, Cond.code yX5_isTerm cX5_isTerm 2 (some .boolean), Cond.fieldLink RX5 7 "ArrayClaimsModel" "terms" "I", Cond.methodLink RX5 95 yX5_make, Cond.instanceMethod yX5_make, Cond.selects RX5 yX5_make yX5_make, Cond.code yX5_make cX5_make 10 (some .int), Cond.fieldLink RX5 17 "ArrayClaimsModel" "kind" "[I", Cond.fieldLink RX5 20 "ArrayClaimsModel" "first" "[I", Cond.fieldLink RX5 23 "ArrayClaimsModel" "second" "[I", Cond.fieldLink RX5 26 "ArrayClaimsModel" "third" "[I", Cond.fieldLink RX5 35 "ArrayClaimsModel" "code" "[I", Cond.methodLink RX5 80 yX5_found, Cond.instanceMethod yX5_found, Cond.selects RX5 yX5_found yX5_found, Cond.code yX5_found cX5_found 6 (some .int), Cond.methodLink RX5 84 yX5_fail, Cond.instanceMethod yX5_fail, Cond.selects RX5 yX5_fail yX5_fail]
def wsX5_store_r2 : List Cond := [Cond.code yX5_fail cX5_fail 2 (some .int), Cond.methodLink RX5 88 yX5_part, Cond.static yX5_part, Cond.code yX5_part cX5_part 2 (some .int)]
def wsX5_store : List Cond := .code yX5_store cX5_store 4 (some .int) :: ((wsX5_store_r1 ++ wsX5_store_r2) ++ wsX50)
def wsX5_terms : List Cond := .code yX5_terms cX5_terms 1 (some .int) :: ([.fieldLink RX5 67 "ArrayClaimsModel" "thrown" "I", .fieldLink RX5 7 "ArrayClaimsModel" "terms" "I"] ++ wsX50)
def wsX5_sort : List Cond := .code yX5_sort cX5_sort 2 (some .int) :: ([.fieldLink RX5 67 "ArrayClaimsModel" "thrown" "I", .fieldLink RX5 13 "ArrayClaimsModel" "sort" "[I", .methodLink RX5 91 yX5_isTerm, .instanceMethod yX5_isTerm, .selects RX5 yX5_isTerm yX5_isTerm, .initialized RX5, .code yX5_isTerm cX5_isTerm 2 (some .boolean), .fieldLink RX5 7 "ArrayClaimsModel" "terms" "I"] ++ wsX50)
def wsX5_areSame : List Cond := .code yX5_areSame cX5_areSame 10 (some .boolean) :: ([.fieldLink RX5 35 "ArrayClaimsModel" "code" "[I", .fieldLink RX5 13 "ArrayClaimsModel" "sort" "[I", .fieldLink RX5 32 "ArrayClaimsModel" "classes" "[I", .methodLink RX5 74 yX5_label, .static yX5_label, .initialized RX5, .code yX5_label cX5_label 2 (some .int), .methodLink RX5 88 yX5_part, .static yX5_part, .code yX5_part cX5_part 2 (some .int)] ++ wsX50)
def wsX5_sameIn : List Cond := .code yX5_sameIn cX5_sameIn 6 (some .boolean) :: ([.fieldLink RX5 50 "ArrayClaimsModel" "from" "[I", .fieldLink RX5 38 "ArrayClaimsModel" "ways" "[I", .fieldLink RX5 41 "ArrayClaimsModel" "waysFrom" "[I", .fieldLink RX5 32 "ArrayClaimsModel" "classes" "[I", .methodLink RX5 98 yX5_areSame, .instanceMethod yX5_areSame, .selects RX5 yX5_areSame yX5_areSame, .initialized RX5, .code yX5_areSame cX5_areSame 10 (some .boolean), .fieldLink RX5 35 "ArrayClaimsModel" "code" "[I", .fieldLink RX5 13 "ArrayClaimsModel" "sort" "[I", .methodLink RX5 74 yX5_label, .static yX5_label, .code yX5_label cX5_label 2 (some .int), .methodLink RX5 88 yX5_part, .static yX5_part, .code yX5_part cX5_part 2 (some .int)] ++ wsX50)
def wsX5_draftHolds_r1 : List Cond := [Cond.fieldLink RX5 102 "ArrayClaimsModel" "literals" "I", Cond.fieldLink RX5 53 "ArrayClaimsModel" "left" "[I", Cond.fieldLink RX5 56 "ArrayClaimsModel" "right" "[I", Cond.fieldLink RX5 59 "ArrayClaimsModel" "alike" "[Z", Cond.methodLink RX5 105 yX5_sameIn, Cond.instanceMethod yX5_sameIn, Cond.selects RX5 yX5_sameIn yX5_sameIn, Cond.initialized RX5, Cond.code yX5_sameIn cX5_sameIn 6 (some .boolean), Cond.fieldLink RX5 50 "ArrayClaimsModel" "from" "[I", Cond.fieldLink RX5 38 "ArrayClaimsModel" "ways" "[I", Cond.fieldLink RX5 41 "ArrayClaimsModel" "waysFrom" "[I", Cond.fieldLink RX5 32 "ArrayClaimsModel" "classes" "[I", Cond.methodLink RX5 98 yX5_areSame, Cond.instanceMethod yX5_areSame, Cond.selects RX5 yX5_areSame yX5_areSame, Cond.code yX5_areSame cX5_areSame 10 (some .boolean), Cond.fieldLink RX5 35 "ArrayClaimsModel" "code" "[I", Cond.fieldLink RX5 13 "ArrayClaimsModel" "sort" "[I", Cond.methodLink RX5 74 yX5_label, Cond.static yX5_label, Cond.code yX5_label cX5_label 2 (some .int), Cond.methodLink RX5 88 yX5_part, Cond.static yX5_part]
def wsX5_draftHolds_r2 : List Cond := [Cond.code yX5_part cX5_part 2 (some .int)]
def wsX5_draftHolds : List Cond := .code yX5_draftHolds cX5_draftHolds 5 (some .boolean) :: ((wsX5_draftHolds_r1 ++ wsX5_draftHolds_r2) ++ wsX50)
def wsX5_literal : List Cond := .code yX5_literal cX5_literal 4 (some .int) :: ([.fieldLink RX5 13 "ArrayClaimsModel" "sort" "[I", .fieldLink RX5 102 "ArrayClaimsModel" "literals" "I", .fieldLink RX5 67 "ArrayClaimsModel" "thrown" "I", .fieldLink RX5 53 "ArrayClaimsModel" "left" "[I", .fieldLink RX5 56 "ArrayClaimsModel" "right" "[I", .fieldLink RX5 59 "ArrayClaimsModel" "alike" "[Z", .methodLink RX5 91 yX5_isTerm, .instanceMethod yX5_isTerm, .selects RX5 yX5_isTerm yX5_isTerm, .initialized RX5, .code yX5_isTerm cX5_isTerm 2 (some .boolean), .fieldLink RX5 7 "ArrayClaimsModel" "terms" "I"] ++ wsX50)
def wsX5_draft : List Cond := .code yX5_draft cX5_draft 1 (some .int) :: ([.fieldLink RX5 67 "ArrayClaimsModel" "thrown" "I", .fieldLink RX5 102 "ArrayClaimsModel" "literals" "I"] ++ wsX50)
def wsX5_clear : List Cond := .code yX5_clear cX5_clear 1 none :: ([.fieldLink RX5 67 "ArrayClaimsModel" "thrown" "I", .fieldLink RX5 102 "ArrayClaimsModel" "literals" "I"] ++ wsX50)
def wsX5_claim_r1 : List Cond := [Cond.fieldLink RX5 102 "ArrayClaimsModel" "literals" "I", Cond.fieldLink RX5 109 "ArrayClaimsModel" "claims" "I", Cond.fieldLink RX5 67 "ArrayClaimsModel" "thrown" "I", Cond.fieldLink RX5 50 "ArrayClaimsModel" "from" "[I", Cond.fieldLink RX5 47 "ArrayClaimsModel" "holds" "[I", Cond.methodLink RX5 112 yX5_draftHolds, Cond.instanceMethod yX5_draftHolds, Cond.selects RX5 yX5_draftHolds yX5_draftHolds, Cond.initialized RX5, Cond.code yX5_draftHolds cX5_draftHolds 5 (some .boolean), Cond.fieldLink RX5 53 "ArrayClaimsModel" "left" "[I", Cond.fieldLink RX5 56 "ArrayClaimsModel" "right" "[I", Cond.fieldLink RX5 59 "ArrayClaimsModel" "alike" "[Z", Cond.methodLink RX5 105 yX5_sameIn, Cond.instanceMethod yX5_sameIn, Cond.selects RX5 yX5_sameIn yX5_sameIn, Cond.code yX5_sameIn cX5_sameIn 6 (some .boolean), Cond.fieldLink RX5 38 "ArrayClaimsModel" "ways" "[I", Cond.fieldLink RX5 41 "ArrayClaimsModel" "waysFrom" "[I", Cond.fieldLink RX5 32 "ArrayClaimsModel" "classes" "[I", Cond.methodLink RX5 98 yX5_areSame, Cond.instanceMethod yX5_areSame, Cond.selects RX5 yX5_areSame yX5_areSame, Cond.code yX5_areSame cX5_areSame 10 (some .boolean)]
def wsX5_claim_r2 : List Cond := [Cond.fieldLink RX5 35 "ArrayClaimsModel" "code" "[I", Cond.fieldLink RX5 13 "ArrayClaimsModel" "sort" "[I", Cond.methodLink RX5 74 yX5_label, Cond.static yX5_label, Cond.code yX5_label cX5_label 2 (some .int), Cond.methodLink RX5 88 yX5_part, Cond.static yX5_part, Cond.code yX5_part cX5_part 2 (some .int)]
def wsX5_claim : List Cond := .code yX5_claim cX5_claim 4 (some .int) :: ((wsX5_claim_r1 ++ wsX5_claim_r2) ++ wsX50)
def wsX5_keep : List Cond := .code yX5_keep cX5_keep 2 (some .boolean) :: ([.fieldLink RX5 67 "ArrayClaimsModel" "thrown" "I", .fieldLink RX5 109 "ArrayClaimsModel" "claims" "I"] ++ wsX50)
def wsX5_claims : List Cond := .code yX5_claims cX5_claims 1 (some .int) :: ([.fieldLink RX5 67 "ArrayClaimsModel" "thrown" "I", .fieldLink RX5 109 "ArrayClaimsModel" "claims" "I"] ++ wsX50)
def wsX5_canHold : List Cond := .code yX5_canHold cX5_canHold 3 (some .boolean) :: ([.fieldLink RX5 50 "ArrayClaimsModel" "from" "[I", .fieldLink RX5 47 "ArrayClaimsModel" "holds" "[I"] ++ wsX50)
def wsX5_all : List Cond := .code yX5_all cX5_all 1 (some .int) :: ([.fieldLink RX5 109 "ArrayClaimsModel" "claims" "I"] ++ wsX50)
def wsX5_can : List Cond := .code yX5_can cX5_can 1 (some .boolean) :: ([.fieldLink RX5 67 "ArrayClaimsModel" "thrown" "I", .methodLink RX5 116 yX5_all, .instanceMethod yX5_all, .selects RX5 yX5_all yX5_all, .initialized RX5, .code yX5_all cX5_all 1 (some .int), .fieldLink RX5 109 "ArrayClaimsModel" "claims" "I", .methodLink RX5 120 yX5_canHold, .instanceMethod yX5_canHold, .selects RX5 yX5_canHold yX5_canHold, .code yX5_canHold cX5_canHold 3 (some .boolean), .fieldLink RX5 50 "ArrayClaimsModel" "from" "[I", .fieldLink RX5 47 "ArrayClaimsModel" "holds" "[I"] ++ wsX50)
def wsX5_first : List Cond := .code yX5_first cX5_first 2 (some .int) :: ([.fieldLink RX5 67 "ArrayClaimsModel" "thrown" "I", .fieldLink RX5 109 "ArrayClaimsModel" "claims" "I", .methodLink RX5 120 yX5_canHold, .instanceMethod yX5_canHold, .selects RX5 yX5_canHold yX5_canHold, .initialized RX5, .code yX5_canHold cX5_canHold 3 (some .boolean), .fieldLink RX5 50 "ArrayClaimsModel" "from" "[I", .fieldLink RX5 47 "ArrayClaimsModel" "holds" "[I"] ++ wsX50)
def wsX5_without : List Cond := .code yX5_without cX5_without 2 (some .boolean) :: ([.fieldLink RX5 109 "ArrayClaimsModel" "claims" "I", .fieldLink RX5 67 "ArrayClaimsModel" "thrown" "I", .methodLink RX5 116 yX5_all, .instanceMethod yX5_all, .selects RX5 yX5_all yX5_all, .initialized RX5, .code yX5_all cX5_all 1 (some .int), .methodLink RX5 120 yX5_canHold, .instanceMethod yX5_canHold, .selects RX5 yX5_canHold yX5_canHold, .code yX5_canHold cX5_canHold 3 (some .boolean), .fieldLink RX5 50 "ArrayClaimsModel" "from" "[I", .fieldLink RX5 47 "ArrayClaimsModel" "holds" "[I"] ++ wsX50)
def wsX5_same_r1 : List Cond := [Cond.fieldLink RX5 13 "ArrayClaimsModel" "sort" "[I", Cond.fieldLink RX5 67 "ArrayClaimsModel" "thrown" "I", Cond.fieldLink RX5 50 "ArrayClaimsModel" "from" "[I", Cond.fieldLink RX5 47 "ArrayClaimsModel" "holds" "[I", Cond.methodLink RX5 91 yX5_isTerm, Cond.instanceMethod yX5_isTerm, Cond.selects RX5 yX5_isTerm yX5_isTerm, Cond.initialized RX5, Cond.code yX5_isTerm cX5_isTerm 2 (some .boolean), Cond.fieldLink RX5 7 "ArrayClaimsModel" "terms" "I", Cond.methodLink RX5 116 yX5_all, Cond.instanceMethod yX5_all, Cond.selects RX5 yX5_all yX5_all, Cond.code yX5_all cX5_all 1 (some .int), Cond.fieldLink RX5 109 "ArrayClaimsModel" "claims" "I", Cond.methodLink RX5 120 yX5_canHold, Cond.instanceMethod yX5_canHold, Cond.selects RX5 yX5_canHold yX5_canHold, Cond.code yX5_canHold cX5_canHold 3 (some .boolean), Cond.methodLink RX5 105 yX5_sameIn, Cond.instanceMethod yX5_sameIn, Cond.selects RX5 yX5_sameIn yX5_sameIn, Cond.code yX5_sameIn cX5_sameIn 6 (some .boolean), Cond.fieldLink RX5 38 "ArrayClaimsModel" "ways" "[I"]
def wsX5_same_r2 : List Cond := [Cond.fieldLink RX5 41 "ArrayClaimsModel" "waysFrom" "[I", Cond.fieldLink RX5 32 "ArrayClaimsModel" "classes" "[I", Cond.methodLink RX5 98 yX5_areSame, Cond.instanceMethod yX5_areSame, Cond.selects RX5 yX5_areSame yX5_areSame, Cond.code yX5_areSame cX5_areSame 10 (some .boolean), Cond.fieldLink RX5 35 "ArrayClaimsModel" "code" "[I", Cond.methodLink RX5 74 yX5_label, Cond.static yX5_label, Cond.code yX5_label cX5_label 2 (some .int), Cond.methodLink RX5 88 yX5_part, Cond.static yX5_part, Cond.code yX5_part cX5_part 2 (some .int)]
def wsX5_same : List Cond := .code yX5_same cX5_same 9 (some .int) :: ((wsX5_same_r1 ++ wsX5_same_r2) ++ wsX50)
def wsX5_follows_r1 : List Cond := [Cond.fieldLink RX5 102 "ArrayClaimsModel" "literals" "I", Cond.fieldLink RX5 67 "ArrayClaimsModel" "thrown" "I", Cond.fieldLink RX5 50 "ArrayClaimsModel" "from" "[I", Cond.fieldLink RX5 47 "ArrayClaimsModel" "holds" "[I", Cond.methodLink RX5 116 yX5_all, Cond.instanceMethod yX5_all, Cond.selects RX5 yX5_all yX5_all, Cond.initialized RX5, Cond.code yX5_all cX5_all 1 (some .int), Cond.fieldLink RX5 109 "ArrayClaimsModel" "claims" "I", Cond.methodLink RX5 112 yX5_draftHolds, Cond.instanceMethod yX5_draftHolds, Cond.selects RX5 yX5_draftHolds yX5_draftHolds, Cond.code yX5_draftHolds cX5_draftHolds 5 (some .boolean), Cond.fieldLink RX5 53 "ArrayClaimsModel" "left" "[I", Cond.fieldLink RX5 56 "ArrayClaimsModel" "right" "[I", Cond.fieldLink RX5 59 "ArrayClaimsModel" "alike" "[Z", Cond.methodLink RX5 105 yX5_sameIn, Cond.instanceMethod yX5_sameIn, Cond.selects RX5 yX5_sameIn yX5_sameIn, Cond.code yX5_sameIn cX5_sameIn 6 (some .boolean), Cond.fieldLink RX5 38 "ArrayClaimsModel" "ways" "[I", Cond.fieldLink RX5 41 "ArrayClaimsModel" "waysFrom" "[I", Cond.fieldLink RX5 32 "ArrayClaimsModel" "classes" "[I"]
def wsX5_follows_r2 : List Cond := [Cond.methodLink RX5 98 yX5_areSame, Cond.instanceMethod yX5_areSame, Cond.selects RX5 yX5_areSame yX5_areSame, Cond.code yX5_areSame cX5_areSame 10 (some .boolean), Cond.fieldLink RX5 35 "ArrayClaimsModel" "code" "[I", Cond.fieldLink RX5 13 "ArrayClaimsModel" "sort" "[I", Cond.methodLink RX5 74 yX5_label, Cond.static yX5_label, Cond.code yX5_label cX5_label 2 (some .int), Cond.methodLink RX5 88 yX5_part, Cond.static yX5_part, Cond.code yX5_part cX5_part 2 (some .int)]
def wsX5_follows : List Cond := .code yX5_follows cX5_follows 5 (some .boolean) :: ((wsX5_follows_r1 ++ wsX5_follows_r2) ++ wsX50)
def wsX5_apart : List Cond := .code yX5_apart cX5_apart 7 (some .int) :: ([.fieldLink RX5 67 "ArrayClaimsModel" "thrown" "I", .fieldLink RX5 50 "ArrayClaimsModel" "from" "[I", .fieldLink RX5 47 "ArrayClaimsModel" "holds" "[I", .fieldLink RX5 32 "ArrayClaimsModel" "classes" "[I", .methodLink RX5 116 yX5_all, .instanceMethod yX5_all, .selects RX5 yX5_all yX5_all, .initialized RX5, .code yX5_all cX5_all 1 (some .int), .fieldLink RX5 109 "ArrayClaimsModel" "claims" "I", .methodLink RX5 120 yX5_canHold, .instanceMethod yX5_canHold, .selects RX5 yX5_canHold yX5_canHold, .code yX5_canHold cX5_canHold 3 (some .boolean)] ++ wsX50)
theorem inX1 : ∀ w ∈ wsX10, w ∈ lw_tbl := by decide +kernel
theorem inJ7 : ∀ w ∈ wsJ70, w ∈ lw_tbl := by decide +kernel
set_option maxRecDepth 20000 in
theorem ggX0_addFrom_X0_add : GoodIn wsX0_addFrom wsX0_add := goodIn_r _ [7, 8, 2, 1, 9, 10, 11] (by decide +kernel) (by decide +kernel)
set_option maxRecDepth 20000 in
theorem gX0_addFrom_X0_add : GoodIn wsX0_addFrom (wsV RX0 22 RX0 yX0_add wsX0_add) := goodIn_app (goodIn_of _ (by decide +kernel)) ggX0_addFrom_X0_add
set_option maxRecDepth 20000 in
theorem ggX2_finds_X2_spellOut : GoodIn wsX2_finds wsX2_spellOut := goodIn_r _ [7, 8, 9, 10, 11, 6, 12, 13, 14, 15, 16, 71, 72, 73, 74, 75, 69, 70] (by decide +kernel) (by decide +kernel)
set_option maxRecDepth 20000 in
theorem gX2_finds_X2_spellOut : GoodIn wsX2_finds (wsV RX2 21 RX2 yX2_spellOut wsX2_spellOut) := goodIn_app (goodIn_of _ (by decide +kernel)) ggX2_finds_X2_spellOut
set_option maxRecDepth 20000 in
theorem ggX2_finds_J7_fill_53178 : GoodIn wsX2_finds wsJ7_fill_53178 := goodIn_r _ [20] (by decide +kernel) (by decide +kernel)
set_option maxRecDepth 20000 in
theorem gX2_finds_J7_fill_53178 : GoodIn wsX2_finds (va_wsS RX2 25 yJ7_fill_53178 wsJ7_fill_53178) := goodIn_app (goodIn_of _ (by decide +kernel)) ggX2_finds_J7_fill_53178
set_option maxRecDepth 20000 in
theorem ggX2_finds_X2_completes : GoodIn wsX2_finds wsX2_completes := goodIn_r _ [24, 2, 25, 26, 27, 6, 28, 29, 30, 31, 32, 33, 34, 35, 36, 37, 38, 39, 40, 41, 42, 43, 8, 44, 45, 46, 47, 48, 49, 50, 51, 52, 53, 54, 55, 56, 57, 58, 59, 60, 61, 62, 63, 64, 65, 66, 67, 68, 21, 22, 23, 76, 77, 78, 69, 70, 71, 72, 73, 74, 75] (by decide +kernel) (by decide +kernel)
set_option maxRecDepth 20000 in
theorem gX2_finds_X2_completes : GoodIn wsX2_finds (wsV RX2 31 RX2 yX2_completes wsX2_completes) := goodIn_app (goodIn_of _ (by decide +kernel)) ggX2_finds_X2_completes
set_option maxRecDepth 20000 in
theorem ggX2_spellOut_X2_spellOutNames : GoodIn wsX2_spellOut wsX2_spellOutNames := goodIn_r _ [6, 1, 7, 8, 5, 9, 10, 16, 17] (by decide +kernel) (by decide +kernel)
set_option maxRecDepth 20000 in
theorem gX2_spellOut_X2_spellOutNames : GoodIn wsX2_spellOut (wsV RX2 38 RX2 yX2_spellOutNames wsX2_spellOutNames) := goodIn_app (goodIn_of _ (by decide +kernel)) ggX2_spellOut_X2_spellOutNames
set_option maxRecDepth 20000 in
theorem ggX2_spellOut_X2_lowest : GoodIn wsX2_spellOut wsX2_lowest := goodIn_r _ [9, 10] (by decide +kernel) (by decide +kernel)
set_option maxRecDepth 20000 in
theorem gX2_spellOut_X2_lowest : GoodIn wsX2_spellOut (va_wsS RX2 54 yX2_lowest wsX2_lowest) := goodIn_app (goodIn_of _ (by decide +kernel)) ggX2_spellOut_X2_lowest
set_option maxRecDepth 20000 in
theorem ggX2_spellOutNames_X2_lowest : GoodIn wsX2_spellOutNames wsX2_lowest := goodIn_r _ [5, 6] (by decide +kernel) (by decide +kernel)
set_option maxRecDepth 20000 in
theorem gX2_spellOutNames_X2_lowest : GoodIn wsX2_spellOutNames (va_wsS RX2 54 yX2_lowest wsX2_lowest) := goodIn_app (goodIn_of _ (by decide +kernel)) ggX2_spellOutNames_X2_lowest
set_option maxRecDepth 20000 in
theorem ggX2_completes_X2_holding : GoodIn wsX2_completes wsX2_holding := goodIn_r _ [6, 7, 8, 9, 10, 11, 12, 13, 14, 15, 16, 17, 18, 19, 20, 5, 21, 22, 23, 24, 25, 26, 27, 28, 29, 30, 31, 32, 33, 34, 35, 36, 1, 37, 38, 39, 51, 52, 53, 56, 57, 58, 59, 60, 54, 55] (by decide +kernel) (by decide +kernel)
set_option maxRecDepth 20000 in
theorem gX2_completes_X2_holding : GoodIn wsX2_completes (wsV RX2 67 RX2 yX2_holding wsX2_holding) := goodIn_app (goodIn_of _ (by decide +kernel)) ggX2_completes_X2_holding
set_option maxRecDepth 20000 in
theorem ggX2_completes_X2_openSpot : GoodIn wsX2_completes wsX2_openSpot := goodIn_r _ [43, 7, 8, 9, 10, 11, 12, 13, 14, 15, 16, 17, 18, 19, 20, 5, 21, 22, 23, 24, 25, 26, 27, 28, 29, 30, 31, 32, 33, 34, 35, 36, 1, 37, 38, 39, 44, 45, 46, 47, 51, 52, 53, 56, 57, 58, 59, 60, 54, 55] (by decide +kernel) (by decide +kernel)
set_option maxRecDepth 20000 in
theorem gX2_completes_X2_openSpot : GoodIn wsX2_completes (wsV RX2 71 RX2 yX2_openSpot wsX2_openSpot) := goodIn_app (goodIn_of _ (by decide +kernel)) ggX2_completes_X2_openSpot
set_option maxRecDepth 20000 in
theorem ggX2_completes_X2_completes : GoodIn wsX2_completes wsX2_completes := goodIn_r _ [0, 1, 2, 3, 4, 5, 6, 7, 8, 9, 10, 11, 12, 13, 14, 15, 16, 17, 18, 19, 20, 21, 22, 23, 24, 25, 26, 27, 28, 29, 30, 31, 32, 33, 34, 35, 36, 37, 38, 39, 40, 41, 42, 43, 44, 45, 46, 47, 48, 49, 50, 51, 52, 53, 54, 55, 56, 57, 58, 59, 60] (by decide +kernel) (by decide +kernel)
set_option maxRecDepth 20000 in
theorem gX2_completes_X2_completes : GoodIn wsX2_completes (wsV RX2 31 RX2 yX2_completes wsX2_completes) := goodIn_app (goodIn_of _ (by decide +kernel)) ggX2_completes_X2_completes
set_option maxRecDepth 20000 in
theorem ggX2_holding_X0_sizeOf : GoodIn wsX2_holding wsX0_sizeOf := goodIn_r _ [5, 6, 36, 37, 38] (by decide +kernel) (by decide +kernel)
set_option maxRecDepth 20000 in
theorem gX2_holding_X0_sizeOf : GoodIn wsX2_holding (wsV RX2 74 RX0 yX0_sizeOf wsX0_sizeOf) := goodIn_app (goodIn_of _ (by decide +kernel)) ggX2_holding_X0_sizeOf
set_option maxRecDepth 20000 in
theorem ggX2_holding_X0_at : GoodIn wsX2_holding wsX0_at := goodIn_r _ [10, 11, 36, 37, 38] (by decide +kernel) (by decide +kernel)
set_option maxRecDepth 20000 in
theorem gX2_holding_X0_at : GoodIn wsX2_holding (wsV RX2 78 RX0 yX0_at wsX0_at) := goodIn_app (goodIn_of _ (by decide +kernel)) ggX2_holding_X0_at
set_option maxRecDepth 20000 in
theorem ggX2_holding_X2_rightness : GoodIn wsX2_holding wsX2_rightness := goodIn_r _ [16, 17, 18, 19, 20, 21, 22, 23, 24, 25, 26, 15, 27, 28, 29, 30, 31, 32, 33, 34, 35, 39, 40, 41, 42, 43, 44, 45] (by decide +kernel) (by decide +kernel)
set_option maxRecDepth 20000 in
theorem gX2_holding_X2_rightness : GoodIn wsX2_holding (wsV RX2 81 RX2 yX2_rightness wsX2_rightness) := goodIn_app (goodIn_of _ (by decide +kernel)) ggX2_holding_X2_rightness
set_option maxRecDepth 20000 in
theorem ggX2_rightness_X1_left : GoodIn wsX2_rightness wsX1_left := goodIn_r _ [5] (by decide +kernel) (by decide +kernel)
set_option maxRecDepth 20000 in
theorem gX2_rightness_X1_left : GoodIn wsX2_rightness (va_wsS RX2 85 yX1_left wsX1_left) := goodIn_app (goodIn_of _ (by decide +kernel)) ggX2_rightness_X1_left
set_option maxRecDepth 20000 in
theorem ggX2_rightness_X1_right : GoodIn wsX2_rightness wsX1_right := goodIn_r _ [8] (by decide +kernel) (by decide +kernel)
set_option maxRecDepth 20000 in
theorem gX2_rightness_X1_right : GoodIn wsX2_rightness (va_wsS RX2 90 yX1_right wsX1_right) := goodIn_app (goodIn_of _ (by decide +kernel)) ggX2_rightness_X1_right
set_option maxRecDepth 20000 in
theorem ggX2_rightness_X2_width : GoodIn wsX2_rightness wsX2_width := goodIn_r _ [12] (by decide +kernel) (by decide +kernel)
set_option maxRecDepth 20000 in
theorem gX2_rightness_X2_width : GoodIn wsX2_rightness (va_wsS RX2 93 yX2_width wsX2_width) := goodIn_app (goodIn_of _ (by decide +kernel)) ggX2_rightness_X2_width
set_option maxRecDepth 20000 in
theorem ggX2_rightness_X2_partLikeness : GoodIn wsX2_rightness wsX2_partLikeness := goodIn_r _ [16, 17, 26, 27] (by decide +kernel) (by decide +kernel)
set_option maxRecDepth 20000 in
theorem gX2_rightness_X2_partLikeness : GoodIn wsX2_rightness (wsV RX2 96 RX2 yX2_partLikeness wsX2_partLikeness) := goodIn_app (goodIn_of _ (by decide +kernel)) ggX2_rightness_X2_partLikeness
set_option maxRecDepth 20000 in
theorem ggX2_rightness_X1_saysSame : GoodIn wsX2_rightness wsX1_saysSame := goodIn_r _ [20] (by decide +kernel) (by decide +kernel)
set_option maxRecDepth 20000 in
theorem gX2_rightness_X1_saysSame : GoodIn wsX2_rightness (va_wsS RX2 100 yX1_saysSame wsX1_saysSame) := goodIn_app (goodIn_of _ (by decide +kernel)) ggX2_rightness_X1_saysSame
set_option maxRecDepth 20000 in
theorem ggX2_openSpot_X0_sizeOf : GoodIn wsX2_openSpot wsX0_sizeOf := goodIn_r _ [5, 6, 40, 41, 42] (by decide +kernel) (by decide +kernel)
set_option maxRecDepth 20000 in
theorem gX2_openSpot_X0_sizeOf : GoodIn wsX2_openSpot (wsV RX2 74 RX0 yX0_sizeOf wsX0_sizeOf) := goodIn_app (goodIn_of _ (by decide +kernel)) ggX2_openSpot_X0_sizeOf
set_option maxRecDepth 20000 in
theorem ggX2_openSpot_X0_at : GoodIn wsX2_openSpot wsX0_at := goodIn_r _ [10, 11, 40, 41, 42] (by decide +kernel) (by decide +kernel)
set_option maxRecDepth 20000 in
theorem gX2_openSpot_X0_at : GoodIn wsX2_openSpot (wsV RX2 78 RX0 yX0_at wsX0_at) := goodIn_app (goodIn_of _ (by decide +kernel)) ggX2_openSpot_X0_at
set_option maxRecDepth 20000 in
theorem ggX2_openSpot_X2_rightness : GoodIn wsX2_openSpot wsX2_rightness := goodIn_r _ [16, 17, 18, 19, 20, 21, 22, 23, 24, 25, 26, 15, 27, 28, 29, 30, 31, 32, 33, 34, 35, 43, 44, 45, 46, 47, 48, 49] (by decide +kernel) (by decide +kernel)
set_option maxRecDepth 20000 in
theorem gX2_openSpot_X2_rightness : GoodIn wsX2_openSpot (wsV RX2 81 RX2 yX2_rightness wsX2_rightness) := goodIn_app (goodIn_of _ (by decide +kernel)) ggX2_openSpot_X2_rightness
set_option maxRecDepth 20000 in
theorem ggX2_openSpot_X1_left : GoodIn wsX2_openSpot wsX1_left := goodIn_r _ [21] (by decide +kernel) (by decide +kernel)
set_option maxRecDepth 20000 in
theorem gX2_openSpot_X1_left : GoodIn wsX2_openSpot (va_wsS RX2 85 yX1_left wsX1_left) := goodIn_app (goodIn_of _ (by decide +kernel)) ggX2_openSpot_X1_left
set_option maxRecDepth 20000 in
theorem ggX2_openSpot_X1_right : GoodIn wsX2_openSpot wsX1_right := goodIn_r _ [24] (by decide +kernel) (by decide +kernel)
set_option maxRecDepth 20000 in
theorem gX2_openSpot_X1_right : GoodIn wsX2_openSpot (va_wsS RX2 90 yX1_right wsX1_right) := goodIn_app (goodIn_of _ (by decide +kernel)) ggX2_openSpot_X1_right
set_option maxRecDepth 20000 in
theorem ggX2_openSpot_X2_openSpotOf : GoodIn wsX2_openSpot wsX2_openSpotOf := goodIn_r _ [39, 17, 32, 25, 26, 15, 27, 28, 29, 30, 31, 43, 44, 45, 46, 47, 48, 49] (by decide +kernel) (by decide +kernel)
set_option maxRecDepth 20000 in
theorem gX2_openSpot_X2_openSpotOf : GoodIn wsX2_openSpot (wsV RX2 104 RX2 yX2_openSpotOf wsX2_openSpotOf) := goodIn_app (goodIn_of _ (by decide +kernel)) ggX2_openSpot_X2_openSpotOf
set_option maxRecDepth 20000 in
theorem ggX2_openSpotOf_X2_width : GoodIn wsX2_openSpotOf wsX2_width := goodIn_r _ [6] (by decide +kernel) (by decide +kernel)
set_option maxRecDepth 20000 in
theorem gX2_openSpotOf_X2_width : GoodIn wsX2_openSpotOf (va_wsS RX2 93 yX2_width wsX2_width) := goodIn_app (goodIn_of _ (by decide +kernel)) ggX2_openSpotOf_X2_width
set_option maxRecDepth 20000 in
theorem ggX2_openSpotOf_X2_partLikeness : GoodIn wsX2_openSpotOf wsX2_partLikeness := goodIn_r _ [10, 2, 16, 17] (by decide +kernel) (by decide +kernel)
set_option maxRecDepth 20000 in
theorem gX2_openSpotOf_X2_partLikeness : GoodIn wsX2_openSpotOf (wsV RX2 96 RX2 yX2_partLikeness wsX2_partLikeness) := goodIn_app (goodIn_of _ (by decide +kernel)) ggX2_openSpotOf_X2_partLikeness
set_option maxRecDepth 20000 in
theorem ggX3_sortOf_X3_has : GoodIn wsX3_sortOf wsX3_has := goodIn_r _ [6, 7, 8, 9, 10, 11, 12] (by decide +kernel) (by decide +kernel)
set_option maxRecDepth 20000 in
theorem gX3_sortOf_X3_has : GoodIn wsX3_sortOf (wsV RX3 28 RX3 yX3_has wsX3_has) := goodIn_app (goodIn_of _ (by decide +kernel)) ggX3_sortOf_X3_has
set_option maxRecDepth 20000 in
theorem ggX4_init_X3_init : GoodIn wsX4_init wsX3_init := goodIn_r _ [22, 23, 2, 3, 12, 24, 25, 26, 27, 28, 41, 42, 43, 44, 45] (by decide +kernel) (by decide +kernel)
set_option maxRecDepth 20000 in
theorem gX4_init_X3_init : GoodIn wsX4_init (wsX3_init) := ggX4_init_X3_init
set_option maxRecDepth 20000 in
theorem ggX4_init_X0_init : GoodIn wsX4_init wsX0_init := goodIn_r _ [31, 32, 2, 3, 12, 33, 34, 35, 52, 53, 54] (by decide +kernel) (by decide +kernel)
set_option maxRecDepth 20000 in
theorem gX4_init_X0_init : GoodIn wsX4_init (wsX0_init) := ggX4_init_X0_init
set_option maxRecDepth 20000 in
theorem ggX4_init_X2_init : GoodIn wsX4_init wsX2_init := goodIn_r _ [37, 38, 2, 3, 12, 39, 40, 55, 56] (by decide +kernel) (by decide +kernel)
set_option maxRecDepth 20000 in
theorem gX4_init_X2_init_n38 : GoodIn wsX4_init (wsX2_init) := ggX4_init_X2_init
set_option maxRecDepth 20000 in
theorem ggX4_sort_X3_sortOf : GoodIn wsX4_sort wsX3_sortOf := goodIn_r _ [6, 7, 8, 9, 10, 5, 11, 12, 19, 20, 21, 22, 23] (by decide +kernel) (by decide +kernel)
set_option maxRecDepth 20000 in
theorem gX4_sort_X3_sortOf : GoodIn wsX4_sort (wsV RX4 50 RX3 yX3_sortOf wsX3_sortOf) := goodIn_app (goodIn_of _ (by decide +kernel)) ggX4_sort_X3_sortOf
set_option maxRecDepth 20000 in
theorem ggX4_keep_X0_cutTo : GoodIn wsX4_keep wsX0_cutTo := goodIn_r _ [6, 7, 14, 15, 16] (by decide +kernel) (by decide +kernel)
set_option maxRecDepth 20000 in
theorem gX4_keep_X0_cutTo : GoodIn wsX4_keep (wsV RX4 85 RX0 yX0_cutTo wsX0_cutTo) := goodIn_app (goodIn_of _ (by decide +kernel)) ggX4_keep_X0_cutTo
set_option maxRecDepth 20000 in
theorem ggX4_can_X4_askClaims : GoodIn wsX4_can wsX4_askClaims := goodIn_r _ [6, 7, 1, 8, 9, 10, 11, 12, 13, 14, 15, 16, 17, 18, 19, 20, 21, 22, 23, 99, 100, 101, 102, 103, 104, 105, 106, 107] (by decide +kernel) (by decide +kernel)
set_option maxRecDepth 20000 in
theorem gX4_can_X4_askClaims : GoodIn wsX4_can (wsV RX4 88 RX4 yX4_askClaims wsX4_askClaims) := goodIn_app (goodIn_of _ (by decide +kernel)) ggX4_can_X4_askClaims
set_option maxRecDepth 20000 in
theorem ggX4_can_X4_isPossible : GoodIn wsX4_can wsX4_isPossible := goodIn_r _ [27, 28, 29, 7, 30, 31, 32, 33, 34, 35, 36, 37, 38, 39, 40, 41, 42, 43, 44, 45, 46, 47, 48, 49, 50, 51, 52, 53, 54, 55, 56, 57, 58, 59, 60, 61, 62, 63, 64, 11, 65, 19, 66, 67, 68, 69, 18, 70, 71, 72, 73, 74, 75, 76, 77, 78, 79, 80, 81, 82, 83, 84, 85, 86, 87, 88, 89, 90, 91, 92, 93, 94, 95, 96, 97, 98, 99, 100, 101, 102, 103, 104, 108, 109, 110, 111, 112, 113, 114, 105, 106, 107] (by decide +kernel) (by decide +kernel)
set_option maxRecDepth 20000 in
theorem gX4_can_X4_isPossible : GoodIn wsX4_can (wsV RX4 91 RX4 yX4_isPossible wsX4_isPossible) := goodIn_app (goodIn_of _ (by decide +kernel)) ggX4_can_X4_isPossible
set_option maxRecDepth 20000 in
theorem ggX4_first_X4_askClaims : GoodIn wsX4_first wsX4_askClaims := goodIn_r _ [6, 7, 1, 8, 9, 10, 11, 12, 13, 14, 15, 16, 17, 18, 19, 20, 21, 22, 23, 99, 100, 101, 102, 103, 104, 105, 106, 107] (by decide +kernel) (by decide +kernel)
set_option maxRecDepth 20000 in
theorem gX4_first_X4_askClaims : GoodIn wsX4_first (wsV RX4 88 RX4 yX4_askClaims wsX4_askClaims) := goodIn_app (goodIn_of _ (by decide +kernel)) ggX4_first_X4_askClaims
set_option maxRecDepth 20000 in
theorem ggX4_first_X4_isPossible : GoodIn wsX4_first wsX4_isPossible := goodIn_r _ [27, 28, 29, 7, 30, 31, 32, 33, 34, 35, 36, 37, 38, 39, 40, 41, 42, 43, 44, 45, 46, 47, 48, 49, 50, 51, 52, 53, 54, 55, 56, 57, 58, 59, 60, 61, 62, 63, 64, 11, 65, 19, 66, 67, 68, 69, 18, 70, 71, 72, 73, 74, 75, 76, 77, 78, 79, 80, 81, 82, 83, 84, 85, 86, 87, 88, 89, 90, 91, 92, 93, 94, 95, 96, 97, 98, 99, 100, 101, 102, 103, 104, 108, 109, 110, 111, 112, 113, 114, 105, 106, 107] (by decide +kernel) (by decide +kernel)
set_option maxRecDepth 20000 in
theorem gX4_first_X4_isPossible : GoodIn wsX4_first (wsV RX4 91 RX4 yX4_isPossible wsX4_isPossible) := goodIn_app (goodIn_of _ (by decide +kernel)) ggX4_first_X4_isPossible
set_option maxRecDepth 20000 in
theorem ggX4_askClaims_X0_cutTo : GoodIn wsX4_askClaims wsX0_cutTo := goodIn_r _ [7, 8, 25, 26, 27] (by decide +kernel) (by decide +kernel)
set_option maxRecDepth 20000 in
theorem gX4_askClaims_X0_cutTo : GoodIn wsX4_askClaims (wsV RX4 85 RX0 yX0_cutTo wsX0_cutTo) := goodIn_app (goodIn_of _ (by decide +kernel)) ggX4_askClaims_X0_cutTo
set_option maxRecDepth 20000 in
theorem ggX4_askClaims_X0_addFrom : GoodIn wsX4_askClaims wsX0_addFrom := goodIn_r _ [12, 13, 14, 15, 16, 17, 6, 18, 8, 25, 26, 27] (by decide +kernel) (by decide +kernel)
set_option maxRecDepth 20000 in
theorem gX4_askClaims_X0_addFrom : GoodIn wsX4_askClaims (wsV RX4 110 RX0 yX0_addFrom wsX0_addFrom) := goodIn_app (goodIn_of _ (by decide +kernel)) ggX4_askClaims_X0_addFrom
set_option maxRecDepth 20000 in
theorem ggX4_isPossible_X2_finds : GoodIn wsX4_isPossible wsX2_finds := goodIn_r _ [8, 9, 10, 11, 12, 13, 7, 14, 15, 16, 17, 18, 19, 20, 21, 22, 23, 24, 25, 26, 27, 28, 29, 30, 31, 32, 33, 34, 35, 36, 37, 38, 39, 40, 41, 42, 43, 44, 45, 46, 47, 48, 49, 50, 51, 52, 53, 54, 55, 56, 57, 58, 59, 60, 61, 62, 63, 64, 65, 66, 67, 68, 69, 70, 71, 72, 73, 74, 75, 82, 83, 84, 85, 86, 87, 88, 89, 90, 91] (by decide +kernel) (by decide +kernel)
set_option maxRecDepth 20000 in
theorem gX4_isPossible_X2_finds : GoodIn wsX4_isPossible (wsV RX4 101 RX2 yX2_finds wsX2_finds) := goodIn_app (goodIn_of _ (by decide +kernel)) ggX4_isPossible_X2_finds
set_option maxRecDepth 20000 in
theorem ggX5_init_X5_findWays : GoodIn wsX5_init wsX5_findWays := goodIn_r _ [27, 14, 28, 29, 26, 30, 31, 32, 33, 34, 35, 36, 37, 38, 39, 40, 41, 42, 43, 44, 45, 46, 47, 48, 49, 50, 51, 52, 53, 54, 55, 56] (by decide +kernel) (by decide +kernel)
set_option maxRecDepth 20000 in
theorem gX5_init_X5_findWays : GoodIn wsX5_init (wsV RX5 63 RX5 yX5_findWays wsX5_findWays) := goodIn_app (goodIn_of _ (by decide +kernel)) ggX5_init_X5_findWays
set_option maxRecDepth 20000 in
theorem ggX5_findWays_X5_nextWay : GoodIn wsX5_findWays wsX5_nextWay := goodIn_r _ [5, 6, 7, 4, 8, 9, 10, 11] (by decide +kernel) (by decide +kernel)
set_option maxRecDepth 20000 in
theorem gX5_findWays_X5_nextWay : GoodIn wsX5_findWays (va_wsS RX5 70 yX5_nextWay wsX5_nextWay) := goodIn_app (goodIn_of _ (by decide +kernel)) ggX5_findWays_X5_nextWay
set_option maxRecDepth 20000 in
theorem ggX5_greatest_X5_label : GoodIn wsX5_greatest wsX5_label := goodIn_r _ [4] (by decide +kernel) (by decide +kernel)
set_option maxRecDepth 20000 in
theorem gX5_greatest_X5_label : GoodIn wsX5_greatest (va_wsS RX5 74 yX5_label wsX5_label) := goodIn_app (goodIn_of _ (by decide +kernel)) ggX5_greatest_X5_label
set_option maxRecDepth 20000 in
theorem ggX5_nextWay_X5_label : GoodIn wsX5_nextWay wsX5_label := goodIn_r _ [4] (by decide +kernel) (by decide +kernel)
set_option maxRecDepth 20000 in
theorem gX5_nextWay_X5_label : GoodIn wsX5_nextWay (va_wsS RX5 74 yX5_label wsX5_label) := goodIn_app (goodIn_of _ (by decide +kernel)) ggX5_nextWay_X5_label
set_option maxRecDepth 20000 in
theorem ggX5_nextWay_X5_greatest : GoodIn wsX5_nextWay wsX5_greatest := goodIn_r _ [7, 1, 2, 3, 4] (by decide +kernel) (by decide +kernel)
set_option maxRecDepth 20000 in
theorem gX5_nextWay_X5_greatest : GoodIn wsX5_nextWay (va_wsS RX5 77 yX5_greatest wsX5_greatest) := goodIn_app (goodIn_of _ (by decide +kernel)) ggX5_nextWay_X5_greatest
set_option maxRecDepth 20000 in
theorem ggX5_make_X5_found : GoodIn wsX5_make wsX5_found := goodIn_r _ [12, 1, 2, 3, 4, 5, 21, 22, 23, 24, 25, 26, 27, 28, 29, 30, 31, 32, 33, 34, 35, 36, 37, 38, 39, 40] (by decide +kernel) (by decide +kernel)
set_option maxRecDepth 20000 in
theorem gX5_make_X5_found : GoodIn wsX5_make (wsV RX5 80 RX5 yX5_found wsX5_found) := goodIn_app (goodIn_of _ (by decide +kernel)) ggX5_make_X5_found
set_option maxRecDepth 20000 in
theorem ggX5_make_X5_fail : GoodIn wsX5_make wsX5_fail := goodIn_r _ [16, 17, 21, 22, 23, 24, 25, 26, 27, 28, 29, 30, 31, 32, 33, 34, 35, 36, 37, 38, 39, 40] (by decide +kernel) (by decide +kernel)
set_option maxRecDepth 20000 in
theorem gX5_make_X5_fail : GoodIn wsX5_make (wsV RX5 84 RX5 yX5_fail wsX5_fail) := goodIn_app (goodIn_of _ (by decide +kernel)) ggX5_make_X5_fail
set_option maxRecDepth 20000 in
theorem ggX5_make_X5_part : GoodIn wsX5_make wsX5_part := goodIn_r _ [20] (by decide +kernel) (by decide +kernel)
set_option maxRecDepth 20000 in
theorem gX5_make_X5_part : GoodIn wsX5_make (va_wsS RX5 88 yX5_part wsX5_part) := goodIn_app (goodIn_of _ (by decide +kernel)) ggX5_make_X5_part
set_option maxRecDepth 20000 in
theorem ggX5_select_X5_isTerm : GoodIn wsX5_select wsX5_isTerm := goodIn_r _ [7, 8, 29, 30, 31, 32, 33, 34, 35, 36, 37, 38, 39, 40, 41, 42, 43, 44, 45, 46, 47, 48] (by decide +kernel) (by decide +kernel)
set_option maxRecDepth 20000 in
theorem gX5_select_X5_isTerm : GoodIn wsX5_select (wsV RX5 91 RX5 yX5_isTerm wsX5_isTerm) := goodIn_app (goodIn_of _ (by decide +kernel)) ggX5_select_X5_isTerm
set_option maxRecDepth 20000 in
theorem ggX5_select_X5_make : GoodIn wsX5_select wsX5_make := goodIn_r _ [12, 8, 13, 14, 15, 16, 1, 17, 18, 19, 20, 6, 21, 22, 23, 24, 25, 2, 26, 27, 28, 29, 30, 31, 32, 33, 34, 35, 36, 37, 38, 39, 40, 41, 42, 43, 44, 45, 46, 47, 48] (by decide +kernel) (by decide +kernel)
set_option maxRecDepth 20000 in
theorem gX5_select_X5_make : GoodIn wsX5_select (wsV RX5 95 RX5 yX5_make wsX5_make) := goodIn_app (goodIn_of _ (by decide +kernel)) ggX5_select_X5_make
set_option maxRecDepth 20000 in
theorem ggX5_store_X5_isTerm : GoodIn wsX5_store wsX5_isTerm := goodIn_r _ [7, 8, 29, 30, 31, 32, 33, 34, 35, 36, 37, 38, 39, 40, 41, 42, 43, 44, 45, 46, 47, 48] (by decide +kernel) (by decide +kernel)
set_option maxRecDepth 20000 in
theorem gX5_store_X5_isTerm : GoodIn wsX5_store (wsV RX5 91 RX5 yX5_isTerm wsX5_isTerm) := goodIn_app (goodIn_of _ (by decide +kernel)) ggX5_store_X5_isTerm
set_option maxRecDepth 20000 in
theorem ggX5_store_X5_make : GoodIn wsX5_store wsX5_make := goodIn_r _ [12, 8, 13, 14, 15, 16, 1, 17, 18, 19, 20, 6, 21, 22, 23, 24, 25, 2, 26, 27, 28, 29, 30, 31, 32, 33, 34, 35, 36, 37, 38, 39, 40, 41, 42, 43, 44, 45, 46, 47, 48] (by decide +kernel) (by decide +kernel)
set_option maxRecDepth 20000 in
theorem gX5_store_X5_make : GoodIn wsX5_store (wsV RX5 95 RX5 yX5_make wsX5_make) := goodIn_app (goodIn_of _ (by decide +kernel)) ggX5_store_X5_make
set_option maxRecDepth 20000 in
theorem ggX5_sort_X5_isTerm : GoodIn wsX5_sort wsX5_isTerm := goodIn_r _ [7, 8, 9, 10, 11, 12, 13, 14, 15, 16, 17, 18, 19, 20, 21, 22, 23, 24, 25, 26, 27, 28] (by decide +kernel) (by decide +kernel)
set_option maxRecDepth 20000 in
theorem gX5_sort_X5_isTerm : GoodIn wsX5_sort (wsV RX5 91 RX5 yX5_isTerm wsX5_isTerm) := goodIn_app (goodIn_of _ (by decide +kernel)) ggX5_sort_X5_isTerm
set_option maxRecDepth 20000 in
theorem ggX5_areSame_X5_label : GoodIn wsX5_areSame wsX5_label := goodIn_r _ [7] (by decide +kernel) (by decide +kernel)
set_option maxRecDepth 20000 in
theorem gX5_areSame_X5_label : GoodIn wsX5_areSame (va_wsS RX5 74 yX5_label wsX5_label) := goodIn_app (goodIn_of _ (by decide +kernel)) ggX5_areSame_X5_label
set_option maxRecDepth 20000 in
theorem ggX5_areSame_X5_part : GoodIn wsX5_areSame wsX5_part := goodIn_r _ [10] (by decide +kernel) (by decide +kernel)
set_option maxRecDepth 20000 in
theorem gX5_areSame_X5_part : GoodIn wsX5_areSame (va_wsS RX5 88 yX5_part wsX5_part) := goodIn_app (goodIn_of _ (by decide +kernel)) ggX5_areSame_X5_part
set_option maxRecDepth 20000 in
theorem ggX5_sameIn_X5_areSame : GoodIn wsX5_sameIn wsX5_areSame := goodIn_r _ [9, 10, 11, 4, 12, 13, 8, 14, 15, 16, 17, 18, 19, 20, 21, 22, 23, 24, 25, 26, 27, 28, 29, 30, 31, 32, 33, 34, 35, 36, 37] (by decide +kernel) (by decide +kernel)
set_option maxRecDepth 20000 in
theorem gX5_sameIn_X5_areSame : GoodIn wsX5_sameIn (wsV RX5 98 RX5 yX5_areSame wsX5_areSame) := goodIn_app (goodIn_of _ (by decide +kernel)) ggX5_sameIn_X5_areSame
set_option maxRecDepth 20000 in
theorem ggX5_draftHolds_X5_sameIn : GoodIn wsX5_draftHolds wsX5_sameIn := goodIn_r _ [9, 10, 11, 12, 13, 14, 15, 16, 8, 17, 18, 19, 20, 21, 22, 23, 24, 25, 26, 27, 28, 29, 30, 31, 32, 33, 34, 35, 36, 37, 38, 39, 40, 41, 42, 43, 44, 45] (by decide +kernel) (by decide +kernel)
set_option maxRecDepth 20000 in
theorem gX5_draftHolds_X5_sameIn : GoodIn wsX5_draftHolds (wsV RX5 105 RX5 yX5_sameIn wsX5_sameIn) := goodIn_app (goodIn_of _ (by decide +kernel)) ggX5_draftHolds_X5_sameIn
set_option maxRecDepth 20000 in
theorem ggX5_literal_X5_isTerm : GoodIn wsX5_literal wsX5_isTerm := goodIn_r _ [11, 12, 13, 14, 15, 16, 17, 18, 19, 20, 21, 22, 23, 24, 25, 26, 27, 28, 29, 30, 31, 32] (by decide +kernel) (by decide +kernel)
set_option maxRecDepth 20000 in
theorem gX5_literal_X5_isTerm : GoodIn wsX5_literal (wsV RX5 91 RX5 yX5_isTerm wsX5_isTerm) := goodIn_app (goodIn_of _ (by decide +kernel)) ggX5_literal_X5_isTerm
set_option maxRecDepth 20000 in
theorem ggX5_claim_X5_draftHolds : GoodIn wsX5_claim wsX5_draftHolds := goodIn_r _ [10, 1, 11, 12, 13, 14, 15, 16, 9, 17, 4, 18, 19, 20, 21, 22, 23, 24, 25, 26, 27, 28, 29, 30, 31, 32, 33, 34, 35, 36, 37, 38, 39, 40, 41, 42, 43, 44, 45, 46, 47, 48, 49, 50, 51, 52] (by decide +kernel) (by decide +kernel)
set_option maxRecDepth 20000 in
theorem gX5_claim_X5_draftHolds : GoodIn wsX5_claim (wsV RX5 112 RX5 yX5_draftHolds wsX5_draftHolds) := goodIn_app (goodIn_of _ (by decide +kernel)) ggX5_claim_X5_draftHolds
set_option maxRecDepth 20000 in
theorem ggX5_can_X5_all : GoodIn wsX5_can wsX5_all := goodIn_r _ [6, 7, 14, 15, 16, 17, 18, 19, 20, 21, 22, 23, 24, 25, 26, 27, 28, 29, 30, 31, 32, 33] (by decide +kernel) (by decide +kernel)
set_option maxRecDepth 20000 in
theorem gX5_can_X5_all : GoodIn wsX5_can (wsV RX5 116 RX5 yX5_all wsX5_all) := goodIn_app (goodIn_of _ (by decide +kernel)) ggX5_can_X5_all
set_option maxRecDepth 20000 in
theorem ggX5_can_X5_canHold : GoodIn wsX5_can wsX5_canHold := goodIn_r _ [11, 12, 13, 14, 15, 16, 17, 18, 19, 20, 21, 22, 23, 24, 25, 26, 27, 28, 29, 30, 31, 32, 33] (by decide +kernel) (by decide +kernel)
set_option maxRecDepth 20000 in
theorem gX5_can_X5_canHold : GoodIn wsX5_can (wsV RX5 120 RX5 yX5_canHold wsX5_canHold) := goodIn_app (goodIn_of _ (by decide +kernel)) ggX5_can_X5_canHold
set_option maxRecDepth 20000 in
theorem ggX5_first_X5_canHold : GoodIn wsX5_first wsX5_canHold := goodIn_r _ [7, 8, 9, 10, 11, 12, 13, 14, 15, 16, 17, 18, 19, 20, 21, 22, 23, 24, 25, 26, 27, 28, 29] (by decide +kernel) (by decide +kernel)
set_option maxRecDepth 20000 in
theorem gX5_first_X5_canHold : GoodIn wsX5_first (wsV RX5 120 RX5 yX5_canHold wsX5_canHold) := goodIn_app (goodIn_of _ (by decide +kernel)) ggX5_first_X5_canHold
set_option maxRecDepth 20000 in
theorem ggX5_without_X5_all : GoodIn wsX5_without wsX5_all := goodIn_r _ [7, 1, 14, 15, 16, 17, 18, 19, 20, 21, 22, 23, 24, 25, 26, 27, 28, 29, 30, 31, 32, 33] (by decide +kernel) (by decide +kernel)
set_option maxRecDepth 20000 in
theorem gX5_without_X5_all : GoodIn wsX5_without (wsV RX5 116 RX5 yX5_all wsX5_all) := goodIn_app (goodIn_of _ (by decide +kernel)) ggX5_without_X5_all
set_option maxRecDepth 20000 in
theorem ggX5_without_X5_canHold : GoodIn wsX5_without wsX5_canHold := goodIn_r _ [11, 12, 13, 14, 15, 16, 17, 18, 19, 20, 21, 22, 23, 24, 25, 26, 27, 28, 29, 30, 31, 32, 33] (by decide +kernel) (by decide +kernel)
set_option maxRecDepth 20000 in
theorem gX5_without_X5_canHold : GoodIn wsX5_without (wsV RX5 120 RX5 yX5_canHold wsX5_canHold) := goodIn_app (goodIn_of _ (by decide +kernel)) ggX5_without_X5_canHold
set_option maxRecDepth 20000 in
theorem ggX5_same_X5_isTerm : GoodIn wsX5_same wsX5_isTerm := goodIn_r _ [9, 10, 38, 39, 40, 41, 42, 43, 44, 45, 46, 47, 48, 49, 50, 51, 52, 53, 54, 55, 56, 57] (by decide +kernel) (by decide +kernel)
set_option maxRecDepth 20000 in
theorem gX5_same_X5_isTerm : GoodIn wsX5_same (wsV RX5 91 RX5 yX5_isTerm wsX5_isTerm) := goodIn_app (goodIn_of _ (by decide +kernel)) ggX5_same_X5_isTerm
set_option maxRecDepth 20000 in
theorem ggX5_same_X5_all : GoodIn wsX5_same wsX5_all := goodIn_r _ [14, 15, 38, 39, 40, 41, 42, 43, 44, 45, 46, 47, 48, 49, 50, 51, 52, 53, 54, 55, 56, 57] (by decide +kernel) (by decide +kernel)
set_option maxRecDepth 20000 in
theorem gX5_same_X5_all : GoodIn wsX5_same (wsV RX5 116 RX5 yX5_all wsX5_all) := goodIn_app (goodIn_of _ (by decide +kernel)) ggX5_same_X5_all
set_option maxRecDepth 20000 in
theorem ggX5_same_X5_canHold : GoodIn wsX5_same wsX5_canHold := goodIn_r _ [19, 3, 4, 38, 39, 40, 41, 42, 43, 44, 45, 46, 47, 48, 49, 50, 51, 52, 53, 54, 55, 56, 57] (by decide +kernel) (by decide +kernel)
set_option maxRecDepth 20000 in
theorem gX5_same_X5_canHold : GoodIn wsX5_same (wsV RX5 120 RX5 yX5_canHold wsX5_canHold) := goodIn_app (goodIn_of _ (by decide +kernel)) ggX5_same_X5_canHold
set_option maxRecDepth 20000 in
theorem ggX5_same_X5_sameIn : GoodIn wsX5_same wsX5_sameIn := goodIn_r _ [23, 3, 24, 25, 26, 27, 28, 29, 8, 30, 31, 1, 32, 33, 34, 35, 36, 37, 38, 39, 40, 41, 42, 43, 44, 45, 46, 47, 48, 49, 50, 51, 52, 53, 54, 55, 56, 57] (by decide +kernel) (by decide +kernel)
set_option maxRecDepth 20000 in
theorem gX5_same_X5_sameIn : GoodIn wsX5_same (wsV RX5 105 RX5 yX5_sameIn wsX5_sameIn) := goodIn_app (goodIn_of _ (by decide +kernel)) ggX5_same_X5_sameIn
set_option maxRecDepth 20000 in
theorem ggX5_follows_X5_all : GoodIn wsX5_follows wsX5_all := goodIn_r _ [9, 10, 37, 38, 39, 40, 41, 42, 43, 44, 45, 46, 47, 48, 49, 50, 51, 52, 53, 54, 55, 56] (by decide +kernel) (by decide +kernel)
set_option maxRecDepth 20000 in
theorem gX5_follows_X5_all : GoodIn wsX5_follows (wsV RX5 116 RX5 yX5_all wsX5_all) := goodIn_app (goodIn_of _ (by decide +kernel)) ggX5_follows_X5_all
set_option maxRecDepth 20000 in
theorem ggX5_follows_X5_draftHolds : GoodIn wsX5_follows wsX5_draftHolds := goodIn_r _ [14, 1, 15, 16, 17, 18, 19, 20, 8, 21, 3, 22, 23, 24, 25, 26, 27, 28, 29, 30, 31, 32, 33, 34, 35, 36, 37, 38, 39, 40, 41, 42, 43, 44, 45, 46, 47, 48, 49, 50, 51, 52, 53, 54, 55, 56] (by decide +kernel) (by decide +kernel)
set_option maxRecDepth 20000 in
theorem gX5_follows_X5_draftHolds : GoodIn wsX5_follows (wsV RX5 112 RX5 yX5_draftHolds wsX5_draftHolds) := goodIn_app (goodIn_of _ (by decide +kernel)) ggX5_follows_X5_draftHolds
set_option maxRecDepth 20000 in
theorem ggX5_apart_X5_all : GoodIn wsX5_apart wsX5_all := goodIn_r _ [9, 10, 15, 16, 17, 18, 19, 20, 21, 22, 23, 24, 25, 26, 27, 28, 29, 30, 31, 32, 33, 34] (by decide +kernel) (by decide +kernel)
set_option maxRecDepth 20000 in
theorem gX5_apart_X5_all : GoodIn wsX5_apart (wsV RX5 116 RX5 yX5_all wsX5_all) := goodIn_app (goodIn_of _ (by decide +kernel)) ggX5_apart_X5_all
set_option maxRecDepth 20000 in
theorem ggX5_apart_X5_canHold : GoodIn wsX5_apart wsX5_canHold := goodIn_r _ [14, 2, 3, 15, 16, 17, 18, 19, 20, 21, 22, 23, 24, 25, 26, 27, 28, 29, 30, 31, 32, 33, 34] (by decide +kernel) (by decide +kernel)
set_option maxRecDepth 20000 in
theorem gX5_apart_X5_canHold : GoodIn wsX5_apart (wsV RX5 120 RX5 yX5_canHold wsX5_canHold) := goodIn_app (goodIn_of _ (by decide +kernel)) ggX5_apart_X5_canHold
abbrev vwCl : List vw_C := [(RX0, TX0, 3), (RX2, TX2, 2), (RX3, TX3, 5), (RX4, TX4, 6), (RX5, TX5, 20)]
