section
-- ===== PART A: goes FIRST, ahead of the names: the tables' words, and 'selects' of the private methods out of them =====
/-- a private method of a class that the tables say can be made, by its rows of tables_1 -/
def lw_okq (q : MethodName × Nat) : Prop := (q.1.cls ≠ "java/lang/invoke/MethodHandle" ∧ q.1.cls ≠ "java/lang/invoke/VarHandle") ∧ Cond.instantiable q.1.cls q.2 ∈ tables_1 ∧ Cond.privateMethod q.1 ∈ tables_1 ∧ Cond.instanceMethod q.1 ∈ tables_1
theorem lw_p0 : lw_okq (⟨"ArrayClaims", "askClaims", "(II)V"⟩, 6) := ⟨⟨by decide +kernel, by decide +kernel⟩, List.mem_of_getElem? (i := 16) (by decide +kernel), List.mem_of_getElem? (i := 143) (by decide +kernel), List.mem_of_getElem? (i := 144) (by decide +kernel)⟩
theorem lw_p1 : lw_okq (⟨"ArrayClaims", "isPossible", "()Z"⟩, 6) := ⟨⟨by decide +kernel, by decide +kernel⟩, List.mem_of_getElem? (i := 16) (by decide +kernel), List.mem_of_getElem? (i := 155) (by decide +kernel), List.mem_of_getElem? (i := 156) (by decide +kernel)⟩
theorem lw_p2 : lw_okq (⟨"ArrayClaims$ReadingSearch", "spellOut", "(LArrayClaims$TermTable;I)V"⟩, 2) := ⟨⟨by decide +kernel, by decide +kernel⟩, List.mem_of_getElem? (i := 71) (by decide +kernel), List.mem_of_getElem? (i := 165) (by decide +kernel), List.mem_of_getElem? (i := 166) (by decide +kernel)⟩
theorem lw_p3 : lw_okq (⟨"ArrayClaims$ReadingSearch", "spellOutNames", "(I)V"⟩, 2) := ⟨⟨by decide +kernel, by decide +kernel⟩, List.mem_of_getElem? (i := 71) (by decide +kernel), List.mem_of_getElem? (i := 169) (by decide +kernel), List.mem_of_getElem? (i := 170) (by decide +kernel)⟩
theorem lw_p4 : lw_okq (⟨"ArrayClaims$ReadingSearch", "completes", "(LArrayClaims$TermTable;LArrayClaims$ClaimList;II)Z"⟩, 2) := ⟨⟨by decide +kernel, by decide +kernel⟩, List.mem_of_getElem? (i := 71) (by decide +kernel), List.mem_of_getElem? (i := 181) (by decide +kernel), List.mem_of_getElem? (i := 182) (by decide +kernel)⟩
theorem lw_p5 : lw_okq (⟨"ArrayClaims$ReadingSearch", "holding", "(LArrayClaims$TermTable;LArrayClaims$ClaimList;I)I"⟩, 2) := ⟨⟨by decide +kernel, by decide +kernel⟩, List.mem_of_getElem? (i := 71) (by decide +kernel), List.mem_of_getElem? (i := 185) (by decide +kernel), List.mem_of_getElem? (i := 186) (by decide +kernel)⟩
theorem lw_p6 : lw_okq (⟨"ArrayClaims$ReadingSearch", "rightness", "(LArrayClaims$TermTable;I)I"⟩, 2) := ⟨⟨by decide +kernel, by decide +kernel⟩, List.mem_of_getElem? (i := 71) (by decide +kernel), List.mem_of_getElem? (i := 197) (by decide +kernel), List.mem_of_getElem? (i := 198) (by decide +kernel)⟩
theorem lw_p7 : lw_okq (⟨"ArrayClaims$ReadingSearch", "partLikeness", "(III)I"⟩, 2) := ⟨⟨by decide +kernel, by decide +kernel⟩, List.mem_of_getElem? (i := 71) (by decide +kernel), List.mem_of_getElem? (i := 210) (by decide +kernel), List.mem_of_getElem? (i := 211) (by decide +kernel)⟩
theorem lw_p8 : lw_okq (⟨"ArrayClaims$ReadingSearch", "openSpot", "(LArrayClaims$TermTable;LArrayClaims$ClaimList;I)I"⟩, 2) := ⟨⟨by decide +kernel, by decide +kernel⟩, List.mem_of_getElem? (i := 71) (by decide +kernel), List.mem_of_getElem? (i := 217) (by decide +kernel), List.mem_of_getElem? (i := 218) (by decide +kernel)⟩
theorem lw_p9 : lw_okq (⟨"ArrayClaims$ReadingSearch", "openSpotOf", "(LArrayClaims$TermTable;II)I"⟩, 2) := ⟨⟨by decide +kernel, by decide +kernel⟩, List.mem_of_getElem? (i := 71) (by decide +kernel), List.mem_of_getElem? (i := 221) (by decide +kernel), List.mem_of_getElem? (i := 222) (by decide +kernel)⟩
theorem lw_p10 : lw_okq (⟨"java/lang/Throwable", "fillInStackTrace", "(I)Ljava/lang/Throwable;"⟩, 6) := ⟨⟨by decide +kernel, by decide +kernel⟩, List.mem_of_getElem? (i := 279) (by decide +kernel), List.mem_of_getElem? (i := 277) (by decide +kernel), List.mem_of_getElem? (i := 278) (by decide +kernel)⟩
theorem lw_p11 : lw_okq (⟨"ArrayClaims", "termFor", "(IIII)I"⟩, 6) := ⟨⟨by decide +kernel, by decide +kernel⟩, List.mem_of_getElem? (i := 16) (by decide +kernel), List.mem_of_getElem? (i := 319) (by decide +kernel), List.mem_of_getElem? (i := 320) (by decide +kernel)⟩
theorem lw_p12 : lw_okq (⟨"ArrayClaims", "checkPair", "(II)V"⟩, 6) := ⟨⟨by decide +kernel, by decide +kernel⟩, List.mem_of_getElem? (i := 16) (by decide +kernel), List.mem_of_getElem? (i := 361) (by decide +kernel), List.mem_of_getElem? (i := 362) (by decide +kernel)⟩
theorem lw_p13 : lw_okq (⟨"ArrayClaimsModel", "findWays", "(III)V"⟩, 20) := ⟨⟨by decide +kernel, by decide +kernel⟩, List.mem_of_getElem? (i := 426) (by decide +kernel), List.mem_of_getElem? (i := 432) (by decide +kernel), List.mem_of_getElem? (i := 433) (by decide +kernel)⟩
theorem lw_p14 : lw_okq (⟨"ArrayClaimsModel", "isTerm", "(I)Z"⟩, 20) := ⟨⟨by decide +kernel, by decide +kernel⟩, List.mem_of_getElem? (i := 426) (by decide +kernel), List.mem_of_getElem? (i := 515) (by decide +kernel), List.mem_of_getElem? (i := 516) (by decide +kernel)⟩
theorem lw_p15 : lw_okq (⟨"ArrayClaimsModel", "make", "(IIII)I"⟩, 20) := ⟨⟨by decide +kernel, by decide +kernel⟩, List.mem_of_getElem? (i := 426) (by decide +kernel), List.mem_of_getElem? (i := 519) (by decide +kernel), List.mem_of_getElem? (i := 520) (by decide +kernel)⟩
def lw_privs_1 : List (MethodName × Nat) := [(⟨"ArrayClaims", "askClaims", "(II)V"⟩, 6), (⟨"ArrayClaims", "isPossible", "()Z"⟩, 6), (⟨"ArrayClaims$ReadingSearch", "spellOut", "(LArrayClaims$TermTable;I)V"⟩, 2), (⟨"ArrayClaims$ReadingSearch", "spellOutNames", "(I)V"⟩, 2), (⟨"ArrayClaims$ReadingSearch", "completes", "(LArrayClaims$TermTable;LArrayClaims$ClaimList;II)Z"⟩, 2), (⟨"ArrayClaims$ReadingSearch", "holding", "(LArrayClaims$TermTable;LArrayClaims$ClaimList;I)I"⟩, 2), (⟨"ArrayClaims$ReadingSearch", "rightness", "(LArrayClaims$TermTable;I)I"⟩, 2), (⟨"ArrayClaims$ReadingSearch", "partLikeness", "(III)I"⟩, 2), (⟨"ArrayClaims$ReadingSearch", "openSpot", "(LArrayClaims$TermTable;LArrayClaims$ClaimList;I)I"⟩, 2), (⟨"ArrayClaims$ReadingSearch", "openSpotOf", "(LArrayClaims$TermTable;II)I"⟩, 2), (⟨"java/lang/Throwable", "fillInStackTrace", "(I)Ljava/lang/Throwable;"⟩, 6), (⟨"ArrayClaims", "termFor", "(IIII)I"⟩, 6), (⟨"ArrayClaims", "checkPair", "(II)V"⟩, 6), (⟨"ArrayClaimsModel", "findWays", "(III)V"⟩, 20), (⟨"ArrayClaimsModel", "isTerm", "(I)Z"⟩, 20), (⟨"ArrayClaimsModel", "make", "(IIII)I"⟩, 20)]
theorem lw_r1 : ∀ q ∈ lw_privs_1, lw_okq q := List.forall_mem_cons.mpr ⟨lw_p0, List.forall_mem_cons.mpr ⟨lw_p1, List.forall_mem_cons.mpr ⟨lw_p2, List.forall_mem_cons.mpr ⟨lw_p3, List.forall_mem_cons.mpr ⟨lw_p4, List.forall_mem_cons.mpr ⟨lw_p5, List.forall_mem_cons.mpr ⟨lw_p6, List.forall_mem_cons.mpr ⟨lw_p7, List.forall_mem_cons.mpr ⟨lw_p8, List.forall_mem_cons.mpr ⟨lw_p9, List.forall_mem_cons.mpr ⟨lw_p10, List.forall_mem_cons.mpr ⟨lw_p11, List.forall_mem_cons.mpr ⟨lw_p12, List.forall_mem_cons.mpr ⟨lw_p13, List.forall_mem_cons.mpr ⟨lw_p14, List.forall_mem_cons.mpr ⟨lw_p15, fun _ h => absurd h List.not_mem_nil⟩⟩⟩⟩⟩⟩⟩⟩⟩⟩⟩⟩⟩⟩⟩⟩
theorem lw_p16 : lw_okq (⟨"ArrayClaimsModel", "found", "(IIII)I"⟩, 20) := ⟨⟨by decide +kernel, by decide +kernel⟩, List.mem_of_getElem? (i := 426) (by decide +kernel), List.mem_of_getElem? (i := 523) (by decide +kernel), List.mem_of_getElem? (i := 524) (by decide +kernel)⟩
theorem lw_p17 : lw_okq (⟨"ArrayClaimsModel", "fail", "(I)I"⟩, 20) := ⟨⟨by decide +kernel, by decide +kernel⟩, List.mem_of_getElem? (i := 426) (by decide +kernel), List.mem_of_getElem? (i := 527) (by decide +kernel), List.mem_of_getElem? (i := 528) (by decide +kernel)⟩
theorem lw_p18 : lw_okq (⟨"ArrayClaimsModel", "draftHolds", "(II)Z"⟩, 20) := ⟨⟨by decide +kernel, by decide +kernel⟩, List.mem_of_getElem? (i := 426) (by decide +kernel), List.mem_of_getElem? (i := 562) (by decide +kernel), List.mem_of_getElem? (i := 563) (by decide +kernel)⟩
theorem lw_p19 : lw_okq (⟨"ArrayClaimsModel", "sameIn", "(IIII)Z"⟩, 20) := ⟨⟨by decide +kernel, by decide +kernel⟩, List.mem_of_getElem? (i := 426) (by decide +kernel), List.mem_of_getElem? (i := 566) (by decide +kernel), List.mem_of_getElem? (i := 567) (by decide +kernel)⟩
theorem lw_p20 : lw_okq (⟨"ArrayClaimsModel", "areSame", "(IIIIZ)Z"⟩, 20) := ⟨⟨by decide +kernel, by decide +kernel⟩, List.mem_of_getElem? (i := 426) (by decide +kernel), List.mem_of_getElem? (i := 570) (by decide +kernel), List.mem_of_getElem? (i := 571) (by decide +kernel)⟩
theorem lw_p21 : lw_okq (⟨"ArrayClaimsModel", "all", "()I"⟩, 20) := ⟨⟨by decide +kernel, by decide +kernel⟩, List.mem_of_getElem? (i := 426) (by decide +kernel), List.mem_of_getElem? (i := 586) (by decide +kernel), List.mem_of_getElem? (i := 587) (by decide +kernel)⟩
theorem lw_p22 : lw_okq (⟨"ArrayClaimsModel", "canHold", "(I)Z"⟩, 20) := ⟨⟨by decide +kernel, by decide +kernel⟩, List.mem_of_getElem? (i := 426) (by decide +kernel), List.mem_of_getElem? (i := 590) (by decide +kernel), List.mem_of_getElem? (i := 591) (by decide +kernel)⟩
def lw_privs_2 : List (MethodName × Nat) := [(⟨"ArrayClaimsModel", "found", "(IIII)I"⟩, 20), (⟨"ArrayClaimsModel", "fail", "(I)I"⟩, 20), (⟨"ArrayClaimsModel", "draftHolds", "(II)Z"⟩, 20), (⟨"ArrayClaimsModel", "sameIn", "(IIII)Z"⟩, 20), (⟨"ArrayClaimsModel", "areSame", "(IIIIZ)Z"⟩, 20), (⟨"ArrayClaimsModel", "all", "()I"⟩, 20), (⟨"ArrayClaimsModel", "canHold", "(I)Z"⟩, 20)]
theorem lw_r2 : ∀ q ∈ lw_privs_2, lw_okq q := List.forall_mem_cons.mpr ⟨lw_p16, List.forall_mem_cons.mpr ⟨lw_p17, List.forall_mem_cons.mpr ⟨lw_p18, List.forall_mem_cons.mpr ⟨lw_p19, List.forall_mem_cons.mpr ⟨lw_p20, List.forall_mem_cons.mpr ⟨lw_p21, List.forall_mem_cons.mpr ⟨lw_p22, fun _ h => absurd h List.not_mem_nil⟩⟩⟩⟩⟩⟩⟩
def lw_privs : List (MethodName × Nat) := lw_privs_1 ++ (lw_privs_2)
def lw_tbl : List Cond := k2_sels lw_privs ++ tables_1
theorem lw_privs_ok : ∀ q ∈ lw_privs, lw_okq q := by
  show ∀ q ∈ lw_privs_1 ++ (lw_privs_2), lw_okq q
  exact List.forall_mem_append.mpr ⟨lw_r1, lw_r2⟩
end
section
/-! ===== BEGIN words of one list among another's, by their places ===== -/
theorem goodIn_r {big : List Cond} (ws : List Cond) (ps : List Nat) (hp : ws = ps.filterMap (fun i => big[i]?)) (h : ws.all goodWord = true) : GoodIn big ws := by
  intro w hw
  have h1 := List.all_eq_true.mp h w hw
  rw [hp] at hw
  obtain ⟨i, -, hi⟩ := List.mem_filterMap.mp hw
  have hm : w ∈ big := by first | exact List.mem_of_getElem? hi | exact List.getElem?_mem hi
  exact ⟨hm, good_of_word h1⟩
theorem goodIn_app {big a b : List Cond} (ha : GoodIn big a) (hb : GoodIn big b) : GoodIn big (a ++ b) := fun w h => (List.mem_append.mp h).elim (ha w) (hb w)
theorem goodIn_ca {big a b : List Cond} {c : Cond} (ha : GoodIn big (c :: a)) (hb : GoodIn big b) : GoodIn big (c :: (a ++ b)) := fun w h => (List.mem_cons.mp h).elim (fun e => ha w (List.mem_cons.mpr (Or.inl e))) (fun h => (List.mem_append.mp h).elim (fun h => ha w (List.mem_cons.mpr (Or.inr h))) (hb w))
theorem goodIn_sub {big ws : List Cond} (hm : ∀ w ∈ ws, w ∈ big) (h : ws.all goodWord = true) : GoodIn big ws := fun w hw => ⟨hm w hw, good_of_word (List.all_eq_true.mp h w hw)⟩
/-! ===== END ===== -/
end
section
/-! ===== BEGIN printed: names, fields, word lists, decode rows ===== -/
def RX0 : String := "ArrayClaims$ClaimList"
def TX0 : u_T := fun k => match k with
  | 0 => ("ArrayClaims$ClaimList", "literals", "[I", true)
  | 1 => ("ArrayClaims$ClaimList", "sizes", "[I", true)
  | _ => ("ArrayClaims$ClaimList", "count", "I", false)
def tyX0 : Nat → FieldType := fun k => match k with
  | 0 => .array .int
  | 1 => .array .int
  | _ => .int
abbrev wsX00 : List Cond := u_ws RX0 TX0 3
theorem nmX0 : ∀ a, a < 3 → ∀ b, b < 3 → a ≠ b → (TX0 a).2.1 ≠ (TX0 b).2.1 := by decide +kernel
theorem tyX0_ok : ∀ k, k < 3 → parseFieldDescriptor (TX0 k).2.2.1 = some (tyX0 k) := by decide +kernel
abbrev cX0_init : ByteArray := prog_2_method_1_code
def yX0_init : MethodName := ⟨RX0, "<init>", "(I)V"⟩
abbrev cX0_add : ByteArray := prog_2_method_2_code
def yX0_add : MethodName := ⟨RX0, "add", "([III)V"⟩
abbrev cX0_addFrom : ByteArray := prog_2_method_3_code
def yX0_addFrom : MethodName := ⟨RX0, "addFrom", "(LArrayClaims$ClaimList;I)V"⟩
abbrev cX0_addSingle : ByteArray := prog_2_method_4_code
def yX0_addSingle : MethodName := ⟨RX0, "addSingle", "(I)V"⟩
abbrev cX0_cutTo : ByteArray := prog_2_method_5_code
def yX0_cutTo : MethodName := ⟨RX0, "cutTo", "(I)V"⟩
abbrev cX0_sizeOf : ByteArray := prog_2_method_6_code
def yX0_sizeOf : MethodName := ⟨RX0, "sizeOf", "(I)I"⟩
abbrev cX0_at : ByteArray := prog_2_method_7_code
def yX0_at : MethodName := ⟨RX0, "at", "(II)I"⟩
def RX1 : String := "ArrayClaims$Literal"
def TX1 : u_T := fun k => match k with
  | _ => ("", "", "", false)
def tyX1 : Nat → FieldType := fun k => match k with
  | _ => .int
abbrev wsX10 : List Cond := u_ws RX1 TX1 0
theorem nmX1 : ∀ a, a < 0 → ∀ b, b < 0 → a ≠ b → (TX1 a).2.1 ≠ (TX1 b).2.1 := by decide +kernel
theorem tyX1_ok : ∀ k, k < 0 → parseFieldDescriptor (TX1 k).2.2.1 = some (tyX1 k) := by decide +kernel
abbrev cX1_of : ByteArray := prog_3_method_2_code
def yX1_of : MethodName := ⟨RX1, "of", "(IIZ)I"⟩
abbrev cX1_left : ByteArray := prog_3_method_3_code
def yX1_left : MethodName := ⟨RX1, "left", "(I)I"⟩
abbrev cX1_right : ByteArray := prog_3_method_4_code
def yX1_right : MethodName := ⟨RX1, "right", "(I)I"⟩
abbrev cX1_saysSame : ByteArray := prog_3_method_5_code
def yX1_saysSame : MethodName := ⟨RX1, "saysSame", "(I)Z"⟩
abbrev cX1_opposite : ByteArray := prog_3_method_6_code
def yX1_opposite : MethodName := ⟨RX1, "opposite", "(I)I"⟩
def RX2 : String := "ArrayClaims$ReadingSearch"
def TX2 : u_T := fun k => match k with
  | 0 => ("ArrayClaims$ReadingSearch", "parts", "[I", true)
  | _ => ("ArrayClaims$ReadingSearch", "chosen", "[I", true)
def tyX2 : Nat → FieldType := fun k => match k with
  | 0 => .array .int
  | _ => .array .int
abbrev wsX20 : List Cond := u_ws RX2 TX2 2
theorem nmX2 : ∀ a, a < 2 → ∀ b, b < 2 → a ≠ b → (TX2 a).2.1 ≠ (TX2 b).2.1 := by decide +kernel
theorem tyX2_ok : ∀ k, k < 2 → parseFieldDescriptor (TX2 k).2.2.1 = some (tyX2 k) := by decide +kernel
abbrev cX2_init : ByteArray := prog_4_method_1_code
def yX2_init : MethodName := ⟨RX2, "<init>", "()V"⟩
abbrev cX2_finds : ByteArray := prog_4_method_2_code
def yX2_finds : MethodName := ⟨RX2, "finds", "(LArrayClaims$TermTable;LArrayClaims$ClaimList;II)Z"⟩
abbrev cX2_lowest : ByteArray := prog_4_method_3_code
def yX2_lowest : MethodName := ⟨RX2, "lowest", "(II)I"⟩
abbrev cX2_spellOut : ByteArray := prog_4_method_4_code
def yX2_spellOut : MethodName := ⟨RX2, "spellOut", "(LArrayClaims$TermTable;I)V"⟩
abbrev cX2_spellOutNames : ByteArray := prog_4_method_5_code
def yX2_spellOutNames : MethodName := ⟨RX2, "spellOutNames", "(I)V"⟩
abbrev cX2_completes : ByteArray := prog_4_method_6_code
def yX2_completes : MethodName := ⟨RX2, "completes", "(LArrayClaims$TermTable;LArrayClaims$ClaimList;II)Z"⟩
abbrev cX2_holding : ByteArray := prog_4_method_7_code
def yX2_holding : MethodName := ⟨RX2, "holding", "(LArrayClaims$TermTable;LArrayClaims$ClaimList;I)I"⟩
abbrev cX2_rightness : ByteArray := prog_4_method_8_code
def yX2_rightness : MethodName := ⟨RX2, "rightness", "(LArrayClaims$TermTable;I)I"⟩
abbrev cX2_width : ByteArray := prog_4_method_9_code
def yX2_width : MethodName := ⟨RX2, "width", "(I)I"⟩
abbrev cX2_partLikeness : ByteArray := prog_4_method_10_code
def yX2_partLikeness : MethodName := ⟨RX2, "partLikeness", "(III)I"⟩
abbrev cX2_openSpot : ByteArray := prog_4_method_11_code
def yX2_openSpot : MethodName := ⟨RX2, "openSpot", "(LArrayClaims$TermTable;LArrayClaims$ClaimList;I)I"⟩
abbrev cX2_openSpotOf : ByteArray := prog_4_method_12_code
def yX2_openSpotOf : MethodName := ⟨RX2, "openSpotOf", "(LArrayClaims$TermTable;II)I"⟩
def RX3 : String := "ArrayClaims$TermTable"
def TX3 : u_T := fun k => match k with
  | 0 => ("ArrayClaims$TermTable", "sorts", "[I", true)
  | 1 => ("ArrayClaims$TermTable", "arrays", "[I", true)
  | 2 => ("ArrayClaims$TermTable", "indices", "[I", true)
  | 3 => ("ArrayClaims$TermTable", "elements", "[I", true)
  | _ => ("ArrayClaims$TermTable", "count", "I", false)
def tyX3 : Nat → FieldType := fun k => match k with
  | 0 => .array .int
  | 1 => .array .int
  | 2 => .array .int
  | 3 => .array .int
  | _ => .int
abbrev wsX30 : List Cond := u_ws RX3 TX3 5
theorem nmX3 : ∀ a, a < 5 → ∀ b, b < 5 → a ≠ b → (TX3 a).2.1 ≠ (TX3 b).2.1 := by decide +kernel
theorem tyX3_ok : ∀ k, k < 5 → parseFieldDescriptor (TX3 k).2.2.1 = some (tyX3 k) := by decide +kernel
abbrev cX3_init : ByteArray := prog_5_method_1_code
def yX3_init : MethodName := ⟨RX3, "<init>", "()V"⟩
abbrev cX3_has : ByteArray := prog_5_method_2_code
def yX3_has : MethodName := ⟨RX3, "has", "(I)Z"⟩
abbrev cX3_sortOf : ByteArray := prog_5_method_3_code
def yX3_sortOf : MethodName := ⟨RX3, "sortOf", "(I)I"⟩
abbrev cX3_find : ByteArray := prog_5_method_4_code
def yX3_find : MethodName := ⟨RX3, "find", "(IIII)I"⟩
abbrev cX3_add : ByteArray := prog_5_method_5_code
def yX3_add : MethodName := ⟨RX3, "add", "(IIII)I"⟩
def RX4 : String := "ArrayClaims"
def TX4 : u_T := fun k => match k with
  | 0 => ("ArrayClaims", "known", "LArrayClaims$TermTable;", true)
  | 1 => ("ArrayClaims", "made", "LArrayClaims$ClaimList;", true)
  | 2 => ("ArrayClaims", "drafted", "[I", true)
  | 3 => ("ArrayClaims", "draftSize", "I", false)
  | 4 => ("ArrayClaims", "asked", "LArrayClaims$ClaimList;", true)
  | _ => ("ArrayClaims", "search", "LArrayClaims$ReadingSearch;", true)
def tyX4 : Nat → FieldType := fun k => match k with
  | 0 => .object "ArrayClaims$TermTable"
  | 1 => .object "ArrayClaims$ClaimList"
  | 2 => .array .int
  | 3 => .int
  | 4 => .object "ArrayClaims$ClaimList"
  | _ => .object "ArrayClaims$ReadingSearch"
abbrev wsX40 : List Cond := u_ws RX4 TX4 6
theorem nmX4 : ∀ a, a < 6 → ∀ b, b < 6 → a ≠ b → (TX4 a).2.1 ≠ (TX4 b).2.1 := by decide +kernel
theorem tyX4_ok : ∀ k, k < 6 → parseFieldDescriptor (TX4 k).2.2.1 = some (tyX4 k) := by decide +kernel
abbrev cX4_init : ByteArray := prog_1_method_1_code
def yX4_init : MethodName := ⟨RX4, "<init>", "()V"⟩
abbrev cX4_select : ByteArray := prog_1_method_2_code
def yX4_select : MethodName := ⟨RX4, "select", "(II)I"⟩
abbrev cX4_store : ByteArray := prog_1_method_3_code
def yX4_store : MethodName := ⟨RX4, "store", "(III)I"⟩
abbrev cX4_terms : ByteArray := prog_1_method_4_code
def yX4_terms : MethodName := ⟨RX4, "terms", "()I"⟩
abbrev cX4_sort : ByteArray := prog_1_method_5_code
def yX4_sort : MethodName := ⟨RX4, "sort", "(I)I"⟩
abbrev cX4_literal : ByteArray := prog_1_method_6_code
def yX4_literal : MethodName := ⟨RX4, "literal", "(IIZ)I"⟩
abbrev cX4_draft : ByteArray := prog_1_method_7_code
def yX4_draft : MethodName := ⟨RX4, "draft", "()I"⟩
abbrev cX4_clear : ByteArray := prog_1_method_8_code
def yX4_clear : MethodName := ⟨RX4, "clear", "()V"⟩
abbrev cX4_claim : ByteArray := prog_1_method_9_code
def yX4_claim : MethodName := ⟨RX4, "claim", "()I"⟩
abbrev cX4_keep : ByteArray := prog_1_method_10_code
def yX4_keep : MethodName := ⟨RX4, "keep", "(I)Z"⟩
abbrev cX4_claims : ByteArray := prog_1_method_11_code
def yX4_claims : MethodName := ⟨RX4, "claims", "()I"⟩
abbrev cX4_can : ByteArray := prog_1_method_12_code
def yX4_can : MethodName := ⟨RX4, "can", "()Z"⟩
abbrev cX4_first : ByteArray := prog_1_method_13_code
def yX4_first : MethodName := ⟨RX4, "first", "()I"⟩
abbrev cX4_without : ByteArray := prog_1_method_14_code
def yX4_without : MethodName := ⟨RX4, "without", "(I)Z"⟩
abbrev cX4_same : ByteArray := prog_1_method_15_code
def yX4_same : MethodName := ⟨RX4, "same", "(II)I"⟩
abbrev cX4_follows : ByteArray := prog_1_method_16_code
def yX4_follows : MethodName := ⟨RX4, "follows", "()Z"⟩
abbrev cX4_apart : ByteArray := prog_1_method_17_code
def yX4_apart : MethodName := ⟨RX4, "apart", "(Z)I"⟩
abbrev cX4_termFor : ByteArray := prog_1_method_18_code
def yX4_termFor : MethodName := ⟨RX4, "termFor", "(IIII)I"⟩
abbrev cX4_checkPair : ByteArray := prog_1_method_19_code
def yX4_checkPair : MethodName := ⟨RX4, "checkPair", "(II)V"⟩
abbrev cX4_askClaims : ByteArray := prog_1_method_20_code
def yX4_askClaims : MethodName := ⟨RX4, "askClaims", "(II)V"⟩
abbrev cX4_isPossible : ByteArray := prog_1_method_21_code
def yX4_isPossible : MethodName := ⟨RX4, "isPossible", "()Z"⟩
def RX5 : String := "ArrayClaimsModel"
def TX5 : u_T := fun k => match k with
  | 0 => ("ArrayClaimsModel", "thrown", "I", false)
  | 1 => ("ArrayClaimsModel", "terms", "I", false)
  | 2 => ("ArrayClaimsModel", "sort", "[I", true)
  | 3 => ("ArrayClaimsModel", "kind", "[I", true)
  | 4 => ("ArrayClaimsModel", "first", "[I", true)
  | 5 => ("ArrayClaimsModel", "second", "[I", true)
  | 6 => ("ArrayClaimsModel", "third", "[I", true)
  | 7 => ("ArrayClaimsModel", "classOf", "[I", true)
  | 8 => ("ArrayClaimsModel", "classes", "[I", true)
  | 9 => ("ArrayClaimsModel", "code", "[I", true)
  | 10 => ("ArrayClaimsModel", "ways", "[I", true)
  | 11 => ("ArrayClaimsModel", "waysFrom", "[I", true)
  | 12 => ("ArrayClaimsModel", "howMany", "[I", true)
  | 13 => ("ArrayClaimsModel", "holds", "[I", true)
  | 14 => ("ArrayClaimsModel", "from", "[I", true)
  | 15 => ("ArrayClaimsModel", "claims", "I", false)
  | 16 => ("ArrayClaimsModel", "literals", "I", false)
  | 17 => ("ArrayClaimsModel", "left", "[I", true)
  | 18 => ("ArrayClaimsModel", "right", "[I", true)
  | _ => ("ArrayClaimsModel", "alike", "[Z", true)
def tyX5 : Nat → FieldType := fun k => match k with
  | 0 => .int
  | 1 => .int
  | 2 => .array .int
  | 3 => .array .int
  | 4 => .array .int
  | 5 => .array .int
  | 6 => .array .int
  | 7 => .array .int
  | 8 => .array .int
  | 9 => .array .int
  | 10 => .array .int
  | 11 => .array .int
  | 12 => .array .int
  | 13 => .array .int
  | 14 => .array .int
  | 15 => .int
  | 16 => .int
  | 17 => .array .int
  | 18 => .array .int
  | _ => .array .boolean
abbrev wsX50 : List Cond := u_ws RX5 TX5 20
theorem nmX5 : ∀ a, a < 20 → ∀ b, b < 20 → a ≠ b → (TX5 a).2.1 ≠ (TX5 b).2.1 := by decide +kernel
theorem tyX5_ok : ∀ k, k < 20 → parseFieldDescriptor (TX5 k).2.2.1 = some (tyX5 k) := by decide +kernel
abbrev cX5_init : ByteArray := prog_7_method_1_code
def yX5_init : MethodName := ⟨RX5, "<init>", "()V"⟩
abbrev cX5_thrown : ByteArray := prog_7_method_2_code
def yX5_thrown : MethodName := ⟨RX5, "thrown", "()I"⟩
abbrev cX5_fail : ByteArray := prog_7_method_3_code
def yX5_fail : MethodName := ⟨RX5, "fail", "(I)I"⟩
abbrev cX5_findWays : ByteArray := prog_7_method_4_code
def yX5_findWays : MethodName := ⟨RX5, "findWays", "(III)V"⟩
abbrev cX5_label : ByteArray := prog_7_method_5_code
def yX5_label : MethodName := ⟨RX5, "label", "(II)I"⟩
abbrev cX5_greatest : ByteArray := prog_7_method_6_code
def yX5_greatest : MethodName := ⟨RX5, "greatest", "(II)I"⟩
abbrev cX5_nextWay : ByteArray := prog_7_method_7_code
def yX5_nextWay : MethodName := ⟨RX5, "nextWay", "(II)I"⟩
abbrev cX5_isTerm : ByteArray := prog_7_method_8_code
def yX5_isTerm : MethodName := ⟨RX5, "isTerm", "(I)Z"⟩
abbrev cX5_part : ByteArray := prog_7_method_9_code
def yX5_part : MethodName := ⟨RX5, "part", "(II)I"⟩
abbrev cX5_found : ByteArray := prog_7_method_10_code
def yX5_found : MethodName := ⟨RX5, "found", "(IIII)I"⟩
abbrev cX5_make : ByteArray := prog_7_method_11_code
def yX5_make : MethodName := ⟨RX5, "make", "(IIII)I"⟩
abbrev cX5_select : ByteArray := prog_7_method_12_code
def yX5_select : MethodName := ⟨RX5, "select", "(II)I"⟩
abbrev cX5_store : ByteArray := prog_7_method_13_code
def yX5_store : MethodName := ⟨RX5, "store", "(III)I"⟩
abbrev cX5_terms : ByteArray := prog_7_method_14_code
def yX5_terms : MethodName := ⟨RX5, "terms", "()I"⟩
abbrev cX5_sort : ByteArray := prog_7_method_15_code
def yX5_sort : MethodName := ⟨RX5, "sort", "(I)I"⟩
abbrev cX5_areSame : ByteArray := prog_7_method_16_code
def yX5_areSame : MethodName := ⟨RX5, "areSame", "(IIIIZ)Z"⟩
abbrev cX5_sameIn : ByteArray := prog_7_method_17_code
def yX5_sameIn : MethodName := ⟨RX5, "sameIn", "(IIII)Z"⟩
abbrev cX5_draftHolds : ByteArray := prog_7_method_18_code
def yX5_draftHolds : MethodName := ⟨RX5, "draftHolds", "(II)Z"⟩
abbrev cX5_literal : ByteArray := prog_7_method_19_code
def yX5_literal : MethodName := ⟨RX5, "literal", "(IIZ)I"⟩
abbrev cX5_draft : ByteArray := prog_7_method_20_code
def yX5_draft : MethodName := ⟨RX5, "draft", "()I"⟩
abbrev cX5_clear : ByteArray := prog_7_method_21_code
def yX5_clear : MethodName := ⟨RX5, "clear", "()V"⟩
abbrev cX5_claim : ByteArray := prog_7_method_22_code
def yX5_claim : MethodName := ⟨RX5, "claim", "()I"⟩
abbrev cX5_keep : ByteArray := prog_7_method_23_code
def yX5_keep : MethodName := ⟨RX5, "keep", "(I)Z"⟩
abbrev cX5_claims : ByteArray := prog_7_method_24_code
def yX5_claims : MethodName := ⟨RX5, "claims", "()I"⟩
abbrev cX5_canHold : ByteArray := prog_7_method_25_code
def yX5_canHold : MethodName := ⟨RX5, "canHold", "(I)Z"⟩
abbrev cX5_all : ByteArray := prog_7_method_26_code
def yX5_all : MethodName := ⟨RX5, "all", "()I"⟩
abbrev cX5_can : ByteArray := prog_7_method_27_code
def yX5_can : MethodName := ⟨RX5, "can", "()Z"⟩
abbrev cX5_first : ByteArray := prog_7_method_28_code
def yX5_first : MethodName := ⟨RX5, "first", "()I"⟩
abbrev cX5_without : ByteArray := prog_7_method_29_code
def yX5_without : MethodName := ⟨RX5, "without", "(I)Z"⟩
abbrev cX5_same : ByteArray := prog_7_method_30_code
def yX5_same : MethodName := ⟨RX5, "same", "(II)I"⟩
abbrev cX5_follows : ByteArray := prog_7_method_31_code
def yX5_follows : MethodName := ⟨RX5, "follows", "()Z"⟩
abbrev cX5_apart : ByteArray := prog_7_method_32_code
def yX5_apart : MethodName := ⟨RX5, "apart", "(Z)I"⟩
def RJ7 : String := "java/util/Arrays"
def TJ7 : u_T := fun k => match k with
  | _ => ("", "", "", false)
def tyJ7 : Nat → FieldType := fun k => match k with
  | _ => .int
abbrev wsJ70 : List Cond := u_ws RJ7 TJ7 0
theorem nmJ7 : ∀ a, a < 0 → ∀ b, b < 0 → a ≠ b → (TJ7 a).2.1 ≠ (TJ7 b).2.1 := by decide +kernel
theorem tyJ7_ok : ∀ k, k < 0 → parseFieldDescriptor (TJ7 k).2.2.1 = some (tyJ7 k) := by decide +kernel
abbrev cJ7_fill_53178 : ByteArray := prog_15_method_103_code
def yJ7_fill_53178 : MethodName := ⟨RJ7, "fill", "([II)V"⟩
def RL : String := "ArrayClaimsLaw"
abbrev cL_select : ByteArray := method_3_code
def yL_select : MethodName := ⟨RL, "select", "(LArrayClaims;II[J)I"⟩
abbrev cL_store : ByteArray := method_4_code
def yL_store : MethodName := ⟨RL, "store", "(LArrayClaims;III[J)I"⟩
abbrev cL_literal : ByteArray := method_5_code
def yL_literal : MethodName := ⟨RL, "literal", "(LArrayClaims;IIZ[J)I"⟩
abbrev cL_claim : ByteArray := method_6_code
def yL_claim : MethodName := ⟨RL, "claim", "(LArrayClaims;[J)I"⟩
abbrev cL_without : ByteArray := method_7_code
def yL_without : MethodName := ⟨RL, "without", "(LArrayClaims;I[J)I"⟩
abbrev cL_same : ByteArray := method_8_code
def yL_same : MethodName := ⟨RL, "same", "(LArrayClaims;II[J)I"⟩
abbrev cL_follows : ByteArray := method_9_code
def yL_follows : MethodName := ⟨RL, "follows", "(LArrayClaims;[J)I"⟩
abbrev cL_apart : ByteArray := method_10_code
def yL_apart : MethodName := ⟨RL, "apart", "(LArrayClaims;Z[J)I"⟩
abbrev cL_law : ByteArray := code
def yL_law : MethodName := ⟨RL, "law", "([I)Z"⟩
def wsX0_init : List Cond := .code yX0_init cX0_init 2 none :: ([.methodLink RX0 3 objectInit, .instanceMethod objectInit, .code objectInit ⟨#[0xb1]⟩ 1 none, .arrayClass .int, .fieldLink RX0 9 "ArrayClaims$ClaimList" "literals" "[I", .fieldLink RX0 15 "ArrayClaims$ClaimList" "sizes" "[I", .fieldLink RX0 18 "ArrayClaims$ClaimList" "count" "I"] ++ wsX00)
def wsX0_add : List Cond := .code yX0_add cX0_add 5 none :: ([.fieldLink RX0 18 "ArrayClaims$ClaimList" "count" "I", .fieldLink RX0 15 "ArrayClaims$ClaimList" "sizes" "[I", .fieldLink RX0 9 "ArrayClaims$ClaimList" "literals" "[I"] ++ wsX00)
def wsX0_addFrom : List Cond := .code yX0_addFrom cX0_addFrom 3 none :: ([.fieldLink RX0 9 "ArrayClaims$ClaimList" "literals" "[I", .fieldLink RX0 15 "ArrayClaims$ClaimList" "sizes" "[I", .methodLink RX0 22 yX0_add, .instanceMethod yX0_add, .selects RX0 yX0_add yX0_add, .initialized RX0, .code yX0_add cX0_add 5 none, .fieldLink RX0 18 "ArrayClaims$ClaimList" "count" "I"] ++ wsX00)
def wsX0_addSingle : List Cond := .code yX0_addSingle cX0_addSingle 2 none :: ([.fieldLink RX0 18 "ArrayClaims$ClaimList" "count" "I", .fieldLink RX0 15 "ArrayClaims$ClaimList" "sizes" "[I", .fieldLink RX0 9 "ArrayClaims$ClaimList" "literals" "[I"] ++ wsX00)
def wsX0_cutTo : List Cond := .code yX0_cutTo cX0_cutTo 2 none :: ([.fieldLink RX0 18 "ArrayClaims$ClaimList" "count" "I"] ++ wsX00)
def wsX0_sizeOf : List Cond := .code yX0_sizeOf cX0_sizeOf 2 (some .int) :: ([.fieldLink RX0 15 "ArrayClaims$ClaimList" "sizes" "[I"] ++ wsX00)
def wsX0_at : List Cond := .code yX0_at cX0_at 3 (some .int) :: ([.fieldLink RX0 9 "ArrayClaims$ClaimList" "literals" "[I"] ++ wsX00)
def wsX1_of : List Cond := .code yX1_of cX1_of 3 (some .int) :: ([])
def wsX1_left : List Cond := .code yX1_left cX1_left 1 (some .int) :: ([])
def wsX1_right : List Cond := .code yX1_right cX1_right 1 (some .int) :: ([])
def wsX1_saysSame : List Cond := .code yX1_saysSame cX1_saysSame 1 (some .boolean) :: ([])
def wsX1_opposite : List Cond := .code yX1_opposite cX1_opposite 1 (some .int) :: ([])
def wsX2_init : List Cond := .code yX2_init cX2_init 1 none :: ([.methodLink RX2 5 objectInit, .instanceMethod objectInit, .code objectInit ⟨#[0xb1]⟩ 1 none, .arrayClass .int, .fieldLink RX2 11 "ArrayClaims$ReadingSearch" "parts" "[I", .fieldLink RX2 15 "ArrayClaims$ReadingSearch" "chosen" "[I"] ++ wsX20)
def wsX2_lowest : List Cond := .code yX2_lowest cX2_lowest 2 (some .int) :: ([.fieldLink RX2 35 "ArrayClaims$ReadingSearch" "LOWEST" "[I"])
def wsX2_spellOutNames : List Cond := .code yX2_spellOutNames cX2_spellOutNames 6 none :: ([.fieldLink RX2 11 "ArrayClaims$ReadingSearch" "parts" "[I", .methodLink RX2 54 yX2_lowest, .static yX2_lowest, .initialized RX2, .code yX2_lowest cX2_lowest 2 (some .int), .fieldLink RX2 35 "ArrayClaims$ReadingSearch" "LOWEST" "[I"] ++ wsX20)
def wsX2_spellOut : List Cond := .code yX2_spellOut cX2_spellOut 9 none :: ([.fieldLink RX2 11 "ArrayClaims$ReadingSearch" "parts" "[I", .methodLink RX2 38 yX2_spellOutNames, .instanceMethod yX2_spellOutNames, .selects RX2 yX2_spellOutNames yX2_spellOutNames, .initialized RX2, .code yX2_spellOutNames cX2_spellOutNames 6 none, .methodLink RX2 54 yX2_lowest, .static yX2_lowest, .code yX2_lowest cX2_lowest 2 (some .int), .fieldLink RX2 35 "ArrayClaims$ReadingSearch" "LOWEST" "[I"] ++ wsX30 ++ wsX20)
def wsJ7_fill_53178 : List Cond := .code yJ7_fill_53178 cJ7_fill_53178 4 none :: ([])
def wsX2_width : List Cond := .code yX2_width cX2_width 1 (some .int) :: ([])
def wsX2_partLikeness : List Cond := .code yX2_partLikeness cX2_partLikeness 4 (some .int) :: ([.fieldLink RX2 15 "ArrayClaims$ReadingSearch" "chosen" "[I"] ++ wsX20)
def wsX2_rightness : List Cond := .code yX2_rightness cX2_rightness 8 (some .int) :: ([.fieldLink RX2 11 "ArrayClaims$ReadingSearch" "parts" "[I", .methodLink RX2 85 yX1_left, .static yX1_left, .initialized RX1, .code yX1_left cX1_left 1 (some .int), .methodLink RX2 90 yX1_right, .static yX1_right, .code yX1_right cX1_right 1 (some .int), .methodLink RX2 93 yX2_width, .static yX2_width, .initialized RX2, .code yX2_width cX2_width 1 (some .int), .methodLink RX2 96 yX2_partLikeness, .instanceMethod yX2_partLikeness, .selects RX2 yX2_partLikeness yX2_partLikeness, .code yX2_partLikeness cX2_partLikeness 4 (some .int), .fieldLink RX2 15 "ArrayClaims$ReadingSearch" "chosen" "[I", .methodLink RX2 100 yX1_saysSame, .static yX1_saysSame, .code yX1_saysSame cX1_saysSame 1 (some .boolean)] ++ wsX30 ++ wsX20)
def wsX2_holding_r1 : List Cond := [Cond.methodLink RX2 74 yX0_sizeOf, Cond.instanceMethod yX0_sizeOf, Cond.selects RX0 yX0_sizeOf yX0_sizeOf, Cond.initialized RX0, Cond.code yX0_sizeOf cX0_sizeOf 2 (some .int), Cond.fieldLink RX0 15 "ArrayClaims$ClaimList" "sizes" "[I", Cond.methodLink RX2 78 yX0_at, Cond.instanceMethod yX0_at, Cond.selects RX0 yX0_at yX0_at, Cond.code yX0_at cX0_at 3 (some .int), Cond.fieldLink RX0 9 "ArrayClaims$ClaimList" "literals" "[I", Cond.methodLink RX2 81 yX2_rightness, Cond.instanceMethod yX2_rightness, Cond.selects RX2 yX2_rightness yX2_rightness, Cond.initialized RX2, Cond.code yX2_rightness cX2_rightness 8 (some .int), Cond.fieldLink RX2 11 "ArrayClaims$ReadingSearch" "parts" "[I", Cond.methodLink RX2 85 yX1_left, Cond.static yX1_left, Cond.initialized RX1, Cond.code yX1_left cX1_left 1 (some .int), Cond.methodLink RX2 90 yX1_right, Cond.static yX1_right, Cond.code yX1_right cX1_right 1 (some .int)]
def wsX2_holding_r2 : List Cond := [Cond.methodLink RX2 93 yX2_width, Cond.static yX2_width, Cond.code yX2_width cX2_width 1 (some .int), Cond.methodLink RX2 96 yX2_partLikeness, Cond.instanceMethod yX2_partLikeness, Cond.selects RX2 yX2_partLikeness yX2_partLikeness, Cond.code yX2_partLikeness cX2_partLikeness 4 (some .int), Cond.fieldLink RX2 15 "ArrayClaims$ReadingSearch" "chosen" "[I", Cond.methodLink RX2 100 yX1_saysSame, Cond.static yX1_saysSame, Cond.code yX1_saysSame cX1_saysSame 1 (some .boolean)]
def wsX2_holding : List Cond := .code yX2_holding cX2_holding 7 (some .int) :: ((wsX2_holding_r1 ++ wsX2_holding_r2) ++ wsX00 ++ wsX30 ++ wsX20)
def wsX2_openSpotOf : List Cond := .code yX2_openSpotOf cX2_openSpotOf 8 (some .int) :: ([.fieldLink RX2 11 "ArrayClaims$ReadingSearch" "parts" "[I", .fieldLink RX2 15 "ArrayClaims$ReadingSearch" "chosen" "[I", .methodLink RX2 93 yX2_width, .static yX2_width, .initialized RX2, .code yX2_width cX2_width 1 (some .int), .methodLink RX2 96 yX2_partLikeness, .instanceMethod yX2_partLikeness, .selects RX2 yX2_partLikeness yX2_partLikeness, .code yX2_partLikeness cX2_partLikeness 4 (some .int)] ++ wsX30 ++ wsX20)
def wsX2_openSpot_r1 : List Cond := [Cond.methodLink RX2 74 yX0_sizeOf, Cond.instanceMethod yX0_sizeOf, Cond.selects RX0 yX0_sizeOf yX0_sizeOf, Cond.initialized RX0, Cond.code yX0_sizeOf cX0_sizeOf 2 (some .int), Cond.fieldLink RX0 15 "ArrayClaims$ClaimList" "sizes" "[I", Cond.methodLink RX2 78 yX0_at, Cond.instanceMethod yX0_at, Cond.selects RX0 yX0_at yX0_at, Cond.code yX0_at cX0_at 3 (some .int), Cond.fieldLink RX0 9 "ArrayClaims$ClaimList" "literals" "[I", Cond.methodLink RX2 81 yX2_rightness, Cond.instanceMethod yX2_rightness, Cond.selects RX2 yX2_rightness yX2_rightness, Cond.initialized RX2, Cond.code yX2_rightness cX2_rightness 8 (some .int), Cond.fieldLink RX2 11 "ArrayClaims$ReadingSearch" "parts" "[I", Cond.methodLink RX2 85 yX1_left, Cond.static yX1_left, Cond.initialized RX1, Cond.code yX1_left cX1_left 1 (some .int), Cond.methodLink RX2 90 yX1_right, Cond.static yX1_right, Cond.code yX1_right cX1_right 1 (some .int)]
def wsX2_openSpot_r2 : List Cond := [Cond.methodLink RX2 93 yX2_width, Cond.static yX2_width, Cond.code yX2_width cX2_width 1 (some .int), Cond.methodLink RX2 96 yX2_partLikeness, Cond.instanceMethod yX2_partLikeness, Cond.selects RX2 yX2_partLikeness yX2_partLikeness, Cond.code yX2_partLikeness cX2_partLikeness 4 (some .int), Cond.fieldLink RX2 15 "ArrayClaims$ReadingSearch" "chosen" "[I", Cond.methodLink RX2 100 yX1_saysSame, Cond.static yX1_saysSame, Cond.code yX1_saysSame cX1_saysSame 1 (some .boolean), Cond.methodLink RX2 104 yX2_openSpotOf, Cond.instanceMethod yX2_openSpotOf, Cond.selects RX2 yX2_openSpotOf yX2_openSpotOf, Cond.code yX2_openSpotOf cX2_openSpotOf 8 (some .int)]
def wsX2_openSpot : List Cond := .code yX2_openSpot cX2_openSpot 6 (some .int) :: ((wsX2_openSpot_r1 ++ wsX2_openSpot_r2) ++ wsX00 ++ wsX30 ++ wsX20)
def wsX2_completes_r1 : List Cond := [Cond.fieldLink RX2 15 "ArrayClaims$ReadingSearch" "chosen" "[I", Cond.methodLink RX2 67 yX2_holding, Cond.instanceMethod yX2_holding, Cond.selects RX2 yX2_holding yX2_holding, Cond.initialized RX2, Cond.code yX2_holding cX2_holding 7 (some .int), Cond.methodLink RX2 74 yX0_sizeOf, Cond.instanceMethod yX0_sizeOf, Cond.selects RX0 yX0_sizeOf yX0_sizeOf, Cond.initialized RX0, Cond.code yX0_sizeOf cX0_sizeOf 2 (some .int), Cond.fieldLink RX0 15 "ArrayClaims$ClaimList" "sizes" "[I", Cond.methodLink RX2 78 yX0_at, Cond.instanceMethod yX0_at, Cond.selects RX0 yX0_at yX0_at, Cond.code yX0_at cX0_at 3 (some .int), Cond.fieldLink RX0 9 "ArrayClaims$ClaimList" "literals" "[I", Cond.methodLink RX2 81 yX2_rightness, Cond.instanceMethod yX2_rightness, Cond.selects RX2 yX2_rightness yX2_rightness, Cond.code yX2_rightness cX2_rightness 8 (some .int), Cond.fieldLink RX2 11 "ArrayClaims$ReadingSearch" "parts" "[I", Cond.methodLink RX2 85 yX1_left, Cond.static yX1_left]
def wsX2_completes_r2 : List Cond := [Cond.initialized RX1, Cond.code yX1_left cX1_left 1 (some .int), Cond.methodLink RX2 90 yX1_right, Cond.static yX1_right, Cond.code yX1_right cX1_right 1 (some .int), Cond.methodLink RX2 93 yX2_width, Cond.static yX2_width, Cond.code yX2_width cX2_width 1 (some .int), Cond.methodLink RX2 96 yX2_partLikeness, Cond.instanceMethod yX2_partLikeness, Cond.selects RX2 yX2_partLikeness yX2_partLikeness, Cond.code yX2_partLikeness cX2_partLikeness 4 (some .int), Cond.methodLink RX2 100 yX1_saysSame, Cond.static yX1_saysSame, Cond.code yX1_saysSame cX1_saysSame 1 (some .boolean), Cond.methodLink RX2 71 yX2_openSpot, Cond.instanceMethod yX2_openSpot, Cond.selects RX2 yX2_openSpot yX2_openSpot, Cond.code yX2_openSpot cX2_openSpot 6 (some .int), Cond.methodLink RX2 104 yX2_openSpotOf, Cond.instanceMethod yX2_openSpotOf, Cond.selects RX2 yX2_openSpotOf yX2_openSpotOf, Cond.code yX2_openSpotOf cX2_openSpotOf 8 (some .int), Cond.methodLink RX2 31 yX2_completes]
def wsX2_completes_r3 : List Cond := [Cond.instanceMethod yX2_completes, Cond.selects RX2 yX2_completes yX2_completes]
def wsX2_completes : List Cond := .code yX2_completes cX2_completes 10 (some .boolean) :: ((wsX2_completes_r1 ++ (wsX2_completes_r2 ++ wsX2_completes_r3)) ++ wsX00 ++ wsX20 ++ wsX30)
def wsX2_finds_r1 : List Cond := [Cond.fieldLink RX2 18 "ArrayClaims$ReadingSearch" "DIFFERENT" "[I", Cond.fieldLink RX2 15 "ArrayClaims$ReadingSearch" "chosen" "[I", Cond.methodLink RX2 21 yX2_spellOut, Cond.instanceMethod yX2_spellOut, Cond.selects RX2 yX2_spellOut yX2_spellOut, Cond.initialized RX2, Cond.code yX2_spellOut cX2_spellOut 9 none, Cond.fieldLink RX2 11 "ArrayClaims$ReadingSearch" "parts" "[I", Cond.methodLink RX2 38 yX2_spellOutNames, Cond.instanceMethod yX2_spellOutNames, Cond.selects RX2 yX2_spellOutNames yX2_spellOutNames, Cond.code yX2_spellOutNames cX2_spellOutNames 6 none, Cond.methodLink RX2 54 yX2_lowest, Cond.static yX2_lowest, Cond.code yX2_lowest cX2_lowest 2 (some .int), Cond.fieldLink RX2 35 "ArrayClaims$ReadingSearch" "LOWEST" "[I", Cond.methodLink RX2 25 yJ7_fill_53178, Cond.static yJ7_fill_53178, Cond.initialized RJ7, Cond.code yJ7_fill_53178 cJ7_fill_53178 4 none, Cond.methodLink RX2 31 yX2_completes, Cond.instanceMethod yX2_completes, Cond.selects RX2 yX2_completes yX2_completes, Cond.code yX2_completes cX2_completes 10 (some .boolean)]
def wsX2_finds_r2 : List Cond := [Cond.methodLink RX2 67 yX2_holding, Cond.instanceMethod yX2_holding, Cond.selects RX2 yX2_holding yX2_holding, Cond.code yX2_holding cX2_holding 7 (some .int), Cond.methodLink RX2 74 yX0_sizeOf, Cond.instanceMethod yX0_sizeOf, Cond.selects RX0 yX0_sizeOf yX0_sizeOf, Cond.initialized RX0, Cond.code yX0_sizeOf cX0_sizeOf 2 (some .int), Cond.fieldLink RX0 15 "ArrayClaims$ClaimList" "sizes" "[I", Cond.methodLink RX2 78 yX0_at, Cond.instanceMethod yX0_at, Cond.selects RX0 yX0_at yX0_at, Cond.code yX0_at cX0_at 3 (some .int), Cond.fieldLink RX0 9 "ArrayClaims$ClaimList" "literals" "[I", Cond.methodLink RX2 81 yX2_rightness, Cond.instanceMethod yX2_rightness, Cond.selects RX2 yX2_rightness yX2_rightness, Cond.code yX2_rightness cX2_rightness 8 (some .int), Cond.methodLink RX2 85 yX1_left, Cond.static yX1_left, Cond.initialized RX1, Cond.code yX1_left cX1_left 1 (some .int), Cond.methodLink RX2 90 yX1_right]
def wsX2_finds_r3 : List Cond := [Cond.static yX1_right, Cond.code yX1_right cX1_right 1 (some .int), Cond.methodLink RX2 93 yX2_width, Cond.static yX2_width, Cond.code yX2_width cX2_width 1 (some .int), Cond.methodLink RX2 96 yX2_partLikeness, Cond.instanceMethod yX2_partLikeness, Cond.selects RX2 yX2_partLikeness yX2_partLikeness, Cond.code yX2_partLikeness cX2_partLikeness 4 (some .int), Cond.methodLink RX2 100 yX1_saysSame, Cond.static yX1_saysSame, Cond.code yX1_saysSame cX1_saysSame 1 (some .boolean), Cond.methodLink RX2 71 yX2_openSpot, Cond.instanceMethod yX2_openSpot, Cond.selects RX2 yX2_openSpot yX2_openSpot, Cond.code yX2_openSpot cX2_openSpot 6 (some .int), Cond.methodLink RX2 104 yX2_openSpotOf, Cond.instanceMethod yX2_openSpotOf, Cond.selects RX2 yX2_openSpotOf yX2_openSpotOf, Cond.code yX2_openSpotOf cX2_openSpotOf 8 (some .int)]
def wsX2_finds : List Cond := .code yX2_finds cX2_finds 6 (some .boolean) :: ((wsX2_finds_r1 ++ (wsX2_finds_r2 ++ wsX2_finds_r3)) ++ wsX20 ++ wsX30 ++ wsX00)
def wsX3_init : List Cond := .code yX3_init cX3_init 2 none :: ([.methodLink RX3 3 objectInit, .instanceMethod objectInit, .code objectInit ⟨#[0xb1]⟩ 1 none, .arrayClass .int, .fieldLink RX3 9 "ArrayClaims$TermTable" "sorts" "[I", .fieldLink RX3 15 "ArrayClaims$TermTable" "arrays" "[I", .fieldLink RX3 18 "ArrayClaims$TermTable" "indices" "[I", .fieldLink RX3 21 "ArrayClaims$TermTable" "elements" "[I", .fieldLink RX3 24 "ArrayClaims$TermTable" "count" "I"] ++ wsX30)
def wsX3_has : List Cond := .code yX3_has cX3_has 2 (some .boolean) :: ([.fieldLink RX3 24 "ArrayClaims$TermTable" "count" "I"] ++ wsX30)
def wsX3_sortOf : List Cond := .code yX3_sortOf cX3_sortOf 2 (some .int) :: ([.fieldLink RX3 9 "ArrayClaims$TermTable" "sorts" "[I", .methodLink RX3 28 yX3_has, .instanceMethod yX3_has, .selects RX3 yX3_has yX3_has, .initialized RX3, .code yX3_has cX3_has 2 (some .boolean), .fieldLink RX3 24 "ArrayClaims$TermTable" "count" "I"] ++ wsX30)
def wsX3_find : List Cond := .code yX3_find cX3_find 6 (some .int) :: ([.fieldLink RX3 24 "ArrayClaims$TermTable" "count" "I", .fieldLink RX3 9 "ArrayClaims$TermTable" "sorts" "[I", .fieldLink RX3 15 "ArrayClaims$TermTable" "arrays" "[I", .fieldLink RX3 18 "ArrayClaims$TermTable" "indices" "[I", .fieldLink RX3 21 "ArrayClaims$TermTable" "elements" "[I"] ++ wsX30)
def wsX3_add : List Cond := .code yX3_add cX3_add 5 (some .int) :: ([.fieldLink RX3 24 "ArrayClaims$TermTable" "count" "I", .fieldLink RX3 9 "ArrayClaims$TermTable" "sorts" "[I", .fieldLink RX3 15 "ArrayClaims$TermTable" "arrays" "[I", .fieldLink RX3 18 "ArrayClaims$TermTable" "indices" "[I", .fieldLink RX3 21 "ArrayClaims$TermTable" "elements" "[I"] ++ wsX30)
def wsX4_init_r1 : List Cond := [Cond.methodLink RX4 3 objectInit, Cond.instanceMethod objectInit, Cond.code objectInit ⟨#[0xb1]⟩ 1 none, Cond.classLink RX4 9 RX3, Cond.instantiable RX3 5, Cond.initialized RX3, Cond.fieldLink RX4 12 "ArrayClaims" "known" "LArrayClaims$TermTable;", Cond.classLink RX4 16 RX0, Cond.instantiable RX0 3, Cond.initialized RX0, Cond.fieldLink RX4 21 "ArrayClaims" "made" "LArrayClaims$ClaimList;", Cond.arrayClass .int, Cond.fieldLink RX4 25 "ArrayClaims" "drafted" "[I", Cond.fieldLink RX4 29 "ArrayClaims" "draftSize" "I", Cond.fieldLink RX4 33 "ArrayClaims" "asked" "LArrayClaims$ClaimList;", Cond.classLink RX4 36 RX2, Cond.instantiable RX2 2, Cond.initialized RX2, Cond.fieldLink RX4 39 "ArrayClaims" "search" "LArrayClaims$ReadingSearch;", Cond.methodLink RX4 11 yX3_init, Cond.instanceMethod yX3_init, Cond.code yX3_init cX3_init 2 none, Cond.methodLink RX3 3 objectInit, Cond.fieldLink RX3 9 "ArrayClaims$TermTable" "sorts" "[I"]
def wsX4_init_r2 : List Cond := [Cond.fieldLink RX3 15 "ArrayClaims$TermTable" "arrays" "[I", Cond.fieldLink RX3 18 "ArrayClaims$TermTable" "indices" "[I", Cond.fieldLink RX3 21 "ArrayClaims$TermTable" "elements" "[I", Cond.fieldLink RX3 24 "ArrayClaims$TermTable" "count" "I", Cond.methodLink RX4 18 yX0_init, Cond.instanceMethod yX0_init, Cond.code yX0_init cX0_init 2 none, Cond.methodLink RX0 3 objectInit, Cond.fieldLink RX0 9 "ArrayClaims$ClaimList" "literals" "[I", Cond.fieldLink RX0 15 "ArrayClaims$ClaimList" "sizes" "[I", Cond.fieldLink RX0 18 "ArrayClaims$ClaimList" "count" "I", Cond.instanceMethod yX2_init, Cond.code yX2_init cX2_init 1 none, Cond.methodLink RX2 5 objectInit, Cond.fieldLink RX2 11 "ArrayClaims$ReadingSearch" "parts" "[I", Cond.fieldLink RX2 15 "ArrayClaims$ReadingSearch" "chosen" "[I"]
def wsX4_init : List Cond := .code yX4_init cX4_init 1 none :: ((wsX4_init_r1 ++ wsX4_init_r2) ++ wsX30 ++ wsX40 ++ wsX00 ++ wsX20)
def wsX4_select_r1 : List Cond := [Cond.classLink RX4 47 "java/lang/IndexOutOfBoundsException", Cond.initialized "java/lang/IndexOutOfBoundsException", Cond.classLink RX4 54 "java/lang/IllegalArgumentException", Cond.initialized "java/lang/IllegalArgumentException", Cond.fieldLink RX4 12 "ArrayClaims" "known" "LArrayClaims$TermTable;", Cond.methodLink RX4 43 yX3_has, Cond.instanceMethod yX3_has, Cond.selects RX3 yX3_has yX3_has, Cond.initialized RX3, Cond.code yX3_has cX3_has 2 (some .boolean), Cond.fieldLink RX3 24 "ArrayClaims$TermTable" "count" "I", Cond.methodLink RX4 50 yX3_sortOf, Cond.instanceMethod yX3_sortOf, Cond.selects RX3 yX3_sortOf yX3_sortOf, Cond.code yX3_sortOf cX3_sortOf 2 (some .int), Cond.fieldLink RX3 9 "ArrayClaims$TermTable" "sorts" "[I", Cond.methodLink RX3 28 yX3_has, Cond.methodLink RX4 57 yX4_termFor, Cond.instanceMethod yX4_termFor, Cond.selects RX4 yX4_termFor yX4_termFor, Cond.initialized RX4, Cond.code yX4_termFor cX4_termFor 6 (some .int), Cond.classLink RX4 78 "java/lang/UnsupportedOperationException", Cond.initialized "java/lang/UnsupportedOperationException"]
def wsX4_select_r2 : List Cond := [Cond.methodLink RX4 105 yX3_find, Cond.instanceMethod yX3_find, Cond.selects RX3 yX3_find yX3_find, Cond.code yX3_find cX3_find 6 (some .int), Cond.fieldLink RX3 15 "ArrayClaims$TermTable" "arrays" "[I", Cond.fieldLink RX3 18 "ArrayClaims$TermTable" "indices" "[I", Cond.fieldLink RX3 21 "ArrayClaims$TermTable" "elements" "[I", Cond.methodLink RX4 108 yX3_add, Cond.instanceMethod yX3_add, Cond.selects RX3 yX3_add yX3_add, Cond.code yX3_add cX3_add 5 (some .int)]
def wsX4_store_r1 : List Cond := [Cond.classLink RX4 47 "java/lang/IndexOutOfBoundsException", Cond.initialized "java/lang/IndexOutOfBoundsException", Cond.classLink RX4 54 "java/lang/IllegalArgumentException", Cond.initialized "java/lang/IllegalArgumentException", Cond.fieldLink RX4 12 "ArrayClaims" "known" "LArrayClaims$TermTable;", Cond.methodLink RX4 43 yX3_has, Cond.instanceMethod yX3_has, Cond.selects RX3 yX3_has yX3_has, Cond.initialized RX3, Cond.code yX3_has cX3_has 2 (some .boolean), Cond.fieldLink RX3 24 "ArrayClaims$TermTable" "count" "I", Cond.methodLink RX4 50 yX3_sortOf, Cond.instanceMethod yX3_sortOf, Cond.selects RX3 yX3_sortOf yX3_sortOf, Cond.code yX3_sortOf cX3_sortOf 2 (some .int), Cond.fieldLink RX3 9 "ArrayClaims$TermTable" "sorts" "[I", Cond.methodLink RX3 28 yX3_has, Cond.methodLink RX4 57 yX4_termFor, Cond.instanceMethod yX4_termFor, Cond.selects RX4 yX4_termFor yX4_termFor, Cond.initialized RX4, Cond.code yX4_termFor cX4_termFor 6 (some .int), Cond.classLink RX4 78 "java/lang/UnsupportedOperationException", Cond.initialized "java/lang/UnsupportedOperationException"]
def wsX4_store_r2 : List Cond := [Cond.methodLink RX4 105 yX3_find, Cond.instanceMethod yX3_find, Cond.selects RX3 yX3_find yX3_find, Cond.code yX3_find cX3_find 6 (some .int), Cond.fieldLink RX3 15 "ArrayClaims$TermTable" "arrays" "[I", Cond.fieldLink RX3 18 "ArrayClaims$TermTable" "indices" "[I", Cond.fieldLink RX3 21 "ArrayClaims$TermTable" "elements" "[I", Cond.methodLink RX4 108 yX3_add, Cond.instanceMethod yX3_add, Cond.selects RX3 yX3_add yX3_add, Cond.code yX3_add cX3_add 5 (some .int)]
def wsX4_terms : List Cond := .code yX4_terms cX4_terms 1 (some .int) :: ([.fieldLink RX4 12 "ArrayClaims" "known" "LArrayClaims$TermTable;"] ++ wsX40 ++ wsX30)
def wsX4_sort : List Cond := .code yX4_sort cX4_sort 2 (some .int) :: ([.fieldLink RX4 12 "ArrayClaims" "known" "LArrayClaims$TermTable;", .methodLink RX4 50 yX3_sortOf, .instanceMethod yX3_sortOf, .selects RX3 yX3_sortOf yX3_sortOf, .initialized RX3, .code yX3_sortOf cX3_sortOf 2 (some .int), .fieldLink RX3 9 "ArrayClaims$TermTable" "sorts" "[I", .methodLink RX3 28 yX3_has, .instanceMethod yX3_has, .selects RX3 yX3_has yX3_has, .code yX3_has cX3_has 2 (some .boolean), .fieldLink RX3 24 "ArrayClaims$TermTable" "count" "I"] ++ wsX40 ++ wsX30)
def wsX4_literal_r1 : List Cond := [Cond.classLink RX4 68 "java/lang/IllegalStateException", Cond.initialized "java/lang/IllegalStateException", Cond.fieldLink RX4 29 "ArrayClaims" "draftSize" "I", Cond.fieldLink RX4 25 "ArrayClaims" "drafted" "[I", Cond.methodLink RX4 64 yX4_checkPair, Cond.instanceMethod yX4_checkPair, Cond.selects RX4 yX4_checkPair yX4_checkPair, Cond.initialized RX4, Cond.code yX4_checkPair cX4_checkPair 3 none, Cond.classLink RX4 47 "java/lang/IndexOutOfBoundsException", Cond.initialized "java/lang/IndexOutOfBoundsException", Cond.classLink RX4 54 "java/lang/IllegalArgumentException", Cond.initialized "java/lang/IllegalArgumentException", Cond.fieldLink RX4 12 "ArrayClaims" "known" "LArrayClaims$TermTable;", Cond.methodLink RX4 43 yX3_has, Cond.instanceMethod yX3_has, Cond.selects RX3 yX3_has yX3_has, Cond.initialized RX3, Cond.code yX3_has cX3_has 2 (some .boolean), Cond.fieldLink RX3 24 "ArrayClaims$TermTable" "count" "I", Cond.methodLink RX4 50 yX3_sortOf, Cond.instanceMethod yX3_sortOf, Cond.selects RX3 yX3_sortOf yX3_sortOf, Cond.code yX3_sortOf cX3_sortOf 2 (some .int)]
def wsX4_literal_r2 : List Cond := [Cond.fieldLink RX3 9 "ArrayClaims$TermTable" "sorts" "[I", Cond.methodLink RX3 28 yX3_has, Cond.methodLink RX4 71 yX1_of, Cond.static yX1_of, Cond.initialized RX1, Cond.code yX1_of cX1_of 3 (some .int)]
def wsX4_draft : List Cond := .code yX4_draft cX4_draft 1 (some .int) :: ([.fieldLink RX4 29 "ArrayClaims" "draftSize" "I"] ++ wsX40)
def wsX4_clear : List Cond := .code yX4_clear cX4_clear 1 none :: ([.fieldLink RX4 29 "ArrayClaims" "draftSize" "I"] ++ wsX40)
def wsX4_keep : List Cond := .code yX4_keep cX4_keep 2 (some .boolean) :: ([.fieldLink RX4 21 "ArrayClaims" "made" "LArrayClaims$ClaimList;", .methodLink RX4 85 yX0_cutTo, .instanceMethod yX0_cutTo, .selects RX0 yX0_cutTo yX0_cutTo, .initialized RX0, .code yX0_cutTo cX0_cutTo 2 none, .fieldLink RX0 18 "ArrayClaims$ClaimList" "count" "I"] ++ wsX40 ++ wsX00)
def wsX4_claims : List Cond := .code yX4_claims cX4_claims 1 (some .int) :: ([.fieldLink RX4 21 "ArrayClaims" "made" "LArrayClaims$ClaimList;"] ++ wsX40 ++ wsX00)
def wsX4_askClaims : List Cond := .code yX4_askClaims cX4_askClaims 4 none :: ([.fieldLink RX4 33 "ArrayClaims" "asked" "LArrayClaims$ClaimList;", .fieldLink RX4 21 "ArrayClaims" "made" "LArrayClaims$ClaimList;", .methodLink RX4 85 yX0_cutTo, .instanceMethod yX0_cutTo, .selects RX0 yX0_cutTo yX0_cutTo, .initialized RX0, .code yX0_cutTo cX0_cutTo 2 none, .fieldLink RX0 18 "ArrayClaims$ClaimList" "count" "I", .methodLink RX4 110 yX0_addFrom, .instanceMethod yX0_addFrom, .selects RX0 yX0_addFrom yX0_addFrom, .code yX0_addFrom cX0_addFrom 3 none, .fieldLink RX0 9 "ArrayClaims$ClaimList" "literals" "[I", .fieldLink RX0 15 "ArrayClaims$ClaimList" "sizes" "[I", .methodLink RX0 22 yX0_add, .instanceMethod yX0_add, .selects RX0 yX0_add yX0_add, .code yX0_add cX0_add 5 none] ++ wsX40 ++ wsX00)
def wsX4_isPossible_r1 : List Cond := [Cond.fieldLink RX4 39 "ArrayClaims" "search" "LArrayClaims$ReadingSearch;", Cond.fieldLink RX4 12 "ArrayClaims" "known" "LArrayClaims$TermTable;", Cond.fieldLink RX4 33 "ArrayClaims" "asked" "LArrayClaims$ClaimList;", Cond.methodLink RX4 101 yX2_finds, Cond.instanceMethod yX2_finds, Cond.selects RX2 yX2_finds yX2_finds, Cond.initialized RX2, Cond.code yX2_finds cX2_finds 6 (some .boolean), Cond.fieldLink RX2 18 "ArrayClaims$ReadingSearch" "DIFFERENT" "[I", Cond.fieldLink RX2 15 "ArrayClaims$ReadingSearch" "chosen" "[I", Cond.methodLink RX2 21 yX2_spellOut, Cond.instanceMethod yX2_spellOut, Cond.selects RX2 yX2_spellOut yX2_spellOut, Cond.code yX2_spellOut cX2_spellOut 9 none, Cond.fieldLink RX2 11 "ArrayClaims$ReadingSearch" "parts" "[I", Cond.methodLink RX2 38 yX2_spellOutNames, Cond.instanceMethod yX2_spellOutNames, Cond.selects RX2 yX2_spellOutNames yX2_spellOutNames, Cond.code yX2_spellOutNames cX2_spellOutNames 6 none, Cond.methodLink RX2 54 yX2_lowest, Cond.static yX2_lowest, Cond.code yX2_lowest cX2_lowest 2 (some .int), Cond.fieldLink RX2 35 "ArrayClaims$ReadingSearch" "LOWEST" "[I", Cond.methodLink RX2 25 yJ7_fill_53178]
def wsX4_isPossible_r2 : List Cond := [Cond.static yJ7_fill_53178, Cond.initialized RJ7, Cond.code yJ7_fill_53178 cJ7_fill_53178 4 none, Cond.methodLink RX2 31 yX2_completes, Cond.instanceMethod yX2_completes, Cond.selects RX2 yX2_completes yX2_completes, Cond.code yX2_completes cX2_completes 10 (some .boolean), Cond.methodLink RX2 67 yX2_holding, Cond.instanceMethod yX2_holding, Cond.selects RX2 yX2_holding yX2_holding, Cond.code yX2_holding cX2_holding 7 (some .int), Cond.methodLink RX2 74 yX0_sizeOf, Cond.instanceMethod yX0_sizeOf, Cond.selects RX0 yX0_sizeOf yX0_sizeOf, Cond.initialized RX0, Cond.code yX0_sizeOf cX0_sizeOf 2 (some .int), Cond.fieldLink RX0 15 "ArrayClaims$ClaimList" "sizes" "[I", Cond.methodLink RX2 78 yX0_at, Cond.instanceMethod yX0_at, Cond.selects RX0 yX0_at yX0_at, Cond.code yX0_at cX0_at 3 (some .int), Cond.fieldLink RX0 9 "ArrayClaims$ClaimList" "literals" "[I", Cond.methodLink RX2 81 yX2_rightness, Cond.instanceMethod yX2_rightness]
def wsX4_isPossible_r3 : List Cond := [Cond.selects RX2 yX2_rightness yX2_rightness, Cond.code yX2_rightness cX2_rightness 8 (some .int), Cond.methodLink RX2 85 yX1_left, Cond.static yX1_left, Cond.initialized RX1, Cond.code yX1_left cX1_left 1 (some .int), Cond.methodLink RX2 90 yX1_right, Cond.static yX1_right, Cond.code yX1_right cX1_right 1 (some .int), Cond.methodLink RX2 93 yX2_width, Cond.static yX2_width, Cond.code yX2_width cX2_width 1 (some .int), Cond.methodLink RX2 96 yX2_partLikeness, Cond.instanceMethod yX2_partLikeness, Cond.selects RX2 yX2_partLikeness yX2_partLikeness, Cond.code yX2_partLikeness cX2_partLikeness 4 (some .int), Cond.methodLink RX2 100 yX1_saysSame, Cond.static yX1_saysSame, Cond.code yX1_saysSame cX1_saysSame 1 (some .boolean), Cond.methodLink RX2 71 yX2_openSpot, Cond.instanceMethod yX2_openSpot, Cond.selects RX2 yX2_openSpot yX2_openSpot, Cond.code yX2_openSpot cX2_openSpot 6 (some .int), Cond.methodLink RX2 104 yX2_openSpotOf]
def wsX4_isPossible_r4 : List Cond := [Cond.instanceMethod yX2_openSpotOf, Cond.selects RX2 yX2_openSpotOf yX2_openSpotOf, Cond.code yX2_openSpotOf cX2_openSpotOf 8 (some .int)]
def wsX4_isPossible : List Cond := .code yX4_isPossible cX4_isPossible 1 (some .boolean) :: ((wsX4_isPossible_r1 ++ (wsX4_isPossible_r2 ++ (wsX4_isPossible_r3 ++ wsX4_isPossible_r4))) ++ wsX40 ++ wsX20 ++ wsX30 ++ wsX00)
def wsX4_can_r1 : List Cond := [Cond.fieldLink RX4 21 "ArrayClaims" "made" "LArrayClaims$ClaimList;", Cond.methodLink RX4 88 yX4_askClaims, Cond.instanceMethod yX4_askClaims, Cond.selects RX4 yX4_askClaims yX4_askClaims, Cond.initialized RX4, Cond.code yX4_askClaims cX4_askClaims 4 none, Cond.fieldLink RX4 33 "ArrayClaims" "asked" "LArrayClaims$ClaimList;", Cond.methodLink RX4 85 yX0_cutTo, Cond.instanceMethod yX0_cutTo, Cond.selects RX0 yX0_cutTo yX0_cutTo, Cond.initialized RX0, Cond.code yX0_cutTo cX0_cutTo 2 none, Cond.fieldLink RX0 18 "ArrayClaims$ClaimList" "count" "I", Cond.methodLink RX4 110 yX0_addFrom, Cond.instanceMethod yX0_addFrom, Cond.selects RX0 yX0_addFrom yX0_addFrom, Cond.code yX0_addFrom cX0_addFrom 3 none, Cond.fieldLink RX0 9 "ArrayClaims$ClaimList" "literals" "[I", Cond.fieldLink RX0 15 "ArrayClaims$ClaimList" "sizes" "[I", Cond.methodLink RX0 22 yX0_add, Cond.instanceMethod yX0_add, Cond.selects RX0 yX0_add yX0_add, Cond.code yX0_add cX0_add 5 none, Cond.methodLink RX4 91 yX4_isPossible]
def wsX4_can_r2 : List Cond := [Cond.instanceMethod yX4_isPossible, Cond.selects RX4 yX4_isPossible yX4_isPossible, Cond.code yX4_isPossible cX4_isPossible 1 (some .boolean), Cond.fieldLink RX4 39 "ArrayClaims" "search" "LArrayClaims$ReadingSearch;", Cond.fieldLink RX4 12 "ArrayClaims" "known" "LArrayClaims$TermTable;", Cond.methodLink RX4 101 yX2_finds, Cond.instanceMethod yX2_finds, Cond.selects RX2 yX2_finds yX2_finds, Cond.initialized RX2, Cond.code yX2_finds cX2_finds 6 (some .boolean), Cond.fieldLink RX2 18 "ArrayClaims$ReadingSearch" "DIFFERENT" "[I", Cond.fieldLink RX2 15 "ArrayClaims$ReadingSearch" "chosen" "[I", Cond.methodLink RX2 21 yX2_spellOut, Cond.instanceMethod yX2_spellOut, Cond.selects RX2 yX2_spellOut yX2_spellOut, Cond.code yX2_spellOut cX2_spellOut 9 none, Cond.fieldLink RX2 11 "ArrayClaims$ReadingSearch" "parts" "[I", Cond.methodLink RX2 38 yX2_spellOutNames, Cond.instanceMethod yX2_spellOutNames, Cond.selects RX2 yX2_spellOutNames yX2_spellOutNames, Cond.code yX2_spellOutNames cX2_spellOutNames 6 none, Cond.methodLink RX2 54 yX2_lowest, Cond.static yX2_lowest, Cond.code yX2_lowest cX2_lowest 2 (some .int)]
def wsX4_can_r3 : List Cond := [Cond.fieldLink RX2 35 "ArrayClaims$ReadingSearch" "LOWEST" "[I", Cond.methodLink RX2 25 yJ7_fill_53178, Cond.static yJ7_fill_53178, Cond.initialized RJ7, Cond.code yJ7_fill_53178 cJ7_fill_53178 4 none, Cond.methodLink RX2 31 yX2_completes, Cond.instanceMethod yX2_completes, Cond.selects RX2 yX2_completes yX2_completes, Cond.code yX2_completes cX2_completes 10 (some .boolean), Cond.methodLink RX2 67 yX2_holding, Cond.instanceMethod yX2_holding, Cond.selects RX2 yX2_holding yX2_holding, Cond.code yX2_holding cX2_holding 7 (some .int), Cond.methodLink RX2 74 yX0_sizeOf, Cond.instanceMethod yX0_sizeOf, Cond.selects RX0 yX0_sizeOf yX0_sizeOf, Cond.code yX0_sizeOf cX0_sizeOf 2 (some .int), Cond.methodLink RX2 78 yX0_at, Cond.instanceMethod yX0_at, Cond.selects RX0 yX0_at yX0_at, Cond.code yX0_at cX0_at 3 (some .int), Cond.methodLink RX2 81 yX2_rightness, Cond.instanceMethod yX2_rightness, Cond.selects RX2 yX2_rightness yX2_rightness]
def wsX4_can_r4 : List Cond := [Cond.code yX2_rightness cX2_rightness 8 (some .int), Cond.methodLink RX2 85 yX1_left, Cond.static yX1_left, Cond.initialized RX1, Cond.code yX1_left cX1_left 1 (some .int), Cond.methodLink RX2 90 yX1_right, Cond.static yX1_right, Cond.code yX1_right cX1_right 1 (some .int), Cond.methodLink RX2 93 yX2_width, Cond.static yX2_width, Cond.code yX2_width cX2_width 1 (some .int), Cond.methodLink RX2 96 yX2_partLikeness, Cond.instanceMethod yX2_partLikeness, Cond.selects RX2 yX2_partLikeness yX2_partLikeness, Cond.code yX2_partLikeness cX2_partLikeness 4 (some .int), Cond.methodLink RX2 100 yX1_saysSame, Cond.static yX1_saysSame, Cond.code yX1_saysSame cX1_saysSame 1 (some .boolean), Cond.methodLink RX2 71 yX2_openSpot, Cond.instanceMethod yX2_openSpot, Cond.selects RX2 yX2_openSpot yX2_openSpot, Cond.code yX2_openSpot cX2_openSpot 6 (some .int), Cond.methodLink RX2 104 yX2_openSpotOf, Cond.instanceMethod yX2_openSpotOf]
def wsX4_can_r5 : List Cond := [Cond.selects RX2 yX2_openSpotOf yX2_openSpotOf, Cond.code yX2_openSpotOf cX2_openSpotOf 8 (some .int)]
def wsX4_can : List Cond := .code yX4_can cX4_can 1 (some .boolean) :: ((wsX4_can_r1 ++ (wsX4_can_r2 ++ (wsX4_can_r3 ++ (wsX4_can_r4 ++ wsX4_can_r5)))) ++ wsX40 ++ wsX00 ++ wsX20 ++ wsX30)
def wsX4_first_r1 : List Cond := [Cond.fieldLink RX4 21 "ArrayClaims" "made" "LArrayClaims$ClaimList;", Cond.methodLink RX4 88 yX4_askClaims, Cond.instanceMethod yX4_askClaims, Cond.selects RX4 yX4_askClaims yX4_askClaims, Cond.initialized RX4, Cond.code yX4_askClaims cX4_askClaims 4 none, Cond.fieldLink RX4 33 "ArrayClaims" "asked" "LArrayClaims$ClaimList;", Cond.methodLink RX4 85 yX0_cutTo, Cond.instanceMethod yX0_cutTo, Cond.selects RX0 yX0_cutTo yX0_cutTo, Cond.initialized RX0, Cond.code yX0_cutTo cX0_cutTo 2 none, Cond.fieldLink RX0 18 "ArrayClaims$ClaimList" "count" "I", Cond.methodLink RX4 110 yX0_addFrom, Cond.instanceMethod yX0_addFrom, Cond.selects RX0 yX0_addFrom yX0_addFrom, Cond.code yX0_addFrom cX0_addFrom 3 none, Cond.fieldLink RX0 9 "ArrayClaims$ClaimList" "literals" "[I", Cond.fieldLink RX0 15 "ArrayClaims$ClaimList" "sizes" "[I", Cond.methodLink RX0 22 yX0_add, Cond.instanceMethod yX0_add, Cond.selects RX0 yX0_add yX0_add, Cond.code yX0_add cX0_add 5 none, Cond.methodLink RX4 91 yX4_isPossible]
def wsX4_first_r2 : List Cond := [Cond.instanceMethod yX4_isPossible, Cond.selects RX4 yX4_isPossible yX4_isPossible, Cond.code yX4_isPossible cX4_isPossible 1 (some .boolean), Cond.fieldLink RX4 39 "ArrayClaims" "search" "LArrayClaims$ReadingSearch;", Cond.fieldLink RX4 12 "ArrayClaims" "known" "LArrayClaims$TermTable;", Cond.methodLink RX4 101 yX2_finds, Cond.instanceMethod yX2_finds, Cond.selects RX2 yX2_finds yX2_finds, Cond.initialized RX2, Cond.code yX2_finds cX2_finds 6 (some .boolean), Cond.fieldLink RX2 18 "ArrayClaims$ReadingSearch" "DIFFERENT" "[I", Cond.fieldLink RX2 15 "ArrayClaims$ReadingSearch" "chosen" "[I", Cond.methodLink RX2 21 yX2_spellOut, Cond.instanceMethod yX2_spellOut, Cond.selects RX2 yX2_spellOut yX2_spellOut, Cond.code yX2_spellOut cX2_spellOut 9 none, Cond.fieldLink RX2 11 "ArrayClaims$ReadingSearch" "parts" "[I", Cond.methodLink RX2 38 yX2_spellOutNames, Cond.instanceMethod yX2_spellOutNames, Cond.selects RX2 yX2_spellOutNames yX2_spellOutNames, Cond.code yX2_spellOutNames cX2_spellOutNames 6 none, Cond.methodLink RX2 54 yX2_lowest, Cond.static yX2_lowest, Cond.code yX2_lowest cX2_lowest 2 (some .int)]
def wsX4_first_r3 : List Cond := [Cond.fieldLink RX2 35 "ArrayClaims$ReadingSearch" "LOWEST" "[I", Cond.methodLink RX2 25 yJ7_fill_53178, Cond.static yJ7_fill_53178, Cond.initialized RJ7, Cond.code yJ7_fill_53178 cJ7_fill_53178 4 none, Cond.methodLink RX2 31 yX2_completes, Cond.instanceMethod yX2_completes, Cond.selects RX2 yX2_completes yX2_completes, Cond.code yX2_completes cX2_completes 10 (some .boolean), Cond.methodLink RX2 67 yX2_holding, Cond.instanceMethod yX2_holding, Cond.selects RX2 yX2_holding yX2_holding, Cond.code yX2_holding cX2_holding 7 (some .int), Cond.methodLink RX2 74 yX0_sizeOf, Cond.instanceMethod yX0_sizeOf, Cond.selects RX0 yX0_sizeOf yX0_sizeOf, Cond.code yX0_sizeOf cX0_sizeOf 2 (some .int), Cond.methodLink RX2 78 yX0_at, Cond.instanceMethod yX0_at, Cond.selects RX0 yX0_at yX0_at, Cond.code yX0_at cX0_at 3 (some .int), Cond.methodLink RX2 81 yX2_rightness, Cond.instanceMethod yX2_rightness, Cond.selects RX2 yX2_rightness yX2_rightness]
def wsX4_first_r4 : List Cond := [Cond.code yX2_rightness cX2_rightness 8 (some .int), Cond.methodLink RX2 85 yX1_left, Cond.static yX1_left, Cond.initialized RX1, Cond.code yX1_left cX1_left 1 (some .int), Cond.methodLink RX2 90 yX1_right, Cond.static yX1_right, Cond.code yX1_right cX1_right 1 (some .int), Cond.methodLink RX2 93 yX2_width, Cond.static yX2_width, Cond.code yX2_width cX2_width 1 (some .int), Cond.methodLink RX2 96 yX2_partLikeness, Cond.instanceMethod yX2_partLikeness, Cond.selects RX2 yX2_partLikeness yX2_partLikeness, Cond.code yX2_partLikeness cX2_partLikeness 4 (some .int), Cond.methodLink RX2 100 yX1_saysSame, Cond.static yX1_saysSame, Cond.code yX1_saysSame cX1_saysSame 1 (some .boolean), Cond.methodLink RX2 71 yX2_openSpot, Cond.instanceMethod yX2_openSpot, Cond.selects RX2 yX2_openSpot yX2_openSpot, Cond.code yX2_openSpot cX2_openSpot 6 (some .int), Cond.methodLink RX2 104 yX2_openSpotOf, Cond.instanceMethod yX2_openSpotOf]
def wsX4_first_r5 : List Cond := [Cond.selects RX2 yX2_openSpotOf yX2_openSpotOf, Cond.code yX2_openSpotOf cX2_openSpotOf 8 (some .int)]
def wsX4_first : List Cond := .code yX4_first cX4_first 2 (some .int) :: ((wsX4_first_r1 ++ (wsX4_first_r2 ++ (wsX4_first_r3 ++ (wsX4_first_r4 ++ wsX4_first_r5)))) ++ wsX40 ++ wsX00 ++ wsX20 ++ wsX30)
def wsX4_without_r1 : List Cond := [Cond.classLink RX4 47 "java/lang/IndexOutOfBoundsException", Cond.initialized "java/lang/IndexOutOfBoundsException", Cond.fieldLink RX4 21 "ArrayClaims" "made" "LArrayClaims$ClaimList;", Cond.methodLink RX4 88 yX4_askClaims, Cond.instanceMethod yX4_askClaims, Cond.selects RX4 yX4_askClaims yX4_askClaims, Cond.initialized RX4, Cond.code yX4_askClaims cX4_askClaims 4 none, Cond.fieldLink RX4 33 "ArrayClaims" "asked" "LArrayClaims$ClaimList;", Cond.methodLink RX4 85 yX0_cutTo, Cond.instanceMethod yX0_cutTo, Cond.selects RX0 yX0_cutTo yX0_cutTo, Cond.initialized RX0, Cond.code yX0_cutTo cX0_cutTo 2 none, Cond.fieldLink RX0 18 "ArrayClaims$ClaimList" "count" "I", Cond.methodLink RX4 110 yX0_addFrom, Cond.instanceMethod yX0_addFrom, Cond.selects RX0 yX0_addFrom yX0_addFrom, Cond.code yX0_addFrom cX0_addFrom 3 none, Cond.fieldLink RX0 9 "ArrayClaims$ClaimList" "literals" "[I", Cond.fieldLink RX0 15 "ArrayClaims$ClaimList" "sizes" "[I", Cond.methodLink RX0 22 yX0_add, Cond.instanceMethod yX0_add, Cond.selects RX0 yX0_add yX0_add]
def wsX4_without_r2 : List Cond := [Cond.code yX0_add cX0_add 5 none, Cond.methodLink RX4 91 yX4_isPossible, Cond.instanceMethod yX4_isPossible, Cond.selects RX4 yX4_isPossible yX4_isPossible, Cond.code yX4_isPossible cX4_isPossible 1 (some .boolean), Cond.fieldLink RX4 39 "ArrayClaims" "search" "LArrayClaims$ReadingSearch;", Cond.fieldLink RX4 12 "ArrayClaims" "known" "LArrayClaims$TermTable;", Cond.methodLink RX4 101 yX2_finds, Cond.instanceMethod yX2_finds, Cond.selects RX2 yX2_finds yX2_finds, Cond.initialized RX2, Cond.code yX2_finds cX2_finds 6 (some .boolean), Cond.fieldLink RX2 18 "ArrayClaims$ReadingSearch" "DIFFERENT" "[I", Cond.fieldLink RX2 15 "ArrayClaims$ReadingSearch" "chosen" "[I", Cond.methodLink RX2 21 yX2_spellOut, Cond.instanceMethod yX2_spellOut, Cond.selects RX2 yX2_spellOut yX2_spellOut, Cond.code yX2_spellOut cX2_spellOut 9 none, Cond.fieldLink RX2 11 "ArrayClaims$ReadingSearch" "parts" "[I", Cond.methodLink RX2 38 yX2_spellOutNames, Cond.instanceMethod yX2_spellOutNames, Cond.selects RX2 yX2_spellOutNames yX2_spellOutNames, Cond.code yX2_spellOutNames cX2_spellOutNames 6 none, Cond.methodLink RX2 54 yX2_lowest]
def wsX4_without_r3 : List Cond := [Cond.static yX2_lowest, Cond.code yX2_lowest cX2_lowest 2 (some .int), Cond.fieldLink RX2 35 "ArrayClaims$ReadingSearch" "LOWEST" "[I", Cond.methodLink RX2 25 yJ7_fill_53178, Cond.static yJ7_fill_53178, Cond.initialized RJ7, Cond.code yJ7_fill_53178 cJ7_fill_53178 4 none, Cond.methodLink RX2 31 yX2_completes, Cond.instanceMethod yX2_completes, Cond.selects RX2 yX2_completes yX2_completes, Cond.code yX2_completes cX2_completes 10 (some .boolean), Cond.methodLink RX2 67 yX2_holding, Cond.instanceMethod yX2_holding, Cond.selects RX2 yX2_holding yX2_holding, Cond.code yX2_holding cX2_holding 7 (some .int), Cond.methodLink RX2 74 yX0_sizeOf, Cond.instanceMethod yX0_sizeOf, Cond.selects RX0 yX0_sizeOf yX0_sizeOf, Cond.code yX0_sizeOf cX0_sizeOf 2 (some .int), Cond.methodLink RX2 78 yX0_at, Cond.instanceMethod yX0_at, Cond.selects RX0 yX0_at yX0_at, Cond.code yX0_at cX0_at 3 (some .int), Cond.methodLink RX2 81 yX2_rightness]
def wsX4_without_r4 : List Cond := [Cond.instanceMethod yX2_rightness, Cond.selects RX2 yX2_rightness yX2_rightness, Cond.code yX2_rightness cX2_rightness 8 (some .int), Cond.methodLink RX2 85 yX1_left, Cond.static yX1_left, Cond.initialized RX1, Cond.code yX1_left cX1_left 1 (some .int), Cond.methodLink RX2 90 yX1_right, Cond.static yX1_right, Cond.code yX1_right cX1_right 1 (some .int), Cond.methodLink RX2 93 yX2_width, Cond.static yX2_width, Cond.code yX2_width cX2_width 1 (some .int), Cond.methodLink RX2 96 yX2_partLikeness, Cond.instanceMethod yX2_partLikeness, Cond.selects RX2 yX2_partLikeness yX2_partLikeness, Cond.code yX2_partLikeness cX2_partLikeness 4 (some .int), Cond.methodLink RX2 100 yX1_saysSame, Cond.static yX1_saysSame, Cond.code yX1_saysSame cX1_saysSame 1 (some .boolean), Cond.methodLink RX2 71 yX2_openSpot, Cond.instanceMethod yX2_openSpot, Cond.selects RX2 yX2_openSpot yX2_openSpot, Cond.code yX2_openSpot cX2_openSpot 6 (some .int)]
def wsX4_without_r5 : List Cond := [Cond.methodLink RX2 104 yX2_openSpotOf, Cond.instanceMethod yX2_openSpotOf, Cond.selects RX2 yX2_openSpotOf yX2_openSpotOf, Cond.code yX2_openSpotOf cX2_openSpotOf 8 (some .int)]
def wsX4_same_r1 : List Cond := [Cond.classLink RX4 68 "java/lang/IllegalStateException", Cond.initialized "java/lang/IllegalStateException", Cond.fieldLink RX4 21 "ArrayClaims" "made" "LArrayClaims$ClaimList;", Cond.fieldLink RX4 33 "ArrayClaims" "asked" "LArrayClaims$ClaimList;", Cond.methodLink RX4 64 yX4_checkPair, Cond.instanceMethod yX4_checkPair, Cond.selects RX4 yX4_checkPair yX4_checkPair, Cond.initialized RX4, Cond.code yX4_checkPair cX4_checkPair 3 none, Cond.classLink RX4 47 "java/lang/IndexOutOfBoundsException", Cond.initialized "java/lang/IndexOutOfBoundsException", Cond.classLink RX4 54 "java/lang/IllegalArgumentException", Cond.initialized "java/lang/IllegalArgumentException", Cond.fieldLink RX4 12 "ArrayClaims" "known" "LArrayClaims$TermTable;", Cond.methodLink RX4 43 yX3_has, Cond.instanceMethod yX3_has, Cond.selects RX3 yX3_has yX3_has, Cond.initialized RX3, Cond.code yX3_has cX3_has 2 (some .boolean), Cond.fieldLink RX3 24 "ArrayClaims$TermTable" "count" "I", Cond.methodLink RX4 50 yX3_sortOf, Cond.instanceMethod yX3_sortOf, Cond.selects RX3 yX3_sortOf yX3_sortOf, Cond.code yX3_sortOf cX3_sortOf 2 (some .int)]
def wsX4_same_r2 : List Cond := [Cond.fieldLink RX3 9 "ArrayClaims$TermTable" "sorts" "[I", Cond.methodLink RX3 28 yX3_has, Cond.methodLink RX4 88 yX4_askClaims, Cond.instanceMethod yX4_askClaims, Cond.selects RX4 yX4_askClaims yX4_askClaims, Cond.code yX4_askClaims cX4_askClaims 4 none, Cond.methodLink RX4 85 yX0_cutTo, Cond.instanceMethod yX0_cutTo, Cond.selects RX0 yX0_cutTo yX0_cutTo, Cond.initialized RX0, Cond.code yX0_cutTo cX0_cutTo 2 none, Cond.fieldLink RX0 18 "ArrayClaims$ClaimList" "count" "I", Cond.methodLink RX4 110 yX0_addFrom, Cond.instanceMethod yX0_addFrom, Cond.selects RX0 yX0_addFrom yX0_addFrom, Cond.code yX0_addFrom cX0_addFrom 3 none, Cond.fieldLink RX0 9 "ArrayClaims$ClaimList" "literals" "[I", Cond.fieldLink RX0 15 "ArrayClaims$ClaimList" "sizes" "[I", Cond.methodLink RX0 22 yX0_add, Cond.instanceMethod yX0_add, Cond.selects RX0 yX0_add yX0_add, Cond.code yX0_add cX0_add 5 none, Cond.methodLink RX4 71 yX1_of, Cond.static yX1_of]
def wsX4_same_r3 : List Cond := [Cond.initialized RX1, Cond.code yX1_of cX1_of 3 (some .int), Cond.methodLink RX4 95 yX0_addSingle, Cond.instanceMethod yX0_addSingle, Cond.selects RX0 yX0_addSingle yX0_addSingle, Cond.code yX0_addSingle cX0_addSingle 2 none, Cond.methodLink RX4 91 yX4_isPossible, Cond.instanceMethod yX4_isPossible, Cond.selects RX4 yX4_isPossible yX4_isPossible, Cond.code yX4_isPossible cX4_isPossible 1 (some .boolean), Cond.fieldLink RX4 39 "ArrayClaims" "search" "LArrayClaims$ReadingSearch;", Cond.methodLink RX4 101 yX2_finds, Cond.instanceMethod yX2_finds, Cond.selects RX2 yX2_finds yX2_finds, Cond.initialized RX2, Cond.code yX2_finds cX2_finds 6 (some .boolean), Cond.fieldLink RX2 18 "ArrayClaims$ReadingSearch" "DIFFERENT" "[I", Cond.fieldLink RX2 15 "ArrayClaims$ReadingSearch" "chosen" "[I", Cond.methodLink RX2 21 yX2_spellOut, Cond.instanceMethod yX2_spellOut, Cond.selects RX2 yX2_spellOut yX2_spellOut, Cond.code yX2_spellOut cX2_spellOut 9 none, Cond.fieldLink RX2 11 "ArrayClaims$ReadingSearch" "parts" "[I", Cond.methodLink RX2 38 yX2_spellOutNames]
def wsX4_same_r4 : List Cond := [Cond.instanceMethod yX2_spellOutNames, Cond.selects RX2 yX2_spellOutNames yX2_spellOutNames, Cond.code yX2_spellOutNames cX2_spellOutNames 6 none, Cond.methodLink RX2 54 yX2_lowest, Cond.static yX2_lowest, Cond.code yX2_lowest cX2_lowest 2 (some .int), Cond.fieldLink RX2 35 "ArrayClaims$ReadingSearch" "LOWEST" "[I", Cond.methodLink RX2 25 yJ7_fill_53178, Cond.static yJ7_fill_53178, Cond.initialized RJ7, Cond.code yJ7_fill_53178 cJ7_fill_53178 4 none, Cond.methodLink RX2 31 yX2_completes, Cond.instanceMethod yX2_completes, Cond.selects RX2 yX2_completes yX2_completes, Cond.code yX2_completes cX2_completes 10 (some .boolean), Cond.methodLink RX2 67 yX2_holding, Cond.instanceMethod yX2_holding, Cond.selects RX2 yX2_holding yX2_holding, Cond.code yX2_holding cX2_holding 7 (some .int), Cond.methodLink RX2 74 yX0_sizeOf, Cond.instanceMethod yX0_sizeOf, Cond.selects RX0 yX0_sizeOf yX0_sizeOf, Cond.code yX0_sizeOf cX0_sizeOf 2 (some .int), Cond.methodLink RX2 78 yX0_at]
def wsX4_same_r5 : List Cond := [Cond.instanceMethod yX0_at, Cond.selects RX0 yX0_at yX0_at, Cond.code yX0_at cX0_at 3 (some .int), Cond.methodLink RX2 81 yX2_rightness, Cond.instanceMethod yX2_rightness, Cond.selects RX2 yX2_rightness yX2_rightness, Cond.code yX2_rightness cX2_rightness 8 (some .int), Cond.methodLink RX2 85 yX1_left, Cond.static yX1_left, Cond.code yX1_left cX1_left 1 (some .int), Cond.methodLink RX2 90 yX1_right, Cond.static yX1_right, Cond.code yX1_right cX1_right 1 (some .int), Cond.methodLink RX2 93 yX2_width, Cond.static yX2_width, Cond.code yX2_width cX2_width 1 (some .int), Cond.methodLink RX2 96 yX2_partLikeness, Cond.instanceMethod yX2_partLikeness, Cond.selects RX2 yX2_partLikeness yX2_partLikeness, Cond.code yX2_partLikeness cX2_partLikeness 4 (some .int), Cond.methodLink RX2 100 yX1_saysSame, Cond.static yX1_saysSame, Cond.code yX1_saysSame cX1_saysSame 1 (some .boolean), Cond.methodLink RX2 71 yX2_openSpot]
def wsX4_same_r6 : List Cond := [Cond.instanceMethod yX2_openSpot, Cond.selects RX2 yX2_openSpot yX2_openSpot, Cond.code yX2_openSpot cX2_openSpot 6 (some .int), Cond.methodLink RX2 104 yX2_openSpotOf, Cond.instanceMethod yX2_openSpotOf, Cond.selects RX2 yX2_openSpotOf yX2_openSpotOf, Cond.code yX2_openSpotOf cX2_openSpotOf 8 (some .int)]
def wsX4_follows_r1 : List Cond := [Cond.classLink RX4 68 "java/lang/IllegalStateException", Cond.initialized "java/lang/IllegalStateException", Cond.fieldLink RX4 29 "ArrayClaims" "draftSize" "I", Cond.fieldLink RX4 21 "ArrayClaims" "made" "LArrayClaims$ClaimList;", Cond.fieldLink RX4 33 "ArrayClaims" "asked" "LArrayClaims$ClaimList;", Cond.fieldLink RX4 25 "ArrayClaims" "drafted" "[I", Cond.methodLink RX4 88 yX4_askClaims, Cond.instanceMethod yX4_askClaims, Cond.selects RX4 yX4_askClaims yX4_askClaims, Cond.initialized RX4, Cond.code yX4_askClaims cX4_askClaims 4 none, Cond.methodLink RX4 85 yX0_cutTo, Cond.instanceMethod yX0_cutTo, Cond.selects RX0 yX0_cutTo yX0_cutTo, Cond.initialized RX0, Cond.code yX0_cutTo cX0_cutTo 2 none, Cond.fieldLink RX0 18 "ArrayClaims$ClaimList" "count" "I", Cond.methodLink RX4 110 yX0_addFrom, Cond.instanceMethod yX0_addFrom, Cond.selects RX0 yX0_addFrom yX0_addFrom, Cond.code yX0_addFrom cX0_addFrom 3 none, Cond.fieldLink RX0 9 "ArrayClaims$ClaimList" "literals" "[I", Cond.fieldLink RX0 15 "ArrayClaims$ClaimList" "sizes" "[I", Cond.methodLink RX0 22 yX0_add]
def wsX4_follows_r2 : List Cond := [Cond.instanceMethod yX0_add, Cond.selects RX0 yX0_add yX0_add, Cond.code yX0_add cX0_add 5 none, Cond.methodLink RX4 98 yX1_opposite, Cond.static yX1_opposite, Cond.initialized RX1, Cond.code yX1_opposite cX1_opposite 1 (some .int), Cond.methodLink RX4 95 yX0_addSingle, Cond.instanceMethod yX0_addSingle, Cond.selects RX0 yX0_addSingle yX0_addSingle, Cond.code yX0_addSingle cX0_addSingle 2 none, Cond.methodLink RX4 91 yX4_isPossible, Cond.instanceMethod yX4_isPossible, Cond.selects RX4 yX4_isPossible yX4_isPossible, Cond.code yX4_isPossible cX4_isPossible 1 (some .boolean), Cond.fieldLink RX4 39 "ArrayClaims" "search" "LArrayClaims$ReadingSearch;", Cond.fieldLink RX4 12 "ArrayClaims" "known" "LArrayClaims$TermTable;", Cond.methodLink RX4 101 yX2_finds, Cond.instanceMethod yX2_finds, Cond.selects RX2 yX2_finds yX2_finds, Cond.initialized RX2, Cond.code yX2_finds cX2_finds 6 (some .boolean), Cond.fieldLink RX2 18 "ArrayClaims$ReadingSearch" "DIFFERENT" "[I", Cond.fieldLink RX2 15 "ArrayClaims$ReadingSearch" "chosen" "[I"]
def wsX4_follows_r3 : List Cond := [Cond.methodLink RX2 21 yX2_spellOut, Cond.instanceMethod yX2_spellOut, Cond.selects RX2 yX2_spellOut yX2_spellOut, Cond.code yX2_spellOut cX2_spellOut 9 none, Cond.fieldLink RX2 11 "ArrayClaims$ReadingSearch" "parts" "[I", Cond.methodLink RX2 38 yX2_spellOutNames, Cond.instanceMethod yX2_spellOutNames, Cond.selects RX2 yX2_spellOutNames yX2_spellOutNames, Cond.code yX2_spellOutNames cX2_spellOutNames 6 none, Cond.methodLink RX2 54 yX2_lowest, Cond.static yX2_lowest, Cond.code yX2_lowest cX2_lowest 2 (some .int), Cond.fieldLink RX2 35 "ArrayClaims$ReadingSearch" "LOWEST" "[I", Cond.methodLink RX2 25 yJ7_fill_53178, Cond.static yJ7_fill_53178, Cond.initialized RJ7, Cond.code yJ7_fill_53178 cJ7_fill_53178 4 none, Cond.methodLink RX2 31 yX2_completes, Cond.instanceMethod yX2_completes, Cond.selects RX2 yX2_completes yX2_completes, Cond.code yX2_completes cX2_completes 10 (some .boolean), Cond.methodLink RX2 67 yX2_holding, Cond.instanceMethod yX2_holding, Cond.selects RX2 yX2_holding yX2_holding]
def wsX4_follows_r4 : List Cond := [Cond.code yX2_holding cX2_holding 7 (some .int), Cond.methodLink RX2 74 yX0_sizeOf, Cond.instanceMethod yX0_sizeOf, Cond.selects RX0 yX0_sizeOf yX0_sizeOf, Cond.code yX0_sizeOf cX0_sizeOf 2 (some .int), Cond.methodLink RX2 78 yX0_at, Cond.instanceMethod yX0_at, Cond.selects RX0 yX0_at yX0_at, Cond.code yX0_at cX0_at 3 (some .int), Cond.methodLink RX2 81 yX2_rightness, Cond.instanceMethod yX2_rightness, Cond.selects RX2 yX2_rightness yX2_rightness, Cond.code yX2_rightness cX2_rightness 8 (some .int), Cond.methodLink RX2 85 yX1_left, Cond.static yX1_left, Cond.code yX1_left cX1_left 1 (some .int), Cond.methodLink RX2 90 yX1_right, Cond.static yX1_right, Cond.code yX1_right cX1_right 1 (some .int), Cond.methodLink RX2 93 yX2_width, Cond.static yX2_width, Cond.code yX2_width cX2_width 1 (some .int), Cond.methodLink RX2 96 yX2_partLikeness, Cond.instanceMethod yX2_partLikeness]
def wsX4_follows_r5 : List Cond := [Cond.selects RX2 yX2_partLikeness yX2_partLikeness, Cond.code yX2_partLikeness cX2_partLikeness 4 (some .int), Cond.methodLink RX2 100 yX1_saysSame, Cond.static yX1_saysSame, Cond.code yX1_saysSame cX1_saysSame 1 (some .boolean), Cond.methodLink RX2 71 yX2_openSpot, Cond.instanceMethod yX2_openSpot, Cond.selects RX2 yX2_openSpot yX2_openSpot, Cond.code yX2_openSpot cX2_openSpot 6 (some .int), Cond.methodLink RX2 104 yX2_openSpotOf, Cond.instanceMethod yX2_openSpotOf, Cond.selects RX2 yX2_openSpotOf yX2_openSpotOf, Cond.code yX2_openSpotOf cX2_openSpotOf 8 (some .int)]
def wsX4_apart_r1 : List Cond := [Cond.classLink RX4 68 "java/lang/IllegalStateException", Cond.initialized "java/lang/IllegalStateException", Cond.fieldLink RX4 21 "ArrayClaims" "made" "LArrayClaims$ClaimList;", Cond.fieldLink RX4 39 "ArrayClaims" "search" "LArrayClaims$ReadingSearch;", Cond.fieldLink RX4 12 "ArrayClaims" "known" "LArrayClaims$TermTable;", Cond.fieldLink RX4 33 "ArrayClaims" "asked" "LArrayClaims$ClaimList;", Cond.methodLink RX4 88 yX4_askClaims, Cond.instanceMethod yX4_askClaims, Cond.selects RX4 yX4_askClaims yX4_askClaims, Cond.initialized RX4, Cond.code yX4_askClaims cX4_askClaims 4 none, Cond.methodLink RX4 85 yX0_cutTo, Cond.instanceMethod yX0_cutTo, Cond.selects RX0 yX0_cutTo yX0_cutTo, Cond.initialized RX0, Cond.code yX0_cutTo cX0_cutTo 2 none, Cond.fieldLink RX0 18 "ArrayClaims$ClaimList" "count" "I", Cond.methodLink RX4 110 yX0_addFrom, Cond.instanceMethod yX0_addFrom, Cond.selects RX0 yX0_addFrom yX0_addFrom, Cond.code yX0_addFrom cX0_addFrom 3 none, Cond.fieldLink RX0 9 "ArrayClaims$ClaimList" "literals" "[I", Cond.fieldLink RX0 15 "ArrayClaims$ClaimList" "sizes" "[I", Cond.methodLink RX0 22 yX0_add]
def wsX4_apart_r2 : List Cond := [Cond.instanceMethod yX0_add, Cond.selects RX0 yX0_add yX0_add, Cond.code yX0_add cX0_add 5 none, Cond.methodLink RX4 101 yX2_finds, Cond.instanceMethod yX2_finds, Cond.selects RX2 yX2_finds yX2_finds, Cond.initialized RX2, Cond.code yX2_finds cX2_finds 6 (some .boolean), Cond.fieldLink RX2 18 "ArrayClaims$ReadingSearch" "DIFFERENT" "[I", Cond.fieldLink RX2 15 "ArrayClaims$ReadingSearch" "chosen" "[I", Cond.methodLink RX2 21 yX2_spellOut, Cond.instanceMethod yX2_spellOut, Cond.selects RX2 yX2_spellOut yX2_spellOut, Cond.code yX2_spellOut cX2_spellOut 9 none, Cond.fieldLink RX2 11 "ArrayClaims$ReadingSearch" "parts" "[I", Cond.methodLink RX2 38 yX2_spellOutNames, Cond.instanceMethod yX2_spellOutNames, Cond.selects RX2 yX2_spellOutNames yX2_spellOutNames, Cond.code yX2_spellOutNames cX2_spellOutNames 6 none, Cond.methodLink RX2 54 yX2_lowest, Cond.static yX2_lowest, Cond.code yX2_lowest cX2_lowest 2 (some .int), Cond.fieldLink RX2 35 "ArrayClaims$ReadingSearch" "LOWEST" "[I", Cond.methodLink RX2 25 yJ7_fill_53178]
def wsX4_apart_r3 : List Cond := [Cond.static yJ7_fill_53178, Cond.initialized RJ7, Cond.code yJ7_fill_53178 cJ7_fill_53178 4 none, Cond.methodLink RX2 31 yX2_completes, Cond.instanceMethod yX2_completes, Cond.selects RX2 yX2_completes yX2_completes, Cond.code yX2_completes cX2_completes 10 (some .boolean), Cond.methodLink RX2 67 yX2_holding, Cond.instanceMethod yX2_holding, Cond.selects RX2 yX2_holding yX2_holding, Cond.code yX2_holding cX2_holding 7 (some .int), Cond.methodLink RX2 74 yX0_sizeOf, Cond.instanceMethod yX0_sizeOf, Cond.selects RX0 yX0_sizeOf yX0_sizeOf, Cond.code yX0_sizeOf cX0_sizeOf 2 (some .int), Cond.methodLink RX2 78 yX0_at, Cond.instanceMethod yX0_at, Cond.selects RX0 yX0_at yX0_at, Cond.code yX0_at cX0_at 3 (some .int), Cond.methodLink RX2 81 yX2_rightness, Cond.instanceMethod yX2_rightness, Cond.selects RX2 yX2_rightness yX2_rightness, Cond.code yX2_rightness cX2_rightness 8 (some .int), Cond.methodLink RX2 85 yX1_left]
def wsX4_apart_r4 : List Cond := [Cond.static yX1_left, Cond.initialized RX1, Cond.code yX1_left cX1_left 1 (some .int), Cond.methodLink RX2 90 yX1_right, Cond.static yX1_right, Cond.code yX1_right cX1_right 1 (some .int), Cond.methodLink RX2 93 yX2_width, Cond.static yX2_width, Cond.code yX2_width cX2_width 1 (some .int), Cond.methodLink RX2 96 yX2_partLikeness, Cond.instanceMethod yX2_partLikeness, Cond.selects RX2 yX2_partLikeness yX2_partLikeness, Cond.code yX2_partLikeness cX2_partLikeness 4 (some .int), Cond.methodLink RX2 100 yX1_saysSame, Cond.static yX1_saysSame, Cond.code yX1_saysSame cX1_saysSame 1 (some .boolean), Cond.methodLink RX2 71 yX2_openSpot, Cond.instanceMethod yX2_openSpot, Cond.selects RX2 yX2_openSpot yX2_openSpot, Cond.code yX2_openSpot cX2_openSpot 6 (some .int), Cond.methodLink RX2 104 yX2_openSpotOf, Cond.instanceMethod yX2_openSpotOf, Cond.selects RX2 yX2_openSpotOf yX2_openSpotOf, Cond.code yX2_openSpotOf cX2_openSpotOf 8 (some .int)]
def wsX5_label : List Cond := .code yX5_label cX5_label 2 (some .int) :: ([])
def wsX5_greatest : List Cond := .code yX5_greatest cX5_greatest 4 (some .int) :: ([.methodLink RX5 74 yX5_label, .static yX5_label, .initialized RX5, .code yX5_label cX5_label 2 (some .int)])
def wsX5_nextWay : List Cond := .code yX5_nextWay cX5_nextWay 3 (some .int) :: ([.methodLink RX5 74 yX5_label, .static yX5_label, .initialized RX5, .code yX5_label cX5_label 2 (some .int), .methodLink RX5 77 yX5_greatest, .static yX5_greatest, .code yX5_greatest cX5_greatest 4 (some .int)])
def wsX5_findWays : List Cond := .code yX5_findWays cX5_findWays 6 none :: ([.fieldLink RX5 38 "ArrayClaimsModel" "ways" "[I", .methodLink RX5 70 yX5_nextWay, .static yX5_nextWay, .initialized RX5, .code yX5_nextWay cX5_nextWay 3 (some .int), .methodLink RX5 74 yX5_label, .static yX5_label, .code yX5_label cX5_label 2 (some .int), .methodLink RX5 77 yX5_greatest, .static yX5_greatest, .code yX5_greatest cX5_greatest 4 (some .int)] ++ wsX50)
def wsX5_init_r1 : List Cond := [Cond.methodLink RX5 1 objectInit, Cond.instanceMethod objectInit, Cond.code objectInit ⟨#[0xb1]⟩ 1 none, Cond.fieldLink RX5 7 "ArrayClaimsModel" "terms" "I", Cond.arrayClass .int, Cond.fieldLink RX5 13 "ArrayClaimsModel" "sort" "[I", Cond.fieldLink RX5 17 "ArrayClaimsModel" "kind" "[I", Cond.fieldLink RX5 20 "ArrayClaimsModel" "first" "[I", Cond.fieldLink RX5 23 "ArrayClaimsModel" "second" "[I", Cond.fieldLink RX5 26 "ArrayClaimsModel" "third" "[I", Cond.fieldLink RX5 29 "ArrayClaimsModel" "classOf" "[I", Cond.fieldLink RX5 32 "ArrayClaimsModel" "classes" "[I", Cond.fieldLink RX5 35 "ArrayClaimsModel" "code" "[I", Cond.fieldLink RX5 38 "ArrayClaimsModel" "ways" "[I", Cond.fieldLink RX5 41 "ArrayClaimsModel" "waysFrom" "[I", Cond.fieldLink RX5 44 "ArrayClaimsModel" "howMany" "[I", Cond.fieldLink RX5 47 "ArrayClaimsModel" "holds" "[I", Cond.fieldLink RX5 50 "ArrayClaimsModel" "from" "[I", Cond.fieldLink RX5 53 "ArrayClaimsModel" "left" "[I", Cond.fieldLink RX5 56 "ArrayClaimsModel" "right" "[I", Cond.arrayClass .boolean, Cond.fieldLink RX5 59 "ArrayClaimsModel" "alike" "[Z", Cond.methodLink RX5 63 yX5_findWays, Cond.instanceMethod yX5_findWays]
def wsX5_init_r2 : List Cond := [Cond.selects RX5 yX5_findWays yX5_findWays, Cond.initialized RX5, Cond.code yX5_findWays cX5_findWays 6 none, Cond.methodLink RX5 70 yX5_nextWay, Cond.static yX5_nextWay, Cond.code yX5_nextWay cX5_nextWay 3 (some .int), Cond.methodLink RX5 74 yX5_label, Cond.static yX5_label, Cond.code yX5_label cX5_label 2 (some .int), Cond.methodLink RX5 77 yX5_greatest, Cond.static yX5_greatest, Cond.code yX5_greatest cX5_greatest 4 (some .int)]
def wsX5_init : List Cond := .code yX5_init cX5_init 5 none :: ((wsX5_init_r1 ++ wsX5_init_r2) ++ wsX50)
def wsX5_thrown : List Cond := .code yX5_thrown cX5_thrown 1 (some .int) :: ([.fieldLink RX5 67 "ArrayClaimsModel" "thrown" "I"] ++ wsX50)
def wsX5_fail : List Cond := .code yX5_fail cX5_fail 2 (some .int) :: ([.fieldLink RX5 67 "ArrayClaimsModel" "thrown" "I"] ++ wsX50)
def wsX5_isTerm : List Cond := .code yX5_isTerm cX5_isTerm 2 (some .boolean) :: ([.fieldLink RX5 7 "ArrayClaimsModel" "terms" "I"] ++ wsX50)
def wsX5_part : List Cond := .code yX5_part cX5_part 2 (some .int) :: ([])
def wsX5_found : List Cond := .code yX5_found cX5_found 6 (some .int) :: ([.fieldLink RX5 7 "ArrayClaimsModel" "terms" "I", .fieldLink RX5 17 "ArrayClaimsModel" "kind" "[I", .fieldLink RX5 20 "ArrayClaimsModel" "first" "[I", .fieldLink RX5 23 "ArrayClaimsModel" "second" "[I", .fieldLink RX5 26 "ArrayClaimsModel" "third" "[I"] ++ wsX50)
def wsX5_make : List Cond := .code yX5_make cX5_make 10 (some .int) :: ([.fieldLink RX5 7 "ArrayClaimsModel" "terms" "I", .fieldLink RX5 17 "ArrayClaimsModel" "kind" "[I", .fieldLink RX5 20 "ArrayClaimsModel" "first" "[I", .fieldLink RX5 23 "ArrayClaimsModel" "second" "[I", .fieldLink RX5 26 "ArrayClaimsModel" "third" "[I", .fieldLink RX5 13 "ArrayClaimsModel" "sort" "[I", .fieldLink RX5 35 "ArrayClaimsModel" "code" "[I", .methodLink RX5 80 yX5_found, .instanceMethod yX5_found, .selects RX5 yX5_found yX5_found, .initialized RX5, .code yX5_found cX5_found 6 (some .int), .methodLink RX5 84 yX5_fail, .instanceMethod yX5_fail, .selects RX5 yX5_fail yX5_fail, .code yX5_fail cX5_fail 2 (some .int), .fieldLink RX5 67 "ArrayClaimsModel" "thrown" "I", .methodLink RX5 88 yX5_part, .static yX5_part, .code yX5_part cX5_part 2 (some .int)] ++ wsX50)
def wsX5_select_r1 : List Cond := [Cond.fieldLink RX5 13 "ArrayClaimsModel" "sort" "[I", Cond.fieldLink RX5 67 "ArrayClaimsModel" "thrown" "I", Cond.methodLink RX5 91 yX5_isTerm, Cond.instanceMethod yX5_isTerm, Cond.selects RX5 yX5_isTerm yX5_isTerm, Cond.initialized RX5, Cond.code yX5_isTerm cX5_isTerm 2 (some .boolean), Cond.fieldLink RX5 7 "ArrayClaimsModel" "terms" "I", Cond.methodLink RX5 95 yX5_make, Cond.instanceMethod yX5_make, Cond.selects RX5 yX5_make yX5_make, Cond.code yX5_make cX5_make 10 (some .int), Cond.fieldLink RX5 17 "ArrayClaimsModel" "kind" "[I", Cond.fieldLink RX5 20 "ArrayClaimsModel" "first" "[I", Cond.fieldLink RX5 23 "ArrayClaimsModel" "second" "[I", Cond.fieldLink RX5 26 "ArrayClaimsModel" "third" "[I", Cond.fieldLink RX5 35 "ArrayClaimsModel" "code" "[I", Cond.methodLink RX5 80 yX5_found, Cond.instanceMethod yX5_found, Cond.selects RX5 yX5_found yX5_found, Cond.code yX5_found cX5_found 6 (some .int), Cond.methodLink RX5 84 yX5_fail, Cond.instanceMethod yX5_fail, Cond.selects RX5 yX5_fail yX5_fail]
def wsX5_select_r2 : List Cond := [Cond.code yX5_fail cX5_fail 2 (some .int), Cond.methodLink RX5 88 yX5_part, Cond.static yX5_part, Cond.code yX5_part cX5_part 2 (some .int)]
def wsX5_select : List Cond := .code yX5_select cX5_select 3 (some .int) :: ((wsX5_select_r1 ++ wsX5_select_r2) ++ wsX50)
def wsX5_store_r1 : List Cond := [Cond.fieldLink RX5 13 "ArrayClaimsModel" "sort" "[I", Cond.fieldLink RX5 67 "ArrayClaimsModel" "thrown" "I", Cond.methodLink RX5 91 yX5_isTerm, Cond.instanceMethod yX5_isTerm, Cond.selects RX5 yX5_isTerm yX5_isTerm, Cond.initialized RX5, Cond.code yX5_isTerm cX5_isTerm 2 (some .boolean), Cond.fieldLink RX5 7 "ArrayClaimsModel" "terms" "I", Cond.methodLink RX5 95 yX5_make, Cond.instanceMethod yX5_make, Cond.selects RX5 yX5_make yX5_make, Cond.code yX5_make cX5_make 10 (some .int), Cond.fieldLink RX5 17 "ArrayClaimsModel" "kind" "[I", Cond.fieldLink RX5 20 "ArrayClaimsModel" "first" "[I", Cond.fieldLink RX5 23 "ArrayClaimsModel" "second" "[I", Cond.fieldLink RX5 26 "ArrayClaimsModel" "third" "[I", Cond.fieldLink RX5 35 "ArrayClaimsModel" "code" "[I", Cond.methodLink RX5 80 yX5_found, Cond.instanceMethod yX5_found, Cond.selects RX5 yX5_found yX5_found, Cond.code yX5_found cX5_found 6 (some .int), Cond.methodLink RX5 84 yX5_fail, Cond.instanceMethod yX5_fail, Cond.selects RX5 yX5_fail yX5_fail]
def wsX5_store_r2 : List Cond := [Cond.code yX5_fail cX5_fail 2 (some .int), Cond.methodLink RX5 88 yX5_part, Cond.static yX5_part, Cond.code yX5_part cX5_part 2 (some .int)]
def wsX5_store : List Cond := .code yX5_store cX5_store 4 (some .int) :: ((wsX5_store_r1 ++ wsX5_store_r2) ++ wsX50)
def wsX5_terms : List Cond := .code yX5_terms cX5_terms 1 (some .int) :: ([.fieldLink RX5 67 "ArrayClaimsModel" "thrown" "I", .fieldLink RX5 7 "ArrayClaimsModel" "terms" "I"] ++ wsX50)
def wsX5_sort : List Cond := .code yX5_sort cX5_sort 2 (some .int) :: ([.fieldLink RX5 67 "ArrayClaimsModel" "thrown" "I", .fieldLink RX5 13 "ArrayClaimsModel" "sort" "[I", .methodLink RX5 91 yX5_isTerm, .instanceMethod yX5_isTerm, .selects RX5 yX5_isTerm yX5_isTerm, .initialized RX5, .code yX5_isTerm cX5_isTerm 2 (some .boolean), .fieldLink RX5 7 "ArrayClaimsModel" "terms" "I"] ++ wsX50)
def wsX5_areSame : List Cond := .code yX5_areSame cX5_areSame 10 (some .boolean) :: ([.fieldLink RX5 35 "ArrayClaimsModel" "code" "[I", .fieldLink RX5 13 "ArrayClaimsModel" "sort" "[I", .fieldLink RX5 32 "ArrayClaimsModel" "classes" "[I", .methodLink RX5 74 yX5_label, .static yX5_label, .initialized RX5, .code yX5_label cX5_label 2 (some .int), .methodLink RX5 88 yX5_part, .static yX5_part, .code yX5_part cX5_part 2 (some .int)] ++ wsX50)
def wsX5_sameIn : List Cond := .code yX5_sameIn cX5_sameIn 6 (some .boolean) :: ([.fieldLink RX5 50 "ArrayClaimsModel" "from" "[I", .fieldLink RX5 38 "ArrayClaimsModel" "ways" "[I", .fieldLink RX5 41 "ArrayClaimsModel" "waysFrom" "[I", .fieldLink RX5 32 "ArrayClaimsModel" "classes" "[I", .methodLink RX5 98 yX5_areSame, .instanceMethod yX5_areSame, .selects RX5 yX5_areSame yX5_areSame, .initialized RX5, .code yX5_areSame cX5_areSame 10 (some .boolean), .fieldLink RX5 35 "ArrayClaimsModel" "code" "[I", .fieldLink RX5 13 "ArrayClaimsModel" "sort" "[I", .methodLink RX5 74 yX5_label, .static yX5_label, .code yX5_label cX5_label 2 (some .int), .methodLink RX5 88 yX5_part, .static yX5_part, .code yX5_part cX5_part 2 (some .int)] ++ wsX50)
def wsX5_draftHolds_r1 : List Cond := [Cond.fieldLink RX5 102 "ArrayClaimsModel" "literals" "I", Cond.fieldLink RX5 53 "ArrayClaimsModel" "left" "[I", Cond.fieldLink RX5 56 "ArrayClaimsModel" "right" "[I", Cond.fieldLink RX5 59 "ArrayClaimsModel" "alike" "[Z", Cond.methodLink RX5 105 yX5_sameIn, Cond.instanceMethod yX5_sameIn, Cond.selects RX5 yX5_sameIn yX5_sameIn, Cond.initialized RX5, Cond.code yX5_sameIn cX5_sameIn 6 (some .boolean), Cond.fieldLink RX5 50 "ArrayClaimsModel" "from" "[I", Cond.fieldLink RX5 38 "ArrayClaimsModel" "ways" "[I", Cond.fieldLink RX5 41 "ArrayClaimsModel" "waysFrom" "[I", Cond.fieldLink RX5 32 "ArrayClaimsModel" "classes" "[I", Cond.methodLink RX5 98 yX5_areSame, Cond.instanceMethod yX5_areSame, Cond.selects RX5 yX5_areSame yX5_areSame, Cond.code yX5_areSame cX5_areSame 10 (some .boolean), Cond.fieldLink RX5 35 "ArrayClaimsModel" "code" "[I", Cond.fieldLink RX5 13 "ArrayClaimsModel" "sort" "[I", Cond.methodLink RX5 74 yX5_label, Cond.static yX5_label, Cond.code yX5_label cX5_label 2 (some .int), Cond.methodLink RX5 88 yX5_part, Cond.static yX5_part]
def wsX5_draftHolds_r2 : List Cond := [Cond.code yX5_part cX5_part 2 (some .int)]
def wsX5_draftHolds : List Cond := .code yX5_draftHolds cX5_draftHolds 5 (some .boolean) :: ((wsX5_draftHolds_r1 ++ wsX5_draftHolds_r2) ++ wsX50)
def wsX5_literal : List Cond := .code yX5_literal cX5_literal 4 (some .int) :: ([.fieldLink RX5 13 "ArrayClaimsModel" "sort" "[I", .fieldLink RX5 102 "ArrayClaimsModel" "literals" "I", .fieldLink RX5 67 "ArrayClaimsModel" "thrown" "I", .fieldLink RX5 53 "ArrayClaimsModel" "left" "[I", .fieldLink RX5 56 "ArrayClaimsModel" "right" "[I", .fieldLink RX5 59 "ArrayClaimsModel" "alike" "[Z", .methodLink RX5 91 yX5_isTerm, .instanceMethod yX5_isTerm, .selects RX5 yX5_isTerm yX5_isTerm, .initialized RX5, .code yX5_isTerm cX5_isTerm 2 (some .boolean), .fieldLink RX5 7 "ArrayClaimsModel" "terms" "I"] ++ wsX50)
def wsX5_draft : List Cond := .code yX5_draft cX5_draft 1 (some .int) :: ([.fieldLink RX5 67 "ArrayClaimsModel" "thrown" "I", .fieldLink RX5 102 "ArrayClaimsModel" "literals" "I"] ++ wsX50)
def wsX5_clear : List Cond := .code yX5_clear cX5_clear 1 none :: ([.fieldLink RX5 67 "ArrayClaimsModel" "thrown" "I", .fieldLink RX5 102 "ArrayClaimsModel" "literals" "I"] ++ wsX50)
def wsX5_claim_r1 : List Cond := [Cond.fieldLink RX5 102 "ArrayClaimsModel" "literals" "I", Cond.fieldLink RX5 109 "ArrayClaimsModel" "claims" "I", Cond.fieldLink RX5 67 "ArrayClaimsModel" "thrown" "I", Cond.fieldLink RX5 50 "ArrayClaimsModel" "from" "[I", Cond.fieldLink RX5 47 "ArrayClaimsModel" "holds" "[I", Cond.methodLink RX5 112 yX5_draftHolds, Cond.instanceMethod yX5_draftHolds, Cond.selects RX5 yX5_draftHolds yX5_draftHolds, Cond.initialized RX5, Cond.code yX5_draftHolds cX5_draftHolds 5 (some .boolean), Cond.fieldLink RX5 53 "ArrayClaimsModel" "left" "[I", Cond.fieldLink RX5 56 "ArrayClaimsModel" "right" "[I", Cond.fieldLink RX5 59 "ArrayClaimsModel" "alike" "[Z", Cond.methodLink RX5 105 yX5_sameIn, Cond.instanceMethod yX5_sameIn, Cond.selects RX5 yX5_sameIn yX5_sameIn, Cond.code yX5_sameIn cX5_sameIn 6 (some .boolean), Cond.fieldLink RX5 38 "ArrayClaimsModel" "ways" "[I", Cond.fieldLink RX5 41 "ArrayClaimsModel" "waysFrom" "[I", Cond.fieldLink RX5 32 "ArrayClaimsModel" "classes" "[I", Cond.methodLink RX5 98 yX5_areSame, Cond.instanceMethod yX5_areSame, Cond.selects RX5 yX5_areSame yX5_areSame, Cond.code yX5_areSame cX5_areSame 10 (some .boolean)]
def wsX5_claim_r2 : List Cond := [Cond.fieldLink RX5 35 "ArrayClaimsModel" "code" "[I", Cond.fieldLink RX5 13 "ArrayClaimsModel" "sort" "[I", Cond.methodLink RX5 74 yX5_label, Cond.static yX5_label, Cond.code yX5_label cX5_label 2 (some .int), Cond.methodLink RX5 88 yX5_part, Cond.static yX5_part, Cond.code yX5_part cX5_part 2 (some .int)]
def wsX5_claim : List Cond := .code yX5_claim cX5_claim 4 (some .int) :: ((wsX5_claim_r1 ++ wsX5_claim_r2) ++ wsX50)
def wsX5_keep : List Cond := .code yX5_keep cX5_keep 2 (some .boolean) :: ([.fieldLink RX5 67 "ArrayClaimsModel" "thrown" "I", .fieldLink RX5 109 "ArrayClaimsModel" "claims" "I"] ++ wsX50)
def wsX5_claims : List Cond := .code yX5_claims cX5_claims 1 (some .int) :: ([.fieldLink RX5 67 "ArrayClaimsModel" "thrown" "I", .fieldLink RX5 109 "ArrayClaimsModel" "claims" "I"] ++ wsX50)
def wsX5_canHold : List Cond := .code yX5_canHold cX5_canHold 3 (some .boolean) :: ([.fieldLink RX5 50 "ArrayClaimsModel" "from" "[I", .fieldLink RX5 47 "ArrayClaimsModel" "holds" "[I"] ++ wsX50)
def wsX5_all : List Cond := .code yX5_all cX5_all 1 (some .int) :: ([.fieldLink RX5 109 "ArrayClaimsModel" "claims" "I"] ++ wsX50)
def wsX5_can : List Cond := .code yX5_can cX5_can 1 (some .boolean) :: ([.fieldLink RX5 67 "ArrayClaimsModel" "thrown" "I", .methodLink RX5 116 yX5_all, .instanceMethod yX5_all, .selects RX5 yX5_all yX5_all, .initialized RX5, .code yX5_all cX5_all 1 (some .int), .fieldLink RX5 109 "ArrayClaimsModel" "claims" "I", .methodLink RX5 120 yX5_canHold, .instanceMethod yX5_canHold, .selects RX5 yX5_canHold yX5_canHold, .code yX5_canHold cX5_canHold 3 (some .boolean), .fieldLink RX5 50 "ArrayClaimsModel" "from" "[I", .fieldLink RX5 47 "ArrayClaimsModel" "holds" "[I"] ++ wsX50)
def wsX5_first : List Cond := .code yX5_first cX5_first 2 (some .int) :: ([.fieldLink RX5 67 "ArrayClaimsModel" "thrown" "I", .fieldLink RX5 109 "ArrayClaimsModel" "claims" "I", .methodLink RX5 120 yX5_canHold, .instanceMethod yX5_canHold, .selects RX5 yX5_canHold yX5_canHold, .initialized RX5, .code yX5_canHold cX5_canHold 3 (some .boolean), .fieldLink RX5 50 "ArrayClaimsModel" "from" "[I", .fieldLink RX5 47 "ArrayClaimsModel" "holds" "[I"] ++ wsX50)
def wsX5_without : List Cond := .code yX5_without cX5_without 2 (some .boolean) :: ([.fieldLink RX5 109 "ArrayClaimsModel" "claims" "I", .fieldLink RX5 67 "ArrayClaimsModel" "thrown" "I", .methodLink RX5 116 yX5_all, .instanceMethod yX5_all, .selects RX5 yX5_all yX5_all, .initialized RX5, .code yX5_all cX5_all 1 (some .int), .methodLink RX5 120 yX5_canHold, .instanceMethod yX5_canHold, .selects RX5 yX5_canHold yX5_canHold, .code yX5_canHold cX5_canHold 3 (some .boolean), .fieldLink RX5 50 "ArrayClaimsModel" "from" "[I", .fieldLink RX5 47 "ArrayClaimsModel" "holds" "[I"] ++ wsX50)
def wsX5_same_r1 : List Cond := [Cond.fieldLink RX5 13 "ArrayClaimsModel" "sort" "[I", Cond.fieldLink RX5 67 "ArrayClaimsModel" "thrown" "I", Cond.fieldLink RX5 50 "ArrayClaimsModel" "from" "[I", Cond.fieldLink RX5 47 "ArrayClaimsModel" "holds" "[I", Cond.methodLink RX5 91 yX5_isTerm, Cond.instanceMethod yX5_isTerm, Cond.selects RX5 yX5_isTerm yX5_isTerm, Cond.initialized RX5, Cond.code yX5_isTerm cX5_isTerm 2 (some .boolean), Cond.fieldLink RX5 7 "ArrayClaimsModel" "terms" "I", Cond.methodLink RX5 116 yX5_all, Cond.instanceMethod yX5_all, Cond.selects RX5 yX5_all yX5_all, Cond.code yX5_all cX5_all 1 (some .int), Cond.fieldLink RX5 109 "ArrayClaimsModel" "claims" "I", Cond.methodLink RX5 120 yX5_canHold, Cond.instanceMethod yX5_canHold, Cond.selects RX5 yX5_canHold yX5_canHold, Cond.code yX5_canHold cX5_canHold 3 (some .boolean), Cond.methodLink RX5 105 yX5_sameIn, Cond.instanceMethod yX5_sameIn, Cond.selects RX5 yX5_sameIn yX5_sameIn, Cond.code yX5_sameIn cX5_sameIn 6 (some .boolean), Cond.fieldLink RX5 38 "ArrayClaimsModel" "ways" "[I"]
def wsX5_same_r2 : List Cond := [Cond.fieldLink RX5 41 "ArrayClaimsModel" "waysFrom" "[I", Cond.fieldLink RX5 32 "ArrayClaimsModel" "classes" "[I", Cond.methodLink RX5 98 yX5_areSame, Cond.instanceMethod yX5_areSame, Cond.selects RX5 yX5_areSame yX5_areSame, Cond.code yX5_areSame cX5_areSame 10 (some .boolean), Cond.fieldLink RX5 35 "ArrayClaimsModel" "code" "[I", Cond.methodLink RX5 74 yX5_label, Cond.static yX5_label, Cond.code yX5_label cX5_label 2 (some .int), Cond.methodLink RX5 88 yX5_part, Cond.static yX5_part, Cond.code yX5_part cX5_part 2 (some .int)]
def wsX5_same : List Cond := .code yX5_same cX5_same 9 (some .int) :: ((wsX5_same_r1 ++ wsX5_same_r2) ++ wsX50)
def wsX5_follows_r1 : List Cond := [Cond.fieldLink RX5 102 "ArrayClaimsModel" "literals" "I", Cond.fieldLink RX5 67 "ArrayClaimsModel" "thrown" "I", Cond.fieldLink RX5 50 "ArrayClaimsModel" "from" "[I", Cond.fieldLink RX5 47 "ArrayClaimsModel" "holds" "[I", Cond.methodLink RX5 116 yX5_all, Cond.instanceMethod yX5_all, Cond.selects RX5 yX5_all yX5_all, Cond.initialized RX5, Cond.code yX5_all cX5_all 1 (some .int), Cond.fieldLink RX5 109 "ArrayClaimsModel" "claims" "I", Cond.methodLink RX5 112 yX5_draftHolds, Cond.instanceMethod yX5_draftHolds, Cond.selects RX5 yX5_draftHolds yX5_draftHolds, Cond.code yX5_draftHolds cX5_draftHolds 5 (some .boolean), Cond.fieldLink RX5 53 "ArrayClaimsModel" "left" "[I", Cond.fieldLink RX5 56 "ArrayClaimsModel" "right" "[I", Cond.fieldLink RX5 59 "ArrayClaimsModel" "alike" "[Z", Cond.methodLink RX5 105 yX5_sameIn, Cond.instanceMethod yX5_sameIn, Cond.selects RX5 yX5_sameIn yX5_sameIn, Cond.code yX5_sameIn cX5_sameIn 6 (some .boolean), Cond.fieldLink RX5 38 "ArrayClaimsModel" "ways" "[I", Cond.fieldLink RX5 41 "ArrayClaimsModel" "waysFrom" "[I", Cond.fieldLink RX5 32 "ArrayClaimsModel" "classes" "[I"]
def wsX5_follows_r2 : List Cond := [Cond.methodLink RX5 98 yX5_areSame, Cond.instanceMethod yX5_areSame, Cond.selects RX5 yX5_areSame yX5_areSame, Cond.code yX5_areSame cX5_areSame 10 (some .boolean), Cond.fieldLink RX5 35 "ArrayClaimsModel" "code" "[I", Cond.fieldLink RX5 13 "ArrayClaimsModel" "sort" "[I", Cond.methodLink RX5 74 yX5_label, Cond.static yX5_label, Cond.code yX5_label cX5_label 2 (some .int), Cond.methodLink RX5 88 yX5_part, Cond.static yX5_part, Cond.code yX5_part cX5_part 2 (some .int)]
def wsX5_follows : List Cond := .code yX5_follows cX5_follows 5 (some .boolean) :: ((wsX5_follows_r1 ++ wsX5_follows_r2) ++ wsX50)
def wsX5_apart : List Cond := .code yX5_apart cX5_apart 7 (some .int) :: ([.fieldLink RX5 67 "ArrayClaimsModel" "thrown" "I", .fieldLink RX5 50 "ArrayClaimsModel" "from" "[I", .fieldLink RX5 47 "ArrayClaimsModel" "holds" "[I", .fieldLink RX5 32 "ArrayClaimsModel" "classes" "[I", .methodLink RX5 116 yX5_all, .instanceMethod yX5_all, .selects RX5 yX5_all yX5_all, .initialized RX5, .code yX5_all cX5_all 1 (some .int), .fieldLink RX5 109 "ArrayClaimsModel" "claims" "I", .methodLink RX5 120 yX5_canHold, .instanceMethod yX5_canHold, .selects RX5 yX5_canHold yX5_canHold, .code yX5_canHold cX5_canHold 3 (some .boolean)] ++ wsX50)
theorem inX1 : ∀ w ∈ wsX10, w ∈ lw_tbl := by decide +kernel
theorem inJ7 : ∀ w ∈ wsJ70, w ∈ lw_tbl := by decide +kernel
set_option maxRecDepth 20000 in
theorem ggX0_addFrom_X0_add : GoodIn wsX0_addFrom wsX0_add := goodIn_r _ [7, 8, 2, 1, 9, 10, 11] (by decide +kernel) (by decide +kernel)
set_option maxRecDepth 20000 in
theorem gX0_addFrom_X0_add : GoodIn wsX0_addFrom (wsV RX0 22 RX0 yX0_add wsX0_add) := goodIn_app (goodIn_of _ (by decide +kernel)) ggX0_addFrom_X0_add
set_option maxRecDepth 20000 in
theorem ggX2_finds_X2_spellOut : GoodIn wsX2_finds wsX2_spellOut := goodIn_r _ [7, 8, 9, 10, 11, 6, 12, 13, 14, 15, 16, 71, 72, 73, 74, 75, 69, 70] (by decide +kernel) (by decide +kernel)
set_option maxRecDepth 20000 in
theorem gX2_finds_X2_spellOut : GoodIn wsX2_finds (wsV RX2 21 RX2 yX2_spellOut wsX2_spellOut) := goodIn_app (goodIn_of _ (by decide +kernel)) ggX2_finds_X2_spellOut
set_option maxRecDepth 20000 in
theorem ggX2_finds_J7_fill_53178 : GoodIn wsX2_finds wsJ7_fill_53178 := goodIn_r _ [20] (by decide +kernel) (by decide +kernel)
set_option maxRecDepth 20000 in
theorem gX2_finds_J7_fill_53178 : GoodIn wsX2_finds (va_wsS RX2 25 yJ7_fill_53178 wsJ7_fill_53178) := goodIn_app (goodIn_of _ (by decide +kernel)) ggX2_finds_J7_fill_53178
set_option maxRecDepth 20000 in
theorem ggX2_finds_X2_completes : GoodIn wsX2_finds wsX2_completes := goodIn_r _ [24, 2, 25, 26, 27, 6, 28, 29, 30, 31, 32, 33, 34, 35, 36, 37, 38, 39, 40, 41, 42, 43, 8, 44, 45, 46, 47, 48, 49, 50, 51, 52, 53, 54, 55, 56, 57, 58, 59, 60, 61, 62, 63, 64, 65, 66, 67, 68, 21, 22, 23, 76, 77, 78, 69, 70, 71, 72, 73, 74, 75] (by decide +kernel) (by decide +kernel)
set_option maxRecDepth 20000 in
theorem gX2_finds_X2_completes : GoodIn wsX2_finds (wsV RX2 31 RX2 yX2_completes wsX2_completes) := goodIn_app (goodIn_of _ (by decide +kernel)) ggX2_finds_X2_completes
set_option maxRecDepth 20000 in
theorem ggX2_spellOut_X2_spellOutNames : GoodIn wsX2_spellOut wsX2_spellOutNames := goodIn_r _ [6, 1, 7, 8, 5, 9, 10, 16, 17] (by decide +kernel) (by decide +kernel)
set_option maxRecDepth 20000 in
theorem gX2_spellOut_X2_spellOutNames : GoodIn wsX2_spellOut (wsV RX2 38 RX2 yX2_spellOutNames wsX2_spellOutNames) := goodIn_app (goodIn_of _ (by decide +kernel)) ggX2_spellOut_X2_spellOutNames
set_option maxRecDepth 20000 in
theorem ggX2_spellOut_X2_lowest : GoodIn wsX2_spellOut wsX2_lowest := goodIn_r _ [9, 10] (by decide +kernel) (by decide +kernel)
set_option maxRecDepth 20000 in
theorem gX2_spellOut_X2_lowest : GoodIn wsX2_spellOut (va_wsS RX2 54 yX2_lowest wsX2_lowest) := goodIn_app (goodIn_of _ (by decide +kernel)) ggX2_spellOut_X2_lowest
set_option maxRecDepth 20000 in
theorem ggX2_spellOutNames_X2_lowest : GoodIn wsX2_spellOutNames wsX2_lowest := goodIn_r _ [5, 6] (by decide +kernel) (by decide +kernel)
set_option maxRecDepth 20000 in
theorem gX2_spellOutNames_X2_lowest : GoodIn wsX2_spellOutNames (va_wsS RX2 54 yX2_lowest wsX2_lowest) := goodIn_app (goodIn_of _ (by decide +kernel)) ggX2_spellOutNames_X2_lowest
set_option maxRecDepth 20000 in
theorem ggX2_completes_X2_holding : GoodIn wsX2_completes wsX2_holding := goodIn_r _ [6, 7, 8, 9, 10, 11, 12, 13, 14, 15, 16, 17, 18, 19, 20, 5, 21, 22, 23, 24, 25, 26, 27, 28, 29, 30, 31, 32, 33, 34, 35, 36, 1, 37, 38, 39, 51, 52, 53, 56, 57, 58, 59, 60, 54, 55] (by decide +kernel) (by decide +kernel)
set_option maxRecDepth 20000 in
theorem gX2_completes_X2_holding : GoodIn wsX2_completes (wsV RX2 67 RX2 yX2_holding wsX2_holding) := goodIn_app (goodIn_of _ (by decide +kernel)) ggX2_completes_X2_holding
set_option maxRecDepth 20000 in
theorem ggX2_completes_X2_openSpot : GoodIn wsX2_completes wsX2_openSpot := goodIn_r _ [43, 7, 8, 9, 10, 11, 12, 13, 14, 15, 16, 17, 18, 19, 20, 5, 21, 22, 23, 24, 25, 26, 27, 28, 29, 30, 31, 32, 33, 34, 35, 36, 1, 37, 38, 39, 44, 45, 46, 47, 51, 52, 53, 56, 57, 58, 59, 60, 54, 55] (by decide +kernel) (by decide +kernel)
set_option maxRecDepth 20000 in
theorem gX2_completes_X2_openSpot : GoodIn wsX2_completes (wsV RX2 71 RX2 yX2_openSpot wsX2_openSpot) := goodIn_app (goodIn_of _ (by decide +kernel)) ggX2_completes_X2_openSpot
set_option maxRecDepth 20000 in
theorem ggX2_completes_X2_completes : GoodIn wsX2_completes wsX2_completes := goodIn_r _ [0, 1, 2, 3, 4, 5, 6, 7, 8, 9, 10, 11, 12, 13, 14, 15, 16, 17, 18, 19, 20, 21, 22, 23, 24, 25, 26, 27, 28, 29, 30, 31, 32, 33, 34, 35, 36, 37, 38, 39, 40, 41, 42, 43, 44, 45, 46, 47, 48, 49, 50, 51, 52, 53, 54, 55, 56, 57, 58, 59, 60] (by decide +kernel) (by decide +kernel)
set_option maxRecDepth 20000 in
theorem gX2_completes_X2_completes : GoodIn wsX2_completes (wsV RX2 31 RX2 yX2_completes wsX2_completes) := goodIn_app (goodIn_of _ (by decide +kernel)) ggX2_completes_X2_completes
set_option maxRecDepth 20000 in
theorem ggX2_holding_X0_sizeOf : GoodIn wsX2_holding wsX0_sizeOf := goodIn_r _ [5, 6, 36, 37, 38] (by decide +kernel) (by decide +kernel)
set_option maxRecDepth 20000 in
theorem gX2_holding_X0_sizeOf : GoodIn wsX2_holding (wsV RX2 74 RX0 yX0_sizeOf wsX0_sizeOf) := goodIn_app (goodIn_of _ (by decide +kernel)) ggX2_holding_X0_sizeOf
set_option maxRecDepth 20000 in
theorem ggX2_holding_X0_at : GoodIn wsX2_holding wsX0_at := goodIn_r _ [10, 11, 36, 37, 38] (by decide +kernel) (by decide +kernel)
set_option maxRecDepth 20000 in
theorem gX2_holding_X0_at : GoodIn wsX2_holding (wsV RX2 78 RX0 yX0_at wsX0_at) := goodIn_app (goodIn_of _ (by decide +kernel)) ggX2_holding_X0_at
set_option maxRecDepth 20000 in
theorem ggX2_holding_X2_rightness : GoodIn wsX2_holding wsX2_rightness := goodIn_r _ [16, 17, 18, 19, 20, 21, 22, 23, 24, 25, 26, 15, 27, 28, 29, 30, 31, 32, 33, 34, 35, 39, 40, 41, 42, 43, 44, 45] (by decide +kernel) (by decide +kernel)
set_option maxRecDepth 20000 in
theorem gX2_holding_X2_rightness : GoodIn wsX2_holding (wsV RX2 81 RX2 yX2_rightness wsX2_rightness) := goodIn_app (goodIn_of _ (by decide +kernel)) ggX2_holding_X2_rightness
set_option maxRecDepth 20000 in
theorem ggX2_rightness_X1_left : GoodIn wsX2_rightness wsX1_left := goodIn_r _ [5] (by decide +kernel) (by decide +kernel)
set_option maxRecDepth 20000 in
theorem gX2_rightness_X1_left : GoodIn wsX2_rightness (va_wsS RX2 85 yX1_left wsX1_left) := goodIn_app (goodIn_of _ (by decide +kernel)) ggX2_rightness_X1_left
set_option maxRecDepth 20000 in
theorem ggX2_rightness_X1_right : GoodIn wsX2_rightness wsX1_right := goodIn_r _ [8] (by decide +kernel) (by decide +kernel)
set_option maxRecDepth 20000 in
theorem gX2_rightness_X1_right : GoodIn wsX2_rightness (va_wsS RX2 90 yX1_right wsX1_right) := goodIn_app (goodIn_of _ (by decide +kernel)) ggX2_rightness_X1_right
set_option maxRecDepth 20000 in
theorem ggX2_rightness_X2_width : GoodIn wsX2_rightness wsX2_width := goodIn_r _ [12] (by decide +kernel) (by decide +kernel)
set_option maxRecDepth 20000 in
theorem gX2_rightness_X2_width : GoodIn wsX2_rightness (va_wsS RX2 93 yX2_width wsX2_width) := goodIn_app (goodIn_of _ (by decide +kernel)) ggX2_rightness_X2_width
set_option maxRecDepth 20000 in
theorem ggX2_rightness_X2_partLikeness : GoodIn wsX2_rightness wsX2_partLikeness := goodIn_r _ [16, 17, 26, 27] (by decide +kernel) (by decide +kernel)
set_option maxRecDepth 20000 in
theorem gX2_rightness_X2_partLikeness : GoodIn wsX2_rightness (wsV RX2 96 RX2 yX2_partLikeness wsX2_partLikeness) := goodIn_app (goodIn_of _ (by decide +kernel)) ggX2_rightness_X2_partLikeness
set_option maxRecDepth 20000 in
theorem ggX2_rightness_X1_saysSame : GoodIn wsX2_rightness wsX1_saysSame := goodIn_r _ [20] (by decide +kernel) (by decide +kernel)
set_option maxRecDepth 20000 in
theorem gX2_rightness_X1_saysSame : GoodIn wsX2_rightness (va_wsS RX2 100 yX1_saysSame wsX1_saysSame) := goodIn_app (goodIn_of _ (by decide +kernel)) ggX2_rightness_X1_saysSame
set_option maxRecDepth 20000 in
theorem ggX2_openSpot_X0_sizeOf : GoodIn wsX2_openSpot wsX0_sizeOf := goodIn_r _ [5, 6, 40, 41, 42] (by decide +kernel) (by decide +kernel)
set_option maxRecDepth 20000 in
theorem gX2_openSpot_X0_sizeOf : GoodIn wsX2_openSpot (wsV RX2 74 RX0 yX0_sizeOf wsX0_sizeOf) := goodIn_app (goodIn_of _ (by decide +kernel)) ggX2_openSpot_X0_sizeOf
set_option maxRecDepth 20000 in
theorem ggX2_openSpot_X0_at : GoodIn wsX2_openSpot wsX0_at := goodIn_r _ [10, 11, 40, 41, 42] (by decide +kernel) (by decide +kernel)
set_option maxRecDepth 20000 in
theorem gX2_openSpot_X0_at : GoodIn wsX2_openSpot (wsV RX2 78 RX0 yX0_at wsX0_at) := goodIn_app (goodIn_of _ (by decide +kernel)) ggX2_openSpot_X0_at
set_option maxRecDepth 20000 in
theorem ggX2_openSpot_X2_rightness : GoodIn wsX2_openSpot wsX2_rightness := goodIn_r _ [16, 17, 18, 19, 20, 21, 22, 23, 24, 25, 26, 15, 27, 28, 29, 30, 31, 32, 33, 34, 35, 43, 44, 45, 46, 47, 48, 49] (by decide +kernel) (by decide +kernel)
set_option maxRecDepth 20000 in
theorem gX2_openSpot_X2_rightness : GoodIn wsX2_openSpot (wsV RX2 81 RX2 yX2_rightness wsX2_rightness) := goodIn_app (goodIn_of _ (by decide +kernel)) ggX2_openSpot_X2_rightness
set_option maxRecDepth 20000 in
theorem ggX2_openSpot_X1_left : GoodIn wsX2_openSpot wsX1_left := goodIn_r _ [21] (by decide +kernel) (by decide +kernel)
set_option maxRecDepth 20000 in
theorem gX2_openSpot_X1_left : GoodIn wsX2_openSpot (va_wsS RX2 85 yX1_left wsX1_left) := goodIn_app (goodIn_of _ (by decide +kernel)) ggX2_openSpot_X1_left
set_option maxRecDepth 20000 in
theorem ggX2_openSpot_X1_right : GoodIn wsX2_openSpot wsX1_right := goodIn_r _ [24] (by decide +kernel) (by decide +kernel)
set_option maxRecDepth 20000 in
theorem gX2_openSpot_X1_right : GoodIn wsX2_openSpot (va_wsS RX2 90 yX1_right wsX1_right) := goodIn_app (goodIn_of _ (by decide +kernel)) ggX2_openSpot_X1_right
set_option maxRecDepth 20000 in
theorem ggX2_openSpot_X2_openSpotOf : GoodIn wsX2_openSpot wsX2_openSpotOf := goodIn_r _ [39, 17, 32, 25, 26, 15, 27, 28, 29, 30, 31, 43, 44, 45, 46, 47, 48, 49] (by decide +kernel) (by decide +kernel)
set_option maxRecDepth 20000 in
theorem gX2_openSpot_X2_openSpotOf : GoodIn wsX2_openSpot (wsV RX2 104 RX2 yX2_openSpotOf wsX2_openSpotOf) := goodIn_app (goodIn_of _ (by decide +kernel)) ggX2_openSpot_X2_openSpotOf
set_option maxRecDepth 20000 in
theorem ggX2_openSpotOf_X2_width : GoodIn wsX2_openSpotOf wsX2_width := goodIn_r _ [6] (by decide +kernel) (by decide +kernel)
set_option maxRecDepth 20000 in
theorem gX2_openSpotOf_X2_width : GoodIn wsX2_openSpotOf (va_wsS RX2 93 yX2_width wsX2_width) := goodIn_app (goodIn_of _ (by decide +kernel)) ggX2_openSpotOf_X2_width
set_option maxRecDepth 20000 in
theorem ggX2_openSpotOf_X2_partLikeness : GoodIn wsX2_openSpotOf wsX2_partLikeness := goodIn_r _ [10, 2, 16, 17] (by decide +kernel) (by decide +kernel)
set_option maxRecDepth 20000 in
theorem gX2_openSpotOf_X2_partLikeness : GoodIn wsX2_openSpotOf (wsV RX2 96 RX2 yX2_partLikeness wsX2_partLikeness) := goodIn_app (goodIn_of _ (by decide +kernel)) ggX2_openSpotOf_X2_partLikeness
set_option maxRecDepth 20000 in
theorem ggX3_sortOf_X3_has : GoodIn wsX3_sortOf wsX3_has := goodIn_r _ [6, 7, 8, 9, 10, 11, 12] (by decide +kernel) (by decide +kernel)
set_option maxRecDepth 20000 in
theorem gX3_sortOf_X3_has : GoodIn wsX3_sortOf (wsV RX3 28 RX3 yX3_has wsX3_has) := goodIn_app (goodIn_of _ (by decide +kernel)) ggX3_sortOf_X3_has
set_option maxRecDepth 20000 in
theorem ggX4_init_X3_init : GoodIn wsX4_init wsX3_init := goodIn_r _ [22, 23, 2, 3, 12, 24, 25, 26, 27, 28, 41, 42, 43, 44, 45] (by decide +kernel) (by decide +kernel)
set_option maxRecDepth 20000 in
theorem gX4_init_X3_init : GoodIn wsX4_init (wsX3_init) := ggX4_init_X3_init
set_option maxRecDepth 20000 in
theorem ggX4_init_X0_init : GoodIn wsX4_init wsX0_init := goodIn_r _ [31, 32, 2, 3, 12, 33, 34, 35, 52, 53, 54] (by decide +kernel) (by decide +kernel)
set_option maxRecDepth 20000 in
theorem gX4_init_X0_init : GoodIn wsX4_init (wsX0_init) := ggX4_init_X0_init
set_option maxRecDepth 20000 in
theorem ggX4_init_X2_init : GoodIn wsX4_init wsX2_init := goodIn_r _ [37, 38, 2, 3, 12, 39, 40, 55, 56] (by decide +kernel) (by decide +kernel)
set_option maxRecDepth 20000 in
theorem gX4_init_X2_init_n38 : GoodIn wsX4_init (wsX2_init) := ggX4_init_X2_init
set_option maxRecDepth 20000 in
theorem ggX4_sort_X3_sortOf : GoodIn wsX4_sort wsX3_sortOf := goodIn_r _ [6, 7, 8, 9, 10, 5, 11, 12, 19, 20, 21, 22, 23] (by decide +kernel) (by decide +kernel)
set_option maxRecDepth 20000 in
theorem gX4_sort_X3_sortOf : GoodIn wsX4_sort (wsV RX4 50 RX3 yX3_sortOf wsX3_sortOf) := goodIn_app (goodIn_of _ (by decide +kernel)) ggX4_sort_X3_sortOf
set_option maxRecDepth 20000 in
theorem ggX4_keep_X0_cutTo : GoodIn wsX4_keep wsX0_cutTo := goodIn_r _ [6, 7, 14, 15, 16] (by decide +kernel) (by decide +kernel)
set_option maxRecDepth 20000 in
theorem gX4_keep_X0_cutTo : GoodIn wsX4_keep (wsV RX4 85 RX0 yX0_cutTo wsX0_cutTo) := goodIn_app (goodIn_of _ (by decide +kernel)) ggX4_keep_X0_cutTo
set_option maxRecDepth 20000 in
theorem ggX4_can_X4_askClaims : GoodIn wsX4_can wsX4_askClaims := goodIn_r _ [6, 7, 1, 8, 9, 10, 11, 12, 13, 14, 15, 16, 17, 18, 19, 20, 21, 22, 23, 99, 100, 101, 102, 103, 104, 105, 106, 107] (by decide +kernel) (by decide +kernel)
set_option maxRecDepth 20000 in
theorem gX4_can_X4_askClaims : GoodIn wsX4_can (wsV RX4 88 RX4 yX4_askClaims wsX4_askClaims) := goodIn_app (goodIn_of _ (by decide +kernel)) ggX4_can_X4_askClaims
set_option maxRecDepth 20000 in
theorem ggX4_can_X4_isPossible : GoodIn wsX4_can wsX4_isPossible := goodIn_r _ [27, 28, 29, 7, 30, 31, 32, 33, 34, 35, 36, 37, 38, 39, 40, 41, 42, 43, 44, 45, 46, 47, 48, 49, 50, 51, 52, 53, 54, 55, 56, 57, 58, 59, 60, 61, 62, 63, 64, 11, 65, 19, 66, 67, 68, 69, 18, 70, 71, 72, 73, 74, 75, 76, 77, 78, 79, 80, 81, 82, 83, 84, 85, 86, 87, 88, 89, 90, 91, 92, 93, 94, 95, 96, 97, 98, 99, 100, 101, 102, 103, 104, 108, 109, 110, 111, 112, 113, 114, 105, 106, 107] (by decide +kernel) (by decide +kernel)
set_option maxRecDepth 20000 in
theorem gX4_can_X4_isPossible : GoodIn wsX4_can (wsV RX4 91 RX4 yX4_isPossible wsX4_isPossible) := goodIn_app (goodIn_of _ (by decide +kernel)) ggX4_can_X4_isPossible
set_option maxRecDepth 20000 in
theorem ggX4_first_X4_askClaims : GoodIn wsX4_first wsX4_askClaims := goodIn_r _ [6, 7, 1, 8, 9, 10, 11, 12, 13, 14, 15, 16, 17, 18, 19, 20, 21, 22, 23, 99, 100, 101, 102, 103, 104, 105, 106, 107] (by decide +kernel) (by decide +kernel)
set_option maxRecDepth 20000 in
theorem gX4_first_X4_askClaims : GoodIn wsX4_first (wsV RX4 88 RX4 yX4_askClaims wsX4_askClaims) := goodIn_app (goodIn_of _ (by decide +kernel)) ggX4_first_X4_askClaims
set_option maxRecDepth 20000 in
theorem ggX4_first_X4_isPossible : GoodIn wsX4_first wsX4_isPossible := goodIn_r _ [27, 28, 29, 7, 30, 31, 32, 33, 34, 35, 36, 37, 38, 39, 40, 41, 42, 43, 44, 45, 46, 47, 48, 49, 50, 51, 52, 53, 54, 55, 56, 57, 58, 59, 60, 61, 62, 63, 64, 11, 65, 19, 66, 67, 68, 69, 18, 70, 71, 72, 73, 74, 75, 76, 77, 78, 79, 80, 81, 82, 83, 84, 85, 86, 87, 88, 89, 90, 91, 92, 93, 94, 95, 96, 97, 98, 99, 100, 101, 102, 103, 104, 108, 109, 110, 111, 112, 113, 114, 105, 106, 107] (by decide +kernel) (by decide +kernel)
set_option maxRecDepth 20000 in
theorem gX4_first_X4_isPossible : GoodIn wsX4_first (wsV RX4 91 RX4 yX4_isPossible wsX4_isPossible) := goodIn_app (goodIn_of _ (by decide +kernel)) ggX4_first_X4_isPossible
set_option maxRecDepth 20000 in
theorem ggX4_askClaims_X0_cutTo : GoodIn wsX4_askClaims wsX0_cutTo := goodIn_r _ [7, 8, 25, 26, 27] (by decide +kernel) (by decide +kernel)
set_option maxRecDepth 20000 in
theorem gX4_askClaims_X0_cutTo : GoodIn wsX4_askClaims (wsV RX4 85 RX0 yX0_cutTo wsX0_cutTo) := goodIn_app (goodIn_of _ (by decide +kernel)) ggX4_askClaims_X0_cutTo
set_option maxRecDepth 20000 in
theorem ggX4_askClaims_X0_addFrom : GoodIn wsX4_askClaims wsX0_addFrom := goodIn_r _ [12, 13, 14, 15, 16, 17, 6, 18, 8, 25, 26, 27] (by decide +kernel) (by decide +kernel)
set_option maxRecDepth 20000 in
theorem gX4_askClaims_X0_addFrom : GoodIn wsX4_askClaims (wsV RX4 110 RX0 yX0_addFrom wsX0_addFrom) := goodIn_app (goodIn_of _ (by decide +kernel)) ggX4_askClaims_X0_addFrom
set_option maxRecDepth 20000 in
theorem ggX4_isPossible_X2_finds : GoodIn wsX4_isPossible wsX2_finds := goodIn_r _ [8, 9, 10, 11, 12, 13, 7, 14, 15, 16, 17, 18, 19, 20, 21, 22, 23, 24, 25, 26, 27, 28, 29, 30, 31, 32, 33, 34, 35, 36, 37, 38, 39, 40, 41, 42, 43, 44, 45, 46, 47, 48, 49, 50, 51, 52, 53, 54, 55, 56, 57, 58, 59, 60, 61, 62, 63, 64, 65, 66, 67, 68, 69, 70, 71, 72, 73, 74, 75, 82, 83, 84, 85, 86, 87, 88, 89, 90, 91] (by decide +kernel) (by decide +kernel)
set_option maxRecDepth 20000 in
theorem gX4_isPossible_X2_finds : GoodIn wsX4_isPossible (wsV RX4 101 RX2 yX2_finds wsX2_finds) := goodIn_app (goodIn_of _ (by decide +kernel)) ggX4_isPossible_X2_finds
set_option maxRecDepth 20000 in
theorem ggX5_init_X5_findWays : GoodIn wsX5_init wsX5_findWays := goodIn_r _ [27, 14, 28, 29, 26, 30, 31, 32, 33, 34, 35, 36, 37, 38, 39, 40, 41, 42, 43, 44, 45, 46, 47, 48, 49, 50, 51, 52, 53, 54, 55, 56] (by decide +kernel) (by decide +kernel)
set_option maxRecDepth 20000 in
theorem gX5_init_X5_findWays : GoodIn wsX5_init (wsV RX5 63 RX5 yX5_findWays wsX5_findWays) := goodIn_app (goodIn_of _ (by decide +kernel)) ggX5_init_X5_findWays
set_option maxRecDepth 20000 in
theorem ggX5_findWays_X5_nextWay : GoodIn wsX5_findWays wsX5_nextWay := goodIn_r _ [5, 6, 7, 4, 8, 9, 10, 11] (by decide +kernel) (by decide +kernel)
set_option maxRecDepth 20000 in
theorem gX5_findWays_X5_nextWay : GoodIn wsX5_findWays (va_wsS RX5 70 yX5_nextWay wsX5_nextWay) := goodIn_app (goodIn_of _ (by decide +kernel)) ggX5_findWays_X5_nextWay
set_option maxRecDepth 20000 in
theorem ggX5_greatest_X5_label : GoodIn wsX5_greatest wsX5_label := goodIn_r _ [4] (by decide +kernel) (by decide +kernel)
set_option maxRecDepth 20000 in
theorem gX5_greatest_X5_label : GoodIn wsX5_greatest (va_wsS RX5 74 yX5_label wsX5_label) := goodIn_app (goodIn_of _ (by decide +kernel)) ggX5_greatest_X5_label
set_option maxRecDepth 20000 in
theorem ggX5_nextWay_X5_label : GoodIn wsX5_nextWay wsX5_label := goodIn_r _ [4] (by decide +kernel) (by decide +kernel)
set_option maxRecDepth 20000 in
theorem gX5_nextWay_X5_label : GoodIn wsX5_nextWay (va_wsS RX5 74 yX5_label wsX5_label) := goodIn_app (goodIn_of _ (by decide +kernel)) ggX5_nextWay_X5_label
set_option maxRecDepth 20000 in
theorem ggX5_nextWay_X5_greatest : GoodIn wsX5_nextWay wsX5_greatest := goodIn_r _ [7, 1, 2, 3, 4] (by decide +kernel) (by decide +kernel)
set_option maxRecDepth 20000 in
theorem gX5_nextWay_X5_greatest : GoodIn wsX5_nextWay (va_wsS RX5 77 yX5_greatest wsX5_greatest) := goodIn_app (goodIn_of _ (by decide +kernel)) ggX5_nextWay_X5_greatest
set_option maxRecDepth 20000 in
theorem ggX5_make_X5_found : GoodIn wsX5_make wsX5_found := goodIn_r _ [12, 1, 2, 3, 4, 5, 21, 22, 23, 24, 25, 26, 27, 28, 29, 30, 31, 32, 33, 34, 35, 36, 37, 38, 39, 40] (by decide +kernel) (by decide +kernel)
set_option maxRecDepth 20000 in
theorem gX5_make_X5_found : GoodIn wsX5_make (wsV RX5 80 RX5 yX5_found wsX5_found) := goodIn_app (goodIn_of _ (by decide +kernel)) ggX5_make_X5_found
set_option maxRecDepth 20000 in
theorem ggX5_make_X5_fail : GoodIn wsX5_make wsX5_fail := goodIn_r _ [16, 17, 21, 22, 23, 24, 25, 26, 27, 28, 29, 30, 31, 32, 33, 34, 35, 36, 37, 38, 39, 40] (by decide +kernel) (by decide +kernel)
set_option maxRecDepth 20000 in
theorem gX5_make_X5_fail : GoodIn wsX5_make (wsV RX5 84 RX5 yX5_fail wsX5_fail) := goodIn_app (goodIn_of _ (by decide +kernel)) ggX5_make_X5_fail
set_option maxRecDepth 20000 in
theorem ggX5_make_X5_part : GoodIn wsX5_make wsX5_part := goodIn_r _ [20] (by decide +kernel) (by decide +kernel)
set_option maxRecDepth 20000 in
theorem gX5_make_X5_part : GoodIn wsX5_make (va_wsS RX5 88 yX5_part wsX5_part) := goodIn_app (goodIn_of _ (by decide +kernel)) ggX5_make_X5_part
set_option maxRecDepth 20000 in
theorem ggX5_select_X5_isTerm : GoodIn wsX5_select wsX5_isTerm := goodIn_r _ [7, 8, 29, 30, 31, 32, 33, 34, 35, 36, 37, 38, 39, 40, 41, 42, 43, 44, 45, 46, 47, 48] (by decide +kernel) (by decide +kernel)
set_option maxRecDepth 20000 in
theorem gX5_select_X5_isTerm : GoodIn wsX5_select (wsV RX5 91 RX5 yX5_isTerm wsX5_isTerm) := goodIn_app (goodIn_of _ (by decide +kernel)) ggX5_select_X5_isTerm
set_option maxRecDepth 20000 in
theorem ggX5_select_X5_make : GoodIn wsX5_select wsX5_make := goodIn_r _ [12, 8, 13, 14, 15, 16, 1, 17, 18, 19, 20, 6, 21, 22, 23, 24, 25, 2, 26, 27, 28, 29, 30, 31, 32, 33, 34, 35, 36, 37, 38, 39, 40, 41, 42, 43, 44, 45, 46, 47, 48] (by decide +kernel) (by decide +kernel)
set_option maxRecDepth 20000 in
theorem gX5_select_X5_make : GoodIn wsX5_select (wsV RX5 95 RX5 yX5_make wsX5_make) := goodIn_app (goodIn_of _ (by decide +kernel)) ggX5_select_X5_make
set_option maxRecDepth 20000 in
theorem ggX5_store_X5_isTerm : GoodIn wsX5_store wsX5_isTerm := goodIn_r _ [7, 8, 29, 30, 31, 32, 33, 34, 35, 36, 37, 38, 39, 40, 41, 42, 43, 44, 45, 46, 47, 48] (by decide +kernel) (by decide +kernel)
set_option maxRecDepth 20000 in
theorem gX5_store_X5_isTerm : GoodIn wsX5_store (wsV RX5 91 RX5 yX5_isTerm wsX5_isTerm) := goodIn_app (goodIn_of _ (by decide +kernel)) ggX5_store_X5_isTerm
set_option maxRecDepth 20000 in
theorem ggX5_store_X5_make : GoodIn wsX5_store wsX5_make := goodIn_r _ [12, 8, 13, 14, 15, 16, 1, 17, 18, 19, 20, 6, 21, 22, 23, 24, 25, 2, 26, 27, 28, 29, 30, 31, 32, 33, 34, 35, 36, 37, 38, 39, 40, 41, 42, 43, 44, 45, 46, 47, 48] (by decide +kernel) (by decide +kernel)
set_option maxRecDepth 20000 in
theorem gX5_store_X5_make : GoodIn wsX5_store (wsV RX5 95 RX5 yX5_make wsX5_make) := goodIn_app (goodIn_of _ (by decide +kernel)) ggX5_store_X5_make
set_option maxRecDepth 20000 in
theorem ggX5_sort_X5_isTerm : GoodIn wsX5_sort wsX5_isTerm := goodIn_r _ [7, 8, 9, 10, 11, 12, 13, 14, 15, 16, 17, 18, 19, 20, 21, 22, 23, 24, 25, 26, 27, 28] (by decide +kernel) (by decide +kernel)
set_option maxRecDepth 20000 in
theorem gX5_sort_X5_isTerm : GoodIn wsX5_sort (wsV RX5 91 RX5 yX5_isTerm wsX5_isTerm) := goodIn_app (goodIn_of _ (by decide +kernel)) ggX5_sort_X5_isTerm
set_option maxRecDepth 20000 in
theorem ggX5_areSame_X5_label : GoodIn wsX5_areSame wsX5_label := goodIn_r _ [7] (by decide +kernel) (by decide +kernel)
set_option maxRecDepth 20000 in
theorem gX5_areSame_X5_label : GoodIn wsX5_areSame (va_wsS RX5 74 yX5_label wsX5_label) := goodIn_app (goodIn_of _ (by decide +kernel)) ggX5_areSame_X5_label
set_option maxRecDepth 20000 in
theorem ggX5_areSame_X5_part : GoodIn wsX5_areSame wsX5_part := goodIn_r _ [10] (by decide +kernel) (by decide +kernel)
set_option maxRecDepth 20000 in
theorem gX5_areSame_X5_part : GoodIn wsX5_areSame (va_wsS RX5 88 yX5_part wsX5_part) := goodIn_app (goodIn_of _ (by decide +kernel)) ggX5_areSame_X5_part
set_option maxRecDepth 20000 in
theorem ggX5_sameIn_X5_areSame : GoodIn wsX5_sameIn wsX5_areSame := goodIn_r _ [9, 10, 11, 4, 12, 13, 8, 14, 15, 16, 17, 18, 19, 20, 21, 22, 23, 24, 25, 26, 27, 28, 29, 30, 31, 32, 33, 34, 35, 36, 37] (by decide +kernel) (by decide +kernel)
set_option maxRecDepth 20000 in
theorem gX5_sameIn_X5_areSame : GoodIn wsX5_sameIn (wsV RX5 98 RX5 yX5_areSame wsX5_areSame) := goodIn_app (goodIn_of _ (by decide +kernel)) ggX5_sameIn_X5_areSame
set_option maxRecDepth 20000 in
theorem ggX5_draftHolds_X5_sameIn : GoodIn wsX5_draftHolds wsX5_sameIn := goodIn_r _ [9, 10, 11, 12, 13, 14, 15, 16, 8, 17, 18, 19, 20, 21, 22, 23, 24, 25, 26, 27, 28, 29, 30, 31, 32, 33, 34, 35, 36, 37, 38, 39, 40, 41, 42, 43, 44, 45] (by decide +kernel) (by decide +kernel)
set_option maxRecDepth 20000 in
theorem gX5_draftHolds_X5_sameIn : GoodIn wsX5_draftHolds (wsV RX5 105 RX5 yX5_sameIn wsX5_sameIn) := goodIn_app (goodIn_of _ (by decide +kernel)) ggX5_draftHolds_X5_sameIn
set_option maxRecDepth 20000 in
theorem ggX5_literal_X5_isTerm : GoodIn wsX5_literal wsX5_isTerm := goodIn_r _ [11, 12, 13, 14, 15, 16, 17, 18, 19, 20, 21, 22, 23, 24, 25, 26, 27, 28, 29, 30, 31, 32] (by decide +kernel) (by decide +kernel)
set_option maxRecDepth 20000 in
theorem gX5_literal_X5_isTerm : GoodIn wsX5_literal (wsV RX5 91 RX5 yX5_isTerm wsX5_isTerm) := goodIn_app (goodIn_of _ (by decide +kernel)) ggX5_literal_X5_isTerm
set_option maxRecDepth 20000 in
theorem ggX5_claim_X5_draftHolds : GoodIn wsX5_claim wsX5_draftHolds := goodIn_r _ [10, 1, 11, 12, 13, 14, 15, 16, 9, 17, 4, 18, 19, 20, 21, 22, 23, 24, 25, 26, 27, 28, 29, 30, 31, 32, 33, 34, 35, 36, 37, 38, 39, 40, 41, 42, 43, 44, 45, 46, 47, 48, 49, 50, 51, 52] (by decide +kernel) (by decide +kernel)
set_option maxRecDepth 20000 in
theorem gX5_claim_X5_draftHolds : GoodIn wsX5_claim (wsV RX5 112 RX5 yX5_draftHolds wsX5_draftHolds) := goodIn_app (goodIn_of _ (by decide +kernel)) ggX5_claim_X5_draftHolds
set_option maxRecDepth 20000 in
theorem ggX5_can_X5_all : GoodIn wsX5_can wsX5_all := goodIn_r _ [6, 7, 14, 15, 16, 17, 18, 19, 20, 21, 22, 23, 24, 25, 26, 27, 28, 29, 30, 31, 32, 33] (by decide +kernel) (by decide +kernel)
set_option maxRecDepth 20000 in
theorem gX5_can_X5_all : GoodIn wsX5_can (wsV RX5 116 RX5 yX5_all wsX5_all) := goodIn_app (goodIn_of _ (by decide +kernel)) ggX5_can_X5_all
set_option maxRecDepth 20000 in
theorem ggX5_can_X5_canHold : GoodIn wsX5_can wsX5_canHold := goodIn_r _ [11, 12, 13, 14, 15, 16, 17, 18, 19, 20, 21, 22, 23, 24, 25, 26, 27, 28, 29, 30, 31, 32, 33] (by decide +kernel) (by decide +kernel)
set_option maxRecDepth 20000 in
theorem gX5_can_X5_canHold : GoodIn wsX5_can (wsV RX5 120 RX5 yX5_canHold wsX5_canHold) := goodIn_app (goodIn_of _ (by decide +kernel)) ggX5_can_X5_canHold
set_option maxRecDepth 20000 in
theorem ggX5_first_X5_canHold : GoodIn wsX5_first wsX5_canHold := goodIn_r _ [7, 8, 9, 10, 11, 12, 13, 14, 15, 16, 17, 18, 19, 20, 21, 22, 23, 24, 25, 26, 27, 28, 29] (by decide +kernel) (by decide +kernel)
set_option maxRecDepth 20000 in
theorem gX5_first_X5_canHold : GoodIn wsX5_first (wsV RX5 120 RX5 yX5_canHold wsX5_canHold) := goodIn_app (goodIn_of _ (by decide +kernel)) ggX5_first_X5_canHold
set_option maxRecDepth 20000 in
theorem ggX5_without_X5_all : GoodIn wsX5_without wsX5_all := goodIn_r _ [7, 1, 14, 15, 16, 17, 18, 19, 20, 21, 22, 23, 24, 25, 26, 27, 28, 29, 30, 31, 32, 33] (by decide +kernel) (by decide +kernel)
set_option maxRecDepth 20000 in
theorem gX5_without_X5_all : GoodIn wsX5_without (wsV RX5 116 RX5 yX5_all wsX5_all) := goodIn_app (goodIn_of _ (by decide +kernel)) ggX5_without_X5_all
set_option maxRecDepth 20000 in
theorem ggX5_without_X5_canHold : GoodIn wsX5_without wsX5_canHold := goodIn_r _ [11, 12, 13, 14, 15, 16, 17, 18, 19, 20, 21, 22, 23, 24, 25, 26, 27, 28, 29, 30, 31, 32, 33] (by decide +kernel) (by decide +kernel)
set_option maxRecDepth 20000 in
theorem gX5_without_X5_canHold : GoodIn wsX5_without (wsV RX5 120 RX5 yX5_canHold wsX5_canHold) := goodIn_app (goodIn_of _ (by decide +kernel)) ggX5_without_X5_canHold
set_option maxRecDepth 20000 in
theorem ggX5_same_X5_isTerm : GoodIn wsX5_same wsX5_isTerm := goodIn_r _ [9, 10, 38, 39, 40, 41, 42, 43, 44, 45, 46, 47, 48, 49, 50, 51, 52, 53, 54, 55, 56, 57] (by decide +kernel) (by decide +kernel)
set_option maxRecDepth 20000 in
theorem gX5_same_X5_isTerm : GoodIn wsX5_same (wsV RX5 91 RX5 yX5_isTerm wsX5_isTerm) := goodIn_app (goodIn_of _ (by decide +kernel)) ggX5_same_X5_isTerm
set_option maxRecDepth 20000 in
theorem ggX5_same_X5_all : GoodIn wsX5_same wsX5_all := goodIn_r _ [14, 15, 38, 39, 40, 41, 42, 43, 44, 45, 46, 47, 48, 49, 50, 51, 52, 53, 54, 55, 56, 57] (by decide +kernel) (by decide +kernel)
set_option maxRecDepth 20000 in
theorem gX5_same_X5_all : GoodIn wsX5_same (wsV RX5 116 RX5 yX5_all wsX5_all) := goodIn_app (goodIn_of _ (by decide +kernel)) ggX5_same_X5_all
set_option maxRecDepth 20000 in
theorem ggX5_same_X5_canHold : GoodIn wsX5_same wsX5_canHold := goodIn_r _ [19, 3, 4, 38, 39, 40, 41, 42, 43, 44, 45, 46, 47, 48, 49, 50, 51, 52, 53, 54, 55, 56, 57] (by decide +kernel) (by decide +kernel)
set_option maxRecDepth 20000 in
theorem gX5_same_X5_canHold : GoodIn wsX5_same (wsV RX5 120 RX5 yX5_canHold wsX5_canHold) := goodIn_app (goodIn_of _ (by decide +kernel)) ggX5_same_X5_canHold
set_option maxRecDepth 20000 in
theorem ggX5_same_X5_sameIn : GoodIn wsX5_same wsX5_sameIn := goodIn_r _ [23, 3, 24, 25, 26, 27, 28, 29, 8, 30, 31, 1, 32, 33, 34, 35, 36, 37, 38, 39, 40, 41, 42, 43, 44, 45, 46, 47, 48, 49, 50, 51, 52, 53, 54, 55, 56, 57] (by decide +kernel) (by decide +kernel)
set_option maxRecDepth 20000 in
theorem gX5_same_X5_sameIn : GoodIn wsX5_same (wsV RX5 105 RX5 yX5_sameIn wsX5_sameIn) := goodIn_app (goodIn_of _ (by decide +kernel)) ggX5_same_X5_sameIn
set_option maxRecDepth 20000 in
theorem ggX5_follows_X5_all : GoodIn wsX5_follows wsX5_all := goodIn_r _ [9, 10, 37, 38, 39, 40, 41, 42, 43, 44, 45, 46, 47, 48, 49, 50, 51, 52, 53, 54, 55, 56] (by decide +kernel) (by decide +kernel)
set_option maxRecDepth 20000 in
theorem gX5_follows_X5_all : GoodIn wsX5_follows (wsV RX5 116 RX5 yX5_all wsX5_all) := goodIn_app (goodIn_of _ (by decide +kernel)) ggX5_follows_X5_all
set_option maxRecDepth 20000 in
theorem ggX5_follows_X5_draftHolds : GoodIn wsX5_follows wsX5_draftHolds := goodIn_r _ [14, 1, 15, 16, 17, 18, 19, 20, 8, 21, 3, 22, 23, 24, 25, 26, 27, 28, 29, 30, 31, 32, 33, 34, 35, 36, 37, 38, 39, 40, 41, 42, 43, 44, 45, 46, 47, 48, 49, 50, 51, 52, 53, 54, 55, 56] (by decide +kernel) (by decide +kernel)
set_option maxRecDepth 20000 in
theorem gX5_follows_X5_draftHolds : GoodIn wsX5_follows (wsV RX5 112 RX5 yX5_draftHolds wsX5_draftHolds) := goodIn_app (goodIn_of _ (by decide +kernel)) ggX5_follows_X5_draftHolds
set_option maxRecDepth 20000 in
theorem ggX5_apart_X5_all : GoodIn wsX5_apart wsX5_all := goodIn_r _ [9, 10, 15, 16, 17, 18, 19, 20, 21, 22, 23, 24, 25, 26, 27, 28, 29, 30, 31, 32, 33, 34] (by decide +kernel) (by decide +kernel)
set_option maxRecDepth 20000 in
theorem gX5_apart_X5_all : GoodIn wsX5_apart (wsV RX5 116 RX5 yX5_all wsX5_all) := goodIn_app (goodIn_of _ (by decide +kernel)) ggX5_apart_X5_all
set_option maxRecDepth 20000 in
theorem ggX5_apart_X5_canHold : GoodIn wsX5_apart wsX5_canHold := goodIn_r _ [14, 2, 3, 15, 16, 17, 18, 19, 20, 21, 22, 23, 24, 25, 26, 27, 28, 29, 30, 31, 32, 33, 34] (by decide +kernel) (by decide +kernel)
set_option maxRecDepth 20000 in
theorem gX5_apart_X5_canHold : GoodIn wsX5_apart (wsV RX5 120 RX5 yX5_canHold wsX5_canHold) := goodIn_app (goodIn_of _ (by decide +kernel)) ggX5_apart_X5_canHold
abbrev vwCl : List vw_C := [(RX0, TX0, 3), (RX2, TX2, 2), (RX3, TX3, 5), (RX4, TX4, 6), (RX5, TX5, 20)]
end
section
theorem dX0_init_0 : decode cX0_init 0 = .ok (.aload_n 0, 1) := by decide +kernel
theorem dX0_init_1 : decode cX0_init 1 = .ok (.invokespecial 3, 3) := by decide +kernel
theorem dX0_init_4 : decode cX0_init 4 = .ok (.aload_n 0, 1) := by decide +kernel
theorem dX0_init_5 : decode cX0_init 5 = .ok (.iload_n 1, 1) := by decide +kernel
theorem dX0_init_6 : decode cX0_init 6 = .ok (.iconst 3, 1) := by decide +kernel
theorem dX0_init_7 : decode cX0_init 7 = .ok (.imul, 1) := by decide +kernel
theorem dX0_init_8 : decode cX0_init 8 = .ok (.newarray .int, 2) := by decide +kernel
theorem dX0_init_10 : decode cX0_init 10 = .ok (.putfield 9, 3) := by decide +kernel
theorem dX0_init_13 : decode cX0_init 13 = .ok (.aload_n 0, 1) := by decide +kernel
theorem dX0_init_14 : decode cX0_init 14 = .ok (.iload_n 1, 1) := by decide +kernel
theorem dX0_init_15 : decode cX0_init 15 = .ok (.newarray .int, 2) := by decide +kernel
theorem dX0_init_17 : decode cX0_init 17 = .ok (.putfield 15, 3) := by decide +kernel
theorem dX0_init_20 : decode cX0_init 20 = .ok (.aload_n 0, 1) := by decide +kernel
theorem dX0_init_21 : decode cX0_init 21 = .ok (.iconst 0, 1) := by decide +kernel
theorem dX0_init_22 : decode cX0_init 22 = .ok (.putfield 18, 3) := by decide +kernel
theorem dX0_init_25 : decode cX0_init 25 = .ok (.return_, 1) := by decide +kernel
theorem dX0_add_0 : decode cX0_add 0 = .ok (.aload_n 0, 1) := by decide +kernel
theorem dX0_add_1 : decode cX0_add 1 = .ok (.getfield 18, 3) := by decide +kernel
theorem dX0_add_4 : decode cX0_add 4 = .ok (.aload_n 0, 1) := by decide +kernel
theorem dX0_add_5 : decode cX0_add 5 = .ok (.getfield 15, 3) := by decide +kernel
theorem dX0_add_8 : decode cX0_add 8 = .ok (.arraylength, 1) := by decide +kernel
theorem dX0_add_9 : decode cX0_add 9 = .ok (.if_icmp .ge 8, 3) := by decide +kernel
theorem dX0_add_12 : decode cX0_add 12 = .ok (.iload_n 3, 1) := by decide +kernel
theorem dX0_add_13 : decode cX0_add 13 = .ok (.iconst 3, 1) := by decide +kernel
theorem dX0_add_14 : decode cX0_add 14 = .ok (.if_icmp .le 4, 3) := by decide +kernel
theorem dX0_add_17 : decode cX0_add 17 = .ok (.return_, 1) := by decide +kernel
theorem dX0_add_18 : decode cX0_add 18 = .ok (.iconst 0, 1) := by decide +kernel
theorem dX0_add_19 : decode cX0_add 19 = .ok (.istore 4, 2) := by decide +kernel
theorem dX0_add_21 : decode cX0_add 21 = .ok (.iload 4, 2) := by decide +kernel
theorem dX0_add_23 : decode cX0_add 23 = .ok (.iload_n 3, 1) := by decide +kernel
theorem dX0_add_24 : decode cX0_add 24 = .ok (.if_icmp .ge 29, 3) := by decide +kernel
theorem dX0_add_27 : decode cX0_add 27 = .ok (.aload_n 0, 1) := by decide +kernel
theorem dX0_add_28 : decode cX0_add 28 = .ok (.getfield 9, 3) := by decide +kernel
theorem dX0_add_31 : decode cX0_add 31 = .ok (.aload_n 0, 1) := by decide +kernel
theorem dX0_add_32 : decode cX0_add 32 = .ok (.getfield 18, 3) := by decide +kernel
theorem dX0_add_35 : decode cX0_add 35 = .ok (.iconst 3, 1) := by decide +kernel
theorem dX0_add_36 : decode cX0_add 36 = .ok (.imul, 1) := by decide +kernel
theorem dX0_add_37 : decode cX0_add 37 = .ok (.iload 4, 2) := by decide +kernel
theorem dX0_add_39 : decode cX0_add 39 = .ok (.iadd, 1) := by decide +kernel
theorem dX0_add_40 : decode cX0_add 40 = .ok (.aload_n 1, 1) := by decide +kernel
theorem dX0_add_41 : decode cX0_add 41 = .ok (.iload_n 2, 1) := by decide +kernel
theorem dX0_add_42 : decode cX0_add 42 = .ok (.iload 4, 2) := by decide +kernel
theorem dX0_add_44 : decode cX0_add 44 = .ok (.iadd, 1) := by decide +kernel
theorem dX0_add_45 : decode cX0_add 45 = .ok (.iaload, 1) := by decide +kernel
theorem dX0_add_46 : decode cX0_add 46 = .ok (.iastore, 1) := by decide +kernel
theorem dX0_add_47 : decode cX0_add 47 = .ok (.iinc 4 1, 3) := by decide +kernel
theorem dX0_add_50 : decode cX0_add 50 = .ok (.goto (-29), 3) := by decide +kernel
theorem dX0_add_53 : decode cX0_add 53 = .ok (.aload_n 0, 1) := by decide +kernel
theorem dX0_add_54 : decode cX0_add 54 = .ok (.getfield 15, 3) := by decide +kernel
theorem dX0_add_57 : decode cX0_add 57 = .ok (.aload_n 0, 1) := by decide +kernel
theorem dX0_add_58 : decode cX0_add 58 = .ok (.getfield 18, 3) := by decide +kernel
theorem dX0_add_61 : decode cX0_add 61 = .ok (.iload_n 3, 1) := by decide +kernel
theorem dX0_add_62 : decode cX0_add 62 = .ok (.iastore, 1) := by decide +kernel
theorem dX0_add_63 : decode cX0_add 63 = .ok (.aload_n 0, 1) := by decide +kernel
theorem dX0_add_64 : decode cX0_add 64 = .ok (.dup, 1) := by decide +kernel
theorem dX0_add_65 : decode cX0_add 65 = .ok (.getfield 18, 3) := by decide +kernel
theorem dX0_add_68 : decode cX0_add 68 = .ok (.iconst 1, 1) := by decide +kernel
theorem dX0_add_69 : decode cX0_add 69 = .ok (.iadd, 1) := by decide +kernel
theorem dX0_add_70 : decode cX0_add 70 = .ok (.putfield 18, 3) := by decide +kernel
theorem dX0_add_73 : decode cX0_add 73 = .ok (.return_, 1) := by decide +kernel
theorem dX0_addFrom_0 : decode cX0_addFrom 0 = .ok (.aload_n 0, 1) := by decide +kernel
theorem dX0_addFrom_1 : decode cX0_addFrom 1 = .ok (.aload_n 1, 1) := by decide +kernel
theorem dX0_addFrom_2 : decode cX0_addFrom 2 = .ok (.getfield 9, 3) := by decide +kernel
theorem dX0_addFrom_5 : decode cX0_addFrom 5 = .ok (.iload_n 2, 1) := by decide +kernel
theorem dX0_addFrom_6 : decode cX0_addFrom 6 = .ok (.iconst 3, 1) := by decide +kernel
theorem dX0_addFrom_7 : decode cX0_addFrom 7 = .ok (.imul, 1) := by decide +kernel
theorem dX0_addFrom_8 : decode cX0_addFrom 8 = .ok (.aload_n 1, 1) := by decide +kernel
theorem dX0_addFrom_9 : decode cX0_addFrom 9 = .ok (.getfield 15, 3) := by decide +kernel
theorem dX0_addFrom_12 : decode cX0_addFrom 12 = .ok (.iload_n 2, 1) := by decide +kernel
theorem dX0_addFrom_13 : decode cX0_addFrom 13 = .ok (.iaload, 1) := by decide +kernel
theorem dX0_addFrom_14 : decode cX0_addFrom 14 = .ok (.invokevirtual 22, 3) := by decide +kernel
theorem dX0_addFrom_17 : decode cX0_addFrom 17 = .ok (.return_, 1) := by decide +kernel
theorem dX0_addSingle_0 : decode cX0_addSingle 0 = .ok (.aload_n 0, 1) := by decide +kernel
theorem dX0_addSingle_1 : decode cX0_addSingle 1 = .ok (.getfield 18, 3) := by decide +kernel
theorem dX0_addSingle_4 : decode cX0_addSingle 4 = .ok (.aload_n 0, 1) := by decide +kernel
theorem dX0_addSingle_5 : decode cX0_addSingle 5 = .ok (.getfield 15, 3) := by decide +kernel
theorem dX0_addSingle_8 : decode cX0_addSingle 8 = .ok (.arraylength, 1) := by decide +kernel
theorem dX0_addSingle_9 : decode cX0_addSingle 9 = .ok (.if_icmp .lt 4, 3) := by decide +kernel
theorem dX0_addSingle_12 : decode cX0_addSingle 12 = .ok (.return_, 1) := by decide +kernel
theorem dX0_addSingle_13 : decode cX0_addSingle 13 = .ok (.aload_n 0, 1) := by decide +kernel
theorem dX0_addSingle_14 : decode cX0_addSingle 14 = .ok (.getfield 9, 3) := by decide +kernel
theorem dX0_addSingle_17 : decode cX0_addSingle 17 = .ok (.aload_n 0, 1) := by decide +kernel
theorem dX0_addSingle_18 : decode cX0_addSingle 18 = .ok (.getfield 18, 3) := by decide +kernel
theorem dX0_addSingle_21 : decode cX0_addSingle 21 = .ok (.iconst 3, 1) := by decide +kernel
theorem dX0_addSingle_22 : decode cX0_addSingle 22 = .ok (.imul, 1) := by decide +kernel
theorem dX0_addSingle_23 : decode cX0_addSingle 23 = .ok (.iload_n 1, 1) := by decide +kernel
theorem dX0_addSingle_24 : decode cX0_addSingle 24 = .ok (.iastore, 1) := by decide +kernel
theorem dX0_addSingle_25 : decode cX0_addSingle 25 = .ok (.aload_n 0, 1) := by decide +kernel
theorem dX0_addSingle_26 : decode cX0_addSingle 26 = .ok (.getfield 15, 3) := by decide +kernel
theorem dX0_addSingle_29 : decode cX0_addSingle 29 = .ok (.aload_n 0, 1) := by decide +kernel
theorem dX0_addSingle_30 : decode cX0_addSingle 30 = .ok (.getfield 18, 3) := by decide +kernel
theorem dX0_addSingle_33 : decode cX0_addSingle 33 = .ok (.iconst 1, 1) := by decide +kernel
theorem dX0_addSingle_34 : decode cX0_addSingle 34 = .ok (.iastore, 1) := by decide +kernel
theorem dX0_addSingle_35 : decode cX0_addSingle 35 = .ok (.aload_n 0, 1) := by decide +kernel
theorem dX0_addSingle_36 : decode cX0_addSingle 36 = .ok (.dup, 1) := by decide +kernel
theorem dX0_addSingle_37 : decode cX0_addSingle 37 = .ok (.getfield 18, 3) := by decide +kernel
theorem dX0_addSingle_40 : decode cX0_addSingle 40 = .ok (.iconst 1, 1) := by decide +kernel
theorem dX0_addSingle_41 : decode cX0_addSingle 41 = .ok (.iadd, 1) := by decide +kernel
theorem dX0_addSingle_42 : decode cX0_addSingle 42 = .ok (.putfield 18, 3) := by decide +kernel
theorem dX0_addSingle_45 : decode cX0_addSingle 45 = .ok (.return_, 1) := by decide +kernel
theorem dX0_cutTo_0 : decode cX0_cutTo 0 = .ok (.iload_n 1, 1) := by decide +kernel
theorem dX0_cutTo_1 : decode cX0_cutTo 1 = .ok (.ifCond .lt 16, 3) := by decide +kernel
theorem dX0_cutTo_4 : decode cX0_cutTo 4 = .ok (.iload_n 1, 1) := by decide +kernel
theorem dX0_cutTo_5 : decode cX0_cutTo 5 = .ok (.aload_n 0, 1) := by decide +kernel
theorem dX0_cutTo_6 : decode cX0_cutTo 6 = .ok (.getfield 18, 3) := by decide +kernel
theorem dX0_cutTo_9 : decode cX0_cutTo 9 = .ok (.if_icmp .ge 8, 3) := by decide +kernel
theorem dX0_cutTo_12 : decode cX0_cutTo 12 = .ok (.aload_n 0, 1) := by decide +kernel
theorem dX0_cutTo_13 : decode cX0_cutTo 13 = .ok (.iload_n 1, 1) := by decide +kernel
theorem dX0_cutTo_14 : decode cX0_cutTo 14 = .ok (.putfield 18, 3) := by decide +kernel
theorem dX0_cutTo_17 : decode cX0_cutTo 17 = .ok (.return_, 1) := by decide +kernel
theorem dX0_sizeOf_0 : decode cX0_sizeOf 0 = .ok (.aload_n 0, 1) := by decide +kernel
theorem dX0_sizeOf_1 : decode cX0_sizeOf 1 = .ok (.getfield 15, 3) := by decide +kernel
theorem dX0_sizeOf_4 : decode cX0_sizeOf 4 = .ok (.iload_n 1, 1) := by decide +kernel
theorem dX0_sizeOf_5 : decode cX0_sizeOf 5 = .ok (.iaload, 1) := by decide +kernel
theorem dX0_sizeOf_6 : decode cX0_sizeOf 6 = .ok (.ireturn, 1) := by decide +kernel
theorem dX0_at_0 : decode cX0_at 0 = .ok (.aload_n 0, 1) := by decide +kernel
theorem dX0_at_1 : decode cX0_at 1 = .ok (.getfield 9, 3) := by decide +kernel
theorem dX0_at_4 : decode cX0_at 4 = .ok (.iload_n 1, 1) := by decide +kernel
theorem dX0_at_5 : decode cX0_at 5 = .ok (.iconst 3, 1) := by decide +kernel
theorem dX0_at_6 : decode cX0_at 6 = .ok (.imul, 1) := by decide +kernel
theorem dX0_at_7 : decode cX0_at 7 = .ok (.iload_n 2, 1) := by decide +kernel
theorem dX0_at_8 : decode cX0_at 8 = .ok (.iadd, 1) := by decide +kernel
theorem dX0_at_9 : decode cX0_at 9 = .ok (.iaload, 1) := by decide +kernel
theorem dX0_at_10 : decode cX0_at 10 = .ok (.ireturn, 1) := by decide +kernel
theorem dX1_of_0 : decode cX1_of 0 = .ok (.iload_n 0, 1) := by decide +kernel
theorem dX1_of_1 : decode cX1_of 1 = .ok (.iload_n 1, 1) := by decide +kernel
theorem dX1_of_2 : decode cX1_of 2 = .ok (.iconst 5, 1) := by decide +kernel
theorem dX1_of_3 : decode cX1_of 3 = .ok (.ishl, 1) := by decide +kernel
theorem dX1_of_4 : decode cX1_of 4 = .ok (.ior, 1) := by decide +kernel
theorem dX1_of_5 : decode cX1_of 5 = .ok (.iload_n 2, 1) := by decide +kernel
theorem dX1_of_6 : decode cX1_of 6 = .ok (.ifCond .eq 9, 3) := by decide +kernel
theorem dX1_of_9 : decode cX1_of 9 = .ok (.sipush 1024, 3) := by decide +kernel
theorem dX1_of_12 : decode cX1_of 12 = .ok (.goto 4, 3) := by decide +kernel
theorem dX1_of_15 : decode cX1_of 15 = .ok (.iconst 0, 1) := by decide +kernel
theorem dX1_of_16 : decode cX1_of 16 = .ok (.ior, 1) := by decide +kernel
theorem dX1_of_17 : decode cX1_of 17 = .ok (.ireturn, 1) := by decide +kernel
theorem dX1_left_0 : decode cX1_left 0 = .ok (.iload_n 0, 1) := by decide +kernel
theorem dX1_left_1 : decode cX1_left 1 = .ok (.bipush 31, 2) := by decide +kernel
theorem dX1_left_3 : decode cX1_left 3 = .ok (.iand, 1) := by decide +kernel
theorem dX1_left_4 : decode cX1_left 4 = .ok (.ireturn, 1) := by decide +kernel
theorem dX1_right_0 : decode cX1_right 0 = .ok (.iload_n 0, 1) := by decide +kernel
theorem dX1_right_1 : decode cX1_right 1 = .ok (.iconst 5, 1) := by decide +kernel
theorem dX1_right_2 : decode cX1_right 2 = .ok (.ishr, 1) := by decide +kernel
theorem dX1_right_3 : decode cX1_right 3 = .ok (.bipush 31, 2) := by decide +kernel
theorem dX1_right_5 : decode cX1_right 5 = .ok (.iand, 1) := by decide +kernel
theorem dX1_right_6 : decode cX1_right 6 = .ok (.ireturn, 1) := by decide +kernel
theorem dX1_saysSame_0 : decode cX1_saysSame 0 = .ok (.iload_n 0, 1) := by decide +kernel
theorem dX1_saysSame_1 : decode cX1_saysSame 1 = .ok (.sipush 1024, 3) := by decide +kernel
theorem dX1_saysSame_4 : decode cX1_saysSame 4 = .ok (.iand, 1) := by decide +kernel
theorem dX1_saysSame_5 : decode cX1_saysSame 5 = .ok (.ifCond .eq 7, 3) := by decide +kernel
theorem dX1_saysSame_8 : decode cX1_saysSame 8 = .ok (.iconst 1, 1) := by decide +kernel
theorem dX1_saysSame_9 : decode cX1_saysSame 9 = .ok (.goto 4, 3) := by decide +kernel
theorem dX1_saysSame_12 : decode cX1_saysSame 12 = .ok (.iconst 0, 1) := by decide +kernel
theorem dX1_saysSame_13 : decode cX1_saysSame 13 = .ok (.ireturn, 1) := by decide +kernel
theorem dX1_opposite_0 : decode cX1_opposite 0 = .ok (.iload_n 0, 1) := by decide +kernel
theorem dX1_opposite_1 : decode cX1_opposite 1 = .ok (.sipush 1024, 3) := by decide +kernel
theorem dX1_opposite_4 : decode cX1_opposite 4 = .ok (.ixor, 1) := by decide +kernel
theorem dX1_opposite_5 : decode cX1_opposite 5 = .ok (.ireturn, 1) := by decide +kernel
theorem dX2_init_0 : decode cX2_init 0 = .ok (.aload_n 0, 1) := by decide +kernel
theorem dX2_init_1 : decode cX2_init 1 = .ok (.invokespecial 5, 3) := by decide +kernel
theorem dX2_init_4 : decode cX2_init 4 = .ok (.aload_n 0, 1) := by decide +kernel
theorem dX2_init_5 : decode cX2_init 5 = .ok (.bipush 96, 2) := by decide +kernel
theorem dX2_init_7 : decode cX2_init 7 = .ok (.newarray .int, 2) := by decide +kernel
theorem dX2_init_9 : decode cX2_init 9 = .ok (.putfield 11, 3) := by decide +kernel
theorem dX2_init_12 : decode cX2_init 12 = .ok (.aload_n 0, 1) := by decide +kernel
theorem dX2_init_13 : decode cX2_init 13 = .ok (.bipush 10, 2) := by decide +kernel
theorem dX2_init_15 : decode cX2_init 15 = .ok (.newarray .int, 2) := by decide +kernel
theorem dX2_init_17 : decode cX2_init 17 = .ok (.putfield 15, 3) := by decide +kernel
theorem dX2_init_20 : decode cX2_init 20 = .ok (.return_, 1) := by decide +kernel
theorem dX2_finds_0 : decode cX2_finds 0 = .ok (.iconst 0, 1) := by decide +kernel
theorem dX2_finds_1 : decode cX2_finds 1 = .ok (.istore 5, 2) := by decide +kernel
theorem dX2_finds_3 : decode cX2_finds 3 = .ok (.iload 5, 2) := by decide +kernel
theorem dX2_finds_5 : decode cX2_finds 5 = .ok (.iconst 5, 1) := by decide +kernel
theorem dX2_finds_6 : decode cX2_finds 6 = .ok (.if_icmp .ge 65, 3) := by decide +kernel
theorem dX2_finds_9 : decode cX2_finds 9 = .ok (.getstatic 18, 3) := by decide +kernel
theorem dX2_finds_12 : decode cX2_finds 12 = .ok (.iload 5, 2) := by decide +kernel
theorem dX2_finds_14 : decode cX2_finds 14 = .ok (.iaload, 1) := by decide +kernel
theorem dX2_finds_15 : decode cX2_finds 15 = .ok (.iload_n 3, 1) := by decide +kernel
theorem dX2_finds_16 : decode cX2_finds 16 = .ok (.if_icmp .lt 49, 3) := by decide +kernel
theorem dX2_finds_19 : decode cX2_finds 19 = .ok (.getstatic 18, 3) := by decide +kernel
theorem dX2_finds_22 : decode cX2_finds 22 = .ok (.iload 5, 2) := by decide +kernel
theorem dX2_finds_24 : decode cX2_finds 24 = .ok (.iaload, 1) := by decide +kernel
theorem dX2_finds_25 : decode cX2_finds 25 = .ok (.iload 4, 2) := by decide +kernel
theorem dX2_finds_27 : decode cX2_finds 27 = .ok (.if_icmp .gt 38, 3) := by decide +kernel
theorem dX2_finds_30 : decode cX2_finds 30 = .ok (.aload_n 0, 1) := by decide +kernel
theorem dX2_finds_31 : decode cX2_finds 31 = .ok (.aload_n 1, 1) := by decide +kernel
theorem dX2_finds_32 : decode cX2_finds 32 = .ok (.iload 5, 2) := by decide +kernel
theorem dX2_finds_34 : decode cX2_finds 34 = .ok (.invokevirtual 21, 3) := by decide +kernel
theorem dX2_finds_37 : decode cX2_finds 37 = .ok (.aload_n 0, 1) := by decide +kernel
theorem dX2_finds_38 : decode cX2_finds 38 = .ok (.getfield 15, 3) := by decide +kernel
theorem dX2_finds_41 : decode cX2_finds 41 = .ok (.iconst (-1), 1) := by decide +kernel
theorem dX2_finds_42 : decode cX2_finds 42 = .ok (.invokestatic 25, 3) := by decide +kernel
theorem dX2_finds_45 : decode cX2_finds 45 = .ok (.aload_n 0, 1) := by decide +kernel
theorem dX2_finds_46 : decode cX2_finds 46 = .ok (.getfield 15, 3) := by decide +kernel
theorem dX2_finds_49 : decode cX2_finds 49 = .ok (.iconst 5, 1) := by decide +kernel
theorem dX2_finds_50 : decode cX2_finds 50 = .ok (.iconst 0, 1) := by decide +kernel
theorem dX2_finds_51 : decode cX2_finds 51 = .ok (.iastore, 1) := by decide +kernel
theorem dX2_finds_52 : decode cX2_finds 52 = .ok (.aload_n 0, 1) := by decide +kernel
theorem dX2_finds_53 : decode cX2_finds 53 = .ok (.aload_n 1, 1) := by decide +kernel
theorem dX2_finds_54 : decode cX2_finds 54 = .ok (.aload_n 2, 1) := by decide +kernel
theorem dX2_finds_55 : decode cX2_finds 55 = .ok (.iconst 2, 1) := by decide +kernel
theorem dX2_finds_56 : decode cX2_finds 56 = .ok (.iconst 0, 1) := by decide +kernel
theorem dX2_finds_57 : decode cX2_finds 57 = .ok (.invokevirtual 31, 3) := by decide +kernel
theorem dX2_finds_60 : decode cX2_finds 60 = .ok (.ifCond .eq 5, 3) := by decide +kernel
theorem dX2_finds_63 : decode cX2_finds 63 = .ok (.iconst 1, 1) := by decide +kernel
theorem dX2_finds_64 : decode cX2_finds 64 = .ok (.ireturn, 1) := by decide +kernel
theorem dX2_finds_65 : decode cX2_finds 65 = .ok (.iinc 5 1, 3) := by decide +kernel
theorem dX2_finds_68 : decode cX2_finds 68 = .ok (.goto (-65), 3) := by decide +kernel
theorem dX2_finds_71 : decode cX2_finds 71 = .ok (.iconst 0, 1) := by decide +kernel
theorem dX2_finds_72 : decode cX2_finds 72 = .ok (.ireturn, 1) := by decide +kernel
theorem dX2_lowest_0 : decode cX2_lowest 0 = .ok (.getstatic 35, 3) := by decide +kernel
theorem dX2_lowest_3 : decode cX2_lowest 3 = .ok (.iload_n 0, 1) := by decide +kernel
theorem dX2_lowest_4 : decode cX2_lowest 4 = .ok (.iconst 3, 1) := by decide +kernel
theorem dX2_lowest_5 : decode cX2_lowest 5 = .ok (.imul, 1) := by decide +kernel
theorem dX2_lowest_6 : decode cX2_lowest 6 = .ok (.iload_n 1, 1) := by decide +kernel
theorem dX2_lowest_7 : decode cX2_lowest 7 = .ok (.iadd, 1) := by decide +kernel
theorem dX2_lowest_8 : decode cX2_lowest 8 = .ok (.iaload, 1) := by decide +kernel
theorem dX2_lowest_9 : decode cX2_lowest 9 = .ok (.ireturn, 1) := by decide +kernel
theorem dX2_spellOut_0 : decode cX2_spellOut 0 = .ok (.aload_n 0, 1) := by decide +kernel
theorem dX2_spellOut_1 : decode cX2_spellOut 1 = .ok (.iload_n 2, 1) := by decide +kernel
theorem dX2_spellOut_2 : decode cX2_spellOut 2 = .ok (.invokevirtual 38, 3) := by decide +kernel
theorem dX2_spellOut_5 : decode cX2_spellOut 5 = .ok (.bipush 7, 2) := by decide +kernel
theorem dX2_spellOut_7 : decode cX2_spellOut 7 = .ok (.istore_n 3, 1) := by decide +kernel
theorem dX2_spellOut_8 : decode cX2_spellOut 8 = .ok (.iload_n 3, 1) := by decide +kernel
theorem dX2_spellOut_9 : decode cX2_spellOut 9 = .ok (.aload_n 1, 1) := by decide +kernel
theorem dX2_spellOut_10 : decode cX2_spellOut 10 = .ok (.getfield 42, 3) := by decide +kernel
theorem dX2_spellOut_13 : decode cX2_spellOut 13 = .ok (.if_icmp .ge 147, 3) := by decide +kernel
theorem dX2_spellOut_16 : decode cX2_spellOut 16 = .ok (.aload_n 1, 1) := by decide +kernel
theorem dX2_spellOut_17 : decode cX2_spellOut 17 = .ok (.getfield 48, 3) := by decide +kernel
theorem dX2_spellOut_20 : decode cX2_spellOut 20 = .ok (.iload_n 3, 1) := by decide +kernel
theorem dX2_spellOut_21 : decode cX2_spellOut 21 = .ok (.iaload, 1) := by decide +kernel
theorem dX2_spellOut_22 : decode cX2_spellOut 22 = .ok (.iconst 4, 1) := by decide +kernel
theorem dX2_spellOut_23 : decode cX2_spellOut 23 = .ok (.imul, 1) := by decide +kernel
theorem dX2_spellOut_24 : decode cX2_spellOut 24 = .ok (.istore 4, 2) := by decide +kernel
theorem dX2_spellOut_26 : decode cX2_spellOut 26 = .ok (.iload_n 2, 1) := by decide +kernel
theorem dX2_spellOut_27 : decode cX2_spellOut 27 = .ok (.aload_n 1, 1) := by decide +kernel
theorem dX2_spellOut_28 : decode cX2_spellOut 28 = .ok (.getfield 51, 3) := by decide +kernel
theorem dX2_spellOut_31 : decode cX2_spellOut 31 = .ok (.iload_n 3, 1) := by decide +kernel
theorem dX2_spellOut_32 : decode cX2_spellOut 32 = .ok (.iaload, 1) := by decide +kernel
theorem dX2_spellOut_33 : decode cX2_spellOut 33 = .ok (.invokestatic 54, 3) := by decide +kernel
theorem dX2_spellOut_36 : decode cX2_spellOut 36 = .ok (.istore 5, 2) := by decide +kernel
theorem dX2_spellOut_38 : decode cX2_spellOut 38 = .ok (.aload_n 1, 1) := by decide +kernel
theorem dX2_spellOut_39 : decode cX2_spellOut 39 = .ok (.getfield 58, 3) := by decide +kernel
theorem dX2_spellOut_42 : decode cX2_spellOut 42 = .ok (.iload_n 3, 1) := by decide +kernel
theorem dX2_spellOut_43 : decode cX2_spellOut 43 = .ok (.iaload, 1) := by decide +kernel
theorem dX2_spellOut_44 : decode cX2_spellOut 44 = .ok (.iconst 1, 1) := by decide +kernel
theorem dX2_spellOut_45 : decode cX2_spellOut 45 = .ok (.if_icmp .ne 24, 3) := by decide +kernel
theorem dX2_spellOut_48 : decode cX2_spellOut 48 = .ok (.aload_n 0, 1) := by decide +kernel
theorem dX2_spellOut_49 : decode cX2_spellOut 49 = .ok (.getfield 11, 3) := by decide +kernel
theorem dX2_spellOut_52 : decode cX2_spellOut 52 = .ok (.iload_n 3, 1) := by decide +kernel
theorem dX2_spellOut_53 : decode cX2_spellOut 53 = .ok (.iconst 4, 1) := by decide +kernel
theorem dX2_spellOut_54 : decode cX2_spellOut 54 = .ok (.imul, 1) := by decide +kernel
theorem dX2_spellOut_55 : decode cX2_spellOut 55 = .ok (.aload_n 0, 1) := by decide +kernel
theorem dX2_spellOut_56 : decode cX2_spellOut 56 = .ok (.getfield 11, 3) := by decide +kernel
theorem dX2_spellOut_59 : decode cX2_spellOut 59 = .ok (.iload 4, 2) := by decide +kernel
theorem dX2_spellOut_61 : decode cX2_spellOut 61 = .ok (.iload 5, 2) := by decide +kernel
theorem dX2_spellOut_63 : decode cX2_spellOut 63 = .ok (.iadd, 1) := by decide +kernel
theorem dX2_spellOut_64 : decode cX2_spellOut 64 = .ok (.iaload, 1) := by decide +kernel
theorem dX2_spellOut_65 : decode cX2_spellOut 65 = .ok (.iastore, 1) := by decide +kernel
theorem dX2_spellOut_66 : decode cX2_spellOut 66 = .ok (.goto 88, 3) := by decide +kernel
theorem dX2_spellOut_69 : decode cX2_spellOut 69 = .ok (.aload_n 0, 1) := by decide +kernel
theorem dX2_spellOut_70 : decode cX2_spellOut 70 = .ok (.getfield 11, 3) := by decide +kernel
theorem dX2_spellOut_73 : decode cX2_spellOut 73 = .ok (.aload_n 1, 1) := by decide +kernel
theorem dX2_spellOut_74 : decode cX2_spellOut 74 = .ok (.getfield 61, 3) := by decide +kernel
theorem dX2_spellOut_77 : decode cX2_spellOut 77 = .ok (.iload_n 3, 1) := by decide +kernel
theorem dX2_spellOut_78 : decode cX2_spellOut 78 = .ok (.iaload, 1) := by decide +kernel
theorem dX2_spellOut_79 : decode cX2_spellOut 79 = .ok (.iconst 4, 1) := by decide +kernel
theorem dX2_spellOut_80 : decode cX2_spellOut 80 = .ok (.imul, 1) := by decide +kernel
theorem dX2_spellOut_81 : decode cX2_spellOut 81 = .ok (.iaload, 1) := by decide +kernel
theorem dX2_spellOut_82 : decode cX2_spellOut 82 = .ok (.istore 6, 2) := by decide +kernel
theorem dX2_spellOut_84 : decode cX2_spellOut 84 = .ok (.iconst 0, 1) := by decide +kernel
theorem dX2_spellOut_85 : decode cX2_spellOut 85 = .ok (.istore 7, 2) := by decide +kernel
theorem dX2_spellOut_87 : decode cX2_spellOut 87 = .ok (.iload 7, 2) := by decide +kernel
theorem dX2_spellOut_89 : decode cX2_spellOut 89 = .ok (.iconst 4, 1) := by decide +kernel
theorem dX2_spellOut_90 : decode cX2_spellOut 90 = .ok (.if_icmp .ge 64, 3) := by decide +kernel
theorem dX2_spellOut_93 : decode cX2_spellOut 93 = .ok (.iload 7, 2) := by decide +kernel
theorem dX2_spellOut_95 : decode cX2_spellOut 95 = .ok (.iconst 3, 1) := by decide +kernel
theorem dX2_spellOut_96 : decode cX2_spellOut 96 = .ok (.if_icmp .eq 18, 3) := by decide +kernel
theorem dX2_spellOut_99 : decode cX2_spellOut 99 = .ok (.iload_n 2, 1) := by decide +kernel
theorem dX2_spellOut_100 : decode cX2_spellOut 100 = .ok (.iload 7, 2) := by decide +kernel
theorem dX2_spellOut_102 : decode cX2_spellOut 102 = .ok (.invokestatic 54, 3) := by decide +kernel
theorem dX2_spellOut_105 : decode cX2_spellOut 105 = .ok (.iload 5, 2) := by decide +kernel
theorem dX2_spellOut_107 : decode cX2_spellOut 107 = .ok (.if_icmp .ne 7, 3) := by decide +kernel
theorem dX2_spellOut_110 : decode cX2_spellOut 110 = .ok (.iconst 1, 1) := by decide +kernel
theorem dX2_spellOut_111 : decode cX2_spellOut 111 = .ok (.goto 4, 3) := by decide +kernel
theorem dX2_spellOut_114 : decode cX2_spellOut 114 = .ok (.iconst 0, 1) := by decide +kernel
theorem dX2_spellOut_115 : decode cX2_spellOut 115 = .ok (.istore 8, 2) := by decide +kernel
theorem dX2_spellOut_117 : decode cX2_spellOut 117 = .ok (.aload_n 0, 1) := by decide +kernel
theorem dX2_spellOut_118 : decode cX2_spellOut 118 = .ok (.getfield 11, 3) := by decide +kernel
theorem dX2_spellOut_121 : decode cX2_spellOut 121 = .ok (.iload_n 3, 1) := by decide +kernel
theorem dX2_spellOut_122 : decode cX2_spellOut 122 = .ok (.iconst 4, 1) := by decide +kernel
theorem dX2_spellOut_123 : decode cX2_spellOut 123 = .ok (.imul, 1) := by decide +kernel
theorem dX2_spellOut_124 : decode cX2_spellOut 124 = .ok (.iload 7, 2) := by decide +kernel
theorem dX2_spellOut_126 : decode cX2_spellOut 126 = .ok (.iadd, 1) := by decide +kernel
theorem dX2_spellOut_127 : decode cX2_spellOut 127 = .ok (.iload 8, 2) := by decide +kernel
theorem dX2_spellOut_129 : decode cX2_spellOut 129 = .ok (.ifCond .eq 8, 3) := by decide +kernel
theorem dX2_spellOut_132 : decode cX2_spellOut 132 = .ok (.iload 6, 2) := by decide +kernel
theorem dX2_spellOut_134 : decode cX2_spellOut 134 = .ok (.goto 13, 3) := by decide +kernel
theorem dX2_spellOut_137 : decode cX2_spellOut 137 = .ok (.aload_n 0, 1) := by decide +kernel
theorem dX2_spellOut_138 : decode cX2_spellOut 138 = .ok (.getfield 11, 3) := by decide +kernel
theorem dX2_spellOut_141 : decode cX2_spellOut 141 = .ok (.iload 4, 2) := by decide +kernel
theorem dX2_spellOut_143 : decode cX2_spellOut 143 = .ok (.iload 7, 2) := by decide +kernel
theorem dX2_spellOut_145 : decode cX2_spellOut 145 = .ok (.iadd, 1) := by decide +kernel
theorem dX2_spellOut_146 : decode cX2_spellOut 146 = .ok (.iaload, 1) := by decide +kernel
theorem dX2_spellOut_147 : decode cX2_spellOut 147 = .ok (.iastore, 1) := by decide +kernel
theorem dX2_spellOut_148 : decode cX2_spellOut 148 = .ok (.iinc 7 1, 3) := by decide +kernel
theorem dX2_spellOut_151 : decode cX2_spellOut 151 = .ok (.goto (-64), 3) := by decide +kernel
theorem dX2_spellOut_154 : decode cX2_spellOut 154 = .ok (.iinc 3 1, 3) := by decide +kernel
theorem dX2_spellOut_157 : decode cX2_spellOut 157 = .ok (.goto (-149), 3) := by decide +kernel
theorem dX2_spellOut_160 : decode cX2_spellOut 160 = .ok (.return_, 1) := by decide +kernel
theorem dX2_spellOutNames_0 : decode cX2_spellOutNames 0 = .ok (.iconst 0, 1) := by decide +kernel
theorem dX2_spellOutNames_1 : decode cX2_spellOutNames 1 = .ok (.istore_n 2, 1) := by decide +kernel
theorem dX2_spellOutNames_2 : decode cX2_spellOutNames 2 = .ok (.iload_n 2, 1) := by decide +kernel
theorem dX2_spellOutNames_3 : decode cX2_spellOutNames 3 = .ok (.iconst 3, 1) := by decide +kernel
theorem dX2_spellOutNames_4 : decode cX2_spellOutNames 4 = .ok (.if_icmp .ge 22, 3) := by decide +kernel
theorem dX2_spellOutNames_7 : decode cX2_spellOutNames 7 = .ok (.aload_n 0, 1) := by decide +kernel
theorem dX2_spellOutNames_8 : decode cX2_spellOutNames 8 = .ok (.getfield 11, 3) := by decide +kernel
theorem dX2_spellOutNames_11 : decode cX2_spellOutNames 11 = .ok (.iload_n 2, 1) := by decide +kernel
theorem dX2_spellOutNames_12 : decode cX2_spellOutNames 12 = .ok (.iconst 4, 1) := by decide +kernel
theorem dX2_spellOutNames_13 : decode cX2_spellOutNames 13 = .ok (.imul, 1) := by decide +kernel
theorem dX2_spellOutNames_14 : decode cX2_spellOutNames 14 = .ok (.iload_n 1, 1) := by decide +kernel
theorem dX2_spellOutNames_15 : decode cX2_spellOutNames 15 = .ok (.iload_n 2, 1) := by decide +kernel
theorem dX2_spellOutNames_16 : decode cX2_spellOutNames 16 = .ok (.invokestatic 54, 3) := by decide +kernel
theorem dX2_spellOutNames_19 : decode cX2_spellOutNames 19 = .ok (.iastore, 1) := by decide +kernel
theorem dX2_spellOutNames_20 : decode cX2_spellOutNames 20 = .ok (.iinc 2 1, 3) := by decide +kernel
theorem dX2_spellOutNames_23 : decode cX2_spellOutNames 23 = .ok (.goto (-21), 3) := by decide +kernel
theorem dX2_spellOutNames_26 : decode cX2_spellOutNames 26 = .ok (.iconst 0, 1) := by decide +kernel
theorem dX2_spellOutNames_27 : decode cX2_spellOutNames 27 = .ok (.istore_n 2, 1) := by decide +kernel
theorem dX2_spellOutNames_28 : decode cX2_spellOutNames 28 = .ok (.iload_n 2, 1) := by decide +kernel
theorem dX2_spellOutNames_29 : decode cX2_spellOutNames 29 = .ok (.iconst 2, 1) := by decide +kernel
theorem dX2_spellOutNames_30 : decode cX2_spellOutNames 30 = .ok (.if_icmp .ge 20, 3) := by decide +kernel
theorem dX2_spellOutNames_33 : decode cX2_spellOutNames 33 = .ok (.aload_n 0, 1) := by decide +kernel
theorem dX2_spellOutNames_34 : decode cX2_spellOutNames 34 = .ok (.getfield 11, 3) := by decide +kernel
theorem dX2_spellOutNames_37 : decode cX2_spellOutNames 37 = .ok (.iconst 3, 1) := by decide +kernel
theorem dX2_spellOutNames_38 : decode cX2_spellOutNames 38 = .ok (.iload_n 2, 1) := by decide +kernel
theorem dX2_spellOutNames_39 : decode cX2_spellOutNames 39 = .ok (.iadd, 1) := by decide +kernel
theorem dX2_spellOutNames_40 : decode cX2_spellOutNames 40 = .ok (.iconst 4, 1) := by decide +kernel
theorem dX2_spellOutNames_41 : decode cX2_spellOutNames 41 = .ok (.imul, 1) := by decide +kernel
theorem dX2_spellOutNames_42 : decode cX2_spellOutNames 42 = .ok (.iload_n 2, 1) := by decide +kernel
theorem dX2_spellOutNames_43 : decode cX2_spellOutNames 43 = .ok (.iastore, 1) := by decide +kernel
theorem dX2_spellOutNames_44 : decode cX2_spellOutNames 44 = .ok (.iinc 2 1, 3) := by decide +kernel
theorem dX2_spellOutNames_47 : decode cX2_spellOutNames 47 = .ok (.goto (-19), 3) := by decide +kernel
theorem dX2_spellOutNames_50 : decode cX2_spellOutNames 50 = .ok (.iconst 0, 1) := by decide +kernel
theorem dX2_spellOutNames_51 : decode cX2_spellOutNames 51 = .ok (.istore_n 2, 1) := by decide +kernel
theorem dX2_spellOutNames_52 : decode cX2_spellOutNames 52 = .ok (.iload_n 2, 1) := by decide +kernel
theorem dX2_spellOutNames_53 : decode cX2_spellOutNames 53 = .ok (.iconst 2, 1) := by decide +kernel
theorem dX2_spellOutNames_54 : decode cX2_spellOutNames 54 = .ok (.if_icmp .ge 65, 3) := by decide +kernel
theorem dX2_spellOutNames_57 : decode cX2_spellOutNames 57 = .ok (.iconst 2, 1) := by decide +kernel
theorem dX2_spellOutNames_58 : decode cX2_spellOutNames 58 = .ok (.iload_n 2, 1) := by decide +kernel
theorem dX2_spellOutNames_59 : decode cX2_spellOutNames 59 = .ok (.iconst 4, 1) := by decide +kernel
theorem dX2_spellOutNames_60 : decode cX2_spellOutNames 60 = .ok (.imul, 1) := by decide +kernel
theorem dX2_spellOutNames_61 : decode cX2_spellOutNames 61 = .ok (.iadd, 1) := by decide +kernel
theorem dX2_spellOutNames_62 : decode cX2_spellOutNames 62 = .ok (.istore_n 3, 1) := by decide +kernel
theorem dX2_spellOutNames_63 : decode cX2_spellOutNames 63 = .ok (.iconst 0, 1) := by decide +kernel
theorem dX2_spellOutNames_64 : decode cX2_spellOutNames 64 = .ok (.istore 4, 2) := by decide +kernel
theorem dX2_spellOutNames_66 : decode cX2_spellOutNames 66 = .ok (.iload 4, 2) := by decide +kernel
theorem dX2_spellOutNames_68 : decode cX2_spellOutNames 68 = .ok (.iconst 4, 1) := by decide +kernel
theorem dX2_spellOutNames_69 : decode cX2_spellOutNames 69 = .ok (.if_icmp .ge 44, 3) := by decide +kernel
theorem dX2_spellOutNames_72 : decode cX2_spellOutNames 72 = .ok (.iload 4, 2) := by decide +kernel
theorem dX2_spellOutNames_74 : decode cX2_spellOutNames 74 = .ok (.iconst 3, 1) := by decide +kernel
theorem dX2_spellOutNames_75 : decode cX2_spellOutNames 75 = .ok (.if_icmp .ne 7, 3) := by decide +kernel
theorem dX2_spellOutNames_78 : decode cX2_spellOutNames 78 = .ok (.iconst 3, 1) := by decide +kernel
theorem dX2_spellOutNames_79 : decode cX2_spellOutNames 79 = .ok (.goto 9, 3) := by decide +kernel
theorem dX2_spellOutNames_82 : decode cX2_spellOutNames 82 = .ok (.iload_n 1, 1) := by decide +kernel
theorem dX2_spellOutNames_83 : decode cX2_spellOutNames 83 = .ok (.iload 4, 2) := by decide +kernel
theorem dX2_spellOutNames_85 : decode cX2_spellOutNames 85 = .ok (.invokestatic 54, 3) := by decide +kernel
theorem dX2_spellOutNames_88 : decode cX2_spellOutNames 88 = .ok (.istore 5, 2) := by decide +kernel
theorem dX2_spellOutNames_90 : decode cX2_spellOutNames 90 = .ok (.aload_n 0, 1) := by decide +kernel
theorem dX2_spellOutNames_91 : decode cX2_spellOutNames 91 = .ok (.getfield 11, 3) := by decide +kernel
theorem dX2_spellOutNames_94 : decode cX2_spellOutNames 94 = .ok (.iconst 5, 1) := by decide +kernel
theorem dX2_spellOutNames_95 : decode cX2_spellOutNames 95 = .ok (.iload_n 2, 1) := by decide +kernel
theorem dX2_spellOutNames_96 : decode cX2_spellOutNames 96 = .ok (.iadd, 1) := by decide +kernel
theorem dX2_spellOutNames_97 : decode cX2_spellOutNames 97 = .ok (.iconst 4, 1) := by decide +kernel
theorem dX2_spellOutNames_98 : decode cX2_spellOutNames 98 = .ok (.imul, 1) := by decide +kernel
theorem dX2_spellOutNames_99 : decode cX2_spellOutNames 99 = .ok (.iload 4, 2) := by decide +kernel
theorem dX2_spellOutNames_101 : decode cX2_spellOutNames 101 = .ok (.iadd, 1) := by decide +kernel
theorem dX2_spellOutNames_102 : decode cX2_spellOutNames 102 = .ok (.iload_n 3, 1) := by decide +kernel
theorem dX2_spellOutNames_103 : decode cX2_spellOutNames 103 = .ok (.iload 5, 2) := by decide +kernel
theorem dX2_spellOutNames_105 : decode cX2_spellOutNames 105 = .ok (.iadd, 1) := by decide +kernel
theorem dX2_spellOutNames_106 : decode cX2_spellOutNames 106 = .ok (.iastore, 1) := by decide +kernel
theorem dX2_spellOutNames_107 : decode cX2_spellOutNames 107 = .ok (.iinc 4 1, 3) := by decide +kernel
theorem dX2_spellOutNames_110 : decode cX2_spellOutNames 110 = .ok (.goto (-44), 3) := by decide +kernel
theorem dX2_spellOutNames_113 : decode cX2_spellOutNames 113 = .ok (.iinc 2 1, 3) := by decide +kernel
theorem dX2_spellOutNames_116 : decode cX2_spellOutNames 116 = .ok (.goto (-64), 3) := by decide +kernel
theorem dX2_spellOutNames_119 : decode cX2_spellOutNames 119 = .ok (.return_, 1) := by decide +kernel
theorem dX2_completes_0 : decode cX2_completes 0 = .ok (.iconst (-1), 1) := by decide +kernel
theorem dX2_completes_1 : decode cX2_completes 1 = .ok (.istore 5, 2) := by decide +kernel
theorem dX2_completes_3 : decode cX2_completes 3 = .ok (.aload_n 2, 1) := by decide +kernel
theorem dX2_completes_4 : decode cX2_completes 4 = .ok (.getfield 64, 3) := by decide +kernel
theorem dX2_completes_7 : decode cX2_completes 7 = .ok (.iconst 1, 1) := by decide +kernel
theorem dX2_completes_8 : decode cX2_completes 8 = .ok (.isub, 1) := by decide +kernel
theorem dX2_completes_9 : decode cX2_completes 9 = .ok (.istore 6, 2) := by decide +kernel
theorem dX2_completes_11 : decode cX2_completes 11 = .ok (.iload 6, 2) := by decide +kernel
theorem dX2_completes_13 : decode cX2_completes 13 = .ok (.ifCond .lt 36, 3) := by decide +kernel
theorem dX2_completes_16 : decode cX2_completes 16 = .ok (.aload_n 0, 1) := by decide +kernel
theorem dX2_completes_17 : decode cX2_completes 17 = .ok (.aload_n 1, 1) := by decide +kernel
theorem dX2_completes_18 : decode cX2_completes 18 = .ok (.aload_n 2, 1) := by decide +kernel
theorem dX2_completes_19 : decode cX2_completes 19 = .ok (.iload 6, 2) := by decide +kernel
theorem dX2_completes_21 : decode cX2_completes 21 = .ok (.invokevirtual 67, 3) := by decide +kernel
theorem dX2_completes_24 : decode cX2_completes 24 = .ok (.istore 7, 2) := by decide +kernel
theorem dX2_completes_26 : decode cX2_completes 26 = .ok (.iload 7, 2) := by decide +kernel
theorem dX2_completes_28 : decode cX2_completes 28 = .ok (.ifCond .ne 5, 3) := by decide +kernel
theorem dX2_completes_31 : decode cX2_completes 31 = .ok (.iconst 0, 1) := by decide +kernel
theorem dX2_completes_32 : decode cX2_completes 32 = .ok (.ireturn, 1) := by decide +kernel
theorem dX2_completes_33 : decode cX2_completes 33 = .ok (.iload 7, 2) := by decide +kernel
theorem dX2_completes_35 : decode cX2_completes 35 = .ok (.iconst 2, 1) := by decide +kernel
theorem dX2_completes_36 : decode cX2_completes 36 = .ok (.if_icmp .ne 7, 3) := by decide +kernel
theorem dX2_completes_39 : decode cX2_completes 39 = .ok (.iload 6, 2) := by decide +kernel
theorem dX2_completes_41 : decode cX2_completes 41 = .ok (.istore 5, 2) := by decide +kernel
theorem dX2_completes_43 : decode cX2_completes 43 = .ok (.iinc 6 (-1), 3) := by decide +kernel
theorem dX2_completes_46 : decode cX2_completes 46 = .ok (.goto (-35), 3) := by decide +kernel
theorem dX2_completes_49 : decode cX2_completes 49 = .ok (.iload 5, 2) := by decide +kernel
theorem dX2_completes_51 : decode cX2_completes 51 = .ok (.iconst (-1), 1) := by decide +kernel
theorem dX2_completes_52 : decode cX2_completes 52 = .ok (.if_icmp .ne 5, 3) := by decide +kernel
theorem dX2_completes_55 : decode cX2_completes 55 = .ok (.iconst 1, 1) := by decide +kernel
theorem dX2_completes_56 : decode cX2_completes 56 = .ok (.ireturn, 1) := by decide +kernel
theorem dX2_completes_57 : decode cX2_completes 57 = .ok (.aload_n 0, 1) := by decide +kernel
theorem dX2_completes_58 : decode cX2_completes 58 = .ok (.aload_n 1, 1) := by decide +kernel
theorem dX2_completes_59 : decode cX2_completes 59 = .ok (.aload_n 2, 1) := by decide +kernel
theorem dX2_completes_60 : decode cX2_completes 60 = .ok (.iload 5, 2) := by decide +kernel
theorem dX2_completes_62 : decode cX2_completes 62 = .ok (.invokevirtual 71, 3) := by decide +kernel
theorem dX2_completes_65 : decode cX2_completes 65 = .ok (.istore 6, 2) := by decide +kernel
theorem dX2_completes_67 : decode cX2_completes 67 = .ok (.iload 6, 2) := by decide +kernel
theorem dX2_completes_69 : decode cX2_completes 69 = .ok (.iconst (-1), 1) := by decide +kernel
theorem dX2_completes_70 : decode cX2_completes 70 = .ok (.if_icmp .eq 10, 3) := by decide +kernel
theorem dX2_completes_73 : decode cX2_completes 73 = .ok (.iload 4, 2) := by decide +kernel
theorem dX2_completes_75 : decode cX2_completes 75 = .ok (.bipush 10, 2) := by decide +kernel
theorem dX2_completes_77 : decode cX2_completes 77 = .ok (.if_icmp .le 5, 3) := by decide +kernel
theorem dX2_completes_80 : decode cX2_completes 80 = .ok (.iconst 0, 1) := by decide +kernel
theorem dX2_completes_81 : decode cX2_completes 81 = .ok (.ireturn, 1) := by decide +kernel
theorem dX2_completes_82 : decode cX2_completes 82 = .ok (.iload 6, 2) := by decide +kernel
theorem dX2_completes_84 : decode cX2_completes 84 = .ok (.bipush 9, 2) := by decide +kernel
theorem dX2_completes_86 : decode cX2_completes 86 = .ok (.if_icmp .ne 7, 3) := by decide +kernel
theorem dX2_completes_89 : decode cX2_completes 89 = .ok (.iconst 0, 1) := by decide +kernel
theorem dX2_completes_90 : decode cX2_completes 90 = .ok (.goto 4, 3) := by decide +kernel
theorem dX2_completes_93 : decode cX2_completes 93 = .ok (.iconst 2, 1) := by decide +kernel
theorem dX2_completes_94 : decode cX2_completes 94 = .ok (.istore 7, 2) := by decide +kernel
theorem dX2_completes_96 : decode cX2_completes 96 = .ok (.iload 6, 2) := by decide +kernel
theorem dX2_completes_98 : decode cX2_completes 98 = .ok (.bipush 9, 2) := by decide +kernel
theorem dX2_completes_100 : decode cX2_completes 100 = .ok (.if_icmp .ne 7, 3) := by decide +kernel
theorem dX2_completes_103 : decode cX2_completes 103 = .ok (.iconst 1, 1) := by decide +kernel
theorem dX2_completes_104 : decode cX2_completes 104 = .ok (.goto 4, 3) := by decide +kernel
theorem dX2_completes_107 : decode cX2_completes 107 = .ok (.iload_n 3, 1) := by decide +kernel
theorem dX2_completes_108 : decode cX2_completes 108 = .ok (.istore 8, 2) := by decide +kernel
theorem dX2_completes_110 : decode cX2_completes 110 = .ok (.iload 7, 2) := by decide +kernel
theorem dX2_completes_112 : decode cX2_completes 112 = .ok (.istore 9, 2) := by decide +kernel
theorem dX2_completes_114 : decode cX2_completes 114 = .ok (.iload 9, 2) := by decide +kernel
theorem dX2_completes_116 : decode cX2_completes 116 = .ok (.iload 8, 2) := by decide +kernel
theorem dX2_completes_118 : decode cX2_completes 118 = .ok (.if_icmp .gt 46, 3) := by decide +kernel
theorem dX2_completes_121 : decode cX2_completes 121 = .ok (.aload_n 0, 1) := by decide +kernel
theorem dX2_completes_122 : decode cX2_completes 122 = .ok (.getfield 15, 3) := by decide +kernel
theorem dX2_completes_125 : decode cX2_completes 125 = .ok (.iload 6, 2) := by decide +kernel
theorem dX2_completes_127 : decode cX2_completes 127 = .ok (.iload 9, 2) := by decide +kernel
theorem dX2_completes_129 : decode cX2_completes 129 = .ok (.iastore, 1) := by decide +kernel
theorem dX2_completes_130 : decode cX2_completes 130 = .ok (.aload_n 0, 1) := by decide +kernel
theorem dX2_completes_131 : decode cX2_completes 131 = .ok (.aload_n 1, 1) := by decide +kernel
theorem dX2_completes_132 : decode cX2_completes 132 = .ok (.aload_n 2, 1) := by decide +kernel
theorem dX2_completes_133 : decode cX2_completes 133 = .ok (.iload 9, 2) := by decide +kernel
theorem dX2_completes_135 : decode cX2_completes 135 = .ok (.iload_n 3, 1) := by decide +kernel
theorem dX2_completes_136 : decode cX2_completes 136 = .ok (.if_icmp .ne 9, 3) := by decide +kernel
theorem dX2_completes_139 : decode cX2_completes 139 = .ok (.iload_n 3, 1) := by decide +kernel
theorem dX2_completes_140 : decode cX2_completes 140 = .ok (.iconst 1, 1) := by decide +kernel
theorem dX2_completes_141 : decode cX2_completes 141 = .ok (.iadd, 1) := by decide +kernel
theorem dX2_completes_142 : decode cX2_completes 142 = .ok (.goto 4, 3) := by decide +kernel
theorem dX2_completes_145 : decode cX2_completes 145 = .ok (.iload_n 3, 1) := by decide +kernel
theorem dX2_completes_146 : decode cX2_completes 146 = .ok (.iload 4, 2) := by decide +kernel
theorem dX2_completes_148 : decode cX2_completes 148 = .ok (.iconst 1, 1) := by decide +kernel
theorem dX2_completes_149 : decode cX2_completes 149 = .ok (.iadd, 1) := by decide +kernel
theorem dX2_completes_150 : decode cX2_completes 150 = .ok (.invokevirtual 31, 3) := by decide +kernel
theorem dX2_completes_153 : decode cX2_completes 153 = .ok (.ifCond .eq 5, 3) := by decide +kernel
theorem dX2_completes_156 : decode cX2_completes 156 = .ok (.iconst 1, 1) := by decide +kernel
theorem dX2_completes_157 : decode cX2_completes 157 = .ok (.ireturn, 1) := by decide +kernel
theorem dX2_completes_158 : decode cX2_completes 158 = .ok (.iinc 9 1, 3) := by decide +kernel
theorem dX2_completes_161 : decode cX2_completes 161 = .ok (.goto (-47), 3) := by decide +kernel
theorem dX2_completes_164 : decode cX2_completes 164 = .ok (.aload_n 0, 1) := by decide +kernel
theorem dX2_completes_165 : decode cX2_completes 165 = .ok (.getfield 15, 3) := by decide +kernel
theorem dX2_completes_168 : decode cX2_completes 168 = .ok (.iload 6, 2) := by decide +kernel
theorem dX2_completes_170 : decode cX2_completes 170 = .ok (.iconst (-1), 1) := by decide +kernel
theorem dX2_completes_171 : decode cX2_completes 171 = .ok (.iastore, 1) := by decide +kernel
theorem dX2_completes_172 : decode cX2_completes 172 = .ok (.iconst 0, 1) := by decide +kernel
theorem dX2_completes_173 : decode cX2_completes 173 = .ok (.ireturn, 1) := by decide +kernel
theorem dX2_holding_0 : decode cX2_holding 0 = .ok (.iconst 0, 1) := by decide +kernel
theorem dX2_holding_1 : decode cX2_holding 1 = .ok (.istore 4, 2) := by decide +kernel
theorem dX2_holding_3 : decode cX2_holding 3 = .ok (.iconst 0, 1) := by decide +kernel
theorem dX2_holding_4 : decode cX2_holding 4 = .ok (.istore 5, 2) := by decide +kernel
theorem dX2_holding_6 : decode cX2_holding 6 = .ok (.iload 5, 2) := by decide +kernel
theorem dX2_holding_8 : decode cX2_holding 8 = .ok (.aload_n 2, 1) := by decide +kernel
theorem dX2_holding_9 : decode cX2_holding 9 = .ok (.iload_n 3, 1) := by decide +kernel
theorem dX2_holding_10 : decode cX2_holding 10 = .ok (.invokevirtual 74, 3) := by decide +kernel
theorem dX2_holding_13 : decode cX2_holding 13 = .ok (.if_icmp .ge 40, 3) := by decide +kernel
theorem dX2_holding_16 : decode cX2_holding 16 = .ok (.aload_n 0, 1) := by decide +kernel
theorem dX2_holding_17 : decode cX2_holding 17 = .ok (.aload_n 1, 1) := by decide +kernel
theorem dX2_holding_18 : decode cX2_holding 18 = .ok (.aload_n 2, 1) := by decide +kernel
theorem dX2_holding_19 : decode cX2_holding 19 = .ok (.iload_n 3, 1) := by decide +kernel
theorem dX2_holding_20 : decode cX2_holding 20 = .ok (.iload 5, 2) := by decide +kernel
theorem dX2_holding_22 : decode cX2_holding 22 = .ok (.invokevirtual 78, 3) := by decide +kernel
theorem dX2_holding_25 : decode cX2_holding 25 = .ok (.invokevirtual 81, 3) := by decide +kernel
theorem dX2_holding_28 : decode cX2_holding 28 = .ok (.istore 6, 2) := by decide +kernel
theorem dX2_holding_30 : decode cX2_holding 30 = .ok (.iload 6, 2) := by decide +kernel
theorem dX2_holding_32 : decode cX2_holding 32 = .ok (.iconst 1, 1) := by decide +kernel
theorem dX2_holding_33 : decode cX2_holding 33 = .ok (.if_icmp .ne 5, 3) := by decide +kernel
theorem dX2_holding_36 : decode cX2_holding 36 = .ok (.iconst 1, 1) := by decide +kernel
theorem dX2_holding_37 : decode cX2_holding 37 = .ok (.ireturn, 1) := by decide +kernel
theorem dX2_holding_38 : decode cX2_holding 38 = .ok (.iload 6, 2) := by decide +kernel
theorem dX2_holding_40 : decode cX2_holding 40 = .ok (.iconst 2, 1) := by decide +kernel
theorem dX2_holding_41 : decode cX2_holding 41 = .ok (.if_icmp .ne 6, 3) := by decide +kernel
theorem dX2_holding_44 : decode cX2_holding 44 = .ok (.iconst 2, 1) := by decide +kernel
theorem dX2_holding_45 : decode cX2_holding 45 = .ok (.istore 4, 2) := by decide +kernel
theorem dX2_holding_47 : decode cX2_holding 47 = .ok (.iinc 5 1, 3) := by decide +kernel
theorem dX2_holding_50 : decode cX2_holding 50 = .ok (.goto (-44), 3) := by decide +kernel
theorem dX2_holding_53 : decode cX2_holding 53 = .ok (.iload 4, 2) := by decide +kernel
theorem dX2_holding_55 : decode cX2_holding 55 = .ok (.ireturn, 1) := by decide +kernel
theorem dX2_rightness_0 : decode cX2_rightness 0 = .ok (.iload_n 2, 1) := by decide +kernel
theorem dX2_rightness_1 : decode cX2_rightness 1 = .ok (.invokestatic 85, 3) := by decide +kernel
theorem dX2_rightness_4 : decode cX2_rightness 4 = .ok (.istore_n 3, 1) := by decide +kernel
theorem dX2_rightness_5 : decode cX2_rightness 5 = .ok (.iload_n 2, 1) := by decide +kernel
theorem dX2_rightness_6 : decode cX2_rightness 6 = .ok (.invokestatic 90, 3) := by decide +kernel
theorem dX2_rightness_9 : decode cX2_rightness 9 = .ok (.istore 4, 2) := by decide +kernel
theorem dX2_rightness_11 : decode cX2_rightness 11 = .ok (.iconst 1, 1) := by decide +kernel
theorem dX2_rightness_12 : decode cX2_rightness 12 = .ok (.istore 5, 2) := by decide +kernel
theorem dX2_rightness_14 : decode cX2_rightness 14 = .ok (.iconst 0, 1) := by decide +kernel
theorem dX2_rightness_15 : decode cX2_rightness 15 = .ok (.istore 6, 2) := by decide +kernel
theorem dX2_rightness_17 : decode cX2_rightness 17 = .ok (.iload 6, 2) := by decide +kernel
theorem dX2_rightness_19 : decode cX2_rightness 19 = .ok (.aload_n 1, 1) := by decide +kernel
theorem dX2_rightness_20 : decode cX2_rightness 20 = .ok (.getfield 58, 3) := by decide +kernel
theorem dX2_rightness_23 : decode cX2_rightness 23 = .ok (.iload_n 3, 1) := by decide +kernel
theorem dX2_rightness_24 : decode cX2_rightness 24 = .ok (.iaload, 1) := by decide +kernel
theorem dX2_rightness_25 : decode cX2_rightness 25 = .ok (.invokestatic 93, 3) := by decide +kernel
theorem dX2_rightness_28 : decode cX2_rightness 28 = .ok (.if_icmp .ge 59, 3) := by decide +kernel
theorem dX2_rightness_31 : decode cX2_rightness 31 = .ok (.iload 5, 2) := by decide +kernel
theorem dX2_rightness_33 : decode cX2_rightness 33 = .ok (.ifCond .eq 54, 3) := by decide +kernel
theorem dX2_rightness_36 : decode cX2_rightness 36 = .ok (.aload_n 0, 1) := by decide +kernel
theorem dX2_rightness_37 : decode cX2_rightness 37 = .ok (.aload_n 1, 1) := by decide +kernel
theorem dX2_rightness_38 : decode cX2_rightness 38 = .ok (.getfield 58, 3) := by decide +kernel
theorem dX2_rightness_41 : decode cX2_rightness 41 = .ok (.iload_n 3, 1) := by decide +kernel
theorem dX2_rightness_42 : decode cX2_rightness 42 = .ok (.iaload, 1) := by decide +kernel
theorem dX2_rightness_43 : decode cX2_rightness 43 = .ok (.aload_n 0, 1) := by decide +kernel
theorem dX2_rightness_44 : decode cX2_rightness 44 = .ok (.getfield 11, 3) := by decide +kernel
theorem dX2_rightness_47 : decode cX2_rightness 47 = .ok (.iload_n 3, 1) := by decide +kernel
theorem dX2_rightness_48 : decode cX2_rightness 48 = .ok (.iconst 4, 1) := by decide +kernel
theorem dX2_rightness_49 : decode cX2_rightness 49 = .ok (.imul, 1) := by decide +kernel
theorem dX2_rightness_50 : decode cX2_rightness 50 = .ok (.iload 6, 2) := by decide +kernel
theorem dX2_rightness_52 : decode cX2_rightness 52 = .ok (.iadd, 1) := by decide +kernel
theorem dX2_rightness_53 : decode cX2_rightness 53 = .ok (.iaload, 1) := by decide +kernel
theorem dX2_rightness_54 : decode cX2_rightness 54 = .ok (.aload_n 0, 1) := by decide +kernel
theorem dX2_rightness_55 : decode cX2_rightness 55 = .ok (.getfield 11, 3) := by decide +kernel
theorem dX2_rightness_58 : decode cX2_rightness 58 = .ok (.iload 4, 2) := by decide +kernel
theorem dX2_rightness_60 : decode cX2_rightness 60 = .ok (.iconst 4, 1) := by decide +kernel
theorem dX2_rightness_61 : decode cX2_rightness 61 = .ok (.imul, 1) := by decide +kernel
theorem dX2_rightness_62 : decode cX2_rightness 62 = .ok (.iload 6, 2) := by decide +kernel
theorem dX2_rightness_64 : decode cX2_rightness 64 = .ok (.iadd, 1) := by decide +kernel
theorem dX2_rightness_65 : decode cX2_rightness 65 = .ok (.iaload, 1) := by decide +kernel
theorem dX2_rightness_66 : decode cX2_rightness 66 = .ok (.invokevirtual 96, 3) := by decide +kernel
theorem dX2_rightness_69 : decode cX2_rightness 69 = .ok (.istore 7, 2) := by decide +kernel
theorem dX2_rightness_71 : decode cX2_rightness 71 = .ok (.iload 7, 2) := by decide +kernel
theorem dX2_rightness_73 : decode cX2_rightness 73 = .ok (.iconst 1, 1) := by decide +kernel
theorem dX2_rightness_74 : decode cX2_rightness 74 = .ok (.if_icmp .eq 7, 3) := by decide +kernel
theorem dX2_rightness_77 : decode cX2_rightness 77 = .ok (.iload 7, 2) := by decide +kernel
theorem dX2_rightness_79 : decode cX2_rightness 79 = .ok (.istore 5, 2) := by decide +kernel
theorem dX2_rightness_81 : decode cX2_rightness 81 = .ok (.iinc 6 1, 3) := by decide +kernel
theorem dX2_rightness_84 : decode cX2_rightness 84 = .ok (.goto (-67), 3) := by decide +kernel
theorem dX2_rightness_87 : decode cX2_rightness 87 = .ok (.iload 5, 2) := by decide +kernel
theorem dX2_rightness_89 : decode cX2_rightness 89 = .ok (.iconst 2, 1) := by decide +kernel
theorem dX2_rightness_90 : decode cX2_rightness 90 = .ok (.if_icmp .eq 10, 3) := by decide +kernel
theorem dX2_rightness_93 : decode cX2_rightness 93 = .ok (.iload_n 2, 1) := by decide +kernel
theorem dX2_rightness_94 : decode cX2_rightness 94 = .ok (.invokestatic 100, 3) := by decide +kernel
theorem dX2_rightness_97 : decode cX2_rightness 97 = .ok (.ifCond .eq 6, 3) := by decide +kernel
theorem dX2_rightness_100 : decode cX2_rightness 100 = .ok (.iload 5, 2) := by decide +kernel
theorem dX2_rightness_102 : decode cX2_rightness 102 = .ok (.ireturn, 1) := by decide +kernel
theorem dX2_rightness_103 : decode cX2_rightness 103 = .ok (.iload 5, 2) := by decide +kernel
theorem dX2_rightness_105 : decode cX2_rightness 105 = .ok (.iconst 1, 1) := by decide +kernel
theorem dX2_rightness_106 : decode cX2_rightness 106 = .ok (.if_icmp .ne 7, 3) := by decide +kernel
theorem dX2_rightness_109 : decode cX2_rightness 109 = .ok (.iconst 0, 1) := by decide +kernel
theorem dX2_rightness_110 : decode cX2_rightness 110 = .ok (.goto 4, 3) := by decide +kernel
theorem dX2_rightness_113 : decode cX2_rightness 113 = .ok (.iconst 1, 1) := by decide +kernel
theorem dX2_rightness_114 : decode cX2_rightness 114 = .ok (.ireturn, 1) := by decide +kernel
theorem dX2_width_0 : decode cX2_width 0 = .ok (.iload_n 0, 1) := by decide +kernel
theorem dX2_width_1 : decode cX2_width 1 = .ok (.iconst 2, 1) := by decide +kernel
theorem dX2_width_2 : decode cX2_width 2 = .ok (.if_icmp .ne 7, 3) := by decide +kernel
theorem dX2_width_5 : decode cX2_width 5 = .ok (.iconst 4, 1) := by decide +kernel
theorem dX2_width_6 : decode cX2_width 6 = .ok (.goto 4, 3) := by decide +kernel
theorem dX2_width_9 : decode cX2_width 9 = .ok (.iconst 1, 1) := by decide +kernel
theorem dX2_width_10 : decode cX2_width 10 = .ok (.ireturn, 1) := by decide +kernel
theorem dX2_partLikeness_0 : decode cX2_partLikeness 0 = .ok (.iload_n 2, 1) := by decide +kernel
theorem dX2_partLikeness_1 : decode cX2_partLikeness 1 = .ok (.iload_n 3, 1) := by decide +kernel
theorem dX2_partLikeness_2 : decode cX2_partLikeness 2 = .ok (.if_icmp .ne 5, 3) := by decide +kernel
theorem dX2_partLikeness_5 : decode cX2_partLikeness 5 = .ok (.iconst 1, 1) := by decide +kernel
theorem dX2_partLikeness_6 : decode cX2_partLikeness 6 = .ok (.ireturn, 1) := by decide +kernel
theorem dX2_partLikeness_7 : decode cX2_partLikeness 7 = .ok (.iload_n 1, 1) := by decide +kernel
theorem dX2_partLikeness_8 : decode cX2_partLikeness 8 = .ok (.ifCond .ne 5, 3) := by decide +kernel
theorem dX2_partLikeness_11 : decode cX2_partLikeness 11 = .ok (.iconst 0, 1) := by decide +kernel
theorem dX2_partLikeness_12 : decode cX2_partLikeness 12 = .ok (.ireturn, 1) := by decide +kernel
theorem dX2_partLikeness_13 : decode cX2_partLikeness 13 = .ok (.aload_n 0, 1) := by decide +kernel
theorem dX2_partLikeness_14 : decode cX2_partLikeness 14 = .ok (.getfield 15, 3) := by decide +kernel
theorem dX2_partLikeness_17 : decode cX2_partLikeness 17 = .ok (.iload_n 2, 1) := by decide +kernel
theorem dX2_partLikeness_18 : decode cX2_partLikeness 18 = .ok (.iaload, 1) := by decide +kernel
theorem dX2_partLikeness_19 : decode cX2_partLikeness 19 = .ok (.iconst (-1), 1) := by decide +kernel
theorem dX2_partLikeness_20 : decode cX2_partLikeness 20 = .ok (.if_icmp .eq 13, 3) := by decide +kernel
theorem dX2_partLikeness_23 : decode cX2_partLikeness 23 = .ok (.aload_n 0, 1) := by decide +kernel
theorem dX2_partLikeness_24 : decode cX2_partLikeness 24 = .ok (.getfield 15, 3) := by decide +kernel
theorem dX2_partLikeness_27 : decode cX2_partLikeness 27 = .ok (.iload_n 3, 1) := by decide +kernel
theorem dX2_partLikeness_28 : decode cX2_partLikeness 28 = .ok (.iaload, 1) := by decide +kernel
theorem dX2_partLikeness_29 : decode cX2_partLikeness 29 = .ok (.iconst (-1), 1) := by decide +kernel
theorem dX2_partLikeness_30 : decode cX2_partLikeness 30 = .ok (.if_icmp .ne 5, 3) := by decide +kernel
theorem dX2_partLikeness_33 : decode cX2_partLikeness 33 = .ok (.iconst 2, 1) := by decide +kernel
theorem dX2_partLikeness_34 : decode cX2_partLikeness 34 = .ok (.ireturn, 1) := by decide +kernel
theorem dX2_partLikeness_35 : decode cX2_partLikeness 35 = .ok (.aload_n 0, 1) := by decide +kernel
theorem dX2_partLikeness_36 : decode cX2_partLikeness 36 = .ok (.getfield 15, 3) := by decide +kernel
theorem dX2_partLikeness_39 : decode cX2_partLikeness 39 = .ok (.iload_n 2, 1) := by decide +kernel
theorem dX2_partLikeness_40 : decode cX2_partLikeness 40 = .ok (.iaload, 1) := by decide +kernel
theorem dX2_partLikeness_41 : decode cX2_partLikeness 41 = .ok (.aload_n 0, 1) := by decide +kernel
theorem dX2_partLikeness_42 : decode cX2_partLikeness 42 = .ok (.getfield 15, 3) := by decide +kernel
theorem dX2_partLikeness_45 : decode cX2_partLikeness 45 = .ok (.iload_n 3, 1) := by decide +kernel
theorem dX2_partLikeness_46 : decode cX2_partLikeness 46 = .ok (.iaload, 1) := by decide +kernel
theorem dX2_partLikeness_47 : decode cX2_partLikeness 47 = .ok (.if_icmp .ne 7, 3) := by decide +kernel
theorem dX2_partLikeness_50 : decode cX2_partLikeness 50 = .ok (.iconst 1, 1) := by decide +kernel
theorem dX2_partLikeness_51 : decode cX2_partLikeness 51 = .ok (.goto 4, 3) := by decide +kernel
theorem dX2_partLikeness_54 : decode cX2_partLikeness 54 = .ok (.iconst 0, 1) := by decide +kernel
theorem dX2_partLikeness_55 : decode cX2_partLikeness 55 = .ok (.ireturn, 1) := by decide +kernel
theorem dX2_openSpot_0 : decode cX2_openSpot 0 = .ok (.iconst 0, 1) := by decide +kernel
theorem dX2_openSpot_1 : decode cX2_openSpot 1 = .ok (.istore 4, 2) := by decide +kernel
theorem dX2_openSpot_3 : decode cX2_openSpot 3 = .ok (.iload 4, 2) := by decide +kernel
theorem dX2_openSpot_5 : decode cX2_openSpot 5 = .ok (.aload_n 2, 1) := by decide +kernel
theorem dX2_openSpot_6 : decode cX2_openSpot 6 = .ok (.iload_n 3, 1) := by decide +kernel
theorem dX2_openSpot_7 : decode cX2_openSpot 7 = .ok (.invokevirtual 74, 3) := by decide +kernel
theorem dX2_openSpot_10 : decode cX2_openSpot 10 = .ok (.if_icmp .ge 45, 3) := by decide +kernel
theorem dX2_openSpot_13 : decode cX2_openSpot 13 = .ok (.aload_n 2, 1) := by decide +kernel
theorem dX2_openSpot_14 : decode cX2_openSpot 14 = .ok (.iload_n 3, 1) := by decide +kernel
theorem dX2_openSpot_15 : decode cX2_openSpot 15 = .ok (.iload 4, 2) := by decide +kernel
theorem dX2_openSpot_17 : decode cX2_openSpot 17 = .ok (.invokevirtual 78, 3) := by decide +kernel
theorem dX2_openSpot_20 : decode cX2_openSpot 20 = .ok (.istore 5, 2) := by decide +kernel
theorem dX2_openSpot_22 : decode cX2_openSpot 22 = .ok (.aload_n 0, 1) := by decide +kernel
theorem dX2_openSpot_23 : decode cX2_openSpot 23 = .ok (.aload_n 1, 1) := by decide +kernel
theorem dX2_openSpot_24 : decode cX2_openSpot 24 = .ok (.iload 5, 2) := by decide +kernel
theorem dX2_openSpot_26 : decode cX2_openSpot 26 = .ok (.invokevirtual 81, 3) := by decide +kernel
theorem dX2_openSpot_29 : decode cX2_openSpot 29 = .ok (.iconst 2, 1) := by decide +kernel
theorem dX2_openSpot_30 : decode cX2_openSpot 30 = .ok (.if_icmp .ne 19, 3) := by decide +kernel
theorem dX2_openSpot_33 : decode cX2_openSpot 33 = .ok (.aload_n 0, 1) := by decide +kernel
theorem dX2_openSpot_34 : decode cX2_openSpot 34 = .ok (.aload_n 1, 1) := by decide +kernel
theorem dX2_openSpot_35 : decode cX2_openSpot 35 = .ok (.iload 5, 2) := by decide +kernel
theorem dX2_openSpot_37 : decode cX2_openSpot 37 = .ok (.invokestatic 85, 3) := by decide +kernel
theorem dX2_openSpot_40 : decode cX2_openSpot 40 = .ok (.iload 5, 2) := by decide +kernel
theorem dX2_openSpot_42 : decode cX2_openSpot 42 = .ok (.invokestatic 90, 3) := by decide +kernel
theorem dX2_openSpot_45 : decode cX2_openSpot 45 = .ok (.invokevirtual 104, 3) := by decide +kernel
theorem dX2_openSpot_48 : decode cX2_openSpot 48 = .ok (.ireturn, 1) := by decide +kernel
theorem dX2_openSpot_49 : decode cX2_openSpot 49 = .ok (.iinc 4 1, 3) := by decide +kernel
theorem dX2_openSpot_52 : decode cX2_openSpot 52 = .ok (.goto (-49), 3) := by decide +kernel
theorem dX2_openSpot_55 : decode cX2_openSpot 55 = .ok (.iconst (-1), 1) := by decide +kernel
theorem dX2_openSpot_56 : decode cX2_openSpot 56 = .ok (.ireturn, 1) := by decide +kernel
theorem dX2_openSpotOf_0 : decode cX2_openSpotOf 0 = .ok (.aload_n 1, 1) := by decide +kernel
theorem dX2_openSpotOf_1 : decode cX2_openSpotOf 1 = .ok (.getfield 58, 3) := by decide +kernel
theorem dX2_openSpotOf_4 : decode cX2_openSpotOf 4 = .ok (.iload_n 2, 1) := by decide +kernel
theorem dX2_openSpotOf_5 : decode cX2_openSpotOf 5 = .ok (.iaload, 1) := by decide +kernel
theorem dX2_openSpotOf_6 : decode cX2_openSpotOf 6 = .ok (.istore 4, 2) := by decide +kernel
theorem dX2_openSpotOf_8 : decode cX2_openSpotOf 8 = .ok (.iconst 0, 1) := by decide +kernel
theorem dX2_openSpotOf_9 : decode cX2_openSpotOf 9 = .ok (.istore 5, 2) := by decide +kernel
theorem dX2_openSpotOf_11 : decode cX2_openSpotOf 11 = .ok (.iload 5, 2) := by decide +kernel
theorem dX2_openSpotOf_13 : decode cX2_openSpotOf 13 = .ok (.iload 4, 2) := by decide +kernel
theorem dX2_openSpotOf_15 : decode cX2_openSpotOf 15 = .ok (.invokestatic 93, 3) := by decide +kernel
theorem dX2_openSpotOf_18 : decode cX2_openSpotOf 18 = .ok (.if_icmp .ge 68, 3) := by decide +kernel
theorem dX2_openSpotOf_21 : decode cX2_openSpotOf 21 = .ok (.aload_n 0, 1) := by decide +kernel
theorem dX2_openSpotOf_22 : decode cX2_openSpotOf 22 = .ok (.getfield 11, 3) := by decide +kernel
theorem dX2_openSpotOf_25 : decode cX2_openSpotOf 25 = .ok (.iload_n 2, 1) := by decide +kernel
theorem dX2_openSpotOf_26 : decode cX2_openSpotOf 26 = .ok (.iconst 4, 1) := by decide +kernel
theorem dX2_openSpotOf_27 : decode cX2_openSpotOf 27 = .ok (.imul, 1) := by decide +kernel
theorem dX2_openSpotOf_28 : decode cX2_openSpotOf 28 = .ok (.iload 5, 2) := by decide +kernel
theorem dX2_openSpotOf_30 : decode cX2_openSpotOf 30 = .ok (.iadd, 1) := by decide +kernel
theorem dX2_openSpotOf_31 : decode cX2_openSpotOf 31 = .ok (.iaload, 1) := by decide +kernel
theorem dX2_openSpotOf_32 : decode cX2_openSpotOf 32 = .ok (.istore 6, 2) := by decide +kernel
theorem dX2_openSpotOf_34 : decode cX2_openSpotOf 34 = .ok (.aload_n 0, 1) := by decide +kernel
theorem dX2_openSpotOf_35 : decode cX2_openSpotOf 35 = .ok (.getfield 11, 3) := by decide +kernel
theorem dX2_openSpotOf_38 : decode cX2_openSpotOf 38 = .ok (.iload_n 3, 1) := by decide +kernel
theorem dX2_openSpotOf_39 : decode cX2_openSpotOf 39 = .ok (.iconst 4, 1) := by decide +kernel
theorem dX2_openSpotOf_40 : decode cX2_openSpotOf 40 = .ok (.imul, 1) := by decide +kernel
theorem dX2_openSpotOf_41 : decode cX2_openSpotOf 41 = .ok (.iload 5, 2) := by decide +kernel
theorem dX2_openSpotOf_43 : decode cX2_openSpotOf 43 = .ok (.iadd, 1) := by decide +kernel
theorem dX2_openSpotOf_44 : decode cX2_openSpotOf 44 = .ok (.iaload, 1) := by decide +kernel
theorem dX2_openSpotOf_45 : decode cX2_openSpotOf 45 = .ok (.istore 7, 2) := by decide +kernel
theorem dX2_openSpotOf_47 : decode cX2_openSpotOf 47 = .ok (.aload_n 0, 1) := by decide +kernel
theorem dX2_openSpotOf_48 : decode cX2_openSpotOf 48 = .ok (.iload 4, 2) := by decide +kernel
theorem dX2_openSpotOf_50 : decode cX2_openSpotOf 50 = .ok (.iload 6, 2) := by decide +kernel
theorem dX2_openSpotOf_52 : decode cX2_openSpotOf 52 = .ok (.iload 7, 2) := by decide +kernel
theorem dX2_openSpotOf_54 : decode cX2_openSpotOf 54 = .ok (.invokevirtual 96, 3) := by decide +kernel
theorem dX2_openSpotOf_57 : decode cX2_openSpotOf 57 = .ok (.iconst 2, 1) := by decide +kernel
theorem dX2_openSpotOf_58 : decode cX2_openSpotOf 58 = .ok (.if_icmp .ne 22, 3) := by decide +kernel
theorem dX2_openSpotOf_61 : decode cX2_openSpotOf 61 = .ok (.aload_n 0, 1) := by decide +kernel
theorem dX2_openSpotOf_62 : decode cX2_openSpotOf 62 = .ok (.getfield 15, 3) := by decide +kernel
theorem dX2_openSpotOf_65 : decode cX2_openSpotOf 65 = .ok (.iload 6, 2) := by decide +kernel
theorem dX2_openSpotOf_67 : decode cX2_openSpotOf 67 = .ok (.iaload, 1) := by decide +kernel
theorem dX2_openSpotOf_68 : decode cX2_openSpotOf 68 = .ok (.iconst (-1), 1) := by decide +kernel
theorem dX2_openSpotOf_69 : decode cX2_openSpotOf 69 = .ok (.if_icmp .ne 8, 3) := by decide +kernel
theorem dX2_openSpotOf_72 : decode cX2_openSpotOf 72 = .ok (.iload 6, 2) := by decide +kernel
theorem dX2_openSpotOf_74 : decode cX2_openSpotOf 74 = .ok (.goto 5, 3) := by decide +kernel
theorem dX2_openSpotOf_77 : decode cX2_openSpotOf 77 = .ok (.iload 7, 2) := by decide +kernel
theorem dX2_openSpotOf_79 : decode cX2_openSpotOf 79 = .ok (.ireturn, 1) := by decide +kernel
theorem dX2_openSpotOf_80 : decode cX2_openSpotOf 80 = .ok (.iinc 5 1, 3) := by decide +kernel
theorem dX2_openSpotOf_83 : decode cX2_openSpotOf 83 = .ok (.goto (-72), 3) := by decide +kernel
theorem dX2_openSpotOf_86 : decode cX2_openSpotOf 86 = .ok (.iconst (-1), 1) := by decide +kernel
theorem dX2_openSpotOf_87 : decode cX2_openSpotOf 87 = .ok (.ireturn, 1) := by decide +kernel
theorem dX3_init_0 : decode cX3_init 0 = .ok (.aload_n 0, 1) := by decide +kernel
theorem dX3_init_1 : decode cX3_init 1 = .ok (.invokespecial 3, 3) := by decide +kernel
theorem dX3_init_4 : decode cX3_init 4 = .ok (.aload_n 0, 1) := by decide +kernel
theorem dX3_init_5 : decode cX3_init 5 = .ok (.bipush 24, 2) := by decide +kernel
theorem dX3_init_7 : decode cX3_init 7 = .ok (.newarray .int, 2) := by decide +kernel
theorem dX3_init_9 : decode cX3_init 9 = .ok (.putfield 9, 3) := by decide +kernel
theorem dX3_init_12 : decode cX3_init 12 = .ok (.aload_n 0, 1) := by decide +kernel
theorem dX3_init_13 : decode cX3_init 13 = .ok (.bipush 24, 2) := by decide +kernel
theorem dX3_init_15 : decode cX3_init 15 = .ok (.newarray .int, 2) := by decide +kernel
theorem dX3_init_17 : decode cX3_init 17 = .ok (.putfield 15, 3) := by decide +kernel
theorem dX3_init_20 : decode cX3_init 20 = .ok (.aload_n 0, 1) := by decide +kernel
theorem dX3_init_21 : decode cX3_init 21 = .ok (.bipush 24, 2) := by decide +kernel
theorem dX3_init_23 : decode cX3_init 23 = .ok (.newarray .int, 2) := by decide +kernel
theorem dX3_init_25 : decode cX3_init 25 = .ok (.putfield 18, 3) := by decide +kernel
theorem dX3_init_28 : decode cX3_init 28 = .ok (.aload_n 0, 1) := by decide +kernel
theorem dX3_init_29 : decode cX3_init 29 = .ok (.bipush 24, 2) := by decide +kernel
theorem dX3_init_31 : decode cX3_init 31 = .ok (.newarray .int, 2) := by decide +kernel
theorem dX3_init_33 : decode cX3_init 33 = .ok (.putfield 21, 3) := by decide +kernel
theorem dX3_init_36 : decode cX3_init 36 = .ok (.iconst 0, 1) := by decide +kernel
theorem dX3_init_37 : decode cX3_init 37 = .ok (.istore_n 1, 1) := by decide +kernel
theorem dX3_init_38 : decode cX3_init 38 = .ok (.iload_n 1, 1) := by decide +kernel
theorem dX3_init_39 : decode cX3_init 39 = .ok (.bipush 7, 2) := by decide +kernel
theorem dX3_init_41 : decode cX3_init 41 = .ok (.if_icmp .ge 55, 3) := by decide +kernel
theorem dX3_init_44 : decode cX3_init 44 = .ok (.aload_n 0, 1) := by decide +kernel
theorem dX3_init_45 : decode cX3_init 45 = .ok (.getfield 9, 3) := by decide +kernel
theorem dX3_init_48 : decode cX3_init 48 = .ok (.iload_n 1, 1) := by decide +kernel
theorem dX3_init_49 : decode cX3_init 49 = .ok (.iload_n 1, 1) := by decide +kernel
theorem dX3_init_50 : decode cX3_init 50 = .ok (.iconst 3, 1) := by decide +kernel
theorem dX3_init_51 : decode cX3_init 51 = .ok (.if_icmp .ge 7, 3) := by decide +kernel
theorem dX3_init_54 : decode cX3_init 54 = .ok (.iconst 0, 1) := by decide +kernel
theorem dX3_init_55 : decode cX3_init 55 = .ok (.goto 13, 3) := by decide +kernel
theorem dX3_init_58 : decode cX3_init 58 = .ok (.iload_n 1, 1) := by decide +kernel
theorem dX3_init_59 : decode cX3_init 59 = .ok (.iconst 5, 1) := by decide +kernel
theorem dX3_init_60 : decode cX3_init 60 = .ok (.if_icmp .ge 7, 3) := by decide +kernel
theorem dX3_init_63 : decode cX3_init 63 = .ok (.iconst 1, 1) := by decide +kernel
theorem dX3_init_64 : decode cX3_init 64 = .ok (.goto 4, 3) := by decide +kernel
theorem dX3_init_67 : decode cX3_init 67 = .ok (.iconst 2, 1) := by decide +kernel
theorem dX3_init_68 : decode cX3_init 68 = .ok (.iastore, 1) := by decide +kernel
theorem dX3_init_69 : decode cX3_init 69 = .ok (.aload_n 0, 1) := by decide +kernel
theorem dX3_init_70 : decode cX3_init 70 = .ok (.getfield 15, 3) := by decide +kernel
theorem dX3_init_73 : decode cX3_init 73 = .ok (.iload_n 1, 1) := by decide +kernel
theorem dX3_init_74 : decode cX3_init 74 = .ok (.iconst (-1), 1) := by decide +kernel
theorem dX3_init_75 : decode cX3_init 75 = .ok (.iastore, 1) := by decide +kernel
theorem dX3_init_76 : decode cX3_init 76 = .ok (.aload_n 0, 1) := by decide +kernel
theorem dX3_init_77 : decode cX3_init 77 = .ok (.getfield 18, 3) := by decide +kernel
theorem dX3_init_80 : decode cX3_init 80 = .ok (.iload_n 1, 1) := by decide +kernel
theorem dX3_init_81 : decode cX3_init 81 = .ok (.iconst (-1), 1) := by decide +kernel
theorem dX3_init_82 : decode cX3_init 82 = .ok (.iastore, 1) := by decide +kernel
theorem dX3_init_83 : decode cX3_init 83 = .ok (.aload_n 0, 1) := by decide +kernel
theorem dX3_init_84 : decode cX3_init 84 = .ok (.getfield 21, 3) := by decide +kernel
theorem dX3_init_87 : decode cX3_init 87 = .ok (.iload_n 1, 1) := by decide +kernel
theorem dX3_init_88 : decode cX3_init 88 = .ok (.iconst (-1), 1) := by decide +kernel
theorem dX3_init_89 : decode cX3_init 89 = .ok (.iastore, 1) := by decide +kernel
theorem dX3_init_90 : decode cX3_init 90 = .ok (.iinc 1 1, 3) := by decide +kernel
theorem dX3_init_93 : decode cX3_init 93 = .ok (.goto (-55), 3) := by decide +kernel
theorem dX3_init_96 : decode cX3_init 96 = .ok (.aload_n 0, 1) := by decide +kernel
theorem dX3_init_97 : decode cX3_init 97 = .ok (.bipush 7, 2) := by decide +kernel
theorem dX3_init_99 : decode cX3_init 99 = .ok (.putfield 24, 3) := by decide +kernel
theorem dX3_init_102 : decode cX3_init 102 = .ok (.return_, 1) := by decide +kernel
theorem dX3_has_0 : decode cX3_has 0 = .ok (.iload_n 1, 1) := by decide +kernel
theorem dX3_has_1 : decode cX3_has 1 = .ok (.ifCond .lt 15, 3) := by decide +kernel
theorem dX3_has_4 : decode cX3_has 4 = .ok (.iload_n 1, 1) := by decide +kernel
theorem dX3_has_5 : decode cX3_has 5 = .ok (.aload_n 0, 1) := by decide +kernel
theorem dX3_has_6 : decode cX3_has 6 = .ok (.getfield 24, 3) := by decide +kernel
theorem dX3_has_9 : decode cX3_has 9 = .ok (.if_icmp .ge 7, 3) := by decide +kernel
theorem dX3_has_12 : decode cX3_has 12 = .ok (.iconst 1, 1) := by decide +kernel
theorem dX3_has_13 : decode cX3_has 13 = .ok (.goto 4, 3) := by decide +kernel
theorem dX3_has_16 : decode cX3_has 16 = .ok (.iconst 0, 1) := by decide +kernel
theorem dX3_has_17 : decode cX3_has 17 = .ok (.ireturn, 1) := by decide +kernel
theorem dX3_sortOf_0 : decode cX3_sortOf 0 = .ok (.aload_n 0, 1) := by decide +kernel
theorem dX3_sortOf_1 : decode cX3_sortOf 1 = .ok (.iload_n 1, 1) := by decide +kernel
theorem dX3_sortOf_2 : decode cX3_sortOf 2 = .ok (.invokevirtual 28, 3) := by decide +kernel
theorem dX3_sortOf_5 : decode cX3_sortOf 5 = .ok (.ifCond .eq 12, 3) := by decide +kernel
theorem dX3_sortOf_8 : decode cX3_sortOf 8 = .ok (.aload_n 0, 1) := by decide +kernel
theorem dX3_sortOf_9 : decode cX3_sortOf 9 = .ok (.getfield 9, 3) := by decide +kernel
theorem dX3_sortOf_12 : decode cX3_sortOf 12 = .ok (.iload_n 1, 1) := by decide +kernel
theorem dX3_sortOf_13 : decode cX3_sortOf 13 = .ok (.iaload, 1) := by decide +kernel
theorem dX3_sortOf_14 : decode cX3_sortOf 14 = .ok (.goto 4, 3) := by decide +kernel
theorem dX3_sortOf_17 : decode cX3_sortOf 17 = .ok (.iconst (-1), 1) := by decide +kernel
theorem dX3_sortOf_18 : decode cX3_sortOf 18 = .ok (.ireturn, 1) := by decide +kernel
theorem dX3_find_0 : decode cX3_find 0 = .ok (.bipush 7, 2) := by decide +kernel
theorem dX3_find_2 : decode cX3_find 2 = .ok (.istore 5, 2) := by decide +kernel
theorem dX3_find_4 : decode cX3_find 4 = .ok (.iload 5, 2) := by decide +kernel
theorem dX3_find_6 : decode cX3_find 6 = .ok (.aload_n 0, 1) := by decide +kernel
theorem dX3_find_7 : decode cX3_find 7 = .ok (.getfield 24, 3) := by decide +kernel
theorem dX3_find_10 : decode cX3_find 10 = .ok (.if_icmp .ge 57, 3) := by decide +kernel
theorem dX3_find_13 : decode cX3_find 13 = .ok (.aload_n 0, 1) := by decide +kernel
theorem dX3_find_14 : decode cX3_find 14 = .ok (.getfield 9, 3) := by decide +kernel
theorem dX3_find_17 : decode cX3_find 17 = .ok (.iload 5, 2) := by decide +kernel
theorem dX3_find_19 : decode cX3_find 19 = .ok (.iaload, 1) := by decide +kernel
theorem dX3_find_20 : decode cX3_find 20 = .ok (.iload_n 1, 1) := by decide +kernel
theorem dX3_find_21 : decode cX3_find 21 = .ok (.if_icmp .ne 40, 3) := by decide +kernel
theorem dX3_find_24 : decode cX3_find 24 = .ok (.aload_n 0, 1) := by decide +kernel
theorem dX3_find_25 : decode cX3_find 25 = .ok (.getfield 15, 3) := by decide +kernel
theorem dX3_find_28 : decode cX3_find 28 = .ok (.iload 5, 2) := by decide +kernel
theorem dX3_find_30 : decode cX3_find 30 = .ok (.iaload, 1) := by decide +kernel
theorem dX3_find_31 : decode cX3_find 31 = .ok (.iload_n 2, 1) := by decide +kernel
theorem dX3_find_32 : decode cX3_find 32 = .ok (.if_icmp .ne 29, 3) := by decide +kernel
theorem dX3_find_35 : decode cX3_find 35 = .ok (.aload_n 0, 1) := by decide +kernel
theorem dX3_find_36 : decode cX3_find 36 = .ok (.getfield 18, 3) := by decide +kernel
theorem dX3_find_39 : decode cX3_find 39 = .ok (.iload 5, 2) := by decide +kernel
theorem dX3_find_41 : decode cX3_find 41 = .ok (.iaload, 1) := by decide +kernel
theorem dX3_find_42 : decode cX3_find 42 = .ok (.iload_n 3, 1) := by decide +kernel
theorem dX3_find_43 : decode cX3_find 43 = .ok (.if_icmp .ne 18, 3) := by decide +kernel
theorem dX3_find_46 : decode cX3_find 46 = .ok (.aload_n 0, 1) := by decide +kernel
theorem dX3_find_47 : decode cX3_find 47 = .ok (.getfield 21, 3) := by decide +kernel
theorem dX3_find_50 : decode cX3_find 50 = .ok (.iload 5, 2) := by decide +kernel
theorem dX3_find_52 : decode cX3_find 52 = .ok (.iaload, 1) := by decide +kernel
theorem dX3_find_53 : decode cX3_find 53 = .ok (.iload 4, 2) := by decide +kernel
theorem dX3_find_55 : decode cX3_find 55 = .ok (.if_icmp .ne 6, 3) := by decide +kernel
theorem dX3_find_58 : decode cX3_find 58 = .ok (.iload 5, 2) := by decide +kernel
theorem dX3_find_60 : decode cX3_find 60 = .ok (.ireturn, 1) := by decide +kernel
theorem dX3_find_61 : decode cX3_find 61 = .ok (.iinc 5 1, 3) := by decide +kernel
theorem dX3_find_64 : decode cX3_find 64 = .ok (.goto (-60), 3) := by decide +kernel
theorem dX3_find_67 : decode cX3_find 67 = .ok (.iconst (-1), 1) := by decide +kernel
theorem dX3_find_68 : decode cX3_find 68 = .ok (.ireturn, 1) := by decide +kernel
theorem dX3_add_0 : decode cX3_add 0 = .ok (.aload_n 0, 1) := by decide +kernel
theorem dX3_add_1 : decode cX3_add 1 = .ok (.getfield 24, 3) := by decide +kernel
theorem dX3_add_4 : decode cX3_add 4 = .ok (.bipush 24, 2) := by decide +kernel
theorem dX3_add_6 : decode cX3_add 6 = .ok (.if_icmp .lt 5, 3) := by decide +kernel
theorem dX3_add_9 : decode cX3_add 9 = .ok (.iconst (-1), 1) := by decide +kernel
theorem dX3_add_10 : decode cX3_add 10 = .ok (.ireturn, 1) := by decide +kernel
theorem dX3_add_11 : decode cX3_add 11 = .ok (.aload_n 0, 1) := by decide +kernel
theorem dX3_add_12 : decode cX3_add 12 = .ok (.getfield 9, 3) := by decide +kernel
theorem dX3_add_15 : decode cX3_add 15 = .ok (.aload_n 0, 1) := by decide +kernel
theorem dX3_add_16 : decode cX3_add 16 = .ok (.getfield 24, 3) := by decide +kernel
theorem dX3_add_19 : decode cX3_add 19 = .ok (.iload_n 1, 1) := by decide +kernel
theorem dX3_add_20 : decode cX3_add 20 = .ok (.iastore, 1) := by decide +kernel
theorem dX3_add_21 : decode cX3_add 21 = .ok (.aload_n 0, 1) := by decide +kernel
theorem dX3_add_22 : decode cX3_add 22 = .ok (.getfield 15, 3) := by decide +kernel
theorem dX3_add_25 : decode cX3_add 25 = .ok (.aload_n 0, 1) := by decide +kernel
theorem dX3_add_26 : decode cX3_add 26 = .ok (.getfield 24, 3) := by decide +kernel
theorem dX3_add_29 : decode cX3_add 29 = .ok (.iload_n 2, 1) := by decide +kernel
theorem dX3_add_30 : decode cX3_add 30 = .ok (.iastore, 1) := by decide +kernel
theorem dX3_add_31 : decode cX3_add 31 = .ok (.aload_n 0, 1) := by decide +kernel
theorem dX3_add_32 : decode cX3_add 32 = .ok (.getfield 18, 3) := by decide +kernel
theorem dX3_add_35 : decode cX3_add 35 = .ok (.aload_n 0, 1) := by decide +kernel
theorem dX3_add_36 : decode cX3_add 36 = .ok (.getfield 24, 3) := by decide +kernel
theorem dX3_add_39 : decode cX3_add 39 = .ok (.iload_n 3, 1) := by decide +kernel
theorem dX3_add_40 : decode cX3_add 40 = .ok (.iastore, 1) := by decide +kernel
theorem dX3_add_41 : decode cX3_add 41 = .ok (.aload_n 0, 1) := by decide +kernel
theorem dX3_add_42 : decode cX3_add 42 = .ok (.getfield 21, 3) := by decide +kernel
theorem dX3_add_45 : decode cX3_add 45 = .ok (.aload_n 0, 1) := by decide +kernel
theorem dX3_add_46 : decode cX3_add 46 = .ok (.getfield 24, 3) := by decide +kernel
theorem dX3_add_49 : decode cX3_add 49 = .ok (.iload 4, 2) := by decide +kernel
theorem dX3_add_51 : decode cX3_add 51 = .ok (.iastore, 1) := by decide +kernel
theorem dX3_add_52 : decode cX3_add 52 = .ok (.aload_n 0, 1) := by decide +kernel
theorem dX3_add_53 : decode cX3_add 53 = .ok (.dup, 1) := by decide +kernel
theorem dX3_add_54 : decode cX3_add 54 = .ok (.getfield 24, 3) := by decide +kernel
theorem dX3_add_57 : decode cX3_add 57 = .ok (.iconst 1, 1) := by decide +kernel
theorem dX3_add_58 : decode cX3_add 58 = .ok (.iadd, 1) := by decide +kernel
theorem dX3_add_59 : decode cX3_add 59 = .ok (.putfield 24, 3) := by decide +kernel
theorem dX3_add_62 : decode cX3_add 62 = .ok (.aload_n 0, 1) := by decide +kernel
theorem dX3_add_63 : decode cX3_add 63 = .ok (.getfield 24, 3) := by decide +kernel
theorem dX3_add_66 : decode cX3_add 66 = .ok (.iconst 1, 1) := by decide +kernel
theorem dX3_add_67 : decode cX3_add 67 = .ok (.isub, 1) := by decide +kernel
theorem dX3_add_68 : decode cX3_add 68 = .ok (.ireturn, 1) := by decide +kernel
theorem dX4_init_0 : decode cX4_init 0 = .ok (.aload_n 0, 1) := by decide +kernel
theorem dX4_init_1 : decode cX4_init 1 = .ok (.invokespecial 3, 3) := by decide +kernel
theorem dX4_init_4 : decode cX4_init 4 = .ok (.aload_n 0, 1) := by decide +kernel
theorem dX4_init_5 : decode cX4_init 5 = .ok (.new 9, 3) := by decide +kernel
theorem dX4_init_8 : decode cX4_init 8 = .ok (.dup, 1) := by decide +kernel
theorem dX4_init_9 : decode cX4_init 9 = .ok (.invokespecial 11, 3) := by decide +kernel
theorem dX4_init_12 : decode cX4_init 12 = .ok (.putfield 12, 3) := by decide +kernel
theorem dX4_init_15 : decode cX4_init 15 = .ok (.aload_n 0, 1) := by decide +kernel
theorem dX4_init_16 : decode cX4_init 16 = .ok (.new 16, 3) := by decide +kernel
theorem dX4_init_19 : decode cX4_init 19 = .ok (.dup, 1) := by decide +kernel
theorem dX4_init_20 : decode cX4_init 20 = .ok (.bipush 8, 2) := by decide +kernel
theorem dX4_init_22 : decode cX4_init 22 = .ok (.invokespecial 18, 3) := by decide +kernel
theorem dX4_init_25 : decode cX4_init 25 = .ok (.putfield 21, 3) := by decide +kernel
theorem dX4_init_28 : decode cX4_init 28 = .ok (.aload_n 0, 1) := by decide +kernel
theorem dX4_init_29 : decode cX4_init 29 = .ok (.iconst 3, 1) := by decide +kernel
theorem dX4_init_30 : decode cX4_init 30 = .ok (.newarray .int, 2) := by decide +kernel
theorem dX4_init_32 : decode cX4_init 32 = .ok (.putfield 25, 3) := by decide +kernel
theorem dX4_init_35 : decode cX4_init 35 = .ok (.aload_n 0, 1) := by decide +kernel
theorem dX4_init_36 : decode cX4_init 36 = .ok (.iconst 0, 1) := by decide +kernel
theorem dX4_init_37 : decode cX4_init 37 = .ok (.putfield 29, 3) := by decide +kernel
theorem dX4_init_40 : decode cX4_init 40 = .ok (.aload_n 0, 1) := by decide +kernel
theorem dX4_init_41 : decode cX4_init 41 = .ok (.new 16, 3) := by decide +kernel
theorem dX4_init_44 : decode cX4_init 44 = .ok (.dup, 1) := by decide +kernel
theorem dX4_init_45 : decode cX4_init 45 = .ok (.bipush 11, 2) := by decide +kernel
theorem dX4_init_47 : decode cX4_init 47 = .ok (.invokespecial 18, 3) := by decide +kernel
theorem dX4_init_50 : decode cX4_init 50 = .ok (.putfield 33, 3) := by decide +kernel
theorem dX4_init_53 : decode cX4_init 53 = .ok (.aload_n 0, 1) := by decide +kernel
theorem dX4_init_54 : decode cX4_init 54 = .ok (.new 36, 3) := by decide +kernel
theorem dX4_init_57 : decode cX4_init 57 = .ok (.dup, 1) := by decide +kernel
theorem dX4_init_58 : decode cX4_init 58 = .ok (.invokespecial 38, 3) := by decide +kernel
theorem dX4_init_61 : decode cX4_init 61 = .ok (.putfield 39, 3) := by decide +kernel
theorem dX4_init_64 : decode cX4_init 64 = .ok (.return_, 1) := by decide +kernel
theorem dX4_select_0 : decode cX4_select 0 = .ok (.aload_n 0, 1) := by decide +kernel
theorem dX4_select_1 : decode cX4_select 1 = .ok (.getfield 12, 3) := by decide +kernel
theorem dX4_select_4 : decode cX4_select 4 = .ok (.iload_n 1, 1) := by decide +kernel
theorem dX4_select_5 : decode cX4_select 5 = .ok (.invokevirtual 43, 3) := by decide +kernel
theorem dX4_select_8 : decode cX4_select 8 = .ok (.ifCond .eq 14, 3) := by decide +kernel
theorem dX4_select_11 : decode cX4_select 11 = .ok (.aload_n 0, 1) := by decide +kernel
theorem dX4_select_12 : decode cX4_select 12 = .ok (.getfield 12, 3) := by decide +kernel
theorem dX4_select_15 : decode cX4_select 15 = .ok (.iload_n 2, 1) := by decide +kernel
theorem dX4_select_16 : decode cX4_select 16 = .ok (.invokevirtual 43, 3) := by decide +kernel
theorem dX4_select_19 : decode cX4_select 19 = .ok (.ifCond .ne 11, 3) := by decide +kernel
theorem dX4_select_22 : decode cX4_select 22 = .ok (.new 47, 3) := by decide +kernel
theorem dX4_select_25 : decode cX4_select 25 = .ok (.dup, 1) := by decide +kernel
end
section
theorem dX4_select_26 : decode cX4_select 26 = .ok (.invokespecial 49, 3) := by decide +kernel
theorem dX4_select_29 : decode cX4_select 29 = .ok (.athrow, 1) := by decide +kernel
theorem dX4_select_30 : decode cX4_select 30 = .ok (.aload_n 0, 1) := by decide +kernel
theorem dX4_select_31 : decode cX4_select 31 = .ok (.getfield 12, 3) := by decide +kernel
theorem dX4_select_34 : decode cX4_select 34 = .ok (.iload_n 1, 1) := by decide +kernel
theorem dX4_select_35 : decode cX4_select 35 = .ok (.invokevirtual 50, 3) := by decide +kernel
theorem dX4_select_38 : decode cX4_select 38 = .ok (.iconst 2, 1) := by decide +kernel
theorem dX4_select_39 : decode cX4_select 39 = .ok (.if_icmp .ne 14, 3) := by decide +kernel
theorem dX4_select_42 : decode cX4_select 42 = .ok (.aload_n 0, 1) := by decide +kernel
theorem dX4_select_43 : decode cX4_select 43 = .ok (.getfield 12, 3) := by decide +kernel
theorem dX4_select_46 : decode cX4_select 46 = .ok (.iload_n 2, 1) := by decide +kernel
theorem dX4_select_47 : decode cX4_select 47 = .ok (.invokevirtual 50, 3) := by decide +kernel
theorem dX4_select_50 : decode cX4_select 50 = .ok (.ifCond .eq 11, 3) := by decide +kernel
theorem dX4_select_53 : decode cX4_select 53 = .ok (.new 54, 3) := by decide +kernel
theorem dX4_select_56 : decode cX4_select 56 = .ok (.dup, 1) := by decide +kernel
theorem dX4_select_57 : decode cX4_select 57 = .ok (.invokespecial 56, 3) := by decide +kernel
theorem dX4_select_60 : decode cX4_select 60 = .ok (.athrow, 1) := by decide +kernel
theorem dX4_select_61 : decode cX4_select 61 = .ok (.aload_n 0, 1) := by decide +kernel
theorem dX4_select_62 : decode cX4_select 62 = .ok (.iconst 1, 1) := by decide +kernel
theorem dX4_select_63 : decode cX4_select 63 = .ok (.iload_n 1, 1) := by decide +kernel
theorem dX4_select_64 : decode cX4_select 64 = .ok (.iload_n 2, 1) := by decide +kernel
theorem dX4_select_65 : decode cX4_select 65 = .ok (.iconst (-1), 1) := by decide +kernel
theorem dX4_select_66 : decode cX4_select 66 = .ok (.invokevirtual 57, 3) := by decide +kernel
theorem dX4_select_69 : decode cX4_select 69 = .ok (.ireturn, 1) := by decide +kernel
theorem dX4_store_0 : decode cX4_store 0 = .ok (.aload_n 0, 1) := by decide +kernel
theorem dX4_store_1 : decode cX4_store 1 = .ok (.getfield 12, 3) := by decide +kernel
theorem dX4_store_4 : decode cX4_store 4 = .ok (.iload_n 1, 1) := by decide +kernel
theorem dX4_store_5 : decode cX4_store 5 = .ok (.invokevirtual 43, 3) := by decide +kernel
theorem dX4_store_8 : decode cX4_store 8 = .ok (.ifCond .eq 25, 3) := by decide +kernel
theorem dX4_store_11 : decode cX4_store 11 = .ok (.aload_n 0, 1) := by decide +kernel
theorem dX4_store_12 : decode cX4_store 12 = .ok (.getfield 12, 3) := by decide +kernel
theorem dX4_store_15 : decode cX4_store 15 = .ok (.iload_n 2, 1) := by decide +kernel
theorem dX4_store_16 : decode cX4_store 16 = .ok (.invokevirtual 43, 3) := by decide +kernel
theorem dX4_store_19 : decode cX4_store 19 = .ok (.ifCond .eq 14, 3) := by decide +kernel
theorem dX4_store_22 : decode cX4_store 22 = .ok (.aload_n 0, 1) := by decide +kernel
theorem dX4_store_23 : decode cX4_store 23 = .ok (.getfield 12, 3) := by decide +kernel
theorem dX4_store_26 : decode cX4_store 26 = .ok (.iload_n 3, 1) := by decide +kernel
theorem dX4_store_27 : decode cX4_store 27 = .ok (.invokevirtual 43, 3) := by decide +kernel
theorem dX4_store_30 : decode cX4_store 30 = .ok (.ifCond .ne 11, 3) := by decide +kernel
theorem dX4_store_33 : decode cX4_store 33 = .ok (.new 47, 3) := by decide +kernel
theorem dX4_store_36 : decode cX4_store 36 = .ok (.dup, 1) := by decide +kernel
theorem dX4_store_37 : decode cX4_store 37 = .ok (.invokespecial 49, 3) := by decide +kernel
theorem dX4_store_40 : decode cX4_store 40 = .ok (.athrow, 1) := by decide +kernel
theorem dX4_store_41 : decode cX4_store 41 = .ok (.aload_n 0, 1) := by decide +kernel
theorem dX4_store_42 : decode cX4_store 42 = .ok (.getfield 12, 3) := by decide +kernel
theorem dX4_store_45 : decode cX4_store 45 = .ok (.iload_n 1, 1) := by decide +kernel
theorem dX4_store_46 : decode cX4_store 46 = .ok (.invokevirtual 50, 3) := by decide +kernel
theorem dX4_store_49 : decode cX4_store 49 = .ok (.iconst 2, 1) := by decide +kernel
theorem dX4_store_50 : decode cX4_store 50 = .ok (.if_icmp .ne 26, 3) := by decide +kernel
theorem dX4_store_53 : decode cX4_store 53 = .ok (.aload_n 0, 1) := by decide +kernel
theorem dX4_store_54 : decode cX4_store 54 = .ok (.getfield 12, 3) := by decide +kernel
theorem dX4_store_57 : decode cX4_store 57 = .ok (.iload_n 2, 1) := by decide +kernel
theorem dX4_store_58 : decode cX4_store 58 = .ok (.invokevirtual 50, 3) := by decide +kernel
theorem dX4_store_61 : decode cX4_store 61 = .ok (.ifCond .ne 15, 3) := by decide +kernel
theorem dX4_store_64 : decode cX4_store 64 = .ok (.aload_n 0, 1) := by decide +kernel
theorem dX4_store_65 : decode cX4_store 65 = .ok (.getfield 12, 3) := by decide +kernel
theorem dX4_store_68 : decode cX4_store 68 = .ok (.iload_n 3, 1) := by decide +kernel
theorem dX4_store_69 : decode cX4_store 69 = .ok (.invokevirtual 50, 3) := by decide +kernel
theorem dX4_store_72 : decode cX4_store 72 = .ok (.iconst 1, 1) := by decide +kernel
theorem dX4_store_73 : decode cX4_store 73 = .ok (.if_icmp .eq 11, 3) := by decide +kernel
theorem dX4_store_76 : decode cX4_store 76 = .ok (.new 54, 3) := by decide +kernel
theorem dX4_store_79 : decode cX4_store 79 = .ok (.dup, 1) := by decide +kernel
theorem dX4_store_80 : decode cX4_store 80 = .ok (.invokespecial 56, 3) := by decide +kernel
theorem dX4_store_83 : decode cX4_store 83 = .ok (.athrow, 1) := by decide +kernel
theorem dX4_store_84 : decode cX4_store 84 = .ok (.aload_n 0, 1) := by decide +kernel
theorem dX4_store_85 : decode cX4_store 85 = .ok (.iconst 2, 1) := by decide +kernel
theorem dX4_store_86 : decode cX4_store 86 = .ok (.iload_n 1, 1) := by decide +kernel
theorem dX4_store_87 : decode cX4_store 87 = .ok (.iload_n 2, 1) := by decide +kernel
theorem dX4_store_88 : decode cX4_store 88 = .ok (.iload_n 3, 1) := by decide +kernel
theorem dX4_store_89 : decode cX4_store 89 = .ok (.invokevirtual 57, 3) := by decide +kernel
theorem dX4_store_92 : decode cX4_store 92 = .ok (.ireturn, 1) := by decide +kernel
theorem dX4_terms_0 : decode cX4_terms 0 = .ok (.aload_n 0, 1) := by decide +kernel
theorem dX4_terms_1 : decode cX4_terms 1 = .ok (.getfield 12, 3) := by decide +kernel
theorem dX4_terms_4 : decode cX4_terms 4 = .ok (.getfield 61, 3) := by decide +kernel
theorem dX4_terms_7 : decode cX4_terms 7 = .ok (.ireturn, 1) := by decide +kernel
theorem dX4_sort_0 : decode cX4_sort 0 = .ok (.aload_n 0, 1) := by decide +kernel
theorem dX4_sort_1 : decode cX4_sort 1 = .ok (.getfield 12, 3) := by decide +kernel
theorem dX4_sort_4 : decode cX4_sort 4 = .ok (.iload_n 1, 1) := by decide +kernel
theorem dX4_sort_5 : decode cX4_sort 5 = .ok (.invokevirtual 50, 3) := by decide +kernel
theorem dX4_sort_8 : decode cX4_sort 8 = .ok (.ireturn, 1) := by decide +kernel
theorem dX4_literal_0 : decode cX4_literal 0 = .ok (.aload_n 0, 1) := by decide +kernel
theorem dX4_literal_1 : decode cX4_literal 1 = .ok (.iload_n 1, 1) := by decide +kernel
theorem dX4_literal_2 : decode cX4_literal 2 = .ok (.iload_n 2, 1) := by decide +kernel
theorem dX4_literal_3 : decode cX4_literal 3 = .ok (.invokevirtual 64, 3) := by decide +kernel
theorem dX4_literal_6 : decode cX4_literal 6 = .ok (.aload_n 0, 1) := by decide +kernel
theorem dX4_literal_7 : decode cX4_literal 7 = .ok (.getfield 29, 3) := by decide +kernel
theorem dX4_literal_10 : decode cX4_literal 10 = .ok (.iconst 3, 1) := by decide +kernel
theorem dX4_literal_11 : decode cX4_literal 11 = .ok (.if_icmp .lt 11, 3) := by decide +kernel
theorem dX4_literal_14 : decode cX4_literal 14 = .ok (.new 68, 3) := by decide +kernel
theorem dX4_literal_17 : decode cX4_literal 17 = .ok (.dup, 1) := by decide +kernel
theorem dX4_literal_18 : decode cX4_literal 18 = .ok (.invokespecial 70, 3) := by decide +kernel
theorem dX4_literal_21 : decode cX4_literal 21 = .ok (.athrow, 1) := by decide +kernel
theorem dX4_literal_22 : decode cX4_literal 22 = .ok (.aload_n 0, 1) := by decide +kernel
theorem dX4_literal_23 : decode cX4_literal 23 = .ok (.getfield 25, 3) := by decide +kernel
theorem dX4_literal_26 : decode cX4_literal 26 = .ok (.aload_n 0, 1) := by decide +kernel
theorem dX4_literal_27 : decode cX4_literal 27 = .ok (.getfield 29, 3) := by decide +kernel
theorem dX4_literal_30 : decode cX4_literal 30 = .ok (.iload_n 1, 1) := by decide +kernel
theorem dX4_literal_31 : decode cX4_literal 31 = .ok (.iload_n 2, 1) := by decide +kernel
theorem dX4_literal_32 : decode cX4_literal 32 = .ok (.iload_n 3, 1) := by decide +kernel
theorem dX4_literal_33 : decode cX4_literal 33 = .ok (.invokestatic 71, 3) := by decide +kernel
theorem dX4_literal_36 : decode cX4_literal 36 = .ok (.iastore, 1) := by decide +kernel
theorem dX4_literal_37 : decode cX4_literal 37 = .ok (.aload_n 0, 1) := by decide +kernel
theorem dX4_literal_38 : decode cX4_literal 38 = .ok (.dup, 1) := by decide +kernel
theorem dX4_literal_39 : decode cX4_literal 39 = .ok (.getfield 29, 3) := by decide +kernel
theorem dX4_literal_42 : decode cX4_literal 42 = .ok (.iconst 1, 1) := by decide +kernel
theorem dX4_literal_43 : decode cX4_literal 43 = .ok (.iadd, 1) := by decide +kernel
theorem dX4_literal_44 : decode cX4_literal 44 = .ok (.putfield 29, 3) := by decide +kernel
theorem dX4_literal_47 : decode cX4_literal 47 = .ok (.aload_n 0, 1) := by decide +kernel
theorem dX4_literal_48 : decode cX4_literal 48 = .ok (.getfield 29, 3) := by decide +kernel
theorem dX4_literal_51 : decode cX4_literal 51 = .ok (.ireturn, 1) := by decide +kernel
theorem dX4_draft_0 : decode cX4_draft 0 = .ok (.aload_n 0, 1) := by decide +kernel
theorem dX4_draft_1 : decode cX4_draft 1 = .ok (.getfield 29, 3) := by decide +kernel
theorem dX4_draft_4 : decode cX4_draft 4 = .ok (.ireturn, 1) := by decide +kernel
theorem dX4_clear_0 : decode cX4_clear 0 = .ok (.aload_n 0, 1) := by decide +kernel
theorem dX4_clear_1 : decode cX4_clear 1 = .ok (.iconst 0, 1) := by decide +kernel
theorem dX4_clear_2 : decode cX4_clear 2 = .ok (.putfield 29, 3) := by decide +kernel
theorem dX4_clear_5 : decode cX4_clear 5 = .ok (.return_, 1) := by decide +kernel
theorem dX4_claim_0 : decode cX4_claim 0 = .ok (.aload_n 0, 1) := by decide +kernel
theorem dX4_claim_1 : decode cX4_claim 1 = .ok (.getfield 29, 3) := by decide +kernel
theorem dX4_claim_4 : decode cX4_claim 4 = .ok (.ifCond .ne 11, 3) := by decide +kernel
theorem dX4_claim_7 : decode cX4_claim 7 = .ok (.new 68, 3) := by decide +kernel
theorem dX4_claim_10 : decode cX4_claim 10 = .ok (.dup, 1) := by decide +kernel
theorem dX4_claim_11 : decode cX4_claim 11 = .ok (.invokespecial 70, 3) := by decide +kernel
theorem dX4_claim_14 : decode cX4_claim 14 = .ok (.athrow, 1) := by decide +kernel
theorem dX4_claim_15 : decode cX4_claim 15 = .ok (.aload_n 0, 1) := by decide +kernel
theorem dX4_claim_16 : decode cX4_claim 16 = .ok (.getfield 21, 3) := by decide +kernel
theorem dX4_claim_19 : decode cX4_claim 19 = .ok (.getfield 77, 3) := by decide +kernel
theorem dX4_claim_22 : decode cX4_claim 22 = .ok (.bipush 8, 2) := by decide +kernel
theorem dX4_claim_24 : decode cX4_claim 24 = .ok (.if_icmp .lt 11, 3) := by decide +kernel
theorem dX4_claim_27 : decode cX4_claim 27 = .ok (.new 78, 3) := by decide +kernel
theorem dX4_claim_30 : decode cX4_claim 30 = .ok (.dup, 1) := by decide +kernel
theorem dX4_claim_31 : decode cX4_claim 31 = .ok (.invokespecial 80, 3) := by decide +kernel
theorem dX4_claim_34 : decode cX4_claim 34 = .ok (.athrow, 1) := by decide +kernel
theorem dX4_claim_35 : decode cX4_claim 35 = .ok (.aload_n 0, 1) := by decide +kernel
theorem dX4_claim_36 : decode cX4_claim 36 = .ok (.getfield 21, 3) := by decide +kernel
theorem dX4_claim_39 : decode cX4_claim 39 = .ok (.aload_n 0, 1) := by decide +kernel
theorem dX4_claim_40 : decode cX4_claim 40 = .ok (.getfield 25, 3) := by decide +kernel
theorem dX4_claim_43 : decode cX4_claim 43 = .ok (.iconst 0, 1) := by decide +kernel
theorem dX4_claim_44 : decode cX4_claim 44 = .ok (.aload_n 0, 1) := by decide +kernel
theorem dX4_claim_45 : decode cX4_claim 45 = .ok (.getfield 29, 3) := by decide +kernel
theorem dX4_claim_48 : decode cX4_claim 48 = .ok (.invokevirtual 81, 3) := by decide +kernel
theorem dX4_claim_51 : decode cX4_claim 51 = .ok (.aload_n 0, 1) := by decide +kernel
theorem dX4_claim_52 : decode cX4_claim 52 = .ok (.iconst 0, 1) := by decide +kernel
theorem dX4_claim_53 : decode cX4_claim 53 = .ok (.putfield 29, 3) := by decide +kernel
theorem dX4_claim_56 : decode cX4_claim 56 = .ok (.aload_n 0, 1) := by decide +kernel
theorem dX4_claim_57 : decode cX4_claim 57 = .ok (.getfield 21, 3) := by decide +kernel
theorem dX4_claim_60 : decode cX4_claim 60 = .ok (.getfield 77, 3) := by decide +kernel
theorem dX4_claim_63 : decode cX4_claim 63 = .ok (.iconst 1, 1) := by decide +kernel
theorem dX4_claim_64 : decode cX4_claim 64 = .ok (.isub, 1) := by decide +kernel
theorem dX4_claim_65 : decode cX4_claim 65 = .ok (.ireturn, 1) := by decide +kernel
theorem dX4_keep_0 : decode cX4_keep 0 = .ok (.iload_n 1, 1) := by decide +kernel
theorem dX4_keep_1 : decode cX4_keep 1 = .ok (.ifCond .lt 14, 3) := by decide +kernel
theorem dX4_keep_4 : decode cX4_keep 4 = .ok (.iload_n 1, 1) := by decide +kernel
theorem dX4_keep_5 : decode cX4_keep 5 = .ok (.aload_n 0, 1) := by decide +kernel
theorem dX4_keep_6 : decode cX4_keep 6 = .ok (.getfield 21, 3) := by decide +kernel
theorem dX4_keep_9 : decode cX4_keep 9 = .ok (.getfield 77, 3) := by decide +kernel
theorem dX4_keep_12 : decode cX4_keep 12 = .ok (.if_icmp .le 5, 3) := by decide +kernel
theorem dX4_keep_15 : decode cX4_keep 15 = .ok (.iconst 0, 1) := by decide +kernel
theorem dX4_keep_16 : decode cX4_keep 16 = .ok (.ireturn, 1) := by decide +kernel
theorem dX4_keep_17 : decode cX4_keep 17 = .ok (.aload_n 0, 1) := by decide +kernel
theorem dX4_keep_18 : decode cX4_keep 18 = .ok (.getfield 21, 3) := by decide +kernel
theorem dX4_keep_21 : decode cX4_keep 21 = .ok (.iload_n 1, 1) := by decide +kernel
theorem dX4_keep_22 : decode cX4_keep 22 = .ok (.invokevirtual 85, 3) := by decide +kernel
theorem dX4_keep_25 : decode cX4_keep 25 = .ok (.iconst 1, 1) := by decide +kernel
theorem dX4_keep_26 : decode cX4_keep 26 = .ok (.ireturn, 1) := by decide +kernel
theorem dX4_claims_0 : decode cX4_claims 0 = .ok (.aload_n 0, 1) := by decide +kernel
theorem dX4_claims_1 : decode cX4_claims 1 = .ok (.getfield 21, 3) := by decide +kernel
theorem dX4_claims_4 : decode cX4_claims 4 = .ok (.getfield 77, 3) := by decide +kernel
theorem dX4_claims_7 : decode cX4_claims 7 = .ok (.ireturn, 1) := by decide +kernel
theorem dX4_can_0 : decode cX4_can 0 = .ok (.aload_n 0, 1) := by decide +kernel
theorem dX4_can_1 : decode cX4_can 1 = .ok (.aload_n 0, 1) := by decide +kernel
theorem dX4_can_2 : decode cX4_can 2 = .ok (.getfield 21, 3) := by decide +kernel
theorem dX4_can_5 : decode cX4_can 5 = .ok (.getfield 77, 3) := by decide +kernel
theorem dX4_can_8 : decode cX4_can 8 = .ok (.iconst (-1), 1) := by decide +kernel
theorem dX4_can_9 : decode cX4_can 9 = .ok (.invokevirtual 88, 3) := by decide +kernel
theorem dX4_can_12 : decode cX4_can 12 = .ok (.aload_n 0, 1) := by decide +kernel
theorem dX4_can_13 : decode cX4_can 13 = .ok (.invokevirtual 91, 3) := by decide +kernel
theorem dX4_can_16 : decode cX4_can 16 = .ok (.ireturn, 1) := by decide +kernel
theorem dX4_first_0 : decode cX4_first 0 = .ok (.iconst 0, 1) := by decide +kernel
theorem dX4_first_1 : decode cX4_first 1 = .ok (.istore_n 1, 1) := by decide +kernel
theorem dX4_first_2 : decode cX4_first 2 = .ok (.iload_n 1, 1) := by decide +kernel
theorem dX4_first_3 : decode cX4_first 3 = .ok (.aload_n 0, 1) := by decide +kernel
theorem dX4_first_4 : decode cX4_first 4 = .ok (.getfield 21, 3) := by decide +kernel
theorem dX4_first_7 : decode cX4_first 7 = .ok (.getfield 77, 3) := by decide +kernel
theorem dX4_first_10 : decode cX4_first 10 = .ok (.if_icmp .ge 26, 3) := by decide +kernel
theorem dX4_first_13 : decode cX4_first 13 = .ok (.aload_n 0, 1) := by decide +kernel
theorem dX4_first_14 : decode cX4_first 14 = .ok (.iload_n 1, 1) := by decide +kernel
theorem dX4_first_15 : decode cX4_first 15 = .ok (.iconst 1, 1) := by decide +kernel
theorem dX4_first_16 : decode cX4_first 16 = .ok (.iadd, 1) := by decide +kernel
theorem dX4_first_17 : decode cX4_first 17 = .ok (.iconst (-1), 1) := by decide +kernel
theorem dX4_first_18 : decode cX4_first 18 = .ok (.invokevirtual 88, 3) := by decide +kernel
theorem dX4_first_21 : decode cX4_first 21 = .ok (.aload_n 0, 1) := by decide +kernel
theorem dX4_first_22 : decode cX4_first 22 = .ok (.invokevirtual 91, 3) := by decide +kernel
theorem dX4_first_25 : decode cX4_first 25 = .ok (.ifCond .ne 5, 3) := by decide +kernel
theorem dX4_first_28 : decode cX4_first 28 = .ok (.iload_n 1, 1) := by decide +kernel
theorem dX4_first_29 : decode cX4_first 29 = .ok (.ireturn, 1) := by decide +kernel
theorem dX4_first_30 : decode cX4_first 30 = .ok (.iinc 1 1, 3) := by decide +kernel
theorem dX4_first_33 : decode cX4_first 33 = .ok (.goto (-31), 3) := by decide +kernel
theorem dX4_first_36 : decode cX4_first 36 = .ok (.iconst (-1), 1) := by decide +kernel
theorem dX4_first_37 : decode cX4_first 37 = .ok (.ireturn, 1) := by decide +kernel
theorem dX4_without_0 : decode cX4_without 0 = .ok (.iload_n 1, 1) := by decide +kernel
theorem dX4_without_1 : decode cX4_without 1 = .ok (.ifCond .lt 14, 3) := by decide +kernel
theorem dX4_without_4 : decode cX4_without 4 = .ok (.iload_n 1, 1) := by decide +kernel
theorem dX4_without_5 : decode cX4_without 5 = .ok (.aload_n 0, 1) := by decide +kernel
theorem dX4_without_6 : decode cX4_without 6 = .ok (.getfield 21, 3) := by decide +kernel
theorem dX4_without_9 : decode cX4_without 9 = .ok (.getfield 77, 3) := by decide +kernel
theorem dX4_without_12 : decode cX4_without 12 = .ok (.if_icmp .lt 11, 3) := by decide +kernel
theorem dX4_without_15 : decode cX4_without 15 = .ok (.new 47, 3) := by decide +kernel
theorem dX4_without_18 : decode cX4_without 18 = .ok (.dup, 1) := by decide +kernel
theorem dX4_without_19 : decode cX4_without 19 = .ok (.invokespecial 49, 3) := by decide +kernel
theorem dX4_without_22 : decode cX4_without 22 = .ok (.athrow, 1) := by decide +kernel
theorem dX4_without_23 : decode cX4_without 23 = .ok (.aload_n 0, 1) := by decide +kernel
theorem dX4_without_24 : decode cX4_without 24 = .ok (.aload_n 0, 1) := by decide +kernel
theorem dX4_without_25 : decode cX4_without 25 = .ok (.getfield 21, 3) := by decide +kernel
theorem dX4_without_28 : decode cX4_without 28 = .ok (.getfield 77, 3) := by decide +kernel
theorem dX4_without_31 : decode cX4_without 31 = .ok (.iload_n 1, 1) := by decide +kernel
theorem dX4_without_32 : decode cX4_without 32 = .ok (.invokevirtual 88, 3) := by decide +kernel
theorem dX4_without_35 : decode cX4_without 35 = .ok (.aload_n 0, 1) := by decide +kernel
theorem dX4_without_36 : decode cX4_without 36 = .ok (.invokevirtual 91, 3) := by decide +kernel
theorem dX4_without_39 : decode cX4_without 39 = .ok (.ireturn, 1) := by decide +kernel
theorem dX4_same_0 : decode cX4_same 0 = .ok (.aload_n 0, 1) := by decide +kernel
theorem dX4_same_1 : decode cX4_same 1 = .ok (.iload_n 1, 1) := by decide +kernel
theorem dX4_same_2 : decode cX4_same 2 = .ok (.iload_n 2, 1) := by decide +kernel
theorem dX4_same_3 : decode cX4_same 3 = .ok (.invokevirtual 64, 3) := by decide +kernel
theorem dX4_same_6 : decode cX4_same 6 = .ok (.aload_n 0, 1) := by decide +kernel
theorem dX4_same_7 : decode cX4_same 7 = .ok (.aload_n 0, 1) := by decide +kernel
theorem dX4_same_8 : decode cX4_same 8 = .ok (.getfield 21, 3) := by decide +kernel
theorem dX4_same_11 : decode cX4_same 11 = .ok (.getfield 77, 3) := by decide +kernel
theorem dX4_same_14 : decode cX4_same 14 = .ok (.iconst (-1), 1) := by decide +kernel
theorem dX4_same_15 : decode cX4_same 15 = .ok (.invokevirtual 88, 3) := by decide +kernel
theorem dX4_same_18 : decode cX4_same 18 = .ok (.aload_n 0, 1) := by decide +kernel
theorem dX4_same_19 : decode cX4_same 19 = .ok (.getfield 33, 3) := by decide +kernel
theorem dX4_same_22 : decode cX4_same 22 = .ok (.iload_n 1, 1) := by decide +kernel
theorem dX4_same_23 : decode cX4_same 23 = .ok (.iload_n 2, 1) := by decide +kernel
theorem dX4_same_24 : decode cX4_same 24 = .ok (.iconst 1, 1) := by decide +kernel
theorem dX4_same_25 : decode cX4_same 25 = .ok (.invokestatic 71, 3) := by decide +kernel
theorem dX4_same_28 : decode cX4_same 28 = .ok (.invokevirtual 95, 3) := by decide +kernel
theorem dX4_same_31 : decode cX4_same 31 = .ok (.aload_n 0, 1) := by decide +kernel
theorem dX4_same_32 : decode cX4_same 32 = .ok (.invokevirtual 91, 3) := by decide +kernel
theorem dX4_same_35 : decode cX4_same 35 = .ok (.istore_n 3, 1) := by decide +kernel
theorem dX4_same_36 : decode cX4_same 36 = .ok (.aload_n 0, 1) := by decide +kernel
theorem dX4_same_37 : decode cX4_same 37 = .ok (.getfield 33, 3) := by decide +kernel
theorem dX4_same_40 : decode cX4_same 40 = .ok (.aload_n 0, 1) := by decide +kernel
theorem dX4_same_41 : decode cX4_same 41 = .ok (.getfield 21, 3) := by decide +kernel
theorem dX4_same_44 : decode cX4_same 44 = .ok (.getfield 77, 3) := by decide +kernel
theorem dX4_same_47 : decode cX4_same 47 = .ok (.invokevirtual 85, 3) := by decide +kernel
theorem dX4_same_50 : decode cX4_same 50 = .ok (.aload_n 0, 1) := by decide +kernel
theorem dX4_same_51 : decode cX4_same 51 = .ok (.getfield 33, 3) := by decide +kernel
theorem dX4_same_54 : decode cX4_same 54 = .ok (.iload_n 1, 1) := by decide +kernel
theorem dX4_same_55 : decode cX4_same 55 = .ok (.iload_n 2, 1) := by decide +kernel
theorem dX4_same_56 : decode cX4_same 56 = .ok (.iconst 0, 1) := by decide +kernel
theorem dX4_same_57 : decode cX4_same 57 = .ok (.invokestatic 71, 3) := by decide +kernel
theorem dX4_same_60 : decode cX4_same 60 = .ok (.invokevirtual 95, 3) := by decide +kernel
theorem dX4_same_63 : decode cX4_same 63 = .ok (.aload_n 0, 1) := by decide +kernel
theorem dX4_same_64 : decode cX4_same 64 = .ok (.invokevirtual 91, 3) := by decide +kernel
theorem dX4_same_67 : decode cX4_same 67 = .ok (.istore 4, 2) := by decide +kernel
theorem dX4_same_69 : decode cX4_same 69 = .ok (.iload_n 3, 1) := by decide +kernel
theorem dX4_same_70 : decode cX4_same 70 = .ok (.ifCond .ne 16, 3) := by decide +kernel
theorem dX4_same_73 : decode cX4_same 73 = .ok (.iload 4, 2) := by decide +kernel
theorem dX4_same_75 : decode cX4_same 75 = .ok (.ifCond .ne 11, 3) := by decide +kernel
theorem dX4_same_78 : decode cX4_same 78 = .ok (.new 68, 3) := by decide +kernel
theorem dX4_same_81 : decode cX4_same 81 = .ok (.dup, 1) := by decide +kernel
theorem dX4_same_82 : decode cX4_same 82 = .ok (.invokespecial 70, 3) := by decide +kernel
theorem dX4_same_85 : decode cX4_same 85 = .ok (.athrow, 1) := by decide +kernel
theorem dX4_same_86 : decode cX4_same 86 = .ok (.iload_n 3, 1) := by decide +kernel
theorem dX4_same_87 : decode cX4_same 87 = .ok (.ifCond .eq 10, 3) := by decide +kernel
theorem dX4_same_90 : decode cX4_same 90 = .ok (.iload 4, 2) := by decide +kernel
theorem dX4_same_92 : decode cX4_same 92 = .ok (.ifCond .eq 5, 3) := by decide +kernel
theorem dX4_same_95 : decode cX4_same 95 = .ok (.iconst 2, 1) := by decide +kernel
theorem dX4_same_96 : decode cX4_same 96 = .ok (.ireturn, 1) := by decide +kernel
theorem dX4_same_97 : decode cX4_same 97 = .ok (.iload_n 3, 1) := by decide +kernel
theorem dX4_same_98 : decode cX4_same 98 = .ok (.ifCond .eq 7, 3) := by decide +kernel
theorem dX4_same_101 : decode cX4_same 101 = .ok (.iconst 1, 1) := by decide +kernel
theorem dX4_same_102 : decode cX4_same 102 = .ok (.goto 4, 3) := by decide +kernel
theorem dX4_same_105 : decode cX4_same 105 = .ok (.iconst 0, 1) := by decide +kernel
theorem dX4_same_106 : decode cX4_same 106 = .ok (.ireturn, 1) := by decide +kernel
theorem dX4_follows_0 : decode cX4_follows 0 = .ok (.aload_n 0, 1) := by decide +kernel
theorem dX4_follows_1 : decode cX4_follows 1 = .ok (.getfield 29, 3) := by decide +kernel
theorem dX4_follows_4 : decode cX4_follows 4 = .ok (.ifCond .ne 11, 3) := by decide +kernel
theorem dX4_follows_7 : decode cX4_follows 7 = .ok (.new 68, 3) := by decide +kernel
theorem dX4_follows_10 : decode cX4_follows 10 = .ok (.dup, 1) := by decide +kernel
theorem dX4_follows_11 : decode cX4_follows 11 = .ok (.invokespecial 70, 3) := by decide +kernel
theorem dX4_follows_14 : decode cX4_follows 14 = .ok (.athrow, 1) := by decide +kernel
theorem dX4_follows_15 : decode cX4_follows 15 = .ok (.aload_n 0, 1) := by decide +kernel
theorem dX4_follows_16 : decode cX4_follows 16 = .ok (.aload_n 0, 1) := by decide +kernel
theorem dX4_follows_17 : decode cX4_follows 17 = .ok (.getfield 21, 3) := by decide +kernel
theorem dX4_follows_20 : decode cX4_follows 20 = .ok (.getfield 77, 3) := by decide +kernel
theorem dX4_follows_23 : decode cX4_follows 23 = .ok (.iconst (-1), 1) := by decide +kernel
theorem dX4_follows_24 : decode cX4_follows 24 = .ok (.invokevirtual 88, 3) := by decide +kernel
theorem dX4_follows_27 : decode cX4_follows 27 = .ok (.iconst 0, 1) := by decide +kernel
theorem dX4_follows_28 : decode cX4_follows 28 = .ok (.istore_n 1, 1) := by decide +kernel
theorem dX4_follows_29 : decode cX4_follows 29 = .ok (.iload_n 1, 1) := by decide +kernel
theorem dX4_follows_30 : decode cX4_follows 30 = .ok (.aload_n 0, 1) := by decide +kernel
theorem dX4_follows_31 : decode cX4_follows 31 = .ok (.getfield 29, 3) := by decide +kernel
theorem dX4_follows_34 : decode cX4_follows 34 = .ok (.if_icmp .ge 25, 3) := by decide +kernel
theorem dX4_follows_37 : decode cX4_follows 37 = .ok (.aload_n 0, 1) := by decide +kernel
theorem dX4_follows_38 : decode cX4_follows 38 = .ok (.getfield 33, 3) := by decide +kernel
theorem dX4_follows_41 : decode cX4_follows 41 = .ok (.aload_n 0, 1) := by decide +kernel
theorem dX4_follows_42 : decode cX4_follows 42 = .ok (.getfield 25, 3) := by decide +kernel
theorem dX4_follows_45 : decode cX4_follows 45 = .ok (.iload_n 1, 1) := by decide +kernel
theorem dX4_follows_46 : decode cX4_follows 46 = .ok (.iaload, 1) := by decide +kernel
theorem dX4_follows_47 : decode cX4_follows 47 = .ok (.invokestatic 98, 3) := by decide +kernel
theorem dX4_follows_50 : decode cX4_follows 50 = .ok (.invokevirtual 95, 3) := by decide +kernel
theorem dX4_follows_53 : decode cX4_follows 53 = .ok (.iinc 1 1, 3) := by decide +kernel
theorem dX4_follows_56 : decode cX4_follows 56 = .ok (.goto (-27), 3) := by decide +kernel
theorem dX4_follows_59 : decode cX4_follows 59 = .ok (.aload_n 0, 1) := by decide +kernel
theorem dX4_follows_60 : decode cX4_follows 60 = .ok (.invokevirtual 91, 3) := by decide +kernel
theorem dX4_follows_63 : decode cX4_follows 63 = .ok (.ifCond .ne 7, 3) := by decide +kernel
theorem dX4_follows_66 : decode cX4_follows 66 = .ok (.iconst 1, 1) := by decide +kernel
theorem dX4_follows_67 : decode cX4_follows 67 = .ok (.goto 4, 3) := by decide +kernel
theorem dX4_follows_70 : decode cX4_follows 70 = .ok (.iconst 0, 1) := by decide +kernel
theorem dX4_follows_71 : decode cX4_follows 71 = .ok (.ireturn, 1) := by decide +kernel
theorem dX4_apart_0 : decode cX4_apart 0 = .ok (.aload_n 0, 1) := by decide +kernel
theorem dX4_apart_1 : decode cX4_apart 1 = .ok (.aload_n 0, 1) := by decide +kernel
theorem dX4_apart_2 : decode cX4_apart 2 = .ok (.getfield 21, 3) := by decide +kernel
theorem dX4_apart_5 : decode cX4_apart 5 = .ok (.getfield 77, 3) := by decide +kernel
theorem dX4_apart_8 : decode cX4_apart 8 = .ok (.iconst (-1), 1) := by decide +kernel
theorem dX4_apart_9 : decode cX4_apart 9 = .ok (.invokevirtual 88, 3) := by decide +kernel
theorem dX4_apart_12 : decode cX4_apart 12 = .ok (.iconst 0, 1) := by decide +kernel
theorem dX4_apart_13 : decode cX4_apart 13 = .ok (.istore_n 2, 1) := by decide +kernel
theorem dX4_apart_14 : decode cX4_apart 14 = .ok (.iload_n 2, 1) := by decide +kernel
theorem dX4_apart_15 : decode cX4_apart 15 = .ok (.iconst 3, 1) := by decide +kernel
theorem dX4_apart_16 : decode cX4_apart 16 = .ok (.if_icmp .ge 45, 3) := by decide +kernel
theorem dX4_apart_19 : decode cX4_apart 19 = .ok (.iload_n 1, 1) := by decide +kernel
theorem dX4_apart_20 : decode cX4_apart 20 = .ok (.ifCond .eq 9, 3) := by decide +kernel
theorem dX4_apart_23 : decode cX4_apart 23 = .ok (.iconst 1, 1) := by decide +kernel
theorem dX4_apart_24 : decode cX4_apart 24 = .ok (.iload_n 2, 1) := by decide +kernel
theorem dX4_apart_25 : decode cX4_apart 25 = .ok (.iadd, 1) := by decide +kernel
theorem dX4_apart_26 : decode cX4_apart 26 = .ok (.goto 6, 3) := by decide +kernel
theorem dX4_apart_29 : decode cX4_apart 29 = .ok (.iconst 3, 1) := by decide +kernel
theorem dX4_apart_30 : decode cX4_apart 30 = .ok (.iload_n 2, 1) := by decide +kernel
theorem dX4_apart_31 : decode cX4_apart 31 = .ok (.isub, 1) := by decide +kernel
theorem dX4_apart_32 : decode cX4_apart 32 = .ok (.istore_n 3, 1) := by decide +kernel
theorem dX4_apart_33 : decode cX4_apart 33 = .ok (.aload_n 0, 1) := by decide +kernel
theorem dX4_apart_34 : decode cX4_apart 34 = .ok (.getfield 39, 3) := by decide +kernel
theorem dX4_apart_37 : decode cX4_apart 37 = .ok (.aload_n 0, 1) := by decide +kernel
theorem dX4_apart_38 : decode cX4_apart 38 = .ok (.getfield 12, 3) := by decide +kernel
theorem dX4_apart_41 : decode cX4_apart 41 = .ok (.aload_n 0, 1) := by decide +kernel
theorem dX4_apart_42 : decode cX4_apart 42 = .ok (.getfield 33, 3) := by decide +kernel
theorem dX4_apart_45 : decode cX4_apart 45 = .ok (.iload_n 3, 1) := by decide +kernel
theorem dX4_apart_46 : decode cX4_apart 46 = .ok (.iload_n 3, 1) := by decide +kernel
theorem dX4_apart_47 : decode cX4_apart 47 = .ok (.invokevirtual 101, 3) := by decide +kernel
theorem dX4_apart_50 : decode cX4_apart 50 = .ok (.ifCond .eq 5, 3) := by decide +kernel
theorem dX4_apart_53 : decode cX4_apart 53 = .ok (.iload_n 3, 1) := by decide +kernel
theorem dX4_apart_54 : decode cX4_apart 54 = .ok (.ireturn, 1) := by decide +kernel
theorem dX4_apart_55 : decode cX4_apart 55 = .ok (.iinc 2 1, 3) := by decide +kernel
theorem dX4_apart_58 : decode cX4_apart 58 = .ok (.goto (-44), 3) := by decide +kernel
theorem dX4_apart_61 : decode cX4_apart 61 = .ok (.new 68, 3) := by decide +kernel
theorem dX4_apart_64 : decode cX4_apart 64 = .ok (.dup, 1) := by decide +kernel
theorem dX4_apart_65 : decode cX4_apart 65 = .ok (.invokespecial 70, 3) := by decide +kernel
theorem dX4_apart_68 : decode cX4_apart 68 = .ok (.athrow, 1) := by decide +kernel
theorem dX4_termFor_0 : decode cX4_termFor 0 = .ok (.aload_n 0, 1) := by decide +kernel
theorem dX4_termFor_1 : decode cX4_termFor 1 = .ok (.getfield 12, 3) := by decide +kernel
theorem dX4_termFor_4 : decode cX4_termFor 4 = .ok (.iload_n 1, 1) := by decide +kernel
theorem dX4_termFor_5 : decode cX4_termFor 5 = .ok (.iload_n 2, 1) := by decide +kernel
theorem dX4_termFor_6 : decode cX4_termFor 6 = .ok (.iload_n 3, 1) := by decide +kernel
theorem dX4_termFor_7 : decode cX4_termFor 7 = .ok (.iload 4, 2) := by decide +kernel
theorem dX4_termFor_9 : decode cX4_termFor 9 = .ok (.invokevirtual 105, 3) := by decide +kernel
theorem dX4_termFor_12 : decode cX4_termFor 12 = .ok (.istore 5, 2) := by decide +kernel
theorem dX4_termFor_14 : decode cX4_termFor 14 = .ok (.iload 5, 2) := by decide +kernel
theorem dX4_termFor_16 : decode cX4_termFor 16 = .ok (.iconst (-1), 1) := by decide +kernel
theorem dX4_termFor_17 : decode cX4_termFor 17 = .ok (.if_icmp .eq 6, 3) := by decide +kernel
theorem dX4_termFor_20 : decode cX4_termFor 20 = .ok (.iload 5, 2) := by decide +kernel
theorem dX4_termFor_22 : decode cX4_termFor 22 = .ok (.ireturn, 1) := by decide +kernel
theorem dX4_termFor_23 : decode cX4_termFor 23 = .ok (.aload_n 0, 1) := by decide +kernel
theorem dX4_termFor_24 : decode cX4_termFor 24 = .ok (.getfield 12, 3) := by decide +kernel
theorem dX4_termFor_27 : decode cX4_termFor 27 = .ok (.getfield 61, 3) := by decide +kernel
theorem dX4_termFor_30 : decode cX4_termFor 30 = .ok (.bipush 24, 2) := by decide +kernel
theorem dX4_termFor_32 : decode cX4_termFor 32 = .ok (.if_icmp .lt 11, 3) := by decide +kernel
theorem dX4_termFor_35 : decode cX4_termFor 35 = .ok (.new 78, 3) := by decide +kernel
theorem dX4_termFor_38 : decode cX4_termFor 38 = .ok (.dup, 1) := by decide +kernel
theorem dX4_termFor_39 : decode cX4_termFor 39 = .ok (.invokespecial 80, 3) := by decide +kernel
theorem dX4_termFor_42 : decode cX4_termFor 42 = .ok (.athrow, 1) := by decide +kernel
theorem dX4_termFor_43 : decode cX4_termFor 43 = .ok (.aload_n 0, 1) := by decide +kernel
theorem dX4_termFor_44 : decode cX4_termFor 44 = .ok (.getfield 12, 3) := by decide +kernel
theorem dX4_termFor_47 : decode cX4_termFor 47 = .ok (.iload_n 1, 1) := by decide +kernel
theorem dX4_termFor_48 : decode cX4_termFor 48 = .ok (.iload_n 2, 1) := by decide +kernel
theorem dX4_termFor_49 : decode cX4_termFor 49 = .ok (.iload_n 3, 1) := by decide +kernel
theorem dX4_termFor_50 : decode cX4_termFor 50 = .ok (.iload 4, 2) := by decide +kernel
theorem dX4_termFor_52 : decode cX4_termFor 52 = .ok (.invokevirtual 108, 3) := by decide +kernel
theorem dX4_termFor_55 : decode cX4_termFor 55 = .ok (.ireturn, 1) := by decide +kernel
theorem dX4_checkPair_0 : decode cX4_checkPair 0 = .ok (.aload_n 0, 1) := by decide +kernel
theorem dX4_checkPair_1 : decode cX4_checkPair 1 = .ok (.getfield 12, 3) := by decide +kernel
theorem dX4_checkPair_4 : decode cX4_checkPair 4 = .ok (.iload_n 1, 1) := by decide +kernel
theorem dX4_checkPair_5 : decode cX4_checkPair 5 = .ok (.invokevirtual 43, 3) := by decide +kernel
theorem dX4_checkPair_8 : decode cX4_checkPair 8 = .ok (.ifCond .eq 14, 3) := by decide +kernel
theorem dX4_checkPair_11 : decode cX4_checkPair 11 = .ok (.aload_n 0, 1) := by decide +kernel
theorem dX4_checkPair_12 : decode cX4_checkPair 12 = .ok (.getfield 12, 3) := by decide +kernel
theorem dX4_checkPair_15 : decode cX4_checkPair 15 = .ok (.iload_n 2, 1) := by decide +kernel
theorem dX4_checkPair_16 : decode cX4_checkPair 16 = .ok (.invokevirtual 43, 3) := by decide +kernel
theorem dX4_checkPair_19 : decode cX4_checkPair 19 = .ok (.ifCond .ne 11, 3) := by decide +kernel
theorem dX4_checkPair_22 : decode cX4_checkPair 22 = .ok (.new 47, 3) := by decide +kernel
theorem dX4_checkPair_25 : decode cX4_checkPair 25 = .ok (.dup, 1) := by decide +kernel
theorem dX4_checkPair_26 : decode cX4_checkPair 26 = .ok (.invokespecial 49, 3) := by decide +kernel
theorem dX4_checkPair_29 : decode cX4_checkPair 29 = .ok (.athrow, 1) := by decide +kernel
theorem dX4_checkPair_30 : decode cX4_checkPair 30 = .ok (.aload_n 0, 1) := by decide +kernel
theorem dX4_checkPair_31 : decode cX4_checkPair 31 = .ok (.getfield 12, 3) := by decide +kernel
theorem dX4_checkPair_34 : decode cX4_checkPair 34 = .ok (.iload_n 1, 1) := by decide +kernel
theorem dX4_checkPair_35 : decode cX4_checkPair 35 = .ok (.invokevirtual 50, 3) := by decide +kernel
theorem dX4_checkPair_38 : decode cX4_checkPair 38 = .ok (.aload_n 0, 1) := by decide +kernel
theorem dX4_checkPair_39 : decode cX4_checkPair 39 = .ok (.getfield 12, 3) := by decide +kernel
theorem dX4_checkPair_42 : decode cX4_checkPair 42 = .ok (.iload_n 2, 1) := by decide +kernel
theorem dX4_checkPair_43 : decode cX4_checkPair 43 = .ok (.invokevirtual 50, 3) := by decide +kernel
theorem dX4_checkPair_46 : decode cX4_checkPair 46 = .ok (.if_icmp .eq 11, 3) := by decide +kernel
theorem dX4_checkPair_49 : decode cX4_checkPair 49 = .ok (.new 54, 3) := by decide +kernel
theorem dX4_checkPair_52 : decode cX4_checkPair 52 = .ok (.dup, 1) := by decide +kernel
theorem dX4_checkPair_53 : decode cX4_checkPair 53 = .ok (.invokespecial 56, 3) := by decide +kernel
theorem dX4_checkPair_56 : decode cX4_checkPair 56 = .ok (.athrow, 1) := by decide +kernel
theorem dX4_checkPair_57 : decode cX4_checkPair 57 = .ok (.return_, 1) := by decide +kernel
theorem dX4_askClaims_0 : decode cX4_askClaims 0 = .ok (.aload_n 0, 1) := by decide +kernel
theorem dX4_askClaims_1 : decode cX4_askClaims 1 = .ok (.getfield 33, 3) := by decide +kernel
theorem dX4_askClaims_4 : decode cX4_askClaims 4 = .ok (.iconst 0, 1) := by decide +kernel
theorem dX4_askClaims_5 : decode cX4_askClaims 5 = .ok (.invokevirtual 85, 3) := by decide +kernel
theorem dX4_askClaims_8 : decode cX4_askClaims 8 = .ok (.iconst 0, 1) := by decide +kernel
theorem dX4_askClaims_9 : decode cX4_askClaims 9 = .ok (.istore_n 3, 1) := by decide +kernel
theorem dX4_askClaims_10 : decode cX4_askClaims 10 = .ok (.iload_n 3, 1) := by decide +kernel
theorem dX4_askClaims_11 : decode cX4_askClaims 11 = .ok (.iload_n 1, 1) := by decide +kernel
theorem dX4_askClaims_12 : decode cX4_askClaims 12 = .ok (.if_icmp .ge 26, 3) := by decide +kernel
theorem dX4_askClaims_15 : decode cX4_askClaims 15 = .ok (.iload_n 3, 1) := by decide +kernel
theorem dX4_askClaims_16 : decode cX4_askClaims 16 = .ok (.iload_n 2, 1) := by decide +kernel
theorem dX4_askClaims_17 : decode cX4_askClaims 17 = .ok (.if_icmp .eq 15, 3) := by decide +kernel
theorem dX4_askClaims_20 : decode cX4_askClaims 20 = .ok (.aload_n 0, 1) := by decide +kernel
theorem dX4_askClaims_21 : decode cX4_askClaims 21 = .ok (.getfield 33, 3) := by decide +kernel
theorem dX4_askClaims_24 : decode cX4_askClaims 24 = .ok (.aload_n 0, 1) := by decide +kernel
theorem dX4_askClaims_25 : decode cX4_askClaims 25 = .ok (.getfield 21, 3) := by decide +kernel
theorem dX4_askClaims_28 : decode cX4_askClaims 28 = .ok (.iload_n 3, 1) := by decide +kernel
theorem dX4_askClaims_29 : decode cX4_askClaims 29 = .ok (.invokevirtual 110, 3) := by decide +kernel
theorem dX4_askClaims_32 : decode cX4_askClaims 32 = .ok (.iinc 3 1, 3) := by decide +kernel
theorem dX4_askClaims_35 : decode cX4_askClaims 35 = .ok (.goto (-25), 3) := by decide +kernel
theorem dX4_askClaims_38 : decode cX4_askClaims 38 = .ok (.return_, 1) := by decide +kernel
theorem dX4_isPossible_0 : decode cX4_isPossible 0 = .ok (.aload_n 0, 1) := by decide +kernel
theorem dX4_isPossible_1 : decode cX4_isPossible 1 = .ok (.getfield 39, 3) := by decide +kernel
theorem dX4_isPossible_4 : decode cX4_isPossible 4 = .ok (.aload_n 0, 1) := by decide +kernel
theorem dX4_isPossible_5 : decode cX4_isPossible 5 = .ok (.getfield 12, 3) := by decide +kernel
theorem dX4_isPossible_8 : decode cX4_isPossible 8 = .ok (.aload_n 0, 1) := by decide +kernel
theorem dX4_isPossible_9 : decode cX4_isPossible 9 = .ok (.getfield 33, 3) := by decide +kernel
theorem dX4_isPossible_12 : decode cX4_isPossible 12 = .ok (.iconst 1, 1) := by decide +kernel
theorem dX4_isPossible_13 : decode cX4_isPossible 13 = .ok (.iconst 3, 1) := by decide +kernel
theorem dX4_isPossible_14 : decode cX4_isPossible 14 = .ok (.invokevirtual 101, 3) := by decide +kernel
theorem dX4_isPossible_17 : decode cX4_isPossible 17 = .ok (.ireturn, 1) := by decide +kernel
theorem dX5_init_0 : decode cX5_init 0 = .ok (.aload_n 0, 1) := by decide +kernel
theorem dX5_init_1 : decode cX5_init 1 = .ok (.invokespecial 1, 3) := by decide +kernel
theorem dX5_init_4 : decode cX5_init 4 = .ok (.aload_n 0, 1) := by decide +kernel
theorem dX5_init_5 : decode cX5_init 5 = .ok (.bipush 7, 2) := by decide +kernel
theorem dX5_init_7 : decode cX5_init 7 = .ok (.putfield 7, 3) := by decide +kernel
theorem dX5_init_10 : decode cX5_init 10 = .ok (.aload_n 0, 1) := by decide +kernel
theorem dX5_init_11 : decode cX5_init 11 = .ok (.bipush 24, 2) := by decide +kernel
theorem dX5_init_13 : decode cX5_init 13 = .ok (.newarray .int, 2) := by decide +kernel
theorem dX5_init_15 : decode cX5_init 15 = .ok (.putfield 13, 3) := by decide +kernel
theorem dX5_init_18 : decode cX5_init 18 = .ok (.aload_n 0, 1) := by decide +kernel
theorem dX5_init_19 : decode cX5_init 19 = .ok (.bipush 24, 2) := by decide +kernel
theorem dX5_init_21 : decode cX5_init 21 = .ok (.newarray .int, 2) := by decide +kernel
theorem dX5_init_23 : decode cX5_init 23 = .ok (.putfield 17, 3) := by decide +kernel
theorem dX5_init_26 : decode cX5_init 26 = .ok (.aload_n 0, 1) := by decide +kernel
theorem dX5_init_27 : decode cX5_init 27 = .ok (.bipush 24, 2) := by decide +kernel
theorem dX5_init_29 : decode cX5_init 29 = .ok (.newarray .int, 2) := by decide +kernel
theorem dX5_init_31 : decode cX5_init 31 = .ok (.putfield 20, 3) := by decide +kernel
theorem dX5_init_34 : decode cX5_init 34 = .ok (.aload_n 0, 1) := by decide +kernel
theorem dX5_init_35 : decode cX5_init 35 = .ok (.bipush 24, 2) := by decide +kernel
theorem dX5_init_37 : decode cX5_init 37 = .ok (.newarray .int, 2) := by decide +kernel
theorem dX5_init_39 : decode cX5_init 39 = .ok (.putfield 23, 3) := by decide +kernel
theorem dX5_init_42 : decode cX5_init 42 = .ok (.aload_n 0, 1) := by decide +kernel
theorem dX5_init_43 : decode cX5_init 43 = .ok (.bipush 24, 2) := by decide +kernel
theorem dX5_init_45 : decode cX5_init 45 = .ok (.newarray .int, 2) := by decide +kernel
theorem dX5_init_47 : decode cX5_init 47 = .ok (.putfield 26, 3) := by decide +kernel
theorem dX5_init_50 : decode cX5_init 50 = .ok (.aload_n 0, 1) := by decide +kernel
theorem dX5_init_51 : decode cX5_init 51 = .ok (.bipush 15, 2) := by decide +kernel
theorem dX5_init_53 : decode cX5_init 53 = .ok (.newarray .int, 2) := by decide +kernel
theorem dX5_init_55 : decode cX5_init 55 = .ok (.dup, 1) := by decide +kernel
theorem dX5_init_56 : decode cX5_init 56 = .ok (.iconst 0, 1) := by decide +kernel
theorem dX5_init_57 : decode cX5_init 57 = .ok (.iconst 0, 1) := by decide +kernel
theorem dX5_init_58 : decode cX5_init 58 = .ok (.iastore, 1) := by decide +kernel
theorem dX5_init_59 : decode cX5_init 59 = .ok (.dup, 1) := by decide +kernel
theorem dX5_init_60 : decode cX5_init 60 = .ok (.iconst 1, 1) := by decide +kernel
theorem dX5_init_61 : decode cX5_init 61 = .ok (.iconst 0, 1) := by decide +kernel
theorem dX5_init_62 : decode cX5_init 62 = .ok (.iastore, 1) := by decide +kernel
theorem dX5_init_63 : decode cX5_init 63 = .ok (.dup, 1) := by decide +kernel
theorem dX5_init_64 : decode cX5_init 64 = .ok (.iconst 2, 1) := by decide +kernel
theorem dX5_init_65 : decode cX5_init 65 = .ok (.iconst 0, 1) := by decide +kernel
theorem dX5_init_66 : decode cX5_init 66 = .ok (.iastore, 1) := by decide +kernel
theorem dX5_init_67 : decode cX5_init 67 = .ok (.dup, 1) := by decide +kernel
theorem dX5_init_68 : decode cX5_init 68 = .ok (.iconst 3, 1) := by decide +kernel
theorem dX5_init_69 : decode cX5_init 69 = .ok (.iconst 0, 1) := by decide +kernel
theorem dX5_init_70 : decode cX5_init 70 = .ok (.iastore, 1) := by decide +kernel
theorem dX5_init_71 : decode cX5_init 71 = .ok (.dup, 1) := by decide +kernel
theorem dX5_init_72 : decode cX5_init 72 = .ok (.iconst 4, 1) := by decide +kernel
theorem dX5_init_73 : decode cX5_init 73 = .ok (.iconst 0, 1) := by decide +kernel
theorem dX5_init_74 : decode cX5_init 74 = .ok (.iastore, 1) := by decide +kernel
theorem dX5_init_75 : decode cX5_init 75 = .ok (.dup, 1) := by decide +kernel
theorem dX5_init_76 : decode cX5_init 76 = .ok (.iconst 5, 1) := by decide +kernel
theorem dX5_init_77 : decode cX5_init 77 = .ok (.iconst 1, 1) := by decide +kernel
theorem dX5_init_78 : decode cX5_init 78 = .ok (.iastore, 1) := by decide +kernel
theorem dX5_init_79 : decode cX5_init 79 = .ok (.dup, 1) := by decide +kernel
theorem dX5_init_80 : decode cX5_init 80 = .ok (.bipush 6, 2) := by decide +kernel
theorem dX5_init_82 : decode cX5_init 82 = .ok (.iconst 0, 1) := by decide +kernel
theorem dX5_init_83 : decode cX5_init 83 = .ok (.iastore, 1) := by decide +kernel
theorem dX5_init_84 : decode cX5_init 84 = .ok (.dup, 1) := by decide +kernel
theorem dX5_init_85 : decode cX5_init 85 = .ok (.bipush 7, 2) := by decide +kernel
theorem dX5_init_87 : decode cX5_init 87 = .ok (.iconst 1, 1) := by decide +kernel
theorem dX5_init_88 : decode cX5_init 88 = .ok (.iastore, 1) := by decide +kernel
theorem dX5_init_89 : decode cX5_init 89 = .ok (.dup, 1) := by decide +kernel
theorem dX5_init_90 : decode cX5_init 90 = .ok (.bipush 8, 2) := by decide +kernel
theorem dX5_init_92 : decode cX5_init 92 = .ok (.iconst 0, 1) := by decide +kernel
theorem dX5_init_93 : decode cX5_init 93 = .ok (.iastore, 1) := by decide +kernel
theorem dX5_init_94 : decode cX5_init 94 = .ok (.dup, 1) := by decide +kernel
theorem dX5_init_95 : decode cX5_init 95 = .ok (.bipush 9, 2) := by decide +kernel
theorem dX5_init_97 : decode cX5_init 97 = .ok (.iconst 0, 1) := by decide +kernel
theorem dX5_init_98 : decode cX5_init 98 = .ok (.iastore, 1) := by decide +kernel
theorem dX5_init_99 : decode cX5_init 99 = .ok (.dup, 1) := by decide +kernel
theorem dX5_init_100 : decode cX5_init 100 = .ok (.bipush 10, 2) := by decide +kernel
theorem dX5_init_102 : decode cX5_init 102 = .ok (.iconst 1, 1) := by decide +kernel
theorem dX5_init_103 : decode cX5_init 103 = .ok (.iastore, 1) := by decide +kernel
theorem dX5_init_104 : decode cX5_init 104 = .ok (.dup, 1) := by decide +kernel
theorem dX5_init_105 : decode cX5_init 105 = .ok (.bipush 11, 2) := by decide +kernel
theorem dX5_init_107 : decode cX5_init 107 = .ok (.iconst 1, 1) := by decide +kernel
theorem dX5_init_108 : decode cX5_init 108 = .ok (.iastore, 1) := by decide +kernel
theorem dX5_init_109 : decode cX5_init 109 = .ok (.dup, 1) := by decide +kernel
theorem dX5_init_110 : decode cX5_init 110 = .ok (.bipush 12, 2) := by decide +kernel
theorem dX5_init_112 : decode cX5_init 112 = .ok (.iconst 0, 1) := by decide +kernel
theorem dX5_init_113 : decode cX5_init 113 = .ok (.iastore, 1) := by decide +kernel
theorem dX5_init_114 : decode cX5_init 114 = .ok (.dup, 1) := by decide +kernel
theorem dX5_init_115 : decode cX5_init 115 = .ok (.bipush 13, 2) := by decide +kernel
theorem dX5_init_117 : decode cX5_init 117 = .ok (.iconst 1, 1) := by decide +kernel
theorem dX5_init_118 : decode cX5_init 118 = .ok (.iastore, 1) := by decide +kernel
theorem dX5_init_119 : decode cX5_init 119 = .ok (.dup, 1) := by decide +kernel
theorem dX5_init_120 : decode cX5_init 120 = .ok (.bipush 14, 2) := by decide +kernel
theorem dX5_init_122 : decode cX5_init 122 = .ok (.iconst 2, 1) := by decide +kernel
theorem dX5_init_123 : decode cX5_init 123 = .ok (.iastore, 1) := by decide +kernel
theorem dX5_init_124 : decode cX5_init 124 = .ok (.putfield 29, 3) := by decide +kernel
theorem dX5_init_127 : decode cX5_init 127 = .ok (.aload_n 0, 1) := by decide +kernel
theorem dX5_init_128 : decode cX5_init 128 = .ok (.iconst 5, 1) := by decide +kernel
theorem dX5_init_129 : decode cX5_init 129 = .ok (.newarray .int, 2) := by decide +kernel
theorem dX5_init_131 : decode cX5_init 131 = .ok (.dup, 1) := by decide +kernel
theorem dX5_init_132 : decode cX5_init 132 = .ok (.iconst 0, 1) := by decide +kernel
theorem dX5_init_133 : decode cX5_init 133 = .ok (.iconst 1, 1) := by decide +kernel
theorem dX5_init_134 : decode cX5_init 134 = .ok (.iastore, 1) := by decide +kernel
theorem dX5_init_135 : decode cX5_init 135 = .ok (.dup, 1) := by decide +kernel
theorem dX5_init_136 : decode cX5_init 136 = .ok (.iconst 1, 1) := by decide +kernel
theorem dX5_init_137 : decode cX5_init 137 = .ok (.iconst 2, 1) := by decide +kernel
theorem dX5_init_138 : decode cX5_init 138 = .ok (.iastore, 1) := by decide +kernel
theorem dX5_init_139 : decode cX5_init 139 = .ok (.dup, 1) := by decide +kernel
theorem dX5_init_140 : decode cX5_init 140 = .ok (.iconst 2, 1) := by decide +kernel
theorem dX5_init_141 : decode cX5_init 141 = .ok (.iconst 2, 1) := by decide +kernel
theorem dX5_init_142 : decode cX5_init 142 = .ok (.iastore, 1) := by decide +kernel
theorem dX5_init_143 : decode cX5_init 143 = .ok (.dup, 1) := by decide +kernel
theorem dX5_init_144 : decode cX5_init 144 = .ok (.iconst 3, 1) := by decide +kernel
theorem dX5_init_145 : decode cX5_init 145 = .ok (.iconst 2, 1) := by decide +kernel
theorem dX5_init_146 : decode cX5_init 146 = .ok (.iastore, 1) := by decide +kernel
theorem dX5_init_147 : decode cX5_init 147 = .ok (.dup, 1) := by decide +kernel
theorem dX5_init_148 : decode cX5_init 148 = .ok (.iconst 4, 1) := by decide +kernel
theorem dX5_init_149 : decode cX5_init 149 = .ok (.iconst 3, 1) := by decide +kernel
theorem dX5_init_150 : decode cX5_init 150 = .ok (.iastore, 1) := by decide +kernel
theorem dX5_init_151 : decode cX5_init 151 = .ok (.putfield 32, 3) := by decide +kernel
theorem dX5_init_154 : decode cX5_init 154 = .ok (.aload_n 0, 1) := by decide +kernel
theorem dX5_init_155 : decode cX5_init 155 = .ok (.bipush 120, 2) := by decide +kernel
theorem dX5_init_157 : decode cX5_init 157 = .ok (.newarray .int, 2) := by decide +kernel
theorem dX5_init_159 : decode cX5_init 159 = .ok (.putfield 35, 3) := by decide +kernel
theorem dX5_init_162 : decode cX5_init 162 = .ok (.aload_n 0, 1) := by decide +kernel
theorem dX5_init_163 : decode cX5_init 163 = .ok (.sipush 4358, 3) := by decide +kernel
theorem dX5_init_166 : decode cX5_init 166 = .ok (.newarray .int, 2) := by decide +kernel
theorem dX5_init_168 : decode cX5_init 168 = .ok (.putfield 38, 3) := by decide +kernel
theorem dX5_init_171 : decode cX5_init 171 = .ok (.aload_n 0, 1) := by decide +kernel
theorem dX5_init_172 : decode cX5_init 172 = .ok (.iconst 3, 1) := by decide +kernel
theorem dX5_init_173 : decode cX5_init 173 = .ok (.newarray .int, 2) := by decide +kernel
theorem dX5_init_175 : decode cX5_init 175 = .ok (.dup, 1) := by decide +kernel
theorem dX5_init_176 : decode cX5_init 176 = .ok (.iconst 0, 1) := by decide +kernel
theorem dX5_init_177 : decode cX5_init 177 = .ok (.iconst 0, 1) := by decide +kernel
theorem dX5_init_178 : decode cX5_init 178 = .ok (.iastore, 1) := by decide +kernel
theorem dX5_init_179 : decode cX5_init 179 = .ok (.dup, 1) := by decide +kernel
theorem dX5_init_180 : decode cX5_init 180 = .ok (.iconst 1, 1) := by decide +kernel
theorem dX5_init_181 : decode cX5_init 181 = .ok (.bipush 15, 2) := by decide +kernel
theorem dX5_init_183 : decode cX5_init 183 = .ok (.iastore, 1) := by decide +kernel
theorem dX5_init_184 : decode cX5_init 184 = .ok (.dup, 1) := by decide +kernel
theorem dX5_init_185 : decode cX5_init 185 = .ok (.iconst 2, 1) := by decide +kernel
theorem dX5_init_186 : decode cX5_init 186 = .ok (.sipush 218, 3) := by decide +kernel
theorem dX5_init_189 : decode cX5_init 189 = .ok (.iastore, 1) := by decide +kernel
theorem dX5_init_190 : decode cX5_init 190 = .ok (.putfield 41, 3) := by decide +kernel
theorem dX5_init_193 : decode cX5_init 193 = .ok (.aload_n 0, 1) := by decide +kernel
theorem dX5_init_194 : decode cX5_init 194 = .ok (.iconst 3, 1) := by decide +kernel
theorem dX5_init_195 : decode cX5_init 195 = .ok (.newarray .int, 2) := by decide +kernel
theorem dX5_init_197 : decode cX5_init 197 = .ok (.dup, 1) := by decide +kernel
theorem dX5_init_198 : decode cX5_init 198 = .ok (.iconst 0, 1) := by decide +kernel
theorem dX5_init_199 : decode cX5_init 199 = .ok (.bipush 15, 2) := by decide +kernel
theorem dX5_init_201 : decode cX5_init 201 = .ok (.iastore, 1) := by decide +kernel
theorem dX5_init_202 : decode cX5_init 202 = .ok (.dup, 1) := by decide +kernel
theorem dX5_init_203 : decode cX5_init 203 = .ok (.iconst 1, 1) := by decide +kernel
theorem dX5_init_204 : decode cX5_init 204 = .ok (.sipush 203, 3) := by decide +kernel
theorem dX5_init_207 : decode cX5_init 207 = .ok (.iastore, 1) := by decide +kernel
theorem dX5_init_208 : decode cX5_init 208 = .ok (.dup, 1) := by decide +kernel
theorem dX5_init_209 : decode cX5_init 209 = .ok (.iconst 2, 1) := by decide +kernel
theorem dX5_init_210 : decode cX5_init 210 = .ok (.sipush 4140, 3) := by decide +kernel
theorem dX5_init_213 : decode cX5_init 213 = .ok (.iastore, 1) := by decide +kernel
theorem dX5_init_214 : decode cX5_init 214 = .ok (.putfield 44, 3) := by decide +kernel
theorem dX5_init_217 : decode cX5_init 217 = .ok (.aload_n 0, 1) := by decide +kernel
theorem dX5_init_218 : decode cX5_init 218 = .ok (.sipush 9528, 3) := by decide +kernel
theorem dX5_init_221 : decode cX5_init 221 = .ok (.newarray .int, 2) := by decide +kernel
theorem dX5_init_223 : decode cX5_init 223 = .ok (.putfield 47, 3) := by decide +kernel
theorem dX5_init_226 : decode cX5_init 226 = .ok (.aload_n 0, 1) := by decide +kernel
theorem dX5_init_227 : decode cX5_init 227 = .ok (.bipush 6, 2) := by decide +kernel
theorem dX5_init_229 : decode cX5_init 229 = .ok (.newarray .int, 2) := by decide +kernel
theorem dX5_init_231 : decode cX5_init 231 = .ok (.dup, 1) := by decide +kernel
theorem dX5_init_232 : decode cX5_init 232 = .ok (.iconst 0, 1) := by decide +kernel
theorem dX5_init_233 : decode cX5_init 233 = .ok (.iconst 0, 1) := by decide +kernel
theorem dX5_init_234 : decode cX5_init 234 = .ok (.iastore, 1) := by decide +kernel
theorem dX5_init_235 : decode cX5_init 235 = .ok (.dup, 1) := by decide +kernel
theorem dX5_init_236 : decode cX5_init 236 = .ok (.iconst 1, 1) := by decide +kernel
theorem dX5_init_237 : decode cX5_init 237 = .ok (.bipush 30, 2) := by decide +kernel
theorem dX5_init_239 : decode cX5_init 239 = .ok (.iastore, 1) := by decide +kernel
theorem dX5_init_240 : decode cX5_init 240 = .ok (.dup, 1) := by decide +kernel
theorem dX5_init_241 : decode cX5_init 241 = .ok (.iconst 2, 1) := by decide +kernel
theorem dX5_init_242 : decode cX5_init 242 = .ok (.sipush 436, 3) := by decide +kernel
theorem dX5_init_245 : decode cX5_init 245 = .ok (.iastore, 1) := by decide +kernel
theorem dX5_init_246 : decode cX5_init 246 = .ok (.dup, 1) := by decide +kernel
theorem dX5_init_247 : decode cX5_init 247 = .ok (.iconst 3, 1) := by decide +kernel
theorem dX5_init_248 : decode cX5_init 248 = .ok (.sipush 842, 3) := by decide +kernel
theorem dX5_init_251 : decode cX5_init 251 = .ok (.iastore, 1) := by decide +kernel
theorem dX5_init_252 : decode cX5_init 252 = .ok (.dup, 1) := by decide +kernel
theorem dX5_init_253 : decode cX5_init 253 = .ok (.iconst 4, 1) := by decide +kernel
theorem dX5_init_254 : decode cX5_init 254 = .ok (.sipush 1248, 3) := by decide +kernel
theorem dX5_init_257 : decode cX5_init 257 = .ok (.iastore, 1) := by decide +kernel
theorem dX5_init_258 : decode cX5_init 258 = .ok (.dup, 1) := by decide +kernel
theorem dX5_init_259 : decode cX5_init 259 = .ok (.iconst 5, 1) := by decide +kernel
theorem dX5_init_260 : decode cX5_init 260 = .ok (.sipush 9528, 3) := by decide +kernel
theorem dX5_init_263 : decode cX5_init 263 = .ok (.iastore, 1) := by decide +kernel
theorem dX5_init_264 : decode cX5_init 264 = .ok (.putfield 50, 3) := by decide +kernel
theorem dX5_init_267 : decode cX5_init 267 = .ok (.aload_n 0, 1) := by decide +kernel
theorem dX5_init_268 : decode cX5_init 268 = .ok (.iconst 3, 1) := by decide +kernel
theorem dX5_init_269 : decode cX5_init 269 = .ok (.newarray .int, 2) := by decide +kernel
theorem dX5_init_271 : decode cX5_init 271 = .ok (.putfield 53, 3) := by decide +kernel
theorem dX5_init_274 : decode cX5_init 274 = .ok (.aload_n 0, 1) := by decide +kernel
theorem dX5_init_275 : decode cX5_init 275 = .ok (.iconst 3, 1) := by decide +kernel
theorem dX5_init_276 : decode cX5_init 276 = .ok (.newarray .int, 2) := by decide +kernel
theorem dX5_init_278 : decode cX5_init 278 = .ok (.putfield 56, 3) := by decide +kernel
theorem dX5_init_281 : decode cX5_init 281 = .ok (.aload_n 0, 1) := by decide +kernel
theorem dX5_init_282 : decode cX5_init 282 = .ok (.iconst 3, 1) := by decide +kernel
theorem dX5_init_283 : decode cX5_init 283 = .ok (.newarray .boolean, 2) := by decide +kernel
theorem dX5_init_285 : decode cX5_init 285 = .ok (.putfield 59, 3) := by decide +kernel
theorem dX5_init_288 : decode cX5_init 288 = .ok (.iconst 0, 1) := by decide +kernel
theorem dX5_init_289 : decode cX5_init 289 = .ok (.istore_n 1, 1) := by decide +kernel
theorem dX5_init_290 : decode cX5_init 290 = .ok (.iload_n 1, 1) := by decide +kernel
theorem dX5_init_291 : decode cX5_init 291 = .ok (.iconst 3, 1) := by decide +kernel
theorem dX5_init_292 : decode cX5_init 292 = .ok (.if_icmp .ge 30, 3) := by decide +kernel
theorem dX5_init_295 : decode cX5_init 295 = .ok (.aload_n 0, 1) := by decide +kernel
theorem dX5_init_296 : decode cX5_init 296 = .ok (.iconst 2, 1) := by decide +kernel
theorem dX5_init_297 : decode cX5_init 297 = .ok (.iload_n 1, 1) := by decide +kernel
theorem dX5_init_298 : decode cX5_init 298 = .ok (.imul, 1) := by decide +kernel
theorem dX5_init_299 : decode cX5_init 299 = .ok (.iconst 4, 1) := by decide +kernel
theorem dX5_init_300 : decode cX5_init 300 = .ok (.iadd, 1) := by decide +kernel
theorem dX5_init_301 : decode cX5_init 301 = .ok (.aload_n 0, 1) := by decide +kernel
theorem dX5_init_302 : decode cX5_init 302 = .ok (.getfield 41, 3) := by decide +kernel
theorem dX5_init_305 : decode cX5_init 305 = .ok (.iload_n 1, 1) := by decide +kernel
theorem dX5_init_306 : decode cX5_init 306 = .ok (.iaload, 1) := by decide +kernel
theorem dX5_init_307 : decode cX5_init 307 = .ok (.aload_n 0, 1) := by decide +kernel
theorem dX5_init_308 : decode cX5_init 308 = .ok (.getfield 44, 3) := by decide +kernel
theorem dX5_init_311 : decode cX5_init 311 = .ok (.iload_n 1, 1) := by decide +kernel
theorem dX5_init_312 : decode cX5_init 312 = .ok (.iaload, 1) := by decide +kernel
theorem dX5_init_313 : decode cX5_init 313 = .ok (.invokevirtual 63, 3) := by decide +kernel
theorem dX5_init_316 : decode cX5_init 316 = .ok (.iinc 1 1, 3) := by decide +kernel
theorem dX5_init_319 : decode cX5_init 319 = .ok (.goto (-29), 3) := by decide +kernel
theorem dX5_init_322 : decode cX5_init 322 = .ok (.iconst 0, 1) := by decide +kernel
theorem dX5_init_323 : decode cX5_init 323 = .ok (.istore_n 1, 1) := by decide +kernel
theorem dX5_init_324 : decode cX5_init 324 = .ok (.iload_n 1, 1) := by decide +kernel
theorem dX5_init_325 : decode cX5_init 325 = .ok (.bipush 7, 2) := by decide +kernel
theorem dX5_init_327 : decode cX5_init 327 = .ok (.if_icmp .ge 126, 3) := by decide +kernel
theorem dX5_init_330 : decode cX5_init 330 = .ok (.aload_n 0, 1) := by decide +kernel
theorem dX5_init_331 : decode cX5_init 331 = .ok (.getfield 13, 3) := by decide +kernel
theorem dX5_init_334 : decode cX5_init 334 = .ok (.iload_n 1, 1) := by decide +kernel
theorem dX5_init_335 : decode cX5_init 335 = .ok (.iload_n 1, 1) := by decide +kernel
theorem dX5_init_336 : decode cX5_init 336 = .ok (.iconst 3, 1) := by decide +kernel
theorem dX5_init_337 : decode cX5_init 337 = .ok (.if_icmp .ge 7, 3) := by decide +kernel
theorem dX5_init_340 : decode cX5_init 340 = .ok (.iconst 0, 1) := by decide +kernel
theorem dX5_init_341 : decode cX5_init 341 = .ok (.goto 13, 3) := by decide +kernel
theorem dX5_init_344 : decode cX5_init 344 = .ok (.iload_n 1, 1) := by decide +kernel
theorem dX5_init_345 : decode cX5_init 345 = .ok (.iconst 5, 1) := by decide +kernel
theorem dX5_init_346 : decode cX5_init 346 = .ok (.if_icmp .ge 7, 3) := by decide +kernel
theorem dX5_init_349 : decode cX5_init 349 = .ok (.iconst 1, 1) := by decide +kernel
theorem dX5_init_350 : decode cX5_init 350 = .ok (.goto 4, 3) := by decide +kernel
theorem dX5_init_353 : decode cX5_init 353 = .ok (.iconst 2, 1) := by decide +kernel
theorem dX5_init_354 : decode cX5_init 354 = .ok (.iastore, 1) := by decide +kernel
theorem dX5_init_355 : decode cX5_init 355 = .ok (.iconst 0, 1) := by decide +kernel
theorem dX5_init_356 : decode cX5_init 356 = .ok (.istore_n 2, 1) := by decide +kernel
theorem dX5_init_357 : decode cX5_init 357 = .ok (.iload_n 2, 1) := by decide +kernel
theorem dX5_init_358 : decode cX5_init 358 = .ok (.iconst 5, 1) := by decide +kernel
theorem dX5_init_359 : decode cX5_init 359 = .ok (.if_icmp .ge 88, 3) := by decide +kernel
theorem dX5_init_362 : decode cX5_init 362 = .ok (.aload_n 0, 1) := by decide +kernel
theorem dX5_init_363 : decode cX5_init 363 = .ok (.getfield 32, 3) := by decide +kernel
theorem dX5_init_366 : decode cX5_init 366 = .ok (.iload_n 2, 1) := by decide +kernel
theorem dX5_init_367 : decode cX5_init 367 = .ok (.iaload, 1) := by decide +kernel
theorem dX5_init_368 : decode cX5_init 368 = .ok (.istore_n 3, 1) := by decide +kernel
theorem dX5_init_369 : decode cX5_init 369 = .ok (.iconst 2, 1) := by decide +kernel
theorem dX5_init_370 : decode cX5_init 370 = .ok (.iload_n 1, 1) := by decide +kernel
theorem dX5_init_371 : decode cX5_init 371 = .ok (.iconst 5, 1) := by decide +kernel
theorem dX5_init_372 : decode cX5_init 372 = .ok (.isub, 1) := by decide +kernel
theorem dX5_init_373 : decode cX5_init 373 = .ok (.iload_n 3, 1) := by decide +kernel
theorem dX5_init_374 : decode cX5_init 374 = .ok (.imul, 1) := by decide +kernel
theorem dX5_init_375 : decode cX5_init 375 = .ok (.iadd, 1) := by decide +kernel
theorem dX5_init_376 : decode cX5_init 376 = .ok (.istore 4, 2) := by decide +kernel
theorem dX5_init_378 : decode cX5_init 378 = .ok (.aload_n 0, 1) := by decide +kernel
theorem dX5_init_379 : decode cX5_init 379 = .ok (.getfield 35, 3) := by decide +kernel
theorem dX5_init_382 : decode cX5_init 382 = .ok (.bipush 24, 2) := by decide +kernel
theorem dX5_init_384 : decode cX5_init 384 = .ok (.iload_n 2, 1) := by decide +kernel
theorem dX5_init_385 : decode cX5_init 385 = .ok (.imul, 1) := by decide +kernel
theorem dX5_init_386 : decode cX5_init 386 = .ok (.iload_n 1, 1) := by decide +kernel
theorem dX5_init_387 : decode cX5_init 387 = .ok (.iadd, 1) := by decide +kernel
theorem dX5_init_388 : decode cX5_init 388 = .ok (.iload_n 1, 1) := by decide +kernel
theorem dX5_init_389 : decode cX5_init 389 = .ok (.iconst 3, 1) := by decide +kernel
theorem dX5_init_390 : decode cX5_init 390 = .ok (.if_icmp .ge 16, 3) := by decide +kernel
theorem dX5_init_393 : decode cX5_init 393 = .ok (.aload_n 0, 1) := by decide +kernel
theorem dX5_init_394 : decode cX5_init 394 = .ok (.getfield 29, 3) := by decide +kernel
theorem dX5_init_397 : decode cX5_init 397 = .ok (.iconst 3, 1) := by decide +kernel
theorem dX5_init_398 : decode cX5_init 398 = .ok (.iload_n 2, 1) := by decide +kernel
theorem dX5_init_399 : decode cX5_init 399 = .ok (.imul, 1) := by decide +kernel
theorem dX5_init_400 : decode cX5_init 400 = .ok (.iload_n 1, 1) := by decide +kernel
theorem dX5_init_401 : decode cX5_init 401 = .ok (.iadd, 1) := by decide +kernel
theorem dX5_init_402 : decode cX5_init 402 = .ok (.iaload, 1) := by decide +kernel
theorem dX5_init_403 : decode cX5_init 403 = .ok (.goto 37, 3) := by decide +kernel
theorem dX5_init_406 : decode cX5_init 406 = .ok (.iload_n 1, 1) := by decide +kernel
theorem dX5_init_407 : decode cX5_init 407 = .ok (.iconst 5, 1) := by decide +kernel
theorem dX5_init_408 : decode cX5_init 408 = .ok (.if_icmp .ge 9, 3) := by decide +kernel
theorem dX5_init_411 : decode cX5_init 411 = .ok (.iload_n 1, 1) := by decide +kernel
theorem dX5_init_412 : decode cX5_init 412 = .ok (.iconst 3, 1) := by decide +kernel
theorem dX5_init_413 : decode cX5_init 413 = .ok (.isub, 1) := by decide +kernel
theorem dX5_init_414 : decode cX5_init 414 = .ok (.goto 26, 3) := by decide +kernel
theorem dX5_init_417 : decode cX5_init 417 = .ok (.iload_n 1, 1) := by decide +kernel
theorem dX5_init_418 : decode cX5_init 418 = .ok (.iconst 5, 1) := by decide +kernel
theorem dX5_init_419 : decode cX5_init 419 = .ok (.isub, 1) := by decide +kernel
theorem dX5_init_420 : decode cX5_init 420 = .ok (.iload 4, 2) := by decide +kernel
theorem dX5_init_422 : decode cX5_init 422 = .ok (.iconst 1, 1) := by decide +kernel
theorem dX5_init_423 : decode cX5_init 423 = .ok (.ishl, 1) := by decide +kernel
theorem dX5_init_424 : decode cX5_init 424 = .ok (.ior, 1) := by decide +kernel
theorem dX5_init_425 : decode cX5_init 425 = .ok (.iload 4, 2) := by decide +kernel
theorem dX5_init_427 : decode cX5_init 427 = .ok (.iconst 1, 1) := by decide +kernel
theorem dX5_init_428 : decode cX5_init 428 = .ok (.iadd, 1) := by decide +kernel
theorem dX5_init_429 : decode cX5_init 429 = .ok (.iconst 4, 1) := by decide +kernel
theorem dX5_init_430 : decode cX5_init 430 = .ok (.ishl, 1) := by decide +kernel
theorem dX5_init_431 : decode cX5_init 431 = .ok (.ior, 1) := by decide +kernel
theorem dX5_init_432 : decode cX5_init 432 = .ok (.iload 4, 2) := by decide +kernel
theorem dX5_init_434 : decode cX5_init 434 = .ok (.iconst 2, 1) := by decide +kernel
theorem dX5_init_435 : decode cX5_init 435 = .ok (.iadd, 1) := by decide +kernel
theorem dX5_init_436 : decode cX5_init 436 = .ok (.bipush 7, 2) := by decide +kernel
theorem dX5_init_438 : decode cX5_init 438 = .ok (.ishl, 1) := by decide +kernel
theorem dX5_init_439 : decode cX5_init 439 = .ok (.ior, 1) := by decide +kernel
theorem dX5_init_440 : decode cX5_init 440 = .ok (.iastore, 1) := by decide +kernel
theorem dX5_init_441 : decode cX5_init 441 = .ok (.iinc 2 1, 3) := by decide +kernel
theorem dX5_init_444 : decode cX5_init 444 = .ok (.goto (-87), 3) := by decide +kernel
theorem dX5_init_447 : decode cX5_init 447 = .ok (.iinc 1 1, 3) := by decide +kernel
theorem dX5_init_450 : decode cX5_init 450 = .ok (.goto (-126), 3) := by decide +kernel
theorem dX5_init_453 : decode cX5_init 453 = .ok (.return_, 1) := by decide +kernel
theorem dX5_thrown_0 : decode cX5_thrown 0 = .ok (.aload_n 0, 1) := by decide +kernel
theorem dX5_thrown_1 : decode cX5_thrown 1 = .ok (.getfield 67, 3) := by decide +kernel
theorem dX5_thrown_4 : decode cX5_thrown 4 = .ok (.ireturn, 1) := by decide +kernel
theorem dX5_fail_0 : decode cX5_fail 0 = .ok (.aload_n 0, 1) := by decide +kernel
theorem dX5_fail_1 : decode cX5_fail 1 = .ok (.iload_n 1, 1) := by decide +kernel
theorem dX5_fail_2 : decode cX5_fail 2 = .ok (.putfield 67, 3) := by decide +kernel
theorem dX5_fail_5 : decode cX5_fail 5 = .ok (.iconst 0, 1) := by decide +kernel
theorem dX5_fail_6 : decode cX5_fail 6 = .ok (.ireturn, 1) := by decide +kernel
theorem dX5_findWays_0 : decode cX5_findWays 0 = .ok (.iconst 0, 1) := by decide +kernel
theorem dX5_findWays_1 : decode cX5_findWays 1 = .ok (.istore 4, 2) := by decide +kernel
theorem dX5_findWays_3 : decode cX5_findWays 3 = .ok (.iconst 0, 1) := by decide +kernel
theorem dX5_findWays_4 : decode cX5_findWays 4 = .ok (.istore 5, 2) := by decide +kernel
theorem dX5_findWays_6 : decode cX5_findWays 6 = .ok (.iload 5, 2) := by decide +kernel
theorem dX5_findWays_8 : decode cX5_findWays 8 = .ok (.iload_n 3, 1) := by decide +kernel
theorem dX5_findWays_9 : decode cX5_findWays 9 = .ok (.if_icmp .ge 28, 3) := by decide +kernel
theorem dX5_findWays_12 : decode cX5_findWays 12 = .ok (.aload_n 0, 1) := by decide +kernel
theorem dX5_findWays_13 : decode cX5_findWays 13 = .ok (.getfield 38, 3) := by decide +kernel
theorem dX5_findWays_16 : decode cX5_findWays 16 = .ok (.iload_n 2, 1) := by decide +kernel
theorem dX5_findWays_17 : decode cX5_findWays 17 = .ok (.iload 5, 2) := by decide +kernel
theorem dX5_findWays_19 : decode cX5_findWays 19 = .ok (.iadd, 1) := by decide +kernel
theorem dX5_findWays_20 : decode cX5_findWays 20 = .ok (.iload 4, 2) := by decide +kernel
theorem dX5_findWays_22 : decode cX5_findWays 22 = .ok (.iastore, 1) := by decide +kernel
theorem dX5_findWays_23 : decode cX5_findWays 23 = .ok (.iload 4, 2) := by decide +kernel
theorem dX5_findWays_25 : decode cX5_findWays 25 = .ok (.iload_n 1, 1) := by decide +kernel
theorem dX5_findWays_26 : decode cX5_findWays 26 = .ok (.invokestatic 70, 3) := by decide +kernel
theorem dX5_findWays_29 : decode cX5_findWays 29 = .ok (.istore 4, 2) := by decide +kernel
theorem dX5_findWays_31 : decode cX5_findWays 31 = .ok (.iinc 5 1, 3) := by decide +kernel
theorem dX5_findWays_34 : decode cX5_findWays 34 = .ok (.goto (-28), 3) := by decide +kernel
theorem dX5_findWays_37 : decode cX5_findWays 37 = .ok (.return_, 1) := by decide +kernel
theorem dX5_label_0 : decode cX5_label 0 = .ok (.iload_n 0, 1) := by decide +kernel
theorem dX5_label_1 : decode cX5_label 1 = .ok (.iconst 3, 1) := by decide +kernel
theorem dX5_label_2 : decode cX5_label 2 = .ok (.iload_n 1, 1) := by decide +kernel
theorem dX5_label_3 : decode cX5_label 3 = .ok (.imul, 1) := by decide +kernel
theorem dX5_label_4 : decode cX5_label 4 = .ok (.ishr, 1) := by decide +kernel
theorem dX5_label_5 : decode cX5_label 5 = .ok (.bipush 7, 2) := by decide +kernel
theorem dX5_label_7 : decode cX5_label 7 = .ok (.iand, 1) := by decide +kernel
theorem dX5_label_8 : decode cX5_label 8 = .ok (.ireturn, 1) := by decide +kernel
theorem dX5_greatest_0 : decode cX5_greatest 0 = .ok (.iconst (-1), 1) := by decide +kernel
theorem dX5_greatest_1 : decode cX5_greatest 1 = .ok (.istore_n 2, 1) := by decide +kernel
theorem dX5_greatest_2 : decode cX5_greatest 2 = .ok (.iconst 0, 1) := by decide +kernel
theorem dX5_greatest_3 : decode cX5_greatest 3 = .ok (.istore_n 3, 1) := by decide +kernel
theorem dX5_greatest_4 : decode cX5_greatest 4 = .ok (.iload_n 3, 1) := by decide +kernel
theorem dX5_greatest_5 : decode cX5_greatest 5 = .ok (.iload_n 1, 1) := by decide +kernel
theorem dX5_greatest_6 : decode cX5_greatest 6 = .ok (.if_icmp .ge 28, 3) := by decide +kernel
theorem dX5_greatest_9 : decode cX5_greatest 9 = .ok (.iload_n 0, 1) := by decide +kernel
theorem dX5_greatest_10 : decode cX5_greatest 10 = .ok (.iload_n 3, 1) := by decide +kernel
theorem dX5_greatest_11 : decode cX5_greatest 11 = .ok (.invokestatic 74, 3) := by decide +kernel
theorem dX5_greatest_14 : decode cX5_greatest 14 = .ok (.iload_n 2, 1) := by decide +kernel
theorem dX5_greatest_15 : decode cX5_greatest 15 = .ok (.if_icmp .le 11, 3) := by decide +kernel
theorem dX5_greatest_18 : decode cX5_greatest 18 = .ok (.iload_n 0, 1) := by decide +kernel
theorem dX5_greatest_19 : decode cX5_greatest 19 = .ok (.iload_n 3, 1) := by decide +kernel
theorem dX5_greatest_20 : decode cX5_greatest 20 = .ok (.invokestatic 74, 3) := by decide +kernel
theorem dX5_greatest_23 : decode cX5_greatest 23 = .ok (.goto 4, 3) := by decide +kernel
theorem dX5_greatest_26 : decode cX5_greatest 26 = .ok (.iload_n 2, 1) := by decide +kernel
theorem dX5_greatest_27 : decode cX5_greatest 27 = .ok (.istore_n 2, 1) := by decide +kernel
theorem dX5_greatest_28 : decode cX5_greatest 28 = .ok (.iinc 3 1, 3) := by decide +kernel
theorem dX5_greatest_31 : decode cX5_greatest 31 = .ok (.goto (-27), 3) := by decide +kernel
theorem dX5_greatest_34 : decode cX5_greatest 34 = .ok (.iload_n 2, 1) := by decide +kernel
theorem dX5_greatest_35 : decode cX5_greatest 35 = .ok (.ireturn, 1) := by decide +kernel
theorem dX5_nextWay_0 : decode cX5_nextWay 0 = .ok (.iload_n 1, 1) := by decide +kernel
theorem dX5_nextWay_1 : decode cX5_nextWay 1 = .ok (.iconst 1, 1) := by decide +kernel
theorem dX5_nextWay_2 : decode cX5_nextWay 2 = .ok (.isub, 1) := by decide +kernel
theorem dX5_nextWay_3 : decode cX5_nextWay 3 = .ok (.istore_n 2, 1) := by decide +kernel
theorem dX5_nextWay_4 : decode cX5_nextWay 4 = .ok (.iload_n 2, 1) := by decide +kernel
theorem dX5_nextWay_5 : decode cX5_nextWay 5 = .ok (.ifCond .le 22, 3) := by decide +kernel
theorem dX5_nextWay_8 : decode cX5_nextWay 8 = .ok (.iload_n 0, 1) := by decide +kernel
theorem dX5_nextWay_9 : decode cX5_nextWay 9 = .ok (.iload_n 2, 1) := by decide +kernel
theorem dX5_nextWay_10 : decode cX5_nextWay 10 = .ok (.invokestatic 74, 3) := by decide +kernel
theorem dX5_nextWay_13 : decode cX5_nextWay 13 = .ok (.iload_n 0, 1) := by decide +kernel
theorem dX5_nextWay_14 : decode cX5_nextWay 14 = .ok (.iload_n 2, 1) := by decide +kernel
theorem dX5_nextWay_15 : decode cX5_nextWay 15 = .ok (.invokestatic 77, 3) := by decide +kernel
theorem dX5_nextWay_18 : decode cX5_nextWay 18 = .ok (.if_icmp .le 9, 3) := by decide +kernel
theorem dX5_nextWay_21 : decode cX5_nextWay 21 = .ok (.iinc 2 (-1), 3) := by decide +kernel
theorem dX5_nextWay_24 : decode cX5_nextWay 24 = .ok (.goto (-20), 3) := by decide +kernel
theorem dX5_nextWay_27 : decode cX5_nextWay 27 = .ok (.iload_n 2, 1) := by decide +kernel
theorem dX5_nextWay_28 : decode cX5_nextWay 28 = .ok (.ifCond .ne 5, 3) := by decide +kernel
theorem dX5_nextWay_31 : decode cX5_nextWay 31 = .ok (.iconst 0, 1) := by decide +kernel
theorem dX5_nextWay_32 : decode cX5_nextWay 32 = .ok (.ireturn, 1) := by decide +kernel
theorem dX5_nextWay_33 : decode cX5_nextWay 33 = .ok (.iload_n 0, 1) := by decide +kernel
theorem dX5_nextWay_34 : decode cX5_nextWay 34 = .ok (.iconst 1, 1) := by decide +kernel
theorem dX5_nextWay_35 : decode cX5_nextWay 35 = .ok (.iconst 3, 1) := by decide +kernel
theorem dX5_nextWay_36 : decode cX5_nextWay 36 = .ok (.iload_n 2, 1) := by decide +kernel
theorem dX5_nextWay_37 : decode cX5_nextWay 37 = .ok (.imul, 1) := by decide +kernel
theorem dX5_nextWay_38 : decode cX5_nextWay 38 = .ok (.ishl, 1) := by decide +kernel
theorem dX5_nextWay_39 : decode cX5_nextWay 39 = .ok (.iconst 1, 1) := by decide +kernel
theorem dX5_nextWay_40 : decode cX5_nextWay 40 = .ok (.isub, 1) := by decide +kernel
theorem dX5_nextWay_41 : decode cX5_nextWay 41 = .ok (.iand, 1) := by decide +kernel
theorem dX5_nextWay_42 : decode cX5_nextWay 42 = .ok (.iload_n 0, 1) := by decide +kernel
theorem dX5_nextWay_43 : decode cX5_nextWay 43 = .ok (.iload_n 2, 1) := by decide +kernel
theorem dX5_nextWay_44 : decode cX5_nextWay 44 = .ok (.invokestatic 74, 3) := by decide +kernel
theorem dX5_nextWay_47 : decode cX5_nextWay 47 = .ok (.iconst 1, 1) := by decide +kernel
theorem dX5_nextWay_48 : decode cX5_nextWay 48 = .ok (.iadd, 1) := by decide +kernel
theorem dX5_nextWay_49 : decode cX5_nextWay 49 = .ok (.iconst 3, 1) := by decide +kernel
theorem dX5_nextWay_50 : decode cX5_nextWay 50 = .ok (.iload_n 2, 1) := by decide +kernel
theorem dX5_nextWay_51 : decode cX5_nextWay 51 = .ok (.imul, 1) := by decide +kernel
theorem dX5_nextWay_52 : decode cX5_nextWay 52 = .ok (.ishl, 1) := by decide +kernel
theorem dX5_nextWay_53 : decode cX5_nextWay 53 = .ok (.ior, 1) := by decide +kernel
theorem dX5_nextWay_54 : decode cX5_nextWay 54 = .ok (.ireturn, 1) := by decide +kernel
theorem dX5_isTerm_0 : decode cX5_isTerm 0 = .ok (.iload_n 1, 1) := by decide +kernel
theorem dX5_isTerm_1 : decode cX5_isTerm 1 = .ok (.ifCond .lt 15, 3) := by decide +kernel
theorem dX5_isTerm_4 : decode cX5_isTerm 4 = .ok (.iload_n 1, 1) := by decide +kernel
theorem dX5_isTerm_5 : decode cX5_isTerm 5 = .ok (.aload_n 0, 1) := by decide +kernel
theorem dX5_isTerm_6 : decode cX5_isTerm 6 = .ok (.getfield 7, 3) := by decide +kernel
theorem dX5_isTerm_9 : decode cX5_isTerm 9 = .ok (.if_icmp .ge 7, 3) := by decide +kernel
theorem dX5_isTerm_12 : decode cX5_isTerm 12 = .ok (.iconst 1, 1) := by decide +kernel
theorem dX5_isTerm_13 : decode cX5_isTerm 13 = .ok (.goto 4, 3) := by decide +kernel
theorem dX5_isTerm_16 : decode cX5_isTerm 16 = .ok (.iconst 0, 1) := by decide +kernel
theorem dX5_isTerm_17 : decode cX5_isTerm 17 = .ok (.ireturn, 1) := by decide +kernel
theorem dX5_part_0 : decode cX5_part 0 = .ok (.iload_n 0, 1) := by decide +kernel
theorem dX5_part_1 : decode cX5_part 1 = .ok (.iconst 1, 1) := by decide +kernel
theorem dX5_part_2 : decode cX5_part 2 = .ok (.iconst 3, 1) := by decide +kernel
theorem dX5_part_3 : decode cX5_part 3 = .ok (.iload_n 1, 1) := by decide +kernel
theorem dX5_part_4 : decode cX5_part 4 = .ok (.imul, 1) := by decide +kernel
theorem dX5_part_5 : decode cX5_part 5 = .ok (.iadd, 1) := by decide +kernel
theorem dX5_part_6 : decode cX5_part 6 = .ok (.ishr, 1) := by decide +kernel
theorem dX5_part_7 : decode cX5_part 7 = .ok (.bipush 7, 2) := by decide +kernel
theorem dX5_part_9 : decode cX5_part 9 = .ok (.iand, 1) := by decide +kernel
theorem dX5_part_10 : decode cX5_part 10 = .ok (.ireturn, 1) := by decide +kernel
theorem dX5_found_0 : decode cX5_found 0 = .ok (.bipush 7, 2) := by decide +kernel
theorem dX5_found_2 : decode cX5_found 2 = .ok (.istore 5, 2) := by decide +kernel
theorem dX5_found_4 : decode cX5_found 4 = .ok (.iload 5, 2) := by decide +kernel
theorem dX5_found_6 : decode cX5_found 6 = .ok (.aload_n 0, 1) := by decide +kernel
theorem dX5_found_7 : decode cX5_found 7 = .ok (.getfield 7, 3) := by decide +kernel
theorem dX5_found_10 : decode cX5_found 10 = .ok (.if_icmp .ge 57, 3) := by decide +kernel
theorem dX5_found_13 : decode cX5_found 13 = .ok (.aload_n 0, 1) := by decide +kernel
theorem dX5_found_14 : decode cX5_found 14 = .ok (.getfield 17, 3) := by decide +kernel
theorem dX5_found_17 : decode cX5_found 17 = .ok (.iload 5, 2) := by decide +kernel
theorem dX5_found_19 : decode cX5_found 19 = .ok (.iaload, 1) := by decide +kernel
theorem dX5_found_20 : decode cX5_found 20 = .ok (.iload_n 1, 1) := by decide +kernel
theorem dX5_found_21 : decode cX5_found 21 = .ok (.if_icmp .ne 40, 3) := by decide +kernel
theorem dX5_found_24 : decode cX5_found 24 = .ok (.aload_n 0, 1) := by decide +kernel
theorem dX5_found_25 : decode cX5_found 25 = .ok (.getfield 20, 3) := by decide +kernel
theorem dX5_found_28 : decode cX5_found 28 = .ok (.iload 5, 2) := by decide +kernel
theorem dX5_found_30 : decode cX5_found 30 = .ok (.iaload, 1) := by decide +kernel
theorem dX5_found_31 : decode cX5_found 31 = .ok (.iload_n 2, 1) := by decide +kernel
theorem dX5_found_32 : decode cX5_found 32 = .ok (.if_icmp .ne 29, 3) := by decide +kernel
theorem dX5_found_35 : decode cX5_found 35 = .ok (.aload_n 0, 1) := by decide +kernel
theorem dX5_found_36 : decode cX5_found 36 = .ok (.getfield 23, 3) := by decide +kernel
theorem dX5_found_39 : decode cX5_found 39 = .ok (.iload 5, 2) := by decide +kernel
theorem dX5_found_41 : decode cX5_found 41 = .ok (.iaload, 1) := by decide +kernel
theorem dX5_found_42 : decode cX5_found 42 = .ok (.iload_n 3, 1) := by decide +kernel
theorem dX5_found_43 : decode cX5_found 43 = .ok (.if_icmp .ne 18, 3) := by decide +kernel
theorem dX5_found_46 : decode cX5_found 46 = .ok (.aload_n 0, 1) := by decide +kernel
theorem dX5_found_47 : decode cX5_found 47 = .ok (.getfield 26, 3) := by decide +kernel
theorem dX5_found_50 : decode cX5_found 50 = .ok (.iload 5, 2) := by decide +kernel
theorem dX5_found_52 : decode cX5_found 52 = .ok (.iaload, 1) := by decide +kernel
theorem dX5_found_53 : decode cX5_found 53 = .ok (.iload 4, 2) := by decide +kernel
theorem dX5_found_55 : decode cX5_found 55 = .ok (.if_icmp .ne 6, 3) := by decide +kernel
theorem dX5_found_58 : decode cX5_found 58 = .ok (.iload 5, 2) := by decide +kernel
theorem dX5_found_60 : decode cX5_found 60 = .ok (.ireturn, 1) := by decide +kernel
theorem dX5_found_61 : decode cX5_found 61 = .ok (.iinc 5 1, 3) := by decide +kernel
theorem dX5_found_64 : decode cX5_found 64 = .ok (.goto (-60), 3) := by decide +kernel
end
section
theorem dX5_found_67 : decode cX5_found 67 = .ok (.iconst (-1), 1) := by decide +kernel
theorem dX5_found_68 : decode cX5_found 68 = .ok (.ireturn, 1) := by decide +kernel
theorem dX5_make_0 : decode cX5_make 0 = .ok (.aload_n 0, 1) := by decide +kernel
theorem dX5_make_1 : decode cX5_make 1 = .ok (.iload_n 1, 1) := by decide +kernel
theorem dX5_make_2 : decode cX5_make 2 = .ok (.iload_n 2, 1) := by decide +kernel
theorem dX5_make_3 : decode cX5_make 3 = .ok (.iload_n 3, 1) := by decide +kernel
theorem dX5_make_4 : decode cX5_make 4 = .ok (.iload 4, 2) := by decide +kernel
theorem dX5_make_6 : decode cX5_make 6 = .ok (.invokevirtual 80, 3) := by decide +kernel
theorem dX5_make_9 : decode cX5_make 9 = .ok (.istore 5, 2) := by decide +kernel
theorem dX5_make_11 : decode cX5_make 11 = .ok (.iload 5, 2) := by decide +kernel
theorem dX5_make_13 : decode cX5_make 13 = .ok (.ifCond .lt 6, 3) := by decide +kernel
theorem dX5_make_16 : decode cX5_make 16 = .ok (.iload 5, 2) := by decide +kernel
theorem dX5_make_18 : decode cX5_make 18 = .ok (.ireturn, 1) := by decide +kernel
theorem dX5_make_19 : decode cX5_make 19 = .ok (.aload_n 0, 1) := by decide +kernel
theorem dX5_make_20 : decode cX5_make 20 = .ok (.getfield 7, 3) := by decide +kernel
theorem dX5_make_23 : decode cX5_make 23 = .ok (.bipush 24, 2) := by decide +kernel
theorem dX5_make_25 : decode cX5_make 25 = .ok (.if_icmp .ne 9, 3) := by decide +kernel
theorem dX5_make_28 : decode cX5_make 28 = .ok (.aload_n 0, 1) := by decide +kernel
theorem dX5_make_29 : decode cX5_make 29 = .ok (.iconst 3, 1) := by decide +kernel
theorem dX5_make_30 : decode cX5_make 30 = .ok (.invokevirtual 84, 3) := by decide +kernel
theorem dX5_make_33 : decode cX5_make 33 = .ok (.ireturn, 1) := by decide +kernel
theorem dX5_make_34 : decode cX5_make 34 = .ok (.aload_n 0, 1) := by decide +kernel
theorem dX5_make_35 : decode cX5_make 35 = .ok (.getfield 7, 3) := by decide +kernel
theorem dX5_make_38 : decode cX5_make 38 = .ok (.istore 5, 2) := by decide +kernel
theorem dX5_make_40 : decode cX5_make 40 = .ok (.aload_n 0, 1) := by decide +kernel
theorem dX5_make_41 : decode cX5_make 41 = .ok (.dup, 1) := by decide +kernel
theorem dX5_make_42 : decode cX5_make 42 = .ok (.getfield 7, 3) := by decide +kernel
theorem dX5_make_45 : decode cX5_make 45 = .ok (.iconst 1, 1) := by decide +kernel
theorem dX5_make_46 : decode cX5_make 46 = .ok (.iadd, 1) := by decide +kernel
theorem dX5_make_47 : decode cX5_make 47 = .ok (.putfield 7, 3) := by decide +kernel
theorem dX5_make_50 : decode cX5_make 50 = .ok (.aload_n 0, 1) := by decide +kernel
theorem dX5_make_51 : decode cX5_make 51 = .ok (.getfield 17, 3) := by decide +kernel
theorem dX5_make_54 : decode cX5_make 54 = .ok (.iload 5, 2) := by decide +kernel
theorem dX5_make_56 : decode cX5_make 56 = .ok (.iload_n 1, 1) := by decide +kernel
theorem dX5_make_57 : decode cX5_make 57 = .ok (.iastore, 1) := by decide +kernel
theorem dX5_make_58 : decode cX5_make 58 = .ok (.aload_n 0, 1) := by decide +kernel
theorem dX5_make_59 : decode cX5_make 59 = .ok (.getfield 20, 3) := by decide +kernel
theorem dX5_make_62 : decode cX5_make 62 = .ok (.iload 5, 2) := by decide +kernel
theorem dX5_make_64 : decode cX5_make 64 = .ok (.iload_n 2, 1) := by decide +kernel
theorem dX5_make_65 : decode cX5_make 65 = .ok (.iastore, 1) := by decide +kernel
theorem dX5_make_66 : decode cX5_make 66 = .ok (.aload_n 0, 1) := by decide +kernel
theorem dX5_make_67 : decode cX5_make 67 = .ok (.getfield 23, 3) := by decide +kernel
theorem dX5_make_70 : decode cX5_make 70 = .ok (.iload 5, 2) := by decide +kernel
theorem dX5_make_72 : decode cX5_make 72 = .ok (.iload_n 3, 1) := by decide +kernel
theorem dX5_make_73 : decode cX5_make 73 = .ok (.iastore, 1) := by decide +kernel
theorem dX5_make_74 : decode cX5_make 74 = .ok (.aload_n 0, 1) := by decide +kernel
theorem dX5_make_75 : decode cX5_make 75 = .ok (.getfield 26, 3) := by decide +kernel
theorem dX5_make_78 : decode cX5_make 78 = .ok (.iload 5, 2) := by decide +kernel
theorem dX5_make_80 : decode cX5_make 80 = .ok (.iload 4, 2) := by decide +kernel
theorem dX5_make_82 : decode cX5_make 82 = .ok (.iastore, 1) := by decide +kernel
theorem dX5_make_83 : decode cX5_make 83 = .ok (.aload_n 0, 1) := by decide +kernel
theorem dX5_make_84 : decode cX5_make 84 = .ok (.getfield 13, 3) := by decide +kernel
theorem dX5_make_87 : decode cX5_make 87 = .ok (.iload 5, 2) := by decide +kernel
theorem dX5_make_89 : decode cX5_make 89 = .ok (.iload_n 1, 1) := by decide +kernel
theorem dX5_make_90 : decode cX5_make 90 = .ok (.iastore, 1) := by decide +kernel
theorem dX5_make_91 : decode cX5_make 91 = .ok (.iconst 0, 1) := by decide +kernel
theorem dX5_make_92 : decode cX5_make 92 = .ok (.istore 6, 2) := by decide +kernel
theorem dX5_make_94 : decode cX5_make 94 = .ok (.iload 6, 2) := by decide +kernel
theorem dX5_make_96 : decode cX5_make 96 = .ok (.iconst 5, 1) := by decide +kernel
theorem dX5_make_97 : decode cX5_make 97 = .ok (.if_icmp .ge 100, 3) := by decide +kernel
theorem dX5_make_100 : decode cX5_make 100 = .ok (.aload_n 0, 1) := by decide +kernel
theorem dX5_make_101 : decode cX5_make 101 = .ok (.getfield 35, 3) := by decide +kernel
theorem dX5_make_104 : decode cX5_make 104 = .ok (.bipush 24, 2) := by decide +kernel
theorem dX5_make_106 : decode cX5_make 106 = .ok (.iload 6, 2) := by decide +kernel
theorem dX5_make_108 : decode cX5_make 108 = .ok (.imul, 1) := by decide +kernel
theorem dX5_make_109 : decode cX5_make 109 = .ok (.iload_n 2, 1) := by decide +kernel
theorem dX5_make_110 : decode cX5_make 110 = .ok (.iadd, 1) := by decide +kernel
theorem dX5_make_111 : decode cX5_make 111 = .ok (.iaload, 1) := by decide +kernel
theorem dX5_make_112 : decode cX5_make 112 = .ok (.istore 7, 2) := by decide +kernel
theorem dX5_make_114 : decode cX5_make 114 = .ok (.aload_n 0, 1) := by decide +kernel
theorem dX5_make_115 : decode cX5_make 115 = .ok (.getfield 35, 3) := by decide +kernel
theorem dX5_make_118 : decode cX5_make 118 = .ok (.bipush 24, 2) := by decide +kernel
theorem dX5_make_120 : decode cX5_make 120 = .ok (.iload 6, 2) := by decide +kernel
theorem dX5_make_122 : decode cX5_make 122 = .ok (.imul, 1) := by decide +kernel
theorem dX5_make_123 : decode cX5_make 123 = .ok (.iload_n 3, 1) := by decide +kernel
theorem dX5_make_124 : decode cX5_make 124 = .ok (.iadd, 1) := by decide +kernel
theorem dX5_make_125 : decode cX5_make 125 = .ok (.iaload, 1) := by decide +kernel
theorem dX5_make_126 : decode cX5_make 126 = .ok (.istore 8, 2) := by decide +kernel
theorem dX5_make_128 : decode cX5_make 128 = .ok (.iconst 1, 1) := by decide +kernel
theorem dX5_make_129 : decode cX5_make 129 = .ok (.iconst 3, 1) := by decide +kernel
theorem dX5_make_130 : decode cX5_make 130 = .ok (.iload 8, 2) := by decide +kernel
theorem dX5_make_132 : decode cX5_make 132 = .ok (.imul, 1) := by decide +kernel
theorem dX5_make_133 : decode cX5_make 133 = .ok (.iadd, 1) := by decide +kernel
theorem dX5_make_134 : decode cX5_make 134 = .ok (.istore 9, 2) := by decide +kernel
theorem dX5_make_136 : decode cX5_make 136 = .ok (.aload_n 0, 1) := by decide +kernel
theorem dX5_make_137 : decode cX5_make 137 = .ok (.getfield 35, 3) := by decide +kernel
theorem dX5_make_140 : decode cX5_make 140 = .ok (.bipush 24, 2) := by decide +kernel
theorem dX5_make_142 : decode cX5_make 142 = .ok (.iload 6, 2) := by decide +kernel
theorem dX5_make_144 : decode cX5_make 144 = .ok (.imul, 1) := by decide +kernel
theorem dX5_make_145 : decode cX5_make 145 = .ok (.iload 5, 2) := by decide +kernel
theorem dX5_make_147 : decode cX5_make 147 = .ok (.iadd, 1) := by decide +kernel
theorem dX5_make_148 : decode cX5_make 148 = .ok (.iload_n 1, 1) := by decide +kernel
theorem dX5_make_149 : decode cX5_make 149 = .ok (.iconst 1, 1) := by decide +kernel
theorem dX5_make_150 : decode cX5_make 150 = .ok (.if_icmp .ne 13, 3) := by decide +kernel
theorem dX5_make_153 : decode cX5_make 153 = .ok (.iload 7, 2) := by decide +kernel
theorem dX5_make_155 : decode cX5_make 155 = .ok (.iload 8, 2) := by decide +kernel
theorem dX5_make_157 : decode cX5_make 157 = .ok (.invokestatic 88, 3) := by decide +kernel
theorem dX5_make_160 : decode cX5_make 160 = .ok (.goto 30, 3) := by decide +kernel
theorem dX5_make_163 : decode cX5_make 163 = .ok (.iload 7, 2) := by decide +kernel
theorem dX5_make_165 : decode cX5_make 165 = .ok (.bipush 7, 2) := by decide +kernel
theorem dX5_make_167 : decode cX5_make 167 = .ok (.iload 9, 2) := by decide +kernel
theorem dX5_make_169 : decode cX5_make 169 = .ok (.ishl, 1) := by decide +kernel
theorem dX5_make_170 : decode cX5_make 170 = .ok (.iconst (-1), 1) := by decide +kernel
theorem dX5_make_171 : decode cX5_make 171 = .ok (.ixor, 1) := by decide +kernel
theorem dX5_make_172 : decode cX5_make 172 = .ok (.iand, 1) := by decide +kernel
theorem dX5_make_173 : decode cX5_make 173 = .ok (.aload_n 0, 1) := by decide +kernel
theorem dX5_make_174 : decode cX5_make 174 = .ok (.getfield 35, 3) := by decide +kernel
theorem dX5_make_177 : decode cX5_make 177 = .ok (.bipush 24, 2) := by decide +kernel
theorem dX5_make_179 : decode cX5_make 179 = .ok (.iload 6, 2) := by decide +kernel
theorem dX5_make_181 : decode cX5_make 181 = .ok (.imul, 1) := by decide +kernel
theorem dX5_make_182 : decode cX5_make 182 = .ok (.iload 4, 2) := by decide +kernel
theorem dX5_make_184 : decode cX5_make 184 = .ok (.iadd, 1) := by decide +kernel
theorem dX5_make_185 : decode cX5_make 185 = .ok (.iaload, 1) := by decide +kernel
theorem dX5_make_186 : decode cX5_make 186 = .ok (.iload 9, 2) := by decide +kernel
theorem dX5_make_188 : decode cX5_make 188 = .ok (.ishl, 1) := by decide +kernel
theorem dX5_make_189 : decode cX5_make 189 = .ok (.ior, 1) := by decide +kernel
theorem dX5_make_190 : decode cX5_make 190 = .ok (.iastore, 1) := by decide +kernel
theorem dX5_make_191 : decode cX5_make 191 = .ok (.iinc 6 1, 3) := by decide +kernel
theorem dX5_make_194 : decode cX5_make 194 = .ok (.goto (-100), 3) := by decide +kernel
theorem dX5_make_197 : decode cX5_make 197 = .ok (.iload 5, 2) := by decide +kernel
theorem dX5_make_199 : decode cX5_make 199 = .ok (.ireturn, 1) := by decide +kernel
theorem dX5_select_0 : decode cX5_select 0 = .ok (.aload_n 0, 1) := by decide +kernel
theorem dX5_select_1 : decode cX5_select 1 = .ok (.aload_n 0, 1) := by decide +kernel
theorem dX5_select_2 : decode cX5_select 2 = .ok (.iload_n 1, 1) := by decide +kernel
theorem dX5_select_3 : decode cX5_select 3 = .ok (.invokevirtual 91, 3) := by decide +kernel
theorem dX5_select_6 : decode cX5_select 6 = .ok (.ifCond .eq 11, 3) := by decide +kernel
theorem dX5_select_9 : decode cX5_select 9 = .ok (.aload_n 0, 1) := by decide +kernel
theorem dX5_select_10 : decode cX5_select 10 = .ok (.iload_n 2, 1) := by decide +kernel
theorem dX5_select_11 : decode cX5_select 11 = .ok (.invokevirtual 91, 3) := by decide +kernel
theorem dX5_select_14 : decode cX5_select 14 = .ok (.ifCond .ne 7, 3) := by decide +kernel
theorem dX5_select_17 : decode cX5_select 17 = .ok (.iconst 1, 1) := by decide +kernel
theorem dX5_select_18 : decode cX5_select 18 = .ok (.goto 27, 3) := by decide +kernel
theorem dX5_select_21 : decode cX5_select 21 = .ok (.aload_n 0, 1) := by decide +kernel
theorem dX5_select_22 : decode cX5_select 22 = .ok (.getfield 13, 3) := by decide +kernel
theorem dX5_select_25 : decode cX5_select 25 = .ok (.iload_n 1, 1) := by decide +kernel
theorem dX5_select_26 : decode cX5_select 26 = .ok (.iaload, 1) := by decide +kernel
theorem dX5_select_27 : decode cX5_select 27 = .ok (.iconst 2, 1) := by decide +kernel
theorem dX5_select_28 : decode cX5_select 28 = .ok (.if_icmp .ne 12, 3) := by decide +kernel
theorem dX5_select_31 : decode cX5_select 31 = .ok (.aload_n 0, 1) := by decide +kernel
theorem dX5_select_32 : decode cX5_select 32 = .ok (.getfield 13, 3) := by decide +kernel
theorem dX5_select_35 : decode cX5_select 35 = .ok (.iload_n 2, 1) := by decide +kernel
theorem dX5_select_36 : decode cX5_select 36 = .ok (.iaload, 1) := by decide +kernel
theorem dX5_select_37 : decode cX5_select 37 = .ok (.ifCond .eq 7, 3) := by decide +kernel
theorem dX5_select_40 : decode cX5_select 40 = .ok (.iconst 2, 1) := by decide +kernel
theorem dX5_select_41 : decode cX5_select 41 = .ok (.goto 4, 3) := by decide +kernel
theorem dX5_select_44 : decode cX5_select 44 = .ok (.iconst 0, 1) := by decide +kernel
theorem dX5_select_45 : decode cX5_select 45 = .ok (.putfield 67, 3) := by decide +kernel
theorem dX5_select_48 : decode cX5_select 48 = .ok (.aload_n 0, 1) := by decide +kernel
theorem dX5_select_49 : decode cX5_select 49 = .ok (.getfield 67, 3) := by decide +kernel
theorem dX5_select_52 : decode cX5_select 52 = .ok (.ifCond .ne 14, 3) := by decide +kernel
theorem dX5_select_55 : decode cX5_select 55 = .ok (.aload_n 0, 1) := by decide +kernel
theorem dX5_select_56 : decode cX5_select 56 = .ok (.iconst 1, 1) := by decide +kernel
theorem dX5_select_57 : decode cX5_select 57 = .ok (.iload_n 1, 1) := by decide +kernel
theorem dX5_select_58 : decode cX5_select 58 = .ok (.iload_n 2, 1) := by decide +kernel
theorem dX5_select_59 : decode cX5_select 59 = .ok (.iconst 0, 1) := by decide +kernel
theorem dX5_select_60 : decode cX5_select 60 = .ok (.invokevirtual 95, 3) := by decide +kernel
theorem dX5_select_63 : decode cX5_select 63 = .ok (.goto 4, 3) := by decide +kernel
theorem dX5_select_66 : decode cX5_select 66 = .ok (.iconst 0, 1) := by decide +kernel
theorem dX5_select_67 : decode cX5_select 67 = .ok (.ireturn, 1) := by decide +kernel
theorem dX5_store_0 : decode cX5_store 0 = .ok (.aload_n 0, 1) := by decide +kernel
theorem dX5_store_1 : decode cX5_store 1 = .ok (.aload_n 0, 1) := by decide +kernel
theorem dX5_store_2 : decode cX5_store 2 = .ok (.iload_n 1, 1) := by decide +kernel
theorem dX5_store_3 : decode cX5_store 3 = .ok (.invokevirtual 91, 3) := by decide +kernel
theorem dX5_store_6 : decode cX5_store 6 = .ok (.ifCond .eq 19, 3) := by decide +kernel
theorem dX5_store_9 : decode cX5_store 9 = .ok (.aload_n 0, 1) := by decide +kernel
theorem dX5_store_10 : decode cX5_store 10 = .ok (.iload_n 2, 1) := by decide +kernel
theorem dX5_store_11 : decode cX5_store 11 = .ok (.invokevirtual 91, 3) := by decide +kernel
theorem dX5_store_14 : decode cX5_store 14 = .ok (.ifCond .eq 11, 3) := by decide +kernel
theorem dX5_store_17 : decode cX5_store 17 = .ok (.aload_n 0, 1) := by decide +kernel
theorem dX5_store_18 : decode cX5_store 18 = .ok (.iload_n 3, 1) := by decide +kernel
theorem dX5_store_19 : decode cX5_store 19 = .ok (.invokevirtual 91, 3) := by decide +kernel
theorem dX5_store_22 : decode cX5_store 22 = .ok (.ifCond .ne 7, 3) := by decide +kernel
theorem dX5_store_25 : decode cX5_store 25 = .ok (.iconst 1, 1) := by decide +kernel
theorem dX5_store_26 : decode cX5_store 26 = .ok (.goto 37, 3) := by decide +kernel
theorem dX5_store_29 : decode cX5_store 29 = .ok (.aload_n 0, 1) := by decide +kernel
theorem dX5_store_30 : decode cX5_store 30 = .ok (.getfield 13, 3) := by decide +kernel
theorem dX5_store_33 : decode cX5_store 33 = .ok (.iload_n 1, 1) := by decide +kernel
theorem dX5_store_34 : decode cX5_store 34 = .ok (.iaload, 1) := by decide +kernel
theorem dX5_store_35 : decode cX5_store 35 = .ok (.iconst 2, 1) := by decide +kernel
theorem dX5_store_36 : decode cX5_store 36 = .ok (.if_icmp .ne 22, 3) := by decide +kernel
theorem dX5_store_39 : decode cX5_store 39 = .ok (.aload_n 0, 1) := by decide +kernel
theorem dX5_store_40 : decode cX5_store 40 = .ok (.getfield 13, 3) := by decide +kernel
theorem dX5_store_43 : decode cX5_store 43 = .ok (.iload_n 2, 1) := by decide +kernel
theorem dX5_store_44 : decode cX5_store 44 = .ok (.iaload, 1) := by decide +kernel
theorem dX5_store_45 : decode cX5_store 45 = .ok (.ifCond .ne 13, 3) := by decide +kernel
theorem dX5_store_48 : decode cX5_store 48 = .ok (.aload_n 0, 1) := by decide +kernel
theorem dX5_store_49 : decode cX5_store 49 = .ok (.getfield 13, 3) := by decide +kernel
theorem dX5_store_52 : decode cX5_store 52 = .ok (.iload_n 3, 1) := by decide +kernel
theorem dX5_store_53 : decode cX5_store 53 = .ok (.iaload, 1) := by decide +kernel
theorem dX5_store_54 : decode cX5_store 54 = .ok (.iconst 1, 1) := by decide +kernel
theorem dX5_store_55 : decode cX5_store 55 = .ok (.if_icmp .eq 7, 3) := by decide +kernel
theorem dX5_store_58 : decode cX5_store 58 = .ok (.iconst 2, 1) := by decide +kernel
theorem dX5_store_59 : decode cX5_store 59 = .ok (.goto 4, 3) := by decide +kernel
theorem dX5_store_62 : decode cX5_store 62 = .ok (.iconst 0, 1) := by decide +kernel
theorem dX5_store_63 : decode cX5_store 63 = .ok (.putfield 67, 3) := by decide +kernel
theorem dX5_store_66 : decode cX5_store 66 = .ok (.aload_n 0, 1) := by decide +kernel
theorem dX5_store_67 : decode cX5_store 67 = .ok (.getfield 67, 3) := by decide +kernel
theorem dX5_store_70 : decode cX5_store 70 = .ok (.ifCond .ne 14, 3) := by decide +kernel
theorem dX5_store_73 : decode cX5_store 73 = .ok (.aload_n 0, 1) := by decide +kernel
theorem dX5_store_74 : decode cX5_store 74 = .ok (.iconst 2, 1) := by decide +kernel
theorem dX5_store_75 : decode cX5_store 75 = .ok (.iload_n 1, 1) := by decide +kernel
theorem dX5_store_76 : decode cX5_store 76 = .ok (.iload_n 2, 1) := by decide +kernel
theorem dX5_store_77 : decode cX5_store 77 = .ok (.iload_n 3, 1) := by decide +kernel
theorem dX5_store_78 : decode cX5_store 78 = .ok (.invokevirtual 95, 3) := by decide +kernel
theorem dX5_store_81 : decode cX5_store 81 = .ok (.goto 4, 3) := by decide +kernel
theorem dX5_store_84 : decode cX5_store 84 = .ok (.iconst 0, 1) := by decide +kernel
theorem dX5_store_85 : decode cX5_store 85 = .ok (.ireturn, 1) := by decide +kernel
theorem dX5_terms_0 : decode cX5_terms 0 = .ok (.aload_n 0, 1) := by decide +kernel
theorem dX5_terms_1 : decode cX5_terms 1 = .ok (.iconst 0, 1) := by decide +kernel
theorem dX5_terms_2 : decode cX5_terms 2 = .ok (.putfield 67, 3) := by decide +kernel
theorem dX5_terms_5 : decode cX5_terms 5 = .ok (.aload_n 0, 1) := by decide +kernel
theorem dX5_terms_6 : decode cX5_terms 6 = .ok (.getfield 7, 3) := by decide +kernel
theorem dX5_terms_9 : decode cX5_terms 9 = .ok (.ireturn, 1) := by decide +kernel
theorem dX5_sort_0 : decode cX5_sort 0 = .ok (.aload_n 0, 1) := by decide +kernel
theorem dX5_sort_1 : decode cX5_sort 1 = .ok (.iconst 0, 1) := by decide +kernel
theorem dX5_sort_2 : decode cX5_sort 2 = .ok (.putfield 67, 3) := by decide +kernel
theorem dX5_sort_5 : decode cX5_sort 5 = .ok (.aload_n 0, 1) := by decide +kernel
theorem dX5_sort_6 : decode cX5_sort 6 = .ok (.iload_n 1, 1) := by decide +kernel
theorem dX5_sort_7 : decode cX5_sort 7 = .ok (.invokevirtual 91, 3) := by decide +kernel
theorem dX5_sort_10 : decode cX5_sort 10 = .ok (.ifCond .eq 12, 3) := by decide +kernel
theorem dX5_sort_13 : decode cX5_sort 13 = .ok (.aload_n 0, 1) := by decide +kernel
theorem dX5_sort_14 : decode cX5_sort 14 = .ok (.getfield 13, 3) := by decide +kernel
theorem dX5_sort_17 : decode cX5_sort 17 = .ok (.iload_n 1, 1) := by decide +kernel
theorem dX5_sort_18 : decode cX5_sort 18 = .ok (.iaload, 1) := by decide +kernel
theorem dX5_sort_19 : decode cX5_sort 19 = .ok (.goto 4, 3) := by decide +kernel
theorem dX5_sort_22 : decode cX5_sort 22 = .ok (.iconst (-1), 1) := by decide +kernel
theorem dX5_sort_23 : decode cX5_sort 23 = .ok (.ireturn, 1) := by decide +kernel
theorem dX5_areSame_0 : decode cX5_areSame 0 = .ok (.aload_n 0, 1) := by decide +kernel
theorem dX5_areSame_1 : decode cX5_areSame 1 = .ok (.getfield 35, 3) := by decide +kernel
theorem dX5_areSame_4 : decode cX5_areSame 4 = .ok (.bipush 24, 2) := by decide +kernel
theorem dX5_areSame_6 : decode cX5_areSame 6 = .ok (.iload_n 3, 1) := by decide +kernel
theorem dX5_areSame_7 : decode cX5_areSame 7 = .ok (.imul, 1) := by decide +kernel
theorem dX5_areSame_8 : decode cX5_areSame 8 = .ok (.iload_n 1, 1) := by decide +kernel
theorem dX5_areSame_9 : decode cX5_areSame 9 = .ok (.iadd, 1) := by decide +kernel
theorem dX5_areSame_10 : decode cX5_areSame 10 = .ok (.iaload, 1) := by decide +kernel
theorem dX5_areSame_11 : decode cX5_areSame 11 = .ok (.istore 6, 2) := by decide +kernel
theorem dX5_areSame_13 : decode cX5_areSame 13 = .ok (.aload_n 0, 1) := by decide +kernel
theorem dX5_areSame_14 : decode cX5_areSame 14 = .ok (.getfield 35, 3) := by decide +kernel
theorem dX5_areSame_17 : decode cX5_areSame 17 = .ok (.bipush 24, 2) := by decide +kernel
theorem dX5_areSame_19 : decode cX5_areSame 19 = .ok (.iload_n 3, 1) := by decide +kernel
theorem dX5_areSame_20 : decode cX5_areSame 20 = .ok (.imul, 1) := by decide +kernel
theorem dX5_areSame_21 : decode cX5_areSame 21 = .ok (.iload_n 2, 1) := by decide +kernel
theorem dX5_areSame_22 : decode cX5_areSame 22 = .ok (.iadd, 1) := by decide +kernel
theorem dX5_areSame_23 : decode cX5_areSame 23 = .ok (.iaload, 1) := by decide +kernel
theorem dX5_areSame_24 : decode cX5_areSame 24 = .ok (.istore 7, 2) := by decide +kernel
theorem dX5_areSame_26 : decode cX5_areSame 26 = .ok (.aload_n 0, 1) := by decide +kernel
theorem dX5_areSame_27 : decode cX5_areSame 27 = .ok (.getfield 13, 3) := by decide +kernel
theorem dX5_areSame_30 : decode cX5_areSame 30 = .ok (.iload_n 1, 1) := by decide +kernel
theorem dX5_areSame_31 : decode cX5_areSame 31 = .ok (.iaload, 1) := by decide +kernel
theorem dX5_areSame_32 : decode cX5_areSame 32 = .ok (.ifCond .ne 16, 3) := by decide +kernel
theorem dX5_areSame_35 : decode cX5_areSame 35 = .ok (.iload 6, 2) := by decide +kernel
theorem dX5_areSame_37 : decode cX5_areSame 37 = .ok (.iload 7, 2) := by decide +kernel
theorem dX5_areSame_39 : decode cX5_areSame 39 = .ok (.if_icmp .ne 7, 3) := by decide +kernel
theorem dX5_areSame_42 : decode cX5_areSame 42 = .ok (.iconst 1, 1) := by decide +kernel
theorem dX5_areSame_43 : decode cX5_areSame 43 = .ok (.goto 4, 3) := by decide +kernel
theorem dX5_areSame_46 : decode cX5_areSame 46 = .ok (.iconst 0, 1) := by decide +kernel
theorem dX5_areSame_47 : decode cX5_areSame 47 = .ok (.ireturn, 1) := by decide +kernel
theorem dX5_areSame_48 : decode cX5_areSame 48 = .ok (.aload_n 0, 1) := by decide +kernel
theorem dX5_areSame_49 : decode cX5_areSame 49 = .ok (.getfield 13, 3) := by decide +kernel
theorem dX5_areSame_52 : decode cX5_areSame 52 = .ok (.iload_n 1, 1) := by decide +kernel
theorem dX5_areSame_53 : decode cX5_areSame 53 = .ok (.iaload, 1) := by decide +kernel
theorem dX5_areSame_54 : decode cX5_areSame 54 = .ok (.iconst 1, 1) := by decide +kernel
theorem dX5_areSame_55 : decode cX5_areSame 55 = .ok (.if_icmp .ne 26, 3) := by decide +kernel
theorem dX5_areSame_58 : decode cX5_areSame 58 = .ok (.iload 4, 2) := by decide +kernel
theorem dX5_areSame_60 : decode cX5_areSame 60 = .ok (.iload 6, 2) := by decide +kernel
theorem dX5_areSame_62 : decode cX5_areSame 62 = .ok (.invokestatic 74, 3) := by decide +kernel
theorem dX5_areSame_65 : decode cX5_areSame 65 = .ok (.iload 4, 2) := by decide +kernel
theorem dX5_areSame_67 : decode cX5_areSame 67 = .ok (.iload 7, 2) := by decide +kernel
theorem dX5_areSame_69 : decode cX5_areSame 69 = .ok (.invokestatic 74, 3) := by decide +kernel
theorem dX5_areSame_72 : decode cX5_areSame 72 = .ok (.if_icmp .ne 7, 3) := by decide +kernel
theorem dX5_areSame_75 : decode cX5_areSame 75 = .ok (.iconst 1, 1) := by decide +kernel
theorem dX5_areSame_76 : decode cX5_areSame 76 = .ok (.goto 4, 3) := by decide +kernel
theorem dX5_areSame_79 : decode cX5_areSame 79 = .ok (.iconst 0, 1) := by decide +kernel
theorem dX5_areSame_80 : decode cX5_areSame 80 = .ok (.ireturn, 1) := by decide +kernel
theorem dX5_areSame_81 : decode cX5_areSame 81 = .ok (.iload 5, 2) := by decide +kernel
theorem dX5_areSame_83 : decode cX5_areSame 83 = .ok (.ifCond .ne 14, 3) := by decide +kernel
theorem dX5_areSame_86 : decode cX5_areSame 86 = .ok (.iload 6, 2) := by decide +kernel
theorem dX5_areSame_88 : decode cX5_areSame 88 = .ok (.iconst 1, 1) := by decide +kernel
theorem dX5_areSame_89 : decode cX5_areSame 89 = .ok (.iand, 1) := by decide +kernel
theorem dX5_areSame_90 : decode cX5_areSame 90 = .ok (.iload 7, 2) := by decide +kernel
theorem dX5_areSame_92 : decode cX5_areSame 92 = .ok (.iconst 1, 1) := by decide +kernel
theorem dX5_areSame_93 : decode cX5_areSame 93 = .ok (.iand, 1) := by decide +kernel
theorem dX5_areSame_94 : decode cX5_areSame 94 = .ok (.if_icmp .ne 7, 3) := by decide +kernel
theorem dX5_areSame_97 : decode cX5_areSame 97 = .ok (.iconst 1, 1) := by decide +kernel
theorem dX5_areSame_98 : decode cX5_areSame 98 = .ok (.goto 4, 3) := by decide +kernel
theorem dX5_areSame_101 : decode cX5_areSame 101 = .ok (.iconst 0, 1) := by decide +kernel
theorem dX5_areSame_102 : decode cX5_areSame 102 = .ok (.istore 8, 2) := by decide +kernel
theorem dX5_areSame_104 : decode cX5_areSame 104 = .ok (.iconst 0, 1) := by decide +kernel
theorem dX5_areSame_105 : decode cX5_areSame 105 = .ok (.istore 9, 2) := by decide +kernel
theorem dX5_areSame_107 : decode cX5_areSame 107 = .ok (.iload 9, 2) := by decide +kernel
theorem dX5_areSame_109 : decode cX5_areSame 109 = .ok (.aload_n 0, 1) := by decide +kernel
theorem dX5_areSame_110 : decode cX5_areSame 110 = .ok (.getfield 32, 3) := by decide +kernel
theorem dX5_areSame_113 : decode cX5_areSame 113 = .ok (.iload_n 3, 1) := by decide +kernel
theorem dX5_areSame_114 : decode cX5_areSame 114 = .ok (.iaload, 1) := by decide +kernel
theorem dX5_areSame_115 : decode cX5_areSame 115 = .ok (.if_icmp .ge 48, 3) := by decide +kernel
theorem dX5_areSame_118 : decode cX5_areSame 118 = .ok (.iload 8, 2) := by decide +kernel
theorem dX5_areSame_120 : decode cX5_areSame 120 = .ok (.ifCond .eq 34, 3) := by decide +kernel
theorem dX5_areSame_123 : decode cX5_areSame 123 = .ok (.iload 4, 2) := by decide +kernel
theorem dX5_areSame_125 : decode cX5_areSame 125 = .ok (.iload 6, 2) := by decide +kernel
theorem dX5_areSame_127 : decode cX5_areSame 127 = .ok (.iload 9, 2) := by decide +kernel
theorem dX5_areSame_129 : decode cX5_areSame 129 = .ok (.invokestatic 88, 3) := by decide +kernel
theorem dX5_areSame_132 : decode cX5_areSame 132 = .ok (.invokestatic 74, 3) := by decide +kernel
theorem dX5_areSame_135 : decode cX5_areSame 135 = .ok (.iload 4, 2) := by decide +kernel
theorem dX5_areSame_137 : decode cX5_areSame 137 = .ok (.iload 7, 2) := by decide +kernel
theorem dX5_areSame_139 : decode cX5_areSame 139 = .ok (.iload 9, 2) := by decide +kernel
theorem dX5_areSame_141 : decode cX5_areSame 141 = .ok (.invokestatic 88, 3) := by decide +kernel
theorem dX5_areSame_144 : decode cX5_areSame 144 = .ok (.invokestatic 74, 3) := by decide +kernel
theorem dX5_areSame_147 : decode cX5_areSame 147 = .ok (.if_icmp .ne 7, 3) := by decide +kernel
theorem dX5_areSame_150 : decode cX5_areSame 150 = .ok (.iconst 1, 1) := by decide +kernel
theorem dX5_areSame_151 : decode cX5_areSame 151 = .ok (.goto 4, 3) := by decide +kernel
theorem dX5_areSame_154 : decode cX5_areSame 154 = .ok (.iconst 0, 1) := by decide +kernel
theorem dX5_areSame_155 : decode cX5_areSame 155 = .ok (.istore 8, 2) := by decide +kernel
theorem dX5_areSame_157 : decode cX5_areSame 157 = .ok (.iinc 9 1, 3) := by decide +kernel
theorem dX5_areSame_160 : decode cX5_areSame 160 = .ok (.goto (-53), 3) := by decide +kernel
theorem dX5_areSame_163 : decode cX5_areSame 163 = .ok (.iload 8, 2) := by decide +kernel
theorem dX5_areSame_165 : decode cX5_areSame 165 = .ok (.ireturn, 1) := by decide +kernel
theorem dX5_sameIn_0 : decode cX5_sameIn 0 = .ok (.iload 4, 2) := by decide +kernel
theorem dX5_sameIn_2 : decode cX5_sameIn 2 = .ok (.aload_n 0, 1) := by decide +kernel
theorem dX5_sameIn_3 : decode cX5_sameIn 3 = .ok (.getfield 50, 3) := by decide +kernel
theorem dX5_sameIn_6 : decode cX5_sameIn 6 = .ok (.iload_n 3, 1) := by decide +kernel
theorem dX5_sameIn_7 : decode cX5_sameIn 7 = .ok (.iaload, 1) := by decide +kernel
theorem dX5_sameIn_8 : decode cX5_sameIn 8 = .ok (.isub, 1) := by decide +kernel
theorem dX5_sameIn_9 : decode cX5_sameIn 9 = .ok (.istore 5, 2) := by decide +kernel
theorem dX5_sameIn_11 : decode cX5_sameIn 11 = .ok (.aload_n 0, 1) := by decide +kernel
theorem dX5_sameIn_12 : decode cX5_sameIn 12 = .ok (.iload_n 1, 1) := by decide +kernel
theorem dX5_sameIn_13 : decode cX5_sameIn 13 = .ok (.iload_n 2, 1) := by decide +kernel
theorem dX5_sameIn_14 : decode cX5_sameIn 14 = .ok (.iload_n 3, 1) := by decide +kernel
theorem dX5_sameIn_15 : decode cX5_sameIn 15 = .ok (.aload_n 0, 1) := by decide +kernel
theorem dX5_sameIn_16 : decode cX5_sameIn 16 = .ok (.getfield 38, 3) := by decide +kernel
theorem dX5_sameIn_19 : decode cX5_sameIn 19 = .ok (.aload_n 0, 1) := by decide +kernel
theorem dX5_sameIn_20 : decode cX5_sameIn 20 = .ok (.getfield 41, 3) := by decide +kernel
theorem dX5_sameIn_23 : decode cX5_sameIn 23 = .ok (.aload_n 0, 1) := by decide +kernel
theorem dX5_sameIn_24 : decode cX5_sameIn 24 = .ok (.getfield 32, 3) := by decide +kernel
theorem dX5_sameIn_27 : decode cX5_sameIn 27 = .ok (.iload_n 3, 1) := by decide +kernel
theorem dX5_sameIn_28 : decode cX5_sameIn 28 = .ok (.iaload, 1) := by decide +kernel
theorem dX5_sameIn_29 : decode cX5_sameIn 29 = .ok (.iconst 1, 1) := by decide +kernel
theorem dX5_sameIn_30 : decode cX5_sameIn 30 = .ok (.isub, 1) := by decide +kernel
theorem dX5_sameIn_31 : decode cX5_sameIn 31 = .ok (.iaload, 1) := by decide +kernel
theorem dX5_sameIn_32 : decode cX5_sameIn 32 = .ok (.iload 5, 2) := by decide +kernel
theorem dX5_sameIn_34 : decode cX5_sameIn 34 = .ok (.iconst 2, 1) := by decide +kernel
theorem dX5_sameIn_35 : decode cX5_sameIn 35 = .ok (.idiv, 1) := by decide +kernel
theorem dX5_sameIn_36 : decode cX5_sameIn 36 = .ok (.iadd, 1) := by decide +kernel
theorem dX5_sameIn_37 : decode cX5_sameIn 37 = .ok (.iaload, 1) := by decide +kernel
theorem dX5_sameIn_38 : decode cX5_sameIn 38 = .ok (.iload 5, 2) := by decide +kernel
theorem dX5_sameIn_40 : decode cX5_sameIn 40 = .ok (.iconst 2, 1) := by decide +kernel
theorem dX5_sameIn_41 : decode cX5_sameIn 41 = .ok (.irem, 1) := by decide +kernel
theorem dX5_sameIn_42 : decode cX5_sameIn 42 = .ok (.iconst 1, 1) := by decide +kernel
theorem dX5_sameIn_43 : decode cX5_sameIn 43 = .ok (.if_icmp .ne 7, 3) := by decide +kernel
theorem dX5_sameIn_46 : decode cX5_sameIn 46 = .ok (.iconst 1, 1) := by decide +kernel
theorem dX5_sameIn_47 : decode cX5_sameIn 47 = .ok (.goto 4, 3) := by decide +kernel
theorem dX5_sameIn_50 : decode cX5_sameIn 50 = .ok (.iconst 0, 1) := by decide +kernel
theorem dX5_sameIn_51 : decode cX5_sameIn 51 = .ok (.invokevirtual 98, 3) := by decide +kernel
theorem dX5_sameIn_54 : decode cX5_sameIn 54 = .ok (.ireturn, 1) := by decide +kernel
theorem dX5_draftHolds_0 : decode cX5_draftHolds 0 = .ok (.iconst 0, 1) := by decide +kernel
theorem dX5_draftHolds_1 : decode cX5_draftHolds 1 = .ok (.istore_n 3, 1) := by decide +kernel
theorem dX5_draftHolds_2 : decode cX5_draftHolds 2 = .ok (.iconst 0, 1) := by decide +kernel
theorem dX5_draftHolds_3 : decode cX5_draftHolds 3 = .ok (.istore 4, 2) := by decide +kernel
theorem dX5_draftHolds_5 : decode cX5_draftHolds 5 = .ok (.iload 4, 2) := by decide +kernel
theorem dX5_draftHolds_7 : decode cX5_draftHolds 7 = .ok (.aload_n 0, 1) := by decide +kernel
theorem dX5_draftHolds_8 : decode cX5_draftHolds 8 = .ok (.getfield 102, 3) := by decide +kernel
theorem dX5_draftHolds_11 : decode cX5_draftHolds 11 = .ok (.if_icmp .ge 49, 3) := by decide +kernel
theorem dX5_draftHolds_14 : decode cX5_draftHolds 14 = .ok (.iload_n 3, 1) := by decide +kernel
theorem dX5_draftHolds_15 : decode cX5_draftHolds 15 = .ok (.ifCond .ne 33, 3) := by decide +kernel
theorem dX5_draftHolds_18 : decode cX5_draftHolds 18 = .ok (.aload_n 0, 1) := by decide +kernel
theorem dX5_draftHolds_19 : decode cX5_draftHolds 19 = .ok (.aload_n 0, 1) := by decide +kernel
theorem dX5_draftHolds_20 : decode cX5_draftHolds 20 = .ok (.getfield 53, 3) := by decide +kernel
theorem dX5_draftHolds_23 : decode cX5_draftHolds 23 = .ok (.iload 4, 2) := by decide +kernel
theorem dX5_draftHolds_25 : decode cX5_draftHolds 25 = .ok (.iaload, 1) := by decide +kernel
theorem dX5_draftHolds_26 : decode cX5_draftHolds 26 = .ok (.aload_n 0, 1) := by decide +kernel
theorem dX5_draftHolds_27 : decode cX5_draftHolds 27 = .ok (.getfield 56, 3) := by decide +kernel
theorem dX5_draftHolds_30 : decode cX5_draftHolds 30 = .ok (.iload 4, 2) := by decide +kernel
theorem dX5_draftHolds_32 : decode cX5_draftHolds 32 = .ok (.iaload, 1) := by decide +kernel
theorem dX5_draftHolds_33 : decode cX5_draftHolds 33 = .ok (.iload_n 1, 1) := by decide +kernel
theorem dX5_draftHolds_34 : decode cX5_draftHolds 34 = .ok (.iload_n 2, 1) := by decide +kernel
theorem dX5_draftHolds_35 : decode cX5_draftHolds 35 = .ok (.invokevirtual 105, 3) := by decide +kernel
theorem dX5_draftHolds_38 : decode cX5_draftHolds 38 = .ok (.aload_n 0, 1) := by decide +kernel
theorem dX5_draftHolds_39 : decode cX5_draftHolds 39 = .ok (.getfield 59, 3) := by decide +kernel
theorem dX5_draftHolds_42 : decode cX5_draftHolds 42 = .ok (.iload 4, 2) := by decide +kernel
theorem dX5_draftHolds_44 : decode cX5_draftHolds 44 = .ok (.baload, 1) := by decide +kernel
theorem dX5_draftHolds_45 : decode cX5_draftHolds 45 = .ok (.if_icmp .ne 7, 3) := by decide +kernel
theorem dX5_draftHolds_48 : decode cX5_draftHolds 48 = .ok (.iconst 1, 1) := by decide +kernel
theorem dX5_draftHolds_49 : decode cX5_draftHolds 49 = .ok (.goto 4, 3) := by decide +kernel
theorem dX5_draftHolds_52 : decode cX5_draftHolds 52 = .ok (.iconst 0, 1) := by decide +kernel
theorem dX5_draftHolds_53 : decode cX5_draftHolds 53 = .ok (.istore_n 3, 1) := by decide +kernel
theorem dX5_draftHolds_54 : decode cX5_draftHolds 54 = .ok (.iinc 4 1, 3) := by decide +kernel
theorem dX5_draftHolds_57 : decode cX5_draftHolds 57 = .ok (.goto (-52), 3) := by decide +kernel
theorem dX5_draftHolds_60 : decode cX5_draftHolds 60 = .ok (.iload_n 3, 1) := by decide +kernel
theorem dX5_draftHolds_61 : decode cX5_draftHolds 61 = .ok (.ireturn, 1) := by decide +kernel
theorem dX5_literal_0 : decode cX5_literal 0 = .ok (.aload_n 0, 1) := by decide +kernel
theorem dX5_literal_1 : decode cX5_literal 1 = .ok (.aload_n 0, 1) := by decide +kernel
theorem dX5_literal_2 : decode cX5_literal 2 = .ok (.iload_n 1, 1) := by decide +kernel
theorem dX5_literal_3 : decode cX5_literal 3 = .ok (.invokevirtual 91, 3) := by decide +kernel
theorem dX5_literal_6 : decode cX5_literal 6 = .ok (.ifCond .eq 11, 3) := by decide +kernel
theorem dX5_literal_9 : decode cX5_literal 9 = .ok (.aload_n 0, 1) := by decide +kernel
theorem dX5_literal_10 : decode cX5_literal 10 = .ok (.iload_n 2, 1) := by decide +kernel
theorem dX5_literal_11 : decode cX5_literal 11 = .ok (.invokevirtual 91, 3) := by decide +kernel
theorem dX5_literal_14 : decode cX5_literal 14 = .ok (.ifCond .ne 7, 3) := by decide +kernel
theorem dX5_literal_17 : decode cX5_literal 17 = .ok (.iconst 1, 1) := by decide +kernel
theorem dX5_literal_18 : decode cX5_literal 18 = .ok (.goto 35, 3) := by decide +kernel
theorem dX5_literal_21 : decode cX5_literal 21 = .ok (.aload_n 0, 1) := by decide +kernel
theorem dX5_literal_22 : decode cX5_literal 22 = .ok (.getfield 13, 3) := by decide +kernel
theorem dX5_literal_25 : decode cX5_literal 25 = .ok (.iload_n 1, 1) := by decide +kernel
theorem dX5_literal_26 : decode cX5_literal 26 = .ok (.iaload, 1) := by decide +kernel
theorem dX5_literal_27 : decode cX5_literal 27 = .ok (.aload_n 0, 1) := by decide +kernel
theorem dX5_literal_28 : decode cX5_literal 28 = .ok (.getfield 13, 3) := by decide +kernel
theorem dX5_literal_31 : decode cX5_literal 31 = .ok (.iload_n 2, 1) := by decide +kernel
theorem dX5_literal_32 : decode cX5_literal 32 = .ok (.iaload, 1) := by decide +kernel
theorem dX5_literal_33 : decode cX5_literal 33 = .ok (.if_icmp .eq 7, 3) := by decide +kernel
theorem dX5_literal_36 : decode cX5_literal 36 = .ok (.iconst 2, 1) := by decide +kernel
theorem dX5_literal_37 : decode cX5_literal 37 = .ok (.goto 16, 3) := by decide +kernel
theorem dX5_literal_40 : decode cX5_literal 40 = .ok (.aload_n 0, 1) := by decide +kernel
theorem dX5_literal_41 : decode cX5_literal 41 = .ok (.getfield 102, 3) := by decide +kernel
theorem dX5_literal_44 : decode cX5_literal 44 = .ok (.iconst 3, 1) := by decide +kernel
theorem dX5_literal_45 : decode cX5_literal 45 = .ok (.if_icmp .ne 7, 3) := by decide +kernel
theorem dX5_literal_48 : decode cX5_literal 48 = .ok (.iconst 3, 1) := by decide +kernel
theorem dX5_literal_49 : decode cX5_literal 49 = .ok (.goto 4, 3) := by decide +kernel
theorem dX5_literal_52 : decode cX5_literal 52 = .ok (.iconst 0, 1) := by decide +kernel
theorem dX5_literal_53 : decode cX5_literal 53 = .ok (.putfield 67, 3) := by decide +kernel
theorem dX5_literal_56 : decode cX5_literal 56 = .ok (.aload_n 0, 1) := by decide +kernel
theorem dX5_literal_57 : decode cX5_literal 57 = .ok (.getfield 67, 3) := by decide +kernel
theorem dX5_literal_60 : decode cX5_literal 60 = .ok (.ifCond .le 5, 3) := by decide +kernel
theorem dX5_literal_63 : decode cX5_literal 63 = .ok (.iconst 0, 1) := by decide +kernel
theorem dX5_literal_64 : decode cX5_literal 64 = .ok (.ireturn, 1) := by decide +kernel
theorem dX5_literal_65 : decode cX5_literal 65 = .ok (.aload_n 0, 1) := by decide +kernel
theorem dX5_literal_66 : decode cX5_literal 66 = .ok (.getfield 53, 3) := by decide +kernel
theorem dX5_literal_69 : decode cX5_literal 69 = .ok (.aload_n 0, 1) := by decide +kernel
theorem dX5_literal_70 : decode cX5_literal 70 = .ok (.getfield 102, 3) := by decide +kernel
theorem dX5_literal_73 : decode cX5_literal 73 = .ok (.iload_n 1, 1) := by decide +kernel
theorem dX5_literal_74 : decode cX5_literal 74 = .ok (.iastore, 1) := by decide +kernel
theorem dX5_literal_75 : decode cX5_literal 75 = .ok (.aload_n 0, 1) := by decide +kernel
theorem dX5_literal_76 : decode cX5_literal 76 = .ok (.getfield 56, 3) := by decide +kernel
theorem dX5_literal_79 : decode cX5_literal 79 = .ok (.aload_n 0, 1) := by decide +kernel
theorem dX5_literal_80 : decode cX5_literal 80 = .ok (.getfield 102, 3) := by decide +kernel
theorem dX5_literal_83 : decode cX5_literal 83 = .ok (.iload_n 2, 1) := by decide +kernel
theorem dX5_literal_84 : decode cX5_literal 84 = .ok (.iastore, 1) := by decide +kernel
theorem dX5_literal_85 : decode cX5_literal 85 = .ok (.aload_n 0, 1) := by decide +kernel
theorem dX5_literal_86 : decode cX5_literal 86 = .ok (.getfield 59, 3) := by decide +kernel
theorem dX5_literal_89 : decode cX5_literal 89 = .ok (.aload_n 0, 1) := by decide +kernel
theorem dX5_literal_90 : decode cX5_literal 90 = .ok (.getfield 102, 3) := by decide +kernel
theorem dX5_literal_93 : decode cX5_literal 93 = .ok (.iload_n 3, 1) := by decide +kernel
theorem dX5_literal_94 : decode cX5_literal 94 = .ok (.bastore, 1) := by decide +kernel
theorem dX5_literal_95 : decode cX5_literal 95 = .ok (.aload_n 0, 1) := by decide +kernel
theorem dX5_literal_96 : decode cX5_literal 96 = .ok (.dup, 1) := by decide +kernel
theorem dX5_literal_97 : decode cX5_literal 97 = .ok (.getfield 102, 3) := by decide +kernel
theorem dX5_literal_100 : decode cX5_literal 100 = .ok (.iconst 1, 1) := by decide +kernel
theorem dX5_literal_101 : decode cX5_literal 101 = .ok (.iadd, 1) := by decide +kernel
theorem dX5_literal_102 : decode cX5_literal 102 = .ok (.putfield 102, 3) := by decide +kernel
theorem dX5_literal_105 : decode cX5_literal 105 = .ok (.aload_n 0, 1) := by decide +kernel
theorem dX5_literal_106 : decode cX5_literal 106 = .ok (.getfield 102, 3) := by decide +kernel
theorem dX5_literal_109 : decode cX5_literal 109 = .ok (.ireturn, 1) := by decide +kernel
theorem dX5_draft_0 : decode cX5_draft 0 = .ok (.aload_n 0, 1) := by decide +kernel
theorem dX5_draft_1 : decode cX5_draft 1 = .ok (.iconst 0, 1) := by decide +kernel
theorem dX5_draft_2 : decode cX5_draft 2 = .ok (.putfield 67, 3) := by decide +kernel
theorem dX5_draft_5 : decode cX5_draft 5 = .ok (.aload_n 0, 1) := by decide +kernel
theorem dX5_draft_6 : decode cX5_draft 6 = .ok (.getfield 102, 3) := by decide +kernel
theorem dX5_draft_9 : decode cX5_draft 9 = .ok (.ireturn, 1) := by decide +kernel
theorem dX5_clear_0 : decode cX5_clear 0 = .ok (.aload_n 0, 1) := by decide +kernel
theorem dX5_clear_1 : decode cX5_clear 1 = .ok (.iconst 0, 1) := by decide +kernel
theorem dX5_clear_2 : decode cX5_clear 2 = .ok (.putfield 67, 3) := by decide +kernel
theorem dX5_clear_5 : decode cX5_clear 5 = .ok (.aload_n 0, 1) := by decide +kernel
theorem dX5_clear_6 : decode cX5_clear 6 = .ok (.iconst 0, 1) := by decide +kernel
theorem dX5_clear_7 : decode cX5_clear 7 = .ok (.putfield 102, 3) := by decide +kernel
theorem dX5_clear_10 : decode cX5_clear 10 = .ok (.return_, 1) := by decide +kernel
theorem dX5_claim_0 : decode cX5_claim 0 = .ok (.aload_n 0, 1) := by decide +kernel
theorem dX5_claim_1 : decode cX5_claim 1 = .ok (.aload_n 0, 1) := by decide +kernel
theorem dX5_claim_2 : decode cX5_claim 2 = .ok (.getfield 102, 3) := by decide +kernel
theorem dX5_claim_5 : decode cX5_claim 5 = .ok (.ifCond .ne 7, 3) := by decide +kernel
theorem dX5_claim_8 : decode cX5_claim 8 = .ok (.iconst 1, 1) := by decide +kernel
theorem dX5_claim_9 : decode cX5_claim 9 = .ok (.goto 17, 3) := by decide +kernel
theorem dX5_claim_12 : decode cX5_claim 12 = .ok (.aload_n 0, 1) := by decide +kernel
theorem dX5_claim_13 : decode cX5_claim 13 = .ok (.getfield 109, 3) := by decide +kernel
theorem dX5_claim_16 : decode cX5_claim 16 = .ok (.bipush 8, 2) := by decide +kernel
theorem dX5_claim_18 : decode cX5_claim 18 = .ok (.if_icmp .ne 7, 3) := by decide +kernel
theorem dX5_claim_21 : decode cX5_claim 21 = .ok (.iconst 2, 1) := by decide +kernel
theorem dX5_claim_22 : decode cX5_claim 22 = .ok (.goto 4, 3) := by decide +kernel
theorem dX5_claim_25 : decode cX5_claim 25 = .ok (.iconst 0, 1) := by decide +kernel
theorem dX5_claim_26 : decode cX5_claim 26 = .ok (.putfield 67, 3) := by decide +kernel
theorem dX5_claim_29 : decode cX5_claim 29 = .ok (.aload_n 0, 1) := by decide +kernel
theorem dX5_claim_30 : decode cX5_claim 30 = .ok (.getfield 67, 3) := by decide +kernel
theorem dX5_claim_33 : decode cX5_claim 33 = .ok (.ifCond .le 5, 3) := by decide +kernel
theorem dX5_claim_36 : decode cX5_claim 36 = .ok (.iconst 0, 1) := by decide +kernel
theorem dX5_claim_37 : decode cX5_claim 37 = .ok (.ireturn, 1) := by decide +kernel
theorem dX5_claim_38 : decode cX5_claim 38 = .ok (.iconst 1, 1) := by decide +kernel
theorem dX5_claim_39 : decode cX5_claim 39 = .ok (.aload_n 0, 1) := by decide +kernel
theorem dX5_claim_40 : decode cX5_claim 40 = .ok (.getfield 109, 3) := by decide +kernel
theorem dX5_claim_43 : decode cX5_claim 43 = .ok (.ishl, 1) := by decide +kernel
theorem dX5_claim_44 : decode cX5_claim 44 = .ok (.istore_n 1, 1) := by decide +kernel
theorem dX5_claim_45 : decode cX5_claim 45 = .ok (.iconst 0, 1) := by decide +kernel
theorem dX5_claim_46 : decode cX5_claim 46 = .ok (.istore_n 2, 1) := by decide +kernel
theorem dX5_claim_47 : decode cX5_claim 47 = .ok (.iload_n 2, 1) := by decide +kernel
theorem dX5_claim_48 : decode cX5_claim 48 = .ok (.iconst 5, 1) := by decide +kernel
theorem dX5_claim_49 : decode cX5_claim 49 = .ok (.if_icmp .ge 70, 3) := by decide +kernel
theorem dX5_claim_52 : decode cX5_claim 52 = .ok (.aload_n 0, 1) := by decide +kernel
theorem dX5_claim_53 : decode cX5_claim 53 = .ok (.getfield 50, 3) := by decide +kernel
theorem dX5_claim_56 : decode cX5_claim 56 = .ok (.iload_n 2, 1) := by decide +kernel
theorem dX5_claim_57 : decode cX5_claim 57 = .ok (.iaload, 1) := by decide +kernel
theorem dX5_claim_58 : decode cX5_claim 58 = .ok (.istore_n 3, 1) := by decide +kernel
theorem dX5_claim_59 : decode cX5_claim 59 = .ok (.iload_n 3, 1) := by decide +kernel
theorem dX5_claim_60 : decode cX5_claim 60 = .ok (.aload_n 0, 1) := by decide +kernel
theorem dX5_claim_61 : decode cX5_claim 61 = .ok (.getfield 50, 3) := by decide +kernel
theorem dX5_claim_64 : decode cX5_claim 64 = .ok (.iload_n 2, 1) := by decide +kernel
theorem dX5_claim_65 : decode cX5_claim 65 = .ok (.iconst 1, 1) := by decide +kernel
theorem dX5_claim_66 : decode cX5_claim 66 = .ok (.iadd, 1) := by decide +kernel
theorem dX5_claim_67 : decode cX5_claim 67 = .ok (.iaload, 1) := by decide +kernel
theorem dX5_claim_68 : decode cX5_claim 68 = .ok (.if_icmp .ge 45, 3) := by decide +kernel
theorem dX5_claim_71 : decode cX5_claim 71 = .ok (.aload_n 0, 1) := by decide +kernel
theorem dX5_claim_72 : decode cX5_claim 72 = .ok (.getfield 47, 3) := by decide +kernel
theorem dX5_claim_75 : decode cX5_claim 75 = .ok (.iload_n 3, 1) := by decide +kernel
theorem dX5_claim_76 : decode cX5_claim 76 = .ok (.aload_n 0, 1) := by decide +kernel
theorem dX5_claim_77 : decode cX5_claim 77 = .ok (.iload_n 2, 1) := by decide +kernel
theorem dX5_claim_78 : decode cX5_claim 78 = .ok (.iload_n 3, 1) := by decide +kernel
theorem dX5_claim_79 : decode cX5_claim 79 = .ok (.invokevirtual 112, 3) := by decide +kernel
theorem dX5_claim_82 : decode cX5_claim 82 = .ok (.ifCond .eq 14, 3) := by decide +kernel
theorem dX5_claim_85 : decode cX5_claim 85 = .ok (.aload_n 0, 1) := by decide +kernel
theorem dX5_claim_86 : decode cX5_claim 86 = .ok (.getfield 47, 3) := by decide +kernel
theorem dX5_claim_89 : decode cX5_claim 89 = .ok (.iload_n 3, 1) := by decide +kernel
theorem dX5_claim_90 : decode cX5_claim 90 = .ok (.iaload, 1) := by decide +kernel
theorem dX5_claim_91 : decode cX5_claim 91 = .ok (.iload_n 1, 1) := by decide +kernel
theorem dX5_claim_92 : decode cX5_claim 92 = .ok (.ior, 1) := by decide +kernel
theorem dX5_claim_93 : decode cX5_claim 93 = .ok (.goto 13, 3) := by decide +kernel
theorem dX5_claim_96 : decode cX5_claim 96 = .ok (.aload_n 0, 1) := by decide +kernel
theorem dX5_claim_97 : decode cX5_claim 97 = .ok (.getfield 47, 3) := by decide +kernel
theorem dX5_claim_100 : decode cX5_claim 100 = .ok (.iload_n 3, 1) := by decide +kernel
theorem dX5_claim_101 : decode cX5_claim 101 = .ok (.iaload, 1) := by decide +kernel
theorem dX5_claim_102 : decode cX5_claim 102 = .ok (.iload_n 1, 1) := by decide +kernel
theorem dX5_claim_103 : decode cX5_claim 103 = .ok (.iconst (-1), 1) := by decide +kernel
theorem dX5_claim_104 : decode cX5_claim 104 = .ok (.ixor, 1) := by decide +kernel
theorem dX5_claim_105 : decode cX5_claim 105 = .ok (.iand, 1) := by decide +kernel
theorem dX5_claim_106 : decode cX5_claim 106 = .ok (.iastore, 1) := by decide +kernel
theorem dX5_claim_107 : decode cX5_claim 107 = .ok (.iinc 3 1, 3) := by decide +kernel
theorem dX5_claim_110 : decode cX5_claim 110 = .ok (.goto (-51), 3) := by decide +kernel
theorem dX5_claim_113 : decode cX5_claim 113 = .ok (.iinc 2 1, 3) := by decide +kernel
theorem dX5_claim_116 : decode cX5_claim 116 = .ok (.goto (-69), 3) := by decide +kernel
theorem dX5_claim_119 : decode cX5_claim 119 = .ok (.aload_n 0, 1) := by decide +kernel
theorem dX5_claim_120 : decode cX5_claim 120 = .ok (.iconst 0, 1) := by decide +kernel
theorem dX5_claim_121 : decode cX5_claim 121 = .ok (.putfield 102, 3) := by decide +kernel
theorem dX5_claim_124 : decode cX5_claim 124 = .ok (.aload_n 0, 1) := by decide +kernel
theorem dX5_claim_125 : decode cX5_claim 125 = .ok (.dup, 1) := by decide +kernel
theorem dX5_claim_126 : decode cX5_claim 126 = .ok (.getfield 109, 3) := by decide +kernel
theorem dX5_claim_129 : decode cX5_claim 129 = .ok (.iconst 1, 1) := by decide +kernel
theorem dX5_claim_130 : decode cX5_claim 130 = .ok (.iadd, 1) := by decide +kernel
theorem dX5_claim_131 : decode cX5_claim 131 = .ok (.putfield 109, 3) := by decide +kernel
theorem dX5_claim_134 : decode cX5_claim 134 = .ok (.aload_n 0, 1) := by decide +kernel
theorem dX5_claim_135 : decode cX5_claim 135 = .ok (.getfield 109, 3) := by decide +kernel
theorem dX5_claim_138 : decode cX5_claim 138 = .ok (.iconst 1, 1) := by decide +kernel
theorem dX5_claim_139 : decode cX5_claim 139 = .ok (.isub, 1) := by decide +kernel
theorem dX5_claim_140 : decode cX5_claim 140 = .ok (.ireturn, 1) := by decide +kernel
theorem dX5_keep_0 : decode cX5_keep 0 = .ok (.aload_n 0, 1) := by decide +kernel
theorem dX5_keep_1 : decode cX5_keep 1 = .ok (.iconst 0, 1) := by decide +kernel
theorem dX5_keep_2 : decode cX5_keep 2 = .ok (.putfield 67, 3) := by decide +kernel
theorem dX5_keep_5 : decode cX5_keep 5 = .ok (.iload_n 1, 1) := by decide +kernel
theorem dX5_keep_6 : decode cX5_keep 6 = .ok (.ifCond .lt 11, 3) := by decide +kernel
theorem dX5_keep_9 : decode cX5_keep 9 = .ok (.iload_n 1, 1) := by decide +kernel
theorem dX5_keep_10 : decode cX5_keep 10 = .ok (.aload_n 0, 1) := by decide +kernel
theorem dX5_keep_11 : decode cX5_keep 11 = .ok (.getfield 109, 3) := by decide +kernel
theorem dX5_keep_14 : decode cX5_keep 14 = .ok (.if_icmp .le 5, 3) := by decide +kernel
theorem dX5_keep_17 : decode cX5_keep 17 = .ok (.iconst 0, 1) := by decide +kernel
theorem dX5_keep_18 : decode cX5_keep 18 = .ok (.ireturn, 1) := by decide +kernel
theorem dX5_keep_19 : decode cX5_keep 19 = .ok (.aload_n 0, 1) := by decide +kernel
theorem dX5_keep_20 : decode cX5_keep 20 = .ok (.iload_n 1, 1) := by decide +kernel
theorem dX5_keep_21 : decode cX5_keep 21 = .ok (.putfield 109, 3) := by decide +kernel
theorem dX5_keep_24 : decode cX5_keep 24 = .ok (.iconst 1, 1) := by decide +kernel
theorem dX5_keep_25 : decode cX5_keep 25 = .ok (.ireturn, 1) := by decide +kernel
theorem dX5_claims_0 : decode cX5_claims 0 = .ok (.aload_n 0, 1) := by decide +kernel
theorem dX5_claims_1 : decode cX5_claims 1 = .ok (.iconst 0, 1) := by decide +kernel
theorem dX5_claims_2 : decode cX5_claims 2 = .ok (.putfield 67, 3) := by decide +kernel
theorem dX5_claims_5 : decode cX5_claims 5 = .ok (.aload_n 0, 1) := by decide +kernel
theorem dX5_claims_6 : decode cX5_claims 6 = .ok (.getfield 109, 3) := by decide +kernel
theorem dX5_claims_9 : decode cX5_claims 9 = .ok (.ireturn, 1) := by decide +kernel
theorem dX5_canHold_0 : decode cX5_canHold 0 = .ok (.iconst 0, 1) := by decide +kernel
theorem dX5_canHold_1 : decode cX5_canHold 1 = .ok (.istore_n 2, 1) := by decide +kernel
theorem dX5_canHold_2 : decode cX5_canHold 2 = .ok (.iload_n 2, 1) := by decide +kernel
theorem dX5_canHold_3 : decode cX5_canHold 3 = .ok (.aload_n 0, 1) := by decide +kernel
theorem dX5_canHold_4 : decode cX5_canHold 4 = .ok (.getfield 50, 3) := by decide +kernel
theorem dX5_canHold_7 : decode cX5_canHold 7 = .ok (.iconst 5, 1) := by decide +kernel
theorem dX5_canHold_8 : decode cX5_canHold 8 = .ok (.iaload, 1) := by decide +kernel
theorem dX5_canHold_9 : decode cX5_canHold 9 = .ok (.if_icmp .ge 23, 3) := by decide +kernel
theorem dX5_canHold_12 : decode cX5_canHold 12 = .ok (.aload_n 0, 1) := by decide +kernel
theorem dX5_canHold_13 : decode cX5_canHold 13 = .ok (.getfield 47, 3) := by decide +kernel
theorem dX5_canHold_16 : decode cX5_canHold 16 = .ok (.iload_n 2, 1) := by decide +kernel
theorem dX5_canHold_17 : decode cX5_canHold 17 = .ok (.iaload, 1) := by decide +kernel
theorem dX5_canHold_18 : decode cX5_canHold 18 = .ok (.iload_n 1, 1) := by decide +kernel
theorem dX5_canHold_19 : decode cX5_canHold 19 = .ok (.iand, 1) := by decide +kernel
theorem dX5_canHold_20 : decode cX5_canHold 20 = .ok (.iload_n 1, 1) := by decide +kernel
theorem dX5_canHold_21 : decode cX5_canHold 21 = .ok (.if_icmp .ne 5, 3) := by decide +kernel
theorem dX5_canHold_24 : decode cX5_canHold 24 = .ok (.iconst 1, 1) := by decide +kernel
theorem dX5_canHold_25 : decode cX5_canHold 25 = .ok (.ireturn, 1) := by decide +kernel
theorem dX5_canHold_26 : decode cX5_canHold 26 = .ok (.iinc 2 1, 3) := by decide +kernel
theorem dX5_canHold_29 : decode cX5_canHold 29 = .ok (.goto (-27), 3) := by decide +kernel
theorem dX5_canHold_32 : decode cX5_canHold 32 = .ok (.iconst 0, 1) := by decide +kernel
theorem dX5_canHold_33 : decode cX5_canHold 33 = .ok (.ireturn, 1) := by decide +kernel
theorem dX5_all_0 : decode cX5_all 0 = .ok (.iconst 1, 1) := by decide +kernel
theorem dX5_all_1 : decode cX5_all 1 = .ok (.aload_n 0, 1) := by decide +kernel
theorem dX5_all_2 : decode cX5_all 2 = .ok (.getfield 109, 3) := by decide +kernel
theorem dX5_all_5 : decode cX5_all 5 = .ok (.ishl, 1) := by decide +kernel
theorem dX5_all_6 : decode cX5_all 6 = .ok (.iconst 1, 1) := by decide +kernel
theorem dX5_all_7 : decode cX5_all 7 = .ok (.isub, 1) := by decide +kernel
theorem dX5_all_8 : decode cX5_all 8 = .ok (.ireturn, 1) := by decide +kernel
theorem dX5_can_0 : decode cX5_can 0 = .ok (.aload_n 0, 1) := by decide +kernel
theorem dX5_can_1 : decode cX5_can 1 = .ok (.iconst 0, 1) := by decide +kernel
theorem dX5_can_2 : decode cX5_can 2 = .ok (.putfield 67, 3) := by decide +kernel
theorem dX5_can_5 : decode cX5_can 5 = .ok (.aload_n 0, 1) := by decide +kernel
theorem dX5_can_6 : decode cX5_can 6 = .ok (.aload_n 0, 1) := by decide +kernel
theorem dX5_can_7 : decode cX5_can 7 = .ok (.invokevirtual 116, 3) := by decide +kernel
theorem dX5_can_10 : decode cX5_can 10 = .ok (.invokevirtual 120, 3) := by decide +kernel
theorem dX5_can_13 : decode cX5_can 13 = .ok (.ireturn, 1) := by decide +kernel
theorem dX5_first_0 : decode cX5_first 0 = .ok (.aload_n 0, 1) := by decide +kernel
theorem dX5_first_1 : decode cX5_first 1 = .ok (.iconst 0, 1) := by decide +kernel
theorem dX5_first_2 : decode cX5_first 2 = .ok (.putfield 67, 3) := by decide +kernel
theorem dX5_first_5 : decode cX5_first 5 = .ok (.iconst 0, 1) := by decide +kernel
theorem dX5_first_6 : decode cX5_first 6 = .ok (.istore_n 1, 1) := by decide +kernel
theorem dX5_first_7 : decode cX5_first 7 = .ok (.iload_n 1, 1) := by decide +kernel
theorem dX5_first_8 : decode cX5_first 8 = .ok (.aload_n 0, 1) := by decide +kernel
theorem dX5_first_9 : decode cX5_first 9 = .ok (.getfield 109, 3) := by decide +kernel
theorem dX5_first_12 : decode cX5_first 12 = .ok (.if_icmp .ge 23, 3) := by decide +kernel
theorem dX5_first_15 : decode cX5_first 15 = .ok (.aload_n 0, 1) := by decide +kernel
theorem dX5_first_16 : decode cX5_first 16 = .ok (.iconst 2, 1) := by decide +kernel
theorem dX5_first_17 : decode cX5_first 17 = .ok (.iload_n 1, 1) := by decide +kernel
theorem dX5_first_18 : decode cX5_first 18 = .ok (.ishl, 1) := by decide +kernel
theorem dX5_first_19 : decode cX5_first 19 = .ok (.iconst 1, 1) := by decide +kernel
theorem dX5_first_20 : decode cX5_first 20 = .ok (.isub, 1) := by decide +kernel
theorem dX5_first_21 : decode cX5_first 21 = .ok (.invokevirtual 120, 3) := by decide +kernel
theorem dX5_first_24 : decode cX5_first 24 = .ok (.ifCond .ne 5, 3) := by decide +kernel
theorem dX5_first_27 : decode cX5_first 27 = .ok (.iload_n 1, 1) := by decide +kernel
theorem dX5_first_28 : decode cX5_first 28 = .ok (.ireturn, 1) := by decide +kernel
theorem dX5_first_29 : decode cX5_first 29 = .ok (.iinc 1 1, 3) := by decide +kernel
theorem dX5_first_32 : decode cX5_first 32 = .ok (.goto (-25), 3) := by decide +kernel
theorem dX5_first_35 : decode cX5_first 35 = .ok (.iconst (-1), 1) := by decide +kernel
theorem dX5_first_36 : decode cX5_first 36 = .ok (.ireturn, 1) := by decide +kernel
theorem dX5_without_0 : decode cX5_without 0 = .ok (.aload_n 0, 1) := by decide +kernel
theorem dX5_without_1 : decode cX5_without 1 = .ok (.iload_n 1, 1) := by decide +kernel
theorem dX5_without_2 : decode cX5_without 2 = .ok (.ifCond .lt 11, 3) := by decide +kernel
theorem dX5_without_5 : decode cX5_without 5 = .ok (.iload_n 1, 1) := by decide +kernel
theorem dX5_without_6 : decode cX5_without 6 = .ok (.aload_n 0, 1) := by decide +kernel
theorem dX5_without_7 : decode cX5_without 7 = .ok (.getfield 109, 3) := by decide +kernel
theorem dX5_without_10 : decode cX5_without 10 = .ok (.if_icmp .lt 7, 3) := by decide +kernel
theorem dX5_without_13 : decode cX5_without 13 = .ok (.iconst 1, 1) := by decide +kernel
theorem dX5_without_14 : decode cX5_without 14 = .ok (.goto 4, 3) := by decide +kernel
theorem dX5_without_17 : decode cX5_without 17 = .ok (.iconst 0, 1) := by decide +kernel
theorem dX5_without_18 : decode cX5_without 18 = .ok (.putfield 67, 3) := by decide +kernel
theorem dX5_without_21 : decode cX5_without 21 = .ok (.aload_n 0, 1) := by decide +kernel
theorem dX5_without_22 : decode cX5_without 22 = .ok (.getfield 67, 3) := by decide +kernel
theorem dX5_without_25 : decode cX5_without 25 = .ok (.ifCond .ne 24, 3) := by decide +kernel
theorem dX5_without_28 : decode cX5_without 28 = .ok (.aload_n 0, 1) := by decide +kernel
theorem dX5_without_29 : decode cX5_without 29 = .ok (.aload_n 0, 1) := by decide +kernel
theorem dX5_without_30 : decode cX5_without 30 = .ok (.invokevirtual 116, 3) := by decide +kernel
theorem dX5_without_33 : decode cX5_without 33 = .ok (.iconst 1, 1) := by decide +kernel
theorem dX5_without_34 : decode cX5_without 34 = .ok (.iload_n 1, 1) := by decide +kernel
theorem dX5_without_35 : decode cX5_without 35 = .ok (.ishl, 1) := by decide +kernel
theorem dX5_without_36 : decode cX5_without 36 = .ok (.iconst (-1), 1) := by decide +kernel
theorem dX5_without_37 : decode cX5_without 37 = .ok (.ixor, 1) := by decide +kernel
theorem dX5_without_38 : decode cX5_without 38 = .ok (.iand, 1) := by decide +kernel
theorem dX5_without_39 : decode cX5_without 39 = .ok (.invokevirtual 120, 3) := by decide +kernel
theorem dX5_without_42 : decode cX5_without 42 = .ok (.ifCond .eq 7, 3) := by decide +kernel
theorem dX5_without_45 : decode cX5_without 45 = .ok (.iconst 1, 1) := by decide +kernel
theorem dX5_without_46 : decode cX5_without 46 = .ok (.goto 4, 3) := by decide +kernel
theorem dX5_without_49 : decode cX5_without 49 = .ok (.iconst 0, 1) := by decide +kernel
theorem dX5_without_50 : decode cX5_without 50 = .ok (.ireturn, 1) := by decide +kernel
theorem dX5_same_0 : decode cX5_same 0 = .ok (.aload_n 0, 1) := by decide +kernel
theorem dX5_same_1 : decode cX5_same 1 = .ok (.aload_n 0, 1) := by decide +kernel
theorem dX5_same_2 : decode cX5_same 2 = .ok (.iload_n 1, 1) := by decide +kernel
theorem dX5_same_3 : decode cX5_same 3 = .ok (.invokevirtual 91, 3) := by decide +kernel
theorem dX5_same_6 : decode cX5_same 6 = .ok (.ifCond .eq 11, 3) := by decide +kernel
theorem dX5_same_9 : decode cX5_same 9 = .ok (.aload_n 0, 1) := by decide +kernel
theorem dX5_same_10 : decode cX5_same 10 = .ok (.iload_n 2, 1) := by decide +kernel
theorem dX5_same_11 : decode cX5_same 11 = .ok (.invokevirtual 91, 3) := by decide +kernel
theorem dX5_same_14 : decode cX5_same 14 = .ok (.ifCond .ne 7, 3) := by decide +kernel
theorem dX5_same_17 : decode cX5_same 17 = .ok (.iconst 1, 1) := by decide +kernel
theorem dX5_same_18 : decode cX5_same 18 = .ok (.goto 38, 3) := by decide +kernel
theorem dX5_same_21 : decode cX5_same 21 = .ok (.aload_n 0, 1) := by decide +kernel
theorem dX5_same_22 : decode cX5_same 22 = .ok (.getfield 13, 3) := by decide +kernel
theorem dX5_same_25 : decode cX5_same 25 = .ok (.iload_n 1, 1) := by decide +kernel
theorem dX5_same_26 : decode cX5_same 26 = .ok (.iaload, 1) := by decide +kernel
theorem dX5_same_27 : decode cX5_same 27 = .ok (.aload_n 0, 1) := by decide +kernel
theorem dX5_same_28 : decode cX5_same 28 = .ok (.getfield 13, 3) := by decide +kernel
theorem dX5_same_31 : decode cX5_same 31 = .ok (.iload_n 2, 1) := by decide +kernel
theorem dX5_same_32 : decode cX5_same 32 = .ok (.iaload, 1) := by decide +kernel
theorem dX5_same_33 : decode cX5_same 33 = .ok (.if_icmp .eq 7, 3) := by decide +kernel
theorem dX5_same_36 : decode cX5_same 36 = .ok (.iconst 2, 1) := by decide +kernel
theorem dX5_same_37 : decode cX5_same 37 = .ok (.goto 19, 3) := by decide +kernel
theorem dX5_same_40 : decode cX5_same 40 = .ok (.aload_n 0, 1) := by decide +kernel
theorem dX5_same_41 : decode cX5_same 41 = .ok (.aload_n 0, 1) := by decide +kernel
theorem dX5_same_42 : decode cX5_same 42 = .ok (.invokevirtual 116, 3) := by decide +kernel
theorem dX5_same_45 : decode cX5_same 45 = .ok (.invokevirtual 120, 3) := by decide +kernel
theorem dX5_same_48 : decode cX5_same 48 = .ok (.ifCond .ne 7, 3) := by decide +kernel
theorem dX5_same_51 : decode cX5_same 51 = .ok (.iconst 3, 1) := by decide +kernel
theorem dX5_same_52 : decode cX5_same 52 = .ok (.goto 4, 3) := by decide +kernel
theorem dX5_same_55 : decode cX5_same 55 = .ok (.iconst 0, 1) := by decide +kernel
theorem dX5_same_56 : decode cX5_same 56 = .ok (.putfield 67, 3) := by decide +kernel
theorem dX5_same_59 : decode cX5_same 59 = .ok (.aload_n 0, 1) := by decide +kernel
theorem dX5_same_60 : decode cX5_same 60 = .ok (.getfield 67, 3) := by decide +kernel
theorem dX5_same_63 : decode cX5_same 63 = .ok (.ifCond .le 5, 3) := by decide +kernel
theorem dX5_same_66 : decode cX5_same 66 = .ok (.iconst 0, 1) := by decide +kernel
theorem dX5_same_67 : decode cX5_same 67 = .ok (.ireturn, 1) := by decide +kernel
theorem dX5_same_68 : decode cX5_same 68 = .ok (.iconst 0, 1) := by decide +kernel
theorem dX5_same_69 : decode cX5_same 69 = .ok (.istore_n 3, 1) := by decide +kernel
theorem dX5_same_70 : decode cX5_same 70 = .ok (.iconst 1, 1) := by decide +kernel
theorem dX5_same_71 : decode cX5_same 71 = .ok (.istore 4, 2) := by decide +kernel
theorem dX5_same_73 : decode cX5_same 73 = .ok (.aload_n 0, 1) := by decide +kernel
theorem dX5_same_74 : decode cX5_same 74 = .ok (.invokevirtual 116, 3) := by decide +kernel
theorem dX5_same_77 : decode cX5_same 77 = .ok (.istore 5, 2) := by decide +kernel
theorem dX5_same_79 : decode cX5_same 79 = .ok (.iconst 0, 1) := by decide +kernel
theorem dX5_same_80 : decode cX5_same 80 = .ok (.istore 6, 2) := by decide +kernel
theorem dX5_same_82 : decode cX5_same 82 = .ok (.iload 6, 2) := by decide +kernel
theorem dX5_same_84 : decode cX5_same 84 = .ok (.iconst 5, 1) := by decide +kernel
theorem dX5_same_85 : decode cX5_same 85 = .ok (.if_icmp .ge 97, 3) := by decide +kernel
theorem dX5_same_88 : decode cX5_same 88 = .ok (.aload_n 0, 1) := by decide +kernel
theorem dX5_same_89 : decode cX5_same 89 = .ok (.getfield 50, 3) := by decide +kernel
theorem dX5_same_92 : decode cX5_same 92 = .ok (.iload 6, 2) := by decide +kernel
theorem dX5_same_94 : decode cX5_same 94 = .ok (.iaload, 1) := by decide +kernel
theorem dX5_same_95 : decode cX5_same 95 = .ok (.istore 7, 2) := by decide +kernel
theorem dX5_same_97 : decode cX5_same 97 = .ok (.iload 7, 2) := by decide +kernel
theorem dX5_same_99 : decode cX5_same 99 = .ok (.aload_n 0, 1) := by decide +kernel
theorem dX5_same_100 : decode cX5_same 100 = .ok (.getfield 50, 3) := by decide +kernel
theorem dX5_same_103 : decode cX5_same 103 = .ok (.iload 6, 2) := by decide +kernel
theorem dX5_same_105 : decode cX5_same 105 = .ok (.iconst 1, 1) := by decide +kernel
theorem dX5_same_106 : decode cX5_same 106 = .ok (.iadd, 1) := by decide +kernel
theorem dX5_same_107 : decode cX5_same 107 = .ok (.iaload, 1) := by decide +kernel
theorem dX5_same_108 : decode cX5_same 108 = .ok (.if_icmp .ge 68, 3) := by decide +kernel
theorem dX5_same_111 : decode cX5_same 111 = .ok (.aload_n 0, 1) := by decide +kernel
theorem dX5_same_112 : decode cX5_same 112 = .ok (.getfield 47, 3) := by decide +kernel
theorem dX5_same_115 : decode cX5_same 115 = .ok (.iload 7, 2) := by decide +kernel
theorem dX5_same_117 : decode cX5_same 117 = .ok (.iaload, 1) := by decide +kernel
theorem dX5_same_118 : decode cX5_same 118 = .ok (.iload 5, 2) := by decide +kernel
theorem dX5_same_120 : decode cX5_same 120 = .ok (.iand, 1) := by decide +kernel
theorem dX5_same_121 : decode cX5_same 121 = .ok (.iload 5, 2) := by decide +kernel
theorem dX5_same_123 : decode cX5_same 123 = .ok (.if_icmp .ne 47, 3) := by decide +kernel
theorem dX5_same_126 : decode cX5_same 126 = .ok (.aload_n 0, 1) := by decide +kernel
theorem dX5_same_127 : decode cX5_same 127 = .ok (.iload_n 1, 1) := by decide +kernel
theorem dX5_same_128 : decode cX5_same 128 = .ok (.iload_n 2, 1) := by decide +kernel
theorem dX5_same_129 : decode cX5_same 129 = .ok (.iload 6, 2) := by decide +kernel
theorem dX5_same_131 : decode cX5_same 131 = .ok (.iload 7, 2) := by decide +kernel
theorem dX5_same_133 : decode cX5_same 133 = .ok (.invokevirtual 105, 3) := by decide +kernel
theorem dX5_same_136 : decode cX5_same 136 = .ok (.istore 8, 2) := by decide +kernel
theorem dX5_same_138 : decode cX5_same 138 = .ok (.iload_n 3, 1) := by decide +kernel
theorem dX5_same_139 : decode cX5_same 139 = .ok (.ifCond .ne 8, 3) := by decide +kernel
theorem dX5_same_142 : decode cX5_same 142 = .ok (.iload 8, 2) := by decide +kernel
theorem dX5_same_144 : decode cX5_same 144 = .ok (.ifCond .eq 7, 3) := by decide +kernel
theorem dX5_same_147 : decode cX5_same 147 = .ok (.iconst 1, 1) := by decide +kernel
theorem dX5_same_148 : decode cX5_same 148 = .ok (.goto 4, 3) := by decide +kernel
theorem dX5_same_151 : decode cX5_same 151 = .ok (.iconst 0, 1) := by decide +kernel
theorem dX5_same_152 : decode cX5_same 152 = .ok (.istore_n 3, 1) := by decide +kernel
theorem dX5_same_153 : decode cX5_same 153 = .ok (.iload 4, 2) := by decide +kernel
theorem dX5_same_155 : decode cX5_same 155 = .ok (.ifCond .eq 12, 3) := by decide +kernel
theorem dX5_same_158 : decode cX5_same 158 = .ok (.iload 8, 2) := by decide +kernel
theorem dX5_same_160 : decode cX5_same 160 = .ok (.ifCond .eq 7, 3) := by decide +kernel
theorem dX5_same_163 : decode cX5_same 163 = .ok (.iconst 1, 1) := by decide +kernel
theorem dX5_same_164 : decode cX5_same 164 = .ok (.goto 4, 3) := by decide +kernel
theorem dX5_same_167 : decode cX5_same 167 = .ok (.iconst 0, 1) := by decide +kernel
theorem dX5_same_168 : decode cX5_same 168 = .ok (.istore 4, 2) := by decide +kernel
theorem dX5_same_170 : decode cX5_same 170 = .ok (.iinc 7 1, 3) := by decide +kernel
theorem dX5_same_173 : decode cX5_same 173 = .ok (.goto (-76), 3) := by decide +kernel
theorem dX5_same_176 : decode cX5_same 176 = .ok (.iinc 6 1, 3) := by decide +kernel
theorem dX5_same_179 : decode cX5_same 179 = .ok (.goto (-97), 3) := by decide +kernel
theorem dX5_same_182 : decode cX5_same 182 = .ok (.iload 4, 2) := by decide +kernel
theorem dX5_same_184 : decode cX5_same 184 = .ok (.ifCond .eq 7, 3) := by decide +kernel
theorem dX5_same_187 : decode cX5_same 187 = .ok (.iconst 1, 1) := by decide +kernel
theorem dX5_same_188 : decode cX5_same 188 = .ok (.goto 12, 3) := by decide +kernel
theorem dX5_same_191 : decode cX5_same 191 = .ok (.iload_n 3, 1) := by decide +kernel
theorem dX5_same_192 : decode cX5_same 192 = .ok (.ifCond .eq 7, 3) := by decide +kernel
theorem dX5_same_195 : decode cX5_same 195 = .ok (.iconst 2, 1) := by decide +kernel
theorem dX5_same_196 : decode cX5_same 196 = .ok (.goto 4, 3) := by decide +kernel
theorem dX5_same_199 : decode cX5_same 199 = .ok (.iconst 0, 1) := by decide +kernel
theorem dX5_same_200 : decode cX5_same 200 = .ok (.ireturn, 1) := by decide +kernel
theorem dX5_follows_0 : decode cX5_follows 0 = .ok (.aload_n 0, 1) := by decide +kernel
theorem dX5_follows_1 : decode cX5_follows 1 = .ok (.aload_n 0, 1) := by decide +kernel
theorem dX5_follows_2 : decode cX5_follows 2 = .ok (.getfield 102, 3) := by decide +kernel
theorem dX5_follows_5 : decode cX5_follows 5 = .ok (.ifCond .ne 7, 3) := by decide +kernel
theorem dX5_follows_8 : decode cX5_follows 8 = .ok (.iconst 1, 1) := by decide +kernel
theorem dX5_follows_9 : decode cX5_follows 9 = .ok (.goto 4, 3) := by decide +kernel
theorem dX5_follows_12 : decode cX5_follows 12 = .ok (.iconst 0, 1) := by decide +kernel
theorem dX5_follows_13 : decode cX5_follows 13 = .ok (.putfield 67, 3) := by decide +kernel
theorem dX5_follows_16 : decode cX5_follows 16 = .ok (.aload_n 0, 1) := by decide +kernel
theorem dX5_follows_17 : decode cX5_follows 17 = .ok (.getfield 67, 3) := by decide +kernel
theorem dX5_follows_20 : decode cX5_follows 20 = .ok (.ifCond .ne 7, 3) := by decide +kernel
theorem dX5_follows_23 : decode cX5_follows 23 = .ok (.iconst 1, 1) := by decide +kernel
theorem dX5_follows_24 : decode cX5_follows 24 = .ok (.goto 4, 3) := by decide +kernel
theorem dX5_follows_27 : decode cX5_follows 27 = .ok (.iconst 0, 1) := by decide +kernel
theorem dX5_follows_28 : decode cX5_follows 28 = .ok (.istore_n 1, 1) := by decide +kernel
theorem dX5_follows_29 : decode cX5_follows 29 = .ok (.aload_n 0, 1) := by decide +kernel
theorem dX5_follows_30 : decode cX5_follows 30 = .ok (.invokevirtual 116, 3) := by decide +kernel
theorem dX5_follows_33 : decode cX5_follows 33 = .ok (.istore_n 2, 1) := by decide +kernel
theorem dX5_follows_34 : decode cX5_follows 34 = .ok (.iconst 0, 1) := by decide +kernel
theorem dX5_follows_35 : decode cX5_follows 35 = .ok (.istore_n 3, 1) := by decide +kernel
theorem dX5_follows_36 : decode cX5_follows 36 = .ok (.iload_n 3, 1) := by decide +kernel
theorem dX5_follows_37 : decode cX5_follows 37 = .ok (.iconst 5, 1) := by decide +kernel
theorem dX5_follows_38 : decode cX5_follows 38 = .ok (.if_icmp .ge 73, 3) := by decide +kernel
theorem dX5_follows_41 : decode cX5_follows 41 = .ok (.iload_n 1, 1) := by decide +kernel
theorem dX5_follows_42 : decode cX5_follows 42 = .ok (.ifCond .eq 69, 3) := by decide +kernel
theorem dX5_follows_45 : decode cX5_follows 45 = .ok (.aload_n 0, 1) := by decide +kernel
theorem dX5_follows_46 : decode cX5_follows 46 = .ok (.getfield 50, 3) := by decide +kernel
theorem dX5_follows_49 : decode cX5_follows 49 = .ok (.iload_n 3, 1) := by decide +kernel
theorem dX5_follows_50 : decode cX5_follows 50 = .ok (.iaload, 1) := by decide +kernel
theorem dX5_follows_51 : decode cX5_follows 51 = .ok (.istore 4, 2) := by decide +kernel
theorem dX5_follows_53 : decode cX5_follows 53 = .ok (.iload 4, 2) := by decide +kernel
theorem dX5_follows_55 : decode cX5_follows 55 = .ok (.aload_n 0, 1) := by decide +kernel
theorem dX5_follows_56 : decode cX5_follows 56 = .ok (.getfield 50, 3) := by decide +kernel
theorem dX5_follows_59 : decode cX5_follows 59 = .ok (.iload_n 3, 1) := by decide +kernel
theorem dX5_follows_60 : decode cX5_follows 60 = .ok (.iconst 1, 1) := by decide +kernel
theorem dX5_follows_61 : decode cX5_follows 61 = .ok (.iadd, 1) := by decide +kernel
theorem dX5_follows_62 : decode cX5_follows 62 = .ok (.iaload, 1) := by decide +kernel
theorem dX5_follows_63 : decode cX5_follows 63 = .ok (.if_icmp .ge 42, 3) := by decide +kernel
theorem dX5_follows_66 : decode cX5_follows 66 = .ok (.iload_n 1, 1) := by decide +kernel
theorem dX5_follows_67 : decode cX5_follows 67 = .ok (.ifCond .eq 38, 3) := by decide +kernel
theorem dX5_follows_70 : decode cX5_follows 70 = .ok (.aload_n 0, 1) := by decide +kernel
theorem dX5_follows_71 : decode cX5_follows 71 = .ok (.getfield 47, 3) := by decide +kernel
theorem dX5_follows_74 : decode cX5_follows 74 = .ok (.iload 4, 2) := by decide +kernel
theorem dX5_follows_76 : decode cX5_follows 76 = .ok (.iaload, 1) := by decide +kernel
theorem dX5_follows_77 : decode cX5_follows 77 = .ok (.iload_n 2, 1) := by decide +kernel
theorem dX5_follows_78 : decode cX5_follows 78 = .ok (.iand, 1) := by decide +kernel
theorem dX5_follows_79 : decode cX5_follows 79 = .ok (.iload_n 2, 1) := by decide +kernel
theorem dX5_follows_80 : decode cX5_follows 80 = .ok (.if_icmp .ne 13, 3) := by decide +kernel
theorem dX5_follows_83 : decode cX5_follows 83 = .ok (.aload_n 0, 1) := by decide +kernel
theorem dX5_follows_84 : decode cX5_follows 84 = .ok (.iload_n 3, 1) := by decide +kernel
theorem dX5_follows_85 : decode cX5_follows 85 = .ok (.iload 4, 2) := by decide +kernel
theorem dX5_follows_87 : decode cX5_follows 87 = .ok (.invokevirtual 112, 3) := by decide +kernel
theorem dX5_follows_90 : decode cX5_follows 90 = .ok (.ifCond .eq 7, 3) := by decide +kernel
theorem dX5_follows_93 : decode cX5_follows 93 = .ok (.iconst 1, 1) := by decide +kernel
theorem dX5_follows_94 : decode cX5_follows 94 = .ok (.goto 4, 3) := by decide +kernel
theorem dX5_follows_97 : decode cX5_follows 97 = .ok (.iconst 0, 1) := by decide +kernel
theorem dX5_follows_98 : decode cX5_follows 98 = .ok (.istore_n 1, 1) := by decide +kernel
theorem dX5_follows_99 : decode cX5_follows 99 = .ok (.iinc 4 1, 3) := by decide +kernel
theorem dX5_follows_102 : decode cX5_follows 102 = .ok (.goto (-49), 3) := by decide +kernel
theorem dX5_follows_105 : decode cX5_follows 105 = .ok (.iinc 3 1, 3) := by decide +kernel
theorem dX5_follows_108 : decode cX5_follows 108 = .ok (.goto (-72), 3) := by decide +kernel
theorem dX5_follows_111 : decode cX5_follows 111 = .ok (.iload_n 1, 1) := by decide +kernel
theorem dX5_follows_112 : decode cX5_follows 112 = .ok (.ireturn, 1) := by decide +kernel
theorem dX5_apart_0 : decode cX5_apart 0 = .ok (.aload_n 0, 1) := by decide +kernel
theorem dX5_apart_1 : decode cX5_apart 1 = .ok (.aload_n 0, 1) := by decide +kernel
theorem dX5_apart_2 : decode cX5_apart 2 = .ok (.aload_n 0, 1) := by decide +kernel
theorem dX5_apart_3 : decode cX5_apart 3 = .ok (.invokevirtual 116, 3) := by decide +kernel
theorem dX5_apart_6 : decode cX5_apart 6 = .ok (.invokevirtual 120, 3) := by decide +kernel
theorem dX5_apart_9 : decode cX5_apart 9 = .ok (.ifCond .eq 7, 3) := by decide +kernel
theorem dX5_apart_12 : decode cX5_apart 12 = .ok (.iconst 0, 1) := by decide +kernel
theorem dX5_apart_13 : decode cX5_apart 13 = .ok (.goto 4, 3) := by decide +kernel
theorem dX5_apart_16 : decode cX5_apart 16 = .ok (.iconst 1, 1) := by decide +kernel
theorem dX5_apart_17 : decode cX5_apart 17 = .ok (.putfield 67, 3) := by decide +kernel
theorem dX5_apart_20 : decode cX5_apart 20 = .ok (.iload_n 1, 1) := by decide +kernel
theorem dX5_apart_21 : decode cX5_apart 21 = .ok (.ifCond .eq 7, 3) := by decide +kernel
theorem dX5_apart_24 : decode cX5_apart 24 = .ok (.iconst 3, 1) := by decide +kernel
theorem dX5_apart_25 : decode cX5_apart 25 = .ok (.goto 4, 3) := by decide +kernel
theorem dX5_apart_28 : decode cX5_apart 28 = .ok (.iconst 0, 1) := by decide +kernel
theorem dX5_apart_29 : decode cX5_apart 29 = .ok (.istore_n 2, 1) := by decide +kernel
theorem dX5_apart_30 : decode cX5_apart 30 = .ok (.aload_n 0, 1) := by decide +kernel
theorem dX5_apart_31 : decode cX5_apart 31 = .ok (.invokevirtual 116, 3) := by decide +kernel
theorem dX5_apart_34 : decode cX5_apart 34 = .ok (.istore_n 3, 1) := by decide +kernel
theorem dX5_apart_35 : decode cX5_apart 35 = .ok (.iconst 0, 1) := by decide +kernel
theorem dX5_apart_36 : decode cX5_apart 36 = .ok (.istore 4, 2) := by decide +kernel
theorem dX5_apart_38 : decode cX5_apart 38 = .ok (.iload 4, 2) := by decide +kernel
theorem dX5_apart_40 : decode cX5_apart 40 = .ok (.iconst 5, 1) := by decide +kernel
theorem dX5_apart_41 : decode cX5_apart 41 = .ok (.if_icmp .ge 129, 3) := by decide +kernel
theorem dX5_apart_44 : decode cX5_apart 44 = .ok (.iconst 0, 1) := by decide +kernel
theorem dX5_apart_45 : decode cX5_apart 45 = .ok (.istore 5, 2) := by decide +kernel
theorem dX5_apart_47 : decode cX5_apart 47 = .ok (.aload_n 0, 1) := by decide +kernel
theorem dX5_apart_48 : decode cX5_apart 48 = .ok (.getfield 50, 3) := by decide +kernel
theorem dX5_apart_51 : decode cX5_apart 51 = .ok (.iload 4, 2) := by decide +kernel
theorem dX5_apart_53 : decode cX5_apart 53 = .ok (.iaload, 1) := by decide +kernel
theorem dX5_apart_54 : decode cX5_apart 54 = .ok (.istore 6, 2) := by decide +kernel
theorem dX5_apart_56 : decode cX5_apart 56 = .ok (.iload 6, 2) := by decide +kernel
theorem dX5_apart_58 : decode cX5_apart 58 = .ok (.aload_n 0, 1) := by decide +kernel
theorem dX5_apart_59 : decode cX5_apart 59 = .ok (.getfield 50, 3) := by decide +kernel
theorem dX5_apart_62 : decode cX5_apart 62 = .ok (.iload 4, 2) := by decide +kernel
theorem dX5_apart_64 : decode cX5_apart 64 = .ok (.iconst 1, 1) := by decide +kernel
theorem dX5_apart_65 : decode cX5_apart 65 = .ok (.iadd, 1) := by decide +kernel
theorem dX5_apart_66 : decode cX5_apart 66 = .ok (.iaload, 1) := by decide +kernel
theorem dX5_apart_67 : decode cX5_apart 67 = .ok (.if_icmp .ge 34, 3) := by decide +kernel
theorem dX5_apart_70 : decode cX5_apart 70 = .ok (.iload 5, 2) := by decide +kernel
theorem dX5_apart_72 : decode cX5_apart 72 = .ok (.ifCond .ne 16, 3) := by decide +kernel
theorem dX5_apart_75 : decode cX5_apart 75 = .ok (.aload_n 0, 1) := by decide +kernel
theorem dX5_apart_76 : decode cX5_apart 76 = .ok (.getfield 47, 3) := by decide +kernel
theorem dX5_apart_79 : decode cX5_apart 79 = .ok (.iload 6, 2) := by decide +kernel
theorem dX5_apart_81 : decode cX5_apart 81 = .ok (.iaload, 1) := by decide +kernel
theorem dX5_apart_82 : decode cX5_apart 82 = .ok (.iload_n 3, 1) := by decide +kernel
theorem dX5_apart_83 : decode cX5_apart 83 = .ok (.iand, 1) := by decide +kernel
theorem dX5_apart_84 : decode cX5_apart 84 = .ok (.iload_n 3, 1) := by decide +kernel
theorem dX5_apart_85 : decode cX5_apart 85 = .ok (.if_icmp .ne 7, 3) := by decide +kernel
theorem dX5_apart_88 : decode cX5_apart 88 = .ok (.iconst 1, 1) := by decide +kernel
theorem dX5_apart_89 : decode cX5_apart 89 = .ok (.goto 4, 3) := by decide +kernel
theorem dX5_apart_92 : decode cX5_apart 92 = .ok (.iconst 0, 1) := by decide +kernel
theorem dX5_apart_93 : decode cX5_apart 93 = .ok (.istore 5, 2) := by decide +kernel
theorem dX5_apart_95 : decode cX5_apart 95 = .ok (.iinc 6 1, 3) := by decide +kernel
theorem dX5_apart_98 : decode cX5_apart 98 = .ok (.goto (-42), 3) := by decide +kernel
theorem dX5_apart_101 : decode cX5_apart 101 = .ok (.iload_n 1, 1) := by decide +kernel
theorem dX5_apart_102 : decode cX5_apart 102 = .ok (.ifCond .eq 22, 3) := by decide +kernel
theorem dX5_apart_105 : decode cX5_apart 105 = .ok (.aload_n 0, 1) := by decide +kernel
theorem dX5_apart_106 : decode cX5_apart 106 = .ok (.getfield 32, 3) := by decide +kernel
theorem dX5_apart_109 : decode cX5_apart 109 = .ok (.iload 4, 2) := by decide +kernel
theorem dX5_apart_111 : decode cX5_apart 111 = .ok (.iaload, 1) := by decide +kernel
theorem dX5_apart_112 : decode cX5_apart 112 = .ok (.iload_n 2, 1) := by decide +kernel
theorem dX5_apart_113 : decode cX5_apart 113 = .ok (.if_icmp .ge 7, 3) := by decide +kernel
theorem dX5_apart_116 : decode cX5_apart 116 = .ok (.iconst 1, 1) := by decide +kernel
theorem dX5_apart_117 : decode cX5_apart 117 = .ok (.goto 23, 3) := by decide +kernel
theorem dX5_apart_120 : decode cX5_apart 120 = .ok (.iconst 0, 1) := by decide +kernel
theorem dX5_apart_121 : decode cX5_apart 121 = .ok (.goto 19, 3) := by decide +kernel
theorem dX5_apart_124 : decode cX5_apart 124 = .ok (.aload_n 0, 1) := by decide +kernel
theorem dX5_apart_125 : decode cX5_apart 125 = .ok (.getfield 32, 3) := by decide +kernel
theorem dX5_apart_128 : decode cX5_apart 128 = .ok (.iload 4, 2) := by decide +kernel
theorem dX5_apart_130 : decode cX5_apart 130 = .ok (.iaload, 1) := by decide +kernel
theorem dX5_apart_131 : decode cX5_apart 131 = .ok (.iload_n 2, 1) := by decide +kernel
theorem dX5_apart_132 : decode cX5_apart 132 = .ok (.if_icmp .le 7, 3) := by decide +kernel
end
section
theorem dX5_apart_135 : decode cX5_apart 135 = .ok (.iconst 1, 1) := by decide +kernel
theorem dX5_apart_136 : decode cX5_apart 136 = .ok (.goto 4, 3) := by decide +kernel
theorem dX5_apart_139 : decode cX5_apart 139 = .ok (.iconst 0, 1) := by decide +kernel
theorem dX5_apart_140 : decode cX5_apart 140 = .ok (.istore 6, 2) := by decide +kernel
theorem dX5_apart_142 : decode cX5_apart 142 = .ok (.iload 5, 2) := by decide +kernel
theorem dX5_apart_144 : decode cX5_apart 144 = .ok (.ifCond .eq 18, 3) := by decide +kernel
theorem dX5_apart_147 : decode cX5_apart 147 = .ok (.iload 6, 2) := by decide +kernel
theorem dX5_apart_149 : decode cX5_apart 149 = .ok (.ifCond .eq 13, 3) := by decide +kernel
theorem dX5_apart_152 : decode cX5_apart 152 = .ok (.aload_n 0, 1) := by decide +kernel
theorem dX5_apart_153 : decode cX5_apart 153 = .ok (.getfield 32, 3) := by decide +kernel
theorem dX5_apart_156 : decode cX5_apart 156 = .ok (.iload 4, 2) := by decide +kernel
theorem dX5_apart_158 : decode cX5_apart 158 = .ok (.iaload, 1) := by decide +kernel
theorem dX5_apart_159 : decode cX5_apart 159 = .ok (.goto 4, 3) := by decide +kernel
theorem dX5_apart_162 : decode cX5_apart 162 = .ok (.iload_n 2, 1) := by decide +kernel
theorem dX5_apart_163 : decode cX5_apart 163 = .ok (.istore_n 2, 1) := by decide +kernel
theorem dX5_apart_164 : decode cX5_apart 164 = .ok (.iinc 4 1, 3) := by decide +kernel
theorem dX5_apart_167 : decode cX5_apart 167 = .ok (.goto (-129), 3) := by decide +kernel
theorem dX5_apart_170 : decode cX5_apart 170 = .ok (.aload_n 0, 1) := by decide +kernel
theorem dX5_apart_171 : decode cX5_apart 171 = .ok (.getfield 67, 3) := by decide +kernel
theorem dX5_apart_174 : decode cX5_apart 174 = .ok (.ifCond .ne 7, 3) := by decide +kernel
theorem dX5_apart_177 : decode cX5_apart 177 = .ok (.iload_n 2, 1) := by decide +kernel
theorem dX5_apart_178 : decode cX5_apart 178 = .ok (.goto 4, 3) := by decide +kernel
theorem dX5_apart_181 : decode cX5_apart 181 = .ok (.iconst 0, 1) := by decide +kernel
theorem dX5_apart_182 : decode cX5_apart 182 = .ok (.ireturn, 1) := by decide +kernel
theorem dJ7_fill_53178_0 : decode cJ7_fill_53178 0 = .ok (.iconst 0, 1) := by decide +kernel
theorem dJ7_fill_53178_1 : decode cJ7_fill_53178 1 = .ok (.istore_n 2, 1) := by decide +kernel
theorem dJ7_fill_53178_2 : decode cJ7_fill_53178 2 = .ok (.aload_n 0, 1) := by decide +kernel
theorem dJ7_fill_53178_3 : decode cJ7_fill_53178 3 = .ok (.arraylength, 1) := by decide +kernel
theorem dJ7_fill_53178_4 : decode cJ7_fill_53178 4 = .ok (.istore_n 3, 1) := by decide +kernel
theorem dJ7_fill_53178_5 : decode cJ7_fill_53178 5 = .ok (.iload_n 2, 1) := by decide +kernel
theorem dJ7_fill_53178_6 : decode cJ7_fill_53178 6 = .ok (.iload_n 3, 1) := by decide +kernel
theorem dJ7_fill_53178_7 : decode cJ7_fill_53178 7 = .ok (.if_icmp .ge 13, 3) := by decide +kernel
theorem dJ7_fill_53178_10 : decode cJ7_fill_53178 10 = .ok (.aload_n 0, 1) := by decide +kernel
theorem dJ7_fill_53178_11 : decode cJ7_fill_53178 11 = .ok (.iload_n 2, 1) := by decide +kernel
theorem dJ7_fill_53178_12 : decode cJ7_fill_53178 12 = .ok (.iload_n 1, 1) := by decide +kernel
theorem dJ7_fill_53178_13 : decode cJ7_fill_53178 13 = .ok (.iastore, 1) := by decide +kernel
theorem dJ7_fill_53178_14 : decode cJ7_fill_53178 14 = .ok (.iinc 2 1, 3) := by decide +kernel
theorem dJ7_fill_53178_17 : decode cJ7_fill_53178 17 = .ok (.goto (-12), 3) := by decide +kernel
theorem dJ7_fill_53178_20 : decode cJ7_fill_53178 20 = .ok (.return_, 1) := by decide +kernel
theorem dL_select_0 : decode cL_select 0 = .ok (.aload_n 3, 1) := by decide +kernel
theorem dL_select_1 : decode cL_select 1 = .ok (.iconst 0, 1) := by decide +kernel
theorem dL_select_2 : decode cL_select 2 = .ok (.aload_n 0, 1) := by decide +kernel
theorem dL_select_3 : decode cL_select 3 = .ok (.iload_n 1, 1) := by decide +kernel
theorem dL_select_4 : decode cL_select 4 = .ok (.iload_n 2, 1) := by decide +kernel
theorem dL_select_5 : decode cL_select 5 = .ok (.invokevirtual 7, 3) := by decide +kernel
theorem dL_select_8 : decode cL_select 8 = .ok (.i2l, 1) := by decide +kernel
theorem dL_select_9 : decode cL_select 9 = .ok (.lastore, 1) := by decide +kernel
theorem dL_select_10 : decode cL_select 10 = .ok (.goto 15, 3) := by decide +kernel
theorem dL_select_13 : decode cL_select 13 = .ok (.astore 4, 2) := by decide +kernel
theorem dL_select_15 : decode cL_select 15 = .ok (.iconst 1, 1) := by decide +kernel
theorem dL_select_16 : decode cL_select 16 = .ok (.ireturn, 1) := by decide +kernel
theorem dL_select_17 : decode cL_select 17 = .ok (.astore 4, 2) := by decide +kernel
theorem dL_select_19 : decode cL_select 19 = .ok (.iconst 2, 1) := by decide +kernel
theorem dL_select_20 : decode cL_select 20 = .ok (.ireturn, 1) := by decide +kernel
theorem dL_select_21 : decode cL_select 21 = .ok (.astore 4, 2) := by decide +kernel
theorem dL_select_23 : decode cL_select 23 = .ok (.iconst 3, 1) := by decide +kernel
theorem dL_select_24 : decode cL_select 24 = .ok (.ireturn, 1) := by decide +kernel
theorem dL_select_25 : decode cL_select 25 = .ok (.iconst 0, 1) := by decide +kernel
theorem dL_select_26 : decode cL_select 26 = .ok (.ireturn, 1) := by decide +kernel
theorem dL_store_0 : decode cL_store 0 = .ok (.aload 4, 2) := by decide +kernel
theorem dL_store_2 : decode cL_store 2 = .ok (.iconst 0, 1) := by decide +kernel
theorem dL_store_3 : decode cL_store 3 = .ok (.aload_n 0, 1) := by decide +kernel
theorem dL_store_4 : decode cL_store 4 = .ok (.iload_n 1, 1) := by decide +kernel
theorem dL_store_5 : decode cL_store 5 = .ok (.iload_n 2, 1) := by decide +kernel
theorem dL_store_6 : decode cL_store 6 = .ok (.iload_n 3, 1) := by decide +kernel
theorem dL_store_7 : decode cL_store 7 = .ok (.invokevirtual 19, 3) := by decide +kernel
theorem dL_store_10 : decode cL_store 10 = .ok (.i2l, 1) := by decide +kernel
theorem dL_store_11 : decode cL_store 11 = .ok (.lastore, 1) := by decide +kernel
theorem dL_store_12 : decode cL_store 12 = .ok (.goto 15, 3) := by decide +kernel
theorem dL_store_15 : decode cL_store 15 = .ok (.astore 5, 2) := by decide +kernel
theorem dL_store_17 : decode cL_store 17 = .ok (.iconst 1, 1) := by decide +kernel
theorem dL_store_18 : decode cL_store 18 = .ok (.ireturn, 1) := by decide +kernel
theorem dL_store_19 : decode cL_store 19 = .ok (.astore 5, 2) := by decide +kernel
theorem dL_store_21 : decode cL_store 21 = .ok (.iconst 2, 1) := by decide +kernel
theorem dL_store_22 : decode cL_store 22 = .ok (.ireturn, 1) := by decide +kernel
theorem dL_store_23 : decode cL_store 23 = .ok (.astore 5, 2) := by decide +kernel
theorem dL_store_25 : decode cL_store 25 = .ok (.iconst 3, 1) := by decide +kernel
theorem dL_store_26 : decode cL_store 26 = .ok (.ireturn, 1) := by decide +kernel
theorem dL_store_27 : decode cL_store 27 = .ok (.iconst 0, 1) := by decide +kernel
theorem dL_store_28 : decode cL_store 28 = .ok (.ireturn, 1) := by decide +kernel
theorem dL_literal_0 : decode cL_literal 0 = .ok (.aload 4, 2) := by decide +kernel
theorem dL_literal_2 : decode cL_literal 2 = .ok (.iconst 0, 1) := by decide +kernel
theorem dL_literal_3 : decode cL_literal 3 = .ok (.aload_n 0, 1) := by decide +kernel
theorem dL_literal_4 : decode cL_literal 4 = .ok (.iload_n 1, 1) := by decide +kernel
theorem dL_literal_5 : decode cL_literal 5 = .ok (.iload_n 2, 1) := by decide +kernel
theorem dL_literal_6 : decode cL_literal 6 = .ok (.iload_n 3, 1) := by decide +kernel
theorem dL_literal_7 : decode cL_literal 7 = .ok (.invokevirtual 23, 3) := by decide +kernel
theorem dL_literal_10 : decode cL_literal 10 = .ok (.i2l, 1) := by decide +kernel
theorem dL_literal_11 : decode cL_literal 11 = .ok (.lastore, 1) := by decide +kernel
theorem dL_literal_12 : decode cL_literal 12 = .ok (.goto 15, 3) := by decide +kernel
theorem dL_literal_15 : decode cL_literal 15 = .ok (.astore 5, 2) := by decide +kernel
theorem dL_literal_17 : decode cL_literal 17 = .ok (.iconst 1, 1) := by decide +kernel
theorem dL_literal_18 : decode cL_literal 18 = .ok (.ireturn, 1) := by decide +kernel
theorem dL_literal_19 : decode cL_literal 19 = .ok (.astore 5, 2) := by decide +kernel
theorem dL_literal_21 : decode cL_literal 21 = .ok (.iconst 2, 1) := by decide +kernel
theorem dL_literal_22 : decode cL_literal 22 = .ok (.ireturn, 1) := by decide +kernel
theorem dL_literal_23 : decode cL_literal 23 = .ok (.astore 5, 2) := by decide +kernel
theorem dL_literal_25 : decode cL_literal 25 = .ok (.iconst 3, 1) := by decide +kernel
theorem dL_literal_26 : decode cL_literal 26 = .ok (.ireturn, 1) := by decide +kernel
theorem dL_literal_27 : decode cL_literal 27 = .ok (.iconst 0, 1) := by decide +kernel
theorem dL_literal_28 : decode cL_literal 28 = .ok (.ireturn, 1) := by decide +kernel
theorem dL_claim_0 : decode cL_claim 0 = .ok (.aload_n 1, 1) := by decide +kernel
theorem dL_claim_1 : decode cL_claim 1 = .ok (.iconst 0, 1) := by decide +kernel
theorem dL_claim_2 : decode cL_claim 2 = .ok (.aload_n 0, 1) := by decide +kernel
theorem dL_claim_3 : decode cL_claim 3 = .ok (.invokevirtual 29, 3) := by decide +kernel
theorem dL_claim_6 : decode cL_claim 6 = .ok (.i2l, 1) := by decide +kernel
theorem dL_claim_7 : decode cL_claim 7 = .ok (.lastore, 1) := by decide +kernel
theorem dL_claim_8 : decode cL_claim 8 = .ok (.goto 9, 3) := by decide +kernel
theorem dL_claim_11 : decode cL_claim 11 = .ok (.astore_n 2, 1) := by decide +kernel
theorem dL_claim_12 : decode cL_claim 12 = .ok (.iconst 1, 1) := by decide +kernel
theorem dL_claim_13 : decode cL_claim 13 = .ok (.ireturn, 1) := by decide +kernel
theorem dL_claim_14 : decode cL_claim 14 = .ok (.astore_n 2, 1) := by decide +kernel
theorem dL_claim_15 : decode cL_claim 15 = .ok (.iconst 2, 1) := by decide +kernel
theorem dL_claim_16 : decode cL_claim 16 = .ok (.ireturn, 1) := by decide +kernel
theorem dL_claim_17 : decode cL_claim 17 = .ok (.iconst 0, 1) := by decide +kernel
theorem dL_claim_18 : decode cL_claim 18 = .ok (.ireturn, 1) := by decide +kernel
theorem dL_without_0 : decode cL_without 0 = .ok (.aload_n 2, 1) := by decide +kernel
theorem dL_without_1 : decode cL_without 1 = .ok (.iconst 0, 1) := by decide +kernel
theorem dL_without_2 : decode cL_without 2 = .ok (.aload_n 0, 1) := by decide +kernel
theorem dL_without_3 : decode cL_without 3 = .ok (.iload_n 1, 1) := by decide +kernel
theorem dL_without_4 : decode cL_without 4 = .ok (.invokevirtual 33, 3) := by decide +kernel
theorem dL_without_7 : decode cL_without 7 = .ok (.ifCond .eq 7, 3) := by decide +kernel
theorem dL_without_10 : decode cL_without 10 = .ok (.lconst 1, 1) := by decide +kernel
theorem dL_without_11 : decode cL_without 11 = .ok (.goto 4, 3) := by decide +kernel
theorem dL_without_14 : decode cL_without 14 = .ok (.lconst 0, 1) := by decide +kernel
theorem dL_without_15 : decode cL_without 15 = .ok (.lastore, 1) := by decide +kernel
theorem dL_without_16 : decode cL_without 16 = .ok (.goto 6, 3) := by decide +kernel
theorem dL_without_19 : decode cL_without 19 = .ok (.astore_n 3, 1) := by decide +kernel
theorem dL_without_20 : decode cL_without 20 = .ok (.iconst 1, 1) := by decide +kernel
theorem dL_without_21 : decode cL_without 21 = .ok (.ireturn, 1) := by decide +kernel
theorem dL_without_22 : decode cL_without 22 = .ok (.iconst 0, 1) := by decide +kernel
theorem dL_without_23 : decode cL_without 23 = .ok (.ireturn, 1) := by decide +kernel
theorem dL_same_0 : decode cL_same 0 = .ok (.aload_n 3, 1) := by decide +kernel
theorem dL_same_1 : decode cL_same 1 = .ok (.iconst 0, 1) := by decide +kernel
theorem dL_same_2 : decode cL_same 2 = .ok (.aload_n 0, 1) := by decide +kernel
theorem dL_same_3 : decode cL_same 3 = .ok (.iload_n 1, 1) := by decide +kernel
theorem dL_same_4 : decode cL_same 4 = .ok (.iload_n 2, 1) := by decide +kernel
theorem dL_same_5 : decode cL_same 5 = .ok (.invokevirtual 37, 3) := by decide +kernel
theorem dL_same_8 : decode cL_same 8 = .ok (.i2l, 1) := by decide +kernel
theorem dL_same_9 : decode cL_same 9 = .ok (.lastore, 1) := by decide +kernel
theorem dL_same_10 : decode cL_same 10 = .ok (.goto 15, 3) := by decide +kernel
theorem dL_same_13 : decode cL_same 13 = .ok (.astore 4, 2) := by decide +kernel
theorem dL_same_15 : decode cL_same 15 = .ok (.iconst 1, 1) := by decide +kernel
theorem dL_same_16 : decode cL_same 16 = .ok (.ireturn, 1) := by decide +kernel
theorem dL_same_17 : decode cL_same 17 = .ok (.astore 4, 2) := by decide +kernel
theorem dL_same_19 : decode cL_same 19 = .ok (.iconst 2, 1) := by decide +kernel
theorem dL_same_20 : decode cL_same 20 = .ok (.ireturn, 1) := by decide +kernel
theorem dL_same_21 : decode cL_same 21 = .ok (.astore 4, 2) := by decide +kernel
theorem dL_same_23 : decode cL_same 23 = .ok (.iconst 3, 1) := by decide +kernel
theorem dL_same_24 : decode cL_same 24 = .ok (.ireturn, 1) := by decide +kernel
theorem dL_same_25 : decode cL_same 25 = .ok (.iconst 0, 1) := by decide +kernel
theorem dL_same_26 : decode cL_same 26 = .ok (.ireturn, 1) := by decide +kernel
theorem dL_follows_0 : decode cL_follows 0 = .ok (.aload_n 1, 1) := by decide +kernel
theorem dL_follows_1 : decode cL_follows 1 = .ok (.iconst 0, 1) := by decide +kernel
theorem dL_follows_2 : decode cL_follows 2 = .ok (.aload_n 0, 1) := by decide +kernel
theorem dL_follows_3 : decode cL_follows 3 = .ok (.invokevirtual 40, 3) := by decide +kernel
theorem dL_follows_6 : decode cL_follows 6 = .ok (.ifCond .eq 7, 3) := by decide +kernel
theorem dL_follows_9 : decode cL_follows 9 = .ok (.lconst 1, 1) := by decide +kernel
theorem dL_follows_10 : decode cL_follows 10 = .ok (.goto 4, 3) := by decide +kernel
theorem dL_follows_13 : decode cL_follows 13 = .ok (.lconst 0, 1) := by decide +kernel
theorem dL_follows_14 : decode cL_follows 14 = .ok (.lastore, 1) := by decide +kernel
theorem dL_follows_15 : decode cL_follows 15 = .ok (.goto 6, 3) := by decide +kernel
theorem dL_follows_18 : decode cL_follows 18 = .ok (.astore_n 2, 1) := by decide +kernel
theorem dL_follows_19 : decode cL_follows 19 = .ok (.iconst 1, 1) := by decide +kernel
theorem dL_follows_20 : decode cL_follows 20 = .ok (.ireturn, 1) := by decide +kernel
theorem dL_follows_21 : decode cL_follows 21 = .ok (.iconst 0, 1) := by decide +kernel
theorem dL_follows_22 : decode cL_follows 22 = .ok (.ireturn, 1) := by decide +kernel
theorem dL_apart_0 : decode cL_apart 0 = .ok (.aload_n 2, 1) := by decide +kernel
theorem dL_apart_1 : decode cL_apart 1 = .ok (.iconst 0, 1) := by decide +kernel
theorem dL_apart_2 : decode cL_apart 2 = .ok (.aload_n 0, 1) := by decide +kernel
theorem dL_apart_3 : decode cL_apart 3 = .ok (.iload_n 1, 1) := by decide +kernel
theorem dL_apart_4 : decode cL_apart 4 = .ok (.invokevirtual 44, 3) := by decide +kernel
theorem dL_apart_7 : decode cL_apart 7 = .ok (.i2l, 1) := by decide +kernel
theorem dL_apart_8 : decode cL_apart 8 = .ok (.lastore, 1) := by decide +kernel
theorem dL_apart_9 : decode cL_apart 9 = .ok (.goto 6, 3) := by decide +kernel
theorem dL_apart_12 : decode cL_apart 12 = .ok (.astore_n 3, 1) := by decide +kernel
theorem dL_apart_13 : decode cL_apart 13 = .ok (.iconst 1, 1) := by decide +kernel
theorem dL_apart_14 : decode cL_apart 14 = .ok (.ireturn, 1) := by decide +kernel
theorem dL_apart_15 : decode cL_apart 15 = .ok (.iconst 0, 1) := by decide +kernel
theorem dL_apart_16 : decode cL_apart 16 = .ok (.ireturn, 1) := by decide +kernel
theorem dL_law_0 : decode cL_law 0 = .ok (.new 8, 3) := by decide +kernel
theorem dL_law_3 : decode cL_law 3 = .ok (.dup, 1) := by decide +kernel
theorem dL_law_4 : decode cL_law 4 = .ok (.invokespecial 48, 3) := by decide +kernel
theorem dL_law_7 : decode cL_law 7 = .ok (.astore_n 1, 1) := by decide +kernel
theorem dL_law_8 : decode cL_law 8 = .ok (.new 49, 3) := by decide +kernel
theorem dL_law_11 : decode cL_law 11 = .ok (.dup, 1) := by decide +kernel
theorem dL_law_12 : decode cL_law 12 = .ok (.invokespecial 51, 3) := by decide +kernel
theorem dL_law_15 : decode cL_law 15 = .ok (.astore_n 2, 1) := by decide +kernel
theorem dL_law_16 : decode cL_law 16 = .ok (.iconst 1, 1) := by decide +kernel
theorem dL_law_17 : decode cL_law 17 = .ok (.newarray .long, 2) := by decide +kernel
theorem dL_law_19 : decode cL_law 19 = .ok (.astore_n 3, 1) := by decide +kernel
theorem dL_law_20 : decode cL_law 20 = .ok (.iconst 0, 1) := by decide +kernel
theorem dL_law_21 : decode cL_law 21 = .ok (.istore 4, 2) := by decide +kernel
theorem dL_law_23 : decode cL_law 23 = .ok (.iload 4, 2) := by decide +kernel
theorem dL_law_25 : decode cL_law 25 = .ok (.aload_n 0, 1) := by decide +kernel
theorem dL_law_26 : decode cL_law 26 = .ok (.arraylength, 1) := by decide +kernel
theorem dL_law_27 : decode cL_law 27 = .ok (.iconst 4, 1) := by decide +kernel
theorem dL_law_28 : decode cL_law 28 = .ok (.isub, 1) := by decide +kernel
theorem dL_law_29 : decode cL_law 29 = .ok (.if_icmp .gt 761, 3) := by decide +kernel
theorem dL_law_32 : decode cL_law 32 = .ok (.aload_n 0, 1) := by decide +kernel
theorem dL_law_33 : decode cL_law 33 = .ok (.iload 4, 2) := by decide +kernel
theorem dL_law_35 : decode cL_law 35 = .ok (.iaload, 1) := by decide +kernel
theorem dL_law_36 : decode cL_law 36 = .ok (.bipush 15, 2) := by decide +kernel
theorem dL_law_38 : decode cL_law 38 = .ok (.iand, 1) := by decide +kernel
theorem dL_law_39 : decode cL_law 39 = .ok (.tableswitch 745 0 15 #[77, 145, 225, 238, 263, 359, 372, 383, 427, 452, 465, 478, 491, 554, 622, 673], 77) := by decide +kernel
theorem dL_law_116 : decode cL_law 116 = .ok (.aload_n 1, 1) := by decide +kernel
theorem dL_law_117 : decode cL_law 117 = .ok (.aload_n 0, 1) := by decide +kernel
theorem dL_law_118 : decode cL_law 118 = .ok (.iload 4, 2) := by decide +kernel
theorem dL_law_120 : decode cL_law 120 = .ok (.iconst 1, 1) := by decide +kernel
theorem dL_law_121 : decode cL_law 121 = .ok (.iadd, 1) := by decide +kernel
theorem dL_law_122 : decode cL_law 122 = .ok (.iaload, 1) := by decide +kernel
theorem dL_law_123 : decode cL_law 123 = .ok (.aload_n 0, 1) := by decide +kernel
theorem dL_law_124 : decode cL_law 124 = .ok (.iload 4, 2) := by decide +kernel
theorem dL_law_126 : decode cL_law 126 = .ok (.iconst 2, 1) := by decide +kernel
theorem dL_law_127 : decode cL_law 127 = .ok (.iadd, 1) := by decide +kernel
theorem dL_law_128 : decode cL_law 128 = .ok (.iaload, 1) := by decide +kernel
theorem dL_law_129 : decode cL_law 129 = .ok (.aload_n 3, 1) := by decide +kernel
theorem dL_law_130 : decode cL_law 130 = .ok (.invokestatic 52, 3) := by decide +kernel
theorem dL_law_133 : decode cL_law 133 = .ok (.istore 5, 2) := by decide +kernel
theorem dL_law_135 : decode cL_law 135 = .ok (.aload_n 2, 1) := by decide +kernel
theorem dL_law_136 : decode cL_law 136 = .ok (.aload_n 0, 1) := by decide +kernel
theorem dL_law_137 : decode cL_law 137 = .ok (.iload 4, 2) := by decide +kernel
theorem dL_law_139 : decode cL_law 139 = .ok (.iconst 1, 1) := by decide +kernel
theorem dL_law_140 : decode cL_law 140 = .ok (.iadd, 1) := by decide +kernel
theorem dL_law_141 : decode cL_law 141 = .ok (.iaload, 1) := by decide +kernel
theorem dL_law_142 : decode cL_law 142 = .ok (.aload_n 0, 1) := by decide +kernel
theorem dL_law_143 : decode cL_law 143 = .ok (.iload 4, 2) := by decide +kernel
theorem dL_law_145 : decode cL_law 145 = .ok (.iconst 2, 1) := by decide +kernel
theorem dL_law_146 : decode cL_law 146 = .ok (.iadd, 1) := by decide +kernel
theorem dL_law_147 : decode cL_law 147 = .ok (.iaload, 1) := by decide +kernel
theorem dL_law_148 : decode cL_law 148 = .ok (.invokevirtual 57, 3) := by decide +kernel
theorem dL_law_151 : decode cL_law 151 = .ok (.istore 6, 2) := by decide +kernel
theorem dL_law_153 : decode cL_law 153 = .ok (.aload_n 2, 1) := by decide +kernel
theorem dL_law_154 : decode cL_law 154 = .ok (.invokevirtual 58, 3) := by decide +kernel
theorem dL_law_157 : decode cL_law 157 = .ok (.iload 5, 2) := by decide +kernel
theorem dL_law_159 : decode cL_law 159 = .ok (.if_icmp .eq 5, 3) := by decide +kernel
theorem dL_law_162 : decode cL_law 162 = .ok (.iconst 0, 1) := by decide +kernel
theorem dL_law_163 : decode cL_law 163 = .ok (.ireturn, 1) := by decide +kernel
theorem dL_law_164 : decode cL_law 164 = .ok (.iload 5, 2) := by decide +kernel
theorem dL_law_166 : decode cL_law 166 = .ok (.ifCond .ne 15, 3) := by decide +kernel
theorem dL_law_169 : decode cL_law 169 = .ok (.aload_n 3, 1) := by decide +kernel
theorem dL_law_170 : decode cL_law 170 = .ok (.iconst 0, 1) := by decide +kernel
theorem dL_law_171 : decode cL_law 171 = .ok (.laload, 1) := by decide +kernel
theorem dL_law_172 : decode cL_law 172 = .ok (.iload 6, 2) := by decide +kernel
theorem dL_law_174 : decode cL_law 174 = .ok (.i2l, 1) := by decide +kernel
theorem dL_law_175 : decode cL_law 175 = .ok (.lcmp, 1) := by decide +kernel
theorem dL_law_176 : decode cL_law 176 = .ok (.ifCond .eq 5, 3) := by decide +kernel
theorem dL_law_179 : decode cL_law 179 = .ok (.iconst 0, 1) := by decide +kernel
theorem dL_law_180 : decode cL_law 180 = .ok (.ireturn, 1) := by decide +kernel
theorem dL_law_181 : decode cL_law 181 = .ok (.goto 603, 3) := by decide +kernel
theorem dL_law_184 : decode cL_law 184 = .ok (.aload_n 1, 1) := by decide +kernel
theorem dL_law_185 : decode cL_law 185 = .ok (.aload_n 0, 1) := by decide +kernel
theorem dL_law_186 : decode cL_law 186 = .ok (.iload 4, 2) := by decide +kernel
theorem dL_law_188 : decode cL_law 188 = .ok (.iconst 1, 1) := by decide +kernel
theorem dL_law_189 : decode cL_law 189 = .ok (.iadd, 1) := by decide +kernel
theorem dL_law_190 : decode cL_law 190 = .ok (.iaload, 1) := by decide +kernel
theorem dL_law_191 : decode cL_law 191 = .ok (.aload_n 0, 1) := by decide +kernel
theorem dL_law_192 : decode cL_law 192 = .ok (.iload 4, 2) := by decide +kernel
theorem dL_law_194 : decode cL_law 194 = .ok (.iconst 2, 1) := by decide +kernel
theorem dL_law_195 : decode cL_law 195 = .ok (.iadd, 1) := by decide +kernel
theorem dL_law_196 : decode cL_law 196 = .ok (.iaload, 1) := by decide +kernel
theorem dL_law_197 : decode cL_law 197 = .ok (.aload_n 0, 1) := by decide +kernel
theorem dL_law_198 : decode cL_law 198 = .ok (.iload 4, 2) := by decide +kernel
theorem dL_law_200 : decode cL_law 200 = .ok (.iconst 3, 1) := by decide +kernel
theorem dL_law_201 : decode cL_law 201 = .ok (.iadd, 1) := by decide +kernel
theorem dL_law_202 : decode cL_law 202 = .ok (.iaload, 1) := by decide +kernel
theorem dL_law_203 : decode cL_law 203 = .ok (.aload_n 3, 1) := by decide +kernel
theorem dL_law_204 : decode cL_law 204 = .ok (.invokestatic 61, 3) := by decide +kernel
theorem dL_law_207 : decode cL_law 207 = .ok (.istore 5, 2) := by decide +kernel
theorem dL_law_209 : decode cL_law 209 = .ok (.aload_n 2, 1) := by decide +kernel
theorem dL_law_210 : decode cL_law 210 = .ok (.aload_n 0, 1) := by decide +kernel
theorem dL_law_211 : decode cL_law 211 = .ok (.iload 4, 2) := by decide +kernel
theorem dL_law_213 : decode cL_law 213 = .ok (.iconst 1, 1) := by decide +kernel
theorem dL_law_214 : decode cL_law 214 = .ok (.iadd, 1) := by decide +kernel
theorem dL_law_215 : decode cL_law 215 = .ok (.iaload, 1) := by decide +kernel
theorem dL_law_216 : decode cL_law 216 = .ok (.aload_n 0, 1) := by decide +kernel
theorem dL_law_217 : decode cL_law 217 = .ok (.iload 4, 2) := by decide +kernel
theorem dL_law_219 : decode cL_law 219 = .ok (.iconst 2, 1) := by decide +kernel
theorem dL_law_220 : decode cL_law 220 = .ok (.iadd, 1) := by decide +kernel
theorem dL_law_221 : decode cL_law 221 = .ok (.iaload, 1) := by decide +kernel
theorem dL_law_222 : decode cL_law 222 = .ok (.aload_n 0, 1) := by decide +kernel
theorem dL_law_223 : decode cL_law 223 = .ok (.iload 4, 2) := by decide +kernel
theorem dL_law_225 : decode cL_law 225 = .ok (.iconst 3, 1) := by decide +kernel
theorem dL_law_226 : decode cL_law 226 = .ok (.iadd, 1) := by decide +kernel
theorem dL_law_227 : decode cL_law 227 = .ok (.iaload, 1) := by decide +kernel
theorem dL_law_228 : decode cL_law 228 = .ok (.invokevirtual 64, 3) := by decide +kernel
theorem dL_law_231 : decode cL_law 231 = .ok (.istore 6, 2) := by decide +kernel
theorem dL_law_233 : decode cL_law 233 = .ok (.aload_n 2, 1) := by decide +kernel
theorem dL_law_234 : decode cL_law 234 = .ok (.invokevirtual 58, 3) := by decide +kernel
theorem dL_law_237 : decode cL_law 237 = .ok (.iload 5, 2) := by decide +kernel
theorem dL_law_239 : decode cL_law 239 = .ok (.if_icmp .eq 5, 3) := by decide +kernel
theorem dL_law_242 : decode cL_law 242 = .ok (.iconst 0, 1) := by decide +kernel
theorem dL_law_243 : decode cL_law 243 = .ok (.ireturn, 1) := by decide +kernel
theorem dL_law_244 : decode cL_law 244 = .ok (.iload 5, 2) := by decide +kernel
theorem dL_law_246 : decode cL_law 246 = .ok (.ifCond .ne 15, 3) := by decide +kernel
theorem dL_law_249 : decode cL_law 249 = .ok (.aload_n 3, 1) := by decide +kernel
theorem dL_law_250 : decode cL_law 250 = .ok (.iconst 0, 1) := by decide +kernel
theorem dL_law_251 : decode cL_law 251 = .ok (.laload, 1) := by decide +kernel
theorem dL_law_252 : decode cL_law 252 = .ok (.iload 6, 2) := by decide +kernel
theorem dL_law_254 : decode cL_law 254 = .ok (.i2l, 1) := by decide +kernel
theorem dL_law_255 : decode cL_law 255 = .ok (.lcmp, 1) := by decide +kernel
theorem dL_law_256 : decode cL_law 256 = .ok (.ifCond .eq 5, 3) := by decide +kernel
theorem dL_law_259 : decode cL_law 259 = .ok (.iconst 0, 1) := by decide +kernel
theorem dL_law_260 : decode cL_law 260 = .ok (.ireturn, 1) := by decide +kernel
theorem dL_law_261 : decode cL_law 261 = .ok (.goto 523, 3) := by decide +kernel
theorem dL_law_264 : decode cL_law 264 = .ok (.aload_n 1, 1) := by decide +kernel
theorem dL_law_265 : decode cL_law 265 = .ok (.invokevirtual 65, 3) := by decide +kernel
theorem dL_law_268 : decode cL_law 268 = .ok (.aload_n 2, 1) := by decide +kernel
theorem dL_law_269 : decode cL_law 269 = .ok (.invokevirtual 68, 3) := by decide +kernel
theorem dL_law_272 : decode cL_law 272 = .ok (.if_icmp .eq 512, 3) := by decide +kernel
theorem dL_law_275 : decode cL_law 275 = .ok (.iconst 0, 1) := by decide +kernel
theorem dL_law_276 : decode cL_law 276 = .ok (.ireturn, 1) := by decide +kernel
theorem dL_law_277 : decode cL_law 277 = .ok (.aload_n 1, 1) := by decide +kernel
theorem dL_law_278 : decode cL_law 278 = .ok (.aload_n 0, 1) := by decide +kernel
theorem dL_law_279 : decode cL_law 279 = .ok (.iload 4, 2) := by decide +kernel
theorem dL_law_281 : decode cL_law 281 = .ok (.iconst 1, 1) := by decide +kernel
theorem dL_law_282 : decode cL_law 282 = .ok (.iadd, 1) := by decide +kernel
theorem dL_law_283 : decode cL_law 283 = .ok (.iaload, 1) := by decide +kernel
theorem dL_law_284 : decode cL_law 284 = .ok (.invokevirtual 69, 3) := by decide +kernel
theorem dL_law_287 : decode cL_law 287 = .ok (.aload_n 2, 1) := by decide +kernel
theorem dL_law_288 : decode cL_law 288 = .ok (.aload_n 0, 1) := by decide +kernel
theorem dL_law_289 : decode cL_law 289 = .ok (.iload 4, 2) := by decide +kernel
theorem dL_law_291 : decode cL_law 291 = .ok (.iconst 1, 1) := by decide +kernel
theorem dL_law_292 : decode cL_law 292 = .ok (.iadd, 1) := by decide +kernel
theorem dL_law_293 : decode cL_law 293 = .ok (.iaload, 1) := by decide +kernel
theorem dL_law_294 : decode cL_law 294 = .ok (.invokevirtual 73, 3) := by decide +kernel
theorem dL_law_297 : decode cL_law 297 = .ok (.if_icmp .eq 487, 3) := by decide +kernel
theorem dL_law_300 : decode cL_law 300 = .ok (.iconst 0, 1) := by decide +kernel
theorem dL_law_301 : decode cL_law 301 = .ok (.ireturn, 1) := by decide +kernel
theorem dL_law_302 : decode cL_law 302 = .ok (.aload_n 1, 1) := by decide +kernel
theorem dL_law_303 : decode cL_law 303 = .ok (.aload_n 0, 1) := by decide +kernel
theorem dL_law_304 : decode cL_law 304 = .ok (.iload 4, 2) := by decide +kernel
theorem dL_law_306 : decode cL_law 306 = .ok (.iconst 1, 1) := by decide +kernel
theorem dL_law_307 : decode cL_law 307 = .ok (.iadd, 1) := by decide +kernel
theorem dL_law_308 : decode cL_law 308 = .ok (.iaload, 1) := by decide +kernel
theorem dL_law_309 : decode cL_law 309 = .ok (.aload_n 0, 1) := by decide +kernel
theorem dL_law_310 : decode cL_law 310 = .ok (.iload 4, 2) := by decide +kernel
theorem dL_law_312 : decode cL_law 312 = .ok (.iconst 2, 1) := by decide +kernel
theorem dL_law_313 : decode cL_law 313 = .ok (.iadd, 1) := by decide +kernel
theorem dL_law_314 : decode cL_law 314 = .ok (.iaload, 1) := by decide +kernel
theorem dL_law_315 : decode cL_law 315 = .ok (.aload_n 0, 1) := by decide +kernel
theorem dL_law_316 : decode cL_law 316 = .ok (.iload 4, 2) := by decide +kernel
theorem dL_law_318 : decode cL_law 318 = .ok (.iconst 3, 1) := by decide +kernel
theorem dL_law_319 : decode cL_law 319 = .ok (.iadd, 1) := by decide +kernel
theorem dL_law_320 : decode cL_law 320 = .ok (.iaload, 1) := by decide +kernel
theorem dL_law_321 : decode cL_law 321 = .ok (.ifCond .eq 7, 3) := by decide +kernel
theorem dL_law_324 : decode cL_law 324 = .ok (.iconst 1, 1) := by decide +kernel
theorem dL_law_325 : decode cL_law 325 = .ok (.goto 4, 3) := by decide +kernel
theorem dL_law_328 : decode cL_law 328 = .ok (.iconst 0, 1) := by decide +kernel
theorem dL_law_329 : decode cL_law 329 = .ok (.aload_n 3, 1) := by decide +kernel
theorem dL_law_330 : decode cL_law 330 = .ok (.invokestatic 74, 3) := by decide +kernel
theorem dL_law_333 : decode cL_law 333 = .ok (.istore 5, 2) := by decide +kernel
theorem dL_law_335 : decode cL_law 335 = .ok (.aload_n 2, 1) := by decide +kernel
theorem dL_law_336 : decode cL_law 336 = .ok (.aload_n 0, 1) := by decide +kernel
theorem dL_law_337 : decode cL_law 337 = .ok (.iload 4, 2) := by decide +kernel
theorem dL_law_339 : decode cL_law 339 = .ok (.iconst 1, 1) := by decide +kernel
theorem dL_law_340 : decode cL_law 340 = .ok (.iadd, 1) := by decide +kernel
theorem dL_law_341 : decode cL_law 341 = .ok (.iaload, 1) := by decide +kernel
theorem dL_law_342 : decode cL_law 342 = .ok (.aload_n 0, 1) := by decide +kernel
theorem dL_law_343 : decode cL_law 343 = .ok (.iload 4, 2) := by decide +kernel
theorem dL_law_345 : decode cL_law 345 = .ok (.iconst 2, 1) := by decide +kernel
theorem dL_law_346 : decode cL_law 346 = .ok (.iadd, 1) := by decide +kernel
theorem dL_law_347 : decode cL_law 347 = .ok (.iaload, 1) := by decide +kernel
theorem dL_law_348 : decode cL_law 348 = .ok (.aload_n 0, 1) := by decide +kernel
theorem dL_law_349 : decode cL_law 349 = .ok (.iload 4, 2) := by decide +kernel
theorem dL_law_351 : decode cL_law 351 = .ok (.iconst 3, 1) := by decide +kernel
theorem dL_law_352 : decode cL_law 352 = .ok (.iadd, 1) := by decide +kernel
theorem dL_law_353 : decode cL_law 353 = .ok (.iaload, 1) := by decide +kernel
theorem dL_law_354 : decode cL_law 354 = .ok (.ifCond .eq 7, 3) := by decide +kernel
theorem dL_law_357 : decode cL_law 357 = .ok (.iconst 1, 1) := by decide +kernel
theorem dL_law_358 : decode cL_law 358 = .ok (.goto 4, 3) := by decide +kernel
theorem dL_law_361 : decode cL_law 361 = .ok (.iconst 0, 1) := by decide +kernel
theorem dL_law_362 : decode cL_law 362 = .ok (.invokevirtual 77, 3) := by decide +kernel
theorem dL_law_365 : decode cL_law 365 = .ok (.istore 6, 2) := by decide +kernel
theorem dL_law_367 : decode cL_law 367 = .ok (.aload_n 2, 1) := by decide +kernel
theorem dL_law_368 : decode cL_law 368 = .ok (.invokevirtual 58, 3) := by decide +kernel
theorem dL_law_371 : decode cL_law 371 = .ok (.iload 5, 2) := by decide +kernel
theorem dL_law_373 : decode cL_law 373 = .ok (.if_icmp .eq 5, 3) := by decide +kernel
theorem dL_law_376 : decode cL_law 376 = .ok (.iconst 0, 1) := by decide +kernel
theorem dL_law_377 : decode cL_law 377 = .ok (.ireturn, 1) := by decide +kernel
theorem dL_law_378 : decode cL_law 378 = .ok (.iload 5, 2) := by decide +kernel
theorem dL_law_380 : decode cL_law 380 = .ok (.ifCond .ne 15, 3) := by decide +kernel
theorem dL_law_383 : decode cL_law 383 = .ok (.aload_n 3, 1) := by decide +kernel
theorem dL_law_384 : decode cL_law 384 = .ok (.iconst 0, 1) := by decide +kernel
theorem dL_law_385 : decode cL_law 385 = .ok (.laload, 1) := by decide +kernel
theorem dL_law_386 : decode cL_law 386 = .ok (.iload 6, 2) := by decide +kernel
theorem dL_law_388 : decode cL_law 388 = .ok (.i2l, 1) := by decide +kernel
theorem dL_law_389 : decode cL_law 389 = .ok (.lcmp, 1) := by decide +kernel
theorem dL_law_390 : decode cL_law 390 = .ok (.ifCond .eq 5, 3) := by decide +kernel
theorem dL_law_393 : decode cL_law 393 = .ok (.iconst 0, 1) := by decide +kernel
theorem dL_law_394 : decode cL_law 394 = .ok (.ireturn, 1) := by decide +kernel
theorem dL_law_395 : decode cL_law 395 = .ok (.goto 389, 3) := by decide +kernel
theorem dL_law_398 : decode cL_law 398 = .ok (.aload_n 1, 1) := by decide +kernel
theorem dL_law_399 : decode cL_law 399 = .ok (.invokevirtual 78, 3) := by decide +kernel
theorem dL_law_402 : decode cL_law 402 = .ok (.aload_n 2, 1) := by decide +kernel
theorem dL_law_403 : decode cL_law 403 = .ok (.invokevirtual 81, 3) := by decide +kernel
theorem dL_law_406 : decode cL_law 406 = .ok (.if_icmp .eq 378, 3) := by decide +kernel
theorem dL_law_409 : decode cL_law 409 = .ok (.iconst 0, 1) := by decide +kernel
theorem dL_law_410 : decode cL_law 410 = .ok (.ireturn, 1) := by decide +kernel
theorem dL_law_411 : decode cL_law 411 = .ok (.aload_n 1, 1) := by decide +kernel
theorem dL_law_412 : decode cL_law 412 = .ok (.invokevirtual 82, 3) := by decide +kernel
theorem dL_law_415 : decode cL_law 415 = .ok (.aload_n 2, 1) := by decide +kernel
theorem dL_law_416 : decode cL_law 416 = .ok (.invokevirtual 85, 3) := by decide +kernel
theorem dL_law_419 : decode cL_law 419 = .ok (.goto 365, 3) := by decide +kernel
theorem dL_law_422 : decode cL_law 422 = .ok (.aload_n 1, 1) := by decide +kernel
theorem dL_law_423 : decode cL_law 423 = .ok (.aload_n 3, 1) := by decide +kernel
theorem dL_law_424 : decode cL_law 424 = .ok (.invokestatic 86, 3) := by decide +kernel
theorem dL_law_427 : decode cL_law 427 = .ok (.istore 5, 2) := by decide +kernel
theorem dL_law_429 : decode cL_law 429 = .ok (.aload_n 2, 1) := by decide +kernel
theorem dL_law_430 : decode cL_law 430 = .ok (.invokevirtual 89, 3) := by decide +kernel
theorem dL_law_433 : decode cL_law 433 = .ok (.istore 6, 2) := by decide +kernel
theorem dL_law_435 : decode cL_law 435 = .ok (.aload_n 2, 1) := by decide +kernel
theorem dL_law_436 : decode cL_law 436 = .ok (.invokevirtual 58, 3) := by decide +kernel
theorem dL_law_439 : decode cL_law 439 = .ok (.iload 5, 2) := by decide +kernel
theorem dL_law_441 : decode cL_law 441 = .ok (.if_icmp .eq 5, 3) := by decide +kernel
theorem dL_law_444 : decode cL_law 444 = .ok (.iconst 0, 1) := by decide +kernel
theorem dL_law_445 : decode cL_law 445 = .ok (.ireturn, 1) := by decide +kernel
theorem dL_law_446 : decode cL_law 446 = .ok (.iload 5, 2) := by decide +kernel
theorem dL_law_448 : decode cL_law 448 = .ok (.ifCond .ne 15, 3) := by decide +kernel
theorem dL_law_451 : decode cL_law 451 = .ok (.aload_n 3, 1) := by decide +kernel
theorem dL_law_452 : decode cL_law 452 = .ok (.iconst 0, 1) := by decide +kernel
theorem dL_law_453 : decode cL_law 453 = .ok (.laload, 1) := by decide +kernel
theorem dL_law_454 : decode cL_law 454 = .ok (.iload 6, 2) := by decide +kernel
theorem dL_law_456 : decode cL_law 456 = .ok (.i2l, 1) := by decide +kernel
theorem dL_law_457 : decode cL_law 457 = .ok (.lcmp, 1) := by decide +kernel
theorem dL_law_458 : decode cL_law 458 = .ok (.ifCond .eq 5, 3) := by decide +kernel
theorem dL_law_461 : decode cL_law 461 = .ok (.iconst 0, 1) := by decide +kernel
theorem dL_law_462 : decode cL_law 462 = .ok (.ireturn, 1) := by decide +kernel
theorem dL_law_463 : decode cL_law 463 = .ok (.goto 321, 3) := by decide +kernel
theorem dL_law_466 : decode cL_law 466 = .ok (.aload_n 1, 1) := by decide +kernel
theorem dL_law_467 : decode cL_law 467 = .ok (.aload_n 0, 1) := by decide +kernel
theorem dL_law_468 : decode cL_law 468 = .ok (.iload 4, 2) := by decide +kernel
theorem dL_law_470 : decode cL_law 470 = .ok (.iconst 1, 1) := by decide +kernel
theorem dL_law_471 : decode cL_law 471 = .ok (.iadd, 1) := by decide +kernel
theorem dL_law_472 : decode cL_law 472 = .ok (.iaload, 1) := by decide +kernel
theorem dL_law_473 : decode cL_law 473 = .ok (.invokevirtual 90, 3) := by decide +kernel
theorem dL_law_476 : decode cL_law 476 = .ok (.aload_n 2, 1) := by decide +kernel
theorem dL_law_477 : decode cL_law 477 = .ok (.aload_n 0, 1) := by decide +kernel
theorem dL_law_478 : decode cL_law 478 = .ok (.iload 4, 2) := by decide +kernel
theorem dL_law_480 : decode cL_law 480 = .ok (.iconst 1, 1) := by decide +kernel
theorem dL_law_481 : decode cL_law 481 = .ok (.iadd, 1) := by decide +kernel
theorem dL_law_482 : decode cL_law 482 = .ok (.iaload, 1) := by decide +kernel
theorem dL_law_483 : decode cL_law 483 = .ok (.invokevirtual 93, 3) := by decide +kernel
theorem dL_law_486 : decode cL_law 486 = .ok (.if_icmp .eq 298, 3) := by decide +kernel
theorem dL_law_489 : decode cL_law 489 = .ok (.iconst 0, 1) := by decide +kernel
theorem dL_law_490 : decode cL_law 490 = .ok (.ireturn, 1) := by decide +kernel
theorem dL_law_491 : decode cL_law 491 = .ok (.aload_n 1, 1) := by decide +kernel
theorem dL_law_492 : decode cL_law 492 = .ok (.invokevirtual 94, 3) := by decide +kernel
theorem dL_law_495 : decode cL_law 495 = .ok (.aload_n 2, 1) := by decide +kernel
theorem dL_law_496 : decode cL_law 496 = .ok (.invokevirtual 97, 3) := by decide +kernel
theorem dL_law_499 : decode cL_law 499 = .ok (.if_icmp .eq 285, 3) := by decide +kernel
theorem dL_law_502 : decode cL_law 502 = .ok (.iconst 0, 1) := by decide +kernel
theorem dL_law_503 : decode cL_law 503 = .ok (.ireturn, 1) := by decide +kernel
theorem dL_law_504 : decode cL_law 504 = .ok (.aload_n 1, 1) := by decide +kernel
theorem dL_law_505 : decode cL_law 505 = .ok (.invokevirtual 98, 3) := by decide +kernel
theorem dL_law_508 : decode cL_law 508 = .ok (.aload_n 2, 1) := by decide +kernel
theorem dL_law_509 : decode cL_law 509 = .ok (.invokevirtual 101, 3) := by decide +kernel
theorem dL_law_512 : decode cL_law 512 = .ok (.if_icmp .eq 272, 3) := by decide +kernel
theorem dL_law_515 : decode cL_law 515 = .ok (.iconst 0, 1) := by decide +kernel
theorem dL_law_516 : decode cL_law 516 = .ok (.ireturn, 1) := by decide +kernel
theorem dL_law_517 : decode cL_law 517 = .ok (.aload_n 1, 1) := by decide +kernel
theorem dL_law_518 : decode cL_law 518 = .ok (.invokevirtual 102, 3) := by decide +kernel
theorem dL_law_521 : decode cL_law 521 = .ok (.aload_n 2, 1) := by decide +kernel
theorem dL_law_522 : decode cL_law 522 = .ok (.invokevirtual 105, 3) := by decide +kernel
theorem dL_law_525 : decode cL_law 525 = .ok (.if_icmp .eq 259, 3) := by decide +kernel
theorem dL_law_528 : decode cL_law 528 = .ok (.iconst 0, 1) := by decide +kernel
theorem dL_law_529 : decode cL_law 529 = .ok (.ireturn, 1) := by decide +kernel
theorem dL_law_530 : decode cL_law 530 = .ok (.aload_n 1, 1) := by decide +kernel
theorem dL_law_531 : decode cL_law 531 = .ok (.aload_n 0, 1) := by decide +kernel
theorem dL_law_532 : decode cL_law 532 = .ok (.iload 4, 2) := by decide +kernel
theorem dL_law_534 : decode cL_law 534 = .ok (.iconst 1, 1) := by decide +kernel
theorem dL_law_535 : decode cL_law 535 = .ok (.iadd, 1) := by decide +kernel
theorem dL_law_536 : decode cL_law 536 = .ok (.iaload, 1) := by decide +kernel
theorem dL_law_537 : decode cL_law 537 = .ok (.aload_n 3, 1) := by decide +kernel
theorem dL_law_538 : decode cL_law 538 = .ok (.invokestatic 106, 3) := by decide +kernel
theorem dL_law_541 : decode cL_law 541 = .ok (.istore 5, 2) := by decide +kernel
theorem dL_law_543 : decode cL_law 543 = .ok (.aload_n 2, 1) := by decide +kernel
theorem dL_law_544 : decode cL_law 544 = .ok (.aload_n 0, 1) := by decide +kernel
theorem dL_law_545 : decode cL_law 545 = .ok (.iload 4, 2) := by decide +kernel
theorem dL_law_547 : decode cL_law 547 = .ok (.iconst 1, 1) := by decide +kernel
theorem dL_law_548 : decode cL_law 548 = .ok (.iadd, 1) := by decide +kernel
theorem dL_law_549 : decode cL_law 549 = .ok (.iaload, 1) := by decide +kernel
theorem dL_law_550 : decode cL_law 550 = .ok (.invokevirtual 109, 3) := by decide +kernel
theorem dL_law_553 : decode cL_law 553 = .ok (.istore 6, 2) := by decide +kernel
theorem dL_law_555 : decode cL_law 555 = .ok (.aload_n 2, 1) := by decide +kernel
theorem dL_law_556 : decode cL_law 556 = .ok (.invokevirtual 58, 3) := by decide +kernel
theorem dL_law_559 : decode cL_law 559 = .ok (.iload 5, 2) := by decide +kernel
theorem dL_law_561 : decode cL_law 561 = .ok (.if_icmp .eq 5, 3) := by decide +kernel
theorem dL_law_564 : decode cL_law 564 = .ok (.iconst 0, 1) := by decide +kernel
theorem dL_law_565 : decode cL_law 565 = .ok (.ireturn, 1) := by decide +kernel
theorem dL_law_566 : decode cL_law 566 = .ok (.iload 5, 2) := by decide +kernel
theorem dL_law_568 : decode cL_law 568 = .ok (.ifCond .ne 22, 3) := by decide +kernel
theorem dL_law_571 : decode cL_law 571 = .ok (.aload_n 3, 1) := by decide +kernel
theorem dL_law_572 : decode cL_law 572 = .ok (.iconst 0, 1) := by decide +kernel
theorem dL_law_573 : decode cL_law 573 = .ok (.laload, 1) := by decide +kernel
theorem dL_law_574 : decode cL_law 574 = .ok (.iload 6, 2) := by decide +kernel
theorem dL_law_576 : decode cL_law 576 = .ok (.ifCond .eq 7, 3) := by decide +kernel
theorem dL_law_579 : decode cL_law 579 = .ok (.lconst 1, 1) := by decide +kernel
theorem dL_law_580 : decode cL_law 580 = .ok (.goto 4, 3) := by decide +kernel
theorem dL_law_583 : decode cL_law 583 = .ok (.lconst 0, 1) := by decide +kernel
theorem dL_law_584 : decode cL_law 584 = .ok (.lcmp, 1) := by decide +kernel
theorem dL_law_585 : decode cL_law 585 = .ok (.ifCond .eq 5, 3) := by decide +kernel
theorem dL_law_588 : decode cL_law 588 = .ok (.iconst 0, 1) := by decide +kernel
theorem dL_law_589 : decode cL_law 589 = .ok (.ireturn, 1) := by decide +kernel
theorem dL_law_590 : decode cL_law 590 = .ok (.goto 194, 3) := by decide +kernel
theorem dL_law_593 : decode cL_law 593 = .ok (.aload_n 1, 1) := by decide +kernel
theorem dL_law_594 : decode cL_law 594 = .ok (.aload_n 0, 1) := by decide +kernel
theorem dL_law_595 : decode cL_law 595 = .ok (.iload 4, 2) := by decide +kernel
theorem dL_law_597 : decode cL_law 597 = .ok (.iconst 1, 1) := by decide +kernel
theorem dL_law_598 : decode cL_law 598 = .ok (.iadd, 1) := by decide +kernel
theorem dL_law_599 : decode cL_law 599 = .ok (.iaload, 1) := by decide +kernel
theorem dL_law_600 : decode cL_law 600 = .ok (.aload_n 0, 1) := by decide +kernel
theorem dL_law_601 : decode cL_law 601 = .ok (.iload 4, 2) := by decide +kernel
theorem dL_law_603 : decode cL_law 603 = .ok (.iconst 2, 1) := by decide +kernel
theorem dL_law_604 : decode cL_law 604 = .ok (.iadd, 1) := by decide +kernel
theorem dL_law_605 : decode cL_law 605 = .ok (.iaload, 1) := by decide +kernel
theorem dL_law_606 : decode cL_law 606 = .ok (.aload_n 3, 1) := by decide +kernel
theorem dL_law_607 : decode cL_law 607 = .ok (.invokestatic 110, 3) := by decide +kernel
theorem dL_law_610 : decode cL_law 610 = .ok (.istore 5, 2) := by decide +kernel
theorem dL_law_612 : decode cL_law 612 = .ok (.aload_n 2, 1) := by decide +kernel
theorem dL_law_613 : decode cL_law 613 = .ok (.aload_n 0, 1) := by decide +kernel
theorem dL_law_614 : decode cL_law 614 = .ok (.iload 4, 2) := by decide +kernel
theorem dL_law_616 : decode cL_law 616 = .ok (.iconst 1, 1) := by decide +kernel
theorem dL_law_617 : decode cL_law 617 = .ok (.iadd, 1) := by decide +kernel
theorem dL_law_618 : decode cL_law 618 = .ok (.iaload, 1) := by decide +kernel
theorem dL_law_619 : decode cL_law 619 = .ok (.aload_n 0, 1) := by decide +kernel
theorem dL_law_620 : decode cL_law 620 = .ok (.iload 4, 2) := by decide +kernel
theorem dL_law_622 : decode cL_law 622 = .ok (.iconst 2, 1) := by decide +kernel
theorem dL_law_623 : decode cL_law 623 = .ok (.iadd, 1) := by decide +kernel
theorem dL_law_624 : decode cL_law 624 = .ok (.iaload, 1) := by decide +kernel
theorem dL_law_625 : decode cL_law 625 = .ok (.invokevirtual 112, 3) := by decide +kernel
theorem dL_law_628 : decode cL_law 628 = .ok (.istore 6, 2) := by decide +kernel
theorem dL_law_630 : decode cL_law 630 = .ok (.aload_n 2, 1) := by decide +kernel
theorem dL_law_631 : decode cL_law 631 = .ok (.invokevirtual 58, 3) := by decide +kernel
theorem dL_law_634 : decode cL_law 634 = .ok (.iload 5, 2) := by decide +kernel
theorem dL_law_636 : decode cL_law 636 = .ok (.if_icmp .eq 5, 3) := by decide +kernel
theorem dL_law_639 : decode cL_law 639 = .ok (.iconst 0, 1) := by decide +kernel
theorem dL_law_640 : decode cL_law 640 = .ok (.ireturn, 1) := by decide +kernel
theorem dL_law_641 : decode cL_law 641 = .ok (.iload 5, 2) := by decide +kernel
theorem dL_law_643 : decode cL_law 643 = .ok (.ifCond .ne 15, 3) := by decide +kernel
theorem dL_law_646 : decode cL_law 646 = .ok (.aload_n 3, 1) := by decide +kernel
theorem dL_law_647 : decode cL_law 647 = .ok (.iconst 0, 1) := by decide +kernel
theorem dL_law_648 : decode cL_law 648 = .ok (.laload, 1) := by decide +kernel
theorem dL_law_649 : decode cL_law 649 = .ok (.iload 6, 2) := by decide +kernel
theorem dL_law_651 : decode cL_law 651 = .ok (.i2l, 1) := by decide +kernel
theorem dL_law_652 : decode cL_law 652 = .ok (.lcmp, 1) := by decide +kernel
theorem dL_law_653 : decode cL_law 653 = .ok (.ifCond .eq 5, 3) := by decide +kernel
theorem dL_law_656 : decode cL_law 656 = .ok (.iconst 0, 1) := by decide +kernel
theorem dL_law_657 : decode cL_law 657 = .ok (.ireturn, 1) := by decide +kernel
theorem dL_law_658 : decode cL_law 658 = .ok (.goto 126, 3) := by decide +kernel
theorem dL_law_661 : decode cL_law 661 = .ok (.aload_n 1, 1) := by decide +kernel
theorem dL_law_662 : decode cL_law 662 = .ok (.aload_n 3, 1) := by decide +kernel
theorem dL_law_663 : decode cL_law 663 = .ok (.invokestatic 113, 3) := by decide +kernel
theorem dL_law_666 : decode cL_law 666 = .ok (.istore 5, 2) := by decide +kernel
theorem dL_law_668 : decode cL_law 668 = .ok (.aload_n 2, 1) := by decide +kernel
theorem dL_law_669 : decode cL_law 669 = .ok (.invokevirtual 115, 3) := by decide +kernel
theorem dL_law_672 : decode cL_law 672 = .ok (.istore 6, 2) := by decide +kernel
theorem dL_law_674 : decode cL_law 674 = .ok (.aload_n 2, 1) := by decide +kernel
theorem dL_law_675 : decode cL_law 675 = .ok (.invokevirtual 58, 3) := by decide +kernel
theorem dL_law_678 : decode cL_law 678 = .ok (.iload 5, 2) := by decide +kernel
theorem dL_law_680 : decode cL_law 680 = .ok (.if_icmp .eq 5, 3) := by decide +kernel
theorem dL_law_683 : decode cL_law 683 = .ok (.iconst 0, 1) := by decide +kernel
theorem dL_law_684 : decode cL_law 684 = .ok (.ireturn, 1) := by decide +kernel
theorem dL_law_685 : decode cL_law 685 = .ok (.iload 5, 2) := by decide +kernel
theorem dL_law_687 : decode cL_law 687 = .ok (.ifCond .ne 22, 3) := by decide +kernel
theorem dL_law_690 : decode cL_law 690 = .ok (.aload_n 3, 1) := by decide +kernel
theorem dL_law_691 : decode cL_law 691 = .ok (.iconst 0, 1) := by decide +kernel
theorem dL_law_692 : decode cL_law 692 = .ok (.laload, 1) := by decide +kernel
theorem dL_law_693 : decode cL_law 693 = .ok (.iload 6, 2) := by decide +kernel
theorem dL_law_695 : decode cL_law 695 = .ok (.ifCond .eq 7, 3) := by decide +kernel
theorem dL_law_698 : decode cL_law 698 = .ok (.lconst 1, 1) := by decide +kernel
theorem dL_law_699 : decode cL_law 699 = .ok (.goto 4, 3) := by decide +kernel
theorem dL_law_702 : decode cL_law 702 = .ok (.lconst 0, 1) := by decide +kernel
theorem dL_law_703 : decode cL_law 703 = .ok (.lcmp, 1) := by decide +kernel
theorem dL_law_704 : decode cL_law 704 = .ok (.ifCond .eq 5, 3) := by decide +kernel
theorem dL_law_707 : decode cL_law 707 = .ok (.iconst 0, 1) := by decide +kernel
theorem dL_law_708 : decode cL_law 708 = .ok (.ireturn, 1) := by decide +kernel
theorem dL_law_709 : decode cL_law 709 = .ok (.goto 75, 3) := by decide +kernel
theorem dL_law_712 : decode cL_law 712 = .ok (.aload_n 1, 1) := by decide +kernel
theorem dL_law_713 : decode cL_law 713 = .ok (.aload_n 0, 1) := by decide +kernel
theorem dL_law_714 : decode cL_law 714 = .ok (.iload 4, 2) := by decide +kernel
theorem dL_law_716 : decode cL_law 716 = .ok (.iconst 1, 1) := by decide +kernel
theorem dL_law_717 : decode cL_law 717 = .ok (.iadd, 1) := by decide +kernel
theorem dL_law_718 : decode cL_law 718 = .ok (.iaload, 1) := by decide +kernel
theorem dL_law_719 : decode cL_law 719 = .ok (.ifCond .eq 7, 3) := by decide +kernel
theorem dL_law_722 : decode cL_law 722 = .ok (.iconst 1, 1) := by decide +kernel
theorem dL_law_723 : decode cL_law 723 = .ok (.goto 4, 3) := by decide +kernel
theorem dL_law_726 : decode cL_law 726 = .ok (.iconst 0, 1) := by decide +kernel
theorem dL_law_727 : decode cL_law 727 = .ok (.aload_n 3, 1) := by decide +kernel
theorem dL_law_728 : decode cL_law 728 = .ok (.invokestatic 116, 3) := by decide +kernel
theorem dL_law_731 : decode cL_law 731 = .ok (.istore 5, 2) := by decide +kernel
theorem dL_law_733 : decode cL_law 733 = .ok (.aload_n 2, 1) := by decide +kernel
theorem dL_law_734 : decode cL_law 734 = .ok (.aload_n 0, 1) := by decide +kernel
theorem dL_law_735 : decode cL_law 735 = .ok (.iload 4, 2) := by decide +kernel
theorem dL_law_737 : decode cL_law 737 = .ok (.iconst 1, 1) := by decide +kernel
theorem dL_law_738 : decode cL_law 738 = .ok (.iadd, 1) := by decide +kernel
theorem dL_law_739 : decode cL_law 739 = .ok (.iaload, 1) := by decide +kernel
theorem dL_law_740 : decode cL_law 740 = .ok (.ifCond .eq 7, 3) := by decide +kernel
theorem dL_law_743 : decode cL_law 743 = .ok (.iconst 1, 1) := by decide +kernel
theorem dL_law_744 : decode cL_law 744 = .ok (.goto 4, 3) := by decide +kernel
theorem dL_law_747 : decode cL_law 747 = .ok (.iconst 0, 1) := by decide +kernel
theorem dL_law_748 : decode cL_law 748 = .ok (.invokevirtual 119, 3) := by decide +kernel
theorem dL_law_751 : decode cL_law 751 = .ok (.istore 6, 2) := by decide +kernel
theorem dL_law_753 : decode cL_law 753 = .ok (.aload_n 2, 1) := by decide +kernel
theorem dL_law_754 : decode cL_law 754 = .ok (.invokevirtual 58, 3) := by decide +kernel
theorem dL_law_757 : decode cL_law 757 = .ok (.iload 5, 2) := by decide +kernel
theorem dL_law_759 : decode cL_law 759 = .ok (.if_icmp .eq 5, 3) := by decide +kernel
theorem dL_law_762 : decode cL_law 762 = .ok (.iconst 0, 1) := by decide +kernel
theorem dL_law_763 : decode cL_law 763 = .ok (.ireturn, 1) := by decide +kernel
theorem dL_law_764 : decode cL_law 764 = .ok (.iload 5, 2) := by decide +kernel
theorem dL_law_766 : decode cL_law 766 = .ok (.ifCond .ne 15, 3) := by decide +kernel
theorem dL_law_769 : decode cL_law 769 = .ok (.aload_n 3, 1) := by decide +kernel
theorem dL_law_770 : decode cL_law 770 = .ok (.iconst 0, 1) := by decide +kernel
theorem dL_law_771 : decode cL_law 771 = .ok (.laload, 1) := by decide +kernel
theorem dL_law_772 : decode cL_law 772 = .ok (.iload 6, 2) := by decide +kernel
theorem dL_law_774 : decode cL_law 774 = .ok (.i2l, 1) := by decide +kernel
theorem dL_law_775 : decode cL_law 775 = .ok (.lcmp, 1) := by decide +kernel
theorem dL_law_776 : decode cL_law 776 = .ok (.ifCond .eq 5, 3) := by decide +kernel
theorem dL_law_779 : decode cL_law 779 = .ok (.iconst 0, 1) := by decide +kernel
theorem dL_law_780 : decode cL_law 780 = .ok (.ireturn, 1) := by decide +kernel
theorem dL_law_781 : decode cL_law 781 = .ok (.goto 3, 3) := by decide +kernel
theorem dL_law_784 : decode cL_law 784 = .ok (.iinc 4 4, 3) := by decide +kernel
theorem dL_law_787 : decode cL_law 787 = .ok (.goto (-764), 3) := by decide +kernel
theorem dL_law_790 : decode cL_law 790 = .ok (.iconst 1, 1) := by decide +kernel
theorem dL_law_791 : decode cL_law 791 = .ok (.ireturn, 1) := by decide +kernel
end
section
/-! BASE: numbers as Nat behind Int32, rows of the machine in these words -/
def mI (n : Nat) : Int32 := nI n - 1
def bI (b : Bool) : Int32 := if b = true then 1 else 0
theorem mI_0 : mI 0 = -1 := by decide +kernel
theorem mI_succ (n : Nat) : mI (n + 1) = nI n := nI_pred n
theorem mI_toInt {n : Nat} (h : n < 2 ^ 31) : (mI n).toInt = (n : Int) - 1 := by
  cases n with
  | zero => rw [mI_0]; decide +kernel
  | succ k => rw [mI_succ, nI_toInt (by omega)]; omega
theorem mI_eq {a b : Nat} (ha : a < 2 ^ 31) (hb : b < 2 ^ 31) : mI a = mI b ↔ a = b := by
  constructor
  · intro h
    have := congrArg Int32.toInt h
    rw [mI_toInt ha, mI_toInt hb] at this
    omega
  · intro h; rw [h]
theorem mn_eq {a b : Nat} (ha : a < 2 ^ 31) (hb : b < 2 ^ 31) : mI a = nI b ↔ a = b + 1 := by
  constructor
  · intro h
    have := congrArg Int32.toInt h
    rw [mI_toInt ha, nI_toInt hb] at this
    omega
  · intro h; rw [h, mI_succ]
theorem mI_neg {a : Nat} (ha : a < 2 ^ 31) : mI a < 0 ↔ a = 0 := by
  rw [Int32.lt_iff_toInt_lt, mI_toInt ha, Int32.toInt_zero]; omega
theorem nI_z {a : Nat} (ha : a < 2 ^ 31) : nI a = 0 ↔ a = 0 := by
  rw [← nI_0]; exact nI_eq ha (by omega)
theorem bI_t : bI true = 1 := rfl
theorem bI_f : bI false = 0 := rfl
theorem bI_z {b : Bool} : bI b = 0 ↔ b = false := by cases b <;> decide +kernel
theorem bI_nar (b : Bool) : narrow .boolean (.int (bI b)) = .int (bI b) := by cases b <;> rfl
theorem one_b : (1 : Int32) = bI true := rfl
theorem zero_b : (0 : Int32) = bI false := rfl
theorem one_n : (1 : Int32) = nI 1 := rfl
theorem zero_n : (0 : Int32) = nI 0 := rfl
theorem nI_upd (f : Nat → Nat) (k v : Nat) : upd (fun j => nI (f j)) k (nI v) = fun j => nI (va_up f k v j) := by
  funext j; by_cases h : j = k <;> simp [upd, va_up, h]
theorem mI_upd (f : Nat → Nat) (k v : Nat) : upd (fun j => mI (f j)) k (mI v) = fun j => mI (va_up f k v j) := by
  funext j; by_cases h : j = k <;> simp [upd, va_up, h]
/-- row k of a state, at place i, becomes v -/
def sU (σ : Nat → Nat → Nat) (k i v : Nat) : Nat → Nat → Nat := fun a => if a = k then va_up (σ k) i v else σ a
theorem sU_same (σ : Nat → Nat → Nat) (k i v : Nat) : sU σ k i v k = va_up (σ k) i v := by simp [sU]
theorem sU_ne (σ : Nat → Nat → Nat) {k a : Nat} (i v : Nat) (h : a ≠ k) : sU σ k i v a = σ a := by simp [sU, h]
theorem va_up_app {α : Type} (f : Nat → α) (k j : Nat) (v : α) : va_up f k v j = if j = k then v else f j := rfl
section BW
variable {p : Program} {l : Launch} {e : Env} {R : Room} {s : State} {m : MethodId} {args : Array Value} {below : List Frame} {meth : Method} {c : Code} {H : Heap} {locs : List Loc} {cells slots : Nat} {Q : State → Prop} {cc : ByteArray} {pc : Nat} {ls : Array Slot} {rest : List Value}
theorem n_to {v w : Int32} (h : v = w) (k : W p l e R s m args below meth c H locs cells slots Q (F0 m pc ls (.int w :: rest))) : W p l e R s m args below meth c H locs cells slots Q (F0 m pc ls (.int v :: rest)) := by rw [h]; exact k
theorem n_add (hx : p.tables.exec = Jvm.exec) (hb : c.code = cc) {a b : Nat} (hdg : decode cc pc = .ok (.iadd, 1)) (k : W p l e R s m args below meth c H locs cells slots Q (F0 m (pc + 1) ls (.int (nI (a + b)) :: rest))) : W p l e R s m args below meth c H locs cells slots Q (F0 m pc ls (.int (nI b) :: .int (nI a) :: rest)) :=
  lv_iadd hx hb hdg (by rw [nI_add]; exact k)
theorem n_mul (hx : p.tables.exec = Jvm.exec) (hb : c.code = cc) {a b : Nat} (hdg : decode cc pc = .ok (.imul, 1)) (k : W p l e R s m args below meth c H locs cells slots Q (F0 m (pc + 1) ls (.int (nI (a * b)) :: rest))) : W p l e R s m args below meth c H locs cells slots Q (F0 m pc ls (.int (nI b) :: .int (nI a) :: rest)) :=
  lv_imul hx hb hdg (by rw [pk_mul]; exact k)
theorem n_sub (hx : p.tables.exec = Jvm.exec) (hb : c.code = cc) {a b : Nat} (h : b ≤ a) (hdg : decode cc pc = .ok (.isub, 1)) (k : W p l e R s m args below meth c H locs cells slots Q (F0 m (pc + 1) ls (.int (nI (a - b)) :: rest))) : W p l e R s m args below meth c H locs cells slots Q (F0 m pc ls (.int (nI b) :: .int (nI a) :: rest)) :=
  lv_isub hx hb hdg (by rw [pk_sub h]; exact k)
theorem n_dec (hx : p.tables.exec = Jvm.exec) (hb : c.code = cc) {a : Nat} (hdg : decode cc pc = .ok (.isub, 1)) (k : W p l e R s m args below meth c H locs cells slots Q (F0 m (pc + 1) ls (.int (mI a) :: rest))) : W p l e R s m args below meth c H locs cells slots Q (F0 m pc ls (.int (nI 1) :: .int (nI a) :: rest)) :=
  lv_isub hx hb hdg k
/-- comparisons of numbers -/
theorem n_icmp_ge (hx : p.tables.exec = Jvm.exec) (hb : c.code = cc) {a b : Nat} {off : Int} {tgt : Nat} (ha : a < 2 ^ 31) (hb2 : b < 2 ^ 31) (hdg : decode cc pc = .ok (.if_icmp .ge off, 3)) (ht : (pc : Int) + off = (tgt : Int)) (kt : b ≤ a → W p l e R s m args below meth c H locs cells slots Q (F0 m tgt ls rest)) (kf : a < b → W p l e R s m args below meth c H locs cells slots Q (F0 m (pc + 3) ls rest)) : W p l e R s m args below meth c H locs cells slots Q (F0 m pc ls (.int (nI b) :: .int (nI a) :: rest)) :=
  lv_icmp_ge hx hb hdg ht (fun h => kt ((nI_leI hb2 ha).mp h)) (fun h => kf (Nat.lt_of_not_le fun q => h ((nI_leI hb2 ha).mpr q)))
theorem n_icmp_lt (hx : p.tables.exec = Jvm.exec) (hb : c.code = cc) {a b : Nat} {off : Int} {tgt : Nat} (ha : a < 2 ^ 31) (hb2 : b < 2 ^ 31) (hdg : decode cc pc = .ok (.if_icmp .lt off, 3)) (ht : (pc : Int) + off = (tgt : Int)) (kt : a < b → W p l e R s m args below meth c H locs cells slots Q (F0 m tgt ls rest)) (kf : b ≤ a → W p l e R s m args below meth c H locs cells slots Q (F0 m (pc + 3) ls rest)) : W p l e R s m args below meth c H locs cells slots Q (F0 m pc ls (.int (nI b) :: .int (nI a) :: rest)) :=
  lv_icmp_lt hx hb hdg ht (fun h => kt ((nI_ltI ha hb2).mp h)) (fun h => kf (Nat.le_of_not_lt fun q => h ((nI_ltI ha hb2).mpr q)))
theorem n_icmp_gt (hx : p.tables.exec = Jvm.exec) (hb : c.code = cc) {a b : Nat} {off : Int} {tgt : Nat} (ha : a < 2 ^ 31) (hb2 : b < 2 ^ 31) (hdg : decode cc pc = .ok (.if_icmp .gt off, 3)) (ht : (pc : Int) + off = (tgt : Int)) (kt : b < a → W p l e R s m args below meth c H locs cells slots Q (F0 m tgt ls rest)) (kf : a ≤ b → W p l e R s m args below meth c H locs cells slots Q (F0 m (pc + 3) ls rest)) : W p l e R s m args below meth c H locs cells slots Q (F0 m pc ls (.int (nI b) :: .int (nI a) :: rest)) :=
  lv_icmp_gt hx hb hdg ht (fun h => kt ((nI_ltI hb2 ha).mp h)) (fun h => kf (Nat.le_of_not_lt fun q => h ((nI_ltI hb2 ha).mpr q)))
theorem n_icmp_le (hx : p.tables.exec = Jvm.exec) (hb : c.code = cc) {a b : Nat} {off : Int} {tgt : Nat} (ha : a < 2 ^ 31) (hb2 : b < 2 ^ 31) (hdg : decode cc pc = .ok (.if_icmp .le off, 3)) (ht : (pc : Int) + off = (tgt : Int)) (kt : a ≤ b → W p l e R s m args below meth c H locs cells slots Q (F0 m tgt ls rest)) (kf : b < a → W p l e R s m args below meth c H locs cells slots Q (F0 m (pc + 3) ls rest)) : W p l e R s m args below meth c H locs cells slots Q (F0 m pc ls (.int (nI b) :: .int (nI a) :: rest)) :=
  lv_icmp_le hx hb hdg ht (fun h => kt ((nI_leI ha hb2).mp h)) (fun h => kf (Nat.lt_of_not_le fun q => h ((nI_leI ha hb2).mpr q)))
theorem q_icmp_eq (hx : p.tables.exec = Jvm.exec) (hb : c.code = cc) {x y : Int32} {P : Prop} {off : Int} {tgt : Nat} (hi : x = y ↔ P) (hdg : decode cc pc = .ok (.if_icmp .eq off, 3)) (ht : (pc : Int) + off = (tgt : Int)) (kt : P → W p l e R s m args below meth c H locs cells slots Q (F0 m tgt ls rest)) (kf : ¬ P → W p l e R s m args below meth c H locs cells slots Q (F0 m (pc + 3) ls rest)) : W p l e R s m args below meth c H locs cells slots Q (F0 m pc ls (.int y :: .int x :: rest)) :=
  lv_icmp_eq hx hb hdg ht (fun h => kt (hi.mp h)) (fun h => kf fun q => h (hi.mpr q))
theorem q_icmp_ne (hx : p.tables.exec = Jvm.exec) (hb : c.code = cc) {x y : Int32} {P : Prop} {off : Int} {tgt : Nat} (hi : x = y ↔ P) (hdg : decode cc pc = .ok (.if_icmp .ne off, 3)) (ht : (pc : Int) + off = (tgt : Int)) (kt : ¬ P → W p l e R s m args below meth c H locs cells slots Q (F0 m tgt ls rest)) (kf : P → W p l e R s m args below meth c H locs cells slots Q (F0 m (pc + 3) ls rest)) : W p l e R s m args below meth c H locs cells slots Q (F0 m pc ls (.int y :: .int x :: rest)) :=
  lv_icmp_ne hx hb hdg ht (fun h => kt fun q => h (hi.mpr q)) (fun h => kf (hi.mp h))
theorem q_if_eq (hx : p.tables.exec = Jvm.exec) (hb : c.code = cc) {x : Int32} {P : Prop} {off : Int} {tgt : Nat} (hi : x = 0 ↔ P) (hdg : decode cc pc = .ok (.ifCond .eq off, 3)) (ht : (pc : Int) + off = (tgt : Int)) (kt : P → W p l e R s m args below meth c H locs cells slots Q (F0 m tgt ls rest)) (kf : ¬ P → W p l e R s m args below meth c H locs cells slots Q (F0 m (pc + 3) ls rest)) : W p l e R s m args below meth c H locs cells slots Q (F0 m pc ls (.int x :: rest)) :=
  lv_if_eq hx hb hdg ht (fun h => kt (hi.mp h)) (fun h => kf fun q => h (hi.mpr q))
theorem q_if_ne (hx : p.tables.exec = Jvm.exec) (hb : c.code = cc) {x : Int32} {P : Prop} {off : Int} {tgt : Nat} (hi : x = 0 ↔ P) (hdg : decode cc pc = .ok (.ifCond .ne off, 3)) (ht : (pc : Int) + off = (tgt : Int)) (kt : ¬ P → W p l e R s m args below meth c H locs cells slots Q (F0 m tgt ls rest)) (kf : P → W p l e R s m args below meth c H locs cells slots Q (F0 m (pc + 3) ls rest)) : W p l e R s m args below meth c H locs cells slots Q (F0 m pc ls (.int x :: rest)) :=
  lv_if_ne hx hb hdg ht (fun h => kt fun q => h (hi.mpr q)) (fun h => kf (hi.mp h))
theorem q_if_lt (hx : p.tables.exec = Jvm.exec) (hb : c.code = cc) {x : Int32} {P : Prop} {off : Int} {tgt : Nat} (hi : x < 0 ↔ P) (hdg : decode cc pc = .ok (.ifCond .lt off, 3)) (ht : (pc : Int) + off = (tgt : Int)) (kt : P → W p l e R s m args below meth c H locs cells slots Q (F0 m tgt ls rest)) (kf : ¬ P → W p l e R s m args below meth c H locs cells slots Q (F0 m (pc + 3) ls rest)) : W p l e R s m args below meth c H locs cells slots Q (F0 m pc ls (.int x :: rest)) :=
  lv_if_lt hx hb hdg ht (fun h => kt (hi.mp h)) (fun h => kf fun q => h (hi.mpr q))
/-- a place of an array of ints is read, or written -/
theorem n_ald {D : va_G} {cl : List vw_C} {ws : va_W} {tys : List (ClassId × FieldType)} {a : Nat} (hx : p.tables.exec = Jvm.exec) (hb : c.code = cc) (hK : va_K D cl tys s) (hP : va_P D cl ws H) (q0 t0 : Nat) {cA : ClassId} {n : Nat} {f : Nat → Int32} (ha : ws[q0]? = some (a, .inl (cA, n, .inl f))) (ht : tys[t0]? = some (cA, .int)) {i : Nat} (hi : i < n) (hn : n < 2 ^ 31) {v : Int32} (hv : f i = v) (hdg : decode cc pc = .ok (.iaload, 1))
    (k : W p l e R s m args below meth c H locs cells slots Q (F0 m (pc + 1) ls (.int v :: rest))) : W p l e R s m args below meth c H locs cells slots Q (F0 m pc ls (.int (nI i) :: .ref a :: rest)) :=
  va_iald hx hb hK hP q0 t0 ha ht (vp_in_nI hi hn) hdg (by rw [nI_clamp (by omega), hv]; exact k)
theorem n_ast {D : va_G} {cl : List vw_C} {ws ws' : va_W} {tys : List (ClassId × FieldType)} {A : Nat → Prop} {H0 : Heap} {a : Nat} (hx : p.tables.exec = Jvm.exec) (hb : c.code = cc) (hK : va_K D cl tys s) (hP : va_P D cl ws H) (hD : va_D A ws) (hS : va_S A H0 H locs) (q0 t0 : Nat) {cA : ClassId} {n : Nat} {f : Nat → Int32} (ha : ws[q0]? = some (a, .inl (cA, n, .inl f))) (ht : tys[t0]? = some (cA, .int)) {i : Nat} {x : Int32} (hi : i < n) (hn : n < 2 ^ 31) (hw : ws.set q0 (a, .inl (cA, n, .inl (upd f i x))) = ws') (hdg : decode cc pc = .ok (.iastore, 1))
    (k : ∀ (H1 : Heap) (locs1 : List Loc), va_P D cl ws' H1 → va_D A ws' → va_S A H0 H1 locs1 → W p l e R s m args below meth c H1 locs1 cells slots Q (F0 m (pc + 1) ls rest)) : W p l e R s m args below meth c H locs cells slots Q (F0 m pc ls (.int x :: .int (nI i) :: .ref a :: rest)) :=
  va_iast hx hb hK hP hD hS q0 t0 ha ht (vp_in_nI hi hn) hdg (fun H1 locs1 h1 h2 h3 => by
    rw [nI_clamp (by omega), hw] at h1 h2
    exact k H1 locs1 h1 h2 h3)
end BW
end
section
/-! WORLDS: the class's cells (WC) by a state σ of rows of numbers, the reference's (WM) by τ -/
/-- rows: 0 scalars (0 draft size, 1 terms, 2 claims, 4 asked claims); 3 draft; 6 sorts, 7 arrays, 8 indices, 9 elements (the three plus one); 10, 11 claims' literals, sizes; 12, 13 asked literals, sizes; 14 parts; 15 chosen (plus one) -/
def WC (ad : Nat → Nat) (cI : ClassId) (σ : Nat → Nat → Nat) : va_W :=
  [(ad 0, .inr (3, [.ref (ad 1), .ref (ad 2), .ref (ad 3), .int (nI (σ 0 0)), .ref (ad 4), .ref (ad 5)])),
   (ad 1, .inr (2, [.ref (ad 6), .ref (ad 7), .ref (ad 8), .ref (ad 9), .int (nI (σ 0 1))])),
   (ad 2, .inr (0, [.ref (ad 10), .ref (ad 11), .int (nI (σ 0 2))])),
   (ad 3, .inl (cI, 3, .inl (fun j => nI (σ 3 j)))),
   (ad 4, .inr (0, [.ref (ad 12), .ref (ad 13), .int (nI (σ 0 4))])),
   (ad 5, .inr (1, [.ref (ad 14), .ref (ad 15)])),
   (ad 6, .inl (cI, 24, .inl (fun j => nI (σ 6 j)))),
   (ad 7, .inl (cI, 24, .inl (fun j => mI (σ 7 j)))),
   (ad 8, .inl (cI, 24, .inl (fun j => mI (σ 8 j)))),
   (ad 9, .inl (cI, 24, .inl (fun j => mI (σ 9 j)))),
   (ad 10, .inl (cI, 24, .inl (fun j => nI (σ 10 j)))),
   (ad 11, .inl (cI, 8, .inl (fun j => nI (σ 11 j)))),
   (ad 12, .inl (cI, 33, .inl (fun j => nI (σ 12 j)))),
   (ad 13, .inl (cI, 11, .inl (fun j => nI (σ 13 j)))),
   (ad 14, .inl (cI, 96, .inl (fun j => nI (σ 14 j)))),
   (ad 15, .inl (cI, 10, .inl (fun j => mI (σ 15 j))))]
/-- rows of the reference: 0 scalars (0 thrown, 1 terms, 15 claims, 16 literals); 2 sort, 3 kind, 4 first, 5 second, 6 third, 7 classOf, 8 classes, 9 code, 10 ways, 11 waysFrom, 12 howMany, 13 holds, 14 from, 17 left, 18 right, 19 alike -/
def WM (ad : Nat → Nat) (cI cZ : ClassId) (τ : Nat → Nat → Nat) : va_W :=
  [(ad 0, .inr (4, [.int (nI (τ 0 0)), .int (nI (τ 0 1)), .ref (ad 2), .ref (ad 3), .ref (ad 4), .ref (ad 5), .ref (ad 6), .ref (ad 7), .ref (ad 8), .ref (ad 9), .ref (ad 10), .ref (ad 11), .ref (ad 12), .ref (ad 13), .ref (ad 14), .int (nI (τ 0 15)), .int (nI (τ 0 16)), .ref (ad 17), .ref (ad 18), .ref (ad 19)])),
   (ad 2, .inl (cI, 24, .inl (fun j => nI (τ 2 j)))),
   (ad 3, .inl (cI, 24, .inl (fun j => nI (τ 3 j)))),
   (ad 4, .inl (cI, 24, .inl (fun j => nI (τ 4 j)))),
   (ad 5, .inl (cI, 24, .inl (fun j => nI (τ 5 j)))),
   (ad 6, .inl (cI, 24, .inl (fun j => nI (τ 6 j)))),
   (ad 7, .inl (cI, 15, .inl (fun j => nI (τ 7 j)))),
   (ad 8, .inl (cI, 5, .inl (fun j => nI (τ 8 j)))),
   (ad 9, .inl (cI, 120, .inl (fun j => nI (τ 9 j)))),
   (ad 10, .inl (cI, 4358, .inl (fun j => nI (τ 10 j)))),
   (ad 11, .inl (cI, 3, .inl (fun j => nI (τ 11 j)))),
   (ad 12, .inl (cI, 3, .inl (fun j => nI (τ 12 j)))),
   (ad 13, .inl (cI, 9528, .inl (fun j => nI (τ 13 j)))),
   (ad 14, .inl (cI, 6, .inl (fun j => nI (τ 14 j)))),
   (ad 17, .inl (cI, 3, .inl (fun j => nI (τ 17 j)))),
   (ad 18, .inl (cI, 3, .inl (fun j => nI (τ 18 j)))),
   (ad 19, .inl (cZ, 3, .inl (fun j => nI (τ 19 j))))]
/-- private members of nest mates, as the tables have them -/
def nwF : List (String × Nat × String × String × String) := [("ArrayClaims$ReadingSearch", 58, "ArrayClaims$TermTable", "sorts", "[I"), ("ArrayClaims$ReadingSearch", 48, "ArrayClaims$TermTable", "arrays", "[I"), ("ArrayClaims$ReadingSearch", 51, "ArrayClaims$TermTable", "indices", "[I"), ("ArrayClaims$ReadingSearch", 61, "ArrayClaims$TermTable", "elements", "[I"), ("ArrayClaims", 61, "ArrayClaims$TermTable", "count", "I"), ("ArrayClaims$ReadingSearch", 42, "ArrayClaims$TermTable", "count", "I"), ("ArrayClaims$ReadingSearch", 64, "ArrayClaims$ClaimList", "count", "I"), ("ArrayClaims", 77, "ArrayClaims$ClaimList", "count", "I")]
def Nst (U : State) : Prop := ∀ q ∈ nwF, va_Nw (.fieldLinkNest q.1 q.2.1 q.2.2.1 q.2.2.2.1 q.2.2.2.2 "ArrayClaims") U
theorem Nst.warm {s U : State} (hW : s.WarmedH U.vm) (h : Nst s) : Nst U := fun q hq => va_Nw.warmF hW (h q hq)
theorem Nst.same {s U : State} (hv : s.vm = U.vm) (h : Nst s) : Nst U := fun q hq => va_Nw.same rfl hv (h q hq)
theorem Nst.use {args : Array Value} {U : State} (h : Nst U) (k : Nat) {a : String} {i : Nat} {b n d : String} (hk : nwF[k]? = some (a, i, b, n, d)) : (Cond.fieldLinkNest a i b n d "ArrayClaims").before args U = true := va_Nw.use rfl (h _ (List.mem_of_getElem? hk))
/-- the two static rows of the search -/
def lowT : List Nat := [0, 0, 0, 0, 0, 2, 0, 1, 0, 0, 1, 1, 0, 1, 2]
def difT : List Nat := [1, 2, 2, 2, 3]
def lowF (j : Nat) : Nat := lowT.getD j 0
def difF (j : Nat) : Nat := difT.getD j 0
def Stt (A : Nat → Prop) (U : State) (H : Heap) : Prop := ∃ t1 t2 : Nat, va_Z "ArrayClaims$ReadingSearch" "LOWEST" "[I" (.ref t1) A U H ∧ va_T .int t1 15 (fun j => .int (nI (lowF j))) A U H ∧ va_Z "ArrayClaims$ReadingSearch" "DIFFERENT" "[I" (.ref t2) A U H ∧ va_T .int t2 5 (fun j => .int (nI (difF j))) A U H
theorem Stt.go {A : Nat → Prop} {s U : State} {H : Heap} {locs : List Loc} (h : Stt A s s.heap) (hS : va_S A s.heap H locs) (hvm : s.vm.Alike U.vm) (hU : U.heap = H) : Stt A U U.heap := by
  obtain ⟨t1, t2, a, b, c, d⟩ := h
  rw [hU]
  exact ⟨t1, t2, va_Z.moved hvm (a.kept hS.2.1), va_T.moved hvm (b.kept hS.2.1), va_Z.moved hvm (c.kept hS.2.1), va_T.moved hvm (d.kept hS.2.1)⟩
/-- the class's world at a state -/
def Wc (D : va_G) (cI : ClassId) (A : Nat → Prop) (ad : Nat → Nat) (σ : Nat → Nat → Nat) (U : State) : Prop :=
  va_P D vwCl (WC ad cI σ) U.heap ∧ va_K D vwCl [(cI, .int)] U ∧ va_D A (WC ad cI σ) ∧ Nst U ∧ Stt A U U.heap
theorem Wc.go {D : va_G} {cI : ClassId} {A : Nat → Prop} {ad : Nat → Nat} {σ : Nat → Nat → Nat} {s U : State} {H : Heap} {locs : List Loc} (hP : va_P D vwCl (WC ad cI σ) H) (hK : va_K D vwCl [(cI, .int)] s) (hD : va_D A (WC ad cI σ)) (hN : Nst s) (hZ : Stt A s s.heap) (hS : va_S A s.heap H locs) (hU : U.heap = H) (hW : s.WarmedH U.vm) : Wc D cI A ad σ U :=
  ⟨by rw [hU]; exact hP, va_K.moved hW.alike hK, hD, hN.warm hW, hZ.go hS hW.alike hU⟩
theorem Wc.blind {D : va_G} {cI : ClassId} {A : Nat → Prop} {ad : Nat → Nat} {σ : Nat → Nat → Nat} {av : List Value} : FrameBlind (va_Pc av (Wc D cI A ad σ)) := by
  intro a U g mk h
  obtain ⟨h0, h1, h2, h3, h4, h5⟩ := h
  exact ⟨h0, h1, va_K.moved (u := U) (U := U.calling g mk a) (Vm.Alike.refl U.vm) h2, h3, h4.same rfl, Stt.go (s := U) (U := U.calling g mk a) (H := U.heap) (locs := []) h5 va_S.rf (Vm.Alike.refl U.vm) rfl⟩
/-- the reference's world at a state -/
def Wm (D : va_G) (cI cZ : ClassId) (A : Nat → Prop) (ad : Nat → Nat) (τ : Nat → Nat → Nat) (U : State) : Prop :=
  va_P D vwCl (WM ad cI cZ τ) U.heap ∧ va_K D vwCl [(cI, .int), (cZ, .boolean)] U ∧ va_D A (WM ad cI cZ τ)
theorem Wm.go {D : va_G} {cI cZ : ClassId} {A : Nat → Prop} {ad : Nat → Nat} {τ : Nat → Nat → Nat} {s U : State} {H : Heap} (hP : va_P D vwCl (WM ad cI cZ τ) H) (hK : va_K D vwCl [(cI, .int), (cZ, .boolean)] s) (hD : va_D A (WM ad cI cZ τ)) (hU : U.heap = H) (hW : s.WarmedH U.vm) : Wm D cI cZ A ad τ U :=
  ⟨by rw [hU]; exact hP, va_K.moved hW.alike hK, hD⟩
theorem Wm.blind {D : va_G} {cI cZ : ClassId} {A : Nat → Prop} {ad : Nat → Nat} {τ : Nat → Nat → Nat} {av : List Value} : FrameBlind (va_Pc av (Wm D cI cZ A ad τ)) := by
  intro a U g mk h
  obtain ⟨h0, h1, h2, h3⟩ := h
  exact ⟨h0, h1, va_K.moved (u := U) (U := U.calling g mk a) (Vm.Alike.refl U.vm) h2, h3⟩
/-- a callee that needs no cell -/
theorem tt_blind {av : List Value} : FrameBlind (va_Pc av (fun _ => True)) := fun _ _ _ _ h => h
abbrev WR (p : Program) (l : Launch) (e : Env) (R : Room) (s : State) (m : MethodId) (args : Array Value) (below : List Frame) (meth : Method) (c : Code) (H : Heap) (post : Int32 → Prop) (g : JFrame) : Prop :=
  W p l e R s m args below meth c H [] 0 0 (MQ below (vp_Si post) args s 0 0 (fun _ => False)) g
theorem no_locs {free : Addr → Prop} : ∀ q ∈ ([] : List Loc), free q.base := fun q h => by cases h
end
section
/-! rows of the machine for the two worlds -/
theorem n_m1 (n : Nat) : nI n + Int32.ofInt (-1) = mI n := by
  show nI n + (-1) = nI n - 1
  rw [Int32.sub_eq_add_neg]
theorem nm_eq {a b : Nat} (ha : a < 2 ^ 31) (hb : b < 2 ^ 31) : nI a = mI b ↔ b = a + 1 := by
  rw [eq_comm]; exact mn_eq hb ha
theorem bI_eq {a b : Bool} : bI a = bI b ↔ a = b := by cases a <;> cases b <;> decide +kernel
theorem mI_z0 {a : Nat} (ha : a < 2 ^ 31) : mI a = 0 ↔ a = 1 := by
  rw [← nI_0]; exact mn_eq ha (by omega)
def bN (b : Bool) : Nat := if b = true then 1 else 0
theorem bI_n (b : Bool) : bI b = nI (bN b) := by cases b <;> rfl
theorem n_nar0 : narrow .boolean (.int (nI 0)) = .int (nI 0) := rfl
theorem n_nar1 : narrow .boolean (.int (nI 1)) = .int (nI 1) := rfl
section BW2
variable {p : Program} {l : Launch} {e : Env} {R : Room} {s : State} {m : MethodId} {args : Array Value} {below : List Frame} {meth : Method} {c : Code} {H : Heap} {locs : List Loc} {cells slots : Nat} {Q : State → Prop} {cc : ByteArray} {pc : Nat} {ls : Array Slot} {rest : List Value}
theorem n_tld {A : Nat → Prop} {t N : Nat} {f : Nat → Nat} (hx : p.tables.exec = Jvm.exec) (hb : c.code = cc) (hT : va_T .int t N (fun j => .int (nI (f j))) A s s.heap) (hS : va_S A s.heap H locs) {i : Nat} (hi : i < N) (hn : N < 2 ^ 31) (hdg : decode cc pc = .ok (.iaload, 1))
    (k : W p l e R s m args below meth c H locs cells slots Q (F0 m (pc + 1) ls (.int (nI (f i)) :: rest))) : W p l e R s m args below meth c H locs cells slots Q (F0 m pc ls (.int (nI i) :: .ref t :: rest)) :=
  va_ti hx hb hT hS (vp_in_nI hi hn) (v := .int (nI (f i))) (by rw [nI_clamp (by omega)]) hdg k
theorem n_zld {D : va_G} {cl : List vw_C} {ws : va_W} {tys : List (ClassId × FieldType)} {a : Nat} (hx : p.tables.exec = Jvm.exec) (hb : c.code = cc) (hK : va_K D cl tys s) (hP : va_P D cl ws H) (q0 t0 : Nat) {cA : ClassId} {n : Nat} {f : Nat → Int32} (ha : ws[q0]? = some (a, .inl (cA, n, .inl f))) (ht : tys[t0]? = some (cA, .boolean)) {i : Nat} (hi : i < n) (hn : n < 2 ^ 31) {v : Int32} (hv : f i = v) (hdg : decode cc pc = .ok (.baload, 1))
    (k : W p l e R s m args below meth c H locs cells slots Q (F0 m (pc + 1) ls (.int v :: rest))) : W p l e R s m args below meth c H locs cells slots Q (F0 m pc ls (.int (nI i) :: .ref a :: rest)) :=
  va_zald hx hb hK hP q0 t0 ha ht (vp_in_nI hi hn) hdg (by rw [nI_clamp (by omega), hv]; exact k)
end BW2
theorem WCs3 (ad : Nat → Nat) (cI : ClassId) (σ : Nat → Nat → Nat) (i v : Nat) : (WC ad cI σ).set 3 (ad 3, .inl (cI, 3, .inl (upd (fun j => nI (σ 3 j)) i (nI v)))) = WC ad cI (sU σ 3 i v) := by
  rw [nI_upd]; rfl
theorem WCs6 (ad : Nat → Nat) (cI : ClassId) (σ : Nat → Nat → Nat) (i v : Nat) : (WC ad cI σ).set 6 (ad 6, .inl (cI, 24, .inl (upd (fun j => nI (σ 6 j)) i (nI v)))) = WC ad cI (sU σ 6 i v) := by
  rw [nI_upd]; rfl
theorem WCs7 (ad : Nat → Nat) (cI : ClassId) (σ : Nat → Nat → Nat) (i v : Nat) : (WC ad cI σ).set 7 (ad 7, .inl (cI, 24, .inl (upd (fun j => mI (σ 7 j)) i (mI v)))) = WC ad cI (sU σ 7 i v) := by
  rw [mI_upd]; rfl
theorem WCs8 (ad : Nat → Nat) (cI : ClassId) (σ : Nat → Nat → Nat) (i v : Nat) : (WC ad cI σ).set 8 (ad 8, .inl (cI, 24, .inl (upd (fun j => mI (σ 8 j)) i (mI v)))) = WC ad cI (sU σ 8 i v) := by
  rw [mI_upd]; rfl
theorem WCs9 (ad : Nat → Nat) (cI : ClassId) (σ : Nat → Nat → Nat) (i v : Nat) : (WC ad cI σ).set 9 (ad 9, .inl (cI, 24, .inl (upd (fun j => mI (σ 9 j)) i (mI v)))) = WC ad cI (sU σ 9 i v) := by
  rw [mI_upd]; rfl
theorem WCs10 (ad : Nat → Nat) (cI : ClassId) (σ : Nat → Nat → Nat) (i v : Nat) : (WC ad cI σ).set 10 (ad 10, .inl (cI, 24, .inl (upd (fun j => nI (σ 10 j)) i (nI v)))) = WC ad cI (sU σ 10 i v) := by
  rw [nI_upd]; rfl
theorem WCs11 (ad : Nat → Nat) (cI : ClassId) (σ : Nat → Nat → Nat) (i v : Nat) : (WC ad cI σ).set 11 (ad 11, .inl (cI, 8, .inl (upd (fun j => nI (σ 11 j)) i (nI v)))) = WC ad cI (sU σ 11 i v) := by
  rw [nI_upd]; rfl
theorem WCs12 (ad : Nat → Nat) (cI : ClassId) (σ : Nat → Nat → Nat) (i v : Nat) : (WC ad cI σ).set 12 (ad 12, .inl (cI, 33, .inl (upd (fun j => nI (σ 12 j)) i (nI v)))) = WC ad cI (sU σ 12 i v) := by
  rw [nI_upd]; rfl
theorem WCs13 (ad : Nat → Nat) (cI : ClassId) (σ : Nat → Nat → Nat) (i v : Nat) : (WC ad cI σ).set 13 (ad 13, .inl (cI, 11, .inl (upd (fun j => nI (σ 13 j)) i (nI v)))) = WC ad cI (sU σ 13 i v) := by
  rw [nI_upd]; rfl
theorem WCs14 (ad : Nat → Nat) (cI : ClassId) (σ : Nat → Nat → Nat) (i v : Nat) : (WC ad cI σ).set 14 (ad 14, .inl (cI, 96, .inl (upd (fun j => nI (σ 14 j)) i (nI v)))) = WC ad cI (sU σ 14 i v) := by
  rw [nI_upd]; rfl
theorem WCs15 (ad : Nat → Nat) (cI : ClassId) (σ : Nat → Nat → Nat) (i v : Nat) : (WC ad cI σ).set 15 (ad 15, .inl (cI, 10, .inl (upd (fun j => mI (σ 15 j)) i (mI v)))) = WC ad cI (sU σ 15 i v) := by
  rw [mI_upd]; rfl
theorem WMs2 (ad : Nat → Nat) (cI cZ : ClassId) (τ : Nat → Nat → Nat) (i v : Nat) : (WM ad cI cZ τ).set 1 (ad 2, .inl (cI, 24, .inl (upd (fun j => nI (τ 2 j)) i (nI v)))) = WM ad cI cZ (sU τ 2 i v) := by
  rw [nI_upd]; rfl
theorem WMs3 (ad : Nat → Nat) (cI cZ : ClassId) (τ : Nat → Nat → Nat) (i v : Nat) : (WM ad cI cZ τ).set 2 (ad 3, .inl (cI, 24, .inl (upd (fun j => nI (τ 3 j)) i (nI v)))) = WM ad cI cZ (sU τ 3 i v) := by
  rw [nI_upd]; rfl
theorem WMs4 (ad : Nat → Nat) (cI cZ : ClassId) (τ : Nat → Nat → Nat) (i v : Nat) : (WM ad cI cZ τ).set 3 (ad 4, .inl (cI, 24, .inl (upd (fun j => nI (τ 4 j)) i (nI v)))) = WM ad cI cZ (sU τ 4 i v) := by
  rw [nI_upd]; rfl
theorem WMs5 (ad : Nat → Nat) (cI cZ : ClassId) (τ : Nat → Nat → Nat) (i v : Nat) : (WM ad cI cZ τ).set 4 (ad 5, .inl (cI, 24, .inl (upd (fun j => nI (τ 5 j)) i (nI v)))) = WM ad cI cZ (sU τ 5 i v) := by
  rw [nI_upd]; rfl
theorem WMs6 (ad : Nat → Nat) (cI cZ : ClassId) (τ : Nat → Nat → Nat) (i v : Nat) : (WM ad cI cZ τ).set 5 (ad 6, .inl (cI, 24, .inl (upd (fun j => nI (τ 6 j)) i (nI v)))) = WM ad cI cZ (sU τ 6 i v) := by
  rw [nI_upd]; rfl
theorem WMs7 (ad : Nat → Nat) (cI cZ : ClassId) (τ : Nat → Nat → Nat) (i v : Nat) : (WM ad cI cZ τ).set 6 (ad 7, .inl (cI, 15, .inl (upd (fun j => nI (τ 7 j)) i (nI v)))) = WM ad cI cZ (sU τ 7 i v) := by
  rw [nI_upd]; rfl
theorem WMs8 (ad : Nat → Nat) (cI cZ : ClassId) (τ : Nat → Nat → Nat) (i v : Nat) : (WM ad cI cZ τ).set 7 (ad 8, .inl (cI, 5, .inl (upd (fun j => nI (τ 8 j)) i (nI v)))) = WM ad cI cZ (sU τ 8 i v) := by
  rw [nI_upd]; rfl
theorem WMs9 (ad : Nat → Nat) (cI cZ : ClassId) (τ : Nat → Nat → Nat) (i v : Nat) : (WM ad cI cZ τ).set 8 (ad 9, .inl (cI, 120, .inl (upd (fun j => nI (τ 9 j)) i (nI v)))) = WM ad cI cZ (sU τ 9 i v) := by
  rw [nI_upd]; rfl
theorem WMs10 (ad : Nat → Nat) (cI cZ : ClassId) (τ : Nat → Nat → Nat) (i v : Nat) : (WM ad cI cZ τ).set 9 (ad 10, .inl (cI, 4358, .inl (upd (fun j => nI (τ 10 j)) i (nI v)))) = WM ad cI cZ (sU τ 10 i v) := by
  rw [nI_upd]; rfl
theorem WMs11 (ad : Nat → Nat) (cI cZ : ClassId) (τ : Nat → Nat → Nat) (i v : Nat) : (WM ad cI cZ τ).set 10 (ad 11, .inl (cI, 3, .inl (upd (fun j => nI (τ 11 j)) i (nI v)))) = WM ad cI cZ (sU τ 11 i v) := by
  rw [nI_upd]; rfl
theorem WMs12 (ad : Nat → Nat) (cI cZ : ClassId) (τ : Nat → Nat → Nat) (i v : Nat) : (WM ad cI cZ τ).set 11 (ad 12, .inl (cI, 3, .inl (upd (fun j => nI (τ 12 j)) i (nI v)))) = WM ad cI cZ (sU τ 12 i v) := by
  rw [nI_upd]; rfl
theorem WMs13 (ad : Nat → Nat) (cI cZ : ClassId) (τ : Nat → Nat → Nat) (i v : Nat) : (WM ad cI cZ τ).set 12 (ad 13, .inl (cI, 9528, .inl (upd (fun j => nI (τ 13 j)) i (nI v)))) = WM ad cI cZ (sU τ 13 i v) := by
  rw [nI_upd]; rfl
theorem WMs14 (ad : Nat → Nat) (cI cZ : ClassId) (τ : Nat → Nat → Nat) (i v : Nat) : (WM ad cI cZ τ).set 13 (ad 14, .inl (cI, 6, .inl (upd (fun j => nI (τ 14 j)) i (nI v)))) = WM ad cI cZ (sU τ 14 i v) := by
  rw [nI_upd]; rfl
theorem WMs17 (ad : Nat → Nat) (cI cZ : ClassId) (τ : Nat → Nat → Nat) (i v : Nat) : (WM ad cI cZ τ).set 14 (ad 17, .inl (cI, 3, .inl (upd (fun j => nI (τ 17 j)) i (nI v)))) = WM ad cI cZ (sU τ 17 i v) := by
  rw [nI_upd]; rfl
theorem WMs18 (ad : Nat → Nat) (cI cZ : ClassId) (τ : Nat → Nat → Nat) (i v : Nat) : (WM ad cI cZ τ).set 15 (ad 18, .inl (cI, 3, .inl (upd (fun j => nI (τ 18 j)) i (nI v)))) = WM ad cI cZ (sU τ 18 i v) := by
  rw [nI_upd]; rfl
theorem WMs19 (ad : Nat → Nat) (cI cZ : ClassId) (τ : Nat → Nat → Nat) (i v : Nat) : (WM ad cI cZ τ).set 16 (ad 19, .inl (cZ, 3, .inl (upd (fun j => nI (τ 19 j)) i (nI v)))) = WM ad cI cZ (sU τ 19 i v) := by
  rw [nI_upd]; rfl
end
section
/-! THE CLASS, as functions of its state's numbers -/
theorem nx_and (a b : Nat) : nI a &&& nI b = nI (a &&& b) := by
  apply Int32.toBitVec_inj.1
  show BitVec.ofNat 32 a &&& BitVec.ofNat 32 b = BitVec.ofNat 32 (a &&& b)
  apply BitVec.eq_of_getLsbD_eq
  intro i hi
  simp [hi]
theorem nx_or (a b : Nat) : nI a ||| nI b = nI (a ||| b) := by
  apply Int32.toBitVec_inj.1
  show BitVec.ofNat 32 a ||| BitVec.ofNat 32 b = BitVec.ofNat 32 (a ||| b)
  apply BitVec.eq_of_getLsbD_eq
  intro i hi
  simp [hi]
theorem nx_xor (a b : Nat) : nI a ^^^ nI b = nI (a ^^^ b) := by
  apply Int32.toBitVec_inj.1
  show BitVec.ofNat 32 a ^^^ BitVec.ofNat 32 b = BitVec.ofNat 32 (a ^^^ b)
  apply BitVec.eq_of_getLsbD_eq
  intro i hi
  simp [hi]
/-- a literal: left + 32 right, + 1024 when it says 'the same' -/
def litOK (v : Nat) : Prop := v < 2048 ∧ v % 32 < 24 ∧ v / 32 % 32 < 24
def saysB (v : Nat) : Bool := decide (1024 ≤ v)
def oppF (v : Nat) : Nat := if 1024 ≤ v then v - 1024 else v + 1024
def litF (t u : Nat) (b : Bool) : Nat := t + u * 32 + (if b = true then 1024 else 0)
theorem lit_left {v : Nat} (h : v < 2048) : nI v &&& nI 31 = nI (v % 32) := pk_andN (m := nI 31) (by omega) 5 (by decide +kernel)
theorem lit_shr {v : Nat} (h : v < 2048) : nI v >>> (nI 5 &&& 31) = nI (v / 32) := pk_shrN (by omega) (nI 5 &&& 31) 5 (by decide +kernel)
theorem lit_and : ∀ v, v < 2048 → v &&& 1024 = 1024 * (v / 1024) := by decide +kernel
theorem lit_says {v : Nat} (h : v < 2048) : nI v &&& nI 1024 = nI (1024 * (v / 1024)) := by rw [nx_and, lit_and v h]
theorem lit_xor0 : ∀ v, v < 2048 → v ^^^ 1024 = oppF v := by decide +kernel
theorem lit_xor {v : Nat} (h : v < 2048) : nI v ^^^ nI 1024 = nI (oppF v) := by rw [nx_xor, lit_xor0 v h]
theorem lit_shl {u : Nat} (h : u < 32) : nI u <<< (nI 5 &&& 31) = nI (u * 32) := pk_shlN (nI 5 &&& 31) 5 (by decide +kernel) (by omega)
theorem lit_or0 : ∀ t, t < 32 → ∀ u, u < 32 → t ||| u * 32 = t + u * 32 := by decide +kernel
theorem lit_or1 {t u : Nat} (ht : t < 32) (hu : u < 32) : nI t ||| nI (u * 32) = nI (t + u * 32) := by rw [nx_or, lit_or0 t ht u hu]
theorem lit_or20 : ∀ w, w < 1024 → w ||| 1024 = w + 1024 := by decide +kernel
theorem lit_or2 {t u : Nat} (ht : t < 32) (hu : u < 32) : nI (t + u * 32) ||| nI 1024 = nI (litF t u true) := by rw [nx_or, lit_or20 _ (by omega)]; rfl
theorem lit_or3 (t u : Nat) : nI (t + u * 32) ||| nI 0 = nI (litF t u false) := by rw [nx_or]; simp [litF]
/-- what always holds of the class's numbers -/
def IC (σ : Nat → Nat → Nat) : Prop :=
  (7 ≤ σ 0 1 ∧ σ 0 1 ≤ 24) ∧ σ 0 0 ≤ 3 ∧ σ 0 2 ≤ 8 ∧ σ 0 4 ≤ 11 ∧ (∀ j, j < 24 → σ 6 j ≤ 2) ∧
  (∀ j, j < 24 → σ 7 j ≤ 24 ∧ σ 8 j ≤ 24 ∧ σ 9 j ≤ 24) ∧
  (∀ j, 7 ≤ j → j < σ 0 1 → 1 ≤ σ 7 j ∧ σ 7 j ≤ j ∧ 1 ≤ σ 8 j ∧ σ 8 j ≤ 3 ∧ (σ 6 j = 1 ∨ (σ 6 j = 2 ∧ 1 ≤ σ 9 j ∧ σ 9 j ≤ j))) ∧
  (∀ j, j < 3 → litOK (σ 3 j)) ∧ (∀ j, j < 24 → litOK (σ 10 j)) ∧ (∀ j, j < 8 → σ 11 j ≤ 3) ∧ (∀ j, j < 33 → litOK (σ 12 j)) ∧ (∀ j, j < 11 → σ 13 j ≤ 3) ∧
  (∀ j, j < 96 → σ 14 j < 10) ∧ (∀ j, j < 10 → σ 15 j ≤ 20)
theorem IC.terms {σ : Nat → Nat → Nat} (h : IC σ) : 7 ≤ σ 0 1 ∧ σ 0 1 ≤ 24 := h.1
theorem IC.draft {σ : Nat → Nat → Nat} (h : IC σ) : σ 0 0 ≤ 3 := h.2.1
theorem IC.claims {σ : Nat → Nat → Nat} (h : IC σ) : σ 0 2 ≤ 8 := h.2.2.1
theorem IC.asked {σ : Nat → Nat → Nat} (h : IC σ) : σ 0 4 ≤ 11 := h.2.2.2.1
theorem IC.sorts {σ : Nat → Nat → Nat} (h : IC σ) {j : Nat} (hj : j < 24) : σ 6 j ≤ 2 := h.2.2.2.2.1 j hj
theorem IC.rows {σ : Nat → Nat → Nat} (h : IC σ) {j : Nat} (hj : j < 24) : σ 7 j ≤ 24 ∧ σ 8 j ≤ 24 ∧ σ 9 j ≤ 24 := h.2.2.2.2.2.1 j hj
theorem IC.made {σ : Nat → Nat → Nat} (h : IC σ) {j : Nat} (h7 : 7 ≤ j) (hj : j < σ 0 1) : 1 ≤ σ 7 j ∧ σ 7 j ≤ j ∧ 1 ≤ σ 8 j ∧ σ 8 j ≤ 3 ∧ (σ 6 j = 1 ∨ (σ 6 j = 2 ∧ 1 ≤ σ 9 j ∧ σ 9 j ≤ j)) := h.2.2.2.2.2.2.1 j h7 hj
theorem IC.dlit {σ : Nat → Nat → Nat} (h : IC σ) {j : Nat} (hj : j < 3) : litOK (σ 3 j) := h.2.2.2.2.2.2.2.1 j hj
theorem IC.mlit {σ : Nat → Nat → Nat} (h : IC σ) {j : Nat} (hj : j < 24) : litOK (σ 10 j) := h.2.2.2.2.2.2.2.2.1 j hj
theorem IC.msize {σ : Nat → Nat → Nat} (h : IC σ) {j : Nat} (hj : j < 8) : σ 11 j ≤ 3 := h.2.2.2.2.2.2.2.2.2.1 j hj
theorem IC.alit {σ : Nat → Nat → Nat} (h : IC σ) {j : Nat} (hj : j < 33) : litOK (σ 12 j) := h.2.2.2.2.2.2.2.2.2.2.1 j hj
theorem IC.asize {σ : Nat → Nat → Nat} (h : IC σ) {j : Nat} (hj : j < 11) : σ 13 j ≤ 3 := h.2.2.2.2.2.2.2.2.2.2.2.1 j hj
theorem IC.parts {σ : Nat → Nat → Nat} (h : IC σ) {j : Nat} (hj : j < 96) : σ 14 j < 10 := h.2.2.2.2.2.2.2.2.2.2.2.2.1 j hj
theorem IC.chosen {σ : Nat → Nat → Nat} (h : IC σ) {j : Nat} (hj : j < 10) : σ 15 j ≤ 20 := h.2.2.2.2.2.2.2.2.2.2.2.2.2 j hj
def findF (σ : Nat → Nat → Nat) (q a i x : Nat) : Nat → Nat → Nat
  | 0, _ => 0
  | n + 1, t => if σ 6 t = q then if σ 7 t = a then if σ 8 t = i then if σ 9 t = x then t + 1 else findF σ q a i x n (t + 1) else findF σ q a i x n (t + 1) else findF σ q a i x n (t + 1) else findF σ q a i x n (t + 1)
def plF (σ : Nat → Nat → Nat) (q x y : Nat) : Nat := if x = y then 1 else if q = 0 then 0 else if σ 15 x = 0 then 2 else if σ 15 y = 0 then 2 else if σ 15 x = σ 15 y then 1 else 0
def widF (q : Nat) : Nat := if q = 2 then 4 else 1
def rlF (σ : Nat → Nat → Nat) (q t u : Nat) : Nat → Nat → Nat → Nat
  | 0, _, al => al
  | n + 1, j, al => if al = 0 then al else if plF σ q (σ 14 (t * 4 + j)) (σ 14 (u * 4 + j)) = 1 then rlF σ q t u n (j + 1) al else rlF σ q t u n (j + 1) (plF σ q (σ 14 (t * 4 + j)) (σ 14 (u * 4 + j)))
def alF (σ : Nat → Nat → Nat) (v : Nat) : Nat := rlF σ (σ 6 (v % 32)) (v % 32) (v / 32 % 32) (widF (σ 6 (v % 32))) 0 1
def rtF (σ : Nat → Nat → Nat) (v : Nat) : Nat := if alF σ v = 2 then alF σ v else if saysB v = true then alF σ v else if alF σ v = 1 then 0 else 1
def holdF (σ : Nat → Nat → Nat) (cl : Nat) : Nat → Nat → Nat → Nat
  | 0, _, an => an
  | n + 1, k, an => if rtF σ (σ 12 (cl * 3 + k)) = 1 then 1 else if rtF σ (σ 12 (cl * 3 + k)) = 2 then holdF σ cl n (k + 1) 2 else holdF σ cl n (k + 1) an
/-- openSpotOf, openSpot: plus one -/
def osoF (σ : Nat → Nat → Nat) (q t u : Nat) : Nat → Nat → Nat
  | 0, _ => 0
  | n + 1, j => if plF σ q (σ 14 (t * 4 + j)) (σ 14 (u * 4 + j)) = 2 then if σ 15 (σ 14 (t * 4 + j)) = 0 then σ 14 (t * 4 + j) + 1 else σ 14 (u * 4 + j) + 1 else osoF σ q t u n (j + 1)
def osF (σ : Nat → Nat → Nat) (cl : Nat) : Nat → Nat → Nat
  | 0, _ => 0
  | n + 1, k => if rtF σ (σ 12 (cl * 3 + k)) = 2 then osoF σ (σ 6 (σ 12 (cl * 3 + k) % 32)) (σ 12 (cl * 3 + k) % 32) (σ 12 (cl * 3 + k) / 32 % 32) (widF (σ 6 (σ 12 (cl * 3 + k) % 32))) 0 else osF σ cl n (k + 1)
theorem plF_le {σ : Nat → Nat → Nat} {q x y : Nat} : plF σ q x y ≤ 2 := by
  unfold plF
  repeat' split
  all_goals omega
theorem rlF_le {σ : Nat → Nat → Nat} {q t u : Nat} : ∀ (n j al : Nat), al ≤ 2 → rlF σ q t u n j al ≤ 2
  | 0, _, _, h => h
  | n + 1, j, al, h => by
    unfold rlF; split
    · exact h
    · split
      · exact rlF_le n _ _ h
      · exact rlF_le n _ _ plF_le
theorem alF_le {σ : Nat → Nat → Nat} {v : Nat} : alF σ v ≤ 2 := rlF_le _ _ _ (by omega)
theorem rtF_le {σ : Nat → Nat → Nat} {v : Nat} : rtF σ v ≤ 2 := by
  have := @alF_le σ v
  unfold rtF
  repeat' split
  all_goals omega
end
section
theorem ts_nf {x : Bool} (h : ¬ x = false) : x = true := by cases x <;> simp_all
def rX1_left : Room := { frames := 0, cells := 0, slots := 0, locals := 0 }
set_option maxHeartbeats 4000000 in
set_option maxRecDepth 100000 in
theorem c_X1_left (l : Launch)   (v : Nat) (hv0 : v < 2048) : Met l yX1_left wsX1_left rX1_left (va_Pc [.int (nI v)] (fun _ => True)) (vp_Si (fun r => r = nI (v % 32))) 0 0 (fun _ => False) := by
  refine Met.ofW (cc := cX1_left) (maxL := 1) (ret := (some .int)) (by decide) rfl ?_
  intro p e s m args below meth c s₁ B hml hv
  obtain ⟨rfl, -⟩ := hv
  have hx := B.exec
  have hb := B.bytes
  have hr := B.returns
  have hts := atoms_spec (ws := wsX1_left) B.pre
  have hown : s.vm.findClass RX1 = some m.cls := findClass_of_methodNamed B.named
  have hlocks := B.notSynchronized
  have hl := lv_entry ([.int (nI v)]) (n := 1) (Nat.le_of_ble_eq_true rfl)
  rw [lg_entry_eq]
  generalize (lg_sl ([.int (nI v)]) ++ List.replicate (1 - (lg_sl ([.int (nI v)])).length) Slot.unset).toArray = ls at hl ⊢
  have hl : lv_has ls 1 [(0, .int (nI v))] := hl
  refine lv_iload_n hx hb dX1_left_0 rfl (lv_at hl 0 rfl) ?_
  refine lv_bipush (v := nI 31) hx hb dX1_left_1 (by decide) ?_
  refine lv_iand hx hb dX1_left_3 ?_
  refine n_to (w := nI (v % 32)) (lit_left hv0) ?_
  exact W.iret (v := nI (v % 32)) hx hb hr (fun t ht hW => ⟨_, rfl, rfl, ht⟩) no_locs dX1_left_4
def rX1_right : Room := { frames := 0, cells := 0, slots := 0, locals := 0 }
set_option maxHeartbeats 4000000 in
set_option maxRecDepth 100000 in
theorem c_X1_right (l : Launch)   (v : Nat) (hv0 : v < 2048) : Met l yX1_right wsX1_right rX1_right (va_Pc [.int (nI v)] (fun _ => True)) (vp_Si (fun r => r = nI (v / 32 % 32))) 0 0 (fun _ => False) := by
  refine Met.ofW (cc := cX1_right) (maxL := 1) (ret := (some .int)) (by decide) rfl ?_
  intro p e s m args below meth c s₁ B hml hv
  obtain ⟨rfl, -⟩ := hv
  have hx := B.exec
  have hb := B.bytes
  have hr := B.returns
  have hts := atoms_spec (ws := wsX1_right) B.pre
  have hown : s.vm.findClass RX1 = some m.cls := findClass_of_methodNamed B.named
  have hlocks := B.notSynchronized
  have hl := lv_entry ([.int (nI v)]) (n := 1) (Nat.le_of_ble_eq_true rfl)
  rw [lg_entry_eq]
  generalize (lg_sl ([.int (nI v)]) ++ List.replicate (1 - (lg_sl ([.int (nI v)])).length) Slot.unset).toArray = ls at hl ⊢
  have hl : lv_has ls 1 [(0, .int (nI v))] := hl
  refine lv_iload_n hx hb dX1_right_0 rfl (lv_at hl 0 rfl) ?_
  refine lv_iconst (v := nI 5) hx hb dX1_right_1 (by decide) ?_
  refine lv_ishr hx hb dX1_right_2 ?_
  refine n_to (w := nI (v / 32)) (lit_shr hv0) ?_
  refine lv_bipush (v := nI 31) hx hb dX1_right_3 (by decide) ?_
  refine lv_iand hx hb dX1_right_5 ?_
  refine n_to (w := nI (v / 32 % 32)) (lit_left (by omega)) ?_
  exact W.iret (v := nI (v / 32 % 32)) hx hb hr (fun t ht hW => ⟨_, rfl, rfl, ht⟩) no_locs dX1_right_6
def rX1_saysSame : Room := { frames := 0, cells := 0, slots := 0, locals := 0 }
set_option maxHeartbeats 4000000 in
set_option maxRecDepth 100000 in
theorem c_X1_saysSame (l : Launch)   (v : Nat) (hv0 : v < 2048) : Met l yX1_saysSame wsX1_saysSame rX1_saysSame (va_Pc [.int (nI v)] (fun _ => True)) (vp_Si (fun r => r = bI (saysB v))) 0 0 (fun _ => False) := by
  refine Met.ofW (cc := cX1_saysSame) (maxL := 1) (ret := (some .boolean)) (by decide) rfl ?_
  intro p e s m args below meth c s₁ B hml hv
  obtain ⟨rfl, -⟩ := hv
  have hx := B.exec
  have hb := B.bytes
  have hr := B.returns
  have hts := atoms_spec (ws := wsX1_saysSame) B.pre
  have hown : s.vm.findClass RX1 = some m.cls := findClass_of_methodNamed B.named
  have hlocks := B.notSynchronized
  have hl := lv_entry ([.int (nI v)]) (n := 1) (Nat.le_of_ble_eq_true rfl)
  rw [lg_entry_eq]
  generalize (lg_sl ([.int (nI v)]) ++ List.replicate (1 - (lg_sl ([.int (nI v)])).length) Slot.unset).toArray = ls at hl ⊢
  have hl : lv_has ls 1 [(0, .int (nI v))] := hl
  refine lv_iload_n hx hb dX1_saysSame_0 rfl (lv_at hl 0 rfl) ?_
  refine lv_sipush (v := nI 1024) hx hb dX1_saysSame_1 (by decide) ?_
  refine lv_iand hx hb dX1_saysSame_4 ?_
  refine n_to (w := nI (1024 * (v / 1024))) (lit_says hv0) ?_
  refine q_if_eq hx hb (tgt := 12) (nI_z (by omega)) dX1_saysSame_5 (by decide) (fun c_5 => ?_) (fun c_5 => ?_)
  · refine lv_iconst (v := nI 0) hx hb dX1_saysSame_12 (by decide) ?_
    exact W.zret (v := nI 0) hx hb hr (n_nar0) (fun t ht hW => ⟨_, rfl, by have : saysB v = decide (1024 ≤ v) := rfl; first | (rw [this, decide_eq_true (by omega)]; rfl) | (rw [this, decide_eq_false (by omega)]; rfl), ht⟩) no_locs dX1_saysSame_13
  · refine lv_iconst (v := nI 1) hx hb dX1_saysSame_8 (by decide) ?_
    refine lv_goto (tgt := 13) hx hb dX1_saysSame_9 (by decide) ?_
    exact W.zret (v := nI 1) hx hb hr (n_nar1) (fun t ht hW => ⟨_, rfl, by have : saysB v = decide (1024 ≤ v) := rfl; first | (rw [this, decide_eq_true (by omega)]; rfl) | (rw [this, decide_eq_false (by omega)]; rfl), ht⟩) no_locs dX1_saysSame_13
def rX1_opposite : Room := { frames := 0, cells := 0, slots := 0, locals := 0 }
set_option maxHeartbeats 4000000 in
set_option maxRecDepth 100000 in
theorem c_X1_opposite (l : Launch)   (v : Nat) (hv0 : v < 2048) : Met l yX1_opposite wsX1_opposite rX1_opposite (va_Pc [.int (nI v)] (fun _ => True)) (vp_Si (fun r => r = nI (oppF v))) 0 0 (fun _ => False) := by
  refine Met.ofW (cc := cX1_opposite) (maxL := 1) (ret := (some .int)) (by decide) rfl ?_
  intro p e s m args below meth c s₁ B hml hv
  obtain ⟨rfl, -⟩ := hv
  have hx := B.exec
  have hb := B.bytes
  have hr := B.returns
  have hts := atoms_spec (ws := wsX1_opposite) B.pre
  have hown : s.vm.findClass RX1 = some m.cls := findClass_of_methodNamed B.named
  have hlocks := B.notSynchronized
  have hl := lv_entry ([.int (nI v)]) (n := 1) (Nat.le_of_ble_eq_true rfl)
  rw [lg_entry_eq]
  generalize (lg_sl ([.int (nI v)]) ++ List.replicate (1 - (lg_sl ([.int (nI v)])).length) Slot.unset).toArray = ls at hl ⊢
  have hl : lv_has ls 1 [(0, .int (nI v))] := hl
  refine lv_iload_n hx hb dX1_opposite_0 rfl (lv_at hl 0 rfl) ?_
  refine lv_sipush (v := nI 1024) hx hb dX1_opposite_1 (by decide) ?_
  refine lv_ixor hx hb dX1_opposite_4 ?_
  refine n_to (w := nI (oppF v)) (lit_xor hv0) ?_
  exact W.iret (v := nI (oppF v)) hx hb hr (fun t ht hW => ⟨_, rfl, rfl, ht⟩) no_locs dX1_opposite_5
def rX1_of : Room := { frames := 0, cells := 0, slots := 0, locals := 0 }
set_option maxHeartbeats 4000000 in
set_option maxRecDepth 100000 in
theorem c_X1_of (l : Launch)   (t u : Nat) (b : Bool) (ht0 : t < 32) (hu0 : u < 32) : Met l yX1_of wsX1_of rX1_of (va_Pc [.int (nI t), .int (nI u), .int (bI b)] (fun _ => True)) (vp_Si (fun r => r = nI (litF t u b))) 0 0 (fun _ => False) := by
  refine Met.ofW (cc := cX1_of) (maxL := 3) (ret := (some .int)) (by decide) rfl ?_
  intro p e s m args below meth c s₁ B hml hv
  obtain ⟨rfl, -⟩ := hv
  have hx := B.exec
  have hb := B.bytes
  have hr := B.returns
  have hts := atoms_spec (ws := wsX1_of) B.pre
  have hown : s.vm.findClass RX1 = some m.cls := findClass_of_methodNamed B.named
  have hlocks := B.notSynchronized
  have hl := lv_entry ([.int (nI t), .int (nI u), .int (bI b)]) (n := 3) (Nat.le_of_ble_eq_true rfl)
  rw [lg_entry_eq]
  generalize (lg_sl ([.int (nI t), .int (nI u), .int (bI b)]) ++ List.replicate (3 - (lg_sl ([.int (nI t), .int (nI u), .int (bI b)])).length) Slot.unset).toArray = ls at hl ⊢
  have hl : lv_has ls 3 [(0, .int (nI t)), (1, .int (nI u)), (2, .int (bI b))] := hl
  refine lv_iload_n hx hb dX1_of_0 rfl (lv_at hl 0 rfl) ?_
  refine lv_iload_n hx hb dX1_of_1 rfl (lv_at hl 1 rfl) ?_
  refine lv_iconst (v := nI 5) hx hb dX1_of_2 (by decide) ?_
  refine lv_ishl hx hb dX1_of_3 ?_
  refine n_to (w := nI (u * 32)) (lit_shl hu0) ?_
  refine lv_ior hx hb dX1_of_4 ?_
  refine n_to (w := nI (t + u * 32)) (lit_or1 ht0 hu0) ?_
  refine lv_iload_n hx hb dX1_of_5 rfl (lv_at hl 2 rfl) ?_
  refine q_if_eq hx hb (tgt := 15) (bI_z) dX1_of_6 (by decide) (fun c_6 => ?_) (fun c_6 => ?_)
  · refine lv_iconst (v := nI 0) hx hb dX1_of_15 (by decide) ?_
    refine lv_ior hx hb dX1_of_16 ?_
    refine n_to (w := nI (litF t u false)) (lit_or3 t u) ?_
    exact W.iret (v := nI (litF t u false)) hx hb hr (fun t ht hW => ⟨_, rfl, by first | (rw [c_6]) | (rw [ts_nf c_6]), ht⟩) no_locs dX1_of_17
  · refine lv_sipush (v := nI 1024) hx hb dX1_of_9 (by decide) ?_
    refine lv_goto (tgt := 16) hx hb dX1_of_12 (by decide) ?_
    refine lv_ior hx hb dX1_of_16 ?_
    refine n_to (w := nI (litF t u true)) (lit_or2 ht0 hu0) ?_
    exact W.iret (v := nI (litF t u true)) hx hb hr (fun t ht hW => ⟨_, rfl, by first | (rw [c_6]) | (rw [ts_nf c_6]), ht⟩) no_locs dX1_of_17
theorem in_X3_has_X3 : ∀ w ∈ wsX30, w ∈ wsX3_has := by decide +kernel
theorem lk_X3_has_24 : Cond.fieldLink RX3 24 "ArrayClaims$TermTable" "count" "I" ∈ wsX3_has := by decide +kernel
def rX3_has_in : Room := { frames := 0, cells := 0, slots := 0, locals := 0 }
set_option maxHeartbeats 4000000 in
set_option maxRecDepth 100000 in
theorem c_X3_has_in (l : Launch) (D : va_G) (cI : ClassId) (A : Nat → Prop) (ad : Nat → Nat) (σ : Nat → Nat → Nat) (j : Nat) (hj : j < σ 0 1) (hc : σ 0 1 ≤ 24) : Met l yX3_has wsX3_has rX3_has_in (va_Pc [.ref (ad 1), .int (nI j)] (Wc D cI A ad σ)) (vp_Si (fun r => r = bI true)) 0 0 (fun _ => False) := by
  refine Met.ofW (cc := cX3_has) (maxL := 2) (ret := (some .boolean)) (by decide) rfl ?_
  intro p e s m args below meth c s₁ B hml hv
  obtain ⟨rfl, hP, hK, hD, hN, hZ⟩ := hv
  have hx := B.exec
  have hb := B.bytes
  have hr := B.returns
  have hts := atoms_spec (ws := wsX3_has) B.pre
  have hown : s.vm.findClass RX3 = some m.cls := findClass_of_methodNamed B.named
  have hlocks := B.notSynchronized
  have hS : va_S A s.heap s.heap [] := va_S.rf
  have hl := lv_entry ([.ref (ad 1), .int (nI j)]) (n := 2) (Nat.le_of_ble_eq_true rfl)
  rw [lg_entry_eq]
  generalize (lg_sl ([.ref (ad 1), .int (nI j)]) ++ List.replicate (2 - (lg_sl ([.ref (ad 1), .int (nI j)])).length) Slot.unset).toArray = ls at hl ⊢
  have hl : lv_has ls 2 [(0, .ref (ad 1)), (1, .int (nI j))] := hl
  refine lv_iload_n hx hb dX3_has_0 rfl (lv_at hl 1 rfl) ?_
  refine lv_if_lt hx hb (tgt := 16) dX3_has_1 (by decide) (fun c_1 => ?_) (fun c_1 => ?_)
  · exact absurd c_1 (nI_pos (by omega))
  · refine lv_iload_n hx hb dX3_has_4 rfl (lv_at hl 1 rfl) ?_
    refine lv_aload_n hx hb dX3_has_5 rfl (lv_at hl 0 rfl) ?_
    refine va_get (D := D) (ci := 2) (v := .int (nI (σ 0 1))) (C := RX3) (T := TX3) (N := 5) hx hb hts in_X3_has_X3 hown hK hP 1 rfl rfl 4 (by decide) (hts _ lk_X3_has_24) (fun _ h9 => h9) rfl dX3_has_6 ?_
    refine n_icmp_ge hx hb (tgt := 16) (by omega) (by omega) dX3_has_9 (by decide) (fun c_9 => ?_) (fun c_9 => ?_)
    · omega
    · refine lv_iconst (v := nI 1) hx hb dX3_has_12 (by decide) ?_
      refine lv_goto (tgt := 17) hx hb dX3_has_13 (by decide) ?_
      exact W.zret (v := nI 1) hx hb hr (n_nar1) (fun t ht hW => ⟨_, rfl, rfl, ht⟩) no_locs dX3_has_17
def rX3_has_out : Room := { frames := 0, cells := 0, slots := 0, locals := 0 }
set_option maxHeartbeats 4000000 in
set_option maxRecDepth 100000 in
theorem c_X3_has_out (l : Launch) (D : va_G) (cI : ClassId) (A : Nat → Prop) (ad : Nat → Nat) (σ : Nat → Nat → Nat) (x : Int32) (hxo : x < 0 ∨ nI (σ 0 1) ≤ x) : Met l yX3_has wsX3_has rX3_has_out (va_Pc [.ref (ad 1), .int x] (Wc D cI A ad σ)) (vp_Si (fun r => r = bI false)) 0 0 (fun _ => False) := by
  refine Met.ofW (cc := cX3_has) (maxL := 2) (ret := (some .boolean)) (by decide) rfl ?_
  intro p e s m args below meth c s₁ B hml hv
  obtain ⟨rfl, hP, hK, hD, hN, hZ⟩ := hv
  have hx := B.exec
  have hb := B.bytes
  have hr := B.returns
  have hts := atoms_spec (ws := wsX3_has) B.pre
  have hown : s.vm.findClass RX3 = some m.cls := findClass_of_methodNamed B.named
  have hlocks := B.notSynchronized
  have hS : va_S A s.heap s.heap [] := va_S.rf
  have hl := lv_entry ([.ref (ad 1), .int x]) (n := 2) (Nat.le_of_ble_eq_true rfl)
  rw [lg_entry_eq]
  generalize (lg_sl ([.ref (ad 1), .int x]) ++ List.replicate (2 - (lg_sl ([.ref (ad 1), .int x])).length) Slot.unset).toArray = ls at hl ⊢
  have hl : lv_has ls 2 [(0, .ref (ad 1)), (1, .int x)] := hl
  refine lv_iload_n hx hb dX3_has_0 rfl (lv_at hl 1 rfl) ?_
  refine lv_if_lt hx hb (tgt := 16) dX3_has_1 (by decide) (fun c_1 => ?_) (fun c_1 => ?_)
  · refine lv_iconst (v := nI 0) hx hb dX3_has_16 (by decide) ?_
    exact W.zret (v := nI 0) hx hb hr (n_nar0) (fun t ht hW => ⟨_, rfl, rfl, ht⟩) no_locs dX3_has_17
  · refine lv_iload_n hx hb dX3_has_4 rfl (lv_at hl 1 rfl) ?_
    refine lv_aload_n hx hb dX3_has_5 rfl (lv_at hl 0 rfl) ?_
    refine va_get (D := D) (ci := 2) (v := .int (nI (σ 0 1))) (C := RX3) (T := TX3) (N := 5) hx hb hts in_X3_has_X3 hown hK hP 1 rfl rfl 4 (by decide) (hts _ lk_X3_has_24) (fun _ h9 => h9) rfl dX3_has_6 ?_
    refine lv_icmp_ge hx hb (tgt := 16) dX3_has_9 (by decide) (fun c_9 => ?_) (fun c_9 => ?_)
    · refine lv_iconst (v := nI 0) hx hb dX3_has_16 (by decide) ?_
      exact W.zret (v := nI 0) hx hb hr (n_nar0) (fun t ht hW => ⟨_, rfl, rfl, ht⟩) no_locs dX3_has_17
    · exact absurd hxo (fun q => q.elim c_1 c_9)
theorem in_X3_sortOf_X3 : ∀ w ∈ wsX30, w ∈ wsX3_sortOf := by decide +kernel
theorem lk_X3_sortOf_9 : Cond.fieldLink RX3 9 "ArrayClaims$TermTable" "sorts" "[I" ∈ wsX3_sortOf := by decide +kernel
def rX3_sortOf_in : Room := { frames := 1, cells := 0, slots := 0, locals := 21 }
set_option maxHeartbeats 4000000 in
set_option maxRecDepth 100000 in
theorem c_X3_sortOf_in (l : Launch) (D : va_G) (cI : ClassId) (A : Nat → Prop) (ad : Nat → Nat) (σ : Nat → Nat → Nat) (j : Nat) (hj : j < σ 0 1) (hc : σ 0 1 ≤ 24) : Met l yX3_sortOf wsX3_sortOf rX3_sortOf_in (va_Pc [.ref (ad 1), .int (nI j)] (Wc D cI A ad σ)) (vp_Si (fun r => r = nI (σ 6 j))) 0 0 (fun _ => False) := by
  refine Met.ofW (cc := cX3_sortOf) (maxL := 2) (ret := (some .int)) (by decide) rfl ?_
  intro p e s m args below meth c s₁ B hml hv
  obtain ⟨rfl, hP, hK, hD, hN, hZ⟩ := hv
  have hx := B.exec
  have hb := B.bytes
  have hr := B.returns
  have hts := atoms_spec (ws := wsX3_sortOf) B.pre
  have hown : s.vm.findClass RX3 = some m.cls := findClass_of_methodNamed B.named
  have hlocks := B.notSynchronized
  have hS : va_S A s.heap s.heap [] := va_S.rf
  have hl := lv_entry ([.ref (ad 1), .int (nI j)]) (n := 2) (Nat.le_of_ble_eq_true rfl)
  rw [lg_entry_eq]
  generalize (lg_sl ([.ref (ad 1), .int (nI j)]) ++ List.replicate (2 - (lg_sl ([.ref (ad 1), .int (nI j)])).length) Slot.unset).toArray = ls at hl ⊢
  have hl : lv_has ls 2 [(0, .ref (ad 1)), (1, .int (nI j))] := hl
  refine lv_aload_n hx hb dX3_sortOf_0 rfl (lv_at hl 0 rfl) ?_
  refine lv_iload_n hx hb dX3_sortOf_1 rfl (lv_at hl 1 rfl) ?_
  refine vp_callSi (va_Run.run (va_runV (As := [.int (nI j)]) (rest := []) ⟨hx, hb, hml, hown, hts⟩ (c_X3_has_in l D cI A ad σ j hj hc) (cwV 1 hts gX3_sortOf_X3_has rfl rfl rfl (by decide +kernel) ⟨Nat.le_of_ble_eq_true rfl, Nat.le_of_ble_eq_true rfl⟩) ⟨Wc.blind, va_recv hK hP (ci := 2) (q0 := 1) rfl rfl, fun U hU hW => ⟨rfl, Wc.go hP hK hD hN hZ hS hU hW⟩⟩ rfl rfl hl.1 rfl (lv_room (Nat.le_of_ble_eq_true rfl)) dX3_sortOf_2 ⟨Nat.zero_le _, Nat.zero_le _⟩)) (fun r_1 hr_1 => ?_)
  refine n_to (w := bI true) (hr_1.trans rfl) ?_
  refine q_if_eq hx hb (tgt := 17) (bI_z) dX3_sortOf_5 (by decide) (fun c_5 => ?_) (fun c_5 => ?_)
  · cases c_5
  · refine lv_aload_n hx hb dX3_sortOf_8 rfl (lv_at hl 0 rfl) ?_
    refine va_get (D := D) (ci := 2) (v := .ref (ad 6)) (C := RX3) (T := TX3) (N := 5) hx hb hts in_X3_sortOf_X3 hown hK hP 1 rfl rfl 0 (by decide) (hts _ lk_X3_sortOf_9) (fun _ h9 => h9) rfl dX3_sortOf_9 ?_
    refine lv_iload_n hx hb dX3_sortOf_12 rfl (lv_at hl 1 rfl) ?_
    refine n_ald hx hb hK hP 6 0 rfl rfl (i := j) (by omega) (by decide) (v := nI (σ 6 j)) rfl dX3_sortOf_13 ?_
    refine lv_goto (tgt := 18) hx hb dX3_sortOf_14 (by decide) ?_
    exact W.iret (v := nI (σ 6 j)) hx hb hr (fun t ht hW => ⟨_, rfl, rfl, ht⟩) no_locs dX3_sortOf_18
def rX3_sortOf_out : Room := { frames := 1, cells := 0, slots := 0, locals := 21 }
set_option maxHeartbeats 4000000 in
set_option maxRecDepth 100000 in
theorem c_X3_sortOf_out (l : Launch) (D : va_G) (cI : ClassId) (A : Nat → Prop) (ad : Nat → Nat) (σ : Nat → Nat → Nat) (x : Int32) (hxo : x < 0 ∨ nI (σ 0 1) ≤ x) : Met l yX3_sortOf wsX3_sortOf rX3_sortOf_out (va_Pc [.ref (ad 1), .int x] (Wc D cI A ad σ)) (vp_Si (fun r => r = mI 0)) 0 0 (fun _ => False) := by
  refine Met.ofW (cc := cX3_sortOf) (maxL := 2) (ret := (some .int)) (by decide) rfl ?_
  intro p e s m args below meth c s₁ B hml hv
  obtain ⟨rfl, hP, hK, hD, hN, hZ⟩ := hv
  have hx := B.exec
  have hb := B.bytes
  have hr := B.returns
  have hts := atoms_spec (ws := wsX3_sortOf) B.pre
  have hown : s.vm.findClass RX3 = some m.cls := findClass_of_methodNamed B.named
  have hlocks := B.notSynchronized
  have hS : va_S A s.heap s.heap [] := va_S.rf
  have hl := lv_entry ([.ref (ad 1), .int x]) (n := 2) (Nat.le_of_ble_eq_true rfl)
  rw [lg_entry_eq]
  generalize (lg_sl ([.ref (ad 1), .int x]) ++ List.replicate (2 - (lg_sl ([.ref (ad 1), .int x])).length) Slot.unset).toArray = ls at hl ⊢
  have hl : lv_has ls 2 [(0, .ref (ad 1)), (1, .int x)] := hl
  refine lv_aload_n hx hb dX3_sortOf_0 rfl (lv_at hl 0 rfl) ?_
  refine lv_iload_n hx hb dX3_sortOf_1 rfl (lv_at hl 1 rfl) ?_
  refine vp_callSi (va_Run.run (va_runV (As := [.int x]) (rest := []) ⟨hx, hb, hml, hown, hts⟩ (c_X3_has_out l D cI A ad σ x hxo) (cwV 1 hts gX3_sortOf_X3_has rfl rfl rfl (by decide +kernel) ⟨Nat.le_of_ble_eq_true rfl, Nat.le_of_ble_eq_true rfl⟩) ⟨Wc.blind, va_recv hK hP (ci := 2) (q0 := 1) rfl rfl, fun U hU hW => ⟨rfl, Wc.go hP hK hD hN hZ hS hU hW⟩⟩ rfl rfl hl.1 rfl (lv_room (Nat.le_of_ble_eq_true rfl)) dX3_sortOf_2 ⟨Nat.zero_le _, Nat.zero_le _⟩)) (fun r_1 hr_1 => ?_)
  refine n_to (w := bI false) (hr_1.trans rfl) ?_
  refine q_if_eq hx hb (tgt := 17) (bI_z) dX3_sortOf_5 (by decide) (fun c_5 => ?_) (fun c_5 => ?_)
  · refine lv_iconst (v := mI 0) hx hb dX3_sortOf_17 (by decide) ?_
    exact W.iret (v := mI 0) hx hb hr (fun t ht hW => ⟨_, rfl, rfl, ht⟩) no_locs dX3_sortOf_18
  · exact absurd rfl c_5
theorem in_X3_find_X3 : ∀ w ∈ wsX30, w ∈ wsX3_find := by decide +kernel
theorem lk_X3_find_24 : Cond.fieldLink RX3 24 "ArrayClaims$TermTable" "count" "I" ∈ wsX3_find := by decide +kernel
theorem lk_X3_find_9 : Cond.fieldLink RX3 9 "ArrayClaims$TermTable" "sorts" "[I" ∈ wsX3_find := by decide +kernel
theorem lk_X3_find_15 : Cond.fieldLink RX3 15 "ArrayClaims$TermTable" "arrays" "[I" ∈ wsX3_find := by decide +kernel
theorem lk_X3_find_18 : Cond.fieldLink RX3 18 "ArrayClaims$TermTable" "indices" "[I" ∈ wsX3_find := by decide +kernel
theorem lk_X3_find_21 : Cond.fieldLink RX3 21 "ArrayClaims$TermTable" "elements" "[I" ∈ wsX3_find := by decide +kernel
def rX3_find : Room := { frames := 0, cells := 0, slots := 0, locals := 0 }
set_option maxHeartbeats 4000000 in
set_option maxRecDepth 100000 in
theorem c_X3_find (l : Launch) (D : va_G) (cI : ClassId) (A : Nat → Prop) (ad : Nat → Nat) (σ : Nat → Nat → Nat) (q a i x : Nat) (hI : IC σ) (hq : q ≤ 2) (ha : a ≤ 24) (hi : i ≤ 24) (hx0 : x ≤ 24) : Met l yX3_find wsX3_find rX3_find (va_Pc [.ref (ad 1), .int (nI q), .int (mI a), .int (mI i), .int (mI x)] (Wc D cI A ad σ)) (vp_Si (fun r => r = mI (findF σ q a i x (σ 0 1 - 7) 7))) 0 0 (fun _ => False) := by
  refine Met.ofW (cc := cX3_find) (maxL := 6) (ret := (some .int)) (by decide) rfl ?_
  intro p e s m args below meth c s₁ B hml hv
  obtain ⟨rfl, hP, hK, hD, hN, hZ⟩ := hv
  have hx := B.exec
  have hb := B.bytes
  have hr := B.returns
  have hts := atoms_spec (ws := wsX3_find) B.pre
  have hown : s.vm.findClass RX3 = some m.cls := findClass_of_methodNamed B.named
  have hlocks := B.notSynchronized
  have hS : va_S A s.heap s.heap [] := va_S.rf
  have hl := lv_entry ([.ref (ad 1), .int (nI q), .int (mI a), .int (mI i), .int (mI x)]) (n := 6) (Nat.le_of_ble_eq_true rfl)
  rw [lg_entry_eq]
  generalize (lg_sl ([.ref (ad 1), .int (nI q), .int (mI a), .int (mI i), .int (mI x)]) ++ List.replicate (6 - (lg_sl ([.ref (ad 1), .int (nI q), .int (mI a), .int (mI i), .int (mI x)])).length) Slot.unset).toArray = ls at hl ⊢
  have hl : lv_has ls 6 [(0, .ref (ad 1)), (1, .int (nI q)), (2, .int (mI a)), (3, .int (mI i)), (4, .int (mI x))] := hl
  have hc := hI.terms
  refine lv_bipush (v := nI 7) hx hb dX3_find_0 (by decide) ?_
  refine lv_istore (lv' := [(5, .int (nI 7)), (0, .ref (ad 1)), (1, .int (nI q)), (2, .int (mI a)), (3, .int (mI i)), (4, .int (mI x))]) hx hb dX3_find_2 hl (by decide) rfl (fun ls hl => ?_)
  have lp4 : ∀ (n : Nat) (t : Nat) (ls : Array Slot), (t + n = σ 0 1 ∧ 7 ≤ t) → (mI (findF σ q a i x (σ 0 1 - 7) 7) = mI (findF σ q a i x n t)) → lv_has ls 6 [(5, .int (nI t)), (0, .ref (ad 1)), (1, .int (nI q)), (2, .int (mI a)), (3, .int (mI i)), (4, .int (mI x))] → WR p l e rX3_find s m (([.ref (ad 1), .int (nI q), .int (mI a), .int (mI i), .int (mI x)] : List Value).toArray) below meth c s.heap (fun r => r = mI (findF σ q a i x (σ 0 1 - 7) 7)) (F0 m 4 ls []) := by
    intro n
    induction n with
    | zero =>
      intro t ls hF1 hF hl
      obtain ⟨hF0, hF7⟩ := hF1
      refine lv_iload hx hb dX3_find_4 (lv_at hl 0 rfl) ?_
      refine lv_aload_n hx hb dX3_find_6 rfl (lv_at hl 1 rfl) ?_
      refine va_get (D := D) (ci := 2) (v := .int (nI (σ 0 1))) (C := RX3) (T := TX3) (N := 5) hx hb hts in_X3_find_X3 hown hK hP 1 rfl rfl 4 (by decide) (hts _ lk_X3_find_24) (fun _ h9 => h9) rfl dX3_find_7 ?_
      refine n_icmp_ge hx hb (tgt := 67) (by omega) (by omega) dX3_find_10 (by decide) (fun c_10 => ?_) (fun c_10 => ?_)
      · refine lv_iconst (v := mI 0) hx hb dX3_find_67 (by decide) ?_
        exact W.iret (v := mI 0) hx hb hr (fun t ht hW => ⟨_, rfl, by rw [hF]; rfl, ht⟩) no_locs dX3_find_68
      · omega
    | succ n ih4 =>
      intro t ls hF1 hF hl
      obtain ⟨hF0, hF7⟩ := hF1
      have hr1 := hI.rows (j := t) (by omega)
      have hr2 := hI.sorts (j := t) (by omega)
      refine lv_iload hx hb dX3_find_4 (lv_at hl 0 rfl) ?_
      refine lv_aload_n hx hb dX3_find_6 rfl (lv_at hl 1 rfl) ?_
      refine va_get (D := D) (ci := 2) (v := .int (nI (σ 0 1))) (C := RX3) (T := TX3) (N := 5) hx hb hts in_X3_find_X3 hown hK hP 1 rfl rfl 4 (by decide) (hts _ lk_X3_find_24) (fun _ h9 => h9) rfl dX3_find_7 ?_
      refine n_icmp_ge hx hb (tgt := 67) (by omega) (by omega) dX3_find_10 (by decide) (fun c_10 => ?_) (fun c_10 => ?_)
      · omega
      · refine lv_aload_n hx hb dX3_find_13 rfl (lv_at hl 1 rfl) ?_
        refine va_get (D := D) (ci := 2) (v := .ref (ad 6)) (C := RX3) (T := TX3) (N := 5) hx hb hts in_X3_find_X3 hown hK hP 1 rfl rfl 0 (by decide) (hts _ lk_X3_find_9) (fun _ h9 => h9) rfl dX3_find_14 ?_
        refine lv_iload hx hb dX3_find_17 (lv_at hl 0 rfl) ?_
        refine n_ald hx hb hK hP 6 0 rfl rfl (i := t) (by omega) (by decide) (v := nI (σ 6 t)) rfl dX3_find_19 ?_
        refine lv_iload_n hx hb dX3_find_20 rfl (lv_at hl 2 rfl) ?_
        refine q_icmp_ne hx hb (tgt := 61) (nI_eq (by omega) (by omega)) dX3_find_21 (by decide) (fun c_21 => ?_) (fun c_21 => ?_)
        · refine lv_iinc (v := nI (t + 1)) (lv' := [(5, .int (nI (t + 1))), (0, .ref (ad 1)), (1, .int (nI q)), (2, .int (mI a)), (3, .int (mI i)), (4, .int (mI x))]) hx hb dX3_find_61 hl (k := 0) rfl (nI_add _ _) (by decide) rfl (fun ls hl => ?_)
          refine lv_goto (tgt := 4) hx hb dX3_find_64 (by decide) ?_
          exact ih4 (t + 1)  _  (by omega) (by rw [hF]; simp [findF, *]) (lv_sub hl [0, 1, 2, 3, 4, 5] rfl)
        · refine lv_aload_n hx hb dX3_find_24 rfl (lv_at hl 1 rfl) ?_
          refine va_get (D := D) (ci := 2) (v := .ref (ad 7)) (C := RX3) (T := TX3) (N := 5) hx hb hts in_X3_find_X3 hown hK hP 1 rfl rfl 1 (by decide) (hts _ lk_X3_find_15) (fun _ h9 => h9) rfl dX3_find_25 ?_
          refine lv_iload hx hb dX3_find_28 (lv_at hl 0 rfl) ?_
          refine n_ald hx hb hK hP 7 0 rfl rfl (i := t) (by omega) (by decide) (v := mI (σ 7 t)) rfl dX3_find_30 ?_
          refine lv_iload_n hx hb dX3_find_31 rfl (lv_at hl 3 rfl) ?_
          refine q_icmp_ne hx hb (tgt := 61) (mI_eq (by omega) (by omega)) dX3_find_32 (by decide) (fun c_32 => ?_) (fun c_32 => ?_)
          · refine lv_iinc (v := nI (t + 1)) (lv' := [(5, .int (nI (t + 1))), (0, .ref (ad 1)), (1, .int (nI q)), (2, .int (mI a)), (3, .int (mI i)), (4, .int (mI x))]) hx hb dX3_find_61 hl (k := 0) rfl (nI_add _ _) (by decide) rfl (fun ls hl => ?_)
            refine lv_goto (tgt := 4) hx hb dX3_find_64 (by decide) ?_
            exact ih4 (t + 1)  _  (by omega) (by rw [hF]; simp [findF, *]) (lv_sub hl [0, 1, 2, 3, 4, 5] rfl)
          · refine lv_aload_n hx hb dX3_find_35 rfl (lv_at hl 1 rfl) ?_
            refine va_get (D := D) (ci := 2) (v := .ref (ad 8)) (C := RX3) (T := TX3) (N := 5) hx hb hts in_X3_find_X3 hown hK hP 1 rfl rfl 2 (by decide) (hts _ lk_X3_find_18) (fun _ h9 => h9) rfl dX3_find_36 ?_
            refine lv_iload hx hb dX3_find_39 (lv_at hl 0 rfl) ?_
            refine n_ald hx hb hK hP 8 0 rfl rfl (i := t) (by omega) (by decide) (v := mI (σ 8 t)) rfl dX3_find_41 ?_
            refine lv_iload_n hx hb dX3_find_42 rfl (lv_at hl 4 rfl) ?_
            refine q_icmp_ne hx hb (tgt := 61) (mI_eq (by omega) (by omega)) dX3_find_43 (by decide) (fun c_43 => ?_) (fun c_43 => ?_)
            · refine lv_iinc (v := nI (t + 1)) (lv' := [(5, .int (nI (t + 1))), (0, .ref (ad 1)), (1, .int (nI q)), (2, .int (mI a)), (3, .int (mI i)), (4, .int (mI x))]) hx hb dX3_find_61 hl (k := 0) rfl (nI_add _ _) (by decide) rfl (fun ls hl => ?_)
              refine lv_goto (tgt := 4) hx hb dX3_find_64 (by decide) ?_
              exact ih4 (t + 1)  _  (by omega) (by rw [hF]; simp [findF, *]) (lv_sub hl [0, 1, 2, 3, 4, 5] rfl)
            · refine lv_aload_n hx hb dX3_find_46 rfl (lv_at hl 1 rfl) ?_
              refine va_get (D := D) (ci := 2) (v := .ref (ad 9)) (C := RX3) (T := TX3) (N := 5) hx hb hts in_X3_find_X3 hown hK hP 1 rfl rfl 3 (by decide) (hts _ lk_X3_find_21) (fun _ h9 => h9) rfl dX3_find_47 ?_
              refine lv_iload hx hb dX3_find_50 (lv_at hl 0 rfl) ?_
              refine n_ald hx hb hK hP 9 0 rfl rfl (i := t) (by omega) (by decide) (v := mI (σ 9 t)) rfl dX3_find_52 ?_
              refine lv_iload hx hb dX3_find_53 (lv_at hl 5 rfl) ?_
              refine q_icmp_ne hx hb (tgt := 61) (mI_eq (by omega) (by omega)) dX3_find_55 (by decide) (fun c_55 => ?_) (fun c_55 => ?_)
              · refine lv_iinc (v := nI (t + 1)) (lv' := [(5, .int (nI (t + 1))), (0, .ref (ad 1)), (1, .int (nI q)), (2, .int (mI a)), (3, .int (mI i)), (4, .int (mI x))]) hx hb dX3_find_61 hl (k := 0) rfl (nI_add _ _) (by decide) rfl (fun ls hl => ?_)
                refine lv_goto (tgt := 4) hx hb dX3_find_64 (by decide) ?_
                exact ih4 (t + 1)  _  (by omega) (by rw [hF]; simp [findF, *]) (lv_sub hl [0, 1, 2, 3, 4, 5] rfl)
              · refine lv_iload hx hb dX3_find_58 (lv_at hl 0 rfl) ?_
                exact W.iret (v := nI t) hx hb hr (fun t ht hW => ⟨_, rfl, by rw [hF]; simp [findF, *, mI_succ], ht⟩) no_locs dX3_find_60
  exact lp4 (σ 0 1 - 7) 7  _ (by omega) (rfl) (lv_sub hl [0, 1, 2, 3, 4, 5] rfl)
theorem in_X0_sizeOf_X0 : ∀ w ∈ wsX00, w ∈ wsX0_sizeOf := by decide +kernel
theorem lk_X0_sizeOf_15 : Cond.fieldLink RX0 15 "ArrayClaims$ClaimList" "sizes" "[I" ∈ wsX0_sizeOf := by decide +kernel
def rX0_sizeOf : Room := { frames := 0, cells := 0, slots := 0, locals := 0 }
set_option maxHeartbeats 4000000 in
set_option maxRecDepth 100000 in
theorem c_X0_sizeOf (l : Launch) (D : va_G) (cI : ClassId) (A : Nat → Prop) (ad : Nat → Nat) (σ : Nat → Nat → Nat) (k : Nat) (hk : k < 11) : Met l yX0_sizeOf wsX0_sizeOf rX0_sizeOf (va_Pc [.ref (ad 4), .int (nI k)] (Wc D cI A ad σ)) (vp_Si (fun r => r = nI (σ 13 k))) 0 0 (fun _ => False) := by
  refine Met.ofW (cc := cX0_sizeOf) (maxL := 2) (ret := (some .int)) (by decide) rfl ?_
  intro p e s m args below meth c s₁ B hml hv
  obtain ⟨rfl, hP, hK, hD, hN, hZ⟩ := hv
  have hx := B.exec
  have hb := B.bytes
  have hr := B.returns
  have hts := atoms_spec (ws := wsX0_sizeOf) B.pre
  have hown : s.vm.findClass RX0 = some m.cls := findClass_of_methodNamed B.named
  have hlocks := B.notSynchronized
  have hS : va_S A s.heap s.heap [] := va_S.rf
  have hl := lv_entry ([.ref (ad 4), .int (nI k)]) (n := 2) (Nat.le_of_ble_eq_true rfl)
  rw [lg_entry_eq]
  generalize (lg_sl ([.ref (ad 4), .int (nI k)]) ++ List.replicate (2 - (lg_sl ([.ref (ad 4), .int (nI k)])).length) Slot.unset).toArray = ls at hl ⊢
  have hl : lv_has ls 2 [(0, .ref (ad 4)), (1, .int (nI k))] := hl
  refine lv_aload_n hx hb dX0_sizeOf_0 rfl (lv_at hl 0 rfl) ?_
  refine va_get (D := D) (ci := 0) (v := .ref (ad 13)) (C := RX0) (T := TX0) (N := 3) hx hb hts in_X0_sizeOf_X0 hown hK hP 4 rfl rfl 1 (by decide) (hts _ lk_X0_sizeOf_15) (fun _ h9 => h9) rfl dX0_sizeOf_1 ?_
  refine lv_iload_n hx hb dX0_sizeOf_4 rfl (lv_at hl 1 rfl) ?_
  refine n_ald hx hb hK hP 13 0 rfl rfl (i := k) (by omega) (by decide) (v := nI (σ 13 k)) rfl dX0_sizeOf_5 ?_
  exact W.iret (v := nI (σ 13 k)) hx hb hr (fun t ht hW => ⟨_, rfl, rfl, ht⟩) no_locs dX0_sizeOf_6
theorem in_X0_at_X0 : ∀ w ∈ wsX00, w ∈ wsX0_at := by decide +kernel
theorem lk_X0_at_9 : Cond.fieldLink RX0 9 "ArrayClaims$ClaimList" "literals" "[I" ∈ wsX0_at := by decide +kernel
def rX0_at : Room := { frames := 0, cells := 0, slots := 0, locals := 0 }
set_option maxHeartbeats 4000000 in
set_option maxRecDepth 100000 in
theorem c_X0_at (l : Launch) (D : va_G) (cI : ClassId) (A : Nat → Prop) (ad : Nat → Nat) (σ : Nat → Nat → Nat) (k j : Nat) (hk : k * 3 + j < 33) : Met l yX0_at wsX0_at rX0_at (va_Pc [.ref (ad 4), .int (nI k), .int (nI j)] (Wc D cI A ad σ)) (vp_Si (fun r => r = nI (σ 12 (k * 3 + j)))) 0 0 (fun _ => False) := by
  refine Met.ofW (cc := cX0_at) (maxL := 3) (ret := (some .int)) (by decide) rfl ?_
  intro p e s m args below meth c s₁ B hml hv
  obtain ⟨rfl, hP, hK, hD, hN, hZ⟩ := hv
  have hx := B.exec
  have hb := B.bytes
  have hr := B.returns
  have hts := atoms_spec (ws := wsX0_at) B.pre
  have hown : s.vm.findClass RX0 = some m.cls := findClass_of_methodNamed B.named
  have hlocks := B.notSynchronized
  have hS : va_S A s.heap s.heap [] := va_S.rf
  have hl := lv_entry ([.ref (ad 4), .int (nI k), .int (nI j)]) (n := 3) (Nat.le_of_ble_eq_true rfl)
  rw [lg_entry_eq]
  generalize (lg_sl ([.ref (ad 4), .int (nI k), .int (nI j)]) ++ List.replicate (3 - (lg_sl ([.ref (ad 4), .int (nI k), .int (nI j)])).length) Slot.unset).toArray = ls at hl ⊢
  have hl : lv_has ls 3 [(0, .ref (ad 4)), (1, .int (nI k)), (2, .int (nI j))] := hl
  refine lv_aload_n hx hb dX0_at_0 rfl (lv_at hl 0 rfl) ?_
  refine va_get (D := D) (ci := 0) (v := .ref (ad 12)) (C := RX0) (T := TX0) (N := 3) hx hb hts in_X0_at_X0 hown hK hP 4 rfl rfl 0 (by decide) (hts _ lk_X0_at_9) (fun _ h9 => h9) rfl dX0_at_1 ?_
  refine lv_iload_n hx hb dX0_at_4 rfl (lv_at hl 1 rfl) ?_
  refine lv_iconst (v := nI 3) hx hb dX0_at_5 (by decide) ?_
  refine n_mul hx hb dX0_at_6 ?_
  refine lv_iload_n hx hb dX0_at_7 rfl (lv_at hl 2 rfl) ?_
  refine n_add hx hb dX0_at_8 ?_
  refine n_ald hx hb hK hP 12 0 rfl rfl (i := (k * 3) + j) (by omega) (by decide) (v := nI (σ 12 ((k * 3) + j))) rfl dX0_at_9 ?_
  exact W.iret (v := nI (σ 12 ((k * 3) + j))) hx hb hr (fun t ht hW => ⟨_, rfl, rfl, ht⟩) no_locs dX0_at_10
theorem lk_X2_lowest_35 : Cond.fieldLink RX2 35 "ArrayClaims$ReadingSearch" "LOWEST" "[I" ∈ wsX2_lowest := by decide +kernel
def rX2_lowest : Room := { frames := 0, cells := 0, slots := 0, locals := 0 }
set_option maxHeartbeats 4000000 in
set_option maxRecDepth 100000 in
theorem c_X2_lowest (l : Launch) (D : va_G) (cI : ClassId) (A : Nat → Prop) (ad : Nat → Nat) (σ : Nat → Nat → Nat) (w j : Nat) (hw : w * 3 + j < 15) : Met l yX2_lowest wsX2_lowest rX2_lowest (va_Pc [.int (nI w), .int (nI j)] (Wc D cI A ad σ)) (vp_Si (fun r => r = nI (lowF (w * 3 + j)))) 0 0 (fun _ => False) := by
  refine Met.ofW (cc := cX2_lowest) (maxL := 2) (ret := (some .int)) (by decide) rfl ?_
  intro p e s m args below meth c s₁ B hml hv
  obtain ⟨rfl, hP, hK, hD, hN, hZ⟩ := hv
  have hx := B.exec
  have hb := B.bytes
  have hr := B.returns
  have hts := atoms_spec (ws := wsX2_lowest) B.pre
  have hown : s.vm.findClass RX2 = some m.cls := findClass_of_methodNamed B.named
  have hlocks := B.notSynchronized
  have hS : va_S A s.heap s.heap [] := va_S.rf
  have hl := lv_entry ([.int (nI w), .int (nI j)]) (n := 2) (Nat.le_of_ble_eq_true rfl)
  rw [lg_entry_eq]
  generalize (lg_sl ([.int (nI w), .int (nI j)]) ++ List.replicate (2 - (lg_sl ([.int (nI w), .int (nI j)])).length) Slot.unset).toArray = ls at hl ⊢
  have hl : lv_has ls 2 [(0, .int (nI w)), (1, .int (nI j))] := hl
  obtain ⟨t1, t2, hZ1, hT1, hZ2, hT2⟩ := id hZ
  refine va_gets hx hb hZ1 hS hown (hts _ lk_X2_lowest_35) (fun _ h9 => h9) dX2_lowest_0 ?_
  refine lv_iload_n hx hb dX2_lowest_3 rfl (lv_at hl 0 rfl) ?_
  refine lv_iconst (v := nI 3) hx hb dX2_lowest_4 (by decide) ?_
  refine n_mul hx hb dX2_lowest_5 ?_
  refine lv_iload_n hx hb dX2_lowest_6 rfl (lv_at hl 1 rfl) ?_
  refine n_add hx hb dX2_lowest_7 ?_
  refine n_tld hx hb hT1 hS (i := (w * 3) + j) (by omega) (by decide) dX2_lowest_8 ?_
  exact W.iret (v := nI (lowF ((w * 3) + j))) hx hb hr (fun t ht hW => ⟨_, rfl, rfl, ht⟩) no_locs dX2_lowest_9
def rX2_width : Room := { frames := 0, cells := 0, slots := 0, locals := 0 }
set_option maxHeartbeats 4000000 in
set_option maxRecDepth 100000 in
theorem c_X2_width (l : Launch)   (q : Nat) (hq : q ≤ 2) : Met l yX2_width wsX2_width rX2_width (va_Pc [.int (nI q)] (fun _ => True)) (vp_Si (fun r => r = nI (widF q))) 0 0 (fun _ => False) := by
  refine Met.ofW (cc := cX2_width) (maxL := 1) (ret := (some .int)) (by decide) rfl ?_
  intro p e s m args below meth c s₁ B hml hv
  obtain ⟨rfl, -⟩ := hv
  have hx := B.exec
  have hb := B.bytes
  have hr := B.returns
  have hts := atoms_spec (ws := wsX2_width) B.pre
  have hown : s.vm.findClass RX2 = some m.cls := findClass_of_methodNamed B.named
  have hlocks := B.notSynchronized
  have hl := lv_entry ([.int (nI q)]) (n := 1) (Nat.le_of_ble_eq_true rfl)
  rw [lg_entry_eq]
  generalize (lg_sl ([.int (nI q)]) ++ List.replicate (1 - (lg_sl ([.int (nI q)])).length) Slot.unset).toArray = ls at hl ⊢
  have hl : lv_has ls 1 [(0, .int (nI q))] := hl
  refine lv_iload_n hx hb dX2_width_0 rfl (lv_at hl 0 rfl) ?_
  refine lv_iconst (v := nI 2) hx hb dX2_width_1 (by decide) ?_
  refine q_icmp_ne hx hb (tgt := 9) (nI_eq (by omega) (by omega)) dX2_width_2 (by decide) (fun c_2 => ?_) (fun c_2 => ?_)
  · refine lv_iconst (v := nI 1) hx hb dX2_width_9 (by decide) ?_
    exact W.iret (v := nI 1) hx hb hr (fun t ht hW => ⟨_, rfl, by unfold widF; first | (rw [if_pos c_2]) | (rw [if_neg c_2]), ht⟩) no_locs dX2_width_10
  · refine lv_iconst (v := nI 4) hx hb dX2_width_5 (by decide) ?_
    refine lv_goto (tgt := 10) hx hb dX2_width_6 (by decide) ?_
    exact W.iret (v := nI 4) hx hb hr (fun t ht hW => ⟨_, rfl, by unfold widF; first | (rw [if_pos c_2]) | (rw [if_neg c_2]), ht⟩) no_locs dX2_width_10
theorem in_X2_partLikeness_X2 : ∀ w ∈ wsX20, w ∈ wsX2_partLikeness := by decide +kernel
theorem lk_X2_partLikeness_15 : Cond.fieldLink RX2 15 "ArrayClaims$ReadingSearch" "chosen" "[I" ∈ wsX2_partLikeness := by decide +kernel
def rX2_partLikeness : Room := { frames := 0, cells := 0, slots := 0, locals := 0 }
set_option maxHeartbeats 4000000 in
set_option maxRecDepth 100000 in
theorem c_X2_partLikeness (l : Launch) (D : va_G) (cI : ClassId) (A : Nat → Prop) (ad : Nat → Nat) (σ : Nat → Nat → Nat) (q x y : Nat) (hI : IC σ) (hq : q ≤ 2) (hx0 : x < 10) (hy0 : y < 10) : Met l yX2_partLikeness wsX2_partLikeness rX2_partLikeness (va_Pc [.ref (ad 5), .int (nI q), .int (nI x), .int (nI y)] (Wc D cI A ad σ)) (vp_Si (fun r => r = nI (plF σ q x y))) 0 0 (fun _ => False) := by
  refine Met.ofW (cc := cX2_partLikeness) (maxL := 4) (ret := (some .int)) (by decide) rfl ?_
  intro p e s m args below meth c s₁ B hml hv
  obtain ⟨rfl, hP, hK, hD, hN, hZ⟩ := hv
  have hx := B.exec
  have hb := B.bytes
  have hr := B.returns
  have hts := atoms_spec (ws := wsX2_partLikeness) B.pre
  have hown : s.vm.findClass RX2 = some m.cls := findClass_of_methodNamed B.named
  have hlocks := B.notSynchronized
  have hS : va_S A s.heap s.heap [] := va_S.rf
  have hl := lv_entry ([.ref (ad 5), .int (nI q), .int (nI x), .int (nI y)]) (n := 4) (Nat.le_of_ble_eq_true rfl)
  rw [lg_entry_eq]
  generalize (lg_sl ([.ref (ad 5), .int (nI q), .int (nI x), .int (nI y)]) ++ List.replicate (4 - (lg_sl ([.ref (ad 5), .int (nI q), .int (nI x), .int (nI y)])).length) Slot.unset).toArray = ls at hl ⊢
  have hl : lv_has ls 4 [(0, .ref (ad 5)), (1, .int (nI q)), (2, .int (nI x)), (3, .int (nI y))] := hl
  have hcx := hI.chosen hx0
  have hcy := hI.chosen hy0
  refine lv_iload_n hx hb dX2_partLikeness_0 rfl (lv_at hl 2 rfl) ?_
  refine lv_iload_n hx hb dX2_partLikeness_1 rfl (lv_at hl 3 rfl) ?_
  refine q_icmp_ne hx hb (tgt := 7) (nI_eq (by omega) (by omega)) dX2_partLikeness_2 (by decide) (fun c_2 => ?_) (fun c_2 => ?_)
  · refine lv_iload_n hx hb dX2_partLikeness_7 rfl (lv_at hl 1 rfl) ?_
    refine q_if_ne hx hb (tgt := 13) (nI_z (by omega)) dX2_partLikeness_8 (by decide) (fun c_8 => ?_) (fun c_8 => ?_)
    · refine lv_aload_n hx hb dX2_partLikeness_13 rfl (lv_at hl 0 rfl) ?_
      refine va_get (D := D) (ci := 1) (v := .ref (ad 15)) (C := RX2) (T := TX2) (N := 2) hx hb hts in_X2_partLikeness_X2 hown hK hP 5 rfl rfl 1 (by decide) (hts _ lk_X2_partLikeness_15) (fun _ h9 => h9) rfl dX2_partLikeness_14 ?_
      refine lv_iload_n hx hb dX2_partLikeness_17 rfl (lv_at hl 2 rfl) ?_
      refine n_ald hx hb hK hP 15 0 rfl rfl (i := x) (by omega) (by decide) (v := mI (σ 15 x)) rfl dX2_partLikeness_18 ?_
      refine lv_iconst (v := mI 0) hx hb dX2_partLikeness_19 (by decide) ?_
      refine q_icmp_eq hx hb (tgt := 33) (mI_eq (by omega) (by omega)) dX2_partLikeness_20 (by decide) (fun c_20 => ?_) (fun c_20 => ?_)
      · refine lv_iconst (v := nI 2) hx hb dX2_partLikeness_33 (by decide) ?_
        exact W.iret (v := nI 2) hx hb hr (fun t ht hW => ⟨_, rfl, by simp [plF, *], ht⟩) no_locs dX2_partLikeness_34
      · refine lv_aload_n hx hb dX2_partLikeness_23 rfl (lv_at hl 0 rfl) ?_
        refine va_get (D := D) (ci := 1) (v := .ref (ad 15)) (C := RX2) (T := TX2) (N := 2) hx hb hts in_X2_partLikeness_X2 hown hK hP 5 rfl rfl 1 (by decide) (hts _ lk_X2_partLikeness_15) (fun _ h9 => h9) rfl dX2_partLikeness_24 ?_
        refine lv_iload_n hx hb dX2_partLikeness_27 rfl (lv_at hl 3 rfl) ?_
        refine n_ald hx hb hK hP 15 0 rfl rfl (i := y) (by omega) (by decide) (v := mI (σ 15 y)) rfl dX2_partLikeness_28 ?_
        refine lv_iconst (v := mI 0) hx hb dX2_partLikeness_29 (by decide) ?_
        refine q_icmp_ne hx hb (tgt := 35) (mI_eq (by omega) (by omega)) dX2_partLikeness_30 (by decide) (fun c_30 => ?_) (fun c_30 => ?_)
        · refine lv_aload_n hx hb dX2_partLikeness_35 rfl (lv_at hl 0 rfl) ?_
          refine va_get (D := D) (ci := 1) (v := .ref (ad 15)) (C := RX2) (T := TX2) (N := 2) hx hb hts in_X2_partLikeness_X2 hown hK hP 5 rfl rfl 1 (by decide) (hts _ lk_X2_partLikeness_15) (fun _ h9 => h9) rfl dX2_partLikeness_36 ?_
          refine lv_iload_n hx hb dX2_partLikeness_39 rfl (lv_at hl 2 rfl) ?_
          refine n_ald hx hb hK hP 15 0 rfl rfl (i := x) (by omega) (by decide) (v := mI (σ 15 x)) rfl dX2_partLikeness_40 ?_
          refine lv_aload_n hx hb dX2_partLikeness_41 rfl (lv_at hl 0 rfl) ?_
          refine va_get (D := D) (ci := 1) (v := .ref (ad 15)) (C := RX2) (T := TX2) (N := 2) hx hb hts in_X2_partLikeness_X2 hown hK hP 5 rfl rfl 1 (by decide) (hts _ lk_X2_partLikeness_15) (fun _ h9 => h9) rfl dX2_partLikeness_42 ?_
          refine lv_iload_n hx hb dX2_partLikeness_45 rfl (lv_at hl 3 rfl) ?_
          refine n_ald hx hb hK hP 15 0 rfl rfl (i := y) (by omega) (by decide) (v := mI (σ 15 y)) rfl dX2_partLikeness_46 ?_
          refine q_icmp_ne hx hb (tgt := 54) (mI_eq (by omega) (by omega)) dX2_partLikeness_47 (by decide) (fun c_47 => ?_) (fun c_47 => ?_)
          · refine lv_iconst (v := nI 0) hx hb dX2_partLikeness_54 (by decide) ?_
            exact W.iret (v := nI 0) hx hb hr (fun t ht hW => ⟨_, rfl, by simp [plF, *], ht⟩) no_locs dX2_partLikeness_55
          · refine lv_iconst (v := nI 1) hx hb dX2_partLikeness_50 (by decide) ?_
            refine lv_goto (tgt := 55) hx hb dX2_partLikeness_51 (by decide) ?_
            exact W.iret (v := nI 1) hx hb hr (fun t ht hW => ⟨_, rfl, by simp [plF, *], ht⟩) no_locs dX2_partLikeness_55
        · refine lv_iconst (v := nI 2) hx hb dX2_partLikeness_33 (by decide) ?_
          exact W.iret (v := nI 2) hx hb hr (fun t ht hW => ⟨_, rfl, by simp [plF, *], ht⟩) no_locs dX2_partLikeness_34
    · refine lv_iconst (v := nI 0) hx hb dX2_partLikeness_11 (by decide) ?_
      exact W.iret (v := nI 0) hx hb hr (fun t ht hW => ⟨_, rfl, by simp [plF, *], ht⟩) no_locs dX2_partLikeness_12
  · refine lv_iconst (v := nI 1) hx hb dX2_partLikeness_5 (by decide) ?_
    exact W.iret (v := nI 1) hx hb hr (fun t ht hW => ⟨_, rfl, by simp [plF, *], ht⟩) no_locs dX2_partLikeness_6
theorem in_X2_rightness_X3 : ∀ w ∈ wsX30, w ∈ wsX2_rightness := by decide +kernel
theorem in_X2_rightness_X2 : ∀ w ∈ wsX20, w ∈ wsX2_rightness := by decide +kernel
theorem lk_X2_rightness_11 : Cond.fieldLink RX2 11 "ArrayClaims$ReadingSearch" "parts" "[I" ∈ wsX2_rightness := by decide +kernel
def rX2_rightness : Room := { frames := 1, cells := 0, slots := 0, locals := 23 }
set_option maxHeartbeats 4000000 in
set_option maxRecDepth 100000 in
theorem c_X2_rightness (l : Launch) (D : va_G) (cI : ClassId) (A : Nat → Prop) (ad : Nat → Nat) (σ : Nat → Nat → Nat) (v : Nat) (hI : IC σ) (hv0 : litOK v) : Met l yX2_rightness wsX2_rightness rX2_rightness (va_Pc [.ref (ad 5), .ref (ad 1), .int (nI v)] (Wc D cI A ad σ)) (vp_Si (fun r => r = nI (rtF σ v))) 0 0 (fun _ => False) := by
  refine Met.ofW (cc := cX2_rightness) (maxL := 8) (ret := (some .int)) (by decide) rfl ?_
  intro p e s m args below meth c s₁ B hml hv
  obtain ⟨rfl, hP, hK, hD, hN, hZ⟩ := hv
  have hx := B.exec
  have hb := B.bytes
  have hr := B.returns
  have hts := atoms_spec (ws := wsX2_rightness) B.pre
  have hown : s.vm.findClass RX2 = some m.cls := findClass_of_methodNamed B.named
  have hlocks := B.notSynchronized
  have hS : va_S A s.heap s.heap [] := va_S.rf
  have hl := lv_entry ([.ref (ad 5), .ref (ad 1), .int (nI v)]) (n := 8) (Nat.le_of_ble_eq_true rfl)
  rw [lg_entry_eq]
  generalize (lg_sl ([.ref (ad 5), .ref (ad 1), .int (nI v)]) ++ List.replicate (8 - (lg_sl ([.ref (ad 5), .ref (ad 1), .int (nI v)])).length) Slot.unset).toArray = ls at hl ⊢
  have hl : lv_has ls 8 [(0, .ref (ad 5)), (1, .ref (ad 1)), (2, .int (nI v))] := hl
  obtain ⟨hv1, hv2, hv3⟩ := id hv0
  have hs1 := hI.sorts hv2
  have hs2 : widF (σ 6 (v % 32)) ≤ 4 := by unfold widF; split <;> omega
  refine lv_iload_n hx hb dX2_rightness_0 rfl (lv_at hl 2 rfl) ?_
  refine vp_callSi (va_Run.run (va_runS (As := [.int (nI v)]) (rest := []) ⟨hx, hb, hml, hown, hts⟩ (c_X1_left l   v hv1) (va_cwS 1 hts gX2_rightness_X1_left rfl rfl rfl (by decide +kernel) ⟨Nat.le_of_ble_eq_true rfl, Nat.le_of_ble_eq_true rfl⟩) ⟨tt_blind, fun U hU hW => ⟨rfl, trivial⟩⟩ rfl rfl hl.1 rfl (lv_room (Nat.le_of_ble_eq_true rfl)) dX2_rightness_1 ⟨Nat.zero_le _, Nat.zero_le _⟩)) (fun r_1 hr_1 => ?_)
  refine n_to (w := nI (v % 32)) (hr_1.trans rfl) ?_
  refine lv_istore_n (lv' := [(3, .int (nI (v % 32))), (0, .ref (ad 5)), (1, .ref (ad 1)), (2, .int (nI v))]) hx hb dX2_rightness_4 rfl hl (by decide) rfl (fun ls hl => ?_)
  refine lv_iload_n hx hb dX2_rightness_5 rfl (lv_at hl 3 rfl) ?_
  refine vp_callSi (va_Run.run (va_runS (As := [.int (nI v)]) (rest := []) ⟨hx, hb, hml, hown, hts⟩ (c_X1_right l   v hv1) (va_cwS 1 hts gX2_rightness_X1_right rfl rfl rfl (by decide +kernel) ⟨Nat.le_of_ble_eq_true rfl, Nat.le_of_ble_eq_true rfl⟩) ⟨tt_blind, fun U hU hW => ⟨rfl, trivial⟩⟩ rfl rfl hl.1 rfl (lv_room (Nat.le_of_ble_eq_true rfl)) dX2_rightness_6 ⟨Nat.zero_le _, Nat.zero_le _⟩)) (fun r_2 hr_2 => ?_)
  refine n_to (w := nI (v / 32 % 32)) (hr_2.trans rfl) ?_
  refine lv_istore (lv' := [(4, .int (nI (v / 32 % 32))), (3, .int (nI (v % 32))), (0, .ref (ad 5)), (1, .ref (ad 1)), (2, .int (nI v))]) hx hb dX2_rightness_9 hl (by decide) rfl (fun ls hl => ?_)
  refine lv_iconst (v := nI 1) hx hb dX2_rightness_11 (by decide) ?_
  refine lv_istore (lv' := [(5, .int (nI 1)), (4, .int (nI (v / 32 % 32))), (3, .int (nI (v % 32))), (0, .ref (ad 5)), (1, .ref (ad 1)), (2, .int (nI v))]) hx hb dX2_rightness_12 hl (by decide) rfl (fun ls hl => ?_)
  refine lv_iconst (v := nI 0) hx hb dX2_rightness_14 (by decide) ?_
  refine lv_istore (lv' := [(6, .int (nI 0)), (5, .int (nI 1)), (4, .int (nI (v / 32 % 32))), (3, .int (nI (v % 32))), (0, .ref (ad 5)), (1, .ref (ad 1)), (2, .int (nI v))]) hx hb dX2_rightness_15 hl (by decide) rfl (fun ls hl => ?_)
  have lp17 : ∀ (n : Nat) (j : Nat) (al : Nat) (ls : Array Slot), (j + n = widF (σ 6 (v % 32))) → (al ≤ 2) → (alF σ v = rlF σ (σ 6 (v % 32)) (v % 32) (v / 32 % 32) n j al) → lv_has ls 8 [(6, .int (nI j)), (5, .int (nI al)), (4, .int (nI (v / 32 % 32))), (3, .int (nI (v % 32))), (0, .ref (ad 5)), (1, .ref (ad 1)), (2, .int (nI v))] → WR p l e rX2_rightness s m (([.ref (ad 5), .ref (ad 1), .int (nI v)] : List Value).toArray) below meth c s.heap (fun r => r = nI (rtF σ v)) (F0 m 17 ls []) := by
    intro n
    induction n with
    | zero =>
      intro j al ls hF1 hal hF hl
      have hF : alF σ v = al := hF
      refine lv_iload hx hb dX2_rightness_17 (lv_at hl 0 rfl) ?_
      refine lv_aload_n hx hb dX2_rightness_19 rfl (lv_at hl 5 rfl) ?_
      refine va_getN (D := D) (ci := 2) (v := .ref (ad 6)) (C := RX3) (T := TX3) (N := 5) hx hb hts in_X2_rightness_X3 hown hK hP 1 rfl rfl 0 (by decide) (hN.use 0 rfl) (fun _ h9 => h9) rfl dX2_rightness_20 ?_
      refine lv_iload_n hx hb dX2_rightness_23 rfl (lv_at hl 3 rfl) ?_
      refine n_ald hx hb hK hP 6 0 rfl rfl (i := v % 32) (by omega) (by decide) (v := nI (σ 6 (v % 32))) rfl dX2_rightness_24 ?_
      refine vp_callSi (va_Run.run (va_runS (As := [.int (nI (σ 6 (v % 32)))]) (rest := [.int (nI j)]) ⟨hx, hb, hml, hown, hts⟩ (c_X2_width l   (σ 6 (v % 32)) hs1) (va_cwS 1 hts gX2_rightness_X2_width rfl rfl rfl (by decide +kernel) ⟨Nat.le_of_ble_eq_true rfl, Nat.le_of_ble_eq_true rfl⟩) ⟨tt_blind, fun U hU hW => ⟨rfl, trivial⟩⟩ rfl rfl hl.1 rfl (lv_room (Nat.le_of_ble_eq_true rfl)) dX2_rightness_25 ⟨Nat.zero_le _, Nat.zero_le _⟩)) (fun r_3 hr_3 => ?_)
      refine n_to (w := nI (widF (σ 6 (v % 32)))) (hr_3.trans rfl) ?_
      refine n_icmp_ge hx hb (tgt := 87) (by omega) (by omega) dX2_rightness_28 (by decide) (fun c_28 => ?_) (fun c_28 => ?_)
      · refine lv_iload hx hb dX2_rightness_87 (lv_at hl 1 rfl) ?_
        refine lv_iconst (v := nI 2) hx hb dX2_rightness_89 (by decide) ?_
        refine q_icmp_eq hx hb (tgt := 100) (nI_eq (by omega) (by omega)) dX2_rightness_90 (by decide) (fun c_90 => ?_) (fun c_90 => ?_)
        · refine lv_iload hx hb dX2_rightness_100 (lv_at hl 1 rfl) ?_
          exact W.iret (v := nI al) hx hb hr (fun t ht hW => ⟨_, rfl, by first | (rw [rtF, hF]; simp [*]; done) | (exfalso; omega), ht⟩) no_locs dX2_rightness_102
        · refine lv_iload_n hx hb dX2_rightness_93 rfl (lv_at hl 6 rfl) ?_
          refine vp_callSi (va_Run.run (va_runS (As := [.int (nI v)]) (rest := []) ⟨hx, hb, hml, hown, hts⟩ (c_X1_saysSame l   v hv1) (va_cwS 1 hts gX2_rightness_X1_saysSame rfl rfl rfl (by decide +kernel) ⟨Nat.le_of_ble_eq_true rfl, Nat.le_of_ble_eq_true rfl⟩) ⟨tt_blind, fun U hU hW => ⟨rfl, trivial⟩⟩ rfl rfl hl.1 rfl (lv_room (Nat.le_of_ble_eq_true rfl)) dX2_rightness_94 ⟨Nat.zero_le _, Nat.zero_le _⟩)) (fun r_4 hr_4 => ?_)
          refine n_to (w := bI (saysB v)) (hr_4.trans rfl) ?_
          refine q_if_eq hx hb (tgt := 103) (bI_z) dX2_rightness_97 (by decide) (fun c_97 => ?_) (fun c_97 => ?_)
          · refine lv_iload hx hb dX2_rightness_103 (lv_at hl 1 rfl) ?_
            refine lv_iconst (v := nI 1) hx hb dX2_rightness_105 (by decide) ?_
            refine q_icmp_ne hx hb (tgt := 113) (nI_eq (by omega) (by omega)) dX2_rightness_106 (by decide) (fun c_106 => ?_) (fun c_106 => ?_)
            · refine lv_iconst (v := nI 1) hx hb dX2_rightness_113 (by decide) ?_
              exact W.iret (v := nI 1) hx hb hr (fun t ht hW => ⟨_, rfl, by first | (rw [rtF, hF]; simp [*]; done) | (exfalso; omega), ht⟩) no_locs dX2_rightness_114
            · refine lv_iconst (v := nI 0) hx hb dX2_rightness_109 (by decide) ?_
              refine lv_goto (tgt := 114) hx hb dX2_rightness_110 (by decide) ?_
              exact W.iret (v := nI 0) hx hb hr (fun t ht hW => ⟨_, rfl, by first | (rw [rtF, hF]; simp [*]; done) | (exfalso; omega), ht⟩) no_locs dX2_rightness_114
          · refine lv_iload hx hb dX2_rightness_100 (lv_at hl 1 rfl) ?_
            exact W.iret (v := nI al) hx hb hr (fun t ht hW => ⟨_, rfl, by first | (rw [rtF, hF]; simp [*]; done) | (exfalso; omega), ht⟩) no_locs dX2_rightness_102
      · omega
    | succ n ih17 =>
      intro j al ls hF1 hal hF hl
      refine lv_iload hx hb dX2_rightness_17 (lv_at hl 0 rfl) ?_
      refine lv_aload_n hx hb dX2_rightness_19 rfl (lv_at hl 5 rfl) ?_
      refine va_getN (D := D) (ci := 2) (v := .ref (ad 6)) (C := RX3) (T := TX3) (N := 5) hx hb hts in_X2_rightness_X3 hown hK hP 1 rfl rfl 0 (by decide) (hN.use 0 rfl) (fun _ h9 => h9) rfl dX2_rightness_20 ?_
      refine lv_iload_n hx hb dX2_rightness_23 rfl (lv_at hl 3 rfl) ?_
      refine n_ald hx hb hK hP 6 0 rfl rfl (i := v % 32) (by omega) (by decide) (v := nI (σ 6 (v % 32))) rfl dX2_rightness_24 ?_
      refine vp_callSi (va_Run.run (va_runS (As := [.int (nI (σ 6 (v % 32)))]) (rest := [.int (nI j)]) ⟨hx, hb, hml, hown, hts⟩ (c_X2_width l   (σ 6 (v % 32)) hs1) (va_cwS 1 hts gX2_rightness_X2_width rfl rfl rfl (by decide +kernel) ⟨Nat.le_of_ble_eq_true rfl, Nat.le_of_ble_eq_true rfl⟩) ⟨tt_blind, fun U hU hW => ⟨rfl, trivial⟩⟩ rfl rfl hl.1 rfl (lv_room (Nat.le_of_ble_eq_true rfl)) dX2_rightness_25 ⟨Nat.zero_le _, Nat.zero_le _⟩)) (fun r_5 hr_5 => ?_)
      refine n_to (w := nI (widF (σ 6 (v % 32)))) (hr_5.trans rfl) ?_
      refine n_icmp_ge hx hb (tgt := 87) (by omega) (by omega) dX2_rightness_28 (by decide) (fun c_28 => ?_) (fun c_28 => ?_)
      · omega
      · refine lv_iload hx hb dX2_rightness_31 (lv_at hl 1 rfl) ?_
        refine q_if_eq hx hb (tgt := 87) (nI_z (by omega)) dX2_rightness_33 (by decide) (fun c_33 => ?_) (fun c_33 => ?_)
        · have hF : alF σ v = al := by rw [hF]; simp [rlF, c_33]
          refine lv_iload hx hb dX2_rightness_87 (lv_at hl 1 rfl) ?_
          refine lv_iconst (v := nI 2) hx hb dX2_rightness_89 (by decide) ?_
          refine q_icmp_eq hx hb (tgt := 100) (nI_eq (by omega) (by omega)) dX2_rightness_90 (by decide) (fun c_90 => ?_) (fun c_90 => ?_)
          · refine lv_iload hx hb dX2_rightness_100 (lv_at hl 1 rfl) ?_
            exact W.iret (v := nI al) hx hb hr (fun t ht hW => ⟨_, rfl, by first | (rw [rtF, hF]; simp [*]; done) | (exfalso; omega), ht⟩) no_locs dX2_rightness_102
          · refine lv_iload_n hx hb dX2_rightness_93 rfl (lv_at hl 6 rfl) ?_
            refine vp_callSi (va_Run.run (va_runS (As := [.int (nI v)]) (rest := []) ⟨hx, hb, hml, hown, hts⟩ (c_X1_saysSame l   v hv1) (va_cwS 1 hts gX2_rightness_X1_saysSame rfl rfl rfl (by decide +kernel) ⟨Nat.le_of_ble_eq_true rfl, Nat.le_of_ble_eq_true rfl⟩) ⟨tt_blind, fun U hU hW => ⟨rfl, trivial⟩⟩ rfl rfl hl.1 rfl (lv_room (Nat.le_of_ble_eq_true rfl)) dX2_rightness_94 ⟨Nat.zero_le _, Nat.zero_le _⟩)) (fun r_6 hr_6 => ?_)
            refine n_to (w := bI (saysB v)) (hr_6.trans rfl) ?_
            refine q_if_eq hx hb (tgt := 103) (bI_z) dX2_rightness_97 (by decide) (fun c_97 => ?_) (fun c_97 => ?_)
            · refine lv_iload hx hb dX2_rightness_103 (lv_at hl 1 rfl) ?_
              refine lv_iconst (v := nI 1) hx hb dX2_rightness_105 (by decide) ?_
              refine q_icmp_ne hx hb (tgt := 113) (nI_eq (by omega) (by omega)) dX2_rightness_106 (by decide) (fun c_106 => ?_) (fun c_106 => ?_)
              · refine lv_iconst (v := nI 1) hx hb dX2_rightness_113 (by decide) ?_
                exact W.iret (v := nI 1) hx hb hr (fun t ht hW => ⟨_, rfl, by first | (rw [rtF, hF]; simp [*]; done) | (exfalso; omega), ht⟩) no_locs dX2_rightness_114
              · refine lv_iconst (v := nI 0) hx hb dX2_rightness_109 (by decide) ?_
                refine lv_goto (tgt := 114) hx hb dX2_rightness_110 (by decide) ?_
                exact W.iret (v := nI 0) hx hb hr (fun t ht hW => ⟨_, rfl, by first | (rw [rtF, hF]; simp [*]; done) | (exfalso; omega), ht⟩) no_locs dX2_rightness_114
            · refine lv_iload hx hb dX2_rightness_100 (lv_at hl 1 rfl) ?_
              exact W.iret (v := nI al) hx hb hr (fun t ht hW => ⟨_, rfl, by first | (rw [rtF, hF]; simp [*]; done) | (exfalso; omega), ht⟩) no_locs dX2_rightness_102
        · refine lv_aload_n hx hb dX2_rightness_36 rfl (lv_at hl 4 rfl) ?_
          refine lv_aload_n hx hb dX2_rightness_37 rfl (lv_at hl 5 rfl) ?_
          refine va_getN (D := D) (ci := 2) (v := .ref (ad 6)) (C := RX3) (T := TX3) (N := 5) hx hb hts in_X2_rightness_X3 hown hK hP 1 rfl rfl 0 (by decide) (hN.use 0 rfl) (fun _ h9 => h9) rfl dX2_rightness_38 ?_
          refine lv_iload_n hx hb dX2_rightness_41 rfl (lv_at hl 3 rfl) ?_
          refine n_ald hx hb hK hP 6 0 rfl rfl (i := v % 32) (by omega) (by decide) (v := nI (σ 6 (v % 32))) rfl dX2_rightness_42 ?_
          refine lv_aload_n hx hb dX2_rightness_43 rfl (lv_at hl 4 rfl) ?_
          refine va_get (D := D) (ci := 1) (v := .ref (ad 14)) (C := RX2) (T := TX2) (N := 2) hx hb hts in_X2_rightness_X2 hown hK hP 5 rfl rfl 0 (by decide) (hts _ lk_X2_rightness_11) (fun _ h9 => h9) rfl dX2_rightness_44 ?_
          refine lv_iload_n hx hb dX2_rightness_47 rfl (lv_at hl 3 rfl) ?_
          refine lv_iconst (v := nI 4) hx hb dX2_rightness_48 (by decide) ?_
          refine n_mul hx hb dX2_rightness_49 ?_
          refine lv_iload hx hb dX2_rightness_50 (lv_at hl 0 rfl) ?_
          refine n_add hx hb dX2_rightness_52 ?_
          refine n_ald hx hb hK hP 14 0 rfl rfl (i := ((v % 32) * 4) + j) (by omega) (by decide) (v := nI (σ 14 (((v % 32) * 4) + j))) rfl dX2_rightness_53 ?_
          refine lv_aload_n hx hb dX2_rightness_54 rfl (lv_at hl 4 rfl) ?_
          refine va_get (D := D) (ci := 1) (v := .ref (ad 14)) (C := RX2) (T := TX2) (N := 2) hx hb hts in_X2_rightness_X2 hown hK hP 5 rfl rfl 0 (by decide) (hts _ lk_X2_rightness_11) (fun _ h9 => h9) rfl dX2_rightness_55 ?_
          refine lv_iload hx hb dX2_rightness_58 (lv_at hl 2 rfl) ?_
          refine lv_iconst (v := nI 4) hx hb dX2_rightness_60 (by decide) ?_
          refine n_mul hx hb dX2_rightness_61 ?_
          refine lv_iload hx hb dX2_rightness_62 (lv_at hl 0 rfl) ?_
          refine n_add hx hb dX2_rightness_64 ?_
          refine n_ald hx hb hK hP 14 0 rfl rfl (i := ((v / 32 % 32) * 4) + j) (by omega) (by decide) (v := nI (σ 14 (((v / 32 % 32) * 4) + j))) rfl dX2_rightness_65 ?_
          refine vp_callSi (va_Run.run (va_runV (As := [.int (nI (σ 6 (v % 32))), .int (nI (σ 14 (((v % 32) * 4) + j))), .int (nI (σ 14 (((v / 32 % 32) * 4) + j)))]) (rest := []) ⟨hx, hb, hml, hown, hts⟩ (c_X2_partLikeness l D cI A ad σ (σ 6 (v % 32)) (σ 14 (v % 32 * 4 + j)) (σ 14 (v / 32 % 32 * 4 + j)) hI hs1 (hI.parts (by omega)) (hI.parts (by omega))) (cwV 3 hts gX2_rightness_X2_partLikeness rfl rfl rfl (by decide +kernel) ⟨Nat.le_of_ble_eq_true rfl, Nat.le_of_ble_eq_true rfl⟩) ⟨Wc.blind, va_recv hK hP (ci := 1) (q0 := 5) rfl rfl, fun U hU hW => ⟨rfl, Wc.go hP hK hD hN hZ hS hU hW⟩⟩ rfl rfl hl.1 rfl (lv_room (Nat.le_of_ble_eq_true rfl)) dX2_rightness_66 ⟨Nat.zero_le _, Nat.zero_le _⟩)) (fun r_7 hr_7 => ?_)
          refine n_to (w := nI (plF σ (σ 6 (v % 32)) (σ 14 (v % 32 * 4 + j)) (σ 14 (v / 32 % 32 * 4 + j)))) (hr_7.trans rfl) ?_
          refine lv_istore (lv' := [(7, .int (nI (plF σ (σ 6 (v % 32)) (σ 14 (v % 32 * 4 + j)) (σ 14 (v / 32 % 32 * 4 + j))))), (6, .int (nI j)), (5, .int (nI al)), (4, .int (nI (v / 32 % 32))), (3, .int (nI (v % 32))), (0, .ref (ad 5)), (1, .ref (ad 1)), (2, .int (nI v))]) hx hb dX2_rightness_69 hl (by decide) rfl (fun ls hl => ?_)
          have hpl := @plF_le σ (σ 6 (v % 32)) (σ 14 (v % 32 * 4 + j)) (σ 14 (v / 32 % 32 * 4 + j))
          refine lv_iload hx hb dX2_rightness_71 (lv_at hl 0 rfl) ?_
          refine lv_iconst (v := nI 1) hx hb dX2_rightness_73 (by decide) ?_
          refine q_icmp_eq hx hb (tgt := 81) (nI_eq (by omega) (by omega)) dX2_rightness_74 (by decide) (fun c_74 => ?_) (fun c_74 => ?_)
          · refine lv_iinc (v := nI (j + 1)) (lv' := [(6, .int (nI (j + 1))), (7, .int (nI (plF σ (σ 6 (v % 32)) (σ 14 (v % 32 * 4 + j)) (σ 14 (v / 32 % 32 * 4 + j))))), (5, .int (nI al)), (4, .int (nI (v / 32 % 32))), (3, .int (nI (v % 32))), (0, .ref (ad 5)), (1, .ref (ad 1)), (2, .int (nI v))]) hx hb dX2_rightness_81 hl (k := 1) rfl (nI_add _ _) (by decide) rfl (fun ls hl => ?_)
            refine lv_goto (tgt := 17) hx hb dX2_rightness_84 (by decide) ?_
            exact ih17 (j + 1) al  _  (by omega) (by first | exact hal | exact plF_le) (by rw [hF]; simp [rlF, *]) (lv_sub hl [0, 2, 3, 4, 5, 6, 7] rfl)
          · refine lv_iload hx hb dX2_rightness_77 (lv_at hl 0 rfl) ?_
            refine lv_istore (lv' := [(5, .int (nI (plF σ (σ 6 (v % 32)) (σ 14 (v % 32 * 4 + j)) (σ 14 (v / 32 % 32 * 4 + j))))), (7, .int (nI (plF σ (σ 6 (v % 32)) (σ 14 (v % 32 * 4 + j)) (σ 14 (v / 32 % 32 * 4 + j))))), (6, .int (nI j)), (4, .int (nI (v / 32 % 32))), (3, .int (nI (v % 32))), (0, .ref (ad 5)), (1, .ref (ad 1)), (2, .int (nI v))]) hx hb dX2_rightness_79 hl (by decide) rfl (fun ls hl => ?_)
            refine lv_iinc (v := nI (j + 1)) (lv' := [(6, .int (nI (j + 1))), (5, .int (nI (plF σ (σ 6 (v % 32)) (σ 14 (v % 32 * 4 + j)) (σ 14 (v / 32 % 32 * 4 + j))))), (7, .int (nI (plF σ (σ 6 (v % 32)) (σ 14 (v % 32 * 4 + j)) (σ 14 (v / 32 % 32 * 4 + j))))), (4, .int (nI (v / 32 % 32))), (3, .int (nI (v % 32))), (0, .ref (ad 5)), (1, .ref (ad 1)), (2, .int (nI v))]) hx hb dX2_rightness_81 hl (k := 2) rfl (nI_add _ _) (by decide) rfl (fun ls hl => ?_)
            refine lv_goto (tgt := 17) hx hb dX2_rightness_84 (by decide) ?_
            exact ih17 (j + 1) (plF σ (σ 6 (v % 32)) (σ 14 (v % 32 * 4 + j)) (σ 14 (v / 32 % 32 * 4 + j)))  _  (by omega) (by first | exact hal | exact plF_le) (by rw [hF]; simp [rlF, *]) (lv_sub hl [0, 1, 3, 4, 5, 6, 7] rfl)
  exact lp17 (widF (σ 6 (v % 32))) 0 1  _ (by omega) (by omega) (rfl) (lv_sub hl [0, 1, 2, 3, 4, 5, 6] rfl)
def rX2_holding : Room := { frames := 2, cells := 0, slots := 0, locals := 50 }
set_option maxHeartbeats 4000000 in
set_option maxRecDepth 100000 in
theorem c_X2_holding (l : Launch) (D : va_G) (cI : ClassId) (A : Nat → Prop) (ad : Nat → Nat) (σ : Nat → Nat → Nat) (cl : Nat) (hI : IC σ) (hcl : cl < 11) : Met l yX2_holding wsX2_holding rX2_holding (va_Pc [.ref (ad 5), .ref (ad 1), .ref (ad 4), .int (nI cl)] (Wc D cI A ad σ)) (vp_Si (fun r => r = nI (holdF σ cl (σ 13 cl) 0 0))) 0 0 (fun _ => False) := by
  refine Met.ofW (cc := cX2_holding) (maxL := 7) (ret := (some .int)) (by decide) rfl ?_
  intro p e s m args below meth c s₁ B hml hv
  obtain ⟨rfl, hP, hK, hD, hN, hZ⟩ := hv
  have hx := B.exec
  have hb := B.bytes
  have hr := B.returns
  have hts := atoms_spec (ws := wsX2_holding) B.pre
  have hown : s.vm.findClass RX2 = some m.cls := findClass_of_methodNamed B.named
  have hlocks := B.notSynchronized
  have hS : va_S A s.heap s.heap [] := va_S.rf
  have hl := lv_entry ([.ref (ad 5), .ref (ad 1), .ref (ad 4), .int (nI cl)]) (n := 7) (Nat.le_of_ble_eq_true rfl)
  rw [lg_entry_eq]
  generalize (lg_sl ([.ref (ad 5), .ref (ad 1), .ref (ad 4), .int (nI cl)]) ++ List.replicate (7 - (lg_sl ([.ref (ad 5), .ref (ad 1), .ref (ad 4), .int (nI cl)])).length) Slot.unset).toArray = ls at hl ⊢
  have hl : lv_has ls 7 [(0, .ref (ad 5)), (1, .ref (ad 1)), (2, .ref (ad 4)), (3, .int (nI cl))] := hl
  have hsz := hI.asize hcl
  refine lv_iconst (v := nI 0) hx hb dX2_holding_0 (by decide) ?_
  refine lv_istore (lv' := [(4, .int (nI 0)), (0, .ref (ad 5)), (1, .ref (ad 1)), (2, .ref (ad 4)), (3, .int (nI cl))]) hx hb dX2_holding_1 hl (by decide) rfl (fun ls hl => ?_)
  refine lv_iconst (v := nI 0) hx hb dX2_holding_3 (by decide) ?_
  refine lv_istore (lv' := [(5, .int (nI 0)), (4, .int (nI 0)), (0, .ref (ad 5)), (1, .ref (ad 1)), (2, .ref (ad 4)), (3, .int (nI cl))]) hx hb dX2_holding_4 hl (by decide) rfl (fun ls hl => ?_)
  have lp6 : ∀ (n : Nat) (k : Nat) (an : Nat) (ls : Array Slot), (k + n = σ 13 cl) → (nI (holdF σ cl (σ 13 cl) 0 0) = nI (holdF σ cl n k an)) → lv_has ls 7 [(5, .int (nI k)), (4, .int (nI an)), (0, .ref (ad 5)), (1, .ref (ad 1)), (2, .ref (ad 4)), (3, .int (nI cl))] → WR p l e rX2_holding s m (([.ref (ad 5), .ref (ad 1), .ref (ad 4), .int (nI cl)] : List Value).toArray) below meth c s.heap (fun r => r = nI (holdF σ cl (σ 13 cl) 0 0)) (F0 m 6 ls []) := by
    intro n
    induction n with
    | zero =>
      intro k an ls hF1 hF hl
      refine lv_iload hx hb dX2_holding_6 (lv_at hl 0 rfl) ?_
      refine lv_aload_n hx hb dX2_holding_8 rfl (lv_at hl 4 rfl) ?_
      refine lv_iload_n hx hb dX2_holding_9 rfl (lv_at hl 5 rfl) ?_
      refine vp_callSi (va_Run.run (va_runV (As := [.int (nI cl)]) (rest := [.int (nI k)]) ⟨hx, hb, hml, hown, hts⟩ (c_X0_sizeOf l D cI A ad σ cl hcl) (cwV 1 hts gX2_holding_X0_sizeOf rfl rfl rfl (by decide +kernel) ⟨Nat.le_of_ble_eq_true rfl, Nat.le_of_ble_eq_true rfl⟩) ⟨Wc.blind, va_recv hK hP (ci := 0) (q0 := 4) rfl rfl, fun U hU hW => ⟨rfl, Wc.go hP hK hD hN hZ hS hU hW⟩⟩ rfl rfl hl.1 rfl (lv_room (Nat.le_of_ble_eq_true rfl)) dX2_holding_10 ⟨Nat.zero_le _, Nat.zero_le _⟩)) (fun r_1 hr_1 => ?_)
      refine n_to (w := nI (σ 13 cl)) (hr_1.trans rfl) ?_
      refine n_icmp_ge hx hb (tgt := 53) (by omega) (by omega) dX2_holding_13 (by decide) (fun c_13 => ?_) (fun c_13 => ?_)
      · refine lv_iload hx hb dX2_holding_53 (lv_at hl 1 rfl) ?_
        exact W.iret (v := nI an) hx hb hr (fun t ht hW => ⟨_, rfl, by rw [hF]; rfl, ht⟩) no_locs dX2_holding_55
      · omega
    | succ n ih6 =>
      intro k an ls hF1 hF hl
      refine lv_iload hx hb dX2_holding_6 (lv_at hl 0 rfl) ?_
      refine lv_aload_n hx hb dX2_holding_8 rfl (lv_at hl 4 rfl) ?_
      refine lv_iload_n hx hb dX2_holding_9 rfl (lv_at hl 5 rfl) ?_
      refine vp_callSi (va_Run.run (va_runV (As := [.int (nI cl)]) (rest := [.int (nI k)]) ⟨hx, hb, hml, hown, hts⟩ (c_X0_sizeOf l D cI A ad σ cl hcl) (cwV 1 hts gX2_holding_X0_sizeOf rfl rfl rfl (by decide +kernel) ⟨Nat.le_of_ble_eq_true rfl, Nat.le_of_ble_eq_true rfl⟩) ⟨Wc.blind, va_recv hK hP (ci := 0) (q0 := 4) rfl rfl, fun U hU hW => ⟨rfl, Wc.go hP hK hD hN hZ hS hU hW⟩⟩ rfl rfl hl.1 rfl (lv_room (Nat.le_of_ble_eq_true rfl)) dX2_holding_10 ⟨Nat.zero_le _, Nat.zero_le _⟩)) (fun r_2 hr_2 => ?_)
      refine n_to (w := nI (σ 13 cl)) (hr_2.trans rfl) ?_
      refine n_icmp_ge hx hb (tgt := 53) (by omega) (by omega) dX2_holding_13 (by decide) (fun c_13 => ?_) (fun c_13 => ?_)
      · omega
      · refine lv_aload_n hx hb dX2_holding_16 rfl (lv_at hl 2 rfl) ?_
        refine lv_aload_n hx hb dX2_holding_17 rfl (lv_at hl 3 rfl) ?_
        refine lv_aload_n hx hb dX2_holding_18 rfl (lv_at hl 4 rfl) ?_
        refine lv_iload_n hx hb dX2_holding_19 rfl (lv_at hl 5 rfl) ?_
        refine lv_iload hx hb dX2_holding_20 (lv_at hl 0 rfl) ?_
        refine vp_callSi (va_Run.run (va_runV (As := [.int (nI cl), .int (nI k)]) (rest := [.ref (ad 1), .ref (ad 5)]) ⟨hx, hb, hml, hown, hts⟩ (c_X0_at l D cI A ad σ cl k (by omega)) (cwV 2 hts gX2_holding_X0_at rfl rfl rfl (by decide +kernel) ⟨Nat.le_of_ble_eq_true rfl, Nat.le_of_ble_eq_true rfl⟩) ⟨Wc.blind, va_recv hK hP (ci := 0) (q0 := 4) rfl rfl, fun U hU hW => ⟨rfl, Wc.go hP hK hD hN hZ hS hU hW⟩⟩ rfl rfl hl.1 rfl (lv_room (Nat.le_of_ble_eq_true rfl)) dX2_holding_22 ⟨Nat.zero_le _, Nat.zero_le _⟩)) (fun r_3 hr_3 => ?_)
        refine n_to (w := nI (σ 12 (cl * 3 + k))) (hr_3.trans rfl) ?_
        refine vp_callSi (va_Run.run (va_runV (As := [.ref (ad 1), .int (nI (σ 12 (cl * 3 + k)))]) (rest := []) ⟨hx, hb, hml, hown, hts⟩ (c_X2_rightness l D cI A ad σ (σ 12 (cl * 3 + k)) hI (hI.alit (by omega))) (cwV 2 hts gX2_holding_X2_rightness rfl rfl rfl (by decide +kernel) ⟨Nat.le_of_ble_eq_true rfl, Nat.le_of_ble_eq_true rfl⟩) ⟨Wc.blind, va_recv hK hP (ci := 1) (q0 := 5) rfl rfl, fun U hU hW => ⟨rfl, Wc.go hP hK hD hN hZ hS hU hW⟩⟩ rfl rfl hl.1 rfl (lv_room (Nat.le_of_ble_eq_true rfl)) dX2_holding_25 ⟨Nat.zero_le _, Nat.zero_le _⟩)) (fun r_4 hr_4 => ?_)
        refine n_to (w := nI (rtF σ (σ 12 (cl * 3 + k)))) (hr_4.trans rfl) ?_
        refine lv_istore (lv' := [(6, .int (nI (rtF σ (σ 12 (cl * 3 + k))))), (5, .int (nI k)), (4, .int (nI an)), (0, .ref (ad 5)), (1, .ref (ad 1)), (2, .ref (ad 4)), (3, .int (nI cl))]) hx hb dX2_holding_28 hl (by decide) rfl (fun ls hl => ?_)
        have hrt := @rtF_le σ (σ 12 (cl * 3 + k))
        refine lv_iload hx hb dX2_holding_30 (lv_at hl 0 rfl) ?_
        refine lv_iconst (v := nI 1) hx hb dX2_holding_32 (by decide) ?_
        refine q_icmp_ne hx hb (tgt := 38) (nI_eq (by omega) (by omega)) dX2_holding_33 (by decide) (fun c_33 => ?_) (fun c_33 => ?_)
        · refine lv_iload hx hb dX2_holding_38 (lv_at hl 0 rfl) ?_
          refine lv_iconst (v := nI 2) hx hb dX2_holding_40 (by decide) ?_
          refine q_icmp_ne hx hb (tgt := 47) (nI_eq (by omega) (by omega)) dX2_holding_41 (by decide) (fun c_41 => ?_) (fun c_41 => ?_)
          · refine lv_iinc (v := nI (k + 1)) (lv' := [(5, .int (nI (k + 1))), (6, .int (nI (rtF σ (σ 12 (cl * 3 + k))))), (4, .int (nI an)), (0, .ref (ad 5)), (1, .ref (ad 1)), (2, .ref (ad 4)), (3, .int (nI cl))]) hx hb dX2_holding_47 hl (k := 1) rfl (nI_add _ _) (by decide) rfl (fun ls hl => ?_)
            refine lv_goto (tgt := 6) hx hb dX2_holding_50 (by decide) ?_
            exact ih6 (k + 1) an  _  (by omega) (by rw [hF]; simp [holdF, *]) (lv_sub hl [0, 2, 3, 4, 5, 6] rfl)
          · refine lv_iconst (v := nI 2) hx hb dX2_holding_44 (by decide) ?_
            refine lv_istore (lv' := [(4, .int (nI 2)), (6, .int (nI (rtF σ (σ 12 (cl * 3 + k))))), (5, .int (nI k)), (0, .ref (ad 5)), (1, .ref (ad 1)), (2, .ref (ad 4)), (3, .int (nI cl))]) hx hb dX2_holding_45 hl (by decide) rfl (fun ls hl => ?_)
            refine lv_iinc (v := nI (k + 1)) (lv' := [(5, .int (nI (k + 1))), (4, .int (nI 2)), (6, .int (nI (rtF σ (σ 12 (cl * 3 + k))))), (0, .ref (ad 5)), (1, .ref (ad 1)), (2, .ref (ad 4)), (3, .int (nI cl))]) hx hb dX2_holding_47 hl (k := 2) rfl (nI_add _ _) (by decide) rfl (fun ls hl => ?_)
            refine lv_goto (tgt := 6) hx hb dX2_holding_50 (by decide) ?_
            exact ih6 (k + 1) 2  _  (by omega) (by rw [hF]; simp [holdF, *]) (lv_sub hl [0, 1, 3, 4, 5, 6] rfl)
        · refine lv_iconst (v := nI 1) hx hb dX2_holding_36 (by decide) ?_
          exact W.iret (v := nI 1) hx hb hr (fun t ht hW => ⟨_, rfl, by rw [hF]; simp [holdF, *], ht⟩) no_locs dX2_holding_37
  exact lp6 (σ 13 cl) 0 0  _ (by omega) (rfl) (lv_sub hl [0, 1, 2, 3, 4, 5] rfl)
theorem in_X2_openSpotOf_X3 : ∀ w ∈ wsX30, w ∈ wsX2_openSpotOf := by decide +kernel
theorem in_X2_openSpotOf_X2 : ∀ w ∈ wsX20, w ∈ wsX2_openSpotOf := by decide +kernel
theorem lk_X2_openSpotOf_11 : Cond.fieldLink RX2 11 "ArrayClaims$ReadingSearch" "parts" "[I" ∈ wsX2_openSpotOf := by decide +kernel
theorem lk_X2_openSpotOf_15 : Cond.fieldLink RX2 15 "ArrayClaims$ReadingSearch" "chosen" "[I" ∈ wsX2_openSpotOf := by decide +kernel
def rX2_openSpotOf : Room := { frames := 1, cells := 0, slots := 0, locals := 23 }
set_option maxHeartbeats 4000000 in
set_option maxRecDepth 100000 in
theorem c_X2_openSpotOf (l : Launch) (D : va_G) (cI : ClassId) (A : Nat → Prop) (ad : Nat → Nat) (σ : Nat → Nat → Nat) (t u : Nat) (hI : IC σ) (ht0 : t < 24) (hu0 : u < 24) : Met l yX2_openSpotOf wsX2_openSpotOf rX2_openSpotOf (va_Pc [.ref (ad 5), .ref (ad 1), .int (nI t), .int (nI u)] (Wc D cI A ad σ)) (vp_Si (fun r => r = mI (osoF σ (σ 6 t) t u (widF (σ 6 t)) 0))) 0 0 (fun _ => False) := by
  refine Met.ofW (cc := cX2_openSpotOf) (maxL := 8) (ret := (some .int)) (by decide) rfl ?_
  intro p e s m args below meth c s₁ B hml hv
  obtain ⟨rfl, hP, hK, hD, hN, hZ⟩ := hv
  have hx := B.exec
  have hb := B.bytes
  have hr := B.returns
  have hts := atoms_spec (ws := wsX2_openSpotOf) B.pre
  have hown : s.vm.findClass RX2 = some m.cls := findClass_of_methodNamed B.named
  have hlocks := B.notSynchronized
  have hS : va_S A s.heap s.heap [] := va_S.rf
  have hl := lv_entry ([.ref (ad 5), .ref (ad 1), .int (nI t), .int (nI u)]) (n := 8) (Nat.le_of_ble_eq_true rfl)
  rw [lg_entry_eq]
  generalize (lg_sl ([.ref (ad 5), .ref (ad 1), .int (nI t), .int (nI u)]) ++ List.replicate (8 - (lg_sl ([.ref (ad 5), .ref (ad 1), .int (nI t), .int (nI u)])).length) Slot.unset).toArray = ls at hl ⊢
  have hl : lv_has ls 8 [(0, .ref (ad 5)), (1, .ref (ad 1)), (2, .int (nI t)), (3, .int (nI u))] := hl
  have hs1 := hI.sorts ht0
  have hs2 : widF (σ 6 t) ≤ 4 := by unfold widF; split <;> omega
  refine lv_aload_n hx hb dX2_openSpotOf_0 rfl (lv_at hl 1 rfl) ?_
  refine va_getN (D := D) (ci := 2) (v := .ref (ad 6)) (C := RX3) (T := TX3) (N := 5) hx hb hts in_X2_openSpotOf_X3 hown hK hP 1 rfl rfl 0 (by decide) (hN.use 0 rfl) (fun _ h9 => h9) rfl dX2_openSpotOf_1 ?_
  refine lv_iload_n hx hb dX2_openSpotOf_4 rfl (lv_at hl 2 rfl) ?_
  refine n_ald hx hb hK hP 6 0 rfl rfl (i := t) (by omega) (by decide) (v := nI (σ 6 t)) rfl dX2_openSpotOf_5 ?_
  refine lv_istore (lv' := [(4, .int (nI (σ 6 t))), (0, .ref (ad 5)), (1, .ref (ad 1)), (2, .int (nI t)), (3, .int (nI u))]) hx hb dX2_openSpotOf_6 hl (by decide) rfl (fun ls hl => ?_)
  refine lv_iconst (v := nI 0) hx hb dX2_openSpotOf_8 (by decide) ?_
  refine lv_istore (lv' := [(5, .int (nI 0)), (4, .int (nI (σ 6 t))), (0, .ref (ad 5)), (1, .ref (ad 1)), (2, .int (nI t)), (3, .int (nI u))]) hx hb dX2_openSpotOf_9 hl (by decide) rfl (fun ls hl => ?_)
  have lp11 : ∀ (n : Nat) (j : Nat) (ls : Array Slot), (j + n = widF (σ 6 t)) → (mI (osoF σ (σ 6 t) t u (widF (σ 6 t)) 0) = mI (osoF σ (σ 6 t) t u n j)) → lv_has ls 8 [(5, .int (nI j)), (4, .int (nI (σ 6 t))), (0, .ref (ad 5)), (1, .ref (ad 1)), (2, .int (nI t)), (3, .int (nI u))] → WR p l e rX2_openSpotOf s m (([.ref (ad 5), .ref (ad 1), .int (nI t), .int (nI u)] : List Value).toArray) below meth c s.heap (fun r => r = mI (osoF σ (σ 6 t) t u (widF (σ 6 t)) 0)) (F0 m 11 ls []) := by
    intro n
    induction n with
    | zero =>
      intro j ls hF1 hF hl
      refine lv_iload hx hb dX2_openSpotOf_11 (lv_at hl 0 rfl) ?_
      refine lv_iload hx hb dX2_openSpotOf_13 (lv_at hl 1 rfl) ?_
      refine vp_callSi (va_Run.run (va_runS (As := [.int (nI (σ 6 t))]) (rest := [.int (nI j)]) ⟨hx, hb, hml, hown, hts⟩ (c_X2_width l   (σ 6 t) hs1) (va_cwS 1 hts gX2_openSpotOf_X2_width rfl rfl rfl (by decide +kernel) ⟨Nat.le_of_ble_eq_true rfl, Nat.le_of_ble_eq_true rfl⟩) ⟨tt_blind, fun U hU hW => ⟨rfl, trivial⟩⟩ rfl rfl hl.1 rfl (lv_room (Nat.le_of_ble_eq_true rfl)) dX2_openSpotOf_15 ⟨Nat.zero_le _, Nat.zero_le _⟩)) (fun r_1 hr_1 => ?_)
      refine n_to (w := nI (widF (σ 6 t))) (hr_1.trans rfl) ?_
      refine n_icmp_ge hx hb (tgt := 86) (by omega) (by omega) dX2_openSpotOf_18 (by decide) (fun c_18 => ?_) (fun c_18 => ?_)
      · refine lv_iconst (v := mI 0) hx hb dX2_openSpotOf_86 (by decide) ?_
        exact W.iret (v := mI 0) hx hb hr (fun t ht hW => ⟨_, rfl, by rw [hF]; rfl, ht⟩) no_locs dX2_openSpotOf_87
      · omega
    | succ n ih11 =>
      intro j ls hF1 hF hl
      refine lv_iload hx hb dX2_openSpotOf_11 (lv_at hl 0 rfl) ?_
      refine lv_iload hx hb dX2_openSpotOf_13 (lv_at hl 1 rfl) ?_
      refine vp_callSi (va_Run.run (va_runS (As := [.int (nI (σ 6 t))]) (rest := [.int (nI j)]) ⟨hx, hb, hml, hown, hts⟩ (c_X2_width l   (σ 6 t) hs1) (va_cwS 1 hts gX2_openSpotOf_X2_width rfl rfl rfl (by decide +kernel) ⟨Nat.le_of_ble_eq_true rfl, Nat.le_of_ble_eq_true rfl⟩) ⟨tt_blind, fun U hU hW => ⟨rfl, trivial⟩⟩ rfl rfl hl.1 rfl (lv_room (Nat.le_of_ble_eq_true rfl)) dX2_openSpotOf_15 ⟨Nat.zero_le _, Nat.zero_le _⟩)) (fun r_2 hr_2 => ?_)
      refine n_to (w := nI (widF (σ 6 t))) (hr_2.trans rfl) ?_
      refine n_icmp_ge hx hb (tgt := 86) (by omega) (by omega) dX2_openSpotOf_18 (by decide) (fun c_18 => ?_) (fun c_18 => ?_)
      · omega
      · have hp1 := hI.parts (j := t * 4 + j) (by omega)
        have hp2 := hI.parts (j := u * 4 + j) (by omega)
        have hch := hI.chosen hp1
        have hpl := @plF_le σ (σ 6 t) (σ 14 (t * 4 + j)) (σ 14 (u * 4 + j))
        refine lv_aload_n hx hb dX2_openSpotOf_21 rfl (lv_at hl 2 rfl) ?_
        refine va_get (D := D) (ci := 1) (v := .ref (ad 14)) (C := RX2) (T := TX2) (N := 2) hx hb hts in_X2_openSpotOf_X2 hown hK hP 5 rfl rfl 0 (by decide) (hts _ lk_X2_openSpotOf_11) (fun _ h9 => h9) rfl dX2_openSpotOf_22 ?_
        refine lv_iload_n hx hb dX2_openSpotOf_25 rfl (lv_at hl 4 rfl) ?_
        refine lv_iconst (v := nI 4) hx hb dX2_openSpotOf_26 (by decide) ?_
        refine n_mul hx hb dX2_openSpotOf_27 ?_
        refine lv_iload hx hb dX2_openSpotOf_28 (lv_at hl 0 rfl) ?_
        refine n_add hx hb dX2_openSpotOf_30 ?_
        refine n_ald hx hb hK hP 14 0 rfl rfl (i := (t * 4) + j) (by omega) (by decide) (v := nI (σ 14 ((t * 4) + j))) rfl dX2_openSpotOf_31 ?_
        refine lv_istore (lv' := [(6, .int (nI (σ 14 ((t * 4) + j)))), (5, .int (nI j)), (4, .int (nI (σ 6 t))), (0, .ref (ad 5)), (1, .ref (ad 1)), (2, .int (nI t)), (3, .int (nI u))]) hx hb dX2_openSpotOf_32 hl (by decide) rfl (fun ls hl => ?_)
        refine lv_aload_n hx hb dX2_openSpotOf_34 rfl (lv_at hl 3 rfl) ?_
        refine va_get (D := D) (ci := 1) (v := .ref (ad 14)) (C := RX2) (T := TX2) (N := 2) hx hb hts in_X2_openSpotOf_X2 hown hK hP 5 rfl rfl 0 (by decide) (hts _ lk_X2_openSpotOf_11) (fun _ h9 => h9) rfl dX2_openSpotOf_35 ?_
        refine lv_iload_n hx hb dX2_openSpotOf_38 rfl (lv_at hl 6 rfl) ?_
        refine lv_iconst (v := nI 4) hx hb dX2_openSpotOf_39 (by decide) ?_
        refine n_mul hx hb dX2_openSpotOf_40 ?_
        refine lv_iload hx hb dX2_openSpotOf_41 (lv_at hl 1 rfl) ?_
        refine n_add hx hb dX2_openSpotOf_43 ?_
        refine n_ald hx hb hK hP 14 0 rfl rfl (i := (u * 4) + j) (by omega) (by decide) (v := nI (σ 14 ((u * 4) + j))) rfl dX2_openSpotOf_44 ?_
        refine lv_istore (lv' := [(7, .int (nI (σ 14 ((u * 4) + j)))), (6, .int (nI (σ 14 ((t * 4) + j)))), (5, .int (nI j)), (4, .int (nI (σ 6 t))), (0, .ref (ad 5)), (1, .ref (ad 1)), (2, .int (nI t)), (3, .int (nI u))]) hx hb dX2_openSpotOf_45 hl (by decide) rfl (fun ls hl => ?_)
        refine lv_aload_n hx hb dX2_openSpotOf_47 rfl (lv_at hl 4 rfl) ?_
        refine lv_iload hx hb dX2_openSpotOf_48 (lv_at hl 3 rfl) ?_
        refine lv_iload hx hb dX2_openSpotOf_50 (lv_at hl 1 rfl) ?_
        refine lv_iload hx hb dX2_openSpotOf_52 (lv_at hl 0 rfl) ?_
        refine vp_callSi (va_Run.run (va_runV (As := [.int (nI (σ 6 t)), .int (nI (σ 14 ((t * 4) + j))), .int (nI (σ 14 ((u * 4) + j)))]) (rest := []) ⟨hx, hb, hml, hown, hts⟩ (c_X2_partLikeness l D cI A ad σ (σ 6 t) (σ 14 (t * 4 + j)) (σ 14 (u * 4 + j)) hI hs1 hp1 hp2) (cwV 3 hts gX2_openSpotOf_X2_partLikeness rfl rfl rfl (by decide +kernel) ⟨Nat.le_of_ble_eq_true rfl, Nat.le_of_ble_eq_true rfl⟩) ⟨Wc.blind, va_recv hK hP (ci := 1) (q0 := 5) rfl rfl, fun U hU hW => ⟨rfl, Wc.go hP hK hD hN hZ hS hU hW⟩⟩ rfl rfl hl.1 rfl (lv_room (Nat.le_of_ble_eq_true rfl)) dX2_openSpotOf_54 ⟨Nat.zero_le _, Nat.zero_le _⟩)) (fun r_3 hr_3 => ?_)
        refine n_to (w := nI (plF σ (σ 6 t) (σ 14 (t * 4 + j)) (σ 14 (u * 4 + j)))) (hr_3.trans rfl) ?_
        refine lv_iconst (v := nI 2) hx hb dX2_openSpotOf_57 (by decide) ?_
        refine q_icmp_ne hx hb (tgt := 80) (nI_eq (by omega) (by omega)) dX2_openSpotOf_58 (by decide) (fun c_58 => ?_) (fun c_58 => ?_)
        · refine lv_iinc (v := nI (j + 1)) (lv' := [(5, .int (nI (j + 1))), (7, .int (nI (σ 14 ((u * 4) + j)))), (6, .int (nI (σ 14 ((t * 4) + j)))), (4, .int (nI (σ 6 t))), (0, .ref (ad 5)), (1, .ref (ad 1)), (2, .int (nI t)), (3, .int (nI u))]) hx hb dX2_openSpotOf_80 hl (k := 2) rfl (nI_add _ _) (by decide) rfl (fun ls hl => ?_)
          refine lv_goto (tgt := 11) hx hb dX2_openSpotOf_83 (by decide) ?_
          exact ih11 (j + 1)  _  (by omega) (by rw [hF]; simp [osoF, *]) (lv_sub hl [0, 3, 4, 5, 6, 7] rfl)
        · refine lv_aload_n hx hb dX2_openSpotOf_61 rfl (lv_at hl 4 rfl) ?_
          refine va_get (D := D) (ci := 1) (v := .ref (ad 15)) (C := RX2) (T := TX2) (N := 2) hx hb hts in_X2_openSpotOf_X2 hown hK hP 5 rfl rfl 1 (by decide) (hts _ lk_X2_openSpotOf_15) (fun _ h9 => h9) rfl dX2_openSpotOf_62 ?_
          refine lv_iload hx hb dX2_openSpotOf_65 (lv_at hl 1 rfl) ?_
          refine n_ald hx hb hK hP 15 0 rfl rfl (i := σ 14 ((t * 4) + j)) (by omega) (by decide) (v := mI (σ 15 (σ 14 ((t * 4) + j)))) rfl dX2_openSpotOf_67 ?_
          refine lv_iconst (v := mI 0) hx hb dX2_openSpotOf_68 (by decide) ?_
          refine q_icmp_ne hx hb (tgt := 77) (mI_eq (by omega) (by omega)) dX2_openSpotOf_69 (by decide) (fun c_69 => ?_) (fun c_69 => ?_)
          · refine lv_iload hx hb dX2_openSpotOf_77 (lv_at hl 0 rfl) ?_
            exact W.iret (v := nI (σ 14 ((u * 4) + j))) hx hb hr (fun t ht hW => ⟨_, rfl, by rw [hF]; simp [osoF, *, mI_succ], ht⟩) no_locs dX2_openSpotOf_79
          · refine lv_iload hx hb dX2_openSpotOf_72 (lv_at hl 1 rfl) ?_
            refine lv_goto (tgt := 79) hx hb dX2_openSpotOf_74 (by decide) ?_
            exact W.iret (v := nI (σ 14 ((t * 4) + j))) hx hb hr (fun t ht hW => ⟨_, rfl, by rw [hF]; simp [osoF, *, mI_succ], ht⟩) no_locs dX2_openSpotOf_79
  exact lp11 (widF (σ 6 t)) 0  _ (by omega) (rfl) (lv_sub hl [0, 1, 2, 3, 4, 5] rfl)
def rX2_openSpot : Room := { frames := 2, cells := 0, slots := 0, locals := 50 }
set_option maxHeartbeats 4000000 in
set_option maxRecDepth 100000 in
theorem c_X2_openSpot (l : Launch) (D : va_G) (cI : ClassId) (A : Nat → Prop) (ad : Nat → Nat) (σ : Nat → Nat → Nat) (cl : Nat) (hI : IC σ) (hcl : cl < 11) : Met l yX2_openSpot wsX2_openSpot rX2_openSpot (va_Pc [.ref (ad 5), .ref (ad 1), .ref (ad 4), .int (nI cl)] (Wc D cI A ad σ)) (vp_Si (fun r => r = mI (osF σ cl (σ 13 cl) 0))) 0 0 (fun _ => False) := by
  refine Met.ofW (cc := cX2_openSpot) (maxL := 6) (ret := (some .int)) (by decide) rfl ?_
  intro p e s m args below meth c s₁ B hml hv
  obtain ⟨rfl, hP, hK, hD, hN, hZ⟩ := hv
  have hx := B.exec
  have hb := B.bytes
  have hr := B.returns
  have hts := atoms_spec (ws := wsX2_openSpot) B.pre
  have hown : s.vm.findClass RX2 = some m.cls := findClass_of_methodNamed B.named
  have hlocks := B.notSynchronized
  have hS : va_S A s.heap s.heap [] := va_S.rf
  have hl := lv_entry ([.ref (ad 5), .ref (ad 1), .ref (ad 4), .int (nI cl)]) (n := 6) (Nat.le_of_ble_eq_true rfl)
  rw [lg_entry_eq]
  generalize (lg_sl ([.ref (ad 5), .ref (ad 1), .ref (ad 4), .int (nI cl)]) ++ List.replicate (6 - (lg_sl ([.ref (ad 5), .ref (ad 1), .ref (ad 4), .int (nI cl)])).length) Slot.unset).toArray = ls at hl ⊢
  have hl : lv_has ls 6 [(0, .ref (ad 5)), (1, .ref (ad 1)), (2, .ref (ad 4)), (3, .int (nI cl))] := hl
  have hsz := hI.asize hcl
  refine lv_iconst (v := nI 0) hx hb dX2_openSpot_0 (by decide) ?_
  refine lv_istore (lv' := [(4, .int (nI 0)), (0, .ref (ad 5)), (1, .ref (ad 1)), (2, .ref (ad 4)), (3, .int (nI cl))]) hx hb dX2_openSpot_1 hl (by decide) rfl (fun ls hl => ?_)
  have lp3 : ∀ (n : Nat) (k : Nat) (ls : Array Slot), (k + n = σ 13 cl) → (mI (osF σ cl (σ 13 cl) 0) = mI (osF σ cl n k)) → lv_has ls 6 [(4, .int (nI k)), (0, .ref (ad 5)), (1, .ref (ad 1)), (2, .ref (ad 4)), (3, .int (nI cl))] → WR p l e rX2_openSpot s m (([.ref (ad 5), .ref (ad 1), .ref (ad 4), .int (nI cl)] : List Value).toArray) below meth c s.heap (fun r => r = mI (osF σ cl (σ 13 cl) 0)) (F0 m 3 ls []) := by
    intro n
    induction n with
    | zero =>
      intro k ls hF1 hF hl
      refine lv_iload hx hb dX2_openSpot_3 (lv_at hl 0 rfl) ?_
      refine lv_aload_n hx hb dX2_openSpot_5 rfl (lv_at hl 3 rfl) ?_
      refine lv_iload_n hx hb dX2_openSpot_6 rfl (lv_at hl 4 rfl) ?_
      refine vp_callSi (va_Run.run (va_runV (As := [.int (nI cl)]) (rest := [.int (nI k)]) ⟨hx, hb, hml, hown, hts⟩ (c_X0_sizeOf l D cI A ad σ cl hcl) (cwV 1 hts gX2_openSpot_X0_sizeOf rfl rfl rfl (by decide +kernel) ⟨Nat.le_of_ble_eq_true rfl, Nat.le_of_ble_eq_true rfl⟩) ⟨Wc.blind, va_recv hK hP (ci := 0) (q0 := 4) rfl rfl, fun U hU hW => ⟨rfl, Wc.go hP hK hD hN hZ hS hU hW⟩⟩ rfl rfl hl.1 rfl (lv_room (Nat.le_of_ble_eq_true rfl)) dX2_openSpot_7 ⟨Nat.zero_le _, Nat.zero_le _⟩)) (fun r_1 hr_1 => ?_)
      refine n_to (w := nI (σ 13 cl)) (hr_1.trans rfl) ?_
      refine n_icmp_ge hx hb (tgt := 55) (by omega) (by omega) dX2_openSpot_10 (by decide) (fun c_10 => ?_) (fun c_10 => ?_)
      · refine lv_iconst (v := mI 0) hx hb dX2_openSpot_55 (by decide) ?_
        exact W.iret (v := mI 0) hx hb hr (fun t ht hW => ⟨_, rfl, by rw [hF]; rfl, ht⟩) no_locs dX2_openSpot_56
      · omega
    | succ n ih3 =>
      intro k ls hF1 hF hl
      refine lv_iload hx hb dX2_openSpot_3 (lv_at hl 0 rfl) ?_
      refine lv_aload_n hx hb dX2_openSpot_5 rfl (lv_at hl 3 rfl) ?_
      refine lv_iload_n hx hb dX2_openSpot_6 rfl (lv_at hl 4 rfl) ?_
      refine vp_callSi (va_Run.run (va_runV (As := [.int (nI cl)]) (rest := [.int (nI k)]) ⟨hx, hb, hml, hown, hts⟩ (c_X0_sizeOf l D cI A ad σ cl hcl) (cwV 1 hts gX2_openSpot_X0_sizeOf rfl rfl rfl (by decide +kernel) ⟨Nat.le_of_ble_eq_true rfl, Nat.le_of_ble_eq_true rfl⟩) ⟨Wc.blind, va_recv hK hP (ci := 0) (q0 := 4) rfl rfl, fun U hU hW => ⟨rfl, Wc.go hP hK hD hN hZ hS hU hW⟩⟩ rfl rfl hl.1 rfl (lv_room (Nat.le_of_ble_eq_true rfl)) dX2_openSpot_7 ⟨Nat.zero_le _, Nat.zero_le _⟩)) (fun r_2 hr_2 => ?_)
      refine n_to (w := nI (σ 13 cl)) (hr_2.trans rfl) ?_
      refine n_icmp_ge hx hb (tgt := 55) (by omega) (by omega) dX2_openSpot_10 (by decide) (fun c_10 => ?_) (fun c_10 => ?_)
      · omega
      · have hli := hI.alit (j := cl * 3 + k) (by omega)
        have hrt := @rtF_le σ (σ 12 (cl * 3 + k))
        refine lv_aload_n hx hb dX2_openSpot_13 rfl (lv_at hl 3 rfl) ?_
        refine lv_iload_n hx hb dX2_openSpot_14 rfl (lv_at hl 4 rfl) ?_
        refine lv_iload hx hb dX2_openSpot_15 (lv_at hl 0 rfl) ?_
        refine vp_callSi (va_Run.run (va_runV (As := [.int (nI cl), .int (nI k)]) (rest := []) ⟨hx, hb, hml, hown, hts⟩ (c_X0_at l D cI A ad σ cl k (by omega)) (cwV 2 hts gX2_openSpot_X0_at rfl rfl rfl (by decide +kernel) ⟨Nat.le_of_ble_eq_true rfl, Nat.le_of_ble_eq_true rfl⟩) ⟨Wc.blind, va_recv hK hP (ci := 0) (q0 := 4) rfl rfl, fun U hU hW => ⟨rfl, Wc.go hP hK hD hN hZ hS hU hW⟩⟩ rfl rfl hl.1 rfl (lv_room (Nat.le_of_ble_eq_true rfl)) dX2_openSpot_17 ⟨Nat.zero_le _, Nat.zero_le _⟩)) (fun r_3 hr_3 => ?_)
        refine n_to (w := nI (σ 12 (cl * 3 + k))) (hr_3.trans rfl) ?_
        refine lv_istore (lv' := [(5, .int (nI (σ 12 (cl * 3 + k)))), (4, .int (nI k)), (0, .ref (ad 5)), (1, .ref (ad 1)), (2, .ref (ad 4)), (3, .int (nI cl))]) hx hb dX2_openSpot_20 hl (by decide) rfl (fun ls hl => ?_)
        refine lv_aload_n hx hb dX2_openSpot_22 rfl (lv_at hl 2 rfl) ?_
        refine lv_aload_n hx hb dX2_openSpot_23 rfl (lv_at hl 3 rfl) ?_
        refine lv_iload hx hb dX2_openSpot_24 (lv_at hl 0 rfl) ?_
        refine vp_callSi (va_Run.run (va_runV (As := [.ref (ad 1), .int (nI (σ 12 (cl * 3 + k)))]) (rest := []) ⟨hx, hb, hml, hown, hts⟩ (c_X2_rightness l D cI A ad σ (σ 12 (cl * 3 + k)) hI hli) (cwV 2 hts gX2_openSpot_X2_rightness rfl rfl rfl (by decide +kernel) ⟨Nat.le_of_ble_eq_true rfl, Nat.le_of_ble_eq_true rfl⟩) ⟨Wc.blind, va_recv hK hP (ci := 1) (q0 := 5) rfl rfl, fun U hU hW => ⟨rfl, Wc.go hP hK hD hN hZ hS hU hW⟩⟩ rfl rfl hl.1 rfl (lv_room (Nat.le_of_ble_eq_true rfl)) dX2_openSpot_26 ⟨Nat.zero_le _, Nat.zero_le _⟩)) (fun r_4 hr_4 => ?_)
        refine n_to (w := nI (rtF σ (σ 12 (cl * 3 + k)))) (hr_4.trans rfl) ?_
        refine lv_iconst (v := nI 2) hx hb dX2_openSpot_29 (by decide) ?_
        refine q_icmp_ne hx hb (tgt := 49) (nI_eq (by omega) (by omega)) dX2_openSpot_30 (by decide) (fun c_30 => ?_) (fun c_30 => ?_)
        · refine lv_iinc (v := nI (k + 1)) (lv' := [(4, .int (nI (k + 1))), (5, .int (nI (σ 12 (cl * 3 + k)))), (0, .ref (ad 5)), (1, .ref (ad 1)), (2, .ref (ad 4)), (3, .int (nI cl))]) hx hb dX2_openSpot_49 hl (k := 1) rfl (nI_add _ _) (by decide) rfl (fun ls hl => ?_)
          refine lv_goto (tgt := 3) hx hb dX2_openSpot_52 (by decide) ?_
          exact ih3 (k + 1)  _  (by omega) (by rw [hF]; simp [osF, *]) (lv_sub hl [0, 2, 3, 4, 5] rfl)
        · refine lv_aload_n hx hb dX2_openSpot_33 rfl (lv_at hl 2 rfl) ?_
          refine lv_aload_n hx hb dX2_openSpot_34 rfl (lv_at hl 3 rfl) ?_
          refine lv_iload hx hb dX2_openSpot_35 (lv_at hl 0 rfl) ?_
          refine vp_callSi (va_Run.run (va_runS (As := [.int (nI (σ 12 (cl * 3 + k)))]) (rest := [.ref (ad 1), .ref (ad 5)]) ⟨hx, hb, hml, hown, hts⟩ (c_X1_left l   (σ 12 (cl * 3 + k)) hli.1) (va_cwS 1 hts gX2_openSpot_X1_left rfl rfl rfl (by decide +kernel) ⟨Nat.le_of_ble_eq_true rfl, Nat.le_of_ble_eq_true rfl⟩) ⟨tt_blind, fun U hU hW => ⟨rfl, trivial⟩⟩ rfl rfl hl.1 rfl (lv_room (Nat.le_of_ble_eq_true rfl)) dX2_openSpot_37 ⟨Nat.zero_le _, Nat.zero_le _⟩)) (fun r_5 hr_5 => ?_)
          refine n_to (w := nI (σ 12 (cl * 3 + k) % 32)) (hr_5.trans rfl) ?_
          refine lv_iload hx hb dX2_openSpot_40 (lv_at hl 0 rfl) ?_
          refine vp_callSi (va_Run.run (va_runS (As := [.int (nI (σ 12 (cl * 3 + k)))]) (rest := [.int (nI (σ 12 (cl * 3 + k) % 32)), .ref (ad 1), .ref (ad 5)]) ⟨hx, hb, hml, hown, hts⟩ (c_X1_right l   (σ 12 (cl * 3 + k)) hli.1) (va_cwS 1 hts gX2_openSpot_X1_right rfl rfl rfl (by decide +kernel) ⟨Nat.le_of_ble_eq_true rfl, Nat.le_of_ble_eq_true rfl⟩) ⟨tt_blind, fun U hU hW => ⟨rfl, trivial⟩⟩ rfl rfl hl.1 rfl (lv_room (Nat.le_of_ble_eq_true rfl)) dX2_openSpot_42 ⟨Nat.zero_le _, Nat.zero_le _⟩)) (fun r_6 hr_6 => ?_)
          refine n_to (w := nI (σ 12 (cl * 3 + k) / 32 % 32)) (hr_6.trans rfl) ?_
          refine vp_callSi (va_Run.run (va_runV (As := [.ref (ad 1), .int (nI (σ 12 (cl * 3 + k) % 32)), .int (nI (σ 12 (cl * 3 + k) / 32 % 32))]) (rest := []) ⟨hx, hb, hml, hown, hts⟩ (c_X2_openSpotOf l D cI A ad σ (σ 12 (cl * 3 + k) % 32) (σ 12 (cl * 3 + k) / 32 % 32) hI hli.2.1 hli.2.2) (cwV 3 hts gX2_openSpot_X2_openSpotOf rfl rfl rfl (by decide +kernel) ⟨Nat.le_of_ble_eq_true rfl, Nat.le_of_ble_eq_true rfl⟩) ⟨Wc.blind, va_recv hK hP (ci := 1) (q0 := 5) rfl rfl, fun U hU hW => ⟨rfl, Wc.go hP hK hD hN hZ hS hU hW⟩⟩ rfl rfl hl.1 rfl (lv_room (Nat.le_of_ble_eq_true rfl)) dX2_openSpot_45 ⟨Nat.zero_le _, Nat.zero_le _⟩)) (fun r_7 hr_7 => ?_)
          refine n_to (w := mI (osoF σ (σ 6 (σ 12 (cl * 3 + k) % 32)) (σ 12 (cl * 3 + k) % 32) (σ 12 (cl * 3 + k) / 32 % 32) (widF (σ 6 (σ 12 (cl * 3 + k) % 32))) 0)) (hr_7.trans rfl) ?_
          exact W.iret (v := mI (osoF σ (σ 6 (σ 12 (cl * 3 + k) % 32)) (σ 12 (cl * 3 + k) % 32) (σ 12 (cl * 3 + k) / 32 % 32) (widF (σ 6 (σ 12 (cl * 3 + k) % 32))) 0)) hx hb hr (fun t ht hW => ⟨_, rfl, by rw [hF]; simp [osF, *], ht⟩) no_locs dX2_openSpot_48
  exact lp3 (σ 13 cl) 0  _ (by omega) (rfl) (lv_sub hl [0, 1, 2, 3, 4] rfl)
end
section
/-! THE CLASS's writers, as functions of its state's numbers -/
theorem sU_at (σ : Nat → Nat → Nat) (k i v j : Nat) : sU σ k i v k j = if j = i then v else σ k j := by rw [sU_same, va_up_app]
def addSF (σ : Nat → Nat → Nat) (v : Nat) : Nat → Nat → Nat := sU (sU (sU σ 12 (σ 0 4 * 3) v) 13 (σ 0 4) 1) 0 4 (σ 0 4 + 1)
def addAL (σ : Nat → Nat → Nat) (o : Nat) : Nat → Nat → (Nat → Nat → Nat) → (Nat → Nat → Nat)
  | 0, _, s => s
  | n + 1, k, s => addAL σ o n (k + 1) (sU s 12 (s 0 4 * 3 + k) (s 10 (o + k)))
def addAF (σ : Nat → Nat → Nat) (o z : Nat) : Nat → Nat → Nat := sU (sU (addAL σ o z 0 σ) 13 ((addAL σ o z 0 σ) 0 4) z) 0 4 ((addAL σ o z 0 σ) 0 4 + 1)
def addML (σ : Nat → Nat → Nat) (o : Nat) : Nat → Nat → (Nat → Nat → Nat) → (Nat → Nat → Nat)
  | 0, _, s => s
  | n + 1, k, s => addML σ o n (k + 1) (sU s 10 (s 0 2 * 3 + k) (s 3 (o + k)))
def addMF (σ : Nat → Nat → Nat) (o z : Nat) : Nat → Nat → Nat := sU (sU (addML σ o z 0 σ) 11 ((addML σ o z 0 σ) 0 2) z) 0 2 ((addML σ o z 0 σ) 0 2 + 1)
def addTF (σ : Nat → Nat → Nat) (q a i x : Nat) : Nat → Nat → Nat := sU (sU (sU (sU (sU σ 6 (σ 0 1) q) 7 (σ 0 1) a) 8 (σ 0 1) i) 9 (σ 0 1) x) 0 1 (σ 0 1 + 1)
theorem in_X0_cutTo_X0 : ∀ w ∈ wsX00, w ∈ wsX0_cutTo := by decide +kernel
theorem lk_X0_cutTo_18 : Cond.fieldLink RX0 18 "ArrayClaims$ClaimList" "count" "I" ∈ wsX0_cutTo := by decide +kernel
def rX0_cutTo_asked : Room := { frames := 0, cells := 0, slots := 0, locals := 0 }
set_option maxHeartbeats 4000000 in
set_option maxRecDepth 100000 in
theorem c_X0_cutTo_asked (l : Launch) (D : va_G) (cI : ClassId) (A : Nat → Prop) (ad : Nat → Nat) (σ : Nat → Nat → Nat) (k : Nat) (hI : IC σ) (hk : k ≤ 100) : Met l yX0_cutTo wsX0_cutTo rX0_cutTo_asked (va_Pc [.ref (ad 4), .int (nI k)] (Wc D cI A ad σ)) (va_Qv (fun u => u = if k < σ 0 4 then sU σ 0 4 k else σ) (fun u t => Wc D cI A ad u t) A) 0 0 A := by
  refine Met.ofW (cc := cX0_cutTo) (maxL := 2) (ret := none) (by decide) rfl ?_
  intro p e s m args below meth c s₁ B hml hv
  obtain ⟨rfl, hP, hK, hD, hN, hZ⟩ := hv
  have hx := B.exec
  have hb := B.bytes
  have hr := B.returns
  have hts := atoms_spec (ws := wsX0_cutTo) B.pre
  have hown : s.vm.findClass RX0 = some m.cls := findClass_of_methodNamed B.named
  have hlocks := B.notSynchronized
  have hS : va_S A s.heap s.heap [] := va_S.rf
  have hl := lv_entry ([.ref (ad 4), .int (nI k)]) (n := 2) (Nat.le_of_ble_eq_true rfl)
  rw [lg_entry_eq]
  generalize (lg_sl ([.ref (ad 4), .int (nI k)]) ++ List.replicate (2 - (lg_sl ([.ref (ad 4), .int (nI k)])).length) Slot.unset).toArray = ls at hl ⊢
  have hl : lv_has ls 2 [(0, .ref (ad 4)), (1, .int (nI k))] := hl
  have hcA := hI.asked
  have hcM := hI.claims
  refine lv_iload_n hx hb dX0_cutTo_0 rfl (lv_at hl 1 rfl) ?_
  refine lv_if_lt hx hb (tgt := 17) dX0_cutTo_1 (by decide) (fun c_1 => ?_) (fun c_1 => ?_)
  · exact absurd c_1 (nI_pos (by omega))
  · refine lv_iload_n hx hb dX0_cutTo_4 rfl (lv_at hl 1 rfl) ?_
    refine lv_aload_n hx hb dX0_cutTo_5 rfl (lv_at hl 0 rfl) ?_
    refine va_get (D := D) (ci := 0) (v := .int (nI (σ 0 4))) (C := RX0) (T := TX0) (N := 3) hx hb hts in_X0_cutTo_X0 hown hK hP 4 rfl rfl 2 (by decide) (hts _ lk_X0_cutTo_18) (fun _ h9 => h9) rfl dX0_cutTo_6 ?_
    refine n_icmp_ge hx hb (tgt := 17) (by omega) (by omega) dX0_cutTo_9 (by decide) (fun c_9 => ?_) (fun c_9 => ?_)
    · exact W.vret hx hb hr (fun t ht hW => ⟨⟨_, rfl, (by first | (rw [if_pos c_9]; done) | (rw [if_neg (by omega)])), Wc.go hP hK hD hN hZ hS ht hW⟩, hS.F ht⟩) hS.2.2 dX0_cutTo_17
    · refine lv_aload_n hx hb dX0_cutTo_12 rfl (lv_at hl 0 rfl) ?_
      refine lv_iload_n hx hb dX0_cutTo_13 rfl (lv_at hl 1 rfl) ?_
      refine va_put (D := D) (ci := 0) (v := .int (nI k)) (ty := .int) (C := RX0) (T := TX0) (N := 3) hx hb hts in_X0_cutTo_X0 tyX0 tyX0_ok nmX0 hown hK hP hD hS 4 rfl rfl 2 (by decide) (hts _ lk_X0_cutTo_18) (fun _ h9 => h9) rfl (by decide +kernel) rfl rfl (Nat.le_of_ble_eq_true rfl) dX0_cutTo_14 (fun H locs hP hD hS => ?_)
      have hP : va_P D vwCl (WC ad cI (sU σ 0 4 k)) H := hP
      have hD : va_D A (WC ad cI (sU σ 0 4 k)) := hD
      exact W.vret hx hb hr (fun t ht hW => ⟨⟨_, rfl, (by first | (rw [if_pos c_9]; done) | (rw [if_neg (by omega)])), Wc.go hP hK hD hN hZ hS ht hW⟩, hS.F ht⟩) hS.2.2 dX0_cutTo_17
def rX0_cutTo_made : Room := { frames := 0, cells := 0, slots := 0, locals := 0 }
set_option maxHeartbeats 4000000 in
set_option maxRecDepth 100000 in
theorem c_X0_cutTo_made (l : Launch) (D : va_G) (cI : ClassId) (A : Nat → Prop) (ad : Nat → Nat) (σ : Nat → Nat → Nat) (k : Nat) (hI : IC σ) (hk : k ≤ 100) : Met l yX0_cutTo wsX0_cutTo rX0_cutTo_made (va_Pc [.ref (ad 2), .int (nI k)] (Wc D cI A ad σ)) (va_Qv (fun u => u = if k < σ 0 2 then sU σ 0 2 k else σ) (fun u t => Wc D cI A ad u t) A) 0 0 A := by
  refine Met.ofW (cc := cX0_cutTo) (maxL := 2) (ret := none) (by decide) rfl ?_
  intro p e s m args below meth c s₁ B hml hv
  obtain ⟨rfl, hP, hK, hD, hN, hZ⟩ := hv
  have hx := B.exec
  have hb := B.bytes
  have hr := B.returns
  have hts := atoms_spec (ws := wsX0_cutTo) B.pre
  have hown : s.vm.findClass RX0 = some m.cls := findClass_of_methodNamed B.named
  have hlocks := B.notSynchronized
  have hS : va_S A s.heap s.heap [] := va_S.rf
  have hl := lv_entry ([.ref (ad 2), .int (nI k)]) (n := 2) (Nat.le_of_ble_eq_true rfl)
  rw [lg_entry_eq]
  generalize (lg_sl ([.ref (ad 2), .int (nI k)]) ++ List.replicate (2 - (lg_sl ([.ref (ad 2), .int (nI k)])).length) Slot.unset).toArray = ls at hl ⊢
  have hl : lv_has ls 2 [(0, .ref (ad 2)), (1, .int (nI k))] := hl
  have hcA := hI.asked
  have hcM := hI.claims
  refine lv_iload_n hx hb dX0_cutTo_0 rfl (lv_at hl 1 rfl) ?_
  refine lv_if_lt hx hb (tgt := 17) dX0_cutTo_1 (by decide) (fun c_1 => ?_) (fun c_1 => ?_)
  · exact absurd c_1 (nI_pos (by omega))
  · refine lv_iload_n hx hb dX0_cutTo_4 rfl (lv_at hl 1 rfl) ?_
    refine lv_aload_n hx hb dX0_cutTo_5 rfl (lv_at hl 0 rfl) ?_
    refine va_get (D := D) (ci := 0) (v := .int (nI (σ 0 2))) (C := RX0) (T := TX0) (N := 3) hx hb hts in_X0_cutTo_X0 hown hK hP 2 rfl rfl 2 (by decide) (hts _ lk_X0_cutTo_18) (fun _ h9 => h9) rfl dX0_cutTo_6 ?_
    refine n_icmp_ge hx hb (tgt := 17) (by omega) (by omega) dX0_cutTo_9 (by decide) (fun c_9 => ?_) (fun c_9 => ?_)
    · exact W.vret hx hb hr (fun t ht hW => ⟨⟨_, rfl, (by first | (rw [if_pos c_9]; done) | (rw [if_neg (by omega)])), Wc.go hP hK hD hN hZ hS ht hW⟩, hS.F ht⟩) hS.2.2 dX0_cutTo_17
    · refine lv_aload_n hx hb dX0_cutTo_12 rfl (lv_at hl 0 rfl) ?_
      refine lv_iload_n hx hb dX0_cutTo_13 rfl (lv_at hl 1 rfl) ?_
      refine va_put (D := D) (ci := 0) (v := .int (nI k)) (ty := .int) (C := RX0) (T := TX0) (N := 3) hx hb hts in_X0_cutTo_X0 tyX0 tyX0_ok nmX0 hown hK hP hD hS 2 rfl rfl 2 (by decide) (hts _ lk_X0_cutTo_18) (fun _ h9 => h9) rfl (by decide +kernel) rfl rfl (Nat.le_of_ble_eq_true rfl) dX0_cutTo_14 (fun H locs hP hD hS => ?_)
      have hP : va_P D vwCl (WC ad cI (sU σ 0 2 k)) H := hP
      have hD : va_D A (WC ad cI (sU σ 0 2 k)) := hD
      exact W.vret hx hb hr (fun t ht hW => ⟨⟨_, rfl, (by first | (rw [if_pos c_9]; done) | (rw [if_neg (by omega)])), Wc.go hP hK hD hN hZ hS ht hW⟩, hS.F ht⟩) hS.2.2 dX0_cutTo_17
theorem in_X0_addSingle_X0 : ∀ w ∈ wsX00, w ∈ wsX0_addSingle := by decide +kernel
theorem lk_X0_addSingle_18 : Cond.fieldLink RX0 18 "ArrayClaims$ClaimList" "count" "I" ∈ wsX0_addSingle := by decide +kernel
theorem lk_X0_addSingle_15 : Cond.fieldLink RX0 15 "ArrayClaims$ClaimList" "sizes" "[I" ∈ wsX0_addSingle := by decide +kernel
theorem lk_X0_addSingle_9 : Cond.fieldLink RX0 9 "ArrayClaims$ClaimList" "literals" "[I" ∈ wsX0_addSingle := by decide +kernel
def rX0_addSingle : Room := { frames := 0, cells := 0, slots := 0, locals := 0 }
set_option maxHeartbeats 4000000 in
set_option maxRecDepth 100000 in
theorem c_X0_addSingle (l : Launch) (D : va_G) (cI : ClassId) (A : Nat → Prop) (ad : Nat → Nat) (σ : Nat → Nat → Nat) (v : Nat) (hI : IC σ) (hc : σ 0 4 < 11) : Met l yX0_addSingle wsX0_addSingle rX0_addSingle (va_Pc [.ref (ad 4), .int (nI v)] (Wc D cI A ad σ)) (va_Qv (fun u => u = addSF σ v) (fun u t => Wc D cI A ad u t) A) 0 0 A := by
  refine Met.ofW (cc := cX0_addSingle) (maxL := 2) (ret := none) (by decide) rfl ?_
  intro p e s m args below meth c s₁ B hml hv
  obtain ⟨rfl, hP, hK, hD, hN, hZ⟩ := hv
  have hx := B.exec
  have hb := B.bytes
  have hr := B.returns
  have hts := atoms_spec (ws := wsX0_addSingle) B.pre
  have hown : s.vm.findClass RX0 = some m.cls := findClass_of_methodNamed B.named
  have hlocks := B.notSynchronized
  have hS : va_S A s.heap s.heap [] := va_S.rf
  have hl := lv_entry ([.ref (ad 4), .int (nI v)]) (n := 2) (Nat.le_of_ble_eq_true rfl)
  rw [lg_entry_eq]
  generalize (lg_sl ([.ref (ad 4), .int (nI v)]) ++ List.replicate (2 - (lg_sl ([.ref (ad 4), .int (nI v)])).length) Slot.unset).toArray = ls at hl ⊢
  have hl : lv_has ls 2 [(0, .ref (ad 4)), (1, .int (nI v))] := hl
  refine lv_aload_n hx hb dX0_addSingle_0 rfl (lv_at hl 0 rfl) ?_
  refine va_get (D := D) (ci := 0) (v := .int (nI (σ 0 4))) (C := RX0) (T := TX0) (N := 3) hx hb hts in_X0_addSingle_X0 hown hK hP 4 rfl rfl 2 (by decide) (hts _ lk_X0_addSingle_18) (fun _ h9 => h9) rfl dX0_addSingle_1 ?_
  refine lv_aload_n hx hb dX0_addSingle_4 rfl (lv_at hl 0 rfl) ?_
  refine va_get (D := D) (ci := 0) (v := .ref (ad 13)) (C := RX0) (T := TX0) (N := 3) hx hb hts in_X0_addSingle_X0 hown hK hP 4 rfl rfl 1 (by decide) (hts _ lk_X0_addSingle_15) (fun _ h9 => h9) rfl dX0_addSingle_5 ?_
  refine va_alen (v := nI 11) hx hb hK hP 13 0 rfl rfl rfl dX0_addSingle_8 ?_
  refine n_icmp_lt hx hb (tgt := 13) (by omega) (by omega) dX0_addSingle_9 (by decide) (fun c_9 => ?_) (fun c_9 => ?_)
  · refine lv_aload_n hx hb dX0_addSingle_13 rfl (lv_at hl 0 rfl) ?_
    refine va_get (D := D) (ci := 0) (v := .ref (ad 12)) (C := RX0) (T := TX0) (N := 3) hx hb hts in_X0_addSingle_X0 hown hK hP 4 rfl rfl 0 (by decide) (hts _ lk_X0_addSingle_9) (fun _ h9 => h9) rfl dX0_addSingle_14 ?_
    refine lv_aload_n hx hb dX0_addSingle_17 rfl (lv_at hl 0 rfl) ?_
    refine va_get (D := D) (ci := 0) (v := .int (nI (σ 0 4))) (C := RX0) (T := TX0) (N := 3) hx hb hts in_X0_addSingle_X0 hown hK hP 4 rfl rfl 2 (by decide) (hts _ lk_X0_addSingle_18) (fun _ h9 => h9) rfl dX0_addSingle_18 ?_
    refine lv_iconst (v := nI 3) hx hb dX0_addSingle_21 (by decide) ?_
    refine n_mul hx hb dX0_addSingle_22 ?_
    refine lv_iload_n hx hb dX0_addSingle_23 rfl (lv_at hl 1 rfl) ?_
    refine n_ast (ws' := WC ad cI (sU σ 12 ((σ 0 4) * 3) v)) hx hb hK hP hD hS 12 0 rfl rfl (i := (σ 0 4) * 3) (by omega) (by decide) (WCs12 ..) dX0_addSingle_24 (fun H locs hP hD hS => ?_)
    refine lv_aload_n hx hb dX0_addSingle_25 rfl (lv_at hl 0 rfl) ?_
    refine va_get (D := D) (ci := 0) (v := .ref (ad 13)) (C := RX0) (T := TX0) (N := 3) hx hb hts in_X0_addSingle_X0 hown hK hP 4 rfl rfl 1 (by decide) (hts _ lk_X0_addSingle_15) (fun _ h9 => h9) rfl dX0_addSingle_26 ?_
    refine lv_aload_n hx hb dX0_addSingle_29 rfl (lv_at hl 0 rfl) ?_
    refine va_get (D := D) (ci := 0) (v := .int (nI (σ 0 4))) (C := RX0) (T := TX0) (N := 3) hx hb hts in_X0_addSingle_X0 hown hK hP 4 rfl rfl 2 (by decide) (hts _ lk_X0_addSingle_18) (fun _ h9 => h9) rfl dX0_addSingle_30 ?_
    refine lv_iconst (v := nI 1) hx hb dX0_addSingle_33 (by decide) ?_
    refine n_ast (ws' := WC ad cI (sU (sU σ 12 ((σ 0 4) * 3) v) 13 (σ 0 4) 1)) hx hb hK hP hD hS 13 0 rfl rfl (i := σ 0 4) (by omega) (by decide) (WCs13 ..) dX0_addSingle_34 (fun H locs hP hD hS => ?_)
    refine lv_aload_n hx hb dX0_addSingle_35 rfl (lv_at hl 0 rfl) ?_
    refine lv_dup hx hb dX0_addSingle_36 rfl ?_
    refine va_get (D := D) (ci := 0) (v := .int (nI (σ 0 4))) (C := RX0) (T := TX0) (N := 3) hx hb hts in_X0_addSingle_X0 hown hK hP 4 rfl rfl 2 (by decide) (hts _ lk_X0_addSingle_18) (fun _ h9 => h9) rfl dX0_addSingle_37 ?_
    refine lv_iconst (v := nI 1) hx hb dX0_addSingle_40 (by decide) ?_
    refine n_add hx hb dX0_addSingle_41 ?_
    refine va_put (D := D) (ci := 0) (v := .int (nI ((σ 0 4) + 1))) (ty := .int) (C := RX0) (T := TX0) (N := 3) hx hb hts in_X0_addSingle_X0 tyX0 tyX0_ok nmX0 hown hK hP hD hS 4 rfl rfl 2 (by decide) (hts _ lk_X0_addSingle_18) (fun _ h9 => h9) rfl (by decide +kernel) rfl rfl (Nat.le_of_ble_eq_true rfl) dX0_addSingle_42 (fun H locs hP hD hS => ?_)
    have hP : va_P D vwCl (WC ad cI (sU (sU (sU σ 12 ((σ 0 4) * 3) v) 13 (σ 0 4) 1) 0 4 ((σ 0 4) + 1))) H := hP
    have hD : va_D A (WC ad cI (sU (sU (sU σ 12 ((σ 0 4) * 3) v) 13 (σ 0 4) 1) 0 4 ((σ 0 4) + 1))) := hD
    exact W.vret hx hb hr (fun t ht hW => ⟨⟨_, rfl, (rfl), Wc.go hP hK hD hN hZ hS ht hW⟩, hS.F ht⟩) hS.2.2 dX0_addSingle_45
  · omega
theorem in_X0_add_X0 : ∀ w ∈ wsX00, w ∈ wsX0_add := by decide +kernel
theorem lk_X0_add_18 : Cond.fieldLink RX0 18 "ArrayClaims$ClaimList" "count" "I" ∈ wsX0_add := by decide +kernel
theorem lk_X0_add_15 : Cond.fieldLink RX0 15 "ArrayClaims$ClaimList" "sizes" "[I" ∈ wsX0_add := by decide +kernel
theorem lk_X0_add_9 : Cond.fieldLink RX0 9 "ArrayClaims$ClaimList" "literals" "[I" ∈ wsX0_add := by decide +kernel
def rX0_add_asked : Room := { frames := 0, cells := 0, slots := 0, locals := 0 }
set_option maxHeartbeats 4000000 in
set_option maxRecDepth 100000 in
theorem c_X0_add_asked (l : Launch) (D : va_G) (cI : ClassId) (A : Nat → Prop) (ad : Nat → Nat) (σ : Nat → Nat → Nat) (o z : Nat) (hI : IC σ) (hc : σ 0 4 < 11) (hz : z ≤ 3) (ho : o + z ≤ 24) : Met l yX0_add wsX0_add rX0_add_asked (va_Pc [.ref (ad 4), .ref (ad 10), .int (nI o), .int (nI z)] (Wc D cI A ad σ)) (va_Qv (fun u => u = addAF σ o z) (fun u t => Wc D cI A ad u t) A) 0 0 A := by
  refine Met.ofW (cc := cX0_add) (maxL := 5) (ret := none) (by decide) rfl ?_
  intro p e s m args below meth c s₁ B hml hv
  obtain ⟨rfl, hP, hK, hD, hN, hZ⟩ := hv
  have hx := B.exec
  have hb := B.bytes
  have hr := B.returns
  have hts := atoms_spec (ws := wsX0_add) B.pre
  have hown : s.vm.findClass RX0 = some m.cls := findClass_of_methodNamed B.named
  have hlocks := B.notSynchronized
  have hS : va_S A s.heap s.heap [] := va_S.rf
  have hl := lv_entry ([.ref (ad 4), .ref (ad 10), .int (nI o), .int (nI z)]) (n := 5) (Nat.le_of_ble_eq_true rfl)
  rw [lg_entry_eq]
  generalize (lg_sl ([.ref (ad 4), .ref (ad 10), .int (nI o), .int (nI z)]) ++ List.replicate (5 - (lg_sl ([.ref (ad 4), .ref (ad 10), .int (nI o), .int (nI z)])).length) Slot.unset).toArray = ls at hl ⊢
  have hl : lv_has ls 5 [(0, .ref (ad 4)), (1, .ref (ad 10)), (2, .int (nI o)), (3, .int (nI z))] := hl
  refine lv_aload_n hx hb dX0_add_0 rfl (lv_at hl 0 rfl) ?_
  refine va_get (D := D) (ci := 0) (v := .int (nI (σ 0 4))) (C := RX0) (T := TX0) (N := 3) hx hb hts in_X0_add_X0 hown hK hP 4 rfl rfl 2 (by decide) (hts _ lk_X0_add_18) (fun _ h9 => h9) rfl dX0_add_1 ?_
  refine lv_aload_n hx hb dX0_add_4 rfl (lv_at hl 0 rfl) ?_
  refine va_get (D := D) (ci := 0) (v := .ref (ad 13)) (C := RX0) (T := TX0) (N := 3) hx hb hts in_X0_add_X0 hown hK hP 4 rfl rfl 1 (by decide) (hts _ lk_X0_add_15) (fun _ h9 => h9) rfl dX0_add_5 ?_
  refine va_alen (v := nI 11) hx hb hK hP 13 0 rfl rfl rfl dX0_add_8 ?_
  refine n_icmp_ge hx hb (tgt := 17) (by omega) (by omega) dX0_add_9 (by decide) (fun c_9 => ?_) (fun c_9 => ?_)
  · omega
  · refine lv_iload_n hx hb dX0_add_12 rfl (lv_at hl 3 rfl) ?_
    refine lv_iconst (v := nI 3) hx hb dX0_add_13 (by decide) ?_
    refine n_icmp_le hx hb (tgt := 18) (by omega) (by omega) dX0_add_14 (by decide) (fun c_14 => ?_) (fun c_14 => ?_)
    · refine lv_iconst (v := nI 0) hx hb dX0_add_18 (by decide) ?_
      refine lv_istore (lv' := [(4, .int (nI 0)), (0, .ref (ad 4)), (1, .ref (ad 10)), (2, .int (nI o)), (3, .int (nI z))]) hx hb dX0_add_19 hl (by decide) rfl (fun ls hl => ?_)
      have lp21 : ∀ (n : Nat) (k : Nat) (σ_1 : Nat → Nat → Nat) (H : Heap) (locs : List Loc) (ls : Array Slot), (k + n = z) → (addAL σ o z 0 σ = addAL σ o n k σ_1) → (∀ r, r ≠ 12 → σ_1 r = σ r) → va_P D vwCl (WC ad cI σ_1) H → va_D A (WC ad cI σ_1) → va_S A s.heap H locs → lv_has ls 5 [(4, .int (nI k)), (0, .ref (ad 4)), (1, .ref (ad 10)), (2, .int (nI o)), (3, .int (nI z))] → W p l e rX0_add_asked s m (([.ref (ad 4), .ref (ad 10), .int (nI o), .int (nI z)] : List Value).toArray) below meth c H locs 0 0 (MQ below (va_Qv (fun u => u = addAF σ o z) (fun u t => Wc D cI A ad u t) A) (([.ref (ad 4), .ref (ad 10), .int (nI o), .int (nI z)] : List Value).toArray) s 0 0 A) (F0 m 21 ls []) := by
        intro n
        induction n with
        | zero =>
          intro k σ_1 H locs ls hF1 hF hO hP hD hS hl
          have hs4 : σ_1 0 4 = σ 0 4 := by rw [hO 0 (by decide)]
          refine lv_iload hx hb dX0_add_21 (lv_at hl 0 rfl) ?_
          refine lv_iload_n hx hb dX0_add_23 rfl (lv_at hl 4 rfl) ?_
          refine n_icmp_ge hx hb (tgt := 53) (by omega) (by omega) dX0_add_24 (by decide) (fun c_24 => ?_) (fun c_24 => ?_)
          · refine lv_aload_n hx hb dX0_add_53 rfl (lv_at hl 1 rfl) ?_
            refine va_get (D := D) (ci := 0) (v := .ref (ad 13)) (C := RX0) (T := TX0) (N := 3) hx hb hts in_X0_add_X0 hown hK hP 4 rfl rfl 1 (by decide) (hts _ lk_X0_add_15) (fun _ h9 => h9) rfl dX0_add_54 ?_
            refine lv_aload_n hx hb dX0_add_57 rfl (lv_at hl 1 rfl) ?_
            refine va_get (D := D) (ci := 0) (v := .int (nI (σ_1 0 4))) (C := RX0) (T := TX0) (N := 3) hx hb hts in_X0_add_X0 hown hK hP 4 rfl rfl 2 (by decide) (hts _ lk_X0_add_18) (fun _ h9 => h9) rfl dX0_add_58 ?_
            refine lv_iload_n hx hb dX0_add_61 rfl (lv_at hl 4 rfl) ?_
            refine n_ast (ws' := WC ad cI (sU σ_1 13 (σ_1 0 4) z)) hx hb hK hP hD hS 13 0 rfl rfl (i := σ_1 0 4) (by omega) (by decide) (WCs13 ..) dX0_add_62 (fun H locs hP hD hS => ?_)
            refine lv_aload_n hx hb dX0_add_63 rfl (lv_at hl 1 rfl) ?_
            refine lv_dup hx hb dX0_add_64 rfl ?_
            refine va_get (D := D) (ci := 0) (v := .int (nI (σ_1 0 4))) (C := RX0) (T := TX0) (N := 3) hx hb hts in_X0_add_X0 hown hK hP 4 rfl rfl 2 (by decide) (hts _ lk_X0_add_18) (fun _ h9 => h9) rfl dX0_add_65 ?_
            refine lv_iconst (v := nI 1) hx hb dX0_add_68 (by decide) ?_
            refine n_add hx hb dX0_add_69 ?_
            refine va_put (D := D) (ci := 0) (v := .int (nI ((σ_1 0 4) + 1))) (ty := .int) (C := RX0) (T := TX0) (N := 3) hx hb hts in_X0_add_X0 tyX0 tyX0_ok nmX0 hown hK hP hD hS 4 rfl rfl 2 (by decide) (hts _ lk_X0_add_18) (fun _ h9 => h9) rfl (by decide +kernel) rfl rfl (Nat.le_of_ble_eq_true rfl) dX0_add_70 (fun H locs hP hD hS => ?_)
            have hP : va_P D vwCl (WC ad cI (sU (sU σ_1 13 (σ_1 0 4) z) 0 4 ((σ_1 0 4) + 1))) H := hP
            have hD : va_D A (WC ad cI (sU (sU σ_1 13 (σ_1 0 4) z) 0 4 ((σ_1 0 4) + 1))) := hD
            exact W.vret hx hb hr (fun t ht hW => ⟨⟨_, rfl, (by unfold addAF; rw [hF]; rfl), Wc.go hP hK hD hN hZ hS ht hW⟩, hS.F ht⟩) hS.2.2 dX0_add_73
          · omega
        | succ n ih21 =>
          intro k σ_1 H locs ls hF1 hF hO hP hD hS hl
          have hs4 : σ_1 0 4 = σ 0 4 := by rw [hO 0 (by decide)]
          refine lv_iload hx hb dX0_add_21 (lv_at hl 0 rfl) ?_
          refine lv_iload_n hx hb dX0_add_23 rfl (lv_at hl 4 rfl) ?_
          refine n_icmp_ge hx hb (tgt := 53) (by omega) (by omega) dX0_add_24 (by decide) (fun c_24 => ?_) (fun c_24 => ?_)
          · omega
          · refine lv_aload_n hx hb dX0_add_27 rfl (lv_at hl 1 rfl) ?_
            refine va_get (D := D) (ci := 0) (v := .ref (ad 12)) (C := RX0) (T := TX0) (N := 3) hx hb hts in_X0_add_X0 hown hK hP 4 rfl rfl 0 (by decide) (hts _ lk_X0_add_9) (fun _ h9 => h9) rfl dX0_add_28 ?_
            refine lv_aload_n hx hb dX0_add_31 rfl (lv_at hl 1 rfl) ?_
            refine va_get (D := D) (ci := 0) (v := .int (nI (σ_1 0 4))) (C := RX0) (T := TX0) (N := 3) hx hb hts in_X0_add_X0 hown hK hP 4 rfl rfl 2 (by decide) (hts _ lk_X0_add_18) (fun _ h9 => h9) rfl dX0_add_32 ?_
            refine lv_iconst (v := nI 3) hx hb dX0_add_35 (by decide) ?_
            refine n_mul hx hb dX0_add_36 ?_
            refine lv_iload hx hb dX0_add_37 (lv_at hl 0 rfl) ?_
            refine n_add hx hb dX0_add_39 ?_
            refine lv_aload_n hx hb dX0_add_40 rfl (lv_at hl 2 rfl) ?_
            refine lv_iload_n hx hb dX0_add_41 rfl (lv_at hl 3 rfl) ?_
            refine lv_iload hx hb dX0_add_42 (lv_at hl 0 rfl) ?_
            refine n_add hx hb dX0_add_44 ?_
            refine n_ald hx hb hK hP 10 0 rfl rfl (i := o + k) (by omega) (by decide) (v := nI (σ_1 10 (o + k))) rfl dX0_add_45 ?_
            refine n_ast (ws' := WC ad cI (sU σ_1 12 (((σ_1 0 4) * 3) + k) (σ_1 10 (o + k)))) hx hb hK hP hD hS 12 0 rfl rfl (i := ((σ_1 0 4) * 3) + k) (by omega) (by decide) (WCs12 ..) dX0_add_46 (fun H locs hP hD hS => ?_)
            refine lv_iinc (v := nI (k + 1)) (lv' := [(4, .int (nI (k + 1))), (0, .ref (ad 4)), (1, .ref (ad 10)), (2, .int (nI o)), (3, .int (nI z))]) hx hb dX0_add_47 hl (k := 0) rfl (nI_add _ _) (by decide) rfl (fun ls hl => ?_)
            refine lv_goto (tgt := 21) hx hb dX0_add_50 (by decide) ?_
            exact ih21 (k + 1)  _ _ _ _  (by omega) (by rw [hF]; rfl) (fun r hr => by rw [sU_ne _ _ _ hr]; exact hO r hr) hP hD hS (lv_sub hl [0, 1, 2, 3, 4] rfl)
      exact lp21 z 0  _ _ _ _ (by omega) (rfl) (fun _ _ => rfl) hP hD hS (lv_sub hl [0, 1, 2, 3, 4] rfl)
    · omega
def rX0_add_made : Room := { frames := 0, cells := 0, slots := 0, locals := 0 }
set_option maxHeartbeats 4000000 in
set_option maxRecDepth 100000 in
theorem c_X0_add_made (l : Launch) (D : va_G) (cI : ClassId) (A : Nat → Prop) (ad : Nat → Nat) (σ : Nat → Nat → Nat) (o z : Nat) (hI : IC σ) (hc : σ 0 2 < 8) (hz : z ≤ 3) (ho : o + z ≤ 3) : Met l yX0_add wsX0_add rX0_add_made (va_Pc [.ref (ad 2), .ref (ad 3), .int (nI o), .int (nI z)] (Wc D cI A ad σ)) (va_Qv (fun u => u = addMF σ o z) (fun u t => Wc D cI A ad u t) A) 0 0 A := by
  refine Met.ofW (cc := cX0_add) (maxL := 5) (ret := none) (by decide) rfl ?_
  intro p e s m args below meth c s₁ B hml hv
  obtain ⟨rfl, hP, hK, hD, hN, hZ⟩ := hv
  have hx := B.exec
  have hb := B.bytes
  have hr := B.returns
  have hts := atoms_spec (ws := wsX0_add) B.pre
  have hown : s.vm.findClass RX0 = some m.cls := findClass_of_methodNamed B.named
  have hlocks := B.notSynchronized
  have hS : va_S A s.heap s.heap [] := va_S.rf
  have hl := lv_entry ([.ref (ad 2), .ref (ad 3), .int (nI o), .int (nI z)]) (n := 5) (Nat.le_of_ble_eq_true rfl)
  rw [lg_entry_eq]
  generalize (lg_sl ([.ref (ad 2), .ref (ad 3), .int (nI o), .int (nI z)]) ++ List.replicate (5 - (lg_sl ([.ref (ad 2), .ref (ad 3), .int (nI o), .int (nI z)])).length) Slot.unset).toArray = ls at hl ⊢
  have hl : lv_has ls 5 [(0, .ref (ad 2)), (1, .ref (ad 3)), (2, .int (nI o)), (3, .int (nI z))] := hl
  refine lv_aload_n hx hb dX0_add_0 rfl (lv_at hl 0 rfl) ?_
  refine va_get (D := D) (ci := 0) (v := .int (nI (σ 0 2))) (C := RX0) (T := TX0) (N := 3) hx hb hts in_X0_add_X0 hown hK hP 2 rfl rfl 2 (by decide) (hts _ lk_X0_add_18) (fun _ h9 => h9) rfl dX0_add_1 ?_
  refine lv_aload_n hx hb dX0_add_4 rfl (lv_at hl 0 rfl) ?_
  refine va_get (D := D) (ci := 0) (v := .ref (ad 11)) (C := RX0) (T := TX0) (N := 3) hx hb hts in_X0_add_X0 hown hK hP 2 rfl rfl 1 (by decide) (hts _ lk_X0_add_15) (fun _ h9 => h9) rfl dX0_add_5 ?_
  refine va_alen (v := nI 8) hx hb hK hP 11 0 rfl rfl rfl dX0_add_8 ?_
  refine n_icmp_ge hx hb (tgt := 17) (by omega) (by omega) dX0_add_9 (by decide) (fun c_9 => ?_) (fun c_9 => ?_)
  · omega
  · refine lv_iload_n hx hb dX0_add_12 rfl (lv_at hl 3 rfl) ?_
    refine lv_iconst (v := nI 3) hx hb dX0_add_13 (by decide) ?_
    refine n_icmp_le hx hb (tgt := 18) (by omega) (by omega) dX0_add_14 (by decide) (fun c_14 => ?_) (fun c_14 => ?_)
    · refine lv_iconst (v := nI 0) hx hb dX0_add_18 (by decide) ?_
      refine lv_istore (lv' := [(4, .int (nI 0)), (0, .ref (ad 2)), (1, .ref (ad 3)), (2, .int (nI o)), (3, .int (nI z))]) hx hb dX0_add_19 hl (by decide) rfl (fun ls hl => ?_)
      have lp21 : ∀ (n : Nat) (k : Nat) (σ_1 : Nat → Nat → Nat) (H : Heap) (locs : List Loc) (ls : Array Slot), (k + n = z) → (addML σ o z 0 σ = addML σ o n k σ_1) → (∀ r, r ≠ 10 → σ_1 r = σ r) → va_P D vwCl (WC ad cI σ_1) H → va_D A (WC ad cI σ_1) → va_S A s.heap H locs → lv_has ls 5 [(4, .int (nI k)), (0, .ref (ad 2)), (1, .ref (ad 3)), (2, .int (nI o)), (3, .int (nI z))] → W p l e rX0_add_made s m (([.ref (ad 2), .ref (ad 3), .int (nI o), .int (nI z)] : List Value).toArray) below meth c H locs 0 0 (MQ below (va_Qv (fun u => u = addMF σ o z) (fun u t => Wc D cI A ad u t) A) (([.ref (ad 2), .ref (ad 3), .int (nI o), .int (nI z)] : List Value).toArray) s 0 0 A) (F0 m 21 ls []) := by
        intro n
        induction n with
        | zero =>
          intro k σ_1 H locs ls hF1 hF hO hP hD hS hl
          have hs4 : σ_1 0 2 = σ 0 2 := by rw [hO 0 (by decide)]
          refine lv_iload hx hb dX0_add_21 (lv_at hl 0 rfl) ?_
          refine lv_iload_n hx hb dX0_add_23 rfl (lv_at hl 4 rfl) ?_
          refine n_icmp_ge hx hb (tgt := 53) (by omega) (by omega) dX0_add_24 (by decide) (fun c_24 => ?_) (fun c_24 => ?_)
          · refine lv_aload_n hx hb dX0_add_53 rfl (lv_at hl 1 rfl) ?_
            refine va_get (D := D) (ci := 0) (v := .ref (ad 11)) (C := RX0) (T := TX0) (N := 3) hx hb hts in_X0_add_X0 hown hK hP 2 rfl rfl 1 (by decide) (hts _ lk_X0_add_15) (fun _ h9 => h9) rfl dX0_add_54 ?_
            refine lv_aload_n hx hb dX0_add_57 rfl (lv_at hl 1 rfl) ?_
            refine va_get (D := D) (ci := 0) (v := .int (nI (σ_1 0 2))) (C := RX0) (T := TX0) (N := 3) hx hb hts in_X0_add_X0 hown hK hP 2 rfl rfl 2 (by decide) (hts _ lk_X0_add_18) (fun _ h9 => h9) rfl dX0_add_58 ?_
            refine lv_iload_n hx hb dX0_add_61 rfl (lv_at hl 4 rfl) ?_
            refine n_ast (ws' := WC ad cI (sU σ_1 11 (σ_1 0 2) z)) hx hb hK hP hD hS 11 0 rfl rfl (i := σ_1 0 2) (by omega) (by decide) (WCs11 ..) dX0_add_62 (fun H locs hP hD hS => ?_)
            refine lv_aload_n hx hb dX0_add_63 rfl (lv_at hl 1 rfl) ?_
            refine lv_dup hx hb dX0_add_64 rfl ?_
            refine va_get (D := D) (ci := 0) (v := .int (nI (σ_1 0 2))) (C := RX0) (T := TX0) (N := 3) hx hb hts in_X0_add_X0 hown hK hP 2 rfl rfl 2 (by decide) (hts _ lk_X0_add_18) (fun _ h9 => h9) rfl dX0_add_65 ?_
            refine lv_iconst (v := nI 1) hx hb dX0_add_68 (by decide) ?_
            refine n_add hx hb dX0_add_69 ?_
            refine va_put (D := D) (ci := 0) (v := .int (nI ((σ_1 0 2) + 1))) (ty := .int) (C := RX0) (T := TX0) (N := 3) hx hb hts in_X0_add_X0 tyX0 tyX0_ok nmX0 hown hK hP hD hS 2 rfl rfl 2 (by decide) (hts _ lk_X0_add_18) (fun _ h9 => h9) rfl (by decide +kernel) rfl rfl (Nat.le_of_ble_eq_true rfl) dX0_add_70 (fun H locs hP hD hS => ?_)
            have hP : va_P D vwCl (WC ad cI (sU (sU σ_1 11 (σ_1 0 2) z) 0 2 ((σ_1 0 2) + 1))) H := hP
            have hD : va_D A (WC ad cI (sU (sU σ_1 11 (σ_1 0 2) z) 0 2 ((σ_1 0 2) + 1))) := hD
            exact W.vret hx hb hr (fun t ht hW => ⟨⟨_, rfl, (by unfold addMF; rw [hF]; rfl), Wc.go hP hK hD hN hZ hS ht hW⟩, hS.F ht⟩) hS.2.2 dX0_add_73
          · omega
        | succ n ih21 =>
          intro k σ_1 H locs ls hF1 hF hO hP hD hS hl
          have hs4 : σ_1 0 2 = σ 0 2 := by rw [hO 0 (by decide)]
          refine lv_iload hx hb dX0_add_21 (lv_at hl 0 rfl) ?_
          refine lv_iload_n hx hb dX0_add_23 rfl (lv_at hl 4 rfl) ?_
          refine n_icmp_ge hx hb (tgt := 53) (by omega) (by omega) dX0_add_24 (by decide) (fun c_24 => ?_) (fun c_24 => ?_)
          · omega
          · refine lv_aload_n hx hb dX0_add_27 rfl (lv_at hl 1 rfl) ?_
            refine va_get (D := D) (ci := 0) (v := .ref (ad 10)) (C := RX0) (T := TX0) (N := 3) hx hb hts in_X0_add_X0 hown hK hP 2 rfl rfl 0 (by decide) (hts _ lk_X0_add_9) (fun _ h9 => h9) rfl dX0_add_28 ?_
            refine lv_aload_n hx hb dX0_add_31 rfl (lv_at hl 1 rfl) ?_
            refine va_get (D := D) (ci := 0) (v := .int (nI (σ_1 0 2))) (C := RX0) (T := TX0) (N := 3) hx hb hts in_X0_add_X0 hown hK hP 2 rfl rfl 2 (by decide) (hts _ lk_X0_add_18) (fun _ h9 => h9) rfl dX0_add_32 ?_
            refine lv_iconst (v := nI 3) hx hb dX0_add_35 (by decide) ?_
            refine n_mul hx hb dX0_add_36 ?_
            refine lv_iload hx hb dX0_add_37 (lv_at hl 0 rfl) ?_
            refine n_add hx hb dX0_add_39 ?_
            refine lv_aload_n hx hb dX0_add_40 rfl (lv_at hl 2 rfl) ?_
            refine lv_iload_n hx hb dX0_add_41 rfl (lv_at hl 3 rfl) ?_
            refine lv_iload hx hb dX0_add_42 (lv_at hl 0 rfl) ?_
            refine n_add hx hb dX0_add_44 ?_
            refine n_ald hx hb hK hP 3 0 rfl rfl (i := o + k) (by omega) (by decide) (v := nI (σ_1 3 (o + k))) rfl dX0_add_45 ?_
            refine n_ast (ws' := WC ad cI (sU σ_1 10 (((σ_1 0 2) * 3) + k) (σ_1 3 (o + k)))) hx hb hK hP hD hS 10 0 rfl rfl (i := ((σ_1 0 2) * 3) + k) (by omega) (by decide) (WCs10 ..) dX0_add_46 (fun H locs hP hD hS => ?_)
            refine lv_iinc (v := nI (k + 1)) (lv' := [(4, .int (nI (k + 1))), (0, .ref (ad 2)), (1, .ref (ad 3)), (2, .int (nI o)), (3, .int (nI z))]) hx hb dX0_add_47 hl (k := 0) rfl (nI_add _ _) (by decide) rfl (fun ls hl => ?_)
            refine lv_goto (tgt := 21) hx hb dX0_add_50 (by decide) ?_
            exact ih21 (k + 1)  _ _ _ _  (by omega) (by rw [hF]; rfl) (fun r hr => by rw [sU_ne _ _ _ hr]; exact hO r hr) hP hD hS (lv_sub hl [0, 1, 2, 3, 4] rfl)
      exact lp21 z 0  _ _ _ _ (by omega) (rfl) (fun _ _ => rfl) hP hD hS (lv_sub hl [0, 1, 2, 3, 4] rfl)
    · omega
theorem in_X0_addFrom_X0 : ∀ w ∈ wsX00, w ∈ wsX0_addFrom := by decide +kernel
theorem lk_X0_addFrom_9 : Cond.fieldLink RX0 9 "ArrayClaims$ClaimList" "literals" "[I" ∈ wsX0_addFrom := by decide +kernel
theorem lk_X0_addFrom_15 : Cond.fieldLink RX0 15 "ArrayClaims$ClaimList" "sizes" "[I" ∈ wsX0_addFrom := by decide +kernel
def rX0_addFrom : Room := { frames := 1, cells := 0, slots := 0, locals := 24 }
set_option maxHeartbeats 4000000 in
set_option maxRecDepth 100000 in
theorem c_X0_addFrom (l : Launch) (D : va_G) (cI : ClassId) (A : Nat → Prop) (ad : Nat → Nat) (σ : Nat → Nat → Nat) (k : Nat) (hI : IC σ) (hc : σ 0 4 < 11) (hk : k < 8) : Met l yX0_addFrom wsX0_addFrom rX0_addFrom (va_Pc [.ref (ad 4), .ref (ad 2), .int (nI k)] (Wc D cI A ad σ)) (va_Qv (fun u => u = addAF σ (k * 3) (σ 11 k)) (fun u t => Wc D cI A ad u t) A) 0 0 A := by
  refine Met.ofW (cc := cX0_addFrom) (maxL := 3) (ret := none) (by decide) rfl ?_
  intro p e s m args below meth c s₁ B hml hv
  obtain ⟨rfl, hP, hK, hD, hN, hZ⟩ := hv
  have hx := B.exec
  have hb := B.bytes
  have hr := B.returns
  have hts := atoms_spec (ws := wsX0_addFrom) B.pre
  have hown : s.vm.findClass RX0 = some m.cls := findClass_of_methodNamed B.named
  have hlocks := B.notSynchronized
  have hS : va_S A s.heap s.heap [] := va_S.rf
  have hl := lv_entry ([.ref (ad 4), .ref (ad 2), .int (nI k)]) (n := 3) (Nat.le_of_ble_eq_true rfl)
  rw [lg_entry_eq]
  generalize (lg_sl ([.ref (ad 4), .ref (ad 2), .int (nI k)]) ++ List.replicate (3 - (lg_sl ([.ref (ad 4), .ref (ad 2), .int (nI k)])).length) Slot.unset).toArray = ls at hl ⊢
  have hl : lv_has ls 3 [(0, .ref (ad 4)), (1, .ref (ad 2)), (2, .int (nI k))] := hl
  have hz := hI.msize hk
  refine lv_aload_n hx hb dX0_addFrom_0 rfl (lv_at hl 0 rfl) ?_
  refine lv_aload_n hx hb dX0_addFrom_1 rfl (lv_at hl 1 rfl) ?_
  refine va_get (D := D) (ci := 0) (v := .ref (ad 10)) (C := RX0) (T := TX0) (N := 3) hx hb hts in_X0_addFrom_X0 hown hK hP 2 rfl rfl 0 (by decide) (hts _ lk_X0_addFrom_9) (fun _ h9 => h9) rfl dX0_addFrom_2 ?_
  refine lv_iload_n hx hb dX0_addFrom_5 rfl (lv_at hl 2 rfl) ?_
  refine lv_iconst (v := nI 3) hx hb dX0_addFrom_6 (by decide) ?_
  refine n_mul hx hb dX0_addFrom_7 ?_
  refine lv_aload_n hx hb dX0_addFrom_8 rfl (lv_at hl 1 rfl) ?_
  refine va_get (D := D) (ci := 0) (v := .ref (ad 11)) (C := RX0) (T := TX0) (N := 3) hx hb hts in_X0_addFrom_X0 hown hK hP 2 rfl rfl 1 (by decide) (hts _ lk_X0_addFrom_15) (fun _ h9 => h9) rfl dX0_addFrom_9 ?_
  refine lv_iload_n hx hb dX0_addFrom_12 rfl (lv_at hl 2 rfl) ?_
  refine n_ald hx hb hK hP 11 0 rfl rfl (i := k) (by omega) (by decide) (v := nI (σ 11 k)) rfl dX0_addFrom_13 ?_
  refine va_callv (va_runV (As := [.ref (ad 10), .int (nI (k * 3)), .int (nI (σ 11 k))]) (rest := []) ⟨hx, hb, hml, hown, hts⟩ (c_X0_add_asked l D cI A ad σ (k * 3) (σ 11 k) hI hc hz (by omega)) (cwV 3 hts gX0_addFrom_X0_add rfl rfl rfl (by decide +kernel) ⟨Nat.le_of_ble_eq_true rfl, Nat.le_of_ble_eq_true rfl⟩) ⟨Wc.blind, va_recv hK hP (ci := 0) (q0 := 4) rfl rfl, fun U hU hW => ⟨rfl, Wc.go hP hK hD hN hZ hS hU hW⟩⟩ rfl rfl hl.1 rfl (lv_room (Nat.le_of_ble_eq_true rfl)) dX0_addFrom_14 ⟨Nat.zero_le _, Nat.zero_le _⟩) hS (fun q _ h => h) (fun q h => h) (fun σ_1 t H1 locs ht hvm hwσ_1 hB hz1 hk1 hS => ?_)
  obtain ⟨hP, -, hD, -⟩ := hB
  rw [ht] at hP
  generalize H1 = H at hP hS ⊢
  have eσ_1 : σ_1 = addAF σ (k * 3) (σ 11 k) := hwσ_1
  exact W.vret hx hb hr (fun t ht hW => ⟨⟨_, rfl, (eσ_1), Wc.go hP hK hD hN hZ hS ht hW⟩, hS.F ht⟩) hS.2.2 dX0_addFrom_17
theorem in_X3_add_X3 : ∀ w ∈ wsX30, w ∈ wsX3_add := by decide +kernel
theorem lk_X3_add_24 : Cond.fieldLink RX3 24 "ArrayClaims$TermTable" "count" "I" ∈ wsX3_add := by decide +kernel
theorem lk_X3_add_9 : Cond.fieldLink RX3 9 "ArrayClaims$TermTable" "sorts" "[I" ∈ wsX3_add := by decide +kernel
theorem lk_X3_add_15 : Cond.fieldLink RX3 15 "ArrayClaims$TermTable" "arrays" "[I" ∈ wsX3_add := by decide +kernel
theorem lk_X3_add_18 : Cond.fieldLink RX3 18 "ArrayClaims$TermTable" "indices" "[I" ∈ wsX3_add := by decide +kernel
theorem lk_X3_add_21 : Cond.fieldLink RX3 21 "ArrayClaims$TermTable" "elements" "[I" ∈ wsX3_add := by decide +kernel
def rX3_add : Room := { frames := 0, cells := 0, slots := 0, locals := 0 }
set_option maxHeartbeats 4000000 in
set_option maxRecDepth 100000 in
theorem c_X3_add (l : Launch) (D : va_G) (cI : ClassId) (A : Nat → Prop) (ad : Nat → Nat) (σ : Nat → Nat → Nat) (q a i x : Nat) (hI : IC σ) (hc : σ 0 1 < 24) : Met l yX3_add wsX3_add rX3_add (va_Pc [.ref (ad 1), .int (nI q), .int (mI a), .int (mI i), .int (mI x)] (Wc D cI A ad σ)) (va_Qi (fun r u => r = nI (σ 0 1) ∧ u = addTF σ q a i x) (fun u t => Wc D cI A ad u t) A) 0 0 A := by
  refine Met.ofW (cc := cX3_add) (maxL := 5) (ret := (some .int)) (by decide) rfl ?_
  intro p e s m args below meth c s₁ B hml hv
  obtain ⟨rfl, hP, hK, hD, hN, hZ⟩ := hv
  have hx := B.exec
  have hb := B.bytes
  have hr := B.returns
  have hts := atoms_spec (ws := wsX3_add) B.pre
  have hown : s.vm.findClass RX3 = some m.cls := findClass_of_methodNamed B.named
  have hlocks := B.notSynchronized
  have hS : va_S A s.heap s.heap [] := va_S.rf
  have hl := lv_entry ([.ref (ad 1), .int (nI q), .int (mI a), .int (mI i), .int (mI x)]) (n := 5) (Nat.le_of_ble_eq_true rfl)
  rw [lg_entry_eq]
  generalize (lg_sl ([.ref (ad 1), .int (nI q), .int (mI a), .int (mI i), .int (mI x)]) ++ List.replicate (5 - (lg_sl ([.ref (ad 1), .int (nI q), .int (mI a), .int (mI i), .int (mI x)])).length) Slot.unset).toArray = ls at hl ⊢
  have hl : lv_has ls 5 [(0, .ref (ad 1)), (1, .int (nI q)), (2, .int (mI a)), (3, .int (mI i)), (4, .int (mI x))] := hl
  refine lv_aload_n hx hb dX3_add_0 rfl (lv_at hl 0 rfl) ?_
  refine va_get (D := D) (ci := 2) (v := .int (nI (σ 0 1))) (C := RX3) (T := TX3) (N := 5) hx hb hts in_X3_add_X3 hown hK hP 1 rfl rfl 4 (by decide) (hts _ lk_X3_add_24) (fun _ h9 => h9) rfl dX3_add_1 ?_
  refine lv_bipush (v := nI 24) hx hb dX3_add_4 (by decide) ?_
  refine n_icmp_lt hx hb (tgt := 11) (by omega) (by omega) dX3_add_6 (by decide) (fun c_6 => ?_) (fun c_6 => ?_)
  · refine lv_aload_n hx hb dX3_add_11 rfl (lv_at hl 0 rfl) ?_
    refine va_get (D := D) (ci := 2) (v := .ref (ad 6)) (C := RX3) (T := TX3) (N := 5) hx hb hts in_X3_add_X3 hown hK hP 1 rfl rfl 0 (by decide) (hts _ lk_X3_add_9) (fun _ h9 => h9) rfl dX3_add_12 ?_
    refine lv_aload_n hx hb dX3_add_15 rfl (lv_at hl 0 rfl) ?_
    refine va_get (D := D) (ci := 2) (v := .int (nI (σ 0 1))) (C := RX3) (T := TX3) (N := 5) hx hb hts in_X3_add_X3 hown hK hP 1 rfl rfl 4 (by decide) (hts _ lk_X3_add_24) (fun _ h9 => h9) rfl dX3_add_16 ?_
    refine lv_iload_n hx hb dX3_add_19 rfl (lv_at hl 1 rfl) ?_
    refine n_ast (ws' := WC ad cI (sU σ 6 (σ 0 1) q)) hx hb hK hP hD hS 6 0 rfl rfl (i := σ 0 1) (by omega) (by decide) (WCs6 ..) dX3_add_20 (fun H locs hP hD hS => ?_)
    refine lv_aload_n hx hb dX3_add_21 rfl (lv_at hl 0 rfl) ?_
    refine va_get (D := D) (ci := 2) (v := .ref (ad 7)) (C := RX3) (T := TX3) (N := 5) hx hb hts in_X3_add_X3 hown hK hP 1 rfl rfl 1 (by decide) (hts _ lk_X3_add_15) (fun _ h9 => h9) rfl dX3_add_22 ?_
    refine lv_aload_n hx hb dX3_add_25 rfl (lv_at hl 0 rfl) ?_
    refine va_get (D := D) (ci := 2) (v := .int (nI (σ 0 1))) (C := RX3) (T := TX3) (N := 5) hx hb hts in_X3_add_X3 hown hK hP 1 rfl rfl 4 (by decide) (hts _ lk_X3_add_24) (fun _ h9 => h9) rfl dX3_add_26 ?_
    refine lv_iload_n hx hb dX3_add_29 rfl (lv_at hl 2 rfl) ?_
    refine n_ast (ws' := WC ad cI (sU (sU σ 6 (σ 0 1) q) 7 (σ 0 1) a)) hx hb hK hP hD hS 7 0 rfl rfl (i := σ 0 1) (by omega) (by decide) (WCs7 ..) dX3_add_30 (fun H locs hP hD hS => ?_)
    refine lv_aload_n hx hb dX3_add_31 rfl (lv_at hl 0 rfl) ?_
    refine va_get (D := D) (ci := 2) (v := .ref (ad 8)) (C := RX3) (T := TX3) (N := 5) hx hb hts in_X3_add_X3 hown hK hP 1 rfl rfl 2 (by decide) (hts _ lk_X3_add_18) (fun _ h9 => h9) rfl dX3_add_32 ?_
    refine lv_aload_n hx hb dX3_add_35 rfl (lv_at hl 0 rfl) ?_
    refine va_get (D := D) (ci := 2) (v := .int (nI (σ 0 1))) (C := RX3) (T := TX3) (N := 5) hx hb hts in_X3_add_X3 hown hK hP 1 rfl rfl 4 (by decide) (hts _ lk_X3_add_24) (fun _ h9 => h9) rfl dX3_add_36 ?_
    refine lv_iload_n hx hb dX3_add_39 rfl (lv_at hl 3 rfl) ?_
    refine n_ast (ws' := WC ad cI (sU (sU (sU σ 6 (σ 0 1) q) 7 (σ 0 1) a) 8 (σ 0 1) i)) hx hb hK hP hD hS 8 0 rfl rfl (i := σ 0 1) (by omega) (by decide) (WCs8 ..) dX3_add_40 (fun H locs hP hD hS => ?_)
    refine lv_aload_n hx hb dX3_add_41 rfl (lv_at hl 0 rfl) ?_
    refine va_get (D := D) (ci := 2) (v := .ref (ad 9)) (C := RX3) (T := TX3) (N := 5) hx hb hts in_X3_add_X3 hown hK hP 1 rfl rfl 3 (by decide) (hts _ lk_X3_add_21) (fun _ h9 => h9) rfl dX3_add_42 ?_
    refine lv_aload_n hx hb dX3_add_45 rfl (lv_at hl 0 rfl) ?_
    refine va_get (D := D) (ci := 2) (v := .int (nI (σ 0 1))) (C := RX3) (T := TX3) (N := 5) hx hb hts in_X3_add_X3 hown hK hP 1 rfl rfl 4 (by decide) (hts _ lk_X3_add_24) (fun _ h9 => h9) rfl dX3_add_46 ?_
    refine lv_iload hx hb dX3_add_49 (lv_at hl 4 rfl) ?_
    refine n_ast (ws' := WC ad cI (sU (sU (sU (sU σ 6 (σ 0 1) q) 7 (σ 0 1) a) 8 (σ 0 1) i) 9 (σ 0 1) x)) hx hb hK hP hD hS 9 0 rfl rfl (i := σ 0 1) (by omega) (by decide) (WCs9 ..) dX3_add_51 (fun H locs hP hD hS => ?_)
    refine lv_aload_n hx hb dX3_add_52 rfl (lv_at hl 0 rfl) ?_
    refine lv_dup hx hb dX3_add_53 rfl ?_
    refine va_get (D := D) (ci := 2) (v := .int (nI (σ 0 1))) (C := RX3) (T := TX3) (N := 5) hx hb hts in_X3_add_X3 hown hK hP 1 rfl rfl 4 (by decide) (hts _ lk_X3_add_24) (fun _ h9 => h9) rfl dX3_add_54 ?_
    refine lv_iconst (v := nI 1) hx hb dX3_add_57 (by decide) ?_
    refine n_add hx hb dX3_add_58 ?_
    refine va_put (D := D) (ci := 2) (v := .int (nI ((σ 0 1) + 1))) (ty := .int) (C := RX3) (T := TX3) (N := 5) hx hb hts in_X3_add_X3 tyX3 tyX3_ok nmX3 hown hK hP hD hS 1 rfl rfl 4 (by decide) (hts _ lk_X3_add_24) (fun _ h9 => h9) rfl (by decide +kernel) rfl rfl (Nat.le_of_ble_eq_true rfl) dX3_add_59 (fun H locs hP hD hS => ?_)
    have hP : va_P D vwCl (WC ad cI (sU (sU (sU (sU (sU σ 6 (σ 0 1) q) 7 (σ 0 1) a) 8 (σ 0 1) i) 9 (σ 0 1) x) 0 1 ((σ 0 1) + 1))) H := hP
    have hD : va_D A (WC ad cI (sU (sU (sU (sU (sU σ 6 (σ 0 1) q) 7 (σ 0 1) a) 8 (σ 0 1) i) 9 (σ 0 1) x) 0 1 ((σ 0 1) + 1))) := hD
    refine lv_aload_n hx hb dX3_add_62 rfl (lv_at hl 0 rfl) ?_
    refine va_get (D := D) (ci := 2) (v := .int (nI ((σ 0 1) + 1))) (C := RX3) (T := TX3) (N := 5) hx hb hts in_X3_add_X3 hown hK hP 1 rfl rfl 4 (by decide) (hts _ lk_X3_add_24) (fun _ h9 => h9) rfl dX3_add_63 ?_
    refine lv_iconst (v := nI 1) hx hb dX3_add_66 (by decide) ?_
    refine n_sub hx hb (by omega) dX3_add_67 ?_
    exact W.iret (v := nI (((σ 0 1) + 1) - 1)) hx hb hr (fun t ht hW => ⟨⟨_, (sU (sU (sU (sU (sU σ 6 (σ 0 1) q) 7 (σ 0 1) a) 8 (σ 0 1) i) 9 (σ 0 1) x) 0 1 ((σ 0 1) + 1)), rfl, (⟨by rw [Nat.add_sub_cancel], rfl⟩), Wc.go hP hK hD hN hZ hS ht hW⟩, hS.F ht⟩) hS.2.2 dX3_add_68
  · omega
end
section
/-! SPELLING OUT: what 'parts' is, by equations -/
theorem mI_pos {v : Nat} (h : 1 ≤ v) : mI v = nI (v - 1) := by
  obtain ⟨k, rfl⟩ : ∃ k, v = k + 1 := ⟨v - 1, by omega⟩
  rw [mI_succ]; rfl
theorem lowF_le (j : Nat) : lowF j ≤ 2 := by
  by_cases h : j < 15
  · revert j; decide +kernel
  · have hl : lowT.length = 15 := rfl
    unfold lowF
    rw [List.getD_eq_getElem?_getD, List.getElem?_eq_none (by omega)]
    exact Nat.zero_le _
def lpF (w pl : Nat) : Nat := if pl = 3 then 3 else lowF (w * 3 + pl)
def PN (w : Nat) (P : Nat → Nat) : Prop := (∀ t, t < 3 → P (t * 4) = lowF (w * 3 + t)) ∧ (∀ k, k < 2 → P ((3 + k) * 4) = k) ∧ (∀ k, k < 2 → ∀ j, j < 4 → P ((5 + k) * 4 + j) = 2 + k * 4 + lpF w j)
def sv (σ : Nat → Nat → Nat) (w : Nat) (P : Nat → Nat) (t j : Nat) : Nat := if j ≠ 3 ∧ lowF (w * 3 + j) = lowF (w * 3 + (σ 8 t - 1)) then P ((σ 9 t - 1) * 4) else P ((σ 7 t - 1) * 4 + j)
def PT (σ : Nat → Nat → Nat) (w : Nat) (P : Nat → Nat) (t : Nat) : Prop := (σ 6 t = 1 → P (t * 4) = P ((σ 7 t - 1) * 4 + lowF (w * 3 + (σ 8 t - 1)))) ∧ (σ 6 t ≠ 1 → ∀ j, j < 4 → P (t * 4 + j) = sv σ w P t j)
theorem PN_keep {w : Nat} {P P' : Nat → Nat} (h : PN w P) (hk : ∀ j, j < 28 → P' j = P j) : PN w P' := by
  refine ⟨fun t ht => ?_, fun k hk2 => ?_, fun k hk2 j hj => ?_⟩
  · rw [hk _ (by omega)]; exact h.1 t ht
  · rw [hk _ (by omega)]; exact h.2.1 k hk2
  · rw [hk _ (by omega)]; exact h.2.2 k hk2 j hj
theorem sv_keep {σ : Nat → Nat → Nat} {w t i : Nat} {P P' : Nat → Nat} (hI : IC σ) (h7 : 7 ≤ t) (ht : t < σ 0 1) (hs : σ 6 t ≠ 1) (hi : i < 4) (hk : ∀ j, j < t * 4 → P' j = P j) : sv σ w P' t i = sv σ w P t i := by
  have hm := hI.made h7 ht
  unfold sv
  rw [hk _ (by omega), hk _ (by omega)]
theorem PT_keep {σ : Nat → Nat → Nat} {w t : Nat} {P P' : Nat → Nat} (hI : IC σ) (h7 : 7 ≤ t) (ht : t < σ 0 1) (hk : ∀ j, j < t * 4 + 4 → P' j = P j) (h : PT σ w P t) : PT σ w P' t := by
  have hm := hI.made h7 ht
  have hl := lowF_le (w * 3 + (σ 8 t - 1))
  refine ⟨fun h1 => ?_, fun h1 j hj => ?_⟩
  · rw [hk _ (by omega), hk _ (by omega)]; exact h.1 h1
  · rw [hk _ (by omega), sv_keep hI h7 ht h1 hj (fun j hj => hk j (by omega))]; exact h.2 h1 j hj
theorem h4_step {σ S : Nat → Nat → Nat} {w t j v : Nat} (hI : IC σ) (h7 : 7 ≤ t) (ht : t < σ 0 1) (hs : σ 6 t ≠ 1) (hj : j < 4) (hv : v = sv σ w (S 14) t j) (h4 : ∀ i, i < j → S 14 (t * 4 + i) = sv σ w (S 14) t i) : ∀ i, i < j + 1 → (sU S 14 (t * 4 + j) v) 14 (t * 4 + i) = sv σ w ((sU S 14 (t * 4 + j) v) 14) t i := by
  intro i hi
  have hk : ∀ z, z < t * 4 → (sU S 14 (t * 4 + j) v) 14 z = S 14 z := fun z hz => by rw [sU_at, if_neg (by omega)]
  rw [sv_keep hI h7 ht hs (by omega) hk, sU_at]
  split
  · obtain rfl : i = j := by omega
    exact hv
  · exact h4 i (by omega)
theorem hO_step {σ S : Nat → Nat → Nat} {k i v : Nat} (h : ∀ r, r ≠ k → S r = σ r) : ∀ r, r ≠ k → (sU S k i v) r = σ r := fun r hr => by rw [sU_ne _ _ _ hr]; exact h r hr
theorem hB_step {S : Nat → Nat → Nat} {k i v N b : Nat} (hv : v < b) (h : ∀ j, j < N → S k j < b) : ∀ j, j < N → (sU S k i v) k j < b := fun j hj => by
  rw [sU_at]; split
  · exact hv
  · exact h j hj
theorem sU_lo {S : Nat → Nat → Nat} {k i v N : Nat} (h : N ≤ i) : ∀ j, j < N → (sU S k i v) k j = S k j := fun j hj => by rw [sU_at, if_neg (by omega)]
/-- the search, as a function -/
def scF (σ : Nat → Nat → Nat) : Nat → Nat → Option Nat
  | 0, un => some un
  | n + 1, un => if holdF σ n (σ 13 n) 0 0 = 0 then none else if holdF σ n (σ 13 n) 0 0 = 2 then scF σ n (n + 1) else scF σ n un
def anyF (P : Nat → Bool) : Nat → Nat → Bool
  | 0, _ => false
  | n + 1, el => if P el = true then true else anyF P n (el + 1)
def frF (sp : Nat) : Nat := if sp - 1 = 9 then 0 else 2
def toF (sp f : Nat) : Nat := if sp - 1 = 9 then 1 else f
def cmpF : Nat → (Nat → Nat → Nat) → Nat → Bool
  | 0, _, _ => false
  | d + 1, σ, f => match scF σ (σ 0 4) 0 with
    | none => false
    | some 0 => true
    | some (c + 1) => if osF σ c (σ 13 c) 0 = 0 then false else anyF (fun el => cmpF d (sU σ 15 (osF σ c (σ 13 c) 0 - 1) (el + 1)) (if el = f then f + 1 else f)) (toF (osF σ c (σ 13 c) 0) f + 1 - frF (osF σ c (σ 13 c) 0)) (frF (osF σ c (σ 13 c) 0))
theorem cmpF_none {d : Nat} {σ : Nat → Nat → Nat} {f : Nat} (h : scF σ (σ 0 4) 0 = none) : cmpF (d + 1) σ f = false := by rw [cmpF, h]
theorem cmpF_zero {d : Nat} {σ : Nat → Nat → Nat} {f : Nat} (h : scF σ (σ 0 4) 0 = some 0) : cmpF (d + 1) σ f = true := by rw [cmpF, h]
theorem cmpF_some {d : Nat} {σ : Nat → Nat → Nat} {f c : Nat} (h : scF σ (σ 0 4) 0 = some (c + 1)) : cmpF (d + 1) σ f = if osF σ c (σ 13 c) 0 = 0 then false else anyF (fun el => cmpF d (sU σ 15 (osF σ c (σ 13 c) 0 - 1) (el + 1)) (if el = f then f + 1 else f)) (toF (osF σ c (σ 13 c) 0) f + 1 - frF (osF σ c (σ 13 c) 0)) (frF (osF σ c (σ 13 c) 0)) := by rw [cmpF, h]
def opn (σ : Nat → Nat → Nat) : Nat := (if σ 15 0 = 0 then 1 else 0) + (if σ 15 1 = 0 then 1 else 0) + (if σ 15 2 = 0 then 1 else 0) + (if σ 15 3 = 0 then 1 else 0) + (if σ 15 4 = 0 then 1 else 0) + (if σ 15 5 = 0 then 1 else 0) + (if σ 15 6 = 0 then 1 else 0) + (if σ 15 7 = 0 then 1 else 0) + (if σ 15 8 = 0 then 1 else 0) + (if σ 15 9 = 0 then 1 else 0)
theorem opn_set {σ : Nat → Nat → Nat} {i v : Nat} (hi : i < 10) (h0 : σ 15 i = 0) (hv : v ≠ 0) : opn (sU σ 15 i v) + 1 = opn σ := by
  rcases (show i = 0 ∨ i = 1 ∨ i = 2 ∨ i = 3 ∨ i = 4 ∨ i = 5 ∨ i = 6 ∨ i = 7 ∨ i = 8 ∨ i = 9 by omega) with rfl | rfl | rfl | rfl | rfl | rfl | rfl | rfl | rfl | rfl <;> simp [opn, sU_at, h0, hv] <;> omega
theorem IC.set15 {σ : Nat → Nat → Nat} {i v : Nat} (hI : IC σ) (hv : v ≤ 20) : IC (sU σ 15 i v) := by
  obtain ⟨h1, h2, h3, h4, h5, h6, h7, h8, h9, h10, h11, h12, h13, h14⟩ := hI
  refine ⟨h1, h2, h3, h4, h5, h6, h7, h8, h9, h10, h11, h12, h13, fun j hj => ?_⟩
  rw [sU_at]; split
  · exact hv
  · exact h14 j hj
theorem osoF_open {σ : Nat → Nat → Nat} {q t u : Nat} (hI : IC σ) (ht : t < 24) (hu : u < 24) : ∀ n j, j + n ≤ 4 → osoF σ q t u n j ≠ 0 → osoF σ q t u n j - 1 < 10 ∧ σ 15 (osoF σ q t u n j - 1) = 0
  | 0, _, _ => fun h => absurd rfl h
  | n + 1, j, hj => by
    unfold osoF
    have hx := hI.parts (j := t * 4 + j) (by omega)
    have hy := hI.parts (j := u * 4 + j) (by omega)
    split
    · rename_i h2
      split
      · rename_i h0
        intro _
        exact ⟨by omega, by rw [Nat.add_sub_cancel]; exact h0⟩
      · rename_i h0
        intro _
        refine ⟨by omega, ?_⟩
        rw [Nat.add_sub_cancel]
        unfold plF at h2
        repeat' split at h2
        all_goals first | omega | assumption
    · exact osoF_open hI ht hu n (j + 1) (by omega)
theorem osF_open {σ : Nat → Nat → Nat} {cl : Nat} (hI : IC σ) : ∀ n k, cl * 3 + k + n ≤ 33 → osF σ cl n k ≠ 0 → osF σ cl n k - 1 < 10 ∧ σ 15 (osF σ cl n k - 1) = 0
  | 0, _, _ => fun h => absurd rfl h
  | n + 1, k, hk => by
    have hl := hI.alit (j := cl * 3 + k) (by omega)
    unfold osF
    split
    · refine osoF_open hI hl.2.1 hl.2.2 _ _ ?_
      unfold widF; split <;> omega
    · exact osF_open hI n (k + 1) (by omega)
theorem sU_sU (σ : Nat → Nat → Nat) (k i a b : Nat) : sU (sU σ k i a) k i b = sU σ k i b := by
  funext r
  by_cases h : r = k
  · subst h
    funext j
    rw [sU_at, sU_at, sU_at]
    split <;> rfl
  · rw [sU_ne _ _ _ h, sU_ne _ _ _ h, sU_ne _ _ _ h]
theorem sU_id {σ : Nat → Nat → Nat} {k i v : Nat} (h : σ k i = v) : sU σ k i v = σ := by
  funext r
  by_cases h2 : r = k
  · subst h2
    funext j
    rw [sU_at]
    split
    · rename_i h3; rw [h3, h]
    · rfl
  · rw [sU_ne _ _ _ h2]
theorem in_X2_spellOutNames_X2 : ∀ w ∈ wsX20, w ∈ wsX2_spellOutNames := by decide +kernel
theorem lk_X2_spellOutNames_11 : Cond.fieldLink RX2 11 "ArrayClaims$ReadingSearch" "parts" "[I" ∈ wsX2_spellOutNames := by decide +kernel
def rX2_spellOutNames : Room := { frames := 1, cells := 0, slots := 0, locals := 21 }
set_option maxHeartbeats 4000000 in
set_option maxRecDepth 100000 in
theorem c_X2_spellOutNames (l : Launch) (D : va_G) (cI : ClassId) (A : Nat → Prop) (ad : Nat → Nat) (σ : Nat → Nat → Nat) (w : Nat) (hI : IC σ) (hw5 : w < 5) : Met l yX2_spellOutNames wsX2_spellOutNames rX2_spellOutNames (va_Pc [.ref (ad 5), .int (nI w)] (Wc D cI A ad σ)) (va_Qv (fun u => (∀ r, r ≠ 14 → u r = σ r) ∧ (∀ j, j < 96 → u 14 j < 10) ∧ PN w (u 14)) (fun u t => Wc D cI A ad u t) A) 0 0 A := by
  refine Met.ofW (cc := cX2_spellOutNames) (maxL := 6) (ret := none) (by decide) rfl ?_
  intro p e s m args below meth c s₁ B hml hv
  obtain ⟨rfl, hP, hK, hD, hN, hZ⟩ := hv
  have hx := B.exec
  have hb := B.bytes
  have hr := B.returns
  have hts := atoms_spec (ws := wsX2_spellOutNames) B.pre
  have hown : s.vm.findClass RX2 = some m.cls := findClass_of_methodNamed B.named
  have hlocks := B.notSynchronized
  have hS : va_S A s.heap s.heap [] := va_S.rf
  have hl := lv_entry ([.ref (ad 5), .int (nI w)]) (n := 6) (Nat.le_of_ble_eq_true rfl)
  rw [lg_entry_eq]
  generalize (lg_sl ([.ref (ad 5), .int (nI w)]) ++ List.replicate (6 - (lg_sl ([.ref (ad 5), .int (nI w)])).length) Slot.unset).toArray = ls at hl ⊢
  have hl : lv_has ls 6 [(0, .ref (ad 5)), (1, .int (nI w))] := hl
  refine lv_iconst (v := nI 0) hx hb dX2_spellOutNames_0 (by decide) ?_
  refine lv_istore_n (lv' := [(2, .int (nI 0)), (0, .ref (ad 5)), (1, .int (nI w))]) hx hb dX2_spellOutNames_1 rfl hl (by decide) rfl (fun ls hl => ?_)
  have lp2 : ∀ (n : Nat) (t : Nat) (σ_1 : Nat → Nat → Nat) (H : Heap) (locs : List Loc) (ls : Array Slot), (t + n = 3) → (∀ r, r ≠ 14 → σ_1 r = σ r) → (∀ j, j < 96 → σ_1 14 j < 10) → (∀ t1, t1 < t → σ_1 14 (t1 * 4) = lowF (w * 3 + t1)) → va_P D vwCl (WC ad cI σ_1) H → va_D A (WC ad cI σ_1) → va_S A s.heap H locs → lv_has ls 6 [(2, .int (nI t)), (0, .ref (ad 5)), (1, .int (nI w))] → W p l e rX2_spellOutNames s m (([.ref (ad 5), .int (nI w)] : List Value).toArray) below meth c H locs 0 0 (MQ below (va_Qv (fun u => (∀ r, r ≠ 14 → u r = σ r) ∧ (∀ j, j < 96 → u 14 j < 10) ∧ PN w (u 14)) (fun u t => Wc D cI A ad u t) A) (([.ref (ad 5), .int (nI w)] : List Value).toArray) s 0 0 A) (F0 m 2 ls []) := by
    intro n
    induction n with
    | zero =>
      intro t σ_1 H locs ls hF1 hO hB h1 hP hD hS hl
      obtain rfl : t = 3 := by omega
      refine lv_iload_n hx hb dX2_spellOutNames_2 rfl (lv_at hl 0 rfl) ?_
      refine lv_iconst (v := nI 3) hx hb dX2_spellOutNames_3 (by decide) ?_
      refine n_icmp_ge hx hb (tgt := 26) (by omega) (by omega) dX2_spellOutNames_4 (by decide) (fun c_4 => ?_) (fun c_4 => ?_)
      · refine lv_iconst (v := nI 0) hx hb dX2_spellOutNames_26 (by decide) ?_
        refine lv_istore_n (lv' := [(2, .int (nI 0)), (0, .ref (ad 5)), (1, .int (nI w))]) hx hb dX2_spellOutNames_27 rfl hl (by decide) rfl (fun ls hl => ?_)
        have lp28 : ∀ (n : Nat) (k : Nat) (σ_2 : Nat → Nat → Nat) (H : Heap) (locs : List Loc) (ls : Array Slot), (k + n = 2) → (∀ r, r ≠ 14 → σ_2 r = σ r) → (∀ j, j < 96 → σ_2 14 j < 10) → (∀ t1, t1 < 3 → σ_2 14 (t1 * 4) = lowF (w * 3 + t1)) → (∀ k1, k1 < k → σ_2 14 ((3 + k1) * 4) = k1) → va_P D vwCl (WC ad cI σ_2) H → va_D A (WC ad cI σ_2) → va_S A s.heap H locs → lv_has ls 6 [(2, .int (nI k)), (0, .ref (ad 5)), (1, .int (nI w))] → W p l e rX2_spellOutNames s m (([.ref (ad 5), .int (nI w)] : List Value).toArray) below meth c H locs 0 0 (MQ below (va_Qv (fun u => (∀ r, r ≠ 14 → u r = σ r) ∧ (∀ j, j < 96 → u 14 j < 10) ∧ PN w (u 14)) (fun u t => Wc D cI A ad u t) A) (([.ref (ad 5), .int (nI w)] : List Value).toArray) s 0 0 A) (F0 m 28 ls []) := by
          intro n
          induction n with
          | zero =>
            intro k σ_2 H locs ls hF1 hO hB h1 h2 hP hD hS hl
            obtain rfl : k = 2 := by omega
            refine lv_iload_n hx hb dX2_spellOutNames_28 rfl (lv_at hl 0 rfl) ?_
            refine lv_iconst (v := nI 2) hx hb dX2_spellOutNames_29 (by decide) ?_
            refine n_icmp_ge hx hb (tgt := 50) (by omega) (by omega) dX2_spellOutNames_30 (by decide) (fun c_30 => ?_) (fun c_30 => ?_)
            · refine lv_iconst (v := nI 0) hx hb dX2_spellOutNames_50 (by decide) ?_
              refine lv_istore_n (lv' := [(2, .int (nI 0)), (0, .ref (ad 5)), (1, .int (nI w))]) hx hb dX2_spellOutNames_51 rfl hl (by decide) rfl (fun ls hl => ?_)
              have lp52 : ∀ (n : Nat) (k : Nat) (σ_3 : Nat → Nat → Nat) (H : Heap) (locs : List Loc) (ls : Array Slot), (k + n = 2) → (∀ r, r ≠ 14 → σ_3 r = σ r) → (∀ j, j < 96 → σ_3 14 j < 10) → (∀ t1, t1 < 3 → σ_3 14 (t1 * 4) = lowF (w * 3 + t1)) → (∀ k1, k1 < 2 → σ_3 14 ((3 + k1) * 4) = k1) → (∀ k1, k1 < k → ∀ j, j < 4 → σ_3 14 ((5 + k1) * 4 + j) = 2 + k1 * 4 + lpF w j) → va_P D vwCl (WC ad cI σ_3) H → va_D A (WC ad cI σ_3) → va_S A s.heap H locs → lv_has ls 6 [(2, .int (nI k)), (0, .ref (ad 5)), (1, .int (nI w))] → W p l e rX2_spellOutNames s m (([.ref (ad 5), .int (nI w)] : List Value).toArray) below meth c H locs 0 0 (MQ below (va_Qv (fun u => (∀ r, r ≠ 14 → u r = σ r) ∧ (∀ j, j < 96 → u 14 j < 10) ∧ PN w (u 14)) (fun u t => Wc D cI A ad u t) A) (([.ref (ad 5), .int (nI w)] : List Value).toArray) s 0 0 A) (F0 m 52 ls []) := by
                intro n
                induction n with
                | zero =>
                  intro k σ_3 H locs ls hF1 hO hB h1 h2 h3 hP hD hS hl
                  obtain rfl : k = 2 := by omega
                  refine lv_iload_n hx hb dX2_spellOutNames_52 rfl (lv_at hl 0 rfl) ?_
                  refine lv_iconst (v := nI 2) hx hb dX2_spellOutNames_53 (by decide) ?_
                  refine n_icmp_ge hx hb (tgt := 119) (by omega) (by omega) dX2_spellOutNames_54 (by decide) (fun c_54 => ?_) (fun c_54 => ?_)
                  · exact W.vret hx hb hr (fun t ht hW => ⟨⟨_, rfl, (⟨hO, hB, h1, h2, h3⟩), Wc.go hP hK hD hN hZ hS ht hW⟩, hS.F ht⟩) hS.2.2 dX2_spellOutNames_119
                  · omega
                | succ n ih52 =>
                  intro k σ_3 H locs ls hF1 hO hB h1 h2 h3 hP hD hS hl
                  refine lv_iload_n hx hb dX2_spellOutNames_52 rfl (lv_at hl 0 rfl) ?_
                  refine lv_iconst (v := nI 2) hx hb dX2_spellOutNames_53 (by decide) ?_
                  refine n_icmp_ge hx hb (tgt := 119) (by omega) (by omega) dX2_spellOutNames_54 (by decide) (fun c_54 => ?_) (fun c_54 => ?_)
                  · omega
                  · refine lv_iconst (v := nI 2) hx hb dX2_spellOutNames_57 (by decide) ?_
                    refine lv_iload_n hx hb dX2_spellOutNames_58 rfl (lv_at hl 0 rfl) ?_
                    refine lv_iconst (v := nI 4) hx hb dX2_spellOutNames_59 (by decide) ?_
                    refine n_mul hx hb dX2_spellOutNames_60 ?_
                    refine n_add hx hb dX2_spellOutNames_61 ?_
                    refine lv_istore_n (lv' := [(3, .int (nI (2 + (k * 4)))), (2, .int (nI k)), (0, .ref (ad 5)), (1, .int (nI w))]) hx hb dX2_spellOutNames_62 rfl hl (by decide) rfl (fun ls hl => ?_)
                    refine lv_iconst (v := nI 0) hx hb dX2_spellOutNames_63 (by decide) ?_
                    refine lv_istore (lv' := [(4, .int (nI 0)), (3, .int (nI (2 + (k * 4)))), (2, .int (nI k)), (0, .ref (ad 5)), (1, .int (nI w))]) hx hb dX2_spellOutNames_64 hl (by decide) rfl (fun ls hl => ?_)
                    have lp66 : ∀ (n : Nat) (j : Nat) (σ_4 : Nat → Nat → Nat) (H : Heap) (locs : List Loc) (ls : Array Slot), (j + n = 4) → (∀ r, r ≠ 14 → σ_4 r = σ r) → (∀ j, j < 96 → σ_4 14 j < 10) → (∀ t1, t1 < 3 → σ_4 14 (t1 * 4) = lowF (w * 3 + t1)) → (∀ k1, k1 < 2 → σ_4 14 ((3 + k1) * 4) = k1) → (∀ k1, k1 < k → ∀ j, j < 4 → σ_4 14 ((5 + k1) * 4 + j) = 2 + k1 * 4 + lpF w j) → (∀ j1, j1 < j → σ_4 14 ((5 + k) * 4 + j1) = 2 + k * 4 + lpF w j1) → va_P D vwCl (WC ad cI σ_4) H → va_D A (WC ad cI σ_4) → va_S A s.heap H locs → lv_has ls 6 [(4, .int (nI j)), (3, .int (nI (2 + (k * 4)))), (2, .int (nI k)), (0, .ref (ad 5)), (1, .int (nI w))] → W p l e rX2_spellOutNames s m (([.ref (ad 5), .int (nI w)] : List Value).toArray) below meth c H locs 0 0 (MQ below (va_Qv (fun u => (∀ r, r ≠ 14 → u r = σ r) ∧ (∀ j, j < 96 → u 14 j < 10) ∧ PN w (u 14)) (fun u t => Wc D cI A ad u t) A) (([.ref (ad 5), .int (nI w)] : List Value).toArray) s 0 0 A) (F0 m 66 ls []) := by
                      intro n
                      induction n with
                      | zero =>
                        intro j σ_4 H locs ls hF2 hO hB h1 h2 h3 h4 hP hD hS hl
                        refine lv_iload hx hb dX2_spellOutNames_66 (lv_at hl 0 rfl) ?_
                        refine lv_iconst (v := nI 4) hx hb dX2_spellOutNames_68 (by decide) ?_
                        refine n_icmp_ge hx hb (tgt := 113) (by omega) (by omega) dX2_spellOutNames_69 (by decide) (fun c_69 => ?_) (fun c_69 => ?_)
                        · refine lv_iinc (v := nI (k + 1)) (lv' := [(2, .int (nI (k + 1))), (4, .int (nI j)), (3, .int (nI (2 + (k * 4)))), (0, .ref (ad 5)), (1, .int (nI w))]) hx hb dX2_spellOutNames_113 hl (k := 2) rfl (nI_add _ _) (by decide) rfl (fun ls hl => ?_)
                          refine lv_goto (tgt := 52) hx hb dX2_spellOutNames_116 (by decide) ?_
                          exact ih52 (k + 1)  _ _ _ _  (by omega) (hO) (hB) (h1) (h2) (fun k1 hk1 j1 hj1 => by rcases Nat.lt_or_ge k1 k with q | q; exact h3 k1 q j1 hj1; (obtain rfl : k1 = k := by omega); exact h4 j1 (by omega)) hP hD hS (lv_sub hl [0, 3, 4] rfl)
                        · omega
                      | succ n ih66 =>
                        intro j σ_4 H locs ls hF2 hO hB h1 h2 h3 h4 hP hD hS hl
                        have hlw := lowF_le (w * 3 + j)
                        have hlp : lpF w j = if j = 3 then 3 else lowF (w * 3 + j) := rfl
                        refine lv_iload hx hb dX2_spellOutNames_66 (lv_at hl 0 rfl) ?_
                        refine lv_iconst (v := nI 4) hx hb dX2_spellOutNames_68 (by decide) ?_
                        refine n_icmp_ge hx hb (tgt := 113) (by omega) (by omega) dX2_spellOutNames_69 (by decide) (fun c_69 => ?_) (fun c_69 => ?_)
                        · omega
                        · refine lv_iload hx hb dX2_spellOutNames_72 (lv_at hl 0 rfl) ?_
                          refine lv_iconst (v := nI 3) hx hb dX2_spellOutNames_74 (by decide) ?_
                          refine q_icmp_ne hx hb (tgt := 82) (nI_eq (by omega) (by omega)) dX2_spellOutNames_75 (by decide) (fun c_75 => ?_) (fun c_75 => ?_)
                          · refine lv_iload_n hx hb dX2_spellOutNames_82 rfl (lv_at hl 4 rfl) ?_
                            refine lv_iload hx hb dX2_spellOutNames_83 (lv_at hl 0 rfl) ?_
                            refine vp_callSi (va_Run.run (va_runS (As := [.int (nI w), .int (nI j)]) (rest := []) ⟨hx, hb, hml, hown, hts⟩ (c_X2_lowest l D cI A ad σ_4 w (j) (by omega)) (va_cwS 2 hts gX2_spellOutNames_X2_lowest rfl rfl rfl (by decide +kernel) ⟨Nat.le_of_ble_eq_true rfl, Nat.le_of_ble_eq_true rfl⟩) ⟨Wc.blind, fun U hU hW => ⟨rfl, Wc.go hP hK hD hN hZ hS hU hW⟩⟩ rfl rfl hl.1 rfl (lv_room (Nat.le_of_ble_eq_true rfl)) dX2_spellOutNames_85 ⟨Nat.zero_le _, Nat.zero_le _⟩)) (fun r_5 hr_5 => ?_)
                            refine n_to (w := nI (lowF (w * 3 + j))) (hr_5.trans rfl) ?_
                            refine lv_istore (lv' := [(5, .int (nI (lowF (w * 3 + j)))), (4, .int (nI j)), (3, .int (nI (2 + (k * 4)))), (2, .int (nI k)), (0, .ref (ad 5)), (1, .int (nI w))]) hx hb dX2_spellOutNames_88 hl (by decide) rfl (fun ls hl => ?_)
                            refine lv_aload_n hx hb dX2_spellOutNames_90 rfl (lv_at hl 4 rfl) ?_
                            refine va_get (D := D) (ci := 1) (v := .ref (ad 14)) (C := RX2) (T := TX2) (N := 2) hx hb hts in_X2_spellOutNames_X2 hown hK hP 5 rfl rfl 0 (by decide) (hts _ lk_X2_spellOutNames_11) (fun _ h9 => h9) rfl dX2_spellOutNames_91 ?_
                            refine lv_iconst (v := nI 5) hx hb dX2_spellOutNames_94 (by decide) ?_
                            refine lv_iload_n hx hb dX2_spellOutNames_95 rfl (lv_at hl 3 rfl) ?_
                            refine n_add hx hb dX2_spellOutNames_96 ?_
                            refine lv_iconst (v := nI 4) hx hb dX2_spellOutNames_97 (by decide) ?_
                            refine n_mul hx hb dX2_spellOutNames_98 ?_
                            refine lv_iload hx hb dX2_spellOutNames_99 (lv_at hl 1 rfl) ?_
                            refine n_add hx hb dX2_spellOutNames_101 ?_
                            refine lv_iload_n hx hb dX2_spellOutNames_102 rfl (lv_at hl 2 rfl) ?_
                            refine lv_iload hx hb dX2_spellOutNames_103 (lv_at hl 0 rfl) ?_
                            refine n_add hx hb dX2_spellOutNames_105 ?_
                            refine n_ast (ws' := WC ad cI (sU σ_4 14 (((5 + k) * 4) + j) ((2 + (k * 4)) + (lowF (w * 3 + j))))) hx hb hK hP hD hS 14 0 rfl rfl (i := ((5 + k) * 4) + j) (by omega) (by decide) (WCs14 ..) dX2_spellOutNames_106 (fun H locs hP hD hS => ?_)
                            refine lv_iinc (v := nI (j + 1)) (lv' := [(4, .int (nI (j + 1))), (5, .int (nI (lowF (w * 3 + j)))), (3, .int (nI (2 + (k * 4)))), (2, .int (nI k)), (0, .ref (ad 5)), (1, .int (nI w))]) hx hb dX2_spellOutNames_107 hl (k := 1) rfl (nI_add _ _) (by decide) rfl (fun ls hl => ?_)
                            refine lv_goto (tgt := 66) hx hb dX2_spellOutNames_110 (by decide) ?_
                            exact ih66 (j + 1)  _ _ _ _  (by omega) (hO_step hO) (hB_step (by omega) hB) (fun t1 ht1 => by rw [sU_at, if_neg (by omega)]; exact h1 t1 ht1) (fun k1 hk1 => by rw [sU_at, if_neg (by omega)]; exact h2 k1 hk1) (fun k1 hk1 j1 hj1 => by rw [sU_at, if_neg (by omega)]; exact h3 k1 hk1 j1 hj1) (fun j1 hj1 => by rw [sU_at]; split; (obtain rfl : j1 = j := by omega); simp [lpF, c_75]; exact h4 j1 (by omega)) hP hD hS (lv_sub hl [0, 2, 3, 4, 5] rfl)
                          · refine lv_iconst (v := nI 3) hx hb dX2_spellOutNames_78 (by decide) ?_
                            refine lv_goto (tgt := 88) hx hb dX2_spellOutNames_79 (by decide) ?_
                            refine lv_istore (lv' := [(5, .int (nI 3)), (4, .int (nI j)), (3, .int (nI (2 + (k * 4)))), (2, .int (nI k)), (0, .ref (ad 5)), (1, .int (nI w))]) hx hb dX2_spellOutNames_88 hl (by decide) rfl (fun ls hl => ?_)
                            refine lv_aload_n hx hb dX2_spellOutNames_90 rfl (lv_at hl 4 rfl) ?_
                            refine va_get (D := D) (ci := 1) (v := .ref (ad 14)) (C := RX2) (T := TX2) (N := 2) hx hb hts in_X2_spellOutNames_X2 hown hK hP 5 rfl rfl 0 (by decide) (hts _ lk_X2_spellOutNames_11) (fun _ h9 => h9) rfl dX2_spellOutNames_91 ?_
                            refine lv_iconst (v := nI 5) hx hb dX2_spellOutNames_94 (by decide) ?_
                            refine lv_iload_n hx hb dX2_spellOutNames_95 rfl (lv_at hl 3 rfl) ?_
                            refine n_add hx hb dX2_spellOutNames_96 ?_
                            refine lv_iconst (v := nI 4) hx hb dX2_spellOutNames_97 (by decide) ?_
                            refine n_mul hx hb dX2_spellOutNames_98 ?_
                            refine lv_iload hx hb dX2_spellOutNames_99 (lv_at hl 1 rfl) ?_
                            refine n_add hx hb dX2_spellOutNames_101 ?_
                            refine lv_iload_n hx hb dX2_spellOutNames_102 rfl (lv_at hl 2 rfl) ?_
                            refine lv_iload hx hb dX2_spellOutNames_103 (lv_at hl 0 rfl) ?_
                            refine n_add hx hb dX2_spellOutNames_105 ?_
                            refine n_ast (ws' := WC ad cI (sU σ_4 14 (((5 + k) * 4) + j) ((2 + (k * 4)) + 3))) hx hb hK hP hD hS 14 0 rfl rfl (i := ((5 + k) * 4) + j) (by omega) (by decide) (WCs14 ..) dX2_spellOutNames_106 (fun H locs hP hD hS => ?_)
                            refine lv_iinc (v := nI (j + 1)) (lv' := [(4, .int (nI (j + 1))), (5, .int (nI 3)), (3, .int (nI (2 + (k * 4)))), (2, .int (nI k)), (0, .ref (ad 5)), (1, .int (nI w))]) hx hb dX2_spellOutNames_107 hl (k := 1) rfl (nI_add _ _) (by decide) rfl (fun ls hl => ?_)
                            refine lv_goto (tgt := 66) hx hb dX2_spellOutNames_110 (by decide) ?_
                            exact ih66 (j + 1)  _ _ _ _  (by omega) (hO_step hO) (hB_step (by omega) hB) (fun t1 ht1 => by rw [sU_at, if_neg (by omega)]; exact h1 t1 ht1) (fun k1 hk1 => by rw [sU_at, if_neg (by omega)]; exact h2 k1 hk1) (fun k1 hk1 j1 hj1 => by rw [sU_at, if_neg (by omega)]; exact h3 k1 hk1 j1 hj1) (fun j1 hj1 => by rw [sU_at]; split; (obtain rfl : j1 = j := by omega); simp [lpF, c_75]; exact h4 j1 (by omega)) hP hD hS (lv_sub hl [0, 2, 3, 4, 5] rfl)
                    exact lp66 4 0  _ _ _ _ (by omega) (hO) (hB) (h1) (h2) (h3) (fun t1 h => absurd h (by omega)) hP hD hS (lv_sub hl [0, 1, 2, 3, 4] rfl)
              exact lp52 2 0  _ _ _ _ (by omega) (hO) (hB) (h1) (h2) (fun t1 h => absurd h (by omega)) hP hD hS (lv_sub hl [0, 1, 2] rfl)
            · omega
          | succ n ih28 =>
            intro k σ_2 H locs ls hF1 hO hB h1 h2 hP hD hS hl
            refine lv_iload_n hx hb dX2_spellOutNames_28 rfl (lv_at hl 0 rfl) ?_
            refine lv_iconst (v := nI 2) hx hb dX2_spellOutNames_29 (by decide) ?_
            refine n_icmp_ge hx hb (tgt := 50) (by omega) (by omega) dX2_spellOutNames_30 (by decide) (fun c_30 => ?_) (fun c_30 => ?_)
            · omega
            · refine lv_aload_n hx hb dX2_spellOutNames_33 rfl (lv_at hl 1 rfl) ?_
              refine va_get (D := D) (ci := 1) (v := .ref (ad 14)) (C := RX2) (T := TX2) (N := 2) hx hb hts in_X2_spellOutNames_X2 hown hK hP 5 rfl rfl 0 (by decide) (hts _ lk_X2_spellOutNames_11) (fun _ h9 => h9) rfl dX2_spellOutNames_34 ?_
              refine lv_iconst (v := nI 3) hx hb dX2_spellOutNames_37 (by decide) ?_
              refine lv_iload_n hx hb dX2_spellOutNames_38 rfl (lv_at hl 0 rfl) ?_
              refine n_add hx hb dX2_spellOutNames_39 ?_
              refine lv_iconst (v := nI 4) hx hb dX2_spellOutNames_40 (by decide) ?_
              refine n_mul hx hb dX2_spellOutNames_41 ?_
              refine lv_iload_n hx hb dX2_spellOutNames_42 rfl (lv_at hl 0 rfl) ?_
              refine n_ast (ws' := WC ad cI (sU σ_2 14 ((3 + k) * 4) k)) hx hb hK hP hD hS 14 0 rfl rfl (i := (3 + k) * 4) (by omega) (by decide) (WCs14 ..) dX2_spellOutNames_43 (fun H locs hP hD hS => ?_)
              refine lv_iinc (v := nI (k + 1)) (lv' := [(2, .int (nI (k + 1))), (0, .ref (ad 5)), (1, .int (nI w))]) hx hb dX2_spellOutNames_44 hl (k := 0) rfl (nI_add _ _) (by decide) rfl (fun ls hl => ?_)
              refine lv_goto (tgt := 28) hx hb dX2_spellOutNames_47 (by decide) ?_
              exact ih28 (k + 1)  _ _ _ _  (by omega) (hO_step hO) (hB_step (by omega) hB) (fun t1 ht1 => by rw [sU_at, if_neg (by omega)]; exact h1 t1 ht1) (fun k1 hk1 => by rw [sU_at]; split; omega; exact h2 k1 (by omega)) hP hD hS (lv_sub hl [0, 1, 2] rfl)
        exact lp28 2 0  _ _ _ _ (by omega) (hO) (hB) (h1) (fun t1 h => absurd h (by omega)) hP hD hS (lv_sub hl [0, 1, 2] rfl)
      · omega
    | succ n ih2 =>
      intro t σ_1 H locs ls hF1 hO hB h1 hP hD hS hl
      have hlw := lowF_le (w * 3 + t)
      refine lv_iload_n hx hb dX2_spellOutNames_2 rfl (lv_at hl 0 rfl) ?_
      refine lv_iconst (v := nI 3) hx hb dX2_spellOutNames_3 (by decide) ?_
      refine n_icmp_ge hx hb (tgt := 26) (by omega) (by omega) dX2_spellOutNames_4 (by decide) (fun c_4 => ?_) (fun c_4 => ?_)
      · omega
      · refine lv_aload_n hx hb dX2_spellOutNames_7 rfl (lv_at hl 1 rfl) ?_
        refine va_get (D := D) (ci := 1) (v := .ref (ad 14)) (C := RX2) (T := TX2) (N := 2) hx hb hts in_X2_spellOutNames_X2 hown hK hP 5 rfl rfl 0 (by decide) (hts _ lk_X2_spellOutNames_11) (fun _ h9 => h9) rfl dX2_spellOutNames_8 ?_
        refine lv_iload_n hx hb dX2_spellOutNames_11 rfl (lv_at hl 0 rfl) ?_
        refine lv_iconst (v := nI 4) hx hb dX2_spellOutNames_12 (by decide) ?_
        refine n_mul hx hb dX2_spellOutNames_13 ?_
        refine lv_iload_n hx hb dX2_spellOutNames_14 rfl (lv_at hl 2 rfl) ?_
        refine lv_iload_n hx hb dX2_spellOutNames_15 rfl (lv_at hl 0 rfl) ?_
        refine vp_callSi (va_Run.run (va_runS (As := [.int (nI w), .int (nI t)]) (rest := [.int (nI (t * 4)), .ref (ad 14)]) ⟨hx, hb, hml, hown, hts⟩ (c_X2_lowest l D cI A ad σ_1 w (t) (by omega)) (va_cwS 2 hts gX2_spellOutNames_X2_lowest rfl rfl rfl (by decide +kernel) ⟨Nat.le_of_ble_eq_true rfl, Nat.le_of_ble_eq_true rfl⟩) ⟨Wc.blind, fun U hU hW => ⟨rfl, Wc.go hP hK hD hN hZ hS hU hW⟩⟩ rfl rfl hl.1 rfl (lv_room (Nat.le_of_ble_eq_true rfl)) dX2_spellOutNames_16 ⟨Nat.zero_le _, Nat.zero_le _⟩)) (fun r_6 hr_6 => ?_)
        refine n_to (w := nI (lowF (w * 3 + t))) (hr_6.trans rfl) ?_
        refine n_ast (ws' := WC ad cI (sU σ_1 14 (t * 4) (lowF (w * 3 + t)))) hx hb hK hP hD hS 14 0 rfl rfl (i := t * 4) (by omega) (by decide) (WCs14 ..) dX2_spellOutNames_19 (fun H locs hP hD hS => ?_)
        refine lv_iinc (v := nI (t + 1)) (lv' := [(2, .int (nI (t + 1))), (0, .ref (ad 5)), (1, .int (nI w))]) hx hb dX2_spellOutNames_20 hl (k := 0) rfl (nI_add _ _) (by decide) rfl (fun ls hl => ?_)
        refine lv_goto (tgt := 2) hx hb dX2_spellOutNames_23 (by decide) ?_
        exact ih2 (t + 1)  _ _ _ _  (by omega) (hO_step hO) (hB_step (by omega) hB) (fun t1 ht1 => by rw [sU_at]; split; exact congrArg (fun z => lowF (w * 3 + z)) (by omega); exact h1 t1 (by omega)) hP hD hS (lv_sub hl [0, 1, 2] rfl)
  exact lp2 3 0  _ _ _ _ (by omega) (fun _ _ => rfl) (fun j hj => hI.parts hj) (fun t1 h => absurd h (by omega)) hP hD hS (lv_sub hl [0, 1, 2] rfl)
theorem in_X2_spellOut_X3 : ∀ w ∈ wsX30, w ∈ wsX2_spellOut := by decide +kernel
theorem in_X2_spellOut_X2 : ∀ w ∈ wsX20, w ∈ wsX2_spellOut := by decide +kernel
theorem lk_X2_spellOut_11 : Cond.fieldLink RX2 11 "ArrayClaims$ReadingSearch" "parts" "[I" ∈ wsX2_spellOut := by decide +kernel
def rX2_spellOut : Room := { frames := 2, cells := 0, slots := 0, locals := 46 }
set_option maxHeartbeats 4000000 in
set_option maxRecDepth 100000 in
theorem c_X2_spellOut (l : Launch) (D : va_G) (cI : ClassId) (A : Nat → Prop) (ad : Nat → Nat) (σ : Nat → Nat → Nat) (w : Nat) (hI : IC σ) (hw5 : w < 5) : Met l yX2_spellOut wsX2_spellOut rX2_spellOut (va_Pc [.ref (ad 5), .ref (ad 1), .int (nI w)] (Wc D cI A ad σ)) (va_Qv (fun u => (∀ r, r ≠ 14 → u r = σ r) ∧ (∀ j, j < 96 → u 14 j < 10) ∧ PN w (u 14) ∧ ∀ t, 7 ≤ t → t < σ 0 1 → PT σ w (u 14) t) (fun u t => Wc D cI A ad u t) A) 0 0 A := by
  refine Met.ofW (cc := cX2_spellOut) (maxL := 9) (ret := none) (by decide) rfl ?_
  intro p e s m args below meth c s₁ B hml hv
  obtain ⟨rfl, hP, hK, hD, hN, hZ⟩ := hv
  have hx := B.exec
  have hb := B.bytes
  have hr := B.returns
  have hts := atoms_spec (ws := wsX2_spellOut) B.pre
  have hown : s.vm.findClass RX2 = some m.cls := findClass_of_methodNamed B.named
  have hlocks := B.notSynchronized
  have hS : va_S A s.heap s.heap [] := va_S.rf
  have hl := lv_entry ([.ref (ad 5), .ref (ad 1), .int (nI w)]) (n := 9) (Nat.le_of_ble_eq_true rfl)
  rw [lg_entry_eq]
  generalize (lg_sl ([.ref (ad 5), .ref (ad 1), .int (nI w)]) ++ List.replicate (9 - (lg_sl ([.ref (ad 5), .ref (ad 1), .int (nI w)])).length) Slot.unset).toArray = ls at hl ⊢
  have hl : lv_has ls 9 [(0, .ref (ad 5)), (1, .ref (ad 1)), (2, .int (nI w))] := hl
  have hc := hI.terms
  refine lv_aload_n hx hb dX2_spellOut_0 rfl (lv_at hl 0 rfl) ?_
  refine lv_iload_n hx hb dX2_spellOut_1 rfl (lv_at hl 2 rfl) ?_
  refine va_callv (va_runV (As := [.int (nI w)]) (rest := []) ⟨hx, hb, hml, hown, hts⟩ (c_X2_spellOutNames l D cI A ad σ w hI hw5) (cwV 1 hts gX2_spellOut_X2_spellOutNames rfl rfl rfl (by decide +kernel) ⟨Nat.le_of_ble_eq_true rfl, Nat.le_of_ble_eq_true rfl⟩) ⟨Wc.blind, va_recv hK hP (ci := 1) (q0 := 5) rfl rfl, fun U hU hW => ⟨rfl, Wc.go hP hK hD hN hZ hS hU hW⟩⟩ rfl rfl hl.1 rfl (lv_room (Nat.le_of_ble_eq_true rfl)) dX2_spellOut_2 ⟨Nat.zero_le _, Nat.zero_le _⟩) hS (fun q _ h => h) (fun q h => h) (fun σ_1 t H1 locs ht hvm hwσ_1 hB hz1 hk1 hS => ?_)
  obtain ⟨hP, -, hD, -⟩ := hB
  rw [ht] at hP
  generalize H1 = H at hP hS ⊢
  refine lv_bipush (v := nI 7) hx hb dX2_spellOut_5 (by decide) ?_
  refine lv_istore_n (lv' := [(3, .int (nI 7)), (0, .ref (ad 5)), (1, .ref (ad 1)), (2, .int (nI w))]) hx hb dX2_spellOut_7 rfl hl (by decide) rfl (fun ls hl => ?_)
  have lp8 : ∀ (n : Nat) (t : Nat) (σ_2 : Nat → Nat → Nat) (H : Heap) (locs : List Loc) (ls : Array Slot), (t + n = σ 0 1 ∧ 7 ≤ t) → (∀ r, r ≠ 14 → σ_2 r = σ r) → (∀ j, j < 96 → σ_2 14 j < 10) → (PN w (σ_2 14)) → (∀ t1, 7 ≤ t1 → t1 < t → PT σ w (σ_2 14) t1) → va_P D vwCl (WC ad cI σ_2) H → va_D A (WC ad cI σ_2) → va_S A s.heap H locs → lv_has ls 9 [(3, .int (nI t)), (0, .ref (ad 5)), (1, .ref (ad 1)), (2, .int (nI w))] → W p l e rX2_spellOut s m (([.ref (ad 5), .ref (ad 1), .int (nI w)] : List Value).toArray) below meth c H locs 0 0 (MQ below (va_Qv (fun u => (∀ r, r ≠ 14 → u r = σ r) ∧ (∀ j, j < 96 → u 14 j < 10) ∧ PN w (u 14) ∧ ∀ t, 7 ≤ t → t < σ 0 1 → PT σ w (u 14) t) (fun u t => Wc D cI A ad u t) A) (([.ref (ad 5), .ref (ad 1), .int (nI w)] : List Value).toArray) s 0 0 A) (F0 m 8 ls []) := by
    intro n
    induction n with
    | zero =>
      intro t σ_2 H locs ls hF1 hO hB hPN hT hP hD hS hl
      have h0 := hO 0 (by decide)
      have hc1 : σ_2 0 1 = σ 0 1 := by rw [h0]
      refine lv_iload_n hx hb dX2_spellOut_8 rfl (lv_at hl 0 rfl) ?_
      refine lv_aload_n hx hb dX2_spellOut_9 rfl (lv_at hl 2 rfl) ?_
      refine va_getN (D := D) (ci := 2) (v := .int (nI (σ_2 0 1))) (C := RX3) (T := TX3) (N := 5) hx hb hts in_X2_spellOut_X3 hown hK hP 1 rfl rfl 4 (by decide) (hN.use 5 rfl) (fun _ h9 => h9) rfl dX2_spellOut_10 ?_
      refine n_icmp_ge hx hb (tgt := 160) (by omega) (by omega) dX2_spellOut_13 (by decide) (fun c_13 => ?_) (fun c_13 => ?_)
      · exact W.vret hx hb hr (fun t ht hW => ⟨⟨_, rfl, (⟨hO, hB, hPN, fun t1 q1 q2 => hT t1 q1 (by omega)⟩), Wc.go hP hK hD hN hZ hS ht hW⟩, hS.F ht⟩) hS.2.2 dX2_spellOut_160
      · omega
    | succ n ih8 =>
      intro t σ_2 H locs ls hF1 hO hB hPN hT hP hD hS hl
      have h0 := hO 0 (by decide)
      have hc1 : σ_2 0 1 = σ 0 1 := by rw [h0]
      have h6 := hO 6 (by decide)
      have h7 := hO 7 (by decide)
      have h8 := hO 8 (by decide)
      have h9 := hO 9 (by decide)
      have hm := hI.made (j := t) (by omega) (by omega)
      have h61 := hI.sorts (j := t) (by omega)
      have hlw := lowF_le (w * 3 + (σ 8 t - 1))
      refine lv_iload_n hx hb dX2_spellOut_8 rfl (lv_at hl 0 rfl) ?_
      refine lv_aload_n hx hb dX2_spellOut_9 rfl (lv_at hl 2 rfl) ?_
      refine va_getN (D := D) (ci := 2) (v := .int (nI (σ_2 0 1))) (C := RX3) (T := TX3) (N := 5) hx hb hts in_X2_spellOut_X3 hown hK hP 1 rfl rfl 4 (by decide) (hN.use 5 rfl) (fun _ h9 => h9) rfl dX2_spellOut_10 ?_
      refine n_icmp_ge hx hb (tgt := 160) (by omega) (by omega) dX2_spellOut_13 (by decide) (fun c_13 => ?_) (fun c_13 => ?_)
      · omega
      · refine lv_aload_n hx hb dX2_spellOut_16 rfl (lv_at hl 2 rfl) ?_
        refine va_getN (D := D) (ci := 2) (v := .ref (ad 7)) (C := RX3) (T := TX3) (N := 5) hx hb hts in_X2_spellOut_X3 hown hK hP 1 rfl rfl 1 (by decide) (hN.use 1 rfl) (fun _ h9 => h9) rfl dX2_spellOut_17 ?_
        refine lv_iload_n hx hb dX2_spellOut_20 rfl (lv_at hl 0 rfl) ?_
        refine n_ald hx hb hK hP 7 0 rfl rfl (i := t) (by omega) (by decide) (v := mI (σ_2 7 t)) rfl dX2_spellOut_21 ?_
        refine n_to (w := nI (σ 7 t - 1)) (by rw [h7]; exact mI_pos hm.1) ?_
        refine lv_iconst (v := nI 4) hx hb dX2_spellOut_22 (by decide) ?_
        refine n_mul hx hb dX2_spellOut_23 ?_
        refine lv_istore (lv' := [(4, .int (nI ((σ 7 t - 1) * 4))), (3, .int (nI t)), (0, .ref (ad 5)), (1, .ref (ad 1)), (2, .int (nI w))]) hx hb dX2_spellOut_24 hl (by decide) rfl (fun ls hl => ?_)
        refine lv_iload_n hx hb dX2_spellOut_26 rfl (lv_at hl 4 rfl) ?_
        refine lv_aload_n hx hb dX2_spellOut_27 rfl (lv_at hl 3 rfl) ?_
        refine va_getN (D := D) (ci := 2) (v := .ref (ad 8)) (C := RX3) (T := TX3) (N := 5) hx hb hts in_X2_spellOut_X3 hown hK hP 1 rfl rfl 2 (by decide) (hN.use 2 rfl) (fun _ h9 => h9) rfl dX2_spellOut_28 ?_
        refine lv_iload_n hx hb dX2_spellOut_31 rfl (lv_at hl 1 rfl) ?_
        refine n_ald hx hb hK hP 8 0 rfl rfl (i := t) (by omega) (by decide) (v := mI (σ_2 8 t)) rfl dX2_spellOut_32 ?_
        refine n_to (w := nI (σ 8 t - 1)) (by rw [h8]; exact mI_pos hm.2.2.1) ?_
        refine vp_callSi (va_Run.run (va_runS (As := [.int (nI w), .int (nI (σ 8 t - 1))]) (rest := []) ⟨hx, hb, hml, hown, hts⟩ (c_X2_lowest l D cI A ad σ_2 w (σ 8 t - 1) (by omega)) (va_cwS 2 hts gX2_spellOut_X2_lowest rfl rfl rfl (by decide +kernel) ⟨Nat.le_of_ble_eq_true rfl, Nat.le_of_ble_eq_true rfl⟩) ⟨Wc.blind, fun U hU hW => ⟨rfl, Wc.go hP hK hD hN hZ hS hU hW⟩⟩ rfl rfl hl.1 rfl (lv_room (Nat.le_of_ble_eq_true rfl)) dX2_spellOut_33 ⟨Nat.zero_le _, Nat.zero_le _⟩)) (fun r_3 hr_3 => ?_)
        refine n_to (w := nI (lowF (w * 3 + (σ 8 t - 1)))) (hr_3.trans rfl) ?_
        refine lv_istore (lv' := [(5, .int (nI (lowF (w * 3 + (σ 8 t - 1))))), (4, .int (nI ((σ 7 t - 1) * 4))), (3, .int (nI t)), (0, .ref (ad 5)), (1, .ref (ad 1)), (2, .int (nI w))]) hx hb dX2_spellOut_36 hl (by decide) rfl (fun ls hl => ?_)
        refine lv_aload_n hx hb dX2_spellOut_38 rfl (lv_at hl 4 rfl) ?_
        refine va_getN (D := D) (ci := 2) (v := .ref (ad 6)) (C := RX3) (T := TX3) (N := 5) hx hb hts in_X2_spellOut_X3 hown hK hP 1 rfl rfl 0 (by decide) (hN.use 0 rfl) (fun _ h9 => h9) rfl dX2_spellOut_39 ?_
        refine lv_iload_n hx hb dX2_spellOut_42 rfl (lv_at hl 2 rfl) ?_
        refine n_ald hx hb hK hP 6 0 rfl rfl (i := t) (by omega) (by decide) (v := nI (σ_2 6 t)) rfl dX2_spellOut_43 ?_
        refine lv_iconst (v := nI 1) hx hb dX2_spellOut_44 (by decide) ?_
        refine q_icmp_ne hx hb (tgt := 69) (nI_eq (by rw [h6]; omega) (by omega)) dX2_spellOut_45 (by decide) (fun c_45 => ?_) (fun c_45 => ?_)
        · have hne : σ 6 t ≠ 1 := by rw [h6] at c_45; exact c_45
          have hm9 : 1 ≤ σ 9 t ∧ σ 9 t ≤ t := by rcases hm.2.2.2.2 with q | q; exact absurd q hne; exact q.2
          refine lv_aload_n hx hb dX2_spellOut_69 rfl (lv_at hl 3 rfl) ?_
          refine va_get (D := D) (ci := 1) (v := .ref (ad 14)) (C := RX2) (T := TX2) (N := 2) hx hb hts in_X2_spellOut_X2 hown hK hP 5 rfl rfl 0 (by decide) (hts _ lk_X2_spellOut_11) (fun _ h9 => h9) rfl dX2_spellOut_70 ?_
          refine lv_aload_n hx hb dX2_spellOut_73 rfl (lv_at hl 4 rfl) ?_
          refine va_getN (D := D) (ci := 2) (v := .ref (ad 9)) (C := RX3) (T := TX3) (N := 5) hx hb hts in_X2_spellOut_X3 hown hK hP 1 rfl rfl 3 (by decide) (hN.use 3 rfl) (fun _ h9 => h9) rfl dX2_spellOut_74 ?_
          refine lv_iload_n hx hb dX2_spellOut_77 rfl (lv_at hl 2 rfl) ?_
          refine n_ald hx hb hK hP 9 0 rfl rfl (i := t) (by omega) (by decide) (v := mI (σ_2 9 t)) rfl dX2_spellOut_78 ?_
          refine n_to (w := nI (σ 9 t - 1)) (by rw [h9]; exact mI_pos (by omega)) ?_
          refine lv_iconst (v := nI 4) hx hb dX2_spellOut_79 (by decide) ?_
          refine n_mul hx hb dX2_spellOut_80 ?_
          refine n_ald hx hb hK hP 14 0 rfl rfl (i := (σ 9 t - 1) * 4) (by omega) (by decide) (v := nI (σ_2 14 ((σ 9 t - 1) * 4))) rfl dX2_spellOut_81 ?_
          refine lv_istore (lv' := [(6, .int (nI (σ_2 14 ((σ 9 t - 1) * 4)))), (5, .int (nI (lowF (w * 3 + (σ 8 t - 1))))), (4, .int (nI ((σ 7 t - 1) * 4))), (3, .int (nI t)), (0, .ref (ad 5)), (1, .ref (ad 1)), (2, .int (nI w))]) hx hb dX2_spellOut_82 hl (by decide) rfl (fun ls hl => ?_)
          refine lv_iconst (v := nI 0) hx hb dX2_spellOut_84 (by decide) ?_
          refine lv_istore (lv' := [(7, .int (nI 0)), (6, .int (nI (σ_2 14 ((σ 9 t - 1) * 4)))), (5, .int (nI (lowF (w * 3 + (σ 8 t - 1))))), (4, .int (nI ((σ 7 t - 1) * 4))), (3, .int (nI t)), (0, .ref (ad 5)), (1, .ref (ad 1)), (2, .int (nI w))]) hx hb dX2_spellOut_85 hl (by decide) rfl (fun ls hl => ?_)
          have lp87 : ∀ (n : Nat) (j : Nat) (σ_4 : Nat → Nat → Nat) (H : Heap) (locs : List Loc) (ls : Array Slot), (j + n = 4) → (∀ r, r ≠ 14 → σ_4 r = σ r) → (∀ j, j < 96 → σ_4 14 j < 10) → (PN w (σ_4 14)) → (∀ t1, 7 ≤ t1 → t1 < t → PT σ w (σ_4 14) t1) → (σ_4 14 ((σ 9 t - 1) * 4) = σ_2 14 ((σ 9 t - 1) * 4)) → (∀ j1, j1 < j → σ_4 14 (t * 4 + j1) = sv σ w (σ_4 14) t j1) → va_P D vwCl (WC ad cI σ_4) H → va_D A (WC ad cI σ_4) → va_S A s.heap H locs → lv_has ls 9 [(7, .int (nI j)), (6, .int (nI (σ_2 14 ((σ 9 t - 1) * 4)))), (5, .int (nI (lowF (w * 3 + (σ 8 t - 1))))), (4, .int (nI ((σ 7 t - 1) * 4))), (3, .int (nI t)), (0, .ref (ad 5)), (1, .ref (ad 1)), (2, .int (nI w))] → W p l e rX2_spellOut s m (([.ref (ad 5), .ref (ad 1), .int (nI w)] : List Value).toArray) below meth c H locs 0 0 (MQ below (va_Qv (fun u => (∀ r, r ≠ 14 → u r = σ r) ∧ (∀ j, j < 96 → u 14 j < 10) ∧ PN w (u 14) ∧ ∀ t, 7 ≤ t → t < σ 0 1 → PT σ w (u 14) t) (fun u t => Wc D cI A ad u t) A) (([.ref (ad 5), .ref (ad 1), .int (nI w)] : List Value).toArray) s 0 0 A) (F0 m 87 ls []) := by
            intro n
            induction n with
            | zero =>
              intro j σ_4 H locs ls hF2 hO hB hPN hT hE h4 hP hD hS hl
              refine lv_iload hx hb dX2_spellOut_87 (lv_at hl 0 rfl) ?_
              refine lv_iconst (v := nI 4) hx hb dX2_spellOut_89 (by decide) ?_
              refine n_icmp_ge hx hb (tgt := 154) (by omega) (by omega) dX2_spellOut_90 (by decide) (fun c_90 => ?_) (fun c_90 => ?_)
              · refine lv_iinc (v := nI (t + 1)) (lv' := [(3, .int (nI (t + 1))), (7, .int (nI j)), (6, .int (nI (σ_2 14 ((σ 9 t - 1) * 4)))), (5, .int (nI (lowF (w * 3 + (σ 8 t - 1))))), (4, .int (nI ((σ 7 t - 1) * 4))), (0, .ref (ad 5)), (1, .ref (ad 1)), (2, .int (nI w))]) hx hb dX2_spellOut_154 hl (k := 4) rfl (nI_add _ _) (by decide) rfl (fun ls hl => ?_)
                refine lv_goto (tgt := 8) hx hb dX2_spellOut_157 (by decide) ?_
                exact ih8 (t + 1)  _ _ _ _  (by omega) (hO) (hB) (hPN) (fun t1 q1 q2 => by rcases Nat.lt_or_ge t1 t with q | q; exact hT t1 q1 q; (obtain rfl : t1 = t := by omega); exact ⟨fun q => absurd q hne, fun _ j1 hj1 => h4 j1 (by omega)⟩) hP hD hS (lv_sub hl [0, 5, 6, 7] rfl)
              · omega
            | succ n ih87 =>
              intro j σ_4 H locs ls hF2 hO hB hPN hT hE h4 hP hD hS hl
              have hlj := lowF_le (w * 3 + j)
              refine lv_iload hx hb dX2_spellOut_87 (lv_at hl 0 rfl) ?_
              refine lv_iconst (v := nI 4) hx hb dX2_spellOut_89 (by decide) ?_
              refine n_icmp_ge hx hb (tgt := 154) (by omega) (by omega) dX2_spellOut_90 (by decide) (fun c_90 => ?_) (fun c_90 => ?_)
              · omega
              · refine lv_iload hx hb dX2_spellOut_93 (lv_at hl 0 rfl) ?_
                refine lv_iconst (v := nI 3) hx hb dX2_spellOut_95 (by decide) ?_
                refine q_icmp_eq hx hb (tgt := 114) (nI_eq (by omega) (by omega)) dX2_spellOut_96 (by decide) (fun c_96 => ?_) (fun c_96 => ?_)
                · refine lv_iconst (v := nI 0) hx hb dX2_spellOut_114 (by decide) ?_
                  refine lv_istore (lv' := [(8, .int (nI 0)), (7, .int (nI j)), (6, .int (nI (σ_2 14 ((σ 9 t - 1) * 4)))), (5, .int (nI (lowF (w * 3 + (σ 8 t - 1))))), (4, .int (nI ((σ 7 t - 1) * 4))), (3, .int (nI t)), (0, .ref (ad 5)), (1, .ref (ad 1)), (2, .int (nI w))]) hx hb dX2_spellOut_115 hl (by decide) rfl (fun ls hl => ?_)
                  refine lv_aload_n hx hb dX2_spellOut_117 rfl (lv_at hl 6 rfl) ?_
                  refine va_get (D := D) (ci := 1) (v := .ref (ad 14)) (C := RX2) (T := TX2) (N := 2) hx hb hts in_X2_spellOut_X2 hown hK hP 5 rfl rfl 0 (by decide) (hts _ lk_X2_spellOut_11) (fun _ h9 => h9) rfl dX2_spellOut_118 ?_
                  refine lv_iload_n hx hb dX2_spellOut_121 rfl (lv_at hl 5 rfl) ?_
                  refine lv_iconst (v := nI 4) hx hb dX2_spellOut_122 (by decide) ?_
                  refine n_mul hx hb dX2_spellOut_123 ?_
                  refine lv_iload hx hb dX2_spellOut_124 (lv_at hl 1 rfl) ?_
                  refine n_add hx hb dX2_spellOut_126 ?_
                  refine lv_iload hx hb dX2_spellOut_127 (lv_at hl 0 rfl) ?_
                  refine q_if_eq hx hb (tgt := 137) (nI_z (by omega)) dX2_spellOut_129 (by decide) (fun c_129 => ?_) (fun c_129 => ?_)
                  · refine lv_aload_n hx hb dX2_spellOut_137 rfl (lv_at hl 6 rfl) ?_
                    refine va_get (D := D) (ci := 1) (v := .ref (ad 14)) (C := RX2) (T := TX2) (N := 2) hx hb hts in_X2_spellOut_X2 hown hK hP 5 rfl rfl 0 (by decide) (hts _ lk_X2_spellOut_11) (fun _ h9 => h9) rfl dX2_spellOut_138 ?_
                    refine lv_iload hx hb dX2_spellOut_141 (lv_at hl 4 rfl) ?_
                    refine lv_iload hx hb dX2_spellOut_143 (lv_at hl 1 rfl) ?_
                    refine n_add hx hb dX2_spellOut_145 ?_
                    refine n_ald hx hb hK hP 14 0 rfl rfl (i := ((σ 7 t - 1) * 4) + j) (by omega) (by decide) (v := nI (σ_4 14 (((σ 7 t - 1) * 4) + j))) rfl dX2_spellOut_146 ?_
                    refine n_ast (ws' := WC ad cI (sU σ_4 14 ((t * 4) + j) (σ_4 14 (((σ 7 t - 1) * 4) + j)))) hx hb hK hP hD hS 14 0 rfl rfl (i := (t * 4) + j) (by omega) (by decide) (WCs14 ..) dX2_spellOut_147 (fun H locs hP hD hS => ?_)
                    refine lv_iinc (v := nI (j + 1)) (lv' := [(7, .int (nI (j + 1))), (8, .int (nI 0)), (6, .int (nI (σ_2 14 ((σ 9 t - 1) * 4)))), (5, .int (nI (lowF (w * 3 + (σ 8 t - 1))))), (4, .int (nI ((σ 7 t - 1) * 4))), (3, .int (nI t)), (0, .ref (ad 5)), (1, .ref (ad 1)), (2, .int (nI w))]) hx hb dX2_spellOut_148 hl (k := 1) rfl (nI_add _ _) (by decide) rfl (fun ls hl => ?_)
                    refine lv_goto (tgt := 87) hx hb dX2_spellOut_151 (by decide) ?_
                    exact ih87 (j + 1)  _ _ _ _  (by omega) (hO_step hO) (hB_step (by first | exact hB _ (by omega) | (rw [← hE]; exact hB _ (by omega))) hB) (PN_keep hPN (sU_lo (by omega))) (fun t1 q1 q2 => PT_keep hI q1 (by omega) (sU_lo (by omega)) (hT t1 q1 q2)) (by rw [sU_at, if_neg (by omega)]; exact hE) (h4_step hI (by omega) (by omega) hne (by omega) (by unfold sv; first | (rw [if_pos ⟨c_96, c_107⟩]; exact hE.symm) | (rw [if_neg (fun q => c_107 q.2)]) | (rw [if_neg (fun q => q.1 c_96)])) h4) hP hD hS (lv_sub hl [0, 2, 3, 4, 5, 6, 7, 8] rfl)
                  · exact absurd c_129 (by decide)
                · refine lv_iload_n hx hb dX2_spellOut_99 rfl (lv_at hl 7 rfl) ?_
                  refine lv_iload hx hb dX2_spellOut_100 (lv_at hl 0 rfl) ?_
                  refine vp_callSi (va_Run.run (va_runS (As := [.int (nI w), .int (nI j)]) (rest := []) ⟨hx, hb, hml, hown, hts⟩ (c_X2_lowest l D cI A ad σ_4 w (j) (by omega)) (va_cwS 2 hts gX2_spellOut_X2_lowest rfl rfl rfl (by decide +kernel) ⟨Nat.le_of_ble_eq_true rfl, Nat.le_of_ble_eq_true rfl⟩) ⟨Wc.blind, fun U hU hW => ⟨rfl, Wc.go hP hK hD hN hZ hS hU hW⟩⟩ rfl rfl hl.1 rfl (lv_room (Nat.le_of_ble_eq_true rfl)) dX2_spellOut_102 ⟨Nat.zero_le _, Nat.zero_le _⟩)) (fun r_5 hr_5 => ?_)
                  refine n_to (w := nI (lowF (w * 3 + j))) (hr_5.trans rfl) ?_
                  refine lv_iload hx hb dX2_spellOut_105 (lv_at hl 2 rfl) ?_
                  refine q_icmp_ne hx hb (tgt := 114) (nI_eq (by omega) (by omega)) dX2_spellOut_107 (by decide) (fun c_107 => ?_) (fun c_107 => ?_)
                  · refine lv_iconst (v := nI 0) hx hb dX2_spellOut_114 (by decide) ?_
                    refine lv_istore (lv' := [(8, .int (nI 0)), (7, .int (nI j)), (6, .int (nI (σ_2 14 ((σ 9 t - 1) * 4)))), (5, .int (nI (lowF (w * 3 + (σ 8 t - 1))))), (4, .int (nI ((σ 7 t - 1) * 4))), (3, .int (nI t)), (0, .ref (ad 5)), (1, .ref (ad 1)), (2, .int (nI w))]) hx hb dX2_spellOut_115 hl (by decide) rfl (fun ls hl => ?_)
                    refine lv_aload_n hx hb dX2_spellOut_117 rfl (lv_at hl 6 rfl) ?_
                    refine va_get (D := D) (ci := 1) (v := .ref (ad 14)) (C := RX2) (T := TX2) (N := 2) hx hb hts in_X2_spellOut_X2 hown hK hP 5 rfl rfl 0 (by decide) (hts _ lk_X2_spellOut_11) (fun _ h9 => h9) rfl dX2_spellOut_118 ?_
                    refine lv_iload_n hx hb dX2_spellOut_121 rfl (lv_at hl 5 rfl) ?_
                    refine lv_iconst (v := nI 4) hx hb dX2_spellOut_122 (by decide) ?_
                    refine n_mul hx hb dX2_spellOut_123 ?_
                    refine lv_iload hx hb dX2_spellOut_124 (lv_at hl 1 rfl) ?_
                    refine n_add hx hb dX2_spellOut_126 ?_
                    refine lv_iload hx hb dX2_spellOut_127 (lv_at hl 0 rfl) ?_
                    refine q_if_eq hx hb (tgt := 137) (nI_z (by omega)) dX2_spellOut_129 (by decide) (fun c_129 => ?_) (fun c_129 => ?_)
                    · refine lv_aload_n hx hb dX2_spellOut_137 rfl (lv_at hl 6 rfl) ?_
                      refine va_get (D := D) (ci := 1) (v := .ref (ad 14)) (C := RX2) (T := TX2) (N := 2) hx hb hts in_X2_spellOut_X2 hown hK hP 5 rfl rfl 0 (by decide) (hts _ lk_X2_spellOut_11) (fun _ h9 => h9) rfl dX2_spellOut_138 ?_
                      refine lv_iload hx hb dX2_spellOut_141 (lv_at hl 4 rfl) ?_
                      refine lv_iload hx hb dX2_spellOut_143 (lv_at hl 1 rfl) ?_
                      refine n_add hx hb dX2_spellOut_145 ?_
                      refine n_ald hx hb hK hP 14 0 rfl rfl (i := ((σ 7 t - 1) * 4) + j) (by omega) (by decide) (v := nI (σ_4 14 (((σ 7 t - 1) * 4) + j))) rfl dX2_spellOut_146 ?_
                      refine n_ast (ws' := WC ad cI (sU σ_4 14 ((t * 4) + j) (σ_4 14 (((σ 7 t - 1) * 4) + j)))) hx hb hK hP hD hS 14 0 rfl rfl (i := (t * 4) + j) (by omega) (by decide) (WCs14 ..) dX2_spellOut_147 (fun H locs hP hD hS => ?_)
                      refine lv_iinc (v := nI (j + 1)) (lv' := [(7, .int (nI (j + 1))), (8, .int (nI 0)), (6, .int (nI (σ_2 14 ((σ 9 t - 1) * 4)))), (5, .int (nI (lowF (w * 3 + (σ 8 t - 1))))), (4, .int (nI ((σ 7 t - 1) * 4))), (3, .int (nI t)), (0, .ref (ad 5)), (1, .ref (ad 1)), (2, .int (nI w))]) hx hb dX2_spellOut_148 hl (k := 1) rfl (nI_add _ _) (by decide) rfl (fun ls hl => ?_)
                      refine lv_goto (tgt := 87) hx hb dX2_spellOut_151 (by decide) ?_
                      exact ih87 (j + 1)  _ _ _ _  (by omega) (hO_step hO) (hB_step (by first | exact hB _ (by omega) | (rw [← hE]; exact hB _ (by omega))) hB) (PN_keep hPN (sU_lo (by omega))) (fun t1 q1 q2 => PT_keep hI q1 (by omega) (sU_lo (by omega)) (hT t1 q1 q2)) (by rw [sU_at, if_neg (by omega)]; exact hE) (h4_step hI (by omega) (by omega) hne (by omega) (by unfold sv; first | (rw [if_pos ⟨c_96, c_107⟩]; exact hE.symm) | (rw [if_neg (fun q => c_107 q.2)]) | (rw [if_neg (fun q => q.1 c_96)])) h4) hP hD hS (lv_sub hl [0, 2, 3, 4, 5, 6, 7, 8] rfl)
                    · exact absurd c_129 (by decide)
                  · refine lv_iconst (v := nI 1) hx hb dX2_spellOut_110 (by decide) ?_
                    refine lv_goto (tgt := 115) hx hb dX2_spellOut_111 (by decide) ?_
                    refine lv_istore (lv' := [(8, .int (nI 1)), (7, .int (nI j)), (6, .int (nI (σ_2 14 ((σ 9 t - 1) * 4)))), (5, .int (nI (lowF (w * 3 + (σ 8 t - 1))))), (4, .int (nI ((σ 7 t - 1) * 4))), (3, .int (nI t)), (0, .ref (ad 5)), (1, .ref (ad 1)), (2, .int (nI w))]) hx hb dX2_spellOut_115 hl (by decide) rfl (fun ls hl => ?_)
                    refine lv_aload_n hx hb dX2_spellOut_117 rfl (lv_at hl 6 rfl) ?_
                    refine va_get (D := D) (ci := 1) (v := .ref (ad 14)) (C := RX2) (T := TX2) (N := 2) hx hb hts in_X2_spellOut_X2 hown hK hP 5 rfl rfl 0 (by decide) (hts _ lk_X2_spellOut_11) (fun _ h9 => h9) rfl dX2_spellOut_118 ?_
                    refine lv_iload_n hx hb dX2_spellOut_121 rfl (lv_at hl 5 rfl) ?_
                    refine lv_iconst (v := nI 4) hx hb dX2_spellOut_122 (by decide) ?_
                    refine n_mul hx hb dX2_spellOut_123 ?_
                    refine lv_iload hx hb dX2_spellOut_124 (lv_at hl 1 rfl) ?_
                    refine n_add hx hb dX2_spellOut_126 ?_
                    refine lv_iload hx hb dX2_spellOut_127 (lv_at hl 0 rfl) ?_
                    refine q_if_eq hx hb (tgt := 137) (nI_z (by omega)) dX2_spellOut_129 (by decide) (fun c_129 => ?_) (fun c_129 => ?_)
                    · exact absurd c_129 (by decide)
                    · refine lv_iload hx hb dX2_spellOut_132 (lv_at hl 2 rfl) ?_
                      refine lv_goto (tgt := 147) hx hb dX2_spellOut_134 (by decide) ?_
                      refine n_ast (ws' := WC ad cI (sU σ_4 14 ((t * 4) + j) (σ_2 14 ((σ 9 t - 1) * 4)))) hx hb hK hP hD hS 14 0 rfl rfl (i := (t * 4) + j) (by omega) (by decide) (WCs14 ..) dX2_spellOut_147 (fun H locs hP hD hS => ?_)
                      refine lv_iinc (v := nI (j + 1)) (lv' := [(7, .int (nI (j + 1))), (8, .int (nI 1)), (6, .int (nI (σ_2 14 ((σ 9 t - 1) * 4)))), (5, .int (nI (lowF (w * 3 + (σ 8 t - 1))))), (4, .int (nI ((σ 7 t - 1) * 4))), (3, .int (nI t)), (0, .ref (ad 5)), (1, .ref (ad 1)), (2, .int (nI w))]) hx hb dX2_spellOut_148 hl (k := 1) rfl (nI_add _ _) (by decide) rfl (fun ls hl => ?_)
                      refine lv_goto (tgt := 87) hx hb dX2_spellOut_151 (by decide) ?_
                      exact ih87 (j + 1)  _ _ _ _  (by omega) (hO_step hO) (hB_step (by first | exact hB _ (by omega) | (rw [← hE]; exact hB _ (by omega))) hB) (PN_keep hPN (sU_lo (by omega))) (fun t1 q1 q2 => PT_keep hI q1 (by omega) (sU_lo (by omega)) (hT t1 q1 q2)) (by rw [sU_at, if_neg (by omega)]; exact hE) (h4_step hI (by omega) (by omega) hne (by omega) (by unfold sv; first | (rw [if_pos ⟨c_96, c_107⟩]; exact hE.symm) | (rw [if_neg (fun q => c_107 q.2)]) | (rw [if_neg (fun q => q.1 c_96)])) h4) hP hD hS (lv_sub hl [0, 2, 3, 4, 5, 6, 7, 8] rfl)
          exact lp87 4 0  _ _ _ _ (by omega) (hO) (hB) (hPN) (hT) (rfl) (fun t1 h => absurd h (by omega)) hP hD hS (lv_sub hl [0, 1, 2, 3, 4, 5, 6, 7] rfl)
        · refine lv_aload_n hx hb dX2_spellOut_48 rfl (lv_at hl 3 rfl) ?_
          refine va_get (D := D) (ci := 1) (v := .ref (ad 14)) (C := RX2) (T := TX2) (N := 2) hx hb hts in_X2_spellOut_X2 hown hK hP 5 rfl rfl 0 (by decide) (hts _ lk_X2_spellOut_11) (fun _ h9 => h9) rfl dX2_spellOut_49 ?_
          refine lv_iload_n hx hb dX2_spellOut_52 rfl (lv_at hl 2 rfl) ?_
          refine lv_iconst (v := nI 4) hx hb dX2_spellOut_53 (by decide) ?_
          refine n_mul hx hb dX2_spellOut_54 ?_
          refine lv_aload_n hx hb dX2_spellOut_55 rfl (lv_at hl 3 rfl) ?_
          refine va_get (D := D) (ci := 1) (v := .ref (ad 14)) (C := RX2) (T := TX2) (N := 2) hx hb hts in_X2_spellOut_X2 hown hK hP 5 rfl rfl 0 (by decide) (hts _ lk_X2_spellOut_11) (fun _ h9 => h9) rfl dX2_spellOut_56 ?_
          refine lv_iload hx hb dX2_spellOut_59 (lv_at hl 1 rfl) ?_
          refine lv_iload hx hb dX2_spellOut_61 (lv_at hl 0 rfl) ?_
          refine n_add hx hb dX2_spellOut_63 ?_
          refine n_ald hx hb hK hP 14 0 rfl rfl (i := ((σ 7 t - 1) * 4) + (lowF (w * 3 + (σ 8 t - 1)))) (by omega) (by decide) (v := nI (σ_2 14 (((σ 7 t - 1) * 4) + (lowF (w * 3 + (σ 8 t - 1)))))) rfl dX2_spellOut_64 ?_
          refine n_ast (ws' := WC ad cI (sU σ_2 14 (t * 4) (σ_2 14 (((σ 7 t - 1) * 4) + (lowF (w * 3 + (σ 8 t - 1))))))) hx hb hK hP hD hS 14 0 rfl rfl (i := t * 4) (by omega) (by decide) (WCs14 ..) dX2_spellOut_65 (fun H locs hP hD hS => ?_)
          refine lv_goto (tgt := 154) hx hb dX2_spellOut_66 (by decide) ?_
          refine lv_iinc (v := nI (t + 1)) (lv' := [(3, .int (nI (t + 1))), (5, .int (nI (lowF (w * 3 + (σ 8 t - 1))))), (4, .int (nI ((σ 7 t - 1) * 4))), (0, .ref (ad 5)), (1, .ref (ad 1)), (2, .int (nI w))]) hx hb dX2_spellOut_154 hl (k := 2) rfl (nI_add _ _) (by decide) rfl (fun ls hl => ?_)
          refine lv_goto (tgt := 8) hx hb dX2_spellOut_157 (by decide) ?_
          exact ih8 (t + 1)  _ _ _ _  (by omega) (hO_step hO) (hB_step (hB _ (by omega)) hB) (PN_keep hPN (sU_lo (by omega))) (fun t1 q1 q2 => by rcases Nat.lt_or_ge t1 t with q | q; exact PT_keep hI q1 (by omega) (fun j hj => by rw [sU_at, if_neg (by omega)]) (hT t1 q1 q); (obtain rfl : t1 = t := by omega); exact ⟨fun _ => by rw [sU_at, if_pos rfl, sU_at, if_neg (by omega)], fun q => absurd c_45 (by rw [h6]; exact q)⟩) hP hD hS (lv_sub hl [0, 3, 4, 5] rfl)
  exact lp8 (σ 0 1 - 7) 7  _ _ _ _ (by omega) (hwσ_1.1) (hwσ_1.2.1) (hwσ_1.2.2) (fun t1 q1 q2 => absurd q1 (by omega)) hP hD hS (lv_sub hl [0, 1, 2, 3] rfl)
def rJ7_fill_53178 : Room := { frames := 0, cells := 0, slots := 0, locals := 0 }
set_option maxHeartbeats 4000000 in
set_option maxRecDepth 100000 in
theorem c_J7_fill_53178 (l : Launch) (D : va_G) (cI : ClassId) (A : Nat → Prop) (ad : Nat → Nat) (σ : Nat → Nat → Nat)   : Met l yJ7_fill_53178 wsJ7_fill_53178 rJ7_fill_53178 (va_Pc [.ref (ad 15), .int (mI 0)] (Wc D cI A ad σ)) (va_Qv (fun u => (∀ r, r ≠ 15 → u r = σ r) ∧ (∀ j, j < 10 → u 15 j = 0)) (fun u t => Wc D cI A ad u t) A) 0 0 A := by
  refine Met.ofW (cc := cJ7_fill_53178) (maxL := 4) (ret := none) (by decide) rfl ?_
  intro p e s m args below meth c s₁ B hml hv
  obtain ⟨rfl, hP, hK, hD, hN, hZ⟩ := hv
  have hx := B.exec
  have hb := B.bytes
  have hr := B.returns
  have hts := atoms_spec (ws := wsJ7_fill_53178) B.pre
  have hown : s.vm.findClass RJ7 = some m.cls := findClass_of_methodNamed B.named
  have hlocks := B.notSynchronized
  have hS : va_S A s.heap s.heap [] := va_S.rf
  have hl := lv_entry ([.ref (ad 15), .int (mI 0)]) (n := 4) (Nat.le_of_ble_eq_true rfl)
  rw [lg_entry_eq]
  generalize (lg_sl ([.ref (ad 15), .int (mI 0)]) ++ List.replicate (4 - (lg_sl ([.ref (ad 15), .int (mI 0)])).length) Slot.unset).toArray = ls at hl ⊢
  have hl : lv_has ls 4 [(0, .ref (ad 15)), (1, .int (mI 0))] := hl
  refine lv_iconst (v := nI 0) hx hb dJ7_fill_53178_0 (by decide) ?_
  refine lv_istore_n (lv' := [(2, .int (nI 0)), (0, .ref (ad 15)), (1, .int (mI 0))]) hx hb dJ7_fill_53178_1 rfl hl (by decide) rfl (fun ls hl => ?_)
  refine lv_aload_n hx hb dJ7_fill_53178_2 rfl (lv_at hl 1 rfl) ?_
  refine va_alen (v := nI 10) hx hb hK hP 15 0 rfl rfl rfl dJ7_fill_53178_3 ?_
  refine lv_istore_n (lv' := [(3, .int (nI 10)), (2, .int (nI 0)), (0, .ref (ad 15)), (1, .int (mI 0))]) hx hb dJ7_fill_53178_4 rfl hl (by decide) rfl (fun ls hl => ?_)
  have lp5 : ∀ (n : Nat) (k : Nat) (σ_1 : Nat → Nat → Nat) (H : Heap) (locs : List Loc) (ls : Array Slot), (k + n = 10) → (∀ r, r ≠ 15 → σ_1 r = σ r) → (∀ j, j < k → σ_1 15 j = 0) → va_P D vwCl (WC ad cI σ_1) H → va_D A (WC ad cI σ_1) → va_S A s.heap H locs → lv_has ls 4 [(2, .int (nI k)), (3, .int (nI 10)), (0, .ref (ad 15)), (1, .int (mI 0))] → W p l e rJ7_fill_53178 s m (([.ref (ad 15), .int (mI 0)] : List Value).toArray) below meth c H locs 0 0 (MQ below (va_Qv (fun u => (∀ r, r ≠ 15 → u r = σ r) ∧ (∀ j, j < 10 → u 15 j = 0)) (fun u t => Wc D cI A ad u t) A) (([.ref (ad 15), .int (mI 0)] : List Value).toArray) s 0 0 A) (F0 m 5 ls []) := by
    intro n
    induction n with
    | zero =>
      intro k σ_1 H locs ls hF1 hO hB hP hD hS hl
      refine lv_iload_n hx hb dJ7_fill_53178_5 rfl (lv_at hl 0 rfl) ?_
      refine lv_iload_n hx hb dJ7_fill_53178_6 rfl (lv_at hl 1 rfl) ?_
      refine n_icmp_ge hx hb (tgt := 20) (by omega) (by omega) dJ7_fill_53178_7 (by decide) (fun c_7 => ?_) (fun c_7 => ?_)
      · exact W.vret hx hb hr (fun t ht hW => ⟨⟨_, rfl, (⟨hO, fun j hj => hB j (by omega)⟩), Wc.go hP hK hD hN hZ hS ht hW⟩, hS.F ht⟩) hS.2.2 dJ7_fill_53178_20
      · omega
    | succ n ih5 =>
      intro k σ_1 H locs ls hF1 hO hB hP hD hS hl
      refine lv_iload_n hx hb dJ7_fill_53178_5 rfl (lv_at hl 0 rfl) ?_
      refine lv_iload_n hx hb dJ7_fill_53178_6 rfl (lv_at hl 1 rfl) ?_
      refine n_icmp_ge hx hb (tgt := 20) (by omega) (by omega) dJ7_fill_53178_7 (by decide) (fun c_7 => ?_) (fun c_7 => ?_)
      · omega
      · refine lv_aload_n hx hb dJ7_fill_53178_10 rfl (lv_at hl 2 rfl) ?_
        refine lv_iload_n hx hb dJ7_fill_53178_11 rfl (lv_at hl 0 rfl) ?_
        refine lv_iload_n hx hb dJ7_fill_53178_12 rfl (lv_at hl 3 rfl) ?_
        refine n_ast (ws' := WC ad cI (sU σ_1 15 k 0)) hx hb hK hP hD hS 15 0 rfl rfl (i := k) (by omega) (by decide) (WCs15 ..) dJ7_fill_53178_13 (fun H locs hP hD hS => ?_)
        refine lv_iinc (v := nI (k + 1)) (lv' := [(2, .int (nI (k + 1))), (3, .int (nI 10)), (0, .ref (ad 15)), (1, .int (mI 0))]) hx hb dJ7_fill_53178_14 hl (k := 0) rfl (nI_add _ _) (by decide) rfl (fun ls hl => ?_)
        refine lv_goto (tgt := 5) hx hb dJ7_fill_53178_17 (by decide) ?_
        exact ih5 (k + 1)  _ _ _ _  (by omega) (hO_step hO) (fun j1 hj1 => by rw [sU_at]; split; rfl; exact hB j1 (by omega)) hP hD hS (lv_sub hl [0, 1, 2, 3] rfl)
  exact lp5 10 0  _ _ _ _ (by omega) (fun _ _ => rfl) (fun t1 h => absurd h (by omega)) hP hD hS (lv_sub hl [1, 0, 2, 3] rfl)
end
section
theorem in_X2_completes_X0 : ∀ w ∈ wsX00, w ∈ wsX2_completes := by decide +kernel
theorem in_X2_completes_X2 : ∀ w ∈ wsX20, w ∈ wsX2_completes := by decide +kernel
theorem lk_X2_completes_15 : Cond.fieldLink RX2 15 "ArrayClaims$ReadingSearch" "chosen" "[I" ∈ wsX2_completes := by decide +kernel
def rX2_completes (d : Nat) : Room := { frames := 3 + d, cells := 0, slots := 0, locals := 140 + 29 * d }
theorem holdF_le (σ : Nat → Nat → Nat) (cl : Nat) : ∀ n k an, an ≤ 2 → holdF σ cl n k an ≤ 2
  | 0, _, _, h => h
  | n + 1, k, an, h => by
    unfold holdF
    split
    · omega
    · split
      · exact holdF_le σ cl n _ _ (by omega)
      · exact holdF_le σ cl n _ _ h
set_option maxHeartbeats 4000000 in
set_option maxRecDepth 100000 in
theorem c_X2_completes (l : Launch) (D : va_G) (cI : ClassId) (A : Nat → Prop) (ad : Nat → Nat) : ∀ (d : Nat) (σ : Nat → Nat → Nat) (f dp : Nat), IC σ → opn σ < d → dp + opn σ ≤ 10 → 2 ≤ f → f + opn σ ≤ 12 → Met l yX2_completes wsX2_completes (rX2_completes d) (va_Pc [.ref (ad 5), .ref (ad 1), .ref (ad 4), .int (nI f), .int (nI dp)] (Wc D cI A ad σ)) (va_Qi (fun r u => r = bI (cmpF d σ f) ∧ (cmpF d σ f = false → u = σ) ∧ (∀ k, k ≠ 15 → u k = σ k) ∧ (∀ j, j < 10 → u 15 j ≤ 20)) (fun u t => Wc D cI A ad u t) A) 0 0 A := by
  intro d
  induction d with
  | zero => intro σ f dp _ h; exact absurd h (Nat.not_lt_zero _)
  | succ d ih =>
  intro σ f dp hI hd hdp hf2 hf
  refine Met.ofW (cc := cX2_completes) (maxL := 10) (ret := (some .boolean)) (by decide) rfl ?_
  intro p e s m args below meth c s₁ B hml hv
  obtain ⟨rfl, hP, hK, hD, hN, hZ⟩ := hv
  have hx := B.exec
  have hb := B.bytes
  have hr := B.returns
  have hts := atoms_spec (ws := wsX2_completes) B.pre
  have hown : s.vm.findClass RX2 = some m.cls := findClass_of_methodNamed B.named
  have hlocks := B.notSynchronized
  have hS : va_S A s.heap s.heap [] := va_S.rf
  have hl := lv_entry ([.ref (ad 5), .ref (ad 1), .ref (ad 4), .int (nI f), .int (nI dp)]) (n := 10) (Nat.le_of_ble_eq_true rfl)
  rw [lg_entry_eq]
  generalize (lg_sl ([.ref (ad 5), .ref (ad 1), .ref (ad 4), .int (nI f), .int (nI dp)]) ++ List.replicate (10 - (lg_sl ([.ref (ad 5), .ref (ad 1), .ref (ad 4), .int (nI f), .int (nI dp)])).length) Slot.unset).toArray = ls at hl ⊢
  have hl : lv_has ls 10 [(0, .ref (ad 5)), (1, .ref (ad 1)), (2, .ref (ad 4)), (3, .int (nI f)), (4, .int (nI dp))] := hl
  have hca := hI.asked
  refine lv_iconst (v := mI 0) hx hb dX2_completes_0 (by decide) ?_
  refine lv_istore (lv' := [(5, .int (mI 0)), (0, .ref (ad 5)), (1, .ref (ad 1)), (2, .ref (ad 4)), (3, .int (nI f)), (4, .int (nI dp))]) hx hb dX2_completes_1 hl (by decide) rfl (fun ls hl => ?_)
  refine lv_aload_n hx hb dX2_completes_3 rfl (lv_at hl 3 rfl) ?_
  refine va_getN (D := D) (ci := 0) (v := .int (nI (σ 0 4))) (C := RX0) (T := TX0) (N := 3) hx hb hts in_X2_completes_X0 hown hK hP 4 rfl rfl 2 (by decide) (hN.use 6 rfl) (fun _ h9 => h9) rfl dX2_completes_4 ?_
  refine lv_iconst (v := nI 1) hx hb dX2_completes_7 (by decide) ?_
  refine n_dec hx hb dX2_completes_8 ?_
  refine lv_istore (lv' := [(6, .int (mI (σ 0 4))), (5, .int (mI 0)), (0, .ref (ad 5)), (1, .ref (ad 1)), (2, .ref (ad 4)), (3, .int (nI f)), (4, .int (nI dp))]) hx hb dX2_completes_9 hl (by decide) rfl (fun ls hl => ?_)
  have lp11 : ∀ (n : Nat) (cn : Nat) (un : Nat) (ls : Array Slot), (cn = n ∧ n ≤ σ 0 4) → (un ≤ σ 0 4) → (scF σ (σ 0 4) 0 = scF σ n un) → lv_has ls 10 [(6, .int (mI cn)), (5, .int (mI un)), (0, .ref (ad 5)), (1, .ref (ad 1)), (2, .ref (ad 4)), (3, .int (nI f)), (4, .int (nI dp))] → W p l e (rX2_completes (d + 1)) s m (([.ref (ad 5), .ref (ad 1), .ref (ad 4), .int (nI f), .int (nI dp)] : List Value).toArray) below meth c s.heap [] 0 0 (MQ below (va_Qi (fun r u => r = bI (cmpF (d + 1) σ f) ∧ (cmpF (d + 1) σ f = false → u = σ) ∧ (∀ k, k ≠ 15 → u k = σ k) ∧ (∀ j, j < 10 → u 15 j ≤ 20)) (fun u t => Wc D cI A ad u t) A) (([.ref (ad 5), .ref (ad 1), .ref (ad 4), .int (nI f), .int (nI dp)] : List Value).toArray) s 0 0 A) (F0 m 11 ls []) := by
    intro n
    induction n with
    | zero =>
      intro cn un ls hF1 hun hF hl
      obtain ⟨rfl, hF1⟩ := hF1
      have hF : scF σ (σ 0 4) 0 = some un := hF
      refine lv_iload hx hb dX2_completes_11 (lv_at hl 0 rfl) ?_
      refine q_if_lt hx hb (tgt := 49) (mI_neg (by omega)) dX2_completes_13 (by decide) (fun c_13 => ?_) (fun c_13 => ?_)
      · refine lv_iload hx hb dX2_completes_49 (lv_at hl 1 rfl) ?_
        refine lv_iconst (v := mI 0) hx hb dX2_completes_51 (by decide) ?_
        refine q_icmp_ne hx hb (tgt := 57) (mI_eq (by omega) (by omega)) dX2_completes_52 (by decide) (fun c_52 => ?_) (fun c_52 => ?_)
        · refine lv_aload_n hx hb dX2_completes_57 rfl (lv_at hl 2 rfl) ?_
          refine lv_aload_n hx hb dX2_completes_58 rfl (lv_at hl 3 rfl) ?_
          refine lv_aload_n hx hb dX2_completes_59 rfl (lv_at hl 4 rfl) ?_
          refine lv_iload hx hb dX2_completes_60 (lv_at hl 1 rfl) ?_
          refine n_to (w := nI (un - 1)) (mI_pos (by omega)) ?_
          refine vp_callSi (va_Run.run (va_runV (As := [.ref (ad 1), .ref (ad 4), .int (nI (un - 1))]) (rest := []) ⟨hx, hb, hml, hown, hts⟩ (c_X2_openSpot l D cI A ad σ (un - 1) hI (by omega)) (cwV 3 hts gX2_completes_X2_openSpot rfl rfl rfl (by decide +kernel) ⟨by simp only [rX2_completes, rX2_holding, rX2_openSpot]; omega, by simp only [rX2_completes, rX2_holding, rX2_openSpot]; omega⟩) ⟨Wc.blind, va_recv hK hP (ci := 1) (q0 := 5) rfl rfl, fun U hU hW => ⟨rfl, Wc.go hP hK hD hN hZ hS hU hW⟩⟩ rfl rfl hl.1 rfl (lv_room (Nat.le_of_ble_eq_true rfl)) dX2_completes_62 ⟨Nat.zero_le _, Nat.zero_le _⟩)) (fun r_1 hr_1 => ?_)
          refine n_to (w := mI (osF σ (un - 1) (σ 13 (un - 1)) 0)) (hr_1.trans rfl) ?_
          refine lv_istore (lv' := [(6, .int (mI (osF σ (un - 1) (σ 13 (un - 1)) 0))), (5, .int (mI un)), (0, .ref (ad 5)), (1, .ref (ad 1)), (2, .ref (ad 4)), (3, .int (nI f)), (4, .int (nI dp))]) hx hb dX2_completes_65 hl (by decide) rfl (fun ls hl => ?_)
          obtain ⟨sp, hsp⟩ : ∃ z, z = osF σ (un - 1) (σ 13 (un - 1)) 0 := ⟨_, rfl⟩
          rw [← hsp] at hl
          have hop := osF_open hI (cl := un - 1) (σ 13 (un - 1)) 0 (by have := hI.asize (j := un - 1) (by omega); omega)
          rw [← hsp] at hop
          have hsl : sp ≤ 10 := by by_cases q : sp = 0; omega; have := (hop q).1; omega
          refine lv_iload hx hb dX2_completes_67 (lv_at hl 0 rfl) ?_
          refine lv_iconst (v := mI 0) hx hb dX2_completes_69 (by decide) ?_
          refine q_icmp_eq hx hb (tgt := 80) (mI_eq (by omega) (by omega)) dX2_completes_70 (by decide) (fun c_70 => ?_) (fun c_70 => ?_)
          · have hcz : cmpF (d + 1) σ f = false := by (obtain ⟨u1, rfl⟩ : ∃ u1, un = u1 + 1 := ⟨un - 1, by omega⟩); rw [cmpF_some hF]; simp only [Nat.add_sub_cancel] at hsp; rw [← hsp, if_pos c_70]
            refine lv_iconst (v := nI 0) hx hb dX2_completes_80 (by decide) ?_
            exact W.zret (v := nI 0) hx hb hr (n_nar0) (fun t ht hW => ⟨⟨_, σ, rfl, (⟨by rw [hcz]; rfl, fun _ => rfl, fun _ _ => rfl, fun j hj => hI.chosen hj⟩), Wc.go hP hK hD hN hZ hS ht hW⟩, hS.F ht⟩) hS.2.2 dX2_completes_81
          · rw [mI_pos (show 1 ≤ sp by omega)] at hl
            obtain ⟨hop1, hop2⟩ := hop c_70
            have hcm : cmpF (d + 1) σ f = anyF (fun el => cmpF d (sU σ 15 (sp - 1) (el + 1)) (if el = f then f + 1 else f)) (toF sp f + 1 - frF sp) (frF sp) := by (obtain ⟨u1, rfl⟩ : ∃ u1, un = u1 + 1 := ⟨un - 1, by omega⟩); rw [cmpF_some hF]; simp only [Nat.add_sub_cancel] at hsp; rw [← hsp, if_neg c_70]
            refine lv_iload hx hb dX2_completes_73 (lv_at hl 6 rfl) ?_
            refine lv_bipush (v := nI 10) hx hb dX2_completes_75 (by decide) ?_
            refine n_icmp_le hx hb (tgt := 82) (by omega) (by omega) dX2_completes_77 (by decide) (fun c_77 => ?_) (fun c_77 => ?_)
            · refine lv_iload hx hb dX2_completes_82 (lv_at hl 0 rfl) ?_
              refine lv_bipush (v := nI 9) hx hb dX2_completes_84 (by decide) ?_
              refine q_icmp_ne hx hb (tgt := 93) (nI_eq (by omega) (by omega)) dX2_completes_86 (by decide) (fun c_86 => ?_) (fun c_86 => ?_)
              · refine lv_iconst (v := nI 2) hx hb dX2_completes_93 (by decide) ?_
                refine lv_istore (lv' := [(7, .int (nI 2)), (6, .int (nI (sp - 1))), (5, .int (mI un)), (0, .ref (ad 5)), (1, .ref (ad 1)), (2, .ref (ad 4)), (3, .int (nI f)), (4, .int (nI dp))]) hx hb dX2_completes_94 hl (by decide) rfl (fun ls hl => ?_)
                refine lv_iload hx hb dX2_completes_96 (lv_at hl 1 rfl) ?_
                refine lv_bipush (v := nI 9) hx hb dX2_completes_98 (by decide) ?_
                refine q_icmp_ne hx hb (tgt := 107) (nI_eq (by omega) (by omega)) dX2_completes_100 (by decide) (fun c_100 => ?_) (fun c_100 => ?_)
                · refine lv_iload_n hx hb dX2_completes_107 rfl (lv_at hl 6 rfl) ?_
                  refine lv_istore (lv' := [(8, .int (nI f)), (7, .int (nI 2)), (6, .int (nI (sp - 1))), (5, .int (mI un)), (0, .ref (ad 5)), (1, .ref (ad 1)), (2, .ref (ad 4)), (3, .int (nI f)), (4, .int (nI dp))]) hx hb dX2_completes_108 hl (by decide) rfl (fun ls hl => ?_)
                  refine lv_iload hx hb dX2_completes_110 (lv_at hl 1 rfl) ?_
                  refine lv_istore (lv' := [(9, .int (nI 2)), (8, .int (nI f)), (7, .int (nI 2)), (6, .int (nI (sp - 1))), (5, .int (mI un)), (0, .ref (ad 5)), (1, .ref (ad 1)), (2, .ref (ad 4)), (3, .int (nI f)), (4, .int (nI dp))]) hx hb dX2_completes_112 hl (by decide) rfl (fun ls hl => ?_)
                  have lp114 : ∀ (n : Nat) (el : Nat) (σ_2 : Nat → Nat → Nat) (H : Heap) (locs : List Loc) (ls : Array Slot), (el + n = f + 1) → (2 ≤ el) → (∀ b, sU σ_2 15 (sp - 1) b = sU σ 15 (sp - 1) b) → (anyF (fun el => cmpF d (sU σ 15 (sp - 1) (el + 1)) (if el = f then f + 1 else f)) (toF sp f + 1 - frF sp) (frF sp) = anyF (fun el => cmpF d (sU σ 15 (sp - 1) (el + 1)) (if el = f then f + 1 else f)) n el) → va_P D vwCl (WC ad cI σ_2) H → va_D A (WC ad cI σ_2) → va_S A s.heap H locs → lv_has ls 10 [(9, .int (nI el)), (8, .int (nI f)), (7, .int (nI 2)), (6, .int (nI (sp - 1))), (5, .int (mI un)), (0, .ref (ad 5)), (1, .ref (ad 1)), (2, .ref (ad 4)), (3, .int (nI f)), (4, .int (nI dp))] → W p l e (rX2_completes (d + 1)) s m (([.ref (ad 5), .ref (ad 1), .ref (ad 4), .int (nI f), .int (nI dp)] : List Value).toArray) below meth c H locs 0 0 (MQ below (va_Qi (fun r u => r = bI (cmpF (d + 1) σ f) ∧ (cmpF (d + 1) σ f = false → u = σ) ∧ (∀ k, k ≠ 15 → u k = σ k) ∧ (∀ j, j < 10 → u 15 j ≤ 20)) (fun u t => Wc D cI A ad u t) A) (([.ref (ad 5), .ref (ad 1), .ref (ad 4), .int (nI f), .int (nI dp)] : List Value).toArray) s 0 0 A) (F0 m 114 ls []) := by
                    intro n
                    induction n with
                    | zero =>
                      intro el σ_2 H locs ls hE1 hE2 hS9 hA hP hD hS hl
                      refine lv_iload hx hb dX2_completes_114 (lv_at hl 0 rfl) ?_
                      refine lv_iload hx hb dX2_completes_116 (lv_at hl 1 rfl) ?_
                      refine n_icmp_gt hx hb (tgt := 164) (by omega) (by omega) dX2_completes_118 (by decide) (fun c_118 => ?_) (fun c_118 => ?_)
                      · refine lv_aload_n hx hb dX2_completes_164 rfl (lv_at hl 5 rfl) ?_
                        refine va_get (D := D) (ci := 1) (v := .ref (ad 15)) (C := RX2) (T := TX2) (N := 2) hx hb hts in_X2_completes_X2 hown hK hP 5 rfl rfl 1 (by decide) (hts _ lk_X2_completes_15) (fun _ h9 => h9) rfl dX2_completes_165 ?_
                        refine lv_iload hx hb dX2_completes_168 (lv_at hl 3 rfl) ?_
                        refine lv_iconst (v := mI 0) hx hb dX2_completes_170 (by decide) ?_
                        refine n_ast (ws' := WC ad cI (sU σ_2 15 (sp - 1) 0)) hx hb hK hP hD hS 15 0 rfl rfl (i := sp - 1) (by omega) (by decide) (WCs15 ..) dX2_completes_171 (fun H locs hP hD hS => ?_)
                        have hcf : cmpF (d + 1) σ f = false := by rw [hcm, hA]; rfl
                        refine lv_iconst (v := nI 0) hx hb dX2_completes_172 (by decide) ?_
                        exact W.zret (v := nI 0) hx hb hr (n_nar0) (fun t ht hW => ⟨⟨_, (sU σ_2 15 (sp - 1) 0), rfl, (⟨by rw [hcf]; rfl, fun _ => by rw [hS9, sU_id hop2], fun k hk => by rw [hS9, sU_ne _ _ _ hk], fun j hj => by rw [hS9, sU_id hop2]; exact hI.chosen hj⟩), Wc.go hP hK hD hN hZ hS ht hW⟩, hS.F ht⟩) hS.2.2 dX2_completes_173
                      · omega
                    | succ n ih114 =>
                      intro el σ_2 H locs ls hE1 hE2 hS9 hA hP hD hS hl
                      refine lv_iload hx hb dX2_completes_114 (lv_at hl 0 rfl) ?_
                      refine lv_iload hx hb dX2_completes_116 (lv_at hl 1 rfl) ?_
                      refine n_icmp_gt hx hb (tgt := 164) (by omega) (by omega) dX2_completes_118 (by decide) (fun c_118 => ?_) (fun c_118 => ?_)
                      · omega
                      · refine lv_aload_n hx hb dX2_completes_121 rfl (lv_at hl 5 rfl) ?_
                        refine va_get (D := D) (ci := 1) (v := .ref (ad 15)) (C := RX2) (T := TX2) (N := 2) hx hb hts in_X2_completes_X2 hown hK hP 5 rfl rfl 1 (by decide) (hts _ lk_X2_completes_15) (fun _ h9 => h9) rfl dX2_completes_122 ?_
                        refine lv_iload hx hb dX2_completes_125 (lv_at hl 3 rfl) ?_
                        refine lv_iload hx hb dX2_completes_127 (lv_at hl 0 rfl) ?_
                        refine n_to (mI_succ _).symm ?_
                        refine n_ast (ws' := WC ad cI (sU σ_2 15 (sp - 1) (el + 1))) hx hb hK hP hD hS 15 0 rfl rfl (i := sp - 1) (by omega) (by decide) (WCs15 ..) dX2_completes_129 (fun H locs hP hD hS => ?_)
                        rw [hS9] at hP hD
                        have hon := opn_set (σ := σ) (i := sp - 1) (v := el + 1) hop1 hop2 (by omega)
                        refine lv_aload_n hx hb dX2_completes_130 rfl (lv_at hl 5 rfl) ?_
                        refine lv_aload_n hx hb dX2_completes_131 rfl (lv_at hl 6 rfl) ?_
                        refine lv_aload_n hx hb dX2_completes_132 rfl (lv_at hl 7 rfl) ?_
                        refine lv_iload hx hb dX2_completes_133 (lv_at hl 0 rfl) ?_
                        refine lv_iload_n hx hb dX2_completes_135 rfl (lv_at hl 8 rfl) ?_
                        refine q_icmp_ne hx hb (tgt := 145) (nI_eq (by omega) (by omega)) dX2_completes_136 (by decide) (fun c_136 => ?_) (fun c_136 => ?_)
                        · refine lv_iload_n hx hb dX2_completes_145 rfl (lv_at hl 8 rfl) ?_
                          refine lv_iload hx hb dX2_completes_146 (lv_at hl 9 rfl) ?_
                          refine lv_iconst (v := nI 1) hx hb dX2_completes_148 (by decide) ?_
                          refine n_add hx hb dX2_completes_149 ?_
                          refine va_calli (va_runV (As := [.ref (ad 1), .ref (ad 4), .int (nI f), .int (nI (dp + 1))]) (rest := []) ⟨hx, hb, hml, hown, hts⟩ (ih (sU σ 15 (sp - 1) (el + 1)) f (dp + 1) (hI.set15 (by omega)) (by omega) (by omega) (by omega) (by omega)) (cwV 4 hts gX2_completes_X2_completes rfl rfl rfl (by decide +kernel) ⟨by simp only [rX2_completes, rX2_holding, rX2_openSpot]; omega, by simp only [rX2_completes, rX2_holding, rX2_openSpot]; omega⟩) ⟨Wc.blind, va_recv hK hP (ci := 1) (q0 := 5) rfl rfl, fun U hU hW => ⟨rfl, Wc.go hP hK hD hN hZ hS hU hW⟩⟩ rfl rfl hl.1 rfl (lv_room (Nat.le_of_ble_eq_true rfl)) dX2_completes_150 ⟨Nat.zero_le _, Nat.zero_le _⟩) hS (fun q _ h => h) (fun q h => h) (fun r_4 σ_3 t H1 locs ht hvm hwσ_3 hB hz1 hk1 hS => ?_)
                          obtain ⟨hr_4, hwσ_3⟩ := hwσ_3
                          refine n_to (w := bI (cmpF d (sU σ 15 (sp - 1) (el + 1)) f)) (hr_4) ?_
                          obtain ⟨hP, -, hD, -⟩ := hB
                          rw [ht] at hP
                          generalize H1 = H at hP hS ⊢
                          refine q_if_eq hx hb (tgt := 158) (bI_z) dX2_completes_153 (by decide) (fun c_153 => ?_) (fun c_153 => ?_)
                          · have hcr : cmpF d (sU σ 15 (sp - 1) (el + 1)) (if el = f then f + 1 else f) = false := by first | (simp only [if_pos c_136]; exact c_153) | (simp only [if_neg c_136]; exact c_153)
                            obtain rfl := hwσ_3.1 c_153
                            refine lv_iinc (v := nI (el + 1)) (lv' := [(9, .int (nI (el + 1))), (8, .int (nI f)), (7, .int (nI 2)), (6, .int (nI (sp - 1))), (5, .int (mI un)), (0, .ref (ad 5)), (1, .ref (ad 1)), (2, .ref (ad 4)), (3, .int (nI f)), (4, .int (nI dp))]) hx hb dX2_completes_158 hl (k := 0) rfl (nI_add _ _) (by decide) rfl (fun ls hl => ?_)
                            refine lv_goto (tgt := 114) hx hb dX2_completes_161 (by decide) ?_
                            exact ih114 (el + 1)  _ _ _ _  (by omega) (by omega) (fun b => by rw [sU_sU]) (by rw [hA]; simp only [anyF]; rw [if_neg (by rw [hcr]; decide)]) hP hD hS (lv_sub hl [0, 1, 2, 3, 4, 5, 6, 7, 8, 9] rfl)
                          · have hcr : cmpF d (sU σ 15 (sp - 1) (el + 1)) (if el = f then f + 1 else f) = true := by first | (simp only [if_pos c_136]; exact ts_nf c_153) | (simp only [if_neg c_136]; exact ts_nf c_153)
                            have hct : cmpF (d + 1) σ f = true := by rw [hcm, hA]; simp only [anyF]; rw [if_pos hcr]
                            refine lv_iconst (v := nI 1) hx hb dX2_completes_156 (by decide) ?_
                            exact W.zret (v := nI 1) hx hb hr (n_nar1) (fun t ht hW => ⟨⟨_, σ_3, rfl, (⟨by rw [hct]; rfl, fun q => absurd (hct.symm.trans q) (by decide), fun k hk => by rw [hwσ_3.2.1 k hk, sU_ne _ _ _ hk], hwσ_3.2.2⟩), Wc.go hP hK hD hN hZ hS ht hW⟩, hS.F ht⟩) hS.2.2 dX2_completes_157
                        · refine lv_iload_n hx hb dX2_completes_139 rfl (lv_at hl 8 rfl) ?_
                          refine lv_iconst (v := nI 1) hx hb dX2_completes_140 (by decide) ?_
                          refine n_add hx hb dX2_completes_141 ?_
                          refine lv_goto (tgt := 146) hx hb dX2_completes_142 (by decide) ?_
                          refine lv_iload hx hb dX2_completes_146 (lv_at hl 9 rfl) ?_
                          refine lv_iconst (v := nI 1) hx hb dX2_completes_148 (by decide) ?_
                          refine n_add hx hb dX2_completes_149 ?_
                          refine va_calli (va_runV (As := [.ref (ad 1), .ref (ad 4), .int (nI (f + 1)), .int (nI (dp + 1))]) (rest := []) ⟨hx, hb, hml, hown, hts⟩ (ih (sU σ 15 (sp - 1) (el + 1)) (f + 1) (dp + 1) (hI.set15 (by omega)) (by omega) (by omega) (by omega) (by omega)) (cwV 4 hts gX2_completes_X2_completes rfl rfl rfl (by decide +kernel) ⟨by simp only [rX2_completes, rX2_holding, rX2_openSpot]; omega, by simp only [rX2_completes, rX2_holding, rX2_openSpot]; omega⟩) ⟨Wc.blind, va_recv hK hP (ci := 1) (q0 := 5) rfl rfl, fun U hU hW => ⟨rfl, Wc.go hP hK hD hN hZ hS hU hW⟩⟩ rfl rfl hl.1 rfl (lv_room (Nat.le_of_ble_eq_true rfl)) dX2_completes_150 ⟨Nat.zero_le _, Nat.zero_le _⟩) hS (fun q _ h => h) (fun q h => h) (fun r_6 σ_5 t H1 locs ht hvm hwσ_5 hB hz1 hk1 hS => ?_)
                          obtain ⟨hr_6, hwσ_5⟩ := hwσ_5
                          refine n_to (w := bI (cmpF d (sU σ 15 (sp - 1) (el + 1)) (f + 1))) (hr_6) ?_
                          obtain ⟨hP, -, hD, -⟩ := hB
                          rw [ht] at hP
                          generalize H1 = H at hP hS ⊢
                          refine q_if_eq hx hb (tgt := 158) (bI_z) dX2_completes_153 (by decide) (fun c_153 => ?_) (fun c_153 => ?_)
                          · have hcr : cmpF d (sU σ 15 (sp - 1) (el + 1)) (if el = f then f + 1 else f) = false := by first | (simp only [if_pos c_136]; exact c_153) | (simp only [if_neg c_136]; exact c_153)
                            obtain rfl := hwσ_5.1 c_153
                            refine lv_iinc (v := nI (el + 1)) (lv' := [(9, .int (nI (el + 1))), (8, .int (nI f)), (7, .int (nI 2)), (6, .int (nI (sp - 1))), (5, .int (mI un)), (0, .ref (ad 5)), (1, .ref (ad 1)), (2, .ref (ad 4)), (3, .int (nI f)), (4, .int (nI dp))]) hx hb dX2_completes_158 hl (k := 0) rfl (nI_add _ _) (by decide) rfl (fun ls hl => ?_)
                            refine lv_goto (tgt := 114) hx hb dX2_completes_161 (by decide) ?_
                            exact ih114 (el + 1)  _ _ _ _  (by omega) (by omega) (fun b => by rw [sU_sU]) (by rw [hA]; simp only [anyF]; rw [if_neg (by rw [hcr]; decide)]) hP hD hS (lv_sub hl [0, 1, 2, 3, 4, 5, 6, 7, 8, 9] rfl)
                          · have hcr : cmpF d (sU σ 15 (sp - 1) (el + 1)) (if el = f then f + 1 else f) = true := by first | (simp only [if_pos c_136]; exact ts_nf c_153) | (simp only [if_neg c_136]; exact ts_nf c_153)
                            have hct : cmpF (d + 1) σ f = true := by rw [hcm, hA]; simp only [anyF]; rw [if_pos hcr]
                            refine lv_iconst (v := nI 1) hx hb dX2_completes_156 (by decide) ?_
                            exact W.zret (v := nI 1) hx hb hr (n_nar1) (fun t ht hW => ⟨⟨_, σ_5, rfl, (⟨by rw [hct]; rfl, fun q => absurd (hct.symm.trans q) (by decide), fun k hk => by rw [hwσ_5.2.1 k hk, sU_ne _ _ _ hk], hwσ_5.2.2⟩), Wc.go hP hK hD hN hZ hS ht hW⟩, hS.F ht⟩) hS.2.2 dX2_completes_157
                  have htf : toF sp f = f := by unfold toF; first | (rw [if_pos c_86]) | (rw [if_neg c_86])
                  have hff : frF sp = 2 := by unfold frF; first | (rw [if_pos c_86]) | (rw [if_neg c_86])
                  exact lp114 (f + 1 - 2) 2  _ _ _ _ (by omega) (by omega) (fun _ => rfl) (by rw [htf, hff]) hP hD hS (lv_sub hl [0, 1, 2, 3, 4, 5, 6, 7, 8, 9] rfl)
                · omega
              · refine lv_iconst (v := nI 0) hx hb dX2_completes_89 (by decide) ?_
                refine lv_goto (tgt := 94) hx hb dX2_completes_90 (by decide) ?_
                refine lv_istore (lv' := [(7, .int (nI 0)), (6, .int (nI (sp - 1))), (5, .int (mI un)), (0, .ref (ad 5)), (1, .ref (ad 1)), (2, .ref (ad 4)), (3, .int (nI f)), (4, .int (nI dp))]) hx hb dX2_completes_94 hl (by decide) rfl (fun ls hl => ?_)
                refine lv_iload hx hb dX2_completes_96 (lv_at hl 1 rfl) ?_
                refine lv_bipush (v := nI 9) hx hb dX2_completes_98 (by decide) ?_
                refine q_icmp_ne hx hb (tgt := 107) (nI_eq (by omega) (by omega)) dX2_completes_100 (by decide) (fun c_100 => ?_) (fun c_100 => ?_)
                · omega
                · refine lv_iconst (v := nI 1) hx hb dX2_completes_103 (by decide) ?_
                  refine lv_goto (tgt := 108) hx hb dX2_completes_104 (by decide) ?_
                  refine lv_istore (lv' := [(8, .int (nI 1)), (7, .int (nI 0)), (6, .int (nI (sp - 1))), (5, .int (mI un)), (0, .ref (ad 5)), (1, .ref (ad 1)), (2, .ref (ad 4)), (3, .int (nI f)), (4, .int (nI dp))]) hx hb dX2_completes_108 hl (by decide) rfl (fun ls hl => ?_)
                  refine lv_iload hx hb dX2_completes_110 (lv_at hl 1 rfl) ?_
                  refine lv_istore (lv' := [(9, .int (nI 0)), (8, .int (nI 1)), (7, .int (nI 0)), (6, .int (nI (sp - 1))), (5, .int (mI un)), (0, .ref (ad 5)), (1, .ref (ad 1)), (2, .ref (ad 4)), (3, .int (nI f)), (4, .int (nI dp))]) hx hb dX2_completes_112 hl (by decide) rfl (fun ls hl => ?_)
                  have lp114 : ∀ (n : Nat) (el : Nat) (σ_7 : Nat → Nat → Nat) (H : Heap) (locs : List Loc) (ls : Array Slot), (el + n = 1 + 1) → (0 ≤ el) → (∀ b, sU σ_7 15 (sp - 1) b = sU σ 15 (sp - 1) b) → (anyF (fun el => cmpF d (sU σ 15 (sp - 1) (el + 1)) (if el = f then f + 1 else f)) (toF sp f + 1 - frF sp) (frF sp) = anyF (fun el => cmpF d (sU σ 15 (sp - 1) (el + 1)) (if el = f then f + 1 else f)) n el) → va_P D vwCl (WC ad cI σ_7) H → va_D A (WC ad cI σ_7) → va_S A s.heap H locs → lv_has ls 10 [(9, .int (nI el)), (8, .int (nI 1)), (7, .int (nI 0)), (6, .int (nI (sp - 1))), (5, .int (mI un)), (0, .ref (ad 5)), (1, .ref (ad 1)), (2, .ref (ad 4)), (3, .int (nI f)), (4, .int (nI dp))] → W p l e (rX2_completes (d + 1)) s m (([.ref (ad 5), .ref (ad 1), .ref (ad 4), .int (nI f), .int (nI dp)] : List Value).toArray) below meth c H locs 0 0 (MQ below (va_Qi (fun r u => r = bI (cmpF (d + 1) σ f) ∧ (cmpF (d + 1) σ f = false → u = σ) ∧ (∀ k, k ≠ 15 → u k = σ k) ∧ (∀ j, j < 10 → u 15 j ≤ 20)) (fun u t => Wc D cI A ad u t) A) (([.ref (ad 5), .ref (ad 1), .ref (ad 4), .int (nI f), .int (nI dp)] : List Value).toArray) s 0 0 A) (F0 m 114 ls []) := by
                    intro n
                    induction n with
                    | zero =>
                      intro el σ_7 H locs ls hE1 hE2 hS9 hA hP hD hS hl
                      refine lv_iload hx hb dX2_completes_114 (lv_at hl 0 rfl) ?_
                      refine lv_iload hx hb dX2_completes_116 (lv_at hl 1 rfl) ?_
                      refine n_icmp_gt hx hb (tgt := 164) (by omega) (by omega) dX2_completes_118 (by decide) (fun c_118 => ?_) (fun c_118 => ?_)
                      · refine lv_aload_n hx hb dX2_completes_164 rfl (lv_at hl 5 rfl) ?_
                        refine va_get (D := D) (ci := 1) (v := .ref (ad 15)) (C := RX2) (T := TX2) (N := 2) hx hb hts in_X2_completes_X2 hown hK hP 5 rfl rfl 1 (by decide) (hts _ lk_X2_completes_15) (fun _ h9 => h9) rfl dX2_completes_165 ?_
                        refine lv_iload hx hb dX2_completes_168 (lv_at hl 3 rfl) ?_
                        refine lv_iconst (v := mI 0) hx hb dX2_completes_170 (by decide) ?_
                        refine n_ast (ws' := WC ad cI (sU σ_7 15 (sp - 1) 0)) hx hb hK hP hD hS 15 0 rfl rfl (i := sp - 1) (by omega) (by decide) (WCs15 ..) dX2_completes_171 (fun H locs hP hD hS => ?_)
                        have hcf : cmpF (d + 1) σ f = false := by rw [hcm, hA]; rfl
                        refine lv_iconst (v := nI 0) hx hb dX2_completes_172 (by decide) ?_
                        exact W.zret (v := nI 0) hx hb hr (n_nar0) (fun t ht hW => ⟨⟨_, (sU σ_7 15 (sp - 1) 0), rfl, (⟨by rw [hcf]; rfl, fun _ => by rw [hS9, sU_id hop2], fun k hk => by rw [hS9, sU_ne _ _ _ hk], fun j hj => by rw [hS9, sU_id hop2]; exact hI.chosen hj⟩), Wc.go hP hK hD hN hZ hS ht hW⟩, hS.F ht⟩) hS.2.2 dX2_completes_173
                      · omega
                    | succ n ih114 =>
                      intro el σ_7 H locs ls hE1 hE2 hS9 hA hP hD hS hl
                      refine lv_iload hx hb dX2_completes_114 (lv_at hl 0 rfl) ?_
                      refine lv_iload hx hb dX2_completes_116 (lv_at hl 1 rfl) ?_
                      refine n_icmp_gt hx hb (tgt := 164) (by omega) (by omega) dX2_completes_118 (by decide) (fun c_118 => ?_) (fun c_118 => ?_)
                      · omega
                      · refine lv_aload_n hx hb dX2_completes_121 rfl (lv_at hl 5 rfl) ?_
                        refine va_get (D := D) (ci := 1) (v := .ref (ad 15)) (C := RX2) (T := TX2) (N := 2) hx hb hts in_X2_completes_X2 hown hK hP 5 rfl rfl 1 (by decide) (hts _ lk_X2_completes_15) (fun _ h9 => h9) rfl dX2_completes_122 ?_
                        refine lv_iload hx hb dX2_completes_125 (lv_at hl 3 rfl) ?_
                        refine lv_iload hx hb dX2_completes_127 (lv_at hl 0 rfl) ?_
                        refine n_to (mI_succ _).symm ?_
                        refine n_ast (ws' := WC ad cI (sU σ_7 15 (sp - 1) (el + 1))) hx hb hK hP hD hS 15 0 rfl rfl (i := sp - 1) (by omega) (by decide) (WCs15 ..) dX2_completes_129 (fun H locs hP hD hS => ?_)
                        rw [hS9] at hP hD
                        have hon := opn_set (σ := σ) (i := sp - 1) (v := el + 1) hop1 hop2 (by omega)
                        refine lv_aload_n hx hb dX2_completes_130 rfl (lv_at hl 5 rfl) ?_
                        refine lv_aload_n hx hb dX2_completes_131 rfl (lv_at hl 6 rfl) ?_
                        refine lv_aload_n hx hb dX2_completes_132 rfl (lv_at hl 7 rfl) ?_
                        refine lv_iload hx hb dX2_completes_133 (lv_at hl 0 rfl) ?_
                        refine lv_iload_n hx hb dX2_completes_135 rfl (lv_at hl 8 rfl) ?_
                        refine q_icmp_ne hx hb (tgt := 145) (nI_eq (by omega) (by omega)) dX2_completes_136 (by decide) (fun c_136 => ?_) (fun c_136 => ?_)
                        · refine lv_iload_n hx hb dX2_completes_145 rfl (lv_at hl 8 rfl) ?_
                          refine lv_iload hx hb dX2_completes_146 (lv_at hl 9 rfl) ?_
                          refine lv_iconst (v := nI 1) hx hb dX2_completes_148 (by decide) ?_
                          refine n_add hx hb dX2_completes_149 ?_
                          refine va_calli (va_runV (As := [.ref (ad 1), .ref (ad 4), .int (nI f), .int (nI (dp + 1))]) (rest := []) ⟨hx, hb, hml, hown, hts⟩ (ih (sU σ 15 (sp - 1) (el + 1)) f (dp + 1) (hI.set15 (by omega)) (by omega) (by omega) (by omega) (by omega)) (cwV 4 hts gX2_completes_X2_completes rfl rfl rfl (by decide +kernel) ⟨by simp only [rX2_completes, rX2_holding, rX2_openSpot]; omega, by simp only [rX2_completes, rX2_holding, rX2_openSpot]; omega⟩) ⟨Wc.blind, va_recv hK hP (ci := 1) (q0 := 5) rfl rfl, fun U hU hW => ⟨rfl, Wc.go hP hK hD hN hZ hS hU hW⟩⟩ rfl rfl hl.1 rfl (lv_room (Nat.le_of_ble_eq_true rfl)) dX2_completes_150 ⟨Nat.zero_le _, Nat.zero_le _⟩) hS (fun q _ h => h) (fun q h => h) (fun r_9 σ_8 t H1 locs ht hvm hwσ_8 hB hz1 hk1 hS => ?_)
                          obtain ⟨hr_9, hwσ_8⟩ := hwσ_8
                          refine n_to (w := bI (cmpF d (sU σ 15 (sp - 1) (el + 1)) f)) (hr_9) ?_
                          obtain ⟨hP, -, hD, -⟩ := hB
                          rw [ht] at hP
                          generalize H1 = H at hP hS ⊢
                          refine q_if_eq hx hb (tgt := 158) (bI_z) dX2_completes_153 (by decide) (fun c_153 => ?_) (fun c_153 => ?_)
                          · have hcr : cmpF d (sU σ 15 (sp - 1) (el + 1)) (if el = f then f + 1 else f) = false := by first | (simp only [if_pos c_136]; exact c_153) | (simp only [if_neg c_136]; exact c_153)
                            obtain rfl := hwσ_8.1 c_153
                            refine lv_iinc (v := nI (el + 1)) (lv' := [(9, .int (nI (el + 1))), (8, .int (nI 1)), (7, .int (nI 0)), (6, .int (nI (sp - 1))), (5, .int (mI un)), (0, .ref (ad 5)), (1, .ref (ad 1)), (2, .ref (ad 4)), (3, .int (nI f)), (4, .int (nI dp))]) hx hb dX2_completes_158 hl (k := 0) rfl (nI_add _ _) (by decide) rfl (fun ls hl => ?_)
                            refine lv_goto (tgt := 114) hx hb dX2_completes_161 (by decide) ?_
                            exact ih114 (el + 1)  _ _ _ _  (by omega) (by omega) (fun b => by rw [sU_sU]) (by rw [hA]; simp only [anyF]; rw [if_neg (by rw [hcr]; decide)]) hP hD hS (lv_sub hl [0, 1, 2, 3, 4, 5, 6, 7, 8, 9] rfl)
                          · have hcr : cmpF d (sU σ 15 (sp - 1) (el + 1)) (if el = f then f + 1 else f) = true := by first | (simp only [if_pos c_136]; exact ts_nf c_153) | (simp only [if_neg c_136]; exact ts_nf c_153)
                            have hct : cmpF (d + 1) σ f = true := by rw [hcm, hA]; simp only [anyF]; rw [if_pos hcr]
                            refine lv_iconst (v := nI 1) hx hb dX2_completes_156 (by decide) ?_
                            exact W.zret (v := nI 1) hx hb hr (n_nar1) (fun t ht hW => ⟨⟨_, σ_8, rfl, (⟨by rw [hct]; rfl, fun q => absurd (hct.symm.trans q) (by decide), fun k hk => by rw [hwσ_8.2.1 k hk, sU_ne _ _ _ hk], hwσ_8.2.2⟩), Wc.go hP hK hD hN hZ hS ht hW⟩, hS.F ht⟩) hS.2.2 dX2_completes_157
                        · refine lv_iload_n hx hb dX2_completes_139 rfl (lv_at hl 8 rfl) ?_
                          refine lv_iconst (v := nI 1) hx hb dX2_completes_140 (by decide) ?_
                          refine n_add hx hb dX2_completes_141 ?_
                          refine lv_goto (tgt := 146) hx hb dX2_completes_142 (by decide) ?_
                          refine lv_iload hx hb dX2_completes_146 (lv_at hl 9 rfl) ?_
                          refine lv_iconst (v := nI 1) hx hb dX2_completes_148 (by decide) ?_
                          refine n_add hx hb dX2_completes_149 ?_
                          refine va_calli (va_runV (As := [.ref (ad 1), .ref (ad 4), .int (nI (f + 1)), .int (nI (dp + 1))]) (rest := []) ⟨hx, hb, hml, hown, hts⟩ (ih (sU σ 15 (sp - 1) (el + 1)) (f + 1) (dp + 1) (hI.set15 (by omega)) (by omega) (by omega) (by omega) (by omega)) (cwV 4 hts gX2_completes_X2_completes rfl rfl rfl (by decide +kernel) ⟨by simp only [rX2_completes, rX2_holding, rX2_openSpot]; omega, by simp only [rX2_completes, rX2_holding, rX2_openSpot]; omega⟩) ⟨Wc.blind, va_recv hK hP (ci := 1) (q0 := 5) rfl rfl, fun U hU hW => ⟨rfl, Wc.go hP hK hD hN hZ hS hU hW⟩⟩ rfl rfl hl.1 rfl (lv_room (Nat.le_of_ble_eq_true rfl)) dX2_completes_150 ⟨Nat.zero_le _, Nat.zero_le _⟩) hS (fun q _ h => h) (fun q h => h) (fun r_11 σ_10 t H1 locs ht hvm hwσ_10 hB hz1 hk1 hS => ?_)
                          obtain ⟨hr_11, hwσ_10⟩ := hwσ_10
                          refine n_to (w := bI (cmpF d (sU σ 15 (sp - 1) (el + 1)) (f + 1))) (hr_11) ?_
                          obtain ⟨hP, -, hD, -⟩ := hB
                          rw [ht] at hP
                          generalize H1 = H at hP hS ⊢
                          refine q_if_eq hx hb (tgt := 158) (bI_z) dX2_completes_153 (by decide) (fun c_153 => ?_) (fun c_153 => ?_)
                          · have hcr : cmpF d (sU σ 15 (sp - 1) (el + 1)) (if el = f then f + 1 else f) = false := by first | (simp only [if_pos c_136]; exact c_153) | (simp only [if_neg c_136]; exact c_153)
                            obtain rfl := hwσ_10.1 c_153
                            refine lv_iinc (v := nI (el + 1)) (lv' := [(9, .int (nI (el + 1))), (8, .int (nI 1)), (7, .int (nI 0)), (6, .int (nI (sp - 1))), (5, .int (mI un)), (0, .ref (ad 5)), (1, .ref (ad 1)), (2, .ref (ad 4)), (3, .int (nI f)), (4, .int (nI dp))]) hx hb dX2_completes_158 hl (k := 0) rfl (nI_add _ _) (by decide) rfl (fun ls hl => ?_)
                            refine lv_goto (tgt := 114) hx hb dX2_completes_161 (by decide) ?_
                            exact ih114 (el + 1)  _ _ _ _  (by omega) (by omega) (fun b => by rw [sU_sU]) (by rw [hA]; simp only [anyF]; rw [if_neg (by rw [hcr]; decide)]) hP hD hS (lv_sub hl [0, 1, 2, 3, 4, 5, 6, 7, 8, 9] rfl)
                          · have hcr : cmpF d (sU σ 15 (sp - 1) (el + 1)) (if el = f then f + 1 else f) = true := by first | (simp only [if_pos c_136]; exact ts_nf c_153) | (simp only [if_neg c_136]; exact ts_nf c_153)
                            have hct : cmpF (d + 1) σ f = true := by rw [hcm, hA]; simp only [anyF]; rw [if_pos hcr]
                            refine lv_iconst (v := nI 1) hx hb dX2_completes_156 (by decide) ?_
                            exact W.zret (v := nI 1) hx hb hr (n_nar1) (fun t ht hW => ⟨⟨_, σ_10, rfl, (⟨by rw [hct]; rfl, fun q => absurd (hct.symm.trans q) (by decide), fun k hk => by rw [hwσ_10.2.1 k hk, sU_ne _ _ _ hk], hwσ_10.2.2⟩), Wc.go hP hK hD hN hZ hS ht hW⟩, hS.F ht⟩) hS.2.2 dX2_completes_157
                  have htf : toF sp f = 1 := by unfold toF; first | (rw [if_pos c_86]) | (rw [if_neg c_86])
                  have hff : frF sp = 0 := by unfold frF; first | (rw [if_pos c_86]) | (rw [if_neg c_86])
                  exact lp114 (1 + 1 - 0) 0  _ _ _ _ (by omega) (by omega) (fun _ => rfl) (by rw [htf, hff]) hP hD hS (lv_sub hl [0, 1, 2, 3, 4, 5, 6, 7, 8, 9] rfl)
            · omega
        · have hct : cmpF (d + 1) σ f = true := cmpF_zero (by rw [hF, c_52])
          refine lv_iconst (v := nI 1) hx hb dX2_completes_55 (by decide) ?_
          exact W.zret (v := nI 1) hx hb hr (n_nar1) (fun t ht hW => ⟨⟨_, σ, rfl, (⟨by rw [hct]; rfl, fun q => absurd (hct.symm.trans q) (by decide), fun _ _ => rfl, fun j hj => hI.chosen hj⟩), Wc.go hP hK hD hN hZ hS ht hW⟩, hS.F ht⟩) hS.2.2 dX2_completes_56
      · omega
    | succ n ih11 =>
      intro cn un ls hF1 hun hF hl
      obtain ⟨rfl, hF1⟩ := hF1
      rw [mI_succ] at hl
      have hho := holdF_le σ n (σ 13 n) 0 0 (by omega)
      refine lv_iload hx hb dX2_completes_11 (lv_at hl 0 rfl) ?_
      refine lv_if_lt hx hb (tgt := 49) dX2_completes_13 (by decide) (fun c_13 => ?_) (fun c_13 => ?_)
      · exact absurd c_13 (nI_pos (by omega))
      · refine lv_aload_n hx hb dX2_completes_16 rfl (lv_at hl 2 rfl) ?_
        refine lv_aload_n hx hb dX2_completes_17 rfl (lv_at hl 3 rfl) ?_
        refine lv_aload_n hx hb dX2_completes_18 rfl (lv_at hl 4 rfl) ?_
        refine lv_iload hx hb dX2_completes_19 (lv_at hl 0 rfl) ?_
        refine vp_callSi (va_Run.run (va_runV (As := [.ref (ad 1), .ref (ad 4), .int (nI n)]) (rest := []) ⟨hx, hb, hml, hown, hts⟩ (c_X2_holding l D cI A ad σ n hI (by omega)) (cwV 3 hts gX2_completes_X2_holding rfl rfl rfl (by decide +kernel) ⟨by simp only [rX2_completes, rX2_holding, rX2_openSpot]; omega, by simp only [rX2_completes, rX2_holding, rX2_openSpot]; omega⟩) ⟨Wc.blind, va_recv hK hP (ci := 1) (q0 := 5) rfl rfl, fun U hU hW => ⟨rfl, Wc.go hP hK hD hN hZ hS hU hW⟩⟩ rfl rfl hl.1 rfl (lv_room (Nat.le_of_ble_eq_true rfl)) dX2_completes_21 ⟨Nat.zero_le _, Nat.zero_le _⟩)) (fun r_12 hr_12 => ?_)
        refine n_to (w := nI (holdF σ n (σ 13 n) 0 0)) (hr_12.trans rfl) ?_
        refine lv_istore (lv' := [(7, .int (nI (holdF σ n (σ 13 n) 0 0))), (6, .int (nI n)), (5, .int (mI un)), (0, .ref (ad 5)), (1, .ref (ad 1)), (2, .ref (ad 4)), (3, .int (nI f)), (4, .int (nI dp))]) hx hb dX2_completes_24 hl (by decide) rfl (fun ls hl => ?_)
        refine lv_iload hx hb dX2_completes_26 (lv_at hl 0 rfl) ?_
        refine q_if_ne hx hb (tgt := 33) (nI_z (by omega)) dX2_completes_28 (by decide) (fun c_28 => ?_) (fun c_28 => ?_)
        · refine lv_iload hx hb dX2_completes_33 (lv_at hl 0 rfl) ?_
          refine lv_iconst (v := nI 2) hx hb dX2_completes_35 (by decide) ?_
          refine q_icmp_ne hx hb (tgt := 43) (nI_eq (by omega) (by omega)) dX2_completes_36 (by decide) (fun c_36 => ?_) (fun c_36 => ?_)
          · refine lv_iinc (v := mI n) (lv' := [(6, .int (mI n)), (7, .int (nI (holdF σ n (σ 13 n) 0 0))), (5, .int (mI un)), (0, .ref (ad 5)), (1, .ref (ad 1)), (2, .ref (ad 4)), (3, .int (nI f)), (4, .int (nI dp))]) hx hb dX2_completes_43 hl (k := 1) rfl (n_m1 _) (by decide) rfl (fun ls hl => ?_)
            refine lv_goto (tgt := 11) hx hb dX2_completes_46 (by decide) ?_
            exact ih11 n un  _  (⟨rfl, by omega⟩) (by omega) (by rw [hF]; simp [scF, *]) (lv_sub hl [0, 2, 3, 4, 5, 6, 7] rfl)
          · refine lv_iload hx hb dX2_completes_39 (lv_at hl 1 rfl) ?_
            refine n_to (w := mI (n + 1)) ((mI_succ _).symm) ?_
            refine lv_istore (lv' := [(5, .int (mI (n + 1))), (7, .int (nI (holdF σ n (σ 13 n) 0 0))), (6, .int (nI n)), (0, .ref (ad 5)), (1, .ref (ad 1)), (2, .ref (ad 4)), (3, .int (nI f)), (4, .int (nI dp))]) hx hb dX2_completes_41 hl (by decide) rfl (fun ls hl => ?_)
            refine lv_iinc (v := mI n) (lv' := [(6, .int (mI n)), (5, .int (mI (n + 1))), (7, .int (nI (holdF σ n (σ 13 n) 0 0))), (0, .ref (ad 5)), (1, .ref (ad 1)), (2, .ref (ad 4)), (3, .int (nI f)), (4, .int (nI dp))]) hx hb dX2_completes_43 hl (k := 2) rfl (n_m1 _) (by decide) rfl (fun ls hl => ?_)
            refine lv_goto (tgt := 11) hx hb dX2_completes_46 (by decide) ?_
            exact ih11 n (n + 1)  _  (⟨rfl, by omega⟩) (by omega) (by rw [hF]; simp [scF, *]) (lv_sub hl [0, 1, 3, 4, 5, 6, 7] rfl)
        · have hcf : cmpF (d + 1) σ f = false := cmpF_none (by rw [hF]; simp [scF, c_28])
          refine lv_iconst (v := nI 0) hx hb dX2_completes_31 (by decide) ?_
          exact W.zret (v := nI 0) hx hb hr (n_nar0) (fun t ht hW => ⟨⟨_, σ, rfl, (⟨by rw [hcf]; rfl, fun _ => rfl, fun _ _ => rfl, fun j hj => hI.chosen hj⟩), Wc.go hP hK hD hN hZ hS ht hW⟩, hS.F ht⟩) hS.2.2 dX2_completes_32
  exact lp11 (σ 0 4) (σ 0 4) 0  _ (⟨rfl, Nat.le_refl _⟩) (by omega) (rfl) (lv_sub hl [0, 1, 2, 3, 4, 5, 6] rfl)
end
section
/-! THE SEARCH IS RIGHT: cmpF finds an assignment of elements to spots, if there is one -/
def eqV (σ : Nat → Nat → Nat) (V : Nat → Nat) (q t u : Nat) : Prop := (q = 0 → σ 14 (t * 4) = σ 14 (u * 4)) ∧ (q ≠ 0 → ∀ j, j < widF q → V (σ 14 (t * 4 + j)) = V (σ 14 (u * 4 + j)))
def LTV (σ : Nat → Nat → Nat) (V : Nat → Nat) (v : Nat) : Prop := saysB v = true ↔ eqV σ V (σ 6 (v % 32)) (v % 32) (v / 32 % 32)
def ClV (σ : Nat → Nat → Nat) (V : Nat → Nat) (cl : Nat) : Prop := ∃ k, k < σ 13 cl ∧ LTV σ V (σ 12 (cl * 3 + k))
def AllV (σ : Nat → Nat → Nat) (V : Nat → Nat) : Prop := ∀ cl, cl < σ 0 4 → ClV σ V cl
def ExtV (σ : Nat → Nat → Nat) (V : Nat → Nat) : Prop := ∀ j, j < 10 → σ 15 j ≠ 0 → V j + 1 = σ 15 j
def RngV (V : Nat → Nat) : Prop := V 9 ≤ 1 ∧ ∀ j, j < 10 → j ≠ 5 → j ≠ 9 → 2 ≤ V j
theorem pl_1 {σ : Nat → Nat → Nat} {V : Nat → Nat} {q x y : Nat} (hE : ExtV σ V) (hx : x < 10) (hy : y < 10) (h : plF σ q x y = 1) : V x = V y := by
  unfold plF at h
  repeat' split at h
  all_goals first | (rename_i q; rw [q]; done) | omega | skip
  rename_i h1 h2 h3
  have a := hE x hx h1
  have b := hE y hy h2
  omega
theorem pl_0 {σ : Nat → Nat → Nat} {V : Nat → Nat} {q x y : Nat} (hE : ExtV σ V) (hq : q ≠ 0) (hx : x < 10) (hy : y < 10) (h : plF σ q x y = 0) : V x ≠ V y := by
  unfold plF at h
  repeat' split at h
  all_goals first | omega | skip
  rename_i h1 h2 h3
  have a := hE x hx h1
  have b := hE y hy h2
  omega
theorem pl_q0 {σ : Nat → Nat → Nat} {x y : Nat} : plF σ 0 x y = if x = y then 1 else 0 := by
  unfold plF; split <;> simp
theorem rl_1 {σ : Nat → Nat → Nat} {q t u : Nat} : ∀ n j al, rlF σ q t u n j al = 1 → al = 1 ∧ ∀ i, j ≤ i → i < j + n → plF σ q (σ 14 (t * 4 + i)) (σ 14 (u * 4 + i)) = 1
  | 0, j, al, h => ⟨h, fun i h1 h2 => by omega⟩
  | n + 1, j, al, h => by
    unfold rlF at h
    split at h
    · omega
    · split at h
      · rename_i h1
        obtain ⟨a, b⟩ := rl_1 n _ _ h
        refine ⟨a, fun i h2 h3 => ?_⟩
        rcases Nat.lt_or_ge j i with c | c
        · exact b i (by omega) (by omega)
        · obtain rfl : i = j := by omega
          exact h1
      · rename_i h1
        exact absurd (rl_1 n _ _ h).1 h1
theorem rl_0 {σ : Nat → Nat → Nat} {q t u : Nat} : ∀ n j al, rlF σ q t u n j al = 0 → al ≠ 0 → ∃ i, j ≤ i ∧ i < j + n ∧ plF σ q (σ 14 (t * 4 + i)) (σ 14 (u * 4 + i)) = 0
  | 0, j, al, h, h0 => absurd h h0
  | n + 1, j, al, h, h0 => by
    unfold rlF at h
    rw [if_neg h0] at h
    split at h
    · obtain ⟨i, a, b, c⟩ := rl_0 n _ _ h h0
      exact ⟨i, by omega, by omega, c⟩
    · by_cases h1 : plF σ q (σ 14 (t * 4 + j)) (σ 14 (u * 4 + j)) = 0
      · exact ⟨j, by omega, by omega, h1⟩
      · obtain ⟨i, a, b, c⟩ := rl_0 n _ _ h h1
        exact ⟨i, by omega, by omega, c⟩
theorem rl_2 {σ : Nat → Nat → Nat} {q t u : Nat} : ∀ n j al, rlF σ q t u n j al = 2 → al ≠ 2 → ∃ i, j ≤ i ∧ i < j + n ∧ plF σ q (σ 14 (t * 4 + i)) (σ 14 (u * 4 + i)) = 2
  | 0, j, al, h, h0 => absurd h h0
  | n + 1, j, al, h, h0 => by
    unfold rlF at h
    split at h
    · omega
    · split at h
      · obtain ⟨i, a, b, c⟩ := rl_2 n _ _ h h0
        exact ⟨i, by omega, by omega, c⟩
      · by_cases h1 : plF σ q (σ 14 (t * 4 + j)) (σ 14 (u * 4 + j)) = 2
        · exact ⟨j, by omega, by omega, h1⟩
        · obtain ⟨i, a, b, c⟩ := rl_2 n _ _ h h1
          exact ⟨i, by omega, by omega, c⟩
theorem widF_le (q : Nat) : widF q ≤ 4 ∧ 1 ≤ widF q := by unfold widF; split <;> omega
theorem al_1 {σ : Nat → Nat → Nat} {V : Nat → Nat} {v : Nat} (hI : IC σ) (hv : litOK v) (hE : ExtV σ V) (h : alF σ v = 1) : eqV σ V (σ 6 (v % 32)) (v % 32) (v / 32 % 32) := by
  obtain ⟨-, b⟩ := rl_1 _ _ _ h
  have hw := widF_le (σ 6 (v % 32))
  obtain ⟨h1, h2, h3⟩ := hv
  refine ⟨fun q => ?_, fun q j hj => ?_⟩
  · have := b 0 (by omega) (by omega)
    rw [q, pl_q0] at this
    split at this
    · assumption
    · omega
  · exact pl_1 hE (hI.parts (by omega)) (hI.parts (by omega)) (b j (by omega) (by omega))
theorem al_0 {σ : Nat → Nat → Nat} {V : Nat → Nat} {v : Nat} (hI : IC σ) (hv : litOK v) (hE : ExtV σ V) (h : alF σ v = 0) : ¬ eqV σ V (σ 6 (v % 32)) (v % 32) (v / 32 % 32) := by
  obtain ⟨i, a, b, c⟩ := rl_0 _ _ _ h (by omega)
  have hw := widF_le (σ 6 (v % 32))
  obtain ⟨h1, h2, h3⟩ := hv
  intro he
  by_cases q : σ 6 (v % 32) = 0
  · have e := he.1 q
    have hi : i = 0 := by rw [q] at b; have : widF 0 = 1 := rfl; omega
    rw [q, hi, pl_q0] at c
    split at c
    · omega
    · exact absurd e (by assumption)
  · exact pl_0 hE q (hI.parts (by omega)) (hI.parts (by omega)) c (he.2 q i (by omega))
theorem rt_1 {σ : Nat → Nat → Nat} {V : Nat → Nat} {v : Nat} (hI : IC σ) (hv : litOK v) (hE : ExtV σ V) (h : rtF σ v = 1) : LTV σ V v := by
  unfold rtF at h
  split at h
  · omega
  · split at h
    · rename_i h2
      exact ⟨fun _ => al_1 hI hv hE h, fun _ => h2⟩
    · rename_i h2
      split at h
      · omega
      · rename_i h0 h1
        have hal := @alF_le σ v
        exact ⟨fun q => absurd q h2, fun q => absurd q (al_0 hI hv hE (by omega))⟩
theorem rt_0 {σ : Nat → Nat → Nat} {V : Nat → Nat} {v : Nat} (hI : IC σ) (hv : litOK v) (hE : ExtV σ V) (h : rtF σ v = 0) : ¬ LTV σ V v := by
  unfold rtF at h
  split at h
  · omega
  · split at h
    · rename_i h2
      exact fun q => al_0 hI hv hE h (q.mp h2)
    · rename_i h2
      split at h
      · rename_i h1
        exact fun q => h2 (q.mpr (al_1 hI hv hE h1))
      · omega
theorem rt_2 {σ : Nat → Nat → Nat} {v : Nat} (h : rtF σ v = 2) : alF σ v = 2 := by
  have hal := @alF_le σ v
  unfold rtF at h
  repeat' split at h
  all_goals first | assumption | omega
theorem oso_ne {σ : Nat → Nat → Nat} {q t u : Nat} : ∀ n j, (∃ i, j ≤ i ∧ i < j + n ∧ plF σ q (σ 14 (t * 4 + i)) (σ 14 (u * 4 + i)) = 2) → osoF σ q t u n j ≠ 0
  | 0, j, h => by obtain ⟨i, a, b, -⟩ := h; omega
  | n + 1, j, h => by
    unfold osoF
    split
    · split <;> omega
    · rename_i h2
      obtain ⟨i, a, b, c⟩ := h
      refine oso_ne n (j + 1) ⟨i, ?_, by omega, c⟩
      rcases Nat.lt_or_ge j i with d | d
      · omega
      · obtain rfl : i = j := by omega
        exact absurd c h2
theorem ho_1 {σ : Nat → Nat → Nat} {V : Nat → Nat} {cl : Nat} (hI : IC σ) (hE : ExtV σ V) : ∀ n k an, cl * 3 + k + n ≤ 33 → holdF σ cl n k an = 1 → an ≠ 1 → ∃ i, k ≤ i ∧ i < k + n ∧ LTV σ V (σ 12 (cl * 3 + i))
  | 0, k, an, _, h, h0 => absurd h h0
  | n + 1, k, an, hk, h, h0 => by
    unfold holdF at h
    split at h
    · rename_i h1
      exact ⟨k, by omega, by omega, rt_1 hI (hI.alit (by omega)) hE h1⟩
    · split at h
      · obtain ⟨i, a, b, c⟩ := ho_1 hI hE n _ _ (by omega) h (by omega)
        exact ⟨i, by omega, by omega, c⟩
      · obtain ⟨i, a, b, c⟩ := ho_1 hI hE n _ _ (by omega) h h0
        exact ⟨i, by omega, by omega, c⟩
theorem ho_0 {σ : Nat → Nat → Nat} {V : Nat → Nat} {cl : Nat} (hI : IC σ) (hE : ExtV σ V) : ∀ n k an, cl * 3 + k + n ≤ 33 → holdF σ cl n k an = 0 → an = 0 ∧ ∀ i, k ≤ i → i < k + n → ¬ LTV σ V (σ 12 (cl * 3 + i))
  | 0, k, an, _, h => ⟨h, fun i a b => by omega⟩
  | n + 1, k, an, hk, h => by
    have hr := @rtF_le σ (σ 12 (cl * 3 + k))
    unfold holdF at h
    split at h
    · omega
    · split at h
      · exact absurd (ho_0 hI hE n _ _ (by omega) h).1 (by omega)
      · obtain ⟨a, b⟩ := ho_0 hI hE n _ _ (by omega) h
        refine ⟨a, fun i c d => ?_⟩
        rcases Nat.lt_or_ge k i with e | e
        · exact b i (by omega) (by omega)
        · obtain rfl : i = k := by omega
          exact rt_0 hI (hI.alit (by omega)) hE (by omega)
theorem ho_2 {σ : Nat → Nat → Nat} {cl : Nat} : ∀ n k an, holdF σ cl n k an = 2 → an ≠ 2 → ∃ i, k ≤ i ∧ i < k + n ∧ rtF σ (σ 12 (cl * 3 + i)) = 2
  | 0, k, an, h, h0 => absurd h h0
  | n + 1, k, an, h, h0 => by
    unfold holdF at h
    split at h
    · omega
    · split at h
      · rename_i h2
        exact ⟨k, by omega, by omega, h2⟩
      · obtain ⟨i, a, b, c⟩ := ho_2 n _ _ h h0
        exact ⟨i, by omega, by omega, c⟩
theorem os_ne {σ : Nat → Nat → Nat} {cl : Nat} : ∀ n k, (∃ i, k ≤ i ∧ i < k + n ∧ rtF σ (σ 12 (cl * 3 + i)) = 2) → osF σ cl n k ≠ 0
  | 0, k, h => by obtain ⟨i, a, b, -⟩ := h; omega
  | n + 1, k, h => by
    unfold osF
    split
    · rename_i h2
      obtain ⟨i, a, b, c⟩ := rl_2 _ _ _ (rt_2 h2) (by omega)
      exact oso_ne _ _ ⟨i, a, b, c⟩
    · rename_i h2
      obtain ⟨i, a, b, c⟩ := h
      refine os_ne n (k + 1) ⟨i, ?_, by omega, c⟩
      rcases Nat.lt_or_ge k i with d | d
      · omega
      · obtain rfl : i = k := by omega
        exact absurd c h2
theorem sc_none {σ : Nat → Nat → Nat} : ∀ n un, scF σ n un = none → ∃ i, i < n ∧ holdF σ i (σ 13 i) 0 0 = 0
  | 0, un, h => by cases h
  | n + 1, un, h => by
    unfold scF at h
    split at h
    · rename_i h1; exact ⟨n, by omega, h1⟩
    · split at h
      · obtain ⟨i, a, b⟩ := sc_none n _ h; exact ⟨i, by omega, b⟩
      · obtain ⟨i, a, b⟩ := sc_none n _ h; exact ⟨i, by omega, b⟩
theorem sc_zero {σ : Nat → Nat → Nat} : ∀ n un, scF σ n un = some 0 → un = 0 ∧ ∀ i, i < n → holdF σ i (σ 13 i) 0 0 = 1
  | 0, un, h => ⟨Option.some.inj h, fun i q => by omega⟩
  | n + 1, un, h => by
    have hho := holdF_le σ n (σ 13 n) 0 0 (by omega)
    unfold scF at h
    split at h
    · cases h
    · split at h
      · exact absurd (sc_zero n _ h).1 (by omega)
      · obtain ⟨a, b⟩ := sc_zero n _ h
        refine ⟨a, fun i q => ?_⟩
        rcases Nat.lt_or_ge i n with c | c
        · exact b i c
        · obtain rfl : i = n := by omega
          omega
theorem sc_some {σ : Nat → Nat → Nat} {c : Nat} : ∀ n un, scF σ n un = some (c + 1) → un = c + 1 ∨ (c < n ∧ holdF σ c (σ 13 c) 0 0 = 2)
  | 0, un, h => Or.inl (Option.some.inj h)
  | n + 1, un, h => by
    unfold scF at h
    split at h
    · cases h
    · split at h
      · rename_i h2
        rcases sc_some n _ h with a | ⟨a, b⟩
        · obtain rfl : n = c := by omega
          exact Or.inr ⟨by omega, h2⟩
        · exact Or.inr ⟨by omega, b⟩
      · rcases sc_some n _ h with a | ⟨a, b⟩
        · exact Or.inl a
        · exact Or.inr ⟨by omega, b⟩
/-- what is chosen so far -/
def ChS (σ : Nat → Nat → Nat) (f : Nat) : Prop := σ 15 5 = 1 ∧ σ 15 9 ≤ 2 ∧ 2 ≤ f ∧ ∀ j, j < 10 → j ≠ 5 → j ≠ 9 → σ 15 j ≠ 0 → 3 ≤ σ 15 j ∧ σ 15 j ≤ f
theorem any_true {P : Nat → Bool} : ∀ n el, anyF P n el = true ↔ ∃ i, el ≤ i ∧ i < el + n ∧ P i = true
  | 0, el => by
    constructor
    · intro h; cases h
    · rintro ⟨i, a, b, -⟩; omega
  | n + 1, el => by
    unfold anyF
    split
    · rename_i h
      exact ⟨fun _ => ⟨el, by omega, by omega, h⟩, fun _ => rfl⟩
    · rename_i h
      rw [any_true n (el + 1)]
      constructor
      · rintro ⟨i, a, b, c⟩; exact ⟨i, by omega, by omega, c⟩
      · rintro ⟨i, a, b, c⟩
        refine ⟨i, ?_, by omega, c⟩
        rcases Nat.lt_or_ge el i with d | d
        · omega
        · obtain rfl : i = el := by omega
          exact absurd c h
def swp (a b x : Nat) : Nat := if x = a then b else if x = b then a else x
theorem swp_inj {a b x y : Nat} : swp a b x = swp a b y ↔ x = y := by
  unfold swp
  constructor
  · intro h
    repeat' split at h
    all_goals omega
  · intro h; rw [h]
theorem AllV.swap {σ : Nat → Nat → Nat} {V : Nat → Nat} (a b : Nat) (h : AllV σ V) : AllV σ (fun j => swp a b (V j)) := by
  intro cl hc
  obtain ⟨k, hk, h1⟩ := h cl hc
  refine ⟨k, hk, ?_⟩
  have e : ∀ q t u, eqV σ (fun j => swp a b (V j)) q t u ↔ eqV σ V q t u := by
    intro q t u
    unfold eqV
    simp only [swp_inj]
  unfold LTV
  rw [e]
  exact h1
theorem cmp_sound {f0 : Nat} : ∀ (d : Nat) (σ : Nat → Nat → Nat) (f : Nat), f0 ≤ f → IC σ → ChS σ f → f + opn σ ≤ 12 → cmpF d σ f = true → ∃ V, ExtV σ V ∧ RngV V ∧ AllV σ V
  | 0, σ, f, _, _, _, _, h => by cases h
  | d + 1, σ, f, hf0, hI, hC, hfo, h => by
    obtain ⟨c1, c2, c3, c4⟩ := id hC
    cases hs : scF σ (σ 0 4) 0 with
    | none => rw [cmpF_none hs] at h; cases h
    | some un =>
      cases un with
      | zero =>
        obtain ⟨-, b⟩ := sc_zero _ _ hs
        have hE : ExtV σ (fun j => if σ 15 j = 0 then (if j = 9 then 0 else 2) else σ 15 j - 1) := by
          intro j hj h0
          show (if σ 15 j = 0 then _ else σ 15 j - 1) + 1 = σ 15 j
          rw [if_neg h0]; omega
        refine ⟨_, hE, ⟨?_, fun j hj h5 h9 => ?_⟩, fun cl hc => ?_⟩
        · show (if σ 15 9 = 0 then (if 9 = 9 then 0 else 2) else σ 15 9 - 1) ≤ 1
          split
          · simp
          · omega
        · show 2 ≤ if σ 15 j = 0 then (if j = 9 then 0 else 2) else σ 15 j - 1
          split
          · simp [h9]
          · rename_i h0
            have := c4 j hj h5 h9 h0
            omega
        · have hsz := hI.asize (j := cl) (by have := hI.asked; omega)
          obtain ⟨i, -, q2, q3⟩ := ho_1 hI hE (σ 13 cl) 0 0 (by have := hI.asked; omega) (b cl hc) (by omega)
          exact ⟨i, by omega, q3⟩
      | succ cc =>
        rw [cmpF_some hs] at h
        have hcc := sc_some _ _ hs
        have hca := hI.asked
        have hsz := hI.asize (j := cc) (by omega)
        have hop := osF_open hI (cl := cc) (σ 13 cc) 0 (by omega)
        obtain ⟨sp, hsp⟩ : ∃ z, z = osF σ cc (σ 13 cc) 0 := ⟨_, rfl⟩
        rw [← hsp] at h hop
        split at h
        · cases h
        · rename_i hs0
          obtain ⟨ho1, ho2⟩ := hop hs0
          obtain ⟨el, a, b, h⟩ := (any_true _ _).mp h
          have hon := opn_set (σ := σ) (i := sp - 1) (v := el + 1) ho1 ho2 (by omega)
          have hne : sp - 1 ≠ 5 := fun q => by rw [q] at ho2; omega
          obtain ⟨V, h1, h2, h3⟩ := cmp_sound (f0 := f0) d (sU σ 15 (sp - 1) (el + 1)) (if el = f then f + 1 else f) (by split <;> omega) (hI.set15 (by
              unfold frF toF at b
              split at b <;> omega)) (by
              unfold frF toF at b
              unfold frF at a
              refine ⟨by rw [sU_at, if_neg (by omega)]; exact c1, ?_, by split <;> omega, fun j hj h5 h9 h0 => ?_⟩
              · rw [sU_at]
                split
                · rw [if_pos (by omega)] at b; rw [if_pos (by omega)] at b; omega
                · exact c2
              · rw [sU_at] at h0 ⊢
                split at h0
                · rename_i hj2
                  rw [if_neg (by omega), if_neg (by omega)] at b
                  rw [if_neg (by omega)] at a
                  rw [if_pos hj2]
                  split <;> omega
                · rename_i hj2
                  have := c4 j hj h5 h9 h0
                  rw [if_neg hj2]
                  split <;> omega) (by split <;> omega) h
          refine ⟨V, fun j hj h0 => ?_, h2, h3⟩
          have hj2 : j ≠ sp - 1 := fun q => h0 (by rw [q]; exact ho2)
          have := h1 j hj (by rw [sU_at, if_neg hj2]; exact h0)
          rw [sU_at, if_neg hj2] at this
          exact this
theorem cmp_all : ∀ (d : Nat) (σ : Nat → Nat → Nat) (f : Nat), IC σ → ChS σ f → f + opn σ ≤ 12 → opn σ < d → (∃ V, ExtV σ V ∧ RngV V ∧ AllV σ V) → cmpF d σ f = true
  | 0, σ, f, _, _, _, h, _ => absurd h (Nat.not_lt_zero _)
  | d + 1, σ, f, hI, hC, hfo, hd, ⟨V, hE, hR, hA⟩ => by
    obtain ⟨c1, c2, c3, c4⟩ := id hC
    have hca := hI.asked
    cases hs : scF σ (σ 0 4) 0 with
    | none =>
      obtain ⟨i, a, b⟩ := sc_none _ _ hs
      have hsz := hI.asize (j := i) (by omega)
      obtain ⟨-, q⟩ := ho_0 hI hE (σ 13 i) 0 0 (by omega) b
      obtain ⟨k, k1, k2⟩ := hA i a
      exact absurd k2 (q k (by omega) (by omega))
    | some un =>
      cases un with
      | zero => exact cmpF_zero hs
      | succ cc =>
        rw [cmpF_some hs]
        obtain ⟨hcc, hc2⟩ : cc < σ 0 4 ∧ holdF σ cc (σ 13 cc) 0 0 = 2 := by
          rcases sc_some _ _ hs with q | q
          · omega
          · exact q
        have hsz := hI.asize (j := cc) (by omega)
        have hs0 : osF σ cc (σ 13 cc) 0 ≠ 0 := os_ne _ _ (ho_2 _ _ _ hc2 (by omega))
        obtain ⟨ho1, ho2⟩ := osF_open hI (cl := cc) (σ 13 cc) 0 (by omega) hs0
        obtain ⟨sp, hsp⟩ : ∃ z, z = osF σ cc (σ 13 cc) 0 := ⟨_, rfl⟩
        rw [← hsp] at hs0 ho1 ho2 ⊢
        rw [if_neg hs0, any_true]
        have hne : sp - 1 ≠ 5 := fun q => by rw [q] at ho2; omega
        have hV5 : V 5 = 0 := by have := hE 5 (by omega) (by omega); omega
        have key : ∀ (el : Nat) (V' : Nat → Nat), frF sp ≤ el → el < frF sp + (toF sp f + 1 - frF sp) → V' (sp - 1) = el → (∀ j, j < 10 → j ≠ sp - 1 → σ 15 j ≠ 0 → V' j = V j) → RngV V' → AllV σ V' → ∃ i, frF sp ≤ i ∧ i < frF sp + (toF sp f + 1 - frF sp) ∧ cmpF d (sU σ 15 (sp - 1) (i + 1)) (if i = f then f + 1 else f) = true := by
          intro el V' a b e1 e2 e3 e4
          have hon := opn_set (σ := σ) (i := sp - 1) (v := el + 1) ho1 ho2 (by omega)
          refine ⟨el, a, b, ?_⟩
          unfold frF toF at b
          unfold frF at a
          refine cmp_all d _ _ (hI.set15 (by split at b <;> omega)) ?_ (by split <;> omega) (by omega) ⟨V', fun j hj h0 => ?_, e3, e4⟩
          · refine ⟨by rw [sU_at, if_neg (by omega)]; exact c1, ?_, by split <;> omega, fun j hj h5 h9 h0 => ?_⟩
            · rw [sU_at]
              split
              · rw [if_pos (by omega)] at b; rw [if_pos (by omega)] at b; omega
              · exact c2
            · rw [sU_at] at h0 ⊢
              split at h0
              · rename_i hj2
                rw [if_neg (by omega), if_neg (by omega)] at b
                rw [if_neg (by omega)] at a
                rw [if_pos hj2]
                split <;> omega
              · rename_i hj2
                have := c4 j hj h5 h9 h0
                rw [if_neg hj2]
                split <;> omega
          · rw [sU_at] at h0 ⊢
            by_cases hj2 : j = sp - 1
            · rw [if_pos hj2, hj2, e1]
            · rw [if_neg hj2] at h0 ⊢
              rw [e2 j hj hj2 h0]
              exact hE j hj h0
        by_cases h9 : sp - 1 = 9
        · refine key (V 9) V ?_ ?_ (by rw [h9]) (fun _ _ _ _ => rfl) hR hA
          · unfold frF; rw [if_pos h9]; omega
          · unfold frF toF; rw [if_pos h9, if_pos h9]; have := hR.1; omega
        · have h2 := hR.2 (sp - 1) ho1 hne h9
          by_cases hle : V (sp - 1) ≤ f
          · refine key (V (sp - 1)) V ?_ ?_ rfl (fun _ _ _ _ => rfl) hR hA
            · unfold frF; rw [if_neg h9]; exact h2
            · unfold frF toF; rw [if_neg h9, if_neg h9]; omega
          · refine key f (fun j => swp (V (sp - 1)) f (V j)) ?_ ?_ (by simp [swp]) (fun j hj hj2 h0 => ?_) ⟨?_, fun j hj h5 h9 => ?_⟩ (hA.swap _ _)
            · unfold frF; rw [if_neg h9]; exact c3
            · unfold frF toF; rw [if_neg h9, if_neg h9]; omega
            · have hVj := hE j hj h0
              have hlt : V j < f := by
                by_cases q5 : j = 5
                · rw [q5, hV5]; omega
                · by_cases q9 : j = 9
                  · rw [q9]; have := hR.1; omega
                  · have := c4 j hj q5 q9 h0; omega
              show swp (V (sp - 1)) f (V j) = V j
              unfold swp
              rw [if_neg (by omega), if_neg (by omega)]
            · show swp (V (sp - 1)) f (V 9) ≤ 1
              have := hR.1
              unfold swp
              rw [if_neg (by omega), if_neg (by omega)]
              exact this
            · show 2 ≤ swp (V (sp - 1)) f (V j)
              have := hR.2 j hj h5 h9
              unfold swp
              split
              · omega
              · split <;> omega
theorem cmp_iff {d : Nat} {σ : Nat → Nat → Nat} {f : Nat} (hI : IC σ) (hC : ChS σ f) (hfo : f + opn σ ≤ 12) (hd : opn σ < d) : cmpF d σ f = true ↔ ∃ V, ExtV σ V ∧ RngV V ∧ AllV σ V :=
  ⟨cmp_sound (f0 := 0) d σ f (Nat.zero_le _) hI hC hfo, cmp_all d σ f hI hC hfo hd⟩
end
section
/-! WHAT TERMS ARE in a way: their spots, by the terms' table alone; what 'finds' answers -/
def WF (σ : Nat → Nat → Nat) : Prop := σ 6 0 = 0 ∧ σ 6 1 = 0 ∧ σ 6 2 = 0 ∧ σ 6 3 = 1 ∧ σ 6 4 = 1 ∧ σ 6 5 = 2 ∧ σ 6 6 = 2 ∧ ∀ t, 7 ≤ t → t < σ 0 1 → σ 6 (σ 7 t - 1) = 2 ∧ (σ 6 t ≠ 1 → σ 6 (σ 9 t - 1) = 1)
def PcF (σ : Nat → Nat → Nat) (w : Nat) : Nat → Nat → Nat → Nat
  | 0, _, _ => 0
  | n + 1, t, j => if t < 3 then lowF (w * 3 + t) else if t < 5 then t - 3 else if t < 7 then 2 + (t - 5) * 4 + lpF w j else if σ 6 t = 1 then PcF σ w n (σ 7 t - 1) (lowF (w * 3 + (σ 8 t - 1))) else if j ≠ 3 ∧ lowF (w * 3 + j) = lowF (w * 3 + (σ 8 t - 1)) then PcF σ w n (σ 9 t - 1) 0 else PcF σ w n (σ 7 t - 1) j
def den (σ : Nat → Nat → Nat) (w t j : Nat) : Nat := PcF σ w 25 t j
theorem Pc_of {σ : Nat → Nat → Nat} {w : Nat} {P : Nat → Nat} (hI : IC σ) (hW : WF σ) (hN : PN w P) (hT : ∀ t, 7 ≤ t → t < σ 0 1 → PT σ w P t) : ∀ n t j, t < n → t < σ 0 1 → j < 4 → (σ 6 t ≠ 2 → j = 0) → P (t * 4 + j) = PcF σ w n t j := by
  intro n
  induction n with
  | zero => intro t j h; omega
  | succ n ih =>
    intro t j hn ht hj hs
    obtain ⟨s0, s1, s2, s3, s4, s5, s6, hw⟩ := id hW
    unfold PcF
    by_cases h3 : t < 3
    · rw [if_pos h3]
      have : j = 0 := hs (by rcases (show t = 0 ∨ t = 1 ∨ t = 2 by omega) with rfl | rfl | rfl <;> omega)
      rw [this]; exact hN.1 t h3
    · rw [if_neg h3]
      by_cases h5 : t < 5
      · rw [if_pos h5]
        have : j = 0 := hs (by rcases (show t = 3 ∨ t = 4 by omega) with rfl | rfl <;> omega)
        rw [this]
        have := hN.2.1 (t - 3) (by omega)
        rw [show (3 + (t - 3)) * 4 = t * 4 + 0 by omega] at this
        exact this
      · rw [if_neg h5]
        by_cases h7 : t < 7
        · rw [if_pos h7]
          have := hN.2.2 (t - 5) (by omega) j hj
          rw [show (5 + (t - 5)) * 4 = t * 4 by omega] at this
          exact this
        · rw [if_neg h7]
          have hm := hI.made (j := t) (by omega) ht
          obtain ⟨w1, w2⟩ := hw t (by omega) ht
          obtain ⟨p1, p2⟩ := hT t (by omega) ht
          by_cases hq : σ 6 t = 1
          · rw [if_pos hq]
            have : j = 0 := hs (by omega)
            rw [this]
            have hl := lowF_le (w * 3 + (σ 8 t - 1))
            rw [← ih (σ 7 t - 1) _ (by omega) (by omega) (by omega) (fun q => absurd w1 q)]
            exact p1 hq
          · rw [if_neg hq]
            rw [p2 hq j hj]
            unfold sv
            split
            · rw [← ih (σ 9 t - 1) 0 (by omega) (by omega) (by omega) (fun _ => rfl)]
              rfl
            · rw [← ih (σ 7 t - 1) j (by omega) (by omega) hj (fun q => absurd w1 q)]
def eqD (σ : Nat → Nat → Nat) (w : Nat) (V : Nat → Nat) (t u : Nat) : Prop := (σ 6 t = 0 → den σ w t 0 = den σ w u 0) ∧ (σ 6 t ≠ 0 → ∀ j, j < widF (σ 6 t) → V (den σ w t j) = V (den σ w u j))
def LD (σ : Nat → Nat → Nat) (w : Nat) (V : Nat → Nat) (v : Nat) : Prop := saysB v = true ↔ eqD σ w V (v % 32) (v / 32 % 32)
/-- a literal about terms that are there, of one sort -/
def litW (σ : Nat → Nat → Nat) (v : Nat) : Prop := v % 32 < σ 0 1 ∧ v / 32 % 32 < σ 0 1 ∧ σ 6 (v % 32) = σ 6 (v / 32 % 32)
def AskW (σ : Nat → Nat → Nat) : Prop := ∀ cl, cl < σ 0 4 → ∀ k, k < σ 13 cl → litW σ (σ 12 (cl * 3 + k))
def SatA (σ : Nat → Nat → Nat) (w : Nat) : Prop := ∃ V : Nat → Nat, V 5 = 0 ∧ RngV V ∧ ∀ cl, cl < σ 0 4 → ∃ k, k < σ 13 cl ∧ LD σ w V (σ 12 (cl * 3 + k))
def fdP (σ : Nat → Nat → Nat) (lo hi : Nat) : Prop := ∃ w, w < 5 ∧ lo ≤ difF w ∧ difF w ≤ hi ∧ SatA σ w
noncomputable def fdB (σ : Nat → Nat → Nat) (lo hi : Nat) : Bool := @decide (fdP σ lo hi) (Classical.propDecidable _)
theorem fdB_t {σ : Nat → Nat → Nat} {lo hi : Nat} (h : fdP σ lo hi) : fdB σ lo hi = true := @decide_eq_true _ (Classical.propDecidable _) h
theorem fdB_f {σ : Nat → Nat → Nat} {lo hi : Nat} (h : ¬ fdP σ lo hi) : fdB σ lo hi = false := @decide_eq_false _ (Classical.propDecidable _) h
theorem fdB_iff {σ : Nat → Nat → Nat} {lo hi : Nat} : fdB σ lo hi = true ↔ fdP σ lo hi := by
  by_cases h : fdP σ lo hi
  · exact ⟨fun _ => h, fun _ => fdB_t h⟩
  · constructor
    · intro q; rw [fdB_f h] at q; cases q
    · intro q; exact absurd q h
theorem lit_eq {σ u : Nat → Nat → Nat} {w v : Nat} {V : Nat → Nat} (hI : IC σ) (hW : WF σ) (hO : ∀ r, r ≠ 14 → r ≠ 15 → u r = σ r) (hN : PN w (u 14)) (hT : ∀ t, 7 ≤ t → t < σ 0 1 → PT σ w (u 14) t) (hl : litW σ v) : LTV u V v ↔ LD σ w V v := by
  obtain ⟨h1, h2, h3⟩ := hl
  have hc := hI.terms
  have e : ∀ t, t < σ 0 1 → ∀ j, j < 4 → (σ 6 t ≠ 2 → j = 0) → u 14 (t * 4 + j) = den σ w t j := fun t ht j hj hs => Pc_of hI hW hN hT 25 t j (by omega) ht hj hs
  have h6 := hO 6 (by decide) (by decide)
  have hw := widF_le (σ 6 (v % 32))
  have hw2 : σ 6 (v % 32) ≠ 2 → widF (σ 6 (v % 32)) = 1 := fun q => by unfold widF; rw [if_neg q]
  unfold LTV LD eqV eqD
  rw [h6]
  have a0 : u 14 (v % 32 * 4) = den σ w (v % 32) 0 := e _ h1 0 (by omega) (fun _ => rfl)
  have b0 : u 14 (v / 32 % 32 * 4) = den σ w (v / 32 % 32) 0 := e _ h2 0 (by omega) (fun _ => rfl)
  have aj : ∀ j, j < widF (σ 6 (v % 32)) → u 14 (v % 32 * 4 + j) = den σ w (v % 32) j := fun j hj => e _ h1 j (by omega) (fun q => by have := hw2 q; omega)
  have bj : ∀ j, j < widF (σ 6 (v % 32)) → u 14 (v / 32 % 32 * 4 + j) = den σ w (v / 32 % 32) j := fun j hj => e _ h2 j (by omega) (fun q => by have := hw2 (by rw [h3]; exact q); omega)
  rw [a0, b0]
  constructor
  · intro h
    rw [h]
    exact ⟨fun q => ⟨q.1, fun z j hj => by rw [← aj j hj, ← bj j hj]; exact q.2 z j hj⟩, fun q => ⟨q.1, fun z j hj => by rw [aj j hj, bj j hj]; exact q.2 z j hj⟩⟩
  · intro h
    rw [h]
    exact ⟨fun q => ⟨q.1, fun z j hj => by rw [aj j hj, bj j hj]; exact q.2 z j hj⟩, fun q => ⟨q.1, fun z j hj => by rw [← aj j hj, ← bj j hj]; exact q.2 z j hj⟩⟩
theorem IC.swap {σ u : Nat → Nat → Nat} (hI : IC σ) (hO : ∀ r, r ≠ 14 → r ≠ 15 → u r = σ r) (hB : ∀ j, j < 96 → u 14 j < 10) (hC : ∀ j, j < 10 → u 15 j ≤ 20) : IC u := by
  unfold IC
  rw [hO 0 (by decide) (by decide), hO 6 (by decide) (by decide), hO 7 (by decide) (by decide), hO 8 (by decide) (by decide), hO 9 (by decide) (by decide), hO 3 (by decide) (by decide), hO 10 (by decide) (by decide), hO 11 (by decide) (by decide), hO 12 (by decide) (by decide), hO 13 (by decide) (by decide)]
  obtain ⟨h1, h2, h3, h4, h5, h6, h7, h8, h9, h10, h11, h12, h13, h14⟩ := hI
  exact ⟨h1, h2, h3, h4, h5, h6, h7, h8, h9, h10, h11, h12, hB, hC⟩
/-- the state in which the search begins -/
theorem begun {σ u : Nat → Nat → Nat} {w : Nat} (hI : IC σ) (hW : WF σ) (hA : AskW σ) (hO : ∀ r, r ≠ 14 → r ≠ 15 → u r = σ r) (hB : ∀ j, j < 96 → u 14 j < 10) (hN : PN w (u 14)) (hT : ∀ t, 7 ≤ t → t < σ 0 1 → PT σ w (u 14) t) (h15 : ∀ j, j < 10 → u 15 j = if j = 5 then 1 else 0) : IC u ∧ opn u = 9 ∧ (cmpF 10 u 2 = true ↔ SatA σ w) := by
  have hC : ∀ j, j < 10 → u 15 j ≤ 20 := fun j hj => by rw [h15 j hj]; split <;> omega
  have hIu := hI.swap hO hB hC
  have ho : opn u = 9 := by unfold opn; rw [h15 0 (by omega), h15 1 (by omega), h15 2 (by omega), h15 3 (by omega), h15 4 (by omega), h15 5 (by omega), h15 6 (by omega), h15 7 (by omega), h15 8 (by omega), h15 9 (by omega)]; rfl
  refine ⟨hIu, ho, ?_⟩
  have hCh : ChS u 2 := ⟨by rw [h15 5 (by omega)]; rfl, by rw [h15 9 (by omega)]; decide, by omega, fun j hj h5 h9 h0 => absurd (by rw [h15 j hj, if_neg h5]) h0⟩
  rw [cmp_iff hIu hCh (by omega) (by omega)]
  have h0 : u 0 4 = σ 0 4 := by rw [hO 0 (by decide) (by decide)]
  have h12 := hO 12 (by decide) (by decide)
  have h13 := hO 13 (by decide) (by decide)
  constructor
  · rintro ⟨V, hE, hR, hV⟩
    refine ⟨V, ?_, hR, fun cl hc => ?_⟩
    · have := hE 5 (by omega) (by rw [h15 5 (by omega)]; decide)
      rw [h15 5 (by omega)] at this
      have e : (if (5 : Nat) = 5 then 1 else 0) = 1 := rfl
      omega
    · obtain ⟨k, hk, hl⟩ := hV cl (by omega)
      rw [h13] at hk
      rw [h12] at hl
      exact ⟨k, hk, (lit_eq hI hW hO hN hT (hA cl hc k hk)).mp hl⟩
  · rintro ⟨V, h5, hR, hV⟩
    refine ⟨V, fun j hj h0 => ?_, hR, fun cl hc => ?_⟩
    · rw [h15 j hj] at h0 ⊢
      split at h0
      · rename_i q; rw [if_pos q, q, h5]
      · exact absurd rfl h0
    · obtain ⟨k, hk, hl⟩ := hV cl (by omega)
      refine ⟨k, by rw [h13]; exact hk, ?_⟩
      rw [h12]
      exact (lit_eq hI hW hO hN hT (hA cl (by omega) k hk)).mpr hl
theorem difF_le (w : Nat) : difF w ≤ 3 := by
  by_cases h : w < 5
  · revert w; decide +kernel
  · have hl : difT.length = 5 := rfl
    unfold difF
    rw [List.getD_eq_getElem?_getD, List.getElem?_eq_none (by omega)]
    exact Nat.zero_le _
theorem PT_rows {σ s : Nat → Nat → Nat} {w t : Nat} {P : Nat → Nat} (hO : ∀ r, r ≠ 14 → r ≠ 15 → s r = σ r) (h : PT s w P t) : PT σ w P t := by
  unfold PT sv at h ⊢
  rw [hO 6 (by decide) (by decide), hO 7 (by decide) (by decide), hO 8 (by decide) (by decide), hO 9 (by decide) (by decide)] at h
  exact h
theorem lk_X2_finds_18 : Cond.fieldLink RX2 18 "ArrayClaims$ReadingSearch" "DIFFERENT" "[I" ∈ wsX2_finds := by decide +kernel
theorem in_X2_finds_X2 : ∀ w ∈ wsX20, w ∈ wsX2_finds := by decide +kernel
theorem lk_X2_finds_15 : Cond.fieldLink RX2 15 "ArrayClaims$ReadingSearch" "chosen" "[I" ∈ wsX2_finds := by decide +kernel
def rX2_finds : Room := { frames := 14, cells := 0, slots := 0, locals := 459 }
set_option maxHeartbeats 4000000 in
set_option maxRecDepth 100000 in
theorem c_X2_finds (l : Launch) (D : va_G) (cI : ClassId) (A : Nat → Prop) (ad : Nat → Nat) (σ : Nat → Nat → Nat) (lo hi : Nat) (hI : IC σ) (hW0 : WF σ) (hA0 : AskW σ) (hlo : lo ≤ 3) (hhi : hi ≤ 3) : Met l yX2_finds wsX2_finds rX2_finds (va_Pc [.ref (ad 5), .ref (ad 1), .ref (ad 4), .int (nI lo), .int (nI hi)] (Wc D cI A ad σ)) (va_Qi (fun r u => r = bI (fdB σ lo hi) ∧ (∀ r, r ≠ 14 → r ≠ 15 → u r = σ r) ∧ (∀ j, j < 96 → u 14 j < 10) ∧ (∀ j, j < 10 → u 15 j ≤ 20)) (fun u t => Wc D cI A ad u t) A) 0 0 A := by
  refine Met.ofW (cc := cX2_finds) (maxL := 6) (ret := (some .boolean)) (by decide) rfl ?_
  intro p e s m args below meth c s₁ B hml hv
  obtain ⟨rfl, hP, hK, hD, hN, hZ⟩ := hv
  have hx := B.exec
  have hb := B.bytes
  have hr := B.returns
  have hts := atoms_spec (ws := wsX2_finds) B.pre
  have hown : s.vm.findClass RX2 = some m.cls := findClass_of_methodNamed B.named
  have hlocks := B.notSynchronized
  have hS : va_S A s.heap s.heap [] := va_S.rf
  have hl := lv_entry ([.ref (ad 5), .ref (ad 1), .ref (ad 4), .int (nI lo), .int (nI hi)]) (n := 6) (Nat.le_of_ble_eq_true rfl)
  rw [lg_entry_eq]
  generalize (lg_sl ([.ref (ad 5), .ref (ad 1), .ref (ad 4), .int (nI lo), .int (nI hi)]) ++ List.replicate (6 - (lg_sl ([.ref (ad 5), .ref (ad 1), .ref (ad 4), .int (nI lo), .int (nI hi)])).length) Slot.unset).toArray = ls at hl ⊢
  have hl : lv_has ls 6 [(0, .ref (ad 5)), (1, .ref (ad 1)), (2, .ref (ad 4)), (3, .int (nI lo)), (4, .int (nI hi))] := hl
  refine lv_iconst (v := nI 0) hx hb dX2_finds_0 (by decide) ?_
  refine lv_istore (lv' := [(5, .int (nI 0)), (0, .ref (ad 5)), (1, .ref (ad 1)), (2, .ref (ad 4)), (3, .int (nI lo)), (4, .int (nI hi))]) hx hb dX2_finds_1 hl (by decide) rfl (fun ls hl => ?_)
  have lp3 : ∀ (n : Nat) (w : Nat) (σ_1 : Nat → Nat → Nat) (H : Heap) (locs : List Loc) (ls : Array Slot), (w + n = 5) → (∀ r, r ≠ 14 → r ≠ 15 → σ_1 r = σ r) → (∀ j, j < 96 → σ_1 14 j < 10) → (∀ j, j < 10 → σ_1 15 j ≤ 20) → (∀ w1, w1 < w → lo ≤ difF w1 → difF w1 ≤ hi → ¬ SatA σ w1) → va_P D vwCl (WC ad cI σ_1) H → va_D A (WC ad cI σ_1) → va_S A s.heap H locs → lv_has ls 6 [(5, .int (nI w)), (0, .ref (ad 5)), (1, .ref (ad 1)), (2, .ref (ad 4)), (3, .int (nI lo)), (4, .int (nI hi))] → W p l e rX2_finds s m (([.ref (ad 5), .ref (ad 1), .ref (ad 4), .int (nI lo), .int (nI hi)] : List Value).toArray) below meth c H locs 0 0 (MQ below (va_Qi (fun r u => r = bI (fdB σ lo hi) ∧ (∀ r, r ≠ 14 → r ≠ 15 → u r = σ r) ∧ (∀ j, j < 96 → u 14 j < 10) ∧ (∀ j, j < 10 → u 15 j ≤ 20)) (fun u t => Wc D cI A ad u t) A) (([.ref (ad 5), .ref (ad 1), .ref (ad 4), .int (nI lo), .int (nI hi)] : List Value).toArray) s 0 0 A) (F0 m 3 ls []) := by
    intro n
    induction n with
    | zero =>
      intro w σ_1 H locs ls hF1 hO hB hC hX hP hD hS hl
      refine lv_iload hx hb dX2_finds_3 (lv_at hl 0 rfl) ?_
      refine lv_iconst (v := nI 5) hx hb dX2_finds_5 (by decide) ?_
      refine n_icmp_ge hx hb (tgt := 71) (by omega) (by omega) dX2_finds_6 (by decide) (fun c_6 => ?_) (fun c_6 => ?_)
      · have hsat : fdB σ lo hi = false := fdB_f (fun ⟨w1, q, q1, q2, q3⟩ => hX w1 (by omega) q1 q2 q3)
        refine lv_iconst (v := nI 0) hx hb dX2_finds_71 (by decide) ?_
        exact W.zret (v := nI 0) hx hb hr (n_nar0) (fun t ht hW => ⟨⟨_, σ_1, rfl, (⟨by rw [hsat]; rfl, hO, hB, hC⟩), Wc.go hP hK hD hN hZ hS ht hW⟩, hS.F ht⟩) hS.2.2 dX2_finds_72
      · omega
    | succ n ih3 =>
      intro w σ_1 H locs ls hF1 hO hB hC hX hP hD hS hl
      have hdf := difF_le w
      refine lv_iload hx hb dX2_finds_3 (lv_at hl 0 rfl) ?_
      refine lv_iconst (v := nI 5) hx hb dX2_finds_5 (by decide) ?_
      refine n_icmp_ge hx hb (tgt := 71) (by omega) (by omega) dX2_finds_6 (by decide) (fun c_6 => ?_) (fun c_6 => ?_)
      · omega
      · obtain ⟨t1, t2, hZ1, hT1, hZ2, hT2⟩ := id hZ
        refine va_gets hx hb hZ2 hS hown (hts _ lk_X2_finds_18) (fun _ h9 => h9) dX2_finds_9 ?_
        refine lv_iload hx hb dX2_finds_12 (lv_at hl 0 rfl) ?_
        refine n_tld hx hb hT2 hS (i := w) (by omega) (by decide) dX2_finds_14 ?_
        refine lv_iload_n hx hb dX2_finds_15 rfl (lv_at hl 4 rfl) ?_
        refine n_icmp_lt hx hb (tgt := 65) (by omega) (by omega) dX2_finds_16 (by decide) (fun c_16 => ?_) (fun c_16 => ?_)
        · refine lv_iinc (v := nI (w + 1)) (lv' := [(5, .int (nI (w + 1))), (0, .ref (ad 5)), (1, .ref (ad 1)), (2, .ref (ad 4)), (3, .int (nI lo)), (4, .int (nI hi))]) hx hb dX2_finds_65 hl (k := 0) rfl (nI_add _ _) (by decide) rfl (fun ls hl => ?_)
          refine lv_goto (tgt := 3) hx hb dX2_finds_68 (by decide) ?_
          exact ih3 (w + 1)  _ _ _ _  (by omega) (hO) (hB) (hC) (fun w1 q q1 q2 => by rcases Nat.lt_or_ge w1 w with z | z; exact hX w1 z q1 q2; (obtain rfl : w1 = w := by omega); omega) hP hD hS (lv_sub hl [0, 1, 2, 3, 4, 5] rfl)
        · refine va_gets hx hb hZ2 hS hown (hts _ lk_X2_finds_18) (fun _ h9 => h9) dX2_finds_19 ?_
          refine lv_iload hx hb dX2_finds_22 (lv_at hl 0 rfl) ?_
          refine n_tld hx hb hT2 hS (i := w) (by omega) (by decide) dX2_finds_24 ?_
          refine lv_iload hx hb dX2_finds_25 (lv_at hl 5 rfl) ?_
          refine n_icmp_gt hx hb (tgt := 65) (by omega) (by omega) dX2_finds_27 (by decide) (fun c_27 => ?_) (fun c_27 => ?_)
          · refine lv_iinc (v := nI (w + 1)) (lv' := [(5, .int (nI (w + 1))), (0, .ref (ad 5)), (1, .ref (ad 1)), (2, .ref (ad 4)), (3, .int (nI lo)), (4, .int (nI hi))]) hx hb dX2_finds_65 hl (k := 0) rfl (nI_add _ _) (by decide) rfl (fun ls hl => ?_)
            refine lv_goto (tgt := 3) hx hb dX2_finds_68 (by decide) ?_
            exact ih3 (w + 1)  _ _ _ _  (by omega) (hO) (hB) (hC) (fun w1 q q1 q2 => by rcases Nat.lt_or_ge w1 w with z | z; exact hX w1 z q1 q2; (obtain rfl : w1 = w := by omega); omega) hP hD hS (lv_sub hl [0, 1, 2, 3, 4, 5] rfl)
          · refine lv_aload_n hx hb dX2_finds_30 rfl (lv_at hl 1 rfl) ?_
            refine lv_aload_n hx hb dX2_finds_31 rfl (lv_at hl 2 rfl) ?_
            refine lv_iload hx hb dX2_finds_32 (lv_at hl 0 rfl) ?_
            refine va_callv (va_runV (As := [.ref (ad 1), .int (nI w)]) (rest := []) ⟨hx, hb, hml, hown, hts⟩ (c_X2_spellOut l D cI A ad σ_1 w (hI.swap hO hB hC) (by omega)) (cwV 2 hts gX2_finds_X2_spellOut rfl rfl rfl (by decide +kernel) ⟨Nat.le_of_ble_eq_true rfl, Nat.le_of_ble_eq_true rfl⟩) ⟨Wc.blind, va_recv hK hP (ci := 1) (q0 := 5) rfl rfl, fun U hU hW => ⟨rfl, Wc.go hP hK hD hN hZ hS hU hW⟩⟩ rfl rfl hl.1 rfl (lv_room (Nat.le_of_ble_eq_true rfl)) dX2_finds_34 ⟨Nat.zero_le _, Nat.zero_le _⟩) hS (fun q _ h => h) (fun q h => h) (fun σ_2 t H1 locs ht hvm hwσ_2 hB hz1 hk1 hS => ?_)
            obtain ⟨hP, -, hD, -⟩ := hB
            rw [ht] at hP
            generalize H1 = H at hP hS ⊢
            refine lv_aload_n hx hb dX2_finds_37 rfl (lv_at hl 1 rfl) ?_
            refine va_get (D := D) (ci := 1) (v := .ref (ad 15)) (C := RX2) (T := TX2) (N := 2) hx hb hts in_X2_finds_X2 hown hK hP 5 rfl rfl 1 (by decide) (hts _ lk_X2_finds_15) (fun _ h9 => h9) rfl dX2_finds_38 ?_
            refine lv_iconst (v := mI 0) hx hb dX2_finds_41 (by decide) ?_
            refine va_callv (va_runS (As := [.ref (ad 15), .int (mI 0)]) (rest := []) ⟨hx, hb, hml, hown, hts⟩ (c_J7_fill_53178 l D cI A ad σ_2 ) (va_cwS 2 hts gX2_finds_J7_fill_53178 rfl rfl rfl (by decide +kernel) ⟨Nat.le_of_ble_eq_true rfl, Nat.le_of_ble_eq_true rfl⟩) ⟨Wc.blind, fun U hU hW => ⟨rfl, Wc.go hP hK hD hN hZ hS hU hW⟩⟩ rfl rfl hl.1 rfl (lv_room (Nat.le_of_ble_eq_true rfl)) dX2_finds_42 ⟨Nat.zero_le _, Nat.zero_le _⟩) hS (fun q _ h => h) (fun q h => h) (fun σ_3 t H1 locs ht hvm hwσ_3 hB hz1 hk1 hS => ?_)
            obtain ⟨hP, -, hD, -⟩ := hB
            rw [ht] at hP
            generalize H1 = H at hP hS ⊢
            refine lv_aload_n hx hb dX2_finds_45 rfl (lv_at hl 1 rfl) ?_
            refine va_get (D := D) (ci := 1) (v := .ref (ad 15)) (C := RX2) (T := TX2) (N := 2) hx hb hts in_X2_finds_X2 hown hK hP 5 rfl rfl 1 (by decide) (hts _ lk_X2_finds_15) (fun _ h9 => h9) rfl dX2_finds_46 ?_
            refine lv_iconst (v := nI 5) hx hb dX2_finds_49 (by decide) ?_
            refine lv_iconst (v := nI 0) hx hb dX2_finds_50 (by decide) ?_
            refine n_to (mI_succ _).symm ?_
            refine n_ast (ws' := WC ad cI (sU σ_3 15 5 (0 + 1))) hx hb hK hP hD hS 15 0 rfl rfl (i := 5) (by omega) (by decide) (WCs15 ..) dX2_finds_51 (fun H locs hP hD hS => ?_)
            obtain ⟨u1, hu1⟩ : ∃ z, z = sU σ_3 15 5 (0 + 1) := ⟨_, rfl⟩
            rw [← hu1] at hP hD
            have hOu : ∀ r, r ≠ 14 → r ≠ 15 → u1 r = σ r := fun r h14 h15 => by rw [hu1, sU_ne _ _ _ h15, hwσ_3.1 r h15, hwσ_2.1 r h14]; exact hO r h14 h15
            have h14u : u1 14 = σ_2 14 := by rw [hu1, sU_ne _ _ _ (by decide), hwσ_3.1 14 (by decide)]
            have hBu : ∀ j, j < 96 → u1 14 j < 10 := fun j hj => by rw [h14u]; exact hwσ_2.2.1 j hj
            have h15u : ∀ j, j < 10 → u1 15 j = if j = 5 then 1 else 0 := fun j hj => by rw [hu1, sU_at]; split; rfl; exact hwσ_3.2 j hj
            have hCu : ∀ j, j < 10 → u1 15 j ≤ 20 := fun j hj => by rw [h15u j hj]; split <;> omega
            obtain ⟨hIu, hop, hbg⟩ := begun (w := w) hI hW0 hA0 hOu hBu (by rw [h14u]; exact hwσ_2.2.2.1) (fun t q1 q2 => by rw [h14u]; exact PT_rows hO (hwσ_2.2.2.2 t q1 (by rw [hO 0 (by decide) (by decide)]; exact q2))) h15u
            refine lv_aload_n hx hb dX2_finds_52 rfl (lv_at hl 1 rfl) ?_
            refine lv_aload_n hx hb dX2_finds_53 rfl (lv_at hl 2 rfl) ?_
            refine lv_aload_n hx hb dX2_finds_54 rfl (lv_at hl 3 rfl) ?_
            refine lv_iconst (v := nI 2) hx hb dX2_finds_55 (by decide) ?_
            refine lv_iconst (v := nI 0) hx hb dX2_finds_56 (by decide) ?_
            refine va_calli (va_runV (As := [.ref (ad 1), .ref (ad 4), .int (nI 2), .int (nI 0)]) (rest := []) ⟨hx, hb, hml, hown, hts⟩ (c_X2_completes l D cI A ad 10 (u1) 2 0 hIu (by omega) (by omega) (by omega) (by omega)) (cwV 4 hts gX2_finds_X2_completes rfl rfl rfl (by decide +kernel) ⟨Nat.le_of_ble_eq_true rfl, Nat.le_of_ble_eq_true rfl⟩) ⟨Wc.blind, va_recv hK hP (ci := 1) (q0 := 5) rfl rfl, fun U hU hW => ⟨rfl, Wc.go hP hK hD hN hZ hS hU hW⟩⟩ rfl rfl hl.1 rfl (lv_room (Nat.le_of_ble_eq_true rfl)) dX2_finds_57 ⟨Nat.zero_le _, Nat.zero_le _⟩) hS (fun q _ h => h) (fun q h => h) (fun r_5 σ_4 t H1 locs ht hvm hwσ_4 hB hz1 hk1 hS => ?_)
            obtain ⟨hr_5, hwσ_4⟩ := hwσ_4
            refine n_to (w := bI (cmpF 10 (u1) 2)) (hr_5) ?_
            obtain ⟨hP, -, hD, -⟩ := hB
            rw [ht] at hP
            generalize H1 = H at hP hS ⊢
            refine q_if_eq hx hb (tgt := 65) (bI_z) dX2_finds_60 (by decide) (fun c_60 => ?_) (fun c_60 => ?_)
            · have huu := hwσ_4.1 c_60
              rw [huu] at hP hD
              refine lv_iinc (v := nI (w + 1)) (lv' := [(5, .int (nI (w + 1))), (0, .ref (ad 5)), (1, .ref (ad 1)), (2, .ref (ad 4)), (3, .int (nI lo)), (4, .int (nI hi))]) hx hb dX2_finds_65 hl (k := 0) rfl (nI_add _ _) (by decide) rfl (fun ls hl => ?_)
              refine lv_goto (tgt := 3) hx hb dX2_finds_68 (by decide) ?_
              exact ih3 (w + 1)  _ _ _ _  (by omega) (hOu) (hBu) (hCu) (fun w1 q q1 q2 => by rcases Nat.lt_or_ge w1 w with z | z; exact hX w1 z q1 q2; (obtain rfl : w1 = w := by omega); exact fun s => absurd (hbg.mpr s) (by rw [c_60]; decide)) hP hD hS (lv_sub hl [0, 1, 2, 3, 4, 5] rfl)
            · have hsat : fdB σ lo hi = true := fdB_t ⟨w, by omega, c_16, c_27, hbg.mp (ts_nf c_60)⟩
              refine lv_iconst (v := nI 1) hx hb dX2_finds_63 (by decide) ?_
              exact W.zret (v := nI 1) hx hb hr (n_nar1) (fun t ht hW => ⟨⟨_, σ_4, rfl, (⟨by rw [hsat]; rfl, fun r h14 h15 => by rw [hwσ_4.2.1 r h15]; exact hOu r h14 h15, fun j hj => by rw [hwσ_4.2.1 14 (by decide)]; exact hBu j hj, hwσ_4.2.2⟩), Wc.go hP hK hD hN hZ hS ht hW⟩, hS.F ht⟩) hS.2.2 dX2_finds_64
  exact lp3 5 0  _ _ _ _ (by omega) (fun _ _ _ => rfl) (fun j hj => hI.parts hj) (fun j hj => hI.chosen hj) (fun w1 q => absurd q (by omega)) hP hD hS (lv_sub hl [0, 1, 2, 3, 4, 5] rfl)
end
section
/-! ASKING: which claims are asked for -/
theorem addAL_eq {σ : Nat → Nat → Nat} {o : Nat} : ∀ (n k : Nat) (s : Nat → Nat → Nat), (∀ r, r ≠ 12 → addAL σ o n k s r = s r) ∧ ∀ j, addAL σ o n k s 12 j = if s 0 4 * 3 + k ≤ j ∧ j < s 0 4 * 3 + k + n then s 10 (o + (j - s 0 4 * 3)) else s 12 j
  | 0, k, s => ⟨fun _ _ => rfl, fun j => by rw [if_neg (by omega)]; rfl⟩
  | n + 1, k, s => by
    obtain ⟨a, b⟩ := addAL_eq (σ := σ) (o := o) n (k + 1) (sU s 12 (s 0 4 * 3 + k) (s 10 (o + k)))
    refine ⟨fun r hr => ?_, fun j => ?_⟩
    · show addAL σ o n (k + 1) (sU s 12 (s 0 4 * 3 + k) (s 10 (o + k))) r = s r
      rw [a r hr, sU_ne _ _ _ hr]
    · show addAL σ o n (k + 1) (sU s 12 (s 0 4 * 3 + k) (s 10 (o + k))) 12 j = _
      rw [b j, sU_ne _ _ _ (by decide : (0 : Nat) ≠ 12), sU_ne _ _ _ (by decide : (10 : Nat) ≠ 12), sU_at]
      by_cases h1 : s 0 4 * 3 + (k + 1) ≤ j ∧ j < s 0 4 * 3 + (k + 1) + n
      · rw [if_pos h1, if_pos (by omega)]
      · rw [if_neg h1]
        by_cases h2 : j = s 0 4 * 3 + k
        · rw [if_pos h2, if_pos (by omega), h2, Nat.add_sub_cancel_left]
        · rw [if_neg h2, if_neg (by omega)]
theorem addAF_rows {σ : Nat → Nat → Nat} {o z : Nat} : (∀ r, r ≠ 12 → r ≠ 13 → r ≠ 0 → addAF σ o z r = σ r) ∧ (∀ j, j ≠ 4 → addAF σ o z 0 j = σ 0 j) ∧ addAF σ o z 0 4 = σ 0 4 + 1 ∧ (∀ j, addAF σ o z 13 j = if j = σ 0 4 then z else σ 13 j) ∧ (∀ j, addAF σ o z 12 j = if σ 0 4 * 3 ≤ j ∧ j < σ 0 4 * 3 + z then σ 10 (o + (j - σ 0 4 * 3)) else σ 12 j) := by
  obtain ⟨a, b⟩ := addAL_eq (σ := σ) (o := o) z 0 σ
  have h4 : addAL σ o z 0 σ 0 4 = σ 0 4 := by rw [a 0 (by decide)]
  unfold addAF
  rw [h4]
  refine ⟨fun r h1 h2 h3 => ?_, fun j hj => ?_, ?_, fun j => ?_, fun j => ?_⟩
  · rw [sU_ne _ _ _ h3, sU_ne _ _ _ h2, a r h1]
  · rw [sU_at, if_neg hj, sU_ne _ _ _ (by decide), a 0 (by decide)]
  · rw [sU_at, if_pos rfl]
  · rw [sU_ne _ _ _ (by decide), sU_at, a 13 (by decide)]
  · rw [sU_ne _ _ _ (by decide), sU_ne _ _ _ (by decide), b j]
    rfl
/-- the state s asks for the claims below c of σ, but the one numbered lo - 1 -/
def AQ (σ s : Nat → Nat → Nat) (c lo : Nat) : Prop :=
  (∀ r, r ≠ 12 → r ≠ 13 → r ≠ 0 → s r = σ r) ∧ (∀ j, j ≠ 4 → s 0 j = σ 0 j) ∧ s 0 4 ≤ c ∧ (∀ j, j < 33 → litOK (s 12 j)) ∧ (∀ j, j < 11 → s 13 j ≤ 3) ∧
  (∀ L : Nat → Prop, (∀ cl, cl < s 0 4 → ∃ k, k < s 13 cl ∧ L (s 12 (cl * 3 + k))) ↔ (∀ c1, c1 < c → c1 + 1 ≠ lo → ∃ k, k < σ 11 c1 ∧ L (σ 10 (c1 * 3 + k)))) ∧
  (∀ L : Nat → Prop, (∀ c1, c1 < c → ∀ k, k < σ 11 c1 → L (σ 10 (c1 * 3 + k))) → ∀ cl, cl < s 0 4 → ∀ k, k < s 13 cl → L (s 12 (cl * 3 + k))) ∧
  (lo = 0 → s 0 4 = c ∧ ∀ cl, cl < c → s 13 cl = σ 11 cl ∧ ∀ k, k < σ 11 cl → s 12 (cl * 3 + k) = σ 10 (cl * 3 + k))
theorem AQ.ic {σ s : Nat → Nat → Nat} {c lo : Nat} (hI : IC σ) (hc : c ≤ 8) (h : AQ σ s c lo) : IC s := by
  obtain ⟨a, b, d, e, f, -, -, -⟩ := h
  unfold IC
  rw [a 6 (by decide) (by decide) (by decide), a 7 (by decide) (by decide) (by decide), a 8 (by decide) (by decide) (by decide), a 9 (by decide) (by decide) (by decide), a 3 (by decide) (by decide) (by decide), a 10 (by decide) (by decide) (by decide), a 11 (by decide) (by decide) (by decide), a 14 (by decide) (by decide) (by decide), a 15 (by decide) (by decide) (by decide), b 0 (by decide), b 1 (by decide), b 2 (by decide)]
  obtain ⟨h1, h2, h3, h4, h5, h6, h7, h8, h9, h10, h11, h12, h13, h14⟩ := hI
  exact ⟨h1, h2, h3, by omega, h5, h6, h7, h8, h9, h10, e, f, h13, h14⟩
theorem AQ.init {σ : Nat → Nat → Nat} {lo : Nat} (hI : IC σ) : AQ σ (if 0 < σ 0 4 then sU σ 0 4 0 else σ) 0 lo := by
  have e : ∀ r, r ≠ 0 → (if 0 < σ 0 4 then sU σ 0 4 0 else σ) r = σ r := fun r hr => by
    split
    · rw [sU_ne _ _ _ hr]
    · rfl
  have e4 : (if 0 < σ 0 4 then sU σ 0 4 0 else σ) 0 4 = 0 := by
    split
    · rw [sU_at, if_pos rfl]
    · omega
  refine ⟨fun r _ _ h => e r h, fun j hj => ?_, by omega, fun j hj => ?_, fun j hj => ?_, fun L => ?_, fun L _ cl hcl => ?_, fun _ => ⟨e4, fun cl h => by omega⟩⟩
  · split
    · rw [sU_at, if_neg hj]
    · rfl
  · rw [e 12 (by decide)]; exact hI.alit hj
  · rw [e 13 (by decide)]; exact hI.asize hj
  · exact ⟨fun _ c1 h => by omega, fun _ cl hcl => by omega⟩
  · omega
theorem AQ.skip {σ s : Nat → Nat → Nat} {c lo : Nat} (h : AQ σ s c lo) (hl : c + 1 = lo) : AQ σ s (c + 1) lo := by
  obtain ⟨a, b, d, e, f, g, i, -⟩ := h
  refine ⟨a, b, by omega, e, f, fun L => ?_, fun L hL => i L (fun c1 h1 => hL c1 (by omega)), fun q => by omega⟩
  rw [g L]
  constructor
  · intro q c1 h1 h2
    exact q c1 (by omega) h2
  · intro q c1 h1 h2
    exact q c1 (by omega) h2
theorem AQ.add {σ s : Nat → Nat → Nat} {c lo : Nat} (hI : IC σ) (hc : c < 8) (h : AQ σ s c lo) (hl : c + 1 ≠ lo) : AQ σ (addAF s (c * 3) (s 11 c)) (c + 1) lo := by
  obtain ⟨a, b, d, e, f, g, i, pz⟩ := h
  obtain ⟨r1, r2, r3, r4, r5⟩ := addAF_rows (σ := s) (o := c * 3) (z := s 11 c)
  have h11 := a 11 (by decide) (by decide) (by decide)
  have h10 := a 10 (by decide) (by decide) (by decide)
  have hz := hI.msize hc
  rw [h11] at r1 r2 r3 r4 r5 ⊢
  rw [h10] at r5
  have lold : ∀ cl, cl < s 0 4 → addAF s (c * 3) (σ 11 c) 13 cl = s 13 cl := fun cl h1 => by rw [r4, if_neg (by omega)]
  have llit : ∀ cl k, cl < s 0 4 → k < 3 → addAF s (c * 3) (σ 11 c) 12 (cl * 3 + k) = s 12 (cl * 3 + k) := fun cl k h1 h2 => by rw [r5, if_neg (by omega)]
  have lnew : addAF s (c * 3) (σ 11 c) 13 (s 0 4) = σ 11 c := by rw [r4, if_pos rfl]
  have nlit : ∀ k, k < σ 11 c → addAF s (c * 3) (σ 11 c) 12 (s 0 4 * 3 + k) = σ 10 (c * 3 + k) := fun k h2 => by rw [r5, if_pos (by omega), Nat.add_sub_cancel_left]
  refine ⟨fun r h1 h2 h3 => by rw [r1 r h1 h2 h3]; exact a r h1 h2 h3, fun j hj => by rw [r2 j hj]; exact b j hj, by omega, fun j hj => ?_, fun j hj => ?_, fun L => ?_, fun L hL cl hcl k hk => ?_, fun q => ?_⟩
  · rw [r5]; split
    · exact hI.mlit (by omega)
    · exact e j hj
  · rw [r4]; split
    · exact hz
    · exact f j hj
  · rw [r3]
    constructor
    · intro q c1 h1 h2
      rcases Nat.lt_or_ge c1 c with h3 | h3
      · refine (g L).mp (fun cl hcl => ?_) c1 h3 h2
        obtain ⟨k, k1, k2⟩ := q cl (by omega)
        rw [lold cl hcl] at k1
        have := f cl (by omega)
        rw [llit cl k hcl (by omega)] at k2
        exact ⟨k, k1, k2⟩
      · obtain rfl : c1 = c := by omega
        obtain ⟨k, k1, k2⟩ := q (s 0 4) (by omega)
        rw [lnew] at k1
        rw [nlit k k1] at k2
        exact ⟨k, k1, k2⟩
    · intro q cl hcl
      rcases Nat.lt_or_ge cl (s 0 4) with h3 | h3
      · obtain ⟨k, k1, k2⟩ := (g L).mpr (fun c1 h1 h2 => q c1 (by omega) h2) cl h3
        have := f cl (by omega)
        exact ⟨k, by rw [lold cl h3]; exact k1, by rw [llit cl k h3 (by omega)]; exact k2⟩
      · obtain rfl : cl = s 0 4 := by omega
        obtain ⟨k, k1, k2⟩ := q c (by omega) hl
        exact ⟨k, by rw [lnew]; exact k1, by rw [nlit k k1]; exact k2⟩
  · rw [r3] at hcl
    rcases Nat.lt_or_ge cl (s 0 4) with h3 | h3
    · rw [lold cl h3] at hk
      have := f cl (by omega)
      rw [llit cl k h3 (by omega)]
      exact i L (fun c1 h1 => hL c1 (by omega)) cl h3 k hk
    · obtain rfl : cl = s 0 4 := by omega
      rw [lnew] at hk
      rw [nlit k hk]
      exact hL c (by omega) k hk
  · obtain ⟨p1, p2⟩ := pz q
    refine ⟨by omega, fun cl hcl => ?_⟩
    rcases Nat.lt_or_ge cl c with h3 | h3
    · obtain ⟨p3, p4⟩ := p2 cl h3
      have hz3 := hI.msize (j := cl) (by omega)
      refine ⟨by rw [lold cl (by omega)]; exact p3, fun k hk => ?_⟩
      rw [llit cl k (by omega) (by omega)]
      exact p4 k hk
    · obtain rfl : cl = c := by omega
      exact ⟨by have h9 := lnew; rw [p1] at h9; exact h9, fun k hk => by have h9 := nlit k hk; rw [p1] at h9; exact h9⟩
/-- only what questions use has changed -/
def KS (σ u : Nat → Nat → Nat) : Prop := (∀ r, r ≠ 0 → r ≠ 12 → r ≠ 13 → r ≠ 14 → r ≠ 15 → u r = σ r) ∧ (∀ j, j ≠ 4 → u 0 j = σ 0 j) ∧ IC u
theorem KS.rf {σ : Nat → Nat → Nat} (hI : IC σ) : KS σ σ := ⟨fun _ _ _ _ _ _ => rfl, fun _ _ => rfl, hI⟩
theorem KS.tr {σ s u : Nat → Nat → Nat} (h1 : KS σ s) (h2 : KS s u) : KS σ u := ⟨fun r a b c d e => by rw [h2.1 r a b c d e]; exact h1.1 r a b c d e, fun j hj => by rw [h2.2.1 j hj]; exact h1.2.1 j hj, h2.2.2⟩
theorem KS.ofAQ {σ s : Nat → Nat → Nat} {c lo : Nat} (hI : IC σ) (hc : c ≤ 8) (h : AQ σ s c lo) : KS σ s := ⟨fun r a b c _ _ => h.1 r b c a, h.2.1, h.ic hI hc⟩
theorem KS.ofFinds {σ u : Nat → Nat → Nat} (hI : IC σ) (h : (∀ r, r ≠ 14 → r ≠ 15 → u r = σ r) ∧ (∀ j, j < 96 → u 14 j < 10) ∧ (∀ j, j < 10 → u 15 j ≤ 20)) : KS σ u := ⟨fun r _ _ _ d e => h.1 r d e, fun j _ => by rw [h.1 0 (by decide) (by decide)], hI.swap h.1 h.2.1 h.2.2⟩
/-- rows of the terms' table alone -/
theorem Pc_rows {σ u : Nat → Nat → Nat} (h6 : u 6 = σ 6) (h7 : u 7 = σ 7) (h8 : u 8 = σ 8) (h9 : u 9 = σ 9) (w : Nat) : ∀ n t j, PcF u w n t j = PcF σ w n t j
  | 0, _, _ => rfl
  | n + 1, t, j => by
    unfold PcF
    rw [h6, h7, h8, h9, Pc_rows h6 h7 h8 h9 w n, Pc_rows h6 h7 h8 h9 w n, Pc_rows h6 h7 h8 h9 w n]
theorem LD_rows {σ u : Nat → Nat → Nat} (h6 : u 6 = σ 6) (h7 : u 7 = σ 7) (h8 : u 8 = σ 8) (h9 : u 9 = σ 9) (w : Nat) (V : Nat → Nat) (v : Nat) : LD u w V v ↔ LD σ w V v := by
  have e : ∀ t j, den u w t j = den σ w t j := fun t j => Pc_rows h6 h7 h8 h9 w 25 t j
  unfold LD eqD
  simp only [e, h6]
def SatM (σ : Nat → Nat → Nat) (w up lo : Nat) : Prop := ∃ V : Nat → Nat, V 5 = 0 ∧ RngV V ∧ ∀ c, c < up → c + 1 ≠ lo → ∃ k, k < σ 11 c ∧ LD σ w V (σ 10 (c * 3 + k))
def CanM (σ : Nat → Nat → Nat) (up lo : Nat) : Prop := ∃ w, w < 5 ∧ SatM σ w up lo
noncomputable def canB (σ : Nat → Nat → Nat) (up lo : Nat) : Bool := @decide (CanM σ up lo) (Classical.propDecidable _)
theorem canB_iff {σ : Nat → Nat → Nat} {up lo : Nat} : canB σ up lo = true ↔ CanM σ up lo := @decide_eq_true_iff _ (Classical.propDecidable _)
theorem bool_iff {a b : Bool} {P : Prop} (h1 : a = true ↔ P) (h2 : b = true ↔ P) : a = b := by
  cases a <;> cases b <;> simp_all
def MadeW (σ : Nat → Nat → Nat) : Prop := ∀ c, c < σ 0 2 → ∀ k, k < σ 11 c → litW σ (σ 10 (c * 3 + k))
theorem KS.wf {σ u : Nat → Nat → Nat} (h : KS σ u) (hW : WF σ) : WF u := by
  unfold WF
  rw [h.1 6 (by decide) (by decide) (by decide) (by decide) (by decide), h.1 7 (by decide) (by decide) (by decide) (by decide) (by decide), h.1 9 (by decide) (by decide) (by decide) (by decide) (by decide), h.2.1 1 (by decide)]
  exact hW
theorem KS.litW {σ u : Nat → Nat → Nat} (h : KS σ u) {v : Nat} : litW u v ↔ litW σ v := by
  unfold Jvm.Pilot.@@N@@.litW
  rw [h.1 6 (by decide) (by decide) (by decide) (by decide) (by decide), h.2.1 1 (by decide)]
theorem KS.made {σ u : Nat → Nat → Nat} (h : KS σ u) (hM : MadeW σ) : MadeW u := by
  intro c hc k hk
  rw [h.2.1 2 (by decide)] at hc
  rw [h.1 11 (by decide) (by decide) (by decide) (by decide) (by decide)] at hk
  rw [h.1 10 (by decide) (by decide) (by decide) (by decide) (by decide)]
  exact h.litW.mpr (hM c hc k hk)
theorem KS.ld {σ u : Nat → Nat → Nat} (h : KS σ u) (w : Nat) (V : Nat → Nat) (v : Nat) : LD u w V v ↔ LD σ w V v :=
  LD_rows (h.1 6 (by decide) (by decide) (by decide) (by decide) (by decide)) (h.1 7 (by decide) (by decide) (by decide) (by decide) (by decide)) (h.1 8 (by decide) (by decide) (by decide) (by decide) (by decide)) (h.1 9 (by decide) (by decide) (by decide) (by decide) (by decide)) w V v
theorem KS.can {σ u : Nat → Nat → Nat} (h : KS σ u) (up lo : Nat) : CanM u up lo ↔ CanM σ up lo := by
  unfold CanM SatM
  rw [h.1 11 (by decide) (by decide) (by decide) (by decide) (by decide), h.1 10 (by decide) (by decide) (by decide) (by decide) (by decide)]
  simp only [h.ld]
theorem AQ.ask {σ s : Nat → Nat → Nat} {c lo : Nat} (hI : IC σ) (hc : c ≤ σ 0 2) (hM : MadeW σ) (h : AQ σ s c lo) : AskW s := by
  have hk := KS.ofAQ hI (by have := hI.claims; omega) h
  intro cl hcl k hk2
  exact h.2.2.2.2.2.2.1 (fun v => litW s v) (fun c1 h1 k h2 => hk.litW.mpr (hM c1 (by omega) k h2)) cl hcl k hk2
theorem AQ.sat {σ s : Nat → Nat → Nat} {c lo : Nat} (hI : IC σ) (hc : c ≤ 8) (h : AQ σ s c lo) (w : Nat) : SatA s w ↔ SatM σ w c lo := by
  have hk := KS.ofAQ hI hc h
  unfold SatA SatM
  constructor
  · rintro ⟨V, h1, h2, h3⟩
    refine ⟨V, h1, h2, ?_⟩
    have := (h.2.2.2.2.2.1 (fun v => LD s w V v)).mp h3
    simpa only [hk.ld] using this
  · rintro ⟨V, h1, h2, h3⟩
    refine ⟨V, h1, h2, ?_⟩
    exact (h.2.2.2.2.2.1 (fun v => LD s w V v)).mpr (by simpa only [hk.ld] using h3)
theorem dif13 : ∀ w, w < 5 → 1 ≤ difF w ∧ difF w ≤ 3 := by decide +kernel
theorem AQ.can {σ s : Nat → Nat → Nat} {c lo : Nat} (hI : IC σ) (hc : c ≤ 8) (h : AQ σ s c lo) : fdB s 1 3 = canB σ c lo := by
  refine bool_iff fdB_iff (canB_iff.trans ?_)
  unfold CanM fdP
  constructor
  · rintro ⟨w, h1, h2⟩
    exact ⟨w, h1, (dif13 w h1).1, (dif13 w h1).2, (h.sat hI hc w).mpr h2⟩
  · rintro ⟨w, h1, -, -, h2⟩
    exact ⟨w, h1, (h.sat hI hc w).mp h2⟩
theorem in_X4_askClaims_X4 : ∀ w ∈ wsX40, w ∈ wsX4_askClaims := by decide +kernel
theorem lk_X4_askClaims_33 : Cond.fieldLink RX4 33 "ArrayClaims" "asked" "LArrayClaims$ClaimList;" ∈ wsX4_askClaims := by decide +kernel
theorem lk_X4_askClaims_21 : Cond.fieldLink RX4 21 "ArrayClaims" "made" "LArrayClaims$ClaimList;" ∈ wsX4_askClaims := by decide +kernel
def rX4_askClaims : Room := { frames := 2, cells := 0, slots := 0, locals := 46 }
set_option maxHeartbeats 4000000 in
set_option maxRecDepth 100000 in
theorem c_X4_askClaims (l : Launch) (D : va_G) (cI : ClassId) (A : Nat → Prop) (ad : Nat → Nat) (σ : Nat → Nat → Nat) (up lo : Nat) (hI : IC σ) (hup : up ≤ σ 0 2) (hlo : lo ≤ 8) : Met l yX4_askClaims wsX4_askClaims rX4_askClaims (va_Pc [.ref (ad 0), .int (nI up), .int (mI lo)] (Wc D cI A ad σ)) (va_Qv (fun u => AQ σ u up lo) (fun u t => Wc D cI A ad u t) A) 0 0 A := by
  refine Met.ofW (cc := cX4_askClaims) (maxL := 4) (ret := none) (by decide) rfl ?_
  intro p e s m args below meth c s₁ B hml hv
  obtain ⟨rfl, hP, hK, hD, hN, hZ⟩ := hv
  have hx := B.exec
  have hb := B.bytes
  have hr := B.returns
  have hts := atoms_spec (ws := wsX4_askClaims) B.pre
  have hown : s.vm.findClass RX4 = some m.cls := findClass_of_methodNamed B.named
  have hlocks := B.notSynchronized
  have hS : va_S A s.heap s.heap [] := va_S.rf
  have hl := lv_entry ([.ref (ad 0), .int (nI up), .int (mI lo)]) (n := 4) (Nat.le_of_ble_eq_true rfl)
  rw [lg_entry_eq]
  generalize (lg_sl ([.ref (ad 0), .int (nI up), .int (mI lo)]) ++ List.replicate (4 - (lg_sl ([.ref (ad 0), .int (nI up), .int (mI lo)])).length) Slot.unset).toArray = ls at hl ⊢
  have hl : lv_has ls 4 [(0, .ref (ad 0)), (1, .int (nI up)), (2, .int (mI lo))] := hl
  have hcm := hI.claims
  refine lv_aload_n hx hb dX4_askClaims_0 rfl (lv_at hl 0 rfl) ?_
  refine va_get (D := D) (ci := 3) (v := .ref (ad 4)) (C := RX4) (T := TX4) (N := 6) hx hb hts in_X4_askClaims_X4 hown hK hP 0 rfl rfl 4 (by decide) (hts _ lk_X4_askClaims_33) (fun _ h9 => h9) rfl dX4_askClaims_1 ?_
  refine lv_iconst (v := nI 0) hx hb dX4_askClaims_4 (by decide) ?_
  refine va_callv (va_runV (As := [.int (nI 0)]) (rest := []) ⟨hx, hb, hml, hown, hts⟩ (c_X0_cutTo_asked l D cI A ad σ 0 hI (by omega)) (cwV 1 hts gX4_askClaims_X0_cutTo rfl rfl rfl (by decide +kernel) ⟨Nat.le_of_ble_eq_true rfl, Nat.le_of_ble_eq_true rfl⟩) ⟨Wc.blind, va_recv hK hP (ci := 0) (q0 := 4) rfl rfl, fun U hU hW => ⟨rfl, Wc.go hP hK hD hN hZ hS hU hW⟩⟩ rfl rfl hl.1 rfl (lv_room (Nat.le_of_ble_eq_true rfl)) dX4_askClaims_5 ⟨Nat.zero_le _, Nat.zero_le _⟩) hS (fun q _ h => h) (fun q h => h) (fun σ_1 t H1 locs ht hvm hwσ_1 hB hz1 hk1 hS => ?_)
  obtain ⟨hP, -, hD, -⟩ := hB
  rw [ht] at hP
  generalize H1 = H at hP hS ⊢
  refine lv_iconst (v := nI 0) hx hb dX4_askClaims_8 (by decide) ?_
  refine lv_istore_n (lv' := [(3, .int (nI 0)), (0, .ref (ad 0)), (1, .int (nI up)), (2, .int (mI lo))]) hx hb dX4_askClaims_9 rfl hl (by decide) rfl (fun ls hl => ?_)
  have lp10 : ∀ (n : Nat) (c1 : Nat) (σ_2 : Nat → Nat → Nat) (H : Heap) (locs : List Loc) (ls : Array Slot), (c1 + n = up) → (AQ σ σ_2 c1 lo) → va_P D vwCl (WC ad cI σ_2) H → va_D A (WC ad cI σ_2) → va_S A s.heap H locs → lv_has ls 4 [(3, .int (nI c1)), (0, .ref (ad 0)), (1, .int (nI up)), (2, .int (mI lo))] → W p l e rX4_askClaims s m (([.ref (ad 0), .int (nI up), .int (mI lo)] : List Value).toArray) below meth c H locs 0 0 (MQ below (va_Qv (fun u => AQ σ u up lo) (fun u t => Wc D cI A ad u t) A) (([.ref (ad 0), .int (nI up), .int (mI lo)] : List Value).toArray) s 0 0 A) (F0 m 10 ls []) := by
    intro n
    induction n with
    | zero =>
      intro c1 σ_2 H locs ls hF1 hQ hP hD hS hl
      obtain rfl : c1 = up := by omega
      refine lv_iload_n hx hb dX4_askClaims_10 rfl (lv_at hl 0 rfl) ?_
      refine lv_iload_n hx hb dX4_askClaims_11 rfl (lv_at hl 2 rfl) ?_
      refine n_icmp_ge hx hb (tgt := 38) (by omega) (by omega) dX4_askClaims_12 (by decide) (fun c_12 => ?_) (fun c_12 => ?_)
      · exact W.vret hx hb hr (fun t ht hW => ⟨⟨_, rfl, (hQ), Wc.go hP hK hD hN hZ hS ht hW⟩, hS.F ht⟩) hS.2.2 dX4_askClaims_38
      · omega
    | succ n ih10 =>
      intro c1 σ_2 H locs ls hF1 hQ hP hD hS hl
      refine lv_iload_n hx hb dX4_askClaims_10 rfl (lv_at hl 0 rfl) ?_
      refine lv_iload_n hx hb dX4_askClaims_11 rfl (lv_at hl 2 rfl) ?_
      refine n_icmp_ge hx hb (tgt := 38) (by omega) (by omega) dX4_askClaims_12 (by decide) (fun c_12 => ?_) (fun c_12 => ?_)
      · omega
      · refine lv_iload_n hx hb dX4_askClaims_15 rfl (lv_at hl 0 rfl) ?_
        refine lv_iload_n hx hb dX4_askClaims_16 rfl (lv_at hl 3 rfl) ?_
        refine q_icmp_eq hx hb (tgt := 32) (nm_eq (by omega) (by omega)) dX4_askClaims_17 (by decide) (fun c_17 => ?_) (fun c_17 => ?_)
        · refine lv_iinc (v := nI (c1 + 1)) (lv' := [(3, .int (nI (c1 + 1))), (0, .ref (ad 0)), (1, .int (nI up)), (2, .int (mI lo))]) hx hb dX4_askClaims_32 hl (k := 0) rfl (nI_add _ _) (by decide) rfl (fun ls hl => ?_)
          refine lv_goto (tgt := 10) hx hb dX4_askClaims_35 (by decide) ?_
          exact ih10 (c1 + 1)  _ _ _ _  (by omega) (hQ.skip c_17.symm) hP hD hS (lv_sub hl [0, 1, 2, 3] rfl)
        · refine lv_aload_n hx hb dX4_askClaims_20 rfl (lv_at hl 1 rfl) ?_
          refine va_get (D := D) (ci := 3) (v := .ref (ad 4)) (C := RX4) (T := TX4) (N := 6) hx hb hts in_X4_askClaims_X4 hown hK hP 0 rfl rfl 4 (by decide) (hts _ lk_X4_askClaims_33) (fun _ h9 => h9) rfl dX4_askClaims_21 ?_
          refine lv_aload_n hx hb dX4_askClaims_24 rfl (lv_at hl 1 rfl) ?_
          refine va_get (D := D) (ci := 3) (v := .ref (ad 2)) (C := RX4) (T := TX4) (N := 6) hx hb hts in_X4_askClaims_X4 hown hK hP 0 rfl rfl 1 (by decide) (hts _ lk_X4_askClaims_21) (fun _ h9 => h9) rfl dX4_askClaims_25 ?_
          refine lv_iload_n hx hb dX4_askClaims_28 rfl (lv_at hl 0 rfl) ?_
          refine va_callv (va_runV (As := [.ref (ad 2), .int (nI c1)]) (rest := []) ⟨hx, hb, hml, hown, hts⟩ (c_X0_addFrom l D cI A ad σ_2 c1 (hQ.ic hI (by omega)) (by have := hQ.2.2.1; omega) (by omega)) (cwV 2 hts gX4_askClaims_X0_addFrom rfl rfl rfl (by decide +kernel) ⟨Nat.le_of_ble_eq_true rfl, Nat.le_of_ble_eq_true rfl⟩) ⟨Wc.blind, va_recv hK hP (ci := 0) (q0 := 4) rfl rfl, fun U hU hW => ⟨rfl, Wc.go hP hK hD hN hZ hS hU hW⟩⟩ rfl rfl hl.1 rfl (lv_room (Nat.le_of_ble_eq_true rfl)) dX4_askClaims_29 ⟨Nat.zero_le _, Nat.zero_le _⟩) hS (fun q _ h => h) (fun q h => h) (fun σ_3 t H1 locs ht hvm hwσ_3 hB hz1 hk1 hS => ?_)
          obtain ⟨hP, -, hD, -⟩ := hB
          rw [ht] at hP
          generalize H1 = H at hP hS ⊢
          refine lv_iinc (v := nI (c1 + 1)) (lv' := [(3, .int (nI (c1 + 1))), (0, .ref (ad 0)), (1, .int (nI up)), (2, .int (mI lo))]) hx hb dX4_askClaims_32 hl (k := 0) rfl (nI_add _ _) (by decide) rfl (fun ls hl => ?_)
          refine lv_goto (tgt := 10) hx hb dX4_askClaims_35 (by decide) ?_
          exact ih10 (c1 + 1)  _ _ _ _  (by omega) (by rw [hwσ_3]; exact hQ.add hI (by omega) (fun q => c_17 q.symm)) hP hD hS (lv_sub hl [0, 1, 2, 3] rfl)
  exact lp10 up 0  _ _ _ _ (by omega) (by rw [hwσ_1]; exact AQ.init hI) hP hD hS (lv_sub hl [0, 1, 2, 3] rfl)
theorem in_X4_isPossible_X4 : ∀ w ∈ wsX40, w ∈ wsX4_isPossible := by decide +kernel
theorem lk_X4_isPossible_39 : Cond.fieldLink RX4 39 "ArrayClaims" "search" "LArrayClaims$ReadingSearch;" ∈ wsX4_isPossible := by decide +kernel
theorem lk_X4_isPossible_12 : Cond.fieldLink RX4 12 "ArrayClaims" "known" "LArrayClaims$TermTable;" ∈ wsX4_isPossible := by decide +kernel
theorem lk_X4_isPossible_33 : Cond.fieldLink RX4 33 "ArrayClaims" "asked" "LArrayClaims$ClaimList;" ∈ wsX4_isPossible := by decide +kernel
def rX4_isPossible : Room := { frames := 15, cells := 0, slots := 0, locals := 484 }
set_option maxHeartbeats 4000000 in
set_option maxRecDepth 100000 in
theorem c_X4_isPossible (l : Launch) (D : va_G) (cI : ClassId) (A : Nat → Prop) (ad : Nat → Nat) (σ : Nat → Nat → Nat)  (hI : IC σ) (hW0 : WF σ) (hA0 : AskW σ) : Met l yX4_isPossible wsX4_isPossible rX4_isPossible (va_Pc [.ref (ad 0)] (Wc D cI A ad σ)) (va_Qi (fun r u => r = bI (fdB σ 1 3) ∧ (∀ r, r ≠ 14 → r ≠ 15 → u r = σ r) ∧ (∀ j, j < 96 → u 14 j < 10) ∧ (∀ j, j < 10 → u 15 j ≤ 20)) (fun u t => Wc D cI A ad u t) A) 0 0 A := by
  refine Met.ofW (cc := cX4_isPossible) (maxL := 1) (ret := (some .boolean)) (by decide) rfl ?_
  intro p e s m args below meth c s₁ B hml hv
  obtain ⟨rfl, hP, hK, hD, hN, hZ⟩ := hv
  have hx := B.exec
  have hb := B.bytes
  have hr := B.returns
  have hts := atoms_spec (ws := wsX4_isPossible) B.pre
  have hown : s.vm.findClass RX4 = some m.cls := findClass_of_methodNamed B.named
  have hlocks := B.notSynchronized
  have hS : va_S A s.heap s.heap [] := va_S.rf
  have hl := lv_entry ([.ref (ad 0)]) (n := 1) (Nat.le_of_ble_eq_true rfl)
  rw [lg_entry_eq]
  generalize (lg_sl ([.ref (ad 0)]) ++ List.replicate (1 - (lg_sl ([.ref (ad 0)])).length) Slot.unset).toArray = ls at hl ⊢
  have hl : lv_has ls 1 [(0, .ref (ad 0))] := hl
  refine lv_aload_n hx hb dX4_isPossible_0 rfl (lv_at hl 0 rfl) ?_
  refine va_get (D := D) (ci := 3) (v := .ref (ad 5)) (C := RX4) (T := TX4) (N := 6) hx hb hts in_X4_isPossible_X4 hown hK hP 0 rfl rfl 5 (by decide) (hts _ lk_X4_isPossible_39) (fun _ h9 => h9) rfl dX4_isPossible_1 ?_
  refine lv_aload_n hx hb dX4_isPossible_4 rfl (lv_at hl 0 rfl) ?_
  refine va_get (D := D) (ci := 3) (v := .ref (ad 1)) (C := RX4) (T := TX4) (N := 6) hx hb hts in_X4_isPossible_X4 hown hK hP 0 rfl rfl 0 (by decide) (hts _ lk_X4_isPossible_12) (fun _ h9 => h9) rfl dX4_isPossible_5 ?_
  refine lv_aload_n hx hb dX4_isPossible_8 rfl (lv_at hl 0 rfl) ?_
  refine va_get (D := D) (ci := 3) (v := .ref (ad 4)) (C := RX4) (T := TX4) (N := 6) hx hb hts in_X4_isPossible_X4 hown hK hP 0 rfl rfl 4 (by decide) (hts _ lk_X4_isPossible_33) (fun _ h9 => h9) rfl dX4_isPossible_9 ?_
  refine lv_iconst (v := nI 1) hx hb dX4_isPossible_12 (by decide) ?_
  refine lv_iconst (v := nI 3) hx hb dX4_isPossible_13 (by decide) ?_
  refine va_calli (va_runV (As := [.ref (ad 1), .ref (ad 4), .int (nI 1), .int (nI 3)]) (rest := []) ⟨hx, hb, hml, hown, hts⟩ (c_X2_finds l D cI A ad σ 1 3 hI hW0 hA0 (by omega) (by omega)) (cwV 4 hts gX4_isPossible_X2_finds rfl rfl rfl (by decide +kernel) ⟨Nat.le_of_ble_eq_true rfl, Nat.le_of_ble_eq_true rfl⟩) ⟨Wc.blind, va_recv hK hP (ci := 1) (q0 := 5) rfl rfl, fun U hU hW => ⟨rfl, Wc.go hP hK hD hN hZ hS hU hW⟩⟩ rfl rfl hl.1 rfl (lv_room (Nat.le_of_ble_eq_true rfl)) dX4_isPossible_14 ⟨Nat.zero_le _, Nat.zero_le _⟩) hS (fun q _ h => h) (fun q h => h) (fun r_2 σ_1 t H1 locs ht hvm hwσ_1 hB hz1 hk1 hS => ?_)
  obtain ⟨hr_2, hwσ_1⟩ := hwσ_1
  refine n_to (w := bI (fdB σ 1 3)) (hr_2) ?_
  obtain ⟨hP, -, hD, -⟩ := hB
  rw [ht] at hP
  generalize H1 = H at hP hS ⊢
  exact W.zret (v := bI (fdB σ 1 3)) hx hb hr (bI_nar _) (fun t ht hW => ⟨⟨_, σ_1, rfl, (⟨rfl, hwσ_1⟩), Wc.go hP hK hD hN hZ hS ht hW⟩, hS.F ht⟩) hS.2.2 dX4_isPossible_17
theorem in_X4_can_X4 : ∀ w ∈ wsX40, w ∈ wsX4_can := by decide +kernel
theorem lk_X4_can_21 : Cond.fieldLink RX4 21 "ArrayClaims" "made" "LArrayClaims$ClaimList;" ∈ wsX4_can := by decide +kernel
theorem in_X4_can_X0 : ∀ w ∈ wsX00, w ∈ wsX4_can := by decide +kernel
def rX4_can : Room := { frames := 16, cells := 0, slots := 0, locals := 504 }
set_option maxHeartbeats 4000000 in
set_option maxRecDepth 100000 in
theorem c_X4_can (l : Launch) (D : va_G) (cI : ClassId) (A : Nat → Prop) (ad : Nat → Nat) (σ : Nat → Nat → Nat)  (hI : IC σ) (hW0 : WF σ) (hM0 : MadeW σ) : Met l yX4_can wsX4_can rX4_can (va_Pc [.ref (ad 0)] (Wc D cI A ad σ)) (va_Qi (fun r u => r = bI (canB σ (σ 0 2) 0) ∧ KS σ u) (fun u t => Wc D cI A ad u t) A) 0 0 A := by
  refine Met.ofW (cc := cX4_can) (maxL := 1) (ret := (some .boolean)) (by decide) rfl ?_
  intro p e s m args below meth c s₁ B hml hv
  obtain ⟨rfl, hP, hK, hD, hN, hZ⟩ := hv
  have hx := B.exec
  have hb := B.bytes
  have hr := B.returns
  have hts := atoms_spec (ws := wsX4_can) B.pre
  have hown : s.vm.findClass RX4 = some m.cls := findClass_of_methodNamed B.named
  have hlocks := B.notSynchronized
  have hS : va_S A s.heap s.heap [] := va_S.rf
  have hl := lv_entry ([.ref (ad 0)]) (n := 1) (Nat.le_of_ble_eq_true rfl)
  rw [lg_entry_eq]
  generalize (lg_sl ([.ref (ad 0)]) ++ List.replicate (1 - (lg_sl ([.ref (ad 0)])).length) Slot.unset).toArray = ls at hl ⊢
  have hl : lv_has ls 1 [(0, .ref (ad 0))] := hl
  have hcm := hI.claims
  refine lv_aload_n hx hb dX4_can_0 rfl (lv_at hl 0 rfl) ?_
  refine lv_aload_n hx hb dX4_can_1 rfl (lv_at hl 0 rfl) ?_
  refine va_get (D := D) (ci := 3) (v := .ref (ad 2)) (C := RX4) (T := TX4) (N := 6) hx hb hts in_X4_can_X4 hown hK hP 0 rfl rfl 1 (by decide) (hts _ lk_X4_can_21) (fun _ h9 => h9) rfl dX4_can_2 ?_
  refine va_getN (D := D) (ci := 0) (v := .int (nI (σ 0 2))) (C := RX0) (T := TX0) (N := 3) hx hb hts in_X4_can_X0 hown hK hP 2 rfl rfl 2 (by decide) (hN.use 7 rfl) (fun _ h9 => h9) rfl dX4_can_5 ?_
  refine lv_iconst (v := mI 0) hx hb dX4_can_8 (by decide) ?_
  refine va_callv (va_runV (As := [.int (nI (σ 0 2)), .int (mI 0)]) (rest := []) ⟨hx, hb, hml, hown, hts⟩ (c_X4_askClaims l D cI A ad σ (σ 0 2) 0 hI (Nat.le_refl _) (by omega)) (cwV 2 hts gX4_can_X4_askClaims rfl rfl rfl (by decide +kernel) ⟨Nat.le_of_ble_eq_true rfl, Nat.le_of_ble_eq_true rfl⟩) ⟨Wc.blind, va_recv hK hP (ci := 3) (q0 := 0) rfl rfl, fun U hU hW => ⟨rfl, Wc.go hP hK hD hN hZ hS hU hW⟩⟩ rfl rfl hl.1 rfl (lv_room (Nat.le_of_ble_eq_true rfl)) dX4_can_9 ⟨Nat.zero_le _, Nat.zero_le _⟩) hS (fun q _ h => h) (fun q h => h) (fun σ_1 t H1 locs ht hvm hwσ_1 hB hz1 hk1 hS => ?_)
  obtain ⟨hP, -, hD, -⟩ := hB
  rw [ht] at hP
  generalize H1 = H at hP hS ⊢
  have hkq := KS.ofAQ hI (by omega) hwσ_1
  have hIq := hkq.2.2
  have hcb := AQ.can hI (by omega) hwσ_1
  have hAk := AQ.ask hI (Nat.le_refl _) hM0 hwσ_1
  refine lv_aload_n hx hb dX4_can_12 rfl (lv_at hl 0 rfl) ?_
  refine va_calli (va_runV (As := []) (rest := []) ⟨hx, hb, hml, hown, hts⟩ (c_X4_isPossible l D cI A ad σ_1 hIq (hkq.wf hW0) hAk) (cwV 0 hts gX4_can_X4_isPossible rfl rfl rfl (by decide +kernel) ⟨Nat.le_of_ble_eq_true rfl, Nat.le_of_ble_eq_true rfl⟩) ⟨Wc.blind, va_recv hK hP (ci := 3) (q0 := 0) rfl rfl, fun U hU hW => ⟨rfl, Wc.go hP hK hD hN hZ hS hU hW⟩⟩ rfl rfl hl.1 rfl (lv_room (Nat.le_of_ble_eq_true rfl)) dX4_can_13 ⟨Nat.zero_le _, Nat.zero_le _⟩) hS (fun q _ h => h) (fun q h => h) (fun r_3 σ_2 t H1 locs ht hvm hwσ_2 hB hz1 hk1 hS => ?_)
  obtain ⟨hr_3, hwσ_2⟩ := hwσ_2
  refine n_to (w := bI (canB σ (σ 0 2) 0)) (by rw [hr_3, hcb]) ?_
  obtain ⟨hP, -, hD, -⟩ := hB
  rw [ht] at hP
  generalize H1 = H at hP hS ⊢
  exact W.zret (v := bI (canB σ (σ 0 2) 0)) hx hb hr (bI_nar _) (fun t ht hW => ⟨⟨_, σ_2, rfl, (⟨rfl, hkq.tr (KS.ofFinds hIq hwσ_2)⟩), Wc.go hP hK hD hN hZ hS ht hW⟩, hS.F ht⟩) hS.2.2 dX4_can_16
theorem in_X4_first_X4 : ∀ w ∈ wsX40, w ∈ wsX4_first := by decide +kernel
theorem lk_X4_first_21 : Cond.fieldLink RX4 21 "ArrayClaims" "made" "LArrayClaims$ClaimList;" ∈ wsX4_first := by decide +kernel
theorem in_X4_first_X0 : ∀ w ∈ wsX00, w ∈ wsX4_first := by decide +kernel
def rX4_first : Room := { frames := 16, cells := 0, slots := 0, locals := 504 }
set_option maxHeartbeats 4000000 in
set_option maxRecDepth 100000 in
theorem c_X4_first (l : Launch) (D : va_G) (cI : ClassId) (A : Nat → Prop) (ad : Nat → Nat) (σ : Nat → Nat → Nat)  (hI : IC σ) (hW0 : WF σ) (hM0 : MadeW σ) : Met l yX4_first wsX4_first rX4_first (va_Pc [.ref (ad 0)] (Wc D cI A ad σ)) (va_Qi (fun r u => ((∃ k, k < σ 0 2 ∧ r = nI k ∧ ¬ CanM σ (k + 1) 0 ∧ ∀ j, j < k → CanM σ (j + 1) 0) ∨ (r = mI 0 ∧ ∀ j, j < σ 0 2 → CanM σ (j + 1) 0)) ∧ KS σ u) (fun u t => Wc D cI A ad u t) A) 0 0 A := by
  refine Met.ofW (cc := cX4_first) (maxL := 2) (ret := (some .int)) (by decide) rfl ?_
  intro p e s m args below meth c s₁ B hml hv
  obtain ⟨rfl, hP, hK, hD, hN, hZ⟩ := hv
  have hx := B.exec
  have hb := B.bytes
  have hr := B.returns
  have hts := atoms_spec (ws := wsX4_first) B.pre
  have hown : s.vm.findClass RX4 = some m.cls := findClass_of_methodNamed B.named
  have hlocks := B.notSynchronized
  have hS : va_S A s.heap s.heap [] := va_S.rf
  have hl := lv_entry ([.ref (ad 0)]) (n := 2) (Nat.le_of_ble_eq_true rfl)
  rw [lg_entry_eq]
  generalize (lg_sl ([.ref (ad 0)]) ++ List.replicate (2 - (lg_sl ([.ref (ad 0)])).length) Slot.unset).toArray = ls at hl ⊢
  have hl : lv_has ls 2 [(0, .ref (ad 0))] := hl
  have hcm := hI.claims
  refine lv_iconst (v := nI 0) hx hb dX4_first_0 (by decide) ?_
  refine lv_istore_n (lv' := [(1, .int (nI 0)), (0, .ref (ad 0))]) hx hb dX4_first_1 rfl hl (by decide) rfl (fun ls hl => ?_)
  have lp2 : ∀ (n : Nat) (k : Nat) (σ_1 : Nat → Nat → Nat) (H : Heap) (locs : List Loc) (ls : Array Slot), (k + n = σ 0 2) → (KS σ σ_1) → (∀ j, j < k → CanM σ (j + 1) 0) → va_P D vwCl (WC ad cI σ_1) H → va_D A (WC ad cI σ_1) → va_S A s.heap H locs → lv_has ls 2 [(1, .int (nI k)), (0, .ref (ad 0))] → W p l e rX4_first s m (([.ref (ad 0)] : List Value).toArray) below meth c H locs 0 0 (MQ below (va_Qi (fun r u => ((∃ k, k < σ 0 2 ∧ r = nI k ∧ ¬ CanM σ (k + 1) 0 ∧ ∀ j, j < k → CanM σ (j + 1) 0) ∨ (r = mI 0 ∧ ∀ j, j < σ 0 2 → CanM σ (j + 1) 0)) ∧ KS σ u) (fun u t => Wc D cI A ad u t) A) (([.ref (ad 0)] : List Value).toArray) s 0 0 A) (F0 m 2 ls []) := by
    intro n
    induction n with
    | zero =>
      intro k σ_1 H locs ls hF1 hks hX hP hD hS hl
      have h02 : σ_1 0 2 = σ 0 2 := hks.2.1 2 (by decide)
      refine lv_iload_n hx hb dX4_first_2 rfl (lv_at hl 0 rfl) ?_
      refine lv_aload_n hx hb dX4_first_3 rfl (lv_at hl 1 rfl) ?_
      refine va_get (D := D) (ci := 3) (v := .ref (ad 2)) (C := RX4) (T := TX4) (N := 6) hx hb hts in_X4_first_X4 hown hK hP 0 rfl rfl 1 (by decide) (hts _ lk_X4_first_21) (fun _ h9 => h9) rfl dX4_first_4 ?_
      refine va_getN (D := D) (ci := 0) (v := .int (nI (σ_1 0 2))) (C := RX0) (T := TX0) (N := 3) hx hb hts in_X4_first_X0 hown hK hP 2 rfl rfl 2 (by decide) (hN.use 7 rfl) (fun _ h9 => h9) rfl dX4_first_7 ?_
      refine n_icmp_ge hx hb (tgt := 36) (by omega) (by omega) dX4_first_10 (by decide) (fun c_10 => ?_) (fun c_10 => ?_)
      · refine lv_iconst (v := mI 0) hx hb dX4_first_36 (by decide) ?_
        exact W.iret (v := mI 0) hx hb hr (fun t ht hW => ⟨⟨_, σ_1, rfl, (⟨Or.inr ⟨rfl, fun j q => hX j (by omega)⟩, hks⟩), Wc.go hP hK hD hN hZ hS ht hW⟩, hS.F ht⟩) hS.2.2 dX4_first_37
      · omega
    | succ n ih2 =>
      intro k σ_1 H locs ls hF1 hks hX hP hD hS hl
      have h02 : σ_1 0 2 = σ 0 2 := hks.2.1 2 (by decide)
      have hIs := hks.2.2
      have hcs := hks.can (k + 1) 0
      refine lv_iload_n hx hb dX4_first_2 rfl (lv_at hl 0 rfl) ?_
      refine lv_aload_n hx hb dX4_first_3 rfl (lv_at hl 1 rfl) ?_
      refine va_get (D := D) (ci := 3) (v := .ref (ad 2)) (C := RX4) (T := TX4) (N := 6) hx hb hts in_X4_first_X4 hown hK hP 0 rfl rfl 1 (by decide) (hts _ lk_X4_first_21) (fun _ h9 => h9) rfl dX4_first_4 ?_
      refine va_getN (D := D) (ci := 0) (v := .int (nI (σ_1 0 2))) (C := RX0) (T := TX0) (N := 3) hx hb hts in_X4_first_X0 hown hK hP 2 rfl rfl 2 (by decide) (hN.use 7 rfl) (fun _ h9 => h9) rfl dX4_first_7 ?_
      refine n_icmp_ge hx hb (tgt := 36) (by omega) (by omega) dX4_first_10 (by decide) (fun c_10 => ?_) (fun c_10 => ?_)
      · omega
      · refine lv_aload_n hx hb dX4_first_13 rfl (lv_at hl 1 rfl) ?_
        refine lv_iload_n hx hb dX4_first_14 rfl (lv_at hl 0 rfl) ?_
        refine lv_iconst (v := nI 1) hx hb dX4_first_15 (by decide) ?_
        refine n_add hx hb dX4_first_16 ?_
        refine lv_iconst (v := mI 0) hx hb dX4_first_17 (by decide) ?_
        refine va_callv (va_runV (As := [.int (nI (k + 1)), .int (mI 0)]) (rest := []) ⟨hx, hb, hml, hown, hts⟩ (c_X4_askClaims l D cI A ad σ_1 (k + 1) 0 hIs (by omega) (by omega)) (cwV 2 hts gX4_first_X4_askClaims rfl rfl rfl (by decide +kernel) ⟨Nat.le_of_ble_eq_true rfl, Nat.le_of_ble_eq_true rfl⟩) ⟨Wc.blind, va_recv hK hP (ci := 3) (q0 := 0) rfl rfl, fun U hU hW => ⟨rfl, Wc.go hP hK hD hN hZ hS hU hW⟩⟩ rfl rfl hl.1 rfl (lv_room (Nat.le_of_ble_eq_true rfl)) dX4_first_18 ⟨Nat.zero_le _, Nat.zero_le _⟩) hS (fun q _ h => h) (fun q h => h) (fun σ_2 t H1 locs ht hvm hwσ_2 hB hz1 hk1 hS => ?_)
        obtain ⟨hP, -, hD, -⟩ := hB
        rw [ht] at hP
        generalize H1 = H at hP hS ⊢
        have hkq := KS.ofAQ hIs (by omega) hwσ_2
        have hIq := hkq.2.2
        have hcb := AQ.can hIs (by omega) hwσ_2
        have hAk := AQ.ask hIs (by omega) (hks.made hM0) hwσ_2
        refine lv_aload_n hx hb dX4_first_21 rfl (lv_at hl 1 rfl) ?_
        refine va_calli (va_runV (As := []) (rest := []) ⟨hx, hb, hml, hown, hts⟩ (c_X4_isPossible l D cI A ad σ_2 hIq ((hks.tr hkq).wf hW0) hAk) (cwV 0 hts gX4_first_X4_isPossible rfl rfl rfl (by decide +kernel) ⟨Nat.le_of_ble_eq_true rfl, Nat.le_of_ble_eq_true rfl⟩) ⟨Wc.blind, va_recv hK hP (ci := 3) (q0 := 0) rfl rfl, fun U hU hW => ⟨rfl, Wc.go hP hK hD hN hZ hS hU hW⟩⟩ rfl rfl hl.1 rfl (lv_room (Nat.le_of_ble_eq_true rfl)) dX4_first_22 ⟨Nat.zero_le _, Nat.zero_le _⟩) hS (fun q _ h => h) (fun q h => h) (fun r_4 σ_3 t H1 locs ht hvm hwσ_3 hB hz1 hk1 hS => ?_)
        obtain ⟨hr_4, hwσ_3⟩ := hwσ_3
        refine n_to (w := bI (canB σ_1 (k + 1) 0)) (by rw [hr_4, hcb]) ?_
        obtain ⟨hP, -, hD, -⟩ := hB
        rw [ht] at hP
        generalize H1 = H at hP hS ⊢
        have hks2 := hks.tr (hkq.tr (KS.ofFinds hIq hwσ_3))
        refine q_if_ne hx hb (tgt := 30) (bI_z) dX4_first_25 (by decide) (fun c_25 => ?_) (fun c_25 => ?_)
        · refine lv_iinc (v := nI (k + 1)) (lv' := [(1, .int (nI (k + 1))), (0, .ref (ad 0))]) hx hb dX4_first_30 hl (k := 0) rfl (nI_add _ _) (by decide) rfl (fun ls hl => ?_)
          refine lv_goto (tgt := 2) hx hb dX4_first_33 (by decide) ?_
          exact ih2 (k + 1)  _ _ _ _  (by omega) (hks2) (fun j q => by rcases Nat.lt_or_ge j k with z | z; exact hX j z; (obtain rfl : j = k := by omega); exact hcs.mp (canB_iff.mp (ts_nf c_25))) hP hD hS (lv_sub hl [0, 1] rfl)
        · refine lv_iload_n hx hb dX4_first_28 rfl (lv_at hl 0 rfl) ?_
          exact W.iret (v := nI k) hx hb hr (fun t ht hW => ⟨⟨_, σ_3, rfl, (⟨Or.inl ⟨k, by omega, rfl, fun q => absurd (canB_iff.mpr (hcs.mpr q)) (by rw [c_25]; decide), hX⟩, hks2⟩), Wc.go hP hK hD hN hZ hS ht hW⟩, hS.F ht⟩) hS.2.2 dX4_first_29
  exact lp2 (σ 0 2) 0  _ _ _ _ (by omega) (KS.rf hI) (fun j q => absurd q (by omega)) hP hD hS (lv_sub hl [0, 1] rfl)
theorem in_X4_terms_X4 : ∀ w ∈ wsX40, w ∈ wsX4_terms := by decide +kernel
theorem lk_X4_terms_12 : Cond.fieldLink RX4 12 "ArrayClaims" "known" "LArrayClaims$TermTable;" ∈ wsX4_terms := by decide +kernel
theorem in_X4_terms_X3 : ∀ w ∈ wsX30, w ∈ wsX4_terms := by decide +kernel
def rX4_terms : Room := { frames := 0, cells := 0, slots := 0, locals := 0 }
set_option maxHeartbeats 4000000 in
set_option maxRecDepth 100000 in
theorem c_X4_terms (l : Launch) (D : va_G) (cI : ClassId) (A : Nat → Prop) (ad : Nat → Nat) (σ : Nat → Nat → Nat)   : Met l yX4_terms wsX4_terms rX4_terms (va_Pc [.ref (ad 0)] (Wc D cI A ad σ)) (vp_Si (fun r => r = nI (σ 0 1))) 0 0 (fun _ => False) := by
  refine Met.ofW (cc := cX4_terms) (maxL := 1) (ret := (some .int)) (by decide) rfl ?_
  intro p e s m args below meth c s₁ B hml hv
  obtain ⟨rfl, hP, hK, hD, hN, hZ⟩ := hv
  have hx := B.exec
  have hb := B.bytes
  have hr := B.returns
  have hts := atoms_spec (ws := wsX4_terms) B.pre
  have hown : s.vm.findClass RX4 = some m.cls := findClass_of_methodNamed B.named
  have hlocks := B.notSynchronized
  have hS : va_S A s.heap s.heap [] := va_S.rf
  have hl := lv_entry ([.ref (ad 0)]) (n := 1) (Nat.le_of_ble_eq_true rfl)
  rw [lg_entry_eq]
  generalize (lg_sl ([.ref (ad 0)]) ++ List.replicate (1 - (lg_sl ([.ref (ad 0)])).length) Slot.unset).toArray = ls at hl ⊢
  have hl : lv_has ls 1 [(0, .ref (ad 0))] := hl
  refine lv_aload_n hx hb dX4_terms_0 rfl (lv_at hl 0 rfl) ?_
  refine va_get (D := D) (ci := 3) (v := .ref (ad 1)) (C := RX4) (T := TX4) (N := 6) hx hb hts in_X4_terms_X4 hown hK hP 0 rfl rfl 0 (by decide) (hts _ lk_X4_terms_12) (fun _ h9 => h9) rfl dX4_terms_1 ?_
  refine va_getN (D := D) (ci := 2) (v := .int (nI (σ 0 1))) (C := RX3) (T := TX3) (N := 5) hx hb hts in_X4_terms_X3 hown hK hP 1 rfl rfl 4 (by decide) (hN.use 4 rfl) (fun _ h9 => h9) rfl dX4_terms_4 ?_
  exact W.iret (v := nI (σ 0 1)) hx hb hr (fun t ht hW => ⟨_, rfl, rfl, ht⟩) no_locs dX4_terms_7
theorem in_X4_draft_X4 : ∀ w ∈ wsX40, w ∈ wsX4_draft := by decide +kernel
theorem lk_X4_draft_29 : Cond.fieldLink RX4 29 "ArrayClaims" "draftSize" "I" ∈ wsX4_draft := by decide +kernel
def rX4_draft : Room := { frames := 0, cells := 0, slots := 0, locals := 0 }
set_option maxHeartbeats 4000000 in
set_option maxRecDepth 100000 in
theorem c_X4_draft (l : Launch) (D : va_G) (cI : ClassId) (A : Nat → Prop) (ad : Nat → Nat) (σ : Nat → Nat → Nat)   : Met l yX4_draft wsX4_draft rX4_draft (va_Pc [.ref (ad 0)] (Wc D cI A ad σ)) (vp_Si (fun r => r = nI (σ 0 0))) 0 0 (fun _ => False) := by
  refine Met.ofW (cc := cX4_draft) (maxL := 1) (ret := (some .int)) (by decide) rfl ?_
  intro p e s m args below meth c s₁ B hml hv
  obtain ⟨rfl, hP, hK, hD, hN, hZ⟩ := hv
  have hx := B.exec
  have hb := B.bytes
  have hr := B.returns
  have hts := atoms_spec (ws := wsX4_draft) B.pre
  have hown : s.vm.findClass RX4 = some m.cls := findClass_of_methodNamed B.named
  have hlocks := B.notSynchronized
  have hS : va_S A s.heap s.heap [] := va_S.rf
  have hl := lv_entry ([.ref (ad 0)]) (n := 1) (Nat.le_of_ble_eq_true rfl)
  rw [lg_entry_eq]
  generalize (lg_sl ([.ref (ad 0)]) ++ List.replicate (1 - (lg_sl ([.ref (ad 0)])).length) Slot.unset).toArray = ls at hl ⊢
  have hl : lv_has ls 1 [(0, .ref (ad 0))] := hl
  refine lv_aload_n hx hb dX4_draft_0 rfl (lv_at hl 0 rfl) ?_
  refine va_get (D := D) (ci := 3) (v := .int (nI (σ 0 0))) (C := RX4) (T := TX4) (N := 6) hx hb hts in_X4_draft_X4 hown hK hP 0 rfl rfl 3 (by decide) (hts _ lk_X4_draft_29) (fun _ h9 => h9) rfl dX4_draft_1 ?_
  exact W.iret (v := nI (σ 0 0)) hx hb hr (fun t ht hW => ⟨_, rfl, rfl, ht⟩) no_locs dX4_draft_4
theorem in_X4_claims_X4 : ∀ w ∈ wsX40, w ∈ wsX4_claims := by decide +kernel
theorem lk_X4_claims_21 : Cond.fieldLink RX4 21 "ArrayClaims" "made" "LArrayClaims$ClaimList;" ∈ wsX4_claims := by decide +kernel
theorem in_X4_claims_X0 : ∀ w ∈ wsX00, w ∈ wsX4_claims := by decide +kernel
def rX4_claims : Room := { frames := 0, cells := 0, slots := 0, locals := 0 }
set_option maxHeartbeats 4000000 in
set_option maxRecDepth 100000 in
theorem c_X4_claims (l : Launch) (D : va_G) (cI : ClassId) (A : Nat → Prop) (ad : Nat → Nat) (σ : Nat → Nat → Nat)   : Met l yX4_claims wsX4_claims rX4_claims (va_Pc [.ref (ad 0)] (Wc D cI A ad σ)) (vp_Si (fun r => r = nI (σ 0 2))) 0 0 (fun _ => False) := by
  refine Met.ofW (cc := cX4_claims) (maxL := 1) (ret := (some .int)) (by decide) rfl ?_
  intro p e s m args below meth c s₁ B hml hv
  obtain ⟨rfl, hP, hK, hD, hN, hZ⟩ := hv
  have hx := B.exec
  have hb := B.bytes
  have hr := B.returns
  have hts := atoms_spec (ws := wsX4_claims) B.pre
  have hown : s.vm.findClass RX4 = some m.cls := findClass_of_methodNamed B.named
  have hlocks := B.notSynchronized
  have hS : va_S A s.heap s.heap [] := va_S.rf
  have hl := lv_entry ([.ref (ad 0)]) (n := 1) (Nat.le_of_ble_eq_true rfl)
  rw [lg_entry_eq]
  generalize (lg_sl ([.ref (ad 0)]) ++ List.replicate (1 - (lg_sl ([.ref (ad 0)])).length) Slot.unset).toArray = ls at hl ⊢
  have hl : lv_has ls 1 [(0, .ref (ad 0))] := hl
  refine lv_aload_n hx hb dX4_claims_0 rfl (lv_at hl 0 rfl) ?_
  refine va_get (D := D) (ci := 3) (v := .ref (ad 2)) (C := RX4) (T := TX4) (N := 6) hx hb hts in_X4_claims_X4 hown hK hP 0 rfl rfl 1 (by decide) (hts _ lk_X4_claims_21) (fun _ h9 => h9) rfl dX4_claims_1 ?_
  refine va_getN (D := D) (ci := 0) (v := .int (nI (σ 0 2))) (C := RX0) (T := TX0) (N := 3) hx hb hts in_X4_claims_X0 hown hK hP 2 rfl rfl 2 (by decide) (hN.use 7 rfl) (fun _ h9 => h9) rfl dX4_claims_4 ?_
  exact W.iret (v := nI (σ 0 2)) hx hb hr (fun t ht hW => ⟨_, rfl, rfl, ht⟩) no_locs dX4_claims_7
theorem in_X4_sort_X4 : ∀ w ∈ wsX40, w ∈ wsX4_sort := by decide +kernel
theorem lk_X4_sort_12 : Cond.fieldLink RX4 12 "ArrayClaims" "known" "LArrayClaims$TermTable;" ∈ wsX4_sort := by decide +kernel
def rX4_sort_in : Room := { frames := 2, cells := 0, slots := 0, locals := 42 }
set_option maxHeartbeats 4000000 in
set_option maxRecDepth 100000 in
theorem c_X4_sort_in (l : Launch) (D : va_G) (cI : ClassId) (A : Nat → Prop) (ad : Nat → Nat) (σ : Nat → Nat → Nat) (j : Nat) (hj : j < σ 0 1) (hc : σ 0 1 ≤ 24) : Met l yX4_sort wsX4_sort rX4_sort_in (va_Pc [.ref (ad 0), .int (nI j)] (Wc D cI A ad σ)) (vp_Si (fun r => r = nI (σ 6 j))) 0 0 (fun _ => False) := by
  refine Met.ofW (cc := cX4_sort) (maxL := 2) (ret := (some .int)) (by decide) rfl ?_
  intro p e s m args below meth c s₁ B hml hv
  obtain ⟨rfl, hP, hK, hD, hN, hZ⟩ := hv
  have hx := B.exec
  have hb := B.bytes
  have hr := B.returns
  have hts := atoms_spec (ws := wsX4_sort) B.pre
  have hown : s.vm.findClass RX4 = some m.cls := findClass_of_methodNamed B.named
  have hlocks := B.notSynchronized
  have hS : va_S A s.heap s.heap [] := va_S.rf
  have hl := lv_entry ([.ref (ad 0), .int (nI j)]) (n := 2) (Nat.le_of_ble_eq_true rfl)
  rw [lg_entry_eq]
  generalize (lg_sl ([.ref (ad 0), .int (nI j)]) ++ List.replicate (2 - (lg_sl ([.ref (ad 0), .int (nI j)])).length) Slot.unset).toArray = ls at hl ⊢
  have hl : lv_has ls 2 [(0, .ref (ad 0)), (1, .int (nI j))] := hl
  refine lv_aload_n hx hb dX4_sort_0 rfl (lv_at hl 0 rfl) ?_
  refine va_get (D := D) (ci := 3) (v := .ref (ad 1)) (C := RX4) (T := TX4) (N := 6) hx hb hts in_X4_sort_X4 hown hK hP 0 rfl rfl 0 (by decide) (hts _ lk_X4_sort_12) (fun _ h9 => h9) rfl dX4_sort_1 ?_
  refine lv_iload_n hx hb dX4_sort_4 rfl (lv_at hl 1 rfl) ?_
  refine vp_callSi (va_Run.run (va_runV (As := [.int (nI j)]) (rest := []) ⟨hx, hb, hml, hown, hts⟩ (c_X3_sortOf_in l D cI A ad σ j hj hc) (cwV 1 hts gX4_sort_X3_sortOf rfl rfl rfl (by decide +kernel) ⟨Nat.le_of_ble_eq_true rfl, Nat.le_of_ble_eq_true rfl⟩) ⟨Wc.blind, va_recv hK hP (ci := 2) (q0 := 1) rfl rfl, fun U hU hW => ⟨rfl, Wc.go hP hK hD hN hZ hS hU hW⟩⟩ rfl rfl hl.1 rfl (lv_room (Nat.le_of_ble_eq_true rfl)) dX4_sort_5 ⟨Nat.zero_le _, Nat.zero_le _⟩)) (fun r_1 hr_1 => ?_)
  refine n_to (w := nI (σ 6 j)) (hr_1.trans rfl) ?_
  exact W.iret (v := nI (σ 6 j)) hx hb hr (fun t ht hW => ⟨_, rfl, rfl, ht⟩) no_locs dX4_sort_8
def rX4_sort_out : Room := { frames := 2, cells := 0, slots := 0, locals := 42 }
set_option maxHeartbeats 4000000 in
set_option maxRecDepth 100000 in
theorem c_X4_sort_out (l : Launch) (D : va_G) (cI : ClassId) (A : Nat → Prop) (ad : Nat → Nat) (σ : Nat → Nat → Nat) (x : Int32) (hxo : x < 0 ∨ nI (σ 0 1) ≤ x) : Met l yX4_sort wsX4_sort rX4_sort_out (va_Pc [.ref (ad 0), .int x] (Wc D cI A ad σ)) (vp_Si (fun r => r = mI 0)) 0 0 (fun _ => False) := by
  refine Met.ofW (cc := cX4_sort) (maxL := 2) (ret := (some .int)) (by decide) rfl ?_
  intro p e s m args below meth c s₁ B hml hv
  obtain ⟨rfl, hP, hK, hD, hN, hZ⟩ := hv
  have hx := B.exec
  have hb := B.bytes
  have hr := B.returns
  have hts := atoms_spec (ws := wsX4_sort) B.pre
  have hown : s.vm.findClass RX4 = some m.cls := findClass_of_methodNamed B.named
  have hlocks := B.notSynchronized
  have hS : va_S A s.heap s.heap [] := va_S.rf
  have hl := lv_entry ([.ref (ad 0), .int x]) (n := 2) (Nat.le_of_ble_eq_true rfl)
  rw [lg_entry_eq]
  generalize (lg_sl ([.ref (ad 0), .int x]) ++ List.replicate (2 - (lg_sl ([.ref (ad 0), .int x])).length) Slot.unset).toArray = ls at hl ⊢
  have hl : lv_has ls 2 [(0, .ref (ad 0)), (1, .int x)] := hl
  refine lv_aload_n hx hb dX4_sort_0 rfl (lv_at hl 0 rfl) ?_
  refine va_get (D := D) (ci := 3) (v := .ref (ad 1)) (C := RX4) (T := TX4) (N := 6) hx hb hts in_X4_sort_X4 hown hK hP 0 rfl rfl 0 (by decide) (hts _ lk_X4_sort_12) (fun _ h9 => h9) rfl dX4_sort_1 ?_
  refine lv_iload_n hx hb dX4_sort_4 rfl (lv_at hl 1 rfl) ?_
  refine vp_callSi (va_Run.run (va_runV (As := [.int x]) (rest := []) ⟨hx, hb, hml, hown, hts⟩ (c_X3_sortOf_out l D cI A ad σ x hxo) (cwV 1 hts gX4_sort_X3_sortOf rfl rfl rfl (by decide +kernel) ⟨Nat.le_of_ble_eq_true rfl, Nat.le_of_ble_eq_true rfl⟩) ⟨Wc.blind, va_recv hK hP (ci := 2) (q0 := 1) rfl rfl, fun U hU hW => ⟨rfl, Wc.go hP hK hD hN hZ hS hU hW⟩⟩ rfl rfl hl.1 rfl (lv_room (Nat.le_of_ble_eq_true rfl)) dX4_sort_5 ⟨Nat.zero_le _, Nat.zero_le _⟩)) (fun r_1 hr_1 => ?_)
  refine n_to (w := mI 0) (hr_1.trans rfl) ?_
  exact W.iret (v := mI 0) hx hb hr (fun t ht hW => ⟨_, rfl, rfl, ht⟩) no_locs dX4_sort_8
theorem in_X4_clear_X4 : ∀ w ∈ wsX40, w ∈ wsX4_clear := by decide +kernel
theorem lk_X4_clear_29 : Cond.fieldLink RX4 29 "ArrayClaims" "draftSize" "I" ∈ wsX4_clear := by decide +kernel
def rX4_clear : Room := { frames := 0, cells := 0, slots := 0, locals := 0 }
set_option maxHeartbeats 4000000 in
set_option maxRecDepth 100000 in
theorem c_X4_clear (l : Launch) (D : va_G) (cI : ClassId) (A : Nat → Prop) (ad : Nat → Nat) (σ : Nat → Nat → Nat)   : Met l yX4_clear wsX4_clear rX4_clear (va_Pc [.ref (ad 0)] (Wc D cI A ad σ)) (va_Qv (fun u => u = sU σ 0 0 0) (fun u t => Wc D cI A ad u t) A) 0 0 A := by
  refine Met.ofW (cc := cX4_clear) (maxL := 1) (ret := none) (by decide) rfl ?_
  intro p e s m args below meth c s₁ B hml hv
  obtain ⟨rfl, hP, hK, hD, hN, hZ⟩ := hv
  have hx := B.exec
  have hb := B.bytes
  have hr := B.returns
  have hts := atoms_spec (ws := wsX4_clear) B.pre
  have hown : s.vm.findClass RX4 = some m.cls := findClass_of_methodNamed B.named
  have hlocks := B.notSynchronized
  have hS : va_S A s.heap s.heap [] := va_S.rf
  have hl := lv_entry ([.ref (ad 0)]) (n := 1) (Nat.le_of_ble_eq_true rfl)
  rw [lg_entry_eq]
  generalize (lg_sl ([.ref (ad 0)]) ++ List.replicate (1 - (lg_sl ([.ref (ad 0)])).length) Slot.unset).toArray = ls at hl ⊢
  have hl : lv_has ls 1 [(0, .ref (ad 0))] := hl
  refine lv_aload_n hx hb dX4_clear_0 rfl (lv_at hl 0 rfl) ?_
  refine lv_iconst (v := nI 0) hx hb dX4_clear_1 (by decide) ?_
  refine va_put (D := D) (ci := 3) (v := .int (nI 0)) (ty := .int) (C := RX4) (T := TX4) (N := 6) hx hb hts in_X4_clear_X4 tyX4 tyX4_ok nmX4 hown hK hP hD hS 0 rfl rfl 3 (by decide) (hts _ lk_X4_clear_29) (fun _ h9 => h9) rfl (by decide +kernel) rfl rfl (Nat.le_of_ble_eq_true rfl) dX4_clear_2 (fun H locs hP hD hS => ?_)
  have hP : va_P D vwCl (WC ad cI (sU σ 0 0 0)) H := hP
  have hD : va_D A (WC ad cI (sU σ 0 0 0)) := hD
  exact W.vret hx hb hr (fun t ht hW => ⟨⟨_, rfl, (rfl), Wc.go hP hK hD hN hZ hS ht hW⟩, hS.F ht⟩) hS.2.2 dX4_clear_5
theorem in_X4_keep_X4 : ∀ w ∈ wsX40, w ∈ wsX4_keep := by decide +kernel
theorem lk_X4_keep_21 : Cond.fieldLink RX4 21 "ArrayClaims" "made" "LArrayClaims$ClaimList;" ∈ wsX4_keep := by decide +kernel
theorem in_X4_keep_X0 : ∀ w ∈ wsX00, w ∈ wsX4_keep := by decide +kernel
def rX4_keep_in : Room := { frames := 1, cells := 0, slots := 0, locals := 21 }
set_option maxHeartbeats 4000000 in
set_option maxRecDepth 100000 in
theorem c_X4_keep_in (l : Launch) (D : va_G) (cI : ClassId) (A : Nat → Prop) (ad : Nat → Nat) (σ : Nat → Nat → Nat) (k : Nat) (hI : IC σ) (hk : k ≤ σ 0 2) : Met l yX4_keep wsX4_keep rX4_keep_in (va_Pc [.ref (ad 0), .int (nI k)] (Wc D cI A ad σ)) (va_Qi (fun r u => r = bI true ∧ u = if k < σ 0 2 then sU σ 0 2 k else σ) (fun u t => Wc D cI A ad u t) A) 0 0 A := by
  refine Met.ofW (cc := cX4_keep) (maxL := 2) (ret := (some .boolean)) (by decide) rfl ?_
  intro p e s m args below meth c s₁ B hml hv
  obtain ⟨rfl, hP, hK, hD, hN, hZ⟩ := hv
  have hx := B.exec
  have hb := B.bytes
  have hr := B.returns
  have hts := atoms_spec (ws := wsX4_keep) B.pre
  have hown : s.vm.findClass RX4 = some m.cls := findClass_of_methodNamed B.named
  have hlocks := B.notSynchronized
  have hS : va_S A s.heap s.heap [] := va_S.rf
  have hl := lv_entry ([.ref (ad 0), .int (nI k)]) (n := 2) (Nat.le_of_ble_eq_true rfl)
  rw [lg_entry_eq]
  generalize (lg_sl ([.ref (ad 0), .int (nI k)]) ++ List.replicate (2 - (lg_sl ([.ref (ad 0), .int (nI k)])).length) Slot.unset).toArray = ls at hl ⊢
  have hl : lv_has ls 2 [(0, .ref (ad 0)), (1, .int (nI k))] := hl
  have hcm := hI.claims
  refine lv_iload_n hx hb dX4_keep_0 rfl (lv_at hl 1 rfl) ?_
  refine lv_if_lt hx hb (tgt := 15) dX4_keep_1 (by decide) (fun c_1 => ?_) (fun c_1 => ?_)
  · exact absurd c_1 (nI_pos (by omega))
  · refine lv_iload_n hx hb dX4_keep_4 rfl (lv_at hl 1 rfl) ?_
    refine lv_aload_n hx hb dX4_keep_5 rfl (lv_at hl 0 rfl) ?_
    refine va_get (D := D) (ci := 3) (v := .ref (ad 2)) (C := RX4) (T := TX4) (N := 6) hx hb hts in_X4_keep_X4 hown hK hP 0 rfl rfl 1 (by decide) (hts _ lk_X4_keep_21) (fun _ h9 => h9) rfl dX4_keep_6 ?_
    refine va_getN (D := D) (ci := 0) (v := .int (nI (σ 0 2))) (C := RX0) (T := TX0) (N := 3) hx hb hts in_X4_keep_X0 hown hK hP 2 rfl rfl 2 (by decide) (hN.use 7 rfl) (fun _ h9 => h9) rfl dX4_keep_9 ?_
    refine n_icmp_le hx hb (tgt := 17) (by omega) (by omega) dX4_keep_12 (by decide) (fun c_12 => ?_) (fun c_12 => ?_)
    · refine lv_aload_n hx hb dX4_keep_17 rfl (lv_at hl 0 rfl) ?_
      refine va_get (D := D) (ci := 3) (v := .ref (ad 2)) (C := RX4) (T := TX4) (N := 6) hx hb hts in_X4_keep_X4 hown hK hP 0 rfl rfl 1 (by decide) (hts _ lk_X4_keep_21) (fun _ h9 => h9) rfl dX4_keep_18 ?_
      refine lv_iload_n hx hb dX4_keep_21 rfl (lv_at hl 1 rfl) ?_
      refine va_callv (va_runV (As := [.int (nI k)]) (rest := []) ⟨hx, hb, hml, hown, hts⟩ (c_X0_cutTo_made l D cI A ad σ k hI (by omega)) (cwV 1 hts gX4_keep_X0_cutTo rfl rfl rfl (by decide +kernel) ⟨Nat.le_of_ble_eq_true rfl, Nat.le_of_ble_eq_true rfl⟩) ⟨Wc.blind, va_recv hK hP (ci := 0) (q0 := 2) rfl rfl, fun U hU hW => ⟨rfl, Wc.go hP hK hD hN hZ hS hU hW⟩⟩ rfl rfl hl.1 rfl (lv_room (Nat.le_of_ble_eq_true rfl)) dX4_keep_22 ⟨Nat.zero_le _, Nat.zero_le _⟩) hS (fun q _ h => h) (fun q h => h) (fun σ_1 t H1 locs ht hvm hwσ_1 hB hz1 hk1 hS => ?_)
      obtain ⟨hP, -, hD, -⟩ := hB
      rw [ht] at hP
      generalize H1 = H at hP hS ⊢
      refine lv_iconst (v := nI 1) hx hb dX4_keep_25 (by decide) ?_
      exact W.zret (v := nI 1) hx hb hr (n_nar1) (fun t ht hW => ⟨⟨_, σ_1, rfl, (⟨rfl, hwσ_1⟩), Wc.go hP hK hD hN hZ hS ht hW⟩, hS.F ht⟩) hS.2.2 dX4_keep_26
    · omega
def rX4_keep_out : Room := { frames := 0, cells := 0, slots := 0, locals := 0 }
set_option maxHeartbeats 4000000 in
set_option maxRecDepth 100000 in
theorem c_X4_keep_out (l : Launch) (D : va_G) (cI : ClassId) (A : Nat → Prop) (ad : Nat → Nat) (σ : Nat → Nat → Nat) (x : Int32) (hxo : x < 0 ∨ ¬ x ≤ nI (σ 0 2)) : Met l yX4_keep wsX4_keep rX4_keep_out (va_Pc [.ref (ad 0), .int x] (Wc D cI A ad σ)) (vp_Si (fun r => r = bI false)) 0 0 (fun _ => False) := by
  refine Met.ofW (cc := cX4_keep) (maxL := 2) (ret := (some .boolean)) (by decide) rfl ?_
  intro p e s m args below meth c s₁ B hml hv
  obtain ⟨rfl, hP, hK, hD, hN, hZ⟩ := hv
  have hx := B.exec
  have hb := B.bytes
  have hr := B.returns
  have hts := atoms_spec (ws := wsX4_keep) B.pre
  have hown : s.vm.findClass RX4 = some m.cls := findClass_of_methodNamed B.named
  have hlocks := B.notSynchronized
  have hS : va_S A s.heap s.heap [] := va_S.rf
  have hl := lv_entry ([.ref (ad 0), .int x]) (n := 2) (Nat.le_of_ble_eq_true rfl)
  rw [lg_entry_eq]
  generalize (lg_sl ([.ref (ad 0), .int x]) ++ List.replicate (2 - (lg_sl ([.ref (ad 0), .int x])).length) Slot.unset).toArray = ls at hl ⊢
  have hl : lv_has ls 2 [(0, .ref (ad 0)), (1, .int x)] := hl
  refine lv_iload_n hx hb dX4_keep_0 rfl (lv_at hl 1 rfl) ?_
  refine lv_if_lt hx hb (tgt := 15) dX4_keep_1 (by decide) (fun c_1 => ?_) (fun c_1 => ?_)
  · refine lv_iconst (v := nI 0) hx hb dX4_keep_15 (by decide) ?_
    exact W.zret (v := nI 0) hx hb hr (n_nar0) (fun t ht hW => ⟨_, rfl, rfl, ht⟩) no_locs dX4_keep_16
  · refine lv_iload_n hx hb dX4_keep_4 rfl (lv_at hl 1 rfl) ?_
    refine lv_aload_n hx hb dX4_keep_5 rfl (lv_at hl 0 rfl) ?_
    refine va_get (D := D) (ci := 3) (v := .ref (ad 2)) (C := RX4) (T := TX4) (N := 6) hx hb hts in_X4_keep_X4 hown hK hP 0 rfl rfl 1 (by decide) (hts _ lk_X4_keep_21) (fun _ h9 => h9) rfl dX4_keep_6 ?_
    refine va_getN (D := D) (ci := 0) (v := .int (nI (σ 0 2))) (C := RX0) (T := TX0) (N := 3) hx hb hts in_X4_keep_X0 hown hK hP 2 rfl rfl 2 (by decide) (hN.use 7 rfl) (fun _ h9 => h9) rfl dX4_keep_9 ?_
    refine lv_icmp_le hx hb (tgt := 17) dX4_keep_12 (by decide) (fun c_12 => ?_) (fun c_12 => ?_)
    · exact absurd hxo (fun q => q.elim c_1 (fun z => z c_12))
    · refine lv_iconst (v := nI 0) hx hb dX4_keep_15 (by decide) ?_
      exact W.zret (v := nI 0) hx hb hr (n_nar0) (fun t ht hW => ⟨_, rfl, rfl, ht⟩) no_locs dX4_keep_16
end
section
/-! ASKING for all claims and some literals more -/
theorem ts_ff {x : Bool} (h : x = false) : ¬ x = true := by rw [h]; decide
theorem addSF_rows {s : Nat → Nat → Nat} {v : Nat} : (∀ r, r ≠ 12 → r ≠ 13 → r ≠ 0 → addSF s v r = s r) ∧ (∀ j, j ≠ 4 → addSF s v 0 j = s 0 j) ∧ addSF s v 0 4 = s 0 4 + 1 ∧ (∀ j, addSF s v 13 j = if j = s 0 4 then 1 else s 13 j) ∧ (∀ j, addSF s v 12 j = if j = s 0 4 * 3 then v else s 12 j) := by
  unfold addSF
  refine ⟨fun r h1 h2 h3 => ?_, fun j hj => ?_, ?_, fun j => ?_, fun j => ?_⟩
  · rw [sU_ne _ _ _ h3, sU_ne _ _ _ h2, sU_ne _ _ _ h1]
  · rw [sU_at, if_neg hj, sU_ne _ _ _ (by decide), sU_ne _ _ _ (by decide)]
  · rw [sU_at, if_pos rfl]
  · rw [sU_ne _ _ _ (by decide), sU_at, sU_ne _ _ _ (by decide)]
  · rw [sU_ne _ _ _ (by decide), sU_ne _ _ _ (by decide), sU_at]
/-- s asks for all claims of σ, and for the first n of the literals f -/
def AR (σ s : Nat → Nat → Nat) (n : Nat) (f : Nat → Nat) : Prop :=
  (∀ r, r ≠ 0 → r ≠ 12 → r ≠ 13 → r ≠ 14 → r ≠ 15 → s r = σ r) ∧ (∀ j, j ≠ 4 → s 0 j = σ 0 j) ∧ IC s ∧ s 0 4 = σ 0 2 + n ∧
  (∀ cl, cl < σ 0 2 → s 13 cl = σ 11 cl ∧ ∀ k, k < σ 11 cl → s 12 (cl * 3 + k) = σ 10 (cl * 3 + k)) ∧ (∀ i, i < n → s 13 (σ 0 2 + i) = 1 ∧ s 12 ((σ 0 2 + i) * 3) = f i)
theorem AR.ks {σ s : Nat → Nat → Nat} {n : Nat} {f : Nat → Nat} (h : AR σ s n f) : KS σ s := ⟨h.1, h.2.1, h.2.2.1⟩
theorem AR.ofAQ {σ s : Nat → Nat → Nat} {f : Nat → Nat} (hI : IC σ) (h : AQ σ s (σ 0 2) 0) : AR σ s 0 f := by
  have hk := KS.ofAQ hI hI.claims h
  obtain ⟨-, -, -, -, -, -, -, pz⟩ := h
  obtain ⟨p1, p2⟩ := pz rfl
  exact ⟨hk.1, hk.2.1, hk.2.2, p1, p2, fun i hi => by omega⟩
theorem AR.finds {σ s u : Nat → Nat → Nat} {n : Nat} {f : Nat → Nat} (h : AR σ s n f) (hu : (∀ r, r ≠ 14 → r ≠ 15 → u r = s r) ∧ (∀ j, j < 96 → u 14 j < 10) ∧ (∀ j, j < 10 → u 15 j ≤ 20)) : AR σ u n f := by
  obtain ⟨a, b, c, d, e, g⟩ := h
  have h0 := hu.1 0 (by decide) (by decide)
  have h12 := hu.1 12 (by decide) (by decide)
  have h13 := hu.1 13 (by decide) (by decide)
  refine ⟨fun r q0 q12 q13 q14 q15 => by rw [hu.1 r q14 q15]; exact a r q0 q12 q13 q14 q15, fun j hj => by rw [h0]; exact b j hj, c.swap hu.1 hu.2.1 hu.2.2, by rw [h0]; exact d, fun cl hcl => ?_, fun i hi => ?_⟩
  · rw [h12, h13]; exact e cl hcl
  · rw [h12, h13]; exact g i hi
theorem AR.single {σ s : Nat → Nat → Nat} {n v : Nat} {f : Nat → Nat} (hI : IC σ) (h : AR σ s n f) (hn : σ 0 2 + n < 11) (hv : litOK v) (hf : f n = v) : AR σ (addSF s v) (n + 1) f := by
  obtain ⟨a, b, c, d, e, g⟩ := h
  obtain ⟨r1, r2, r3, r4, r5⟩ := addSF_rows (s := s) (v := v)
  have hc2 := hI.claims
  refine ⟨fun r q0 q12 q13 q14 q15 => by rw [r1 r q12 q13 q0]; exact a r q0 q12 q13 q14 q15, fun j hj => by rw [r2 j hj]; exact b j hj, ?_, by rw [r3, d]; omega, fun cl hcl => ?_, fun i hi => ?_⟩
  · obtain ⟨h1, h2, h3, h4, h5, h6, h7, h8, h9, h10, h11, h12, h13, h14⟩ := c
    unfold IC
    rw [r1 6 (by decide) (by decide) (by decide), r1 7 (by decide) (by decide) (by decide), r1 8 (by decide) (by decide) (by decide), r1 9 (by decide) (by decide) (by decide), r1 3 (by decide) (by decide) (by decide), r1 10 (by decide) (by decide) (by decide), r1 11 (by decide) (by decide) (by decide), r1 14 (by decide) (by decide) (by decide), r1 15 (by decide) (by decide) (by decide), r2 0 (by decide), r2 1 (by decide), r2 2 (by decide), r3]
    refine ⟨h1, h2, h3, by omega, h5, h6, h7, h8, h9, h10, fun j hj => ?_, fun j hj => ?_, h13, h14⟩
    · rw [r5]; split
      · exact hv
      · exact h11 j hj
    · rw [r4]; split
      · omega
      · exact h12 j hj
  · obtain ⟨e1, e2⟩ := e cl hcl
    have hz := hI.msize (j := cl) (by omega)
    refine ⟨by rw [r4, if_neg (by omega)]; exact e1, fun k hk => ?_⟩
    rw [r5, if_neg (by omega)]
    exact e2 k hk
  · rcases Nat.lt_or_ge i n with z | z
    · obtain ⟨g1, g2⟩ := g i z
      exact ⟨by rw [r4, if_neg (by omega)]; exact g1, by rw [r5, if_neg (by omega)]; exact g2⟩
    · obtain rfl : i = n := by omega
      exact ⟨by rw [r4, if_pos (by omega)], by rw [r5, if_pos (by omega)]; exact hf.symm⟩
theorem AR.cut {σ s : Nat → Nat → Nat} {f g : Nat → Nat} (h : AR σ s 1 f) : AR σ (if σ 0 2 < s 0 4 then sU s 0 4 (σ 0 2) else s) 0 g := by
  obtain ⟨a, b, c, d, e, -⟩ := h
  rw [if_pos (by omega)]
  refine ⟨fun r q0 q12 q13 q14 q15 => by rw [sU_ne _ _ _ q0]; exact a r q0 q12 q13 q14 q15, fun j hj => by rw [sU_at, if_neg hj]; exact b j hj, ?_, by rw [sU_at, if_pos rfl]; rfl, fun cl hcl => ?_, fun i hi => by omega⟩
  · obtain ⟨h1, h2, h3, h4, h5, h6, h7, h8, h9, h10, h11, h12, h13, h14⟩ := c
    unfold IC
    rw [sU_ne _ _ _ (by decide : (6 : Nat) ≠ 0), sU_ne _ _ _ (by decide : (7 : Nat) ≠ 0), sU_ne _ _ _ (by decide : (8 : Nat) ≠ 0), sU_ne _ _ _ (by decide : (9 : Nat) ≠ 0), sU_ne _ _ _ (by decide : (3 : Nat) ≠ 0), sU_ne _ _ _ (by decide : (10 : Nat) ≠ 0), sU_ne _ _ _ (by decide : (11 : Nat) ≠ 0), sU_ne _ _ _ (by decide : (12 : Nat) ≠ 0), sU_ne _ _ _ (by decide : (13 : Nat) ≠ 0), sU_ne _ _ _ (by decide : (14 : Nat) ≠ 0), sU_ne _ _ _ (by decide : (15 : Nat) ≠ 0)]
    rw [sU_at, sU_at, sU_at, sU_at, if_neg (by decide), if_neg (by decide), if_neg (by decide), if_pos rfl]
    exact ⟨h1, h2, h3, by omega, h5, h6, h7, h8, h9, h10, h11, h12, h13, h14⟩
  · rw [sU_ne _ _ _ (by decide : (12 : Nat) ≠ 0), sU_ne _ _ _ (by decide : (13 : Nat) ≠ 0)]
    exact e cl hcl
/-- a reading of the claims of σ in which the first n of the literals f are right too -/
def SatX (σ : Nat → Nat → Nat) (w n : Nat) (f : Nat → Nat) : Prop := ∃ V : Nat → Nat, V 5 = 0 ∧ RngV V ∧ (∀ c, c < σ 0 2 → ∃ k, k < σ 11 c ∧ LD σ w V (σ 10 (c * 3 + k))) ∧ ∀ i, i < n → LD σ w V (f i)
def CanX (σ : Nat → Nat → Nat) (n : Nat) (f : Nat → Nat) : Prop := ∃ w, w < 5 ∧ SatX σ w n f
theorem AR.sat {σ s : Nat → Nat → Nat} {n : Nat} {f : Nat → Nat} (h : AR σ s n f) (w : Nat) : SatA s w ↔ SatX σ w n f := by
  have hk := h.ks
  obtain ⟨a, b, c, d, e, g⟩ := h
  unfold SatA SatX
  constructor
  · rintro ⟨V, h1, h2, h3⟩
    refine ⟨V, h1, h2, fun cl hcl => ?_, fun i hi => ?_⟩
    · obtain ⟨k, k1, k2⟩ := h3 cl (by omega)
      obtain ⟨e1, e2⟩ := e cl hcl
      rw [e1] at k1
      rw [e2 k k1, hk.ld] at k2
      exact ⟨k, k1, k2⟩
    · obtain ⟨k, k1, k2⟩ := h3 (σ 0 2 + i) (by omega)
      obtain ⟨g1, g2⟩ := g i hi
      rw [g1] at k1
      obtain rfl : k = 0 := by omega
      rw [Nat.add_zero, g2, hk.ld] at k2
      exact k2
  · rintro ⟨V, h1, h2, h3, h4⟩
    refine ⟨V, h1, h2, fun cl hcl => ?_⟩
    rcases Nat.lt_or_ge cl (σ 0 2) with z | z
    · obtain ⟨k, k1, k2⟩ := h3 cl z
      obtain ⟨e1, e2⟩ := e cl z
      exact ⟨k, by rw [e1]; exact k1, by rw [e2 k k1, hk.ld]; exact k2⟩
    · obtain ⟨i, rfl⟩ : ∃ i, cl = σ 0 2 + i := ⟨cl - σ 0 2, by omega⟩
      obtain ⟨g1, g2⟩ := g i (by omega)
      exact ⟨0, by omega, by rw [Nat.add_zero, g2, hk.ld]; exact h4 i (by omega)⟩
theorem AR.ask {σ s : Nat → Nat → Nat} {n : Nat} {f : Nat → Nat} (h : AR σ s n f) (hM : MadeW σ) (hf : ∀ i, i < n → litW σ (f i)) : AskW s := by
  have hk := h.ks
  obtain ⟨a, b, c, d, e, g⟩ := h
  intro cl hcl k hk2
  rw [hk.litW]
  rcases Nat.lt_or_ge cl (σ 0 2) with z | z
  · obtain ⟨e1, e2⟩ := e cl z
    rw [e1] at hk2
    rw [e2 k hk2]
    exact hM cl z k hk2
  · obtain ⟨i, rfl⟩ : ∃ i, cl = σ 0 2 + i := ⟨cl - σ 0 2, by omega⟩
    obtain ⟨g1, g2⟩ := g i (by omega)
    rw [g1] at hk2
    obtain rfl : k = 0 := by omega
    rw [Nat.add_zero, g2]
    exact hf i (by omega)
noncomputable def canXB (σ : Nat → Nat → Nat) (n : Nat) (f : Nat → Nat) : Bool := @decide (CanX σ n f) (Classical.propDecidable _)
theorem canXB_iff {σ : Nat → Nat → Nat} {n : Nat} {f : Nat → Nat} : canXB σ n f = true ↔ CanX σ n f := @decide_eq_true_iff _ (Classical.propDecidable _)
theorem AR.can {σ s : Nat → Nat → Nat} {n : Nat} {f : Nat → Nat} (h : AR σ s n f) : fdB s 1 3 = canXB σ n f := by
  refine bool_iff fdB_iff (canXB_iff.trans ?_)
  unfold CanX fdP
  constructor
  · rintro ⟨w, h1, h2⟩
    exact ⟨w, h1, (dif13 w h1).1, (dif13 w h1).2, (h.sat w).mpr h2⟩
  · rintro ⟨w, h1, -, -, h2⟩
    exact ⟨w, h1, (h.sat w).mp h2⟩
theorem litF_ok {t u : Nat} (b : Bool) (ht : t < 24) (hu : u < 24) : litOK (litF t u b) ∧ litF t u b % 32 = t ∧ litF t u b / 32 % 32 = u ∧ saysB (litF t u b) = b := by
  unfold litF litOK saysB
  cases b
  · simp only [Bool.false_eq_true, if_false, decide_eq_false_iff_not]
    omega
  · simp only [if_true, decide_eq_true_eq]
    omega
theorem oppF_ok {v : Nat} (h : litOK v) : litOK (oppF v) ∧ oppF v % 32 = v % 32 ∧ oppF v / 32 % 32 = v / 32 % 32 ∧ saysB (oppF v) = !saysB v := by
  unfold litOK at h ⊢
  unfold oppF saysB
  split
  · rename_i q
    rw [decide_eq_true q]
    simp only [Bool.not_true, decide_eq_false_iff_not]
    omega
  · rename_i q
    rw [decide_eq_false q]
    simp only [Bool.not_false, decide_eq_true_eq]
    omega
theorem addML_eq {σ : Nat → Nat → Nat} {o : Nat} : ∀ (n k : Nat) (s : Nat → Nat → Nat), (∀ r, r ≠ 10 → addML σ o n k s r = s r) ∧ ∀ j, addML σ o n k s 10 j = if s 0 2 * 3 + k ≤ j ∧ j < s 0 2 * 3 + k + n then s 3 (o + (j - s 0 2 * 3)) else s 10 j
  | 0, k, s => ⟨fun _ _ => rfl, fun j => by rw [if_neg (by omega)]; rfl⟩
  | n + 1, k, s => by
    obtain ⟨a, b⟩ := addML_eq (σ := σ) (o := o) n (k + 1) (sU s 10 (s 0 2 * 3 + k) (s 3 (o + k)))
    refine ⟨fun r hr => ?_, fun j => ?_⟩
    · show addML σ o n (k + 1) (sU s 10 (s 0 2 * 3 + k) (s 3 (o + k))) r = s r
      rw [a r hr, sU_ne _ _ _ hr]
    · show addML σ o n (k + 1) (sU s 10 (s 0 2 * 3 + k) (s 3 (o + k))) 10 j = _
      rw [b j, sU_ne _ _ _ (by decide : (0 : Nat) ≠ 10), sU_ne _ _ _ (by decide : (3 : Nat) ≠ 10), sU_at]
      by_cases h1 : s 0 2 * 3 + (k + 1) ≤ j ∧ j < s 0 2 * 3 + (k + 1) + n
      · rw [if_pos h1, if_pos (by omega)]
      · rw [if_neg h1]
        by_cases h2 : j = s 0 2 * 3 + k
        · rw [if_pos h2, if_pos (by omega), h2, Nat.add_sub_cancel_left]
        · rw [if_neg h2, if_neg (by omega)]
theorem addMF_rows {σ : Nat → Nat → Nat} {o z : Nat} : (∀ r, r ≠ 10 → r ≠ 11 → r ≠ 0 → addMF σ o z r = σ r) ∧ (∀ j, j ≠ 2 → addMF σ o z 0 j = σ 0 j) ∧ addMF σ o z 0 2 = σ 0 2 + 1 ∧ (∀ j, addMF σ o z 11 j = if j = σ 0 2 then z else σ 11 j) ∧ (∀ j, addMF σ o z 10 j = if σ 0 2 * 3 ≤ j ∧ j < σ 0 2 * 3 + z then σ 3 (o + (j - σ 0 2 * 3)) else σ 10 j) := by
  obtain ⟨a, b⟩ := addML_eq (σ := σ) (o := o) z 0 σ
  have h4 : addML σ o z 0 σ 0 2 = σ 0 2 := by rw [a 0 (by decide)]
  unfold addMF
  rw [h4]
  refine ⟨fun r h1 h2 h3 => ?_, fun j hj => ?_, ?_, fun j => ?_, fun j => ?_⟩
  · rw [sU_ne _ _ _ h3, sU_ne _ _ _ h2, a r h1]
  · rw [sU_at, if_neg hj, sU_ne _ _ _ (by decide), a 0 (by decide)]
  · rw [sU_at, if_pos rfl]
  · rw [sU_ne _ _ _ (by decide), sU_at, a 11 (by decide)]
  · rw [sU_ne _ _ _ (by decide), sU_ne _ _ _ (by decide), b j]
    rfl
end
section
/-! CONSTRUCTORS -/
theorem z_nm : (fun j => nI ((fun _ => 0) j) : Nat → Int32) = fun j => mI ((fun _ => 1) j) := by
  funext j; exact (mI_succ 0).symm
section BWC
variable {p : Program} {l : Launch} {e : Env} {R : Room} {s : State} {m : MethodId} {args : Array Value} {below : List Frame} {meth : Method} {c : Code} {H : Heap} {locs : List Loc} {cells slots : Nat} {Q : State → Prop} {cc : ByteArray} {pc : Nat} {ls : Array Slot} {rest : List Value}
/-- a new row of ints, its class being the one that is known already -/
theorem n_newa {D : va_G} {cl : List vw_C} {ws : va_W} {tys : List (ClassId × FieldType)} {A : Nat → Prop} {H0 : Heap} {cI : ClassId} (hx : p.tables.exec = Jvm.exec) (hb : c.code = cc) (harr : (Cond.arrayClass .int).before args s = true) (hK : va_K D cl tys s) (t0 : Nat) (ht : tys[t0]? = some (cI, .int)) (hP : va_P D cl ws H) (hD : va_D A ws) (hS : va_S A H0 H locs) (hA : ∀ q, H0.size ≤ q → A q) {N : Nat} (hN : N < 2 ^ 31) (hbytes : N * componentBytes .int ≤ 536870912) (hcells : cells + 1 ≤ R.cells) (hslots : slots + N ≤ R.slots) (hdg : decode cc pc = .ok (.newarray .int, 2))
    (k : ∀ (q : Nat) (H1 : Heap), va_P D cl (ws ++ [(q, .inl (cI, N, .inl (fun j => nI ((fun _ => 0) j))))]) H1 → va_D A (ws ++ [(q, .inl (cI, N, .inl (fun j => nI ((fun _ => 0) j))))]) → va_S A H0 H1 locs → W p l e R s m args below meth c H1 locs (cells + 1) (slots + N) Q (F0 m (pc + 2) ls (.ref q :: rest))) : W p l e R s m args below meth c H locs cells slots Q (F0 m pc ls (.int (nI N) :: rest)) := by
  refine va_newa hx hb (atype := .int) (ty := .int) harr rfl hK hP hD hS hA (a0 := (N, .inl (fun _ => nI 0))) (fun cA => rfl) (nI_pos hN) (nI_clamp hN) hbytes hcells hslots hdg (fun q cA H1 hK1 hP1 hD1 hS1 => ?_)
  have h1 := (hK1.2 tys.length (cA, .int) (by simp)).2
  have h2 := (hK.2 t0 _ ht).2
  have e : cA = cI := Option.some.inj (h1.symm.trans h2)
  subst e
  exact k q H1 hP1 hD1 hS1
end BWC
theorem mm_X0_init_oi : Cond.methodLink RX0 3 objectInit ∈ wsX0_init := by decide +kernel
theorem mm_X0_init_om : Cond.instanceMethod objectInit ∈ wsX0_init := by decide +kernel
theorem mm_X0_init_arr : Cond.arrayClass .int ∈ wsX0_init := by decide +kernel
theorem mm_X0_init_f9 : Cond.fieldLink RX0 9 "ArrayClaims$ClaimList" "literals" "[I" ∈ wsX0_init := by decide +kernel
theorem in_X0_init_X0 : ∀ w ∈ wsX00, w ∈ wsX0_init := by decide +kernel
theorem mm_X0_init_f15 : Cond.fieldLink RX0 15 "ArrayClaims$ClaimList" "sizes" "[I" ∈ wsX0_init := by decide +kernel
theorem mm_X0_init_f18 : Cond.fieldLink RX0 18 "ArrayClaims$ClaimList" "count" "I" ∈ wsX0_init := by decide +kernel
def rX0_init_made : Room := { frames := 1, cells := 2, slots := 32, locals := 12 }
set_option maxHeartbeats 4000000 in
set_option maxRecDepth 100000 in
theorem c_X0_init_made (l : Launch) (D : va_G) (cI : ClassId) (h0 sz : Nat)  : Met l yX0_init wsX0_init rX0_init_made (va_Pc [.ref h0, .int (nI 8)] (fun U => U.heap.size = sz ∧ va_P D vwCl [(h0, .inr (0, [.null, .null, .int (nI 0)]))] U.heap ∧ va_K D vwCl [(cI, .int)] U ∧ va_D (fun _ => True) [(h0, .inr (0, [.null, .null, .int (nI 0)]))])) (va_Qv (fun u : Nat × Nat => True) (fun u t => va_P D vwCl [(h0, .inr (0, [.ref u.1, .ref u.2, .int (nI 0)])), (u.1, .inl (cI, 24, .inl (fun j => nI ((fun _ => 0) j)))), (u.2, .inl (cI, 8, .inl (fun j => nI ((fun _ => 0) j))))] t.heap ∧ va_D (va_A [(h0, .inr (0, [.null, .null, .int (nI 0)]))] sz) [(h0, .inr (0, [.ref u.1, .ref u.2, .int (nI 0)])), (u.1, .inl (cI, 24, .inl (fun j => nI ((fun _ => 0) j)))), (u.2, .inl (cI, 8, .inl (fun j => nI ((fun _ => 0) j))))]) (va_A [(h0, .inr (0, [.null, .null, .int (nI 0)]))] sz)) 2 32 (va_A [(h0, .inr (0, [.null, .null, .int (nI 0)]))] sz) := by
  refine Met.ofW (cc := cX0_init) (maxL := 2) (ret := none) (by decide) rfl ?_
  intro p e s m args below meth c s₁ B hml hv
  obtain ⟨rfl, hsz, hP, hK, hD0⟩ := hv
  have hx := B.exec
  have hb := B.bytes
  have hr := B.returns
  have hts := atoms_spec (ws := wsX0_init) B.pre
  have hown : s.vm.findClass RX0 = some m.cls := findClass_of_methodNamed B.named
  have hlocks := B.notSynchronized
  have hin : meth.name = "<init>" := (name_of_methodNamed B.named B.method).1
  subst hsz
  have hD := hD0.self (sz := s.heap.size)
  generalize hAe : va_A [(h0, .inr (0, [.null, .null, .int (nI 0)]))] s.heap.size = A at hD ⊢
  have hA : ∀ q : Nat, s.heap.size ≤ q → A q := fun q h => by rw [← hAe]; exact Or.inr h
  have hS : va_S A s.heap s.heap [] := va_S.rf
  have hl := lv_entry ([.ref h0, .int (nI 8)]) (n := 2) (Nat.le_of_ble_eq_true rfl)
  rw [lg_entry_eq]
  generalize (lg_sl ([.ref h0, .int (nI 8)]) ++ List.replicate (2 - (lg_sl ([.ref h0, .int (nI 8)])).length) Slot.unset).toArray = ls at hl ⊢
  have hl : lv_has ls 2 [(0, .ref h0), (1, .int (nI 8))] := hl
  refine lv_aload_n hx hb dX0_init_0 rfl (lv_at hl 0 rfl) ?_
  refine W.objInit hx hb hown (hts _ mm_X0_init_oi) (hts _ mm_X0_init_om) (hts _ (List.mem_of_getElem? (i := 3) rfl)) rfl (by rw [hml]; exact hl.1) rfl dX0_init_1 (Nat.le_of_ble_eq_true rfl) (Nat.le_of_ble_eq_true rfl) ?_
  refine W.eq (g2 := F0 m 4 ls []) rfl ?_
  refine lv_aload_n hx hb dX0_init_4 rfl (lv_at hl 0 rfl) ?_
  refine lv_iload_n hx hb dX0_init_5 rfl (lv_at hl 1 rfl) ?_
  refine lv_iconst (v := nI 3) hx hb dX0_init_6 (by decide) ?_
  refine n_mul hx hb dX0_init_7 ?_
  refine n_newa hx hb (hts _ mm_X0_init_arr) hK 0 rfl hP hD hS hA (N := 24) (by decide) (by decide) (by decide) (by decide) dX0_init_8 (fun q1 H hP hD hS => ?_)
  have hP : va_P D vwCl [(h0, .inr (0, [.null, .null, .int (nI 0)])), (q1, .inl (cI, 24, .inl (fun j => nI ((fun _ => 0) j))))] H := hP
  have hD : va_D A [(h0, .inr (0, [.null, .null, .int (nI 0)])), (q1, .inl (cI, 24, .inl (fun j => nI ((fun _ => 0) j))))] := hD
  refine va_putF (D := D) (ci := 0) (v := .ref q1) (ty := .array .int) (C := RX0) (T := TX0) (N := 3) hx hb hts in_X0_init_X0 tyX0 tyX0_ok nmX0 hown hK hP hD hS 0 rfl rfl 0 (by decide) (hts _ mm_X0_init_f9) (fun _ h9 => h9) rfl hin rfl (by decide +kernel) rfl rfl (Nat.le_of_ble_eq_true rfl) dX0_init_10 (fun H locs hP hD hS => ?_)
  have hP : va_P D vwCl [(h0, .inr (0, [.ref q1, .null, .int (nI 0)])), (q1, .inl (cI, 24, .inl (fun j => nI ((fun _ => 0) j))))] H := hP
  have hD : va_D A [(h0, .inr (0, [.ref q1, .null, .int (nI 0)])), (q1, .inl (cI, 24, .inl (fun j => nI ((fun _ => 0) j))))] := hD
  refine lv_aload_n hx hb dX0_init_13 rfl (lv_at hl 0 rfl) ?_
  refine lv_iload_n hx hb dX0_init_14 rfl (lv_at hl 1 rfl) ?_
  refine n_newa hx hb (hts _ mm_X0_init_arr) hK 0 rfl hP hD hS hA (N := 8) (by decide) (by decide) (by decide) (by decide) dX0_init_15 (fun q2 H hP hD hS => ?_)
  have hP : va_P D vwCl [(h0, .inr (0, [.ref q1, .null, .int (nI 0)])), (q1, .inl (cI, 24, .inl (fun j => nI ((fun _ => 0) j)))), (q2, .inl (cI, 8, .inl (fun j => nI ((fun _ => 0) j))))] H := hP
  have hD : va_D A [(h0, .inr (0, [.ref q1, .null, .int (nI 0)])), (q1, .inl (cI, 24, .inl (fun j => nI ((fun _ => 0) j)))), (q2, .inl (cI, 8, .inl (fun j => nI ((fun _ => 0) j))))] := hD
  refine va_putF (D := D) (ci := 0) (v := .ref q2) (ty := .array .int) (C := RX0) (T := TX0) (N := 3) hx hb hts in_X0_init_X0 tyX0 tyX0_ok nmX0 hown hK hP hD hS 0 rfl rfl 1 (by decide) (hts _ mm_X0_init_f15) (fun _ h9 => h9) rfl hin rfl (by decide +kernel) rfl rfl (Nat.le_of_ble_eq_true rfl) dX0_init_17 (fun H locs hP hD hS => ?_)
  have hP : va_P D vwCl [(h0, .inr (0, [.ref q1, .ref q2, .int (nI 0)])), (q1, .inl (cI, 24, .inl (fun j => nI ((fun _ => 0) j)))), (q2, .inl (cI, 8, .inl (fun j => nI ((fun _ => 0) j))))] H := hP
  have hD : va_D A [(h0, .inr (0, [.ref q1, .ref q2, .int (nI 0)])), (q1, .inl (cI, 24, .inl (fun j => nI ((fun _ => 0) j)))), (q2, .inl (cI, 8, .inl (fun j => nI ((fun _ => 0) j))))] := hD
  refine lv_aload_n hx hb dX0_init_20 rfl (lv_at hl 0 rfl) ?_
  refine lv_iconst (v := nI 0) hx hb dX0_init_21 (by decide) ?_
  refine va_put (D := D) (ci := 0) (v := .int (nI 0)) (ty := .int) (C := RX0) (T := TX0) (N := 3) hx hb hts in_X0_init_X0 tyX0 tyX0_ok nmX0 hown hK hP hD hS 0 rfl rfl 2 (by decide) (hts _ mm_X0_init_f18) (fun _ h9 => h9) rfl (by decide +kernel) rfl rfl (Nat.le_of_ble_eq_true rfl) dX0_init_22 (fun H locs hP hD hS => ?_)
  have hP : va_P D vwCl [(h0, .inr (0, [.ref q1, .ref q2, .int (nI 0)])), (q1, .inl (cI, 24, .inl (fun j => nI ((fun _ => 0) j)))), (q2, .inl (cI, 8, .inl (fun j => nI ((fun _ => 0) j))))] H := hP
  have hD : va_D A [(h0, .inr (0, [.ref q1, .ref q2, .int (nI 0)])), (q1, .inl (cI, 24, .inl (fun j => nI ((fun _ => 0) j)))), (q2, .inl (cI, 8, .inl (fun j => nI ((fun _ => 0) j))))] := hD
  exact W.vret hx hb hr (fun t ht hW => ⟨⟨(q1, q2), rfl, trivial, by rw [ht]; exact hP, hD⟩, hS.F ht⟩) hS.2.2 dX0_init_25
def rX0_init_asked : Room := { frames := 1, cells := 2, slots := 44, locals := 12 }
set_option maxHeartbeats 4000000 in
set_option maxRecDepth 100000 in
theorem c_X0_init_asked (l : Launch) (D : va_G) (cI : ClassId) (h0 sz : Nat)  : Met l yX0_init wsX0_init rX0_init_asked (va_Pc [.ref h0, .int (nI 11)] (fun U => U.heap.size = sz ∧ va_P D vwCl [(h0, .inr (0, [.null, .null, .int (nI 0)]))] U.heap ∧ va_K D vwCl [(cI, .int)] U ∧ va_D (fun _ => True) [(h0, .inr (0, [.null, .null, .int (nI 0)]))])) (va_Qv (fun u : Nat × Nat => True) (fun u t => va_P D vwCl [(h0, .inr (0, [.ref u.1, .ref u.2, .int (nI 0)])), (u.1, .inl (cI, 33, .inl (fun j => nI ((fun _ => 0) j)))), (u.2, .inl (cI, 11, .inl (fun j => nI ((fun _ => 0) j))))] t.heap ∧ va_D (va_A [(h0, .inr (0, [.null, .null, .int (nI 0)]))] sz) [(h0, .inr (0, [.ref u.1, .ref u.2, .int (nI 0)])), (u.1, .inl (cI, 33, .inl (fun j => nI ((fun _ => 0) j)))), (u.2, .inl (cI, 11, .inl (fun j => nI ((fun _ => 0) j))))]) (va_A [(h0, .inr (0, [.null, .null, .int (nI 0)]))] sz)) 2 44 (va_A [(h0, .inr (0, [.null, .null, .int (nI 0)]))] sz) := by
  refine Met.ofW (cc := cX0_init) (maxL := 2) (ret := none) (by decide) rfl ?_
  intro p e s m args below meth c s₁ B hml hv
  obtain ⟨rfl, hsz, hP, hK, hD0⟩ := hv
  have hx := B.exec
  have hb := B.bytes
  have hr := B.returns
  have hts := atoms_spec (ws := wsX0_init) B.pre
  have hown : s.vm.findClass RX0 = some m.cls := findClass_of_methodNamed B.named
  have hlocks := B.notSynchronized
  have hin : meth.name = "<init>" := (name_of_methodNamed B.named B.method).1
  subst hsz
  have hD := hD0.self (sz := s.heap.size)
  generalize hAe : va_A [(h0, .inr (0, [.null, .null, .int (nI 0)]))] s.heap.size = A at hD ⊢
  have hA : ∀ q : Nat, s.heap.size ≤ q → A q := fun q h => by rw [← hAe]; exact Or.inr h
  have hS : va_S A s.heap s.heap [] := va_S.rf
  have hl := lv_entry ([.ref h0, .int (nI 11)]) (n := 2) (Nat.le_of_ble_eq_true rfl)
  rw [lg_entry_eq]
  generalize (lg_sl ([.ref h0, .int (nI 11)]) ++ List.replicate (2 - (lg_sl ([.ref h0, .int (nI 11)])).length) Slot.unset).toArray = ls at hl ⊢
  have hl : lv_has ls 2 [(0, .ref h0), (1, .int (nI 11))] := hl
  refine lv_aload_n hx hb dX0_init_0 rfl (lv_at hl 0 rfl) ?_
  refine W.objInit hx hb hown (hts _ mm_X0_init_oi) (hts _ mm_X0_init_om) (hts _ (List.mem_of_getElem? (i := 3) rfl)) rfl (by rw [hml]; exact hl.1) rfl dX0_init_1 (Nat.le_of_ble_eq_true rfl) (Nat.le_of_ble_eq_true rfl) ?_
  refine W.eq (g2 := F0 m 4 ls []) rfl ?_
  refine lv_aload_n hx hb dX0_init_4 rfl (lv_at hl 0 rfl) ?_
  refine lv_iload_n hx hb dX0_init_5 rfl (lv_at hl 1 rfl) ?_
  refine lv_iconst (v := nI 3) hx hb dX0_init_6 (by decide) ?_
  refine n_mul hx hb dX0_init_7 ?_
  refine n_newa hx hb (hts _ mm_X0_init_arr) hK 0 rfl hP hD hS hA (N := 33) (by decide) (by decide) (by decide) (by decide) dX0_init_8 (fun q1 H hP hD hS => ?_)
  have hP : va_P D vwCl [(h0, .inr (0, [.null, .null, .int (nI 0)])), (q1, .inl (cI, 33, .inl (fun j => nI ((fun _ => 0) j))))] H := hP
  have hD : va_D A [(h0, .inr (0, [.null, .null, .int (nI 0)])), (q1, .inl (cI, 33, .inl (fun j => nI ((fun _ => 0) j))))] := hD
  refine va_putF (D := D) (ci := 0) (v := .ref q1) (ty := .array .int) (C := RX0) (T := TX0) (N := 3) hx hb hts in_X0_init_X0 tyX0 tyX0_ok nmX0 hown hK hP hD hS 0 rfl rfl 0 (by decide) (hts _ mm_X0_init_f9) (fun _ h9 => h9) rfl hin rfl (by decide +kernel) rfl rfl (Nat.le_of_ble_eq_true rfl) dX0_init_10 (fun H locs hP hD hS => ?_)
  have hP : va_P D vwCl [(h0, .inr (0, [.ref q1, .null, .int (nI 0)])), (q1, .inl (cI, 33, .inl (fun j => nI ((fun _ => 0) j))))] H := hP
  have hD : va_D A [(h0, .inr (0, [.ref q1, .null, .int (nI 0)])), (q1, .inl (cI, 33, .inl (fun j => nI ((fun _ => 0) j))))] := hD
  refine lv_aload_n hx hb dX0_init_13 rfl (lv_at hl 0 rfl) ?_
  refine lv_iload_n hx hb dX0_init_14 rfl (lv_at hl 1 rfl) ?_
  refine n_newa hx hb (hts _ mm_X0_init_arr) hK 0 rfl hP hD hS hA (N := 11) (by decide) (by decide) (by decide) (by decide) dX0_init_15 (fun q2 H hP hD hS => ?_)
  have hP : va_P D vwCl [(h0, .inr (0, [.ref q1, .null, .int (nI 0)])), (q1, .inl (cI, 33, .inl (fun j => nI ((fun _ => 0) j)))), (q2, .inl (cI, 11, .inl (fun j => nI ((fun _ => 0) j))))] H := hP
  have hD : va_D A [(h0, .inr (0, [.ref q1, .null, .int (nI 0)])), (q1, .inl (cI, 33, .inl (fun j => nI ((fun _ => 0) j)))), (q2, .inl (cI, 11, .inl (fun j => nI ((fun _ => 0) j))))] := hD
  refine va_putF (D := D) (ci := 0) (v := .ref q2) (ty := .array .int) (C := RX0) (T := TX0) (N := 3) hx hb hts in_X0_init_X0 tyX0 tyX0_ok nmX0 hown hK hP hD hS 0 rfl rfl 1 (by decide) (hts _ mm_X0_init_f15) (fun _ h9 => h9) rfl hin rfl (by decide +kernel) rfl rfl (Nat.le_of_ble_eq_true rfl) dX0_init_17 (fun H locs hP hD hS => ?_)
  have hP : va_P D vwCl [(h0, .inr (0, [.ref q1, .ref q2, .int (nI 0)])), (q1, .inl (cI, 33, .inl (fun j => nI ((fun _ => 0) j)))), (q2, .inl (cI, 11, .inl (fun j => nI ((fun _ => 0) j))))] H := hP
  have hD : va_D A [(h0, .inr (0, [.ref q1, .ref q2, .int (nI 0)])), (q1, .inl (cI, 33, .inl (fun j => nI ((fun _ => 0) j)))), (q2, .inl (cI, 11, .inl (fun j => nI ((fun _ => 0) j))))] := hD
  refine lv_aload_n hx hb dX0_init_20 rfl (lv_at hl 0 rfl) ?_
  refine lv_iconst (v := nI 0) hx hb dX0_init_21 (by decide) ?_
  refine va_put (D := D) (ci := 0) (v := .int (nI 0)) (ty := .int) (C := RX0) (T := TX0) (N := 3) hx hb hts in_X0_init_X0 tyX0 tyX0_ok nmX0 hown hK hP hD hS 0 rfl rfl 2 (by decide) (hts _ mm_X0_init_f18) (fun _ h9 => h9) rfl (by decide +kernel) rfl rfl (Nat.le_of_ble_eq_true rfl) dX0_init_22 (fun H locs hP hD hS => ?_)
  have hP : va_P D vwCl [(h0, .inr (0, [.ref q1, .ref q2, .int (nI 0)])), (q1, .inl (cI, 33, .inl (fun j => nI ((fun _ => 0) j)))), (q2, .inl (cI, 11, .inl (fun j => nI ((fun _ => 0) j))))] H := hP
  have hD : va_D A [(h0, .inr (0, [.ref q1, .ref q2, .int (nI 0)])), (q1, .inl (cI, 33, .inl (fun j => nI ((fun _ => 0) j)))), (q2, .inl (cI, 11, .inl (fun j => nI ((fun _ => 0) j))))] := hD
  exact W.vret hx hb hr (fun t ht hW => ⟨⟨(q1, q2), rfl, trivial, by rw [ht]; exact hP, hD⟩, hS.F ht⟩) hS.2.2 dX0_init_25
theorem mm_X2_init_oi : Cond.methodLink RX2 5 objectInit ∈ wsX2_init := by decide +kernel
theorem mm_X2_init_om : Cond.instanceMethod objectInit ∈ wsX2_init := by decide +kernel
theorem mm_X2_init_arr : Cond.arrayClass .int ∈ wsX2_init := by decide +kernel
theorem mm_X2_init_f11 : Cond.fieldLink RX2 11 "ArrayClaims$ReadingSearch" "parts" "[I" ∈ wsX2_init := by decide +kernel
theorem in_X2_init_X2 : ∀ w ∈ wsX20, w ∈ wsX2_init := by decide +kernel
theorem mm_X2_init_f15 : Cond.fieldLink RX2 15 "ArrayClaims$ReadingSearch" "chosen" "[I" ∈ wsX2_init := by decide +kernel
def rX2_init : Room := { frames := 1, cells := 2, slots := 106, locals := 12 }
set_option maxHeartbeats 4000000 in
set_option maxRecDepth 100000 in
theorem c_X2_init (l : Launch) (D : va_G) (cI : ClassId) (h0 sz : Nat)  : Met l yX2_init wsX2_init rX2_init (va_Pc [.ref h0] (fun U => U.heap.size = sz ∧ va_P D vwCl [(h0, .inr (1, [.null, .null]))] U.heap ∧ va_K D vwCl [(cI, .int)] U ∧ va_D (fun _ => True) [(h0, .inr (1, [.null, .null]))])) (va_Qv (fun u : Nat × Nat => True) (fun u t => va_P D vwCl [(h0, .inr (1, [.ref u.1, .ref u.2])), (u.1, .inl (cI, 96, .inl (fun j => nI ((fun _ => 0) j)))), (u.2, .inl (cI, 10, .inl (fun j => nI ((fun _ => 0) j))))] t.heap ∧ va_D (va_A [(h0, .inr (1, [.null, .null]))] sz) [(h0, .inr (1, [.ref u.1, .ref u.2])), (u.1, .inl (cI, 96, .inl (fun j => nI ((fun _ => 0) j)))), (u.2, .inl (cI, 10, .inl (fun j => nI ((fun _ => 0) j))))]) (va_A [(h0, .inr (1, [.null, .null]))] sz)) 2 106 (va_A [(h0, .inr (1, [.null, .null]))] sz) := by
  refine Met.ofW (cc := cX2_init) (maxL := 1) (ret := none) (by decide) rfl ?_
  intro p e s m args below meth c s₁ B hml hv
  obtain ⟨rfl, hsz, hP, hK, hD0⟩ := hv
  have hx := B.exec
  have hb := B.bytes
  have hr := B.returns
  have hts := atoms_spec (ws := wsX2_init) B.pre
  have hown : s.vm.findClass RX2 = some m.cls := findClass_of_methodNamed B.named
  have hlocks := B.notSynchronized
  have hin : meth.name = "<init>" := (name_of_methodNamed B.named B.method).1
  subst hsz
  have hD := hD0.self (sz := s.heap.size)
  generalize hAe : va_A [(h0, .inr (1, [.null, .null]))] s.heap.size = A at hD ⊢
  have hA : ∀ q : Nat, s.heap.size ≤ q → A q := fun q h => by rw [← hAe]; exact Or.inr h
  have hS : va_S A s.heap s.heap [] := va_S.rf
  have hl := lv_entry ([.ref h0]) (n := 1) (Nat.le_of_ble_eq_true rfl)
  rw [lg_entry_eq]
  generalize (lg_sl ([.ref h0]) ++ List.replicate (1 - (lg_sl ([.ref h0])).length) Slot.unset).toArray = ls at hl ⊢
  have hl : lv_has ls 1 [(0, .ref h0)] := hl
  refine lv_aload_n hx hb dX2_init_0 rfl (lv_at hl 0 rfl) ?_
  refine W.objInit hx hb hown (hts _ mm_X2_init_oi) (hts _ mm_X2_init_om) (hts _ (List.mem_of_getElem? (i := 3) rfl)) rfl (by rw [hml]; exact hl.1) rfl dX2_init_1 (Nat.le_of_ble_eq_true rfl) (Nat.le_of_ble_eq_true rfl) ?_
  refine W.eq (g2 := F0 m 4 ls []) rfl ?_
  refine lv_aload_n hx hb dX2_init_4 rfl (lv_at hl 0 rfl) ?_
  refine lv_bipush (v := nI 96) hx hb dX2_init_5 (by decide) ?_
  refine n_newa hx hb (hts _ mm_X2_init_arr) hK 0 rfl hP hD hS hA (N := 96) (by decide) (by decide) (by decide) (by decide) dX2_init_7 (fun q1 H hP hD hS => ?_)
  have hP : va_P D vwCl [(h0, .inr (1, [.null, .null])), (q1, .inl (cI, 96, .inl (fun j => nI ((fun _ => 0) j))))] H := hP
  have hD : va_D A [(h0, .inr (1, [.null, .null])), (q1, .inl (cI, 96, .inl (fun j => nI ((fun _ => 0) j))))] := hD
  refine va_putF (D := D) (ci := 1) (v := .ref q1) (ty := .array .int) (C := RX2) (T := TX2) (N := 2) hx hb hts in_X2_init_X2 tyX2 tyX2_ok nmX2 hown hK hP hD hS 0 rfl rfl 0 (by decide) (hts _ mm_X2_init_f11) (fun _ h9 => h9) rfl hin rfl (by decide +kernel) rfl rfl (Nat.le_of_ble_eq_true rfl) dX2_init_9 (fun H locs hP hD hS => ?_)
  have hP : va_P D vwCl [(h0, .inr (1, [.ref q1, .null])), (q1, .inl (cI, 96, .inl (fun j => nI ((fun _ => 0) j))))] H := hP
  have hD : va_D A [(h0, .inr (1, [.ref q1, .null])), (q1, .inl (cI, 96, .inl (fun j => nI ((fun _ => 0) j))))] := hD
  refine lv_aload_n hx hb dX2_init_12 rfl (lv_at hl 0 rfl) ?_
  refine lv_bipush (v := nI 10) hx hb dX2_init_13 (by decide) ?_
  refine n_newa hx hb (hts _ mm_X2_init_arr) hK 0 rfl hP hD hS hA (N := 10) (by decide) (by decide) (by decide) (by decide) dX2_init_15 (fun q2 H hP hD hS => ?_)
  have hP : va_P D vwCl [(h0, .inr (1, [.ref q1, .null])), (q1, .inl (cI, 96, .inl (fun j => nI ((fun _ => 0) j)))), (q2, .inl (cI, 10, .inl (fun j => nI ((fun _ => 0) j))))] H := hP
  have hD : va_D A [(h0, .inr (1, [.ref q1, .null])), (q1, .inl (cI, 96, .inl (fun j => nI ((fun _ => 0) j)))), (q2, .inl (cI, 10, .inl (fun j => nI ((fun _ => 0) j))))] := hD
  refine va_putF (D := D) (ci := 1) (v := .ref q2) (ty := .array .int) (C := RX2) (T := TX2) (N := 2) hx hb hts in_X2_init_X2 tyX2 tyX2_ok nmX2 hown hK hP hD hS 0 rfl rfl 1 (by decide) (hts _ mm_X2_init_f15) (fun _ h9 => h9) rfl hin rfl (by decide +kernel) rfl rfl (Nat.le_of_ble_eq_true rfl) dX2_init_17 (fun H locs hP hD hS => ?_)
  have hP : va_P D vwCl [(h0, .inr (1, [.ref q1, .ref q2])), (q1, .inl (cI, 96, .inl (fun j => nI ((fun _ => 0) j)))), (q2, .inl (cI, 10, .inl (fun j => nI ((fun _ => 0) j))))] H := hP
  have hD : va_D A [(h0, .inr (1, [.ref q1, .ref q2])), (q1, .inl (cI, 96, .inl (fun j => nI ((fun _ => 0) j)))), (q2, .inl (cI, 10, .inl (fun j => nI ((fun _ => 0) j))))] := hD
  exact W.vret hx hb hr (fun t ht hW => ⟨⟨(q1, q2), rfl, trivial, by rw [ht]; exact hP, hD⟩, hS.F ht⟩) hS.2.2 dX2_init_20
theorem mm_X3_init_oi : Cond.methodLink RX3 3 objectInit ∈ wsX3_init := by decide +kernel
theorem mm_X3_init_om : Cond.instanceMethod objectInit ∈ wsX3_init := by decide +kernel
theorem mm_X3_init_arr : Cond.arrayClass .int ∈ wsX3_init := by decide +kernel
theorem mm_X3_init_f9 : Cond.fieldLink RX3 9 "ArrayClaims$TermTable" "sorts" "[I" ∈ wsX3_init := by decide +kernel
theorem in_X3_init_X3 : ∀ w ∈ wsX30, w ∈ wsX3_init := by decide +kernel
theorem mm_X3_init_f15 : Cond.fieldLink RX3 15 "ArrayClaims$TermTable" "arrays" "[I" ∈ wsX3_init := by decide +kernel
theorem mm_X3_init_f18 : Cond.fieldLink RX3 18 "ArrayClaims$TermTable" "indices" "[I" ∈ wsX3_init := by decide +kernel
theorem mm_X3_init_f21 : Cond.fieldLink RX3 21 "ArrayClaims$TermTable" "elements" "[I" ∈ wsX3_init := by decide +kernel
theorem mm_X3_init_f24 : Cond.fieldLink RX3 24 "ArrayClaims$TermTable" "count" "I" ∈ wsX3_init := by decide +kernel
def rX3_init : Room := { frames := 1, cells := 4, slots := 96, locals := 12 }
set_option maxHeartbeats 4000000 in
set_option maxRecDepth 100000 in
theorem c_X3_init (l : Launch) (D : va_G) (cI : ClassId) (h0 sz : Nat)  : Met l yX3_init wsX3_init rX3_init (va_Pc [.ref h0] (fun U => U.heap.size = sz ∧ va_P D vwCl [(h0, .inr (2, [.null, .null, .null, .null, .int (nI 0)]))] U.heap ∧ va_K D vwCl [(cI, .int)] U ∧ va_D (fun _ => True) [(h0, .inr (2, [.null, .null, .null, .null, .int (nI 0)]))])) (va_Qv (fun u : Nat × Nat × Nat × Nat => True) (fun u t => va_P D vwCl [(h0, .inr (2, [.ref u.1, .ref u.2.1, .ref u.2.2.1, .ref u.2.2.2, .int (nI 7)])), (u.1, .inl (cI, 24, .inl (fun j => nI ((va_up (va_up (va_up (va_up (va_up (va_up (va_up (fun _ => 0) 0 0) 1 0) 2 0) 3 1) 4 1) 5 2) 6 2) j)))), (u.2.1, .inl (cI, 24, .inl (fun j => mI ((va_up (va_up (va_up (va_up (va_up (va_up (va_up (fun _ => 1) 0 0) 1 0) 2 0) 3 0) 4 0) 5 0) 6 0) j)))), (u.2.2.1, .inl (cI, 24, .inl (fun j => mI ((va_up (va_up (va_up (va_up (va_up (va_up (va_up (fun _ => 1) 0 0) 1 0) 2 0) 3 0) 4 0) 5 0) 6 0) j)))), (u.2.2.2, .inl (cI, 24, .inl (fun j => mI ((va_up (va_up (va_up (va_up (va_up (va_up (va_up (fun _ => 1) 0 0) 1 0) 2 0) 3 0) 4 0) 5 0) 6 0) j))))] t.heap ∧ va_D (va_A [(h0, .inr (2, [.null, .null, .null, .null, .int (nI 0)]))] sz) [(h0, .inr (2, [.ref u.1, .ref u.2.1, .ref u.2.2.1, .ref u.2.2.2, .int (nI 7)])), (u.1, .inl (cI, 24, .inl (fun j => nI ((va_up (va_up (va_up (va_up (va_up (va_up (va_up (fun _ => 0) 0 0) 1 0) 2 0) 3 1) 4 1) 5 2) 6 2) j)))), (u.2.1, .inl (cI, 24, .inl (fun j => mI ((va_up (va_up (va_up (va_up (va_up (va_up (va_up (fun _ => 1) 0 0) 1 0) 2 0) 3 0) 4 0) 5 0) 6 0) j)))), (u.2.2.1, .inl (cI, 24, .inl (fun j => mI ((va_up (va_up (va_up (va_up (va_up (va_up (va_up (fun _ => 1) 0 0) 1 0) 2 0) 3 0) 4 0) 5 0) 6 0) j)))), (u.2.2.2, .inl (cI, 24, .inl (fun j => mI ((va_up (va_up (va_up (va_up (va_up (va_up (va_up (fun _ => 1) 0 0) 1 0) 2 0) 3 0) 4 0) 5 0) 6 0) j))))]) (va_A [(h0, .inr (2, [.null, .null, .null, .null, .int (nI 0)]))] sz)) 4 96 (va_A [(h0, .inr (2, [.null, .null, .null, .null, .int (nI 0)]))] sz) := by
  refine Met.ofW (cc := cX3_init) (maxL := 2) (ret := none) (by decide) rfl ?_
  intro p e s m args below meth c s₁ B hml hv
  obtain ⟨rfl, hsz, hP, hK, hD0⟩ := hv
  have hx := B.exec
  have hb := B.bytes
  have hr := B.returns
  have hts := atoms_spec (ws := wsX3_init) B.pre
  have hown : s.vm.findClass RX3 = some m.cls := findClass_of_methodNamed B.named
  have hlocks := B.notSynchronized
  have hin : meth.name = "<init>" := (name_of_methodNamed B.named B.method).1
  subst hsz
  have hD := hD0.self (sz := s.heap.size)
  generalize hAe : va_A [(h0, .inr (2, [.null, .null, .null, .null, .int (nI 0)]))] s.heap.size = A at hD ⊢
  have hA : ∀ q : Nat, s.heap.size ≤ q → A q := fun q h => by rw [← hAe]; exact Or.inr h
  have hS : va_S A s.heap s.heap [] := va_S.rf
  have hl := lv_entry ([.ref h0]) (n := 2) (Nat.le_of_ble_eq_true rfl)
  rw [lg_entry_eq]
  generalize (lg_sl ([.ref h0]) ++ List.replicate (2 - (lg_sl ([.ref h0])).length) Slot.unset).toArray = ls at hl ⊢
  have hl : lv_has ls 2 [(0, .ref h0)] := hl
  refine lv_aload_n hx hb dX3_init_0 rfl (lv_at hl 0 rfl) ?_
  refine W.objInit hx hb hown (hts _ mm_X3_init_oi) (hts _ mm_X3_init_om) (hts _ (List.mem_of_getElem? (i := 3) rfl)) rfl (by rw [hml]; exact hl.1) rfl dX3_init_1 (Nat.le_of_ble_eq_true rfl) (Nat.le_of_ble_eq_true rfl) ?_
  refine W.eq (g2 := F0 m 4 ls []) rfl ?_
  refine lv_aload_n hx hb dX3_init_4 rfl (lv_at hl 0 rfl) ?_
  refine lv_bipush (v := nI 24) hx hb dX3_init_5 (by decide) ?_
  refine n_newa hx hb (hts _ mm_X3_init_arr) hK 0 rfl hP hD hS hA (N := 24) (by decide) (by decide) (by decide) (by decide) dX3_init_7 (fun q1 H hP hD hS => ?_)
  have hP : va_P D vwCl [(h0, .inr (2, [.null, .null, .null, .null, .int (nI 0)])), (q1, .inl (cI, 24, .inl (fun j => nI ((fun _ => 0) j))))] H := hP
  have hD : va_D A [(h0, .inr (2, [.null, .null, .null, .null, .int (nI 0)])), (q1, .inl (cI, 24, .inl (fun j => nI ((fun _ => 0) j))))] := hD
  refine va_putF (D := D) (ci := 2) (v := .ref q1) (ty := .array .int) (C := RX3) (T := TX3) (N := 5) hx hb hts in_X3_init_X3 tyX3 tyX3_ok nmX3 hown hK hP hD hS 0 rfl rfl 0 (by decide) (hts _ mm_X3_init_f9) (fun _ h9 => h9) rfl hin rfl (by decide +kernel) rfl rfl (Nat.le_of_ble_eq_true rfl) dX3_init_9 (fun H locs hP hD hS => ?_)
  have hP : va_P D vwCl [(h0, .inr (2, [.ref q1, .null, .null, .null, .int (nI 0)])), (q1, .inl (cI, 24, .inl (fun j => nI ((fun _ => 0) j))))] H := hP
  have hD : va_D A [(h0, .inr (2, [.ref q1, .null, .null, .null, .int (nI 0)])), (q1, .inl (cI, 24, .inl (fun j => nI ((fun _ => 0) j))))] := hD
  refine lv_aload_n hx hb dX3_init_12 rfl (lv_at hl 0 rfl) ?_
  refine lv_bipush (v := nI 24) hx hb dX3_init_13 (by decide) ?_
  refine n_newa hx hb (hts _ mm_X3_init_arr) hK 0 rfl hP hD hS hA (N := 24) (by decide) (by decide) (by decide) (by decide) dX3_init_15 (fun q2 H hP hD hS => ?_)
  have hP : va_P D vwCl [(h0, .inr (2, [.ref q1, .null, .null, .null, .int (nI 0)])), (q1, .inl (cI, 24, .inl (fun j => nI ((fun _ => 0) j)))), (q2, .inl (cI, 24, .inl (fun j => nI ((fun _ => 0) j))))] H := hP
  have hD : va_D A [(h0, .inr (2, [.ref q1, .null, .null, .null, .int (nI 0)])), (q1, .inl (cI, 24, .inl (fun j => nI ((fun _ => 0) j)))), (q2, .inl (cI, 24, .inl (fun j => nI ((fun _ => 0) j))))] := hD
  refine va_putF (D := D) (ci := 2) (v := .ref q2) (ty := .array .int) (C := RX3) (T := TX3) (N := 5) hx hb hts in_X3_init_X3 tyX3 tyX3_ok nmX3 hown hK hP hD hS 0 rfl rfl 1 (by decide) (hts _ mm_X3_init_f15) (fun _ h9 => h9) rfl hin rfl (by decide +kernel) rfl rfl (Nat.le_of_ble_eq_true rfl) dX3_init_17 (fun H locs hP hD hS => ?_)
  have hP : va_P D vwCl [(h0, .inr (2, [.ref q1, .ref q2, .null, .null, .int (nI 0)])), (q1, .inl (cI, 24, .inl (fun j => nI ((fun _ => 0) j)))), (q2, .inl (cI, 24, .inl (fun j => nI ((fun _ => 0) j))))] H := hP
  have hD : va_D A [(h0, .inr (2, [.ref q1, .ref q2, .null, .null, .int (nI 0)])), (q1, .inl (cI, 24, .inl (fun j => nI ((fun _ => 0) j)))), (q2, .inl (cI, 24, .inl (fun j => nI ((fun _ => 0) j))))] := hD
  refine lv_aload_n hx hb dX3_init_20 rfl (lv_at hl 0 rfl) ?_
  refine lv_bipush (v := nI 24) hx hb dX3_init_21 (by decide) ?_
  refine n_newa hx hb (hts _ mm_X3_init_arr) hK 0 rfl hP hD hS hA (N := 24) (by decide) (by decide) (by decide) (by decide) dX3_init_23 (fun q3 H hP hD hS => ?_)
  have hP : va_P D vwCl [(h0, .inr (2, [.ref q1, .ref q2, .null, .null, .int (nI 0)])), (q1, .inl (cI, 24, .inl (fun j => nI ((fun _ => 0) j)))), (q2, .inl (cI, 24, .inl (fun j => nI ((fun _ => 0) j)))), (q3, .inl (cI, 24, .inl (fun j => nI ((fun _ => 0) j))))] H := hP
  have hD : va_D A [(h0, .inr (2, [.ref q1, .ref q2, .null, .null, .int (nI 0)])), (q1, .inl (cI, 24, .inl (fun j => nI ((fun _ => 0) j)))), (q2, .inl (cI, 24, .inl (fun j => nI ((fun _ => 0) j)))), (q3, .inl (cI, 24, .inl (fun j => nI ((fun _ => 0) j))))] := hD
  refine va_putF (D := D) (ci := 2) (v := .ref q3) (ty := .array .int) (C := RX3) (T := TX3) (N := 5) hx hb hts in_X3_init_X3 tyX3 tyX3_ok nmX3 hown hK hP hD hS 0 rfl rfl 2 (by decide) (hts _ mm_X3_init_f18) (fun _ h9 => h9) rfl hin rfl (by decide +kernel) rfl rfl (Nat.le_of_ble_eq_true rfl) dX3_init_25 (fun H locs hP hD hS => ?_)
  have hP : va_P D vwCl [(h0, .inr (2, [.ref q1, .ref q2, .ref q3, .null, .int (nI 0)])), (q1, .inl (cI, 24, .inl (fun j => nI ((fun _ => 0) j)))), (q2, .inl (cI, 24, .inl (fun j => nI ((fun _ => 0) j)))), (q3, .inl (cI, 24, .inl (fun j => nI ((fun _ => 0) j))))] H := hP
  have hD : va_D A [(h0, .inr (2, [.ref q1, .ref q2, .ref q3, .null, .int (nI 0)])), (q1, .inl (cI, 24, .inl (fun j => nI ((fun _ => 0) j)))), (q2, .inl (cI, 24, .inl (fun j => nI ((fun _ => 0) j)))), (q3, .inl (cI, 24, .inl (fun j => nI ((fun _ => 0) j))))] := hD
  refine lv_aload_n hx hb dX3_init_28 rfl (lv_at hl 0 rfl) ?_
  refine lv_bipush (v := nI 24) hx hb dX3_init_29 (by decide) ?_
  refine n_newa hx hb (hts _ mm_X3_init_arr) hK 0 rfl hP hD hS hA (N := 24) (by decide) (by decide) (by decide) (by decide) dX3_init_31 (fun q4 H hP hD hS => ?_)
  have hP : va_P D vwCl [(h0, .inr (2, [.ref q1, .ref q2, .ref q3, .null, .int (nI 0)])), (q1, .inl (cI, 24, .inl (fun j => nI ((fun _ => 0) j)))), (q2, .inl (cI, 24, .inl (fun j => nI ((fun _ => 0) j)))), (q3, .inl (cI, 24, .inl (fun j => nI ((fun _ => 0) j)))), (q4, .inl (cI, 24, .inl (fun j => nI ((fun _ => 0) j))))] H := hP
  have hD : va_D A [(h0, .inr (2, [.ref q1, .ref q2, .ref q3, .null, .int (nI 0)])), (q1, .inl (cI, 24, .inl (fun j => nI ((fun _ => 0) j)))), (q2, .inl (cI, 24, .inl (fun j => nI ((fun _ => 0) j)))), (q3, .inl (cI, 24, .inl (fun j => nI ((fun _ => 0) j)))), (q4, .inl (cI, 24, .inl (fun j => nI ((fun _ => 0) j))))] := hD
  refine va_putF (D := D) (ci := 2) (v := .ref q4) (ty := .array .int) (C := RX3) (T := TX3) (N := 5) hx hb hts in_X3_init_X3 tyX3 tyX3_ok nmX3 hown hK hP hD hS 0 rfl rfl 3 (by decide) (hts _ mm_X3_init_f21) (fun _ h9 => h9) rfl hin rfl (by decide +kernel) rfl rfl (Nat.le_of_ble_eq_true rfl) dX3_init_33 (fun H locs hP hD hS => ?_)
  have hP : va_P D vwCl [(h0, .inr (2, [.ref q1, .ref q2, .ref q3, .ref q4, .int (nI 0)])), (q1, .inl (cI, 24, .inl (fun j => nI ((fun _ => 0) j)))), (q2, .inl (cI, 24, .inl (fun j => nI ((fun _ => 0) j)))), (q3, .inl (cI, 24, .inl (fun j => nI ((fun _ => 0) j)))), (q4, .inl (cI, 24, .inl (fun j => nI ((fun _ => 0) j))))] H := hP
  have hD : va_D A [(h0, .inr (2, [.ref q1, .ref q2, .ref q3, .ref q4, .int (nI 0)])), (q1, .inl (cI, 24, .inl (fun j => nI ((fun _ => 0) j)))), (q2, .inl (cI, 24, .inl (fun j => nI ((fun _ => 0) j)))), (q3, .inl (cI, 24, .inl (fun j => nI ((fun _ => 0) j)))), (q4, .inl (cI, 24, .inl (fun j => nI ((fun _ => 0) j))))] := hD
  refine lv_iconst (v := nI 0) hx hb dX3_init_36 (by decide) ?_
  refine lv_istore_n (lv' := [(1, .int (nI 0)), (0, .ref h0)]) hx hb dX3_init_37 rfl hl (by decide) rfl (fun ls hl => ?_)
  refine lv_iload_n hx hb dX3_init_38 rfl (lv_at hl 0 rfl) ?_
  refine lv_bipush (v := nI 7) hx hb dX3_init_39 (by decide) ?_
  refine n_icmp_ge hx hb (tgt := 96) (by decide) (by decide) dX3_init_41 (by decide) (fun c9 => absurd c9 (by decide)) (fun c9 => ?_)
  refine lv_aload_n hx hb dX3_init_44 rfl (lv_at hl 1 rfl) ?_
  refine va_get (D := D) (ci := 2) (v := .ref q1) (C := RX3) (T := TX3) (N := 5) hx hb hts in_X3_init_X3 hown hK hP 0 rfl rfl 0 (by decide) (hts _ mm_X3_init_f9) (fun _ h9 => h9) rfl dX3_init_45 ?_
  refine lv_iload_n hx hb dX3_init_48 rfl (lv_at hl 0 rfl) ?_
  refine lv_iload_n hx hb dX3_init_49 rfl (lv_at hl 0 rfl) ?_
  refine lv_iconst (v := nI 3) hx hb dX3_init_50 (by decide) ?_
  refine n_icmp_ge hx hb (tgt := 58) (by decide) (by decide) dX3_init_51 (by decide) (fun c9 => absurd c9 (by decide)) (fun c9 => ?_)
  refine lv_iconst (v := nI 0) hx hb dX3_init_54 (by decide) ?_
  refine lv_goto (tgt := 68) hx hb dX3_init_55 (by decide) ?_
  refine n_ast (ws' := [(h0, .inr (2, [.ref q1, .ref q2, .ref q3, .ref q4, .int (nI 0)])), (q1, .inl (cI, 24, .inl (fun j => nI ((va_up (fun _ => 0) 0 0) j)))), (q2, .inl (cI, 24, .inl (fun j => nI ((fun _ => 0) j)))), (q3, .inl (cI, 24, .inl (fun j => nI ((fun _ => 0) j)))), (q4, .inl (cI, 24, .inl (fun j => nI ((fun _ => 0) j))))]) hx hb hK hP hD hS 1 0 rfl rfl (i := 0) (by decide) (by decide) (by rw [nI_upd]; rfl) dX3_init_68 (fun H locs hP hD hS => ?_)
  refine lv_aload_n hx hb dX3_init_69 rfl (lv_at hl 1 rfl) ?_
  refine va_get (D := D) (ci := 2) (v := .ref q2) (C := RX3) (T := TX3) (N := 5) hx hb hts in_X3_init_X3 hown hK hP 0 rfl rfl 1 (by decide) (hts _ mm_X3_init_f15) (fun _ h9 => h9) rfl dX3_init_70 ?_
  refine lv_iload_n hx hb dX3_init_73 rfl (lv_at hl 0 rfl) ?_
  refine lv_iconst (v := mI 0) hx hb dX3_init_74 (by decide) ?_
  have hP : va_P D vwCl [(h0, .inr (2, [.ref q1, .ref q2, .ref q3, .ref q4, .int (nI 0)])), (q1, .inl (cI, 24, .inl (fun j => nI ((va_up (fun _ => 0) 0 0) j)))), (q2, .inl (cI, 24, .inl (fun j => mI ((fun _ => 1) j)))), (q3, .inl (cI, 24, .inl (fun j => nI ((fun _ => 0) j)))), (q4, .inl (cI, 24, .inl (fun j => nI ((fun _ => 0) j))))] H := by rw [← z_nm]; exact hP
  have hD : va_D A [(h0, .inr (2, [.ref q1, .ref q2, .ref q3, .ref q4, .int (nI 0)])), (q1, .inl (cI, 24, .inl (fun j => nI ((va_up (fun _ => 0) 0 0) j)))), (q2, .inl (cI, 24, .inl (fun j => mI ((fun _ => 1) j)))), (q3, .inl (cI, 24, .inl (fun j => nI ((fun _ => 0) j)))), (q4, .inl (cI, 24, .inl (fun j => nI ((fun _ => 0) j))))] := by rw [← z_nm]; exact hD
  refine n_ast (ws' := [(h0, .inr (2, [.ref q1, .ref q2, .ref q3, .ref q4, .int (nI 0)])), (q1, .inl (cI, 24, .inl (fun j => nI ((va_up (fun _ => 0) 0 0) j)))), (q2, .inl (cI, 24, .inl (fun j => mI ((va_up (fun _ => 1) 0 0) j)))), (q3, .inl (cI, 24, .inl (fun j => nI ((fun _ => 0) j)))), (q4, .inl (cI, 24, .inl (fun j => nI ((fun _ => 0) j))))]) hx hb hK hP hD hS 2 0 rfl rfl (i := 0) (by decide) (by decide) (by rw [mI_upd]; rfl) dX3_init_75 (fun H locs hP hD hS => ?_)
  refine lv_aload_n hx hb dX3_init_76 rfl (lv_at hl 1 rfl) ?_
  refine va_get (D := D) (ci := 2) (v := .ref q3) (C := RX3) (T := TX3) (N := 5) hx hb hts in_X3_init_X3 hown hK hP 0 rfl rfl 2 (by decide) (hts _ mm_X3_init_f18) (fun _ h9 => h9) rfl dX3_init_77 ?_
  refine lv_iload_n hx hb dX3_init_80 rfl (lv_at hl 0 rfl) ?_
  refine lv_iconst (v := mI 0) hx hb dX3_init_81 (by decide) ?_
  have hP : va_P D vwCl [(h0, .inr (2, [.ref q1, .ref q2, .ref q3, .ref q4, .int (nI 0)])), (q1, .inl (cI, 24, .inl (fun j => nI ((va_up (fun _ => 0) 0 0) j)))), (q2, .inl (cI, 24, .inl (fun j => mI ((va_up (fun _ => 1) 0 0) j)))), (q3, .inl (cI, 24, .inl (fun j => mI ((fun _ => 1) j)))), (q4, .inl (cI, 24, .inl (fun j => nI ((fun _ => 0) j))))] H := by rw [← z_nm]; exact hP
  have hD : va_D A [(h0, .inr (2, [.ref q1, .ref q2, .ref q3, .ref q4, .int (nI 0)])), (q1, .inl (cI, 24, .inl (fun j => nI ((va_up (fun _ => 0) 0 0) j)))), (q2, .inl (cI, 24, .inl (fun j => mI ((va_up (fun _ => 1) 0 0) j)))), (q3, .inl (cI, 24, .inl (fun j => mI ((fun _ => 1) j)))), (q4, .inl (cI, 24, .inl (fun j => nI ((fun _ => 0) j))))] := by rw [← z_nm]; exact hD
  refine n_ast (ws' := [(h0, .inr (2, [.ref q1, .ref q2, .ref q3, .ref q4, .int (nI 0)])), (q1, .inl (cI, 24, .inl (fun j => nI ((va_up (fun _ => 0) 0 0) j)))), (q2, .inl (cI, 24, .inl (fun j => mI ((va_up (fun _ => 1) 0 0) j)))), (q3, .inl (cI, 24, .inl (fun j => mI ((va_up (fun _ => 1) 0 0) j)))), (q4, .inl (cI, 24, .inl (fun j => nI ((fun _ => 0) j))))]) hx hb hK hP hD hS 3 0 rfl rfl (i := 0) (by decide) (by decide) (by rw [mI_upd]; rfl) dX3_init_82 (fun H locs hP hD hS => ?_)
  refine lv_aload_n hx hb dX3_init_83 rfl (lv_at hl 1 rfl) ?_
  refine va_get (D := D) (ci := 2) (v := .ref q4) (C := RX3) (T := TX3) (N := 5) hx hb hts in_X3_init_X3 hown hK hP 0 rfl rfl 3 (by decide) (hts _ mm_X3_init_f21) (fun _ h9 => h9) rfl dX3_init_84 ?_
  refine lv_iload_n hx hb dX3_init_87 rfl (lv_at hl 0 rfl) ?_
  refine lv_iconst (v := mI 0) hx hb dX3_init_88 (by decide) ?_
  have hP : va_P D vwCl [(h0, .inr (2, [.ref q1, .ref q2, .ref q3, .ref q4, .int (nI 0)])), (q1, .inl (cI, 24, .inl (fun j => nI ((va_up (fun _ => 0) 0 0) j)))), (q2, .inl (cI, 24, .inl (fun j => mI ((va_up (fun _ => 1) 0 0) j)))), (q3, .inl (cI, 24, .inl (fun j => mI ((va_up (fun _ => 1) 0 0) j)))), (q4, .inl (cI, 24, .inl (fun j => mI ((fun _ => 1) j))))] H := by rw [← z_nm]; exact hP
  have hD : va_D A [(h0, .inr (2, [.ref q1, .ref q2, .ref q3, .ref q4, .int (nI 0)])), (q1, .inl (cI, 24, .inl (fun j => nI ((va_up (fun _ => 0) 0 0) j)))), (q2, .inl (cI, 24, .inl (fun j => mI ((va_up (fun _ => 1) 0 0) j)))), (q3, .inl (cI, 24, .inl (fun j => mI ((va_up (fun _ => 1) 0 0) j)))), (q4, .inl (cI, 24, .inl (fun j => mI ((fun _ => 1) j))))] := by rw [← z_nm]; exact hD
  refine n_ast (ws' := [(h0, .inr (2, [.ref q1, .ref q2, .ref q3, .ref q4, .int (nI 0)])), (q1, .inl (cI, 24, .inl (fun j => nI ((va_up (fun _ => 0) 0 0) j)))), (q2, .inl (cI, 24, .inl (fun j => mI ((va_up (fun _ => 1) 0 0) j)))), (q3, .inl (cI, 24, .inl (fun j => mI ((va_up (fun _ => 1) 0 0) j)))), (q4, .inl (cI, 24, .inl (fun j => mI ((va_up (fun _ => 1) 0 0) j))))]) hx hb hK hP hD hS 4 0 rfl rfl (i := 0) (by decide) (by decide) (by rw [mI_upd]; rfl) dX3_init_89 (fun H locs hP hD hS => ?_)
  refine lv_iinc (v := nI 1) (lv' := [(1, .int (nI 1)), (0, .ref h0)]) hx hb dX3_init_90 hl (k := 0) rfl (by decide +kernel) (by decide) rfl (fun ls hl => ?_)
  refine lv_goto (tgt := 38) hx hb dX3_init_93 (by decide) ?_
  refine lv_iload_n hx hb dX3_init_38 rfl (lv_at hl 0 rfl) ?_
  refine lv_bipush (v := nI 7) hx hb dX3_init_39 (by decide) ?_
  refine n_icmp_ge hx hb (tgt := 96) (by decide) (by decide) dX3_init_41 (by decide) (fun c9 => absurd c9 (by decide)) (fun c9 => ?_)
  refine lv_aload_n hx hb dX3_init_44 rfl (lv_at hl 1 rfl) ?_
  refine va_get (D := D) (ci := 2) (v := .ref q1) (C := RX3) (T := TX3) (N := 5) hx hb hts in_X3_init_X3 hown hK hP 0 rfl rfl 0 (by decide) (hts _ mm_X3_init_f9) (fun _ h9 => h9) rfl dX3_init_45 ?_
  refine lv_iload_n hx hb dX3_init_48 rfl (lv_at hl 0 rfl) ?_
  refine lv_iload_n hx hb dX3_init_49 rfl (lv_at hl 0 rfl) ?_
  refine lv_iconst (v := nI 3) hx hb dX3_init_50 (by decide) ?_
  refine n_icmp_ge hx hb (tgt := 58) (by decide) (by decide) dX3_init_51 (by decide) (fun c9 => absurd c9 (by decide)) (fun c9 => ?_)
  refine lv_iconst (v := nI 0) hx hb dX3_init_54 (by decide) ?_
  refine lv_goto (tgt := 68) hx hb dX3_init_55 (by decide) ?_
  refine n_ast (ws' := [(h0, .inr (2, [.ref q1, .ref q2, .ref q3, .ref q4, .int (nI 0)])), (q1, .inl (cI, 24, .inl (fun j => nI ((va_up (va_up (fun _ => 0) 0 0) 1 0) j)))), (q2, .inl (cI, 24, .inl (fun j => mI ((va_up (fun _ => 1) 0 0) j)))), (q3, .inl (cI, 24, .inl (fun j => mI ((va_up (fun _ => 1) 0 0) j)))), (q4, .inl (cI, 24, .inl (fun j => mI ((va_up (fun _ => 1) 0 0) j))))]) hx hb hK hP hD hS 1 0 rfl rfl (i := 1) (by decide) (by decide) (by rw [nI_upd]; rfl) dX3_init_68 (fun H locs hP hD hS => ?_)
  refine lv_aload_n hx hb dX3_init_69 rfl (lv_at hl 1 rfl) ?_
  refine va_get (D := D) (ci := 2) (v := .ref q2) (C := RX3) (T := TX3) (N := 5) hx hb hts in_X3_init_X3 hown hK hP 0 rfl rfl 1 (by decide) (hts _ mm_X3_init_f15) (fun _ h9 => h9) rfl dX3_init_70 ?_
  refine lv_iload_n hx hb dX3_init_73 rfl (lv_at hl 0 rfl) ?_
  refine lv_iconst (v := mI 0) hx hb dX3_init_74 (by decide) ?_
  refine n_ast (ws' := [(h0, .inr (2, [.ref q1, .ref q2, .ref q3, .ref q4, .int (nI 0)])), (q1, .inl (cI, 24, .inl (fun j => nI ((va_up (va_up (fun _ => 0) 0 0) 1 0) j)))), (q2, .inl (cI, 24, .inl (fun j => mI ((va_up (va_up (fun _ => 1) 0 0) 1 0) j)))), (q3, .inl (cI, 24, .inl (fun j => mI ((va_up (fun _ => 1) 0 0) j)))), (q4, .inl (cI, 24, .inl (fun j => mI ((va_up (fun _ => 1) 0 0) j))))]) hx hb hK hP hD hS 2 0 rfl rfl (i := 1) (by decide) (by decide) (by rw [mI_upd]; rfl) dX3_init_75 (fun H locs hP hD hS => ?_)
  refine lv_aload_n hx hb dX3_init_76 rfl (lv_at hl 1 rfl) ?_
  refine va_get (D := D) (ci := 2) (v := .ref q3) (C := RX3) (T := TX3) (N := 5) hx hb hts in_X3_init_X3 hown hK hP 0 rfl rfl 2 (by decide) (hts _ mm_X3_init_f18) (fun _ h9 => h9) rfl dX3_init_77 ?_
  refine lv_iload_n hx hb dX3_init_80 rfl (lv_at hl 0 rfl) ?_
  refine lv_iconst (v := mI 0) hx hb dX3_init_81 (by decide) ?_
  refine n_ast (ws' := [(h0, .inr (2, [.ref q1, .ref q2, .ref q3, .ref q4, .int (nI 0)])), (q1, .inl (cI, 24, .inl (fun j => nI ((va_up (va_up (fun _ => 0) 0 0) 1 0) j)))), (q2, .inl (cI, 24, .inl (fun j => mI ((va_up (va_up (fun _ => 1) 0 0) 1 0) j)))), (q3, .inl (cI, 24, .inl (fun j => mI ((va_up (va_up (fun _ => 1) 0 0) 1 0) j)))), (q4, .inl (cI, 24, .inl (fun j => mI ((va_up (fun _ => 1) 0 0) j))))]) hx hb hK hP hD hS 3 0 rfl rfl (i := 1) (by decide) (by decide) (by rw [mI_upd]; rfl) dX3_init_82 (fun H locs hP hD hS => ?_)
  refine lv_aload_n hx hb dX3_init_83 rfl (lv_at hl 1 rfl) ?_
  refine va_get (D := D) (ci := 2) (v := .ref q4) (C := RX3) (T := TX3) (N := 5) hx hb hts in_X3_init_X3 hown hK hP 0 rfl rfl 3 (by decide) (hts _ mm_X3_init_f21) (fun _ h9 => h9) rfl dX3_init_84 ?_
  refine lv_iload_n hx hb dX3_init_87 rfl (lv_at hl 0 rfl) ?_
  refine lv_iconst (v := mI 0) hx hb dX3_init_88 (by decide) ?_
  refine n_ast (ws' := [(h0, .inr (2, [.ref q1, .ref q2, .ref q3, .ref q4, .int (nI 0)])), (q1, .inl (cI, 24, .inl (fun j => nI ((va_up (va_up (fun _ => 0) 0 0) 1 0) j)))), (q2, .inl (cI, 24, .inl (fun j => mI ((va_up (va_up (fun _ => 1) 0 0) 1 0) j)))), (q3, .inl (cI, 24, .inl (fun j => mI ((va_up (va_up (fun _ => 1) 0 0) 1 0) j)))), (q4, .inl (cI, 24, .inl (fun j => mI ((va_up (va_up (fun _ => 1) 0 0) 1 0) j))))]) hx hb hK hP hD hS 4 0 rfl rfl (i := 1) (by decide) (by decide) (by rw [mI_upd]; rfl) dX3_init_89 (fun H locs hP hD hS => ?_)
  refine lv_iinc (v := nI 2) (lv' := [(1, .int (nI 2)), (0, .ref h0)]) hx hb dX3_init_90 hl (k := 0) rfl (by decide +kernel) (by decide) rfl (fun ls hl => ?_)
  refine lv_goto (tgt := 38) hx hb dX3_init_93 (by decide) ?_
  refine lv_iload_n hx hb dX3_init_38 rfl (lv_at hl 0 rfl) ?_
  refine lv_bipush (v := nI 7) hx hb dX3_init_39 (by decide) ?_
  refine n_icmp_ge hx hb (tgt := 96) (by decide) (by decide) dX3_init_41 (by decide) (fun c9 => absurd c9 (by decide)) (fun c9 => ?_)
  refine lv_aload_n hx hb dX3_init_44 rfl (lv_at hl 1 rfl) ?_
  refine va_get (D := D) (ci := 2) (v := .ref q1) (C := RX3) (T := TX3) (N := 5) hx hb hts in_X3_init_X3 hown hK hP 0 rfl rfl 0 (by decide) (hts _ mm_X3_init_f9) (fun _ h9 => h9) rfl dX3_init_45 ?_
  refine lv_iload_n hx hb dX3_init_48 rfl (lv_at hl 0 rfl) ?_
  refine lv_iload_n hx hb dX3_init_49 rfl (lv_at hl 0 rfl) ?_
  refine lv_iconst (v := nI 3) hx hb dX3_init_50 (by decide) ?_
  refine n_icmp_ge hx hb (tgt := 58) (by decide) (by decide) dX3_init_51 (by decide) (fun c9 => absurd c9 (by decide)) (fun c9 => ?_)
  refine lv_iconst (v := nI 0) hx hb dX3_init_54 (by decide) ?_
  refine lv_goto (tgt := 68) hx hb dX3_init_55 (by decide) ?_
  refine n_ast (ws' := [(h0, .inr (2, [.ref q1, .ref q2, .ref q3, .ref q4, .int (nI 0)])), (q1, .inl (cI, 24, .inl (fun j => nI ((va_up (va_up (va_up (fun _ => 0) 0 0) 1 0) 2 0) j)))), (q2, .inl (cI, 24, .inl (fun j => mI ((va_up (va_up (fun _ => 1) 0 0) 1 0) j)))), (q3, .inl (cI, 24, .inl (fun j => mI ((va_up (va_up (fun _ => 1) 0 0) 1 0) j)))), (q4, .inl (cI, 24, .inl (fun j => mI ((va_up (va_up (fun _ => 1) 0 0) 1 0) j))))]) hx hb hK hP hD hS 1 0 rfl rfl (i := 2) (by decide) (by decide) (by rw [nI_upd]; rfl) dX3_init_68 (fun H locs hP hD hS => ?_)
  refine lv_aload_n hx hb dX3_init_69 rfl (lv_at hl 1 rfl) ?_
  refine va_get (D := D) (ci := 2) (v := .ref q2) (C := RX3) (T := TX3) (N := 5) hx hb hts in_X3_init_X3 hown hK hP 0 rfl rfl 1 (by decide) (hts _ mm_X3_init_f15) (fun _ h9 => h9) rfl dX3_init_70 ?_
  refine lv_iload_n hx hb dX3_init_73 rfl (lv_at hl 0 rfl) ?_
  refine lv_iconst (v := mI 0) hx hb dX3_init_74 (by decide) ?_
  refine n_ast (ws' := [(h0, .inr (2, [.ref q1, .ref q2, .ref q3, .ref q4, .int (nI 0)])), (q1, .inl (cI, 24, .inl (fun j => nI ((va_up (va_up (va_up (fun _ => 0) 0 0) 1 0) 2 0) j)))), (q2, .inl (cI, 24, .inl (fun j => mI ((va_up (va_up (va_up (fun _ => 1) 0 0) 1 0) 2 0) j)))), (q3, .inl (cI, 24, .inl (fun j => mI ((va_up (va_up (fun _ => 1) 0 0) 1 0) j)))), (q4, .inl (cI, 24, .inl (fun j => mI ((va_up (va_up (fun _ => 1) 0 0) 1 0) j))))]) hx hb hK hP hD hS 2 0 rfl rfl (i := 2) (by decide) (by decide) (by rw [mI_upd]; rfl) dX3_init_75 (fun H locs hP hD hS => ?_)
  refine lv_aload_n hx hb dX3_init_76 rfl (lv_at hl 1 rfl) ?_
  refine va_get (D := D) (ci := 2) (v := .ref q3) (C := RX3) (T := TX3) (N := 5) hx hb hts in_X3_init_X3 hown hK hP 0 rfl rfl 2 (by decide) (hts _ mm_X3_init_f18) (fun _ h9 => h9) rfl dX3_init_77 ?_
  refine lv_iload_n hx hb dX3_init_80 rfl (lv_at hl 0 rfl) ?_
  refine lv_iconst (v := mI 0) hx hb dX3_init_81 (by decide) ?_
  refine n_ast (ws' := [(h0, .inr (2, [.ref q1, .ref q2, .ref q3, .ref q4, .int (nI 0)])), (q1, .inl (cI, 24, .inl (fun j => nI ((va_up (va_up (va_up (fun _ => 0) 0 0) 1 0) 2 0) j)))), (q2, .inl (cI, 24, .inl (fun j => mI ((va_up (va_up (va_up (fun _ => 1) 0 0) 1 0) 2 0) j)))), (q3, .inl (cI, 24, .inl (fun j => mI ((va_up (va_up (va_up (fun _ => 1) 0 0) 1 0) 2 0) j)))), (q4, .inl (cI, 24, .inl (fun j => mI ((va_up (va_up (fun _ => 1) 0 0) 1 0) j))))]) hx hb hK hP hD hS 3 0 rfl rfl (i := 2) (by decide) (by decide) (by rw [mI_upd]; rfl) dX3_init_82 (fun H locs hP hD hS => ?_)
  refine lv_aload_n hx hb dX3_init_83 rfl (lv_at hl 1 rfl) ?_
  refine va_get (D := D) (ci := 2) (v := .ref q4) (C := RX3) (T := TX3) (N := 5) hx hb hts in_X3_init_X3 hown hK hP 0 rfl rfl 3 (by decide) (hts _ mm_X3_init_f21) (fun _ h9 => h9) rfl dX3_init_84 ?_
  refine lv_iload_n hx hb dX3_init_87 rfl (lv_at hl 0 rfl) ?_
  refine lv_iconst (v := mI 0) hx hb dX3_init_88 (by decide) ?_
  refine n_ast (ws' := [(h0, .inr (2, [.ref q1, .ref q2, .ref q3, .ref q4, .int (nI 0)])), (q1, .inl (cI, 24, .inl (fun j => nI ((va_up (va_up (va_up (fun _ => 0) 0 0) 1 0) 2 0) j)))), (q2, .inl (cI, 24, .inl (fun j => mI ((va_up (va_up (va_up (fun _ => 1) 0 0) 1 0) 2 0) j)))), (q3, .inl (cI, 24, .inl (fun j => mI ((va_up (va_up (va_up (fun _ => 1) 0 0) 1 0) 2 0) j)))), (q4, .inl (cI, 24, .inl (fun j => mI ((va_up (va_up (va_up (fun _ => 1) 0 0) 1 0) 2 0) j))))]) hx hb hK hP hD hS 4 0 rfl rfl (i := 2) (by decide) (by decide) (by rw [mI_upd]; rfl) dX3_init_89 (fun H locs hP hD hS => ?_)
  refine lv_iinc (v := nI 3) (lv' := [(1, .int (nI 3)), (0, .ref h0)]) hx hb dX3_init_90 hl (k := 0) rfl (by decide +kernel) (by decide) rfl (fun ls hl => ?_)
  refine lv_goto (tgt := 38) hx hb dX3_init_93 (by decide) ?_
  refine lv_iload_n hx hb dX3_init_38 rfl (lv_at hl 0 rfl) ?_
  refine lv_bipush (v := nI 7) hx hb dX3_init_39 (by decide) ?_
  refine n_icmp_ge hx hb (tgt := 96) (by decide) (by decide) dX3_init_41 (by decide) (fun c9 => absurd c9 (by decide)) (fun c9 => ?_)
  refine lv_aload_n hx hb dX3_init_44 rfl (lv_at hl 1 rfl) ?_
  refine va_get (D := D) (ci := 2) (v := .ref q1) (C := RX3) (T := TX3) (N := 5) hx hb hts in_X3_init_X3 hown hK hP 0 rfl rfl 0 (by decide) (hts _ mm_X3_init_f9) (fun _ h9 => h9) rfl dX3_init_45 ?_
  refine lv_iload_n hx hb dX3_init_48 rfl (lv_at hl 0 rfl) ?_
  refine lv_iload_n hx hb dX3_init_49 rfl (lv_at hl 0 rfl) ?_
  refine lv_iconst (v := nI 3) hx hb dX3_init_50 (by decide) ?_
  refine n_icmp_ge hx hb (tgt := 58) (by decide) (by decide) dX3_init_51 (by decide) (fun c9 => ?_) (fun c9 => absurd c9 (by decide))
  refine lv_iload_n hx hb dX3_init_58 rfl (lv_at hl 0 rfl) ?_
  refine lv_iconst (v := nI 5) hx hb dX3_init_59 (by decide) ?_
  refine n_icmp_ge hx hb (tgt := 67) (by decide) (by decide) dX3_init_60 (by decide) (fun c9 => absurd c9 (by decide)) (fun c9 => ?_)
  refine lv_iconst (v := nI 1) hx hb dX3_init_63 (by decide) ?_
  refine lv_goto (tgt := 68) hx hb dX3_init_64 (by decide) ?_
  refine n_ast (ws' := [(h0, .inr (2, [.ref q1, .ref q2, .ref q3, .ref q4, .int (nI 0)])), (q1, .inl (cI, 24, .inl (fun j => nI ((va_up (va_up (va_up (va_up (fun _ => 0) 0 0) 1 0) 2 0) 3 1) j)))), (q2, .inl (cI, 24, .inl (fun j => mI ((va_up (va_up (va_up (fun _ => 1) 0 0) 1 0) 2 0) j)))), (q3, .inl (cI, 24, .inl (fun j => mI ((va_up (va_up (va_up (fun _ => 1) 0 0) 1 0) 2 0) j)))), (q4, .inl (cI, 24, .inl (fun j => mI ((va_up (va_up (va_up (fun _ => 1) 0 0) 1 0) 2 0) j))))]) hx hb hK hP hD hS 1 0 rfl rfl (i := 3) (by decide) (by decide) (by rw [nI_upd]; rfl) dX3_init_68 (fun H locs hP hD hS => ?_)
  refine lv_aload_n hx hb dX3_init_69 rfl (lv_at hl 1 rfl) ?_
  refine va_get (D := D) (ci := 2) (v := .ref q2) (C := RX3) (T := TX3) (N := 5) hx hb hts in_X3_init_X3 hown hK hP 0 rfl rfl 1 (by decide) (hts _ mm_X3_init_f15) (fun _ h9 => h9) rfl dX3_init_70 ?_
  refine lv_iload_n hx hb dX3_init_73 rfl (lv_at hl 0 rfl) ?_
  refine lv_iconst (v := mI 0) hx hb dX3_init_74 (by decide) ?_
  refine n_ast (ws' := [(h0, .inr (2, [.ref q1, .ref q2, .ref q3, .ref q4, .int (nI 0)])), (q1, .inl (cI, 24, .inl (fun j => nI ((va_up (va_up (va_up (va_up (fun _ => 0) 0 0) 1 0) 2 0) 3 1) j)))), (q2, .inl (cI, 24, .inl (fun j => mI ((va_up (va_up (va_up (va_up (fun _ => 1) 0 0) 1 0) 2 0) 3 0) j)))), (q3, .inl (cI, 24, .inl (fun j => mI ((va_up (va_up (va_up (fun _ => 1) 0 0) 1 0) 2 0) j)))), (q4, .inl (cI, 24, .inl (fun j => mI ((va_up (va_up (va_up (fun _ => 1) 0 0) 1 0) 2 0) j))))]) hx hb hK hP hD hS 2 0 rfl rfl (i := 3) (by decide) (by decide) (by rw [mI_upd]; rfl) dX3_init_75 (fun H locs hP hD hS => ?_)
  refine lv_aload_n hx hb dX3_init_76 rfl (lv_at hl 1 rfl) ?_
  refine va_get (D := D) (ci := 2) (v := .ref q3) (C := RX3) (T := TX3) (N := 5) hx hb hts in_X3_init_X3 hown hK hP 0 rfl rfl 2 (by decide) (hts _ mm_X3_init_f18) (fun _ h9 => h9) rfl dX3_init_77 ?_
  refine lv_iload_n hx hb dX3_init_80 rfl (lv_at hl 0 rfl) ?_
  refine lv_iconst (v := mI 0) hx hb dX3_init_81 (by decide) ?_
  refine n_ast (ws' := [(h0, .inr (2, [.ref q1, .ref q2, .ref q3, .ref q4, .int (nI 0)])), (q1, .inl (cI, 24, .inl (fun j => nI ((va_up (va_up (va_up (va_up (fun _ => 0) 0 0) 1 0) 2 0) 3 1) j)))), (q2, .inl (cI, 24, .inl (fun j => mI ((va_up (va_up (va_up (va_up (fun _ => 1) 0 0) 1 0) 2 0) 3 0) j)))), (q3, .inl (cI, 24, .inl (fun j => mI ((va_up (va_up (va_up (va_up (fun _ => 1) 0 0) 1 0) 2 0) 3 0) j)))), (q4, .inl (cI, 24, .inl (fun j => mI ((va_up (va_up (va_up (fun _ => 1) 0 0) 1 0) 2 0) j))))]) hx hb hK hP hD hS 3 0 rfl rfl (i := 3) (by decide) (by decide) (by rw [mI_upd]; rfl) dX3_init_82 (fun H locs hP hD hS => ?_)
  refine lv_aload_n hx hb dX3_init_83 rfl (lv_at hl 1 rfl) ?_
  refine va_get (D := D) (ci := 2) (v := .ref q4) (C := RX3) (T := TX3) (N := 5) hx hb hts in_X3_init_X3 hown hK hP 0 rfl rfl 3 (by decide) (hts _ mm_X3_init_f21) (fun _ h9 => h9) rfl dX3_init_84 ?_
  refine lv_iload_n hx hb dX3_init_87 rfl (lv_at hl 0 rfl) ?_
  refine lv_iconst (v := mI 0) hx hb dX3_init_88 (by decide) ?_
  refine n_ast (ws' := [(h0, .inr (2, [.ref q1, .ref q2, .ref q3, .ref q4, .int (nI 0)])), (q1, .inl (cI, 24, .inl (fun j => nI ((va_up (va_up (va_up (va_up (fun _ => 0) 0 0) 1 0) 2 0) 3 1) j)))), (q2, .inl (cI, 24, .inl (fun j => mI ((va_up (va_up (va_up (va_up (fun _ => 1) 0 0) 1 0) 2 0) 3 0) j)))), (q3, .inl (cI, 24, .inl (fun j => mI ((va_up (va_up (va_up (va_up (fun _ => 1) 0 0) 1 0) 2 0) 3 0) j)))), (q4, .inl (cI, 24, .inl (fun j => mI ((va_up (va_up (va_up (va_up (fun _ => 1) 0 0) 1 0) 2 0) 3 0) j))))]) hx hb hK hP hD hS 4 0 rfl rfl (i := 3) (by decide) (by decide) (by rw [mI_upd]; rfl) dX3_init_89 (fun H locs hP hD hS => ?_)
  refine lv_iinc (v := nI 4) (lv' := [(1, .int (nI 4)), (0, .ref h0)]) hx hb dX3_init_90 hl (k := 0) rfl (by decide +kernel) (by decide) rfl (fun ls hl => ?_)
  refine lv_goto (tgt := 38) hx hb dX3_init_93 (by decide) ?_
  refine lv_iload_n hx hb dX3_init_38 rfl (lv_at hl 0 rfl) ?_
  refine lv_bipush (v := nI 7) hx hb dX3_init_39 (by decide) ?_
  refine n_icmp_ge hx hb (tgt := 96) (by decide) (by decide) dX3_init_41 (by decide) (fun c9 => absurd c9 (by decide)) (fun c9 => ?_)
  refine lv_aload_n hx hb dX3_init_44 rfl (lv_at hl 1 rfl) ?_
  refine va_get (D := D) (ci := 2) (v := .ref q1) (C := RX3) (T := TX3) (N := 5) hx hb hts in_X3_init_X3 hown hK hP 0 rfl rfl 0 (by decide) (hts _ mm_X3_init_f9) (fun _ h9 => h9) rfl dX3_init_45 ?_
  refine lv_iload_n hx hb dX3_init_48 rfl (lv_at hl 0 rfl) ?_
  refine lv_iload_n hx hb dX3_init_49 rfl (lv_at hl 0 rfl) ?_
  refine lv_iconst (v := nI 3) hx hb dX3_init_50 (by decide) ?_
  refine n_icmp_ge hx hb (tgt := 58) (by decide) (by decide) dX3_init_51 (by decide) (fun c9 => ?_) (fun c9 => absurd c9 (by decide))
  refine lv_iload_n hx hb dX3_init_58 rfl (lv_at hl 0 rfl) ?_
  refine lv_iconst (v := nI 5) hx hb dX3_init_59 (by decide) ?_
  refine n_icmp_ge hx hb (tgt := 67) (by decide) (by decide) dX3_init_60 (by decide) (fun c9 => absurd c9 (by decide)) (fun c9 => ?_)
  refine lv_iconst (v := nI 1) hx hb dX3_init_63 (by decide) ?_
  refine lv_goto (tgt := 68) hx hb dX3_init_64 (by decide) ?_
  refine n_ast (ws' := [(h0, .inr (2, [.ref q1, .ref q2, .ref q3, .ref q4, .int (nI 0)])), (q1, .inl (cI, 24, .inl (fun j => nI ((va_up (va_up (va_up (va_up (va_up (fun _ => 0) 0 0) 1 0) 2 0) 3 1) 4 1) j)))), (q2, .inl (cI, 24, .inl (fun j => mI ((va_up (va_up (va_up (va_up (fun _ => 1) 0 0) 1 0) 2 0) 3 0) j)))), (q3, .inl (cI, 24, .inl (fun j => mI ((va_up (va_up (va_up (va_up (fun _ => 1) 0 0) 1 0) 2 0) 3 0) j)))), (q4, .inl (cI, 24, .inl (fun j => mI ((va_up (va_up (va_up (va_up (fun _ => 1) 0 0) 1 0) 2 0) 3 0) j))))]) hx hb hK hP hD hS 1 0 rfl rfl (i := 4) (by decide) (by decide) (by rw [nI_upd]; rfl) dX3_init_68 (fun H locs hP hD hS => ?_)
  refine lv_aload_n hx hb dX3_init_69 rfl (lv_at hl 1 rfl) ?_
  refine va_get (D := D) (ci := 2) (v := .ref q2) (C := RX3) (T := TX3) (N := 5) hx hb hts in_X3_init_X3 hown hK hP 0 rfl rfl 1 (by decide) (hts _ mm_X3_init_f15) (fun _ h9 => h9) rfl dX3_init_70 ?_
  refine lv_iload_n hx hb dX3_init_73 rfl (lv_at hl 0 rfl) ?_
  refine lv_iconst (v := mI 0) hx hb dX3_init_74 (by decide) ?_
  refine n_ast (ws' := [(h0, .inr (2, [.ref q1, .ref q2, .ref q3, .ref q4, .int (nI 0)])), (q1, .inl (cI, 24, .inl (fun j => nI ((va_up (va_up (va_up (va_up (va_up (fun _ => 0) 0 0) 1 0) 2 0) 3 1) 4 1) j)))), (q2, .inl (cI, 24, .inl (fun j => mI ((va_up (va_up (va_up (va_up (va_up (fun _ => 1) 0 0) 1 0) 2 0) 3 0) 4 0) j)))), (q3, .inl (cI, 24, .inl (fun j => mI ((va_up (va_up (va_up (va_up (fun _ => 1) 0 0) 1 0) 2 0) 3 0) j)))), (q4, .inl (cI, 24, .inl (fun j => mI ((va_up (va_up (va_up (va_up (fun _ => 1) 0 0) 1 0) 2 0) 3 0) j))))]) hx hb hK hP hD hS 2 0 rfl rfl (i := 4) (by decide) (by decide) (by rw [mI_upd]; rfl) dX3_init_75 (fun H locs hP hD hS => ?_)
  refine lv_aload_n hx hb dX3_init_76 rfl (lv_at hl 1 rfl) ?_
  refine va_get (D := D) (ci := 2) (v := .ref q3) (C := RX3) (T := TX3) (N := 5) hx hb hts in_X3_init_X3 hown hK hP 0 rfl rfl 2 (by decide) (hts _ mm_X3_init_f18) (fun _ h9 => h9) rfl dX3_init_77 ?_
  refine lv_iload_n hx hb dX3_init_80 rfl (lv_at hl 0 rfl) ?_
  refine lv_iconst (v := mI 0) hx hb dX3_init_81 (by decide) ?_
  refine n_ast (ws' := [(h0, .inr (2, [.ref q1, .ref q2, .ref q3, .ref q4, .int (nI 0)])), (q1, .inl (cI, 24, .inl (fun j => nI ((va_up (va_up (va_up (va_up (va_up (fun _ => 0) 0 0) 1 0) 2 0) 3 1) 4 1) j)))), (q2, .inl (cI, 24, .inl (fun j => mI ((va_up (va_up (va_up (va_up (va_up (fun _ => 1) 0 0) 1 0) 2 0) 3 0) 4 0) j)))), (q3, .inl (cI, 24, .inl (fun j => mI ((va_up (va_up (va_up (va_up (va_up (fun _ => 1) 0 0) 1 0) 2 0) 3 0) 4 0) j)))), (q4, .inl (cI, 24, .inl (fun j => mI ((va_up (va_up (va_up (va_up (fun _ => 1) 0 0) 1 0) 2 0) 3 0) j))))]) hx hb hK hP hD hS 3 0 rfl rfl (i := 4) (by decide) (by decide) (by rw [mI_upd]; rfl) dX3_init_82 (fun H locs hP hD hS => ?_)
  refine lv_aload_n hx hb dX3_init_83 rfl (lv_at hl 1 rfl) ?_
  refine va_get (D := D) (ci := 2) (v := .ref q4) (C := RX3) (T := TX3) (N := 5) hx hb hts in_X3_init_X3 hown hK hP 0 rfl rfl 3 (by decide) (hts _ mm_X3_init_f21) (fun _ h9 => h9) rfl dX3_init_84 ?_
  refine lv_iload_n hx hb dX3_init_87 rfl (lv_at hl 0 rfl) ?_
  refine lv_iconst (v := mI 0) hx hb dX3_init_88 (by decide) ?_
  refine n_ast (ws' := [(h0, .inr (2, [.ref q1, .ref q2, .ref q3, .ref q4, .int (nI 0)])), (q1, .inl (cI, 24, .inl (fun j => nI ((va_up (va_up (va_up (va_up (va_up (fun _ => 0) 0 0) 1 0) 2 0) 3 1) 4 1) j)))), (q2, .inl (cI, 24, .inl (fun j => mI ((va_up (va_up (va_up (va_up (va_up (fun _ => 1) 0 0) 1 0) 2 0) 3 0) 4 0) j)))), (q3, .inl (cI, 24, .inl (fun j => mI ((va_up (va_up (va_up (va_up (va_up (fun _ => 1) 0 0) 1 0) 2 0) 3 0) 4 0) j)))), (q4, .inl (cI, 24, .inl (fun j => mI ((va_up (va_up (va_up (va_up (va_up (fun _ => 1) 0 0) 1 0) 2 0) 3 0) 4 0) j))))]) hx hb hK hP hD hS 4 0 rfl rfl (i := 4) (by decide) (by decide) (by rw [mI_upd]; rfl) dX3_init_89 (fun H locs hP hD hS => ?_)
  refine lv_iinc (v := nI 5) (lv' := [(1, .int (nI 5)), (0, .ref h0)]) hx hb dX3_init_90 hl (k := 0) rfl (by decide +kernel) (by decide) rfl (fun ls hl => ?_)
  refine lv_goto (tgt := 38) hx hb dX3_init_93 (by decide) ?_
  refine lv_iload_n hx hb dX3_init_38 rfl (lv_at hl 0 rfl) ?_
  refine lv_bipush (v := nI 7) hx hb dX3_init_39 (by decide) ?_
  refine n_icmp_ge hx hb (tgt := 96) (by decide) (by decide) dX3_init_41 (by decide) (fun c9 => absurd c9 (by decide)) (fun c9 => ?_)
  refine lv_aload_n hx hb dX3_init_44 rfl (lv_at hl 1 rfl) ?_
  refine va_get (D := D) (ci := 2) (v := .ref q1) (C := RX3) (T := TX3) (N := 5) hx hb hts in_X3_init_X3 hown hK hP 0 rfl rfl 0 (by decide) (hts _ mm_X3_init_f9) (fun _ h9 => h9) rfl dX3_init_45 ?_
  refine lv_iload_n hx hb dX3_init_48 rfl (lv_at hl 0 rfl) ?_
  refine lv_iload_n hx hb dX3_init_49 rfl (lv_at hl 0 rfl) ?_
  refine lv_iconst (v := nI 3) hx hb dX3_init_50 (by decide) ?_
  refine n_icmp_ge hx hb (tgt := 58) (by decide) (by decide) dX3_init_51 (by decide) (fun c9 => ?_) (fun c9 => absurd c9 (by decide))
  refine lv_iload_n hx hb dX3_init_58 rfl (lv_at hl 0 rfl) ?_
  refine lv_iconst (v := nI 5) hx hb dX3_init_59 (by decide) ?_
  refine n_icmp_ge hx hb (tgt := 67) (by decide) (by decide) dX3_init_60 (by decide) (fun c9 => ?_) (fun c9 => absurd c9 (by decide))
  refine lv_iconst (v := nI 2) hx hb dX3_init_67 (by decide) ?_
  refine n_ast (ws' := [(h0, .inr (2, [.ref q1, .ref q2, .ref q3, .ref q4, .int (nI 0)])), (q1, .inl (cI, 24, .inl (fun j => nI ((va_up (va_up (va_up (va_up (va_up (va_up (fun _ => 0) 0 0) 1 0) 2 0) 3 1) 4 1) 5 2) j)))), (q2, .inl (cI, 24, .inl (fun j => mI ((va_up (va_up (va_up (va_up (va_up (fun _ => 1) 0 0) 1 0) 2 0) 3 0) 4 0) j)))), (q3, .inl (cI, 24, .inl (fun j => mI ((va_up (va_up (va_up (va_up (va_up (fun _ => 1) 0 0) 1 0) 2 0) 3 0) 4 0) j)))), (q4, .inl (cI, 24, .inl (fun j => mI ((va_up (va_up (va_up (va_up (va_up (fun _ => 1) 0 0) 1 0) 2 0) 3 0) 4 0) j))))]) hx hb hK hP hD hS 1 0 rfl rfl (i := 5) (by decide) (by decide) (by rw [nI_upd]; rfl) dX3_init_68 (fun H locs hP hD hS => ?_)
  refine lv_aload_n hx hb dX3_init_69 rfl (lv_at hl 1 rfl) ?_
  refine va_get (D := D) (ci := 2) (v := .ref q2) (C := RX3) (T := TX3) (N := 5) hx hb hts in_X3_init_X3 hown hK hP 0 rfl rfl 1 (by decide) (hts _ mm_X3_init_f15) (fun _ h9 => h9) rfl dX3_init_70 ?_
  refine lv_iload_n hx hb dX3_init_73 rfl (lv_at hl 0 rfl) ?_
  refine lv_iconst (v := mI 0) hx hb dX3_init_74 (by decide) ?_
  refine n_ast (ws' := [(h0, .inr (2, [.ref q1, .ref q2, .ref q3, .ref q4, .int (nI 0)])), (q1, .inl (cI, 24, .inl (fun j => nI ((va_up (va_up (va_up (va_up (va_up (va_up (fun _ => 0) 0 0) 1 0) 2 0) 3 1) 4 1) 5 2) j)))), (q2, .inl (cI, 24, .inl (fun j => mI ((va_up (va_up (va_up (va_up (va_up (va_up (fun _ => 1) 0 0) 1 0) 2 0) 3 0) 4 0) 5 0) j)))), (q3, .inl (cI, 24, .inl (fun j => mI ((va_up (va_up (va_up (va_up (va_up (fun _ => 1) 0 0) 1 0) 2 0) 3 0) 4 0) j)))), (q4, .inl (cI, 24, .inl (fun j => mI ((va_up (va_up (va_up (va_up (va_up (fun _ => 1) 0 0) 1 0) 2 0) 3 0) 4 0) j))))]) hx hb hK hP hD hS 2 0 rfl rfl (i := 5) (by decide) (by decide) (by rw [mI_upd]; rfl) dX3_init_75 (fun H locs hP hD hS => ?_)
  refine lv_aload_n hx hb dX3_init_76 rfl (lv_at hl 1 rfl) ?_
  refine va_get (D := D) (ci := 2) (v := .ref q3) (C := RX3) (T := TX3) (N := 5) hx hb hts in_X3_init_X3 hown hK hP 0 rfl rfl 2 (by decide) (hts _ mm_X3_init_f18) (fun _ h9 => h9) rfl dX3_init_77 ?_
  refine lv_iload_n hx hb dX3_init_80 rfl (lv_at hl 0 rfl) ?_
  refine lv_iconst (v := mI 0) hx hb dX3_init_81 (by decide) ?_
  refine n_ast (ws' := [(h0, .inr (2, [.ref q1, .ref q2, .ref q3, .ref q4, .int (nI 0)])), (q1, .inl (cI, 24, .inl (fun j => nI ((va_up (va_up (va_up (va_up (va_up (va_up (fun _ => 0) 0 0) 1 0) 2 0) 3 1) 4 1) 5 2) j)))), (q2, .inl (cI, 24, .inl (fun j => mI ((va_up (va_up (va_up (va_up (va_up (va_up (fun _ => 1) 0 0) 1 0) 2 0) 3 0) 4 0) 5 0) j)))), (q3, .inl (cI, 24, .inl (fun j => mI ((va_up (va_up (va_up (va_up (va_up (va_up (fun _ => 1) 0 0) 1 0) 2 0) 3 0) 4 0) 5 0) j)))), (q4, .inl (cI, 24, .inl (fun j => mI ((va_up (va_up (va_up (va_up (va_up (fun _ => 1) 0 0) 1 0) 2 0) 3 0) 4 0) j))))]) hx hb hK hP hD hS 3 0 rfl rfl (i := 5) (by decide) (by decide) (by rw [mI_upd]; rfl) dX3_init_82 (fun H locs hP hD hS => ?_)
  refine lv_aload_n hx hb dX3_init_83 rfl (lv_at hl 1 rfl) ?_
  refine va_get (D := D) (ci := 2) (v := .ref q4) (C := RX3) (T := TX3) (N := 5) hx hb hts in_X3_init_X3 hown hK hP 0 rfl rfl 3 (by decide) (hts _ mm_X3_init_f21) (fun _ h9 => h9) rfl dX3_init_84 ?_
  refine lv_iload_n hx hb dX3_init_87 rfl (lv_at hl 0 rfl) ?_
  refine lv_iconst (v := mI 0) hx hb dX3_init_88 (by decide) ?_
  refine n_ast (ws' := [(h0, .inr (2, [.ref q1, .ref q2, .ref q3, .ref q4, .int (nI 0)])), (q1, .inl (cI, 24, .inl (fun j => nI ((va_up (va_up (va_up (va_up (va_up (va_up (fun _ => 0) 0 0) 1 0) 2 0) 3 1) 4 1) 5 2) j)))), (q2, .inl (cI, 24, .inl (fun j => mI ((va_up (va_up (va_up (va_up (va_up (va_up (fun _ => 1) 0 0) 1 0) 2 0) 3 0) 4 0) 5 0) j)))), (q3, .inl (cI, 24, .inl (fun j => mI ((va_up (va_up (va_up (va_up (va_up (va_up (fun _ => 1) 0 0) 1 0) 2 0) 3 0) 4 0) 5 0) j)))), (q4, .inl (cI, 24, .inl (fun j => mI ((va_up (va_up (va_up (va_up (va_up (va_up (fun _ => 1) 0 0) 1 0) 2 0) 3 0) 4 0) 5 0) j))))]) hx hb hK hP hD hS 4 0 rfl rfl (i := 5) (by decide) (by decide) (by rw [mI_upd]; rfl) dX3_init_89 (fun H locs hP hD hS => ?_)
  refine lv_iinc (v := nI 6) (lv' := [(1, .int (nI 6)), (0, .ref h0)]) hx hb dX3_init_90 hl (k := 0) rfl (by decide +kernel) (by decide) rfl (fun ls hl => ?_)
  refine lv_goto (tgt := 38) hx hb dX3_init_93 (by decide) ?_
  refine lv_iload_n hx hb dX3_init_38 rfl (lv_at hl 0 rfl) ?_
  refine lv_bipush (v := nI 7) hx hb dX3_init_39 (by decide) ?_
  refine n_icmp_ge hx hb (tgt := 96) (by decide) (by decide) dX3_init_41 (by decide) (fun c9 => absurd c9 (by decide)) (fun c9 => ?_)
  refine lv_aload_n hx hb dX3_init_44 rfl (lv_at hl 1 rfl) ?_
  refine va_get (D := D) (ci := 2) (v := .ref q1) (C := RX3) (T := TX3) (N := 5) hx hb hts in_X3_init_X3 hown hK hP 0 rfl rfl 0 (by decide) (hts _ mm_X3_init_f9) (fun _ h9 => h9) rfl dX3_init_45 ?_
  refine lv_iload_n hx hb dX3_init_48 rfl (lv_at hl 0 rfl) ?_
  refine lv_iload_n hx hb dX3_init_49 rfl (lv_at hl 0 rfl) ?_
  refine lv_iconst (v := nI 3) hx hb dX3_init_50 (by decide) ?_
  refine n_icmp_ge hx hb (tgt := 58) (by decide) (by decide) dX3_init_51 (by decide) (fun c9 => ?_) (fun c9 => absurd c9 (by decide))
  refine lv_iload_n hx hb dX3_init_58 rfl (lv_at hl 0 rfl) ?_
  refine lv_iconst (v := nI 5) hx hb dX3_init_59 (by decide) ?_
  refine n_icmp_ge hx hb (tgt := 67) (by decide) (by decide) dX3_init_60 (by decide) (fun c9 => ?_) (fun c9 => absurd c9 (by decide))
  refine lv_iconst (v := nI 2) hx hb dX3_init_67 (by decide) ?_
  refine n_ast (ws' := [(h0, .inr (2, [.ref q1, .ref q2, .ref q3, .ref q4, .int (nI 0)])), (q1, .inl (cI, 24, .inl (fun j => nI ((va_up (va_up (va_up (va_up (va_up (va_up (va_up (fun _ => 0) 0 0) 1 0) 2 0) 3 1) 4 1) 5 2) 6 2) j)))), (q2, .inl (cI, 24, .inl (fun j => mI ((va_up (va_up (va_up (va_up (va_up (va_up (fun _ => 1) 0 0) 1 0) 2 0) 3 0) 4 0) 5 0) j)))), (q3, .inl (cI, 24, .inl (fun j => mI ((va_up (va_up (va_up (va_up (va_up (va_up (fun _ => 1) 0 0) 1 0) 2 0) 3 0) 4 0) 5 0) j)))), (q4, .inl (cI, 24, .inl (fun j => mI ((va_up (va_up (va_up (va_up (va_up (va_up (fun _ => 1) 0 0) 1 0) 2 0) 3 0) 4 0) 5 0) j))))]) hx hb hK hP hD hS 1 0 rfl rfl (i := 6) (by decide) (by decide) (by rw [nI_upd]; rfl) dX3_init_68 (fun H locs hP hD hS => ?_)
  refine lv_aload_n hx hb dX3_init_69 rfl (lv_at hl 1 rfl) ?_
  refine va_get (D := D) (ci := 2) (v := .ref q2) (C := RX3) (T := TX3) (N := 5) hx hb hts in_X3_init_X3 hown hK hP 0 rfl rfl 1 (by decide) (hts _ mm_X3_init_f15) (fun _ h9 => h9) rfl dX3_init_70 ?_
  refine lv_iload_n hx hb dX3_init_73 rfl (lv_at hl 0 rfl) ?_
  refine lv_iconst (v := mI 0) hx hb dX3_init_74 (by decide) ?_
  refine n_ast (ws' := [(h0, .inr (2, [.ref q1, .ref q2, .ref q3, .ref q4, .int (nI 0)])), (q1, .inl (cI, 24, .inl (fun j => nI ((va_up (va_up (va_up (va_up (va_up (va_up (va_up (fun _ => 0) 0 0) 1 0) 2 0) 3 1) 4 1) 5 2) 6 2) j)))), (q2, .inl (cI, 24, .inl (fun j => mI ((va_up (va_up (va_up (va_up (va_up (va_up (va_up (fun _ => 1) 0 0) 1 0) 2 0) 3 0) 4 0) 5 0) 6 0) j)))), (q3, .inl (cI, 24, .inl (fun j => mI ((va_up (va_up (va_up (va_up (va_up (va_up (fun _ => 1) 0 0) 1 0) 2 0) 3 0) 4 0) 5 0) j)))), (q4, .inl (cI, 24, .inl (fun j => mI ((va_up (va_up (va_up (va_up (va_up (va_up (fun _ => 1) 0 0) 1 0) 2 0) 3 0) 4 0) 5 0) j))))]) hx hb hK hP hD hS 2 0 rfl rfl (i := 6) (by decide) (by decide) (by rw [mI_upd]; rfl) dX3_init_75 (fun H locs hP hD hS => ?_)
  refine lv_aload_n hx hb dX3_init_76 rfl (lv_at hl 1 rfl) ?_
  refine va_get (D := D) (ci := 2) (v := .ref q3) (C := RX3) (T := TX3) (N := 5) hx hb hts in_X3_init_X3 hown hK hP 0 rfl rfl 2 (by decide) (hts _ mm_X3_init_f18) (fun _ h9 => h9) rfl dX3_init_77 ?_
  refine lv_iload_n hx hb dX3_init_80 rfl (lv_at hl 0 rfl) ?_
  refine lv_iconst (v := mI 0) hx hb dX3_init_81 (by decide) ?_
  refine n_ast (ws' := [(h0, .inr (2, [.ref q1, .ref q2, .ref q3, .ref q4, .int (nI 0)])), (q1, .inl (cI, 24, .inl (fun j => nI ((va_up (va_up (va_up (va_up (va_up (va_up (va_up (fun _ => 0) 0 0) 1 0) 2 0) 3 1) 4 1) 5 2) 6 2) j)))), (q2, .inl (cI, 24, .inl (fun j => mI ((va_up (va_up (va_up (va_up (va_up (va_up (va_up (fun _ => 1) 0 0) 1 0) 2 0) 3 0) 4 0) 5 0) 6 0) j)))), (q3, .inl (cI, 24, .inl (fun j => mI ((va_up (va_up (va_up (va_up (va_up (va_up (va_up (fun _ => 1) 0 0) 1 0) 2 0) 3 0) 4 0) 5 0) 6 0) j)))), (q4, .inl (cI, 24, .inl (fun j => mI ((va_up (va_up (va_up (va_up (va_up (va_up (fun _ => 1) 0 0) 1 0) 2 0) 3 0) 4 0) 5 0) j))))]) hx hb hK hP hD hS 3 0 rfl rfl (i := 6) (by decide) (by decide) (by rw [mI_upd]; rfl) dX3_init_82 (fun H locs hP hD hS => ?_)
  refine lv_aload_n hx hb dX3_init_83 rfl (lv_at hl 1 rfl) ?_
  refine va_get (D := D) (ci := 2) (v := .ref q4) (C := RX3) (T := TX3) (N := 5) hx hb hts in_X3_init_X3 hown hK hP 0 rfl rfl 3 (by decide) (hts _ mm_X3_init_f21) (fun _ h9 => h9) rfl dX3_init_84 ?_
  refine lv_iload_n hx hb dX3_init_87 rfl (lv_at hl 0 rfl) ?_
  refine lv_iconst (v := mI 0) hx hb dX3_init_88 (by decide) ?_
  refine n_ast (ws' := [(h0, .inr (2, [.ref q1, .ref q2, .ref q3, .ref q4, .int (nI 0)])), (q1, .inl (cI, 24, .inl (fun j => nI ((va_up (va_up (va_up (va_up (va_up (va_up (va_up (fun _ => 0) 0 0) 1 0) 2 0) 3 1) 4 1) 5 2) 6 2) j)))), (q2, .inl (cI, 24, .inl (fun j => mI ((va_up (va_up (va_up (va_up (va_up (va_up (va_up (fun _ => 1) 0 0) 1 0) 2 0) 3 0) 4 0) 5 0) 6 0) j)))), (q3, .inl (cI, 24, .inl (fun j => mI ((va_up (va_up (va_up (va_up (va_up (va_up (va_up (fun _ => 1) 0 0) 1 0) 2 0) 3 0) 4 0) 5 0) 6 0) j)))), (q4, .inl (cI, 24, .inl (fun j => mI ((va_up (va_up (va_up (va_up (va_up (va_up (va_up (fun _ => 1) 0 0) 1 0) 2 0) 3 0) 4 0) 5 0) 6 0) j))))]) hx hb hK hP hD hS 4 0 rfl rfl (i := 6) (by decide) (by decide) (by rw [mI_upd]; rfl) dX3_init_89 (fun H locs hP hD hS => ?_)
  refine lv_iinc (v := nI 7) (lv' := [(1, .int (nI 7)), (0, .ref h0)]) hx hb dX3_init_90 hl (k := 0) rfl (by decide +kernel) (by decide) rfl (fun ls hl => ?_)
  refine lv_goto (tgt := 38) hx hb dX3_init_93 (by decide) ?_
  refine lv_iload_n hx hb dX3_init_38 rfl (lv_at hl 0 rfl) ?_
  refine lv_bipush (v := nI 7) hx hb dX3_init_39 (by decide) ?_
  refine n_icmp_ge hx hb (tgt := 96) (by decide) (by decide) dX3_init_41 (by decide) (fun c9 => ?_) (fun c9 => absurd c9 (by decide))
  refine lv_aload_n hx hb dX3_init_96 rfl (lv_at hl 1 rfl) ?_
  refine lv_bipush (v := nI 7) hx hb dX3_init_97 (by decide) ?_
  refine va_put (D := D) (ci := 2) (v := .int (nI 7)) (ty := .int) (C := RX3) (T := TX3) (N := 5) hx hb hts in_X3_init_X3 tyX3 tyX3_ok nmX3 hown hK hP hD hS 0 rfl rfl 4 (by decide) (hts _ mm_X3_init_f24) (fun _ h9 => h9) rfl (by decide +kernel) rfl rfl (Nat.le_of_ble_eq_true rfl) dX3_init_99 (fun H locs hP hD hS => ?_)
  have hP : va_P D vwCl [(h0, .inr (2, [.ref q1, .ref q2, .ref q3, .ref q4, .int (nI 7)])), (q1, .inl (cI, 24, .inl (fun j => nI ((va_up (va_up (va_up (va_up (va_up (va_up (va_up (fun _ => 0) 0 0) 1 0) 2 0) 3 1) 4 1) 5 2) 6 2) j)))), (q2, .inl (cI, 24, .inl (fun j => mI ((va_up (va_up (va_up (va_up (va_up (va_up (va_up (fun _ => 1) 0 0) 1 0) 2 0) 3 0) 4 0) 5 0) 6 0) j)))), (q3, .inl (cI, 24, .inl (fun j => mI ((va_up (va_up (va_up (va_up (va_up (va_up (va_up (fun _ => 1) 0 0) 1 0) 2 0) 3 0) 4 0) 5 0) 6 0) j)))), (q4, .inl (cI, 24, .inl (fun j => mI ((va_up (va_up (va_up (va_up (va_up (va_up (va_up (fun _ => 1) 0 0) 1 0) 2 0) 3 0) 4 0) 5 0) 6 0) j))))] H := hP
  have hD : va_D A [(h0, .inr (2, [.ref q1, .ref q2, .ref q3, .ref q4, .int (nI 7)])), (q1, .inl (cI, 24, .inl (fun j => nI ((va_up (va_up (va_up (va_up (va_up (va_up (va_up (fun _ => 0) 0 0) 1 0) 2 0) 3 1) 4 1) 5 2) 6 2) j)))), (q2, .inl (cI, 24, .inl (fun j => mI ((va_up (va_up (va_up (va_up (va_up (va_up (va_up (fun _ => 1) 0 0) 1 0) 2 0) 3 0) 4 0) 5 0) 6 0) j)))), (q3, .inl (cI, 24, .inl (fun j => mI ((va_up (va_up (va_up (va_up (va_up (va_up (va_up (fun _ => 1) 0 0) 1 0) 2 0) 3 0) 4 0) 5 0) 6 0) j)))), (q4, .inl (cI, 24, .inl (fun j => mI ((va_up (va_up (va_up (va_up (va_up (va_up (va_up (fun _ => 1) 0 0) 1 0) 2 0) 3 0) 4 0) 5 0) 6 0) j))))] := hD
  exact W.vret hx hb hr (fun t ht hW => ⟨⟨(q1, q2, q3, q4), rfl, trivial, by rw [ht]; exact hP, hD⟩, hS.F ht⟩) hS.2.2 dX3_init_102
end
section
/-- a new object of the class, in numbers -/
def sg0 : Nat → Nat → Nat := fun k => if k = 0 then (fun j => if j = 1 then 7 else 0) else if k = 6 then va_up (va_up (va_up (va_up (va_up (va_up (va_up (fun _ => 0) 0 0) 1 0) 2 0) 3 1) 4 1) 5 2) 6 2 else if k = 7 then va_up (va_up (va_up (va_up (va_up (va_up (va_up (fun _ => 1) 0 0) 1 0) 2 0) 3 0) 4 0) 5 0) 6 0 else if k = 8 then va_up (va_up (va_up (va_up (va_up (va_up (va_up (fun _ => 1) 0 0) 1 0) 2 0) 3 0) 4 0) 5 0) 6 0 else if k = 9 then va_up (va_up (va_up (va_up (va_up (va_up (va_up (fun _ => 1) 0 0) 1 0) 2 0) 3 0) 4 0) 5 0) 6 0 else if k = 15 then (fun _ => 1) else (fun _ => 0)
theorem mm_X4_init_oi : Cond.methodLink RX4 3 objectInit ∈ wsX4_init := by decide +kernel
theorem mm_X4_init_om : Cond.instanceMethod objectInit ∈ wsX4_init := by decide +kernel
theorem in_X4_init_X3 : ∀ w ∈ wsX30, w ∈ wsX4_init := by decide +kernel
theorem mm_X4_init_c9 : Cond.classLink RX4 9 RX3 ∈ wsX4_init := by decide +kernel
theorem mm_X4_init_nX3 : Cond.instantiable RX3 5 ∈ wsX4_init := by decide +kernel
theorem mm_X4_init_iX3 : Cond.initialized RX3 ∈ wsX4_init := by decide +kernel
theorem mm_X4_init_m11 : Cond.methodLink RX4 11 yX3_init ∈ wsX4_init := by decide +kernel
theorem mm_X4_init_zX3 : Cond.instanceMethod yX3_init ∈ wsX4_init := by decide +kernel
theorem mm_X4_init_f12 : Cond.fieldLink RX4 12 "ArrayClaims" "known" "LArrayClaims$TermTable;" ∈ wsX4_init := by decide +kernel
theorem in_X4_init_X4 : ∀ w ∈ wsX40, w ∈ wsX4_init := by decide +kernel
theorem in_X4_init_X0 : ∀ w ∈ wsX00, w ∈ wsX4_init := by decide +kernel
theorem mm_X4_init_c16 : Cond.classLink RX4 16 RX0 ∈ wsX4_init := by decide +kernel
theorem mm_X4_init_nX0 : Cond.instantiable RX0 3 ∈ wsX4_init := by decide +kernel
theorem mm_X4_init_iX0 : Cond.initialized RX0 ∈ wsX4_init := by decide +kernel
theorem mm_X4_init_m18 : Cond.methodLink RX4 18 yX0_init ∈ wsX4_init := by decide +kernel
theorem mm_X4_init_zX0 : Cond.instanceMethod yX0_init ∈ wsX4_init := by decide +kernel
theorem mm_X4_init_f21 : Cond.fieldLink RX4 21 "ArrayClaims" "made" "LArrayClaims$ClaimList;" ∈ wsX4_init := by decide +kernel
theorem mm_X4_init_arr : Cond.arrayClass .int ∈ wsX4_init := by decide +kernel
theorem mm_X4_init_f25 : Cond.fieldLink RX4 25 "ArrayClaims" "drafted" "[I" ∈ wsX4_init := by decide +kernel
theorem mm_X4_init_f29 : Cond.fieldLink RX4 29 "ArrayClaims" "draftSize" "I" ∈ wsX4_init := by decide +kernel
theorem mm_X4_init_f33 : Cond.fieldLink RX4 33 "ArrayClaims" "asked" "LArrayClaims$ClaimList;" ∈ wsX4_init := by decide +kernel
theorem in_X4_init_X2 : ∀ w ∈ wsX20, w ∈ wsX4_init := by decide +kernel
theorem mm_X4_init_c36 : Cond.classLink RX4 36 RX2 ∈ wsX4_init := by decide +kernel
theorem mm_X4_init_nX2 : Cond.instantiable RX2 2 ∈ wsX4_init := by decide +kernel
theorem mm_X4_init_iX2 : Cond.initialized RX2 ∈ wsX4_init := by decide +kernel
theorem mm_X4_init_zX2 : Cond.instanceMethod yX2_init ∈ wsX4_init := by decide +kernel
theorem mm_X4_init_f39 : Cond.fieldLink RX4 39 "ArrayClaims" "search" "LArrayClaims$ReadingSearch;" ∈ wsX4_init := by decide +kernel
def rX4_init : Room := { frames := 2, cells := 15, slots := 294, locals := 33 }
set_option maxHeartbeats 4000000 in
set_option maxRecDepth 100000 in
theorem c_X4_init (l : Launch) (D : va_G) (cI : ClassId) (h0 sz : Nat)  : Met l yX4_init wsX4_init rX4_init (va_Pc [.ref h0] (fun U => U.heap.size = sz ∧ va_P D vwCl [(h0, .inr (3, [.null, .null, .null, .int (nI 0), .null, .null]))] U.heap ∧ va_K D vwCl [(cI, .int)] U ∧ va_D (fun _ => True) [(h0, .inr (3, [.null, .null, .null, .int (nI 0), .null, .null]))] ∧ va_Nw (.methodLinkNest RX4 38 yX2_init "ArrayClaims") U)) (va_Qv (fun u : Nat → Nat => u 0 = h0) (fun u t => va_P D vwCl (WC u cI sg0) t.heap ∧ va_D (va_A [(h0, .inr (3, [.null, .null, .null, .int (nI 0), .null, .null]))] sz) (WC u cI sg0)) (va_A [(h0, .inr (3, [.null, .null, .null, .int (nI 0), .null, .null]))] sz)) 15 294 (va_A [(h0, .inr (3, [.null, .null, .null, .int (nI 0), .null, .null]))] sz) := by
  refine Met.ofW (cc := cX4_init) (maxL := 1) (ret := none) (by decide) rfl ?_
  intro p e s m args below meth c s₁ B hml hv
  obtain ⟨rfl, hsz, hP, hK, hD0, hNm⟩ := hv
  have hx := B.exec
  have hb := B.bytes
  have hr := B.returns
  have hts := atoms_spec (ws := wsX4_init) B.pre
  have hown : s.vm.findClass RX4 = some m.cls := findClass_of_methodNamed B.named
  have hlocks := B.notSynchronized
  have hin : meth.name = "<init>" := (name_of_methodNamed B.named B.method).1
  subst hsz
  have hD := hD0.self (sz := s.heap.size)
  generalize hAe : va_A [(h0, .inr (3, [.null, .null, .null, .int (nI 0), .null, .null]))] s.heap.size = A at hD ⊢
  have hA : ∀ q : Nat, s.heap.size ≤ q → A q := fun q h => by rw [← hAe]; exact Or.inr h
  have hS : va_S A s.heap s.heap [] := va_S.rf
  have hl := lv_entry ([.ref h0]) (n := 1) (Nat.le_of_ble_eq_true rfl)
  rw [lg_entry_eq]
  generalize (lg_sl ([.ref h0]) ++ List.replicate (1 - (lg_sl ([.ref h0])).length) Slot.unset).toArray = ls at hl ⊢
  have hl : lv_has ls 1 [(0, .ref h0)] := hl
  refine lv_aload_n hx hb dX4_init_0 rfl (lv_at hl 0 rfl) ?_
  refine W.objInit hx hb hown (hts _ mm_X4_init_oi) (hts _ mm_X4_init_om) (hts _ (List.mem_of_getElem? (i := 3) rfl)) rfl (by rw [hml]; exact hl.1) rfl dX4_init_1 (Nat.le_of_ble_eq_true rfl) (Nat.le_of_ble_eq_true rfl) ?_
  refine W.eq (g2 := F0 m 4 ls []) rfl ?_
  refine lv_aload_n hx hb dX4_init_4 rfl (lv_at hl 0 rfl) ?_
  refine va_new (ci := 2) (fs := [.null, .null, .null, .null, .int (nI 0)]) (C := RX3) (T := TX3) (N := 5) hx hb hts in_X4_init_X3 tyX3 tyX3_ok hown (hts _ mm_X4_init_c9) (hts _ mm_X4_init_nX3) (hts _ mm_X4_init_iX3) hK hP hD hS hA rfl (fun j hj => by rcases (show j = 0 ∨ j = 1 ∨ j = 2 ∨ j = 3 ∨ j = 4 by omega) with rfl | rfl | rfl | rfl | rfl <;> rfl) (Nat.le_of_ble_eq_true rfl) (Nat.le_of_ble_eq_true rfl) dX4_init_5 (fun q1 H hP hD hS => ?_)
  have hP : va_P D vwCl [(h0, .inr (3, [.null, .null, .null, .int (nI 0), .null, .null])), (q1, .inr (2, [.null, .null, .null, .null, .int (nI 0)]))] H := hP
  have hD : va_D A [(h0, .inr (3, [.null, .null, .null, .int (nI 0), .null, .null])), (q1, .inr (2, [.null, .null, .null, .null, .int (nI 0)]))] := hD
  refine lv_dup hx hb dX4_init_8 rfl ?_
  have hPc := hP.sub (ws' := [(q1, .inr (2, [.null, .null, .null, .null, .int (nI 0)]))]) [1] rfl
  have hDc := hD.sub (ws' := [(q1, .inr (2, [.null, .null, .null, .null, .int (nI 0)]))]) [1] (by decide) rfl
  have hFc := va_free (wc := [(q1, .inr (2, [.null, .null, .null, .null, .int (nI 0)]))]) hD hS hA [1] rfl
  refine va_callv (va_runI (As := []) (rest := [.ref q1, .ref h0]) ⟨hx, hb, hml, hown, hts⟩ (c_X3_init l D cI q1 H.size) (cwI 0 hts gX4_init_X3_init rfl rfl rfl (hts _ mm_X4_init_iX3) (hts _ mm_X4_init_m11) (hts _ mm_X4_init_zX3) rfl (by decide +kernel) ⟨Nat.le_of_ble_eq_true rfl, Nat.le_of_ble_eq_true rfl⟩) ⟨fun a U g mk q => by obtain ⟨q0, q1, qP, qK, qD⟩ := q; exact ⟨q0, q1, qP, va_K.moved (u := U) (U := U.calling g mk a) (Vm.Alike.refl U.vm) qK, qD⟩, fun U hU hW => ⟨rfl, by rw [hU], by rw [hU]; exact hPc, va_K.moved hW.alike hK, hDc.weaken (fun _ _ _ _ => trivial)⟩⟩ rfl rfl hl.1 rfl (lv_room (Nat.le_of_ble_eq_true rfl)) dX4_init_9 ⟨Nat.le_of_ble_eq_true rfl, Nat.le_of_ble_eq_true rfl⟩) hS (fun q _ h => hFc q h) hFc (fun u t H1 locs ht hvm hw hB hz1 hk1 hS => ?_)
  obtain ⟨q2, q3, q4, q5⟩ := u
  obtain ⟨hP1, hD1⟩ := hB
  rw [ht] at hP1
  obtain ⟨hP, hD⟩ := va_join (wr := [(h0, .inr (3, [.null, .null, .null, .int (nI 0), .null, .null]))]) (w1 := [(q1, .inr (2, [.ref q2, .ref q3, .ref q4, .ref q5, .int (nI 7)])), (q2, .inl (cI, 24, .inl (fun j => nI ((va_up (va_up (va_up (va_up (va_up (va_up (va_up (fun _ => 0) 0 0) 1 0) 2 0) 3 1) 4 1) 5 2) 6 2) j)))), (q3, .inl (cI, 24, .inl (fun j => mI ((va_up (va_up (va_up (va_up (va_up (va_up (va_up (fun _ => 1) 0 0) 1 0) 2 0) 3 0) 4 0) 5 0) 6 0) j)))), (q4, .inl (cI, 24, .inl (fun j => mI ((va_up (va_up (va_up (va_up (va_up (va_up (va_up (fun _ => 1) 0 0) 1 0) 2 0) 3 0) 4 0) 5 0) 6 0) j)))), (q5, .inl (cI, 24, .inl (fun j => mI ((va_up (va_up (va_up (va_up (va_up (va_up (va_up (fun _ => 1) 0 0) 1 0) 2 0) 3 0) 4 0) 5 0) 6 0) j))))]) hP hD [1] [0] rfl rfl (by decide) (by decide) hk1 hFc hP1 hD1
  generalize H1 = H at hP hS ⊢
  have hP : va_P D vwCl [(h0, .inr (3, [.null, .null, .null, .int (nI 0), .null, .null])), (q1, .inr (2, [.ref q2, .ref q3, .ref q4, .ref q5, .int (nI 7)])), (q2, .inl (cI, 24, .inl (fun j => nI ((va_up (va_up (va_up (va_up (va_up (va_up (va_up (fun _ => 0) 0 0) 1 0) 2 0) 3 1) 4 1) 5 2) 6 2) j)))), (q3, .inl (cI, 24, .inl (fun j => mI ((va_up (va_up (va_up (va_up (va_up (va_up (va_up (fun _ => 1) 0 0) 1 0) 2 0) 3 0) 4 0) 5 0) 6 0) j)))), (q4, .inl (cI, 24, .inl (fun j => mI ((va_up (va_up (va_up (va_up (va_up (va_up (va_up (fun _ => 1) 0 0) 1 0) 2 0) 3 0) 4 0) 5 0) 6 0) j)))), (q5, .inl (cI, 24, .inl (fun j => mI ((va_up (va_up (va_up (va_up (va_up (va_up (va_up (fun _ => 1) 0 0) 1 0) 2 0) 3 0) 4 0) 5 0) 6 0) j))))] H := hP
  have hD : va_D A [(h0, .inr (3, [.null, .null, .null, .int (nI 0), .null, .null])), (q1, .inr (2, [.ref q2, .ref q3, .ref q4, .ref q5, .int (nI 7)])), (q2, .inl (cI, 24, .inl (fun j => nI ((va_up (va_up (va_up (va_up (va_up (va_up (va_up (fun _ => 0) 0 0) 1 0) 2 0) 3 1) 4 1) 5 2) 6 2) j)))), (q3, .inl (cI, 24, .inl (fun j => mI ((va_up (va_up (va_up (va_up (va_up (va_up (va_up (fun _ => 1) 0 0) 1 0) 2 0) 3 0) 4 0) 5 0) 6 0) j)))), (q4, .inl (cI, 24, .inl (fun j => mI ((va_up (va_up (va_up (va_up (va_up (va_up (va_up (fun _ => 1) 0 0) 1 0) 2 0) 3 0) 4 0) 5 0) 6 0) j)))), (q5, .inl (cI, 24, .inl (fun j => mI ((va_up (va_up (va_up (va_up (va_up (va_up (va_up (fun _ => 1) 0 0) 1 0) 2 0) 3 0) 4 0) 5 0) 6 0) j))))] := hD
  refine va_putF (D := D) (ci := 3) (v := .ref q1) (ty := .object "ArrayClaims$TermTable") (C := RX4) (T := TX4) (N := 6) hx hb hts in_X4_init_X4 tyX4 tyX4_ok nmX4 hown hK hP hD hS 0 rfl rfl 0 (by decide) (hts _ mm_X4_init_f12) (fun _ h9 => h9) rfl hin rfl (by decide +kernel) rfl rfl (Nat.le_of_ble_eq_true rfl) dX4_init_12 (fun H locs hP hD hS => ?_)
  have hP : va_P D vwCl [(h0, .inr (3, [.ref q1, .null, .null, .int (nI 0), .null, .null])), (q1, .inr (2, [.ref q2, .ref q3, .ref q4, .ref q5, .int (nI 7)])), (q2, .inl (cI, 24, .inl (fun j => nI ((va_up (va_up (va_up (va_up (va_up (va_up (va_up (fun _ => 0) 0 0) 1 0) 2 0) 3 1) 4 1) 5 2) 6 2) j)))), (q3, .inl (cI, 24, .inl (fun j => mI ((va_up (va_up (va_up (va_up (va_up (va_up (va_up (fun _ => 1) 0 0) 1 0) 2 0) 3 0) 4 0) 5 0) 6 0) j)))), (q4, .inl (cI, 24, .inl (fun j => mI ((va_up (va_up (va_up (va_up (va_up (va_up (va_up (fun _ => 1) 0 0) 1 0) 2 0) 3 0) 4 0) 5 0) 6 0) j)))), (q5, .inl (cI, 24, .inl (fun j => mI ((va_up (va_up (va_up (va_up (va_up (va_up (va_up (fun _ => 1) 0 0) 1 0) 2 0) 3 0) 4 0) 5 0) 6 0) j))))] H := hP
  have hD : va_D A [(h0, .inr (3, [.ref q1, .null, .null, .int (nI 0), .null, .null])), (q1, .inr (2, [.ref q2, .ref q3, .ref q4, .ref q5, .int (nI 7)])), (q2, .inl (cI, 24, .inl (fun j => nI ((va_up (va_up (va_up (va_up (va_up (va_up (va_up (fun _ => 0) 0 0) 1 0) 2 0) 3 1) 4 1) 5 2) 6 2) j)))), (q3, .inl (cI, 24, .inl (fun j => mI ((va_up (va_up (va_up (va_up (va_up (va_up (va_up (fun _ => 1) 0 0) 1 0) 2 0) 3 0) 4 0) 5 0) 6 0) j)))), (q4, .inl (cI, 24, .inl (fun j => mI ((va_up (va_up (va_up (va_up (va_up (va_up (va_up (fun _ => 1) 0 0) 1 0) 2 0) 3 0) 4 0) 5 0) 6 0) j)))), (q5, .inl (cI, 24, .inl (fun j => mI ((va_up (va_up (va_up (va_up (va_up (va_up (va_up (fun _ => 1) 0 0) 1 0) 2 0) 3 0) 4 0) 5 0) 6 0) j))))] := hD
  refine lv_aload_n hx hb dX4_init_15 rfl (lv_at hl 0 rfl) ?_
  refine va_new (ci := 0) (fs := [.null, .null, .int (nI 0)]) (C := RX0) (T := TX0) (N := 3) hx hb hts in_X4_init_X0 tyX0 tyX0_ok hown (hts _ mm_X4_init_c16) (hts _ mm_X4_init_nX0) (hts _ mm_X4_init_iX0) hK hP hD hS hA rfl (fun j hj => by rcases (show j = 0 ∨ j = 1 ∨ j = 2 by omega) with rfl | rfl | rfl <;> rfl) (Nat.le_of_ble_eq_true rfl) (Nat.le_of_ble_eq_true rfl) dX4_init_16 (fun q6 H hP hD hS => ?_)
  have hP : va_P D vwCl [(h0, .inr (3, [.ref q1, .null, .null, .int (nI 0), .null, .null])), (q1, .inr (2, [.ref q2, .ref q3, .ref q4, .ref q5, .int (nI 7)])), (q2, .inl (cI, 24, .inl (fun j => nI ((va_up (va_up (va_up (va_up (va_up (va_up (va_up (fun _ => 0) 0 0) 1 0) 2 0) 3 1) 4 1) 5 2) 6 2) j)))), (q3, .inl (cI, 24, .inl (fun j => mI ((va_up (va_up (va_up (va_up (va_up (va_up (va_up (fun _ => 1) 0 0) 1 0) 2 0) 3 0) 4 0) 5 0) 6 0) j)))), (q4, .inl (cI, 24, .inl (fun j => mI ((va_up (va_up (va_up (va_up (va_up (va_up (va_up (fun _ => 1) 0 0) 1 0) 2 0) 3 0) 4 0) 5 0) 6 0) j)))), (q5, .inl (cI, 24, .inl (fun j => mI ((va_up (va_up (va_up (va_up (va_up (va_up (va_up (fun _ => 1) 0 0) 1 0) 2 0) 3 0) 4 0) 5 0) 6 0) j)))), (q6, .inr (0, [.null, .null, .int (nI 0)]))] H := hP
  have hD : va_D A [(h0, .inr (3, [.ref q1, .null, .null, .int (nI 0), .null, .null])), (q1, .inr (2, [.ref q2, .ref q3, .ref q4, .ref q5, .int (nI 7)])), (q2, .inl (cI, 24, .inl (fun j => nI ((va_up (va_up (va_up (va_up (va_up (va_up (va_up (fun _ => 0) 0 0) 1 0) 2 0) 3 1) 4 1) 5 2) 6 2) j)))), (q3, .inl (cI, 24, .inl (fun j => mI ((va_up (va_up (va_up (va_up (va_up (va_up (va_up (fun _ => 1) 0 0) 1 0) 2 0) 3 0) 4 0) 5 0) 6 0) j)))), (q4, .inl (cI, 24, .inl (fun j => mI ((va_up (va_up (va_up (va_up (va_up (va_up (va_up (fun _ => 1) 0 0) 1 0) 2 0) 3 0) 4 0) 5 0) 6 0) j)))), (q5, .inl (cI, 24, .inl (fun j => mI ((va_up (va_up (va_up (va_up (va_up (va_up (va_up (fun _ => 1) 0 0) 1 0) 2 0) 3 0) 4 0) 5 0) 6 0) j)))), (q6, .inr (0, [.null, .null, .int (nI 0)]))] := hD
  refine lv_dup hx hb dX4_init_19 rfl ?_
  refine lv_bipush (v := nI 8) hx hb dX4_init_20 (by decide) ?_
  have hPc := hP.sub (ws' := [(q6, .inr (0, [.null, .null, .int (nI 0)]))]) [6] rfl
  have hDc := hD.sub (ws' := [(q6, .inr (0, [.null, .null, .int (nI 0)]))]) [6] (by decide) rfl
  have hFc := va_free (wc := [(q6, .inr (0, [.null, .null, .int (nI 0)]))]) hD hS hA [6] rfl
  refine va_callv (va_runI (As := [.int (nI 8)]) (rest := [.ref q6, .ref h0]) ⟨hx, hb, hml, hown, hts⟩ (c_X0_init_made l D cI q6 H.size) (cwI 1 hts gX4_init_X0_init rfl rfl rfl (hts _ mm_X4_init_iX0) (hts _ mm_X4_init_m18) (hts _ mm_X4_init_zX0) rfl (by decide +kernel) ⟨Nat.le_of_ble_eq_true rfl, Nat.le_of_ble_eq_true rfl⟩) ⟨fun a U g mk q => by obtain ⟨q0, q1, qP, qK, qD⟩ := q; exact ⟨q0, q1, qP, va_K.moved (u := U) (U := U.calling g mk a) (Vm.Alike.refl U.vm) qK, qD⟩, fun U hU hW => ⟨rfl, by rw [hU], by rw [hU]; exact hPc, va_K.moved hW.alike hK, hDc.weaken (fun _ _ _ _ => trivial)⟩⟩ rfl rfl hl.1 rfl (lv_room (Nat.le_of_ble_eq_true rfl)) dX4_init_22 ⟨Nat.le_of_ble_eq_true rfl, Nat.le_of_ble_eq_true rfl⟩) hS (fun q _ h => hFc q h) hFc (fun u t H1 locs ht hvm hw hB hz1 hk1 hS => ?_)
  obtain ⟨q7, q8⟩ := u
  obtain ⟨hP1, hD1⟩ := hB
  rw [ht] at hP1
  obtain ⟨hP, hD⟩ := va_join (wr := [(h0, .inr (3, [.ref q1, .null, .null, .int (nI 0), .null, .null])), (q1, .inr (2, [.ref q2, .ref q3, .ref q4, .ref q5, .int (nI 7)])), (q2, .inl (cI, 24, .inl (fun j => nI ((va_up (va_up (va_up (va_up (va_up (va_up (va_up (fun _ => 0) 0 0) 1 0) 2 0) 3 1) 4 1) 5 2) 6 2) j)))), (q3, .inl (cI, 24, .inl (fun j => mI ((va_up (va_up (va_up (va_up (va_up (va_up (va_up (fun _ => 1) 0 0) 1 0) 2 0) 3 0) 4 0) 5 0) 6 0) j)))), (q4, .inl (cI, 24, .inl (fun j => mI ((va_up (va_up (va_up (va_up (va_up (va_up (va_up (fun _ => 1) 0 0) 1 0) 2 0) 3 0) 4 0) 5 0) 6 0) j)))), (q5, .inl (cI, 24, .inl (fun j => mI ((va_up (va_up (va_up (va_up (va_up (va_up (va_up (fun _ => 1) 0 0) 1 0) 2 0) 3 0) 4 0) 5 0) 6 0) j))))]) (w1 := [(q6, .inr (0, [.ref q7, .ref q8, .int (nI 0)])), (q7, .inl (cI, 24, .inl (fun j => nI ((fun _ => 0) j)))), (q8, .inl (cI, 8, .inl (fun j => nI ((fun _ => 0) j))))]) hP hD [6] [0, 1, 2, 3, 4, 5] rfl rfl (by decide) (by decide) hk1 hFc hP1 hD1
  generalize H1 = H at hP hS ⊢
  have hP : va_P D vwCl [(h0, .inr (3, [.ref q1, .null, .null, .int (nI 0), .null, .null])), (q1, .inr (2, [.ref q2, .ref q3, .ref q4, .ref q5, .int (nI 7)])), (q2, .inl (cI, 24, .inl (fun j => nI ((va_up (va_up (va_up (va_up (va_up (va_up (va_up (fun _ => 0) 0 0) 1 0) 2 0) 3 1) 4 1) 5 2) 6 2) j)))), (q3, .inl (cI, 24, .inl (fun j => mI ((va_up (va_up (va_up (va_up (va_up (va_up (va_up (fun _ => 1) 0 0) 1 0) 2 0) 3 0) 4 0) 5 0) 6 0) j)))), (q4, .inl (cI, 24, .inl (fun j => mI ((va_up (va_up (va_up (va_up (va_up (va_up (va_up (fun _ => 1) 0 0) 1 0) 2 0) 3 0) 4 0) 5 0) 6 0) j)))), (q5, .inl (cI, 24, .inl (fun j => mI ((va_up (va_up (va_up (va_up (va_up (va_up (va_up (fun _ => 1) 0 0) 1 0) 2 0) 3 0) 4 0) 5 0) 6 0) j)))), (q6, .inr (0, [.ref q7, .ref q8, .int (nI 0)])), (q7, .inl (cI, 24, .inl (fun j => nI ((fun _ => 0) j)))), (q8, .inl (cI, 8, .inl (fun j => nI ((fun _ => 0) j))))] H := hP
  have hD : va_D A [(h0, .inr (3, [.ref q1, .null, .null, .int (nI 0), .null, .null])), (q1, .inr (2, [.ref q2, .ref q3, .ref q4, .ref q5, .int (nI 7)])), (q2, .inl (cI, 24, .inl (fun j => nI ((va_up (va_up (va_up (va_up (va_up (va_up (va_up (fun _ => 0) 0 0) 1 0) 2 0) 3 1) 4 1) 5 2) 6 2) j)))), (q3, .inl (cI, 24, .inl (fun j => mI ((va_up (va_up (va_up (va_up (va_up (va_up (va_up (fun _ => 1) 0 0) 1 0) 2 0) 3 0) 4 0) 5 0) 6 0) j)))), (q4, .inl (cI, 24, .inl (fun j => mI ((va_up (va_up (va_up (va_up (va_up (va_up (va_up (fun _ => 1) 0 0) 1 0) 2 0) 3 0) 4 0) 5 0) 6 0) j)))), (q5, .inl (cI, 24, .inl (fun j => mI ((va_up (va_up (va_up (va_up (va_up (va_up (va_up (fun _ => 1) 0 0) 1 0) 2 0) 3 0) 4 0) 5 0) 6 0) j)))), (q6, .inr (0, [.ref q7, .ref q8, .int (nI 0)])), (q7, .inl (cI, 24, .inl (fun j => nI ((fun _ => 0) j)))), (q8, .inl (cI, 8, .inl (fun j => nI ((fun _ => 0) j))))] := hD
  refine va_putF (D := D) (ci := 3) (v := .ref q6) (ty := .object "ArrayClaims$ClaimList") (C := RX4) (T := TX4) (N := 6) hx hb hts in_X4_init_X4 tyX4 tyX4_ok nmX4 hown hK hP hD hS 0 rfl rfl 1 (by decide) (hts _ mm_X4_init_f21) (fun _ h9 => h9) rfl hin rfl (by decide +kernel) rfl rfl (Nat.le_of_ble_eq_true rfl) dX4_init_25 (fun H locs hP hD hS => ?_)
  have hP : va_P D vwCl [(h0, .inr (3, [.ref q1, .ref q6, .null, .int (nI 0), .null, .null])), (q1, .inr (2, [.ref q2, .ref q3, .ref q4, .ref q5, .int (nI 7)])), (q2, .inl (cI, 24, .inl (fun j => nI ((va_up (va_up (va_up (va_up (va_up (va_up (va_up (fun _ => 0) 0 0) 1 0) 2 0) 3 1) 4 1) 5 2) 6 2) j)))), (q3, .inl (cI, 24, .inl (fun j => mI ((va_up (va_up (va_up (va_up (va_up (va_up (va_up (fun _ => 1) 0 0) 1 0) 2 0) 3 0) 4 0) 5 0) 6 0) j)))), (q4, .inl (cI, 24, .inl (fun j => mI ((va_up (va_up (va_up (va_up (va_up (va_up (va_up (fun _ => 1) 0 0) 1 0) 2 0) 3 0) 4 0) 5 0) 6 0) j)))), (q5, .inl (cI, 24, .inl (fun j => mI ((va_up (va_up (va_up (va_up (va_up (va_up (va_up (fun _ => 1) 0 0) 1 0) 2 0) 3 0) 4 0) 5 0) 6 0) j)))), (q6, .inr (0, [.ref q7, .ref q8, .int (nI 0)])), (q7, .inl (cI, 24, .inl (fun j => nI ((fun _ => 0) j)))), (q8, .inl (cI, 8, .inl (fun j => nI ((fun _ => 0) j))))] H := hP
  have hD : va_D A [(h0, .inr (3, [.ref q1, .ref q6, .null, .int (nI 0), .null, .null])), (q1, .inr (2, [.ref q2, .ref q3, .ref q4, .ref q5, .int (nI 7)])), (q2, .inl (cI, 24, .inl (fun j => nI ((va_up (va_up (va_up (va_up (va_up (va_up (va_up (fun _ => 0) 0 0) 1 0) 2 0) 3 1) 4 1) 5 2) 6 2) j)))), (q3, .inl (cI, 24, .inl (fun j => mI ((va_up (va_up (va_up (va_up (va_up (va_up (va_up (fun _ => 1) 0 0) 1 0) 2 0) 3 0) 4 0) 5 0) 6 0) j)))), (q4, .inl (cI, 24, .inl (fun j => mI ((va_up (va_up (va_up (va_up (va_up (va_up (va_up (fun _ => 1) 0 0) 1 0) 2 0) 3 0) 4 0) 5 0) 6 0) j)))), (q5, .inl (cI, 24, .inl (fun j => mI ((va_up (va_up (va_up (va_up (va_up (va_up (va_up (fun _ => 1) 0 0) 1 0) 2 0) 3 0) 4 0) 5 0) 6 0) j)))), (q6, .inr (0, [.ref q7, .ref q8, .int (nI 0)])), (q7, .inl (cI, 24, .inl (fun j => nI ((fun _ => 0) j)))), (q8, .inl (cI, 8, .inl (fun j => nI ((fun _ => 0) j))))] := hD
  refine lv_aload_n hx hb dX4_init_28 rfl (lv_at hl 0 rfl) ?_
  refine lv_iconst (v := nI 3) hx hb dX4_init_29 (by decide) ?_
  refine n_newa hx hb (hts _ mm_X4_init_arr) hK 0 rfl hP hD hS hA (N := 3) (by decide) (by decide) (by decide) (by decide) dX4_init_30 (fun q9 H hP hD hS => ?_)
  have hP : va_P D vwCl [(h0, .inr (3, [.ref q1, .ref q6, .null, .int (nI 0), .null, .null])), (q1, .inr (2, [.ref q2, .ref q3, .ref q4, .ref q5, .int (nI 7)])), (q2, .inl (cI, 24, .inl (fun j => nI ((va_up (va_up (va_up (va_up (va_up (va_up (va_up (fun _ => 0) 0 0) 1 0) 2 0) 3 1) 4 1) 5 2) 6 2) j)))), (q3, .inl (cI, 24, .inl (fun j => mI ((va_up (va_up (va_up (va_up (va_up (va_up (va_up (fun _ => 1) 0 0) 1 0) 2 0) 3 0) 4 0) 5 0) 6 0) j)))), (q4, .inl (cI, 24, .inl (fun j => mI ((va_up (va_up (va_up (va_up (va_up (va_up (va_up (fun _ => 1) 0 0) 1 0) 2 0) 3 0) 4 0) 5 0) 6 0) j)))), (q5, .inl (cI, 24, .inl (fun j => mI ((va_up (va_up (va_up (va_up (va_up (va_up (va_up (fun _ => 1) 0 0) 1 0) 2 0) 3 0) 4 0) 5 0) 6 0) j)))), (q6, .inr (0, [.ref q7, .ref q8, .int (nI 0)])), (q7, .inl (cI, 24, .inl (fun j => nI ((fun _ => 0) j)))), (q8, .inl (cI, 8, .inl (fun j => nI ((fun _ => 0) j)))), (q9, .inl (cI, 3, .inl (fun j => nI ((fun _ => 0) j))))] H := hP
  have hD : va_D A [(h0, .inr (3, [.ref q1, .ref q6, .null, .int (nI 0), .null, .null])), (q1, .inr (2, [.ref q2, .ref q3, .ref q4, .ref q5, .int (nI 7)])), (q2, .inl (cI, 24, .inl (fun j => nI ((va_up (va_up (va_up (va_up (va_up (va_up (va_up (fun _ => 0) 0 0) 1 0) 2 0) 3 1) 4 1) 5 2) 6 2) j)))), (q3, .inl (cI, 24, .inl (fun j => mI ((va_up (va_up (va_up (va_up (va_up (va_up (va_up (fun _ => 1) 0 0) 1 0) 2 0) 3 0) 4 0) 5 0) 6 0) j)))), (q4, .inl (cI, 24, .inl (fun j => mI ((va_up (va_up (va_up (va_up (va_up (va_up (va_up (fun _ => 1) 0 0) 1 0) 2 0) 3 0) 4 0) 5 0) 6 0) j)))), (q5, .inl (cI, 24, .inl (fun j => mI ((va_up (va_up (va_up (va_up (va_up (va_up (va_up (fun _ => 1) 0 0) 1 0) 2 0) 3 0) 4 0) 5 0) 6 0) j)))), (q6, .inr (0, [.ref q7, .ref q8, .int (nI 0)])), (q7, .inl (cI, 24, .inl (fun j => nI ((fun _ => 0) j)))), (q8, .inl (cI, 8, .inl (fun j => nI ((fun _ => 0) j)))), (q9, .inl (cI, 3, .inl (fun j => nI ((fun _ => 0) j))))] := hD
  refine va_putF (D := D) (ci := 3) (v := .ref q9) (ty := .array .int) (C := RX4) (T := TX4) (N := 6) hx hb hts in_X4_init_X4 tyX4 tyX4_ok nmX4 hown hK hP hD hS 0 rfl rfl 2 (by decide) (hts _ mm_X4_init_f25) (fun _ h9 => h9) rfl hin rfl (by decide +kernel) rfl rfl (Nat.le_of_ble_eq_true rfl) dX4_init_32 (fun H locs hP hD hS => ?_)
  have hP : va_P D vwCl [(h0, .inr (3, [.ref q1, .ref q6, .ref q9, .int (nI 0), .null, .null])), (q1, .inr (2, [.ref q2, .ref q3, .ref q4, .ref q5, .int (nI 7)])), (q2, .inl (cI, 24, .inl (fun j => nI ((va_up (va_up (va_up (va_up (va_up (va_up (va_up (fun _ => 0) 0 0) 1 0) 2 0) 3 1) 4 1) 5 2) 6 2) j)))), (q3, .inl (cI, 24, .inl (fun j => mI ((va_up (va_up (va_up (va_up (va_up (va_up (va_up (fun _ => 1) 0 0) 1 0) 2 0) 3 0) 4 0) 5 0) 6 0) j)))), (q4, .inl (cI, 24, .inl (fun j => mI ((va_up (va_up (va_up (va_up (va_up (va_up (va_up (fun _ => 1) 0 0) 1 0) 2 0) 3 0) 4 0) 5 0) 6 0) j)))), (q5, .inl (cI, 24, .inl (fun j => mI ((va_up (va_up (va_up (va_up (va_up (va_up (va_up (fun _ => 1) 0 0) 1 0) 2 0) 3 0) 4 0) 5 0) 6 0) j)))), (q6, .inr (0, [.ref q7, .ref q8, .int (nI 0)])), (q7, .inl (cI, 24, .inl (fun j => nI ((fun _ => 0) j)))), (q8, .inl (cI, 8, .inl (fun j => nI ((fun _ => 0) j)))), (q9, .inl (cI, 3, .inl (fun j => nI ((fun _ => 0) j))))] H := hP
  have hD : va_D A [(h0, .inr (3, [.ref q1, .ref q6, .ref q9, .int (nI 0), .null, .null])), (q1, .inr (2, [.ref q2, .ref q3, .ref q4, .ref q5, .int (nI 7)])), (q2, .inl (cI, 24, .inl (fun j => nI ((va_up (va_up (va_up (va_up (va_up (va_up (va_up (fun _ => 0) 0 0) 1 0) 2 0) 3 1) 4 1) 5 2) 6 2) j)))), (q3, .inl (cI, 24, .inl (fun j => mI ((va_up (va_up (va_up (va_up (va_up (va_up (va_up (fun _ => 1) 0 0) 1 0) 2 0) 3 0) 4 0) 5 0) 6 0) j)))), (q4, .inl (cI, 24, .inl (fun j => mI ((va_up (va_up (va_up (va_up (va_up (va_up (va_up (fun _ => 1) 0 0) 1 0) 2 0) 3 0) 4 0) 5 0) 6 0) j)))), (q5, .inl (cI, 24, .inl (fun j => mI ((va_up (va_up (va_up (va_up (va_up (va_up (va_up (fun _ => 1) 0 0) 1 0) 2 0) 3 0) 4 0) 5 0) 6 0) j)))), (q6, .inr (0, [.ref q7, .ref q8, .int (nI 0)])), (q7, .inl (cI, 24, .inl (fun j => nI ((fun _ => 0) j)))), (q8, .inl (cI, 8, .inl (fun j => nI ((fun _ => 0) j)))), (q9, .inl (cI, 3, .inl (fun j => nI ((fun _ => 0) j))))] := hD
  refine lv_aload_n hx hb dX4_init_35 rfl (lv_at hl 0 rfl) ?_
  refine lv_iconst (v := nI 0) hx hb dX4_init_36 (by decide) ?_
  refine va_put (D := D) (ci := 3) (v := .int (nI 0)) (ty := .int) (C := RX4) (T := TX4) (N := 6) hx hb hts in_X4_init_X4 tyX4 tyX4_ok nmX4 hown hK hP hD hS 0 rfl rfl 3 (by decide) (hts _ mm_X4_init_f29) (fun _ h9 => h9) rfl (by decide +kernel) rfl rfl (Nat.le_of_ble_eq_true rfl) dX4_init_37 (fun H locs hP hD hS => ?_)
  have hP : va_P D vwCl [(h0, .inr (3, [.ref q1, .ref q6, .ref q9, .int (nI 0), .null, .null])), (q1, .inr (2, [.ref q2, .ref q3, .ref q4, .ref q5, .int (nI 7)])), (q2, .inl (cI, 24, .inl (fun j => nI ((va_up (va_up (va_up (va_up (va_up (va_up (va_up (fun _ => 0) 0 0) 1 0) 2 0) 3 1) 4 1) 5 2) 6 2) j)))), (q3, .inl (cI, 24, .inl (fun j => mI ((va_up (va_up (va_up (va_up (va_up (va_up (va_up (fun _ => 1) 0 0) 1 0) 2 0) 3 0) 4 0) 5 0) 6 0) j)))), (q4, .inl (cI, 24, .inl (fun j => mI ((va_up (va_up (va_up (va_up (va_up (va_up (va_up (fun _ => 1) 0 0) 1 0) 2 0) 3 0) 4 0) 5 0) 6 0) j)))), (q5, .inl (cI, 24, .inl (fun j => mI ((va_up (va_up (va_up (va_up (va_up (va_up (va_up (fun _ => 1) 0 0) 1 0) 2 0) 3 0) 4 0) 5 0) 6 0) j)))), (q6, .inr (0, [.ref q7, .ref q8, .int (nI 0)])), (q7, .inl (cI, 24, .inl (fun j => nI ((fun _ => 0) j)))), (q8, .inl (cI, 8, .inl (fun j => nI ((fun _ => 0) j)))), (q9, .inl (cI, 3, .inl (fun j => nI ((fun _ => 0) j))))] H := hP
  have hD : va_D A [(h0, .inr (3, [.ref q1, .ref q6, .ref q9, .int (nI 0), .null, .null])), (q1, .inr (2, [.ref q2, .ref q3, .ref q4, .ref q5, .int (nI 7)])), (q2, .inl (cI, 24, .inl (fun j => nI ((va_up (va_up (va_up (va_up (va_up (va_up (va_up (fun _ => 0) 0 0) 1 0) 2 0) 3 1) 4 1) 5 2) 6 2) j)))), (q3, .inl (cI, 24, .inl (fun j => mI ((va_up (va_up (va_up (va_up (va_up (va_up (va_up (fun _ => 1) 0 0) 1 0) 2 0) 3 0) 4 0) 5 0) 6 0) j)))), (q4, .inl (cI, 24, .inl (fun j => mI ((va_up (va_up (va_up (va_up (va_up (va_up (va_up (fun _ => 1) 0 0) 1 0) 2 0) 3 0) 4 0) 5 0) 6 0) j)))), (q5, .inl (cI, 24, .inl (fun j => mI ((va_up (va_up (va_up (va_up (va_up (va_up (va_up (fun _ => 1) 0 0) 1 0) 2 0) 3 0) 4 0) 5 0) 6 0) j)))), (q6, .inr (0, [.ref q7, .ref q8, .int (nI 0)])), (q7, .inl (cI, 24, .inl (fun j => nI ((fun _ => 0) j)))), (q8, .inl (cI, 8, .inl (fun j => nI ((fun _ => 0) j)))), (q9, .inl (cI, 3, .inl (fun j => nI ((fun _ => 0) j))))] := hD
  refine lv_aload_n hx hb dX4_init_40 rfl (lv_at hl 0 rfl) ?_
  refine va_new (ci := 0) (fs := [.null, .null, .int (nI 0)]) (C := RX0) (T := TX0) (N := 3) hx hb hts in_X4_init_X0 tyX0 tyX0_ok hown (hts _ mm_X4_init_c16) (hts _ mm_X4_init_nX0) (hts _ mm_X4_init_iX0) hK hP hD hS hA rfl (fun j hj => by rcases (show j = 0 ∨ j = 1 ∨ j = 2 by omega) with rfl | rfl | rfl <;> rfl) (Nat.le_of_ble_eq_true rfl) (Nat.le_of_ble_eq_true rfl) dX4_init_41 (fun q10 H hP hD hS => ?_)
  have hP : va_P D vwCl [(h0, .inr (3, [.ref q1, .ref q6, .ref q9, .int (nI 0), .null, .null])), (q1, .inr (2, [.ref q2, .ref q3, .ref q4, .ref q5, .int (nI 7)])), (q2, .inl (cI, 24, .inl (fun j => nI ((va_up (va_up (va_up (va_up (va_up (va_up (va_up (fun _ => 0) 0 0) 1 0) 2 0) 3 1) 4 1) 5 2) 6 2) j)))), (q3, .inl (cI, 24, .inl (fun j => mI ((va_up (va_up (va_up (va_up (va_up (va_up (va_up (fun _ => 1) 0 0) 1 0) 2 0) 3 0) 4 0) 5 0) 6 0) j)))), (q4, .inl (cI, 24, .inl (fun j => mI ((va_up (va_up (va_up (va_up (va_up (va_up (va_up (fun _ => 1) 0 0) 1 0) 2 0) 3 0) 4 0) 5 0) 6 0) j)))), (q5, .inl (cI, 24, .inl (fun j => mI ((va_up (va_up (va_up (va_up (va_up (va_up (va_up (fun _ => 1) 0 0) 1 0) 2 0) 3 0) 4 0) 5 0) 6 0) j)))), (q6, .inr (0, [.ref q7, .ref q8, .int (nI 0)])), (q7, .inl (cI, 24, .inl (fun j => nI ((fun _ => 0) j)))), (q8, .inl (cI, 8, .inl (fun j => nI ((fun _ => 0) j)))), (q9, .inl (cI, 3, .inl (fun j => nI ((fun _ => 0) j)))), (q10, .inr (0, [.null, .null, .int (nI 0)]))] H := hP
  have hD : va_D A [(h0, .inr (3, [.ref q1, .ref q6, .ref q9, .int (nI 0), .null, .null])), (q1, .inr (2, [.ref q2, .ref q3, .ref q4, .ref q5, .int (nI 7)])), (q2, .inl (cI, 24, .inl (fun j => nI ((va_up (va_up (va_up (va_up (va_up (va_up (va_up (fun _ => 0) 0 0) 1 0) 2 0) 3 1) 4 1) 5 2) 6 2) j)))), (q3, .inl (cI, 24, .inl (fun j => mI ((va_up (va_up (va_up (va_up (va_up (va_up (va_up (fun _ => 1) 0 0) 1 0) 2 0) 3 0) 4 0) 5 0) 6 0) j)))), (q4, .inl (cI, 24, .inl (fun j => mI ((va_up (va_up (va_up (va_up (va_up (va_up (va_up (fun _ => 1) 0 0) 1 0) 2 0) 3 0) 4 0) 5 0) 6 0) j)))), (q5, .inl (cI, 24, .inl (fun j => mI ((va_up (va_up (va_up (va_up (va_up (va_up (va_up (fun _ => 1) 0 0) 1 0) 2 0) 3 0) 4 0) 5 0) 6 0) j)))), (q6, .inr (0, [.ref q7, .ref q8, .int (nI 0)])), (q7, .inl (cI, 24, .inl (fun j => nI ((fun _ => 0) j)))), (q8, .inl (cI, 8, .inl (fun j => nI ((fun _ => 0) j)))), (q9, .inl (cI, 3, .inl (fun j => nI ((fun _ => 0) j)))), (q10, .inr (0, [.null, .null, .int (nI 0)]))] := hD
  refine lv_dup hx hb dX4_init_44 rfl ?_
  refine lv_bipush (v := nI 11) hx hb dX4_init_45 (by decide) ?_
  have hPc := hP.sub (ws' := [(q10, .inr (0, [.null, .null, .int (nI 0)]))]) [10] rfl
  have hDc := hD.sub (ws' := [(q10, .inr (0, [.null, .null, .int (nI 0)]))]) [10] (by decide) rfl
  have hFc := va_free (wc := [(q10, .inr (0, [.null, .null, .int (nI 0)]))]) hD hS hA [10] rfl
  refine va_callv (va_runI (As := [.int (nI 11)]) (rest := [.ref q10, .ref h0]) ⟨hx, hb, hml, hown, hts⟩ (c_X0_init_asked l D cI q10 H.size) (cwI 1 hts gX4_init_X0_init rfl rfl rfl (hts _ mm_X4_init_iX0) (hts _ mm_X4_init_m18) (hts _ mm_X4_init_zX0) rfl (by decide +kernel) ⟨Nat.le_of_ble_eq_true rfl, Nat.le_of_ble_eq_true rfl⟩) ⟨fun a U g mk q => by obtain ⟨q0, q1, qP, qK, qD⟩ := q; exact ⟨q0, q1, qP, va_K.moved (u := U) (U := U.calling g mk a) (Vm.Alike.refl U.vm) qK, qD⟩, fun U hU hW => ⟨rfl, by rw [hU], by rw [hU]; exact hPc, va_K.moved hW.alike hK, hDc.weaken (fun _ _ _ _ => trivial)⟩⟩ rfl rfl hl.1 rfl (lv_room (Nat.le_of_ble_eq_true rfl)) dX4_init_47 ⟨Nat.le_of_ble_eq_true rfl, Nat.le_of_ble_eq_true rfl⟩) hS (fun q _ h => hFc q h) hFc (fun u t H1 locs ht hvm hw hB hz1 hk1 hS => ?_)
  obtain ⟨q11, q12⟩ := u
  obtain ⟨hP1, hD1⟩ := hB
  rw [ht] at hP1
  obtain ⟨hP, hD⟩ := va_join (wr := [(h0, .inr (3, [.ref q1, .ref q6, .ref q9, .int (nI 0), .null, .null])), (q1, .inr (2, [.ref q2, .ref q3, .ref q4, .ref q5, .int (nI 7)])), (q2, .inl (cI, 24, .inl (fun j => nI ((va_up (va_up (va_up (va_up (va_up (va_up (va_up (fun _ => 0) 0 0) 1 0) 2 0) 3 1) 4 1) 5 2) 6 2) j)))), (q3, .inl (cI, 24, .inl (fun j => mI ((va_up (va_up (va_up (va_up (va_up (va_up (va_up (fun _ => 1) 0 0) 1 0) 2 0) 3 0) 4 0) 5 0) 6 0) j)))), (q4, .inl (cI, 24, .inl (fun j => mI ((va_up (va_up (va_up (va_up (va_up (va_up (va_up (fun _ => 1) 0 0) 1 0) 2 0) 3 0) 4 0) 5 0) 6 0) j)))), (q5, .inl (cI, 24, .inl (fun j => mI ((va_up (va_up (va_up (va_up (va_up (va_up (va_up (fun _ => 1) 0 0) 1 0) 2 0) 3 0) 4 0) 5 0) 6 0) j)))), (q6, .inr (0, [.ref q7, .ref q8, .int (nI 0)])), (q7, .inl (cI, 24, .inl (fun j => nI ((fun _ => 0) j)))), (q8, .inl (cI, 8, .inl (fun j => nI ((fun _ => 0) j)))), (q9, .inl (cI, 3, .inl (fun j => nI ((fun _ => 0) j))))]) (w1 := [(q10, .inr (0, [.ref q11, .ref q12, .int (nI 0)])), (q11, .inl (cI, 33, .inl (fun j => nI ((fun _ => 0) j)))), (q12, .inl (cI, 11, .inl (fun j => nI ((fun _ => 0) j))))]) hP hD [10] [0, 1, 2, 3, 4, 5, 6, 7, 8, 9] rfl rfl (by decide) (by decide) hk1 hFc hP1 hD1
  generalize H1 = H at hP hS ⊢
  have hP : va_P D vwCl [(h0, .inr (3, [.ref q1, .ref q6, .ref q9, .int (nI 0), .null, .null])), (q1, .inr (2, [.ref q2, .ref q3, .ref q4, .ref q5, .int (nI 7)])), (q2, .inl (cI, 24, .inl (fun j => nI ((va_up (va_up (va_up (va_up (va_up (va_up (va_up (fun _ => 0) 0 0) 1 0) 2 0) 3 1) 4 1) 5 2) 6 2) j)))), (q3, .inl (cI, 24, .inl (fun j => mI ((va_up (va_up (va_up (va_up (va_up (va_up (va_up (fun _ => 1) 0 0) 1 0) 2 0) 3 0) 4 0) 5 0) 6 0) j)))), (q4, .inl (cI, 24, .inl (fun j => mI ((va_up (va_up (va_up (va_up (va_up (va_up (va_up (fun _ => 1) 0 0) 1 0) 2 0) 3 0) 4 0) 5 0) 6 0) j)))), (q5, .inl (cI, 24, .inl (fun j => mI ((va_up (va_up (va_up (va_up (va_up (va_up (va_up (fun _ => 1) 0 0) 1 0) 2 0) 3 0) 4 0) 5 0) 6 0) j)))), (q6, .inr (0, [.ref q7, .ref q8, .int (nI 0)])), (q7, .inl (cI, 24, .inl (fun j => nI ((fun _ => 0) j)))), (q8, .inl (cI, 8, .inl (fun j => nI ((fun _ => 0) j)))), (q9, .inl (cI, 3, .inl (fun j => nI ((fun _ => 0) j)))), (q10, .inr (0, [.ref q11, .ref q12, .int (nI 0)])), (q11, .inl (cI, 33, .inl (fun j => nI ((fun _ => 0) j)))), (q12, .inl (cI, 11, .inl (fun j => nI ((fun _ => 0) j))))] H := hP
  have hD : va_D A [(h0, .inr (3, [.ref q1, .ref q6, .ref q9, .int (nI 0), .null, .null])), (q1, .inr (2, [.ref q2, .ref q3, .ref q4, .ref q5, .int (nI 7)])), (q2, .inl (cI, 24, .inl (fun j => nI ((va_up (va_up (va_up (va_up (va_up (va_up (va_up (fun _ => 0) 0 0) 1 0) 2 0) 3 1) 4 1) 5 2) 6 2) j)))), (q3, .inl (cI, 24, .inl (fun j => mI ((va_up (va_up (va_up (va_up (va_up (va_up (va_up (fun _ => 1) 0 0) 1 0) 2 0) 3 0) 4 0) 5 0) 6 0) j)))), (q4, .inl (cI, 24, .inl (fun j => mI ((va_up (va_up (va_up (va_up (va_up (va_up (va_up (fun _ => 1) 0 0) 1 0) 2 0) 3 0) 4 0) 5 0) 6 0) j)))), (q5, .inl (cI, 24, .inl (fun j => mI ((va_up (va_up (va_up (va_up (va_up (va_up (va_up (fun _ => 1) 0 0) 1 0) 2 0) 3 0) 4 0) 5 0) 6 0) j)))), (q6, .inr (0, [.ref q7, .ref q8, .int (nI 0)])), (q7, .inl (cI, 24, .inl (fun j => nI ((fun _ => 0) j)))), (q8, .inl (cI, 8, .inl (fun j => nI ((fun _ => 0) j)))), (q9, .inl (cI, 3, .inl (fun j => nI ((fun _ => 0) j)))), (q10, .inr (0, [.ref q11, .ref q12, .int (nI 0)])), (q11, .inl (cI, 33, .inl (fun j => nI ((fun _ => 0) j)))), (q12, .inl (cI, 11, .inl (fun j => nI ((fun _ => 0) j))))] := hD
  refine va_putF (D := D) (ci := 3) (v := .ref q10) (ty := .object "ArrayClaims$ClaimList") (C := RX4) (T := TX4) (N := 6) hx hb hts in_X4_init_X4 tyX4 tyX4_ok nmX4 hown hK hP hD hS 0 rfl rfl 4 (by decide) (hts _ mm_X4_init_f33) (fun _ h9 => h9) rfl hin rfl (by decide +kernel) rfl rfl (Nat.le_of_ble_eq_true rfl) dX4_init_50 (fun H locs hP hD hS => ?_)
  have hP : va_P D vwCl [(h0, .inr (3, [.ref q1, .ref q6, .ref q9, .int (nI 0), .ref q10, .null])), (q1, .inr (2, [.ref q2, .ref q3, .ref q4, .ref q5, .int (nI 7)])), (q2, .inl (cI, 24, .inl (fun j => nI ((va_up (va_up (va_up (va_up (va_up (va_up (va_up (fun _ => 0) 0 0) 1 0) 2 0) 3 1) 4 1) 5 2) 6 2) j)))), (q3, .inl (cI, 24, .inl (fun j => mI ((va_up (va_up (va_up (va_up (va_up (va_up (va_up (fun _ => 1) 0 0) 1 0) 2 0) 3 0) 4 0) 5 0) 6 0) j)))), (q4, .inl (cI, 24, .inl (fun j => mI ((va_up (va_up (va_up (va_up (va_up (va_up (va_up (fun _ => 1) 0 0) 1 0) 2 0) 3 0) 4 0) 5 0) 6 0) j)))), (q5, .inl (cI, 24, .inl (fun j => mI ((va_up (va_up (va_up (va_up (va_up (va_up (va_up (fun _ => 1) 0 0) 1 0) 2 0) 3 0) 4 0) 5 0) 6 0) j)))), (q6, .inr (0, [.ref q7, .ref q8, .int (nI 0)])), (q7, .inl (cI, 24, .inl (fun j => nI ((fun _ => 0) j)))), (q8, .inl (cI, 8, .inl (fun j => nI ((fun _ => 0) j)))), (q9, .inl (cI, 3, .inl (fun j => nI ((fun _ => 0) j)))), (q10, .inr (0, [.ref q11, .ref q12, .int (nI 0)])), (q11, .inl (cI, 33, .inl (fun j => nI ((fun _ => 0) j)))), (q12, .inl (cI, 11, .inl (fun j => nI ((fun _ => 0) j))))] H := hP
  have hD : va_D A [(h0, .inr (3, [.ref q1, .ref q6, .ref q9, .int (nI 0), .ref q10, .null])), (q1, .inr (2, [.ref q2, .ref q3, .ref q4, .ref q5, .int (nI 7)])), (q2, .inl (cI, 24, .inl (fun j => nI ((va_up (va_up (va_up (va_up (va_up (va_up (va_up (fun _ => 0) 0 0) 1 0) 2 0) 3 1) 4 1) 5 2) 6 2) j)))), (q3, .inl (cI, 24, .inl (fun j => mI ((va_up (va_up (va_up (va_up (va_up (va_up (va_up (fun _ => 1) 0 0) 1 0) 2 0) 3 0) 4 0) 5 0) 6 0) j)))), (q4, .inl (cI, 24, .inl (fun j => mI ((va_up (va_up (va_up (va_up (va_up (va_up (va_up (fun _ => 1) 0 0) 1 0) 2 0) 3 0) 4 0) 5 0) 6 0) j)))), (q5, .inl (cI, 24, .inl (fun j => mI ((va_up (va_up (va_up (va_up (va_up (va_up (va_up (fun _ => 1) 0 0) 1 0) 2 0) 3 0) 4 0) 5 0) 6 0) j)))), (q6, .inr (0, [.ref q7, .ref q8, .int (nI 0)])), (q7, .inl (cI, 24, .inl (fun j => nI ((fun _ => 0) j)))), (q8, .inl (cI, 8, .inl (fun j => nI ((fun _ => 0) j)))), (q9, .inl (cI, 3, .inl (fun j => nI ((fun _ => 0) j)))), (q10, .inr (0, [.ref q11, .ref q12, .int (nI 0)])), (q11, .inl (cI, 33, .inl (fun j => nI ((fun _ => 0) j)))), (q12, .inl (cI, 11, .inl (fun j => nI ((fun _ => 0) j))))] := hD
  refine lv_aload_n hx hb dX4_init_53 rfl (lv_at hl 0 rfl) ?_
  refine va_new (ci := 1) (fs := [.null, .null]) (C := RX2) (T := TX2) (N := 2) hx hb hts in_X4_init_X2 tyX2 tyX2_ok hown (hts _ mm_X4_init_c36) (hts _ mm_X4_init_nX2) (hts _ mm_X4_init_iX2) hK hP hD hS hA rfl (fun j hj => by rcases (show j = 0 ∨ j = 1 by omega) with rfl | rfl <;> rfl) (Nat.le_of_ble_eq_true rfl) (Nat.le_of_ble_eq_true rfl) dX4_init_54 (fun q13 H hP hD hS => ?_)
  have hP : va_P D vwCl [(h0, .inr (3, [.ref q1, .ref q6, .ref q9, .int (nI 0), .ref q10, .null])), (q1, .inr (2, [.ref q2, .ref q3, .ref q4, .ref q5, .int (nI 7)])), (q2, .inl (cI, 24, .inl (fun j => nI ((va_up (va_up (va_up (va_up (va_up (va_up (va_up (fun _ => 0) 0 0) 1 0) 2 0) 3 1) 4 1) 5 2) 6 2) j)))), (q3, .inl (cI, 24, .inl (fun j => mI ((va_up (va_up (va_up (va_up (va_up (va_up (va_up (fun _ => 1) 0 0) 1 0) 2 0) 3 0) 4 0) 5 0) 6 0) j)))), (q4, .inl (cI, 24, .inl (fun j => mI ((va_up (va_up (va_up (va_up (va_up (va_up (va_up (fun _ => 1) 0 0) 1 0) 2 0) 3 0) 4 0) 5 0) 6 0) j)))), (q5, .inl (cI, 24, .inl (fun j => mI ((va_up (va_up (va_up (va_up (va_up (va_up (va_up (fun _ => 1) 0 0) 1 0) 2 0) 3 0) 4 0) 5 0) 6 0) j)))), (q6, .inr (0, [.ref q7, .ref q8, .int (nI 0)])), (q7, .inl (cI, 24, .inl (fun j => nI ((fun _ => 0) j)))), (q8, .inl (cI, 8, .inl (fun j => nI ((fun _ => 0) j)))), (q9, .inl (cI, 3, .inl (fun j => nI ((fun _ => 0) j)))), (q10, .inr (0, [.ref q11, .ref q12, .int (nI 0)])), (q11, .inl (cI, 33, .inl (fun j => nI ((fun _ => 0) j)))), (q12, .inl (cI, 11, .inl (fun j => nI ((fun _ => 0) j)))), (q13, .inr (1, [.null, .null]))] H := hP
  have hD : va_D A [(h0, .inr (3, [.ref q1, .ref q6, .ref q9, .int (nI 0), .ref q10, .null])), (q1, .inr (2, [.ref q2, .ref q3, .ref q4, .ref q5, .int (nI 7)])), (q2, .inl (cI, 24, .inl (fun j => nI ((va_up (va_up (va_up (va_up (va_up (va_up (va_up (fun _ => 0) 0 0) 1 0) 2 0) 3 1) 4 1) 5 2) 6 2) j)))), (q3, .inl (cI, 24, .inl (fun j => mI ((va_up (va_up (va_up (va_up (va_up (va_up (va_up (fun _ => 1) 0 0) 1 0) 2 0) 3 0) 4 0) 5 0) 6 0) j)))), (q4, .inl (cI, 24, .inl (fun j => mI ((va_up (va_up (va_up (va_up (va_up (va_up (va_up (fun _ => 1) 0 0) 1 0) 2 0) 3 0) 4 0) 5 0) 6 0) j)))), (q5, .inl (cI, 24, .inl (fun j => mI ((va_up (va_up (va_up (va_up (va_up (va_up (va_up (fun _ => 1) 0 0) 1 0) 2 0) 3 0) 4 0) 5 0) 6 0) j)))), (q6, .inr (0, [.ref q7, .ref q8, .int (nI 0)])), (q7, .inl (cI, 24, .inl (fun j => nI ((fun _ => 0) j)))), (q8, .inl (cI, 8, .inl (fun j => nI ((fun _ => 0) j)))), (q9, .inl (cI, 3, .inl (fun j => nI ((fun _ => 0) j)))), (q10, .inr (0, [.ref q11, .ref q12, .int (nI 0)])), (q11, .inl (cI, 33, .inl (fun j => nI ((fun _ => 0) j)))), (q12, .inl (cI, 11, .inl (fun j => nI ((fun _ => 0) j)))), (q13, .inr (1, [.null, .null]))] := hD
  refine lv_dup hx hb dX4_init_57 rfl ?_
  have hPc := hP.sub (ws' := [(q13, .inr (1, [.null, .null]))]) [13] rfl
  have hDc := hD.sub (ws' := [(q13, .inr (1, [.null, .null]))]) [13] (by decide) rfl
  have hFc := va_free (wc := [(q13, .inr (1, [.null, .null]))]) hD hS hA [13] rfl
  refine va_callv (va_runIN (As := []) (rest := [.ref q13, .ref h0]) ⟨hx, hb, hml, hown, hts⟩ (c_X2_init l D cI q13 H.size) (⟨va_cnB (host := "ArrayClaims") 0 hts gX4_init_X2_init_n38 rfl rfl rfl hNm (hts _ mm_X4_init_iX2) (by decide +kernel) ⟨Nat.le_of_ble_eq_true rfl, Nat.le_of_ble_eq_true rfl⟩, rfl, hts _ mm_X4_init_zX2⟩) ⟨fun a U g mk q => by obtain ⟨q0, q1, qP, qK, qD⟩ := q; exact ⟨q0, q1, qP, va_K.moved (u := U) (U := U.calling g mk a) (Vm.Alike.refl U.vm) qK, qD⟩, fun U hU hW => ⟨rfl, by rw [hU], by rw [hU]; exact hPc, va_K.moved hW.alike hK, hDc.weaken (fun _ _ _ _ => trivial)⟩⟩ rfl rfl hl.1 rfl (lv_room (Nat.le_of_ble_eq_true rfl)) dX4_init_58 ⟨Nat.le_of_ble_eq_true rfl, Nat.le_of_ble_eq_true rfl⟩) hS (fun q _ h => hFc q h) hFc (fun u t H1 locs ht hvm hw hB hz1 hk1 hS => ?_)
  obtain ⟨q14, q15⟩ := u
  obtain ⟨hP1, hD1⟩ := hB
  rw [ht] at hP1
  obtain ⟨hP, hD⟩ := va_join (wr := [(h0, .inr (3, [.ref q1, .ref q6, .ref q9, .int (nI 0), .ref q10, .null])), (q1, .inr (2, [.ref q2, .ref q3, .ref q4, .ref q5, .int (nI 7)])), (q2, .inl (cI, 24, .inl (fun j => nI ((va_up (va_up (va_up (va_up (va_up (va_up (va_up (fun _ => 0) 0 0) 1 0) 2 0) 3 1) 4 1) 5 2) 6 2) j)))), (q3, .inl (cI, 24, .inl (fun j => mI ((va_up (va_up (va_up (va_up (va_up (va_up (va_up (fun _ => 1) 0 0) 1 0) 2 0) 3 0) 4 0) 5 0) 6 0) j)))), (q4, .inl (cI, 24, .inl (fun j => mI ((va_up (va_up (va_up (va_up (va_up (va_up (va_up (fun _ => 1) 0 0) 1 0) 2 0) 3 0) 4 0) 5 0) 6 0) j)))), (q5, .inl (cI, 24, .inl (fun j => mI ((va_up (va_up (va_up (va_up (va_up (va_up (va_up (fun _ => 1) 0 0) 1 0) 2 0) 3 0) 4 0) 5 0) 6 0) j)))), (q6, .inr (0, [.ref q7, .ref q8, .int (nI 0)])), (q7, .inl (cI, 24, .inl (fun j => nI ((fun _ => 0) j)))), (q8, .inl (cI, 8, .inl (fun j => nI ((fun _ => 0) j)))), (q9, .inl (cI, 3, .inl (fun j => nI ((fun _ => 0) j)))), (q10, .inr (0, [.ref q11, .ref q12, .int (nI 0)])), (q11, .inl (cI, 33, .inl (fun j => nI ((fun _ => 0) j)))), (q12, .inl (cI, 11, .inl (fun j => nI ((fun _ => 0) j))))]) (w1 := [(q13, .inr (1, [.ref q14, .ref q15])), (q14, .inl (cI, 96, .inl (fun j => nI ((fun _ => 0) j)))), (q15, .inl (cI, 10, .inl (fun j => nI ((fun _ => 0) j))))]) hP hD [13] [0, 1, 2, 3, 4, 5, 6, 7, 8, 9, 10, 11, 12] rfl rfl (by decide) (by decide) hk1 hFc hP1 hD1
  generalize H1 = H at hP hS ⊢
  have hP : va_P D vwCl [(h0, .inr (3, [.ref q1, .ref q6, .ref q9, .int (nI 0), .ref q10, .null])), (q1, .inr (2, [.ref q2, .ref q3, .ref q4, .ref q5, .int (nI 7)])), (q2, .inl (cI, 24, .inl (fun j => nI ((va_up (va_up (va_up (va_up (va_up (va_up (va_up (fun _ => 0) 0 0) 1 0) 2 0) 3 1) 4 1) 5 2) 6 2) j)))), (q3, .inl (cI, 24, .inl (fun j => mI ((va_up (va_up (va_up (va_up (va_up (va_up (va_up (fun _ => 1) 0 0) 1 0) 2 0) 3 0) 4 0) 5 0) 6 0) j)))), (q4, .inl (cI, 24, .inl (fun j => mI ((va_up (va_up (va_up (va_up (va_up (va_up (va_up (fun _ => 1) 0 0) 1 0) 2 0) 3 0) 4 0) 5 0) 6 0) j)))), (q5, .inl (cI, 24, .inl (fun j => mI ((va_up (va_up (va_up (va_up (va_up (va_up (va_up (fun _ => 1) 0 0) 1 0) 2 0) 3 0) 4 0) 5 0) 6 0) j)))), (q6, .inr (0, [.ref q7, .ref q8, .int (nI 0)])), (q7, .inl (cI, 24, .inl (fun j => nI ((fun _ => 0) j)))), (q8, .inl (cI, 8, .inl (fun j => nI ((fun _ => 0) j)))), (q9, .inl (cI, 3, .inl (fun j => nI ((fun _ => 0) j)))), (q10, .inr (0, [.ref q11, .ref q12, .int (nI 0)])), (q11, .inl (cI, 33, .inl (fun j => nI ((fun _ => 0) j)))), (q12, .inl (cI, 11, .inl (fun j => nI ((fun _ => 0) j)))), (q13, .inr (1, [.ref q14, .ref q15])), (q14, .inl (cI, 96, .inl (fun j => nI ((fun _ => 0) j)))), (q15, .inl (cI, 10, .inl (fun j => nI ((fun _ => 0) j))))] H := hP
  have hD : va_D A [(h0, .inr (3, [.ref q1, .ref q6, .ref q9, .int (nI 0), .ref q10, .null])), (q1, .inr (2, [.ref q2, .ref q3, .ref q4, .ref q5, .int (nI 7)])), (q2, .inl (cI, 24, .inl (fun j => nI ((va_up (va_up (va_up (va_up (va_up (va_up (va_up (fun _ => 0) 0 0) 1 0) 2 0) 3 1) 4 1) 5 2) 6 2) j)))), (q3, .inl (cI, 24, .inl (fun j => mI ((va_up (va_up (va_up (va_up (va_up (va_up (va_up (fun _ => 1) 0 0) 1 0) 2 0) 3 0) 4 0) 5 0) 6 0) j)))), (q4, .inl (cI, 24, .inl (fun j => mI ((va_up (va_up (va_up (va_up (va_up (va_up (va_up (fun _ => 1) 0 0) 1 0) 2 0) 3 0) 4 0) 5 0) 6 0) j)))), (q5, .inl (cI, 24, .inl (fun j => mI ((va_up (va_up (va_up (va_up (va_up (va_up (va_up (fun _ => 1) 0 0) 1 0) 2 0) 3 0) 4 0) 5 0) 6 0) j)))), (q6, .inr (0, [.ref q7, .ref q8, .int (nI 0)])), (q7, .inl (cI, 24, .inl (fun j => nI ((fun _ => 0) j)))), (q8, .inl (cI, 8, .inl (fun j => nI ((fun _ => 0) j)))), (q9, .inl (cI, 3, .inl (fun j => nI ((fun _ => 0) j)))), (q10, .inr (0, [.ref q11, .ref q12, .int (nI 0)])), (q11, .inl (cI, 33, .inl (fun j => nI ((fun _ => 0) j)))), (q12, .inl (cI, 11, .inl (fun j => nI ((fun _ => 0) j)))), (q13, .inr (1, [.ref q14, .ref q15])), (q14, .inl (cI, 96, .inl (fun j => nI ((fun _ => 0) j)))), (q15, .inl (cI, 10, .inl (fun j => nI ((fun _ => 0) j))))] := hD
  refine va_putF (D := D) (ci := 3) (v := .ref q13) (ty := .object "ArrayClaims$ReadingSearch") (C := RX4) (T := TX4) (N := 6) hx hb hts in_X4_init_X4 tyX4 tyX4_ok nmX4 hown hK hP hD hS 0 rfl rfl 5 (by decide) (hts _ mm_X4_init_f39) (fun _ h9 => h9) rfl hin rfl (by decide +kernel) rfl rfl (Nat.le_of_ble_eq_true rfl) dX4_init_61 (fun H locs hP hD hS => ?_)
  have hP : va_P D vwCl [(h0, .inr (3, [.ref q1, .ref q6, .ref q9, .int (nI 0), .ref q10, .ref q13])), (q1, .inr (2, [.ref q2, .ref q3, .ref q4, .ref q5, .int (nI 7)])), (q2, .inl (cI, 24, .inl (fun j => nI ((va_up (va_up (va_up (va_up (va_up (va_up (va_up (fun _ => 0) 0 0) 1 0) 2 0) 3 1) 4 1) 5 2) 6 2) j)))), (q3, .inl (cI, 24, .inl (fun j => mI ((va_up (va_up (va_up (va_up (va_up (va_up (va_up (fun _ => 1) 0 0) 1 0) 2 0) 3 0) 4 0) 5 0) 6 0) j)))), (q4, .inl (cI, 24, .inl (fun j => mI ((va_up (va_up (va_up (va_up (va_up (va_up (va_up (fun _ => 1) 0 0) 1 0) 2 0) 3 0) 4 0) 5 0) 6 0) j)))), (q5, .inl (cI, 24, .inl (fun j => mI ((va_up (va_up (va_up (va_up (va_up (va_up (va_up (fun _ => 1) 0 0) 1 0) 2 0) 3 0) 4 0) 5 0) 6 0) j)))), (q6, .inr (0, [.ref q7, .ref q8, .int (nI 0)])), (q7, .inl (cI, 24, .inl (fun j => nI ((fun _ => 0) j)))), (q8, .inl (cI, 8, .inl (fun j => nI ((fun _ => 0) j)))), (q9, .inl (cI, 3, .inl (fun j => nI ((fun _ => 0) j)))), (q10, .inr (0, [.ref q11, .ref q12, .int (nI 0)])), (q11, .inl (cI, 33, .inl (fun j => nI ((fun _ => 0) j)))), (q12, .inl (cI, 11, .inl (fun j => nI ((fun _ => 0) j)))), (q13, .inr (1, [.ref q14, .ref q15])), (q14, .inl (cI, 96, .inl (fun j => nI ((fun _ => 0) j)))), (q15, .inl (cI, 10, .inl (fun j => nI ((fun _ => 0) j))))] H := hP
  have hD : va_D A [(h0, .inr (3, [.ref q1, .ref q6, .ref q9, .int (nI 0), .ref q10, .ref q13])), (q1, .inr (2, [.ref q2, .ref q3, .ref q4, .ref q5, .int (nI 7)])), (q2, .inl (cI, 24, .inl (fun j => nI ((va_up (va_up (va_up (va_up (va_up (va_up (va_up (fun _ => 0) 0 0) 1 0) 2 0) 3 1) 4 1) 5 2) 6 2) j)))), (q3, .inl (cI, 24, .inl (fun j => mI ((va_up (va_up (va_up (va_up (va_up (va_up (va_up (fun _ => 1) 0 0) 1 0) 2 0) 3 0) 4 0) 5 0) 6 0) j)))), (q4, .inl (cI, 24, .inl (fun j => mI ((va_up (va_up (va_up (va_up (va_up (va_up (va_up (fun _ => 1) 0 0) 1 0) 2 0) 3 0) 4 0) 5 0) 6 0) j)))), (q5, .inl (cI, 24, .inl (fun j => mI ((va_up (va_up (va_up (va_up (va_up (va_up (va_up (fun _ => 1) 0 0) 1 0) 2 0) 3 0) 4 0) 5 0) 6 0) j)))), (q6, .inr (0, [.ref q7, .ref q8, .int (nI 0)])), (q7, .inl (cI, 24, .inl (fun j => nI ((fun _ => 0) j)))), (q8, .inl (cI, 8, .inl (fun j => nI ((fun _ => 0) j)))), (q9, .inl (cI, 3, .inl (fun j => nI ((fun _ => 0) j)))), (q10, .inr (0, [.ref q11, .ref q12, .int (nI 0)])), (q11, .inl (cI, 33, .inl (fun j => nI ((fun _ => 0) j)))), (q12, .inl (cI, 11, .inl (fun j => nI ((fun _ => 0) j)))), (q13, .inr (1, [.ref q14, .ref q15])), (q14, .inl (cI, 96, .inl (fun j => nI ((fun _ => 0) j)))), (q15, .inl (cI, 10, .inl (fun j => nI ((fun _ => 0) j))))] := hD
  have hP := hP.sub (ws' := [(h0, .inr (3, [.ref q1, .ref q6, .ref q9, .int (nI 0), .ref q10, .ref q13])), (q1, .inr (2, [.ref q2, .ref q3, .ref q4, .ref q5, .int (nI 7)])), (q6, .inr (0, [.ref q7, .ref q8, .int (nI 0)])), (q9, .inl (cI, 3, .inl (fun j => nI ((fun _ => 0) j)))), (q10, .inr (0, [.ref q11, .ref q12, .int (nI 0)])), (q13, .inr (1, [.ref q14, .ref q15])), (q2, .inl (cI, 24, .inl (fun j => nI ((va_up (va_up (va_up (va_up (va_up (va_up (va_up (fun _ => 0) 0 0) 1 0) 2 0) 3 1) 4 1) 5 2) 6 2) j)))), (q3, .inl (cI, 24, .inl (fun j => mI ((va_up (va_up (va_up (va_up (va_up (va_up (va_up (fun _ => 1) 0 0) 1 0) 2 0) 3 0) 4 0) 5 0) 6 0) j)))), (q4, .inl (cI, 24, .inl (fun j => mI ((va_up (va_up (va_up (va_up (va_up (va_up (va_up (fun _ => 1) 0 0) 1 0) 2 0) 3 0) 4 0) 5 0) 6 0) j)))), (q5, .inl (cI, 24, .inl (fun j => mI ((va_up (va_up (va_up (va_up (va_up (va_up (va_up (fun _ => 1) 0 0) 1 0) 2 0) 3 0) 4 0) 5 0) 6 0) j)))), (q7, .inl (cI, 24, .inl (fun j => nI ((fun _ => 0) j)))), (q8, .inl (cI, 8, .inl (fun j => nI ((fun _ => 0) j)))), (q11, .inl (cI, 33, .inl (fun j => nI ((fun _ => 0) j)))), (q12, .inl (cI, 11, .inl (fun j => nI ((fun _ => 0) j)))), (q14, .inl (cI, 96, .inl (fun j => nI ((fun _ => 0) j)))), (q15, .inl (cI, 10, .inl (fun j => nI ((fun _ => 0) j))))]) [0, 1, 6, 9, 10, 13, 2, 3, 4, 5, 7, 8, 11, 12, 14, 15] rfl
  have hD := hD.sub (ws' := [(h0, .inr (3, [.ref q1, .ref q6, .ref q9, .int (nI 0), .ref q10, .ref q13])), (q1, .inr (2, [.ref q2, .ref q3, .ref q4, .ref q5, .int (nI 7)])), (q6, .inr (0, [.ref q7, .ref q8, .int (nI 0)])), (q9, .inl (cI, 3, .inl (fun j => nI ((fun _ => 0) j)))), (q10, .inr (0, [.ref q11, .ref q12, .int (nI 0)])), (q13, .inr (1, [.ref q14, .ref q15])), (q2, .inl (cI, 24, .inl (fun j => nI ((va_up (va_up (va_up (va_up (va_up (va_up (va_up (fun _ => 0) 0 0) 1 0) 2 0) 3 1) 4 1) 5 2) 6 2) j)))), (q3, .inl (cI, 24, .inl (fun j => mI ((va_up (va_up (va_up (va_up (va_up (va_up (va_up (fun _ => 1) 0 0) 1 0) 2 0) 3 0) 4 0) 5 0) 6 0) j)))), (q4, .inl (cI, 24, .inl (fun j => mI ((va_up (va_up (va_up (va_up (va_up (va_up (va_up (fun _ => 1) 0 0) 1 0) 2 0) 3 0) 4 0) 5 0) 6 0) j)))), (q5, .inl (cI, 24, .inl (fun j => mI ((va_up (va_up (va_up (va_up (va_up (va_up (va_up (fun _ => 1) 0 0) 1 0) 2 0) 3 0) 4 0) 5 0) 6 0) j)))), (q7, .inl (cI, 24, .inl (fun j => nI ((fun _ => 0) j)))), (q8, .inl (cI, 8, .inl (fun j => nI ((fun _ => 0) j)))), (q11, .inl (cI, 33, .inl (fun j => nI ((fun _ => 0) j)))), (q12, .inl (cI, 11, .inl (fun j => nI ((fun _ => 0) j)))), (q14, .inl (cI, 96, .inl (fun j => nI ((fun _ => 0) j)))), (q15, .inl (cI, 10, .inl (fun j => nI ((fun _ => 0) j))))]) [0, 1, 6, 9, 10, 13, 2, 3, 4, 5, 7, 8, 11, 12, 14, 15] (by decide) rfl
  have hP : va_P D vwCl [(h0, .inr (3, [.ref q1, .ref q6, .ref q9, .int (nI 0), .ref q10, .ref q13])), (q1, .inr (2, [.ref q2, .ref q3, .ref q4, .ref q5, .int (nI 7)])), (q6, .inr (0, [.ref q7, .ref q8, .int (nI 0)])), (q9, .inl (cI, 3, .inl (fun j => nI ((fun _ => 0) j)))), (q10, .inr (0, [.ref q11, .ref q12, .int (nI 0)])), (q13, .inr (1, [.ref q14, .ref q15])), (q2, .inl (cI, 24, .inl (fun j => nI ((va_up (va_up (va_up (va_up (va_up (va_up (va_up (fun _ => 0) 0 0) 1 0) 2 0) 3 1) 4 1) 5 2) 6 2) j)))), (q3, .inl (cI, 24, .inl (fun j => mI ((va_up (va_up (va_up (va_up (va_up (va_up (va_up (fun _ => 1) 0 0) 1 0) 2 0) 3 0) 4 0) 5 0) 6 0) j)))), (q4, .inl (cI, 24, .inl (fun j => mI ((va_up (va_up (va_up (va_up (va_up (va_up (va_up (fun _ => 1) 0 0) 1 0) 2 0) 3 0) 4 0) 5 0) 6 0) j)))), (q5, .inl (cI, 24, .inl (fun j => mI ((va_up (va_up (va_up (va_up (va_up (va_up (va_up (fun _ => 1) 0 0) 1 0) 2 0) 3 0) 4 0) 5 0) 6 0) j)))), (q7, .inl (cI, 24, .inl (fun j => nI ((fun _ => 0) j)))), (q8, .inl (cI, 8, .inl (fun j => nI ((fun _ => 0) j)))), (q11, .inl (cI, 33, .inl (fun j => nI ((fun _ => 0) j)))), (q12, .inl (cI, 11, .inl (fun j => nI ((fun _ => 0) j)))), (q14, .inl (cI, 96, .inl (fun j => nI ((fun _ => 0) j)))), (q15, .inl (cI, 10, .inl (fun j => mI ((fun _ => 1) j))))] H := by rw [← z_nm]; exact hP
  have hD : va_D A [(h0, .inr (3, [.ref q1, .ref q6, .ref q9, .int (nI 0), .ref q10, .ref q13])), (q1, .inr (2, [.ref q2, .ref q3, .ref q4, .ref q5, .int (nI 7)])), (q6, .inr (0, [.ref q7, .ref q8, .int (nI 0)])), (q9, .inl (cI, 3, .inl (fun j => nI ((fun _ => 0) j)))), (q10, .inr (0, [.ref q11, .ref q12, .int (nI 0)])), (q13, .inr (1, [.ref q14, .ref q15])), (q2, .inl (cI, 24, .inl (fun j => nI ((va_up (va_up (va_up (va_up (va_up (va_up (va_up (fun _ => 0) 0 0) 1 0) 2 0) 3 1) 4 1) 5 2) 6 2) j)))), (q3, .inl (cI, 24, .inl (fun j => mI ((va_up (va_up (va_up (va_up (va_up (va_up (va_up (fun _ => 1) 0 0) 1 0) 2 0) 3 0) 4 0) 5 0) 6 0) j)))), (q4, .inl (cI, 24, .inl (fun j => mI ((va_up (va_up (va_up (va_up (va_up (va_up (va_up (fun _ => 1) 0 0) 1 0) 2 0) 3 0) 4 0) 5 0) 6 0) j)))), (q5, .inl (cI, 24, .inl (fun j => mI ((va_up (va_up (va_up (va_up (va_up (va_up (va_up (fun _ => 1) 0 0) 1 0) 2 0) 3 0) 4 0) 5 0) 6 0) j)))), (q7, .inl (cI, 24, .inl (fun j => nI ((fun _ => 0) j)))), (q8, .inl (cI, 8, .inl (fun j => nI ((fun _ => 0) j)))), (q11, .inl (cI, 33, .inl (fun j => nI ((fun _ => 0) j)))), (q12, .inl (cI, 11, .inl (fun j => nI ((fun _ => 0) j)))), (q14, .inl (cI, 96, .inl (fun j => nI ((fun _ => 0) j)))), (q15, .inl (cI, 10, .inl (fun j => mI ((fun _ => 1) j))))] := by rw [← z_nm]; exact hD
  exact W.vret hx hb hr (fun t ht hW => ⟨⟨(fun k => if k = 0 then h0 else if k = 1 then q1 else if k = 2 then q6 else if k = 3 then q9 else if k = 4 then q10 else if k = 5 then q13 else if k = 6 then q2 else if k = 7 then q3 else if k = 8 then q4 else if k = 9 then q5 else if k = 10 then q7 else if k = 11 then q8 else if k = 12 then q11 else if k = 13 then q12 else if k = 14 then q14 else if k = 15 then q15 else 0), rfl, rfl, by rw [ht]; exact hP, hD⟩, hS.F ht⟩) hS.2.2 dX4_init_64
end
