section
-- ===== PART A: goes FIRST, ahead of the names: the tables' words, and 'selects' of the private methods out of them =====
/-- a private method of a class that the tables say can be made, by its rows of tables_1 -/
def lw_okq (q : MethodName × Nat) : Prop := (q.1.cls ≠ "java/lang/invoke/MethodHandle" ∧ q.1.cls ≠ "java/lang/invoke/VarHandle") ∧ Cond.instantiable q.1.cls q.2 ∈ tables_1 ∧ Cond.privateMethod q.1 ∈ tables_1 ∧ Cond.instanceMethod q.1 ∈ tables_1
theorem lw_p0 : lw_okq (⟨"StabilityAnalyzer$Readings", "startsGap", "(I)Z"⟩, 2) := ⟨⟨by decide +kernel, by decide +kernel⟩, List.mem_of_getElem? (i := 19) (by decide +kernel), List.mem_of_getElem? (i := 197) (by decide +kernel), List.mem_of_getElem? (i := 198) (by decide +kernel)⟩
theorem lw_p1 : lw_okq (⟨"StabilityAnalyzer", "greatestM", "()I"⟩, 9) := ⟨⟨by decide +kernel, by decide +kernel⟩, List.mem_of_getElem? (i := 11) (by decide +kernel), List.mem_of_getElem? (i := 209) (by decide +kernel), List.mem_of_getElem? (i := 210) (by decide +kernel)⟩
theorem lw_p2 : lw_okq (⟨"StabilityAnalyzer$Readings", "secondAt", "(II)I"⟩, 2) := ⟨⟨by decide +kernel, by decide +kernel⟩, List.mem_of_getElem? (i := 19) (by decide +kernel), List.mem_of_getElem? (i := 225) (by decide +kernel), List.mem_of_getElem? (i := 226) (by decide +kernel)⟩
theorem lw_p3 : lw_okq (⟨"StabilityAnalyzer$Readings", "thirdAt", "(II)I"⟩, 2) := ⟨⟨by decide +kernel, by decide +kernel⟩, List.mem_of_getElem? (i := 19) (by decide +kernel), List.mem_of_getElem? (i := 229) (by decide +kernel), List.mem_of_getElem? (i := 230) (by decide +kernel)⟩
theorem lw_p4 : lw_okq (⟨"StabilityAnalyzer$Readings", "meanAt", "(II)I"⟩, 2) := ⟨⟨by decide +kernel, by decide +kernel⟩, List.mem_of_getElem? (i := 19) (by decide +kernel), List.mem_of_getElem? (i := 233) (by decide +kernel), List.mem_of_getElem? (i := 234) (by decide +kernel)⟩
theorem lw_p5 : lw_okq (⟨"StabilityAnalyzer$History", "stateAt", "(I)LStabilityAnalyzer$Readings;"⟩, 3) := ⟨⟨by decide +kernel, by decide +kernel⟩, List.mem_of_getElem? (i := 33) (by decide +kernel), List.mem_of_getElem? (i := 262) (by decide +kernel), List.mem_of_getElem? (i := 263) (by decide +kernel)⟩
theorem lw_p6 : lw_okq (⟨"StabilityAnalyzer", "subtractAmounts", "()I"⟩, 9) := ⟨⟨by decide +kernel, by decide +kernel⟩, List.mem_of_getElem? (i := 11) (by decide +kernel), List.mem_of_getElem? (i := 326) (by decide +kernel), List.mem_of_getElem? (i := 327) (by decide +kernel)⟩
theorem lw_p7 : lw_okq (⟨"StabilityAnalyzer", "allStayPhases", "()Z"⟩, 9) := ⟨⟨by decide +kernel, by decide +kernel⟩, List.mem_of_getElem? (i := 11) (by decide +kernel), List.mem_of_getElem? (i := 330) (by decide +kernel), List.mem_of_getElem? (i := 331) (by decide +kernel)⟩
theorem lw_p8 : lw_okq (⟨"StabilityAnalyzer", "sumOfSecondDifferences", "()J"⟩, 9) := ⟨⟨by decide +kernel, by decide +kernel⟩, List.mem_of_getElem? (i := 11) (by decide +kernel), List.mem_of_getElem? (i := 343) (by decide +kernel), List.mem_of_getElem? (i := 344) (by decide +kernel)⟩
theorem lw_p9 : lw_okq (⟨"StabilityAnalyzer", "fillGap", "(II)V"⟩, 9) := ⟨⟨by decide +kernel, by decide +kernel⟩, List.mem_of_getElem? (i := 11) (by decide +kernel), List.mem_of_getElem? (i := 369) (by decide +kernel), List.mem_of_getElem? (i := 370) (by decide +kernel)⟩
theorem lw_p10 : lw_okq (⟨"StabilityAnalyzer", "imageAt", "(I)LStabilityAnalyzer$Image;"⟩, 9) := ⟨⟨by decide +kernel, by decide +kernel⟩, List.mem_of_getElem? (i := 11) (by decide +kernel), List.mem_of_getElem? (i := 381) (by decide +kernel), List.mem_of_getElem? (i := 382) (by decide +kernel)⟩
theorem lw_p11 : lw_okq (⟨"StabilityAnalyzer", "measure", "(IILStabilityAnalyzer$Fraction;)V"⟩, 9) := ⟨⟨by decide +kernel, by decide +kernel⟩, List.mem_of_getElem? (i := 11) (by decide +kernel), List.mem_of_getElem? (i := 421) (by decide +kernel), List.mem_of_getElem? (i := 422) (by decide +kernel)⟩
def lw_privs_1 : List (MethodName × Nat) := [(⟨"StabilityAnalyzer$Readings", "startsGap", "(I)Z"⟩, 2), (⟨"StabilityAnalyzer", "greatestM", "()I"⟩, 9), (⟨"StabilityAnalyzer$Readings", "secondAt", "(II)I"⟩, 2), (⟨"StabilityAnalyzer$Readings", "thirdAt", "(II)I"⟩, 2), (⟨"StabilityAnalyzer$Readings", "meanAt", "(II)I"⟩, 2), (⟨"StabilityAnalyzer$History", "stateAt", "(I)LStabilityAnalyzer$Readings;"⟩, 3), (⟨"StabilityAnalyzer", "subtractAmounts", "()I"⟩, 9), (⟨"StabilityAnalyzer", "allStayPhases", "()Z"⟩, 9), (⟨"StabilityAnalyzer", "sumOfSecondDifferences", "()J"⟩, 9), (⟨"StabilityAnalyzer", "fillGap", "(II)V"⟩, 9), (⟨"StabilityAnalyzer", "imageAt", "(I)LStabilityAnalyzer$Image;"⟩, 9), (⟨"StabilityAnalyzer", "measure", "(IILStabilityAnalyzer$Fraction;)V"⟩, 9)]
theorem lw_r1 : ∀ q ∈ lw_privs_1, lw_okq q := List.forall_mem_cons.mpr ⟨lw_p0, List.forall_mem_cons.mpr ⟨lw_p1, List.forall_mem_cons.mpr ⟨lw_p2, List.forall_mem_cons.mpr ⟨lw_p3, List.forall_mem_cons.mpr ⟨lw_p4, List.forall_mem_cons.mpr ⟨lw_p5, List.forall_mem_cons.mpr ⟨lw_p6, List.forall_mem_cons.mpr ⟨lw_p7, List.forall_mem_cons.mpr ⟨lw_p8, List.forall_mem_cons.mpr ⟨lw_p9, List.forall_mem_cons.mpr ⟨lw_p10, List.forall_mem_cons.mpr ⟨lw_p11, fun _ h => absurd h List.not_mem_nil⟩⟩⟩⟩⟩⟩⟩⟩⟩⟩⟩⟩
def lw_privs : List (MethodName × Nat) := lw_privs_1
def lw_tbl : List Cond := k2_sels lw_privs ++ tables_1
theorem lw_privs_ok : ∀ q ∈ lw_privs, lw_okq q := lw_r1

/-! names and fields, out of the printed names -/
def RX0 : String := "StabilityAnalyzer$Fraction"
def TX0 : u_T := fun k => match k with
  | 0 => ("StabilityAnalyzer$Fraction", "numerator", "J", false)
  | _ => ("StabilityAnalyzer$Fraction", "denominator", "J", false)
def tyX0 : Nat → FieldType := fun k => match k with
  | 0 => .long
  | _ => .long
abbrev wsX00 : List Cond := u_ws RX0 TX0 2
theorem nmX0 : ∀ a, a < 2 → ∀ b, b < 2 → a ≠ b → (TX0 a).2.1 ≠ (TX0 b).2.1 := by decide +kernel
theorem tyX0_ok : ∀ k, k < 2 → parseFieldDescriptor (TX0 k).2.2.1 = some (tyX0 k) := by decide +kernel
abbrev cX0_init : ByteArray := prog_2_method_1_code
def yX0_init : MethodName := ⟨RX0, "<init>", "()V"⟩
abbrev cX0_exists : ByteArray := prog_2_method_2_code
def yX0_exists : MethodName := ⟨RX0, "exists", "()Z"⟩
abbrev cX0_become : ByteArray := prog_2_method_3_code
def yX0_become : MethodName := ⟨RX0, "become", "(JJ)V"⟩
abbrev cX0_copyFrom : ByteArray := prog_2_method_4_code
def yX0_copyFrom : MethodName := ⟨RX0, "copyFrom", "(LStabilityAnalyzer$Fraction;)V"⟩
abbrev cX0_orderOfMultiples : ByteArray := prog_2_method_5_code
def yX0_orderOfMultiples : MethodName := ⟨RX0, "orderOfMultiples", "(JLStabilityAnalyzer$Fraction;J)I"⟩
abbrev cX0_timesRoundedDown : ByteArray := prog_2_method_6_code
def yX0_timesRoundedDown : MethodName := ⟨RX0, "timesRoundedDown", "(J)J"⟩
abbrev cX0_greatestDivisor : ByteArray := prog_2_method_7_code
def yX0_greatestDivisor : MethodName := ⟨RX0, "greatestDivisor", "(JJ)J"⟩
def RX1 : String := "StabilityAnalyzer$History"
def TX1 : u_T := fun k => match k with
  | 0 => ("StabilityAnalyzer$History", "states", "[LStabilityAnalyzer$Readings;", true)
  | 1 => ("StabilityAnalyzer$History", "oldest", "I", false)
  | _ => ("StabilityAnalyzer$History", "depth", "I", false)
def tyX1 : Nat → FieldType := fun k => match k with
  | 0 => .array (.object "StabilityAnalyzer$Readings")
  | 1 => .int
  | _ => .int
abbrev wsX10 : List Cond := u_ws RX1 TX1 3
theorem nmX1 : ∀ a, a < 3 → ∀ b, b < 3 → a ≠ b → (TX1 a).2.1 ≠ (TX1 b).2.1 := by decide +kernel
theorem tyX1_ok : ∀ k, k < 3 → parseFieldDescriptor (TX1 k).2.2.1 = some (tyX1 k) := by decide +kernel
abbrev cX1_init : ByteArray := prog_3_method_1_code
def yX1_init : MethodName := ⟨RX1, "<init>", "()V"⟩
abbrev cX1_depth : ByteArray := prog_3_method_2_code
def yX1_depth : MethodName := ⟨RX1, "depth", "()I"⟩
abbrev cX1_record : ByteArray := prog_3_method_3_code
def yX1_record : MethodName := ⟨RX1, "record", "(LStabilityAnalyzer$Readings;)V"⟩
abbrev cX1_restore : ByteArray := prog_3_method_4_code
def yX1_restore : MethodName := ⟨RX1, "restore", "(LStabilityAnalyzer$Readings;)V"⟩
abbrev cX1_stateAt : ByteArray := prog_3_method_5_code
def yX1_stateAt : MethodName := ⟨RX1, "stateAt", "(I)LStabilityAnalyzer$Readings;"⟩
def RX2 : String := "StabilityAnalyzer$Image"
def TX2 : u_T := fun k => match k with
  | 0 => ("StabilityAnalyzer$Image", "readings", "LStabilityAnalyzer$Readings;", true)
  | _ => ("StabilityAnalyzer$Image", "used", "Z", false)
def tyX2 : Nat → FieldType := fun k => match k with
  | 0 => .object "StabilityAnalyzer$Readings"
  | _ => .boolean
abbrev wsX20 : List Cond := u_ws RX2 TX2 2
theorem nmX2 : ∀ a, a < 2 → ∀ b, b < 2 → a ≠ b → (TX2 a).2.1 ≠ (TX2 b).2.1 := by decide +kernel
theorem tyX2_ok : ∀ k, k < 2 → parseFieldDescriptor (TX2 k).2.2.1 = some (tyX2 k) := by decide +kernel
abbrev cX2_init : ByteArray := prog_4_method_1_code
def yX2_init : MethodName := ⟨RX2, "<init>", "()V"⟩
def RX3 : String := "StabilityAnalyzer$Loader"
def TX3 : u_T := fun k => match k with
  | 0 => ("StabilityAnalyzer$Loader", "faultKind", "I", false)
  | 1 => ("StabilityAnalyzer$Loader", "faultPlace", "I", false)
  | 2 => ("StabilityAnalyzer$Loader", "place", "I", false)
  | 3 => ("StabilityAnalyzer$Loader", "phase", "I", false)
  | _ => ("StabilityAnalyzer$Loader", "times", "I", false)
def tyX3 : Nat → FieldType := fun k => match k with
  | 0 => .int
  | 1 => .int
  | 2 => .int
  | 3 => .int
  | _ => .int
abbrev wsX30 : List Cond := u_ws RX3 TX3 5
theorem nmX3 : ∀ a, a < 5 → ∀ b, b < 5 → a ≠ b → (TX3 a).2.1 ≠ (TX3 b).2.1 := by decide +kernel
theorem tyX3_ok : ∀ k, k < 5 → parseFieldDescriptor (TX3 k).2.2.1 = some (tyX3 k) := by decide +kernel
abbrev cX3_init : ByteArray := prog_5_method_1_code
def yX3_init : MethodName := ⟨RX3, "<init>", "()V"⟩
def RX4 : String := "StabilityAnalyzer$Readings"
def TX4 : u_T := fun k => match k with
  | 0 => ("StabilityAnalyzer$Readings", "phases", "[I", true)
  | _ => ("StabilityAnalyzer$Readings", "size", "I", false)
def tyX4 : Nat → FieldType := fun k => match k with
  | 0 => .array .int
  | _ => .int
abbrev wsX40 : List Cond := u_ws RX4 TX4 2
theorem nmX4 : ∀ a, a < 2 → ∀ b, b < 2 → a ≠ b → (TX4 a).2.1 ≠ (TX4 b).2.1 := by decide +kernel
theorem tyX4_ok : ∀ k, k < 2 → parseFieldDescriptor (TX4 k).2.2.1 = some (tyX4 k) := by decide +kernel
abbrev cX4_init : ByteArray := prog_6_method_1_code
def yX4_init : MethodName := ⟨RX4, "<init>", "()V"⟩
abbrev cX4_size : ByteArray := prog_6_method_2_code
def yX4_size : MethodName := ⟨RX4, "size", "()I"⟩
abbrev cX4_reaches : ByteArray := prog_6_method_3_code
def yX4_reaches : MethodName := ⟨RX4, "reaches", "(I)Z"⟩
abbrev cX4_has : ByteArray := prog_6_method_4_code
def yX4_has : MethodName := ⟨RX4, "has", "(I)Z"⟩
abbrev cX4_at : ByteArray := prog_6_method_5_code
def yX4_at : MethodName := ⟨RX4, "at", "(I)I"⟩
abbrev cX4_put : ByteArray := prog_6_method_6_code
def yX4_put : MethodName := ⟨RX4, "put", "(II)V"⟩
abbrev cX4_append : ByteArray := prog_6_method_7_code
def yX4_append : MethodName := ⟨RX4, "append", "(I)V"⟩
abbrev cX4_appendTimes : ByteArray := prog_6_method_8_code
def yX4_appendTimes : MethodName := ⟨RX4, "appendTimes", "(II)V"⟩
abbrev cX4_empty : ByteArray := prog_6_method_9_code
def yX4_empty : MethodName := ⟨RX4, "empty", "()V"⟩
abbrev cX4_copyFrom : ByteArray := prog_6_method_10_code
def yX4_copyFrom : MethodName := ⟨RX4, "copyFrom", "(LStabilityAnalyzer$Readings;)V"⟩
abbrev cX4_present : ByteArray := prog_6_method_11_code
def yX4_present : MethodName := ⟨RX4, "present", "()I"⟩
abbrev cX4_least : ByteArray := prog_6_method_12_code
def yX4_least : MethodName := ⟨RX4, "least", "()I"⟩
abbrev cX4_greatest : ByteArray := prog_6_method_13_code
def yX4_greatest : MethodName := ⟨RX4, "greatest", "()I"⟩
abbrev cX4_gaps : ByteArray := prog_6_method_14_code
def yX4_gaps : MethodName := ⟨RX4, "gaps", "()I"⟩
abbrev cX4_longestGap : ByteArray := prog_6_method_15_code
def yX4_longestGap : MethodName := ⟨RX4, "longestGap", "()I"⟩
abbrev cX4_startsGap : ByteArray := prog_6_method_16_code
def yX4_startsGap : MethodName := ⟨RX4, "startsGap", "(I)Z"⟩
abbrev cX4_gapEnd : ByteArray := prog_6_method_17_code
def yX4_gapEnd : MethodName := ⟨RX4, "gapEnd", "(I)I"⟩
abbrev cX4_lineAt : ByteArray := prog_6_method_18_code
def yX4_lineAt : MethodName := ⟨RX4, "lineAt", "(III)J"⟩
abbrev cX4_isOutlier : ByteArray := prog_6_method_19_code
def yX4_isOutlier : MethodName := ⟨RX4, "isOutlier", "(II)Z"⟩
abbrev cX4_countOf : ByteArray := prog_6_method_20_code
def yX4_countOf : MethodName := ⟨RX4, "countOf", "(II)I"⟩
abbrev cX4_differenceAt : ByteArray := prog_6_method_21_code
def yX4_differenceAt : MethodName := ⟨RX4, "differenceAt", "(III)I"⟩
abbrev cX4_secondAt : ByteArray := prog_6_method_22_code
def yX4_secondAt : MethodName := ⟨RX4, "secondAt", "(II)I"⟩
abbrev cX4_thirdAt : ByteArray := prog_6_method_23_code
def yX4_thirdAt : MethodName := ⟨RX4, "thirdAt", "(II)I"⟩
abbrev cX4_meanAt : ByteArray := prog_6_method_24_code
def yX4_meanAt : MethodName := ⟨RX4, "meanAt", "(II)I"⟩
def RX5 : String := "StabilityAnalyzer$Text"
def TX5 : u_T := fun k => match k with
  | 0 => ("StabilityAnalyzer$Text", "bytes", "[I", true)
  | _ => ("StabilityAnalyzer$Text", "size", "I", false)
def tyX5 : Nat → FieldType := fun k => match k with
  | 0 => .array .int
  | _ => .int
abbrev wsX50 : List Cond := u_ws RX5 TX5 2
theorem nmX5 : ∀ a, a < 2 → ∀ b, b < 2 → a ≠ b → (TX5 a).2.1 ≠ (TX5 b).2.1 := by decide +kernel
theorem tyX5_ok : ∀ k, k < 2 → parseFieldDescriptor (TX5 k).2.2.1 = some (tyX5 k) := by decide +kernel
abbrev cX5_init : ByteArray := prog_7_method_1_code
def yX5_init : MethodName := ⟨RX5, "<init>", "()V"⟩
abbrev cX5_size : ByteArray := prog_7_method_2_code
def yX5_size : MethodName := ⟨RX5, "size", "()I"⟩
def RX6 : String := "StabilityAnalyzer"
def TX6 : u_T := fun k => match k with
  | 0 => ("StabilityAnalyzer", "now", "LStabilityAnalyzer$Readings;", true)
  | 1 => ("StabilityAnalyzer", "next", "LStabilityAnalyzer$Readings;", true)
  | 2 => ("StabilityAnalyzer", "amounts", "[J", true)
  | 3 => ("StabilityAnalyzer", "history", "LStabilityAnalyzer$History;", true)
  | 4 => ("StabilityAnalyzer", "images", "[LStabilityAnalyzer$Image;", true)
  | 5 => ("StabilityAnalyzer", "text", "LStabilityAnalyzer$Text;", true)
  | 6 => ("StabilityAnalyzer", "loader", "LStabilityAnalyzer$Loader;", true)
  | 7 => ("StabilityAnalyzer", "one", "LStabilityAnalyzer$Fraction;", true)
  | _ => ("StabilityAnalyzer", "two", "LStabilityAnalyzer$Fraction;", true)
def tyX6 : Nat → FieldType := fun k => match k with
  | 0 => .object "StabilityAnalyzer$Readings"
  | 1 => .object "StabilityAnalyzer$Readings"
  | 2 => .array .long
  | 3 => .object "StabilityAnalyzer$History"
  | 4 => .array (.object "StabilityAnalyzer$Image")
  | 5 => .object "StabilityAnalyzer$Text"
  | 6 => .object "StabilityAnalyzer$Loader"
  | 7 => .object "StabilityAnalyzer$Fraction"
  | _ => .object "StabilityAnalyzer$Fraction"
abbrev wsX60 : List Cond := u_ws RX6 TX6 9
theorem nmX6 : ∀ a, a < 9 → ∀ b, b < 9 → a ≠ b → (TX6 a).2.1 ≠ (TX6 b).2.1 := by decide +kernel
theorem tyX6_ok : ∀ k, k < 9 → parseFieldDescriptor (TX6 k).2.2.1 = some (tyX6 k) := by decide +kernel
abbrev cX6_init : ByteArray := prog_1_method_1_code
def yX6_init : MethodName := ⟨RX6, "<init>", "()V"⟩
abbrev cX6_add : ByteArray := prog_1_method_2_code
def yX6_add : MethodName := ⟨RX6, "add", "(I)I"⟩
abbrev cX6_skip : ByteArray := prog_1_method_3_code
def yX6_skip : MethodName := ⟨RX6, "skip", "(I)I"⟩
abbrev cX6_set : ByteArray := prog_1_method_4_code
def yX6_set : MethodName := ⟨RX6, "set", "(II)I"⟩
abbrev cX6_clear : ByteArray := prog_1_method_5_code
def yX6_clear : MethodName := ⟨RX6, "clear", "()I"⟩
abbrev cX6_removeLine : ByteArray := prog_1_method_6_code
def yX6_removeLine : MethodName := ⟨RX6, "removeLine", "(II)I"⟩
abbrev cX6_addLine : ByteArray := prog_1_method_7_code
def yX6_addLine : MethodName := ⟨RX6, "addLine", "(II)I"⟩
abbrev cX6_removeDrift : ByteArray := prog_1_method_8_code
def yX6_removeDrift : MethodName := ⟨RX6, "removeDrift", "()I"⟩
abbrev cX6_removeOutliers : ByteArray := prog_1_method_9_code
def yX6_removeOutliers : MethodName := ⟨RX6, "removeOutliers", "(I)I"⟩
abbrev cX6_fill : ByteArray := prog_1_method_10_code
def yX6_fill : MethodName := ⟨RX6, "fill", "(I)I"⟩
abbrev cX6_thin : ByteArray := prog_1_method_11_code
def yX6_thin : MethodName := ⟨RX6, "thin", "(II)I"⟩
abbrev cX6_undo : ByteArray := prog_1_method_12_code
def yX6_undo : MethodName := ⟨RX6, "undo", "()I"⟩
abbrev cX6_told : ByteArray := prog_1_method_13_code
def yX6_told : MethodName := ⟨RX6, "told", "(I)I"⟩
abbrev cX6_reading : ByteArray := prog_1_method_14_code
def yX6_reading : MethodName := ⟨RX6, "reading", "(I)I"⟩
abbrev cX6_difference : ByteArray := prog_1_method_15_code
def yX6_difference : MethodName := ⟨RX6, "difference", "(III)I"⟩
abbrev cX6_count : ByteArray := prog_1_method_16_code
def yX6_count : MethodName := ⟨RX6, "count", "(II)I"⟩
abbrev cX6_variance : ByteArray := prog_1_method_17_code
def yX6_variance : MethodName := ⟨RX6, "variance", "(III)J"⟩
abbrev cX6_deviation : ByteArray := prog_1_method_18_code
def yX6_deviation : MethodName := ⟨RX6, "deviation", "(II)J"⟩
abbrev cX6_compare : ByteArray := prog_1_method_19_code
def yX6_compare : MethodName := ⟨RX6, "compare", "(III)I"⟩
abbrev cX6_best : ByteArray := prog_1_method_20_code
def yX6_best : MethodName := ⟨RX6, "best", "(I)I"⟩
abbrev cX6_keep : ByteArray := prog_1_method_28_code
def yX6_keep : MethodName := ⟨RX6, "keep", "(I)I"⟩
abbrev cX6_back : ByteArray := prog_1_method_29_code
def yX6_back : MethodName := ⟨RX6, "back", "(I)I"⟩
abbrev cX6_isPhase : ByteArray := prog_1_method_30_code
def yX6_isPhase : MethodName := ⟨RX6, "isPhase", "(J)Z"⟩
abbrev cX6_isLimit : ByteArray := prog_1_method_31_code
def yX6_isLimit : MethodName := ⟨RX6, "isLimit", "(I)Z"⟩
abbrev cX6_isOrder : ByteArray := prog_1_method_32_code
def yX6_isOrder : MethodName := ⟨RX6, "isOrder", "(I)Z"⟩
abbrev cX6_isM : ByteArray := prog_1_method_33_code
def yX6_isM : MethodName := ⟨RX6, "isM", "(I)Z"⟩
abbrev cX6_isVariance : ByteArray := prog_1_method_34_code
def yX6_isVariance : MethodName := ⟨RX6, "isVariance", "(I)Z"⟩
abbrev cX6_imageAt : ByteArray := prog_1_method_35_code
def yX6_imageAt : MethodName := ⟨RX6, "imageAt", "(I)LStabilityAnalyzer$Image;"⟩
abbrev cX6_subtractAmounts : ByteArray := prog_1_method_36_code
def yX6_subtractAmounts : MethodName := ⟨RX6, "subtractAmounts", "()I"⟩
abbrev cX6_allStayPhases : ByteArray := prog_1_method_37_code
def yX6_allStayPhases : MethodName := ⟨RX6, "allStayPhases", "()Z"⟩
abbrev cX6_sumOfSecondDifferences : ByteArray := prog_1_method_38_code
def yX6_sumOfSecondDifferences : MethodName := ⟨RX6, "sumOfSecondDifferences", "()J"⟩
abbrev cX6_fillGap : ByteArray := prog_1_method_39_code
def yX6_fillGap : MethodName := ⟨RX6, "fillGap", "(II)V"⟩
abbrev cX6_greatestM : ByteArray := prog_1_method_40_code
def yX6_greatestM : MethodName := ⟨RX6, "greatestM", "()I"⟩
abbrev cX6_measure : ByteArray := prog_1_method_41_code
def yX6_measure : MethodName := ⟨RX6, "measure", "(IILStabilityAnalyzer$Fraction;)V"⟩
abbrev cX6_orderFor : ByteArray := prog_1_method_42_code
def yX6_orderFor : MethodName := ⟨RX6, "orderFor", "(I)I"⟩
abbrev cX6_divisorFor : ByteArray := prog_1_method_43_code
def yX6_divisorFor : MethodName := ⟨RX6, "divisorFor", "(IJ)J"⟩
abbrev cX6_squareRoot : ByteArray := prog_1_method_44_code
def yX6_squareRoot : MethodName := ⟨RX6, "squareRoot", "(J)J"⟩
def RX7 : String := "StabilityAnalyzerModel"
def TX7 : u_T := fun k => match k with
  | _ => ("", "", "", false)
def tyX7 : Nat → FieldType := fun k => match k with
  | _ => .int
abbrev wsX70 : List Cond := u_ws RX7 TX7 0
theorem nmX7 : ∀ a, a < 0 → ∀ b, b < 0 → a ≠ b → (TX7 a).2.1 ≠ (TX7 b).2.1 := by decide +kernel
theorem tyX7_ok : ∀ k, k < 0 → parseFieldDescriptor (TX7 k).2.2.1 = some (tyX7 k) := by decide +kernel
def RJ13 : String := "java/lang/Long"
def TJ13 : u_T := fun k => match k with
  | _ => ("", "", "", false)
def tyJ13 : Nat → FieldType := fun k => match k with
  | _ => .int
theorem nmJ13 : ∀ a, a < 0 → ∀ b, b < 0 → a ≠ b → (TJ13 a).2.1 ≠ (TJ13 b).2.1 := by decide +kernel
theorem tyJ13_ok : ∀ k, k < 0 → parseFieldDescriptor (TJ13 k).2.2.1 = some (tyJ13 k) := by decide +kernel
abbrev cJ13_compare_74951 : ByteArray := prog_10_method_42_code
def yJ13_compare_74951 : MethodName := ⟨RJ13, "compare", "(JJ)I"⟩
def RJ9 : String := "java/lang/Math"
def TJ9 : u_T := fun k => match k with
  | _ => ("", "", "", false)
def tyJ9 : Nat → FieldType := fun k => match k with
  | _ => .int
theorem nmJ9 : ∀ a, a < 0 → ∀ b, b < 0 → a ≠ b → (TJ9 a).2.1 ≠ (TJ9 b).2.1 := by decide +kernel
theorem tyJ9_ok : ∀ k, k < 0 → parseFieldDescriptor (TJ9 k).2.2.1 = some (tyJ9 k) := by decide +kernel
abbrev cJ9_floorDiv_f86c9 : ByteArray := prog_11_method_49_code
def yJ9_floorDiv_f86c9 : MethodName := ⟨RJ9, "floorDiv", "(JJ)J"⟩
abbrev cJ9_max_7cf53 : ByteArray := prog_11_method_65_code
def yJ9_max_7cf53 : MethodName := ⟨RJ9, "max", "(II)I"⟩
def RL : String := "StabilityAnalyzerLaw"
abbrev cL_cell : ByteArray := method_2_code
def yL_cell : MethodName := ⟨RL, "cell", "([II)I"⟩
abbrev cL_low : ByteArray := method_3_code
def yL_low : MethodName := ⟨RL, "low", "(II)I"⟩
abbrev cL_change : ByteArray := method_4_code
def yL_change : MethodName := ⟨RL, "change", "(LStabilityAnalyzer;II)I"⟩
abbrev cL_areDifferences : ByteArray := method_5_code
def yL_areDifferences : MethodName := ⟨RL, "areDifferences", "(LStabilityAnalyzer;I)Z"⟩
abbrev cL_isVariance : ByteArray := method_6_code
def yL_isVariance : MethodName := ⟨RL, "isVariance", "(LStabilityAnalyzer;II)Z"⟩
abbrev cL_areCompared : ByteArray := method_7_code
def yL_areCompared : MethodName := ⟨RL, "areCompared", "(LStabilityAnalyzer;I)Z"⟩
abbrev cL_isLine : ByteArray := method_8_code
def yL_isLine : MethodName := ⟨RL, "isLine", "(LStabilityAnalyzer;III)Z"⟩
abbrev cL_areAlike : ByteArray := method_9_code
def yL_areAlike : MethodName := ⟨RL, "areAlike", "(LStabilityAnalyzer;LStabilityAnalyzer;)Z"⟩
abbrev cL_law : ByteArray := code
def yL_law : MethodName := ⟨RL, "law", "([I)Z"⟩
abbrev vwCl : List vw_C := [(RX0, TX0, 2), (RX1, TX1, 3), (RX2, TX2, 2), (RX3, TX3, 5), (RX4, TX4, 2), (RX5, TX5, 2), (RX6, TX6, 9)]
end
section
/-! the tables of the abstract machine, printed by wip/gen.py out of the claim's own names and tables: methods by number, their rows -/
abbrev qOp : Type := Nat × Nat × Nat × Nat × Value × List (Int × Nat)
abbrev qRow : Type := Nat × Instr × Nat
abbrev m_fr_exists : Nat := 0
abbrev m_fr_become : Nat := 1
abbrev m_fr_copyFrom : Nat := 2
abbrev m_fr_orderOfMultiples : Nat := 3
abbrev m_fr_timesRoundedDown : Nat := 4
abbrev m_fr_greatestDivisor : Nat := 5
abbrev m_hi_depth : Nat := 6
abbrev m_hi_record : Nat := 7
abbrev m_hi_restore : Nat := 8
abbrev m_hi_stateAt : Nat := 9
abbrev m_rd_size : Nat := 10
abbrev m_rd_reaches : Nat := 11
abbrev m_rd_has : Nat := 12
abbrev m_rd_at : Nat := 13
abbrev m_rd_put : Nat := 14
abbrev m_rd_append : Nat := 15
abbrev m_rd_appendTimes : Nat := 16
abbrev m_rd_empty : Nat := 17
abbrev m_rd_copyFrom : Nat := 18
abbrev m_rd_present : Nat := 19
abbrev m_rd_least : Nat := 20
abbrev m_rd_greatest : Nat := 21
abbrev m_rd_gaps : Nat := 22
abbrev m_rd_longestGap : Nat := 23
abbrev m_rd_startsGap : Nat := 24
abbrev m_rd_gapEnd : Nat := 25
abbrev m_rd_lineAt : Nat := 26
abbrev m_rd_isOutlier : Nat := 27
abbrev m_rd_countOf : Nat := 28
abbrev m_rd_differenceAt : Nat := 29
abbrev m_rd_secondAt : Nat := 30
abbrev m_rd_thirdAt : Nat := 31
abbrev m_rd_meanAt : Nat := 32
abbrev m_tx_size : Nat := 33
abbrev m_sa_add : Nat := 34
abbrev m_sa_skip : Nat := 35
abbrev m_sa_set : Nat := 36
abbrev m_sa_clear : Nat := 37
abbrev m_sa_removeLine : Nat := 38
abbrev m_sa_addLine : Nat := 39
abbrev m_sa_removeDrift : Nat := 40
abbrev m_sa_removeOutliers : Nat := 41
abbrev m_sa_fill : Nat := 42
abbrev m_sa_thin : Nat := 43
abbrev m_sa_undo : Nat := 44
abbrev m_sa_told : Nat := 45
abbrev m_sa_reading : Nat := 46
abbrev m_sa_difference : Nat := 47
abbrev m_sa_count : Nat := 48
abbrev m_sa_variance : Nat := 49
abbrev m_sa_deviation : Nat := 50
abbrev m_sa_compare : Nat := 51
abbrev m_sa_best : Nat := 52
abbrev m_sa_keep : Nat := 53
abbrev m_sa_back : Nat := 54
abbrev m_sa_isPhase : Nat := 55
abbrev m_sa_isLimit : Nat := 56
abbrev m_sa_isOrder : Nat := 57
abbrev m_sa_isM : Nat := 58
abbrev m_sa_isVariance : Nat := 59
abbrev m_sa_imageAt : Nat := 60
abbrev m_sa_subtractAmounts : Nat := 61
abbrev m_sa_allStayPhases : Nat := 62
abbrev m_sa_sumOfSecondDifferences : Nat := 63
abbrev m_sa_fillGap : Nat := 64
abbrev m_sa_greatestM : Nat := 65
abbrev m_sa_measure : Nat := 66
abbrev m_sa_orderFor : Nat := 67
abbrev m_sa_divisorFor : Nat := 68
abbrev m_sa_squareRoot : Nat := 69
abbrev m_long_compare : Nat := 70
abbrev m_math_floorDiv : Nat := 71
abbrev m_math_max : Nat := 72
abbrev m_lw_cell : Nat := 73
abbrev m_lw_low : Nat := 74
abbrev m_lw_change : Nat := 75
abbrev m_lw_areDifferences : Nat := 76
abbrev m_lw_isVariance : Nat := 77
abbrev m_lw_areCompared : Nat := 78
abbrev m_lw_isLine : Nat := 79
abbrev m_lw_areAlike : Nat := 80
abbrev m_lw_law : Nat := 81
def qo_0 : List qOp := [(3, 0, 0, 0, .null, []), (35, 0, 1, 126, .null, []), (0, 0, 0, 0, .long 0, []), (25, 0, 0, 0, .null, []), (28, 5, 7, 0, .null, []), (0, 0, 0, 0, .int 1, []), (32, 0, 8, 0, .null, []), (0, 0, 0, 0, .int 0, []), (51, 0, 0, 0, .null, [])]
def qr_0 : List qRow := [(0, .aload_n 0, 1), (1, .getfield 13, 3), (4, .lconst 0, 1), (5, .lcmp, 1), (6, .ifCond .le 7, 3), (9, .iconst 1, 1), (10, .goto 4, 3), (13, .iconst 0, 1), (14, .ireturn, 1)]
def qo_1 : List qOp := [(2, 1, 0, 0, .null, []), (2, 3, 0, 0, .null, []), (48, 5, 2, 0, .null, [(0, 448), (0, 449), (0, 19)]), (5, 5, 0, 0, .null, []), (2, 3, 0, 0, .null, []), (0, 0, 0, 0, .long 0, []), (25, 0, 0, 0, .null, []), (28, 5, 12, 0, .null, []), (2, 5, 0, 0, .null, []), (0, 0, 0, 0, .long 0, []), (25, 0, 0, 0, .null, []), (28, 4, 19, 0, .null, []), (3, 0, 0, 0, .null, []), (0, 0, 0, 0, .long 0, []), (38, 0, 0, 124, .null, []), (3, 0, 0, 0, .null, []), (0, 0, 0, 0, .long 0, []), (38, 0, 1, 126, .null, []), (54, 0, 0, 0, .null, []), (3, 0, 0, 0, .null, []), (2, 1, 0, 0, .null, []), (2, 5, 0, 0, .null, []), (21, 0, 0, 0, .null, []), (38, 0, 0, 124, .null, []), (3, 0, 0, 0, .null, []), (2, 3, 0, 0, .null, []), (2, 5, 0, 0, .null, []), (21, 0, 0, 0, .null, []), (38, 0, 1, 126, .null, []), (54, 0, 0, 0, .null, [])]
def qr_1 : List qRow := [(0, .lload_n 1, 1), (1, .lload_n 3, 1), (2, .invokestatic 16, 3), (5, .lstore 5, 2), (7, .lload_n 3, 1), (8, .lconst 0, 1), (9, .lcmp, 1), (10, .ifCond .le 10, 3), (13, .lload 5, 2), (15, .lconst 0, 1), (16, .lcmp, 1), (17, .ifCond .gt 14, 3), (20, .aload_n 0, 1), (21, .lconst 0, 1), (22, .putfield 7, 3), (25, .aload_n 0, 1), (26, .lconst 0, 1), (27, .putfield 13, 3), (30, .return_, 1), (31, .aload_n 0, 1), (32, .lload_n 1, 1), (33, .lload 5, 2), (35, .ldiv, 1), (36, .putfield 7, 3), (39, .aload_n 0, 1), (40, .lload_n 3, 1), (41, .lload 5, 2), (43, .ldiv, 1), (44, .putfield 13, 3), (47, .return_, 1)]
def qo_2 : List qOp := [(3, 0, 0, 0, .null, []), (3, 1, 0, 0, .null, []), (35, 0, 0, 124, .null, []), (38, 0, 0, 124, .null, []), (3, 0, 0, 0, .null, []), (3, 1, 0, 0, .null, []), (35, 0, 1, 126, .null, []), (38, 0, 1, 126, .null, []), (54, 0, 0, 0, .null, [])]
def qr_2 : List qRow := [(0, .aload_n 0, 1), (1, .aload_n 1, 1), (2, .getfield 7, 3), (5, .putfield 7, 3), (8, .aload_n 0, 1), (9, .aload_n 1, 1), (10, .getfield 13, 3), (13, .putfield 13, 3), (16, .return_, 1)]
def qo_3 : List qOp := [(3, 0, 0, 0, .null, []), (49, 0, 0, 0, .null, [(0, 465), (0, 452), (0, 453), (0, 19)]), (28, 0, 6, 0, .null, []), (3, 3, 0, 0, .null, []), (49, 0, 0, 0, .null, [(0, 465), (0, 452), (0, 453), (0, 19)]), (28, 1, 8, 0, .null, []), (0, 0, 0, 0, .int 0, []), (50, 0, 0, 0, .null, []), (2, 1, 0, 0, .null, []), (3, 0, 0, 0, .null, []), (35, 0, 0, 124, .null, []), (20, 0, 0, 0, .null, []), (5, 6, 0, 0, .null, []), (2, 4, 0, 0, .null, []), (3, 3, 0, 0, .null, []), (35, 0, 0, 124, .null, []), (20, 0, 0, 0, .null, []), (5, 8, 0, 0, .null, []), (2, 6, 0, 0, .null, []), (3, 0, 0, 0, .null, []), (35, 0, 1, 126, .null, []), (21, 0, 0, 0, .null, []), (2, 8, 0, 0, .null, []), (3, 3, 0, 0, .null, []), (35, 0, 1, 126, .null, []), (21, 0, 0, 0, .null, []), (48, 70, 2, 0, .null, [(0, 477), (0, 478), (0, 21)]), (4, 10, 0, 0, .null, []), (1, 10, 0, 0, .null, []), (28, 0, 32, 0, .null, []), (1, 10, 0, 0, .null, []), (50, 0, 0, 0, .null, []), (2, 6, 0, 0, .null, []), (3, 0, 0, 0, .null, []), (35, 0, 1, 126, .null, []), (22, 0, 0, 0, .null, []), (3, 3, 0, 0, .null, []), (35, 0, 1, 126, .null, []), (20, 0, 0, 0, .null, []), (2, 8, 0, 0, .null, []), (3, 3, 0, 0, .null, []), (35, 0, 1, 126, .null, []), (22, 0, 0, 0, .null, []), (3, 0, 0, 0, .null, []), (35, 0, 1, 126, .null, []), (20, 0, 0, 0, .null, []), (48, 70, 2, 0, .null, [(0, 477), (0, 478), (0, 21)]), (50, 0, 0, 0, .null, [])]
def qr_3 : List qRow := [(0, .aload_n 0, 1), (1, .invokevirtual 20, 3), (4, .ifCond .eq 10, 3), (7, .aload_n 3, 1), (8, .invokevirtual 20, 3), (11, .ifCond .ne 5, 3), (14, .iconst 0, 1), (15, .ireturn, 1), (16, .lload_n 1, 1), (17, .aload_n 0, 1), (18, .getfield 7, 3), (21, .lmul, 1), (22, .lstore 6, 2), (24, .lload 4, 2), (26, .aload_n 3, 1), (27, .getfield 7, 3), (30, .lmul, 1), (31, .lstore 8, 2), (33, .lload 6, 2), (35, .aload_n 0, 1), (36, .getfield 13, 3), (39, .ldiv, 1), (40, .lload 8, 2), (42, .aload_n 3, 1), (43, .getfield 13, 3), (46, .ldiv, 1), (47, .invokestatic 24, 3), (50, .istore 10, 2), (52, .iload 10, 2), (54, .ifCond .eq 6, 3), (57, .iload 10, 2), (59, .ireturn, 1), (60, .lload 6, 2), (62, .aload_n 0, 1), (63, .getfield 13, 3), (66, .lrem, 1), (67, .aload_n 3, 1), (68, .getfield 13, 3), (71, .lmul, 1), (72, .lload 8, 2), (74, .aload_n 3, 1), (75, .getfield 13, 3), (78, .lrem, 1), (79, .aload_n 0, 1), (80, .getfield 13, 3), (83, .lmul, 1), (84, .invokestatic 24, 3), (87, .ireturn, 1)]
def qo_4 : List qOp := [(3, 0, 0, 0, .null, []), (49, 0, 0, 0, .null, [(0, 465), (0, 452), (0, 453), (0, 19)]), (28, 1, 5, 0, .null, []), (0, 0, 0, 0, .long 0, []), (52, 0, 0, 0, .null, []), (3, 0, 0, 0, .null, []), (35, 0, 0, 124, .null, []), (3, 0, 0, 0, .null, []), (35, 0, 1, 126, .null, []), (21, 0, 0, 0, .null, []), (2, 1, 0, 0, .null, []), (20, 0, 0, 0, .null, []), (3, 0, 0, 0, .null, []), (35, 0, 0, 124, .null, []), (3, 0, 0, 0, .null, []), (35, 0, 1, 126, .null, []), (22, 0, 0, 0, .null, []), (2, 1, 0, 0, .null, []), (20, 0, 0, 0, .null, []), (3, 0, 0, 0, .null, []), (35, 0, 1, 126, .null, []), (21, 0, 0, 0, .null, []), (18, 0, 0, 0, .null, []), (52, 0, 0, 0, .null, [])]
def qr_4 : List qRow := [(0, .aload_n 0, 1), (1, .invokevirtual 20, 3), (4, .ifCond .ne 5, 3), (7, .lconst 0, 1), (8, .lreturn, 1), (9, .aload_n 0, 1), (10, .getfield 7, 3), (13, .aload_n 0, 1), (14, .getfield 13, 3), (17, .ldiv, 1), (18, .lload_n 1, 1), (19, .lmul, 1), (20, .aload_n 0, 1), (21, .getfield 7, 3), (24, .aload_n 0, 1), (25, .getfield 13, 3), (28, .lrem, 1), (29, .lload_n 1, 1), (30, .lmul, 1), (31, .aload_n 0, 1), (32, .getfield 13, 3), (35, .ldiv, 1), (36, .ladd, 1), (37, .lreturn, 1)]
def qo_5 : List qOp := [(2, 0, 0, 0, .null, []), (5, 4, 0, 0, .null, []), (2, 2, 0, 0, .null, []), (5, 6, 0, 0, .null, []), (0, 0, 0, 0, .int 0, []), (4, 8, 0, 0, .null, []), (1, 8, 0, 0, .null, []), (0, 0, 0, 0, .int 100, []), (29, 3, 23, 0, .null, []), (2, 6, 0, 0, .null, []), (0, 0, 0, 0, .long 0, []), (25, 0, 0, 0, .null, []), (28, 0, 23, 0, .null, []), (2, 4, 0, 0, .null, []), (2, 6, 0, 0, .null, []), (22, 0, 0, 0, .null, []), (5, 9, 0, 0, .null, []), (2, 6, 0, 0, .null, []), (5, 4, 0, 0, .null, []), (2, 9, 0, 0, .null, []), (5, 6, 0, 0, .null, []), (7, 8, 0, 0, .int 1, []), (32, 0, 6, 0, .null, []), (2, 4, 0, 0, .null, []), (52, 0, 0, 0, .null, [])]
def qr_5 : List qRow := [(0, .lload_n 0, 1), (1, .lstore 4, 2), (3, .lload_n 2, 1), (4, .lstore 6, 2), (6, .iconst 0, 1), (7, .istore 8, 2), (9, .iload 8, 2), (11, .bipush 100, 2), (13, .if_icmp .ge 31, 3), (16, .lload 6, 2), (18, .lconst 0, 1), (19, .lcmp, 1), (20, .ifCond .eq 24, 3), (23, .lload 4, 2), (25, .lload 6, 2), (27, .lrem, 1), (28, .lstore 9, 2), (30, .lload 6, 2), (32, .lstore 4, 2), (34, .lload 9, 2), (36, .lstore 6, 2), (38, .iinc 8 1, 3), (41, .goto (-32), 3), (44, .lload 4, 2), (46, .lreturn, 1)]
def qo_6 : List qOp := [(3, 0, 0, 0, .null, []), (34, 1, 2, 55, .null, []), (50, 0, 0, 0, .null, [])]
def qr_6 : List qRow := [(0, .aload_n 0, 1), (1, .getfield 21, 3), (4, .ireturn, 1)]
def qo_7 : List qOp := [(3, 0, 0, 0, .null, []), (34, 1, 2, 55, .null, []), (0, 0, 0, 0, .int 8, []), (29, 1, 18, 0, .null, []), (3, 0, 0, 0, .null, []), (3, 0, 0, 0, .null, []), (34, 1, 1, 54, .null, []), (0, 0, 0, 0, .int 1, []), (8, 0, 0, 0, .null, []), (0, 0, 0, 0, .int 8, []), (16, 0, 0, 0, .null, []), (37, 1, 1, 54, .null, []), (3, 0, 0, 0, .null, []), (55, 0, 0, 0, .null, []), (34, 1, 2, 55, .null, []), (0, 0, 0, 0, .int 1, []), (9, 0, 0, 0, .null, []), (37, 1, 2, 55, .null, []), (3, 0, 0, 0, .null, []), (3, 0, 0, 0, .null, []), (34, 1, 2, 55, .null, []), (49, 9, 1, 1, .null, [(0, 273), (0, 275), (0, 5), (0, 15)]), (6, 2, 0, 0, .null, []), (3, 2, 0, 0, .null, []), (30, 0, 34, 0, .null, []), (3, 2, 0, 0, .null, []), (3, 1, 0, 0, .null, []), (49, 18, 1, 4, .null, [(0, 277), (0, 278), (0, 279), (0, 14)]), (3, 0, 0, 0, .null, []), (55, 0, 0, 0, .null, []), (34, 1, 2, 55, .null, []), (0, 0, 0, 0, .int 1, []), (8, 0, 0, 0, .null, []), (37, 1, 2, 55, .null, []), (54, 0, 0, 0, .null, [])]
def qr_7 : List qRow := [(0, .aload_n 0, 1), (1, .getfield 21, 3), (4, .bipush 8, 2), (6, .if_icmp .ne 26, 3), (9, .aload_n 0, 1), (10, .aload_n 0, 1), (11, .getfield 17, 3), (14, .iconst 1, 1), (15, .iadd, 1), (16, .bipush 8, 2), (18, .irem, 1), (19, .putfield 17, 3), (22, .aload_n 0, 1), (23, .dup, 1), (24, .getfield 21, 3), (27, .iconst 1, 1), (28, .isub, 1), (29, .putfield 21, 3), (32, .aload_n 0, 1), (33, .aload_n 0, 1), (34, .getfield 21, 3), (37, .invokevirtual 25, 3), (40, .astore_n 2, 1), (41, .aload_n 2, 1), (42, .ifnull 18, 3), (45, .aload_n 2, 1), (46, .aload_n 1, 1), (47, .invokevirtual 29, 3), (50, .aload_n 0, 1), (51, .dup, 1), (52, .getfield 21, 3), (55, .iconst 1, 1), (56, .iadd, 1), (57, .putfield 21, 3), (60, .return_, 1)]
def qo_8 : List qOp := [(3, 0, 0, 0, .null, []), (3, 0, 0, 0, .null, []), (34, 1, 2, 55, .null, []), (0, 0, 0, 0, .int 1, []), (9, 0, 0, 0, .null, []), (49, 9, 1, 1, .null, [(0, 273), (0, 275), (0, 5), (0, 15)]), (6, 2, 0, 0, .null, []), (3, 2, 0, 0, .null, []), (30, 0, 18, 0, .null, []), (3, 1, 0, 0, .null, []), (3, 2, 0, 0, .null, []), (49, 18, 1, 4, .null, [(0, 277), (0, 278), (0, 279), (0, 14)]), (3, 0, 0, 0, .null, []), (55, 0, 0, 0, .null, []), (34, 1, 2, 55, .null, []), (0, 0, 0, 0, .int 1, []), (9, 0, 0, 0, .null, []), (37, 1, 2, 55, .null, []), (54, 0, 0, 0, .null, [])]
def qr_8 : List qRow := [(0, .aload_n 0, 1), (1, .aload_n 0, 1), (2, .getfield 21, 3), (5, .iconst 1, 1), (6, .isub, 1), (7, .invokevirtual 25, 3), (10, .astore_n 2, 1), (11, .aload_n 2, 1), (12, .ifnull 18, 3), (15, .aload_n 1, 1), (16, .aload_n 2, 1), (17, .invokevirtual 29, 3), (20, .aload_n 0, 1), (21, .dup, 1), (22, .getfield 21, 3), (25, .iconst 1, 1), (26, .isub, 1), (27, .putfield 21, 3), (30, .return_, 1)]
def qo_9 : List qOp := [(3, 0, 0, 0, .null, []), (34, 1, 1, 54, .null, []), (1, 1, 0, 0, .null, []), (8, 0, 0, 0, .null, []), (0, 0, 0, 0, .int 8, []), (16, 0, 0, 0, .null, []), (4, 2, 0, 0, .null, []), (1, 1, 0, 0, .null, []), (28, 2, 16, 0, .null, []), (1, 2, 0, 0, .null, []), (28, 2, 16, 0, .null, []), (1, 2, 0, 0, .null, []), (3, 0, 0, 0, .null, []), (36, 1, 0, 53, .null, []), (40, 0, 0, 0, .null, []), (29, 2, 18, 0, .null, []), (0, 0, 0, 0, .null, []), (53, 0, 0, 0, .null, []), (3, 0, 0, 0, .null, []), (36, 1, 0, 53, .null, []), (1, 2, 0, 0, .null, []), (44, 103, 0, 0, .null, []), (53, 0, 0, 0, .null, [])]
def qr_9 : List qRow := [(0, .aload_n 0, 1), (1, .getfield 17, 3), (4, .iload_n 1, 1), (5, .iadd, 1), (6, .bipush 8, 2), (8, .irem, 1), (9, .istore_n 2, 1), (10, .iload_n 1, 1), (11, .ifCond .lt 16, 3), (14, .iload_n 2, 1), (15, .ifCond .lt 12, 3), (18, .iload_n 2, 1), (19, .aload_n 0, 1), (20, .getfield 11, 3), (23, .arraylength, 1), (24, .if_icmp .lt 5, 3), (27, .aconst_null, 1), (28, .areturn, 1), (29, .aload_n 0, 1), (30, .getfield 11, 3), (33, .iload_n 2, 1), (34, .aaload, 1), (35, .areturn, 1)]
def qo_10 : List qOp := [(3, 0, 0, 0, .null, []), (34, 4, 1, 37, .null, []), (50, 0, 0, 0, .null, [])]
def qr_10 : List qRow := [(0, .aload_n 0, 1), (1, .getfield 15, 3), (4, .ireturn, 1)]
def qo_11 : List qOp := [(1, 1, 0, 0, .null, []), (28, 2, 8, 0, .null, []), (1, 1, 0, 0, .null, []), (3, 0, 0, 0, .null, []), (34, 4, 1, 37, .null, []), (29, 3, 8, 0, .null, []), (0, 0, 0, 0, .int 1, []), (32, 0, 9, 0, .null, []), (0, 0, 0, 0, .int 0, []), (51, 0, 0, 0, .null, [])]
def qr_11 : List qRow := [(0, .iload_n 1, 1), (1, .ifCond .lt 15, 3), (4, .iload_n 1, 1), (5, .aload_n 0, 1), (6, .getfield 15, 3), (9, .if_icmp .ge 7, 3), (12, .iconst 1, 1), (13, .goto 4, 3), (16, .iconst 0, 1), (17, .ireturn, 1)]
def qo_12 : List qOp := [(3, 0, 0, 0, .null, []), (1, 1, 0, 0, .null, []), (49, 13, 1, 4, .null, [(0, 188), (0, 189), (0, 190), (0, 14)]), (0, 192, 0, 0, .int (-1000000001), []), (29, 0, 7, 0, .null, []), (0, 0, 0, 0, .int 1, []), (32, 0, 8, 0, .null, []), (0, 0, 0, 0, .int 0, []), (51, 0, 0, 0, .null, [])]
def qr_12 : List qRow := [(0, .aload_n 0, 1), (1, .iload_n 1, 1), (2, .invokevirtual 19, 3), (5, .ldc 23, 2), (7, .if_icmp .eq 7, 3), (10, .iconst 1, 1), (11, .goto 4, 3), (14, .iconst 0, 1), (15, .ireturn, 1)]
def qo_13 : List qOp := [(1, 1, 0, 0, .null, []), (28, 2, 11, 0, .null, []), (1, 1, 0, 0, .null, []), (3, 0, 0, 0, .null, []), (34, 4, 1, 37, .null, []), (29, 3, 11, 0, .null, []), (1, 1, 0, 0, .null, []), (3, 0, 0, 0, .null, []), (36, 4, 0, 36, .null, []), (40, 0, 0, 0, .null, []), (29, 2, 13, 0, .null, []), (0, 192, 0, 0, .int (-1000000001), []), (50, 0, 0, 0, .null, []), (3, 0, 0, 0, .null, []), (36, 4, 0, 36, .null, []), (1, 1, 0, 0, .null, []), (41, 0, 0, 0, .null, []), (50, 0, 0, 0, .null, [])]
def qr_13 : List qRow := [(0, .iload_n 1, 1), (1, .ifCond .lt 20, 3), (4, .iload_n 1, 1), (5, .aload_n 0, 1), (6, .getfield 15, 3), (9, .if_icmp .ge 12, 3), (12, .iload_n 1, 1), (13, .aload_n 0, 1), (14, .getfield 9, 3), (17, .arraylength, 1), (18, .if_icmp .lt 6, 3), (21, .ldc 23, 2), (23, .ireturn, 1), (24, .aload_n 0, 1), (25, .getfield 9, 3), (28, .iload_n 1, 1), (29, .iaload, 1), (30, .ireturn, 1)]
def qo_14 : List qOp := [(1, 1, 0, 0, .null, []), (28, 2, 16, 0, .null, []), (1, 1, 0, 0, .null, []), (3, 0, 0, 0, .null, []), (34, 4, 1, 37, .null, []), (29, 3, 16, 0, .null, []), (1, 1, 0, 0, .null, []), (3, 0, 0, 0, .null, []), (36, 4, 0, 36, .null, []), (40, 0, 0, 0, .null, []), (29, 3, 16, 0, .null, []), (3, 0, 0, 0, .null, []), (36, 4, 0, 36, .null, []), (1, 1, 0, 0, .null, []), (1, 2, 0, 0, .null, []), (45, 0, 0, 0, .null, []), (54, 0, 0, 0, .null, [])]
def qr_14 : List qRow := [(0, .iload_n 1, 1), (1, .ifCond .lt 27, 3), (4, .iload_n 1, 1), (5, .aload_n 0, 1), (6, .getfield 15, 3), (9, .if_icmp .ge 19, 3), (12, .iload_n 1, 1), (13, .aload_n 0, 1), (14, .getfield 9, 3), (17, .arraylength, 1), (18, .if_icmp .ge 10, 3), (21, .aload_n 0, 1), (22, .getfield 9, 3), (25, .iload_n 1, 1), (26, .iload_n 2, 1), (27, .iastore, 1), (28, .return_, 1)]
def qo_15 : List qOp := [(3, 0, 0, 0, .null, []), (34, 4, 1, 37, .null, []), (28, 2, 21, 0, .null, []), (3, 0, 0, 0, .null, []), (34, 4, 1, 37, .null, []), (3, 0, 0, 0, .null, []), (36, 4, 0, 36, .null, []), (40, 0, 0, 0, .null, []), (29, 3, 21, 0, .null, []), (3, 0, 0, 0, .null, []), (36, 4, 0, 36, .null, []), (3, 0, 0, 0, .null, []), (34, 4, 1, 37, .null, []), (1, 1, 0, 0, .null, []), (45, 0, 0, 0, .null, []), (3, 0, 0, 0, .null, []), (55, 0, 0, 0, .null, []), (34, 4, 1, 37, .null, []), (0, 0, 0, 0, .int 1, []), (8, 0, 0, 0, .null, []), (37, 4, 1, 37, .null, []), (54, 0, 0, 0, .null, [])]
def qr_15 : List qRow := [(0, .aload_n 0, 1), (1, .getfield 15, 3), (4, .ifCond .lt 35, 3), (7, .aload_n 0, 1), (8, .getfield 15, 3), (11, .aload_n 0, 1), (12, .getfield 9, 3), (15, .arraylength, 1), (16, .if_icmp .ge 23, 3), (19, .aload_n 0, 1), (20, .getfield 9, 3), (23, .aload_n 0, 1), (24, .getfield 15, 3), (27, .iload_n 1, 1), (28, .iastore, 1), (29, .aload_n 0, 1), (30, .dup, 1), (31, .getfield 15, 3), (34, .iconst 1, 1), (35, .iadd, 1), (36, .putfield 15, 3), (39, .return_, 1)]
def qo_16 : List qOp := [(0, 0, 0, 0, .int 0, []), (4, 3, 0, 0, .null, []), (1, 3, 0, 0, .null, []), (1, 2, 0, 0, .null, []), (29, 3, 10, 0, .null, []), (3, 0, 0, 0, .null, []), (1, 1, 0, 0, .null, []), (49, 15, 1, 4, .null, [(0, 286), (0, 287), (0, 288), (0, 14)]), (7, 3, 0, 0, .int 1, []), (32, 0, 2, 0, .null, []), (54, 0, 0, 0, .null, [])]
def qr_16 : List qRow := [(0, .iconst 0, 1), (1, .istore_n 3, 1), (2, .iload_n 3, 1), (3, .iload_n 2, 1), (4, .if_icmp .ge 14, 3), (7, .aload_n 0, 1), (8, .iload_n 1, 1), (9, .invokevirtual 24, 3), (12, .iinc 3 1, 3), (15, .goto (-13), 3), (18, .return_, 1)]
def qo_17 : List qOp := [(3, 0, 0, 0, .null, []), (0, 0, 0, 0, .int 0, []), (37, 4, 1, 37, .null, []), (54, 0, 0, 0, .null, [])]
def qr_17 : List qRow := [(0, .aload_n 0, 1), (1, .iconst 0, 1), (2, .putfield 15, 3), (5, .return_, 1)]
def qo_18 : List qOp := [(3, 0, 0, 0, .null, []), (49, 17, 0, 4, .null, [(0, 281), (0, 282), (0, 283), (0, 14)]), (0, 0, 0, 0, .int 0, []), (4, 2, 0, 0, .null, []), (1, 2, 0, 0, .null, []), (3, 1, 0, 0, .null, []), (49, 10, 0, 4, .null, [(0, 285), (0, 177), (0, 178), (0, 14)]), (29, 3, 15, 0, .null, []), (3, 0, 0, 0, .null, []), (3, 1, 0, 0, .null, []), (1, 2, 0, 0, .null, []), (49, 13, 1, 4, .null, [(0, 188), (0, 189), (0, 190), (0, 14)]), (49, 15, 1, 4, .null, [(0, 286), (0, 287), (0, 288), (0, 14)]), (7, 2, 0, 0, .int 1, []), (32, 0, 4, 0, .null, []), (54, 0, 0, 0, .null, [])]
def qr_18 : List qRow := [(0, .aload_n 0, 1), (1, .invokevirtual 28, 3), (4, .iconst 0, 1), (5, .istore_n 2, 1), (6, .iload_n 2, 1), (7, .aload_n 1, 1), (8, .invokevirtual 31, 3), (11, .if_icmp .ge 18, 3), (14, .aload_n 0, 1), (15, .aload_n 1, 1), (16, .iload_n 2, 1), (17, .invokevirtual 19, 3), (20, .invokevirtual 24, 3), (23, .iinc 2 1, 3), (26, .goto (-20), 3), (29, .return_, 1)]
def qo_19 : List qOp := [(0, 0, 0, 0, .int 0, []), (4, 1, 0, 0, .null, []), (0, 0, 0, 0, .int 0, []), (4, 2, 0, 0, .null, []), (1, 2, 0, 0, .null, []), (3, 0, 0, 0, .null, []), (34, 4, 1, 37, .null, []), (29, 3, 15, 0, .null, []), (3, 0, 0, 0, .null, []), (1, 2, 0, 0, .null, []), (49, 12, 1, 4, .null, [(0, 184), (0, 185), (0, 186), (0, 14)]), (28, 0, 13, 0, .null, []), (7, 1, 0, 0, .int 1, []), (7, 2, 0, 0, .int 1, []), (32, 0, 4, 0, .null, []), (1, 1, 0, 0, .null, []), (50, 0, 0, 0, .null, [])]
def qr_19 : List qRow := [(0, .iconst 0, 1), (1, .istore_n 1, 1), (2, .iconst 0, 1), (3, .istore_n 2, 1), (4, .iload_n 2, 1), (5, .aload_n 0, 1), (6, .getfield 15, 3), (9, .if_icmp .ge 20, 3), (12, .aload_n 0, 1), (13, .iload_n 2, 1), (14, .invokevirtual 34, 3), (17, .ifCond .eq 6, 3), (20, .iinc 1 1, 3), (23, .iinc 2 1, 3), (26, .goto (-22), 3), (29, .iload_n 1, 1), (30, .ireturn, 1)]
def qo_20 : List qOp := [(0, 192, 0, 0, .int (-1000000001), []), (4, 1, 0, 0, .null, []), (0, 0, 0, 0, .int 0, []), (4, 2, 0, 0, .null, []), (1, 2, 0, 0, .null, []), (3, 0, 0, 0, .null, []), (34, 4, 1, 37, .null, []), (29, 3, 26, 0, .null, []), (3, 0, 0, 0, .null, []), (1, 2, 0, 0, .null, []), (49, 12, 1, 4, .null, [(0, 184), (0, 185), (0, 186), (0, 14)]), (28, 0, 24, 0, .null, []), (1, 1, 0, 0, .null, []), (0, 192, 0, 0, .int (-1000000001), []), (29, 0, 20, 0, .null, []), (3, 0, 0, 0, .null, []), (1, 2, 0, 0, .null, []), (49, 13, 1, 4, .null, [(0, 188), (0, 189), (0, 190), (0, 14)]), (1, 1, 0, 0, .null, []), (29, 3, 24, 0, .null, []), (3, 0, 0, 0, .null, []), (1, 2, 0, 0, .null, []), (49, 13, 1, 4, .null, [(0, 188), (0, 189), (0, 190), (0, 14)]), (4, 1, 0, 0, .null, []), (7, 2, 0, 0, .int 1, []), (32, 0, 4, 0, .null, []), (1, 1, 0, 0, .null, []), (50, 0, 0, 0, .null, [])]
def qr_20 : List qRow := [(0, .ldc 23, 2), (2, .istore_n 1, 1), (3, .iconst 0, 1), (4, .istore_n 2, 1), (5, .iload_n 2, 1), (6, .aload_n 0, 1), (7, .getfield 15, 3), (10, .if_icmp .ge 38, 3), (13, .aload_n 0, 1), (14, .iload_n 2, 1), (15, .invokevirtual 34, 3), (18, .ifCond .eq 24, 3), (21, .iload_n 1, 1), (22, .ldc 23, 2), (24, .if_icmp .eq 12, 3), (27, .aload_n 0, 1), (28, .iload_n 2, 1), (29, .invokevirtual 19, 3), (32, .iload_n 1, 1), (33, .if_icmp .ge 9, 3), (36, .aload_n 0, 1), (37, .iload_n 2, 1), (38, .invokevirtual 19, 3), (41, .istore_n 1, 1), (42, .iinc 2 1, 3), (45, .goto (-40), 3), (48, .iload_n 1, 1), (49, .ireturn, 1)]
def qo_21 : List qOp := [(0, 192, 0, 0, .int (-1000000001), []), (4, 1, 0, 0, .null, []), (0, 0, 0, 0, .int 0, []), (4, 2, 0, 0, .null, []), (1, 2, 0, 0, .null, []), (3, 0, 0, 0, .null, []), (34, 4, 1, 37, .null, []), (29, 3, 16, 0, .null, []), (1, 1, 0, 0, .null, []), (3, 0, 0, 0, .null, []), (1, 2, 0, 0, .null, []), (49, 13, 1, 4, .null, [(0, 188), (0, 189), (0, 190), (0, 14)]), (48, 72, 2, 0, .null, [(0, 201), (0, 202), (0, 20)]), (4, 1, 0, 0, .null, []), (7, 2, 0, 0, .int 1, []), (32, 0, 4, 0, .null, []), (1, 1, 0, 0, .null, []), (50, 0, 0, 0, .null, [])]
def qr_21 : List qRow := [(0, .ldc 23, 2), (2, .istore_n 1, 1), (3, .iconst 0, 1), (4, .istore_n 2, 1), (5, .iload_n 2, 1), (6, .aload_n 0, 1), (7, .getfield 15, 3), (10, .if_icmp .ge 19, 3), (13, .iload_n 1, 1), (14, .aload_n 0, 1), (15, .iload_n 2, 1), (16, .invokevirtual 19, 3), (19, .invokestatic 38, 3), (22, .istore_n 1, 1), (23, .iinc 2 1, 3), (26, .goto (-21), 3), (29, .iload_n 1, 1), (30, .ireturn, 1)]
def qo_22 : List qOp := [(0, 0, 0, 0, .int 0, []), (4, 1, 0, 0, .null, []), (0, 0, 0, 0, .int 0, []), (4, 2, 0, 0, .null, []), (1, 2, 0, 0, .null, []), (3, 0, 0, 0, .null, []), (34, 4, 1, 37, .null, []), (29, 3, 15, 0, .null, []), (3, 0, 0, 0, .null, []), (1, 2, 0, 0, .null, []), (49, 24, 1, 4, .null, [(0, 208), (0, 210), (0, 0), (0, 14)]), (28, 0, 13, 0, .null, []), (7, 1, 0, 0, .int 1, []), (7, 2, 0, 0, .int 1, []), (32, 0, 4, 0, .null, []), (1, 1, 0, 0, .null, []), (50, 0, 0, 0, .null, [])]
def qr_22 : List qRow := [(0, .iconst 0, 1), (1, .istore_n 1, 1), (2, .iconst 0, 1), (3, .istore_n 2, 1), (4, .iload_n 2, 1), (5, .aload_n 0, 1), (6, .getfield 15, 3), (9, .if_icmp .ge 20, 3), (12, .aload_n 0, 1), (13, .iload_n 2, 1), (14, .invokevirtual 44, 3), (17, .ifCond .eq 6, 3), (20, .iinc 1 1, 3), (23, .iinc 2 1, 3), (26, .goto (-22), 3), (29, .iload_n 1, 1), (30, .ireturn, 1)]
def qo_23 : List qOp := [(0, 0, 0, 0, .int 0, []), (4, 1, 0, 0, .null, []), (0, 0, 0, 0, .int 0, []), (4, 2, 0, 0, .null, []), (1, 2, 0, 0, .null, []), (3, 0, 0, 0, .null, []), (34, 4, 1, 37, .null, []), (29, 3, 22, 0, .null, []), (3, 0, 0, 0, .null, []), (1, 2, 0, 0, .null, []), (49, 24, 1, 4, .null, [(0, 208), (0, 210), (0, 0), (0, 14)]), (28, 0, 20, 0, .null, []), (1, 1, 0, 0, .null, []), (3, 0, 0, 0, .null, []), (1, 2, 0, 0, .null, []), (49, 25, 1, 4, .null, [(0, 216), (0, 217), (0, 218), (0, 14)]), (1, 2, 0, 0, .null, []), (9, 0, 0, 0, .null, []), (48, 72, 2, 0, .null, [(0, 201), (0, 202), (0, 20)]), (4, 1, 0, 0, .null, []), (7, 2, 0, 0, .int 1, []), (32, 0, 4, 0, .null, []), (1, 1, 0, 0, .null, []), (50, 0, 0, 0, .null, [])]
def qr_23 : List qRow := [(0, .iconst 0, 1), (1, .istore_n 1, 1), (2, .iconst 0, 1), (3, .istore_n 2, 1), (4, .iload_n 2, 1), (5, .aload_n 0, 1), (6, .getfield 15, 3), (9, .if_icmp .ge 29, 3), (12, .aload_n 0, 1), (13, .iload_n 2, 1), (14, .invokevirtual 44, 3), (17, .ifCond .eq 15, 3), (20, .iload_n 1, 1), (21, .aload_n 0, 1), (22, .iload_n 2, 1), (23, .invokevirtual 47, 3), (26, .iload_n 2, 1), (27, .isub, 1), (28, .invokestatic 38, 3), (31, .istore_n 1, 1), (32, .iinc 2 1, 3), (35, .goto (-31), 3), (38, .iload_n 1, 1), (39, .ireturn, 1)]
def qo_24 : List qOp := [(3, 0, 0, 0, .null, []), (1, 1, 0, 0, .null, []), (49, 12, 1, 4, .null, [(0, 184), (0, 185), (0, 186), (0, 14)]), (28, 1, 14, 0, .null, []), (1, 1, 0, 0, .null, []), (28, 0, 12, 0, .null, []), (3, 0, 0, 0, .null, []), (1, 1, 0, 0, .null, []), (0, 0, 0, 0, .int 1, []), (9, 0, 0, 0, .null, []), (49, 12, 1, 4, .null, [(0, 184), (0, 185), (0, 186), (0, 14)]), (28, 0, 14, 0, .null, []), (0, 0, 0, 0, .int 1, []), (32, 0, 15, 0, .null, []), (0, 0, 0, 0, .int 0, []), (51, 0, 0, 0, .null, [])]
def qr_24 : List qRow := [(0, .aload_n 0, 1), (1, .iload_n 1, 1), (2, .invokevirtual 34, 3), (5, .ifCond .ne 21, 3), (8, .iload_n 1, 1), (9, .ifCond .eq 13, 3), (12, .aload_n 0, 1), (13, .iload_n 1, 1), (14, .iconst 1, 1), (15, .isub, 1), (16, .invokevirtual 34, 3), (19, .ifCond .eq 7, 3), (22, .iconst 1, 1), (23, .goto 4, 3), (26, .iconst 0, 1), (27, .ireturn, 1)]
def qo_25 : List qOp := [(1, 1, 0, 0, .null, []), (4, 2, 0, 0, .null, []), (1, 2, 0, 0, .null, []), (3, 0, 0, 0, .null, []), (34, 4, 1, 37, .null, []), (29, 3, 12, 0, .null, []), (3, 0, 0, 0, .null, []), (1, 2, 0, 0, .null, []), (49, 12, 1, 4, .null, [(0, 184), (0, 185), (0, 186), (0, 14)]), (28, 1, 12, 0, .null, []), (7, 2, 0, 0, .int 1, []), (32, 0, 2, 0, .null, []), (1, 2, 0, 0, .null, []), (50, 0, 0, 0, .null, [])]
def qr_25 : List qRow := [(0, .iload_n 1, 1), (1, .istore_n 2, 1), (2, .iload_n 2, 1), (3, .aload_n 0, 1), (4, .getfield 15, 3), (7, .if_icmp .ge 17, 3), (10, .aload_n 0, 1), (11, .iload_n 2, 1), (12, .invokevirtual 34, 3), (15, .ifCond .ne 9, 3), (18, .iinc 2 1, 3), (21, .goto (-19), 3), (24, .iload_n 2, 1), (25, .ireturn, 1)]
def qo_26 : List qOp := [(3, 0, 0, 0, .null, []), (1, 1, 0, 0, .null, []), (49, 12, 1, 4, .null, [(0, 184), (0, 185), (0, 186), (0, 14)]), (28, 0, 11, 0, .null, []), (3, 0, 0, 0, .null, []), (1, 2, 0, 0, .null, []), (49, 12, 1, 4, .null, [(0, 184), (0, 185), (0, 186), (0, 14)]), (28, 0, 11, 0, .null, []), (1, 2, 0, 0, .null, []), (1, 1, 0, 0, .null, []), (29, 4, 13, 0, .null, []), (0, 0, 0, 0, .long 0, []), (52, 0, 0, 0, .null, []), (3, 0, 0, 0, .null, []), (1, 2, 0, 0, .null, []), (49, 13, 1, 4, .null, [(0, 188), (0, 189), (0, 190), (0, 14)]), (3, 0, 0, 0, .null, []), (1, 1, 0, 0, .null, []), (49, 13, 1, 4, .null, [(0, 188), (0, 189), (0, 190), (0, 14)]), (9, 0, 0, 0, .null, []), (26, 0, 0, 0, .null, []), (5, 4, 0, 0, .null, []), (3, 0, 0, 0, .null, []), (1, 1, 0, 0, .null, []), (49, 13, 1, 4, .null, [(0, 188), (0, 189), (0, 190), (0, 14)]), (26, 0, 0, 0, .null, []), (2, 4, 0, 0, .null, []), (1, 3, 0, 0, .null, []), (1, 1, 0, 0, .null, []), (9, 0, 0, 0, .null, []), (26, 0, 0, 0, .null, []), (20, 0, 0, 0, .null, []), (1, 2, 0, 0, .null, []), (1, 1, 0, 0, .null, []), (9, 0, 0, 0, .null, []), (26, 0, 0, 0, .null, []), (48, 71, 2, 0, .null, [(0, 334), (0, 335), (0, 20)]), (18, 0, 0, 0, .null, []), (52, 0, 0, 0, .null, [])]
def qr_26 : List qRow := [(0, .aload_n 0, 1), (1, .iload_n 1, 1), (2, .invokevirtual 34, 3), (5, .ifCond .eq 16, 3), (8, .aload_n 0, 1), (9, .iload_n 2, 1), (10, .invokevirtual 34, 3), (13, .ifCond .eq 8, 3), (16, .iload_n 2, 1), (17, .iload_n 1, 1), (18, .if_icmp .gt 5, 3), (21, .lconst 0, 1), (22, .lreturn, 1), (23, .aload_n 0, 1), (24, .iload_n 2, 1), (25, .invokevirtual 19, 3), (28, .aload_n 0, 1), (29, .iload_n 1, 1), (30, .invokevirtual 19, 3), (33, .isub, 1), (34, .i2l, 1), (35, .lstore 4, 2), (37, .aload_n 0, 1), (38, .iload_n 1, 1), (39, .invokevirtual 19, 3), (42, .i2l, 1), (43, .lload 4, 2), (45, .iload_n 3, 1), (46, .iload_n 1, 1), (47, .isub, 1), (48, .i2l, 1), (49, .lmul, 1), (50, .iload_n 2, 1), (51, .iload_n 1, 1), (52, .isub, 1), (53, .i2l, 1), (54, .invokestatic 50, 3), (57, .ladd, 1), (58, .lreturn, 1)]
def qo_27 : List qOp := [(3, 0, 0, 0, .null, []), (0, 0, 0, 0, .int 2, []), (0, 0, 0, 0, .int 1, []), (1, 1, 0, 0, .null, []), (0, 0, 0, 0, .int 1, []), (9, 0, 0, 0, .null, []), (49, 29, 3, 4, .null, [(0, 228), (0, 229), (0, 230), (0, 14)]), (4, 3, 0, 0, .null, []), (1, 3, 0, 0, .null, []), (0, 192, 0, 0, .int (-1000000001), []), (29, 0, 23, 0, .null, []), (1, 3, 0, 0, .null, []), (0, 0, 0, 0, .int 2, []), (1, 2, 0, 0, .null, []), (10, 0, 0, 0, .null, []), (29, 4, 21, 0, .null, []), (1, 3, 0, 0, .null, []), (0, 0, 0, 0, .int (-2), []), (1, 2, 0, 0, .null, []), (10, 0, 0, 0, .null, []), (29, 3, 23, 0, .null, []), (0, 0, 0, 0, .int 1, []), (32, 0, 24, 0, .null, []), (0, 0, 0, 0, .int 0, []), (51, 0, 0, 0, .null, [])]
def qr_27 : List qRow := [(0, .aload_n 0, 1), (1, .iconst 2, 1), (2, .iconst 1, 1), (3, .iload_n 1, 1), (4, .iconst 1, 1), (5, .isub, 1), (6, .invokevirtual 54, 3), (9, .istore_n 3, 1), (10, .iload_n 3, 1), (11, .ldc 23, 2), (13, .if_icmp .eq 22, 3), (16, .iload_n 3, 1), (17, .iconst 2, 1), (18, .iload_n 2, 1), (19, .imul, 1), (20, .if_icmp .gt 11, 3), (23, .iload_n 3, 1), (24, .bipush (-2), 2), (26, .iload_n 2, 1), (27, .imul, 1), (28, .if_icmp .ge 7, 3), (31, .iconst 1, 1), (32, .goto 4, 3), (35, .iconst 0, 1), (36, .ireturn, 1)]
def qo_28 : List qOp := [(0, 0, 0, 0, .int 0, []), (4, 3, 0, 0, .null, []), (0, 0, 0, 0, .int 0, []), (4, 4, 0, 0, .null, []), (1, 4, 0, 0, .null, []), (3, 0, 0, 0, .null, []), (34, 4, 1, 37, .null, []), (29, 3, 18, 0, .null, []), (3, 0, 0, 0, .null, []), (1, 1, 0, 0, .null, []), (1, 2, 0, 0, .null, []), (1, 4, 0, 0, .null, []), (49, 29, 3, 4, .null, [(0, 228), (0, 229), (0, 230), (0, 14)]), (0, 192, 0, 0, .int (-1000000001), []), (29, 0, 16, 0, .null, []), (7, 3, 0, 0, .int 1, []), (7, 4, 0, 0, .int 1, []), (32, 0, 4, 0, .null, []), (1, 3, 0, 0, .null, []), (50, 0, 0, 0, .null, [])]
def qr_28 : List qRow := [(0, .iconst 0, 1), (1, .istore_n 3, 1), (2, .iconst 0, 1), (3, .istore 4, 2), (5, .iload 4, 2), (7, .aload_n 0, 1), (8, .getfield 15, 3), (11, .if_icmp .ge 25, 3), (14, .aload_n 0, 1), (15, .iload_n 1, 1), (16, .iload_n 2, 1), (17, .iload 4, 2), (19, .invokevirtual 54, 3), (22, .ldc 23, 2), (24, .if_icmp .eq 6, 3), (27, .iinc 3 1, 3), (30, .iinc 4 1, 3), (33, .goto (-28), 3), (36, .iload_n 3, 1), (37, .ireturn, 1)]
def qo_29 : List qOp := [(3, 0, 0, 0, .null, []), (1, 3, 0, 0, .null, []), (49, 11, 1, 4, .null, [(0, 232), (0, 233), (0, 234), (0, 14)]), (28, 1, 6, 0, .null, []), (0, 192, 0, 0, .int (-1000000001), []), (50, 0, 0, 0, .null, []), (1, 1, 0, 0, .null, []), (0, 0, 0, 0, .int 2, []), (29, 1, 14, 0, .null, []), (3, 0, 0, 0, .null, []), (1, 2, 0, 0, .null, []), (1, 3, 0, 0, .null, []), (49, 30, 2, 4, .null, [(0, 236), (0, 238), (0, 2), (0, 14)]), (50, 0, 0, 0, .null, []), (1, 1, 0, 0, .null, []), (0, 0, 0, 0, .int 3, []), (29, 1, 22, 0, .null, []), (3, 0, 0, 0, .null, []), (1, 2, 0, 0, .null, []), (1, 3, 0, 0, .null, []), (49, 31, 2, 4, .null, [(0, 240), (0, 242), (0, 3), (0, 14)]), (32, 0, 26, 0, .null, []), (3, 0, 0, 0, .null, []), (1, 2, 0, 0, .null, []), (1, 3, 0, 0, .null, []), (49, 32, 2, 4, .null, [(0, 244), (0, 246), (0, 4), (0, 14)]), (50, 0, 0, 0, .null, [])]
def qr_29 : List qRow := [(0, .aload_n 0, 1), (1, .iload_n 3, 1), (2, .invokevirtual 58, 3), (5, .ifCond .ne 6, 3), (8, .ldc 23, 2), (10, .ireturn, 1), (11, .iload_n 1, 1), (12, .iconst 2, 1), (13, .if_icmp .ne 10, 3), (16, .aload_n 0, 1), (17, .iload_n 2, 1), (18, .iload_n 3, 1), (19, .invokevirtual 61, 3), (22, .ireturn, 1), (23, .iload_n 1, 1), (24, .iconst 3, 1), (25, .if_icmp .ne 12, 3), (28, .aload_n 0, 1), (29, .iload_n 2, 1), (30, .iload_n 3, 1), (31, .invokevirtual 64, 3), (34, .goto 9, 3), (37, .aload_n 0, 1), (38, .iload_n 2, 1), (39, .iload_n 3, 1), (40, .invokevirtual 67, 3), (43, .ireturn, 1)]
def qo_30 : List qOp := [(3, 0, 0, 0, .null, []), (1, 2, 0, 0, .null, []), (49, 13, 1, 4, .null, [(0, 188), (0, 189), (0, 190), (0, 14)]), (4, 3, 0, 0, .null, []), (3, 0, 0, 0, .null, []), (1, 2, 0, 0, .null, []), (1, 1, 0, 0, .null, []), (8, 0, 0, 0, .null, []), (49, 13, 1, 4, .null, [(0, 188), (0, 189), (0, 190), (0, 14)]), (4, 4, 0, 0, .null, []), (3, 0, 0, 0, .null, []), (1, 2, 0, 0, .null, []), (0, 0, 0, 0, .int 2, []), (1, 1, 0, 0, .null, []), (10, 0, 0, 0, .null, []), (8, 0, 0, 0, .null, []), (49, 13, 1, 4, .null, [(0, 188), (0, 189), (0, 190), (0, 14)]), (4, 5, 0, 0, .null, []), (1, 3, 0, 0, .null, []), (0, 192, 0, 0, .int (-1000000001), []), (29, 0, 27, 0, .null, []), (1, 4, 0, 0, .null, []), (0, 192, 0, 0, .int (-1000000001), []), (29, 0, 27, 0, .null, []), (1, 5, 0, 0, .null, []), (0, 192, 0, 0, .int (-1000000001), []), (29, 1, 29, 0, .null, []), (0, 192, 0, 0, .int (-1000000001), []), (50, 0, 0, 0, .null, []), (1, 5, 0, 0, .null, []), (0, 0, 0, 0, .int 2, []), (1, 4, 0, 0, .null, []), (10, 0, 0, 0, .null, []), (9, 0, 0, 0, .null, []), (1, 3, 0, 0, .null, []), (8, 0, 0, 0, .null, []), (50, 0, 0, 0, .null, [])]
def qr_30 : List qRow := [(0, .aload_n 0, 1), (1, .iload_n 2, 1), (2, .invokevirtual 19, 3), (5, .istore_n 3, 1), (6, .aload_n 0, 1), (7, .iload_n 2, 1), (8, .iload_n 1, 1), (9, .iadd, 1), (10, .invokevirtual 19, 3), (13, .istore 4, 2), (15, .aload_n 0, 1), (16, .iload_n 2, 1), (17, .iconst 2, 1), (18, .iload_n 1, 1), (19, .imul, 1), (20, .iadd, 1), (21, .invokevirtual 19, 3), (24, .istore 5, 2), (26, .iload_n 3, 1), (27, .ldc 23, 2), (29, .if_icmp .eq 17, 3), (32, .iload 4, 2), (34, .ldc 23, 2), (36, .if_icmp .eq 10, 3), (39, .iload 5, 2), (41, .ldc 23, 2), (43, .if_icmp .ne 6, 3), (46, .ldc 23, 2), (48, .ireturn, 1), (49, .iload 5, 2), (51, .iconst 2, 1), (52, .iload 4, 2), (54, .imul, 1), (55, .isub, 1), (56, .iload_n 3, 1), (57, .iadd, 1), (58, .ireturn, 1)]
def qo_31 : List qOp := [(3, 0, 0, 0, .null, []), (1, 2, 0, 0, .null, []), (49, 13, 1, 4, .null, [(0, 188), (0, 189), (0, 190), (0, 14)]), (4, 3, 0, 0, .null, []), (3, 0, 0, 0, .null, []), (1, 2, 0, 0, .null, []), (1, 1, 0, 0, .null, []), (8, 0, 0, 0, .null, []), (49, 13, 1, 4, .null, [(0, 188), (0, 189), (0, 190), (0, 14)]), (4, 4, 0, 0, .null, []), (3, 0, 0, 0, .null, []), (1, 2, 0, 0, .null, []), (0, 0, 0, 0, .int 2, []), (1, 1, 0, 0, .null, []), (10, 0, 0, 0, .null, []), (8, 0, 0, 0, .null, []), (49, 13, 1, 4, .null, [(0, 188), (0, 189), (0, 190), (0, 14)]), (4, 5, 0, 0, .null, []), (3, 0, 0, 0, .null, []), (1, 2, 0, 0, .null, []), (0, 0, 0, 0, .int 3, []), (1, 1, 0, 0, .null, []), (10, 0, 0, 0, .null, []), (8, 0, 0, 0, .null, []), (49, 13, 1, 4, .null, [(0, 188), (0, 189), (0, 190), (0, 14)]), (4, 6, 0, 0, .null, []), (1, 3, 0, 0, .null, []), (0, 192, 0, 0, .int (-1000000001), []), (29, 0, 38, 0, .null, []), (1, 4, 0, 0, .null, []), (0, 192, 0, 0, .int (-1000000001), []), (29, 0, 38, 0, .null, []), (1, 5, 0, 0, .null, []), (0, 192, 0, 0, .int (-1000000001), []), (29, 0, 38, 0, .null, []), (1, 6, 0, 0, .null, []), (0, 192, 0, 0, .int (-1000000001), []), (29, 1, 40, 0, .null, []), (0, 192, 0, 0, .int (-1000000001), []), (50, 0, 0, 0, .null, []), (1, 6, 0, 0, .null, []), (0, 0, 0, 0, .int 3, []), (1, 5, 0, 0, .null, []), (10, 0, 0, 0, .null, []), (9, 0, 0, 0, .null, []), (0, 0, 0, 0, .int 3, []), (1, 4, 0, 0, .null, []), (10, 0, 0, 0, .null, []), (8, 0, 0, 0, .null, []), (1, 3, 0, 0, .null, []), (9, 0, 0, 0, .null, []), (50, 0, 0, 0, .null, [])]
def qr_31 : List qRow := [(0, .aload_n 0, 1), (1, .iload_n 2, 1), (2, .invokevirtual 19, 3), (5, .istore_n 3, 1), (6, .aload_n 0, 1), (7, .iload_n 2, 1), (8, .iload_n 1, 1), (9, .iadd, 1), (10, .invokevirtual 19, 3), (13, .istore 4, 2), (15, .aload_n 0, 1), (16, .iload_n 2, 1), (17, .iconst 2, 1), (18, .iload_n 1, 1), (19, .imul, 1), (20, .iadd, 1), (21, .invokevirtual 19, 3), (24, .istore 5, 2), (26, .aload_n 0, 1), (27, .iload_n 2, 1), (28, .iconst 3, 1), (29, .iload_n 1, 1), (30, .imul, 1), (31, .iadd, 1), (32, .invokevirtual 19, 3), (35, .istore 6, 2), (37, .iload_n 3, 1), (38, .ldc 23, 2), (40, .if_icmp .eq 24, 3), (43, .iload 4, 2), (45, .ldc 23, 2), (47, .if_icmp .eq 17, 3), (50, .iload 5, 2), (52, .ldc 23, 2), (54, .if_icmp .eq 10, 3), (57, .iload 6, 2), (59, .ldc 23, 2), (61, .if_icmp .ne 6, 3), (64, .ldc 23, 2), (66, .ireturn, 1), (67, .iload 6, 2), (69, .iconst 3, 1), (70, .iload 5, 2), (72, .imul, 1), (73, .isub, 1), (74, .iconst 3, 1), (75, .iload 4, 2), (77, .imul, 1), (78, .iadd, 1), (79, .iload_n 3, 1), (80, .isub, 1), (81, .ireturn, 1)]
def qo_32 : List qOp := [(0, 0, 0, 0, .int 0, []), (4, 3, 0, 0, .null, []), (0, 0, 0, 0, .int 0, []), (4, 4, 0, 0, .null, []), (1, 4, 0, 0, .null, []), (1, 1, 0, 0, .null, []), (29, 3, 25, 0, .null, []), (3, 0, 0, 0, .null, []), (1, 1, 0, 0, .null, []), (1, 2, 0, 0, .null, []), (1, 4, 0, 0, .null, []), (8, 0, 0, 0, .null, []), (49, 30, 2, 4, .null, [(0, 236), (0, 238), (0, 2), (0, 14)]), (4, 5, 0, 0, .null, []), (1, 5, 0, 0, .null, []), (0, 192, 0, 0, .int (-1000000001), []), (29, 1, 19, 0, .null, []), (0, 192, 0, 0, .int (-1000000001), []), (50, 0, 0, 0, .null, []), (1, 3, 0, 0, .null, []), (1, 5, 0, 0, .null, []), (8, 0, 0, 0, .null, []), (4, 3, 0, 0, .null, []), (7, 4, 0, 0, .int 1, []), (32, 0, 4, 0, .null, []), (1, 3, 0, 0, .null, []), (50, 0, 0, 0, .null, [])]
def qr_32 : List qRow := [(0, .iconst 0, 1), (1, .istore_n 3, 1), (2, .iconst 0, 1), (3, .istore 4, 2), (5, .iload 4, 2), (7, .iload_n 1, 1), (8, .if_icmp .ge 35, 3), (11, .aload_n 0, 1), (12, .iload_n 1, 1), (13, .iload_n 2, 1), (14, .iload 4, 2), (16, .iadd, 1), (17, .invokevirtual 61, 3), (20, .istore 5, 2), (22, .iload 5, 2), (24, .ldc 23, 2), (26, .if_icmp .ne 6, 3), (29, .ldc 23, 2), (31, .ireturn, 1), (32, .iload_n 3, 1), (33, .iload 5, 2), (35, .iadd, 1), (36, .istore_n 3, 1), (37, .iinc 4 1, 3), (40, .goto (-35), 3), (43, .iload_n 3, 1), (44, .ireturn, 1)]
def qo_33 : List qOp := [(3, 0, 0, 0, .null, []), (34, 5, 1, 89, .null, []), (50, 0, 0, 0, .null, [])]
def qr_33 : List qRow := [(0, .aload_n 0, 1), (1, .getfield 15, 3), (4, .ireturn, 1)]
def qo_34 : List qOp := [(1, 1, 0, 0, .null, []), (26, 0, 0, 0, .null, []), (48, 55, 1, 0, .null, [(0, 263), (0, 264), (0, 13)]), (28, 1, 6, 0, .null, []), (0, 256, 0, 0, .int (-1000000002), []), (50, 0, 0, 0, .null, []), (3, 0, 0, 0, .null, []), (36, 6, 0, 133, .null, []), (49, 10, 0, 4, .null, [(0, 176), (0, 177), (0, 178), (0, 14)]), (0, 0, 0, 0, .int 64, []), (29, 2, 13, 0, .null, []), (0, 268, 0, 0, .int (-1000000004), []), (50, 0, 0, 0, .null, []), (3, 0, 0, 0, .null, []), (36, 6, 3, 136, .null, []), (3, 0, 0, 0, .null, []), (36, 6, 0, 133, .null, []), (49, 7, 1, 1, .null, [(0, 269), (0, 270), (0, 271), (0, 15)]), (3, 0, 0, 0, .null, []), (36, 6, 0, 133, .null, []), (1, 1, 0, 0, .null, []), (49, 15, 1, 4, .null, [(0, 290), (0, 287), (0, 288), (0, 14)]), (3, 0, 0, 0, .null, []), (36, 6, 0, 133, .null, []), (49, 10, 0, 4, .null, [(0, 176), (0, 177), (0, 178), (0, 14)]), (0, 0, 0, 0, .int 1, []), (9, 0, 0, 0, .null, []), (50, 0, 0, 0, .null, [])]
def qr_34 : List qRow := [(0, .iload_n 1, 1), (1, .i2l, 1), (2, .invokestatic 61, 3), (5, .ifCond .ne 6, 3), (8, .ldc 65, 2), (10, .ireturn, 1), (11, .aload_n 0, 1), (12, .getfield 10, 3), (15, .invokevirtual 66, 3), (18, .bipush 64, 2), (20, .if_icmp .lt 6, 3), (23, .ldc 70, 2), (25, .ireturn, 1), (26, .aload_n 0, 1), (27, .getfield 26, 3), (30, .aload_n 0, 1), (31, .getfield 10, 3), (34, .invokevirtual 71, 3), (37, .aload_n 0, 1), (38, .getfield 10, 3), (41, .iload_n 1, 1), (42, .invokevirtual 75, 3), (45, .aload_n 0, 1), (46, .getfield 10, 3), (49, .invokevirtual 66, 3), (52, .iconst 1, 1), (53, .isub, 1), (54, .ireturn, 1)]
def qo_35 : List qOp := [(1, 1, 0, 0, .null, []), (0, 0, 0, 0, .int 1, []), (29, 2, 6, 0, .null, []), (1, 1, 0, 0, .null, []), (0, 0, 0, 0, .int 64, []), (29, 5, 8, 0, .null, []), (0, 256, 0, 0, .int (-1000000002), []), (50, 0, 0, 0, .null, []), (3, 0, 0, 0, .null, []), (36, 6, 0, 133, .null, []), (49, 10, 0, 4, .null, [(0, 176), (0, 177), (0, 178), (0, 14)]), (1, 1, 0, 0, .null, []), (8, 0, 0, 0, .null, []), (0, 0, 0, 0, .int 64, []), (29, 5, 17, 0, .null, []), (0, 268, 0, 0, .int (-1000000004), []), (50, 0, 0, 0, .null, []), (3, 0, 0, 0, .null, []), (36, 6, 3, 136, .null, []), (3, 0, 0, 0, .null, []), (36, 6, 0, 133, .null, []), (49, 7, 1, 1, .null, [(0, 269), (0, 270), (0, 271), (0, 15)]), (3, 0, 0, 0, .null, []), (36, 6, 0, 133, .null, []), (0, 295, 0, 0, .int (-1000000001), []), (1, 1, 0, 0, .null, []), (49, 16, 2, 4, .null, [(0, 296), (0, 297), (0, 298), (0, 14)]), (3, 0, 0, 0, .null, []), (36, 6, 0, 133, .null, []), (49, 10, 0, 4, .null, [(0, 176), (0, 177), (0, 178), (0, 14)]), (50, 0, 0, 0, .null, [])]
def qr_35 : List qRow := [(0, .iload_n 1, 1), (1, .iconst 1, 1), (2, .if_icmp .lt 9, 3), (5, .iload_n 1, 1), (6, .bipush 64, 2), (8, .if_icmp .le 6, 3), (11, .ldc 65, 2), (13, .ireturn, 1), (14, .aload_n 0, 1), (15, .getfield 10, 3), (18, .invokevirtual 66, 3), (21, .iload_n 1, 1), (22, .iadd, 1), (23, .bipush 64, 2), (25, .if_icmp .le 6, 3), (28, .ldc 70, 2), (30, .ireturn, 1), (31, .aload_n 0, 1), (32, .getfield 26, 3), (35, .aload_n 0, 1), (36, .getfield 10, 3), (39, .invokevirtual 71, 3), (42, .aload_n 0, 1), (43, .getfield 10, 3), (46, .ldc 79, 2), (48, .iload_n 1, 1), (49, .invokevirtual 80, 3), (52, .aload_n 0, 1), (53, .getfield 10, 3), (56, .invokevirtual 66, 3), (59, .ireturn, 1)]
def qo_36 : List qOp := [(3, 0, 0, 0, .null, []), (36, 6, 0, 133, .null, []), (1, 1, 0, 0, .null, []), (49, 11, 1, 4, .null, [(0, 305), (0, 233), (0, 234), (0, 14)]), (28, 0, 12, 0, .null, []), (1, 2, 0, 0, .null, []), (0, 295, 0, 0, .int (-1000000001), []), (29, 0, 14, 0, .null, []), (1, 2, 0, 0, .null, []), (26, 0, 0, 0, .null, []), (48, 55, 1, 0, .null, [(0, 263), (0, 264), (0, 13)]), (28, 1, 14, 0, .null, []), (0, 256, 0, 0, .int (-1000000002), []), (50, 0, 0, 0, .null, []), (3, 0, 0, 0, .null, []), (36, 6, 0, 133, .null, []), (1, 1, 0, 0, .null, []), (49, 13, 1, 4, .null, [(0, 306), (0, 189), (0, 190), (0, 14)]), (4, 3, 0, 0, .null, []), (3, 0, 0, 0, .null, []), (36, 6, 3, 136, .null, []), (3, 0, 0, 0, .null, []), (36, 6, 0, 133, .null, []), (49, 7, 1, 1, .null, [(0, 269), (0, 270), (0, 271), (0, 15)]), (3, 0, 0, 0, .null, []), (36, 6, 0, 133, .null, []), (1, 1, 0, 0, .null, []), (1, 2, 0, 0, .null, []), (49, 14, 2, 4, .null, [(0, 307), (0, 308), (0, 309), (0, 14)]), (1, 3, 0, 0, .null, []), (50, 0, 0, 0, .null, [])]
def qr_36 : List qRow := [(0, .aload_n 0, 1), (1, .getfield 10, 3), (4, .iload_n 1, 1), (5, .invokevirtual 84, 3), (8, .ifCond .eq 17, 3), (11, .iload_n 2, 1), (12, .ldc 79, 2), (14, .if_icmp .eq 14, 3), (17, .iload_n 2, 1), (18, .i2l, 1), (19, .invokestatic 61, 3), (22, .ifCond .ne 6, 3), (25, .ldc 65, 2), (27, .ireturn, 1), (28, .aload_n 0, 1), (29, .getfield 10, 3), (32, .iload_n 1, 1), (33, .invokevirtual 88, 3), (36, .istore_n 3, 1), (37, .aload_n 0, 1), (38, .getfield 26, 3), (41, .aload_n 0, 1), (42, .getfield 10, 3), (45, .invokevirtual 71, 3), (48, .aload_n 0, 1), (49, .getfield 10, 3), (52, .iload_n 1, 1), (53, .iload_n 2, 1), (54, .invokevirtual 92, 3), (57, .iload_n 3, 1), (58, .ireturn, 1)]
def qo_37 : List qOp := [(3, 0, 0, 0, .null, []), (36, 6, 0, 133, .null, []), (49, 10, 0, 4, .null, [(0, 176), (0, 177), (0, 178), (0, 14)]), (4, 1, 0, 0, .null, []), (3, 0, 0, 0, .null, []), (36, 6, 3, 136, .null, []), (3, 0, 0, 0, .null, []), (36, 6, 0, 133, .null, []), (49, 7, 1, 1, .null, [(0, 269), (0, 270), (0, 271), (0, 15)]), (3, 0, 0, 0, .null, []), (36, 6, 0, 133, .null, []), (49, 17, 0, 4, .null, [(0, 315), (0, 282), (0, 283), (0, 14)]), (1, 1, 0, 0, .null, []), (50, 0, 0, 0, .null, [])]
def qr_37 : List qRow := [(0, .aload_n 0, 1), (1, .getfield 10, 3), (4, .invokevirtual 66, 3), (7, .istore_n 1, 1), (8, .aload_n 0, 1), (9, .getfield 26, 3), (12, .aload_n 0, 1), (13, .getfield 10, 3), (16, .invokevirtual 71, 3), (19, .aload_n 0, 1), (20, .getfield 10, 3), (23, .invokevirtual 95, 3), (26, .iload_n 1, 1), (27, .ireturn, 1)]
def qo_38 : List qOp := [(3, 0, 0, 0, .null, []), (36, 6, 0, 133, .null, []), (1, 1, 0, 0, .null, []), (49, 11, 1, 4, .null, [(0, 305), (0, 233), (0, 234), (0, 14)]), (28, 0, 13, 0, .null, []), (3, 0, 0, 0, .null, []), (36, 6, 0, 133, .null, []), (1, 2, 0, 0, .null, []), (49, 11, 1, 4, .null, [(0, 305), (0, 233), (0, 234), (0, 14)]), (28, 0, 13, 0, .null, []), (1, 2, 0, 0, .null, []), (1, 1, 0, 0, .null, []), (29, 4, 15, 0, .null, []), (0, 256, 0, 0, .int (-1000000002), []), (50, 0, 0, 0, .null, []), (3, 0, 0, 0, .null, []), (36, 6, 0, 133, .null, []), (1, 1, 0, 0, .null, []), (49, 12, 1, 4, .null, [(0, 329), (0, 185), (0, 186), (0, 14)]), (28, 0, 25, 0, .null, []), (3, 0, 0, 0, .null, []), (36, 6, 0, 133, .null, []), (1, 2, 0, 0, .null, []), (49, 12, 1, 4, .null, [(0, 329), (0, 185), (0, 186), (0, 14)]), (28, 1, 27, 0, .null, []), (0, 320, 0, 0, .int (-1000000003), []), (50, 0, 0, 0, .null, []), (0, 0, 0, 0, .int 0, []), (4, 3, 0, 0, .null, []), (1, 3, 0, 0, .null, []), (3, 0, 0, 0, .null, []), (36, 6, 2, 135, .null, []), (40, 0, 0, 0, .null, []), (29, 3, 46, 0, .null, []), (3, 0, 0, 0, .null, []), (36, 6, 2, 135, .null, []), (1, 3, 0, 0, .null, []), (3, 0, 0, 0, .null, []), (36, 6, 0, 133, .null, []), (1, 1, 0, 0, .null, []), (1, 2, 0, 0, .null, []), (1, 3, 0, 0, .null, []), (49, 26, 3, 4, .null, [(0, 330), (0, 331), (0, 332), (0, 14)]), (46, 0, 0, 0, .null, []), (7, 3, 0, 0, .int 1, []), (32, 0, 29, 0, .null, []), (3, 0, 0, 0, .null, []), (49, 61, 0, 6, .null, [(0, 337), (0, 339), (0, 6), (0, 13)]), (50, 0, 0, 0, .null, [])]
def qr_38 : List qRow := [(0, .aload_n 0, 1), (1, .getfield 10, 3), (4, .iload_n 1, 1), (5, .invokevirtual 84, 3), (8, .ifCond .eq 19, 3), (11, .aload_n 0, 1), (12, .getfield 10, 3), (15, .iload_n 2, 1), (16, .invokevirtual 84, 3), (19, .ifCond .eq 8, 3), (22, .iload_n 2, 1), (23, .iload_n 1, 1), (24, .if_icmp .gt 6, 3), (27, .ldc 65, 2), (29, .ireturn, 1), (30, .aload_n 0, 1), (31, .getfield 10, 3), (34, .iload_n 1, 1), (35, .invokevirtual 98, 3), (38, .ifCond .eq 14, 3), (41, .aload_n 0, 1), (42, .getfield 10, 3), (45, .iload_n 2, 1), (46, .invokevirtual 98, 3), (49, .ifCond .ne 6, 3), (52, .ldc 101, 2), (54, .ireturn, 1), (55, .iconst 0, 1), (56, .istore_n 3, 1), (57, .iload_n 3, 1), (58, .aload_n 0, 1), (59, .getfield 19, 3), (62, .arraylength, 1), (63, .if_icmp .ge 25, 3), (66, .aload_n 0, 1), (67, .getfield 19, 3), (70, .iload_n 3, 1), (71, .aload_n 0, 1), (72, .getfield 10, 3), (75, .iload_n 1, 1), (76, .iload_n 2, 1), (77, .iload_n 3, 1), (78, .invokevirtual 102, 3), (81, .lastore, 1), (82, .iinc 3 1, 3), (85, .goto (-28), 3), (88, .aload_n 0, 1), (89, .invokevirtual 106, 3), (92, .ireturn, 1)]
def qo_39 : List qOp := [(1, 1, 0, 0, .null, []), (0, 0, 0, 0, .int (-9999), []), (29, 2, 10, 0, .null, []), (1, 1, 0, 0, .null, []), (0, 0, 0, 0, .int 9999, []), (29, 4, 10, 0, .null, []), (1, 2, 0, 0, .null, []), (26, 0, 0, 0, .null, []), (48, 55, 1, 0, .null, [(0, 263), (0, 264), (0, 13)]), (28, 1, 12, 0, .null, []), (0, 256, 0, 0, .int (-1000000002), []), (50, 0, 0, 0, .null, []), (0, 0, 0, 0, .int 0, []), (4, 3, 0, 0, .null, []), (1, 3, 0, 0, .null, []), (3, 0, 0, 0, .null, []), (36, 6, 2, 135, .null, []), (40, 0, 0, 0, .null, []), (29, 3, 34, 0, .null, []), (3, 0, 0, 0, .null, []), (36, 6, 2, 135, .null, []), (1, 3, 0, 0, .null, []), (1, 1, 0, 0, .null, []), (26, 0, 0, 0, .null, []), (1, 3, 0, 0, .null, []), (26, 0, 0, 0, .null, []), (20, 0, 0, 0, .null, []), (1, 2, 0, 0, .null, []), (26, 0, 0, 0, .null, []), (18, 0, 0, 0, .null, []), (23, 0, 0, 0, .null, []), (46, 0, 0, 0, .null, []), (7, 3, 0, 0, .int 1, []), (32, 0, 14, 0, .null, []), (3, 0, 0, 0, .null, []), (49, 61, 0, 6, .null, [(0, 337), (0, 339), (0, 6), (0, 13)]), (50, 0, 0, 0, .null, [])]
def qr_39 : List qRow := [(0, .iload_n 1, 1), (1, .sipush (-9999), 3), (4, .if_icmp .lt 18, 3), (7, .iload_n 1, 1), (8, .sipush 9999, 3), (11, .if_icmp .gt 11, 3), (14, .iload_n 2, 1), (15, .i2l, 1), (16, .invokestatic 61, 3), (19, .ifCond .ne 6, 3), (22, .ldc 65, 2), (24, .ireturn, 1), (25, .iconst 0, 1), (26, .istore_n 3, 1), (27, .iload_n 3, 1), (28, .aload_n 0, 1), (29, .getfield 19, 3), (32, .arraylength, 1), (33, .if_icmp .ge 24, 3), (36, .aload_n 0, 1), (37, .getfield 19, 3), (40, .iload_n 3, 1), (41, .iload_n 1, 1), (42, .i2l, 1), (43, .iload_n 3, 1), (44, .i2l, 1), (45, .lmul, 1), (46, .iload_n 2, 1), (47, .i2l, 1), (48, .ladd, 1), (49, .lneg, 1), (50, .lastore, 1), (51, .iinc 3 1, 3), (54, .goto (-27), 3), (57, .aload_n 0, 1), (58, .invokevirtual 106, 3), (61, .ireturn, 1)]
def qo_40 : List qOp := [(3, 0, 0, 0, .null, []), (36, 6, 0, 133, .null, []), (0, 0, 0, 0, .int 2, []), (0, 0, 0, 0, .int 1, []), (49, 28, 2, 4, .null, [(0, 224), (0, 225), (0, 226), (0, 14)]), (4, 1, 0, 0, .null, []), (1, 1, 0, 0, .null, []), (0, 0, 0, 0, .int 1, []), (29, 3, 11, 0, .null, []), (0, 320, 0, 0, .int (-1000000003), []), (50, 0, 0, 0, .null, []), (3, 0, 0, 0, .null, []), (49, 63, 0, 6, .null, [(0, 354), (0, 356), (0, 8), (0, 13)]), (1, 1, 0, 0, .null, []), (26, 0, 0, 0, .null, []), (48, 71, 2, 0, .null, [(0, 359), (0, 335), (0, 20)]), (27, 0, 0, 0, .null, []), (4, 2, 0, 0, .null, []), (0, 0, 0, 0, .int 0, []), (4, 3, 0, 0, .null, []), (1, 3, 0, 0, .null, []), (3, 0, 0, 0, .null, []), (36, 6, 2, 135, .null, []), (40, 0, 0, 0, .null, []), (29, 3, 43, 0, .null, []), (3, 0, 0, 0, .null, []), (36, 6, 2, 135, .null, []), (1, 3, 0, 0, .null, []), (1, 2, 0, 0, .null, []), (26, 0, 0, 0, .null, []), (1, 3, 0, 0, .null, []), (26, 0, 0, 0, .null, []), (20, 0, 0, 0, .null, []), (1, 3, 0, 0, .null, []), (0, 0, 0, 0, .int 1, []), (9, 0, 0, 0, .null, []), (26, 0, 0, 0, .null, []), (20, 0, 0, 0, .null, []), (0, 360, 0, 0, .long 2, []), (21, 0, 0, 0, .null, []), (46, 0, 0, 0, .null, []), (7, 3, 0, 0, .int 1, []), (32, 0, 20, 0, .null, []), (3, 0, 0, 0, .null, []), (49, 61, 0, 6, .null, [(0, 337), (0, 339), (0, 6), (0, 13)]), (0, 345, 0, 0, .int (-1000000005), []), (29, 1, 49, 0, .null, []), (0, 345, 0, 0, .int (-1000000005), []), (32, 0, 50, 0, .null, []), (1, 2, 0, 0, .null, []), (50, 0, 0, 0, .null, [])]
def qr_40 : List qRow := [(0, .aload_n 0, 1), (1, .getfield 10, 3), (4, .iconst 2, 1), (5, .iconst 1, 1), (6, .invokevirtual 109, 3), (9, .istore_n 1, 1), (10, .iload_n 1, 1), (11, .iconst 1, 1), (12, .if_icmp .ge 6, 3), (15, .ldc 101, 2), (17, .ireturn, 1), (18, .aload_n 0, 1), (19, .invokevirtual 113, 3), (22, .iload_n 1, 1), (23, .i2l, 1), (24, .invokestatic 117, 3), (27, .l2i, 1), (28, .istore_n 2, 1), (29, .iconst 0, 1), (30, .istore_n 3, 1), (31, .iload_n 3, 1), (32, .aload_n 0, 1), (33, .getfield 19, 3), (36, .arraylength, 1), (37, .if_icmp .ge 29, 3), (40, .aload_n 0, 1), (41, .getfield 19, 3), (44, .iload_n 3, 1), (45, .iload_n 2, 1), (46, .i2l, 1), (47, .iload_n 3, 1), (48, .i2l, 1), (49, .lmul, 1), (50, .iload_n 3, 1), (51, .iconst 1, 1), (52, .isub, 1), (53, .i2l, 1), (54, .lmul, 1), (55, .ldc2_w 123, 3), (58, .ldiv, 1), (59, .lastore, 1), (60, .iinc 3 1, 3), (63, .goto (-32), 3), (66, .aload_n 0, 1), (67, .invokevirtual 106, 3), (70, .ldc 125, 2), (72, .if_icmp .ne 8, 3), (75, .ldc 125, 2), (77, .goto 4, 3), (80, .iload_n 2, 1), (81, .ireturn, 1)]
def qo_41 : List qOp := [(1, 1, 0, 0, .null, []), (48, 56, 1, 0, .null, [(0, 366), (0, 367), (0, 13)]), (28, 1, 5, 0, .null, []), (0, 256, 0, 0, .int (-1000000002), []), (50, 0, 0, 0, .null, []), (0, 0, 0, 0, .int 0, []), (4, 2, 0, 0, .null, []), (3, 0, 0, 0, .null, []), (36, 6, 1, 134, .null, []), (3, 0, 0, 0, .null, []), (36, 6, 0, 133, .null, []), (49, 18, 1, 4, .null, [(0, 370), (0, 278), (0, 279), (0, 14)]), (0, 0, 0, 0, .int 0, []), (4, 3, 0, 0, .null, []), (1, 3, 0, 0, .null, []), (3, 0, 0, 0, .null, []), (36, 6, 0, 133, .null, []), (49, 10, 0, 4, .null, [(0, 176), (0, 177), (0, 178), (0, 14)]), (29, 3, 33, 0, .null, []), (3, 0, 0, 0, .null, []), (36, 6, 0, 133, .null, []), (1, 3, 0, 0, .null, []), (1, 1, 0, 0, .null, []), (49, 27, 2, 4, .null, [(0, 371), (0, 372), (0, 373), (0, 14)]), (28, 0, 31, 0, .null, []), (3, 0, 0, 0, .null, []), (36, 6, 1, 134, .null, []), (1, 3, 0, 0, .null, []), (0, 295, 0, 0, .int (-1000000001), []), (49, 14, 2, 4, .null, [(0, 307), (0, 308), (0, 309), (0, 14)]), (7, 2, 0, 0, .int 1, []), (7, 3, 0, 0, .int 1, []), (32, 0, 14, 0, .null, []), (3, 0, 0, 0, .null, []), (36, 6, 3, 136, .null, []), (3, 0, 0, 0, .null, []), (36, 6, 0, 133, .null, []), (49, 7, 1, 1, .null, [(0, 269), (0, 270), (0, 271), (0, 15)]), (3, 0, 0, 0, .null, []), (36, 6, 0, 133, .null, []), (3, 0, 0, 0, .null, []), (36, 6, 1, 134, .null, []), (49, 18, 1, 4, .null, [(0, 370), (0, 278), (0, 279), (0, 14)]), (1, 2, 0, 0, .null, []), (50, 0, 0, 0, .null, [])]
def qr_41 : List qRow := [(0, .iload_n 1, 1), (1, .invokestatic 126, 3), (4, .ifCond .ne 6, 3), (7, .ldc 65, 2), (9, .ireturn, 1), (10, .iconst 0, 1), (11, .istore_n 2, 1), (12, .aload_n 0, 1), (13, .getfield 16, 3), (16, .aload_n 0, 1), (17, .getfield 10, 3), (20, .invokevirtual 129, 3), (23, .iconst 0, 1), (24, .istore_n 3, 1), (25, .iload_n 3, 1), (26, .aload_n 0, 1), (27, .getfield 10, 3), (30, .invokevirtual 66, 3), (33, .if_icmp .ge 34, 3), (36, .aload_n 0, 1), (37, .getfield 10, 3), (40, .iload_n 3, 1), (41, .iload_n 1, 1), (42, .invokevirtual 132, 3), (45, .ifCond .eq 16, 3), (48, .aload_n 0, 1), (49, .getfield 16, 3), (52, .iload_n 3, 1), (53, .ldc 79, 2), (55, .invokevirtual 92, 3), (58, .iinc 2 1, 3), (61, .iinc 3 1, 3), (64, .goto (-39), 3), (67, .aload_n 0, 1), (68, .getfield 26, 3), (71, .aload_n 0, 1), (72, .getfield 10, 3), (75, .invokevirtual 71, 3), (78, .aload_n 0, 1), (79, .getfield 10, 3), (82, .aload_n 0, 1), (83, .getfield 16, 3), (86, .invokevirtual 129, 3), (89, .iload_n 2, 1), (90, .ireturn, 1)]
def qo_42 : List qOp := [(1, 1, 0, 0, .null, []), (0, 0, 0, 0, .int 1, []), (29, 2, 6, 0, .null, []), (1, 1, 0, 0, .null, []), (0, 0, 0, 0, .int 64, []), (29, 5, 8, 0, .null, []), (0, 256, 0, 0, .int (-1000000002), []), (50, 0, 0, 0, .null, []), (3, 0, 0, 0, .null, []), (36, 6, 3, 136, .null, []), (3, 0, 0, 0, .null, []), (36, 6, 0, 133, .null, []), (49, 7, 1, 1, .null, [(0, 269), (0, 270), (0, 271), (0, 15)]), (0, 0, 0, 0, .int 0, []), (4, 2, 0, 0, .null, []), (0, 0, 0, 0, .int 1, []), (4, 3, 0, 0, .null, []), (1, 3, 0, 0, .null, []), (3, 0, 0, 0, .null, []), (36, 6, 0, 133, .null, []), (49, 10, 0, 4, .null, [(0, 176), (0, 177), (0, 178), (0, 14)]), (29, 3, 61, 0, .null, []), (3, 0, 0, 0, .null, []), (36, 6, 0, 133, .null, []), (1, 3, 0, 0, .null, []), (0, 0, 0, 0, .int 1, []), (9, 0, 0, 0, .null, []), (49, 12, 1, 4, .null, [(0, 329), (0, 185), (0, 186), (0, 14)]), (28, 0, 59, 0, .null, []), (3, 0, 0, 0, .null, []), (36, 6, 0, 133, .null, []), (1, 3, 0, 0, .null, []), (49, 12, 1, 4, .null, [(0, 329), (0, 185), (0, 186), (0, 14)]), (28, 1, 59, 0, .null, []), (3, 0, 0, 0, .null, []), (36, 6, 0, 133, .null, []), (1, 3, 0, 0, .null, []), (49, 25, 1, 4, .null, [(0, 379), (0, 217), (0, 218), (0, 14)]), (4, 4, 0, 0, .null, []), (1, 4, 0, 0, .null, []), (3, 0, 0, 0, .null, []), (36, 6, 0, 133, .null, []), (49, 10, 0, 4, .null, [(0, 176), (0, 177), (0, 178), (0, 14)]), (29, 3, 59, 0, .null, []), (1, 4, 0, 0, .null, []), (1, 3, 0, 0, .null, []), (9, 0, 0, 0, .null, []), (1, 1, 0, 0, .null, []), (29, 4, 59, 0, .null, []), (3, 0, 0, 0, .null, []), (1, 3, 0, 0, .null, []), (1, 4, 0, 0, .null, []), (49, 64, 2, 6, .null, [(0, 380), (0, 382), (0, 9), (0, 13)]), (1, 2, 0, 0, .null, []), (1, 4, 0, 0, .null, []), (1, 3, 0, 0, .null, []), (9, 0, 0, 0, .null, []), (8, 0, 0, 0, .null, []), (4, 2, 0, 0, .null, []), (7, 3, 0, 0, .int 1, []), (32, 0, 17, 0, .null, []), (1, 2, 0, 0, .null, []), (50, 0, 0, 0, .null, [])]
def qr_42 : List qRow := [(0, .iload_n 1, 1), (1, .iconst 1, 1), (2, .if_icmp .lt 9, 3), (5, .iload_n 1, 1), (6, .bipush 64, 2), (8, .if_icmp .le 6, 3), (11, .ldc 65, 2), (13, .ireturn, 1), (14, .aload_n 0, 1), (15, .getfield 26, 3), (18, .aload_n 0, 1), (19, .getfield 10, 3), (22, .invokevirtual 71, 3), (25, .iconst 0, 1), (26, .istore_n 2, 1), (27, .iconst 1, 1), (28, .istore_n 3, 1), (29, .iload_n 3, 1), (30, .aload_n 0, 1), (31, .getfield 10, 3), (34, .invokevirtual 66, 3), (37, .if_icmp .ge 77, 3), (40, .aload_n 0, 1), (41, .getfield 10, 3), (44, .iload_n 3, 1), (45, .iconst 1, 1), (46, .isub, 1), (47, .invokevirtual 98, 3), (50, .ifCond .eq 58, 3), (53, .aload_n 0, 1), (54, .getfield 10, 3), (57, .iload_n 3, 1), (58, .invokevirtual 98, 3), (61, .ifCond .ne 47, 3), (64, .aload_n 0, 1), (65, .getfield 10, 3), (68, .iload_n 3, 1), (69, .invokevirtual 136, 3), (72, .istore 4, 2), (74, .iload 4, 2), (76, .aload_n 0, 1), (77, .getfield 10, 3), (80, .invokevirtual 66, 3), (83, .if_icmp .ge 25, 3), (86, .iload 4, 2), (88, .iload_n 3, 1), (89, .isub, 1), (90, .iload_n 1, 1), (91, .if_icmp .gt 17, 3), (94, .aload_n 0, 1), (95, .iload_n 3, 1), (96, .iload 4, 2), (98, .invokevirtual 139, 3), (101, .iload_n 2, 1), (102, .iload 4, 2), (104, .iload_n 3, 1), (105, .isub, 1), (106, .iadd, 1), (107, .istore_n 2, 1), (108, .iinc 3 1, 3), (111, .goto (-82), 3), (114, .iload_n 2, 1), (115, .ireturn, 1)]
def qo_43 : List qOp := [(1, 1, 0, 0, .null, []), (0, 0, 0, 0, .int 1, []), (29, 2, 11, 0, .null, []), (1, 1, 0, 0, .null, []), (0, 0, 0, 0, .int 16, []), (29, 4, 11, 0, .null, []), (1, 2, 0, 0, .null, []), (28, 2, 11, 0, .null, []), (1, 2, 0, 0, .null, []), (1, 1, 0, 0, .null, []), (29, 2, 13, 0, .null, []), (0, 256, 0, 0, .int (-1000000002), []), (50, 0, 0, 0, .null, []), (3, 0, 0, 0, .null, []), (36, 6, 1, 134, .null, []), (49, 17, 0, 4, .null, [(0, 315), (0, 282), (0, 283), (0, 14)]), (1, 2, 0, 0, .null, []), (4, 3, 0, 0, .null, []), (1, 3, 0, 0, .null, []), (3, 0, 0, 0, .null, []), (36, 6, 0, 133, .null, []), (49, 10, 0, 4, .null, [(0, 176), (0, 177), (0, 178), (0, 14)]), (29, 3, 35, 0, .null, []), (3, 0, 0, 0, .null, []), (36, 6, 1, 134, .null, []), (3, 0, 0, 0, .null, []), (36, 6, 0, 133, .null, []), (1, 3, 0, 0, .null, []), (49, 13, 1, 4, .null, [(0, 306), (0, 189), (0, 190), (0, 14)]), (49, 15, 1, 4, .null, [(0, 290), (0, 287), (0, 288), (0, 14)]), (1, 3, 0, 0, .null, []), (1, 1, 0, 0, .null, []), (8, 0, 0, 0, .null, []), (4, 3, 0, 0, .null, []), (32, 0, 18, 0, .null, []), (3, 0, 0, 0, .null, []), (36, 6, 3, 136, .null, []), (3, 0, 0, 0, .null, []), (36, 6, 0, 133, .null, []), (49, 7, 1, 1, .null, [(0, 269), (0, 270), (0, 271), (0, 15)]), (3, 0, 0, 0, .null, []), (36, 6, 0, 133, .null, []), (3, 0, 0, 0, .null, []), (36, 6, 1, 134, .null, []), (49, 18, 1, 4, .null, [(0, 370), (0, 278), (0, 279), (0, 14)]), (3, 0, 0, 0, .null, []), (36, 6, 0, 133, .null, []), (49, 10, 0, 4, .null, [(0, 176), (0, 177), (0, 178), (0, 14)]), (50, 0, 0, 0, .null, [])]
def qr_43 : List qRow := [(0, .iload_n 1, 1), (1, .iconst 1, 1), (2, .if_icmp .lt 18, 3), (5, .iload_n 1, 1), (6, .bipush 16, 2), (8, .if_icmp .gt 12, 3), (11, .iload_n 2, 1), (12, .ifCond .lt 8, 3), (15, .iload_n 2, 1), (16, .iload_n 1, 1), (17, .if_icmp .lt 6, 3), (20, .ldc 65, 2), (22, .ireturn, 1), (23, .aload_n 0, 1), (24, .getfield 16, 3), (27, .invokevirtual 95, 3), (30, .iload_n 2, 1), (31, .istore_n 3, 1), (32, .iload_n 3, 1), (33, .aload_n 0, 1), (34, .getfield 10, 3), (37, .invokevirtual 66, 3), (40, .if_icmp .ge 25, 3), (43, .aload_n 0, 1), (44, .getfield 16, 3), (47, .aload_n 0, 1), (48, .getfield 10, 3), (51, .iload_n 3, 1), (52, .invokevirtual 88, 3), (55, .invokevirtual 75, 3), (58, .iload_n 3, 1), (59, .iload_n 1, 1), (60, .iadd, 1), (61, .istore_n 3, 1), (62, .goto (-30), 3), (65, .aload_n 0, 1), (66, .getfield 26, 3), (69, .aload_n 0, 1), (70, .getfield 10, 3), (73, .invokevirtual 71, 3), (76, .aload_n 0, 1), (77, .getfield 10, 3), (80, .aload_n 0, 1), (81, .getfield 16, 3), (84, .invokevirtual 129, 3), (87, .aload_n 0, 1), (88, .getfield 10, 3), (91, .invokevirtual 66, 3), (94, .ireturn, 1)]
def qo_44 : List qOp := [(3, 0, 0, 0, .null, []), (36, 6, 3, 136, .null, []), (49, 6, 0, 1, .null, [(0, 252), (0, 253), (0, 254), (0, 15)]), (28, 1, 6, 0, .null, []), (0, 320, 0, 0, .int (-1000000003), []), (50, 0, 0, 0, .null, []), (3, 0, 0, 0, .null, []), (36, 6, 3, 136, .null, []), (3, 0, 0, 0, .null, []), (36, 6, 0, 133, .null, []), (49, 8, 1, 1, .null, [(0, 321), (0, 322), (0, 323), (0, 15)]), (3, 0, 0, 0, .null, []), (36, 6, 3, 136, .null, []), (49, 6, 0, 1, .null, [(0, 252), (0, 253), (0, 254), (0, 15)]), (50, 0, 0, 0, .null, [])]
def qr_44 : List qRow := [(0, .aload_n 0, 1), (1, .getfield 26, 3), (4, .invokevirtual 142, 3), (7, .ifCond .ne 6, 3), (10, .ldc 101, 2), (12, .ireturn, 1), (13, .aload_n 0, 1), (14, .getfield 26, 3), (17, .aload_n 0, 1), (18, .getfield 10, 3), (21, .invokevirtual 145, 3), (24, .aload_n 0, 1), (25, .getfield 26, 3), (28, .invokevirtual 142, 3), (31, .ireturn, 1)]
def qo_45 : List qOp := [(1, 1, 0, 0, .null, []), (33, 0, 37, 0, .null, [(0, 2), (1, 6), (2, 10), (3, 14), (4, 18), (5, 22), (6, 26), (7, 29), (8, 33)]), (3, 0, 0, 0, .null, []), (36, 6, 0, 133, .null, []), (49, 10, 0, 4, .null, [(0, 176), (0, 177), (0, 178), (0, 14)]), (50, 0, 0, 0, .null, []), (3, 0, 0, 0, .null, []), (36, 6, 0, 133, .null, []), (49, 19, 0, 4, .null, [(0, 180), (0, 181), (0, 182), (0, 14)]), (50, 0, 0, 0, .null, []), (3, 0, 0, 0, .null, []), (36, 6, 0, 133, .null, []), (49, 20, 0, 4, .null, [(0, 193), (0, 194), (0, 195), (0, 14)]), (50, 0, 0, 0, .null, []), (3, 0, 0, 0, .null, []), (36, 6, 0, 133, .null, []), (49, 21, 0, 4, .null, [(0, 197), (0, 198), (0, 199), (0, 14)]), (50, 0, 0, 0, .null, []), (3, 0, 0, 0, .null, []), (36, 6, 0, 133, .null, []), (49, 22, 0, 4, .null, [(0, 204), (0, 205), (0, 206), (0, 14)]), (50, 0, 0, 0, .null, []), (3, 0, 0, 0, .null, []), (36, 6, 0, 133, .null, []), (49, 23, 0, 4, .null, [(0, 212), (0, 213), (0, 214), (0, 14)]), (50, 0, 0, 0, .null, []), (3, 0, 0, 0, .null, []), (49, 65, 0, 6, .null, [(0, 220), (0, 222), (0, 1), (0, 13)]), (50, 0, 0, 0, .null, []), (3, 0, 0, 0, .null, []), (36, 6, 5, 138, .null, []), (49, 33, 0, 5, .null, [(0, 248), (0, 249), (0, 250), (0, 17)]), (50, 0, 0, 0, .null, []), (3, 0, 0, 0, .null, []), (36, 6, 3, 136, .null, []), (49, 6, 0, 1, .null, [(0, 252), (0, 253), (0, 254), (0, 15)]), (50, 0, 0, 0, .null, []), (0, 256, 0, 0, .int (-1000000002), []), (50, 0, 0, 0, .null, [])]
def qr_45 : List qRow := [(0, .iload_n 1, 1), (1, .tableswitch 120 0 8 #[51, 59, 67, 75, 83, 91, 99, 104, 112], 51), (52, .aload_n 0, 1), (53, .getfield 10, 3), (56, .invokevirtual 66, 3), (59, .ireturn, 1), (60, .aload_n 0, 1), (61, .getfield 10, 3), (64, .invokevirtual 148, 3), (67, .ireturn, 1), (68, .aload_n 0, 1), (69, .getfield 10, 3), (72, .invokevirtual 151, 3), (75, .ireturn, 1), (76, .aload_n 0, 1), (77, .getfield 10, 3), (80, .invokevirtual 154, 3), (83, .ireturn, 1), (84, .aload_n 0, 1), (85, .getfield 10, 3), (88, .invokevirtual 157, 3), (91, .ireturn, 1), (92, .aload_n 0, 1), (93, .getfield 10, 3), (96, .invokevirtual 160, 3), (99, .ireturn, 1), (100, .aload_n 0, 1), (101, .invokevirtual 163, 3), (104, .ireturn, 1), (105, .aload_n 0, 1), (106, .getfield 40, 3), (109, .invokevirtual 166, 3), (112, .ireturn, 1), (113, .aload_n 0, 1), (114, .getfield 26, 3), (117, .invokevirtual 142, 3), (120, .ireturn, 1), (121, .ldc 65, 2), (123, .ireturn, 1)]
def qo_46 : List qOp := [(3, 0, 0, 0, .null, []), (36, 6, 0, 133, .null, []), (1, 1, 0, 0, .null, []), (49, 11, 1, 4, .null, [(0, 305), (0, 233), (0, 234), (0, 14)]), (28, 1, 7, 0, .null, []), (0, 256, 0, 0, .int (-1000000002), []), (50, 0, 0, 0, .null, []), (3, 0, 0, 0, .null, []), (36, 6, 0, 133, .null, []), (1, 1, 0, 0, .null, []), (49, 13, 1, 4, .null, [(0, 306), (0, 189), (0, 190), (0, 14)]), (50, 0, 0, 0, .null, [])]
def qr_46 : List qRow := [(0, .aload_n 0, 1), (1, .getfield 10, 3), (4, .iload_n 1, 1), (5, .invokevirtual 84, 3), (8, .ifCond .ne 6, 3), (11, .ldc 65, 2), (13, .ireturn, 1), (14, .aload_n 0, 1), (15, .getfield 10, 3), (18, .iload_n 1, 1), (19, .invokevirtual 88, 3), (22, .ireturn, 1)]
def qo_47 : List qOp := [(1, 1, 0, 0, .null, []), (48, 57, 1, 0, .null, [(0, 407), (0, 408), (0, 13)]), (28, 0, 8, 0, .null, []), (1, 2, 0, 0, .null, []), (48, 58, 1, 0, .null, [(0, 410), (0, 411), (0, 13)]), (28, 0, 8, 0, .null, []), (1, 3, 0, 0, .null, []), (28, 3, 10, 0, .null, []), (0, 256, 0, 0, .int (-1000000002), []), (50, 0, 0, 0, .null, []), (3, 0, 0, 0, .null, []), (36, 6, 0, 133, .null, []), (1, 1, 0, 0, .null, []), (1, 2, 0, 0, .null, []), (1, 3, 0, 0, .null, []), (49, 29, 3, 4, .null, [(0, 358), (0, 229), (0, 230), (0, 14)]), (50, 0, 0, 0, .null, [])]
def qr_47 : List qRow := [(0, .iload_n 1, 1), (1, .invokestatic 167, 3), (4, .ifCond .eq 14, 3), (7, .iload_n 2, 1), (8, .invokestatic 170, 3), (11, .ifCond .eq 7, 3), (14, .iload_n 3, 1), (15, .ifCond .ge 6, 3), (18, .ldc 65, 2), (20, .ireturn, 1), (21, .aload_n 0, 1), (22, .getfield 10, 3), (25, .iload_n 1, 1), (26, .iload_n 2, 1), (27, .iload_n 3, 1), (28, .invokevirtual 173, 3), (31, .ireturn, 1)]
def qo_48 : List qOp := [(1, 1, 0, 0, .null, []), (48, 57, 1, 0, .null, [(0, 407), (0, 408), (0, 13)]), (28, 0, 6, 0, .null, []), (1, 2, 0, 0, .null, []), (48, 58, 1, 0, .null, [(0, 410), (0, 411), (0, 13)]), (28, 1, 8, 0, .null, []), (0, 256, 0, 0, .int (-1000000002), []), (50, 0, 0, 0, .null, []), (3, 0, 0, 0, .null, []), (36, 6, 0, 133, .null, []), (1, 1, 0, 0, .null, []), (1, 2, 0, 0, .null, []), (49, 28, 2, 4, .null, [(0, 224), (0, 225), (0, 226), (0, 14)]), (50, 0, 0, 0, .null, [])]
def qr_48 : List qRow := [(0, .iload_n 1, 1), (1, .invokestatic 167, 3), (4, .ifCond .eq 10, 3), (7, .iload_n 2, 1), (8, .invokestatic 170, 3), (11, .ifCond .ne 6, 3), (14, .ldc 65, 2), (16, .ireturn, 1), (17, .aload_n 0, 1), (18, .getfield 10, 3), (21, .iload_n 1, 1), (22, .iload_n 2, 1), (23, .invokevirtual 109, 3), (26, .ireturn, 1)]
def qo_49 : List qOp := [(1, 1, 0, 0, .null, []), (48, 59, 1, 0, .null, [(0, 428), (0, 429), (0, 13)]), (28, 0, 11, 0, .null, []), (1, 2, 0, 0, .null, []), (48, 58, 1, 0, .null, [(0, 410), (0, 411), (0, 13)]), (28, 0, 11, 0, .null, []), (1, 3, 0, 0, .null, []), (28, 2, 11, 0, .null, []), (1, 3, 0, 0, .null, []), (0, 0, 0, 0, .int 1, []), (29, 5, 13, 0, .null, []), (0, 431, 0, 0, .long (-1000000002), []), (52, 0, 0, 0, .null, []), (3, 0, 0, 0, .null, []), (1, 1, 0, 0, .null, []), (1, 2, 0, 0, .null, []), (3, 0, 0, 0, .null, []), (36, 6, 7, 140, .null, []), (49, 66, 3, 6, .null, [(0, 432), (0, 434), (0, 11), (0, 13)]), (3, 0, 0, 0, .null, []), (36, 6, 7, 140, .null, []), (49, 0, 0, 0, .null, [(0, 451), (0, 452), (0, 453), (0, 19)]), (28, 1, 25, 0, .null, []), (0, 439, 0, 0, .long (-1000000001), []), (52, 0, 0, 0, .null, []), (1, 3, 0, 0, .null, []), (28, 1, 31, 0, .null, []), (3, 0, 0, 0, .null, []), (36, 6, 7, 140, .null, []), (61, 0, 0, 0, .null, []), (32, 0, 34, 0, .null, []), (3, 0, 0, 0, .null, []), (36, 6, 7, 140, .null, []), (61, 0, 1, 1, .null, []), (52, 0, 0, 0, .null, [])]
def qr_49 : List qRow := [(0, .iload_n 1, 1), (1, .invokestatic 177, 3), (4, .ifCond .eq 19, 3), (7, .iload_n 2, 1), (8, .invokestatic 170, 3), (11, .ifCond .eq 12, 3), (14, .iload_n 3, 1), (15, .ifCond .lt 8, 3), (18, .iload_n 3, 1), (19, .iconst 1, 1), (20, .if_icmp .le 7, 3), (23, .ldc2_w 180, 3), (26, .lreturn, 1), (27, .aload_n 0, 1), (28, .iload_n 1, 1), (29, .iload_n 2, 1), (30, .aload_n 0, 1), (31, .getfield 54, 3), (34, .invokevirtual 182, 3), (37, .aload_n 0, 1), (38, .getfield 54, 3), (41, .invokevirtual 186, 3), (44, .ifCond .ne 7, 3), (47, .ldc2_w 190, 3), (50, .lreturn, 1), (51, .iload_n 3, 1), (52, .ifCond .ne 13, 3), (55, .aload_n 0, 1), (56, .getfield 54, 3), (59, .getfield 192, 3), (62, .goto 10, 3), (65, .aload_n 0, 1), (66, .getfield 54, 3), (69, .getfield 196, 3), (72, .lreturn, 1)]
def qo_50 : List qOp := [(1, 1, 0, 0, .null, []), (48, 59, 1, 0, .null, [(0, 428), (0, 429), (0, 13)]), (28, 0, 6, 0, .null, []), (1, 2, 0, 0, .null, []), (48, 58, 1, 0, .null, [(0, 410), (0, 411), (0, 13)]), (28, 1, 8, 0, .null, []), (0, 431, 0, 0, .long (-1000000002), []), (52, 0, 0, 0, .null, []), (3, 0, 0, 0, .null, []), (1, 1, 0, 0, .null, []), (1, 2, 0, 0, .null, []), (3, 0, 0, 0, .null, []), (36, 6, 7, 140, .null, []), (49, 66, 3, 6, .null, [(0, 432), (0, 434), (0, 11), (0, 13)]), (3, 0, 0, 0, .null, []), (36, 6, 7, 140, .null, []), (49, 0, 0, 0, .null, [(0, 451), (0, 452), (0, 453), (0, 19)]), (28, 1, 20, 0, .null, []), (0, 439, 0, 0, .long (-1000000001), []), (52, 0, 0, 0, .null, []), (3, 0, 0, 0, .null, []), (36, 6, 7, 140, .null, []), (0, 460, 0, 0, .long 1000000, []), (49, 4, 1, 0, .null, [(0, 461), (0, 462), (0, 463), (0, 19)]), (48, 69, 1, 0, .null, [(0, 466), (0, 467), (0, 13)]), (52, 0, 0, 0, .null, [])]
def qr_50 : List qRow := [(0, .iload_n 1, 1), (1, .invokestatic 177, 3), (4, .ifCond .eq 10, 3), (7, .iload_n 2, 1), (8, .invokestatic 170, 3), (11, .ifCond .ne 7, 3), (14, .ldc2_w 180, 3), (17, .lreturn, 1), (18, .aload_n 0, 1), (19, .iload_n 1, 1), (20, .iload_n 2, 1), (21, .aload_n 0, 1), (22, .getfield 54, 3), (25, .invokevirtual 182, 3), (28, .aload_n 0, 1), (29, .getfield 54, 3), (32, .invokevirtual 186, 3), (35, .ifCond .ne 7, 3), (38, .ldc2_w 190, 3), (41, .lreturn, 1), (42, .aload_n 0, 1), (43, .getfield 54, 3), (46, .ldc2_w 199, 3), (49, .invokevirtual 201, 3), (52, .invokestatic 205, 3), (55, .lreturn, 1)]
def qo_51 : List qOp := [(1, 1, 0, 0, .null, []), (48, 59, 1, 0, .null, [(0, 428), (0, 429), (0, 13)]), (28, 0, 9, 0, .null, []), (1, 2, 0, 0, .null, []), (48, 58, 1, 0, .null, [(0, 410), (0, 411), (0, 13)]), (28, 0, 9, 0, .null, []), (1, 3, 0, 0, .null, []), (48, 58, 1, 0, .null, [(0, 410), (0, 411), (0, 13)]), (28, 1, 11, 0, .null, []), (0, 256, 0, 0, .int (-1000000002), []), (50, 0, 0, 0, .null, []), (3, 0, 0, 0, .null, []), (1, 1, 0, 0, .null, []), (1, 2, 0, 0, .null, []), (3, 0, 0, 0, .null, []), (36, 6, 7, 140, .null, []), (49, 66, 3, 6, .null, [(0, 432), (0, 434), (0, 11), (0, 13)]), (3, 0, 0, 0, .null, []), (1, 1, 0, 0, .null, []), (1, 3, 0, 0, .null, []), (3, 0, 0, 0, .null, []), (36, 6, 8, 141, .null, []), (49, 66, 3, 6, .null, [(0, 432), (0, 434), (0, 11), (0, 13)]), (3, 0, 0, 0, .null, []), (36, 6, 7, 140, .null, []), (49, 0, 0, 0, .null, [(0, 451), (0, 452), (0, 453), (0, 19)]), (28, 0, 31, 0, .null, []), (3, 0, 0, 0, .null, []), (36, 6, 8, 141, .null, []), (49, 0, 0, 0, .null, [(0, 451), (0, 452), (0, 453), (0, 19)]), (28, 1, 33, 0, .null, []), (0, 295, 0, 0, .int (-1000000001), []), (50, 0, 0, 0, .null, []), (3, 0, 0, 0, .null, []), (36, 6, 7, 140, .null, []), (0, 0, 0, 0, .long 1, []), (3, 0, 0, 0, .null, []), (36, 6, 8, 141, .null, []), (0, 0, 0, 0, .long 1, []), (49, 3, 3, 0, .null, [(0, 473), (0, 474), (0, 475), (0, 19)]), (4, 4, 0, 0, .null, []), (1, 4, 0, 0, .null, []), (28, 1, 45, 0, .null, []), (0, 0, 0, 0, .int 0, []), (50, 0, 0, 0, .null, []), (1, 4, 0, 0, .null, []), (28, 3, 49, 0, .null, []), (0, 0, 0, 0, .int 1, []), (32, 0, 50, 0, .null, []), (0, 0, 0, 0, .int 2, []), (50, 0, 0, 0, .null, [])]
def qr_51 : List qRow := [(0, .iload_n 1, 1), (1, .invokestatic 177, 3), (4, .ifCond .eq 17, 3), (7, .iload_n 2, 1), (8, .invokestatic 170, 3), (11, .ifCond .eq 10, 3), (14, .iload_n 3, 1), (15, .invokestatic 170, 3), (18, .ifCond .ne 6, 3), (21, .ldc 65, 2), (23, .ireturn, 1), (24, .aload_n 0, 1), (25, .iload_n 1, 1), (26, .iload_n 2, 1), (27, .aload_n 0, 1), (28, .getfield 54, 3), (31, .invokevirtual 182, 3), (34, .aload_n 0, 1), (35, .iload_n 1, 1), (36, .iload_n 3, 1), (37, .aload_n 0, 1), (38, .getfield 58, 3), (41, .invokevirtual 182, 3), (44, .aload_n 0, 1), (45, .getfield 54, 3), (48, .invokevirtual 186, 3), (51, .ifCond .eq 13, 3), (54, .aload_n 0, 1), (55, .getfield 58, 3), (58, .invokevirtual 186, 3), (61, .ifCond .ne 6, 3), (64, .ldc 79, 2), (66, .ireturn, 1), (67, .aload_n 0, 1), (68, .getfield 54, 3), (71, .lconst 1, 1), (72, .aload_n 0, 1), (73, .getfield 58, 3), (76, .lconst 1, 1), (77, .invokevirtual 208, 3), (80, .istore 4, 2), (82, .iload 4, 2), (84, .ifCond .ne 5, 3), (87, .iconst 0, 1), (88, .ireturn, 1), (89, .iload 4, 2), (91, .ifCond .ge 7, 3), (94, .iconst 1, 1), (95, .goto 4, 3), (98, .iconst 2, 1), (99, .ireturn, 1)]
def qo_52 : List qOp := [(1, 1, 0, 0, .null, []), (48, 59, 1, 0, .null, [(0, 428), (0, 429), (0, 13)]), (28, 1, 5, 0, .null, []), (0, 256, 0, 0, .int (-1000000002), []), (50, 0, 0, 0, .null, []), (0, 295, 0, 0, .int (-1000000001), []), (4, 2, 0, 0, .null, []), (0, 0, 0, 0, .int 1, []), (4, 3, 0, 0, .null, []), (1, 3, 0, 0, .null, []), (0, 0, 0, 0, .int 31, []), (29, 4, 42, 0, .null, []), (3, 0, 0, 0, .null, []), (1, 1, 0, 0, .null, []), (1, 3, 0, 0, .null, []), (3, 0, 0, 0, .null, []), (36, 6, 7, 140, .null, []), (49, 66, 3, 6, .null, [(0, 432), (0, 434), (0, 11), (0, 13)]), (3, 0, 0, 0, .null, []), (36, 6, 7, 140, .null, []), (49, 0, 0, 0, .null, [(0, 451), (0, 452), (0, 453), (0, 19)]), (28, 0, 40, 0, .null, []), (1, 2, 0, 0, .null, []), (0, 295, 0, 0, .int (-1000000001), []), (29, 0, 33, 0, .null, []), (3, 0, 0, 0, .null, []), (36, 6, 7, 140, .null, []), (0, 0, 0, 0, .long 1, []), (3, 0, 0, 0, .null, []), (36, 6, 8, 141, .null, []), (0, 0, 0, 0, .long 1, []), (49, 3, 3, 0, .null, [(0, 473), (0, 474), (0, 475), (0, 19)]), (28, 3, 40, 0, .null, []), (3, 0, 0, 0, .null, []), (36, 6, 8, 141, .null, []), (3, 0, 0, 0, .null, []), (36, 6, 7, 140, .null, []), (49, 2, 1, 0, .null, [(0, 489), (0, 490), (0, 491), (0, 19)]), (1, 3, 0, 0, .null, []), (4, 2, 0, 0, .null, []), (7, 3, 0, 0, .int 1, []), (32, 0, 9, 0, .null, []), (1, 2, 0, 0, .null, []), (50, 0, 0, 0, .null, [])]
def qr_52 : List qRow := [(0, .iload_n 1, 1), (1, .invokestatic 177, 3), (4, .ifCond .ne 6, 3), (7, .ldc 65, 2), (9, .ireturn, 1), (10, .ldc 79, 2), (12, .istore_n 2, 1), (13, .iconst 1, 1), (14, .istore_n 3, 1), (15, .iload_n 3, 1), (16, .bipush 31, 2), (18, .if_icmp .gt 64, 3), (21, .aload_n 0, 1), (22, .iload_n 1, 1), (23, .iload_n 3, 1), (24, .aload_n 0, 1), (25, .getfield 54, 3), (28, .invokevirtual 182, 3), (31, .aload_n 0, 1), (32, .getfield 54, 3), (35, .invokevirtual 186, 3), (38, .ifCond .eq 38, 3), (41, .iload_n 2, 1), (42, .ldc 79, 2), (44, .if_icmp .eq 19, 3), (47, .aload_n 0, 1), (48, .getfield 54, 3), (51, .lconst 1, 1), (52, .aload_n 0, 1), (53, .getfield 58, 3), (56, .lconst 1, 1), (57, .invokevirtual 208, 3), (60, .ifCond .ge 16, 3), (63, .aload_n 0, 1), (64, .getfield 58, 3), (67, .aload_n 0, 1), (68, .getfield 54, 3), (71, .invokevirtual 212, 3), (74, .iload_n 3, 1), (75, .istore_n 2, 1), (76, .iinc 3 1, 3), (79, .goto (-64), 3), (82, .iload_n 2, 1), (83, .ireturn, 1)]
def qo_53 : List qOp := [(3, 0, 0, 0, .null, []), (1, 1, 0, 0, .null, []), (49, 60, 1, 6, .null, [(0, 392), (0, 394), (0, 10), (0, 13)]), (6, 2, 0, 0, .null, []), (3, 2, 0, 0, .null, []), (31, 0, 8, 0, .null, []), (0, 256, 0, 0, .int (-1000000002), []), (50, 0, 0, 0, .null, []), (3, 2, 0, 0, .null, []), (62, 2, 0, 2, .null, []), (3, 0, 0, 0, .null, []), (36, 6, 0, 133, .null, []), (49, 18, 1, 4, .null, [(0, 370), (0, 278), (0, 279), (0, 14)]), (3, 2, 0, 0, .null, []), (0, 0, 0, 0, .int 1, []), (65, 2, 1, 3, .null, []), (3, 0, 0, 0, .null, []), (36, 6, 0, 133, .null, []), (49, 10, 0, 4, .null, [(0, 176), (0, 177), (0, 178), (0, 14)]), (50, 0, 0, 0, .null, [])]
def qr_53 : List qRow := [(0, .aload_n 0, 1), (1, .iload_n 1, 1), (2, .invokevirtual 237, 3), (5, .astore_n 2, 1), (6, .aload_n 2, 1), (7, .ifnonnull 6, 3), (10, .ldc 65, 2), (12, .ireturn, 1), (13, .aload_n 2, 1), (14, .getfield 241, 3), (17, .aload_n 0, 1), (18, .getfield 10, 3), (21, .invokevirtual 129, 3), (24, .aload_n 2, 1), (25, .iconst 1, 1), (26, .putfield 244, 3), (29, .aload_n 0, 1), (30, .getfield 10, 3), (33, .invokevirtual 66, 3), (36, .ireturn, 1)]
def qo_54 : List qOp := [(3, 0, 0, 0, .null, []), (1, 1, 0, 0, .null, []), (49, 60, 1, 6, .null, [(0, 392), (0, 394), (0, 10), (0, 13)]), (6, 2, 0, 0, .null, []), (3, 2, 0, 0, .null, []), (31, 0, 8, 0, .null, []), (0, 256, 0, 0, .int (-1000000002), []), (50, 0, 0, 0, .null, []), (3, 2, 0, 0, .null, []), (60, 2, 1, 3, .null, []), (28, 1, 13, 0, .null, []), (0, 320, 0, 0, .int (-1000000003), []), (50, 0, 0, 0, .null, []), (3, 0, 0, 0, .null, []), (36, 6, 3, 136, .null, []), (3, 0, 0, 0, .null, []), (36, 6, 0, 133, .null, []), (49, 7, 1, 1, .null, [(0, 269), (0, 270), (0, 271), (0, 15)]), (3, 0, 0, 0, .null, []), (36, 6, 0, 133, .null, []), (3, 2, 0, 0, .null, []), (62, 2, 0, 2, .null, []), (49, 18, 1, 4, .null, [(0, 370), (0, 278), (0, 279), (0, 14)]), (3, 0, 0, 0, .null, []), (36, 6, 0, 133, .null, []), (49, 10, 0, 4, .null, [(0, 176), (0, 177), (0, 178), (0, 14)]), (50, 0, 0, 0, .null, [])]
def qr_54 : List qRow := [(0, .aload_n 0, 1), (1, .iload_n 1, 1), (2, .invokevirtual 237, 3), (5, .astore_n 2, 1), (6, .aload_n 2, 1), (7, .ifnonnull 6, 3), (10, .ldc 65, 2), (12, .ireturn, 1), (13, .aload_n 2, 1), (14, .getfield 244, 3), (17, .ifCond .ne 6, 3), (20, .ldc 101, 2), (22, .ireturn, 1), (23, .aload_n 0, 1), (24, .getfield 26, 3), (27, .aload_n 0, 1), (28, .getfield 10, 3), (31, .invokevirtual 71, 3), (34, .aload_n 0, 1), (35, .getfield 10, 3), (38, .aload_n 2, 1), (39, .getfield 241, 3), (42, .invokevirtual 129, 3), (45, .aload_n 0, 1), (46, .getfield 10, 3), (49, .invokevirtual 66, 3), (52, .ireturn, 1)]
def qo_55 : List qOp := [(2, 0, 0, 0, .null, []), (0, 266, 0, 0, .long (-99999), []), (25, 0, 0, 0, .null, []), (28, 2, 10, 0, .null, []), (2, 0, 0, 0, .null, []), (0, 267, 0, 0, .long 99999, []), (25, 0, 0, 0, .null, []), (28, 4, 10, 0, .null, []), (0, 0, 0, 0, .int 1, []), (32, 0, 11, 0, .null, []), (0, 0, 0, 0, .int 0, []), (51, 0, 0, 0, .null, [])]
def qr_55 : List qRow := [(0, .lload_n 0, 1), (1, .ldc2_w 248, 3), (4, .lcmp, 1), (5, .ifCond .lt 15, 3), (8, .lload_n 0, 1), (9, .ldc2_w 250, 3), (12, .lcmp, 1), (13, .ifCond .gt 7, 3), (16, .iconst 1, 1), (17, .goto 4, 3), (20, .iconst 0, 1), (21, .ireturn, 1)]
def qo_56 : List qOp := [(1, 0, 0, 0, .null, []), (28, 2, 7, 0, .null, []), (1, 0, 0, 0, .null, []), (0, 369, 0, 0, .int 99999, []), (29, 4, 7, 0, .null, []), (0, 0, 0, 0, .int 1, []), (32, 0, 8, 0, .null, []), (0, 0, 0, 0, .int 0, []), (51, 0, 0, 0, .null, [])]
def qr_56 : List qRow := [(0, .iload_n 0, 1), (1, .ifCond .lt 13, 3), (4, .iload_n 0, 1), (5, .ldc 252, 2), (7, .if_icmp .gt 7, 3), (10, .iconst 1, 1), (11, .goto 4, 3), (14, .iconst 0, 1), (15, .ireturn, 1)]
def qo_57 : List qOp := [(1, 0, 0, 0, .null, []), (0, 0, 0, 0, .int 2, []), (29, 2, 8, 0, .null, []), (1, 0, 0, 0, .null, []), (0, 0, 0, 0, .int 4, []), (29, 4, 8, 0, .null, []), (0, 0, 0, 0, .int 1, []), (32, 0, 9, 0, .null, []), (0, 0, 0, 0, .int 0, []), (51, 0, 0, 0, .null, [])]
def qr_57 : List qRow := [(0, .iload_n 0, 1), (1, .iconst 2, 1), (2, .if_icmp .lt 12, 3), (5, .iload_n 0, 1), (6, .iconst 4, 1), (7, .if_icmp .gt 7, 3), (10, .iconst 1, 1), (11, .goto 4, 3), (14, .iconst 0, 1), (15, .ireturn, 1)]
def qo_58 : List qOp := [(1, 0, 0, 0, .null, []), (0, 0, 0, 0, .int 1, []), (29, 2, 8, 0, .null, []), (1, 0, 0, 0, .null, []), (0, 0, 0, 0, .int 31, []), (29, 4, 8, 0, .null, []), (0, 0, 0, 0, .int 1, []), (32, 0, 9, 0, .null, []), (0, 0, 0, 0, .int 0, []), (51, 0, 0, 0, .null, [])]
def qr_58 : List qRow := [(0, .iload_n 0, 1), (1, .iconst 1, 1), (2, .if_icmp .lt 13, 3), (5, .iload_n 0, 1), (6, .bipush 31, 2), (8, .if_icmp .gt 7, 3), (11, .iconst 1, 1), (12, .goto 4, 3), (15, .iconst 0, 1), (16, .ireturn, 1)]
def qo_59 : List qOp := [(1, 0, 0, 0, .null, []), (28, 2, 7, 0, .null, []), (1, 0, 0, 0, .null, []), (0, 0, 0, 0, .int 3, []), (29, 4, 7, 0, .null, []), (0, 0, 0, 0, .int 1, []), (32, 0, 8, 0, .null, []), (0, 0, 0, 0, .int 0, []), (51, 0, 0, 0, .null, [])]
def qr_59 : List qRow := [(0, .iload_n 0, 1), (1, .ifCond .lt 12, 3), (4, .iload_n 0, 1), (5, .iconst 3, 1), (6, .if_icmp .gt 7, 3), (9, .iconst 1, 1), (10, .goto 4, 3), (13, .iconst 0, 1), (14, .ireturn, 1)]
def qo_60 : List qOp := [(1, 1, 0, 0, .null, []), (28, 2, 7, 0, .null, []), (1, 1, 0, 0, .null, []), (3, 0, 0, 0, .null, []), (36, 6, 4, 137, .null, []), (40, 0, 0, 0, .null, []), (29, 2, 9, 0, .null, []), (0, 0, 0, 0, .null, []), (53, 0, 0, 0, .null, []), (3, 0, 0, 0, .null, []), (36, 6, 4, 137, .null, []), (1, 1, 0, 0, .null, []), (44, 104, 0, 0, .null, []), (53, 0, 0, 0, .null, [])]
def qr_60 : List qRow := [(0, .iload_n 1, 1), (1, .ifCond .lt 12, 3), (4, .iload_n 1, 1), (5, .aload_n 0, 1), (6, .getfield 32, 3), (9, .arraylength, 1), (10, .if_icmp .lt 5, 3), (13, .aconst_null, 1), (14, .areturn, 1), (15, .aload_n 0, 1), (16, .getfield 32, 3), (19, .iload_n 1, 1), (20, .aaload, 1), (21, .areturn, 1)]
def qo_61 : List qOp := [(3, 0, 0, 0, .null, []), (49, 62, 0, 6, .null, [(0, 341), (0, 343), (0, 7), (0, 13)]), (28, 1, 5, 0, .null, []), (0, 345, 0, 0, .int (-1000000005), []), (50, 0, 0, 0, .null, []), (3, 0, 0, 0, .null, []), (36, 6, 3, 136, .null, []), (3, 0, 0, 0, .null, []), (36, 6, 0, 133, .null, []), (49, 7, 1, 1, .null, [(0, 269), (0, 270), (0, 271), (0, 15)]), (0, 0, 0, 0, .int 0, []), (4, 1, 0, 0, .null, []), (0, 0, 0, 0, .int 0, []), (4, 2, 0, 0, .null, []), (1, 2, 0, 0, .null, []), (3, 0, 0, 0, .null, []), (36, 6, 0, 133, .null, []), (49, 10, 0, 4, .null, [(0, 176), (0, 177), (0, 178), (0, 14)]), (29, 3, 54, 0, .null, []), (1, 2, 0, 0, .null, []), (3, 0, 0, 0, .null, []), (36, 6, 2, 135, .null, []), (40, 0, 0, 0, .null, []), (29, 3, 54, 0, .null, []), (3, 0, 0, 0, .null, []), (36, 6, 0, 133, .null, []), (1, 2, 0, 0, .null, []), (49, 12, 1, 4, .null, [(0, 329), (0, 185), (0, 186), (0, 14)]), (28, 0, 52, 0, .null, []), (3, 0, 0, 0, .null, []), (36, 6, 2, 135, .null, []), (1, 2, 0, 0, .null, []), (42, 0, 0, 0, .null, []), (0, 0, 0, 0, .long 0, []), (25, 0, 0, 0, .null, []), (28, 0, 52, 0, .null, []), (3, 0, 0, 0, .null, []), (36, 6, 0, 133, .null, []), (1, 2, 0, 0, .null, []), (3, 0, 0, 0, .null, []), (36, 6, 0, 133, .null, []), (1, 2, 0, 0, .null, []), (49, 13, 1, 4, .null, [(0, 306), (0, 189), (0, 190), (0, 14)]), (26, 0, 0, 0, .null, []), (3, 0, 0, 0, .null, []), (36, 6, 2, 135, .null, []), (1, 2, 0, 0, .null, []), (42, 0, 0, 0, .null, []), (19, 0, 0, 0, .null, []), (27, 0, 0, 0, .null, []), (49, 14, 2, 4, .null, [(0, 307), (0, 308), (0, 309), (0, 14)]), (7, 1, 0, 0, .int 1, []), (7, 2, 0, 0, .int 1, []), (32, 0, 14, 0, .null, []), (1, 1, 0, 0, .null, []), (50, 0, 0, 0, .null, [])]
def qr_61 : List qRow := [(0, .aload_n 0, 1), (1, .invokevirtual 253, 3), (4, .ifCond .ne 6, 3), (7, .ldc 125, 2), (9, .ireturn, 1), (10, .aload_n 0, 1), (11, .getfield 26, 3), (14, .aload_n 0, 1), (15, .getfield 10, 3), (18, .invokevirtual 71, 3), (21, .iconst 0, 1), (22, .istore_n 1, 1), (23, .iconst 0, 1), (24, .istore_n 2, 1), (25, .iload_n 2, 1), (26, .aload_n 0, 1), (27, .getfield 10, 3), (30, .invokevirtual 66, 3), (33, .if_icmp .ge 68, 3), (36, .iload_n 2, 1), (37, .aload_n 0, 1), (38, .getfield 19, 3), (41, .arraylength, 1), (42, .if_icmp .ge 59, 3), (45, .aload_n 0, 1), (46, .getfield 10, 3), (49, .iload_n 2, 1), (50, .invokevirtual 98, 3), (53, .ifCond .eq 42, 3), (56, .aload_n 0, 1), (57, .getfield 19, 3), (60, .iload_n 2, 1), (61, .laload, 1), (62, .lconst 0, 1), (63, .lcmp, 1), (64, .ifCond .eq 31, 3), (67, .aload_n 0, 1), (68, .getfield 10, 3), (71, .iload_n 2, 1), (72, .aload_n 0, 1), (73, .getfield 10, 3), (76, .iload_n 2, 1), (77, .invokevirtual 88, 3), (80, .i2l, 1), (81, .aload_n 0, 1), (82, .getfield 19, 3), (85, .iload_n 2, 1), (86, .laload, 1), (87, .lsub, 1), (88, .l2i, 1), (89, .invokevirtual 92, 3), (92, .iinc 1 1, 3), (95, .iinc 2 1, 3), (98, .goto (-73), 3), (101, .iload_n 1, 1), (102, .ireturn, 1)]
def qo_62 : List qOp := [(0, 0, 0, 0, .int 0, []), (4, 1, 0, 0, .null, []), (1, 1, 0, 0, .null, []), (3, 0, 0, 0, .null, []), (36, 6, 0, 133, .null, []), (49, 10, 0, 4, .null, [(0, 176), (0, 177), (0, 178), (0, 14)]), (29, 3, 33, 0, .null, []), (1, 1, 0, 0, .null, []), (3, 0, 0, 0, .null, []), (36, 6, 2, 135, .null, []), (40, 0, 0, 0, .null, []), (29, 3, 33, 0, .null, []), (3, 0, 0, 0, .null, []), (36, 6, 0, 133, .null, []), (1, 1, 0, 0, .null, []), (49, 12, 1, 4, .null, [(0, 329), (0, 185), (0, 186), (0, 14)]), (28, 0, 31, 0, .null, []), (3, 0, 0, 0, .null, []), (36, 6, 0, 133, .null, []), (1, 1, 0, 0, .null, []), (49, 13, 1, 4, .null, [(0, 306), (0, 189), (0, 190), (0, 14)]), (26, 0, 0, 0, .null, []), (3, 0, 0, 0, .null, []), (36, 6, 2, 135, .null, []), (1, 1, 0, 0, .null, []), (42, 0, 0, 0, .null, []), (19, 0, 0, 0, .null, []), (48, 55, 1, 0, .null, [(0, 263), (0, 264), (0, 13)]), (28, 1, 31, 0, .null, []), (0, 0, 0, 0, .int 0, []), (51, 0, 0, 0, .null, []), (7, 1, 0, 0, .int 1, []), (32, 0, 2, 0, .null, []), (0, 0, 0, 0, .int 1, []), (51, 0, 0, 0, .null, [])]
def qr_62 : List qRow := [(0, .iconst 0, 1), (1, .istore_n 1, 1), (2, .iload_n 1, 1), (3, .aload_n 0, 1), (4, .getfield 10, 3), (7, .invokevirtual 66, 3), (10, .if_icmp .ge 53, 3), (13, .iload_n 1, 1), (14, .aload_n 0, 1), (15, .getfield 19, 3), (18, .arraylength, 1), (19, .if_icmp .ge 44, 3), (22, .aload_n 0, 1), (23, .getfield 10, 3), (26, .iload_n 1, 1), (27, .invokevirtual 98, 3), (30, .ifCond .eq 27, 3), (33, .aload_n 0, 1), (34, .getfield 10, 3), (37, .iload_n 1, 1), (38, .invokevirtual 88, 3), (41, .i2l, 1), (42, .aload_n 0, 1), (43, .getfield 19, 3), (46, .iload_n 1, 1), (47, .laload, 1), (48, .lsub, 1), (49, .invokestatic 61, 3), (52, .ifCond .ne 5, 3), (55, .iconst 0, 1), (56, .ireturn, 1), (57, .iinc 1 1, 3), (60, .goto (-58), 3), (63, .iconst 1, 1), (64, .ireturn, 1)]
def qo_63 : List qOp := [(0, 0, 0, 0, .long 0, []), (5, 1, 0, 0, .null, []), (0, 0, 0, 0, .int 0, []), (4, 3, 0, 0, .null, []), (1, 3, 0, 0, .null, []), (3, 0, 0, 0, .null, []), (36, 6, 0, 133, .null, []), (49, 10, 0, 4, .null, [(0, 176), (0, 177), (0, 178), (0, 14)]), (29, 3, 26, 0, .null, []), (3, 0, 0, 0, .null, []), (36, 6, 0, 133, .null, []), (0, 0, 0, 0, .int 2, []), (0, 0, 0, 0, .int 1, []), (1, 3, 0, 0, .null, []), (49, 29, 3, 4, .null, [(0, 358), (0, 229), (0, 230), (0, 14)]), (4, 4, 0, 0, .null, []), (1, 4, 0, 0, .null, []), (0, 295, 0, 0, .int (-1000000001), []), (29, 0, 24, 0, .null, []), (2, 1, 0, 0, .null, []), (1, 4, 0, 0, .null, []), (26, 0, 0, 0, .null, []), (18, 0, 0, 0, .null, []), (5, 1, 0, 0, .null, []), (7, 3, 0, 0, .int 1, []), (32, 0, 4, 0, .null, []), (2, 1, 0, 0, .null, []), (52, 0, 0, 0, .null, [])]
def qr_63 : List qRow := [(0, .lconst 0, 1), (1, .lstore_n 1, 1), (2, .iconst 0, 1), (3, .istore_n 3, 1), (4, .iload_n 3, 1), (5, .aload_n 0, 1), (6, .getfield 10, 3), (9, .invokevirtual 66, 3), (12, .if_icmp .ge 34, 3), (15, .aload_n 0, 1), (16, .getfield 10, 3), (19, .iconst 2, 1), (20, .iconst 1, 1), (21, .iload_n 3, 1), (22, .invokevirtual 173, 3), (25, .istore 4, 2), (27, .iload 4, 2), (29, .ldc 79, 2), (31, .if_icmp .eq 9, 3), (34, .lload_n 1, 1), (35, .iload 4, 2), (37, .i2l, 1), (38, .ladd, 1), (39, .lstore_n 1, 1), (40, .iinc 3 1, 3), (43, .goto (-39), 3), (46, .lload_n 1, 1), (47, .lreturn, 1)]
def qo_64 : List qOp := [(1, 1, 0, 0, .null, []), (4, 3, 0, 0, .null, []), (1, 3, 0, 0, .null, []), (1, 2, 0, 0, .null, []), (29, 3, 20, 0, .null, []), (3, 0, 0, 0, .null, []), (36, 6, 0, 133, .null, []), (1, 3, 0, 0, .null, []), (3, 0, 0, 0, .null, []), (36, 6, 0, 133, .null, []), (1, 1, 0, 0, .null, []), (0, 0, 0, 0, .int 1, []), (9, 0, 0, 0, .null, []), (1, 2, 0, 0, .null, []), (1, 3, 0, 0, .null, []), (49, 26, 3, 4, .null, [(0, 330), (0, 331), (0, 332), (0, 14)]), (27, 0, 0, 0, .null, []), (49, 14, 2, 4, .null, [(0, 307), (0, 308), (0, 309), (0, 14)]), (7, 3, 0, 0, .int 1, []), (32, 0, 2, 0, .null, []), (54, 0, 0, 0, .null, [])]
def qr_64 : List qRow := [(0, .iload_n 1, 1), (1, .istore_n 3, 1), (2, .iload_n 3, 1), (3, .iload_n 2, 1), (4, .if_icmp .ge 30, 3), (7, .aload_n 0, 1), (8, .getfield 10, 3), (11, .iload_n 3, 1), (12, .aload_n 0, 1), (13, .getfield 10, 3), (16, .iload_n 1, 1), (17, .iconst 1, 1), (18, .isub, 1), (19, .iload_n 2, 1), (20, .iload_n 3, 1), (21, .invokevirtual 102, 3), (24, .l2i, 1), (25, .invokevirtual 92, 3), (28, .iinc 3 1, 3), (31, .goto (-29), 3), (34, .return_, 1)]
def qo_65 : List qOp := [(0, 0, 0, 0, .int 31, []), (4, 1, 0, 0, .null, []), (1, 1, 0, 0, .null, []), (0, 0, 0, 0, .int 1, []), (29, 2, 15, 0, .null, []), (3, 0, 0, 0, .null, []), (36, 6, 0, 133, .null, []), (0, 0, 0, 0, .int 2, []), (1, 1, 0, 0, .null, []), (49, 28, 2, 4, .null, [(0, 224), (0, 225), (0, 226), (0, 14)]), (28, 5, 13, 0, .null, []), (1, 1, 0, 0, .null, []), (50, 0, 0, 0, .null, []), (7, 1, 0, 0, .int (-1), []), (32, 0, 2, 0, .null, []), (0, 0, 0, 0, .int 0, []), (50, 0, 0, 0, .null, [])]
def qr_65 : List qRow := [(0, .bipush 31, 2), (2, .istore_n 1, 1), (3, .iload_n 1, 1), (4, .iconst 1, 1), (5, .if_icmp .lt 23, 3), (8, .aload_n 0, 1), (9, .getfield 10, 3), (12, .iconst 2, 1), (13, .iload_n 1, 1), (14, .invokevirtual 109, 3), (17, .ifCond .le 5, 3), (20, .iload_n 1, 1), (21, .ireturn, 1), (22, .iinc 1 (-1), 3), (25, .goto (-22), 3), (28, .iconst 0, 1), (29, .ireturn, 1)]
def qo_66 : List qOp := [(1, 1, 0, 0, .null, []), (48, 67, 1, 0, .null, [(0, 436), (0, 437), (0, 13)]), (4, 4, 0, 0, .null, []), (0, 0, 0, 0, .long 0, []), (5, 5, 0, 0, .null, []), (0, 0, 0, 0, .long 0, []), (5, 7, 0, 0, .null, []), (0, 0, 0, 0, .int 0, []), (4, 9, 0, 0, .null, []), (1, 9, 0, 0, .null, []), (3, 0, 0, 0, .null, []), (36, 6, 0, 133, .null, []), (49, 10, 0, 4, .null, [(0, 176), (0, 177), (0, 178), (0, 14)]), (29, 3, 38, 0, .null, []), (3, 0, 0, 0, .null, []), (36, 6, 0, 133, .null, []), (1, 4, 0, 0, .null, []), (1, 2, 0, 0, .null, []), (1, 9, 0, 0, .null, []), (49, 29, 3, 4, .null, [(0, 358), (0, 229), (0, 230), (0, 14)]), (26, 0, 0, 0, .null, []), (5, 10, 0, 0, .null, []), (2, 10, 0, 0, .null, []), (0, 439, 0, 0, .long (-1000000001), []), (25, 0, 0, 0, .null, []), (28, 0, 36, 0, .null, []), (2, 5, 0, 0, .null, []), (2, 10, 0, 0, .null, []), (2, 10, 0, 0, .null, []), (20, 0, 0, 0, .null, []), (18, 0, 0, 0, .null, []), (5, 5, 0, 0, .null, []), (2, 7, 0, 0, .null, []), (0, 0, 0, 0, .long 1, []), (18, 0, 0, 0, .null, []), (5, 7, 0, 0, .null, []), (7, 9, 0, 0, .int 1, []), (32, 0, 9, 0, .null, []), (3, 3, 0, 0, .null, []), (2, 5, 0, 0, .null, []), (1, 1, 0, 0, .null, []), (1, 2, 0, 0, .null, []), (26, 0, 0, 0, .null, []), (48, 68, 2, 0, .null, [(0, 440), (0, 441), (0, 13)]), (2, 7, 0, 0, .null, []), (20, 0, 0, 0, .null, []), (49, 1, 2, 0, .null, [(0, 444), (0, 445), (0, 446), (0, 19)]), (54, 0, 0, 0, .null, [])]
def qr_66 : List qRow := [(0, .iload_n 1, 1), (1, .invokestatic 256, 3), (4, .istore 4, 2), (6, .lconst 0, 1), (7, .lstore 5, 2), (9, .lconst 0, 1), (10, .lstore 7, 2), (12, .iconst 0, 1), (13, .istore 9, 2), (15, .iload 9, 2), (17, .aload_n 0, 1), (18, .getfield 10, 3), (21, .invokevirtual 66, 3), (24, .if_icmp .ge 49, 3), (27, .aload_n 0, 1), (28, .getfield 10, 3), (31, .iload 4, 2), (33, .iload_n 2, 1), (34, .iload 9, 2), (36, .invokevirtual 173, 3), (39, .i2l, 1), (40, .lstore 10, 2), (42, .lload 10, 2), (44, .ldc2_w 190, 3), (47, .lcmp, 1), (48, .ifCond .eq 19, 3), (51, .lload 5, 2), (53, .lload 10, 2), (55, .lload 10, 2), (57, .lmul, 1), (58, .ladd, 1), (59, .lstore 5, 2), (61, .lload 7, 2), (63, .lconst 1, 1), (64, .ladd, 1), (65, .lstore 7, 2), (67, .iinc 9 1, 3), (70, .goto (-55), 3), (73, .aload_n 3, 1), (74, .lload 5, 2), (76, .iload_n 1, 1), (77, .iload_n 2, 1), (78, .i2l, 1), (79, .invokestatic 259, 3), (82, .lload 7, 2), (84, .lmul, 1), (85, .invokevirtual 263, 3), (88, .return_, 1)]
def qo_67 : List qOp := [(1, 0, 0, 0, .null, []), (28, 1, 4, 0, .null, []), (0, 0, 0, 0, .int 2, []), (50, 0, 0, 0, .null, []), (1, 0, 0, 0, .null, []), (0, 0, 0, 0, .int 1, []), (29, 1, 9, 0, .null, []), (0, 0, 0, 0, .int 3, []), (32, 0, 10, 0, .null, []), (0, 0, 0, 0, .int 4, []), (50, 0, 0, 0, .null, [])]
def qr_67 : List qRow := [(0, .iload_n 0, 1), (1, .ifCond .ne 5, 3), (4, .iconst 2, 1), (5, .ireturn, 1), (6, .iload_n 0, 1), (7, .iconst 1, 1), (8, .if_icmp .ne 7, 3), (11, .iconst 3, 1), (12, .goto 4, 3), (15, .iconst 4, 1), (16, .ireturn, 1)]
def qo_68 : List qOp := [(1, 0, 0, 0, .null, []), (33, 0, 18, 0, .null, [(0, 2), (2, 8)]), (0, 360, 0, 0, .long 2, []), (2, 1, 0, 0, .null, []), (20, 0, 0, 0, .null, []), (2, 1, 0, 0, .null, []), (20, 0, 0, 0, .null, []), (52, 0, 0, 0, .null, []), (0, 360, 0, 0, .long 2, []), (2, 1, 0, 0, .null, []), (20, 0, 0, 0, .null, []), (2, 1, 0, 0, .null, []), (20, 0, 0, 0, .null, []), (2, 1, 0, 0, .null, []), (20, 0, 0, 0, .null, []), (2, 1, 0, 0, .null, []), (20, 0, 0, 0, .null, []), (52, 0, 0, 0, .null, []), (0, 443, 0, 0, .long 6, []), (2, 1, 0, 0, .null, []), (20, 0, 0, 0, .null, []), (2, 1, 0, 0, .null, []), (20, 0, 0, 0, .null, []), (52, 0, 0, 0, .null, [])]
def qr_68 : List qRow := [(0, .iload_n 0, 1), (1, .lookupswitch 47 #[(0, 27), (2, 35)], 27), (28, .ldc2_w 123, 3), (31, .lload_n 1, 1), (32, .lmul, 1), (33, .lload_n 1, 1), (34, .lmul, 1), (35, .lreturn, 1), (36, .ldc2_w 123, 3), (39, .lload_n 1, 1), (40, .lmul, 1), (41, .lload_n 1, 1), (42, .lmul, 1), (43, .lload_n 1, 1), (44, .lmul, 1), (45, .lload_n 1, 1), (46, .lmul, 1), (47, .lreturn, 1), (48, .ldc2_w 267, 3), (51, .lload_n 1, 1), (52, .lmul, 1), (53, .lload_n 1, 1), (54, .lmul, 1), (55, .lreturn, 1)]
def qo_69 : List qOp := [(0, 0, 0, 0, .long 0, []), (5, 2, 0, 0, .null, []), (0, 0, 0, 0, .int 30, []), (4, 4, 0, 0, .null, []), (1, 4, 0, 0, .null, []), (28, 2, 22, 0, .null, []), (2, 2, 0, 0, .null, []), (0, 0, 0, 0, .long 1, []), (1, 4, 0, 0, .null, []), (24, 0, 0, 0, .null, []), (18, 0, 0, 0, .null, []), (5, 5, 0, 0, .null, []), (2, 5, 0, 0, .null, []), (2, 5, 0, 0, .null, []), (20, 0, 0, 0, .null, []), (2, 0, 0, 0, .null, []), (25, 0, 0, 0, .null, []), (28, 4, 20, 0, .null, []), (2, 5, 0, 0, .null, []), (5, 2, 0, 0, .null, []), (7, 4, 0, 0, .int (-1), []), (32, 0, 4, 0, .null, []), (2, 2, 0, 0, .null, []), (52, 0, 0, 0, .null, [])]
def qr_69 : List qRow := [(0, .lconst 0, 1), (1, .lstore_n 2, 1), (2, .bipush 30, 2), (4, .istore 4, 2), (6, .iload 4, 2), (8, .ifCond .lt 30, 3), (11, .lload_n 2, 1), (12, .lconst 1, 1), (13, .iload 4, 2), (15, .lshl, 1), (16, .ladd, 1), (17, .lstore 5, 2), (19, .lload 5, 2), (21, .lload 5, 2), (23, .lmul, 1), (24, .lload_n 0, 1), (25, .lcmp, 1), (26, .ifCond .gt 6, 3), (29, .lload 5, 2), (31, .lstore_n 2, 1), (32, .iinc 4 (-1), 3), (35, .goto (-29), 3), (38, .lload_n 2, 1), (39, .lreturn, 1)]
def qo_70 : List qOp := [(2, 0, 0, 0, .null, []), (2, 2, 0, 0, .null, []), (25, 0, 0, 0, .null, []), (28, 3, 6, 0, .null, []), (0, 0, 0, 0, .int (-1), []), (32, 0, 13, 0, .null, []), (2, 0, 0, 0, .null, []), (2, 2, 0, 0, .null, []), (25, 0, 0, 0, .null, []), (28, 1, 12, 0, .null, []), (0, 0, 0, 0, .int 0, []), (32, 0, 13, 0, .null, []), (0, 0, 0, 0, .int 1, []), (50, 0, 0, 0, .null, [])]
def qr_70 : List qRow := [(0, .lload_n 0, 1), (1, .lload_n 2, 1), (2, .lcmp, 1), (3, .ifCond .ge 7, 3), (6, .iconst (-1), 1), (7, .goto 14, 3), (10, .lload_n 0, 1), (11, .lload_n 2, 1), (12, .lcmp, 1), (13, .ifCond .ne 7, 3), (16, .iconst 0, 1), (17, .goto 4, 3), (20, .iconst 1, 1), (21, .ireturn, 1)]
def qo_71 : List qOp := [(2, 0, 0, 0, .null, []), (2, 2, 0, 0, .null, []), (21, 0, 0, 0, .null, []), (5, 4, 0, 0, .null, []), (2, 0, 0, 0, .null, []), (2, 2, 0, 0, .null, []), (57, 0, 0, 0, .null, []), (0, 0, 0, 0, .long 0, []), (25, 0, 0, 0, .null, []), (28, 3, 20, 0, .null, []), (2, 4, 0, 0, .null, []), (2, 2, 0, 0, .null, []), (20, 0, 0, 0, .null, []), (2, 0, 0, 0, .null, []), (25, 0, 0, 0, .null, []), (28, 0, 20, 0, .null, []), (2, 4, 0, 0, .null, []), (0, 0, 0, 0, .long 1, []), (19, 0, 0, 0, .null, []), (52, 0, 0, 0, .null, []), (2, 4, 0, 0, .null, []), (52, 0, 0, 0, .null, [])]
def qr_71 : List qRow := [(0, .lload_n 0, 1), (1, .lload_n 2, 1), (2, .ldiv, 1), (3, .lstore 4, 2), (5, .lload_n 0, 1), (6, .lload_n 2, 1), (7, .lxor, 1), (8, .lconst 0, 1), (9, .lcmp, 1), (10, .ifCond .ge 17, 3), (13, .lload 4, 2), (15, .lload_n 2, 1), (16, .lmul, 1), (17, .lload_n 0, 1), (18, .lcmp, 1), (19, .ifCond .eq 8, 3), (22, .lload 4, 2), (24, .lconst 1, 1), (25, .lsub, 1), (26, .lreturn, 1), (27, .lload 4, 2), (29, .lreturn, 1)]
def qo_72 : List qOp := [(1, 0, 0, 0, .null, []), (1, 1, 0, 0, .null, []), (29, 2, 5, 0, .null, []), (1, 0, 0, 0, .null, []), (32, 0, 6, 0, .null, []), (1, 1, 0, 0, .null, []), (50, 0, 0, 0, .null, [])]
def qr_72 : List qRow := [(0, .iload_n 0, 1), (1, .iload_n 1, 1), (2, .if_icmp .lt 7, 3), (5, .iload_n 0, 1), (6, .goto 4, 3), (9, .iload_n 1, 1), (10, .ireturn, 1)]
def qo_73 : List qOp := [(1, 1, 0, 0, .null, []), (3, 0, 0, 0, .null, []), (59, 0, 0, 0, .null, []), (29, 3, 8, 0, .null, []), (3, 0, 0, 0, .null, []), (1, 1, 0, 0, .null, []), (58, 0, 0, 0, .null, []), (32, 0, 13, 0, .null, []), (0, 164, 0, 0, .int 747796405, []), (1, 1, 0, 0, .null, []), (0, 0, 0, 0, .int 1, []), (8, 0, 0, 0, .null, []), (10, 0, 0, 0, .null, []), (50, 0, 0, 0, .null, [])]
def qr_73 : List qRow := [(0, .iload_n 1, 1), (1, .aload_n 0, 1), (2, .arraylength, 1), (3, .if_icmp .ge 9, 3), (6, .aload_n 0, 1), (7, .iload_n 1, 1), (8, .iaload, 1), (9, .goto 9, 3), (12, .ldc 7, 2), (14, .iload_n 1, 1), (15, .iconst 1, 1), (16, .iadd, 1), (17, .imul, 1), (18, .ireturn, 1)]
def qo_74 : List qOp := [(1, 0, 0, 0, .null, []), (0, 168, 0, 0, .int 2147483647, []), (11, 0, 0, 0, .null, []), (1, 1, 0, 0, .null, []), (16, 0, 0, 0, .null, []), (50, 0, 0, 0, .null, [])]
def qr_74 : List qRow := [(0, .iload_n 0, 1), (1, .ldc 8, 2), (3, .iand, 1), (4, .iload_n 1, 1), (5, .irem, 1), (6, .ireturn, 1)]
def qo_75 : List qOp := [(3, 0, 0, 0, .null, []), (0, 0, 0, 0, .int 0, []), (49, 45, 1, 6, .null, [(0, 172), (0, 173), (0, 174), (0, 13)]), (4, 3, 0, 0, .null, []), (1, 3, 0, 0, .null, []), (28, 1, 8, 0, .null, []), (0, 0, 0, 0, .int 0, []), (32, 0, 13, 0, .null, []), (1, 1, 0, 0, .null, []), (0, 0, 0, 0, .int 5, []), (14, 0, 0, 0, .null, []), (1, 3, 0, 0, .null, []), (48, 74, 2, 0, .null, [(0, 165), (0, 166), (0, 12)]), (4, 4, 0, 0, .null, []), (1, 3, 0, 0, .null, []), (28, 1, 18, 0, .null, []), (0, 0, 0, 0, .int 0, []), (32, 0, 23, 0, .null, []), (1, 1, 0, 0, .null, []), (0, 0, 0, 0, .int 12, []), (14, 0, 0, 0, .null, []), (1, 3, 0, 0, .null, []), (48, 74, 2, 0, .null, [(0, 165), (0, 166), (0, 12)]), (4, 5, 0, 0, .null, []), (1, 1, 0, 0, .null, []), (0, 0, 0, 0, .int 20, []), (48, 74, 2, 0, .null, [(0, 165), (0, 166), (0, 12)]), (33, 0, 179, 0, .null, [(0, 28), (1, 28), (2, 28), (3, 28), (4, 28), (5, 28), (6, 28), (7, 28), (8, 52), (9, 60), (10, 75), (11, 85), (12, 90), (13, 105), (14, 108), (15, 126), (16, 134), (17, 152)]), (3, 0, 0, 0, .null, []), (1, 2, 0, 0, .null, []), (1, 2, 0, 0, .null, []), (0, 0, 0, 0, .int 10, []), (14, 0, 0, 0, .null, []), (0, 0, 0, 0, .int 3, []), (48, 74, 2, 0, .null, [(0, 165), (0, 166), (0, 12)]), (28, 1, 38, 0, .null, []), (0, 257, 0, 0, .int 199999, []), (32, 0, 39, 0, .null, []), (0, 0, 0, 0, .int 41, []), (48, 74, 2, 0, .null, [(0, 165), (0, 166), (0, 12)]), (1, 2, 0, 0, .null, []), (0, 0, 0, 0, .int 10, []), (14, 0, 0, 0, .null, []), (0, 0, 0, 0, .int 3, []), (48, 74, 2, 0, .null, [(0, 165), (0, 166), (0, 12)]), (28, 1, 48, 0, .null, []), (0, 258, 0, 0, .int 99999, []), (32, 0, 49, 0, .null, []), (0, 0, 0, 0, .int 20, []), (9, 0, 0, 0, .null, []), (49, 34, 1, 6, .null, [(0, 259), (0, 260), (0, 261), (0, 13)]), (50, 0, 0, 0, .null, []), (3, 0, 0, 0, .null, []), (0, 0, 0, 0, .int 1, []), (1, 2, 0, 0, .null, []), (0, 0, 0, 0, .int 3, []), (48, 74, 2, 0, .null, [(0, 165), (0, 166), (0, 12)]), (8, 0, 0, 0, .null, []), (49, 35, 1, 6, .null, [(0, 291), (0, 292), (0, 293), (0, 13)]), (50, 0, 0, 0, .null, []), (3, 0, 0, 0, .null, []), (1, 4, 0, 0, .null, []), (1, 2, 0, 0, .null, []), (0, 0, 0, 0, .int 3, []), (48, 74, 2, 0, .null, [(0, 165), (0, 166), (0, 12)]), (28, 1, 68, 0, .null, []), (0, 300, 0, 0, .int (-1000000001), []), (32, 0, 73, 0, .null, []), (1, 2, 0, 0, .null, []), (0, 0, 0, 0, .int 2001, []), (48, 74, 2, 0, .null, [(0, 165), (0, 166), (0, 12)]), (0, 0, 0, 0, .int 1000, []), (9, 0, 0, 0, .null, []), (49, 36, 2, 6, .null, [(0, 301), (0, 302), (0, 303), (0, 13)]), (50, 0, 0, 0, .null, []), (1, 2, 0, 0, .null, []), (0, 0, 0, 0, .int 12, []), (48, 74, 2, 0, .null, [(0, 165), (0, 166), (0, 12)]), (28, 1, 82, 0, .null, []), (3, 0, 0, 0, .null, []), (49, 37, 0, 6, .null, [(0, 311), (0, 312), (0, 313), (0, 13)]), (32, 0, 84, 0, .null, []), (3, 0, 0, 0, .null, []), (49, 44, 0, 6, .null, [(0, 316), (0, 317), (0, 318), (0, 13)]), (50, 0, 0, 0, .null, []), (3, 0, 0, 0, .null, []), (1, 4, 0, 0, .null, []), (1, 5, 0, 0, .null, []), (49, 38, 2, 6, .null, [(0, 325), (0, 326), (0, 327), (0, 13)]), (50, 0, 0, 0, .null, []), (3, 0, 0, 0, .null, []), (1, 2, 0, 0, .null, []), (0, 0, 0, 0, .int 41, []), (48, 74, 2, 0, .null, [(0, 165), (0, 166), (0, 12)]), (0, 0, 0, 0, .int 20, []), (9, 0, 0, 0, .null, []), (1, 2, 0, 0, .null, []), (0, 0, 0, 0, .int 8, []), (14, 0, 0, 0, .null, []), (0, 0, 0, 0, .int 2001, []), (48, 74, 2, 0, .null, [(0, 165), (0, 166), (0, 12)]), (0, 0, 0, 0, .int 1000, []), (9, 0, 0, 0, .null, []), (49, 39, 2, 6, .null, [(0, 346), (0, 347), (0, 348), (0, 13)]), (50, 0, 0, 0, .null, []), (3, 0, 0, 0, .null, []), (49, 40, 0, 6, .null, [(0, 350), (0, 351), (0, 352), (0, 13)]), (50, 0, 0, 0, .null, []), (3, 0, 0, 0, .null, []), (1, 2, 0, 0, .null, []), (0, 0, 0, 0, .int 3, []), (48, 74, 2, 0, .null, [(0, 165), (0, 166), (0, 12)]), (28, 1, 119, 0, .null, []), (1, 2, 0, 0, .null, []), (0, 0, 0, 0, .int 2, []), (14, 0, 0, 0, .null, []), (0, 0, 0, 0, .int 40, []), (48, 74, 2, 0, .null, [(0, 165), (0, 166), (0, 12)]), (32, 0, 124, 0, .null, []), (1, 2, 0, 0, .null, []), (0, 0, 0, 0, .int 2, []), (14, 0, 0, 0, .null, []), (0, 361, 0, 0, .int 100000, []), (48, 74, 2, 0, .null, [(0, 165), (0, 166), (0, 12)]), (49, 41, 1, 6, .null, [(0, 362), (0, 363), (0, 364), (0, 13)]), (50, 0, 0, 0, .null, []), (3, 0, 0, 0, .null, []), (0, 0, 0, 0, .int 1, []), (1, 2, 0, 0, .null, []), (0, 0, 0, 0, .int 6, []), (48, 74, 2, 0, .null, [(0, 165), (0, 166), (0, 12)]), (8, 0, 0, 0, .null, []), (49, 42, 1, 6, .null, [(0, 375), (0, 376), (0, 377), (0, 13)]), (50, 0, 0, 0, .null, []), (1, 2, 0, 0, .null, []), (0, 0, 0, 0, .int 6, []), (48, 74, 2, 0, .null, [(0, 165), (0, 166), (0, 12)]), (28, 1, 149, 0, .null, []), (3, 0, 0, 0, .null, []), (0, 0, 0, 0, .int 1, []), (1, 2, 0, 0, .null, []), (0, 0, 0, 0, .int 3, []), (14, 0, 0, 0, .null, []), (0, 0, 0, 0, .int 3, []), (48, 74, 2, 0, .null, [(0, 165), (0, 166), (0, 12)]), (8, 0, 0, 0, .null, []), (0, 0, 0, 0, .int 0, []), (49, 43, 2, 6, .null, [(0, 384), (0, 385), (0, 386), (0, 13)]), (32, 0, 151, 0, .null, []), (3, 0, 0, 0, .null, []), (49, 44, 0, 6, .null, [(0, 316), (0, 317), (0, 318), (0, 13)]), (50, 0, 0, 0, .null, []), (1, 2, 0, 0, .null, []), (0, 0, 0, 0, .int 2, []), (48, 74, 2, 0, .null, [(0, 165), (0, 166), (0, 12)]), (28, 1, 164, 0, .null, []), (3, 0, 0, 0, .null, []), (1, 2, 0, 0, .null, []), (0, 0, 0, 0, .int 1, []), (14, 0, 0, 0, .null, []), (0, 0, 0, 0, .int 2, []), (48, 74, 2, 0, .null, [(0, 165), (0, 166), (0, 12)]), (49, 53, 1, 6, .null, [(0, 388), (0, 389), (0, 390), (0, 13)]), (32, 0, 178, 0, .null, []), (1, 2, 0, 0, .null, []), (0, 0, 0, 0, .int 6, []), (48, 74, 2, 0, .null, [(0, 165), (0, 166), (0, 12)]), (0, 0, 0, 0, .int 1, []), (29, 1, 177, 0, .null, []), (3, 0, 0, 0, .null, []), (1, 2, 0, 0, .null, []), (0, 0, 0, 0, .int 3, []), (14, 0, 0, 0, .null, []), (0, 0, 0, 0, .int 2, []), (48, 74, 2, 0, .null, [(0, 165), (0, 166), (0, 12)]), (49, 54, 1, 6, .null, [(0, 396), (0, 397), (0, 398), (0, 13)]), (32, 0, 178, 0, .null, []), (0, 0, 0, 0, .int (-9), []), (50, 0, 0, 0, .null, []), (3, 0, 0, 0, .null, []), (1, 2, 0, 0, .null, []), (0, 0, 0, 0, .int 2001, []), (48, 74, 2, 0, .null, [(0, 165), (0, 166), (0, 12)]), (0, 0, 0, 0, .int 1000, []), (9, 0, 0, 0, .null, []), (49, 34, 1, 6, .null, [(0, 259), (0, 260), (0, 261), (0, 13)]), (50, 0, 0, 0, .null, [])]
def qr_75 : List qRow := [(0, .aload_n 0, 1), (1, .iconst 0, 1), (2, .invokevirtual 9, 3), (5, .istore_n 3, 1), (6, .iload_n 3, 1), (7, .ifCond .ne 7, 3), (10, .iconst 0, 1), (11, .goto 10, 3), (14, .iload_n 1, 1), (15, .iconst 5, 1), (16, .ishr, 1), (17, .iload_n 3, 1), (18, .invokestatic 15, 3), (21, .istore 4, 2), (23, .iload_n 3, 1), (24, .ifCond .ne 7, 3), (27, .iconst 0, 1), (28, .goto 11, 3), (31, .iload_n 1, 1), (32, .bipush 12, 2), (34, .ishr, 1), (35, .iload_n 3, 1), (36, .invokestatic 15, 3), (39, .istore 5, 2), (41, .iload_n 1, 1), (42, .bipush 20, 2), (44, .invokestatic 15, 3), (47, .tableswitch 362 0 17 #[85, 85, 85, 85, 85, 85, 85, 85, 131, 143, 174, 195, 204, 232, 237, 269, 282, 313], 85), (132, .aload_n 0, 1), (133, .iload_n 2, 1), (134, .iload_n 2, 1), (135, .bipush 10, 2), (137, .ishr, 1), (138, .iconst 3, 1), (139, .invokestatic 15, 3), (142, .ifCond .ne 8, 3), (145, .ldc 21, 2), (147, .goto 5, 3), (150, .bipush 41, 2), (152, .invokestatic 15, 3), (155, .iload_n 2, 1), (156, .bipush 10, 2), (158, .ishr, 1), (159, .iconst 3, 1), (160, .invokestatic 15, 3), (163, .ifCond .ne 8, 3), (166, .ldc 22, 2), (168, .goto 5, 3), (171, .bipush 20, 2), (173, .isub, 1), (174, .invokevirtual 23, 3), (177, .ireturn, 1), (178, .aload_n 0, 1), (179, .iconst 1, 1), (180, .iload_n 2, 1), (181, .iconst 3, 1), (182, .invokestatic 15, 3), (185, .iadd, 1), (186, .invokevirtual 26, 3), (189, .ireturn, 1), (190, .aload_n 0, 1), (191, .iload 4, 2), (193, .iload_n 2, 1), (194, .iconst 3, 1), (195, .invokestatic 15, 3), (198, .ifCond .ne 8, 3), (201, .ldc 29, 2), (203, .goto 14, 3), (206, .iload_n 2, 1), (207, .sipush 2001, 3), (210, .invokestatic 15, 3), (213, .sipush 1000, 3), (216, .isub, 1), (217, .invokevirtual 30, 3), (220, .ireturn, 1), (221, .iload_n 2, 1), (222, .bipush 12, 2), (224, .invokestatic 15, 3), (227, .ifCond .ne 10, 3), (230, .aload_n 0, 1), (231, .invokevirtual 33, 3), (234, .goto 7, 3), (237, .aload_n 0, 1), (238, .invokevirtual 37, 3), (241, .ireturn, 1), (242, .aload_n 0, 1), (243, .iload 4, 2), (245, .iload 5, 2), (247, .invokevirtual 40, 3), (250, .ireturn, 1), (251, .aload_n 0, 1), (252, .iload_n 2, 1), (253, .bipush 41, 2), (255, .invokestatic 15, 3), (258, .bipush 20, 2), (260, .isub, 1), (261, .iload_n 2, 1), (262, .bipush 8, 2), (264, .ishr, 1), (265, .sipush 2001, 3), (268, .invokestatic 15, 3), (271, .sipush 1000, 3), (274, .isub, 1), (275, .invokevirtual 43, 3), (278, .ireturn, 1), (279, .aload_n 0, 1), (280, .invokevirtual 46, 3), (283, .ireturn, 1), (284, .aload_n 0, 1), (285, .iload_n 2, 1), (286, .iconst 3, 1), (287, .invokestatic 15, 3), (290, .ifCond .ne 14, 3), (293, .iload_n 2, 1), (294, .iconst 2, 1), (295, .ishr, 1), (296, .bipush 40, 2), (298, .invokestatic 15, 3), (301, .goto 11, 3), (304, .iload_n 2, 1), (305, .iconst 2, 1), (306, .ishr, 1), (307, .ldc 49, 2), (309, .invokestatic 15, 3), (312, .invokevirtual 50, 3), (315, .ireturn, 1), (316, .aload_n 0, 1), (317, .iconst 1, 1), (318, .iload_n 2, 1), (319, .bipush 6, 2), (321, .invokestatic 15, 3), (324, .iadd, 1), (325, .invokevirtual 53, 3), (328, .ireturn, 1), (329, .iload_n 2, 1), (330, .bipush 6, 2), (332, .invokestatic 15, 3), (335, .ifCond .ne 20, 3), (338, .aload_n 0, 1), (339, .iconst 1, 1), (340, .iload_n 2, 1), (341, .iconst 3, 1), (342, .ishr, 1), (343, .iconst 3, 1), (344, .invokestatic 15, 3), (347, .iadd, 1), (348, .iconst 0, 1), (349, .invokevirtual 56, 3), (352, .goto 7, 3), (355, .aload_n 0, 1), (356, .invokevirtual 37, 3), (359, .ireturn, 1), (360, .iload_n 2, 1), (361, .iconst 2, 1), (362, .invokestatic 15, 3), (365, .ifCond .ne 17, 3), (368, .aload_n 0, 1), (369, .iload_n 2, 1), (370, .iconst 1, 1), (371, .ishr, 1), (372, .iconst 2, 1), (373, .invokestatic 15, 3), (376, .invokevirtual 59, 3), (379, .goto 29, 3), (382, .iload_n 2, 1), (383, .bipush 6, 2), (385, .invokestatic 15, 3), (388, .iconst 1, 1), (389, .if_icmp .ne 17, 3), (392, .aload_n 0, 1), (393, .iload_n 2, 1), (394, .iconst 3, 1), (395, .ishr, 1), (396, .iconst 2, 1), (397, .invokestatic 15, 3), (400, .invokevirtual 62, 3), (403, .goto 5, 3), (406, .bipush (-9), 2), (408, .ireturn, 1), (409, .aload_n 0, 1), (410, .iload_n 2, 1), (411, .sipush 2001, 3), (414, .invokestatic 15, 3), (417, .sipush 1000, 3), (420, .isub, 1), (421, .invokevirtual 23, 3), (424, .ireturn, 1)]
def qo_76 : List qOp := [(0, 300, 0, 0, .int (-1000000001), []), (4, 2, 0, 0, .null, []), (3, 0, 0, 0, .null, []), (0, 0, 0, 0, .int 0, []), (49, 45, 1, 6, .null, [(0, 172), (0, 173), (0, 174), (0, 13)]), (4, 3, 0, 0, .null, []), (0, 0, 0, 0, .int 0, []), (4, 4, 0, 0, .null, []), (0, 0, 0, 0, .int 0, []), (4, 5, 0, 0, .null, []), (0, 0, 0, 0, .int 0, []), (4, 6, 0, 0, .null, []), (0, 0, 0, 0, .int 0, []), (4, 7, 0, 0, .null, []), (1, 7, 0, 0, .null, []), (1, 3, 0, 0, .null, []), (29, 3, 199, 0, .null, []), (3, 0, 0, 0, .null, []), (0, 0, 0, 0, .int 2, []), (1, 1, 0, 0, .null, []), (1, 7, 0, 0, .null, []), (49, 47, 3, 6, .null, [(0, 403), (0, 404), (0, 405), (0, 13)]), (4, 8, 0, 0, .null, []), (3, 0, 0, 0, .null, []), (0, 0, 0, 0, .int 2, []), (1, 1, 0, 0, .null, []), (1, 7, 0, 0, .null, []), (1, 1, 0, 0, .null, []), (8, 0, 0, 0, .null, []), (49, 47, 3, 6, .null, [(0, 403), (0, 404), (0, 405), (0, 13)]), (4, 9, 0, 0, .null, []), (3, 0, 0, 0, .null, []), (0, 0, 0, 0, .int 3, []), (1, 1, 0, 0, .null, []), (1, 7, 0, 0, .null, []), (49, 47, 3, 6, .null, [(0, 403), (0, 404), (0, 405), (0, 13)]), (4, 10, 0, 0, .null, []), (3, 0, 0, 0, .null, []), (0, 0, 0, 0, .int 4, []), (1, 1, 0, 0, .null, []), (1, 7, 0, 0, .null, []), (49, 47, 3, 6, .null, [(0, 403), (0, 404), (0, 405), (0, 13)]), (4, 11, 0, 0, .null, []), (0, 0, 0, 0, .int 0, []), (4, 12, 0, 0, .null, []), (0, 0, 0, 0, .int 1, []), (4, 13, 0, 0, .null, []), (0, 0, 0, 0, .int 0, []), (4, 14, 0, 0, .null, []), (1, 14, 0, 0, .null, []), (1, 1, 0, 0, .null, []), (29, 3, 79, 0, .null, []), (3, 0, 0, 0, .null, []), (0, 0, 0, 0, .int 2, []), (1, 1, 0, 0, .null, []), (1, 7, 0, 0, .null, []), (1, 14, 0, 0, .null, []), (8, 0, 0, 0, .null, []), (49, 47, 3, 6, .null, [(0, 403), (0, 404), (0, 405), (0, 13)]), (4, 15, 0, 0, .null, []), (1, 13, 0, 0, .null, []), (28, 0, 67, 0, .null, []), (1, 15, 0, 0, .null, []), (1, 2, 0, 0, .null, []), (29, 0, 67, 0, .null, []), (0, 0, 0, 0, .int 1, []), (32, 0, 68, 0, .null, []), (0, 0, 0, 0, .int 0, []), (4, 13, 0, 0, .null, []), (1, 13, 0, 0, .null, []), (28, 0, 75, 0, .null, []), (1, 12, 0, 0, .null, []), (1, 15, 0, 0, .null, []), (8, 0, 0, 0, .null, []), (32, 0, 76, 0, .null, []), (1, 12, 0, 0, .null, []), (4, 12, 0, 0, .null, []), (7, 14, 0, 0, .int 1, []), (32, 0, 49, 0, .null, []), (1, 10, 0, 0, .null, []), (1, 8, 0, 0, .null, []), (1, 2, 0, 0, .null, []), (29, 0, 86, 0, .null, []), (1, 9, 0, 0, .null, []), (1, 2, 0, 0, .null, []), (29, 1, 88, 0, .null, []), (1, 2, 0, 0, .null, []), (32, 0, 91, 0, .null, []), (1, 9, 0, 0, .null, []), (1, 8, 0, 0, .null, []), (9, 0, 0, 0, .null, []), (29, 1, 101, 0, .null, []), (1, 11, 0, 0, .null, []), (1, 13, 0, 0, .null, []), (28, 0, 97, 0, .null, []), (1, 12, 0, 0, .null, []), (32, 0, 98, 0, .null, []), (1, 2, 0, 0, .null, []), (29, 1, 101, 0, .null, []), (0, 0, 0, 0, .int 1, []), (32, 0, 102, 0, .null, []), (0, 0, 0, 0, .int 0, []), (4, 14, 0, 0, .null, []), (1, 7, 0, 0, .null, []), (0, 0, 0, 0, .int 2, []), (1, 1, 0, 0, .null, []), (10, 0, 0, 0, .null, []), (8, 0, 0, 0, .null, []), (1, 3, 0, 0, .null, []), (29, 3, 133, 0, .null, []), (3, 0, 0, 0, .null, []), (1, 7, 0, 0, .null, []), (49, 46, 1, 6, .null, [(0, 413), (0, 414), (0, 415), (0, 13)]), (1, 2, 0, 0, .null, []), (29, 0, 133, 0, .null, []), (3, 0, 0, 0, .null, []), (1, 7, 0, 0, .null, []), (1, 1, 0, 0, .null, []), (8, 0, 0, 0, .null, []), (49, 46, 1, 6, .null, [(0, 413), (0, 414), (0, 415), (0, 13)]), (1, 2, 0, 0, .null, []), (29, 0, 133, 0, .null, []), (3, 0, 0, 0, .null, []), (1, 7, 0, 0, .null, []), (0, 0, 0, 0, .int 2, []), (1, 1, 0, 0, .null, []), (10, 0, 0, 0, .null, []), (8, 0, 0, 0, .null, []), (49, 46, 1, 6, .null, [(0, 413), (0, 414), (0, 415), (0, 13)]), (1, 2, 0, 0, .null, []), (29, 0, 133, 0, .null, []), (0, 0, 0, 0, .int 1, []), (32, 0, 134, 0, .null, []), (0, 0, 0, 0, .int 0, []), (4, 15, 0, 0, .null, []), (1, 14, 0, 0, .null, []), (28, 0, 168, 0, .null, []), (1, 15, 0, 0, .null, []), (1, 8, 0, 0, .null, []), (1, 2, 0, 0, .null, []), (29, 0, 143, 0, .null, []), (0, 0, 0, 0, .int 1, []), (32, 0, 144, 0, .null, []), (0, 0, 0, 0, .int 0, []), (29, 1, 168, 0, .null, []), (1, 15, 0, 0, .null, []), (28, 0, 170, 0, .null, []), (1, 8, 0, 0, .null, []), (3, 0, 0, 0, .null, []), (1, 7, 0, 0, .null, []), (0, 0, 0, 0, .int 2, []), (1, 1, 0, 0, .null, []), (10, 0, 0, 0, .null, []), (8, 0, 0, 0, .null, []), (49, 46, 1, 6, .null, [(0, 413), (0, 414), (0, 415), (0, 13)]), (0, 0, 0, 0, .int 2, []), (3, 0, 0, 0, .null, []), (1, 7, 0, 0, .null, []), (1, 1, 0, 0, .null, []), (8, 0, 0, 0, .null, []), (49, 46, 1, 6, .null, [(0, 413), (0, 414), (0, 415), (0, 13)]), (10, 0, 0, 0, .null, []), (9, 0, 0, 0, .null, []), (3, 0, 0, 0, .null, []), (1, 7, 0, 0, .null, []), (49, 46, 1, 6, .null, [(0, 413), (0, 414), (0, 415), (0, 13)]), (8, 0, 0, 0, .null, []), (29, 0, 170, 0, .null, []), (0, 0, 0, 0, .int 0, []), (51, 0, 0, 0, .null, []), (1, 8, 0, 0, .null, []), (1, 2, 0, 0, .null, []), (29, 0, 177, 0, .null, []), (1, 4, 0, 0, .null, []), (0, 0, 0, 0, .int 1, []), (8, 0, 0, 0, .null, []), (32, 0, 178, 0, .null, []), (1, 4, 0, 0, .null, []), (4, 4, 0, 0, .null, []), (1, 10, 0, 0, .null, []), (1, 2, 0, 0, .null, []), (29, 0, 186, 0, .null, []), (1, 5, 0, 0, .null, []), (0, 0, 0, 0, .int 1, []), (8, 0, 0, 0, .null, []), (32, 0, 187, 0, .null, []), (1, 5, 0, 0, .null, []), (4, 5, 0, 0, .null, []), (1, 11, 0, 0, .null, []), (1, 2, 0, 0, .null, []), (29, 0, 195, 0, .null, []), (1, 6, 0, 0, .null, []), (0, 0, 0, 0, .int 1, []), (8, 0, 0, 0, .null, []), (32, 0, 196, 0, .null, []), (1, 6, 0, 0, .null, []), (4, 6, 0, 0, .null, []), (7, 7, 0, 0, .int 1, []), (32, 0, 14, 0, .null, []), (3, 0, 0, 0, .null, []), (0, 0, 0, 0, .int 2, []), (1, 1, 0, 0, .null, []), (49, 48, 2, 6, .null, [(0, 417), (0, 418), (0, 419), (0, 13)]), (1, 4, 0, 0, .null, []), (29, 1, 226, 0, .null, []), (3, 0, 0, 0, .null, []), (0, 0, 0, 0, .int 3, []), (1, 1, 0, 0, .null, []), (49, 48, 2, 6, .null, [(0, 417), (0, 418), (0, 419), (0, 13)]), (1, 5, 0, 0, .null, []), (29, 1, 226, 0, .null, []), (3, 0, 0, 0, .null, []), (0, 0, 0, 0, .int 4, []), (1, 1, 0, 0, .null, []), (49, 48, 2, 6, .null, [(0, 417), (0, 418), (0, 419), (0, 13)]), (1, 6, 0, 0, .null, []), (29, 1, 226, 0, .null, []), (3, 0, 0, 0, .null, []), (0, 0, 0, 0, .int 2, []), (1, 1, 0, 0, .null, []), (1, 3, 0, 0, .null, []), (49, 47, 3, 6, .null, [(0, 403), (0, 404), (0, 405), (0, 13)]), (1, 2, 0, 0, .null, []), (29, 1, 226, 0, .null, []), (0, 0, 0, 0, .int 1, []), (32, 0, 227, 0, .null, []), (0, 0, 0, 0, .int 0, []), (51, 0, 0, 0, .null, [])]
def qr_76 : List qRow := [(0, .ldc 29, 2), (2, .istore_n 2, 1), (3, .aload_n 0, 1), (4, .iconst 0, 1), (5, .invokevirtual 9, 3), (8, .istore_n 3, 1), (9, .iconst 0, 1), (10, .istore 4, 2), (12, .iconst 0, 1), (13, .istore 5, 2), (15, .iconst 0, 1), (16, .istore 6, 2), (18, .iconst 0, 1), (19, .istore 7, 2), (21, .iload 7, 2), (23, .iload_n 3, 1), (24, .if_icmp .ge 334, 3), (27, .aload_n 0, 1), (28, .iconst 2, 1), (29, .iload_n 1, 1), (30, .iload 7, 2), (32, .invokevirtual 65, 3), (35, .istore 8, 2), (37, .aload_n 0, 1), (38, .iconst 2, 1), (39, .iload_n 1, 1), (40, .iload 7, 2), (42, .iload_n 1, 1), (43, .iadd, 1), (44, .invokevirtual 65, 3), (47, .istore 9, 2), (49, .aload_n 0, 1), (50, .iconst 3, 1), (51, .iload_n 1, 1), (52, .iload 7, 2), (54, .invokevirtual 65, 3), (57, .istore 10, 2), (59, .aload_n 0, 1), (60, .iconst 4, 1), (61, .iload_n 1, 1), (62, .iload 7, 2), (64, .invokevirtual 65, 3), (67, .istore 11, 2), (69, .iconst 0, 1), (70, .istore 12, 2), (72, .iconst 1, 1), (73, .istore 13, 2), (75, .iconst 0, 1), (76, .istore 14, 2), (78, .iload 14, 2), (80, .iload_n 1, 1), (81, .if_icmp .ge 57, 3), (84, .aload_n 0, 1), (85, .iconst 2, 1), (86, .iload_n 1, 1), (87, .iload 7, 2), (89, .iload 14, 2), (91, .iadd, 1), (92, .invokevirtual 65, 3), (95, .istore 15, 2), (97, .iload 13, 2), (99, .ifCond .eq 13, 3), (102, .iload 15, 2), (104, .iload_n 2, 1), (105, .if_icmp .eq 7, 3), (108, .iconst 1, 1), (109, .goto 4, 3), (112, .iconst 0, 1), (113, .istore 13, 2), (115, .iload 13, 2), (117, .ifCond .eq 11, 3), (120, .iload 12, 2), (122, .iload 15, 2), (124, .iadd, 1), (125, .goto 5, 3), (128, .iload 12, 2), (130, .istore 12, 2), (132, .iinc 14 1, 3), (135, .goto (-57), 3), (138, .iload 10, 2), (140, .iload 8, 2), (142, .iload_n 2, 1), (143, .if_icmp .eq 9, 3), (146, .iload 9, 2), (148, .iload_n 2, 1), (149, .if_icmp .ne 7, 3), (152, .iload_n 2, 1), (153, .goto 8, 3), (156, .iload 9, 2), (158, .iload 8, 2), (160, .isub, 1), (161, .if_icmp .ne 23, 3), (164, .iload 11, 2), (166, .iload 13, 2), (168, .ifCond .eq 8, 3), (171, .iload 12, 2), (173, .goto 4, 3), (176, .iload_n 2, 1), (177, .if_icmp .ne 7, 3), (180, .iconst 1, 1), (181, .goto 4, 3), (184, .iconst 0, 1), (185, .istore 14, 2), (187, .iload 7, 2), (189, .iconst 2, 1), (190, .iload_n 1, 1), (191, .imul, 1), (192, .iadd, 1), (193, .iload_n 3, 1), (194, .if_icmp .ge 43, 3), (197, .aload_n 0, 1), (198, .iload 7, 2), (200, .invokevirtual 69, 3), (203, .iload_n 2, 1), (204, .if_icmp .eq 33, 3), (207, .aload_n 0, 1), (208, .iload 7, 2), (210, .iload_n 1, 1), (211, .iadd, 1), (212, .invokevirtual 69, 3), (215, .iload_n 2, 1), (216, .if_icmp .eq 21, 3), (219, .aload_n 0, 1), (220, .iload 7, 2), (222, .iconst 2, 1), (223, .iload_n 1, 1), (224, .imul, 1), (225, .iadd, 1), (226, .invokevirtual 69, 3), (229, .iload_n 2, 1), (230, .if_icmp .eq 7, 3), (233, .iconst 1, 1), (234, .goto 4, 3), (237, .iconst 0, 1), (238, .istore 15, 2), (240, .iload 14, 2), (242, .ifCond .eq 57, 3), (245, .iload 15, 2), (247, .iload 8, 2), (249, .iload_n 2, 1), (250, .if_icmp .eq 7, 3), (253, .iconst 1, 1), (254, .goto 4, 3), (257, .iconst 0, 1), (258, .if_icmp .ne 41, 3), (261, .iload 15, 2), (263, .ifCond .eq 38, 3), (266, .iload 8, 2), (268, .aload_n 0, 1), (269, .iload 7, 2), (271, .iconst 2, 1), (272, .iload_n 1, 1), (273, .imul, 1), (274, .iadd, 1), (275, .invokevirtual 69, 3), (278, .iconst 2, 1), (279, .aload_n 0, 1), (280, .iload 7, 2), (282, .iload_n 1, 1), (283, .iadd, 1), (284, .invokevirtual 69, 3), (287, .imul, 1), (288, .isub, 1), (289, .aload_n 0, 1), (290, .iload 7, 2), (292, .invokevirtual 69, 3), (295, .iadd, 1), (296, .if_icmp .eq 5, 3), (299, .iconst 0, 1), (300, .ireturn, 1), (301, .iload 8, 2), (303, .iload_n 2, 1), (304, .if_icmp .eq 10, 3), (307, .iload 4, 2), (309, .iconst 1, 1), (310, .iadd, 1), (311, .goto 5, 3), (314, .iload 4, 2), (316, .istore 4, 2), (318, .iload 10, 2), (320, .iload_n 2, 1), (321, .if_icmp .eq 10, 3), (324, .iload 5, 2), (326, .iconst 1, 1), (327, .iadd, 1), (328, .goto 5, 3), (331, .iload 5, 2), (333, .istore 5, 2), (335, .iload 11, 2), (337, .iload_n 2, 1), (338, .if_icmp .eq 10, 3), (341, .iload 6, 2), (343, .iconst 1, 1), (344, .iadd, 1), (345, .goto 5, 3), (348, .iload 6, 2), (350, .istore 6, 2), (352, .iinc 7 1, 3), (355, .goto (-334), 3), (358, .aload_n 0, 1), (359, .iconst 2, 1), (360, .iload_n 1, 1), (361, .invokevirtual 72, 3), (364, .iload 4, 2), (366, .if_icmp .ne 40, 3), (369, .aload_n 0, 1), (370, .iconst 3, 1), (371, .iload_n 1, 1), (372, .invokevirtual 72, 3), (375, .iload 5, 2), (377, .if_icmp .ne 29, 3), (380, .aload_n 0, 1), (381, .iconst 4, 1), (382, .iload_n 1, 1), (383, .invokevirtual 72, 3), (386, .iload 6, 2), (388, .if_icmp .ne 18, 3), (391, .aload_n 0, 1), (392, .iconst 2, 1), (393, .iload_n 1, 1), (394, .iload_n 3, 1), (395, .invokevirtual 65, 3), (398, .iload_n 2, 1), (399, .if_icmp .ne 7, 3), (402, .iconst 1, 1), (403, .goto 4, 3), (406, .iconst 0, 1), (407, .ireturn, 1)]
def qo_77 : List qOp := [(3, 0, 0, 0, .null, []), (1, 1, 0, 0, .null, []), (1, 2, 0, 0, .null, []), (0, 0, 0, 0, .int 0, []), (49, 49, 3, 6, .null, [(0, 424), (0, 425), (0, 426), (0, 13)]), (5, 3, 0, 0, .null, []), (3, 0, 0, 0, .null, []), (1, 1, 0, 0, .null, []), (1, 2, 0, 0, .null, []), (0, 0, 0, 0, .int 1, []), (49, 49, 3, 6, .null, [(0, 424), (0, 425), (0, 426), (0, 13)]), (5, 5, 0, 0, .null, []), (1, 1, 0, 0, .null, []), (28, 1, 16, 0, .null, []), (0, 0, 0, 0, .int 2, []), (32, 0, 22, 0, .null, []), (1, 1, 0, 0, .null, []), (0, 0, 0, 0, .int 1, []), (29, 1, 21, 0, .null, []), (0, 0, 0, 0, .int 3, []), (32, 0, 22, 0, .null, []), (0, 0, 0, 0, .int 4, []), (4, 7, 0, 0, .null, []), (3, 0, 0, 0, .null, []), (1, 7, 0, 0, .null, []), (1, 2, 0, 0, .null, []), (49, 48, 2, 6, .null, [(0, 417), (0, 418), (0, 419), (0, 13)]), (28, 1, 54, 0, .null, []), (2, 3, 0, 0, .null, []), (0, 455, 0, 0, .long (-1000000001), []), (25, 0, 0, 0, .null, []), (28, 1, 52, 0, .null, []), (2, 5, 0, 0, .null, []), (0, 455, 0, 0, .long (-1000000001), []), (25, 0, 0, 0, .null, []), (28, 1, 52, 0, .null, []), (3, 0, 0, 0, .null, []), (1, 1, 0, 0, .null, []), (1, 2, 0, 0, .null, []), (49, 50, 2, 6, .null, [(0, 456), (0, 457), (0, 458), (0, 13)]), (0, 455, 0, 0, .long (-1000000001), []), (25, 0, 0, 0, .null, []), (28, 1, 52, 0, .null, []), (3, 0, 0, 0, .null, []), (1, 1, 0, 0, .null, []), (1, 2, 0, 0, .null, []), (1, 2, 0, 0, .null, []), (49, 51, 3, 6, .null, [(0, 469), (0, 470), (0, 471), (0, 13)]), (0, 300, 0, 0, .int (-1000000001), []), (29, 1, 52, 0, .null, []), (0, 0, 0, 0, .int 1, []), (32, 0, 53, 0, .null, []), (0, 0, 0, 0, .int 0, []), (51, 0, 0, 0, .null, []), (2, 3, 0, 0, .null, []), (5, 8, 0, 0, .null, []), (2, 5, 0, 0, .null, []), (5, 10, 0, 0, .null, []), (2, 10, 0, 0, .null, []), (0, 0, 0, 0, .long 0, []), (25, 0, 0, 0, .null, []), (28, 0, 71, 0, .null, []), (2, 8, 0, 0, .null, []), (2, 10, 0, 0, .null, []), (22, 0, 0, 0, .null, []), (5, 12, 0, 0, .null, []), (2, 10, 0, 0, .null, []), (5, 8, 0, 0, .null, []), (2, 12, 0, 0, .null, []), (5, 10, 0, 0, .null, []), (32, 0, 58, 0, .null, []), (3, 0, 0, 0, .null, []), (1, 1, 0, 0, .null, []), (1, 2, 0, 0, .null, []), (49, 50, 2, 6, .null, [(0, 456), (0, 457), (0, 458), (0, 13)]), (5, 12, 0, 0, .null, []), (2, 3, 0, 0, .null, []), (2, 5, 0, 0, .null, []), (21, 0, 0, 0, .null, []), (0, 480, 0, 0, .long 1000000, []), (20, 0, 0, 0, .null, []), (2, 3, 0, 0, .null, []), (2, 5, 0, 0, .null, []), (22, 0, 0, 0, .null, []), (0, 480, 0, 0, .long 1000000, []), (20, 0, 0, 0, .null, []), (2, 5, 0, 0, .null, []), (21, 0, 0, 0, .null, []), (18, 0, 0, 0, .null, []), (5, 14, 0, 0, .null, []), (2, 3, 0, 0, .null, []), (0, 0, 0, 0, .long 0, []), (25, 0, 0, 0, .null, []), (28, 2, 130, 0, .null, []), (2, 5, 0, 0, .null, []), (0, 0, 0, 0, .long 0, []), (25, 0, 0, 0, .null, []), (28, 5, 130, 0, .null, []), (2, 8, 0, 0, .null, []), (0, 0, 0, 0, .long 1, []), (25, 0, 0, 0, .null, []), (28, 1, 130, 0, .null, []), (2, 12, 0, 0, .null, []), (0, 0, 0, 0, .long 0, []), (25, 0, 0, 0, .null, []), (28, 2, 130, 0, .null, []), (2, 12, 0, 0, .null, []), (2, 12, 0, 0, .null, []), (20, 0, 0, 0, .null, []), (2, 14, 0, 0, .null, []), (25, 0, 0, 0, .null, []), (28, 4, 130, 0, .null, []), (2, 12, 0, 0, .null, []), (0, 0, 0, 0, .long 1, []), (18, 0, 0, 0, .null, []), (2, 12, 0, 0, .null, []), (0, 0, 0, 0, .long 1, []), (18, 0, 0, 0, .null, []), (20, 0, 0, 0, .null, []), (2, 14, 0, 0, .null, []), (25, 0, 0, 0, .null, []), (28, 5, 130, 0, .null, []), (3, 0, 0, 0, .null, []), (1, 1, 0, 0, .null, []), (1, 2, 0, 0, .null, []), (1, 2, 0, 0, .null, []), (49, 51, 3, 6, .null, [(0, 469), (0, 470), (0, 471), (0, 13)]), (28, 1, 130, 0, .null, []), (0, 0, 0, 0, .int 1, []), (32, 0, 131, 0, .null, []), (0, 0, 0, 0, .int 0, []), (4, 16, 0, 0, .null, []), (1, 1, 0, 0, .null, []), (0, 0, 0, 0, .int 3, []), (29, 1, 194, 0, .null, []), (3, 0, 0, 0, .null, []), (0, 0, 0, 0, .int 2, []), (1, 2, 0, 0, .null, []), (0, 0, 0, 0, .int 0, []), (49, 49, 3, 6, .null, [(0, 424), (0, 425), (0, 426), (0, 13)]), (5, 17, 0, 0, .null, []), (3, 0, 0, 0, .null, []), (0, 0, 0, 0, .int 2, []), (1, 2, 0, 0, .null, []), (0, 0, 0, 0, .int 1, []), (49, 49, 3, 6, .null, [(0, 424), (0, 425), (0, 426), (0, 13)]), (5, 19, 0, 0, .null, []), (2, 17, 0, 0, .null, []), (1, 2, 0, 0, .null, []), (26, 0, 0, 0, .null, []), (20, 0, 0, 0, .null, []), (1, 2, 0, 0, .null, []), (26, 0, 0, 0, .null, []), (20, 0, 0, 0, .null, []), (5, 21, 0, 0, .null, []), (0, 481, 0, 0, .long 3, []), (2, 19, 0, 0, .null, []), (20, 0, 0, 0, .null, []), (5, 23, 0, 0, .null, []), (2, 21, 0, 0, .null, []), (5, 25, 0, 0, .null, []), (2, 23, 0, 0, .null, []), (5, 27, 0, 0, .null, []), (2, 27, 0, 0, .null, []), (0, 0, 0, 0, .long 0, []), (25, 0, 0, 0, .null, []), (28, 0, 176, 0, .null, []), (2, 25, 0, 0, .null, []), (2, 27, 0, 0, .null, []), (22, 0, 0, 0, .null, []), (5, 29, 0, 0, .null, []), (2, 27, 0, 0, .null, []), (5, 25, 0, 0, .null, []), (2, 29, 0, 0, .null, []), (5, 27, 0, 0, .null, []), (32, 0, 163, 0, .null, []), (1, 16, 0, 0, .null, []), (28, 0, 192, 0, .null, []), (2, 3, 0, 0, .null, []), (2, 21, 0, 0, .null, []), (2, 25, 0, 0, .null, []), (21, 0, 0, 0, .null, []), (25, 0, 0, 0, .null, []), (28, 1, 192, 0, .null, []), (2, 5, 0, 0, .null, []), (2, 23, 0, 0, .null, []), (2, 25, 0, 0, .null, []), (21, 0, 0, 0, .null, []), (25, 0, 0, 0, .null, []), (28, 1, 192, 0, .null, []), (0, 0, 0, 0, .int 1, []), (32, 0, 193, 0, .null, []), (0, 0, 0, 0, .int 0, []), (4, 16, 0, 0, .null, []), (1, 16, 0, 0, .null, []), (28, 0, 220, 0, .null, []), (1, 2, 0, 0, .null, []), (0, 0, 0, 0, .int 1, []), (29, 4, 218, 0, .null, []), (1, 1, 0, 0, .null, []), (0, 0, 0, 0, .int 2, []), (29, 1, 218, 0, .null, []), (2, 3, 0, 0, .null, []), (3, 0, 0, 0, .null, []), (0, 0, 0, 0, .int 0, []), (0, 0, 0, 0, .int 1, []), (0, 0, 0, 0, .int 0, []), (49, 49, 3, 6, .null, [(0, 424), (0, 425), (0, 426), (0, 13)]), (25, 0, 0, 0, .null, []), (28, 1, 220, 0, .null, []), (2, 5, 0, 0, .null, []), (3, 0, 0, 0, .null, []), (0, 0, 0, 0, .int 0, []), (0, 0, 0, 0, .int 1, []), (0, 0, 0, 0, .int 1, []), (49, 49, 3, 6, .null, [(0, 424), (0, 425), (0, 426), (0, 13)]), (25, 0, 0, 0, .null, []), (28, 1, 220, 0, .null, []), (0, 0, 0, 0, .int 1, []), (32, 0, 221, 0, .null, []), (0, 0, 0, 0, .int 0, []), (51, 0, 0, 0, .null, [])]
def qr_77 : List qRow := [(0, .aload_n 0, 1), (1, .iload_n 1, 1), (2, .iload_n 2, 1), (3, .iconst 0, 1), (4, .invokevirtual 75, 3), (7, .lstore_n 3, 1), (8, .aload_n 0, 1), (9, .iload_n 1, 1), (10, .iload_n 2, 1), (11, .iconst 1, 1), (12, .invokevirtual 75, 3), (15, .lstore 5, 2), (17, .iload_n 1, 1), (18, .ifCond .ne 7, 3), (21, .iconst 2, 1), (22, .goto 13, 3), (25, .iload_n 1, 1), (26, .iconst 1, 1), (27, .if_icmp .ne 7, 3), (30, .iconst 3, 1), (31, .goto 4, 3), (34, .iconst 4, 1), (35, .istore 7, 2), (37, .aload_n 0, 1), (38, .iload 7, 2), (40, .iload_n 2, 1), (41, .invokevirtual 72, 3), (44, .ifCond .ne 51, 3), (47, .lload_n 3, 1), (48, .ldc2_w 79, 3), (51, .lcmp, 1), (52, .ifCond .ne 41, 3), (55, .lload 5, 2), (57, .ldc2_w 79, 3), (60, .lcmp, 1), (61, .ifCond .ne 32, 3), (64, .aload_n 0, 1), (65, .iload_n 1, 1), (66, .iload_n 2, 1), (67, .invokevirtual 81, 3), (70, .ldc2_w 79, 3), (73, .lcmp, 1), (74, .ifCond .ne 19, 3), (77, .aload_n 0, 1), (78, .iload_n 1, 1), (79, .iload_n 2, 1), (80, .iload_n 2, 1), (81, .invokevirtual 85, 3), (84, .ldc 29, 2), (86, .if_icmp .ne 7, 3), (89, .iconst 1, 1), (90, .goto 4, 3), (93, .iconst 0, 1), (94, .ireturn, 1), (95, .lload_n 3, 1), (96, .lstore 8, 2), (98, .lload 5, 2), (100, .lstore 10, 2), (102, .lload 10, 2), (104, .lconst 0, 1), (105, .lcmp, 1), (106, .ifCond .eq 21, 3), (109, .lload 8, 2), (111, .lload 10, 2), (113, .lrem, 1), (114, .lstore 12, 2), (116, .lload 10, 2), (118, .lstore 8, 2), (120, .lload 12, 2), (122, .lstore 10, 2), (124, .goto (-22), 3), (127, .aload_n 0, 1), (128, .iload_n 1, 1), (129, .iload_n 2, 1), (130, .invokevirtual 81, 3), (133, .lstore 12, 2), (135, .lload_n 3, 1), (136, .lload 5, 2), (138, .ldiv, 1), (139, .ldc2_w 88, 3), (142, .lmul, 1), (143, .lload_n 3, 1), (144, .lload 5, 2), (146, .lrem, 1), (147, .ldc2_w 88, 3), (150, .lmul, 1), (151, .lload 5, 2), (153, .ldiv, 1), (154, .ladd, 1), (155, .lstore 14, 2), (157, .lload_n 3, 1), (158, .lconst 0, 1), (159, .lcmp, 1), (160, .ifCond .lt 64, 3), (163, .lload 5, 2), (165, .lconst 0, 1), (166, .lcmp, 1), (167, .ifCond .le 57, 3), (170, .lload 8, 2), (172, .lconst 1, 1), (173, .lcmp, 1), (174, .ifCond .ne 50, 3), (177, .lload 12, 2), (179, .lconst 0, 1), (180, .lcmp, 1), (181, .ifCond .lt 43, 3), (184, .lload 12, 2), (186, .lload 12, 2), (188, .lmul, 1), (189, .lload 14, 2), (191, .lcmp, 1), (192, .ifCond .gt 32, 3), (195, .lload 12, 2), (197, .lconst 1, 1), (198, .ladd, 1), (199, .lload 12, 2), (201, .lconst 1, 1), (202, .ladd, 1), (203, .lmul, 1), (204, .lload 14, 2), (206, .lcmp, 1), (207, .ifCond .le 17, 3), (210, .aload_n 0, 1), (211, .iload_n 1, 1), (212, .iload_n 2, 1), (213, .iload_n 2, 1), (214, .invokevirtual 85, 3), (217, .ifCond .ne 7, 3), (220, .iconst 1, 1), (221, .goto 4, 3), (224, .iconst 0, 1), (225, .istore 16, 2), (227, .iload_n 1, 1), (228, .iconst 3, 1), (229, .if_icmp .ne 105, 3), (232, .aload_n 0, 1), (233, .iconst 2, 1), (234, .iload_n 2, 1), (235, .iconst 0, 1), (236, .invokevirtual 75, 3), (239, .lstore 17, 2), (241, .aload_n 0, 1), (242, .iconst 2, 1), (243, .iload_n 2, 1), (244, .iconst 1, 1), (245, .invokevirtual 75, 3), (248, .lstore 19, 2), (250, .lload 17, 2), (252, .iload_n 2, 1), (253, .i2l, 1), (254, .lmul, 1), (255, .iload_n 2, 1), (256, .i2l, 1), (257, .lmul, 1), (258, .lstore 21, 2), (260, .ldc2_w 90, 3), (263, .lload 19, 2), (265, .lmul, 1), (266, .lstore 23, 2), (268, .lload 21, 2), (270, .lstore 25, 2), (272, .lload 23, 2), (274, .lstore 27, 2), (276, .lload 27, 2), (278, .lconst 0, 1), (279, .lcmp, 1), (280, .ifCond .eq 21, 3), (283, .lload 25, 2), (285, .lload 27, 2), (287, .lrem, 1), (288, .lstore 29, 2), (290, .lload 27, 2), (292, .lstore 25, 2), (294, .lload 29, 2), (296, .lstore 27, 2), (298, .goto (-22), 3), (301, .iload 16, 2), (303, .ifCond .eq 28, 3), (306, .lload_n 3, 1), (307, .lload 21, 2), (309, .lload 25, 2), (311, .ldiv, 1), (312, .lcmp, 1), (313, .ifCond .ne 18, 3), (316, .lload 5, 2), (318, .lload 23, 2), (320, .lload 25, 2), (322, .ldiv, 1), (323, .lcmp, 1), (324, .ifCond .ne 7, 3), (327, .iconst 1, 1), (328, .goto 4, 3), (331, .iconst 0, 1), (332, .istore 16, 2), (334, .iload 16, 2), (336, .ifCond .eq 42, 3), (339, .iload_n 2, 1), (340, .iconst 1, 1), (341, .if_icmp .gt 33, 3), (344, .iload_n 1, 1), (345, .iconst 2, 1), (346, .if_icmp .ne 28, 3), (349, .lload_n 3, 1), (350, .aload_n 0, 1), (351, .iconst 0, 1), (352, .iconst 1, 1), (353, .iconst 0, 1), (354, .invokevirtual 75, 3), (357, .lcmp, 1), (358, .ifCond .ne 20, 3), (361, .lload 5, 2), (363, .aload_n 0, 1), (364, .iconst 0, 1), (365, .iconst 1, 1), (366, .iconst 1, 1), (367, .invokevirtual 75, 3), (370, .lcmp, 1), (371, .ifCond .ne 7, 3), (374, .iconst 1, 1), (375, .goto 4, 3), (378, .iconst 0, 1), (379, .ireturn, 1)]
def qo_78 : List qOp := [(3, 0, 0, 0, .null, []), (1, 1, 0, 0, .null, []), (49, 52, 1, 6, .null, [(0, 485), (0, 486), (0, 487), (0, 13)]), (4, 2, 0, 0, .null, []), (0, 0, 0, 0, .int 1, []), (4, 3, 0, 0, .null, []), (1, 3, 0, 0, .null, []), (0, 0, 0, 0, .int 32, []), (29, 3, 72, 0, .null, []), (3, 0, 0, 0, .null, []), (1, 1, 0, 0, .null, []), (1, 3, 0, 0, .null, []), (0, 0, 0, 0, .int 1, []), (49, 49, 3, 6, .null, [(0, 424), (0, 425), (0, 426), (0, 13)]), (0, 0, 0, 0, .long 0, []), (25, 0, 0, 0, .null, []), (28, 5, 19, 0, .null, []), (0, 0, 0, 0, .int 1, []), (32, 0, 20, 0, .null, []), (0, 0, 0, 0, .int 0, []), (4, 4, 0, 0, .null, []), (1, 2, 0, 0, .null, []), (0, 300, 0, 0, .int (-1000000001), []), (29, 1, 26, 0, .null, []), (1, 4, 0, 0, .null, []), (28, 1, 47, 0, .null, []), (1, 2, 0, 0, .null, []), (0, 300, 0, 0, .int (-1000000001), []), (29, 0, 49, 0, .null, []), (1, 4, 0, 0, .null, []), (28, 0, 49, 0, .null, []), (3, 0, 0, 0, .null, []), (1, 1, 0, 0, .null, []), (1, 2, 0, 0, .null, []), (1, 3, 0, 0, .null, []), (49, 51, 3, 6, .null, [(0, 469), (0, 470), (0, 471), (0, 13)]), (0, 0, 0, 0, .int 2, []), (29, 0, 47, 0, .null, []), (3, 0, 0, 0, .null, []), (1, 1, 0, 0, .null, []), (1, 2, 0, 0, .null, []), (1, 3, 0, 0, .null, []), (49, 51, 3, 6, .null, [(0, 469), (0, 470), (0, 471), (0, 13)]), (28, 1, 49, 0, .null, []), (1, 3, 0, 0, .null, []), (1, 2, 0, 0, .null, []), (29, 3, 49, 0, .null, []), (0, 0, 0, 0, .int 0, []), (51, 0, 0, 0, .null, []), (1, 2, 0, 0, .null, []), (0, 300, 0, 0, .int (-1000000001), []), (29, 0, 70, 0, .null, []), (1, 4, 0, 0, .null, []), (28, 0, 70, 0, .null, []), (3, 0, 0, 0, .null, []), (1, 1, 0, 0, .null, []), (1, 2, 0, 0, .null, []), (1, 3, 0, 0, .null, []), (49, 51, 3, 6, .null, [(0, 469), (0, 470), (0, 471), (0, 13)]), (3, 0, 0, 0, .null, []), (1, 1, 0, 0, .null, []), (1, 3, 0, 0, .null, []), (1, 2, 0, 0, .null, []), (49, 51, 3, 6, .null, [(0, 469), (0, 470), (0, 471), (0, 13)]), (8, 0, 0, 0, .null, []), (0, 0, 0, 0, .int 3, []), (16, 0, 0, 0, .null, []), (28, 0, 70, 0, .null, []), (0, 0, 0, 0, .int 0, []), (51, 0, 0, 0, .null, []), (7, 3, 0, 0, .int 1, []), (32, 0, 6, 0, .null, []), (0, 0, 0, 0, .int 1, []), (51, 0, 0, 0, .null, [])]
def qr_78 : List qRow := [(0, .aload_n 0, 1), (1, .iload_n 1, 1), (2, .invokevirtual 92, 3), (5, .istore_n 2, 1), (6, .iconst 1, 1), (7, .istore_n 3, 1), (8, .iload_n 3, 1), (9, .bipush 32, 2), (11, .if_icmp .ge 111, 3), (14, .aload_n 0, 1), (15, .iload_n 1, 1), (16, .iload_n 3, 1), (17, .iconst 1, 1), (18, .invokevirtual 75, 3), (21, .lconst 0, 1), (22, .lcmp, 1), (23, .ifCond .le 7, 3), (26, .iconst 1, 1), (27, .goto 4, 3), (30, .iconst 0, 1), (31, .istore 4, 2), (33, .iload_n 2, 1), (34, .ldc 29, 2), (36, .if_icmp .ne 8, 3), (39, .iload 4, 2), (41, .ifCond .ne 40, 3), (44, .iload_n 2, 1), (45, .ldc 29, 2), (47, .if_icmp .eq 36, 3), (50, .iload 4, 2), (52, .ifCond .eq 31, 3), (55, .aload_n 0, 1), (56, .iload_n 1, 1), (57, .iload_n 2, 1), (58, .iload_n 3, 1), (59, .invokevirtual 85, 3), (62, .iconst 2, 1), (63, .if_icmp .eq 18, 3), (66, .aload_n 0, 1), (67, .iload_n 1, 1), (68, .iload_n 2, 1), (69, .iload_n 3, 1), (70, .invokevirtual 85, 3), (73, .ifCond .ne 10, 3), (76, .iload_n 3, 1), (77, .iload_n 2, 1), (78, .if_icmp .ge 5, 3), (81, .iconst 0, 1), (82, .ireturn, 1), (83, .iload_n 2, 1), (84, .ldc 29, 2), (86, .if_icmp .eq 30, 3), (89, .iload 4, 2), (91, .ifCond .eq 25, 3), (94, .aload_n 0, 1), (95, .iload_n 1, 1), (96, .iload_n 2, 1), (97, .iload_n 3, 1), (98, .invokevirtual 85, 3), (101, .aload_n 0, 1), (102, .iload_n 1, 1), (103, .iload_n 3, 1), (104, .iload_n 2, 1), (105, .invokevirtual 85, 3), (108, .iadd, 1), (109, .iconst 3, 1), (110, .irem, 1), (111, .ifCond .eq 5, 3), (114, .iconst 0, 1), (115, .ireturn, 1), (116, .iinc 3 1, 3), (119, .goto (-111), 3), (122, .iconst 1, 1), (123, .ireturn, 1)]
def qo_79 : List qOp := [(3, 0, 0, 0, .null, []), (0, 0, 0, 0, .int 2, []), (1, 3, 0, 0, .null, []), (0, 0, 0, 0, .int 0, []), (49, 47, 3, 6, .null, [(0, 403), (0, 404), (0, 405), (0, 13)]), (4, 4, 0, 0, .null, []), (3, 0, 0, 0, .null, []), (0, 0, 0, 0, .int 2, []), (1, 3, 0, 0, .null, []), (49, 48, 2, 6, .null, [(0, 417), (0, 418), (0, 419), (0, 13)]), (4, 5, 0, 0, .null, []), (3, 0, 0, 0, .null, []), (0, 0, 0, 0, .int 0, []), (1, 3, 0, 0, .null, []), (0, 0, 0, 0, .int 0, []), (49, 49, 3, 6, .null, [(0, 424), (0, 425), (0, 426), (0, 13)]), (5, 6, 0, 0, .null, []), (3, 0, 0, 0, .null, []), (0, 0, 0, 0, .int 0, []), (49, 45, 1, 6, .null, [(0, 172), (0, 173), (0, 174), (0, 13)]), (4, 8, 0, 0, .null, []), (1, 8, 0, 0, .null, []), (28, 5, 27, 0, .null, []), (3, 0, 0, 0, .null, []), (0, 0, 0, 0, .int 0, []), (49, 46, 1, 6, .null, [(0, 413), (0, 414), (0, 415), (0, 13)]), (32, 0, 28, 0, .null, []), (0, 0, 0, 0, .int 0, []), (4, 9, 0, 0, .null, []), (3, 0, 0, 0, .null, []), (1, 1, 0, 0, .null, []), (1, 2, 0, 0, .null, []), (49, 39, 2, 6, .null, [(0, 346), (0, 347), (0, 348), (0, 13)]), (4, 10, 0, 0, .null, []), (1, 10, 0, 0, .null, []), (28, 3, 43, 0, .null, []), (1, 10, 0, 0, .null, []), (0, 496, 0, 0, .int (-1000000005), []), (29, 1, 41, 0, .null, []), (0, 0, 0, 0, .int 1, []), (32, 0, 42, 0, .null, []), (0, 0, 0, 0, .int 0, []), (51, 0, 0, 0, .null, []), (3, 0, 0, 0, .null, []), (0, 0, 0, 0, .int 2, []), (1, 3, 0, 0, .null, []), (0, 0, 0, 0, .int 0, []), (49, 47, 3, 6, .null, [(0, 403), (0, 404), (0, 405), (0, 13)]), (1, 4, 0, 0, .null, []), (29, 1, 71, 0, .null, []), (3, 0, 0, 0, .null, []), (0, 0, 0, 0, .int 2, []), (1, 3, 0, 0, .null, []), (49, 48, 2, 6, .null, [(0, 417), (0, 418), (0, 419), (0, 13)]), (1, 5, 0, 0, .null, []), (29, 1, 71, 0, .null, []), (3, 0, 0, 0, .null, []), (0, 0, 0, 0, .int 0, []), (1, 3, 0, 0, .null, []), (0, 0, 0, 0, .int 0, []), (49, 49, 3, 6, .null, [(0, 424), (0, 425), (0, 426), (0, 13)]), (2, 6, 0, 0, .null, []), (25, 0, 0, 0, .null, []), (28, 1, 71, 0, .null, []), (1, 10, 0, 0, .null, []), (3, 0, 0, 0, .null, []), (0, 0, 0, 0, .int 1, []), (49, 45, 1, 6, .null, [(0, 172), (0, 173), (0, 174), (0, 13)]), (29, 4, 71, 0, .null, []), (0, 0, 0, 0, .int 1, []), (32, 0, 72, 0, .null, []), (0, 0, 0, 0, .int 0, []), (4, 11, 0, 0, .null, []), (1, 11, 0, 0, .null, []), (28, 0, 87, 0, .null, []), (3, 0, 0, 0, .null, []), (49, 44, 0, 6, .null, [(0, 316), (0, 317), (0, 318), (0, 13)]), (28, 2, 87, 0, .null, []), (1, 8, 0, 0, .null, []), (28, 0, 85, 0, .null, []), (3, 0, 0, 0, .null, []), (0, 0, 0, 0, .int 0, []), (49, 46, 1, 6, .null, [(0, 413), (0, 414), (0, 415), (0, 13)]), (1, 9, 0, 0, .null, []), (29, 1, 87, 0, .null, []), (0, 0, 0, 0, .int 1, []), (32, 0, 88, 0, .null, []), (0, 0, 0, 0, .int 0, []), (51, 0, 0, 0, .null, [])]
def qr_79 : List qRow := [(0, .aload_n 0, 1), (1, .iconst 2, 1), (2, .iload_n 3, 1), (3, .iconst 0, 1), (4, .invokevirtual 65, 3), (7, .istore 4, 2), (9, .aload_n 0, 1), (10, .iconst 2, 1), (11, .iload_n 3, 1), (12, .invokevirtual 72, 3), (15, .istore 5, 2), (17, .aload_n 0, 1), (18, .iconst 0, 1), (19, .iload_n 3, 1), (20, .iconst 0, 1), (21, .invokevirtual 75, 3), (24, .lstore 6, 2), (26, .aload_n 0, 1), (27, .iconst 0, 1), (28, .invokevirtual 9, 3), (31, .istore 8, 2), (33, .iload 8, 2), (35, .ifCond .le 11, 3), (38, .aload_n 0, 1), (39, .iconst 0, 1), (40, .invokevirtual 69, 3), (43, .goto 4, 3), (46, .iconst 0, 1), (47, .istore 9, 2), (49, .aload_n 0, 1), (50, .iload_n 1, 1), (51, .iload_n 2, 1), (52, .invokevirtual 43, 3), (55, .istore 10, 2), (57, .iload 10, 2), (59, .ifCond .ge 16, 3), (62, .iload 10, 2), (64, .ldc 95, 2), (66, .if_icmp .ne 7, 3), (69, .iconst 1, 1), (70, .goto 4, 3), (73, .iconst 0, 1), (74, .ireturn, 1), (75, .aload_n 0, 1), (76, .iconst 2, 1), (77, .iload_n 3, 1), (78, .iconst 0, 1), (79, .invokevirtual 65, 3), (82, .iload 4, 2), (84, .if_icmp .ne 41, 3), (87, .aload_n 0, 1), (88, .iconst 2, 1), (89, .iload_n 3, 1), (90, .invokevirtual 72, 3), (93, .iload 5, 2), (95, .if_icmp .ne 30, 3), (98, .aload_n 0, 1), (99, .iconst 0, 1), (100, .iload_n 3, 1), (101, .iconst 0, 1), (102, .invokevirtual 75, 3), (105, .lload 6, 2), (107, .lcmp, 1), (108, .ifCond .ne 17, 3), (111, .iload 10, 2), (113, .aload_n 0, 1), (114, .iconst 1, 1), (115, .invokevirtual 9, 3), (118, .if_icmp .gt 7, 3), (121, .iconst 1, 1), (122, .goto 4, 3), (125, .iconst 0, 1), (126, .istore 11, 2), (128, .iload 11, 2), (130, .ifCond .eq 29, 3), (133, .aload_n 0, 1), (134, .invokevirtual 37, 3), (137, .ifCond .lt 22, 3), (140, .iload 8, 2), (142, .ifCond .eq 13, 3), (145, .aload_n 0, 1), (146, .iconst 0, 1), (147, .invokevirtual 69, 3), (150, .iload 9, 2), (152, .if_icmp .ne 7, 3), (155, .iconst 1, 1), (156, .goto 4, 3), (159, .iconst 0, 1), (160, .ireturn, 1)]
def qo_80 : List qOp := [(0, 0, 0, 0, .int 1, []), (4, 2, 0, 0, .null, []), (0, 0, 0, 0, .int 0, []), (4, 3, 0, 0, .null, []), (1, 3, 0, 0, .null, []), (0, 0, 0, 0, .int 9, []), (29, 3, 25, 0, .null, []), (1, 2, 0, 0, .null, []), (28, 0, 21, 0, .null, []), (1, 3, 0, 0, .null, []), (0, 0, 0, 0, .int 8, []), (29, 0, 19, 0, .null, []), (3, 0, 0, 0, .null, []), (1, 3, 0, 0, .null, []), (49, 45, 1, 6, .null, [(0, 172), (0, 173), (0, 174), (0, 13)]), (3, 1, 0, 0, .null, []), (1, 3, 0, 0, .null, []), (49, 45, 1, 6, .null, [(0, 172), (0, 173), (0, 174), (0, 13)]), (29, 1, 21, 0, .null, []), (0, 0, 0, 0, .int 1, []), (32, 0, 22, 0, .null, []), (0, 0, 0, 0, .int 0, []), (4, 2, 0, 0, .null, []), (7, 3, 0, 0, .int 1, []), (32, 0, 4, 0, .null, []), (0, 0, 0, 0, .int 0, []), (4, 3, 0, 0, .null, []), (1, 3, 0, 0, .null, []), (3, 0, 0, 0, .null, []), (0, 0, 0, 0, .int 0, []), (49, 45, 1, 6, .null, [(0, 172), (0, 173), (0, 174), (0, 13)]), (29, 3, 47, 0, .null, []), (1, 2, 0, 0, .null, []), (28, 0, 43, 0, .null, []), (3, 0, 0, 0, .null, []), (1, 3, 0, 0, .null, []), (49, 46, 1, 6, .null, [(0, 413), (0, 414), (0, 415), (0, 13)]), (3, 1, 0, 0, .null, []), (1, 3, 0, 0, .null, []), (49, 46, 1, 6, .null, [(0, 413), (0, 414), (0, 415), (0, 13)]), (29, 1, 43, 0, .null, []), (0, 0, 0, 0, .int 1, []), (32, 0, 44, 0, .null, []), (0, 0, 0, 0, .int 0, []), (4, 2, 0, 0, .null, []), (7, 3, 0, 0, .int 1, []), (32, 0, 27, 0, .null, []), (1, 2, 0, 0, .null, []), (51, 0, 0, 0, .null, [])]
def qr_80 : List qRow := [(0, .iconst 1, 1), (1, .istore_n 2, 1), (2, .iconst 0, 1), (3, .istore_n 3, 1), (4, .iload_n 3, 1), (5, .bipush 9, 2), (7, .if_icmp .ge 38, 3), (10, .iload_n 2, 1), (11, .ifCond .eq 26, 3), (14, .iload_n 3, 1), (15, .bipush 8, 2), (17, .if_icmp .eq 16, 3), (20, .aload_n 0, 1), (21, .iload_n 3, 1), (22, .invokevirtual 9, 3), (25, .aload_n 1, 1), (26, .iload_n 3, 1), (27, .invokevirtual 9, 3), (30, .if_icmp .ne 7, 3), (33, .iconst 1, 1), (34, .goto 4, 3), (37, .iconst 0, 1), (38, .istore_n 2, 1), (39, .iinc 3 1, 3), (42, .goto (-38), 3), (45, .iconst 0, 1), (46, .istore_n 3, 1), (47, .iload_n 3, 1), (48, .aload_n 0, 1), (49, .iconst 0, 1), (50, .invokevirtual 9, 3), (53, .if_icmp .ge 32, 3), (56, .iload_n 2, 1), (57, .ifCond .eq 20, 3), (60, .aload_n 0, 1), (61, .iload_n 3, 1), (62, .invokevirtual 69, 3), (65, .aload_n 1, 1), (66, .iload_n 3, 1), (67, .invokevirtual 69, 3), (70, .if_icmp .ne 7, 3), (73, .iconst 1, 1), (74, .goto 4, 3), (77, .iconst 0, 1), (78, .istore_n 2, 1), (79, .iinc 3 1, 3), (82, .goto (-35), 3), (85, .iload_n 2, 1), (86, .ireturn, 1)]
def qo_81 : List qOp := [(99, 0, 0, 0, .null, []), (55, 0, 0, 0, .null, []), (99, 0, 0, 0, .null, []), (6, 1, 0, 0, .null, []), (99, 0, 0, 0, .null, []), (55, 0, 0, 0, .null, []), (99, 0, 0, 0, .null, []), (6, 2, 0, 0, .null, []), (0, 0, 0, 0, .int 0, []), (4, 3, 0, 0, .null, []), (1, 3, 0, 0, .null, []), (0, 0, 0, 0, .int 40, []), (29, 3, 81, 0, .null, []), (3, 0, 0, 0, .null, []), (0, 0, 0, 0, .int 2, []), (1, 3, 0, 0, .null, []), (10, 0, 0, 0, .null, []), (48, 73, 2, 0, .null, [(0, 161), (0, 162), (0, 12)]), (4, 4, 0, 0, .null, []), (3, 0, 0, 0, .null, []), (0, 0, 0, 0, .int 2, []), (1, 3, 0, 0, .null, []), (10, 0, 0, 0, .null, []), (0, 0, 0, 0, .int 1, []), (8, 0, 0, 0, .null, []), (48, 73, 2, 0, .null, [(0, 161), (0, 162), (0, 12)]), (4, 5, 0, 0, .null, []), (3, 1, 0, 0, .null, []), (1, 4, 0, 0, .null, []), (1, 5, 0, 0, .null, []), (48, 75, 3, 0, .null, [(0, 169), (0, 170), (0, 12)]), (3, 2, 0, 0, .null, []), (1, 4, 0, 0, .null, []), (1, 5, 0, 0, .null, []), (48, 75, 3, 0, .null, [(0, 169), (0, 170), (0, 12)]), (29, 0, 38, 0, .null, []), (0, 0, 0, 0, .int 0, []), (51, 0, 0, 0, .null, []), (0, 0, 0, 0, .int 1, []), (1, 5, 0, 0, .null, []), (0, 0, 0, 0, .int 4, []), (14, 0, 0, 0, .null, []), (1, 5, 0, 0, .null, []), (0, 0, 0, 0, .int 9, []), (14, 0, 0, 0, .null, []), (0, 0, 0, 0, .int 3, []), (48, 74, 2, 0, .null, [(0, 165), (0, 166), (0, 12)]), (28, 1, 50, 0, .null, []), (0, 0, 0, 0, .int 31, []), (32, 0, 51, 0, .null, []), (0, 0, 0, 0, .int 5, []), (48, 74, 2, 0, .null, [(0, 165), (0, 166), (0, 12)]), (8, 0, 0, 0, .null, []), (4, 6, 0, 0, .null, []), (1, 3, 0, 0, .null, []), (0, 0, 0, 0, .int 4, []), (16, 0, 0, 0, .null, []), (0, 0, 0, 0, .int 3, []), (29, 1, 79, 0, .null, []), (3, 1, 0, 0, .null, []), (1, 6, 0, 0, .null, []), (48, 76, 2, 0, .null, [(0, 400), (0, 401), (0, 12)]), (28, 0, 77, 0, .null, []), (3, 1, 0, 0, .null, []), (1, 4, 0, 0, .null, []), (0, 0, 0, 0, .int 7, []), (14, 0, 0, 0, .null, []), (0, 0, 0, 0, .int 4, []), (48, 74, 2, 0, .null, [(0, 165), (0, 166), (0, 12)]), (1, 6, 0, 0, .null, []), (48, 77, 3, 0, .null, [(0, 421), (0, 422), (0, 12)]), (28, 0, 77, 0, .null, []), (3, 1, 0, 0, .null, []), (0, 0, 0, 0, .int 2, []), (0, 0, 0, 0, .int 1, []), (48, 77, 3, 0, .null, [(0, 421), (0, 422), (0, 12)]), (28, 1, 79, 0, .null, []), (0, 0, 0, 0, .int 0, []), (51, 0, 0, 0, .null, []), (7, 3, 0, 0, .int 1, []), (32, 0, 10, 0, .null, []), (3, 1, 0, 0, .null, []), (3, 0, 0, 0, .null, []), (0, 0, 0, 0, .int 80, []), (48, 73, 2, 0, .null, [(0, 161), (0, 162), (0, 12)]), (0, 0, 0, 0, .int 4, []), (48, 74, 2, 0, .null, [(0, 165), (0, 166), (0, 12)]), (48, 78, 2, 0, .null, [(0, 482), (0, 483), (0, 12)]), (28, 0, 119, 0, .null, []), (3, 1, 0, 0, .null, []), (3, 2, 0, 0, .null, []), (48, 80, 2, 0, .null, [(0, 497), (0, 498), (0, 12)]), (28, 0, 119, 0, .null, []), (3, 1, 0, 0, .null, []), (3, 0, 0, 0, .null, []), (0, 0, 0, 0, .int 81, []), (48, 73, 2, 0, .null, [(0, 161), (0, 162), (0, 12)]), (0, 0, 0, 0, .int 41, []), (48, 74, 2, 0, .null, [(0, 165), (0, 166), (0, 12)]), (0, 0, 0, 0, .int 20, []), (9, 0, 0, 0, .null, []), (3, 0, 0, 0, .null, []), (0, 0, 0, 0, .int 82, []), (48, 73, 2, 0, .null, [(0, 161), (0, 162), (0, 12)]), (0, 0, 0, 0, .int 201, []), (48, 74, 2, 0, .null, [(0, 165), (0, 166), (0, 12)]), (0, 0, 0, 0, .int 100, []), (9, 0, 0, 0, .null, []), (0, 0, 0, 0, .int 1, []), (3, 0, 0, 0, .null, []), (0, 0, 0, 0, .int 83, []), (48, 73, 2, 0, .null, [(0, 161), (0, 162), (0, 12)]), (0, 0, 0, 0, .int 4, []), (48, 74, 2, 0, .null, [(0, 165), (0, 166), (0, 12)]), (8, 0, 0, 0, .null, []), (48, 79, 4, 0, .null, [(0, 493), (0, 494), (0, 12)]), (28, 0, 119, 0, .null, []), (0, 0, 0, 0, .int 1, []), (32, 0, 120, 0, .null, []), (0, 0, 0, 0, .int 0, []), (51, 0, 0, 0, .null, [])]
def qr_81 : List qRow := [(0, .new 10, 3), (3, .dup, 1), (4, .invokespecial 96, 3), (7, .astore_n 1, 1), (8, .new 10, 3), (11, .dup, 1), (12, .invokespecial 96, 3), (15, .astore_n 2, 1), (16, .iconst 0, 1), (17, .istore_n 3, 1), (18, .iload_n 3, 1), (19, .bipush 40, 2), (21, .if_icmp .ge 124, 3), (24, .aload_n 0, 1), (25, .iconst 2, 1), (26, .iload_n 3, 1), (27, .imul, 1), (28, .invokestatic 97, 3), (31, .istore 4, 2), (33, .aload_n 0, 1), (34, .iconst 2, 1), (35, .iload_n 3, 1), (36, .imul, 1), (37, .iconst 1, 1), (38, .iadd, 1), (39, .invokestatic 97, 3), (42, .istore 5, 2), (44, .aload_n 1, 1), (45, .iload 4, 2), (47, .iload 5, 2), (49, .invokestatic 101, 3), (52, .aload_n 2, 1), (53, .iload 4, 2), (55, .iload 5, 2), (57, .invokestatic 101, 3), (60, .if_icmp .eq 5, 3), (63, .iconst 0, 1), (64, .ireturn, 1), (65, .iconst 1, 1), (66, .iload 5, 2), (68, .iconst 4, 1), (69, .ishr, 1), (70, .iload 5, 2), (72, .bipush 9, 2), (74, .ishr, 1), (75, .iconst 3, 1), (76, .invokestatic 15, 3), (79, .ifCond .ne 8, 3), (82, .bipush 31, 2), (84, .goto 4, 3), (87, .iconst 5, 1), (88, .invokestatic 15, 3), (91, .iadd, 1), (92, .istore 6, 2), (94, .iload_n 3, 1), (95, .iconst 4, 1), (96, .irem, 1), (97, .iconst 3, 1), (98, .if_icmp .ne 41, 3), (101, .aload_n 1, 1), (102, .iload 6, 2), (104, .invokestatic 105, 3), (107, .ifCond .eq 30, 3), (110, .aload_n 1, 1), (111, .iload 4, 2), (113, .bipush 7, 2), (115, .ishr, 1), (116, .iconst 4, 1), (117, .invokestatic 15, 3), (120, .iload 6, 2), (122, .invokestatic 109, 3), (125, .ifCond .eq 12, 3), (128, .aload_n 1, 1), (129, .iconst 2, 1), (130, .iconst 1, 1), (131, .invokestatic 109, 3), (134, .ifCond .ne 5, 3), (137, .iconst 0, 1), (138, .ireturn, 1), (139, .iinc 3 1, 3), (142, .goto (-124), 3), (145, .aload_n 1, 1), (146, .aload_n 0, 1), (147, .bipush 80, 2), (149, .invokestatic 97, 3), (152, .iconst 4, 1), (153, .invokestatic 15, 3), (156, .invokestatic 113, 3), (159, .ifCond .eq 63, 3), (162, .aload_n 1, 1), (163, .aload_n 2, 1), (164, .invokestatic 116, 3), (167, .ifCond .eq 55, 3), (170, .aload_n 1, 1), (171, .aload_n 0, 1), (172, .bipush 81, 2), (174, .invokestatic 97, 3), (177, .bipush 41, 2), (179, .invokestatic 15, 3), (182, .bipush 20, 2), (184, .isub, 1), (185, .aload_n 0, 1), (186, .bipush 82, 2), (188, .invokestatic 97, 3), (191, .sipush 201, 3), (194, .invokestatic 15, 3), (197, .bipush 100, 2), (199, .isub, 1), (200, .iconst 1, 1), (201, .aload_n 0, 1), (202, .bipush 83, 2), (204, .invokestatic 97, 3), (207, .iconst 4, 1), (208, .invokestatic 15, 3), (211, .iadd, 1), (212, .invokestatic 120, 3), (215, .ifCond .eq 7, 3), (218, .iconst 1, 1), (219, .goto 4, 3), (222, .iconst 0, 1), (223, .ireturn, 1)]
def qOps : List (List qOp) := [qo_0, qo_1, qo_2, qo_3, qo_4, qo_5, qo_6, qo_7, qo_8, qo_9, qo_10, qo_11, qo_12, qo_13, qo_14, qo_15, qo_16, qo_17, qo_18, qo_19, qo_20, qo_21, qo_22, qo_23, qo_24, qo_25, qo_26, qo_27, qo_28, qo_29, qo_30, qo_31, qo_32, qo_33, qo_34, qo_35, qo_36, qo_37, qo_38, qo_39, qo_40, qo_41, qo_42, qo_43, qo_44, qo_45, qo_46, qo_47, qo_48, qo_49, qo_50, qo_51, qo_52, qo_53, qo_54, qo_55, qo_56, qo_57, qo_58, qo_59, qo_60, qo_61, qo_62, qo_63, qo_64, qo_65, qo_66, qo_67, qo_68, qo_69, qo_70, qo_71, qo_72, qo_73, qo_74, qo_75, qo_76, qo_77, qo_78, qo_79, qo_80, qo_81]
def qRows : List (List qRow) := [qr_0, qr_1, qr_2, qr_3, qr_4, qr_5, qr_6, qr_7, qr_8, qr_9, qr_10, qr_11, qr_12, qr_13, qr_14, qr_15, qr_16, qr_17, qr_18, qr_19, qr_20, qr_21, qr_22, qr_23, qr_24, qr_25, qr_26, qr_27, qr_28, qr_29, qr_30, qr_31, qr_32, qr_33, qr_34, qr_35, qr_36, qr_37, qr_38, qr_39, qr_40, qr_41, qr_42, qr_43, qr_44, qr_45, qr_46, qr_47, qr_48, qr_49, qr_50, qr_51, qr_52, qr_53, qr_54, qr_55, qr_56, qr_57, qr_58, qr_59, qr_60, qr_61, qr_62, qr_63, qr_64, qr_65, qr_66, qr_67, qr_68, qr_69, qr_70, qr_71, qr_72, qr_73, qr_74, qr_75, qr_76, qr_77, qr_78, qr_79, qr_80, qr_81]
def qNm : List MethodName := [yX0_exists, yX0_become, yX0_copyFrom, yX0_orderOfMultiples, yX0_timesRoundedDown, yX0_greatestDivisor, yX1_depth, yX1_record, yX1_restore, yX1_stateAt, yX4_size, yX4_reaches, yX4_has, yX4_at, yX4_put, yX4_append, yX4_appendTimes, yX4_empty, yX4_copyFrom, yX4_present, yX4_least, yX4_greatest, yX4_gaps, yX4_longestGap, yX4_startsGap, yX4_gapEnd, yX4_lineAt, yX4_isOutlier, yX4_countOf, yX4_differenceAt, yX4_secondAt, yX4_thirdAt, yX4_meanAt, yX5_size, yX6_add, yX6_skip, yX6_set, yX6_clear, yX6_removeLine, yX6_addLine, yX6_removeDrift, yX6_removeOutliers, yX6_fill, yX6_thin, yX6_undo, yX6_told, yX6_reading, yX6_difference, yX6_count, yX6_variance, yX6_deviation, yX6_compare, yX6_best, yX6_keep, yX6_back, yX6_isPhase, yX6_isLimit, yX6_isOrder, yX6_isM, yX6_isVariance, yX6_imageAt, yX6_subtractAmounts, yX6_allStayPhases, yX6_sumOfSecondDifferences, yX6_fillGap, yX6_greatestM, yX6_measure, yX6_orderFor, yX6_divisorFor, yX6_squareRoot, yJ13_compare_74951, yJ9_floorDiv_f86c9, yJ9_max_7cf53, yL_cell, yL_low, yL_change, yL_areDifferences, yL_isVariance, yL_areCompared, yL_isLine, yL_areAlike, yL_law]
def qBy : List ByteArray := [cX0_exists, cX0_become, cX0_copyFrom, cX0_orderOfMultiples, cX0_timesRoundedDown, cX0_greatestDivisor, cX1_depth, cX1_record, cX1_restore, cX1_stateAt, cX4_size, cX4_reaches, cX4_has, cX4_at, cX4_put, cX4_append, cX4_appendTimes, cX4_empty, cX4_copyFrom, cX4_present, cX4_least, cX4_greatest, cX4_gaps, cX4_longestGap, cX4_startsGap, cX4_gapEnd, cX4_lineAt, cX4_isOutlier, cX4_countOf, cX4_differenceAt, cX4_secondAt, cX4_thirdAt, cX4_meanAt, cX5_size, cX6_add, cX6_skip, cX6_set, cX6_clear, cX6_removeLine, cX6_addLine, cX6_removeDrift, cX6_removeOutliers, cX6_fill, cX6_thin, cX6_undo, cX6_told, cX6_reading, cX6_difference, cX6_count, cX6_variance, cX6_deviation, cX6_compare, cX6_best, cX6_keep, cX6_back, cX6_isPhase, cX6_isLimit, cX6_isOrder, cX6_isM, cX6_isVariance, cX6_imageAt, cX6_subtractAmounts, cX6_allStayPhases, cX6_sumOfSecondDifferences, cX6_fillGap, cX6_greatestM, cX6_measure, cX6_orderFor, cX6_divisorFor, cX6_squareRoot, cJ13_compare_74951, cJ9_floorDiv_f86c9, cJ9_max_7cf53, cL_cell, cL_low, cL_change, cL_areDifferences, cL_isVariance, cL_areCompared, cL_isLine, cL_areAlike, cL_law]
def qOw : List String := [RX0, RX0, RX0, RX0, RX0, RX0, RX1, RX1, RX1, RX1, RX4, RX4, RX4, RX4, RX4, RX4, RX4, RX4, RX4, RX4, RX4, RX4, RX4, RX4, RX4, RX4, RX4, RX4, RX4, RX4, RX4, RX4, RX4, RX5, RX6, RX6, RX6, RX6, RX6, RX6, RX6, RX6, RX6, RX6, RX6, RX6, RX6, RX6, RX6, RX6, RX6, RX6, RX6, RX6, RX6, RX6, RX6, RX6, RX6, RX6, RX6, RX6, RX6, RX6, RX6, RX6, RX6, RX6, RX6, RX6, RJ13, RJ9, RJ9, RL, RL, RL, RL, RL, RL, RL, RL, RL]
def qMl : List Nat := [1, 7, 2, 11, 3, 11, 1, 3, 3, 3, 1, 2, 2, 2, 3, 2, 4, 1, 3, 3, 3, 3, 3, 3, 2, 3, 6, 4, 5, 4, 6, 7, 6, 1, 2, 2, 4, 2, 4, 4, 4, 4, 5, 4, 1, 2, 2, 4, 3, 4, 3, 5, 4, 3, 3, 2, 1, 1, 1, 1, 2, 3, 2, 5, 4, 2, 12, 1, 3, 7, 4, 6, 2, 2, 2, 6, 16, 31, 5, 12, 4, 7]
def qRt : List (Option FieldType) := [(Option.some Jvm.ClassFile.FieldType.boolean), (Option.none : Option Jvm.ClassFile.FieldType), (Option.none : Option Jvm.ClassFile.FieldType), (Option.some Jvm.ClassFile.FieldType.int), (Option.some Jvm.ClassFile.FieldType.long), (Option.some Jvm.ClassFile.FieldType.long), (Option.some Jvm.ClassFile.FieldType.int), (Option.none : Option Jvm.ClassFile.FieldType), (Option.none : Option Jvm.ClassFile.FieldType), (Option.some (Jvm.ClassFile.FieldType.object "StabilityAnalyzer$Readings")), (Option.some Jvm.ClassFile.FieldType.int), (Option.some Jvm.ClassFile.FieldType.boolean), (Option.some Jvm.ClassFile.FieldType.boolean), (Option.some Jvm.ClassFile.FieldType.int), (Option.none : Option Jvm.ClassFile.FieldType), (Option.none : Option Jvm.ClassFile.FieldType), (Option.none : Option Jvm.ClassFile.FieldType), (Option.none : Option Jvm.ClassFile.FieldType), (Option.none : Option Jvm.ClassFile.FieldType), (Option.some Jvm.ClassFile.FieldType.int), (Option.some Jvm.ClassFile.FieldType.int), (Option.some Jvm.ClassFile.FieldType.int), (Option.some Jvm.ClassFile.FieldType.int), (Option.some Jvm.ClassFile.FieldType.int), (Option.some Jvm.ClassFile.FieldType.boolean), (Option.some Jvm.ClassFile.FieldType.int), (Option.some Jvm.ClassFile.FieldType.long), (Option.some Jvm.ClassFile.FieldType.boolean), (Option.some Jvm.ClassFile.FieldType.int), (Option.some Jvm.ClassFile.FieldType.int), (Option.some Jvm.ClassFile.FieldType.int), (Option.some Jvm.ClassFile.FieldType.int), (Option.some Jvm.ClassFile.FieldType.int), (Option.some Jvm.ClassFile.FieldType.int), (Option.some Jvm.ClassFile.FieldType.int), (Option.some Jvm.ClassFile.FieldType.int), (Option.some Jvm.ClassFile.FieldType.int), (Option.some Jvm.ClassFile.FieldType.int), (Option.some Jvm.ClassFile.FieldType.int), (Option.some Jvm.ClassFile.FieldType.int), (Option.some Jvm.ClassFile.FieldType.int), (Option.some Jvm.ClassFile.FieldType.int), (Option.some Jvm.ClassFile.FieldType.int), (Option.some Jvm.ClassFile.FieldType.int), (Option.some Jvm.ClassFile.FieldType.int), (Option.some Jvm.ClassFile.FieldType.int), (Option.some Jvm.ClassFile.FieldType.int), (Option.some Jvm.ClassFile.FieldType.int), (Option.some Jvm.ClassFile.FieldType.int), (Option.some Jvm.ClassFile.FieldType.long), (Option.some Jvm.ClassFile.FieldType.long), (Option.some Jvm.ClassFile.FieldType.int), (Option.some Jvm.ClassFile.FieldType.int), (Option.some Jvm.ClassFile.FieldType.int), (Option.some Jvm.ClassFile.FieldType.int), (Option.some Jvm.ClassFile.FieldType.boolean), (Option.some Jvm.ClassFile.FieldType.boolean), (Option.some Jvm.ClassFile.FieldType.boolean), (Option.some Jvm.ClassFile.FieldType.boolean), (Option.some Jvm.ClassFile.FieldType.boolean), (Option.some (Jvm.ClassFile.FieldType.object "StabilityAnalyzer$Image")), (Option.some Jvm.ClassFile.FieldType.int), (Option.some Jvm.ClassFile.FieldType.boolean), (Option.some Jvm.ClassFile.FieldType.long), (Option.none : Option Jvm.ClassFile.FieldType), (Option.some Jvm.ClassFile.FieldType.int), (Option.none : Option Jvm.ClassFile.FieldType), (Option.some Jvm.ClassFile.FieldType.int), (Option.some Jvm.ClassFile.FieldType.long), (Option.some Jvm.ClassFile.FieldType.long), (Option.some Jvm.ClassFile.FieldType.int), (Option.some Jvm.ClassFile.FieldType.long), (Option.some Jvm.ClassFile.FieldType.int), (Option.some Jvm.ClassFile.FieldType.int), (Option.some Jvm.ClassFile.FieldType.int), (Option.some Jvm.ClassFile.FieldType.int), (Option.some Jvm.ClassFile.FieldType.boolean), (Option.some Jvm.ClassFile.FieldType.boolean), (Option.some Jvm.ClassFile.FieldType.boolean), (Option.some Jvm.ClassFile.FieldType.boolean), (Option.some Jvm.ClassFile.FieldType.boolean), (Option.some Jvm.ClassFile.FieldType.boolean)]
def qFr : List Nat := [0, 1, 0, 1, 1, 0, 0, 2, 2, 0, 0, 0, 1, 0, 0, 0, 1, 0, 1, 2, 2, 1, 3, 3, 2, 2, 2, 4, 4, 3, 1, 1, 2, 0, 3, 3, 3, 3, 4, 4, 5, 5, 4, 3, 3, 6, 1, 4, 5, 5, 5, 5, 5, 2, 3, 0, 0, 0, 0, 0, 0, 3, 2, 4, 3, 5, 4, 0, 0, 0, 0, 0, 0, 0, 0, 7, 7, 6, 6, 7, 7, 8]
def qLo : List Nat := [0, 30, 0, 23, 20, 0, 0, 43, 43, 0, 0, 0, 21, 0, 0, 0, 21, 0, 21, 42, 42, 21, 63, 64, 42, 42, 42, 94, 94, 71, 21, 21, 46, 0, 65, 65, 65, 65, 87, 87, 118, 117, 90, 65, 65, 139, 21, 94, 118, 125, 125, 125, 125, 43, 65, 0, 0, 0, 0, 0, 0, 65, 42, 94, 67, 118, 94, 0, 0, 0, 0, 0, 0, 0, 0, 160, 160, 149, 149, 160, 160, 199]
def qCw : List Nat := [454, 447, 492, 476, 464, 450, 255, 272, 324, 276, 179, 235, 187, 191, 310, 289, 299, 284, 280, 183, 196, 200, 207, 215, 211, 219, 333, 374, 227, 231, 239, 243, 247, 251, 262, 294, 304, 314, 328, 349, 353, 365, 378, 387, 319, 175, 416, 406, 420, 427, 459, 472, 488, 391, 399, 265, 368, 409, 412, 430, 395, 340, 344, 357, 383, 223, 435, 438, 442, 468, 479, 336, 203, 163, 167, 171, 402, 423, 484, 495, 499, 0]
def qNst : List (String × Nat × String × String × String × String) := [("StabilityAnalyzer", 192, "StabilityAnalyzer$Fraction", "numerator", "J", "StabilityAnalyzer"), ("StabilityAnalyzer", 196, "StabilityAnalyzer$Fraction", "denominator", "J", "StabilityAnalyzer"), ("StabilityAnalyzer", 241, "StabilityAnalyzer$Image", "readings", "LStabilityAnalyzer$Readings;", "StabilityAnalyzer"), ("StabilityAnalyzer", 244, "StabilityAnalyzer$Image", "used", "Z", "StabilityAnalyzer")]
def qN : Nat := 82
def qNstW : List Nat := [125, 127, 74, 76]
end
section
/-! rows of the machine against rows of the abstract one: what a program checks -/
def qHalt : qOp := (99, 0, 0, 0, .null, [])
def qOp' (y i : Nat) : qOp := (qOps.getD y []).getD i qHalt
def mN (y : Nat) : MethodName := qNm.getD y ⟨"", "", ""⟩
def mB (y : Nat) : ByteArray := qBy.getD y ⟨#[]⟩
def mO (y : Nat) : String := qOw.getD y ""
def mL (y : Nat) : Nat := qMl.getD y 0
def mR (y : Nat) : Option FieldType := qRt.getD y none
def mF (y : Nat) : Nat := qFr.getD y 0
def mW (y : Nat) : Nat := qLo.getD y 0
def cC (ci : Nat) : String := (vwCl.getD ci ("", fun _ => ("", "", "", false), 0)).1
def cT (ci : Nat) : u_T := (vwCl.getD ci ("", fun _ => ("", "", "", false), 0)).2.1
def cN (ci : Nat) : Nat := (vwCl.getD ci ("", fun _ => ("", "", "", false), 0)).2.2
def fkTl : List (List Nat) := [[1, 1], [2, 0, 0], [2, 0], [0, 0, 0, 0, 0], [2, 0], [2, 0], [2, 2, 2, 2, 2, 2, 2, 2, 2]]
def fk (ci j : Nat) : Nat := (fkTl.getD ci []).getD j 2
def qRw (y i : Nat) : qRow := (qRows.getD y []).getD i (0, .nop, 0)
def pcA (y i : Nat) : Nat := (qRw y i).1
def cnu : ClassFile.Cond → Nat
  | .eq => 0
  | .ne => 1
  | .lt => 2
  | .ge => 3
  | .gt => 4
  | .le => 5
def nx (y i pc n : Nat) : Bool := Nat.beq (pcA y (i + 1)) (pc + n)
def jmp (y pc : Nat) (off : Int) (b : Nat) : Bool := decide ((pc : Int) + off = (pcA y b : Int))
def tbw (i : Nat) (w : Cond) : Bool := decide (lw_tbl[i]? = some w)
def chkT (y pc : Nat) : Int → List Int → List (Int × Nat) → Bool
  | _, [], [] => true
  | lo, o :: os, q :: r => decide (q.1 = lo) && jmp y pc o q.2 && chkT y pc (lo + 1) os r
  | _, _, _ => false
def chkU (y pc : Nat) : List (Int × Int) → List (Int × Nat) → Bool
  | [], [] => true
  | o :: os, q :: r => decide (q.1 = o.1) && decide (-2147483648 ≤ o.1 ∧ o.1 < 2147483648) && jmp y pc o.2 q.2 && chkU y pc os r
  | _, _ => false
def chkF (y : Nat) (idx : Nat) (o : qOp) : Bool :=
  Nat.blt o.2.1 7 && Nat.blt o.2.2.1 (cN o.2.1) && tbw o.2.2.2.1 (.fieldLink (mO y) idx (cC o.2.1) (cT o.2.1 o.2.2.1).2.1 (cT o.2.1 o.2.2.1).2.2.1) && decide ((cT o.2.1 o.2.2.1).1 = cC o.2.1)
def qNw (t : String × Nat × String × String × String × String) : Cond := .fieldLinkNest t.1 t.2.1 t.2.2.1 t.2.2.2.1 t.2.2.2.2.1 t.2.2.2.2.2
def chkG (y : Nat) (idx : Nat) (o : qOp) : Bool :=
  Nat.blt o.2.1 7 && Nat.blt o.2.2.1 (cN o.2.1) && decide (qNst[o.2.2.2.1]?.map (fun t => qNw t) = some (.fieldLinkNest (mO y) idx (cC o.2.1) (cT o.2.1 o.2.2.1).2.1 (cT o.2.1 o.2.2.1).2.2.1 "StabilityAnalyzer")) && decide ((cT o.2.1 o.2.2.1).1 = cC o.2.1)
def chkP (o : qOp) (ty : FieldType) : Bool := decide (parseFieldDescriptor (cT o.2.1 o.2.2.1).2.2.1 = some ty) && decide ((cT o.2.1 o.2.2.1).2.2.2 = false)
def chkM (y : Nat) (o : qOp) : Bool :=
  Nat.blt o.2.1 81 && Nat.ble (mF o.2.1 + 1) (mF y) && Nat.ble (8 + (mL o.2.1 + 11) + mW o.2.1) (mW y) && decide ((mN o.2.1).cls ≠ "java/lang/invoke/MethodHandle" ∧ (mN o.2.1).cls ≠ "java/lang/invoke/VarHandle")
def chkS (y idx : Nat) (o : qOp) : Bool := match o.2.2.2.2.2 with
  | [w1, w2, w3] => chkM y o && tbw w1.2 (.methodLink (mO y) idx (mN o.2.1)) && tbw w2.2 (.static (mN o.2.1)) && tbw w3.2 (.initialized (mN o.2.1).cls) && decide ((parseMethodDescriptor (mN o.2.1).desc).map (fun d => d.parameters.length) = some o.2.2.1)
  | _ => false
def chkV (y idx : Nat) (o : qOp) : Bool := match o.2.2.2.2.2 with
  | [w1, w2, w3, w4] => chkM y o && tbw w1.2 (.methodLink (mO y) idx (mN o.2.1)) && tbw w2.2 (.instanceMethod (mN o.2.1)) && tbw w3.2 (.selects (mN o.2.1).cls (mN o.2.1) (mN o.2.1)) && tbw w4.2 (.initialized (mN o.2.1).cls) && Nat.blt o.2.2.2.1 7 && decide (cC o.2.2.2.1 = (mN o.2.1).cls) && decide ((parseMethodDescriptor (mN o.2.1).desc).map (fun d => d.parameters.length) = some o.2.2.1)
  | _ => false
def chkO (y i pc : Nat) (ins : Instr) (len : Nat) (o : qOp) : Bool := match ins with
  | .iconst n => Nat.beq o.1 0 && decide (o.2.2.2.2.1 = .int (Int32.ofInt n)) && Nat.beq len 1 && nx y i pc 1
  | .bipush n => Nat.beq o.1 0 && decide (o.2.2.2.2.1 = .int (Int8.ofInt n).toInt32) && Nat.beq len 2 && nx y i pc 2
  | .sipush n => Nat.beq o.1 0 && decide (o.2.2.2.2.1 = .int (Int16.ofInt n).toInt32) && Nat.beq len 3 && nx y i pc 3
  | .lconst n => Nat.beq o.1 0 && decide (o.2.2.2.2.1 = .long (Int64.ofNat n.val)) && Nat.beq len 1 && nx y i pc 1
  | .aconst_null => Nat.beq o.1 0 && decide (o.2.2.2.2.1 = .null) && Nat.beq len 1 && nx y i pc 1
  | .ldc idx => (match o.2.2.2.2.1 with | .int x => Nat.beq o.1 0 && tbw o.2.1 (.constant (mO y) idx x) | _ => false) && Nat.beq len 2 && nx y i pc 2
  | .ldc2_w idx => (match o.2.2.2.2.1 with | .long x => Nat.beq o.1 0 && tbw o.2.1 (.constantLong (mO y) idx x) | _ => false) && Nat.beq len 3 && nx y i pc 3
  | .iload k => Nat.beq o.1 1 && Nat.beq o.2.1 k && Nat.beq len 2 && nx y i pc 2
  | .iload_n k => Nat.beq o.1 1 && Nat.beq o.2.1 k.val && Nat.beq len 1 && nx y i pc 1
  | .lload k => Nat.beq o.1 2 && Nat.beq o.2.1 k && Nat.beq len 2 && nx y i pc 2
  | .lload_n k => Nat.beq o.1 2 && Nat.beq o.2.1 k.val && Nat.beq len 1 && nx y i pc 1
  | .aload k => Nat.beq o.1 3 && Nat.beq o.2.1 k && Nat.beq len 2 && nx y i pc 2
  | .aload_n k => Nat.beq o.1 3 && Nat.beq o.2.1 k.val && Nat.beq len 1 && nx y i pc 1
  | .istore k => Nat.beq o.1 4 && Nat.beq o.2.1 k && Nat.blt k (mL y) && Nat.beq len 2 && nx y i pc 2
  | .istore_n k => Nat.beq o.1 4 && Nat.beq o.2.1 k.val && Nat.blt k.val (mL y) && Nat.beq len 1 && nx y i pc 1
  | .lstore k => Nat.beq o.1 5 && Nat.beq o.2.1 k && Nat.blt (k + 1) (mL y) && Nat.beq len 2 && nx y i pc 2
  | .lstore_n k => Nat.beq o.1 5 && Nat.beq o.2.1 k.val && Nat.blt (k.val + 1) (mL y) && Nat.beq len 1 && nx y i pc 1
  | .astore k => Nat.beq o.1 6 && Nat.beq o.2.1 k && Nat.blt k (mL y) && Nat.beq len 2 && nx y i pc 2
  | .astore_n k => Nat.beq o.1 6 && Nat.beq o.2.1 k.val && Nat.blt k.val (mL y) && Nat.beq len 1 && nx y i pc 1
  | .iinc k n => Nat.beq o.1 7 && Nat.beq o.2.1 k && decide (o.2.2.2.2.1 = .int (Int32.ofInt n)) && Nat.blt k (mL y) && Nat.beq len 3 && nx y i pc 3
  | .iadd => Nat.beq o.1 8 && Nat.beq len 1 && nx y i pc 1
  | .isub => Nat.beq o.1 9 && Nat.beq len 1 && nx y i pc 1
  | .imul => Nat.beq o.1 10 && Nat.beq len 1 && nx y i pc 1
  | .iand => Nat.beq o.1 11 && Nat.beq len 1 && nx y i pc 1
  | .ior => Nat.beq o.1 12 && Nat.beq len 1 && nx y i pc 1
  | .ishl => Nat.beq o.1 13 && Nat.beq len 1 && nx y i pc 1
  | .ishr => Nat.beq o.1 14 && Nat.beq len 1 && nx y i pc 1
  | .idiv => Nat.beq o.1 15 && Nat.beq len 1 && nx y i pc 1
  | .irem => Nat.beq o.1 16 && Nat.beq len 1 && nx y i pc 1
  | .ineg => Nat.beq o.1 17 && Nat.beq len 1 && nx y i pc 1
  | .ladd => Nat.beq o.1 18 && Nat.beq len 1 && nx y i pc 1
  | .lsub => Nat.beq o.1 19 && Nat.beq len 1 && nx y i pc 1
  | .lmul => Nat.beq o.1 20 && Nat.beq len 1 && nx y i pc 1
  | .ldiv => Nat.beq o.1 21 && Nat.beq len 1 && nx y i pc 1
  | .lrem => Nat.beq o.1 22 && Nat.beq len 1 && nx y i pc 1
  | .lneg => Nat.beq o.1 23 && Nat.beq len 1 && nx y i pc 1
  | .lshl => Nat.beq o.1 24 && Nat.beq len 1 && nx y i pc 1
  | .lcmp => Nat.beq o.1 25 && Nat.beq len 1 && nx y i pc 1
  | .i2l => Nat.beq o.1 26 && Nat.beq len 1 && nx y i pc 1
  | .l2i => Nat.beq o.1 27 && Nat.beq len 1 && nx y i pc 1
  | .lxor => Nat.beq o.1 57 && Nat.beq len 1 && nx y i pc 1
  | .ifCond cc off => Nat.beq o.1 28 && Nat.beq o.2.1 (cnu cc) && jmp y pc off o.2.2.1 && Nat.beq len 3 && nx y i pc 3
  | .if_icmp cc off => Nat.beq o.1 29 && Nat.beq o.2.1 (cnu cc) && jmp y pc off o.2.2.1 && Nat.beq len 3 && nx y i pc 3
  | .ifnull off => Nat.beq o.1 30 && jmp y pc off o.2.2.1 && Nat.beq len 3 && nx y i pc 3
  | .ifnonnull off => Nat.beq o.1 31 && jmp y pc off o.2.2.1 && Nat.beq len 3 && nx y i pc 3
  | .goto off => Nat.beq o.1 32 && jmp y pc off o.2.2.1 && Nat.beq len 3
  | .tableswitch d lo hi offs => Nat.beq o.1 33 && jmp y pc d o.2.2.1 && decide (-2147483648 ≤ lo ∧ hi < 2147483648 ∧ (offs.size : Int) = hi - lo + 1) && chkT y pc lo offs.toList o.2.2.2.2.2
  | .lookupswitch d ps => Nat.beq o.1 33 && jmp y pc d o.2.2.1 && (ps.toList.zip (ps.toList.drop 1)).all (fun (a, b) => a.1 < b.1) && chkU y pc ps.toList o.2.2.2.2.2
  | .getfield idx => Nat.beq len 3 && nx y i pc 3 && ((Nat.beq o.1 34 && chkF y idx o && Nat.beq (fk o.2.1 o.2.2.1) 0) || (Nat.beq o.1 35 && chkF y idx o && Nat.beq (fk o.2.1 o.2.2.1) 1) || (Nat.beq o.1 36 && chkF y idx o && Nat.beq (fk o.2.1 o.2.2.1) 2) || (Nat.beq o.1 60 && chkG y idx o && Nat.beq (fk o.2.1 o.2.2.1) 0) || (Nat.beq o.1 61 && chkG y idx o && Nat.beq (fk o.2.1 o.2.2.1) 1) || (Nat.beq o.1 62 && chkG y idx o && Nat.beq (fk o.2.1 o.2.2.1) 2))
  | .putfield idx => Nat.beq len 3 && nx y i pc 3 && ((Nat.beq o.1 37 && chkF y idx o && chkP o .int && Nat.beq (fk o.2.1 o.2.2.1) 0) || (Nat.beq o.1 38 && chkF y idx o && chkP o .long && Nat.beq (fk o.2.1 o.2.2.1) 1) || (Nat.beq o.1 39 && chkF y idx o && chkP o .boolean && Nat.beq (fk o.2.1 o.2.2.1) 0) || (Nat.beq o.1 65 && chkG y idx o && chkP o .boolean && Nat.beq (fk o.2.1 o.2.2.1) 0))
  | .arraylength => (Nat.beq o.1 40 || Nat.beq o.1 59) && Nat.beq len 1 && nx y i pc 1
  | .iaload => (Nat.beq o.1 41 || Nat.beq o.1 58) && Nat.beq len 1 && nx y i pc 1
  | .laload => Nat.beq o.1 42 && Nat.beq len 1 && nx y i pc 1
  | .baload => false
  | .aaload => Nat.beq o.1 44 && (Nat.beq o.2.1 103 || Nat.beq o.2.1 104) && Nat.beq len 1 && nx y i pc 1
  | .iastore => Nat.beq o.1 45 && Nat.beq len 1 && nx y i pc 1
  | .lastore => Nat.beq o.1 46 && Nat.beq len 1 && nx y i pc 1
  | .bastore => false
  | .invokestatic idx => Nat.beq o.1 48 && chkS y idx o && Nat.beq len 3 && nx y i pc 3
  | .invokevirtual idx => Nat.beq o.1 49 && chkV y idx o && Nat.beq len 3 && nx y i pc 3
  | .ireturn => ((Nat.beq o.1 50 && decide (mR y = some .int)) || (Nat.beq o.1 51 && decide (mR y = some .boolean))) && Nat.beq len 1
  | .lreturn => Nat.beq o.1 52 && decide (mR y = some .long) && Nat.beq len 1
  | .areturn => Nat.beq o.1 53 && (match mR y with | some (.object _) => true | _ => false) && Nat.beq len 1
  | .return_ => Nat.beq o.1 54 && decide (mR y = none) && Nat.beq len 1
  | .dup => Nat.beq o.1 55 && Nat.beq len 1 && nx y i pc 1
  | .dup2 => Nat.beq o.1 56 && Nat.beq len 1 && nx y i pc 1
  | _ => false
def qDec (y : Nat) (r : qRow) : Bool := match decode (mB y) r.1 with
  | .ok q => decide (q = (r.2.1, r.2.2))
  | _ => false
def chk (y i : Nat) : Bool := Nat.beq (qOp' y i).1 99 || (qDec y (qRw y i) && chkO y i (qRw y i).1 (qRw y i).2.1 (qRw y i).2.2 (qOp' y i))
def chkAll (lo n : Nat) : Bool := (List.range n).all (fun k => (List.range (qOps.getD (lo + k) []).length).all (chk (lo + k)))
def chkRng (y lo n : Nat) : Bool := (List.range n).all (fun k => chk y (lo + k))
set_option maxRecDepth 100000 in
theorem ck_len : qOps.length = 82 := by decide +kernel
end
section
/-! the check, run -/
set_option maxRecDepth 100000 in
theorem ck_0 : chkAll 0 28 = true := by decide +kernel
end
section
/-! the check, run -/
set_option maxRecDepth 100000 in
theorem ck_1 : chkAll 28 28 = true := by decide +kernel
end
section
/-! the check, run -/
set_option maxRecDepth 100000 in
theorem ck_2 : chkAll 56 19 = true := by decide +kernel
end
section
/-! the check, run -/
set_option maxRecDepth 100000 in
theorem ck_75_0 : chkRng 75 0 47 = true := by decide +kernel
set_option maxRecDepth 100000 in
theorem ck_75_47 : chkRng 75 47 47 = true := by decide +kernel
set_option maxRecDepth 100000 in
theorem ck_75_94 : chkRng 75 94 47 = true := by decide +kernel
set_option maxRecDepth 100000 in
theorem ck_75_141 : chkRng 75 141 46 = true := by decide +kernel
end
section
/-! the check, run -/
set_option maxRecDepth 100000 in
theorem ck_76_0 : chkRng 76 0 57 = true := by decide +kernel
set_option maxRecDepth 100000 in
theorem ck_76_57 : chkRng 76 57 57 = true := by decide +kernel
set_option maxRecDepth 100000 in
theorem ck_76_114 : chkRng 76 114 57 = true := by decide +kernel
set_option maxRecDepth 100000 in
theorem ck_76_171 : chkRng 76 171 57 = true := by decide +kernel
end
section
/-! the check, run -/
set_option maxRecDepth 100000 in
theorem ck_77_0 : chkRng 77 0 56 = true := by decide +kernel
set_option maxRecDepth 100000 in
theorem ck_77_56 : chkRng 77 56 56 = true := by decide +kernel
set_option maxRecDepth 100000 in
theorem ck_77_112 : chkRng 77 112 56 = true := by decide +kernel
set_option maxRecDepth 100000 in
theorem ck_77_168 : chkRng 77 168 54 = true := by decide +kernel
end
section
/-! the check, run -/
set_option maxRecDepth 100000 in
theorem ck_78_0 : chkRng 78 0 37 = true := by decide +kernel
set_option maxRecDepth 100000 in
theorem ck_78_37 : chkRng 78 37 37 = true := by decide +kernel
set_option maxRecDepth 100000 in
theorem ck_79_0 : chkRng 79 0 45 = true := by decide +kernel
set_option maxRecDepth 100000 in
theorem ck_79_45 : chkRng 79 45 44 = true := by decide +kernel
set_option maxRecDepth 100000 in
theorem ck_80_0 : chkRng 80 0 49 = true := by decide +kernel
set_option maxRecDepth 100000 in
theorem ck_81_0 : chkRng 81 0 41 = true := by decide +kernel
set_option maxRecDepth 100000 in
theorem ck_81_41 : chkRng 81 41 41 = true := by decide +kernel
set_option maxRecDepth 100000 in
theorem ck_81_82 : chkRng 81 82 39 = true := by decide +kernel
end
section
/-! the abstract machine: memory of ints and longs over a fixed list of objects; a judgement 'P' that is closed under one step -/
abbrev qMem : Type := (Nat → Nat → Int32) × (Nat → Nat → Int64)
abbrev qLc : Type := List (Nat × Value)
abbrev qPost : Type := Option Value → qMem → Prop
abbrev qSem : Type := Nat → Nat → qLc → List Value → qMem → qPost → Prop
def pI (M : qMem) (k j : Nat) (x : Int32) : qMem := (fun a b => if a = k ∧ b = j then x else M.1 a b, M.2)
def pJ (M : qMem) (k j : Nat) (x : Int64) : qMem := (M.1, fun a b => if a = k ∧ b = j then x else M.2 a b)
def lcS1 (L : qLc) (i : Nat) (v : Value) : qLc := (i, v) :: L.filter (fun q => !(q.1 == i) && !(q.1 + 1 == i && q.2.category == 2))
def lcS2 (L : qLc) (i : Nat) (v : Value) : qLc := (i, v) :: L.filter (fun q => !(q.1 == i) && (!(q.1 == i + 1) && !(q.1 + 1 == i && q.2.category == 2)))
def lcG (i : Nat) : qLc → Value
  | [] => .retAddr 0
  | q :: r => bif q.1 == i then q.2 else lcG i r
def csum (st : List Value) : Nat := (st.map fun v => v.category).sum
def shTl : List (Nat × Nat) := [(6, 0), (4, 0), (100, 64), (4, 0), (100, 64), (101, 64), (1, 0), (103, 8), (4, 0), (100, 64), (4, 0), (100, 64), (4, 0), (100, 64), (4, 0), (100, 64), (4, 0), (100, 64), (4, 0), (100, 64), (4, 0), (100, 64), (4, 0), (100, 64), (104, 2), (2, 0), (4, 0), (100, 64), (2, 0), (4, 0), (100, 64), (5, 0), (100, 120), (3, 0), (0, 0), (0, 0), (6, 0), (4, 0), (100, 64), (4, 0), (100, 64), (101, 64), (1, 0), (103, 8), (4, 0), (100, 64), (4, 0), (100, 64), (4, 0), (100, 64), (4, 0), (100, 64), (4, 0), (100, 64), (4, 0), (100, 64), (4, 0), (100, 64), (4, 0), (100, 64), (104, 2), (2, 0), (4, 0), (100, 64), (2, 0), (4, 0), (100, 64), (5, 0), (100, 120), (3, 0), (0, 0), (0, 0)]
def rfTl : List (List Nat) := [[1, 3, 5, 6, 24, 31, 33, 34, 35], [2], [], [4], [], [], [7], [8, 10, 12, 14, 16, 18, 20, 22], [9], [], [11], [], [13], [], [15], [], [17], [], [19], [], [21], [], [23], [], [25, 28], [26], [27], [], [29], [30], [], [32], [], [], [], []]
def shT (k : Nat) : Nat := (shTl.getD k (200, 0)).1
def shL (k : Nat) : Nat := (shTl.getD k (200, 0)).2
def rf (k j : Nat) : Nat := bif Nat.ble 36 k then 36 + (rfTl.getD (k - 36) []).getD j 0 else (rfTl.getD k []).getD j 0
def qSCR : Nat := 1000
def icc (cc : Nat) (x y : Int32) : Prop := match cc with
  | 0 => x = y
  | 1 => ¬ x = y
  | 2 => x < y
  | 3 => y ≤ x
  | 4 => y < x
  | _ => x ≤ y
def swP (x : Int32) (f : Nat → Prop) : List (Int × Nat) → Nat → Prop
  | [], d => f d
  | q :: r, d => (x = Int32.ofInt q.1 → f q.2) ∧ (¬ x = Int32.ofInt q.1 → swP x f r d)
def qx_0 (P : qSem) (y i : Nat) (o : qOp) (L : qLc) (stk : List Value) (M : qMem) (Q : qPost) : Prop :=
  P y (i + 1) L (o.2.2.2.2.1 :: stk) M Q
def qx_1 (P : qSem) (y i : Nat) (o : qOp) (L : qLc) (stk : List Value) (M : qMem) (Q : qPost) : Prop :=
  match lcG o.2.1 L with
    | .int x => P y (i + 1) L (.int x :: stk) M Q
    | _ => False
def qx_2 (P : qSem) (y i : Nat) (o : qOp) (L : qLc) (stk : List Value) (M : qMem) (Q : qPost) : Prop :=
  match lcG o.2.1 L with
    | .long x => P y (i + 1) L (.long x :: stk) M Q
    | _ => False
def qx_3 (P : qSem) (y i : Nat) (o : qOp) (L : qLc) (stk : List Value) (M : qMem) (Q : qPost) : Prop :=
  match lcG o.2.1 L with
    | .ref x => P y (i + 1) L (.ref x :: stk) M Q
    | .null => P y (i + 1) L (.null :: stk) M Q
    | _ => False
def qx_4 (P : qSem) (y i : Nat) (o : qOp) (L : qLc) (stk : List Value) (M : qMem) (Q : qPost) : Prop :=
  match stk with
    | .int x :: st => P y (i + 1) (lcS1 L o.2.1 (.int x)) st M Q
    | _ => False
def qx_5 (P : qSem) (y i : Nat) (o : qOp) (L : qLc) (stk : List Value) (M : qMem) (Q : qPost) : Prop :=
  match stk with
    | .long x :: st => P y (i + 1) (lcS2 L o.2.1 (.long x)) st M Q
    | _ => False
def qx_6 (P : qSem) (y i : Nat) (o : qOp) (L : qLc) (stk : List Value) (M : qMem) (Q : qPost) : Prop :=
  match stk with
    | .ref x :: st => P y (i + 1) (lcS1 L o.2.1 (.ref x)) st M Q
    | .null :: st => P y (i + 1) (lcS1 L o.2.1 .null) st M Q
    | _ => False
def qx_7 (P : qSem) (y i : Nat) (o : qOp) (L : qLc) (stk : List Value) (M : qMem) (Q : qPost) : Prop :=
  match lcG o.2.1 L, o.2.2.2.2.1 with
    | .int x, .int d => P y (i + 1) (lcS1 L o.2.1 (.int (x + d))) stk M Q
    | _, _ => False
/-- one step: what must hold so that the judgement holds at row i of method y -/
def qSt1 (P : qSem) (y i : Nat) (o : qOp) (L : qLc) (stk : List Value) (M : qMem) (Q : qPost) : Prop :=
  match o.1 with
  | 0 => qx_0 P y i o L stk M Q
  | 1 => qx_1 P y i o L stk M Q
  | 2 => qx_2 P y i o L stk M Q
  | 3 => qx_3 P y i o L stk M Q
  | 4 => qx_4 P y i o L stk M Q
  | 5 => qx_5 P y i o L stk M Q
  | 6 => qx_6 P y i o L stk M Q
  | _ => qx_7 P y i o L stk M Q
def qx_8 (P : qSem) (y i : Nat) (o : qOp) (L : qLc) (stk : List Value) (M : qMem) (Q : qPost) : Prop :=
  match stk with
    | .int b :: .int a :: st => P y (i + 1) L (.int (a + b) :: st) M Q
    | _ => False
def qx_9 (P : qSem) (y i : Nat) (o : qOp) (L : qLc) (stk : List Value) (M : qMem) (Q : qPost) : Prop :=
  match stk with
    | .int b :: .int a :: st => P y (i + 1) L (.int (a - b) :: st) M Q
    | _ => False
def qx_10 (P : qSem) (y i : Nat) (o : qOp) (L : qLc) (stk : List Value) (M : qMem) (Q : qPost) : Prop :=
  match stk with
    | .int b :: .int a :: st => P y (i + 1) L (.int (a * b) :: st) M Q
    | _ => False
def qx_11 (P : qSem) (y i : Nat) (o : qOp) (L : qLc) (stk : List Value) (M : qMem) (Q : qPost) : Prop :=
  match stk with
    | .int b :: .int a :: st => P y (i + 1) L (.int (a &&& b) :: st) M Q
    | _ => False
def qx_12 (P : qSem) (y i : Nat) (o : qOp) (L : qLc) (stk : List Value) (M : qMem) (Q : qPost) : Prop :=
  match stk with
    | .int b :: .int a :: st => P y (i + 1) L (.int (a ||| b) :: st) M Q
    | _ => False
def qx_13 (P : qSem) (y i : Nat) (o : qOp) (L : qLc) (stk : List Value) (M : qMem) (Q : qPost) : Prop :=
  match stk with
    | .int b :: .int a :: st => P y (i + 1) L (.int (a <<< (b &&& 31)) :: st) M Q
    | _ => False
def qx_14 (P : qSem) (y i : Nat) (o : qOp) (L : qLc) (stk : List Value) (M : qMem) (Q : qPost) : Prop :=
  match stk with
    | .int b :: .int a :: st => P y (i + 1) L (.int (a >>> (b &&& 31)) :: st) M Q
    | _ => False
def qx_15 (P : qSem) (y i : Nat) (o : qOp) (L : qLc) (stk : List Value) (M : qMem) (Q : qPost) : Prop :=
  match stk with
    | .int b :: .int a :: st => ¬ b = 0 ∧ P y (i + 1) L (.int (a / b) :: st) M Q
    | _ => False
def qx_16 (P : qSem) (y i : Nat) (o : qOp) (L : qLc) (stk : List Value) (M : qMem) (Q : qPost) : Prop :=
  match stk with
    | .int b :: .int a :: st => ¬ b = 0 ∧ P y (i + 1) L (.int (a - a / b * b) :: st) M Q
    | _ => False
def qx_17 (P : qSem) (y i : Nat) (o : qOp) (L : qLc) (stk : List Value) (M : qMem) (Q : qPost) : Prop :=
  match stk with
    | .int a :: st => P y (i + 1) L (.int (-a) :: st) M Q
    | _ => False
def qx_18 (P : qSem) (y i : Nat) (o : qOp) (L : qLc) (stk : List Value) (M : qMem) (Q : qPost) : Prop :=
  match stk with
    | .long b :: .long a :: st => P y (i + 1) L (.long (a + b) :: st) M Q
    | _ => False
def qx_19 (P : qSem) (y i : Nat) (o : qOp) (L : qLc) (stk : List Value) (M : qMem) (Q : qPost) : Prop :=
  match stk with
    | .long b :: .long a :: st => P y (i + 1) L (.long (a - b) :: st) M Q
    | _ => False
def qx_20 (P : qSem) (y i : Nat) (o : qOp) (L : qLc) (stk : List Value) (M : qMem) (Q : qPost) : Prop :=
  match stk with
    | .long b :: .long a :: st => P y (i + 1) L (.long (a * b) :: st) M Q
    | _ => False
def qx_21 (P : qSem) (y i : Nat) (o : qOp) (L : qLc) (stk : List Value) (M : qMem) (Q : qPost) : Prop :=
  match stk with
    | .long b :: .long a :: st => ¬ b = 0 ∧ P y (i + 1) L (.long (a / b) :: st) M Q
    | _ => False
def qx_22 (P : qSem) (y i : Nat) (o : qOp) (L : qLc) (stk : List Value) (M : qMem) (Q : qPost) : Prop :=
  match stk with
    | .long b :: .long a :: st => ¬ b = 0 ∧ P y (i + 1) L (.long (a - a / b * b) :: st) M Q
    | _ => False
def qx_23 (P : qSem) (y i : Nat) (o : qOp) (L : qLc) (stk : List Value) (M : qMem) (Q : qPost) : Prop :=
  match stk with
    | .long a :: st => P y (i + 1) L (.long (-a) :: st) M Q
    | _ => False
def qx_24 (P : qSem) (y i : Nat) (o : qOp) (L : qLc) (stk : List Value) (M : qMem) (Q : qPost) : Prop :=
  match stk with
    | .int b :: .long a :: st => P y (i + 1) L (.long (a <<< (b.toInt64 &&& 63)) :: st) M Q
    | _ => False
def qx_25 (P : qSem) (y i : Nat) (o : qOp) (L : qLc) (stk : List Value) (M : qMem) (Q : qPost) : Prop :=
  match stk with
    | .long b :: .long a :: st => P y (i + 1) L (.int (lg_cmp a b) :: st) M Q
    | _ => False
def qx_26 (P : qSem) (y i : Nat) (o : qOp) (L : qLc) (stk : List Value) (M : qMem) (Q : qPost) : Prop :=
  match stk with
    | .int a :: st => P y (i + 1) L (.long a.toInt64 :: st) M Q
    | _ => False
def qx_27 (P : qSem) (y i : Nat) (o : qOp) (L : qLc) (stk : List Value) (M : qMem) (Q : qPost) : Prop :=
  match stk with
    | .long a :: st => P y (i + 1) L (.int a.toInt32 :: st) M Q
    | _ => False
/-- arithmetic -/
def qSt2 (P : qSem) (y i : Nat) (o : qOp) (L : qLc) (stk : List Value) (M : qMem) (Q : qPost) : Prop :=
  match o.1 with
  | 8 => qx_8 P y i o L stk M Q
  | 9 => qx_9 P y i o L stk M Q
  | 10 => qx_10 P y i o L stk M Q
  | 11 => qx_11 P y i o L stk M Q
  | 12 => qx_12 P y i o L stk M Q
  | 13 => qx_13 P y i o L stk M Q
  | 14 => qx_14 P y i o L stk M Q
  | 15 => qx_15 P y i o L stk M Q
  | 16 => qx_16 P y i o L stk M Q
  | 17 => qx_17 P y i o L stk M Q
  | 18 => qx_18 P y i o L stk M Q
  | 19 => qx_19 P y i o L stk M Q
  | 20 => qx_20 P y i o L stk M Q
  | 21 => qx_21 P y i o L stk M Q
  | 22 => qx_22 P y i o L stk M Q
  | 23 => qx_23 P y i o L stk M Q
  | 24 => qx_24 P y i o L stk M Q
  | 25 => qx_25 P y i o L stk M Q
  | 26 => qx_26 P y i o L stk M Q
  | _ => qx_27 P y i o L stk M Q
def qx_28 (P : qSem) (y i : Nat) (o : qOp) (L : qLc) (stk : List Value) (M : qMem) (Q : qPost) : Prop :=
  match stk with
    | .int a :: st => (icc o.2.1 a 0 → P y o.2.2.1 L st M Q) ∧ (¬ icc o.2.1 a 0 → P y (i + 1) L st M Q)
    | _ => False
def qx_29 (P : qSem) (y i : Nat) (o : qOp) (L : qLc) (stk : List Value) (M : qMem) (Q : qPost) : Prop :=
  match stk with
    | .int b :: .int a :: st => (icc o.2.1 a b → P y o.2.2.1 L st M Q) ∧ (¬ icc o.2.1 a b → P y (i + 1) L st M Q)
    | _ => False
def qx_30 (P : qSem) (y i : Nat) (o : qOp) (L : qLc) (stk : List Value) (M : qMem) (Q : qPost) : Prop :=
  match stk with
    | .null :: st => P y o.2.2.1 L st M Q
    | .ref _ :: st => P y (i + 1) L st M Q
    | _ => False
def qx_31 (P : qSem) (y i : Nat) (o : qOp) (L : qLc) (stk : List Value) (M : qMem) (Q : qPost) : Prop :=
  match stk with
    | .null :: st => P y (i + 1) L st M Q
    | .ref _ :: st => P y o.2.2.1 L st M Q
    | _ => False
def qx_32 (P : qSem) (y i : Nat) (o : qOp) (L : qLc) (stk : List Value) (M : qMem) (Q : qPost) : Prop :=
  P y o.2.2.1 L stk M Q
def qx_33 (P : qSem) (y i : Nat) (o : qOp) (L : qLc) (stk : List Value) (M : qMem) (Q : qPost) : Prop :=
  match stk with
    | .int a :: st => swP a (fun t => P y t L st M Q) o.2.2.2.2.2 o.2.2.1
    | _ => False
/-- branches -/
def qSt3 (P : qSem) (y i : Nat) (o : qOp) (L : qLc) (stk : List Value) (M : qMem) (Q : qPost) : Prop :=
  match o.1 with
  | 28 => qx_28 P y i o L stk M Q
  | 29 => qx_29 P y i o L stk M Q
  | 30 => qx_30 P y i o L stk M Q
  | 31 => qx_31 P y i o L stk M Q
  | 32 => qx_32 P y i o L stk M Q
  | _ => qx_33 P y i o L stk M Q
def qx_34 (P : qSem) (y i : Nat) (o : qOp) (L : qLc) (stk : List Value) (M : qMem) (Q : qPost) : Prop :=
  match stk with
    | .ref k :: st => shT k = o.2.1 ∧ P y (i + 1) L (.int (M.1 k o.2.2.1) :: st) M Q
    | _ => False
def qx_35 (P : qSem) (y i : Nat) (o : qOp) (L : qLc) (stk : List Value) (M : qMem) (Q : qPost) : Prop :=
  match stk with
    | .ref k :: st => shT k = o.2.1 ∧ P y (i + 1) L (.long (M.2 k o.2.2.1) :: st) M Q
    | _ => False
def qx_36 (P : qSem) (y i : Nat) (o : qOp) (L : qLc) (stk : List Value) (M : qMem) (Q : qPost) : Prop :=
  match stk with
    | .ref k :: st => shT k = o.2.1 ∧ P y (i + 1) L (.ref (rf k o.2.2.1) :: st) M Q
    | _ => False
def qx_37 (P : qSem) (y i : Nat) (o : qOp) (L : qLc) (stk : List Value) (M : qMem) (Q : qPost) : Prop :=
  match stk with
    | .int x :: .ref k :: st => shT k = o.2.1 ∧ P y (i + 1) L st (pI M k o.2.2.1 x) Q
    | _ => False
def qx_38 (P : qSem) (y i : Nat) (o : qOp) (L : qLc) (stk : List Value) (M : qMem) (Q : qPost) : Prop :=
  match stk with
    | .long x :: .ref k :: st => shT k = o.2.1 ∧ P y (i + 1) L st (pJ M k o.2.2.1 x) Q
    | _ => False
def qx_39 (P : qSem) (y i : Nat) (o : qOp) (L : qLc) (stk : List Value) (M : qMem) (Q : qPost) : Prop :=
  match stk with
    | .int x :: .ref k :: st => shT k = o.2.1 ∧ narrow .boolean (.int x) = .int x ∧ P y (i + 1) L st (pI M k o.2.2.1 x) Q
    | _ => False
/-- fields -/
def qSt4 (P : qSem) (y i : Nat) (o : qOp) (L : qLc) (stk : List Value) (M : qMem) (Q : qPost) : Prop :=
  match o.1 with
  | 34 => qx_34 P y i o L stk M Q
  | 35 => qx_35 P y i o L stk M Q
  | 36 => qx_36 P y i o L stk M Q
  | 37 => qx_37 P y i o L stk M Q
  | 38 => qx_38 P y i o L stk M Q
  | _ => qx_39 P y i o L stk M Q
def qx_40 (P : qSem) (y i : Nat) (o : qOp) (L : qLc) (stk : List Value) (M : qMem) (Q : qPost) : Prop :=
  match stk with
    | .ref k :: st => 100 ≤ shT k ∧ shT k ≤ 104 ∧ P y (i + 1) L (.int (Int32.ofNat (shL k)) :: st) M Q
    | _ => False
def qx_41 (P : qSem) (y i : Nat) (o : qOp) (L : qLc) (stk : List Value) (M : qMem) (Q : qPost) : Prop :=
  match stk with
    | .int j :: .ref k :: st => shT k = 100 ∧ vp_in j (shL k) ∧ P y (i + 1) L (.int (M.1 k j.toNatClampNeg) :: st) M Q
    | _ => False
def qx_42 (P : qSem) (y i : Nat) (o : qOp) (L : qLc) (stk : List Value) (M : qMem) (Q : qPost) : Prop :=
  match stk with
    | .int j :: .ref k :: st => shT k = 101 ∧ vp_in j (shL k) ∧ P y (i + 1) L (.long (M.2 k j.toNatClampNeg) :: st) M Q
    | _ => False
def qx_43 (P : qSem) (y i : Nat) (o : qOp) (L : qLc) (stk : List Value) (M : qMem) (Q : qPost) : Prop :=
  match stk with
    | .int j :: .ref k :: st => shT k = 102 ∧ vp_in j (shL k) ∧ P y (i + 1) L (.int (M.1 k j.toNatClampNeg) :: st) M Q
    | _ => False
def qx_44 (P : qSem) (y i : Nat) (o : qOp) (L : qLc) (stk : List Value) (M : qMem) (Q : qPost) : Prop :=
  match stk with
    | .int j :: .ref k :: st => shT k = o.2.1 ∧ vp_in j (shL k) ∧ P y (i + 1) L (.ref (rf k j.toNatClampNeg) :: st) M Q
    | _ => False
def qx_45 (P : qSem) (y i : Nat) (o : qOp) (L : qLc) (stk : List Value) (M : qMem) (Q : qPost) : Prop :=
  match stk with
    | .int x :: .int j :: .ref k :: st => shT k = 100 ∧ vp_in j (shL k) ∧ P y (i + 1) L st (pI M k j.toNatClampNeg x) Q
    | _ => False
def qx_46 (P : qSem) (y i : Nat) (o : qOp) (L : qLc) (stk : List Value) (M : qMem) (Q : qPost) : Prop :=
  match stk with
    | .long x :: .int j :: .ref k :: st => shT k = 101 ∧ vp_in j (shL k) ∧ P y (i + 1) L st (pJ M k j.toNatClampNeg x) Q
    | _ => False
def qx_47 (P : qSem) (y i : Nat) (o : qOp) (L : qLc) (stk : List Value) (M : qMem) (Q : qPost) : Prop :=
  match stk with
    | .int x :: .int j :: .ref k :: st => shT k = 102 ∧ vp_in j (shL k) ∧ P y (i + 1) L st (pI M k j.toNatClampNeg (vp_nar .boolean x)) Q
    | _ => False
/-- arrays -/
def qSt5 (P : qSem) (y i : Nat) (o : qOp) (L : qLc) (stk : List Value) (M : qMem) (Q : qPost) : Prop :=
  match o.1 with
  | 40 => qx_40 P y i o L stk M Q
  | 41 => qx_41 P y i o L stk M Q
  | 42 => qx_42 P y i o L stk M Q
  | 43 => qx_43 P y i o L stk M Q
  | 44 => qx_44 P y i o L stk M Q
  | 45 => qx_45 P y i o L stk M Q
  | 46 => qx_46 P y i o L stk M Q
  | _ => qx_47 P y i o L stk M Q
def qx_48 (Ls : Nat) (xs : Nat → Int32) (P : qSem) (y i : Nat) (o : qOp) (L : qLc) (stk : List Value) (M : qMem) (Q : qPost) : Prop :=
  bif Nat.ble o.2.2.1 stk.length && (Nat.ble (csum (stk.drop o.2.2.1)) 8 && Nat.ble (csum (stk.take o.2.2.1)) (mL o.2.1)) then P o.2.1 0 (lv_args 0 (stk.take o.2.2.1).reverse) [] M (fun v M' => P y (i + 1) L (v.toList ++ stk.drop o.2.2.1) M' Q) else False
def qx_49 (Ls : Nat) (xs : Nat → Int32) (P : qSem) (y i : Nat) (o : qOp) (L : qLc) (stk : List Value) (M : qMem) (Q : qPost) : Prop :=
  match stk.drop o.2.2.1 with
    | .ref k :: st => bif Nat.ble o.2.2.1 stk.length && (Nat.ble (csum st) 8 && Nat.ble (csum (stk.take o.2.2.1) + 1) (mL o.2.1)) then shT k = o.2.2.2.1 ∧ P o.2.1 0 (lv_args 0 (.ref k :: (stk.take o.2.2.1).reverse)) [] M (fun v M' => P y (i + 1) L (v.toList ++ st) M' Q) else False
    | _ => False
def qx_50 (Ls : Nat) (xs : Nat → Int32) (P : qSem) (y i : Nat) (o : qOp) (L : qLc) (stk : List Value) (M : qMem) (Q : qPost) : Prop :=
  match stk with
    | [.int x] => Q (some (.int x)) M
    | _ => False
def qx_51 (Ls : Nat) (xs : Nat → Int32) (P : qSem) (y i : Nat) (o : qOp) (L : qLc) (stk : List Value) (M : qMem) (Q : qPost) : Prop :=
  match stk with
    | [.int x] => narrow .boolean (.int x) = .int x ∧ Q (some (.int x)) M
    | _ => False
def qx_52 (Ls : Nat) (xs : Nat → Int32) (P : qSem) (y i : Nat) (o : qOp) (L : qLc) (stk : List Value) (M : qMem) (Q : qPost) : Prop :=
  match stk with
    | [.long x] => Q (some (.long x)) M
    | _ => False
def qx_53 (Ls : Nat) (xs : Nat → Int32) (P : qSem) (y i : Nat) (o : qOp) (L : qLc) (stk : List Value) (M : qMem) (Q : qPost) : Prop :=
  match stk with
    | [.ref k] => Q (some (.ref k)) M
    | [.null] => Q (some .null) M
    | _ => False
def qx_54 (Ls : Nat) (xs : Nat → Int32) (P : qSem) (y i : Nat) (o : qOp) (L : qLc) (stk : List Value) (M : qMem) (Q : qPost) : Prop :=
  match stk with
    | [] => Q none M
    | _ => False
def qx_55 (Ls : Nat) (xs : Nat → Int32) (P : qSem) (y i : Nat) (o : qOp) (L : qLc) (stk : List Value) (M : qMem) (Q : qPost) : Prop :=
  match stk with
    | .ref k :: st => P y (i + 1) L (.ref k :: .ref k :: st) M Q
    | .int k :: st => P y (i + 1) L (.int k :: .int k :: st) M Q
    | _ => False
def qx_56 (Ls : Nat) (xs : Nat → Int32) (P : qSem) (y i : Nat) (o : qOp) (L : qLc) (stk : List Value) (M : qMem) (Q : qPost) : Prop :=
  match stk with
    | .int j :: .ref k :: st => P y (i + 1) L (.int j :: .ref k :: .int j :: .ref k :: st) M Q
    | _ => False
def qx_57 (Ls : Nat) (xs : Nat → Int32) (P : qSem) (y i : Nat) (o : qOp) (L : qLc) (stk : List Value) (M : qMem) (Q : qPost) : Prop :=
  match stk with
    | .long b :: .long a :: st => P y (i + 1) L (.long (a ^^^ b) :: st) M Q
    | _ => False
def qx_58 (Ls : Nat) (xs : Nat → Int32) (P : qSem) (y i : Nat) (o : qOp) (L : qLc) (stk : List Value) (M : qMem) (Q : qPost) : Prop :=
  match stk with
    | .int j :: .ref 1000 :: st => vp_in j Ls ∧ P y (i + 1) L (.int (xs j.toNatClampNeg) :: st) M Q
    | _ => False
def qx_59 (Ls : Nat) (xs : Nat → Int32) (P : qSem) (y i : Nat) (o : qOp) (L : qLc) (stk : List Value) (M : qMem) (Q : qPost) : Prop :=
  match stk with
    | .ref 1000 :: st => P y (i + 1) L (.int (Int32.ofNat Ls) :: st) M Q
    | _ => False
/-- calls, ends, the rest -/
def qSt6 (Ls : Nat) (xs : Nat → Int32) (P : qSem) (y i : Nat) (o : qOp) (L : qLc) (stk : List Value) (M : qMem) (Q : qPost) : Prop :=
  match o.1 with
  | 48 => qx_48 Ls xs P y i o L stk M Q
  | 49 => qx_49 Ls xs P y i o L stk M Q
  | 50 => qx_50 Ls xs P y i o L stk M Q
  | 51 => qx_51 Ls xs P y i o L stk M Q
  | 52 => qx_52 Ls xs P y i o L stk M Q
  | 53 => qx_53 Ls xs P y i o L stk M Q
  | 54 => qx_54 Ls xs P y i o L stk M Q
  | 55 => qx_55 Ls xs P y i o L stk M Q
  | 56 => qx_56 Ls xs P y i o L stk M Q
  | 57 => qx_57 Ls xs P y i o L stk M Q
  | 58 => qx_58 Ls xs P y i o L stk M Q
  | _ => qx_59 Ls xs P y i o L stk M Q
def qx_60 (P : qSem) (y i : Nat) (o : qOp) (L : qLc) (stk : List Value) (M : qMem) (Q : qPost) : Prop :=
  match stk with
    | .ref k :: st => shT k = o.2.1 ∧ P y (i + 1) L (.int (M.1 k o.2.2.1) :: st) M Q
    | _ => False
def qx_61 (P : qSem) (y i : Nat) (o : qOp) (L : qLc) (stk : List Value) (M : qMem) (Q : qPost) : Prop :=
  match stk with
    | .ref k :: st => shT k = o.2.1 ∧ P y (i + 1) L (.long (M.2 k o.2.2.1) :: st) M Q
    | _ => False
def qx_62 (P : qSem) (y i : Nat) (o : qOp) (L : qLc) (stk : List Value) (M : qMem) (Q : qPost) : Prop :=
  match stk with
    | .ref k :: st => shT k = o.2.1 ∧ P y (i + 1) L (.ref (rf k o.2.2.1) :: st) M Q
    | _ => False
def qx_65 (P : qSem) (y i : Nat) (o : qOp) (L : qLc) (stk : List Value) (M : qMem) (Q : qPost) : Prop :=
  match stk with
    | .int x :: .ref k :: st => shT k = o.2.1 ∧ narrow .boolean (.int x) = .int x ∧ P y (i + 1) L st (pI M k o.2.2.1 x) Q
    | _ => False
/-- nest mates' fields -/
def qSt7 (P : qSem) (y i : Nat) (o : qOp) (L : qLc) (stk : List Value) (M : qMem) (Q : qPost) : Prop :=
  match o.1 with
  | 60 => qx_60 P y i o L stk M Q
  | 61 => qx_61 P y i o L stk M Q
  | 62 => qx_62 P y i o L stk M Q
  | 65 => qx_65 P y i o L stk M Q
  | _ => False
def qStep (Ls : Nat) (xs : Nat → Int32) (P : qSem) (y i : Nat) (o : qOp) (L : qLc) (stk : List Value) (M : qMem) (Q : qPost) : Prop :=
  bif Nat.ble o.1 7 then qSt1 P y i o L stk M Q
  else bif Nat.ble o.1 27 then qSt2 P y i o L stk M Q
  else bif Nat.ble o.1 33 then qSt3 P y i o L stk M Q
  else bif Nat.ble o.1 39 then qSt4 P y i o L stk M Q
  else bif Nat.ble o.1 47 then qSt5 P y i o L stk M Q
  else bif Nat.ble o.1 59 then qSt6 Ls xs P y i o L stk M Q
  else qSt7 P y i o L stk M Q
/-- P holds wherever one step says so -/
def qClosed (Ls : Nat) (xs : Nat → Int32) (P : qSem) : Prop := ∀ (y i : Nat) (L : qLc) (stk : List Value) (M : qMem) (Q : qPost), qStep Ls xs P y i (qOp' y i) L stk M Q → P y i L stk M Q
end
section
/-! the abstract machine stands for the machine: the worlds and the judgement -/
theorem q_bq {a b : Nat} (h : Nat.beq a b = true) : a = b := Nat.eq_of_beq_eq_true h
def tr (ad : Nat → Nat) : Value → Value
  | .ref k => .ref (ad k)
  | v => v
def trS (ad : Nat → Nat) (st : List Value) : List Value := st.map (tr ad)
def trL (ad : Nat → Nat) (L : qLc) : List (Nat × Value) := L.map (fun q => (q.1, tr ad q.2))
theorem tr_cat (ad : Nat → Nat) (v : Value) : (tr ad v).category = v.category := by cases v <;> rfl
theorem trL_S1 (ad : Nat → Nat) (L : qLc) (i : Nat) (v : Value) : (i, tr ad v) :: (trL ad L).filter (fun q => !(q.1 == i) && !(q.1 + 1 == i && q.2.category == 2)) = trL ad (lcS1 L i v) := by
  simp only [trL, lcS1, List.map_cons, List.filter_map]
  congr 2
  congr 1
  funext q
  simp [Function.comp, tr_cat]
theorem trL_S2 (ad : Nat → Nat) (L : qLc) (i : Nat) (v : Value) : (i, tr ad v) :: (trL ad L).filter (fun q => !(q.1 == i) && (!(q.1 == i + 1) && !(q.1 + 1 == i && q.2.category == 2))) = trL ad (lcS2 L i v) := by
  simp only [trL, lcS2, List.map_cons, List.filter_map]
  congr 2
  congr 1
  funext q
  simp [Function.comp, tr_cat]
theorem lcG_mem {i : Nat} {v : Value} (hv : v ≠ .retAddr 0) : ∀ {L : qLc}, lcG i L = v → ∃ k : Nat, L[k]? = some (i, v) := by
  intro L
  induction L with
  | nil => intro h; exact absurd h.symm hv
  | cons q r ih =>
    intro h
    unfold lcG at h
    cases hq : (q.1 == i) with
    | true =>
      rw [hq] at h
      refine ⟨0, ?_⟩
      have h1 : q.1 = i := by simpa using hq
      have h2 : q.2 = v := h
      rw [← h1, ← h2]
      rfl
    | false =>
      rw [hq] at h
      obtain ⟨k, hk⟩ := ih h
      exact ⟨k + 1, by simpa using hk⟩
theorem lcG_at {ad : Nat → Nat} {ls : Array Slot} {n i : Nat} {L : qLc} {v : Value} (hl : lv_has ls n (trL ad L)) (h : lcG i L = v) (hv : v ≠ .retAddr 0) : ls[i]? = some (.val (tr ad v)) := by
  obtain ⟨k, hk⟩ := lcG_mem hv h
  refine lv_at hl k (i := i) (v := tr ad v) ?_
  unfold trL
  rw [List.getElem?_map, hk]
  rfl
theorem lcG_k {ad : Nat → Nat} {i : Nat} {L : qLc} {v : Value} (h : lcG i L = v) (hv : v ≠ .retAddr 0) : ∃ k : Nat, (trL ad L)[k]? = some (i, tr ad v) := by
  obtain ⟨k, hk⟩ := lcG_mem hv h
  refine ⟨k, ?_⟩
  unfold trL
  rw [List.getElem?_map, hk]
  rfl
theorem trA (ad : Nat → Nat) : ∀ (vs : List Value) (i : Nat), lv_args i (trS ad vs) = trL ad (lv_args i vs) := by
  intro vs
  induction vs with
  | nil => intro i; rfl
  | cons v r ih =>
    intro i
    show (i, tr ad v) :: lv_args (if (tr ad v).category = 2 then i + 2 else i + 1) (trS ad r) = (i, tr ad v) :: trL ad (lv_args (if v.category = 2 then i + 2 else i + 1) r)
    rw [tr_cat, ih]
theorem csum_tr (ad : Nat → Nat) (st : List Value) : csum (trS ad st) = csum st := by
  unfold csum trS
  rw [List.map_map]
  congr 1
  exact List.map_congr_left (fun v _ => tr_cat ad v)
theorem lg_slN (vs : List Value) : (lg_sl vs).length = csum vs := by
  induction vs with
  | nil => rfl
  | cons v r ih =>
    have e : lg_sl (v :: r) = (if v.category = 2 then [.val v, .second] else [.val v]) ++ lg_sl r := rfl
    rw [e, List.length_append, ih]
    have e2 : csum (v :: r) = v.category + csum r := by simp [csum]
    rw [e2]
    rcases lv_cat v with h | h <;> rw [h] <;> rfl
theorem trS_rev (ad : Nat → Nat) (st : List Value) : trS ad st.reverse = (trS ad st).reverse := by simp [trS]
theorem trS_app (ad : Nat → Nat) (a b : List Value) : trS ad (a ++ b) = trS ad a ++ trS ad b := by simp [trS]
/-- words that every callee may have -/
def qT : List Cond := lw_tbl.filter goodWord
theorem tbw_T {i : Nat} {w : Cond} (h : tbw i w = true) (hg : goodWord w = true) : w ∈ qT := by
  have h1 : lw_tbl[i]? = some w := by simpa [tbw] using h
  exact List.mem_filter.mpr ⟨List.mem_of_getElem? h1, hg⟩
theorem qT_good : ∀ w ∈ qT, w ∈ qT ∧ ((w.onTables && w.keeps) = true ∨ ∃ ty, w = .arrayClass ty) := fun w hw => ⟨hw, good_of_word (List.mem_filter.mp hw).2⟩
/-- memory as cells -/
def fv (ad : Nat → Nat) (M : qMem) (ci k j : Nat) : Value := match fk ci j with
  | 0 => .int (M.1 k j)
  | 1 => .long (M.2 k j)
  | _ => .ref (ad (rf k j))
def ent (ad : Nat → Nat) (aC : Nat → ClassId) (M : qMem) (k : Nat) : va_E := match shT k with
  | 100 => .inl (aC 0, shL k, .inl (M.1 k))
  | 101 => .inl (aC 1, shL k, .inr (.inl (M.2 k)))
  | 102 => .inl (aC 2, shL k, .inl (M.1 k))
  | 103 => .inl (aC 3, shL k, .inr (.inr (.inr (.inr (fun j => some (ad (rf k j)))))))
  | 104 => .inl (aC 4, shL k, .inr (.inr (.inr (.inr (fun j => some (ad (rf k j)))))))
  | ci => .inr (ci, (List.range (cN ci)).map (fv ad M ci k))
theorem ent_o {ad : Nat → Nat} {aC : Nat → ClassId} {M : qMem} {k ci : Nat} (h : shT k = ci) (hc : ci < 7) : ent ad aC M k = .inr (ci, (List.range (cN ci)).map (fv ad M ci k)) := by
  unfold ent
  rw [h]
  split <;> first | omega | rfl
theorem ent_100 {ad : Nat → Nat} {aC : Nat → ClassId} {M : qMem} {k : Nat} (h : shT k = 100) : ent ad aC M k = .inl (aC 0, shL k, .inl (M.1 k)) := by unfold ent; rw [h]; rfl
theorem ent_101 {ad : Nat → Nat} {aC : Nat → ClassId} {M : qMem} {k : Nat} (h : shT k = 101) : ent ad aC M k = .inl (aC 1, shL k, .inr (.inl (M.2 k))) := by unfold ent; rw [h]; rfl
theorem ent_102 {ad : Nat → Nat} {aC : Nat → ClassId} {M : qMem} {k : Nat} (h : shT k = 102) : ent ad aC M k = .inl (aC 2, shL k, .inl (M.1 k)) := by unfold ent; rw [h]; rfl
theorem ent_103 {ad : Nat → Nat} {aC : Nat → ClassId} {M : qMem} {k : Nat} (h : shT k = 103) : ent ad aC M k = .inl (aC 3, shL k, .inr (.inr (.inr (.inr (fun j => some (ad (rf k j))))))) := by unfold ent; rw [h]; rfl
theorem ent_104 {ad : Nat → Nat} {aC : Nat → ClassId} {M : qMem} {k : Nat} (h : shT k = 104) : ent ad aC M k = .inl (aC 4, shL k, .inr (.inr (.inr (.inr (fun j => some (ad (rf k j))))))) := by unfold ent; rw [h]; rfl
theorem sh_lt {k : Nat} (h : shT k ≤ 104) : k < 72 := by
  rcases Nat.lt_or_ge k 72 with q | q
  · exact q
  · have e : shTl.getD k (200, 0) = (200, 0) := by
      rw [List.getD_eq_getElem?_getD, List.getElem?_eq_none (by exact q)]
      rfl
    unfold shT at h
    rw [e] at h
    exact absurd h (by decide)
def wl (ad : Nat → Nat) (aC : Nat → ClassId) (M : qMem) : va_W := (List.range 72).map (fun k => (ad k, ent ad aC M k))
theorem wl_get {ad : Nat → Nat} {aC : Nat → ClassId} {M : qMem} {k : Nat} (h : k < 72) : (wl ad aC M)[k]? = some (ad k, ent ad aC M k) := by
  unfold wl
  rw [List.getElem?_map, List.getElem?_range h]
  rfl
theorem wl_set {ad : Nat → Nat} {aC : Nat → ClassId} {M M' : qMem} {k : Nat} {e : va_E} (hk : k < 72) (he : ent ad aC M' k = e) (ho : ∀ k', k' ≠ k → ent ad aC M' k' = ent ad aC M k') : (wl ad aC M).set k (ad k, e) = wl ad aC M' := by
  apply List.ext_getElem?
  intro j
  rw [List.getElem?_set]
  have hlen : (wl ad aC M).length = 72 := by simp [wl]
  have hlen' : (wl ad aC M').length = 72 := by simp [wl]
  by_cases hj : k = j
  · subst hj
    rw [if_pos rfl, if_pos (by omega), wl_get hk, he]
  · rw [if_neg hj]
    rcases Nat.lt_or_ge j 72 with q | q
    · rw [wl_get q, wl_get q, ho j (fun z => hj z.symm)]
    · rw [List.getElem?_eq_none (by omega), List.getElem?_eq_none (by omega)]
theorem ent_eq {ad : Nat → Nat} {aC : Nat → ClassId} {M M' : qMem} {k : Nat} (h1 : M'.1 k = M.1 k) (h2 : M'.2 k = M.2 k) : ent ad aC M' k = ent ad aC M k := by
  unfold ent fv
  simp only [h1, h2]
theorem pI_o {M : qMem} {k j : Nat} {x : Int32} {k' : Nat} (h : k' ≠ k) : (pI M k j x).1 k' = M.1 k' := by
  funext b
  show (if k' = k ∧ b = j then x else M.1 k' b) = _
  rw [if_neg (fun q => h q.1)]
theorem pJ_o {M : qMem} {k j : Nat} {x : Int64} {k' : Nat} (h : k' ≠ k) : (pJ M k j x).2 k' = M.2 k' := by
  funext b
  show (if k' = k ∧ b = j then x else M.2 k' b) = _
  rw [if_neg (fun q => h q.1)]
theorem ent_pI {ad : Nat → Nat} {aC : Nat → ClassId} {M : qMem} {k j : Nat} {x : Int32} {k' : Nat} (h : k' ≠ k) : ent ad aC (pI M k j x) k' = ent ad aC M k' := ent_eq (pI_o h) rfl
theorem ent_pJ {ad : Nat → Nat} {aC : Nat → ClassId} {M : qMem} {k j : Nat} {x : Int64} {k' : Nat} (h : k' ≠ k) : ent ad aC (pJ M k j x) k' = ent ad aC M k' := ent_eq rfl (pJ_o h)
theorem pI_s {M : qMem} {k j : Nat} {x : Int32} : (pI M k j x).1 k = upd (M.1 k) j x := by
  funext b
  show (if k = k ∧ b = j then x else M.1 k b) = if b = j then x else M.1 k b
  simp
theorem pJ_s {M : qMem} {k j : Nat} {x : Int64} : (pJ M k j x).2 k = vp_updL (M.2 k) j x := by
  funext b
  show (if k = k ∧ b = j then x else M.2 k b) = if b = j then x else M.2 k b
  simp
theorem q_setmap {α : Type} {f g : Nat → α} {n j : Nat} (h1 : ∀ i, i ≠ j → g i = f i) : ((List.range n).map f).set j (g j) = (List.range n).map g := by
  apply List.ext_getElem?
  intro i
  rw [List.getElem?_set]
  by_cases hj : j = i
  · subst hj
    rw [if_pos rfl]
    rcases Nat.lt_or_ge j n with q | q
    · rw [if_pos (by simpa using q), List.getElem?_map, List.getElem?_range q]
      rfl
    · rw [if_neg (by simpa using q), List.getElem?_eq_none (by simpa using q)]
  · rw [if_neg hj]
    rcases Nat.lt_or_ge i n with q | q
    · rw [List.getElem?_map, List.getElem?_map, List.getElem?_range q]
      show some (f i) = some (g i)
      rw [h1 i (fun z => hj z.symm)]
    · rw [List.getElem?_eq_none (by simpa using q), List.getElem?_eq_none (by simpa using q)]
theorem fv_pI {ad : Nat → Nat} {M : qMem} {ci k j : Nat} {x : Int32} (hf : fk ci j = 0) : ((List.range (cN ci)).map (fv ad M ci k)).set j (.int x) = (List.range (cN ci)).map (fv ad (pI M k j x) ci k) := by
  have e : Value.int x = fv ad (pI M k j x) ci k j := by
    unfold fv
    rw [hf]
    show Value.int x = Value.int (if k = k ∧ j = j then x else M.1 k j)
    simp
  rw [e]
  refine q_setmap (fun i hi => ?_)
  unfold fv
  have e2 : (pI M k j x).1 k i = M.1 k i := by
    show (if k = k ∧ i = j then x else M.1 k i) = _
    simp [hi]
  rw [e2]
  rfl
theorem fv_pJ {ad : Nat → Nat} {M : qMem} {ci k j : Nat} {x : Int64} (hf : fk ci j = 1) : ((List.range (cN ci)).map (fv ad M ci k)).set j (.long x) = (List.range (cN ci)).map (fv ad (pJ M k j x) ci k) := by
  have e : Value.long x = fv ad (pJ M k j x) ci k j := by
    unfold fv
    rw [hf]
    show Value.long x = Value.long (if k = k ∧ j = j then x else M.2 k j)
    simp
  rw [e]
  refine q_setmap (fun i hi => ?_)
  unfold fv
  have e2 : (pJ M k j x).2 k i = M.2 k i := by
    show (if k = k ∧ i = j then x else M.2 k i) = _
    simp [hi]
  rw [e2]
  rfl
/-- classes' facts -/
def cY (ci k : Nat) : FieldType := (parseFieldDescriptor (cT ci k).2.2.1).getD .int
theorem cls_c : ∀ ci, ci < 7 → vwCl[ci]? = some (cC ci, cT ci, cN ci) := by
  intro ci h
  rcases (show ci = 0 ∨ ci = 1 ∨ ci = 2 ∨ ci = 3 ∨ ci = 4 ∨ ci = 5 ∨ ci = 6 by omega) with rfl | rfl | rfl | rfl | rfl | rfl | rfl <;> rfl
set_option maxRecDepth 100000 in
theorem cls_t : ∀ ci, ci < 7 → ∀ k, k < cN ci → parseFieldDescriptor (cT ci k).2.2.1 = some (cY ci k) := by decide +kernel
set_option maxRecDepth 100000 in
theorem cls_n : ∀ ci, ci < 7 → ∀ a, a < cN ci → ∀ b, b < cN ci → a ≠ b → (cT ci a).2.1 ≠ (cT ci b).2.1 := by decide +kernel
set_option maxRecDepth 100000 in
theorem cls_w : ∀ ci, ci < 7 → ∀ w ∈ u_ws (cC ci) (cT ci) (cN ci), w ∈ qT := by decide +kernel
set_option maxRecDepth 100000 in
theorem met_o : ∀ y, y < 82 → mO y = (mN y).cls ∧ pcA y 0 = 0 ∧ plainFor (mN y) = true := by decide +kernel
section QG
variable {Ls : Nat} {xs : Nat → Int32} {P : qSem} {y i : Nat} {o : qOp} {L : qLc} {stk : List Value} {M : qMem} {Q : qPost}
theorem q_g1 (h : qStep Ls xs P y i o L stk M Q) (h1 : Nat.ble o.1 7 = true) : qSt1 P y i o L stk M Q := by
  unfold qStep at h
  rw [h1] at h
  exact h
theorem q_g2 (h : qStep Ls xs P y i o L stk M Q) (h1 : Nat.ble o.1 7 = false) (h2 : Nat.ble o.1 27 = true) : qSt2 P y i o L stk M Q := by
  unfold qStep at h
  rw [h1, h2] at h
  exact h
theorem q_g3 (h : qStep Ls xs P y i o L stk M Q) (h1 : Nat.ble o.1 7 = false) (h2 : Nat.ble o.1 27 = false) (h3 : Nat.ble o.1 33 = true) : qSt3 P y i o L stk M Q := by
  unfold qStep at h
  rw [h1, h2, h3] at h
  exact h
theorem q_g4 (h : qStep Ls xs P y i o L stk M Q) (h1 : Nat.ble o.1 7 = false) (h2 : Nat.ble o.1 27 = false) (h3 : Nat.ble o.1 33 = false) (h4 : Nat.ble o.1 39 = true) : qSt4 P y i o L stk M Q := by
  unfold qStep at h
  rw [h1, h2, h3, h4] at h
  exact h
theorem q_g5 (h : qStep Ls xs P y i o L stk M Q) (h1 : Nat.ble o.1 7 = false) (h2 : Nat.ble o.1 27 = false) (h3 : Nat.ble o.1 33 = false) (h4 : Nat.ble o.1 39 = false) (h5 : Nat.ble o.1 47 = true) : qSt5 P y i o L stk M Q := by
  unfold qStep at h
  rw [h1, h2, h3, h4, h5] at h
  exact h
theorem q_g6 (h : qStep Ls xs P y i o L stk M Q) (h1 : Nat.ble o.1 7 = false) (h2 : Nat.ble o.1 27 = false) (h3 : Nat.ble o.1 33 = false) (h4 : Nat.ble o.1 39 = false) (h5 : Nat.ble o.1 47 = false) (h6 : Nat.ble o.1 59 = true) : qSt6 Ls xs P y i o L stk M Q := by
  unfold qStep at h
  rw [h1, h2, h3, h4, h5, h6] at h
  exact h
theorem q_g7 (h : qStep Ls xs P y i o L stk M Q) (h1 : Nat.ble o.1 7 = false) (h2 : Nat.ble o.1 27 = false) (h3 : Nat.ble o.1 33 = false) (h4 : Nat.ble o.1 39 = false) (h5 : Nat.ble o.1 47 = false) (h6 : Nat.ble o.1 59 = false) : qSt7 P y i o L stk M Q := by
  unfold qStep at h
  rw [h1, h2, h3, h4, h5, h6] at h
  exact h
end QG
theorem q_fitZ {x : Int32} (h : narrow .boolean (.int x) = .int x) : fits .boolean (.int x) = true := by
  have e : x &&& 1 = x := by
    have h2 : Value.int (x &&& 1) = Value.int x := h
    exact Value.int.inj h2
  show (x == 0 || x == 1) = true
  rw [← e]
  obtain ⟨j, hj, hx⟩ := pk_andE x (m := 1) 1 (by decide)
  rw [hx]
  rcases (show j = 0 ∨ j = 1 by omega) with rfl | rfl <;> rfl
end
section
/-! the code words, by their places -/
set_option maxRecDepth 100000 in
theorem cw_0 : lw_tbl[454]? = some (Cond.code (mN 0) (mB 0) (mL 0) (mR 0)) := rfl
set_option maxRecDepth 100000 in
theorem cw_1 : lw_tbl[447]? = some (Cond.code (mN 1) (mB 1) (mL 1) (mR 1)) := rfl
set_option maxRecDepth 100000 in
theorem cw_2 : lw_tbl[492]? = some (Cond.code (mN 2) (mB 2) (mL 2) (mR 2)) := rfl
set_option maxRecDepth 100000 in
theorem cw_3 : lw_tbl[476]? = some (Cond.code (mN 3) (mB 3) (mL 3) (mR 3)) := rfl
set_option maxRecDepth 100000 in
theorem cw_4 : lw_tbl[464]? = some (Cond.code (mN 4) (mB 4) (mL 4) (mR 4)) := rfl
set_option maxRecDepth 100000 in
theorem cw_5 : lw_tbl[450]? = some (Cond.code (mN 5) (mB 5) (mL 5) (mR 5)) := rfl
set_option maxRecDepth 100000 in
theorem cw_6 : lw_tbl[255]? = some (Cond.code (mN 6) (mB 6) (mL 6) (mR 6)) := rfl
set_option maxRecDepth 100000 in
theorem cw_7 : lw_tbl[272]? = some (Cond.code (mN 7) (mB 7) (mL 7) (mR 7)) := rfl
set_option maxRecDepth 100000 in
theorem cw_8 : lw_tbl[324]? = some (Cond.code (mN 8) (mB 8) (mL 8) (mR 8)) := rfl
set_option maxRecDepth 100000 in
theorem cw_9 : lw_tbl[276]? = some (Cond.code (mN 9) (mB 9) (mL 9) (mR 9)) := rfl
set_option maxRecDepth 100000 in
theorem cw_10 : lw_tbl[179]? = some (Cond.code (mN 10) (mB 10) (mL 10) (mR 10)) := rfl
set_option maxRecDepth 100000 in
theorem cw_11 : lw_tbl[235]? = some (Cond.code (mN 11) (mB 11) (mL 11) (mR 11)) := rfl
set_option maxRecDepth 100000 in
theorem cw_12 : lw_tbl[187]? = some (Cond.code (mN 12) (mB 12) (mL 12) (mR 12)) := rfl
set_option maxRecDepth 100000 in
theorem cw_13 : lw_tbl[191]? = some (Cond.code (mN 13) (mB 13) (mL 13) (mR 13)) := rfl
set_option maxRecDepth 100000 in
theorem cw_14 : lw_tbl[310]? = some (Cond.code (mN 14) (mB 14) (mL 14) (mR 14)) := rfl
set_option maxRecDepth 100000 in
theorem cw_15 : lw_tbl[289]? = some (Cond.code (mN 15) (mB 15) (mL 15) (mR 15)) := rfl
set_option maxRecDepth 100000 in
theorem cw_16 : lw_tbl[299]? = some (Cond.code (mN 16) (mB 16) (mL 16) (mR 16)) := rfl
set_option maxRecDepth 100000 in
theorem cw_17 : lw_tbl[284]? = some (Cond.code (mN 17) (mB 17) (mL 17) (mR 17)) := rfl
set_option maxRecDepth 100000 in
theorem cw_18 : lw_tbl[280]? = some (Cond.code (mN 18) (mB 18) (mL 18) (mR 18)) := rfl
set_option maxRecDepth 100000 in
theorem cw_19 : lw_tbl[183]? = some (Cond.code (mN 19) (mB 19) (mL 19) (mR 19)) := rfl
set_option maxRecDepth 100000 in
theorem cw_20 : lw_tbl[196]? = some (Cond.code (mN 20) (mB 20) (mL 20) (mR 20)) := rfl
set_option maxRecDepth 100000 in
theorem cw_21 : lw_tbl[200]? = some (Cond.code (mN 21) (mB 21) (mL 21) (mR 21)) := rfl
set_option maxRecDepth 100000 in
theorem cw_22 : lw_tbl[207]? = some (Cond.code (mN 22) (mB 22) (mL 22) (mR 22)) := rfl
set_option maxRecDepth 100000 in
theorem cw_23 : lw_tbl[215]? = some (Cond.code (mN 23) (mB 23) (mL 23) (mR 23)) := rfl
set_option maxRecDepth 100000 in
theorem cw_24 : lw_tbl[211]? = some (Cond.code (mN 24) (mB 24) (mL 24) (mR 24)) := rfl
set_option maxRecDepth 100000 in
theorem cw_25 : lw_tbl[219]? = some (Cond.code (mN 25) (mB 25) (mL 25) (mR 25)) := rfl
set_option maxRecDepth 100000 in
theorem cw_26 : lw_tbl[333]? = some (Cond.code (mN 26) (mB 26) (mL 26) (mR 26)) := rfl
set_option maxRecDepth 100000 in
theorem cw_27 : lw_tbl[374]? = some (Cond.code (mN 27) (mB 27) (mL 27) (mR 27)) := rfl
set_option maxRecDepth 100000 in
theorem cw_28 : lw_tbl[227]? = some (Cond.code (mN 28) (mB 28) (mL 28) (mR 28)) := rfl
set_option maxRecDepth 100000 in
theorem cw_29 : lw_tbl[231]? = some (Cond.code (mN 29) (mB 29) (mL 29) (mR 29)) := rfl
set_option maxRecDepth 100000 in
theorem cw_30 : lw_tbl[239]? = some (Cond.code (mN 30) (mB 30) (mL 30) (mR 30)) := rfl
set_option maxRecDepth 100000 in
theorem cw_31 : lw_tbl[243]? = some (Cond.code (mN 31) (mB 31) (mL 31) (mR 31)) := rfl
set_option maxRecDepth 100000 in
theorem cw_32 : lw_tbl[247]? = some (Cond.code (mN 32) (mB 32) (mL 32) (mR 32)) := rfl
set_option maxRecDepth 100000 in
theorem cw_33 : lw_tbl[251]? = some (Cond.code (mN 33) (mB 33) (mL 33) (mR 33)) := rfl
set_option maxRecDepth 100000 in
theorem cw_34 : lw_tbl[262]? = some (Cond.code (mN 34) (mB 34) (mL 34) (mR 34)) := rfl
set_option maxRecDepth 100000 in
theorem cw_35 : lw_tbl[294]? = some (Cond.code (mN 35) (mB 35) (mL 35) (mR 35)) := rfl
set_option maxRecDepth 100000 in
theorem cw_36 : lw_tbl[304]? = some (Cond.code (mN 36) (mB 36) (mL 36) (mR 36)) := rfl
set_option maxRecDepth 100000 in
theorem cw_37 : lw_tbl[314]? = some (Cond.code (mN 37) (mB 37) (mL 37) (mR 37)) := rfl
set_option maxRecDepth 100000 in
theorem cw_38 : lw_tbl[328]? = some (Cond.code (mN 38) (mB 38) (mL 38) (mR 38)) := rfl
set_option maxRecDepth 100000 in
theorem cw_39 : lw_tbl[349]? = some (Cond.code (mN 39) (mB 39) (mL 39) (mR 39)) := rfl
set_option maxRecDepth 100000 in
theorem cw_40 : lw_tbl[353]? = some (Cond.code (mN 40) (mB 40) (mL 40) (mR 40)) := rfl
set_option maxRecDepth 100000 in
theorem cw_41 : lw_tbl[365]? = some (Cond.code (mN 41) (mB 41) (mL 41) (mR 41)) := rfl
set_option maxRecDepth 100000 in
theorem cw_42 : lw_tbl[378]? = some (Cond.code (mN 42) (mB 42) (mL 42) (mR 42)) := rfl
set_option maxRecDepth 100000 in
theorem cw_43 : lw_tbl[387]? = some (Cond.code (mN 43) (mB 43) (mL 43) (mR 43)) := rfl
set_option maxRecDepth 100000 in
theorem cw_44 : lw_tbl[319]? = some (Cond.code (mN 44) (mB 44) (mL 44) (mR 44)) := rfl
set_option maxRecDepth 100000 in
theorem cw_45 : lw_tbl[175]? = some (Cond.code (mN 45) (mB 45) (mL 45) (mR 45)) := rfl
set_option maxRecDepth 100000 in
theorem cw_46 : lw_tbl[416]? = some (Cond.code (mN 46) (mB 46) (mL 46) (mR 46)) := rfl
set_option maxRecDepth 100000 in
theorem cw_47 : lw_tbl[406]? = some (Cond.code (mN 47) (mB 47) (mL 47) (mR 47)) := rfl
set_option maxRecDepth 100000 in
theorem cw_48 : lw_tbl[420]? = some (Cond.code (mN 48) (mB 48) (mL 48) (mR 48)) := rfl
set_option maxRecDepth 100000 in
theorem cw_49 : lw_tbl[427]? = some (Cond.code (mN 49) (mB 49) (mL 49) (mR 49)) := rfl
set_option maxRecDepth 100000 in
theorem cw_50 : lw_tbl[459]? = some (Cond.code (mN 50) (mB 50) (mL 50) (mR 50)) := rfl
set_option maxRecDepth 100000 in
theorem cw_51 : lw_tbl[472]? = some (Cond.code (mN 51) (mB 51) (mL 51) (mR 51)) := rfl
set_option maxRecDepth 100000 in
theorem cw_52 : lw_tbl[488]? = some (Cond.code (mN 52) (mB 52) (mL 52) (mR 52)) := rfl
set_option maxRecDepth 100000 in
theorem cw_53 : lw_tbl[391]? = some (Cond.code (mN 53) (mB 53) (mL 53) (mR 53)) := rfl
set_option maxRecDepth 100000 in
theorem cw_54 : lw_tbl[399]? = some (Cond.code (mN 54) (mB 54) (mL 54) (mR 54)) := rfl
set_option maxRecDepth 100000 in
theorem cw_55 : lw_tbl[265]? = some (Cond.code (mN 55) (mB 55) (mL 55) (mR 55)) := rfl
set_option maxRecDepth 100000 in
theorem cw_56 : lw_tbl[368]? = some (Cond.code (mN 56) (mB 56) (mL 56) (mR 56)) := rfl
set_option maxRecDepth 100000 in
theorem cw_57 : lw_tbl[409]? = some (Cond.code (mN 57) (mB 57) (mL 57) (mR 57)) := rfl
set_option maxRecDepth 100000 in
theorem cw_58 : lw_tbl[412]? = some (Cond.code (mN 58) (mB 58) (mL 58) (mR 58)) := rfl
set_option maxRecDepth 100000 in
theorem cw_59 : lw_tbl[430]? = some (Cond.code (mN 59) (mB 59) (mL 59) (mR 59)) := rfl
set_option maxRecDepth 100000 in
theorem cw_60 : lw_tbl[395]? = some (Cond.code (mN 60) (mB 60) (mL 60) (mR 60)) := rfl
set_option maxRecDepth 100000 in
theorem cw_61 : lw_tbl[340]? = some (Cond.code (mN 61) (mB 61) (mL 61) (mR 61)) := rfl
set_option maxRecDepth 100000 in
theorem cw_62 : lw_tbl[344]? = some (Cond.code (mN 62) (mB 62) (mL 62) (mR 62)) := rfl
set_option maxRecDepth 100000 in
theorem cw_63 : lw_tbl[357]? = some (Cond.code (mN 63) (mB 63) (mL 63) (mR 63)) := rfl
set_option maxRecDepth 100000 in
theorem cw_64 : lw_tbl[383]? = some (Cond.code (mN 64) (mB 64) (mL 64) (mR 64)) := rfl
set_option maxRecDepth 100000 in
theorem cw_65 : lw_tbl[223]? = some (Cond.code (mN 65) (mB 65) (mL 65) (mR 65)) := rfl
set_option maxRecDepth 100000 in
theorem cw_66 : lw_tbl[435]? = some (Cond.code (mN 66) (mB 66) (mL 66) (mR 66)) := rfl
set_option maxRecDepth 100000 in
theorem cw_67 : lw_tbl[438]? = some (Cond.code (mN 67) (mB 67) (mL 67) (mR 67)) := rfl
set_option maxRecDepth 100000 in
theorem cw_68 : lw_tbl[442]? = some (Cond.code (mN 68) (mB 68) (mL 68) (mR 68)) := rfl
set_option maxRecDepth 100000 in
theorem cw_69 : lw_tbl[468]? = some (Cond.code (mN 69) (mB 69) (mL 69) (mR 69)) := rfl
set_option maxRecDepth 100000 in
theorem cw_70 : lw_tbl[479]? = some (Cond.code (mN 70) (mB 70) (mL 70) (mR 70)) := rfl
set_option maxRecDepth 100000 in
theorem cw_71 : lw_tbl[336]? = some (Cond.code (mN 71) (mB 71) (mL 71) (mR 71)) := rfl
set_option maxRecDepth 100000 in
theorem cw_72 : lw_tbl[203]? = some (Cond.code (mN 72) (mB 72) (mL 72) (mR 72)) := rfl
set_option maxRecDepth 100000 in
theorem cw_73 : lw_tbl[163]? = some (Cond.code (mN 73) (mB 73) (mL 73) (mR 73)) := rfl
set_option maxRecDepth 100000 in
theorem cw_74 : lw_tbl[167]? = some (Cond.code (mN 74) (mB 74) (mL 74) (mR 74)) := rfl
set_option maxRecDepth 100000 in
theorem cw_75 : lw_tbl[171]? = some (Cond.code (mN 75) (mB 75) (mL 75) (mR 75)) := rfl
set_option maxRecDepth 100000 in
theorem cw_76 : lw_tbl[402]? = some (Cond.code (mN 76) (mB 76) (mL 76) (mR 76)) := rfl
set_option maxRecDepth 100000 in
theorem cw_77 : lw_tbl[423]? = some (Cond.code (mN 77) (mB 77) (mL 77) (mR 77)) := rfl
set_option maxRecDepth 100000 in
theorem cw_78 : lw_tbl[484]? = some (Cond.code (mN 78) (mB 78) (mL 78) (mR 78)) := rfl
set_option maxRecDepth 100000 in
theorem cw_79 : lw_tbl[495]? = some (Cond.code (mN 79) (mB 79) (mL 79) (mR 79)) := rfl
set_option maxRecDepth 100000 in
theorem cw_80 : lw_tbl[499]? = some (Cond.code (mN 80) (mB 80) (mL 80) (mR 80)) := rfl
theorem cw_all : ∀ y, y < 81 → Cond.code (mN y) (mB y) (mL y) (mR y) ∈ lw_tbl := by
  intro y h
  match y, h with
  | 0, _ => exact List.mem_of_getElem? cw_0
  | 1, _ => exact List.mem_of_getElem? cw_1
  | 2, _ => exact List.mem_of_getElem? cw_2
  | 3, _ => exact List.mem_of_getElem? cw_3
  | 4, _ => exact List.mem_of_getElem? cw_4
  | 5, _ => exact List.mem_of_getElem? cw_5
  | 6, _ => exact List.mem_of_getElem? cw_6
  | 7, _ => exact List.mem_of_getElem? cw_7
  | 8, _ => exact List.mem_of_getElem? cw_8
  | 9, _ => exact List.mem_of_getElem? cw_9
  | 10, _ => exact List.mem_of_getElem? cw_10
  | 11, _ => exact List.mem_of_getElem? cw_11
  | 12, _ => exact List.mem_of_getElem? cw_12
  | 13, _ => exact List.mem_of_getElem? cw_13
  | 14, _ => exact List.mem_of_getElem? cw_14
  | 15, _ => exact List.mem_of_getElem? cw_15
  | 16, _ => exact List.mem_of_getElem? cw_16
  | 17, _ => exact List.mem_of_getElem? cw_17
  | 18, _ => exact List.mem_of_getElem? cw_18
  | 19, _ => exact List.mem_of_getElem? cw_19
  | 20, _ => exact List.mem_of_getElem? cw_20
  | 21, _ => exact List.mem_of_getElem? cw_21
  | 22, _ => exact List.mem_of_getElem? cw_22
  | 23, _ => exact List.mem_of_getElem? cw_23
  | 24, _ => exact List.mem_of_getElem? cw_24
  | 25, _ => exact List.mem_of_getElem? cw_25
  | 26, _ => exact List.mem_of_getElem? cw_26
  | 27, _ => exact List.mem_of_getElem? cw_27
  | 28, _ => exact List.mem_of_getElem? cw_28
  | 29, _ => exact List.mem_of_getElem? cw_29
  | 30, _ => exact List.mem_of_getElem? cw_30
  | 31, _ => exact List.mem_of_getElem? cw_31
  | 32, _ => exact List.mem_of_getElem? cw_32
  | 33, _ => exact List.mem_of_getElem? cw_33
  | 34, _ => exact List.mem_of_getElem? cw_34
  | 35, _ => exact List.mem_of_getElem? cw_35
  | 36, _ => exact List.mem_of_getElem? cw_36
  | 37, _ => exact List.mem_of_getElem? cw_37
  | 38, _ => exact List.mem_of_getElem? cw_38
  | 39, _ => exact List.mem_of_getElem? cw_39
  | 40, _ => exact List.mem_of_getElem? cw_40
  | 41, _ => exact List.mem_of_getElem? cw_41
  | 42, _ => exact List.mem_of_getElem? cw_42
  | 43, _ => exact List.mem_of_getElem? cw_43
  | 44, _ => exact List.mem_of_getElem? cw_44
  | 45, _ => exact List.mem_of_getElem? cw_45
  | 46, _ => exact List.mem_of_getElem? cw_46
  | 47, _ => exact List.mem_of_getElem? cw_47
  | 48, _ => exact List.mem_of_getElem? cw_48
  | 49, _ => exact List.mem_of_getElem? cw_49
  | 50, _ => exact List.mem_of_getElem? cw_50
  | 51, _ => exact List.mem_of_getElem? cw_51
  | 52, _ => exact List.mem_of_getElem? cw_52
  | 53, _ => exact List.mem_of_getElem? cw_53
  | 54, _ => exact List.mem_of_getElem? cw_54
  | 55, _ => exact List.mem_of_getElem? cw_55
  | 56, _ => exact List.mem_of_getElem? cw_56
  | 57, _ => exact List.mem_of_getElem? cw_57
  | 58, _ => exact List.mem_of_getElem? cw_58
  | 59, _ => exact List.mem_of_getElem? cw_59
  | 60, _ => exact List.mem_of_getElem? cw_60
  | 61, _ => exact List.mem_of_getElem? cw_61
  | 62, _ => exact List.mem_of_getElem? cw_62
  | 63, _ => exact List.mem_of_getElem? cw_63
  | 64, _ => exact List.mem_of_getElem? cw_64
  | 65, _ => exact List.mem_of_getElem? cw_65
  | 66, _ => exact List.mem_of_getElem? cw_66
  | 67, _ => exact List.mem_of_getElem? cw_67
  | 68, _ => exact List.mem_of_getElem? cw_68
  | 69, _ => exact List.mem_of_getElem? cw_69
  | 70, _ => exact List.mem_of_getElem? cw_70
  | 71, _ => exact List.mem_of_getElem? cw_71
  | 72, _ => exact List.mem_of_getElem? cw_72
  | 73, _ => exact List.mem_of_getElem? cw_73
  | 74, _ => exact List.mem_of_getElem? cw_74
  | 75, _ => exact List.mem_of_getElem? cw_75
  | 76, _ => exact List.mem_of_getElem? cw_76
  | 77, _ => exact List.mem_of_getElem? cw_77
  | 78, _ => exact List.mem_of_getElem? cw_78
  | 79, _ => exact List.mem_of_getElem? cw_79
  | 80, _ => exact List.mem_of_getElem? cw_80
  | n + 81, h => exact absurd h (by omega)
end
section
/-! the abstract machine stands for the machine: the judgement, and its rows -/
def qA (ad : Nat → Nat) : Nat → Prop := fun q => ∃ k, k < 72 ∧ q = ad k
def qTy (aC : Nat → ClassId) : List (ClassId × FieldType) := [(aC 0, .int), (aC 1, .long), (aC 2, .int), (aC 3, .object RX4), (aC 4, .object RX2)]
def qSt (dC : Nat → ClassId) (dI : Nat → Nat → Nat) (aC : Nat → ClassId) (b Ls : Nat) (xs : Nat → Int32) (U : State) : Prop :=
  va_K (dC, dI) vwCl (qTy aC) U ∧ va_X b Ls xs U U.heap ∧ b < U.heap.size ∧ ∀ t ∈ qNst, va_Nw (qNw t) U
def qCx (dC : Nat → ClassId) (dI : Nat → Nat → Nat) (aC : Nat → ClassId) (b Ls : Nat) (xs : Nat → Int32) (y : Nat) (p : Program) (R : Room) (s : State) (m : MethodId) (args : Array Value) (c : Code) (cells slots : Nat) : Prop :=
  p.tables.exec = Jvm.exec ∧ c.code = mB y ∧ c.maxLocals = mL y ∧ s.vm.findClass (mO y) = some m.cls ∧ (∀ w ∈ qT, w.before args s = true) ∧ mF y ≤ R.frames ∧ mW y ≤ R.locals ∧ cells ≤ R.cells ∧ slots ≤ R.slots ∧ qSt dC dI aC b Ls xs s
def qAd (ad : Nat → Nat) (b : Nat) : Prop := (∀ i j, i < 72 → j < 72 → ad i = ad j → i = j) ∧ (∀ k, k < 72 → ad k ≠ b) ∧ ad 1000 = b
def qRet (y : Nat) (pc : Nat) (v : Option Value) : Prop := match v with
  | none => decode (mB y) pc = .ok (.return_, 1) ∧ mR y = none
  | some (.int x) => decode (mB y) pc = .ok (.ireturn, 1) ∧ ∃ ty, mR y = some ty ∧ narrow ty (.int x) = .int x
  | some (.long _) => decode (mB y) pc = .ok (.lreturn, 1) ∧ mR y = some .long
  | some (.ref _) => decode (mB y) pc = .ok (.areturn, 1) ∧ ∃ n, mR y = some (.object n)
  | some .null => decode (mB y) pc = .ok (.areturn, 1) ∧ ∃ n, mR y = some (.object n)
  | _ => False
def PM (l : Launch) (ad : Nat → Nat) (dC : Nat → ClassId) (dI : Nat → Nat → Nat) (aC : Nat → ClassId) (b Ls : Nat) (xs : Nat → Int32) : qSem := fun y i L stk M Q =>
  ∀ (p : Program) (e : Env) (R : Room) (s : State) (m : MethodId) (args : Array Value) (below : List Frame) (meth : Method) (c : Code) (H : Heap) (locs : List Loc) (cells slots : Nat) (ls : Array Slot) (G : State → Prop),
    qCx dC dI aC b Ls xs y p R s m args c cells slots → va_P (dC, dI) vwCl (wl ad aC M) H → va_S (qA ad) s.heap H locs → lv_has ls (mL y) (trL ad L) →
    (∀ (v : Option Value) (M' : qMem) (H' : Heap) (locs' : List Loc) (ls' : Array Slot) (pc' : Nat), qRet y pc' v → Q v M' → va_P (dC, dI) vwCl (wl ad aC M') H' → va_S (qA ad) s.heap H' locs' → W p l e R s m args below meth c H' locs' cells slots G (F0 m pc' ls' (trS ad v.toList))) →
    W p l e R s m args below meth c H locs cells slots G (F0 m (pcA y i) ls (trS ad stk))
theorem wl_D {ad : Nat → Nat} {b : Nat} (hA : qAd ad b) (aC : Nat → ClassId) (M : qMem) : va_D (qA ad) (wl ad aC M) := by
  have g : ∀ (k : Nat) (q : Nat × va_E), (wl ad aC M)[k]? = some q → k < 72 ∧ q.1 = ad k := by
    intro k q h
    have hlen : (wl ad aC M).length = 72 := by simp [wl]
    have hk : k < 72 := by
      have := (List.getElem?_eq_some_iff.mp h).1
      omega
    rw [wl_get hk] at h
    cases h
    exact ⟨hk, rfl⟩
  refine ⟨fun i j p q hp hq e => ?_, fun k q h => ⟨k, g k q h⟩⟩
  obtain ⟨h1, h2⟩ := g i p hp
  obtain ⟨h3, h4⟩ := g j q hq
  exact hA.1 i j h1 h3 (by rw [← h2, ← h4, e])
section QS
variable {l : Launch} {ad : Nat → Nat} {dC : Nat → ClassId} {dI : Nat → Nat → Nat} {aC : Nat → ClassId} {b Ls : Nat} {xs : Nat → Int32}
variable {y i len : Nat} {o : qOp} {L : qLc} {stk : List Value} {M : qMem} {Q : qPost}
theorem sd_iconst {n : Int} (hdg : decode (mB y) (pcA y i) = .ok (.iconst n, len)) (ho : chkO y i (pcA y i) (.iconst n) len o = true) (h : qStep Ls xs (PM l ad dC dI aC b Ls xs) y i o L stk M Q) : PM l ad dC dI aC b Ls xs y i L stk M Q := by
  obtain ⟨c0, a0, b0, d0, v0, l0⟩ := o
  simp only [chkO, Bool.and_eq_true] at ho
  obtain ⟨⟨⟨g1, g2⟩, g3⟩, g4⟩ := ho
  have z0 := q_bq g1
  try dsimp only at z0
  subst z0
  have z3 : v0 = .int (Int32.ofInt n) := of_decide_eq_true g2
  subst z3
  have z1 := q_bq g3
  subst z1
  have z2 := q_bq g4
  replace h : qx_0 (PM l ad dC dI aC b Ls xs) y i _ L stk M Q := q_g1 h rfl
  dsimp only [qx_0] at h
  intro p e R s m args below meth c H locs cells slots ls G C hP hS hl hr
  obtain ⟨hx, hb, hml, hown, hts, -⟩ := id C
  refine lv_iconst hx hb hdg rfl ?_
  rw [← z2]
  exact h p e R s m args below meth c H locs cells slots ls G C hP hS hl hr
theorem sd_bipush {n : Int} (hdg : decode (mB y) (pcA y i) = .ok (.bipush n, len)) (ho : chkO y i (pcA y i) (.bipush n) len o = true) (h : qStep Ls xs (PM l ad dC dI aC b Ls xs) y i o L stk M Q) : PM l ad dC dI aC b Ls xs y i L stk M Q := by
  obtain ⟨c0, a0, b0, d0, v0, l0⟩ := o
  simp only [chkO, Bool.and_eq_true] at ho
  obtain ⟨⟨⟨g1, g2⟩, g3⟩, g4⟩ := ho
  have z0 := q_bq g1
  try dsimp only at z0
  subst z0
  have z3 : v0 = .int (Int8.ofInt n).toInt32 := of_decide_eq_true g2
  subst z3
  have z1 := q_bq g3
  subst z1
  have z2 := q_bq g4
  replace h : qx_0 (PM l ad dC dI aC b Ls xs) y i _ L stk M Q := q_g1 h rfl
  dsimp only [qx_0] at h
  intro p e R s m args below meth c H locs cells slots ls G C hP hS hl hr
  obtain ⟨hx, hb, hml, hown, hts, -⟩ := id C
  refine lv_bipush hx hb hdg rfl ?_
  rw [← z2]
  exact h p e R s m args below meth c H locs cells slots ls G C hP hS hl hr
theorem sd_sipush {n : Int} (hdg : decode (mB y) (pcA y i) = .ok (.sipush n, len)) (ho : chkO y i (pcA y i) (.sipush n) len o = true) (h : qStep Ls xs (PM l ad dC dI aC b Ls xs) y i o L stk M Q) : PM l ad dC dI aC b Ls xs y i L stk M Q := by
  obtain ⟨c0, a0, b0, d0, v0, l0⟩ := o
  simp only [chkO, Bool.and_eq_true] at ho
  obtain ⟨⟨⟨g1, g2⟩, g3⟩, g4⟩ := ho
  have z0 := q_bq g1
  try dsimp only at z0
  subst z0
  have z3 : v0 = .int (Int16.ofInt n).toInt32 := of_decide_eq_true g2
  subst z3
  have z1 := q_bq g3
  subst z1
  have z2 := q_bq g4
  replace h : qx_0 (PM l ad dC dI aC b Ls xs) y i _ L stk M Q := q_g1 h rfl
  dsimp only [qx_0] at h
  intro p e R s m args below meth c H locs cells slots ls G C hP hS hl hr
  obtain ⟨hx, hb, hml, hown, hts, -⟩ := id C
  refine lv_sipush hx hb hdg rfl ?_
  rw [← z2]
  exact h p e R s m args below meth c H locs cells slots ls G C hP hS hl hr
theorem sd_lconst {n : Fin 2} (hdg : decode (mB y) (pcA y i) = .ok (.lconst n, len)) (ho : chkO y i (pcA y i) (.lconst n) len o = true) (h : qStep Ls xs (PM l ad dC dI aC b Ls xs) y i o L stk M Q) : PM l ad dC dI aC b Ls xs y i L stk M Q := by
  obtain ⟨c0, a0, b0, d0, v0, l0⟩ := o
  simp only [chkO, Bool.and_eq_true] at ho
  obtain ⟨⟨⟨g1, g2⟩, g3⟩, g4⟩ := ho
  have z0 := q_bq g1
  try dsimp only at z0
  subst z0
  have z3 : v0 = .long (Int64.ofNat n.val) := of_decide_eq_true g2
  subst z3
  have z1 := q_bq g3
  subst z1
  have z2 := q_bq g4
  replace h : qx_0 (PM l ad dC dI aC b Ls xs) y i _ L stk M Q := q_g1 h rfl
  dsimp only [qx_0] at h
  intro p e R s m args below meth c H locs cells slots ls G C hP hS hl hr
  obtain ⟨hx, hb, hml, hown, hts, -⟩ := id C
  refine lv_lconst hx hb hdg rfl ?_
  rw [← z2]
  exact h p e R s m args below meth c H locs cells slots ls G C hP hS hl hr
theorem sd_null (hdg : decode (mB y) (pcA y i) = .ok (.aconst_null, len)) (ho : chkO y i (pcA y i) (.aconst_null) len o = true) (h : qStep Ls xs (PM l ad dC dI aC b Ls xs) y i o L stk M Q) : PM l ad dC dI aC b Ls xs y i L stk M Q := by
  obtain ⟨c0, a0, b0, d0, v0, l0⟩ := o
  simp only [chkO, Bool.and_eq_true] at ho
  obtain ⟨⟨⟨g1, g2⟩, g3⟩, g4⟩ := ho
  have z0 := q_bq g1
  try dsimp only at z0
  subst z0
  have z3 : v0 = .null := of_decide_eq_true g2
  subst z3
  have z1 := q_bq g3
  subst z1
  have z2 := q_bq g4
  replace h : qx_0 (PM l ad dC dI aC b Ls xs) y i _ L stk M Q := q_g1 h rfl
  dsimp only [qx_0] at h
  intro p e R s m args below meth c H locs cells slots ls G C hP hS hl hr
  obtain ⟨hx, hb, hml, hown, hts, -⟩ := id C
  refine lv_null hx hb hdg ?_
  rw [← z2]
  exact h p e R s m args below meth c H locs cells slots ls G C hP hS hl hr
theorem sd_ldc {idx : Nat} (hdg : decode (mB y) (pcA y i) = .ok (.ldc idx, len)) (ho : chkO y i (pcA y i) (.ldc idx) len o = true) (h : qStep Ls xs (PM l ad dC dI aC b Ls xs) y i o L stk M Q) : PM l ad dC dI aC b Ls xs y i L stk M Q := by
  obtain ⟨c0, a0, b0, d0, v0, l0⟩ := o
  cases v0 with
  | int x =>
    simp only [chkO, Bool.and_eq_true] at ho
    obtain ⟨⟨⟨g1, g2⟩, g3⟩, g4⟩ := ho
    have z0 := q_bq g1
    try dsimp only at z0
    subst z0
    have z1 := q_bq g3
    subst z1
    have z2 := q_bq g4
    replace h : qx_0 (PM l ad dC dI aC b Ls xs) y i _ L stk M Q := q_g1 h rfl
    dsimp only [qx_0] at h
    intro p e R s m args below meth c H locs cells slots ls G C hP hS hl hr
    obtain ⟨hx, hb, hml, hown, hts, -⟩ := id C
    refine lv_ldc hx hb hown (hts _ (tbw_T g2 rfl)) hdg ?_
    rw [← z2]
    exact h p e R s m args below meth c H locs cells slots ls G C hP hS hl hr
  | _ => simp [chkO] at ho
theorem sd_ldc2 {idx : Nat} (hdg : decode (mB y) (pcA y i) = .ok (.ldc2_w idx, len)) (ho : chkO y i (pcA y i) (.ldc2_w idx) len o = true) (h : qStep Ls xs (PM l ad dC dI aC b Ls xs) y i o L stk M Q) : PM l ad dC dI aC b Ls xs y i L stk M Q := by
  obtain ⟨c0, a0, b0, d0, v0, l0⟩ := o
  cases v0 with
  | long x =>
    simp only [chkO, Bool.and_eq_true] at ho
    obtain ⟨⟨⟨g1, g2⟩, g3⟩, g4⟩ := ho
    have z0 := q_bq g1
    try dsimp only at z0
    subst z0
    have z1 := q_bq g3
    subst z1
    have z2 := q_bq g4
    replace h : qx_0 (PM l ad dC dI aC b Ls xs) y i _ L stk M Q := q_g1 h rfl
    dsimp only [qx_0] at h
    intro p e R s m args below meth c H locs cells slots ls G C hP hS hl hr
    obtain ⟨hx, hb, hml, hown, hts, -⟩ := id C
    refine lv_ldc2 hx hb hown (hts _ (tbw_T g2 rfl)) hdg ?_
    rw [← z2]
    exact h p e R s m args below meth c H locs cells slots ls G C hP hS hl hr
  | _ => simp [chkO] at ho
theorem sd_iload {k : Nat} (hdg : decode (mB y) (pcA y i) = .ok (.iload k, len)) (ho : chkO y i (pcA y i) (.iload k) len o = true) (h : qStep Ls xs (PM l ad dC dI aC b Ls xs) y i o L stk M Q) : PM l ad dC dI aC b Ls xs y i L stk M Q := by
  obtain ⟨c0, a0, b0, d0, v0, l0⟩ := o
  simp only [chkO, Bool.and_eq_true] at ho
  obtain ⟨⟨⟨g1, g2⟩, g3⟩, g4⟩ := ho
  have z0 := q_bq g1
  try dsimp only at z0
  subst z0
  have z3 := q_bq g2
  try dsimp only at z3
  subst z3
  have z1 := q_bq g3
  subst z1
  have z2 := q_bq g4
  replace h : qx_1 (PM l ad dC dI aC b Ls xs) y i _ L stk M Q := q_g1 h rfl
  dsimp only [qx_1] at h
  split at h
  · rename_i x hg
    intro p e R s m args below meth c H locs cells slots ls G C hP hS hl hr
    obtain ⟨hx, hb, hml, hown, hts, -⟩ := id C
    refine lv_iload hx hb hdg (lcG_at hl hg (fun q => by cases q)) ?_
    rw [← z2]
    exact h p e R s m args below meth c H locs cells slots ls G C hP hS hl hr
  · exact h.elim
theorem sd_iload_n {k : Fin 4} (hdg : decode (mB y) (pcA y i) = .ok (.iload_n k, len)) (ho : chkO y i (pcA y i) (.iload_n k) len o = true) (h : qStep Ls xs (PM l ad dC dI aC b Ls xs) y i o L stk M Q) : PM l ad dC dI aC b Ls xs y i L stk M Q := by
  obtain ⟨c0, a0, b0, d0, v0, l0⟩ := o
  simp only [chkO, Bool.and_eq_true] at ho
  obtain ⟨⟨⟨g1, g2⟩, g3⟩, g4⟩ := ho
  have z0 := q_bq g1
  try dsimp only at z0
  subst z0
  have z3 := q_bq g2
  try dsimp only at z3
  subst z3
  have z1 := q_bq g3
  subst z1
  have z2 := q_bq g4
  replace h : qx_1 (PM l ad dC dI aC b Ls xs) y i _ L stk M Q := q_g1 h rfl
  dsimp only [qx_1] at h
  split at h
  · rename_i x hg
    intro p e R s m args below meth c H locs cells slots ls G C hP hS hl hr
    obtain ⟨hx, hb, hml, hown, hts, -⟩ := id C
    refine lv_iload_n hx hb hdg rfl (lcG_at hl hg (fun q => by cases q)) ?_
    rw [← z2]
    exact h p e R s m args below meth c H locs cells slots ls G C hP hS hl hr
  · exact h.elim
theorem sd_lload {k : Nat} (hdg : decode (mB y) (pcA y i) = .ok (.lload k, len)) (ho : chkO y i (pcA y i) (.lload k) len o = true) (h : qStep Ls xs (PM l ad dC dI aC b Ls xs) y i o L stk M Q) : PM l ad dC dI aC b Ls xs y i L stk M Q := by
  obtain ⟨c0, a0, b0, d0, v0, l0⟩ := o
  simp only [chkO, Bool.and_eq_true] at ho
  obtain ⟨⟨⟨g1, g2⟩, g3⟩, g4⟩ := ho
  have z0 := q_bq g1
  try dsimp only at z0
  subst z0
  have z3 := q_bq g2
  try dsimp only at z3
  subst z3
  have z1 := q_bq g3
  subst z1
  have z2 := q_bq g4
  replace h : qx_2 (PM l ad dC dI aC b Ls xs) y i _ L stk M Q := q_g1 h rfl
  dsimp only [qx_2] at h
  split at h
  · rename_i x hg
    intro p e R s m args below meth c H locs cells slots ls G C hP hS hl hr
    obtain ⟨hx, hb, hml, hown, hts, -⟩ := id C
    refine lv_lload hx hb hdg (lcG_at hl hg (fun q => by cases q)) ?_
    rw [← z2]
    exact h p e R s m args below meth c H locs cells slots ls G C hP hS hl hr
  · exact h.elim
theorem sd_lload_n {k : Fin 4} (hdg : decode (mB y) (pcA y i) = .ok (.lload_n k, len)) (ho : chkO y i (pcA y i) (.lload_n k) len o = true) (h : qStep Ls xs (PM l ad dC dI aC b Ls xs) y i o L stk M Q) : PM l ad dC dI aC b Ls xs y i L stk M Q := by
  obtain ⟨c0, a0, b0, d0, v0, l0⟩ := o
  simp only [chkO, Bool.and_eq_true] at ho
  obtain ⟨⟨⟨g1, g2⟩, g3⟩, g4⟩ := ho
  have z0 := q_bq g1
  try dsimp only at z0
  subst z0
  have z3 := q_bq g2
  try dsimp only at z3
  subst z3
  have z1 := q_bq g3
  subst z1
  have z2 := q_bq g4
  replace h : qx_2 (PM l ad dC dI aC b Ls xs) y i _ L stk M Q := q_g1 h rfl
  dsimp only [qx_2] at h
  split at h
  · rename_i x hg
    intro p e R s m args below meth c H locs cells slots ls G C hP hS hl hr
    obtain ⟨hx, hb, hml, hown, hts, -⟩ := id C
    refine lv_lload_n hx hb hdg rfl (lcG_at hl hg (fun q => by cases q)) ?_
    rw [← z2]
    exact h p e R s m args below meth c H locs cells slots ls G C hP hS hl hr
  · exact h.elim
theorem sd_aload {k : Nat} (hdg : decode (mB y) (pcA y i) = .ok (.aload k, len)) (ho : chkO y i (pcA y i) (.aload k) len o = true) (h : qStep Ls xs (PM l ad dC dI aC b Ls xs) y i o L stk M Q) : PM l ad dC dI aC b Ls xs y i L stk M Q := by
  obtain ⟨c0, a0, b0, d0, v0, l0⟩ := o
  simp only [chkO, Bool.and_eq_true] at ho
  obtain ⟨⟨⟨g1, g2⟩, g3⟩, g4⟩ := ho
  have z0 := q_bq g1
  try dsimp only at z0
  subst z0
  have z3 := q_bq g2
  try dsimp only at z3
  subst z3
  have z1 := q_bq g3
  subst z1
  have z2 := q_bq g4
  replace h : qx_3 (PM l ad dC dI aC b Ls xs) y i _ L stk M Q := q_g1 h rfl
  dsimp only [qx_3] at h
  split at h
  · rename_i x hg
    intro p e R s m args below meth c H locs cells slots ls G C hP hS hl hr
    obtain ⟨hx, hb, hml, hown, hts, -⟩ := id C
    refine lv_aload hx hb hdg (lcG_at hl hg (fun q => by cases q)) ?_
    rw [← z2]
    exact h p e R s m args below meth c H locs cells slots ls G C hP hS hl hr
  · rename_i hg
    intro p e R s m args below meth c H locs cells slots ls G C hP hS hl hr
    obtain ⟨hx, hb, hml, hown, hts, -⟩ := id C
    refine lv_aloadN hx hb hdg (lcG_at hl hg (fun q => by cases q)) ?_
    rw [← z2]
    exact h p e R s m args below meth c H locs cells slots ls G C hP hS hl hr
  · exact h.elim
theorem sd_aload_n {k : Fin 4} (hdg : decode (mB y) (pcA y i) = .ok (.aload_n k, len)) (ho : chkO y i (pcA y i) (.aload_n k) len o = true) (h : qStep Ls xs (PM l ad dC dI aC b Ls xs) y i o L stk M Q) : PM l ad dC dI aC b Ls xs y i L stk M Q := by
  obtain ⟨c0, a0, b0, d0, v0, l0⟩ := o
  simp only [chkO, Bool.and_eq_true] at ho
  obtain ⟨⟨⟨g1, g2⟩, g3⟩, g4⟩ := ho
  have z0 := q_bq g1
  try dsimp only at z0
  subst z0
  have z3 := q_bq g2
  try dsimp only at z3
  subst z3
  have z1 := q_bq g3
  subst z1
  have z2 := q_bq g4
  replace h : qx_3 (PM l ad dC dI aC b Ls xs) y i _ L stk M Q := q_g1 h rfl
  dsimp only [qx_3] at h
  split at h
  · rename_i x hg
    intro p e R s m args below meth c H locs cells slots ls G C hP hS hl hr
    obtain ⟨hx, hb, hml, hown, hts, -⟩ := id C
    refine lv_aload_n hx hb hdg rfl (lcG_at hl hg (fun q => by cases q)) ?_
    rw [← z2]
    exact h p e R s m args below meth c H locs cells slots ls G C hP hS hl hr
  · rename_i hg
    intro p e R s m args below meth c H locs cells slots ls G C hP hS hl hr
    obtain ⟨hx, hb, hml, hown, hts, -⟩ := id C
    refine lv_aload_nN hx hb hdg rfl (lcG_at hl hg (fun q => by cases q)) ?_
    rw [← z2]
    exact h p e R s m args below meth c H locs cells slots ls G C hP hS hl hr
  · exact h.elim
theorem sd_istore {k : Nat} (hdg : decode (mB y) (pcA y i) = .ok (.istore k, len)) (ho : chkO y i (pcA y i) (.istore k) len o = true) (h : qStep Ls xs (PM l ad dC dI aC b Ls xs) y i o L stk M Q) : PM l ad dC dI aC b Ls xs y i L stk M Q := by
  obtain ⟨c0, a0, b0, d0, v0, l0⟩ := o
  simp only [chkO, Bool.and_eq_true] at ho
  obtain ⟨⟨⟨⟨g1, g2⟩, g3⟩, g4⟩, g5⟩ := ho
  have z0 := q_bq g1
  try dsimp only at z0
  subst z0
  have z3 := q_bq g2
  try dsimp only at z3
  subst z3
  have z1 := q_bq g4
  subst z1
  have z2 := q_bq g5
  replace h : qx_4 (PM l ad dC dI aC b Ls xs) y i _ L stk M Q := q_g1 h rfl
  dsimp only [qx_4] at h
  have z4 := Nat.le_of_ble_eq_true g3
  split at h
  · rename_i x st
    intro p e R s m args below meth c H locs cells slots ls G C hP hS hl hr
    obtain ⟨hx, hb, hml, hown, hts, -⟩ := id C
    refine lv_istore hx hb hdg hl z4 (trL_S1 ad L _ (.int x)) (fun ls hl => ?_)
    rw [← z2]
    exact h p e R s m args below meth c H locs cells slots ls G C hP hS hl hr
  · exact h.elim
theorem sd_istore_n {k : Fin 4} (hdg : decode (mB y) (pcA y i) = .ok (.istore_n k, len)) (ho : chkO y i (pcA y i) (.istore_n k) len o = true) (h : qStep Ls xs (PM l ad dC dI aC b Ls xs) y i o L stk M Q) : PM l ad dC dI aC b Ls xs y i L stk M Q := by
  obtain ⟨c0, a0, b0, d0, v0, l0⟩ := o
  simp only [chkO, Bool.and_eq_true] at ho
  obtain ⟨⟨⟨⟨g1, g2⟩, g3⟩, g4⟩, g5⟩ := ho
  have z0 := q_bq g1
  try dsimp only at z0
  subst z0
  have z3 := q_bq g2
  try dsimp only at z3
  subst z3
  have z1 := q_bq g4
  subst z1
  have z2 := q_bq g5
  replace h : qx_4 (PM l ad dC dI aC b Ls xs) y i _ L stk M Q := q_g1 h rfl
  dsimp only [qx_4] at h
  have z4 := Nat.le_of_ble_eq_true g3
  split at h
  · rename_i x st
    intro p e R s m args below meth c H locs cells slots ls G C hP hS hl hr
    obtain ⟨hx, hb, hml, hown, hts, -⟩ := id C
    refine lv_istore_n hx hb hdg rfl hl z4 (trL_S1 ad L _ (.int x)) (fun ls hl => ?_)
    rw [← z2]
    exact h p e R s m args below meth c H locs cells slots ls G C hP hS hl hr
  · exact h.elim
theorem sd_lstore {k : Nat} (hdg : decode (mB y) (pcA y i) = .ok (.lstore k, len)) (ho : chkO y i (pcA y i) (.lstore k) len o = true) (h : qStep Ls xs (PM l ad dC dI aC b Ls xs) y i o L stk M Q) : PM l ad dC dI aC b Ls xs y i L stk M Q := by
  obtain ⟨c0, a0, b0, d0, v0, l0⟩ := o
  simp only [chkO, Bool.and_eq_true] at ho
  obtain ⟨⟨⟨⟨g1, g2⟩, g3⟩, g4⟩, g5⟩ := ho
  have z0 := q_bq g1
  try dsimp only at z0
  subst z0
  have z3 := q_bq g2
  try dsimp only at z3
  subst z3
  have z1 := q_bq g4
  subst z1
  have z2 := q_bq g5
  replace h : qx_5 (PM l ad dC dI aC b Ls xs) y i _ L stk M Q := q_g1 h rfl
  dsimp only [qx_5] at h
  have z4 := Nat.le_of_ble_eq_true g3
  split at h
  · rename_i x st
    intro p e R s m args below meth c H locs cells slots ls G C hP hS hl hr
    obtain ⟨hx, hb, hml, hown, hts, -⟩ := id C
    refine lv_lstore hx hb hdg hl z4 (trL_S2 ad L _ (.long x)) (fun ls hl => ?_)
    rw [← z2]
    exact h p e R s m args below meth c H locs cells slots ls G C hP hS hl hr
  · exact h.elim
theorem sd_lstore_n {k : Fin 4} (hdg : decode (mB y) (pcA y i) = .ok (.lstore_n k, len)) (ho : chkO y i (pcA y i) (.lstore_n k) len o = true) (h : qStep Ls xs (PM l ad dC dI aC b Ls xs) y i o L stk M Q) : PM l ad dC dI aC b Ls xs y i L stk M Q := by
  obtain ⟨c0, a0, b0, d0, v0, l0⟩ := o
  simp only [chkO, Bool.and_eq_true] at ho
  obtain ⟨⟨⟨⟨g1, g2⟩, g3⟩, g4⟩, g5⟩ := ho
  have z0 := q_bq g1
  try dsimp only at z0
  subst z0
  have z3 := q_bq g2
  try dsimp only at z3
  subst z3
  have z1 := q_bq g4
  subst z1
  have z2 := q_bq g5
  replace h : qx_5 (PM l ad dC dI aC b Ls xs) y i _ L stk M Q := q_g1 h rfl
  dsimp only [qx_5] at h
  have z4 := Nat.le_of_ble_eq_true g3
  split at h
  · rename_i x st
    intro p e R s m args below meth c H locs cells slots ls G C hP hS hl hr
    obtain ⟨hx, hb, hml, hown, hts, -⟩ := id C
    refine lv_lstore_n hx hb hdg rfl hl z4 (trL_S2 ad L _ (.long x)) (fun ls hl => ?_)
    rw [← z2]
    exact h p e R s m args below meth c H locs cells slots ls G C hP hS hl hr
  · exact h.elim
theorem sd_astore {k : Nat} (hdg : decode (mB y) (pcA y i) = .ok (.astore k, len)) (ho : chkO y i (pcA y i) (.astore k) len o = true) (h : qStep Ls xs (PM l ad dC dI aC b Ls xs) y i o L stk M Q) : PM l ad dC dI aC b Ls xs y i L stk M Q := by
  obtain ⟨c0, a0, b0, d0, v0, l0⟩ := o
  simp only [chkO, Bool.and_eq_true] at ho
  obtain ⟨⟨⟨⟨g1, g2⟩, g3⟩, g4⟩, g5⟩ := ho
  have z0 := q_bq g1
  try dsimp only at z0
  subst z0
  have z3 := q_bq g2
  try dsimp only at z3
  subst z3
  have z1 := q_bq g4
  subst z1
  have z2 := q_bq g5
  replace h : qx_6 (PM l ad dC dI aC b Ls xs) y i _ L stk M Q := q_g1 h rfl
  dsimp only [qx_6] at h
  have z4 := Nat.le_of_ble_eq_true g3
  split at h
  · rename_i x st
    intro p e R s m args below meth c H locs cells slots ls G C hP hS hl hr
    obtain ⟨hx, hb, hml, hown, hts, -⟩ := id C
    refine lv_astore hx hb hdg hl z4 (trL_S1 ad L _ (.ref x)) (fun ls hl => ?_)
    rw [← z2]
    exact h p e R s m args below meth c H locs cells slots ls G C hP hS hl hr
  · rename_i st
    intro p e R s m args below meth c H locs cells slots ls G C hP hS hl hr
    obtain ⟨hx, hb, hml, hown, hts, -⟩ := id C
    refine lv_astoreN hx hb hdg hl z4 (trL_S1 ad L _ (.null)) (fun ls hl => ?_)
    rw [← z2]
    exact h p e R s m args below meth c H locs cells slots ls G C hP hS hl hr
  · exact h.elim
theorem sd_astore_n {k : Fin 4} (hdg : decode (mB y) (pcA y i) = .ok (.astore_n k, len)) (ho : chkO y i (pcA y i) (.astore_n k) len o = true) (h : qStep Ls xs (PM l ad dC dI aC b Ls xs) y i o L stk M Q) : PM l ad dC dI aC b Ls xs y i L stk M Q := by
  obtain ⟨c0, a0, b0, d0, v0, l0⟩ := o
  simp only [chkO, Bool.and_eq_true] at ho
  obtain ⟨⟨⟨⟨g1, g2⟩, g3⟩, g4⟩, g5⟩ := ho
  have z0 := q_bq g1
  try dsimp only at z0
  subst z0
  have z3 := q_bq g2
  try dsimp only at z3
  subst z3
  have z1 := q_bq g4
  subst z1
  have z2 := q_bq g5
  replace h : qx_6 (PM l ad dC dI aC b Ls xs) y i _ L stk M Q := q_g1 h rfl
  dsimp only [qx_6] at h
  have z4 := Nat.le_of_ble_eq_true g3
  split at h
  · rename_i x st
    intro p e R s m args below meth c H locs cells slots ls G C hP hS hl hr
    obtain ⟨hx, hb, hml, hown, hts, -⟩ := id C
    refine lv_astore_n hx hb hdg rfl hl z4 (trL_S1 ad L _ (.ref x)) (fun ls hl => ?_)
    rw [← z2]
    exact h p e R s m args below meth c H locs cells slots ls G C hP hS hl hr
  · rename_i st
    intro p e R s m args below meth c H locs cells slots ls G C hP hS hl hr
    obtain ⟨hx, hb, hml, hown, hts, -⟩ := id C
    refine lv_astore_nN hx hb hdg rfl hl z4 (trL_S1 ad L _ (.null)) (fun ls hl => ?_)
    rw [← z2]
    exact h p e R s m args below meth c H locs cells slots ls G C hP hS hl hr
  · exact h.elim
theorem sd_iinc {k : Nat} {n : Int} (hdg : decode (mB y) (pcA y i) = .ok (.iinc k n, len)) (ho : chkO y i (pcA y i) (.iinc k n) len o = true) (h : qStep Ls xs (PM l ad dC dI aC b Ls xs) y i o L stk M Q) : PM l ad dC dI aC b Ls xs y i L stk M Q := by
  obtain ⟨c0, a0, b0, d0, v0, l0⟩ := o
  simp only [chkO, Bool.and_eq_true] at ho
  obtain ⟨⟨⟨⟨⟨g1, g2⟩, g3⟩, g4⟩, g5⟩, g6⟩ := ho
  have z0 := q_bq g1
  try dsimp only at z0
  subst z0
  have z3 := q_bq g2
  try dsimp only at z3
  subst z3
  have z5 : v0 = .int (Int32.ofInt n) := of_decide_eq_true g3
  subst z5
  have z1 := q_bq g5
  subst z1
  have z2 := q_bq g6
  replace h : qx_7 (PM l ad dC dI aC b Ls xs) y i _ L stk M Q := q_g1 h rfl
  dsimp only [qx_7] at h
  have z4 := Nat.le_of_ble_eq_true g4
  split at h
  · rename_i x d hg hd
    cases hd
    intro p e R s m args below meth c H locs cells slots ls G C hP hS hl hr
    obtain ⟨hx, hb, hml, hown, hts, -⟩ := id C
    obtain ⟨kk, hk⟩ := lcG_k (ad := ad) hg (fun q => by cases q)
    refine lv_iinc hx hb hdg hl hk rfl z4 (trL_S1 ad L _ (.int (x + Int32.ofInt n))) (fun ls hl => ?_)
    rw [← z2]
    exact h p e R s m args below meth c H locs cells slots ls G C hP hS hl hr
  · exact h.elim
theorem sd_iadd (hdg : decode (mB y) (pcA y i) = .ok (.iadd, len)) (ho : chkO y i (pcA y i) (.iadd) len o = true) (h : qStep Ls xs (PM l ad dC dI aC b Ls xs) y i o L stk M Q) : PM l ad dC dI aC b Ls xs y i L stk M Q := by
  obtain ⟨c0, a0, b0, d0, v0, l0⟩ := o
  simp only [chkO, Bool.and_eq_true] at ho
  obtain ⟨⟨g1, g2⟩, g3⟩ := ho
  have z0 := q_bq g1
  try dsimp only at z0
  subst z0
  have z1 := q_bq g2
  subst z1
  have z2 := q_bq g3
  replace h : qx_8 (PM l ad dC dI aC b Ls xs) y i qHalt L stk M Q := q_g2 h rfl rfl
  dsimp only [qx_8] at h
  split at h
  · intro p e R s m args below meth c H locs cells slots ls G C hP hS hl hr
    obtain ⟨hx, hb, hml, hown, hts, -⟩ := id C
    refine lv_iadd hx hb hdg ?_
    rw [← z2]
    exact h p e R s m args below meth c H locs cells slots ls G C hP hS hl hr
  · exact h.elim
theorem sd_isub (hdg : decode (mB y) (pcA y i) = .ok (.isub, len)) (ho : chkO y i (pcA y i) (.isub) len o = true) (h : qStep Ls xs (PM l ad dC dI aC b Ls xs) y i o L stk M Q) : PM l ad dC dI aC b Ls xs y i L stk M Q := by
  obtain ⟨c0, a0, b0, d0, v0, l0⟩ := o
  simp only [chkO, Bool.and_eq_true] at ho
  obtain ⟨⟨g1, g2⟩, g3⟩ := ho
  have z0 := q_bq g1
  try dsimp only at z0
  subst z0
  have z1 := q_bq g2
  subst z1
  have z2 := q_bq g3
  replace h : qx_9 (PM l ad dC dI aC b Ls xs) y i qHalt L stk M Q := q_g2 h rfl rfl
  dsimp only [qx_9] at h
  split at h
  · intro p e R s m args below meth c H locs cells slots ls G C hP hS hl hr
    obtain ⟨hx, hb, hml, hown, hts, -⟩ := id C
    refine lv_isub hx hb hdg ?_
    rw [← z2]
    exact h p e R s m args below meth c H locs cells slots ls G C hP hS hl hr
  · exact h.elim
theorem sd_imul (hdg : decode (mB y) (pcA y i) = .ok (.imul, len)) (ho : chkO y i (pcA y i) (.imul) len o = true) (h : qStep Ls xs (PM l ad dC dI aC b Ls xs) y i o L stk M Q) : PM l ad dC dI aC b Ls xs y i L stk M Q := by
  obtain ⟨c0, a0, b0, d0, v0, l0⟩ := o
  simp only [chkO, Bool.and_eq_true] at ho
  obtain ⟨⟨g1, g2⟩, g3⟩ := ho
  have z0 := q_bq g1
  try dsimp only at z0
  subst z0
  have z1 := q_bq g2
  subst z1
  have z2 := q_bq g3
  replace h : qx_10 (PM l ad dC dI aC b Ls xs) y i qHalt L stk M Q := q_g2 h rfl rfl
  dsimp only [qx_10] at h
  split at h
  · intro p e R s m args below meth c H locs cells slots ls G C hP hS hl hr
    obtain ⟨hx, hb, hml, hown, hts, -⟩ := id C
    refine lv_imul hx hb hdg ?_
    rw [← z2]
    exact h p e R s m args below meth c H locs cells slots ls G C hP hS hl hr
  · exact h.elim
theorem sd_iand (hdg : decode (mB y) (pcA y i) = .ok (.iand, len)) (ho : chkO y i (pcA y i) (.iand) len o = true) (h : qStep Ls xs (PM l ad dC dI aC b Ls xs) y i o L stk M Q) : PM l ad dC dI aC b Ls xs y i L stk M Q := by
  obtain ⟨c0, a0, b0, d0, v0, l0⟩ := o
  simp only [chkO, Bool.and_eq_true] at ho
  obtain ⟨⟨g1, g2⟩, g3⟩ := ho
  have z0 := q_bq g1
  try dsimp only at z0
  subst z0
  have z1 := q_bq g2
  subst z1
  have z2 := q_bq g3
  replace h : qx_11 (PM l ad dC dI aC b Ls xs) y i qHalt L stk M Q := q_g2 h rfl rfl
  dsimp only [qx_11] at h
  split at h
  · intro p e R s m args below meth c H locs cells slots ls G C hP hS hl hr
    obtain ⟨hx, hb, hml, hown, hts, -⟩ := id C
    refine lv_iand hx hb hdg ?_
    rw [← z2]
    exact h p e R s m args below meth c H locs cells slots ls G C hP hS hl hr
  · exact h.elim
theorem sd_ior (hdg : decode (mB y) (pcA y i) = .ok (.ior, len)) (ho : chkO y i (pcA y i) (.ior) len o = true) (h : qStep Ls xs (PM l ad dC dI aC b Ls xs) y i o L stk M Q) : PM l ad dC dI aC b Ls xs y i L stk M Q := by
  obtain ⟨c0, a0, b0, d0, v0, l0⟩ := o
  simp only [chkO, Bool.and_eq_true] at ho
  obtain ⟨⟨g1, g2⟩, g3⟩ := ho
  have z0 := q_bq g1
  try dsimp only at z0
  subst z0
  have z1 := q_bq g2
  subst z1
  have z2 := q_bq g3
  replace h : qx_12 (PM l ad dC dI aC b Ls xs) y i qHalt L stk M Q := q_g2 h rfl rfl
  dsimp only [qx_12] at h
  split at h
  · intro p e R s m args below meth c H locs cells slots ls G C hP hS hl hr
    obtain ⟨hx, hb, hml, hown, hts, -⟩ := id C
    refine lv_ior hx hb hdg ?_
    rw [← z2]
    exact h p e R s m args below meth c H locs cells slots ls G C hP hS hl hr
  · exact h.elim
theorem sd_ishl (hdg : decode (mB y) (pcA y i) = .ok (.ishl, len)) (ho : chkO y i (pcA y i) (.ishl) len o = true) (h : qStep Ls xs (PM l ad dC dI aC b Ls xs) y i o L stk M Q) : PM l ad dC dI aC b Ls xs y i L stk M Q := by
  obtain ⟨c0, a0, b0, d0, v0, l0⟩ := o
  simp only [chkO, Bool.and_eq_true] at ho
  obtain ⟨⟨g1, g2⟩, g3⟩ := ho
  have z0 := q_bq g1
  try dsimp only at z0
  subst z0
  have z1 := q_bq g2
  subst z1
  have z2 := q_bq g3
  replace h : qx_13 (PM l ad dC dI aC b Ls xs) y i qHalt L stk M Q := q_g2 h rfl rfl
  dsimp only [qx_13] at h
  split at h
  · intro p e R s m args below meth c H locs cells slots ls G C hP hS hl hr
    obtain ⟨hx, hb, hml, hown, hts, -⟩ := id C
    refine lv_ishl hx hb hdg ?_
    rw [← z2]
    exact h p e R s m args below meth c H locs cells slots ls G C hP hS hl hr
  · exact h.elim
theorem sd_ishr (hdg : decode (mB y) (pcA y i) = .ok (.ishr, len)) (ho : chkO y i (pcA y i) (.ishr) len o = true) (h : qStep Ls xs (PM l ad dC dI aC b Ls xs) y i o L stk M Q) : PM l ad dC dI aC b Ls xs y i L stk M Q := by
  obtain ⟨c0, a0, b0, d0, v0, l0⟩ := o
  simp only [chkO, Bool.and_eq_true] at ho
  obtain ⟨⟨g1, g2⟩, g3⟩ := ho
  have z0 := q_bq g1
  try dsimp only at z0
  subst z0
  have z1 := q_bq g2
  subst z1
  have z2 := q_bq g3
  replace h : qx_14 (PM l ad dC dI aC b Ls xs) y i qHalt L stk M Q := q_g2 h rfl rfl
  dsimp only [qx_14] at h
  split at h
  · intro p e R s m args below meth c H locs cells slots ls G C hP hS hl hr
    obtain ⟨hx, hb, hml, hown, hts, -⟩ := id C
    refine lv_ishr hx hb hdg ?_
    rw [← z2]
    exact h p e R s m args below meth c H locs cells slots ls G C hP hS hl hr
  · exact h.elim
theorem sd_idiv (hdg : decode (mB y) (pcA y i) = .ok (.idiv, len)) (ho : chkO y i (pcA y i) (.idiv) len o = true) (h : qStep Ls xs (PM l ad dC dI aC b Ls xs) y i o L stk M Q) : PM l ad dC dI aC b Ls xs y i L stk M Q := by
  obtain ⟨c0, a0, b0, d0, v0, l0⟩ := o
  simp only [chkO, Bool.and_eq_true] at ho
  obtain ⟨⟨g1, g2⟩, g3⟩ := ho
  have z0 := q_bq g1
  try dsimp only at z0
  subst z0
  have z1 := q_bq g2
  subst z1
  have z2 := q_bq g3
  replace h : qx_15 (PM l ad dC dI aC b Ls xs) y i qHalt L stk M Q := q_g2 h rfl rfl
  dsimp only [qx_15] at h
  split at h
  · intro p e R s m args below meth c H locs cells slots ls G C hP hS hl hr
    obtain ⟨hx, hb, hml, hown, hts, -⟩ := id C
    obtain ⟨hne, h⟩ := h
    refine lv_idiv hx hb hdg hne ?_
    rw [← z2]
    exact h p e R s m args below meth c H locs cells slots ls G C hP hS hl hr
  · exact h.elim
theorem sd_irem (hdg : decode (mB y) (pcA y i) = .ok (.irem, len)) (ho : chkO y i (pcA y i) (.irem) len o = true) (h : qStep Ls xs (PM l ad dC dI aC b Ls xs) y i o L stk M Q) : PM l ad dC dI aC b Ls xs y i L stk M Q := by
  obtain ⟨c0, a0, b0, d0, v0, l0⟩ := o
  simp only [chkO, Bool.and_eq_true] at ho
  obtain ⟨⟨g1, g2⟩, g3⟩ := ho
  have z0 := q_bq g1
  try dsimp only at z0
  subst z0
  have z1 := q_bq g2
  subst z1
  have z2 := q_bq g3
  replace h : qx_16 (PM l ad dC dI aC b Ls xs) y i qHalt L stk M Q := q_g2 h rfl rfl
  dsimp only [qx_16] at h
  split at h
  · intro p e R s m args below meth c H locs cells slots ls G C hP hS hl hr
    obtain ⟨hx, hb, hml, hown, hts, -⟩ := id C
    obtain ⟨hne, h⟩ := h
    refine lv_irem hx hb hdg hne ?_
    rw [← z2]
    exact h p e R s m args below meth c H locs cells slots ls G C hP hS hl hr
  · exact h.elim
theorem sd_ineg (hdg : decode (mB y) (pcA y i) = .ok (.ineg, len)) (ho : chkO y i (pcA y i) (.ineg) len o = true) (h : qStep Ls xs (PM l ad dC dI aC b Ls xs) y i o L stk M Q) : PM l ad dC dI aC b Ls xs y i L stk M Q := by
  obtain ⟨c0, a0, b0, d0, v0, l0⟩ := o
  simp only [chkO, Bool.and_eq_true] at ho
  obtain ⟨⟨g1, g2⟩, g3⟩ := ho
  have z0 := q_bq g1
  try dsimp only at z0
  subst z0
  have z1 := q_bq g2
  subst z1
  have z2 := q_bq g3
  replace h : qx_17 (PM l ad dC dI aC b Ls xs) y i qHalt L stk M Q := q_g2 h rfl rfl
  dsimp only [qx_17] at h
  split at h
  · intro p e R s m args below meth c H locs cells slots ls G C hP hS hl hr
    obtain ⟨hx, hb, hml, hown, hts, -⟩ := id C
    refine lv_ineg hx hb hdg ?_
    rw [← z2]
    exact h p e R s m args below meth c H locs cells slots ls G C hP hS hl hr
  · exact h.elim
theorem sd_ladd (hdg : decode (mB y) (pcA y i) = .ok (.ladd, len)) (ho : chkO y i (pcA y i) (.ladd) len o = true) (h : qStep Ls xs (PM l ad dC dI aC b Ls xs) y i o L stk M Q) : PM l ad dC dI aC b Ls xs y i L stk M Q := by
  obtain ⟨c0, a0, b0, d0, v0, l0⟩ := o
  simp only [chkO, Bool.and_eq_true] at ho
  obtain ⟨⟨g1, g2⟩, g3⟩ := ho
  have z0 := q_bq g1
  try dsimp only at z0
  subst z0
  have z1 := q_bq g2
  subst z1
  have z2 := q_bq g3
  replace h : qx_18 (PM l ad dC dI aC b Ls xs) y i qHalt L stk M Q := q_g2 h rfl rfl
  dsimp only [qx_18] at h
  split at h
  · intro p e R s m args below meth c H locs cells slots ls G C hP hS hl hr
    obtain ⟨hx, hb, hml, hown, hts, -⟩ := id C
    refine lv_ladd hx hb hdg ?_
    rw [← z2]
    exact h p e R s m args below meth c H locs cells slots ls G C hP hS hl hr
  · exact h.elim
theorem sd_lsub (hdg : decode (mB y) (pcA y i) = .ok (.lsub, len)) (ho : chkO y i (pcA y i) (.lsub) len o = true) (h : qStep Ls xs (PM l ad dC dI aC b Ls xs) y i o L stk M Q) : PM l ad dC dI aC b Ls xs y i L stk M Q := by
  obtain ⟨c0, a0, b0, d0, v0, l0⟩ := o
  simp only [chkO, Bool.and_eq_true] at ho
  obtain ⟨⟨g1, g2⟩, g3⟩ := ho
  have z0 := q_bq g1
  try dsimp only at z0
  subst z0
  have z1 := q_bq g2
  subst z1
  have z2 := q_bq g3
  replace h : qx_19 (PM l ad dC dI aC b Ls xs) y i qHalt L stk M Q := q_g2 h rfl rfl
  dsimp only [qx_19] at h
  split at h
  · intro p e R s m args below meth c H locs cells slots ls G C hP hS hl hr
    obtain ⟨hx, hb, hml, hown, hts, -⟩ := id C
    refine lv_lsub hx hb hdg ?_
    rw [← z2]
    exact h p e R s m args below meth c H locs cells slots ls G C hP hS hl hr
  · exact h.elim
theorem sd_lmul (hdg : decode (mB y) (pcA y i) = .ok (.lmul, len)) (ho : chkO y i (pcA y i) (.lmul) len o = true) (h : qStep Ls xs (PM l ad dC dI aC b Ls xs) y i o L stk M Q) : PM l ad dC dI aC b Ls xs y i L stk M Q := by
  obtain ⟨c0, a0, b0, d0, v0, l0⟩ := o
  simp only [chkO, Bool.and_eq_true] at ho
  obtain ⟨⟨g1, g2⟩, g3⟩ := ho
  have z0 := q_bq g1
  try dsimp only at z0
  subst z0
  have z1 := q_bq g2
  subst z1
  have z2 := q_bq g3
  replace h : qx_20 (PM l ad dC dI aC b Ls xs) y i qHalt L stk M Q := q_g2 h rfl rfl
  dsimp only [qx_20] at h
  split at h
  · intro p e R s m args below meth c H locs cells slots ls G C hP hS hl hr
    obtain ⟨hx, hb, hml, hown, hts, -⟩ := id C
    refine lv_lmul hx hb hdg ?_
    rw [← z2]
    exact h p e R s m args below meth c H locs cells slots ls G C hP hS hl hr
  · exact h.elim
theorem sd_ldiv (hdg : decode (mB y) (pcA y i) = .ok (.ldiv, len)) (ho : chkO y i (pcA y i) (.ldiv) len o = true) (h : qStep Ls xs (PM l ad dC dI aC b Ls xs) y i o L stk M Q) : PM l ad dC dI aC b Ls xs y i L stk M Q := by
  obtain ⟨c0, a0, b0, d0, v0, l0⟩ := o
  simp only [chkO, Bool.and_eq_true] at ho
  obtain ⟨⟨g1, g2⟩, g3⟩ := ho
  have z0 := q_bq g1
  try dsimp only at z0
  subst z0
  have z1 := q_bq g2
  subst z1
  have z2 := q_bq g3
  replace h : qx_21 (PM l ad dC dI aC b Ls xs) y i qHalt L stk M Q := q_g2 h rfl rfl
  dsimp only [qx_21] at h
  split at h
  · intro p e R s m args below meth c H locs cells slots ls G C hP hS hl hr
    obtain ⟨hx, hb, hml, hown, hts, -⟩ := id C
    obtain ⟨hne, h⟩ := h
    refine lv_ldiv hx hb hdg hne ?_
    rw [← z2]
    exact h p e R s m args below meth c H locs cells slots ls G C hP hS hl hr
  · exact h.elim
theorem sd_lrem (hdg : decode (mB y) (pcA y i) = .ok (.lrem, len)) (ho : chkO y i (pcA y i) (.lrem) len o = true) (h : qStep Ls xs (PM l ad dC dI aC b Ls xs) y i o L stk M Q) : PM l ad dC dI aC b Ls xs y i L stk M Q := by
  obtain ⟨c0, a0, b0, d0, v0, l0⟩ := o
  simp only [chkO, Bool.and_eq_true] at ho
  obtain ⟨⟨g1, g2⟩, g3⟩ := ho
  have z0 := q_bq g1
  try dsimp only at z0
  subst z0
  have z1 := q_bq g2
  subst z1
  have z2 := q_bq g3
  replace h : qx_22 (PM l ad dC dI aC b Ls xs) y i qHalt L stk M Q := q_g2 h rfl rfl
  dsimp only [qx_22] at h
  split at h
  · intro p e R s m args below meth c H locs cells slots ls G C hP hS hl hr
    obtain ⟨hx, hb, hml, hown, hts, -⟩ := id C
    obtain ⟨hne, h⟩ := h
    refine lv_lrem hx hb hdg hne ?_
    rw [← z2]
    exact h p e R s m args below meth c H locs cells slots ls G C hP hS hl hr
  · exact h.elim
theorem sd_lneg (hdg : decode (mB y) (pcA y i) = .ok (.lneg, len)) (ho : chkO y i (pcA y i) (.lneg) len o = true) (h : qStep Ls xs (PM l ad dC dI aC b Ls xs) y i o L stk M Q) : PM l ad dC dI aC b Ls xs y i L stk M Q := by
  obtain ⟨c0, a0, b0, d0, v0, l0⟩ := o
  simp only [chkO, Bool.and_eq_true] at ho
  obtain ⟨⟨g1, g2⟩, g3⟩ := ho
  have z0 := q_bq g1
  try dsimp only at z0
  subst z0
  have z1 := q_bq g2
  subst z1
  have z2 := q_bq g3
  replace h : qx_23 (PM l ad dC dI aC b Ls xs) y i qHalt L stk M Q := q_g2 h rfl rfl
  dsimp only [qx_23] at h
  split at h
  · intro p e R s m args below meth c H locs cells slots ls G C hP hS hl hr
    obtain ⟨hx, hb, hml, hown, hts, -⟩ := id C
    refine lv_lneg hx hb hdg ?_
    rw [← z2]
    exact h p e R s m args below meth c H locs cells slots ls G C hP hS hl hr
  · exact h.elim
theorem sd_lshl (hdg : decode (mB y) (pcA y i) = .ok (.lshl, len)) (ho : chkO y i (pcA y i) (.lshl) len o = true) (h : qStep Ls xs (PM l ad dC dI aC b Ls xs) y i o L stk M Q) : PM l ad dC dI aC b Ls xs y i L stk M Q := by
  obtain ⟨c0, a0, b0, d0, v0, l0⟩ := o
  simp only [chkO, Bool.and_eq_true] at ho
  obtain ⟨⟨g1, g2⟩, g3⟩ := ho
  have z0 := q_bq g1
  try dsimp only at z0
  subst z0
  have z1 := q_bq g2
  subst z1
  have z2 := q_bq g3
  replace h : qx_24 (PM l ad dC dI aC b Ls xs) y i qHalt L stk M Q := q_g2 h rfl rfl
  dsimp only [qx_24] at h
  split at h
  · intro p e R s m args below meth c H locs cells slots ls G C hP hS hl hr
    obtain ⟨hx, hb, hml, hown, hts, -⟩ := id C
    refine lv_lshl hx hb hdg rfl ?_
    rw [← z2]
    exact h p e R s m args below meth c H locs cells slots ls G C hP hS hl hr
  · exact h.elim
theorem sd_lcmp (hdg : decode (mB y) (pcA y i) = .ok (.lcmp, len)) (ho : chkO y i (pcA y i) (.lcmp) len o = true) (h : qStep Ls xs (PM l ad dC dI aC b Ls xs) y i o L stk M Q) : PM l ad dC dI aC b Ls xs y i L stk M Q := by
  obtain ⟨c0, a0, b0, d0, v0, l0⟩ := o
  simp only [chkO, Bool.and_eq_true] at ho
  obtain ⟨⟨g1, g2⟩, g3⟩ := ho
  have z0 := q_bq g1
  try dsimp only at z0
  subst z0
  have z1 := q_bq g2
  subst z1
  have z2 := q_bq g3
  replace h : qx_25 (PM l ad dC dI aC b Ls xs) y i qHalt L stk M Q := q_g2 h rfl rfl
  dsimp only [qx_25] at h
  split at h
  · intro p e R s m args below meth c H locs cells slots ls G C hP hS hl hr
    obtain ⟨hx, hb, hml, hown, hts, -⟩ := id C
    refine W.lcmp hx hb hdg ?_
    rw [← z2]
    exact h p e R s m args below meth c H locs cells slots ls G C hP hS hl hr
  · exact h.elim
theorem sd_i2l (hdg : decode (mB y) (pcA y i) = .ok (.i2l, len)) (ho : chkO y i (pcA y i) (.i2l) len o = true) (h : qStep Ls xs (PM l ad dC dI aC b Ls xs) y i o L stk M Q) : PM l ad dC dI aC b Ls xs y i L stk M Q := by
  obtain ⟨c0, a0, b0, d0, v0, l0⟩ := o
  simp only [chkO, Bool.and_eq_true] at ho
  obtain ⟨⟨g1, g2⟩, g3⟩ := ho
  have z0 := q_bq g1
  try dsimp only at z0
  subst z0
  have z1 := q_bq g2
  subst z1
  have z2 := q_bq g3
  replace h : qx_26 (PM l ad dC dI aC b Ls xs) y i qHalt L stk M Q := q_g2 h rfl rfl
  dsimp only [qx_26] at h
  split at h
  · intro p e R s m args below meth c H locs cells slots ls G C hP hS hl hr
    obtain ⟨hx, hb, hml, hown, hts, -⟩ := id C
    refine lv_i2l hx hb hdg rfl ?_
    rw [← z2]
    exact h p e R s m args below meth c H locs cells slots ls G C hP hS hl hr
  · exact h.elim
theorem sd_l2i (hdg : decode (mB y) (pcA y i) = .ok (.l2i, len)) (ho : chkO y i (pcA y i) (.l2i) len o = true) (h : qStep Ls xs (PM l ad dC dI aC b Ls xs) y i o L stk M Q) : PM l ad dC dI aC b Ls xs y i L stk M Q := by
  obtain ⟨c0, a0, b0, d0, v0, l0⟩ := o
  simp only [chkO, Bool.and_eq_true] at ho
  obtain ⟨⟨g1, g2⟩, g3⟩ := ho
  have z0 := q_bq g1
  try dsimp only at z0
  subst z0
  have z1 := q_bq g2
  subst z1
  have z2 := q_bq g3
  replace h : qx_27 (PM l ad dC dI aC b Ls xs) y i qHalt L stk M Q := q_g2 h rfl rfl
  dsimp only [qx_27] at h
  split at h
  · intro p e R s m args below meth c H locs cells slots ls G C hP hS hl hr
    obtain ⟨hx, hb, hml, hown, hts, -⟩ := id C
    refine lv_l2i hx hb hdg rfl ?_
    rw [← z2]
    exact h p e R s m args below meth c H locs cells slots ls G C hP hS hl hr
  · exact h.elim
theorem sd_lxor (hdg : decode (mB y) (pcA y i) = .ok (.lxor, len)) (ho : chkO y i (pcA y i) (.lxor) len o = true) (h : qStep Ls xs (PM l ad dC dI aC b Ls xs) y i o L stk M Q) : PM l ad dC dI aC b Ls xs y i L stk M Q := by
  obtain ⟨c0, a0, b0, d0, v0, l0⟩ := o
  simp only [chkO, Bool.and_eq_true] at ho
  obtain ⟨⟨g1, g2⟩, g3⟩ := ho
  have z0 := q_bq g1
  try dsimp only at z0
  subst z0
  have z1 := q_bq g2
  subst z1
  have z2 := q_bq g3
  replace h : qx_57 Ls xs (PM l ad dC dI aC b Ls xs) y i qHalt L stk M Q := q_g6 h rfl rfl rfl rfl rfl rfl
  dsimp only [qx_57] at h
  split at h
  · intro p e R s m args below meth c H locs cells slots ls G C hP hS hl hr
    obtain ⟨hx, hb, hml, hown, hts, -⟩ := id C
    refine lv_lxor hx hb hdg ?_
    rw [← z2]
    exact h p e R s m args below meth c H locs cells slots ls G C hP hS hl hr
  · exact h.elim
theorem sd_ifCond {cc : ClassFile.Cond} {off : Int} (hdg : decode (mB y) (pcA y i) = .ok (.ifCond cc off, len)) (ho : chkO y i (pcA y i) (.ifCond cc off) len o = true) (h : qStep Ls xs (PM l ad dC dI aC b Ls xs) y i o L stk M Q) : PM l ad dC dI aC b Ls xs y i L stk M Q := by
  obtain ⟨c0, a0, b0, d0, v0, l0⟩ := o
  simp only [chkO, Bool.and_eq_true] at ho
  obtain ⟨⟨⟨⟨g1, g2⟩, g3⟩, g4⟩, g5⟩ := ho
  have z0 := q_bq g1
  try dsimp only at z0
  subst z0
  have z3 := q_bq g2
  try dsimp only at z3
  subst z3
  have z4 : (pcA y i : Int) + off = (pcA y b0 : Int) := of_decide_eq_true g3
  have z1 := q_bq g4
  subst z1
  have z2 := q_bq g5
  replace h : qx_28 (PM l ad dC dI aC b Ls xs) y i _ L stk M Q := q_g3 h rfl rfl rfl
  dsimp only [qx_28] at h
  split at h
  · intro p e R s m args below meth c H locs cells slots ls G C hP hS hl hr
    obtain ⟨hx, hb, hml, hown, hts, -⟩ := id C
    obtain ⟨h1, h2⟩ := h
    cases cc
    · refine lv_if_eq hx hb hdg z4 (fun hc => ?_) (fun hc => ?_)
      · exact h1 hc p e R s m args below meth c H locs cells slots ls G C hP hS hl hr
      · rw [← z2]
        exact h2 hc p e R s m args below meth c H locs cells slots ls G C hP hS hl hr
    · refine lv_if_ne hx hb hdg z4 (fun hc => ?_) (fun hc => ?_)
      · exact h1 hc p e R s m args below meth c H locs cells slots ls G C hP hS hl hr
      · rw [← z2]
        exact h2 (fun z => z hc) p e R s m args below meth c H locs cells slots ls G C hP hS hl hr
    · refine lv_if_lt hx hb hdg z4 (fun hc => ?_) (fun hc => ?_)
      · exact h1 hc p e R s m args below meth c H locs cells slots ls G C hP hS hl hr
      · rw [← z2]
        exact h2 hc p e R s m args below meth c H locs cells slots ls G C hP hS hl hr
    · refine lv_if_ge hx hb hdg z4 (fun hc => ?_) (fun hc => ?_)
      · exact h1 hc p e R s m args below meth c H locs cells slots ls G C hP hS hl hr
      · rw [← z2]
        exact h2 hc p e R s m args below meth c H locs cells slots ls G C hP hS hl hr
    · refine lv_if_gt hx hb hdg z4 (fun hc => ?_) (fun hc => ?_)
      · exact h1 hc p e R s m args below meth c H locs cells slots ls G C hP hS hl hr
      · rw [← z2]
        exact h2 hc p e R s m args below meth c H locs cells slots ls G C hP hS hl hr
    · refine lv_if_le hx hb hdg z4 (fun hc => ?_) (fun hc => ?_)
      · exact h1 hc p e R s m args below meth c H locs cells slots ls G C hP hS hl hr
      · rw [← z2]
        exact h2 hc p e R s m args below meth c H locs cells slots ls G C hP hS hl hr
  · exact h.elim
theorem sd_if_icmp {cc : ClassFile.Cond} {off : Int} (hdg : decode (mB y) (pcA y i) = .ok (.if_icmp cc off, len)) (ho : chkO y i (pcA y i) (.if_icmp cc off) len o = true) (h : qStep Ls xs (PM l ad dC dI aC b Ls xs) y i o L stk M Q) : PM l ad dC dI aC b Ls xs y i L stk M Q := by
  obtain ⟨c0, a0, b0, d0, v0, l0⟩ := o
  simp only [chkO, Bool.and_eq_true] at ho
  obtain ⟨⟨⟨⟨g1, g2⟩, g3⟩, g4⟩, g5⟩ := ho
  have z0 := q_bq g1
  try dsimp only at z0
  subst z0
  have z3 := q_bq g2
  try dsimp only at z3
  subst z3
  have z4 : (pcA y i : Int) + off = (pcA y b0 : Int) := of_decide_eq_true g3
  have z1 := q_bq g4
  subst z1
  have z2 := q_bq g5
  replace h : qx_29 (PM l ad dC dI aC b Ls xs) y i _ L stk M Q := q_g3 h rfl rfl rfl
  dsimp only [qx_29] at h
  split at h
  · intro p e R s m args below meth c H locs cells slots ls G C hP hS hl hr
    obtain ⟨hx, hb, hml, hown, hts, -⟩ := id C
    obtain ⟨h1, h2⟩ := h
    cases cc
    · refine lv_icmp_eq hx hb hdg z4 (fun hc => ?_) (fun hc => ?_)
      · exact h1 hc p e R s m args below meth c H locs cells slots ls G C hP hS hl hr
      · rw [← z2]
        exact h2 hc p e R s m args below meth c H locs cells slots ls G C hP hS hl hr
    · refine lv_icmp_ne hx hb hdg z4 (fun hc => ?_) (fun hc => ?_)
      · exact h1 hc p e R s m args below meth c H locs cells slots ls G C hP hS hl hr
      · rw [← z2]
        exact h2 (fun z => z hc) p e R s m args below meth c H locs cells slots ls G C hP hS hl hr
    · refine lv_icmp_lt hx hb hdg z4 (fun hc => ?_) (fun hc => ?_)
      · exact h1 hc p e R s m args below meth c H locs cells slots ls G C hP hS hl hr
      · rw [← z2]
        exact h2 hc p e R s m args below meth c H locs cells slots ls G C hP hS hl hr
    · refine lv_icmp_ge hx hb hdg z4 (fun hc => ?_) (fun hc => ?_)
      · exact h1 hc p e R s m args below meth c H locs cells slots ls G C hP hS hl hr
      · rw [← z2]
        exact h2 hc p e R s m args below meth c H locs cells slots ls G C hP hS hl hr
    · refine lv_icmp_gt hx hb hdg z4 (fun hc => ?_) (fun hc => ?_)
      · exact h1 hc p e R s m args below meth c H locs cells slots ls G C hP hS hl hr
      · rw [← z2]
        exact h2 hc p e R s m args below meth c H locs cells slots ls G C hP hS hl hr
    · refine lv_icmp_le hx hb hdg z4 (fun hc => ?_) (fun hc => ?_)
      · exact h1 hc p e R s m args below meth c H locs cells slots ls G C hP hS hl hr
      · rw [← z2]
        exact h2 hc p e R s m args below meth c H locs cells slots ls G C hP hS hl hr
  · exact h.elim
theorem sd_ifnull {off : Int} (hdg : decode (mB y) (pcA y i) = .ok (.ifnull off, len)) (ho : chkO y i (pcA y i) (.ifnull off) len o = true) (h : qStep Ls xs (PM l ad dC dI aC b Ls xs) y i o L stk M Q) : PM l ad dC dI aC b Ls xs y i L stk M Q := by
  obtain ⟨c0, a0, b0, d0, v0, l0⟩ := o
  simp only [chkO, Bool.and_eq_true] at ho
  obtain ⟨⟨⟨g1, g2⟩, g3⟩, g4⟩ := ho
  have z0 := q_bq g1
  try dsimp only at z0
  subst z0
  have z4 : (pcA y i : Int) + off = (pcA y b0 : Int) := of_decide_eq_true g2
  have z1 := q_bq g3
  subst z1
  have z2 := q_bq g4
  replace h : qx_30 (PM l ad dC dI aC b Ls xs) y i _ L stk M Q := q_g3 h rfl rfl rfl
  dsimp only [qx_30] at h
  split at h
  · intro p e R s m args below meth c H locs cells slots ls G C hP hS hl hr
    obtain ⟨hx, hb, hml, hown, hts, -⟩ := id C
    refine lv_ifnullN hx hb hdg z4 ?_
    exact h p e R s m args below meth c H locs cells slots ls G C hP hS hl hr
  · intro p e R s m args below meth c H locs cells slots ls G C hP hS hl hr
    obtain ⟨hx, hb, hml, hown, hts, -⟩ := id C
    refine lv_ifnull hx hb hdg ?_
    rw [← z2]
    exact h p e R s m args below meth c H locs cells slots ls G C hP hS hl hr
  · exact h.elim
theorem sd_ifnonnull {off : Int} (hdg : decode (mB y) (pcA y i) = .ok (.ifnonnull off, len)) (ho : chkO y i (pcA y i) (.ifnonnull off) len o = true) (h : qStep Ls xs (PM l ad dC dI aC b Ls xs) y i o L stk M Q) : PM l ad dC dI aC b Ls xs y i L stk M Q := by
  obtain ⟨c0, a0, b0, d0, v0, l0⟩ := o
  simp only [chkO, Bool.and_eq_true] at ho
  obtain ⟨⟨⟨g1, g2⟩, g3⟩, g4⟩ := ho
  have z0 := q_bq g1
  try dsimp only at z0
  subst z0
  have z4 : (pcA y i : Int) + off = (pcA y b0 : Int) := of_decide_eq_true g2
  have z1 := q_bq g3
  subst z1
  have z2 := q_bq g4
  replace h : qx_31 (PM l ad dC dI aC b Ls xs) y i _ L stk M Q := q_g3 h rfl rfl rfl
  dsimp only [qx_31] at h
  split at h
  · intro p e R s m args below meth c H locs cells slots ls G C hP hS hl hr
    obtain ⟨hx, hb, hml, hown, hts, -⟩ := id C
    refine lv_ifnonnullN hx hb hdg ?_
    rw [← z2]
    exact h p e R s m args below meth c H locs cells slots ls G C hP hS hl hr
  · intro p e R s m args below meth c H locs cells slots ls G C hP hS hl hr
    obtain ⟨hx, hb, hml, hown, hts, -⟩ := id C
    refine lv_ifnonnull hx hb hdg z4 ?_
    exact h p e R s m args below meth c H locs cells slots ls G C hP hS hl hr
  · exact h.elim
theorem sd_goto {off : Int} (hdg : decode (mB y) (pcA y i) = .ok (.goto off, len)) (ho : chkO y i (pcA y i) (.goto off) len o = true) (h : qStep Ls xs (PM l ad dC dI aC b Ls xs) y i o L stk M Q) : PM l ad dC dI aC b Ls xs y i L stk M Q := by
  obtain ⟨c0, a0, b0, d0, v0, l0⟩ := o
  simp only [chkO, Bool.and_eq_true] at ho
  obtain ⟨⟨g1, g2⟩, g3⟩ := ho
  have z0 := q_bq g1
  try dsimp only at z0
  subst z0
  have z4 : (pcA y i : Int) + off = (pcA y b0 : Int) := of_decide_eq_true g2
  have z1 := q_bq g3
  subst z1
  replace h : qx_32 (PM l ad dC dI aC b Ls xs) y i _ L stk M Q := q_g3 h rfl rfl rfl
  dsimp only [qx_32] at h
  intro p e R s m args below meth c H locs cells slots ls G C hP hS hl hr
  obtain ⟨hx, hb, hml, hown, hts, -⟩ := id C
  refine lv_goto hx hb hdg z4 ?_
  exact h p e R s m args below meth c H locs cells slots ls G C hP hS hl hr
theorem sd_dup (hdg : decode (mB y) (pcA y i) = .ok (.dup, len)) (ho : chkO y i (pcA y i) (.dup) len o = true) (h : qStep Ls xs (PM l ad dC dI aC b Ls xs) y i o L stk M Q) : PM l ad dC dI aC b Ls xs y i L stk M Q := by
  obtain ⟨c0, a0, b0, d0, v0, l0⟩ := o
  simp only [chkO, Bool.and_eq_true] at ho
  obtain ⟨⟨g1, g2⟩, g3⟩ := ho
  have z0 := q_bq g1
  try dsimp only at z0
  subst z0
  have z1 := q_bq g2
  subst z1
  have z2 := q_bq g3
  replace h : qx_55 Ls xs (PM l ad dC dI aC b Ls xs) y i qHalt L stk M Q := q_g6 h rfl rfl rfl rfl rfl rfl
  dsimp only [qx_55] at h
  split at h
  · intro p e R s m args below meth c H locs cells slots ls G C hP hS hl hr
    obtain ⟨hx, hb, hml, hown, hts, -⟩ := id C
    refine lv_dup hx hb hdg rfl ?_
    rw [← z2]
    exact h p e R s m args below meth c H locs cells slots ls G C hP hS hl hr
  · intro p e R s m args below meth c H locs cells slots ls G C hP hS hl hr
    obtain ⟨hx, hb, hml, hown, hts, -⟩ := id C
    refine lv_dup hx hb hdg rfl ?_
    rw [← z2]
    exact h p e R s m args below meth c H locs cells slots ls G C hP hS hl hr
  · exact h.elim
theorem sd_dup2 (hdg : decode (mB y) (pcA y i) = .ok (.dup2, len)) (ho : chkO y i (pcA y i) (.dup2) len o = true) (h : qStep Ls xs (PM l ad dC dI aC b Ls xs) y i o L stk M Q) : PM l ad dC dI aC b Ls xs y i L stk M Q := by
  obtain ⟨c0, a0, b0, d0, v0, l0⟩ := o
  simp only [chkO, Bool.and_eq_true] at ho
  obtain ⟨⟨g1, g2⟩, g3⟩ := ho
  have z0 := q_bq g1
  try dsimp only at z0
  subst z0
  have z1 := q_bq g2
  subst z1
  have z2 := q_bq g3
  replace h : qx_56 Ls xs (PM l ad dC dI aC b Ls xs) y i qHalt L stk M Q := q_g6 h rfl rfl rfl rfl rfl rfl
  dsimp only [qx_56] at h
  split at h
  · intro p e R s m args below meth c H locs cells slots ls G C hP hS hl hr
    obtain ⟨hx, hb, hml, hown, hts, -⟩ := id C
    refine lv_dup2_11 hx hb hdg rfl rfl ?_
    rw [← z2]
    exact h p e R s m args below meth c H locs cells slots ls G C hP hS hl hr
  · exact h.elim
theorem sd_ireturn (hdg : decode (mB y) (pcA y i) = .ok (.ireturn, len)) (ho : chkO y i (pcA y i) (.ireturn) len o = true) (h : qStep Ls xs (PM l ad dC dI aC b Ls xs) y i o L stk M Q) : PM l ad dC dI aC b Ls xs y i L stk M Q := by
  obtain ⟨c0, a0, b0, d0, v0, l0⟩ := o
  simp only [chkO, Bool.and_eq_true, Bool.or_eq_true] at ho
  obtain ⟨g, g3⟩ := ho
  have z1 := q_bq g3
  subst z1
  rcases g with ⟨g1, g2⟩ | ⟨g1, g2⟩
  · have z0 := q_bq g1
    try dsimp only at z0
    subst z0
    replace h : qx_50 Ls xs (PM l ad dC dI aC b Ls xs) y i qHalt L stk M Q := q_g6 h rfl rfl rfl rfl rfl rfl
    dsimp only [qx_50] at h
    split at h
    · intro p e R s m args below meth c H locs cells slots ls G C hP hS hl hr
      exact hr (some (.int _)) M H locs ls (pcA y i) ⟨hdg, .int, of_decide_eq_true g2, rfl⟩ h hP hS
    · exact h.elim
  · have z0 := q_bq g1
    try dsimp only at z0
    subst z0
    replace h : qx_51 Ls xs (PM l ad dC dI aC b Ls xs) y i qHalt L stk M Q := q_g6 h rfl rfl rfl rfl rfl rfl
    dsimp only [qx_51] at h
    split at h
    · intro p e R s m args below meth c H locs cells slots ls G C hP hS hl hr
      exact hr (some (.int _)) M H locs ls (pcA y i) ⟨hdg, .boolean, of_decide_eq_true g2, h.1⟩ h.2 hP hS
    · exact h.elim
theorem sd_lreturn (hdg : decode (mB y) (pcA y i) = .ok (.lreturn, len)) (ho : chkO y i (pcA y i) (.lreturn) len o = true) (h : qStep Ls xs (PM l ad dC dI aC b Ls xs) y i o L stk M Q) : PM l ad dC dI aC b Ls xs y i L stk M Q := by
  obtain ⟨c0, a0, b0, d0, v0, l0⟩ := o
  simp only [chkO, Bool.and_eq_true] at ho
  obtain ⟨⟨g1, g2⟩, g3⟩ := ho
  have z0 := q_bq g1
  try dsimp only at z0
  subst z0
  have z1 := q_bq g3
  subst z1
  replace h : qx_52 Ls xs (PM l ad dC dI aC b Ls xs) y i qHalt L stk M Q := q_g6 h rfl rfl rfl rfl rfl rfl
  dsimp only [qx_52] at h
  split at h
  · intro p e R s m args below meth c H locs cells slots ls G C hP hS hl hr
    exact hr (some (.long _)) M H locs ls (pcA y i) ⟨hdg, of_decide_eq_true g2⟩ h hP hS
  · exact h.elim
theorem sd_areturn (hdg : decode (mB y) (pcA y i) = .ok (.areturn, len)) (ho : chkO y i (pcA y i) (.areturn) len o = true) (h : qStep Ls xs (PM l ad dC dI aC b Ls xs) y i o L stk M Q) : PM l ad dC dI aC b Ls xs y i L stk M Q := by
  obtain ⟨c0, a0, b0, d0, v0, l0⟩ := o
  simp only [chkO, Bool.and_eq_true] at ho
  obtain ⟨⟨g1, g2⟩, g3⟩ := ho
  have z0 := q_bq g1
  try dsimp only at z0
  subst z0
  have z1 := q_bq g3
  subst z1
  replace h : qx_53 Ls xs (PM l ad dC dI aC b Ls xs) y i qHalt L stk M Q := q_g6 h rfl rfl rfl rfl rfl rfl
  dsimp only [qx_53] at h
  have hR : ∃ n, mR y = some (.object n) := by
    revert g2
    cases mR y with
    | none => intro g2; cases g2
    | some t => cases t <;> intro g2 <;> first | exact ⟨_, rfl⟩ | cases g2
  split at h
  · intro p e R s m args below meth c H locs cells slots ls G C hP hS hl hr
    exact hr (some (.ref _)) M H locs ls (pcA y i) ⟨hdg, hR⟩ h hP hS
  · intro p e R s m args below meth c H locs cells slots ls G C hP hS hl hr
    exact hr (some .null) M H locs ls (pcA y i) ⟨hdg, hR⟩ h hP hS
  · exact h.elim
theorem sd_return (hdg : decode (mB y) (pcA y i) = .ok (.return_, len)) (ho : chkO y i (pcA y i) (.return_) len o = true) (h : qStep Ls xs (PM l ad dC dI aC b Ls xs) y i o L stk M Q) : PM l ad dC dI aC b Ls xs y i L stk M Q := by
  obtain ⟨c0, a0, b0, d0, v0, l0⟩ := o
  simp only [chkO, Bool.and_eq_true] at ho
  obtain ⟨⟨g1, g2⟩, g3⟩ := ho
  have z0 := q_bq g1
  try dsimp only at z0
  subst z0
  have z1 := q_bq g3
  subst z1
  replace h : qx_54 Ls xs (PM l ad dC dI aC b Ls xs) y i qHalt L stk M Q := q_g6 h rfl rfl rfl rfl rfl rfl
  dsimp only [qx_54] at h
  split at h
  · intro p e R s m args below meth c H locs cells slots ls G C hP hS hl hr
    exact hr none M H locs ls (pcA y i) ⟨hdg, of_decide_eq_true g2⟩ h hP hS
  · exact h.elim
end QS
end
section
/-! the abstract machine stands for the machine: fields, arrays, switches -/
section QS
variable {l : Launch} {ad : Nat → Nat} {dC : Nat → ClassId} {dI : Nat → Nat → Nat} {aC : Nat → ClassId} {b Ls : Nat} {xs : Nat → Int32}
variable {y i len : Nat} {o : qOp} {L : qLc} {stk : List Value} {M : qMem} {Q : qPost}
theorem sd_getfield (hA : qAd ad b) {idx : Nat} (hdg : decode (mB y) (pcA y i) = .ok (.getfield idx, len)) (ho : chkO y i (pcA y i) (.getfield idx) len o = true) (h : qStep Ls xs (PM l ad dC dI aC b Ls xs) y i o L stk M Q) : PM l ad dC dI aC b Ls xs y i L stk M Q := by
  obtain ⟨c0, a0, b0, d0, v0, l0⟩ := o
  simp only [chkO, Bool.and_eq_true, Bool.or_eq_true] at ho
  obtain ⟨⟨g1, g2⟩, g3⟩ := ho
  have z1 := q_bq g1
  subst z1
  have z2 := q_bq g2
  rcases g3 with ((((g3 | g3) | g3) | g3) | g3) | g3
  · obtain ⟨⟨g4, g5⟩, g6⟩ := g3
    have z0 := q_bq g4
    try dsimp only at z0
    subst z0
    have z6 := q_bq g6
    try dsimp only at z6
    replace h : qx_34 (PM l ad dC dI aC b Ls xs) y i _ L stk M Q := q_g4 h rfl rfl rfl rfl
    dsimp only [qx_34] at h
    split at h
    · rename_i k st
      obtain ⟨h0, h⟩ := h
      simp only [chkF, Bool.and_eq_true] at g5
      obtain ⟨⟨⟨g7, g8⟩, g9⟩, g10⟩ := g5
      have w7 : a0 < 7 := Nat.le_of_ble_eq_true g7
      have w8 : b0 < cN a0 := Nat.le_of_ble_eq_true g8
      have w10 : (cT a0 b0).1 = cC a0 := of_decide_eq_true g10
      intro p e R s m args below meth c H locs cells slots ls G C hP hS hl hr
      obtain ⟨hx, hb, hml, hown, hts, -, -, -, -, hK, hX, hbl, hN⟩ := id C
      have hk44 : k < 72 := sh_lt (by omega)
      have he := wl_get (ad := ad) (aC := aC) (M := M) hk44
      rw [ent_o h0 w7] at he
      have hv : ((List.range (cN a0)).map (fv ad M a0 k))[b0]? = some (tr ad (.int (M.1 k b0))) := by
        rw [List.getElem?_map, List.getElem?_range w8]
        show some (fv ad M a0 k b0) = _
        unfold fv
        rw [z6]
        rfl
      refine va_get (D := (dC, dI)) hx hb hts (cls_w a0 w7) hown hK hP k he (cls_c a0 w7) b0 w8 (hts _ (tbw_T g9 rfl)) (fun x hx9 => by rw [← w10]; exact hx9) hv hdg ?_
      rw [← z2]
      exact h p e R s m args below meth c H locs cells slots ls G C hP hS hl hr
    · exact h.elim
  · obtain ⟨⟨g4, g5⟩, g6⟩ := g3
    have z0 := q_bq g4
    try dsimp only at z0
    subst z0
    have z6 := q_bq g6
    try dsimp only at z6
    replace h : qx_35 (PM l ad dC dI aC b Ls xs) y i _ L stk M Q := q_g4 h rfl rfl rfl rfl
    dsimp only [qx_35] at h
    split at h
    · rename_i k st
      obtain ⟨h0, h⟩ := h
      simp only [chkF, Bool.and_eq_true] at g5
      obtain ⟨⟨⟨g7, g8⟩, g9⟩, g10⟩ := g5
      have w7 : a0 < 7 := Nat.le_of_ble_eq_true g7
      have w8 : b0 < cN a0 := Nat.le_of_ble_eq_true g8
      have w10 : (cT a0 b0).1 = cC a0 := of_decide_eq_true g10
      intro p e R s m args below meth c H locs cells slots ls G C hP hS hl hr
      obtain ⟨hx, hb, hml, hown, hts, -, -, -, -, hK, hX, hbl, hN⟩ := id C
      have hk44 : k < 72 := sh_lt (by omega)
      have he := wl_get (ad := ad) (aC := aC) (M := M) hk44
      rw [ent_o h0 w7] at he
      have hv : ((List.range (cN a0)).map (fv ad M a0 k))[b0]? = some (tr ad (.long (M.2 k b0))) := by
        rw [List.getElem?_map, List.getElem?_range w8]
        show some (fv ad M a0 k b0) = _
        unfold fv
        rw [z6]
        rfl
      refine va_get (D := (dC, dI)) hx hb hts (cls_w a0 w7) hown hK hP k he (cls_c a0 w7) b0 w8 (hts _ (tbw_T g9 rfl)) (fun x hx9 => by rw [← w10]; exact hx9) hv hdg ?_
      rw [← z2]
      exact h p e R s m args below meth c H locs cells slots ls G C hP hS hl hr
    · exact h.elim
  · obtain ⟨⟨g4, g5⟩, g6⟩ := g3
    have z0 := q_bq g4
    try dsimp only at z0
    subst z0
    have z6 := q_bq g6
    try dsimp only at z6
    replace h : qx_36 (PM l ad dC dI aC b Ls xs) y i _ L stk M Q := q_g4 h rfl rfl rfl rfl
    dsimp only [qx_36] at h
    split at h
    · rename_i k st
      obtain ⟨h0, h⟩ := h
      simp only [chkF, Bool.and_eq_true] at g5
      obtain ⟨⟨⟨g7, g8⟩, g9⟩, g10⟩ := g5
      have w7 : a0 < 7 := Nat.le_of_ble_eq_true g7
      have w8 : b0 < cN a0 := Nat.le_of_ble_eq_true g8
      have w10 : (cT a0 b0).1 = cC a0 := of_decide_eq_true g10
      intro p e R s m args below meth c H locs cells slots ls G C hP hS hl hr
      obtain ⟨hx, hb, hml, hown, hts, -, -, -, -, hK, hX, hbl, hN⟩ := id C
      have hk44 : k < 72 := sh_lt (by omega)
      have he := wl_get (ad := ad) (aC := aC) (M := M) hk44
      rw [ent_o h0 w7] at he
      have hv : ((List.range (cN a0)).map (fv ad M a0 k))[b0]? = some (tr ad (.ref (rf k b0))) := by
        rw [List.getElem?_map, List.getElem?_range w8]
        show some (fv ad M a0 k b0) = _
        unfold fv
        rw [z6]
        rfl
      refine va_get (D := (dC, dI)) hx hb hts (cls_w a0 w7) hown hK hP k he (cls_c a0 w7) b0 w8 (hts _ (tbw_T g9 rfl)) (fun x hx9 => by rw [← w10]; exact hx9) hv hdg ?_
      rw [← z2]
      exact h p e R s m args below meth c H locs cells slots ls G C hP hS hl hr
    · exact h.elim
  · obtain ⟨⟨g4, g5⟩, g6⟩ := g3
    have z0 := q_bq g4
    try dsimp only at z0
    subst z0
    have z6 := q_bq g6
    try dsimp only at z6
    replace h : qx_60 (PM l ad dC dI aC b Ls xs) y i _ L stk M Q := q_g7 h rfl rfl rfl rfl rfl rfl
    dsimp only [qx_60] at h
    split at h
    · rename_i k st
      obtain ⟨h0, h⟩ := h
      simp only [chkG, Bool.and_eq_true] at g5
      obtain ⟨⟨⟨g7, g8⟩, g9⟩, g10⟩ := g5
      have w7 : a0 < 7 := Nat.le_of_ble_eq_true g7
      have w8 : b0 < cN a0 := Nat.le_of_ble_eq_true g8
      have w10 : (cT a0 b0).1 = cC a0 := of_decide_eq_true g10
      intro p e R s m args below meth c H locs cells slots ls G C hP hS hl hr
      obtain ⟨hx, hb, hml, hown, hts, -, -, -, -, hK, hX, hbl, hN⟩ := id C
      have hk44 : k < 72 := sh_lt (by omega)
      have he := wl_get (ad := ad) (aC := aC) (M := M) hk44
      rw [ent_o h0 w7] at he
      have hv : ((List.range (cN a0)).map (fv ad M a0 k))[b0]? = some (tr ad (.int (M.1 k b0))) := by
        rw [List.getElem?_map, List.getElem?_range w8]
        show some (fv ad M a0 k b0) = _
        unfold fv
        rw [z6]
        rfl
      have hq : ∃ t, t ∈ qNst ∧ qNw t = .fieldLinkNest (mO y) idx (cC a0) (cT a0 b0).2.1 (cT a0 b0).2.2.1 "StabilityAnalyzer" := by
        have q9 := of_decide_eq_true g9
        cases hz : qNst[d0]? with
        | none => rw [hz] at q9; cases q9
        | some t => rw [hz] at q9; exact ⟨t, List.mem_of_getElem? hz, Option.some.inj q9⟩
      obtain ⟨t, ht, hqt⟩ := hq
      have hln := hN t ht
      rw [hqt] at hln
      refine va_getN (D := (dC, dI)) hx hb hts (cls_w a0 w7) hown hK hP k he (cls_c a0 w7) b0 w8 (va_Nw.use rfl hln) (fun x hx9 => by rw [← w10]; exact hx9) hv hdg ?_
      rw [← z2]
      exact h p e R s m args below meth c H locs cells slots ls G C hP hS hl hr
    · exact h.elim
  · obtain ⟨⟨g4, g5⟩, g6⟩ := g3
    have z0 := q_bq g4
    try dsimp only at z0
    subst z0
    have z6 := q_bq g6
    try dsimp only at z6
    replace h : qx_61 (PM l ad dC dI aC b Ls xs) y i _ L stk M Q := q_g7 h rfl rfl rfl rfl rfl rfl
    dsimp only [qx_61] at h
    split at h
    · rename_i k st
      obtain ⟨h0, h⟩ := h
      simp only [chkG, Bool.and_eq_true] at g5
      obtain ⟨⟨⟨g7, g8⟩, g9⟩, g10⟩ := g5
      have w7 : a0 < 7 := Nat.le_of_ble_eq_true g7
      have w8 : b0 < cN a0 := Nat.le_of_ble_eq_true g8
      have w10 : (cT a0 b0).1 = cC a0 := of_decide_eq_true g10
      intro p e R s m args below meth c H locs cells slots ls G C hP hS hl hr
      obtain ⟨hx, hb, hml, hown, hts, -, -, -, -, hK, hX, hbl, hN⟩ := id C
      have hk44 : k < 72 := sh_lt (by omega)
      have he := wl_get (ad := ad) (aC := aC) (M := M) hk44
      rw [ent_o h0 w7] at he
      have hv : ((List.range (cN a0)).map (fv ad M a0 k))[b0]? = some (tr ad (.long (M.2 k b0))) := by
        rw [List.getElem?_map, List.getElem?_range w8]
        show some (fv ad M a0 k b0) = _
        unfold fv
        rw [z6]
        rfl
      have hq : ∃ t, t ∈ qNst ∧ qNw t = .fieldLinkNest (mO y) idx (cC a0) (cT a0 b0).2.1 (cT a0 b0).2.2.1 "StabilityAnalyzer" := by
        have q9 := of_decide_eq_true g9
        cases hz : qNst[d0]? with
        | none => rw [hz] at q9; cases q9
        | some t => rw [hz] at q9; exact ⟨t, List.mem_of_getElem? hz, Option.some.inj q9⟩
      obtain ⟨t, ht, hqt⟩ := hq
      have hln := hN t ht
      rw [hqt] at hln
      refine va_getN (D := (dC, dI)) hx hb hts (cls_w a0 w7) hown hK hP k he (cls_c a0 w7) b0 w8 (va_Nw.use rfl hln) (fun x hx9 => by rw [← w10]; exact hx9) hv hdg ?_
      rw [← z2]
      exact h p e R s m args below meth c H locs cells slots ls G C hP hS hl hr
    · exact h.elim
  · obtain ⟨⟨g4, g5⟩, g6⟩ := g3
    have z0 := q_bq g4
    try dsimp only at z0
    subst z0
    have z6 := q_bq g6
    try dsimp only at z6
    replace h : qx_62 (PM l ad dC dI aC b Ls xs) y i _ L stk M Q := q_g7 h rfl rfl rfl rfl rfl rfl
    dsimp only [qx_62] at h
    split at h
    · rename_i k st
      obtain ⟨h0, h⟩ := h
      simp only [chkG, Bool.and_eq_true] at g5
      obtain ⟨⟨⟨g7, g8⟩, g9⟩, g10⟩ := g5
      have w7 : a0 < 7 := Nat.le_of_ble_eq_true g7
      have w8 : b0 < cN a0 := Nat.le_of_ble_eq_true g8
      have w10 : (cT a0 b0).1 = cC a0 := of_decide_eq_true g10
      intro p e R s m args below meth c H locs cells slots ls G C hP hS hl hr
      obtain ⟨hx, hb, hml, hown, hts, -, -, -, -, hK, hX, hbl, hN⟩ := id C
      have hk44 : k < 72 := sh_lt (by omega)
      have he := wl_get (ad := ad) (aC := aC) (M := M) hk44
      rw [ent_o h0 w7] at he
      have hv : ((List.range (cN a0)).map (fv ad M a0 k))[b0]? = some (tr ad (.ref (rf k b0))) := by
        rw [List.getElem?_map, List.getElem?_range w8]
        show some (fv ad M a0 k b0) = _
        unfold fv
        rw [z6]
        rfl
      have hq : ∃ t, t ∈ qNst ∧ qNw t = .fieldLinkNest (mO y) idx (cC a0) (cT a0 b0).2.1 (cT a0 b0).2.2.1 "StabilityAnalyzer" := by
        have q9 := of_decide_eq_true g9
        cases hz : qNst[d0]? with
        | none => rw [hz] at q9; cases q9
        | some t => rw [hz] at q9; exact ⟨t, List.mem_of_getElem? hz, Option.some.inj q9⟩
      obtain ⟨t, ht, hqt⟩ := hq
      have hln := hN t ht
      rw [hqt] at hln
      refine va_getN (D := (dC, dI)) hx hb hts (cls_w a0 w7) hown hK hP k he (cls_c a0 w7) b0 w8 (va_Nw.use rfl hln) (fun x hx9 => by rw [← w10]; exact hx9) hv hdg ?_
      rw [← z2]
      exact h p e R s m args below meth c H locs cells slots ls G C hP hS hl hr
    · exact h.elim
theorem sd_putfield (hA : qAd ad b) {idx : Nat} (hdg : decode (mB y) (pcA y i) = .ok (.putfield idx, len)) (ho : chkO y i (pcA y i) (.putfield idx) len o = true) (h : qStep Ls xs (PM l ad dC dI aC b Ls xs) y i o L stk M Q) : PM l ad dC dI aC b Ls xs y i L stk M Q := by
  obtain ⟨c0, a0, b0, d0, v0, l0⟩ := o
  simp only [chkO, Bool.and_eq_true, Bool.or_eq_true] at ho
  obtain ⟨⟨g1, g2⟩, g3⟩ := ho
  have z1 := q_bq g1
  subst z1
  have z2 := q_bq g2
  rcases g3 with ((g3 | g3) | g3) | g3
  · obtain ⟨⟨⟨g4, g5⟩, gp⟩, g6⟩ := g3
    have z0 := q_bq g4
    try dsimp only at z0
    subst z0
    have z6 := q_bq g6
    try dsimp only at z6
    replace h : qx_37 (PM l ad dC dI aC b Ls xs) y i _ L stk M Q := q_g4 h rfl rfl rfl rfl
    dsimp only [qx_37] at h
    split at h
    · rename_i x k st
      obtain ⟨h0, h⟩ := h
      simp only [chkF, Bool.and_eq_true] at g5
      simp only [chkP, Bool.and_eq_true] at gp
      obtain ⟨⟨⟨g7, g8⟩, g9⟩, g10⟩ := g5
      obtain ⟨gp1, gp2⟩ := gp
      have w7 : a0 < 7 := Nat.le_of_ble_eq_true g7
      have w8 : b0 < cN a0 := Nat.le_of_ble_eq_true g8
      have w10 : (cT a0 b0).1 = cC a0 := of_decide_eq_true g10
      intro p e R s m args below meth c H locs cells slots ls G C hP hS hl hr
      obtain ⟨hx, hb, hml, hown, hts, -, -, -, -, hK, hX, hbl, hN⟩ := id C
      have hk44 : k < 72 := sh_lt (by omega)
      have he := wl_get (ad := ad) (aC := aC) (M := M) hk44
      rw [ent_o h0 w7] at he
      have hset : (wl ad aC M).set k (ad k, .inr (a0, ((List.range (cN a0)).map (fv ad M a0 k)).set b0 (.int x))) = wl ad aC (pI M k b0 x) := wl_set hk44 (by rw [ent_o h0 w7, fv_pI z6]) (fun k' hk' => ent_pI hk')
      refine va_put (D := (dC, dI)) hx hb hts (cls_w a0 w7) (cY a0) (cls_t a0 w7) (cls_n a0 w7) hown hK hP (wl_D hA aC M) hS k he (cls_c a0 w7) b0 w8 (hts _ (tbw_T g9 rfl)) (fun x hx9 => by rw [← w10]; exact hx9) (of_decide_eq_true gp2) (ty := .int) (v := .int x) (of_decide_eq_true gp1) rfl rfl (by simpa using w8) hdg (fun H1 locs1 hP1 hD1 hS1 => ?_)
      rw [hset] at hP1
      rw [← z2]
      exact h p e R s m args below meth c H1 locs1 cells slots ls G C hP1 hS1 hl hr
    · exact h.elim
  · obtain ⟨⟨⟨g4, g5⟩, gp⟩, g6⟩ := g3
    have z0 := q_bq g4
    try dsimp only at z0
    subst z0
    have z6 := q_bq g6
    try dsimp only at z6
    replace h : qx_38 (PM l ad dC dI aC b Ls xs) y i _ L stk M Q := q_g4 h rfl rfl rfl rfl
    dsimp only [qx_38] at h
    split at h
    · rename_i x k st
      obtain ⟨h0, h⟩ := h
      simp only [chkF, Bool.and_eq_true] at g5
      simp only [chkP, Bool.and_eq_true] at gp
      obtain ⟨⟨⟨g7, g8⟩, g9⟩, g10⟩ := g5
      obtain ⟨gp1, gp2⟩ := gp
      have w7 : a0 < 7 := Nat.le_of_ble_eq_true g7
      have w8 : b0 < cN a0 := Nat.le_of_ble_eq_true g8
      have w10 : (cT a0 b0).1 = cC a0 := of_decide_eq_true g10
      intro p e R s m args below meth c H locs cells slots ls G C hP hS hl hr
      obtain ⟨hx, hb, hml, hown, hts, -, -, -, -, hK, hX, hbl, hN⟩ := id C
      have hk44 : k < 72 := sh_lt (by omega)
      have he := wl_get (ad := ad) (aC := aC) (M := M) hk44
      rw [ent_o h0 w7] at he
      have hset : (wl ad aC M).set k (ad k, .inr (a0, ((List.range (cN a0)).map (fv ad M a0 k)).set b0 (.long x))) = wl ad aC (pJ M k b0 x) := wl_set hk44 (by rw [ent_o h0 w7, fv_pJ z6]) (fun k' hk' => ent_pJ hk')
      refine va_put (D := (dC, dI)) hx hb hts (cls_w a0 w7) (cY a0) (cls_t a0 w7) (cls_n a0 w7) hown hK hP (wl_D hA aC M) hS k he (cls_c a0 w7) b0 w8 (hts _ (tbw_T g9 rfl)) (fun x hx9 => by rw [← w10]; exact hx9) (of_decide_eq_true gp2) (ty := .long) (v := .long x) (of_decide_eq_true gp1) rfl rfl (by simpa using w8) hdg (fun H1 locs1 hP1 hD1 hS1 => ?_)
      rw [hset] at hP1
      rw [← z2]
      exact h p e R s m args below meth c H1 locs1 cells slots ls G C hP1 hS1 hl hr
    · exact h.elim
  · obtain ⟨⟨⟨g4, g5⟩, gp⟩, g6⟩ := g3
    have z0 := q_bq g4
    try dsimp only at z0
    subst z0
    have z6 := q_bq g6
    try dsimp only at z6
    replace h : qx_39 (PM l ad dC dI aC b Ls xs) y i _ L stk M Q := q_g4 h rfl rfl rfl rfl
    dsimp only [qx_39] at h
    split at h
    · rename_i x k st
      obtain ⟨h0, hnar, h⟩ := h
      simp only [chkF, Bool.and_eq_true] at g5
      simp only [chkP, Bool.and_eq_true] at gp
      obtain ⟨⟨⟨g7, g8⟩, g9⟩, g10⟩ := g5
      obtain ⟨gp1, gp2⟩ := gp
      have w7 : a0 < 7 := Nat.le_of_ble_eq_true g7
      have w8 : b0 < cN a0 := Nat.le_of_ble_eq_true g8
      have w10 : (cT a0 b0).1 = cC a0 := of_decide_eq_true g10
      intro p e R s m args below meth c H locs cells slots ls G C hP hS hl hr
      obtain ⟨hx, hb, hml, hown, hts, -, -, -, -, hK, hX, hbl, hN⟩ := id C
      have hk44 : k < 72 := sh_lt (by omega)
      have he := wl_get (ad := ad) (aC := aC) (M := M) hk44
      rw [ent_o h0 w7] at he
      have hset : (wl ad aC M).set k (ad k, .inr (a0, ((List.range (cN a0)).map (fv ad M a0 k)).set b0 (.int x))) = wl ad aC (pI M k b0 x) := wl_set hk44 (by rw [ent_o h0 w7, fv_pI z6]) (fun k' hk' => ent_pI hk')
      refine va_put (D := (dC, dI)) hx hb hts (cls_w a0 w7) (cY a0) (cls_t a0 w7) (cls_n a0 w7) hown hK hP (wl_D hA aC M) hS k he (cls_c a0 w7) b0 w8 (hts _ (tbw_T g9 rfl)) (fun x hx9 => by rw [← w10]; exact hx9) (of_decide_eq_true gp2) (ty := .boolean) (v := .int x) (of_decide_eq_true gp1) hnar (q_fitZ hnar) (by simpa using w8) hdg (fun H1 locs1 hP1 hD1 hS1 => ?_)
      rw [hset] at hP1
      rw [← z2]
      exact h p e R s m args below meth c H1 locs1 cells slots ls G C hP1 hS1 hl hr
    · exact h.elim
  · obtain ⟨⟨⟨g4, g5⟩, gp⟩, g6⟩ := g3
    have z0 := q_bq g4
    try dsimp only at z0
    subst z0
    have z6 := q_bq g6
    try dsimp only at z6
    replace h : qx_65 (PM l ad dC dI aC b Ls xs) y i _ L stk M Q := q_g7 h rfl rfl rfl rfl rfl rfl
    dsimp only [qx_65] at h
    split at h
    · rename_i x k st
      obtain ⟨h0, hnar, h⟩ := h
      simp only [chkG, Bool.and_eq_true] at g5
      simp only [chkP, Bool.and_eq_true] at gp
      obtain ⟨⟨⟨g7, g8⟩, g9⟩, g10⟩ := g5
      obtain ⟨gp1, gp2⟩ := gp
      have w7 : a0 < 7 := Nat.le_of_ble_eq_true g7
      have w8 : b0 < cN a0 := Nat.le_of_ble_eq_true g8
      have w10 : (cT a0 b0).1 = cC a0 := of_decide_eq_true g10
      intro p e R s m args below meth c H locs cells slots ls G C hP hS hl hr
      obtain ⟨hx, hb, hml, hown, hts, -, -, -, -, hK, hX, hbl, hN⟩ := id C
      have hk44 : k < 72 := sh_lt (by omega)
      have he := wl_get (ad := ad) (aC := aC) (M := M) hk44
      rw [ent_o h0 w7] at he
      have hset : (wl ad aC M).set k (ad k, .inr (a0, ((List.range (cN a0)).map (fv ad M a0 k)).set b0 (.int x))) = wl ad aC (pI M k b0 x) := wl_set hk44 (by rw [ent_o h0 w7, fv_pI z6]) (fun k' hk' => ent_pI hk')
      have hq : ∃ t, t ∈ qNst ∧ qNw t = .fieldLinkNest (mO y) idx (cC a0) (cT a0 b0).2.1 (cT a0 b0).2.2.1 "StabilityAnalyzer" := by
        have q9 := of_decide_eq_true g9
        cases hz : qNst[d0]? with
        | none => rw [hz] at q9; cases q9
        | some t => rw [hz] at q9; exact ⟨t, List.mem_of_getElem? hz, Option.some.inj q9⟩
      obtain ⟨t, ht, hqt⟩ := hq
      have hln := hN t ht
      rw [hqt] at hln
      refine va_putN (D := (dC, dI)) hx hb hts (cls_w a0 w7) (cY a0) (cls_t a0 w7) (cls_n a0 w7) hown hK hP (wl_D hA aC M) hS k he (cls_c a0 w7) b0 w8 (va_Nw.use rfl hln) (fun x hx9 => by rw [← w10]; exact hx9) (of_decide_eq_true gp2) (ty := .boolean) (v := .int x) (of_decide_eq_true gp1) hnar (q_fitZ hnar) (by simpa using w8) hdg (fun H1 locs1 hP1 hD1 hS1 => ?_)
      rw [hset] at hP1
      rw [← z2]
      exact h p e R s m args below meth c H1 locs1 cells slots ls G C hP1 hS1 hl hr
    · exact h.elim
theorem sd_arraylength (hA : qAd ad b) (hdg : decode (mB y) (pcA y i) = .ok (.arraylength, len)) (ho : chkO y i (pcA y i) (.arraylength) len o = true) (h : qStep Ls xs (PM l ad dC dI aC b Ls xs) y i o L stk M Q) : PM l ad dC dI aC b Ls xs y i L stk M Q := by
  obtain ⟨c0, a0, b0, d0, v0, l0⟩ := o
  simp only [chkO, Bool.and_eq_true, Bool.or_eq_true] at ho
  obtain ⟨⟨g1, g2⟩, g3⟩ := ho
  have z1 := q_bq g2
  subst z1
  have z2 := q_bq g3
  rcases g1 with g1 | g1
  · have z0 := q_bq g1
    try dsimp only at z0
    subst z0
    replace h : qx_40 (PM l ad dC dI aC b Ls xs) y i qHalt L stk M Q := q_g5 h rfl rfl rfl rfl rfl
    dsimp only [qx_40] at h
    split at h
    · rename_i k st
      obtain ⟨h0, h1, h⟩ := h
      intro p e R s m args below meth c H locs cells slots ls G C hP hS hl hr
      obtain ⟨hx, hb, hml, hown, hts, -, -, -, -, hK, hX, hbl, hN⟩ := id C
      have hk44 : k < 72 := sh_lt h1
      have he := wl_get (ad := ad) (aC := aC) (M := M) hk44
      have ht : ∀ j : Nat, j < 5 → ∃ q, (qTy aC)[j]? = some q := fun j hj => by
        rcases (show j = 0 ∨ j = 1 ∨ j = 2 ∨ j = 3 ∨ j = 4 by omega) with rfl | rfl | rfl | rfl | rfl <;> exact ⟨_, rfl⟩
      rcases (show shT k = 100 ∨ shT k = 101 ∨ shT k = 102 ∨ shT k = 103 ∨ shT k = 104 by omega) with q | q | q | q | q
      · rw [ent_100 q] at he
        refine va_alen (D := (dC, dI)) hx hb hK hP k 0 he rfl rfl hdg ?_
        rw [← z2]
        exact h p e R s m args below meth c H locs cells slots ls G C hP hS hl hr
      · rw [ent_101 q] at he
        refine va_alen (D := (dC, dI)) hx hb hK hP k 1 he rfl rfl hdg ?_
        rw [← z2]
        exact h p e R s m args below meth c H locs cells slots ls G C hP hS hl hr
      · rw [ent_102 q] at he
        refine va_alen (D := (dC, dI)) hx hb hK hP k 2 he rfl rfl hdg ?_
        rw [← z2]
        exact h p e R s m args below meth c H locs cells slots ls G C hP hS hl hr
      · rw [ent_103 q] at he
        refine va_alen (D := (dC, dI)) hx hb hK hP k 3 he rfl rfl hdg ?_
        rw [← z2]
        exact h p e R s m args below meth c H locs cells slots ls G C hP hS hl hr
      · rw [ent_104 q] at he
        refine va_alen (D := (dC, dI)) hx hb hK hP k 4 he rfl rfl hdg ?_
        rw [← z2]
        exact h p e R s m args below meth c H locs cells slots ls G C hP hS hl hr
    · exact h.elim
  · have z0 := q_bq g1
    try dsimp only at z0
    subst z0
    replace h : qx_59 Ls xs (PM l ad dC dI aC b Ls xs) y i qHalt L stk M Q := q_g6 h rfl rfl rfl rfl rfl rfl
    dsimp only [qx_59] at h
    split at h
    · rename_i st
      intro p e R s m args below meth c H locs cells slots ls G C hP hS hl hr
      obtain ⟨hx, hb, hml, hown, hts, -, -, -, -, hK, hX, hbl, hN⟩ := id C
      have hst : trS ad (.ref 1000 :: st) = .ref b :: trS ad st := by
        show Value.ref (ad 1000) :: _ = _
        rw [hA.2.2]
        rfl
      rw [hst]
      refine va_slen hx hb hX hbl (fun q => by obtain ⟨k, hk, e⟩ := q; exact hA.2.1 k hk e.symm) hS hdg ?_
      rw [← z2]
      exact h p e R s m args below meth c H locs cells slots ls G C hP hS hl hr
    · exact h.elim
theorem sd_iaload (hA : qAd ad b) (hdg : decode (mB y) (pcA y i) = .ok (.iaload, len)) (ho : chkO y i (pcA y i) (.iaload) len o = true) (h : qStep Ls xs (PM l ad dC dI aC b Ls xs) y i o L stk M Q) : PM l ad dC dI aC b Ls xs y i L stk M Q := by
  obtain ⟨c0, a0, b0, d0, v0, l0⟩ := o
  simp only [chkO, Bool.and_eq_true, Bool.or_eq_true] at ho
  obtain ⟨⟨g1, g2⟩, g3⟩ := ho
  have z1 := q_bq g2
  subst z1
  have z2 := q_bq g3
  rcases g1 with g1 | g1
  · have z0 := q_bq g1
    try dsimp only at z0
    subst z0
    replace h : qx_41 (PM l ad dC dI aC b Ls xs) y i qHalt L stk M Q := q_g5 h rfl rfl rfl rfl rfl
    dsimp only [qx_41] at h
    split at h
    · rename_i j k st
      obtain ⟨h0, h1, h⟩ := h
      intro p e R s m args below meth c H locs cells slots ls G C hP hS hl hr
      obtain ⟨hx, hb, hml, hown, hts, -, -, -, -, hK, hX, hbl, hN⟩ := id C
      have he := wl_get (ad := ad) (aC := aC) (M := M) (k := k) (sh_lt (by omega))
      rw [ent_100 h0] at he
      refine va_iald (D := (dC, dI)) hx hb hK hP k 0 he rfl h1 hdg ?_
      rw [← z2]
      exact h p e R s m args below meth c H locs cells slots ls G C hP hS hl hr
    · exact h.elim
  · have z0 := q_bq g1
    try dsimp only at z0
    subst z0
    replace h : qx_58 Ls xs (PM l ad dC dI aC b Ls xs) y i qHalt L stk M Q := q_g6 h rfl rfl rfl rfl rfl rfl
    dsimp only [qx_58] at h
    split at h
    · rename_i j st
      obtain ⟨h1, h⟩ := h
      intro p e R s m args below meth c H locs cells slots ls G C hP hS hl hr
      obtain ⟨hx, hb, hml, hown, hts, -, -, -, -, hK, hX, hbl, hN⟩ := id C
      have hst : trS ad (.int j :: .ref 1000 :: st) = .int j :: .ref b :: trS ad st := by
        show Value.int j :: Value.ref (ad 1000) :: _ = _
        rw [hA.2.2]
        rfl
      rw [hst]
      refine va_sld hx hb hX hbl (fun q => by obtain ⟨k, hk, e⟩ := q; exact hA.2.1 k hk e.symm) hS h1 hdg ?_
      rw [← z2]
      exact h p e R s m args below meth c H locs cells slots ls G C hP hS hl hr
    · exact h.elim
theorem sd_laload (hA : qAd ad b) (hdg : decode (mB y) (pcA y i) = .ok (.laload, len)) (ho : chkO y i (pcA y i) (.laload) len o = true) (h : qStep Ls xs (PM l ad dC dI aC b Ls xs) y i o L stk M Q) : PM l ad dC dI aC b Ls xs y i L stk M Q := by
  obtain ⟨c0, a0, b0, d0, v0, l0⟩ := o
  simp only [chkO, Bool.and_eq_true] at ho
  obtain ⟨⟨g1, g2⟩, g3⟩ := ho
  have z1 := q_bq g2
  subst z1
  have z2 := q_bq g3
  have z0 := q_bq g1
  try dsimp only at z0
  subst z0
  replace h : qx_42 (PM l ad dC dI aC b Ls xs) y i qHalt L stk M Q := q_g5 h rfl rfl rfl rfl rfl
  dsimp only [qx_42] at h
  split at h
  · rename_i j k st
    obtain ⟨h0, h1, h⟩ := h
    intro p e R s m args below meth c H locs cells slots ls G C hP hS hl hr
    obtain ⟨hx, hb, hml, hown, hts, -, -, -, -, hK, hX, hbl, hN⟩ := id C
    have he := wl_get (ad := ad) (aC := aC) (M := M) (k := k) (sh_lt (by omega))
    rw [ent_101 h0] at he
    refine va_lald (D := (dC, dI)) hx hb hK hP k 1 he rfl h1 hdg ?_
    rw [← z2]
    exact h p e R s m args below meth c H locs cells slots ls G C hP hS hl hr
  · exact h.elim
theorem sd_baload (hA : qAd ad b) (hdg : decode (mB y) (pcA y i) = .ok (.baload, len)) (ho : chkO y i (pcA y i) (.baload) len o = true) (h : qStep Ls xs (PM l ad dC dI aC b Ls xs) y i o L stk M Q) : PM l ad dC dI aC b Ls xs y i L stk M Q := by
  exact Bool.noConfusion ho
theorem sd_aaload (hA : qAd ad b) (hdg : decode (mB y) (pcA y i) = .ok (.aaload, len)) (ho : chkO y i (pcA y i) (.aaload) len o = true) (h : qStep Ls xs (PM l ad dC dI aC b Ls xs) y i o L stk M Q) : PM l ad dC dI aC b Ls xs y i L stk M Q := by
  obtain ⟨c0, a0, b0, d0, v0, l0⟩ := o
  simp only [chkO, Bool.and_eq_true, Bool.or_eq_true] at ho
  obtain ⟨⟨⟨g1, gt⟩, g2⟩, g3⟩ := ho
  have z1 := q_bq g2
  subst z1
  have z2 := q_bq g3
  have z0 := q_bq g1
  try dsimp only at z0
  subst z0
  replace h : qx_44 (PM l ad dC dI aC b Ls xs) y i _ L stk M Q := q_g5 h rfl rfl rfl rfl rfl
  dsimp only [qx_44] at h
  split at h
  · rename_i j k st
    obtain ⟨h0, h1, h⟩ := h
    intro p e R s m args below meth c H locs cells slots ls G C hP hS hl hr
    obtain ⟨hx, hb, hml, hown, hts, -, -, -, -, hK, hX, hbl, hN⟩ := id C
    rcases gt with gt | gt
    · have zt : a0 = 103 := q_bq gt
      subst zt
      have he := wl_get (ad := ad) (aC := aC) (M := M) (k := k) (sh_lt (by omega))
      rw [ent_103 h0] at he
      refine va_aldq (D := (dC, dI)) hx hb hK hP k 3 he rfl h1 hdg ?_
      rw [← z2]
      exact h p e R s m args below meth c H locs cells slots ls G C hP hS hl hr
    · have zt : a0 = 104 := q_bq gt
      subst zt
      have he := wl_get (ad := ad) (aC := aC) (M := M) (k := k) (sh_lt (by omega))
      rw [ent_104 h0] at he
      refine va_aldq (D := (dC, dI)) hx hb hK hP k 4 he rfl h1 hdg ?_
      rw [← z2]
      exact h p e R s m args below meth c H locs cells slots ls G C hP hS hl hr
  · exact h.elim
theorem sd_iastore (hA : qAd ad b) (hdg : decode (mB y) (pcA y i) = .ok (.iastore, len)) (ho : chkO y i (pcA y i) (.iastore) len o = true) (h : qStep Ls xs (PM l ad dC dI aC b Ls xs) y i o L stk M Q) : PM l ad dC dI aC b Ls xs y i L stk M Q := by
  obtain ⟨c0, a0, b0, d0, v0, l0⟩ := o
  simp only [chkO, Bool.and_eq_true] at ho
  obtain ⟨⟨g1, g2⟩, g3⟩ := ho
  have z1 := q_bq g2
  subst z1
  have z2 := q_bq g3
  have z0 := q_bq g1
  try dsimp only at z0
  subst z0
  replace h : qx_45 (PM l ad dC dI aC b Ls xs) y i qHalt L stk M Q := q_g5 h rfl rfl rfl rfl rfl
  dsimp only [qx_45] at h
  split at h
  · rename_i x j k st
    obtain ⟨h0, h1, h⟩ := h
    intro p e R s m args below meth c H locs cells slots ls G C hP hS hl hr
    obtain ⟨hx, hb, hml, hown, hts, -, -, -, -, hK, hX, hbl, hN⟩ := id C
    have hk44 : k < 72 := sh_lt (by omega)
    have he := wl_get (ad := ad) (aC := aC) (M := M) hk44
    rw [ent_100 h0] at he
    refine va_iast (D := (dC, dI)) hx hb hK hP (wl_D hA aC M) hS k 0 he rfl h1 hdg (fun H1 locs1 hP1 hD1 hS1 => ?_)
    have hset := wl_set (ad := ad) (aC := aC) (M := M) (M' := pI M k j.toNatClampNeg x) hk44 (by rw [ent_100 h0, pI_s]) (fun k' hk' => ent_pI hk')
    rw [hset] at hP1
    rw [← z2]
    exact h p e R s m args below meth c H1 locs1 cells slots ls G C hP1 hS1 hl hr
  · exact h.elim
theorem sd_lastore (hA : qAd ad b) (hdg : decode (mB y) (pcA y i) = .ok (.lastore, len)) (ho : chkO y i (pcA y i) (.lastore) len o = true) (h : qStep Ls xs (PM l ad dC dI aC b Ls xs) y i o L stk M Q) : PM l ad dC dI aC b Ls xs y i L stk M Q := by
  obtain ⟨c0, a0, b0, d0, v0, l0⟩ := o
  simp only [chkO, Bool.and_eq_true] at ho
  obtain ⟨⟨g1, g2⟩, g3⟩ := ho
  have z1 := q_bq g2
  subst z1
  have z2 := q_bq g3
  have z0 := q_bq g1
  try dsimp only at z0
  subst z0
  replace h : qx_46 (PM l ad dC dI aC b Ls xs) y i qHalt L stk M Q := q_g5 h rfl rfl rfl rfl rfl
  dsimp only [qx_46] at h
  split at h
  · rename_i x j k st
    obtain ⟨h0, h1, h⟩ := h
    intro p e R s m args below meth c H locs cells slots ls G C hP hS hl hr
    obtain ⟨hx, hb, hml, hown, hts, -, -, -, -, hK, hX, hbl, hN⟩ := id C
    have hk44 : k < 72 := sh_lt (by omega)
    have he := wl_get (ad := ad) (aC := aC) (M := M) hk44
    rw [ent_101 h0] at he
    refine va_last (D := (dC, dI)) hx hb hK hP (wl_D hA aC M) hS k 1 he rfl h1 hdg (fun H1 locs1 hP1 hD1 hS1 => ?_)
    have hset := wl_set (ad := ad) (aC := aC) (M := M) (M' := pJ M k j.toNatClampNeg x) hk44 (by rw [ent_101 h0, pJ_s]) (fun k' hk' => ent_pJ hk')
    rw [hset] at hP1
    rw [← z2]
    exact h p e R s m args below meth c H1 locs1 cells slots ls G C hP1 hS1 hl hr
  · exact h.elim
theorem sd_bastore (hA : qAd ad b) (hdg : decode (mB y) (pcA y i) = .ok (.bastore, len)) (ho : chkO y i (pcA y i) (.bastore) len o = true) (h : qStep Ls xs (PM l ad dC dI aC b Ls xs) y i o L stk M Q) : PM l ad dC dI aC b Ls xs y i L stk M Q := by
  exact Bool.noConfusion ho
theorem q_swT {y pc : Nat} {x : Int32} {f : Nat → Prop} {d : Nat} : ∀ (os : List Int) (lo : Int) (r : List (Int × Nat)), -2147483648 ≤ lo → lo + os.length ≤ 2147483648 → chkT y pc lo os r = true → swP x f r d →
    (∃ (k : Nat) (o : Int) (t : Nat), os[k]? = some o ∧ x.toInt = lo + k ∧ (pc : Int) + o = (pcA y t : Int) ∧ f t) ∨ ((x.toInt < lo ∨ lo + os.length ≤ x.toInt) ∧ f d) := by
  intro os
  induction os with
  | nil =>
    intro lo r _ _ hc h
    cases r with
    | nil => exact Or.inr ⟨by simp; omega, h⟩
    | cons q r => simp [chkT] at hc
  | cons o os ih =>
    intro lo r h1 h2 hc h
    cases r with
    | nil => simp [chkT] at hc
    | cons q r =>
      simp only [chkT, Bool.and_eq_true] at hc
      obtain ⟨⟨g1, g2⟩, g3⟩ := hc
      have e1 : q.1 = lo := of_decide_eq_true g1
      have e2 : (pc : Int) + o = (pcA y q.2 : Int) := of_decide_eq_true g2
      rw [List.length_cons] at h2
      obtain ⟨ha, hb⟩ := h
      have hlo : (Int32.ofInt lo).toInt = lo := Int32.toInt_ofInt_of_le (by omega) (by omega)
      by_cases hx : x = Int32.ofInt q.1
      · refine Or.inl ⟨0, o, q.2, rfl, ?_, e2, ha hx⟩
        rw [hx, e1, hlo]
        simp
      · have hne : x.toInt ≠ lo := fun z => hx (by rw [e1]; exact Int32.toInt_inj.mp (by rw [hlo]; exact z))
        rcases ih (lo + 1) r (by omega) (by push_cast at h2 ⊢; omega) g3 (hb hx) with ⟨k, o', t, k1, k2, k3, k4⟩ | ⟨k1, k2⟩
        · exact Or.inl ⟨k + 1, o', t, by simpa using k1, by push_cast; omega, k3, k4⟩
        · refine Or.inr ⟨?_, k2⟩
          rw [List.length_cons]
          push_cast
          omega
theorem q_swU {y pc : Nat} {x : Int32} {f : Nat → Prop} {d : Nat} {dd : Int} (hd : (pc : Int) + dd = (pcA y d : Int)) : ∀ (os : List (Int × Int)) (r : List (Int × Nat)), chkU y pc os r = true → swP x f r d →
    ∃ t : Nat, (pc : Int) + Op.lookupswitch.offset os dd x.toInt = (pcA y t : Int) ∧ f t := by
  intro os
  induction os with
  | nil =>
    intro r hc h
    cases r with
    | nil => exact ⟨d, hd, h⟩
    | cons q r => simp [chkU] at hc
  | cons o os ih =>
    intro r hc h
    cases r with
    | nil => simp [chkU] at hc
    | cons q r =>
      simp only [chkU, Bool.and_eq_true] at hc
      obtain ⟨⟨⟨g1, g0⟩, g2⟩, g3⟩ := hc
      have e1 : q.1 = o.1 := of_decide_eq_true g1
      have e0 := of_decide_eq_true g0
      have e2 : (pc : Int) + o.2 = (pcA y q.2 : Int) := of_decide_eq_true g2
      obtain ⟨a, off⟩ := o
      obtain ⟨ha, hb⟩ := h
      have hlo : (Int32.ofInt a).toInt = a := Int32.toInt_ofInt_of_le (by omega) (by omega)
      rw [Op.lookupswitch.offset_cons]
      by_cases hx : x = Int32.ofInt q.1
      · refine ⟨q.2, ?_, ha hx⟩
        rw [if_pos (by rw [hx, e1, hlo])]
        exact e2
      · rw [if_neg (fun z => hx (by rw [e1]; exact Int32.toInt_inj.mp (by rw [hlo]; exact z.symm)))]
        exact ih r g3 (hb hx)
theorem sd_tableswitch {d lo hi : Int} {offs : Array Int} (hdg : decode (mB y) (pcA y i) = .ok (.tableswitch d lo hi offs, len)) (ho : chkO y i (pcA y i) (.tableswitch d lo hi offs) len o = true) (h : qStep Ls xs (PM l ad dC dI aC b Ls xs) y i o L stk M Q) : PM l ad dC dI aC b Ls xs y i L stk M Q := by
  obtain ⟨c0, a0, b0, d0, v0, l0⟩ := o
  simp only [chkO, Bool.and_eq_true] at ho
  obtain ⟨⟨⟨g1, g2⟩, g3⟩, g4⟩ := ho
  have z0 := q_bq g1
  try dsimp only at z0
  subst z0
  have z4 : (pcA y i : Int) + d = (pcA y b0 : Int) := of_decide_eq_true g2
  have z5 := of_decide_eq_true g3
  replace h : qx_33 (PM l ad dC dI aC b Ls xs) y i _ L stk M Q := q_g3 h rfl rfl rfl
  dsimp only [qx_33] at h
  split at h
  · rename_i x st
    intro p e R s m args below meth c H locs cells slots ls G C hP hS hl hr
    obtain ⟨hx, hb, hml, hown, hts, -⟩ := id C
    have hlen : (offs.toList.length : Int) = hi - lo + 1 := by rw [Array.length_toList]; exact z5.2.2
    rcases q_swT offs.toList lo l0 z5.1 (by omega) g4 h with ⟨k, o, t, k1, k2, k3, k4⟩ | ⟨k1, k2⟩
    · have hk : k < offs.toList.length := (List.getElem?_eq_some_iff.mp k1).1
      refine lv_tableIn hx hb hdg (by omega) (by omega) (off := o) ?_ k3 ?_
      · rw [show (x.toInt - lo).toNat = k by omega, ← Array.getElem?_toList]
        exact k1
      · exact k4 p e R s m args below meth c H locs cells slots ls G C hP hS hl hr
    · refine lv_tableOut hx hb hdg (by omega) z4 ?_
      exact k2 p e R s m args below meth c H locs cells slots ls G C hP hS hl hr
  · exact h.elim
theorem sd_lookupswitch {d : Int} {ps : Array (Int × Int)} (hdg : decode (mB y) (pcA y i) = .ok (.lookupswitch d ps, len)) (ho : chkO y i (pcA y i) (.lookupswitch d ps) len o = true) (h : qStep Ls xs (PM l ad dC dI aC b Ls xs) y i o L stk M Q) : PM l ad dC dI aC b Ls xs y i L stk M Q := by
  obtain ⟨c0, a0, b0, d0, v0, l0⟩ := o
  simp only [chkO, Bool.and_eq_true] at ho
  obtain ⟨⟨⟨g1, g2⟩, g3⟩, g4⟩ := ho
  have z0 := q_bq g1
  try dsimp only at z0
  subst z0
  have z4 : (pcA y i : Int) + d = (pcA y b0 : Int) := of_decide_eq_true g2
  replace h : qx_33 (PM l ad dC dI aC b Ls xs) y i _ L stk M Q := q_g3 h rfl rfl rfl
  dsimp only [qx_33] at h
  split at h
  · rename_i x st
    intro p e R s m args below meth c H locs cells slots ls G C hP hS hl hr
    obtain ⟨hx, hb, hml, hown, hts, -⟩ := id C
    obtain ⟨t, k3, k4⟩ := q_swU z4 ps.toList l0 g4 h
    refine lv_lookup hx hb hdg g3 rfl k3 ?_
    exact k4 p e R s m args below meth c H locs cells slots ls G C hP hS hl hr
  · exact h.elim
end QS
end
section
/-! the abstract machine stands for the machine: calls, and all rows together -/
section QS
variable {l : Launch} {ad : Nat → Nat} {dC : Nat → ClassId} {dI : Nat → Nat → Nat} {aC : Nat → ClassId} {b Ls : Nat} {xs : Nat → Int32}
variable {y i len : Nat} {o : qOp} {L : qLc} {stk : List Value} {M : qMem} {Q : qPost}
def qQc (ad : Nat → Nat) (dC : Nat → ClassId) (dI : Nat → Nat → Nat) (aC : Nat → ClassId) (Q : qPost) : Array Value → State → Outcome → State → Prop := fun _ st oc t =>
  ∃ (v : Option Value) (M' : qMem), oc = .returned (v.map (tr ad)) ∧ Q v M' ∧ va_P (dC, dI) vwCl (wl ad aC M') t.heap ∧ va_F (qA ad) st t
def qRm (y : Nat) : Room := { frames := mF y, cells := 0, slots := 0, locals := mW y }
def qWs (y : Nat) : List Cond := Cond.code (mN y) (mB y) (mL y) (mR y) :: qT
def qPc (ad : Nat → Nat) (dC : Nat → ClassId) (dI : Nat → Nat → Nat) (aC : Nat → ClassId) (b Ls : Nat) (xs : Nat → Int32) (M : qMem) : State → Prop := fun U => va_P (dC, dI) vwCl (wl ad aC M) U.heap ∧ qSt dC dI aC b Ls xs U
theorem qMet (a : Nat) (ha : a < 81) (As : List Value) (hsl : csum As ≤ mL a) (h : PM l ad dC dI aC b Ls xs a 0 (lv_args 0 As) [] M Q) :
    Met l (mN a) (qWs a) (qRm a) (va_Pc (trS ad As) (qPc ad dC dI aC b Ls xs M)) (qQc ad dC dI aC Q) 0 0 (qA ad) := by
  have hmo := met_o a (by omega)
  refine va_MetF (cc := mB a) (maxL := mL a) (ret := mR a) hmo.2.2 rfl ?_
  intro p e s m args below meth c s₁ B hml hv
  obtain ⟨rfl, hP, hSt⟩ := hv
  have hx := B.exec
  have hb := B.bytes
  have hr := B.returns
  have hts0 := atoms_spec (ws := qWs a) B.pre
  have hts : ∀ w ∈ qT, w.before (trS ad As).toArray s = true := fun w hw => hts0 w (List.mem_cons_of_mem _ hw)
  have hown : s.vm.findClass (mO a) = some m.cls := by
    rw [hmo.1]
    exact findClass_of_methodNamed B.named
  have hlocks := B.notSynchronized
  have hl := lv_entry (trS ad As) (n := mL a) (by rw [lg_slN, csum_tr]; exact hsl)
  rw [trA] at hl
  rw [lg_entry_eq]
  have h2 := h p e (headSpec (qWs a) (qRm a)).room s m (trS ad As).toArray below meth c s.heap [] 0 0 _ (MQ below (qQc ad dC dI aC Q) (trS ad As).toArray s 0 0 (qA ad)) ⟨hx, hb, hml, hown, hts, Nat.le_refl _, Nat.le_refl _, Nat.le_refl _, Nat.le_refl _, hSt⟩ hP va_S.rf hl ?_
  · rw [hmo.2.1] at h2
    exact h2
  · intro v M' H' locs' ls' pc' hret hq hP' hS'
    match v, hret, hq with
    | none, hret, hq => exact W.vret hx hb (hr.trans hret.2) (fun t ht hW => ⟨none, M', rfl, hq, by rw [ht]; exact hP', hS'.F ht⟩) hS'.2.2 hret.1 hlocks
    | some (.int x), hret, hq =>
      obtain ⟨hd, ty, ht, hn⟩ := hret
      exact W.zret hx hb (hr.trans ht) hn (fun t ht hW => ⟨some (.int x), M', rfl, hq, by rw [ht]; exact hP', hS'.F ht⟩) hS'.2.2 hd hlocks
    | some (.long x), hret, hq => exact W.lret hx hb (hr.trans hret.2) (fun t ht hW => ⟨some (.long x), M', rfl, hq, by rw [ht]; exact hP', hS'.F ht⟩) hS'.2.2 hret.1 hlocks
    | some (.ref k), hret, hq =>
      obtain ⟨hd, n, hn⟩ := hret
      exact W.aret hx hb (hr.trans hn) (Or.inl ⟨n, rfl⟩) (Or.inr ⟨_, rfl⟩) (fun t ht hW => ⟨some (.ref k), M', rfl, hq, by rw [ht]; exact hP', hS'.F ht⟩) hS'.2.2 hd hlocks
    | some .null, hret, hq =>
      obtain ⟨hd, n, hn⟩ := hret
      exact W.aret hx hb (hr.trans hn) (Or.inl ⟨n, rfl⟩) (Or.inl rfl) (fun t ht hW => ⟨some .null, M', rfl, hq, by rw [ht]; exact hP', hS'.F ht⟩) hS'.2.2 hd hlocks
theorem qSt_same {U V : State} (hv : V.vm = U.vm) (hh : V.heap = U.heap) (h : qSt dC dI aC b Ls xs U) : qSt dC dI aC b Ls xs V := by
  obtain ⟨h1, h2, h3, h4⟩ := h
  have hal : U.vm.Alike V.vm := by rw [hv]; exact Vm.Alike.refl _
  refine ⟨va_K.moved hal h1, ?_, by rw [hh]; exact h3, fun t ht => va_Nw.same rfl hv.symm (h4 t ht)⟩
  rw [hh]
  exact va_X.moved hal h2
theorem qPc_blind (As : List Value) : FrameBlind (va_Pc (trS ad As) (qPc ad dC dI aC b Ls xs M)) := fun _ _ _ _ q => ⟨q.1, q.2.1, qSt_same rfl rfl q.2.2⟩
theorem qPc_at {s : State} {H : Heap} {locs : List Loc} {U : State} (hA : qAd ad b) (hP : va_P (dC, dI) vwCl (wl ad aC M) H) (hS : va_S (qA ad) s.heap H locs) (hst : qSt dC dI aC b Ls xs s) (hU : U.heap = H) (hW : s.WarmedH U.vm) : qPc ad dC dI aC b Ls xs M U := by
  obtain ⟨h1, h2, h3, h4⟩ := hst
  have hq : U.heap[b]? = s.heap[b]? := by
    rw [hU]
    exact hS.2.1 b h3 (fun q => by obtain ⟨k, hk, e⟩ := q; exact hA.2.1 k hk e.symm)
  refine ⟨by rw [hU]; exact hP, va_K.moved hW.alike h1, va_X.kept (va_X.moved hW.alike h2) hq, ?_, fun t ht => va_Nw.warmF hW (h4 t ht)⟩
  rw [hU]
  exact Nat.lt_of_lt_of_le h3 hS.1
theorem q_back {p : Program} {e : Env} {R : Room} {s : State} {m : MethodId} {args : Array Value} {below : List Frame} {meth : Method} {c : Code} {H : Heap} {locs : List Loc} {cells slots : Nat} {ls : Array Slot} {G : State → Prop} {rest : List Value} {st0 : List Value} {a : Array Value}
    (hr : va_Run p l e R s m args below meth c H locs cells slots 0 0 (F0 m (pcA y i) ls st0) (trS ad rest) (qQc ad dC dI aC (fun v M' => PM l ad dC dI aC b Ls xs y (i + 1) L (v.toList ++ rest) M' Q) a) (qA ad))
    (z2 : pcA y (i + 1) = pcA y i + 3) (C : qCx dC dI aC b Ls xs y p R s m args c cells slots) (hS : va_S (qA ad) s.heap H locs) (hl : lv_has ls (mL y) (trL ad L))
    (hrt : ∀ (v : Option Value) (M' : qMem) (H' : Heap) (locs' : List Loc) (ls' : Array Slot) (pc' : Nat), qRet y pc' v → Q v M' → va_P (dC, dI) vwCl (wl ad aC M') H' → va_S (qA ad) s.heap H' locs' → W p l e R s m args below meth c H' locs' cells slots G (F0 m pc' ls' (trS ad v.toList))) :
    W p l e R s m args below meth c H locs cells slots G (F0 m (pcA y i) ls st0) := by
  intro T hT X
  obtain ⟨v, st₀, t, T', Lx, h0, X', hL, e1, e2, ⟨v', M', hv, hq, hP', hz, hk⟩, st⟩ := hr T hT X
  have hv2 : v = v'.map (tr ad) := by
    injection hv
  subst hv2
  rw [h0] at hz hk
  have hS' : va_S (qA ad) s.heap T'.heap (locs ++ Lx) := ⟨Nat.le_trans hS.1 (by rw [e1]; exact hz), fun q h1 h2 => by rw [e1, hk q (Nat.lt_of_lt_of_le h1 hS.1) h2]; exact hS.2.1 q h1 h2, fun q hq => by
      rcases List.mem_append.mp hq with h | h
      · exact hS.2.2 q h
      · exact hL q h⟩
  have K := hq p e R s m args below meth c T'.heap (locs ++ Lx) cells slots ls G C (by rw [e1]; exact hP') hS' hl hrt
  rw [z2, trS_app] at K
  have e3 : trS ad v'.toList = (v'.map (tr ad)).toList := by cases v' <;> rfl
  rw [e3] at K
  obtain ⟨t2, a1, b1⟩ := K T' rfl X'
  exact ⟨t2, st t2 a1, b1⟩
theorem sd_invokestatic (hA : qAd ad b) {idx : Nat} (hdg : decode (mB y) (pcA y i) = .ok (.invokestatic idx, len)) (ho : chkO y i (pcA y i) (.invokestatic idx) len o = true) (h : qStep Ls xs (PM l ad dC dI aC b Ls xs) y i o L stk M Q) : PM l ad dC dI aC b Ls xs y i L stk M Q := by
  obtain ⟨c0, a0, b0, d0, v0, l0⟩ := o
  simp only [chkO, Bool.and_eq_true] at ho
  obtain ⟨⟨⟨g1, g2⟩, g3⟩, g4⟩ := ho
  have z0 := q_bq g1
  subst z0
  have z1 := q_bq g3
  subst z1
  have z2 := q_bq g4
  replace h : qx_48 Ls xs (PM l ad dC dI aC b Ls xs) y i _ L stk M Q := q_g6 h rfl rfl rfl rfl rfl rfl
  dsimp only [qx_48] at h
  cases hc : (Nat.ble b0 stk.length && (Nat.ble (csum (stk.drop b0)) 8 && Nat.ble (csum (stk.take b0)) (mL a0))) with
  | false => rw [hc] at h; exact h.elim
  | true =>
    rw [hc] at h
    replace h : PM l ad dC dI aC b Ls xs a0 0 (lv_args 0 (stk.take b0).reverse) [] M (fun v M' => PM l ad dC dI aC b Ls xs y (i + 1) L (v.toList ++ stk.drop b0) M' Q) := h
    simp only [Bool.and_eq_true] at hc
    obtain ⟨k1, k2, k3⟩ := hc
    have k1 := Nat.le_of_ble_eq_true k1
    have k2 := Nat.le_of_ble_eq_true k2
    have k3 := Nat.le_of_ble_eq_true k3
    dsimp only [chkS] at g2
    split at g2
    · rename_i w1 w2 w3
      simp only [chkM, Bool.and_eq_true] at g2
      obtain ⟨⟨⟨⟨⟨⟨⟨m1, m2⟩, m3⟩, m4⟩, n1⟩, n2⟩, n3⟩, n4⟩ := g2
      have m1 : a0 < 81 := Nat.le_of_ble_eq_true m1
      have m2 := Nat.le_of_ble_eq_true m2
      have m3 := Nat.le_of_ble_eq_true m3
      have m4 := of_decide_eq_true m4
      have n4 := of_decide_eq_true n4
      intro p e R s m args below meth c H locs cells slots ls G C hP hS hl hr
      obtain ⟨hx, hb, hml, hown, hts, hfr, hlo, hce, hsl, hst⟩ := id C
      have hsum : csum ((stk.take b0).reverse) ≤ mL a0 := by
        have e : csum ((stk.take b0).reverse) = csum (stk.take b0) := by simp [csum, List.map_reverse, List.sum_reverse]
        rw [e]
        exact k3
      have hM := qMet a0 m1 _ hsum h
      have hG : GoodIn qT (va_wsS (mO y) idx (mN a0) (qWs a0)) := by
        intro w hw
        have hin : w ∈ qT := by
          simp only [va_wsS, qWs, List.cons_append, List.nil_append, List.mem_cons] at hw
          rcases hw with rfl | rfl | rfl | rfl | hw
          · exact tbw_T n1 rfl
          · exact tbw_T n2 rfl
          · exact tbw_T n3 rfl
          · exact List.mem_filter.mpr ⟨cw_all a0 m1, rfl⟩
          · exact hw
        exact qT_good w hin
      have hlen : (trS ad (stk.take b0).reverse).length = b0 := by
        simp [trS]
        omega
      have hrun := va_runS (p := p) (l := l) (e := e) (below := below) (meth := meth) (H := H) (locs := locs) (cells := cells) (slots := slots) (g := F0 m (pcA y i) ls (trS ad stk)) (As := trS ad (stk.take b0).reverse) (rest := trS ad (stk.drop b0)) (index := idx) ⟨hx, hb, hml, hown, hts⟩ hM
        (va_cwS b0 hts hG rfl rfl rfl ⟨m4.1, m4.2, n4⟩ ⟨Nat.le_trans m2 hfr, Nat.le_trans m3 hlo⟩)
        ⟨qPc_blind _, fun U hU hW => ⟨rfl, qPc_at hA hP hS hst hU hW⟩⟩ rfl hlen hl.1
        (by show trS ad stk = _; rw [trS_rev, List.reverse_reverse, ← trS_app, List.take_append_drop])
        (lv_room (by have e := csum_tr ad (stk.drop b0); unfold csum at e k2; rw [e]; exact k2)) hdg ⟨hce, hsl⟩
      exact q_back hrun z2 C hS hl hr
    · cases g2
theorem sd_invokevirtual (hA : qAd ad b) {idx : Nat} (hdg : decode (mB y) (pcA y i) = .ok (.invokevirtual idx, len)) (ho : chkO y i (pcA y i) (.invokevirtual idx) len o = true) (h : qStep Ls xs (PM l ad dC dI aC b Ls xs) y i o L stk M Q) : PM l ad dC dI aC b Ls xs y i L stk M Q := by
  obtain ⟨c0, a0, b0, d0, v0, l0⟩ := o
  simp only [chkO, Bool.and_eq_true] at ho
  obtain ⟨⟨⟨g1, g2⟩, g3⟩, g4⟩ := ho
  have z0 := q_bq g1
  subst z0
  have z1 := q_bq g3
  subst z1
  have z2 := q_bq g4
  replace h : qx_49 Ls xs (PM l ad dC dI aC b Ls xs) y i _ L stk M Q := q_g6 h rfl rfl rfl rfl rfl rfl
  dsimp only [qx_49] at h
  split at h
  · rename_i k st hdrop
    cases hc : (Nat.ble b0 stk.length && (Nat.ble (csum st) 8 && Nat.ble (csum (stk.take b0) + 1) (mL a0))) with
    | false => rw [hc] at h; exact h.elim
    | true =>
      rw [hc] at h
      replace h : shT k = d0 ∧ PM l ad dC dI aC b Ls xs a0 0 (lv_args 0 (.ref k :: (stk.take b0).reverse)) [] M (fun v M' => PM l ad dC dI aC b Ls xs y (i + 1) L (v.toList ++ st) M' Q) := h
      obtain ⟨h0, h⟩ := h
      simp only [Bool.and_eq_true] at hc
      obtain ⟨k1, k2, k3⟩ := hc
      have k1 := Nat.le_of_ble_eq_true k1
      have k2 := Nat.le_of_ble_eq_true k2
      have k3 := Nat.le_of_ble_eq_true k3
      dsimp only [chkV] at g2
      split at g2
      · rename_i w1 w2 w3 w4
        simp only [chkM, Bool.and_eq_true] at g2
        obtain ⟨⟨⟨⟨⟨⟨⟨⟨⟨⟨m1, m2⟩, m3⟩, m4⟩, n1⟩, n2⟩, n3⟩, n4⟩, n5⟩, n6⟩, n7⟩ := g2
        have m1 : a0 < 81 := Nat.le_of_ble_eq_true m1
        have m2 := Nat.le_of_ble_eq_true m2
        have m3 := Nat.le_of_ble_eq_true m3
        have m4 := of_decide_eq_true m4
        have n5 : d0 < 7 := Nat.le_of_ble_eq_true n5
        have n6 : cC d0 = (mN a0).cls := of_decide_eq_true n6
        have n7 := of_decide_eq_true n7
        intro p e R s m args below meth c H locs cells slots ls G C hP hS hl hr
        obtain ⟨hx, hb, hml, hown, hts, hfr, hlo, hce, hsl, hst⟩ := id C
        have hsum : csum (.ref k :: (stk.take b0).reverse) ≤ mL a0 := by
          have e : csum (.ref k :: (stk.take b0).reverse) = 1 + csum (stk.take b0) := by simp [csum, List.map_reverse, List.sum_reverse, Value.category]
          rw [e]
          omega
        have hM := qMet a0 m1 _ hsum h
        have hG : GoodIn qT (wsV (mO y) idx (mN a0).cls (mN a0) (qWs a0)) := by
          intro w hw
          have hin : w ∈ qT := by
            simp only [wsV, qWs, List.cons_append, List.nil_append, List.mem_cons] at hw
            rcases hw with rfl | rfl | rfl | rfl | rfl | hw
            · exact tbw_T n1 rfl
            · exact tbw_T n2 rfl
            · exact tbw_T n3 rfl
            · exact tbw_T n4 rfl
            · exact List.mem_filter.mpr ⟨cw_all a0 m1, rfl⟩
            · exact hw
          exact qT_good w hin
        have hk44 : k < 72 := sh_lt (by omega)
        have he := wl_get (ad := ad) (aC := aC) (M := M) hk44
        rw [ent_o h0 n5] at he
        have hrecv := va_recv hst.1 hP (cls_c d0 n5) he
        have hrecv : ∃ cell : Cell, H[ad k]? = some cell ∧ cell.vm.isStatics = false ∧ s.vm.findClass (mN a0).cls = some cell.cls := by
          rw [← n6]
          exact hrecv
        have hlen : (trS ad (stk.take b0).reverse).length = b0 := by
          simp [trS]
          omega
        have hrun := va_runV (p := p) (l := l) (e := e) (below := below) (meth := meth) (H := H) (locs := locs) (cells := cells) (slots := slots) (g := F0 m (pcA y i) ls (trS ad stk)) (b := ad k) (As := trS ad (stk.take b0).reverse) (rest := trS ad st) (index := idx) (C := (mN a0).cls) ⟨hx, hb, hml, hown, hts⟩ hM
          (cwV b0 hts hG rfl rfl rfl ⟨rfl, m4.1, m4.2, n7⟩ ⟨Nat.le_trans m2 hfr, Nat.le_trans m3 hlo⟩)
          ⟨qPc_blind _, hrecv, fun U hU hW => ⟨rfl, qPc_at hA hP hS hst hU hW⟩⟩ rfl hlen hl.1
          (by
            show trS ad stk = _
            rw [trS_rev, List.reverse_reverse]
            have e : trS ad stk = trS ad (stk.take b0) ++ trS ad (stk.drop b0) := by rw [← trS_app, List.take_append_drop]
            rw [e, hdrop]
            rfl)
          (lv_room (by have e := csum_tr ad st; unfold csum at e k2; rw [e]; exact k2)) hdg ⟨hce, hsl⟩
        exact q_back hrun z2 C hS hl hr
      · cases g2
  · exact h.elim
theorem chk_in {y i : Nat} (hy : y < 82) (hi : i < (qOps.getD y []).length) : chk y i = true := by
  have g : ∀ lo n, chkAll lo n = true → lo ≤ y → y < lo + n → chk y i = true := by
    intro lo n h h1 h2
    have q := List.all_eq_true.mp h (y - lo) (by simp; omega)
    rw [show lo + (y - lo) = y by omega] at q
    exact List.all_eq_true.mp q i (by simpa using hi)
  have g2 : ∀ y0 lo n, chkRng y0 lo n = true → y = y0 → lo ≤ i → i < lo + n → chk y i = true := by
    intro y0 lo n h h0 h1 h2
    have q := List.all_eq_true.mp h (i - lo) (by simp; omega)
    rw [show lo + (i - lo) = i by omega] at q
    rw [h0]
    exact q
  rcases (show (0 ≤ y ∧ y < 28) ∨ (28 ≤ y ∧ y < 56) ∨ (56 ≤ y ∧ y < 75) ∨ y = 75 ∨ y = 76 ∨ y = 77 ∨ y = 78 ∨ y = 79 ∨ y = 80 ∨ y = 81 by omega) with h | h | h | h | h | h | h | h | h | h
  · exact g 0 28 ck_0 h.1 h.2
  · exact g 28 28 ck_1 h.1 h.2
  · exact g 56 19 ck_2 h.1 h.2
  · have hl : (qOps.getD y []).length = 187 := by rw [h]; decide +kernel
    rw [hl] at hi
    rcases (show (0 ≤ i ∧ i < 0 + 47) ∨ (47 ≤ i ∧ i < 47 + 47) ∨ (94 ≤ i ∧ i < 94 + 47) ∨ (141 ≤ i ∧ i < 141 + 46) by omega) with q | q | q | q
    · exact g2 75 0 47 ck_75_0 h q.1 q.2
    · exact g2 75 47 47 ck_75_47 h q.1 q.2
    · exact g2 75 94 47 ck_75_94 h q.1 q.2
    · exact g2 75 141 46 ck_75_141 h q.1 q.2
  · have hl : (qOps.getD y []).length = 228 := by rw [h]; decide +kernel
    rw [hl] at hi
    rcases (show (0 ≤ i ∧ i < 0 + 57) ∨ (57 ≤ i ∧ i < 57 + 57) ∨ (114 ≤ i ∧ i < 114 + 57) ∨ (171 ≤ i ∧ i < 171 + 57) by omega) with q | q | q | q
    · exact g2 76 0 57 ck_76_0 h q.1 q.2
    · exact g2 76 57 57 ck_76_57 h q.1 q.2
    · exact g2 76 114 57 ck_76_114 h q.1 q.2
    · exact g2 76 171 57 ck_76_171 h q.1 q.2
  · have hl : (qOps.getD y []).length = 222 := by rw [h]; decide +kernel
    rw [hl] at hi
    rcases (show (0 ≤ i ∧ i < 0 + 56) ∨ (56 ≤ i ∧ i < 56 + 56) ∨ (112 ≤ i ∧ i < 112 + 56) ∨ (168 ≤ i ∧ i < 168 + 54) by omega) with q | q | q | q
    · exact g2 77 0 56 ck_77_0 h q.1 q.2
    · exact g2 77 56 56 ck_77_56 h q.1 q.2
    · exact g2 77 112 56 ck_77_112 h q.1 q.2
    · exact g2 77 168 54 ck_77_168 h q.1 q.2
  · have hl : (qOps.getD y []).length = 74 := by rw [h]; decide +kernel
    rw [hl] at hi
    rcases (show (0 ≤ i ∧ i < 0 + 37) ∨ (37 ≤ i ∧ i < 37 + 37) by omega) with q | q
    · exact g2 78 0 37 ck_78_0 h q.1 q.2
    · exact g2 78 37 37 ck_78_37 h q.1 q.2
  · have hl : (qOps.getD y []).length = 89 := by rw [h]; decide +kernel
    rw [hl] at hi
    rcases (show (0 ≤ i ∧ i < 0 + 45) ∨ (45 ≤ i ∧ i < 45 + 44) by omega) with q | q
    · exact g2 79 0 45 ck_79_0 h q.1 q.2
    · exact g2 79 45 44 ck_79_45 h q.1 q.2
  · have hl : (qOps.getD y []).length = 49 := by rw [h]; decide +kernel
    rw [hl] at hi
    exact g2 80 0 49 ck_80_0 h (by omega) (by omega)
  · have hl : (qOps.getD y []).length = 121 := by rw [h]; decide +kernel
    rw [hl] at hi
    rcases (show (0 ≤ i ∧ i < 0 + 41) ∨ (41 ≤ i ∧ i < 41 + 41) ∨ (82 ≤ i ∧ i < 82 + 39) by omega) with q | q | q
    · exact g2 81 0 41 ck_81_0 h q.1 q.2
    · exact g2 81 41 41 ck_81_41 h q.1 q.2
    · exact g2 81 82 39 ck_81_82 h q.1 q.2
theorem chk_ok (y i : Nat) : chk y i = true := by
  have hout : qOp' y i = qHalt → chk y i = true := by
    intro h
    unfold chk
    rw [h]
    rfl
  rcases Nat.lt_or_ge y 82 with hy | hy
  · rcases Nat.lt_or_ge i (qOps.getD y []).length with hi | hi
    · exact chk_in hy hi
    · refine hout ?_
      unfold qOp'
      rw [List.getD_eq_getElem?_getD, List.getElem?_eq_none hi]
      rfl
  · refine hout ?_
    have e : qOps.getD y [] = [] := by
      rw [List.getD_eq_getElem?_getD, List.getElem?_eq_none (by rw [ck_len]; exact hy)]
      rfl
    unfold qOp'
    rw [e]
    rfl
set_option maxHeartbeats 4000000 in
/-- THE ABSTRACT MACHINE STANDS FOR THE MACHINE -/
theorem qSound (hA : qAd ad b) : qClosed Ls xs (PM l ad dC dI aC b Ls xs) := by
  intro y i L stk M Q h
  have hc := chk_ok y i
  unfold chk at hc
  rw [Bool.or_eq_true] at hc
  rcases hc with hc | hc
  · exfalso
    have z := q_bq hc
    generalize qOp' y i = o at h z
    have h2 := q_g7 h (by rw [z]; rfl) (by rw [z]; rfl) (by rw [z]; rfl) (by rw [z]; rfl) (by rw [z]; rfl) (by rw [z]; rfl)
    unfold qSt7 at h2
    rw [z] at h2
    exact h2
  · rw [Bool.and_eq_true] at hc
    obtain ⟨hd, ho⟩ := hc
    generalize qOp' y i = o at h ho
    have hdg : decode (mB y) (pcA y i) = .ok ((qRw y i).2.1, (qRw y i).2.2) := by
      unfold qDec at hd
      show decode (mB y) (qRw y i).1 = _
      split at hd
      · rename_i q hq
        rw [hq, of_decide_eq_true hd]
      · cases hd
    have ho : chkO y i (pcA y i) (qRw y i).2.1 (qRw y i).2.2 o = true := ho
    generalize (qRw y i).2.1 = ins at hdg ho
    generalize (qRw y i).2.2 = len at hdg ho
    cases ins with
    | iconst n => exact sd_iconst hdg ho h
    | bipush n => exact sd_bipush hdg ho h
    | sipush n => exact sd_sipush hdg ho h
    | lconst n => exact sd_lconst hdg ho h
    | aconst_null => exact sd_null hdg ho h
    | ldc n => exact sd_ldc hdg ho h
    | ldc2_w n => exact sd_ldc2 hdg ho h
    | iload n => exact sd_iload hdg ho h
    | iload_n n => exact sd_iload_n hdg ho h
    | lload n => exact sd_lload hdg ho h
    | lload_n n => exact sd_lload_n hdg ho h
    | aload n => exact sd_aload hdg ho h
    | aload_n n => exact sd_aload_n hdg ho h
    | istore n => exact sd_istore hdg ho h
    | istore_n n => exact sd_istore_n hdg ho h
    | lstore n => exact sd_lstore hdg ho h
    | lstore_n n => exact sd_lstore_n hdg ho h
    | astore n => exact sd_astore hdg ho h
    | astore_n n => exact sd_astore_n hdg ho h
    | iinc n k => exact sd_iinc hdg ho h
    | iadd => exact sd_iadd hdg ho h
    | isub => exact sd_isub hdg ho h
    | imul => exact sd_imul hdg ho h
    | iand => exact sd_iand hdg ho h
    | ior => exact sd_ior hdg ho h
    | ishl => exact sd_ishl hdg ho h
    | ishr => exact sd_ishr hdg ho h
    | idiv => exact sd_idiv hdg ho h
    | irem => exact sd_irem hdg ho h
    | ineg => exact sd_ineg hdg ho h
    | ladd => exact sd_ladd hdg ho h
    | lsub => exact sd_lsub hdg ho h
    | lmul => exact sd_lmul hdg ho h
    | ldiv => exact sd_ldiv hdg ho h
    | lrem => exact sd_lrem hdg ho h
    | lneg => exact sd_lneg hdg ho h
    | lshl => exact sd_lshl hdg ho h
    | lcmp => exact sd_lcmp hdg ho h
    | i2l => exact sd_i2l hdg ho h
    | l2i => exact sd_l2i hdg ho h
    | lxor => exact sd_lxor hdg ho h
    | ifCond cc off => exact sd_ifCond hdg ho h
    | if_icmp cc off => exact sd_if_icmp hdg ho h
    | ifnull off => exact sd_ifnull hdg ho h
    | ifnonnull off => exact sd_ifnonnull hdg ho h
    | goto off => exact sd_goto hdg ho h
    | tableswitch d lo hi offs => exact sd_tableswitch hdg ho h
    | lookupswitch d ps => exact sd_lookupswitch hdg ho h
    | getfield n => exact sd_getfield hA hdg ho h
    | putfield n => exact sd_putfield hA hdg ho h
    | arraylength => exact sd_arraylength hA hdg ho h
    | iaload => exact sd_iaload hA hdg ho h
    | laload => exact sd_laload hA hdg ho h
    | baload => exact sd_baload hA hdg ho h
    | aaload => exact sd_aaload hA hdg ho h
    | iastore => exact sd_iastore hA hdg ho h
    | lastore => exact sd_lastore hA hdg ho h
    | bastore => exact sd_bastore hA hdg ho h
    | invokestatic n => exact sd_invokestatic hA hdg ho h
    | invokevirtual n => exact sd_invokevirtual hA hdg ho h
    | ireturn => exact sd_ireturn hdg ho h
    | lreturn => exact sd_lreturn hdg ho h
    | areturn => exact sd_areturn hdg ho h
    | return_ => exact sd_return hdg ho h
    | dup => exact sd_dup hdg ho h
    | dup2 => exact sd_dup2 hdg ho h
    | _ => exact Bool.noConfusion ho
end QS
end
section
/-! the runner: many steps at once; static questions are answered by counting -/
def qWeak (P : qSem) : Prop := ∀ (y i : Nat) (L L' : qLc) (stk : List Value) (M : qMem) (Q : qPost), (∀ q ∈ L', q ∈ L) → P y i L' stk M Q → P y i L stk M Q
def qMono (P : qSem) : Prop := ∀ (y i : Nat) (L : qLc) (stk : List Value) (M : qMem) (Q Q' : qPost), (∀ v M', Q v M' → Q' v M') → P y i L stk M Q → P y i L stk M Q'
def qGood (Ls : Nat) (xs : Nat → Int32) (P : qSem) : Prop := qClosed Ls xs P ∧ qWeak P ∧ qMono P
theorem qGood_PM {l : Launch} {ad : Nat → Nat} {dC : Nat → ClassId} {dI : Nat → Nat → Nat} {aC : Nat → ClassId} {b Ls : Nat} {xs : Nat → Int32} (hA : qAd ad b) : qGood Ls xs (PM l ad dC dI aC b Ls xs) := by
  refine ⟨qSound hA, ?_, ?_⟩
  · intro y i L L' stk M Q hLL h p e R s m args below meth c H locs cells slots ls G C hP hS hl hr
    refine h p e R s m args below meth c H locs cells slots ls G C hP hS ⟨hl.1, hl.2.1, fun q hq => ?_⟩ hr
    obtain ⟨q0, h0, rfl⟩ := List.mem_map.mp hq
    exact hl.2.2 _ (List.mem_map.mpr ⟨q0, hLL q0 h0, rfl⟩)
  · intro y i L stk M Q Q' hQ h p e R s m args below meth c H locs cells slots ls G C hP hS hl hr
    exact h p e R s m args below meth c H locs cells slots ls G C hP hS hl (fun v M' H' locs' ls' pc' h1 h2 h3 h4 => hr v M' H' locs' ls' pc' h1 (hQ v M' h2) h3 h4)
def qb_34 (P : qSem) (y i : Nat) (o : qOp) (L : qLc) (stk : List Value) (M : qMem) (Q : qPost) : Prop :=
  match stk with
    | .ref k :: st => bif Nat.beq (shT k) o.2.1 then P y (i + 1) L (.int (M.1 k o.2.2.1) :: st) M Q else False
    | _ => False
def qb_35 (P : qSem) (y i : Nat) (o : qOp) (L : qLc) (stk : List Value) (M : qMem) (Q : qPost) : Prop :=
  match stk with
    | .ref k :: st => bif Nat.beq (shT k) o.2.1 then P y (i + 1) L (.long (M.2 k o.2.2.1) :: st) M Q else False
    | _ => False
def qb_36 (P : qSem) (y i : Nat) (o : qOp) (L : qLc) (stk : List Value) (M : qMem) (Q : qPost) : Prop :=
  match stk with
    | .ref k :: st => bif Nat.beq (shT k) o.2.1 then P y (i + 1) L (.ref (rf k o.2.2.1) :: st) M Q else False
    | _ => False
def qb_37 (P : qSem) (y i : Nat) (o : qOp) (L : qLc) (stk : List Value) (M : qMem) (Q : qPost) : Prop :=
  match stk with
    | .int x :: .ref k :: st => bif Nat.beq (shT k) o.2.1 then P y (i + 1) L st (pI M k o.2.2.1 x) Q else False
    | _ => False
def qb_38 (P : qSem) (y i : Nat) (o : qOp) (L : qLc) (stk : List Value) (M : qMem) (Q : qPost) : Prop :=
  match stk with
    | .long x :: .ref k :: st => bif Nat.beq (shT k) o.2.1 then P y (i + 1) L st (pJ M k o.2.2.1 x) Q else False
    | _ => False
def qb_39 (P : qSem) (y i : Nat) (o : qOp) (L : qLc) (stk : List Value) (M : qMem) (Q : qPost) : Prop :=
  match stk with
    | .int x :: .ref k :: st => bif Nat.beq (shT k) o.2.1 then narrow .boolean (.int x) = .int x ∧ P y (i + 1) L st (pI M k o.2.2.1 x) Q else False
    | _ => False
def qb_40 (P : qSem) (y i : Nat) (o : qOp) (L : qLc) (stk : List Value) (M : qMem) (Q : qPost) : Prop :=
  match stk with
    | .ref k :: st => bif Nat.ble 100 (shT k) && Nat.ble (shT k) 104 then P y (i + 1) L (.int (Int32.ofNat (shL k)) :: st) M Q else False
    | _ => False
def qb_41 (P : qSem) (y i : Nat) (o : qOp) (L : qLc) (stk : List Value) (M : qMem) (Q : qPost) : Prop :=
  match stk with
    | .int j :: .ref k :: st => bif Nat.beq (shT k) 100 then vp_in j (shL k) ∧ P y (i + 1) L (.int (M.1 k j.toNatClampNeg) :: st) M Q else False
    | _ => False
def qb_42 (P : qSem) (y i : Nat) (o : qOp) (L : qLc) (stk : List Value) (M : qMem) (Q : qPost) : Prop :=
  match stk with
    | .int j :: .ref k :: st => bif Nat.beq (shT k) 101 then vp_in j (shL k) ∧ P y (i + 1) L (.long (M.2 k j.toNatClampNeg) :: st) M Q else False
    | _ => False
def qb_43 (P : qSem) (y i : Nat) (o : qOp) (L : qLc) (stk : List Value) (M : qMem) (Q : qPost) : Prop :=
  match stk with
    | .int j :: .ref k :: st => bif Nat.beq (shT k) 102 then vp_in j (shL k) ∧ P y (i + 1) L (.int (M.1 k j.toNatClampNeg) :: st) M Q else False
    | _ => False
def qb_44 (P : qSem) (y i : Nat) (o : qOp) (L : qLc) (stk : List Value) (M : qMem) (Q : qPost) : Prop :=
  match stk with
    | .int j :: .ref k :: st => bif Nat.beq (shT k) o.2.1 then vp_in j (shL k) ∧ P y (i + 1) L (.ref (rf k j.toNatClampNeg) :: st) M Q else False
    | _ => False
def qb_45 (P : qSem) (y i : Nat) (o : qOp) (L : qLc) (stk : List Value) (M : qMem) (Q : qPost) : Prop :=
  match stk with
    | .int x :: .int j :: .ref k :: st => bif Nat.beq (shT k) 100 then vp_in j (shL k) ∧ P y (i + 1) L st (pI M k j.toNatClampNeg x) Q else False
    | _ => False
def qb_46 (P : qSem) (y i : Nat) (o : qOp) (L : qLc) (stk : List Value) (M : qMem) (Q : qPost) : Prop :=
  match stk with
    | .long x :: .int j :: .ref k :: st => bif Nat.beq (shT k) 101 then vp_in j (shL k) ∧ P y (i + 1) L st (pJ M k j.toNatClampNeg x) Q else False
    | _ => False
def qb_47 (P : qSem) (y i : Nat) (o : qOp) (L : qLc) (stk : List Value) (M : qMem) (Q : qPost) : Prop :=
  match stk with
    | .int x :: .int j :: .ref k :: st => bif Nat.beq (shT k) 102 then vp_in j (shL k) ∧ P y (i + 1) L st (pI M k j.toNatClampNeg (vp_nar .boolean x)) Q else False
    | _ => False
def qb_49 (Ls : Nat) (xs : Nat → Int32) (P : qSem) (y i : Nat) (o : qOp) (L : qLc) (stk : List Value) (M : qMem) (Q : qPost) : Prop :=
  match stk.drop o.2.2.1 with
    | .ref k :: st => bif Nat.ble o.2.2.1 stk.length && (Nat.ble (csum st) 8 && Nat.ble (csum (stk.take o.2.2.1) + 1) (mL o.2.1)) then (bif Nat.beq (shT k) o.2.2.2.1 then P o.2.1 0 (lv_args 0 (.ref k :: (stk.take o.2.2.1).reverse)) [] M (fun v M' => P y (i + 1) L (v.toList ++ st) M' Q) else False) else False
    | _ => False
def qb_60 (P : qSem) (y i : Nat) (o : qOp) (L : qLc) (stk : List Value) (M : qMem) (Q : qPost) : Prop :=
  match stk with
    | .ref k :: st => bif Nat.beq (shT k) o.2.1 then P y (i + 1) L (.int (M.1 k o.2.2.1) :: st) M Q else False
    | _ => False
def qb_61 (P : qSem) (y i : Nat) (o : qOp) (L : qLc) (stk : List Value) (M : qMem) (Q : qPost) : Prop :=
  match stk with
    | .ref k :: st => bif Nat.beq (shT k) o.2.1 then P y (i + 1) L (.long (M.2 k o.2.2.1) :: st) M Q else False
    | _ => False
def qb_62 (P : qSem) (y i : Nat) (o : qOp) (L : qLc) (stk : List Value) (M : qMem) (Q : qPost) : Prop :=
  match stk with
    | .ref k :: st => bif Nat.beq (shT k) o.2.1 then P y (i + 1) L (.ref (rf k o.2.2.1) :: st) M Q else False
    | _ => False
def qb_65 (P : qSem) (y i : Nat) (o : qOp) (L : qLc) (stk : List Value) (M : qMem) (Q : qPost) : Prop :=
  match stk with
    | .int x :: .ref k :: st => bif Nat.beq (shT k) o.2.1 then narrow .boolean (.int x) = .int x ∧ P y (i + 1) L st (pI M k o.2.2.1 x) Q else False
    | _ => False
def qBt1 (P : qSem) (y i : Nat) (o : qOp) (L : qLc) (stk : List Value) (M : qMem) (Q : qPost) : Prop :=
  match o.1 with
  | 0 => qx_0 P y i o L stk M Q
  | 1 => qx_1 P y i o L stk M Q
  | 2 => qx_2 P y i o L stk M Q
  | 3 => qx_3 P y i o L stk M Q
  | 4 => qx_4 P y i o L stk M Q
  | 5 => qx_5 P y i o L stk M Q
  | 6 => qx_6 P y i o L stk M Q
  | _ => qx_7 P y i o L stk M Q
def qBt2 (P : qSem) (y i : Nat) (o : qOp) (L : qLc) (stk : List Value) (M : qMem) (Q : qPost) : Prop :=
  match o.1 with
  | 8 => qx_8 P y i o L stk M Q
  | 9 => qx_9 P y i o L stk M Q
  | 10 => qx_10 P y i o L stk M Q
  | 11 => qx_11 P y i o L stk M Q
  | 12 => qx_12 P y i o L stk M Q
  | 13 => qx_13 P y i o L stk M Q
  | 14 => qx_14 P y i o L stk M Q
  | 15 => qx_15 P y i o L stk M Q
  | 16 => qx_16 P y i o L stk M Q
  | 17 => qx_17 P y i o L stk M Q
  | 18 => qx_18 P y i o L stk M Q
  | 19 => qx_19 P y i o L stk M Q
  | 20 => qx_20 P y i o L stk M Q
  | 21 => qx_21 P y i o L stk M Q
  | 22 => qx_22 P y i o L stk M Q
  | 23 => qx_23 P y i o L stk M Q
  | 24 => qx_24 P y i o L stk M Q
  | 25 => qx_25 P y i o L stk M Q
  | 26 => qx_26 P y i o L stk M Q
  | _ => qx_27 P y i o L stk M Q
def qBt3 (P : qSem) (y i : Nat) (o : qOp) (L : qLc) (stk : List Value) (M : qMem) (Q : qPost) : Prop :=
  match o.1 with
  | 28 => qx_28 P y i o L stk M Q
  | 29 => qx_29 P y i o L stk M Q
  | 30 => qx_30 P y i o L stk M Q
  | 31 => qx_31 P y i o L stk M Q
  | 32 => qx_32 P y i o L stk M Q
  | _ => qx_33 P y i o L stk M Q
def qBt4 (P : qSem) (y i : Nat) (o : qOp) (L : qLc) (stk : List Value) (M : qMem) (Q : qPost) : Prop :=
  match o.1 with
  | 34 => qb_34 P y i o L stk M Q
  | 35 => qb_35 P y i o L stk M Q
  | 36 => qb_36 P y i o L stk M Q
  | 37 => qb_37 P y i o L stk M Q
  | 38 => qb_38 P y i o L stk M Q
  | _ => qb_39 P y i o L stk M Q
def qBt5 (P : qSem) (y i : Nat) (o : qOp) (L : qLc) (stk : List Value) (M : qMem) (Q : qPost) : Prop :=
  match o.1 with
  | 40 => qb_40 P y i o L stk M Q
  | 41 => qb_41 P y i o L stk M Q
  | 42 => qb_42 P y i o L stk M Q
  | 43 => qb_43 P y i o L stk M Q
  | 44 => qb_44 P y i o L stk M Q
  | 45 => qb_45 P y i o L stk M Q
  | 46 => qb_46 P y i o L stk M Q
  | _ => qb_47 P y i o L stk M Q
def qBt6 (Ls : Nat) (xs : Nat → Int32) (P : qSem) (y i : Nat) (o : qOp) (L : qLc) (stk : List Value) (M : qMem) (Q : qPost) : Prop :=
  match o.1 with
  | 48 => qx_48 Ls xs P y i o L stk M Q
  | 49 => qb_49 Ls xs P y i o L stk M Q
  | 50 => qx_50 Ls xs P y i o L stk M Q
  | 51 => qx_51 Ls xs P y i o L stk M Q
  | 52 => qx_52 Ls xs P y i o L stk M Q
  | 53 => qx_53 Ls xs P y i o L stk M Q
  | 54 => qx_54 Ls xs P y i o L stk M Q
  | 55 => qx_55 Ls xs P y i o L stk M Q
  | 56 => qx_56 Ls xs P y i o L stk M Q
  | 57 => qx_57 Ls xs P y i o L stk M Q
  | 58 => qx_58 Ls xs P y i o L stk M Q
  | _ => qx_59 Ls xs P y i o L stk M Q
def qBt7 (P : qSem) (y i : Nat) (o : qOp) (L : qLc) (stk : List Value) (M : qMem) (Q : qPost) : Prop :=
  match o.1 with
  | 60 => qb_60 P y i o L stk M Q
  | 61 => qb_61 P y i o L stk M Q
  | 62 => qb_62 P y i o L stk M Q
  | 65 => qb_65 P y i o L stk M Q
  | _ => False
def qStepB (Ls : Nat) (xs : Nat → Int32) (P : qSem) (y i : Nat) (o : qOp) (L : qLc) (stk : List Value) (M : qMem) (Q : qPost) : Prop :=
  bif Nat.ble o.1 7 then qBt1 P y i o L stk M Q
  else bif Nat.ble o.1 27 then qBt2 P y i o L stk M Q
  else bif Nat.ble o.1 33 then qBt3 P y i o L stk M Q
  else bif Nat.ble o.1 39 then qBt4 P y i o L stk M Q
  else bif Nat.ble o.1 47 then qBt5 P y i o L stk M Q
  else bif Nat.ble o.1 59 then qBt6 Ls xs P y i o L stk M Q
  else qBt7 P y i o L stk M Q
section QM
variable {Ls : Nat} {xs : Nat → Int32} {R P : qSem} {y i : Nat} {o : qOp} {L : qLc} {stk : List Value} {M : qMem} {Q : qPost}
def qLe (R P : qSem) : Prop := ∀ (y i : Nat) (L : qLc) (stk : List Value) (M : qMem) (Q : qPost), R y i L stk M Q → P y i L stk M Q
theorem q_swM {x : Int32} {f g : Nat → Prop} (hfg : ∀ t, f t → g t) : ∀ (r : List (Int × Nat)) (d : Nat), swP x f r d → swP x g r d := by
  intro r
  induction r with
  | nil => intro d h; exact hfg d h
  | cons q r ih => intro d h; exact ⟨fun e => hfg _ (h.1 e), fun e => ih d (h.2 e)⟩
theorem q_bif {c : Bool} {A B : Prop} (h : bif c then A else False) (hAB : c = true → A → B) : B := by
  cases c with
  | true => exact hAB rfl h
  | false => exact h.elim
theorem q_bif2 {c : Bool} {A B : Prop} (h : bif c then A else False) (hAB : A → B) : bif c then B else False := by
  cases c with
  | true => exact hAB h
  | false => exact h.elim
theorem qm_0 (hRP : qLe R P) (hm : qMono P) (h : qx_0 R y i o L stk M Q) : qx_0 P y i o L stk M Q := by
  unfold qx_0 at h
  unfold qx_0
  exact hRP _ _ _ _ _ _ h
theorem qm_1 (hRP : qLe R P) (hm : qMono P) (h : qx_1 R y i o L stk M Q) : qx_1 P y i o L stk M Q := by
  unfold qx_1 at h
  unfold qx_1
  split at h
  · exact hRP _ _ _ _ _ _ h
  · exact h.elim
theorem qm_2 (hRP : qLe R P) (hm : qMono P) (h : qx_2 R y i o L stk M Q) : qx_2 P y i o L stk M Q := by
  unfold qx_2 at h
  unfold qx_2
  split at h
  · exact hRP _ _ _ _ _ _ h
  · exact h.elim
theorem qm_3 (hRP : qLe R P) (hm : qMono P) (h : qx_3 R y i o L stk M Q) : qx_3 P y i o L stk M Q := by
  unfold qx_3 at h
  unfold qx_3
  split at h
  · exact hRP _ _ _ _ _ _ h
  · exact hRP _ _ _ _ _ _ h
  · exact h.elim
theorem qm_4 (hRP : qLe R P) (hm : qMono P) (h : qx_4 R y i o L stk M Q) : qx_4 P y i o L stk M Q := by
  unfold qx_4 at h
  unfold qx_4
  split at h
  · exact hRP _ _ _ _ _ _ h
  · exact h.elim
theorem qm_5 (hRP : qLe R P) (hm : qMono P) (h : qx_5 R y i o L stk M Q) : qx_5 P y i o L stk M Q := by
  unfold qx_5 at h
  unfold qx_5
  split at h
  · exact hRP _ _ _ _ _ _ h
  · exact h.elim
theorem qm_6 (hRP : qLe R P) (hm : qMono P) (h : qx_6 R y i o L stk M Q) : qx_6 P y i o L stk M Q := by
  unfold qx_6 at h
  unfold qx_6
  split at h
  · exact hRP _ _ _ _ _ _ h
  · exact hRP _ _ _ _ _ _ h
  · exact h.elim
theorem qm_7 (hRP : qLe R P) (hm : qMono P) (h : qx_7 R y i o L stk M Q) : qx_7 P y i o L stk M Q := by
  unfold qx_7 at h
  unfold qx_7
  split at h
  · exact hRP _ _ _ _ _ _ h
  · exact h.elim
theorem qm_8 (hRP : qLe R P) (hm : qMono P) (h : qx_8 R y i o L stk M Q) : qx_8 P y i o L stk M Q := by
  unfold qx_8 at h
  unfold qx_8
  split at h
  · exact hRP _ _ _ _ _ _ h
  · exact h.elim
theorem qm_9 (hRP : qLe R P) (hm : qMono P) (h : qx_9 R y i o L stk M Q) : qx_9 P y i o L stk M Q := by
  unfold qx_9 at h
  unfold qx_9
  split at h
  · exact hRP _ _ _ _ _ _ h
  · exact h.elim
theorem qm_10 (hRP : qLe R P) (hm : qMono P) (h : qx_10 R y i o L stk M Q) : qx_10 P y i o L stk M Q := by
  unfold qx_10 at h
  unfold qx_10
  split at h
  · exact hRP _ _ _ _ _ _ h
  · exact h.elim
theorem qm_11 (hRP : qLe R P) (hm : qMono P) (h : qx_11 R y i o L stk M Q) : qx_11 P y i o L stk M Q := by
  unfold qx_11 at h
  unfold qx_11
  split at h
  · exact hRP _ _ _ _ _ _ h
  · exact h.elim
theorem qm_12 (hRP : qLe R P) (hm : qMono P) (h : qx_12 R y i o L stk M Q) : qx_12 P y i o L stk M Q := by
  unfold qx_12 at h
  unfold qx_12
  split at h
  · exact hRP _ _ _ _ _ _ h
  · exact h.elim
theorem qm_13 (hRP : qLe R P) (hm : qMono P) (h : qx_13 R y i o L stk M Q) : qx_13 P y i o L stk M Q := by
  unfold qx_13 at h
  unfold qx_13
  split at h
  · exact hRP _ _ _ _ _ _ h
  · exact h.elim
theorem qm_14 (hRP : qLe R P) (hm : qMono P) (h : qx_14 R y i o L stk M Q) : qx_14 P y i o L stk M Q := by
  unfold qx_14 at h
  unfold qx_14
  split at h
  · exact hRP _ _ _ _ _ _ h
  · exact h.elim
theorem qm_15 (hRP : qLe R P) (hm : qMono P) (h : qx_15 R y i o L stk M Q) : qx_15 P y i o L stk M Q := by
  unfold qx_15 at h
  unfold qx_15
  split at h
  · exact ⟨h.1, hRP _ _ _ _ _ _ h.2⟩
  · exact h.elim
theorem qm_16 (hRP : qLe R P) (hm : qMono P) (h : qx_16 R y i o L stk M Q) : qx_16 P y i o L stk M Q := by
  unfold qx_16 at h
  unfold qx_16
  split at h
  · exact ⟨h.1, hRP _ _ _ _ _ _ h.2⟩
  · exact h.elim
theorem qm_17 (hRP : qLe R P) (hm : qMono P) (h : qx_17 R y i o L stk M Q) : qx_17 P y i o L stk M Q := by
  unfold qx_17 at h
  unfold qx_17
  split at h
  · exact hRP _ _ _ _ _ _ h
  · exact h.elim
theorem qm_18 (hRP : qLe R P) (hm : qMono P) (h : qx_18 R y i o L stk M Q) : qx_18 P y i o L stk M Q := by
  unfold qx_18 at h
  unfold qx_18
  split at h
  · exact hRP _ _ _ _ _ _ h
  · exact h.elim
theorem qm_19 (hRP : qLe R P) (hm : qMono P) (h : qx_19 R y i o L stk M Q) : qx_19 P y i o L stk M Q := by
  unfold qx_19 at h
  unfold qx_19
  split at h
  · exact hRP _ _ _ _ _ _ h
  · exact h.elim
theorem qm_20 (hRP : qLe R P) (hm : qMono P) (h : qx_20 R y i o L stk M Q) : qx_20 P y i o L stk M Q := by
  unfold qx_20 at h
  unfold qx_20
  split at h
  · exact hRP _ _ _ _ _ _ h
  · exact h.elim
theorem qm_21 (hRP : qLe R P) (hm : qMono P) (h : qx_21 R y i o L stk M Q) : qx_21 P y i o L stk M Q := by
  unfold qx_21 at h
  unfold qx_21
  split at h
  · exact ⟨h.1, hRP _ _ _ _ _ _ h.2⟩
  · exact h.elim
theorem qm_22 (hRP : qLe R P) (hm : qMono P) (h : qx_22 R y i o L stk M Q) : qx_22 P y i o L stk M Q := by
  unfold qx_22 at h
  unfold qx_22
  split at h
  · exact ⟨h.1, hRP _ _ _ _ _ _ h.2⟩
  · exact h.elim
theorem qm_23 (hRP : qLe R P) (hm : qMono P) (h : qx_23 R y i o L stk M Q) : qx_23 P y i o L stk M Q := by
  unfold qx_23 at h
  unfold qx_23
  split at h
  · exact hRP _ _ _ _ _ _ h
  · exact h.elim
theorem qm_24 (hRP : qLe R P) (hm : qMono P) (h : qx_24 R y i o L stk M Q) : qx_24 P y i o L stk M Q := by
  unfold qx_24 at h
  unfold qx_24
  split at h
  · exact hRP _ _ _ _ _ _ h
  · exact h.elim
theorem qm_25 (hRP : qLe R P) (hm : qMono P) (h : qx_25 R y i o L stk M Q) : qx_25 P y i o L stk M Q := by
  unfold qx_25 at h
  unfold qx_25
  split at h
  · exact hRP _ _ _ _ _ _ h
  · exact h.elim
theorem qm_26 (hRP : qLe R P) (hm : qMono P) (h : qx_26 R y i o L stk M Q) : qx_26 P y i o L stk M Q := by
  unfold qx_26 at h
  unfold qx_26
  split at h
  · exact hRP _ _ _ _ _ _ h
  · exact h.elim
theorem qm_27 (hRP : qLe R P) (hm : qMono P) (h : qx_27 R y i o L stk M Q) : qx_27 P y i o L stk M Q := by
  unfold qx_27 at h
  unfold qx_27
  split at h
  · exact hRP _ _ _ _ _ _ h
  · exact h.elim
theorem qm_28 (hRP : qLe R P) (hm : qMono P) (h : qx_28 R y i o L stk M Q) : qx_28 P y i o L stk M Q := by
  unfold qx_28 at h
  unfold qx_28
  split at h
  · exact ⟨fun c => hRP _ _ _ _ _ _ (h.1 c), fun c => hRP _ _ _ _ _ _ (h.2 c)⟩
  · exact h.elim
theorem qm_29 (hRP : qLe R P) (hm : qMono P) (h : qx_29 R y i o L stk M Q) : qx_29 P y i o L stk M Q := by
  unfold qx_29 at h
  unfold qx_29
  split at h
  · exact ⟨fun c => hRP _ _ _ _ _ _ (h.1 c), fun c => hRP _ _ _ _ _ _ (h.2 c)⟩
  · exact h.elim
theorem qm_30 (hRP : qLe R P) (hm : qMono P) (h : qx_30 R y i o L stk M Q) : qx_30 P y i o L stk M Q := by
  unfold qx_30 at h
  unfold qx_30
  split at h
  · exact hRP _ _ _ _ _ _ h
  · exact hRP _ _ _ _ _ _ h
  · exact h.elim
theorem qm_31 (hRP : qLe R P) (hm : qMono P) (h : qx_31 R y i o L stk M Q) : qx_31 P y i o L stk M Q := by
  unfold qx_31 at h
  unfold qx_31
  split at h
  · exact hRP _ _ _ _ _ _ h
  · exact hRP _ _ _ _ _ _ h
  · exact h.elim
theorem qm_32 (hRP : qLe R P) (hm : qMono P) (h : qx_32 R y i o L stk M Q) : qx_32 P y i o L stk M Q := by
  unfold qx_32 at h
  unfold qx_32
  exact hRP _ _ _ _ _ _ h
theorem qm_33 (hRP : qLe R P) (hm : qMono P) (h : qx_33 R y i o L stk M Q) : qx_33 P y i o L stk M Q := by
  unfold qx_33 at h
  unfold qx_33
  split at h
  · exact q_swM (fun t ht => hRP _ _ _ _ _ _ ht) _ _ h
  · exact h.elim
theorem qm_34 (hRP : qLe R P) (hm : qMono P) (h : qb_34 R y i o L stk M Q) : qx_34 P y i o L stk M Q := by
  unfold qb_34 at h
  unfold qx_34
  split at h
  · exact q_bif h (fun e h => ⟨q_bq e, hRP _ _ _ _ _ _ h⟩)
  · exact h.elim
theorem qm_35 (hRP : qLe R P) (hm : qMono P) (h : qb_35 R y i o L stk M Q) : qx_35 P y i o L stk M Q := by
  unfold qb_35 at h
  unfold qx_35
  split at h
  · exact q_bif h (fun e h => ⟨q_bq e, hRP _ _ _ _ _ _ h⟩)
  · exact h.elim
theorem qm_36 (hRP : qLe R P) (hm : qMono P) (h : qb_36 R y i o L stk M Q) : qx_36 P y i o L stk M Q := by
  unfold qb_36 at h
  unfold qx_36
  split at h
  · exact q_bif h (fun e h => ⟨q_bq e, hRP _ _ _ _ _ _ h⟩)
  · exact h.elim
theorem qm_37 (hRP : qLe R P) (hm : qMono P) (h : qb_37 R y i o L stk M Q) : qx_37 P y i o L stk M Q := by
  unfold qb_37 at h
  unfold qx_37
  split at h
  · exact q_bif h (fun e h => ⟨q_bq e, hRP _ _ _ _ _ _ h⟩)
  · exact h.elim
theorem qm_38 (hRP : qLe R P) (hm : qMono P) (h : qb_38 R y i o L stk M Q) : qx_38 P y i o L stk M Q := by
  unfold qb_38 at h
  unfold qx_38
  split at h
  · exact q_bif h (fun e h => ⟨q_bq e, hRP _ _ _ _ _ _ h⟩)
  · exact h.elim
theorem qm_39 (hRP : qLe R P) (hm : qMono P) (h : qb_39 R y i o L stk M Q) : qx_39 P y i o L stk M Q := by
  unfold qb_39 at h
  unfold qx_39
  split at h
  · exact q_bif h (fun e h => ⟨q_bq e, h.1, hRP _ _ _ _ _ _ h.2⟩)
  · exact h.elim
theorem qm_40 (hRP : qLe R P) (hm : qMono P) (h : qb_40 R y i o L stk M Q) : qx_40 P y i o L stk M Q := by
  unfold qb_40 at h
  unfold qx_40
  split at h
  · refine q_bif h (fun e h => ?_)
    rw [Bool.and_eq_true] at e
    exact ⟨Nat.le_of_ble_eq_true e.1, Nat.le_of_ble_eq_true e.2, hRP _ _ _ _ _ _ h⟩
  · exact h.elim
theorem qm_41 (hRP : qLe R P) (hm : qMono P) (h : qb_41 R y i o L stk M Q) : qx_41 P y i o L stk M Q := by
  unfold qb_41 at h
  unfold qx_41
  split at h
  · exact q_bif h (fun e h => ⟨q_bq e, h.1, hRP _ _ _ _ _ _ h.2⟩)
  · exact h.elim
theorem qm_42 (hRP : qLe R P) (hm : qMono P) (h : qb_42 R y i o L stk M Q) : qx_42 P y i o L stk M Q := by
  unfold qb_42 at h
  unfold qx_42
  split at h
  · exact q_bif h (fun e h => ⟨q_bq e, h.1, hRP _ _ _ _ _ _ h.2⟩)
  · exact h.elim
theorem qm_43 (hRP : qLe R P) (hm : qMono P) (h : qb_43 R y i o L stk M Q) : qx_43 P y i o L stk M Q := by
  unfold qb_43 at h
  unfold qx_43
  split at h
  · exact q_bif h (fun e h => ⟨q_bq e, h.1, hRP _ _ _ _ _ _ h.2⟩)
  · exact h.elim
theorem qm_44 (hRP : qLe R P) (hm : qMono P) (h : qb_44 R y i o L stk M Q) : qx_44 P y i o L stk M Q := by
  unfold qb_44 at h
  unfold qx_44
  split at h
  · exact q_bif h (fun e h => ⟨q_bq e, h.1, hRP _ _ _ _ _ _ h.2⟩)
  · exact h.elim
theorem qm_45 (hRP : qLe R P) (hm : qMono P) (h : qb_45 R y i o L stk M Q) : qx_45 P y i o L stk M Q := by
  unfold qb_45 at h
  unfold qx_45
  split at h
  · exact q_bif h (fun e h => ⟨q_bq e, h.1, hRP _ _ _ _ _ _ h.2⟩)
  · exact h.elim
theorem qm_46 (hRP : qLe R P) (hm : qMono P) (h : qb_46 R y i o L stk M Q) : qx_46 P y i o L stk M Q := by
  unfold qb_46 at h
  unfold qx_46
  split at h
  · exact q_bif h (fun e h => ⟨q_bq e, h.1, hRP _ _ _ _ _ _ h.2⟩)
  · exact h.elim
theorem qm_47 (hRP : qLe R P) (hm : qMono P) (h : qb_47 R y i o L stk M Q) : qx_47 P y i o L stk M Q := by
  unfold qb_47 at h
  unfold qx_47
  split at h
  · exact q_bif h (fun e h => ⟨q_bq e, h.1, hRP _ _ _ _ _ _ h.2⟩)
  · exact h.elim
theorem qm_48 (hRP : qLe R P) (hm : qMono P) (h : qx_48 Ls xs R y i o L stk M Q) : qx_48 Ls xs P y i o L stk M Q := by
  unfold qx_48 at h
  unfold qx_48
  exact q_bif2 h (fun h => hm _ _ _ _ _ _ _ (fun v M' q => hRP _ _ _ _ _ _ q) (hRP _ _ _ _ _ _ h))
theorem qm_49 (hRP : qLe R P) (hm : qMono P) (h : qb_49 Ls xs R y i o L stk M Q) : qx_49 Ls xs P y i o L stk M Q := by
  unfold qb_49 at h
  unfold qx_49
  split at h
  · rename_i k st heq
    rw [heq]
    exact q_bif2 h (fun h => q_bif h (fun e h => ⟨q_bq e, hm _ _ _ _ _ _ _ (fun v M' q => hRP _ _ _ _ _ _ q) (hRP _ _ _ _ _ _ h)⟩))
  · exact h.elim
theorem qm_50 (hRP : qLe R P) (hm : qMono P) (h : qx_50 Ls xs R y i o L stk M Q) : qx_50 Ls xs P y i o L stk M Q := by
  unfold qx_50 at h
  unfold qx_50
  exact h
theorem qm_51 (hRP : qLe R P) (hm : qMono P) (h : qx_51 Ls xs R y i o L stk M Q) : qx_51 Ls xs P y i o L stk M Q := by
  unfold qx_51 at h
  unfold qx_51
  exact h
theorem qm_52 (hRP : qLe R P) (hm : qMono P) (h : qx_52 Ls xs R y i o L stk M Q) : qx_52 Ls xs P y i o L stk M Q := by
  unfold qx_52 at h
  unfold qx_52
  exact h
theorem qm_53 (hRP : qLe R P) (hm : qMono P) (h : qx_53 Ls xs R y i o L stk M Q) : qx_53 Ls xs P y i o L stk M Q := by
  unfold qx_53 at h
  unfold qx_53
  exact h
theorem qm_54 (hRP : qLe R P) (hm : qMono P) (h : qx_54 Ls xs R y i o L stk M Q) : qx_54 Ls xs P y i o L stk M Q := by
  unfold qx_54 at h
  unfold qx_54
  exact h
theorem qm_55 (hRP : qLe R P) (hm : qMono P) (h : qx_55 Ls xs R y i o L stk M Q) : qx_55 Ls xs P y i o L stk M Q := by
  unfold qx_55 at h
  unfold qx_55
  split at h
  · exact hRP _ _ _ _ _ _ h
  · exact hRP _ _ _ _ _ _ h
  · exact h.elim
theorem qm_56 (hRP : qLe R P) (hm : qMono P) (h : qx_56 Ls xs R y i o L stk M Q) : qx_56 Ls xs P y i o L stk M Q := by
  unfold qx_56 at h
  unfold qx_56
  split at h
  · exact hRP _ _ _ _ _ _ h
  · exact h.elim
theorem qm_57 (hRP : qLe R P) (hm : qMono P) (h : qx_57 Ls xs R y i o L stk M Q) : qx_57 Ls xs P y i o L stk M Q := by
  unfold qx_57 at h
  unfold qx_57
  split at h
  · exact hRP _ _ _ _ _ _ h
  · exact h.elim
theorem qm_58 (hRP : qLe R P) (hm : qMono P) (h : qx_58 Ls xs R y i o L stk M Q) : qx_58 Ls xs P y i o L stk M Q := by
  unfold qx_58 at h
  unfold qx_58
  split at h
  · exact ⟨h.1, hRP _ _ _ _ _ _ h.2⟩
  · exact h.elim
theorem qm_59 (hRP : qLe R P) (hm : qMono P) (h : qx_59 Ls xs R y i o L stk M Q) : qx_59 Ls xs P y i o L stk M Q := by
  unfold qx_59 at h
  unfold qx_59
  split at h
  · exact hRP _ _ _ _ _ _ h
  · exact h.elim
theorem qm_60 (hRP : qLe R P) (hm : qMono P) (h : qb_60 R y i o L stk M Q) : qx_60 P y i o L stk M Q := by
  unfold qb_60 at h
  unfold qx_60
  split at h
  · exact q_bif h (fun e h => ⟨q_bq e, hRP _ _ _ _ _ _ h⟩)
  · exact h.elim
theorem qm_61 (hRP : qLe R P) (hm : qMono P) (h : qb_61 R y i o L stk M Q) : qx_61 P y i o L stk M Q := by
  unfold qb_61 at h
  unfold qx_61
  split at h
  · exact q_bif h (fun e h => ⟨q_bq e, hRP _ _ _ _ _ _ h⟩)
  · exact h.elim
theorem qm_62 (hRP : qLe R P) (hm : qMono P) (h : qb_62 R y i o L stk M Q) : qx_62 P y i o L stk M Q := by
  unfold qb_62 at h
  unfold qx_62
  split at h
  · exact q_bif h (fun e h => ⟨q_bq e, hRP _ _ _ _ _ _ h⟩)
  · exact h.elim
theorem qm_65 (hRP : qLe R P) (hm : qMono P) (h : qb_65 R y i o L stk M Q) : qx_65 P y i o L stk M Q := by
  unfold qb_65 at h
  unfold qx_65
  split at h
  · exact q_bif h (fun e h => ⟨q_bq e, h.1, hRP _ _ _ _ _ _ h.2⟩)
  · exact h.elim
theorem qbm_1 (hRP : qLe R P) (hm : qMono P) (h : qBt1 R y i o L stk M Q) : qSt1 P y i o L stk M Q := by
  unfold qBt1 at h
  unfold qSt1
  split at h
  · rename_i e
    rw [e]
    exact qm_0 hRP hm h
  · rename_i e
    rw [e]
    exact qm_1 hRP hm h
  · rename_i e
    rw [e]
    exact qm_2 hRP hm h
  · rename_i e
    rw [e]
    exact qm_3 hRP hm h
  · rename_i e
    rw [e]
    exact qm_4 hRP hm h
  · rename_i e
    rw [e]
    exact qm_5 hRP hm h
  · rename_i e
    rw [e]
    exact qm_6 hRP hm h
  · split
    all_goals first | exact qm_7 hRP hm h | (exfalso; simp_all)
theorem qbm_2 (hRP : qLe R P) (hm : qMono P) (h : qBt2 R y i o L stk M Q) : qSt2 P y i o L stk M Q := by
  unfold qBt2 at h
  unfold qSt2
  split at h
  · rename_i e
    rw [e]
    exact qm_8 hRP hm h
  · rename_i e
    rw [e]
    exact qm_9 hRP hm h
  · rename_i e
    rw [e]
    exact qm_10 hRP hm h
  · rename_i e
    rw [e]
    exact qm_11 hRP hm h
  · rename_i e
    rw [e]
    exact qm_12 hRP hm h
  · rename_i e
    rw [e]
    exact qm_13 hRP hm h
  · rename_i e
    rw [e]
    exact qm_14 hRP hm h
  · rename_i e
    rw [e]
    exact qm_15 hRP hm h
  · rename_i e
    rw [e]
    exact qm_16 hRP hm h
  · rename_i e
    rw [e]
    exact qm_17 hRP hm h
  · rename_i e
    rw [e]
    exact qm_18 hRP hm h
  · rename_i e
    rw [e]
    exact qm_19 hRP hm h
  · rename_i e
    rw [e]
    exact qm_20 hRP hm h
  · rename_i e
    rw [e]
    exact qm_21 hRP hm h
  · rename_i e
    rw [e]
    exact qm_22 hRP hm h
  · rename_i e
    rw [e]
    exact qm_23 hRP hm h
  · rename_i e
    rw [e]
    exact qm_24 hRP hm h
  · rename_i e
    rw [e]
    exact qm_25 hRP hm h
  · rename_i e
    rw [e]
    exact qm_26 hRP hm h
  · split
    all_goals first | exact qm_27 hRP hm h | (exfalso; simp_all)
theorem qbm_3 (hRP : qLe R P) (hm : qMono P) (h : qBt3 R y i o L stk M Q) : qSt3 P y i o L stk M Q := by
  unfold qBt3 at h
  unfold qSt3
  split at h
  · rename_i e
    rw [e]
    exact qm_28 hRP hm h
  · rename_i e
    rw [e]
    exact qm_29 hRP hm h
  · rename_i e
    rw [e]
    exact qm_30 hRP hm h
  · rename_i e
    rw [e]
    exact qm_31 hRP hm h
  · rename_i e
    rw [e]
    exact qm_32 hRP hm h
  · split
    all_goals first | exact qm_33 hRP hm h | (exfalso; simp_all)
theorem qbm_4 (hRP : qLe R P) (hm : qMono P) (h : qBt4 R y i o L stk M Q) : qSt4 P y i o L stk M Q := by
  unfold qBt4 at h
  unfold qSt4
  split at h
  · rename_i e
    rw [e]
    exact qm_34 hRP hm h
  · rename_i e
    rw [e]
    exact qm_35 hRP hm h
  · rename_i e
    rw [e]
    exact qm_36 hRP hm h
  · rename_i e
    rw [e]
    exact qm_37 hRP hm h
  · rename_i e
    rw [e]
    exact qm_38 hRP hm h
  · split
    all_goals first | exact qm_39 hRP hm h | (exfalso; simp_all)
theorem qbm_5 (hRP : qLe R P) (hm : qMono P) (h : qBt5 R y i o L stk M Q) : qSt5 P y i o L stk M Q := by
  unfold qBt5 at h
  unfold qSt5
  split at h
  · rename_i e
    rw [e]
    exact qm_40 hRP hm h
  · rename_i e
    rw [e]
    exact qm_41 hRP hm h
  · rename_i e
    rw [e]
    exact qm_42 hRP hm h
  · rename_i e
    rw [e]
    exact qm_43 hRP hm h
  · rename_i e
    rw [e]
    exact qm_44 hRP hm h
  · rename_i e
    rw [e]
    exact qm_45 hRP hm h
  · rename_i e
    rw [e]
    exact qm_46 hRP hm h
  · split
    all_goals first | exact qm_47 hRP hm h | (exfalso; simp_all)
theorem qbm_6 (hRP : qLe R P) (hm : qMono P) (h : qBt6 Ls xs R y i o L stk M Q) : qSt6 Ls xs P y i o L stk M Q := by
  unfold qBt6 at h
  unfold qSt6
  split at h
  · rename_i e
    rw [e]
    exact qm_48 hRP hm h
  · rename_i e
    rw [e]
    exact qm_49 hRP hm h
  · rename_i e
    rw [e]
    exact qm_50 hRP hm h
  · rename_i e
    rw [e]
    exact qm_51 hRP hm h
  · rename_i e
    rw [e]
    exact qm_52 hRP hm h
  · rename_i e
    rw [e]
    exact qm_53 hRP hm h
  · rename_i e
    rw [e]
    exact qm_54 hRP hm h
  · rename_i e
    rw [e]
    exact qm_55 hRP hm h
  · rename_i e
    rw [e]
    exact qm_56 hRP hm h
  · rename_i e
    rw [e]
    exact qm_57 hRP hm h
  · rename_i e
    rw [e]
    exact qm_58 hRP hm h
  · split
    all_goals first | exact qm_59 hRP hm h | (exfalso; simp_all)
theorem qbm_7 (hRP : qLe R P) (hm : qMono P) (h : qBt7 R y i o L stk M Q) : qSt7 P y i o L stk M Q := by
  unfold qBt7 at h
  unfold qSt7
  split at h
  · rename_i e
    rw [e]
    exact qm_60 hRP hm h
  · rename_i e
    rw [e]
    exact qm_61 hRP hm h
  · rename_i e
    rw [e]
    exact qm_62 hRP hm h
  · rename_i e
    rw [e]
    exact qm_65 hRP hm h
  · exact h.elim
theorem qStep_le (hRP : qLe R P) (hm : qMono P) (h : qStepB Ls xs R y i o L stk M Q) : qStep Ls xs P y i o L stk M Q := by
  unfold qStepB at h
  unfold qStep
  cases h1 : Nat.ble o.1 7 with
  | true => rw [h1] at h; exact qbm_1 hRP hm h
  | false =>
    rw [h1] at h
    cases h2 : Nat.ble o.1 27 with
    | true => rw [h2] at h; exact qbm_2 hRP hm h
    | false =>
      rw [h2] at h
      cases h3 : Nat.ble o.1 33 with
      | true => rw [h3] at h; exact qbm_3 hRP hm h
      | false =>
        rw [h3] at h
        cases h4 : Nat.ble o.1 39 with
        | true => rw [h4] at h; exact qbm_4 hRP hm h
        | false =>
          rw [h4] at h
          cases h5 : Nat.ble o.1 47 with
          | true => rw [h5] at h; exact qbm_5 hRP hm h
          | false =>
            rw [h5] at h
            cases h6 : Nat.ble o.1 59 with
            | true => rw [h6] at h; exact qbm_6 hRP hm h
            | false => rw [h6] at h; exact qbm_7 hRP hm h
def qHas (k : Nat) : qLc → Bool
  | [] => false
  | q :: r => bif q.1 == k then true else qHas k r
theorem qHas_mem {k : Nat} : ∀ {L : qLc}, qHas k L = true → (k, lcG k L) ∈ L := by
  intro L
  induction L with
  | nil => intro h; cases h
  | cons q r ih =>
    intro h
    unfold qHas at h
    unfold lcG
    cases hq : (q.1 == k) with
    | true =>
      have e : q.1 = k := by simpa using hq
      show (k, q.2) ∈ q :: r
      rw [← e]
      exact List.mem_cons_self
    | false =>
      rw [hq] at h
      exact List.mem_cons_of_mem _ (ih h)
def qCan (ks : List Nat) (L : qLc) : qLc := ks.map (fun k => (k, lcG k L))
def qCut (i : Nat) : List (Nat × List Nat) → Option (List Nat)
  | [] => none
  | q :: r => bif q.1 == i then some q.2 else qCut i r
/-- many steps of one method: it stops at a cut (with the cut's locals alone), at a call, at the end -/
def qRun (Ls : Nat) (xs : Nat → Int32) (P : qSem) (y : Nat) (ops : List qOp) (cuts : List (Nat × List Nat)) : Nat → Nat → qLc → List Value → qMem → qPost → Prop
  | 0, i, L, stk, M, Q => P y i L stk M Q
  | n + 1, i, L, stk, M, Q => qStepB Ls xs (fun y' i' L' stk' M' Q' => bif Nat.beq y' y then
      (match qCut i' cuts with
       | some ks => bif ks.all (fun k => qHas k L') then P y i' (qCan ks L') stk' M' Q' else False
       | none => qRun Ls xs P y ops cuts n i' L' stk' M' Q')
      else P y' i' L' stk' M' Q') y i (ops.getD i qHalt) L stk M Q
theorem qRun_ok (hG : qGood Ls xs P) {ops : List qOp} {cuts : List (Nat × List Nat)} (hops : qOps.getD y [] = ops) : ∀ (n i : Nat) (L : qLc) (stk : List Value) (M : qMem) (Q : qPost), qRun Ls xs P y ops cuts n i L stk M Q → P y i L stk M Q := by
  intro n
  induction n with
  | zero => intro i L stk M Q h; exact h
  | succ n ih =>
    intro i L stk M Q h
    refine hG.1 y i L stk M Q ?_
    have e : qOp' y i = ops.getD i qHalt := by
      unfold qOp'
      rw [hops]
    rw [e]
    refine qStep_le ?_ hG.2.2 h
    intro y' i' L' stk' M' Q' h'
    replace h' : bif Nat.beq y' y then
      (match qCut i' cuts with
       | some ks => bif ks.all (fun k => qHas k L') then P y i' (qCan ks L') stk' M' Q' else False
       | none => qRun Ls xs P y ops cuts n i' L' stk' M' Q')
      else P y' i' L' stk' M' Q' := h'
    cases hy : Nat.beq y' y with
    | true =>
      rw [hy] at h'
      have ey := q_bq hy
      subst ey
      replace h' : (match qCut i' cuts with
       | some ks => bif ks.all (fun k => qHas k L') then P y' i' (qCan ks L') stk' M' Q' else False
       | none => qRun Ls xs P y' ops cuts n i' L' stk' M' Q') := h'
      cases hc : qCut i' cuts with
      | none => rw [hc] at h'; exact ih _ _ _ _ _ h'
      | some ks =>
        rw [hc] at h'
        refine q_bif h' (fun ha h' => hG.2.1 _ _ _ _ _ _ _ (fun q hq => ?_) h')
        obtain ⟨k, hk, rfl⟩ := List.mem_map.mp hq
        exact qHas_mem (List.all_eq_true.mp ha k hk)
    | false => rw [hy] at h'; exact h'
end QM
end
section
/-! objects of a kind -/
def qRd (k : Nat) : Prop := shT k = 4 ∧ shT (rf k 0) = 100 ∧ shL (rf k 0) = 64
def qFq (k : Nat) : Prop := shT k = 0
def qIm (k : Nat) : Prop := shT k = 2 ∧ qRd (rf k 0)
/-! what is to be shown, segment by segment: rd (printed by wip/genvc.py) -/
section VC
variable {Ls : Nat} {xs : Nat → Int32} {P : qSem}
def qc_rd_size : List (Nat × List Nat) := []
theorem v_rd_size_0 (hG : qGood Ls xs P) {k : Nat} {M : qMem} {Q : qPost} (hk : qRd k)
    (hV : Q (some (.int (M.1 k 1))) M) :
    P 10 0 [(0, .ref k)] [] M Q := by
  refine qRun_ok hG (ops := qo_10) (cuts := qc_rd_size) rfl 5 0 _ _ _ _ ?_
  have hF : bif Nat.beq (shT k) 4 then Q (some (.int (M.1 k 1))) M else False := by
    (try rw [hk.1])
    (try rw [hk.2.1])
    (try rw [hk.2.2])
    exact hV
  exact hF
def qc_rd_reaches : List (Nat × List Nat) := []
theorem v_rd_reaches_0 (hG : qGood Ls xs P) {k : Nat} {l1 : Int32} {M : qMem} {Q : qPost} (hk : qRd k)
    (hV : ((l1 < 0 → (narrow .boolean (.int (0 : Int32)) = .int (0 : Int32) ∧ Q (some (.int (0 : Int32))) M)) ∧ (¬ (l1 < 0) → (((M.1 k 1) ≤ l1 → (narrow .boolean (.int (0 : Int32)) = .int (0 : Int32) ∧ Q (some (.int (0 : Int32))) M)) ∧ (¬ ((M.1 k 1) ≤ l1) → (narrow .boolean (.int (1 : Int32)) = .int (1 : Int32) ∧ Q (some (.int (1 : Int32))) M)))))) :
    P 11 0 [(0, .ref k), (1, .int l1)] [] M Q := by
  refine qRun_ok hG (ops := qo_11) (cuts := qc_rd_reaches) rfl 12 0 _ _ _ _ ?_
  have hF : ((l1 < 0 → (narrow .boolean (.int (0 : Int32)) = .int (0 : Int32) ∧ Q (some (.int (0 : Int32))) M)) ∧ (¬ (l1 < 0) → bif Nat.beq (shT k) 4 then (((M.1 k 1) ≤ l1 → (narrow .boolean (.int (0 : Int32)) = .int (0 : Int32) ∧ Q (some (.int (0 : Int32))) M)) ∧ (¬ ((M.1 k 1) ≤ l1) → (narrow .boolean (.int (1 : Int32)) = .int (1 : Int32) ∧ Q (some (.int (1 : Int32))) M))) else False)) := by
    (try rw [hk.1])
    (try rw [hk.2.1])
    (try rw [hk.2.2])
    exact hV
  exact hF
def qc_rd_has : List (Nat × List Nat) := [(3, [])]
theorem v_rd_has_0 (hG : qGood Ls xs P) {k : Nat} {l1 : Int32} {M : qMem} {Q : qPost} (hk : qRd k)
    (hV : (P 13 0 [(0, .ref k), (1, .int l1)] [] M (fun v M' => P 12 3 [] (v.toList ++ []) M' Q))) :
    P 12 0 [(0, .ref k), (1, .int l1)] [] M Q := by
  refine qRun_ok hG (ops := qo_12) (cuts := qc_rd_has) rfl 11 0 _ _ _ _ ?_
  have hF : bif Nat.beq (shT k) 4 then (P 13 0 [(0, .ref k), (1, .int l1)] [] M (fun v M' => P 12 3 [] (v.toList ++ []) M' Q)) else False := by
    (try rw [hk.1])
    (try rw [hk.2.1])
    (try rw [hk.2.2])
    exact hV
  exact hF
theorem v_rd_has_3 (hG : qGood Ls xs P) {s0 : Int32} {M : qMem} {Q : qPost}
    (hV : ((s0 = (-1000000001 : Int32) → (narrow .boolean (.int (0 : Int32)) = .int (0 : Int32) ∧ Q (some (.int (0 : Int32))) M)) ∧ (¬ (s0 = (-1000000001 : Int32)) → (narrow .boolean (.int (1 : Int32)) = .int (1 : Int32) ∧ Q (some (.int (1 : Int32))) M)))) :
    P 12 3 [] [.int s0] M Q := by
  exact qRun_ok hG (ops := qo_12) (cuts := qc_rd_has) rfl 11 3 _ _ _ _ hV
def qc_rd_at : List (Nat × List Nat) := []
theorem v_rd_at_0 (hG : qGood Ls xs P) {k : Nat} {l1 : Int32} {M : qMem} {Q : qPost} (hk : qRd k)
    (hV : ((l1 < 0 → Q (some (.int (-1000000001 : Int32))) M) ∧ (¬ (l1 < 0) → (((M.1 k 1) ≤ l1 → Q (some (.int (-1000000001 : Int32))) M) ∧ (¬ ((M.1 k 1) ≤ l1) → ((l1 < (Int32.ofNat 64) → (vp_in l1 64 ∧ Q (some (.int (M.1 (rf k 0) l1.toNatClampNeg))) M)) ∧ (¬ (l1 < (Int32.ofNat 64)) → Q (some (.int (-1000000001 : Int32))) M))))))) :
    P 13 0 [(0, .ref k), (1, .int l1)] [] M Q := by
  refine qRun_ok hG (ops := qo_13) (cuts := qc_rd_at) rfl 20 0 _ _ _ _ ?_
  have hF : ((l1 < 0 → Q (some (.int (-1000000001 : Int32))) M) ∧ (¬ (l1 < 0) → bif Nat.beq (shT k) 4 then (((M.1 k 1) ≤ l1 → Q (some (.int (-1000000001 : Int32))) M) ∧ (¬ ((M.1 k 1) ≤ l1) → bif Nat.beq (shT k) 4 then bif (Nat.ble 100 (shT (rf k 0)) && Nat.ble (shT (rf k 0)) 104) then ((l1 < (Int32.ofNat (shL (rf k 0))) → bif Nat.beq (shT k) 4 then bif Nat.beq (shT (rf k 0)) 100 then (vp_in l1 (shL (rf k 0)) ∧ Q (some (.int (M.1 (rf k 0) l1.toNatClampNeg))) M) else False else False) ∧ (¬ (l1 < (Int32.ofNat (shL (rf k 0)))) → Q (some (.int (-1000000001 : Int32))) M)) else False else False)) else False)) := by
    (try rw [hk.1])
    (try rw [hk.2.1])
    (try rw [hk.2.2])
    exact hV
  exact hF
def qc_rd_put : List (Nat × List Nat) := []
theorem v_rd_put_0 (hG : qGood Ls xs P) {k : Nat} {l1 l2 : Int32} {M : qMem} {Q : qPost} (hk : qRd k)
    (hV : ((l1 < 0 → Q none M) ∧ (¬ (l1 < 0) → (((M.1 k 1) ≤ l1 → Q none M) ∧ (¬ ((M.1 k 1) ≤ l1) → (((Int32.ofNat 64) ≤ l1 → Q none M) ∧ (¬ ((Int32.ofNat 64) ≤ l1) → (vp_in l1 64 ∧ Q none (pI M (rf k 0) l1.toNatClampNeg l2))))))))) :
    P 14 0 [(0, .ref k), (1, .int l1), (2, .int l2)] [] M Q := by
  refine qRun_ok hG (ops := qo_14) (cuts := qc_rd_put) rfl 19 0 _ _ _ _ ?_
  have hF : ((l1 < 0 → Q none M) ∧ (¬ (l1 < 0) → bif Nat.beq (shT k) 4 then (((M.1 k 1) ≤ l1 → Q none M) ∧ (¬ ((M.1 k 1) ≤ l1) → bif Nat.beq (shT k) 4 then bif (Nat.ble 100 (shT (rf k 0)) && Nat.ble (shT (rf k 0)) 104) then (((Int32.ofNat (shL (rf k 0))) ≤ l1 → Q none M) ∧ (¬ ((Int32.ofNat (shL (rf k 0))) ≤ l1) → bif Nat.beq (shT k) 4 then bif Nat.beq (shT (rf k 0)) 100 then (vp_in l1 (shL (rf k 0)) ∧ Q none (pI M (rf k 0) l1.toNatClampNeg l2)) else False else False)) else False else False)) else False)) := by
    (try rw [hk.1])
    (try rw [hk.2.1])
    (try rw [hk.2.2])
    exact hV
  exact hF
def qc_rd_append : List (Nat × List Nat) := []
theorem v_rd_append_0 (hG : qGood Ls xs P) {k : Nat} {l1 : Int32} {M : qMem} {Q : qPost} (hk : qRd k)
    (hV : (((M.1 k 1) < 0 → Q none M) ∧ (¬ ((M.1 k 1) < 0) → (((Int32.ofNat 64) ≤ (M.1 k 1) → Q none M) ∧ (¬ ((Int32.ofNat 64) ≤ (M.1 k 1)) → (vp_in (M.1 k 1) 64 ∧ Q none (pI (pI M (rf k 0) (M.1 k 1).toNatClampNeg l1) k 1 (((pI M (rf k 0) (M.1 k 1).toNatClampNeg l1).1 k 1) + (1 : Int32))))))))) :
    P 15 0 [(0, .ref k), (1, .int l1)] [] M Q := by
  refine qRun_ok hG (ops := qo_15) (cuts := qc_rd_append) rfl 24 0 _ _ _ _ ?_
  have hF : bif Nat.beq (shT k) 4 then (((M.1 k 1) < 0 → Q none M) ∧ (¬ ((M.1 k 1) < 0) → bif Nat.beq (shT k) 4 then bif Nat.beq (shT k) 4 then bif (Nat.ble 100 (shT (rf k 0)) && Nat.ble (shT (rf k 0)) 104) then (((Int32.ofNat (shL (rf k 0))) ≤ (M.1 k 1) → Q none M) ∧ (¬ ((Int32.ofNat (shL (rf k 0))) ≤ (M.1 k 1)) → bif Nat.beq (shT k) 4 then bif Nat.beq (shT k) 4 then bif Nat.beq (shT (rf k 0)) 100 then (vp_in (M.1 k 1) (shL (rf k 0)) ∧ bif Nat.beq (shT k) 4 then bif Nat.beq (shT k) 4 then Q none (pI (pI M (rf k 0) (M.1 k 1).toNatClampNeg l1) k 1 (((pI M (rf k 0) (M.1 k 1).toNatClampNeg l1).1 k 1) + (1 : Int32))) else False else False) else False else False else False)) else False else False else False)) else False := by
    (try rw [hk.1])
    (try rw [hk.2.1])
    (try rw [hk.2.2])
    exact hV
  exact hF
def qc_rd_appendTimes : List (Nat × List Nat) := [(2, [0, 1, 2, 3]), (8, [0, 1, 2, 3])]
theorem v_rd_appendTimes_0 (hG : qGood Ls xs P) {k : Nat} {l1 l2 : Int32} {M : qMem} {Q : qPost} (hk : qRd k)
    (hV : (P 16 2 [(0, .ref k), (1, .int l1), (2, .int l2), (3, .int (0 : Int32))] [] M Q)) :
    P 16 0 [(0, .ref k), (1, .int l1), (2, .int l2)] [] M Q := by
  exact qRun_ok hG (ops := qo_16) (cuts := qc_rd_appendTimes) rfl 13 0 _ _ _ _ hV
theorem v_rd_appendTimes_2 (hG : qGood Ls xs P) {k : Nat} {l1 l2 l3 : Int32} {M : qMem} {Q : qPost} (hk : qRd k)
    (hV : ((l2 ≤ l3 → Q none M) ∧ (¬ (l2 ≤ l3) → (P 15 0 [(0, .ref k), (1, .int l1)] [] M (fun v M' => P 16 8 [(0, .ref k), (1, .int l1), (2, .int l2), (3, .int l3)] (v.toList ++ []) M' Q))))) :
    P 16 2 [(0, .ref k), (1, .int l1), (2, .int l2), (3, .int l3)] [] M Q := by
  refine qRun_ok hG (ops := qo_16) (cuts := qc_rd_appendTimes) rfl 13 2 _ _ _ _ ?_
  have hF : ((l2 ≤ l3 → Q none M) ∧ (¬ (l2 ≤ l3) → bif Nat.beq (shT k) 4 then (P 15 0 [(0, .ref k), (1, .int l1)] [] M (fun v M' => P 16 8 [(0, .ref k), (1, .int l1), (2, .int l2), (3, .int l3)] (v.toList ++ []) M' Q)) else False)) := by
    (try rw [hk.1])
    (try rw [hk.2.1])
    (try rw [hk.2.2])
    exact hV
  exact hF
theorem v_rd_appendTimes_8 (hG : qGood Ls xs P) {k : Nat} {l1 l2 l3 : Int32} {M : qMem} {Q : qPost} (hk : qRd k)
    (hV : (P 16 2 [(0, .ref k), (1, .int l1), (2, .int l2), (3, .int (l3 + (1 : Int32)))] [] M Q)) :
    P 16 8 [(0, .ref k), (1, .int l1), (2, .int l2), (3, .int l3)] [] M Q := by
  exact qRun_ok hG (ops := qo_16) (cuts := qc_rd_appendTimes) rfl 13 8 _ _ _ _ hV
def qc_rd_empty : List (Nat × List Nat) := []
theorem v_rd_empty_0 (hG : qGood Ls xs P) {k : Nat} {M : qMem} {Q : qPost} (hk : qRd k)
    (hV : Q none (pI M k 1 (0 : Int32))) :
    P 17 0 [(0, .ref k)] [] M Q := by
  refine qRun_ok hG (ops := qo_17) (cuts := qc_rd_empty) rfl 6 0 _ _ _ _ ?_
  have hF : bif Nat.beq (shT k) 4 then Q none (pI M k 1 (0 : Int32)) else False := by
    (try rw [hk.1])
    (try rw [hk.2.1])
    (try rw [hk.2.2])
    exact hV
  exact hF
def qc_rd_copyFrom : List (Nat × List Nat) := [(2, [0, 1]), (4, [0, 1, 2]), (7, [0, 1, 2]), (12, [0, 1, 2]), (13, [0, 1, 2])]
theorem v_rd_copyFrom_0 (hG : qGood Ls xs P) {k k1 : Nat} {M : qMem} {Q : qPost} (hk : qRd k) (hk1 : qRd k1)
    (hV : (P 17 0 [(0, .ref k)] [] M (fun v M' => P 18 2 [(0, .ref k), (1, .ref k1)] (v.toList ++ []) M' Q))) :
    P 18 0 [(0, .ref k), (1, .ref k1)] [] M Q := by
  refine qRun_ok hG (ops := qo_18) (cuts := qc_rd_copyFrom) rfl 18 0 _ _ _ _ ?_
  have hF : bif Nat.beq (shT k) 4 then (P 17 0 [(0, .ref k)] [] M (fun v M' => P 18 2 [(0, .ref k), (1, .ref k1)] (v.toList ++ []) M' Q)) else False := by
    (try rw [hk.1])
    (try rw [hk.2.1])
    (try rw [hk.2.2])
    (try rw [hk1.1])
    (try rw [hk1.2.1])
    (try rw [hk1.2.2])
    exact hV
  exact hF
theorem v_rd_copyFrom_2 (hG : qGood Ls xs P) {k k1 : Nat} {M : qMem} {Q : qPost} (hk : qRd k) (hk1 : qRd k1)
    (hV : (P 18 4 [(0, .ref k), (1, .ref k1), (2, .int (0 : Int32))] [] M Q)) :
    P 18 2 [(0, .ref k), (1, .ref k1)] [] M Q := by
  exact qRun_ok hG (ops := qo_18) (cuts := qc_rd_copyFrom) rfl 18 2 _ _ _ _ hV
theorem v_rd_copyFrom_4 (hG : qGood Ls xs P) {k k1 : Nat} {l2 : Int32} {M : qMem} {Q : qPost} (hk : qRd k) (hk1 : qRd k1)
    (hV : (P 10 0 [(0, .ref k1)] [] M (fun v M' => P 18 7 [(0, .ref k), (1, .ref k1), (2, .int l2)] (v.toList ++ [.int l2]) M' Q))) :
    P 18 4 [(0, .ref k), (1, .ref k1), (2, .int l2)] [] M Q := by
  refine qRun_ok hG (ops := qo_18) (cuts := qc_rd_copyFrom) rfl 18 4 _ _ _ _ ?_
  have hF : bif Nat.beq (shT k1) 4 then (P 10 0 [(0, .ref k1)] [] M (fun v M' => P 18 7 [(0, .ref k), (1, .ref k1), (2, .int l2)] (v.toList ++ [.int l2]) M' Q)) else False := by
    (try rw [hk.1])
    (try rw [hk.2.1])
    (try rw [hk.2.2])
    (try rw [hk1.1])
    (try rw [hk1.2.1])
    (try rw [hk1.2.2])
    exact hV
  exact hF
theorem v_rd_copyFrom_7 (hG : qGood Ls xs P) {k k1 : Nat} {l2 s0 s1 : Int32} {M : qMem} {Q : qPost} (hk : qRd k) (hk1 : qRd k1)
    (hV : ((s0 ≤ s1 → Q none M) ∧ (¬ (s0 ≤ s1) → (P 13 0 [(0, .ref k1), (1, .int l2)] [] M (fun v M' => P 18 12 [(0, .ref k), (1, .ref k1), (2, .int l2)] (v.toList ++ [.ref k]) M' Q))))) :
    P 18 7 [(0, .ref k), (1, .ref k1), (2, .int l2)] [.int s0, .int s1] M Q := by
  refine qRun_ok hG (ops := qo_18) (cuts := qc_rd_copyFrom) rfl 18 7 _ _ _ _ ?_
  have hF : ((s0 ≤ s1 → Q none M) ∧ (¬ (s0 ≤ s1) → bif Nat.beq (shT k1) 4 then (P 13 0 [(0, .ref k1), (1, .int l2)] [] M (fun v M' => P 18 12 [(0, .ref k), (1, .ref k1), (2, .int l2)] (v.toList ++ [.ref k]) M' Q)) else False)) := by
    (try rw [hk.1])
    (try rw [hk.2.1])
    (try rw [hk.2.2])
    (try rw [hk1.1])
    (try rw [hk1.2.1])
    (try rw [hk1.2.2])
    exact hV
  exact hF
theorem v_rd_copyFrom_12 (hG : qGood Ls xs P) {k k1 : Nat} {l2 s0 : Int32} {M : qMem} {Q : qPost} (hk : qRd k) (hk1 : qRd k1)
    (hV : (P 15 0 [(0, .ref k), (1, .int s0)] [] M (fun v M' => P 18 13 [(0, .ref k), (1, .ref k1), (2, .int l2)] (v.toList ++ []) M' Q))) :
    P 18 12 [(0, .ref k), (1, .ref k1), (2, .int l2)] [.int s0, .ref k] M Q := by
  refine qRun_ok hG (ops := qo_18) (cuts := qc_rd_copyFrom) rfl 18 12 _ _ _ _ ?_
  have hF : bif Nat.beq (shT k) 4 then (P 15 0 [(0, .ref k), (1, .int s0)] [] M (fun v M' => P 18 13 [(0, .ref k), (1, .ref k1), (2, .int l2)] (v.toList ++ []) M' Q)) else False := by
    (try rw [hk.1])
    (try rw [hk.2.1])
    (try rw [hk.2.2])
    (try rw [hk1.1])
    (try rw [hk1.2.1])
    (try rw [hk1.2.2])
    exact hV
  exact hF
theorem v_rd_copyFrom_13 (hG : qGood Ls xs P) {k k1 : Nat} {l2 : Int32} {M : qMem} {Q : qPost} (hk : qRd k) (hk1 : qRd k1)
    (hV : (P 18 4 [(0, .ref k), (1, .ref k1), (2, .int (l2 + (1 : Int32)))] [] M Q)) :
    P 18 13 [(0, .ref k), (1, .ref k1), (2, .int l2)] [] M Q := by
  exact qRun_ok hG (ops := qo_18) (cuts := qc_rd_copyFrom) rfl 18 13 _ _ _ _ hV
def qc_rd_present : List (Nat × List Nat) := [(4, [0, 1, 2]), (11, [0, 1, 2])]
theorem v_rd_present_0 (hG : qGood Ls xs P) {k : Nat} {M : qMem} {Q : qPost} (hk : qRd k)
    (hV : (P 19 4 [(0, .ref k), (1, .int (0 : Int32)), (2, .int (0 : Int32))] [] M Q)) :
    P 19 0 [(0, .ref k)] [] M Q := by
  exact qRun_ok hG (ops := qo_19) (cuts := qc_rd_present) rfl 19 0 _ _ _ _ hV
theorem v_rd_present_4 (hG : qGood Ls xs P) {k : Nat} {l1 l2 : Int32} {M : qMem} {Q : qPost} (hk : qRd k)
    (hV : (((M.1 k 1) ≤ l2 → Q (some (.int l1)) M) ∧ (¬ ((M.1 k 1) ≤ l2) → (P 12 0 [(0, .ref k), (1, .int l2)] [] M (fun v M' => P 19 11 [(0, .ref k), (1, .int l1), (2, .int l2)] (v.toList ++ []) M' Q))))) :
    P 19 4 [(0, .ref k), (1, .int l1), (2, .int l2)] [] M Q := by
  refine qRun_ok hG (ops := qo_19) (cuts := qc_rd_present) rfl 19 4 _ _ _ _ ?_
  have hF : bif Nat.beq (shT k) 4 then (((M.1 k 1) ≤ l2 → Q (some (.int l1)) M) ∧ (¬ ((M.1 k 1) ≤ l2) → bif Nat.beq (shT k) 4 then (P 12 0 [(0, .ref k), (1, .int l2)] [] M (fun v M' => P 19 11 [(0, .ref k), (1, .int l1), (2, .int l2)] (v.toList ++ []) M' Q)) else False)) else False := by
    (try rw [hk.1])
    (try rw [hk.2.1])
    (try rw [hk.2.2])
    exact hV
  exact hF
theorem v_rd_present_11 (hG : qGood Ls xs P) {k : Nat} {l1 l2 s0 : Int32} {M : qMem} {Q : qPost} (hk : qRd k)
    (hV : ((s0 = 0 → (P 19 4 [(0, .ref k), (1, .int l1), (2, .int (l2 + (1 : Int32)))] [] M Q)) ∧ (¬ (s0 = 0) → (P 19 4 [(0, .ref k), (1, .int (l1 + (1 : Int32))), (2, .int (l2 + (1 : Int32)))] [] M Q)))) :
    P 19 11 [(0, .ref k), (1, .int l1), (2, .int l2)] [.int s0] M Q := by
  exact qRun_ok hG (ops := qo_19) (cuts := qc_rd_present) rfl 19 11 _ _ _ _ hV
def qc_rd_least : List (Nat × List Nat) := [(4, [0, 1, 2]), (11, [0, 1, 2]), (18, [0, 1, 2]), (23, [0, 2])]
theorem v_rd_least_0 (hG : qGood Ls xs P) {k : Nat} {M : qMem} {Q : qPost} (hk : qRd k)
    (hV : (P 20 4 [(0, .ref k), (1, .int (-1000000001 : Int32)), (2, .int (0 : Int32))] [] M Q)) :
    P 20 0 [(0, .ref k)] [] M Q := by
  exact qRun_ok hG (ops := qo_20) (cuts := qc_rd_least) rfl 30 0 _ _ _ _ hV
theorem v_rd_least_4 (hG : qGood Ls xs P) {k : Nat} {l1 l2 : Int32} {M : qMem} {Q : qPost} (hk : qRd k)
    (hV : (((M.1 k 1) ≤ l2 → Q (some (.int l1)) M) ∧ (¬ ((M.1 k 1) ≤ l2) → (P 12 0 [(0, .ref k), (1, .int l2)] [] M (fun v M' => P 20 11 [(0, .ref k), (1, .int l1), (2, .int l2)] (v.toList ++ []) M' Q))))) :
    P 20 4 [(0, .ref k), (1, .int l1), (2, .int l2)] [] M Q := by
  refine qRun_ok hG (ops := qo_20) (cuts := qc_rd_least) rfl 30 4 _ _ _ _ ?_
  have hF : bif Nat.beq (shT k) 4 then (((M.1 k 1) ≤ l2 → Q (some (.int l1)) M) ∧ (¬ ((M.1 k 1) ≤ l2) → bif Nat.beq (shT k) 4 then (P 12 0 [(0, .ref k), (1, .int l2)] [] M (fun v M' => P 20 11 [(0, .ref k), (1, .int l1), (2, .int l2)] (v.toList ++ []) M' Q)) else False)) else False := by
    (try rw [hk.1])
    (try rw [hk.2.1])
    (try rw [hk.2.2])
    exact hV
  exact hF
theorem v_rd_least_11 (hG : qGood Ls xs P) {k : Nat} {l1 l2 s0 : Int32} {M : qMem} {Q : qPost} (hk : qRd k)
    (hV : ((s0 = 0 → (P 20 4 [(0, .ref k), (1, .int l1), (2, .int (l2 + (1 : Int32)))] [] M Q)) ∧ (¬ (s0 = 0) → ((l1 = (-1000000001 : Int32) → (P 13 0 [(0, .ref k), (1, .int l2)] [] M (fun v M' => P 20 23 [(0, .ref k), (2, .int l2)] (v.toList ++ []) M' Q))) ∧ (¬ (l1 = (-1000000001 : Int32)) → (P 13 0 [(0, .ref k), (1, .int l2)] [] M (fun v M' => P 20 18 [(0, .ref k), (1, .int l1), (2, .int l2)] (v.toList ++ []) M' Q))))))) :
    P 20 11 [(0, .ref k), (1, .int l1), (2, .int l2)] [.int s0] M Q := by
  refine qRun_ok hG (ops := qo_20) (cuts := qc_rd_least) rfl 30 11 _ _ _ _ ?_
  have hF : ((s0 = 0 → (P 20 4 [(0, .ref k), (1, .int l1), (2, .int (l2 + (1 : Int32)))] [] M Q)) ∧ (¬ (s0 = 0) → ((l1 = (-1000000001 : Int32) → bif Nat.beq (shT k) 4 then (P 13 0 [(0, .ref k), (1, .int l2)] [] M (fun v M' => P 20 23 [(0, .ref k), (2, .int l2)] (v.toList ++ []) M' Q)) else False) ∧ (¬ (l1 = (-1000000001 : Int32)) → bif Nat.beq (shT k) 4 then (P 13 0 [(0, .ref k), (1, .int l2)] [] M (fun v M' => P 20 18 [(0, .ref k), (1, .int l1), (2, .int l2)] (v.toList ++ []) M' Q)) else False)))) := by
    (try rw [hk.1])
    (try rw [hk.2.1])
    (try rw [hk.2.2])
    exact hV
  exact hF
theorem v_rd_least_23 (hG : qGood Ls xs P) {k : Nat} {l2 s0 : Int32} {M : qMem} {Q : qPost} (hk : qRd k)
    (hV : (P 20 4 [(0, .ref k), (1, .int s0), (2, .int (l2 + (1 : Int32)))] [] M Q)) :
    P 20 23 [(0, .ref k), (2, .int l2)] [.int s0] M Q := by
  exact qRun_ok hG (ops := qo_20) (cuts := qc_rd_least) rfl 30 23 _ _ _ _ hV
theorem v_rd_least_18 (hG : qGood Ls xs P) {k : Nat} {l1 l2 s0 : Int32} {M : qMem} {Q : qPost} (hk : qRd k)
    (hV : ((l1 ≤ s0 → (P 20 4 [(0, .ref k), (1, .int l1), (2, .int (l2 + (1 : Int32)))] [] M Q)) ∧ (¬ (l1 ≤ s0) → (P 13 0 [(0, .ref k), (1, .int l2)] [] M (fun v M' => P 20 23 [(0, .ref k), (2, .int l2)] (v.toList ++ []) M' Q))))) :
    P 20 18 [(0, .ref k), (1, .int l1), (2, .int l2)] [.int s0] M Q := by
  refine qRun_ok hG (ops := qo_20) (cuts := qc_rd_least) rfl 30 18 _ _ _ _ ?_
  have hF : ((l1 ≤ s0 → (P 20 4 [(0, .ref k), (1, .int l1), (2, .int (l2 + (1 : Int32)))] [] M Q)) ∧ (¬ (l1 ≤ s0) → bif Nat.beq (shT k) 4 then (P 13 0 [(0, .ref k), (1, .int l2)] [] M (fun v M' => P 20 23 [(0, .ref k), (2, .int l2)] (v.toList ++ []) M' Q)) else False)) := by
    (try rw [hk.1])
    (try rw [hk.2.1])
    (try rw [hk.2.2])
    exact hV
  exact hF
def qc_rd_greatest : List (Nat × List Nat) := [(4, [0, 1, 2]), (12, [0, 2]), (13, [0, 2])]
theorem v_rd_greatest_0 (hG : qGood Ls xs P) {k : Nat} {M : qMem} {Q : qPost} (hk : qRd k)
    (hV : (P 21 4 [(0, .ref k), (1, .int (-1000000001 : Int32)), (2, .int (0 : Int32))] [] M Q)) :
    P 21 0 [(0, .ref k)] [] M Q := by
  exact qRun_ok hG (ops := qo_21) (cuts := qc_rd_greatest) rfl 20 0 _ _ _ _ hV
theorem v_rd_greatest_4 (hG : qGood Ls xs P) {k : Nat} {l1 l2 : Int32} {M : qMem} {Q : qPost} (hk : qRd k)
    (hV : (((M.1 k 1) ≤ l2 → Q (some (.int l1)) M) ∧ (¬ ((M.1 k 1) ≤ l2) → (P 13 0 [(0, .ref k), (1, .int l2)] [] M (fun v M' => P 21 12 [(0, .ref k), (2, .int l2)] (v.toList ++ [.int l1]) M' Q))))) :
    P 21 4 [(0, .ref k), (1, .int l1), (2, .int l2)] [] M Q := by
  refine qRun_ok hG (ops := qo_21) (cuts := qc_rd_greatest) rfl 20 4 _ _ _ _ ?_
  have hF : bif Nat.beq (shT k) 4 then (((M.1 k 1) ≤ l2 → Q (some (.int l1)) M) ∧ (¬ ((M.1 k 1) ≤ l2) → bif Nat.beq (shT k) 4 then (P 13 0 [(0, .ref k), (1, .int l2)] [] M (fun v M' => P 21 12 [(0, .ref k), (2, .int l2)] (v.toList ++ [.int l1]) M' Q)) else False)) else False := by
    (try rw [hk.1])
    (try rw [hk.2.1])
    (try rw [hk.2.2])
    exact hV
  exact hF
theorem v_rd_greatest_12 (hG : qGood Ls xs P) {k : Nat} {l2 s0 s1 : Int32} {M : qMem} {Q : qPost} (hk : qRd k)
    (hV : (P 72 0 [(0, .int s1), (1, .int s0)] [] M (fun v M' => P 21 13 [(0, .ref k), (2, .int l2)] (v.toList ++ []) M' Q))) :
    P 21 12 [(0, .ref k), (2, .int l2)] [.int s0, .int s1] M Q := by
  exact qRun_ok hG (ops := qo_21) (cuts := qc_rd_greatest) rfl 20 12 _ _ _ _ hV
theorem v_rd_greatest_13 (hG : qGood Ls xs P) {k : Nat} {l2 s0 : Int32} {M : qMem} {Q : qPost} (hk : qRd k)
    (hV : (P 21 4 [(0, .ref k), (1, .int s0), (2, .int (l2 + (1 : Int32)))] [] M Q)) :
    P 21 13 [(0, .ref k), (2, .int l2)] [.int s0] M Q := by
  exact qRun_ok hG (ops := qo_21) (cuts := qc_rd_greatest) rfl 20 13 _ _ _ _ hV
def qc_rd_gaps : List (Nat × List Nat) := [(4, [0, 1, 2]), (11, [0, 1, 2])]
theorem v_rd_gaps_0 (hG : qGood Ls xs P) {k : Nat} {M : qMem} {Q : qPost} (hk : qRd k)
    (hV : (P 22 4 [(0, .ref k), (1, .int (0 : Int32)), (2, .int (0 : Int32))] [] M Q)) :
    P 22 0 [(0, .ref k)] [] M Q := by
  exact qRun_ok hG (ops := qo_22) (cuts := qc_rd_gaps) rfl 19 0 _ _ _ _ hV
theorem v_rd_gaps_4 (hG : qGood Ls xs P) {k : Nat} {l1 l2 : Int32} {M : qMem} {Q : qPost} (hk : qRd k)
    (hV : (((M.1 k 1) ≤ l2 → Q (some (.int l1)) M) ∧ (¬ ((M.1 k 1) ≤ l2) → (P 24 0 [(0, .ref k), (1, .int l2)] [] M (fun v M' => P 22 11 [(0, .ref k), (1, .int l1), (2, .int l2)] (v.toList ++ []) M' Q))))) :
    P 22 4 [(0, .ref k), (1, .int l1), (2, .int l2)] [] M Q := by
  refine qRun_ok hG (ops := qo_22) (cuts := qc_rd_gaps) rfl 19 4 _ _ _ _ ?_
  have hF : bif Nat.beq (shT k) 4 then (((M.1 k 1) ≤ l2 → Q (some (.int l1)) M) ∧ (¬ ((M.1 k 1) ≤ l2) → bif Nat.beq (shT k) 4 then (P 24 0 [(0, .ref k), (1, .int l2)] [] M (fun v M' => P 22 11 [(0, .ref k), (1, .int l1), (2, .int l2)] (v.toList ++ []) M' Q)) else False)) else False := by
    (try rw [hk.1])
    (try rw [hk.2.1])
    (try rw [hk.2.2])
    exact hV
  exact hF
theorem v_rd_gaps_11 (hG : qGood Ls xs P) {k : Nat} {l1 l2 s0 : Int32} {M : qMem} {Q : qPost} (hk : qRd k)
    (hV : ((s0 = 0 → (P 22 4 [(0, .ref k), (1, .int l1), (2, .int (l2 + (1 : Int32)))] [] M Q)) ∧ (¬ (s0 = 0) → (P 22 4 [(0, .ref k), (1, .int (l1 + (1 : Int32))), (2, .int (l2 + (1 : Int32)))] [] M Q)))) :
    P 22 11 [(0, .ref k), (1, .int l1), (2, .int l2)] [.int s0] M Q := by
  exact qRun_ok hG (ops := qo_22) (cuts := qc_rd_gaps) rfl 19 11 _ _ _ _ hV
def qc_rd_longestGap : List (Nat × List Nat) := [(4, [0, 1, 2]), (11, [0, 1, 2]), (16, [0, 2]), (19, [0, 2])]
theorem v_rd_longestGap_0 (hG : qGood Ls xs P) {k : Nat} {M : qMem} {Q : qPost} (hk : qRd k)
    (hV : (P 23 4 [(0, .ref k), (1, .int (0 : Int32)), (2, .int (0 : Int32))] [] M Q)) :
    P 23 0 [(0, .ref k)] [] M Q := by
  exact qRun_ok hG (ops := qo_23) (cuts := qc_rd_longestGap) rfl 26 0 _ _ _ _ hV
theorem v_rd_longestGap_4 (hG : qGood Ls xs P) {k : Nat} {l1 l2 : Int32} {M : qMem} {Q : qPost} (hk : qRd k)
    (hV : (((M.1 k 1) ≤ l2 → Q (some (.int l1)) M) ∧ (¬ ((M.1 k 1) ≤ l2) → (P 24 0 [(0, .ref k), (1, .int l2)] [] M (fun v M' => P 23 11 [(0, .ref k), (1, .int l1), (2, .int l2)] (v.toList ++ []) M' Q))))) :
    P 23 4 [(0, .ref k), (1, .int l1), (2, .int l2)] [] M Q := by
  refine qRun_ok hG (ops := qo_23) (cuts := qc_rd_longestGap) rfl 26 4 _ _ _ _ ?_
  have hF : bif Nat.beq (shT k) 4 then (((M.1 k 1) ≤ l2 → Q (some (.int l1)) M) ∧ (¬ ((M.1 k 1) ≤ l2) → bif Nat.beq (shT k) 4 then (P 24 0 [(0, .ref k), (1, .int l2)] [] M (fun v M' => P 23 11 [(0, .ref k), (1, .int l1), (2, .int l2)] (v.toList ++ []) M' Q)) else False)) else False := by
    (try rw [hk.1])
    (try rw [hk.2.1])
    (try rw [hk.2.2])
    exact hV
  exact hF
theorem v_rd_longestGap_11 (hG : qGood Ls xs P) {k : Nat} {l1 l2 s0 : Int32} {M : qMem} {Q : qPost} (hk : qRd k)
    (hV : ((s0 = 0 → (P 23 4 [(0, .ref k), (1, .int l1), (2, .int (l2 + (1 : Int32)))] [] M Q)) ∧ (¬ (s0 = 0) → (P 25 0 [(0, .ref k), (1, .int l2)] [] M (fun v M' => P 23 16 [(0, .ref k), (2, .int l2)] (v.toList ++ [.int l1]) M' Q))))) :
    P 23 11 [(0, .ref k), (1, .int l1), (2, .int l2)] [.int s0] M Q := by
  refine qRun_ok hG (ops := qo_23) (cuts := qc_rd_longestGap) rfl 26 11 _ _ _ _ ?_
  have hF : ((s0 = 0 → (P 23 4 [(0, .ref k), (1, .int l1), (2, .int (l2 + (1 : Int32)))] [] M Q)) ∧ (¬ (s0 = 0) → bif Nat.beq (shT k) 4 then (P 25 0 [(0, .ref k), (1, .int l2)] [] M (fun v M' => P 23 16 [(0, .ref k), (2, .int l2)] (v.toList ++ [.int l1]) M' Q)) else False)) := by
    (try rw [hk.1])
    (try rw [hk.2.1])
    (try rw [hk.2.2])
    exact hV
  exact hF
theorem v_rd_longestGap_16 (hG : qGood Ls xs P) {k : Nat} {l2 s0 s1 : Int32} {M : qMem} {Q : qPost} (hk : qRd k)
    (hV : (P 72 0 [(0, .int s1), (1, .int (s0 - l2))] [] M (fun v M' => P 23 19 [(0, .ref k), (2, .int l2)] (v.toList ++ []) M' Q))) :
    P 23 16 [(0, .ref k), (2, .int l2)] [.int s0, .int s1] M Q := by
  exact qRun_ok hG (ops := qo_23) (cuts := qc_rd_longestGap) rfl 26 16 _ _ _ _ hV
theorem v_rd_longestGap_19 (hG : qGood Ls xs P) {k : Nat} {l2 s0 : Int32} {M : qMem} {Q : qPost} (hk : qRd k)
    (hV : (P 23 4 [(0, .ref k), (1, .int s0), (2, .int (l2 + (1 : Int32)))] [] M Q)) :
    P 23 19 [(0, .ref k), (2, .int l2)] [.int s0] M Q := by
  exact qRun_ok hG (ops := qo_23) (cuts := qc_rd_longestGap) rfl 26 19 _ _ _ _ hV
def qc_rd_startsGap : List (Nat × List Nat) := [(3, [0, 1]), (11, [])]
theorem v_rd_startsGap_0 (hG : qGood Ls xs P) {k : Nat} {l1 : Int32} {M : qMem} {Q : qPost} (hk : qRd k)
    (hV : (P 12 0 [(0, .ref k), (1, .int l1)] [] M (fun v M' => P 24 3 [(0, .ref k), (1, .int l1)] (v.toList ++ []) M' Q))) :
    P 24 0 [(0, .ref k), (1, .int l1)] [] M Q := by
  refine qRun_ok hG (ops := qo_24) (cuts := qc_rd_startsGap) rfl 18 0 _ _ _ _ ?_
  have hF : bif Nat.beq (shT k) 4 then (P 12 0 [(0, .ref k), (1, .int l1)] [] M (fun v M' => P 24 3 [(0, .ref k), (1, .int l1)] (v.toList ++ []) M' Q)) else False := by
    (try rw [hk.1])
    (try rw [hk.2.1])
    (try rw [hk.2.2])
    exact hV
  exact hF
theorem v_rd_startsGap_3 (hG : qGood Ls xs P) {k : Nat} {l1 s0 : Int32} {M : qMem} {Q : qPost} (hk : qRd k)
    (hV : ((¬ s0 = 0 → (narrow .boolean (.int (0 : Int32)) = .int (0 : Int32) ∧ Q (some (.int (0 : Int32))) M)) ∧ (¬ (¬ s0 = 0) → ((l1 = 0 → (narrow .boolean (.int (1 : Int32)) = .int (1 : Int32) ∧ Q (some (.int (1 : Int32))) M)) ∧ (¬ (l1 = 0) → (P 12 0 [(0, .ref k), (1, .int (l1 - (1 : Int32)))] [] M (fun v M' => P 24 11 [] (v.toList ++ []) M' Q))))))) :
    P 24 3 [(0, .ref k), (1, .int l1)] [.int s0] M Q := by
  refine qRun_ok hG (ops := qo_24) (cuts := qc_rd_startsGap) rfl 18 3 _ _ _ _ ?_
  have hF : ((¬ s0 = 0 → (narrow .boolean (.int (0 : Int32)) = .int (0 : Int32) ∧ Q (some (.int (0 : Int32))) M)) ∧ (¬ (¬ s0 = 0) → ((l1 = 0 → (narrow .boolean (.int (1 : Int32)) = .int (1 : Int32) ∧ Q (some (.int (1 : Int32))) M)) ∧ (¬ (l1 = 0) → bif Nat.beq (shT k) 4 then (P 12 0 [(0, .ref k), (1, .int (l1 - (1 : Int32)))] [] M (fun v M' => P 24 11 [] (v.toList ++ []) M' Q)) else False)))) := by
    (try rw [hk.1])
    (try rw [hk.2.1])
    (try rw [hk.2.2])
    exact hV
  exact hF
theorem v_rd_startsGap_11 (hG : qGood Ls xs P) {s0 : Int32} {M : qMem} {Q : qPost}
    (hV : ((s0 = 0 → (narrow .boolean (.int (0 : Int32)) = .int (0 : Int32) ∧ Q (some (.int (0 : Int32))) M)) ∧ (¬ (s0 = 0) → (narrow .boolean (.int (1 : Int32)) = .int (1 : Int32) ∧ Q (some (.int (1 : Int32))) M)))) :
    P 24 11 [] [.int s0] M Q := by
  exact qRun_ok hG (ops := qo_24) (cuts := qc_rd_startsGap) rfl 18 11 _ _ _ _ hV
def qc_rd_gapEnd : List (Nat × List Nat) := [(2, [0, 2]), (9, [0, 2])]
theorem v_rd_gapEnd_0 (hG : qGood Ls xs P) {k : Nat} {l1 : Int32} {M : qMem} {Q : qPost} (hk : qRd k)
    (hV : (P 25 2 [(0, .ref k), (2, .int l1)] [] M Q)) :
    P 25 0 [(0, .ref k), (1, .int l1)] [] M Q := by
  exact qRun_ok hG (ops := qo_25) (cuts := qc_rd_gapEnd) rfl 16 0 _ _ _ _ hV
theorem v_rd_gapEnd_2 (hG : qGood Ls xs P) {k : Nat} {l2 : Int32} {M : qMem} {Q : qPost} (hk : qRd k)
    (hV : (((M.1 k 1) ≤ l2 → Q (some (.int l2)) M) ∧ (¬ ((M.1 k 1) ≤ l2) → (P 12 0 [(0, .ref k), (1, .int l2)] [] M (fun v M' => P 25 9 [(0, .ref k), (2, .int l2)] (v.toList ++ []) M' Q))))) :
    P 25 2 [(0, .ref k), (2, .int l2)] [] M Q := by
  refine qRun_ok hG (ops := qo_25) (cuts := qc_rd_gapEnd) rfl 16 2 _ _ _ _ ?_
  have hF : bif Nat.beq (shT k) 4 then (((M.1 k 1) ≤ l2 → Q (some (.int l2)) M) ∧ (¬ ((M.1 k 1) ≤ l2) → bif Nat.beq (shT k) 4 then (P 12 0 [(0, .ref k), (1, .int l2)] [] M (fun v M' => P 25 9 [(0, .ref k), (2, .int l2)] (v.toList ++ []) M' Q)) else False)) else False := by
    (try rw [hk.1])
    (try rw [hk.2.1])
    (try rw [hk.2.2])
    exact hV
  exact hF
theorem v_rd_gapEnd_9 (hG : qGood Ls xs P) {k : Nat} {l2 s0 : Int32} {M : qMem} {Q : qPost} (hk : qRd k)
    (hV : ((¬ s0 = 0 → Q (some (.int l2)) M) ∧ (¬ (¬ s0 = 0) → (P 25 2 [(0, .ref k), (2, .int (l2 + (1 : Int32)))] [] M Q)))) :
    P 25 9 [(0, .ref k), (2, .int l2)] [.int s0] M Q := by
  exact qRun_ok hG (ops := qo_25) (cuts := qc_rd_gapEnd) rfl 16 9 _ _ _ _ hV
def qc_rd_lineAt : List (Nat × List Nat) := [(3, [0, 1, 2, 3]), (7, [0, 1, 2, 3]), (16, [0, 1, 2, 3]), (19, [0, 1, 2, 3]), (25, [1, 2, 3, 4]), (37, [])]
theorem v_rd_lineAt_0 (hG : qGood Ls xs P) {k : Nat} {l1 l2 l3 : Int32} {M : qMem} {Q : qPost} (hk : qRd k)
    (hV : (P 12 0 [(0, .ref k), (1, .int l1)] [] M (fun v M' => P 26 3 [(0, .ref k), (1, .int l1), (2, .int l2), (3, .int l3)] (v.toList ++ []) M' Q))) :
    P 26 0 [(0, .ref k), (1, .int l1), (2, .int l2), (3, .int l3)] [] M Q := by
  refine qRun_ok hG (ops := qo_26) (cuts := qc_rd_lineAt) rfl 41 0 _ _ _ _ ?_
  have hF : bif Nat.beq (shT k) 4 then (P 12 0 [(0, .ref k), (1, .int l1)] [] M (fun v M' => P 26 3 [(0, .ref k), (1, .int l1), (2, .int l2), (3, .int l3)] (v.toList ++ []) M' Q)) else False := by
    (try rw [hk.1])
    (try rw [hk.2.1])
    (try rw [hk.2.2])
    exact hV
  exact hF
theorem v_rd_lineAt_3 (hG : qGood Ls xs P) {k : Nat} {l1 l2 l3 s0 : Int32} {M : qMem} {Q : qPost} (hk : qRd k)
    (hV : ((s0 = 0 → Q (some (.long (0 : Int64))) M) ∧ (¬ (s0 = 0) → (P 12 0 [(0, .ref k), (1, .int l2)] [] M (fun v M' => P 26 7 [(0, .ref k), (1, .int l1), (2, .int l2), (3, .int l3)] (v.toList ++ []) M' Q))))) :
    P 26 3 [(0, .ref k), (1, .int l1), (2, .int l2), (3, .int l3)] [.int s0] M Q := by
  refine qRun_ok hG (ops := qo_26) (cuts := qc_rd_lineAt) rfl 41 3 _ _ _ _ ?_
  have hF : ((s0 = 0 → Q (some (.long (0 : Int64))) M) ∧ (¬ (s0 = 0) → bif Nat.beq (shT k) 4 then (P 12 0 [(0, .ref k), (1, .int l2)] [] M (fun v M' => P 26 7 [(0, .ref k), (1, .int l1), (2, .int l2), (3, .int l3)] (v.toList ++ []) M' Q)) else False)) := by
    (try rw [hk.1])
    (try rw [hk.2.1])
    (try rw [hk.2.2])
    exact hV
  exact hF
theorem v_rd_lineAt_7 (hG : qGood Ls xs P) {k : Nat} {l1 l2 l3 s0 : Int32} {M : qMem} {Q : qPost} (hk : qRd k)
    (hV : ((s0 = 0 → Q (some (.long (0 : Int64))) M) ∧ (¬ (s0 = 0) → ((l1 < l2 → (P 13 0 [(0, .ref k), (1, .int l2)] [] M (fun v M' => P 26 16 [(0, .ref k), (1, .int l1), (2, .int l2), (3, .int l3)] (v.toList ++ []) M' Q))) ∧ (¬ (l1 < l2) → Q (some (.long (0 : Int64))) M))))) :
    P 26 7 [(0, .ref k), (1, .int l1), (2, .int l2), (3, .int l3)] [.int s0] M Q := by
  refine qRun_ok hG (ops := qo_26) (cuts := qc_rd_lineAt) rfl 41 7 _ _ _ _ ?_
  have hF : ((s0 = 0 → Q (some (.long (0 : Int64))) M) ∧ (¬ (s0 = 0) → ((l1 < l2 → bif Nat.beq (shT k) 4 then (P 13 0 [(0, .ref k), (1, .int l2)] [] M (fun v M' => P 26 16 [(0, .ref k), (1, .int l1), (2, .int l2), (3, .int l3)] (v.toList ++ []) M' Q)) else False) ∧ (¬ (l1 < l2) → Q (some (.long (0 : Int64))) M)))) := by
    (try rw [hk.1])
    (try rw [hk.2.1])
    (try rw [hk.2.2])
    exact hV
  exact hF
theorem v_rd_lineAt_16 (hG : qGood Ls xs P) {k : Nat} {l1 l2 l3 s0 : Int32} {M : qMem} {Q : qPost} (hk : qRd k)
    (hV : (P 13 0 [(0, .ref k), (1, .int l1)] [] M (fun v M' => P 26 19 [(0, .ref k), (1, .int l1), (2, .int l2), (3, .int l3)] (v.toList ++ [.int s0]) M' Q))) :
    P 26 16 [(0, .ref k), (1, .int l1), (2, .int l2), (3, .int l3)] [.int s0] M Q := by
  refine qRun_ok hG (ops := qo_26) (cuts := qc_rd_lineAt) rfl 41 16 _ _ _ _ ?_
  have hF : bif Nat.beq (shT k) 4 then (P 13 0 [(0, .ref k), (1, .int l1)] [] M (fun v M' => P 26 19 [(0, .ref k), (1, .int l1), (2, .int l2), (3, .int l3)] (v.toList ++ [.int s0]) M' Q)) else False := by
    (try rw [hk.1])
    (try rw [hk.2.1])
    (try rw [hk.2.2])
    exact hV
  exact hF
theorem v_rd_lineAt_19 (hG : qGood Ls xs P) {k : Nat} {l1 l2 l3 s0 s1 : Int32} {M : qMem} {Q : qPost} (hk : qRd k)
    (hV : (P 13 0 [(0, .ref k), (1, .int l1)] [] M (fun v M' => P 26 25 [(1, .int l1), (2, .int l2), (3, .int l3), (4, .long (s1 - s0).toInt64)] (v.toList ++ []) M' Q))) :
    P 26 19 [(0, .ref k), (1, .int l1), (2, .int l2), (3, .int l3)] [.int s0, .int s1] M Q := by
  refine qRun_ok hG (ops := qo_26) (cuts := qc_rd_lineAt) rfl 41 19 _ _ _ _ ?_
  have hF : bif Nat.beq (shT k) 4 then (P 13 0 [(0, .ref k), (1, .int l1)] [] M (fun v M' => P 26 25 [(1, .int l1), (2, .int l2), (3, .int l3), (4, .long (s1 - s0).toInt64)] (v.toList ++ []) M' Q)) else False := by
    (try rw [hk.1])
    (try rw [hk.2.1])
    (try rw [hk.2.2])
    exact hV
  exact hF
theorem v_rd_lineAt_25 (hG : qGood Ls xs P) {l4 : Int64} {l1 l2 l3 s0 : Int32} {M : qMem} {Q : qPost}
    (hV : (P 71 0 [(0, .long (l4 * (l3 - l1).toInt64)), (2, .long (l2 - l1).toInt64)] [] M (fun v M' => P 26 37 [] (v.toList ++ [.long s0.toInt64]) M' Q))) :
    P 26 25 [(1, .int l1), (2, .int l2), (3, .int l3), (4, .long l4)] [.int s0] M Q := by
  exact qRun_ok hG (ops := qo_26) (cuts := qc_rd_lineAt) rfl 41 25 _ _ _ _ hV
theorem v_rd_lineAt_37 (hG : qGood Ls xs P) {s0 s1 : Int64} {M : qMem} {Q : qPost}
    (hV : Q (some (.long (s1 + s0))) M) :
    P 26 37 [] [.long s0, .long s1] M Q := by
  exact qRun_ok hG (ops := qo_26) (cuts := qc_rd_lineAt) rfl 41 37 _ _ _ _ hV
def qc_rd_isOutlier : List (Nat × List Nat) := [(7, [2])]
theorem v_rd_isOutlier_0 (hG : qGood Ls xs P) {k : Nat} {l1 l2 : Int32} {M : qMem} {Q : qPost} (hk : qRd k)
    (hV : (P 29 0 [(0, .ref k), (1, .int (2 : Int32)), (2, .int (1 : Int32)), (3, .int (l1 - (1 : Int32)))] [] M (fun v M' => P 27 7 [(2, .int l2)] (v.toList ++ []) M' Q))) :
    P 27 0 [(0, .ref k), (1, .int l1), (2, .int l2)] [] M Q := by
  refine qRun_ok hG (ops := qo_27) (cuts := qc_rd_isOutlier) rfl 27 0 _ _ _ _ ?_
  have hF : bif Nat.beq (shT k) 4 then (P 29 0 [(0, .ref k), (1, .int (2 : Int32)), (2, .int (1 : Int32)), (3, .int (l1 - (1 : Int32)))] [] M (fun v M' => P 27 7 [(2, .int l2)] (v.toList ++ []) M' Q)) else False := by
    (try rw [hk.1])
    (try rw [hk.2.1])
    (try rw [hk.2.2])
    exact hV
  exact hF
theorem v_rd_isOutlier_7 (hG : qGood Ls xs P) {l2 s0 : Int32} {M : qMem} {Q : qPost}
    (hV : ((s0 = (-1000000001 : Int32) → (narrow .boolean (.int (0 : Int32)) = .int (0 : Int32) ∧ Q (some (.int (0 : Int32))) M)) ∧ (¬ (s0 = (-1000000001 : Int32)) → ((((2 : Int32) * l2) < s0 → (narrow .boolean (.int (1 : Int32)) = .int (1 : Int32) ∧ Q (some (.int (1 : Int32))) M)) ∧ (¬ (((2 : Int32) * l2) < s0) → ((((-2 : Int32) * l2) ≤ s0 → (narrow .boolean (.int (0 : Int32)) = .int (0 : Int32) ∧ Q (some (.int (0 : Int32))) M)) ∧ (¬ (((-2 : Int32) * l2) ≤ s0) → (narrow .boolean (.int (1 : Int32)) = .int (1 : Int32) ∧ Q (some (.int (1 : Int32))) M)))))))) :
    P 27 7 [(2, .int l2)] [.int s0] M Q := by
  exact qRun_ok hG (ops := qo_27) (cuts := qc_rd_isOutlier) rfl 27 7 _ _ _ _ hV
def qc_rd_countOf : List (Nat × List Nat) := [(4, [0, 1, 2, 3, 4]), (13, [0, 1, 2, 3, 4])]
theorem v_rd_countOf_0 (hG : qGood Ls xs P) {k : Nat} {l1 l2 : Int32} {M : qMem} {Q : qPost} (hk : qRd k)
    (hV : (P 28 4 [(0, .ref k), (1, .int l1), (2, .int l2), (3, .int (0 : Int32)), (4, .int (0 : Int32))] [] M Q)) :
    P 28 0 [(0, .ref k), (1, .int l1), (2, .int l2)] [] M Q := by
  exact qRun_ok hG (ops := qo_28) (cuts := qc_rd_countOf) rfl 22 0 _ _ _ _ hV
theorem v_rd_countOf_4 (hG : qGood Ls xs P) {k : Nat} {l1 l2 l3 l4 : Int32} {M : qMem} {Q : qPost} (hk : qRd k)
    (hV : (((M.1 k 1) ≤ l4 → Q (some (.int l3)) M) ∧ (¬ ((M.1 k 1) ≤ l4) → (P 29 0 [(0, .ref k), (1, .int l1), (2, .int l2), (3, .int l4)] [] M (fun v M' => P 28 13 [(0, .ref k), (1, .int l1), (2, .int l2), (3, .int l3), (4, .int l4)] (v.toList ++ []) M' Q))))) :
    P 28 4 [(0, .ref k), (1, .int l1), (2, .int l2), (3, .int l3), (4, .int l4)] [] M Q := by
  refine qRun_ok hG (ops := qo_28) (cuts := qc_rd_countOf) rfl 22 4 _ _ _ _ ?_
  have hF : bif Nat.beq (shT k) 4 then (((M.1 k 1) ≤ l4 → Q (some (.int l3)) M) ∧ (¬ ((M.1 k 1) ≤ l4) → bif Nat.beq (shT k) 4 then (P 29 0 [(0, .ref k), (1, .int l1), (2, .int l2), (3, .int l4)] [] M (fun v M' => P 28 13 [(0, .ref k), (1, .int l1), (2, .int l2), (3, .int l3), (4, .int l4)] (v.toList ++ []) M' Q)) else False)) else False := by
    (try rw [hk.1])
    (try rw [hk.2.1])
    (try rw [hk.2.2])
    exact hV
  exact hF
theorem v_rd_countOf_13 (hG : qGood Ls xs P) {k : Nat} {l1 l2 l3 l4 s0 : Int32} {M : qMem} {Q : qPost} (hk : qRd k)
    (hV : ((s0 = (-1000000001 : Int32) → (P 28 4 [(0, .ref k), (1, .int l1), (2, .int l2), (3, .int l3), (4, .int (l4 + (1 : Int32)))] [] M Q)) ∧ (¬ (s0 = (-1000000001 : Int32)) → (P 28 4 [(0, .ref k), (1, .int l1), (2, .int l2), (3, .int (l3 + (1 : Int32))), (4, .int (l4 + (1 : Int32)))] [] M Q)))) :
    P 28 13 [(0, .ref k), (1, .int l1), (2, .int l2), (3, .int l3), (4, .int l4)] [.int s0] M Q := by
  exact qRun_ok hG (ops := qo_28) (cuts := qc_rd_countOf) rfl 22 13 _ _ _ _ hV
def qc_rd_differenceAt : List (Nat × List Nat) := [(3, [0, 1, 2, 3]), (13, []), (21, []), (26, [])]
theorem v_rd_differenceAt_0 (hG : qGood Ls xs P) {k : Nat} {l1 l2 l3 : Int32} {M : qMem} {Q : qPost} (hk : qRd k)
    (hV : (P 11 0 [(0, .ref k), (1, .int l3)] [] M (fun v M' => P 29 3 [(0, .ref k), (1, .int l1), (2, .int l2), (3, .int l3)] (v.toList ++ []) M' Q))) :
    P 29 0 [(0, .ref k), (1, .int l1), (2, .int l2), (3, .int l3)] [] M Q := by
  refine qRun_ok hG (ops := qo_29) (cuts := qc_rd_differenceAt) rfl 29 0 _ _ _ _ ?_
  have hF : bif Nat.beq (shT k) 4 then (P 11 0 [(0, .ref k), (1, .int l3)] [] M (fun v M' => P 29 3 [(0, .ref k), (1, .int l1), (2, .int l2), (3, .int l3)] (v.toList ++ []) M' Q)) else False := by
    (try rw [hk.1])
    (try rw [hk.2.1])
    (try rw [hk.2.2])
    exact hV
  exact hF
theorem v_rd_differenceAt_3 (hG : qGood Ls xs P) {k : Nat} {l1 l2 l3 s0 : Int32} {M : qMem} {Q : qPost} (hk : qRd k)
    (hV : ((¬ s0 = 0 → ((¬ l1 = (2 : Int32) → ((¬ l1 = (3 : Int32) → (P 32 0 [(0, .ref k), (1, .int l2), (2, .int l3)] [] M (fun v M' => P 29 26 [] (v.toList ++ []) M' Q))) ∧ (¬ (¬ l1 = (3 : Int32)) → (P 31 0 [(0, .ref k), (1, .int l2), (2, .int l3)] [] M (fun v M' => P 29 21 [] (v.toList ++ []) M' Q))))) ∧ (¬ (¬ l1 = (2 : Int32)) → (P 30 0 [(0, .ref k), (1, .int l2), (2, .int l3)] [] M (fun v M' => P 29 13 [] (v.toList ++ []) M' Q))))) ∧ (¬ (¬ s0 = 0) → Q (some (.int (-1000000001 : Int32))) M))) :
    P 29 3 [(0, .ref k), (1, .int l1), (2, .int l2), (3, .int l3)] [.int s0] M Q := by
  refine qRun_ok hG (ops := qo_29) (cuts := qc_rd_differenceAt) rfl 29 3 _ _ _ _ ?_
  have hF : ((¬ s0 = 0 → ((¬ l1 = (2 : Int32) → ((¬ l1 = (3 : Int32) → bif Nat.beq (shT k) 4 then (P 32 0 [(0, .ref k), (1, .int l2), (2, .int l3)] [] M (fun v M' => P 29 26 [] (v.toList ++ []) M' Q)) else False) ∧ (¬ (¬ l1 = (3 : Int32)) → bif Nat.beq (shT k) 4 then (P 31 0 [(0, .ref k), (1, .int l2), (2, .int l3)] [] M (fun v M' => P 29 21 [] (v.toList ++ []) M' Q)) else False))) ∧ (¬ (¬ l1 = (2 : Int32)) → bif Nat.beq (shT k) 4 then (P 30 0 [(0, .ref k), (1, .int l2), (2, .int l3)] [] M (fun v M' => P 29 13 [] (v.toList ++ []) M' Q)) else False))) ∧ (¬ (¬ s0 = 0) → Q (some (.int (-1000000001 : Int32))) M)) := by
    (try rw [hk.1])
    (try rw [hk.2.1])
    (try rw [hk.2.2])
    exact hV
  exact hF
theorem v_rd_differenceAt_26 (hG : qGood Ls xs P) {s0 : Int32} {M : qMem} {Q : qPost}
    (hV : Q (some (.int s0)) M) :
    P 29 26 [] [.int s0] M Q := by
  exact qRun_ok hG (ops := qo_29) (cuts := qc_rd_differenceAt) rfl 29 26 _ _ _ _ hV
theorem v_rd_differenceAt_21 (hG : qGood Ls xs P) {s0 : Int32} {M : qMem} {Q : qPost}
    (hV : (P 29 26 [] [.int s0] M Q)) :
    P 29 21 [] [.int s0] M Q := by
  exact qRun_ok hG (ops := qo_29) (cuts := qc_rd_differenceAt) rfl 29 21 _ _ _ _ hV
theorem v_rd_differenceAt_13 (hG : qGood Ls xs P) {s0 : Int32} {M : qMem} {Q : qPost}
    (hV : Q (some (.int s0)) M) :
    P 29 13 [] [.int s0] M Q := by
  exact qRun_ok hG (ops := qo_29) (cuts := qc_rd_differenceAt) rfl 29 13 _ _ _ _ hV
def qc_rd_secondAt : List (Nat × List Nat) := [(3, [0, 1, 2]), (9, [0, 1, 2, 3]), (17, [3, 4])]
theorem v_rd_secondAt_0 (hG : qGood Ls xs P) {k : Nat} {l1 l2 : Int32} {M : qMem} {Q : qPost} (hk : qRd k)
    (hV : (P 13 0 [(0, .ref k), (1, .int l2)] [] M (fun v M' => P 30 3 [(0, .ref k), (1, .int l1), (2, .int l2)] (v.toList ++ []) M' Q))) :
    P 30 0 [(0, .ref k), (1, .int l1), (2, .int l2)] [] M Q := by
  refine qRun_ok hG (ops := qo_30) (cuts := qc_rd_secondAt) rfl 39 0 _ _ _ _ ?_
  have hF : bif Nat.beq (shT k) 4 then (P 13 0 [(0, .ref k), (1, .int l2)] [] M (fun v M' => P 30 3 [(0, .ref k), (1, .int l1), (2, .int l2)] (v.toList ++ []) M' Q)) else False := by
    (try rw [hk.1])
    (try rw [hk.2.1])
    (try rw [hk.2.2])
    exact hV
  exact hF
theorem v_rd_secondAt_3 (hG : qGood Ls xs P) {k : Nat} {l1 l2 s0 : Int32} {M : qMem} {Q : qPost} (hk : qRd k)
    (hV : (P 13 0 [(0, .ref k), (1, .int (l2 + l1))] [] M (fun v M' => P 30 9 [(0, .ref k), (1, .int l1), (2, .int l2), (3, .int s0)] (v.toList ++ []) M' Q))) :
    P 30 3 [(0, .ref k), (1, .int l1), (2, .int l2)] [.int s0] M Q := by
  refine qRun_ok hG (ops := qo_30) (cuts := qc_rd_secondAt) rfl 39 3 _ _ _ _ ?_
  have hF : bif Nat.beq (shT k) 4 then (P 13 0 [(0, .ref k), (1, .int (l2 + l1))] [] M (fun v M' => P 30 9 [(0, .ref k), (1, .int l1), (2, .int l2), (3, .int s0)] (v.toList ++ []) M' Q)) else False := by
    (try rw [hk.1])
    (try rw [hk.2.1])
    (try rw [hk.2.2])
    exact hV
  exact hF
theorem v_rd_secondAt_9 (hG : qGood Ls xs P) {k : Nat} {l1 l2 l3 s0 : Int32} {M : qMem} {Q : qPost} (hk : qRd k)
    (hV : (P 13 0 [(0, .ref k), (1, .int (l2 + ((2 : Int32) * l1)))] [] M (fun v M' => P 30 17 [(3, .int l3), (4, .int s0)] (v.toList ++ []) M' Q))) :
    P 30 9 [(0, .ref k), (1, .int l1), (2, .int l2), (3, .int l3)] [.int s0] M Q := by
  refine qRun_ok hG (ops := qo_30) (cuts := qc_rd_secondAt) rfl 39 9 _ _ _ _ ?_
  have hF : bif Nat.beq (shT k) 4 then (P 13 0 [(0, .ref k), (1, .int (l2 + ((2 : Int32) * l1)))] [] M (fun v M' => P 30 17 [(3, .int l3), (4, .int s0)] (v.toList ++ []) M' Q)) else False := by
    (try rw [hk.1])
    (try rw [hk.2.1])
    (try rw [hk.2.2])
    exact hV
  exact hF
theorem v_rd_secondAt_17 (hG : qGood Ls xs P) {l3 l4 s0 : Int32} {M : qMem} {Q : qPost}
    (hV : ((l3 = (-1000000001 : Int32) → Q (some (.int (-1000000001 : Int32))) M) ∧ (¬ (l3 = (-1000000001 : Int32)) → ((l4 = (-1000000001 : Int32) → Q (some (.int (-1000000001 : Int32))) M) ∧ (¬ (l4 = (-1000000001 : Int32)) → ((¬ s0 = (-1000000001 : Int32) → Q (some (.int ((s0 - ((2 : Int32) * l4)) + l3))) M) ∧ (¬ (¬ s0 = (-1000000001 : Int32)) → Q (some (.int (-1000000001 : Int32))) M))))))) :
    P 30 17 [(3, .int l3), (4, .int l4)] [.int s0] M Q := by
  exact qRun_ok hG (ops := qo_30) (cuts := qc_rd_secondAt) rfl 39 17 _ _ _ _ hV
def qc_rd_thirdAt : List (Nat × List Nat) := [(3, [0, 1, 2]), (9, [0, 1, 2, 3]), (17, [0, 1, 2, 3, 4]), (25, [3, 4, 5])]
set_option maxRecDepth 100000 in
theorem v_rd_thirdAt_0 (hG : qGood Ls xs P) {k : Nat} {l1 l2 : Int32} {M : qMem} {Q : qPost} (hk : qRd k)
    (hV : (P 13 0 [(0, .ref k), (1, .int l2)] [] M (fun v M' => P 31 3 [(0, .ref k), (1, .int l1), (2, .int l2)] (v.toList ++ []) M' Q))) :
    P 31 0 [(0, .ref k), (1, .int l1), (2, .int l2)] [] M Q := by
  refine qRun_ok hG (ops := qo_31) (cuts := qc_rd_thirdAt) rfl 54 0 _ _ _ _ ?_
  have hF : bif Nat.beq (shT k) 4 then (P 13 0 [(0, .ref k), (1, .int l2)] [] M (fun v M' => P 31 3 [(0, .ref k), (1, .int l1), (2, .int l2)] (v.toList ++ []) M' Q)) else False := by
    (try rw [hk.1])
    (try rw [hk.2.1])
    (try rw [hk.2.2])
    exact hV
  exact hF
set_option maxRecDepth 100000 in
theorem v_rd_thirdAt_3 (hG : qGood Ls xs P) {k : Nat} {l1 l2 s0 : Int32} {M : qMem} {Q : qPost} (hk : qRd k)
    (hV : (P 13 0 [(0, .ref k), (1, .int (l2 + l1))] [] M (fun v M' => P 31 9 [(0, .ref k), (1, .int l1), (2, .int l2), (3, .int s0)] (v.toList ++ []) M' Q))) :
    P 31 3 [(0, .ref k), (1, .int l1), (2, .int l2)] [.int s0] M Q := by
  refine qRun_ok hG (ops := qo_31) (cuts := qc_rd_thirdAt) rfl 54 3 _ _ _ _ ?_
  have hF : bif Nat.beq (shT k) 4 then (P 13 0 [(0, .ref k), (1, .int (l2 + l1))] [] M (fun v M' => P 31 9 [(0, .ref k), (1, .int l1), (2, .int l2), (3, .int s0)] (v.toList ++ []) M' Q)) else False := by
    (try rw [hk.1])
    (try rw [hk.2.1])
    (try rw [hk.2.2])
    exact hV
  exact hF
set_option maxRecDepth 100000 in
theorem v_rd_thirdAt_9 (hG : qGood Ls xs P) {k : Nat} {l1 l2 l3 s0 : Int32} {M : qMem} {Q : qPost} (hk : qRd k)
    (hV : (P 13 0 [(0, .ref k), (1, .int (l2 + ((2 : Int32) * l1)))] [] M (fun v M' => P 31 17 [(0, .ref k), (1, .int l1), (2, .int l2), (3, .int l3), (4, .int s0)] (v.toList ++ []) M' Q))) :
    P 31 9 [(0, .ref k), (1, .int l1), (2, .int l2), (3, .int l3)] [.int s0] M Q := by
  refine qRun_ok hG (ops := qo_31) (cuts := qc_rd_thirdAt) rfl 54 9 _ _ _ _ ?_
  have hF : bif Nat.beq (shT k) 4 then (P 13 0 [(0, .ref k), (1, .int (l2 + ((2 : Int32) * l1)))] [] M (fun v M' => P 31 17 [(0, .ref k), (1, .int l1), (2, .int l2), (3, .int l3), (4, .int s0)] (v.toList ++ []) M' Q)) else False := by
    (try rw [hk.1])
    (try rw [hk.2.1])
    (try rw [hk.2.2])
    exact hV
  exact hF
set_option maxRecDepth 100000 in
theorem v_rd_thirdAt_17 (hG : qGood Ls xs P) {k : Nat} {l1 l2 l3 l4 s0 : Int32} {M : qMem} {Q : qPost} (hk : qRd k)
    (hV : (P 13 0 [(0, .ref k), (1, .int (l2 + ((3 : Int32) * l1)))] [] M (fun v M' => P 31 25 [(3, .int l3), (4, .int l4), (5, .int s0)] (v.toList ++ []) M' Q))) :
    P 31 17 [(0, .ref k), (1, .int l1), (2, .int l2), (3, .int l3), (4, .int l4)] [.int s0] M Q := by
  refine qRun_ok hG (ops := qo_31) (cuts := qc_rd_thirdAt) rfl 54 17 _ _ _ _ ?_
  have hF : bif Nat.beq (shT k) 4 then (P 13 0 [(0, .ref k), (1, .int (l2 + ((3 : Int32) * l1)))] [] M (fun v M' => P 31 25 [(3, .int l3), (4, .int l4), (5, .int s0)] (v.toList ++ []) M' Q)) else False := by
    (try rw [hk.1])
    (try rw [hk.2.1])
    (try rw [hk.2.2])
    exact hV
  exact hF
set_option maxRecDepth 100000 in
theorem v_rd_thirdAt_25 (hG : qGood Ls xs P) {l3 l4 l5 s0 : Int32} {M : qMem} {Q : qPost}
    (hV : ((l3 = (-1000000001 : Int32) → Q (some (.int (-1000000001 : Int32))) M) ∧ (¬ (l3 = (-1000000001 : Int32)) → ((l4 = (-1000000001 : Int32) → Q (some (.int (-1000000001 : Int32))) M) ∧ (¬ (l4 = (-1000000001 : Int32)) → ((l5 = (-1000000001 : Int32) → Q (some (.int (-1000000001 : Int32))) M) ∧ (¬ (l5 = (-1000000001 : Int32)) → ((¬ s0 = (-1000000001 : Int32) → Q (some (.int (((s0 - ((3 : Int32) * l5)) + ((3 : Int32) * l4)) - l3))) M) ∧ (¬ (¬ s0 = (-1000000001 : Int32)) → Q (some (.int (-1000000001 : Int32))) M))))))))) :
    P 31 25 [(3, .int l3), (4, .int l4), (5, .int l5)] [.int s0] M Q := by
  exact qRun_ok hG (ops := qo_31) (cuts := qc_rd_thirdAt) rfl 54 25 _ _ _ _ hV
def qc_rd_meanAt : List (Nat × List Nat) := [(4, [0, 1, 2, 3, 4]), (13, [0, 1, 2, 3, 4])]
theorem v_rd_meanAt_0 (hG : qGood Ls xs P) {k : Nat} {l1 l2 : Int32} {M : qMem} {Q : qPost} (hk : qRd k)
    (hV : (P 32 4 [(0, .ref k), (1, .int l1), (2, .int l2), (3, .int (0 : Int32)), (4, .int (0 : Int32))] [] M Q)) :
    P 32 0 [(0, .ref k), (1, .int l1), (2, .int l2)] [] M Q := by
  exact qRun_ok hG (ops := qo_32) (cuts := qc_rd_meanAt) rfl 29 0 _ _ _ _ hV
theorem v_rd_meanAt_4 (hG : qGood Ls xs P) {k : Nat} {l1 l2 l3 l4 : Int32} {M : qMem} {Q : qPost} (hk : qRd k)
    (hV : ((l1 ≤ l4 → Q (some (.int l3)) M) ∧ (¬ (l1 ≤ l4) → (P 30 0 [(0, .ref k), (1, .int l1), (2, .int (l2 + l4))] [] M (fun v M' => P 32 13 [(0, .ref k), (1, .int l1), (2, .int l2), (3, .int l3), (4, .int l4)] (v.toList ++ []) M' Q))))) :
    P 32 4 [(0, .ref k), (1, .int l1), (2, .int l2), (3, .int l3), (4, .int l4)] [] M Q := by
  refine qRun_ok hG (ops := qo_32) (cuts := qc_rd_meanAt) rfl 29 4 _ _ _ _ ?_
  have hF : ((l1 ≤ l4 → Q (some (.int l3)) M) ∧ (¬ (l1 ≤ l4) → bif Nat.beq (shT k) 4 then (P 30 0 [(0, .ref k), (1, .int l1), (2, .int (l2 + l4))] [] M (fun v M' => P 32 13 [(0, .ref k), (1, .int l1), (2, .int l2), (3, .int l3), (4, .int l4)] (v.toList ++ []) M' Q)) else False)) := by
    (try rw [hk.1])
    (try rw [hk.2.1])
    (try rw [hk.2.2])
    exact hV
  exact hF
theorem v_rd_meanAt_13 (hG : qGood Ls xs P) {k : Nat} {l1 l2 l3 l4 s0 : Int32} {M : qMem} {Q : qPost} (hk : qRd k)
    (hV : ((¬ s0 = (-1000000001 : Int32) → (P 32 4 [(0, .ref k), (1, .int l1), (2, .int l2), (3, .int (l3 + s0)), (4, .int (l4 + (1 : Int32)))] [] M Q)) ∧ (¬ (¬ s0 = (-1000000001 : Int32)) → Q (some (.int (-1000000001 : Int32))) M))) :
    P 32 13 [(0, .ref k), (1, .int l1), (2, .int l2), (3, .int l3), (4, .int l4)] [.int s0] M Q := by
  exact qRun_ok hG (ops := qo_32) (cuts := qc_rd_meanAt) rfl 29 13 _ _ _ _ hV
end VC
end
section
/-! what is to be shown, segment by segment: fr (printed by wip/genvc.py) -/
section VC
variable {Ls : Nat} {xs : Nat → Int32} {P : qSem}
def qc_fr_exists : List (Nat × List Nat) := []
theorem v_fr_exists_0 (hG : qGood Ls xs P) {k : Nat} {M : qMem} {Q : qPost} (hk : qFq k)
    (hV : (((lg_cmp (M.2 k 1) (0 : Int64)) ≤ 0 → (narrow .boolean (.int (0 : Int32)) = .int (0 : Int32) ∧ Q (some (.int (0 : Int32))) M)) ∧ (¬ ((lg_cmp (M.2 k 1) (0 : Int64)) ≤ 0) → (narrow .boolean (.int (1 : Int32)) = .int (1 : Int32) ∧ Q (some (.int (1 : Int32))) M)))) :
    P 0 0 [(0, .ref k)] [] M Q := by
  refine qRun_ok hG (ops := qo_0) (cuts := qc_fr_exists) rfl 11 0 _ _ _ _ ?_
  have hF : bif Nat.beq (shT k) 0 then (((lg_cmp (M.2 k 1) (0 : Int64)) ≤ 0 → (narrow .boolean (.int (0 : Int32)) = .int (0 : Int32) ∧ Q (some (.int (0 : Int32))) M)) ∧ (¬ ((lg_cmp (M.2 k 1) (0 : Int64)) ≤ 0) → (narrow .boolean (.int (1 : Int32)) = .int (1 : Int32) ∧ Q (some (.int (1 : Int32))) M))) else False := by
    (try rw [hk])
    exact hV
  exact hF
def qc_fr_become : List (Nat × List Nat) := [(3, [0, 1, 3])]
theorem v_fr_become_0 (hG : qGood Ls xs P) {k : Nat} {l1 l3 : Int64} {M : qMem} {Q : qPost} (hk : qFq k)
    (hV : (P 5 0 [(0, .long l1), (2, .long l3)] [] M (fun v M' => P 1 3 [(0, .ref k), (1, .long l1), (3, .long l3)] (v.toList ++ []) M' Q))) :
    P 1 0 [(0, .ref k), (1, .long l1), (3, .long l3)] [] M Q := by
  exact qRun_ok hG (ops := qo_1) (cuts := qc_fr_become) rfl 32 0 _ _ _ _ hV
theorem v_fr_become_3 (hG : qGood Ls xs P) {k : Nat} {l1 l3 s0 : Int64} {M : qMem} {Q : qPost} (hk : qFq k)
    (hV : (((lg_cmp l3 (0 : Int64)) ≤ 0 → Q none (pJ (pJ M k 0 (0 : Int64)) k 1 (0 : Int64))) ∧ (¬ ((lg_cmp l3 (0 : Int64)) ≤ 0) → ((0 < (lg_cmp s0 (0 : Int64)) → (¬ s0 = 0 ∧ (¬ s0 = 0 ∧ Q none (pJ (pJ M k 0 (l1 / s0)) k 1 (l3 / s0))))) ∧ (¬ (0 < (lg_cmp s0 (0 : Int64))) → Q none (pJ (pJ M k 0 (0 : Int64)) k 1 (0 : Int64))))))) :
    P 1 3 [(0, .ref k), (1, .long l1), (3, .long l3)] [.long s0] M Q := by
  refine qRun_ok hG (ops := qo_1) (cuts := qc_fr_become) rfl 32 3 _ _ _ _ ?_
  have hF : (((lg_cmp l3 (0 : Int64)) ≤ 0 → bif Nat.beq (shT k) 0 then bif Nat.beq (shT k) 0 then Q none (pJ (pJ M k 0 (0 : Int64)) k 1 (0 : Int64)) else False else False) ∧ (¬ ((lg_cmp l3 (0 : Int64)) ≤ 0) → ((0 < (lg_cmp s0 (0 : Int64)) → (¬ s0 = 0 ∧ bif Nat.beq (shT k) 0 then (¬ s0 = 0 ∧ bif Nat.beq (shT k) 0 then Q none (pJ (pJ M k 0 (l1 / s0)) k 1 (l3 / s0)) else False) else False)) ∧ (¬ (0 < (lg_cmp s0 (0 : Int64))) → bif Nat.beq (shT k) 0 then bif Nat.beq (shT k) 0 then Q none (pJ (pJ M k 0 (0 : Int64)) k 1 (0 : Int64)) else False else False)))) := by
    (try rw [hk])
    exact hV
  exact hF
def qc_fr_copyFrom : List (Nat × List Nat) := []
theorem v_fr_copyFrom_0 (hG : qGood Ls xs P) {k k1 : Nat} {M : qMem} {Q : qPost} (hk : qFq k) (hk1 : qFq k1)
    (hV : Q none (pJ (pJ M k 0 (M.2 k1 0)) k 1 ((pJ M k 0 (M.2 k1 0)).2 k1 1))) :
    P 2 0 [(0, .ref k), (1, .ref k1)] [] M Q := by
  refine qRun_ok hG (ops := qo_2) (cuts := qc_fr_copyFrom) rfl 11 0 _ _ _ _ ?_
  have hF : bif Nat.beq (shT k1) 0 then bif Nat.beq (shT k) 0 then bif Nat.beq (shT k1) 0 then bif Nat.beq (shT k) 0 then Q none (pJ (pJ M k 0 (M.2 k1 0)) k 1 ((pJ M k 0 (M.2 k1 0)).2 k1 1)) else False else False else False else False := by
    (try rw [hk])
    (try rw [hk1])
    exact hV
  exact hF
def qc_fr_orderOfMultiples : List (Nat × List Nat) := [(2, [0, 1, 3, 4]), (5, [0, 1, 3, 4]), (27, [0, 3, 6, 8]), (47, [])]
set_option maxRecDepth 100000 in
theorem v_fr_orderOfMultiples_0 (hG : qGood Ls xs P) {k k3 : Nat} {l1 l4 : Int64} {M : qMem} {Q : qPost} (hk : qFq k) (hk3 : qFq k3)
    (hV : (P 0 0 [(0, .ref k)] [] M (fun v M' => P 3 2 [(0, .ref k), (1, .long l1), (3, .ref k3), (4, .long l4)] (v.toList ++ []) M' Q))) :
    P 3 0 [(0, .ref k), (1, .long l1), (3, .ref k3), (4, .long l4)] [] M Q := by
  refine qRun_ok hG (ops := qo_3) (cuts := qc_fr_orderOfMultiples) rfl 50 0 _ _ _ _ ?_
  have hF : bif Nat.beq (shT k) 0 then (P 0 0 [(0, .ref k)] [] M (fun v M' => P 3 2 [(0, .ref k), (1, .long l1), (3, .ref k3), (4, .long l4)] (v.toList ++ []) M' Q)) else False := by
    (try rw [hk])
    (try rw [hk3])
    exact hV
  exact hF
set_option maxRecDepth 100000 in
theorem v_fr_orderOfMultiples_2 (hG : qGood Ls xs P) {k k3 : Nat} {l1 l4 : Int64} {s0 : Int32} {M : qMem} {Q : qPost} (hk : qFq k) (hk3 : qFq k3)
    (hV : ((s0 = 0 → Q (some (.int (0 : Int32))) M) ∧ (¬ (s0 = 0) → (P 0 0 [(0, .ref k3)] [] M (fun v M' => P 3 5 [(0, .ref k), (1, .long l1), (3, .ref k3), (4, .long l4)] (v.toList ++ []) M' Q))))) :
    P 3 2 [(0, .ref k), (1, .long l1), (3, .ref k3), (4, .long l4)] [.int s0] M Q := by
  refine qRun_ok hG (ops := qo_3) (cuts := qc_fr_orderOfMultiples) rfl 50 2 _ _ _ _ ?_
  have hF : ((s0 = 0 → Q (some (.int (0 : Int32))) M) ∧ (¬ (s0 = 0) → bif Nat.beq (shT k3) 0 then (P 0 0 [(0, .ref k3)] [] M (fun v M' => P 3 5 [(0, .ref k), (1, .long l1), (3, .ref k3), (4, .long l4)] (v.toList ++ []) M' Q)) else False)) := by
    (try rw [hk])
    (try rw [hk3])
    exact hV
  exact hF
set_option maxRecDepth 100000 in
theorem v_fr_orderOfMultiples_5 (hG : qGood Ls xs P) {k k3 : Nat} {l1 l4 : Int64} {s0 : Int32} {M : qMem} {Q : qPost} (hk : qFq k) (hk3 : qFq k3)
    (hV : ((¬ s0 = 0 → (¬ (M.2 k 1) = 0 ∧ (¬ (M.2 k3 1) = 0 ∧ (P 70 0 [(0, .long ((l1 * (M.2 k 0)) / (M.2 k 1))), (2, .long ((l4 * (M.2 k3 0)) / (M.2 k3 1)))] [] M (fun v M' => P 3 27 [(0, .ref k), (3, .ref k3), (6, .long (l1 * (M.2 k 0))), (8, .long (l4 * (M.2 k3 0)))] (v.toList ++ []) M' Q))))) ∧ (¬ (¬ s0 = 0) → Q (some (.int (0 : Int32))) M))) :
    P 3 5 [(0, .ref k), (1, .long l1), (3, .ref k3), (4, .long l4)] [.int s0] M Q := by
  refine qRun_ok hG (ops := qo_3) (cuts := qc_fr_orderOfMultiples) rfl 50 5 _ _ _ _ ?_
  have hF : ((¬ s0 = 0 → bif Nat.beq (shT k) 0 then bif Nat.beq (shT k3) 0 then bif Nat.beq (shT k) 0 then (¬ (M.2 k 1) = 0 ∧ bif Nat.beq (shT k3) 0 then (¬ (M.2 k3 1) = 0 ∧ (P 70 0 [(0, .long ((l1 * (M.2 k 0)) / (M.2 k 1))), (2, .long ((l4 * (M.2 k3 0)) / (M.2 k3 1)))] [] M (fun v M' => P 3 27 [(0, .ref k), (3, .ref k3), (6, .long (l1 * (M.2 k 0))), (8, .long (l4 * (M.2 k3 0)))] (v.toList ++ []) M' Q))) else False) else False else False else False) ∧ (¬ (¬ s0 = 0) → Q (some (.int (0 : Int32))) M)) := by
    (try rw [hk])
    (try rw [hk3])
    exact hV
  exact hF
set_option maxRecDepth 100000 in
theorem v_fr_orderOfMultiples_27 (hG : qGood Ls xs P) {k k3 : Nat} {l6 l8 : Int64} {s0 : Int32} {M : qMem} {Q : qPost} (hk : qFq k) (hk3 : qFq k3)
    (hV : ((s0 = 0 → (¬ (M.2 k 1) = 0 ∧ (¬ (M.2 k3 1) = 0 ∧ (P 70 0 [(0, .long ((l6 - l6 / (M.2 k 1) * (M.2 k 1)) * (M.2 k3 1))), (2, .long ((l8 - l8 / (M.2 k3 1) * (M.2 k3 1)) * (M.2 k 1)))] [] M (fun v M' => P 3 47 [] (v.toList ++ []) M' Q))))) ∧ (¬ (s0 = 0) → Q (some (.int s0)) M))) :
    P 3 27 [(0, .ref k), (3, .ref k3), (6, .long l6), (8, .long l8)] [.int s0] M Q := by
  refine qRun_ok hG (ops := qo_3) (cuts := qc_fr_orderOfMultiples) rfl 50 27 _ _ _ _ ?_
  have hF : ((s0 = 0 → bif Nat.beq (shT k) 0 then (¬ (M.2 k 1) = 0 ∧ bif Nat.beq (shT k3) 0 then bif Nat.beq (shT k3) 0 then (¬ (M.2 k3 1) = 0 ∧ bif Nat.beq (shT k) 0 then (P 70 0 [(0, .long ((l6 - l6 / (M.2 k 1) * (M.2 k 1)) * (M.2 k3 1))), (2, .long ((l8 - l8 / (M.2 k3 1) * (M.2 k3 1)) * (M.2 k 1)))] [] M (fun v M' => P 3 47 [] (v.toList ++ []) M' Q)) else False) else False else False) else False) ∧ (¬ (s0 = 0) → Q (some (.int s0)) M)) := by
    (try rw [hk])
    (try rw [hk3])
    exact hV
  exact hF
set_option maxRecDepth 100000 in
theorem v_fr_orderOfMultiples_47 (hG : qGood Ls xs P) {s0 : Int32} {M : qMem} {Q : qPost}
    (hV : Q (some (.int s0)) M) :
    P 3 47 [] [.int s0] M Q := by
  exact qRun_ok hG (ops := qo_3) (cuts := qc_fr_orderOfMultiples) rfl 50 47 _ _ _ _ hV
def qc_fr_timesRoundedDown : List (Nat × List Nat) := [(2, [0, 1])]
theorem v_fr_timesRoundedDown_0 (hG : qGood Ls xs P) {k : Nat} {l1 : Int64} {M : qMem} {Q : qPost} (hk : qFq k)
    (hV : (P 0 0 [(0, .ref k)] [] M (fun v M' => P 4 2 [(0, .ref k), (1, .long l1)] (v.toList ++ []) M' Q))) :
    P 4 0 [(0, .ref k), (1, .long l1)] [] M Q := by
  refine qRun_ok hG (ops := qo_4) (cuts := qc_fr_timesRoundedDown) rfl 26 0 _ _ _ _ ?_
  have hF : bif Nat.beq (shT k) 0 then (P 0 0 [(0, .ref k)] [] M (fun v M' => P 4 2 [(0, .ref k), (1, .long l1)] (v.toList ++ []) M' Q)) else False := by
    (try rw [hk])
    exact hV
  exact hF
theorem v_fr_timesRoundedDown_2 (hG : qGood Ls xs P) {k : Nat} {l1 : Int64} {s0 : Int32} {M : qMem} {Q : qPost} (hk : qFq k)
    (hV : ((¬ s0 = 0 → (¬ (M.2 k 1) = 0 ∧ (¬ (M.2 k 1) = 0 ∧ (¬ (M.2 k 1) = 0 ∧ Q (some (.long ((((M.2 k 0) / (M.2 k 1)) * l1) + ((((M.2 k 0) - (M.2 k 0) / (M.2 k 1) * (M.2 k 1)) * l1) / (M.2 k 1))))) M)))) ∧ (¬ (¬ s0 = 0) → Q (some (.long (0 : Int64))) M))) :
    P 4 2 [(0, .ref k), (1, .long l1)] [.int s0] M Q := by
  refine qRun_ok hG (ops := qo_4) (cuts := qc_fr_timesRoundedDown) rfl 26 2 _ _ _ _ ?_
  have hF : ((¬ s0 = 0 → bif Nat.beq (shT k) 0 then bif Nat.beq (shT k) 0 then (¬ (M.2 k 1) = 0 ∧ bif Nat.beq (shT k) 0 then bif Nat.beq (shT k) 0 then (¬ (M.2 k 1) = 0 ∧ bif Nat.beq (shT k) 0 then (¬ (M.2 k 1) = 0 ∧ Q (some (.long ((((M.2 k 0) / (M.2 k 1)) * l1) + ((((M.2 k 0) - (M.2 k 0) / (M.2 k 1) * (M.2 k 1)) * l1) / (M.2 k 1))))) M) else False) else False else False) else False else False) ∧ (¬ (¬ s0 = 0) → Q (some (.long (0 : Int64))) M)) := by
    (try rw [hk])
    exact hV
  exact hF
def qc_fr_greatestDivisor : List (Nat × List Nat) := [(6, [4, 6, 8])]
theorem v_fr_greatestDivisor_0 (hG : qGood Ls xs P) {l0 l2 : Int64} {M : qMem} {Q : qPost}
    (hV : (P 5 6 [(4, .long l0), (6, .long l2), (8, .int (0 : Int32))] [] M Q)) :
    P 5 0 [(0, .long l0), (2, .long l2)] [] M Q := by
  exact qRun_ok hG (ops := qo_5) (cuts := qc_fr_greatestDivisor) rfl 27 0 _ _ _ _ hV
theorem v_fr_greatestDivisor_6 (hG : qGood Ls xs P) {l4 l6 : Int64} {l8 : Int32} {M : qMem} {Q : qPost}
    (hV : (((100 : Int32) ≤ l8 → Q (some (.long l4)) M) ∧ (¬ ((100 : Int32) ≤ l8) → (((lg_cmp l6 (0 : Int64)) = 0 → Q (some (.long l4)) M) ∧ (¬ ((lg_cmp l6 (0 : Int64)) = 0) → (¬ l6 = 0 ∧ (P 5 6 [(4, .long l6), (6, .long (l4 - l4 / l6 * l6)), (8, .int (l8 + (1 : Int32)))] [] M Q))))))) :
    P 5 6 [(4, .long l4), (6, .long l6), (8, .int l8)] [] M Q := by
  exact qRun_ok hG (ops := qo_5) (cuts := qc_fr_greatestDivisor) rfl 27 6 _ _ _ _ hV
end VC
/-! what is to be shown, segment by segment: tx (printed by wip/genvc.py) -/
section VC
variable {Ls : Nat} {xs : Nat → Int32} {P : qSem}
def qc_tx_size : List (Nat × List Nat) := []
theorem v_tx_size_0 (hG : qGood Ls xs P) {M : qMem} {Q : qPost}
    (hV : Q (some (.int (M.1 31 1))) M) :
    P 33 0 [(0, .ref 31)] [] M Q := by
  exact qRun_ok hG (ops := qo_33) (cuts := qc_tx_size) rfl 5 0 _ _ _ _ hV
end VC
/-! what is to be shown, segment by segment: hi (printed by wip/genvc.py) -/
section VC
variable {Ls : Nat} {xs : Nat → Int32} {P : qSem}
def qc_hi_depth : List (Nat × List Nat) := []
theorem v_hi_depth_0 (hG : qGood Ls xs P) {M : qMem} {Q : qPost}
    (hV : Q (some (.int (M.1 6 2))) M) :
    P 6 0 [(0, .ref 6)] [] M Q := by
  exact qRun_ok hG (ops := qo_6) (cuts := qc_hi_depth) rfl 5 0 _ _ _ _ hV
def qc_hi_record : List (Nat × List Nat) := [(22, [0, 1]), (28, [0])]
theorem v_hi_record_0 (hG : qGood Ls xs P) {M : qMem} {Q : qPost}
    (hV : ((¬ (M.1 6 2) = (8 : Int32) → (P 9 0 [(0, .ref 6), (1, .int (M.1 6 2))] [] M (fun v M' => P 7 22 [(0, .ref 6), (1, .ref 1)] (v.toList ++ []) M' Q))) ∧ (¬ (¬ (M.1 6 2) = (8 : Int32)) → (¬ (8 : Int32) = 0 ∧ (P 9 0 [(0, .ref 6), (1, .int ((M.1 6 2) - (1 : Int32)))] [] (pI (pI M 6 1 (((M.1 6 1) + (1 : Int32)) - ((M.1 6 1) + (1 : Int32)) / (8 : Int32) * (8 : Int32))) 6 2 ((M.1 6 2) - (1 : Int32))) (fun v M' => P 7 22 [(0, .ref 6), (1, .ref 1)] (v.toList ++ []) M' Q)))))) :
    P 7 0 [(0, .ref 6), (1, .ref 1)] [] M Q := by
  exact qRun_ok hG (ops := qo_7) (cuts := qc_hi_record) rfl 37 0 _ _ _ _ hV
theorem v_hi_record_22 (hG : qGood Ls xs P) {ks0 : Nat} {M : qMem} {Q : qPost} (hks0 : qRd ks0)
    (hV : (P 18 0 [(0, .ref ks0), (1, .ref 1)] [] M (fun v M' => P 7 28 [(0, .ref 6)] (v.toList ++ []) M' Q))) :
    P 7 22 [(0, .ref 6), (1, .ref 1)] [.ref ks0] M Q := by
  refine qRun_ok hG (ops := qo_7) (cuts := qc_hi_record) rfl 37 22 _ _ _ _ ?_
  have hF : bif Nat.beq (shT ks0) 4 then (P 18 0 [(0, .ref ks0), (1, .ref 1)] [] M (fun v M' => P 7 28 [(0, .ref 6)] (v.toList ++ []) M' Q)) else False := by
    (try rw [hks0.1])
    (try rw [hks0.2.1])
    (try rw [hks0.2.2])
    exact hV
  exact hF
theorem v_hi_record_22n (hG : qGood Ls xs P) {M : qMem} {Q : qPost}
    (hV : Q none M) :
    P 7 22 [(0, .ref 6), (1, .ref 1)] [.null] M Q := by
  exact qRun_ok hG (ops := qo_7) (cuts := qc_hi_record) rfl 37 22 _ _ _ _ hV
theorem v_hi_record_28 (hG : qGood Ls xs P) {M : qMem} {Q : qPost}
    (hV : Q none (pI M 6 2 ((M.1 6 2) + (1 : Int32)))) :
    P 7 28 [(0, .ref 6)] [] M Q := by
  exact qRun_ok hG (ops := qo_7) (cuts := qc_hi_record) rfl 37 28 _ _ _ _ hV
def qc_hi_restore : List (Nat × List Nat) := [(6, [0, 1]), (12, [0])]
theorem v_hi_restore_0 (hG : qGood Ls xs P) {M : qMem} {Q : qPost}
    (hV : (P 9 0 [(0, .ref 6), (1, .int ((M.1 6 2) - (1 : Int32)))] [] M (fun v M' => P 8 6 [(0, .ref 6), (1, .ref 1)] (v.toList ++ []) M' Q))) :
    P 8 0 [(0, .ref 6), (1, .ref 1)] [] M Q := by
  exact qRun_ok hG (ops := qo_8) (cuts := qc_hi_restore) rfl 21 0 _ _ _ _ hV
theorem v_hi_restore_6 (hG : qGood Ls xs P) {ks0 : Nat} {M : qMem} {Q : qPost} (hks0 : qRd ks0)
    (hV : (P 18 0 [(0, .ref 1), (1, .ref ks0)] [] M (fun v M' => P 8 12 [(0, .ref 6)] (v.toList ++ []) M' Q))) :
    P 8 6 [(0, .ref 6), (1, .ref 1)] [.ref ks0] M Q := by
  exact qRun_ok hG (ops := qo_8) (cuts := qc_hi_restore) rfl 21 6 _ _ _ _ hV
theorem v_hi_restore_6n (hG : qGood Ls xs P) {M : qMem} {Q : qPost}
    (hV : Q none M) :
    P 8 6 [(0, .ref 6), (1, .ref 1)] [.null] M Q := by
  exact qRun_ok hG (ops := qo_8) (cuts := qc_hi_restore) rfl 21 6 _ _ _ _ hV
theorem v_hi_restore_12 (hG : qGood Ls xs P) {M : qMem} {Q : qPost}
    (hV : Q none (pI M 6 2 ((M.1 6 2) - (1 : Int32)))) :
    P 8 12 [(0, .ref 6)] [] M Q := by
  exact qRun_ok hG (ops := qo_8) (cuts := qc_hi_restore) rfl 21 12 _ _ _ _ hV
def qc_hi_stateAt : List (Nat × List Nat) := []
theorem v_hi_stateAt_0 (hG : qGood Ls xs P) {l1 : Int32} {M : qMem} {Q : qPost}
    (hV : (¬ (8 : Int32) = 0 ∧ ((l1 < 0 → Q (some (.null)) M) ∧ (¬ (l1 < 0) → (((((M.1 6 1) + l1) - ((M.1 6 1) + l1) / (8 : Int32) * (8 : Int32)) < 0 → Q (some (.null)) M) ∧ (¬ ((((M.1 6 1) + l1) - ((M.1 6 1) + l1) / (8 : Int32) * (8 : Int32)) < 0) → (((((M.1 6 1) + l1) - ((M.1 6 1) + l1) / (8 : Int32) * (8 : Int32)) < (Int32.ofNat 8) → (vp_in (((M.1 6 1) + l1) - ((M.1 6 1) + l1) / (8 : Int32) * (8 : Int32)) 8 ∧ Q (some (.ref (rf 7 (((M.1 6 1) + l1) - ((M.1 6 1) + l1) / (8 : Int32) * (8 : Int32)).toNatClampNeg))) M)) ∧ (¬ ((((M.1 6 1) + l1) - ((M.1 6 1) + l1) / (8 : Int32) * (8 : Int32)) < (Int32.ofNat 8)) → Q (some (.null)) M)))))))) :
    P 9 0 [(0, .ref 6), (1, .int l1)] [] M Q := by
  exact qRun_ok hG (ops := qo_9) (cuts := qc_hi_stateAt) rfl 25 0 _ _ _ _ hV
end VC
/-! what is to be shown, segment by segment: math (printed by wip/genvc.py) -/
section VC
variable {Ls : Nat} {xs : Nat → Int32} {P : qSem}
def qc_math_floorDiv : List (Nat × List Nat) := []
theorem v_math_floorDiv_0 (hG : qGood Ls xs P) {l0 l2 : Int64} {M : qMem} {Q : qPost}
    (hV : (¬ l2 = 0 ∧ ((0 ≤ (lg_cmp (l0 ^^^ l2) (0 : Int64)) → Q (some (.long (l0 / l2))) M) ∧ (¬ (0 ≤ (lg_cmp (l0 ^^^ l2) (0 : Int64))) → (((lg_cmp ((l0 / l2) * l2) l0) = 0 → Q (some (.long (l0 / l2))) M) ∧ (¬ ((lg_cmp ((l0 / l2) * l2) l0) = 0) → Q (some (.long ((l0 / l2) - (1 : Int64)))) M)))))) :
    P 71 0 [(0, .long l0), (2, .long l2)] [] M Q := by
  exact qRun_ok hG (ops := qo_71) (cuts := qc_math_floorDiv) rfl 24 0 _ _ _ _ hV
def qc_math_max : List (Nat × List Nat) := []
theorem v_math_max_0 (hG : qGood Ls xs P) {l0 l1 : Int32} {M : qMem} {Q : qPost}
    (hV : ((l0 < l1 → Q (some (.int l1)) M) ∧ (¬ (l0 < l1) → Q (some (.int l0)) M))) :
    P 72 0 [(0, .int l0), (1, .int l1)] [] M Q := by
  exact qRun_ok hG (ops := qo_72) (cuts := qc_math_max) rfl 9 0 _ _ _ _ hV
end VC
/-! what is to be shown, segment by segment: long (printed by wip/genvc.py) -/
section VC
variable {Ls : Nat} {xs : Nat → Int32} {P : qSem}
def qc_long_compare : List (Nat × List Nat) := []
theorem v_long_compare_0 (hG : qGood Ls xs P) {l0 l2 : Int64} {M : qMem} {Q : qPost}
    (hV : ((0 ≤ (lg_cmp l0 l2) → ((¬ (lg_cmp l0 l2) = 0 → Q (some (.int (1 : Int32))) M) ∧ (¬ (¬ (lg_cmp l0 l2) = 0) → Q (some (.int (0 : Int32))) M))) ∧ (¬ (0 ≤ (lg_cmp l0 l2)) → Q (some (.int (-1 : Int32))) M))) :
    P 70 0 [(0, .long l0), (2, .long l2)] [] M Q := by
  exact qRun_ok hG (ops := qo_70) (cuts := qc_long_compare) rfl 16 0 _ _ _ _ hV
end VC
end
section
/-! what is to be shown, segment by segment: sa (printed by wip/genvc.py) -/
section VC
variable {Ls : Nat} {xs : Nat → Int32} {P : qSem}
def qc_sa_add : List (Nat × List Nat) := [(3, [0, 1]), (9, [0, 1]), (18, [0, 1]), (22, [0]), (25, [])]
theorem v_sa_add_0 (hG : qGood Ls xs P) {l1 : Int32} {M : qMem} {Q : qPost}
    (hV : (P 55 0 [(0, .long l1.toInt64)] [] M (fun v M' => P 34 3 [(0, .ref 0), (1, .int l1)] (v.toList ++ []) M' Q))) :
    P 34 0 [(0, .ref 0), (1, .int l1)] [] M Q := by
  exact qRun_ok hG (ops := qo_34) (cuts := qc_sa_add) rfl 30 0 _ _ _ _ hV
theorem v_sa_add_3 (hG : qGood Ls xs P) {l1 s0 : Int32} {M : qMem} {Q : qPost}
    (hV : ((¬ s0 = 0 → (P 10 0 [(0, .ref 1)] [] M (fun v M' => P 34 9 [(0, .ref 0), (1, .int l1)] (v.toList ++ []) M' Q))) ∧ (¬ (¬ s0 = 0) → Q (some (.int (-1000000002 : Int32))) M))) :
    P 34 3 [(0, .ref 0), (1, .int l1)] [.int s0] M Q := by
  exact qRun_ok hG (ops := qo_34) (cuts := qc_sa_add) rfl 30 3 _ _ _ _ hV
theorem v_sa_add_9 (hG : qGood Ls xs P) {l1 s0 : Int32} {M : qMem} {Q : qPost}
    (hV : ((s0 < (64 : Int32) → (P 7 0 [(0, .ref 6), (1, .ref 1)] [] M (fun v M' => P 34 18 [(0, .ref 0), (1, .int l1)] (v.toList ++ []) M' Q))) ∧ (¬ (s0 < (64 : Int32)) → Q (some (.int (-1000000004 : Int32))) M))) :
    P 34 9 [(0, .ref 0), (1, .int l1)] [.int s0] M Q := by
  exact qRun_ok hG (ops := qo_34) (cuts := qc_sa_add) rfl 30 9 _ _ _ _ hV
theorem v_sa_add_18 (hG : qGood Ls xs P) {l1 : Int32} {M : qMem} {Q : qPost}
    (hV : (P 15 0 [(0, .ref 1), (1, .int l1)] [] M (fun v M' => P 34 22 [(0, .ref 0)] (v.toList ++ []) M' Q))) :
    P 34 18 [(0, .ref 0), (1, .int l1)] [] M Q := by
  exact qRun_ok hG (ops := qo_34) (cuts := qc_sa_add) rfl 30 18 _ _ _ _ hV
theorem v_sa_add_22 (hG : qGood Ls xs P) {M : qMem} {Q : qPost}
    (hV : (P 10 0 [(0, .ref 1)] [] M (fun v M' => P 34 25 [] (v.toList ++ []) M' Q))) :
    P 34 22 [(0, .ref 0)] [] M Q := by
  exact qRun_ok hG (ops := qo_34) (cuts := qc_sa_add) rfl 30 22 _ _ _ _ hV
theorem v_sa_add_25 (hG : qGood Ls xs P) {s0 : Int32} {M : qMem} {Q : qPost}
    (hV : Q (some (.int (s0 - (1 : Int32)))) M) :
    P 34 25 [] [.int s0] M Q := by
  exact qRun_ok hG (ops := qo_34) (cuts := qc_sa_add) rfl 30 25 _ _ _ _ hV
def qc_sa_skip : List (Nat × List Nat) := [(11, [0, 1]), (22, [0, 1]), (27, [0]), (30, [])]
theorem v_sa_skip_0 (hG : qGood Ls xs P) {l1 : Int32} {M : qMem} {Q : qPost}
    (hV : ((l1 < (1 : Int32) → Q (some (.int (-1000000002 : Int32))) M) ∧ (¬ (l1 < (1 : Int32)) → ((l1 ≤ (64 : Int32) → (P 10 0 [(0, .ref 1)] [] M (fun v M' => P 35 11 [(0, .ref 0), (1, .int l1)] (v.toList ++ []) M' Q))) ∧ (¬ (l1 ≤ (64 : Int32)) → Q (some (.int (-1000000002 : Int32))) M))))) :
    P 35 0 [(0, .ref 0), (1, .int l1)] [] M Q := by
  exact qRun_ok hG (ops := qo_35) (cuts := qc_sa_skip) rfl 33 0 _ _ _ _ hV
theorem v_sa_skip_11 (hG : qGood Ls xs P) {l1 s0 : Int32} {M : qMem} {Q : qPost}
    (hV : (((s0 + l1) ≤ (64 : Int32) → (P 7 0 [(0, .ref 6), (1, .ref 1)] [] M (fun v M' => P 35 22 [(0, .ref 0), (1, .int l1)] (v.toList ++ []) M' Q))) ∧ (¬ ((s0 + l1) ≤ (64 : Int32)) → Q (some (.int (-1000000004 : Int32))) M))) :
    P 35 11 [(0, .ref 0), (1, .int l1)] [.int s0] M Q := by
  exact qRun_ok hG (ops := qo_35) (cuts := qc_sa_skip) rfl 33 11 _ _ _ _ hV
theorem v_sa_skip_22 (hG : qGood Ls xs P) {l1 : Int32} {M : qMem} {Q : qPost}
    (hV : (P 16 0 [(0, .ref 1), (1, .int (-1000000001 : Int32)), (2, .int l1)] [] M (fun v M' => P 35 27 [(0, .ref 0)] (v.toList ++ []) M' Q))) :
    P 35 22 [(0, .ref 0), (1, .int l1)] [] M Q := by
  exact qRun_ok hG (ops := qo_35) (cuts := qc_sa_skip) rfl 33 22 _ _ _ _ hV
theorem v_sa_skip_27 (hG : qGood Ls xs P) {M : qMem} {Q : qPost}
    (hV : (P 10 0 [(0, .ref 1)] [] M (fun v M' => P 35 30 [] (v.toList ++ []) M' Q))) :
    P 35 27 [(0, .ref 0)] [] M Q := by
  exact qRun_ok hG (ops := qo_35) (cuts := qc_sa_skip) rfl 33 27 _ _ _ _ hV
theorem v_sa_skip_30 (hG : qGood Ls xs P) {s0 : Int32} {M : qMem} {Q : qPost}
    (hV : Q (some (.int s0)) M) :
    P 35 30 [] [.int s0] M Q := by
  exact qRun_ok hG (ops := qo_35) (cuts := qc_sa_skip) rfl 33 30 _ _ _ _ hV
def qc_sa_set : List (Nat × List Nat) := [(4, [0, 1, 2]), (11, [0, 1, 2]), (18, [0, 1, 2]), (24, [0, 1, 2, 3]), (29, [3])]
theorem v_sa_set_0 (hG : qGood Ls xs P) {l1 l2 : Int32} {M : qMem} {Q : qPost}
    (hV : (P 11 0 [(0, .ref 1), (1, .int l1)] [] M (fun v M' => P 36 4 [(0, .ref 0), (1, .int l1), (2, .int l2)] (v.toList ++ []) M' Q))) :
    P 36 0 [(0, .ref 0), (1, .int l1), (2, .int l2)] [] M Q := by
  exact qRun_ok hG (ops := qo_36) (cuts := qc_sa_set) rfl 33 0 _ _ _ _ hV
theorem v_sa_set_4 (hG : qGood Ls xs P) {l1 l2 s0 : Int32} {M : qMem} {Q : qPost}
    (hV : ((s0 = 0 → Q (some (.int (-1000000002 : Int32))) M) ∧ (¬ (s0 = 0) → ((l2 = (-1000000001 : Int32) → (P 13 0 [(0, .ref 1), (1, .int l1)] [] M (fun v M' => P 36 18 [(0, .ref 0), (1, .int l1), (2, .int l2)] (v.toList ++ []) M' Q))) ∧ (¬ (l2 = (-1000000001 : Int32)) → (P 55 0 [(0, .long l2.toInt64)] [] M (fun v M' => P 36 11 [(0, .ref 0), (1, .int l1), (2, .int l2)] (v.toList ++ []) M' Q))))))) :
    P 36 4 [(0, .ref 0), (1, .int l1), (2, .int l2)] [.int s0] M Q := by
  exact qRun_ok hG (ops := qo_36) (cuts := qc_sa_set) rfl 33 4 _ _ _ _ hV
theorem v_sa_set_18 (hG : qGood Ls xs P) {l1 l2 s0 : Int32} {M : qMem} {Q : qPost}
    (hV : (P 7 0 [(0, .ref 6), (1, .ref 1)] [] M (fun v M' => P 36 24 [(0, .ref 0), (1, .int l1), (2, .int l2), (3, .int s0)] (v.toList ++ []) M' Q))) :
    P 36 18 [(0, .ref 0), (1, .int l1), (2, .int l2)] [.int s0] M Q := by
  exact qRun_ok hG (ops := qo_36) (cuts := qc_sa_set) rfl 33 18 _ _ _ _ hV
theorem v_sa_set_11 (hG : qGood Ls xs P) {l1 l2 s0 : Int32} {M : qMem} {Q : qPost}
    (hV : ((¬ s0 = 0 → (P 13 0 [(0, .ref 1), (1, .int l1)] [] M (fun v M' => P 36 18 [(0, .ref 0), (1, .int l1), (2, .int l2)] (v.toList ++ []) M' Q))) ∧ (¬ (¬ s0 = 0) → Q (some (.int (-1000000002 : Int32))) M))) :
    P 36 11 [(0, .ref 0), (1, .int l1), (2, .int l2)] [.int s0] M Q := by
  exact qRun_ok hG (ops := qo_36) (cuts := qc_sa_set) rfl 33 11 _ _ _ _ hV
theorem v_sa_set_24 (hG : qGood Ls xs P) {l1 l2 l3 : Int32} {M : qMem} {Q : qPost}
    (hV : (P 14 0 [(0, .ref 1), (1, .int l1), (2, .int l2)] [] M (fun v M' => P 36 29 [(3, .int l3)] (v.toList ++ []) M' Q))) :
    P 36 24 [(0, .ref 0), (1, .int l1), (2, .int l2), (3, .int l3)] [] M Q := by
  exact qRun_ok hG (ops := qo_36) (cuts := qc_sa_set) rfl 33 24 _ _ _ _ hV
theorem v_sa_set_29 (hG : qGood Ls xs P) {l3 : Int32} {M : qMem} {Q : qPost}
    (hV : Q (some (.int l3)) M) :
    P 36 29 [(3, .int l3)] [] M Q := by
  exact qRun_ok hG (ops := qo_36) (cuts := qc_sa_set) rfl 33 29 _ _ _ _ hV
def qc_sa_clear : List (Nat × List Nat) := [(3, [0]), (9, [0, 1]), (12, [1])]
theorem v_sa_clear_0 (hG : qGood Ls xs P) {M : qMem} {Q : qPost}
    (hV : (P 10 0 [(0, .ref 1)] [] M (fun v M' => P 37 3 [(0, .ref 0)] (v.toList ++ []) M' Q))) :
    P 37 0 [(0, .ref 0)] [] M Q := by
  exact qRun_ok hG (ops := qo_37) (cuts := qc_sa_clear) rfl 16 0 _ _ _ _ hV
theorem v_sa_clear_3 (hG : qGood Ls xs P) {s0 : Int32} {M : qMem} {Q : qPost}
    (hV : (P 7 0 [(0, .ref 6), (1, .ref 1)] [] M (fun v M' => P 37 9 [(0, .ref 0), (1, .int s0)] (v.toList ++ []) M' Q))) :
    P 37 3 [(0, .ref 0)] [.int s0] M Q := by
  exact qRun_ok hG (ops := qo_37) (cuts := qc_sa_clear) rfl 16 3 _ _ _ _ hV
theorem v_sa_clear_9 (hG : qGood Ls xs P) {l1 : Int32} {M : qMem} {Q : qPost}
    (hV : (P 17 0 [(0, .ref 1)] [] M (fun v M' => P 37 12 [(1, .int l1)] (v.toList ++ []) M' Q))) :
    P 37 9 [(0, .ref 0), (1, .int l1)] [] M Q := by
  exact qRun_ok hG (ops := qo_37) (cuts := qc_sa_clear) rfl 16 9 _ _ _ _ hV
theorem v_sa_clear_12 (hG : qGood Ls xs P) {l1 : Int32} {M : qMem} {Q : qPost}
    (hV : Q (some (.int l1)) M) :
    P 37 12 [(1, .int l1)] [] M Q := by
  exact qRun_ok hG (ops := qo_37) (cuts := qc_sa_clear) rfl 16 12 _ _ _ _ hV
def qc_sa_removeLine : List (Nat × List Nat) := [(4, [0, 1, 2]), (9, [0, 1, 2]), (19, [0, 1, 2]), (24, [0, 1, 2]), (29, [0, 1, 2, 3]), (43, [0, 1, 2, 3]), (48, [])]
set_option maxRecDepth 100000 in
theorem v_sa_removeLine_0 (hG : qGood Ls xs P) {l1 l2 : Int32} {M : qMem} {Q : qPost}
    (hV : (P 11 0 [(0, .ref 1), (1, .int l1)] [] M (fun v M' => P 38 4 [(0, .ref 0), (1, .int l1), (2, .int l2)] (v.toList ++ []) M' Q))) :
    P 38 0 [(0, .ref 0), (1, .int l1), (2, .int l2)] [] M Q := by
  exact qRun_ok hG (ops := qo_38) (cuts := qc_sa_removeLine) rfl 51 0 _ _ _ _ hV
set_option maxRecDepth 100000 in
theorem v_sa_removeLine_4 (hG : qGood Ls xs P) {l1 l2 s0 : Int32} {M : qMem} {Q : qPost}
    (hV : ((s0 = 0 → Q (some (.int (-1000000002 : Int32))) M) ∧ (¬ (s0 = 0) → (P 11 0 [(0, .ref 1), (1, .int l2)] [] M (fun v M' => P 38 9 [(0, .ref 0), (1, .int l1), (2, .int l2)] (v.toList ++ []) M' Q))))) :
    P 38 4 [(0, .ref 0), (1, .int l1), (2, .int l2)] [.int s0] M Q := by
  exact qRun_ok hG (ops := qo_38) (cuts := qc_sa_removeLine) rfl 51 4 _ _ _ _ hV
set_option maxRecDepth 100000 in
theorem v_sa_removeLine_9 (hG : qGood Ls xs P) {l1 l2 s0 : Int32} {M : qMem} {Q : qPost}
    (hV : ((s0 = 0 → Q (some (.int (-1000000002 : Int32))) M) ∧ (¬ (s0 = 0) → ((l1 < l2 → (P 12 0 [(0, .ref 1), (1, .int l1)] [] M (fun v M' => P 38 19 [(0, .ref 0), (1, .int l1), (2, .int l2)] (v.toList ++ []) M' Q))) ∧ (¬ (l1 < l2) → Q (some (.int (-1000000002 : Int32))) M))))) :
    P 38 9 [(0, .ref 0), (1, .int l1), (2, .int l2)] [.int s0] M Q := by
  exact qRun_ok hG (ops := qo_38) (cuts := qc_sa_removeLine) rfl 51 9 _ _ _ _ hV
set_option maxRecDepth 100000 in
theorem v_sa_removeLine_19 (hG : qGood Ls xs P) {l1 l2 s0 : Int32} {M : qMem} {Q : qPost}
    (hV : ((s0 = 0 → Q (some (.int (-1000000003 : Int32))) M) ∧ (¬ (s0 = 0) → (P 12 0 [(0, .ref 1), (1, .int l2)] [] M (fun v M' => P 38 24 [(0, .ref 0), (1, .int l1), (2, .int l2)] (v.toList ++ []) M' Q))))) :
    P 38 19 [(0, .ref 0), (1, .int l1), (2, .int l2)] [.int s0] M Q := by
  exact qRun_ok hG (ops := qo_38) (cuts := qc_sa_removeLine) rfl 51 19 _ _ _ _ hV
set_option maxRecDepth 100000 in
theorem v_sa_removeLine_24 (hG : qGood Ls xs P) {l1 l2 s0 : Int32} {M : qMem} {Q : qPost}
    (hV : ((¬ s0 = 0 → (P 38 29 [(0, .ref 0), (1, .int l1), (2, .int l2), (3, .int (0 : Int32))] [] M Q)) ∧ (¬ (¬ s0 = 0) → Q (some (.int (-1000000003 : Int32))) M))) :
    P 38 24 [(0, .ref 0), (1, .int l1), (2, .int l2)] [.int s0] M Q := by
  exact qRun_ok hG (ops := qo_38) (cuts := qc_sa_removeLine) rfl 51 24 _ _ _ _ hV
set_option maxRecDepth 100000 in
theorem v_sa_removeLine_29 (hG : qGood Ls xs P) {l1 l2 l3 : Int32} {M : qMem} {Q : qPost}
    (hV : (((Int32.ofNat 64) ≤ l3 → (P 61 0 [(0, .ref 0)] [] M (fun v M' => P 38 48 [] (v.toList ++ []) M' Q))) ∧ (¬ ((Int32.ofNat 64) ≤ l3) → (P 26 0 [(0, .ref 1), (1, .int l1), (2, .int l2), (3, .int l3)] [] M (fun v M' => P 38 43 [(0, .ref 0), (1, .int l1), (2, .int l2), (3, .int l3)] (v.toList ++ [.int l3, .ref 5]) M' Q))))) :
    P 38 29 [(0, .ref 0), (1, .int l1), (2, .int l2), (3, .int l3)] [] M Q := by
  exact qRun_ok hG (ops := qo_38) (cuts := qc_sa_removeLine) rfl 51 29 _ _ _ _ hV
set_option maxRecDepth 100000 in
theorem v_sa_removeLine_48 (hG : qGood Ls xs P) {s0 : Int32} {M : qMem} {Q : qPost}
    (hV : Q (some (.int s0)) M) :
    P 38 48 [] [.int s0] M Q := by
  exact qRun_ok hG (ops := qo_38) (cuts := qc_sa_removeLine) rfl 51 48 _ _ _ _ hV
set_option maxRecDepth 100000 in
theorem v_sa_removeLine_43 (hG : qGood Ls xs P) {s0 : Int64} {l1 l2 l3 s1 : Int32} {M : qMem} {Q : qPost}
    (hV : (vp_in s1 64 ∧ (P 38 29 [(0, .ref 0), (1, .int l1), (2, .int l2), (3, .int (l3 + (1 : Int32)))] [] (pJ M 5 s1.toNatClampNeg s0) Q))) :
    P 38 43 [(0, .ref 0), (1, .int l1), (2, .int l2), (3, .int l3)] [.long s0, .int s1, .ref 5] M Q := by
  exact qRun_ok hG (ops := qo_38) (cuts := qc_sa_removeLine) rfl 51 43 _ _ _ _ hV
def qc_sa_addLine : List (Nat × List Nat) := [(9, [0, 1, 2]), (14, [0, 1, 2, 3]), (36, [])]
theorem v_sa_addLine_0 (hG : qGood Ls xs P) {l1 l2 : Int32} {M : qMem} {Q : qPost}
    (hV : ((l1 < (-9999 : Int32) → Q (some (.int (-1000000002 : Int32))) M) ∧ (¬ (l1 < (-9999 : Int32)) → (((9999 : Int32) < l1 → Q (some (.int (-1000000002 : Int32))) M) ∧ (¬ ((9999 : Int32) < l1) → (P 55 0 [(0, .long l2.toInt64)] [] M (fun v M' => P 39 9 [(0, .ref 0), (1, .int l1), (2, .int l2)] (v.toList ++ []) M' Q))))))) :
    P 39 0 [(0, .ref 0), (1, .int l1), (2, .int l2)] [] M Q := by
  exact qRun_ok hG (ops := qo_39) (cuts := qc_sa_addLine) rfl 39 0 _ _ _ _ hV
theorem v_sa_addLine_9 (hG : qGood Ls xs P) {l1 l2 s0 : Int32} {M : qMem} {Q : qPost}
    (hV : ((¬ s0 = 0 → (P 39 14 [(0, .ref 0), (1, .int l1), (2, .int l2), (3, .int (0 : Int32))] [] M Q)) ∧ (¬ (¬ s0 = 0) → Q (some (.int (-1000000002 : Int32))) M))) :
    P 39 9 [(0, .ref 0), (1, .int l1), (2, .int l2)] [.int s0] M Q := by
  exact qRun_ok hG (ops := qo_39) (cuts := qc_sa_addLine) rfl 39 9 _ _ _ _ hV
theorem v_sa_addLine_14 (hG : qGood Ls xs P) {l1 l2 l3 : Int32} {M : qMem} {Q : qPost}
    (hV : (((Int32.ofNat 64) ≤ l3 → (P 61 0 [(0, .ref 0)] [] M (fun v M' => P 39 36 [] (v.toList ++ []) M' Q))) ∧ (¬ ((Int32.ofNat 64) ≤ l3) → (vp_in l3 64 ∧ (P 39 14 [(0, .ref 0), (1, .int l1), (2, .int l2), (3, .int (l3 + (1 : Int32)))] [] (pJ M 5 l3.toNatClampNeg (-((l1.toInt64 * l3.toInt64) + l2.toInt64))) Q))))) :
    P 39 14 [(0, .ref 0), (1, .int l1), (2, .int l2), (3, .int l3)] [] M Q := by
  exact qRun_ok hG (ops := qo_39) (cuts := qc_sa_addLine) rfl 39 14 _ _ _ _ hV
theorem v_sa_addLine_36 (hG : qGood Ls xs P) {s0 : Int32} {M : qMem} {Q : qPost}
    (hV : Q (some (.int s0)) M) :
    P 39 36 [] [.int s0] M Q := by
  exact qRun_ok hG (ops := qo_39) (cuts := qc_sa_addLine) rfl 39 36 _ _ _ _ hV
def qc_sa_removeDrift : List (Nat × List Nat) := [(5, [0]), (13, [0, 1]), (16, [0]), (20, [0, 2, 3]), (45, [2])]
set_option maxRecDepth 100000 in
theorem v_sa_removeDrift_0 (hG : qGood Ls xs P) {M : qMem} {Q : qPost}
    (hV : (P 28 0 [(0, .ref 1), (1, .int (2 : Int32)), (2, .int (1 : Int32))] [] M (fun v M' => P 40 5 [(0, .ref 0)] (v.toList ++ []) M' Q))) :
    P 40 0 [(0, .ref 0)] [] M Q := by
  exact qRun_ok hG (ops := qo_40) (cuts := qc_sa_removeDrift) rfl 53 0 _ _ _ _ hV
set_option maxRecDepth 100000 in
theorem v_sa_removeDrift_5 (hG : qGood Ls xs P) {s0 : Int32} {M : qMem} {Q : qPost}
    (hV : (((1 : Int32) ≤ s0 → (P 63 0 [(0, .ref 0)] [] M (fun v M' => P 40 13 [(0, .ref 0), (1, .int s0)] (v.toList ++ []) M' Q))) ∧ (¬ ((1 : Int32) ≤ s0) → Q (some (.int (-1000000003 : Int32))) M))) :
    P 40 5 [(0, .ref 0)] [.int s0] M Q := by
  exact qRun_ok hG (ops := qo_40) (cuts := qc_sa_removeDrift) rfl 53 5 _ _ _ _ hV
set_option maxRecDepth 100000 in
theorem v_sa_removeDrift_13 (hG : qGood Ls xs P) {s0 : Int64} {l1 : Int32} {M : qMem} {Q : qPost}
    (hV : (P 71 0 [(0, .long s0), (2, .long l1.toInt64)] [] M (fun v M' => P 40 16 [(0, .ref 0)] (v.toList ++ []) M' Q))) :
    P 40 13 [(0, .ref 0), (1, .int l1)] [.long s0] M Q := by
  exact qRun_ok hG (ops := qo_40) (cuts := qc_sa_removeDrift) rfl 53 13 _ _ _ _ hV
set_option maxRecDepth 100000 in
theorem v_sa_removeDrift_16 (hG : qGood Ls xs P) {s0 : Int64} {M : qMem} {Q : qPost}
    (hV : (P 40 20 [(0, .ref 0), (2, .int s0.toInt32), (3, .int (0 : Int32))] [] M Q)) :
    P 40 16 [(0, .ref 0)] [.long s0] M Q := by
  exact qRun_ok hG (ops := qo_40) (cuts := qc_sa_removeDrift) rfl 53 16 _ _ _ _ hV
set_option maxRecDepth 100000 in
theorem v_sa_removeDrift_20 (hG : qGood Ls xs P) {l2 l3 : Int32} {M : qMem} {Q : qPost}
    (hV : (((Int32.ofNat 64) ≤ l3 → (P 61 0 [(0, .ref 0)] [] M (fun v M' => P 40 45 [(2, .int l2)] (v.toList ++ []) M' Q))) ∧ (¬ ((Int32.ofNat 64) ≤ l3) → (¬ (2 : Int64) = 0 ∧ (vp_in l3 64 ∧ (P 40 20 [(0, .ref 0), (2, .int l2), (3, .int (l3 + (1 : Int32)))] [] (pJ M 5 l3.toNatClampNeg (((l2.toInt64 * l3.toInt64) * (l3 - (1 : Int32)).toInt64) / (2 : Int64))) Q)))))) :
    P 40 20 [(0, .ref 0), (2, .int l2), (3, .int l3)] [] M Q := by
  exact qRun_ok hG (ops := qo_40) (cuts := qc_sa_removeDrift) rfl 53 20 _ _ _ _ hV
set_option maxRecDepth 100000 in
theorem v_sa_removeDrift_45 (hG : qGood Ls xs P) {l2 s0 : Int32} {M : qMem} {Q : qPost}
    (hV : ((¬ s0 = (-1000000005 : Int32) → Q (some (.int l2)) M) ∧ (¬ (¬ s0 = (-1000000005 : Int32)) → Q (some (.int (-1000000005 : Int32))) M))) :
    P 40 45 [(2, .int l2)] [.int s0] M Q := by
  exact qRun_ok hG (ops := qo_40) (cuts := qc_sa_removeDrift) rfl 53 45 _ _ _ _ hV
def qc_sa_removeOutliers : List (Nat × List Nat) := [(2, [0, 1]), (12, [0, 1, 2]), (14, [0, 1, 2, 3]), (18, [0, 1, 2, 3]), (24, [0, 1, 2, 3]), (30, [0, 1, 2, 3]), (38, [0, 2]), (43, [2])]
set_option maxRecDepth 100000 in
theorem v_sa_removeOutliers_0 (hG : qGood Ls xs P) {l1 : Int32} {M : qMem} {Q : qPost}
    (hV : (P 56 0 [(0, .int l1)] [] M (fun v M' => P 41 2 [(0, .ref 0), (1, .int l1)] (v.toList ++ []) M' Q))) :
    P 41 0 [(0, .ref 0), (1, .int l1)] [] M Q := by
  exact qRun_ok hG (ops := qo_41) (cuts := qc_sa_removeOutliers) rfl 47 0 _ _ _ _ hV
set_option maxRecDepth 100000 in
theorem v_sa_removeOutliers_2 (hG : qGood Ls xs P) {l1 s0 : Int32} {M : qMem} {Q : qPost}
    (hV : ((¬ s0 = 0 → (P 18 0 [(0, .ref 3), (1, .ref 1)] [] M (fun v M' => P 41 12 [(0, .ref 0), (1, .int l1), (2, .int (0 : Int32))] (v.toList ++ []) M' Q))) ∧ (¬ (¬ s0 = 0) → Q (some (.int (-1000000002 : Int32))) M))) :
    P 41 2 [(0, .ref 0), (1, .int l1)] [.int s0] M Q := by
  exact qRun_ok hG (ops := qo_41) (cuts := qc_sa_removeOutliers) rfl 47 2 _ _ _ _ hV
set_option maxRecDepth 100000 in
theorem v_sa_removeOutliers_12 (hG : qGood Ls xs P) {l1 l2 : Int32} {M : qMem} {Q : qPost}
    (hV : (P 41 14 [(0, .ref 0), (1, .int l1), (2, .int l2), (3, .int (0 : Int32))] [] M Q)) :
    P 41 12 [(0, .ref 0), (1, .int l1), (2, .int l2)] [] M Q := by
  exact qRun_ok hG (ops := qo_41) (cuts := qc_sa_removeOutliers) rfl 47 12 _ _ _ _ hV
set_option maxRecDepth 100000 in
theorem v_sa_removeOutliers_14 (hG : qGood Ls xs P) {l1 l2 l3 : Int32} {M : qMem} {Q : qPost}
    (hV : (P 10 0 [(0, .ref 1)] [] M (fun v M' => P 41 18 [(0, .ref 0), (1, .int l1), (2, .int l2), (3, .int l3)] (v.toList ++ [.int l3]) M' Q))) :
    P 41 14 [(0, .ref 0), (1, .int l1), (2, .int l2), (3, .int l3)] [] M Q := by
  exact qRun_ok hG (ops := qo_41) (cuts := qc_sa_removeOutliers) rfl 47 14 _ _ _ _ hV
set_option maxRecDepth 100000 in
theorem v_sa_removeOutliers_18 (hG : qGood Ls xs P) {l1 l2 l3 s0 s1 : Int32} {M : qMem} {Q : qPost}
    (hV : ((s0 ≤ s1 → (P 7 0 [(0, .ref 6), (1, .ref 1)] [] M (fun v M' => P 41 38 [(0, .ref 0), (2, .int l2)] (v.toList ++ []) M' Q))) ∧ (¬ (s0 ≤ s1) → (P 27 0 [(0, .ref 1), (1, .int l3), (2, .int l1)] [] M (fun v M' => P 41 24 [(0, .ref 0), (1, .int l1), (2, .int l2), (3, .int l3)] (v.toList ++ []) M' Q))))) :
    P 41 18 [(0, .ref 0), (1, .int l1), (2, .int l2), (3, .int l3)] [.int s0, .int s1] M Q := by
  exact qRun_ok hG (ops := qo_41) (cuts := qc_sa_removeOutliers) rfl 47 18 _ _ _ _ hV
set_option maxRecDepth 100000 in
theorem v_sa_removeOutliers_38 (hG : qGood Ls xs P) {l2 : Int32} {M : qMem} {Q : qPost}
    (hV : (P 18 0 [(0, .ref 1), (1, .ref 3)] [] M (fun v M' => P 41 43 [(2, .int l2)] (v.toList ++ []) M' Q))) :
    P 41 38 [(0, .ref 0), (2, .int l2)] [] M Q := by
  exact qRun_ok hG (ops := qo_41) (cuts := qc_sa_removeOutliers) rfl 47 38 _ _ _ _ hV
set_option maxRecDepth 100000 in
theorem v_sa_removeOutliers_24 (hG : qGood Ls xs P) {l1 l2 l3 s0 : Int32} {M : qMem} {Q : qPost}
    (hV : ((s0 = 0 → (P 41 14 [(0, .ref 0), (1, .int l1), (2, .int l2), (3, .int (l3 + (1 : Int32)))] [] M Q)) ∧ (¬ (s0 = 0) → (P 14 0 [(0, .ref 3), (1, .int l3), (2, .int (-1000000001 : Int32))] [] M (fun v M' => P 41 30 [(0, .ref 0), (1, .int l1), (2, .int l2), (3, .int l3)] (v.toList ++ []) M' Q))))) :
    P 41 24 [(0, .ref 0), (1, .int l1), (2, .int l2), (3, .int l3)] [.int s0] M Q := by
  exact qRun_ok hG (ops := qo_41) (cuts := qc_sa_removeOutliers) rfl 47 24 _ _ _ _ hV
set_option maxRecDepth 100000 in
theorem v_sa_removeOutliers_43 (hG : qGood Ls xs P) {l2 : Int32} {M : qMem} {Q : qPost}
    (hV : Q (some (.int l2)) M) :
    P 41 43 [(2, .int l2)] [] M Q := by
  exact qRun_ok hG (ops := qo_41) (cuts := qc_sa_removeOutliers) rfl 47 43 _ _ _ _ hV
set_option maxRecDepth 100000 in
theorem v_sa_removeOutliers_30 (hG : qGood Ls xs P) {l1 l2 l3 : Int32} {M : qMem} {Q : qPost}
    (hV : (P 41 14 [(0, .ref 0), (1, .int l1), (2, .int (l2 + (1 : Int32))), (3, .int (l3 + (1 : Int32)))] [] M Q)) :
    P 41 30 [(0, .ref 0), (1, .int l1), (2, .int l2), (3, .int l3)] [] M Q := by
  exact qRun_ok hG (ops := qo_41) (cuts := qc_sa_removeOutliers) rfl 47 30 _ _ _ _ hV
def qc_sa_fill : List (Nat × List Nat) := [(13, [0, 1]), (17, [0, 1, 2, 3]), (21, [0, 1, 2, 3]), (28, [0, 1, 2, 3]), (33, [0, 1, 2, 3]), (38, [0, 1, 2, 3]), (43, [0, 1, 2, 3, 4]), (53, [0, 1, 2, 3, 4])]
set_option maxRecDepth 100000 in
theorem v_sa_fill_0 (hG : qGood Ls xs P) {l1 : Int32} {M : qMem} {Q : qPost}
    (hV : ((l1 < (1 : Int32) → Q (some (.int (-1000000002 : Int32))) M) ∧ (¬ (l1 < (1 : Int32)) → ((l1 ≤ (64 : Int32) → (P 7 0 [(0, .ref 6), (1, .ref 1)] [] M (fun v M' => P 42 13 [(0, .ref 0), (1, .int l1)] (v.toList ++ []) M' Q))) ∧ (¬ (l1 ≤ (64 : Int32)) → Q (some (.int (-1000000002 : Int32))) M))))) :
    P 42 0 [(0, .ref 0), (1, .int l1)] [] M Q := by
  exact qRun_ok hG (ops := qo_42) (cuts := qc_sa_fill) rfl 65 0 _ _ _ _ hV
set_option maxRecDepth 100000 in
theorem v_sa_fill_13 (hG : qGood Ls xs P) {l1 : Int32} {M : qMem} {Q : qPost}
    (hV : (P 42 17 [(0, .ref 0), (1, .int l1), (2, .int (0 : Int32)), (3, .int (1 : Int32))] [] M Q)) :
    P 42 13 [(0, .ref 0), (1, .int l1)] [] M Q := by
  exact qRun_ok hG (ops := qo_42) (cuts := qc_sa_fill) rfl 65 13 _ _ _ _ hV
set_option maxRecDepth 100000 in
theorem v_sa_fill_17 (hG : qGood Ls xs P) {l1 l2 l3 : Int32} {M : qMem} {Q : qPost}
    (hV : (P 10 0 [(0, .ref 1)] [] M (fun v M' => P 42 21 [(0, .ref 0), (1, .int l1), (2, .int l2), (3, .int l3)] (v.toList ++ [.int l3]) M' Q))) :
    P 42 17 [(0, .ref 0), (1, .int l1), (2, .int l2), (3, .int l3)] [] M Q := by
  exact qRun_ok hG (ops := qo_42) (cuts := qc_sa_fill) rfl 65 17 _ _ _ _ hV
set_option maxRecDepth 100000 in
theorem v_sa_fill_21 (hG : qGood Ls xs P) {l1 l2 l3 s0 s1 : Int32} {M : qMem} {Q : qPost}
    (hV : ((s0 ≤ s1 → Q (some (.int l2)) M) ∧ (¬ (s0 ≤ s1) → (P 12 0 [(0, .ref 1), (1, .int (l3 - (1 : Int32)))] [] M (fun v M' => P 42 28 [(0, .ref 0), (1, .int l1), (2, .int l2), (3, .int l3)] (v.toList ++ []) M' Q))))) :
    P 42 21 [(0, .ref 0), (1, .int l1), (2, .int l2), (3, .int l3)] [.int s0, .int s1] M Q := by
  exact qRun_ok hG (ops := qo_42) (cuts := qc_sa_fill) rfl 65 21 _ _ _ _ hV
set_option maxRecDepth 100000 in
theorem v_sa_fill_28 (hG : qGood Ls xs P) {l1 l2 l3 s0 : Int32} {M : qMem} {Q : qPost}
    (hV : ((s0 = 0 → (P 42 17 [(0, .ref 0), (1, .int l1), (2, .int l2), (3, .int (l3 + (1 : Int32)))] [] M Q)) ∧ (¬ (s0 = 0) → (P 12 0 [(0, .ref 1), (1, .int l3)] [] M (fun v M' => P 42 33 [(0, .ref 0), (1, .int l1), (2, .int l2), (3, .int l3)] (v.toList ++ []) M' Q))))) :
    P 42 28 [(0, .ref 0), (1, .int l1), (2, .int l2), (3, .int l3)] [.int s0] M Q := by
  exact qRun_ok hG (ops := qo_42) (cuts := qc_sa_fill) rfl 65 28 _ _ _ _ hV
set_option maxRecDepth 100000 in
theorem v_sa_fill_33 (hG : qGood Ls xs P) {l1 l2 l3 s0 : Int32} {M : qMem} {Q : qPost}
    (hV : ((¬ s0 = 0 → (P 42 17 [(0, .ref 0), (1, .int l1), (2, .int l2), (3, .int (l3 + (1 : Int32)))] [] M Q)) ∧ (¬ (¬ s0 = 0) → (P 25 0 [(0, .ref 1), (1, .int l3)] [] M (fun v M' => P 42 38 [(0, .ref 0), (1, .int l1), (2, .int l2), (3, .int l3)] (v.toList ++ []) M' Q))))) :
    P 42 33 [(0, .ref 0), (1, .int l1), (2, .int l2), (3, .int l3)] [.int s0] M Q := by
  exact qRun_ok hG (ops := qo_42) (cuts := qc_sa_fill) rfl 65 33 _ _ _ _ hV
set_option maxRecDepth 100000 in
theorem v_sa_fill_38 (hG : qGood Ls xs P) {l1 l2 l3 s0 : Int32} {M : qMem} {Q : qPost}
    (hV : (P 10 0 [(0, .ref 1)] [] M (fun v M' => P 42 43 [(0, .ref 0), (1, .int l1), (2, .int l2), (3, .int l3), (4, .int s0)] (v.toList ++ [.int s0]) M' Q))) :
    P 42 38 [(0, .ref 0), (1, .int l1), (2, .int l2), (3, .int l3)] [.int s0] M Q := by
  exact qRun_ok hG (ops := qo_42) (cuts := qc_sa_fill) rfl 65 38 _ _ _ _ hV
set_option maxRecDepth 100000 in
theorem v_sa_fill_43 (hG : qGood Ls xs P) {l1 l2 l3 l4 s0 s1 : Int32} {M : qMem} {Q : qPost}
    (hV : ((s0 ≤ s1 → (P 42 17 [(0, .ref 0), (1, .int l1), (2, .int l2), (3, .int (l3 + (1 : Int32)))] [] M Q)) ∧ (¬ (s0 ≤ s1) → ((l1 < (l4 - l3) → (P 42 17 [(0, .ref 0), (1, .int l1), (2, .int l2), (3, .int (l3 + (1 : Int32)))] [] M Q)) ∧ (¬ (l1 < (l4 - l3)) → (P 64 0 [(0, .ref 0), (1, .int l3), (2, .int l4)] [] M (fun v M' => P 42 53 [(0, .ref 0), (1, .int l1), (2, .int l2), (3, .int l3), (4, .int l4)] (v.toList ++ []) M' Q))))))) :
    P 42 43 [(0, .ref 0), (1, .int l1), (2, .int l2), (3, .int l3), (4, .int l4)] [.int s0, .int s1] M Q := by
  exact qRun_ok hG (ops := qo_42) (cuts := qc_sa_fill) rfl 65 43 _ _ _ _ hV
set_option maxRecDepth 100000 in
theorem v_sa_fill_53 (hG : qGood Ls xs P) {l1 l2 l3 l4 : Int32} {M : qMem} {Q : qPost}
    (hV : (P 42 17 [(0, .ref 0), (1, .int l1), (2, .int (l2 + (l4 - l3))), (3, .int (l3 + (1 : Int32)))] [] M Q)) :
    P 42 53 [(0, .ref 0), (1, .int l1), (2, .int l2), (3, .int l3), (4, .int l4)] [] M Q := by
  exact qRun_ok hG (ops := qo_42) (cuts := qc_sa_fill) rfl 65 53 _ _ _ _ hV
def qc_sa_thin : List (Nat × List Nat) := [(16, [0, 1, 2]), (18, [0, 1, 3]), (22, [0, 1, 3]), (29, [0, 1, 3]), (30, [0, 1, 3]), (40, [0]), (45, [0]), (48, [])]
set_option maxRecDepth 100000 in
theorem v_sa_thin_0 (hG : qGood Ls xs P) {l1 l2 : Int32} {M : qMem} {Q : qPost}
    (hV : ((l1 < (1 : Int32) → Q (some (.int (-1000000002 : Int32))) M) ∧ (¬ (l1 < (1 : Int32)) → (((16 : Int32) < l1 → Q (some (.int (-1000000002 : Int32))) M) ∧ (¬ ((16 : Int32) < l1) → ((l2 < 0 → Q (some (.int (-1000000002 : Int32))) M) ∧ (¬ (l2 < 0) → ((l2 < l1 → (P 17 0 [(0, .ref 3)] [] M (fun v M' => P 43 16 [(0, .ref 0), (1, .int l1), (2, .int l2)] (v.toList ++ []) M' Q))) ∧ (¬ (l2 < l1) → Q (some (.int (-1000000002 : Int32))) M))))))))) :
    P 43 0 [(0, .ref 0), (1, .int l1), (2, .int l2)] [] M Q := by
  exact qRun_ok hG (ops := qo_43) (cuts := qc_sa_thin) rfl 51 0 _ _ _ _ hV
set_option maxRecDepth 100000 in
theorem v_sa_thin_16 (hG : qGood Ls xs P) {l1 l2 : Int32} {M : qMem} {Q : qPost}
    (hV : (P 43 18 [(0, .ref 0), (1, .int l1), (3, .int l2)] [] M Q)) :
    P 43 16 [(0, .ref 0), (1, .int l1), (2, .int l2)] [] M Q := by
  exact qRun_ok hG (ops := qo_43) (cuts := qc_sa_thin) rfl 51 16 _ _ _ _ hV
set_option maxRecDepth 100000 in
theorem v_sa_thin_18 (hG : qGood Ls xs P) {l1 l3 : Int32} {M : qMem} {Q : qPost}
    (hV : (P 10 0 [(0, .ref 1)] [] M (fun v M' => P 43 22 [(0, .ref 0), (1, .int l1), (3, .int l3)] (v.toList ++ [.int l3]) M' Q))) :
    P 43 18 [(0, .ref 0), (1, .int l1), (3, .int l3)] [] M Q := by
  exact qRun_ok hG (ops := qo_43) (cuts := qc_sa_thin) rfl 51 18 _ _ _ _ hV
set_option maxRecDepth 100000 in
theorem v_sa_thin_22 (hG : qGood Ls xs P) {l1 l3 s0 s1 : Int32} {M : qMem} {Q : qPost}
    (hV : ((s0 ≤ s1 → (P 7 0 [(0, .ref 6), (1, .ref 1)] [] M (fun v M' => P 43 40 [(0, .ref 0)] (v.toList ++ []) M' Q))) ∧ (¬ (s0 ≤ s1) → (P 13 0 [(0, .ref 1), (1, .int l3)] [] M (fun v M' => P 43 29 [(0, .ref 0), (1, .int l1), (3, .int l3)] (v.toList ++ [.ref 3]) M' Q))))) :
    P 43 22 [(0, .ref 0), (1, .int l1), (3, .int l3)] [.int s0, .int s1] M Q := by
  exact qRun_ok hG (ops := qo_43) (cuts := qc_sa_thin) rfl 51 22 _ _ _ _ hV
set_option maxRecDepth 100000 in
theorem v_sa_thin_40 (hG : qGood Ls xs P) {M : qMem} {Q : qPost}
    (hV : (P 18 0 [(0, .ref 1), (1, .ref 3)] [] M (fun v M' => P 43 45 [(0, .ref 0)] (v.toList ++ []) M' Q))) :
    P 43 40 [(0, .ref 0)] [] M Q := by
  exact qRun_ok hG (ops := qo_43) (cuts := qc_sa_thin) rfl 51 40 _ _ _ _ hV
set_option maxRecDepth 100000 in
theorem v_sa_thin_29 (hG : qGood Ls xs P) {l1 l3 s0 : Int32} {M : qMem} {Q : qPost}
    (hV : (P 15 0 [(0, .ref 3), (1, .int s0)] [] M (fun v M' => P 43 30 [(0, .ref 0), (1, .int l1), (3, .int l3)] (v.toList ++ []) M' Q))) :
    P 43 29 [(0, .ref 0), (1, .int l1), (3, .int l3)] [.int s0, .ref 3] M Q := by
  exact qRun_ok hG (ops := qo_43) (cuts := qc_sa_thin) rfl 51 29 _ _ _ _ hV
set_option maxRecDepth 100000 in
theorem v_sa_thin_45 (hG : qGood Ls xs P) {M : qMem} {Q : qPost}
    (hV : (P 10 0 [(0, .ref 1)] [] M (fun v M' => P 43 48 [] (v.toList ++ []) M' Q))) :
    P 43 45 [(0, .ref 0)] [] M Q := by
  exact qRun_ok hG (ops := qo_43) (cuts := qc_sa_thin) rfl 51 45 _ _ _ _ hV
set_option maxRecDepth 100000 in
theorem v_sa_thin_30 (hG : qGood Ls xs P) {l1 l3 : Int32} {M : qMem} {Q : qPost}
    (hV : (P 43 18 [(0, .ref 0), (1, .int l1), (3, .int (l3 + l1))] [] M Q)) :
    P 43 30 [(0, .ref 0), (1, .int l1), (3, .int l3)] [] M Q := by
  exact qRun_ok hG (ops := qo_43) (cuts := qc_sa_thin) rfl 51 30 _ _ _ _ hV
set_option maxRecDepth 100000 in
theorem v_sa_thin_48 (hG : qGood Ls xs P) {s0 : Int32} {M : qMem} {Q : qPost}
    (hV : Q (some (.int s0)) M) :
    P 43 48 [] [.int s0] M Q := by
  exact qRun_ok hG (ops := qo_43) (cuts := qc_sa_thin) rfl 51 48 _ _ _ _ hV
def qc_sa_undo : List (Nat × List Nat) := [(3, [0]), (11, [0]), (14, [])]
theorem v_sa_undo_0 (hG : qGood Ls xs P) {M : qMem} {Q : qPost}
    (hV : (P 6 0 [(0, .ref 6)] [] M (fun v M' => P 44 3 [(0, .ref 0)] (v.toList ++ []) M' Q))) :
    P 44 0 [(0, .ref 0)] [] M Q := by
  exact qRun_ok hG (ops := qo_44) (cuts := qc_sa_undo) rfl 17 0 _ _ _ _ hV
theorem v_sa_undo_3 (hG : qGood Ls xs P) {s0 : Int32} {M : qMem} {Q : qPost}
    (hV : ((¬ s0 = 0 → (P 8 0 [(0, .ref 6), (1, .ref 1)] [] M (fun v M' => P 44 11 [(0, .ref 0)] (v.toList ++ []) M' Q))) ∧ (¬ (¬ s0 = 0) → Q (some (.int (-1000000003 : Int32))) M))) :
    P 44 3 [(0, .ref 0)] [.int s0] M Q := by
  exact qRun_ok hG (ops := qo_44) (cuts := qc_sa_undo) rfl 17 3 _ _ _ _ hV
theorem v_sa_undo_11 (hG : qGood Ls xs P) {M : qMem} {Q : qPost}
    (hV : (P 6 0 [(0, .ref 6)] [] M (fun v M' => P 44 14 [] (v.toList ++ []) M' Q))) :
    P 44 11 [(0, .ref 0)] [] M Q := by
  exact qRun_ok hG (ops := qo_44) (cuts := qc_sa_undo) rfl 17 11 _ _ _ _ hV
theorem v_sa_undo_14 (hG : qGood Ls xs P) {s0 : Int32} {M : qMem} {Q : qPost}
    (hV : Q (some (.int s0)) M) :
    P 44 14 [] [.int s0] M Q := by
  exact qRun_ok hG (ops := qo_44) (cuts := qc_sa_undo) rfl 17 14 _ _ _ _ hV
def qc_sa_told : List (Nat × List Nat) := [(5, []), (9, []), (13, []), (17, []), (21, []), (25, []), (28, []), (32, []), (36, [])]
theorem v_sa_told_0 (hG : qGood Ls xs P) {l1 : Int32} {M : qMem} {Q : qPost}
    (hV : ((l1 = Int32.ofInt 0 → (P 10 0 [(0, .ref 1)] [] M (fun v M' => P 45 5 [] (v.toList ++ []) M' Q))) ∧ (¬ (l1 = Int32.ofInt 0) → ((l1 = Int32.ofInt 1 → (P 19 0 [(0, .ref 1)] [] M (fun v M' => P 45 9 [] (v.toList ++ []) M' Q))) ∧ (¬ (l1 = Int32.ofInt 1) → ((l1 = Int32.ofInt 2 → (P 20 0 [(0, .ref 1)] [] M (fun v M' => P 45 13 [] (v.toList ++ []) M' Q))) ∧ (¬ (l1 = Int32.ofInt 2) → ((l1 = Int32.ofInt 3 → (P 21 0 [(0, .ref 1)] [] M (fun v M' => P 45 17 [] (v.toList ++ []) M' Q))) ∧ (¬ (l1 = Int32.ofInt 3) → ((l1 = Int32.ofInt 4 → (P 22 0 [(0, .ref 1)] [] M (fun v M' => P 45 21 [] (v.toList ++ []) M' Q))) ∧ (¬ (l1 = Int32.ofInt 4) → ((l1 = Int32.ofInt 5 → (P 23 0 [(0, .ref 1)] [] M (fun v M' => P 45 25 [] (v.toList ++ []) M' Q))) ∧ (¬ (l1 = Int32.ofInt 5) → ((l1 = Int32.ofInt 6 → (P 65 0 [(0, .ref 0)] [] M (fun v M' => P 45 28 [] (v.toList ++ []) M' Q))) ∧ (¬ (l1 = Int32.ofInt 6) → ((l1 = Int32.ofInt 7 → (P 33 0 [(0, .ref 31)] [] M (fun v M' => P 45 32 [] (v.toList ++ []) M' Q))) ∧ (¬ (l1 = Int32.ofInt 7) → ((l1 = Int32.ofInt 8 → (P 6 0 [(0, .ref 6)] [] M (fun v M' => P 45 36 [] (v.toList ++ []) M' Q))) ∧ (¬ (l1 = Int32.ofInt 8) → Q (some (.int (-1000000002 : Int32))) M))))))))))))))))))) :
    P 45 0 [(0, .ref 0), (1, .int l1)] [] M Q := by
  exact qRun_ok hG (ops := qo_45) (cuts := qc_sa_told) rfl 41 0 _ _ _ _ hV
theorem v_sa_told_36 (hG : qGood Ls xs P) {s0 : Int32} {M : qMem} {Q : qPost}
    (hV : Q (some (.int s0)) M) :
    P 45 36 [] [.int s0] M Q := by
  exact qRun_ok hG (ops := qo_45) (cuts := qc_sa_told) rfl 41 36 _ _ _ _ hV
theorem v_sa_told_32 (hG : qGood Ls xs P) {s0 : Int32} {M : qMem} {Q : qPost}
    (hV : Q (some (.int s0)) M) :
    P 45 32 [] [.int s0] M Q := by
  exact qRun_ok hG (ops := qo_45) (cuts := qc_sa_told) rfl 41 32 _ _ _ _ hV
theorem v_sa_told_28 (hG : qGood Ls xs P) {s0 : Int32} {M : qMem} {Q : qPost}
    (hV : Q (some (.int s0)) M) :
    P 45 28 [] [.int s0] M Q := by
  exact qRun_ok hG (ops := qo_45) (cuts := qc_sa_told) rfl 41 28 _ _ _ _ hV
theorem v_sa_told_25 (hG : qGood Ls xs P) {s0 : Int32} {M : qMem} {Q : qPost}
    (hV : Q (some (.int s0)) M) :
    P 45 25 [] [.int s0] M Q := by
  exact qRun_ok hG (ops := qo_45) (cuts := qc_sa_told) rfl 41 25 _ _ _ _ hV
theorem v_sa_told_21 (hG : qGood Ls xs P) {s0 : Int32} {M : qMem} {Q : qPost}
    (hV : Q (some (.int s0)) M) :
    P 45 21 [] [.int s0] M Q := by
  exact qRun_ok hG (ops := qo_45) (cuts := qc_sa_told) rfl 41 21 _ _ _ _ hV
theorem v_sa_told_17 (hG : qGood Ls xs P) {s0 : Int32} {M : qMem} {Q : qPost}
    (hV : Q (some (.int s0)) M) :
    P 45 17 [] [.int s0] M Q := by
  exact qRun_ok hG (ops := qo_45) (cuts := qc_sa_told) rfl 41 17 _ _ _ _ hV
theorem v_sa_told_13 (hG : qGood Ls xs P) {s0 : Int32} {M : qMem} {Q : qPost}
    (hV : Q (some (.int s0)) M) :
    P 45 13 [] [.int s0] M Q := by
  exact qRun_ok hG (ops := qo_45) (cuts := qc_sa_told) rfl 41 13 _ _ _ _ hV
theorem v_sa_told_9 (hG : qGood Ls xs P) {s0 : Int32} {M : qMem} {Q : qPost}
    (hV : Q (some (.int s0)) M) :
    P 45 9 [] [.int s0] M Q := by
  exact qRun_ok hG (ops := qo_45) (cuts := qc_sa_told) rfl 41 9 _ _ _ _ hV
theorem v_sa_told_5 (hG : qGood Ls xs P) {s0 : Int32} {M : qMem} {Q : qPost}
    (hV : Q (some (.int s0)) M) :
    P 45 5 [] [.int s0] M Q := by
  exact qRun_ok hG (ops := qo_45) (cuts := qc_sa_told) rfl 41 5 _ _ _ _ hV
def qc_sa_reading : List (Nat × List Nat) := [(4, [0, 1]), (11, [])]
theorem v_sa_reading_0 (hG : qGood Ls xs P) {l1 : Int32} {M : qMem} {Q : qPost}
    (hV : (P 11 0 [(0, .ref 1), (1, .int l1)] [] M (fun v M' => P 46 4 [(0, .ref 0), (1, .int l1)] (v.toList ++ []) M' Q))) :
    P 46 0 [(0, .ref 0), (1, .int l1)] [] M Q := by
  exact qRun_ok hG (ops := qo_46) (cuts := qc_sa_reading) rfl 14 0 _ _ _ _ hV
theorem v_sa_reading_4 (hG : qGood Ls xs P) {l1 s0 : Int32} {M : qMem} {Q : qPost}
    (hV : ((¬ s0 = 0 → (P 13 0 [(0, .ref 1), (1, .int l1)] [] M (fun v M' => P 46 11 [] (v.toList ++ []) M' Q))) ∧ (¬ (¬ s0 = 0) → Q (some (.int (-1000000002 : Int32))) M))) :
    P 46 4 [(0, .ref 0), (1, .int l1)] [.int s0] M Q := by
  exact qRun_ok hG (ops := qo_46) (cuts := qc_sa_reading) rfl 14 4 _ _ _ _ hV
theorem v_sa_reading_11 (hG : qGood Ls xs P) {s0 : Int32} {M : qMem} {Q : qPost}
    (hV : Q (some (.int s0)) M) :
    P 46 11 [] [.int s0] M Q := by
  exact qRun_ok hG (ops := qo_46) (cuts := qc_sa_reading) rfl 14 11 _ _ _ _ hV
def qc_sa_difference : List (Nat × List Nat) := [(2, [0, 1, 2, 3]), (5, [0, 1, 2, 3]), (16, [])]
theorem v_sa_difference_0 (hG : qGood Ls xs P) {l1 l2 l3 : Int32} {M : qMem} {Q : qPost}
    (hV : (P 57 0 [(0, .int l1)] [] M (fun v M' => P 47 2 [(0, .ref 0), (1, .int l1), (2, .int l2), (3, .int l3)] (v.toList ++ []) M' Q))) :
    P 47 0 [(0, .ref 0), (1, .int l1), (2, .int l2), (3, .int l3)] [] M Q := by
  exact qRun_ok hG (ops := qo_47) (cuts := qc_sa_difference) rfl 19 0 _ _ _ _ hV
theorem v_sa_difference_2 (hG : qGood Ls xs P) {l1 l2 l3 s0 : Int32} {M : qMem} {Q : qPost}
    (hV : ((s0 = 0 → Q (some (.int (-1000000002 : Int32))) M) ∧ (¬ (s0 = 0) → (P 58 0 [(0, .int l2)] [] M (fun v M' => P 47 5 [(0, .ref 0), (1, .int l1), (2, .int l2), (3, .int l3)] (v.toList ++ []) M' Q))))) :
    P 47 2 [(0, .ref 0), (1, .int l1), (2, .int l2), (3, .int l3)] [.int s0] M Q := by
  exact qRun_ok hG (ops := qo_47) (cuts := qc_sa_difference) rfl 19 2 _ _ _ _ hV
theorem v_sa_difference_5 (hG : qGood Ls xs P) {l1 l2 l3 s0 : Int32} {M : qMem} {Q : qPost}
    (hV : ((s0 = 0 → Q (some (.int (-1000000002 : Int32))) M) ∧ (¬ (s0 = 0) → ((0 ≤ l3 → (P 29 0 [(0, .ref 1), (1, .int l1), (2, .int l2), (3, .int l3)] [] M (fun v M' => P 47 16 [] (v.toList ++ []) M' Q))) ∧ (¬ (0 ≤ l3) → Q (some (.int (-1000000002 : Int32))) M))))) :
    P 47 5 [(0, .ref 0), (1, .int l1), (2, .int l2), (3, .int l3)] [.int s0] M Q := by
  exact qRun_ok hG (ops := qo_47) (cuts := qc_sa_difference) rfl 19 5 _ _ _ _ hV
theorem v_sa_difference_16 (hG : qGood Ls xs P) {s0 : Int32} {M : qMem} {Q : qPost}
    (hV : Q (some (.int s0)) M) :
    P 47 16 [] [.int s0] M Q := by
  exact qRun_ok hG (ops := qo_47) (cuts := qc_sa_difference) rfl 19 16 _ _ _ _ hV
def qc_sa_count : List (Nat × List Nat) := [(2, [0, 1, 2]), (5, [0, 1, 2]), (13, [])]
theorem v_sa_count_0 (hG : qGood Ls xs P) {l1 l2 : Int32} {M : qMem} {Q : qPost}
    (hV : (P 57 0 [(0, .int l1)] [] M (fun v M' => P 48 2 [(0, .ref 0), (1, .int l1), (2, .int l2)] (v.toList ++ []) M' Q))) :
    P 48 0 [(0, .ref 0), (1, .int l1), (2, .int l2)] [] M Q := by
  exact qRun_ok hG (ops := qo_48) (cuts := qc_sa_count) rfl 16 0 _ _ _ _ hV
theorem v_sa_count_2 (hG : qGood Ls xs P) {l1 l2 s0 : Int32} {M : qMem} {Q : qPost}
    (hV : ((s0 = 0 → Q (some (.int (-1000000002 : Int32))) M) ∧ (¬ (s0 = 0) → (P 58 0 [(0, .int l2)] [] M (fun v M' => P 48 5 [(0, .ref 0), (1, .int l1), (2, .int l2)] (v.toList ++ []) M' Q))))) :
    P 48 2 [(0, .ref 0), (1, .int l1), (2, .int l2)] [.int s0] M Q := by
  exact qRun_ok hG (ops := qo_48) (cuts := qc_sa_count) rfl 16 2 _ _ _ _ hV
theorem v_sa_count_5 (hG : qGood Ls xs P) {l1 l2 s0 : Int32} {M : qMem} {Q : qPost}
    (hV : ((¬ s0 = 0 → (P 28 0 [(0, .ref 1), (1, .int l1), (2, .int l2)] [] M (fun v M' => P 48 13 [] (v.toList ++ []) M' Q))) ∧ (¬ (¬ s0 = 0) → Q (some (.int (-1000000002 : Int32))) M))) :
    P 48 5 [(0, .ref 0), (1, .int l1), (2, .int l2)] [.int s0] M Q := by
  exact qRun_ok hG (ops := qo_48) (cuts := qc_sa_count) rfl 16 5 _ _ _ _ hV
theorem v_sa_count_13 (hG : qGood Ls xs P) {s0 : Int32} {M : qMem} {Q : qPost}
    (hV : Q (some (.int s0)) M) :
    P 48 13 [] [.int s0] M Q := by
  exact qRun_ok hG (ops := qo_48) (cuts := qc_sa_count) rfl 16 13 _ _ _ _ hV
def qc_sa_variance : List (Nat × List Nat) := [(2, [0, 1, 2, 3]), (5, [0, 1, 2, 3]), (19, [0, 3]), (22, [0, 3])]
theorem v_sa_variance_0 (hG : qGood Ls xs P) {l1 l2 l3 : Int32} {M : qMem} {Q : qPost}
    (hV : (P 59 0 [(0, .int l1)] [] M (fun v M' => P 49 2 [(0, .ref 0), (1, .int l1), (2, .int l2), (3, .int l3)] (v.toList ++ []) M' Q))) :
    P 49 0 [(0, .ref 0), (1, .int l1), (2, .int l2), (3, .int l3)] [] M Q := by
  exact qRun_ok hG (ops := qo_49) (cuts := qc_sa_variance) rfl 37 0 _ _ _ _ hV
theorem v_sa_variance_2 (hG : qGood Ls xs P) {l1 l2 l3 s0 : Int32} {M : qMem} {Q : qPost}
    (hV : ((s0 = 0 → Q (some (.long (-1000000002 : Int64))) M) ∧ (¬ (s0 = 0) → (P 58 0 [(0, .int l2)] [] M (fun v M' => P 49 5 [(0, .ref 0), (1, .int l1), (2, .int l2), (3, .int l3)] (v.toList ++ []) M' Q))))) :
    P 49 2 [(0, .ref 0), (1, .int l1), (2, .int l2), (3, .int l3)] [.int s0] M Q := by
  exact qRun_ok hG (ops := qo_49) (cuts := qc_sa_variance) rfl 37 2 _ _ _ _ hV
theorem v_sa_variance_5 (hG : qGood Ls xs P) {l1 l2 l3 s0 : Int32} {M : qMem} {Q : qPost}
    (hV : ((s0 = 0 → Q (some (.long (-1000000002 : Int64))) M) ∧ (¬ (s0 = 0) → ((l3 < 0 → Q (some (.long (-1000000002 : Int64))) M) ∧ (¬ (l3 < 0) → ((l3 ≤ (1 : Int32) → (P 66 0 [(0, .ref 0), (1, .int l1), (2, .int l2), (3, .ref 34)] [] M (fun v M' => P 49 19 [(0, .ref 0), (3, .int l3)] (v.toList ++ []) M' Q))) ∧ (¬ (l3 ≤ (1 : Int32)) → Q (some (.long (-1000000002 : Int64))) M))))))) :
    P 49 5 [(0, .ref 0), (1, .int l1), (2, .int l2), (3, .int l3)] [.int s0] M Q := by
  exact qRun_ok hG (ops := qo_49) (cuts := qc_sa_variance) rfl 37 5 _ _ _ _ hV
theorem v_sa_variance_19 (hG : qGood Ls xs P) {l3 : Int32} {M : qMem} {Q : qPost}
    (hV : (P 0 0 [(0, .ref 34)] [] M (fun v M' => P 49 22 [(0, .ref 0), (3, .int l3)] (v.toList ++ []) M' Q))) :
    P 49 19 [(0, .ref 0), (3, .int l3)] [] M Q := by
  exact qRun_ok hG (ops := qo_49) (cuts := qc_sa_variance) rfl 37 19 _ _ _ _ hV
theorem v_sa_variance_22 (hG : qGood Ls xs P) {l3 s0 : Int32} {M : qMem} {Q : qPost}
    (hV : ((¬ s0 = 0 → ((¬ l3 = 0 → Q (some (.long (M.2 34 1))) M) ∧ (¬ (¬ l3 = 0) → Q (some (.long (M.2 34 0))) M))) ∧ (¬ (¬ s0 = 0) → Q (some (.long (-1000000001 : Int64))) M))) :
    P 49 22 [(0, .ref 0), (3, .int l3)] [.int s0] M Q := by
  exact qRun_ok hG (ops := qo_49) (cuts := qc_sa_variance) rfl 37 22 _ _ _ _ hV
def qc_sa_deviation : List (Nat × List Nat) := [(2, [0, 1, 2]), (5, [0, 1, 2]), (14, [0]), (17, [0]), (24, []), (25, [])]
theorem v_sa_deviation_0 (hG : qGood Ls xs P) {l1 l2 : Int32} {M : qMem} {Q : qPost}
    (hV : (P 59 0 [(0, .int l1)] [] M (fun v M' => P 50 2 [(0, .ref 0), (1, .int l1), (2, .int l2)] (v.toList ++ []) M' Q))) :
    P 50 0 [(0, .ref 0), (1, .int l1), (2, .int l2)] [] M Q := by
  exact qRun_ok hG (ops := qo_50) (cuts := qc_sa_deviation) rfl 28 0 _ _ _ _ hV
theorem v_sa_deviation_2 (hG : qGood Ls xs P) {l1 l2 s0 : Int32} {M : qMem} {Q : qPost}
    (hV : ((s0 = 0 → Q (some (.long (-1000000002 : Int64))) M) ∧ (¬ (s0 = 0) → (P 58 0 [(0, .int l2)] [] M (fun v M' => P 50 5 [(0, .ref 0), (1, .int l1), (2, .int l2)] (v.toList ++ []) M' Q))))) :
    P 50 2 [(0, .ref 0), (1, .int l1), (2, .int l2)] [.int s0] M Q := by
  exact qRun_ok hG (ops := qo_50) (cuts := qc_sa_deviation) rfl 28 2 _ _ _ _ hV
theorem v_sa_deviation_5 (hG : qGood Ls xs P) {l1 l2 s0 : Int32} {M : qMem} {Q : qPost}
    (hV : ((¬ s0 = 0 → (P 66 0 [(0, .ref 0), (1, .int l1), (2, .int l2), (3, .ref 34)] [] M (fun v M' => P 50 14 [(0, .ref 0)] (v.toList ++ []) M' Q))) ∧ (¬ (¬ s0 = 0) → Q (some (.long (-1000000002 : Int64))) M))) :
    P 50 5 [(0, .ref 0), (1, .int l1), (2, .int l2)] [.int s0] M Q := by
  exact qRun_ok hG (ops := qo_50) (cuts := qc_sa_deviation) rfl 28 5 _ _ _ _ hV
theorem v_sa_deviation_14 (hG : qGood Ls xs P) {M : qMem} {Q : qPost}
    (hV : (P 0 0 [(0, .ref 34)] [] M (fun v M' => P 50 17 [(0, .ref 0)] (v.toList ++ []) M' Q))) :
    P 50 14 [(0, .ref 0)] [] M Q := by
  exact qRun_ok hG (ops := qo_50) (cuts := qc_sa_deviation) rfl 28 14 _ _ _ _ hV
theorem v_sa_deviation_17 (hG : qGood Ls xs P) {s0 : Int32} {M : qMem} {Q : qPost}
    (hV : ((¬ s0 = 0 → (P 4 0 [(0, .ref 34), (1, .long (1000000 : Int64))] [] M (fun v M' => P 50 24 [] (v.toList ++ []) M' Q))) ∧ (¬ (¬ s0 = 0) → Q (some (.long (-1000000001 : Int64))) M))) :
    P 50 17 [(0, .ref 0)] [.int s0] M Q := by
  exact qRun_ok hG (ops := qo_50) (cuts := qc_sa_deviation) rfl 28 17 _ _ _ _ hV
theorem v_sa_deviation_24 (hG : qGood Ls xs P) {s0 : Int64} {M : qMem} {Q : qPost}
    (hV : (P 69 0 [(0, .long s0)] [] M (fun v M' => P 50 25 [] (v.toList ++ []) M' Q))) :
    P 50 24 [] [.long s0] M Q := by
  exact qRun_ok hG (ops := qo_50) (cuts := qc_sa_deviation) rfl 28 24 _ _ _ _ hV
theorem v_sa_deviation_25 (hG : qGood Ls xs P) {s0 : Int64} {M : qMem} {Q : qPost}
    (hV : Q (some (.long s0)) M) :
    P 50 25 [] [.long s0] M Q := by
  exact qRun_ok hG (ops := qo_50) (cuts := qc_sa_deviation) rfl 28 25 _ _ _ _ hV
def qc_sa_compare : List (Nat × List Nat) := [(2, [0, 1, 2, 3]), (5, [0, 1, 2, 3]), (8, [0, 1, 2, 3]), (17, [0, 1, 3]), (23, [0]), (26, [0]), (30, [0]), (40, [])]
set_option maxRecDepth 100000 in
theorem v_sa_compare_0 (hG : qGood Ls xs P) {l1 l2 l3 : Int32} {M : qMem} {Q : qPost}
    (hV : (P 59 0 [(0, .int l1)] [] M (fun v M' => P 51 2 [(0, .ref 0), (1, .int l1), (2, .int l2), (3, .int l3)] (v.toList ++ []) M' Q))) :
    P 51 0 [(0, .ref 0), (1, .int l1), (2, .int l2), (3, .int l3)] [] M Q := by
  exact qRun_ok hG (ops := qo_51) (cuts := qc_sa_compare) rfl 53 0 _ _ _ _ hV
set_option maxRecDepth 100000 in
theorem v_sa_compare_2 (hG : qGood Ls xs P) {l1 l2 l3 s0 : Int32} {M : qMem} {Q : qPost}
    (hV : ((s0 = 0 → Q (some (.int (-1000000002 : Int32))) M) ∧ (¬ (s0 = 0) → (P 58 0 [(0, .int l2)] [] M (fun v M' => P 51 5 [(0, .ref 0), (1, .int l1), (2, .int l2), (3, .int l3)] (v.toList ++ []) M' Q))))) :
    P 51 2 [(0, .ref 0), (1, .int l1), (2, .int l2), (3, .int l3)] [.int s0] M Q := by
  exact qRun_ok hG (ops := qo_51) (cuts := qc_sa_compare) rfl 53 2 _ _ _ _ hV
set_option maxRecDepth 100000 in
theorem v_sa_compare_5 (hG : qGood Ls xs P) {l1 l2 l3 s0 : Int32} {M : qMem} {Q : qPost}
    (hV : ((s0 = 0 → Q (some (.int (-1000000002 : Int32))) M) ∧ (¬ (s0 = 0) → (P 58 0 [(0, .int l3)] [] M (fun v M' => P 51 8 [(0, .ref 0), (1, .int l1), (2, .int l2), (3, .int l3)] (v.toList ++ []) M' Q))))) :
    P 51 5 [(0, .ref 0), (1, .int l1), (2, .int l2), (3, .int l3)] [.int s0] M Q := by
  exact qRun_ok hG (ops := qo_51) (cuts := qc_sa_compare) rfl 53 5 _ _ _ _ hV
set_option maxRecDepth 100000 in
theorem v_sa_compare_8 (hG : qGood Ls xs P) {l1 l2 l3 s0 : Int32} {M : qMem} {Q : qPost}
    (hV : ((¬ s0 = 0 → (P 66 0 [(0, .ref 0), (1, .int l1), (2, .int l2), (3, .ref 34)] [] M (fun v M' => P 51 17 [(0, .ref 0), (1, .int l1), (3, .int l3)] (v.toList ++ []) M' Q))) ∧ (¬ (¬ s0 = 0) → Q (some (.int (-1000000002 : Int32))) M))) :
    P 51 8 [(0, .ref 0), (1, .int l1), (2, .int l2), (3, .int l3)] [.int s0] M Q := by
  exact qRun_ok hG (ops := qo_51) (cuts := qc_sa_compare) rfl 53 8 _ _ _ _ hV
set_option maxRecDepth 100000 in
theorem v_sa_compare_17 (hG : qGood Ls xs P) {l1 l3 : Int32} {M : qMem} {Q : qPost}
    (hV : (P 66 0 [(0, .ref 0), (1, .int l1), (2, .int l3), (3, .ref 35)] [] M (fun v M' => P 51 23 [(0, .ref 0)] (v.toList ++ []) M' Q))) :
    P 51 17 [(0, .ref 0), (1, .int l1), (3, .int l3)] [] M Q := by
  exact qRun_ok hG (ops := qo_51) (cuts := qc_sa_compare) rfl 53 17 _ _ _ _ hV
set_option maxRecDepth 100000 in
theorem v_sa_compare_23 (hG : qGood Ls xs P) {M : qMem} {Q : qPost}
    (hV : (P 0 0 [(0, .ref 34)] [] M (fun v M' => P 51 26 [(0, .ref 0)] (v.toList ++ []) M' Q))) :
    P 51 23 [(0, .ref 0)] [] M Q := by
  exact qRun_ok hG (ops := qo_51) (cuts := qc_sa_compare) rfl 53 23 _ _ _ _ hV
set_option maxRecDepth 100000 in
theorem v_sa_compare_26 (hG : qGood Ls xs P) {s0 : Int32} {M : qMem} {Q : qPost}
    (hV : ((s0 = 0 → Q (some (.int (-1000000001 : Int32))) M) ∧ (¬ (s0 = 0) → (P 0 0 [(0, .ref 35)] [] M (fun v M' => P 51 30 [(0, .ref 0)] (v.toList ++ []) M' Q))))) :
    P 51 26 [(0, .ref 0)] [.int s0] M Q := by
  exact qRun_ok hG (ops := qo_51) (cuts := qc_sa_compare) rfl 53 26 _ _ _ _ hV
set_option maxRecDepth 100000 in
theorem v_sa_compare_30 (hG : qGood Ls xs P) {s0 : Int32} {M : qMem} {Q : qPost}
    (hV : ((¬ s0 = 0 → (P 3 0 [(0, .ref 34), (1, .long (1 : Int64)), (3, .ref 35), (4, .long (1 : Int64))] [] M (fun v M' => P 51 40 [] (v.toList ++ []) M' Q))) ∧ (¬ (¬ s0 = 0) → Q (some (.int (-1000000001 : Int32))) M))) :
    P 51 30 [(0, .ref 0)] [.int s0] M Q := by
  exact qRun_ok hG (ops := qo_51) (cuts := qc_sa_compare) rfl 53 30 _ _ _ _ hV
set_option maxRecDepth 100000 in
theorem v_sa_compare_40 (hG : qGood Ls xs P) {s0 : Int32} {M : qMem} {Q : qPost}
    (hV : ((¬ s0 = 0 → ((0 ≤ s0 → Q (some (.int (2 : Int32))) M) ∧ (¬ (0 ≤ s0) → Q (some (.int (1 : Int32))) M))) ∧ (¬ (¬ s0 = 0) → Q (some (.int (0 : Int32))) M))) :
    P 51 40 [] [.int s0] M Q := by
  exact qRun_ok hG (ops := qo_51) (cuts := qc_sa_compare) rfl 53 40 _ _ _ _ hV
def qc_sa_best : List (Nat × List Nat) := [(2, [0, 1]), (9, [0, 1, 2, 3]), (18, [0, 1, 2, 3]), (21, [0, 1, 2, 3]), (32, [0, 1, 2, 3]), (38, [0, 1, 3])]
set_option maxRecDepth 100000 in
theorem v_sa_best_0 (hG : qGood Ls xs P) {l1 : Int32} {M : qMem} {Q : qPost}
    (hV : (P 59 0 [(0, .int l1)] [] M (fun v M' => P 52 2 [(0, .ref 0), (1, .int l1)] (v.toList ++ []) M' Q))) :
    P 52 0 [(0, .ref 0), (1, .int l1)] [] M Q := by
  exact qRun_ok hG (ops := qo_52) (cuts := qc_sa_best) rfl 46 0 _ _ _ _ hV
set_option maxRecDepth 100000 in
theorem v_sa_best_2 (hG : qGood Ls xs P) {l1 s0 : Int32} {M : qMem} {Q : qPost}
    (hV : ((¬ s0 = 0 → (P 52 9 [(0, .ref 0), (1, .int l1), (2, .int (-1000000001 : Int32)), (3, .int (1 : Int32))] [] M Q)) ∧ (¬ (¬ s0 = 0) → Q (some (.int (-1000000002 : Int32))) M))) :
    P 52 2 [(0, .ref 0), (1, .int l1)] [.int s0] M Q := by
  exact qRun_ok hG (ops := qo_52) (cuts := qc_sa_best) rfl 46 2 _ _ _ _ hV
set_option maxRecDepth 100000 in
theorem v_sa_best_9 (hG : qGood Ls xs P) {l1 l2 l3 : Int32} {M : qMem} {Q : qPost}
    (hV : (((31 : Int32) < l3 → Q (some (.int l2)) M) ∧ (¬ ((31 : Int32) < l3) → (P 66 0 [(0, .ref 0), (1, .int l1), (2, .int l3), (3, .ref 34)] [] M (fun v M' => P 52 18 [(0, .ref 0), (1, .int l1), (2, .int l2), (3, .int l3)] (v.toList ++ []) M' Q))))) :
    P 52 9 [(0, .ref 0), (1, .int l1), (2, .int l2), (3, .int l3)] [] M Q := by
  exact qRun_ok hG (ops := qo_52) (cuts := qc_sa_best) rfl 46 9 _ _ _ _ hV
set_option maxRecDepth 100000 in
theorem v_sa_best_18 (hG : qGood Ls xs P) {l1 l2 l3 : Int32} {M : qMem} {Q : qPost}
    (hV : (P 0 0 [(0, .ref 34)] [] M (fun v M' => P 52 21 [(0, .ref 0), (1, .int l1), (2, .int l2), (3, .int l3)] (v.toList ++ []) M' Q))) :
    P 52 18 [(0, .ref 0), (1, .int l1), (2, .int l2), (3, .int l3)] [] M Q := by
  exact qRun_ok hG (ops := qo_52) (cuts := qc_sa_best) rfl 46 18 _ _ _ _ hV
set_option maxRecDepth 100000 in
theorem v_sa_best_21 (hG : qGood Ls xs P) {l1 l2 l3 s0 : Int32} {M : qMem} {Q : qPost}
    (hV : ((s0 = 0 → (P 52 9 [(0, .ref 0), (1, .int l1), (2, .int l2), (3, .int (l3 + (1 : Int32)))] [] M Q)) ∧ (¬ (s0 = 0) → ((l2 = (-1000000001 : Int32) → (P 2 0 [(0, .ref 35), (1, .ref 34)] [] M (fun v M' => P 52 38 [(0, .ref 0), (1, .int l1), (3, .int l3)] (v.toList ++ []) M' Q))) ∧ (¬ (l2 = (-1000000001 : Int32)) → (P 3 0 [(0, .ref 34), (1, .long (1 : Int64)), (3, .ref 35), (4, .long (1 : Int64))] [] M (fun v M' => P 52 32 [(0, .ref 0), (1, .int l1), (2, .int l2), (3, .int l3)] (v.toList ++ []) M' Q))))))) :
    P 52 21 [(0, .ref 0), (1, .int l1), (2, .int l2), (3, .int l3)] [.int s0] M Q := by
  exact qRun_ok hG (ops := qo_52) (cuts := qc_sa_best) rfl 46 21 _ _ _ _ hV
set_option maxRecDepth 100000 in
theorem v_sa_best_38 (hG : qGood Ls xs P) {l1 l3 : Int32} {M : qMem} {Q : qPost}
    (hV : (P 52 9 [(0, .ref 0), (1, .int l1), (2, .int l3), (3, .int (l3 + (1 : Int32)))] [] M Q)) :
    P 52 38 [(0, .ref 0), (1, .int l1), (3, .int l3)] [] M Q := by
  exact qRun_ok hG (ops := qo_52) (cuts := qc_sa_best) rfl 46 38 _ _ _ _ hV
set_option maxRecDepth 100000 in
theorem v_sa_best_32 (hG : qGood Ls xs P) {l1 l2 l3 s0 : Int32} {M : qMem} {Q : qPost}
    (hV : ((0 ≤ s0 → (P 52 9 [(0, .ref 0), (1, .int l1), (2, .int l2), (3, .int (l3 + (1 : Int32)))] [] M Q)) ∧ (¬ (0 ≤ s0) → (P 2 0 [(0, .ref 35), (1, .ref 34)] [] M (fun v M' => P 52 38 [(0, .ref 0), (1, .int l1), (3, .int l3)] (v.toList ++ []) M' Q))))) :
    P 52 32 [(0, .ref 0), (1, .int l1), (2, .int l2), (3, .int l3)] [.int s0] M Q := by
  exact qRun_ok hG (ops := qo_52) (cuts := qc_sa_best) rfl 46 32 _ _ _ _ hV
def qc_sa_keep : List (Nat × List Nat) := [(3, [0]), (13, [0, 2]), (19, [])]
theorem v_sa_keep_0 (hG : qGood Ls xs P) {l1 : Int32} {M : qMem} {Q : qPost}
    (hV : (P 60 0 [(0, .ref 0), (1, .int l1)] [] M (fun v M' => P 53 3 [(0, .ref 0)] (v.toList ++ []) M' Q))) :
    P 53 0 [(0, .ref 0), (1, .int l1)] [] M Q := by
  exact qRun_ok hG (ops := qo_53) (cuts := qc_sa_keep) rfl 22 0 _ _ _ _ hV
theorem v_sa_keep_3 (hG : qGood Ls xs P) {ks0 : Nat} {M : qMem} {Q : qPost} (hks0 : qIm ks0)
    (hV : (P 18 0 [(0, .ref (rf ks0 0)), (1, .ref 1)] [] M (fun v M' => P 53 13 [(0, .ref 0), (2, .ref ks0)] (v.toList ++ []) M' Q))) :
    P 53 3 [(0, .ref 0)] [.ref ks0] M Q := by
  refine qRun_ok hG (ops := qo_53) (cuts := qc_sa_keep) rfl 22 3 _ _ _ _ ?_
  have hF : bif Nat.beq (shT ks0) 2 then bif Nat.beq (shT (rf ks0 0)) 4 then (P 18 0 [(0, .ref (rf ks0 0)), (1, .ref 1)] [] M (fun v M' => P 53 13 [(0, .ref 0), (2, .ref ks0)] (v.toList ++ []) M' Q)) else False else False := by
    (try rw [hks0.1])
    (try rw [hks0.2.1])
    exact hV
  exact hF
theorem v_sa_keep_3n (hG : qGood Ls xs P) {M : qMem} {Q : qPost}
    (hV : Q (some (.int (-1000000002 : Int32))) M) :
    P 53 3 [(0, .ref 0)] [.null] M Q := by
  exact qRun_ok hG (ops := qo_53) (cuts := qc_sa_keep) rfl 22 3 _ _ _ _ hV
theorem v_sa_keep_13 (hG : qGood Ls xs P) {ks0 : Nat} {M : qMem} {Q : qPost} (hks0 : qIm ks0)
    (hV : (narrow .boolean (.int (1 : Int32)) = .int (1 : Int32) ∧ (P 10 0 [(0, .ref 1)] [] (pI M ks0 1 (1 : Int32)) (fun v M' => P 53 19 [] (v.toList ++ []) M' Q)))) :
    P 53 13 [(0, .ref 0), (2, .ref ks0)] [] M Q := by
  refine qRun_ok hG (ops := qo_53) (cuts := qc_sa_keep) rfl 22 13 _ _ _ _ ?_
  have hF : bif Nat.beq (shT ks0) 2 then (narrow .boolean (.int (1 : Int32)) = .int (1 : Int32) ∧ (P 10 0 [(0, .ref 1)] [] (pI M ks0 1 (1 : Int32)) (fun v M' => P 53 19 [] (v.toList ++ []) M' Q))) else False := by
    (try rw [hks0.1])
    (try rw [hks0.2.1])
    exact hV
  exact hF
theorem v_sa_keep_19 (hG : qGood Ls xs P) {s0 : Int32} {M : qMem} {Q : qPost}
    (hV : Q (some (.int s0)) M) :
    P 53 19 [] [.int s0] M Q := by
  exact qRun_ok hG (ops := qo_53) (cuts := qc_sa_keep) rfl 22 19 _ _ _ _ hV
def qc_sa_back : List (Nat × List Nat) := [(3, [0]), (18, [0, 2]), (23, [0]), (26, [])]
theorem v_sa_back_0 (hG : qGood Ls xs P) {l1 : Int32} {M : qMem} {Q : qPost}
    (hV : (P 60 0 [(0, .ref 0), (1, .int l1)] [] M (fun v M' => P 54 3 [(0, .ref 0)] (v.toList ++ []) M' Q))) :
    P 54 0 [(0, .ref 0), (1, .int l1)] [] M Q := by
  exact qRun_ok hG (ops := qo_54) (cuts := qc_sa_back) rfl 29 0 _ _ _ _ hV
theorem v_sa_back_3 (hG : qGood Ls xs P) {ks0 : Nat} {M : qMem} {Q : qPost} (hks0 : qIm ks0)
    (hV : ((¬ (M.1 ks0 1) = 0 → (P 7 0 [(0, .ref 6), (1, .ref 1)] [] M (fun v M' => P 54 18 [(0, .ref 0), (2, .ref ks0)] (v.toList ++ []) M' Q))) ∧ (¬ (¬ (M.1 ks0 1) = 0) → Q (some (.int (-1000000003 : Int32))) M))) :
    P 54 3 [(0, .ref 0)] [.ref ks0] M Q := by
  refine qRun_ok hG (ops := qo_54) (cuts := qc_sa_back) rfl 29 3 _ _ _ _ ?_
  have hF : bif Nat.beq (shT ks0) 2 then ((¬ (M.1 ks0 1) = 0 → (P 7 0 [(0, .ref 6), (1, .ref 1)] [] M (fun v M' => P 54 18 [(0, .ref 0), (2, .ref ks0)] (v.toList ++ []) M' Q))) ∧ (¬ (¬ (M.1 ks0 1) = 0) → Q (some (.int (-1000000003 : Int32))) M)) else False := by
    (try rw [hks0.1])
    (try rw [hks0.2.1])
    exact hV
  exact hF
theorem v_sa_back_3n (hG : qGood Ls xs P) {M : qMem} {Q : qPost}
    (hV : Q (some (.int (-1000000002 : Int32))) M) :
    P 54 3 [(0, .ref 0)] [.null] M Q := by
  exact qRun_ok hG (ops := qo_54) (cuts := qc_sa_back) rfl 29 3 _ _ _ _ hV
theorem v_sa_back_18 (hG : qGood Ls xs P) {ks0 : Nat} {M : qMem} {Q : qPost} (hks0 : qIm ks0)
    (hV : (P 18 0 [(0, .ref 1), (1, .ref (rf ks0 0))] [] M (fun v M' => P 54 23 [(0, .ref 0)] (v.toList ++ []) M' Q))) :
    P 54 18 [(0, .ref 0), (2, .ref ks0)] [] M Q := by
  refine qRun_ok hG (ops := qo_54) (cuts := qc_sa_back) rfl 29 18 _ _ _ _ ?_
  have hF : bif Nat.beq (shT ks0) 2 then (P 18 0 [(0, .ref 1), (1, .ref (rf ks0 0))] [] M (fun v M' => P 54 23 [(0, .ref 0)] (v.toList ++ []) M' Q)) else False := by
    (try rw [hks0.1])
    (try rw [hks0.2.1])
    exact hV
  exact hF
theorem v_sa_back_23 (hG : qGood Ls xs P) {M : qMem} {Q : qPost}
    (hV : (P 10 0 [(0, .ref 1)] [] M (fun v M' => P 54 26 [] (v.toList ++ []) M' Q))) :
    P 54 23 [(0, .ref 0)] [] M Q := by
  exact qRun_ok hG (ops := qo_54) (cuts := qc_sa_back) rfl 29 23 _ _ _ _ hV
theorem v_sa_back_26 (hG : qGood Ls xs P) {s0 : Int32} {M : qMem} {Q : qPost}
    (hV : Q (some (.int s0)) M) :
    P 54 26 [] [.int s0] M Q := by
  exact qRun_ok hG (ops := qo_54) (cuts := qc_sa_back) rfl 29 26 _ _ _ _ hV
def qc_sa_isPhase : List (Nat × List Nat) := []
theorem v_sa_isPhase_0 (hG : qGood Ls xs P) {l0 : Int64} {M : qMem} {Q : qPost}
    (hV : (((lg_cmp l0 (-99999 : Int64)) < 0 → (narrow .boolean (.int (0 : Int32)) = .int (0 : Int32) ∧ Q (some (.int (0 : Int32))) M)) ∧ (¬ ((lg_cmp l0 (-99999 : Int64)) < 0) → ((0 < (lg_cmp l0 (99999 : Int64)) → (narrow .boolean (.int (0 : Int32)) = .int (0 : Int32) ∧ Q (some (.int (0 : Int32))) M)) ∧ (¬ (0 < (lg_cmp l0 (99999 : Int64))) → (narrow .boolean (.int (1 : Int32)) = .int (1 : Int32) ∧ Q (some (.int (1 : Int32))) M)))))) :
    P 55 0 [(0, .long l0)] [] M Q := by
  exact qRun_ok hG (ops := qo_55) (cuts := qc_sa_isPhase) rfl 14 0 _ _ _ _ hV
def qc_sa_isLimit : List (Nat × List Nat) := []
theorem v_sa_isLimit_0 (hG : qGood Ls xs P) {l0 : Int32} {M : qMem} {Q : qPost}
    (hV : ((l0 < 0 → (narrow .boolean (.int (0 : Int32)) = .int (0 : Int32) ∧ Q (some (.int (0 : Int32))) M)) ∧ (¬ (l0 < 0) → (((99999 : Int32) < l0 → (narrow .boolean (.int (0 : Int32)) = .int (0 : Int32) ∧ Q (some (.int (0 : Int32))) M)) ∧ (¬ ((99999 : Int32) < l0) → (narrow .boolean (.int (1 : Int32)) = .int (1 : Int32) ∧ Q (some (.int (1 : Int32))) M)))))) :
    P 56 0 [(0, .int l0)] [] M Q := by
  exact qRun_ok hG (ops := qo_56) (cuts := qc_sa_isLimit) rfl 11 0 _ _ _ _ hV
def qc_sa_isOrder : List (Nat × List Nat) := []
theorem v_sa_isOrder_0 (hG : qGood Ls xs P) {l0 : Int32} {M : qMem} {Q : qPost}
    (hV : ((l0 < (2 : Int32) → (narrow .boolean (.int (0 : Int32)) = .int (0 : Int32) ∧ Q (some (.int (0 : Int32))) M)) ∧ (¬ (l0 < (2 : Int32)) → (((4 : Int32) < l0 → (narrow .boolean (.int (0 : Int32)) = .int (0 : Int32) ∧ Q (some (.int (0 : Int32))) M)) ∧ (¬ ((4 : Int32) < l0) → (narrow .boolean (.int (1 : Int32)) = .int (1 : Int32) ∧ Q (some (.int (1 : Int32))) M)))))) :
    P 57 0 [(0, .int l0)] [] M Q := by
  exact qRun_ok hG (ops := qo_57) (cuts := qc_sa_isOrder) rfl 12 0 _ _ _ _ hV
def qc_sa_isM : List (Nat × List Nat) := []
theorem v_sa_isM_0 (hG : qGood Ls xs P) {l0 : Int32} {M : qMem} {Q : qPost}
    (hV : ((l0 < (1 : Int32) → (narrow .boolean (.int (0 : Int32)) = .int (0 : Int32) ∧ Q (some (.int (0 : Int32))) M)) ∧ (¬ (l0 < (1 : Int32)) → (((31 : Int32) < l0 → (narrow .boolean (.int (0 : Int32)) = .int (0 : Int32) ∧ Q (some (.int (0 : Int32))) M)) ∧ (¬ ((31 : Int32) < l0) → (narrow .boolean (.int (1 : Int32)) = .int (1 : Int32) ∧ Q (some (.int (1 : Int32))) M)))))) :
    P 58 0 [(0, .int l0)] [] M Q := by
  exact qRun_ok hG (ops := qo_58) (cuts := qc_sa_isM) rfl 12 0 _ _ _ _ hV
def qc_sa_isVariance : List (Nat × List Nat) := []
theorem v_sa_isVariance_0 (hG : qGood Ls xs P) {l0 : Int32} {M : qMem} {Q : qPost}
    (hV : ((l0 < 0 → (narrow .boolean (.int (0 : Int32)) = .int (0 : Int32) ∧ Q (some (.int (0 : Int32))) M)) ∧ (¬ (l0 < 0) → (((3 : Int32) < l0 → (narrow .boolean (.int (0 : Int32)) = .int (0 : Int32) ∧ Q (some (.int (0 : Int32))) M)) ∧ (¬ ((3 : Int32) < l0) → (narrow .boolean (.int (1 : Int32)) = .int (1 : Int32) ∧ Q (some (.int (1 : Int32))) M)))))) :
    P 59 0 [(0, .int l0)] [] M Q := by
  exact qRun_ok hG (ops := qo_59) (cuts := qc_sa_isVariance) rfl 11 0 _ _ _ _ hV
def qc_sa_imageAt : List (Nat × List Nat) := []
theorem v_sa_imageAt_0 (hG : qGood Ls xs P) {l1 : Int32} {M : qMem} {Q : qPost}
    (hV : ((l1 < 0 → Q (some (.null)) M) ∧ (¬ (l1 < 0) → ((l1 < (Int32.ofNat 2) → (vp_in l1 2 ∧ Q (some (.ref (rf 24 l1.toNatClampNeg))) M)) ∧ (¬ (l1 < (Int32.ofNat 2)) → Q (some (.null)) M))))) :
    P 60 0 [(0, .ref 0), (1, .int l1)] [] M Q := by
  exact qRun_ok hG (ops := qo_60) (cuts := qc_sa_imageAt) rfl 16 0 _ _ _ _ hV
def qc_sa_subtractAmounts : List (Nat × List Nat) := [(2, [0]), (10, [0]), (14, [0, 1, 2]), (18, [0, 1, 2]), (28, [0, 1, 2]), (43, [0, 1, 2]), (51, [0, 1, 2])]
set_option maxRecDepth 100000 in
theorem v_sa_subtractAmounts_0 (hG : qGood Ls xs P) {M : qMem} {Q : qPost}
    (hV : (P 62 0 [(0, .ref 0)] [] M (fun v M' => P 61 2 [(0, .ref 0)] (v.toList ++ []) M' Q))) :
    P 61 0 [(0, .ref 0)] [] M Q := by
  exact qRun_ok hG (ops := qo_61) (cuts := qc_sa_subtractAmounts) rfl 58 0 _ _ _ _ hV
set_option maxRecDepth 100000 in
theorem v_sa_subtractAmounts_2 (hG : qGood Ls xs P) {s0 : Int32} {M : qMem} {Q : qPost}
    (hV : ((¬ s0 = 0 → (P 7 0 [(0, .ref 6), (1, .ref 1)] [] M (fun v M' => P 61 10 [(0, .ref 0)] (v.toList ++ []) M' Q))) ∧ (¬ (¬ s0 = 0) → Q (some (.int (-1000000005 : Int32))) M))) :
    P 61 2 [(0, .ref 0)] [.int s0] M Q := by
  exact qRun_ok hG (ops := qo_61) (cuts := qc_sa_subtractAmounts) rfl 58 2 _ _ _ _ hV
set_option maxRecDepth 100000 in
theorem v_sa_subtractAmounts_10 (hG : qGood Ls xs P) {M : qMem} {Q : qPost}
    (hV : (P 61 14 [(0, .ref 0), (1, .int (0 : Int32)), (2, .int (0 : Int32))] [] M Q)) :
    P 61 10 [(0, .ref 0)] [] M Q := by
  exact qRun_ok hG (ops := qo_61) (cuts := qc_sa_subtractAmounts) rfl 58 10 _ _ _ _ hV
set_option maxRecDepth 100000 in
theorem v_sa_subtractAmounts_14 (hG : qGood Ls xs P) {l1 l2 : Int32} {M : qMem} {Q : qPost}
    (hV : (P 10 0 [(0, .ref 1)] [] M (fun v M' => P 61 18 [(0, .ref 0), (1, .int l1), (2, .int l2)] (v.toList ++ [.int l2]) M' Q))) :
    P 61 14 [(0, .ref 0), (1, .int l1), (2, .int l2)] [] M Q := by
  exact qRun_ok hG (ops := qo_61) (cuts := qc_sa_subtractAmounts) rfl 58 14 _ _ _ _ hV
set_option maxRecDepth 100000 in
theorem v_sa_subtractAmounts_18 (hG : qGood Ls xs P) {l1 l2 s0 s1 : Int32} {M : qMem} {Q : qPost}
    (hV : ((s0 ≤ s1 → Q (some (.int l1)) M) ∧ (¬ (s0 ≤ s1) → (((Int32.ofNat 64) ≤ l2 → Q (some (.int l1)) M) ∧ (¬ ((Int32.ofNat 64) ≤ l2) → (P 12 0 [(0, .ref 1), (1, .int l2)] [] M (fun v M' => P 61 28 [(0, .ref 0), (1, .int l1), (2, .int l2)] (v.toList ++ []) M' Q))))))) :
    P 61 18 [(0, .ref 0), (1, .int l1), (2, .int l2)] [.int s0, .int s1] M Q := by
  exact qRun_ok hG (ops := qo_61) (cuts := qc_sa_subtractAmounts) rfl 58 18 _ _ _ _ hV
set_option maxRecDepth 100000 in
theorem v_sa_subtractAmounts_28 (hG : qGood Ls xs P) {l1 l2 s0 : Int32} {M : qMem} {Q : qPost}
    (hV : ((s0 = 0 → (P 61 14 [(0, .ref 0), (1, .int l1), (2, .int (l2 + (1 : Int32)))] [] M Q)) ∧ (¬ (s0 = 0) → (vp_in l2 64 ∧ (((lg_cmp (M.2 5 l2.toNatClampNeg) (0 : Int64)) = 0 → (P 61 14 [(0, .ref 0), (1, .int l1), (2, .int (l2 + (1 : Int32)))] [] M Q)) ∧ (¬ ((lg_cmp (M.2 5 l2.toNatClampNeg) (0 : Int64)) = 0) → (P 13 0 [(0, .ref 1), (1, .int l2)] [] M (fun v M' => P 61 43 [(0, .ref 0), (1, .int l1), (2, .int l2)] (v.toList ++ [.int l2, .ref 1]) M' Q)))))))) :
    P 61 28 [(0, .ref 0), (1, .int l1), (2, .int l2)] [.int s0] M Q := by
  exact qRun_ok hG (ops := qo_61) (cuts := qc_sa_subtractAmounts) rfl 58 28 _ _ _ _ hV
set_option maxRecDepth 100000 in
theorem v_sa_subtractAmounts_43 (hG : qGood Ls xs P) {l1 l2 s0 s1 : Int32} {M : qMem} {Q : qPost}
    (hV : (vp_in l2 64 ∧ (P 14 0 [(0, .ref 1), (1, .int s1), (2, .int (s0.toInt64 - (M.2 5 l2.toNatClampNeg)).toInt32)] [] M (fun v M' => P 61 51 [(0, .ref 0), (1, .int l1), (2, .int l2)] (v.toList ++ []) M' Q)))) :
    P 61 43 [(0, .ref 0), (1, .int l1), (2, .int l2)] [.int s0, .int s1, .ref 1] M Q := by
  exact qRun_ok hG (ops := qo_61) (cuts := qc_sa_subtractAmounts) rfl 58 43 _ _ _ _ hV
set_option maxRecDepth 100000 in
theorem v_sa_subtractAmounts_51 (hG : qGood Ls xs P) {l1 l2 : Int32} {M : qMem} {Q : qPost}
    (hV : (P 61 14 [(0, .ref 0), (1, .int (l1 + (1 : Int32))), (2, .int (l2 + (1 : Int32)))] [] M Q)) :
    P 61 51 [(0, .ref 0), (1, .int l1), (2, .int l2)] [] M Q := by
  exact qRun_ok hG (ops := qo_61) (cuts := qc_sa_subtractAmounts) rfl 58 51 _ _ _ _ hV
def qc_sa_allStayPhases : List (Nat × List Nat) := [(2, [0, 1]), (6, [0, 1]), (16, [0, 1]), (21, [0, 1]), (28, [0, 1])]
theorem v_sa_allStayPhases_0 (hG : qGood Ls xs P) {M : qMem} {Q : qPost}
    (hV : (P 62 2 [(0, .ref 0), (1, .int (0 : Int32))] [] M Q)) :
    P 62 0 [(0, .ref 0)] [] M Q := by
  exact qRun_ok hG (ops := qo_62) (cuts := qc_sa_allStayPhases) rfl 37 0 _ _ _ _ hV
theorem v_sa_allStayPhases_2 (hG : qGood Ls xs P) {l1 : Int32} {M : qMem} {Q : qPost}
    (hV : (P 10 0 [(0, .ref 1)] [] M (fun v M' => P 62 6 [(0, .ref 0), (1, .int l1)] (v.toList ++ [.int l1]) M' Q))) :
    P 62 2 [(0, .ref 0), (1, .int l1)] [] M Q := by
  exact qRun_ok hG (ops := qo_62) (cuts := qc_sa_allStayPhases) rfl 37 2 _ _ _ _ hV
theorem v_sa_allStayPhases_6 (hG : qGood Ls xs P) {l1 s0 s1 : Int32} {M : qMem} {Q : qPost}
    (hV : ((s0 ≤ s1 → (narrow .boolean (.int (1 : Int32)) = .int (1 : Int32) ∧ Q (some (.int (1 : Int32))) M)) ∧ (¬ (s0 ≤ s1) → (((Int32.ofNat 64) ≤ l1 → (narrow .boolean (.int (1 : Int32)) = .int (1 : Int32) ∧ Q (some (.int (1 : Int32))) M)) ∧ (¬ ((Int32.ofNat 64) ≤ l1) → (P 12 0 [(0, .ref 1), (1, .int l1)] [] M (fun v M' => P 62 16 [(0, .ref 0), (1, .int l1)] (v.toList ++ []) M' Q))))))) :
    P 62 6 [(0, .ref 0), (1, .int l1)] [.int s0, .int s1] M Q := by
  exact qRun_ok hG (ops := qo_62) (cuts := qc_sa_allStayPhases) rfl 37 6 _ _ _ _ hV
theorem v_sa_allStayPhases_16 (hG : qGood Ls xs P) {l1 s0 : Int32} {M : qMem} {Q : qPost}
    (hV : ((s0 = 0 → (P 62 2 [(0, .ref 0), (1, .int (l1 + (1 : Int32)))] [] M Q)) ∧ (¬ (s0 = 0) → (P 13 0 [(0, .ref 1), (1, .int l1)] [] M (fun v M' => P 62 21 [(0, .ref 0), (1, .int l1)] (v.toList ++ []) M' Q))))) :
    P 62 16 [(0, .ref 0), (1, .int l1)] [.int s0] M Q := by
  exact qRun_ok hG (ops := qo_62) (cuts := qc_sa_allStayPhases) rfl 37 16 _ _ _ _ hV
theorem v_sa_allStayPhases_21 (hG : qGood Ls xs P) {l1 s0 : Int32} {M : qMem} {Q : qPost}
    (hV : (vp_in l1 64 ∧ (P 55 0 [(0, .long (s0.toInt64 - (M.2 5 l1.toNatClampNeg)))] [] M (fun v M' => P 62 28 [(0, .ref 0), (1, .int l1)] (v.toList ++ []) M' Q)))) :
    P 62 21 [(0, .ref 0), (1, .int l1)] [.int s0] M Q := by
  exact qRun_ok hG (ops := qo_62) (cuts := qc_sa_allStayPhases) rfl 37 21 _ _ _ _ hV
theorem v_sa_allStayPhases_28 (hG : qGood Ls xs P) {l1 s0 : Int32} {M : qMem} {Q : qPost}
    (hV : ((¬ s0 = 0 → (P 62 2 [(0, .ref 0), (1, .int (l1 + (1 : Int32)))] [] M Q)) ∧ (¬ (¬ s0 = 0) → (narrow .boolean (.int (0 : Int32)) = .int (0 : Int32) ∧ Q (some (.int (0 : Int32))) M)))) :
    P 62 28 [(0, .ref 0), (1, .int l1)] [.int s0] M Q := by
  exact qRun_ok hG (ops := qo_62) (cuts := qc_sa_allStayPhases) rfl 37 28 _ _ _ _ hV
def qc_sa_sumOfSecondDifferences : List (Nat × List Nat) := [(4, [0, 1, 3]), (8, [0, 1, 3]), (15, [0, 1, 3])]
theorem v_sa_sumOfSecondDifferences_0 (hG : qGood Ls xs P) {M : qMem} {Q : qPost}
    (hV : (P 63 4 [(0, .ref 0), (1, .long (0 : Int64)), (3, .int (0 : Int32))] [] M Q)) :
    P 63 0 [(0, .ref 0)] [] M Q := by
  exact qRun_ok hG (ops := qo_63) (cuts := qc_sa_sumOfSecondDifferences) rfl 30 0 _ _ _ _ hV
theorem v_sa_sumOfSecondDifferences_4 (hG : qGood Ls xs P) {l1 : Int64} {l3 : Int32} {M : qMem} {Q : qPost}
    (hV : (P 10 0 [(0, .ref 1)] [] M (fun v M' => P 63 8 [(0, .ref 0), (1, .long l1), (3, .int l3)] (v.toList ++ [.int l3]) M' Q))) :
    P 63 4 [(0, .ref 0), (1, .long l1), (3, .int l3)] [] M Q := by
  exact qRun_ok hG (ops := qo_63) (cuts := qc_sa_sumOfSecondDifferences) rfl 30 4 _ _ _ _ hV
theorem v_sa_sumOfSecondDifferences_8 (hG : qGood Ls xs P) {l1 : Int64} {l3 s0 s1 : Int32} {M : qMem} {Q : qPost}
    (hV : ((s0 ≤ s1 → Q (some (.long l1)) M) ∧ (¬ (s0 ≤ s1) → (P 29 0 [(0, .ref 1), (1, .int (2 : Int32)), (2, .int (1 : Int32)), (3, .int l3)] [] M (fun v M' => P 63 15 [(0, .ref 0), (1, .long l1), (3, .int l3)] (v.toList ++ []) M' Q))))) :
    P 63 8 [(0, .ref 0), (1, .long l1), (3, .int l3)] [.int s0, .int s1] M Q := by
  exact qRun_ok hG (ops := qo_63) (cuts := qc_sa_sumOfSecondDifferences) rfl 30 8 _ _ _ _ hV
theorem v_sa_sumOfSecondDifferences_15 (hG : qGood Ls xs P) {l1 : Int64} {l3 s0 : Int32} {M : qMem} {Q : qPost}
    (hV : ((s0 = (-1000000001 : Int32) → (P 63 4 [(0, .ref 0), (1, .long l1), (3, .int (l3 + (1 : Int32)))] [] M Q)) ∧ (¬ (s0 = (-1000000001 : Int32)) → (P 63 4 [(0, .ref 0), (1, .long (l1 + s0.toInt64)), (3, .int (l3 + (1 : Int32)))] [] M Q)))) :
    P 63 15 [(0, .ref 0), (1, .long l1), (3, .int l3)] [.int s0] M Q := by
  exact qRun_ok hG (ops := qo_63) (cuts := qc_sa_sumOfSecondDifferences) rfl 30 15 _ _ _ _ hV
def qc_sa_fillGap : List (Nat × List Nat) := [(2, [0, 1, 2, 3]), (16, [0, 1, 2, 3]), (18, [0, 1, 2, 3])]
theorem v_sa_fillGap_0 (hG : qGood Ls xs P) {l1 l2 : Int32} {M : qMem} {Q : qPost}
    (hV : (P 64 2 [(0, .ref 0), (1, .int l1), (2, .int l2), (3, .int l1)] [] M Q)) :
    P 64 0 [(0, .ref 0), (1, .int l1), (2, .int l2)] [] M Q := by
  exact qRun_ok hG (ops := qo_64) (cuts := qc_sa_fillGap) rfl 23 0 _ _ _ _ hV
theorem v_sa_fillGap_2 (hG : qGood Ls xs P) {l1 l2 l3 : Int32} {M : qMem} {Q : qPost}
    (hV : ((l2 ≤ l3 → Q none M) ∧ (¬ (l2 ≤ l3) → (P 26 0 [(0, .ref 1), (1, .int (l1 - (1 : Int32))), (2, .int l2), (3, .int l3)] [] M (fun v M' => P 64 16 [(0, .ref 0), (1, .int l1), (2, .int l2), (3, .int l3)] (v.toList ++ [.int l3, .ref 1]) M' Q))))) :
    P 64 2 [(0, .ref 0), (1, .int l1), (2, .int l2), (3, .int l3)] [] M Q := by
  exact qRun_ok hG (ops := qo_64) (cuts := qc_sa_fillGap) rfl 23 2 _ _ _ _ hV
theorem v_sa_fillGap_16 (hG : qGood Ls xs P) {s0 : Int64} {l1 l2 l3 s1 : Int32} {M : qMem} {Q : qPost}
    (hV : (P 14 0 [(0, .ref 1), (1, .int s1), (2, .int s0.toInt32)] [] M (fun v M' => P 64 18 [(0, .ref 0), (1, .int l1), (2, .int l2), (3, .int l3)] (v.toList ++ []) M' Q))) :
    P 64 16 [(0, .ref 0), (1, .int l1), (2, .int l2), (3, .int l3)] [.long s0, .int s1, .ref 1] M Q := by
  exact qRun_ok hG (ops := qo_64) (cuts := qc_sa_fillGap) rfl 23 16 _ _ _ _ hV
theorem v_sa_fillGap_18 (hG : qGood Ls xs P) {l1 l2 l3 : Int32} {M : qMem} {Q : qPost}
    (hV : (P 64 2 [(0, .ref 0), (1, .int l1), (2, .int l2), (3, .int (l3 + (1 : Int32)))] [] M Q)) :
    P 64 18 [(0, .ref 0), (1, .int l1), (2, .int l2), (3, .int l3)] [] M Q := by
  exact qRun_ok hG (ops := qo_64) (cuts := qc_sa_fillGap) rfl 23 18 _ _ _ _ hV
def qc_sa_greatestM : List (Nat × List Nat) := [(2, [0, 1]), (10, [0, 1])]
theorem v_sa_greatestM_0 (hG : qGood Ls xs P) {M : qMem} {Q : qPost}
    (hV : (P 65 2 [(0, .ref 0), (1, .int (31 : Int32))] [] M Q)) :
    P 65 0 [(0, .ref 0)] [] M Q := by
  exact qRun_ok hG (ops := qo_65) (cuts := qc_sa_greatestM) rfl 19 0 _ _ _ _ hV
theorem v_sa_greatestM_2 (hG : qGood Ls xs P) {l1 : Int32} {M : qMem} {Q : qPost}
    (hV : ((l1 < (1 : Int32) → Q (some (.int (0 : Int32))) M) ∧ (¬ (l1 < (1 : Int32)) → (P 28 0 [(0, .ref 1), (1, .int (2 : Int32)), (2, .int l1)] [] M (fun v M' => P 65 10 [(0, .ref 0), (1, .int l1)] (v.toList ++ []) M' Q))))) :
    P 65 2 [(0, .ref 0), (1, .int l1)] [] M Q := by
  exact qRun_ok hG (ops := qo_65) (cuts := qc_sa_greatestM) rfl 19 2 _ _ _ _ hV
theorem v_sa_greatestM_10 (hG : qGood Ls xs P) {l1 s0 : Int32} {M : qMem} {Q : qPost}
    (hV : ((s0 ≤ 0 → (P 65 2 [(0, .ref 0), (1, .int (l1 + (-1 : Int32)))] [] M Q)) ∧ (¬ (s0 ≤ 0) → Q (some (.int l1)) M))) :
    P 65 10 [(0, .ref 0), (1, .int l1)] [.int s0] M Q := by
  exact qRun_ok hG (ops := qo_65) (cuts := qc_sa_greatestM) rfl 19 10 _ _ _ _ hV
def qc_sa_measure : List (Nat × List Nat) := [(2, [0, 1, 2, 3]), (9, [0, 1, 2, 3, 4, 5, 7, 9]), (13, [0, 1, 2, 3, 4, 5, 7, 9]), (20, [0, 1, 2, 3, 4, 5, 7, 9]), (44, [7]), (47, [])]
set_option maxRecDepth 100000 in
theorem v_sa_measure_0 (hG : qGood Ls xs P) {k3 : Nat} {l1 l2 : Int32} {M : qMem} {Q : qPost} (hk3 : qFq k3)
    (hV : (P 67 0 [(0, .int l1)] [] M (fun v M' => P 66 2 [(0, .ref 0), (1, .int l1), (2, .int l2), (3, .ref k3)] (v.toList ++ []) M' Q))) :
    P 66 0 [(0, .ref 0), (1, .int l1), (2, .int l2), (3, .ref k3)] [] M Q := by
  exact qRun_ok hG (ops := qo_66) (cuts := qc_sa_measure) rfl 50 0 _ _ _ _ hV
set_option maxRecDepth 100000 in
theorem v_sa_measure_2 (hG : qGood Ls xs P) {k3 : Nat} {l1 l2 s0 : Int32} {M : qMem} {Q : qPost} (hk3 : qFq k3)
    (hV : (P 66 9 [(0, .ref 0), (1, .int l1), (2, .int l2), (3, .ref k3), (4, .int s0), (5, .long (0 : Int64)), (7, .long (0 : Int64)), (9, .int (0 : Int32))] [] M Q)) :
    P 66 2 [(0, .ref 0), (1, .int l1), (2, .int l2), (3, .ref k3)] [.int s0] M Q := by
  exact qRun_ok hG (ops := qo_66) (cuts := qc_sa_measure) rfl 50 2 _ _ _ _ hV
set_option maxRecDepth 100000 in
theorem v_sa_measure_9 (hG : qGood Ls xs P) {k3 : Nat} {l5 l7 : Int64} {l1 l2 l4 l9 : Int32} {M : qMem} {Q : qPost} (hk3 : qFq k3)
    (hV : (P 10 0 [(0, .ref 1)] [] M (fun v M' => P 66 13 [(0, .ref 0), (1, .int l1), (2, .int l2), (3, .ref k3), (4, .int l4), (5, .long l5), (7, .long l7), (9, .int l9)] (v.toList ++ [.int l9]) M' Q))) :
    P 66 9 [(0, .ref 0), (1, .int l1), (2, .int l2), (3, .ref k3), (4, .int l4), (5, .long l5), (7, .long l7), (9, .int l9)] [] M Q := by
  exact qRun_ok hG (ops := qo_66) (cuts := qc_sa_measure) rfl 50 9 _ _ _ _ hV
set_option maxRecDepth 100000 in
theorem v_sa_measure_13 (hG : qGood Ls xs P) {k3 : Nat} {l5 l7 : Int64} {l1 l2 l4 l9 s0 s1 : Int32} {M : qMem} {Q : qPost} (hk3 : qFq k3)
    (hV : ((s0 ≤ s1 → (P 68 0 [(0, .int l1), (1, .long l2.toInt64)] [] M (fun v M' => P 66 44 [(7, .long l7)] (v.toList ++ [.long l5, .ref k3]) M' Q))) ∧ (¬ (s0 ≤ s1) → (P 29 0 [(0, .ref 1), (1, .int l4), (2, .int l2), (3, .int l9)] [] M (fun v M' => P 66 20 [(0, .ref 0), (1, .int l1), (2, .int l2), (3, .ref k3), (4, .int l4), (5, .long l5), (7, .long l7), (9, .int l9)] (v.toList ++ []) M' Q))))) :
    P 66 13 [(0, .ref 0), (1, .int l1), (2, .int l2), (3, .ref k3), (4, .int l4), (5, .long l5), (7, .long l7), (9, .int l9)] [.int s0, .int s1] M Q := by
  exact qRun_ok hG (ops := qo_66) (cuts := qc_sa_measure) rfl 50 13 _ _ _ _ hV
set_option maxRecDepth 100000 in
theorem v_sa_measure_44 (hG : qGood Ls xs P) {k3 : Nat} {l7 s0 s1 : Int64} {M : qMem} {Q : qPost} (hk3 : qFq k3)
    (hV : (P 1 0 [(0, .ref k3), (1, .long s1), (3, .long (s0 * l7))] [] M (fun v M' => P 66 47 [] (v.toList ++ []) M' Q))) :
    P 66 44 [(7, .long l7)] [.long s0, .long s1, .ref k3] M Q := by
  refine qRun_ok hG (ops := qo_66) (cuts := qc_sa_measure) rfl 50 44 _ _ _ _ ?_
  have hF : bif Nat.beq (shT k3) 0 then (P 1 0 [(0, .ref k3), (1, .long s1), (3, .long (s0 * l7))] [] M (fun v M' => P 66 47 [] (v.toList ++ []) M' Q)) else False := by
    (try rw [hk3])
    exact hV
  exact hF
set_option maxRecDepth 100000 in
theorem v_sa_measure_20 (hG : qGood Ls xs P) {k3 : Nat} {l5 l7 : Int64} {l1 l2 l4 l9 s0 : Int32} {M : qMem} {Q : qPost} (hk3 : qFq k3)
    (hV : (((lg_cmp s0.toInt64 (-1000000001 : Int64)) = 0 → (P 66 9 [(0, .ref 0), (1, .int l1), (2, .int l2), (3, .ref k3), (4, .int l4), (5, .long l5), (7, .long l7), (9, .int (l9 + (1 : Int32)))] [] M Q)) ∧ (¬ ((lg_cmp s0.toInt64 (-1000000001 : Int64)) = 0) → (P 66 9 [(0, .ref 0), (1, .int l1), (2, .int l2), (3, .ref k3), (4, .int l4), (5, .long (l5 + (s0.toInt64 * s0.toInt64))), (7, .long (l7 + (1 : Int64))), (9, .int (l9 + (1 : Int32)))] [] M Q)))) :
    P 66 20 [(0, .ref 0), (1, .int l1), (2, .int l2), (3, .ref k3), (4, .int l4), (5, .long l5), (7, .long l7), (9, .int l9)] [.int s0] M Q := by
  exact qRun_ok hG (ops := qo_66) (cuts := qc_sa_measure) rfl 50 20 _ _ _ _ hV
set_option maxRecDepth 100000 in
theorem v_sa_measure_47 (hG : qGood Ls xs P) {M : qMem} {Q : qPost}
    (hV : Q none M) :
    P 66 47 [] [] M Q := by
  exact qRun_ok hG (ops := qo_66) (cuts := qc_sa_measure) rfl 50 47 _ _ _ _ hV
def qc_sa_orderFor : List (Nat × List Nat) := []
theorem v_sa_orderFor_0 (hG : qGood Ls xs P) {l0 : Int32} {M : qMem} {Q : qPost}
    (hV : ((¬ l0 = 0 → ((¬ l0 = (1 : Int32) → Q (some (.int (4 : Int32))) M) ∧ (¬ (¬ l0 = (1 : Int32)) → Q (some (.int (3 : Int32))) M))) ∧ (¬ (¬ l0 = 0) → Q (some (.int (2 : Int32))) M))) :
    P 67 0 [(0, .int l0)] [] M Q := by
  exact qRun_ok hG (ops := qo_67) (cuts := qc_sa_orderFor) rfl 13 0 _ _ _ _ hV
def qc_sa_divisorFor : List (Nat × List Nat) := []
theorem v_sa_divisorFor_0 (hG : qGood Ls xs P) {l1 : Int64} {l0 : Int32} {M : qMem} {Q : qPost}
    (hV : ((l0 = Int32.ofInt 0 → Q (some (.long (((2 : Int64) * l1) * l1))) M) ∧ (¬ (l0 = Int32.ofInt 0) → ((l0 = Int32.ofInt 2 → Q (some (.long (((((2 : Int64) * l1) * l1) * l1) * l1))) M) ∧ (¬ (l0 = Int32.ofInt 2) → Q (some (.long (((6 : Int64) * l1) * l1))) M))))) :
    P 68 0 [(0, .int l0), (1, .long l1)] [] M Q := by
  exact qRun_ok hG (ops := qo_68) (cuts := qc_sa_divisorFor) rfl 26 0 _ _ _ _ hV
def qc_sa_squareRoot : List (Nat × List Nat) := [(4, [0, 2, 4])]
theorem v_sa_squareRoot_0 (hG : qGood Ls xs P) {l0 : Int64} {M : qMem} {Q : qPost}
    (hV : (P 69 4 [(0, .long l0), (2, .long (0 : Int64)), (4, .int (30 : Int32))] [] M Q)) :
    P 69 0 [(0, .long l0)] [] M Q := by
  exact qRun_ok hG (ops := qo_69) (cuts := qc_sa_squareRoot) rfl 26 0 _ _ _ _ hV
theorem v_sa_squareRoot_4 (hG : qGood Ls xs P) {l0 l2 : Int64} {l4 : Int32} {M : qMem} {Q : qPost}
    (hV : ((l4 < 0 → Q (some (.long l2)) M) ∧ (¬ (l4 < 0) → ((0 < (lg_cmp ((l2 + ((1 : Int64) <<< (l4.toInt64 &&& 63))) * (l2 + ((1 : Int64) <<< (l4.toInt64 &&& 63)))) l0) → (P 69 4 [(0, .long l0), (2, .long l2), (4, .int (l4 + (-1 : Int32)))] [] M Q)) ∧ (¬ (0 < (lg_cmp ((l2 + ((1 : Int64) <<< (l4.toInt64 &&& 63))) * (l2 + ((1 : Int64) <<< (l4.toInt64 &&& 63)))) l0)) → (P 69 4 [(0, .long l0), (2, .long (l2 + ((1 : Int64) <<< (l4.toInt64 &&& 63)))), (4, .int (l4 + (-1 : Int32)))] [] M Q)))))) :
    P 69 4 [(0, .long l0), (2, .long l2), (4, .int l4)] [] M Q := by
  exact qRun_ok hG (ops := qo_69) (cuts := qc_sa_squareRoot) rfl 26 4 _ _ _ _ hV
end VC
end
section
/-! pure words: 32 and 64 bits by integers -/
def iI (z : Int) : Int32 := Int32.ofInt z
def lI (z : Int) : Int64 := Int64.ofInt z
theorem iI_add (a b : Int) : iI a + iI b = iI (a + b) := (Int32.ofInt_add a b).symm
theorem iI_sub (a b : Int) : iI a - iI b = iI (a - b) := (Int32.ofInt_sub a b).symm
theorem iI_mul (a b : Int) : iI a * iI b = iI (a * b) := (Int32.ofInt_mul a b).symm
theorem iI_neg (a : Int) : -iI a = iI (-a) := (Int32.ofInt_neg a).symm
theorem iI_toInt {a : Int} (h1 : -2147483648 ≤ a) (h2 : a < 2147483648) : (iI a).toInt = a := Int32.toInt_ofInt_of_le (by simpa using h1) (by simpa using h2)
theorem iI_lt {a b : Int} (h1 : -2147483648 ≤ a) (h2 : a < 2147483648) (h3 : -2147483648 ≤ b) (h4 : b < 2147483648) : (iI a < iI b) ↔ a < b := by
  rw [Int32.lt_iff_toInt_lt, iI_toInt h1 h2, iI_toInt h3 h4]
theorem iI_le {a b : Int} (h1 : -2147483648 ≤ a) (h2 : a < 2147483648) (h3 : -2147483648 ≤ b) (h4 : b < 2147483648) : (iI a ≤ iI b) ↔ a ≤ b := by
  rw [Int32.le_iff_toInt_le, iI_toInt h1 h2, iI_toInt h3 h4]
theorem iI_eq {a b : Int} (h1 : -2147483648 ≤ a) (h2 : a < 2147483648) (h3 : -2147483648 ≤ b) (h4 : b < 2147483648) : (iI a = iI b) ↔ a = b := by
  rw [← Int32.toInt_inj, iI_toInt h1 h2, iI_toInt h3 h4]
theorem iI_cl {a : Int} (h1 : -2147483648 ≤ a) (h2 : a < 2147483648) : (iI a).toNatClampNeg = a.toNat := Int32.toNatClampNeg_ofInt_of_le (by simpa using h1) (by simpa using h2)
theorem vp_iI {a : Int} {n : Nat} (h1 : -2147483648 ≤ a) (h2 : a < 2147483648) : vp_in (iI a) n ↔ 0 ≤ a ∧ a < n := by
  rw [vp_in_iff, iI_toInt h1 h2]
theorem iI_of (x : Int32) : ∃ z : Int, x = iI z ∧ -2147483648 ≤ z ∧ z < 2147483648 := ⟨x.toInt, (Int32.ofInt_toInt x).symm, by simpa using Int32.le_toInt x, by simpa using Int32.toInt_lt x⟩
theorem iI_div {a b : Int} (h1 : 0 ≤ a) (h2 : a < 2147483648) (h3 : 0 < b) (h4 : b < 2147483648) : iI a / iI b = iI (a / b) := by
  show Int32.ofInt a / Int32.ofInt b = Int32.ofInt (a / b)
  rw [← Int32.ofInt_tdiv (by show (-2147483648 : Int) ≤ a; omega) (by show a ≤ (2147483647 : Int); omega) (by show (-2147483648 : Int) ≤ b; omega) (by show b ≤ (2147483647 : Int); omega), Int.tdiv_eq_ediv_of_nonneg h1]
theorem lI_add (a b : Int) : lI a + lI b = lI (a + b) := (Int64.ofInt_add a b).symm
theorem lI_sub (a b : Int) : lI a - lI b = lI (a - b) := (Int64.ofInt_sub a b).symm
theorem lI_mul (a b : Int) : lI a * lI b = lI (a * b) := (Int64.ofInt_mul a b).symm
theorem lI_neg (a : Int) : -lI a = lI (-a) := (Int64.ofInt_neg a).symm
theorem lI_toInt {a : Int} (h1 : -9223372036854775808 ≤ a) (h2 : a < 9223372036854775808) : (lI a).toInt = a := Int64.toInt_ofInt_of_le (by simpa using h1) (by simpa using h2)
theorem lI_eq {a b : Int} (h1 : -9223372036854775808 ≤ a) (h2 : a < 9223372036854775808) (h3 : -9223372036854775808 ≤ b) (h4 : b < 9223372036854775808) : (lI a = lI b) ↔ a = b := by
  rw [← Int64.toInt_inj, lI_toInt h1 h2, lI_toInt h3 h4]
theorem lI_tdiv {a b : Int} (h1 : -9223372036854775808 ≤ a) (h2 : a < 9223372036854775808) (h3 : -9223372036854775808 ≤ b) (h4 : b < 9223372036854775808) : lI a / lI b = lI (a.tdiv b) := by
  show Int64.ofInt a / Int64.ofInt b = Int64.ofInt (a.tdiv b)
  rw [← Int64.ofInt_tdiv (by show (-9223372036854775808 : Int) ≤ a; omega) (by show a ≤ (9223372036854775807 : Int); omega) (by show (-9223372036854775808 : Int) ≤ b; omega) (by show b ≤ (9223372036854775807 : Int); omega)]
theorem i2l {a : Int} (h1 : -2147483648 ≤ a) (h2 : a < 2147483648) : (iI a).toInt64 = lI a := Int32.toInt64_ofInt (by show (-2147483648 : Int) ≤ a; omega) (by show a ≤ (2147483647 : Int); omega)
theorem l2i (a : Int) : (lI a).toInt32 = iI a := Int64.toInt32_ofInt
def cmpZ (a b : Int) : Int := if b < a then 1 else if a = b then 0 else -1
theorem lg_cmpZ {a b : Int} (h1 : -9223372036854775808 ≤ a) (h2 : a < 9223372036854775808) (h3 : -9223372036854775808 ≤ b) (h4 : b < 9223372036854775808) : lg_cmp (lI a) (lI b) = iI (cmpZ a b) := by
  unfold lg_cmp cmpZ
  have e1 : (lI a > lI b) ↔ b < a := by
    show lI b < lI a ↔ _
    rw [Int64.lt_iff_toInt_lt, lI_toInt h1 h2, lI_toInt h3 h4]
  simp only [e1, lI_eq h1 h2 h3 h4]
  split
  · rfl
  · split <;> rfl
theorem iLn1000000005 : ((-1000000005) : Int32) = iI (-1000000005) := by decide
theorem iLn1000000004 : ((-1000000004) : Int32) = iI (-1000000004) := by decide
theorem iLn1000000003 : ((-1000000003) : Int32) = iI (-1000000003) := by decide
theorem iLn1000000002 : ((-1000000002) : Int32) = iI (-1000000002) := by decide
theorem iLn1000000001 : ((-1000000001) : Int32) = iI (-1000000001) := by decide
theorem iLn99999 : ((-99999) : Int32) = iI (-99999) := by decide
theorem iLn9999 : ((-9999) : Int32) = iI (-9999) := by decide
theorem iLn2 : ((-2) : Int32) = iI (-2) := by decide
theorem iLn1 : ((-1) : Int32) = iI (-1) := by decide
theorem iL0 : (0 : Int32) = iI 0 := by decide
theorem iL1 : (1 : Int32) = iI 1 := by decide
theorem iL2 : (2 : Int32) = iI 2 := by decide
theorem iL3 : (3 : Int32) = iI 3 := by decide
theorem iL4 : (4 : Int32) = iI 4 := by decide
theorem iL5 : (5 : Int32) = iI 5 := by decide
theorem iL6 : (6 : Int32) = iI 6 := by decide
theorem iL7 : (7 : Int32) = iI 7 := by decide
theorem iL8 : (8 : Int32) = iI 8 := by decide
theorem iL9 : (9 : Int32) = iI 9 := by decide
theorem iL10 : (10 : Int32) = iI 10 := by decide
theorem iL15 : (15 : Int32) = iI 15 := by decide
theorem iL16 : (16 : Int32) = iI 16 := by decide
theorem iL31 : (31 : Int32) = iI 31 := by decide
theorem iL32 : (32 : Int32) = iI 32 := by decide
theorem iL40 : (40 : Int32) = iI 40 := by decide
theorem iL42 : (42 : Int32) = iI 42 := by decide
theorem iL45 : (45 : Int32) = iI 45 := by decide
theorem iL48 : (48 : Int32) = iI 48 := by decide
theorem iL57 : (57 : Int32) = iI 57 := by decide
theorem iL59 : (59 : Int32) = iI 59 := by decide
theorem iL63 : (63 : Int32) = iI 63 := by decide
theorem iL64 : (64 : Int32) = iI 64 := by decide
theorem iL65 : (65 : Int32) = iI 65 := by decide
theorem iL120 : (120 : Int32) = iI 120 := by decide
theorem iL126 : (126 : Int32) = iI 126 := by decide
theorem iL455 : (455 : Int32) = iI 455 := by decide
theorem iL520 : (520 : Int32) = iI 520 := by decide
theorem iL9999 : (9999 : Int32) = iI 9999 := by decide
theorem iL99999 : (99999 : Int32) = iI 99999 := by decide
theorem iN2 : Int32.ofNat 2 = iI 2 := by decide
theorem iN8 : Int32.ofNat 8 = iI 8 := by decide
theorem iN64 : Int32.ofNat 64 = iI 64 := by decide
theorem iN65 : Int32.ofNat 65 = iI 65 := by decide
theorem iN120 : Int32.ofNat 120 = iI 120 := by decide
theorem iN130 : Int32.ofNat 130 = iI 130 := by decide
theorem iN520 : Int32.ofNat 520 = iI 520 := by decide
theorem lL0 : (0 : Int64) = lI 0 := by decide
theorem lL1 : (1 : Int64) = lI 1 := by decide
/-- one answer for another -/
theorem q_i {Q : qPost} {M : qMem} {a b : Int} (h : a = b) (hQ : Q (some (.int (iI a))) M) : Q (some (.int (iI b))) M := h ▸ hQ
theorem q_l {Q : qPost} {M : qMem} {a b : Int} (h : a = b) (hQ : Q (some (.long (lI a))) M) : Q (some (.long (lI b))) M := h ▸ hQ
theorem nz0 : narrow .boolean (.int (iI 0)) = .int (iI 0) := by decide
theorem nz1 : narrow .boolean (.int (iI 1)) = .int (iI 1) := by decide
def bZ (p : Prop) [Decidable p] : Int := if p then 1 else 0
theorem bZ_t {p : Prop} [Decidable p] (h : p) : bZ p = 1 := if_pos h
theorem bZ_f {p : Prop} [Decidable p] (h : ¬ p) : bZ p = 0 := if_neg h
theorem bZ_in (p : Prop) [Decidable p] : 0 ≤ bZ p ∧ bZ p ≤ 1 := by unfold bZ; split <;> omega
theorem bZ_0 (p : Prop) [Decidable p] : (bZ p = 0) ↔ ¬ p := by unfold bZ; split <;> simp_all
theorem bZ_n (p : Prop) [Decidable p] : narrow .boolean (.int (iI (bZ p))) = .int (iI (bZ p)) := by unfold bZ; split <;> decide
theorem q_b {Q : qPost} {M : qMem} {p : Prop} [Decidable p] {r : Int} (hQ : Q (some (.int (iI (bZ p)))) M) (h : bZ p = r) : narrow .boolean (.int (iI r)) = .int (iI r) ∧ Q (some (.int (iI r))) M := by
  subst h
  exact ⟨bZ_n p, hQ⟩
/-- memory -/
theorem pI_e {M : qMem} {k j : Nat} {x : Int32} : (pI M k j x).1 k j = x := by
  show (if k = k ∧ j = j then x else M.1 k j) = x
  simp
theorem pI_n {M : qMem} {k j k' j' : Nat} {x : Int32} (h : k' ≠ k) : (pI M k j x).1 k' j' = M.1 k' j' := by
  rw [pI_o h]
theorem pI_nj {M : qMem} {k j j' : Nat} {x : Int32} (h : j' ≠ j) : (pI M k j x).1 k j' = M.1 k j' := by
  show (if k = k ∧ j' = j then x else M.1 k j') = _
  simp [h]
theorem pJ_e {M : qMem} {k j : Nat} {x : Int64} : (pJ M k j x).2 k j = x := by
  show (if k = k ∧ j = j then x else M.2 k j) = x
  simp
theorem pJ_n {M : qMem} {k j k' j' : Nat} {x : Int64} (h : k' ≠ k) : (pJ M k j x).2 k' j' = M.2 k' j' := by
  rw [pJ_o h]
theorem pJ_nj {M : qMem} {k j j' : Nat} {x : Int64} (h : j' ≠ j) : (pJ M k j x).2 k j' = M.2 k j' := by
  show (if k = k ∧ j' = j then x else M.2 k j') = _
  simp [h]
theorem pI_2 {M : qMem} {k j : Nat} {x : Int32} : (pI M k j x).2 = M.2 := rfl
theorem pJ_1 {M : qMem} {k j : Nat} {x : Int64} : (pJ M k j x).1 = M.1 := rfl
/-- what isn't named stays -/
def qFm (A : List Nat) (M M' : qMem) : Prop := ∀ a, a ∉ A → M'.1 a = M.1 a ∧ M'.2 a = M.2 a
theorem qFm.rf {A : List Nat} {M : qMem} : qFm A M M := fun _ _ => ⟨rfl, rfl⟩
theorem qFm.tr {A : List Nat} {M M1 M2 : qMem} (h : qFm A M M1) (h2 : qFm A M1 M2) : qFm A M M2 := fun a ha => ⟨(h2 a ha).1.trans (h a ha).1, (h2 a ha).2.trans (h a ha).2⟩
theorem qFm.up {A B : List Nat} {M M1 : qMem} (h : qFm A M M1) (hAB : ∀ a ∈ A, a ∈ B) : qFm B M M1 := fun a ha => h a (fun q => ha (hAB a q))
theorem qFm.pI {A : List Nat} {M : qMem} {k j : Nat} {x : Int32} (h : k ∈ A) : qFm A M (pI M k j x) := fun a ha => ⟨pI_o (fun e => ha (e ▸ h)), rfl⟩
theorem qFm.pJ {A : List Nat} {M : qMem} {k j : Nat} {x : Int64} (h : k ∈ A) : qFm A M (pJ M k j x) := fun a ha => ⟨rfl, pJ_o (fun e => ha (e ▸ h))⟩
end
section
/-! readings: their words, and what each method of the row answers -/
def okv (v : Int) : Prop := v = (-1000000001) ∨ (-99999 ≤ v ∧ v ≤ 99999)
def vl (n : Nat) (f : Nat → Int) (i : Int) : Int := if 0 ≤ i ∧ i < n then f i.toNat else (-1000000001)
def cRd (M : qMem) (k n : Nat) (f : Nat → Int) : Prop := M.1 k 1 = iI n ∧ n ≤ 64 ∧ ∀ j, j < n → M.1 (rf k 0) j = iI (f j) ∧ okv (f j)
def sec (n : Nat) (f : Nat → Int) (m i : Int) : Int := if vl n f i = (-1000000001) ∨ vl n f (i + m) = (-1000000001) ∨ vl n f (i + 2 * m) = (-1000000001) then (-1000000001) else vl n f (i + 2 * m) - 2 * vl n f (i + m) + vl n f i
def thr (n : Nat) (f : Nat → Int) (m i : Int) : Int := if vl n f i = (-1000000001) ∨ vl n f (i + m) = (-1000000001) ∨ vl n f (i + 2 * m) = (-1000000001) ∨ vl n f (i + 3 * m) = (-1000000001) then (-1000000001) else vl n f (i + 3 * m) - 3 * vl n f (i + 2 * m) + 3 * vl n f (i + m) - vl n f i
def okS (g : Nat → Int) : Nat → Bool
  | 0 => true
  | k + 1 => okS g k && decide (g k ≠ (-1000000001))
def smS (g : Nat → Int) : Nat → Int
  | 0 => 0
  | k + 1 => smS g k + g k
def men (n : Nat) (f : Nat → Int) (m : Nat) (i : Int) : Int := if okS (fun j => sec n f m (i + j)) m = true then smS (fun j => sec n f m (i + j)) m else (-1000000001)
def dif (n : Nat) (f : Nat → Int) (o : Int) (m : Nat) (i : Int) : Int := if 0 ≤ i ∧ i < n then (if o = 2 then sec n f m i else if o = 3 then thr n f m i else men n f m i) else (-1000000001)
def cz (p : Nat → Bool) : Nat → Int
  | 0 => 0
  | k + 1 => cz p k + (if p k = true then 1 else 0)
theorem cz_in (p : Nat → Bool) : ∀ k, 0 ≤ cz p k ∧ cz p k ≤ k := by
  intro k
  induction k with
  | zero => exact ⟨Int.le_refl _, Int.le_refl _⟩
  | succ k ih =>
    unfold cz
    split <;> (push_cast; omega)
theorem vl_ok {n : Nat} {f : Nat → Int} (hf : ∀ j, j < n → okv (f j)) (i : Int) : okv (vl n f i) := by
  unfold vl
  split
  · exact hf _ (by omega)
  · exact Or.inl rfl
theorem sec_ok {n : Nat} {f : Nat → Int} (hf : ∀ j, j < n → okv (f j)) (m i : Int) : sec n f m i = (-1000000001) ∨ (-399996 ≤ sec n f m i ∧ sec n f m i ≤ 399996) := by
  have h1 := vl_ok hf i
  have h2 := vl_ok hf (i + m)
  have h3 := vl_ok hf (i + 2 * m)
  unfold okv at h1 h2 h3
  unfold sec
  split <;> omega
theorem thr_ok {n : Nat} {f : Nat → Int} (hf : ∀ j, j < n → okv (f j)) (m i : Int) : thr n f m i = (-1000000001) ∨ (-799992 ≤ thr n f m i ∧ thr n f m i ≤ 799992) := by
  have h1 := vl_ok hf i
  have h2 := vl_ok hf (i + m)
  have h3 := vl_ok hf (i + 2 * m)
  have h4 := vl_ok hf (i + 3 * m)
  unfold okv at h1 h2 h3 h4
  unfold thr
  split <;> omega
theorem smS_in {g : Nat → Int} {B : Int} (hg : ∀ j, g j = (-1000000001) ∨ (-B ≤ g j ∧ g j ≤ B)) : ∀ k : Nat, okS g k = true → -(B * k) ≤ smS g k ∧ smS g k ≤ B * k := by
  intro k
  induction k with
  | zero => intro _; simp [smS]
  | succ k ih =>
    intro h
    unfold okS at h
    simp only [Bool.and_eq_true, decide_eq_true_eq] at h
    have h1 := ih h.1
    have h2 := hg k
    unfold smS
    have e : B * ((k + 1 : Nat) : Int) = B * k + B := by push_cast; rw [Int.mul_add, Int.mul_one]
    rw [e]
    omega
theorem men_ok {n : Nat} {f : Nat → Int} (hf : ∀ j, j < n → okv (f j)) {m : Nat} (hm : m ≤ 31) (i : Int) : men n f m i = (-1000000001) ∨ (-12399876 ≤ men n f m i ∧ men n f m i ≤ 12399876) := by
  unfold men
  split
  · rename_i h
    have h1 := smS_in (B := 399996) (fun j => sec_ok hf m (i + j)) m h
    omega
  · exact Or.inl rfl
theorem dif_ok {n : Nat} {f : Nat → Int} (hf : ∀ j, j < n → okv (f j)) {m : Nat} (hm : m ≤ 31) (o i : Int) : dif n f o m i = (-1000000001) ∨ (-12399876 ≤ dif n f o m i ∧ dif n f o m i ≤ 12399876) := by
  have h1 := sec_ok hf m i
  have h2 := thr_ok hf m i
  have h3 := men_ok hf hm i
  unfold dif
  split
  · split
    · omega
    · split <;> omega
  · exact Or.inl rfl
section RD
variable {Ls : Nat} {xs : Nat → Int32} {P : qSem} {k n : Nat} {f : Nat → Int} {M : qMem} {Q : qPost}
theorem cRd.ok (h : cRd M k n f) : ∀ j, j < n → okv (f j) := fun j hj => (h.2.2 j hj).2
theorem s_rd_size (hG : qGood Ls xs P) (hk : qRd k) (hR : cRd M k n f) (hQ : Q (some (.int (iI n))) M) : P 10 0 [(0, .ref k)] [] M Q := by
  refine v_rd_size_0 hG hk ?_
  rw [hR.1]
  exact hQ
theorem s_rd_reaches (hG : qGood Ls xs P) {i : Int} (hk : qRd k) (hR : cRd M k n f) (h1 : -2147483648 ≤ i) (h2 : i < 2147483648) (hQ : Q (some (.int (iI (bZ (0 ≤ i ∧ i < n))))) M) : P 11 0 [(0, .ref k), (1, .int (iI i))] [] M Q := by
  obtain ⟨r1, r2, r3⟩ := hR
  refine v_rd_reaches_0 hG hk ?_
  simp (disch := omega) only [iI_add, iI_sub, iI_mul, iI_neg, iI_lt, iI_le, iI_eq, iI_cl, vp_iI, Classical.not_not, iLn1000000005, iLn1000000004, iLn1000000003, iLn1000000002, iLn1000000001, iLn99999, iLn9999, iLn2, iLn1, iL0, iL1, iL2, iL3, iL4, iL5, iL6, iL7, iL8, iL9, iL10, iL15, iL16, iL31, iL32, iL40, iL42, iL45, iL48, iL57, iL59, iL63, iL64, iL65, iL120, iL126, iL455, iL520, iL9999, iL99999, iN2, iN8, iN64, iN65, iN120, iN130, iN520, r1]
  refine ⟨fun c => ?_, fun c => ⟨fun c2 => ?_, fun c2 => ?_⟩⟩
  · exact q_b hQ (bZ_f (by omega))
  · exact q_b hQ (bZ_f (by omega))
  · exact q_b hQ (bZ_t (by omega))
theorem s_rd_at (hG : qGood Ls xs P) {i : Int} (hk : qRd k) (hR : cRd M k n f) (h1 : -2147483648 ≤ i) (h2 : i < 2147483648) (hQ : Q (some (.int (iI (vl n f i)))) M) : P 13 0 [(0, .ref k), (1, .int (iI i))] [] M Q := by
  obtain ⟨r1, r2, r3⟩ := hR
  refine v_rd_at_0 hG hk ?_
  simp (disch := omega) only [iI_add, iI_sub, iI_mul, iI_neg, iI_lt, iI_le, iI_eq, iI_cl, vp_iI, Classical.not_not, iLn1000000005, iLn1000000004, iLn1000000003, iLn1000000002, iLn1000000001, iLn99999, iLn9999, iLn2, iLn1, iL0, iL1, iL2, iL3, iL4, iL5, iL6, iL7, iL8, iL9, iL10, iL15, iL16, iL31, iL32, iL40, iL42, iL45, iL48, iL57, iL59, iL63, iL64, iL65, iL120, iL126, iL455, iL520, iL9999, iL99999, iN2, iN8, iN64, iN65, iN120, iN130, iN520, r1]
  refine ⟨fun c => ?_, fun c => ⟨fun c2 => ?_, fun c2 => ⟨fun c3 => ⟨by omega, ?_⟩, fun c3 => ?_⟩⟩⟩
  · exact q_i (by unfold vl; split <;> omega) hQ
  · exact q_i (by unfold vl; split <;> omega) hQ
  · rw [(r3 i.toNat (by omega)).1]
    exact q_i (by unfold vl; split <;> first | rfl | omega) hQ
  · exact q_i (by unfold vl; split <;> omega) hQ
theorem s_rd_has (hG : qGood Ls xs P) {i : Int} (hk : qRd k) (hR : cRd M k n f) (h1 : -2147483648 ≤ i) (h2 : i < 2147483648) (hQ : Q (some (.int (iI (bZ (vl n f i ≠ (-1000000001)))))) M) : P 12 0 [(0, .ref k), (1, .int (iI i))] [] M Q := by
  refine v_rd_has_0 hG hk ?_
  refine s_rd_at hG hk hR h1 h2 ?_
  refine v_rd_has_3 hG ?_
  have h3 := vl_ok hR.ok i
  unfold okv at h3
  simp (disch := omega) only [iI_add, iI_sub, iI_mul, iI_neg, iI_lt, iI_le, iI_eq, iI_cl, vp_iI, Classical.not_not, iLn1000000005, iLn1000000004, iLn1000000003, iLn1000000002, iLn1000000001, iLn99999, iLn9999, iLn2, iLn1, iL0, iL1, iL2, iL3, iL4, iL5, iL6, iL7, iL8, iL9, iL10, iL15, iL16, iL31, iL32, iL40, iL42, iL45, iL48, iL57, iL59, iL63, iL64, iL65, iL120, iL126, iL455, iL520, iL9999, iL99999, iN2, iN8, iN64, iN65, iN120, iN130, iN520]
  refine ⟨fun c => q_b hQ (bZ_f (fun z => z c)), fun c => q_b hQ (bZ_t c)⟩
theorem s_rd_put (hG : qGood Ls xs P) {i : Int} {x : Int} (hk : qRd k) (hR : cRd M k n f) (hx : okv x) (h1 : 0 ≤ i) (h2 : i < n) (hQ : ∀ M', cRd M' k n (fun j => if j = i.toNat then x else f j) → qFm [k, rf k 0] M M' → Q none M') : P 14 0 [(0, .ref k), (1, .int (iI i)), (2, .int (iI x))] [] M Q := by
  obtain ⟨r1, r2, r3⟩ := id hR
  refine v_rd_put_0 hG hk ?_
  simp (disch := omega) only [iI_add, iI_sub, iI_mul, iI_neg, iI_lt, iI_le, iI_eq, iI_cl, vp_iI, Classical.not_not, iLn1000000005, iLn1000000004, iLn1000000003, iLn1000000002, iLn1000000001, iLn99999, iLn9999, iLn2, iLn1, iL0, iL1, iL2, iL3, iL4, iL5, iL6, iL7, iL8, iL9, iL10, iL15, iL16, iL31, iL32, iL40, iL42, iL45, iL48, iL57, iL59, iL63, iL64, iL65, iL120, iL126, iL455, iL520, iL9999, iL99999, iN2, iN8, iN64, iN65, iN120, iN130, iN520, r1]
  refine ⟨fun c => by omega, fun c => ⟨fun c2 => by omega, fun c2 => ⟨fun c3 => by omega, fun c3 => ⟨by omega, ?_⟩⟩⟩⟩
  have hne : k ≠ rf k 0 := fun e => by have q := hk.1; rw [e, hk.2.1] at q; omega
  refine hQ _ ⟨by rw [pI_n hne]; exact r1, r2, fun j hj => ?_⟩ (qFm.pI (by simp))
  by_cases e : j = i.toNat
  · subst e
    simp only [if_true]
    exact ⟨pI_e, hx⟩
  · dsimp only
    rw [pI_nj e, if_neg e]
    exact r3 j hj
theorem s_rd_append (hG : qGood Ls xs P) {x : Int} (hk : qRd k) (hR : cRd M k n f) (hx : okv x) (h2 : n < 64) (hQ : ∀ M', cRd M' k (n + 1) (fun j => if j = n then x else f j) → qFm [k, rf k 0] M M' → Q none M') : P 15 0 [(0, .ref k), (1, .int (iI x))] [] M Q := by
  obtain ⟨r1, r2, r3⟩ := id hR
  refine v_rd_append_0 hG hk ?_
  have hne : k ≠ rf k 0 := fun e => by have q := hk.1; rw [e, hk.2.1] at q; omega
  rw [pI_n hne]
  simp (disch := omega) only [iI_add, iI_sub, iI_mul, iI_neg, iI_lt, iI_le, iI_eq, iI_cl, vp_iI, Classical.not_not, iLn1000000005, iLn1000000004, iLn1000000003, iLn1000000002, iLn1000000001, iLn99999, iLn9999, iLn2, iLn1, iL0, iL1, iL2, iL3, iL4, iL5, iL6, iL7, iL8, iL9, iL10, iL15, iL16, iL31, iL32, iL40, iL42, iL45, iL48, iL57, iL59, iL63, iL64, iL65, iL120, iL126, iL455, iL520, iL9999, iL99999, iN2, iN8, iN64, iN65, iN120, iN130, iN520, r1]
  refine ⟨fun c => by omega, fun c => ⟨fun c2 => by omega, fun c2 => ⟨by omega, ?_⟩⟩⟩
  have en : (n : Int).toNat = n := by omega
  rw [en]
  refine hQ _ ⟨by rw [pI_e]; rfl, by omega, fun j hj => ?_⟩ ((qFm.pI (by simp)).tr (qFm.pI (by simp)))
  rw [pI_n (fun e => hne e.symm)]
  by_cases e : j = n
  · subst e
    simp only [if_true]
    exact ⟨pI_e, hx⟩
  · dsimp only
    rw [pI_nj e, if_neg e]
    exact r3 j (by omega)
theorem s_rd_empty (hG : qGood Ls xs P) (hk : qRd k) (hQ : ∀ M', cRd M' k 0 f → qFm [k] M M' → Q none M') : P 17 0 [(0, .ref k)] [] M Q := by
  refine v_rd_empty_0 hG hk ?_
  simp (disch := omega) only [iI_add, iI_sub, iI_mul, iI_neg, iI_lt, iI_le, iI_eq, iI_cl, vp_iI, Classical.not_not, iLn1000000005, iLn1000000004, iLn1000000003, iLn1000000002, iLn1000000001, iLn99999, iLn9999, iLn2, iLn1, iL0, iL1, iL2, iL3, iL4, iL5, iL6, iL7, iL8, iL9, iL10, iL15, iL16, iL31, iL32, iL40, iL42, iL45, iL48, iL57, iL59, iL63, iL64, iL65, iL120, iL126, iL455, iL520, iL9999, iL99999, iN2, iN8, iN64, iN65, iN120, iN130, iN520]
  exact hQ _ ⟨by rw [pI_e]; rfl, by omega, fun j hj => absurd hj (by omega)⟩ (qFm.pI (by simp))
theorem cRd.eqv {g : Nat → Int} (h : cRd M k n f) (hg : ∀ j, j < n → g j = f j) : cRd M k n g := ⟨h.1, h.2.1, fun j hj => by rw [hg j hj]; exact h.2.2 j hj⟩
theorem cRd.fm {M' : qMem} {A : List Nat} (h : cRd M k n f) (hF : qFm A M M') (h1 : k ∉ A) (h2 : rf k 0 ∉ A) : cRd M' k n f := ⟨by rw [(hF k h1).1]; exact h.1, h.2.1, fun j hj => by rw [(hF _ h2).1]; exact h.2.2 j hj⟩
theorem s_rd_appendTimes (hG : qGood Ls xs P) {x : Int} {t : Nat} (hk : qRd k) (hR : cRd M k n f) (hx : okv x) (h2 : n + t ≤ 64) (hQ : ∀ M', cRd M' k (n + t) (fun j => if j < n then f j else x) → qFm [k, rf k 0] M M' → Q none M') : P 16 0 [(0, .ref k), (1, .int (iI x)), (2, .int (iI t))] [] M Q := by
  refine v_rd_appendTimes_0 hG hk ?_
  have key : ∀ (d j : Nat) (M1 : qMem), j + d = t → cRd M1 k (n + j) (fun i => if i < n then f i else x) → qFm [k, rf k 0] M M1 → P 16 2 [(0, .ref k), (1, .int (iI x)), (2, .int (iI t)), (3, .int (iI j))] [] M1 Q := by
    intro d
    induction d with
    | zero =>
      intro j M1 hj hR1 hF
      refine v_rd_appendTimes_2 hG hk ?_
      simp (disch := omega) only [iI_add, iI_sub, iI_mul, iI_neg, iI_lt, iI_le, iI_eq, iI_cl, vp_iI, Classical.not_not, iLn1000000005, iLn1000000004, iLn1000000003, iLn1000000002, iLn1000000001, iLn99999, iLn9999, iLn2, iLn1, iL0, iL1, iL2, iL3, iL4, iL5, iL6, iL7, iL8, iL9, iL10, iL15, iL16, iL31, iL32, iL40, iL42, iL45, iL48, iL57, iL59, iL63, iL64, iL65, iL120, iL126, iL455, iL520, iL9999, iL99999, iN2, iN8, iN64, iN65, iN120, iN130, iN520]
      refine ⟨fun c => ?_, fun c => by omega⟩
      have e : j = t := by omega
      subst e
      exact hQ M1 hR1 hF
    | succ d ih =>
      intro j M1 hj hR1 hF
      refine v_rd_appendTimes_2 hG hk ?_
      simp (disch := omega) only [iI_add, iI_sub, iI_mul, iI_neg, iI_lt, iI_le, iI_eq, iI_cl, vp_iI, Classical.not_not, iLn1000000005, iLn1000000004, iLn1000000003, iLn1000000002, iLn1000000001, iLn99999, iLn9999, iLn2, iLn1, iL0, iL1, iL2, iL3, iL4, iL5, iL6, iL7, iL8, iL9, iL10, iL15, iL16, iL31, iL32, iL40, iL42, iL45, iL48, iL57, iL59, iL63, iL64, iL65, iL120, iL126, iL455, iL520, iL9999, iL99999, iN2, iN8, iN64, iN65, iN120, iN130, iN520]
      refine ⟨fun c => by omega, fun c => ?_⟩
      refine s_rd_append hG hk hR1 hx (by omega) (fun M2 hR2 hF2 => ?_)
      refine v_rd_appendTimes_8 hG hk ?_
      simp (disch := omega) only [iI_add, iI_sub, iI_mul, iI_neg, iI_lt, iI_le, iI_eq, iI_cl, vp_iI, Classical.not_not, iLn1000000005, iLn1000000004, iLn1000000003, iLn1000000002, iLn1000000001, iLn99999, iLn9999, iLn2, iLn1, iL0, iL1, iL2, iL3, iL4, iL5, iL6, iL7, iL8, iL9, iL10, iL15, iL16, iL31, iL32, iL40, iL42, iL45, iL48, iL57, iL59, iL63, iL64, iL65, iL120, iL126, iL455, iL520, iL9999, iL99999, iN2, iN8, iN64, iN65, iN120, iN130, iN520]
      refine ih (j + 1) M2 (by omega) ?_ (hF.tr hF2)
      refine cRd.eqv (n := n + (j + 1)) hR2 (fun i hi => ?_)
      by_cases e : i = n + j
      · subst e
        rw [if_neg (by omega), if_pos rfl]
      · rw [if_neg e]
  simp (disch := omega) only [iI_add, iI_sub, iI_mul, iI_neg, iI_lt, iI_le, iI_eq, iI_cl, vp_iI, Classical.not_not, iLn1000000005, iLn1000000004, iLn1000000003, iLn1000000002, iLn1000000001, iLn99999, iLn9999, iLn2, iLn1, iL0, iL1, iL2, iL3, iL4, iL5, iL6, iL7, iL8, iL9, iL10, iL15, iL16, iL31, iL32, iL40, iL42, iL45, iL48, iL57, iL59, iL63, iL64, iL65, iL120, iL126, iL455, iL520, iL9999, iL99999, iN2, iN8, iN64, iN65, iN120, iN130, iN520]
  exact key t 0 M (by omega) (hR.eqv (fun j hj => by rw [if_pos hj])) qFm.rf
theorem s_rd_copyFrom (hG : qGood Ls xs P) {k1 n1 : Nat} {f1 : Nat → Int} (hk : qRd k) (hk1 : qRd k1) (hne : k1 ≠ k) (hne2 : rf k1 0 ≠ rf k 0) (hR : cRd M k1 n1 f1) (hQ : ∀ M', cRd M' k n1 f1 → qFm [k, rf k 0] M M' → Q none M') : P 18 0 [(0, .ref k), (1, .ref k1)] [] M Q := by
  have a1 : k1 ∉ [k, rf k 0] := by
    simp only [List.mem_cons, List.not_mem_nil, or_false, not_or]
    exact ⟨hne, fun e => by have q := hk1.1; rw [e, hk.2.1] at q; omega⟩
  have a2 : rf k1 0 ∉ [k, rf k 0] := by
    simp only [List.mem_cons, List.not_mem_nil, or_false, not_or]
    exact ⟨fun e => by have q := hk.1; rw [← e, hk1.2.1] at q; omega, hne2⟩
  refine v_rd_copyFrom_0 hG hk hk1 ?_
  refine s_rd_empty (f := f1) hG hk (fun M0 hR0 hF0 => ?_)
  refine v_rd_copyFrom_2 hG hk hk1 ?_
  have key : ∀ (d j : Nat) (M1 : qMem), j + d = n1 → cRd M1 k j f1 → qFm [k, rf k 0] M M1 → P 18 4 [(0, .ref k), (1, .ref k1), (2, .int (iI j))] [] M1 Q := by
    intro d
    induction d with
    | zero =>
      intro j M1 hj hR1 hF
      have hn1 := hR.2.1
      refine v_rd_copyFrom_4 hG hk hk1 ?_
      refine s_rd_size hG hk1 (hR.fm hF a1 a2) ?_
      refine v_rd_copyFrom_7 hG hk hk1 ?_
      simp (disch := omega) only [iI_add, iI_sub, iI_mul, iI_neg, iI_lt, iI_le, iI_eq, iI_cl, vp_iI, Classical.not_not, iLn1000000005, iLn1000000004, iLn1000000003, iLn1000000002, iLn1000000001, iLn99999, iLn9999, iLn2, iLn1, iL0, iL1, iL2, iL3, iL4, iL5, iL6, iL7, iL8, iL9, iL10, iL15, iL16, iL31, iL32, iL40, iL42, iL45, iL48, iL57, iL59, iL63, iL64, iL65, iL120, iL126, iL455, iL520, iL9999, iL99999, iN2, iN8, iN64, iN65, iN120, iN130, iN520]
      refine ⟨fun c => ?_, fun c => by omega⟩
      have e : j = n1 := by omega
      subst e
      exact hQ M1 hR1 hF
    | succ d ih =>
      intro j M1 hj hR1 hF
      have hn1 := hR.2.1
      have hS := hR.fm hF a1 a2
      refine v_rd_copyFrom_4 hG hk hk1 ?_
      refine s_rd_size hG hk1 hS ?_
      refine v_rd_copyFrom_7 hG hk hk1 ?_
      simp (disch := omega) only [iI_add, iI_sub, iI_mul, iI_neg, iI_lt, iI_le, iI_eq, iI_cl, vp_iI, Classical.not_not, iLn1000000005, iLn1000000004, iLn1000000003, iLn1000000002, iLn1000000001, iLn99999, iLn9999, iLn2, iLn1, iL0, iL1, iL2, iL3, iL4, iL5, iL6, iL7, iL8, iL9, iL10, iL15, iL16, iL31, iL32, iL40, iL42, iL45, iL48, iL57, iL59, iL63, iL64, iL65, iL120, iL126, iL455, iL520, iL9999, iL99999, iN2, iN8, iN64, iN65, iN120, iN130, iN520]
      refine ⟨fun c => by omega, fun c => ?_⟩
      refine s_rd_at hG hk1 hS (by omega) (by omega) ?_
      refine v_rd_copyFrom_12 hG hk hk1 ?_
      refine s_rd_append hG hk hR1 (vl_ok hR.ok _) (by omega) (fun M2 hR2 hF2 => ?_)
      refine v_rd_copyFrom_13 hG hk hk1 ?_
      simp (disch := omega) only [iI_add, iI_sub, iI_mul, iI_neg, iI_lt, iI_le, iI_eq, iI_cl, vp_iI, Classical.not_not, iLn1000000005, iLn1000000004, iLn1000000003, iLn1000000002, iLn1000000001, iLn99999, iLn9999, iLn2, iLn1, iL0, iL1, iL2, iL3, iL4, iL5, iL6, iL7, iL8, iL9, iL10, iL15, iL16, iL31, iL32, iL40, iL42, iL45, iL48, iL57, iL59, iL63, iL64, iL65, iL120, iL126, iL455, iL520, iL9999, iL99999, iN2, iN8, iN64, iN65, iN120, iN130, iN520]
      refine ih (j + 1) M2 (by omega) (hR2.eqv (fun i hi => ?_)) (hF.tr hF2)
      by_cases e : i = j
      · subst e
        rw [if_pos rfl]
        unfold vl
        rw [if_pos (by omega)]
        congr 1
      · rw [if_neg e]
  simp (disch := omega) only [iI_add, iI_sub, iI_mul, iI_neg, iI_lt, iI_le, iI_eq, iI_cl, vp_iI, Classical.not_not, iLn1000000005, iLn1000000004, iLn1000000003, iLn1000000002, iLn1000000001, iLn99999, iLn9999, iLn2, iLn1, iL0, iL1, iL2, iL3, iL4, iL5, iL6, iL7, iL8, iL9, iL10, iL15, iL16, iL31, iL32, iL40, iL42, iL45, iL48, iL57, iL59, iL63, iL64, iL65, iL120, iL126, iL455, iL520, iL9999, iL99999, iN2, iN8, iN64, iN65, iN120, iN130, iN520]
  exact key n1 0 M0 (by omega) hR0 (hF0.up (by simp))
end RD
end
section
/-! readings: counts, gaps, lines, differences -/
def lsz (f : Nat → Int) : Nat → Int
  | 0 => (-1000000001)
  | j + 1 => if f j ≠ (-1000000001) ∧ (lsz f j = (-1000000001) ∨ f j < lsz f j) then f j else lsz f j
def grz (f : Nat → Int) : Nat → Int
  | 0 => (-1000000001)
  | j + 1 => if grz f j < f j then f j else grz f j
def stg (f : Nat → Int) (i : Nat) : Bool := decide (f i = (-1000000001)) && (decide (i = 0) || decide (f (i - 1) ≠ (-1000000001)))
def gpe (f : Nat → Int) : Nat → Nat → Nat
  | 0, i => i
  | d + 1, i => if f i = (-1000000001) then gpe f d (i + 1) else i
def lgz (n : Nat) (f : Nat → Int) : Nat → Int
  | 0 => 0
  | j + 1 => if stg f j = true then (if lgz n f j < (gpe f (n - j) j : Int) - j then (gpe f (n - j) j : Int) - j else lgz n f j) else lgz n f j
def lnz (n : Nat) (f : Nat → Int) (i j t : Int) : Int := vl n f i + ((vl n f j - vl n f i) * (t - i)) / (j - i)
def otl (n : Nat) (f : Nat → Int) (lim : Int) (i : Nat) : Bool := decide (dif n f 2 1 ((i : Int) - 1) ≠ (-1000000001)) && (decide (2 * lim < dif n f 2 1 ((i : Int) - 1)) || decide (dif n f 2 1 ((i : Int) - 1) < -2 * lim))
theorem lsz_ok {n : Nat} {f : Nat → Int} (hf : ∀ j, j < n → okv (f j)) : ∀ j, j ≤ n → okv (lsz f j) := by
  intro j
  induction j with
  | zero => intro _; exact Or.inl rfl
  | succ j ih =>
    intro h
    unfold lsz
    split
    · exact hf j (by omega)
    · exact ih (by omega)
theorem grz_ok {n : Nat} {f : Nat → Int} (hf : ∀ j, j < n → okv (f j)) : ∀ j, j ≤ n → okv (grz f j) := by
  intro j
  induction j with
  | zero => intro _; exact Or.inl rfl
  | succ j ih =>
    intro h
    unfold grz
    split
    · exact hf j (by omega)
    · exact ih (by omega)
theorem gpe_in (f : Nat → Int) : ∀ d i, i ≤ gpe f d i ∧ gpe f d i ≤ i + d := by
  intro d
  induction d with
  | zero => intro i; exact ⟨Nat.le_refl _, Nat.le_refl _⟩
  | succ d ih =>
    intro i
    unfold gpe
    have h := ih (i + 1)
    split <;> omega
theorem gpe_s (f : Nat → Int) (d i : Nat) : gpe f (d + 1) i = if f i = (-1000000001) then gpe f d (i + 1) else i := rfl
theorem lgz_in {n : Nat} {f : Nat → Int} : ∀ j, j ≤ n → 0 ≤ lgz n f j ∧ lgz n f j ≤ n := by
  intro j
  induction j with
  | zero => intro _; unfold lgz; omega
  | succ j ih =>
    intro h
    have h1 := ih (by omega)
    have h2 := gpe_in f (n - j) j
    unfold lgz
    split
    · split <;> omega
    · exact h1
theorem vl_nat {n : Nat} {f : Nat → Int} {j : Nat} (h : j < n) : vl n f j = f j := by
  unfold vl
  rw [if_pos (by omega)]
  congr 1
section RD2
variable {Ls : Nat} {xs : Nat → Int32} {P : qSem} {k n : Nat} {f : Nat → Int} {M : qMem} {Q : qPost}
theorem s_max (hG : qGood Ls xs P) {a b : Int} (h1 : -2147483648 ≤ a) (h2 : a < 2147483648) (h3 : -2147483648 ≤ b) (h4 : b < 2147483648) (hQ : Q (some (.int (iI (if a < b then b else a)))) M) : P 72 0 [(0, .int (iI a)), (1, .int (iI b))] [] M Q := by
  refine v_math_max_0 hG ?_
  simp (disch := omega) only [iI_add, iI_sub, iI_mul, iI_neg, iI_lt, iI_le, iI_eq, iI_cl, vp_iI, Classical.not_not, iLn1000000005, iLn1000000004, iLn1000000003, iLn1000000002, iLn1000000001, iLn99999, iLn9999, iLn2, iLn1, iL0, iL1, iL2, iL3, iL4, iL5, iL6, iL7, iL8, iL9, iL10, iL15, iL16, iL31, iL32, iL40, iL42, iL45, iL48, iL57, iL59, iL63, iL64, iL65, iL120, iL126, iL455, iL520, iL9999, iL99999, iN2, iN8, iN64, iN65, iN120, iN130, iN520]
  exact ⟨fun c => q_i (if_pos c) hQ, fun c => q_i (if_neg c) hQ⟩
theorem s_rd_present (hG : qGood Ls xs P) (hk : qRd k) (hR : cRd M k n f) (hQ : Q (some (.int (iI (cz (fun j => decide (f j ≠ (-1000000001))) n)))) M) : P 19 0 [(0, .ref k)] [] M Q := by
  have hn := hR.2.1
  refine v_rd_present_0 hG hk ?_
  have key : ∀ (d j : Nat), j + d = n → P 19 4 [(0, .ref k), (1, .int (iI (cz (fun j => decide (f j ≠ (-1000000001))) j))), (2, .int (iI j))] [] M Q := by
    intro d
    induction d with
    | zero =>
      intro j hj
      have e : j = n := by omega
      subst e
      refine v_rd_present_4 hG hk ?_
      simp (disch := omega) only [iI_add, iI_sub, iI_mul, iI_neg, iI_lt, iI_le, iI_eq, iI_cl, vp_iI, Classical.not_not, iLn1000000005, iLn1000000004, iLn1000000003, iLn1000000002, iLn1000000001, iLn99999, iLn9999, iLn2, iLn1, iL0, iL1, iL2, iL3, iL4, iL5, iL6, iL7, iL8, iL9, iL10, iL15, iL16, iL31, iL32, iL40, iL42, iL45, iL48, iL57, iL59, iL63, iL64, iL65, iL120, iL126, iL455, iL520, iL9999, iL99999, iN2, iN8, iN64, iN65, iN120, iN130, iN520, hR.1]
      exact ⟨fun c => hQ, fun c => by omega⟩
    | succ d ih =>
      intro j hj
      have hb := cz_in (fun j => decide (f j ≠ (-1000000001))) j
      refine v_rd_present_4 hG hk ?_
      simp (disch := omega) only [iI_add, iI_sub, iI_mul, iI_neg, iI_lt, iI_le, iI_eq, iI_cl, vp_iI, Classical.not_not, iLn1000000005, iLn1000000004, iLn1000000003, iLn1000000002, iLn1000000001, iLn99999, iLn9999, iLn2, iLn1, iL0, iL1, iL2, iL3, iL4, iL5, iL6, iL7, iL8, iL9, iL10, iL15, iL16, iL31, iL32, iL40, iL42, iL45, iL48, iL57, iL59, iL63, iL64, iL65, iL120, iL126, iL455, iL520, iL9999, iL99999, iN2, iN8, iN64, iN65, iN120, iN130, iN520, hR.1]
      refine ⟨fun c => by omega, fun c => ?_⟩
      refine s_rd_has hG hk hR (by omega) (by omega) ?_
      rw [vl_nat (by omega)]
      refine v_rd_present_11 hG hk ?_
      have hz := bZ_in (f j ≠ (-1000000001))
      simp (disch := omega) only [iI_add, iI_sub, iI_mul, iI_neg, iI_lt, iI_le, iI_eq, iI_cl, vp_iI, Classical.not_not, iLn1000000005, iLn1000000004, iLn1000000003, iLn1000000002, iLn1000000001, iLn99999, iLn9999, iLn2, iLn1, iL0, iL1, iL2, iL3, iL4, iL5, iL6, iL7, iL8, iL9, iL10, iL15, iL16, iL31, iL32, iL40, iL42, iL45, iL48, iL57, iL59, iL63, iL64, iL65, iL120, iL126, iL455, iL520, iL9999, iL99999, iN2, iN8, iN64, iN65, iN120, iN130, iN520, bZ_0]
      have hI := ih (j + 1) (by omega)
      unfold cz at hI
      refine ⟨fun c => ?_, fun c => ?_⟩
      · rw [if_neg (by simpa using c)] at hI
        rw [Int.add_zero] at hI
        exact hI
      · rw [if_pos (by simpa using c)] at hI
        exact hI
  simp (disch := omega) only [iI_add, iI_sub, iI_mul, iI_neg, iI_lt, iI_le, iI_eq, iI_cl, vp_iI, Classical.not_not, iLn1000000005, iLn1000000004, iLn1000000003, iLn1000000002, iLn1000000001, iLn99999, iLn9999, iLn2, iLn1, iL0, iL1, iL2, iL3, iL4, iL5, iL6, iL7, iL8, iL9, iL10, iL15, iL16, iL31, iL32, iL40, iL42, iL45, iL48, iL57, iL59, iL63, iL64, iL65, iL120, iL126, iL455, iL520, iL9999, iL99999, iN2, iN8, iN64, iN65, iN120, iN130, iN520]
  exact key n 0 (by omega)
theorem s_rd_least (hG : qGood Ls xs P) (hk : qRd k) (hR : cRd M k n f) (hQ : Q (some (.int (iI (lsz f n)))) M) : P 20 0 [(0, .ref k)] [] M Q := by
  have hn := hR.2.1
  refine v_rd_least_0 hG hk ?_
  have key : ∀ (d j : Nat), j + d = n → P 20 4 [(0, .ref k), (1, .int (iI (lsz f j))), (2, .int (iI j))] [] M Q := by
    intro d
    induction d with
    | zero =>
      intro j hj
      have e : j = n := by omega
      subst e
      refine v_rd_least_4 hG hk ?_
      simp (disch := omega) only [iI_add, iI_sub, iI_mul, iI_neg, iI_lt, iI_le, iI_eq, iI_cl, vp_iI, Classical.not_not, iLn1000000005, iLn1000000004, iLn1000000003, iLn1000000002, iLn1000000001, iLn99999, iLn9999, iLn2, iLn1, iL0, iL1, iL2, iL3, iL4, iL5, iL6, iL7, iL8, iL9, iL10, iL15, iL16, iL31, iL32, iL40, iL42, iL45, iL48, iL57, iL59, iL63, iL64, iL65, iL120, iL126, iL455, iL520, iL9999, iL99999, iN2, iN8, iN64, iN65, iN120, iN130, iN520, hR.1]
      exact ⟨fun c => hQ, fun c => by omega⟩
    | succ d ih =>
      intro j hj
      have hb := lsz_ok hR.ok j (by omega)
      have hv := hR.ok j (by omega)
      unfold okv at hb hv
      have hI := ih (j + 1) (by omega)
      unfold lsz at hI
      refine v_rd_least_4 hG hk ?_
      simp (disch := omega) only [iI_add, iI_sub, iI_mul, iI_neg, iI_lt, iI_le, iI_eq, iI_cl, vp_iI, Classical.not_not, iLn1000000005, iLn1000000004, iLn1000000003, iLn1000000002, iLn1000000001, iLn99999, iLn9999, iLn2, iLn1, iL0, iL1, iL2, iL3, iL4, iL5, iL6, iL7, iL8, iL9, iL10, iL15, iL16, iL31, iL32, iL40, iL42, iL45, iL48, iL57, iL59, iL63, iL64, iL65, iL120, iL126, iL455, iL520, iL9999, iL99999, iN2, iN8, iN64, iN65, iN120, iN130, iN520, hR.1]
      refine ⟨fun c => by omega, fun c => ?_⟩
      refine s_rd_has hG hk hR (by omega) (by omega) ?_
      rw [vl_nat (by omega)]
      refine v_rd_least_11 hG hk ?_
      have hz := bZ_in (f j ≠ (-1000000001))
      simp (disch := omega) only [iI_add, iI_sub, iI_mul, iI_neg, iI_lt, iI_le, iI_eq, iI_cl, vp_iI, Classical.not_not, iLn1000000005, iLn1000000004, iLn1000000003, iLn1000000002, iLn1000000001, iLn99999, iLn9999, iLn2, iLn1, iL0, iL1, iL2, iL3, iL4, iL5, iL6, iL7, iL8, iL9, iL10, iL15, iL16, iL31, iL32, iL40, iL42, iL45, iL48, iL57, iL59, iL63, iL64, iL65, iL120, iL126, iL455, iL520, iL9999, iL99999, iN2, iN8, iN64, iN65, iN120, iN130, iN520, bZ_0]
      refine ⟨fun c => ?_, fun c => ⟨fun c2 => ?_, fun c2 => ?_⟩⟩
      · rw [if_neg (fun z => z.1 c)] at hI
        exact hI
      · refine s_rd_at hG hk hR (by omega) (by omega) ?_
        rw [vl_nat (by omega)]
        refine v_rd_least_23 hG hk ?_
        simp (disch := omega) only [iI_add, iI_sub, iI_mul, iI_neg, iI_lt, iI_le, iI_eq, iI_cl, vp_iI, Classical.not_not, iLn1000000005, iLn1000000004, iLn1000000003, iLn1000000002, iLn1000000001, iLn99999, iLn9999, iLn2, iLn1, iL0, iL1, iL2, iL3, iL4, iL5, iL6, iL7, iL8, iL9, iL10, iL15, iL16, iL31, iL32, iL40, iL42, iL45, iL48, iL57, iL59, iL63, iL64, iL65, iL120, iL126, iL455, iL520, iL9999, iL99999, iN2, iN8, iN64, iN65, iN120, iN130, iN520]
        rw [if_pos ⟨c, Or.inl c2⟩] at hI
        exact hI
      · refine s_rd_at hG hk hR (by omega) (by omega) ?_
        rw [vl_nat (by omega)]
        refine v_rd_least_18 hG hk ?_
        simp (disch := omega) only [iI_add, iI_sub, iI_mul, iI_neg, iI_lt, iI_le, iI_eq, iI_cl, vp_iI, Classical.not_not, iLn1000000005, iLn1000000004, iLn1000000003, iLn1000000002, iLn1000000001, iLn99999, iLn9999, iLn2, iLn1, iL0, iL1, iL2, iL3, iL4, iL5, iL6, iL7, iL8, iL9, iL10, iL15, iL16, iL31, iL32, iL40, iL42, iL45, iL48, iL57, iL59, iL63, iL64, iL65, iL120, iL126, iL455, iL520, iL9999, iL99999, iN2, iN8, iN64, iN65, iN120, iN130, iN520]
        refine ⟨fun c3 => ?_, fun c3 => ?_⟩
        · rw [if_neg (by omega)] at hI
          exact hI
        · refine s_rd_at hG hk hR (by omega) (by omega) ?_
          rw [vl_nat (by omega)]
          refine v_rd_least_23 hG hk ?_
          simp (disch := omega) only [iI_add, iI_sub, iI_mul, iI_neg, iI_lt, iI_le, iI_eq, iI_cl, vp_iI, Classical.not_not, iLn1000000005, iLn1000000004, iLn1000000003, iLn1000000002, iLn1000000001, iLn99999, iLn9999, iLn2, iLn1, iL0, iL1, iL2, iL3, iL4, iL5, iL6, iL7, iL8, iL9, iL10, iL15, iL16, iL31, iL32, iL40, iL42, iL45, iL48, iL57, iL59, iL63, iL64, iL65, iL120, iL126, iL455, iL520, iL9999, iL99999, iN2, iN8, iN64, iN65, iN120, iN130, iN520]
          rw [if_pos (by omega)] at hI
          exact hI
  simp (disch := omega) only [iI_add, iI_sub, iI_mul, iI_neg, iI_lt, iI_le, iI_eq, iI_cl, vp_iI, Classical.not_not, iLn1000000005, iLn1000000004, iLn1000000003, iLn1000000002, iLn1000000001, iLn99999, iLn9999, iLn2, iLn1, iL0, iL1, iL2, iL3, iL4, iL5, iL6, iL7, iL8, iL9, iL10, iL15, iL16, iL31, iL32, iL40, iL42, iL45, iL48, iL57, iL59, iL63, iL64, iL65, iL120, iL126, iL455, iL520, iL9999, iL99999, iN2, iN8, iN64, iN65, iN120, iN130, iN520]
  exact key n 0 (by omega)
theorem s_rd_greatest (hG : qGood Ls xs P) (hk : qRd k) (hR : cRd M k n f) (hQ : Q (some (.int (iI (grz f n)))) M) : P 21 0 [(0, .ref k)] [] M Q := by
  have hn := hR.2.1
  refine v_rd_greatest_0 hG hk ?_
  have key : ∀ (d j : Nat), j + d = n → P 21 4 [(0, .ref k), (1, .int (iI (grz f j))), (2, .int (iI j))] [] M Q := by
    intro d
    induction d with
    | zero =>
      intro j hj
      have e : j = n := by omega
      subst e
      refine v_rd_greatest_4 hG hk ?_
      simp (disch := omega) only [iI_add, iI_sub, iI_mul, iI_neg, iI_lt, iI_le, iI_eq, iI_cl, vp_iI, Classical.not_not, iLn1000000005, iLn1000000004, iLn1000000003, iLn1000000002, iLn1000000001, iLn99999, iLn9999, iLn2, iLn1, iL0, iL1, iL2, iL3, iL4, iL5, iL6, iL7, iL8, iL9, iL10, iL15, iL16, iL31, iL32, iL40, iL42, iL45, iL48, iL57, iL59, iL63, iL64, iL65, iL120, iL126, iL455, iL520, iL9999, iL99999, iN2, iN8, iN64, iN65, iN120, iN130, iN520, hR.1]
      exact ⟨fun c => hQ, fun c => by omega⟩
    | succ d ih =>
      intro j hj
      have hb := grz_ok hR.ok j (by omega)
      have hv := hR.ok j (by omega)
      unfold okv at hb hv
      refine v_rd_greatest_4 hG hk ?_
      simp (disch := omega) only [iI_add, iI_sub, iI_mul, iI_neg, iI_lt, iI_le, iI_eq, iI_cl, vp_iI, Classical.not_not, iLn1000000005, iLn1000000004, iLn1000000003, iLn1000000002, iLn1000000001, iLn99999, iLn9999, iLn2, iLn1, iL0, iL1, iL2, iL3, iL4, iL5, iL6, iL7, iL8, iL9, iL10, iL15, iL16, iL31, iL32, iL40, iL42, iL45, iL48, iL57, iL59, iL63, iL64, iL65, iL120, iL126, iL455, iL520, iL9999, iL99999, iN2, iN8, iN64, iN65, iN120, iN130, iN520, hR.1]
      refine ⟨fun c => by omega, fun c => ?_⟩
      refine s_rd_at hG hk hR (by omega) (by omega) ?_
      rw [vl_nat (by omega)]
      refine v_rd_greatest_12 hG hk ?_
      refine s_max hG (by omega) (by omega) (by omega) (by omega) ?_
      refine v_rd_greatest_13 hG hk ?_
      simp (disch := omega) only [iI_add, iI_sub, iI_mul, iI_neg, iI_lt, iI_le, iI_eq, iI_cl, vp_iI, Classical.not_not, iLn1000000005, iLn1000000004, iLn1000000003, iLn1000000002, iLn1000000001, iLn99999, iLn9999, iLn2, iLn1, iL0, iL1, iL2, iL3, iL4, iL5, iL6, iL7, iL8, iL9, iL10, iL15, iL16, iL31, iL32, iL40, iL42, iL45, iL48, iL57, iL59, iL63, iL64, iL65, iL120, iL126, iL455, iL520, iL9999, iL99999, iN2, iN8, iN64, iN65, iN120, iN130, iN520]
      exact ih (j + 1) (by omega)
  simp (disch := omega) only [iI_add, iI_sub, iI_mul, iI_neg, iI_lt, iI_le, iI_eq, iI_cl, vp_iI, Classical.not_not, iLn1000000005, iLn1000000004, iLn1000000003, iLn1000000002, iLn1000000001, iLn99999, iLn9999, iLn2, iLn1, iL0, iL1, iL2, iL3, iL4, iL5, iL6, iL7, iL8, iL9, iL10, iL15, iL16, iL31, iL32, iL40, iL42, iL45, iL48, iL57, iL59, iL63, iL64, iL65, iL120, iL126, iL455, iL520, iL9999, iL99999, iN2, iN8, iN64, iN65, iN120, iN130, iN520]
  exact key n 0 (by omega)
theorem s_rd_startsGap (hG : qGood Ls xs P) {j : Nat} (hk : qRd k) (hR : cRd M k n f) (hj : j < n) (hQ : Q (some (.int (iI (bZ (stg f j = true))))) M) : P 24 0 [(0, .ref k), (1, .int (iI j))] [] M Q := by
  have hn := hR.2.1
  refine v_rd_startsGap_0 hG hk ?_
  refine s_rd_has hG hk hR (by omega) (by omega) ?_
  rw [vl_nat hj]
  refine v_rd_startsGap_3 hG hk ?_
  have hz := bZ_in (f j ≠ (-1000000001))
  simp (disch := omega) only [iI_add, iI_sub, iI_mul, iI_neg, iI_lt, iI_le, iI_eq, iI_cl, vp_iI, Classical.not_not, iLn1000000005, iLn1000000004, iLn1000000003, iLn1000000002, iLn1000000001, iLn99999, iLn9999, iLn2, iLn1, iL0, iL1, iL2, iL3, iL4, iL5, iL6, iL7, iL8, iL9, iL10, iL15, iL16, iL31, iL32, iL40, iL42, iL45, iL48, iL57, iL59, iL63, iL64, iL65, iL120, iL126, iL455, iL520, iL9999, iL99999, iN2, iN8, iN64, iN65, iN120, iN130, iN520, bZ_0]
  refine ⟨fun c => q_b hQ (bZ_f ?_), fun c => ⟨fun c2 => q_b hQ (bZ_t ?_), fun c2 => ?_⟩⟩
  · simp [stg, c]
  · have e : j = 0 := by omega
    subst e
    simp [stg, c]
  · refine s_rd_has hG hk hR (by omega) (by omega) ?_
    have e : (j : Int) - 1 = ((j - 1 : Nat) : Int) := by omega
    rw [e, vl_nat (by omega)]
    refine v_rd_startsGap_11 hG ?_
    have hz2 := bZ_in (f (j - 1) ≠ (-1000000001))
    simp (disch := omega) only [iI_add, iI_sub, iI_mul, iI_neg, iI_lt, iI_le, iI_eq, iI_cl, vp_iI, Classical.not_not, iLn1000000005, iLn1000000004, iLn1000000003, iLn1000000002, iLn1000000001, iLn99999, iLn9999, iLn2, iLn1, iL0, iL1, iL2, iL3, iL4, iL5, iL6, iL7, iL8, iL9, iL10, iL15, iL16, iL31, iL32, iL40, iL42, iL45, iL48, iL57, iL59, iL63, iL64, iL65, iL120, iL126, iL455, iL520, iL9999, iL99999, iN2, iN8, iN64, iN65, iN120, iN130, iN520, bZ_0]
    refine ⟨fun c3 => q_b hQ (bZ_f ?_), fun c3 => q_b hQ (bZ_t ?_)⟩
    · have : j ≠ 0 := by omega
      simp [stg, c, c3, this]
    · simp [stg, c, c3]
theorem s_rd_gapEnd (hG : qGood Ls xs P) {j : Nat} (hk : qRd k) (hR : cRd M k n f) (hj : j ≤ n) (hQ : Q (some (.int (iI (gpe f (n - j) j)))) M) : P 25 0 [(0, .ref k), (1, .int (iI j))] [] M Q := by
  have hn := hR.2.1
  refine v_rd_gapEnd_0 hG hk ?_
  have key : ∀ (d i : Nat), i + d = n → gpe f d i = gpe f (n - j) j → P 25 2 [(0, .ref k), (2, .int (iI i))] [] M Q := by
    intro d
    induction d with
    | zero =>
      intro i hi he
      have e : i = n := by omega
      subst e
      refine v_rd_gapEnd_2 hG hk ?_
      simp (disch := omega) only [iI_add, iI_sub, iI_mul, iI_neg, iI_lt, iI_le, iI_eq, iI_cl, vp_iI, Classical.not_not, iLn1000000005, iLn1000000004, iLn1000000003, iLn1000000002, iLn1000000001, iLn99999, iLn9999, iLn2, iLn1, iL0, iL1, iL2, iL3, iL4, iL5, iL6, iL7, iL8, iL9, iL10, iL15, iL16, iL31, iL32, iL40, iL42, iL45, iL48, iL57, iL59, iL63, iL64, iL65, iL120, iL126, iL455, iL520, iL9999, iL99999, iN2, iN8, iN64, iN65, iN120, iN130, iN520, hR.1]
      refine ⟨fun c => ?_, fun c => by omega⟩
      rw [← he] at hQ
      exact hQ
    | succ d ih =>
      intro i hi he
      refine v_rd_gapEnd_2 hG hk ?_
      simp (disch := omega) only [iI_add, iI_sub, iI_mul, iI_neg, iI_lt, iI_le, iI_eq, iI_cl, vp_iI, Classical.not_not, iLn1000000005, iLn1000000004, iLn1000000003, iLn1000000002, iLn1000000001, iLn99999, iLn9999, iLn2, iLn1, iL0, iL1, iL2, iL3, iL4, iL5, iL6, iL7, iL8, iL9, iL10, iL15, iL16, iL31, iL32, iL40, iL42, iL45, iL48, iL57, iL59, iL63, iL64, iL65, iL120, iL126, iL455, iL520, iL9999, iL99999, iN2, iN8, iN64, iN65, iN120, iN130, iN520, hR.1]
      refine ⟨fun c => by omega, fun c => ?_⟩
      refine s_rd_has hG hk hR (by omega) (by omega) ?_
      rw [vl_nat (by omega)]
      refine v_rd_gapEnd_9 hG hk ?_
      have hz := bZ_in (f i ≠ (-1000000001))
      simp (disch := omega) only [iI_add, iI_sub, iI_mul, iI_neg, iI_lt, iI_le, iI_eq, iI_cl, vp_iI, Classical.not_not, iLn1000000005, iLn1000000004, iLn1000000003, iLn1000000002, iLn1000000001, iLn99999, iLn9999, iLn2, iLn1, iL0, iL1, iL2, iL3, iL4, iL5, iL6, iL7, iL8, iL9, iL10, iL15, iL16, iL31, iL32, iL40, iL42, iL45, iL48, iL57, iL59, iL63, iL64, iL65, iL120, iL126, iL455, iL520, iL9999, iL99999, iN2, iN8, iN64, iN65, iN120, iN130, iN520, bZ_0]
      rw [gpe_s] at he
      refine ⟨fun c => ?_, fun c => ?_⟩
      · rw [if_neg c] at he
        rw [← he] at hQ
        exact hQ
      · rw [if_pos c] at he
        exact ih (i + 1) (by omega) he
  exact key (n - j) j (by omega) rfl
theorem s_rd_gaps (hG : qGood Ls xs P) (hk : qRd k) (hR : cRd M k n f) (hQ : Q (some (.int (iI (cz (stg f) n)))) M) : P 22 0 [(0, .ref k)] [] M Q := by
  have hn := hR.2.1
  refine v_rd_gaps_0 hG hk ?_
  have key : ∀ (d j : Nat), j + d = n → P 22 4 [(0, .ref k), (1, .int (iI (cz (stg f) j))), (2, .int (iI j))] [] M Q := by
    intro d
    induction d with
    | zero =>
      intro j hj
      have e : j = n := by omega
      subst e
      refine v_rd_gaps_4 hG hk ?_
      simp (disch := omega) only [iI_add, iI_sub, iI_mul, iI_neg, iI_lt, iI_le, iI_eq, iI_cl, vp_iI, Classical.not_not, iLn1000000005, iLn1000000004, iLn1000000003, iLn1000000002, iLn1000000001, iLn99999, iLn9999, iLn2, iLn1, iL0, iL1, iL2, iL3, iL4, iL5, iL6, iL7, iL8, iL9, iL10, iL15, iL16, iL31, iL32, iL40, iL42, iL45, iL48, iL57, iL59, iL63, iL64, iL65, iL120, iL126, iL455, iL520, iL9999, iL99999, iN2, iN8, iN64, iN65, iN120, iN130, iN520, hR.1]
      exact ⟨fun c => hQ, fun c => by omega⟩
    | succ d ih =>
      intro j hj
      have hb := cz_in (stg f) j
      refine v_rd_gaps_4 hG hk ?_
      simp (disch := omega) only [iI_add, iI_sub, iI_mul, iI_neg, iI_lt, iI_le, iI_eq, iI_cl, vp_iI, Classical.not_not, iLn1000000005, iLn1000000004, iLn1000000003, iLn1000000002, iLn1000000001, iLn99999, iLn9999, iLn2, iLn1, iL0, iL1, iL2, iL3, iL4, iL5, iL6, iL7, iL8, iL9, iL10, iL15, iL16, iL31, iL32, iL40, iL42, iL45, iL48, iL57, iL59, iL63, iL64, iL65, iL120, iL126, iL455, iL520, iL9999, iL99999, iN2, iN8, iN64, iN65, iN120, iN130, iN520, hR.1]
      refine ⟨fun c => by omega, fun c => ?_⟩
      refine s_rd_startsGap hG hk hR (by omega) ?_
      refine v_rd_gaps_11 hG hk ?_
      have hz := bZ_in (stg f j = true)
      simp (disch := omega) only [iI_add, iI_sub, iI_mul, iI_neg, iI_lt, iI_le, iI_eq, iI_cl, vp_iI, Classical.not_not, iLn1000000005, iLn1000000004, iLn1000000003, iLn1000000002, iLn1000000001, iLn99999, iLn9999, iLn2, iLn1, iL0, iL1, iL2, iL3, iL4, iL5, iL6, iL7, iL8, iL9, iL10, iL15, iL16, iL31, iL32, iL40, iL42, iL45, iL48, iL57, iL59, iL63, iL64, iL65, iL120, iL126, iL455, iL520, iL9999, iL99999, iN2, iN8, iN64, iN65, iN120, iN130, iN520, bZ_0]
      have hI := ih (j + 1) (by omega)
      unfold cz at hI
      refine ⟨fun c => ?_, fun c => ?_⟩
      · rw [if_neg c] at hI
        rw [Int.add_zero] at hI
        exact hI
      · rw [if_pos c] at hI
        exact hI
  simp (disch := omega) only [iI_add, iI_sub, iI_mul, iI_neg, iI_lt, iI_le, iI_eq, iI_cl, vp_iI, Classical.not_not, iLn1000000005, iLn1000000004, iLn1000000003, iLn1000000002, iLn1000000001, iLn99999, iLn9999, iLn2, iLn1, iL0, iL1, iL2, iL3, iL4, iL5, iL6, iL7, iL8, iL9, iL10, iL15, iL16, iL31, iL32, iL40, iL42, iL45, iL48, iL57, iL59, iL63, iL64, iL65, iL120, iL126, iL455, iL520, iL9999, iL99999, iN2, iN8, iN64, iN65, iN120, iN130, iN520]
  exact key n 0 (by omega)
theorem s_rd_longestGap (hG : qGood Ls xs P) (hk : qRd k) (hR : cRd M k n f) (hQ : Q (some (.int (iI (lgz n f n)))) M) : P 23 0 [(0, .ref k)] [] M Q := by
  have hn := hR.2.1
  refine v_rd_longestGap_0 hG hk ?_
  have key : ∀ (d j : Nat), j + d = n → P 23 4 [(0, .ref k), (1, .int (iI (lgz n f j))), (2, .int (iI j))] [] M Q := by
    intro d
    induction d with
    | zero =>
      intro j hj
      have e : j = n := by omega
      subst e
      refine v_rd_longestGap_4 hG hk ?_
      simp (disch := omega) only [iI_add, iI_sub, iI_mul, iI_neg, iI_lt, iI_le, iI_eq, iI_cl, vp_iI, Classical.not_not, iLn1000000005, iLn1000000004, iLn1000000003, iLn1000000002, iLn1000000001, iLn99999, iLn9999, iLn2, iLn1, iL0, iL1, iL2, iL3, iL4, iL5, iL6, iL7, iL8, iL9, iL10, iL15, iL16, iL31, iL32, iL40, iL42, iL45, iL48, iL57, iL59, iL63, iL64, iL65, iL120, iL126, iL455, iL520, iL9999, iL99999, iN2, iN8, iN64, iN65, iN120, iN130, iN520, hR.1]
      exact ⟨fun c => hQ, fun c => by omega⟩
    | succ d ih =>
      intro j hj
      have hb := lgz_in (n := n) (f := f) j (by omega)
      have hg := gpe_in f (n - j) j
      refine v_rd_longestGap_4 hG hk ?_
      simp (disch := omega) only [iI_add, iI_sub, iI_mul, iI_neg, iI_lt, iI_le, iI_eq, iI_cl, vp_iI, Classical.not_not, iLn1000000005, iLn1000000004, iLn1000000003, iLn1000000002, iLn1000000001, iLn99999, iLn9999, iLn2, iLn1, iL0, iL1, iL2, iL3, iL4, iL5, iL6, iL7, iL8, iL9, iL10, iL15, iL16, iL31, iL32, iL40, iL42, iL45, iL48, iL57, iL59, iL63, iL64, iL65, iL120, iL126, iL455, iL520, iL9999, iL99999, iN2, iN8, iN64, iN65, iN120, iN130, iN520, hR.1]
      refine ⟨fun c => by omega, fun c => ?_⟩
      refine s_rd_startsGap hG hk hR (by omega) ?_
      refine v_rd_longestGap_11 hG hk ?_
      have hz := bZ_in (stg f j = true)
      simp (disch := omega) only [iI_add, iI_sub, iI_mul, iI_neg, iI_lt, iI_le, iI_eq, iI_cl, vp_iI, Classical.not_not, iLn1000000005, iLn1000000004, iLn1000000003, iLn1000000002, iLn1000000001, iLn99999, iLn9999, iLn2, iLn1, iL0, iL1, iL2, iL3, iL4, iL5, iL6, iL7, iL8, iL9, iL10, iL15, iL16, iL31, iL32, iL40, iL42, iL45, iL48, iL57, iL59, iL63, iL64, iL65, iL120, iL126, iL455, iL520, iL9999, iL99999, iN2, iN8, iN64, iN65, iN120, iN130, iN520, bZ_0]
      have hI := ih (j + 1) (by omega)
      unfold lgz at hI
      refine ⟨fun c => ?_, fun c => ?_⟩
      · rw [if_neg c] at hI
        exact hI
      · rw [if_pos c] at hI
        refine s_rd_gapEnd hG hk hR (by omega) ?_
        refine v_rd_longestGap_16 hG hk ?_
        simp (disch := omega) only [iI_add, iI_sub, iI_mul, iI_neg, iI_lt, iI_le, iI_eq, iI_cl, vp_iI, Classical.not_not, iLn1000000005, iLn1000000004, iLn1000000003, iLn1000000002, iLn1000000001, iLn99999, iLn9999, iLn2, iLn1, iL0, iL1, iL2, iL3, iL4, iL5, iL6, iL7, iL8, iL9, iL10, iL15, iL16, iL31, iL32, iL40, iL42, iL45, iL48, iL57, iL59, iL63, iL64, iL65, iL120, iL126, iL455, iL520, iL9999, iL99999, iN2, iN8, iN64, iN65, iN120, iN130, iN520]
        refine s_max hG (by omega) (by omega) (by omega) (by omega) ?_
        refine v_rd_longestGap_19 hG hk ?_
        simp (disch := omega) only [iI_add, iI_sub, iI_mul, iI_neg, iI_lt, iI_le, iI_eq, iI_cl, vp_iI, Classical.not_not, iLn1000000005, iLn1000000004, iLn1000000003, iLn1000000002, iLn1000000001, iLn99999, iLn9999, iLn2, iLn1, iL0, iL1, iL2, iL3, iL4, iL5, iL6, iL7, iL8, iL9, iL10, iL15, iL16, iL31, iL32, iL40, iL42, iL45, iL48, iL57, iL59, iL63, iL64, iL65, iL120, iL126, iL455, iL520, iL9999, iL99999, iN2, iN8, iN64, iN65, iN120, iN130, iN520]
        exact hI
  simp (disch := omega) only [iI_add, iI_sub, iI_mul, iI_neg, iI_lt, iI_le, iI_eq, iI_cl, vp_iI, Classical.not_not, iLn1000000005, iLn1000000004, iLn1000000003, iLn1000000002, iLn1000000001, iLn99999, iLn9999, iLn2, iLn1, iL0, iL1, iL2, iL3, iL4, iL5, iL6, iL7, iL8, iL9, iL10, iL15, iL16, iL31, iL32, iL40, iL42, iL45, iL48, iL57, iL59, iL63, iL64, iL65, iL120, iL126, iL455, iL520, iL9999, iL99999, iN2, iN8, iN64, iN65, iN120, iN130, iN520]
  exact key n 0 (by omega)
theorem s_rd_secondAt (hG : qGood Ls xs P) {m i : Int} (hk : qRd k) (hR : cRd M k n f) (h1 : 0 ≤ m) (h2 : m ≤ 100) (h3 : 0 ≤ i) (h4 : i ≤ 200) (hQ : Q (some (.int (iI (sec n f m i)))) M) : P 30 0 [(0, .ref k), (1, .int (iI m)), (2, .int (iI i))] [] M Q := by
  have o1 := vl_ok hR.ok i
  have o2 := vl_ok hR.ok (i + m)
  have o3 := vl_ok hR.ok (i + 2 * m)
  unfold okv at o1 o2 o3
  refine v_rd_secondAt_0 hG hk ?_
  refine s_rd_at hG hk hR (by omega) (by omega) ?_
  refine v_rd_secondAt_3 hG hk ?_
  simp (disch := omega) only [iI_add, iI_sub, iI_mul, iI_neg, iI_lt, iI_le, iI_eq, iI_cl, vp_iI, Classical.not_not, iLn1000000005, iLn1000000004, iLn1000000003, iLn1000000002, iLn1000000001, iLn99999, iLn9999, iLn2, iLn1, iL0, iL1, iL2, iL3, iL4, iL5, iL6, iL7, iL8, iL9, iL10, iL15, iL16, iL31, iL32, iL40, iL42, iL45, iL48, iL57, iL59, iL63, iL64, iL65, iL120, iL126, iL455, iL520, iL9999, iL99999, iN2, iN8, iN64, iN65, iN120, iN130, iN520]
  refine s_rd_at hG hk hR (by omega) (by omega) ?_
  refine v_rd_secondAt_9 hG hk ?_
  simp (disch := omega) only [iI_add, iI_sub, iI_mul, iI_neg, iI_lt, iI_le, iI_eq, iI_cl, vp_iI, Classical.not_not, iLn1000000005, iLn1000000004, iLn1000000003, iLn1000000002, iLn1000000001, iLn99999, iLn9999, iLn2, iLn1, iL0, iL1, iL2, iL3, iL4, iL5, iL6, iL7, iL8, iL9, iL10, iL15, iL16, iL31, iL32, iL40, iL42, iL45, iL48, iL57, iL59, iL63, iL64, iL65, iL120, iL126, iL455, iL520, iL9999, iL99999, iN2, iN8, iN64, iN65, iN120, iN130, iN520]
  refine s_rd_at hG hk hR (by omega) (by omega) ?_
  refine v_rd_secondAt_17 hG ?_
  simp (disch := omega) only [iI_add, iI_sub, iI_mul, iI_neg, iI_lt, iI_le, iI_eq, iI_cl, vp_iI, Classical.not_not, iLn1000000005, iLn1000000004, iLn1000000003, iLn1000000002, iLn1000000001, iLn99999, iLn9999, iLn2, iLn1, iL0, iL1, iL2, iL3, iL4, iL5, iL6, iL7, iL8, iL9, iL10, iL15, iL16, iL31, iL32, iL40, iL42, iL45, iL48, iL57, iL59, iL63, iL64, iL65, iL120, iL126, iL455, iL520, iL9999, iL99999, iN2, iN8, iN64, iN65, iN120, iN130, iN520]
  unfold sec at hQ
  refine ⟨fun c => ?_, fun c => ⟨fun c2 => ?_, fun c2 => ⟨fun c3 => ?_, fun c3 => ?_⟩⟩⟩
  · rw [if_pos (Or.inl c)] at hQ; exact hQ
  · rw [if_pos (Or.inr (Or.inl c2))] at hQ; exact hQ
  · rw [if_neg (by omega)] at hQ; exact hQ
  · rw [if_pos (Or.inr (Or.inr c3))] at hQ; exact hQ
theorem s_rd_thirdAt (hG : qGood Ls xs P) {m i : Int} (hk : qRd k) (hR : cRd M k n f) (h1 : 0 ≤ m) (h2 : m ≤ 100) (h3 : 0 ≤ i) (h4 : i ≤ 200) (hQ : Q (some (.int (iI (thr n f m i)))) M) : P 31 0 [(0, .ref k), (1, .int (iI m)), (2, .int (iI i))] [] M Q := by
  have o1 := vl_ok hR.ok i
  have o2 := vl_ok hR.ok (i + m)
  have o3 := vl_ok hR.ok (i + 2 * m)
  have o4 := vl_ok hR.ok (i + 3 * m)
  unfold okv at o1 o2 o3 o4
  refine v_rd_thirdAt_0 hG hk ?_
  refine s_rd_at hG hk hR (by omega) (by omega) ?_
  refine v_rd_thirdAt_3 hG hk ?_
  simp (disch := omega) only [iI_add, iI_sub, iI_mul, iI_neg, iI_lt, iI_le, iI_eq, iI_cl, vp_iI, Classical.not_not, iLn1000000005, iLn1000000004, iLn1000000003, iLn1000000002, iLn1000000001, iLn99999, iLn9999, iLn2, iLn1, iL0, iL1, iL2, iL3, iL4, iL5, iL6, iL7, iL8, iL9, iL10, iL15, iL16, iL31, iL32, iL40, iL42, iL45, iL48, iL57, iL59, iL63, iL64, iL65, iL120, iL126, iL455, iL520, iL9999, iL99999, iN2, iN8, iN64, iN65, iN120, iN130, iN520]
  refine s_rd_at hG hk hR (by omega) (by omega) ?_
  refine v_rd_thirdAt_9 hG hk ?_
  simp (disch := omega) only [iI_add, iI_sub, iI_mul, iI_neg, iI_lt, iI_le, iI_eq, iI_cl, vp_iI, Classical.not_not, iLn1000000005, iLn1000000004, iLn1000000003, iLn1000000002, iLn1000000001, iLn99999, iLn9999, iLn2, iLn1, iL0, iL1, iL2, iL3, iL4, iL5, iL6, iL7, iL8, iL9, iL10, iL15, iL16, iL31, iL32, iL40, iL42, iL45, iL48, iL57, iL59, iL63, iL64, iL65, iL120, iL126, iL455, iL520, iL9999, iL99999, iN2, iN8, iN64, iN65, iN120, iN130, iN520]
  refine s_rd_at hG hk hR (by omega) (by omega) ?_
  refine v_rd_thirdAt_17 hG hk ?_
  simp (disch := omega) only [iI_add, iI_sub, iI_mul, iI_neg, iI_lt, iI_le, iI_eq, iI_cl, vp_iI, Classical.not_not, iLn1000000005, iLn1000000004, iLn1000000003, iLn1000000002, iLn1000000001, iLn99999, iLn9999, iLn2, iLn1, iL0, iL1, iL2, iL3, iL4, iL5, iL6, iL7, iL8, iL9, iL10, iL15, iL16, iL31, iL32, iL40, iL42, iL45, iL48, iL57, iL59, iL63, iL64, iL65, iL120, iL126, iL455, iL520, iL9999, iL99999, iN2, iN8, iN64, iN65, iN120, iN130, iN520]
  refine s_rd_at hG hk hR (by omega) (by omega) ?_
  refine v_rd_thirdAt_25 hG ?_
  simp (disch := omega) only [iI_add, iI_sub, iI_mul, iI_neg, iI_lt, iI_le, iI_eq, iI_cl, vp_iI, Classical.not_not, iLn1000000005, iLn1000000004, iLn1000000003, iLn1000000002, iLn1000000001, iLn99999, iLn9999, iLn2, iLn1, iL0, iL1, iL2, iL3, iL4, iL5, iL6, iL7, iL8, iL9, iL10, iL15, iL16, iL31, iL32, iL40, iL42, iL45, iL48, iL57, iL59, iL63, iL64, iL65, iL120, iL126, iL455, iL520, iL9999, iL99999, iN2, iN8, iN64, iN65, iN120, iN130, iN520]
  unfold thr at hQ
  refine ⟨fun c => ?_, fun c => ⟨fun c2 => ?_, fun c2 => ⟨fun c3 => ?_, fun c3 => ⟨fun c4 => ?_, fun c4 => ?_⟩⟩⟩⟩
  · rw [if_pos (Or.inl c)] at hQ; exact hQ
  · rw [if_pos (Or.inr (Or.inl c2))] at hQ; exact hQ
  · rw [if_pos (Or.inr (Or.inr (Or.inl c3)))] at hQ; exact hQ
  · rw [if_neg (by omega)] at hQ; exact hQ
  · rw [if_pos (Or.inr (Or.inr (Or.inr c4)))] at hQ; exact hQ
theorem s_rd_meanAt (hG : qGood Ls xs P) {m : Nat} {i : Int} (hk : qRd k) (hR : cRd M k n f) (h2 : m ≤ 31) (h3 : 0 ≤ i) (h4 : i ≤ 64) (hQ : Q (some (.int (iI (men n f m i)))) M) : P 32 0 [(0, .ref k), (1, .int (iI m)), (2, .int (iI i))] [] M Q := by
  refine v_rd_meanAt_0 hG hk ?_
  have okM : ∀ (d j : Nat), okS (fun j => sec n f m (i + j)) (j + d) = true → okS (fun j => sec n f m (i + j)) j = true := by
    intro d
    induction d with
    | zero => intro j h; exact h
    | succ d ih =>
      intro j h
      refine ih j ?_
      rw [← Nat.add_assoc] at h
      unfold okS at h
      simp only [Bool.and_eq_true] at h
      exact h.1
  have key : ∀ (d j : Nat), j + d = m → okS (fun j => sec n f m (i + j)) j = true → P 32 4 [(0, .ref k), (1, .int (iI m)), (2, .int (iI i)), (3, .int (iI (smS (fun j => sec n f m (i + j)) j))), (4, .int (iI j))] [] M Q := by
    intro d
    induction d with
    | zero =>
      intro j hj ho
      have e : j = m := by omega
      subst e
      refine v_rd_meanAt_4 hG hk ?_
      simp (disch := omega) only [iI_add, iI_sub, iI_mul, iI_neg, iI_lt, iI_le, iI_eq, iI_cl, vp_iI, Classical.not_not, iLn1000000005, iLn1000000004, iLn1000000003, iLn1000000002, iLn1000000001, iLn99999, iLn9999, iLn2, iLn1, iL0, iL1, iL2, iL3, iL4, iL5, iL6, iL7, iL8, iL9, iL10, iL15, iL16, iL31, iL32, iL40, iL42, iL45, iL48, iL57, iL59, iL63, iL64, iL65, iL120, iL126, iL455, iL520, iL9999, iL99999, iN2, iN8, iN64, iN65, iN120, iN130, iN520]
      refine ⟨fun c => ?_, fun c => by omega⟩
      unfold men at hQ
      rw [if_pos ho] at hQ
      exact hQ
    | succ d ih =>
      intro j hj ho
      have o1 := sec_ok hR.ok m (i + j)
      have o2 := smS_in (B := 399996) (fun j => sec_ok hR.ok m (i + j)) j ho
      refine v_rd_meanAt_4 hG hk ?_
      simp (disch := omega) only [iI_add, iI_sub, iI_mul, iI_neg, iI_lt, iI_le, iI_eq, iI_cl, vp_iI, Classical.not_not, iLn1000000005, iLn1000000004, iLn1000000003, iLn1000000002, iLn1000000001, iLn99999, iLn9999, iLn2, iLn1, iL0, iL1, iL2, iL3, iL4, iL5, iL6, iL7, iL8, iL9, iL10, iL15, iL16, iL31, iL32, iL40, iL42, iL45, iL48, iL57, iL59, iL63, iL64, iL65, iL120, iL126, iL455, iL520, iL9999, iL99999, iN2, iN8, iN64, iN65, iN120, iN130, iN520]
      refine ⟨fun c => by omega, fun c => ?_⟩
      refine s_rd_secondAt hG hk hR (by omega) (by omega) (by omega) (by omega) ?_
      refine v_rd_meanAt_13 hG hk ?_
      simp (disch := omega) only [iI_add, iI_sub, iI_mul, iI_neg, iI_lt, iI_le, iI_eq, iI_cl, vp_iI, Classical.not_not, iLn1000000005, iLn1000000004, iLn1000000003, iLn1000000002, iLn1000000001, iLn99999, iLn9999, iLn2, iLn1, iL0, iL1, iL2, iL3, iL4, iL5, iL6, iL7, iL8, iL9, iL10, iL15, iL16, iL31, iL32, iL40, iL42, iL45, iL48, iL57, iL59, iL63, iL64, iL65, iL120, iL126, iL455, iL520, iL9999, iL99999, iN2, iN8, iN64, iN65, iN120, iN130, iN520]
      refine ⟨fun c => ?_, fun c => ?_⟩
      · refine ih (j + 1) (by omega) ?_
        unfold okS
        rw [ho]
        simpa using c
      · have hno : ¬ okS (fun j => sec n f m (i + j)) m = true := by
          intro z
          have z2 := okM d (j + 1) (by rw [show j + 1 + d = m by omega]; exact z)
          unfold okS at z2
          simp only [Bool.and_eq_true, decide_eq_true_eq] at z2
          exact z2.2 c
        unfold men at hQ
        rw [if_neg hno] at hQ
        exact hQ
  simp (disch := omega) only [iI_add, iI_sub, iI_mul, iI_neg, iI_lt, iI_le, iI_eq, iI_cl, vp_iI, Classical.not_not, iLn1000000005, iLn1000000004, iLn1000000003, iLn1000000002, iLn1000000001, iLn99999, iLn9999, iLn2, iLn1, iL0, iL1, iL2, iL3, iL4, iL5, iL6, iL7, iL8, iL9, iL10, iL15, iL16, iL31, iL32, iL40, iL42, iL45, iL48, iL57, iL59, iL63, iL64, iL65, iL120, iL126, iL455, iL520, iL9999, iL99999, iN2, iN8, iN64, iN65, iN120, iN130, iN520]
  exact key m 0 (by omega) rfl
theorem s_rd_differenceAt (hG : qGood Ls xs P) {o : Int} {m : Nat} {i : Int} (hk : qRd k) (hR : cRd M k n f) (h1 : 2 ≤ o) (h1' : o ≤ 4) (h2 : m ≤ 31) (h3 : -2147483648 ≤ i) (h4 : i < 2147483648) (hQ : Q (some (.int (iI (dif n f o m i)))) M) : P 29 0 [(0, .ref k), (1, .int (iI o)), (2, .int (iI m)), (3, .int (iI i))] [] M Q := by
  have hn := hR.2.1
  refine v_rd_differenceAt_0 hG hk ?_
  refine s_rd_reaches hG hk hR h3 h4 ?_
  refine v_rd_differenceAt_3 hG hk ?_
  have hz := bZ_in (0 ≤ i ∧ i < n)
  simp (disch := omega) only [iI_add, iI_sub, iI_mul, iI_neg, iI_lt, iI_le, iI_eq, iI_cl, vp_iI, Classical.not_not, iLn1000000005, iLn1000000004, iLn1000000003, iLn1000000002, iLn1000000001, iLn99999, iLn9999, iLn2, iLn1, iL0, iL1, iL2, iL3, iL4, iL5, iL6, iL7, iL8, iL9, iL10, iL15, iL16, iL31, iL32, iL40, iL42, iL45, iL48, iL57, iL59, iL63, iL64, iL65, iL120, iL126, iL455, iL520, iL9999, iL99999, iN2, iN8, iN64, iN65, iN120, iN130, iN520, bZ_0]
  unfold dif at hQ
  refine ⟨fun c => ?_, fun c => ?_⟩
  · rw [if_pos c] at hQ
    refine ⟨fun c2 => ⟨fun c3 => ?_, fun c3 => ?_⟩, fun c2 => ?_⟩
    · rw [if_neg c2, if_neg c3] at hQ
      refine s_rd_meanAt hG hk hR h2 (by omega) (by omega) ?_
      exact v_rd_differenceAt_26 hG hQ
    · rw [if_neg c2, if_pos c3] at hQ
      refine s_rd_thirdAt hG hk hR (by omega) (by omega) (by omega) (by omega) ?_
      exact v_rd_differenceAt_21 hG (v_rd_differenceAt_26 hG hQ)
    · rw [if_pos c2] at hQ
      refine s_rd_secondAt hG hk hR (by omega) (by omega) (by omega) (by omega) ?_
      exact v_rd_differenceAt_13 hG hQ
  · rw [if_neg c] at hQ
    exact hQ
theorem s_rd_countOf (hG : qGood Ls xs P) {o : Int} {m : Nat} (hk : qRd k) (hR : cRd M k n f) (h1 : 2 ≤ o) (h1' : o ≤ 4) (h2 : m ≤ 31) (hQ : Q (some (.int (iI (cz (fun j => decide (dif n f o m j ≠ (-1000000001))) n)))) M) : P 28 0 [(0, .ref k), (1, .int (iI o)), (2, .int (iI m))] [] M Q := by
  have hn := hR.2.1
  refine v_rd_countOf_0 hG hk ?_
  have key : ∀ (d j : Nat), j + d = n → P 28 4 [(0, .ref k), (1, .int (iI o)), (2, .int (iI m)), (3, .int (iI (cz (fun j => decide (dif n f o m j ≠ (-1000000001))) j))), (4, .int (iI j))] [] M Q := by
    intro d
    induction d with
    | zero =>
      intro j hj
      have e : j = n := by omega
      subst e
      refine v_rd_countOf_4 hG hk ?_
      simp (disch := omega) only [iI_add, iI_sub, iI_mul, iI_neg, iI_lt, iI_le, iI_eq, iI_cl, vp_iI, Classical.not_not, iLn1000000005, iLn1000000004, iLn1000000003, iLn1000000002, iLn1000000001, iLn99999, iLn9999, iLn2, iLn1, iL0, iL1, iL2, iL3, iL4, iL5, iL6, iL7, iL8, iL9, iL10, iL15, iL16, iL31, iL32, iL40, iL42, iL45, iL48, iL57, iL59, iL63, iL64, iL65, iL120, iL126, iL455, iL520, iL9999, iL99999, iN2, iN8, iN64, iN65, iN120, iN130, iN520, hR.1]
      exact ⟨fun c => hQ, fun c => by omega⟩
    | succ d ih =>
      intro j hj
      have hb := cz_in (fun j => decide (dif n f o m j ≠ (-1000000001))) j
      have hd := dif_ok hR.ok h2 o j
      refine v_rd_countOf_4 hG hk ?_
      simp (disch := omega) only [iI_add, iI_sub, iI_mul, iI_neg, iI_lt, iI_le, iI_eq, iI_cl, vp_iI, Classical.not_not, iLn1000000005, iLn1000000004, iLn1000000003, iLn1000000002, iLn1000000001, iLn99999, iLn9999, iLn2, iLn1, iL0, iL1, iL2, iL3, iL4, iL5, iL6, iL7, iL8, iL9, iL10, iL15, iL16, iL31, iL32, iL40, iL42, iL45, iL48, iL57, iL59, iL63, iL64, iL65, iL120, iL126, iL455, iL520, iL9999, iL99999, iN2, iN8, iN64, iN65, iN120, iN130, iN520, hR.1]
      refine ⟨fun c => by omega, fun c => ?_⟩
      refine s_rd_differenceAt hG hk hR h1 h1' h2 (by omega) (by omega) ?_
      refine v_rd_countOf_13 hG hk ?_
      simp (disch := omega) only [iI_add, iI_sub, iI_mul, iI_neg, iI_lt, iI_le, iI_eq, iI_cl, vp_iI, Classical.not_not, iLn1000000005, iLn1000000004, iLn1000000003, iLn1000000002, iLn1000000001, iLn99999, iLn9999, iLn2, iLn1, iL0, iL1, iL2, iL3, iL4, iL5, iL6, iL7, iL8, iL9, iL10, iL15, iL16, iL31, iL32, iL40, iL42, iL45, iL48, iL57, iL59, iL63, iL64, iL65, iL120, iL126, iL455, iL520, iL9999, iL99999, iN2, iN8, iN64, iN65, iN120, iN130, iN520]
      have hI := ih (j + 1) (by omega)
      unfold cz at hI
      refine ⟨fun c => ?_, fun c => ?_⟩
      · rw [if_neg (by simpa using c)] at hI
        rw [Int.add_zero] at hI
        exact hI
      · rw [if_pos (by simpa using c)] at hI
        exact hI
  simp (disch := omega) only [iI_add, iI_sub, iI_mul, iI_neg, iI_lt, iI_le, iI_eq, iI_cl, vp_iI, Classical.not_not, iLn1000000005, iLn1000000004, iLn1000000003, iLn1000000002, iLn1000000001, iLn99999, iLn9999, iLn2, iLn1, iL0, iL1, iL2, iL3, iL4, iL5, iL6, iL7, iL8, iL9, iL10, iL15, iL16, iL31, iL32, iL40, iL42, iL45, iL48, iL57, iL59, iL63, iL64, iL65, iL120, iL126, iL455, iL520, iL9999, iL99999, iN2, iN8, iN64, iN65, iN120, iN130, iN520]
  exact key n 0 (by omega)
theorem s_rd_isOutlier (hG : qGood Ls xs P) {j : Nat} {lim : Int} (hk : qRd k) (hR : cRd M k n f) (hj : j < n) (h1 : 0 ≤ lim) (h2 : lim ≤ 99999) (hQ : Q (some (.int (iI (bZ (otl n f lim j = true))))) M) : P 27 0 [(0, .ref k), (1, .int (iI j)), (2, .int (iI lim))] [] M Q := by
  have hn := hR.2.1
  refine v_rd_isOutlier_0 hG hk ?_
  simp (disch := omega) only [iI_add, iI_sub, iI_mul, iI_neg, iI_lt, iI_le, iI_eq, iI_cl, vp_iI, Classical.not_not, iLn1000000005, iLn1000000004, iLn1000000003, iLn1000000002, iLn1000000001, iLn99999, iLn9999, iLn2, iLn1, iL0, iL1, iL2, iL3, iL4, iL5, iL6, iL7, iL8, iL9, iL10, iL15, iL16, iL31, iL32, iL40, iL42, iL45, iL48, iL57, iL59, iL63, iL64, iL65, iL120, iL126, iL455, iL520, iL9999, iL99999, iN2, iN8, iN64, iN65, iN120, iN130, iN520]
  refine s_rd_differenceAt (m := 1) hG hk hR (by omega) (by omega) (by omega) (by omega) (by omega) ?_
  refine v_rd_isOutlier_7 hG ?_
  have hd := dif_ok (m := 1) hR.ok (by omega) 2 ((j : Int) - 1)
  simp (disch := omega) only [iI_add, iI_sub, iI_mul, iI_neg, iI_lt, iI_le, iI_eq, iI_cl, vp_iI, Classical.not_not, iLn1000000005, iLn1000000004, iLn1000000003, iLn1000000002, iLn1000000001, iLn99999, iLn9999, iLn2, iLn1, iL0, iL1, iL2, iL3, iL4, iL5, iL6, iL7, iL8, iL9, iL10, iL15, iL16, iL31, iL32, iL40, iL42, iL45, iL48, iL57, iL59, iL63, iL64, iL65, iL120, iL126, iL455, iL520, iL9999, iL99999, iN2, iN8, iN64, iN65, iN120, iN130, iN520]
  unfold otl at hQ
  refine ⟨fun c => q_b hQ (bZ_f ?_), fun c => ⟨fun c2 => q_b hQ (bZ_t ?_), fun c2 => ⟨fun c3 => q_b hQ (bZ_f ?_), fun c3 => q_b hQ (bZ_t ?_)⟩⟩⟩
  · simp [c]
  · simp only [Bool.and_eq_true, Bool.or_eq_true, decide_eq_true_eq]
    exact ⟨c, Or.inl c2⟩
  · simp only [Bool.and_eq_true, Bool.or_eq_true, decide_eq_true_eq]
    omega
  · simp only [Bool.and_eq_true, Bool.or_eq_true, decide_eq_true_eq]
    omega
end RD2
end
section
/-! floors; the reference's reading methods -/
theorem fl_t {v b : Int} (hb : 0 < b) : (if v - v.tdiv b * b < 0 then v.tdiv b - 1 else v.tdiv b) = v / b := by
  have h1 : v - v.tdiv b * b = v.tmod b := by
    rw [Int.tmod_def, Int.mul_comm]
  have h2 := tmod_bounds (a := v) hb
  have h3 : b * v.tdiv b + v.tmod b = v := Int.mul_tdiv_add_tmod v b
  rw [h1]
  split
  · refine ((Int.ediv_emod_unique hb (r := v.tmod b + b) (q := v.tdiv b - 1)).mpr ⟨?_, by omega, by omega⟩).1.symm
    rw [Int.mul_sub, Int.mul_one]
    omega
  · refine ((Int.ediv_emod_unique hb (r := v.tmod b) (q := v.tdiv b)).mpr ⟨by omega, by omega, by omega⟩).1.symm
theorem fl_s {v b : Int} (hb : 0 < b) (hv : v < 0) : v - v.tdiv b * b ≤ 0 := by
  have h1 : v.tdiv b = -((-v) / b) := by
    have e := Int.neg_tdiv v b
    rw [Int.tdiv_eq_ediv_of_nonneg (by omega)] at e
    omega
  have h2 := Int.ediv_mul_le (-v) (b := b) (by omega)
  rw [h1, Int.neg_mul]
  omega
theorem l_xor {x y : Int64} (hy : 0 ≤ y.toInt) : 0 ≤ (x ^^^ y).toInt ↔ 0 ≤ x.toInt := by
  have h0 : ∀ z : Int64, 0 ≤ z.toInt ↔ z.toBitVec.msb = false := by
    intro z
    show 0 ≤ z.toBitVec.toInt ↔ _
    rw [BitVec.msb_eq_toInt]
    simp
  rw [h0] at hy
  rw [h0, h0, Int64.toBitVec_xor, BitVec.msb_xor, hy]
  simp
theorem mul_bd {A C : Nat} {a c : Int} (h1 : -(A : Int) ≤ a) (h2 : a ≤ A) (h3 : -(C : Int) ≤ c) (h4 : c ≤ C) : -((A * C : Nat) : Int) ≤ a * c ∧ a * c ≤ ((A * C : Nat) : Int) := by
  have h : (a * c).natAbs ≤ A * C := by
    rw [Int.natAbs_mul]
    exact Nat.mul_le_mul (by omega) (by omega)
  have h5 := Int.le_natAbs (a := a * c)
  have h6 := Int.le_natAbs (a := -(a * c))
  rw [Int.natAbs_neg] at h6
  have h7 : ((a * c).natAbs : Int) ≤ ((A * C : Nat) : Int) := Int.ofNat_le.mpr h
  omega
section MD1
variable {Ls : Nat} {xs : Nat → Int32} {P : qSem} {n : Nat} {f : Nat → Int} {M : qMem} {Q : qPost}
theorem s_floorDiv (hG : qGood Ls xs P) {v b : Int} (h1 : -9223372036854775808 ≤ v) (h2 : v < 9223372036854775808) (hb : 0 < b) (h4 : b < 9223372036854775808) (hQ : Q (some (.long (lI (v / b)))) M) : P 71 0 [(0, .long (lI v)), (2, .long (lI b))] [] M Q := by
  refine v_math_floorDiv_0 hG ?_
  have hf := fl_t (v := v) hb
  have hbd : -9223372036854775808 ≤ v.tdiv b * b ∧ v.tdiv b * b < 9223372036854775808 := by
    have h3 := tmod_bounds (a := v) hb
    have h5 : b * v.tdiv b + v.tmod b = v := Int.mul_tdiv_add_tmod v b
    rcases Int.lt_or_le v 0 with hv | hv
    · have h6 := fl_s hb hv
      rw [Int.mul_comm] at h5
      have h7 : v.tdiv b * b ≤ 0 := by
        have e := Int.neg_tdiv v b
        rw [Int.tdiv_eq_ediv_of_nonneg (by omega)] at e
        have e2 := Int.ediv_nonneg (a := -v) (b := b) (by omega) (by omega)
        have e3 : v.tdiv b ≤ 0 := by omega
        exact Int.mul_nonpos_of_nonpos_of_nonneg e3 (by omega)
      omega
    · rw [Int.tdiv_eq_ediv_of_nonneg hv]
      have h6 := Int.ediv_mul_le v (b := b) (by omega)
      have h7 := Int.mul_nonneg (Int.ediv_nonneg (a := v) (b := b) hv (by omega)) (Int.le_of_lt hb)
      omega
  rw [lL0, lL1, lI_tdiv h1 h2 (by omega) (by omega), lI_mul, lI_sub, lI_eq (by omega) (by omega) (by omega) (by omega)]
  refine ⟨by omega, fun c => ?_, fun c => ?_⟩
  · have hv : 0 ≤ v := by
      have c2 : 0 ≤ (lI v ^^^ lI b).toInt := by
        have e := lg_cmp_ge (lI v ^^^ lI b) (lI 0)
        have c3 := e.mp c
        rw [Int64.le_iff_toInt_le, lI_toInt (a := 0) (by omega) (by omega)] at c3
        exact c3
      rw [l_xor (by rw [lI_toInt (by omega) (by omega)]; omega), lI_toInt h1 h2] at c2
      exact c2
    rw [Int.tdiv_eq_ediv_of_nonneg hv]
    exact hQ
  · have hv : v < 0 := by
      rcases Int.lt_or_le v 0 with q | q
      · exact q
      · exfalso
        apply c
        rw [lg_cmp_ge, Int64.le_iff_toInt_le, lI_toInt (a := 0) (by omega) (by omega), l_xor (by rw [lI_toInt (by omega) (by omega)]; omega), lI_toInt h1 h2]
        exact q
    have h6 := fl_s hb hv
    rw [lg_cmpZ (by omega) (by omega) h1 h2]
    have hz : -1 ≤ cmpZ (v.tdiv b * b) v ∧ cmpZ (v.tdiv b * b) v ≤ 1 := by unfold cmpZ; split <;> (try split) <;> omega
    simp (disch := omega) only [iI_add, iI_sub, iI_mul, iI_neg, iI_lt, iI_le, iI_eq, iI_cl, vp_iI, Classical.not_not, iLn1000000005, iLn1000000004, iLn1000000003, iLn1000000002, iLn1000000001, iLn99999, iLn9999, iLn2, iLn1, iL0, iL1, iL2, iL3, iL4, iL5, iL6, iL7, iL8, iL9, iL10, iL15, iL16, iL31, iL32, iL40, iL42, iL45, iL48, iL57, iL59, iL63, iL64, iL65, iL120, iL126, iL455, iL520, iL9999, iL99999, iN2, iN8, iN64, iN65, iN120, iN130, iN520]
    refine ⟨fun c2 => q_l ?_ hQ, fun c2 => q_l ?_ hQ⟩
    · rw [← hf]
      unfold cmpZ at c2
      split at c2
      · omega
      · split at c2
        · rw [if_neg (by omega)]
        · omega
    · rw [← hf]
      have hne : v.tdiv b * b ≠ v := by
        intro e
        apply c2
        unfold cmpZ
        rw [if_neg (by omega), if_pos e]
      rw [if_pos (by omega)]
theorem sec_r {m i : Int} (h : sec n f m i ≠ (-1000000001)) : (vl n f i ≠ (-1000000001) ∧ vl n f (i + m) ≠ (-1000000001) ∧ vl n f (i + 2 * m) ≠ (-1000000001)) ∧ sec n f m i = vl n f (i + 2 * m) - 2 * vl n f (i + m) + vl n f i := by
  unfold sec at h ⊢
  split
  · rename_i c
    rw [if_pos c] at h
    exact absurd rfl h
  · rename_i c
    exact ⟨by omega, rfl⟩
theorem vl_lt {i : Int} (h : vl n f i ≠ (-1000000001)) : 0 ≤ i ∧ i < n := by
  unfold vl at h
  split at h
  · rename_i c; exact c
  · exact absurd rfl h
end MD1
end
section
/-! the reference's differences, counts, gaps, outliers -/
theorem okS_le (g : Nat → Int) : ∀ (d j : Nat), okS g (j + d) = true → okS g j = true := by
  intro d
  induction d with
  | zero => intro j h; exact h
  | succ d ih =>
    intro j h
    refine ih j ?_
    rw [← Nat.add_assoc] at h
    unfold okS at h
    simp only [Bool.and_eq_true] at h
    exact h.1
theorem okS_at (g : Nat → Int) : ∀ (m j : Nat), okS g m = true → j < m → g j ≠ (-1000000001) := by
  intro m j h hj
  have h2 := okS_le g (m - (j + 1)) (j + 1) (by rw [show j + 1 + (m - (j + 1)) = m by omega]; exact h)
  unfold okS at h2
  simp only [Bool.and_eq_true, decide_eq_true_eq] at h2
  exact h2.2
theorem men_ne {n : Nat} {f : Nat → Int} (hf : ∀ j, j < n → okv (f j)) {m : Nat} (hm : m ≤ 31) (i : Int) : men n f m i ≠ (-1000000001) ↔ okS (fun j => sec n f m (i + j)) m = true := by
  unfold men
  split
  · rename_i h
    have h1 := smS_in (B := 399996) (fun j => sec_ok hf m (i + j)) m h
    constructor
    · intro _; exact h
    · intro _; omega
  · rename_i h
    constructor
    · intro q; exact absurd rfl q
    · intro q; exact absurd q h
theorem thr_ne {n : Nat} {f : Nat → Int} (hf : ∀ j, j < n → okv (f j)) {m : Int} {i : Int} : thr n f m i ≠ (-1000000001) ↔ (sec n f m i ≠ (-1000000001) ∧ vl n f (i + 3 * m) ≠ (-1000000001)) := by
  have h1 := vl_ok hf i
  have h2 := vl_ok hf (i + m)
  have h3 := vl_ok hf (i + 2 * m)
  have h4 := vl_ok hf (i + 3 * m)
  unfold okv at h1 h2 h3 h4
  unfold thr sec
  split <;> split <;> omega
def cnd (n : Nat) (f : Nat → Int) (o : Int) (m : Nat) : Int := cz (fun j => decide (dif n f o m j ≠ (-1000000001))) n
def wdz (n : Nat) (f : Nat → Int) : Nat → Int
  | 0 => 0
  | k + 1 => if 0 < cnd n f 2 (k + 1) then ((k + 1 : Nat) : Int) else wdz n f k
theorem wdz_in (n : Nat) (f : Nat → Int) : ∀ k : Nat, 0 ≤ wdz n f k ∧ wdz n f k ≤ k := by
  intro k
  induction k with
  | zero => unfold wdz; omega
  | succ k ih => unfold wdz; split <;> omega
theorem lsz_st (f : Nat → Int) (j : Nat) : lsz f (j + 1) = if f j ≠ (-1000000001) ∧ (lsz f j = (-1000000001) ∨ f j < lsz f j) then f j else lsz f j := rfl
theorem grz_st {n : Nat} {f : Nat → Int} (hf : ∀ j, j < n → okv (f j)) {j : Nat} (hj : j < n) : grz f (j + 1) = if f j ≠ (-1000000001) ∧ (grz f j = (-1000000001) ∨ grz f j < f j) then f j else grz f j := by
  have h1 := grz_ok hf j (by omega)
  have h2 := hf j hj
  unfold okv at h1 h2
  show (if grz f j < f j then f j else grz f j) = _
  split <;> split <;> omega
section MD2
variable {Ls : Nat} {xs : Nat → Int32} {P : qSem} {n : Nat} {f : Nat → Int} {M : qMem} {Q : qPost}
end MD2
end
section
/-! fractions: greatest divisors, orders, whole parts; the variances' numbers -/
def sqz (n : Nat) (f : Nat → Int) (o : Int) (m : Nat) : Nat → Int
  | 0 => 0
  | k + 1 => sqz n f o m k + (if dif n f o m k ≠ (-1000000001) then dif n f o m k * dif n f o m k else 0)
def od (w : Int) : Int := if w = 0 then 2 else if w = 1 then 3 else 4
def dv (w : Int) (m : Int) : Int := if w = 0 then 2 * m * m else if w = 2 then 2 * m * m * m * m else 6 * m * m
def vS (n : Nat) (f : Nat → Int) (w : Int) (m : Nat) : Nat := (sqz n f (od w) m n).toNat
def vB (n : Nat) (f : Nat → Int) (w : Int) (m : Nat) : Nat := (dv w m * cnd n f (od w) m).toNat
def vN (n : Nat) (f : Nat → Int) (w : Int) (m : Nat) : Nat := if vB n f w m = 0 then 0 else vS n f w m / Nat.gcd (vS n f w m) (vB n f w m)
def vD (n : Nat) (f : Nat → Int) (w : Int) (m : Nat) : Nat := if vB n f w m = 0 then 0 else vB n f w m / Nat.gcd (vS n f w m) (vB n f w m)
/-- the order of a/b and c/d, whole parts first -/
theorem cmpZ_sgn {x y u v : Int} (h1 : x < y ↔ u < v) (h2 : x = y ↔ u = v) : cmpZ x y = cmpZ u v := by
  unfold cmpZ
  split <;> split <;> (try split) <;> (try split) <;> omega
theorem cmp_wh {x y b d : Nat} (hb : 0 < b) (hd : 0 < d) (h : x / b ≠ y / d) : cmpZ (x / b : Nat) (y / d : Nat) = cmpZ (x * d : Nat) (y * b : Nat) := by
  have key : ∀ {x y b d : Nat}, 0 < b → 0 < d → x / b < y / d → x * d < y * b := by
    intro x y b d hb hd h
    have h1 : x < (x / b + 1) * b := Nat.lt_mul_of_div_lt (by omega) hb
    have h2 : (y / d) * d ≤ y := Nat.div_mul_le_self y d
    have h3 : (x / b + 1) * d ≤ y := Nat.le_trans (Nat.mul_le_mul_right d h) h2
    have h4 : x * d < (x / b + 1) * b * d := Nat.mul_lt_mul_of_pos_right h1 hd
    have h5 : (x / b + 1) * b * d = (x / b + 1) * d * b := by rw [Nat.mul_assoc, Nat.mul_comm b d, ← Nat.mul_assoc]
    have h6 : (x / b + 1) * d * b ≤ y * b := Nat.mul_le_mul_right b h3
    omega
  rcases Nat.lt_or_ge (x / b) (y / d) with q | q
  · have k1 := key hb hd q
    exact cmpZ_sgn (by omega) (by omega)
  · have k1 := key hd hb (by omega : y / d < x / b)
    exact cmpZ_sgn (by omega) (by omega)
theorem cmp_rm {x y b d : Nat} (h : x / b = y / d) : cmpZ ((x % b) * d : Nat) ((y % d) * b : Nat) = cmpZ (x * d : Nat) (y * b : Nat) := by
  have e1 : x * d = (x % b) * d + b * d * (x / b) := by
    have q := Nat.mod_add_div x b
    rw [show x * d = (x % b + b * (x / b)) * d by rw [q], Nat.add_mul]
    congr 1
    rw [Nat.mul_assoc, Nat.mul_comm (x / b) d, ← Nat.mul_assoc]
  have e2 : y * b = (y % d) * b + b * d * (y / d) := by
    have q := Nat.mod_add_div y d
    rw [show y * b = (y % d + d * (y / d)) * b by rw [q], Nat.add_mul]
    congr 1
    rw [Nat.mul_comm b d, Nat.mul_assoc, Nat.mul_comm (y / d) b, ← Nat.mul_assoc]
  rw [h] at e1
  exact cmpZ_sgn (by omega) (by omega)
theorem cmp_flip {x y b d : Nat} : cmpZ (b * (y : Nat) : Nat) (d * (x : Nat) : Nat) = - cmpZ (x * d : Nat) (y * b : Nat) := by
  rw [Nat.mul_comm b y, Nat.mul_comm d x]
  unfold cmpZ
  split <;> split <;> (try split) <;> (try split) <;> omega
theorem lI_rem {a b : Nat} (hb : 0 < b) (h1 : (a : Int) < 9223372036854775808) (h2 : (b : Int) < 9223372036854775808) : lI a - lI a / lI b * lI b = lI (a % b : Nat) := by
  rw [lI_tdiv (by omega) h1 (by omega) h2, lI_mul, lI_sub]
  congr 1
  rw [Int.tdiv_eq_ediv_of_nonneg (by omega)]
  have q := Int.emod_def (a : Int) b
  rw [Int.mul_comm] at q
  push_cast
  omega
theorem lI_div {a b : Nat} (h1 : (a : Int) < 9223372036854775808) (h2 : (b : Int) < 9223372036854775808) : lI a / lI b = lI (a / b : Nat) := by
  rw [lI_tdiv (by omega) h1 (by omega) h2, Int.tdiv_eq_ediv_of_nonneg (by omega)]
  rfl
theorem cmpZ_in (a b : Int) : -1 ≤ cmpZ a b ∧ cmpZ a b ≤ 1 := by
  unfold cmpZ
  split <;> (try split) <;> omega
theorem cmpZ_0 (a b : Int) : cmpZ a b = 0 ↔ a = b := by
  unfold cmpZ
  split <;> (try split) <;> omega
theorem cmpZ_p (a b : Int) : 0 < cmpZ a b ↔ b < a := by
  unfold cmpZ
  split <;> (try split) <;> omega
theorem cmpZ_le (a b : Int) : cmpZ a b ≤ 0 ↔ a ≤ b := by
  unfold cmpZ
  split <;> (try split) <;> omega
theorem cmpZ_ge (a b : Int) : 0 ≤ cmpZ a b ↔ b ≤ a := by
  unfold cmpZ
  split <;> (try split) <;> omega
theorem gcd_st (g l : Nat) : Nat.gcd g l = Nat.gcd l (g % l) := by
  rw [Nat.gcd_comm g l, Nat.gcd_rec l g, Nat.gcd_comm]
section FR
variable {Ls : Nat} {xs : Nat → Int32} {P : qSem} {M : qMem} {Q : qPost}
theorem s_longCompare (hG : qGood Ls xs P) {a b : Int} (h1 : -9223372036854775808 ≤ a) (h2 : a < 9223372036854775808) (h3 : -9223372036854775808 ≤ b) (h4 : b < 9223372036854775808) (hQ : Q (some (.int (iI (cmpZ a b)))) M) : P 70 0 [(0, .long (lI a)), (2, .long (lI b))] [] M Q := by
  refine v_long_compare_0 hG ?_
  rw [lg_cmpZ h1 h2 h3 h4]
  have hz := cmpZ_in a b
  simp (disch := omega) only [iI_add, iI_sub, iI_mul, iI_neg, iI_lt, iI_le, iI_eq, iI_cl, vp_iI, Classical.not_not, iLn1000000005, iLn1000000004, iLn1000000003, iLn1000000002, iLn1000000001, iLn99999, iLn9999, iLn2, iLn1, iL0, iL1, iL2, iL3, iL4, iL5, iL6, iL7, iL8, iL9, iL10, iL15, iL16, iL31, iL32, iL40, iL42, iL45, iL48, iL57, iL59, iL63, iL64, iL65, iL120, iL126, iL455, iL520, iL9999, iL99999, iN2, iN8, iN64, iN65, iN120, iN130, iN520]
  exact ⟨fun c => ⟨fun c2 => q_i (by omega) hQ, fun c2 => q_i (by omega) hQ⟩, fun c => q_i (by omega) hQ⟩
theorem s_fr_gcd (hG : qGood Ls xs P) {a b : Nat} (h1 : (a : Int) < 9223372036854775808) (h2 : b < 2 ^ 27) (hQ : Q (some (.long (lI (Nat.gcd a b : Nat)))) M) : P 5 0 [(0, .long (lI a)), (2, .long (lI b))] [] M Q := by
  refine v_fr_greatestDivisor_0 hG ?_
  have key : ∀ (j g l s : Nat), (g : Int) < 9223372036854775808 → l < 2 ^ j → j ≤ 27 → s + 2 * j ≤ 99 → Nat.gcd g l = Nat.gcd a b → P 5 6 [(4, .long (lI g)), (6, .long (lI l)), (8, .int (iI s))] [] M Q := by
    intro j
    induction j with
    | zero =>
      intro g l s hg hl _ hs he
      have e : l = 0 := by simpa using hl
      subst e
      refine v_fr_greatestDivisor_6 hG ?_
      rw [show (100 : Int32) = iI 100 by decide, lL0, lg_cmpZ (by omega) (by omega) (by omega) (by omega)]
      simp (disch := omega) only [iI_add, iI_sub, iI_mul, iI_neg, iI_lt, iI_le, iI_eq, iI_cl, vp_iI, Classical.not_not, iLn1000000005, iLn1000000004, iLn1000000003, iLn1000000002, iLn1000000001, iLn99999, iLn9999, iLn2, iLn1, iL0, iL1, iL2, iL3, iL4, iL5, iL6, iL7, iL8, iL9, iL10, iL15, iL16, iL31, iL32, iL40, iL42, iL45, iL48, iL57, iL59, iL63, iL64, iL65, iL120, iL126, iL455, iL520, iL9999, iL99999, iN2, iN8, iN64, iN65, iN120, iN130, iN520, cmpZ_0]
      rw [Nat.gcd_zero_right] at he
      rw [← he] at hQ
      exact ⟨fun c => by omega, fun _ => ⟨fun _ => hQ, fun c => absurd rfl c⟩⟩
    | succ j ih =>
      intro g l s hg hl hj hs he
      have hp : 2 ^ (j + 1) = 2 * 2 ^ j := by rw [Nat.pow_succ]; omega
      have hpb : 2 ^ j ≤ 2 ^ 26 := Nat.pow_le_pow_right (by omega) (by omega)
      refine v_fr_greatestDivisor_6 hG ?_
      have hz := cmpZ_in (l : Int) 0
      rw [show (100 : Int32) = iI 100 by decide, lL0, lg_cmpZ (by omega) (by omega) (by omega) (by omega)]
      simp (disch := omega) only [iI_add, iI_sub, iI_mul, iI_neg, iI_lt, iI_le, iI_eq, iI_cl, vp_iI, Classical.not_not, iLn1000000005, iLn1000000004, iLn1000000003, iLn1000000002, iLn1000000001, iLn99999, iLn9999, iLn2, iLn1, iL0, iL1, iL2, iL3, iL4, iL5, iL6, iL7, iL8, iL9, iL10, iL15, iL16, iL31, iL32, iL40, iL42, iL45, iL48, iL57, iL59, iL63, iL64, iL65, iL120, iL126, iL455, iL520, iL9999, iL99999, iN2, iN8, iN64, iN65, iN120, iN130, iN520, cmpZ_0]
      refine ⟨fun c => by omega, fun _ => ⟨fun c => ?_, fun c => ⟨?_, ?_⟩⟩⟩
      · have e : l = 0 := by omega
        subst e
        rw [Nat.gcd_zero_right] at he
        rw [← he] at hQ
        exact hQ
      · rw [lI_eq (by omega) (by omega) (by omega) (by omega)]
        exact c
      · have hl0 : 0 < l := by omega
        rw [lI_rem hl0 hg (by omega)]
        have hm := Nat.mod_lt g hl0
        refine v_fr_greatestDivisor_6 hG ?_
        have hz := cmpZ_in ((g % l : Nat) : Int) 0
        rw [show (100 : Int32) = iI 100 by decide, lL0, lg_cmpZ (by omega) (by omega) (by omega) (by omega)]
        simp (disch := omega) only [iI_add, iI_sub, iI_mul, iI_neg, iI_lt, iI_le, iI_eq, iI_cl, vp_iI, Classical.not_not, iLn1000000005, iLn1000000004, iLn1000000003, iLn1000000002, iLn1000000001, iLn99999, iLn9999, iLn2, iLn1, iL0, iL1, iL2, iL3, iL4, iL5, iL6, iL7, iL8, iL9, iL10, iL15, iL16, iL31, iL32, iL40, iL42, iL45, iL48, iL57, iL59, iL63, iL64, iL65, iL120, iL126, iL455, iL520, iL9999, iL99999, iN2, iN8, iN64, iN65, iN120, iN130, iN520, cmpZ_0]
        have he2 : Nat.gcd l (g % l) = Nat.gcd a b := by rw [← gcd_st]; exact he
        refine ⟨fun c => by omega, fun _ => ⟨fun c => ?_, fun c => ⟨?_, ?_⟩⟩⟩
        · have e : g % l = 0 := by omega
          rw [e, Nat.gcd_zero_right] at he2
          rw [← he2] at hQ
          exact hQ
        · rw [lI_eq (by omega) (by omega) (by omega) (by omega)]
          exact c
        · have hr0 : 0 < g % l := by omega
          rw [lI_rem hr0 (by omega) (by omega)]
          have hm2 := Nat.mod_lt l hr0
          have hhalf : l % (g % l) < 2 ^ j := by
            rcases Nat.lt_or_ge (2 ^ j) (g % l + 1) with q | q
            · have e : l % (g % l) = l - (g % l) := by
                rw [Nat.mod_eq_sub_mod (by omega), Nat.mod_eq_of_lt (by omega)]
              omega
            · omega
          refine ih (g % l) (l % (g % l)) (s + 2) (by omega) hhalf (by omega) (by omega) ?_
          rw [← gcd_st]
          exact he2
  simp (disch := omega) only [iI_add, iI_sub, iI_mul, iI_neg, iI_lt, iI_le, iI_eq, iI_cl, vp_iI, Classical.not_not, iLn1000000005, iLn1000000004, iLn1000000003, iLn1000000002, iLn1000000001, iLn99999, iLn9999, iLn2, iLn1, iL0, iL1, iL2, iL3, iL4, iL5, iL6, iL7, iL8, iL9, iL10, iL15, iL16, iL31, iL32, iL40, iL42, iL45, iL48, iL57, iL59, iL63, iL64, iL65, iL120, iL126, iL455, iL520, iL9999, iL99999, iN2, iN8, iN64, iN65, iN120, iN130, iN520]
  exact key 27 a b 0 h1 h2 (by omega) (by omega) rfl
/-- what a fraction's object holds -/
def cFr (M : qMem) (k a b : Nat) : Prop := M.2 k 0 = lI a ∧ M.2 k 1 = lI b
theorem cFr.fm {k a b : Nat} {M' : qMem} {A : List Nat} (h : cFr M k a b) (hF : qFm A M M') (h1 : k ∉ A) : cFr M' k a b := by
  unfold cFr
  rw [(hF k h1).2]
  exact h
theorem s_fr_exists (hG : qGood Ls xs P) {k a b : Nat} (hk : qFq k) (hR : cFr M k a b) (h2 : (b : Int) < 9223372036854775808) (hQ : Q (some (.int (iI (bZ (0 < b))))) M) : P 0 0 [(0, .ref k)] [] M Q := by
  refine v_fr_exists_0 hG hk ?_
  have hz := cmpZ_in (b : Int) 0
  rw [hR.2, lL0, lg_cmpZ (by omega) (by omega) (by omega) (by omega)]
  simp (disch := omega) only [iI_add, iI_sub, iI_mul, iI_neg, iI_lt, iI_le, iI_eq, iI_cl, vp_iI, Classical.not_not, iLn1000000005, iLn1000000004, iLn1000000003, iLn1000000002, iLn1000000001, iLn99999, iLn9999, iLn2, iLn1, iL0, iL1, iL2, iL3, iL4, iL5, iL6, iL7, iL8, iL9, iL10, iL15, iL16, iL31, iL32, iL40, iL42, iL45, iL48, iL57, iL59, iL63, iL64, iL65, iL120, iL126, iL455, iL520, iL9999, iL99999, iN2, iN8, iN64, iN65, iN120, iN130, iN520, cmpZ_le]
  exact ⟨fun c => q_b hQ (bZ_f (by omega)), fun c => q_b hQ (bZ_t (by omega))⟩
theorem s_fr_copyFrom (hG : qGood Ls xs P) {k k1 a b : Nat} (hk : qFq k) (hk1 : qFq k1) (hne : k1 ≠ k) (hR : cFr M k1 a b) (hQ : ∀ M', cFr M' k a b → qFm [k] M M' → Q none M') : P 2 0 [(0, .ref k), (1, .ref k1)] [] M Q := by
  refine v_fr_copyFrom_0 hG hk hk1 ?_
  rw [pJ_n hne, hR.1, hR.2]
  exact hQ _ ⟨by rw [pJ_nj (by decide)]; exact pJ_e, pJ_e⟩ ((qFm.pJ (by simp)).tr (qFm.pJ (by simp)))
theorem s_fr_become (hG : qGood Ls xs P) {k a b : Nat} (hk : qFq k) (h1 : (a : Int) < 9223372036854775808) (h2 : b < 2 ^ 27) (hQ : ∀ M', cFr M' k (if b = 0 then 0 else a / Nat.gcd a b) (if b = 0 then 0 else b / Nat.gcd a b) → qFm [k] M M' → Q none M') : P 1 0 [(0, .ref k), (1, .long (lI a)), (3, .long (lI b))] [] M Q := by
  refine v_fr_become_0 hG hk ?_
  refine s_fr_gcd hG h1 h2 ?_
  refine v_fr_become_3 hG hk ?_
  have hz := cmpZ_in (b : Int) 0
  have hz2 := cmpZ_in ((Nat.gcd a b : Nat) : Int) 0
  have hg : b ≠ 0 → Nat.gcd a b ≤ b := fun h => Nat.gcd_le_right a (by omega)
  have hg0 : b ≠ 0 → 0 < Nat.gcd a b := fun h => Nat.gcd_pos_of_pos_right a (by omega)
  have hb' : (Nat.gcd a b : Int) < 9223372036854775808 := by
    by_cases e : b = 0
    · rw [e, Nat.gcd_zero_right]
      exact h1
    · have := hg e
      omega
  rw [lL0, lg_cmpZ (by omega) (by omega) (by omega) (by omega), lg_cmpZ (by omega) (by omega) (by omega) (by omega), lI_eq (by omega) (by omega) (by omega) (by omega), lI_div h1 hb', lI_div (by omega) hb']
  simp (disch := omega) only [iI_add, iI_sub, iI_mul, iI_neg, iI_lt, iI_le, iI_eq, iI_cl, vp_iI, Classical.not_not, iLn1000000005, iLn1000000004, iLn1000000003, iLn1000000002, iLn1000000001, iLn99999, iLn9999, iLn2, iLn1, iL0, iL1, iL2, iL3, iL4, iL5, iL6, iL7, iL8, iL9, iL10, iL15, iL16, iL31, iL32, iL40, iL42, iL45, iL48, iL57, iL59, iL63, iL64, iL65, iL120, iL126, iL455, iL520, iL9999, iL99999, iN2, iN8, iN64, iN65, iN120, iN130, iN520, cmpZ_le, cmpZ_p]
  refine ⟨fun c => ?_, fun c => ⟨fun c2 => ⟨by omega, by omega, ?_⟩, fun c2 => ?_⟩⟩
  · have e : b = 0 := by omega
    subst e
    simp only [if_true] at hQ
    exact hQ _ ⟨by rw [pJ_nj (by decide)]; exact pJ_e, pJ_e⟩ ((qFm.pJ (by simp)).tr (qFm.pJ (by simp)))
  · rw [if_neg (by omega), if_neg (by omega)] at hQ
    exact hQ _ ⟨by rw [pJ_nj (by decide)]; exact pJ_e, pJ_e⟩ ((qFm.pJ (by simp)).tr (qFm.pJ (by simp)))
  · have := hg0 (by omega)
    omega
theorem s_fr_order (hG : qGood Ls xs P) {k k3 a b c d p q : Nat} (hk : qFq k) (hk3 : qFq k3) (hR : cFr M k a b) (hR3 : cFr M k3 c d) (hb : 0 < b) (hd : 0 < d) (hb2 : b < 2 ^ 27) (hd2 : d < 2 ^ 27) (hp : p * a < 2 ^ 60) (hq : q * c < 2 ^ 60) (hQ : Q (some (.int (iI (cmpZ (p * a * d : Nat) (q * c * b : Nat))))) M) : P 3 0 [(0, .ref k), (1, .long (lI p)), (3, .ref k3), (4, .long (lI q))] [] M Q := by
  refine v_fr_orderOfMultiples_0 hG hk hk3 ?_
  refine s_fr_exists hG hk hR (by omega) ?_
  rw [bZ_t hb]
  refine v_fr_orderOfMultiples_2 hG hk hk3 ?_
  simp (disch := omega) only [iI_add, iI_sub, iI_mul, iI_neg, iI_lt, iI_le, iI_eq, iI_cl, vp_iI, Classical.not_not, iLn1000000005, iLn1000000004, iLn1000000003, iLn1000000002, iLn1000000001, iLn99999, iLn9999, iLn2, iLn1, iL0, iL1, iL2, iL3, iL4, iL5, iL6, iL7, iL8, iL9, iL10, iL15, iL16, iL31, iL32, iL40, iL42, iL45, iL48, iL57, iL59, iL63, iL64, iL65, iL120, iL126, iL455, iL520, iL9999, iL99999, iN2, iN8, iN64, iN65, iN120, iN130, iN520]
  refine ⟨fun c => by omega, fun _ => ?_⟩
  refine s_fr_exists hG hk3 hR3 (by omega) ?_
  rw [bZ_t hd]
  refine v_fr_orderOfMultiples_5 hG hk hk3 ?_
  simp (disch := omega) only [iI_add, iI_sub, iI_mul, iI_neg, iI_lt, iI_le, iI_eq, iI_cl, vp_iI, Classical.not_not, iLn1000000005, iLn1000000004, iLn1000000003, iLn1000000002, iLn1000000001, iLn99999, iLn9999, iLn2, iLn1, iL0, iL1, iL2, iL3, iL4, iL5, iL6, iL7, iL8, iL9, iL10, iL15, iL16, iL31, iL32, iL40, iL42, iL45, iL48, iL57, iL59, iL63, iL64, iL65, iL120, iL126, iL455, iL520, iL9999, iL99999, iN2, iN8, iN64, iN65, iN120, iN130, iN520]
  refine ⟨fun _ => ?_, fun c => by omega⟩
  rw [hR.1, hR.2, hR3.1, hR3.2, lI_mul, lI_mul, lL0, lI_eq (by omega) (by omega) (by omega) (by omega), lI_eq (by omega) (by omega) (by omega) (by omega)]
  have e1 : (p : Int) * a = ((p * a : Nat) : Int) := by push_cast; rfl
  have e2 : (q : Int) * c = ((q * c : Nat) : Int) := by push_cast; rfl
  rw [e1, e2]
  generalize p * a = x at hp hQ ⊢
  generalize q * c = y at hq hQ ⊢
  rw [lI_div (by omega) (by omega), lI_div (by omega) (by omega)]
  have d1 := Nat.div_le_self x b
  have d2 := Nat.div_le_self y d
  have n1 : (0 : Int) ≤ ((x / b : Nat) : Int) := Int.natCast_nonneg _
  have n2 : (0 : Int) ≤ ((y / d : Nat) : Int) := Int.natCast_nonneg _
  refine ⟨by omega, by omega, ?_⟩
  refine s_longCompare hG (by omega) (by omega) (by omega) (by omega) ?_
  refine v_fr_orderOfMultiples_27 hG hk hk3 ?_
  have hz := cmpZ_in ((x / b : Nat) : Int) ((y / d : Nat) : Int)
  simp (disch := omega) only [iI_add, iI_sub, iI_mul, iI_neg, iI_lt, iI_le, iI_eq, iI_cl, vp_iI, Classical.not_not, iLn1000000005, iLn1000000004, iLn1000000003, iLn1000000002, iLn1000000001, iLn99999, iLn9999, iLn2, iLn1, iL0, iL1, iL2, iL3, iL4, iL5, iL6, iL7, iL8, iL9, iL10, iL15, iL16, iL31, iL32, iL40, iL42, iL45, iL48, iL57, iL59, iL63, iL64, iL65, iL120, iL126, iL455, iL520, iL9999, iL99999, iN2, iN8, iN64, iN65, iN120, iN130, iN520, cmpZ_0]
  refine ⟨fun c3 => ?_, fun c3 => ?_⟩
  · rw [hR.2, hR3.2, lL0, lI_eq (by omega) (by omega) (by omega) (by omega), lI_eq (by omega) (by omega) (by omega) (by omega), lI_rem hb (by omega) (by omega), lI_rem hd (by omega) (by omega), lI_mul, lI_mul]
    have m1 := Nat.mod_lt x hb
    have m2 := Nat.mod_lt y hd
    have u1 : (x % b) * d < 2 ^ 54 := by
      have z1 : (x % b) * d ≤ (2 ^ 27 - 1) * (2 ^ 27 - 1) := Nat.mul_le_mul (by omega) (by omega)
      omega
    have u2 : (y % d) * b < 2 ^ 54 := by
      have z1 : (y % d) * b ≤ (2 ^ 27 - 1) * (2 ^ 27 - 1) := Nat.mul_le_mul (by omega) (by omega)
      omega
    refine ⟨by omega, by omega, ?_⟩
    have e3 : ((x % b : Nat) : Int) * d = (((x % b) * d : Nat) : Int) := by push_cast; rfl
    have e4 : ((y % d : Nat) : Int) * b = (((y % d) * b : Nat) : Int) := by push_cast; rfl
    rw [e3, e4]
    refine s_longCompare hG (by omega) (by omega) (by omega) (by omega) ?_
    refine v_fr_orderOfMultiples_47 hG ?_
    rw [cmp_rm (by omega)]
    exact hQ
  · rw [cmp_wh hb hd (by omega)]
    exact hQ
def tr6 (a b : Nat) : Nat := a / b * 1000000 + a % b * 1000000 / b
theorem s_fr_times (hG : qGood Ls xs P) {k a b : Nat} (hk : qFq k) (hR : cFr M k a b) (hb : 0 < b) (hb2 : b < 2 ^ 27) (ha : a < 2 ^ 60) (hab : a / b < 2 ^ 40) (hQ : Q (some (.long (lI (tr6 a b)))) M) : P 4 0 [(0, .ref k), (1, .long (lI 1000000))] [] M Q := by
  refine v_fr_timesRoundedDown_0 hG hk ?_
  refine s_fr_exists hG hk hR (by omega) ?_
  rw [bZ_t hb]
  refine v_fr_timesRoundedDown_2 hG hk ?_
  simp (disch := omega) only [iI_add, iI_sub, iI_mul, iI_neg, iI_lt, iI_le, iI_eq, iI_cl, vp_iI, Classical.not_not, iLn1000000005, iLn1000000004, iLn1000000003, iLn1000000002, iLn1000000001, iLn99999, iLn9999, iLn2, iLn1, iL0, iL1, iL2, iL3, iL4, iL5, iL6, iL7, iL8, iL9, iL10, iL15, iL16, iL31, iL32, iL40, iL42, iL45, iL48, iL57, iL59, iL63, iL64, iL65, iL120, iL126, iL455, iL520, iL9999, iL99999, iN2, iN8, iN64, iN65, iN120, iN130, iN520]
  refine ⟨fun _ => ?_, fun c => by omega⟩
  have m1 := Nat.mod_lt a hb
  rw [hR.1, hR.2, lL0, lI_eq (by omega) (by omega) (by omega) (by omega), lI_rem hb (by omega) (by omega), lI_div (by omega) (by omega), lI_mul, lI_mul]
  have e3 : ((a % b : Nat) : Int) * 1000000 = ((a % b * 1000000 : Nat) : Int) := by omega
  have e4 : ((a / b : Nat) : Int) * 1000000 = ((a / b * 1000000 : Nat) : Int) := by omega
  rw [e3, e4, lI_div (by omega) (by omega), lI_add]
  exact ⟨by omega, by omega, by omega, hQ⟩
end FR
end
section
/-! variances: bounds, and how both sides make them -/
theorem sqz_s (n : Nat) (f : Nat → Int) (o : Int) (m k : Nat) : sqz n f o m (k + 1) = sqz n f o m k + (if dif n f o m k ≠ (-1000000001) then dif n f o m k * dif n f o m k else 0) := rfl
theorem sqz_le {n : Nat} {f : Nat → Int} {o : Int} {m : Nat} {C : Int} (hC : 0 ≤ C) (h : ∀ i : Nat, dif n f o m i ≠ (-1000000001) → dif n f o m i * dif n f o m i ≤ C) : ∀ k, 0 ≤ sqz n f o m k ∧ sqz n f o m k ≤ C * cz (fun j => decide (dif n f o m j ≠ (-1000000001))) k := by
  intro k
  induction k with
  | zero => simp [sqz, cz]
  | succ k ih =>
    unfold sqz cz
    by_cases e : dif n f o m k ≠ (-1000000001)
    · rw [if_pos e, if_pos (by simpa using e), Int.mul_add, Int.mul_one]
      have h1 := h k e
      have h2 : 0 ≤ dif n f o m k * dif n f o m k := by
        rcases Int.lt_or_le (dif n f o m k) 0 with q | q
        · exact Int.mul_nonneg_of_nonpos_of_nonpos (by omega) (by omega)
        · exact Int.mul_nonneg q q
      omega
    · rw [if_neg e, if_neg (by simpa using e), Int.add_zero, Int.add_zero]
      exact ih
theorem dif_sq1 {n : Nat} {f : Nat → Int} (hf : ∀ j, j < n → okv (f j)) {m : Nat} (hm : m ≤ 31) (o : Int) (i : Nat) (h : dif n f o m i ≠ (-1000000001)) : dif n f o m i * dif n f o m i ≤ 153756924815376 := by
  have h1 := dif_ok hf hm o i
  exact (mul_bd (A := 12399876) (C := 12399876) (a := dif n f o m i) (c := dif n f o m i) (by omega) (by omega) (by omega) (by omega)).2
def wOK (w : Int) : Prop := 0 ≤ w ∧ w ≤ 3
theorem dv_0 (m : Int) : dv 0 m = 2 * (m * m) := by unfold dv; rw [if_pos rfl, Int.mul_assoc]
theorem dv_1 (m : Int) : dv 1 m = 6 * (m * m) := by unfold dv; rw [if_neg (by decide), if_neg (by decide), Int.mul_assoc]
theorem dv_2 (m : Int) : dv 2 m = 2 * (m * m) * (m * m) := by unfold dv; rw [if_neg (by decide), if_pos rfl]; simp only [Int.mul_assoc]
theorem dv_3 (m : Int) : dv 3 m = 6 * (m * m) := by unfold dv; rw [if_neg (by decide), if_neg (by decide), Int.mul_assoc]
theorem men_ok2 {n : Nat} {f : Nat → Int} (hf : ∀ j, j < n → okv (f j)) {m : Nat} (i : Int) : men n f m i = (-1000000001) ∨ (-((399996 * m : Nat) : Int) ≤ men n f m i ∧ men n f m i ≤ ((399996 * m : Nat) : Int)) := by
  unfold men
  split
  · rename_i h
    have h1 := smS_in (B := 399996) (fun j => sec_ok hf m (i + j)) m h
    right
    omega
  · exact Or.inl rfl
theorem dif_sq2 {n : Nat} {f : Nat → Int} (hf : ∀ j, j < n → okv (f j)) {m : Nat} (hm : 1 ≤ m) {w : Int} (hw : wOK w) (i : Nat) (h : dif n f (od w) m i ≠ (-1000000001)) : dif n f (od w) m i * dif n f (od w) m i ≤ 110000000000 * dv w m := by
  have hmm : (1 : Int) ≤ (m : Int) * m := by
    have := Int.mul_le_mul (a := 1) (b := 1) (c := (m : Int)) (d := m) (by omega) (by omega) (by omega) (by omega)
    omega
  unfold wOK at hw
  unfold dif at h ⊢
  split at h
  · rename_i hi
    rw [if_pos hi]
    rcases (show w = 0 ∨ w = 1 ∨ w = 2 ∨ w = 3 by omega) with e | e | e | e
    · subst e
      have ho : od 0 = 2 := rfl
      rw [ho, if_pos rfl] at h ⊢
      have h1 := sec_ok hf m i
      have h2 := (mul_bd (A := 399996) (C := 399996) (a := sec n f m i) (c := sec n f m i) (by omega) (by omega) (by omega) (by omega)).2
      rw [dv_0]
      omega
    · subst e
      have ho : od 1 = 3 := rfl
      rw [ho, if_neg (by decide), if_pos rfl] at h ⊢
      have h1 := thr_ok hf m i
      have h2 := (mul_bd (A := 799992) (C := 799992) (a := thr n f m i) (c := thr n f m i) (by omega) (by omega) (by omega) (by omega)).2
      rw [dv_1]
      omega
    · subst e
      have ho : od 2 = 4 := rfl
      rw [ho, if_neg (by decide), if_neg (by decide)] at h ⊢
      have h1 := men_ok2 hf (m := m) i
      have h2 := (mul_bd (A := 399996 * m) (C := 399996 * m) (a := men n f m i) (c := men n f m i) (by omega) (by omega) (by omega) (by omega)).2
      rw [Nat.mul_mul_mul_comm] at h2
      rw [dv_2]
      have h3 : (m : Int) * m ≤ (m : Int) * m * ((m : Int) * m) := by
        have := Int.mul_le_mul_of_nonneg_left (a := 1) (b := (m : Int) * m) (c := (m : Int) * m) hmm (by omega)
        rw [Int.mul_one] at this
        exact this
      rw [Int.mul_assoc]
      omega
    · subst e
      have ho : od 3 = 4 := rfl
      rw [ho, if_neg (by decide), if_neg (by decide)] at h ⊢
      have h1 := men_ok2 hf (m := m) i
      have h2 := (mul_bd (A := 399996 * m) (C := 399996 * m) (a := men n f m i) (c := men n f m i) (by omega) (by omega) (by omega) (by omega)).2
      rw [Nat.mul_mul_mul_comm] at h2
      rw [dv_3]
      omega
  · exact absurd rfl h
theorem dv_in {m : Nat} (hm : 1 ≤ m) (hm2 : m ≤ 31) {w : Int} (hw : wOK w) : 1 ≤ dv w m ∧ dv w m ≤ 1847042 := by
  have h1 := mul_bd (A := 31) (C := 31) (a := (m : Int)) (c := m) (by omega) (by omega) (by omega) (by omega)
  have hmm : (1 : Int) ≤ (m : Int) * m := by
    have := Int.mul_le_mul (a := 1) (b := 1) (c := (m : Int)) (d := m) (by omega) (by omega) (by omega) (by omega)
    omega
  have h2 := mul_bd (A := 961) (C := 961) (a := (m : Int) * m) (c := (m : Int) * m) (by omega) (by omega) (by omega) (by omega)
  have h3 : (m : Int) * m ≤ (m : Int) * m * ((m : Int) * m) := by
    have := Int.mul_le_mul_of_nonneg_left (a := 1) (b := (m : Int) * m) (c := (m : Int) * m) hmm (by omega)
    rw [Int.mul_one] at this
    exact this
  unfold wOK at hw
  rcases (show w = 0 ∨ w = 1 ∨ w = 2 ∨ w = 3 by omega) with e | e | e | e <;> subst e
  · rw [dv_0]; omega
  · rw [dv_1]; omega
  · rw [dv_2, Int.mul_assoc]; omega
  · rw [dv_3]; omega
theorem od_in {w : Int} : 2 ≤ od w ∧ od w ≤ 4 := by
  unfold od
  split
  · omega
  · split <;> omega
section VB
variable {n : Nat} {f : Nat → Int}
theorem vS_c (hf : ∀ j, j < n → okv (f j)) (hn : n ≤ 64) {m : Nat} (hm2 : m ≤ 31) {w : Int} : ((vS n f w m : Nat) : Int) = sqz n f (od w) m n ∧ vS n f w m < 2 ^ 54 := by
  have h1 := sqz_le (n := n) (f := f) (o := od w) (m := m) (C := 153756924815376) (by omega) (fun i h => dif_sq1 hf hm2 _ i h) n
  have h2 := cz_in (fun j => decide (dif n f (od w) m j ≠ (-1000000001))) n
  unfold vS
  omega
theorem vB_c (hn : n ≤ 64) {m : Nat} (hm : 1 ≤ m) (hm2 : m ≤ 31) {w : Int} (hw : wOK w) : ((vB n f w m : Nat) : Int) = dv w m * cnd n f (od w) m ∧ vB n f w m < 2 ^ 27 ∧ (vB n f w m = 0 ↔ cnd n f (od w) m = 0) := by
  have h1 := dv_in hm hm2 hw
  have h2 := cz_in (fun j => decide (dif n f (od w) m j ≠ (-1000000001))) n
  have h3 : cnd n f (od w) m = cz (fun j => decide (dif n f (od w) m j ≠ (-1000000001))) n := rfl
  rw [← h3] at h2
  have h4 := mul_bd (A := 1847042) (C := 64) (a := dv w m) (c := cnd n f (od w) m) (by omega) (by omega) (by omega) (by omega)
  have h5 := Int.mul_nonneg (a := dv w m) (b := cnd n f (od w) m) (by omega) (by omega)
  unfold vB
  refine ⟨by omega, by omega, ?_⟩
  constructor
  · intro h
    have h6 : dv w m * cnd n f (od w) m = 0 := by omega
    rcases Int.mul_eq_zero.mp h6 with q | q
    · omega
    · exact q
  · intro h
    rw [h, Int.mul_zero]
    rfl
theorem vS_K (hf : ∀ j, j < n → okv (f j)) (hn : n ≤ 64) {m : Nat} (hm : 1 ≤ m) (hm2 : m ≤ 31) {w : Int} (hw : wOK w) : vS n f w m ≤ 110000000000 * vB n f w m := by
  have hd := dv_in hm hm2 hw
  have h1 := (sqz_le (n := n) (f := f) (o := od w) (m := m) (C := 110000000000 * dv w m) (by omega) (fun i h => dif_sq2 hf hm hw i h) n).2
  have h2 := vS_c hf hn hm2 (w := w)
  have h3 := (vB_c (n := n) (f := f) hn hm hm2 hw).1
  have h4 : cnd n f (od w) m = cz (fun j => decide (dif n f (od w) m j ≠ (-1000000001))) n := rfl
  rw [← h4, Int.mul_assoc, ← h3] at h1
  omega
theorem vND (hf : ∀ j, j < n → okv (f j)) (hn : n ≤ 64) {m : Nat} (hm : 1 ≤ m) (hm2 : m ≤ 31) {w : Int} (hw : wOK w) : vN n f w m < 2 ^ 54 ∧ vD n f w m < 2 ^ 27 ∧ (vD n f w m = 0 ↔ vB n f w m = 0) ∧ vN n f w m ≤ 110000000000 * vD n f w m := by
  have h1 := (vS_c hf hn hm2 (w := w)).2
  have h2 := (vB_c (n := n) (f := f) hn hm hm2 hw).2.1
  have h3 := vS_K hf hn hm hm2 hw
  unfold vN vD
  split
  · rename_i e
    omega
  · rename_i e
    have hg : 0 < Nat.gcd (vS n f w m) (vB n f w m) := Nat.gcd_pos_of_pos_right _ (by omega)
    have d1 := Nat.gcd_dvd_left (vS n f w m) (vB n f w m)
    have d2 := Nat.gcd_dvd_right (vS n f w m) (vB n f w m)
    generalize Nat.gcd (vS n f w m) (vB n f w m) = g at *
    obtain ⟨u, hu⟩ := d1
    obtain ⟨v, hv⟩ := d2
    rw [hu, hv, Nat.mul_div_cancel_left _ hg, Nat.mul_div_cancel_left _ hg]
    have hv0 : 0 < v := by
      rcases Nat.eq_zero_or_pos v with q | q
      · rw [q, Nat.mul_zero] at hv
        omega
      · exact q
    have hu1 : u ≤ g * u := Nat.le_mul_of_pos_left u hg
    have hv1 : v ≤ g * v := Nat.le_mul_of_pos_left v hg
    have hgv : 0 < g * v := Nat.mul_pos hg hv0
    refine ⟨by omega, by omega, by omega, ?_⟩
    rw [hu, hv] at h3
    have h4 : g * u ≤ g * (110000000000 * v) := by
      rw [Nat.mul_left_comm]
      exact h3
    exact Nat.le_of_mul_le_mul_left h4 hg
end VB
theorem isq_u {v r r' : Int} (h1 : 0 ≤ r) (h2 : r * r ≤ v) (h3 : v < (r + 1) * (r + 1)) (h4 : 0 ≤ r') (h5 : r' * r' ≤ v) (h6 : v < (r' + 1) * (r' + 1)) : r = r' := by
  have key : ∀ {a b : Int}, 0 ≤ a → 0 ≤ b → a * a ≤ v → v < (b + 1) * (b + 1) → a ≤ b := by
    intro a b ha hb hav hvb
    rcases Int.lt_or_le b a with q | q
    · exfalso
      have := Int.mul_le_mul (a := b + 1) (b := b + 1) (c := a) (d := a) (by omega) (by omega) (by omega) (by omega)
      omega
    · exact q
  have k1 := key h1 h4 h2 h6
  have k2 := key h4 h1 h5 h3
  omega
noncomputable def isq (v : Int) : Int := @dite _ (∃ r : Int, 0 ≤ r ∧ r * r ≤ v ∧ v < (r + 1) * (r + 1)) (Classical.propDecidable _) (fun h => Classical.choose h) (fun _ => 0)
-- if h : ∃ r : Int, 0 ≤ r ∧ r * r ≤ v ∧ v < (r + 1) * (r + 1) then Classical.choose h else 0
theorem isq_eq {v r : Int} (h1 : 0 ≤ r) (h2 : r * r ≤ v) (h3 : v < (r + 1) * (r + 1)) : isq v = r := by
  have hex : ∃ r : Int, 0 ≤ r ∧ r * r ≤ v ∧ v < (r + 1) * (r + 1) := ⟨r, h1, h2, h3⟩
  have e : isq v = Classical.choose hex := dif_pos hex
  have hs := Classical.choose_spec hex
  rw [e]
  exact isq_u hs.1 hs.2.1 hs.2.2 h1 h2 h3
theorem l_pow : ∀ p, p < 31 → ((1 : Int64) <<< ((iI (p : Nat)).toInt64 &&& 63)) = lI ((2 ^ p : Nat) : Int) := by decide +kernel
section VR
variable {Ls : Nat} {xs : Nat → Int32} {P : qSem} {n : Nat} {f : Nat → Int} {M : qMem} {Q : qPost}
theorem s_sa_squareRoot (hG : qGood Ls xs P) {v : Int} (h1 : 0 ≤ v) (h2 : v < 4611686018427387904) (hQ : Q (some (.long (lI (isq v)))) M) : P 69 0 [(0, .long (lI v))] [] M Q := by
  refine v_sa_squareRoot_0 hG ?_
  have key : ∀ (j : Nat) (r : Int), j ≤ 31 → 0 ≤ r → r + (2 ^ j : Nat) ≤ 2147483648 → r * r ≤ v → v < (r + (2 ^ j : Nat)) * (r + (2 ^ j : Nat)) → P 69 4 [(0, .long (lI v)), (2, .long (lI r)), (4, .int (iI ((j : Int) - 1)))] [] M Q := by
    intro j
    induction j with
    | zero =>
      intro r _ h3 h4 h5 h6
      refine v_sa_squareRoot_4 hG ?_
      simp (disch := omega) only [iI_add, iI_sub, iI_mul, iI_neg, iI_lt, iI_le, iI_eq, iI_cl, vp_iI, Classical.not_not, iLn1000000005, iLn1000000004, iLn1000000003, iLn1000000002, iLn1000000001, iLn99999, iLn9999, iLn2, iLn1, iL0, iL1, iL2, iL3, iL4, iL5, iL6, iL7, iL8, iL9, iL10, iL15, iL16, iL31, iL32, iL40, iL42, iL45, iL48, iL57, iL59, iL63, iL64, iL65, iL120, iL126, iL455, iL520, iL9999, iL99999, iN2, iN8, iN64, iN65, iN120, iN130, iN520]
      refine ⟨fun _ => ?_, fun c => by omega⟩
      rw [isq_eq h3 h5 (by simpa using h6)] at hQ
      exact hQ
    | succ j ih =>
      intro r hj h3 h4 h5 h6
      have hp : ((2 ^ (j + 1) : Nat) : Int) = 2 * ((2 ^ j : Nat) : Int) := by rw [Nat.pow_succ]; push_cast; omega
      have hpos : (1 : Int) ≤ ((2 ^ j : Nat) : Int) := by
        have := Nat.one_le_two_pow (n := j)
        omega
      refine v_sa_squareRoot_4 hG ?_
      rw [show (((j + 1 : Nat) : Int) - 1) = ((j : Nat) : Int) by omega, l_pow j (by omega), lI_add, lI_mul]
      have hb := mul_bd (A := 2147483648) (C := 2147483648) (a := r + ((2 ^ j : Nat) : Int)) (c := r + ((2 ^ j : Nat) : Int)) (by omega) (by omega) (by omega) (by omega)
      rw [lg_cmpZ (by omega) (by omega) (by omega) (by omega)]
      have hz := cmpZ_in ((r + ((2 ^ j : Nat) : Int)) * (r + ((2 ^ j : Nat) : Int))) v
      simp (disch := omega) only [iI_add, iI_sub, iI_mul, iI_neg, iI_lt, iI_le, iI_eq, iI_cl, vp_iI, Classical.not_not, iLn1000000005, iLn1000000004, iLn1000000003, iLn1000000002, iLn1000000001, iLn99999, iLn9999, iLn2, iLn1, iL0, iL1, iL2, iL3, iL4, iL5, iL6, iL7, iL8, iL9, iL10, iL15, iL16, iL31, iL32, iL40, iL42, iL45, iL48, iL57, iL59, iL63, iL64, iL65, iL120, iL126, iL455, iL520, iL9999, iL99999, iN2, iN8, iN64, iN65, iN120, iN130, iN520, cmpZ_p]
      rw [show (j : Int) + -1 = (j : Int) - 1 by omega]
      refine ⟨fun c => by omega, fun _ => ⟨fun c => ?_, fun c => ?_⟩⟩
      · exact ih r (by omega) h3 (by omega) h5 (by omega)
      · refine ih (r + ((2 ^ j : Nat) : Int)) (by omega) (by omega) (by omega) (by omega) ?_
        rw [show r + ((2 ^ j : Nat) : Int) + ((2 ^ j : Nat) : Int) = r + ((2 ^ (j + 1) : Nat) : Int) by omega]
        exact h6
  rw [show (30 : Int32) = iI ((31 : Nat) - 1) by decide, lL0]
  exact key 31 0 (by omega) (by omega) (by omega) (by omega) (by omega)
theorem s_sa_orderFor (hG : qGood Ls xs P) {w : Int} (hw : wOK w) (hQ : Q (some (.int (iI (od w)))) M) : P 67 0 [(0, .int (iI w))] [] M Q := by
  refine v_sa_orderFor_0 hG ?_
  unfold wOK at hw
  unfold od at hQ
  simp (disch := omega) only [iI_add, iI_sub, iI_mul, iI_neg, iI_lt, iI_le, iI_eq, iI_cl, vp_iI, Classical.not_not, iLn1000000005, iLn1000000004, iLn1000000003, iLn1000000002, iLn1000000001, iLn99999, iLn9999, iLn2, iLn1, iL0, iL1, iL2, iL3, iL4, iL5, iL6, iL7, iL8, iL9, iL10, iL15, iL16, iL31, iL32, iL40, iL42, iL45, iL48, iL57, iL59, iL63, iL64, iL65, iL120, iL126, iL455, iL520, iL9999, iL99999, iN2, iN8, iN64, iN65, iN120, iN130, iN520]
  refine ⟨fun c => ⟨fun c2 => ?_, fun c2 => ?_⟩, fun c => ?_⟩
  · rw [if_neg c, if_neg c2] at hQ; exact hQ
  · rw [if_neg c, if_pos c2] at hQ; exact hQ
  · rw [if_pos c] at hQ; exact hQ
theorem s_sa_divisorFor (hG : qGood Ls xs P) {w m : Int} (hw : wOK w) (hQ : Q (some (.long (lI (dv w m)))) M) : P 68 0 [(0, .int (iI w)), (1, .long (lI m))] [] M Q := by
  refine v_sa_divisorFor_0 hG ?_
  unfold wOK at hw
  unfold dv at hQ
  rw [show Int32.ofInt 0 = iI 0 from rfl, show Int32.ofInt 2 = iI 2 from rfl, show (2 : Int64) = lI 2 by decide, show (6 : Int64) = lI 6 by decide]
  simp only [lI_mul]
  simp (disch := omega) only [iI_add, iI_sub, iI_mul, iI_neg, iI_lt, iI_le, iI_eq, iI_cl, vp_iI, Classical.not_not, iLn1000000005, iLn1000000004, iLn1000000003, iLn1000000002, iLn1000000001, iLn99999, iLn9999, iLn2, iLn1, iL0, iL1, iL2, iL3, iL4, iL5, iL6, iL7, iL8, iL9, iL10, iL15, iL16, iL31, iL32, iL40, iL42, iL45, iL48, iL57, iL59, iL63, iL64, iL65, iL120, iL126, iL455, iL520, iL9999, iL99999, iN2, iN8, iN64, iN65, iN120, iN130, iN520]
  refine ⟨fun c => ?_, fun c => ⟨fun c2 => ?_, fun c2 => ?_⟩⟩
  · rw [if_pos c] at hQ; exact hQ
  · rw [if_neg c, if_pos c2] at hQ; exact hQ
  · rw [if_neg c, if_neg c2] at hQ; exact hQ
theorem q1Rd : qRd 1 := ⟨rfl, rfl, rfl⟩
theorem s_sa_measure (hG : qGood Ls xs P) {w : Int} {m k : Nat} (hk : qFq k) (hR : cRd M 1 n f) (hw : wOK w) (hm : 1 ≤ m) (hm2 : m ≤ 31) (hQ : ∀ M', cFr M' k (vN n f w m) (vD n f w m) → qFm [k] M M' → Q none M') : P 66 0 [(0, .ref 0), (1, .int (iI w)), (2, .int (iI m)), (3, .ref k)] [] M Q := by
  have hn := hR.2.1
  have ho := od_in (w := w)
  refine v_sa_measure_0 hG hk ?_
  refine s_sa_orderFor hG hw ?_
  refine v_sa_measure_2 hG hk ?_
  have key : ∀ (d j : Nat), j + d = n → P 66 9 [(0, .ref 0), (1, .int (iI w)), (2, .int (iI m)), (3, .ref k), (4, .int (iI (od w))), (5, .long (lI (sqz n f (od w) m j))), (7, .long (lI (cz (fun j => decide (dif n f (od w) m j ≠ (-1000000001))) j))), (9, .int (iI j))] [] M Q := by
    intro d
    induction d with
    | zero =>
      intro j hj
      have e : j = n := by omega
      subst e
      refine v_sa_measure_9 hG hk ?_
      refine s_rd_size hG q1Rd hR ?_
      refine v_sa_measure_13 hG hk ?_
      simp (disch := omega) only [iI_add, iI_sub, iI_mul, iI_neg, iI_lt, iI_le, iI_eq, iI_cl, vp_iI, Classical.not_not, iLn1000000005, iLn1000000004, iLn1000000003, iLn1000000002, iLn1000000001, iLn99999, iLn9999, iLn2, iLn1, iL0, iL1, iL2, iL3, iL4, iL5, iL6, iL7, iL8, iL9, iL10, iL15, iL16, iL31, iL32, iL40, iL42, iL45, iL48, iL57, iL59, iL63, iL64, iL65, iL120, iL126, iL455, iL520, iL9999, iL99999, iN2, iN8, iN64, iN65, iN120, iN130, iN520]
      refine ⟨fun _ => ?_, fun c => by omega⟩
      rw [i2l (by omega) (by omega)]
      refine s_sa_divisorFor hG hw ?_
      refine v_sa_measure_44 hG hk ?_
      have a1 := vS_c hR.ok hn hm2 (w := w)
      have a2 := vB_c (n := j) (f := f) hn hm hm2 hw
      have h4 : cnd j f (od w) m = cz (fun i => decide (dif j f (od w) m i ≠ (-1000000001))) j := rfl
      rw [lI_mul, ← h4, ← a2.1, ← a1.1]
      refine s_fr_become hG hk (by omega) a2.2.1 (fun M' hM' hF => ?_)
      exact v_sa_measure_47 hG (hQ M' hM' hF)
    | succ d ih =>
      intro j hj
      have hd := dif_ok hR.ok hm2 (od w) j
      refine v_sa_measure_9 hG hk ?_
      refine s_rd_size hG q1Rd hR ?_
      refine v_sa_measure_13 hG hk ?_
      simp (disch := omega) only [iI_add, iI_sub, iI_mul, iI_neg, iI_lt, iI_le, iI_eq, iI_cl, vp_iI, Classical.not_not, iLn1000000005, iLn1000000004, iLn1000000003, iLn1000000002, iLn1000000001, iLn99999, iLn9999, iLn2, iLn1, iL0, iL1, iL2, iL3, iL4, iL5, iL6, iL7, iL8, iL9, iL10, iL15, iL16, iL31, iL32, iL40, iL42, iL45, iL48, iL57, iL59, iL63, iL64, iL65, iL120, iL126, iL455, iL520, iL9999, iL99999, iN2, iN8, iN64, iN65, iN120, iN130, iN520]
      refine ⟨fun c => by omega, fun _ => ?_⟩
      refine s_rd_differenceAt hG q1Rd hR ho.1 ho.2 hm2 (by omega) (by omega) ?_
      refine v_sa_measure_20 hG hk ?_
      have hz := cmpZ_in (dif n f (od w) m j) (-1000000001)
      rw [i2l (by omega) (by omega), show (-1000000001 : Int64) = lI (-1000000001) by decide, lg_cmpZ (by omega) (by omega) (by omega) (by omega), lI_mul, lI_add, lL1, lI_add]
      simp (disch := omega) only [iI_add, iI_sub, iI_mul, iI_neg, iI_lt, iI_le, iI_eq, iI_cl, vp_iI, Classical.not_not, iLn1000000005, iLn1000000004, iLn1000000003, iLn1000000002, iLn1000000001, iLn99999, iLn9999, iLn2, iLn1, iL0, iL1, iL2, iL3, iL4, iL5, iL6, iL7, iL8, iL9, iL10, iL15, iL16, iL31, iL32, iL40, iL42, iL45, iL48, iL57, iL59, iL63, iL64, iL65, iL120, iL126, iL455, iL520, iL9999, iL99999, iN2, iN8, iN64, iN65, iN120, iN130, iN520, cmpZ_0]
      have hI := ih (j + 1) (by omega)
      unfold sqz cz at hI
      refine ⟨fun c => ?_, fun c => ?_⟩
      · rw [if_neg (fun z => z c), if_neg (by simpa using c), Int.add_zero, Int.add_zero] at hI
        exact hI
      · rw [if_pos c, if_pos (by simpa using c)] at hI
        exact hI
  rw [lL0]
  simp (disch := omega) only [iI_add, iI_sub, iI_mul, iI_neg, iI_lt, iI_le, iI_eq, iI_cl, vp_iI, Classical.not_not, iLn1000000005, iLn1000000004, iLn1000000003, iLn1000000002, iLn1000000001, iLn99999, iLn9999, iLn2, iLn1, iL0, iL1, iL2, iL3, iL4, iL5, iL6, iL7, iL8, iL9, iL10, iL15, iL16, iL31, iL32, iL40, iL42, iL45, iL48, iL57, iL59, iL63, iL64, iL65, iL120, iL126, iL455, iL520, iL9999, iL99999, iN2, iN8, iN64, iN65, iN120, iN130, iN520]
  exact key n 0 (by omega)
end VR
end
section
/-! what the queries answer (for both sides), and the class's queries -/
def r32 (z : Int) : Prop := -2147483648 ≤ z ∧ z < 2147483648
def aReading (n : Nat) (f : Nat → Int) (i : Int) : Int := if 0 ≤ i ∧ i < n then f i.toNat else -1000000002
def aDiff (n : Nat) (f : Nat → Int) (o m i : Int) : Int := if (2 ≤ o ∧ o ≤ 4) ∧ (1 ≤ m ∧ m ≤ 31) ∧ 0 ≤ i then dif n f o m.toNat i else -1000000002
def aCount (n : Nat) (f : Nat → Int) (o m : Int) : Int := if (2 ≤ o ∧ o ≤ 4) ∧ (1 ≤ m ∧ m ≤ 31) then cnd n f o m.toNat else -1000000002
def aVar (n : Nat) (f : Nat → Int) (w m p : Int) : Int := if (0 ≤ w ∧ w ≤ 3) ∧ (1 ≤ m ∧ m ≤ 31) ∧ (0 ≤ p ∧ p ≤ 1) then (if vD n f w m.toNat = 0 then (-1000000001) else if p = 0 then (vN n f w m.toNat : Int) else (vD n f w m.toNat : Int)) else -1000000002
noncomputable def aDev (n : Nat) (f : Nat → Int) (w m : Int) : Int := if (0 ≤ w ∧ w ≤ 3) ∧ (1 ≤ m ∧ m ≤ 31) then (if vD n f w m.toNat = 0 then (-1000000001) else isq (tr6 (vN n f w m.toNat) (vD n f w m.toNat))) else -1000000002
def aCmp2 (n : Nat) (f : Nat → Int) (w : Int) (m o : Nat) : Int := cmpZ (vN n f w m * vD n f w o : Nat) (vN n f w o * vD n f w m : Nat)
def aCmp (n : Nat) (f : Nat → Int) (w m o : Int) : Int := if (0 ≤ w ∧ w ≤ 3) ∧ (1 ≤ m ∧ m ≤ 31) ∧ (1 ≤ o ∧ o ≤ 31) then (if vD n f w m.toNat = 0 ∨ vD n f w o.toNat = 0 then (-1000000001) else if aCmp2 n f w m.toNat o.toNat = 0 then 0 else if aCmp2 n f w m.toNat o.toNat < 0 then 1 else 2) else -1000000002
def bsz (n : Nat) (f : Nat → Int) (w : Int) : Nat → Nat
  | 0 => 0
  | k + 1 => if vD n f w (k + 1) ≠ 0 ∧ (bsz n f w k = 0 ∨ aCmp2 n f w (k + 1) (bsz n f w k) < 0) then k + 1 else bsz n f w k
def aBest (n : Nat) (f : Nat → Int) (w : Int) : Int := if 0 ≤ w ∧ w ≤ 3 then (if bsz n f w 31 = 0 then (-1000000001) else bsz n f w 31) else -1000000002
def nzc (n : Nat) (f : Nat → Int) (m F : Nat) : Int := cmpZ (F * vN n f 0 (2 * m) * vD n f 0 m : Nat) (3 * vN n f 0 m * vD n f 0 (2 * m) : Nat)
def knd (n : Nat) (f : Nat → Int) (m : Nat) : Int := if vD n f 0 m = 0 ∨ vD n f 0 (2 * m) = 0 ∨ vN n f 0 m = 0 then (-1000000001) else if nzc n f m 8 ≤ 0 then 0 else if nzc n f m 4 ≤ 0 then 1 else if nzc n f m 2 ≤ 0 then 2 else if nzc n f m 1 ≤ 0 then 3 else 4
def dof (k c m : Int) : Int := if k = 0 then (c + 1) * (c + 2 * m) / (2 * (c + m)) else if k = 1 then 3 * c * c / (2 * (c + m)) else if k = 2 then 5 * c * c / (4 * (c + 3 * m)) else c / m
def aNoise (n : Nat) (f : Nat → Int) (m : Int) : Int := if 1 ≤ m ∧ m ≤ 15 then knd n f m.toNat else -1000000002
def aFree (n : Nat) (f : Nat → Int) (m : Int) : Int := if 1 ≤ m ∧ m ≤ 15 then (if knd n f m.toNat = (-1000000001) then (-1000000001) else if dof (knd n f m.toNat) (cnd n f 2 m.toNat) m < 1 then 1 else dof (knd n f m.toNat) (cnd n f 2 m.toNat) m) else -1000000002
def aOutl (n : Nat) (f : Nat → Int) (lim : Int) : Int := if 0 ≤ lim ∧ lim ≤ 99999 then cz (otl n f lim) n else -1000000002
def aTold (n : Nat) (f : Nat → Int) (tl d w : Int) : Int := if w = 0 then n else if w = 1 then cz (fun j => decide (f j ≠ (-1000000001))) n else if w = 2 then lsz f n else if w = 3 then grz f n else if w = 4 then cz (stg f) n else if w = 5 then lgz n f n else if w = 6 then wdz n f 31 else if w = 7 then tl else if w = 8 then d else -1000000002
theorem knd_in (n : Nat) (f : Nat → Int) (m : Nat) : knd n f m = (-1000000001) ∨ (0 ≤ knd n f m ∧ knd n f m ≤ 4) := by
  unfold knd
  split
  · exact Or.inl rfl
  · right
    split
    · omega
    · split
      · omega
      · split
        · omega
        · split <;> omega
theorem bsz_in (n : Nat) (f : Nat → Int) (w : Int) : ∀ k, bsz n f w k ≤ k := by
  intro k
  induction k with
  | zero => exact Nat.le_refl _
  | succ k ih => unfold bsz; split <;> omega
theorem bsz_D (n : Nat) (f : Nat → Int) (w : Int) : ∀ k, bsz n f w k ≠ 0 → vD n f w (bsz n f w k) ≠ 0 := by
  intro k
  induction k with
  | zero => intro h; exact absurd rfl h
  | succ k ih =>
    unfold bsz
    split
    · rename_i c; intro _; exact c.1
    · exact ih
theorem vN_0 {n : Nat} {f : Nat → Int} {w : Int} {m : Nat} (h : vD n f w m = 0) (hf : ∀ j, j < n → okv (f j)) (hn : n ≤ 64) (hm : 1 ≤ m) (hm2 : m ≤ 31) (hw : wOK w) : vN n f w m = 0 := by
  have h1 := (vND hf hn hm hm2 hw).2.2.1.mp h
  unfold vN
  rw [if_pos h1]
theorem tr6_in {n : Nat} {f : Nat → Int} (hf : ∀ j, j < n → okv (f j)) (hn : n ≤ 64) {m : Nat} (hm : 1 ≤ m) (hm2 : m ≤ 31) {w : Int} (hw : wOK w) (hD : vD n f w m ≠ 0) : vN n f w m / vD n f w m ≤ 110000000000 ∧ tr6 (vN n f w m) (vD n f w m) < 200000000000000000 := by
  have h1 := vND hf hn hm hm2 hw
  have hpos : 0 < vD n f w m := by omega
  have h2 : vN n f w m / vD n f w m ≤ 110000000000 := by
    refine Nat.div_le_of_le_mul ?_
    rw [Nat.mul_comm]
    exact h1.2.2.2
  refine ⟨h2, ?_⟩
  have h3 := Nat.mod_lt (vN n f w m) hpos
  have h4 : vN n f w m % vD n f w m * 1000000 / vD n f w m ≤ 1000000 := by
    refine Nat.div_le_of_le_mul ?_
    exact Nat.mul_le_mul (by omega) (Nat.le_refl _)
  unfold tr6
  omega
section SAQ
variable {Ls : Nat} {xs : Nat → Int32} {P : qSem} {n : Nat} {f : Nat → Int} {M : qMem} {Q : qPost}
theorem s_sa_isPhase (hG : qGood Ls xs P) {v : Int} (h1 : -9223372036854775808 ≤ v) (h2 : v < 9223372036854775808) (hQ : Q (some (.int (iI (bZ (-99999 ≤ v ∧ v ≤ 99999))))) M) : P 55 0 [(0, .long (lI v))] [] M Q := by
  refine v_sa_isPhase_0 hG ?_
  rw [show (-99999 : Int64) = lI (-99999) by decide, show (99999 : Int64) = lI 99999 by decide, lg_cmpZ h1 h2 (by omega) (by omega), lg_cmpZ h1 h2 (by omega) (by omega)]
  have hz := cmpZ_in v (-99999)
  have hz2 := cmpZ_in v 99999
  have hl : ∀ a b : Int, cmpZ a b < 0 ↔ a < b := fun a b => by unfold cmpZ; split <;> (try split) <;> omega
  simp (disch := omega) only [iI_add, iI_sub, iI_mul, iI_neg, iI_lt, iI_le, iI_eq, iI_cl, vp_iI, Classical.not_not, iLn1000000005, iLn1000000004, iLn1000000003, iLn1000000002, iLn1000000001, iLn99999, iLn9999, iLn2, iLn1, iL0, iL1, iL2, iL3, iL4, iL5, iL6, iL7, iL8, iL9, iL10, iL15, iL16, iL31, iL32, iL40, iL42, iL45, iL48, iL57, iL59, iL63, iL64, iL65, iL120, iL126, iL455, iL520, iL9999, iL99999, iN2, iN8, iN64, iN65, iN120, iN130, iN520, cmpZ_p, hl]
  exact ⟨fun c => q_b hQ (bZ_f (by omega)), fun c => ⟨fun c2 => q_b hQ (bZ_f (by omega)), fun c2 => q_b hQ (bZ_t (by omega))⟩⟩
theorem s_sa_isLimit (hG : qGood Ls xs P) {v : Int} (h : r32 v) (hQ : Q (some (.int (iI (bZ (0 ≤ v ∧ v ≤ 99999))))) M) : P 56 0 [(0, .int (iI v))] [] M Q := by
  obtain ⟨h1, h2⟩ := h
  refine v_sa_isLimit_0 hG ?_
  simp (disch := omega) only [iI_add, iI_sub, iI_mul, iI_neg, iI_lt, iI_le, iI_eq, iI_cl, vp_iI, Classical.not_not, iLn1000000005, iLn1000000004, iLn1000000003, iLn1000000002, iLn1000000001, iLn99999, iLn9999, iLn2, iLn1, iL0, iL1, iL2, iL3, iL4, iL5, iL6, iL7, iL8, iL9, iL10, iL15, iL16, iL31, iL32, iL40, iL42, iL45, iL48, iL57, iL59, iL63, iL64, iL65, iL120, iL126, iL455, iL520, iL9999, iL99999, iN2, iN8, iN64, iN65, iN120, iN130, iN520]
  exact ⟨fun c => q_b hQ (bZ_f (by omega)), fun c => ⟨fun c2 => q_b hQ (bZ_f (by omega)), fun c2 => q_b hQ (bZ_t (by omega))⟩⟩
theorem s_sa_isOrder (hG : qGood Ls xs P) {v : Int} (h : r32 v) (hQ : Q (some (.int (iI (bZ (2 ≤ v ∧ v ≤ 4))))) M) : P 57 0 [(0, .int (iI v))] [] M Q := by
  obtain ⟨h1, h2⟩ := h
  refine v_sa_isOrder_0 hG ?_
  simp (disch := omega) only [iI_add, iI_sub, iI_mul, iI_neg, iI_lt, iI_le, iI_eq, iI_cl, vp_iI, Classical.not_not, iLn1000000005, iLn1000000004, iLn1000000003, iLn1000000002, iLn1000000001, iLn99999, iLn9999, iLn2, iLn1, iL0, iL1, iL2, iL3, iL4, iL5, iL6, iL7, iL8, iL9, iL10, iL15, iL16, iL31, iL32, iL40, iL42, iL45, iL48, iL57, iL59, iL63, iL64, iL65, iL120, iL126, iL455, iL520, iL9999, iL99999, iN2, iN8, iN64, iN65, iN120, iN130, iN520]
  exact ⟨fun c => q_b hQ (bZ_f (by omega)), fun c => ⟨fun c2 => q_b hQ (bZ_f (by omega)), fun c2 => q_b hQ (bZ_t (by omega))⟩⟩
theorem s_sa_isM (hG : qGood Ls xs P) {v : Int} (h : r32 v) (hQ : Q (some (.int (iI (bZ (1 ≤ v ∧ v ≤ 31))))) M) : P 58 0 [(0, .int (iI v))] [] M Q := by
  obtain ⟨h1, h2⟩ := h
  refine v_sa_isM_0 hG ?_
  simp (disch := omega) only [iI_add, iI_sub, iI_mul, iI_neg, iI_lt, iI_le, iI_eq, iI_cl, vp_iI, Classical.not_not, iLn1000000005, iLn1000000004, iLn1000000003, iLn1000000002, iLn1000000001, iLn99999, iLn9999, iLn2, iLn1, iL0, iL1, iL2, iL3, iL4, iL5, iL6, iL7, iL8, iL9, iL10, iL15, iL16, iL31, iL32, iL40, iL42, iL45, iL48, iL57, iL59, iL63, iL64, iL65, iL120, iL126, iL455, iL520, iL9999, iL99999, iN2, iN8, iN64, iN65, iN120, iN130, iN520]
  exact ⟨fun c => q_b hQ (bZ_f (by omega)), fun c => ⟨fun c2 => q_b hQ (bZ_f (by omega)), fun c2 => q_b hQ (bZ_t (by omega))⟩⟩
theorem s_sa_isVariance (hG : qGood Ls xs P) {v : Int} (h : r32 v) (hQ : Q (some (.int (iI (bZ (0 ≤ v ∧ v ≤ 3))))) M) : P 59 0 [(0, .int (iI v))] [] M Q := by
  obtain ⟨h1, h2⟩ := h
  refine v_sa_isVariance_0 hG ?_
  simp (disch := omega) only [iI_add, iI_sub, iI_mul, iI_neg, iI_lt, iI_le, iI_eq, iI_cl, vp_iI, Classical.not_not, iLn1000000005, iLn1000000004, iLn1000000003, iLn1000000002, iLn1000000001, iLn99999, iLn9999, iLn2, iLn1, iL0, iL1, iL2, iL3, iL4, iL5, iL6, iL7, iL8, iL9, iL10, iL15, iL16, iL31, iL32, iL40, iL42, iL45, iL48, iL57, iL59, iL63, iL64, iL65, iL120, iL126, iL455, iL520, iL9999, iL99999, iN2, iN8, iN64, iN65, iN120, iN130, iN520]
  exact ⟨fun c => q_b hQ (bZ_f (by omega)), fun c => ⟨fun c2 => q_b hQ (bZ_f (by omega)), fun c2 => q_b hQ (bZ_t (by omega))⟩⟩
theorem C_reading (hG : qGood Ls xs P) {i : Int} (hR : cRd M 1 n f) (hi : r32 i) (hQ : Q (some (.int (iI (aReading n f i)))) M) : P 46 0 [(0, .ref 0), (1, .int (iI i))] [] M Q := by
  obtain ⟨h1, h2⟩ := hi
  unfold aReading at hQ
  refine v_sa_reading_0 hG ?_
  refine s_rd_reaches hG q1Rd hR h1 h2 ?_
  refine v_sa_reading_4 hG ?_
  have hz := bZ_in (0 ≤ i ∧ i < n)
  simp (disch := omega) only [iI_add, iI_sub, iI_mul, iI_neg, iI_lt, iI_le, iI_eq, iI_cl, vp_iI, Classical.not_not, iLn1000000005, iLn1000000004, iLn1000000003, iLn1000000002, iLn1000000001, iLn99999, iLn9999, iLn2, iLn1, iL0, iL1, iL2, iL3, iL4, iL5, iL6, iL7, iL8, iL9, iL10, iL15, iL16, iL31, iL32, iL40, iL42, iL45, iL48, iL57, iL59, iL63, iL64, iL65, iL120, iL126, iL455, iL520, iL9999, iL99999, iN2, iN8, iN64, iN65, iN120, iN130, iN520, bZ_0]
  refine ⟨fun c => ?_, fun c => ?_⟩
  · rw [if_pos c] at hQ
    refine s_rd_at hG q1Rd hR h1 h2 ?_
    refine v_sa_reading_11 hG (q_i ?_ hQ)
    unfold vl
    rw [if_pos c]
  · rw [if_neg c] at hQ
    exact hQ
theorem C_difference (hG : qGood Ls xs P) {o m i : Int} (hR : cRd M 1 n f) (ho : r32 o) (hm : r32 m) (hi : r32 i) (hQ : Q (some (.int (iI (aDiff n f o m i)))) M) : P 47 0 [(0, .ref 0), (1, .int (iI o)), (2, .int (iI m)), (3, .int (iI i))] [] M Q := by
  unfold aDiff at hQ
  refine v_sa_difference_0 hG ?_
  refine s_sa_isOrder hG ho ?_
  refine v_sa_difference_2 hG ?_
  have hz := bZ_in (2 ≤ o ∧ o ≤ 4)
  simp (disch := omega) only [iI_add, iI_sub, iI_mul, iI_neg, iI_lt, iI_le, iI_eq, iI_cl, vp_iI, Classical.not_not, iLn1000000005, iLn1000000004, iLn1000000003, iLn1000000002, iLn1000000001, iLn99999, iLn9999, iLn2, iLn1, iL0, iL1, iL2, iL3, iL4, iL5, iL6, iL7, iL8, iL9, iL10, iL15, iL16, iL31, iL32, iL40, iL42, iL45, iL48, iL57, iL59, iL63, iL64, iL65, iL120, iL126, iL455, iL520, iL9999, iL99999, iN2, iN8, iN64, iN65, iN120, iN130, iN520, bZ_0]
  refine ⟨fun c => ?_, fun c => ?_⟩
  · rw [if_neg (fun z => c z.1)] at hQ
    exact hQ
  refine s_sa_isM hG hm ?_
  refine v_sa_difference_5 hG ?_
  have hz2 := bZ_in (1 ≤ m ∧ m ≤ 31)
  obtain ⟨h1, h2⟩ := id hi
  simp (disch := omega) only [iI_add, iI_sub, iI_mul, iI_neg, iI_lt, iI_le, iI_eq, iI_cl, vp_iI, Classical.not_not, iLn1000000005, iLn1000000004, iLn1000000003, iLn1000000002, iLn1000000001, iLn99999, iLn9999, iLn2, iLn1, iL0, iL1, iL2, iL3, iL4, iL5, iL6, iL7, iL8, iL9, iL10, iL15, iL16, iL31, iL32, iL40, iL42, iL45, iL48, iL57, iL59, iL63, iL64, iL65, iL120, iL126, iL455, iL520, iL9999, iL99999, iN2, iN8, iN64, iN65, iN120, iN130, iN520, bZ_0]
  refine ⟨fun c2 => ?_, fun c2 => ⟨fun c3 => ?_, fun c3 => ?_⟩⟩
  · rw [if_neg (fun z => c2 z.2.1)] at hQ
    exact hQ
  · rw [if_pos ⟨c, c2, c3⟩] at hQ
    have e : m = ((m.toNat : Nat) : Int) := by omega
    rw [e]
    refine s_rd_differenceAt hG q1Rd hR c.1 c.2 (by omega) h1 h2 ?_
    exact v_sa_difference_16 hG hQ
  · rw [if_neg (fun z => c3 z.2.2)] at hQ
    exact hQ
theorem C_count (hG : qGood Ls xs P) {o m : Int} (hR : cRd M 1 n f) (ho : r32 o) (hm : r32 m) (hQ : Q (some (.int (iI (aCount n f o m)))) M) : P 48 0 [(0, .ref 0), (1, .int (iI o)), (2, .int (iI m))] [] M Q := by
  unfold aCount at hQ
  refine v_sa_count_0 hG ?_
  refine s_sa_isOrder hG ho ?_
  refine v_sa_count_2 hG ?_
  have hz := bZ_in (2 ≤ o ∧ o ≤ 4)
  simp (disch := omega) only [iI_add, iI_sub, iI_mul, iI_neg, iI_lt, iI_le, iI_eq, iI_cl, vp_iI, Classical.not_not, iLn1000000005, iLn1000000004, iLn1000000003, iLn1000000002, iLn1000000001, iLn99999, iLn9999, iLn2, iLn1, iL0, iL1, iL2, iL3, iL4, iL5, iL6, iL7, iL8, iL9, iL10, iL15, iL16, iL31, iL32, iL40, iL42, iL45, iL48, iL57, iL59, iL63, iL64, iL65, iL120, iL126, iL455, iL520, iL9999, iL99999, iN2, iN8, iN64, iN65, iN120, iN130, iN520, bZ_0]
  refine ⟨fun c => ?_, fun c => ?_⟩
  · rw [if_neg (fun z => c z.1)] at hQ
    exact hQ
  refine s_sa_isM hG hm ?_
  refine v_sa_count_5 hG ?_
  have hz2 := bZ_in (1 ≤ m ∧ m ≤ 31)
  simp (disch := omega) only [iI_add, iI_sub, iI_mul, iI_neg, iI_lt, iI_le, iI_eq, iI_cl, vp_iI, Classical.not_not, iLn1000000005, iLn1000000004, iLn1000000003, iLn1000000002, iLn1000000001, iLn99999, iLn9999, iLn2, iLn1, iL0, iL1, iL2, iL3, iL4, iL5, iL6, iL7, iL8, iL9, iL10, iL15, iL16, iL31, iL32, iL40, iL42, iL45, iL48, iL57, iL59, iL63, iL64, iL65, iL120, iL126, iL455, iL520, iL9999, iL99999, iN2, iN8, iN64, iN65, iN120, iN130, iN520, bZ_0]
  refine ⟨fun c2 => ?_, fun c2 => ?_⟩
  · rw [if_pos ⟨c, c2⟩] at hQ
    have e : m = ((m.toNat : Nat) : Int) := by omega
    rw [e]
    refine s_rd_countOf hG q1Rd hR c.1 c.2 (by omega) ?_
    exact v_sa_count_13 hG hQ
  · rw [if_neg (fun z => c2 z.2)] at hQ
    exact hQ
theorem q34 : qFq 34 := rfl
theorem q35 : qFq 35 := rfl
theorem C_variance (hG : qGood Ls xs P) {w m p : Int} (hR : cRd M 1 n f) (hw : r32 w) (hm : r32 m) (hp : r32 p) (hQ : ∀ M', qFm [34, 35] M M' → Q (some (.long (lI (aVar n f w m p)))) M') : P 49 0 [(0, .ref 0), (1, .int (iI w)), (2, .int (iI m)), (3, .int (iI p))] [] M Q := by
  have hQ0 := hQ M qFm.rf
  unfold aVar at hQ hQ0
  refine v_sa_variance_0 hG ?_
  refine s_sa_isVariance hG hw ?_
  refine v_sa_variance_2 hG ?_
  rw [show (-1000000002 : Int64) = lI (-1000000002) by decide]
  have hz := bZ_in (0 ≤ w ∧ w ≤ 3)
  simp (disch := omega) only [iI_add, iI_sub, iI_mul, iI_neg, iI_lt, iI_le, iI_eq, iI_cl, vp_iI, Classical.not_not, iLn1000000005, iLn1000000004, iLn1000000003, iLn1000000002, iLn1000000001, iLn99999, iLn9999, iLn2, iLn1, iL0, iL1, iL2, iL3, iL4, iL5, iL6, iL7, iL8, iL9, iL10, iL15, iL16, iL31, iL32, iL40, iL42, iL45, iL48, iL57, iL59, iL63, iL64, iL65, iL120, iL126, iL455, iL520, iL9999, iL99999, iN2, iN8, iN64, iN65, iN120, iN130, iN520, bZ_0]
  refine ⟨fun c => ?_, fun c => ?_⟩
  · rw [if_neg (fun z => c z.1)] at hQ0
    exact hQ0
  refine s_sa_isM hG hm ?_
  refine v_sa_variance_5 hG ?_
  rw [show (-1000000002 : Int64) = lI (-1000000002) by decide]
  have hz2 := bZ_in (1 ≤ m ∧ m ≤ 31)
  obtain ⟨h1, h2⟩ := id hp
  simp (disch := omega) only [iI_add, iI_sub, iI_mul, iI_neg, iI_lt, iI_le, iI_eq, iI_cl, vp_iI, Classical.not_not, iLn1000000005, iLn1000000004, iLn1000000003, iLn1000000002, iLn1000000001, iLn99999, iLn9999, iLn2, iLn1, iL0, iL1, iL2, iL3, iL4, iL5, iL6, iL7, iL8, iL9, iL10, iL15, iL16, iL31, iL32, iL40, iL42, iL45, iL48, iL57, iL59, iL63, iL64, iL65, iL120, iL126, iL455, iL520, iL9999, iL99999, iN2, iN8, iN64, iN65, iN120, iN130, iN520, bZ_0]
  refine ⟨fun c2 => ?_, fun c2 => ⟨fun c3 => ?_, fun c3 => ⟨fun c4 => ?_, fun c4 => ?_⟩⟩⟩
  · rw [if_neg (fun z => c2 z.2.1)] at hQ0
    exact hQ0
  · rw [if_neg (by omega)] at hQ0
    exact hQ0
  · simp only [if_pos (show (0 ≤ w ∧ w ≤ 3) ∧ (1 ≤ m ∧ m ≤ 31) ∧ (0 ≤ p ∧ p ≤ 1) by omega)] at hQ
    have e : m = ((m.toNat : Nat) : Int) := by omega
    rw [e]
    have b := vND hR.ok hR.2.1 (m := m.toNat) (by omega) (by omega) (w := w) c
    refine s_sa_measure hG q34 hR c (by omega) (by omega) (fun M1 hF1 hFm => ?_)
    have hq := hQ M1 (hFm.up (by simp))
    refine v_sa_variance_19 hG ?_
    refine s_fr_exists hG q34 hF1 (by omega) ?_
    refine v_sa_variance_22 hG ?_
    rw [hF1.1, hF1.2, show (-1000000001 : Int64) = lI (-1000000001) by decide]
    have hz3 := bZ_in (0 < vD n f w m.toNat)
    simp (disch := omega) only [iI_add, iI_sub, iI_mul, iI_neg, iI_lt, iI_le, iI_eq, iI_cl, vp_iI, Classical.not_not, iLn1000000005, iLn1000000004, iLn1000000003, iLn1000000002, iLn1000000001, iLn99999, iLn9999, iLn2, iLn1, iL0, iL1, iL2, iL3, iL4, iL5, iL6, iL7, iL8, iL9, iL10, iL15, iL16, iL31, iL32, iL40, iL42, iL45, iL48, iL57, iL59, iL63, iL64, iL65, iL120, iL126, iL455, iL520, iL9999, iL99999, iN2, iN8, iN64, iN65, iN120, iN130, iN520, bZ_0]
    refine ⟨fun c5 => ⟨fun c6 => ?_, fun c6 => ?_⟩, fun c5 => ?_⟩
    · rw [if_neg (by omega), if_neg c6] at hq
      exact hq
    · rw [if_neg (by omega), if_pos c6] at hq
      exact hq
    · rw [if_pos (by omega)] at hq
      exact hq
  · rw [if_neg (by omega)] at hQ0
    exact hQ0
theorem C_deviation (hG : qGood Ls xs P) {w m : Int} (hR : cRd M 1 n f) (hw : r32 w) (hm : r32 m) (hQ : ∀ M', qFm [34, 35] M M' → Q (some (.long (lI (aDev n f w m)))) M') : P 50 0 [(0, .ref 0), (1, .int (iI w)), (2, .int (iI m))] [] M Q := by
  have hQ0 := hQ M qFm.rf
  unfold aDev at hQ hQ0
  refine v_sa_deviation_0 hG ?_
  refine s_sa_isVariance hG hw ?_
  refine v_sa_deviation_2 hG ?_
  rw [show (-1000000002 : Int64) = lI (-1000000002) by decide]
  have hz := bZ_in (0 ≤ w ∧ w ≤ 3)
  simp (disch := omega) only [iI_add, iI_sub, iI_mul, iI_neg, iI_lt, iI_le, iI_eq, iI_cl, vp_iI, Classical.not_not, iLn1000000005, iLn1000000004, iLn1000000003, iLn1000000002, iLn1000000001, iLn99999, iLn9999, iLn2, iLn1, iL0, iL1, iL2, iL3, iL4, iL5, iL6, iL7, iL8, iL9, iL10, iL15, iL16, iL31, iL32, iL40, iL42, iL45, iL48, iL57, iL59, iL63, iL64, iL65, iL120, iL126, iL455, iL520, iL9999, iL99999, iN2, iN8, iN64, iN65, iN120, iN130, iN520, bZ_0]
  refine ⟨fun c => ?_, fun c => ?_⟩
  · rw [if_neg (fun z => c z.1)] at hQ0
    exact hQ0
  refine s_sa_isM hG hm ?_
  refine v_sa_deviation_5 hG ?_
  rw [show (-1000000002 : Int64) = lI (-1000000002) by decide]
  have hz2 := bZ_in (1 ≤ m ∧ m ≤ 31)
  simp (disch := omega) only [iI_add, iI_sub, iI_mul, iI_neg, iI_lt, iI_le, iI_eq, iI_cl, vp_iI, Classical.not_not, iLn1000000005, iLn1000000004, iLn1000000003, iLn1000000002, iLn1000000001, iLn99999, iLn9999, iLn2, iLn1, iL0, iL1, iL2, iL3, iL4, iL5, iL6, iL7, iL8, iL9, iL10, iL15, iL16, iL31, iL32, iL40, iL42, iL45, iL48, iL57, iL59, iL63, iL64, iL65, iL120, iL126, iL455, iL520, iL9999, iL99999, iN2, iN8, iN64, iN65, iN120, iN130, iN520, bZ_0]
  refine ⟨fun c2 => ?_, fun c2 => ?_⟩
  · simp only [if_pos (show (0 ≤ w ∧ w ≤ 3) ∧ (1 ≤ m ∧ m ≤ 31) by omega)] at hQ
    have e : m = ((m.toNat : Nat) : Int) := by omega
    rw [e]
    have b := vND hR.ok hR.2.1 (m := m.toNat) (by omega) (by omega) (w := w) c
    refine s_sa_measure hG q34 hR c (by omega) (by omega) (fun M1 hF1 hFm => ?_)
    have hq := hQ M1 (hFm.up (by simp))
    refine v_sa_deviation_14 hG ?_
    refine s_fr_exists hG q34 hF1 (by omega) ?_
    refine v_sa_deviation_17 hG ?_
    rw [show (-1000000001 : Int64) = lI (-1000000001) by decide, show (1000000 : Int64) = lI 1000000 by decide]
    have hz3 := bZ_in (0 < vD n f w m.toNat)
    simp (disch := omega) only [iI_add, iI_sub, iI_mul, iI_neg, iI_lt, iI_le, iI_eq, iI_cl, vp_iI, Classical.not_not, iLn1000000005, iLn1000000004, iLn1000000003, iLn1000000002, iLn1000000001, iLn99999, iLn9999, iLn2, iLn1, iL0, iL1, iL2, iL3, iL4, iL5, iL6, iL7, iL8, iL9, iL10, iL15, iL16, iL31, iL32, iL40, iL42, iL45, iL48, iL57, iL59, iL63, iL64, iL65, iL120, iL126, iL455, iL520, iL9999, iL99999, iN2, iN8, iN64, iN65, iN120, iN130, iN520, bZ_0]
    refine ⟨fun c5 => ?_, fun c5 => ?_⟩
    · rw [if_neg (by omega)] at hq
      have b2 := tr6_in hR.ok hR.2.1 (m := m.toNat) (by omega) (by omega) (w := w) c (by omega)
      refine s_fr_times hG q34 hF1 c5 b.2.1 (by omega) (by omega) ?_
      refine v_sa_deviation_24 hG ?_
      refine s_sa_squareRoot hG (by omega) (by omega) ?_
      exact v_sa_deviation_25 hG hq
    · rw [if_pos (by omega)] at hq
      exact hq
  · rw [if_neg (fun z => c2 z.2)] at hQ0
    exact hQ0
theorem C_compare (hG : qGood Ls xs P) {w m o : Int} (hR : cRd M 1 n f) (hw : r32 w) (hm : r32 m) (ho : r32 o) (hQ : ∀ M', qFm [34, 35] M M' → Q (some (.int (iI (aCmp n f w m o)))) M') : P 51 0 [(0, .ref 0), (1, .int (iI w)), (2, .int (iI m)), (3, .int (iI o))] [] M Q := by
  have hQ0 := hQ M qFm.rf
  unfold aCmp at hQ hQ0
  refine v_sa_compare_0 hG ?_
  refine s_sa_isVariance hG hw ?_
  refine v_sa_compare_2 hG ?_
  have hz := bZ_in (0 ≤ w ∧ w ≤ 3)
  simp (disch := omega) only [iI_add, iI_sub, iI_mul, iI_neg, iI_lt, iI_le, iI_eq, iI_cl, vp_iI, Classical.not_not, iLn1000000005, iLn1000000004, iLn1000000003, iLn1000000002, iLn1000000001, iLn99999, iLn9999, iLn2, iLn1, iL0, iL1, iL2, iL3, iL4, iL5, iL6, iL7, iL8, iL9, iL10, iL15, iL16, iL31, iL32, iL40, iL42, iL45, iL48, iL57, iL59, iL63, iL64, iL65, iL120, iL126, iL455, iL520, iL9999, iL99999, iN2, iN8, iN64, iN65, iN120, iN130, iN520, bZ_0]
  refine ⟨fun c => ?_, fun c => ?_⟩
  · rw [if_neg (fun z => c z.1)] at hQ0
    exact hQ0
  refine s_sa_isM hG hm ?_
  refine v_sa_compare_5 hG ?_
  have hz2 := bZ_in (1 ≤ m ∧ m ≤ 31)
  simp (disch := omega) only [iI_add, iI_sub, iI_mul, iI_neg, iI_lt, iI_le, iI_eq, iI_cl, vp_iI, Classical.not_not, iLn1000000005, iLn1000000004, iLn1000000003, iLn1000000002, iLn1000000001, iLn99999, iLn9999, iLn2, iLn1, iL0, iL1, iL2, iL3, iL4, iL5, iL6, iL7, iL8, iL9, iL10, iL15, iL16, iL31, iL32, iL40, iL42, iL45, iL48, iL57, iL59, iL63, iL64, iL65, iL120, iL126, iL455, iL520, iL9999, iL99999, iN2, iN8, iN64, iN65, iN120, iN130, iN520, bZ_0]
  refine ⟨fun c2 => ?_, fun c2 => ?_⟩
  · rw [if_neg (fun z => c2 z.2.1)] at hQ0
    exact hQ0
  refine s_sa_isM hG ho ?_
  refine v_sa_compare_8 hG ?_
  have hz4 := bZ_in (1 ≤ o ∧ o ≤ 31)
  simp (disch := omega) only [iI_add, iI_sub, iI_mul, iI_neg, iI_lt, iI_le, iI_eq, iI_cl, vp_iI, Classical.not_not, iLn1000000005, iLn1000000004, iLn1000000003, iLn1000000002, iLn1000000001, iLn99999, iLn9999, iLn2, iLn1, iL0, iL1, iL2, iL3, iL4, iL5, iL6, iL7, iL8, iL9, iL10, iL15, iL16, iL31, iL32, iL40, iL42, iL45, iL48, iL57, iL59, iL63, iL64, iL65, iL120, iL126, iL455, iL520, iL9999, iL99999, iN2, iN8, iN64, iN65, iN120, iN130, iN520, bZ_0]
  refine ⟨fun c3 => ?_, fun c3 => ?_⟩
  · simp only [if_pos (show (0 ≤ w ∧ w ≤ 3) ∧ (1 ≤ m ∧ m ≤ 31) ∧ (1 ≤ o ∧ o ≤ 31) by omega)] at hQ
    have e : m = ((m.toNat : Nat) : Int) := by omega
    have e2 : o = ((o.toNat : Nat) : Int) := by omega
    rw [e, e2]
    have b := vND hR.ok hR.2.1 (m := m.toNat) (by omega) (by omega) (w := w) c
    have b2 := vND hR.ok hR.2.1 (m := o.toNat) (by omega) (by omega) (w := w) c
    refine s_sa_measure hG q34 hR c (by omega) (by omega) (fun M1 hF1 hFm => ?_)
    refine v_sa_compare_17 hG ?_
    refine s_sa_measure hG q35 (hR.fm hFm (by decide) (by decide)) c (by omega) (by omega) (fun M2 hF2 hFm2 => ?_)
    have hq := hQ M2 ((hFm.up (by simp)).tr (hFm2.up (by simp)))
    have hF1 := hF1.fm hFm2 (by decide)
    refine v_sa_compare_23 hG ?_
    refine s_fr_exists hG q34 hF1 (by omega) ?_
    refine v_sa_compare_26 hG ?_
    have hz3 := bZ_in (0 < vD n f w m.toNat)
    simp (disch := omega) only [iI_add, iI_sub, iI_mul, iI_neg, iI_lt, iI_le, iI_eq, iI_cl, vp_iI, Classical.not_not, iLn1000000005, iLn1000000004, iLn1000000003, iLn1000000002, iLn1000000001, iLn99999, iLn9999, iLn2, iLn1, iL0, iL1, iL2, iL3, iL4, iL5, iL6, iL7, iL8, iL9, iL10, iL15, iL16, iL31, iL32, iL40, iL42, iL45, iL48, iL57, iL59, iL63, iL64, iL65, iL120, iL126, iL455, iL520, iL9999, iL99999, iN2, iN8, iN64, iN65, iN120, iN130, iN520, bZ_0]
    refine ⟨fun c5 => ?_, fun c5 => ?_⟩
    · rw [if_pos (by omega)] at hq
      exact hq
    refine s_fr_exists hG q35 hF2 (by omega) ?_
    refine v_sa_compare_30 hG ?_
    have hz5 := bZ_in (0 < vD n f w o.toNat)
    rw [show (1 : Int64) = lI ((1 : Nat) : Int) by decide]
    simp (disch := omega) only [iI_add, iI_sub, iI_mul, iI_neg, iI_lt, iI_le, iI_eq, iI_cl, vp_iI, Classical.not_not, iLn1000000005, iLn1000000004, iLn1000000003, iLn1000000002, iLn1000000001, iLn99999, iLn9999, iLn2, iLn1, iL0, iL1, iL2, iL3, iL4, iL5, iL6, iL7, iL8, iL9, iL10, iL15, iL16, iL31, iL32, iL40, iL42, iL45, iL48, iL57, iL59, iL63, iL64, iL65, iL120, iL126, iL455, iL520, iL9999, iL99999, iN2, iN8, iN64, iN65, iN120, iN130, iN520, bZ_0]
    refine ⟨fun c6 => ?_, fun c6 => ?_⟩
    · rw [if_neg (by omega)] at hq
      refine s_fr_order (p := 1) (q := 1) hG q34 q35 hF1 hF2 c5 c6 b.2.1 b2.2.1 (by omega) (by omega) ?_
      refine v_sa_compare_40 hG ?_
      rw [Nat.one_mul, Nat.one_mul]
      have hz6 := cmpZ_in (vN n f w m.toNat * vD n f w o.toNat : Nat) (vN n f w o.toNat * vD n f w m.toNat : Nat)
      unfold aCmp2 at hq
      generalize cmpZ (vN n f w m.toNat * vD n f w o.toNat : Nat) (vN n f w o.toNat * vD n f w m.toNat : Nat) = cc at *
      simp (disch := omega) only [iI_add, iI_sub, iI_mul, iI_neg, iI_lt, iI_le, iI_eq, iI_cl, vp_iI, Classical.not_not, iLn1000000005, iLn1000000004, iLn1000000003, iLn1000000002, iLn1000000001, iLn99999, iLn9999, iLn2, iLn1, iL0, iL1, iL2, iL3, iL4, iL5, iL6, iL7, iL8, iL9, iL10, iL15, iL16, iL31, iL32, iL40, iL42, iL45, iL48, iL57, iL59, iL63, iL64, iL65, iL120, iL126, iL455, iL520, iL9999, iL99999, iN2, iN8, iN64, iN65, iN120, iN130, iN520]
      refine ⟨fun c7 => ⟨fun c8 => ?_, fun c8 => ?_⟩, fun c7 => ?_⟩
      · rw [if_neg c7, if_neg (by omega)] at hq
        exact hq
      · rw [if_neg c7, if_pos (by omega)] at hq
        exact hq
      · rw [if_pos c7] at hq
        exact hq
    · rw [if_pos (by omega)] at hq
      exact hq
  · rw [if_neg (fun z => c3 z.2.2)] at hQ0
    exact hQ0
theorem bsz_s (n : Nat) (f : Nat → Int) (w : Int) (k : Nat) : bsz n f w (k + 1) = if vD n f w (k + 1) ≠ 0 ∧ (bsz n f w k = 0 ∨ aCmp2 n f w (k + 1) (bsz n f w k) < 0) then k + 1 else bsz n f w k := rfl
theorem C_best (hG : qGood Ls xs P) {w : Int} (hR : cRd M 1 n f) (hw : r32 w) (hQ : ∀ M', qFm [34, 35] M M' → Q (some (.int (iI (aBest n f w)))) M') : P 52 0 [(0, .ref 0), (1, .int (iI w))] [] M Q := by
  have hQ0 := hQ M qFm.rf
  unfold aBest at hQ hQ0
  refine v_sa_best_0 hG ?_
  refine s_sa_isVariance hG hw ?_
  refine v_sa_best_2 hG ?_
  have hz := bZ_in (0 ≤ w ∧ w ≤ 3)
  simp (disch := omega) only [iI_add, iI_sub, iI_mul, iI_neg, iI_lt, iI_le, iI_eq, iI_cl, vp_iI, Classical.not_not, iLn1000000005, iLn1000000004, iLn1000000003, iLn1000000002, iLn1000000001, iLn99999, iLn9999, iLn2, iLn1, iL0, iL1, iL2, iL3, iL4, iL5, iL6, iL7, iL8, iL9, iL10, iL15, iL16, iL31, iL32, iL40, iL42, iL45, iL48, iL57, iL59, iL63, iL64, iL65, iL120, iL126, iL455, iL520, iL9999, iL99999, iN2, iN8, iN64, iN65, iN120, iN130, iN520, bZ_0]
  refine ⟨fun c => ?_, fun c => ?_⟩
  · simp only [if_pos c] at hQ
    have key : ∀ (d j : Nat) (M1 : qMem), j + d = 31 → qFm [34, 35] M M1 → (bsz n f w j ≠ 0 → cFr M1 35 (vN n f w (bsz n f w j)) (vD n f w (bsz n f w j))) → P 52 9 [(0, .ref 0), (1, .int (iI w)), (2, .int (iI (if bsz n f w j = 0 then (-1000000001) else bsz n f w j))), (3, .int (iI (j + 1 : Nat)))] [] M1 Q := by
      intro d
      induction d with
      | zero =>
        intro j M1 hj hFm hF2
        have e : j = 31 := by omega
        subst e
        refine v_sa_best_9 hG ?_
        simp (disch := omega) only [iI_add, iI_sub, iI_mul, iI_neg, iI_lt, iI_le, iI_eq, iI_cl, vp_iI, Classical.not_not, iLn1000000005, iLn1000000004, iLn1000000003, iLn1000000002, iLn1000000001, iLn99999, iLn9999, iLn2, iLn1, iL0, iL1, iL2, iL3, iL4, iL5, iL6, iL7, iL8, iL9, iL10, iL15, iL16, iL31, iL32, iL40, iL42, iL45, iL48, iL57, iL59, iL63, iL64, iL65, iL120, iL126, iL455, iL520, iL9999, iL99999, iN2, iN8, iN64, iN65, iN120, iN130, iN520]
        exact ⟨fun _ => hQ M1 hFm, fun c2 => by omega⟩
      | succ d ih =>
        intro j M1 hj hFm hF2
        have hbi := bsz_in n f w j
        have b := vND hR.ok hR.2.1 (m := j + 1) (by omega) (by omega) (w := w) c
        refine v_sa_best_9 hG ?_
        simp (disch := omega) only [iI_add, iI_sub, iI_mul, iI_neg, iI_lt, iI_le, iI_eq, iI_cl, vp_iI, Classical.not_not, iLn1000000005, iLn1000000004, iLn1000000003, iLn1000000002, iLn1000000001, iLn99999, iLn9999, iLn2, iLn1, iL0, iL1, iL2, iL3, iL4, iL5, iL6, iL7, iL8, iL9, iL10, iL15, iL16, iL31, iL32, iL40, iL42, iL45, iL48, iL57, iL59, iL63, iL64, iL65, iL120, iL126, iL455, iL520, iL9999, iL99999, iN2, iN8, iN64, iN65, iN120, iN130, iN520]
        refine ⟨fun c2 => by omega, fun _ => ?_⟩
        refine s_sa_measure hG q34 (hR.fm hFm (by decide) (by decide)) c (by omega) (by omega) (fun M2 hF1 hFm2 => ?_)
        have hFm3 : qFm [34, 35] M M2 := hFm.tr (hFm2.up (by simp))
        refine v_sa_best_18 hG ?_
        refine s_fr_exists hG q34 hF1 (by omega) ?_
        refine v_sa_best_21 hG ?_
        have hz3 := bZ_in (0 < vD n f w (j + 1))
        have hrange : -1000000001 ≤ (if bsz n f w j = 0 then ((-1000000001) : Int) else bsz n f w j) ∧ (if bsz n f w j = 0 then ((-1000000001) : Int) else bsz n f w j) ≤ 31 := by split <;> omega
        have hNN : ((if bsz n f w j = 0 then ((-1000000001) : Int) else bsz n f w j) = (-1000000001)) ↔ bsz n f w j = 0 := by split <;> omega
        rw [show (1 : Int64) = lI ((1 : Nat) : Int) by decide]
        simp (disch := omega) only [iI_add, iI_sub, iI_mul, iI_neg, iI_lt, iI_le, iI_eq, iI_cl, vp_iI, Classical.not_not, iLn1000000005, iLn1000000004, iLn1000000003, iLn1000000002, iLn1000000001, iLn99999, iLn9999, iLn2, iLn1, iL0, iL1, iL2, iL3, iL4, iL5, iL6, iL7, iL8, iL9, iL10, iL15, iL16, iL31, iL32, iL40, iL42, iL45, iL48, iL57, iL59, iL63, iL64, iL65, iL120, iL126, iL455, iL520, iL9999, iL99999, iN2, iN8, iN64, iN65, iN120, iN130, iN520, bZ_0, hNN]
        have hcp : ∀ M3 : qMem, qFm [34, 35] M M3 → cFr M3 34 (vN n f w (j + 1)) (vD n f w (j + 1)) → bsz n f w (j + 1) = j + 1 → P 2 0 [(0, .ref 35), (1, .ref 34)] [] M3 (fun v M' => P 52 38 [(0, .ref 0), (1, .int (iI w)), (3, .int (iI (j + 1 : Nat)))] (v.toList ++ []) M' Q) := by
          intro M3 hF3 hc1 hb1
          refine s_fr_copyFrom hG q35 q34 (by decide) hc1 (fun M4 hc4 hF4 => ?_)
          refine v_sa_best_38 hG ?_
          simp (disch := omega) only [iI_add, iI_sub, iI_mul, iI_neg, iI_lt, iI_le, iI_eq, iI_cl, vp_iI, Classical.not_not, iLn1000000005, iLn1000000004, iLn1000000003, iLn1000000002, iLn1000000001, iLn99999, iLn9999, iLn2, iLn1, iL0, iL1, iL2, iL3, iL4, iL5, iL6, iL7, iL8, iL9, iL10, iL15, iL16, iL31, iL32, iL40, iL42, iL45, iL48, iL57, iL59, iL63, iL64, iL65, iL120, iL126, iL455, iL520, iL9999, iL99999, iN2, iN8, iN64, iN65, iN120, iN130, iN520]
          have hI := ih (j + 1) M4 (by omega) (hF3.tr (hF4.up (by simp))) (fun _ => by rw [hb1]; exact hc4)
          rw [hb1, if_neg (by omega)] at hI
          exact hI
        refine ⟨fun c3 => ?_, fun c3 => ⟨fun c4 => ?_, fun c4 => ?_⟩⟩
        · have hb1 : bsz n f w (j + 1) = bsz n f w j := by
            rw [bsz_s, if_neg (by omega)]
          have hI := ih (j + 1) M2 (by omega) hFm3 (fun z => by rw [hb1] at z ⊢; exact (hF2 z).fm hFm2 (by decide))
          rw [hb1] at hI
          exact hI
        · refine hcp M2 hFm3 hF1 ?_
          rw [bsz_s, if_pos ⟨by omega, Or.inl c4⟩]
        · have hD2 := bsz_D n f w j c4
          have b3 := vND hR.ok hR.2.1 (m := bsz n f w j) (by omega) (by omega) (w := w) c
          refine s_fr_order (p := 1) (q := 1) hG q34 q35 hF1 ((hF2 c4).fm hFm2 (by decide)) c3 (by omega) b.2.1 b3.2.1 (by omega) (by omega) ?_
          refine v_sa_best_32 hG ?_
          rw [Nat.one_mul, Nat.one_mul]
          have hz6 := cmpZ_in (vN n f w (j + 1) * vD n f w (bsz n f w j) : Nat) (vN n f w (bsz n f w j) * vD n f w (j + 1) : Nat)
          have hcc : aCmp2 n f w (j + 1) (bsz n f w j) = cmpZ (vN n f w (j + 1) * vD n f w (bsz n f w j) : Nat) (vN n f w (bsz n f w j) * vD n f w (j + 1) : Nat) := rfl
          rw [← hcc] at hz6 ⊢
          simp (disch := omega) only [iI_add, iI_sub, iI_mul, iI_neg, iI_lt, iI_le, iI_eq, iI_cl, vp_iI, Classical.not_not, iLn1000000005, iLn1000000004, iLn1000000003, iLn1000000002, iLn1000000001, iLn99999, iLn9999, iLn2, iLn1, iL0, iL1, iL2, iL3, iL4, iL5, iL6, iL7, iL8, iL9, iL10, iL15, iL16, iL31, iL32, iL40, iL42, iL45, iL48, iL57, iL59, iL63, iL64, iL65, iL120, iL126, iL455, iL520, iL9999, iL99999, iN2, iN8, iN64, iN65, iN120, iN130, iN520]
          refine ⟨fun c5 => ?_, fun c5 => ?_⟩
          · have hb1 : bsz n f w (j + 1) = bsz n f w j := by
              rw [bsz_s, if_neg (by omega)]
            have hI := ih (j + 1) M2 (by omega) hFm3 (fun z => by rw [hb1] at z ⊢; exact (hF2 z).fm hFm2 (by decide))
            rw [hb1] at hI
            exact hI
          · refine hcp M2 hFm3 hF1 ?_
            rw [bsz_s, if_pos ⟨by omega, Or.inr (by omega)⟩]
    exact key 31 0 M (by omega) qFm.rf (fun z => absurd rfl z)
  · rw [if_neg c] at hQ0
    exact hQ0
theorem knd_c {m : Nat} (hf : ∀ j, j < n → okv (f j)) (hn : n ≤ 64) (hm : 1 ≤ m) (hm2 : m ≤ 15) (h : knd n f m ≠ (-1000000001)) : 1 ≤ cnd n f 2 m := by
  have w0 : wOK 0 := ⟨by decide, by decide⟩
  have b := vND hf hn (m := m) (by omega) (by omega) w0
  have b2 := (vB_c (n := n) (f := f) hn (m := m) (by omega) (by omega) w0).2.2
  have hb := cz_in (fun j => decide (dif n f 2 m j ≠ (-1000000001))) n
  have e : cnd n f 2 m = cz (fun j => decide (dif n f 2 m j ≠ (-1000000001))) n := rfl
  have e2 : od 0 = 2 := rfl
  rw [e2] at b2
  rcases Int.lt_or_le (cnd n f 2 m) 1 with q | q
  · exfalso
    apply h
    unfold knd
    rw [if_pos (Or.inl (b.2.2.1.mpr (b2.mpr (by omega))))]
  · exact q
theorem dof_in {k c m : Int} (hk : 0 ≤ k ∧ k ≤ 4) (hc : 1 ≤ c ∧ c ≤ 64) (hm : 1 ≤ m ∧ m ≤ 15) : 0 ≤ dof k c m ∧ dof k c m ≤ 100000 := by
  have m1 := mul_bd (A := 65) (C := 94) (a := c + 1) (c := c + 2 * m) (by omega) (by omega) (by omega) (by omega)
  have m2 := mul_bd (A := 192) (C := 64) (a := 3 * c) (c := c) (by omega) (by omega) (by omega) (by omega)
  have m3 := mul_bd (A := 320) (C := 64) (a := 5 * c) (c := c) (by omega) (by omega) (by omega) (by omega)
  have p1 := Int.mul_nonneg (a := c + 1) (b := c + 2 * m) (by omega) (by omega)
  have p2 := Int.mul_nonneg (a := 3 * c) (b := c) (by omega) (by omega)
  have p3 := Int.mul_nonneg (a := 5 * c) (b := c) (by omega) (by omega)
  have g : ∀ x y : Int, 0 ≤ x → x ≤ 100000 → 0 < y → 0 ≤ x / y ∧ x / y ≤ 100000 := by
    intro x y h1 h2 h3
    have h4 := Int.ediv_nonneg h1 (Int.le_of_lt h3)
    have h5 := Int.ediv_le_self y h1
    omega
  unfold dof
  split
  · exact g _ _ p1 (by omega) (by omega)
  · split
    · exact g _ _ p2 (by omega) (by omega)
    · split
      · exact g _ _ p3 (by omega) (by omega)
      · exact g _ _ (by omega) (by omega) (by omega)
theorem wdz_s (n : Nat) (f : Nat → Int) (k : Nat) : wdz n f (k + 1) = if 0 < cnd n f 2 (k + 1) then ((k + 1 : Nat) : Int) else wdz n f k := rfl
theorem s_sa_greatestM (hG : qGood Ls xs P) (hR : cRd M 1 n f) (hQ : Q (some (.int (iI (wdz n f 31)))) M) : P 65 0 [(0, .ref 0)] [] M Q := by
  have hn := hR.2.1
  refine v_sa_greatestM_0 hG ?_
  have key : ∀ (j : Nat), j ≤ 31 → wdz n f 31 = wdz n f j → P 65 2 [(0, .ref 0), (1, .int (iI j))] [] M Q := by
    intro j
    induction j with
    | zero =>
      intro hj he
      refine v_sa_greatestM_2 hG ?_
      simp (disch := omega) only [iI_add, iI_sub, iI_mul, iI_neg, iI_lt, iI_le, iI_eq, iI_cl, vp_iI, Classical.not_not, iLn1000000005, iLn1000000004, iLn1000000003, iLn1000000002, iLn1000000001, iLn99999, iLn9999, iLn2, iLn1, iL0, iL1, iL2, iL3, iL4, iL5, iL6, iL7, iL8, iL9, iL10, iL15, iL16, iL31, iL32, iL40, iL42, iL45, iL48, iL57, iL59, iL63, iL64, iL65, iL120, iL126, iL455, iL520, iL9999, iL99999, iN2, iN8, iN64, iN65, iN120, iN130, iN520]
      refine ⟨fun _ => ?_, fun c => by omega⟩
      rw [he] at hQ
      exact hQ
    | succ j ih =>
      intro hj he
      have hb := cz_in (fun i => decide (dif n f 2 (j + 1) i ≠ (-1000000001))) n
      have hc2 : cnd n f 2 (j + 1) = cz (fun i => decide (dif n f 2 (j + 1) i ≠ (-1000000001))) n := rfl
      refine v_sa_greatestM_2 hG ?_
      simp (disch := omega) only [iI_add, iI_sub, iI_mul, iI_neg, iI_lt, iI_le, iI_eq, iI_cl, vp_iI, Classical.not_not, iLn1000000005, iLn1000000004, iLn1000000003, iLn1000000002, iLn1000000001, iLn99999, iLn9999, iLn2, iLn1, iL0, iL1, iL2, iL3, iL4, iL5, iL6, iL7, iL8, iL9, iL10, iL15, iL16, iL31, iL32, iL40, iL42, iL45, iL48, iL57, iL59, iL63, iL64, iL65, iL120, iL126, iL455, iL520, iL9999, iL99999, iN2, iN8, iN64, iN65, iN120, iN130, iN520]
      refine ⟨fun c => by omega, fun _ => ?_⟩
      refine s_rd_countOf hG q1Rd hR (by omega) (by omega) (by omega) ?_
      refine v_sa_greatestM_10 hG ?_
      rw [← hc2] at hb ⊢
      simp (disch := omega) only [iI_add, iI_sub, iI_mul, iI_neg, iI_lt, iI_le, iI_eq, iI_cl, vp_iI, Classical.not_not, iLn1000000005, iLn1000000004, iLn1000000003, iLn1000000002, iLn1000000001, iLn99999, iLn9999, iLn2, iLn1, iL0, iL1, iL2, iL3, iL4, iL5, iL6, iL7, iL8, iL9, iL10, iL15, iL16, iL31, iL32, iL40, iL42, iL45, iL48, iL57, iL59, iL63, iL64, iL65, iL120, iL126, iL455, iL520, iL9999, iL99999, iN2, iN8, iN64, iN65, iN120, iN130, iN520]
      rw [wdz_s n f j] at he
      refine ⟨fun c => ?_, fun c => ?_⟩
      · rw [if_neg (by omega)] at he
        rw [show ((j + 1 : Nat) : Int) + -1 = ((j : Nat) : Int) by omega]
        exact ih (by omega) he
      · rw [if_pos (by omega)] at he
        rw [he] at hQ
        exact hQ
  simp (disch := omega) only [iI_add, iI_sub, iI_mul, iI_neg, iI_lt, iI_le, iI_eq, iI_cl, vp_iI, Classical.not_not, iLn1000000005, iLn1000000004, iLn1000000003, iLn1000000002, iLn1000000001, iLn99999, iLn9999, iLn2, iLn1, iL0, iL1, iL2, iL3, iL4, iL5, iL6, iL7, iL8, iL9, iL10, iL15, iL16, iL31, iL32, iL40, iL42, iL45, iL48, iL57, iL59, iL63, iL64, iL65, iL120, iL126, iL455, iL520, iL9999, iL99999, iN2, iN8, iN64, iN65, iN120, iN130, iN520]
  exact key 31 (by omega) rfl
theorem C_told (hG : qGood Ls xs P) {w tl d : Int} (hR : cRd M 1 n f) (hT : M.1 31 1 = iI tl) (hD : M.1 6 2 = iI d) (hw : r32 w) (hQ : Q (some (.int (iI (aTold n f tl d w)))) M) : P 45 0 [(0, .ref 0), (1, .int (iI w))] [] M Q := by
  obtain ⟨h1, h2⟩ := hw
  unfold aTold at hQ
  refine v_sa_told_0 hG ?_
  rw [show Int32.ofInt 0 = iI 0 from rfl, show Int32.ofInt 1 = iI 1 from rfl, show Int32.ofInt 2 = iI 2 from rfl, show Int32.ofInt 3 = iI 3 from rfl, show Int32.ofInt 4 = iI 4 from rfl, show Int32.ofInt 5 = iI 5 from rfl, show Int32.ofInt 6 = iI 6 from rfl, show Int32.ofInt 7 = iI 7 from rfl, show Int32.ofInt 8 = iI 8 from rfl]
  simp (disch := omega) only [iI_add, iI_sub, iI_mul, iI_neg, iI_lt, iI_le, iI_eq, iI_cl, vp_iI, Classical.not_not, iLn1000000005, iLn1000000004, iLn1000000003, iLn1000000002, iLn1000000001, iLn99999, iLn9999, iLn2, iLn1, iL0, iL1, iL2, iL3, iL4, iL5, iL6, iL7, iL8, iL9, iL10, iL15, iL16, iL31, iL32, iL40, iL42, iL45, iL48, iL57, iL59, iL63, iL64, iL65, iL120, iL126, iL455, iL520, iL9999, iL99999, iN2, iN8, iN64, iN65, iN120, iN130, iN520]
  refine ⟨fun c => ?_, fun c => ?_⟩
  · rw [if_pos c] at hQ
    exact s_rd_size hG q1Rd hR (v_sa_told_5 hG hQ)
  rw [if_neg c] at hQ
  refine ⟨fun c => ?_, fun c => ?_⟩
  · rw [if_pos c] at hQ
    exact s_rd_present hG q1Rd hR (v_sa_told_9 hG hQ)
  rw [if_neg c] at hQ
  refine ⟨fun c => ?_, fun c => ?_⟩
  · rw [if_pos c] at hQ
    exact s_rd_least hG q1Rd hR (v_sa_told_13 hG hQ)
  rw [if_neg c] at hQ
  refine ⟨fun c => ?_, fun c => ?_⟩
  · rw [if_pos c] at hQ
    exact s_rd_greatest hG q1Rd hR (v_sa_told_17 hG hQ)
  rw [if_neg c] at hQ
  refine ⟨fun c => ?_, fun c => ?_⟩
  · rw [if_pos c] at hQ
    exact s_rd_gaps hG q1Rd hR (v_sa_told_21 hG hQ)
  rw [if_neg c] at hQ
  refine ⟨fun c => ?_, fun c => ?_⟩
  · rw [if_pos c] at hQ
    exact s_rd_longestGap hG q1Rd hR (v_sa_told_25 hG hQ)
  rw [if_neg c] at hQ
  refine ⟨fun c => ?_, fun c => ?_⟩
  · rw [if_pos c] at hQ
    exact s_sa_greatestM hG hR (v_sa_told_28 hG hQ)
  rw [if_neg c] at hQ
  refine ⟨fun c => ?_, fun c => ?_⟩
  · rw [if_pos c] at hQ
    refine v_tx_size_0 hG ?_
    rw [hT]
    exact v_sa_told_32 hG hQ
  rw [if_neg c] at hQ
  refine ⟨fun c => ?_, fun c => ?_⟩
  · rw [if_pos c] at hQ
    refine v_hi_depth_0 hG ?_
    rw [hD]
    exact v_sa_told_36 hG hQ
  rw [if_neg c] at hQ
  exact hQ
end SAQ
end
section
/-! the state on both sides, and how it is recorded -/
abbrev zRow : Type := Nat × (Nat → Int)
abbrev zSt : Type := zRow × (Nat × (Nat → zRow)) × (Nat → Option zRow) × zRow × Int × Int
def hpD (d : Nat) : Nat := if d = 8 then 8 else d + 1
def hpH (d : Nat) (h : Nat → zRow) (r : zRow) (a : Nat) : zRow := if d = 8 then (if a = 7 then r else h (a + 1)) else if a = d then r else h a
def zChg (s : zSt) (r : zRow) : zSt := (r, (hpD s.2.1.1, hpH s.2.1.1 s.2.1.2 s.1), s.2.2)
def cHi (M : qMem) (d : Nat) (h : Nat → zRow) : Prop := ∃ o, o < 8 ∧ d ≤ 8 ∧ M.1 6 1 = iI (o : Nat) ∧ M.1 6 2 = iI d ∧ ∀ a, a < d → cRd M (8 + 2 * ((o + a) % 8)) (h a).1 (h a).2
def oB (g : Option zRow) : Int := match g with | none => 0 | some _ => 1
def cIm (M : qMem) (g : Nat → Option zRow) : Prop := ∀ i, i < 2 → M.1 (25 + 3 * i) 1 = iI (oB (g i)) ∧ ∀ r, g i = some r → cRd M (26 + 3 * i) r.1 r.2
def cTx (M : qMem) (t : zRow) : Prop := M.1 31 1 = iI t.1 ∧ t.1 ≤ 120 ∧ ∀ j, j < t.1 → M.1 32 j = iI (t.2 j) ∧ 32 ≤ t.2 j ∧ t.2 j ≤ 126
def cFa (M : qMem) (u : Int × Int) : Prop := M.1 33 0 = iI u.1 ∧ M.1 33 1 = iI u.2
def CS (s : zSt) (M : qMem) : Prop := cRd M 1 s.1.1 s.1.2 ∧ cHi M s.2.1.1 s.2.1.2 ∧ cIm M s.2.2.1 ∧ cTx M s.2.2.2.1 ∧ cFa M s.2.2.2.2
/-- frames: the class's objects lie below 36 -/
def cFrm (M M' : qMem) : Prop := ∀ a, 36 ≤ a → M'.1 a = M.1 a
def mFrm (M M' : qMem) : Prop := ∀ a, a < 36 → M'.1 a = M.1 a
theorem cFrm.rf {M : qMem} : cFrm M M := fun _ _ => rfl
theorem mFrm.rf {M : qMem} : mFrm M M := fun _ _ => rfl
theorem cFrm.of {A : List Nat} {M M' : qMem} (h : qFm A M M') (hA : A.all (fun a => decide (a < 36)) = true) : cFrm M M' := fun a ha => (h a (fun q => by
  have e := List.all_eq_true.mp hA a q
  rw [decide_eq_true_eq] at e
  omega)).1
theorem cRd.f1 {k n : Nat} {f : Nat → Int} {M M' : qMem} (h : cRd M k n f) (h1 : M'.1 k = M.1 k) (h2 : M'.1 (rf k 0) = M.1 (rf k 0)) : cRd M' k n f := ⟨by rw [h1]; exact h.1, h.2.1, fun j hj => by rw [h2]; exact h.2.2 j hj⟩
theorem qd8 : ∀ s, s < 8 → (shT (8 + 2 * s) = 4 ∧ shT (rf (8 + 2 * s) 0) = 100 ∧ shL (rf (8 + 2 * s) 0) = 64) ∧ rf (8 + 2 * s) 0 = 9 + 2 * s ∧ rf 7 s = 8 + 2 * s := by decide
theorem CS.fr {s : zSt} {M M' : qMem} (h : CS s M) (hF : mFrm M M') : CS s M' := by
  obtain ⟨h1, ⟨o, ho, hd, hO, hD, hA⟩, h3, h4, h5⟩ := h
  refine ⟨h1.f1 (hF 1 (by omega)) (hF 2 (by omega)), ⟨o, ho, hd, ?_, ?_, fun a ha => (hA a ha).f1 (hF _ (by omega)) (hF _ ?_)⟩, fun i hi => ⟨?_, fun r hr => ((h3 i hi).2 r hr).f1 (hF _ (by omega)) (hF _ ?_)⟩, ⟨?_, h4.2.1, fun j hj => ?_⟩, ⟨?_, ?_⟩⟩
  · rw [hF 6 (by omega)]; exact hO
  · rw [hF 6 (by omega)]; exact hD
  · rw [(qd8 ((o + a) % 8) (by omega)).2.1]; omega
  · rw [hF _ (by omega)]; exact (h3 i hi).1
  · have : i = 0 ∨ i = 1 := by omega
    rcases this with e | e <;> subst e <;> decide
  · rw [hF 31 (by omega)]; exact h4.1
  · rw [hF 32 (by omega)]; exact h4.2.2 j hj
  · rw [hF 33 (by omega)]; exact h5.1
  · rw [hF 33 (by omega)]; exact h5.2
def hiL : List Nat := [6, 8, 9, 10, 11, 12, 13, 14, 15, 16, 17, 18, 19, 20, 21, 22, 23]
theorem hiL_in : ∀ s, s < 8 → (8 + 2 * s) ∈ hiL ∧ (9 + 2 * s) ∈ hiL := by decide
theorem hiL_no {a : Nat} (h : a ≠ 6) (h2 : a < 8 ∨ 23 < a) : a ∉ hiL := by
  intro q
  have e : hiL.all (fun a => decide (a = 6 ∨ (8 ≤ a ∧ a ≤ 23))) = true := by decide
  have e2 := List.all_eq_true.mp e a q
  rw [decide_eq_true_eq] at e2
  omega
section ST
variable {Ls : Nat} {xs : Nat → Int32} {P : qSem} {n d : Nat} {f : Nat → Int} {h : Nat → zRow} {M : qMem} {Q : qPost}
theorem s_hi_stateAt (hG : qGood Ls xs P) {o a : Nat} (ho : o < 8) (ha : a < 8) (hO : M.1 6 1 = iI o) (hQ : Q (some (.ref (8 + 2 * ((o + a) % 8)))) M) : P 9 0 [(0, .ref 6), (1, .int (iI a))] [] M Q := by
  refine v_hi_stateAt_0 hG ?_
  simp (disch := omega) only [iI_add, iI_sub, iI_mul, iI_neg, iI_lt, iI_le, iI_eq, iI_cl, vp_iI, Classical.not_not, iLn1000000005, iLn1000000004, iLn1000000003, iLn1000000002, iLn1000000001, iLn99999, iLn9999, iLn2, iLn1, iL0, iL1, iL2, iL3, iL4, iL5, iL6, iL7, iL8, iL9, iL10, iL15, iL16, iL31, iL32, iL40, iL42, iL45, iL48, iL57, iL59, iL63, iL64, iL65, iL120, iL126, iL455, iL520, iL9999, iL99999, iN2, iN8, iN64, iN65, iN120, iN130, iN520, hO, iI_div]
  have e : ((o : Int) + a - ((o : Int) + a) / 8 * 8).toNat = (o + a) % 8 := by omega
  rw [e, (qd8 ((o + a) % 8) (by omega)).2.2]
  exact ⟨by omega, fun c => by omega, fun c => ⟨fun c2 => by omega, fun c2 => ⟨fun c3 => ⟨by omega, hQ⟩, fun c3 => by omega⟩⟩⟩
theorem s_hi_record (hG : qGood Ls xs P) (hR : cRd M 1 n f) (hH : cHi M d h) (hQ : ∀ M', qFm hiL M M' → cHi M' (hpD d) (hpH d h (n, f)) → Q none M') : P 7 0 [(0, .ref 6), (1, .ref 1)] [] M Q := by
  obtain ⟨o, ho, hd, hO, hD, hA⟩ := hH
  have tail : ∀ (M1 : qMem) (o1 d1 : Nat) (h1 : Nat → zRow), o1 < 8 → d1 < 8 → M1.1 6 1 = iI o1 → M1.1 6 2 = iI d1 → (∀ a, a < d1 → cRd M1 (8 + 2 * ((o1 + a) % 8)) (h1 a).1 (h1 a).2) → qFm hiL M M1 → (∀ a, a < d1 → hpH d h (n, f) a = h1 a) → hpH d h (n, f) d1 = (n, f) → hpD d = d1 + 1 → P 9 0 [(0, .ref 6), (1, .int (iI d1))] [] M1 (fun v M' => P 7 22 [(0, .ref 6), (1, .ref 1)] (v.toList ++ []) M' Q) := by
    intro M1 o1 d1 h1 ho1 hd1 hO1 hD1 hA1 hF e1 e2 e3
    have q8 := qd8 ((o1 + d1) % 8) (by omega)
    have l8 := hiL_in ((o1 + d1) % 8) (by omega)
    refine s_hi_stateAt hG ho1 hd1 hO1 ?_
    refine v_hi_record_22 hG q8.1 ?_
    refine s_rd_copyFrom hG q8.1 q1Rd (by omega) (by rw [q8.2.1]; show 2 ≠ _; omega) (hR.fm hF (hiL_no (by omega) (by omega)) (hiL_no (by decide) (by decide))) (fun M2 hR2 hF2 => ?_)
    rw [q8.2.1] at hF2
    have n6 : (6 : Nat) ∉ [8 + 2 * ((o1 + d1) % 8), 9 + 2 * ((o1 + d1) % 8)] := by
      simp only [List.mem_cons, List.not_mem_nil, or_false, not_or]
      omega
    have hF2' : qFm hiL M1 M2 := hF2.up (by
      intro a ha
      simp only [List.mem_cons, List.not_mem_nil, or_false] at ha
      rcases ha with e | e
      · rw [e]; exact l8.1
      · rw [e]; exact l8.2)
    refine v_hi_record_28 hG ?_
    refine hQ _ ((hF.tr hF2').tr (qFm.pI (by decide))) ⟨o1, ho1, by omega, ?_, ?_, fun a ha => ?_⟩
    · rw [pI_nj (by omega), (hF2 6 n6).1]; exact hO1
    · rw [pI_e, (hF2 6 n6).1, hD1, e3]
      simp (disch := omega) only [iI_add, iI_sub, iI_mul, iI_neg, iI_lt, iI_le, iI_eq, iI_cl, vp_iI, Classical.not_not, iLn1000000005, iLn1000000004, iLn1000000003, iLn1000000002, iLn1000000001, iLn99999, iLn9999, iLn2, iLn1, iL0, iL1, iL2, iL3, iL4, iL5, iL6, iL7, iL8, iL9, iL10, iL15, iL16, iL31, iL32, iL40, iL42, iL45, iL48, iL57, iL59, iL63, iL64, iL65, iL120, iL126, iL455, iL520, iL9999, iL99999, iN2, iN8, iN64, iN65, iN120, iN130, iN520]
      congr 1
    · rw [e3] at ha
      refine cRd.f1 (M := M2) ?_ (pI_o (by omega)) (pI_o (by
        rw [(qd8 ((o1 + a) % 8) (by omega)).2.1]; omega))
      by_cases c : a = d1
      · subst c
        rw [e2]
        exact hR2
      · rw [e1 a (by omega)]
        refine (hA1 a (by omega)).fm hF2 ?_ ?_
        · simp only [List.mem_cons, List.not_mem_nil, or_false, not_or]
          omega
        · rw [(qd8 ((o1 + a) % 8) (by omega)).2.1]
          simp only [List.mem_cons, List.not_mem_nil, or_false, not_or]
          omega
  refine v_hi_record_0 hG ?_
  simp (disch := omega) only [iI_add, iI_sub, iI_mul, iI_neg, iI_lt, iI_le, iI_eq, iI_cl, vp_iI, Classical.not_not, iLn1000000005, iLn1000000004, iLn1000000003, iLn1000000002, iLn1000000001, iLn99999, iLn9999, iLn2, iLn1, iL0, iL1, iL2, iL3, iL4, iL5, iL6, iL7, iL8, iL9, iL10, iL15, iL16, iL31, iL32, iL40, iL42, iL45, iL48, iL57, iL59, iL63, iL64, iL65, iL120, iL126, iL455, iL520, iL9999, iL99999, iN2, iN8, iN64, iN65, iN120, iN130, iN520, hO, hD, iI_div]
  refine ⟨fun c => ?_, fun c => ⟨by omega, ?_⟩⟩
  · refine tail M o d h ho (by omega) hO hD hA qFm.rf (fun a ha => ?_) ?_ ?_
    · unfold hpH; rw [if_neg (by omega), if_neg (by omega)]
    · unfold hpH; rw [if_neg (by omega), if_pos rfl]
    · unfold hpD; rw [if_neg (by omega)]
  · have e : (d : Int) - 1 = ((7 : Nat) : Int) := by omega
    have e' : (o : Int) + 1 - ((o : Int) + 1) / 8 * 8 = (((o + 1) % 8 : Nat) : Int) := by omega
    have ed : d = 8 := by omega
    rw [e, e']
    subst ed
    refine tail _ ((o + 1) % 8) 7 (fun a => h (a + 1)) (by omega) (by omega) ?_ ?_ (fun a ha => ?_) ((qFm.pI (by decide)).tr (qFm.pI (by decide))) (fun a ha => ?_) rfl rfl
    · rw [pI_nj (by omega), pI_e]
    · rw [pI_e]
    · have q := hA (a + 1) (by omega)
      rw [show (o + (a + 1)) % 8 = ((o + 1) % 8 + a) % 8 by omega] at q
      exact q.f1 (by rw [pI_o (by omega), pI_o (by omega)]) (by
        rw [(qd8 (((o + 1) % 8 + a) % 8) (by omega)).2.1, pI_o (by omega), pI_o (by omega)])
    · unfold hpH; rw [if_pos rfl, if_neg (by omega)]
end ST
end
section
/-! the changes, for both sides; the class's first half -/
def tAdd (s : zSt) (x : Int) : Int × zSt := if -99999 ≤ x ∧ x ≤ 99999 then (if s.1.1 = 64 then (-1000000004, s) else ((s.1.1 : Int), zChg s (s.1.1 + 1, fun j => if j = s.1.1 then x else s.1.2 j))) else (-1000000002, s)
def tSkip (s : zSt) (k : Int) : Int × zSt := if 1 ≤ k ∧ k ≤ 64 then (if 64 < s.1.1 + k then (-1000000004, s) else (s.1.1 + k, zChg s (s.1.1 + k.toNat, fun j => if j < s.1.1 then s.1.2 j else (-1000000001)))) else (-1000000002, s)
def tSet (s : zSt) (i x : Int) : Int × zSt := if (0 ≤ i ∧ i < s.1.1) ∧ (x = (-1000000001) ∨ (-99999 ≤ x ∧ x ≤ 99999)) then (s.1.2 i.toNat, zChg s (s.1.1, fun j => if j = i.toNat then x else s.1.2 j)) else (-1000000002, s)
def tClear (s : zSt) : Int × zSt := ((s.1.1 : Int), zChg s (0, s.1.2))
def tUndo (s : zSt) : Int × zSt := if s.2.1.1 = 0 then (-1000000003, s) else ((s.2.1.1 : Int) - 1, (s.2.1.2 (s.2.1.1 - 1), (s.2.1.1 - 1, s.2.1.2), s.2.2))
def thz (n e : Nat) : Nat → Nat → Nat
  | 0, _ => 0
  | c + 1, i => if i < n then thz n e c (i + e) + 1 else 0
def tThin (s : zSt) (e k : Int) : Int × zSt := if (1 ≤ e ∧ e ≤ 16) ∧ 0 ≤ k ∧ k < e then ((thz s.1.1 e.toNat 64 k.toNat : Int), zChg s (thz s.1.1 e.toNat 64 k.toNat, fun j => s.1.2 (k.toNat + e.toNat * j))) else (-1000000002, s)
def tOutl (s : zSt) (lim : Int) : Int × zSt := if 0 ≤ lim ∧ lim ≤ 99999 then (cz (otl s.1.1 s.1.2 lim) s.1.1, zChg s (s.1.1, fun j => if otl s.1.1 s.1.2 lim j = true then (-1000000001) else s.1.2 j)) else (-1000000002, s)
def zTx (s : zSt) (t : zRow) : zSt := (s.1, s.2.1, s.2.2.1, t, s.2.2.2.2)
def tWrite (s : zSt) (c : Int) : Int × zSt := if 32 ≤ c ∧ c ≤ 126 then (if s.2.2.2.1.1 = 120 then (-1000000004, s) else ((s.2.2.2.1.1 : Int) + 1, zTx s (s.2.2.2.1.1 + 1, fun j => if j = s.2.2.2.1.1 then c else s.2.2.2.1.2 j))) else (-1000000002, s)
def tWipe (s : zSt) : Int × zSt := ((s.2.2.2.1.1 : Int), zTx s (0, s.2.2.2.1.2))
def aFault (u : Int × Int) (w : Int) : Int := if w = 0 then u.1 else if w = 1 then u.2 else -1000000002
def zIm (s : zSt) (i : Nat) (r : zRow) : zSt := (s.1, s.2.1, (fun a => if a = i then some r else s.2.2.1 a), s.2.2.2)
def tKeep (s : zSt) (i : Int) : Int × zSt := if 0 ≤ i ∧ i ≤ 1 then ((s.1.1 : Int), zIm s i.toNat s.1) else (-1000000002, s)
def tBack (s : zSt) (i : Int) : Int × zSt := if 0 ≤ i ∧ i ≤ 1 then (match s.2.2.1 i.toNat with | none => (-1000000003, s) | some r => ((r.1 : Int), zChg s r)) else (-1000000002, s)
theorem thz_s (n e c i : Nat) : thz n e (c + 1) i = if i < n then thz n e c (i + e) + 1 else 0 := rfl
theorem cHi.f {M M' : qMem} {d : Nat} {h : Nat → zRow} (hH : cHi M d h) (hF : ∀ a, a = 6 ∨ (8 ≤ a ∧ a ≤ 23) → M'.1 a = M.1 a) : cHi M' d h := by
  obtain ⟨o, ho, hd, hO, hD, hA⟩ := hH
  refine ⟨o, ho, hd, by rw [hF 6 (by omega)]; exact hO, by rw [hF 6 (by omega)]; exact hD, fun a ha => (hA a ha).f1 (hF _ (by omega)) (hF _ ?_)⟩
  rw [(qd8 ((o + a) % 8) (by omega)).2.1]
  omega
theorem im2 : ∀ i, i < 2 → rf 24 i = 25 + 3 * i ∧ shT (25 + 3 * i) = 2 ∧ (shT (26 + 3 * i) = 4 ∧ shT (rf (26 + 3 * i) 0) = 100 ∧ shL (rf (26 + 3 * i) 0) = 64) ∧ rf (25 + 3 * i) 0 = 26 + 3 * i ∧ rf (26 + 3 * i) 0 = 27 + 3 * i := by decide
theorem cIm.f {M M' : qMem} {g : Nat → Option zRow} (h : cIm M g) (hF : ∀ a, 25 ≤ a → a ≤ 30 → M'.1 a = M.1 a) : cIm M' g := by
  intro i hi
  refine ⟨by rw [hF _ (by omega) (by omega)]; exact (h i hi).1, fun r hr => ((h i hi).2 r hr).f1 (hF _ (by omega) (by omega)) (hF _ ?_ ?_)⟩
  · rw [(im2 i hi).2.2.2.2]; omega
  · rw [(im2 i hi).2.2.2.2]; omega
theorem CS.chg {s : zSt} {M M' : qMem} {r : zRow} (h : CS s M) (hF : ∀ a, 24 ≤ a → a < 34 → M'.1 a = M.1 a) (hH : cHi M' (hpD s.2.1.1) (hpH s.2.1.1 s.2.1.2 s.1)) (hR : cRd M' 1 r.1 r.2) : CS (zChg s r) M' := by
  obtain ⟨_, _, h3, h4, h5⟩ := h
  refine ⟨hR, hH, h3.f (fun a h1 h2 => hF a (by omega) (by omega)), ⟨?_, h4.2.1, fun j hj => ?_⟩, ⟨?_, ?_⟩⟩
  · rw [hF 31 (by omega) (by omega)]; exact h4.1
  · rw [hF 32 (by omega) (by omega)]; exact h4.2.2 j hj
  · rw [hF 33 (by omega) (by omega)]; exact h5.1
  · rw [hF 33 (by omega) (by omega)]; exact h5.2
theorem CS.nx {s : zSt} {M M' : qMem} {A : List Nat} (h : CS s M) (hF : qFm A M M') (hA : A.all (fun a => decide (a = 3 ∨ a = 4 ∨ a = 5 ∨ a = 34 ∨ a = 35)) = true) : CS s M' := by
  have hf : ∀ a, a ≠ 3 → a ≠ 4 → a ≠ 5 → a ≠ 34 → a ≠ 35 → M'.1 a = M.1 a := fun a h1 h2 h3 h4 h5 => (hF a (fun q => by
    have e := List.all_eq_true.mp hA a q
    rw [decide_eq_true_eq] at e
    omega)).1
  obtain ⟨h1, h2, h3, h4, h5⟩ := h
  refine ⟨h1.f1 (hf 1 (by omega) (by omega) (by omega) (by omega) (by omega)) (hf 2 (by omega) (by omega) (by omega) (by omega) (by omega)), h2.f (fun a ha => hf a (by omega) (by omega) (by omega) (by omega) (by omega)), h3.f (fun a _ _ => hf a (by omega) (by omega) (by omega) (by omega) (by omega)), ⟨?_, h4.2.1, fun j hj => ?_⟩, ⟨?_, ?_⟩⟩
  · rw [hf 31 (by omega) (by omega) (by omega) (by omega) (by omega)]; exact h4.1
  · rw [hf 32 (by omega) (by omega) (by omega) (by omega) (by omega)]; exact h4.2.2 j hj
  · rw [hf 33 (by omega) (by omega) (by omega) (by omega) (by omega)]; exact h5.1
  · rw [hf 33 (by omega) (by omega) (by omega) (by omega) (by omega)]; exact h5.2
theorem not12 {a : Nat} (h1 : a ≠ 1) (h2 : a ≠ 2) : a ∉ [1, 2] := by
  simp only [List.mem_cons, List.not_mem_nil, or_false, not_or]
  exact ⟨h1, h2⟩
section CL1
variable {Ls : Nat} {xs : Nat → Int32} {P : qSem} {M : qMem} {Q : qPost} {s : zSt}
theorem C_rec (hG : qGood Ls xs P) (hS : CS s M) (hQ : ∀ M1, cRd M1 1 s.1.1 s.1.2 → qFm hiL M M1 → (∀ M2 (r : zRow), qFm [1, 2] M1 M2 → cRd M2 1 r.1 r.2 → cFrm M M2 ∧ CS (zChg s r) M2) → Q none M1) : P 7 0 [(0, .ref 6), (1, .ref 1)] [] M Q := by
  refine s_hi_record hG hS.1 hS.2.1 (fun M1 hF1 hH1 => hQ M1 (hS.1.fm hF1 (by decide) (by decide)) hF1 (fun M2 r hF2 hR2 => ⟨fun a ha => ?_, CS.chg hS (fun a h1 h2 => ?_) (hH1.f (fun a ha => ?_)) hR2⟩))
  · rw [(hF2 a (not12 (by omega) (by omega))).1, (hF1 a (hiL_no (by omega) (by omega))).1]
  · rw [(hF2 a (not12 (by omega) (by omega))).1, (hF1 a (hiL_no (by omega) (by omega))).1]
  · rw [(hF2 a (not12 (by omega) (by omega))).1]
theorem C_add (hG : qGood Ls xs P) {x : Int} (hS : CS s M) (hx : r32 x) (hQ : ∀ M', cFrm M M' → CS (tAdd s x).2 M' → Q (some (.int (iI (tAdd s x).1))) M') : P 34 0 [(0, .ref 0), (1, .int (iI x))] [] M Q := by
  obtain ⟨h1, h2⟩ := hx
  have hQ0 := hQ M cFrm.rf
  have hn := hS.1.2.1
  unfold tAdd at hQ hQ0
  refine v_sa_add_0 hG ?_
  rw [i2l h1 h2]
  refine s_sa_isPhase hG (by omega) (by omega) ?_
  refine v_sa_add_3 hG ?_
  have hz := bZ_in (-99999 ≤ x ∧ x ≤ 99999)
  simp (disch := omega) only [iI_add, iI_sub, iI_mul, iI_neg, iI_lt, iI_le, iI_eq, iI_cl, vp_iI, Classical.not_not, iLn1000000005, iLn1000000004, iLn1000000003, iLn1000000002, iLn1000000001, iLn99999, iLn9999, iLn2, iLn1, iL0, iL1, iL2, iL3, iL4, iL5, iL6, iL7, iL8, iL9, iL10, iL15, iL16, iL31, iL32, iL40, iL42, iL45, iL48, iL57, iL59, iL63, iL64, iL65, iL120, iL126, iL455, iL520, iL9999, iL99999, iN2, iN8, iN64, iN65, iN120, iN130, iN520, bZ_0]
  refine ⟨fun c => ?_, fun c => ?_⟩
  · simp only [if_pos c] at hQ hQ0
    refine s_rd_size hG q1Rd hS.1 ?_
    refine v_sa_add_9 hG ?_
    simp (disch := omega) only [iI_add, iI_sub, iI_mul, iI_neg, iI_lt, iI_le, iI_eq, iI_cl, vp_iI, Classical.not_not, iLn1000000005, iLn1000000004, iLn1000000003, iLn1000000002, iLn1000000001, iLn99999, iLn9999, iLn2, iLn1, iL0, iL1, iL2, iL3, iL4, iL5, iL6, iL7, iL8, iL9, iL10, iL15, iL16, iL31, iL32, iL40, iL42, iL45, iL48, iL57, iL59, iL63, iL64, iL65, iL120, iL126, iL455, iL520, iL9999, iL99999, iN2, iN8, iN64, iN65, iN120, iN130, iN520]
    refine ⟨fun c2 => ?_, fun c2 => ?_⟩
    · simp only [if_neg (show ¬ s.1.1 = 64 by omega)] at hQ
      refine C_rec hG hS (fun M1 hR1 hF1 hK => ?_)
      refine v_sa_add_18 hG ?_
      refine s_rd_append hG q1Rd hR1 (Or.inr c) (by omega) (fun M2 hR2 hF2 => ?_)
      refine v_sa_add_22 hG ?_
      refine s_rd_size hG q1Rd hR2 ?_
      refine v_sa_add_25 hG ?_
      simp (disch := omega) only [iI_add, iI_sub, iI_mul, iI_neg, iI_lt, iI_le, iI_eq, iI_cl, vp_iI, Classical.not_not, iLn1000000005, iLn1000000004, iLn1000000003, iLn1000000002, iLn1000000001, iLn99999, iLn9999, iLn2, iLn1, iL0, iL1, iL2, iL3, iL4, iL5, iL6, iL7, iL8, iL9, iL10, iL15, iL16, iL31, iL32, iL40, iL42, iL45, iL48, iL57, iL59, iL63, iL64, iL65, iL120, iL126, iL455, iL520, iL9999, iL99999, iN2, iN8, iN64, iN65, iN120, iN130, iN520]
      obtain ⟨k1, k2⟩ := hK M2 (_, _) hF2 hR2
      exact q_i (by omega) (hQ M2 k1 k2)
    · simp only [if_pos (show s.1.1 = 64 by omega)] at hQ0
      exact hQ0 hS
  · simp only [if_neg c] at hQ0
    exact hQ0 hS
theorem C_skip (hG : qGood Ls xs P) {x : Int} (hS : CS s M) (hx : r32 x) (hQ : ∀ M', cFrm M M' → CS (tSkip s x).2 M' → Q (some (.int (iI (tSkip s x).1))) M') : P 35 0 [(0, .ref 0), (1, .int (iI x))] [] M Q := by
  obtain ⟨h1, h2⟩ := hx
  have hQ0 := hQ M cFrm.rf
  have hn := hS.1.2.1
  unfold tSkip at hQ hQ0
  refine v_sa_skip_0 hG ?_
  simp (disch := omega) only [iI_add, iI_sub, iI_mul, iI_neg, iI_lt, iI_le, iI_eq, iI_cl, vp_iI, Classical.not_not, iLn1000000005, iLn1000000004, iLn1000000003, iLn1000000002, iLn1000000001, iLn99999, iLn9999, iLn2, iLn1, iL0, iL1, iL2, iL3, iL4, iL5, iL6, iL7, iL8, iL9, iL10, iL15, iL16, iL31, iL32, iL40, iL42, iL45, iL48, iL57, iL59, iL63, iL64, iL65, iL120, iL126, iL455, iL520, iL9999, iL99999, iN2, iN8, iN64, iN65, iN120, iN130, iN520]
  refine ⟨fun c => ?_, fun c => ⟨fun c2 => ?_, fun c2 => ?_⟩⟩
  · simp only [if_neg (show ¬ (1 ≤ x ∧ x ≤ 64) by omega)] at hQ0
    exact hQ0 hS
  · simp only [if_pos (show 1 ≤ x ∧ x ≤ 64 by omega)] at hQ hQ0
    refine s_rd_size hG q1Rd hS.1 ?_
    refine v_sa_skip_11 hG ?_
    simp (disch := omega) only [iI_add, iI_sub, iI_mul, iI_neg, iI_lt, iI_le, iI_eq, iI_cl, vp_iI, Classical.not_not, iLn1000000005, iLn1000000004, iLn1000000003, iLn1000000002, iLn1000000001, iLn99999, iLn9999, iLn2, iLn1, iL0, iL1, iL2, iL3, iL4, iL5, iL6, iL7, iL8, iL9, iL10, iL15, iL16, iL31, iL32, iL40, iL42, iL45, iL48, iL57, iL59, iL63, iL64, iL65, iL120, iL126, iL455, iL520, iL9999, iL99999, iN2, iN8, iN64, iN65, iN120, iN130, iN520]
    refine ⟨fun c3 => ?_, fun c3 => ?_⟩
    · simp only [if_neg (show ¬ 64 < s.1.1 + x by omega)] at hQ
      refine C_rec hG hS (fun M1 hR1 hF1 hK => ?_)
      have e : x = ((x.toNat : Nat) : Int) := by omega
      refine v_sa_skip_22 hG ?_
      rw [iLn1000000001, e]
      refine s_rd_appendTimes hG q1Rd hR1 (Or.inl rfl) (by omega) (fun M2 hR2 hF2 => ?_)
      refine v_sa_skip_27 hG ?_
      refine s_rd_size hG q1Rd hR2 ?_
      refine v_sa_skip_30 hG ?_
      obtain ⟨k1, k2⟩ := hK M2 (_, _) hF2 hR2
      exact q_i (by omega) (hQ M2 k1 k2)
    · simp only [if_pos (show 64 < s.1.1 + x by omega)] at hQ0
      exact hQ0 hS
  · simp only [if_neg (show ¬ (1 ≤ x ∧ x ≤ 64) by omega)] at hQ0
    exact hQ0 hS
theorem C_set (hG : qGood Ls xs P) {i x : Int} (hS : CS s M) (hi : r32 i) (hx : r32 x) (hQ : ∀ M', cFrm M M' → CS (tSet s i x).2 M' → Q (some (.int (iI (tSet s i x).1))) M') : P 36 0 [(0, .ref 0), (1, .int (iI i)), (2, .int (iI x))] [] M Q := by
  obtain ⟨h1, h2⟩ := hx
  obtain ⟨g1, g2⟩ := hi
  have hQ0 := hQ M cFrm.rf
  have hn := hS.1.2.1
  unfold tSet at hQ hQ0
  have tail : (0 ≤ i ∧ i < s.1.1) → (x = (-1000000001) ∨ (-99999 ≤ x ∧ x ≤ 99999)) → P 13 0 [(0, .ref 1), (1, .int (iI i))] [] M (fun v M' => P 36 18 [(0, .ref 0), (1, .int (iI i)), (2, .int (iI x))] (v.toList ++ []) M' Q) := by
    intro c1 c2
    simp only [if_pos (show (0 ≤ i ∧ i < s.1.1) ∧ (x = (-1000000001) ∨ (-99999 ≤ x ∧ x ≤ 99999)) from ⟨c1, c2⟩)] at hQ
    refine s_rd_at hG q1Rd hS.1 g1 g2 ?_
    refine v_sa_set_18 hG ?_
    refine C_rec hG hS (fun M1 hR1 hF1 hK => ?_)
    refine v_sa_set_24 hG ?_
    refine s_rd_put hG q1Rd hR1 c2 c1.1 c1.2 (fun M2 hR2 hF2 => ?_)
    obtain ⟨k1, k2⟩ := hK M2 (s.1.1, fun j => if j = i.toNat then x else s.1.2 j) hF2 hR2
    refine v_sa_set_29 hG (q_i ?_ (hQ M2 k1 k2))
    unfold vl
    rw [if_pos c1]
  refine v_sa_set_0 hG ?_
  refine s_rd_reaches hG q1Rd hS.1 g1 g2 ?_
  refine v_sa_set_4 hG ?_
  have hz := bZ_in (0 ≤ i ∧ i < s.1.1)
  rw [i2l h1 h2]
  simp (disch := omega) only [iI_add, iI_sub, iI_mul, iI_neg, iI_lt, iI_le, iI_eq, iI_cl, vp_iI, Classical.not_not, iLn1000000005, iLn1000000004, iLn1000000003, iLn1000000002, iLn1000000001, iLn99999, iLn9999, iLn2, iLn1, iL0, iL1, iL2, iL3, iL4, iL5, iL6, iL7, iL8, iL9, iL10, iL15, iL16, iL31, iL32, iL40, iL42, iL45, iL48, iL57, iL59, iL63, iL64, iL65, iL120, iL126, iL455, iL520, iL9999, iL99999, iN2, iN8, iN64, iN65, iN120, iN130, iN520, bZ_0]
  refine ⟨fun c => ?_, fun c => ⟨fun c2 => ?_, fun c2 => ?_⟩⟩
  · simp only [if_neg (show ¬ ((0 ≤ i ∧ i < s.1.1) ∧ (x = (-1000000001) ∨ (-99999 ≤ x ∧ x ≤ 99999))) from fun z => c z.1)] at hQ0
    exact hQ0 hS
  · exact tail c (Or.inl c2)
  · refine s_sa_isPhase hG (by omega) (by omega) ?_
    refine v_sa_set_11 hG ?_
    have hz2 := bZ_in (-99999 ≤ x ∧ x ≤ 99999)
    simp (disch := omega) only [iI_add, iI_sub, iI_mul, iI_neg, iI_lt, iI_le, iI_eq, iI_cl, vp_iI, Classical.not_not, iLn1000000005, iLn1000000004, iLn1000000003, iLn1000000002, iLn1000000001, iLn99999, iLn9999, iLn2, iLn1, iL0, iL1, iL2, iL3, iL4, iL5, iL6, iL7, iL8, iL9, iL10, iL15, iL16, iL31, iL32, iL40, iL42, iL45, iL48, iL57, iL59, iL63, iL64, iL65, iL120, iL126, iL455, iL520, iL9999, iL99999, iN2, iN8, iN64, iN65, iN120, iN130, iN520, bZ_0]
    refine ⟨fun c3 => tail c (Or.inr c3), fun c3 => ?_⟩
    simp only [if_neg (show ¬ ((0 ≤ i ∧ i < s.1.1) ∧ (x = (-1000000001) ∨ (-99999 ≤ x ∧ x ≤ 99999))) from fun z => z.2.elim c2 c3)] at hQ0
    exact hQ0 hS
theorem C_clear (hG : qGood Ls xs P) (hS : CS s M) (hQ : ∀ M', cFrm M M' → CS (tClear s).2 M' → Q (some (.int (iI (tClear s).1))) M') : P 37 0 [(0, .ref 0)] [] M Q := by
  refine v_sa_clear_0 hG ?_
  refine s_rd_size hG q1Rd hS.1 ?_
  refine v_sa_clear_3 hG ?_
  refine C_rec hG hS (fun M1 hR1 hF1 hK => ?_)
  refine v_sa_clear_9 hG ?_
  refine s_rd_empty (f := s.1.2) hG q1Rd (fun M2 hR2 hF2 => ?_)
  obtain ⟨k1, k2⟩ := hK M2 (_, _) (hF2.up (by simp)) hR2
  exact v_sa_clear_12 hG (hQ M2 k1 k2)
theorem C_undo (hG : qGood Ls xs P) (hS : CS s M) (hQ : ∀ M', cFrm M M' → CS (tUndo s).2 M' → Q (some (.int (iI (tUndo s).1))) M') : P 44 0 [(0, .ref 0)] [] M Q := by
  obtain ⟨h1, ⟨o, ho, hd, hO, hD, hA⟩, h3, h4, h5⟩ := id hS
  have hQ0 := hQ M cFrm.rf
  unfold tUndo at hQ hQ0
  refine v_sa_undo_0 hG ?_
  refine v_hi_depth_0 hG ?_
  rw [hD]
  refine v_sa_undo_3 hG ?_
  simp (disch := omega) only [iI_add, iI_sub, iI_mul, iI_neg, iI_lt, iI_le, iI_eq, iI_cl, vp_iI, Classical.not_not, iLn1000000005, iLn1000000004, iLn1000000003, iLn1000000002, iLn1000000001, iLn99999, iLn9999, iLn2, iLn1, iL0, iL1, iL2, iL3, iL4, iL5, iL6, iL7, iL8, iL9, iL10, iL15, iL16, iL31, iL32, iL40, iL42, iL45, iL48, iL57, iL59, iL63, iL64, iL65, iL120, iL126, iL455, iL520, iL9999, iL99999, iN2, iN8, iN64, iN65, iN120, iN130, iN520]
  refine ⟨fun c => ?_, fun c => ?_⟩
  · simp only [if_neg (show ¬ s.2.1.1 = 0 by omega)] at hQ
    refine v_hi_restore_0 hG ?_
    simp (disch := omega) only [iI_add, iI_sub, iI_mul, iI_neg, iI_lt, iI_le, iI_eq, iI_cl, vp_iI, Classical.not_not, iLn1000000005, iLn1000000004, iLn1000000003, iLn1000000002, iLn1000000001, iLn99999, iLn9999, iLn2, iLn1, iL0, iL1, iL2, iL3, iL4, iL5, iL6, iL7, iL8, iL9, iL10, iL15, iL16, iL31, iL32, iL40, iL42, iL45, iL48, iL57, iL59, iL63, iL64, iL65, iL120, iL126, iL455, iL520, iL9999, iL99999, iN2, iN8, iN64, iN65, iN120, iN130, iN520, hD]
    have ed : ((s.2.1.1 : Nat) : Int) - 1 = ((s.2.1.1 - 1 : Nat) : Int) := by omega
    rw [ed]
    have q8 := qd8 ((o + (s.2.1.1 - 1)) % 8) (by omega)
    refine s_hi_stateAt hG ho (by omega) hO ?_
    refine v_hi_restore_6 hG q8.1 ?_
    refine s_rd_copyFrom hG q1Rd q8.1 (by omega) (by rw [q8.2.1]; show _ ≠ 2; omega) (hA _ (by omega)) (fun M2 hR2 hF2 => ?_)
    have hF2' : qFm [1, 2] M M2 := hF2
    refine v_hi_restore_12 hG ?_
    refine v_sa_undo_11 hG ?_
    refine v_hi_depth_0 hG ?_
    rw [pI_e, (hF2' 6 (by decide)).1, hD]
    refine v_sa_undo_14 hG ?_
    simp (disch := omega) only [iI_add, iI_sub, iI_mul, iI_neg, iI_lt, iI_le, iI_eq, iI_cl, vp_iI, Classical.not_not, iLn1000000005, iLn1000000004, iLn1000000003, iLn1000000002, iLn1000000001, iLn99999, iLn9999, iLn2, iLn1, iL0, iL1, iL2, iL3, iL4, iL5, iL6, iL7, iL8, iL9, iL10, iL15, iL16, iL31, iL32, iL40, iL42, iL45, iL48, iL57, iL59, iL63, iL64, iL65, iL120, iL126, iL455, iL520, iL9999, iL99999, iN2, iN8, iN64, iN65, iN120, iN130, iN520]
    have fr : ∀ a, a ≠ 6 → a ≠ 1 → a ≠ 2 → (pI M2 6 2 (iI (s.2.1.1 - 1))).1 a = M.1 a := fun a e1 e2 e3 => by
      rw [pI_o e1, (hF2' a (not12 e2 e3)).1]
    refine hQ _ (fun a ha => fr a (by omega) (by omega) (by omega)) ⟨hR2.f1 (pI_o (by omega)) (pI_o (by decide)), ⟨o, ho, by dsimp only; omega, ?_, ?_, fun a ha => ?_⟩, h3.f (fun a _ _ => fr a (by omega) (by omega) (by omega)), ⟨?_, h4.2.1, fun j hj => ?_⟩, ⟨?_, ?_⟩⟩
    · rw [pI_nj (by omega), (hF2' 6 (by decide)).1]; exact hO
    · rw [pI_e, ed]
    · have ha' : a < s.2.1.1 - 1 := ha
      refine (hA a (by omega)).f1 (fr _ (by omega) (by omega) (by omega)) ?_
      rw [(qd8 ((o + a) % 8) (by omega)).2.1]
      exact fr _ (by omega) (by omega) (by omega)
    · rw [fr 31 (by omega) (by omega) (by omega)]; exact h4.1
    · rw [fr 32 (by omega) (by omega) (by omega)]; exact h4.2.2 j hj
    · rw [fr 33 (by omega) (by omega) (by omega)]; exact h5.1
    · rw [fr 33 (by omega) (by omega) (by omega)]; exact h5.2
  · simp only [if_pos (show s.2.1.1 = 0 by omega)] at hQ0
    exact hQ0 hS
theorem C_keep (hG : qGood Ls xs P) {i : Int} (hS : CS s M) (hi : r32 i) (hQ : ∀ M', cFrm M M' → CS (tKeep s i).2 M' → Q (some (.int (iI (tKeep s i).1))) M') : P 53 0 [(0, .ref 0), (1, .int (iI i))] [] M Q := by
  obtain ⟨g1, g2⟩ := hi
  obtain ⟨h1, h2, h3, h4, h5⟩ := id hS
  have hQ0 := hQ M cFrm.rf
  unfold tKeep at hQ hQ0
  refine v_sa_keep_0 hG ?_
  refine v_sa_imageAt_0 hG ?_
  simp (disch := omega) only [iI_add, iI_sub, iI_mul, iI_neg, iI_lt, iI_le, iI_eq, iI_cl, vp_iI, Classical.not_not, iLn1000000005, iLn1000000004, iLn1000000003, iLn1000000002, iLn1000000001, iLn99999, iLn9999, iLn2, iLn1, iL0, iL1, iL2, iL3, iL4, iL5, iL6, iL7, iL8, iL9, iL10, iL15, iL16, iL31, iL32, iL40, iL42, iL45, iL48, iL57, iL59, iL63, iL64, iL65, iL120, iL126, iL455, iL520, iL9999, iL99999, iN2, iN8, iN64, iN65, iN120, iN130, iN520]
  refine ⟨fun c => ?_, fun c => ⟨fun c2 => ⟨by omega, ?_⟩, fun c2 => ?_⟩⟩
  · simp only [if_neg (show ¬ (0 ≤ i ∧ i ≤ 1) by omega)] at hQ0
    exact v_sa_keep_3n hG (hQ0 hS)
  · simp only [if_pos (show 0 ≤ i ∧ i ≤ 1 by omega)] at hQ
    have hj : i.toNat < 2 := by omega
    generalize i.toNat = j at hj hQ
    obtain ⟨e1, e2, e3, e4, e5⟩ := im2 j hj
    rw [e1]
    refine v_sa_keep_3 hG ⟨e2, by rw [e4]; exact e3⟩ ?_
    rw [e4]
    refine s_rd_copyFrom hG e3 q1Rd (by omega) (by rw [e5]; show 2 ≠ _; omega) h1 (fun M2 hR2 hF2 => ?_)
    rw [e5] at hF2
    refine v_sa_keep_13 hG ⟨e2, by rw [e4]; exact e3⟩ ⟨by decide, ?_⟩
    have fr : ∀ a, a ≠ 25 + 3 * j → a ≠ 26 + 3 * j → a ≠ 27 + 3 * j → (pI M2 (25 + 3 * j) 1 (1 : Int32)).1 a = M.1 a := fun a q1 q2 q3 => by
      rw [pI_o q1, (hF2 a (by simp only [List.mem_cons, List.not_mem_nil, or_false, not_or]; exact ⟨q2, q3⟩)).1]
    have h1' : cRd (pI M2 (25 + 3 * j) 1 (1 : Int32)) 1 s.1.1 s.1.2 := h1.f1 (fr _ (by omega) (by omega) (by omega)) (by show (pI M2 (25 + 3 * j) 1 (1 : Int32)).1 2 = M.1 2; exact fr _ (by omega) (by omega) (by omega))
    refine s_rd_size hG q1Rd h1' ?_
    refine v_sa_keep_19 hG ?_
    refine hQ _ (fun a ha => fr a (by omega) (by omega) (by omega)) ⟨h1', h2.f (fun a ha => fr a (by omega) (by omega) (by omega)), fun a ha => ⟨?_, fun r hr => ?_⟩, ⟨?_, h4.2.1, fun j hj => ?_⟩, ⟨?_, ?_⟩⟩
    · show _ = iI (oB (if a = j then some s.1 else s.2.2.1 a))
      by_cases q : a = j
      · rw [if_pos q, q, pI_e]; rfl
      · rw [if_neg q, fr _ (by omega) (by omega) (by omega)]
        exact (h3 a ha).1
    · have hr' : (if a = j then some s.1 else s.2.2.1 a) = some r := hr
      by_cases q : a = j
      · rw [if_pos q] at hr'
        cases hr'
        rw [q]
        exact hR2.f1 (pI_o (by omega)) (pI_o (by rw [e5]; omega))
      · rw [if_neg q] at hr'
        refine ((h3 a ha).2 r hr').f1 (fr _ (by omega) (by omega) (by omega)) ?_
        rw [(im2 a ha).2.2.2.2]
        exact fr _ (by omega) (by omega) (by omega)
    · rw [fr 31 (by omega) (by omega) (by omega)]; exact h4.1
    · rw [fr 32 (by omega) (by omega) (by omega)]; exact h4.2.2 j hj
    · rw [fr 33 (by omega) (by omega) (by omega)]; exact h5.1
    · rw [fr 33 (by omega) (by omega) (by omega)]; exact h5.2
  · simp only [if_neg (show ¬ (0 ≤ i ∧ i ≤ 1) by omega)] at hQ0
    exact v_sa_keep_3n hG (hQ0 hS)
theorem C_back (hG : qGood Ls xs P) {i : Int} (hS : CS s M) (hi : r32 i) (hQ : ∀ M', cFrm M M' → CS (tBack s i).2 M' → Q (some (.int (iI (tBack s i).1))) M') : P 54 0 [(0, .ref 0), (1, .int (iI i))] [] M Q := by
  obtain ⟨g1, g2⟩ := hi
  obtain ⟨h1, h2, h3, h4, h5⟩ := id hS
  have hQ0 := hQ M cFrm.rf
  unfold tBack at hQ hQ0
  refine v_sa_back_0 hG ?_
  refine v_sa_imageAt_0 hG ?_
  simp (disch := omega) only [iI_add, iI_sub, iI_mul, iI_neg, iI_lt, iI_le, iI_eq, iI_cl, vp_iI, Classical.not_not, iLn1000000005, iLn1000000004, iLn1000000003, iLn1000000002, iLn1000000001, iLn99999, iLn9999, iLn2, iLn1, iL0, iL1, iL2, iL3, iL4, iL5, iL6, iL7, iL8, iL9, iL10, iL15, iL16, iL31, iL32, iL40, iL42, iL45, iL48, iL57, iL59, iL63, iL64, iL65, iL120, iL126, iL455, iL520, iL9999, iL99999, iN2, iN8, iN64, iN65, iN120, iN130, iN520]
  refine ⟨fun c => ?_, fun c => ⟨fun c2 => ⟨by omega, ?_⟩, fun c2 => ?_⟩⟩
  · simp only [if_neg (show ¬ (0 ≤ i ∧ i ≤ 1) by omega)] at hQ0
    exact v_sa_back_3n hG (hQ0 hS)
  · simp only [if_pos (show 0 ≤ i ∧ i ≤ 1 by omega)] at hQ hQ0
    have hj : i.toNat < 2 := by omega
    generalize i.toNat = j at hj hQ hQ0
    obtain ⟨e1, e2, e3, e4, e5⟩ := im2 j hj
    obtain ⟨u1, u2⟩ := h3 j hj
    rw [e1]
    refine v_sa_back_3 hG ⟨e2, by rw [e4]; exact e3⟩ ?_
    rw [u1]
    cases hg : s.2.2.1 j with
    | none =>
      rw [hg] at hQ0
      exact ⟨fun c => absurd (by decide) c, fun _ => hQ0 hS⟩
    | some r =>
      rw [hg] at hQ
      refine ⟨fun _ => ?_, fun c => absurd (show ¬ iI 1 = 0 by decide) c⟩
      have hr := u2 r hg
      refine C_rec hG hS (fun M1 hR1 hF1 hK => ?_)
      refine v_sa_back_18 hG ⟨e2, by rw [e4]; exact e3⟩ ?_
      rw [e4]
      refine s_rd_copyFrom hG q1Rd e3 (by omega) (by rw [e5]; show _ ≠ 2; omega) (hr.fm hF1 (hiL_no (by omega) (by omega)) (by rw [e5]; exact hiL_no (by omega) (by omega))) (fun M2 hR2 hF2 => ?_)
      refine v_sa_back_23 hG ?_
      refine s_rd_size hG q1Rd hR2 ?_
      refine v_sa_back_26 hG ?_
      obtain ⟨k1, k2⟩ := hK M2 r hF2 hR2
      exact hQ M2 k1 k2
  · simp only [if_neg (show ¬ (0 ≤ i ∧ i ≤ 1) by omega)] at hQ0
    exact v_sa_back_3n hG (hQ0 hS)
end CL1
end
section
/-! thin and removeOutliers, both sides -/
theorem thz_le (n e : Nat) : ∀ c i, thz n e c i ≤ c := by
  intro c
  induction c with
  | zero => intro i; exact Nat.le_refl _
  | succ c ih =>
    intro i
    rw [thz_s]
    split
    · have := ih (i + e); omega
    · omega
theorem thz_0 {n e c i : Nat} (h : n ≤ i) : thz n e c i = 0 := by
  cases c with
  | zero => rfl
  | succ c => rw [thz_s, if_neg (by omega)]
section TH
variable {Ls : Nat} {xs : Nat → Int32} {P : qSem} {M : qMem} {Q : qPost} {s : zSt}
theorem q3Rd : qRd 3 := ⟨rfl, rfl, rfl⟩
theorem C_thin (hG : qGood Ls xs P) {e k : Int} (hS : CS s M) (he : r32 e) (hk : r32 k) (hQ : ∀ M', cFrm M M' → CS (tThin s e k).2 M' → Q (some (.int (iI (tThin s e k).1))) M') : P 43 0 [(0, .ref 0), (1, .int (iI e)), (2, .int (iI k))] [] M Q := by
  obtain ⟨g1, g2⟩ := he
  obtain ⟨g3, g4⟩ := hk
  have hQ0 := hQ M cFrm.rf
  have hn := hS.1.2.1
  unfold tThin at hQ hQ0
  refine v_sa_thin_0 hG ?_
  simp (disch := omega) only [iI_add, iI_sub, iI_mul, iI_neg, iI_lt, iI_le, iI_eq, iI_cl, vp_iI, Classical.not_not, iLn1000000005, iLn1000000004, iLn1000000003, iLn1000000002, iLn1000000001, iLn99999, iLn9999, iLn2, iLn1, iL0, iL1, iL2, iL3, iL4, iL5, iL6, iL7, iL8, iL9, iL10, iL15, iL16, iL31, iL32, iL40, iL42, iL45, iL48, iL57, iL59, iL63, iL64, iL65, iL120, iL126, iL455, iL520, iL9999, iL99999, iN2, iN8, iN64, iN65, iN120, iN130, iN520]
  refine ⟨fun c => ?_, fun c => ⟨fun c2 => ?_, fun c2 => ⟨fun c3 => ?_, fun c3 => ⟨fun c4 => ?_, fun c4 => ?_⟩⟩⟩⟩
  · simp only [if_neg (show ¬ ((1 ≤ e ∧ e ≤ 16) ∧ 0 ≤ k ∧ k < e) by omega)] at hQ0
    exact hQ0 hS
  · simp only [if_neg (show ¬ ((1 ≤ e ∧ e ≤ 16) ∧ 0 ≤ k ∧ k < e) by omega)] at hQ0
    exact hQ0 hS
  · simp only [if_neg (show ¬ ((1 ≤ e ∧ e ≤ 16) ∧ 0 ≤ k ∧ k < e) by omega)] at hQ0
    exact hQ0 hS
  · simp only [if_pos (show ((1 ≤ e ∧ e ≤ 16) ∧ 0 ≤ k ∧ k < e) by omega)] at hQ
    have ee : e = ((e.toNat : Nat) : Int) := by omega
    have ek : k = ((k.toNat : Nat) : Int) := by omega
    generalize e.toNat = en at *
    generalize k.toNat = kn at *
    subst ee
    subst ek
    refine s_rd_empty (f := fun j => s.1.2 (kn + en * j)) hG q3Rd (fun M0 hR0 hF0 => ?_)
    refine v_sa_thin_16 hG ?_
    have key : ∀ (c j i : Nat) (M1 : qMem), j + c = 64 → j ≤ i → i ≤ 100 → i = kn + en * j → j + thz s.1.1 en c i = thz s.1.1 en 64 kn → qFm [3, 4] M M1 → cRd M1 3 j (fun j => s.1.2 (kn + en * j)) → P 43 18 [(0, .ref 0), (1, .int (iI en)), (3, .int (iI i))] [] M1 Q := by
      intro c
      induction c with
      | zero =>
        intro j i M1 hj hji hi100 hi ht hF1 hR1
        have hS1 := hS.nx hF1 (by decide)
        refine v_sa_thin_18 hG ?_
        refine s_rd_size hG q1Rd hS1.1 ?_
        refine v_sa_thin_22 hG ?_
        simp (disch := omega) only [iI_add, iI_sub, iI_mul, iI_neg, iI_lt, iI_le, iI_eq, iI_cl, vp_iI, Classical.not_not, iLn1000000005, iLn1000000004, iLn1000000003, iLn1000000002, iLn1000000001, iLn99999, iLn9999, iLn2, iLn1, iL0, iL1, iL2, iL3, iL4, iL5, iL6, iL7, iL8, iL9, iL10, iL15, iL16, iL31, iL32, iL40, iL42, iL45, iL48, iL57, iL59, iL63, iL64, iL65, iL120, iL126, iL455, iL520, iL9999, iL99999, iN2, iN8, iN64, iN65, iN120, iN130, iN520]
        refine ⟨fun _ => ?_, fun c => by omega⟩
        refine C_rec hG hS1 (fun M2 hR2 hF2 hK => ?_)
        refine v_sa_thin_40 hG ?_
        refine s_rd_copyFrom hG q1Rd q3Rd (by omega) (by decide) (hR1.fm hF2 (by decide) (by decide)) (fun M3 hR3 hF3 => ?_)
        refine v_sa_thin_45 hG ?_
        refine s_rd_size hG q1Rd hR3 ?_
        refine v_sa_thin_48 hG ?_
        have ej : j = thz s.1.1 en 64 kn := by rw [← ht]; rfl
        obtain ⟨k1, k2⟩ := hK M3 (j, fun j => s.1.2 (kn + en * j)) hF3 hR3
        rw [← ej] at hQ
        refine hQ M3 (fun a ha => ?_) k2
        rw [k1 a ha, (hF1 a (by simp only [List.mem_cons, List.not_mem_nil, or_false, not_or]; omega)).1]
      | succ c ih =>
        intro j i M1 hj hji hi100 hi ht hF1 hR1
        have hS1 := hS.nx hF1 (by decide)
        refine v_sa_thin_18 hG ?_
        refine s_rd_size hG q1Rd hS1.1 ?_
        refine v_sa_thin_22 hG ?_
        simp (disch := omega) only [iI_add, iI_sub, iI_mul, iI_neg, iI_lt, iI_le, iI_eq, iI_cl, vp_iI, Classical.not_not, iLn1000000005, iLn1000000004, iLn1000000003, iLn1000000002, iLn1000000001, iLn99999, iLn9999, iLn2, iLn1, iL0, iL1, iL2, iL3, iL4, iL5, iL6, iL7, iL8, iL9, iL10, iL15, iL16, iL31, iL32, iL40, iL42, iL45, iL48, iL57, iL59, iL63, iL64, iL65, iL120, iL126, iL455, iL520, iL9999, iL99999, iN2, iN8, iN64, iN65, iN120, iN130, iN520]
        refine ⟨fun c5 => ?_, fun c5 => ?_⟩
        · refine C_rec hG hS1 (fun M2 hR2 hF2 hK => ?_)
          refine v_sa_thin_40 hG ?_
          refine s_rd_copyFrom hG q1Rd q3Rd (by omega) (by decide) (hR1.fm hF2 (by decide) (by decide)) (fun M3 hR3 hF3 => ?_)
          refine v_sa_thin_45 hG ?_
          refine s_rd_size hG q1Rd hR3 ?_
          refine v_sa_thin_48 hG ?_
          have ej : j = thz s.1.1 en 64 kn := by rw [← ht, thz_0 (by omega)]; rfl
          obtain ⟨k1, k2⟩ := hK M3 (j, fun j => s.1.2 (kn + en * j)) hF3 hR3
          rw [← ej] at hQ
          refine hQ M3 (fun a ha => ?_) k2
          rw [k1 a ha, (hF1 a (by simp only [List.mem_cons, List.not_mem_nil, or_false, not_or]; omega)).1]
        · refine s_rd_at hG q1Rd hS1.1 (by omega) (by omega) ?_
          refine v_sa_thin_29 hG ?_
          refine s_rd_append hG q3Rd hR1 (vl_ok hS.1.ok _) (by omega) (fun M2 hR2 hF2 => ?_)
          refine v_sa_thin_30 hG ?_
          simp (disch := omega) only [iI_add, iI_sub, iI_mul, iI_neg, iI_lt, iI_le, iI_eq, iI_cl, vp_iI, Classical.not_not, iLn1000000005, iLn1000000004, iLn1000000003, iLn1000000002, iLn1000000001, iLn99999, iLn9999, iLn2, iLn1, iL0, iL1, iL2, iL3, iL4, iL5, iL6, iL7, iL8, iL9, iL10, iL15, iL16, iL31, iL32, iL40, iL42, iL45, iL48, iL57, iL59, iL63, iL64, iL65, iL120, iL126, iL455, iL520, iL9999, iL99999, iN2, iN8, iN64, iN65, iN120, iN130, iN520]
          rw [thz_s, if_pos (by omega)] at ht
          refine ih (j + 1) (i + en) M2 (by omega) (by omega) (by omega) (by rw [Nat.mul_succ]; omega) (by omega) (hF1.tr hF2) (hR2.eqv (fun q hq => ?_))
          by_cases eq : q = j
          · rw [if_pos eq, eq, ← hi]
            unfold vl
            rw [if_pos (by omega)]
            congr 1
          · rw [if_neg eq]
    exact key 64 0 kn M0 (by omega) (by omega) (by omega) (by omega) (by omega) (hF0.up (by decide)) hR0
  · simp only [if_neg (show ¬ ((1 ≤ e ∧ e ≤ 16) ∧ 0 ≤ k ∧ k < e) by omega)] at hQ0
    exact hQ0 hS
theorem C_removeOutliers (hG : qGood Ls xs P) {lim : Int} (hS : CS s M) (hl : r32 lim) (hQ : ∀ M', cFrm M M' → CS (tOutl s lim).2 M' → Q (some (.int (iI (tOutl s lim).1))) M') : P 41 0 [(0, .ref 0), (1, .int (iI lim))] [] M Q := by
  have hQ0 := hQ M cFrm.rf
  have hn := hS.1.2.1
  unfold tOutl at hQ hQ0
  refine v_sa_removeOutliers_0 hG ?_
  refine s_sa_isLimit hG hl ?_
  refine v_sa_removeOutliers_2 hG ?_
  have hz := bZ_in (0 ≤ lim ∧ lim ≤ 99999)
  simp (disch := omega) only [iI_add, iI_sub, iI_mul, iI_neg, iI_lt, iI_le, iI_eq, iI_cl, vp_iI, Classical.not_not, iLn1000000005, iLn1000000004, iLn1000000003, iLn1000000002, iLn1000000001, iLn99999, iLn9999, iLn2, iLn1, iL0, iL1, iL2, iL3, iL4, iL5, iL6, iL7, iL8, iL9, iL10, iL15, iL16, iL31, iL32, iL40, iL42, iL45, iL48, iL57, iL59, iL63, iL64, iL65, iL120, iL126, iL455, iL520, iL9999, iL99999, iN2, iN8, iN64, iN65, iN120, iN130, iN520, bZ_0]
  refine ⟨fun c => ?_, fun c => ?_⟩
  · simp only [if_pos c] at hQ
    refine s_rd_copyFrom hG q3Rd q1Rd (by omega) (by decide) hS.1 (fun M0 hR0 hF0 => ?_)
    refine v_sa_removeOutliers_12 hG ?_
    have key : ∀ (c' j : Nat) (M1 : qMem), j + c' = s.1.1 → qFm [3, 4] M M1 → cRd M1 3 s.1.1 (fun i => if i < j ∧ otl s.1.1 s.1.2 lim i = true then (-1000000001) else s.1.2 i) → P 41 14 [(0, .ref 0), (1, .int (iI lim)), (2, .int (iI (cz (otl s.1.1 s.1.2 lim) j))), (3, .int (iI j))] [] M1 Q := by
      intro c'
      induction c' with
      | zero =>
        intro j M1 hj hF1 hR1
        have hS1 := hS.nx hF1 (by decide)
        have ej : j = s.1.1 := by omega
        subst ej
        refine v_sa_removeOutliers_14 hG ?_
        refine s_rd_size hG q1Rd hS1.1 ?_
        refine v_sa_removeOutliers_18 hG ?_
        simp (disch := omega) only [iI_add, iI_sub, iI_mul, iI_neg, iI_lt, iI_le, iI_eq, iI_cl, vp_iI, Classical.not_not, iLn1000000005, iLn1000000004, iLn1000000003, iLn1000000002, iLn1000000001, iLn99999, iLn9999, iLn2, iLn1, iL0, iL1, iL2, iL3, iL4, iL5, iL6, iL7, iL8, iL9, iL10, iL15, iL16, iL31, iL32, iL40, iL42, iL45, iL48, iL57, iL59, iL63, iL64, iL65, iL120, iL126, iL455, iL520, iL9999, iL99999, iN2, iN8, iN64, iN65, iN120, iN130, iN520]
        refine ⟨fun _ => ?_, fun c => by omega⟩
        refine C_rec hG hS1 (fun M2 hR2 hF2 hK => ?_)
        refine v_sa_removeOutliers_38 hG ?_
        refine s_rd_copyFrom hG q1Rd q3Rd (by omega) (by decide) (hR1.fm hF2 (by decide) (by decide)) (fun M3 hR3 hF3 => ?_)
        refine v_sa_removeOutliers_43 hG ?_
        obtain ⟨k1, k2⟩ := hK M3 (s.1.1, fun j => if otl s.1.1 s.1.2 lim j = true then (-1000000001) else s.1.2 j) hF3 (hR3.eqv (fun i hi => by
          show (if otl s.1.1 s.1.2 lim i = true then (-1000000001) else s.1.2 i) = (if i < s.1.1 ∧ otl s.1.1 s.1.2 lim i = true then (-1000000001) else s.1.2 i)
          by_cases q : otl s.1.1 s.1.2 lim i = true
          · rw [if_pos q, if_pos ⟨hi, q⟩]
          · rw [if_neg q, if_neg (fun z => q z.2)]))
        refine hQ M3 (fun a ha => ?_) k2
        rw [k1 a ha, (hF1 a (by simp only [List.mem_cons, List.not_mem_nil, or_false, not_or]; omega)).1]
      | succ c' ih =>
        intro j M1 hj hF1 hR1
        have hS1 := hS.nx hF1 (by decide)
        have hb := cz_in (otl s.1.1 s.1.2 lim) j
        refine v_sa_removeOutliers_14 hG ?_
        refine s_rd_size hG q1Rd hS1.1 ?_
        refine v_sa_removeOutliers_18 hG ?_
        simp (disch := omega) only [iI_add, iI_sub, iI_mul, iI_neg, iI_lt, iI_le, iI_eq, iI_cl, vp_iI, Classical.not_not, iLn1000000005, iLn1000000004, iLn1000000003, iLn1000000002, iLn1000000001, iLn99999, iLn9999, iLn2, iLn1, iL0, iL1, iL2, iL3, iL4, iL5, iL6, iL7, iL8, iL9, iL10, iL15, iL16, iL31, iL32, iL40, iL42, iL45, iL48, iL57, iL59, iL63, iL64, iL65, iL120, iL126, iL455, iL520, iL9999, iL99999, iN2, iN8, iN64, iN65, iN120, iN130, iN520]
        refine ⟨fun c => by omega, fun c5 => ?_⟩
        refine s_rd_isOutlier hG q1Rd hS1.1 (by omega) c.1 c.2 ?_
        refine v_sa_removeOutliers_24 hG ?_
        have hz := bZ_in (otl s.1.1 s.1.2 lim j = true)
        have hI := fun M1 => ih (j + 1) M1 (by omega)
        unfold cz at hI
        simp (disch := omega) only [iI_add, iI_sub, iI_mul, iI_neg, iI_lt, iI_le, iI_eq, iI_cl, vp_iI, Classical.not_not, iLn1000000005, iLn1000000004, iLn1000000003, iLn1000000002, iLn1000000001, iLn99999, iLn9999, iLn2, iLn1, iL0, iL1, iL2, iL3, iL4, iL5, iL6, iL7, iL8, iL9, iL10, iL15, iL16, iL31, iL32, iL40, iL42, iL45, iL48, iL57, iL59, iL63, iL64, iL65, iL120, iL126, iL455, iL520, iL9999, iL99999, iN2, iN8, iN64, iN65, iN120, iN130, iN520, bZ_0]
        refine ⟨fun c6 => ?_, fun c6 => ?_⟩
        · rw [if_neg c6, Int.add_zero] at hI
          refine hI M1 hF1 (hR1.eqv (fun i hi => ?_))
          by_cases q : i = j
          · subst q
            rw [if_neg (fun z => c6 z.2), if_neg (fun z => c6 z.2)]
          · by_cases q2 : i < j ∧ otl s.1.1 s.1.2 lim i = true
            · rw [if_pos q2, if_pos ⟨by omega, q2.2⟩]
            · rw [if_neg q2, if_neg (fun z => q2 ⟨by omega, z.2⟩)]
        · rw [if_pos c6] at hI
          refine s_rd_put hG q3Rd hR1 (Or.inl rfl) (by omega) (by omega) (fun M2 hR2 hF2 => ?_)
          refine v_sa_removeOutliers_30 hG ?_
          simp (disch := omega) only [iI_add, iI_sub, iI_mul, iI_neg, iI_lt, iI_le, iI_eq, iI_cl, vp_iI, Classical.not_not, iLn1000000005, iLn1000000004, iLn1000000003, iLn1000000002, iLn1000000001, iLn99999, iLn9999, iLn2, iLn1, iL0, iL1, iL2, iL3, iL4, iL5, iL6, iL7, iL8, iL9, iL10, iL15, iL16, iL31, iL32, iL40, iL42, iL45, iL48, iL57, iL59, iL63, iL64, iL65, iL120, iL126, iL455, iL520, iL9999, iL99999, iN2, iN8, iN64, iN65, iN120, iN130, iN520]
          refine hI M2 (hF1.tr hF2) (hR2.eqv (fun i hi => ?_))
          by_cases q : i = j
          · subst q
            rw [if_pos ⟨by omega, c6⟩, if_pos (by omega)]
          · rw [if_neg (show ¬ i = ((j : Nat) : Int).toNat by omega)]
            by_cases q2 : i < j ∧ otl s.1.1 s.1.2 lim i = true
            · rw [if_pos q2, if_pos ⟨by omega, q2.2⟩]
            · rw [if_neg q2, if_neg (fun z => q2 ⟨by omega, z.2⟩)]
    simp (disch := omega) only [iI_add, iI_sub, iI_mul, iI_neg, iI_lt, iI_le, iI_eq, iI_cl, vp_iI, Classical.not_not, iLn1000000005, iLn1000000004, iLn1000000003, iLn1000000002, iLn1000000001, iLn99999, iLn9999, iLn2, iLn1, iL0, iL1, iL2, iL3, iL4, iL5, iL6, iL7, iL8, iL9, iL10, iL15, iL16, iL31, iL32, iL40, iL42, iL45, iL48, iL57, iL59, iL63, iL64, iL65, iL120, iL126, iL455, iL520, iL9999, iL99999, iN2, iN8, iN64, iN65, iN120, iN130, iN520]
    exact key s.1.1 0 M0 (by omega) hF0 (hR0.eqv (fun i hi => by rw [if_neg (fun z => absurd z.1 (by omega))]))
  · simp only [if_neg c] at hQ0
    exact hQ0 hS
end TH
end
section
/-! lines and drift: what is subtracted, both sides -/
def sbO (f g : Nat → Int) : Nat → Bool
  | 0 => true
  | k + 1 => sbO f g k && decide (f k = (-1000000001) ∨ (-99999 ≤ f k - g k ∧ f k - g k ≤ 99999))
theorem sbO_s (f g : Nat → Int) (k : Nat) : sbO f g (k + 1) = (sbO f g k && decide (f k = (-1000000001) ∨ (-99999 ≤ f k - g k ∧ f k - g k ≤ 99999))) := rfl
theorem sbO_m {f g : Nat → Int} {k : Nat} : ∀ n, k < n → sbO f g n = true → (f k = (-1000000001) ∨ (-99999 ≤ f k - g k ∧ f k - g k ≤ 99999)) := by
  intro n
  induction n with
  | zero => intro h; omega
  | succ n ih =>
    intro h h2
    rw [sbO_s, Bool.and_eq_true, decide_eq_true_eq] at h2
    by_cases e : k = n
    · rw [e]; exact h2.2
    · exact ih (by omega) h2.1
theorem sbO_f {f g : Nat → Int} {k n : Nat} (hk : k < n) (h1 : f k ≠ (-1000000001)) (h2 : ¬ (-99999 ≤ f k - g k ∧ f k - g k ≤ 99999)) : ¬ sbO f g n = true := fun h => (sbO_m n hk h).elim h1 h2
def sbN (f g : Nat → Int) (k : Nat) : Int := cz (fun t => decide (f t ≠ (-1000000001) ∧ g t ≠ 0)) k
theorem sbN_s (f g : Nat → Int) (k : Nat) : sbN f g (k + 1) = sbN f g k + (if f k ≠ (-1000000001) ∧ g k ≠ 0 then 1 else 0) := by
  unfold sbN
  rw [cz]
  simp only [decide_eq_true_eq]
def sbR (f g : Nat → Int) (t : Nat) : Int := if f t = (-1000000001) then (-1000000001) else f t - g t
def tSub (s : zSt) (g : Nat → Int) : Int × zSt := if sbO s.1.2 g s.1.1 = true then (sbN s.1.2 g s.1.1, zChg s (s.1.1, sbR s.1.2 g)) else (-1000000005, s)
def gOK (n : Nat) (g : Nat → Int) : Prop := ∀ t, t < n → -1000000000000 ≤ g t ∧ g t ≤ 1000000000000
def tLine (s : zSt) (i j : Int) : Int × zSt := if (0 ≤ i ∧ i < s.1.1) ∧ (0 ≤ j ∧ j < s.1.1) ∧ i < j then (if vl s.1.1 s.1.2 i = (-1000000001) ∨ vl s.1.1 s.1.2 j = (-1000000001) then (-1000000003, s) else tSub s (fun t => lnz s.1.1 s.1.2 i j t)) else (-1000000002, s)
def tALine (s : zSt) (a b : Int) : Int × zSt := if (-9999 ≤ a ∧ a ≤ 9999) ∧ (-99999 ≤ b ∧ b ≤ 99999) then tSub s (fun t => -(a * t + b)) else (-1000000002, s)
def dsz (n : Nat) (f : Nat → Int) : Nat → Int
  | 0 => 0
  | k + 1 => dsz n f k + (if dif n f 2 1 k ≠ (-1000000001) then dif n f 2 1 k else 0)
theorem dsz_s (n : Nat) (f : Nat → Int) (k : Nat) : dsz n f (k + 1) = dsz n f k + (if dif n f 2 1 k ≠ (-1000000001) then dif n f 2 1 k else 0) := rfl
def drf (n : Nat) (f : Nat → Int) : Int := dsz n f n / cnd n f 2 1
def tDrift (s : zSt) : Int × zSt := if cnd s.1.1 s.1.2 2 1 = 0 then (-1000000003, s) else (if (tSub s (fun t => drf s.1.1 s.1.2 * ((t : Int) * (t - 1) / 2))).1 = -1000000005 then -1000000005 else drf s.1.1 s.1.2, (tSub s (fun t => drf s.1.1 s.1.2 * ((t : Int) * (t - 1) / 2))).2)
theorem ediv_bd {v b : Int} {B : Nat} (h1 : -(B : Int) ≤ v) (h2 : v ≤ B) : -(B : Int) ≤ v / b ∧ v / b ≤ B := by
  have h := Int.natAbs_ediv_le_natAbs v b
  omega
theorem dsz_bd {n : Nat} {f : Nat → Int} (hf : ∀ j, j < n → okv (f j)) : ∀ k : Nat, -(399996 * (k : Int)) ≤ dsz n f k ∧ dsz n f k ≤ 399996 * (k : Int) := by
  intro k
  induction k with
  | zero => simp [dsz]
  | succ k ih =>
    rw [dsz_s]
    have h : dif n f 2 1 k = (-1000000001) ∨ (-399996 ≤ dif n f 2 1 k ∧ dif n f 2 1 k ≤ 399996) := by
      unfold dif
      split
      · exact sec_ok hf _ _
      · exact Or.inl rfl
    push_cast
    split <;> omega
theorem drf_bd {n : Nat} {f : Nat → Int} (hf : ∀ j, j < n → okv (f j)) (hn : n ≤ 64) : -25599744 ≤ drf n f ∧ drf n f ≤ 25599744 := by
  have h := dsz_bd hf n
  exact ediv_bd (B := 25599744) (by omega) (by omega)
theorem tri : ∀ t : Nat, t < 64 → (t : Int) * ((t : Int) - 1) = ((t : Int) * ((t : Int) - 1) / 2) * 2 ∧ 0 ≤ (t : Int) * ((t : Int) - 1) / 2 ∧ (t : Int) * ((t : Int) - 1) / 2 ≤ 2016 := by decide
theorem lnz_bd {n : Nat} {f : Nat → Int} (hf : ∀ j, j < n → okv (f j)) {i j t : Int} (hi : vl n f i ≠ (-1000000001)) (hj : vl n f j ≠ (-1000000001)) (h1 : 0 ≤ i) (h2 : i ≤ 64) (h3 : 0 ≤ t) (h4 : t ≤ 64) : -1000000000000 ≤ lnz n f i j t ∧ lnz n f i j t ≤ 1000000000000 := by
  have o1 := vl_ok hf i
  have o2 := vl_ok hf j
  unfold okv at o1 o2
  have hm := mul_bd (A := 199998) (C := 64) (a := vl n f j - vl n f i) (c := t - i) (by omega) (by omega) (by omega) (by omega)
  have hd := ediv_bd (b := j - i) hm.1 hm.2
  unfold lnz
  omega
/-- between two readings a line keeps between them -/
theorem lnz_in {n : Nat} {f : Nat → Int} (hf : ∀ j, j < n → okv (f j)) {i j t : Int} (hi : vl n f i ≠ (-1000000001)) (hj : vl n f j ≠ (-1000000001)) (h1 : i ≤ t) (h2 : t ≤ j) (h3 : i < j) : -99999 ≤ lnz n f i j t ∧ lnz n f i j t ≤ 99999 := by
  have o1 := vl_ok hf i
  have o2 := vl_ok hf j
  unfold okv at o1 o2
  unfold lnz
  have hq : 0 < j - i := by omega
  rcases Int.lt_or_le (vl n f j - vl n f i) 0 with hr | hr
  · have a1 : (vl n f j - vl n f i) * (t - i) ≤ 0 * (j - i) := by
      rw [Int.zero_mul]
      exact Int.mul_nonpos_of_nonpos_of_nonneg (by omega) (by omega)
    have a2 : (vl n f j - vl n f i) * (j - i) ≤ (vl n f j - vl n f i) * (t - i) := Int.mul_le_mul_of_nonpos_left (by omega) (by omega)
    have b1 := Int.ediv_le_of_le_mul hq a1
    have b2 := Int.le_ediv_of_mul_le hq a2
    omega
  · have a1 : 0 * (j - i) ≤ (vl n f j - vl n f i) * (t - i) := by
      rw [Int.zero_mul]
      exact Int.mul_nonneg hr (by omega)
    have a2 : (vl n f j - vl n f i) * (t - i) ≤ (vl n f j - vl n f i) * (j - i) := Int.mul_le_mul_of_nonneg_left (by omega) hr
    have b1 := Int.ediv_le_of_le_mul hq a2
    have b2 := Int.le_ediv_of_mul_le hq a1
    omega
section LN
variable {Ls : Nat} {xs : Nat → Int32} {P : qSem} {M : qMem} {Q : qPost} {s : zSt} {n k : Nat} {f g : Nat → Int}
theorem s_rd_lineAt (hG : qGood Ls xs P) {i j t : Int} (hk : qRd k) (hR : cRd M k n f) (h1 : 0 ≤ i) (h2 : i < j) (h3 : j < n) (h4 : 0 ≤ t) (h5 : t ≤ 64) (hi : vl n f i ≠ (-1000000001)) (hj : vl n f j ≠ (-1000000001)) (hQ : Q (some (.long (lI (lnz n f i j t)))) M) : P 26 0 [(0, .ref k), (1, .int (iI i)), (2, .int (iI j)), (3, .int (iI t))] [] M Q := by
  have hn := hR.2.1
  have o1 := vl_ok hR.ok i
  have o2 := vl_ok hR.ok j
  unfold okv at o1 o2
  refine v_rd_lineAt_0 hG hk ?_
  refine s_rd_has hG hk hR (by omega) (by omega) ?_
  rw [bZ_t hi]
  refine v_rd_lineAt_3 hG hk ?_
  refine ⟨fun c => absurd c (by decide), fun _ => ?_⟩
  refine s_rd_has hG hk hR (by omega) (by omega) ?_
  rw [bZ_t hj]
  refine v_rd_lineAt_7 hG hk ?_
  refine ⟨fun c => absurd c (by decide), fun _ => ?_⟩
  simp (disch := omega) only [iI_add, iI_sub, iI_mul, iI_neg, iI_lt, iI_le, iI_eq, iI_cl, vp_iI, Classical.not_not, iLn1000000005, iLn1000000004, iLn1000000003, iLn1000000002, iLn1000000001, iLn99999, iLn9999, iLn2, iLn1, iL0, iL1, iL2, iL3, iL4, iL5, iL6, iL7, iL8, iL9, iL10, iL15, iL16, iL31, iL32, iL40, iL42, iL45, iL48, iL57, iL59, iL63, iL64, iL65, iL120, iL126, iL455, iL520, iL9999, iL99999, iN2, iN8, iN64, iN65, iN120, iN130, iN520]
  refine ⟨fun _ => ?_, fun c => by omega⟩
  refine s_rd_at hG hk hR (by omega) (by omega) ?_
  refine v_rd_lineAt_16 hG hk ?_
  refine s_rd_at hG hk hR (by omega) (by omega) ?_
  refine v_rd_lineAt_19 hG hk ?_
  refine s_rd_at hG hk hR (by omega) (by omega) ?_
  refine v_rd_lineAt_25 hG ?_
  rw [iI_sub, iI_sub, iI_sub, i2l (by omega) (by omega), i2l (by omega) (by omega), i2l (by omega) (by omega), i2l (by omega) (by omega), lI_mul]
  have hm := mul_bd (A := 199998) (C := 64) (a := vl n f j - vl n f i) (c := t - i) (by omega) (by omega) (by omega) (by omega)
  refine s_floorDiv hG (by omega) (by omega) (by omega) (by omega) ?_
  refine v_rd_lineAt_37 hG ?_
  rw [lI_add]
  exact hQ
def amt (a n : Nat) (g : Nat → Int) (M : qMem) : Prop := ∀ t, t < n → M.2 a t = lI (g t)
theorem s_sa_allStay (hG : qGood Ls xs P) (hR : cRd M 1 n f) (hA : amt 5 n g M) (hg : gOK n g) (hQ : Q (some (.int (iI (bZ (sbO f g n = true))))) M) : P 62 0 [(0, .ref 0)] [] M Q := by
  have hn := hR.2.1
  refine v_sa_allStayPhases_0 hG ?_
  have key : ∀ (d j : Nat), j + d = n → sbO f g j = true → P 62 2 [(0, .ref 0), (1, .int (iI j))] [] M Q := by
    intro d
    induction d with
    | zero =>
      intro j hj h
      have e : j = n := by omega
      subst e
      refine v_sa_allStayPhases_2 hG ?_
      refine s_rd_size hG q1Rd hR ?_
      refine v_sa_allStayPhases_6 hG ?_
      simp (disch := omega) only [iI_add, iI_sub, iI_mul, iI_neg, iI_lt, iI_le, iI_eq, iI_cl, vp_iI, Classical.not_not, iLn1000000005, iLn1000000004, iLn1000000003, iLn1000000002, iLn1000000001, iLn99999, iLn9999, iLn2, iLn1, iL0, iL1, iL2, iL3, iL4, iL5, iL6, iL7, iL8, iL9, iL10, iL15, iL16, iL31, iL32, iL40, iL42, iL45, iL48, iL57, iL59, iL63, iL64, iL65, iL120, iL126, iL455, iL520, iL9999, iL99999, iN2, iN8, iN64, iN65, iN120, iN130, iN520]
      exact ⟨fun _ => q_b hQ (bZ_t h), fun c => by omega⟩
    | succ d ih =>
      intro j hj h
      have hf := hR.ok j (by omega)
      unfold okv at hf
      have hgj := hg j (by omega)
      refine v_sa_allStayPhases_2 hG ?_
      refine s_rd_size hG q1Rd hR ?_
      refine v_sa_allStayPhases_6 hG ?_
      simp (disch := omega) only [iI_add, iI_sub, iI_mul, iI_neg, iI_lt, iI_le, iI_eq, iI_cl, vp_iI, Classical.not_not, iLn1000000005, iLn1000000004, iLn1000000003, iLn1000000002, iLn1000000001, iLn99999, iLn9999, iLn2, iLn1, iL0, iL1, iL2, iL3, iL4, iL5, iL6, iL7, iL8, iL9, iL10, iL15, iL16, iL31, iL32, iL40, iL42, iL45, iL48, iL57, iL59, iL63, iL64, iL65, iL120, iL126, iL455, iL520, iL9999, iL99999, iN2, iN8, iN64, iN65, iN120, iN130, iN520]
      refine ⟨fun c => by omega, fun c => ⟨fun c2 => by omega, fun c2 => ?_⟩⟩
      refine s_rd_has hG q1Rd hR (by omega) (by omega) ?_
      rw [vl_nat (show j < n by omega)]
      refine v_sa_allStayPhases_16 hG ?_
      by_cases hv : f j = (-1000000001)
      · rw [bZ_f (fun z => z hv)]
        simp (disch := omega) only [iI_add, iI_sub, iI_mul, iI_neg, iI_lt, iI_le, iI_eq, iI_cl, vp_iI, Classical.not_not, iLn1000000005, iLn1000000004, iLn1000000003, iLn1000000002, iLn1000000001, iLn99999, iLn9999, iLn2, iLn1, iL0, iL1, iL2, iL3, iL4, iL5, iL6, iL7, iL8, iL9, iL10, iL15, iL16, iL31, iL32, iL40, iL42, iL45, iL48, iL57, iL59, iL63, iL64, iL65, iL120, iL126, iL455, iL520, iL9999, iL99999, iN2, iN8, iN64, iN65, iN120, iN130, iN520]
        refine ⟨fun _ => ih (j + 1) (by omega) ?_, fun c => absurd trivial c⟩
        rw [sbO_s, h, decide_eq_true (Or.inl hv)]
        rfl
      · rw [bZ_t hv]
        simp (disch := omega) only [iI_add, iI_sub, iI_mul, iI_neg, iI_lt, iI_le, iI_eq, iI_cl, vp_iI, Classical.not_not, iLn1000000005, iLn1000000004, iLn1000000003, iLn1000000002, iLn1000000001, iLn99999, iLn9999, iLn2, iLn1, iL0, iL1, iL2, iL3, iL4, iL5, iL6, iL7, iL8, iL9, iL10, iL15, iL16, iL31, iL32, iL40, iL42, iL45, iL48, iL57, iL59, iL63, iL64, iL65, iL120, iL126, iL455, iL520, iL9999, iL99999, iN2, iN8, iN64, iN65, iN120, iN130, iN520]
        refine ⟨fun c => by omega, fun _ => ?_⟩
        refine s_rd_at hG q1Rd hR (by omega) (by omega) ?_
        rw [vl_nat (show j < n by omega)]
        refine v_sa_allStayPhases_21 hG ?_
        simp (disch := omega) only [iI_add, iI_sub, iI_mul, iI_neg, iI_lt, iI_le, iI_eq, iI_cl, vp_iI, Classical.not_not, iLn1000000005, iLn1000000004, iLn1000000003, iLn1000000002, iLn1000000001, iLn99999, iLn9999, iLn2, iLn1, iL0, iL1, iL2, iL3, iL4, iL5, iL6, iL7, iL8, iL9, iL10, iL15, iL16, iL31, iL32, iL40, iL42, iL45, iL48, iL57, iL59, iL63, iL64, iL65, iL120, iL126, iL455, iL520, iL9999, iL99999, iN2, iN8, iN64, iN65, iN120, iN130, iN520]
        refine ⟨by omega, ?_⟩
        rw [show ((j : Nat) : Int).toNat = j by omega, hA j (by omega), i2l (by omega) (by omega), lI_sub]
        refine s_sa_isPhase hG (by omega) (by omega) ?_
        refine v_sa_allStayPhases_28 hG ?_
        by_cases hw : -99999 ≤ f j - g j ∧ f j - g j ≤ 99999
        · rw [bZ_t hw]
          simp (disch := omega) only [iI_add, iI_sub, iI_mul, iI_neg, iI_lt, iI_le, iI_eq, iI_cl, vp_iI, Classical.not_not, iLn1000000005, iLn1000000004, iLn1000000003, iLn1000000002, iLn1000000001, iLn99999, iLn9999, iLn2, iLn1, iL0, iL1, iL2, iL3, iL4, iL5, iL6, iL7, iL8, iL9, iL10, iL15, iL16, iL31, iL32, iL40, iL42, iL45, iL48, iL57, iL59, iL63, iL64, iL65, iL120, iL126, iL455, iL520, iL9999, iL99999, iN2, iN8, iN64, iN65, iN120, iN130, iN520]
          refine ⟨fun _ => ih (j + 1) (by omega) ?_, fun c => by omega⟩
          rw [sbO_s, h, decide_eq_true (Or.inr hw)]
          rfl
        · rw [bZ_f hw]
          simp (disch := omega) only [iI_add, iI_sub, iI_mul, iI_neg, iI_lt, iI_le, iI_eq, iI_cl, vp_iI, Classical.not_not, iLn1000000005, iLn1000000004, iLn1000000003, iLn1000000002, iLn1000000001, iLn99999, iLn9999, iLn2, iLn1, iL0, iL1, iL2, iL3, iL4, iL5, iL6, iL7, iL8, iL9, iL10, iL15, iL16, iL31, iL32, iL40, iL42, iL45, iL48, iL57, iL59, iL63, iL64, iL65, iL120, iL126, iL455, iL520, iL9999, iL99999, iN2, iN8, iN64, iN65, iN120, iN130, iN520]
          exact ⟨fun c => absurd trivial c, fun _ => q_b hQ (bZ_f (sbO_f (by omega) hv hw))⟩
  simp (disch := omega) only [iI_add, iI_sub, iI_mul, iI_neg, iI_lt, iI_le, iI_eq, iI_cl, vp_iI, Classical.not_not, iLn1000000005, iLn1000000004, iLn1000000003, iLn1000000002, iLn1000000001, iLn99999, iLn9999, iLn2, iLn1, iL0, iL1, iL2, iL3, iL4, iL5, iL6, iL7, iL8, iL9, iL10, iL15, iL16, iL31, iL32, iL40, iL42, iL45, iL48, iL57, iL59, iL63, iL64, iL65, iL120, iL126, iL455, iL520, iL9999, iL99999, iN2, iN8, iN64, iN65, iN120, iN130, iN520]
  exact key n 0 (by omega) rfl
theorem C_sub (hG : qGood Ls xs P) (hS : CS s M) (hA : amt 5 s.1.1 g M) (hg : gOK s.1.1 g) (hQ : ∀ M', cFrm M M' → CS (tSub s g).2 M' → Q (some (.int (iI (tSub s g).1))) M') : P 61 0 [(0, .ref 0)] [] M Q := by
  have hQ0 := hQ M cFrm.rf
  have hn := hS.1.2.1
  unfold tSub at hQ hQ0
  refine v_sa_subtractAmounts_0 hG ?_
  refine s_sa_allStay hG hS.1 hA hg ?_
  refine v_sa_subtractAmounts_2 hG ?_
  by_cases hO : sbO s.1.2 g s.1.1 = true
  · rw [bZ_t hO]
    simp only [if_pos hO] at hQ
    simp (disch := omega) only [iI_add, iI_sub, iI_mul, iI_neg, iI_lt, iI_le, iI_eq, iI_cl, vp_iI, Classical.not_not, iLn1000000005, iLn1000000004, iLn1000000003, iLn1000000002, iLn1000000001, iLn99999, iLn9999, iLn2, iLn1, iL0, iL1, iL2, iL3, iL4, iL5, iL6, iL7, iL8, iL9, iL10, iL15, iL16, iL31, iL32, iL40, iL42, iL45, iL48, iL57, iL59, iL63, iL64, iL65, iL120, iL126, iL455, iL520, iL9999, iL99999, iN2, iN8, iN64, iN65, iN120, iN130, iN520]
    refine ⟨fun _ => ?_, fun c => by omega⟩
    refine C_rec hG hS (fun M1 hR1 hF1 hK => ?_)
    refine v_sa_subtractAmounts_10 hG ?_
    have key : ∀ (d j : Nat) (M2 : qMem), j + d = s.1.1 → qFm [1, 2] M1 M2 → cRd M2 1 s.1.1 (fun t => if t < j then sbR s.1.2 g t else s.1.2 t) → P 61 14 [(0, .ref 0), (1, .int (iI (sbN s.1.2 g j))), (2, .int (iI j))] [] M2 Q := by
      intro d
      induction d with
      | zero =>
        intro j M2 hj hF2 hR2
        have e : j = s.1.1 := by omega
        subst e
        refine v_sa_subtractAmounts_14 hG ?_
        refine s_rd_size hG q1Rd hR2 ?_
        refine v_sa_subtractAmounts_18 hG ?_
        simp (disch := omega) only [iI_add, iI_sub, iI_mul, iI_neg, iI_lt, iI_le, iI_eq, iI_cl, vp_iI, Classical.not_not, iLn1000000005, iLn1000000004, iLn1000000003, iLn1000000002, iLn1000000001, iLn99999, iLn9999, iLn2, iLn1, iL0, iL1, iL2, iL3, iL4, iL5, iL6, iL7, iL8, iL9, iL10, iL15, iL16, iL31, iL32, iL40, iL42, iL45, iL48, iL57, iL59, iL63, iL64, iL65, iL120, iL126, iL455, iL520, iL9999, iL99999, iN2, iN8, iN64, iN65, iN120, iN130, iN520]
        refine ⟨fun _ => ?_, fun c => by omega⟩
        obtain ⟨k1, k2⟩ := hK M2 (s.1.1, sbR s.1.2 g) hF2 (hR2.eqv (fun t ht => by
          show sbR s.1.2 g t = if t < s.1.1 then sbR s.1.2 g t else s.1.2 t
          rw [if_pos ht]))
        exact hQ M2 k1 k2
      | succ d ih =>
        intro j M2 hj hF2 hR2
        have hf := hS.1.ok j (by omega)
        unfold okv at hf
        have hgj := hg j (by omega)
        have hm := sbO_m (k := j) s.1.1 (by omega) hO
        have hcz := cz_in (fun t => decide (s.1.2 t ≠ (-1000000001) ∧ g t ≠ 0)) j
        have ev : vl s.1.1 (fun t => if t < j then sbR s.1.2 g t else s.1.2 t) j = s.1.2 j := by
          rw [vl_nat (show j < s.1.1 by omega)]
          show (if j < j then sbR s.1.2 g j else s.1.2 j) = _
          rw [if_neg (by omega)]
        have hI := fun M2 => ih (j + 1) M2 (by omega)
        rw [sbN_s] at hI
        refine v_sa_subtractAmounts_14 hG ?_
        refine s_rd_size hG q1Rd hR2 ?_
        refine v_sa_subtractAmounts_18 hG ?_
        simp (disch := omega) only [iI_add, iI_sub, iI_mul, iI_neg, iI_lt, iI_le, iI_eq, iI_cl, vp_iI, Classical.not_not, iLn1000000005, iLn1000000004, iLn1000000003, iLn1000000002, iLn1000000001, iLn99999, iLn9999, iLn2, iLn1, iL0, iL1, iL2, iL3, iL4, iL5, iL6, iL7, iL8, iL9, iL10, iL15, iL16, iL31, iL32, iL40, iL42, iL45, iL48, iL57, iL59, iL63, iL64, iL65, iL120, iL126, iL455, iL520, iL9999, iL99999, iN2, iN8, iN64, iN65, iN120, iN130, iN520]
        refine ⟨fun c => by omega, fun c => ⟨fun c2 => by omega, fun c2 => ?_⟩⟩
        refine s_rd_has hG q1Rd hR2 (by omega) (by omega) ?_
        rw [ev]
        refine v_sa_subtractAmounts_28 hG ?_
        by_cases hv : s.1.2 j = (-1000000001)
        · rw [bZ_f (fun z => z hv)]
          simp (disch := omega) only [iI_add, iI_sub, iI_mul, iI_neg, iI_lt, iI_le, iI_eq, iI_cl, vp_iI, Classical.not_not, iLn1000000005, iLn1000000004, iLn1000000003, iLn1000000002, iLn1000000001, iLn99999, iLn9999, iLn2, iLn1, iL0, iL1, iL2, iL3, iL4, iL5, iL6, iL7, iL8, iL9, iL10, iL15, iL16, iL31, iL32, iL40, iL42, iL45, iL48, iL57, iL59, iL63, iL64, iL65, iL120, iL126, iL455, iL520, iL9999, iL99999, iN2, iN8, iN64, iN65, iN120, iN130, iN520]
          refine ⟨fun _ => ?_, fun c => absurd trivial c⟩
          rw [if_neg (fun z => z.1 hv), Int.add_zero] at hI
          refine hI M2 hF2 (hR2.eqv (fun t ht => ?_))
          by_cases q : t = j
          · rw [q, if_pos (by omega), if_neg (by omega)]
            unfold sbR
            rw [if_pos hv, hv]
          · by_cases q2 : t < j
            · rw [if_pos q2, if_pos (by omega)]
            · rw [if_neg q2, if_neg (by omega)]
        · rw [bZ_t hv]
          have ha2 : M2.2 5 j = lI (g j) := by
            rw [(hF2 5 (by decide)).2, (hF1 5 (by decide)).2]
            exact hA j (by omega)
          simp (disch := omega) only [iI_add, iI_sub, iI_mul, iI_neg, iI_lt, iI_le, iI_eq, iI_cl, vp_iI, Classical.not_not, iLn1000000005, iLn1000000004, iLn1000000003, iLn1000000002, iLn1000000001, iLn99999, iLn9999, iLn2, iLn1, iL0, iL1, iL2, iL3, iL4, iL5, iL6, iL7, iL8, iL9, iL10, iL15, iL16, iL31, iL32, iL40, iL42, iL45, iL48, iL57, iL59, iL63, iL64, iL65, iL120, iL126, iL455, iL520, iL9999, iL99999, iN2, iN8, iN64, iN65, iN120, iN130, iN520]
          refine ⟨fun c => by omega, fun _ => ⟨by omega, ?_⟩⟩
          rw [show ((j : Nat) : Int).toNat = j by omega, ha2, lL0, lg_cmpZ (by omega) (by omega) (by omega) (by omega)]
          have hz := cmpZ_in (g j) 0
          have hz0 := cmpZ_0 (g j) 0
          simp (disch := omega) only [iI_add, iI_sub, iI_mul, iI_neg, iI_lt, iI_le, iI_eq, iI_cl, vp_iI, Classical.not_not, iLn1000000005, iLn1000000004, iLn1000000003, iLn1000000002, iLn1000000001, iLn99999, iLn9999, iLn2, iLn1, iL0, iL1, iL2, iL3, iL4, iL5, iL6, iL7, iL8, iL9, iL10, iL15, iL16, iL31, iL32, iL40, iL42, iL45, iL48, iL57, iL59, iL63, iL64, iL65, iL120, iL126, iL455, iL520, iL9999, iL99999, iN2, iN8, iN64, iN65, iN120, iN130, iN520]
          refine ⟨fun c3 => ?_, fun c3 => ?_⟩
          · have g0 := hz0.mp c3
            rw [if_neg (fun z => z.2 g0), Int.add_zero] at hI
            refine hI M2 hF2 (hR2.eqv (fun t ht => ?_))
            by_cases q : t = j
            · rw [q, if_pos (by omega), if_neg (by omega)]
              unfold sbR
              rw [if_neg hv, g0, Int.sub_zero]
            · by_cases q2 : t < j
              · rw [if_pos q2, if_pos (by omega)]
              · rw [if_neg q2, if_neg (by omega)]
          · have g0 : g j ≠ 0 := fun z => c3 (hz0.mpr z)
            rw [if_pos ⟨hv, g0⟩] at hI
            refine s_rd_at hG q1Rd hR2 (by omega) (by omega) ?_
            rw [ev]
            refine v_sa_subtractAmounts_43 hG ?_
            simp (disch := omega) only [iI_add, iI_sub, iI_mul, iI_neg, iI_lt, iI_le, iI_eq, iI_cl, vp_iI, Classical.not_not, iLn1000000005, iLn1000000004, iLn1000000003, iLn1000000002, iLn1000000001, iLn99999, iLn9999, iLn2, iLn1, iL0, iL1, iL2, iL3, iL4, iL5, iL6, iL7, iL8, iL9, iL10, iL15, iL16, iL31, iL32, iL40, iL42, iL45, iL48, iL57, iL59, iL63, iL64, iL65, iL120, iL126, iL455, iL520, iL9999, iL99999, iN2, iN8, iN64, iN65, iN120, iN130, iN520]
            refine ⟨by omega, ?_⟩
            rw [show ((j : Nat) : Int).toNat = j by omega, ha2, i2l (by omega) (by omega), lI_sub, l2i]
            refine s_rd_put hG q1Rd hR2 (Or.inr (hm.resolve_left hv)) (by omega) (by omega) (fun M3 hR3 hF3 => ?_)
            refine v_sa_subtractAmounts_51 hG ?_
            unfold sbN at hI ⊢
            simp (disch := omega) only [iI_add, iI_sub, iI_mul, iI_neg, iI_lt, iI_le, iI_eq, iI_cl, vp_iI, Classical.not_not, iLn1000000005, iLn1000000004, iLn1000000003, iLn1000000002, iLn1000000001, iLn99999, iLn9999, iLn2, iLn1, iL0, iL1, iL2, iL3, iL4, iL5, iL6, iL7, iL8, iL9, iL10, iL15, iL16, iL31, iL32, iL40, iL42, iL45, iL48, iL57, iL59, iL63, iL64, iL65, iL120, iL126, iL455, iL520, iL9999, iL99999, iN2, iN8, iN64, iN65, iN120, iN130, iN520]
            refine hI M3 (hF2.tr hF3) (hR3.eqv (fun t ht => ?_))
            by_cases q : t = j
            · rw [q, if_pos (by omega), if_pos (by omega)]
              unfold sbR
              rw [if_neg hv]
            · rw [if_neg (show ¬ t = ((j : Nat) : Int).toNat by omega)]
              by_cases q2 : t < j
              · rw [if_pos q2, if_pos (by omega)]
              · rw [if_neg q2, if_neg (by omega)]
    simp (disch := omega) only [iI_add, iI_sub, iI_mul, iI_neg, iI_lt, iI_le, iI_eq, iI_cl, vp_iI, Classical.not_not, iLn1000000005, iLn1000000004, iLn1000000003, iLn1000000002, iLn1000000001, iLn99999, iLn9999, iLn2, iLn1, iL0, iL1, iL2, iL3, iL4, iL5, iL6, iL7, iL8, iL9, iL10, iL15, iL16, iL31, iL32, iL40, iL42, iL45, iL48, iL57, iL59, iL63, iL64, iL65, iL120, iL126, iL455, iL520, iL9999, iL99999, iN2, iN8, iN64, iN65, iN120, iN130, iN520]
    exact key s.1.1 0 M1 (by omega) qFm.rf (hR1.eqv (fun t ht => by rw [if_neg (by omega)]))
  · rw [bZ_f hO]
    simp only [if_neg hO] at hQ0
    simp (disch := omega) only [iI_add, iI_sub, iI_mul, iI_neg, iI_lt, iI_le, iI_eq, iI_cl, vp_iI, Classical.not_not, iLn1000000005, iLn1000000004, iLn1000000003, iLn1000000002, iLn1000000001, iLn99999, iLn9999, iLn2, iLn1, iL0, iL1, iL2, iL3, iL4, iL5, iL6, iL7, iL8, iL9, iL10, iL15, iL16, iL31, iL32, iL40, iL42, iL45, iL48, iL57, iL59, iL63, iL64, iL65, iL120, iL126, iL455, iL520, iL9999, iL99999, iN2, iN8, iN64, iN65, iN120, iN130, iN520]
    exact ⟨fun c => absurd trivial c, fun _ => hQ0 hS⟩
end LN
end
section
/-! lines and drift: the class's three methods, the reference's four -/
section LN2
variable {Ls : Nat} {xs : Nat → Int32} {P : qSem} {M : qMem} {Q : qPost} {s : zSt} {n k : Nat} {f g : Nat → Int}
theorem amt.pJ {a : Nat} {t : Nat} (h : amt a t g M) : amt a (t + 1) g (pJ M a t (lI (g t))) := fun u hu => by
  by_cases e : u = t
  · rw [e, pJ_e]
  · rw [pJ_nj e]
    exact h u (by omega)
theorem C_removeLine (hG : qGood Ls xs P) {i j : Int} (hS : CS s M) (hi : r32 i) (hj : r32 j) (hQ : ∀ M', cFrm M M' → CS (tLine s i j).2 M' → Q (some (.int (iI (tLine s i j).1))) M') : P 38 0 [(0, .ref 0), (1, .int (iI i)), (2, .int (iI j))] [] M Q := by
  obtain ⟨g1, g2⟩ := hi
  obtain ⟨g3, g4⟩ := hj
  have hQ0 := hQ M cFrm.rf
  have hn := hS.1.2.1
  unfold tLine at hQ hQ0
  refine v_sa_removeLine_0 hG ?_
  refine s_rd_reaches hG q1Rd hS.1 g1 g2 ?_
  refine v_sa_removeLine_4 hG ?_
  by_cases c1 : 0 ≤ i ∧ i < s.1.1
  · rw [bZ_t c1]
    refine ⟨fun c => absurd c (by decide), fun _ => ?_⟩
    refine s_rd_reaches hG q1Rd hS.1 g3 g4 ?_
    refine v_sa_removeLine_9 hG ?_
    by_cases c2 : 0 ≤ j ∧ j < s.1.1
    · rw [bZ_t c2]
      refine ⟨fun c => absurd c (by decide), fun _ => ?_⟩
      simp (disch := omega) only [iI_add, iI_sub, iI_mul, iI_neg, iI_lt, iI_le, iI_eq, iI_cl, vp_iI, Classical.not_not, iLn1000000005, iLn1000000004, iLn1000000003, iLn1000000002, iLn1000000001, iLn99999, iLn9999, iLn2, iLn1, iL0, iL1, iL2, iL3, iL4, iL5, iL6, iL7, iL8, iL9, iL10, iL15, iL16, iL31, iL32, iL40, iL42, iL45, iL48, iL57, iL59, iL63, iL64, iL65, iL120, iL126, iL455, iL520, iL9999, iL99999, iN2, iN8, iN64, iN65, iN120, iN130, iN520]
      refine ⟨fun c3 => ?_, fun c3 => ?_⟩
      · simp only [if_pos (show (0 ≤ i ∧ i < s.1.1) ∧ (0 ≤ j ∧ j < s.1.1) ∧ i < j from ⟨c1, c2, c3⟩)] at hQ hQ0
        refine s_rd_has hG q1Rd hS.1 g1 g2 ?_
        refine v_sa_removeLine_19 hG ?_
        by_cases c4 : vl s.1.1 s.1.2 i = (-1000000001)
        · rw [bZ_f (fun z => z c4)]
          simp only [if_pos (show vl s.1.1 s.1.2 i = (-1000000001) ∨ vl s.1.1 s.1.2 j = (-1000000001) from Or.inl c4)] at hQ0
          exact ⟨fun _ => hQ0 hS, fun c => absurd (show iI 0 = 0 by decide) c⟩
        · rw [bZ_t c4]
          refine ⟨fun c => absurd c (by decide), fun _ => ?_⟩
          refine s_rd_has hG q1Rd hS.1 g3 g4 ?_
          refine v_sa_removeLine_24 hG ?_
          by_cases c5 : vl s.1.1 s.1.2 j = (-1000000001)
          · rw [bZ_f (fun z => z c5)]
            simp only [if_pos (show vl s.1.1 s.1.2 i = (-1000000001) ∨ vl s.1.1 s.1.2 j = (-1000000001) from Or.inr c5)] at hQ0
            exact ⟨fun c => absurd (show iI 0 = 0 by decide) c, fun _ => hQ0 hS⟩
          · rw [bZ_t c5]
            refine ⟨fun _ => ?_, fun c => absurd (show ¬ iI 1 = 0 by decide) c⟩
            simp only [if_neg (show ¬ (vl s.1.1 s.1.2 i = (-1000000001) ∨ vl s.1.1 s.1.2 j = (-1000000001)) from fun z => z.elim c4 c5)] at hQ
            have key : ∀ (d t : Nat) (M1 : qMem), t + d = 64 → qFm [5] M M1 → amt 5 t (fun t => lnz s.1.1 s.1.2 i j t) M1 → P 38 29 [(0, .ref 0), (1, .int (iI i)), (2, .int (iI j)), (3, .int (iI t))] [] M1 Q := by
              intro d
              induction d with
              | zero =>
                intro t M1 ht hF1 hA1
                refine v_sa_removeLine_29 hG ?_
                simp (disch := omega) only [iI_add, iI_sub, iI_mul, iI_neg, iI_lt, iI_le, iI_eq, iI_cl, vp_iI, Classical.not_not, iLn1000000005, iLn1000000004, iLn1000000003, iLn1000000002, iLn1000000001, iLn99999, iLn9999, iLn2, iLn1, iL0, iL1, iL2, iL3, iL4, iL5, iL6, iL7, iL8, iL9, iL10, iL15, iL16, iL31, iL32, iL40, iL42, iL45, iL48, iL57, iL59, iL63, iL64, iL65, iL120, iL126, iL455, iL520, iL9999, iL99999, iN2, iN8, iN64, iN65, iN120, iN130, iN520]
                refine ⟨fun _ => ?_, fun c => by omega⟩
                refine C_sub (g := fun t => lnz s.1.1 s.1.2 i j t) hG (hS.nx hF1 (by decide)) (fun u hu => hA1 u (by omega)) (fun u hu => lnz_bd hS.1.ok c4 c5 (by omega) (by omega) (by omega) (by omega)) (fun M2 hF2 hS2 => ?_)
                refine v_sa_removeLine_48 hG (hQ M2 (fun a ha => ?_) hS2)
                rw [hF2 a ha, (hF1 a (by simp only [List.mem_cons, List.not_mem_nil, or_false]; omega)).1]
              | succ d ih =>
                intro t M1 ht hF1 hA1
                refine v_sa_removeLine_29 hG ?_
                simp (disch := omega) only [iI_add, iI_sub, iI_mul, iI_neg, iI_lt, iI_le, iI_eq, iI_cl, vp_iI, Classical.not_not, iLn1000000005, iLn1000000004, iLn1000000003, iLn1000000002, iLn1000000001, iLn99999, iLn9999, iLn2, iLn1, iL0, iL1, iL2, iL3, iL4, iL5, iL6, iL7, iL8, iL9, iL10, iL15, iL16, iL31, iL32, iL40, iL42, iL45, iL48, iL57, iL59, iL63, iL64, iL65, iL120, iL126, iL455, iL520, iL9999, iL99999, iN2, iN8, iN64, iN65, iN120, iN130, iN520]
                refine ⟨fun c => by omega, fun c => ?_⟩
                refine s_rd_lineAt hG q1Rd (hS.nx hF1 (by decide)).1 (by omega) c3 (by omega) (by omega) (by omega) c4 c5 ?_
                refine v_sa_removeLine_43 hG ?_
                simp (disch := omega) only [iI_add, iI_sub, iI_mul, iI_neg, iI_lt, iI_le, iI_eq, iI_cl, vp_iI, Classical.not_not, iLn1000000005, iLn1000000004, iLn1000000003, iLn1000000002, iLn1000000001, iLn99999, iLn9999, iLn2, iLn1, iL0, iL1, iL2, iL3, iL4, iL5, iL6, iL7, iL8, iL9, iL10, iL15, iL16, iL31, iL32, iL40, iL42, iL45, iL48, iL57, iL59, iL63, iL64, iL65, iL120, iL126, iL455, iL520, iL9999, iL99999, iN2, iN8, iN64, iN65, iN120, iN130, iN520]
                refine ⟨by omega, ?_⟩
                rw [show ((t : Nat) : Int).toNat = t by omega]
                exact ih (t + 1) _ (by omega) (hF1.tr (qFm.pJ (by decide))) (hA1.pJ (g := fun t => lnz s.1.1 s.1.2 i j t))
            simp (disch := omega) only [iI_add, iI_sub, iI_mul, iI_neg, iI_lt, iI_le, iI_eq, iI_cl, vp_iI, Classical.not_not, iLn1000000005, iLn1000000004, iLn1000000003, iLn1000000002, iLn1000000001, iLn99999, iLn9999, iLn2, iLn1, iL0, iL1, iL2, iL3, iL4, iL5, iL6, iL7, iL8, iL9, iL10, iL15, iL16, iL31, iL32, iL40, iL42, iL45, iL48, iL57, iL59, iL63, iL64, iL65, iL120, iL126, iL455, iL520, iL9999, iL99999, iN2, iN8, iN64, iN65, iN120, iN130, iN520]
            exact key 64 0 M (by omega) qFm.rf (fun u hu => by omega)
      · simp only [if_neg (show ¬ ((0 ≤ i ∧ i < s.1.1) ∧ (0 ≤ j ∧ j < s.1.1) ∧ i < j) from fun z => c3 z.2.2)] at hQ0
        exact hQ0 hS
    · rw [bZ_f c2]
      simp only [if_neg (show ¬ ((0 ≤ i ∧ i < s.1.1) ∧ (0 ≤ j ∧ j < s.1.1) ∧ i < j) from fun z => c2 z.2.1)] at hQ0
      exact ⟨fun _ => hQ0 hS, fun c => absurd (show iI 0 = 0 by decide) c⟩
  · rw [bZ_f c1]
    simp only [if_neg (show ¬ ((0 ≤ i ∧ i < s.1.1) ∧ (0 ≤ j ∧ j < s.1.1) ∧ i < j) from fun z => c1 z.1)] at hQ0
    exact ⟨fun _ => hQ0 hS, fun c => absurd (show iI 0 = 0 by decide) c⟩
theorem ln_bd {a b t : Int} (h1 : -9999 ≤ a ∧ a ≤ 9999) (h2 : -99999 ≤ b ∧ b ≤ 99999) (h3 : 0 ≤ t) (h4 : t ≤ 64) : -1000000000000 ≤ -(a * t + b) ∧ -(a * t + b) ≤ 1000000000000 := by
  have hm := mul_bd (A := 9999) (C := 64) (a := a) (c := t) (by omega) (by omega) (by omega) (by omega)
  omega
theorem C_addLine (hG : qGood Ls xs P) {a b : Int} (hS : CS s M) (ha : r32 a) (hb : r32 b) (hQ : ∀ M', cFrm M M' → CS (tALine s a b).2 M' → Q (some (.int (iI (tALine s a b).1))) M') : P 39 0 [(0, .ref 0), (1, .int (iI a)), (2, .int (iI b))] [] M Q := by
  obtain ⟨g1, g2⟩ := ha
  obtain ⟨g3, g4⟩ := hb
  have hQ0 := hQ M cFrm.rf
  have hn := hS.1.2.1
  unfold tALine at hQ hQ0
  refine v_sa_addLine_0 hG ?_
  rw [i2l g3 g4]
  simp (disch := omega) only [iI_add, iI_sub, iI_mul, iI_neg, iI_lt, iI_le, iI_eq, iI_cl, vp_iI, Classical.not_not, iLn1000000005, iLn1000000004, iLn1000000003, iLn1000000002, iLn1000000001, iLn99999, iLn9999, iLn2, iLn1, iL0, iL1, iL2, iL3, iL4, iL5, iL6, iL7, iL8, iL9, iL10, iL15, iL16, iL31, iL32, iL40, iL42, iL45, iL48, iL57, iL59, iL63, iL64, iL65, iL120, iL126, iL455, iL520, iL9999, iL99999, iN2, iN8, iN64, iN65, iN120, iN130, iN520]
  refine ⟨fun c => ?_, fun c => ⟨fun c2 => ?_, fun c2 => ?_⟩⟩
  · simp only [if_neg (show ¬ ((-9999 ≤ a ∧ a ≤ 9999) ∧ (-99999 ≤ b ∧ b ≤ 99999)) by omega)] at hQ0
    exact hQ0 hS
  · simp only [if_neg (show ¬ ((-9999 ≤ a ∧ a ≤ 9999) ∧ (-99999 ≤ b ∧ b ≤ 99999)) by omega)] at hQ0
    exact hQ0 hS
  refine s_sa_isPhase hG (by omega) (by omega) ?_
  refine v_sa_addLine_9 hG ?_
  by_cases c3 : -99999 ≤ b ∧ b ≤ 99999
  · rw [bZ_t c3]
    refine ⟨fun _ => ?_, fun c => absurd (show ¬ iI 1 = 0 by decide) c⟩
    have c4 : -9999 ≤ a ∧ a ≤ 9999 := by omega
    simp only [if_pos (show (-9999 ≤ a ∧ a ≤ 9999) ∧ (-99999 ≤ b ∧ b ≤ 99999) from ⟨c4, c3⟩)] at hQ
    have key : ∀ (d t : Nat) (M1 : qMem), t + d = 64 → qFm [5] M M1 → amt 5 t (fun t => -(a * t + b)) M1 → P 39 14 [(0, .ref 0), (1, .int (iI a)), (2, .int (iI b)), (3, .int (iI t))] [] M1 Q := by
      intro d
      induction d with
      | zero =>
        intro t M1 ht hF1 hA1
        refine v_sa_addLine_14 hG ?_
        simp (disch := omega) only [iI_add, iI_sub, iI_mul, iI_neg, iI_lt, iI_le, iI_eq, iI_cl, vp_iI, Classical.not_not, iLn1000000005, iLn1000000004, iLn1000000003, iLn1000000002, iLn1000000001, iLn99999, iLn9999, iLn2, iLn1, iL0, iL1, iL2, iL3, iL4, iL5, iL6, iL7, iL8, iL9, iL10, iL15, iL16, iL31, iL32, iL40, iL42, iL45, iL48, iL57, iL59, iL63, iL64, iL65, iL120, iL126, iL455, iL520, iL9999, iL99999, iN2, iN8, iN64, iN65, iN120, iN130, iN520]
        refine ⟨fun _ => ?_, fun c => by omega⟩
        refine C_sub (g := fun t => -(a * t + b)) hG (hS.nx hF1 (by decide)) (fun u hu => hA1 u (by omega)) (fun u hu => ln_bd c4 c3 (by omega) (by omega)) (fun M2 hF2 hS2 => ?_)
        refine v_sa_addLine_36 hG (hQ M2 (fun a ha => ?_) hS2)
        rw [hF2 a ha, (hF1 a (by simp only [List.mem_cons, List.not_mem_nil, or_false]; omega)).1]
      | succ d ih =>
        intro t M1 ht hF1 hA1
        refine v_sa_addLine_14 hG ?_
        rw [i2l g1 g2, i2l g3 g4, i2l (by omega) (by omega), lI_mul, lI_add, lI_neg]
        simp (disch := omega) only [iI_add, iI_sub, iI_mul, iI_neg, iI_lt, iI_le, iI_eq, iI_cl, vp_iI, Classical.not_not, iLn1000000005, iLn1000000004, iLn1000000003, iLn1000000002, iLn1000000001, iLn99999, iLn9999, iLn2, iLn1, iL0, iL1, iL2, iL3, iL4, iL5, iL6, iL7, iL8, iL9, iL10, iL15, iL16, iL31, iL32, iL40, iL42, iL45, iL48, iL57, iL59, iL63, iL64, iL65, iL120, iL126, iL455, iL520, iL9999, iL99999, iN2, iN8, iN64, iN65, iN120, iN130, iN520]
        refine ⟨fun c => by omega, fun c => ⟨by omega, ?_⟩⟩
        rw [show ((t : Nat) : Int).toNat = t by omega]
        exact ih (t + 1) _ (by omega) (hF1.tr (qFm.pJ (by decide))) (hA1.pJ (g := fun t => -(a * t + b)))
    simp (disch := omega) only [iI_add, iI_sub, iI_mul, iI_neg, iI_lt, iI_le, iI_eq, iI_cl, vp_iI, Classical.not_not, iLn1000000005, iLn1000000004, iLn1000000003, iLn1000000002, iLn1000000001, iLn99999, iLn9999, iLn2, iLn1, iL0, iL1, iL2, iL3, iL4, iL5, iL6, iL7, iL8, iL9, iL10, iL15, iL16, iL31, iL32, iL40, iL42, iL45, iL48, iL57, iL59, iL63, iL64, iL65, iL120, iL126, iL455, iL520, iL9999, iL99999, iN2, iN8, iN64, iN65, iN120, iN130, iN520]
    exact key 64 0 M (by omega) qFm.rf (fun u hu => by omega)
  · rw [bZ_f c3]
    simp only [if_neg (show ¬ ((-9999 ≤ a ∧ a ≤ 9999) ∧ (-99999 ≤ b ∧ b ≤ 99999)) from fun z => c3 z.2)] at hQ0
    exact ⟨fun c => absurd (show iI 0 = 0 by decide) c, fun _ => hQ0 hS⟩
theorem s_sa_sum2 (hG : qGood Ls xs P) (hR : cRd M 1 n f) (hQ : Q (some (.long (lI (dsz n f n)))) M) : P 63 0 [(0, .ref 0)] [] M Q := by
  have hn := hR.2.1
  refine v_sa_sumOfSecondDifferences_0 hG ?_
  have key : ∀ (d j : Nat), j + d = n → P 63 4 [(0, .ref 0), (1, .long (lI (dsz n f j))), (3, .int (iI j))] [] M Q := by
    intro d
    induction d with
    | zero =>
      intro j hj
      have e : j = n := by omega
      subst e
      refine v_sa_sumOfSecondDifferences_4 hG ?_
      refine s_rd_size hG q1Rd hR ?_
      refine v_sa_sumOfSecondDifferences_8 hG ?_
      simp (disch := omega) only [iI_add, iI_sub, iI_mul, iI_neg, iI_lt, iI_le, iI_eq, iI_cl, vp_iI, Classical.not_not, iLn1000000005, iLn1000000004, iLn1000000003, iLn1000000002, iLn1000000001, iLn99999, iLn9999, iLn2, iLn1, iL0, iL1, iL2, iL3, iL4, iL5, iL6, iL7, iL8, iL9, iL10, iL15, iL16, iL31, iL32, iL40, iL42, iL45, iL48, iL57, iL59, iL63, iL64, iL65, iL120, iL126, iL455, iL520, iL9999, iL99999, iN2, iN8, iN64, iN65, iN120, iN130, iN520]
      exact ⟨fun _ => hQ, fun c => by omega⟩
    | succ d ih =>
      intro j hj
      have hd := dif_ok (m := 1) hR.ok (by omega) 2 (j : Int)
      have hI := ih (j + 1) (by omega)
      rw [dsz_s] at hI
      refine v_sa_sumOfSecondDifferences_4 hG ?_
      refine s_rd_size hG q1Rd hR ?_
      refine v_sa_sumOfSecondDifferences_8 hG ?_
      simp (disch := omega) only [iI_add, iI_sub, iI_mul, iI_neg, iI_lt, iI_le, iI_eq, iI_cl, vp_iI, Classical.not_not, iLn1000000005, iLn1000000004, iLn1000000003, iLn1000000002, iLn1000000001, iLn99999, iLn9999, iLn2, iLn1, iL0, iL1, iL2, iL3, iL4, iL5, iL6, iL7, iL8, iL9, iL10, iL15, iL16, iL31, iL32, iL40, iL42, iL45, iL48, iL57, iL59, iL63, iL64, iL65, iL120, iL126, iL455, iL520, iL9999, iL99999, iN2, iN8, iN64, iN65, iN120, iN130, iN520]
      refine ⟨fun c => by omega, fun c => ?_⟩
      refine s_rd_differenceAt (m := 1) hG q1Rd hR (by omega) (by omega) (by omega) (by omega) (by omega) ?_
      refine v_sa_sumOfSecondDifferences_15 hG ?_
      rw [i2l (by omega) (by omega), lI_add]
      simp (disch := omega) only [iI_add, iI_sub, iI_mul, iI_neg, iI_lt, iI_le, iI_eq, iI_cl, vp_iI, Classical.not_not, iLn1000000005, iLn1000000004, iLn1000000003, iLn1000000002, iLn1000000001, iLn99999, iLn9999, iLn2, iLn1, iL0, iL1, iL2, iL3, iL4, iL5, iL6, iL7, iL8, iL9, iL10, iL15, iL16, iL31, iL32, iL40, iL42, iL45, iL48, iL57, iL59, iL63, iL64, iL65, iL120, iL126, iL455, iL520, iL9999, iL99999, iN2, iN8, iN64, iN65, iN120, iN130, iN520]
      refine ⟨fun c2 => ?_, fun c2 => ?_⟩
      · rw [if_neg (fun z => z c2), Int.add_zero] at hI
        exact hI
      · rw [if_pos c2] at hI
        exact hI
  rw [lL0]
  exact key n 0 (by omega)
theorem cnd_in (n : Nat) (f : Nat → Int) : 0 ≤ cnd n f 2 1 ∧ cnd n f 2 1 ≤ n := cz_in _ n
theorem drf_g (hf : ∀ j, j < n → okv (f j)) (hn : n ≤ 64) : gOK n (fun t => drf n f * ((t : Int) * (t - 1) / 2)) := by
  intro t ht
  have h1 := drf_bd hf hn
  have h2 := tri t (by omega)
  have hm := mul_bd (A := 25599744) (C := 2016) (a := drf n f) (c := (t : Int) * (t - 1) / 2) (by omega) (by omega) (by omega) (by omega)
  dsimp only
  omega
theorem tSub_r (s : zSt) (g : Nat → Int) : (tSub s g).1 = -1000000005 ∨ (0 ≤ (tSub s g).1 ∧ (tSub s g).1 ≤ s.1.1) := by
  unfold tSub
  split
  · exact Or.inr (cz_in _ _)
  · exact Or.inl rfl
theorem C_removeDrift (hG : qGood Ls xs P) (hS : CS s M) (hQ : ∀ M', cFrm M M' → CS (tDrift s).2 M' → Q (some (.int (iI (tDrift s).1))) M') : P 40 0 [(0, .ref 0)] [] M Q := by
  have hQ0 := hQ M cFrm.rf
  have hn := hS.1.2.1
  have hc := cnd_in s.1.1 s.1.2
  have hb := drf_bd hS.1.ok hn
  have hd := dsz_bd hS.1.ok s.1.1
  unfold tDrift at hQ hQ0
  refine v_sa_removeDrift_0 hG ?_
  simp (disch := omega) only [iI_add, iI_sub, iI_mul, iI_neg, iI_lt, iI_le, iI_eq, iI_cl, vp_iI, Classical.not_not, iLn1000000005, iLn1000000004, iLn1000000003, iLn1000000002, iLn1000000001, iLn99999, iLn9999, iLn2, iLn1, iL0, iL1, iL2, iL3, iL4, iL5, iL6, iL7, iL8, iL9, iL10, iL15, iL16, iL31, iL32, iL40, iL42, iL45, iL48, iL57, iL59, iL63, iL64, iL65, iL120, iL126, iL455, iL520, iL9999, iL99999, iN2, iN8, iN64, iN65, iN120, iN130, iN520]
  refine s_rd_countOf (m := 1) hG q1Rd hS.1 (by omega) (by omega) (by omega) ?_
  show P 40 5 [(0, .ref 0)] [.int (iI (cnd s.1.1 s.1.2 2 1))] M Q
  refine v_sa_removeDrift_5 hG ?_
  simp (disch := omega) only [iI_add, iI_sub, iI_mul, iI_neg, iI_lt, iI_le, iI_eq, iI_cl, vp_iI, Classical.not_not, iLn1000000005, iLn1000000004, iLn1000000003, iLn1000000002, iLn1000000001, iLn99999, iLn9999, iLn2, iLn1, iL0, iL1, iL2, iL3, iL4, iL5, iL6, iL7, iL8, iL9, iL10, iL15, iL16, iL31, iL32, iL40, iL42, iL45, iL48, iL57, iL59, iL63, iL64, iL65, iL120, iL126, iL455, iL520, iL9999, iL99999, iN2, iN8, iN64, iN65, iN120, iN130, iN520]
  refine ⟨fun c => ?_, fun c => ?_⟩
  · simp only [if_neg (show ¬ cnd s.1.1 s.1.2 2 1 = 0 by omega)] at hQ
    refine s_sa_sum2 hG hS.1 ?_
    refine v_sa_removeDrift_13 hG ?_
    rw [i2l (by omega) (by omega)]
    refine s_floorDiv hG (by omega) (by omega) (by omega) (by omega) ?_
    refine v_sa_removeDrift_16 hG ?_
    rw [l2i]
    show P 40 20 [(0, .ref 0), (2, .int (iI (drf s.1.1 s.1.2))), (3, .int 0)] [] M Q
    have key : ∀ (d t : Nat) (M1 : qMem), t + d = 64 → qFm [5] M M1 → amt 5 t (fun t => drf s.1.1 s.1.2 * ((t : Int) * (t - 1) / 2)) M1 → P 40 20 [(0, .ref 0), (2, .int (iI (drf s.1.1 s.1.2))), (3, .int (iI t))] [] M1 Q := by
      intro d
      induction d with
      | zero =>
        intro t M1 ht hF1 hA1
        refine v_sa_removeDrift_20 hG ?_
        simp (disch := omega) only [iI_add, iI_sub, iI_mul, iI_neg, iI_lt, iI_le, iI_eq, iI_cl, vp_iI, Classical.not_not, iLn1000000005, iLn1000000004, iLn1000000003, iLn1000000002, iLn1000000001, iLn99999, iLn9999, iLn2, iLn1, iL0, iL1, iL2, iL3, iL4, iL5, iL6, iL7, iL8, iL9, iL10, iL15, iL16, iL31, iL32, iL40, iL42, iL45, iL48, iL57, iL59, iL63, iL64, iL65, iL120, iL126, iL455, iL520, iL9999, iL99999, iN2, iN8, iN64, iN65, iN120, iN130, iN520]
        refine ⟨fun _ => ?_, fun c => by omega⟩
        refine C_sub (g := fun t => drf s.1.1 s.1.2 * ((t : Int) * (t - 1) / 2)) hG (hS.nx hF1 (by decide)) (fun u hu => hA1 u (by omega)) (drf_g hS.1.ok hn) (fun M2 hF2 hS2 => ?_)
        have hq := hQ M2 (fun a ha => by rw [hF2 a ha, (hF1 a (by simp only [List.mem_cons, List.not_mem_nil, or_false]; omega)).1]) hS2
        refine v_sa_removeDrift_45 hG ?_
        have hr := tSub_r s (fun t => drf s.1.1 s.1.2 * ((t : Int) * (t - 1) / 2))
        simp (disch := omega) only [iI_add, iI_sub, iI_mul, iI_neg, iI_lt, iI_le, iI_eq, iI_cl, vp_iI, Classical.not_not, iLn1000000005, iLn1000000004, iLn1000000003, iLn1000000002, iLn1000000001, iLn99999, iLn9999, iLn2, iLn1, iL0, iL1, iL2, iL3, iL4, iL5, iL6, iL7, iL8, iL9, iL10, iL15, iL16, iL31, iL32, iL40, iL42, iL45, iL48, iL57, iL59, iL63, iL64, iL65, iL120, iL126, iL455, iL520, iL9999, iL99999, iN2, iN8, iN64, iN65, iN120, iN130, iN520]
        refine ⟨fun c3 => ?_, fun c3 => ?_⟩
        · rw [if_neg c3] at hq
          exact hq
        · rw [if_pos c3] at hq
          exact hq
      | succ d ih =>
        intro t M1 ht hF1 hA1
        have ht3 := tri t (by omega)
        refine v_sa_removeDrift_20 hG ?_
        have e2 : ((iI (drf s.1.1 s.1.2)).toInt64 * (iI t).toInt64 * (iI t - 1).toInt64) / (2 : Int64) = lI (drf s.1.1 s.1.2 * ((t : Int) * (t - 1) / 2)) := by
          obtain ⟨q, hq⟩ : ∃ q, q = (t : Int) * ((t : Int) - 1) / 2 := ⟨_, rfl⟩
          rw [← hq] at ht3 ⊢
          rw [iL1, iI_sub, i2l (by omega) (by omega), i2l (by omega) (by omega), i2l (by omega) (by omega), lI_mul, lI_mul, show (2 : Int64) = lI 2 by decide, Int.mul_assoc, ht3.1, ← Int.mul_assoc]
          have hm := mul_bd (A := 25599744) (C := 2016) (a := drf s.1.1 s.1.2) (c := q) (by omega) (by omega) (by omega) (by omega)
          rw [lI_tdiv (by omega) (by omega) (by omega) (by omega), Int.mul_tdiv_cancel _ (by omega)]
        rw [e2]
        simp (disch := omega) only [iI_add, iI_sub, iI_mul, iI_neg, iI_lt, iI_le, iI_eq, iI_cl, vp_iI, Classical.not_not, iLn1000000005, iLn1000000004, iLn1000000003, iLn1000000002, iLn1000000001, iLn99999, iLn9999, iLn2, iLn1, iL0, iL1, iL2, iL3, iL4, iL5, iL6, iL7, iL8, iL9, iL10, iL15, iL16, iL31, iL32, iL40, iL42, iL45, iL48, iL57, iL59, iL63, iL64, iL65, iL120, iL126, iL455, iL520, iL9999, iL99999, iN2, iN8, iN64, iN65, iN120, iN130, iN520]
        refine ⟨fun c => by omega, fun c => ⟨by decide, by omega, ?_⟩⟩
        rw [show ((t : Nat) : Int).toNat = t by omega]
        exact ih (t + 1) _ (by omega) (hF1.tr (qFm.pJ (by decide))) (hA1.pJ (g := fun t => drf s.1.1 s.1.2 * ((t : Int) * (t - 1) / 2)))
    simp (disch := omega) only [iI_add, iI_sub, iI_mul, iI_neg, iI_lt, iI_le, iI_eq, iI_cl, vp_iI, Classical.not_not, iLn1000000005, iLn1000000004, iLn1000000003, iLn1000000002, iLn1000000001, iLn99999, iLn9999, iLn2, iLn1, iL0, iL1, iL2, iL3, iL4, iL5, iL6, iL7, iL8, iL9, iL10, iL15, iL16, iL31, iL32, iL40, iL42, iL45, iL48, iL57, iL59, iL63, iL64, iL65, iL120, iL126, iL455, iL520, iL9999, iL99999, iN2, iN8, iN64, iN65, iN120, iN130, iN520]
    exact key 64 0 M (by omega) qFm.rf (fun u hu => by omega)
  · simp only [if_pos (show cnd s.1.1 s.1.2 2 1 = 0 by omega)] at hQ0
    exact hQ0 hS
end LN2
end
section
/-! fill, both sides -/
def flS (n : Nat) (L : Int) (p : (Nat → Int) × Int) (i : Nat) : (Nat → Int) × Int :=
  if p.1 (i - 1) ≠ (-1000000001) ∧ p.1 i = (-1000000001) ∧ gpe p.1 (n - i) i < n ∧ ((gpe p.1 (n - i) i : Nat) : Int) - i ≤ L then ((fun t => if i ≤ t ∧ t < gpe p.1 (n - i) i then lnz n p.1 ((i : Int) - 1) (gpe p.1 (n - i) i : Nat) t else p.1 t), p.2 + (((gpe p.1 (n - i) i : Nat) : Int) - i)) else p
def flz (n : Nat) (f : Nat → Int) (L : Int) : Nat → (Nat → Int) × Int
  | 0 => (f, 0)
  | k + 1 => flS n L (flz n f L k) (k + 1)
theorem flz_s (n : Nat) (f : Nat → Int) (L : Int) (k : Nat) : flz n f L (k + 1) = flS n L (flz n f L k) (k + 1) := rfl
def tFill (s : zSt) (L : Int) : Int × zSt := if 1 ≤ L ∧ L ≤ 64 then ((flz s.1.1 s.1.2 L (s.1.1 - 1)).2, zChg s (s.1.1, (flz s.1.1 s.1.2 L (s.1.1 - 1)).1)) else (-1000000002, s)
theorem gpe_t (f : Nat → Int) : ∀ d i, gpe f d i < i + d → f (gpe f d i) ≠ (-1000000001) := by
  intro d
  induction d with
  | zero => intro i h; exact absurd h (by show ¬ i < i + 0; omega)
  | succ d ih =>
    intro i h
    rw [gpe_s] at h ⊢
    split
    · rename_i c
      rw [if_pos c] at h
      exact ih (i + 1) (by omega)
    · rename_i c
      exact c
def glR (n : Nat) (p : Nat → Int) (i e t : Nat) (u : Nat) : Int := if i ≤ u ∧ u < t then lnz n p ((i : Int) - 1) (e : Nat) u else p u
section FI
variable {Ls : Nat} {xs : Nat → Int32} {P : qSem} {M : qMem} {Q : qPost} {s : zSt} {n k : Nat} {f g : Nat → Int}
theorem glR_l {p : Nat → Int} {i e t : Nat} (h1 : 1 ≤ i) (h2 : i ≤ t) (h3 : t < e) (h4 : e < n) : vl n (glR n p i e t) ((i : Int) - 1) = vl n p ((i : Int) - 1) ∧ vl n (glR n p i e t) (e : Nat) = vl n p (e : Nat) ∧ lnz n (glR n p i e t) ((i : Int) - 1) (e : Nat) t = lnz n p ((i : Int) - 1) (e : Nat) t := by
  have e1 : vl n (glR n p i e t) ((i : Int) - 1) = vl n p ((i : Int) - 1) := by
    rw [show (i : Int) - 1 = ((i - 1 : Nat) : Int) by omega, vl_nat (show i - 1 < n by omega), vl_nat (show i - 1 < n by omega)]
    unfold glR
    rw [if_neg (by omega)]
  have e2 : vl n (glR n p i e t) (e : Nat) = vl n p (e : Nat) := by
    rw [vl_nat h4, vl_nat h4]
    unfold glR
    rw [if_neg (by omega)]
  refine ⟨e1, e2, ?_⟩
  unfold lnz
  rw [e1, e2]
theorem glR_s {p : Nat → Int} {i e t : Nat} (h2 : i ≤ t) (u : Nat) : glR n p i e (t + 1) u = (if u = t then lnz n p ((i : Int) - 1) (e : Nat) t else glR n p i e t u) := by
  unfold glR
  by_cases q : u = t
  · rw [if_pos q, q, if_pos (by omega)]
  · rw [if_neg q]
    by_cases c : i ≤ u ∧ u < t
    · rw [if_pos c, if_pos (by omega)]
    · rw [if_neg c, if_neg (by omega)]
theorem glR_0 {p : Nat → Int} {i e : Nat} (u : Nat) : glR n p i e i u = p u := by
  unfold glR
  rw [if_neg (by omega)]
theorem s_sa_fillGap (hG : qGood Ls xs P) {i e : Nat} (hR : cRd M 1 n f) (h1 : 1 ≤ i) (h2 : i ≤ e) (h3 : e < n) (hi : f (i - 1) ≠ (-1000000001)) (he : f e ≠ (-1000000001)) (hQ : ∀ M', qFm [1, 2] M M' → cRd M' 1 n (glR n f i e e) → Q none M') : P 64 0 [(0, .ref 0), (1, .int (iI i)), (2, .int (iI e))] [] M Q := by
  have hn := hR.2.1
  have hi' : vl n f ((i : Int) - 1) ≠ (-1000000001) := by
    rw [show (i : Int) - 1 = ((i - 1 : Nat) : Int) by omega, vl_nat (show i - 1 < n by omega)]
    exact hi
  have he' : vl n f (e : Nat) ≠ (-1000000001) := by
    rw [vl_nat h3]
    exact he
  refine v_sa_fillGap_0 hG ?_
  have key : ∀ (c t : Nat) (M1 : qMem), t + c = e → i ≤ t → qFm [1, 2] M M1 → cRd M1 1 n (glR n f i e t) → P 64 2 [(0, .ref 0), (1, .int (iI i)), (2, .int (iI e)), (3, .int (iI t))] [] M1 Q := by
    intro c
    induction c with
    | zero =>
      intro t M1 ht hit hF1 hR1
      have et : t = e := by omega
      subst et
      refine v_sa_fillGap_2 hG ?_
      simp (disch := omega) only [iI_add, iI_sub, iI_mul, iI_neg, iI_lt, iI_le, iI_eq, iI_cl, vp_iI, Classical.not_not, iLn1000000005, iLn1000000004, iLn1000000003, iLn1000000002, iLn1000000001, iLn99999, iLn9999, iLn2, iLn1, iL0, iL1, iL2, iL3, iL4, iL5, iL6, iL7, iL8, iL9, iL10, iL15, iL16, iL31, iL32, iL40, iL42, iL45, iL48, iL57, iL59, iL63, iL64, iL65, iL120, iL126, iL455, iL520, iL9999, iL99999, iN2, iN8, iN64, iN65, iN120, iN130, iN520]
      exact ⟨fun _ => hQ M1 hF1 hR1, fun c => by omega⟩
    | succ c ih =>
      intro t M1 ht hit hF1 hR1
      obtain ⟨l1, l2, l3⟩ := glR_l (p := f) h1 hit (show t < e by omega) h3
      refine v_sa_fillGap_2 hG ?_
      simp (disch := omega) only [iI_add, iI_sub, iI_mul, iI_neg, iI_lt, iI_le, iI_eq, iI_cl, vp_iI, Classical.not_not, iLn1000000005, iLn1000000004, iLn1000000003, iLn1000000002, iLn1000000001, iLn99999, iLn9999, iLn2, iLn1, iL0, iL1, iL2, iL3, iL4, iL5, iL6, iL7, iL8, iL9, iL10, iL15, iL16, iL31, iL32, iL40, iL42, iL45, iL48, iL57, iL59, iL63, iL64, iL65, iL120, iL126, iL455, iL520, iL9999, iL99999, iN2, iN8, iN64, iN65, iN120, iN130, iN520]
      refine ⟨fun c => by omega, fun c => ?_⟩
      refine s_rd_lineAt hG q1Rd hR1 (by omega) (by omega) (by omega) (by omega) (by omega) (by rw [l1]; exact hi') (by rw [l2]; exact he') ?_
      rw [l3]
      refine v_sa_fillGap_16 hG ?_
      rw [l2i]
      have hb := lnz_in hR.ok hi' he' (show (i : Int) - 1 ≤ t by omega) (show (t : Int) ≤ e by omega) (by omega)
      refine s_rd_put hG q1Rd hR1 (Or.inr hb) (by omega) (by omega) (fun M2 hR2 hF2 => ?_)
      refine v_sa_fillGap_18 hG ?_
      simp (disch := omega) only [iI_add, iI_sub, iI_mul, iI_neg, iI_lt, iI_le, iI_eq, iI_cl, vp_iI, Classical.not_not, iLn1000000005, iLn1000000004, iLn1000000003, iLn1000000002, iLn1000000001, iLn99999, iLn9999, iLn2, iLn1, iL0, iL1, iL2, iL3, iL4, iL5, iL6, iL7, iL8, iL9, iL10, iL15, iL16, iL31, iL32, iL40, iL42, iL45, iL48, iL57, iL59, iL63, iL64, iL65, iL120, iL126, iL455, iL520, iL9999, iL99999, iN2, iN8, iN64, iN65, iN120, iN130, iN520]
      refine ih (t + 1) M2 (by omega) (by omega) (hF1.tr hF2) (hR2.eqv (fun u hu => ?_))
      rw [glR_s hit, show ((t : Nat) : Int).toNat = t by omega]
  exact key (e - i) i M (by omega) (by omega) qFm.rf (hR.eqv (fun u hu => glR_0 u))
theorem C_fill (hG : qGood Ls xs P) {L : Int} (hS : CS s M) (hL : r32 L) (hQ : ∀ M', cFrm M M' → CS (tFill s L).2 M' → Q (some (.int (iI (tFill s L).1))) M') : P 42 0 [(0, .ref 0), (1, .int (iI L))] [] M Q := by
  obtain ⟨g1, g2⟩ := hL
  have hQ0 := hQ M cFrm.rf
  have hn := hS.1.2.1
  unfold tFill at hQ hQ0
  refine v_sa_fill_0 hG ?_
  simp (disch := omega) only [iI_add, iI_sub, iI_mul, iI_neg, iI_lt, iI_le, iI_eq, iI_cl, vp_iI, Classical.not_not, iLn1000000005, iLn1000000004, iLn1000000003, iLn1000000002, iLn1000000001, iLn99999, iLn9999, iLn2, iLn1, iL0, iL1, iL2, iL3, iL4, iL5, iL6, iL7, iL8, iL9, iL10, iL15, iL16, iL31, iL32, iL40, iL42, iL45, iL48, iL57, iL59, iL63, iL64, iL65, iL120, iL126, iL455, iL520, iL9999, iL99999, iN2, iN8, iN64, iN65, iN120, iN130, iN520]
  refine ⟨fun c => ?_, fun c => ⟨fun c2 => ?_, fun c2 => ?_⟩⟩
  · simp only [if_neg (show ¬ (1 ≤ L ∧ L ≤ 64) by omega)] at hQ0
    exact hQ0 hS
  · simp only [if_pos (show 1 ≤ L ∧ L ≤ 64 by omega)] at hQ
    refine C_rec hG hS (fun M1 hR1 hF1 hK => ?_)
    refine v_sa_fill_13 hG ?_
    have key : ∀ (d j : Nat) (M2 : qMem), j + d = s.1.1 - 1 → qFm [1, 2] M1 M2 → cRd M2 1 s.1.1 (flz s.1.1 s.1.2 L j).1 → P 42 17 [(0, .ref 0), (1, .int (iI L)), (2, .int (iI (flz s.1.1 s.1.2 L j).2)), (3, .int (iI (j + 1 : Nat)))] [] M2 Q := by
      intro d
      induction d with
      | zero =>
        intro j M2 hj hF2 hR2
        have ej : j = s.1.1 - 1 := by omega
        subst ej
        refine v_sa_fill_17 hG ?_
        refine s_rd_size hG q1Rd hR2 ?_
        refine v_sa_fill_21 hG ?_
        simp (disch := omega) only [iI_add, iI_sub, iI_mul, iI_neg, iI_lt, iI_le, iI_eq, iI_cl, vp_iI, Classical.not_not, iLn1000000005, iLn1000000004, iLn1000000003, iLn1000000002, iLn1000000001, iLn99999, iLn9999, iLn2, iLn1, iL0, iL1, iL2, iL3, iL4, iL5, iL6, iL7, iL8, iL9, iL10, iL15, iL16, iL31, iL32, iL40, iL42, iL45, iL48, iL57, iL59, iL63, iL64, iL65, iL120, iL126, iL455, iL520, iL9999, iL99999, iN2, iN8, iN64, iN65, iN120, iN130, iN520]
        refine ⟨fun _ => ?_, fun c => by omega⟩
        obtain ⟨k1, k2⟩ := hK M2 (s.1.1, (flz s.1.1 s.1.2 L (s.1.1 - 1)).1) hF2 hR2
        exact hQ M2 k1 k2
      | succ d ih =>
        intro j M2 hj hF2 hR2
        have hI := fun M2 => ih (j + 1) M2 (by omega)
        rw [flz_s] at hI
        generalize flz s.1.1 s.1.2 L j = p at hI hR2 ⊢
        unfold flS at hI
        rw [show j + 1 - 1 = j by omega] at hI
        have skip : ¬ (p.1 j ≠ (-1000000001) ∧ p.1 (j + 1) = (-1000000001) ∧ gpe p.1 (s.1.1 - (j + 1)) (j + 1) < s.1.1 ∧ ((gpe p.1 (s.1.1 - (j + 1)) (j + 1) : Nat) : Int) - (j + 1 : Nat) ≤ L) → P 42 17 [(0, .ref 0), (1, .int (iI L)), (2, .int (iI p.2)), (3, .int (iI (j + 1 + 1 : Nat)))] [] M2 Q := by
          intro c
          rw [if_neg c] at hI
          exact hI M2 hF2 hR2
        have hb := gpe_in p.1 (s.1.1 - (j + 1)) (j + 1)
        refine v_sa_fill_17 hG ?_
        refine s_rd_size hG q1Rd hR2 ?_
        refine v_sa_fill_21 hG ?_
        simp (disch := omega) only [iI_add, iI_sub, iI_mul, iI_neg, iI_lt, iI_le, iI_eq, iI_cl, vp_iI, Classical.not_not, iLn1000000005, iLn1000000004, iLn1000000003, iLn1000000002, iLn1000000001, iLn99999, iLn9999, iLn2, iLn1, iL0, iL1, iL2, iL3, iL4, iL5, iL6, iL7, iL8, iL9, iL10, iL15, iL16, iL31, iL32, iL40, iL42, iL45, iL48, iL57, iL59, iL63, iL64, iL65, iL120, iL126, iL455, iL520, iL9999, iL99999, iN2, iN8, iN64, iN65, iN120, iN130, iN520]
        refine ⟨fun c => by omega, fun c => ?_⟩
        rw [show ((j + 1 : Nat) : Int) - 1 = (j : Nat) by omega]
        refine s_rd_has hG q1Rd hR2 (by omega) (by omega) ?_
        rw [vl_nat (show j < s.1.1 by omega)]
        refine v_sa_fill_28 hG ?_
        simp (disch := omega) only [iI_add, iI_sub, iI_mul, iI_neg, iI_lt, iI_le, iI_eq, iI_cl, vp_iI, Classical.not_not, iLn1000000005, iLn1000000004, iLn1000000003, iLn1000000002, iLn1000000001, iLn99999, iLn9999, iLn2, iLn1, iL0, iL1, iL2, iL3, iL4, iL5, iL6, iL7, iL8, iL9, iL10, iL15, iL16, iL31, iL32, iL40, iL42, iL45, iL48, iL57, iL59, iL63, iL64, iL65, iL120, iL126, iL455, iL520, iL9999, iL99999, iN2, iN8, iN64, iN65, iN120, iN130, iN520]
        rw [show ((j + 1 : Nat) : Int) + 1 = (j + 1 + 1 : Nat) by omega]
        by_cases a1 : p.1 j = (-1000000001)
        · rw [bZ_f (fun z => z a1)]
          exact ⟨fun _ => skip (fun z => z.1 a1), fun c => absurd rfl c⟩
        rw [bZ_t a1]
        refine ⟨fun c => absurd c (by decide), fun _ => ?_⟩
        refine s_rd_has hG q1Rd hR2 (by omega) (by omega) ?_
        rw [vl_nat (show j + 1 < s.1.1 by omega)]
        refine v_sa_fill_33 hG ?_
        simp (disch := omega) only [iI_add, iI_sub, iI_mul, iI_neg, iI_lt, iI_le, iI_eq, iI_cl, vp_iI, Classical.not_not, iLn1000000005, iLn1000000004, iLn1000000003, iLn1000000002, iLn1000000001, iLn99999, iLn9999, iLn2, iLn1, iL0, iL1, iL2, iL3, iL4, iL5, iL6, iL7, iL8, iL9, iL10, iL15, iL16, iL31, iL32, iL40, iL42, iL45, iL48, iL57, iL59, iL63, iL64, iL65, iL120, iL126, iL455, iL520, iL9999, iL99999, iN2, iN8, iN64, iN65, iN120, iN130, iN520]
        rw [show ((j + 1 : Nat) : Int) + 1 = (j + 1 + 1 : Nat) by omega]
        by_cases a2 : p.1 (j + 1) = (-1000000001)
        · rw [bZ_f (fun z => z a2)]
          refine ⟨fun c => absurd rfl c, fun _ => ?_⟩
          refine s_rd_gapEnd hG q1Rd hR2 (by omega) ?_
          refine v_sa_fill_38 hG ?_
          refine s_rd_size hG q1Rd hR2 ?_
          refine v_sa_fill_43 hG ?_
          simp (disch := omega) only [iI_add, iI_sub, iI_mul, iI_neg, iI_lt, iI_le, iI_eq, iI_cl, vp_iI, Classical.not_not, iLn1000000005, iLn1000000004, iLn1000000003, iLn1000000002, iLn1000000001, iLn99999, iLn9999, iLn2, iLn1, iL0, iL1, iL2, iL3, iL4, iL5, iL6, iL7, iL8, iL9, iL10, iL15, iL16, iL31, iL32, iL40, iL42, iL45, iL48, iL57, iL59, iL63, iL64, iL65, iL120, iL126, iL455, iL520, iL9999, iL99999, iN2, iN8, iN64, iN65, iN120, iN130, iN520]
          rw [show ((j + 1 : Nat) : Int) + 1 = (j + 1 + 1 : Nat) by omega]
          refine ⟨fun c3 => skip (fun z => by omega), fun c3 => ⟨fun c4 => skip (fun z => by omega), fun c4 => ?_⟩⟩
          rw [if_pos ⟨a1, a2, by omega, by omega⟩] at hI
          refine s_sa_fillGap hG hR2 (by omega) (by omega) (by omega) a1 (gpe_t _ _ _ (by omega)) (fun M3 hF3 hR3 => ?_)
          refine v_sa_fill_53 hG ?_
          simp (disch := omega) only [iI_add, iI_sub, iI_mul, iI_neg, iI_lt, iI_le, iI_eq, iI_cl, vp_iI, Classical.not_not, iLn1000000005, iLn1000000004, iLn1000000003, iLn1000000002, iLn1000000001, iLn99999, iLn9999, iLn2, iLn1, iL0, iL1, iL2, iL3, iL4, iL5, iL6, iL7, iL8, iL9, iL10, iL15, iL16, iL31, iL32, iL40, iL42, iL45, iL48, iL57, iL59, iL63, iL64, iL65, iL120, iL126, iL455, iL520, iL9999, iL99999, iN2, iN8, iN64, iN65, iN120, iN130, iN520]
          rw [show ((j + 1 : Nat) : Int) + 1 = (j + 1 + 1 : Nat) by omega]
          exact hI M3 (hF2.tr hF3) hR3
        · rw [bZ_t a2]
          exact ⟨fun _ => skip (fun z => a2 z.2.1), fun c => absurd c (by decide)⟩
    exact key (s.1.1 - 1) 0 M1 (by omega) qFm.rf hR1
  · simp only [if_neg (show ¬ (1 ≤ L ∧ L ≤ 64) by omega)] at hQ0
    exact hQ0 hS
end FI
end
section
/-! what is to be shown, segment by segment: lw (printed by wip/genvc.py) -/
section VC
variable {Ls : Nat} {xs : Nat → Int32} {P : qSem}
def qc_lw_cell : List (Nat × List Nat) := []
theorem v_lw_cell_0 (hG : qGood Ls xs P) {l1 : Int32} {M : qMem} {Q : qPost}
    (hV : (((Int32.ofNat Ls) ≤ l1 → Q (some (.int ((747796405 : Int32) * (l1 + (1 : Int32))))) M) ∧ (¬ ((Int32.ofNat Ls) ≤ l1) → (vp_in l1 Ls ∧ Q (some (.int (xs l1.toNatClampNeg))) M)))) :
    P 73 0 [(0, .ref 1000), (1, .int l1)] [] M Q := by
  exact qRun_ok hG (ops := qo_73) (cuts := qc_lw_cell) rfl 16 0 _ _ _ _ hV
def qc_lw_low : List (Nat × List Nat) := []
theorem v_lw_low_0 (hG : qGood Ls xs P) {l0 l1 : Int32} {M : qMem} {Q : qPost}
    (hV : (¬ l1 = 0 ∧ Q (some (.int ((l0 &&& (2147483647 : Int32)) - (l0 &&& (2147483647 : Int32)) / l1 * l1))) M)) :
    P 74 0 [(0, .int l0), (1, .int l1)] [] M Q := by
  exact qRun_ok hG (ops := qo_74) (cuts := qc_lw_low) rfl 8 0 _ _ _ _ hV
def qc_lw_change : List (Nat × List Nat) := [(3, [0, 1, 2]), (13, [0, 1, 2, 3]), (23, [0, 1, 2, 4]), (27, [0, 2, 4, 5]), (35, [2]), (40, [2]), (45, []), (51, []), (57, []), (59, []), (65, [2]), (71, []), (74, []), (78, [0]), (81, []), (84, []), (89, []), (94, [2]), (101, []), (104, []), (107, []), (112, [2]), (118, []), (124, []), (125, []), (131, []), (133, []), (137, [0, 2]), (145, []), (148, []), (151, []), (155, [0, 2]), (162, []), (163, []), (167, [0, 2]), (175, []), (176, []), (183, []), (186, [])]
set_option maxRecDepth 100000 in
theorem v_lw_change_0 (hG : qGood Ls xs P) {l1 l2 : Int32} {M : qMem} {Q : qPost}
    (hV : (P 45 0 [(0, .ref 0), (1, .int (0 : Int32))] [] M (fun v M' => P 75 3 [(0, .ref 0), (1, .int l1), (2, .int l2)] (v.toList ++ []) M' Q))) :
    P 75 0 [(0, .ref 0), (1, .int l1), (2, .int l2)] [] M Q := by
  exact qRun_ok hG (ops := qo_75) (cuts := qc_lw_change) rfl 189 0 _ _ _ _ hV
set_option maxRecDepth 100000 in
theorem v_lw_change_3 (hG : qGood Ls xs P) {l1 l2 s0 : Int32} {M : qMem} {Q : qPost}
    (hV : ((¬ s0 = 0 → (P 74 0 [(0, .int (l1 >>> ((5 : Int32) &&& 31))), (1, .int s0)] [] M (fun v M' => P 75 13 [(0, .ref 0), (1, .int l1), (2, .int l2), (3, .int s0)] (v.toList ++ []) M' Q))) ∧ (¬ (¬ s0 = 0) → (P 75 13 [(0, .ref 0), (1, .int l1), (2, .int l2), (3, .int s0)] [.int (0 : Int32)] M Q)))) :
    P 75 3 [(0, .ref 0), (1, .int l1), (2, .int l2)] [.int s0] M Q := by
  exact qRun_ok hG (ops := qo_75) (cuts := qc_lw_change) rfl 189 3 _ _ _ _ hV
set_option maxRecDepth 100000 in
theorem v_lw_change_13 (hG : qGood Ls xs P) {l1 l2 l3 s0 : Int32} {M : qMem} {Q : qPost}
    (hV : ((¬ l3 = 0 → (P 74 0 [(0, .int (l1 >>> ((12 : Int32) &&& 31))), (1, .int l3)] [] M (fun v M' => P 75 23 [(0, .ref 0), (1, .int l1), (2, .int l2), (4, .int s0)] (v.toList ++ []) M' Q))) ∧ (¬ (¬ l3 = 0) → (P 75 23 [(0, .ref 0), (1, .int l1), (2, .int l2), (4, .int s0)] [.int (0 : Int32)] M Q)))) :
    P 75 13 [(0, .ref 0), (1, .int l1), (2, .int l2), (3, .int l3)] [.int s0] M Q := by
  exact qRun_ok hG (ops := qo_75) (cuts := qc_lw_change) rfl 189 13 _ _ _ _ hV
set_option maxRecDepth 100000 in
theorem v_lw_change_23 (hG : qGood Ls xs P) {l1 l2 l4 s0 : Int32} {M : qMem} {Q : qPost}
    (hV : (P 74 0 [(0, .int l1), (1, .int (20 : Int32))] [] M (fun v M' => P 75 27 [(0, .ref 0), (2, .int l2), (4, .int l4), (5, .int s0)] (v.toList ++ []) M' Q))) :
    P 75 23 [(0, .ref 0), (1, .int l1), (2, .int l2), (4, .int l4)] [.int s0] M Q := by
  exact qRun_ok hG (ops := qo_75) (cuts := qc_lw_change) rfl 189 23 _ _ _ _ hV
set_option maxRecDepth 100000 in
theorem v_lw_change_27 (hG : qGood Ls xs P) {l2 l4 l5 s0 : Int32} {M : qMem} {Q : qPost}
    (hV : ((s0 = Int32.ofInt 0 → (P 74 0 [(0, .int (l2 >>> ((10 : Int32) &&& 31))), (1, .int (3 : Int32))] [] M (fun v M' => P 75 35 [(2, .int l2)] (v.toList ++ [.int l2, .ref 0]) M' Q))) ∧ (¬ (s0 = Int32.ofInt 0) → ((s0 = Int32.ofInt 1 → (P 74 0 [(0, .int (l2 >>> ((10 : Int32) &&& 31))), (1, .int (3 : Int32))] [] M (fun v M' => P 75 35 [(2, .int l2)] (v.toList ++ [.int l2, .ref 0]) M' Q))) ∧ (¬ (s0 = Int32.ofInt 1) → ((s0 = Int32.ofInt 2 → (P 74 0 [(0, .int (l2 >>> ((10 : Int32) &&& 31))), (1, .int (3 : Int32))] [] M (fun v M' => P 75 35 [(2, .int l2)] (v.toList ++ [.int l2, .ref 0]) M' Q))) ∧ (¬ (s0 = Int32.ofInt 2) → ((s0 = Int32.ofInt 3 → (P 74 0 [(0, .int (l2 >>> ((10 : Int32) &&& 31))), (1, .int (3 : Int32))] [] M (fun v M' => P 75 35 [(2, .int l2)] (v.toList ++ [.int l2, .ref 0]) M' Q))) ∧ (¬ (s0 = Int32.ofInt 3) → ((s0 = Int32.ofInt 4 → (P 74 0 [(0, .int (l2 >>> ((10 : Int32) &&& 31))), (1, .int (3 : Int32))] [] M (fun v M' => P 75 35 [(2, .int l2)] (v.toList ++ [.int l2, .ref 0]) M' Q))) ∧ (¬ (s0 = Int32.ofInt 4) → ((s0 = Int32.ofInt 5 → (P 74 0 [(0, .int (l2 >>> ((10 : Int32) &&& 31))), (1, .int (3 : Int32))] [] M (fun v M' => P 75 35 [(2, .int l2)] (v.toList ++ [.int l2, .ref 0]) M' Q))) ∧ (¬ (s0 = Int32.ofInt 5) → ((s0 = Int32.ofInt 6 → (P 74 0 [(0, .int (l2 >>> ((10 : Int32) &&& 31))), (1, .int (3 : Int32))] [] M (fun v M' => P 75 35 [(2, .int l2)] (v.toList ++ [.int l2, .ref 0]) M' Q))) ∧ (¬ (s0 = Int32.ofInt 6) → ((s0 = Int32.ofInt 7 → (P 74 0 [(0, .int (l2 >>> ((10 : Int32) &&& 31))), (1, .int (3 : Int32))] [] M (fun v M' => P 75 35 [(2, .int l2)] (v.toList ++ [.int l2, .ref 0]) M' Q))) ∧ (¬ (s0 = Int32.ofInt 7) → ((s0 = Int32.ofInt 8 → (P 74 0 [(0, .int l2), (1, .int (3 : Int32))] [] M (fun v M' => P 75 57 [] (v.toList ++ [.int (1 : Int32), .ref 0]) M' Q))) ∧ (¬ (s0 = Int32.ofInt 8) → ((s0 = Int32.ofInt 9 → (P 74 0 [(0, .int l2), (1, .int (3 : Int32))] [] M (fun v M' => P 75 65 [(2, .int l2)] (v.toList ++ [.int l4, .ref 0]) M' Q))) ∧ (¬ (s0 = Int32.ofInt 9) → ((s0 = Int32.ofInt 10 → (P 74 0 [(0, .int l2), (1, .int (12 : Int32))] [] M (fun v M' => P 75 78 [(0, .ref 0)] (v.toList ++ []) M' Q))) ∧ (¬ (s0 = Int32.ofInt 10) → ((s0 = Int32.ofInt 11 → (P 38 0 [(0, .ref 0), (1, .int l4), (2, .int l5)] [] M (fun v M' => P 75 89 [] (v.toList ++ []) M' Q))) ∧ (¬ (s0 = Int32.ofInt 11) → ((s0 = Int32.ofInt 12 → (P 74 0 [(0, .int l2), (1, .int (41 : Int32))] [] M (fun v M' => P 75 94 [(2, .int l2)] (v.toList ++ [.ref 0]) M' Q))) ∧ (¬ (s0 = Int32.ofInt 12) → ((s0 = Int32.ofInt 13 → (P 40 0 [(0, .ref 0)] [] M (fun v M' => P 75 107 [] (v.toList ++ []) M' Q))) ∧ (¬ (s0 = Int32.ofInt 13) → ((s0 = Int32.ofInt 14 → (P 74 0 [(0, .int l2), (1, .int (3 : Int32))] [] M (fun v M' => P 75 112 [(2, .int l2)] (v.toList ++ [.ref 0]) M' Q))) ∧ (¬ (s0 = Int32.ofInt 14) → ((s0 = Int32.ofInt 15 → (P 74 0 [(0, .int l2), (1, .int (6 : Int32))] [] M (fun v M' => P 75 131 [] (v.toList ++ [.int (1 : Int32), .ref 0]) M' Q))) ∧ (¬ (s0 = Int32.ofInt 15) → ((s0 = Int32.ofInt 16 → (P 74 0 [(0, .int l2), (1, .int (6 : Int32))] [] M (fun v M' => P 75 137 [(0, .ref 0), (2, .int l2)] (v.toList ++ []) M' Q))) ∧ (¬ (s0 = Int32.ofInt 16) → ((s0 = Int32.ofInt 17 → (P 74 0 [(0, .int l2), (1, .int (2 : Int32))] [] M (fun v M' => P 75 155 [(0, .ref 0), (2, .int l2)] (v.toList ++ []) M' Q))) ∧ (¬ (s0 = Int32.ofInt 17) → (P 74 0 [(0, .int l2), (1, .int (2001 : Int32))] [] M (fun v M' => P 75 183 [] (v.toList ++ [.ref 0]) M' Q))))))))))))))))))))))))))))))))))))))) :
    P 75 27 [(0, .ref 0), (2, .int l2), (4, .int l4), (5, .int l5)] [.int s0] M Q := by
  exact qRun_ok hG (ops := qo_75) (cuts := qc_lw_change) rfl 189 27 _ _ _ _ hV
set_option maxRecDepth 100000 in
theorem v_lw_change_183 (hG : qGood Ls xs P) {s0 : Int32} {M : qMem} {Q : qPost}
    (hV : (P 34 0 [(0, .ref 0), (1, .int (s0 - (1000 : Int32)))] [] M (fun v M' => P 75 186 [] (v.toList ++ []) M' Q))) :
    P 75 183 [] [.int s0, .ref 0] M Q := by
  exact qRun_ok hG (ops := qo_75) (cuts := qc_lw_change) rfl 189 183 _ _ _ _ hV
set_option maxRecDepth 100000 in
theorem v_lw_change_155 (hG : qGood Ls xs P) {l2 s0 : Int32} {M : qMem} {Q : qPost}
    (hV : ((¬ s0 = 0 → (P 74 0 [(0, .int l2), (1, .int (6 : Int32))] [] M (fun v M' => P 75 167 [(0, .ref 0), (2, .int l2)] (v.toList ++ []) M' Q))) ∧ (¬ (¬ s0 = 0) → (P 74 0 [(0, .int (l2 >>> ((1 : Int32) &&& 31))), (1, .int (2 : Int32))] [] M (fun v M' => P 75 162 [] (v.toList ++ [.ref 0]) M' Q))))) :
    P 75 155 [(0, .ref 0), (2, .int l2)] [.int s0] M Q := by
  exact qRun_ok hG (ops := qo_75) (cuts := qc_lw_change) rfl 189 155 _ _ _ _ hV
set_option maxRecDepth 100000 in
theorem v_lw_change_137 (hG : qGood Ls xs P) {l2 s0 : Int32} {M : qMem} {Q : qPost}
    (hV : ((¬ s0 = 0 → (P 44 0 [(0, .ref 0)] [] M (fun v M' => P 75 151 [] (v.toList ++ []) M' Q))) ∧ (¬ (¬ s0 = 0) → (P 74 0 [(0, .int (l2 >>> ((3 : Int32) &&& 31))), (1, .int (3 : Int32))] [] M (fun v M' => P 75 145 [] (v.toList ++ [.int (1 : Int32), .ref 0]) M' Q))))) :
    P 75 137 [(0, .ref 0), (2, .int l2)] [.int s0] M Q := by
  exact qRun_ok hG (ops := qo_75) (cuts := qc_lw_change) rfl 189 137 _ _ _ _ hV
set_option maxRecDepth 100000 in
theorem v_lw_change_131 (hG : qGood Ls xs P) {s0 s1 : Int32} {M : qMem} {Q : qPost}
    (hV : (P 42 0 [(0, .ref 0), (1, .int (s1 + s0))] [] M (fun v M' => P 75 133 [] (v.toList ++ []) M' Q))) :
    P 75 131 [] [.int s0, .int s1, .ref 0] M Q := by
  exact qRun_ok hG (ops := qo_75) (cuts := qc_lw_change) rfl 189 131 _ _ _ _ hV
set_option maxRecDepth 100000 in
theorem v_lw_change_112 (hG : qGood Ls xs P) {l2 s0 : Int32} {M : qMem} {Q : qPost}
    (hV : ((¬ s0 = 0 → (P 74 0 [(0, .int (l2 >>> ((2 : Int32) &&& 31))), (1, .int (100000 : Int32))] [] M (fun v M' => P 75 124 [] (v.toList ++ [.ref 0]) M' Q))) ∧ (¬ (¬ s0 = 0) → (P 74 0 [(0, .int (l2 >>> ((2 : Int32) &&& 31))), (1, .int (40 : Int32))] [] M (fun v M' => P 75 118 [] (v.toList ++ [.ref 0]) M' Q))))) :
    P 75 112 [(2, .int l2)] [.int s0, .ref 0] M Q := by
  exact qRun_ok hG (ops := qo_75) (cuts := qc_lw_change) rfl 189 112 _ _ _ _ hV
set_option maxRecDepth 100000 in
theorem v_lw_change_107 (hG : qGood Ls xs P) {s0 : Int32} {M : qMem} {Q : qPost}
    (hV : Q (some (.int s0)) M) :
    P 75 107 [] [.int s0] M Q := by
  exact qRun_ok hG (ops := qo_75) (cuts := qc_lw_change) rfl 189 107 _ _ _ _ hV
set_option maxRecDepth 100000 in
theorem v_lw_change_94 (hG : qGood Ls xs P) {l2 s0 : Int32} {M : qMem} {Q : qPost}
    (hV : (P 74 0 [(0, .int (l2 >>> ((8 : Int32) &&& 31))), (1, .int (2001 : Int32))] [] M (fun v M' => P 75 101 [] (v.toList ++ [.int (s0 - (20 : Int32)), .ref 0]) M' Q))) :
    P 75 94 [(2, .int l2)] [.int s0, .ref 0] M Q := by
  exact qRun_ok hG (ops := qo_75) (cuts := qc_lw_change) rfl 189 94 _ _ _ _ hV
set_option maxRecDepth 100000 in
theorem v_lw_change_89 (hG : qGood Ls xs P) {s0 : Int32} {M : qMem} {Q : qPost}
    (hV : Q (some (.int s0)) M) :
    P 75 89 [] [.int s0] M Q := by
  exact qRun_ok hG (ops := qo_75) (cuts := qc_lw_change) rfl 189 89 _ _ _ _ hV
set_option maxRecDepth 100000 in
theorem v_lw_change_78 (hG : qGood Ls xs P) {s0 : Int32} {M : qMem} {Q : qPost}
    (hV : ((¬ s0 = 0 → (P 44 0 [(0, .ref 0)] [] M (fun v M' => P 75 84 [] (v.toList ++ []) M' Q))) ∧ (¬ (¬ s0 = 0) → (P 37 0 [(0, .ref 0)] [] M (fun v M' => P 75 81 [] (v.toList ++ []) M' Q))))) :
    P 75 78 [(0, .ref 0)] [.int s0] M Q := by
  exact qRun_ok hG (ops := qo_75) (cuts := qc_lw_change) rfl 189 78 _ _ _ _ hV
set_option maxRecDepth 100000 in
theorem v_lw_change_65 (hG : qGood Ls xs P) {l2 s0 s1 : Int32} {M : qMem} {Q : qPost}
    (hV : ((¬ s0 = 0 → (P 74 0 [(0, .int l2), (1, .int (2001 : Int32))] [] M (fun v M' => P 75 71 [] (v.toList ++ [.int s1, .ref 0]) M' Q))) ∧ (¬ (¬ s0 = 0) → (P 36 0 [(0, .ref 0), (1, .int s1), (2, .int (-1000000001 : Int32))] [] M (fun v M' => P 75 74 [] (v.toList ++ []) M' Q))))) :
    P 75 65 [(2, .int l2)] [.int s0, .int s1, .ref 0] M Q := by
  exact qRun_ok hG (ops := qo_75) (cuts := qc_lw_change) rfl 189 65 _ _ _ _ hV
set_option maxRecDepth 100000 in
theorem v_lw_change_57 (hG : qGood Ls xs P) {s0 s1 : Int32} {M : qMem} {Q : qPost}
    (hV : (P 35 0 [(0, .ref 0), (1, .int (s1 + s0))] [] M (fun v M' => P 75 59 [] (v.toList ++ []) M' Q))) :
    P 75 57 [] [.int s0, .int s1, .ref 0] M Q := by
  exact qRun_ok hG (ops := qo_75) (cuts := qc_lw_change) rfl 189 57 _ _ _ _ hV
set_option maxRecDepth 100000 in
theorem v_lw_change_35 (hG : qGood Ls xs P) {l2 s0 s1 : Int32} {M : qMem} {Q : qPost}
    (hV : ((¬ s0 = 0 → (P 74 0 [(0, .int s1), (1, .int (41 : Int32))] [] M (fun v M' => P 75 40 [(2, .int l2)] (v.toList ++ [.ref 0]) M' Q))) ∧ (¬ (¬ s0 = 0) → (P 74 0 [(0, .int s1), (1, .int (199999 : Int32))] [] M (fun v M' => P 75 40 [(2, .int l2)] (v.toList ++ [.ref 0]) M' Q))))) :
    P 75 35 [(2, .int l2)] [.int s0, .int s1, .ref 0] M Q := by
  exact qRun_ok hG (ops := qo_75) (cuts := qc_lw_change) rfl 189 35 _ _ _ _ hV
set_option maxRecDepth 100000 in
theorem v_lw_change_186 (hG : qGood Ls xs P) {s0 : Int32} {M : qMem} {Q : qPost}
    (hV : Q (some (.int s0)) M) :
    P 75 186 [] [.int s0] M Q := by
  exact qRun_ok hG (ops := qo_75) (cuts := qc_lw_change) rfl 189 186 _ _ _ _ hV
set_option maxRecDepth 100000 in
theorem v_lw_change_167 (hG : qGood Ls xs P) {l2 s0 : Int32} {M : qMem} {Q : qPost}
    (hV : ((¬ s0 = (1 : Int32) → Q (some (.int (-9 : Int32))) M) ∧ (¬ (¬ s0 = (1 : Int32)) → (P 74 0 [(0, .int (l2 >>> ((3 : Int32) &&& 31))), (1, .int (2 : Int32))] [] M (fun v M' => P 75 175 [] (v.toList ++ [.ref 0]) M' Q))))) :
    P 75 167 [(0, .ref 0), (2, .int l2)] [.int s0] M Q := by
  exact qRun_ok hG (ops := qo_75) (cuts := qc_lw_change) rfl 189 167 _ _ _ _ hV
set_option maxRecDepth 100000 in
theorem v_lw_change_162 (hG : qGood Ls xs P) {s0 : Int32} {M : qMem} {Q : qPost}
    (hV : (P 53 0 [(0, .ref 0), (1, .int s0)] [] M (fun v M' => P 75 163 [] (v.toList ++ []) M' Q))) :
    P 75 162 [] [.int s0, .ref 0] M Q := by
  exact qRun_ok hG (ops := qo_75) (cuts := qc_lw_change) rfl 189 162 _ _ _ _ hV
set_option maxRecDepth 100000 in
theorem v_lw_change_151 (hG : qGood Ls xs P) {s0 : Int32} {M : qMem} {Q : qPost}
    (hV : Q (some (.int s0)) M) :
    P 75 151 [] [.int s0] M Q := by
  exact qRun_ok hG (ops := qo_75) (cuts := qc_lw_change) rfl 189 151 _ _ _ _ hV
set_option maxRecDepth 100000 in
theorem v_lw_change_145 (hG : qGood Ls xs P) {s0 s1 : Int32} {M : qMem} {Q : qPost}
    (hV : (P 43 0 [(0, .ref 0), (1, .int (s1 + s0)), (2, .int (0 : Int32))] [] M (fun v M' => P 75 148 [] (v.toList ++ []) M' Q))) :
    P 75 145 [] [.int s0, .int s1, .ref 0] M Q := by
  exact qRun_ok hG (ops := qo_75) (cuts := qc_lw_change) rfl 189 145 _ _ _ _ hV
set_option maxRecDepth 100000 in
theorem v_lw_change_133 (hG : qGood Ls xs P) {s0 : Int32} {M : qMem} {Q : qPost}
    (hV : Q (some (.int s0)) M) :
    P 75 133 [] [.int s0] M Q := by
  exact qRun_ok hG (ops := qo_75) (cuts := qc_lw_change) rfl 189 133 _ _ _ _ hV
set_option maxRecDepth 100000 in
theorem v_lw_change_124 (hG : qGood Ls xs P) {s0 : Int32} {M : qMem} {Q : qPost}
    (hV : (P 41 0 [(0, .ref 0), (1, .int s0)] [] M (fun v M' => P 75 125 [] (v.toList ++ []) M' Q))) :
    P 75 124 [] [.int s0, .ref 0] M Q := by
  exact qRun_ok hG (ops := qo_75) (cuts := qc_lw_change) rfl 189 124 _ _ _ _ hV
set_option maxRecDepth 100000 in
theorem v_lw_change_118 (hG : qGood Ls xs P) {s0 : Int32} {M : qMem} {Q : qPost}
    (hV : (P 75 124 [] [.int s0, .ref 0] M Q)) :
    P 75 118 [] [.int s0, .ref 0] M Q := by
  exact qRun_ok hG (ops := qo_75) (cuts := qc_lw_change) rfl 189 118 _ _ _ _ hV
set_option maxRecDepth 100000 in
theorem v_lw_change_101 (hG : qGood Ls xs P) {s0 s1 : Int32} {M : qMem} {Q : qPost}
    (hV : (P 39 0 [(0, .ref 0), (1, .int s1), (2, .int (s0 - (1000 : Int32)))] [] M (fun v M' => P 75 104 [] (v.toList ++ []) M' Q))) :
    P 75 101 [] [.int s0, .int s1, .ref 0] M Q := by
  exact qRun_ok hG (ops := qo_75) (cuts := qc_lw_change) rfl 189 101 _ _ _ _ hV
set_option maxRecDepth 100000 in
theorem v_lw_change_84 (hG : qGood Ls xs P) {s0 : Int32} {M : qMem} {Q : qPost}
    (hV : Q (some (.int s0)) M) :
    P 75 84 [] [.int s0] M Q := by
  exact qRun_ok hG (ops := qo_75) (cuts := qc_lw_change) rfl 189 84 _ _ _ _ hV
set_option maxRecDepth 100000 in
theorem v_lw_change_81 (hG : qGood Ls xs P) {s0 : Int32} {M : qMem} {Q : qPost}
    (hV : (P 75 84 [] [.int s0] M Q)) :
    P 75 81 [] [.int s0] M Q := by
  exact qRun_ok hG (ops := qo_75) (cuts := qc_lw_change) rfl 189 81 _ _ _ _ hV
set_option maxRecDepth 100000 in
theorem v_lw_change_71 (hG : qGood Ls xs P) {s0 s1 : Int32} {M : qMem} {Q : qPost}
    (hV : (P 36 0 [(0, .ref 0), (1, .int s1), (2, .int (s0 - (1000 : Int32)))] [] M (fun v M' => P 75 74 [] (v.toList ++ []) M' Q))) :
    P 75 71 [] [.int s0, .int s1, .ref 0] M Q := by
  exact qRun_ok hG (ops := qo_75) (cuts := qc_lw_change) rfl 189 71 _ _ _ _ hV
set_option maxRecDepth 100000 in
theorem v_lw_change_74 (hG : qGood Ls xs P) {s0 : Int32} {M : qMem} {Q : qPost}
    (hV : Q (some (.int s0)) M) :
    P 75 74 [] [.int s0] M Q := by
  exact qRun_ok hG (ops := qo_75) (cuts := qc_lw_change) rfl 189 74 _ _ _ _ hV
set_option maxRecDepth 100000 in
theorem v_lw_change_59 (hG : qGood Ls xs P) {s0 : Int32} {M : qMem} {Q : qPost}
    (hV : Q (some (.int s0)) M) :
    P 75 59 [] [.int s0] M Q := by
  exact qRun_ok hG (ops := qo_75) (cuts := qc_lw_change) rfl 189 59 _ _ _ _ hV
set_option maxRecDepth 100000 in
theorem v_lw_change_40 (hG : qGood Ls xs P) {l2 s0 : Int32} {M : qMem} {Q : qPost}
    (hV : (P 74 0 [(0, .int (l2 >>> ((10 : Int32) &&& 31))), (1, .int (3 : Int32))] [] M (fun v M' => P 75 45 [] (v.toList ++ [.int s0, .ref 0]) M' Q))) :
    P 75 40 [(2, .int l2)] [.int s0, .ref 0] M Q := by
  exact qRun_ok hG (ops := qo_75) (cuts := qc_lw_change) rfl 189 40 _ _ _ _ hV
set_option maxRecDepth 100000 in
theorem v_lw_change_175 (hG : qGood Ls xs P) {s0 : Int32} {M : qMem} {Q : qPost}
    (hV : (P 54 0 [(0, .ref 0), (1, .int s0)] [] M (fun v M' => P 75 176 [] (v.toList ++ []) M' Q))) :
    P 75 175 [] [.int s0, .ref 0] M Q := by
  exact qRun_ok hG (ops := qo_75) (cuts := qc_lw_change) rfl 189 175 _ _ _ _ hV
set_option maxRecDepth 100000 in
theorem v_lw_change_163 (hG : qGood Ls xs P) {s0 : Int32} {M : qMem} {Q : qPost}
    (hV : Q (some (.int s0)) M) :
    P 75 163 [] [.int s0] M Q := by
  exact qRun_ok hG (ops := qo_75) (cuts := qc_lw_change) rfl 189 163 _ _ _ _ hV
set_option maxRecDepth 100000 in
theorem v_lw_change_148 (hG : qGood Ls xs P) {s0 : Int32} {M : qMem} {Q : qPost}
    (hV : (P 75 151 [] [.int s0] M Q)) :
    P 75 148 [] [.int s0] M Q := by
  exact qRun_ok hG (ops := qo_75) (cuts := qc_lw_change) rfl 189 148 _ _ _ _ hV
set_option maxRecDepth 100000 in
theorem v_lw_change_125 (hG : qGood Ls xs P) {s0 : Int32} {M : qMem} {Q : qPost}
    (hV : Q (some (.int s0)) M) :
    P 75 125 [] [.int s0] M Q := by
  exact qRun_ok hG (ops := qo_75) (cuts := qc_lw_change) rfl 189 125 _ _ _ _ hV
set_option maxRecDepth 100000 in
theorem v_lw_change_104 (hG : qGood Ls xs P) {s0 : Int32} {M : qMem} {Q : qPost}
    (hV : Q (some (.int s0)) M) :
    P 75 104 [] [.int s0] M Q := by
  exact qRun_ok hG (ops := qo_75) (cuts := qc_lw_change) rfl 189 104 _ _ _ _ hV
set_option maxRecDepth 100000 in
theorem v_lw_change_45 (hG : qGood Ls xs P) {s0 s1 : Int32} {M : qMem} {Q : qPost}
    (hV : ((¬ s0 = 0 → (P 34 0 [(0, .ref 0), (1, .int (s1 - (20 : Int32)))] [] M (fun v M' => P 75 51 [] (v.toList ++ []) M' Q))) ∧ (¬ (¬ s0 = 0) → (P 34 0 [(0, .ref 0), (1, .int (s1 - (99999 : Int32)))] [] M (fun v M' => P 75 51 [] (v.toList ++ []) M' Q))))) :
    P 75 45 [] [.int s0, .int s1, .ref 0] M Q := by
  exact qRun_ok hG (ops := qo_75) (cuts := qc_lw_change) rfl 189 45 _ _ _ _ hV
set_option maxRecDepth 100000 in
theorem v_lw_change_176 (hG : qGood Ls xs P) {s0 : Int32} {M : qMem} {Q : qPost}
    (hV : Q (some (.int s0)) M) :
    P 75 176 [] [.int s0] M Q := by
  exact qRun_ok hG (ops := qo_75) (cuts := qc_lw_change) rfl 189 176 _ _ _ _ hV
set_option maxRecDepth 100000 in
theorem v_lw_change_51 (hG : qGood Ls xs P) {s0 : Int32} {M : qMem} {Q : qPost}
    (hV : Q (some (.int s0)) M) :
    P 75 51 [] [.int s0] M Q := by
  exact qRun_ok hG (ops := qo_75) (cuts := qc_lw_change) rfl 189 51 _ _ _ _ hV
def qc_lw_areDifferences : List (Nat × List Nat) := [(5, [0, 1, 2]), (14, [0, 1, 2, 3, 4, 5, 6, 7]), (22, [0, 1, 2, 3, 4, 5, 6, 7]), (30, [0, 1, 2, 3, 4, 5, 6, 7, 8]), (36, [0, 1, 2, 3, 4, 5, 6, 7, 8, 9]), (42, [0, 1, 2, 3, 4, 5, 6, 7, 8, 9, 10]), (49, [0, 1, 2, 3, 4, 5, 6, 7, 8, 9, 10, 11, 12, 13, 14]), (59, [0, 1, 2, 3, 4, 5, 6, 7, 8, 9, 10, 11, 12, 13, 14]), (69, [0, 1, 2, 3, 4, 5, 6, 7, 8, 9, 10, 11, 12, 13, 14, 15]), (77, [0, 1, 2, 3, 4, 5, 6, 7, 8, 9, 10, 11, 12, 13, 14]), (92, [0, 1, 2, 3, 4, 5, 6, 7, 8, 10, 11, 12, 13]), (103, [0, 1, 2, 3, 4, 5, 6, 7, 8, 10, 11, 14]), (113, [0, 1, 2, 3, 4, 5, 6, 7, 8, 10, 11, 14]), (120, [0, 1, 2, 3, 4, 5, 6, 7, 8, 10, 11, 14]), (129, [0, 1, 2, 3, 4, 5, 6, 7, 8, 10, 11, 14]), (135, [0, 1, 2, 3, 4, 5, 6, 7, 8, 10, 11, 14, 15]), (155, [0, 1, 2, 3, 4, 5, 6, 7, 8, 10, 11]), (161, [0, 1, 2, 3, 4, 5, 6, 7, 8, 10, 11]), (166, [0, 1, 2, 3, 4, 5, 6, 7, 8, 10, 11]), (170, [0, 1, 2, 3, 4, 5, 6, 7, 8, 10, 11]), (179, [0, 1, 2, 3, 4, 5, 6, 7, 10, 11]), (188, [0, 1, 2, 3, 4, 5, 6, 7, 11]), (197, [0, 1, 2, 3, 4, 5, 6, 7]), (203, [0, 1, 2, 3, 4, 5, 6]), (209, [0, 1, 2, 3, 5, 6]), (215, [0, 1, 2, 3, 6]), (222, [2])]
set_option maxRecDepth 100000 in
theorem v_lw_areDifferences_0 (hG : qGood Ls xs P) {l1 : Int32} {M : qMem} {Q : qPost}
    (hV : (P 45 0 [(0, .ref 0), (1, .int (0 : Int32))] [] M (fun v M' => P 76 5 [(0, .ref 0), (1, .int l1), (2, .int (-1000000001 : Int32))] (v.toList ++ []) M' Q))) :
    P 76 0 [(0, .ref 0), (1, .int l1)] [] M Q := by
  exact qRun_ok hG (ops := qo_76) (cuts := qc_lw_areDifferences) rfl 230 0 _ _ _ _ hV
set_option maxRecDepth 100000 in
theorem v_lw_areDifferences_5 (hG : qGood Ls xs P) {l1 l2 s0 : Int32} {M : qMem} {Q : qPost}
    (hV : (P 76 14 [(0, .ref 0), (1, .int l1), (2, .int l2), (3, .int s0), (4, .int (0 : Int32)), (5, .int (0 : Int32)), (6, .int (0 : Int32)), (7, .int (0 : Int32))] [] M Q)) :
    P 76 5 [(0, .ref 0), (1, .int l1), (2, .int l2)] [.int s0] M Q := by
  exact qRun_ok hG (ops := qo_76) (cuts := qc_lw_areDifferences) rfl 230 5 _ _ _ _ hV
set_option maxRecDepth 100000 in
theorem v_lw_areDifferences_14 (hG : qGood Ls xs P) {l1 l2 l3 l4 l5 l6 l7 : Int32} {M : qMem} {Q : qPost}
    (hV : ((l3 ≤ l7 → (P 48 0 [(0, .ref 0), (1, .int (2 : Int32)), (2, .int l1)] [] M (fun v M' => P 76 203 [(0, .ref 0), (1, .int l1), (2, .int l2), (3, .int l3), (4, .int l4), (5, .int l5), (6, .int l6)] (v.toList ++ []) M' Q))) ∧ (¬ (l3 ≤ l7) → (P 47 0 [(0, .ref 0), (1, .int (2 : Int32)), (2, .int l1), (3, .int l7)] [] M (fun v M' => P 76 22 [(0, .ref 0), (1, .int l1), (2, .int l2), (3, .int l3), (4, .int l4), (5, .int l5), (6, .int l6), (7, .int l7)] (v.toList ++ []) M' Q))))) :
    P 76 14 [(0, .ref 0), (1, .int l1), (2, .int l2), (3, .int l3), (4, .int l4), (5, .int l5), (6, .int l6), (7, .int l7)] [] M Q := by
  exact qRun_ok hG (ops := qo_76) (cuts := qc_lw_areDifferences) rfl 230 14 _ _ _ _ hV
set_option maxRecDepth 100000 in
theorem v_lw_areDifferences_203 (hG : qGood Ls xs P) {l1 l2 l3 l4 l5 l6 s0 : Int32} {M : qMem} {Q : qPost}
    (hV : ((¬ s0 = l4 → (narrow .boolean (.int (0 : Int32)) = .int (0 : Int32) ∧ Q (some (.int (0 : Int32))) M)) ∧ (¬ (¬ s0 = l4) → (P 48 0 [(0, .ref 0), (1, .int (3 : Int32)), (2, .int l1)] [] M (fun v M' => P 76 209 [(0, .ref 0), (1, .int l1), (2, .int l2), (3, .int l3), (5, .int l5), (6, .int l6)] (v.toList ++ []) M' Q))))) :
    P 76 203 [(0, .ref 0), (1, .int l1), (2, .int l2), (3, .int l3), (4, .int l4), (5, .int l5), (6, .int l6)] [.int s0] M Q := by
  exact qRun_ok hG (ops := qo_76) (cuts := qc_lw_areDifferences) rfl 230 203 _ _ _ _ hV
set_option maxRecDepth 100000 in
theorem v_lw_areDifferences_22 (hG : qGood Ls xs P) {l1 l2 l3 l4 l5 l6 l7 s0 : Int32} {M : qMem} {Q : qPost}
    (hV : (P 47 0 [(0, .ref 0), (1, .int (2 : Int32)), (2, .int l1), (3, .int (l7 + l1))] [] M (fun v M' => P 76 30 [(0, .ref 0), (1, .int l1), (2, .int l2), (3, .int l3), (4, .int l4), (5, .int l5), (6, .int l6), (7, .int l7), (8, .int s0)] (v.toList ++ []) M' Q))) :
    P 76 22 [(0, .ref 0), (1, .int l1), (2, .int l2), (3, .int l3), (4, .int l4), (5, .int l5), (6, .int l6), (7, .int l7)] [.int s0] M Q := by
  exact qRun_ok hG (ops := qo_76) (cuts := qc_lw_areDifferences) rfl 230 22 _ _ _ _ hV
set_option maxRecDepth 100000 in
theorem v_lw_areDifferences_209 (hG : qGood Ls xs P) {l1 l2 l3 l5 l6 s0 : Int32} {M : qMem} {Q : qPost}
    (hV : ((¬ s0 = l5 → (narrow .boolean (.int (0 : Int32)) = .int (0 : Int32) ∧ Q (some (.int (0 : Int32))) M)) ∧ (¬ (¬ s0 = l5) → (P 48 0 [(0, .ref 0), (1, .int (4 : Int32)), (2, .int l1)] [] M (fun v M' => P 76 215 [(0, .ref 0), (1, .int l1), (2, .int l2), (3, .int l3), (6, .int l6)] (v.toList ++ []) M' Q))))) :
    P 76 209 [(0, .ref 0), (1, .int l1), (2, .int l2), (3, .int l3), (5, .int l5), (6, .int l6)] [.int s0] M Q := by
  exact qRun_ok hG (ops := qo_76) (cuts := qc_lw_areDifferences) rfl 230 209 _ _ _ _ hV
set_option maxRecDepth 100000 in
theorem v_lw_areDifferences_30 (hG : qGood Ls xs P) {l1 l2 l3 l4 l5 l6 l7 l8 s0 : Int32} {M : qMem} {Q : qPost}
    (hV : (P 47 0 [(0, .ref 0), (1, .int (3 : Int32)), (2, .int l1), (3, .int l7)] [] M (fun v M' => P 76 36 [(0, .ref 0), (1, .int l1), (2, .int l2), (3, .int l3), (4, .int l4), (5, .int l5), (6, .int l6), (7, .int l7), (8, .int l8), (9, .int s0)] (v.toList ++ []) M' Q))) :
    P 76 30 [(0, .ref 0), (1, .int l1), (2, .int l2), (3, .int l3), (4, .int l4), (5, .int l5), (6, .int l6), (7, .int l7), (8, .int l8)] [.int s0] M Q := by
  exact qRun_ok hG (ops := qo_76) (cuts := qc_lw_areDifferences) rfl 230 30 _ _ _ _ hV
set_option maxRecDepth 100000 in
theorem v_lw_areDifferences_215 (hG : qGood Ls xs P) {l1 l2 l3 l6 s0 : Int32} {M : qMem} {Q : qPost}
    (hV : ((¬ s0 = l6 → (narrow .boolean (.int (0 : Int32)) = .int (0 : Int32) ∧ Q (some (.int (0 : Int32))) M)) ∧ (¬ (¬ s0 = l6) → (P 47 0 [(0, .ref 0), (1, .int (2 : Int32)), (2, .int l1), (3, .int l3)] [] M (fun v M' => P 76 222 [(2, .int l2)] (v.toList ++ []) M' Q))))) :
    P 76 215 [(0, .ref 0), (1, .int l1), (2, .int l2), (3, .int l3), (6, .int l6)] [.int s0] M Q := by
  exact qRun_ok hG (ops := qo_76) (cuts := qc_lw_areDifferences) rfl 230 215 _ _ _ _ hV
set_option maxRecDepth 100000 in
theorem v_lw_areDifferences_36 (hG : qGood Ls xs P) {l1 l2 l3 l4 l5 l6 l7 l8 l9 s0 : Int32} {M : qMem} {Q : qPost}
    (hV : (P 47 0 [(0, .ref 0), (1, .int (4 : Int32)), (2, .int l1), (3, .int l7)] [] M (fun v M' => P 76 42 [(0, .ref 0), (1, .int l1), (2, .int l2), (3, .int l3), (4, .int l4), (5, .int l5), (6, .int l6), (7, .int l7), (8, .int l8), (9, .int l9), (10, .int s0)] (v.toList ++ []) M' Q))) :
    P 76 36 [(0, .ref 0), (1, .int l1), (2, .int l2), (3, .int l3), (4, .int l4), (5, .int l5), (6, .int l6), (7, .int l7), (8, .int l8), (9, .int l9)] [.int s0] M Q := by
  exact qRun_ok hG (ops := qo_76) (cuts := qc_lw_areDifferences) rfl 230 36 _ _ _ _ hV
set_option maxRecDepth 100000 in
theorem v_lw_areDifferences_222 (hG : qGood Ls xs P) {l2 s0 : Int32} {M : qMem} {Q : qPost}
    (hV : ((¬ s0 = l2 → (narrow .boolean (.int (0 : Int32)) = .int (0 : Int32) ∧ Q (some (.int (0 : Int32))) M)) ∧ (¬ (¬ s0 = l2) → (narrow .boolean (.int (1 : Int32)) = .int (1 : Int32) ∧ Q (some (.int (1 : Int32))) M)))) :
    P 76 222 [(2, .int l2)] [.int s0] M Q := by
  exact qRun_ok hG (ops := qo_76) (cuts := qc_lw_areDifferences) rfl 230 222 _ _ _ _ hV
set_option maxRecDepth 100000 in
theorem v_lw_areDifferences_42 (hG : qGood Ls xs P) {l1 l2 l3 l4 l5 l6 l7 l8 l9 l10 s0 : Int32} {M : qMem} {Q : qPost}
    (hV : (P 76 49 [(0, .ref 0), (1, .int l1), (2, .int l2), (3, .int l3), (4, .int l4), (5, .int l5), (6, .int l6), (7, .int l7), (8, .int l8), (9, .int l9), (10, .int l10), (11, .int s0), (12, .int (0 : Int32)), (13, .int (1 : Int32)), (14, .int (0 : Int32))] [] M Q)) :
    P 76 42 [(0, .ref 0), (1, .int l1), (2, .int l2), (3, .int l3), (4, .int l4), (5, .int l5), (6, .int l6), (7, .int l7), (8, .int l8), (9, .int l9), (10, .int l10)] [.int s0] M Q := by
  exact qRun_ok hG (ops := qo_76) (cuts := qc_lw_areDifferences) rfl 230 42 _ _ _ _ hV
set_option maxRecDepth 100000 in
theorem v_lw_areDifferences_49 (hG : qGood Ls xs P) {l1 l2 l3 l4 l5 l6 l7 l8 l9 l10 l11 l12 l13 l14 : Int32} {M : qMem} {Q : qPost}
    (hV : ((l1 ≤ l14 → ((l8 = l2 → ((¬ l10 = l2 → (P 76 103 [(0, .ref 0), (1, .int l1), (2, .int l2), (3, .int l3), (4, .int l4), (5, .int l5), (6, .int l6), (7, .int l7), (8, .int l8), (10, .int l10), (11, .int l11), (14, .int (0 : Int32))] [] M Q)) ∧ (¬ (¬ l10 = l2) → (P 76 92 [(0, .ref 0), (1, .int l1), (2, .int l2), (3, .int l3), (4, .int l4), (5, .int l5), (6, .int l6), (7, .int l7), (8, .int l8), (10, .int l10), (11, .int l11), (12, .int l12), (13, .int l13)] [] M Q)))) ∧ (¬ (l8 = l2) → ((¬ l9 = l2 → ((¬ l10 = (l9 - l8) → (P 76 103 [(0, .ref 0), (1, .int l1), (2, .int l2), (3, .int l3), (4, .int l4), (5, .int l5), (6, .int l6), (7, .int l7), (8, .int l8), (10, .int l10), (11, .int l11), (14, .int (0 : Int32))] [] M Q)) ∧ (¬ (¬ l10 = (l9 - l8)) → (P 76 92 [(0, .ref 0), (1, .int l1), (2, .int l2), (3, .int l3), (4, .int l4), (5, .int l5), (6, .int l6), (7, .int l7), (8, .int l8), (10, .int l10), (11, .int l11), (12, .int l12), (13, .int l13)] [] M Q)))) ∧ (¬ (¬ l9 = l2) → ((¬ l10 = l2 → (P 76 103 [(0, .ref 0), (1, .int l1), (2, .int l2), (3, .int l3), (4, .int l4), (5, .int l5), (6, .int l6), (7, .int l7), (8, .int l8), (10, .int l10), (11, .int l11), (14, .int (0 : Int32))] [] M Q)) ∧ (¬ (¬ l10 = l2) → (P 76 92 [(0, .ref 0), (1, .int l1), (2, .int l2), (3, .int l3), (4, .int l4), (5, .int l5), (6, .int l6), (7, .int l7), (8, .int l8), (10, .int l10), (11, .int l11), (12, .int l12), (13, .int l13)] [] M Q)))))))) ∧ (¬ (l1 ≤ l14) → (P 47 0 [(0, .ref 0), (1, .int (2 : Int32)), (2, .int l1), (3, .int (l7 + l14))] [] M (fun v M' => P 76 59 [(0, .ref 0), (1, .int l1), (2, .int l2), (3, .int l3), (4, .int l4), (5, .int l5), (6, .int l6), (7, .int l7), (8, .int l8), (9, .int l9), (10, .int l10), (11, .int l11), (12, .int l12), (13, .int l13), (14, .int l14)] (v.toList ++ []) M' Q))))) :
    P 76 49 [(0, .ref 0), (1, .int l1), (2, .int l2), (3, .int l3), (4, .int l4), (5, .int l5), (6, .int l6), (7, .int l7), (8, .int l8), (9, .int l9), (10, .int l10), (11, .int l11), (12, .int l12), (13, .int l13), (14, .int l14)] [] M Q := by
  exact qRun_ok hG (ops := qo_76) (cuts := qc_lw_areDifferences) rfl 230 49 _ _ _ _ hV
set_option maxRecDepth 100000 in
theorem v_lw_areDifferences_103 (hG : qGood Ls xs P) {l1 l2 l3 l4 l5 l6 l7 l8 l10 l11 l14 : Int32} {M : qMem} {Q : qPost}
    (hV : ((l3 ≤ (l7 + ((2 : Int32) * l1)) → (P 76 135 [(0, .ref 0), (1, .int l1), (2, .int l2), (3, .int l3), (4, .int l4), (5, .int l5), (6, .int l6), (7, .int l7), (8, .int l8), (10, .int l10), (11, .int l11), (14, .int l14), (15, .int (0 : Int32))] [] M Q)) ∧ (¬ (l3 ≤ (l7 + ((2 : Int32) * l1))) → (P 46 0 [(0, .ref 0), (1, .int l7)] [] M (fun v M' => P 76 113 [(0, .ref 0), (1, .int l1), (2, .int l2), (3, .int l3), (4, .int l4), (5, .int l5), (6, .int l6), (7, .int l7), (8, .int l8), (10, .int l10), (11, .int l11), (14, .int l14)] (v.toList ++ []) M' Q))))) :
    P 76 103 [(0, .ref 0), (1, .int l1), (2, .int l2), (3, .int l3), (4, .int l4), (5, .int l5), (6, .int l6), (7, .int l7), (8, .int l8), (10, .int l10), (11, .int l11), (14, .int l14)] [] M Q := by
  exact qRun_ok hG (ops := qo_76) (cuts := qc_lw_areDifferences) rfl 230 103 _ _ _ _ hV
set_option maxRecDepth 100000 in
theorem v_lw_areDifferences_92 (hG : qGood Ls xs P) {l1 l2 l3 l4 l5 l6 l7 l8 l10 l11 l12 l13 : Int32} {M : qMem} {Q : qPost}
    (hV : ((l13 = 0 → ((¬ l11 = l2 → (P 76 103 [(0, .ref 0), (1, .int l1), (2, .int l2), (3, .int l3), (4, .int l4), (5, .int l5), (6, .int l6), (7, .int l7), (8, .int l8), (10, .int l10), (11, .int l11), (14, .int (0 : Int32))] [] M Q)) ∧ (¬ (¬ l11 = l2) → (P 76 103 [(0, .ref 0), (1, .int l1), (2, .int l2), (3, .int l3), (4, .int l4), (5, .int l5), (6, .int l6), (7, .int l7), (8, .int l8), (10, .int l10), (11, .int l11), (14, .int (1 : Int32))] [] M Q)))) ∧ (¬ (l13 = 0) → ((¬ l11 = l12 → (P 76 103 [(0, .ref 0), (1, .int l1), (2, .int l2), (3, .int l3), (4, .int l4), (5, .int l5), (6, .int l6), (7, .int l7), (8, .int l8), (10, .int l10), (11, .int l11), (14, .int (0 : Int32))] [] M Q)) ∧ (¬ (¬ l11 = l12) → (P 76 103 [(0, .ref 0), (1, .int l1), (2, .int l2), (3, .int l3), (4, .int l4), (5, .int l5), (6, .int l6), (7, .int l7), (8, .int l8), (10, .int l10), (11, .int l11), (14, .int (1 : Int32))] [] M Q)))))) :
    P 76 92 [(0, .ref 0), (1, .int l1), (2, .int l2), (3, .int l3), (4, .int l4), (5, .int l5), (6, .int l6), (7, .int l7), (8, .int l8), (10, .int l10), (11, .int l11), (12, .int l12), (13, .int l13)] [] M Q := by
  exact qRun_ok hG (ops := qo_76) (cuts := qc_lw_areDifferences) rfl 230 92 _ _ _ _ hV
set_option maxRecDepth 100000 in
theorem v_lw_areDifferences_59 (hG : qGood Ls xs P) {l1 l2 l3 l4 l5 l6 l7 l8 l9 l10 l11 l12 l13 l14 s0 : Int32} {M : qMem} {Q : qPost}
    (hV : ((l13 = 0 → (P 76 69 [(0, .ref 0), (1, .int l1), (2, .int l2), (3, .int l3), (4, .int l4), (5, .int l5), (6, .int l6), (7, .int l7), (8, .int l8), (9, .int l9), (10, .int l10), (11, .int l11), (12, .int l12), (13, .int (0 : Int32)), (14, .int l14), (15, .int s0)] [] M Q)) ∧ (¬ (l13 = 0) → ((s0 = l2 → (P 76 69 [(0, .ref 0), (1, .int l1), (2, .int l2), (3, .int l3), (4, .int l4), (5, .int l5), (6, .int l6), (7, .int l7), (8, .int l8), (9, .int l9), (10, .int l10), (11, .int l11), (12, .int l12), (13, .int (0 : Int32)), (14, .int l14), (15, .int s0)] [] M Q)) ∧ (¬ (s0 = l2) → (P 76 69 [(0, .ref 0), (1, .int l1), (2, .int l2), (3, .int l3), (4, .int l4), (5, .int l5), (6, .int l6), (7, .int l7), (8, .int l8), (9, .int l9), (10, .int l10), (11, .int l11), (12, .int l12), (13, .int (1 : Int32)), (14, .int l14), (15, .int s0)] [] M Q)))))) :
    P 76 59 [(0, .ref 0), (1, .int l1), (2, .int l2), (3, .int l3), (4, .int l4), (5, .int l5), (6, .int l6), (7, .int l7), (8, .int l8), (9, .int l9), (10, .int l10), (11, .int l11), (12, .int l12), (13, .int l13), (14, .int l14)] [.int s0] M Q := by
  exact qRun_ok hG (ops := qo_76) (cuts := qc_lw_areDifferences) rfl 230 59 _ _ _ _ hV
set_option maxRecDepth 100000 in
theorem v_lw_areDifferences_135 (hG : qGood Ls xs P) {l1 l2 l3 l4 l5 l6 l7 l8 l10 l11 l14 l15 : Int32} {M : qMem} {Q : qPost}
    (hV : ((l14 = 0 → (narrow .boolean (.int (0 : Int32)) = .int (0 : Int32) ∧ Q (some (.int (0 : Int32))) M)) ∧ (¬ (l14 = 0) → ((l8 = l2 → ((¬ l15 = (0 : Int32) → (narrow .boolean (.int (0 : Int32)) = .int (0 : Int32) ∧ Q (some (.int (0 : Int32))) M)) ∧ (¬ (¬ l15 = (0 : Int32)) → ((l15 = 0 → (P 76 170 [(0, .ref 0), (1, .int l1), (2, .int l2), (3, .int l3), (4, .int l4), (5, .int l5), (6, .int l6), (7, .int l7), (8, .int l8), (10, .int l10), (11, .int l11)] [] M Q)) ∧ (¬ (l15 = 0) → (P 46 0 [(0, .ref 0), (1, .int (l7 + ((2 : Int32) * l1)))] [] M (fun v M' => P 76 155 [(0, .ref 0), (1, .int l1), (2, .int l2), (3, .int l3), (4, .int l4), (5, .int l5), (6, .int l6), (7, .int l7), (8, .int l8), (10, .int l10), (11, .int l11)] (v.toList ++ [.int l8]) M' Q))))))) ∧ (¬ (l8 = l2) → ((¬ l15 = (1 : Int32) → (narrow .boolean (.int (0 : Int32)) = .int (0 : Int32) ∧ Q (some (.int (0 : Int32))) M)) ∧ (¬ (¬ l15 = (1 : Int32)) → ((l15 = 0 → (P 76 170 [(0, .ref 0), (1, .int l1), (2, .int l2), (3, .int l3), (4, .int l4), (5, .int l5), (6, .int l6), (7, .int l7), (8, .int l8), (10, .int l10), (11, .int l11)] [] M Q)) ∧ (¬ (l15 = 0) → (P 46 0 [(0, .ref 0), (1, .int (l7 + ((2 : Int32) * l1)))] [] M (fun v M' => P 76 155 [(0, .ref 0), (1, .int l1), (2, .int l2), (3, .int l3), (4, .int l4), (5, .int l5), (6, .int l6), (7, .int l7), (8, .int l8), (10, .int l10), (11, .int l11)] (v.toList ++ [.int l8]) M' Q))))))))))) :
    P 76 135 [(0, .ref 0), (1, .int l1), (2, .int l2), (3, .int l3), (4, .int l4), (5, .int l5), (6, .int l6), (7, .int l7), (8, .int l8), (10, .int l10), (11, .int l11), (14, .int l14), (15, .int l15)] [] M Q := by
  exact qRun_ok hG (ops := qo_76) (cuts := qc_lw_areDifferences) rfl 230 135 _ _ _ _ hV
set_option maxRecDepth 100000 in
theorem v_lw_areDifferences_113 (hG : qGood Ls xs P) {l1 l2 l3 l4 l5 l6 l7 l8 l10 l11 l14 s0 : Int32} {M : qMem} {Q : qPost}
    (hV : ((s0 = l2 → (P 76 135 [(0, .ref 0), (1, .int l1), (2, .int l2), (3, .int l3), (4, .int l4), (5, .int l5), (6, .int l6), (7, .int l7), (8, .int l8), (10, .int l10), (11, .int l11), (14, .int l14), (15, .int (0 : Int32))] [] M Q)) ∧ (¬ (s0 = l2) → (P 46 0 [(0, .ref 0), (1, .int (l7 + l1))] [] M (fun v M' => P 76 120 [(0, .ref 0), (1, .int l1), (2, .int l2), (3, .int l3), (4, .int l4), (5, .int l5), (6, .int l6), (7, .int l7), (8, .int l8), (10, .int l10), (11, .int l11), (14, .int l14)] (v.toList ++ []) M' Q))))) :
    P 76 113 [(0, .ref 0), (1, .int l1), (2, .int l2), (3, .int l3), (4, .int l4), (5, .int l5), (6, .int l6), (7, .int l7), (8, .int l8), (10, .int l10), (11, .int l11), (14, .int l14)] [.int s0] M Q := by
  exact qRun_ok hG (ops := qo_76) (cuts := qc_lw_areDifferences) rfl 230 113 _ _ _ _ hV
set_option maxRecDepth 100000 in
theorem v_lw_areDifferences_69 (hG : qGood Ls xs P) {l1 l2 l3 l4 l5 l6 l7 l8 l9 l10 l11 l12 l13 l14 l15 : Int32} {M : qMem} {Q : qPost}
    (hV : ((l13 = 0 → (P 76 77 [(0, .ref 0), (1, .int l1), (2, .int l2), (3, .int l3), (4, .int l4), (5, .int l5), (6, .int l6), (7, .int l7), (8, .int l8), (9, .int l9), (10, .int l10), (11, .int l11), (12, .int l12), (13, .int l13), (14, .int l14)] [] M Q)) ∧ (¬ (l13 = 0) → (P 76 77 [(0, .ref 0), (1, .int l1), (2, .int l2), (3, .int l3), (4, .int l4), (5, .int l5), (6, .int l6), (7, .int l7), (8, .int l8), (9, .int l9), (10, .int l10), (11, .int l11), (12, .int (l12 + l15)), (13, .int l13), (14, .int l14)] [] M Q)))) :
    P 76 69 [(0, .ref 0), (1, .int l1), (2, .int l2), (3, .int l3), (4, .int l4), (5, .int l5), (6, .int l6), (7, .int l7), (8, .int l8), (9, .int l9), (10, .int l10), (11, .int l11), (12, .int l12), (13, .int l13), (14, .int l14), (15, .int l15)] [] M Q := by
  exact qRun_ok hG (ops := qo_76) (cuts := qc_lw_areDifferences) rfl 230 69 _ _ _ _ hV
set_option maxRecDepth 100000 in
theorem v_lw_areDifferences_170 (hG : qGood Ls xs P) {l1 l2 l3 l4 l5 l6 l7 l8 l10 l11 : Int32} {M : qMem} {Q : qPost}
    (hV : ((l8 = l2 → (P 76 179 [(0, .ref 0), (1, .int l1), (2, .int l2), (3, .int l3), (4, .int l4), (5, .int l5), (6, .int l6), (7, .int l7), (10, .int l10), (11, .int l11)] [] M Q)) ∧ (¬ (l8 = l2) → (P 76 179 [(0, .ref 0), (1, .int l1), (2, .int l2), (3, .int l3), (4, .int (l4 + (1 : Int32))), (5, .int l5), (6, .int l6), (7, .int l7), (10, .int l10), (11, .int l11)] [] M Q)))) :
    P 76 170 [(0, .ref 0), (1, .int l1), (2, .int l2), (3, .int l3), (4, .int l4), (5, .int l5), (6, .int l6), (7, .int l7), (8, .int l8), (10, .int l10), (11, .int l11)] [] M Q := by
  exact qRun_ok hG (ops := qo_76) (cuts := qc_lw_areDifferences) rfl 230 170 _ _ _ _ hV
set_option maxRecDepth 100000 in
theorem v_lw_areDifferences_155 (hG : qGood Ls xs P) {l1 l2 l3 l4 l5 l6 l7 l8 l10 l11 s0 s1 : Int32} {M : qMem} {Q : qPost}
    (hV : (P 46 0 [(0, .ref 0), (1, .int (l7 + l1))] [] M (fun v M' => P 76 161 [(0, .ref 0), (1, .int l1), (2, .int l2), (3, .int l3), (4, .int l4), (5, .int l5), (6, .int l6), (7, .int l7), (8, .int l8), (10, .int l10), (11, .int l11)] (v.toList ++ [.int (2 : Int32), .int s0, .int s1]) M' Q))) :
    P 76 155 [(0, .ref 0), (1, .int l1), (2, .int l2), (3, .int l3), (4, .int l4), (5, .int l5), (6, .int l6), (7, .int l7), (8, .int l8), (10, .int l10), (11, .int l11)] [.int s0, .int s1] M Q := by
  exact qRun_ok hG (ops := qo_76) (cuts := qc_lw_areDifferences) rfl 230 155 _ _ _ _ hV
set_option maxRecDepth 100000 in
theorem v_lw_areDifferences_120 (hG : qGood Ls xs P) {l1 l2 l3 l4 l5 l6 l7 l8 l10 l11 l14 s0 : Int32} {M : qMem} {Q : qPost}
    (hV : ((s0 = l2 → (P 76 135 [(0, .ref 0), (1, .int l1), (2, .int l2), (3, .int l3), (4, .int l4), (5, .int l5), (6, .int l6), (7, .int l7), (8, .int l8), (10, .int l10), (11, .int l11), (14, .int l14), (15, .int (0 : Int32))] [] M Q)) ∧ (¬ (s0 = l2) → (P 46 0 [(0, .ref 0), (1, .int (l7 + ((2 : Int32) * l1)))] [] M (fun v M' => P 76 129 [(0, .ref 0), (1, .int l1), (2, .int l2), (3, .int l3), (4, .int l4), (5, .int l5), (6, .int l6), (7, .int l7), (8, .int l8), (10, .int l10), (11, .int l11), (14, .int l14)] (v.toList ++ []) M' Q))))) :
    P 76 120 [(0, .ref 0), (1, .int l1), (2, .int l2), (3, .int l3), (4, .int l4), (5, .int l5), (6, .int l6), (7, .int l7), (8, .int l8), (10, .int l10), (11, .int l11), (14, .int l14)] [.int s0] M Q := by
  exact qRun_ok hG (ops := qo_76) (cuts := qc_lw_areDifferences) rfl 230 120 _ _ _ _ hV
set_option maxRecDepth 100000 in
theorem v_lw_areDifferences_77 (hG : qGood Ls xs P) {l1 l2 l3 l4 l5 l6 l7 l8 l9 l10 l11 l12 l13 l14 : Int32} {M : qMem} {Q : qPost}
    (hV : (P 76 49 [(0, .ref 0), (1, .int l1), (2, .int l2), (3, .int l3), (4, .int l4), (5, .int l5), (6, .int l6), (7, .int l7), (8, .int l8), (9, .int l9), (10, .int l10), (11, .int l11), (12, .int l12), (13, .int l13), (14, .int (l14 + (1 : Int32)))] [] M Q)) :
    P 76 77 [(0, .ref 0), (1, .int l1), (2, .int l2), (3, .int l3), (4, .int l4), (5, .int l5), (6, .int l6), (7, .int l7), (8, .int l8), (9, .int l9), (10, .int l10), (11, .int l11), (12, .int l12), (13, .int l13), (14, .int l14)] [] M Q := by
  exact qRun_ok hG (ops := qo_76) (cuts := qc_lw_areDifferences) rfl 230 77 _ _ _ _ hV
set_option maxRecDepth 100000 in
theorem v_lw_areDifferences_179 (hG : qGood Ls xs P) {l1 l2 l3 l4 l5 l6 l7 l10 l11 : Int32} {M : qMem} {Q : qPost}
    (hV : ((l10 = l2 → (P 76 188 [(0, .ref 0), (1, .int l1), (2, .int l2), (3, .int l3), (4, .int l4), (5, .int l5), (6, .int l6), (7, .int l7), (11, .int l11)] [] M Q)) ∧ (¬ (l10 = l2) → (P 76 188 [(0, .ref 0), (1, .int l1), (2, .int l2), (3, .int l3), (4, .int l4), (5, .int (l5 + (1 : Int32))), (6, .int l6), (7, .int l7), (11, .int l11)] [] M Q)))) :
    P 76 179 [(0, .ref 0), (1, .int l1), (2, .int l2), (3, .int l3), (4, .int l4), (5, .int l5), (6, .int l6), (7, .int l7), (10, .int l10), (11, .int l11)] [] M Q := by
  exact qRun_ok hG (ops := qo_76) (cuts := qc_lw_areDifferences) rfl 230 179 _ _ _ _ hV
set_option maxRecDepth 100000 in
theorem v_lw_areDifferences_161 (hG : qGood Ls xs P) {l1 l2 l3 l4 l5 l6 l7 l8 l10 l11 s0 s1 s2 s3 : Int32} {M : qMem} {Q : qPost}
    (hV : (P 46 0 [(0, .ref 0), (1, .int l7)] [] M (fun v M' => P 76 166 [(0, .ref 0), (1, .int l1), (2, .int l2), (3, .int l3), (4, .int l4), (5, .int l5), (6, .int l6), (7, .int l7), (8, .int l8), (10, .int l10), (11, .int l11)] (v.toList ++ [.int (s2 - (s1 * s0)), .int s3]) M' Q))) :
    P 76 161 [(0, .ref 0), (1, .int l1), (2, .int l2), (3, .int l3), (4, .int l4), (5, .int l5), (6, .int l6), (7, .int l7), (8, .int l8), (10, .int l10), (11, .int l11)] [.int s0, .int s1, .int s2, .int s3] M Q := by
  exact qRun_ok hG (ops := qo_76) (cuts := qc_lw_areDifferences) rfl 230 161 _ _ _ _ hV
set_option maxRecDepth 100000 in
theorem v_lw_areDifferences_129 (hG : qGood Ls xs P) {l1 l2 l3 l4 l5 l6 l7 l8 l10 l11 l14 s0 : Int32} {M : qMem} {Q : qPost}
    (hV : ((s0 = l2 → (P 76 135 [(0, .ref 0), (1, .int l1), (2, .int l2), (3, .int l3), (4, .int l4), (5, .int l5), (6, .int l6), (7, .int l7), (8, .int l8), (10, .int l10), (11, .int l11), (14, .int l14), (15, .int (0 : Int32))] [] M Q)) ∧ (¬ (s0 = l2) → (P 76 135 [(0, .ref 0), (1, .int l1), (2, .int l2), (3, .int l3), (4, .int l4), (5, .int l5), (6, .int l6), (7, .int l7), (8, .int l8), (10, .int l10), (11, .int l11), (14, .int l14), (15, .int (1 : Int32))] [] M Q)))) :
    P 76 129 [(0, .ref 0), (1, .int l1), (2, .int l2), (3, .int l3), (4, .int l4), (5, .int l5), (6, .int l6), (7, .int l7), (8, .int l8), (10, .int l10), (11, .int l11), (14, .int l14)] [.int s0] M Q := by
  exact qRun_ok hG (ops := qo_76) (cuts := qc_lw_areDifferences) rfl 230 129 _ _ _ _ hV
set_option maxRecDepth 100000 in
theorem v_lw_areDifferences_188 (hG : qGood Ls xs P) {l1 l2 l3 l4 l5 l6 l7 l11 : Int32} {M : qMem} {Q : qPost}
    (hV : ((l11 = l2 → (P 76 197 [(0, .ref 0), (1, .int l1), (2, .int l2), (3, .int l3), (4, .int l4), (5, .int l5), (6, .int l6), (7, .int l7)] [] M Q)) ∧ (¬ (l11 = l2) → (P 76 197 [(0, .ref 0), (1, .int l1), (2, .int l2), (3, .int l3), (4, .int l4), (5, .int l5), (6, .int (l6 + (1 : Int32))), (7, .int l7)] [] M Q)))) :
    P 76 188 [(0, .ref 0), (1, .int l1), (2, .int l2), (3, .int l3), (4, .int l4), (5, .int l5), (6, .int l6), (7, .int l7), (11, .int l11)] [] M Q := by
  exact qRun_ok hG (ops := qo_76) (cuts := qc_lw_areDifferences) rfl 230 188 _ _ _ _ hV
set_option maxRecDepth 100000 in
theorem v_lw_areDifferences_166 (hG : qGood Ls xs P) {l1 l2 l3 l4 l5 l6 l7 l8 l10 l11 s0 s1 s2 : Int32} {M : qMem} {Q : qPost}
    (hV : ((s2 = (s1 + s0) → (P 76 170 [(0, .ref 0), (1, .int l1), (2, .int l2), (3, .int l3), (4, .int l4), (5, .int l5), (6, .int l6), (7, .int l7), (8, .int l8), (10, .int l10), (11, .int l11)] [] M Q)) ∧ (¬ (s2 = (s1 + s0)) → (narrow .boolean (.int (0 : Int32)) = .int (0 : Int32) ∧ Q (some (.int (0 : Int32))) M)))) :
    P 76 166 [(0, .ref 0), (1, .int l1), (2, .int l2), (3, .int l3), (4, .int l4), (5, .int l5), (6, .int l6), (7, .int l7), (8, .int l8), (10, .int l10), (11, .int l11)] [.int s0, .int s1, .int s2] M Q := by
  exact qRun_ok hG (ops := qo_76) (cuts := qc_lw_areDifferences) rfl 230 166 _ _ _ _ hV
set_option maxRecDepth 100000 in
theorem v_lw_areDifferences_197 (hG : qGood Ls xs P) {l1 l2 l3 l4 l5 l6 l7 : Int32} {M : qMem} {Q : qPost}
    (hV : (P 76 14 [(0, .ref 0), (1, .int l1), (2, .int l2), (3, .int l3), (4, .int l4), (5, .int l5), (6, .int l6), (7, .int (l7 + (1 : Int32)))] [] M Q)) :
    P 76 197 [(0, .ref 0), (1, .int l1), (2, .int l2), (3, .int l3), (4, .int l4), (5, .int l5), (6, .int l6), (7, .int l7)] [] M Q := by
  exact qRun_ok hG (ops := qo_76) (cuts := qc_lw_areDifferences) rfl 230 197 _ _ _ _ hV
def qc_lw_isVariance : List (Nat × List Nat) := [(5, [0, 1, 2]), (11, [0, 1, 2, 3]), (27, [0, 1, 2, 3, 5]), (40, [0, 1, 2]), (48, []), (58, [0, 1, 2, 3, 5, 8, 10]), (75, [0, 1, 2, 3, 5, 8]), (90, [0, 1, 2, 3, 5, 8, 12, 14]), (127, [0, 1, 2, 3, 5]), (132, [0, 1, 2, 3, 5, 16]), (140, [0, 1, 2, 3, 5, 16]), (146, [0, 1, 2, 3, 5, 16, 17]), (163, [0, 1, 2, 3, 5, 16, 21, 23, 25, 27]), (176, [0, 1, 2, 3, 5, 16, 21, 23, 25]), (194, [0, 1, 2, 3, 5, 16]), (208, [0, 5]), (216, [])]
set_option maxRecDepth 100000 in
theorem v_lw_isVariance_0 (hG : qGood Ls xs P) {l1 l2 : Int32} {M : qMem} {Q : qPost}
    (hV : (P 49 0 [(0, .ref 0), (1, .int l1), (2, .int l2), (3, .int (0 : Int32))] [] M (fun v M' => P 77 5 [(0, .ref 0), (1, .int l1), (2, .int l2)] (v.toList ++ []) M' Q))) :
    P 77 0 [(0, .ref 0), (1, .int l1), (2, .int l2)] [] M Q := by
  exact qRun_ok hG (ops := qo_77) (cuts := qc_lw_isVariance) rfl 224 0 _ _ _ _ hV
set_option maxRecDepth 100000 in
theorem v_lw_isVariance_5 (hG : qGood Ls xs P) {s0 : Int64} {l1 l2 : Int32} {M : qMem} {Q : qPost}
    (hV : (P 49 0 [(0, .ref 0), (1, .int l1), (2, .int l2), (3, .int (1 : Int32))] [] M (fun v M' => P 77 11 [(0, .ref 0), (1, .int l1), (2, .int l2), (3, .long s0)] (v.toList ++ []) M' Q))) :
    P 77 5 [(0, .ref 0), (1, .int l1), (2, .int l2)] [.long s0] M Q := by
  exact qRun_ok hG (ops := qo_77) (cuts := qc_lw_isVariance) rfl 224 5 _ _ _ _ hV
set_option maxRecDepth 100000 in
theorem v_lw_isVariance_11 (hG : qGood Ls xs P) {l3 s0 : Int64} {l1 l2 : Int32} {M : qMem} {Q : qPost}
    (hV : ((¬ l1 = 0 → ((¬ l1 = (1 : Int32) → (P 48 0 [(0, .ref 0), (1, .int (4 : Int32)), (2, .int l2)] [] M (fun v M' => P 77 27 [(0, .ref 0), (1, .int l1), (2, .int l2), (3, .long l3), (5, .long s0)] (v.toList ++ []) M' Q))) ∧ (¬ (¬ l1 = (1 : Int32)) → (P 48 0 [(0, .ref 0), (1, .int (3 : Int32)), (2, .int l2)] [] M (fun v M' => P 77 27 [(0, .ref 0), (1, .int l1), (2, .int l2), (3, .long l3), (5, .long s0)] (v.toList ++ []) M' Q))))) ∧ (¬ (¬ l1 = 0) → (P 48 0 [(0, .ref 0), (1, .int (2 : Int32)), (2, .int l2)] [] M (fun v M' => P 77 27 [(0, .ref 0), (1, .int l1), (2, .int l2), (3, .long l3), (5, .long s0)] (v.toList ++ []) M' Q))))) :
    P 77 11 [(0, .ref 0), (1, .int l1), (2, .int l2), (3, .long l3)] [.long s0] M Q := by
  exact qRun_ok hG (ops := qo_77) (cuts := qc_lw_isVariance) rfl 224 11 _ _ _ _ hV
set_option maxRecDepth 100000 in
theorem v_lw_isVariance_27 (hG : qGood Ls xs P) {l3 l5 : Int64} {l1 l2 s0 : Int32} {M : qMem} {Q : qPost}
    (hV : ((¬ s0 = 0 → (P 77 58 [(0, .ref 0), (1, .int l1), (2, .int l2), (3, .long l3), (5, .long l5), (8, .long l3), (10, .long l5)] [] M Q)) ∧ (¬ (¬ s0 = 0) → ((¬ (lg_cmp l3 (-1000000001 : Int64)) = 0 → (narrow .boolean (.int (0 : Int32)) = .int (0 : Int32) ∧ Q (some (.int (0 : Int32))) M)) ∧ (¬ (¬ (lg_cmp l3 (-1000000001 : Int64)) = 0) → ((¬ (lg_cmp l5 (-1000000001 : Int64)) = 0 → (narrow .boolean (.int (0 : Int32)) = .int (0 : Int32) ∧ Q (some (.int (0 : Int32))) M)) ∧ (¬ (¬ (lg_cmp l5 (-1000000001 : Int64)) = 0) → (P 50 0 [(0, .ref 0), (1, .int l1), (2, .int l2)] [] M (fun v M' => P 77 40 [(0, .ref 0), (1, .int l1), (2, .int l2)] (v.toList ++ []) M' Q))))))))) :
    P 77 27 [(0, .ref 0), (1, .int l1), (2, .int l2), (3, .long l3), (5, .long l5)] [.int s0] M Q := by
  exact qRun_ok hG (ops := qo_77) (cuts := qc_lw_isVariance) rfl 224 27 _ _ _ _ hV
set_option maxRecDepth 100000 in
theorem v_lw_isVariance_58 (hG : qGood Ls xs P) {l3 l5 l8 l10 : Int64} {l1 l2 : Int32} {M : qMem} {Q : qPost}
    (hV : (((lg_cmp l10 (0 : Int64)) = 0 → (P 50 0 [(0, .ref 0), (1, .int l1), (2, .int l2)] [] M (fun v M' => P 77 75 [(0, .ref 0), (1, .int l1), (2, .int l2), (3, .long l3), (5, .long l5), (8, .long l8)] (v.toList ++ []) M' Q))) ∧ (¬ ((lg_cmp l10 (0 : Int64)) = 0) → (¬ l10 = 0 ∧ (P 77 58 [(0, .ref 0), (1, .int l1), (2, .int l2), (3, .long l3), (5, .long l5), (8, .long l10), (10, .long (l8 - l8 / l10 * l10))] [] M Q))))) :
    P 77 58 [(0, .ref 0), (1, .int l1), (2, .int l2), (3, .long l3), (5, .long l5), (8, .long l8), (10, .long l10)] [] M Q := by
  exact qRun_ok hG (ops := qo_77) (cuts := qc_lw_isVariance) rfl 224 58 _ _ _ _ hV
set_option maxRecDepth 100000 in
theorem v_lw_isVariance_40 (hG : qGood Ls xs P) {s0 : Int64} {l1 l2 : Int32} {M : qMem} {Q : qPost}
    (hV : ((¬ (lg_cmp s0 (-1000000001 : Int64)) = 0 → (narrow .boolean (.int (0 : Int32)) = .int (0 : Int32) ∧ Q (some (.int (0 : Int32))) M)) ∧ (¬ (¬ (lg_cmp s0 (-1000000001 : Int64)) = 0) → (P 51 0 [(0, .ref 0), (1, .int l1), (2, .int l2), (3, .int l2)] [] M (fun v M' => P 77 48 [] (v.toList ++ []) M' Q))))) :
    P 77 40 [(0, .ref 0), (1, .int l1), (2, .int l2)] [.long s0] M Q := by
  exact qRun_ok hG (ops := qo_77) (cuts := qc_lw_isVariance) rfl 224 40 _ _ _ _ hV
set_option maxRecDepth 100000 in
theorem v_lw_isVariance_75 (hG : qGood Ls xs P) {l3 l5 l8 s0 : Int64} {l1 l2 : Int32} {M : qMem} {Q : qPost}
    (hV : (¬ l5 = 0 ∧ (¬ l5 = 0 ∧ (¬ l5 = 0 ∧ (P 77 90 [(0, .ref 0), (1, .int l1), (2, .int l2), (3, .long l3), (5, .long l5), (8, .long l8), (12, .long s0), (14, .long (((l3 / l5) * (1000000 : Int64)) + (((l3 - l3 / l5 * l5) * (1000000 : Int64)) / l5)))] [] M Q))))) :
    P 77 75 [(0, .ref 0), (1, .int l1), (2, .int l2), (3, .long l3), (5, .long l5), (8, .long l8)] [.long s0] M Q := by
  exact qRun_ok hG (ops := qo_77) (cuts := qc_lw_isVariance) rfl 224 75 _ _ _ _ hV
set_option maxRecDepth 100000 in
theorem v_lw_isVariance_48 (hG : qGood Ls xs P) {s0 : Int32} {M : qMem} {Q : qPost}
    (hV : ((¬ s0 = (-1000000001 : Int32) → (narrow .boolean (.int (0 : Int32)) = .int (0 : Int32) ∧ Q (some (.int (0 : Int32))) M)) ∧ (¬ (¬ s0 = (-1000000001 : Int32)) → (narrow .boolean (.int (1 : Int32)) = .int (1 : Int32) ∧ Q (some (.int (1 : Int32))) M)))) :
    P 77 48 [] [.int s0] M Q := by
  exact qRun_ok hG (ops := qo_77) (cuts := qc_lw_isVariance) rfl 224 48 _ _ _ _ hV
set_option maxRecDepth 100000 in
theorem v_lw_isVariance_90 (hG : qGood Ls xs P) {l3 l5 l8 l12 l14 : Int64} {l1 l2 : Int32} {M : qMem} {Q : qPost}
    (hV : (((lg_cmp l3 (0 : Int64)) < 0 → (P 77 132 [(0, .ref 0), (1, .int l1), (2, .int l2), (3, .long l3), (5, .long l5), (16, .int (0 : Int32))] [] M Q)) ∧ (¬ ((lg_cmp l3 (0 : Int64)) < 0) → (((lg_cmp l5 (0 : Int64)) ≤ 0 → (P 77 132 [(0, .ref 0), (1, .int l1), (2, .int l2), (3, .long l3), (5, .long l5), (16, .int (0 : Int32))] [] M Q)) ∧ (¬ ((lg_cmp l5 (0 : Int64)) ≤ 0) → ((¬ (lg_cmp l8 (1 : Int64)) = 0 → (P 77 132 [(0, .ref 0), (1, .int l1), (2, .int l2), (3, .long l3), (5, .long l5), (16, .int (0 : Int32))] [] M Q)) ∧ (¬ (¬ (lg_cmp l8 (1 : Int64)) = 0) → (((lg_cmp l12 (0 : Int64)) < 0 → (P 77 132 [(0, .ref 0), (1, .int l1), (2, .int l2), (3, .long l3), (5, .long l5), (16, .int (0 : Int32))] [] M Q)) ∧ (¬ ((lg_cmp l12 (0 : Int64)) < 0) → ((0 < (lg_cmp (l12 * l12) l14) → (P 77 132 [(0, .ref 0), (1, .int l1), (2, .int l2), (3, .long l3), (5, .long l5), (16, .int (0 : Int32))] [] M Q)) ∧ (¬ (0 < (lg_cmp (l12 * l12) l14)) → (((lg_cmp ((l12 + (1 : Int64)) * (l12 + (1 : Int64))) l14) ≤ 0 → (P 77 132 [(0, .ref 0), (1, .int l1), (2, .int l2), (3, .long l3), (5, .long l5), (16, .int (0 : Int32))] [] M Q)) ∧ (¬ ((lg_cmp ((l12 + (1 : Int64)) * (l12 + (1 : Int64))) l14) ≤ 0) → (P 51 0 [(0, .ref 0), (1, .int l1), (2, .int l2), (3, .int l2)] [] M (fun v M' => P 77 127 [(0, .ref 0), (1, .int l1), (2, .int l2), (3, .long l3), (5, .long l5)] (v.toList ++ []) M' Q))))))))))))))) :
    P 77 90 [(0, .ref 0), (1, .int l1), (2, .int l2), (3, .long l3), (5, .long l5), (8, .long l8), (12, .long l12), (14, .long l14)] [] M Q := by
  exact qRun_ok hG (ops := qo_77) (cuts := qc_lw_isVariance) rfl 224 90 _ _ _ _ hV
set_option maxRecDepth 100000 in
theorem v_lw_isVariance_132 (hG : qGood Ls xs P) {l3 l5 : Int64} {l1 l2 l16 : Int32} {M : qMem} {Q : qPost}
    (hV : ((¬ l1 = (3 : Int32) → (P 77 194 [(0, .ref 0), (1, .int l1), (2, .int l2), (3, .long l3), (5, .long l5), (16, .int l16)] [] M Q)) ∧ (¬ (¬ l1 = (3 : Int32)) → (P 49 0 [(0, .ref 0), (1, .int (2 : Int32)), (2, .int l2), (3, .int (0 : Int32))] [] M (fun v M' => P 77 140 [(0, .ref 0), (1, .int l1), (2, .int l2), (3, .long l3), (5, .long l5), (16, .int l16)] (v.toList ++ []) M' Q))))) :
    P 77 132 [(0, .ref 0), (1, .int l1), (2, .int l2), (3, .long l3), (5, .long l5), (16, .int l16)] [] M Q := by
  exact qRun_ok hG (ops := qo_77) (cuts := qc_lw_isVariance) rfl 224 132 _ _ _ _ hV
set_option maxRecDepth 100000 in
theorem v_lw_isVariance_127 (hG : qGood Ls xs P) {l3 l5 : Int64} {l1 l2 s0 : Int32} {M : qMem} {Q : qPost}
    (hV : ((¬ s0 = 0 → (P 77 132 [(0, .ref 0), (1, .int l1), (2, .int l2), (3, .long l3), (5, .long l5), (16, .int (0 : Int32))] [] M Q)) ∧ (¬ (¬ s0 = 0) → (P 77 132 [(0, .ref 0), (1, .int l1), (2, .int l2), (3, .long l3), (5, .long l5), (16, .int (1 : Int32))] [] M Q)))) :
    P 77 127 [(0, .ref 0), (1, .int l1), (2, .int l2), (3, .long l3), (5, .long l5)] [.int s0] M Q := by
  exact qRun_ok hG (ops := qo_77) (cuts := qc_lw_isVariance) rfl 224 127 _ _ _ _ hV
set_option maxRecDepth 100000 in
theorem v_lw_isVariance_194 (hG : qGood Ls xs P) {l3 l5 : Int64} {l1 l2 l16 : Int32} {M : qMem} {Q : qPost}
    (hV : ((l16 = 0 → (narrow .boolean (.int (0 : Int32)) = .int (0 : Int32) ∧ Q (some (.int (0 : Int32))) M)) ∧ (¬ (l16 = 0) → (((1 : Int32) < l2 → (narrow .boolean (.int (1 : Int32)) = .int (1 : Int32) ∧ Q (some (.int (1 : Int32))) M)) ∧ (¬ ((1 : Int32) < l2) → ((¬ l1 = (2 : Int32) → (narrow .boolean (.int (1 : Int32)) = .int (1 : Int32) ∧ Q (some (.int (1 : Int32))) M)) ∧ (¬ (¬ l1 = (2 : Int32)) → (P 49 0 [(0, .ref 0), (1, .int (0 : Int32)), (2, .int (1 : Int32)), (3, .int (0 : Int32))] [] M (fun v M' => P 77 208 [(0, .ref 0), (5, .long l5)] (v.toList ++ [.long l3]) M' Q))))))))) :
    P 77 194 [(0, .ref 0), (1, .int l1), (2, .int l2), (3, .long l3), (5, .long l5), (16, .int l16)] [] M Q := by
  exact qRun_ok hG (ops := qo_77) (cuts := qc_lw_isVariance) rfl 224 194 _ _ _ _ hV
set_option maxRecDepth 100000 in
theorem v_lw_isVariance_140 (hG : qGood Ls xs P) {l3 l5 s0 : Int64} {l1 l2 l16 : Int32} {M : qMem} {Q : qPost}
    (hV : (P 49 0 [(0, .ref 0), (1, .int (2 : Int32)), (2, .int l2), (3, .int (1 : Int32))] [] M (fun v M' => P 77 146 [(0, .ref 0), (1, .int l1), (2, .int l2), (3, .long l3), (5, .long l5), (16, .int l16), (17, .long s0)] (v.toList ++ []) M' Q))) :
    P 77 140 [(0, .ref 0), (1, .int l1), (2, .int l2), (3, .long l3), (5, .long l5), (16, .int l16)] [.long s0] M Q := by
  exact qRun_ok hG (ops := qo_77) (cuts := qc_lw_isVariance) rfl 224 140 _ _ _ _ hV
set_option maxRecDepth 100000 in
theorem v_lw_isVariance_208 (hG : qGood Ls xs P) {l5 s0 s1 : Int64} {M : qMem} {Q : qPost}
    (hV : ((¬ (lg_cmp s1 s0) = 0 → (narrow .boolean (.int (0 : Int32)) = .int (0 : Int32) ∧ Q (some (.int (0 : Int32))) M)) ∧ (¬ (¬ (lg_cmp s1 s0) = 0) → (P 49 0 [(0, .ref 0), (1, .int (0 : Int32)), (2, .int (1 : Int32)), (3, .int (1 : Int32))] [] M (fun v M' => P 77 216 [] (v.toList ++ [.long l5]) M' Q))))) :
    P 77 208 [(0, .ref 0), (5, .long l5)] [.long s0, .long s1] M Q := by
  exact qRun_ok hG (ops := qo_77) (cuts := qc_lw_isVariance) rfl 224 208 _ _ _ _ hV
set_option maxRecDepth 100000 in
theorem v_lw_isVariance_146 (hG : qGood Ls xs P) {l3 l5 l17 s0 : Int64} {l1 l2 l16 : Int32} {M : qMem} {Q : qPost}
    (hV : (P 77 163 [(0, .ref 0), (1, .int l1), (2, .int l2), (3, .long l3), (5, .long l5), (16, .int l16), (21, .long ((l17 * l2.toInt64) * l2.toInt64)), (23, .long ((3 : Int64) * s0)), (25, .long ((l17 * l2.toInt64) * l2.toInt64)), (27, .long ((3 : Int64) * s0))] [] M Q)) :
    P 77 146 [(0, .ref 0), (1, .int l1), (2, .int l2), (3, .long l3), (5, .long l5), (16, .int l16), (17, .long l17)] [.long s0] M Q := by
  exact qRun_ok hG (ops := qo_77) (cuts := qc_lw_isVariance) rfl 224 146 _ _ _ _ hV
set_option maxRecDepth 100000 in
theorem v_lw_isVariance_216 (hG : qGood Ls xs P) {s0 s1 : Int64} {M : qMem} {Q : qPost}
    (hV : ((¬ (lg_cmp s1 s0) = 0 → (narrow .boolean (.int (0 : Int32)) = .int (0 : Int32) ∧ Q (some (.int (0 : Int32))) M)) ∧ (¬ (¬ (lg_cmp s1 s0) = 0) → (narrow .boolean (.int (1 : Int32)) = .int (1 : Int32) ∧ Q (some (.int (1 : Int32))) M)))) :
    P 77 216 [] [.long s0, .long s1] M Q := by
  exact qRun_ok hG (ops := qo_77) (cuts := qc_lw_isVariance) rfl 224 216 _ _ _ _ hV
set_option maxRecDepth 100000 in
theorem v_lw_isVariance_163 (hG : qGood Ls xs P) {l3 l5 l21 l23 l25 l27 : Int64} {l1 l2 l16 : Int32} {M : qMem} {Q : qPost}
    (hV : (((lg_cmp l27 (0 : Int64)) = 0 → (P 77 176 [(0, .ref 0), (1, .int l1), (2, .int l2), (3, .long l3), (5, .long l5), (16, .int l16), (21, .long l21), (23, .long l23), (25, .long l25)] [] M Q)) ∧ (¬ ((lg_cmp l27 (0 : Int64)) = 0) → (¬ l27 = 0 ∧ (P 77 163 [(0, .ref 0), (1, .int l1), (2, .int l2), (3, .long l3), (5, .long l5), (16, .int l16), (21, .long l21), (23, .long l23), (25, .long l27), (27, .long (l25 - l25 / l27 * l27))] [] M Q))))) :
    P 77 163 [(0, .ref 0), (1, .int l1), (2, .int l2), (3, .long l3), (5, .long l5), (16, .int l16), (21, .long l21), (23, .long l23), (25, .long l25), (27, .long l27)] [] M Q := by
  exact qRun_ok hG (ops := qo_77) (cuts := qc_lw_isVariance) rfl 224 163 _ _ _ _ hV
set_option maxRecDepth 100000 in
theorem v_lw_isVariance_176 (hG : qGood Ls xs P) {l3 l5 l21 l23 l25 : Int64} {l1 l2 l16 : Int32} {M : qMem} {Q : qPost}
    (hV : ((l16 = 0 → (P 77 194 [(0, .ref 0), (1, .int l1), (2, .int l2), (3, .long l3), (5, .long l5), (16, .int (0 : Int32))] [] M Q)) ∧ (¬ (l16 = 0) → (¬ l25 = 0 ∧ ((¬ (lg_cmp l3 (l21 / l25)) = 0 → (P 77 194 [(0, .ref 0), (1, .int l1), (2, .int l2), (3, .long l3), (5, .long l5), (16, .int (0 : Int32))] [] M Q)) ∧ (¬ (¬ (lg_cmp l3 (l21 / l25)) = 0) → (¬ l25 = 0 ∧ ((¬ (lg_cmp l5 (l23 / l25)) = 0 → (P 77 194 [(0, .ref 0), (1, .int l1), (2, .int l2), (3, .long l3), (5, .long l5), (16, .int (0 : Int32))] [] M Q)) ∧ (¬ (¬ (lg_cmp l5 (l23 / l25)) = 0) → (P 77 194 [(0, .ref 0), (1, .int l1), (2, .int l2), (3, .long l3), (5, .long l5), (16, .int (1 : Int32))] [] M Q)))))))))) :
    P 77 176 [(0, .ref 0), (1, .int l1), (2, .int l2), (3, .long l3), (5, .long l5), (16, .int l16), (21, .long l21), (23, .long l23), (25, .long l25)] [] M Q := by
  exact qRun_ok hG (ops := qo_77) (cuts := qc_lw_isVariance) rfl 224 176 _ _ _ _ hV
def qc_lw_areCompared : List (Nat × List Nat) := [(3, [0, 1]), (6, [0, 1, 2, 3]), (14, [0, 1, 2, 3]), (21, [0, 1, 2, 3, 4]), (26, [0, 1, 2, 3, 4]), (36, [0, 1, 2, 3, 4]), (43, [0, 1, 2, 3, 4]), (49, [0, 1, 2, 3, 4]), (59, [0, 1, 2, 3]), (64, [0, 1, 2, 3]), (70, [0, 1, 2, 3])]
set_option maxRecDepth 100000 in
theorem v_lw_areCompared_0 (hG : qGood Ls xs P) {l1 : Int32} {M : qMem} {Q : qPost}
    (hV : (P 52 0 [(0, .ref 0), (1, .int l1)] [] M (fun v M' => P 78 3 [(0, .ref 0), (1, .int l1)] (v.toList ++ []) M' Q))) :
    P 78 0 [(0, .ref 0), (1, .int l1)] [] M Q := by
  exact qRun_ok hG (ops := qo_78) (cuts := qc_lw_areCompared) rfl 76 0 _ _ _ _ hV
set_option maxRecDepth 100000 in
theorem v_lw_areCompared_3 (hG : qGood Ls xs P) {l1 s0 : Int32} {M : qMem} {Q : qPost}
    (hV : (P 78 6 [(0, .ref 0), (1, .int l1), (2, .int s0), (3, .int (1 : Int32))] [] M Q)) :
    P 78 3 [(0, .ref 0), (1, .int l1)] [.int s0] M Q := by
  exact qRun_ok hG (ops := qo_78) (cuts := qc_lw_areCompared) rfl 76 3 _ _ _ _ hV
set_option maxRecDepth 100000 in
theorem v_lw_areCompared_6 (hG : qGood Ls xs P) {l1 l2 l3 : Int32} {M : qMem} {Q : qPost}
    (hV : (((32 : Int32) ≤ l3 → (narrow .boolean (.int (1 : Int32)) = .int (1 : Int32) ∧ Q (some (.int (1 : Int32))) M)) ∧ (¬ ((32 : Int32) ≤ l3) → (P 49 0 [(0, .ref 0), (1, .int l1), (2, .int l3), (3, .int (1 : Int32))] [] M (fun v M' => P 78 14 [(0, .ref 0), (1, .int l1), (2, .int l2), (3, .int l3)] (v.toList ++ []) M' Q))))) :
    P 78 6 [(0, .ref 0), (1, .int l1), (2, .int l2), (3, .int l3)] [] M Q := by
  exact qRun_ok hG (ops := qo_78) (cuts := qc_lw_areCompared) rfl 76 6 _ _ _ _ hV
set_option maxRecDepth 100000 in
theorem v_lw_areCompared_14 (hG : qGood Ls xs P) {s0 : Int64} {l1 l2 l3 : Int32} {M : qMem} {Q : qPost}
    (hV : (((lg_cmp s0 (0 : Int64)) ≤ 0 → (P 78 21 [(0, .ref 0), (1, .int l1), (2, .int l2), (3, .int l3), (4, .int (0 : Int32))] [] M Q)) ∧ (¬ ((lg_cmp s0 (0 : Int64)) ≤ 0) → (P 78 21 [(0, .ref 0), (1, .int l1), (2, .int l2), (3, .int l3), (4, .int (1 : Int32))] [] M Q)))) :
    P 78 14 [(0, .ref 0), (1, .int l1), (2, .int l2), (3, .int l3)] [.long s0] M Q := by
  exact qRun_ok hG (ops := qo_78) (cuts := qc_lw_areCompared) rfl 76 14 _ _ _ _ hV
set_option maxRecDepth 100000 in
theorem v_lw_areCompared_21 (hG : qGood Ls xs P) {l1 l2 l3 l4 : Int32} {M : qMem} {Q : qPost}
    (hV : ((¬ l2 = (-1000000001 : Int32) → (P 78 26 [(0, .ref 0), (1, .int l1), (2, .int l2), (3, .int l3), (4, .int l4)] [] M Q)) ∧ (¬ (¬ l2 = (-1000000001 : Int32)) → ((¬ l4 = 0 → (narrow .boolean (.int (0 : Int32)) = .int (0 : Int32) ∧ Q (some (.int (0 : Int32))) M)) ∧ (¬ (¬ l4 = 0) → (P 78 26 [(0, .ref 0), (1, .int l1), (2, .int l2), (3, .int l3), (4, .int l4)] [] M Q)))))) :
    P 78 21 [(0, .ref 0), (1, .int l1), (2, .int l2), (3, .int l3), (4, .int l4)] [] M Q := by
  exact qRun_ok hG (ops := qo_78) (cuts := qc_lw_areCompared) rfl 76 21 _ _ _ _ hV
set_option maxRecDepth 100000 in
theorem v_lw_areCompared_26 (hG : qGood Ls xs P) {l1 l2 l3 l4 : Int32} {M : qMem} {Q : qPost}
    (hV : ((l2 = (-1000000001 : Int32) → (P 78 49 [(0, .ref 0), (1, .int l1), (2, .int l2), (3, .int l3), (4, .int l4)] [] M Q)) ∧ (¬ (l2 = (-1000000001 : Int32)) → ((l4 = 0 → (P 78 49 [(0, .ref 0), (1, .int l1), (2, .int l2), (3, .int l3), (4, .int l4)] [] M Q)) ∧ (¬ (l4 = 0) → (P 51 0 [(0, .ref 0), (1, .int l1), (2, .int l2), (3, .int l3)] [] M (fun v M' => P 78 36 [(0, .ref 0), (1, .int l1), (2, .int l2), (3, .int l3), (4, .int l4)] (v.toList ++ []) M' Q))))))) :
    P 78 26 [(0, .ref 0), (1, .int l1), (2, .int l2), (3, .int l3), (4, .int l4)] [] M Q := by
  exact qRun_ok hG (ops := qo_78) (cuts := qc_lw_areCompared) rfl 76 26 _ _ _ _ hV
set_option maxRecDepth 100000 in
theorem v_lw_areCompared_49 (hG : qGood Ls xs P) {l1 l2 l3 l4 : Int32} {M : qMem} {Q : qPost}
    (hV : ((l2 = (-1000000001 : Int32) → (P 78 70 [(0, .ref 0), (1, .int l1), (2, .int l2), (3, .int l3)] [] M Q)) ∧ (¬ (l2 = (-1000000001 : Int32)) → ((l4 = 0 → (P 78 70 [(0, .ref 0), (1, .int l1), (2, .int l2), (3, .int l3)] [] M Q)) ∧ (¬ (l4 = 0) → (P 51 0 [(0, .ref 0), (1, .int l1), (2, .int l2), (3, .int l3)] [] M (fun v M' => P 78 59 [(0, .ref 0), (1, .int l1), (2, .int l2), (3, .int l3)] (v.toList ++ []) M' Q))))))) :
    P 78 49 [(0, .ref 0), (1, .int l1), (2, .int l2), (3, .int l3), (4, .int l4)] [] M Q := by
  exact qRun_ok hG (ops := qo_78) (cuts := qc_lw_areCompared) rfl 76 49 _ _ _ _ hV
set_option maxRecDepth 100000 in
theorem v_lw_areCompared_36 (hG : qGood Ls xs P) {l1 l2 l3 l4 s0 : Int32} {M : qMem} {Q : qPost}
    (hV : ((s0 = (2 : Int32) → (narrow .boolean (.int (0 : Int32)) = .int (0 : Int32) ∧ Q (some (.int (0 : Int32))) M)) ∧ (¬ (s0 = (2 : Int32)) → (P 51 0 [(0, .ref 0), (1, .int l1), (2, .int l2), (3, .int l3)] [] M (fun v M' => P 78 43 [(0, .ref 0), (1, .int l1), (2, .int l2), (3, .int l3), (4, .int l4)] (v.toList ++ []) M' Q))))) :
    P 78 36 [(0, .ref 0), (1, .int l1), (2, .int l2), (3, .int l3), (4, .int l4)] [.int s0] M Q := by
  exact qRun_ok hG (ops := qo_78) (cuts := qc_lw_areCompared) rfl 76 36 _ _ _ _ hV
set_option maxRecDepth 100000 in
theorem v_lw_areCompared_70 (hG : qGood Ls xs P) {l1 l2 l3 : Int32} {M : qMem} {Q : qPost}
    (hV : (P 78 6 [(0, .ref 0), (1, .int l1), (2, .int l2), (3, .int (l3 + (1 : Int32)))] [] M Q)) :
    P 78 70 [(0, .ref 0), (1, .int l1), (2, .int l2), (3, .int l3)] [] M Q := by
  exact qRun_ok hG (ops := qo_78) (cuts := qc_lw_areCompared) rfl 76 70 _ _ _ _ hV
set_option maxRecDepth 100000 in
theorem v_lw_areCompared_59 (hG : qGood Ls xs P) {l1 l2 l3 s0 : Int32} {M : qMem} {Q : qPost}
    (hV : (P 51 0 [(0, .ref 0), (1, .int l1), (2, .int l3), (3, .int l2)] [] M (fun v M' => P 78 64 [(0, .ref 0), (1, .int l1), (2, .int l2), (3, .int l3)] (v.toList ++ [.int s0]) M' Q))) :
    P 78 59 [(0, .ref 0), (1, .int l1), (2, .int l2), (3, .int l3)] [.int s0] M Q := by
  exact qRun_ok hG (ops := qo_78) (cuts := qc_lw_areCompared) rfl 76 59 _ _ _ _ hV
set_option maxRecDepth 100000 in
theorem v_lw_areCompared_43 (hG : qGood Ls xs P) {l1 l2 l3 l4 s0 : Int32} {M : qMem} {Q : qPost}
    (hV : ((¬ s0 = 0 → (P 78 49 [(0, .ref 0), (1, .int l1), (2, .int l2), (3, .int l3), (4, .int l4)] [] M Q)) ∧ (¬ (¬ s0 = 0) → ((l2 ≤ l3 → (P 78 49 [(0, .ref 0), (1, .int l1), (2, .int l2), (3, .int l3), (4, .int l4)] [] M Q)) ∧ (¬ (l2 ≤ l3) → (narrow .boolean (.int (0 : Int32)) = .int (0 : Int32) ∧ Q (some (.int (0 : Int32))) M)))))) :
    P 78 43 [(0, .ref 0), (1, .int l1), (2, .int l2), (3, .int l3), (4, .int l4)] [.int s0] M Q := by
  exact qRun_ok hG (ops := qo_78) (cuts := qc_lw_areCompared) rfl 76 43 _ _ _ _ hV
set_option maxRecDepth 100000 in
theorem v_lw_areCompared_64 (hG : qGood Ls xs P) {l1 l2 l3 s0 s1 : Int32} {M : qMem} {Q : qPost}
    (hV : (¬ (3 : Int32) = 0 ∧ ((((s1 + s0) - (s1 + s0) / (3 : Int32) * (3 : Int32)) = 0 → (P 78 70 [(0, .ref 0), (1, .int l1), (2, .int l2), (3, .int l3)] [] M Q)) ∧ (¬ (((s1 + s0) - (s1 + s0) / (3 : Int32) * (3 : Int32)) = 0) → (narrow .boolean (.int (0 : Int32)) = .int (0 : Int32) ∧ Q (some (.int (0 : Int32))) M))))) :
    P 78 64 [(0, .ref 0), (1, .int l1), (2, .int l2), (3, .int l3)] [.int s0, .int s1] M Q := by
  exact qRun_ok hG (ops := qo_78) (cuts := qc_lw_areCompared) rfl 76 64 _ _ _ _ hV
def qc_lw_isLine : List (Nat × List Nat) := [(5, [0, 1, 2, 3]), (10, [0, 1, 2, 3, 4]), (16, [0, 1, 2, 3, 4, 5]), (20, [0, 1, 2, 3, 4, 5, 6]), (26, [0, 1, 2, 3, 4, 5, 6, 8]), (33, [0, 3, 4, 5, 6, 8, 9]), (48, [0, 3, 4, 5, 6, 8, 9, 10]), (54, [0, 3, 5, 6, 8, 9, 10]), (61, [0, 6, 8, 9, 10]), (68, [0, 8, 9]), (77, [0, 8, 9]), (83, [9])]
set_option maxRecDepth 100000 in
theorem v_lw_isLine_0 (hG : qGood Ls xs P) {l1 l2 l3 : Int32} {M : qMem} {Q : qPost}
    (hV : (P 47 0 [(0, .ref 0), (1, .int (2 : Int32)), (2, .int l3), (3, .int (0 : Int32))] [] M (fun v M' => P 79 5 [(0, .ref 0), (1, .int l1), (2, .int l2), (3, .int l3)] (v.toList ++ []) M' Q))) :
    P 79 0 [(0, .ref 0), (1, .int l1), (2, .int l2), (3, .int l3)] [] M Q := by
  exact qRun_ok hG (ops := qo_79) (cuts := qc_lw_isLine) rfl 91 0 _ _ _ _ hV
set_option maxRecDepth 100000 in
theorem v_lw_isLine_5 (hG : qGood Ls xs P) {l1 l2 l3 s0 : Int32} {M : qMem} {Q : qPost}
    (hV : (P 48 0 [(0, .ref 0), (1, .int (2 : Int32)), (2, .int l3)] [] M (fun v M' => P 79 10 [(0, .ref 0), (1, .int l1), (2, .int l2), (3, .int l3), (4, .int s0)] (v.toList ++ []) M' Q))) :
    P 79 5 [(0, .ref 0), (1, .int l1), (2, .int l2), (3, .int l3)] [.int s0] M Q := by
  exact qRun_ok hG (ops := qo_79) (cuts := qc_lw_isLine) rfl 91 5 _ _ _ _ hV
set_option maxRecDepth 100000 in
theorem v_lw_isLine_10 (hG : qGood Ls xs P) {l1 l2 l3 l4 s0 : Int32} {M : qMem} {Q : qPost}
    (hV : (P 49 0 [(0, .ref 0), (1, .int (0 : Int32)), (2, .int l3), (3, .int (0 : Int32))] [] M (fun v M' => P 79 16 [(0, .ref 0), (1, .int l1), (2, .int l2), (3, .int l3), (4, .int l4), (5, .int s0)] (v.toList ++ []) M' Q))) :
    P 79 10 [(0, .ref 0), (1, .int l1), (2, .int l2), (3, .int l3), (4, .int l4)] [.int s0] M Q := by
  exact qRun_ok hG (ops := qo_79) (cuts := qc_lw_isLine) rfl 91 10 _ _ _ _ hV
set_option maxRecDepth 100000 in
theorem v_lw_isLine_16 (hG : qGood Ls xs P) {s0 : Int64} {l1 l2 l3 l4 l5 : Int32} {M : qMem} {Q : qPost}
    (hV : (P 45 0 [(0, .ref 0), (1, .int (0 : Int32))] [] M (fun v M' => P 79 20 [(0, .ref 0), (1, .int l1), (2, .int l2), (3, .int l3), (4, .int l4), (5, .int l5), (6, .long s0)] (v.toList ++ []) M' Q))) :
    P 79 16 [(0, .ref 0), (1, .int l1), (2, .int l2), (3, .int l3), (4, .int l4), (5, .int l5)] [.long s0] M Q := by
  exact qRun_ok hG (ops := qo_79) (cuts := qc_lw_isLine) rfl 91 16 _ _ _ _ hV
set_option maxRecDepth 100000 in
theorem v_lw_isLine_20 (hG : qGood Ls xs P) {l6 : Int64} {l1 l2 l3 l4 l5 s0 : Int32} {M : qMem} {Q : qPost}
    (hV : ((s0 ≤ 0 → (P 39 0 [(0, .ref 0), (1, .int l1), (2, .int l2)] [] M (fun v M' => P 79 33 [(0, .ref 0), (3, .int l3), (4, .int l4), (5, .int l5), (6, .long l6), (8, .int s0), (9, .int (0 : Int32))] (v.toList ++ []) M' Q))) ∧ (¬ (s0 ≤ 0) → (P 46 0 [(0, .ref 0), (1, .int (0 : Int32))] [] M (fun v M' => P 79 26 [(0, .ref 0), (1, .int l1), (2, .int l2), (3, .int l3), (4, .int l4), (5, .int l5), (6, .long l6), (8, .int s0)] (v.toList ++ []) M' Q))))) :
    P 79 20 [(0, .ref 0), (1, .int l1), (2, .int l2), (3, .int l3), (4, .int l4), (5, .int l5), (6, .long l6)] [.int s0] M Q := by
  exact qRun_ok hG (ops := qo_79) (cuts := qc_lw_isLine) rfl 91 20 _ _ _ _ hV
set_option maxRecDepth 100000 in
theorem v_lw_isLine_33 (hG : qGood Ls xs P) {l6 : Int64} {l3 l4 l5 l8 l9 s0 : Int32} {M : qMem} {Q : qPost}
    (hV : ((0 ≤ s0 → (P 47 0 [(0, .ref 0), (1, .int (2 : Int32)), (2, .int l3), (3, .int (0 : Int32))] [] M (fun v M' => P 79 48 [(0, .ref 0), (3, .int l3), (4, .int l4), (5, .int l5), (6, .long l6), (8, .int l8), (9, .int l9), (10, .int s0)] (v.toList ++ []) M' Q))) ∧ (¬ (0 ≤ s0) → ((¬ s0 = (-1000000005 : Int32) → (narrow .boolean (.int (0 : Int32)) = .int (0 : Int32) ∧ Q (some (.int (0 : Int32))) M)) ∧ (¬ (¬ s0 = (-1000000005 : Int32)) → (narrow .boolean (.int (1 : Int32)) = .int (1 : Int32) ∧ Q (some (.int (1 : Int32))) M)))))) :
    P 79 33 [(0, .ref 0), (3, .int l3), (4, .int l4), (5, .int l5), (6, .long l6), (8, .int l8), (9, .int l9)] [.int s0] M Q := by
  exact qRun_ok hG (ops := qo_79) (cuts := qc_lw_isLine) rfl 91 33 _ _ _ _ hV
set_option maxRecDepth 100000 in
theorem v_lw_isLine_26 (hG : qGood Ls xs P) {l6 : Int64} {l1 l2 l3 l4 l5 l8 s0 : Int32} {M : qMem} {Q : qPost}
    (hV : (P 39 0 [(0, .ref 0), (1, .int l1), (2, .int l2)] [] M (fun v M' => P 79 33 [(0, .ref 0), (3, .int l3), (4, .int l4), (5, .int l5), (6, .long l6), (8, .int l8), (9, .int s0)] (v.toList ++ []) M' Q))) :
    P 79 26 [(0, .ref 0), (1, .int l1), (2, .int l2), (3, .int l3), (4, .int l4), (5, .int l5), (6, .long l6), (8, .int l8)] [.int s0] M Q := by
  exact qRun_ok hG (ops := qo_79) (cuts := qc_lw_isLine) rfl 91 26 _ _ _ _ hV
set_option maxRecDepth 100000 in
theorem v_lw_isLine_48 (hG : qGood Ls xs P) {l6 : Int64} {l3 l4 l5 l8 l9 l10 s0 : Int32} {M : qMem} {Q : qPost}
    (hV : ((¬ s0 = l4 → (((0 : Int32) = 0 → (narrow .boolean (.int (0 : Int32)) = .int (0 : Int32) ∧ Q (some (.int (0 : Int32))) M)) ∧ (¬ ((0 : Int32) = 0) → (P 44 0 [(0, .ref 0)] [] M (fun v M' => P 79 77 [(0, .ref 0), (8, .int l8), (9, .int l9)] (v.toList ++ []) M' Q))))) ∧ (¬ (¬ s0 = l4) → (P 48 0 [(0, .ref 0), (1, .int (2 : Int32)), (2, .int l3)] [] M (fun v M' => P 79 54 [(0, .ref 0), (3, .int l3), (5, .int l5), (6, .long l6), (8, .int l8), (9, .int l9), (10, .int l10)] (v.toList ++ []) M' Q))))) :
    P 79 48 [(0, .ref 0), (3, .int l3), (4, .int l4), (5, .int l5), (6, .long l6), (8, .int l8), (9, .int l9), (10, .int l10)] [.int s0] M Q := by
  exact qRun_ok hG (ops := qo_79) (cuts := qc_lw_isLine) rfl 91 48 _ _ _ _ hV
set_option maxRecDepth 100000 in
theorem v_lw_isLine_77 (hG : qGood Ls xs P) {l8 l9 s0 : Int32} {M : qMem} {Q : qPost}
    (hV : ((s0 < 0 → (narrow .boolean (.int (0 : Int32)) = .int (0 : Int32) ∧ Q (some (.int (0 : Int32))) M)) ∧ (¬ (s0 < 0) → ((l8 = 0 → (narrow .boolean (.int (1 : Int32)) = .int (1 : Int32) ∧ Q (some (.int (1 : Int32))) M)) ∧ (¬ (l8 = 0) → (P 46 0 [(0, .ref 0), (1, .int (0 : Int32))] [] M (fun v M' => P 79 83 [(9, .int l9)] (v.toList ++ []) M' Q))))))) :
    P 79 77 [(0, .ref 0), (8, .int l8), (9, .int l9)] [.int s0] M Q := by
  exact qRun_ok hG (ops := qo_79) (cuts := qc_lw_isLine) rfl 91 77 _ _ _ _ hV
set_option maxRecDepth 100000 in
theorem v_lw_isLine_54 (hG : qGood Ls xs P) {l6 : Int64} {l3 l5 l8 l9 l10 s0 : Int32} {M : qMem} {Q : qPost}
    (hV : ((¬ s0 = l5 → (((0 : Int32) = 0 → (narrow .boolean (.int (0 : Int32)) = .int (0 : Int32) ∧ Q (some (.int (0 : Int32))) M)) ∧ (¬ ((0 : Int32) = 0) → (P 44 0 [(0, .ref 0)] [] M (fun v M' => P 79 77 [(0, .ref 0), (8, .int l8), (9, .int l9)] (v.toList ++ []) M' Q))))) ∧ (¬ (¬ s0 = l5) → (P 49 0 [(0, .ref 0), (1, .int (0 : Int32)), (2, .int l3), (3, .int (0 : Int32))] [] M (fun v M' => P 79 61 [(0, .ref 0), (6, .long l6), (8, .int l8), (9, .int l9), (10, .int l10)] (v.toList ++ []) M' Q))))) :
    P 79 54 [(0, .ref 0), (3, .int l3), (5, .int l5), (6, .long l6), (8, .int l8), (9, .int l9), (10, .int l10)] [.int s0] M Q := by
  exact qRun_ok hG (ops := qo_79) (cuts := qc_lw_isLine) rfl 91 54 _ _ _ _ hV
set_option maxRecDepth 100000 in
theorem v_lw_isLine_83 (hG : qGood Ls xs P) {l9 s0 : Int32} {M : qMem} {Q : qPost}
    (hV : ((¬ s0 = l9 → (narrow .boolean (.int (0 : Int32)) = .int (0 : Int32) ∧ Q (some (.int (0 : Int32))) M)) ∧ (¬ (¬ s0 = l9) → (narrow .boolean (.int (1 : Int32)) = .int (1 : Int32) ∧ Q (some (.int (1 : Int32))) M)))) :
    P 79 83 [(9, .int l9)] [.int s0] M Q := by
  exact qRun_ok hG (ops := qo_79) (cuts := qc_lw_isLine) rfl 91 83 _ _ _ _ hV
set_option maxRecDepth 100000 in
theorem v_lw_isLine_61 (hG : qGood Ls xs P) {l6 s0 : Int64} {l8 l9 l10 : Int32} {M : qMem} {Q : qPost}
    (hV : ((¬ (lg_cmp s0 l6) = 0 → (((0 : Int32) = 0 → (narrow .boolean (.int (0 : Int32)) = .int (0 : Int32) ∧ Q (some (.int (0 : Int32))) M)) ∧ (¬ ((0 : Int32) = 0) → (P 44 0 [(0, .ref 0)] [] M (fun v M' => P 79 77 [(0, .ref 0), (8, .int l8), (9, .int l9)] (v.toList ++ []) M' Q))))) ∧ (¬ (¬ (lg_cmp s0 l6) = 0) → (P 45 0 [(0, .ref 0), (1, .int (1 : Int32))] [] M (fun v M' => P 79 68 [(0, .ref 0), (8, .int l8), (9, .int l9)] (v.toList ++ [.int l10]) M' Q))))) :
    P 79 61 [(0, .ref 0), (6, .long l6), (8, .int l8), (9, .int l9), (10, .int l10)] [.long s0] M Q := by
  exact qRun_ok hG (ops := qo_79) (cuts := qc_lw_isLine) rfl 91 61 _ _ _ _ hV
set_option maxRecDepth 100000 in
theorem v_lw_isLine_68 (hG : qGood Ls xs P) {l8 l9 s0 s1 : Int32} {M : qMem} {Q : qPost}
    (hV : ((s0 < s1 → (((0 : Int32) = 0 → (narrow .boolean (.int (0 : Int32)) = .int (0 : Int32) ∧ Q (some (.int (0 : Int32))) M)) ∧ (¬ ((0 : Int32) = 0) → (P 44 0 [(0, .ref 0)] [] M (fun v M' => P 79 77 [(0, .ref 0), (8, .int l8), (9, .int l9)] (v.toList ++ []) M' Q))))) ∧ (¬ (s0 < s1) → (((1 : Int32) = 0 → (narrow .boolean (.int (0 : Int32)) = .int (0 : Int32) ∧ Q (some (.int (0 : Int32))) M)) ∧ (¬ ((1 : Int32) = 0) → (P 44 0 [(0, .ref 0)] [] M (fun v M' => P 79 77 [(0, .ref 0), (8, .int l8), (9, .int l9)] (v.toList ++ []) M' Q))))))) :
    P 79 68 [(0, .ref 0), (8, .int l8), (9, .int l9)] [.int s0, .int s1] M Q := by
  exact qRun_ok hG (ops := qo_79) (cuts := qc_lw_isLine) rfl 91 68 _ _ _ _ hV
def qc_lw_areAlike : List (Nat × List Nat) := [(4, [0, 1, 2, 3]), (15, [0, 1, 3]), (18, [0, 1, 3]), (27, [0, 1, 2, 3]), (31, [0, 1, 2, 3]), (37, [0, 1, 3]), (40, [0, 1, 3])]
set_option maxRecDepth 100000 in
theorem v_lw_areAlike_0 (hG : qGood Ls xs P) {M : qMem} {Q : qPost}
    (hV : (P 80 4 [(0, .ref 0), (1, .ref 36), (2, .int (1 : Int32)), (3, .int (0 : Int32))] [] M Q)) :
    P 80 0 [(0, .ref 0), (1, .ref 36)] [] M Q := by
  exact qRun_ok hG (ops := qo_80) (cuts := qc_lw_areAlike) rfl 51 0 _ _ _ _ hV
set_option maxRecDepth 100000 in
theorem v_lw_areAlike_4 (hG : qGood Ls xs P) {l2 l3 : Int32} {M : qMem} {Q : qPost}
    (hV : (((9 : Int32) ≤ l3 → (P 80 27 [(0, .ref 0), (1, .ref 36), (2, .int l2), (3, .int (0 : Int32))] [] M Q)) ∧ (¬ ((9 : Int32) ≤ l3) → ((l2 = 0 → (P 80 4 [(0, .ref 0), (1, .ref 36), (2, .int (0 : Int32)), (3, .int (l3 + (1 : Int32)))] [] M Q)) ∧ (¬ (l2 = 0) → ((l3 = (8 : Int32) → (P 80 4 [(0, .ref 0), (1, .ref 36), (2, .int (1 : Int32)), (3, .int (l3 + (1 : Int32)))] [] M Q)) ∧ (¬ (l3 = (8 : Int32)) → (P 45 0 [(0, .ref 0), (1, .int l3)] [] M (fun v M' => P 80 15 [(0, .ref 0), (1, .ref 36), (3, .int l3)] (v.toList ++ []) M' Q))))))))) :
    P 80 4 [(0, .ref 0), (1, .ref 36), (2, .int l2), (3, .int l3)] [] M Q := by
  exact qRun_ok hG (ops := qo_80) (cuts := qc_lw_areAlike) rfl 51 4 _ _ _ _ hV
set_option maxRecDepth 100000 in
theorem v_lw_areAlike_27 (hG : qGood Ls xs P) {l2 l3 : Int32} {M : qMem} {Q : qPost}
    (hV : (P 45 0 [(0, .ref 0), (1, .int (0 : Int32))] [] M (fun v M' => P 80 31 [(0, .ref 0), (1, .ref 36), (2, .int l2), (3, .int l3)] (v.toList ++ [.int l3]) M' Q))) :
    P 80 27 [(0, .ref 0), (1, .ref 36), (2, .int l2), (3, .int l3)] [] M Q := by
  exact qRun_ok hG (ops := qo_80) (cuts := qc_lw_areAlike) rfl 51 27 _ _ _ _ hV
set_option maxRecDepth 100000 in
theorem v_lw_areAlike_15 (hG : qGood Ls xs P) {l3 s0 : Int32} {M : qMem} {Q : qPost}
    (hV : (P 45 0 [(0, .ref 36), (1, .int l3)] [] M (fun v M' => P 80 18 [(0, .ref 0), (1, .ref 36), (3, .int l3)] (v.toList ++ [.int s0]) M' Q))) :
    P 80 15 [(0, .ref 0), (1, .ref 36), (3, .int l3)] [.int s0] M Q := by
  exact qRun_ok hG (ops := qo_80) (cuts := qc_lw_areAlike) rfl 51 15 _ _ _ _ hV
set_option maxRecDepth 100000 in
theorem v_lw_areAlike_31 (hG : qGood Ls xs P) {l2 l3 s0 s1 : Int32} {M : qMem} {Q : qPost}
    (hV : ((s0 ≤ s1 → (narrow .boolean (.int l2) = .int l2 ∧ Q (some (.int l2)) M)) ∧ (¬ (s0 ≤ s1) → ((l2 = 0 → (P 80 27 [(0, .ref 0), (1, .ref 36), (2, .int (0 : Int32)), (3, .int (l3 + (1 : Int32)))] [] M Q)) ∧ (¬ (l2 = 0) → (P 46 0 [(0, .ref 0), (1, .int l3)] [] M (fun v M' => P 80 37 [(0, .ref 0), (1, .ref 36), (3, .int l3)] (v.toList ++ []) M' Q))))))) :
    P 80 31 [(0, .ref 0), (1, .ref 36), (2, .int l2), (3, .int l3)] [.int s0, .int s1] M Q := by
  exact qRun_ok hG (ops := qo_80) (cuts := qc_lw_areAlike) rfl 51 31 _ _ _ _ hV
set_option maxRecDepth 100000 in
theorem v_lw_areAlike_18 (hG : qGood Ls xs P) {l3 s0 s1 : Int32} {M : qMem} {Q : qPost}
    (hV : ((¬ s1 = s0 → (P 80 4 [(0, .ref 0), (1, .ref 36), (2, .int (0 : Int32)), (3, .int (l3 + (1 : Int32)))] [] M Q)) ∧ (¬ (¬ s1 = s0) → (P 80 4 [(0, .ref 0), (1, .ref 36), (2, .int (1 : Int32)), (3, .int (l3 + (1 : Int32)))] [] M Q)))) :
    P 80 18 [(0, .ref 0), (1, .ref 36), (3, .int l3)] [.int s0, .int s1] M Q := by
  exact qRun_ok hG (ops := qo_80) (cuts := qc_lw_areAlike) rfl 51 18 _ _ _ _ hV
set_option maxRecDepth 100000 in
theorem v_lw_areAlike_37 (hG : qGood Ls xs P) {l3 s0 : Int32} {M : qMem} {Q : qPost}
    (hV : (P 46 0 [(0, .ref 36), (1, .int l3)] [] M (fun v M' => P 80 40 [(0, .ref 0), (1, .ref 36), (3, .int l3)] (v.toList ++ [.int s0]) M' Q))) :
    P 80 37 [(0, .ref 0), (1, .ref 36), (3, .int l3)] [.int s0] M Q := by
  exact qRun_ok hG (ops := qo_80) (cuts := qc_lw_areAlike) rfl 51 37 _ _ _ _ hV
set_option maxRecDepth 100000 in
theorem v_lw_areAlike_40 (hG : qGood Ls xs P) {l3 s0 s1 : Int32} {M : qMem} {Q : qPost}
    (hV : ((¬ s1 = s0 → (P 80 27 [(0, .ref 0), (1, .ref 36), (2, .int (0 : Int32)), (3, .int (l3 + (1 : Int32)))] [] M Q)) ∧ (¬ (¬ s1 = s0) → (P 80 27 [(0, .ref 0), (1, .ref 36), (2, .int (1 : Int32)), (3, .int (l3 + (1 : Int32)))] [] M Q)))) :
    P 80 40 [(0, .ref 0), (1, .ref 36), (3, .int l3)] [.int s0, .int s1] M Q := by
  exact qRun_ok hG (ops := qo_80) (cuts := qc_lw_areAlike) rfl 51 40 _ _ _ _ hV
def qc_lw_law : List (Nat × List Nat) := [(10, [0, 1, 2, 3]), (18, [0, 1, 2, 3]), (26, [0, 1, 2, 3, 4]), (31, [0, 1, 2, 3, 4, 5]), (35, [0, 1, 2, 3, 4, 5]), (47, [0, 1, 2, 3, 4]), (52, [0, 1, 2, 3, 4]), (62, [0, 1, 2, 3, 4, 6]), (69, [0, 1, 2, 3, 6]), (71, [0, 1, 2, 3]), (76, [0, 1, 2, 3]), (85, [0, 1, 2]), (87, [0, 1, 2]), (88, [0, 1, 2]), (92, [0, 1]), (97, [0]), (99, [0]), (104, [0]), (106, [0]), (112, []), (114, []), (116, [])]
set_option maxRecDepth 100000 in
theorem v_lw_law_10 (hG : qGood Ls xs P) {l3 : Int32} {M : qMem} {Q : qPost}
    (hV : (((40 : Int32) ≤ l3 → (P 73 0 [(0, .ref 1000), (1, .int (80 : Int32))] [] M (fun v M' => P 81 85 [(0, .ref 1000), (1, .ref 0), (2, .ref 36)] (v.toList ++ [.ref 0]) M' Q))) ∧ (¬ ((40 : Int32) ≤ l3) → (P 73 0 [(0, .ref 1000), (1, .int ((2 : Int32) * l3))] [] M (fun v M' => P 81 18 [(0, .ref 1000), (1, .ref 0), (2, .ref 36), (3, .int l3)] (v.toList ++ []) M' Q))))) :
    P 81 10 [(0, .ref 1000), (1, .ref 0), (2, .ref 36), (3, .int l3)] [] M Q := by
  exact qRun_ok hG (ops := qo_81) (cuts := qc_lw_law) rfl 123 10 _ _ _ _ hV
set_option maxRecDepth 100000 in
theorem v_lw_law_85 (hG : qGood Ls xs P) {s0 : Int32} {M : qMem} {Q : qPost}
    (hV : (P 74 0 [(0, .int s0), (1, .int (4 : Int32))] [] M (fun v M' => P 81 87 [(0, .ref 1000), (1, .ref 0), (2, .ref 36)] (v.toList ++ [.ref 0]) M' Q))) :
    P 81 85 [(0, .ref 1000), (1, .ref 0), (2, .ref 36)] [.int s0, .ref 0] M Q := by
  exact qRun_ok hG (ops := qo_81) (cuts := qc_lw_law) rfl 123 85 _ _ _ _ hV
set_option maxRecDepth 100000 in
theorem v_lw_law_18 (hG : qGood Ls xs P) {l3 s0 : Int32} {M : qMem} {Q : qPost}
    (hV : (P 73 0 [(0, .ref 1000), (1, .int (((2 : Int32) * l3) + (1 : Int32)))] [] M (fun v M' => P 81 26 [(0, .ref 1000), (1, .ref 0), (2, .ref 36), (3, .int l3), (4, .int s0)] (v.toList ++ []) M' Q))) :
    P 81 18 [(0, .ref 1000), (1, .ref 0), (2, .ref 36), (3, .int l3)] [.int s0] M Q := by
  exact qRun_ok hG (ops := qo_81) (cuts := qc_lw_law) rfl 123 18 _ _ _ _ hV
set_option maxRecDepth 100000 in
theorem v_lw_law_87 (hG : qGood Ls xs P) {s0 : Int32} {M : qMem} {Q : qPost}
    (hV : (P 78 0 [(0, .ref 0), (1, .int s0)] [] M (fun v M' => P 81 88 [(0, .ref 1000), (1, .ref 0), (2, .ref 36)] (v.toList ++ []) M' Q))) :
    P 81 87 [(0, .ref 1000), (1, .ref 0), (2, .ref 36)] [.int s0, .ref 0] M Q := by
  exact qRun_ok hG (ops := qo_81) (cuts := qc_lw_law) rfl 123 87 _ _ _ _ hV
set_option maxRecDepth 100000 in
theorem v_lw_law_26 (hG : qGood Ls xs P) {l3 l4 s0 : Int32} {M : qMem} {Q : qPost}
    (hV : (P 75 0 [(0, .ref 0), (1, .int l4), (2, .int s0)] [] M (fun v M' => P 81 31 [(0, .ref 1000), (1, .ref 0), (2, .ref 36), (3, .int l3), (4, .int l4), (5, .int s0)] (v.toList ++ []) M' Q))) :
    P 81 26 [(0, .ref 1000), (1, .ref 0), (2, .ref 36), (3, .int l3), (4, .int l4)] [.int s0] M Q := by
  exact qRun_ok hG (ops := qo_81) (cuts := qc_lw_law) rfl 123 26 _ _ _ _ hV
set_option maxRecDepth 100000 in
theorem v_lw_law_88 (hG : qGood Ls xs P) {s0 : Int32} {M : qMem} {Q : qPost}
    (hV : ((s0 = 0 → (narrow .boolean (.int (0 : Int32)) = .int (0 : Int32) ∧ Q (some (.int (0 : Int32))) M)) ∧ (¬ (s0 = 0) → (P 80 0 [(0, .ref 0), (1, .ref 36)] [] M (fun v M' => P 81 92 [(0, .ref 1000), (1, .ref 0)] (v.toList ++ []) M' Q))))) :
    P 81 88 [(0, .ref 1000), (1, .ref 0), (2, .ref 36)] [.int s0] M Q := by
  exact qRun_ok hG (ops := qo_81) (cuts := qc_lw_law) rfl 123 88 _ _ _ _ hV
set_option maxRecDepth 100000 in
theorem v_lw_law_31 (hG : qGood Ls xs P) {l3 l4 l5 s0 : Int32} {M : qMem} {Q : qPost}
    (hV : (P 75 0 [(0, .ref 36), (1, .int l4), (2, .int l5)] [] M (fun v M' => P 81 35 [(0, .ref 1000), (1, .ref 0), (2, .ref 36), (3, .int l3), (4, .int l4), (5, .int l5)] (v.toList ++ [.int s0]) M' Q))) :
    P 81 31 [(0, .ref 1000), (1, .ref 0), (2, .ref 36), (3, .int l3), (4, .int l4), (5, .int l5)] [.int s0] M Q := by
  exact qRun_ok hG (ops := qo_81) (cuts := qc_lw_law) rfl 123 31 _ _ _ _ hV
set_option maxRecDepth 100000 in
theorem v_lw_law_92 (hG : qGood Ls xs P) {s0 : Int32} {M : qMem} {Q : qPost}
    (hV : ((s0 = 0 → (narrow .boolean (.int (0 : Int32)) = .int (0 : Int32) ∧ Q (some (.int (0 : Int32))) M)) ∧ (¬ (s0 = 0) → (P 73 0 [(0, .ref 1000), (1, .int (81 : Int32))] [] M (fun v M' => P 81 97 [(0, .ref 1000)] (v.toList ++ [.ref 0]) M' Q))))) :
    P 81 92 [(0, .ref 1000), (1, .ref 0)] [.int s0] M Q := by
  exact qRun_ok hG (ops := qo_81) (cuts := qc_lw_law) rfl 123 92 _ _ _ _ hV
set_option maxRecDepth 100000 in
theorem v_lw_law_35 (hG : qGood Ls xs P) {l3 l4 l5 s0 s1 : Int32} {M : qMem} {Q : qPost}
    (hV : ((s1 = s0 → (P 74 0 [(0, .int (l5 >>> ((9 : Int32) &&& 31))), (1, .int (3 : Int32))] [] M (fun v M' => P 81 47 [(0, .ref 1000), (1, .ref 0), (2, .ref 36), (3, .int l3), (4, .int l4)] (v.toList ++ [.int (l5 >>> ((4 : Int32) &&& 31)), .int (1 : Int32)]) M' Q))) ∧ (¬ (s1 = s0) → (narrow .boolean (.int (0 : Int32)) = .int (0 : Int32) ∧ Q (some (.int (0 : Int32))) M)))) :
    P 81 35 [(0, .ref 1000), (1, .ref 0), (2, .ref 36), (3, .int l3), (4, .int l4), (5, .int l5)] [.int s0, .int s1] M Q := by
  exact qRun_ok hG (ops := qo_81) (cuts := qc_lw_law) rfl 123 35 _ _ _ _ hV
set_option maxRecDepth 100000 in
theorem v_lw_law_97 (hG : qGood Ls xs P) {s0 : Int32} {M : qMem} {Q : qPost}
    (hV : (P 74 0 [(0, .int s0), (1, .int (41 : Int32))] [] M (fun v M' => P 81 99 [(0, .ref 1000)] (v.toList ++ [.ref 0]) M' Q))) :
    P 81 97 [(0, .ref 1000)] [.int s0, .ref 0] M Q := by
  exact qRun_ok hG (ops := qo_81) (cuts := qc_lw_law) rfl 123 97 _ _ _ _ hV
set_option maxRecDepth 100000 in
theorem v_lw_law_47 (hG : qGood Ls xs P) {l3 l4 s0 s1 s2 : Int32} {M : qMem} {Q : qPost}
    (hV : ((¬ s0 = 0 → (P 74 0 [(0, .int s1), (1, .int (5 : Int32))] [] M (fun v M' => P 81 52 [(0, .ref 1000), (1, .ref 0), (2, .ref 36), (3, .int l3), (4, .int l4)] (v.toList ++ [.int s2]) M' Q))) ∧ (¬ (¬ s0 = 0) → (P 74 0 [(0, .int s1), (1, .int (31 : Int32))] [] M (fun v M' => P 81 52 [(0, .ref 1000), (1, .ref 0), (2, .ref 36), (3, .int l3), (4, .int l4)] (v.toList ++ [.int s2]) M' Q))))) :
    P 81 47 [(0, .ref 1000), (1, .ref 0), (2, .ref 36), (3, .int l3), (4, .int l4)] [.int s0, .int s1, .int s2] M Q := by
  exact qRun_ok hG (ops := qo_81) (cuts := qc_lw_law) rfl 123 47 _ _ _ _ hV
set_option maxRecDepth 100000 in
theorem v_lw_law_99 (hG : qGood Ls xs P) {s0 : Int32} {M : qMem} {Q : qPost}
    (hV : (P 73 0 [(0, .ref 1000), (1, .int (82 : Int32))] [] M (fun v M' => P 81 104 [(0, .ref 1000)] (v.toList ++ [.int (s0 - (20 : Int32)), .ref 0]) M' Q))) :
    P 81 99 [(0, .ref 1000)] [.int s0, .ref 0] M Q := by
  exact qRun_ok hG (ops := qo_81) (cuts := qc_lw_law) rfl 123 99 _ _ _ _ hV
set_option maxRecDepth 100000 in
theorem v_lw_law_52 (hG : qGood Ls xs P) {l3 l4 s0 s1 : Int32} {M : qMem} {Q : qPost}
    (hV : (¬ (4 : Int32) = 0 ∧ ((¬ (l3 - l3 / (4 : Int32) * (4 : Int32)) = (3 : Int32) → (P 81 10 [(0, .ref 1000), (1, .ref 0), (2, .ref 36), (3, .int (l3 + (1 : Int32)))] [] M Q)) ∧ (¬ (¬ (l3 - l3 / (4 : Int32) * (4 : Int32)) = (3 : Int32)) → (P 76 0 [(0, .ref 0), (1, .int (s1 + s0))] [] M (fun v M' => P 81 62 [(0, .ref 1000), (1, .ref 0), (2, .ref 36), (3, .int l3), (4, .int l4), (6, .int (s1 + s0))] (v.toList ++ []) M' Q)))))) :
    P 81 52 [(0, .ref 1000), (1, .ref 0), (2, .ref 36), (3, .int l3), (4, .int l4)] [.int s0, .int s1] M Q := by
  exact qRun_ok hG (ops := qo_81) (cuts := qc_lw_law) rfl 123 52 _ _ _ _ hV
set_option maxRecDepth 100000 in
theorem v_lw_law_104 (hG : qGood Ls xs P) {s0 s1 : Int32} {M : qMem} {Q : qPost}
    (hV : (P 74 0 [(0, .int s0), (1, .int (201 : Int32))] [] M (fun v M' => P 81 106 [(0, .ref 1000)] (v.toList ++ [.int s1, .ref 0]) M' Q))) :
    P 81 104 [(0, .ref 1000)] [.int s0, .int s1, .ref 0] M Q := by
  exact qRun_ok hG (ops := qo_81) (cuts := qc_lw_law) rfl 123 104 _ _ _ _ hV
set_option maxRecDepth 100000 in
theorem v_lw_law_62 (hG : qGood Ls xs P) {l3 l4 l6 s0 : Int32} {M : qMem} {Q : qPost}
    (hV : ((s0 = 0 → (narrow .boolean (.int (0 : Int32)) = .int (0 : Int32) ∧ Q (some (.int (0 : Int32))) M)) ∧ (¬ (s0 = 0) → (P 74 0 [(0, .int (l4 >>> ((7 : Int32) &&& 31))), (1, .int (4 : Int32))] [] M (fun v M' => P 81 69 [(0, .ref 1000), (1, .ref 0), (2, .ref 36), (3, .int l3), (6, .int l6)] (v.toList ++ [.ref 0]) M' Q))))) :
    P 81 62 [(0, .ref 1000), (1, .ref 0), (2, .ref 36), (3, .int l3), (4, .int l4), (6, .int l6)] [.int s0] M Q := by
  exact qRun_ok hG (ops := qo_81) (cuts := qc_lw_law) rfl 123 62 _ _ _ _ hV
set_option maxRecDepth 100000 in
theorem v_lw_law_106 (hG : qGood Ls xs P) {s0 s1 : Int32} {M : qMem} {Q : qPost}
    (hV : (P 73 0 [(0, .ref 1000), (1, .int (83 : Int32))] [] M (fun v M' => P 81 112 [] (v.toList ++ [.int (1 : Int32), .int (s0 - (100 : Int32)), .int s1, .ref 0]) M' Q))) :
    P 81 106 [(0, .ref 1000)] [.int s0, .int s1, .ref 0] M Q := by
  exact qRun_ok hG (ops := qo_81) (cuts := qc_lw_law) rfl 123 106 _ _ _ _ hV
set_option maxRecDepth 100000 in
theorem v_lw_law_69 (hG : qGood Ls xs P) {l3 l6 s0 : Int32} {M : qMem} {Q : qPost}
    (hV : (P 77 0 [(0, .ref 0), (1, .int s0), (2, .int l6)] [] M (fun v M' => P 81 71 [(0, .ref 1000), (1, .ref 0), (2, .ref 36), (3, .int l3)] (v.toList ++ []) M' Q))) :
    P 81 69 [(0, .ref 1000), (1, .ref 0), (2, .ref 36), (3, .int l3), (6, .int l6)] [.int s0, .ref 0] M Q := by
  exact qRun_ok hG (ops := qo_81) (cuts := qc_lw_law) rfl 123 69 _ _ _ _ hV
set_option maxRecDepth 100000 in
theorem v_lw_law_112 (hG : qGood Ls xs P) {s0 s1 s2 s3 : Int32} {M : qMem} {Q : qPost}
    (hV : (P 74 0 [(0, .int s0), (1, .int (4 : Int32))] [] M (fun v M' => P 81 114 [] (v.toList ++ [.int s1, .int s2, .int s3, .ref 0]) M' Q))) :
    P 81 112 [] [.int s0, .int s1, .int s2, .int s3, .ref 0] M Q := by
  exact qRun_ok hG (ops := qo_81) (cuts := qc_lw_law) rfl 123 112 _ _ _ _ hV
set_option maxRecDepth 100000 in
theorem v_lw_law_71 (hG : qGood Ls xs P) {l3 s0 : Int32} {M : qMem} {Q : qPost}
    (hV : ((s0 = 0 → (narrow .boolean (.int (0 : Int32)) = .int (0 : Int32) ∧ Q (some (.int (0 : Int32))) M)) ∧ (¬ (s0 = 0) → (P 77 0 [(0, .ref 0), (1, .int (2 : Int32)), (2, .int (1 : Int32))] [] M (fun v M' => P 81 76 [(0, .ref 1000), (1, .ref 0), (2, .ref 36), (3, .int l3)] (v.toList ++ []) M' Q))))) :
    P 81 71 [(0, .ref 1000), (1, .ref 0), (2, .ref 36), (3, .int l3)] [.int s0] M Q := by
  exact qRun_ok hG (ops := qo_81) (cuts := qc_lw_law) rfl 123 71 _ _ _ _ hV
set_option maxRecDepth 100000 in
theorem v_lw_law_114 (hG : qGood Ls xs P) {s0 s1 s2 s3 : Int32} {M : qMem} {Q : qPost}
    (hV : (P 79 0 [(0, .ref 0), (1, .int s3), (2, .int s2), (3, .int (s1 + s0))] [] M (fun v M' => P 81 116 [] (v.toList ++ []) M' Q))) :
    P 81 114 [] [.int s0, .int s1, .int s2, .int s3, .ref 0] M Q := by
  exact qRun_ok hG (ops := qo_81) (cuts := qc_lw_law) rfl 123 114 _ _ _ _ hV
set_option maxRecDepth 100000 in
theorem v_lw_law_76 (hG : qGood Ls xs P) {l3 s0 : Int32} {M : qMem} {Q : qPost}
    (hV : ((¬ s0 = 0 → (P 81 10 [(0, .ref 1000), (1, .ref 0), (2, .ref 36), (3, .int (l3 + (1 : Int32)))] [] M Q)) ∧ (¬ (¬ s0 = 0) → (narrow .boolean (.int (0 : Int32)) = .int (0 : Int32) ∧ Q (some (.int (0 : Int32))) M)))) :
    P 81 76 [(0, .ref 1000), (1, .ref 0), (2, .ref 36), (3, .int l3)] [.int s0] M Q := by
  exact qRun_ok hG (ops := qo_81) (cuts := qc_lw_law) rfl 123 76 _ _ _ _ hV
set_option maxRecDepth 100000 in
theorem v_lw_law_116 (hG : qGood Ls xs P) {s0 : Int32} {M : qMem} {Q : qPost}
    (hV : ((s0 = 0 → (narrow .boolean (.int (0 : Int32)) = .int (0 : Int32) ∧ Q (some (.int (0 : Int32))) M)) ∧ (¬ (s0 = 0) → (narrow .boolean (.int (1 : Int32)) = .int (1 : Int32) ∧ Q (some (.int (1 : Int32))) M)))) :
    P 81 116 [] [.int s0] M Q := by
  exact qRun_ok hG (ops := qo_81) (cuts := qc_lw_law) rfl 123 116 _ _ _ _ hV
end VC
end
section
/-! two analyzers: the second is the first under other names -/
def sg (k : Nat) : Nat := if k < 36 then k + 36 else if k < 72 then k - 36 else k
def swM (M : qMem) : qMem := (fun k => M.1 (sg k), fun k => M.2 (sg k))
theorem sg_1 {k : Nat} (h : k < 36) : sg k = k + 36 := if_pos h
theorem sg_2 {k : Nat} (h1 : ¬ k < 36) (h : k < 72) : sg k = k - 36 := by
  unfold sg
  rw [if_neg h1, if_pos h]
theorem sg_3 {k : Nat} (h : ¬ k < 72) : sg k = k := by
  unfold sg
  rw [if_neg (by omega), if_neg h]
theorem sg_sg (k : Nat) : sg (sg k) = k := by
  by_cases h1 : k < 36
  · rw [sg_1 h1, sg_2 (by omega) (by omega)]
    omega
  · by_cases h2 : k < 72
    · rw [sg_2 h1 h2, sg_1 (by omega)]
      omega
    · rw [sg_3 h2, sg_3 h2]
theorem sg_lt {k : Nat} (h : k < 72) : sg k < 72 := by
  by_cases h1 : k < 36
  · rw [sg_1 h1]
    omega
  · rw [sg_2 h1 h]
    omega
theorem sg_lo {k : Nat} (h : k < 36) : sg k = k + 36 := if_pos h
theorem sg_1000 : sg 1000 = 1000 := rfl
theorem swM_swM (M : qMem) : swM (swM M) = M := by
  show ((fun k => M.1 (sg (sg k)), fun k => M.2 (sg (sg k))) : qMem) = M
  simp only [sg_sg]
theorem sg_sh : ∀ k, k < 72 → shT (sg k) = shT k ∧ shL (sg k) = shL k := by decide
theorem rfTl_lt : ∀ l ∈ rfTl, ∀ x ∈ l, x < 36 := by decide
theorem rf0_lt (k j : Nat) : (rfTl.getD k []).getD j 0 < 36 := by
  rw [List.getD_eq_getElem?_getD]
  cases h : (rfTl.getD k [])[j]? with
  | none => exact Nat.zero_lt_succ _
  | some x =>
    show x < 36
    rw [List.getD_eq_getElem?_getD] at h
    cases h2 : rfTl[k]? with
    | none =>
      rw [h2] at h
      simp at h
    | some l =>
      rw [h2] at h
      exact rfTl_lt l (List.mem_of_getElem? h2) x (List.mem_of_getElem? h)
theorem sg_rf {k : Nat} (h : k < 72) (j : Nat) : sg (rf k j) = rf (sg k) j := by
  have hl : ∀ k, k < 36 → rf k j = (rfTl.getD k []).getD j 0 := fun k hk => by
    unfold rf
    rw [show Nat.ble 36 k = false by
      cases e : Nat.ble 36 k with
      | false => rfl
      | true => exact absurd (Nat.le_of_ble_eq_true e) (by omega)]
    rfl
  have hh : ∀ k, 36 ≤ k → rf k j = 36 + (rfTl.getD (k - 36) []).getD j 0 := fun k hk => by
    unfold rf
    rw [Nat.ble_eq_true_of_le hk]
    rfl
  rcases Nat.lt_or_ge k 36 with q | q
  · rw [sg_lo q, hl k q, hh (k + 36) (by omega), sg_lo (rf0_lt k j), Nat.add_sub_cancel]
    omega
  · have e : sg k = k - 36 := by
      unfold sg
      rw [if_neg (by omega), if_pos h]
    have h2 := rf0_lt (k - 36) j
    rw [e, hh k q, hl (k - 36) (by omega)]
    unfold sg
    rw [if_neg (by omega), if_pos (by omega)]
    omega
section SW
variable {l : Launch} {ad : Nat → Nat} {dC : Nat → ClassId} {dI : Nat → Nat → Nat} {aC : Nat → ClassId} {b Ls : Nat} {xs : Nat → Int32}
theorem ent_sw (M : qMem) {k : Nat} (hk : k < 72) : ent (fun a => ad (sg a)) aC M k = ent ad aC (swM M) (sg k) := by
  have e1 : (swM M).1 (sg k) = M.1 k := by
    show M.1 (sg (sg k)) = M.1 k
    rw [sg_sg]
  have e2 : (swM M).2 (sg k) = M.2 k := by
    show M.2 (sg (sg k)) = M.2 k
    rw [sg_sg]
  unfold ent fv
  simp only [(sg_sh k hk).1, (sg_sh k hk).2, e1, e2, sg_rf hk]
theorem wl_sw (M : qMem) {k : Nat} (hk : k < 72) : (wl (fun a => ad (sg a)) aC M)[k]? = (wl ad aC (swM M))[sg k]? := by
  rw [wl_get hk, wl_get (sg_lt hk), ent_sw M hk]
theorem va_P_sw {M : qMem} {H : Heap} (h : va_P (dC, dI) vwCl (wl ad aC (swM M)) H) : va_P (dC, dI) vwCl (wl (fun a => ad (sg a)) aC M) H := by
  intro k q hq
  have hk : k < 72 := by
    have h1 := (List.getElem?_eq_some_iff.mp hq).1
    have hlen : (wl (fun a => ad (sg a)) aC M).length = 72 := by simp [wl]
    omega
  rw [wl_sw M hk] at hq
  exact h (sg k) q hq
theorem va_P_ws {M : qMem} {H : Heap} (h : va_P (dC, dI) vwCl (wl (fun a => ad (sg a)) aC M) H) : va_P (dC, dI) vwCl (wl ad aC (swM M)) H := by
  intro k q hq
  have hk : k < 72 := by
    have h1 := (List.getElem?_eq_some_iff.mp hq).1
    have hlen : (wl ad aC (swM M)).length = 72 := by simp [wl]
    omega
  refine h (sg k) q ?_
  rw [wl_sw M (sg_lt hk), sg_sg]
  exact hq
theorem qA_sw : qA (fun a => ad (sg a)) = qA ad := by
  funext q
  refine propext ⟨fun h => ?_, fun h => ?_⟩
  · obtain ⟨k, hk, e⟩ := h
    exact ⟨sg k, sg_lt hk, e⟩
  · obtain ⟨k, hk, e⟩ := h
    refine ⟨sg k, sg_lt hk, ?_⟩
    rw [e]
    show ad k = ad (sg (sg k))
    rw [sg_sg]
theorem qAd_sw (hA : qAd ad b) : qAd (fun a => ad (sg a)) b := ⟨fun i j hi hj e => by
    have h := hA.1 (sg i) (sg j) (sg_lt hi) (sg_lt hj) e
    rw [← sg_sg i, h, sg_sg], fun k hk => hA.2.1 _ (sg_lt hk), hA.2.2⟩
theorem PM_sw {y i : Nat} {L L' : qLc} {stk stk' : List Value} {M : qMem} {Q : qPost} (hL : trL ad L' = trL (fun a => ad (sg a)) L) (hs : trS ad stk' = trS (fun a => ad (sg a)) stk)
    (h : PM l (fun a => ad (sg a)) dC dI aC b Ls xs y i L stk (swM M) (fun v M' => (∃ r, v = some (.int r)) ∧ Q v (swM M'))) : PM l ad dC dI aC b Ls xs y i L' stk' M Q := by
  intro p e R s m args below meth c H locs cells slots ls G C hP hS hl hr
  rw [hL] at hl
  rw [hs]
  refine h p e R s m args below meth c H locs cells slots ls G C (va_P_sw (by rw [swM_swM]; exact hP)) (by rw [qA_sw]; exact hS) hl ?_
  intro v M' H' locs' ls' pc' hret hq hP' hS'
  obtain ⟨⟨r, rfl⟩, hq⟩ := hq
  rw [qA_sw] at hS'
  exact hr (some (.int r)) (swM M') H' locs' ls' pc' hret hq (va_P_ws hP') hS'
end SW
/-- the second analyzer's calls in the words of the first's -/
def qTw (P P2 : qSem) : Prop := ∀ (y : Nat) (zs : List (Nat × Int32)) (M : qMem) (Q : qPost), P2 y 0 ((0, .ref 0) :: zs.map (fun q => (q.1, .int q.2))) [] (swM M) (fun v M' => (∃ r, v = some (.int r)) ∧ Q v (swM M')) → P y 0 ((0, .ref 36) :: zs.map (fun q => (q.1, .int q.2))) [] M Q
theorem qTw_PM {l : Launch} {ad : Nat → Nat} {dC : Nat → ClassId} {dI : Nat → Nat → Nat} {aC : Nat → ClassId} {b Ls : Nat} {xs : Nat → Int32} : qTw (PM l ad dC dI aC b Ls xs) (PM l (fun a => ad (sg a)) dC dI aC b Ls xs) := by
  intro y zs M Q h
  refine PM_sw ?_ rfl h
  unfold trL
  simp only [List.map_cons, List.map_map]
  congr 1
theorem mFrm_sw {M M' : qMem} (h : cFrm M M') : mFrm (swM M) (swM M') := fun a ha => by
  show M'.1 (sg a) = M.1 (sg a)
  rw [sg_lo ha]
  exact h (a + 36) (by omega)
theorem mFrm_ws {M M2 : qMem} (h : cFrm (swM M) M2) : mFrm M (swM M2) := fun a ha => by
  show M2.1 (sg a) = M.1 a
  rw [sg_lo ha, h (a + 36) (by omega)]
  show M.1 (sg (a + 36)) = M.1 a
  rw [← sg_lo ha, sg_sg]
/-- both analyzers hold the same -/
def CC (s : zSt) (M : qMem) : Prop := CS s M ∧ CS s (swM M)
end
section
/-! the law's words: cells of the script, low -/
theorem iLn9 : ((-9) : Int32) = iI (-9) := by decide
theorem iL11 : (11 : Int32) = iI 11 := by decide
theorem iL12 : (12 : Int32) = iI 12 := by decide
theorem iL13 : (13 : Int32) = iI 13 := by decide
theorem iL14 : (14 : Int32) = iI 14 := by decide
theorem iL17 : (17 : Int32) = iI 17 := by decide
theorem iL18 : (18 : Int32) = iI 18 := by decide
theorem iL19 : (19 : Int32) = iI 19 := by decide
theorem iL20 : (20 : Int32) = iI 20 := by decide
theorem iL41 : (41 : Int32) = iI 41 := by decide
theorem iL80 : (80 : Int32) = iI 80 := by decide
theorem iL81 : (81 : Int32) = iI 81 := by decide
theorem iL82 : (82 : Int32) = iI 82 := by decide
theorem iL83 : (83 : Int32) = iI 83 := by decide
theorem iL100 : (100 : Int32) = iI 100 := by decide
theorem iL201 : (201 : Int32) = iI 201 := by decide
theorem iL1000 : (1000 : Int32) = iI 1000 := by decide
theorem iL2001 : (2001 : Int32) = iI 2001 := by decide
theorem iL100000 : (100000 : Int32) = iI 100000 := by decide
theorem iL199999 : (199999 : Int32) = iI 199999 := by decide
theorem iL747796405 : (747796405 : Int32) = iI 747796405 := by decide
theorem iL2147483647 : (2147483647 : Int32) = iI 2147483647 := by decide
theorem ofN (n : Nat) : Int32.ofNat n = iI n := Int32.ofInt_eq_ofNat.symm
def lwz (x : Int32) (n : Int) : Int := (x &&& (2147483647 : Int32)).toInt % n
theorem lwz_in (x : Int32) {n : Int} (h : 1 ≤ n) : 0 ≤ lwz x n ∧ lwz x n < n := ⟨Int.emod_nonneg _ (by omega), Int.emod_lt_of_pos _ (by omega)⟩
theorem lw_and (x : Int32) : ∃ z : Int, x &&& (2147483647 : Int32) = iI z ∧ 0 ≤ z ∧ z < 2147483648 := by
  obtain ⟨j, hj, hx⟩ := pk_andE x (m := 2147483647) 31 (by decide)
  exact ⟨(j : Int), by rw [hx]; exact ofN j, by omega, by omega⟩
def cellz (Ls : Nat) (xs : Nat → Int32) (k : Nat) : Int32 := if Ls ≤ k then (747796405 : Int32) * (iI k + (1 : Int32)) else xs k
section LWB
variable {Ls : Nat} {xs : Nat → Int32} {P : qSem} {M : qMem} {Q : qPost}
theorem s_low (hG : qGood Ls xs P) {x : Int32} {n : Int} (h1 : 1 ≤ n) (h2 : n < 2147483648) (hQ : Q (some (.int (iI (lwz x n)))) M) : P 74 0 [(0, .int x), (1, .int (iI n))] [] M Q := by
  refine v_lw_low_0 hG ?_
  obtain ⟨z, hz, h3, h4⟩ := lw_and x
  have e : lwz x n = z % n := by
    unfold lwz
    rw [hz, iI_toInt (by omega) h4]
  rw [hz, iL0, iI_div h3 h4 (by omega) h2, iI_mul, iI_sub, iI_eq (by omega) h2 (by omega) (by omega)]
  refine ⟨by omega, ?_⟩
  rw [e, Int.emod_def, Int.mul_comm] at hQ
  exact hQ
theorem s_cell (hG : qGood Ls xs P) (hL : Ls ≤ 260) {k : Nat} (hk : k < 1000) (hQ : Q (some (.int (cellz Ls xs k))) M) : P 73 0 [(0, .ref 1000), (1, .int (iI k))] [] M Q := by
  refine v_lw_cell_0 hG ?_
  rw [ofN, iI_le (by omega) (by omega) (by omega) (by omega)]
  unfold cellz at hQ
  refine ⟨fun c => ?_, fun c => ?_⟩
  · rw [if_pos (by omega)] at hQ
    exact hQ
  · rw [if_neg (by omega)] at hQ
    refine ⟨(vp_iI (by omega) (by omega)).mpr ⟨by omega, by omega⟩, ?_⟩
    rw [iI_cl (by omega) (by omega), Int.toNat_natCast]
    exact hQ
end LWB
end
section
/-! change: what it answers and what it makes of the state -/
theorem CS.dep {s : zSt} {M : qMem} (h : CS s M) : M.1 6 2 = iI s.2.1.1 := by
  obtain ⟨o, h1, h2, h3, h4, h5⟩ := h.2.1
  exact h4
theorem iz0 {r : Int} (h1 : 0 ≤ r) (h2 : r < 2147483648) : (iI r = (0 : Int32)) ↔ r = 0 := by
  rw [iL0, iI_eq (by omega) h2 (by omega) (by omega)]
section CHG
variable {Ls : Nat} {xs : Nat → Int32} {P : qSem} {M : qMem} {Q : qPost} {s : zSt} {more v : Int32}
theorem s_lowL (hG : qGood Ls xs P) {x n : Int32} (z : Int) (e : n = iI z) (h1 : 1 ≤ z) (h2 : z < 2147483648) (hQ : Q (some (.int (iI (lwz x z)))) M) : P 74 0 [(0, .int x), (1, .int n)] [] M Q := by
  rw [e]
  exact s_low hG h1 h2 hQ
theorem C_told0 (hG : qGood Ls xs P) (hS : CS s M) (hQ : Q (some (.int (iI s.1.1))) M) : P 45 0 [(0, .ref 0), (1, .int (0 : Int32))] [] M Q := by
  rw [iL0]
  exact C_told hG hS.1 hS.2.2.2.1.1 hS.dep ⟨by decide, by decide⟩ hQ
theorem sw27_0 (hG : qGood Ls xs P) {l4 l5 : Int32} (h : (P 74 0 [(0, .int (more >>> ((10 : Int32) &&& 31))), (1, .int (3 : Int32))] [] M (fun v M' => P 75 35 [(2, .int more)] (v.toList ++ [.int more, .ref 0]) M' Q))) :
    P 75 27 [(0, .ref 0), (2, .int more), (4, .int l4), (5, .int l5)] [.int (iI 0)] M Q := by
  refine v_lw_change_27 hG ?_
  exact ⟨fun _ => h, fun c => absurd rfl c⟩
theorem sw27_1 (hG : qGood Ls xs P) {l4 l5 : Int32} (h : (P 74 0 [(0, .int (more >>> ((10 : Int32) &&& 31))), (1, .int (3 : Int32))] [] M (fun v M' => P 75 35 [(2, .int more)] (v.toList ++ [.int more, .ref 0]) M' Q))) :
    P 75 27 [(0, .ref 0), (2, .int more), (4, .int l4), (5, .int l5)] [.int (iI 1)] M Q := by
  refine v_lw_change_27 hG ?_
  exact ⟨fun c => absurd c (by decide), fun _ => ⟨fun _ => h, fun c => absurd rfl c⟩⟩
theorem sw27_2 (hG : qGood Ls xs P) {l4 l5 : Int32} (h : (P 74 0 [(0, .int (more >>> ((10 : Int32) &&& 31))), (1, .int (3 : Int32))] [] M (fun v M' => P 75 35 [(2, .int more)] (v.toList ++ [.int more, .ref 0]) M' Q))) :
    P 75 27 [(0, .ref 0), (2, .int more), (4, .int l4), (5, .int l5)] [.int (iI 2)] M Q := by
  refine v_lw_change_27 hG ?_
  exact ⟨fun c => absurd c (by decide), fun _ => ⟨fun c => absurd c (by decide), fun _ => ⟨fun _ => h, fun c => absurd rfl c⟩⟩⟩
theorem sw27_3 (hG : qGood Ls xs P) {l4 l5 : Int32} (h : (P 74 0 [(0, .int (more >>> ((10 : Int32) &&& 31))), (1, .int (3 : Int32))] [] M (fun v M' => P 75 35 [(2, .int more)] (v.toList ++ [.int more, .ref 0]) M' Q))) :
    P 75 27 [(0, .ref 0), (2, .int more), (4, .int l4), (5, .int l5)] [.int (iI 3)] M Q := by
  refine v_lw_change_27 hG ?_
  exact ⟨fun c => absurd c (by decide), fun _ => ⟨fun c => absurd c (by decide), fun _ => ⟨fun c => absurd c (by decide), fun _ => ⟨fun _ => h, fun c => absurd rfl c⟩⟩⟩⟩
theorem sw27_4 (hG : qGood Ls xs P) {l4 l5 : Int32} (h : (P 74 0 [(0, .int (more >>> ((10 : Int32) &&& 31))), (1, .int (3 : Int32))] [] M (fun v M' => P 75 35 [(2, .int more)] (v.toList ++ [.int more, .ref 0]) M' Q))) :
    P 75 27 [(0, .ref 0), (2, .int more), (4, .int l4), (5, .int l5)] [.int (iI 4)] M Q := by
  refine v_lw_change_27 hG ?_
  exact ⟨fun c => absurd c (by decide), fun _ => ⟨fun c => absurd c (by decide), fun _ => ⟨fun c => absurd c (by decide), fun _ => ⟨fun c => absurd c (by decide), fun _ => ⟨fun _ => h, fun c => absurd rfl c⟩⟩⟩⟩⟩
theorem sw27_5 (hG : qGood Ls xs P) {l4 l5 : Int32} (h : (P 74 0 [(0, .int (more >>> ((10 : Int32) &&& 31))), (1, .int (3 : Int32))] [] M (fun v M' => P 75 35 [(2, .int more)] (v.toList ++ [.int more, .ref 0]) M' Q))) :
    P 75 27 [(0, .ref 0), (2, .int more), (4, .int l4), (5, .int l5)] [.int (iI 5)] M Q := by
  refine v_lw_change_27 hG ?_
  exact ⟨fun c => absurd c (by decide), fun _ => ⟨fun c => absurd c (by decide), fun _ => ⟨fun c => absurd c (by decide), fun _ => ⟨fun c => absurd c (by decide), fun _ => ⟨fun c => absurd c (by decide), fun _ => ⟨fun _ => h, fun c => absurd rfl c⟩⟩⟩⟩⟩⟩
theorem sw27_6 (hG : qGood Ls xs P) {l4 l5 : Int32} (h : (P 74 0 [(0, .int (more >>> ((10 : Int32) &&& 31))), (1, .int (3 : Int32))] [] M (fun v M' => P 75 35 [(2, .int more)] (v.toList ++ [.int more, .ref 0]) M' Q))) :
    P 75 27 [(0, .ref 0), (2, .int more), (4, .int l4), (5, .int l5)] [.int (iI 6)] M Q := by
  refine v_lw_change_27 hG ?_
  exact ⟨fun c => absurd c (by decide), fun _ => ⟨fun c => absurd c (by decide), fun _ => ⟨fun c => absurd c (by decide), fun _ => ⟨fun c => absurd c (by decide), fun _ => ⟨fun c => absurd c (by decide), fun _ => ⟨fun c => absurd c (by decide), fun _ => ⟨fun _ => h, fun c => absurd rfl c⟩⟩⟩⟩⟩⟩⟩
theorem sw27_7 (hG : qGood Ls xs P) {l4 l5 : Int32} (h : (P 74 0 [(0, .int (more >>> ((10 : Int32) &&& 31))), (1, .int (3 : Int32))] [] M (fun v M' => P 75 35 [(2, .int more)] (v.toList ++ [.int more, .ref 0]) M' Q))) :
    P 75 27 [(0, .ref 0), (2, .int more), (4, .int l4), (5, .int l5)] [.int (iI 7)] M Q := by
  refine v_lw_change_27 hG ?_
  exact ⟨fun c => absurd c (by decide), fun _ => ⟨fun c => absurd c (by decide), fun _ => ⟨fun c => absurd c (by decide), fun _ => ⟨fun c => absurd c (by decide), fun _ => ⟨fun c => absurd c (by decide), fun _ => ⟨fun c => absurd c (by decide), fun _ => ⟨fun c => absurd c (by decide), fun _ => ⟨fun _ => h, fun c => absurd rfl c⟩⟩⟩⟩⟩⟩⟩⟩
theorem sw27_8 (hG : qGood Ls xs P) {l4 l5 : Int32} (h : (P 74 0 [(0, .int more), (1, .int (3 : Int32))] [] M (fun v M' => P 75 57 [] (v.toList ++ [.int (1 : Int32), .ref 0]) M' Q))) :
    P 75 27 [(0, .ref 0), (2, .int more), (4, .int l4), (5, .int l5)] [.int (iI 8)] M Q := by
  refine v_lw_change_27 hG ?_
  exact ⟨fun c => absurd c (by decide), fun _ => ⟨fun c => absurd c (by decide), fun _ => ⟨fun c => absurd c (by decide), fun _ => ⟨fun c => absurd c (by decide), fun _ => ⟨fun c => absurd c (by decide), fun _ => ⟨fun c => absurd c (by decide), fun _ => ⟨fun c => absurd c (by decide), fun _ => ⟨fun c => absurd c (by decide), fun _ => ⟨fun _ => h, fun c => absurd rfl c⟩⟩⟩⟩⟩⟩⟩⟩⟩
theorem sw27_9 (hG : qGood Ls xs P) {l4 l5 : Int32} (h : (P 74 0 [(0, .int more), (1, .int (3 : Int32))] [] M (fun v M' => P 75 65 [(2, .int more)] (v.toList ++ [.int l4, .ref 0]) M' Q))) :
    P 75 27 [(0, .ref 0), (2, .int more), (4, .int l4), (5, .int l5)] [.int (iI 9)] M Q := by
  refine v_lw_change_27 hG ?_
  exact ⟨fun c => absurd c (by decide), fun _ => ⟨fun c => absurd c (by decide), fun _ => ⟨fun c => absurd c (by decide), fun _ => ⟨fun c => absurd c (by decide), fun _ => ⟨fun c => absurd c (by decide), fun _ => ⟨fun c => absurd c (by decide), fun _ => ⟨fun c => absurd c (by decide), fun _ => ⟨fun c => absurd c (by decide), fun _ => ⟨fun c => absurd c (by decide), fun _ => ⟨fun _ => h, fun c => absurd rfl c⟩⟩⟩⟩⟩⟩⟩⟩⟩⟩
theorem sw27_10 (hG : qGood Ls xs P) {l4 l5 : Int32} (h : (P 74 0 [(0, .int more), (1, .int (12 : Int32))] [] M (fun v M' => P 75 78 [(0, .ref 0)] (v.toList ++ []) M' Q))) :
    P 75 27 [(0, .ref 0), (2, .int more), (4, .int l4), (5, .int l5)] [.int (iI 10)] M Q := by
  refine v_lw_change_27 hG ?_
  exact ⟨fun c => absurd c (by decide), fun _ => ⟨fun c => absurd c (by decide), fun _ => ⟨fun c => absurd c (by decide), fun _ => ⟨fun c => absurd c (by decide), fun _ => ⟨fun c => absurd c (by decide), fun _ => ⟨fun c => absurd c (by decide), fun _ => ⟨fun c => absurd c (by decide), fun _ => ⟨fun c => absurd c (by decide), fun _ => ⟨fun c => absurd c (by decide), fun _ => ⟨fun c => absurd c (by decide), fun _ => ⟨fun _ => h, fun c => absurd rfl c⟩⟩⟩⟩⟩⟩⟩⟩⟩⟩⟩
theorem sw27_11 (hG : qGood Ls xs P) {l4 l5 : Int32} (h : (P 38 0 [(0, .ref 0), (1, .int l4), (2, .int l5)] [] M (fun v M' => P 75 89 [] (v.toList ++ []) M' Q))) :
    P 75 27 [(0, .ref 0), (2, .int more), (4, .int l4), (5, .int l5)] [.int (iI 11)] M Q := by
  refine v_lw_change_27 hG ?_
  exact ⟨fun c => absurd c (by decide), fun _ => ⟨fun c => absurd c (by decide), fun _ => ⟨fun c => absurd c (by decide), fun _ => ⟨fun c => absurd c (by decide), fun _ => ⟨fun c => absurd c (by decide), fun _ => ⟨fun c => absurd c (by decide), fun _ => ⟨fun c => absurd c (by decide), fun _ => ⟨fun c => absurd c (by decide), fun _ => ⟨fun c => absurd c (by decide), fun _ => ⟨fun c => absurd c (by decide), fun _ => ⟨fun c => absurd c (by decide), fun _ => ⟨fun _ => h, fun c => absurd rfl c⟩⟩⟩⟩⟩⟩⟩⟩⟩⟩⟩⟩
theorem sw27_12 (hG : qGood Ls xs P) {l4 l5 : Int32} (h : (P 74 0 [(0, .int more), (1, .int (41 : Int32))] [] M (fun v M' => P 75 94 [(2, .int more)] (v.toList ++ [.ref 0]) M' Q))) :
    P 75 27 [(0, .ref 0), (2, .int more), (4, .int l4), (5, .int l5)] [.int (iI 12)] M Q := by
  refine v_lw_change_27 hG ?_
  exact ⟨fun c => absurd c (by decide), fun _ => ⟨fun c => absurd c (by decide), fun _ => ⟨fun c => absurd c (by decide), fun _ => ⟨fun c => absurd c (by decide), fun _ => ⟨fun c => absurd c (by decide), fun _ => ⟨fun c => absurd c (by decide), fun _ => ⟨fun c => absurd c (by decide), fun _ => ⟨fun c => absurd c (by decide), fun _ => ⟨fun c => absurd c (by decide), fun _ => ⟨fun c => absurd c (by decide), fun _ => ⟨fun c => absurd c (by decide), fun _ => ⟨fun c => absurd c (by decide), fun _ => ⟨fun _ => h, fun c => absurd rfl c⟩⟩⟩⟩⟩⟩⟩⟩⟩⟩⟩⟩⟩
theorem sw27_13 (hG : qGood Ls xs P) {l4 l5 : Int32} (h : (P 40 0 [(0, .ref 0)] [] M (fun v M' => P 75 107 [] (v.toList ++ []) M' Q))) :
    P 75 27 [(0, .ref 0), (2, .int more), (4, .int l4), (5, .int l5)] [.int (iI 13)] M Q := by
  refine v_lw_change_27 hG ?_
  exact ⟨fun c => absurd c (by decide), fun _ => ⟨fun c => absurd c (by decide), fun _ => ⟨fun c => absurd c (by decide), fun _ => ⟨fun c => absurd c (by decide), fun _ => ⟨fun c => absurd c (by decide), fun _ => ⟨fun c => absurd c (by decide), fun _ => ⟨fun c => absurd c (by decide), fun _ => ⟨fun c => absurd c (by decide), fun _ => ⟨fun c => absurd c (by decide), fun _ => ⟨fun c => absurd c (by decide), fun _ => ⟨fun c => absurd c (by decide), fun _ => ⟨fun c => absurd c (by decide), fun _ => ⟨fun c => absurd c (by decide), fun _ => ⟨fun _ => h, fun c => absurd rfl c⟩⟩⟩⟩⟩⟩⟩⟩⟩⟩⟩⟩⟩⟩
theorem sw27_14 (hG : qGood Ls xs P) {l4 l5 : Int32} (h : (P 74 0 [(0, .int more), (1, .int (3 : Int32))] [] M (fun v M' => P 75 112 [(2, .int more)] (v.toList ++ [.ref 0]) M' Q))) :
    P 75 27 [(0, .ref 0), (2, .int more), (4, .int l4), (5, .int l5)] [.int (iI 14)] M Q := by
  refine v_lw_change_27 hG ?_
  exact ⟨fun c => absurd c (by decide), fun _ => ⟨fun c => absurd c (by decide), fun _ => ⟨fun c => absurd c (by decide), fun _ => ⟨fun c => absurd c (by decide), fun _ => ⟨fun c => absurd c (by decide), fun _ => ⟨fun c => absurd c (by decide), fun _ => ⟨fun c => absurd c (by decide), fun _ => ⟨fun c => absurd c (by decide), fun _ => ⟨fun c => absurd c (by decide), fun _ => ⟨fun c => absurd c (by decide), fun _ => ⟨fun c => absurd c (by decide), fun _ => ⟨fun c => absurd c (by decide), fun _ => ⟨fun c => absurd c (by decide), fun _ => ⟨fun c => absurd c (by decide), fun _ => ⟨fun _ => h, fun c => absurd rfl c⟩⟩⟩⟩⟩⟩⟩⟩⟩⟩⟩⟩⟩⟩⟩
theorem sw27_15 (hG : qGood Ls xs P) {l4 l5 : Int32} (h : (P 74 0 [(0, .int more), (1, .int (6 : Int32))] [] M (fun v M' => P 75 131 [] (v.toList ++ [.int (1 : Int32), .ref 0]) M' Q))) :
    P 75 27 [(0, .ref 0), (2, .int more), (4, .int l4), (5, .int l5)] [.int (iI 15)] M Q := by
  refine v_lw_change_27 hG ?_
  exact ⟨fun c => absurd c (by decide), fun _ => ⟨fun c => absurd c (by decide), fun _ => ⟨fun c => absurd c (by decide), fun _ => ⟨fun c => absurd c (by decide), fun _ => ⟨fun c => absurd c (by decide), fun _ => ⟨fun c => absurd c (by decide), fun _ => ⟨fun c => absurd c (by decide), fun _ => ⟨fun c => absurd c (by decide), fun _ => ⟨fun c => absurd c (by decide), fun _ => ⟨fun c => absurd c (by decide), fun _ => ⟨fun c => absurd c (by decide), fun _ => ⟨fun c => absurd c (by decide), fun _ => ⟨fun c => absurd c (by decide), fun _ => ⟨fun c => absurd c (by decide), fun _ => ⟨fun c => absurd c (by decide), fun _ => ⟨fun _ => h, fun c => absurd rfl c⟩⟩⟩⟩⟩⟩⟩⟩⟩⟩⟩⟩⟩⟩⟩⟩
theorem sw27_16 (hG : qGood Ls xs P) {l4 l5 : Int32} (h : (P 74 0 [(0, .int more), (1, .int (6 : Int32))] [] M (fun v M' => P 75 137 [(0, .ref 0), (2, .int more)] (v.toList ++ []) M' Q))) :
    P 75 27 [(0, .ref 0), (2, .int more), (4, .int l4), (5, .int l5)] [.int (iI 16)] M Q := by
  refine v_lw_change_27 hG ?_
  exact ⟨fun c => absurd c (by decide), fun _ => ⟨fun c => absurd c (by decide), fun _ => ⟨fun c => absurd c (by decide), fun _ => ⟨fun c => absurd c (by decide), fun _ => ⟨fun c => absurd c (by decide), fun _ => ⟨fun c => absurd c (by decide), fun _ => ⟨fun c => absurd c (by decide), fun _ => ⟨fun c => absurd c (by decide), fun _ => ⟨fun c => absurd c (by decide), fun _ => ⟨fun c => absurd c (by decide), fun _ => ⟨fun c => absurd c (by decide), fun _ => ⟨fun c => absurd c (by decide), fun _ => ⟨fun c => absurd c (by decide), fun _ => ⟨fun c => absurd c (by decide), fun _ => ⟨fun c => absurd c (by decide), fun _ => ⟨fun c => absurd c (by decide), fun _ => ⟨fun _ => h, fun c => absurd rfl c⟩⟩⟩⟩⟩⟩⟩⟩⟩⟩⟩⟩⟩⟩⟩⟩⟩
theorem sw27_17 (hG : qGood Ls xs P) {l4 l5 : Int32} (h : (P 74 0 [(0, .int more), (1, .int (2 : Int32))] [] M (fun v M' => P 75 155 [(0, .ref 0), (2, .int more)] (v.toList ++ []) M' Q))) :
    P 75 27 [(0, .ref 0), (2, .int more), (4, .int l4), (5, .int l5)] [.int (iI 17)] M Q := by
  refine v_lw_change_27 hG ?_
  exact ⟨fun c => absurd c (by decide), fun _ => ⟨fun c => absurd c (by decide), fun _ => ⟨fun c => absurd c (by decide), fun _ => ⟨fun c => absurd c (by decide), fun _ => ⟨fun c => absurd c (by decide), fun _ => ⟨fun c => absurd c (by decide), fun _ => ⟨fun c => absurd c (by decide), fun _ => ⟨fun c => absurd c (by decide), fun _ => ⟨fun c => absurd c (by decide), fun _ => ⟨fun c => absurd c (by decide), fun _ => ⟨fun c => absurd c (by decide), fun _ => ⟨fun c => absurd c (by decide), fun _ => ⟨fun c => absurd c (by decide), fun _ => ⟨fun c => absurd c (by decide), fun _ => ⟨fun c => absurd c (by decide), fun _ => ⟨fun c => absurd c (by decide), fun _ => ⟨fun c => absurd c (by decide), fun _ => ⟨fun _ => h, fun c => absurd rfl c⟩⟩⟩⟩⟩⟩⟩⟩⟩⟩⟩⟩⟩⟩⟩⟩⟩⟩
theorem sw27_18 (hG : qGood Ls xs P) {l4 l5 : Int32} (h : (P 74 0 [(0, .int more), (1, .int (2001 : Int32))] [] M (fun v M' => P 75 183 [] (v.toList ++ [.ref 0]) M' Q))) :
    P 75 27 [(0, .ref 0), (2, .int more), (4, .int l4), (5, .int l5)] [.int (iI 18)] M Q := by
  refine v_lw_change_27 hG ?_
  exact ⟨fun c => absurd c (by decide), fun _ => ⟨fun c => absurd c (by decide), fun _ => ⟨fun c => absurd c (by decide), fun _ => ⟨fun c => absurd c (by decide), fun _ => ⟨fun c => absurd c (by decide), fun _ => ⟨fun c => absurd c (by decide), fun _ => ⟨fun c => absurd c (by decide), fun _ => ⟨fun c => absurd c (by decide), fun _ => ⟨fun c => absurd c (by decide), fun _ => ⟨fun c => absurd c (by decide), fun _ => ⟨fun c => absurd c (by decide), fun _ => ⟨fun c => absurd c (by decide), fun _ => ⟨fun c => absurd c (by decide), fun _ => ⟨fun c => absurd c (by decide), fun _ => ⟨fun c => absurd c (by decide), fun _ => ⟨fun c => absurd c (by decide), fun _ => ⟨fun c => absurd c (by decide), fun _ => ⟨fun c => absurd c (by decide), fun _ => h⟩⟩⟩⟩⟩⟩⟩⟩⟩⟩⟩⟩⟩⟩⟩⟩⟩⟩
theorem sw27_19 (hG : qGood Ls xs P) {l4 l5 : Int32} (h : (P 74 0 [(0, .int more), (1, .int (2001 : Int32))] [] M (fun v M' => P 75 183 [] (v.toList ++ [.ref 0]) M' Q))) :
    P 75 27 [(0, .ref 0), (2, .int more), (4, .int l4), (5, .int l5)] [.int (iI 19)] M Q := by
  refine v_lw_change_27 hG ?_
  exact ⟨fun c => absurd c (by decide), fun _ => ⟨fun c => absurd c (by decide), fun _ => ⟨fun c => absurd c (by decide), fun _ => ⟨fun c => absurd c (by decide), fun _ => ⟨fun c => absurd c (by decide), fun _ => ⟨fun c => absurd c (by decide), fun _ => ⟨fun c => absurd c (by decide), fun _ => ⟨fun c => absurd c (by decide), fun _ => ⟨fun c => absurd c (by decide), fun _ => ⟨fun c => absurd c (by decide), fun _ => ⟨fun c => absurd c (by decide), fun _ => ⟨fun c => absurd c (by decide), fun _ => ⟨fun c => absurd c (by decide), fun _ => ⟨fun c => absurd c (by decide), fun _ => ⟨fun c => absurd c (by decide), fun _ => ⟨fun c => absurd c (by decide), fun _ => ⟨fun c => absurd c (by decide), fun _ => ⟨fun c => absurd c (by decide), fun _ => h⟩⟩⟩⟩⟩⟩⟩⟩⟩⟩⟩⟩⟩⟩⟩⟩⟩⟩
def xA (more : Int32) : Int := if lwz (more >>> ((10 : Int32) &&& 31)) 3 = 0 then lwz more 199999 - 99999 else lwz more 41 - 20
theorem ch_A (hG : qGood Ls xs P) (hS : CS s M) (hQ : ∀ M', cFrm M M' → CS (tAdd s (xA more)).2 M' → Q (some (.int (iI (tAdd s (xA more)).1))) M') :
    (P 74 0 [(0, .int (more >>> ((10 : Int32) &&& 31))), (1, .int (3 : Int32))] [] M (fun v M' => P 75 35 [(2, .int more)] (v.toList ++ [.int more, .ref 0]) M' Q)) := by
  have h := lwz_in (more >>> ((10 : Int32) &&& 31)) (n := 3) (by omega)
  have h1 := lwz_in more (n := 41) (by omega)
  have h2 := lwz_in more (n := 199999) (by omega)
  unfold xA at hQ
  refine s_lowL hG 3 (by decide) (by omega) (by omega) ?_
  refine v_lw_change_35 hG ⟨fun c => ?_, fun c => ?_⟩
  · rw [iz0 h.1 (by omega)] at c
    simp only [if_neg c] at hQ
    refine s_lowL hG 41 (by decide) (by omega) (by omega) ?_
    refine v_lw_change_40 hG ?_
    refine s_lowL hG 3 (by decide) (by omega) (by omega) ?_
    refine v_lw_change_45 hG ⟨fun _ => ?_, fun c2 => absurd ((iz0 h.1 (by omega)).mp (Classical.not_not.mp c2)) c⟩
    rw [show (20 : Int32) = iI 20 by decide, iI_sub]
    exact C_add hG hS ⟨by omega, by omega⟩ (fun M' hF hS' => v_lw_change_51 hG (hQ M' hF hS'))
  · have c := (iz0 h.1 (by omega)).mp (Classical.not_not.mp c)
    simp only [if_pos c] at hQ
    refine s_lowL hG 199999 (by decide) (by omega) (by omega) ?_
    refine v_lw_change_40 hG ?_
    refine s_lowL hG 3 (by decide) (by omega) (by omega) ?_
    refine v_lw_change_45 hG ⟨fun c2 => absurd ((iz0 h.1 (by omega)).mpr c) c2, fun _ => ?_⟩
    rw [show (99999 : Int32) = iI 99999 by decide, iI_sub]
    exact C_add hG hS ⟨by omega, by omega⟩ (fun M' hF hS' => v_lw_change_51 hG (hQ M' hF hS'))
theorem ch_8 (hG : qGood Ls xs P) (hS : CS s M) (hQ : ∀ M', cFrm M M' → CS (tSkip s (1 + lwz more 3)).2 M' → Q (some (.int (iI (tSkip s (1 + lwz more 3)).1))) M') :
    (P 74 0 [(0, .int more), (1, .int (3 : Int32))] [] M (fun v M' => P 75 57 [] (v.toList ++ [.int (1 : Int32), .ref 0]) M' Q)) := by
  have h := lwz_in more (n := 3) (by omega)
  refine s_lowL hG 3 (by decide) (by omega) (by omega) ?_
  refine v_lw_change_57 hG ?_
  rw [show (1 : Int32) = iI 1 by decide, iI_add]
  exact C_skip hG hS ⟨by omega, by omega⟩ (fun M' hF hS' => v_lw_change_59 hG (hQ M' hF hS'))
def x9 (more : Int32) : Int := if lwz more 3 = 0 then (-1000000001) else lwz more 2001 - 1000
theorem ch_9 (hG : qGood Ls xs P) (hS : CS s M) {i j : Int} (hi : 0 ≤ i ∧ i < 64) (hj : 0 ≤ j ∧ j < 64) (hQ : ∀ M', cFrm M M' → CS (tSet s i (x9 more)).2 M' → Q (some (.int (iI (tSet s i (x9 more)).1))) M') :
    (P 74 0 [(0, .int more), (1, .int (3 : Int32))] [] M (fun v M' => P 75 65 [(2, .int more)] (v.toList ++ [.int (iI i), .ref 0]) M' Q)) := by
  have h := lwz_in more (n := 3) (by omega)
  have h1 := lwz_in more (n := 2001) (by omega)
  unfold x9 at hQ
  refine s_lowL hG 3 (by decide) (by omega) (by omega) ?_
  refine v_lw_change_65 hG ⟨fun c => ?_, fun c => ?_⟩
  · rw [iz0 h.1 (by omega)] at c
    simp only [if_neg c] at hQ
    refine s_lowL hG 2001 (by decide) (by omega) (by omega) ?_
    refine v_lw_change_71 hG ?_
    rw [show (1000 : Int32) = iI 1000 by decide, iI_sub]
    exact C_set hG hS ⟨by omega, by omega⟩ ⟨by omega, by omega⟩ (fun M' hF hS' => v_lw_change_74 hG (hQ M' hF hS'))
  · have c := (iz0 h.1 (by omega)).mp (Classical.not_not.mp c)
    simp only [if_pos c] at hQ
    rw [show (-1000000001 : Int32) = iI (-1000000001) by decide]
    exact C_set hG hS ⟨by omega, by omega⟩ ⟨by omega, by omega⟩ (fun M' hF hS' => v_lw_change_74 hG (hQ M' hF hS'))
def t10 (s : zSt) (more : Int32) : Int × zSt := if lwz more 12 = 0 then tClear s else tUndo s
theorem ch_10 (hG : qGood Ls xs P) (hS : CS s M) (hQ : ∀ M', cFrm M M' → CS (t10 s more).2 M' → Q (some (.int (iI (t10 s more).1))) M') :
    (P 74 0 [(0, .int more), (1, .int (12 : Int32))] [] M (fun v M' => P 75 78 [(0, .ref 0)] (v.toList ++ []) M' Q)) := by
  have h := lwz_in more (n := 12) (by omega)
  unfold t10 at hQ
  refine s_lowL hG 12 (by decide) (by omega) (by omega) ?_
  refine v_lw_change_78 hG ⟨fun c => ?_, fun c => ?_⟩
  · rw [iz0 h.1 (by omega)] at c
    simp only [if_neg c] at hQ
    exact C_undo hG hS (fun M' hF hS' => v_lw_change_84 hG (hQ M' hF hS'))
  · have c := (iz0 h.1 (by omega)).mp (Classical.not_not.mp c)
    simp only [if_pos c] at hQ
    exact C_clear hG hS (fun M' hF hS' => v_lw_change_81 hG (v_lw_change_84 hG (hQ M' hF hS')))
theorem ch_11 (hG : qGood Ls xs P) (hS : CS s M) {i j : Int} (hi : 0 ≤ i ∧ i < 64) (hj : 0 ≤ j ∧ j < 64) (hQ : ∀ M', cFrm M M' → CS (tLine s i j).2 M' → Q (some (.int (iI (tLine s i j).1))) M') :
    (P 38 0 [(0, .ref 0), (1, .int (iI i)), (2, .int (iI j))] [] M (fun v M' => P 75 89 [] (v.toList ++ []) M' Q)) := by
  exact C_removeLine hG hS ⟨by omega, by omega⟩ ⟨by omega, by omega⟩ (fun M' hF hS' => v_lw_change_89 hG (hQ M' hF hS'))
theorem ch_12 (hG : qGood Ls xs P) (hS : CS s M) (hQ : ∀ M', cFrm M M' → CS (tALine s (lwz more 41 - 20) (lwz (more >>> ((8 : Int32) &&& 31)) 2001 - 1000)).2 M' → Q (some (.int (iI (tALine s (lwz more 41 - 20) (lwz (more >>> ((8 : Int32) &&& 31)) 2001 - 1000)).1))) M') :
    (P 74 0 [(0, .int more), (1, .int (41 : Int32))] [] M (fun v M' => P 75 94 [(2, .int more)] (v.toList ++ [.ref 0]) M' Q)) := by
  have h := lwz_in more (n := 41) (by omega)
  have h1 := lwz_in (more >>> ((8 : Int32) &&& 31)) (n := 2001) (by omega)
  refine s_lowL hG 41 (by decide) (by omega) (by omega) ?_
  refine v_lw_change_94 hG ?_
  refine s_lowL hG 2001 (by decide) (by omega) (by omega) ?_
  refine v_lw_change_101 hG ?_
  rw [show (20 : Int32) = iI 20 by decide, show (1000 : Int32) = iI 1000 by decide, iI_sub, iI_sub]
  exact C_addLine hG hS ⟨by omega, by omega⟩ ⟨by omega, by omega⟩ (fun M' hF hS' => v_lw_change_104 hG (hQ M' hF hS'))
theorem ch_13 (hG : qGood Ls xs P) (hS : CS s M) (hQ : ∀ M', cFrm M M' → CS (tDrift s).2 M' → Q (some (.int (iI (tDrift s).1))) M') :
    (P 40 0 [(0, .ref 0)] [] M (fun v M' => P 75 107 [] (v.toList ++ []) M' Q)) := by
  exact C_removeDrift hG hS (fun M' hF hS' => v_lw_change_107 hG (hQ M' hF hS'))
def x14 (more : Int32) : Int := if lwz more 3 = 0 then lwz (more >>> ((2 : Int32) &&& 31)) 40 else lwz (more >>> ((2 : Int32) &&& 31)) 100000
theorem ch_14 (hG : qGood Ls xs P) (hS : CS s M) (hQ : ∀ M', cFrm M M' → CS (tOutl s (x14 more)).2 M' → Q (some (.int (iI (tOutl s (x14 more)).1))) M') :
    (P 74 0 [(0, .int more), (1, .int (3 : Int32))] [] M (fun v M' => P 75 112 [(2, .int more)] (v.toList ++ [.ref 0]) M' Q)) := by
  have h := lwz_in more (n := 3) (by omega)
  have h1 := lwz_in (more >>> ((2 : Int32) &&& 31)) (n := 40) (by omega)
  have h2 := lwz_in (more >>> ((2 : Int32) &&& 31)) (n := 100000) (by omega)
  unfold x14 at hQ
  refine s_lowL hG 3 (by decide) (by omega) (by omega) ?_
  refine v_lw_change_112 hG ⟨fun c => ?_, fun c => ?_⟩
  · rw [iz0 h.1 (by omega)] at c
    simp only [if_neg c] at hQ
    refine s_lowL hG 100000 (by decide) (by omega) (by omega) ?_
    refine v_lw_change_124 hG ?_
    exact C_removeOutliers hG hS ⟨by omega, by omega⟩ (fun M' hF hS' => v_lw_change_125 hG (hQ M' hF hS'))
  · have c := (iz0 h.1 (by omega)).mp (Classical.not_not.mp c)
    simp only [if_pos c] at hQ
    refine s_lowL hG 40 (by decide) (by omega) (by omega) ?_
    refine v_lw_change_118 hG (v_lw_change_124 hG ?_)
    exact C_removeOutliers hG hS ⟨by omega, by omega⟩ (fun M' hF hS' => v_lw_change_125 hG (hQ M' hF hS'))
theorem ch_15 (hG : qGood Ls xs P) (hS : CS s M) (hQ : ∀ M', cFrm M M' → CS (tFill s (1 + lwz more 6)).2 M' → Q (some (.int (iI (tFill s (1 + lwz more 6)).1))) M') :
    (P 74 0 [(0, .int more), (1, .int (6 : Int32))] [] M (fun v M' => P 75 131 [] (v.toList ++ [.int (1 : Int32), .ref 0]) M' Q)) := by
  have h := lwz_in more (n := 6) (by omega)
  refine s_lowL hG 6 (by decide) (by omega) (by omega) ?_
  refine v_lw_change_131 hG ?_
  rw [show (1 : Int32) = iI 1 by decide, iI_add]
  exact C_fill hG hS ⟨by omega, by omega⟩ (fun M' hF hS' => v_lw_change_133 hG (hQ M' hF hS'))
def t16 (s : zSt) (more : Int32) : Int × zSt := if lwz more 6 = 0 then tThin s (1 + lwz (more >>> ((3 : Int32) &&& 31)) 3) 0 else tUndo s
theorem ch_16 (hG : qGood Ls xs P) (hS : CS s M) (hQ : ∀ M', cFrm M M' → CS (t16 s more).2 M' → Q (some (.int (iI (t16 s more).1))) M') :
    (P 74 0 [(0, .int more), (1, .int (6 : Int32))] [] M (fun v M' => P 75 137 [(0, .ref 0), (2, .int more)] (v.toList ++ []) M' Q)) := by
  have h := lwz_in more (n := 6) (by omega)
  have h1 := lwz_in (more >>> ((3 : Int32) &&& 31)) (n := 3) (by omega)
  unfold t16 at hQ
  refine s_lowL hG 6 (by decide) (by omega) (by omega) ?_
  refine v_lw_change_137 hG ⟨fun c => ?_, fun c => ?_⟩
  · rw [iz0 h.1 (by omega)] at c
    simp only [if_neg c] at hQ
    exact C_undo hG hS (fun M' hF hS' => v_lw_change_151 hG (hQ M' hF hS'))
  · have c := (iz0 h.1 (by omega)).mp (Classical.not_not.mp c)
    simp only [if_pos c] at hQ
    refine s_lowL hG 3 (by decide) (by omega) (by omega) ?_
    refine v_lw_change_145 hG ?_
    rw [show (1 : Int32) = iI 1 by decide, iI_add, iL0]
    exact C_thin hG hS ⟨by omega, by omega⟩ ⟨by decide, by decide⟩ (fun M' hF hS' => v_lw_change_148 hG (v_lw_change_151 hG (hQ M' hF hS')))
def t17 (s : zSt) (more : Int32) : Int × zSt := if lwz more 2 = 0 then tKeep s (lwz (more >>> ((1 : Int32) &&& 31)) 2) else if lwz more 6 = 1 then tBack s (lwz (more >>> ((3 : Int32) &&& 31)) 2) else (-9, s)
theorem ch_17 (hG : qGood Ls xs P) (hS : CS s M) (hQ : ∀ M', cFrm M M' → CS (t17 s more).2 M' → Q (some (.int (iI (t17 s more).1))) M') :
    (P 74 0 [(0, .int more), (1, .int (2 : Int32))] [] M (fun v M' => P 75 155 [(0, .ref 0), (2, .int more)] (v.toList ++ []) M' Q)) := by
  have h := lwz_in more (n := 2) (by omega)
  have h1 := lwz_in more (n := 6) (by omega)
  have h2 := lwz_in (more >>> ((1 : Int32) &&& 31)) (n := 2) (by omega)
  have h3 := lwz_in (more >>> ((3 : Int32) &&& 31)) (n := 2) (by omega)
  unfold t17 at hQ
  refine s_lowL hG 2 (by decide) (by omega) (by omega) ?_
  refine v_lw_change_155 hG ⟨fun c => ?_, fun c => ?_⟩
  · rw [iz0 h.1 (by omega)] at c
    simp only [if_neg c] at hQ
    refine s_lowL hG 6 (by decide) (by omega) (by omega) ?_
    refine v_lw_change_167 hG ⟨fun c2 => ?_, fun c2 => ?_⟩
    · rw [show (1 : Int32) = iI 1 by decide, iI_eq (by omega) (by omega) (by omega) (by omega)] at c2
      simp only [if_neg c2] at hQ
      exact hQ M cFrm.rf hS
    · have c2 := Classical.not_not.mp c2
      rw [show (1 : Int32) = iI 1 by decide, iI_eq (by omega) (by omega) (by omega) (by omega)] at c2
      simp only [if_pos c2] at hQ
      refine s_lowL hG 2 (by decide) (by omega) (by omega) ?_
      refine v_lw_change_175 hG ?_
      exact C_back hG hS ⟨by omega, by omega⟩ (fun M' hF hS' => v_lw_change_176 hG (hQ M' hF hS'))
  · have c := (iz0 h.1 (by omega)).mp (Classical.not_not.mp c)
    simp only [if_pos c] at hQ
    refine s_lowL hG 2 (by decide) (by omega) (by omega) ?_
    refine v_lw_change_162 hG ?_
    exact C_keep hG hS ⟨by omega, by omega⟩ (fun M' hF hS' => v_lw_change_163 hG (hQ M' hF hS'))
theorem ch_D (hG : qGood Ls xs P) (hS : CS s M) (hQ : ∀ M', cFrm M M' → CS (tAdd s (lwz more 2001 - 1000)).2 M' → Q (some (.int (iI (tAdd s (lwz more 2001 - 1000)).1))) M') :
    (P 74 0 [(0, .int more), (1, .int (2001 : Int32))] [] M (fun v M' => P 75 183 [] (v.toList ++ [.ref 0]) M' Q)) := by
  have h := lwz_in more (n := 2001) (by omega)
  refine s_lowL hG 2001 (by decide) (by omega) (by omega) ?_
  refine v_lw_change_183 hG ?_
  rw [show (1000 : Int32) = iI 1000 by decide, iI_sub]
  exact C_add hG hS ⟨by omega, by omega⟩ (fun M' hF hS' => v_lw_change_186 hG (hQ M' hF hS'))
def cI (s : zSt) (x : Int32) : Int := if s.1.1 = 0 then 0 else lwz x s.1.1
theorem cI_in (s : zSt) (x : Int32) (h : s.1.1 ≤ 64) : 0 ≤ cI s x ∧ cI s x < 64 := by
  unfold cI
  split
  · omega
  · have := lwz_in x (n := s.1.1) (by omega)
    omega
theorem s_change_pre (hG : qGood Ls xs P) (hS : CS s M) (h : P 75 27 [(0, .ref 0), (2, .int more), (4, .int (iI (cI s (v >>> ((5 : Int32) &&& 31))))), (5, .int (iI (cI s (v >>> ((12 : Int32) &&& 31)))))] [.int (iI (lwz v 20))] M Q) : P 75 0 [(0, .ref 0), (1, .int v), (2, .int more)] [] M Q := by
  have hn := hS.1.2.1
  have k2 : P 75 23 [(0, .ref 0), (1, .int v), (2, .int more), (4, .int (iI (cI s (v >>> ((5 : Int32) &&& 31)))))] [.int (iI (cI s (v >>> ((12 : Int32) &&& 31))))] M Q := by
    refine v_lw_change_23 hG ?_
    refine s_lowL hG 20 (by decide) (by omega) (by omega) ?_
    exact h
  have k1 : P 75 13 [(0, .ref 0), (1, .int v), (2, .int more), (3, .int (iI s.1.1))] [.int (iI (cI s (v >>> ((5 : Int32) &&& 31))))] M Q := by
    refine v_lw_change_13 hG ⟨fun c => ?_, fun c => ?_⟩
    · rw [iz0 (by omega) (by omega)] at c
      refine s_low hG (by omega) (by omega) ?_
      rw [show cI s (v >>> ((12 : Int32) &&& 31)) = lwz (v >>> ((12 : Int32) &&& 31)) s.1.1 from if_neg (by omega)] at k2
      exact k2
    · have c := (iz0 (by omega) (by omega)).mp (Classical.not_not.mp c)
      rw [show cI s (v >>> ((12 : Int32) &&& 31)) = 0 from if_pos (by omega), ← iL0] at k2
      exact k2
  refine v_lw_change_0 hG ?_
  refine C_told0 hG hS ?_
  refine v_lw_change_3 hG ⟨fun c => ?_, fun c => ?_⟩
  · rw [iz0 (by omega) (by omega)] at c
    refine s_low hG (by omega) (by omega) ?_
    rw [show cI s (v >>> ((5 : Int32) &&& 31)) = lwz (v >>> ((5 : Int32) &&& 31)) s.1.1 from if_neg (by omega)] at k1
    exact k1
  · have c := (iz0 (by omega) (by omega)).mp (Classical.not_not.mp c)
    rw [show cI s (v >>> ((5 : Int32) &&& 31)) = 0 from if_pos (by omega), ← iL0] at k1
    exact k1
end CHG
theorem s_change (v more : Int32) (s : zSt) (hn : s.1.1 ≤ 64) : ∃ (r : Int) (s' : zSt), ∀ (Ls : Nat) (xs : Nat → Int32) (P : qSem) (M : qMem) (Q : qPost), qGood Ls xs P → CS s M → (∀ M', cFrm M M' → CS s' M' → Q (some (.int (iI r))) M') → P 75 0 [(0, .ref 0), (1, .int v), (2, .int more)] [] M Q := by
  have hk := lwz_in v (n := 20) (by omega)
  have hi := cI_in s (v >>> ((5 : Int32) &&& 31)) hn
  have hj := cI_in s (v >>> ((12 : Int32) &&& 31)) hn
  rcases (show lwz v 20 = 0 ∨ lwz v 20 = 1 ∨ lwz v 20 = 2 ∨ lwz v 20 = 3 ∨ lwz v 20 = 4 ∨ lwz v 20 = 5 ∨ lwz v 20 = 6 ∨ lwz v 20 = 7 ∨ lwz v 20 = 8 ∨ lwz v 20 = 9 ∨ lwz v 20 = 10 ∨ lwz v 20 = 11 ∨ lwz v 20 = 12 ∨ lwz v 20 = 13 ∨ lwz v 20 = 14 ∨ lwz v 20 = 15 ∨ lwz v 20 = 16 ∨ lwz v 20 = 17 ∨ lwz v 20 = 18 ∨ lwz v 20 = 19 by omega) with c | c | c | c | c | c | c | c | c | c | c | c | c | c | c | c | c | c | c | c
  · exact ⟨(tAdd s (xA more)).1, (tAdd s (xA more)).2, fun Ls xs P M Q hG hS hQ => s_change_pre hG hS (by rw [c]; exact sw27_0 hG (ch_A hG hS hQ))⟩
  · exact ⟨(tAdd s (xA more)).1, (tAdd s (xA more)).2, fun Ls xs P M Q hG hS hQ => s_change_pre hG hS (by rw [c]; exact sw27_1 hG (ch_A hG hS hQ))⟩
  · exact ⟨(tAdd s (xA more)).1, (tAdd s (xA more)).2, fun Ls xs P M Q hG hS hQ => s_change_pre hG hS (by rw [c]; exact sw27_2 hG (ch_A hG hS hQ))⟩
  · exact ⟨(tAdd s (xA more)).1, (tAdd s (xA more)).2, fun Ls xs P M Q hG hS hQ => s_change_pre hG hS (by rw [c]; exact sw27_3 hG (ch_A hG hS hQ))⟩
  · exact ⟨(tAdd s (xA more)).1, (tAdd s (xA more)).2, fun Ls xs P M Q hG hS hQ => s_change_pre hG hS (by rw [c]; exact sw27_4 hG (ch_A hG hS hQ))⟩
  · exact ⟨(tAdd s (xA more)).1, (tAdd s (xA more)).2, fun Ls xs P M Q hG hS hQ => s_change_pre hG hS (by rw [c]; exact sw27_5 hG (ch_A hG hS hQ))⟩
  · exact ⟨(tAdd s (xA more)).1, (tAdd s (xA more)).2, fun Ls xs P M Q hG hS hQ => s_change_pre hG hS (by rw [c]; exact sw27_6 hG (ch_A hG hS hQ))⟩
  · exact ⟨(tAdd s (xA more)).1, (tAdd s (xA more)).2, fun Ls xs P M Q hG hS hQ => s_change_pre hG hS (by rw [c]; exact sw27_7 hG (ch_A hG hS hQ))⟩
  · exact ⟨(tSkip s (1 + lwz more 3)).1, (tSkip s (1 + lwz more 3)).2, fun Ls xs P M Q hG hS hQ => s_change_pre hG hS (by rw [c]; exact sw27_8 hG (ch_8 hG hS hQ))⟩
  · exact ⟨(tSet s (cI s (v >>> ((5 : Int32) &&& 31))) (x9 more)).1, (tSet s (cI s (v >>> ((5 : Int32) &&& 31))) (x9 more)).2, fun Ls xs P M Q hG hS hQ => s_change_pre hG hS (by rw [c]; exact sw27_9 hG (ch_9 hG hS hi hj hQ))⟩
  · exact ⟨(t10 s more).1, (t10 s more).2, fun Ls xs P M Q hG hS hQ => s_change_pre hG hS (by rw [c]; exact sw27_10 hG (ch_10 hG hS hQ))⟩
  · exact ⟨(tLine s (cI s (v >>> ((5 : Int32) &&& 31))) (cI s (v >>> ((12 : Int32) &&& 31)))).1, (tLine s (cI s (v >>> ((5 : Int32) &&& 31))) (cI s (v >>> ((12 : Int32) &&& 31)))).2, fun Ls xs P M Q hG hS hQ => s_change_pre hG hS (by rw [c]; exact sw27_11 hG (ch_11 hG hS hi hj hQ))⟩
  · exact ⟨(tALine s (lwz more 41 - 20) (lwz (more >>> ((8 : Int32) &&& 31)) 2001 - 1000)).1, (tALine s (lwz more 41 - 20) (lwz (more >>> ((8 : Int32) &&& 31)) 2001 - 1000)).2, fun Ls xs P M Q hG hS hQ => s_change_pre hG hS (by rw [c]; exact sw27_12 hG (ch_12 hG hS hQ))⟩
  · exact ⟨(tDrift s).1, (tDrift s).2, fun Ls xs P M Q hG hS hQ => s_change_pre hG hS (by rw [c]; exact sw27_13 hG (ch_13 hG hS hQ))⟩
  · exact ⟨(tOutl s (x14 more)).1, (tOutl s (x14 more)).2, fun Ls xs P M Q hG hS hQ => s_change_pre hG hS (by rw [c]; exact sw27_14 hG (ch_14 hG hS hQ))⟩
  · exact ⟨(tFill s (1 + lwz more 6)).1, (tFill s (1 + lwz more 6)).2, fun Ls xs P M Q hG hS hQ => s_change_pre hG hS (by rw [c]; exact sw27_15 hG (ch_15 hG hS hQ))⟩
  · exact ⟨(t16 s more).1, (t16 s more).2, fun Ls xs P M Q hG hS hQ => s_change_pre hG hS (by rw [c]; exact sw27_16 hG (ch_16 hG hS hQ))⟩
  · exact ⟨(t17 s more).1, (t17 s more).2, fun Ls xs P M Q hG hS hQ => s_change_pre hG hS (by rw [c]; exact sw27_17 hG (ch_17 hG hS hQ))⟩
  · exact ⟨(tAdd s (lwz more 2001 - 1000)).1, (tAdd s (lwz more 2001 - 1000)).2, fun Ls xs P M Q hG hS hQ => s_change_pre hG hS (by rw [c]; exact sw27_18 hG (ch_D hG hS hQ))⟩
  · exact ⟨(tAdd s (lwz more 2001 - 1000)).1, (tAdd s (lwz more 2001 - 1000)).2, fun Ls xs P M Q hG hS hQ => s_change_pre hG hS (by rw [c]; exact sw27_19 hG (ch_D hG hS hQ))⟩
end
section
/-! areDifferences: what readings tell; a mean difference is a sum of second ones -/
section DIF
variable {Ls : Nat} {xs : Nat → Int32} {P : qSem} {M : qMem} {Q : qPost} {n : Nat} {f : Nat → Int}
theorem dif2 {m : Nat} {i : Int} (h : 0 ≤ i) : dif n f 2 m i = sec n f m i := by
  unfold dif
  by_cases c : i < n
  · rw [if_pos ⟨h, c⟩, if_pos rfl]
  · rw [if_neg (by omega)]
    unfold sec vl
    rw [if_pos (Or.inl (if_neg (by omega)))]
theorem dif3 {m : Nat} {i : Int} (h : 0 ≤ i ∧ i < n) : dif n f 3 m i = thr n f m i := by
  unfold dif
  rw [if_pos h, if_neg (by decide), if_pos rfl]
theorem dif4 {m : Nat} {i : Int} (h : 0 ≤ i ∧ i < n) : dif n f 4 m i = men n f m i := by
  unfold dif
  rw [if_pos h, if_neg (by decide), if_neg (by decide)]
theorem thr_sec (hf : ∀ j, j < n → okv (f j)) (m i : Int) : thr n f m i = if sec n f m i = (-1000000001) ∨ sec n f m (i + m) = (-1000000001) then (-1000000001) else sec n f m (i + m) - sec n f m i := by
  have h0 := vl_ok hf i
  have h1 := vl_ok hf (i + m)
  have h2 := vl_ok hf (i + 2 * m)
  have h3 := vl_ok hf (i + 3 * m)
  unfold thr sec
  rw [show i + m + m = i + 2 * m by omega, show i + m + 2 * m = i + 3 * m by omega]
  unfold okv at h0 h1 h2 h3
  generalize vl n f i = a at *
  generalize vl n f (i + m) = b at *
  generalize vl n f (i + 2 * m) = c at *
  generalize vl n f (i + 3 * m) = d at *
  by_cases c1 : a = (-1000000001) ∨ b = (-1000000001) ∨ c = (-1000000001)
  · rw [if_pos c1, if_pos (show a = (-1000000001) ∨ b = (-1000000001) ∨ c = (-1000000001) ∨ d = (-1000000001) by omega), if_pos (Or.inl rfl)]
  · by_cases c2 : d = (-1000000001)
    · rw [if_neg c1, if_pos (show a = (-1000000001) ∨ b = (-1000000001) ∨ c = (-1000000001) ∨ d = (-1000000001) by omega), if_pos (show b = (-1000000001) ∨ c = (-1000000001) ∨ d = (-1000000001) by omega), if_pos (Or.inr rfl)]
    · rw [if_neg c1, if_neg (show ¬ (a = (-1000000001) ∨ b = (-1000000001) ∨ c = (-1000000001) ∨ d = (-1000000001)) by omega), if_neg (show ¬ (b = (-1000000001) ∨ c = (-1000000001) ∨ d = (-1000000001)) by omega), if_neg (by omega)]
      omega
theorem czs (p : Nat → Bool) (k : Nat) : cz p (k + 1) = cz p k + (if p k = true then 1 else 0) := rfl
theorem C_dif2 (hG : qGood Ls xs P) (hR : cRd M 1 n f) {m : Nat} (h1 : 1 ≤ m) (h2 : m ≤ 31) {x : Int32} {i : Int} (e : x = iI i) (h3 : 0 ≤ i) (h4 : i ≤ 1000) (hQ : Q (some (.int (iI (sec n f m i)))) M) : P 47 0 [(0, .ref 0), (1, .int (2 : Int32)), (2, .int (iI m)), (3, .int x)] [] M Q := by
  rw [e, iL2]
  refine C_difference hG hR (o := 2) (m := m) ⟨by decide, by decide⟩ ⟨by omega, by omega⟩ ⟨by omega, by omega⟩ ?_
  have e2 : aDiff n f 2 m i = sec n f m i := by
    unfold aDiff
    rw [if_pos (by omega), Int.toNat_natCast, dif2 h3]
  rw [e2]
  exact hQ
theorem C_dif3 (hG : qGood Ls xs P) (hR : cRd M 1 n f) {m : Nat} (h1 : 1 ≤ m) (h2 : m ≤ 31) {i : Nat} (h3 : i < n) (hQ : Q (some (.int (iI (thr n f m i)))) M) : P 47 0 [(0, .ref 0), (1, .int (3 : Int32)), (2, .int (iI m)), (3, .int (iI i))] [] M Q := by
  have hn := hR.2.1
  rw [iL3]
  refine C_difference hG hR (o := 3) (m := m) ⟨by decide, by decide⟩ ⟨by omega, by omega⟩ ⟨by omega, by omega⟩ ?_
  have e2 : aDiff n f 3 m i = thr n f m i := by
    unfold aDiff
    rw [if_pos (by omega), Int.toNat_natCast, dif3 (by omega)]
  rw [e2]
  exact hQ
theorem C_dif4 (hG : qGood Ls xs P) (hR : cRd M 1 n f) {m : Nat} (h1 : 1 ≤ m) (h2 : m ≤ 31) {i : Nat} (h3 : i < n) (hQ : Q (some (.int (iI (men n f m i)))) M) : P 47 0 [(0, .ref 0), (1, .int (4 : Int32)), (2, .int (iI m)), (3, .int (iI i))] [] M Q := by
  have hn := hR.2.1
  rw [iL4]
  refine C_difference hG hR (o := 4) (m := m) ⟨by decide, by decide⟩ ⟨by omega, by omega⟩ ⟨by omega, by omega⟩ ?_
  have e2 : aDiff n f 4 m i = men n f m i := by
    unfold aDiff
    rw [if_pos (by omega), Int.toNat_natCast, dif4 (by omega)]
  rw [e2]
  exact hQ
theorem C_cnt (hG : qGood Ls xs P) (hR : cRd M 1 n f) {m : Nat} (h1 : 1 ≤ m) (h2 : m ≤ 31) {x : Int32} {o : Int} (e : x = iI o) (h3 : 2 ≤ o ∧ o ≤ 4) (hQ : Q (some (.int (iI (cnd n f o m)))) M) : P 48 0 [(0, .ref 0), (1, .int x), (2, .int (iI m))] [] M Q := by
  rw [e]
  refine C_count hG hR (o := o) (m := m) ⟨by omega, by omega⟩ ⟨by omega, by omega⟩ ?_
  have e2 : aCount n f o m = cnd n f o m := by
    unfold aCount
    rw [if_pos (by omega), Int.toNat_natCast]
  rw [e2]
  exact hQ
theorem C_rdg (hG : qGood Ls xs P) (hR : cRd M 1 n f) {x : Int32} {i : Int} (e : x = iI i) (h3 : 0 ≤ i ∧ i < n) (hQ : Q (some (.int (iI (vl n f i)))) M) : P 46 0 [(0, .ref 0), (1, .int x)] [] M Q := by
  have hn := hR.2.1
  rw [e]
  refine C_reading hG hR ⟨by omega, by omega⟩ ?_
  have e2 : aReading n f i = vl n f i := by
    unfold aReading vl
    rw [if_pos h3, if_pos h3]
  rw [e2]
  exact hQ
theorem ad_inner (hG : qGood Ls xs P) (hR : cRd M 1 n f) {m : Nat} (h1 : 1 ≤ m) (h2 : m ≤ 31) {i : Nat} (hi : i < n) {l3 l4 l5 l6 l8 l9 l10 l11 : Int32}
    (hX : ∀ sm : Int32, (okS (fun j => sec n f m ((i : Int) + j)) m = true → sm = iI (smS (fun j => sec n f m ((i : Int) + j)) m)) → P 76 49 [(0, .ref 0), (1, .int (iI m)), (2, .int (iI (-1000000001))), (3, .int l3), (4, .int l4), (5, .int l5), (6, .int l6), (7, .int (iI i)), (8, .int l8), (9, .int l9), (10, .int l10), (11, .int l11), (12, .int sm), (13, .int (iI (bZ (okS (fun j => sec n f m ((i : Int) + j)) m = true)))), (14, .int (iI m))] [] M Q) :
    P 76 49 [(0, .ref 0), (1, .int (iI m)), (2, .int (iI (-1000000001))), (3, .int l3), (4, .int l4), (5, .int l5), (6, .int l6), (7, .int (iI i)), (8, .int l8), (9, .int l9), (10, .int l10), (11, .int l11), (12, .int (0 : Int32)), (13, .int (1 : Int32)), (14, .int (0 : Int32))] [] M Q := by
  have hn := hR.2.1
  have key : ∀ (d k : Nat) (sm : Int32), k + d = m → (okS (fun j => sec n f m ((i : Int) + j)) k = true → sm = iI (smS (fun j => sec n f m ((i : Int) + j)) k)) → P 76 49 [(0, .ref 0), (1, .int (iI m)), (2, .int (iI (-1000000001))), (3, .int l3), (4, .int l4), (5, .int l5), (6, .int l6), (7, .int (iI i)), (8, .int l8), (9, .int l9), (10, .int l10), (11, .int l11), (12, .int sm), (13, .int (iI (bZ (okS (fun j => sec n f m ((i : Int) + j)) k = true)))), (14, .int (iI k))] [] M Q := by
    intro d
    induction d with
    | zero =>
      intro k sm hk hs
      have e : k = m := by omega
      subst e
      exact hX sm hs
    | succ d ih =>
      intro k sm hk hs
      refine v_lw_areDifferences_49 hG ⟨fun c => ?_, fun _ => ?_⟩
      · rw [iI_le (by omega) (by omega) (by omega) (by omega)] at c
        omega
      refine C_dif2 hG hR h1 h2 (iI_add _ _) (by omega) (by omega) ?_
      have hb := bZ_in (okS (fun j => sec n f m ((i : Int) + j)) k = true)
      have hs2 := sec_ok hR.ok m ((i : Int) + k)
      have e1 : iI k + (1 : Int32) = iI (k + 1 : Nat) := by
        rw [iL1, iI_add]
        rfl
      have ok1 : okS (fun j => sec n f m ((i : Int) + j)) (k + 1) = (okS (fun j => sec n f m ((i : Int) + j)) k && decide (sec n f m ((i : Int) + k) ≠ (-1000000001))) := rfl
      have no : ∀ sm : Int32, ¬ okS (fun j => sec n f m ((i : Int) + j)) (k + 1) = true → P 76 69 [(0, .ref 0), (1, .int (iI m)), (2, .int (iI (-1000000001))), (3, .int l3), (4, .int l4), (5, .int l5), (6, .int l6), (7, .int (iI i)), (8, .int l8), (9, .int l9), (10, .int l10), (11, .int l11), (12, .int sm), (13, .int (0 : Int32)), (14, .int (iI k)), (15, .int (iI (sec n f m ((i : Int) + k))))] [] M Q := by
        intro sm hz
        refine v_lw_areDifferences_69 hG ⟨fun _ => ?_, fun c => absurd rfl c⟩
        refine v_lw_areDifferences_77 hG ?_
        have hI := ih (k + 1) sm (by omega) (fun z => absurd z hz)
        rw [bZ_f hz, ← iL0] at hI
        rw [e1]
        exact hI
      refine v_lw_areDifferences_59 hG ⟨fun c => ?_, fun c => ⟨fun c2 => ?_, fun c2 => ?_⟩⟩
      · rw [iz0 hb.1 (by omega), bZ_0] at c
        refine no sm (fun z => c ?_)
        rw [ok1, Bool.and_eq_true] at z
        exact z.1
      · rw [iI_eq (by omega) (by omega) (by omega) (by omega)] at c2
        refine no sm (fun z => ?_)
        rw [ok1, Bool.and_eq_true] at z
        exact absurd c2 (of_decide_eq_true z.2)
      · rw [iz0 hb.1 (by omega), bZ_0] at c
        have c := Classical.not_not.mp c
        rw [iI_eq (by omega) (by omega) (by omega) (by omega)] at c2
        have hz : okS (fun j => sec n f m ((i : Int) + j)) (k + 1) = true := by
          rw [ok1, Bool.and_eq_true]
          exact ⟨c, decide_eq_true c2⟩
        refine v_lw_areDifferences_69 hG ⟨fun c3 => absurd c3 (by decide), fun _ => ?_⟩
        refine v_lw_areDifferences_77 hG ?_
        have hI := ih (k + 1) (sm + iI (sec n f m ((i : Int) + k))) (by omega) (fun _ => by rw [hs c, iI_add]; rfl)
        rw [bZ_t hz, ← iL1] at hI
        rw [e1]
        exact hI
  exact key m 0 0 (by omega) (fun _ => rfl)
theorem ad_170 (hG : qGood Ls xs P) (hR : cRd M 1 n f) {m : Nat} (h1 : 1 ≤ m) (h2 : m ≤ 31) {i : Nat} (hi : i < n)
    (hN : P 76 14 [(0, .ref 0), (1, .int (iI m)), (2, .int (iI (-1000000001))), (3, .int (iI n)), (4, .int (iI (cz (fun j => decide (dif n f 2 m j ≠ (-1000000001))) (i + 1)))), (5, .int (iI (cz (fun j => decide (dif n f 3 m j ≠ (-1000000001))) (i + 1)))), (6, .int (iI (cz (fun j => decide (dif n f 4 m j ≠ (-1000000001))) (i + 1)))), (7, .int (iI (i + 1 : Nat)))] [] M Q) :
    P 76 170 [(0, .ref 0), (1, .int (iI m)), (2, .int (iI (-1000000001))), (3, .int (iI n)), (4, .int (iI (cz (fun j => decide (dif n f 2 m j ≠ (-1000000001))) i))), (5, .int (iI (cz (fun j => decide (dif n f 3 m j ≠ (-1000000001))) i))), (6, .int (iI (cz (fun j => decide (dif n f 4 m j ≠ (-1000000001))) i))), (7, .int (iI i)), (8, .int (iI (sec n f m i))), (10, .int (iI (thr n f m i))), (11, .int (iI (men n f m i)))] [] M Q := by
  have hn := hR.2.1
  have e1 : iI i + (1 : Int32) = iI (i + 1 : Nat) := by
    rw [iL1, iI_add]
    rfl
  have b2 := sec_ok hR.ok m (i : Int)
  have b3 := thr_ok hR.ok m (i : Int)
  have b4 := men_ok hR.ok h2 (i : Int)
  have d2 := dif2 (n := n) (f := f) (m := m) (i := (i : Int)) (by omega)
  have d3 := dif3 (n := n) (f := f) (m := m) (i := (i : Int)) (by omega)
  have d4 := dif4 (n := n) (f := f) (m := m) (i := (i : Int)) (by omega)
  rw [czs, czs, czs, d2, d3, d4] at hN
  have k3 : P 76 188 [(0, .ref 0), (1, .int (iI m)), (2, .int (iI (-1000000001))), (3, .int (iI n)), (4, .int (iI (cz (fun j => decide (dif n f 2 m j ≠ (-1000000001))) i + if decide (sec n f m i ≠ (-1000000001)) = true then 1 else 0))), (5, .int (iI (cz (fun j => decide (dif n f 3 m j ≠ (-1000000001))) i + if decide (thr n f m i ≠ (-1000000001)) = true then 1 else 0))), (6, .int (iI (cz (fun j => decide (dif n f 4 m j ≠ (-1000000001))) i))), (7, .int (iI i)), (11, .int (iI (men n f m i)))] [] M Q := by
    refine v_lw_areDifferences_188 hG ⟨fun c => ?_, fun c => ?_⟩
    · rw [iI_eq (by omega) (by omega) (by omega) (by omega)] at c
      refine v_lw_areDifferences_197 hG ?_
      rw [if_neg (show ¬ decide (men n f m i ≠ (-1000000001)) = true by simpa using c), Int.add_zero] at hN
      rw [e1]
      exact hN
    · rw [iI_eq (by omega) (by omega) (by omega) (by omega)] at c
      refine v_lw_areDifferences_197 hG ?_
      rw [if_pos (show decide (men n f m i ≠ (-1000000001)) = true by simpa using c), ← iI_add (cz (fun j => decide (dif n f 4 m j ≠ (-1000000001))) i) 1, ← iL1] at hN
      rw [e1]
      exact hN
  have k2 : P 76 179 [(0, .ref 0), (1, .int (iI m)), (2, .int (iI (-1000000001))), (3, .int (iI n)), (4, .int (iI (cz (fun j => decide (dif n f 2 m j ≠ (-1000000001))) i + if decide (sec n f m i ≠ (-1000000001)) = true then 1 else 0))), (5, .int (iI (cz (fun j => decide (dif n f 3 m j ≠ (-1000000001))) i))), (6, .int (iI (cz (fun j => decide (dif n f 4 m j ≠ (-1000000001))) i))), (7, .int (iI i)), (10, .int (iI (thr n f m i))), (11, .int (iI (men n f m i)))] [] M Q := by
    refine v_lw_areDifferences_179 hG ⟨fun c => ?_, fun c => ?_⟩
    · rw [iI_eq (by omega) (by omega) (by omega) (by omega)] at c
      rw [if_neg (show ¬ decide (thr n f m i ≠ (-1000000001)) = true by simpa using c), Int.add_zero] at k3
      exact k3
    · rw [iI_eq (by omega) (by omega) (by omega) (by omega)] at c
      rw [if_pos (show decide (thr n f m i ≠ (-1000000001)) = true by simpa using c), ← iI_add (cz (fun j => decide (dif n f 3 m j ≠ (-1000000001))) i) 1, ← iL1] at k3
      exact k3
  refine v_lw_areDifferences_170 hG ⟨fun c => ?_, fun c => ?_⟩
  · rw [iI_eq (by omega) (by omega) (by omega) (by omega)] at c
    rw [if_neg (show ¬ decide (sec n f m i ≠ (-1000000001)) = true by simpa using c), Int.add_zero] at k2
    exact k2
  · rw [iI_eq (by omega) (by omega) (by omega) (by omega)] at c
    rw [if_pos (show decide (sec n f m i ≠ (-1000000001)) = true by simpa using c), ← iI_add (cz (fun j => decide (dif n f 2 m j ≠ (-1000000001))) i) 1, ← iL1] at k2
    exact k2
theorem ad_103 (hG : qGood Ls xs P) (hR : cRd M 1 n f) {m : Nat} (h1 : 1 ≤ m) (h2 : m ≤ 31) {i : Nat} (hi : i < n) {l4 l5 l6 l10 l11 : Int32}
    (hN : P 76 170 [(0, .ref 0), (1, .int (iI m)), (2, .int (iI (-1000000001))), (3, .int (iI n)), (4, .int l4), (5, .int l5), (6, .int l6), (7, .int (iI i)), (8, .int (iI (sec n f m i))), (10, .int l10), (11, .int l11)] [] M Q) :
    P 76 103 [(0, .ref 0), (1, .int (iI m)), (2, .int (iI (-1000000001))), (3, .int (iI n)), (4, .int l4), (5, .int l5), (6, .int l6), (7, .int (iI i)), (8, .int (iI (sec n f m i))), (10, .int l10), (11, .int l11), (14, .int (1 : Int32))] [] M Q := by
  have hn := hR.2.1
  have b2 := sec_ok hR.ok m (i : Int)
  have v0 := vl_ok hR.ok (i : Int)
  have v1 := vl_ok hR.ok ((i : Int) + m)
  have v2 := vl_ok hR.ok ((i : Int) + 2 * m)
  unfold okv at v0 v1 v2
  have es : sec n f m i = if vl n f i = (-1000000001) ∨ vl n f (i + m) = (-1000000001) ∨ vl n f (i + 2 * m) = (-1000000001) then (-1000000001) else vl n f (i + 2 * m) - 2 * vl n f (i + m) + vl n f i := rfl
  have ex2 : iI i + (2 : Int32) * iI m = iI ((i : Int) + 2 * m) := by rw [iL2, iI_mul, iI_add]
  have no : sec n f m i = (-1000000001) → P 76 135 [(0, .ref 0), (1, .int (iI m)), (2, .int (iI (-1000000001))), (3, .int (iI n)), (4, .int l4), (5, .int l5), (6, .int l6), (7, .int (iI i)), (8, .int (iI (sec n f m i))), (10, .int l10), (11, .int l11), (14, .int (1 : Int32)), (15, .int (0 : Int32))] [] M Q := by
    intro hz
    refine v_lw_areDifferences_135 hG ⟨fun c => absurd c (by decide), fun _ => ⟨fun _ => ⟨fun c => absurd rfl c, fun _ => ⟨fun _ => hN, fun c => absurd rfl c⟩⟩, fun c => ?_⟩⟩
    rw [hz] at c
    exact absurd rfl c
  refine v_lw_areDifferences_103 hG ⟨fun c => ?_, fun c => ?_⟩
  · rw [ex2, iI_le (by omega) (by omega) (by omega) (by omega)] at c
    refine no ?_
    rw [es, if_pos (Or.inr (Or.inr ?_))]
    unfold vl
    rw [if_neg (by omega)]
  rw [ex2, iI_le (by omega) (by omega) (by omega) (by omega)] at c
  refine C_rdg hG hR rfl (by omega) ?_
  refine v_lw_areDifferences_113 hG ⟨fun c1 => ?_, fun c1 => ?_⟩
  · rw [iI_eq (by omega) (by omega) (by omega) (by omega)] at c1
    exact no (by rw [es, if_pos (Or.inl c1)])
  rw [iI_eq (by omega) (by omega) (by omega) (by omega)] at c1
  refine C_rdg hG hR (iI_add _ _) (by omega) ?_
  refine v_lw_areDifferences_120 hG ⟨fun c2 => ?_, fun c2 => ?_⟩
  · rw [iI_eq (by omega) (by omega) (by omega) (by omega)] at c2
    exact no (by rw [es, if_pos (Or.inr (Or.inl c2))])
  rw [iI_eq (by omega) (by omega) (by omega) (by omega)] at c2
  refine C_rdg hG hR ex2 (by omega) ?_
  refine v_lw_areDifferences_129 hG ⟨fun c3 => ?_, fun c3 => ?_⟩
  · rw [iI_eq (by omega) (by omega) (by omega) (by omega)] at c3
    exact no (by rw [es, if_pos (Or.inr (Or.inr c3))])
  rw [iI_eq (by omega) (by omega) (by omega) (by omega)] at c3
  have ev : sec n f m i = vl n f (i + 2 * m) - 2 * vl n f (i + m) + vl n f i := by rw [es, if_neg (by omega)]
  refine v_lw_areDifferences_135 hG ⟨fun z => absurd z (by decide), fun _ => ⟨fun z => ?_, fun _ => ⟨fun z => absurd rfl z, fun _ => ⟨fun z => absurd z (by decide), fun _ => ?_⟩⟩⟩⟩
  · rw [iI_eq (by omega) (by omega) (by omega) (by omega)] at z
    omega
  refine C_rdg hG hR ex2 (by omega) ?_
  refine v_lw_areDifferences_155 hG ?_
  refine C_rdg hG hR (iI_add _ _) (by omega) ?_
  refine v_lw_areDifferences_161 hG ?_
  refine C_rdg hG hR rfl (by omega) ?_
  refine v_lw_areDifferences_166 hG ⟨fun _ => hN, fun z => absurd ?_ z⟩
  rw [iL2, iI_mul, iI_sub, iI_add, ev]
theorem ad_step (hG : qGood Ls xs P) (hR : cRd M 1 n f) {m : Nat} (h1 : 1 ≤ m) (h2 : m ≤ 31) {i : Nat} (hi : i < n)
    (hN : P 76 14 [(0, .ref 0), (1, .int (iI m)), (2, .int (iI (-1000000001))), (3, .int (iI n)), (4, .int (iI (cz (fun j => decide (dif n f 2 m j ≠ (-1000000001))) (i + 1)))), (5, .int (iI (cz (fun j => decide (dif n f 3 m j ≠ (-1000000001))) (i + 1)))), (6, .int (iI (cz (fun j => decide (dif n f 4 m j ≠ (-1000000001))) (i + 1)))), (7, .int (iI (i + 1 : Nat)))] [] M Q) :
    P 76 14 [(0, .ref 0), (1, .int (iI m)), (2, .int (iI (-1000000001))), (3, .int (iI n)), (4, .int (iI (cz (fun j => decide (dif n f 2 m j ≠ (-1000000001))) i))), (5, .int (iI (cz (fun j => decide (dif n f 3 m j ≠ (-1000000001))) i))), (6, .int (iI (cz (fun j => decide (dif n f 4 m j ≠ (-1000000001))) i))), (7, .int (iI i))] [] M Q := by
  have hn := hR.2.1
  have b2 := sec_ok hR.ok m (i : Int)
  have b2' := sec_ok hR.ok m ((i : Int) + m)
  have b3 := thr_ok hR.ok m (i : Int)
  have hts := thr_sec hR.ok m (i : Int)
  have hme : men n f m i = if okS (fun j => sec n f m ((i : Int) + j)) m = true then smS (fun j => sec n f m ((i : Int) + j)) m else (-1000000001) := rfl
  refine v_lw_areDifferences_14 hG ⟨fun c => ?_, fun _ => ?_⟩
  · rw [iI_le (by omega) (by omega) (by omega) (by omega)] at c
    omega
  refine C_dif2 hG hR h1 h2 rfl (by omega) (by omega) ?_
  refine v_lw_areDifferences_22 hG ?_
  refine C_dif2 hG hR h1 h2 (iI_add _ _) (by omega) (by omega) ?_
  refine v_lw_areDifferences_30 hG ?_
  refine C_dif3 hG hR h1 h2 hi ?_
  refine v_lw_areDifferences_36 hG ?_
  refine C_dif4 hG hR h1 h2 hi ?_
  refine v_lw_areDifferences_42 hG ?_
  refine ad_inner hG hR h1 h2 hi (fun sm hsm => ?_)
  have g := ad_103 hG hR h1 h2 hi (ad_170 hG hR h1 h2 hi hN)
  have hb := bZ_in (okS (fun j => sec n f m ((i : Int) + j)) m = true)
  have g92 : P 76 92 [(0, .ref 0), (1, .int (iI m)), (2, .int (iI (-1000000001))), (3, .int (iI n)), (4, .int (iI (cz (fun j => decide (dif n f 2 m j ≠ (-1000000001))) i))), (5, .int (iI (cz (fun j => decide (dif n f 3 m j ≠ (-1000000001))) i))), (6, .int (iI (cz (fun j => decide (dif n f 4 m j ≠ (-1000000001))) i))), (7, .int (iI i)), (8, .int (iI (sec n f m i))), (10, .int (iI (thr n f m i))), (11, .int (iI (men n f m i))), (12, .int sm), (13, .int (iI (bZ (okS (fun j => sec n f m ((i : Int) + j)) m = true))))] [] M Q := by
    refine v_lw_areDifferences_92 hG ⟨fun c => ?_, fun c => ?_⟩
    · rw [iz0 hb.1 (by omega), bZ_0] at c
      refine ⟨fun z => absurd ?_ z, fun _ => g⟩
      rw [hme, if_neg c]
    · rw [iz0 hb.1 (by omega), bZ_0] at c
      have c := Classical.not_not.mp c
      refine ⟨fun z => absurd ?_ z, fun _ => g⟩
      rw [hme, if_pos c, hsm c]
  refine v_lw_areDifferences_49 hG ⟨fun _ => ⟨fun c => ?_, fun c => ⟨fun c2 => ?_, fun c2 => ?_⟩⟩, fun c => ?_⟩
  · rw [iI_eq (by omega) (by omega) (by omega) (by omega)] at c
    refine ⟨fun z => absurd ?_ z, fun _ => g92⟩
    rw [hts, if_pos (Or.inl c)]
  · rw [iI_eq (by omega) (by omega) (by omega) (by omega)] at c c2
    refine ⟨fun z => absurd ?_ z, fun _ => g92⟩
    rw [hts, if_neg (by omega), iI_sub]
  · have c2 := Classical.not_not.mp c2
    rw [iI_eq (by omega) (by omega) (by omega) (by omega)] at c2
    refine ⟨fun z => absurd ?_ z, fun _ => g92⟩
    rw [hts, if_pos (Or.inr c2)]
  · rw [iI_le (by omega) (by omega) (by omega) (by omega)] at c
    omega
theorem L_areDifferences (hG : qGood Ls xs P) {s : zSt} (hS : CS s M) {m : Nat} (h1 : 1 ≤ m) (h2 : m ≤ 31) (hQ : Q (some (.int (1 : Int32))) M) : P 76 0 [(0, .ref 0), (1, .int (iI m))] [] M Q := by
  have hR := hS.1
  have hn := hR.2.1
  refine v_lw_areDifferences_0 hG ?_
  refine C_told0 hG hS ?_
  refine v_lw_areDifferences_5 hG ?_
  have key : ∀ (d i : Nat), i + d = s.1.1 → P 76 14 [(0, .ref 0), (1, .int (iI m)), (2, .int (iI (-1000000001))), (3, .int (iI s.1.1)), (4, .int (iI (cz (fun j => decide (dif s.1.1 s.1.2 2 m j ≠ (-1000000001))) i))), (5, .int (iI (cz (fun j => decide (dif s.1.1 s.1.2 3 m j ≠ (-1000000001))) i))), (6, .int (iI (cz (fun j => decide (dif s.1.1 s.1.2 4 m j ≠ (-1000000001))) i))), (7, .int (iI i))] [] M Q := by
    intro d
    induction d with
    | zero =>
      intro i hi
      have e : i = s.1.1 := by omega
      subst e
      have hd := dif2 (n := s.1.1) (f := s.1.2) (m := m) (i := (s.1.1 : Int)) (by omega)
      have hsn : sec s.1.1 s.1.2 m (s.1.1 : Int) = (-1000000001) := by
        unfold sec vl
        rw [if_pos (Or.inl (if_neg (by omega)))]
      refine v_lw_areDifferences_14 hG ⟨fun _ => ?_, fun c => ?_⟩
      · refine C_cnt hG hR h1 h2 iL2 (by omega) ?_
        refine v_lw_areDifferences_203 hG ⟨fun c => absurd rfl c, fun _ => ?_⟩
        refine C_cnt hG hR h1 h2 iL3 (by omega) ?_
        refine v_lw_areDifferences_209 hG ⟨fun c => absurd rfl c, fun _ => ?_⟩
        refine C_cnt hG hR h1 h2 iL4 (by omega) ?_
        refine v_lw_areDifferences_215 hG ⟨fun c => absurd rfl c, fun _ => ?_⟩
        refine C_dif2 hG hR h1 h2 rfl (by omega) (by omega) ?_
        rw [hsn]
        exact v_lw_areDifferences_222 hG ⟨fun c => absurd rfl c, fun _ => ⟨by decide, hQ⟩⟩
      · exact absurd (Int32.le_refl _) c
    | succ d ih =>
      intro i hi
      exact ad_step hG hR h1 h2 (by omega) (ih (i + 1) (by omega))
  exact key s.1.1 0 (by omega)
end DIF
end
section
/-! numbers for variances: roots, greatest divisors, lowest terms, bounds -/
def r64 (z : Int) : Prop := -9223372036854775808 ≤ z ∧ z < 9223372036854775808
theorem lgE {a b : Int} (h1 : r64 a) (h2 : r64 b) : (lg_cmp (lI a) (lI b) = (0 : Int32) ↔ a = b) ∧ (lg_cmp (lI a) (lI b) < (0 : Int32) ↔ a < b) ∧ (lg_cmp (lI a) (lI b) ≤ (0 : Int32) ↔ a ≤ b) ∧ ((0 : Int32) < lg_cmp (lI a) (lI b) ↔ b < a) := by
  obtain ⟨h3, h4⟩ := h1
  obtain ⟨h5, h6⟩ := h2
  have hz := cmpZ_in a b
  have e1 := cmpZ_0 a b
  have e2 := cmpZ_p a b
  have e3 := cmpZ_le a b
  have e4 := cmpZ_ge a b
  rw [lg_cmpZ h3 h4 h5 h6, iL0, iI_eq (by omega) (by omega) (by omega) (by omega), iI_lt (by omega) (by omega) (by omega) (by omega), iI_le (by omega) (by omega) (by omega) (by omega), iI_lt (by omega) (by omega) (by omega) (by omega)]
  omega
theorem isq_ex : ∀ v : Nat, ∃ r : Nat, r * r ≤ v ∧ v < (r + 1) * (r + 1) := by
  intro v
  induction v with
  | zero => exact ⟨0, by decide, by decide⟩
  | succ v ih =>
    obtain ⟨r, h1, h2⟩ := ih
    rcases Nat.lt_or_ge (v + 1) ((r + 1) * (r + 1)) with q | q
    · exact ⟨r, by omega, q⟩
    · refine ⟨r + 1, q, ?_⟩
      have e : (r + 1 + 1) * (r + 1 + 1) = (r + 1) * (r + 1) + 2 * r + 3 := by
        rw [Nat.add_mul (r + 1) 1 (r + 1 + 1), Nat.mul_add (r + 1) (r + 1) 1]
        omega
      omega
theorem isq_sp (v : Nat) : 0 ≤ isq v ∧ isq v * isq v ≤ v ∧ (v : Int) < (isq v + 1) * (isq v + 1) := by
  obtain ⟨r, h1, h2⟩ := isq_ex v
  have h3 : (r : Int) * r ≤ v := by exact_mod_cast h1
  have h4 : (v : Int) < ((r : Int) + 1) * (r + 1) := by exact_mod_cast h2
  rw [isq_eq (r := (r : Int)) (by omega) h3 h4]
  exact ⟨by omega, h3, h4⟩
theorem red_1 {a b : Nat} (hb : 0 < b) : Nat.gcd (a / Nat.gcd a b) (b / Nat.gcd a b) = 1 := by
  have hg : 0 < Nat.gcd a b := Nat.gcd_pos_of_pos_right _ hb
  obtain ⟨u, hu⟩ := Nat.gcd_dvd_left a b
  obtain ⟨v, hv⟩ := Nat.gcd_dvd_right a b
  have h := Nat.gcd_mul_left (Nat.gcd a b) u v
  rw [← hu, ← hv] at h
  have h1 : a / Nat.gcd a b = u := Nat.div_eq_of_eq_mul_right hg hu
  have h2 : b / Nat.gcd a b = v := Nat.div_eq_of_eq_mul_right hg hv
  rw [h1, h2]
  refine Nat.eq_of_mul_eq_mul_left hg ?_
  rw [← h, Nat.mul_one]
theorem red_eq {a b c d : Nat} (hb : 0 < b) (hd : 0 < d) (h : a * d = c * b) : a / Nat.gcd a b = c / Nat.gcd c d ∧ b / Nat.gcd a b = d / Nat.gcd c d := by
  have hg : 0 < Nat.gcd a b := Nat.gcd_pos_of_pos_right _ hb
  have hk : 0 < Nat.gcd c d := Nat.gcd_pos_of_pos_right _ hd
  have e1 : Nat.gcd a b * d = Nat.gcd c d * b := by
    rw [← Nat.gcd_mul_right, ← Nat.gcd_mul_right, h, Nat.mul_comm b d]
  obtain ⟨u, hu⟩ := Nat.gcd_dvd_left a b
  obtain ⟨v, hv⟩ := Nat.gcd_dvd_right a b
  obtain ⟨x, hx⟩ := Nat.gcd_dvd_left c d
  obtain ⟨y, hy⟩ := Nat.gcd_dvd_right c d
  rw [Nat.div_eq_of_eq_mul_right hg hu, Nat.div_eq_of_eq_mul_right hg hv, Nat.div_eq_of_eq_mul_right hk hx, Nat.div_eq_of_eq_mul_right hk hy]
  generalize Nat.gcd a b = g at *
  generalize Nat.gcd c d = k at *
  have hvy : v = y := by
    refine Nat.eq_of_mul_eq_mul_left (Nat.mul_pos hg hk) ?_
    rw [hv, hy] at e1
    rw [show g * k * v = k * (g * v) by rw [Nat.mul_comm g k, Nat.mul_assoc], show g * k * y = g * (k * y) by rw [Nat.mul_assoc], ← e1]
  refine ⟨?_, hvy⟩
  subst hvy
  have hv0 : 0 < v := by
    rcases Nat.eq_zero_or_pos v with q | q
    · rw [q, Nat.mul_zero] at hv
      omega
    · exact q
  refine Nat.eq_of_mul_eq_mul_left (Nat.mul_pos (Nat.mul_pos hg hk) hv0) ?_
  rw [hu, hy, hx, hv] at h
  rw [show g * k * v * u = g * u * (k * v) by ac_rfl, h]
  ac_rfl
theorem cz_ex {p : Nat → Bool} : ∀ {k : Nat}, cz p k ≠ 0 → ∃ j, j < k ∧ p j = true := by
  intro k
  induction k with
  | zero => intro h; exact absurd rfl h
  | succ k ih =>
    intro h
    by_cases e : p k = true
    · exact ⟨k, by omega, e⟩
    · rw [czs, if_neg e, Int.add_zero] at h
      obtain ⟨j, hj, hp⟩ := ih h
      exact ⟨j, by omega, hp⟩
section VM
variable {n : Nat} {f : Nat → Int}
theorem m_21 (hf : ∀ j, j < n → okv (f j)) (hn : n ≤ 64) {m : Nat} (hm : 1 ≤ m) (hm2 : m ≤ 31) (h : cnd n f 4 m ≠ 0) : m ≤ 21 := by
  obtain ⟨j, hj, hp⟩ := cz_ex h
  have hp := of_decide_eq_true hp
  rw [dif4 (by omega), men_ne hf hm2] at hp
  have h2 := okS_at _ m (m - 1) hp (by omega)
  have h3 := vl_lt (sec_r h2).1.2.2
  omega
theorem vNB (w : Int) (m : Nat) (h : vB n f w m ≠ 0) : vN n f w m * vB n f w m = vS n f w m * vD n f w m ∧ Nat.gcd (vN n f w m) (vD n f w m) = 1 ∧ 0 < vD n f w m ∧ vN n f w m ≤ vS n f w m ∧ vN n f w m = vS n f w m / Nat.gcd (vS n f w m) (vB n f w m) ∧ vD n f w m = vB n f w m / Nat.gcd (vS n f w m) (vB n f w m) := by
  have e1 : vN n f w m = vS n f w m / Nat.gcd (vS n f w m) (vB n f w m) := if_neg h
  have e2 : vD n f w m = vB n f w m / Nat.gcd (vS n f w m) (vB n f w m) := if_neg h
  rw [e1, e2]
  generalize vS n f w m = a at *
  generalize vB n f w m = b at *
  have hb : 0 < b := by omega
  have hg : 0 < Nat.gcd a b := Nat.gcd_pos_of_pos_right _ hb
  obtain ⟨u, hu⟩ := Nat.gcd_dvd_left a b
  obtain ⟨v, hv⟩ := Nat.gcd_dvd_right a b
  refine ⟨?_, red_1 hb, Nat.div_pos (Nat.le_of_dvd hb (Nat.gcd_dvd_right a b)) hg, Nat.div_le_self _ _, rfl, rfl⟩
  rw [Nat.div_eq_of_eq_mul_right hg hu, Nat.div_eq_of_eq_mul_right hg hv]
  generalize Nat.gcd a b = g at *
  rw [hu, hv, Nat.mul_left_comm, Nat.mul_assoc]
theorem od_23 : od 2 = 4 ∧ od 3 = 4 := ⟨rfl, rfl⟩
theorem vS_23 (m : Nat) : vS n f 2 m = vS n f 3 m := rfl
theorem vB_23 {m : Nat} (hn : n ≤ 64) (hm : 1 ≤ m) (hm2 : m ≤ 31) : vB n f 3 m * (m * m) = 3 * vB n f 2 m := by
  have h2 := (vB_c (n := n) (f := f) hn hm hm2 (w := 2) ⟨by decide, by decide⟩).1
  have h3 := (vB_c (n := n) (f := f) hn hm hm2 (w := 3) ⟨by decide, by decide⟩).1
  rw [dv_2] at h2
  rw [dv_3] at h3
  have e : ((vB n f 3 m * (m * m) : Nat) : Int) = ((3 * vB n f 2 m : Nat) : Int) := by
    push_cast
    rw [h2, h3]
    show 6 * ((m : Int) * m) * cnd n f 4 m * ((m : Int) * m) = 3 * (2 * ((m : Int) * m) * ((m : Int) * m) * cnd n f 4 m)
    generalize (m : Int) * m = q
    generalize cnd n f 4 m = c
    rw [Int.mul_assoc, Int.mul_comm c q, ← Int.mul_assoc, ← Int.mul_assoc, ← Int.mul_assoc, ← Int.mul_assoc]
    rfl
  exact_mod_cast e
theorem vB_3 {m : Nat} (hf : ∀ j, j < n → okv (f j)) (hn : n ≤ 64) (hm : 1 ≤ m) (hm2 : m ≤ 31) (h : cnd n f 4 m ≠ 0) : vB n f 3 m ≤ 169344 ∧ m * m ≤ 441 := by
  have h3 := (vB_c (n := n) (f := f) hn hm hm2 (w := 3) ⟨by decide, by decide⟩).1
  have h21 := m_21 hf hn hm hm2 h
  have hmm : m * m ≤ 441 := Nat.mul_le_mul h21 h21
  have hc : 0 ≤ cnd n f 4 m ∧ cnd n f 4 m ≤ n := cz_in _ n
  rw [dv_3] at h3
  have hmm2 : (m : Int) * m ≤ 441 := by
    rw [← Int.natCast_mul]
    omega
  have hmm0 : 0 ≤ (m : Int) * m := Int.mul_nonneg (by omega) (by omega)
  have h4 := mul_bd (A := 2646) (C := 64) (a := 6 * ((m : Int) * m)) (c := cnd n f 4 m) (by omega) (by omega) (by omega) (by omega)
  have e : ((vB n f 3 m : Nat) : Int) = 6 * ((m : Int) * m) * cnd n f 4 m := h3
  exact ⟨by omega, hmm⟩
theorem vT {m : Nat} (hf : ∀ j, j < n → okv (f j)) (hn : n ≤ 64) (hm : 1 ≤ m) (hm2 : m ≤ 31) (h : cnd n f 4 m ≠ 0) : vN n f 2 m * m * m < 9223372036854775808 ∧ 0 < vD n f 2 m ∧ vN n f 3 m = vN n f 2 m * m * m / Nat.gcd (vN n f 2 m * m * m) (3 * vD n f 2 m) ∧ vD n f 3 m = 3 * vD n f 2 m / Nat.gcd (vN n f 2 m * m * m) (3 * vD n f 2 m) := by
  have b2 := vB_c (n := n) (f := f) hn hm hm2 (w := 2) ⟨by decide, by decide⟩
  have b3 := vB_c (n := n) (f := f) hn hm hm2 (w := 3) ⟨by decide, by decide⟩
  have n2 : vB n f 2 m ≠ 0 := fun z => h (b2.2.2.mp z)
  have n3 : vB n f 3 m ≠ 0 := fun z => h (b3.2.2.mp z)
  have k2 := vNB 2 m n2
  have k3 := vNB 3 m n3
  have hB := vB_3 hf hn hm hm2 h
  have hK := vS_K hf hn hm hm2 (w := 3) ⟨by decide, by decide⟩
  have h23 := vB_23 (n := n) (f := f) hn hm hm2
  refine ⟨?_, k2.2.2.1, ?_⟩
  · have s1 : vN n f 2 m ≤ 110000000000 * 169344 := by
      have := k2.2.2.2.1
      rw [vS_23] at this
      omega
    have s2 : vN n f 2 m * (m * m) ≤ 110000000000 * 169344 * 441 := Nat.mul_le_mul s1 hB.2
    rw [Nat.mul_assoc]
    omega
  · have hx : vS n f 3 m * (3 * vD n f 2 m) = vN n f 2 m * m * m * vB n f 3 m := by
      have e1 := k2.1
      rw [vS_23] at e1
      rw [Nat.mul_left_comm, ← e1, Nat.mul_left_comm, ← h23, Nat.mul_assoc (vN n f 2 m), Nat.mul_assoc (vN n f 2 m), Nat.mul_comm (m * m)]
    rw [k3.2.2.2.2.1, k3.2.2.2.2.2]
    exact red_eq (by omega) (by omega) hx
theorem men_1 {i : Int} (hf : ∀ j, j < n → okv (f j)) : men n f 1 i = sec n f 1 i := by
  have h := sec_ok hf 1 i
  have e0 : okS (fun j => sec n f (1 : Nat) (i + j)) 1 = (true && decide (sec n f (1 : Nat) (i + (0 : Nat)) ≠ (-1000000001))) := rfl
  have e1 : smS (fun j => sec n f (1 : Nat) (i + j)) 1 = 0 + sec n f (1 : Nat) (i + (0 : Nat)) := rfl
  unfold men
  rw [e0, e1, show i + ((0 : Nat) : Int) = i by omega, show ((1 : Nat) : Int) = 1 from rfl, Bool.true_and, Int.zero_add]
  split
  · rfl
  · rename_i c
    have c : sec n f 1 i = (-1000000001) := by
      by_cases q : sec n f 1 i = (-1000000001)
      · exact q
      · exact absurd (decide_eq_true q) c
    rw [c]
theorem dif_1 (hf : ∀ j, j < n → okv (f j)) (i : Int) : dif n f 4 1 i = dif n f 2 1 i := by
  unfold dif
  by_cases c : 0 ≤ i ∧ i < n
  · rw [if_pos c, if_pos c, if_neg (by decide), if_neg (by decide), if_pos rfl, men_1 hf]
    rfl
  · rw [if_neg c, if_neg c]
theorem sqz_c {n : Nat} {f f' : Nat → Int} {o o' : Int} {m m' : Nat} (h : ∀ i : Nat, dif n f o m i = dif n f' o' m' i) : ∀ k, sqz n f o m k = sqz n f' o' m' k := by
  intro k
  induction k with
  | zero => rfl
  | succ k ih => rw [sqz_s, sqz_s, ih, h k]
theorem cz_c {p p' : Nat → Bool} (h : ∀ i : Nat, p i = p' i) : ∀ k, cz p k = cz p' k := by
  intro k
  induction k with
  | zero => rfl
  | succ k ih => rw [czs, czs, ih, h k]
theorem vND_c {n : Nat} {f f' : Nat → Int} {w w' : Int} {m m' : Nat} (h : ∀ i : Nat, dif n f (od w) m i = dif n f' (od w') m' i) (hv : dv w m = dv w' m') : vN n f w m = vN n f' w' m' ∧ vD n f w m = vD n f' w' m' := by
  have e1 : vS n f w m = vS n f' w' m' := by
    unfold vS
    rw [sqz_c h]
  have e2 : vB n f w m = vB n f' w' m' := by
    unfold vB cnd
    rw [hv, cz_c (fun i => by rw [h i])]
  unfold vN vD
  rw [e1, e2]
  exact ⟨rfl, rfl⟩
theorem vND_1 (hf : ∀ j, j < n → okv (f j)) : vN n f 2 1 = vN n f 0 1 ∧ vD n f 2 1 = vD n f 0 1 := vND_c (fun i => dif_1 hf i) (by decide)
end VM
end
section
/-! isVariance: lowest terms, roots, the time variance -/
section ISV
variable {Ls : Nat} {xs : Nat → Int32} {P : qSem} {M : qMem} {Q : qPost} {n : Nat} {f : Nat → Int} {w : Int} {m : Nat}
theorem C_var0 (hG : qGood Ls xs P) (hR : cRd M 1 n f) (hw : wOK w) (h1 : 1 ≤ m) (h2 : m ≤ 31) {xw xm : Int32} (ew : xw = iI w) (em : xm = iI m) (hQ : ∀ M', qFm [34, 35] M M' → cRd M' 1 n f → Q (some (.long (lI (if vD n f w m = 0 then (-1000000001) else (vN n f w m : Int))))) M') : P 49 0 [(0, .ref 0), (1, .int xw), (2, .int xm), (3, .int (0 : Int32))] [] M Q := by
  subst ew em
  obtain ⟨ha, hb⟩ := id hw
  rw [iL0]
  refine C_variance hG hR (w := w) (m := m) (p := 0) ⟨by omega, by omega⟩ ⟨by omega, by omega⟩ ⟨by decide, by decide⟩ (fun M' hF => ?_)
  have e : aVar n f w m 0 = if vD n f w m = 0 then (-1000000001) else (vN n f w m : Int) := by
    unfold aVar
    rw [if_pos (by omega), Int.toNat_natCast, if_pos (rfl : (0 : Int) = 0)]
  rw [e]
  exact hQ M' hF (hR.fm hF (by decide) (by decide))
theorem C_var1 (hG : qGood Ls xs P) (hR : cRd M 1 n f) (hw : wOK w) (h1 : 1 ≤ m) (h2 : m ≤ 31) {xw xm : Int32} (ew : xw = iI w) (em : xm = iI m) (hQ : ∀ M', qFm [34, 35] M M' → cRd M' 1 n f → Q (some (.long (lI (if vD n f w m = 0 then (-1000000001) else (vD n f w m : Int))))) M') : P 49 0 [(0, .ref 0), (1, .int xw), (2, .int xm), (3, .int (1 : Int32))] [] M Q := by
  subst ew em
  obtain ⟨ha, hb⟩ := id hw
  rw [iL1]
  refine C_variance hG hR (w := w) (m := m) (p := 1) ⟨by omega, by omega⟩ ⟨by omega, by omega⟩ ⟨by decide, by decide⟩ (fun M' hF => ?_)
  have e : aVar n f w m 1 = if vD n f w m = 0 then (-1000000001) else (vD n f w m : Int) := by
    unfold aVar
    rw [if_pos (by omega), Int.toNat_natCast, if_neg (by decide : ¬ (1 : Int) = 0)]
  rw [e]
  exact hQ M' hF (hR.fm hF (by decide) (by decide))
theorem C_cmpv (hG : qGood Ls xs P) (hR : cRd M 1 n f) (hw : wOK w) {o : Nat} (h1 : 1 ≤ m) (h2 : m ≤ 31) (h3 : 1 ≤ o) (h4 : o ≤ 31) (hQ : ∀ M', qFm [34, 35] M M' → cRd M' 1 n f → Q (some (.int (iI (if vD n f w m = 0 ∨ vD n f w o = 0 then (-1000000001) else if aCmp2 n f w m o = 0 then 0 else if aCmp2 n f w m o < 0 then 1 else 2)))) M') : P 51 0 [(0, .ref 0), (1, .int (iI w)), (2, .int (iI m)), (3, .int (iI o))] [] M Q := by
  obtain ⟨ha, hb⟩ := id hw
  refine C_compare hG hR (w := w) (m := m) (o := o) ⟨by omega, by omega⟩ ⟨by omega, by omega⟩ ⟨by omega, by omega⟩ (fun M' hF => ?_)
  have e : aCmp n f w m o = if vD n f w m = 0 ∨ vD n f w o = 0 then (-1000000001) else if aCmp2 n f w m o = 0 then 0 else if aCmp2 n f w m o < 0 then 1 else 2 := by
    unfold aCmp
    rw [if_pos (by omega), Int.toNat_natCast, Int.toNat_natCast]
  rw [e]
  exact hQ M' hF (hR.fm hF (by decide) (by decide))
theorem aCmp2_r : aCmp2 n f w m m = 0 := (cmpZ_0 _ _).mpr rfl
theorem C_devv (hG : qGood Ls xs P) (hR : cRd M 1 n f) (hw : wOK w) (h1 : 1 ≤ m) (h2 : m ≤ 31) (hQ : ∀ M', qFm [34, 35] M M' → cRd M' 1 n f → Q (some (.long (lI (if vD n f w m = 0 then (-1000000001) else isq (tr6 (vN n f w m) (vD n f w m)))))) M') : P 50 0 [(0, .ref 0), (1, .int (iI w)), (2, .int (iI m))] [] M Q := by
  obtain ⟨ha, hb⟩ := id hw
  refine C_deviation hG hR (w := w) (m := m) ⟨by omega, by omega⟩ ⟨by omega, by omega⟩ (fun M' hF => ?_)
  have e : aDev n f w m = if vD n f w m = 0 then (-1000000001) else isq (tr6 (vN n f w m) (vD n f w m)) := by
    unfold aDev
    rw [if_pos (by omega), Int.toNat_natCast]
  rw [e]
  exact hQ M' hF (hR.fm hF (by decide) (by decide))
theorem od_c (hw : wOK w) : w = 0 ∧ od w = 2 ∨ w = 1 ∧ od w = 3 ∨ w = 2 ∧ od w = 4 ∨ w = 3 ∧ od w = 4 := by
  obtain ⟨ha, hb⟩ := hw
  rcases (show w = 0 ∨ w = 1 ∨ w = 2 ∨ w = 3 by omega) with e | e | e | e
  · subst e
    exact Or.inl ⟨rfl, rfl⟩
  · subst e
    exact Or.inr (Or.inl ⟨rfl, rfl⟩)
  · subst e
    exact Or.inr (Or.inr (Or.inl ⟨rfl, rfl⟩))
  · subst e
    exact Or.inr (Or.inr (Or.inr ⟨rfl, rfl⟩))
theorem is_194 (hG : qGood Ls xs P) (hR : cRd M 1 n f) (hw : wOK w) (h1 : 1 ≤ m) (h2 : m ≤ 31) (hD : vD n f w m ≠ 0) (hQ : ∀ M', qFm [34, 35] M M' → Q (some (.int (1 : Int32))) M') :
    P 77 194 [(0, .ref 0), (1, .int (iI w)), (2, .int (iI m)), (3, .long (lI (vN n f w m))), (5, .long (lI (vD n f w m))), (16, .int (1 : Int32))] [] M Q := by
  obtain ⟨ha, hb⟩ := id hw
  have hT : narrow .boolean (.int (1 : Int32)) = .int (1 : Int32) ∧ Q (some (.int (1 : Int32))) M := ⟨by decide, hQ M qFm.rf⟩
  refine v_lw_isVariance_194 hG ⟨fun c => absurd c (by decide), fun _ => ⟨fun _ => hT, fun c1 => ⟨fun _ => hT, fun c2 => ?_⟩⟩⟩
  rw [iL1, iI_lt (by omega) (by omega) (by omega) (by omega)] at c1
  have c2 := Classical.not_not.mp c2
  rw [iL2, iI_eq (by omega) (by omega) (by omega) (by omega)] at c2
  have e1 : m = 1 := by omega
  subst e1 c2
  have e2 := vND_1 (n := n) (f := f) hR.ok
  have hb2 := vND hR.ok hR.2.1 (m := 1) (by omega) (by omega) (w := 0) ⟨by decide, by decide⟩
  rw [e2.1, e2.2]
  rw [e2.2] at hD
  have rA : r64 (vN n f 0 1 : Nat) := ⟨by omega, by omega⟩
  have rB : r64 (vD n f 0 1 : Nat) := ⟨by omega, by omega⟩
  refine C_var0 hG hR (w := 0) (m := 1) ⟨by decide, by decide⟩ (by omega) (by omega) iL0 iL1 (fun M1 hF1 hR1 => ?_)
  rw [if_neg hD]
  refine v_lw_isVariance_208 hG ⟨fun c => absurd ((lgE rA rA).1.mpr rfl) c, fun _ => ?_⟩
  refine C_var1 hG hR1 (w := 0) (m := 1) ⟨by decide, by decide⟩ (by omega) (by omega) iL0 iL1 (fun M2 hF2 hR2 => ?_)
  rw [if_neg hD]
  exact v_lw_isVariance_216 hG ⟨fun c => absurd ((lgE rB rB).1.mpr rfl) c, fun _ => ⟨by decide, hQ M2 (hF1.tr hF2)⟩⟩
theorem is_163 (hG : qGood Ls xs P) {l1 l2 l16 : Int32} {l3 l5 l21 l23 : Int64} {a b : Nat} (h1 : (a : Int) < 9223372036854775808) (h2 : (b : Int) < 9223372036854775808)
    (hX : P 77 176 [(0, .ref 0), (1, .int l1), (2, .int l2), (3, .long l3), (5, .long l5), (16, .int l16), (21, .long l21), (23, .long l23), (25, .long (lI (Nat.gcd a b : Nat)))] [] M Q) :
    P 77 163 [(0, .ref 0), (1, .int l1), (2, .int l2), (3, .long l3), (5, .long l5), (16, .int l16), (21, .long l21), (23, .long l23), (25, .long (lI a)), (27, .long (lI b))] [] M Q := by
  have key : ∀ (d l g : Nat), l ≤ d → (g : Int) < 9223372036854775808 → (l : Int) < 9223372036854775808 → Nat.gcd g l = Nat.gcd a b → P 77 163 [(0, .ref 0), (1, .int l1), (2, .int l2), (3, .long l3), (5, .long l5), (16, .int l16), (21, .long l21), (23, .long l23), (25, .long (lI g)), (27, .long (lI l))] [] M Q := by
    intro d
    induction d with
    | zero =>
      intro l g hl hg hl2 he
      have e : l = 0 := by omega
      subst e
      rw [Nat.gcd_zero_right] at he
      rw [← he] at hX
      refine v_lw_isVariance_163 hG ⟨fun _ => hX, fun c => absurd ?_ c⟩
      rw [lL0]
      exact (lgE ⟨by omega, by omega⟩ ⟨by omega, by omega⟩).1.mpr rfl
    | succ d ih =>
      intro l g hl hg hl2 he
      refine v_lw_isVariance_163 hG ⟨fun c => ?_, fun c => ⟨?_, ?_⟩⟩
      · rw [lL0, (lgE ⟨by omega, by omega⟩ ⟨by omega, by omega⟩).1] at c
        have e : l = 0 := by omega
        subst e
        rw [Nat.gcd_zero_right] at he
        rw [← he] at hX
        exact hX
      · rw [lL0, (lgE ⟨by omega, by omega⟩ ⟨by omega, by omega⟩).1] at c
        rw [lL0, lI_eq (by omega) (by omega) (by omega) (by omega)]
        exact c
      · rw [lL0, (lgE ⟨by omega, by omega⟩ ⟨by omega, by omega⟩).1] at c
        have hl0 : 0 < l := by omega
        have hm := Nat.mod_lt g hl0
        rw [lI_rem hl0 hg hl2]
        refine ih (g % l) l (by omega) hl2 (by omega) ?_
        rw [← gcd_st]
        exact he
  exact key b b a (Nat.le_refl _) h1 h2 rfl
theorem is_58 (hG : qGood Ls xs P) {l1 l2 : Int32} {l3 l5 : Int64} {a b : Nat} (h1 : (a : Int) < 9223372036854775808) (h2 : (b : Int) < 9223372036854775808)
    (hX : P 50 0 [(0, .ref 0), (1, .int l1), (2, .int l2)] [] M (fun v M' => P 77 75 [(0, .ref 0), (1, .int l1), (2, .int l2), (3, .long l3), (5, .long l5), (8, .long (lI (Nat.gcd a b : Nat)))] (v.toList ++ []) M' Q)) :
    P 77 58 [(0, .ref 0), (1, .int l1), (2, .int l2), (3, .long l3), (5, .long l5), (8, .long (lI a)), (10, .long (lI b))] [] M Q := by
  have key : ∀ (d l g : Nat), l ≤ d → (g : Int) < 9223372036854775808 → (l : Int) < 9223372036854775808 → Nat.gcd g l = Nat.gcd a b → P 77 58 [(0, .ref 0), (1, .int l1), (2, .int l2), (3, .long l3), (5, .long l5), (8, .long (lI g)), (10, .long (lI l))] [] M Q := by
    intro d
    induction d with
    | zero =>
      intro l g hl hg hl2 he
      have e : l = 0 := by omega
      subst e
      rw [Nat.gcd_zero_right] at he
      rw [← he] at hX
      refine v_lw_isVariance_58 hG ⟨fun _ => hX, fun c => absurd ?_ c⟩
      rw [lL0]
      exact (lgE ⟨by omega, by omega⟩ ⟨by omega, by omega⟩).1.mpr rfl
    | succ d ih =>
      intro l g hl hg hl2 he
      refine v_lw_isVariance_58 hG ⟨fun c => ?_, fun c => ⟨?_, ?_⟩⟩
      · rw [lL0, (lgE ⟨by omega, by omega⟩ ⟨by omega, by omega⟩).1] at c
        have e : l = 0 := by omega
        subst e
        rw [Nat.gcd_zero_right] at he
        rw [← he] at hX
        exact hX
      · rw [lL0, (lgE ⟨by omega, by omega⟩ ⟨by omega, by omega⟩).1] at c
        rw [lL0, lI_eq (by omega) (by omega) (by omega) (by omega)]
        exact c
      · rw [lL0, (lgE ⟨by omega, by omega⟩ ⟨by omega, by omega⟩).1] at c
        have hl0 : 0 < l := by omega
        have hm := Nat.mod_lt g hl0
        rw [lI_rem hl0 hg hl2]
        refine ih (g % l) l (by omega) hl2 (by omega) ?_
        rw [← gcd_st]
        exact he
  exact key b b a (Nat.le_refl _) h1 h2 rfl
theorem is_132 (hG : qGood Ls xs P) (hR : cRd M 1 n f) (hw : wOK w) (h1 : 1 ≤ m) (h2 : m ≤ 31) (hc : cnd n f (od w) m ≠ 0) (hD : vD n f w m ≠ 0) (hQ : ∀ M', qFm [34, 35] M M' → Q (some (.int (1 : Int32))) M') :
    P 77 132 [(0, .ref 0), (1, .int (iI w)), (2, .int (iI m)), (3, .long (lI (vN n f w m))), (5, .long (lI (vD n f w m))), (16, .int (1 : Int32))] [] M Q := by
  obtain ⟨ha, hb⟩ := id hw
  refine v_lw_isVariance_132 hG ⟨fun _ => is_194 hG hR hw h1 h2 hD hQ, fun c => ?_⟩
  have c := Classical.not_not.mp c
  rw [iL3, iI_eq (by omega) (by omega) (by omega) (by omega)] at c
  subst c
  have hc : cnd n f 4 m ≠ 0 := hc
  obtain ⟨t1, t2, t3, t4⟩ := vT hR.ok hR.2.1 h1 h2 hc
  have b2 := vND hR.ok hR.2.1 h1 h2 (w := 2) ⟨by decide, by decide⟩
  have b3 := vND hR.ok hR.2.1 h1 h2 (w := 3) ⟨by decide, by decide⟩
  refine C_var0 hG hR (w := 2) (m := m) ⟨by decide, by decide⟩ h1 h2 iL2 rfl (fun M1 hF1 hR1 => ?_)
  rw [if_neg (by omega)]
  refine v_lw_isVariance_140 hG ?_
  refine C_var1 hG hR1 (w := 2) (m := m) ⟨by decide, by decide⟩ h1 h2 iL2 rfl (fun M2 hF2 hR2 => ?_)
  rw [if_neg (by omega)]
  refine v_lw_isVariance_146 hG ?_
  have e1 : ((vN n f 2 m : Nat) : Int) * (m : Int) * (m : Int) = ((vN n f 2 m * m * m : Nat) : Int) := by
    rw [Int.natCast_mul, Int.natCast_mul]
  have e2 : (3 : Int) * ((vD n f 2 m : Nat) : Int) = ((3 * vD n f 2 m : Nat) : Int) := by omega
  rw [i2l (by omega) (by omega), lI_mul, lI_mul, e1, show (3 : Int64) = lI 3 by decide, lI_mul, e2]
  have hg : 0 < Nat.gcd (vN n f 2 m * m * m) (3 * vD n f 2 m) := Nat.gcd_pos_of_pos_right _ (by omega)
  have hg2 : Nat.gcd (vN n f 2 m * m * m) (3 * vD n f 2 m) ≤ 3 * vD n f 2 m := Nat.le_of_dvd (by omega) (Nat.gcd_dvd_right _ _)
  refine is_163 hG (by omega) (by omega) ?_
  have nz : ¬ lI ((Nat.gcd (vN n f 2 m * m * m) (3 * vD n f 2 m) : Nat) : Int) = 0 := by
    rw [lL0, lI_eq (by omega) (by omega) (by omega) (by omega)]
    omega
  have r3 : r64 (vN n f 3 m : Nat) := ⟨by omega, by omega⟩
  have r4 : r64 (vD n f 3 m : Nat) := ⟨by omega, by omega⟩
  refine v_lw_isVariance_176 hG ⟨fun c => absurd c (by decide), fun _ => ⟨nz, ⟨fun c => absurd ?_ c, fun _ => ⟨nz, ⟨fun c => absurd ?_ c, fun _ => ?_⟩⟩⟩⟩⟩
  · rw [lI_div (by omega) (by omega), ← t3]
    exact (lgE r3 r3).1.mpr rfl
  · rw [lI_div (by omega) (by omega), ← t4]
    exact (lgE r4 r4).1.mpr rfl
  · exact is_194 hG hR2 hw h1 h2 hD (fun M' hF => hQ M' ((hF1.tr hF2).tr hF))
theorem is_75 (hG : qGood Ls xs P) (hR : cRd M 1 n f) (hw : wOK w) (h1 : 1 ≤ m) (h2 : m ≤ 31) (hc : cnd n f (od w) m ≠ 0) (hD : vD n f w m ≠ 0) (hQ : ∀ M', qFm [34, 35] M M' → Q (some (.int (1 : Int32))) M') :
    P 77 75 [(0, .ref 0), (1, .int (iI w)), (2, .int (iI m)), (3, .long (lI (vN n f w m))), (5, .long (lI (vD n f w m))), (8, .long (lI 1))] [.long (lI (isq (tr6 (vN n f w m) (vD n f w m))))] M Q := by
  have b := vND hR.ok hR.2.1 h1 h2 hw
  have b2 := tr6_in hR.ok hR.2.1 h1 h2 hw hD
  have hpos : 0 < vD n f w m := by omega
  have m1 := Nat.mod_lt (vN n f w m) hpos
  have e3 : ((vN n f w m % vD n f w m : Nat) : Int) * 1000000 = ((vN n f w m % vD n f w m * 1000000 : Nat) : Int) := by omega
  have e4 : ((vN n f w m / vD n f w m : Nat) : Int) * 1000000 = ((vN n f w m / vD n f w m * 1000000 : Nat) : Int) := by omega
  have nz : ¬ lI ((vD n f w m : Nat) : Int) = 0 := by
    rw [lL0, lI_eq (by omega) (by omega) (by omega) (by omega)]
    omega
  refine v_lw_isVariance_75 hG ⟨nz, nz, nz, ?_⟩
  rw [lI_rem hpos (by omega) (by omega), lI_div (by omega) (by omega), show (1000000 : Int64) = lI 1000000 by decide, lI_mul, lI_mul, e3, e4, lI_div (by omega) (by omega), lI_add]
  have e5 : ((vN n f w m / vD n f w m * 1000000 : Nat) : Int) + ((vN n f w m % vD n f w m * 1000000 / vD n f w m : Nat) : Int) = ((tr6 (vN n f w m) (vD n f w m) : Nat) : Int) := by
    unfold tr6
    omega
  rw [e5]
  have hsp := isq_sp (tr6 (vN n f w m) (vD n f w m))
  generalize tr6 (vN n f w m) (vD n f w m) = W at *
  generalize isq (W : Nat) = r at *
  obtain ⟨hr0, hrr, hr1⟩ := hsp
  have hrb : r < 500000000 := by
    rcases Int.lt_or_le r 500000000 with q | q
    · exact q
    · have := Int.mul_le_mul q q (by omega) (by omega)
      omega
  have k0 := mul_bd (A := 500000000) (C := 500000000) (a := r) (c := r) (by omega) (by omega) (by omega) (by omega)
  have k1 := mul_bd (A := 500000000) (C := 500000000) (a := r + 1) (c := r + 1) (by omega) (by omega) (by omega) (by omega)
  have h0 : r64 0 := ⟨by decide, by decide⟩
  have ho : r64 1 := ⟨by decide, by decide⟩
  have hA : r64 (vN n f w m : Nat) := ⟨by omega, by omega⟩
  have hB : r64 (vD n f w m : Nat) := ⟨by omega, by omega⟩
  have hW : r64 (W : Nat) := ⟨by omega, by omega⟩
  have hr : r64 r := ⟨by omega, by omega⟩
  have hq0 : r64 (r * r) := ⟨by omega, by omega⟩
  have hq1 : r64 ((r + 1) * (r + 1)) := ⟨by omega, by omega⟩
  refine v_lw_isVariance_90 hG ?_
  rw [lL0, lL1, lI_add, lI_mul, lI_mul]
  refine ⟨fun c => absurd ((lgE hA h0).2.1.mp c) (by omega), fun _ => ⟨fun c => absurd ((lgE hB h0).2.2.1.mp c) (by omega), fun _ => ⟨fun c => absurd ((lgE ho ho).1.mpr rfl) c, fun _ => ⟨fun c => absurd ((lgE hr h0).2.1.mp c) (by omega), fun _ => ⟨fun c => absurd ((lgE hq0 hW).2.2.2.mp c) (by omega), fun _ => ⟨fun c => absurd ((lgE hq1 hW).2.2.1.mp c) (by omega), fun _ => ?_⟩⟩⟩⟩⟩⟩
  refine C_cmpv hG hR hw h1 h2 h1 h2 (fun M1 hF1 hR1 => ?_)
  rw [if_neg (by omega), if_pos aCmp2_r]
  exact v_lw_isVariance_127 hG ⟨fun c => absurd iL0.symm c, fun _ => is_132 hG hR1 hw h1 h2 hc hD (fun M' hF => hQ M' (hF1.tr hF))⟩
theorem is_27 (hG : qGood Ls xs P) (hR : cRd M 1 n f) (hw : wOK w) (h1 : 1 ≤ m) (h2 : m ≤ 31) (hQ : ∀ M', qFm [34, 35] M M' → Q (some (.int (1 : Int32))) M') :
    P 77 27 [(0, .ref 0), (1, .int (iI w)), (2, .int (iI m)), (3, .long (lI (if vD n f w m = 0 then (-1000000001) else (vN n f w m : Int)))), (5, .long (lI (if vD n f w m = 0 then (-1000000001) else (vD n f w m : Int))))] [.int (iI (cnd n f (od w) m))] M Q := by
  have b := vND hR.ok hR.2.1 h1 h2 hw
  have b2 := vB_c (n := n) (f := f) hR.2.1 h1 h2 hw
  have hci : 0 ≤ cnd n f (od w) m ∧ cnd n f (od w) m ≤ n := cz_in _ n
  have hn := hR.2.1
  have hN : r64 ((-1000000001)) := ⟨by decide, by decide⟩
  refine v_lw_isVariance_27 hG ⟨fun c => ?_, fun c => ?_⟩
  · rw [iz0 (by omega) (by omega)] at c
    have hD : vD n f w m ≠ 0 := fun z => c (b2.2.2.mp (b.2.2.1.mp z))
    have hB : vB n f w m ≠ 0 := fun z => hD (b.2.2.1.mpr z)
    rw [if_neg hD, if_neg hD]
    refine is_58 hG (by omega) (by omega) ?_
    rw [(vNB w m hB).2.1]
    refine C_devv hG hR hw h1 h2 (fun M1 hF1 hR1 => ?_)
    rw [if_neg hD]
    exact is_75 hG hR1 hw h1 h2 c hD (fun M' hF => hQ M' (hF1.tr hF))
  · have c := (iz0 (by omega) (by omega)).mp (Classical.not_not.mp c)
    have hD : vD n f w m = 0 := b.2.2.1.mpr (b2.2.2.mpr c)
    rw [if_pos hD, if_pos hD, show (-1000000001 : Int64) = lI (-1000000001) by decide]
    refine ⟨fun z => absurd ((lgE hN hN).1.mpr rfl) z, fun _ => ⟨fun z => absurd ((lgE hN hN).1.mpr rfl) z, fun _ => ?_⟩⟩
    refine C_devv hG hR hw h1 h2 (fun M1 hF1 hR1 => ?_)
    rw [if_pos hD]
    refine v_lw_isVariance_40 hG ?_
    rw [show (-1000000001 : Int64) = lI (-1000000001) by decide]
    refine ⟨fun z => absurd ((lgE hN hN).1.mpr rfl) z, fun _ => ?_⟩
    refine C_cmpv hG hR1 hw h1 h2 h1 h2 (fun M2 hF2 hR2 => ?_)
    rw [if_pos (Or.inl hD)]
    exact v_lw_isVariance_48 hG ⟨fun z => absurd iLn1000000001.symm z, fun _ => ⟨by decide, hQ M2 (hF1.tr hF2)⟩⟩
theorem L_isVariance (hG : qGood Ls xs P) (hR : cRd M 1 n f) (hw : wOK w) (h1 : 1 ≤ m) (h2 : m ≤ 31) (hQ : ∀ M', qFm [34, 35] M M' → Q (some (.int (1 : Int32))) M') : P 77 0 [(0, .ref 0), (1, .int (iI w)), (2, .int (iI m))] [] M Q := by
  obtain ⟨ha, hb⟩ := id hw
  refine v_lw_isVariance_0 hG ?_
  refine C_var0 hG hR hw h1 h2 rfl rfl (fun M1 hF1 hR1 => ?_)
  refine v_lw_isVariance_5 hG ?_
  refine C_var1 hG hR1 hw h1 h2 rfl rfl (fun M2 hF2 hR2 => ?_)
  have g := is_27 hG hR2 hw h1 h2 (fun M' hF => hQ M' ((hF1.tr hF2).tr hF))
  refine v_lw_isVariance_11 hG ?_
  rw [iL0, iL1, iI_eq (by omega) (by omega) (by omega) (by omega), iI_eq (by omega) (by omega) (by omega) (by omega)]
  rcases od_c hw with e | e | e | e <;> rw [e.2] at g
  · exact ⟨fun c => absurd e.1 c, fun _ => C_cnt hG hR2 h1 h2 iL2 (by omega) g⟩
  · exact ⟨fun _ => ⟨fun c => absurd e.1 c, fun _ => C_cnt hG hR2 h1 h2 iL3 (by omega) g⟩, fun c => absurd (show ¬ w = 0 by omega) c⟩
  · exact ⟨fun _ => ⟨fun _ => C_cnt hG hR2 h1 h2 iL4 (by omega) g, fun c => absurd (show ¬ w = 1 by omega) c⟩, fun c => absurd (show ¬ w = 0 by omega) c⟩
  · exact ⟨fun _ => ⟨fun _ => C_cnt hG hR2 h1 h2 iL4 (by omega) g, fun c => absurd (show ¬ w = 1 by omega) c⟩, fun c => absurd (show ¬ w = 0 by omega) c⟩
end ISV
end
section
/-! areCompared: the best is no greater than any, and the first of its value -/
section CMP
variable {Ls : Nat} {xs : Nat → Int32} {P : qSem} {M : qMem} {Q : qPost} {n : Nat} {f : Nat → Int} {w : Int}
theorem aCmp2_le (a b : Nat) : aCmp2 n f w a b ≤ 0 ↔ vN n f w a * vD n f w b ≤ vN n f w b * vD n f w a := by
  unfold aCmp2
  rw [cmpZ_le]
  omega
theorem aCmp2_0 (a b : Nat) : aCmp2 n f w a b = 0 ↔ vN n f w a * vD n f w b = vN n f w b * vD n f w a := by
  unfold aCmp2
  rw [cmpZ_0]
  omega
theorem aCmp2_n (a b : Nat) : aCmp2 n f w a b = - aCmp2 n f w b a := by
  have h1 := aCmp2_le (n := n) (f := f) (w := w) a b
  have h2 := aCmp2_le (n := n) (f := f) (w := w) b a
  have h3 := aCmp2_0 (n := n) (f := f) (w := w) a b
  have h4 := aCmp2_0 (n := n) (f := f) (w := w) b a
  have h5 : -1 ≤ aCmp2 n f w a b ∧ aCmp2 n f w a b ≤ 1 := cmpZ_in _ _
  have h6 : -1 ≤ aCmp2 n f w b a ∧ aCmp2 n f w b a ≤ 1 := cmpZ_in _ _
  generalize vN n f w a * vD n f w b = x at *
  generalize vN n f w b * vD n f w a = y at *
  omega
theorem bsz_min (n : Nat) (f : Nat → Int) (w : Int) : ∀ k, (bsz n f w k = 0 → ∀ j, 1 ≤ j → j ≤ k → vD n f w j = 0) ∧ (bsz n f w k ≠ 0 → ∀ j, 1 ≤ j → j ≤ k → vD n f w j ≠ 0 → aCmp2 n f w (bsz n f w k) j ≤ 0 ∧ (aCmp2 n f w (bsz n f w k) j = 0 → bsz n f w k ≤ j)) := by
  intro k
  induction k with
  | zero => exact ⟨fun _ j h1 h2 => by omega, fun h => absurd rfl h⟩
  | succ k ih =>
    have hb := bsz_in n f w k
    by_cases c : vD n f w (k + 1) ≠ 0 ∧ (bsz n f w k = 0 ∨ aCmp2 n f w (k + 1) (bsz n f w k) < 0)
    · have e : bsz n f w (k + 1) = k + 1 := by rw [bsz_s, if_pos c]
      rw [e]
      refine ⟨fun h => by omega, fun _ j h1 h2 hj => ?_⟩
      rcases Nat.lt_or_ge k j with q | q
      · have e2 : j = k + 1 := by omega
        subst e2
        exact ⟨by rw [aCmp2_r]; exact Int.le_refl _, fun _ => Nat.le_refl _⟩
      · have hlt : aCmp2 n f w (k + 1) j < 0 := by
          rcases c.2 with z | z
          · exact absurd (ih.1 z j h1 q) hj
          · by_cases z0 : bsz n f w k = 0
            · exact absurd (ih.1 z0 j h1 q) hj
            · have g1 := (ih.2 z0 j h1 q hj).1
              rw [aCmp2_le] at g1
              have g2 : ¬ aCmp2 n f w (bsz n f w k) (k + 1) ≤ 0 := by
                rw [aCmp2_n]
                omega
              rw [aCmp2_le] at g2
              have g3 : ¬ aCmp2 n f w j (k + 1) ≤ 0 := by
                rw [aCmp2_le]
                intro g4
                apply g2
                have hpos : 0 < vD n f w j := by omega
                refine Nat.le_of_mul_le_mul_left ?_ hpos
                generalize vN n f w (bsz n f w k) = bN at *
                generalize vD n f w (bsz n f w k) = bD at *
                generalize vN n f w (k + 1) = kN at *
                generalize vD n f w (k + 1) = kD at *
                generalize vN n f w j = jN at *
                generalize vD n f w j = jD at *
                have s1 : bN * jD * kD ≤ jN * bD * kD := Nat.mul_le_mul_right kD g1
                have s2 : jN * kD * bD ≤ kN * jD * bD := Nat.mul_le_mul_right bD g4
                have s3 : jD * (bN * kD) = bN * jD * kD := by ac_rfl
                have s4 : jD * (kN * bD) = kN * jD * bD := by ac_rfl
                have s5 : jN * bD * kD = jN * kD * bD := by ac_rfl
                omega
              rw [aCmp2_n]
              omega
        exact ⟨by omega, fun z => by omega⟩
    · have e : bsz n f w (k + 1) = bsz n f w k := by rw [bsz_s, if_neg c]
      rw [e]
      refine ⟨fun h j h1 h2 => ?_, fun h j h1 h2 hj => ?_⟩
      · rcases Nat.lt_or_ge k j with q | q
        · have e2 : j = k + 1 := by omega
          subst e2
          by_cases z : vD n f w (k + 1) = 0
          · exact z
          · exact absurd ⟨z, Or.inl h⟩ c
        · exact ih.1 h j h1 q
      · rcases Nat.lt_or_ge k j with q | q
        · have e2 : j = k + 1 := by omega
          subst e2
          have g : ¬ aCmp2 n f w (k + 1) (bsz n f w k) < 0 := fun z => c ⟨hj, Or.inr z⟩
          rw [aCmp2_n] at g
          exact ⟨by omega, fun _ => by omega⟩
        · exact ih.2 h j h1 q hj
theorem L_areCompared (hG : qGood Ls xs P) (hR : cRd M 1 n f) (hw : wOK w) (hQ : ∀ M', qFm [34, 35] M M' → Q (some (.int (1 : Int32))) M') : P 78 0 [(0, .ref 0), (1, .int (iI w))] [] M Q := by
  obtain ⟨ha, hb⟩ := id hw
  have hbi := bsz_in n f w 31
  have hmin := bsz_min n f w 31
  refine v_lw_areCompared_0 hG ?_
  refine C_best hG hR ⟨by omega, by omega⟩ (fun M1 hF1 => ?_)
  have eb : aBest n f w = if bsz n f w 31 = 0 then (-1000000001) else (bsz n f w 31 : Int) := by
    unfold aBest
    rw [if_pos ⟨ha, hb⟩]
  rw [eb]
  refine v_lw_areCompared_3 hG ?_
  have key : ∀ (d j : Nat) (M1 : qMem), j + d = 32 → 1 ≤ j → qFm [34, 35] M M1 → P 78 6 [(0, .ref 0), (1, .int (iI w)), (2, .int (iI (if bsz n f w 31 = 0 then (-1000000001) else (bsz n f w 31 : Int)))), (3, .int (iI j))] [] M1 Q := by
    intro d
    induction d with
    | zero =>
      intro j M1 hj h1 hF
      have e : j = 32 := by omega
      subst e
      refine v_lw_areCompared_6 hG ⟨fun _ => ⟨by decide, hQ M1 hF⟩, fun c => absurd (by decide) c⟩
    | succ d ih =>
      intro j M1 hj h1 hF
      have hR1 : cRd M1 1 n f := hR.fm hF (by decide) (by decide)
      have bj := vND hR.ok hR.2.1 (m := j) h1 (by omega) hw
      have h0 : r64 0 := ⟨by decide, by decide⟩
      have next : ∀ M2 : qMem, qFm [34, 35] M M2 → P 78 70 [(0, .ref 0), (1, .int (iI w)), (2, .int (iI (if bsz n f w 31 = 0 then (-1000000001) else (bsz n f w 31 : Int)))), (3, .int (iI j))] [] M2 Q := by
        intro M2 hF2
        refine v_lw_areCompared_70 hG ?_
        have hI := ih (j + 1) M2 (by omega) (by omega) hF2
        rw [show iI j + (1 : Int32) = iI (j + 1 : Nat) by rw [iL1, iI_add]; rfl]
        exact hI
      refine v_lw_areCompared_6 hG ⟨fun c => ?_, fun _ => ?_⟩
      · rw [show (32 : Int32) = iI 32 by decide, iI_le (by omega) (by omega) (by omega) (by omega)] at c
        omega
      refine C_var1 hG hR1 hw h1 (by omega) rfl rfl (fun M2 hF2 hR2 => ?_)
      have hF2 := hF.tr hF2
      by_cases hD : vD n f w j = 0
      · rw [if_pos hD]
        have g21 : P 78 21 [(0, .ref 0), (1, .int (iI w)), (2, .int (iI (if bsz n f w 31 = 0 then (-1000000001) else (bsz n f w 31 : Int)))), (3, .int (iI j)), (4, .int (0 : Int32))] [] M2 Q := by
          have g49 : P 78 49 [(0, .ref 0), (1, .int (iI w)), (2, .int (iI (if bsz n f w 31 = 0 then (-1000000001) else (bsz n f w 31 : Int)))), (3, .int (iI j)), (4, .int (0 : Int32))] [] M2 Q :=
            v_lw_areCompared_49 hG ⟨fun _ => next M2 hF2, fun _ => ⟨fun _ => next M2 hF2, fun c => absurd rfl c⟩⟩
          have g26 : P 78 26 [(0, .ref 0), (1, .int (iI w)), (2, .int (iI (if bsz n f w 31 = 0 then (-1000000001) else (bsz n f w 31 : Int)))), (3, .int (iI j)), (4, .int (0 : Int32))] [] M2 Q :=
            v_lw_areCompared_26 hG ⟨fun _ => g49, fun _ => ⟨fun _ => g49, fun c => absurd rfl c⟩⟩
          exact v_lw_areCompared_21 hG ⟨fun _ => g26, fun _ => ⟨fun c => absurd rfl c, fun _ => g26⟩⟩
        refine v_lw_areCompared_14 hG ⟨fun _ => g21, fun c => absurd ?_ c⟩
        rw [lL0]
        exact (lgE ⟨by decide, by decide⟩ h0).2.2.1.mpr (by decide)
      · rw [if_neg hD]
        have hB : bsz n f w 31 ≠ 0 := fun z => hD (hmin.1 z j h1 (by omega))
        have hBD := bsz_D n f w 31 hB
        obtain ⟨m1, m2⟩ := hmin.2 hB j h1 (by omega) hD
        have hn2 := aCmp2_n (n := n) (f := f) (w := w) j (bsz n f w 31)
        have h5 : -1 ≤ aCmp2 n f w (bsz n f w 31) j ∧ aCmp2 n f w (bsz n f w 31) j ≤ 1 := cmpZ_in _ _
        rw [if_neg hB] at next ⊢
        refine v_lw_areCompared_14 hG ⟨fun c => ?_, fun _ => ?_⟩
        · rw [lL0, (lgE ⟨by omega, by omega⟩ h0).2.2.1] at c
          omega
        have nN : ¬ iI ((bsz n f w 31 : Nat) : Int) = (-1000000001 : Int32) := by
          rw [iLn1000000001, iI_eq (by omega) (by omega) (by omega) (by omega)]
          omega
        have g49 : ∀ M3 : qMem, qFm [34, 35] M M3 → P 78 49 [(0, .ref 0), (1, .int (iI w)), (2, .int (iI (bsz n f w 31 : Nat))), (3, .int (iI j)), (4, .int (1 : Int32))] [] M3 Q := by
          intro M3 hF3
          refine v_lw_areCompared_49 hG ⟨fun c => absurd c nN, fun _ => ⟨fun c => absurd c (by decide), fun _ => ?_⟩⟩
          refine C_cmpv hG (hR.fm hF3 (by decide) (by decide)) hw (by omega) (by omega) h1 (by omega) (fun M4 hF4 hR4 => ?_)
          refine v_lw_areCompared_59 hG ?_
          refine C_cmpv hG hR4 hw h1 (by omega) (by omega) (by omega) (fun M5 hF5 hR5 => ?_)
          rw [if_neg (show ¬ (vD n f w (bsz n f w 31) = 0 ∨ vD n f w j = 0) by omega), if_neg (show ¬ (vD n f w j = 0 ∨ vD n f w (bsz n f w 31) = 0) by omega)]
          have hF5 := (hF3.tr hF4).tr hF5
          refine v_lw_areCompared_64 hG ⟨by decide, ?_⟩
          by_cases z : aCmp2 n f w (bsz n f w 31) j = 0
          · rw [if_pos z, if_pos (show aCmp2 n f w j (bsz n f w 31) = 0 by omega)]
            exact ⟨fun _ => next M5 hF5, fun c => absurd (by decide) c⟩
          · rw [if_neg z, if_pos (show aCmp2 n f w (bsz n f w 31) j < 0 by omega), if_neg (show ¬ aCmp2 n f w j (bsz n f w 31) = 0 by omega), if_neg (show ¬ aCmp2 n f w j (bsz n f w 31) < 0 by omega)]
            exact ⟨fun _ => next M5 hF5, fun c => absurd (by decide) c⟩
        refine v_lw_areCompared_21 hG ⟨fun _ => ?_, fun c => absurd nN c⟩
        refine v_lw_areCompared_26 hG ⟨fun c => absurd c nN, fun _ => ⟨fun c => absurd c (by decide), fun _ => ?_⟩⟩
        refine C_cmpv hG hR2 hw (by omega) (by omega) h1 (by omega) (fun M3 hF3 hR3 => ?_)
        have hF3 := hF2.tr hF3
        rw [if_neg (by omega)]
        have hv : (if aCmp2 n f w (bsz n f w 31) j = 0 then (0 : Int) else if aCmp2 n f w (bsz n f w 31) j < 0 then 1 else 2) = 0 ∧ aCmp2 n f w (bsz n f w 31) j = 0 ∨ (if aCmp2 n f w (bsz n f w 31) j = 0 then (0 : Int) else if aCmp2 n f w (bsz n f w 31) j < 0 then 1 else 2) = 1 := by
          by_cases z : aCmp2 n f w (bsz n f w 31) j = 0
          · exact Or.inl ⟨if_pos z, z⟩
          · refine Or.inr ?_
            rw [if_neg z, if_pos (by omega)]
        rcases hv with ⟨hv, z⟩ | hv
        · rw [hv]
          refine v_lw_areCompared_36 hG ⟨fun c => absurd c (by decide), fun _ => ?_⟩
          refine C_cmpv hG hR3 hw (by omega) (by omega) h1 (by omega) (fun M4 hF4 hR4 => ?_)
          rw [if_neg (by omega), hv]
          refine v_lw_areCompared_43 hG ⟨fun c => absurd (by decide) c, fun _ => ⟨fun _ => g49 M4 (hF3.tr hF4), fun c => absurd ?_ c⟩⟩
          rw [iI_le (by omega) (by omega) (by omega) (by omega)]
          have := m2 z
          omega
        · rw [hv]
          refine v_lw_areCompared_36 hG ⟨fun c => absurd c (by decide), fun _ => ?_⟩
          refine C_cmpv hG hR3 hw (by omega) (by omega) h1 (by omega) (fun M4 hF4 hR4 => ?_)
          rw [if_neg (by omega), hv]
          exact v_lw_areCompared_43 hG ⟨fun _ => g49 M4 (hF3.tr hF4), fun c => absurd (by decide) c⟩
  exact key 31 1 M1 (by omega) (by omega) hF1
end CMP
end
section
/-! isLine: a line changes no difference; what is undone is as it was -/
theorem CS.q {s : zSt} {M M' : qMem} (h : CS s M) (hF : qFm [34, 35] M M') : CS s M' := h.nx hF (by decide)
section LIN
variable {Ls : Nat} {xs : Nat → Int32} {P : qSem} {M : qMem} {Q : qPost} {n : Nat} {f : Nat → Int} {s : zSt}
theorem cz_mono {p q : Nat → Bool} : ∀ {k : Nat}, (∀ j, j < k → p j = true → q j = true) → cz p k ≤ cz q k := by
  intro k
  induction k with
  | zero => intro _; exact Int.le_refl _
  | succ k ih =>
    intro h
    have h1 := ih (fun j hj => h j (by omega))
    rw [czs, czs]
    by_cases c : p k = true
    · rw [if_pos c, if_pos (h k (by omega) c)]
      omega
    · rw [if_neg c]
      split <;> omega
theorem vl_sb {a b : Int} (h : sbO f (fun t => -(a * t + b)) n = true) (x : Int) : (vl n f x = (-1000000001) ∧ vl n (sbR f (fun t => -(a * t + b))) x = (-1000000001)) ∨ (vl n f x ≠ (-1000000001) ∧ vl n (sbR f (fun t => -(a * t + b))) x ≠ (-1000000001) ∧ vl n (sbR f (fun t => -(a * t + b))) x = vl n f x + (a * x + b)) := by
  unfold vl
  by_cases c : 0 ≤ x ∧ x < n
  · rw [if_pos c, if_pos c]
    have hm := sbO_m n (show x.toNat < n by omega) h
    have hx : ((x.toNat : Nat) : Int) = x := by omega
    rw [hx] at hm
    have er : sbR f (fun t => -(a * t + b)) x.toNat = if f x.toNat = (-1000000001) then (-1000000001) else f x.toNat - -(a * ((x.toNat : Nat) : Int) + b) := rfl
    rw [hx] at er
    rw [er]
    by_cases e : f x.toNat = (-1000000001)
    · rw [if_pos e]
      exact Or.inl ⟨e, rfl⟩
    · rw [if_neg e]
      rcases hm with q | q
      · exact absurd q e
      · exact Or.inr ⟨e, by omega, by omega⟩
  · rw [if_neg c, if_neg c]
    exact Or.inl ⟨rfl, rfl⟩
theorem sec_sb {a b : Int} (h : sbO f (fun t => -(a * t + b)) n = true) (m i : Int) : sec n (sbR f (fun t => -(a * t + b))) m i = sec n f m i := by
  have h0 := vl_sb h i
  have h1 := vl_sb h (i + m)
  have h2 := vl_sb h (i + 2 * m)
  have e1 : a * (i + m) = a * i + a * m := Int.mul_add _ _ _
  have e2 : a * (i + 2 * m) = a * i + 2 * (a * m) := by rw [Int.mul_add, Int.mul_left_comm]
  rw [e1] at h1
  rw [e2] at h2
  unfold sec
  generalize vl n (sbR f (fun t => -(a * t + b))) i = p0 at *
  generalize vl n (sbR f (fun t => -(a * t + b))) (i + m) = p1 at *
  generalize vl n (sbR f (fun t => -(a * t + b))) (i + 2 * m) = p2 at *
  generalize vl n f i = q0 at *
  generalize vl n f (i + m) = q1 at *
  generalize vl n f (i + 2 * m) = q2 at *
  by_cases c : q0 = (-1000000001) ∨ q1 = (-1000000001) ∨ q2 = (-1000000001)
  · rw [if_pos c, if_pos (by omega)]
  · rw [if_neg c, if_neg (by omega)]
    omega
theorem sbN_le {g : Nat → Int} (h : sbO f g n = true) : sbN f g n ≤ cz (fun j => decide (sbR f g j ≠ (-1000000001))) n := by
  refine cz_mono (fun j hj hp => ?_)
  have hp := of_decide_eq_true hp
  have hm := sbO_m n hj h
  refine decide_eq_true ?_
  unfold sbR
  rw [if_neg hp.1]
  rcases hm with q | q
  · exact absurd q hp.1
  · omega
theorem C_told1 (hG : qGood Ls xs P) (hS : CS s M) (hQ : Q (some (.int (iI (cz (fun j => decide (s.1.2 j ≠ (-1000000001))) s.1.1)))) M) : P 45 0 [(0, .ref 0), (1, .int (1 : Int32))] [] M Q := by
  rw [iL1]
  exact C_told hG hS.1 hS.2.2.2.1.1 hS.dep ⟨by decide, by decide⟩ hQ
theorem undo_chg (s : zSt) (r : zRow) : (tUndo (zChg s r)).1 = (hpD s.2.1.1 : Int) - 1 ∧ (tUndo (zChg s r)).2.1 = s.1 := by
  have h0 : (zChg s r).2.1.1 = hpD s.2.1.1 := rfl
  have h1 : (zChg s r).2.1.2 = hpH s.2.1.1 s.2.1.2 s.1 := rfl
  have hp : hpD s.2.1.1 ≠ 0 := by
    unfold hpD
    split <;> omega
  unfold tUndo
  rw [h0, h1, if_neg hp]
  refine ⟨rfl, ?_⟩
  show hpH s.2.1.1 s.2.1.2 s.1 (hpD s.2.1.1 - 1) = s.1
  unfold hpH hpD
  by_cases c : s.2.1.1 = 8
  · rw [if_pos c, if_pos c, if_pos rfl]
  · rw [if_neg c, if_neg c, if_pos (by omega)]
theorem hpD_in (hS : CS s M) : 1 ≤ hpD s.2.1.1 ∧ hpD s.2.1.1 ≤ 9 := by
  obtain ⟨o, h1, h2, h3, h4, h5⟩ := hS.2.1
  unfold hpD
  split <;> omega
theorem li_33 (hG : qGood Ls xs P) (hS : CS s M) {a b : Int} (ha : -20 ≤ a ∧ a ≤ 20) (hb : -100 ≤ b ∧ b ≤ 100) {m : Nat} (h1 : 1 ≤ m) (h2 : m ≤ 4) {l9 : Int32} (h9 : 0 < s.1.1 → l9 = iI (vl s.1.1 s.1.2 0)) (hQ : ∀ M', Q (some (.int (1 : Int32))) M') :
    P 39 0 [(0, .ref 0), (1, .int (iI a)), (2, .int (iI b))] [] M (fun v M' => P 79 33 [(0, .ref 0), (3, .int (iI m)), (4, .int (iI (sec s.1.1 s.1.2 m 0))), (5, .int (iI (cnd s.1.1 s.1.2 2 m))), (6, .long (lI (if vD s.1.1 s.1.2 0 m = 0 then (-1000000001) else (vN s.1.1 s.1.2 0 m : Int)))), (8, .int (iI s.1.1)), (9, .int l9)] (v.toList ++ []) M' Q) := by
  have hn := hS.1.2.1
  refine C_addLine hG hS ⟨by omega, by omega⟩ ⟨by omega, by omega⟩ (fun M1 hF1 hS1 => ?_)
  have et : tALine s a b = tSub s (fun t => -(a * t + b)) := if_pos ⟨by omega, by omega⟩
  rw [et] at hS1 ⊢
  by_cases c : sbO s.1.2 (fun t => -(a * t + b)) s.1.1 = true
  · have e2 : tSub s (fun t => -(a * t + b)) = (sbN s.1.2 (fun t => -(a * t + b)) s.1.1, zChg s (s.1.1, sbR s.1.2 (fun t => -(a * t + b)))) := if_pos c
    rw [e2] at hS1 ⊢
    have hle := sbN_le c
    have hN : 0 ≤ sbN s.1.2 (fun t => -(a * t + b)) s.1.1 ∧ sbN s.1.2 (fun t => -(a * t + b)) s.1.1 ≤ s.1.1 := cz_in _ _
    have hN2 := cz_in (fun j => decide (sbR s.1.2 (fun t => -(a * t + b)) j ≠ (-1000000001))) s.1.1
    have hu := undo_chg s (s.1.1, sbR s.1.2 (fun t => -(a * t + b)))
    have hd := hpD_in hS
    have hs1 : ∀ i : Int, sec s.1.1 (sbR s.1.2 (fun t => -(a * t + b))) m i = sec s.1.1 s.1.2 m i := sec_sb c m
    have hdf : ∀ i : Nat, dif s.1.1 (sbR s.1.2 (fun t => -(a * t + b))) 2 m i = dif s.1.1 s.1.2 2 m i := fun i => by
      rw [dif2 (by omega), dif2 (by omega), hs1]
    have hv := vND_c (n := s.1.1) (f := sbR s.1.2 (fun t => -(a * t + b))) (f' := s.1.2) (w := 0) (w' := 0) (m := m) (m' := m) hdf rfl
    have hcn : cnd s.1.1 (sbR s.1.2 (fun t => -(a * t + b))) 2 m = cnd s.1.1 s.1.2 2 m := cz_c (fun i => by rw [hdf i]) _
    have hR1 : cRd M1 1 s.1.1 (sbR s.1.2 (fun t => -(a * t + b))) := hS1.1
    have bv := vND hS.1.ok hn (m := m) h1 (by omega) (w := 0) ⟨by decide, by decide⟩
    have rV : r64 (if vD s.1.1 s.1.2 0 m = 0 then (-1000000001) else (vN s.1.1 s.1.2 0 m : Int)) := by
      split
      · exact ⟨by decide, by decide⟩
      · exact ⟨by omega, by omega⟩
    generalize sbR s.1.2 (fun t => -(a * t + b)) = f1 at *
    generalize sbN s.1.2 (fun t => -(a * t + b)) s.1.1 = r at *
    have hS1 : CS (zChg s (s.1.1, f1)) M1 := hS1
    refine v_lw_isLine_33 hG ⟨fun _ => ?_, fun z => absurd ?_ z⟩
    · refine C_dif2 hG hR1 h1 (by omega) iL0 (by omega) (by omega) ?_
      rw [hs1]
      refine v_lw_isLine_48 hG ⟨fun z => absurd rfl z, fun _ => ?_⟩
      refine C_cnt hG hR1 h1 (by omega) iL2 (by omega) ?_
      rw [hcn]
      refine v_lw_isLine_54 hG ⟨fun z => absurd rfl z, fun _ => ?_⟩
      refine C_var0 hG hR1 (w := 0) ⟨by decide, by decide⟩ h1 (by omega) iL0 rfl (fun M2 hF2 hR2 => ?_)
      rw [hv.1, hv.2]
      have hS2 := hS1.q hF2
      refine v_lw_isLine_61 hG ⟨fun z => absurd ((lgE rV rV).1.mpr rfl) z, fun _ => ?_⟩
      refine C_told1 hG (s := zChg s (s.1.1, f1)) hS2 ?_
      show P 79 68 [(0, .ref 0), (8, .int (iI s.1.1)), (9, .int l9)] [.int (iI (cz (fun j => decide (f1 j ≠ (-1000000001))) s.1.1)), .int (iI r)] M2 Q
      refine v_lw_isLine_68 hG ⟨fun z => absurd z ?_, fun _ => ⟨fun z => absurd z (by decide), fun _ => ?_⟩⟩
      · rw [iI_lt (by omega) (by omega) (by omega) (by omega)]
        exact Int.not_lt.mpr hle
      refine C_undo hG hS2 (fun M3 hF3 hS3 => ?_)
      rw [hu.1]
      have hR3 := hS3.1
      rw [hu.2] at hR3
      refine v_lw_isLine_77 hG ⟨fun z => absurd z ?_, fun _ => ⟨fun _ => ⟨by decide, hQ M3⟩, fun z => ?_⟩⟩
      · rw [iL0, iI_lt (by omega) (by omega) (by omega) (by omega)]
        omega
      · rw [iz0 (by omega) (by omega)] at z
        refine C_rdg hG hR3 iL0 (by omega) ?_
        rw [h9 (by omega)]
        exact v_lw_isLine_83 hG ⟨fun z => absurd rfl z, fun _ => ⟨by decide, hQ M3⟩⟩
    · rw [iL0, iI_le (by omega) (by omega) (by omega) (by omega)]
      exact hN.1
  · have e2 : tSub s (fun t => -(a * t + b)) = (-1000000005, s) := if_neg c
    rw [e2]
    exact v_lw_isLine_33 hG ⟨fun z => absurd (show (0 : Int32) ≤ iI (-1000000005) from z) (by decide), fun _ => ⟨fun z => absurd iLn1000000005.symm z, fun _ => ⟨by decide, hQ M1⟩⟩⟩
theorem L_isLine (hG : qGood Ls xs P) (hS : CS s M) {a b : Int} (ha : -20 ≤ a ∧ a ≤ 20) (hb : -100 ≤ b ∧ b ≤ 100) {m : Nat} (h1 : 1 ≤ m) (h2 : m ≤ 4) (hQ : ∀ M', Q (some (.int (1 : Int32))) M') : P 79 0 [(0, .ref 0), (1, .int (iI a)), (2, .int (iI b)), (3, .int (iI m))] [] M Q := by
  have hn := hS.1.2.1
  refine v_lw_isLine_0 hG ?_
  refine C_dif2 hG hS.1 h1 (by omega) iL0 (by omega) (by omega) ?_
  refine v_lw_isLine_5 hG ?_
  refine C_cnt hG hS.1 h1 (by omega) iL2 (by omega) ?_
  refine v_lw_isLine_10 hG ?_
  refine C_var0 hG hS.1 (w := 0) ⟨by decide, by decide⟩ h1 (by omega) iL0 rfl (fun M1 hF1 hR1 => ?_)
  have hS1 := hS.q hF1
  refine v_lw_isLine_16 hG ?_
  refine C_told0 hG hS1 ?_
  refine v_lw_isLine_20 hG ⟨fun z => ?_, fun z => ?_⟩
  · rw [iL0, iI_le (by omega) (by omega) (by omega) (by omega)] at z
    exact li_33 hG hS1 ha hb h1 h2 (fun q => by omega) hQ
  · rw [iL0, iI_le (by omega) (by omega) (by omega) (by omega)] at z
    refine C_rdg hG hS1.1 iL0 (by omega) ?_
    refine v_lw_isLine_26 hG ?_
    exact li_33 hG hS1 ha hb h1 h2 (fun _ => rfl) hQ
end LIN
end
section
/-! areAlike, and the law's loop -/
section LAW
variable {Ls : Nat} {xs : Nat → Int32} {P P2 : qSem} {M : qMem} {Q : qPost} {s : zSt}
theorem CC.q {M' : qMem} (h : CC s M) (hF : qFm [34, 35] M M') : CC s M' := ⟨h.1.q hF, h.2.fr (mFrm_sw (cFrm.of hF (by decide)))⟩
theorem C_toldw (hG : qGood Ls xs P) (hS : CS s M) {w : Int} (hw : r32 w) (hQ : Q (some (.int (iI (aTold s.1.1 s.1.2 s.2.2.2.1.1 s.2.1.1 w)))) M) : P 45 0 [(0, .ref 0), (1, .int (iI w))] [] M Q := C_told hG hS.1 hS.2.2.2.1.1 hS.dep hw hQ
theorem L_areAlike (hG : qGood Ls xs P) (hG2 : qGood Ls xs P2) (hT : qTw P P2) (hS : CC s M) (hQ : Q (some (.int (1 : Int32))) M) : P 80 0 [(0, .ref 0), (1, .ref 36)] [] M Q := by
  have hn := hS.1.1.2.1
  refine v_lw_areAlike_0 hG ?_
  have key2 : ∀ (d i : Nat), i + d = s.1.1 → P 80 27 [(0, .ref 0), (1, .ref 36), (2, .int (1 : Int32)), (3, .int (iI i))] [] M Q := by
    intro d
    induction d with
    | zero =>
      intro i hi
      refine v_lw_areAlike_27 hG ?_
      refine C_told0 hG hS.1 ?_
      refine v_lw_areAlike_31 hG ⟨fun _ => ⟨by decide, hQ⟩, fun c => absurd ?_ c⟩
      rw [iI_le (by omega) (by omega) (by omega) (by omega)]
      omega
    | succ d ih =>
      intro i hi
      refine v_lw_areAlike_27 hG ?_
      refine C_told0 hG hS.1 ?_
      refine v_lw_areAlike_31 hG ⟨fun c => ?_, fun _ => ⟨fun c => absurd c (by decide), fun _ => ?_⟩⟩
      · rw [iI_le (by omega) (by omega) (by omega) (by omega)] at c
        omega
      refine C_rdg hG hS.1.1 rfl (by omega) ?_
      refine v_lw_areAlike_37 hG ?_
      refine hT 46 [(1, iI i)] M _ ?_
      refine C_rdg hG2 hS.2.1 rfl (by omega) ?_
      refine ⟨⟨_, rfl⟩, ?_⟩
      rw [swM_swM]
      refine v_lw_areAlike_40 hG ⟨fun c => absurd rfl c, fun _ => ?_⟩
      rw [show iI i + (1 : Int32) = iI (i + 1 : Nat) by rw [iL1, iI_add]; rfl]
      exact ih (i + 1) (by omega)
  have key1 : ∀ (d j : Nat), j + d = 9 → P 80 4 [(0, .ref 0), (1, .ref 36), (2, .int (1 : Int32)), (3, .int (iI j))] [] M Q := by
    intro d
    induction d with
    | zero =>
      intro j hj
      have e : j = 9 := by omega
      subst e
      exact v_lw_areAlike_4 hG ⟨fun _ => key2 s.1.1 0 (by omega), fun c => absurd (by decide) c⟩
    | succ d ih =>
      intro j hj
      have hI := ih (j + 1) (by omega)
      rw [show iI (j + 1 : Nat) = iI j + (1 : Int32) by rw [iL1, iI_add]; rfl] at hI
      refine v_lw_areAlike_4 hG ⟨fun c => ?_, fun _ => ⟨fun c => absurd c (by decide), fun _ => ⟨fun _ => hI, fun _ => ?_⟩⟩⟩
      · rw [show (9 : Int32) = iI 9 by decide, iI_le (by omega) (by omega) (by omega) (by omega)] at c
        omega
      refine C_toldw hG hS.1 ⟨by omega, by omega⟩ ?_
      refine v_lw_areAlike_15 hG ?_
      refine hT 45 [(1, iI j)] M _ ?_
      refine C_toldw hG2 hS.2 ⟨by omega, by omega⟩ ?_
      refine ⟨⟨_, rfl⟩, ?_⟩
      rw [swM_swM]
      exact v_lw_areAlike_18 hG ⟨fun c => absurd rfl c, fun _ => hI⟩
  exact key1 9 0 (by omega)
theorem s_cellL (hG : qGood Ls xs P) (hL : Ls ≤ 260) {x : Int32} (k : Nat) (e : x = iI k) (hk : k < 1000) (hQ : Q (some (.int (cellz Ls xs k))) M) : P 73 0 [(0, .ref 1000), (1, .int x)] [] M Q := by
  subst e
  exact s_cell hG hL hk hQ
theorem law_end (hG : qGood Ls xs P) (hG2 : qGood Ls xs P2) (hT : qTw P P2) (hL : Ls ≤ 260) (hS : CC s M) (hQ : ∀ M', Q (some (.int (1 : Int32))) M') : P 73 0 [(0, .ref 1000), (1, .int (80 : Int32))] [] M (fun v M' => P 81 85 [(0, .ref 1000), (1, .ref 0), (2, .ref 36)] (v.toList ++ [.ref 0]) M' Q) := by
  refine s_cellL hG hL 80 (by decide) (by omega) ?_
  have hw := lwz_in (cellz Ls xs 80) (n := 4) (by omega)
  have h1 := lwz_in (cellz Ls xs 81) (n := 41) (by omega)
  have h2 := lwz_in (cellz Ls xs 82) (n := 201) (by omega)
  have h3 := lwz_in (cellz Ls xs 83) (n := 4) (by omega)
  refine v_lw_law_85 hG ?_
  refine s_lowL hG 4 (by decide) (by omega) (by omega) ?_
  refine v_lw_law_87 hG ?_
  refine L_areCompared hG hS.1.1 ⟨hw.1, by omega⟩ (fun M1 hF1 => ?_)
  have hS1 := hS.q hF1
  refine v_lw_law_88 hG ⟨fun c => absurd c (by decide), fun _ => ?_⟩
  refine L_areAlike hG hG2 hT hS1 ?_
  refine v_lw_law_92 hG ⟨fun c => absurd c (by decide), fun _ => ?_⟩
  refine s_cellL hG hL 81 (by decide) (by omega) ?_
  refine v_lw_law_97 hG ?_
  refine s_lowL hG 41 (by decide) (by omega) (by omega) ?_
  refine v_lw_law_99 hG ?_
  refine s_cellL hG hL 82 (by decide) (by omega) ?_
  refine v_lw_law_104 hG ?_
  refine s_lowL hG 201 (by decide) (by omega) (by omega) ?_
  refine v_lw_law_106 hG ?_
  refine s_cellL hG hL 83 (by decide) (by omega) ?_
  refine v_lw_law_112 hG ?_
  refine s_lowL hG 4 (by decide) (by omega) (by omega) ?_
  refine v_lw_law_114 hG ?_
  have e3 : (1 : Int32) + iI (lwz (cellz Ls xs 83) 4) = iI (((lwz (cellz Ls xs 83) 4).toNat + 1 : Nat) : Int) := by
    rw [iL1, iI_add]
    congr 1
    omega
  rw [e3, show (20 : Int32) = iI 20 by decide, show (100 : Int32) = iI 100 by decide, iI_sub, iI_sub]
  refine L_isLine hG hS1.1 (by omega) (by omega) (by omega) (by omega) (fun M2 => ?_)
  exact v_lw_law_116 hG ⟨fun c => absurd c (by decide), fun _ => ⟨by decide, hQ M2⟩⟩
theorem law_52 (hG : qGood Ls xs P) (hS : CC s M) {t : Nat} (ht : t < 40) {v : Int32} {z : Int} (hz : 0 ≤ z ∧ z < 31)
    (hN : ∀ M', CC s M' → P 81 10 [(0, .ref 1000), (1, .ref 0), (2, .ref 36), (3, .int (iI (t + 1 : Nat)))] [] M' Q) :
    P 81 52 [(0, .ref 1000), (1, .ref 0), (2, .ref 36), (3, .int (iI t)), (4, .int v)] [.int (iI z), .int (1 : Int32)] M Q := by
  have e1 : iI t + (1 : Int32) = iI (t + 1 : Nat) := by
    rw [iL1, iI_add]
    rfl
  have e3 : (1 : Int32) + iI z = iI ((z.toNat + 1 : Nat) : Int) := by
    rw [iL1, iI_add]
    congr 1
    omega
  have hw := lwz_in (v >>> ((7 : Int32) &&& 31)) (n := 4) (by omega)
  refine v_lw_law_52 hG ⟨by decide, ⟨fun _ => ?_, fun _ => ?_⟩⟩
  · rw [e1]
    exact hN M hS
  rw [e3]
  refine L_areDifferences hG hS.1 (by omega) (by omega) ?_
  refine v_lw_law_62 hG ⟨fun c => absurd c (by decide), fun _ => ?_⟩
  refine s_lowL hG 4 (by decide) (by omega) (by omega) ?_
  refine v_lw_law_69 hG ?_
  refine L_isVariance hG hS.1.1 ⟨hw.1, by omega⟩ (by omega) (by omega) (fun M1 hF1 => ?_)
  have hS1 := hS.q hF1
  refine v_lw_law_71 hG ⟨fun c => absurd c (by decide), fun _ => ?_⟩
  rw [show (2 : Int32) = iI 2 by decide, show P 77 0 [(0, .ref 0), (1, .int (iI 2)), (2, .int (1 : Int32))] = P 77 0 [(0, .ref 0), (1, .int (iI 2)), (2, .int (iI ((1 : Nat) : Int)))] by rw [iL1]; rfl]
  refine L_isVariance hG hS1.1.1 (w := 2) (m := 1) ⟨by decide, by decide⟩ (by omega) (by omega) (fun M2 hF2 => ?_)
  refine v_lw_law_76 hG ⟨fun _ => ?_, fun c => absurd (by decide) c⟩
  rw [e1]
  exact hN M2 (hS1.q hF2)
theorem law_loop (hG : qGood Ls xs P) (hG2 : qGood Ls xs P2) (hT : qTw P P2) (hL : Ls ≤ 260) (hQ : ∀ M', Q (some (.int (1 : Int32))) M') : ∀ (d t : Nat) (M : qMem) (s : zSt), t + d = 40 → CC s M → P 81 10 [(0, .ref 1000), (1, .ref 0), (2, .ref 36), (3, .int (iI t))] [] M Q := by
  intro d
  induction d with
  | zero =>
    intro t M s ht hS
    have e : t = 40 := by omega
    subst e
    exact v_lw_law_10 hG ⟨fun _ => law_end hG hG2 hT hL hS hQ, fun c => absurd (by decide) c⟩
  | succ d ih =>
    intro t M s ht hS
    refine v_lw_law_10 hG ⟨fun c => ?_, fun _ => ?_⟩
    · rw [show (40 : Int32) = iI 40 by decide, iI_le (by omega) (by omega) (by omega) (by omega)] at c
      omega
    refine s_cellL hG hL (2 * t) (by rw [iL2, iI_mul, Int.natCast_mul]; rfl) (by omega) ?_
    refine v_lw_law_18 hG ?_
    refine s_cellL hG hL (2 * t + 1) (by rw [iL2, iL1, iI_mul, iI_add, Int.natCast_add, Int.natCast_mul]; rfl) (by omega) ?_
    refine v_lw_law_26 hG ?_
    generalize cellz Ls xs (2 * t) = v
    generalize cellz Ls xs (2 * t + 1) = more
    obtain ⟨r, s', hc⟩ := s_change v more s hS.1.1.2.1
    refine hc Ls xs P M _ hG hS.1 (fun M1 hF1 hS1 => ?_)
    have hq1 := hS.2.fr (mFrm_sw hF1)
    refine v_lw_law_31 hG ?_
    refine hT 75 [(1, v), (2, more)] M1 _ ?_
    refine hc Ls xs P2 (swM M1) _ hG2 hq1 (fun M2 hF2 hS2 => ?_)
    have hS3 : CC s' (swM M2) := ⟨hS1.fr (mFrm_ws hF2), by rw [swM_swM]; exact hS2⟩
    refine ⟨⟨_, rfl⟩, ?_⟩
    have h5 := lwz_in (more >>> ((4 : Int32) &&& 31)) (n := 5) (by omega)
    have h31 := lwz_in (more >>> ((4 : Int32) &&& 31)) (n := 31) (by omega)
    refine v_lw_law_35 hG ⟨fun _ => ?_, fun c => absurd rfl c⟩
    refine s_lowL hG 3 (by decide) (by omega) (by omega) ?_
    refine v_lw_law_47 hG ⟨fun _ => ?_, fun _ => ?_⟩
    · refine s_lowL hG 5 (by decide) (by omega) (by omega) ?_
      exact law_52 hG hS3 (by omega) ⟨h5.1, by omega⟩ (fun M' hS' => ih (t + 1) M' s' (by omega) hS')
    · refine s_lowL hG 31 (by decide) (by omega) (by omega) ?_
      exact law_52 hG hS3 (by omega) ⟨h31.1, by omega⟩ (fun M' hS' => ih (t + 1) M' s' (by omega) hS')
end LAW
end
