-- ===== PART A: goes FIRST, ahead of the names: the tables' words, and 'selects' of the private methods out of them =====
/-- a private method of a class that the tables say can be made, by its rows of tables_1 -/
def lw_okq (q : MethodName × Nat) : Prop := (q.1.cls ≠ "java/lang/invoke/MethodHandle" ∧ q.1.cls ≠ "java/lang/invoke/VarHandle") ∧ Cond.instantiable q.1.cls q.2 ∈ tables_1 ∧ Cond.privateMethod q.1 ∈ tables_1 ∧ Cond.instanceMethod q.1 ∈ tables_1
theorem lw_p0 : lw_okq (⟨"StabilityAnalyzer$Readings", "startsGap", "(I)Z"⟩, 2) := ⟨⟨by decide +kernel, by decide +kernel⟩, List.mem_of_getElem? (i := 19) (by decide +kernel), List.mem_of_getElem? (i := 197) (by decide +kernel), List.mem_of_getElem? (i := 198) (by decide +kernel)⟩
theorem lw_p1 : lw_okq (⟨"StabilityAnalyzer", "greatestM", "()I"⟩, 9) := ⟨⟨by decide +kernel, by decide +kernel⟩, List.mem_of_getElem? (i := 11) (by decide +kernel), List.mem_of_getElem? (i := 209) (by decide +kernel), List.mem_of_getElem? (i := 210) (by decide +kernel)⟩
theorem lw_p2 : lw_okq (⟨"StabilityAnalyzer$Readings", "secondAt", "(II)I"⟩, 2) := ⟨⟨by decide +kernel, by decide +kernel⟩, List.mem_of_getElem? (i := 19) (by decide +kernel), List.mem_of_getElem? (i := 225) (by decide +kernel), List.mem_of_getElem? (i := 226) (by decide +kernel)⟩
theorem lw_p3 : lw_okq (⟨"StabilityAnalyzer$Readings", "thirdAt", "(II)I"⟩, 2) := ⟨⟨by decide +kernel, by decide +kernel⟩, List.mem_of_getElem? (i := 19) (by decide +kernel), List.mem_of_getElem? (i := 229) (by decide +kernel), List.mem_of_getElem? (i := 230) (by decide +kernel)⟩
theorem lw_p4 : lw_okq (⟨"StabilityAnalyzer$Readings", "meanAt", "(II)I"⟩, 2) := ⟨⟨by decide +kernel, by decide +kernel⟩, List.mem_of_getElem? (i := 19) (by decide +kernel), List.mem_of_getElem? (i := 233) (by decide +kernel), List.mem_of_getElem? (i := 234) (by decide +kernel)⟩
theorem lw_p5 : lw_okq (⟨"StabilityAnalyzer$History", "stateAt", "(I)LStabilityAnalyzer$Readings;"⟩, 3) := ⟨⟨by decide +kernel, by decide +kernel⟩, List.mem_of_getElem? (i := 33) (by decide +kernel), List.mem_of_getElem? (i := 262) (by decide +kernel), List.mem_of_getElem? (i := 263) (by decide +kernel)⟩
theorem lw_p6 : lw_okq (⟨"StabilityAnalyzer", "subtractAmounts", "()I"⟩, 9) := ⟨⟨by decide +kernel, by decide +kernel⟩, List.mem_of_getElem? (i := 11) (by decide +kernel), List.mem_of_getElem? (i := 326) (by decide +kernel), List.mem_of_getElem? (i := 327) (by decide +kernel)⟩
theorem lw_p7 : lw_okq (⟨"StabilityAnalyzer", "allStayPhases", "()Z"⟩, 9) := ⟨⟨by decide +kernel, by decide +kernel⟩, List.mem_of_getElem? (i := 11) (by decide +kernel), List.mem_of_getElem? (i := 330) (by decide +kernel), List.mem_of_getElem? (i := 331) (by decide +kernel)⟩
theorem lw_p8 : lw_okq (⟨"StabilityAnalyzer", "sumOfSecondDifferences", "()J"⟩, 9) := ⟨⟨by decide +kernel, by decide +kernel⟩, List.mem_of_getElem? (i := 11) (by decide +kernel), List.mem_of_getElem? (i := 343) (by decide +kernel), List.mem_of_getElem? (i := 344) (by decide +kernel)⟩
theorem lw_p9 : lw_okq (⟨"StabilityAnalyzer", "fillGap", "(II)V"⟩, 9) := ⟨⟨by decide +kernel, by decide +kernel⟩, List.mem_of_getElem? (i := 11) (by decide +kernel), List.mem_of_getElem? (i := 369) (by decide +kernel), List.mem_of_getElem? (i := 370) (by decide +kernel)⟩
theorem lw_p10 : lw_okq (⟨"StabilityAnalyzer", "imageAt", "(I)LStabilityAnalyzer$Image;"⟩, 9) := ⟨⟨by decide +kernel, by decide +kernel⟩, List.mem_of_getElem? (i := 11) (by decide +kernel), List.mem_of_getElem? (i := 381) (by decide +kernel), List.mem_of_getElem? (i := 382) (by decide +kernel)⟩
theorem lw_p11 : lw_okq (⟨"StabilityAnalyzer", "measure", "(IILStabilityAnalyzer$Fraction;)V"⟩, 9) := ⟨⟨by decide +kernel, by decide +kernel⟩, List.mem_of_getElem? (i := 11) (by decide +kernel), List.mem_of_getElem? (i := 421) (by decide +kernel), List.mem_of_getElem? (i := 422) (by decide +kernel)⟩
def lw_privs_1 : List (MethodName × Nat) := [(⟨"StabilityAnalyzer$Readings", "startsGap", "(I)Z"⟩, 2), (⟨"StabilityAnalyzer", "greatestM", "()I"⟩, 9), (⟨"StabilityAnalyzer$Readings", "secondAt", "(II)I"⟩, 2), (⟨"StabilityAnalyzer$Readings", "thirdAt", "(II)I"⟩, 2), (⟨"StabilityAnalyzer$Readings", "meanAt", "(II)I"⟩, 2), (⟨"StabilityAnalyzer$History", "stateAt", "(I)LStabilityAnalyzer$Readings;"⟩, 3), (⟨"StabilityAnalyzer", "subtractAmounts", "()I"⟩, 9), (⟨"StabilityAnalyzer", "allStayPhases", "()Z"⟩, 9), (⟨"StabilityAnalyzer", "sumOfSecondDifferences", "()J"⟩, 9), (⟨"StabilityAnalyzer", "fillGap", "(II)V"⟩, 9), (⟨"StabilityAnalyzer", "imageAt", "(I)LStabilityAnalyzer$Image;"⟩, 9), (⟨"StabilityAnalyzer", "measure", "(IILStabilityAnalyzer$Fraction;)V"⟩, 9)]
theorem lw_r1 : ∀ q ∈ lw_privs_1, lw_okq q := List.forall_mem_cons.mpr ⟨lw_p0, List.forall_mem_cons.mpr ⟨lw_p1, List.forall_mem_cons.mpr ⟨lw_p2, List.forall_mem_cons.mpr ⟨lw_p3, List.forall_mem_cons.mpr ⟨lw_p4, List.forall_mem_cons.mpr ⟨lw_p5, List.forall_mem_cons.mpr ⟨lw_p6, List.forall_mem_cons.mpr ⟨lw_p7, List.forall_mem_cons.mpr ⟨lw_p8, List.forall_mem_cons.mpr ⟨lw_p9, List.forall_mem_cons.mpr ⟨lw_p10, List.forall_mem_cons.mpr ⟨lw_p11, fun _ h => absurd h List.not_mem_nil⟩⟩⟩⟩⟩⟩⟩⟩⟩⟩⟩⟩
def lw_privs : List (MethodName × Nat) := lw_privs_1
def lw_tbl : List Cond := k2_sels lw_privs ++ tables_1
theorem lw_privs_ok : ∀ q ∈ lw_privs, lw_okq q := lw_r1

/-! names and fields, out of the printed names -/
def RX0 : String := "StabilityAnalyzer$Fraction"
def TX0 : u_T := fun k => match k with
  | 0 => ("StabilityAnalyzer$Fraction", "numerator", "J", false)
  | _ => ("StabilityAnalyzer$Fraction", "denominator", "J", false)
def tyX0 : Nat → FieldType := fun k => match k with
  | 0 => .long
  | _ => .long
abbrev wsX00 : List Cond := u_ws RX0 TX0 2
theorem nmX0 : ∀ a, a < 2 → ∀ b, b < 2 → a ≠ b → (TX0 a).2.1 ≠ (TX0 b).2.1 := by decide +kernel
theorem tyX0_ok : ∀ k, k < 2 → parseFieldDescriptor (TX0 k).2.2.1 = some (tyX0 k) := by decide +kernel
abbrev cX0_init : ByteArray := prog_2_method_1_code
def yX0_init : MethodName := ⟨RX0, "<init>", "()V"⟩
abbrev cX0_exists : ByteArray := prog_2_method_2_code
def yX0_exists : MethodName := ⟨RX0, "exists", "()Z"⟩
abbrev cX0_become : ByteArray := prog_2_method_3_code
def yX0_become : MethodName := ⟨RX0, "become", "(JJ)V"⟩
abbrev cX0_copyFrom : ByteArray := prog_2_method_4_code
def yX0_copyFrom : MethodName := ⟨RX0, "copyFrom", "(LStabilityAnalyzer$Fraction;)V"⟩
abbrev cX0_orderOfMultiples : ByteArray := prog_2_method_5_code
def yX0_orderOfMultiples : MethodName := ⟨RX0, "orderOfMultiples", "(JLStabilityAnalyzer$Fraction;J)I"⟩
abbrev cX0_timesRoundedDown : ByteArray := prog_2_method_6_code
def yX0_timesRoundedDown : MethodName := ⟨RX0, "timesRoundedDown", "(J)J"⟩
abbrev cX0_greatestDivisor : ByteArray := prog_2_method_7_code
def yX0_greatestDivisor : MethodName := ⟨RX0, "greatestDivisor", "(JJ)J"⟩
def RX1 : String := "StabilityAnalyzer$History"
def TX1 : u_T := fun k => match k with
  | 0 => ("StabilityAnalyzer$History", "states", "[LStabilityAnalyzer$Readings;", true)
  | 1 => ("StabilityAnalyzer$History", "oldest", "I", false)
  | _ => ("StabilityAnalyzer$History", "depth", "I", false)
def tyX1 : Nat → FieldType := fun k => match k with
  | 0 => .array (.object "StabilityAnalyzer$Readings")
  | 1 => .int
  | _ => .int
abbrev wsX10 : List Cond := u_ws RX1 TX1 3
theorem nmX1 : ∀ a, a < 3 → ∀ b, b < 3 → a ≠ b → (TX1 a).2.1 ≠ (TX1 b).2.1 := by decide +kernel
theorem tyX1_ok : ∀ k, k < 3 → parseFieldDescriptor (TX1 k).2.2.1 = some (tyX1 k) := by decide +kernel
abbrev cX1_init : ByteArray := prog_3_method_1_code
def yX1_init : MethodName := ⟨RX1, "<init>", "()V"⟩
abbrev cX1_depth : ByteArray := prog_3_method_2_code
def yX1_depth : MethodName := ⟨RX1, "depth", "()I"⟩
abbrev cX1_record : ByteArray := prog_3_method_3_code
def yX1_record : MethodName := ⟨RX1, "record", "(LStabilityAnalyzer$Readings;)V"⟩
abbrev cX1_restore : ByteArray := prog_3_method_4_code
def yX1_restore : MethodName := ⟨RX1, "restore", "(LStabilityAnalyzer$Readings;)V"⟩
abbrev cX1_stateAt : ByteArray := prog_3_method_5_code
def yX1_stateAt : MethodName := ⟨RX1, "stateAt", "(I)LStabilityAnalyzer$Readings;"⟩
def RX2 : String := "StabilityAnalyzer$Image"
def TX2 : u_T := fun k => match k with
  | 0 => ("StabilityAnalyzer$Image", "readings", "LStabilityAnalyzer$Readings;", true)
  | _ => ("StabilityAnalyzer$Image", "used", "Z", false)
def tyX2 : Nat → FieldType := fun k => match k with
  | 0 => .object "StabilityAnalyzer$Readings"
  | _ => .boolean
abbrev wsX20 : List Cond := u_ws RX2 TX2 2
theorem nmX2 : ∀ a, a < 2 → ∀ b, b < 2 → a ≠ b → (TX2 a).2.1 ≠ (TX2 b).2.1 := by decide +kernel
theorem tyX2_ok : ∀ k, k < 2 → parseFieldDescriptor (TX2 k).2.2.1 = some (tyX2 k) := by decide +kernel
abbrev cX2_init : ByteArray := prog_4_method_1_code
def yX2_init : MethodName := ⟨RX2, "<init>", "()V"⟩
def RX3 : String := "StabilityAnalyzer$Loader"
def TX3 : u_T := fun k => match k with
  | 0 => ("StabilityAnalyzer$Loader", "faultKind", "I", false)
  | 1 => ("StabilityAnalyzer$Loader", "faultPlace", "I", false)
  | 2 => ("StabilityAnalyzer$Loader", "place", "I", false)
  | 3 => ("StabilityAnalyzer$Loader", "phase", "I", false)
  | _ => ("StabilityAnalyzer$Loader", "times", "I", false)
def tyX3 : Nat → FieldType := fun k => match k with
  | 0 => .int
  | 1 => .int
  | 2 => .int
  | 3 => .int
  | _ => .int
abbrev wsX30 : List Cond := u_ws RX3 TX3 5
theorem nmX3 : ∀ a, a < 5 → ∀ b, b < 5 → a ≠ b → (TX3 a).2.1 ≠ (TX3 b).2.1 := by decide +kernel
theorem tyX3_ok : ∀ k, k < 5 → parseFieldDescriptor (TX3 k).2.2.1 = some (tyX3 k) := by decide +kernel
abbrev cX3_init : ByteArray := prog_5_method_1_code
def yX3_init : MethodName := ⟨RX3, "<init>", "()V"⟩
def RX4 : String := "StabilityAnalyzer$Readings"
def TX4 : u_T := fun k => match k with
  | 0 => ("StabilityAnalyzer$Readings", "phases", "[I", true)
  | _ => ("StabilityAnalyzer$Readings", "size", "I", false)
def tyX4 : Nat → FieldType := fun k => match k with
  | 0 => .array .int
  | _ => .int
abbrev wsX40 : List Cond := u_ws RX4 TX4 2
theorem nmX4 : ∀ a, a < 2 → ∀ b, b < 2 → a ≠ b → (TX4 a).2.1 ≠ (TX4 b).2.1 := by decide +kernel
theorem tyX4_ok : ∀ k, k < 2 → parseFieldDescriptor (TX4 k).2.2.1 = some (tyX4 k) := by decide +kernel
abbrev cX4_init : ByteArray := prog_6_method_1_code
def yX4_init : MethodName := ⟨RX4, "<init>", "()V"⟩
abbrev cX4_size : ByteArray := prog_6_method_2_code
def yX4_size : MethodName := ⟨RX4, "size", "()I"⟩
abbrev cX4_reaches : ByteArray := prog_6_method_3_code
def yX4_reaches : MethodName := ⟨RX4, "reaches", "(I)Z"⟩
abbrev cX4_has : ByteArray := prog_6_method_4_code
def yX4_has : MethodName := ⟨RX4, "has", "(I)Z"⟩
abbrev cX4_at : ByteArray := prog_6_method_5_code
def yX4_at : MethodName := ⟨RX4, "at", "(I)I"⟩
abbrev cX4_put : ByteArray := prog_6_method_6_code
def yX4_put : MethodName := ⟨RX4, "put", "(II)V"⟩
abbrev cX4_append : ByteArray := prog_6_method_7_code
def yX4_append : MethodName := ⟨RX4, "append", "(I)V"⟩
abbrev cX4_appendTimes : ByteArray := prog_6_method_8_code
def yX4_appendTimes : MethodName := ⟨RX4, "appendTimes", "(II)V"⟩
abbrev cX4_empty : ByteArray := prog_6_method_9_code
def yX4_empty : MethodName := ⟨RX4, "empty", "()V"⟩
abbrev cX4_copyFrom : ByteArray := prog_6_method_10_code
def yX4_copyFrom : MethodName := ⟨RX4, "copyFrom", "(LStabilityAnalyzer$Readings;)V"⟩
abbrev cX4_present : ByteArray := prog_6_method_11_code
def yX4_present : MethodName := ⟨RX4, "present", "()I"⟩
abbrev cX4_least : ByteArray := prog_6_method_12_code
def yX4_least : MethodName := ⟨RX4, "least", "()I"⟩
abbrev cX4_greatest : ByteArray := prog_6_method_13_code
def yX4_greatest : MethodName := ⟨RX4, "greatest", "()I"⟩
abbrev cX4_gaps : ByteArray := prog_6_method_14_code
def yX4_gaps : MethodName := ⟨RX4, "gaps", "()I"⟩
abbrev cX4_longestGap : ByteArray := prog_6_method_15_code
def yX4_longestGap : MethodName := ⟨RX4, "longestGap", "()I"⟩
abbrev cX4_startsGap : ByteArray := prog_6_method_16_code
def yX4_startsGap : MethodName := ⟨RX4, "startsGap", "(I)Z"⟩
abbrev cX4_gapEnd : ByteArray := prog_6_method_17_code
def yX4_gapEnd : MethodName := ⟨RX4, "gapEnd", "(I)I"⟩
abbrev cX4_lineAt : ByteArray := prog_6_method_18_code
def yX4_lineAt : MethodName := ⟨RX4, "lineAt", "(III)J"⟩
abbrev cX4_isOutlier : ByteArray := prog_6_method_19_code
def yX4_isOutlier : MethodName := ⟨RX4, "isOutlier", "(II)Z"⟩
abbrev cX4_countOf : ByteArray := prog_6_method_20_code
def yX4_countOf : MethodName := ⟨RX4, "countOf", "(II)I"⟩
abbrev cX4_differenceAt : ByteArray := prog_6_method_21_code
def yX4_differenceAt : MethodName := ⟨RX4, "differenceAt", "(III)I"⟩
abbrev cX4_secondAt : ByteArray := prog_6_method_22_code
def yX4_secondAt : MethodName := ⟨RX4, "secondAt", "(II)I"⟩
abbrev cX4_thirdAt : ByteArray := prog_6_method_23_code
def yX4_thirdAt : MethodName := ⟨RX4, "thirdAt", "(II)I"⟩
abbrev cX4_meanAt : ByteArray := prog_6_method_24_code
def yX4_meanAt : MethodName := ⟨RX4, "meanAt", "(II)I"⟩
def RX5 : String := "StabilityAnalyzer$Text"
def TX5 : u_T := fun k => match k with
  | 0 => ("StabilityAnalyzer$Text", "bytes", "[I", true)
  | _ => ("StabilityAnalyzer$Text", "size", "I", false)
def tyX5 : Nat → FieldType := fun k => match k with
  | 0 => .array .int
  | _ => .int
abbrev wsX50 : List Cond := u_ws RX5 TX5 2
theorem nmX5 : ∀ a, a < 2 → ∀ b, b < 2 → a ≠ b → (TX5 a).2.1 ≠ (TX5 b).2.1 := by decide +kernel
theorem tyX5_ok : ∀ k, k < 2 → parseFieldDescriptor (TX5 k).2.2.1 = some (tyX5 k) := by decide +kernel
abbrev cX5_init : ByteArray := prog_7_method_1_code
def yX5_init : MethodName := ⟨RX5, "<init>", "()V"⟩
abbrev cX5_size : ByteArray := prog_7_method_2_code
def yX5_size : MethodName := ⟨RX5, "size", "()I"⟩
def RX6 : String := "StabilityAnalyzer"
def TX6 : u_T := fun k => match k with
  | 0 => ("StabilityAnalyzer", "now", "LStabilityAnalyzer$Readings;", true)
  | 1 => ("StabilityAnalyzer", "next", "LStabilityAnalyzer$Readings;", true)
  | 2 => ("StabilityAnalyzer", "amounts", "[J", true)
  | 3 => ("StabilityAnalyzer", "history", "LStabilityAnalyzer$History;", true)
  | 4 => ("StabilityAnalyzer", "images", "[LStabilityAnalyzer$Image;", true)
  | 5 => ("StabilityAnalyzer", "text", "LStabilityAnalyzer$Text;", true)
  | 6 => ("StabilityAnalyzer", "loader", "LStabilityAnalyzer$Loader;", true)
  | 7 => ("StabilityAnalyzer", "one", "LStabilityAnalyzer$Fraction;", true)
  | _ => ("StabilityAnalyzer", "two", "LStabilityAnalyzer$Fraction;", true)
def tyX6 : Nat → FieldType := fun k => match k with
  | 0 => .object "StabilityAnalyzer$Readings"
  | 1 => .object "StabilityAnalyzer$Readings"
  | 2 => .array .long
  | 3 => .object "StabilityAnalyzer$History"
  | 4 => .array (.object "StabilityAnalyzer$Image")
  | 5 => .object "StabilityAnalyzer$Text"
  | 6 => .object "StabilityAnalyzer$Loader"
  | 7 => .object "StabilityAnalyzer$Fraction"
  | _ => .object "StabilityAnalyzer$Fraction"
abbrev wsX60 : List Cond := u_ws RX6 TX6 9
theorem nmX6 : ∀ a, a < 9 → ∀ b, b < 9 → a ≠ b → (TX6 a).2.1 ≠ (TX6 b).2.1 := by decide +kernel
theorem tyX6_ok : ∀ k, k < 9 → parseFieldDescriptor (TX6 k).2.2.1 = some (tyX6 k) := by decide +kernel
abbrev cX6_init : ByteArray := prog_1_method_1_code
def yX6_init : MethodName := ⟨RX6, "<init>", "()V"⟩
abbrev cX6_add : ByteArray := prog_1_method_2_code
def yX6_add : MethodName := ⟨RX6, "add", "(I)I"⟩
abbrev cX6_skip : ByteArray := prog_1_method_3_code
def yX6_skip : MethodName := ⟨RX6, "skip", "(I)I"⟩
abbrev cX6_set : ByteArray := prog_1_method_4_code
def yX6_set : MethodName := ⟨RX6, "set", "(II)I"⟩
abbrev cX6_clear : ByteArray := prog_1_method_5_code
def yX6_clear : MethodName := ⟨RX6, "clear", "()I"⟩
abbrev cX6_removeLine : ByteArray := prog_1_method_6_code
def yX6_removeLine : MethodName := ⟨RX6, "removeLine", "(II)I"⟩
abbrev cX6_addLine : ByteArray := prog_1_method_7_code
def yX6_addLine : MethodName := ⟨RX6, "addLine", "(II)I"⟩
abbrev cX6_removeDrift : ByteArray := prog_1_method_8_code
def yX6_removeDrift : MethodName := ⟨RX6, "removeDrift", "()I"⟩
abbrev cX6_removeOutliers : ByteArray := prog_1_method_9_code
def yX6_removeOutliers : MethodName := ⟨RX6, "removeOutliers", "(I)I"⟩
abbrev cX6_fill : ByteArray := prog_1_method_10_code
def yX6_fill : MethodName := ⟨RX6, "fill", "(I)I"⟩
abbrev cX6_thin : ByteArray := prog_1_method_11_code
def yX6_thin : MethodName := ⟨RX6, "thin", "(II)I"⟩
abbrev cX6_undo : ByteArray := prog_1_method_12_code
def yX6_undo : MethodName := ⟨RX6, "undo", "()I"⟩
abbrev cX6_told : ByteArray := prog_1_method_13_code
def yX6_told : MethodName := ⟨RX6, "told", "(I)I"⟩
abbrev cX6_reading : ByteArray := prog_1_method_14_code
def yX6_reading : MethodName := ⟨RX6, "reading", "(I)I"⟩
abbrev cX6_difference : ByteArray := prog_1_method_15_code
def yX6_difference : MethodName := ⟨RX6, "difference", "(III)I"⟩
abbrev cX6_count : ByteArray := prog_1_method_16_code
def yX6_count : MethodName := ⟨RX6, "count", "(II)I"⟩
abbrev cX6_variance : ByteArray := prog_1_method_17_code
def yX6_variance : MethodName := ⟨RX6, "variance", "(III)J"⟩
abbrev cX6_deviation : ByteArray := prog_1_method_18_code
def yX6_deviation : MethodName := ⟨RX6, "deviation", "(II)J"⟩
abbrev cX6_compare : ByteArray := prog_1_method_19_code
def yX6_compare : MethodName := ⟨RX6, "compare", "(III)I"⟩
abbrev cX6_best : ByteArray := prog_1_method_20_code
def yX6_best : MethodName := ⟨RX6, "best", "(I)I"⟩
abbrev cX6_keep : ByteArray := prog_1_method_28_code
def yX6_keep : MethodName := ⟨RX6, "keep", "(I)I"⟩
abbrev cX6_back : ByteArray := prog_1_method_29_code
def yX6_back : MethodName := ⟨RX6, "back", "(I)I"⟩
abbrev cX6_isPhase : ByteArray := prog_1_method_30_code
def yX6_isPhase : MethodName := ⟨RX6, "isPhase", "(J)Z"⟩
abbrev cX6_isLimit : ByteArray := prog_1_method_31_code
def yX6_isLimit : MethodName := ⟨RX6, "isLimit", "(I)Z"⟩
abbrev cX6_isOrder : ByteArray := prog_1_method_32_code
def yX6_isOrder : MethodName := ⟨RX6, "isOrder", "(I)Z"⟩
abbrev cX6_isM : ByteArray := prog_1_method_33_code
def yX6_isM : MethodName := ⟨RX6, "isM", "(I)Z"⟩
abbrev cX6_isVariance : ByteArray := prog_1_method_34_code
def yX6_isVariance : MethodName := ⟨RX6, "isVariance", "(I)Z"⟩
abbrev cX6_imageAt : ByteArray := prog_1_method_35_code
def yX6_imageAt : MethodName := ⟨RX6, "imageAt", "(I)LStabilityAnalyzer$Image;"⟩
abbrev cX6_subtractAmounts : ByteArray := prog_1_method_36_code
def yX6_subtractAmounts : MethodName := ⟨RX6, "subtractAmounts", "()I"⟩
abbrev cX6_allStayPhases : ByteArray := prog_1_method_37_code
def yX6_allStayPhases : MethodName := ⟨RX6, "allStayPhases", "()Z"⟩
abbrev cX6_sumOfSecondDifferences : ByteArray := prog_1_method_38_code
def yX6_sumOfSecondDifferences : MethodName := ⟨RX6, "sumOfSecondDifferences", "()J"⟩
abbrev cX6_fillGap : ByteArray := prog_1_method_39_code
def yX6_fillGap : MethodName := ⟨RX6, "fillGap", "(II)V"⟩
abbrev cX6_greatestM : ByteArray := prog_1_method_40_code
def yX6_greatestM : MethodName := ⟨RX6, "greatestM", "()I"⟩
abbrev cX6_measure : ByteArray := prog_1_method_41_code
def yX6_measure : MethodName := ⟨RX6, "measure", "(IILStabilityAnalyzer$Fraction;)V"⟩
abbrev cX6_orderFor : ByteArray := prog_1_method_42_code
def yX6_orderFor : MethodName := ⟨RX6, "orderFor", "(I)I"⟩
abbrev cX6_divisorFor : ByteArray := prog_1_method_43_code
def yX6_divisorFor : MethodName := ⟨RX6, "divisorFor", "(IJ)J"⟩
abbrev cX6_squareRoot : ByteArray := prog_1_method_44_code
def yX6_squareRoot : MethodName := ⟨RX6, "squareRoot", "(J)J"⟩
def RX7 : String := "StabilityAnalyzerModel"
def TX7 : u_T := fun k => match k with
  | _ => ("", "", "", false)
def tyX7 : Nat → FieldType := fun k => match k with
  | _ => .int
abbrev wsX70 : List Cond := u_ws RX7 TX7 0
theorem nmX7 : ∀ a, a < 0 → ∀ b, b < 0 → a ≠ b → (TX7 a).2.1 ≠ (TX7 b).2.1 := by decide +kernel
theorem tyX7_ok : ∀ k, k < 0 → parseFieldDescriptor (TX7 k).2.2.1 = some (tyX7 k) := by decide +kernel
def RJ13 : String := "java/lang/Long"
def TJ13 : u_T := fun k => match k with
  | _ => ("", "", "", false)
def tyJ13 : Nat → FieldType := fun k => match k with
  | _ => .int
theorem nmJ13 : ∀ a, a < 0 → ∀ b, b < 0 → a ≠ b → (TJ13 a).2.1 ≠ (TJ13 b).2.1 := by decide +kernel
theorem tyJ13_ok : ∀ k, k < 0 → parseFieldDescriptor (TJ13 k).2.2.1 = some (tyJ13 k) := by decide +kernel
abbrev cJ13_compare_74951 : ByteArray := prog_10_method_42_code
def yJ13_compare_74951 : MethodName := ⟨RJ13, "compare", "(JJ)I"⟩
def RJ9 : String := "java/lang/Math"
def TJ9 : u_T := fun k => match k with
  | _ => ("", "", "", false)
def tyJ9 : Nat → FieldType := fun k => match k with
  | _ => .int
theorem nmJ9 : ∀ a, a < 0 → ∀ b, b < 0 → a ≠ b → (TJ9 a).2.1 ≠ (TJ9 b).2.1 := by decide +kernel
theorem tyJ9_ok : ∀ k, k < 0 → parseFieldDescriptor (TJ9 k).2.2.1 = some (tyJ9 k) := by decide +kernel
abbrev cJ9_floorDiv_f86c9 : ByteArray := prog_11_method_49_code
def yJ9_floorDiv_f86c9 : MethodName := ⟨RJ9, "floorDiv", "(JJ)J"⟩
abbrev cJ9_max_7cf53 : ByteArray := prog_11_method_65_code
def yJ9_max_7cf53 : MethodName := ⟨RJ9, "max", "(II)I"⟩
def RL : String := "StabilityAnalyzerLaw"
abbrev cL_cell : ByteArray := method_2_code
def yL_cell : MethodName := ⟨RL, "cell", "([II)I"⟩
abbrev cL_low : ByteArray := method_3_code
def yL_low : MethodName := ⟨RL, "low", "(II)I"⟩
abbrev cL_change : ByteArray := method_4_code
def yL_change : MethodName := ⟨RL, "change", "(LStabilityAnalyzer;II)I"⟩
abbrev cL_areDifferences : ByteArray := method_5_code
def yL_areDifferences : MethodName := ⟨RL, "areDifferences", "(LStabilityAnalyzer;I)Z"⟩
abbrev cL_isVariance : ByteArray := method_6_code
def yL_isVariance : MethodName := ⟨RL, "isVariance", "(LStabilityAnalyzer;II)Z"⟩
abbrev cL_areCompared : ByteArray := method_7_code
def yL_areCompared : MethodName := ⟨RL, "areCompared", "(LStabilityAnalyzer;I)Z"⟩
abbrev cL_isLine : ByteArray := method_8_code
def yL_isLine : MethodName := ⟨RL, "isLine", "(LStabilityAnalyzer;III)Z"⟩
abbrev cL_areAlike : ByteArray := method_9_code
def yL_areAlike : MethodName := ⟨RL, "areAlike", "(LStabilityAnalyzer;LStabilityAnalyzer;)Z"⟩
abbrev cL_law : ByteArray := code
def yL_law : MethodName := ⟨RL, "law", "([I)Z"⟩
abbrev vwCl : List vw_C := [(RX0, TX0, 2), (RX1, TX1, 3), (RX2, TX2, 2), (RX3, TX3, 5), (RX4, TX4, 2), (RX5, TX5, 2), (RX6, TX6, 9)]
