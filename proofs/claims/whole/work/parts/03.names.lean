def RX0 : String := "DigitDivider$Division"
def TX0 : u_T := fun k => match k with
  | 0 => ("DigitDivider$Division", "digits", "[I", true)
  | 1 => ("DigitDivider$Division", "estimates", "[I", true)
  | 2 => ("DigitDivider$Division", "sums", "[J", true)
  | 3 => ("DigitDivider$Division", "carries", "[J", true)
  | 4 => ("DigitDivider$Division", "qs", "[J", true)
  | 5 => ("DigitDivider$Division", "rs", "[J", true)
  | 6 => ("DigitDivider$Division", "row", "I", false)
  | 7 => ("DigitDivider$Division", "s", "I", false)
  | 8 => ("DigitDivider$Division", "t", "I", false)
  | 9 => ("DigitDivider$Division", "n", "I", false)
  | 10 => ("DigitDivider$Division", "digitsNotZero", "I", false)
  | 11 => ("DigitDivider$Division", "firstLeft", "I", false)
  | 12 => ("DigitDivider$Division", "quotient", "I", false)
  | _ => ("DigitDivider$Division", "rest", "I", false)
def tyX0 : Nat → FieldType := fun k => match k with
  | 0 => .array .int
  | 1 => .array .int
  | 2 => .array .long
  | 3 => .array .long
  | 4 => .array .long
  | 5 => .array .long
  | 6 => .int
  | 7 => .int
  | 8 => .int
  | 9 => .int
  | 10 => .int
  | 11 => .int
  | 12 => .int
  | _ => .int
abbrev wsX00 : List Cond := u_ws RX0 TX0 14
theorem nmX0 : ∀ a, a < 14 → ∀ b, b < 14 → a ≠ b → (TX0 a).2.1 ≠ (TX0 b).2.1 := by decide +kernel
theorem tyX0_ok : ∀ k, k < 14 → parseFieldDescriptor (TX0 k).2.2.1 = some (tyX0 k) := by decide +kernel
abbrev cX0_init : ByteArray := prog_2_method_1_code
def yX0_init : MethodName := ⟨RX0, "<init>", "()V"⟩
abbrev cX0_run : ByteArray := prog_2_method_2_code
def yX0_run : MethodName := ⟨RX0, "run", "(II[I)V"⟩
abbrev cX0_clear : ByteArray := prog_2_method_3_code
def yX0_clear : MethodName := ⟨RX0, "clear", "()V"⟩
abbrev cX0_begin : ByteArray := prog_2_method_4_code
def yX0_begin : MethodName := ⟨RX0, "begin", "(JJ)J"⟩
abbrev cX0_doublings : ByteArray := prog_2_method_5_code
def yX0_doublings : MethodName := ⟨RX0, "doublings", "(J)I"⟩
abbrev cX0_takeDigit : ByteArray := prog_2_method_6_code
def yX0_takeDigit : MethodName := ⟨RX0, "takeDigit", "(IJ[I)V"⟩
abbrev cX0_writeQuotient : ByteArray := prog_2_method_7_code
def yX0_writeQuotient : MethodName := ⟨RX0, "writeQuotient", "(II)V"⟩
abbrev cX0_finish : ByteArray := prog_2_method_8_code
def yX0_finish : MethodName := ⟨RX0, "finish", "(JZZ)V"⟩
def RX1 : String := "DigitDivider"
def TX1 : u_T := fun k => match k with
  | 0 => ("DigitDivider", "tables", "[[I", true)
  | 1 => ("DigitDivider", "goodDigits", "[I", true)
  | 2 => ("DigitDivider", "latest", "LDigitDivider$Division;", true)
  | 3 => ("DigitDivider", "swept", "LDigitDivider$Division;", true)
  | _ => ("DigitDivider", "inUse", "I", false)
def tyX1 : Nat → FieldType := fun k => match k with
  | 0 => .array (.array .int)
  | 1 => .array .int
  | 2 => .object "DigitDivider$Division"
  | 3 => .object "DigitDivider$Division"
  | _ => .int
abbrev wsX10 : List Cond := u_ws RX1 TX1 5
theorem nmX1 : ∀ a, a < 5 → ∀ b, b < 5 → a ≠ b → (TX1 a).2.1 ≠ (TX1 b).2.1 := by decide +kernel
theorem tyX1_ok : ∀ k, k < 5 → parseFieldDescriptor (TX1 k).2.2.1 = some (tyX1 k) := by decide +kernel
abbrev cX1_init : ByteArray := prog_1_method_1_code
def yX1_init : MethodName := ⟨RX1, "<init>", "()V"⟩
abbrev cX1_digit : ByteArray := prog_1_method_2_code
def yX1_digit : MethodName := ⟨RX1, "digit", "(III)I"⟩
abbrev cX1_set : ByteArray := prog_1_method_3_code
def yX1_set : MethodName := ⟨RX1, "set", "(IIII)I"⟩
abbrev cX1_make : ByteArray := prog_1_method_4_code
def yX1_make : MethodName := ⟨RX1, "make", "(I)I"⟩
abbrev cX1_copy : ByteArray := prog_1_method_5_code
def yX1_copy : MethodName := ⟨RX1, "copy", "(II)I"⟩
abbrev cX1_good : ByteArray := prog_1_method_6_code
def yX1_good : MethodName := ⟨RX1, "good", "(III)I"⟩
abbrev cX1_holds : ByteArray := prog_1_method_7_code
def yX1_holds : MethodName := ⟨RX1, "holds", "(II)I"⟩
abbrev cX1_check : ByteArray := prog_1_method_8_code
def yX1_check : MethodName := ⟨RX1, "check", "(I)I"⟩
abbrev cX1_wrong : ByteArray := prog_1_method_9_code
def yX1_wrong : MethodName := ⟨RX1, "wrong", "(II)I"⟩
abbrev cX1_use : ByteArray := prog_1_method_10_code
def yX1_use : MethodName := ⟨RX1, "use", "(I)I"⟩
abbrev cX1_divide : ByteArray := prog_1_method_11_code
def yX1_divide : MethodName := ⟨RX1, "divide", "(II)I"⟩
abbrev cX1_quotient : ByteArray := prog_1_method_12_code
def yX1_quotient : MethodName := ⟨RX1, "quotient", "()I"⟩
abbrev cX1_rest : ByteArray := prog_1_method_13_code
def yX1_rest : MethodName := ⟨RX1, "rest", "()I"⟩
abbrev cX1_left : ByteArray := prog_1_method_14_code
def yX1_left : MethodName := ⟨RX1, "left", "()I"⟩
abbrev cX1_step : ByteArray := prog_1_method_15_code
def yX1_step : MethodName := ⟨RX1, "step", "(II)I"⟩
abbrev cX1_state : ByteArray := prog_1_method_16_code
def yX1_state : MethodName := ⟨RX1, "state", "(II)J"⟩
abbrev cX1_told : ByteArray := prog_1_method_17_code
def yX1_told : MethodName := ⟨RX1, "told", "(I)I"⟩
abbrev cX1_sweep : ByteArray := prog_1_method_18_code
def yX1_sweep : MethodName := ⟨RX1, "sweep", "(III)I"⟩
abbrev cX1_isTable : ByteArray := prog_1_method_19_code
def yX1_isTable : MethodName := ⟨RX1, "isTable", "(I)Z"⟩
abbrev cX1_isCell : ByteArray := prog_1_method_20_code
def yX1_isCell : MethodName := ⟨RX1, "isCell", "(II)Z"⟩
abbrev cX1_isDigit : ByteArray := prog_1_method_21_code
def yX1_isDigit : MethodName := ⟨RX1, "isDigit", "(I)Z"⟩
abbrev cX1_cellAt : ByteArray := prog_1_method_22_code
def yX1_cellAt : MethodName := ⟨RX1, "cellAt", "(II)I"⟩
abbrev cX1_replace : ByteArray := prog_1_method_23_code
def yX1_replace : MethodName := ⟨RX1, "replace", "(III)I"⟩
abbrev cX1_isGood : ByteArray := prog_1_method_24_code
def yX1_isGood : MethodName := ⟨RX1, "isGood", "(II)Z"⟩
abbrev cX1_madeDigit : ByteArray := prog_1_method_25_code
def yX1_madeDigit : MethodName := ⟨RX1, "madeDigit", "(I)I"⟩
abbrev cX1_findGoodDigits : ByteArray := prog_1_method_26_code
def yX1_findGoodDigits : MethodName := ⟨RX1, "findGoodDigits", "(II)I"⟩
abbrev cX1_leastDivisor : ByteArray := prog_1_method_27_code
def yX1_leastDivisor : MethodName := ⟨RX1, "leastDivisor", "(II)I"⟩
abbrev cX1_endOfDivisors : ByteArray := prog_1_method_28_code
def yX1_endOfDivisors : MethodName := ⟨RX1, "endOfDivisors", "(I)I"⟩
abbrev cX1_holdsAny : ByteArray := prog_1_method_29_code
def yX1_holdsAny : MethodName := ⟨RX1, "holdsAny", "(II)Z"⟩
abbrev cX1_staysWithin : ByteArray := prog_1_method_30_code
def yX1_staysWithin : MethodName := ⟨RX1, "staysWithin", "(III)Z"⟩
def RX2 : String := "DigitDividerModel"
def TX2 : u_T := fun k => match k with
  | 0 => ("DigitDividerModel", "tables", "[I", true)
  | 1 => ("DigitDividerModel", "used", "I", false)
  | 2 => ("DigitDividerModel", "n", "I", false)
  | 3 => ("DigitDividerModel", "row", "I", false)
  | 4 => ("DigitDividerModel", "ups", "I", false)
  | 5 => ("DigitDividerModel", "upt", "I", false)
  | 6 => ("DigitDividerModel", "left", "I", false)
  | 7 => ("DigitDividerModel", "quotient", "I", false)
  | 8 => ("DigitDividerModel", "rest", "I", false)
  | 9 => ("DigitDividerModel", "any", "Z", false)
  | 10 => ("DigitDividerModel", "digits", "[I", true)
  | 11 => ("DigitDividerModel", "columns", "[I", true)
  | 12 => ("DigitDividerModel", "sums", "[J", true)
  | 13 => ("DigitDividerModel", "carries", "[J", true)
  | 14 => ("DigitDividerModel", "highs", "[J", true)
  | 15 => ("DigitDividerModel", "lows", "[J", true)
  | 16 => ("DigitDividerModel", "keptInts", "[I", true)
  | _ => ("DigitDividerModel", "keptLongs", "[J", true)
def tyX2 : Nat → FieldType := fun k => match k with
  | 0 => .array .int
  | 1 => .int
  | 2 => .int
  | 3 => .int
  | 4 => .int
  | 5 => .int
  | 6 => .int
  | 7 => .int
  | 8 => .int
  | 9 => .boolean
  | 10 => .array .int
  | 11 => .array .int
  | 12 => .array .long
  | 13 => .array .long
  | 14 => .array .long
  | 15 => .array .long
  | 16 => .array .int
  | _ => .array .long
abbrev wsX20 : List Cond := u_ws RX2 TX2 18
theorem nmX2 : ∀ a, a < 18 → ∀ b, b < 18 → a ≠ b → (TX2 a).2.1 ≠ (TX2 b).2.1 := by decide +kernel
theorem tyX2_ok : ∀ k, k < 18 → parseFieldDescriptor (TX2 k).2.2.1 = some (tyX2 k) := by decide +kernel
abbrev cX2_init : ByteArray := prog_4_method_1_code
def yX2_init : MethodName := ⟨RX2, "<init>", "()V"⟩
abbrev cX2_in : ByteArray := prog_4_method_2_code
def yX2_in : MethodName := ⟨RX2, "in", "(III)Z"⟩
abbrev cX2_isHeld : ByteArray := prog_4_method_3_code
def yX2_isHeld : MethodName := ⟨RX2, "isHeld", "(II)Z"⟩
abbrev cX2_isOver : ByteArray := prog_4_method_4_code
def yX2_isOver : MethodName := ⟨RX2, "isOver", "(III)Z"⟩
abbrev cX2_isUnder : ByteArray := prog_4_method_5_code
def yX2_isUnder : MethodName := ⟨RX2, "isUnder", "(III)Z"⟩
abbrev cX2_isGood : ByteArray := prog_4_method_6_code
def yX2_isGood : MethodName := ⟨RX2, "isGood", "(III)Z"⟩
abbrev cX2_madeOf : ByteArray := prog_4_method_7_code
def yX2_madeOf : MethodName := ⟨RX2, "madeOf", "(II)I"⟩
abbrev cX2_fill : ByteArray := prog_4_method_8_code
def yX2_fill : MethodName := ⟨RX2, "fill", "(I)I"⟩
abbrev cX2_isTable : ByteArray := prog_4_method_9_code
def yX2_isTable : MethodName := ⟨RX2, "isTable", "(I)Z"⟩
abbrev cX2_isCell : ByteArray := prog_4_method_10_code
def yX2_isCell : MethodName := ⟨RX2, "isCell", "(II)Z"⟩
abbrev cX2_cellAt : ByteArray := prog_4_method_11_code
def yX2_cellAt : MethodName := ⟨RX2, "cellAt", "(III)I"⟩
abbrev cX2_digit : ByteArray := prog_4_method_12_code
def yX2_digit : MethodName := ⟨RX2, "digit", "(III)I"⟩
abbrev cX2_set : ByteArray := prog_4_method_13_code
def yX2_set : MethodName := ⟨RX2, "set", "(IIII)I"⟩
abbrev cX2_make : ByteArray := prog_4_method_14_code
def yX2_make : MethodName := ⟨RX2, "make", "(I)I"⟩
abbrev cX2_copy : ByteArray := prog_4_method_15_code
def yX2_copy : MethodName := ⟨RX2, "copy", "(II)I"⟩
abbrev cX2_good : ByteArray := prog_4_method_16_code
def yX2_good : MethodName := ⟨RX2, "good", "(III)I"⟩
abbrev cX2_holds : ByteArray := prog_4_method_17_code
def yX2_holds : MethodName := ⟨RX2, "holds", "(II)I"⟩
abbrev cX2_isWrong : ByteArray := prog_4_method_18_code
def yX2_isWrong : MethodName := ⟨RX2, "isWrong", "(II)Z"⟩
abbrev cX2_check : ByteArray := prog_4_method_19_code
def yX2_check : MethodName := ⟨RX2, "check", "(I)I"⟩
abbrev cX2_wrong : ByteArray := prog_4_method_20_code
def yX2_wrong : MethodName := ⟨RX2, "wrong", "(II)I"⟩
abbrev cX2_sizeOf : ByteArray := prog_4_method_21_code
def yX2_sizeOf : MethodName := ⟨RX2, "sizeOf", "(I)J"⟩
abbrev cX2_doublings : ByteArray := prog_4_method_22_code
def yX2_doublings : MethodName := ⟨RX2, "doublings", "(J)I"⟩
abbrev cX2_nextDigit : ByteArray := prog_4_method_23_code
def yX2_nextDigit : MethodName := ⟨RX2, "nextDigit", "(IJ)V"⟩
abbrev cX2_work : ByteArray := prog_4_method_24_code
def yX2_work : MethodName := ⟨RX2, "work", "(II)V"⟩
abbrev cX2_use : ByteArray := prog_4_method_25_code
def yX2_use : MethodName := ⟨RX2, "use", "(I)I"⟩
abbrev cX2_divide : ByteArray := prog_4_method_26_code
def yX2_divide : MethodName := ⟨RX2, "divide", "(II)I"⟩
abbrev cX2_quotient : ByteArray := prog_4_method_27_code
def yX2_quotient : MethodName := ⟨RX2, "quotient", "()I"⟩
abbrev cX2_rest : ByteArray := prog_4_method_28_code
def yX2_rest : MethodName := ⟨RX2, "rest", "()I"⟩
abbrev cX2_left : ByteArray := prog_4_method_29_code
def yX2_left : MethodName := ⟨RX2, "left", "()I"⟩
abbrev cX2_step : ByteArray := prog_4_method_30_code
def yX2_step : MethodName := ⟨RX2, "step", "(II)I"⟩
abbrev cX2_state : ByteArray := prog_4_method_31_code
def yX2_state : MethodName := ⟨RX2, "state", "(II)J"⟩
abbrev cX2_told : ByteArray := prog_4_method_32_code
def yX2_told : MethodName := ⟨RX2, "told", "(I)I"⟩
abbrev cX2_keep : ByteArray := prog_4_method_33_code
def yX2_keep : MethodName := ⟨RX2, "keep", "()V"⟩
abbrev cX2_back : ByteArray := prog_4_method_34_code
def yX2_back : MethodName := ⟨RX2, "back", "()V"⟩
abbrev cX2_sweep : ByteArray := prog_4_method_35_code
def yX2_sweep : MethodName := ⟨RX2, "sweep", "(III)I"⟩
def RJ9 : String := "java/lang/Math"
def TJ9 : u_T := fun k => match k with
  | _ => ("", "", "", false)
def tyJ9 : Nat → FieldType := fun k => match k with
  | _ => .int
abbrev wsJ90 : List Cond := u_ws RJ9 TJ9 0
theorem nmJ9 : ∀ a, a < 0 → ∀ b, b < 0 → a ≠ b → (TJ9 a).2.1 ≠ (TJ9 b).2.1 := by decide +kernel
theorem tyJ9_ok : ∀ k, k < 0 → parseFieldDescriptor (TJ9 k).2.2.1 = some (tyJ9 k) := by decide +kernel
abbrev cJ9_abs_067f4 : ByteArray := prog_5_method_61_code
def yJ9_abs_067f4 : MethodName := ⟨RJ9, "abs", "(J)J"⟩
abbrev cJ9_max_7cf53 : ByteArray := prog_5_method_65_code
def yJ9_max_7cf53 : MethodName := ⟨RJ9, "max", "(II)I"⟩
abbrev cJ9_min_7cf53 : ByteArray := prog_5_method_69_code
def yJ9_min_7cf53 : MethodName := ⟨RJ9, "min", "(II)I"⟩
def RL : String := "DigitDividerLaw"
abbrev cL_law : ByteArray := code
def yL_law : MethodName := ⟨RL, "law", "([I)Z"⟩
def wsX0_init : List Cond := .code yX0_init cX0_init 1 none :: ([.methodLink RX0 3 objectInit, .instanceMethod objectInit, .code objectInit ⟨#[0xb1]⟩ 1 none, .arrayClass .int, .fieldLink RX0 11 "DigitDivider$Division" "digits" "[I", .fieldLink RX0 15 "DigitDivider$Division" "estimates" "[I", .arrayClass .long, .fieldLink RX0 18 "DigitDivider$Division" "sums" "[J", .fieldLink RX0 22 "DigitDivider$Division" "carries" "[J", .fieldLink RX0 25 "DigitDivider$Division" "qs" "[J", .fieldLink RX0 28 "DigitDivider$Division" "rs" "[J", .fieldLink RX0 31 "DigitDivider$Division" "row" "I", .fieldLink RX0 35 "DigitDivider$Division" "s" "I", .fieldLink RX0 38 "DigitDivider$Division" "t" "I", .fieldLink RX0 41 "DigitDivider$Division" "n" "I", .fieldLink RX0 44 "DigitDivider$Division" "digitsNotZero" "I", .fieldLink RX0 47 "DigitDivider$Division" "firstLeft" "I", .fieldLink RX0 50 "DigitDivider$Division" "quotient" "I", .fieldLink RX0 53 "DigitDivider$Division" "rest" "I"] ++ wsX00)
def wsX0_clear : List Cond := .code yX0_clear cX0_clear 1 none :: ([.fieldLink RX0 18 "DigitDivider$Division" "sums" "[J", .fieldLink RX0 22 "DigitDivider$Division" "carries" "[J", .fieldLink RX0 25 "DigitDivider$Division" "qs" "[J", .fieldLink RX0 28 "DigitDivider$Division" "rs" "[J", .constantLong RX0 77 (-1), .fieldLink RX0 31 "DigitDivider$Division" "row" "I", .fieldLink RX0 35 "DigitDivider$Division" "s" "I", .fieldLink RX0 38 "DigitDivider$Division" "t" "I", .fieldLink RX0 41 "DigitDivider$Division" "n" "I", .fieldLink RX0 44 "DigitDivider$Division" "digitsNotZero" "I", .fieldLink RX0 47 "DigitDivider$Division" "firstLeft" "I"] ++ wsX00)
def wsX0_doublings : List Cond := .code yX0_doublings cX0_doublings 3 (some .int) :: ([.constantLong RX0 89 (4294967296)])
def wsX0_begin : List Cond := .code yX0_begin cX0_begin 9 (some .long) :: ([.fieldLink RX0 35 "DigitDivider$Division" "s" "I", .fieldLink RX0 38 "DigitDivider$Division" "t" "I", .methodLink RX0 83 Lib.Math.min.name, .static Lib.Math.min.name, .initialized "java/lang/Math", .code Lib.Math.min.name Lib.Math.min.code 2 (some .int), .fieldLink RX0 41 "DigitDivider$Division" "n" "I", .fieldLink RX0 31 "DigitDivider$Division" "row" "I", .fieldLink RX0 18 "DigitDivider$Division" "sums" "[J", .constantLong RX0 87 (8), .methodLink RX0 79 yX0_doublings, .static yX0_doublings, .initialized RX0, .code yX0_doublings cX0_doublings 3 (some .int), .constantLong RX0 89 (4294967296)] ++ wsX00)
def wsX1_cellAt : List Cond := .code yX1_cellAt cX1_cellAt 2 (some .int) :: ([])
def wsX0_writeQuotient : List Cond := .code yX0_writeQuotient cX0_writeQuotient 7 none :: ([.fieldLink RX0 25 "DigitDivider$Division" "qs" "[J", .fieldLink RX0 28 "DigitDivider$Division" "rs" "[J", .constantLong RX0 105 (4), .constantLong RX0 101 (3)] ++ wsX00)
def wsX0_takeDigit_r1 : List Cond := [Cond.fieldLink RX0 18 "DigitDivider$Division" "sums" "[J", Cond.fieldLink RX0 22 "DigitDivider$Division" "carries" "[J", Cond.methodLink RX0 83 Lib.Math.min.name, Cond.static Lib.Math.min.name, Cond.initialized "java/lang/Math", Cond.code Lib.Math.min.name Lib.Math.min.code 2 (some .int), Cond.methodLink RX0 91 Lib.Math.max.name, Cond.static Lib.Math.max.name, Cond.code Lib.Math.max.name Lib.Math.max.code 2 (some .int), Cond.fieldLink RX0 31 "DigitDivider$Division" "row" "I", Cond.fieldLink RX0 15 "DigitDivider$Division" "estimates" "[I", Cond.fieldLink RX0 11 "DigitDivider$Division" "digits" "[I", Cond.fieldLink RX0 44 "DigitDivider$Division" "digitsNotZero" "I", Cond.fieldLink RX0 47 "DigitDivider$Division" "firstLeft" "I", Cond.constantLong RX0 101 (3), Cond.methodLink RX0 56 Lib.MathLoose.abs_long.x, Cond.static Lib.MathLoose.abs_long.x, Cond.code Lib.MathLoose.abs_long.x Lib.MathLoose.abs_long.code 2 (some .long), Cond.constantLong RX0 103 (16), Cond.static yX1_cellAt, Cond.initialized RX1, Cond.code yX1_cellAt cX1_cellAt 2 (some .int), Cond.methodLink RX0 97 yX0_writeQuotient, Cond.instanceMethod yX0_writeQuotient]
def wsX0_takeDigit_r2 : List Cond := [Cond.selects RX0 yX0_writeQuotient yX0_writeQuotient, Cond.initialized RX0, Cond.code yX0_writeQuotient cX0_writeQuotient 7 none, Cond.fieldLink RX0 25 "DigitDivider$Division" "qs" "[J", Cond.fieldLink RX0 28 "DigitDivider$Division" "rs" "[J", Cond.constantLong RX0 105 (4)]
def wsX0_takeDigit : List Cond := .code yX0_takeDigit cX0_takeDigit 14 none :: ((wsX0_takeDigit_r1 ++ wsX0_takeDigit_r2) ++ wsX00)
def wsX0_finish : List Cond := .code yX0_finish cX0_finish 11 none :: ([.fieldLink RX0 18 "DigitDivider$Division" "sums" "[J", .fieldLink RX0 41 "DigitDivider$Division" "n" "I", .fieldLink RX0 22 "DigitDivider$Division" "carries" "[J", .fieldLink RX0 28 "DigitDivider$Division" "rs" "[J", .fieldLink RX0 25 "DigitDivider$Division" "qs" "[J", .constantLong RX0 87 (8), .fieldLink RX0 38 "DigitDivider$Division" "t" "I", .fieldLink RX0 50 "DigitDivider$Division" "quotient" "I", .fieldLink RX0 53 "DigitDivider$Division" "rest" "I"] ++ wsX00)
def wsX0_run_r1 : List Cond := [Cond.methodLink RX0 56 Lib.MathLoose.abs_long.x, Cond.static Lib.MathLoose.abs_long.x, Cond.initialized "java/lang/Math", Cond.code Lib.MathLoose.abs_long.x Lib.MathLoose.abs_long.code 2 (some .long), Cond.fieldLink RX0 50 "DigitDivider$Division" "quotient" "I", Cond.fieldLink RX0 53 "DigitDivider$Division" "rest" "I", Cond.fieldLink RX0 41 "DigitDivider$Division" "n" "I", Cond.methodLink RX0 62 yX0_clear, Cond.instanceMethod yX0_clear, Cond.selects RX0 yX0_clear yX0_clear, Cond.initialized RX0, Cond.code yX0_clear cX0_clear 1 none, Cond.fieldLink RX0 18 "DigitDivider$Division" "sums" "[J", Cond.fieldLink RX0 22 "DigitDivider$Division" "carries" "[J", Cond.fieldLink RX0 25 "DigitDivider$Division" "qs" "[J", Cond.fieldLink RX0 28 "DigitDivider$Division" "rs" "[J", Cond.constantLong RX0 77 (-1), Cond.fieldLink RX0 31 "DigitDivider$Division" "row" "I", Cond.fieldLink RX0 35 "DigitDivider$Division" "s" "I", Cond.fieldLink RX0 38 "DigitDivider$Division" "t" "I", Cond.fieldLink RX0 44 "DigitDivider$Division" "digitsNotZero" "I", Cond.fieldLink RX0 47 "DigitDivider$Division" "firstLeft" "I", Cond.methodLink RX0 65 yX0_begin, Cond.instanceMethod yX0_begin]
def wsX0_run_r2 : List Cond := [Cond.selects RX0 yX0_begin yX0_begin, Cond.code yX0_begin cX0_begin 9 (some .long), Cond.methodLink RX0 83 Lib.Math.min.name, Cond.static Lib.Math.min.name, Cond.code Lib.Math.min.name Lib.Math.min.code 2 (some .int), Cond.constantLong RX0 87 (8), Cond.methodLink RX0 79 yX0_doublings, Cond.static yX0_doublings, Cond.code yX0_doublings cX0_doublings 3 (some .int), Cond.constantLong RX0 89 (4294967296), Cond.methodLink RX0 69 yX0_takeDigit, Cond.instanceMethod yX0_takeDigit, Cond.selects RX0 yX0_takeDigit yX0_takeDigit, Cond.code yX0_takeDigit cX0_takeDigit 14 none, Cond.methodLink RX0 91 Lib.Math.max.name, Cond.static Lib.Math.max.name, Cond.code Lib.Math.max.name Lib.Math.max.code 2 (some .int), Cond.fieldLink RX0 15 "DigitDivider$Division" "estimates" "[I", Cond.fieldLink RX0 11 "DigitDivider$Division" "digits" "[I", Cond.constantLong RX0 101 (3), Cond.constantLong RX0 103 (16), Cond.static yX1_cellAt, Cond.initialized RX1, Cond.code yX1_cellAt cX1_cellAt 2 (some .int)]
def wsX0_run_r3 : List Cond := [Cond.methodLink RX0 97 yX0_writeQuotient, Cond.instanceMethod yX0_writeQuotient, Cond.selects RX0 yX0_writeQuotient yX0_writeQuotient, Cond.code yX0_writeQuotient cX0_writeQuotient 7 none, Cond.constantLong RX0 105 (4), Cond.methodLink RX0 73 yX0_finish, Cond.instanceMethod yX0_finish, Cond.selects RX0 yX0_finish yX0_finish, Cond.code yX0_finish cX0_finish 11 none]
def wsX0_run : List Cond := .code yX0_run cX0_run 11 none :: ((wsX0_run_r1 ++ (wsX0_run_r2 ++ wsX0_run_r3)) ++ wsX00)
def wsX1_leastDivisor : List Cond := .code yX1_leastDivisor cX1_leastDivisor 3 (some .int) :: ([.methodLink RX1 118 Lib.Math.max.name, .static Lib.Math.max.name, .initialized "java/lang/Math", .code Lib.Math.max.name Lib.Math.max.code 2 (some .int)])
def wsX1_endOfDivisors : List Cond := .code yX1_endOfDivisors cX1_endOfDivisors 1 (some .int) :: ([])
def wsX1_holdsAny : List Cond := .code yX1_holdsAny cX1_holdsAny 2 (some .boolean) :: ([.methodLink RX1 123 yX1_leastDivisor, .static yX1_leastDivisor, .initialized RX1, .code yX1_leastDivisor cX1_leastDivisor 3 (some .int), .methodLink RX1 118 Lib.Math.max.name, .static Lib.Math.max.name, .initialized "java/lang/Math", .code Lib.Math.max.name Lib.Math.max.code 2 (some .int), .methodLink RX1 126 yX1_endOfDivisors, .static yX1_endOfDivisors, .code yX1_endOfDivisors cX1_endOfDivisors 1 (some .int)])
def wsX1_staysWithin : List Cond := .code yX1_staysWithin cX1_staysWithin 11 (some .boolean) :: ([.methodLink RX1 123 yX1_leastDivisor, .static yX1_leastDivisor, .initialized RX1, .code yX1_leastDivisor cX1_leastDivisor 3 (some .int), .methodLink RX1 118 Lib.Math.max.name, .static Lib.Math.max.name, .initialized "java/lang/Math", .code Lib.Math.max.name Lib.Math.max.code 2 (some .int), .methodLink RX1 126 yX1_endOfDivisors, .static yX1_endOfDivisors, .code yX1_endOfDivisors cX1_endOfDivisors 1 (some .int)])
def wsX1_findGoodDigits : List Cond := .code yX1_findGoodDigits cX1_findGoodDigits 4 (some .int) :: ([.methodLink RX1 61 yX1_holdsAny, .static yX1_holdsAny, .initialized RX1, .code yX1_holdsAny cX1_holdsAny 2 (some .boolean), .methodLink RX1 123 yX1_leastDivisor, .static yX1_leastDivisor, .code yX1_leastDivisor cX1_leastDivisor 3 (some .int), .methodLink RX1 118 Lib.Math.max.name, .static Lib.Math.max.name, .initialized "java/lang/Math", .code Lib.Math.max.name Lib.Math.max.code 2 (some .int), .methodLink RX1 126 yX1_endOfDivisors, .static yX1_endOfDivisors, .code yX1_endOfDivisors cX1_endOfDivisors 1 (some .int), .methodLink RX1 114 yX1_staysWithin, .static yX1_staysWithin, .code yX1_staysWithin cX1_staysWithin 11 (some .boolean)])
def wsX1_isGood : List Cond := .code yX1_isGood cX1_isGood 3 (some .boolean) :: ([.fieldLink RX1 14 "DigitDivider" "goodDigits" "[I"] ++ wsX10)
def wsX1_madeDigit : List Cond := .code yX1_madeDigit cX1_madeDigit 6 (some .int) :: ([.fieldLink RX1 111 "DigitDivider" "DIGITS_NEAREST_FIRST" "[I", .methodLink RX1 58 yX1_isGood, .instanceMethod yX1_isGood, .selects RX1 yX1_isGood yX1_isGood, .initialized RX1, .code yX1_isGood cX1_isGood 3 (some .boolean), .fieldLink RX1 14 "DigitDivider" "goodDigits" "[I"] ++ wsX10)
def wsX1_init_r1 : List Cond := [Cond.methodLink RX1 3 objectInit, Cond.instanceMethod objectInit, Cond.code objectInit ⟨#[0xb1]⟩ 1 none, Cond.classLink RX1 9 "[[I", Cond.arrayClass .int, Cond.fieldLink RX1 11 "DigitDivider" "tables" "[[I", Cond.fieldLink RX1 14 "DigitDivider" "goodDigits" "[I", Cond.classLink RX1 18 RX0, Cond.instantiable RX0 14, Cond.initialized RX0, Cond.fieldLink RX1 21 "DigitDivider" "latest" "LDigitDivider$Division;", Cond.fieldLink RX1 25 "DigitDivider" "swept" "LDigitDivider$Division;", Cond.fieldLink RX1 28 "DigitDivider" "inUse" "I", Cond.instanceMethod yX0_init, Cond.code yX0_init cX0_init 1 none, Cond.methodLink RX0 3 objectInit, Cond.fieldLink RX0 11 "DigitDivider$Division" "digits" "[I", Cond.fieldLink RX0 15 "DigitDivider$Division" "estimates" "[I", Cond.arrayClass .long, Cond.fieldLink RX0 18 "DigitDivider$Division" "sums" "[J", Cond.fieldLink RX0 22 "DigitDivider$Division" "carries" "[J", Cond.fieldLink RX0 25 "DigitDivider$Division" "qs" "[J", Cond.fieldLink RX0 28 "DigitDivider$Division" "rs" "[J", Cond.fieldLink RX0 31 "DigitDivider$Division" "row" "I"]
def wsX1_init_r2 : List Cond := [Cond.fieldLink RX0 35 "DigitDivider$Division" "s" "I", Cond.fieldLink RX0 38 "DigitDivider$Division" "t" "I", Cond.fieldLink RX0 41 "DigitDivider$Division" "n" "I", Cond.fieldLink RX0 44 "DigitDivider$Division" "digitsNotZero" "I", Cond.fieldLink RX0 47 "DigitDivider$Division" "firstLeft" "I", Cond.fieldLink RX0 50 "DigitDivider$Division" "quotient" "I", Cond.fieldLink RX0 53 "DigitDivider$Division" "rest" "I", Cond.methodLink RX1 32 yX1_findGoodDigits, Cond.static yX1_findGoodDigits, Cond.initialized RX1, Cond.code yX1_findGoodDigits cX1_findGoodDigits 4 (some .int), Cond.methodLink RX1 61 yX1_holdsAny, Cond.static yX1_holdsAny, Cond.code yX1_holdsAny cX1_holdsAny 2 (some .boolean), Cond.methodLink RX1 123 yX1_leastDivisor, Cond.static yX1_leastDivisor, Cond.code yX1_leastDivisor cX1_leastDivisor 3 (some .int), Cond.methodLink RX1 118 Lib.Math.max.name, Cond.static Lib.Math.max.name, Cond.initialized "java/lang/Math", Cond.code Lib.Math.max.name Lib.Math.max.code 2 (some .int), Cond.methodLink RX1 126 yX1_endOfDivisors, Cond.static yX1_endOfDivisors, Cond.code yX1_endOfDivisors cX1_endOfDivisors 1 (some .int)]
def wsX1_init_r3 : List Cond := [Cond.methodLink RX1 114 yX1_staysWithin, Cond.static yX1_staysWithin, Cond.code yX1_staysWithin cX1_staysWithin 11 (some .boolean), Cond.methodLink RX1 36 yX1_madeDigit, Cond.instanceMethod yX1_madeDigit, Cond.selects RX1 yX1_madeDigit yX1_madeDigit, Cond.code yX1_madeDigit cX1_madeDigit 6 (some .int), Cond.fieldLink RX1 111 "DigitDivider" "DIGITS_NEAREST_FIRST" "[I", Cond.methodLink RX1 58 yX1_isGood, Cond.instanceMethod yX1_isGood, Cond.selects RX1 yX1_isGood yX1_isGood, Cond.code yX1_isGood cX1_isGood 3 (some .boolean)]
def wsX1_init : List Cond := .code yX1_init cX1_init 4 none :: ((wsX1_init_r1 ++ (wsX1_init_r2 ++ wsX1_init_r3)) ++ wsX10 ++ wsX00)
def wsX1_isTable : List Cond := .code yX1_isTable cX1_isTable 1 (some .boolean) :: ([])
def wsX1_isCell : List Cond := .code yX1_isCell cX1_isCell 2 (some .boolean) :: ([])
def wsX1_digit : List Cond := .code yX1_digit cX1_digit 4 (some .int) :: ([.fieldLink RX1 11 "DigitDivider" "tables" "[[I", .methodLink RX1 40 yX1_isTable, .static yX1_isTable, .initialized RX1, .code yX1_isTable cX1_isTable 1 (some .boolean), .methodLink RX1 44 yX1_isCell, .static yX1_isCell, .code yX1_isCell cX1_isCell 2 (some .boolean), .methodLink RX1 48 yX1_cellAt, .static yX1_cellAt, .code yX1_cellAt cX1_cellAt 2 (some .int)] ++ wsX10)
def wsX1_isDigit : List Cond := .code yX1_isDigit cX1_isDigit 1 (some .boolean) :: ([])
def wsX1_set : List Cond := .code yX1_set cX1_set 7 (some .int) :: ([.fieldLink RX1 11 "DigitDivider" "tables" "[[I", .methodLink RX1 40 yX1_isTable, .static yX1_isTable, .initialized RX1, .code yX1_isTable cX1_isTable 1 (some .boolean), .methodLink RX1 44 yX1_isCell, .static yX1_isCell, .code yX1_isCell cX1_isCell 2 (some .boolean), .methodLink RX1 51 yX1_isDigit, .static yX1_isDigit, .code yX1_isDigit cX1_isDigit 1 (some .boolean), .methodLink RX1 48 yX1_cellAt, .static yX1_cellAt, .code yX1_cellAt cX1_cellAt 2 (some .int)] ++ wsX10)
def wsX1_replace : List Cond := .code yX1_replace cX1_replace 4 (some .int) :: ([.fieldLink RX1 11 "DigitDivider" "tables" "[[I"] ++ wsX10)
def wsX1_make : List Cond := .code yX1_make cX1_make 4 (some .int) :: ([.methodLink RX1 40 yX1_isTable, .static yX1_isTable, .initialized RX1, .code yX1_isTable cX1_isTable 1 (some .boolean), .methodLink RX1 36 yX1_madeDigit, .instanceMethod yX1_madeDigit, .selects RX1 yX1_madeDigit yX1_madeDigit, .code yX1_madeDigit cX1_madeDigit 6 (some .int), .fieldLink RX1 111 "DigitDivider" "DIGITS_NEAREST_FIRST" "[I", .methodLink RX1 58 yX1_isGood, .instanceMethod yX1_isGood, .selects RX1 yX1_isGood yX1_isGood, .code yX1_isGood cX1_isGood 3 (some .boolean), .fieldLink RX1 14 "DigitDivider" "goodDigits" "[I", .methodLink RX1 54 yX1_replace, .instanceMethod yX1_replace, .selects RX1 yX1_replace yX1_replace, .code yX1_replace cX1_replace 4 (some .int), .fieldLink RX1 11 "DigitDivider" "tables" "[[I"] ++ wsX10)
def wsX1_copy : List Cond := .code yX1_copy cX1_copy 5 (some .int) :: ([.fieldLink RX1 11 "DigitDivider" "tables" "[[I", .methodLink RX1 40 yX1_isTable, .static yX1_isTable, .initialized RX1, .code yX1_isTable cX1_isTable 1 (some .boolean), .methodLink RX1 54 yX1_replace, .instanceMethod yX1_replace, .selects RX1 yX1_replace yX1_replace, .code yX1_replace cX1_replace 4 (some .int)] ++ wsX10)
def wsX1_good : List Cond := .code yX1_good cX1_good 4 (some .int) :: ([.methodLink RX1 44 yX1_isCell, .static yX1_isCell, .initialized RX1, .code yX1_isCell cX1_isCell 2 (some .boolean), .methodLink RX1 51 yX1_isDigit, .static yX1_isDigit, .code yX1_isDigit cX1_isDigit 1 (some .boolean), .methodLink RX1 48 yX1_cellAt, .static yX1_cellAt, .code yX1_cellAt cX1_cellAt 2 (some .int), .methodLink RX1 58 yX1_isGood, .instanceMethod yX1_isGood, .selects RX1 yX1_isGood yX1_isGood, .code yX1_isGood cX1_isGood 3 (some .boolean), .fieldLink RX1 14 "DigitDivider" "goodDigits" "[I"] ++ wsX10)
def wsX1_holds : List Cond := .code yX1_holds cX1_holds 3 (some .int) :: ([.methodLink RX1 44 yX1_isCell, .static yX1_isCell, .initialized RX1, .code yX1_isCell cX1_isCell 2 (some .boolean), .methodLink RX1 61 yX1_holdsAny, .static yX1_holdsAny, .code yX1_holdsAny cX1_holdsAny 2 (some .boolean), .methodLink RX1 123 yX1_leastDivisor, .static yX1_leastDivisor, .code yX1_leastDivisor cX1_leastDivisor 3 (some .int), .methodLink RX1 118 Lib.Math.max.name, .static Lib.Math.max.name, .initialized "java/lang/Math", .code Lib.Math.max.name Lib.Math.max.code 2 (some .int), .methodLink RX1 126 yX1_endOfDivisors, .static yX1_endOfDivisors, .code yX1_endOfDivisors cX1_endOfDivisors 1 (some .int)])
def wsX1_check : List Cond := .code yX1_check cX1_check 4 (some .int) :: ([.fieldLink RX1 11 "DigitDivider" "tables" "[[I", .methodLink RX1 40 yX1_isTable, .static yX1_isTable, .initialized RX1, .code yX1_isTable cX1_isTable 1 (some .boolean), .methodLink RX1 58 yX1_isGood, .instanceMethod yX1_isGood, .selects RX1 yX1_isGood yX1_isGood, .code yX1_isGood cX1_isGood 3 (some .boolean), .fieldLink RX1 14 "DigitDivider" "goodDigits" "[I"] ++ wsX10)
def wsX1_wrong : List Cond := .code yX1_wrong cX1_wrong 5 (some .int) :: ([.fieldLink RX1 11 "DigitDivider" "tables" "[[I", .methodLink RX1 40 yX1_isTable, .static yX1_isTable, .initialized RX1, .code yX1_isTable cX1_isTable 1 (some .boolean), .methodLink RX1 58 yX1_isGood, .instanceMethod yX1_isGood, .selects RX1 yX1_isGood yX1_isGood, .code yX1_isGood cX1_isGood 3 (some .boolean), .fieldLink RX1 14 "DigitDivider" "goodDigits" "[I"] ++ wsX10)
def wsX1_use : List Cond := .code yX1_use cX1_use 3 (some .int) :: ([.fieldLink RX1 28 "DigitDivider" "inUse" "I", .methodLink RX1 40 yX1_isTable, .static yX1_isTable, .initialized RX1, .code yX1_isTable cX1_isTable 1 (some .boolean)] ++ wsX10)
def wsX1_divide_r1 : List Cond := [Cond.fieldLink RX1 21 "DigitDivider" "latest" "LDigitDivider$Division;", Cond.fieldLink RX1 11 "DigitDivider" "tables" "[[I", Cond.fieldLink RX1 28 "DigitDivider" "inUse" "I", Cond.instanceMethod yX0_run, Cond.initialized RX0, Cond.selects RX0 yX0_run yX0_run, Cond.code yX0_run cX0_run 11 none, Cond.methodLink RX0 56 Lib.MathLoose.abs_long.x, Cond.static Lib.MathLoose.abs_long.x, Cond.initialized "java/lang/Math", Cond.code Lib.MathLoose.abs_long.x Lib.MathLoose.abs_long.code 2 (some .long), Cond.fieldLink RX0 50 "DigitDivider$Division" "quotient" "I", Cond.fieldLink RX0 53 "DigitDivider$Division" "rest" "I", Cond.fieldLink RX0 41 "DigitDivider$Division" "n" "I", Cond.methodLink RX0 62 yX0_clear, Cond.instanceMethod yX0_clear, Cond.selects RX0 yX0_clear yX0_clear, Cond.code yX0_clear cX0_clear 1 none, Cond.fieldLink RX0 18 "DigitDivider$Division" "sums" "[J", Cond.fieldLink RX0 22 "DigitDivider$Division" "carries" "[J", Cond.fieldLink RX0 25 "DigitDivider$Division" "qs" "[J", Cond.fieldLink RX0 28 "DigitDivider$Division" "rs" "[J", Cond.constantLong RX0 77 (-1), Cond.fieldLink RX0 31 "DigitDivider$Division" "row" "I"]
def wsX1_divide_r2 : List Cond := [Cond.fieldLink RX0 35 "DigitDivider$Division" "s" "I", Cond.fieldLink RX0 38 "DigitDivider$Division" "t" "I", Cond.fieldLink RX0 44 "DigitDivider$Division" "digitsNotZero" "I", Cond.fieldLink RX0 47 "DigitDivider$Division" "firstLeft" "I", Cond.methodLink RX0 65 yX0_begin, Cond.instanceMethod yX0_begin, Cond.selects RX0 yX0_begin yX0_begin, Cond.code yX0_begin cX0_begin 9 (some .long), Cond.methodLink RX0 83 Lib.Math.min.name, Cond.static Lib.Math.min.name, Cond.code Lib.Math.min.name Lib.Math.min.code 2 (some .int), Cond.constantLong RX0 87 (8), Cond.methodLink RX0 79 yX0_doublings, Cond.static yX0_doublings, Cond.code yX0_doublings cX0_doublings 3 (some .int), Cond.constantLong RX0 89 (4294967296), Cond.methodLink RX0 69 yX0_takeDigit, Cond.instanceMethod yX0_takeDigit, Cond.selects RX0 yX0_takeDigit yX0_takeDigit, Cond.code yX0_takeDigit cX0_takeDigit 14 none, Cond.methodLink RX0 91 Lib.Math.max.name, Cond.static Lib.Math.max.name, Cond.code Lib.Math.max.name Lib.Math.max.code 2 (some .int), Cond.fieldLink RX0 15 "DigitDivider$Division" "estimates" "[I"]
def wsX1_divide_r3 : List Cond := [Cond.fieldLink RX0 11 "DigitDivider$Division" "digits" "[I", Cond.constantLong RX0 101 (3), Cond.constantLong RX0 103 (16), Cond.static yX1_cellAt, Cond.initialized RX1, Cond.code yX1_cellAt cX1_cellAt 2 (some .int), Cond.methodLink RX0 97 yX0_writeQuotient, Cond.instanceMethod yX0_writeQuotient, Cond.selects RX0 yX0_writeQuotient yX0_writeQuotient, Cond.code yX0_writeQuotient cX0_writeQuotient 7 none, Cond.constantLong RX0 105 (4), Cond.methodLink RX0 73 yX0_finish, Cond.instanceMethod yX0_finish, Cond.selects RX0 yX0_finish yX0_finish, Cond.code yX0_finish cX0_finish 11 none]
def wsX1_divide : List Cond := .code yX1_divide cX1_divide 3 (some .int) :: ((wsX1_divide_r1 ++ (wsX1_divide_r2 ++ wsX1_divide_r3)) ++ wsX10 ++ wsX00)
def wsX1_quotient : List Cond := .code yX1_quotient cX1_quotient 1 (some .int) :: ([.fieldLink RX1 21 "DigitDivider" "latest" "LDigitDivider$Division;"] ++ wsX10 ++ wsX00)
def wsX1_rest : List Cond := .code yX1_rest cX1_rest 1 (some .int) :: ([.fieldLink RX1 21 "DigitDivider" "latest" "LDigitDivider$Division;"] ++ wsX10 ++ wsX00)
def wsX1_left : List Cond := .code yX1_left cX1_left 1 (some .int) :: ([.fieldLink RX1 21 "DigitDivider" "latest" "LDigitDivider$Division;"] ++ wsX10 ++ wsX00)
def wsX1_step : List Cond := .code yX1_step cX1_step 3 (some .int) :: ([.fieldLink RX1 21 "DigitDivider" "latest" "LDigitDivider$Division;"] ++ wsX10 ++ wsX00)
def wsX1_state : List Cond := .code yX1_state cX1_state 3 (some .long) :: ([.fieldLink RX1 21 "DigitDivider" "latest" "LDigitDivider$Division;"] ++ wsX10 ++ wsX00)
def wsX1_told : List Cond := .code yX1_told cX1_told 2 (some .int) :: ([.fieldLink RX1 21 "DigitDivider" "latest" "LDigitDivider$Division;"] ++ wsX10 ++ wsX00)
def wsX1_sweep_r1 : List Cond := [Cond.fieldLink RX1 25 "DigitDivider" "swept" "LDigitDivider$Division;", Cond.fieldLink RX1 11 "DigitDivider" "tables" "[[I", Cond.fieldLink RX1 28 "DigitDivider" "inUse" "I", Cond.instanceMethod yX0_run, Cond.initialized RX0, Cond.selects RX0 yX0_run yX0_run, Cond.code yX0_run cX0_run 11 none, Cond.methodLink RX0 56 Lib.MathLoose.abs_long.x, Cond.static Lib.MathLoose.abs_long.x, Cond.initialized "java/lang/Math", Cond.code Lib.MathLoose.abs_long.x Lib.MathLoose.abs_long.code 2 (some .long), Cond.fieldLink RX0 50 "DigitDivider$Division" "quotient" "I", Cond.fieldLink RX0 53 "DigitDivider$Division" "rest" "I", Cond.fieldLink RX0 41 "DigitDivider$Division" "n" "I", Cond.methodLink RX0 62 yX0_clear, Cond.instanceMethod yX0_clear, Cond.selects RX0 yX0_clear yX0_clear, Cond.code yX0_clear cX0_clear 1 none, Cond.fieldLink RX0 18 "DigitDivider$Division" "sums" "[J", Cond.fieldLink RX0 22 "DigitDivider$Division" "carries" "[J", Cond.fieldLink RX0 25 "DigitDivider$Division" "qs" "[J", Cond.fieldLink RX0 28 "DigitDivider$Division" "rs" "[J", Cond.constantLong RX0 77 (-1), Cond.fieldLink RX0 31 "DigitDivider$Division" "row" "I"]
def wsX1_sweep_r2 : List Cond := [Cond.fieldLink RX0 35 "DigitDivider$Division" "s" "I", Cond.fieldLink RX0 38 "DigitDivider$Division" "t" "I", Cond.fieldLink RX0 44 "DigitDivider$Division" "digitsNotZero" "I", Cond.fieldLink RX0 47 "DigitDivider$Division" "firstLeft" "I", Cond.methodLink RX0 65 yX0_begin, Cond.instanceMethod yX0_begin, Cond.selects RX0 yX0_begin yX0_begin, Cond.code yX0_begin cX0_begin 9 (some .long), Cond.methodLink RX0 83 Lib.Math.min.name, Cond.static Lib.Math.min.name, Cond.code Lib.Math.min.name Lib.Math.min.code 2 (some .int), Cond.constantLong RX0 87 (8), Cond.methodLink RX0 79 yX0_doublings, Cond.static yX0_doublings, Cond.code yX0_doublings cX0_doublings 3 (some .int), Cond.constantLong RX0 89 (4294967296), Cond.methodLink RX0 69 yX0_takeDigit, Cond.instanceMethod yX0_takeDigit, Cond.selects RX0 yX0_takeDigit yX0_takeDigit, Cond.code yX0_takeDigit cX0_takeDigit 14 none, Cond.methodLink RX0 91 Lib.Math.max.name, Cond.static Lib.Math.max.name, Cond.code Lib.Math.max.name Lib.Math.max.code 2 (some .int), Cond.fieldLink RX0 15 "DigitDivider$Division" "estimates" "[I"]
def wsX1_sweep_r3 : List Cond := [Cond.fieldLink RX0 11 "DigitDivider$Division" "digits" "[I", Cond.constantLong RX0 101 (3), Cond.constantLong RX0 103 (16), Cond.static yX1_cellAt, Cond.initialized RX1, Cond.code yX1_cellAt cX1_cellAt 2 (some .int), Cond.methodLink RX0 97 yX0_writeQuotient, Cond.instanceMethod yX0_writeQuotient, Cond.selects RX0 yX0_writeQuotient yX0_writeQuotient, Cond.code yX0_writeQuotient cX0_writeQuotient 7 none, Cond.constantLong RX0 105 (4), Cond.methodLink RX0 73 yX0_finish, Cond.instanceMethod yX0_finish, Cond.selects RX0 yX0_finish yX0_finish, Cond.code yX0_finish cX0_finish 11 none]
def wsX1_sweep : List Cond := .code yX1_sweep cX1_sweep 7 (some .int) :: ((wsX1_sweep_r1 ++ (wsX1_sweep_r2 ++ wsX1_sweep_r3)) ++ wsX10 ++ wsX00)
def wsX2_isOver : List Cond := .code yX2_isOver cX2_isOver 6 (some .boolean) :: ([])
def wsX2_isUnder : List Cond := .code yX2_isUnder cX2_isUnder 6 (some .boolean) :: ([])
def wsX2_isGood : List Cond := .code yX2_isGood cX2_isGood 3 (some .boolean) :: ([.methodLink RX2 42 yX2_isOver, .static yX2_isOver, .initialized RX2, .code yX2_isOver cX2_isOver 6 (some .boolean), .methodLink RX2 46 yX2_isUnder, .static yX2_isUnder, .code yX2_isUnder cX2_isUnder 6 (some .boolean)])
def wsX2_madeOf : List Cond := .code yX2_madeOf cX2_madeOf 3 (some .int) :: ([.methodLink RX2 49 yX2_isGood, .static yX2_isGood, .initialized RX2, .code yX2_isGood cX2_isGood 3 (some .boolean), .methodLink RX2 42 yX2_isOver, .static yX2_isOver, .code yX2_isOver cX2_isOver 6 (some .boolean), .methodLink RX2 46 yX2_isUnder, .static yX2_isUnder, .code yX2_isUnder cX2_isUnder 6 (some .boolean)])
def wsX2_fill : List Cond := .code yX2_fill cX2_fill 7 (some .int) :: ([.fieldLink RX2 7 "DigitDividerModel" "tables" "[I", .methodLink RX2 52 yX2_madeOf, .static yX2_madeOf, .initialized RX2, .code yX2_madeOf cX2_madeOf 3 (some .int), .methodLink RX2 49 yX2_isGood, .static yX2_isGood, .code yX2_isGood cX2_isGood 3 (some .boolean), .methodLink RX2 42 yX2_isOver, .static yX2_isOver, .code yX2_isOver cX2_isOver 6 (some .boolean), .methodLink RX2 46 yX2_isUnder, .static yX2_isUnder, .code yX2_isUnder cX2_isUnder 6 (some .boolean)] ++ wsX20)
def wsX2_init_r1 : List Cond := [Cond.methodLink RX2 1 objectInit, Cond.instanceMethod objectInit, Cond.code objectInit ⟨#[0xb1]⟩ 1 none, Cond.arrayClass .int, Cond.fieldLink RX2 7 "DigitDividerModel" "tables" "[I", Cond.fieldLink RX2 13 "DigitDividerModel" "digits" "[I", Cond.fieldLink RX2 16 "DigitDividerModel" "columns" "[I", Cond.arrayClass .long, Cond.fieldLink RX2 19 "DigitDividerModel" "sums" "[J", Cond.fieldLink RX2 23 "DigitDividerModel" "carries" "[J", Cond.fieldLink RX2 26 "DigitDividerModel" "highs" "[J", Cond.fieldLink RX2 29 "DigitDividerModel" "lows" "[J", Cond.fieldLink RX2 32 "DigitDividerModel" "keptInts" "[I", Cond.fieldLink RX2 35 "DigitDividerModel" "keptLongs" "[J", Cond.methodLink RX2 38 yX2_fill, Cond.instanceMethod yX2_fill, Cond.selects RX2 yX2_fill yX2_fill, Cond.initialized RX2, Cond.code yX2_fill cX2_fill 7 (some .int), Cond.methodLink RX2 52 yX2_madeOf, Cond.static yX2_madeOf, Cond.code yX2_madeOf cX2_madeOf 3 (some .int), Cond.methodLink RX2 49 yX2_isGood, Cond.static yX2_isGood]
def wsX2_init_r2 : List Cond := [Cond.code yX2_isGood cX2_isGood 3 (some .boolean), Cond.methodLink RX2 42 yX2_isOver, Cond.static yX2_isOver, Cond.code yX2_isOver cX2_isOver 6 (some .boolean), Cond.methodLink RX2 46 yX2_isUnder, Cond.static yX2_isUnder, Cond.code yX2_isUnder cX2_isUnder 6 (some .boolean)]
def wsX2_init : List Cond := .code yX2_init cX2_init 3 none :: ((wsX2_init_r1 ++ wsX2_init_r2) ++ wsX20)
def wsX2_in : List Cond := .code yX2_in cX2_in 3 (some .boolean) :: ([])
def wsX2_isHeld : List Cond := .code yX2_isHeld cX2_isHeld 3 (some .boolean) :: ([])
def wsX2_isTable : List Cond := .code yX2_isTable cX2_isTable 1 (some .boolean) :: ([.methodLink RX2 56 yX2_in, .static yX2_in, .initialized RX2, .code yX2_in cX2_in 3 (some .boolean)])
def wsX2_isCell : List Cond := .code yX2_isCell cX2_isCell 2 (some .boolean) :: ([.methodLink RX2 56 yX2_in, .static yX2_in, .initialized RX2, .code yX2_in cX2_in 3 (some .boolean)])
def wsX2_cellAt : List Cond := .code yX2_cellAt cX2_cellAt 3 (some .int) :: ([])
def wsX2_digit : List Cond := .code yX2_digit cX2_digit 4 (some .int) :: ([.fieldLink RX2 7 "DigitDividerModel" "tables" "[I", .methodLink RX2 59 yX2_isTable, .static yX2_isTable, .initialized RX2, .code yX2_isTable cX2_isTable 1 (some .boolean), .methodLink RX2 56 yX2_in, .static yX2_in, .code yX2_in cX2_in 3 (some .boolean), .methodLink RX2 63 yX2_isCell, .static yX2_isCell, .code yX2_isCell cX2_isCell 2 (some .boolean), .methodLink RX2 67 yX2_cellAt, .static yX2_cellAt, .code yX2_cellAt cX2_cellAt 3 (some .int)] ++ wsX20)
def wsX2_set : List Cond := .code yX2_set cX2_set 7 (some .int) :: ([.fieldLink RX2 7 "DigitDividerModel" "tables" "[I", .methodLink RX2 59 yX2_isTable, .static yX2_isTable, .initialized RX2, .code yX2_isTable cX2_isTable 1 (some .boolean), .methodLink RX2 56 yX2_in, .static yX2_in, .code yX2_in cX2_in 3 (some .boolean), .methodLink RX2 63 yX2_isCell, .static yX2_isCell, .code yX2_isCell cX2_isCell 2 (some .boolean), .methodLink RX2 67 yX2_cellAt, .static yX2_cellAt, .code yX2_cellAt cX2_cellAt 3 (some .int)] ++ wsX20)
def wsX2_make : List Cond := .code yX2_make cX2_make 2 (some .int) :: ([.methodLink RX2 59 yX2_isTable, .static yX2_isTable, .initialized RX2, .code yX2_isTable cX2_isTable 1 (some .boolean), .methodLink RX2 56 yX2_in, .static yX2_in, .code yX2_in cX2_in 3 (some .boolean), .methodLink RX2 38 yX2_fill, .instanceMethod yX2_fill, .selects RX2 yX2_fill yX2_fill, .code yX2_fill cX2_fill 7 (some .int), .fieldLink RX2 7 "DigitDividerModel" "tables" "[I", .methodLink RX2 52 yX2_madeOf, .static yX2_madeOf, .code yX2_madeOf cX2_madeOf 3 (some .int), .methodLink RX2 49 yX2_isGood, .static yX2_isGood, .code yX2_isGood cX2_isGood 3 (some .boolean), .methodLink RX2 42 yX2_isOver, .static yX2_isOver, .code yX2_isOver cX2_isOver 6 (some .boolean), .methodLink RX2 46 yX2_isUnder, .static yX2_isUnder, .code yX2_isUnder cX2_isUnder 6 (some .boolean)] ++ wsX20)
def wsX2_copy : List Cond := .code yX2_copy cX2_copy 5 (some .int) :: ([.fieldLink RX2 7 "DigitDividerModel" "tables" "[I", .methodLink RX2 59 yX2_isTable, .static yX2_isTable, .initialized RX2, .code yX2_isTable cX2_isTable 1 (some .boolean), .methodLink RX2 56 yX2_in, .static yX2_in, .code yX2_in cX2_in 3 (some .boolean)] ++ wsX20)
def wsX2_good : List Cond := .code yX2_good cX2_good 4 (some .int) :: ([.methodLink RX2 63 yX2_isCell, .static yX2_isCell, .initialized RX2, .code yX2_isCell cX2_isCell 2 (some .boolean), .methodLink RX2 56 yX2_in, .static yX2_in, .code yX2_in cX2_in 3 (some .boolean), .methodLink RX2 49 yX2_isGood, .static yX2_isGood, .code yX2_isGood cX2_isGood 3 (some .boolean), .methodLink RX2 42 yX2_isOver, .static yX2_isOver, .code yX2_isOver cX2_isOver 6 (some .boolean), .methodLink RX2 46 yX2_isUnder, .static yX2_isUnder, .code yX2_isUnder cX2_isUnder 6 (some .boolean)])
def wsX2_holds : List Cond := .code yX2_holds cX2_holds 3 (some .int) :: ([.methodLink RX2 63 yX2_isCell, .static yX2_isCell, .initialized RX2, .code yX2_isCell cX2_isCell 2 (some .boolean), .methodLink RX2 56 yX2_in, .static yX2_in, .code yX2_in cX2_in 3 (some .boolean), .methodLink RX2 71 yX2_isHeld, .static yX2_isHeld, .code yX2_isHeld cX2_isHeld 3 (some .boolean)])
def wsX2_isWrong : List Cond := .code yX2_isWrong cX2_isWrong 3 (some .boolean) :: ([.fieldLink RX2 7 "DigitDividerModel" "tables" "[I", .methodLink RX2 49 yX2_isGood, .static yX2_isGood, .initialized RX2, .code yX2_isGood cX2_isGood 3 (some .boolean), .methodLink RX2 42 yX2_isOver, .static yX2_isOver, .code yX2_isOver cX2_isOver 6 (some .boolean), .methodLink RX2 46 yX2_isUnder, .static yX2_isUnder, .code yX2_isUnder cX2_isUnder 6 (some .boolean)] ++ wsX20)
def wsX2_check : List Cond := .code yX2_check cX2_check 4 (some .int) :: ([.methodLink RX2 59 yX2_isTable, .static yX2_isTable, .initialized RX2, .code yX2_isTable cX2_isTable 1 (some .boolean), .methodLink RX2 56 yX2_in, .static yX2_in, .code yX2_in cX2_in 3 (some .boolean), .methodLink RX2 74 yX2_isWrong, .instanceMethod yX2_isWrong, .selects RX2 yX2_isWrong yX2_isWrong, .code yX2_isWrong cX2_isWrong 3 (some .boolean), .fieldLink RX2 7 "DigitDividerModel" "tables" "[I", .methodLink RX2 49 yX2_isGood, .static yX2_isGood, .code yX2_isGood cX2_isGood 3 (some .boolean), .methodLink RX2 42 yX2_isOver, .static yX2_isOver, .code yX2_isOver cX2_isOver 6 (some .boolean), .methodLink RX2 46 yX2_isUnder, .static yX2_isUnder, .code yX2_isUnder cX2_isUnder 6 (some .boolean)] ++ wsX20)
def wsX2_wrong : List Cond := .code yX2_wrong cX2_wrong 5 (some .int) :: ([.methodLink RX2 59 yX2_isTable, .static yX2_isTable, .initialized RX2, .code yX2_isTable cX2_isTable 1 (some .boolean), .methodLink RX2 56 yX2_in, .static yX2_in, .code yX2_in cX2_in 3 (some .boolean), .methodLink RX2 74 yX2_isWrong, .instanceMethod yX2_isWrong, .selects RX2 yX2_isWrong yX2_isWrong, .code yX2_isWrong cX2_isWrong 3 (some .boolean), .fieldLink RX2 7 "DigitDividerModel" "tables" "[I", .methodLink RX2 49 yX2_isGood, .static yX2_isGood, .code yX2_isGood cX2_isGood 3 (some .boolean), .methodLink RX2 42 yX2_isOver, .static yX2_isOver, .code yX2_isOver cX2_isOver 6 (some .boolean), .methodLink RX2 46 yX2_isUnder, .static yX2_isUnder, .code yX2_isUnder cX2_isUnder 6 (some .boolean)] ++ wsX20)
def wsX2_sizeOf : List Cond := .code yX2_sizeOf cX2_sizeOf 1 (some .long) :: ([])
def wsX2_doublings : List Cond := .code yX2_doublings cX2_doublings 5 (some .int) :: ([.constantLong RX2 77 (2147483648), .constantLong RX2 79 (2)])
def wsX2_nextDigit : List Cond := .code yX2_nextDigit cX2_nextDigit 21 none :: ([.constantLong RX2 81 (4), .fieldLink RX2 19 "DigitDividerModel" "sums" "[J", .fieldLink RX2 23 "DigitDividerModel" "carries" "[J", .fieldLink RX2 7 "DigitDividerModel" "tables" "[I", .fieldLink RX2 83 "DigitDividerModel" "used" "I", .fieldLink RX2 87 "DigitDividerModel" "row" "I", .constantLong RX2 90 (-8), .constantLong RX2 79 (2), .fieldLink RX2 26 "DigitDividerModel" "highs" "[J", .fieldLink RX2 29 "DigitDividerModel" "lows" "[J", .constantLong RX2 92 (3), .fieldLink RX2 13 "DigitDividerModel" "digits" "[I", .fieldLink RX2 16 "DigitDividerModel" "columns" "[I", .constantLong RX2 94 (16), .fieldLink RX2 96 "DigitDividerModel" "left" "I", .methodLink RX2 67 yX2_cellAt, .static yX2_cellAt, .initialized RX2, .code yX2_cellAt cX2_cellAt 3 (some .int)] ++ wsX20)
def wsX2_work_r1 : List Cond := [Cond.fieldLink RX2 103 "DigitDividerModel" "any" "Z", Cond.fieldLink RX2 107 "DigitDividerModel" "n" "I", Cond.fieldLink RX2 87 "DigitDividerModel" "row" "I", Cond.fieldLink RX2 110 "DigitDividerModel" "ups" "I", Cond.fieldLink RX2 113 "DigitDividerModel" "upt" "I", Cond.fieldLink RX2 96 "DigitDividerModel" "left" "I", Cond.fieldLink RX2 19 "DigitDividerModel" "sums" "[J", Cond.fieldLink RX2 23 "DigitDividerModel" "carries" "[J", Cond.fieldLink RX2 26 "DigitDividerModel" "highs" "[J", Cond.fieldLink RX2 29 "DigitDividerModel" "lows" "[J", Cond.constantLong RX2 116 (-1), Cond.constantLong RX2 122 (8), Cond.fieldLink RX2 128 "DigitDividerModel" "quotient" "I", Cond.fieldLink RX2 131 "DigitDividerModel" "rest" "I", Cond.methodLink RX2 99 yX2_sizeOf, Cond.static yX2_sizeOf, Cond.initialized RX2, Cond.code yX2_sizeOf cX2_sizeOf 1 (some .long), Cond.methodLink RX2 118 yX2_doublings, Cond.static yX2_doublings, Cond.code yX2_doublings cX2_doublings 5 (some .int), Cond.constantLong RX2 77 (2147483648), Cond.constantLong RX2 79 (2), Cond.methodLink RX2 124 yX2_nextDigit]
def wsX2_work_r2 : List Cond := [Cond.instanceMethod yX2_nextDigit, Cond.selects RX2 yX2_nextDigit yX2_nextDigit, Cond.code yX2_nextDigit cX2_nextDigit 21 none, Cond.constantLong RX2 81 (4), Cond.fieldLink RX2 7 "DigitDividerModel" "tables" "[I", Cond.fieldLink RX2 83 "DigitDividerModel" "used" "I", Cond.constantLong RX2 90 (-8), Cond.constantLong RX2 92 (3), Cond.fieldLink RX2 13 "DigitDividerModel" "digits" "[I", Cond.fieldLink RX2 16 "DigitDividerModel" "columns" "[I", Cond.constantLong RX2 94 (16), Cond.methodLink RX2 67 yX2_cellAt, Cond.static yX2_cellAt, Cond.code yX2_cellAt cX2_cellAt 3 (some .int)]
def wsX2_work : List Cond := .code yX2_work cX2_work 17 none :: ((wsX2_work_r1 ++ wsX2_work_r2) ++ wsX20)
def wsX2_use : List Cond := .code yX2_use cX2_use 3 (some .int) :: ([.fieldLink RX2 83 "DigitDividerModel" "used" "I", .methodLink RX2 59 yX2_isTable, .static yX2_isTable, .initialized RX2, .code yX2_isTable cX2_isTable 1 (some .boolean), .methodLink RX2 56 yX2_in, .static yX2_in, .code yX2_in cX2_in 3 (some .boolean)] ++ wsX20)
def wsX2_divide_r1 : List Cond := [Cond.fieldLink RX2 107 "DigitDividerModel" "n" "I", Cond.methodLink RX2 134 yX2_work, Cond.instanceMethod yX2_work, Cond.selects RX2 yX2_work yX2_work, Cond.initialized RX2, Cond.code yX2_work cX2_work 17 none, Cond.fieldLink RX2 103 "DigitDividerModel" "any" "Z", Cond.fieldLink RX2 87 "DigitDividerModel" "row" "I", Cond.fieldLink RX2 110 "DigitDividerModel" "ups" "I", Cond.fieldLink RX2 113 "DigitDividerModel" "upt" "I", Cond.fieldLink RX2 96 "DigitDividerModel" "left" "I", Cond.fieldLink RX2 19 "DigitDividerModel" "sums" "[J", Cond.fieldLink RX2 23 "DigitDividerModel" "carries" "[J", Cond.fieldLink RX2 26 "DigitDividerModel" "highs" "[J", Cond.fieldLink RX2 29 "DigitDividerModel" "lows" "[J", Cond.constantLong RX2 116 (-1), Cond.constantLong RX2 122 (8), Cond.fieldLink RX2 128 "DigitDividerModel" "quotient" "I", Cond.fieldLink RX2 131 "DigitDividerModel" "rest" "I", Cond.methodLink RX2 99 yX2_sizeOf, Cond.static yX2_sizeOf, Cond.code yX2_sizeOf cX2_sizeOf 1 (some .long), Cond.methodLink RX2 118 yX2_doublings, Cond.static yX2_doublings]
def wsX2_divide_r2 : List Cond := [Cond.code yX2_doublings cX2_doublings 5 (some .int), Cond.constantLong RX2 77 (2147483648), Cond.constantLong RX2 79 (2), Cond.methodLink RX2 124 yX2_nextDigit, Cond.instanceMethod yX2_nextDigit, Cond.selects RX2 yX2_nextDigit yX2_nextDigit, Cond.code yX2_nextDigit cX2_nextDigit 21 none, Cond.constantLong RX2 81 (4), Cond.fieldLink RX2 7 "DigitDividerModel" "tables" "[I", Cond.fieldLink RX2 83 "DigitDividerModel" "used" "I", Cond.constantLong RX2 90 (-8), Cond.constantLong RX2 92 (3), Cond.fieldLink RX2 13 "DigitDividerModel" "digits" "[I", Cond.fieldLink RX2 16 "DigitDividerModel" "columns" "[I", Cond.constantLong RX2 94 (16), Cond.methodLink RX2 67 yX2_cellAt, Cond.static yX2_cellAt, Cond.code yX2_cellAt cX2_cellAt 3 (some .int)]
def wsX2_divide : List Cond := .code yX2_divide cX2_divide 3 (some .int) :: ((wsX2_divide_r1 ++ wsX2_divide_r2) ++ wsX20)
def wsX2_quotient : List Cond := .code yX2_quotient cX2_quotient 1 (some .int) :: ([.fieldLink RX2 128 "DigitDividerModel" "quotient" "I"] ++ wsX20)
def wsX2_rest : List Cond := .code yX2_rest cX2_rest 1 (some .int) :: ([.fieldLink RX2 131 "DigitDividerModel" "rest" "I"] ++ wsX20)
def wsX2_left : List Cond := .code yX2_left cX2_left 1 (some .int) :: ([.fieldLink RX2 96 "DigitDividerModel" "left" "I"] ++ wsX20)
def wsX2_step : List Cond := .code yX2_step cX2_step 3 (some .int) :: ([.fieldLink RX2 107 "DigitDividerModel" "n" "I", .fieldLink RX2 13 "DigitDividerModel" "digits" "[I", .fieldLink RX2 16 "DigitDividerModel" "columns" "[I", .methodLink RX2 56 yX2_in, .static yX2_in, .initialized RX2, .code yX2_in cX2_in 3 (some .boolean)] ++ wsX20)
def wsX2_state : List Cond := .code yX2_state cX2_state 3 (some .long) :: ([.fieldLink RX2 103 "DigitDividerModel" "any" "Z", .fieldLink RX2 107 "DigitDividerModel" "n" "I", .fieldLink RX2 19 "DigitDividerModel" "sums" "[J", .fieldLink RX2 23 "DigitDividerModel" "carries" "[J", .fieldLink RX2 26 "DigitDividerModel" "highs" "[J", .fieldLink RX2 29 "DigitDividerModel" "lows" "[J", .methodLink RX2 56 yX2_in, .static yX2_in, .initialized RX2, .code yX2_in cX2_in 3 (some .boolean)] ++ wsX20)
def wsX2_told : List Cond := .code yX2_told cX2_told 4 (some .int) :: ([.fieldLink RX2 107 "DigitDividerModel" "n" "I", .fieldLink RX2 13 "DigitDividerModel" "digits" "[I", .fieldLink RX2 87 "DigitDividerModel" "row" "I", .fieldLink RX2 110 "DigitDividerModel" "ups" "I", .fieldLink RX2 113 "DigitDividerModel" "upt" "I"] ++ wsX20)
def wsX2_keep : List Cond := .code yX2_keep cX2_keep 2 none :: ([.fieldLink RX2 32 "DigitDividerModel" "keptInts" "[I", .fieldLink RX2 13 "DigitDividerModel" "digits" "[I", .fieldLink RX2 16 "DigitDividerModel" "columns" "[I", .fieldLink RX2 35 "DigitDividerModel" "keptLongs" "[J", .fieldLink RX2 19 "DigitDividerModel" "sums" "[J", .fieldLink RX2 23 "DigitDividerModel" "carries" "[J", .fieldLink RX2 26 "DigitDividerModel" "highs" "[J", .fieldLink RX2 29 "DigitDividerModel" "lows" "[J", .fieldLink RX2 107 "DigitDividerModel" "n" "I", .fieldLink RX2 87 "DigitDividerModel" "row" "I", .fieldLink RX2 110 "DigitDividerModel" "ups" "I", .fieldLink RX2 113 "DigitDividerModel" "upt" "I", .fieldLink RX2 96 "DigitDividerModel" "left" "I", .fieldLink RX2 128 "DigitDividerModel" "quotient" "I", .fieldLink RX2 131 "DigitDividerModel" "rest" "I", .fieldLink RX2 103 "DigitDividerModel" "any" "Z"] ++ wsX20)
def wsX2_back : List Cond := .code yX2_back cX2_back 2 none :: ([.fieldLink RX2 13 "DigitDividerModel" "digits" "[I", .fieldLink RX2 32 "DigitDividerModel" "keptInts" "[I", .fieldLink RX2 16 "DigitDividerModel" "columns" "[I", .fieldLink RX2 19 "DigitDividerModel" "sums" "[J", .fieldLink RX2 35 "DigitDividerModel" "keptLongs" "[J", .fieldLink RX2 23 "DigitDividerModel" "carries" "[J", .fieldLink RX2 26 "DigitDividerModel" "highs" "[J", .fieldLink RX2 29 "DigitDividerModel" "lows" "[J", .fieldLink RX2 107 "DigitDividerModel" "n" "I", .fieldLink RX2 87 "DigitDividerModel" "row" "I", .fieldLink RX2 110 "DigitDividerModel" "ups" "I", .fieldLink RX2 113 "DigitDividerModel" "upt" "I", .fieldLink RX2 96 "DigitDividerModel" "left" "I", .fieldLink RX2 128 "DigitDividerModel" "quotient" "I", .fieldLink RX2 131 "DigitDividerModel" "rest" "I", .fieldLink RX2 103 "DigitDividerModel" "any" "Z"] ++ wsX20)
def wsX2_sweep_r1 : List Cond := [Cond.fieldLink RX2 128 "DigitDividerModel" "quotient" "I", Cond.fieldLink RX2 131 "DigitDividerModel" "rest" "I", Cond.methodLink RX2 56 yX2_in, Cond.static yX2_in, Cond.initialized RX2, Cond.code yX2_in cX2_in 3 (some .boolean), Cond.methodLink RX2 138 yX2_keep, Cond.instanceMethod yX2_keep, Cond.selects RX2 yX2_keep yX2_keep, Cond.code yX2_keep cX2_keep 2 none, Cond.fieldLink RX2 32 "DigitDividerModel" "keptInts" "[I", Cond.fieldLink RX2 13 "DigitDividerModel" "digits" "[I", Cond.fieldLink RX2 16 "DigitDividerModel" "columns" "[I", Cond.fieldLink RX2 35 "DigitDividerModel" "keptLongs" "[J", Cond.fieldLink RX2 19 "DigitDividerModel" "sums" "[J", Cond.fieldLink RX2 23 "DigitDividerModel" "carries" "[J", Cond.fieldLink RX2 26 "DigitDividerModel" "highs" "[J", Cond.fieldLink RX2 29 "DigitDividerModel" "lows" "[J", Cond.fieldLink RX2 107 "DigitDividerModel" "n" "I", Cond.fieldLink RX2 87 "DigitDividerModel" "row" "I", Cond.fieldLink RX2 110 "DigitDividerModel" "ups" "I", Cond.fieldLink RX2 113 "DigitDividerModel" "upt" "I", Cond.fieldLink RX2 96 "DigitDividerModel" "left" "I", Cond.fieldLink RX2 103 "DigitDividerModel" "any" "Z"]
def wsX2_sweep_r2 : List Cond := [Cond.methodLink RX2 134 yX2_work, Cond.instanceMethod yX2_work, Cond.selects RX2 yX2_work yX2_work, Cond.code yX2_work cX2_work 17 none, Cond.constantLong RX2 116 (-1), Cond.constantLong RX2 122 (8), Cond.methodLink RX2 99 yX2_sizeOf, Cond.static yX2_sizeOf, Cond.code yX2_sizeOf cX2_sizeOf 1 (some .long), Cond.methodLink RX2 118 yX2_doublings, Cond.static yX2_doublings, Cond.code yX2_doublings cX2_doublings 5 (some .int), Cond.constantLong RX2 77 (2147483648), Cond.constantLong RX2 79 (2), Cond.methodLink RX2 124 yX2_nextDigit, Cond.instanceMethod yX2_nextDigit, Cond.selects RX2 yX2_nextDigit yX2_nextDigit, Cond.code yX2_nextDigit cX2_nextDigit 21 none, Cond.constantLong RX2 81 (4), Cond.fieldLink RX2 7 "DigitDividerModel" "tables" "[I", Cond.fieldLink RX2 83 "DigitDividerModel" "used" "I", Cond.constantLong RX2 90 (-8), Cond.constantLong RX2 92 (3), Cond.constantLong RX2 94 (16)]
def wsX2_sweep_r3 : List Cond := [Cond.methodLink RX2 67 yX2_cellAt, Cond.static yX2_cellAt, Cond.code yX2_cellAt cX2_cellAt 3 (some .int), Cond.methodLink RX2 141 yX2_back, Cond.instanceMethod yX2_back, Cond.selects RX2 yX2_back yX2_back, Cond.code yX2_back cX2_back 2 none]
def wsX2_sweep : List Cond := .code yX2_sweep cX2_sweep 7 (some .int) :: ((wsX2_sweep_r1 ++ (wsX2_sweep_r2 ++ wsX2_sweep_r3)) ++ wsX20)
def wsJ9_abs_067f4 : List Cond := .code yJ9_abs_067f4 cJ9_abs_067f4 2 (some .long) :: ([])
def wsJ9_max_7cf53 : List Cond := .code yJ9_max_7cf53 cJ9_max_7cf53 2 (some .int) :: ([])
def wsJ9_min_7cf53 : List Cond := .code yJ9_min_7cf53 cJ9_min_7cf53 2 (some .int) :: ([])
def wsL_law_r1 : List Cond := [Cond.classLink RL 7 RX1, Cond.instantiable RX1 5, Cond.initialized RX1, Cond.classLink RL 10 RX2, Cond.instantiable RX2 18, Cond.initialized RX2, Cond.methodLink RL 9 yX1_init, Cond.instanceMethod yX1_init, Cond.code yX1_init cX1_init 4 none, Cond.methodLink RX1 3 objectInit, Cond.instanceMethod objectInit, Cond.code objectInit ⟨#[0xb1]⟩ 1 none, Cond.classLink RX1 9 "[[I", Cond.arrayClass .int, Cond.fieldLink RX1 11 "DigitDivider" "tables" "[[I", Cond.fieldLink RX1 14 "DigitDivider" "goodDigits" "[I", Cond.classLink RX1 18 RX0, Cond.instantiable RX0 14, Cond.initialized RX0, Cond.fieldLink RX1 21 "DigitDivider" "latest" "LDigitDivider$Division;", Cond.fieldLink RX1 25 "DigitDivider" "swept" "LDigitDivider$Division;", Cond.fieldLink RX1 28 "DigitDivider" "inUse" "I", Cond.instanceMethod yX0_init, Cond.code yX0_init cX0_init 1 none]
def wsL_law_r2 : List Cond := [Cond.methodLink RX0 3 objectInit, Cond.fieldLink RX0 11 "DigitDivider$Division" "digits" "[I", Cond.fieldLink RX0 15 "DigitDivider$Division" "estimates" "[I", Cond.arrayClass .long, Cond.fieldLink RX0 18 "DigitDivider$Division" "sums" "[J", Cond.fieldLink RX0 22 "DigitDivider$Division" "carries" "[J", Cond.fieldLink RX0 25 "DigitDivider$Division" "qs" "[J", Cond.fieldLink RX0 28 "DigitDivider$Division" "rs" "[J", Cond.fieldLink RX0 31 "DigitDivider$Division" "row" "I", Cond.fieldLink RX0 35 "DigitDivider$Division" "s" "I", Cond.fieldLink RX0 38 "DigitDivider$Division" "t" "I", Cond.fieldLink RX0 41 "DigitDivider$Division" "n" "I", Cond.fieldLink RX0 44 "DigitDivider$Division" "digitsNotZero" "I", Cond.fieldLink RX0 47 "DigitDivider$Division" "firstLeft" "I", Cond.fieldLink RX0 50 "DigitDivider$Division" "quotient" "I", Cond.fieldLink RX0 53 "DigitDivider$Division" "rest" "I", Cond.methodLink RX1 32 yX1_findGoodDigits, Cond.static yX1_findGoodDigits, Cond.code yX1_findGoodDigits cX1_findGoodDigits 4 (some .int), Cond.methodLink RX1 61 yX1_holdsAny, Cond.static yX1_holdsAny, Cond.code yX1_holdsAny cX1_holdsAny 2 (some .boolean), Cond.methodLink RX1 123 yX1_leastDivisor, Cond.static yX1_leastDivisor]
def wsL_law_r3 : List Cond := [Cond.code yX1_leastDivisor cX1_leastDivisor 3 (some .int), Cond.methodLink RX1 118 Lib.Math.max.name, Cond.static Lib.Math.max.name, Cond.initialized "java/lang/Math", Cond.code Lib.Math.max.name Lib.Math.max.code 2 (some .int), Cond.methodLink RX1 126 yX1_endOfDivisors, Cond.static yX1_endOfDivisors, Cond.code yX1_endOfDivisors cX1_endOfDivisors 1 (some .int), Cond.methodLink RX1 114 yX1_staysWithin, Cond.static yX1_staysWithin, Cond.code yX1_staysWithin cX1_staysWithin 11 (some .boolean), Cond.methodLink RX1 36 yX1_madeDigit, Cond.instanceMethod yX1_madeDigit, Cond.selects RX1 yX1_madeDigit yX1_madeDigit, Cond.code yX1_madeDigit cX1_madeDigit 6 (some .int), Cond.fieldLink RX1 111 "DigitDivider" "DIGITS_NEAREST_FIRST" "[I", Cond.methodLink RX1 58 yX1_isGood, Cond.instanceMethod yX1_isGood, Cond.selects RX1 yX1_isGood yX1_isGood, Cond.code yX1_isGood cX1_isGood 3 (some .boolean), Cond.methodLink RL 12 yX2_init, Cond.instanceMethod yX2_init, Cond.code yX2_init cX2_init 3 none, Cond.methodLink RX2 1 objectInit]
def wsL_law_r4 : List Cond := [Cond.fieldLink RX2 7 "DigitDividerModel" "tables" "[I", Cond.fieldLink RX2 13 "DigitDividerModel" "digits" "[I", Cond.fieldLink RX2 16 "DigitDividerModel" "columns" "[I", Cond.fieldLink RX2 19 "DigitDividerModel" "sums" "[J", Cond.fieldLink RX2 23 "DigitDividerModel" "carries" "[J", Cond.fieldLink RX2 26 "DigitDividerModel" "highs" "[J", Cond.fieldLink RX2 29 "DigitDividerModel" "lows" "[J", Cond.fieldLink RX2 32 "DigitDividerModel" "keptInts" "[I", Cond.fieldLink RX2 35 "DigitDividerModel" "keptLongs" "[J", Cond.methodLink RX2 38 yX2_fill, Cond.instanceMethod yX2_fill, Cond.selects RX2 yX2_fill yX2_fill, Cond.code yX2_fill cX2_fill 7 (some .int), Cond.methodLink RX2 52 yX2_madeOf, Cond.static yX2_madeOf, Cond.code yX2_madeOf cX2_madeOf 3 (some .int), Cond.methodLink RX2 49 yX2_isGood, Cond.static yX2_isGood, Cond.code yX2_isGood cX2_isGood 3 (some .boolean), Cond.methodLink RX2 42 yX2_isOver, Cond.static yX2_isOver, Cond.code yX2_isOver cX2_isOver 6 (some .boolean), Cond.methodLink RX2 46 yX2_isUnder, Cond.static yX2_isUnder]
def wsL_law_r5 : List Cond := [Cond.code yX2_isUnder cX2_isUnder 6 (some .boolean), Cond.methodLink RL 13 yX1_digit, Cond.instanceMethod yX1_digit, Cond.selects RX1 yX1_digit yX1_digit, Cond.code yX1_digit cX1_digit 4 (some .int), Cond.methodLink RX1 40 yX1_isTable, Cond.static yX1_isTable, Cond.code yX1_isTable cX1_isTable 1 (some .boolean), Cond.methodLink RX1 44 yX1_isCell, Cond.static yX1_isCell, Cond.code yX1_isCell cX1_isCell 2 (some .boolean), Cond.methodLink RX1 48 yX1_cellAt, Cond.static yX1_cellAt, Cond.code yX1_cellAt cX1_cellAt 2 (some .int), Cond.methodLink RL 17 yX2_digit, Cond.instanceMethod yX2_digit, Cond.selects RX2 yX2_digit yX2_digit, Cond.code yX2_digit cX2_digit 4 (some .int), Cond.methodLink RX2 59 yX2_isTable, Cond.static yX2_isTable, Cond.code yX2_isTable cX2_isTable 1 (some .boolean), Cond.methodLink RX2 56 yX2_in, Cond.static yX2_in, Cond.code yX2_in cX2_in 3 (some .boolean)]
def wsL_law_r6 : List Cond := [Cond.methodLink RX2 63 yX2_isCell, Cond.static yX2_isCell, Cond.code yX2_isCell cX2_isCell 2 (some .boolean), Cond.methodLink RX2 67 yX2_cellAt, Cond.static yX2_cellAt, Cond.code yX2_cellAt cX2_cellAt 3 (some .int), Cond.methodLink RL 18 yX1_set, Cond.instanceMethod yX1_set, Cond.selects RX1 yX1_set yX1_set, Cond.code yX1_set cX1_set 7 (some .int), Cond.methodLink RX1 51 yX1_isDigit, Cond.static yX1_isDigit, Cond.code yX1_isDigit cX1_isDigit 1 (some .boolean), Cond.methodLink RL 22 yX2_set, Cond.instanceMethod yX2_set, Cond.selects RX2 yX2_set yX2_set, Cond.code yX2_set cX2_set 7 (some .int), Cond.methodLink RL 23 yX1_make, Cond.instanceMethod yX1_make, Cond.selects RX1 yX1_make yX1_make, Cond.code yX1_make cX1_make 4 (some .int), Cond.methodLink RX1 54 yX1_replace, Cond.instanceMethod yX1_replace, Cond.selects RX1 yX1_replace yX1_replace]
def wsL_law_r7 : List Cond := [Cond.code yX1_replace cX1_replace 4 (some .int), Cond.methodLink RL 27 yX2_make, Cond.instanceMethod yX2_make, Cond.selects RX2 yX2_make yX2_make, Cond.code yX2_make cX2_make 2 (some .int), Cond.methodLink RL 28 yX1_copy, Cond.instanceMethod yX1_copy, Cond.selects RX1 yX1_copy yX1_copy, Cond.code yX1_copy cX1_copy 5 (some .int), Cond.methodLink RL 32 yX2_copy, Cond.instanceMethod yX2_copy, Cond.selects RX2 yX2_copy yX2_copy, Cond.code yX2_copy cX2_copy 5 (some .int), Cond.methodLink RL 33 yX1_good, Cond.instanceMethod yX1_good, Cond.selects RX1 yX1_good yX1_good, Cond.code yX1_good cX1_good 4 (some .int), Cond.methodLink RL 36 yX2_good, Cond.instanceMethod yX2_good, Cond.selects RX2 yX2_good yX2_good, Cond.code yX2_good cX2_good 4 (some .int), Cond.methodLink RL 37 yX1_holds, Cond.instanceMethod yX1_holds, Cond.selects RX1 yX1_holds yX1_holds]
def wsL_law_r8 : List Cond := [Cond.code yX1_holds cX1_holds 3 (some .int), Cond.methodLink RL 40 yX2_holds, Cond.instanceMethod yX2_holds, Cond.selects RX2 yX2_holds yX2_holds, Cond.code yX2_holds cX2_holds 3 (some .int), Cond.methodLink RX2 71 yX2_isHeld, Cond.static yX2_isHeld, Cond.code yX2_isHeld cX2_isHeld 3 (some .boolean), Cond.methodLink RL 41 yX1_check, Cond.instanceMethod yX1_check, Cond.selects RX1 yX1_check yX1_check, Cond.code yX1_check cX1_check 4 (some .int), Cond.methodLink RL 44 yX2_check, Cond.instanceMethod yX2_check, Cond.selects RX2 yX2_check yX2_check, Cond.code yX2_check cX2_check 4 (some .int), Cond.methodLink RX2 74 yX2_isWrong, Cond.instanceMethod yX2_isWrong, Cond.selects RX2 yX2_isWrong yX2_isWrong, Cond.code yX2_isWrong cX2_isWrong 3 (some .boolean), Cond.methodLink RL 45 yX1_wrong, Cond.instanceMethod yX1_wrong, Cond.selects RX1 yX1_wrong yX1_wrong, Cond.code yX1_wrong cX1_wrong 5 (some .int)]
def wsL_law_r9 : List Cond := [Cond.methodLink RL 48 yX2_wrong, Cond.instanceMethod yX2_wrong, Cond.selects RX2 yX2_wrong yX2_wrong, Cond.code yX2_wrong cX2_wrong 5 (some .int), Cond.methodLink RL 49 yX1_use, Cond.instanceMethod yX1_use, Cond.selects RX1 yX1_use yX1_use, Cond.code yX1_use cX1_use 3 (some .int), Cond.methodLink RL 52 yX2_use, Cond.instanceMethod yX2_use, Cond.selects RX2 yX2_use yX2_use, Cond.code yX2_use cX2_use 3 (some .int), Cond.fieldLink RX2 83 "DigitDividerModel" "used" "I", Cond.methodLink RL 53 yX1_divide, Cond.instanceMethod yX1_divide, Cond.selects RX1 yX1_divide yX1_divide, Cond.code yX1_divide cX1_divide 3 (some .int), Cond.instanceMethod yX0_run, Cond.selects RX0 yX0_run yX0_run, Cond.code yX0_run cX0_run 11 none, Cond.methodLink RX0 56 Lib.MathLoose.abs_long.x, Cond.static Lib.MathLoose.abs_long.x, Cond.code Lib.MathLoose.abs_long.x Lib.MathLoose.abs_long.code 2 (some .long), Cond.methodLink RX0 62 yX0_clear]
def wsL_law_r10 : List Cond := [Cond.instanceMethod yX0_clear, Cond.selects RX0 yX0_clear yX0_clear, Cond.code yX0_clear cX0_clear 1 none, Cond.constantLong RX0 77 (-1), Cond.methodLink RX0 65 yX0_begin, Cond.instanceMethod yX0_begin, Cond.selects RX0 yX0_begin yX0_begin, Cond.code yX0_begin cX0_begin 9 (some .long), Cond.methodLink RX0 83 Lib.Math.min.name, Cond.static Lib.Math.min.name, Cond.code Lib.Math.min.name Lib.Math.min.code 2 (some .int), Cond.constantLong RX0 87 (8), Cond.methodLink RX0 79 yX0_doublings, Cond.static yX0_doublings, Cond.code yX0_doublings cX0_doublings 3 (some .int), Cond.constantLong RX0 89 (4294967296), Cond.methodLink RX0 69 yX0_takeDigit, Cond.instanceMethod yX0_takeDigit, Cond.selects RX0 yX0_takeDigit yX0_takeDigit, Cond.code yX0_takeDigit cX0_takeDigit 14 none, Cond.methodLink RX0 91 Lib.Math.max.name, Cond.constantLong RX0 101 (3), Cond.constantLong RX0 103 (16), Cond.methodLink RX0 97 yX0_writeQuotient]
def wsL_law_r11 : List Cond := [Cond.instanceMethod yX0_writeQuotient, Cond.selects RX0 yX0_writeQuotient yX0_writeQuotient, Cond.code yX0_writeQuotient cX0_writeQuotient 7 none, Cond.constantLong RX0 105 (4), Cond.methodLink RX0 73 yX0_finish, Cond.instanceMethod yX0_finish, Cond.selects RX0 yX0_finish yX0_finish, Cond.code yX0_finish cX0_finish 11 none, Cond.methodLink RL 56 yX2_divide, Cond.instanceMethod yX2_divide, Cond.selects RX2 yX2_divide yX2_divide, Cond.code yX2_divide cX2_divide 3 (some .int), Cond.fieldLink RX2 107 "DigitDividerModel" "n" "I", Cond.methodLink RX2 134 yX2_work, Cond.instanceMethod yX2_work, Cond.selects RX2 yX2_work yX2_work, Cond.code yX2_work cX2_work 17 none, Cond.fieldLink RX2 103 "DigitDividerModel" "any" "Z", Cond.fieldLink RX2 87 "DigitDividerModel" "row" "I", Cond.fieldLink RX2 110 "DigitDividerModel" "ups" "I", Cond.fieldLink RX2 113 "DigitDividerModel" "upt" "I", Cond.fieldLink RX2 96 "DigitDividerModel" "left" "I", Cond.constantLong RX2 116 (-1), Cond.constantLong RX2 122 (8)]
def wsL_law_r12 : List Cond := [Cond.fieldLink RX2 128 "DigitDividerModel" "quotient" "I", Cond.fieldLink RX2 131 "DigitDividerModel" "rest" "I", Cond.methodLink RX2 99 yX2_sizeOf, Cond.static yX2_sizeOf, Cond.code yX2_sizeOf cX2_sizeOf 1 (some .long), Cond.methodLink RX2 118 yX2_doublings, Cond.static yX2_doublings, Cond.code yX2_doublings cX2_doublings 5 (some .int), Cond.constantLong RX2 77 (2147483648), Cond.constantLong RX2 79 (2), Cond.methodLink RX2 124 yX2_nextDigit, Cond.instanceMethod yX2_nextDigit, Cond.selects RX2 yX2_nextDigit yX2_nextDigit, Cond.code yX2_nextDigit cX2_nextDigit 21 none, Cond.constantLong RX2 81 (4), Cond.constantLong RX2 90 (-8), Cond.constantLong RX2 92 (3), Cond.constantLong RX2 94 (16), Cond.methodLink RL 57 yX1_quotient, Cond.instanceMethod yX1_quotient, Cond.selects RX1 yX1_quotient yX1_quotient, Cond.code yX1_quotient cX1_quotient 1 (some .int), Cond.methodLink RL 61 yX2_quotient, Cond.instanceMethod yX2_quotient]
def wsL_law_r13 : List Cond := [Cond.selects RX2 yX2_quotient yX2_quotient, Cond.code yX2_quotient cX2_quotient 1 (some .int), Cond.methodLink RL 62 yX1_rest, Cond.instanceMethod yX1_rest, Cond.selects RX1 yX1_rest yX1_rest, Cond.code yX1_rest cX1_rest 1 (some .int), Cond.methodLink RL 65 yX2_rest, Cond.instanceMethod yX2_rest, Cond.selects RX2 yX2_rest yX2_rest, Cond.code yX2_rest cX2_rest 1 (some .int), Cond.methodLink RL 66 yX1_left, Cond.instanceMethod yX1_left, Cond.selects RX1 yX1_left yX1_left, Cond.code yX1_left cX1_left 1 (some .int), Cond.methodLink RL 69 yX2_left, Cond.instanceMethod yX2_left, Cond.selects RX2 yX2_left yX2_left, Cond.code yX2_left cX2_left 1 (some .int), Cond.methodLink RL 70 yX1_step, Cond.instanceMethod yX1_step, Cond.selects RX1 yX1_step yX1_step, Cond.code yX1_step cX1_step 3 (some .int), Cond.methodLink RL 73 yX2_step, Cond.instanceMethod yX2_step]
def wsL_law_r14 : List Cond := [Cond.selects RX2 yX2_step yX2_step, Cond.code yX2_step cX2_step 3 (some .int), Cond.methodLink RL 74 yX1_state, Cond.instanceMethod yX1_state, Cond.selects RX1 yX1_state yX1_state, Cond.code yX1_state cX1_state 3 (some .long), Cond.methodLink RL 78 yX2_state, Cond.instanceMethod yX2_state, Cond.selects RX2 yX2_state yX2_state, Cond.code yX2_state cX2_state 3 (some .long), Cond.methodLink RL 79 yX1_told, Cond.instanceMethod yX1_told, Cond.selects RX1 yX1_told yX1_told, Cond.code yX1_told cX1_told 2 (some .int), Cond.methodLink RL 82 yX2_told, Cond.instanceMethod yX2_told, Cond.selects RX2 yX2_told yX2_told, Cond.code yX2_told cX2_told 4 (some .int), Cond.methodLink RL 83 yX1_sweep, Cond.instanceMethod yX1_sweep, Cond.selects RX1 yX1_sweep yX1_sweep, Cond.code yX1_sweep cX1_sweep 7 (some .int), Cond.methodLink RL 86 yX2_sweep, Cond.instanceMethod yX2_sweep]
def wsL_law_r15 : List Cond := [Cond.selects RX2 yX2_sweep yX2_sweep, Cond.code yX2_sweep cX2_sweep 7 (some .int), Cond.methodLink RX2 138 yX2_keep, Cond.instanceMethod yX2_keep, Cond.selects RX2 yX2_keep yX2_keep, Cond.code yX2_keep cX2_keep 2 none, Cond.methodLink RX2 141 yX2_back, Cond.instanceMethod yX2_back, Cond.selects RX2 yX2_back yX2_back, Cond.code yX2_back cX2_back 2 none]
def wsL_law : List Cond := (wsL_law_r1 ++ (wsL_law_r2 ++ (wsL_law_r3 ++ (wsL_law_r4 ++ (wsL_law_r5 ++ (wsL_law_r6 ++ (wsL_law_r7 ++ (wsL_law_r8 ++ (wsL_law_r9 ++ (wsL_law_r10 ++ (wsL_law_r11 ++ (wsL_law_r12 ++ (wsL_law_r13 ++ (wsL_law_r14 ++ wsL_law_r15)))))))))))))) ++ wsX10 ++ wsX20 ++ wsX00 ++ ([] : List Cond)
theorem in_fm {big : List Cond} (ws : List Cond) (ps : List Nat) (hp : ws = ps.filterMap (fun i => big[i]?)) : ∀ w ∈ ws, w ∈ big := by
  intro w hw
  rw [hp] at hw
  obtain ⟨i, -, hi⟩ := List.mem_filterMap.mp hw
  first | exact List.mem_of_getElem? hi | exact List.getElem?_mem hi
theorem in_ap {big a b : List Cond} (h1 : ∀ w ∈ a, w ∈ big) (h2 : ∀ w ∈ b, w ∈ big) : ∀ w ∈ a ++ b, w ∈ big := fun w h => (List.mem_append.mp h).elim (h1 w) (h2 w)
set_option maxRecDepth 20000 in
theorem wsL_in_1 : ∀ w ∈ wsL_law_r1, w ∈ lw_tbl := in_fm _ [20, 21, 16, 264, 265, 19, 22, 23, 24, 25, 26, 27, 28, 93, 123, 124, 30, 31, 17, 125, 126, 127, 33, 34] (by decide +kernel)
set_option maxRecDepth 20000 in
theorem wsL_in_2 : ∀ w ∈ wsL_law_r2, w ∈ lw_tbl := in_fm _ [35, 36, 38, 94, 40, 42, 44, 46, 48, 50, 52, 54, 56, 58, 60, 62, 95, 96, 97, 98, 99, 100, 101, 102] (by decide +kernel)
set_option maxRecDepth 20000 in
theorem wsL_in_3 : ∀ w ∈ wsL_law_r3, w ∈ lw_tbl := in_fm _ [103, 104, 105, 18, 106, 107, 108, 109, 110, 111, 112, 113, 115, 0, 116, 117, 119, 121, 1, 122, 266, 267, 268, 269] (by decide +kernel)
set_option maxRecDepth 20000 in
theorem wsL_in_4 : ∀ w ∈ wsL_law_r4, w ∈ lw_tbl := in_fm _ [286, 296, 297, 298, 299, 300, 301, 302, 303, 270, 272, 9, 273, 274, 275, 276, 277, 278, 279, 280, 281, 282, 283, 284] (by decide +kernel)
set_option maxRecDepth 20000 in
theorem wsL_in_5 : ∀ w ∈ wsL_law_r5, w ∈ lw_tbl := in_fm _ [285, 139, 140, 141, 142, 143, 144, 145, 146, 147, 148, 149, 150, 151, 341, 342, 343, 344, 345, 346, 347, 348, 349, 350] (by decide +kernel)
set_option maxRecDepth 20000 in
theorem wsL_in_6 : ∀ w ∈ wsL_law_r6, w ∈ lw_tbl := in_fm _ [351, 352, 353, 354, 355, 356, 152, 153, 154, 155, 156, 157, 158, 357, 358, 359, 360, 159, 160, 161, 162, 163, 165, 2] (by decide +kernel)
set_option maxRecDepth 20000 in
theorem wsL_in_7 : ∀ w ∈ wsL_law_r7, w ∈ lw_tbl := in_fm _ [166, 361, 362, 363, 364, 167, 168, 169, 170, 365, 366, 367, 368, 171, 172, 173, 174, 369, 370, 371, 372, 175, 176, 177] (by decide +kernel)
set_option maxRecDepth 20000 in
theorem wsL_in_8 : ∀ w ∈ wsL_law_r8, w ∈ lw_tbl := in_fm _ [178, 373, 374, 375, 376, 377, 378, 379, 179, 180, 181, 182, 380, 381, 382, 383, 384, 386, 10, 387, 183, 184, 185, 186] (by decide +kernel)
set_option maxRecDepth 20000 in
theorem wsL_in_9 : ∀ w ∈ wsL_law_r9, w ∈ lw_tbl := in_fm _ [388, 389, 390, 391, 187, 188, 189, 190, 392, 393, 394, 395, 287, 191, 192, 193, 194, 197, 3, 198, 199, 200, 201, 202] (by decide +kernel)
set_option maxRecDepth 20000 in
theorem wsL_in_10 : ∀ w ∈ wsL_law_r10, w ∈ lw_tbl := in_fm _ [204, 4, 205, 206, 207, 209, 5, 210, 215, 216, 217, 218, 211, 212, 213, 214, 219, 221, 6, 222, 223, 230, 231, 225] (by decide +kernel)
set_option maxRecDepth 20000 in
theorem wsL_in_11 : ∀ w ∈ wsL_law_r11, w ∈ lw_tbl := in_fm _ [227, 7, 228, 229, 232, 234, 8, 235, 396, 397, 398, 399, 288, 400, 402, 11, 403, 295, 289, 290, 291, 292, 407, 413] (by decide +kernel)
set_option maxRecDepth 20000 in
theorem wsL_in_12 : ∀ w ∈ wsL_law_r12, w ∈ lw_tbl := in_fm _ [293, 294, 404, 405, 406, 408, 409, 410, 411, 412, 414, 416, 12, 417, 418, 419, 420, 421, 236, 237, 238, 239, 422, 423] (by decide +kernel)
set_option maxRecDepth 20000 in
theorem wsL_in_13 : ∀ w ∈ wsL_law_r13, w ∈ lw_tbl := in_fm _ [424, 425, 240, 241, 242, 243, 426, 427, 428, 429, 244, 245, 246, 247, 430, 431, 432, 433, 248, 249, 250, 251, 434, 435] (by decide +kernel)
set_option maxRecDepth 20000 in
theorem wsL_in_14 : ∀ w ∈ wsL_law_r14, w ∈ lw_tbl := in_fm _ [436, 437, 252, 253, 254, 255, 438, 439, 440, 441, 256, 257, 258, 259, 442, 443, 444, 445, 260, 261, 262, 263, 446, 447] (by decide +kernel)
set_option maxRecDepth 20000 in
theorem wsL_in_15 : ∀ w ∈ wsL_law_r15, w ∈ lw_tbl := in_fm _ [448, 449, 450, 452, 13, 453, 454, 456, 14, 457] (by decide +kernel)
set_option maxRecDepth 20000 in
theorem wsL_in_X0 : ∀ w ∈ wsX00, w ∈ lw_tbl := in_fm _ [64, 66, 68, 70, 72, 74, 76, 78, 80, 82, 84, 86, 88, 90] (by decide +kernel)
set_option maxRecDepth 20000 in
theorem wsL_in_X1 : ∀ w ∈ wsX10, w ∈ lw_tbl := in_fm _ [128, 130, 132, 134, 136] (by decide +kernel)
set_option maxRecDepth 20000 in
theorem wsL_in_X2 : ∀ w ∈ wsX20, w ∈ lw_tbl := in_fm _ [304, 306, 308, 310, 312, 314, 316, 318, 320, 322, 324, 326, 328, 330, 332, 334, 336, 338] (by decide +kernel)
theorem wsL_law_in : ∀ w ∈ wsL_law, w ∈ lw_tbl := in_ap (in_ap (in_ap (in_ap (in_ap wsL_in_1 (in_ap wsL_in_2 (in_ap wsL_in_3 (in_ap wsL_in_4 (in_ap wsL_in_5 (in_ap wsL_in_6 (in_ap wsL_in_7 (in_ap wsL_in_8 (in_ap wsL_in_9 (in_ap wsL_in_10 (in_ap wsL_in_11 (in_ap wsL_in_12 (in_ap wsL_in_13 (in_ap wsL_in_14 wsL_in_15)))))))))))))) wsL_in_X1) wsL_in_X2) wsL_in_X0) (fun _ h => absurd h List.not_mem_nil)
theorem inlX0 : ∀ w ∈ wsX00, w ∈ wsL_law := fun _ h => List.mem_append_left _ (List.mem_append_right _ h)
theorem inX0 : ∀ w ∈ wsX00, w ∈ lw_tbl := fun w h => wsL_law_in w (inlX0 w h)
theorem inlX1 : ∀ w ∈ wsX10, w ∈ wsL_law := fun _ h => List.mem_append_left _ (List.mem_append_left _ (List.mem_append_left _ (List.mem_append_right _ h)))
theorem inX1 : ∀ w ∈ wsX10, w ∈ lw_tbl := fun w h => wsL_law_in w (inlX1 w h)
theorem inlX2 : ∀ w ∈ wsX20, w ∈ wsL_law := fun _ h => List.mem_append_left _ (List.mem_append_left _ (List.mem_append_right _ h))
theorem inX2 : ∀ w ∈ wsX20, w ∈ lw_tbl := fun w h => wsL_law_in w (inlX2 w h)
theorem inJ9 : ∀ w ∈ wsJ90, w ∈ lw_tbl := by decide +kernel
abbrev vwCl : List vw_C := [(RX0, TX0, 14), (RX1, TX1, 5), (RX2, TX2, 18)]
