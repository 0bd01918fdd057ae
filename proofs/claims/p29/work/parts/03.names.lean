def RX0 : String := "TrickFinder$Functions"
def TX0 : u_T := fun k => match k with
  | _ => ("", "", "", false)
def tyX0 : Nat → FieldType := fun k => match k with
  | _ => .int
abbrev wsX00 : List Cond := u_ws RX0 TX0 0
theorem nmX0 : ∀ a, a < 0 → ∀ b, b < 0 → a ≠ b → (TX0 a).2.1 ≠ (TX0 b).2.1 := by decide +kernel
theorem tyX0_ok : ∀ k, k < 0 → parseFieldDescriptor (TX0 k).2.2.1 = some (tyX0 k) := by decide +kernel
abbrev cX0_valueAt : ByteArray := prog_2_method_2_code
def yX0_valueAt : MethodName := ⟨RX0, "valueAt", "(JI)I"⟩
abbrev cX0_constant : ByteArray := prog_2_method_3_code
def yX0_constant : MethodName := ⟨RX0, "constant", "(I)J"⟩
abbrev cX0_made : ByteArray := prog_2_method_4_code
def yX0_made : MethodName := ⟨RX0, "made", "(IJJ)J"⟩
abbrev cX0_twice : ByteArray := prog_2_method_5_code
def yX0_twice : MethodName := ⟨RX0, "twice", "(J)J"⟩
abbrev cX0_sum : ByteArray := prog_2_method_6_code
def yX0_sum : MethodName := ⟨RX0, "sum", "(JJ)J"⟩
abbrev cX0_difference : ByteArray := prog_2_method_7_code
def yX0_difference : MethodName := ⟨RX0, "difference", "(JJ)J"⟩
abbrev cX0_product : ByteArray := prog_2_method_8_code
def yX0_product : MethodName := ⟨RX0, "product", "(JJ)J"⟩
abbrev cX0_after : ByteArray := prog_2_method_9_code
def yX0_after : MethodName := ⟨RX0, "after", "(JJ)J"⟩
abbrev cX0_inverseOf : ByteArray := prog_2_method_10_code
def yX0_inverseOf : MethodName := ⟨RX0, "inverseOf", "(J)J"⟩
abbrev cX0_countDifferences : ByteArray := prog_2_method_11_code
def yX0_countDifferences : MethodName := ⟨RX0, "countDifferences", "(JJ)I"⟩
abbrev cX0_countValues : ByteArray := prog_2_method_12_code
def yX0_countValues : MethodName := ⟨RX0, "countValues", "(J)I"⟩
abbrev cX0_image : ByteArray := prog_2_method_13_code
def yX0_image : MethodName := ⟨RX0, "image", "(JI)I"⟩
abbrev cX0_returningInputs : ByteArray := prog_2_method_14_code
def yX0_returningInputs : MethodName := ⟨RX0, "returningInputs", "(J)I"⟩
abbrev cX0_stepsToReturning : ByteArray := prog_2_method_15_code
def yX0_stepsToReturning : MethodName := ⟨RX0, "stepsToReturning", "(J)I"⟩
abbrev cX0_maskOf : ByteArray := prog_2_method_19_code
def yX0_maskOf : MethodName := ⟨RX0, "maskOf", "(I)J"⟩
def RX1 : String := "TrickFinder$Paper"
def TX1 : u_T := fun k => match k with
  | 0 => ("TrickFinder$Paper", "length", "I", false)
  | _ => ("TrickFinder$Paper", "bytes", "[I", true)
def tyX1 : Nat → FieldType := fun k => match k with
  | 0 => .int
  | _ => .array .int
abbrev wsX10 : List Cond := u_ws RX1 TX1 2
theorem nmX1 : ∀ a, a < 2 → ∀ b, b < 2 → a ≠ b → (TX1 a).2.1 ≠ (TX1 b).2.1 := by decide +kernel
theorem tyX1_ok : ∀ k, k < 2 → parseFieldDescriptor (TX1 k).2.2.1 = some (tyX1 k) := by decide +kernel
abbrev cX1_init : ByteArray := prog_3_method_1_code
def yX1_init : MethodName := ⟨RX1, "<init>", "()V"⟩
def RX2 : String := "TrickFinder$Row"
def TX2 : u_T := fun k => match k with
  | 0 => ("TrickFinder$Row", "count", "I", false)
  | 1 => ("TrickFinder$Row", "functions", "[J", true)
  | 2 => ("TrickFinder$Row", "operations", "[I", true)
  | 3 => ("TrickFinder$Row", "firsts", "[I", true)
  | 4 => ("TrickFinder$Row", "seconds", "[I", true)
  | 5 => ("TrickFinder$Row", "starts", "[I", true)
  | 6 => ("TrickFinder$Row", "slots", "[I", true)
  | _ => ("TrickFinder$Row", "partsFound", "[I", true)
def tyX2 : Nat → FieldType := fun k => match k with
  | 0 => .int
  | 1 => .array .long
  | 2 => .array .int
  | 3 => .array .int
  | 4 => .array .int
  | 5 => .array .int
  | 6 => .array .int
  | _ => .array .int
abbrev wsX20 : List Cond := u_ws RX2 TX2 8
theorem nmX2 : ∀ a, a < 8 → ∀ b, b < 8 → a ≠ b → (TX2 a).2.1 ≠ (TX2 b).2.1 := by decide +kernel
theorem tyX2_ok : ∀ k, k < 8 → parseFieldDescriptor (TX2 k).2.2.1 = some (tyX2 k) := by decide +kernel
abbrev cX2_init : ByteArray := prog_4_method_1_code
def yX2_init : MethodName := ⟨RX2, "<init>", "()V"⟩
abbrev cX2_has : ByteArray := prog_4_method_2_code
def yX2_has : MethodName := ⟨RX2, "has", "(I)Z"⟩
abbrev cX2_isFull : ByteArray := prog_4_method_3_code
def yX2_isFull : MethodName := ⟨RX2, "isFull", "()Z"⟩
abbrev cX2_make : ByteArray := prog_4_method_4_code
def yX2_make : MethodName := ⟨RX2, "make", "(ILTrickFinder$Settings;)V"⟩
abbrev cX2_makeCost : ByteArray := prog_4_method_5_code
def yX2_makeCost : MethodName := ⟨RX2, "makeCost", "(ILTrickFinder$Settings;)V"⟩
abbrev cX2_addConstants : ByteArray := prog_4_method_6_code
def yX2_addConstants : MethodName := ⟨RX2, "addConstants", "(LTrickFinder$Settings;)V"⟩
abbrev cX2_addOfOne : ByteArray := prog_4_method_7_code
def yX2_addOfOne : MethodName := ⟨RX2, "addOfOne", "(II)V"⟩
abbrev cX2_addOfTwo : ByteArray := prog_4_method_8_code
def yX2_addOfTwo : MethodName := ⟨RX2, "addOfTwo", "(II)V"⟩
abbrev cX2_add : ByteArray := prog_4_method_9_code
def yX2_add : MethodName := ⟨RX2, "add", "(JIII)V"⟩
abbrev cX2_slotOf : ByteArray := prog_4_method_10_code
def yX2_slotOf : MethodName := ⟨RX2, "slotOf", "(J)I"⟩
abbrev cX2_entryWith : ByteArray := prog_4_method_11_code
def yX2_entryWith : MethodName := ⟨RX2, "entryWith", "(J)I"⟩
abbrev cX2_firstAlike : ByteArray := prog_4_method_12_code
def yX2_firstAlike : MethodName := ⟨RX2, "firstAlike", "(JJ)I"⟩
abbrev cX2_firstNearest : ByteArray := prog_4_method_13_code
def yX2_firstNearest : MethodName := ⟨RX2, "firstNearest", "(J)I"⟩
abbrev cX2_countOfCost : ByteArray := prog_4_method_14_code
def yX2_countOfCost : MethodName := ⟨RX2, "countOfCost", "(I)I"⟩
abbrev cX2_costOf : ByteArray := prog_4_method_15_code
def yX2_costOf : MethodName := ⟨RX2, "costOf", "(I)I"⟩
abbrev cX2_sumOfCosts : ByteArray := prog_4_method_16_code
def yX2_sumOfCosts : MethodName := ⟨RX2, "sumOfCosts", "()I"⟩
def RX3 : String := "TrickFinder$Settings"
def TX3 : u_T := fun k => match k with
  | 0 => ("TrickFinder$Settings", "prices", "[I", true)
  | 1 => ("TrickFinder$Settings", "isAllowed", "[Z", true)
  | _ => ("TrickFinder$Settings", "isConstantAllowed", "[Z", true)
def tyX3 : Nat → FieldType := fun k => match k with
  | 0 => .array .int
  | 1 => .array .boolean
  | _ => .array .boolean
abbrev wsX30 : List Cond := u_ws RX3 TX3 3
theorem nmX3 : ∀ a, a < 3 → ∀ b, b < 3 → a ≠ b → (TX3 a).2.1 ≠ (TX3 b).2.1 := by decide +kernel
theorem tyX3_ok : ∀ k, k < 3 → parseFieldDescriptor (TX3 k).2.2.1 = some (tyX3 k) := by decide +kernel
abbrev cX3_init : ByteArray := prog_5_method_1_code
def yX3_init : MethodName := ⟨RX3, "<init>", "()V"⟩
abbrev cX3_priceOfConstants : ByteArray := prog_5_method_2_code
def yX3_priceOfConstants : MethodName := ⟨RX3, "priceOfConstants", "()I"⟩
def RX4 : String := "TrickFinder$Tape"
def TX4 : u_T := fun k => match k with
  | 0 => ("TrickFinder$Tape", "length", "I", false)
  | 1 => ("TrickFinder$Tape", "lastFormula", "J", false)
  | 2 => ("TrickFinder$Tape", "bytes", "[I", true)
  | 3 => ("TrickFinder$Tape", "place", "I", false)
  | _ => ("TrickFinder$Tape", "error", "I", false)
def tyX4 : Nat → FieldType := fun k => match k with
  | 0 => .int
  | 1 => .long
  | 2 => .array .int
  | 3 => .int
  | _ => .int
abbrev wsX40 : List Cond := u_ws RX4 TX4 5
theorem nmX4 : ∀ a, a < 5 → ∀ b, b < 5 → a ≠ b → (TX4 a).2.1 ≠ (TX4 b).2.1 := by decide +kernel
theorem tyX4_ok : ∀ k, k < 5 → parseFieldDescriptor (TX4 k).2.2.1 = some (tyX4 k) := by decide +kernel
abbrev cX4_init : ByteArray := prog_6_method_1_code
def yX4_init : MethodName := ⟨RX4, "<init>", "()V"⟩
def RX5 : String := "TrickFinder"
def TX5 : u_T := fun k => match k with
  | 0 => ("TrickFinder", "settings", "LTrickFinder$Settings;", true)
  | 1 => ("TrickFinder", "row", "LTrickFinder$Row;", true)
  | 2 => ("TrickFinder", "paper", "LTrickFinder$Paper;", true)
  | _ => ("TrickFinder", "tape", "LTrickFinder$Tape;", true)
def tyX5 : Nat → FieldType := fun k => match k with
  | 0 => .object "TrickFinder$Settings"
  | 1 => .object "TrickFinder$Row"
  | 2 => .object "TrickFinder$Paper"
  | _ => .object "TrickFinder$Tape"
abbrev wsX50 : List Cond := u_ws RX5 TX5 4
theorem nmX5 : ∀ a, a < 4 → ∀ b, b < 4 → a ≠ b → (TX5 a).2.1 ≠ (TX5 b).2.1 := by decide +kernel
theorem tyX5_ok : ∀ k, k < 4 → parseFieldDescriptor (TX5 k).2.2.1 = some (tyX5 k) := by decide +kernel
abbrev cX5_init : ByteArray := prog_1_method_1_code
def yX5_init : MethodName := ⟨RX5, "<init>", "()V"⟩
abbrev cX5_allow : ByteArray := prog_1_method_2_code
def yX5_allow : MethodName := ⟨RX5, "allow", "(IZ)I"⟩
abbrev cX5_setPrice : ByteArray := prog_1_method_3_code
def yX5_setPrice : MethodName := ⟨RX5, "setPrice", "(II)I"⟩
abbrev cX5_setConstant : ByteArray := prog_1_method_4_code
def yX5_setConstant : MethodName := ⟨RX5, "setConstant", "(IZ)I"⟩
abbrev cX5_compose : ByteArray := prog_1_method_7_code
def yX5_compose : MethodName := ⟨RX5, "compose", "(JJ)J"⟩
abbrev cX5_inverse : ByteArray := prog_1_method_8_code
def yX5_inverse : MethodName := ⟨RX5, "inverse", "(J)J"⟩
abbrev cX5_measure : ByteArray := prog_1_method_9_code
def yX5_measure : MethodName := ⟨RX5, "measure", "(JI)I"⟩
abbrev cX5_search : ByteArray := prog_1_method_11_code
def yX5_search : MethodName := ⟨RX5, "search", "(I)I"⟩
abbrev cX5_ofCost : ByteArray := prog_1_method_13_code
def yX5_ofCost : MethodName := ⟨RX5, "ofCost", "(I)I"⟩
abbrev cX5_function : ByteArray := prog_1_method_14_code
def yX5_function : MethodName := ⟨RX5, "function", "(I)J"⟩
abbrev cX5_entry : ByteArray := prog_1_method_15_code
def yX5_entry : MethodName := ⟨RX5, "entry", "(II)I"⟩
abbrev cX5_find : ByteArray := prog_1_method_16_code
def yX5_find : MethodName := ⟨RX5, "find", "(J)I"⟩
abbrev cX5_fit : ByteArray := prog_1_method_17_code
def yX5_fit : MethodName := ⟨RX5, "fit", "(JI)I"⟩
abbrev cX5_near : ByteArray := prog_1_method_18_code
def yX5_near : MethodName := ⟨RX5, "near", "(J)I"⟩
abbrev cX5_meanCost : ByteArray := prog_1_method_20_code
def yX5_meanCost : MethodName := ⟨RX5, "meanCost", "()D"⟩
abbrev cX5_isOperation : ByteArray := prog_1_method_29_code
def yX5_isOperation : MethodName := ⟨RX5, "isOperation", "(I)Z"⟩
abbrev cX5_isInput : ByteArray := prog_1_method_30_code
def yX5_isInput : MethodName := ⟨RX5, "isInput", "(I)Z"⟩
abbrev cX5_isCost : ByteArray := prog_1_method_31_code
def yX5_isCost : MethodName := ⟨RX5, "isCost", "(I)Z"⟩
abbrev cX5_hasTwoArguments : ByteArray := prog_1_method_32_code
def yX5_hasTwoArguments : MethodName := ⟨RX5, "hasTwoArguments", "(I)Z"⟩
abbrev cX5_countOn : ByteArray := prog_1_method_33_code
def yX5_countOn : MethodName := ⟨RX5, "countOn", "([Z)I"⟩
def RX6 : String := "TrickFinderModel"
def TX6 : u_T := fun k => match k with
  | _ => ("", "", "", false)
def tyX6 : Nat → FieldType := fun k => match k with
  | _ => .int
abbrev wsX60 : List Cond := u_ws RX6 TX6 0
theorem nmX6 : ∀ a, a < 0 → ∀ b, b < 0 → a ≠ b → (TX6 a).2.1 ≠ (TX6 b).2.1 := by decide +kernel
theorem tyX6_ok : ∀ k, k < 0 → parseFieldDescriptor (TX6 k).2.2.1 = some (tyX6 k) := by decide +kernel
def RJx145de : String := "java/io/Serializable"
def TJx145de : u_T := fun k => match k with
  | _ => ("", "", "", false)
def tyJx145de : Nat → FieldType := fun k => match k with
  | _ => .int
abbrev wsJx145de0 : List Cond := u_ws RJx145de TJx145de 0
theorem nmJx145de : ∀ a, a < 0 → ∀ b, b < 0 → a ≠ b → (TJx145de a).2.1 ≠ (TJx145de b).2.1 := by decide +kernel
theorem tyJx145de_ok : ∀ k, k < 0 → parseFieldDescriptor (TJx145de k).2.2.1 = some (tyJx145de k) := by decide +kernel
def RJ6 : String := "java/lang/Integer"
def TJ6 : u_T := fun k => match k with
  | _ => ("", "", "", false)
def tyJ6 : Nat → FieldType := fun k => match k with
  | _ => .int
abbrev wsJ60 : List Cond := u_ws RJ6 TJ6 0
theorem nmJ6 : ∀ a, a < 0 → ∀ b, b < 0 → a ≠ b → (TJ6 a).2.1 ≠ (TJ6 b).2.1 := by decide +kernel
theorem tyJ6_ok : ∀ k, k < 0 → parseFieldDescriptor (TJ6 k).2.2.1 = some (tyJ6 k) := by decide +kernel
abbrev cJ6_bitCount_0f7a4 : ByteArray := prog_13_method_49_code
def yJ6_bitCount_0f7a4 : MethodName := ⟨RJ6, "bitCount", "(I)I"⟩
def RJ13 : String := "java/lang/Long"
def TJ13 : u_T := fun k => match k with
  | _ => ("", "", "", false)
def tyJ13 : Nat → FieldType := fun k => match k with
  | _ => .int
abbrev wsJ130 : List Cond := u_ws RJ13 TJ13 0
theorem nmJ13 : ∀ a, a < 0 → ∀ b, b < 0 → a ≠ b → (TJ13 a).2.1 ≠ (TJ13 b).2.1 := by decide +kernel
theorem tyJ13_ok : ∀ k, k < 0 → parseFieldDescriptor (TJ13 k).2.2.1 = some (tyJ13 k) := by decide +kernel
abbrev cJ13_bitCount_95d88 : ByteArray := prog_14_method_50_code
def yJ13_bitCount_95d88 : MethodName := ⟨RJ13, "bitCount", "(J)I"⟩
def RJ0 : String := "java/lang/String"
def TJ0 : u_T := fun k => match k with
  | _ => ("", "", "", false)
def tyJ0 : Nat → FieldType := fun k => match k with
  | _ => .int
abbrev wsJ00 : List Cond := u_ws RJ0 TJ0 0
theorem nmJ0 : ∀ a, a < 0 → ∀ b, b < 0 → a ≠ b → (TJ0 a).2.1 ≠ (TJ0 b).2.1 := by decide +kernel
theorem tyJ0_ok : ∀ k, k < 0 → parseFieldDescriptor (TJ0 k).2.2.1 = some (tyJ0 k) := by decide +kernel
def RJ7 : String := "java/util/Arrays"
def TJ7 : u_T := fun k => match k with
  | _ => ("", "", "", false)
def tyJ7 : Nat → FieldType := fun k => match k with
  | _ => .int
abbrev wsJ70 : List Cond := u_ws RJ7 TJ7 0
theorem nmJ7 : ∀ a, a < 0 → ∀ b, b < 0 → a ≠ b → (TJ7 a).2.1 ≠ (TJ7 b).2.1 := by decide +kernel
theorem tyJ7_ok : ∀ k, k < 0 → parseFieldDescriptor (TJ7 k).2.2.1 = some (tyJ7 k) := by decide +kernel
abbrev cJ7_fill_53178 : ByteArray := prog_18_method_103_code
def yJ7_fill_53178 : MethodName := ⟨RJ7, "fill", "([II)V"⟩
def RL : String := "TrickFinderLaw"
abbrev cL_below : ByteArray := method_2_code
def yL_below : MethodName := ⟨RL, "below", "(II)I"⟩
abbrev cL_cell : ByteArray := method_3_code
def yL_cell : MethodName := ⟨RL, "cell", "([II)I"⟩
abbrev cL_chosen : ByteArray := method_4_code
def yL_chosen : MethodName := ⟨RL, "chosen", "([II)J"⟩
abbrev cL_law : ByteArray := code
def yL_law : MethodName := ⟨RL, "law", "([I)Z"⟩
def wsX0_valueAt : List Cond := .code yX0_valueAt cX0_valueAt 3 (some .int) :: ([])
def wsX0_constant : List Cond := .code yX0_constant cX0_constant 1 (some .long) :: ([.constantLong RX0 11 (1229782938247303441)])
def wsX0_difference : List Cond := .code yX0_difference cX0_difference 4 (some .long) :: ([.constantLong RX0 31 (-8608480567731124088), .constantLong RX0 23 (8608480567731124087), .constantLong RX0 13 (-1)])
def wsX0_twice : List Cond := .code yX0_twice cX0_twice 2 (some .long) :: ([.constantLong RX0 23 (8608480567731124087)])
def wsX0_sum : List Cond := .code yX0_sum cX0_sum 4 (some .long) :: ([.constantLong RX0 23 (8608480567731124087), .constantLong RX0 31 (-8608480567731124088)])
def wsX0_product : List Cond := .code yX0_product cX0_product 11 (some .long) :: ([.constantLong RX0 11 (1229782938247303441), .constantLong RX0 33 (15), .methodLink RX0 25 yX0_sum, .static yX0_sum, .initialized RX0, .code yX0_sum cX0_sum 4 (some .long), .constantLong RX0 23 (8608480567731124087), .constantLong RX0 31 (-8608480567731124088), .methodLink RX0 19 yX0_twice, .static yX0_twice, .code yX0_twice cX0_twice 2 (some .long)])
def wsX0_made : List Cond := .code yX0_made cX0_made 5 (some .long) :: ([.constantLong RX0 13 (-1), .constantLong RX0 23 (8608480567731124087), .methodLink RX0 15 yX0_difference, .static yX0_difference, .initialized RX0, .code yX0_difference cX0_difference 4 (some .long), .constantLong RX0 31 (-8608480567731124088), .methodLink RX0 19 yX0_twice, .static yX0_twice, .code yX0_twice cX0_twice 2 (some .long), .methodLink RX0 25 yX0_sum, .static yX0_sum, .code yX0_sum cX0_sum 4 (some .long), .methodLink RX0 28 yX0_product, .static yX0_product, .code yX0_product cX0_product 11 (some .long), .constantLong RX0 11 (1229782938247303441), .constantLong RX0 33 (15)])
def wsX0_after : List Cond := .code yX0_after cX0_after 7 (some .long) :: ([.methodLink RX0 35 yX0_valueAt, .static yX0_valueAt, .initialized RX0, .code yX0_valueAt cX0_valueAt 3 (some .int)])
def wsX0_inverseOf : List Cond := .code yX0_inverseOf cX0_inverseOf 5 (some .long) :: ([.methodLink RX0 35 yX0_valueAt, .static yX0_valueAt, .initialized RX0, .code yX0_valueAt cX0_valueAt 3 (some .int)])
def wsJ13_bitCount_95d88 : List Cond := .code yJ13_bitCount_95d88 cJ13_bitCount_95d88 2 (some .int) :: ([.constantLong RJ13 314 (6148914691236517205), .constantLong RJ13 316 (3689348814741910323), .constantLong RJ13 318 (1085102592571150095)])
def wsX0_countDifferences : List Cond := .code yX0_countDifferences cX0_countDifferences 6 (some .int) :: ([.constantLong RX0 11 (1229782938247303441), .methodLink RX0 39 yJ13_bitCount_95d88, .static yJ13_bitCount_95d88, .initialized RJ13, .code yJ13_bitCount_95d88 cJ13_bitCount_95d88 2 (some .int), .constantLong RJ13 314 (6148914691236517205), .constantLong RJ13 316 (3689348814741910323), .constantLong RJ13 318 (1085102592571150095)])
def wsX0_image : List Cond := .code yX0_image cX0_image 5 (some .int) :: ([.methodLink RX0 35 yX0_valueAt, .static yX0_valueAt, .initialized RX0, .code yX0_valueAt cX0_valueAt 3 (some .int)])
def wsJ6_bitCount_0f7a4 : List Cond := .code yJ6_bitCount_0f7a4 cJ6_bitCount_0f7a4 1 (some .int) :: ([.constant RJ6 265 (1431655765), .constant RJ6 266 (858993459), .constant RJ6 267 (252645135)])
def wsX0_countValues : List Cond := .code yX0_countValues cX0_countValues 2 (some .int) :: ([.constant RX0 45 (65535), .methodLink RX0 46 yX0_image, .static yX0_image, .initialized RX0, .code yX0_image cX0_image 5 (some .int), .methodLink RX0 35 yX0_valueAt, .static yX0_valueAt, .code yX0_valueAt cX0_valueAt 3 (some .int), .methodLink RX0 49 yJ6_bitCount_0f7a4, .static yJ6_bitCount_0f7a4, .initialized RJ6, .code yJ6_bitCount_0f7a4 cJ6_bitCount_0f7a4 1 (some .int), .constant RJ6 265 (1431655765), .constant RJ6 266 (858993459), .constant RJ6 267 (252645135)])
def wsX0_returningInputs : List Cond := .code yX0_returningInputs cX0_returningInputs 4 (some .int) :: ([.constant RX0 45 (65535), .methodLink RX0 46 yX0_image, .static yX0_image, .initialized RX0, .code yX0_image cX0_image 5 (some .int), .methodLink RX0 35 yX0_valueAt, .static yX0_valueAt, .code yX0_valueAt cX0_valueAt 3 (some .int)])
def wsX0_stepsToReturning : List Cond := .code yX0_stepsToReturning cX0_stepsToReturning 5 (some .int) :: ([.constant RX0 45 (65535), .methodLink RX0 54 yX0_returningInputs, .static yX0_returningInputs, .initialized RX0, .code yX0_returningInputs cX0_returningInputs 4 (some .int), .methodLink RX0 46 yX0_image, .static yX0_image, .code yX0_image cX0_image 5 (some .int), .methodLink RX0 35 yX0_valueAt, .static yX0_valueAt, .code yX0_valueAt cX0_valueAt 3 (some .int)])
def wsX0_maskOf : List Cond := .code yX0_maskOf cX0_maskOf 4 (some .long) :: ([.constantLong RX0 33 (15)])
def wsX1_init : List Cond := .code yX1_init cX1_init 1 none :: ([.methodLink RX1 3 objectInit, .instanceMethod objectInit, .code objectInit ⟨#[0xb1]⟩ 1 none, .arrayClass .int, .fieldLink RX1 11 "TrickFinder$Paper" "bytes" "[I"] ++ wsX10)
def wsJ7_fill_53178 : List Cond := .code yJ7_fill_53178 cJ7_fill_53178 4 none :: ([])
def wsX2_init : List Cond := .code yX2_init cX2_init 1 none :: ([.methodLink RX2 3 objectInit, .instanceMethod objectInit, .code objectInit ⟨#[0xb1]⟩ 1 none, .arrayClass .long, .fieldLink RX2 11 "TrickFinder$Row" "functions" "[J", .arrayClass .int, .fieldLink RX2 15 "TrickFinder$Row" "operations" "[I", .fieldLink RX2 19 "TrickFinder$Row" "firsts" "[I", .fieldLink RX2 22 "TrickFinder$Row" "seconds" "[I", .fieldLink RX2 25 "TrickFinder$Row" "starts" "[I", .fieldLink RX2 28 "TrickFinder$Row" "slots" "[I", .fieldLink RX2 31 "TrickFinder$Row" "partsFound" "[I", .methodLink RX2 34 yJ7_fill_53178, .static yJ7_fill_53178, .initialized RJ7, .code yJ7_fill_53178 cJ7_fill_53178 4 none] ++ wsX20)
def wsX2_has : List Cond := .code yX2_has cX2_has 2 (some .boolean) :: ([.fieldLink RX2 40 "TrickFinder$Row" "count" "I"] ++ wsX20)
def wsX2_isFull : List Cond := .code yX2_isFull cX2_isFull 1 (some .boolean) :: ([.fieldLink RX2 40 "TrickFinder$Row" "count" "I"] ++ wsX20)
def wsX2_slotOf : List Cond := .code yX2_slotOf cX2_slotOf 6 (some .int) :: ([.constantLong RX2 103 (-7046029254386353131), .fieldLink RX2 28 "TrickFinder$Row" "slots" "[I", .fieldLink RX2 40 "TrickFinder$Row" "count" "I", .fieldLink RX2 11 "TrickFinder$Row" "functions" "[J"] ++ wsX20)
def wsX2_add : List Cond := .code yX2_add cX2_add 7 none :: ([.fieldLink RX2 28 "TrickFinder$Row" "slots" "[I", .fieldLink RX2 40 "TrickFinder$Row" "count" "I", .fieldLink RX2 11 "TrickFinder$Row" "functions" "[J", .fieldLink RX2 15 "TrickFinder$Row" "operations" "[I", .fieldLink RX2 19 "TrickFinder$Row" "firsts" "[I", .fieldLink RX2 22 "TrickFinder$Row" "seconds" "[I", .methodLink RX2 99 yX2_slotOf, .instanceMethod yX2_slotOf, .selects RX2 yX2_slotOf yX2_slotOf, .initialized RX2, .code yX2_slotOf cX2_slotOf 6 (some .int), .constantLong RX2 103 (-7046029254386353131), .methodLink RX2 91 yX2_isFull, .instanceMethod yX2_isFull, .selects RX2 yX2_isFull yX2_isFull, .code yX2_isFull cX2_isFull 1 (some .boolean)] ++ wsX20)
def wsX3_priceOfConstants : List Cond := .code yX3_priceOfConstants cX3_priceOfConstants 1 (some .int) :: ([.fieldLink RX3 9 "TrickFinder$Settings" "prices" "[I"] ++ wsX30)
def wsX2_addConstants_r1 : List Cond := [Cond.fieldLink RX2 82 "TrickFinder$Settings" "isConstantAllowed" "[Z", Cond.methodLink RX2 85 yX0_constant, Cond.static yX0_constant, Cond.initialized RX0, Cond.code yX0_constant cX0_constant 1 (some .long), Cond.constantLong RX0 11 (1229782938247303441), Cond.methodLink RX2 50 yX2_add, Cond.instanceMethod yX2_add, Cond.selects RX2 yX2_add yX2_add, Cond.initialized RX2, Cond.code yX2_add cX2_add 7 none, Cond.fieldLink RX2 28 "TrickFinder$Row" "slots" "[I", Cond.fieldLink RX2 40 "TrickFinder$Row" "count" "I", Cond.fieldLink RX2 11 "TrickFinder$Row" "functions" "[J", Cond.fieldLink RX2 15 "TrickFinder$Row" "operations" "[I", Cond.fieldLink RX2 19 "TrickFinder$Row" "firsts" "[I", Cond.fieldLink RX2 22 "TrickFinder$Row" "seconds" "[I", Cond.methodLink RX2 99 yX2_slotOf, Cond.instanceMethod yX2_slotOf, Cond.selects RX2 yX2_slotOf yX2_slotOf, Cond.code yX2_slotOf cX2_slotOf 6 (some .int), Cond.constantLong RX2 103 (-7046029254386353131), Cond.methodLink RX2 91 yX2_isFull, Cond.instanceMethod yX2_isFull]
def wsX2_addConstants_r2 : List Cond := [Cond.selects RX2 yX2_isFull yX2_isFull, Cond.code yX2_isFull cX2_isFull 1 (some .boolean)]
def wsX2_addConstants : List Cond := .code yX2_addConstants cX2_addConstants 3 none :: ((wsX2_addConstants_r1 ++ wsX2_addConstants_r2) ++ wsX30 ++ wsX20)
def wsX5_hasTwoArguments : List Cond := .code yX5_hasTwoArguments cX5_hasTwoArguments 1 (some .boolean) :: ([])
def wsX2_addOfTwo_r1 : List Cond := [Cond.fieldLink RX2 25 "TrickFinder$Row" "starts" "[I", Cond.fieldLink RX2 11 "TrickFinder$Row" "functions" "[J", Cond.methodLink RX2 91 yX2_isFull, Cond.instanceMethod yX2_isFull, Cond.selects RX2 yX2_isFull yX2_isFull, Cond.initialized RX2, Cond.code yX2_isFull cX2_isFull 1 (some .boolean), Cond.fieldLink RX2 40 "TrickFinder$Row" "count" "I", Cond.methodLink RX2 95 yX0_made, Cond.static yX0_made, Cond.initialized RX0, Cond.code yX0_made cX0_made 5 (some .long), Cond.constantLong RX0 13 (-1), Cond.constantLong RX0 23 (8608480567731124087), Cond.methodLink RX0 15 yX0_difference, Cond.static yX0_difference, Cond.code yX0_difference cX0_difference 4 (some .long), Cond.constantLong RX0 31 (-8608480567731124088), Cond.methodLink RX0 19 yX0_twice, Cond.static yX0_twice, Cond.code yX0_twice cX0_twice 2 (some .long), Cond.methodLink RX0 25 yX0_sum, Cond.static yX0_sum, Cond.code yX0_sum cX0_sum 4 (some .long)]
def wsX2_addOfTwo_r2 : List Cond := [Cond.methodLink RX0 28 yX0_product, Cond.static yX0_product, Cond.code yX0_product cX0_product 11 (some .long), Cond.constantLong RX0 11 (1229782938247303441), Cond.constantLong RX0 33 (15), Cond.methodLink RX2 50 yX2_add, Cond.instanceMethod yX2_add, Cond.selects RX2 yX2_add yX2_add, Cond.code yX2_add cX2_add 7 none, Cond.fieldLink RX2 28 "TrickFinder$Row" "slots" "[I", Cond.fieldLink RX2 15 "TrickFinder$Row" "operations" "[I", Cond.fieldLink RX2 19 "TrickFinder$Row" "firsts" "[I", Cond.fieldLink RX2 22 "TrickFinder$Row" "seconds" "[I", Cond.methodLink RX2 99 yX2_slotOf, Cond.instanceMethod yX2_slotOf, Cond.selects RX2 yX2_slotOf yX2_slotOf, Cond.code yX2_slotOf cX2_slotOf 6 (some .int), Cond.constantLong RX2 103 (-7046029254386353131)]
def wsX2_addOfTwo : List Cond := .code yX2_addOfTwo cX2_addOfTwo 7 none :: ((wsX2_addOfTwo_r1 ++ wsX2_addOfTwo_r2) ++ wsX20)
def wsX2_addOfOne_r1 : List Cond := [Cond.fieldLink RX2 25 "TrickFinder$Row" "starts" "[I", Cond.fieldLink RX2 11 "TrickFinder$Row" "functions" "[J", Cond.methodLink RX2 91 yX2_isFull, Cond.instanceMethod yX2_isFull, Cond.selects RX2 yX2_isFull yX2_isFull, Cond.initialized RX2, Cond.code yX2_isFull cX2_isFull 1 (some .boolean), Cond.fieldLink RX2 40 "TrickFinder$Row" "count" "I", Cond.methodLink RX2 95 yX0_made, Cond.static yX0_made, Cond.initialized RX0, Cond.code yX0_made cX0_made 5 (some .long), Cond.constantLong RX0 13 (-1), Cond.constantLong RX0 23 (8608480567731124087), Cond.methodLink RX0 15 yX0_difference, Cond.static yX0_difference, Cond.code yX0_difference cX0_difference 4 (some .long), Cond.constantLong RX0 31 (-8608480567731124088), Cond.methodLink RX0 19 yX0_twice, Cond.static yX0_twice, Cond.code yX0_twice cX0_twice 2 (some .long), Cond.methodLink RX0 25 yX0_sum, Cond.static yX0_sum, Cond.code yX0_sum cX0_sum 4 (some .long)]
def wsX2_addOfOne_r2 : List Cond := [Cond.methodLink RX0 28 yX0_product, Cond.static yX0_product, Cond.code yX0_product cX0_product 11 (some .long), Cond.constantLong RX0 11 (1229782938247303441), Cond.constantLong RX0 33 (15), Cond.methodLink RX2 50 yX2_add, Cond.instanceMethod yX2_add, Cond.selects RX2 yX2_add yX2_add, Cond.code yX2_add cX2_add 7 none, Cond.fieldLink RX2 28 "TrickFinder$Row" "slots" "[I", Cond.fieldLink RX2 15 "TrickFinder$Row" "operations" "[I", Cond.fieldLink RX2 19 "TrickFinder$Row" "firsts" "[I", Cond.fieldLink RX2 22 "TrickFinder$Row" "seconds" "[I", Cond.methodLink RX2 99 yX2_slotOf, Cond.instanceMethod yX2_slotOf, Cond.selects RX2 yX2_slotOf yX2_slotOf, Cond.code yX2_slotOf cX2_slotOf 6 (some .int), Cond.constantLong RX2 103 (-7046029254386353131)]
def wsX2_addOfOne : List Cond := .code yX2_addOfOne cX2_addOfOne 5 none :: ((wsX2_addOfOne_r1 ++ wsX2_addOfOne_r2) ++ wsX20)
def wsX2_makeCost_r1 : List Cond := [Cond.constantLong RX2 48 (-81985529216486896), Cond.fieldLink RX2 64 "TrickFinder$Settings" "prices" "[I", Cond.fieldLink RX2 67 "TrickFinder$Settings" "isAllowed" "[Z", Cond.methodLink RX2 50 yX2_add, Cond.instanceMethod yX2_add, Cond.selects RX2 yX2_add yX2_add, Cond.initialized RX2, Cond.code yX2_add cX2_add 7 none, Cond.fieldLink RX2 28 "TrickFinder$Row" "slots" "[I", Cond.fieldLink RX2 40 "TrickFinder$Row" "count" "I", Cond.fieldLink RX2 11 "TrickFinder$Row" "functions" "[J", Cond.fieldLink RX2 15 "TrickFinder$Row" "operations" "[I", Cond.fieldLink RX2 19 "TrickFinder$Row" "firsts" "[I", Cond.fieldLink RX2 22 "TrickFinder$Row" "seconds" "[I", Cond.methodLink RX2 99 yX2_slotOf, Cond.instanceMethod yX2_slotOf, Cond.selects RX2 yX2_slotOf yX2_slotOf, Cond.code yX2_slotOf cX2_slotOf 6 (some .int), Cond.constantLong RX2 103 (-7046029254386353131), Cond.methodLink RX2 91 yX2_isFull, Cond.instanceMethod yX2_isFull, Cond.selects RX2 yX2_isFull yX2_isFull, Cond.code yX2_isFull cX2_isFull 1 (some .boolean), Cond.methodLink RX2 54 yX3_priceOfConstants]
def wsX2_makeCost_r2 : List Cond := [Cond.instanceMethod yX3_priceOfConstants, Cond.selects RX3 yX3_priceOfConstants yX3_priceOfConstants, Cond.initialized RX3, Cond.code yX3_priceOfConstants cX3_priceOfConstants 1 (some .int), Cond.fieldLink RX3 9 "TrickFinder$Settings" "prices" "[I", Cond.methodLink RX2 60 yX2_addConstants, Cond.instanceMethod yX2_addConstants, Cond.selects RX2 yX2_addConstants yX2_addConstants, Cond.code yX2_addConstants cX2_addConstants 3 none, Cond.fieldLink RX2 82 "TrickFinder$Settings" "isConstantAllowed" "[Z", Cond.methodLink RX2 85 yX0_constant, Cond.static yX0_constant, Cond.initialized RX0, Cond.code yX0_constant cX0_constant 1 (some .long), Cond.constantLong RX0 11 (1229782938247303441), Cond.static yX5_hasTwoArguments, Cond.initialized RX5, Cond.code yX5_hasTwoArguments cX5_hasTwoArguments 1 (some .boolean), Cond.methodLink RX2 75 yX2_addOfTwo, Cond.instanceMethod yX2_addOfTwo, Cond.selects RX2 yX2_addOfTwo yX2_addOfTwo, Cond.code yX2_addOfTwo cX2_addOfTwo 7 none, Cond.fieldLink RX2 25 "TrickFinder$Row" "starts" "[I", Cond.methodLink RX2 95 yX0_made]
def wsX2_makeCost_r3 : List Cond := [Cond.static yX0_made, Cond.code yX0_made cX0_made 5 (some .long), Cond.constantLong RX0 13 (-1), Cond.constantLong RX0 23 (8608480567731124087), Cond.methodLink RX0 15 yX0_difference, Cond.static yX0_difference, Cond.code yX0_difference cX0_difference 4 (some .long), Cond.constantLong RX0 31 (-8608480567731124088), Cond.methodLink RX0 19 yX0_twice, Cond.static yX0_twice, Cond.code yX0_twice cX0_twice 2 (some .long), Cond.methodLink RX0 25 yX0_sum, Cond.static yX0_sum, Cond.code yX0_sum cX0_sum 4 (some .long), Cond.methodLink RX0 28 yX0_product, Cond.static yX0_product, Cond.code yX0_product cX0_product 11 (some .long), Cond.constantLong RX0 33 (15), Cond.methodLink RX2 79 yX2_addOfOne, Cond.instanceMethod yX2_addOfOne, Cond.selects RX2 yX2_addOfOne yX2_addOfOne, Cond.code yX2_addOfOne cX2_addOfOne 5 none]
def wsX2_makeCost : List Cond := .code yX2_makeCost cX2_makeCost 5 none :: ((wsX2_makeCost_r1 ++ (wsX2_makeCost_r2 ++ wsX2_makeCost_r3)) ++ wsX30 ++ wsX20)
def wsX2_make_r1 : List Cond := [Cond.fieldLink RX2 40 "TrickFinder$Row" "count" "I", Cond.fieldLink RX2 28 "TrickFinder$Row" "slots" "[I", Cond.fieldLink RX2 25 "TrickFinder$Row" "starts" "[I", Cond.methodLink RX2 34 yJ7_fill_53178, Cond.static yJ7_fill_53178, Cond.initialized RJ7, Cond.code yJ7_fill_53178 cJ7_fill_53178 4 none, Cond.methodLink RX2 44 yX2_makeCost, Cond.instanceMethod yX2_makeCost, Cond.selects RX2 yX2_makeCost yX2_makeCost, Cond.initialized RX2, Cond.code yX2_makeCost cX2_makeCost 5 none, Cond.constantLong RX2 48 (-81985529216486896), Cond.fieldLink RX2 64 "TrickFinder$Settings" "prices" "[I", Cond.fieldLink RX2 67 "TrickFinder$Settings" "isAllowed" "[Z", Cond.methodLink RX2 50 yX2_add, Cond.instanceMethod yX2_add, Cond.selects RX2 yX2_add yX2_add, Cond.code yX2_add cX2_add 7 none, Cond.fieldLink RX2 11 "TrickFinder$Row" "functions" "[J", Cond.fieldLink RX2 15 "TrickFinder$Row" "operations" "[I", Cond.fieldLink RX2 19 "TrickFinder$Row" "firsts" "[I", Cond.fieldLink RX2 22 "TrickFinder$Row" "seconds" "[I", Cond.methodLink RX2 99 yX2_slotOf]
def wsX2_make_r2 : List Cond := [Cond.instanceMethod yX2_slotOf, Cond.selects RX2 yX2_slotOf yX2_slotOf, Cond.code yX2_slotOf cX2_slotOf 6 (some .int), Cond.constantLong RX2 103 (-7046029254386353131), Cond.methodLink RX2 91 yX2_isFull, Cond.instanceMethod yX2_isFull, Cond.selects RX2 yX2_isFull yX2_isFull, Cond.code yX2_isFull cX2_isFull 1 (some .boolean), Cond.methodLink RX2 54 yX3_priceOfConstants, Cond.instanceMethod yX3_priceOfConstants, Cond.selects RX3 yX3_priceOfConstants yX3_priceOfConstants, Cond.initialized RX3, Cond.code yX3_priceOfConstants cX3_priceOfConstants 1 (some .int), Cond.fieldLink RX3 9 "TrickFinder$Settings" "prices" "[I", Cond.methodLink RX2 60 yX2_addConstants, Cond.instanceMethod yX2_addConstants, Cond.selects RX2 yX2_addConstants yX2_addConstants, Cond.code yX2_addConstants cX2_addConstants 3 none, Cond.fieldLink RX2 82 "TrickFinder$Settings" "isConstantAllowed" "[Z", Cond.methodLink RX2 85 yX0_constant, Cond.static yX0_constant, Cond.initialized RX0, Cond.code yX0_constant cX0_constant 1 (some .long), Cond.constantLong RX0 11 (1229782938247303441)]
def wsX2_make_r3 : List Cond := [Cond.static yX5_hasTwoArguments, Cond.initialized RX5, Cond.code yX5_hasTwoArguments cX5_hasTwoArguments 1 (some .boolean), Cond.methodLink RX2 75 yX2_addOfTwo, Cond.instanceMethod yX2_addOfTwo, Cond.selects RX2 yX2_addOfTwo yX2_addOfTwo, Cond.code yX2_addOfTwo cX2_addOfTwo 7 none, Cond.methodLink RX2 95 yX0_made, Cond.static yX0_made, Cond.code yX0_made cX0_made 5 (some .long), Cond.constantLong RX0 13 (-1), Cond.constantLong RX0 23 (8608480567731124087), Cond.methodLink RX0 15 yX0_difference, Cond.static yX0_difference, Cond.code yX0_difference cX0_difference 4 (some .long), Cond.constantLong RX0 31 (-8608480567731124088), Cond.methodLink RX0 19 yX0_twice, Cond.static yX0_twice, Cond.code yX0_twice cX0_twice 2 (some .long), Cond.methodLink RX0 25 yX0_sum, Cond.static yX0_sum, Cond.code yX0_sum cX0_sum 4 (some .long), Cond.methodLink RX0 28 yX0_product, Cond.static yX0_product]
def wsX2_make_r4 : List Cond := [Cond.code yX0_product cX0_product 11 (some .long), Cond.constantLong RX0 33 (15), Cond.methodLink RX2 79 yX2_addOfOne, Cond.instanceMethod yX2_addOfOne, Cond.selects RX2 yX2_addOfOne yX2_addOfOne, Cond.code yX2_addOfOne cX2_addOfOne 5 none]
def wsX2_make : List Cond := .code yX2_make cX2_make 4 none :: ((wsX2_make_r1 ++ (wsX2_make_r2 ++ (wsX2_make_r3 ++ wsX2_make_r4))) ++ wsX20 ++ wsX30)
def wsX2_entryWith : List Cond := .code yX2_entryWith cX2_entryWith 4 (some .int) :: ([.fieldLink RX2 28 "TrickFinder$Row" "slots" "[I", .methodLink RX2 99 yX2_slotOf, .instanceMethod yX2_slotOf, .selects RX2 yX2_slotOf yX2_slotOf, .initialized RX2, .code yX2_slotOf cX2_slotOf 6 (some .int), .constantLong RX2 103 (-7046029254386353131), .fieldLink RX2 40 "TrickFinder$Row" "count" "I", .fieldLink RX2 11 "TrickFinder$Row" "functions" "[J"] ++ wsX20)
def wsX2_firstAlike : List Cond := .code yX2_firstAlike cX2_firstAlike 6 (some .int) :: ([.fieldLink RX2 40 "TrickFinder$Row" "count" "I", .fieldLink RX2 11 "TrickFinder$Row" "functions" "[J"] ++ wsX20)
def wsX2_firstNearest : List Cond := .code yX2_firstNearest cX2_firstNearest 7 (some .int) :: ([.fieldLink RX2 40 "TrickFinder$Row" "count" "I", .fieldLink RX2 11 "TrickFinder$Row" "functions" "[J", .methodLink RX2 105 yX0_countDifferences, .static yX0_countDifferences, .initialized RX0, .code yX0_countDifferences cX0_countDifferences 6 (some .int), .constantLong RX0 11 (1229782938247303441), .methodLink RX0 39 yJ13_bitCount_95d88, .static yJ13_bitCount_95d88, .initialized RJ13, .code yJ13_bitCount_95d88 cJ13_bitCount_95d88 2 (some .int), .constantLong RJ13 314 (6148914691236517205), .constantLong RJ13 316 (3689348814741910323), .constantLong RJ13 318 (1085102592571150095)] ++ wsX20)
def wsX2_countOfCost : List Cond := .code yX2_countOfCost cX2_countOfCost 2 (some .int) :: ([.fieldLink RX2 25 "TrickFinder$Row" "starts" "[I"] ++ wsX20)
def wsX2_costOf : List Cond := .code yX2_costOf cX2_costOf 3 (some .int) :: ([.fieldLink RX2 25 "TrickFinder$Row" "starts" "[I"] ++ wsX20)
def wsX2_sumOfCosts : List Cond := .code yX2_sumOfCosts cX2_sumOfCosts 3 (some .int) :: ([.methodLink RX2 109 yX2_countOfCost, .instanceMethod yX2_countOfCost, .selects RX2 yX2_countOfCost yX2_countOfCost, .initialized RX2, .code yX2_countOfCost cX2_countOfCost 2 (some .int), .fieldLink RX2 25 "TrickFinder$Row" "starts" "[I"] ++ wsX20)
def wsX3_init : List Cond := .code yX3_init cX3_init 2 none :: ([.methodLink RX3 3 objectInit, .instanceMethod objectInit, .code objectInit ⟨#[0xb1]⟩ 1 none, .arrayClass .int, .fieldLink RX3 9 "TrickFinder$Settings" "prices" "[I", .arrayClass .boolean, .fieldLink RX3 15 "TrickFinder$Settings" "isAllowed" "[Z", .fieldLink RX3 19 "TrickFinder$Settings" "isConstantAllowed" "[Z", .methodLink RX3 22 yJ7_fill_53178, .static yJ7_fill_53178, .initialized RJ7, .code yJ7_fill_53178 cJ7_fill_53178 4 none] ++ wsX30)
def wsX4_init : List Cond := .code yX4_init cX4_init 1 none :: ([.methodLink RX4 3 objectInit, .instanceMethod objectInit, .code objectInit ⟨#[0xb1]⟩ 1 none, .arrayClass .int, .fieldLink RX4 11 "TrickFinder$Tape" "bytes" "[I"] ++ wsX40)
def wsX5_init_r1 : List Cond := [Cond.methodLink RX5 1 objectInit, Cond.instanceMethod objectInit, Cond.code objectInit ⟨#[0xb1]⟩ 1 none, Cond.classLink RX5 7 RX3, Cond.instantiable RX3 3, Cond.initialized RX3, Cond.fieldLink RX5 10 "TrickFinder" "settings" "LTrickFinder$Settings;", Cond.classLink RX5 16 RX2, Cond.instantiable RX2 8, Cond.initialized RX2, Cond.fieldLink RX5 19 "TrickFinder" "row" "LTrickFinder$Row;", Cond.classLink RX5 23 RX1, Cond.instantiable RX1 2, Cond.initialized RX1, Cond.fieldLink RX5 26 "TrickFinder" "paper" "LTrickFinder$Paper;", Cond.classLink RX5 30 RX4, Cond.instantiable RX4 5, Cond.initialized RX4, Cond.fieldLink RX5 33 "TrickFinder" "tape" "LTrickFinder$Tape;", Cond.methodLink RX5 9 yX3_init, Cond.instanceMethod yX3_init, Cond.code yX3_init cX3_init 2 none, Cond.methodLink RX3 3 objectInit, Cond.arrayClass .int]
def wsX5_init_r2 : List Cond := [Cond.fieldLink RX3 9 "TrickFinder$Settings" "prices" "[I", Cond.arrayClass .boolean, Cond.fieldLink RX3 15 "TrickFinder$Settings" "isAllowed" "[Z", Cond.fieldLink RX3 19 "TrickFinder$Settings" "isConstantAllowed" "[Z", Cond.methodLink RX3 22 yJ7_fill_53178, Cond.static yJ7_fill_53178, Cond.initialized RJ7, Cond.code yJ7_fill_53178 cJ7_fill_53178 4 none, Cond.methodLink RX5 18 yX2_init, Cond.instanceMethod yX2_init, Cond.code yX2_init cX2_init 1 none, Cond.methodLink RX2 3 objectInit, Cond.arrayClass .long, Cond.fieldLink RX2 11 "TrickFinder$Row" "functions" "[J", Cond.fieldLink RX2 15 "TrickFinder$Row" "operations" "[I", Cond.fieldLink RX2 19 "TrickFinder$Row" "firsts" "[I", Cond.fieldLink RX2 22 "TrickFinder$Row" "seconds" "[I", Cond.fieldLink RX2 25 "TrickFinder$Row" "starts" "[I", Cond.fieldLink RX2 28 "TrickFinder$Row" "slots" "[I", Cond.fieldLink RX2 31 "TrickFinder$Row" "partsFound" "[I", Cond.methodLink RX2 34 yJ7_fill_53178, Cond.instanceMethod yX1_init, Cond.code yX1_init cX1_init 1 none, Cond.methodLink RX1 3 objectInit]
def wsX5_init_r3 : List Cond := [Cond.fieldLink RX1 11 "TrickFinder$Paper" "bytes" "[I", Cond.instanceMethod yX4_init, Cond.code yX4_init cX4_init 1 none, Cond.methodLink RX4 3 objectInit, Cond.fieldLink RX4 11 "TrickFinder$Tape" "bytes" "[I"]
def wsX5_init : List Cond := .code yX5_init cX5_init 1 none :: ((wsX5_init_r1 ++ (wsX5_init_r2 ++ wsX5_init_r3)) ++ wsX30 ++ wsX50 ++ wsX20 ++ wsX10 ++ wsX40)
def wsX5_isOperation : List Cond := .code yX5_isOperation cX5_isOperation 1 (some .boolean) :: ([])
def wsX5_countOn : List Cond := .code yX5_countOn cX5_countOn 6 (some .int) :: ([])
def wsX5_allow : List Cond := .code yX5_allow cX5_allow 3 (some .int) :: ([.classLink RX5 41 "java/lang/IndexOutOfBoundsException", .initialized "java/lang/IndexOutOfBoundsException", .fieldLink RX5 10 "TrickFinder" "settings" "LTrickFinder$Settings;", .fieldLink RX5 48 "TrickFinder$Settings" "isAllowed" "[Z", .methodLink RX5 37 yX5_isOperation, .static yX5_isOperation, .initialized RX5, .code yX5_isOperation cX5_isOperation 1 (some .boolean), .methodLink RX5 52 yX5_countOn, .static yX5_countOn, .code yX5_countOn cX5_countOn 6 (some .int)] ++ wsX50 ++ wsX30 ++ (vx_atS RX5 45 "java/lang/IndexOutOfBoundsException" ["java/lang/RuntimeException", "java/lang/Exception"]).filter goodWord)
def wsX5_setPrice : List Cond := .code yX5_setPrice cX5_setPrice 5 (some .int) :: ([.classLink RX5 41 "java/lang/IndexOutOfBoundsException", .initialized "java/lang/IndexOutOfBoundsException", .classLink RX5 56 "java/lang/IllegalArgumentException", .initialized "java/lang/IllegalArgumentException", .fieldLink RX5 10 "TrickFinder" "settings" "LTrickFinder$Settings;", .fieldLink RX5 61 "TrickFinder$Settings" "prices" "[I", .methodLink RX5 37 yX5_isOperation, .static yX5_isOperation, .initialized RX5, .code yX5_isOperation cX5_isOperation 1 (some .boolean)] ++ wsX50 ++ wsX30 ++ (vx_atS RX5 45 "java/lang/IndexOutOfBoundsException" ["java/lang/RuntimeException", "java/lang/Exception"]).filter goodWord ++ (vx_atS RX5 60 "java/lang/IllegalArgumentException" ["java/lang/RuntimeException", "java/lang/Exception"]).filter goodWord)
def wsX5_isInput : List Cond := .code yX5_isInput cX5_isInput 1 (some .boolean) :: ([])
def wsX5_setConstant : List Cond := .code yX5_setConstant cX5_setConstant 3 (some .int) :: ([.classLink RX5 56 "java/lang/IllegalArgumentException", .initialized "java/lang/IllegalArgumentException", .fieldLink RX5 10 "TrickFinder" "settings" "LTrickFinder$Settings;", .fieldLink RX5 70 "TrickFinder$Settings" "isConstantAllowed" "[Z", .methodLink RX5 65 yX5_isInput, .static yX5_isInput, .initialized RX5, .code yX5_isInput cX5_isInput 1 (some .boolean), .methodLink RX5 52 yX5_countOn, .static yX5_countOn, .code yX5_countOn cX5_countOn 6 (some .int)] ++ wsX50 ++ wsX30 ++ (vx_atS RX5 60 "java/lang/IllegalArgumentException" ["java/lang/RuntimeException", "java/lang/Exception"]).filter goodWord)
def wsX5_compose : List Cond := .code yX5_compose cX5_compose 5 (some .long) :: ([.methodLink RX5 85 yX0_after, .static yX0_after, .initialized RX0, .code yX0_after cX0_after 7 (some .long), .methodLink RX0 35 yX0_valueAt, .static yX0_valueAt, .code yX0_valueAt cX0_valueAt 3 (some .int)])
def wsX5_inverse : List Cond := .code yX5_inverse cX5_inverse 3 (some .long) :: ([.classLink RX5 93 "java/lang/IllegalStateException", .initialized "java/lang/IllegalStateException", .methodLink RX5 89 yX0_countValues, .static yX0_countValues, .initialized RX0, .code yX0_countValues cX0_countValues 2 (some .int), .constant RX0 45 (65535), .methodLink RX0 46 yX0_image, .static yX0_image, .code yX0_image cX0_image 5 (some .int), .methodLink RX0 35 yX0_valueAt, .static yX0_valueAt, .code yX0_valueAt cX0_valueAt 3 (some .int), .methodLink RX0 49 yJ6_bitCount_0f7a4, .static yJ6_bitCount_0f7a4, .initialized RJ6, .code yJ6_bitCount_0f7a4 cJ6_bitCount_0f7a4 1 (some .int), .constant RJ6 265 (1431655765), .constant RJ6 266 (858993459), .constant RJ6 267 (252645135), .methodLink RX5 98 yX0_inverseOf, .static yX0_inverseOf, .code yX0_inverseOf cX0_inverseOf 5 (some .long)] ++ (vx_atS RX5 97 "java/lang/IllegalStateException" ["java/lang/RuntimeException", "java/lang/Exception"]).filter goodWord)
def wsX5_measure_r1 : List Cond := [Cond.classLink RX5 41 "java/lang/IndexOutOfBoundsException", Cond.initialized "java/lang/IndexOutOfBoundsException", Cond.constantLong RX5 102 (-81985529216486896), Cond.methodLink RX5 104 yX0_countDifferences, Cond.static yX0_countDifferences, Cond.initialized RX0, Cond.code yX0_countDifferences cX0_countDifferences 6 (some .int), Cond.constantLong RX0 11 (1229782938247303441), Cond.methodLink RX0 39 yJ13_bitCount_95d88, Cond.static yJ13_bitCount_95d88, Cond.initialized RJ13, Cond.code yJ13_bitCount_95d88 cJ13_bitCount_95d88 2 (some .int), Cond.constantLong RJ13 314 (6148914691236517205), Cond.constantLong RJ13 316 (3689348814741910323), Cond.constantLong RJ13 318 (1085102592571150095), Cond.methodLink RX5 89 yX0_countValues, Cond.static yX0_countValues, Cond.code yX0_countValues cX0_countValues 2 (some .int), Cond.constant RX0 45 (65535), Cond.methodLink RX0 46 yX0_image, Cond.static yX0_image, Cond.code yX0_image cX0_image 5 (some .int), Cond.methodLink RX0 35 yX0_valueAt, Cond.static yX0_valueAt]
def wsX5_measure_r2 : List Cond := [Cond.code yX0_valueAt cX0_valueAt 3 (some .int), Cond.methodLink RX0 49 yJ6_bitCount_0f7a4, Cond.static yJ6_bitCount_0f7a4, Cond.initialized RJ6, Cond.code yJ6_bitCount_0f7a4 cJ6_bitCount_0f7a4 1 (some .int), Cond.constant RJ6 265 (1431655765), Cond.constant RJ6 266 (858993459), Cond.constant RJ6 267 (252645135), Cond.methodLink RX5 108 yJ13_bitCount_95d88, Cond.methodLink RX5 113 yX0_returningInputs, Cond.static yX0_returningInputs, Cond.code yX0_returningInputs cX0_returningInputs 4 (some .int), Cond.methodLink RX5 116 yJ6_bitCount_0f7a4, Cond.methodLink RX5 121 yX0_stepsToReturning, Cond.static yX0_stepsToReturning, Cond.code yX0_stepsToReturning cX0_stepsToReturning 5 (some .int), Cond.methodLink RX0 54 yX0_returningInputs]
def wsX5_measure : List Cond := .code yX5_measure cX5_measure 4 (some .int) :: ((wsX5_measure_r1 ++ wsX5_measure_r2) ++ (vx_atS RX5 45 "java/lang/IndexOutOfBoundsException" ["java/lang/RuntimeException", "java/lang/Exception"]).filter goodWord)
def wsX5_isCost : List Cond := .code yX5_isCost cX5_isCost 1 (some .boolean) :: ([])
def wsX5_search_r1 : List Cond := [Cond.classLink RX5 56 "java/lang/IllegalArgumentException", Cond.initialized "java/lang/IllegalArgumentException", Cond.fieldLink RX5 19 "TrickFinder" "row" "LTrickFinder$Row;", Cond.fieldLink RX5 10 "TrickFinder" "settings" "LTrickFinder$Settings;", Cond.fieldLink RX5 147 "TrickFinder$Row" "count" "I", Cond.methodLink RX5 138 yX5_isCost, Cond.static yX5_isCost, Cond.initialized RX5, Cond.code yX5_isCost cX5_isCost 1 (some .boolean), Cond.methodLink RX5 143 yX2_make, Cond.instanceMethod yX2_make, Cond.selects RX2 yX2_make yX2_make, Cond.initialized RX2, Cond.code yX2_make cX2_make 4 none, Cond.fieldLink RX2 40 "TrickFinder$Row" "count" "I", Cond.fieldLink RX2 28 "TrickFinder$Row" "slots" "[I", Cond.fieldLink RX2 25 "TrickFinder$Row" "starts" "[I", Cond.methodLink RX2 34 yJ7_fill_53178, Cond.static yJ7_fill_53178, Cond.initialized RJ7, Cond.code yJ7_fill_53178 cJ7_fill_53178 4 none, Cond.methodLink RX2 44 yX2_makeCost, Cond.instanceMethod yX2_makeCost, Cond.selects RX2 yX2_makeCost yX2_makeCost]
def wsX5_search_r2 : List Cond := [Cond.code yX2_makeCost cX2_makeCost 5 none, Cond.constantLong RX2 48 (-81985529216486896), Cond.fieldLink RX2 64 "TrickFinder$Settings" "prices" "[I", Cond.fieldLink RX2 67 "TrickFinder$Settings" "isAllowed" "[Z", Cond.methodLink RX2 50 yX2_add, Cond.instanceMethod yX2_add, Cond.selects RX2 yX2_add yX2_add, Cond.code yX2_add cX2_add 7 none, Cond.fieldLink RX2 11 "TrickFinder$Row" "functions" "[J", Cond.fieldLink RX2 15 "TrickFinder$Row" "operations" "[I", Cond.fieldLink RX2 19 "TrickFinder$Row" "firsts" "[I", Cond.fieldLink RX2 22 "TrickFinder$Row" "seconds" "[I", Cond.methodLink RX2 99 yX2_slotOf, Cond.instanceMethod yX2_slotOf, Cond.selects RX2 yX2_slotOf yX2_slotOf, Cond.code yX2_slotOf cX2_slotOf 6 (some .int), Cond.constantLong RX2 103 (-7046029254386353131), Cond.methodLink RX2 91 yX2_isFull, Cond.instanceMethod yX2_isFull, Cond.selects RX2 yX2_isFull yX2_isFull, Cond.code yX2_isFull cX2_isFull 1 (some .boolean), Cond.methodLink RX2 54 yX3_priceOfConstants, Cond.instanceMethod yX3_priceOfConstants, Cond.selects RX3 yX3_priceOfConstants yX3_priceOfConstants]
def wsX5_search_r3 : List Cond := [Cond.initialized RX3, Cond.code yX3_priceOfConstants cX3_priceOfConstants 1 (some .int), Cond.fieldLink RX3 9 "TrickFinder$Settings" "prices" "[I", Cond.methodLink RX2 60 yX2_addConstants, Cond.instanceMethod yX2_addConstants, Cond.selects RX2 yX2_addConstants yX2_addConstants, Cond.code yX2_addConstants cX2_addConstants 3 none, Cond.fieldLink RX2 82 "TrickFinder$Settings" "isConstantAllowed" "[Z", Cond.methodLink RX2 85 yX0_constant, Cond.static yX0_constant, Cond.initialized RX0, Cond.code yX0_constant cX0_constant 1 (some .long), Cond.constantLong RX0 11 (1229782938247303441), Cond.static yX5_hasTwoArguments, Cond.code yX5_hasTwoArguments cX5_hasTwoArguments 1 (some .boolean), Cond.methodLink RX2 75 yX2_addOfTwo, Cond.instanceMethod yX2_addOfTwo, Cond.selects RX2 yX2_addOfTwo yX2_addOfTwo, Cond.code yX2_addOfTwo cX2_addOfTwo 7 none, Cond.methodLink RX2 95 yX0_made, Cond.static yX0_made, Cond.code yX0_made cX0_made 5 (some .long), Cond.constantLong RX0 13 (-1), Cond.constantLong RX0 23 (8608480567731124087)]
def wsX5_search_r4 : List Cond := [Cond.methodLink RX0 15 yX0_difference, Cond.static yX0_difference, Cond.code yX0_difference cX0_difference 4 (some .long), Cond.constantLong RX0 31 (-8608480567731124088), Cond.methodLink RX0 19 yX0_twice, Cond.static yX0_twice, Cond.code yX0_twice cX0_twice 2 (some .long), Cond.methodLink RX0 25 yX0_sum, Cond.static yX0_sum, Cond.code yX0_sum cX0_sum 4 (some .long), Cond.methodLink RX0 28 yX0_product, Cond.static yX0_product, Cond.code yX0_product cX0_product 11 (some .long), Cond.constantLong RX0 33 (15), Cond.methodLink RX2 79 yX2_addOfOne, Cond.instanceMethod yX2_addOfOne, Cond.selects RX2 yX2_addOfOne yX2_addOfOne, Cond.code yX2_addOfOne cX2_addOfOne 5 none]
def wsX5_search : List Cond := .code yX5_search cX5_search 2 (some .int) :: ((wsX5_search_r1 ++ (wsX5_search_r2 ++ (wsX5_search_r3 ++ wsX5_search_r4))) ++ wsX50 ++ wsX20 ++ wsX30 ++ (vx_atS RX5 60 "java/lang/IllegalArgumentException" ["java/lang/RuntimeException", "java/lang/Exception"]).filter goodWord)
def wsX5_ofCost : List Cond := .code yX5_ofCost cX5_ofCost 2 (some .int) :: ([.classLink RX5 56 "java/lang/IllegalArgumentException", .initialized "java/lang/IllegalArgumentException", .fieldLink RX5 19 "TrickFinder" "row" "LTrickFinder$Row;", .methodLink RX5 138 yX5_isCost, .static yX5_isCost, .initialized RX5, .code yX5_isCost cX5_isCost 1 (some .boolean), .methodLink RX5 153 yX2_countOfCost, .instanceMethod yX2_countOfCost, .selects RX2 yX2_countOfCost yX2_countOfCost, .initialized RX2, .code yX2_countOfCost cX2_countOfCost 2 (some .int), .fieldLink RX2 25 "TrickFinder$Row" "starts" "[I"] ++ wsX50 ++ wsX20 ++ (vx_atS RX5 60 "java/lang/IllegalArgumentException" ["java/lang/RuntimeException", "java/lang/Exception"]).filter goodWord)
def wsX5_function : List Cond := .code yX5_function cX5_function 2 (some .long) :: ([.classLink RX5 41 "java/lang/IndexOutOfBoundsException", .initialized "java/lang/IndexOutOfBoundsException", .fieldLink RX5 19 "TrickFinder" "row" "LTrickFinder$Row;", .fieldLink RX5 161 "TrickFinder$Row" "functions" "[J", .methodLink RX5 156 yX2_has, .instanceMethod yX2_has, .selects RX2 yX2_has yX2_has, .initialized RX2, .code yX2_has cX2_has 2 (some .boolean), .fieldLink RX2 40 "TrickFinder$Row" "count" "I"] ++ wsX50 ++ wsX20 ++ (vx_atS RX5 45 "java/lang/IndexOutOfBoundsException" ["java/lang/RuntimeException", "java/lang/Exception"]).filter goodWord)
def wsX5_entry : List Cond := .code yX5_entry cX5_entry 3 (some .int) :: ([.classLink RX5 41 "java/lang/IndexOutOfBoundsException", .initialized "java/lang/IndexOutOfBoundsException", .fieldLink RX5 19 "TrickFinder" "row" "LTrickFinder$Row;", .fieldLink RX5 168 "TrickFinder$Row" "operations" "[I", .fieldLink RX5 171 "TrickFinder$Row" "firsts" "[I", .fieldLink RX5 174 "TrickFinder$Row" "seconds" "[I", .methodLink RX5 156 yX2_has, .instanceMethod yX2_has, .selects RX2 yX2_has yX2_has, .initialized RX2, .code yX2_has cX2_has 2 (some .boolean), .fieldLink RX2 40 "TrickFinder$Row" "count" "I", .methodLink RX5 165 yX2_costOf, .instanceMethod yX2_costOf, .selects RX2 yX2_costOf yX2_costOf, .code yX2_costOf cX2_costOf 3 (some .int), .fieldLink RX2 25 "TrickFinder$Row" "starts" "[I"] ++ wsX50 ++ wsX20 ++ (vx_atS RX5 45 "java/lang/IndexOutOfBoundsException" ["java/lang/RuntimeException", "java/lang/Exception"]).filter goodWord)
def wsX5_find : List Cond := .code yX5_find cX5_find 3 (some .int) :: ([.fieldLink RX5 19 "TrickFinder" "row" "LTrickFinder$Row;", .methodLink RX5 179 yX2_entryWith, .instanceMethod yX2_entryWith, .selects RX2 yX2_entryWith yX2_entryWith, .initialized RX2, .code yX2_entryWith cX2_entryWith 4 (some .int), .fieldLink RX2 28 "TrickFinder$Row" "slots" "[I", .methodLink RX2 99 yX2_slotOf, .instanceMethod yX2_slotOf, .selects RX2 yX2_slotOf yX2_slotOf, .code yX2_slotOf cX2_slotOf 6 (some .int), .constantLong RX2 103 (-7046029254386353131), .fieldLink RX2 40 "TrickFinder$Row" "count" "I", .fieldLink RX2 11 "TrickFinder$Row" "functions" "[J"] ++ wsX50 ++ wsX20)
def wsX5_fit : List Cond := .code yX5_fit cX5_fit 4 (some .int) :: ([.classLink RX5 56 "java/lang/IllegalArgumentException", .initialized "java/lang/IllegalArgumentException", .constant RX5 182 (65535), .fieldLink RX5 19 "TrickFinder" "row" "LTrickFinder$Row;", .methodLink RX5 185 yX0_maskOf, .static yX0_maskOf, .initialized RX0, .code yX0_maskOf cX0_maskOf 4 (some .long), .constantLong RX0 33 (15), .methodLink RX5 189 yX2_firstAlike, .instanceMethod yX2_firstAlike, .selects RX2 yX2_firstAlike yX2_firstAlike, .initialized RX2, .code yX2_firstAlike cX2_firstAlike 6 (some .int), .fieldLink RX2 40 "TrickFinder$Row" "count" "I", .fieldLink RX2 11 "TrickFinder$Row" "functions" "[J"] ++ wsX50 ++ wsX20 ++ (vx_atS RX5 60 "java/lang/IllegalArgumentException" ["java/lang/RuntimeException", "java/lang/Exception"]).filter goodWord)
def wsX5_near : List Cond := .code yX5_near cX5_near 3 (some .int) :: ([.fieldLink RX5 19 "TrickFinder" "row" "LTrickFinder$Row;", .methodLink RX5 192 yX2_firstNearest, .instanceMethod yX2_firstNearest, .selects RX2 yX2_firstNearest yX2_firstNearest, .initialized RX2, .code yX2_firstNearest cX2_firstNearest 7 (some .int), .fieldLink RX2 40 "TrickFinder$Row" "count" "I", .fieldLink RX2 11 "TrickFinder$Row" "functions" "[J", .methodLink RX2 105 yX0_countDifferences, .static yX0_countDifferences, .initialized RX0, .code yX0_countDifferences cX0_countDifferences 6 (some .int), .constantLong RX0 11 (1229782938247303441), .methodLink RX0 39 yJ13_bitCount_95d88, .static yJ13_bitCount_95d88, .initialized RJ13, .code yJ13_bitCount_95d88 cJ13_bitCount_95d88 2 (some .int), .constantLong RJ13 314 (6148914691236517205), .constantLong RJ13 316 (3689348814741910323), .constantLong RJ13 318 (1085102592571150095)] ++ wsX50 ++ wsX20)
def wsX5_meanCost : List Cond := .code yX5_meanCost cX5_meanCost 1 (some .double) :: ([.fieldLink RX5 19 "TrickFinder" "row" "LTrickFinder$Row;", .fieldLink RX5 147 "TrickFinder$Row" "count" "I", .methodLink RX5 198 yX2_sumOfCosts, .instanceMethod yX2_sumOfCosts, .selects RX2 yX2_sumOfCosts yX2_sumOfCosts, .initialized RX2, .code yX2_sumOfCosts cX2_sumOfCosts 3 (some .int), .methodLink RX2 109 yX2_countOfCost, .instanceMethod yX2_countOfCost, .selects RX2 yX2_countOfCost yX2_countOfCost, .code yX2_countOfCost cX2_countOfCost 2 (some .int), .fieldLink RX2 25 "TrickFinder$Row" "starts" "[I"] ++ wsX50 ++ wsX20)
def wsL_below : List Cond := .code yL_below cL_below 2 (some .int) :: ([.constant RL 7 (2147483647)])
def wsL_cell : List Cond := .code yL_cell cL_cell 2 (some .int) :: ([.constant RL 8 (790386105)])
def wsL_chosen : List Cond := .code yL_chosen cL_chosen 5 (some .long) :: ([.methodLink RL 9 yL_cell, .static yL_cell, .initialized RL, .code yL_cell cL_cell 2 (some .int), .constant RL 8 (790386105), .methodLink RL 15 yL_below, .static yL_below, .code yL_below cL_below 2 (some .int), .constant RL 7 (2147483647)])
def wsL_law0_r1 : List Cond := [Cond.classLink RL 19 RX5, Cond.instantiable RX5 4, Cond.initialized RX5, Cond.arrayClass .long, Cond.constant RL 47 (65535), Cond.constantLong RL 77 (-81985529216486896), Cond.methodLink RL 21 yX5_init, Cond.instanceMethod yX5_init, Cond.code yX5_init cX5_init 1 none, Cond.methodLink RX5 1 objectInit, Cond.instanceMethod objectInit, Cond.code objectInit ⟨#[0xb1]⟩ 1 none, Cond.classLink RX5 7 RX3, Cond.instantiable RX3 3, Cond.initialized RX3, Cond.fieldLink RX5 10 "TrickFinder" "settings" "LTrickFinder$Settings;", Cond.classLink RX5 16 RX2, Cond.instantiable RX2 8, Cond.initialized RX2, Cond.fieldLink RX5 19 "TrickFinder" "row" "LTrickFinder$Row;", Cond.classLink RX5 23 RX1, Cond.instantiable RX1 2, Cond.initialized RX1, Cond.fieldLink RX5 26 "TrickFinder" "paper" "LTrickFinder$Paper;"]
def wsL_law0_r2 : List Cond := [Cond.classLink RX5 30 RX4, Cond.instantiable RX4 5, Cond.initialized RX4, Cond.fieldLink RX5 33 "TrickFinder" "tape" "LTrickFinder$Tape;", Cond.methodLink RX5 9 yX3_init, Cond.instanceMethod yX3_init, Cond.code yX3_init cX3_init 2 none, Cond.methodLink RX3 3 objectInit, Cond.arrayClass .int, Cond.fieldLink RX3 9 "TrickFinder$Settings" "prices" "[I", Cond.arrayClass .boolean, Cond.fieldLink RX3 15 "TrickFinder$Settings" "isAllowed" "[Z", Cond.fieldLink RX3 19 "TrickFinder$Settings" "isConstantAllowed" "[Z", Cond.methodLink RX3 22 yJ7_fill_53178, Cond.static yJ7_fill_53178, Cond.initialized RJ7, Cond.code yJ7_fill_53178 cJ7_fill_53178 4 none, Cond.methodLink RX5 18 yX2_init, Cond.instanceMethod yX2_init, Cond.code yX2_init cX2_init 1 none, Cond.methodLink RX2 3 objectInit, Cond.fieldLink RX2 11 "TrickFinder$Row" "functions" "[J", Cond.fieldLink RX2 15 "TrickFinder$Row" "operations" "[I", Cond.fieldLink RX2 19 "TrickFinder$Row" "firsts" "[I"]
def wsL_law0_r3 : List Cond := [Cond.fieldLink RX2 22 "TrickFinder$Row" "seconds" "[I", Cond.fieldLink RX2 25 "TrickFinder$Row" "starts" "[I", Cond.fieldLink RX2 28 "TrickFinder$Row" "slots" "[I", Cond.fieldLink RX2 31 "TrickFinder$Row" "partsFound" "[I", Cond.methodLink RX2 34 yJ7_fill_53178, Cond.instanceMethod yX1_init, Cond.code yX1_init cX1_init 1 none, Cond.methodLink RX1 3 objectInit, Cond.fieldLink RX1 11 "TrickFinder$Paper" "bytes" "[I", Cond.instanceMethod yX4_init, Cond.code yX4_init cX4_init 1 none, Cond.methodLink RX4 3 objectInit, Cond.fieldLink RX4 11 "TrickFinder$Tape" "bytes" "[I", Cond.methodLink RL 9 yL_cell, Cond.static yL_cell, Cond.initialized RL, Cond.code yL_cell cL_cell 2 (some .int), Cond.constant RL 8 (790386105), Cond.methodLink RL 15 yL_below, Cond.static yL_below, Cond.code yL_below cL_below 2 (some .int), Cond.constant RL 7 (2147483647), Cond.methodLink RL 22 yX5_allow, Cond.instanceMethod yX5_allow]
def wsL_law0_r4 : List Cond := [Cond.selects RX5 yX5_allow yX5_allow, Cond.code yX5_allow cX5_allow 3 (some .int), Cond.classLink RX5 41 "java/lang/IndexOutOfBoundsException", Cond.initialized "java/lang/IndexOutOfBoundsException", Cond.fieldLink RX5 48 "TrickFinder$Settings" "isAllowed" "[Z", Cond.methodLink RX5 37 yX5_isOperation, Cond.static yX5_isOperation, Cond.code yX5_isOperation cX5_isOperation 1 (some .boolean), Cond.methodLink RX5 52 yX5_countOn, Cond.static yX5_countOn, Cond.code yX5_countOn cX5_countOn 6 (some .int), Cond.methodLink RL 26 yX5_setPrice, Cond.instanceMethod yX5_setPrice, Cond.selects RX5 yX5_setPrice yX5_setPrice, Cond.code yX5_setPrice cX5_setPrice 5 (some .int), Cond.classLink RX5 56 "java/lang/IllegalArgumentException", Cond.initialized "java/lang/IllegalArgumentException", Cond.fieldLink RX5 61 "TrickFinder$Settings" "prices" "[I", Cond.methodLink RL 29 yX5_setConstant, Cond.instanceMethod yX5_setConstant, Cond.selects RX5 yX5_setConstant yX5_setConstant, Cond.code yX5_setConstant cX5_setConstant 3 (some .int), Cond.fieldLink RX5 70 "TrickFinder$Settings" "isConstantAllowed" "[Z", Cond.methodLink RX5 65 yX5_isInput]
def wsL_law0_r5 : List Cond := [Cond.static yX5_isInput, Cond.code yX5_isInput cX5_isInput 1 (some .boolean), Cond.methodLink RL 32 yX5_search, Cond.instanceMethod yX5_search, Cond.selects RX5 yX5_search yX5_search, Cond.code yX5_search cX5_search 2 (some .int), Cond.fieldLink RX5 147 "TrickFinder$Row" "count" "I", Cond.methodLink RX5 138 yX5_isCost, Cond.static yX5_isCost, Cond.code yX5_isCost cX5_isCost 1 (some .boolean), Cond.methodLink RX5 143 yX2_make, Cond.instanceMethod yX2_make, Cond.selects RX2 yX2_make yX2_make, Cond.code yX2_make cX2_make 4 none, Cond.fieldLink RX2 40 "TrickFinder$Row" "count" "I", Cond.methodLink RX2 44 yX2_makeCost, Cond.instanceMethod yX2_makeCost, Cond.selects RX2 yX2_makeCost yX2_makeCost, Cond.code yX2_makeCost cX2_makeCost 5 none, Cond.constantLong RX2 48 (-81985529216486896), Cond.fieldLink RX2 64 "TrickFinder$Settings" "prices" "[I", Cond.fieldLink RX2 67 "TrickFinder$Settings" "isAllowed" "[Z", Cond.methodLink RX2 50 yX2_add, Cond.instanceMethod yX2_add]
def wsL_law0_r6 : List Cond := [Cond.selects RX2 yX2_add yX2_add, Cond.code yX2_add cX2_add 7 none, Cond.methodLink RX2 99 yX2_slotOf, Cond.instanceMethod yX2_slotOf, Cond.selects RX2 yX2_slotOf yX2_slotOf, Cond.code yX2_slotOf cX2_slotOf 6 (some .int), Cond.constantLong RX2 103 (-7046029254386353131), Cond.methodLink RX2 91 yX2_isFull, Cond.instanceMethod yX2_isFull, Cond.selects RX2 yX2_isFull yX2_isFull, Cond.code yX2_isFull cX2_isFull 1 (some .boolean), Cond.methodLink RX2 54 yX3_priceOfConstants, Cond.instanceMethod yX3_priceOfConstants, Cond.selects RX3 yX3_priceOfConstants yX3_priceOfConstants, Cond.code yX3_priceOfConstants cX3_priceOfConstants 1 (some .int), Cond.methodLink RX2 60 yX2_addConstants, Cond.instanceMethod yX2_addConstants, Cond.selects RX2 yX2_addConstants yX2_addConstants, Cond.code yX2_addConstants cX2_addConstants 3 none, Cond.fieldLink RX2 82 "TrickFinder$Settings" "isConstantAllowed" "[Z", Cond.methodLink RX2 85 yX0_constant, Cond.static yX0_constant, Cond.initialized RX0, Cond.code yX0_constant cX0_constant 1 (some .long)]
def wsL_law0_r7 : List Cond := [Cond.constantLong RX0 11 (1229782938247303441), Cond.static yX5_hasTwoArguments, Cond.code yX5_hasTwoArguments cX5_hasTwoArguments 1 (some .boolean), Cond.methodLink RX2 75 yX2_addOfTwo, Cond.instanceMethod yX2_addOfTwo, Cond.selects RX2 yX2_addOfTwo yX2_addOfTwo, Cond.code yX2_addOfTwo cX2_addOfTwo 7 none, Cond.methodLink RX2 95 yX0_made, Cond.static yX0_made, Cond.code yX0_made cX0_made 5 (some .long), Cond.constantLong RX0 13 (-1), Cond.constantLong RX0 23 (8608480567731124087), Cond.methodLink RX0 15 yX0_difference, Cond.static yX0_difference, Cond.code yX0_difference cX0_difference 4 (some .long), Cond.constantLong RX0 31 (-8608480567731124088), Cond.methodLink RX0 19 yX0_twice, Cond.static yX0_twice, Cond.code yX0_twice cX0_twice 2 (some .long), Cond.methodLink RX0 25 yX0_sum, Cond.static yX0_sum, Cond.code yX0_sum cX0_sum 4 (some .long), Cond.methodLink RX0 28 yX0_product, Cond.static yX0_product]
def wsL_law0_r8 : List Cond := [Cond.code yX0_product cX0_product 11 (some .long), Cond.constantLong RX0 33 (15), Cond.methodLink RX2 79 yX2_addOfOne, Cond.instanceMethod yX2_addOfOne, Cond.selects RX2 yX2_addOfOne yX2_addOfOne, Cond.code yX2_addOfOne cX2_addOfOne 5 none, Cond.methodLink RL 36 yX5_function, Cond.instanceMethod yX5_function, Cond.selects RX5 yX5_function yX5_function, Cond.code yX5_function cX5_function 2 (some .long), Cond.fieldLink RX5 161 "TrickFinder$Row" "functions" "[J", Cond.methodLink RX5 156 yX2_has, Cond.instanceMethod yX2_has, Cond.selects RX2 yX2_has yX2_has, Cond.code yX2_has cX2_has 2 (some .boolean), Cond.methodLink RL 40 yX5_find, Cond.instanceMethod yX5_find, Cond.selects RX5 yX5_find yX5_find, Cond.code yX5_find cX5_find 3 (some .int), Cond.methodLink RX5 179 yX2_entryWith, Cond.instanceMethod yX2_entryWith, Cond.selects RX2 yX2_entryWith yX2_entryWith, Cond.code yX2_entryWith cX2_entryWith 4 (some .int), Cond.methodLink RL 44 yX5_entry]
def wsL_law0_r9 : List Cond := [Cond.instanceMethod yX5_entry, Cond.selects RX5 yX5_entry yX5_entry, Cond.code yX5_entry cX5_entry 3 (some .int), Cond.fieldLink RX5 168 "TrickFinder$Row" "operations" "[I", Cond.fieldLink RX5 171 "TrickFinder$Row" "firsts" "[I", Cond.fieldLink RX5 174 "TrickFinder$Row" "seconds" "[I", Cond.methodLink RX5 165 yX2_costOf, Cond.instanceMethod yX2_costOf, Cond.selects RX2 yX2_costOf yX2_costOf, Cond.code yX2_costOf cX2_costOf 3 (some .int), Cond.methodLink RL 48 yX5_fit, Cond.instanceMethod yX5_fit, Cond.selects RX5 yX5_fit yX5_fit, Cond.code yX5_fit cX5_fit 4 (some .int), Cond.constant RX5 182 (65535), Cond.methodLink RX5 185 yX0_maskOf, Cond.static yX0_maskOf, Cond.code yX0_maskOf cX0_maskOf 4 (some .long), Cond.methodLink RX5 189 yX2_firstAlike, Cond.instanceMethod yX2_firstAlike, Cond.selects RX2 yX2_firstAlike yX2_firstAlike, Cond.code yX2_firstAlike cX2_firstAlike 6 (some .int), Cond.methodLink RL 52 yX5_near, Cond.instanceMethod yX5_near]
def wsL_law0_r10 : List Cond := [Cond.selects RX5 yX5_near yX5_near, Cond.code yX5_near cX5_near 3 (some .int), Cond.methodLink RX5 192 yX2_firstNearest, Cond.instanceMethod yX2_firstNearest, Cond.selects RX2 yX2_firstNearest yX2_firstNearest, Cond.code yX2_firstNearest cX2_firstNearest 7 (some .int), Cond.methodLink RX2 105 yX0_countDifferences, Cond.static yX0_countDifferences, Cond.code yX0_countDifferences cX0_countDifferences 6 (some .int), Cond.methodLink RX0 39 yJ13_bitCount_95d88, Cond.static yJ13_bitCount_95d88, Cond.initialized RJ13, Cond.code yJ13_bitCount_95d88 cJ13_bitCount_95d88 2 (some .int), Cond.constantLong RJ13 314 (6148914691236517205), Cond.constantLong RJ13 316 (3689348814741910323), Cond.constantLong RJ13 318 (1085102592571150095), Cond.methodLink RL 55 yX5_ofCost, Cond.instanceMethod yX5_ofCost, Cond.selects RX5 yX5_ofCost yX5_ofCost, Cond.code yX5_ofCost cX5_ofCost 2 (some .int), Cond.methodLink RX5 153 yX2_countOfCost, Cond.instanceMethod yX2_countOfCost, Cond.selects RX2 yX2_countOfCost yX2_countOfCost, Cond.code yX2_countOfCost cX2_countOfCost 2 (some .int)]
def wsL_law0_r11 : List Cond := [Cond.methodLink RL 58 yX5_meanCost, Cond.instanceMethod yX5_meanCost, Cond.selects RX5 yX5_meanCost yX5_meanCost, Cond.code yX5_meanCost cX5_meanCost 1 (some .double), Cond.methodLink RX5 198 yX2_sumOfCosts, Cond.instanceMethod yX2_sumOfCosts, Cond.selects RX2 yX2_sumOfCosts yX2_sumOfCosts, Cond.code yX2_sumOfCosts cX2_sumOfCosts 3 (some .int), Cond.methodLink RX2 109 yX2_countOfCost, Cond.methodLink RL 62 yL_chosen, Cond.static yL_chosen, Cond.code yL_chosen cL_chosen 5 (some .long), Cond.methodLink RL 66 yX5_measure, Cond.instanceMethod yX5_measure, Cond.selects RX5 yX5_measure yX5_measure, Cond.code yX5_measure cX5_measure 4 (some .int), Cond.constantLong RX5 102 (-81985529216486896), Cond.methodLink RX5 104 yX0_countDifferences, Cond.methodLink RX5 89 yX0_countValues, Cond.static yX0_countValues, Cond.code yX0_countValues cX0_countValues 2 (some .int), Cond.constant RX0 45 (65535), Cond.methodLink RX0 46 yX0_image, Cond.static yX0_image]
def wsL_law0_r12 : List Cond := [Cond.code yX0_image cX0_image 5 (some .int), Cond.methodLink RX0 35 yX0_valueAt, Cond.static yX0_valueAt, Cond.code yX0_valueAt cX0_valueAt 3 (some .int), Cond.methodLink RX0 49 yJ6_bitCount_0f7a4, Cond.static yJ6_bitCount_0f7a4, Cond.initialized RJ6, Cond.code yJ6_bitCount_0f7a4 cJ6_bitCount_0f7a4 1 (some .int), Cond.constant RJ6 265 (1431655765), Cond.constant RJ6 266 (858993459), Cond.constant RJ6 267 (252645135), Cond.methodLink RX5 108 yJ13_bitCount_95d88, Cond.methodLink RX5 113 yX0_returningInputs, Cond.static yX0_returningInputs, Cond.code yX0_returningInputs cX0_returningInputs 4 (some .int), Cond.methodLink RX5 116 yJ6_bitCount_0f7a4, Cond.methodLink RX5 121 yX0_stepsToReturning, Cond.static yX0_stepsToReturning, Cond.code yX0_stepsToReturning cX0_stepsToReturning 5 (some .int), Cond.methodLink RX0 54 yX0_returningInputs, Cond.methodLink RL 69 yX5_inverse, Cond.instanceMethod yX5_inverse, Cond.selects RX5 yX5_inverse yX5_inverse, Cond.code yX5_inverse cX5_inverse 3 (some .long)]
def wsL_law0_r13 : List Cond := [Cond.classLink RX5 93 "java/lang/IllegalStateException", Cond.initialized "java/lang/IllegalStateException", Cond.methodLink RX5 98 yX0_inverseOf, Cond.static yX0_inverseOf, Cond.code yX0_inverseOf cX0_inverseOf 5 (some .long), Cond.methodLink RL 73 yX5_compose, Cond.instanceMethod yX5_compose, Cond.selects RX5 yX5_compose yX5_compose, Cond.code yX5_compose cX5_compose 5 (some .long), Cond.methodLink RX5 85 yX0_after, Cond.static yX0_after, Cond.code yX0_after cX0_after 7 (some .long)]
def wsL_law0 : List Cond := (wsL_law0_r1 ++ (wsL_law0_r2 ++ (wsL_law0_r3 ++ (wsL_law0_r4 ++ (wsL_law0_r5 ++ (wsL_law0_r6 ++ (wsL_law0_r7 ++ (wsL_law0_r8 ++ (wsL_law0_r9 ++ (wsL_law0_r10 ++ (wsL_law0_r11 ++ (wsL_law0_r12 ++ wsL_law0_r13)))))))))))) ++ wsX50 ++ wsX30 ++ wsX20 ++ wsX10 ++ wsX40 ++ ([] : List Cond)
def wsL_law : List Cond := wsL_law0 ++ (vx_atS RX5 45 "java/lang/IndexOutOfBoundsException" ["java/lang/RuntimeException", "java/lang/Exception"]).filter goodWord ++ (vx_atS RX5 60 "java/lang/IllegalArgumentException" ["java/lang/RuntimeException", "java/lang/Exception"]).filter goodWord ++ (vx_atS RX5 97 "java/lang/IllegalStateException" ["java/lang/RuntimeException", "java/lang/Exception"]).filter goodWord
abbrev vwCl : List vw_C := [(RX1, TX1, 2), (RX2, TX2, 8), (RX3, TX3, 3), (RX4, TX4, 5), (RX5, TX5, 4)]
