def RX0 : String := "BoreholeColumns$Column"
def TX0 : u_T := fun k => match k with
  | 0 => ("BoreholeColumns$Column", "collar", "I", false)
  | 1 => ("BoreholeColumns$Column", "bedCount", "I", false)
  | 2 => ("BoreholeColumns$Column", "marks", "[I", true)
  | _ => ("BoreholeColumns$Column", "thicknesses", "[I", true)
def tyX0 : Nat → FieldType := fun k => match k with
  | 0 => .int
  | 1 => .int
  | 2 => .array .int
  | _ => .array .int
theorem nmX0 : ∀ a, a < 4 → ∀ b, b < 4 → a ≠ b → (TX0 a).2.1 ≠ (TX0 b).2.1 := by decide +kernel
theorem tyX0_ok : ∀ k, k < 4 → parseFieldDescriptor (TX0 k).2.2.1 = some (tyX0 k) := by decide +kernel
abbrev cX0_init : ByteArray := prog_2_method_1_code
def yX0_init : MethodName := ⟨RX0, "<init>", "()V"⟩
abbrev cX0_collarElevation : ByteArray := prog_2_method_2_code
def yX0_collarElevation : MethodName := ⟨RX0, "collarElevation", "()I"⟩
abbrev cX0_putCollar : ByteArray := prog_2_method_3_code
def yX0_putCollar : MethodName := ⟨RX0, "putCollar", "(I)V"⟩
abbrev cX0_size : ByteArray := prog_2_method_4_code
def yX0_size : MethodName := ⟨RX0, "size", "()I"⟩
abbrev cX0_has : ByteArray := prog_2_method_5_code
def yX0_has : MethodName := ⟨RX0, "has", "(I)Z"⟩
abbrev cX0_markOf : ByteArray := prog_2_method_6_code
def yX0_markOf : MethodName := ⟨RX0, "markOf", "(I)I"⟩
abbrev cX0_thicknessOf : ByteArray := prog_2_method_7_code
def yX0_thicknessOf : MethodName := ⟨RX0, "thicknessOf", "(I)I"⟩
abbrev cX0_putThickness : ByteArray := prog_2_method_8_code
def yX0_putThickness : MethodName := ⟨RX0, "putThickness", "(II)V"⟩
abbrev cX0_depthOf : ByteArray := prog_2_method_9_code
def yX0_depthOf : MethodName := ⟨RX0, "depthOf", "(I)I"⟩
abbrev cX0_elevationOf : ByteArray := prog_2_method_10_code
def yX0_elevationOf : MethodName := ⟨RX0, "elevationOf", "(I)I"⟩
abbrev cX0_totalThickness : ByteArray := prog_2_method_11_code
def yX0_totalThickness : MethodName := ⟨RX0, "totalThickness", "()I"⟩
abbrev cX0_bedWithMark : ByteArray := prog_2_method_12_code
def yX0_bedWithMark : MethodName := ⟨RX0, "bedWithMark", "(II)I"⟩
abbrev cX0_clear : ByteArray := prog_2_method_13_code
def yX0_clear : MethodName := ⟨RX0, "clear", "()V"⟩
abbrev cX0_insert : ByteArray := prog_2_method_14_code
def yX0_insert : MethodName := ⟨RX0, "insert", "(III)Z"⟩
abbrev cX0_takeOut : ByteArray := prog_2_method_15_code
def yX0_takeOut : MethodName := ⟨RX0, "takeOut", "(I)V"⟩
abbrev cX0_appendPart : ByteArray := prog_2_method_16_code
def yX0_appendPart : MethodName := ⟨RX0, "appendPart", "(LBoreholeColumns$Column;II)Z"⟩
abbrev cX0_takeBedsOf : ByteArray := prog_2_method_17_code
def yX0_takeBedsOf : MethodName := ⟨RX0, "takeBedsOf", "(LBoreholeColumns$Column;)V"⟩
abbrev cX0_copyFrom : ByteArray := prog_2_method_18_code
def yX0_copyFrom : MethodName := ⟨RX0, "copyFrom", "(LBoreholeColumns$Column;)V"⟩
def RX1 : String := "BoreholeColumns$History"
def TX1 : u_T := fun k => match k with
  | 0 => ("BoreholeColumns$History", "saved", "[LBoreholeColumns$State;", true)
  | 1 => ("BoreholeColumns$History", "savedCount", "I", false)
  | _ => ("BoreholeColumns$History", "next", "I", false)
def tyX1 : Nat → FieldType := fun k => match k with
  | 0 => .array (.object "BoreholeColumns$State")
  | 1 => .int
  | _ => .int
theorem nmX1 : ∀ a, a < 3 → ∀ b, b < 3 → a ≠ b → (TX1 a).2.1 ≠ (TX1 b).2.1 := by decide +kernel
theorem tyX1_ok : ∀ k, k < 3 → parseFieldDescriptor (TX1 k).2.2.1 = some (tyX1 k) := by decide +kernel
abbrev cX1_init : ByteArray := prog_3_method_1_code
def yX1_init : MethodName := ⟨RX1, "<init>", "()V"⟩
abbrev cX1_size : ByteArray := prog_3_method_2_code
def yX1_size : MethodName := ⟨RX1, "size", "()I"⟩
abbrev cX1_save : ByteArray := prog_3_method_3_code
def yX1_save : MethodName := ⟨RX1, "save", "(LBoreholeColumns$State;)V"⟩
def RX2 : String := "BoreholeColumns$Matching"
def TX2 : u_T := fun k => match k with
  | 0 => ("BoreholeColumns$Matching", "pair", "LBoreholeColumns$Pair;", true)
  | 1 => ("BoreholeColumns$Matching", "fatesOfA", "[I", true)
  | 2 => ("BoreholeColumns$Matching", "fatesOfB", "[I", true)
  | 3 => ("BoreholeColumns$Matching", "partnersOfA", "[I", true)
  | 4 => ("BoreholeColumns$Matching", "partnersOfB", "[I", true)
  | _ => ("BoreholeColumns$Matching", "leastFault", "I", false)
def tyX2 : Nat → FieldType := fun k => match k with
  | 0 => .object "BoreholeColumns$Pair"
  | 1 => .array .int
  | 2 => .array .int
  | 3 => .array .int
  | 4 => .array .int
  | _ => .int
theorem nmX2 : ∀ a, a < 6 → ∀ b, b < 6 → a ≠ b → (TX2 a).2.1 ≠ (TX2 b).2.1 := by decide +kernel
theorem tyX2_ok : ∀ k, k < 6 → parseFieldDescriptor (TX2 k).2.2.1 = some (tyX2 k) := by decide +kernel
abbrev cX2_init : ByteArray := prog_4_method_1_code
def yX2_init : MethodName := ⟨RX2, "<init>", "()V"⟩
abbrev cX2_leastCost : ByteArray := prog_4_method_2_code
def yX2_leastCost : MethodName := ⟨RX2, "leastCost", "(LBoreholeColumns$State;III)I"⟩
abbrev cX2_solve : ByteArray := prog_4_method_3_code
def yX2_solve : MethodName := ⟨RX2, "solve", "(LBoreholeColumns$State;II)V"⟩
abbrev cX2_settle : ByteArray := prog_4_method_4_code
def yX2_settle : MethodName := ⟨RX2, "settle", "(III)V"⟩
abbrev cX2_settleA : ByteArray := prog_4_method_5_code
def yX2_settleA : MethodName := ⟨RX2, "settleA", "(III)V"⟩
abbrev cX2_settleB : ByteArray := prog_4_method_6_code
def yX2_settleB : MethodName := ⟨RX2, "settleB", "(III)V"⟩
abbrev cX2_fateOf : ByteArray := prog_4_method_7_code
def yX2_fateOf : MethodName := ⟨RX2, "fateOf", "(II)I"⟩
abbrev cX2_partnerOf : ByteArray := prog_4_method_8_code
def yX2_partnerOf : MethodName := ⟨RX2, "partnerOf", "(II)I"⟩
abbrev cX2_countFates : ByteArray := prog_4_method_9_code
def yX2_countFates : MethodName := ⟨RX2, "countFates", "(II)I"⟩
abbrev cX2_nextMatch : ByteArray := prog_4_method_10_code
def yX2_nextMatch : MethodName := ⟨RX2, "nextMatch", "(I)I"⟩
abbrev cX2_hasThrow : ByteArray := prog_4_method_11_code
def yX2_hasThrow : MethodName := ⟨RX2, "hasThrow", "(I)Z"⟩
abbrev cX2_throwBelow : ByteArray := prog_4_method_12_code
def yX2_throwBelow : MethodName := ⟨RX2, "throwBelow", "(I)I"⟩
abbrev cX2_hasFault : ByteArray := prog_4_method_13_code
def yX2_hasFault : MethodName := ⟨RX2, "hasFault", "(I)Z"⟩
abbrev cX2_reasonBelow : ByteArray := prog_4_method_14_code
def yX2_reasonBelow : MethodName := ⟨RX2, "reasonBelow", "(I)I"⟩
abbrev cX2_faultCount : ByteArray := prog_4_method_15_code
def yX2_faultCount : MethodName := ⟨RX2, "faultCount", "()I"⟩
abbrev cX2_bedAheadOfFault : ByteArray := prog_4_method_16_code
def yX2_bedAheadOfFault : MethodName := ⟨RX2, "bedAheadOfFault", "(I)I"⟩
abbrev cX2_totalThrow : ByteArray := prog_4_method_17_code
def yX2_totalThrow : MethodName := ⟨RX2, "totalThrow", "(Z)I"⟩
abbrev cX2_changeOfElevations : ByteArray := prog_4_method_18_code
def yX2_changeOfElevations : MethodName := ⟨RX2, "changeOfElevations", "()I"⟩
abbrev cX2_differenceOfElevations : ByteArray := prog_4_method_19_code
def yX2_differenceOfElevations : MethodName := ⟨RX2, "differenceOfElevations", "(I)I"⟩
def RX3 : String := "BoreholeColumns$Pair"
def TX3 : u_T := fun k => match k with
  | 0 => ("BoreholeColumns$Pair", "a", "LBoreholeColumns$Column;", true)
  | 1 => ("BoreholeColumns$Pair", "b", "LBoreholeColumns$Column;", true)
  | 2 => ("BoreholeColumns$Pair", "missingCosts", "[I", true)
  | 3 => ("BoreholeColumns$Pair", "repeatCost", "I", false)
  | 4 => ("BoreholeColumns$Pair", "differenceCost", "I", false)
  | 5 => ("BoreholeColumns$Pair", "reach", "I", false)
  | _ => ("BoreholeColumns$Pair", "least", "[I", true)
def tyX3 : Nat → FieldType := fun k => match k with
  | 0 => .object "BoreholeColumns$Column"
  | 1 => .object "BoreholeColumns$Column"
  | 2 => .array .int
  | 3 => .int
  | 4 => .int
  | 5 => .int
  | _ => .array .int
theorem nmX3 : ∀ a, a < 7 → ∀ b, b < 7 → a ≠ b → (TX3 a).2.1 ≠ (TX3 b).2.1 := by decide +kernel
theorem tyX3_ok : ∀ k, k < 7 → parseFieldDescriptor (TX3 k).2.2.1 = some (tyX3 k) := by decide +kernel
abbrev cX3_init : ByteArray := prog_5_method_1_code
def yX3_init : MethodName := ⟨RX3, "<init>", "()V"⟩
abbrev cX3_take : ByteArray := prog_5_method_2_code
def yX3_take : MethodName := ⟨RX3, "take", "(LBoreholeColumns$State;II)V"⟩
abbrev cX3_columnA : ByteArray := prog_5_method_3_code
def yX3_columnA : MethodName := ⟨RX3, "columnA", "()LBoreholeColumns$Column;"⟩
abbrev cX3_columnB : ByteArray := prog_5_method_4_code
def yX3_columnB : MethodName := ⟨RX3, "columnB", "()LBoreholeColumns$Column;"⟩
abbrev cX3_repeatedBed : ByteArray := prog_5_method_5_code
def yX3_repeatedBed : MethodName := ⟨RX3, "repeatedBed", "(II)I"⟩
abbrev cX3_stepCost : ByteArray := prog_5_method_6_code
def yX3_stepCost : MethodName := ⟨RX3, "stepCost", "(III)I"⟩
abbrev cX3_missingCostOf : ByteArray := prog_5_method_7_code
def yX3_missingCostOf : MethodName := ⟨RX3, "missingCostOf", "(I)I"⟩
abbrev cX3_costOfDifference : ByteArray := prog_5_method_8_code
def yX3_costOfDifference : MethodName := ⟨RX3, "costOfDifference", "(II)I"⟩
abbrev cX3_nextOfA : ByteArray := prog_5_method_9_code
def yX3_nextOfA : MethodName := ⟨RX3, "nextOfA", "(II)I"⟩
abbrev cX3_nextOfB : ByteArray := prog_5_method_10_code
def yX3_nextOfB : MethodName := ⟨RX3, "nextOfB", "(II)I"⟩
abbrev cX3_leastAt : ByteArray := prog_5_method_11_code
def yX3_leastAt : MethodName := ⟨RX3, "leastAt", "(II)I"⟩
abbrev cX3_putLeast : ByteArray := prog_5_method_12_code
def yX3_putLeast : MethodName := ⟨RX3, "putLeast", "(III)V"⟩
abbrev cX3_leastAfter : ByteArray := prog_5_method_13_code
def yX3_leastAfter : MethodName := ⟨RX3, "leastAfter", "(III)I"⟩
abbrev cX3_costFromBottom : ByteArray := prog_5_method_14_code
def yX3_costFromBottom : MethodName := ⟨RX3, "costFromBottom", "()I"⟩
abbrev cX3_costFromTop : ByteArray := prog_5_method_15_code
def yX3_costFromTop : MethodName := ⟨RX3, "costFromTop", "()I"⟩
abbrev cX3_firstBestStep : ByteArray := prog_5_method_16_code
def yX3_firstBestStep : MethodName := ⟨RX3, "firstBestStep", "(II)I"⟩
def RX4 : String := "BoreholeColumns$State"
def TX4 : u_T := fun k => match k with
  | 0 => ("BoreholeColumns$State", "numbers", "[I", true)
  | 1 => ("BoreholeColumns$State", "keyMarks", "I", false)
  | 2 => ("BoreholeColumns$State", "columns", "[LBoreholeColumns$Column;", true)
  | _ => ("BoreholeColumns$State", "booked", "[I", true)
def tyX4 : Nat → FieldType := fun k => match k with
  | 0 => .array .int
  | 1 => .int
  | 2 => .array (.object "BoreholeColumns$Column")
  | _ => .array .int
theorem nmX4 : ∀ a, a < 4 → ∀ b, b < 4 → a ≠ b → (TX4 a).2.1 ≠ (TX4 b).2.1 := by decide +kernel
theorem tyX4_ok : ∀ k, k < 4 → parseFieldDescriptor (TX4 k).2.2.1 = some (tyX4 k) := by decide +kernel
abbrev cX4_init : ByteArray := prog_6_method_1_code
def yX4_init : MethodName := ⟨RX4, "<init>", "()V"⟩
abbrev cX4_numberOf : ByteArray := prog_6_method_2_code
def yX4_numberOf : MethodName := ⟨RX4, "numberOf", "(I)I"⟩
abbrev cX4_putNumber : ByteArray := prog_6_method_3_code
def yX4_putNumber : MethodName := ⟨RX4, "putNumber", "(II)V"⟩
abbrev cX4_isKey : ByteArray := prog_6_method_4_code
def yX4_isKey : MethodName := ⟨RX4, "isKey", "(I)Z"⟩
abbrev cX4_putKey : ByteArray := prog_6_method_5_code
def yX4_putKey : MethodName := ⟨RX4, "putKey", "(IZ)V"⟩
abbrev cX4_keyMarkCount : ByteArray := prog_6_method_6_code
def yX4_keyMarkCount : MethodName := ⟨RX4, "keyMarkCount", "()I"⟩
abbrev cX4_columnOf : ByteArray := prog_6_method_7_code
def yX4_columnOf : MethodName := ⟨RX4, "columnOf", "(I)LBoreholeColumns$Column;"⟩
abbrev cX4_bookedIn : ByteArray := prog_6_method_8_code
def yX4_bookedIn : MethodName := ⟨RX4, "bookedIn", "(I)I"⟩
abbrev cX4_book : ByteArray := prog_6_method_9_code
def yX4_book : MethodName := ⟨RX4, "book", "(II)V"⟩
abbrev cX4_sumOfSizes : ByteArray := prog_6_method_10_code
def yX4_sumOfSizes : MethodName := ⟨RX4, "sumOfSizes", "()I"⟩
abbrev cX4_sumOfLengths : ByteArray := prog_6_method_11_code
def yX4_sumOfLengths : MethodName := ⟨RX4, "sumOfLengths", "()I"⟩
abbrev cX4_copyFrom : ByteArray := prog_6_method_12_code
def yX4_copyFrom : MethodName := ⟨RX4, "copyFrom", "(LBoreholeColumns$State;)V"⟩
def RX5 : String := "BoreholeColumns$Text"
def TX5 : u_T := fun k => match k with
  | 0 => ("BoreholeColumns$Text", "characters", "[I", true)
  | 1 => ("BoreholeColumns$Text", "length", "I", false)
  | 2 => ("BoreholeColumns$Text", "position", "I", false)
  | 3 => ("BoreholeColumns$Text", "holeRead", "I", false)
  | _ => ("BoreholeColumns$Text", "bedsRead", "LBoreholeColumns$Column;", true)
def tyX5 : Nat → FieldType := fun k => match k with
  | 0 => .array .int
  | 1 => .int
  | 2 => .int
  | 3 => .int
  | _ => .object "BoreholeColumns$Column"
theorem nmX5 : ∀ a, a < 5 → ∀ b, b < 5 → a ≠ b → (TX5 a).2.1 ≠ (TX5 b).2.1 := by decide +kernel
theorem tyX5_ok : ∀ k, k < 5 → parseFieldDescriptor (TX5 k).2.2.1 = some (tyX5 k) := by decide +kernel
abbrev cX5_init : ByteArray := prog_7_method_1_code
def yX5_init : MethodName := ⟨RX5, "<init>", "()V"⟩
abbrev cX5_size : ByteArray := prog_7_method_2_code
def yX5_size : MethodName := ⟨RX5, "size", "()I"⟩
def RX6 : String := "BoreholeColumns"
def TX6 : u_T := fun k => match k with
  | 0 => ("BoreholeColumns", "present", "LBoreholeColumns$State;", true)
  | 1 => ("BoreholeColumns", "history", "LBoreholeColumns$History;", true)
  | 2 => ("BoreholeColumns", "images", "[LBoreholeColumns$State;", true)
  | 3 => ("BoreholeColumns", "keptImages", "I", false)
  | 4 => ("BoreholeColumns", "text", "LBoreholeColumns$Text;", true)
  | 5 => ("BoreholeColumns", "faulted", "LBoreholeColumns$Column;", true)
  | 6 => ("BoreholeColumns", "matching", "LBoreholeColumns$Matching;", true)
  | 7 => ("BoreholeColumns", "onward", "LBoreholeColumns$Matching;", true)
  | _ => ("BoreholeColumns", "direct", "LBoreholeColumns$Matching;", true)
def tyX6 : Nat → FieldType := fun k => match k with
  | 0 => .object "BoreholeColumns$State"
  | 1 => .object "BoreholeColumns$History"
  | 2 => .array (.object "BoreholeColumns$State")
  | 3 => .int
  | 4 => .object "BoreholeColumns$Text"
  | 5 => .object "BoreholeColumns$Column"
  | 6 => .object "BoreholeColumns$Matching"
  | 7 => .object "BoreholeColumns$Matching"
  | _ => .object "BoreholeColumns$Matching"
theorem nmX6 : ∀ a, a < 9 → ∀ b, b < 9 → a ≠ b → (TX6 a).2.1 ≠ (TX6 b).2.1 := by decide +kernel
theorem tyX6_ok : ∀ k, k < 9 → parseFieldDescriptor (TX6 k).2.2.1 = some (tyX6 k) := by decide +kernel
abbrev cX6_init : ByteArray := prog_1_method_1_code
def yX6_init : MethodName := ⟨RX6, "<init>", "()V"⟩
abbrev cX6_setNumber : ByteArray := prog_1_method_2_code
def yX6_setNumber : MethodName := ⟨RX6, "setNumber", "(II)I"⟩
abbrev cX6_setKey : ByteArray := prog_1_method_3_code
def yX6_setKey : MethodName := ⟨RX6, "setKey", "(II)I"⟩
abbrev cX6_setCollar : ByteArray := prog_1_method_4_code
def yX6_setCollar : MethodName := ⟨RX6, "setCollar", "(II)I"⟩
abbrev cX6_addBed : ByteArray := prog_1_method_5_code
def yX6_addBed : MethodName := ⟨RX6, "addBed", "(IIII)I"⟩
abbrev cX6_removeBed : ByteArray := prog_1_method_6_code
def yX6_removeBed : MethodName := ⟨RX6, "removeBed", "(II)I"⟩
abbrev cX6_setThickness : ByteArray := prog_1_method_7_code
def yX6_setThickness : MethodName := ⟨RX6, "setThickness", "(III)I"⟩
abbrev cX6_cut : ByteArray := prog_1_method_8_code
def yX6_cut : MethodName := ⟨RX6, "cut", "(III)I"⟩
abbrev cX6_count : ByteArray := prog_1_method_15_code
def yX6_count : MethodName := ⟨RX6, "count", "(I)I"⟩
abbrev cX6_hole : ByteArray := prog_1_method_16_code
def yX6_hole : MethodName := ⟨RX6, "hole", "(II)I"⟩
abbrev cX6_bed : ByteArray := prog_1_method_17_code
def yX6_bed : MethodName := ⟨RX6, "bed", "(III)I"⟩
abbrev cX6_find : ByteArray := prog_1_method_18_code
def yX6_find : MethodName := ⟨RX6, "find", "(III)I"⟩
abbrev cX6_account : ByteArray := prog_1_method_19_code
def yX6_account : MethodName := ⟨RX6, "account", "(I)I"⟩
abbrev cX6_cost : ByteArray := prog_1_method_20_code
def yX6_cost : MethodName := ⟨RX6, "cost", "(III)I"⟩
abbrev cX6_why : ByteArray := prog_1_method_21_code
def yX6_why : MethodName := ⟨RX6, "why", "(IIII)I"⟩
abbrev cX6_partner : ByteArray := prog_1_method_22_code
def yX6_partner : MethodName := ⟨RX6, "partner", "(IIII)I"⟩
abbrev cX6_matched : ByteArray := prog_1_method_23_code
def yX6_matched : MethodName := ⟨RX6, "matched", "(III)I"⟩
abbrev cX6_fault : ByteArray := prog_1_method_24_code
def yX6_fault : MethodName := ⟨RX6, "fault", "(IIII)I"⟩
abbrev cX6_sumOfThrows : ByteArray := prog_1_method_25_code
def yX6_sumOfThrows : MethodName := ⟨RX6, "sumOfThrows", "(III)I"⟩
abbrev cX6_isHole : ByteArray := prog_1_method_28_code
def yX6_isHole : MethodName := ⟨RX6, "isHole", "(I)Z"⟩
abbrev cX6_isMark : ByteArray := prog_1_method_29_code
def yX6_isMark : MethodName := ⟨RX6, "isMark", "(I)Z"⟩
abbrev cX6_isThickness : ByteArray := prog_1_method_30_code
def yX6_isThickness : MethodName := ⟨RX6, "isThickness", "(I)Z"⟩
abbrev cX6_arePair : ByteArray := prog_1_method_32_code
def yX6_arePair : MethodName := ⟨RX6, "arePair", "(II)Z"⟩
abbrev cX6_isBedOfPair : ByteArray := prog_1_method_33_code
def yX6_isBedOfPair : MethodName := ⟨RX6, "isBedOfPair", "(IIII)Z"⟩
def RX7 : String := "BoreholeColumnsModel"
def TX7 : u_T := fun k => match k with
  | _ => ("", "", "", false)
def tyX7 : Nat → FieldType := fun k => match k with
  | _ => .int
theorem nmX7 : ∀ a, a < 0 → ∀ b, b < 0 → a ≠ b → (TX7 a).2.1 ≠ (TX7 b).2.1 := by decide +kernel
theorem tyX7_ok : ∀ k, k < 0 → parseFieldDescriptor (TX7 k).2.2.1 = some (tyX7 k) := by decide +kernel
def RJ6 : String := "java/lang/Integer"
def TJ6 : u_T := fun k => match k with
  | _ => ("", "", "", false)
def tyJ6 : Nat → FieldType := fun k => match k with
  | _ => .int
theorem tyJ6_ok : ∀ k, k < 0 → parseFieldDescriptor (TJ6 k).2.2.1 = some (tyJ6 k) := by decide +kernel
abbrev cJ6_bitCount_0f7a4 : ByteArray := prog_10_method_49_code
def yJ6_bitCount_0f7a4 : MethodName := ⟨RJ6, "bitCount", "(I)I"⟩
def RJ9 : String := "java/lang/Math"
def TJ9 : u_T := fun k => match k with
  | _ => ("", "", "", false)
def tyJ9 : Nat → FieldType := fun k => match k with
  | _ => .int
theorem tyJ9_ok : ∀ k, k < 0 → parseFieldDescriptor (TJ9 k).2.2.1 = some (tyJ9 k) := by decide +kernel
abbrev cJ9_abs_0f7a4 : ByteArray := prog_11_method_59_code
def yJ9_abs_0f7a4 : MethodName := ⟨RJ9, "abs", "(I)I"⟩
abbrev cJ9_max_7cf53 : ByteArray := prog_11_method_65_code
def yJ9_max_7cf53 : MethodName := ⟨RJ9, "max", "(II)I"⟩
abbrev cJ9_min_7cf53 : ByteArray := prog_11_method_69_code
def yJ9_min_7cf53 : MethodName := ⟨RJ9, "min", "(II)I"⟩
def RJ10 : String := "java/lang/System"
def TJ10 : u_T := fun k => match k with
  | _ => ("", "", "", false)
def tyJ10 : Nat → FieldType := fun k => match k with
  | _ => .int
theorem tyJ10_ok : ∀ k, k < 0 → parseFieldDescriptor (TJ10 k).2.2.1 = some (tyJ10 k) := by decide +kernel
def RL : String := "BoreholeColumnsLaw"
abbrev cL_cell : ByteArray := method_2_code
def yL_cell : MethodName := ⟨RL, "cell", "([II)I"⟩
abbrev cL_low : ByteArray := method_3_code
def yL_low : MethodName := ⟨RL, "low", "(II)I"⟩
abbrev cL_length : ByteArray := method_4_code
def yL_length : MethodName := ⟨RL, "length", "([I[II)I"⟩
abbrev cL_depth : ByteArray := method_5_code
def yL_depth : MethodName := ⟨RL, "depth", "([III)I"⟩
abbrev cL_off : ByteArray := method_6_code
def yL_off : MethodName := ⟨RL, "off", "(II)I"⟩
abbrev cL_alone : ByteArray := method_7_code
def yL_alone : MethodName := ⟨RL, "alone", "([II)I"⟩
abbrev cL_twin : ByteArray := method_8_code
def yL_twin : MethodName := ⟨RL, "twin", "([I[IIII)I"⟩
abbrev cL_added : ByteArray := method_9_code
def yL_added : MethodName := ⟨RL, "added", "([I[IIIIII)I"⟩
abbrev cL_least : ByteArray := method_10_code
def yL_least : MethodName := ⟨RL, "least", "([I[III[I)I"⟩
abbrev cL_walk : ByteArray := method_11_code
def yL_walk : MethodName := ⟨RL, "walk", "([I[III[I[I)V"⟩
abbrev cL_cuts : ByteArray := method_12_code
def yL_cuts : MethodName := ⟨RL, "cuts", "([I[IIII[I)I"⟩
abbrev cL_acts : ByteArray := method_13_code
def yL_acts : MethodName := ⟨RL, "acts", "(LBoreholeColumns;[I[II)Z"⟩
abbrev cL_starts : ByteArray := method_14_code
def yL_starts : MethodName := ⟨RL, "starts", "([I)V"⟩
abbrev cL_arePaired : ByteArray := method_15_code
def yL_arePaired : MethodName := ⟨RL, "arePaired", "(LBoreholeColumns;[I[I[I[III)Z"⟩
abbrev cL_isSo : ByteArray := method_16_code
def yL_isSo : MethodName := ⟨RL, "isSo", "(LBoreholeColumns;[I[I[I[II)Z"⟩
abbrev cL_law : ByteArray := code
def yL_law : MethodName := ⟨RL, "law", "([I)Z"⟩
theorem dX0_init_0 : decode cX0_init 0 = .ok (.aload_n 0, 1) := by decide +kernel
theorem dX0_init_1 : decode cX0_init 1 = .ok (.invokespecial 3, 3) := by decide +kernel
theorem dX0_init_4 : decode cX0_init 4 = .ok (.aload_n 0, 1) := by decide +kernel
theorem dX0_init_5 : decode cX0_init 5 = .ok (.iconst 0, 1) := by decide +kernel
theorem dX0_init_6 : decode cX0_init 6 = .ok (.putfield 9, 3) := by decide +kernel
theorem dX0_init_9 : decode cX0_init 9 = .ok (.aload_n 0, 1) := by decide +kernel
theorem dX0_init_10 : decode cX0_init 10 = .ok (.iconst 0, 1) := by decide +kernel
theorem dX0_init_11 : decode cX0_init 11 = .ok (.putfield 15, 3) := by decide +kernel
theorem dX0_init_14 : decode cX0_init 14 = .ok (.aload_n 0, 1) := by decide +kernel
theorem dX0_init_15 : decode cX0_init 15 = .ok (.bipush 24, 2) := by decide +kernel
theorem dX0_init_17 : decode cX0_init 17 = .ok (.newarray .int, 2) := by decide +kernel
theorem dX0_init_19 : decode cX0_init 19 = .ok (.putfield 18, 3) := by decide +kernel
theorem dX0_init_22 : decode cX0_init 22 = .ok (.aload_n 0, 1) := by decide +kernel
theorem dX0_init_23 : decode cX0_init 23 = .ok (.bipush 24, 2) := by decide +kernel
theorem dX0_init_25 : decode cX0_init 25 = .ok (.newarray .int, 2) := by decide +kernel
theorem dX0_init_27 : decode cX0_init 27 = .ok (.putfield 22, 3) := by decide +kernel
theorem dX0_init_30 : decode cX0_init 30 = .ok (.return_, 1) := by decide +kernel
theorem dX0_collarElevation_0 : decode cX0_collarElevation 0 = .ok (.aload_n 0, 1) := by decide +kernel
theorem dX0_collarElevation_1 : decode cX0_collarElevation 1 = .ok (.getfield 9, 3) := by decide +kernel
theorem dX0_collarElevation_4 : decode cX0_collarElevation 4 = .ok (.ireturn, 1) := by decide +kernel
theorem dX0_putCollar_0 : decode cX0_putCollar 0 = .ok (.aload_n 0, 1) := by decide +kernel
theorem dX0_putCollar_1 : decode cX0_putCollar 1 = .ok (.iload_n 1, 1) := by decide +kernel
theorem dX0_putCollar_2 : decode cX0_putCollar 2 = .ok (.putfield 9, 3) := by decide +kernel
theorem dX0_putCollar_5 : decode cX0_putCollar 5 = .ok (.return_, 1) := by decide +kernel
theorem dX0_size_0 : decode cX0_size 0 = .ok (.aload_n 0, 1) := by decide +kernel
theorem dX0_size_1 : decode cX0_size 1 = .ok (.getfield 15, 3) := by decide +kernel
theorem dX0_size_4 : decode cX0_size 4 = .ok (.ireturn, 1) := by decide +kernel
theorem dX0_has_0 : decode cX0_has 0 = .ok (.iload_n 1, 1) := by decide +kernel
theorem dX0_has_1 : decode cX0_has 1 = .ok (.ifCond .lt 21, 3) := by decide +kernel
theorem dX0_has_4 : decode cX0_has 4 = .ok (.iload_n 1, 1) := by decide +kernel
theorem dX0_has_5 : decode cX0_has 5 = .ok (.aload_n 0, 1) := by decide +kernel
theorem dX0_has_6 : decode cX0_has 6 = .ok (.getfield 15, 3) := by decide +kernel
theorem dX0_has_9 : decode cX0_has 9 = .ok (.if_icmp .ge 13, 3) := by decide +kernel
theorem dX0_has_12 : decode cX0_has 12 = .ok (.iload_n 1, 1) := by decide +kernel
theorem dX0_has_13 : decode cX0_has 13 = .ok (.bipush 24, 2) := by decide +kernel
theorem dX0_has_15 : decode cX0_has 15 = .ok (.if_icmp .ge 7, 3) := by decide +kernel
theorem dX0_has_18 : decode cX0_has 18 = .ok (.iconst 1, 1) := by decide +kernel
theorem dX0_has_19 : decode cX0_has 19 = .ok (.goto 4, 3) := by decide +kernel
theorem dX0_has_22 : decode cX0_has 22 = .ok (.iconst 0, 1) := by decide +kernel
theorem dX0_has_23 : decode cX0_has 23 = .ok (.ireturn, 1) := by decide +kernel
theorem dX0_markOf_0 : decode cX0_markOf 0 = .ok (.aload_n 0, 1) := by decide +kernel
theorem dX0_markOf_1 : decode cX0_markOf 1 = .ok (.iload_n 1, 1) := by decide +kernel
theorem dX0_markOf_2 : decode cX0_markOf 2 = .ok (.invokevirtual 25, 3) := by decide +kernel
theorem dX0_markOf_5 : decode cX0_markOf 5 = .ok (.ifCond .eq 12, 3) := by decide +kernel
theorem dX0_markOf_8 : decode cX0_markOf 8 = .ok (.aload_n 0, 1) := by decide +kernel
theorem dX0_markOf_9 : decode cX0_markOf 9 = .ok (.getfield 18, 3) := by decide +kernel
theorem dX0_markOf_12 : decode cX0_markOf 12 = .ok (.iload_n 1, 1) := by decide +kernel
theorem dX0_markOf_13 : decode cX0_markOf 13 = .ok (.iaload, 1) := by decide +kernel
theorem dX0_markOf_14 : decode cX0_markOf 14 = .ok (.goto 5, 3) := by decide +kernel
theorem dX0_markOf_17 : decode cX0_markOf 17 = .ok (.ldc 29, 2) := by decide +kernel
theorem dX0_markOf_19 : decode cX0_markOf 19 = .ok (.ireturn, 1) := by decide +kernel
theorem dX0_thicknessOf_0 : decode cX0_thicknessOf 0 = .ok (.aload_n 0, 1) := by decide +kernel
theorem dX0_thicknessOf_1 : decode cX0_thicknessOf 1 = .ok (.iload_n 1, 1) := by decide +kernel
theorem dX0_thicknessOf_2 : decode cX0_thicknessOf 2 = .ok (.invokevirtual 25, 3) := by decide +kernel
theorem dX0_thicknessOf_5 : decode cX0_thicknessOf 5 = .ok (.ifCond .eq 12, 3) := by decide +kernel
theorem dX0_thicknessOf_8 : decode cX0_thicknessOf 8 = .ok (.aload_n 0, 1) := by decide +kernel
theorem dX0_thicknessOf_9 : decode cX0_thicknessOf 9 = .ok (.getfield 22, 3) := by decide +kernel
theorem dX0_thicknessOf_12 : decode cX0_thicknessOf 12 = .ok (.iload_n 1, 1) := by decide +kernel
theorem dX0_thicknessOf_13 : decode cX0_thicknessOf 13 = .ok (.iaload, 1) := by decide +kernel
theorem dX0_thicknessOf_14 : decode cX0_thicknessOf 14 = .ok (.goto 4, 3) := by decide +kernel
theorem dX0_thicknessOf_17 : decode cX0_thicknessOf 17 = .ok (.iconst 0, 1) := by decide +kernel
theorem dX0_thicknessOf_18 : decode cX0_thicknessOf 18 = .ok (.ireturn, 1) := by decide +kernel
theorem dX0_putThickness_0 : decode cX0_putThickness 0 = .ok (.aload_n 0, 1) := by decide +kernel
theorem dX0_putThickness_1 : decode cX0_putThickness 1 = .ok (.iload_n 1, 1) := by decide +kernel
theorem dX0_putThickness_2 : decode cX0_putThickness 2 = .ok (.invokevirtual 25, 3) := by decide +kernel
theorem dX0_putThickness_5 : decode cX0_putThickness 5 = .ok (.ifCond .eq 10, 3) := by decide +kernel
theorem dX0_putThickness_8 : decode cX0_putThickness 8 = .ok (.aload_n 0, 1) := by decide +kernel
theorem dX0_putThickness_9 : decode cX0_putThickness 9 = .ok (.getfield 22, 3) := by decide +kernel
theorem dX0_putThickness_12 : decode cX0_putThickness 12 = .ok (.iload_n 1, 1) := by decide +kernel
theorem dX0_putThickness_13 : decode cX0_putThickness 13 = .ok (.iload_n 2, 1) := by decide +kernel
theorem dX0_putThickness_14 : decode cX0_putThickness 14 = .ok (.iastore, 1) := by decide +kernel
theorem dX0_putThickness_15 : decode cX0_putThickness 15 = .ok (.return_, 1) := by decide +kernel
theorem dX0_depthOf_0 : decode cX0_depthOf 0 = .ok (.iconst 0, 1) := by decide +kernel
theorem dX0_depthOf_1 : decode cX0_depthOf 1 = .ok (.istore_n 2, 1) := by decide +kernel
theorem dX0_depthOf_2 : decode cX0_depthOf 2 = .ok (.iconst 0, 1) := by decide +kernel
theorem dX0_depthOf_3 : decode cX0_depthOf 3 = .ok (.istore_n 3, 1) := by decide +kernel
theorem dX0_depthOf_4 : decode cX0_depthOf 4 = .ok (.iload_n 3, 1) := by decide +kernel
theorem dX0_depthOf_5 : decode cX0_depthOf 5 = .ok (.iload_n 1, 1) := by decide +kernel
theorem dX0_depthOf_6 : decode cX0_depthOf 6 = .ok (.if_icmp .ge 32, 3) := by decide +kernel
theorem dX0_depthOf_9 : decode cX0_depthOf 9 = .ok (.iload_n 3, 1) := by decide +kernel
theorem dX0_depthOf_10 : decode cX0_depthOf 10 = .ok (.bipush 24, 2) := by decide +kernel
theorem dX0_depthOf_12 : decode cX0_depthOf 12 = .ok (.if_icmp .ge 26, 3) := by decide +kernel
theorem dX0_depthOf_15 : decode cX0_depthOf 15 = .ok (.aload_n 0, 1) := by decide +kernel
theorem dX0_depthOf_16 : decode cX0_depthOf 16 = .ok (.iload_n 3, 1) := by decide +kernel
theorem dX0_depthOf_17 : decode cX0_depthOf 17 = .ok (.invokevirtual 25, 3) := by decide +kernel
theorem dX0_depthOf_20 : decode cX0_depthOf 20 = .ok (.ifCond .eq 18, 3) := by decide +kernel
theorem dX0_depthOf_23 : decode cX0_depthOf 23 = .ok (.iload_n 2, 1) := by decide +kernel
theorem dX0_depthOf_24 : decode cX0_depthOf 24 = .ok (.aload_n 0, 1) := by decide +kernel
theorem dX0_depthOf_25 : decode cX0_depthOf 25 = .ok (.getfield 22, 3) := by decide +kernel
theorem dX0_depthOf_28 : decode cX0_depthOf 28 = .ok (.iload_n 3, 1) := by decide +kernel
theorem dX0_depthOf_29 : decode cX0_depthOf 29 = .ok (.iaload, 1) := by decide +kernel
theorem dX0_depthOf_30 : decode cX0_depthOf 30 = .ok (.iadd, 1) := by decide +kernel
theorem dX0_depthOf_31 : decode cX0_depthOf 31 = .ok (.istore_n 2, 1) := by decide +kernel
theorem dX0_depthOf_32 : decode cX0_depthOf 32 = .ok (.iinc 3 1, 3) := by decide +kernel
theorem dX0_depthOf_35 : decode cX0_depthOf 35 = .ok (.goto (-31), 3) := by decide +kernel
theorem dX0_depthOf_38 : decode cX0_depthOf 38 = .ok (.iload_n 2, 1) := by decide +kernel
theorem dX0_depthOf_39 : decode cX0_depthOf 39 = .ok (.ireturn, 1) := by decide +kernel
theorem dX0_elevationOf_0 : decode cX0_elevationOf 0 = .ok (.aload_n 0, 1) := by decide +kernel
theorem dX0_elevationOf_1 : decode cX0_elevationOf 1 = .ok (.getfield 9, 3) := by decide +kernel
theorem dX0_elevationOf_4 : decode cX0_elevationOf 4 = .ok (.aload_n 0, 1) := by decide +kernel
theorem dX0_elevationOf_5 : decode cX0_elevationOf 5 = .ok (.iload_n 1, 1) := by decide +kernel
theorem dX0_elevationOf_6 : decode cX0_elevationOf 6 = .ok (.invokevirtual 30, 3) := by decide +kernel
theorem dX0_elevationOf_9 : decode cX0_elevationOf 9 = .ok (.isub, 1) := by decide +kernel
theorem dX0_elevationOf_10 : decode cX0_elevationOf 10 = .ok (.ireturn, 1) := by decide +kernel
theorem dX0_totalThickness_0 : decode cX0_totalThickness 0 = .ok (.aload_n 0, 1) := by decide +kernel
theorem dX0_totalThickness_1 : decode cX0_totalThickness 1 = .ok (.aload_n 0, 1) := by decide +kernel
theorem dX0_totalThickness_2 : decode cX0_totalThickness 2 = .ok (.getfield 15, 3) := by decide +kernel
theorem dX0_totalThickness_5 : decode cX0_totalThickness 5 = .ok (.invokevirtual 30, 3) := by decide +kernel
theorem dX0_totalThickness_8 : decode cX0_totalThickness 8 = .ok (.ireturn, 1) := by decide +kernel
theorem dX0_bedWithMark_0 : decode cX0_bedWithMark 0 = .ok (.iconst 0, 1) := by decide +kernel
theorem dX0_bedWithMark_1 : decode cX0_bedWithMark 1 = .ok (.istore_n 3, 1) := by decide +kernel
theorem dX0_bedWithMark_2 : decode cX0_bedWithMark 2 = .ok (.iconst 0, 1) := by decide +kernel
theorem dX0_bedWithMark_3 : decode cX0_bedWithMark 3 = .ok (.istore 4, 2) := by decide +kernel
theorem dX0_bedWithMark_5 : decode cX0_bedWithMark 5 = .ok (.iload 4, 2) := by decide +kernel
theorem dX0_bedWithMark_7 : decode cX0_bedWithMark 7 = .ok (.bipush 24, 2) := by decide +kernel
theorem dX0_bedWithMark_9 : decode cX0_bedWithMark 9 = .ok (.if_icmp .ge 40, 3) := by decide +kernel
theorem dX0_bedWithMark_12 : decode cX0_bedWithMark 12 = .ok (.aload_n 0, 1) := by decide +kernel
theorem dX0_bedWithMark_13 : decode cX0_bedWithMark 13 = .ok (.iload 4, 2) := by decide +kernel
theorem dX0_bedWithMark_15 : decode cX0_bedWithMark 15 = .ok (.invokevirtual 25, 3) := by decide +kernel
theorem dX0_bedWithMark_18 : decode cX0_bedWithMark 18 = .ok (.ifCond .eq 31, 3) := by decide +kernel
theorem dX0_bedWithMark_21 : decode cX0_bedWithMark 21 = .ok (.aload_n 0, 1) := by decide +kernel
theorem dX0_bedWithMark_22 : decode cX0_bedWithMark 22 = .ok (.getfield 18, 3) := by decide +kernel
theorem dX0_bedWithMark_25 : decode cX0_bedWithMark 25 = .ok (.iload 4, 2) := by decide +kernel
theorem dX0_bedWithMark_27 : decode cX0_bedWithMark 27 = .ok (.iaload, 1) := by decide +kernel
theorem dX0_bedWithMark_28 : decode cX0_bedWithMark 28 = .ok (.iload_n 1, 1) := by decide +kernel
theorem dX0_bedWithMark_29 : decode cX0_bedWithMark 29 = .ok (.if_icmp .ne 14, 3) := by decide +kernel
theorem dX0_bedWithMark_32 : decode cX0_bedWithMark 32 = .ok (.iload_n 3, 1) := by decide +kernel
theorem dX0_bedWithMark_33 : decode cX0_bedWithMark 33 = .ok (.iload_n 2, 1) := by decide +kernel
theorem dX0_bedWithMark_34 : decode cX0_bedWithMark 34 = .ok (.if_icmp .ne 6, 3) := by decide +kernel
theorem dX0_bedWithMark_37 : decode cX0_bedWithMark 37 = .ok (.iload 4, 2) := by decide +kernel
theorem dX0_bedWithMark_39 : decode cX0_bedWithMark 39 = .ok (.ireturn, 1) := by decide +kernel
theorem dX0_bedWithMark_40 : decode cX0_bedWithMark 40 = .ok (.iinc 3 1, 3) := by decide +kernel
theorem dX0_bedWithMark_43 : decode cX0_bedWithMark 43 = .ok (.iinc 4 1, 3) := by decide +kernel
theorem dX0_bedWithMark_46 : decode cX0_bedWithMark 46 = .ok (.goto (-41), 3) := by decide +kernel
theorem dX0_bedWithMark_49 : decode cX0_bedWithMark 49 = .ok (.ldc 29, 2) := by decide +kernel
theorem dX0_bedWithMark_51 : decode cX0_bedWithMark 51 = .ok (.ireturn, 1) := by decide +kernel
theorem dX0_clear_0 : decode cX0_clear 0 = .ok (.aload_n 0, 1) := by decide +kernel
theorem dX0_clear_1 : decode cX0_clear 1 = .ok (.iconst 0, 1) := by decide +kernel
theorem dX0_clear_2 : decode cX0_clear 2 = .ok (.putfield 15, 3) := by decide +kernel
theorem dX0_clear_5 : decode cX0_clear 5 = .ok (.return_, 1) := by decide +kernel
theorem dX0_insert_0 : decode cX0_insert 0 = .ok (.aload_n 0, 1) := by decide +kernel
theorem dX0_insert_1 : decode cX0_insert 1 = .ok (.getfield 15, 3) := by decide +kernel
theorem dX0_insert_4 : decode cX0_insert 4 = .ok (.ifCond .lt 24, 3) := by decide +kernel
theorem dX0_insert_7 : decode cX0_insert 7 = .ok (.aload_n 0, 1) := by decide +kernel
theorem dX0_insert_8 : decode cX0_insert 8 = .ok (.getfield 15, 3) := by decide +kernel
theorem dX0_insert_11 : decode cX0_insert 11 = .ok (.bipush 24, 2) := by decide +kernel
theorem dX0_insert_13 : decode cX0_insert 13 = .ok (.if_icmp .ge 15, 3) := by decide +kernel
theorem dX0_insert_16 : decode cX0_insert 16 = .ok (.iload_n 1, 1) := by decide +kernel
theorem dX0_insert_17 : decode cX0_insert 17 = .ok (.ifCond .lt 11, 3) := by decide +kernel
theorem dX0_insert_20 : decode cX0_insert 20 = .ok (.iload_n 1, 1) := by decide +kernel
theorem dX0_insert_21 : decode cX0_insert 21 = .ok (.aload_n 0, 1) := by decide +kernel
theorem dX0_insert_22 : decode cX0_insert 22 = .ok (.getfield 15, 3) := by decide +kernel
theorem dX0_insert_25 : decode cX0_insert 25 = .ok (.if_icmp .le 5, 3) := by decide +kernel
theorem dX0_insert_28 : decode cX0_insert 28 = .ok (.iconst 0, 1) := by decide +kernel
theorem dX0_insert_29 : decode cX0_insert 29 = .ok (.ireturn, 1) := by decide +kernel
theorem dX0_insert_30 : decode cX0_insert 30 = .ok (.aload_n 0, 1) := by decide +kernel
theorem dX0_insert_31 : decode cX0_insert 31 = .ok (.getfield 15, 3) := by decide +kernel
theorem dX0_insert_34 : decode cX0_insert 34 = .ok (.istore 4, 2) := by decide +kernel
theorem dX0_insert_36 : decode cX0_insert 36 = .ok (.iload 4, 2) := by decide +kernel
theorem dX0_insert_38 : decode cX0_insert 38 = .ok (.iload_n 1, 1) := by decide +kernel
theorem dX0_insert_39 : decode cX0_insert 39 = .ok (.if_icmp .le 41, 3) := by decide +kernel
theorem dX0_insert_42 : decode cX0_insert 42 = .ok (.aload_n 0, 1) := by decide +kernel
theorem dX0_insert_43 : decode cX0_insert 43 = .ok (.getfield 18, 3) := by decide +kernel
theorem dX0_insert_46 : decode cX0_insert 46 = .ok (.iload 4, 2) := by decide +kernel
theorem dX0_insert_48 : decode cX0_insert 48 = .ok (.aload_n 0, 1) := by decide +kernel
theorem dX0_insert_49 : decode cX0_insert 49 = .ok (.getfield 18, 3) := by decide +kernel
theorem dX0_insert_52 : decode cX0_insert 52 = .ok (.iload 4, 2) := by decide +kernel
theorem dX0_insert_54 : decode cX0_insert 54 = .ok (.iconst 1, 1) := by decide +kernel
theorem dX0_insert_55 : decode cX0_insert 55 = .ok (.isub, 1) := by decide +kernel
theorem dX0_insert_56 : decode cX0_insert 56 = .ok (.iaload, 1) := by decide +kernel
theorem dX0_insert_57 : decode cX0_insert 57 = .ok (.iastore, 1) := by decide +kernel
theorem dX0_insert_58 : decode cX0_insert 58 = .ok (.aload_n 0, 1) := by decide +kernel
theorem dX0_insert_59 : decode cX0_insert 59 = .ok (.getfield 22, 3) := by decide +kernel
theorem dX0_insert_62 : decode cX0_insert 62 = .ok (.iload 4, 2) := by decide +kernel
theorem dX0_insert_64 : decode cX0_insert 64 = .ok (.aload_n 0, 1) := by decide +kernel
theorem dX0_insert_65 : decode cX0_insert 65 = .ok (.getfield 22, 3) := by decide +kernel
theorem dX0_insert_68 : decode cX0_insert 68 = .ok (.iload 4, 2) := by decide +kernel
theorem dX0_insert_70 : decode cX0_insert 70 = .ok (.iconst 1, 1) := by decide +kernel
theorem dX0_insert_71 : decode cX0_insert 71 = .ok (.isub, 1) := by decide +kernel
theorem dX0_insert_72 : decode cX0_insert 72 = .ok (.iaload, 1) := by decide +kernel
theorem dX0_insert_73 : decode cX0_insert 73 = .ok (.iastore, 1) := by decide +kernel
theorem dX0_insert_74 : decode cX0_insert 74 = .ok (.iinc 4 (-1), 3) := by decide +kernel
theorem dX0_insert_77 : decode cX0_insert 77 = .ok (.goto (-41), 3) := by decide +kernel
theorem dX0_insert_80 : decode cX0_insert 80 = .ok (.aload_n 0, 1) := by decide +kernel
theorem dX0_insert_81 : decode cX0_insert 81 = .ok (.getfield 18, 3) := by decide +kernel
theorem dX0_insert_84 : decode cX0_insert 84 = .ok (.iload_n 1, 1) := by decide +kernel
theorem dX0_insert_85 : decode cX0_insert 85 = .ok (.iload_n 2, 1) := by decide +kernel
theorem dX0_insert_86 : decode cX0_insert 86 = .ok (.iastore, 1) := by decide +kernel
theorem dX0_insert_87 : decode cX0_insert 87 = .ok (.aload_n 0, 1) := by decide +kernel
theorem dX0_insert_88 : decode cX0_insert 88 = .ok (.getfield 22, 3) := by decide +kernel
theorem dX0_insert_91 : decode cX0_insert 91 = .ok (.iload_n 1, 1) := by decide +kernel
theorem dX0_insert_92 : decode cX0_insert 92 = .ok (.iload_n 3, 1) := by decide +kernel
theorem dX0_insert_93 : decode cX0_insert 93 = .ok (.iastore, 1) := by decide +kernel
theorem dX0_insert_94 : decode cX0_insert 94 = .ok (.aload_n 0, 1) := by decide +kernel
theorem dX0_insert_95 : decode cX0_insert 95 = .ok (.dup, 1) := by decide +kernel
theorem dX0_insert_96 : decode cX0_insert 96 = .ok (.getfield 15, 3) := by decide +kernel
theorem dX0_insert_99 : decode cX0_insert 99 = .ok (.iconst 1, 1) := by decide +kernel
theorem dX0_insert_100 : decode cX0_insert 100 = .ok (.iadd, 1) := by decide +kernel
theorem dX0_insert_101 : decode cX0_insert 101 = .ok (.putfield 15, 3) := by decide +kernel
theorem dX0_insert_104 : decode cX0_insert 104 = .ok (.iconst 1, 1) := by decide +kernel
theorem dX0_insert_105 : decode cX0_insert 105 = .ok (.ireturn, 1) := by decide +kernel
theorem dX0_takeOut_0 : decode cX0_takeOut 0 = .ok (.aload_n 0, 1) := by decide +kernel
theorem dX0_takeOut_1 : decode cX0_takeOut 1 = .ok (.iload_n 1, 1) := by decide +kernel
theorem dX0_takeOut_2 : decode cX0_takeOut 2 = .ok (.invokevirtual 25, 3) := by decide +kernel
theorem dX0_takeOut_5 : decode cX0_takeOut 5 = .ok (.ifCond .ne 4, 3) := by decide +kernel
theorem dX0_takeOut_8 : decode cX0_takeOut 8 = .ok (.return_, 1) := by decide +kernel
theorem dX0_takeOut_9 : decode cX0_takeOut 9 = .ok (.iload_n 1, 1) := by decide +kernel
theorem dX0_takeOut_10 : decode cX0_takeOut 10 = .ok (.istore_n 2, 1) := by decide +kernel
theorem dX0_takeOut_11 : decode cX0_takeOut 11 = .ok (.iload_n 2, 1) := by decide +kernel
theorem dX0_takeOut_12 : decode cX0_takeOut 12 = .ok (.iconst 1, 1) := by decide +kernel
theorem dX0_takeOut_13 : decode cX0_takeOut 13 = .ok (.iadd, 1) := by decide +kernel
theorem dX0_takeOut_14 : decode cX0_takeOut 14 = .ok (.bipush 24, 2) := by decide +kernel
theorem dX0_takeOut_16 : decode cX0_takeOut 16 = .ok (.if_icmp .ge 47, 3) := by decide +kernel
theorem dX0_takeOut_19 : decode cX0_takeOut 19 = .ok (.aload_n 0, 1) := by decide +kernel
theorem dX0_takeOut_20 : decode cX0_takeOut 20 = .ok (.iload_n 2, 1) := by decide +kernel
theorem dX0_takeOut_21 : decode cX0_takeOut 21 = .ok (.iconst 1, 1) := by decide +kernel
theorem dX0_takeOut_22 : decode cX0_takeOut 22 = .ok (.iadd, 1) := by decide +kernel
theorem dX0_takeOut_23 : decode cX0_takeOut 23 = .ok (.invokevirtual 25, 3) := by decide +kernel
theorem dX0_takeOut_26 : decode cX0_takeOut 26 = .ok (.ifCond .eq 37, 3) := by decide +kernel
theorem dX0_takeOut_29 : decode cX0_takeOut 29 = .ok (.aload_n 0, 1) := by decide +kernel
theorem dX0_takeOut_30 : decode cX0_takeOut 30 = .ok (.getfield 18, 3) := by decide +kernel
theorem dX0_takeOut_33 : decode cX0_takeOut 33 = .ok (.iload_n 2, 1) := by decide +kernel
theorem dX0_takeOut_34 : decode cX0_takeOut 34 = .ok (.aload_n 0, 1) := by decide +kernel
theorem dX0_takeOut_35 : decode cX0_takeOut 35 = .ok (.getfield 18, 3) := by decide +kernel
theorem dX0_takeOut_38 : decode cX0_takeOut 38 = .ok (.iload_n 2, 1) := by decide +kernel
theorem dX0_takeOut_39 : decode cX0_takeOut 39 = .ok (.iconst 1, 1) := by decide +kernel
theorem dX0_takeOut_40 : decode cX0_takeOut 40 = .ok (.iadd, 1) := by decide +kernel
theorem dX0_takeOut_41 : decode cX0_takeOut 41 = .ok (.iaload, 1) := by decide +kernel
theorem dX0_takeOut_42 : decode cX0_takeOut 42 = .ok (.iastore, 1) := by decide +kernel
theorem dX0_takeOut_43 : decode cX0_takeOut 43 = .ok (.aload_n 0, 1) := by decide +kernel
theorem dX0_takeOut_44 : decode cX0_takeOut 44 = .ok (.getfield 22, 3) := by decide +kernel
theorem dX0_takeOut_47 : decode cX0_takeOut 47 = .ok (.iload_n 2, 1) := by decide +kernel
theorem dX0_takeOut_48 : decode cX0_takeOut 48 = .ok (.aload_n 0, 1) := by decide +kernel
theorem dX0_takeOut_49 : decode cX0_takeOut 49 = .ok (.getfield 22, 3) := by decide +kernel
theorem dX0_takeOut_52 : decode cX0_takeOut 52 = .ok (.iload_n 2, 1) := by decide +kernel
theorem dX0_takeOut_53 : decode cX0_takeOut 53 = .ok (.iconst 1, 1) := by decide +kernel
theorem dX0_takeOut_54 : decode cX0_takeOut 54 = .ok (.iadd, 1) := by decide +kernel
theorem dX0_takeOut_55 : decode cX0_takeOut 55 = .ok (.iaload, 1) := by decide +kernel
theorem dX0_takeOut_56 : decode cX0_takeOut 56 = .ok (.iastore, 1) := by decide +kernel
theorem dX0_takeOut_57 : decode cX0_takeOut 57 = .ok (.iinc 2 1, 3) := by decide +kernel
theorem dX0_takeOut_60 : decode cX0_takeOut 60 = .ok (.goto (-49), 3) := by decide +kernel
theorem dX0_takeOut_63 : decode cX0_takeOut 63 = .ok (.aload_n 0, 1) := by decide +kernel
theorem dX0_takeOut_64 : decode cX0_takeOut 64 = .ok (.dup, 1) := by decide +kernel
theorem dX0_takeOut_65 : decode cX0_takeOut 65 = .ok (.getfield 15, 3) := by decide +kernel
theorem dX0_takeOut_68 : decode cX0_takeOut 68 = .ok (.iconst 1, 1) := by decide +kernel
theorem dX0_takeOut_69 : decode cX0_takeOut 69 = .ok (.isub, 1) := by decide +kernel
theorem dX0_takeOut_70 : decode cX0_takeOut 70 = .ok (.putfield 15, 3) := by decide +kernel
theorem dX0_takeOut_73 : decode cX0_takeOut 73 = .ok (.return_, 1) := by decide +kernel
theorem dX0_appendPart_0 : decode cX0_appendPart 0 = .ok (.iconst 0, 1) := by decide +kernel
theorem dX0_appendPart_1 : decode cX0_appendPart 1 = .ok (.istore 4, 2) := by decide +kernel
theorem dX0_appendPart_3 : decode cX0_appendPart 3 = .ok (.iconst 0, 1) := by decide +kernel
theorem dX0_appendPart_4 : decode cX0_appendPart 4 = .ok (.istore 5, 2) := by decide +kernel
theorem dX0_appendPart_6 : decode cX0_appendPart 6 = .ok (.iload 5, 2) := by decide +kernel
theorem dX0_appendPart_8 : decode cX0_appendPart 8 = .ok (.bipush 24, 2) := by decide +kernel
theorem dX0_appendPart_10 : decode cX0_appendPart 10 = .ok (.if_icmp .ge 74, 3) := by decide +kernel
theorem dX0_appendPart_13 : decode cX0_appendPart 13 = .ok (.aload_n 1, 1) := by decide +kernel
theorem dX0_appendPart_14 : decode cX0_appendPart 14 = .ok (.iload 5, 2) := by decide +kernel
theorem dX0_appendPart_16 : decode cX0_appendPart 16 = .ok (.invokevirtual 25, 3) := by decide +kernel
theorem dX0_appendPart_19 : decode cX0_appendPart 19 = .ok (.ifCond .eq 65, 3) := by decide +kernel
theorem dX0_appendPart_22 : decode cX0_appendPart 22 = .ok (.iload 4, 2) := by decide +kernel
theorem dX0_appendPart_24 : decode cX0_appendPart 24 = .ok (.aload_n 1, 1) := by decide +kernel
theorem dX0_appendPart_25 : decode cX0_appendPart 25 = .ok (.iload 5, 2) := by decide +kernel
theorem dX0_appendPart_27 : decode cX0_appendPart 27 = .ok (.invokevirtual 34, 3) := by decide +kernel
theorem dX0_appendPart_30 : decode cX0_appendPart 30 = .ok (.iadd, 1) := by decide +kernel
theorem dX0_appendPart_31 : decode cX0_appendPart 31 = .ok (.istore 6, 2) := by decide +kernel
theorem dX0_appendPart_33 : decode cX0_appendPart 33 = .ok (.iload 6, 2) := by decide +kernel
theorem dX0_appendPart_35 : decode cX0_appendPart 35 = .ok (.iload_n 3, 1) := by decide +kernel
theorem dX0_appendPart_36 : decode cX0_appendPart 36 = .ok (.invokestatic 37, 3) := by decide +kernel
theorem dX0_appendPart_39 : decode cX0_appendPart 39 = .ok (.iload 4, 2) := by decide +kernel
theorem dX0_appendPart_41 : decode cX0_appendPart 41 = .ok (.iload_n 2, 1) := by decide +kernel
theorem dX0_appendPart_42 : decode cX0_appendPart 42 = .ok (.invokestatic 43, 3) := by decide +kernel
theorem dX0_appendPart_45 : decode cX0_appendPart 45 = .ok (.isub, 1) := by decide +kernel
theorem dX0_appendPart_46 : decode cX0_appendPart 46 = .ok (.istore 7, 2) := by decide +kernel
theorem dX0_appendPart_48 : decode cX0_appendPart 48 = .ok (.iload 7, 2) := by decide +kernel
theorem dX0_appendPart_50 : decode cX0_appendPart 50 = .ok (.ifCond .le 24, 3) := by decide +kernel
theorem dX0_appendPart_53 : decode cX0_appendPart 53 = .ok (.aload_n 0, 1) := by decide +kernel
theorem dX0_appendPart_54 : decode cX0_appendPart 54 = .ok (.aload_n 0, 1) := by decide +kernel
theorem dX0_appendPart_55 : decode cX0_appendPart 55 = .ok (.getfield 15, 3) := by decide +kernel
theorem dX0_appendPart_58 : decode cX0_appendPart 58 = .ok (.aload_n 1, 1) := by decide +kernel
theorem dX0_appendPart_59 : decode cX0_appendPart 59 = .ok (.iload 5, 2) := by decide +kernel
theorem dX0_appendPart_61 : decode cX0_appendPart 61 = .ok (.invokevirtual 46, 3) := by decide +kernel
theorem dX0_appendPart_64 : decode cX0_appendPart 64 = .ok (.iload 7, 2) := by decide +kernel
theorem dX0_appendPart_66 : decode cX0_appendPart 66 = .ok (.invokevirtual 49, 3) := by decide +kernel
theorem dX0_appendPart_69 : decode cX0_appendPart 69 = .ok (.ifCond .ne 5, 3) := by decide +kernel
theorem dX0_appendPart_72 : decode cX0_appendPart 72 = .ok (.iconst 0, 1) := by decide +kernel
theorem dX0_appendPart_73 : decode cX0_appendPart 73 = .ok (.ireturn, 1) := by decide +kernel
theorem dX0_appendPart_74 : decode cX0_appendPart 74 = .ok (.iload 6, 2) := by decide +kernel
theorem dX0_appendPart_76 : decode cX0_appendPart 76 = .ok (.istore 4, 2) := by decide +kernel
theorem dX0_appendPart_78 : decode cX0_appendPart 78 = .ok (.iinc 5 1, 3) := by decide +kernel
theorem dX0_appendPart_81 : decode cX0_appendPart 81 = .ok (.goto (-75), 3) := by decide +kernel
theorem dX0_appendPart_84 : decode cX0_appendPart 84 = .ok (.iconst 1, 1) := by decide +kernel
theorem dX0_appendPart_85 : decode cX0_appendPart 85 = .ok (.ireturn, 1) := by decide +kernel
theorem dX0_takeBedsOf_0 : decode cX0_takeBedsOf 0 = .ok (.aload_n 0, 1) := by decide +kernel
theorem dX0_takeBedsOf_1 : decode cX0_takeBedsOf 1 = .ok (.aload_n 1, 1) := by decide +kernel
theorem dX0_takeBedsOf_2 : decode cX0_takeBedsOf 2 = .ok (.getfield 15, 3) := by decide +kernel
theorem dX0_takeBedsOf_5 : decode cX0_takeBedsOf 5 = .ok (.putfield 15, 3) := by decide +kernel
theorem dX0_takeBedsOf_8 : decode cX0_takeBedsOf 8 = .ok (.aload_n 1, 1) := by decide +kernel
theorem dX0_takeBedsOf_9 : decode cX0_takeBedsOf 9 = .ok (.getfield 18, 3) := by decide +kernel
theorem dX0_takeBedsOf_12 : decode cX0_takeBedsOf 12 = .ok (.iconst 0, 1) := by decide +kernel
theorem dX0_takeBedsOf_13 : decode cX0_takeBedsOf 13 = .ok (.aload_n 0, 1) := by decide +kernel
theorem dX0_takeBedsOf_14 : decode cX0_takeBedsOf 14 = .ok (.getfield 18, 3) := by decide +kernel
theorem dX0_takeBedsOf_17 : decode cX0_takeBedsOf 17 = .ok (.iconst 0, 1) := by decide +kernel
theorem dX0_takeBedsOf_18 : decode cX0_takeBedsOf 18 = .ok (.bipush 24, 2) := by decide +kernel
theorem dX0_takeBedsOf_20 : decode cX0_takeBedsOf 20 = .ok (.invokestatic 53, 3) := by decide +kernel
theorem dX0_takeBedsOf_23 : decode cX0_takeBedsOf 23 = .ok (.aload_n 1, 1) := by decide +kernel
theorem dX0_takeBedsOf_24 : decode cX0_takeBedsOf 24 = .ok (.getfield 22, 3) := by decide +kernel
theorem dX0_takeBedsOf_27 : decode cX0_takeBedsOf 27 = .ok (.iconst 0, 1) := by decide +kernel
theorem dX0_takeBedsOf_28 : decode cX0_takeBedsOf 28 = .ok (.aload_n 0, 1) := by decide +kernel
theorem dX0_takeBedsOf_29 : decode cX0_takeBedsOf 29 = .ok (.getfield 22, 3) := by decide +kernel
theorem dX0_takeBedsOf_32 : decode cX0_takeBedsOf 32 = .ok (.iconst 0, 1) := by decide +kernel
theorem dX0_takeBedsOf_33 : decode cX0_takeBedsOf 33 = .ok (.bipush 24, 2) := by decide +kernel
theorem dX0_takeBedsOf_35 : decode cX0_takeBedsOf 35 = .ok (.invokestatic 53, 3) := by decide +kernel
theorem dX0_takeBedsOf_38 : decode cX0_takeBedsOf 38 = .ok (.return_, 1) := by decide +kernel
theorem dX0_copyFrom_0 : decode cX0_copyFrom 0 = .ok (.aload_n 0, 1) := by decide +kernel
theorem dX0_copyFrom_1 : decode cX0_copyFrom 1 = .ok (.aload_n 1, 1) := by decide +kernel
theorem dX0_copyFrom_2 : decode cX0_copyFrom 2 = .ok (.getfield 9, 3) := by decide +kernel
theorem dX0_copyFrom_5 : decode cX0_copyFrom 5 = .ok (.putfield 9, 3) := by decide +kernel
theorem dX0_copyFrom_8 : decode cX0_copyFrom 8 = .ok (.aload_n 0, 1) := by decide +kernel
theorem dX0_copyFrom_9 : decode cX0_copyFrom 9 = .ok (.aload_n 1, 1) := by decide +kernel
theorem dX0_copyFrom_10 : decode cX0_copyFrom 10 = .ok (.invokevirtual 59, 3) := by decide +kernel
theorem dX0_copyFrom_13 : decode cX0_copyFrom 13 = .ok (.return_, 1) := by decide +kernel
theorem dX1_init_0 : decode cX1_init 0 = .ok (.aload_n 0, 1) := by decide +kernel
theorem dX1_init_1 : decode cX1_init 1 = .ok (.invokespecial 3, 3) := by decide +kernel
theorem dX1_init_4 : decode cX1_init 4 = .ok (.aload_n 0, 1) := by decide +kernel
theorem dX1_init_5 : decode cX1_init 5 = .ok (.bipush 6, 2) := by decide +kernel
theorem dX1_init_7 : decode cX1_init 7 = .ok (.anewarray 9, 3) := by decide +kernel
theorem dX1_init_10 : decode cX1_init 10 = .ok (.putfield 11, 3) := by decide +kernel
theorem dX1_init_13 : decode cX1_init 13 = .ok (.iconst 0, 1) := by decide +kernel
theorem dX1_init_14 : decode cX1_init 14 = .ok (.istore_n 1, 1) := by decide +kernel
theorem dX1_init_15 : decode cX1_init 15 = .ok (.iload_n 1, 1) := by decide +kernel
theorem dX1_init_16 : decode cX1_init 16 = .ok (.bipush 6, 2) := by decide +kernel
theorem dX1_init_18 : decode cX1_init 18 = .ok (.if_icmp .ge 22, 3) := by decide +kernel
theorem dX1_init_21 : decode cX1_init 21 = .ok (.aload_n 0, 1) := by decide +kernel
theorem dX1_init_22 : decode cX1_init 22 = .ok (.getfield 11, 3) := by decide +kernel
theorem dX1_init_25 : decode cX1_init 25 = .ok (.iload_n 1, 1) := by decide +kernel
theorem dX1_init_26 : decode cX1_init 26 = .ok (.new 9, 3) := by decide +kernel
theorem dX1_init_29 : decode cX1_init 29 = .ok (.dup, 1) := by decide +kernel
theorem dX1_init_30 : decode cX1_init 30 = .ok (.invokespecial 17, 3) := by decide +kernel
theorem dX1_init_33 : decode cX1_init 33 = .ok (.aastore, 1) := by decide +kernel
theorem dX1_init_34 : decode cX1_init 34 = .ok (.iinc 1 1, 3) := by decide +kernel
theorem dX1_init_37 : decode cX1_init 37 = .ok (.goto (-22), 3) := by decide +kernel
theorem dX1_init_40 : decode cX1_init 40 = .ok (.aload_n 0, 1) := by decide +kernel
theorem dX1_init_41 : decode cX1_init 41 = .ok (.iconst 0, 1) := by decide +kernel
theorem dX1_init_42 : decode cX1_init 42 = .ok (.putfield 18, 3) := by decide +kernel
theorem dX1_init_45 : decode cX1_init 45 = .ok (.aload_n 0, 1) := by decide +kernel
theorem dX1_init_46 : decode cX1_init 46 = .ok (.iconst 0, 1) := by decide +kernel
theorem dX1_init_47 : decode cX1_init 47 = .ok (.putfield 22, 3) := by decide +kernel
theorem dX1_init_50 : decode cX1_init 50 = .ok (.return_, 1) := by decide +kernel
theorem dX1_size_0 : decode cX1_size 0 = .ok (.aload_n 0, 1) := by decide +kernel
theorem dX1_size_1 : decode cX1_size 1 = .ok (.getfield 18, 3) := by decide +kernel
theorem dX1_size_4 : decode cX1_size 4 = .ok (.ireturn, 1) := by decide +kernel
theorem dX1_save_0 : decode cX1_save 0 = .ok (.aload_n 0, 1) := by decide +kernel
theorem dX1_save_1 : decode cX1_save 1 = .ok (.getfield 22, 3) := by decide +kernel
theorem dX1_save_4 : decode cX1_save 4 = .ok (.ifCond .lt 12, 3) := by decide +kernel
theorem dX1_save_7 : decode cX1_save 7 = .ok (.aload_n 0, 1) := by decide +kernel
theorem dX1_save_8 : decode cX1_save 8 = .ok (.getfield 22, 3) := by decide +kernel
theorem dX1_save_11 : decode cX1_save 11 = .ok (.bipush 6, 2) := by decide +kernel
theorem dX1_save_13 : decode cX1_save 13 = .ok (.if_icmp .lt 8, 3) := by decide +kernel
theorem dX1_save_16 : decode cX1_save 16 = .ok (.aload_n 0, 1) := by decide +kernel
theorem dX1_save_17 : decode cX1_save 17 = .ok (.iconst 0, 1) := by decide +kernel
theorem dX1_save_18 : decode cX1_save 18 = .ok (.putfield 22, 3) := by decide +kernel
theorem dX1_save_21 : decode cX1_save 21 = .ok (.aload_n 0, 1) := by decide +kernel
theorem dX1_save_22 : decode cX1_save 22 = .ok (.getfield 11, 3) := by decide +kernel
theorem dX1_save_25 : decode cX1_save 25 = .ok (.aload_n 0, 1) := by decide +kernel
theorem dX1_save_26 : decode cX1_save 26 = .ok (.getfield 22, 3) := by decide +kernel
theorem dX1_save_29 : decode cX1_save 29 = .ok (.aaload, 1) := by decide +kernel
theorem dX1_save_30 : decode cX1_save 30 = .ok (.aload_n 1, 1) := by decide +kernel
theorem dX1_save_31 : decode cX1_save 31 = .ok (.invokevirtual 25, 3) := by decide +kernel
theorem dX1_save_34 : decode cX1_save 34 = .ok (.aload_n 0, 1) := by decide +kernel
theorem dX1_save_35 : decode cX1_save 35 = .ok (.aload_n 0, 1) := by decide +kernel
theorem dX1_save_36 : decode cX1_save 36 = .ok (.getfield 22, 3) := by decide +kernel
theorem dX1_save_39 : decode cX1_save 39 = .ok (.iconst 1, 1) := by decide +kernel
theorem dX1_save_40 : decode cX1_save 40 = .ok (.iadd, 1) := by decide +kernel
theorem dX1_save_41 : decode cX1_save 41 = .ok (.bipush 6, 2) := by decide +kernel
theorem dX1_save_43 : decode cX1_save 43 = .ok (.if_icmp .ge 12, 3) := by decide +kernel
theorem dX1_save_46 : decode cX1_save 46 = .ok (.aload_n 0, 1) := by decide +kernel
theorem dX1_save_47 : decode cX1_save 47 = .ok (.getfield 22, 3) := by decide +kernel
theorem dX1_save_50 : decode cX1_save 50 = .ok (.iconst 1, 1) := by decide +kernel
theorem dX1_save_51 : decode cX1_save 51 = .ok (.iadd, 1) := by decide +kernel
theorem dX1_save_52 : decode cX1_save 52 = .ok (.goto 4, 3) := by decide +kernel
theorem dX1_save_55 : decode cX1_save 55 = .ok (.iconst 0, 1) := by decide +kernel
theorem dX1_save_56 : decode cX1_save 56 = .ok (.putfield 22, 3) := by decide +kernel
theorem dX1_save_59 : decode cX1_save 59 = .ok (.aload_n 0, 1) := by decide +kernel
theorem dX1_save_60 : decode cX1_save 60 = .ok (.aload_n 0, 1) := by decide +kernel
theorem dX1_save_61 : decode cX1_save 61 = .ok (.getfield 18, 3) := by decide +kernel
theorem dX1_save_64 : decode cX1_save 64 = .ok (.iconst 1, 1) := by decide +kernel
theorem dX1_save_65 : decode cX1_save 65 = .ok (.iadd, 1) := by decide +kernel
theorem dX1_save_66 : decode cX1_save 66 = .ok (.bipush 6, 2) := by decide +kernel
theorem dX1_save_68 : decode cX1_save 68 = .ok (.invokestatic 29, 3) := by decide +kernel
theorem dX1_save_71 : decode cX1_save 71 = .ok (.putfield 18, 3) := by decide +kernel
theorem dX1_save_74 : decode cX1_save 74 = .ok (.return_, 1) := by decide +kernel
theorem dX2_init_0 : decode cX2_init 0 = .ok (.aload_n 0, 1) := by decide +kernel
theorem dX2_init_1 : decode cX2_init 1 = .ok (.invokespecial 3, 3) := by decide +kernel
theorem dX2_init_4 : decode cX2_init 4 = .ok (.aload_n 0, 1) := by decide +kernel
theorem dX2_init_5 : decode cX2_init 5 = .ok (.new 9, 3) := by decide +kernel
theorem dX2_init_8 : decode cX2_init 8 = .ok (.dup, 1) := by decide +kernel
theorem dX2_init_9 : decode cX2_init 9 = .ok (.invokespecial 11, 3) := by decide +kernel
theorem dX2_init_12 : decode cX2_init 12 = .ok (.putfield 12, 3) := by decide +kernel
theorem dX2_init_15 : decode cX2_init 15 = .ok (.aload_n 0, 1) := by decide +kernel
theorem dX2_init_16 : decode cX2_init 16 = .ok (.bipush 24, 2) := by decide +kernel
theorem dX2_init_18 : decode cX2_init 18 = .ok (.newarray .int, 2) := by decide +kernel
theorem dX2_init_20 : decode cX2_init 20 = .ok (.putfield 18, 3) := by decide +kernel
theorem dX2_init_23 : decode cX2_init 23 = .ok (.aload_n 0, 1) := by decide +kernel
theorem dX2_init_24 : decode cX2_init 24 = .ok (.bipush 24, 2) := by decide +kernel
theorem dX2_init_26 : decode cX2_init 26 = .ok (.newarray .int, 2) := by decide +kernel
theorem dX2_init_28 : decode cX2_init 28 = .ok (.putfield 22, 3) := by decide +kernel
theorem dX2_init_31 : decode cX2_init 31 = .ok (.aload_n 0, 1) := by decide +kernel
theorem dX2_init_32 : decode cX2_init 32 = .ok (.bipush 24, 2) := by decide +kernel
theorem dX2_init_34 : decode cX2_init 34 = .ok (.newarray .int, 2) := by decide +kernel
theorem dX2_init_36 : decode cX2_init 36 = .ok (.putfield 25, 3) := by decide +kernel
theorem dX2_init_39 : decode cX2_init 39 = .ok (.aload_n 0, 1) := by decide +kernel
theorem dX2_init_40 : decode cX2_init 40 = .ok (.bipush 24, 2) := by decide +kernel
theorem dX2_init_42 : decode cX2_init 42 = .ok (.newarray .int, 2) := by decide +kernel
theorem dX2_init_44 : decode cX2_init 44 = .ok (.putfield 28, 3) := by decide +kernel
theorem dX2_init_47 : decode cX2_init 47 = .ok (.aload_n 0, 1) := by decide +kernel
theorem dX2_init_48 : decode cX2_init 48 = .ok (.iconst 0, 1) := by decide +kernel
theorem dX2_init_49 : decode cX2_init 49 = .ok (.putfield 31, 3) := by decide +kernel
theorem dX2_init_52 : decode cX2_init 52 = .ok (.return_, 1) := by decide +kernel
theorem dX2_leastCost_0 : decode cX2_leastCost 0 = .ok (.aload_n 0, 1) := by decide +kernel
theorem dX2_leastCost_1 : decode cX2_leastCost 1 = .ok (.getfield 12, 3) := by decide +kernel
theorem dX2_leastCost_4 : decode cX2_leastCost 4 = .ok (.aload_n 1, 1) := by decide +kernel
theorem dX2_leastCost_5 : decode cX2_leastCost 5 = .ok (.iload_n 2, 1) := by decide +kernel
theorem dX2_leastCost_6 : decode cX2_leastCost 6 = .ok (.iload_n 3, 1) := by decide +kernel
theorem dX2_leastCost_7 : decode cX2_leastCost 7 = .ok (.invokevirtual 35, 3) := by decide +kernel
theorem dX2_leastCost_10 : decode cX2_leastCost 10 = .ok (.iload 4, 2) := by decide +kernel
theorem dX2_leastCost_12 : decode cX2_leastCost 12 = .ok (.iconst 1, 1) := by decide +kernel
theorem dX2_leastCost_13 : decode cX2_leastCost 13 = .ok (.if_icmp .ne 13, 3) := by decide +kernel
theorem dX2_leastCost_16 : decode cX2_leastCost 16 = .ok (.aload_n 0, 1) := by decide +kernel
theorem dX2_leastCost_17 : decode cX2_leastCost 17 = .ok (.getfield 12, 3) := by decide +kernel
theorem dX2_leastCost_20 : decode cX2_leastCost 20 = .ok (.invokevirtual 39, 3) := by decide +kernel
theorem dX2_leastCost_23 : decode cX2_leastCost 23 = .ok (.goto 10, 3) := by decide +kernel
theorem dX2_leastCost_26 : decode cX2_leastCost 26 = .ok (.aload_n 0, 1) := by decide +kernel
theorem dX2_leastCost_27 : decode cX2_leastCost 27 = .ok (.getfield 12, 3) := by decide +kernel
theorem dX2_leastCost_30 : decode cX2_leastCost 30 = .ok (.invokevirtual 43, 3) := by decide +kernel
theorem dX2_leastCost_33 : decode cX2_leastCost 33 = .ok (.ireturn, 1) := by decide +kernel
theorem dX2_solve_0 : decode cX2_solve 0 = .ok (.aload_n 0, 1) := by decide +kernel
theorem dX2_solve_1 : decode cX2_solve 1 = .ok (.getfield 12, 3) := by decide +kernel
theorem dX2_solve_4 : decode cX2_solve 4 = .ok (.aload_n 1, 1) := by decide +kernel
theorem dX2_solve_5 : decode cX2_solve 5 = .ok (.iload_n 2, 1) := by decide +kernel
theorem dX2_solve_6 : decode cX2_solve 6 = .ok (.iload_n 3, 1) := by decide +kernel
theorem dX2_solve_7 : decode cX2_solve 7 = .ok (.invokevirtual 35, 3) := by decide +kernel
theorem dX2_solve_10 : decode cX2_solve 10 = .ok (.aload_n 0, 1) := by decide +kernel
theorem dX2_solve_11 : decode cX2_solve 11 = .ok (.getfield 12, 3) := by decide +kernel
theorem dX2_solve_14 : decode cX2_solve 14 = .ok (.invokevirtual 43, 3) := by decide +kernel
theorem dX2_solve_17 : decode cX2_solve 17 = .ok (.pop, 1) := by decide +kernel
theorem dX2_solve_18 : decode cX2_solve 18 = .ok (.aload_n 0, 1) := by decide +kernel
theorem dX2_solve_19 : decode cX2_solve 19 = .ok (.aload_n 1, 1) := by decide +kernel
theorem dX2_solve_20 : decode cX2_solve 20 = .ok (.iconst 4, 1) := by decide +kernel
theorem dX2_solve_21 : decode cX2_solve 21 = .ok (.invokevirtual 46, 3) := by decide +kernel
theorem dX2_solve_24 : decode cX2_solve 24 = .ok (.putfield 31, 3) := by decide +kernel
theorem dX2_solve_27 : decode cX2_solve 27 = .ok (.iconst 0, 1) := by decide +kernel
theorem dX2_solve_28 : decode cX2_solve 28 = .ok (.istore 4, 2) := by decide +kernel
theorem dX2_solve_30 : decode cX2_solve 30 = .ok (.iload 4, 2) := by decide +kernel
theorem dX2_solve_32 : decode cX2_solve 32 = .ok (.bipush 24, 2) := by decide +kernel
theorem dX2_solve_34 : decode cX2_solve 34 = .ok (.if_icmp .ge 27, 3) := by decide +kernel
theorem dX2_solve_37 : decode cX2_solve 37 = .ok (.aload_n 0, 1) := by decide +kernel
theorem dX2_solve_38 : decode cX2_solve 38 = .ok (.iload 4, 2) := by decide +kernel
theorem dX2_solve_40 : decode cX2_solve 40 = .ok (.iconst 0, 1) := by decide +kernel
theorem dX2_solve_41 : decode cX2_solve 41 = .ok (.ldc 52, 2) := by decide +kernel
theorem dX2_solve_43 : decode cX2_solve 43 = .ok (.invokevirtual 53, 3) := by decide +kernel
theorem dX2_solve_46 : decode cX2_solve 46 = .ok (.aload_n 0, 1) := by decide +kernel
theorem dX2_solve_47 : decode cX2_solve 47 = .ok (.iload 4, 2) := by decide +kernel
theorem dX2_solve_49 : decode cX2_solve 49 = .ok (.iconst 0, 1) := by decide +kernel
theorem dX2_solve_50 : decode cX2_solve 50 = .ok (.ldc 52, 2) := by decide +kernel
theorem dX2_solve_52 : decode cX2_solve 52 = .ok (.invokevirtual 57, 3) := by decide +kernel
theorem dX2_solve_55 : decode cX2_solve 55 = .ok (.iinc 4 1, 3) := by decide +kernel
theorem dX2_solve_58 : decode cX2_solve 58 = .ok (.goto (-28), 3) := by decide +kernel
theorem dX2_solve_61 : decode cX2_solve 61 = .ok (.iconst 0, 1) := by decide +kernel
theorem dX2_solve_62 : decode cX2_solve 62 = .ok (.istore 4, 2) := by decide +kernel
theorem dX2_solve_64 : decode cX2_solve 64 = .ok (.iconst 0, 1) := by decide +kernel
theorem dX2_solve_65 : decode cX2_solve 65 = .ok (.istore 5, 2) := by decide +kernel
theorem dX2_solve_67 : decode cX2_solve 67 = .ok (.iconst 0, 1) := by decide +kernel
theorem dX2_solve_68 : decode cX2_solve 68 = .ok (.istore 6, 2) := by decide +kernel
theorem dX2_solve_70 : decode cX2_solve 70 = .ok (.iload 6, 2) := by decide +kernel
theorem dX2_solve_72 : decode cX2_solve 72 = .ok (.bipush 48, 2) := by decide +kernel
theorem dX2_solve_74 : decode cX2_solve 74 = .ok (.if_icmp .ge 56, 3) := by decide +kernel
theorem dX2_solve_77 : decode cX2_solve 77 = .ok (.aload_n 0, 1) := by decide +kernel
theorem dX2_solve_78 : decode cX2_solve 78 = .ok (.getfield 12, 3) := by decide +kernel
theorem dX2_solve_81 : decode cX2_solve 81 = .ok (.iload 4, 2) := by decide +kernel
theorem dX2_solve_83 : decode cX2_solve 83 = .ok (.iload 5, 2) := by decide +kernel
theorem dX2_solve_85 : decode cX2_solve 85 = .ok (.invokevirtual 60, 3) := by decide +kernel
theorem dX2_solve_88 : decode cX2_solve 88 = .ok (.istore 7, 2) := by decide +kernel
theorem dX2_solve_90 : decode cX2_solve 90 = .ok (.iload 7, 2) := by decide +kernel
theorem dX2_solve_92 : decode cX2_solve 92 = .ok (.ifCond .ne 4, 3) := by decide +kernel
theorem dX2_solve_95 : decode cX2_solve 95 = .ok (.return_, 1) := by decide +kernel
theorem dX2_solve_96 : decode cX2_solve 96 = .ok (.aload_n 0, 1) := by decide +kernel
theorem dX2_solve_97 : decode cX2_solve 97 = .ok (.iload 7, 2) := by decide +kernel
theorem dX2_solve_99 : decode cX2_solve 99 = .ok (.iload 4, 2) := by decide +kernel
theorem dX2_solve_101 : decode cX2_solve 101 = .ok (.iload 5, 2) := by decide +kernel
theorem dX2_solve_103 : decode cX2_solve 103 = .ok (.invokevirtual 64, 3) := by decide +kernel
theorem dX2_solve_106 : decode cX2_solve 106 = .ok (.iload 7, 2) := by decide +kernel
theorem dX2_solve_108 : decode cX2_solve 108 = .ok (.iload 4, 2) := by decide +kernel
theorem dX2_solve_110 : decode cX2_solve 110 = .ok (.invokestatic 67, 3) := by decide +kernel
theorem dX2_solve_113 : decode cX2_solve 113 = .ok (.istore 4, 2) := by decide +kernel
theorem dX2_solve_115 : decode cX2_solve 115 = .ok (.iload 7, 2) := by decide +kernel
theorem dX2_solve_117 : decode cX2_solve 117 = .ok (.iload 5, 2) := by decide +kernel
theorem dX2_solve_119 : decode cX2_solve 119 = .ok (.invokestatic 70, 3) := by decide +kernel
theorem dX2_solve_122 : decode cX2_solve 122 = .ok (.istore 5, 2) := by decide +kernel
theorem dX2_solve_124 : decode cX2_solve 124 = .ok (.iinc 6 1, 3) := by decide +kernel
theorem dX2_solve_127 : decode cX2_solve 127 = .ok (.goto (-57), 3) := by decide +kernel
theorem dX2_solve_130 : decode cX2_solve 130 = .ok (.return_, 1) := by decide +kernel
theorem dX2_settle_0 : decode cX2_settle 0 = .ok (.iload_n 1, 1) := by decide +kernel
theorem dX2_settle_1 : decode cX2_settle 1 = .ok (.tableswitch 73 1 3 #[27, 44, 55], 27) := by decide +kernel
theorem dX2_settle_28 : decode cX2_settle 28 = .ok (.aload_n 0, 1) := by decide +kernel
theorem dX2_settle_29 : decode cX2_settle 29 = .ok (.iload_n 2, 1) := by decide +kernel
theorem dX2_settle_30 : decode cX2_settle 30 = .ok (.iconst 1, 1) := by decide +kernel
theorem dX2_settle_31 : decode cX2_settle 31 = .ok (.iload_n 3, 1) := by decide +kernel
theorem dX2_settle_32 : decode cX2_settle 32 = .ok (.invokevirtual 53, 3) := by decide +kernel
theorem dX2_settle_35 : decode cX2_settle 35 = .ok (.aload_n 0, 1) := by decide +kernel
theorem dX2_settle_36 : decode cX2_settle 36 = .ok (.iload_n 3, 1) := by decide +kernel
theorem dX2_settle_37 : decode cX2_settle 37 = .ok (.iconst 1, 1) := by decide +kernel
theorem dX2_settle_38 : decode cX2_settle 38 = .ok (.iload_n 2, 1) := by decide +kernel
theorem dX2_settle_39 : decode cX2_settle 39 = .ok (.invokevirtual 57, 3) := by decide +kernel
theorem dX2_settle_42 : decode cX2_settle 42 = .ok (.goto 40, 3) := by decide +kernel
theorem dX2_settle_45 : decode cX2_settle 45 = .ok (.aload_n 0, 1) := by decide +kernel
theorem dX2_settle_46 : decode cX2_settle 46 = .ok (.iload_n 2, 1) := by decide +kernel
theorem dX2_settle_47 : decode cX2_settle 47 = .ok (.iconst 2, 1) := by decide +kernel
theorem dX2_settle_48 : decode cX2_settle 48 = .ok (.ldc 52, 2) := by decide +kernel
theorem dX2_settle_50 : decode cX2_settle 50 = .ok (.invokevirtual 53, 3) := by decide +kernel
theorem dX2_settle_53 : decode cX2_settle 53 = .ok (.goto 29, 3) := by decide +kernel
theorem dX2_settle_56 : decode cX2_settle 56 = .ok (.aload_n 0, 1) := by decide +kernel
theorem dX2_settle_57 : decode cX2_settle 57 = .ok (.iload_n 3, 1) := by decide +kernel
theorem dX2_settle_58 : decode cX2_settle 58 = .ok (.iconst 3, 1) := by decide +kernel
theorem dX2_settle_59 : decode cX2_settle 59 = .ok (.aload_n 0, 1) := by decide +kernel
theorem dX2_settle_60 : decode cX2_settle 60 = .ok (.getfield 12, 3) := by decide +kernel
theorem dX2_settle_63 : decode cX2_settle 63 = .ok (.iload_n 2, 1) := by decide +kernel
theorem dX2_settle_64 : decode cX2_settle 64 = .ok (.iload_n 3, 1) := by decide +kernel
theorem dX2_settle_65 : decode cX2_settle 65 = .ok (.invokevirtual 73, 3) := by decide +kernel
theorem dX2_settle_68 : decode cX2_settle 68 = .ok (.invokevirtual 57, 3) := by decide +kernel
theorem dX2_settle_71 : decode cX2_settle 71 = .ok (.goto 11, 3) := by decide +kernel
theorem dX2_settle_74 : decode cX2_settle 74 = .ok (.aload_n 0, 1) := by decide +kernel
theorem dX2_settle_75 : decode cX2_settle 75 = .ok (.iload_n 3, 1) := by decide +kernel
theorem dX2_settle_76 : decode cX2_settle 76 = .ok (.iconst 4, 1) := by decide +kernel
theorem dX2_settle_77 : decode cX2_settle 77 = .ok (.ldc 52, 2) := by decide +kernel
theorem dX2_settle_79 : decode cX2_settle 79 = .ok (.invokevirtual 57, 3) := by decide +kernel
theorem dX2_settle_82 : decode cX2_settle 82 = .ok (.return_, 1) := by decide +kernel
theorem dX2_settleA_0 : decode cX2_settleA 0 = .ok (.iload_n 1, 1) := by decide +kernel
theorem dX2_settleA_1 : decode cX2_settleA 1 = .ok (.ifCond .lt 23, 3) := by decide +kernel
theorem dX2_settleA_4 : decode cX2_settleA 4 = .ok (.iload_n 1, 1) := by decide +kernel
theorem dX2_settleA_5 : decode cX2_settleA 5 = .ok (.bipush 24, 2) := by decide +kernel
theorem dX2_settleA_7 : decode cX2_settleA 7 = .ok (.if_icmp .ge 17, 3) := by decide +kernel
theorem dX2_settleA_10 : decode cX2_settleA 10 = .ok (.aload_n 0, 1) := by decide +kernel
theorem dX2_settleA_11 : decode cX2_settleA 11 = .ok (.getfield 18, 3) := by decide +kernel
theorem dX2_settleA_14 : decode cX2_settleA 14 = .ok (.iload_n 1, 1) := by decide +kernel
theorem dX2_settleA_15 : decode cX2_settleA 15 = .ok (.iload_n 2, 1) := by decide +kernel
theorem dX2_settleA_16 : decode cX2_settleA 16 = .ok (.iastore, 1) := by decide +kernel
theorem dX2_settleA_17 : decode cX2_settleA 17 = .ok (.aload_n 0, 1) := by decide +kernel
theorem dX2_settleA_18 : decode cX2_settleA 18 = .ok (.getfield 25, 3) := by decide +kernel
theorem dX2_settleA_21 : decode cX2_settleA 21 = .ok (.iload_n 1, 1) := by decide +kernel
theorem dX2_settleA_22 : decode cX2_settleA 22 = .ok (.iload_n 3, 1) := by decide +kernel
theorem dX2_settleA_23 : decode cX2_settleA 23 = .ok (.iastore, 1) := by decide +kernel
theorem dX2_settleA_24 : decode cX2_settleA 24 = .ok (.return_, 1) := by decide +kernel
theorem dX2_settleB_0 : decode cX2_settleB 0 = .ok (.iload_n 1, 1) := by decide +kernel
theorem dX2_settleB_1 : decode cX2_settleB 1 = .ok (.ifCond .lt 23, 3) := by decide +kernel
theorem dX2_settleB_4 : decode cX2_settleB 4 = .ok (.iload_n 1, 1) := by decide +kernel
theorem dX2_settleB_5 : decode cX2_settleB 5 = .ok (.bipush 24, 2) := by decide +kernel
theorem dX2_settleB_7 : decode cX2_settleB 7 = .ok (.if_icmp .ge 17, 3) := by decide +kernel
theorem dX2_settleB_10 : decode cX2_settleB 10 = .ok (.aload_n 0, 1) := by decide +kernel
theorem dX2_settleB_11 : decode cX2_settleB 11 = .ok (.getfield 22, 3) := by decide +kernel
theorem dX2_settleB_14 : decode cX2_settleB 14 = .ok (.iload_n 1, 1) := by decide +kernel
theorem dX2_settleB_15 : decode cX2_settleB 15 = .ok (.iload_n 2, 1) := by decide +kernel
theorem dX2_settleB_16 : decode cX2_settleB 16 = .ok (.iastore, 1) := by decide +kernel
theorem dX2_settleB_17 : decode cX2_settleB 17 = .ok (.aload_n 0, 1) := by decide +kernel
theorem dX2_settleB_18 : decode cX2_settleB 18 = .ok (.getfield 28, 3) := by decide +kernel
theorem dX2_settleB_21 : decode cX2_settleB 21 = .ok (.iload_n 1, 1) := by decide +kernel
theorem dX2_settleB_22 : decode cX2_settleB 22 = .ok (.iload_n 3, 1) := by decide +kernel
theorem dX2_settleB_23 : decode cX2_settleB 23 = .ok (.iastore, 1) := by decide +kernel
theorem dX2_settleB_24 : decode cX2_settleB 24 = .ok (.return_, 1) := by decide +kernel
theorem dX2_fateOf_0 : decode cX2_fateOf 0 = .ok (.iload_n 2, 1) := by decide +kernel
theorem dX2_fateOf_1 : decode cX2_fateOf 1 = .ok (.ifCond .lt 9, 3) := by decide +kernel
theorem dX2_fateOf_4 : decode cX2_fateOf 4 = .ok (.iload_n 2, 1) := by decide +kernel
theorem dX2_fateOf_5 : decode cX2_fateOf 5 = .ok (.bipush 24, 2) := by decide +kernel
theorem dX2_fateOf_7 : decode cX2_fateOf 7 = .ok (.if_icmp .lt 5, 3) := by decide +kernel
theorem dX2_fateOf_10 : decode cX2_fateOf 10 = .ok (.iconst 0, 1) := by decide +kernel
theorem dX2_fateOf_11 : decode cX2_fateOf 11 = .ok (.ireturn, 1) := by decide +kernel
theorem dX2_fateOf_12 : decode cX2_fateOf 12 = .ok (.iload_n 1, 1) := by decide +kernel
theorem dX2_fateOf_13 : decode cX2_fateOf 13 = .ok (.ifCond .ne 12, 3) := by decide +kernel
theorem dX2_fateOf_16 : decode cX2_fateOf 16 = .ok (.aload_n 0, 1) := by decide +kernel
theorem dX2_fateOf_17 : decode cX2_fateOf 17 = .ok (.getfield 18, 3) := by decide +kernel
theorem dX2_fateOf_20 : decode cX2_fateOf 20 = .ok (.iload_n 2, 1) := by decide +kernel
theorem dX2_fateOf_21 : decode cX2_fateOf 21 = .ok (.iaload, 1) := by decide +kernel
theorem dX2_fateOf_22 : decode cX2_fateOf 22 = .ok (.goto 9, 3) := by decide +kernel
theorem dX2_fateOf_25 : decode cX2_fateOf 25 = .ok (.aload_n 0, 1) := by decide +kernel
theorem dX2_fateOf_26 : decode cX2_fateOf 26 = .ok (.getfield 22, 3) := by decide +kernel
theorem dX2_fateOf_29 : decode cX2_fateOf 29 = .ok (.iload_n 2, 1) := by decide +kernel
theorem dX2_fateOf_30 : decode cX2_fateOf 30 = .ok (.iaload, 1) := by decide +kernel
theorem dX2_fateOf_31 : decode cX2_fateOf 31 = .ok (.ireturn, 1) := by decide +kernel
theorem dX2_partnerOf_0 : decode cX2_partnerOf 0 = .ok (.iload_n 2, 1) := by decide +kernel
theorem dX2_partnerOf_1 : decode cX2_partnerOf 1 = .ok (.ifCond .lt 9, 3) := by decide +kernel
theorem dX2_partnerOf_4 : decode cX2_partnerOf 4 = .ok (.iload_n 2, 1) := by decide +kernel
theorem dX2_partnerOf_5 : decode cX2_partnerOf 5 = .ok (.bipush 24, 2) := by decide +kernel
theorem dX2_partnerOf_7 : decode cX2_partnerOf 7 = .ok (.if_icmp .lt 6, 3) := by decide +kernel
theorem dX2_partnerOf_10 : decode cX2_partnerOf 10 = .ok (.ldc 52, 2) := by decide +kernel
theorem dX2_partnerOf_12 : decode cX2_partnerOf 12 = .ok (.ireturn, 1) := by decide +kernel
theorem dX2_partnerOf_13 : decode cX2_partnerOf 13 = .ok (.iload_n 1, 1) := by decide +kernel
theorem dX2_partnerOf_14 : decode cX2_partnerOf 14 = .ok (.ifCond .ne 12, 3) := by decide +kernel
theorem dX2_partnerOf_17 : decode cX2_partnerOf 17 = .ok (.aload_n 0, 1) := by decide +kernel
theorem dX2_partnerOf_18 : decode cX2_partnerOf 18 = .ok (.getfield 25, 3) := by decide +kernel
theorem dX2_partnerOf_21 : decode cX2_partnerOf 21 = .ok (.iload_n 2, 1) := by decide +kernel
theorem dX2_partnerOf_22 : decode cX2_partnerOf 22 = .ok (.iaload, 1) := by decide +kernel
theorem dX2_partnerOf_23 : decode cX2_partnerOf 23 = .ok (.goto 9, 3) := by decide +kernel
theorem dX2_partnerOf_26 : decode cX2_partnerOf 26 = .ok (.aload_n 0, 1) := by decide +kernel
theorem dX2_partnerOf_27 : decode cX2_partnerOf 27 = .ok (.getfield 28, 3) := by decide +kernel
theorem dX2_partnerOf_30 : decode cX2_partnerOf 30 = .ok (.iload_n 2, 1) := by decide +kernel
theorem dX2_partnerOf_31 : decode cX2_partnerOf 31 = .ok (.iaload, 1) := by decide +kernel
theorem dX2_partnerOf_32 : decode cX2_partnerOf 32 = .ok (.ireturn, 1) := by decide +kernel
theorem dX2_countFates_0 : decode cX2_countFates 0 = .ok (.iconst 0, 1) := by decide +kernel
theorem dX2_countFates_1 : decode cX2_countFates 1 = .ok (.istore_n 3, 1) := by decide +kernel
theorem dX2_countFates_2 : decode cX2_countFates 2 = .ok (.iconst 0, 1) := by decide +kernel
theorem dX2_countFates_3 : decode cX2_countFates 3 = .ok (.istore 4, 2) := by decide +kernel
theorem dX2_countFates_5 : decode cX2_countFates 5 = .ok (.iload 4, 2) := by decide +kernel
theorem dX2_countFates_7 : decode cX2_countFates 7 = .ok (.bipush 24, 2) := by decide +kernel
theorem dX2_countFates_9 : decode cX2_countFates 9 = .ok (.if_icmp .ge 23, 3) := by decide +kernel
theorem dX2_countFates_12 : decode cX2_countFates 12 = .ok (.aload_n 0, 1) := by decide +kernel
theorem dX2_countFates_13 : decode cX2_countFates 13 = .ok (.iload_n 1, 1) := by decide +kernel
theorem dX2_countFates_14 : decode cX2_countFates 14 = .ok (.iload 4, 2) := by decide +kernel
theorem dX2_countFates_16 : decode cX2_countFates 16 = .ok (.invokevirtual 76, 3) := by decide +kernel
theorem dX2_countFates_19 : decode cX2_countFates 19 = .ok (.iload_n 2, 1) := by decide +kernel
theorem dX2_countFates_20 : decode cX2_countFates 20 = .ok (.if_icmp .ne 6, 3) := by decide +kernel
theorem dX2_countFates_23 : decode cX2_countFates 23 = .ok (.iinc 3 1, 3) := by decide +kernel
theorem dX2_countFates_26 : decode cX2_countFates 26 = .ok (.iinc 4 1, 3) := by decide +kernel
theorem dX2_countFates_29 : decode cX2_countFates 29 = .ok (.goto (-24), 3) := by decide +kernel
theorem dX2_countFates_32 : decode cX2_countFates 32 = .ok (.iload_n 3, 1) := by decide +kernel
theorem dX2_countFates_33 : decode cX2_countFates 33 = .ok (.ireturn, 1) := by decide +kernel
theorem dX2_nextMatch_0 : decode cX2_nextMatch 0 = .ok (.iload_n 1, 1) := by decide +kernel
theorem dX2_nextMatch_1 : decode cX2_nextMatch 1 = .ok (.iconst 1, 1) := by decide +kernel
theorem dX2_nextMatch_2 : decode cX2_nextMatch 2 = .ok (.iadd, 1) := by decide +kernel
theorem dX2_nextMatch_3 : decode cX2_nextMatch 3 = .ok (.istore_n 2, 1) := by decide +kernel
theorem dX2_nextMatch_4 : decode cX2_nextMatch 4 = .ok (.iload_n 2, 1) := by decide +kernel
theorem dX2_nextMatch_5 : decode cX2_nextMatch 5 = .ok (.bipush 24, 2) := by decide +kernel
theorem dX2_nextMatch_7 : decode cX2_nextMatch 7 = .ok (.if_icmp .ge 21, 3) := by decide +kernel
theorem dX2_nextMatch_10 : decode cX2_nextMatch 10 = .ok (.aload_n 0, 1) := by decide +kernel
theorem dX2_nextMatch_11 : decode cX2_nextMatch 11 = .ok (.iconst 0, 1) := by decide +kernel
theorem dX2_nextMatch_12 : decode cX2_nextMatch 12 = .ok (.iload_n 2, 1) := by decide +kernel
theorem dX2_nextMatch_13 : decode cX2_nextMatch 13 = .ok (.invokevirtual 76, 3) := by decide +kernel
theorem dX2_nextMatch_16 : decode cX2_nextMatch 16 = .ok (.iconst 1, 1) := by decide +kernel
theorem dX2_nextMatch_17 : decode cX2_nextMatch 17 = .ok (.if_icmp .ne 5, 3) := by decide +kernel
theorem dX2_nextMatch_20 : decode cX2_nextMatch 20 = .ok (.iload_n 2, 1) := by decide +kernel
theorem dX2_nextMatch_21 : decode cX2_nextMatch 21 = .ok (.ireturn, 1) := by decide +kernel
theorem dX2_nextMatch_22 : decode cX2_nextMatch 22 = .ok (.iinc 2 1, 3) := by decide +kernel
theorem dX2_nextMatch_25 : decode cX2_nextMatch 25 = .ok (.goto (-21), 3) := by decide +kernel
theorem dX2_nextMatch_28 : decode cX2_nextMatch 28 = .ok (.ldc 52, 2) := by decide +kernel
theorem dX2_nextMatch_30 : decode cX2_nextMatch 30 = .ok (.ireturn, 1) := by decide +kernel
theorem dX2_hasThrow_0 : decode cX2_hasThrow 0 = .ok (.aload_n 0, 1) := by decide +kernel
theorem dX2_hasThrow_1 : decode cX2_hasThrow 1 = .ok (.iconst 0, 1) := by decide +kernel
theorem dX2_hasThrow_2 : decode cX2_hasThrow 2 = .ok (.iload_n 1, 1) := by decide +kernel
theorem dX2_hasThrow_3 : decode cX2_hasThrow 3 = .ok (.invokevirtual 76, 3) := by decide +kernel
theorem dX2_hasThrow_6 : decode cX2_hasThrow 6 = .ok (.iconst 1, 1) := by decide +kernel
theorem dX2_hasThrow_7 : decode cX2_hasThrow 7 = .ok (.if_icmp .ne 17, 3) := by decide +kernel
theorem dX2_hasThrow_10 : decode cX2_hasThrow 10 = .ok (.aload_n 0, 1) := by decide +kernel
theorem dX2_hasThrow_11 : decode cX2_hasThrow 11 = .ok (.iload_n 1, 1) := by decide +kernel
theorem dX2_hasThrow_12 : decode cX2_hasThrow 12 = .ok (.invokevirtual 79, 3) := by decide +kernel
theorem dX2_hasThrow_15 : decode cX2_hasThrow 15 = .ok (.ldc 52, 2) := by decide +kernel
theorem dX2_hasThrow_17 : decode cX2_hasThrow 17 = .ok (.if_icmp .eq 7, 3) := by decide +kernel
theorem dX2_hasThrow_20 : decode cX2_hasThrow 20 = .ok (.iconst 1, 1) := by decide +kernel
theorem dX2_hasThrow_21 : decode cX2_hasThrow 21 = .ok (.goto 4, 3) := by decide +kernel
theorem dX2_hasThrow_24 : decode cX2_hasThrow 24 = .ok (.iconst 0, 1) := by decide +kernel
theorem dX2_hasThrow_25 : decode cX2_hasThrow 25 = .ok (.ireturn, 1) := by decide +kernel
theorem dX2_throwBelow_0 : decode cX2_throwBelow 0 = .ok (.aload_n 0, 1) := by decide +kernel
theorem dX2_throwBelow_1 : decode cX2_throwBelow 1 = .ok (.iload_n 1, 1) := by decide +kernel
theorem dX2_throwBelow_2 : decode cX2_throwBelow 2 = .ok (.invokevirtual 82, 3) := by decide +kernel
theorem dX2_throwBelow_5 : decode cX2_throwBelow 5 = .ok (.ifCond .ne 5, 3) := by decide +kernel
theorem dX2_throwBelow_8 : decode cX2_throwBelow 8 = .ok (.iconst 0, 1) := by decide +kernel
theorem dX2_throwBelow_9 : decode cX2_throwBelow 9 = .ok (.ireturn, 1) := by decide +kernel
theorem dX2_throwBelow_10 : decode cX2_throwBelow 10 = .ok (.aload_n 0, 1) := by decide +kernel
theorem dX2_throwBelow_11 : decode cX2_throwBelow 11 = .ok (.iload_n 1, 1) := by decide +kernel
theorem dX2_throwBelow_12 : decode cX2_throwBelow 12 = .ok (.invokevirtual 79, 3) := by decide +kernel
theorem dX2_throwBelow_15 : decode cX2_throwBelow 15 = .ok (.istore_n 2, 1) := by decide +kernel
theorem dX2_throwBelow_16 : decode cX2_throwBelow 16 = .ok (.aload_n 0, 1) := by decide +kernel
theorem dX2_throwBelow_17 : decode cX2_throwBelow 17 = .ok (.getfield 12, 3) := by decide +kernel
theorem dX2_throwBelow_20 : decode cX2_throwBelow 20 = .ok (.invokevirtual 86, 3) := by decide +kernel
theorem dX2_throwBelow_23 : decode cX2_throwBelow 23 = .ok (.iload_n 2, 1) := by decide +kernel
theorem dX2_throwBelow_24 : decode cX2_throwBelow 24 = .ok (.invokevirtual 90, 3) := by decide +kernel
theorem dX2_throwBelow_27 : decode cX2_throwBelow 27 = .ok (.aload_n 0, 1) := by decide +kernel
theorem dX2_throwBelow_28 : decode cX2_throwBelow 28 = .ok (.getfield 12, 3) := by decide +kernel
theorem dX2_throwBelow_31 : decode cX2_throwBelow 31 = .ok (.invokevirtual 86, 3) := by decide +kernel
theorem dX2_throwBelow_34 : decode cX2_throwBelow 34 = .ok (.iload_n 1, 1) := by decide +kernel
theorem dX2_throwBelow_35 : decode cX2_throwBelow 35 = .ok (.invokevirtual 90, 3) := by decide +kernel
theorem dX2_throwBelow_38 : decode cX2_throwBelow 38 = .ok (.isub, 1) := by decide +kernel
theorem dX2_throwBelow_39 : decode cX2_throwBelow 39 = .ok (.istore_n 3, 1) := by decide +kernel
theorem dX2_throwBelow_40 : decode cX2_throwBelow 40 = .ok (.aload_n 0, 1) := by decide +kernel
theorem dX2_throwBelow_41 : decode cX2_throwBelow 41 = .ok (.getfield 12, 3) := by decide +kernel
theorem dX2_throwBelow_44 : decode cX2_throwBelow 44 = .ok (.invokevirtual 95, 3) := by decide +kernel
theorem dX2_throwBelow_47 : decode cX2_throwBelow 47 = .ok (.aload_n 0, 1) := by decide +kernel
theorem dX2_throwBelow_48 : decode cX2_throwBelow 48 = .ok (.iconst 0, 1) := by decide +kernel
theorem dX2_throwBelow_49 : decode cX2_throwBelow 49 = .ok (.iload_n 2, 1) := by decide +kernel
theorem dX2_throwBelow_50 : decode cX2_throwBelow 50 = .ok (.invokevirtual 98, 3) := by decide +kernel
theorem dX2_throwBelow_53 : decode cX2_throwBelow 53 = .ok (.invokevirtual 90, 3) := by decide +kernel
theorem dX2_throwBelow_56 : decode cX2_throwBelow 56 = .ok (.aload_n 0, 1) := by decide +kernel
theorem dX2_throwBelow_57 : decode cX2_throwBelow 57 = .ok (.getfield 12, 3) := by decide +kernel
theorem dX2_throwBelow_60 : decode cX2_throwBelow 60 = .ok (.invokevirtual 95, 3) := by decide +kernel
theorem dX2_throwBelow_63 : decode cX2_throwBelow 63 = .ok (.aload_n 0, 1) := by decide +kernel
theorem dX2_throwBelow_64 : decode cX2_throwBelow 64 = .ok (.iconst 0, 1) := by decide +kernel
theorem dX2_throwBelow_65 : decode cX2_throwBelow 65 = .ok (.iload_n 1, 1) := by decide +kernel
theorem dX2_throwBelow_66 : decode cX2_throwBelow 66 = .ok (.invokevirtual 98, 3) := by decide +kernel
theorem dX2_throwBelow_69 : decode cX2_throwBelow 69 = .ok (.invokevirtual 90, 3) := by decide +kernel
theorem dX2_throwBelow_72 : decode cX2_throwBelow 72 = .ok (.isub, 1) := by decide +kernel
theorem dX2_throwBelow_73 : decode cX2_throwBelow 73 = .ok (.istore 4, 2) := by decide +kernel
theorem dX2_throwBelow_75 : decode cX2_throwBelow 75 = .ok (.iload_n 3, 1) := by decide +kernel
theorem dX2_throwBelow_76 : decode cX2_throwBelow 76 = .ok (.iload 4, 2) := by decide +kernel
theorem dX2_throwBelow_78 : decode cX2_throwBelow 78 = .ok (.isub, 1) := by decide +kernel
theorem dX2_throwBelow_79 : decode cX2_throwBelow 79 = .ok (.ireturn, 1) := by decide +kernel
theorem dX2_hasFault_0 : decode cX2_hasFault 0 = .ok (.aload_n 0, 1) := by decide +kernel
theorem dX2_hasFault_1 : decode cX2_hasFault 1 = .ok (.iload_n 1, 1) := by decide +kernel
theorem dX2_hasFault_2 : decode cX2_hasFault 2 = .ok (.invokevirtual 82, 3) := by decide +kernel
theorem dX2_hasFault_5 : decode cX2_hasFault 5 = .ok (.ifCond .eq 22, 3) := by decide +kernel
theorem dX2_hasFault_8 : decode cX2_hasFault 8 = .ok (.aload_n 0, 1) := by decide +kernel
theorem dX2_hasFault_9 : decode cX2_hasFault 9 = .ok (.iload_n 1, 1) := by decide +kernel
theorem dX2_hasFault_10 : decode cX2_hasFault 10 = .ok (.invokevirtual 101, 3) := by decide +kernel
theorem dX2_hasFault_13 : decode cX2_hasFault 13 = .ok (.invokestatic 104, 3) := by decide +kernel
theorem dX2_hasFault_16 : decode cX2_hasFault 16 = .ok (.aload_n 0, 1) := by decide +kernel
theorem dX2_hasFault_17 : decode cX2_hasFault 17 = .ok (.getfield 31, 3) := by decide +kernel
theorem dX2_hasFault_20 : decode cX2_hasFault 20 = .ok (.if_icmp .lt 7, 3) := by decide +kernel
theorem dX2_hasFault_23 : decode cX2_hasFault 23 = .ok (.iconst 1, 1) := by decide +kernel
theorem dX2_hasFault_24 : decode cX2_hasFault 24 = .ok (.goto 4, 3) := by decide +kernel
theorem dX2_hasFault_27 : decode cX2_hasFault 27 = .ok (.iconst 0, 1) := by decide +kernel
theorem dX2_hasFault_28 : decode cX2_hasFault 28 = .ok (.ireturn, 1) := by decide +kernel
theorem dX2_reasonBelow_0 : decode cX2_reasonBelow 0 = .ok (.aload_n 0, 1) := by decide +kernel
theorem dX2_reasonBelow_1 : decode cX2_reasonBelow 1 = .ok (.iload_n 1, 1) := by decide +kernel
theorem dX2_reasonBelow_2 : decode cX2_reasonBelow 2 = .ok (.invokevirtual 82, 3) := by decide +kernel
theorem dX2_reasonBelow_5 : decode cX2_reasonBelow 5 = .ok (.ifCond .ne 5, 3) := by decide +kernel
theorem dX2_reasonBelow_8 : decode cX2_reasonBelow 8 = .ok (.iconst 0, 1) := by decide +kernel
theorem dX2_reasonBelow_9 : decode cX2_reasonBelow 9 = .ok (.ireturn, 1) := by decide +kernel
theorem dX2_reasonBelow_10 : decode cX2_reasonBelow 10 = .ok (.aload_n 0, 1) := by decide +kernel
theorem dX2_reasonBelow_11 : decode cX2_reasonBelow 11 = .ok (.iload_n 1, 1) := by decide +kernel
theorem dX2_reasonBelow_12 : decode cX2_reasonBelow 12 = .ok (.invokevirtual 79, 3) := by decide +kernel
theorem dX2_reasonBelow_15 : decode cX2_reasonBelow 15 = .ok (.istore_n 2, 1) := by decide +kernel
theorem dX2_reasonBelow_16 : decode cX2_reasonBelow 16 = .ok (.iload_n 2, 1) := by decide +kernel
theorem dX2_reasonBelow_17 : decode cX2_reasonBelow 17 = .ok (.iload_n 1, 1) := by decide +kernel
theorem dX2_reasonBelow_18 : decode cX2_reasonBelow 18 = .ok (.iconst 1, 1) := by decide +kernel
theorem dX2_reasonBelow_19 : decode cX2_reasonBelow 19 = .ok (.iadd, 1) := by decide +kernel
theorem dX2_reasonBelow_20 : decode cX2_reasonBelow 20 = .ok (.if_icmp .le 7, 3) := by decide +kernel
theorem dX2_reasonBelow_23 : decode cX2_reasonBelow 23 = .ok (.iconst 1, 1) := by decide +kernel
theorem dX2_reasonBelow_24 : decode cX2_reasonBelow 24 = .ok (.goto 4, 3) := by decide +kernel
theorem dX2_reasonBelow_27 : decode cX2_reasonBelow 27 = .ok (.iconst 0, 1) := by decide +kernel
theorem dX2_reasonBelow_28 : decode cX2_reasonBelow 28 = .ok (.istore_n 3, 1) := by decide +kernel
theorem dX2_reasonBelow_29 : decode cX2_reasonBelow 29 = .ok (.aload_n 0, 1) := by decide +kernel
theorem dX2_reasonBelow_30 : decode cX2_reasonBelow 30 = .ok (.iconst 0, 1) := by decide +kernel
theorem dX2_reasonBelow_31 : decode cX2_reasonBelow 31 = .ok (.iload_n 2, 1) := by decide +kernel
theorem dX2_reasonBelow_32 : decode cX2_reasonBelow 32 = .ok (.invokevirtual 98, 3) := by decide +kernel
theorem dX2_reasonBelow_35 : decode cX2_reasonBelow 35 = .ok (.bipush 24, 2) := by decide +kernel
theorem dX2_reasonBelow_37 : decode cX2_reasonBelow 37 = .ok (.invokestatic 109, 3) := by decide +kernel
theorem dX2_reasonBelow_40 : decode cX2_reasonBelow 40 = .ok (.istore 4, 2) := by decide +kernel
theorem dX2_reasonBelow_42 : decode cX2_reasonBelow 42 = .ok (.aload_n 0, 1) := by decide +kernel
theorem dX2_reasonBelow_43 : decode cX2_reasonBelow 43 = .ok (.iconst 0, 1) := by decide +kernel
theorem dX2_reasonBelow_44 : decode cX2_reasonBelow 44 = .ok (.iload_n 1, 1) := by decide +kernel
theorem dX2_reasonBelow_45 : decode cX2_reasonBelow 45 = .ok (.invokevirtual 98, 3) := by decide +kernel
theorem dX2_reasonBelow_48 : decode cX2_reasonBelow 48 = .ok (.iconst 1, 1) := by decide +kernel
theorem dX2_reasonBelow_49 : decode cX2_reasonBelow 49 = .ok (.iadd, 1) := by decide +kernel
theorem dX2_reasonBelow_50 : decode cX2_reasonBelow 50 = .ok (.istore 5, 2) := by decide +kernel
theorem dX2_reasonBelow_52 : decode cX2_reasonBelow 52 = .ok (.iload 5, 2) := by decide +kernel
theorem dX2_reasonBelow_54 : decode cX2_reasonBelow 54 = .ok (.iload 4, 2) := by decide +kernel
theorem dX2_reasonBelow_56 : decode cX2_reasonBelow 56 = .ok (.if_icmp .ge 28, 3) := by decide +kernel
theorem dX2_reasonBelow_59 : decode cX2_reasonBelow 59 = .ok (.iload_n 3, 1) := by decide +kernel
theorem dX2_reasonBelow_60 : decode cX2_reasonBelow 60 = .ok (.aload_n 0, 1) := by decide +kernel
theorem dX2_reasonBelow_61 : decode cX2_reasonBelow 61 = .ok (.iconst 1, 1) := by decide +kernel
theorem dX2_reasonBelow_62 : decode cX2_reasonBelow 62 = .ok (.iload 5, 2) := by decide +kernel
theorem dX2_reasonBelow_64 : decode cX2_reasonBelow 64 = .ok (.invokevirtual 76, 3) := by decide +kernel
theorem dX2_reasonBelow_67 : decode cX2_reasonBelow 67 = .ok (.iconst 3, 1) := by decide +kernel
theorem dX2_reasonBelow_68 : decode cX2_reasonBelow 68 = .ok (.if_icmp .ne 7, 3) := by decide +kernel
theorem dX2_reasonBelow_71 : decode cX2_reasonBelow 71 = .ok (.iconst 2, 1) := by decide +kernel
theorem dX2_reasonBelow_72 : decode cX2_reasonBelow 72 = .ok (.goto 4, 3) := by decide +kernel
theorem dX2_reasonBelow_75 : decode cX2_reasonBelow 75 = .ok (.iconst 4, 1) := by decide +kernel
theorem dX2_reasonBelow_76 : decode cX2_reasonBelow 76 = .ok (.ior, 1) := by decide +kernel
theorem dX2_reasonBelow_77 : decode cX2_reasonBelow 77 = .ok (.istore_n 3, 1) := by decide +kernel
theorem dX2_reasonBelow_78 : decode cX2_reasonBelow 78 = .ok (.iinc 5 1, 3) := by decide +kernel
theorem dX2_reasonBelow_81 : decode cX2_reasonBelow 81 = .ok (.goto (-29), 3) := by decide +kernel
theorem dX2_reasonBelow_84 : decode cX2_reasonBelow 84 = .ok (.iload_n 3, 1) := by decide +kernel
theorem dX2_reasonBelow_85 : decode cX2_reasonBelow 85 = .ok (.ireturn, 1) := by decide +kernel
theorem dX2_faultCount_0 : decode cX2_faultCount 0 = .ok (.iconst 0, 1) := by decide +kernel
theorem dX2_faultCount_1 : decode cX2_faultCount 1 = .ok (.istore_n 1, 1) := by decide +kernel
theorem dX2_faultCount_2 : decode cX2_faultCount 2 = .ok (.iconst 0, 1) := by decide +kernel
theorem dX2_faultCount_3 : decode cX2_faultCount 3 = .ok (.istore_n 2, 1) := by decide +kernel
theorem dX2_faultCount_4 : decode cX2_faultCount 4 = .ok (.iload_n 2, 1) := by decide +kernel
theorem dX2_faultCount_5 : decode cX2_faultCount 5 = .ok (.bipush 24, 2) := by decide +kernel
theorem dX2_faultCount_7 : decode cX2_faultCount 7 = .ok (.if_icmp .ge 20, 3) := by decide +kernel
theorem dX2_faultCount_10 : decode cX2_faultCount 10 = .ok (.aload_n 0, 1) := by decide +kernel
theorem dX2_faultCount_11 : decode cX2_faultCount 11 = .ok (.iload_n 2, 1) := by decide +kernel
theorem dX2_faultCount_12 : decode cX2_faultCount 12 = .ok (.invokevirtual 112, 3) := by decide +kernel
theorem dX2_faultCount_15 : decode cX2_faultCount 15 = .ok (.ifCond .eq 6, 3) := by decide +kernel
theorem dX2_faultCount_18 : decode cX2_faultCount 18 = .ok (.iinc 1 1, 3) := by decide +kernel
theorem dX2_faultCount_21 : decode cX2_faultCount 21 = .ok (.iinc 2 1, 3) := by decide +kernel
theorem dX2_faultCount_24 : decode cX2_faultCount 24 = .ok (.goto (-20), 3) := by decide +kernel
theorem dX2_faultCount_27 : decode cX2_faultCount 27 = .ok (.iload_n 1, 1) := by decide +kernel
theorem dX2_faultCount_28 : decode cX2_faultCount 28 = .ok (.ireturn, 1) := by decide +kernel
theorem dX2_bedAheadOfFault_0 : decode cX2_bedAheadOfFault 0 = .ok (.iconst 0, 1) := by decide +kernel
theorem dX2_bedAheadOfFault_1 : decode cX2_bedAheadOfFault 1 = .ok (.istore_n 2, 1) := by decide +kernel
theorem dX2_bedAheadOfFault_2 : decode cX2_bedAheadOfFault 2 = .ok (.iconst 0, 1) := by decide +kernel
theorem dX2_bedAheadOfFault_3 : decode cX2_bedAheadOfFault 3 = .ok (.istore_n 3, 1) := by decide +kernel
theorem dX2_bedAheadOfFault_4 : decode cX2_bedAheadOfFault 4 = .ok (.iload_n 3, 1) := by decide +kernel
theorem dX2_bedAheadOfFault_5 : decode cX2_bedAheadOfFault 5 = .ok (.bipush 24, 2) := by decide +kernel
theorem dX2_bedAheadOfFault_7 : decode cX2_bedAheadOfFault 7 = .ok (.if_icmp .ge 27, 3) := by decide +kernel
theorem dX2_bedAheadOfFault_10 : decode cX2_bedAheadOfFault 10 = .ok (.aload_n 0, 1) := by decide +kernel
theorem dX2_bedAheadOfFault_11 : decode cX2_bedAheadOfFault 11 = .ok (.iload_n 3, 1) := by decide +kernel
theorem dX2_bedAheadOfFault_12 : decode cX2_bedAheadOfFault 12 = .ok (.invokevirtual 112, 3) := by decide +kernel
theorem dX2_bedAheadOfFault_15 : decode cX2_bedAheadOfFault 15 = .ok (.ifCond .eq 13, 3) := by decide +kernel
theorem dX2_bedAheadOfFault_18 : decode cX2_bedAheadOfFault 18 = .ok (.iload_n 2, 1) := by decide +kernel
theorem dX2_bedAheadOfFault_19 : decode cX2_bedAheadOfFault 19 = .ok (.iload_n 1, 1) := by decide +kernel
theorem dX2_bedAheadOfFault_20 : decode cX2_bedAheadOfFault 20 = .ok (.if_icmp .ne 5, 3) := by decide +kernel
theorem dX2_bedAheadOfFault_23 : decode cX2_bedAheadOfFault 23 = .ok (.iload_n 3, 1) := by decide +kernel
theorem dX2_bedAheadOfFault_24 : decode cX2_bedAheadOfFault 24 = .ok (.ireturn, 1) := by decide +kernel
theorem dX2_bedAheadOfFault_25 : decode cX2_bedAheadOfFault 25 = .ok (.iinc 2 1, 3) := by decide +kernel
theorem dX2_bedAheadOfFault_28 : decode cX2_bedAheadOfFault 28 = .ok (.iinc 3 1, 3) := by decide +kernel
theorem dX2_bedAheadOfFault_31 : decode cX2_bedAheadOfFault 31 = .ok (.goto (-27), 3) := by decide +kernel
theorem dX2_bedAheadOfFault_34 : decode cX2_bedAheadOfFault 34 = .ok (.ldc 52, 2) := by decide +kernel
theorem dX2_bedAheadOfFault_36 : decode cX2_bedAheadOfFault 36 = .ok (.ireturn, 1) := by decide +kernel
theorem dX2_totalThrow_0 : decode cX2_totalThrow 0 = .ok (.iconst 0, 1) := by decide +kernel
theorem dX2_totalThrow_1 : decode cX2_totalThrow 1 = .ok (.istore_n 2, 1) := by decide +kernel
theorem dX2_totalThrow_2 : decode cX2_totalThrow 2 = .ok (.iconst 0, 1) := by decide +kernel
theorem dX2_totalThrow_3 : decode cX2_totalThrow 3 = .ok (.istore_n 3, 1) := by decide +kernel
theorem dX2_totalThrow_4 : decode cX2_totalThrow 4 = .ok (.iload_n 3, 1) := by decide +kernel
theorem dX2_totalThrow_5 : decode cX2_totalThrow 5 = .ok (.bipush 24, 2) := by decide +kernel
theorem dX2_totalThrow_7 : decode cX2_totalThrow 7 = .ok (.if_icmp .ge 29, 3) := by decide +kernel
theorem dX2_totalThrow_10 : decode cX2_totalThrow 10 = .ok (.iload_n 1, 1) := by decide +kernel
theorem dX2_totalThrow_11 : decode cX2_totalThrow 11 = .ok (.ifCond .eq 11, 3) := by decide +kernel
theorem dX2_totalThrow_14 : decode cX2_totalThrow 14 = .ok (.aload_n 0, 1) := by decide +kernel
theorem dX2_totalThrow_15 : decode cX2_totalThrow 15 = .ok (.iload_n 3, 1) := by decide +kernel
theorem dX2_totalThrow_16 : decode cX2_totalThrow 16 = .ok (.invokevirtual 112, 3) := by decide +kernel
theorem dX2_totalThrow_19 : decode cX2_totalThrow 19 = .ok (.ifCond .eq 11, 3) := by decide +kernel
theorem dX2_totalThrow_22 : decode cX2_totalThrow 22 = .ok (.iload_n 2, 1) := by decide +kernel
theorem dX2_totalThrow_23 : decode cX2_totalThrow 23 = .ok (.aload_n 0, 1) := by decide +kernel
theorem dX2_totalThrow_24 : decode cX2_totalThrow 24 = .ok (.iload_n 3, 1) := by decide +kernel
theorem dX2_totalThrow_25 : decode cX2_totalThrow 25 = .ok (.invokevirtual 101, 3) := by decide +kernel
theorem dX2_totalThrow_28 : decode cX2_totalThrow 28 = .ok (.iadd, 1) := by decide +kernel
theorem dX2_totalThrow_29 : decode cX2_totalThrow 29 = .ok (.istore_n 2, 1) := by decide +kernel
theorem dX2_totalThrow_30 : decode cX2_totalThrow 30 = .ok (.iinc 3 1, 3) := by decide +kernel
theorem dX2_totalThrow_33 : decode cX2_totalThrow 33 = .ok (.goto (-29), 3) := by decide +kernel
theorem dX2_totalThrow_36 : decode cX2_totalThrow 36 = .ok (.iload_n 2, 1) := by decide +kernel
theorem dX2_totalThrow_37 : decode cX2_totalThrow 37 = .ok (.ireturn, 1) := by decide +kernel
theorem dX2_changeOfElevations_0 : decode cX2_changeOfElevations 0 = .ok (.aload_n 0, 1) := by decide +kernel
theorem dX2_changeOfElevations_1 : decode cX2_changeOfElevations 1 = .ok (.iconst (-1), 1) := by decide +kernel
theorem dX2_changeOfElevations_2 : decode cX2_changeOfElevations 2 = .ok (.invokevirtual 79, 3) := by decide +kernel
theorem dX2_changeOfElevations_5 : decode cX2_changeOfElevations 5 = .ok (.istore_n 1, 1) := by decide +kernel
theorem dX2_changeOfElevations_6 : decode cX2_changeOfElevations 6 = .ok (.iload_n 1, 1) := by decide +kernel
theorem dX2_changeOfElevations_7 : decode cX2_changeOfElevations 7 = .ok (.istore_n 2, 1) := by decide +kernel
theorem dX2_changeOfElevations_8 : decode cX2_changeOfElevations 8 = .ok (.iconst 0, 1) := by decide +kernel
theorem dX2_changeOfElevations_9 : decode cX2_changeOfElevations 9 = .ok (.istore_n 3, 1) := by decide +kernel
theorem dX2_changeOfElevations_10 : decode cX2_changeOfElevations 10 = .ok (.iload_n 3, 1) := by decide +kernel
theorem dX2_changeOfElevations_11 : decode cX2_changeOfElevations 11 = .ok (.bipush 24, 2) := by decide +kernel
theorem dX2_changeOfElevations_13 : decode cX2_changeOfElevations 13 = .ok (.if_icmp .ge 21, 3) := by decide +kernel
theorem dX2_changeOfElevations_16 : decode cX2_changeOfElevations 16 = .ok (.aload_n 0, 1) := by decide +kernel
theorem dX2_changeOfElevations_17 : decode cX2_changeOfElevations 17 = .ok (.iconst 0, 1) := by decide +kernel
theorem dX2_changeOfElevations_18 : decode cX2_changeOfElevations 18 = .ok (.iload_n 3, 1) := by decide +kernel
theorem dX2_changeOfElevations_19 : decode cX2_changeOfElevations 19 = .ok (.invokevirtual 76, 3) := by decide +kernel
theorem dX2_changeOfElevations_22 : decode cX2_changeOfElevations 22 = .ok (.iconst 1, 1) := by decide +kernel
theorem dX2_changeOfElevations_23 : decode cX2_changeOfElevations 23 = .ok (.if_icmp .ne 5, 3) := by decide +kernel
theorem dX2_changeOfElevations_26 : decode cX2_changeOfElevations 26 = .ok (.iload_n 3, 1) := by decide +kernel
theorem dX2_changeOfElevations_27 : decode cX2_changeOfElevations 27 = .ok (.istore_n 2, 1) := by decide +kernel
theorem dX2_changeOfElevations_28 : decode cX2_changeOfElevations 28 = .ok (.iinc 3 1, 3) := by decide +kernel
theorem dX2_changeOfElevations_31 : decode cX2_changeOfElevations 31 = .ok (.goto (-21), 3) := by decide +kernel
theorem dX2_changeOfElevations_34 : decode cX2_changeOfElevations 34 = .ok (.aload_n 0, 1) := by decide +kernel
theorem dX2_changeOfElevations_35 : decode cX2_changeOfElevations 35 = .ok (.iload_n 1, 1) := by decide +kernel
theorem dX2_changeOfElevations_36 : decode cX2_changeOfElevations 36 = .ok (.invokevirtual 115, 3) := by decide +kernel
theorem dX2_changeOfElevations_39 : decode cX2_changeOfElevations 39 = .ok (.aload_n 0, 1) := by decide +kernel
theorem dX2_changeOfElevations_40 : decode cX2_changeOfElevations 40 = .ok (.iload_n 2, 1) := by decide +kernel
theorem dX2_changeOfElevations_41 : decode cX2_changeOfElevations 41 = .ok (.invokevirtual 115, 3) := by decide +kernel
theorem dX2_changeOfElevations_44 : decode cX2_changeOfElevations 44 = .ok (.isub, 1) := by decide +kernel
theorem dX2_changeOfElevations_45 : decode cX2_changeOfElevations 45 = .ok (.ireturn, 1) := by decide +kernel
theorem dX2_differenceOfElevations_0 : decode cX2_differenceOfElevations 0 = .ok (.aload_n 0, 1) := by decide +kernel
theorem dX2_differenceOfElevations_1 : decode cX2_differenceOfElevations 1 = .ok (.getfield 12, 3) := by decide +kernel
theorem dX2_differenceOfElevations_4 : decode cX2_differenceOfElevations 4 = .ok (.invokevirtual 86, 3) := by decide +kernel
theorem dX2_differenceOfElevations_7 : decode cX2_differenceOfElevations 7 = .ok (.iload_n 1, 1) := by decide +kernel
theorem dX2_differenceOfElevations_8 : decode cX2_differenceOfElevations 8 = .ok (.invokevirtual 118, 3) := by decide +kernel
theorem dX2_differenceOfElevations_11 : decode cX2_differenceOfElevations 11 = .ok (.aload_n 0, 1) := by decide +kernel
theorem dX2_differenceOfElevations_12 : decode cX2_differenceOfElevations 12 = .ok (.getfield 12, 3) := by decide +kernel
theorem dX2_differenceOfElevations_15 : decode cX2_differenceOfElevations 15 = .ok (.invokevirtual 95, 3) := by decide +kernel
theorem dX2_differenceOfElevations_18 : decode cX2_differenceOfElevations 18 = .ok (.aload_n 0, 1) := by decide +kernel
theorem dX2_differenceOfElevations_19 : decode cX2_differenceOfElevations 19 = .ok (.iconst 0, 1) := by decide +kernel
theorem dX2_differenceOfElevations_20 : decode cX2_differenceOfElevations 20 = .ok (.iload_n 1, 1) := by decide +kernel
theorem dX2_differenceOfElevations_21 : decode cX2_differenceOfElevations 21 = .ok (.invokevirtual 98, 3) := by decide +kernel
theorem dX2_differenceOfElevations_24 : decode cX2_differenceOfElevations 24 = .ok (.invokevirtual 118, 3) := by decide +kernel
theorem dX2_differenceOfElevations_27 : decode cX2_differenceOfElevations 27 = .ok (.isub, 1) := by decide +kernel
theorem dX2_differenceOfElevations_28 : decode cX2_differenceOfElevations 28 = .ok (.ireturn, 1) := by decide +kernel
theorem dX3_init_0 : decode cX3_init 0 = .ok (.aload_n 0, 1) := by decide +kernel
theorem dX3_init_1 : decode cX3_init 1 = .ok (.invokespecial 3, 3) := by decide +kernel
theorem dX3_init_4 : decode cX3_init 4 = .ok (.aload_n 0, 1) := by decide +kernel
theorem dX3_init_5 : decode cX3_init 5 = .ok (.new 9, 3) := by decide +kernel
theorem dX3_init_8 : decode cX3_init 8 = .ok (.dup, 1) := by decide +kernel
theorem dX3_init_9 : decode cX3_init 9 = .ok (.invokespecial 11, 3) := by decide +kernel
theorem dX3_init_12 : decode cX3_init 12 = .ok (.putfield 12, 3) := by decide +kernel
theorem dX3_init_15 : decode cX3_init 15 = .ok (.aload_n 0, 1) := by decide +kernel
theorem dX3_init_16 : decode cX3_init 16 = .ok (.new 9, 3) := by decide +kernel
theorem dX3_init_19 : decode cX3_init 19 = .ok (.dup, 1) := by decide +kernel
theorem dX3_init_20 : decode cX3_init 20 = .ok (.invokespecial 11, 3) := by decide +kernel
theorem dX3_init_23 : decode cX3_init 23 = .ok (.putfield 18, 3) := by decide +kernel
theorem dX3_init_26 : decode cX3_init 26 = .ok (.aload_n 0, 1) := by decide +kernel
theorem dX3_init_27 : decode cX3_init 27 = .ok (.bipush 26, 2) := by decide +kernel
theorem dX3_init_29 : decode cX3_init 29 = .ok (.newarray .int, 2) := by decide +kernel
theorem dX3_init_31 : decode cX3_init 31 = .ok (.putfield 21, 3) := by decide +kernel
theorem dX3_init_34 : decode cX3_init 34 = .ok (.aload_n 0, 1) := by decide +kernel
theorem dX3_init_35 : decode cX3_init 35 = .ok (.iconst 0, 1) := by decide +kernel
theorem dX3_init_36 : decode cX3_init 36 = .ok (.putfield 25, 3) := by decide +kernel
theorem dX3_init_39 : decode cX3_init 39 = .ok (.aload_n 0, 1) := by decide +kernel
theorem dX3_init_40 : decode cX3_init 40 = .ok (.iconst 0, 1) := by decide +kernel
theorem dX3_init_41 : decode cX3_init 41 = .ok (.putfield 29, 3) := by decide +kernel
theorem dX3_init_44 : decode cX3_init 44 = .ok (.aload_n 0, 1) := by decide +kernel
theorem dX3_init_45 : decode cX3_init 45 = .ok (.iconst 0, 1) := by decide +kernel
theorem dX3_init_46 : decode cX3_init 46 = .ok (.putfield 32, 3) := by decide +kernel
theorem dX3_init_49 : decode cX3_init 49 = .ok (.aload_n 0, 1) := by decide +kernel
theorem dX3_init_50 : decode cX3_init 50 = .ok (.sipush 625, 3) := by decide +kernel
theorem dX3_init_53 : decode cX3_init 53 = .ok (.newarray .int, 2) := by decide +kernel
theorem dX3_init_55 : decode cX3_init 55 = .ok (.putfield 35, 3) := by decide +kernel
theorem dX3_init_58 : decode cX3_init 58 = .ok (.return_, 1) := by decide +kernel
theorem dX3_take_0 : decode cX3_take 0 = .ok (.aload_n 0, 1) := by decide +kernel
theorem dX3_take_1 : decode cX3_take 1 = .ok (.getfield 12, 3) := by decide +kernel
theorem dX3_take_4 : decode cX3_take 4 = .ok (.aload_n 1, 1) := by decide +kernel
theorem dX3_take_5 : decode cX3_take 5 = .ok (.iload_n 2, 1) := by decide +kernel
theorem dX3_take_6 : decode cX3_take 6 = .ok (.invokevirtual 38, 3) := by decide +kernel
theorem dX3_take_9 : decode cX3_take 9 = .ok (.invokevirtual 44, 3) := by decide +kernel
theorem dX3_take_12 : decode cX3_take 12 = .ok (.aload_n 0, 1) := by decide +kernel
theorem dX3_take_13 : decode cX3_take 13 = .ok (.getfield 18, 3) := by decide +kernel
theorem dX3_take_16 : decode cX3_take 16 = .ok (.aload_n 1, 1) := by decide +kernel
theorem dX3_take_17 : decode cX3_take 17 = .ok (.iload_n 3, 1) := by decide +kernel
theorem dX3_take_18 : decode cX3_take 18 = .ok (.invokevirtual 38, 3) := by decide +kernel
theorem dX3_take_21 : decode cX3_take 21 = .ok (.invokevirtual 44, 3) := by decide +kernel
theorem dX3_take_24 : decode cX3_take 24 = .ok (.aload_n 1, 1) := by decide +kernel
theorem dX3_take_25 : decode cX3_take 25 = .ok (.iconst 0, 1) := by decide +kernel
theorem dX3_take_26 : decode cX3_take 26 = .ok (.invokevirtual 48, 3) := by decide +kernel
theorem dX3_take_29 : decode cX3_take 29 = .ok (.istore 4, 2) := by decide +kernel
theorem dX3_take_31 : decode cX3_take 31 = .ok (.iconst 0, 1) := by decide +kernel
theorem dX3_take_32 : decode cX3_take 32 = .ok (.istore 5, 2) := by decide +kernel
theorem dX3_take_34 : decode cX3_take 34 = .ok (.iload 5, 2) := by decide +kernel
theorem dX3_take_36 : decode cX3_take 36 = .ok (.bipush 26, 2) := by decide +kernel
theorem dX3_take_38 : decode cX3_take 38 = .ok (.if_icmp .ge 34, 3) := by decide +kernel
theorem dX3_take_41 : decode cX3_take 41 = .ok (.aload_n 0, 1) := by decide +kernel
theorem dX3_take_42 : decode cX3_take 42 = .ok (.getfield 21, 3) := by decide +kernel
theorem dX3_take_45 : decode cX3_take 45 = .ok (.iload 5, 2) := by decide +kernel
theorem dX3_take_47 : decode cX3_take 47 = .ok (.aload_n 1, 1) := by decide +kernel
theorem dX3_take_48 : decode cX3_take 48 = .ok (.iload 5, 2) := by decide +kernel
theorem dX3_take_50 : decode cX3_take 50 = .ok (.invokevirtual 52, 3) := by decide +kernel
theorem dX3_take_53 : decode cX3_take 53 = .ok (.ifCond .eq 10, 3) := by decide +kernel
theorem dX3_take_56 : decode cX3_take 56 = .ok (.iconst 3, 1) := by decide +kernel
theorem dX3_take_57 : decode cX3_take 57 = .ok (.iload 4, 2) := by decide +kernel
theorem dX3_take_59 : decode cX3_take 59 = .ok (.imul, 1) := by decide +kernel
theorem dX3_take_60 : decode cX3_take 60 = .ok (.goto 5, 3) := by decide +kernel
theorem dX3_take_63 : decode cX3_take 63 = .ok (.iload 4, 2) := by decide +kernel
theorem dX3_take_65 : decode cX3_take 65 = .ok (.iastore, 1) := by decide +kernel
theorem dX3_take_66 : decode cX3_take 66 = .ok (.iinc 5 1, 3) := by decide +kernel
theorem dX3_take_69 : decode cX3_take 69 = .ok (.goto (-35), 3) := by decide +kernel
theorem dX3_take_72 : decode cX3_take 72 = .ok (.aload_n 0, 1) := by decide +kernel
theorem dX3_take_73 : decode cX3_take 73 = .ok (.aload_n 1, 1) := by decide +kernel
theorem dX3_take_74 : decode cX3_take 74 = .ok (.iconst 1, 1) := by decide +kernel
theorem dX3_take_75 : decode cX3_take 75 = .ok (.invokevirtual 48, 3) := by decide +kernel
theorem dX3_take_78 : decode cX3_take 78 = .ok (.putfield 25, 3) := by decide +kernel
theorem dX3_take_81 : decode cX3_take 81 = .ok (.aload_n 0, 1) := by decide +kernel
theorem dX3_take_82 : decode cX3_take 82 = .ok (.aload_n 1, 1) := by decide +kernel
theorem dX3_take_83 : decode cX3_take 83 = .ok (.iconst 2, 1) := by decide +kernel
theorem dX3_take_84 : decode cX3_take 84 = .ok (.invokevirtual 48, 3) := by decide +kernel
theorem dX3_take_87 : decode cX3_take 87 = .ok (.putfield 29, 3) := by decide +kernel
theorem dX3_take_90 : decode cX3_take 90 = .ok (.aload_n 0, 1) := by decide +kernel
theorem dX3_take_91 : decode cX3_take 91 = .ok (.aload_n 1, 1) := by decide +kernel
theorem dX3_take_92 : decode cX3_take 92 = .ok (.iconst 3, 1) := by decide +kernel
theorem dX3_take_93 : decode cX3_take 93 = .ok (.invokevirtual 48, 3) := by decide +kernel
theorem dX3_take_96 : decode cX3_take 96 = .ok (.putfield 32, 3) := by decide +kernel
theorem dX3_take_99 : decode cX3_take 99 = .ok (.return_, 1) := by decide +kernel
theorem dX3_columnA_0 : decode cX3_columnA 0 = .ok (.aload_n 0, 1) := by decide +kernel
theorem dX3_columnA_1 : decode cX3_columnA 1 = .ok (.getfield 12, 3) := by decide +kernel
theorem dX3_columnA_4 : decode cX3_columnA 4 = .ok (.areturn, 1) := by decide +kernel
theorem dX3_columnB_0 : decode cX3_columnB 0 = .ok (.aload_n 0, 1) := by decide +kernel
theorem dX3_columnB_1 : decode cX3_columnB 1 = .ok (.getfield 18, 3) := by decide +kernel
theorem dX3_columnB_4 : decode cX3_columnB 4 = .ok (.areturn, 1) := by decide +kernel
theorem dX3_repeatedBed_0 : decode cX3_repeatedBed 0 = .ok (.aload_n 0, 1) := by decide +kernel
theorem dX3_repeatedBed_1 : decode cX3_repeatedBed 1 = .ok (.getfield 18, 3) := by decide +kernel
theorem dX3_repeatedBed_4 : decode cX3_repeatedBed 4 = .ok (.iload_n 2, 1) := by decide +kernel
theorem dX3_repeatedBed_5 : decode cX3_repeatedBed 5 = .ok (.invokevirtual 56, 3) := by decide +kernel
theorem dX3_repeatedBed_8 : decode cX3_repeatedBed 8 = .ok (.ifCond .ne 6, 3) := by decide +kernel
theorem dX3_repeatedBed_11 : decode cX3_repeatedBed 11 = .ok (.ldc 59, 2) := by decide +kernel
theorem dX3_repeatedBed_13 : decode cX3_repeatedBed 13 = .ok (.ireturn, 1) := by decide +kernel
theorem dX3_repeatedBed_14 : decode cX3_repeatedBed 14 = .ok (.aload_n 0, 1) := by decide +kernel
theorem dX3_repeatedBed_15 : decode cX3_repeatedBed 15 = .ok (.getfield 18, 3) := by decide +kernel
theorem dX3_repeatedBed_18 : decode cX3_repeatedBed 18 = .ok (.iload_n 2, 1) := by decide +kernel
theorem dX3_repeatedBed_19 : decode cX3_repeatedBed 19 = .ok (.invokevirtual 60, 3) := by decide +kernel
theorem dX3_repeatedBed_22 : decode cX3_repeatedBed 22 = .ok (.istore_n 3, 1) := by decide +kernel
theorem dX3_repeatedBed_23 : decode cX3_repeatedBed 23 = .ok (.iload_n 1, 1) := by decide +kernel
theorem dX3_repeatedBed_24 : decode cX3_repeatedBed 24 = .ok (.iconst 1, 1) := by decide +kernel
theorem dX3_repeatedBed_25 : decode cX3_repeatedBed 25 = .ok (.isub, 1) := by decide +kernel
theorem dX3_repeatedBed_26 : decode cX3_repeatedBed 26 = .ok (.istore 4, 2) := by decide +kernel
theorem dX3_repeatedBed_28 : decode cX3_repeatedBed 28 = .ok (.iload 4, 2) := by decide +kernel
theorem dX3_repeatedBed_30 : decode cX3_repeatedBed 30 = .ok (.ifCond .lt 36, 3) := by decide +kernel
theorem dX3_repeatedBed_33 : decode cX3_repeatedBed 33 = .ok (.iload 4, 2) := by decide +kernel
theorem dX3_repeatedBed_35 : decode cX3_repeatedBed 35 = .ok (.iload_n 1, 1) := by decide +kernel
theorem dX3_repeatedBed_36 : decode cX3_repeatedBed 36 = .ok (.aload_n 0, 1) := by decide +kernel
theorem dX3_repeatedBed_37 : decode cX3_repeatedBed 37 = .ok (.getfield 32, 3) := by decide +kernel
theorem dX3_repeatedBed_40 : decode cX3_repeatedBed 40 = .ok (.isub, 1) := by decide +kernel
theorem dX3_repeatedBed_41 : decode cX3_repeatedBed 41 = .ok (.if_icmp .lt 25, 3) := by decide +kernel
theorem dX3_repeatedBed_44 : decode cX3_repeatedBed 44 = .ok (.aload_n 0, 1) := by decide +kernel
theorem dX3_repeatedBed_45 : decode cX3_repeatedBed 45 = .ok (.getfield 12, 3) := by decide +kernel
theorem dX3_repeatedBed_48 : decode cX3_repeatedBed 48 = .ok (.iload 4, 2) := by decide +kernel
theorem dX3_repeatedBed_50 : decode cX3_repeatedBed 50 = .ok (.invokevirtual 60, 3) := by decide +kernel
theorem dX3_repeatedBed_53 : decode cX3_repeatedBed 53 = .ok (.iload_n 3, 1) := by decide +kernel
theorem dX3_repeatedBed_54 : decode cX3_repeatedBed 54 = .ok (.if_icmp .ne 6, 3) := by decide +kernel
theorem dX3_repeatedBed_57 : decode cX3_repeatedBed 57 = .ok (.iload 4, 2) := by decide +kernel
theorem dX3_repeatedBed_59 : decode cX3_repeatedBed 59 = .ok (.ireturn, 1) := by decide +kernel
theorem dX3_repeatedBed_60 : decode cX3_repeatedBed 60 = .ok (.iinc 4 (-1), 3) := by decide +kernel
theorem dX3_repeatedBed_63 : decode cX3_repeatedBed 63 = .ok (.goto (-35), 3) := by decide +kernel
theorem dX3_repeatedBed_66 : decode cX3_repeatedBed 66 = .ok (.ldc 59, 2) := by decide +kernel
theorem dX3_repeatedBed_68 : decode cX3_repeatedBed 68 = .ok (.ireturn, 1) := by decide +kernel
theorem dX3_stepCost_0 : decode cX3_stepCost 0 = .ok (.iload_n 1, 1) := by decide +kernel
theorem dX3_stepCost_1 : decode cX3_stepCost 1 = .ok (.tableswitch 126 1 3 #[27, 80, 93], 27) := by decide +kernel
theorem dX3_stepCost_28 : decode cX3_stepCost 28 = .ok (.aload_n 0, 1) := by decide +kernel
theorem dX3_stepCost_29 : decode cX3_stepCost 29 = .ok (.getfield 12, 3) := by decide +kernel
theorem dX3_stepCost_32 : decode cX3_stepCost 32 = .ok (.iload_n 2, 1) := by decide +kernel
theorem dX3_stepCost_33 : decode cX3_stepCost 33 = .ok (.invokevirtual 56, 3) := by decide +kernel
theorem dX3_stepCost_36 : decode cX3_stepCost 36 = .ok (.ifCond .eq 42, 3) := by decide +kernel
theorem dX3_stepCost_39 : decode cX3_stepCost 39 = .ok (.aload_n 0, 1) := by decide +kernel
theorem dX3_stepCost_40 : decode cX3_stepCost 40 = .ok (.getfield 18, 3) := by decide +kernel
theorem dX3_stepCost_43 : decode cX3_stepCost 43 = .ok (.iload_n 3, 1) := by decide +kernel
theorem dX3_stepCost_44 : decode cX3_stepCost 44 = .ok (.invokevirtual 56, 3) := by decide +kernel
theorem dX3_stepCost_47 : decode cX3_stepCost 47 = .ok (.ifCond .eq 31, 3) := by decide +kernel
theorem dX3_stepCost_50 : decode cX3_stepCost 50 = .ok (.aload_n 0, 1) := by decide +kernel
theorem dX3_stepCost_51 : decode cX3_stepCost 51 = .ok (.getfield 12, 3) := by decide +kernel
theorem dX3_stepCost_54 : decode cX3_stepCost 54 = .ok (.iload_n 2, 1) := by decide +kernel
theorem dX3_stepCost_55 : decode cX3_stepCost 55 = .ok (.invokevirtual 60, 3) := by decide +kernel
theorem dX3_stepCost_58 : decode cX3_stepCost 58 = .ok (.aload_n 0, 1) := by decide +kernel
theorem dX3_stepCost_59 : decode cX3_stepCost 59 = .ok (.getfield 18, 3) := by decide +kernel
theorem dX3_stepCost_62 : decode cX3_stepCost 62 = .ok (.iload_n 3, 1) := by decide +kernel
theorem dX3_stepCost_63 : decode cX3_stepCost 63 = .ok (.invokevirtual 60, 3) := by decide +kernel
theorem dX3_stepCost_66 : decode cX3_stepCost 66 = .ok (.if_icmp .ne 12, 3) := by decide +kernel
theorem dX3_stepCost_69 : decode cX3_stepCost 69 = .ok (.aload_n 0, 1) := by decide +kernel
theorem dX3_stepCost_70 : decode cX3_stepCost 70 = .ok (.iload_n 2, 1) := by decide +kernel
theorem dX3_stepCost_71 : decode cX3_stepCost 71 = .ok (.iload_n 3, 1) := by decide +kernel
theorem dX3_stepCost_72 : decode cX3_stepCost 72 = .ok (.invokevirtual 63, 3) := by decide +kernel
theorem dX3_stepCost_75 : decode cX3_stepCost 75 = .ok (.goto 5, 3) := by decide +kernel
theorem dX3_stepCost_78 : decode cX3_stepCost 78 = .ok (.ldc 67, 2) := by decide +kernel
theorem dX3_stepCost_80 : decode cX3_stepCost 80 = .ok (.ireturn, 1) := by decide +kernel
theorem dX3_stepCost_81 : decode cX3_stepCost 81 = .ok (.aload_n 0, 1) := by decide +kernel
theorem dX3_stepCost_82 : decode cX3_stepCost 82 = .ok (.aload_n 0, 1) := by decide +kernel
theorem dX3_stepCost_83 : decode cX3_stepCost 83 = .ok (.getfield 12, 3) := by decide +kernel
theorem dX3_stepCost_86 : decode cX3_stepCost 86 = .ok (.iload_n 2, 1) := by decide +kernel
theorem dX3_stepCost_87 : decode cX3_stepCost 87 = .ok (.invokevirtual 60, 3) := by decide +kernel
theorem dX3_stepCost_90 : decode cX3_stepCost 90 = .ok (.invokevirtual 68, 3) := by decide +kernel
theorem dX3_stepCost_93 : decode cX3_stepCost 93 = .ok (.ireturn, 1) := by decide +kernel
theorem dX3_stepCost_94 : decode cX3_stepCost 94 = .ok (.aload_n 0, 1) := by decide +kernel
theorem dX3_stepCost_95 : decode cX3_stepCost 95 = .ok (.iload_n 2, 1) := by decide +kernel
theorem dX3_stepCost_96 : decode cX3_stepCost 96 = .ok (.iload_n 3, 1) := by decide +kernel
theorem dX3_stepCost_97 : decode cX3_stepCost 97 = .ok (.invokevirtual 71, 3) := by decide +kernel
theorem dX3_stepCost_100 : decode cX3_stepCost 100 = .ok (.istore 4, 2) := by decide +kernel
theorem dX3_stepCost_102 : decode cX3_stepCost 102 = .ok (.iload 4, 2) := by decide +kernel
theorem dX3_stepCost_104 : decode cX3_stepCost 104 = .ok (.ldc 59, 2) := by decide +kernel
theorem dX3_stepCost_106 : decode cX3_stepCost 106 = .ok (.if_icmp .ne 8, 3) := by decide +kernel
theorem dX3_stepCost_109 : decode cX3_stepCost 109 = .ok (.ldc 67, 2) := by decide +kernel
theorem dX3_stepCost_111 : decode cX3_stepCost 111 = .ok (.goto 15, 3) := by decide +kernel
theorem dX3_stepCost_114 : decode cX3_stepCost 114 = .ok (.aload_n 0, 1) := by decide +kernel
theorem dX3_stepCost_115 : decode cX3_stepCost 115 = .ok (.getfield 25, 3) := by decide +kernel
theorem dX3_stepCost_118 : decode cX3_stepCost 118 = .ok (.aload_n 0, 1) := by decide +kernel
theorem dX3_stepCost_119 : decode cX3_stepCost 119 = .ok (.iload 4, 2) := by decide +kernel
theorem dX3_stepCost_121 : decode cX3_stepCost 121 = .ok (.iload_n 3, 1) := by decide +kernel
theorem dX3_stepCost_122 : decode cX3_stepCost 122 = .ok (.invokevirtual 63, 3) := by decide +kernel
theorem dX3_stepCost_125 : decode cX3_stepCost 125 = .ok (.iadd, 1) := by decide +kernel
theorem dX3_stepCost_126 : decode cX3_stepCost 126 = .ok (.ireturn, 1) := by decide +kernel
theorem dX3_stepCost_127 : decode cX3_stepCost 127 = .ok (.aload_n 0, 1) := by decide +kernel
theorem dX3_stepCost_128 : decode cX3_stepCost 128 = .ok (.aload_n 0, 1) := by decide +kernel
theorem dX3_stepCost_129 : decode cX3_stepCost 129 = .ok (.getfield 18, 3) := by decide +kernel
theorem dX3_stepCost_132 : decode cX3_stepCost 132 = .ok (.iload_n 3, 1) := by decide +kernel
theorem dX3_stepCost_133 : decode cX3_stepCost 133 = .ok (.invokevirtual 60, 3) := by decide +kernel
theorem dX3_stepCost_136 : decode cX3_stepCost 136 = .ok (.invokevirtual 68, 3) := by decide +kernel
theorem dX3_stepCost_139 : decode cX3_stepCost 139 = .ok (.ireturn, 1) := by decide +kernel
theorem dX3_missingCostOf_0 : decode cX3_missingCostOf 0 = .ok (.iload_n 1, 1) := by decide +kernel
theorem dX3_missingCostOf_1 : decode cX3_missingCostOf 1 = .ok (.invokestatic 74, 3) := by decide +kernel
theorem dX3_missingCostOf_4 : decode cX3_missingCostOf 4 = .ok (.ifCond .eq 12, 3) := by decide +kernel
theorem dX3_missingCostOf_7 : decode cX3_missingCostOf 7 = .ok (.aload_n 0, 1) := by decide +kernel
theorem dX3_missingCostOf_8 : decode cX3_missingCostOf 8 = .ok (.getfield 21, 3) := by decide +kernel
theorem dX3_missingCostOf_11 : decode cX3_missingCostOf 11 = .ok (.iload_n 1, 1) := by decide +kernel
theorem dX3_missingCostOf_12 : decode cX3_missingCostOf 12 = .ok (.iaload, 1) := by decide +kernel
theorem dX3_missingCostOf_13 : decode cX3_missingCostOf 13 = .ok (.goto 5, 3) := by decide +kernel
theorem dX3_missingCostOf_16 : decode cX3_missingCostOf 16 = .ok (.ldc 67, 2) := by decide +kernel
theorem dX3_missingCostOf_18 : decode cX3_missingCostOf 18 = .ok (.ireturn, 1) := by decide +kernel
theorem dX3_costOfDifference_0 : decode cX3_costOfDifference 0 = .ok (.aload_n 0, 1) := by decide +kernel
theorem dX3_costOfDifference_1 : decode cX3_costOfDifference 1 = .ok (.getfield 29, 3) := by decide +kernel
theorem dX3_costOfDifference_4 : decode cX3_costOfDifference 4 = .ok (.aload_n 0, 1) := by decide +kernel
theorem dX3_costOfDifference_5 : decode cX3_costOfDifference 5 = .ok (.getfield 12, 3) := by decide +kernel
theorem dX3_costOfDifference_8 : decode cX3_costOfDifference 8 = .ok (.iload_n 1, 1) := by decide +kernel
theorem dX3_costOfDifference_9 : decode cX3_costOfDifference 9 = .ok (.invokevirtual 77, 3) := by decide +kernel
theorem dX3_costOfDifference_12 : decode cX3_costOfDifference 12 = .ok (.aload_n 0, 1) := by decide +kernel
theorem dX3_costOfDifference_13 : decode cX3_costOfDifference 13 = .ok (.getfield 18, 3) := by decide +kernel
theorem dX3_costOfDifference_16 : decode cX3_costOfDifference 16 = .ok (.iload_n 2, 1) := by decide +kernel
theorem dX3_costOfDifference_17 : decode cX3_costOfDifference 17 = .ok (.invokevirtual 77, 3) := by decide +kernel
theorem dX3_costOfDifference_20 : decode cX3_costOfDifference 20 = .ok (.isub, 1) := by decide +kernel
theorem dX3_costOfDifference_21 : decode cX3_costOfDifference 21 = .ok (.invokestatic 80, 3) := by decide +kernel
theorem dX3_costOfDifference_24 : decode cX3_costOfDifference 24 = .ok (.imul, 1) := by decide +kernel
theorem dX3_costOfDifference_25 : decode cX3_costOfDifference 25 = .ok (.ireturn, 1) := by decide +kernel
theorem dX3_nextOfA_0 : decode cX3_nextOfA 0 = .ok (.iload_n 0, 1) := by decide +kernel
theorem dX3_nextOfA_1 : decode cX3_nextOfA 1 = .ok (.iconst 1, 1) := by decide +kernel
theorem dX3_nextOfA_2 : decode cX3_nextOfA 2 = .ok (.if_icmp .eq 8, 3) := by decide +kernel
theorem dX3_nextOfA_5 : decode cX3_nextOfA 5 = .ok (.iload_n 0, 1) := by decide +kernel
theorem dX3_nextOfA_6 : decode cX3_nextOfA 6 = .ok (.iconst 2, 1) := by decide +kernel
theorem dX3_nextOfA_7 : decode cX3_nextOfA 7 = .ok (.if_icmp .ne 9, 3) := by decide +kernel
theorem dX3_nextOfA_10 : decode cX3_nextOfA 10 = .ok (.iload_n 1, 1) := by decide +kernel
theorem dX3_nextOfA_11 : decode cX3_nextOfA 11 = .ok (.iconst 1, 1) := by decide +kernel
theorem dX3_nextOfA_12 : decode cX3_nextOfA 12 = .ok (.iadd, 1) := by decide +kernel
theorem dX3_nextOfA_13 : decode cX3_nextOfA 13 = .ok (.goto 4, 3) := by decide +kernel
theorem dX3_nextOfA_16 : decode cX3_nextOfA 16 = .ok (.iload_n 1, 1) := by decide +kernel
theorem dX3_nextOfA_17 : decode cX3_nextOfA 17 = .ok (.ireturn, 1) := by decide +kernel
theorem dX3_nextOfB_0 : decode cX3_nextOfB 0 = .ok (.iload_n 0, 1) := by decide +kernel
theorem dX3_nextOfB_1 : decode cX3_nextOfB 1 = .ok (.iconst 2, 1) := by decide +kernel
theorem dX3_nextOfB_2 : decode cX3_nextOfB 2 = .ok (.if_icmp .ne 7, 3) := by decide +kernel
theorem dX3_nextOfB_5 : decode cX3_nextOfB 5 = .ok (.iload_n 1, 1) := by decide +kernel
theorem dX3_nextOfB_6 : decode cX3_nextOfB 6 = .ok (.goto 6, 3) := by decide +kernel
theorem dX3_nextOfB_9 : decode cX3_nextOfB 9 = .ok (.iload_n 1, 1) := by decide +kernel
theorem dX3_nextOfB_10 : decode cX3_nextOfB 10 = .ok (.iconst 1, 1) := by decide +kernel
theorem dX3_nextOfB_11 : decode cX3_nextOfB 11 = .ok (.iadd, 1) := by decide +kernel
theorem dX3_nextOfB_12 : decode cX3_nextOfB 12 = .ok (.ireturn, 1) := by decide +kernel
theorem dX3_leastAt_0 : decode cX3_leastAt 0 = .ok (.iload_n 1, 1) := by decide +kernel
theorem dX3_leastAt_1 : decode cX3_leastAt 1 = .ok (.ifCond .lt 33, 3) := by decide +kernel
theorem dX3_leastAt_4 : decode cX3_leastAt 4 = .ok (.iload_n 1, 1) := by decide +kernel
theorem dX3_leastAt_5 : decode cX3_leastAt 5 = .ok (.bipush 25, 2) := by decide +kernel
theorem dX3_leastAt_7 : decode cX3_leastAt 7 = .ok (.if_icmp .ge 27, 3) := by decide +kernel
theorem dX3_leastAt_10 : decode cX3_leastAt 10 = .ok (.iload_n 2, 1) := by decide +kernel
theorem dX3_leastAt_11 : decode cX3_leastAt 11 = .ok (.ifCond .lt 23, 3) := by decide +kernel
theorem dX3_leastAt_14 : decode cX3_leastAt 14 = .ok (.iload_n 2, 1) := by decide +kernel
theorem dX3_leastAt_15 : decode cX3_leastAt 15 = .ok (.bipush 25, 2) := by decide +kernel
theorem dX3_leastAt_17 : decode cX3_leastAt 17 = .ok (.if_icmp .ge 17, 3) := by decide +kernel
theorem dX3_leastAt_20 : decode cX3_leastAt 20 = .ok (.aload_n 0, 1) := by decide +kernel
theorem dX3_leastAt_21 : decode cX3_leastAt 21 = .ok (.getfield 35, 3) := by decide +kernel
theorem dX3_leastAt_24 : decode cX3_leastAt 24 = .ok (.iload_n 1, 1) := by decide +kernel
theorem dX3_leastAt_25 : decode cX3_leastAt 25 = .ok (.bipush 25, 2) := by decide +kernel
theorem dX3_leastAt_27 : decode cX3_leastAt 27 = .ok (.imul, 1) := by decide +kernel
theorem dX3_leastAt_28 : decode cX3_leastAt 28 = .ok (.iload_n 2, 1) := by decide +kernel
theorem dX3_leastAt_29 : decode cX3_leastAt 29 = .ok (.iadd, 1) := by decide +kernel
theorem dX3_leastAt_30 : decode cX3_leastAt 30 = .ok (.iaload, 1) := by decide +kernel
theorem dX3_leastAt_31 : decode cX3_leastAt 31 = .ok (.goto 5, 3) := by decide +kernel
theorem dX3_leastAt_34 : decode cX3_leastAt 34 = .ok (.ldc 67, 2) := by decide +kernel
theorem dX3_leastAt_36 : decode cX3_leastAt 36 = .ok (.ireturn, 1) := by decide +kernel
theorem dX3_putLeast_0 : decode cX3_putLeast 0 = .ok (.iload_n 1, 1) := by decide +kernel
theorem dX3_putLeast_1 : decode cX3_putLeast 1 = .ok (.ifCond .lt 31, 3) := by decide +kernel
theorem dX3_putLeast_4 : decode cX3_putLeast 4 = .ok (.iload_n 1, 1) := by decide +kernel
theorem dX3_putLeast_5 : decode cX3_putLeast 5 = .ok (.bipush 25, 2) := by decide +kernel
theorem dX3_putLeast_7 : decode cX3_putLeast 7 = .ok (.if_icmp .ge 25, 3) := by decide +kernel
theorem dX3_putLeast_10 : decode cX3_putLeast 10 = .ok (.iload_n 2, 1) := by decide +kernel
theorem dX3_putLeast_11 : decode cX3_putLeast 11 = .ok (.ifCond .lt 21, 3) := by decide +kernel
theorem dX3_putLeast_14 : decode cX3_putLeast 14 = .ok (.iload_n 2, 1) := by decide +kernel
theorem dX3_putLeast_15 : decode cX3_putLeast 15 = .ok (.bipush 25, 2) := by decide +kernel
theorem dX3_putLeast_17 : decode cX3_putLeast 17 = .ok (.if_icmp .ge 15, 3) := by decide +kernel
theorem dX3_putLeast_20 : decode cX3_putLeast 20 = .ok (.aload_n 0, 1) := by decide +kernel
theorem dX3_putLeast_21 : decode cX3_putLeast 21 = .ok (.getfield 35, 3) := by decide +kernel
theorem dX3_putLeast_24 : decode cX3_putLeast 24 = .ok (.iload_n 1, 1) := by decide +kernel
theorem dX3_putLeast_25 : decode cX3_putLeast 25 = .ok (.bipush 25, 2) := by decide +kernel
theorem dX3_putLeast_27 : decode cX3_putLeast 27 = .ok (.imul, 1) := by decide +kernel
theorem dX3_putLeast_28 : decode cX3_putLeast 28 = .ok (.iload_n 2, 1) := by decide +kernel
theorem dX3_putLeast_29 : decode cX3_putLeast 29 = .ok (.iadd, 1) := by decide +kernel
theorem dX3_putLeast_30 : decode cX3_putLeast 30 = .ok (.iload_n 3, 1) := by decide +kernel
theorem dX3_putLeast_31 : decode cX3_putLeast 31 = .ok (.iastore, 1) := by decide +kernel
theorem dX3_putLeast_32 : decode cX3_putLeast 32 = .ok (.return_, 1) := by decide +kernel
theorem dX3_leastAfter_0 : decode cX3_leastAfter 0 = .ok (.aload_n 0, 1) := by decide +kernel
theorem dX3_leastAfter_1 : decode cX3_leastAfter 1 = .ok (.iload_n 1, 1) := by decide +kernel
theorem dX3_leastAfter_2 : decode cX3_leastAfter 2 = .ok (.iload_n 2, 1) := by decide +kernel
theorem dX3_leastAfter_3 : decode cX3_leastAfter 3 = .ok (.invokestatic 85, 3) := by decide +kernel
theorem dX3_leastAfter_6 : decode cX3_leastAfter 6 = .ok (.iload_n 1, 1) := by decide +kernel
theorem dX3_leastAfter_7 : decode cX3_leastAfter 7 = .ok (.iload_n 3, 1) := by decide +kernel
theorem dX3_leastAfter_8 : decode cX3_leastAfter 8 = .ok (.invokestatic 88, 3) := by decide +kernel
theorem dX3_leastAfter_11 : decode cX3_leastAfter 11 = .ok (.invokevirtual 91, 3) := by decide +kernel
theorem dX3_leastAfter_14 : decode cX3_leastAfter 14 = .ok (.ireturn, 1) := by decide +kernel
theorem dX3_costFromBottom_0 : decode cX3_costFromBottom 0 = .ok (.aload_n 0, 1) := by decide +kernel
theorem dX3_costFromBottom_1 : decode cX3_costFromBottom 1 = .ok (.getfield 12, 3) := by decide +kernel
theorem dX3_costFromBottom_4 : decode cX3_costFromBottom 4 = .ok (.invokevirtual 94, 3) := by decide +kernel
theorem dX3_costFromBottom_7 : decode cX3_costFromBottom 7 = .ok (.istore_n 1, 1) := by decide +kernel
theorem dX3_costFromBottom_8 : decode cX3_costFromBottom 8 = .ok (.iload_n 1, 1) := by decide +kernel
theorem dX3_costFromBottom_9 : decode cX3_costFromBottom 9 = .ok (.ifCond .lt 100, 3) := by decide +kernel
theorem dX3_costFromBottom_12 : decode cX3_costFromBottom 12 = .ok (.aload_n 0, 1) := by decide +kernel
theorem dX3_costFromBottom_13 : decode cX3_costFromBottom 13 = .ok (.getfield 18, 3) := by decide +kernel
theorem dX3_costFromBottom_16 : decode cX3_costFromBottom 16 = .ok (.invokevirtual 94, 3) := by decide +kernel
theorem dX3_costFromBottom_19 : decode cX3_costFromBottom 19 = .ok (.istore_n 2, 1) := by decide +kernel
theorem dX3_costFromBottom_20 : decode cX3_costFromBottom 20 = .ok (.iload_n 2, 1) := by decide +kernel
theorem dX3_costFromBottom_21 : decode cX3_costFromBottom 21 = .ok (.ifCond .lt 82, 3) := by decide +kernel
theorem dX3_costFromBottom_24 : decode cX3_costFromBottom 24 = .ok (.iload_n 1, 1) := by decide +kernel
theorem dX3_costFromBottom_25 : decode cX3_costFromBottom 25 = .ok (.aload_n 0, 1) := by decide +kernel
theorem dX3_costFromBottom_26 : decode cX3_costFromBottom 26 = .ok (.getfield 12, 3) := by decide +kernel
theorem dX3_costFromBottom_29 : decode cX3_costFromBottom 29 = .ok (.invokevirtual 94, 3) := by decide +kernel
theorem dX3_costFromBottom_32 : decode cX3_costFromBottom 32 = .ok (.if_icmp .ne 18, 3) := by decide +kernel
theorem dX3_costFromBottom_35 : decode cX3_costFromBottom 35 = .ok (.iload_n 2, 1) := by decide +kernel
theorem dX3_costFromBottom_36 : decode cX3_costFromBottom 36 = .ok (.aload_n 0, 1) := by decide +kernel
theorem dX3_costFromBottom_37 : decode cX3_costFromBottom 37 = .ok (.getfield 18, 3) := by decide +kernel
theorem dX3_costFromBottom_40 : decode cX3_costFromBottom 40 = .ok (.invokevirtual 94, 3) := by decide +kernel
theorem dX3_costFromBottom_43 : decode cX3_costFromBottom 43 = .ok (.if_icmp .ne 7, 3) := by decide +kernel
theorem dX3_costFromBottom_46 : decode cX3_costFromBottom 46 = .ok (.iconst 0, 1) := by decide +kernel
theorem dX3_costFromBottom_47 : decode cX3_costFromBottom 47 = .ok (.goto 5, 3) := by decide +kernel
theorem dX3_costFromBottom_50 : decode cX3_costFromBottom 50 = .ok (.ldc 67, 2) := by decide +kernel
theorem dX3_costFromBottom_52 : decode cX3_costFromBottom 52 = .ok (.istore_n 3, 1) := by decide +kernel
theorem dX3_costFromBottom_53 : decode cX3_costFromBottom 53 = .ok (.iconst 1, 1) := by decide +kernel
theorem dX3_costFromBottom_54 : decode cX3_costFromBottom 54 = .ok (.istore 4, 2) := by decide +kernel
theorem dX3_costFromBottom_56 : decode cX3_costFromBottom 56 = .ok (.iload 4, 2) := by decide +kernel
theorem dX3_costFromBottom_58 : decode cX3_costFromBottom 58 = .ok (.iconst 4, 1) := by decide +kernel
theorem dX3_costFromBottom_59 : decode cX3_costFromBottom 59 = .ok (.if_icmp .gt 31, 3) := by decide +kernel
theorem dX3_costFromBottom_62 : decode cX3_costFromBottom 62 = .ok (.iload_n 3, 1) := by decide +kernel
theorem dX3_costFromBottom_63 : decode cX3_costFromBottom 63 = .ok (.aload_n 0, 1) := by decide +kernel
theorem dX3_costFromBottom_64 : decode cX3_costFromBottom 64 = .ok (.iload 4, 2) := by decide +kernel
theorem dX3_costFromBottom_66 : decode cX3_costFromBottom 66 = .ok (.iload_n 1, 1) := by decide +kernel
theorem dX3_costFromBottom_67 : decode cX3_costFromBottom 67 = .ok (.iload_n 2, 1) := by decide +kernel
theorem dX3_costFromBottom_68 : decode cX3_costFromBottom 68 = .ok (.invokevirtual 98, 3) := by decide +kernel
theorem dX3_costFromBottom_71 : decode cX3_costFromBottom 71 = .ok (.aload_n 0, 1) := by decide +kernel
theorem dX3_costFromBottom_72 : decode cX3_costFromBottom 72 = .ok (.iload 4, 2) := by decide +kernel
theorem dX3_costFromBottom_74 : decode cX3_costFromBottom 74 = .ok (.iload_n 1, 1) := by decide +kernel
theorem dX3_costFromBottom_75 : decode cX3_costFromBottom 75 = .ok (.iload_n 2, 1) := by decide +kernel
theorem dX3_costFromBottom_76 : decode cX3_costFromBottom 76 = .ok (.invokevirtual 102, 3) := by decide +kernel
theorem dX3_costFromBottom_79 : decode cX3_costFromBottom 79 = .ok (.iadd, 1) := by decide +kernel
theorem dX3_costFromBottom_80 : decode cX3_costFromBottom 80 = .ok (.invokestatic 105, 3) := by decide +kernel
theorem dX3_costFromBottom_83 : decode cX3_costFromBottom 83 = .ok (.istore_n 3, 1) := by decide +kernel
theorem dX3_costFromBottom_84 : decode cX3_costFromBottom 84 = .ok (.iinc 4 1, 3) := by decide +kernel
theorem dX3_costFromBottom_87 : decode cX3_costFromBottom 87 = .ok (.goto (-31), 3) := by decide +kernel
theorem dX3_costFromBottom_90 : decode cX3_costFromBottom 90 = .ok (.aload_n 0, 1) := by decide +kernel
theorem dX3_costFromBottom_91 : decode cX3_costFromBottom 91 = .ok (.iload_n 1, 1) := by decide +kernel
theorem dX3_costFromBottom_92 : decode cX3_costFromBottom 92 = .ok (.iload_n 2, 1) := by decide +kernel
theorem dX3_costFromBottom_93 : decode cX3_costFromBottom 93 = .ok (.iload_n 3, 1) := by decide +kernel
theorem dX3_costFromBottom_94 : decode cX3_costFromBottom 94 = .ok (.invokevirtual 108, 3) := by decide +kernel
theorem dX3_costFromBottom_97 : decode cX3_costFromBottom 97 = .ok (.iinc 2 (-1), 3) := by decide +kernel
theorem dX3_costFromBottom_100 : decode cX3_costFromBottom 100 = .ok (.goto (-80), 3) := by decide +kernel
theorem dX3_costFromBottom_103 : decode cX3_costFromBottom 103 = .ok (.iinc 1 (-1), 3) := by decide +kernel
theorem dX3_costFromBottom_106 : decode cX3_costFromBottom 106 = .ok (.goto (-98), 3) := by decide +kernel
theorem dX3_costFromBottom_109 : decode cX3_costFromBottom 109 = .ok (.aload_n 0, 1) := by decide +kernel
theorem dX3_costFromBottom_110 : decode cX3_costFromBottom 110 = .ok (.iconst 0, 1) := by decide +kernel
theorem dX3_costFromBottom_111 : decode cX3_costFromBottom 111 = .ok (.iconst 0, 1) := by decide +kernel
theorem dX3_costFromBottom_112 : decode cX3_costFromBottom 112 = .ok (.invokevirtual 91, 3) := by decide +kernel
theorem dX3_costFromBottom_115 : decode cX3_costFromBottom 115 = .ok (.ireturn, 1) := by decide +kernel
theorem dX3_costFromTop_0 : decode cX3_costFromTop 0 = .ok (.iconst 0, 1) := by decide +kernel
theorem dX3_costFromTop_1 : decode cX3_costFromTop 1 = .ok (.istore_n 1, 1) := by decide +kernel
theorem dX3_costFromTop_2 : decode cX3_costFromTop 2 = .ok (.iload_n 1, 1) := by decide +kernel
theorem dX3_costFromTop_3 : decode cX3_costFromTop 3 = .ok (.sipush 625, 3) := by decide +kernel
theorem dX3_costFromTop_6 : decode cX3_costFromTop 6 = .ok (.if_icmp .ge 17, 3) := by decide +kernel
theorem dX3_costFromTop_9 : decode cX3_costFromTop 9 = .ok (.aload_n 0, 1) := by decide +kernel
theorem dX3_costFromTop_10 : decode cX3_costFromTop 10 = .ok (.getfield 35, 3) := by decide +kernel
theorem dX3_costFromTop_13 : decode cX3_costFromTop 13 = .ok (.iload_n 1, 1) := by decide +kernel
theorem dX3_costFromTop_14 : decode cX3_costFromTop 14 = .ok (.ldc 67, 2) := by decide +kernel
theorem dX3_costFromTop_16 : decode cX3_costFromTop 16 = .ok (.iastore, 1) := by decide +kernel
theorem dX3_costFromTop_17 : decode cX3_costFromTop 17 = .ok (.iinc 1 1, 3) := by decide +kernel
theorem dX3_costFromTop_20 : decode cX3_costFromTop 20 = .ok (.goto (-18), 3) := by decide +kernel
theorem dX3_costFromTop_23 : decode cX3_costFromTop 23 = .ok (.aload_n 0, 1) := by decide +kernel
theorem dX3_costFromTop_24 : decode cX3_costFromTop 24 = .ok (.iconst 0, 1) := by decide +kernel
theorem dX3_costFromTop_25 : decode cX3_costFromTop 25 = .ok (.iconst 0, 1) := by decide +kernel
theorem dX3_costFromTop_26 : decode cX3_costFromTop 26 = .ok (.iconst 0, 1) := by decide +kernel
theorem dX3_costFromTop_27 : decode cX3_costFromTop 27 = .ok (.invokevirtual 108, 3) := by decide +kernel
theorem dX3_costFromTop_30 : decode cX3_costFromTop 30 = .ok (.iconst 0, 1) := by decide +kernel
theorem dX3_costFromTop_31 : decode cX3_costFromTop 31 = .ok (.istore_n 1, 1) := by decide +kernel
theorem dX3_costFromTop_32 : decode cX3_costFromTop 32 = .ok (.iload_n 1, 1) := by decide +kernel
theorem dX3_costFromTop_33 : decode cX3_costFromTop 33 = .ok (.aload_n 0, 1) := by decide +kernel
theorem dX3_costFromTop_34 : decode cX3_costFromTop 34 = .ok (.getfield 12, 3) := by decide +kernel
theorem dX3_costFromTop_37 : decode cX3_costFromTop 37 = .ok (.invokevirtual 94, 3) := by decide +kernel
theorem dX3_costFromTop_40 : decode cX3_costFromTop 40 = .ok (.if_icmp .gt 85, 3) := by decide +kernel
theorem dX3_costFromTop_43 : decode cX3_costFromTop 43 = .ok (.iconst 0, 1) := by decide +kernel
theorem dX3_costFromTop_44 : decode cX3_costFromTop 44 = .ok (.istore_n 2, 1) := by decide +kernel
theorem dX3_costFromTop_45 : decode cX3_costFromTop 45 = .ok (.iload_n 2, 1) := by decide +kernel
theorem dX3_costFromTop_46 : decode cX3_costFromTop 46 = .ok (.aload_n 0, 1) := by decide +kernel
theorem dX3_costFromTop_47 : decode cX3_costFromTop 47 = .ok (.getfield 18, 3) := by decide +kernel
theorem dX3_costFromTop_50 : decode cX3_costFromTop 50 = .ok (.invokevirtual 94, 3) := by decide +kernel
theorem dX3_costFromTop_53 : decode cX3_costFromTop 53 = .ok (.if_icmp .gt 66, 3) := by decide +kernel
theorem dX3_costFromTop_56 : decode cX3_costFromTop 56 = .ok (.iconst 1, 1) := by decide +kernel
theorem dX3_costFromTop_57 : decode cX3_costFromTop 57 = .ok (.istore_n 3, 1) := by decide +kernel
theorem dX3_costFromTop_58 : decode cX3_costFromTop 58 = .ok (.iload_n 3, 1) := by decide +kernel
theorem dX3_costFromTop_59 : decode cX3_costFromTop 59 = .ok (.iconst 4, 1) := by decide +kernel
theorem dX3_costFromTop_60 : decode cX3_costFromTop 60 = .ok (.if_icmp .gt 53, 3) := by decide +kernel
theorem dX3_costFromTop_63 : decode cX3_costFromTop 63 = .ok (.aload_n 0, 1) := by decide +kernel
theorem dX3_costFromTop_64 : decode cX3_costFromTop 64 = .ok (.iload_n 1, 1) := by decide +kernel
theorem dX3_costFromTop_65 : decode cX3_costFromTop 65 = .ok (.iload_n 2, 1) := by decide +kernel
theorem dX3_costFromTop_66 : decode cX3_costFromTop 66 = .ok (.invokevirtual 91, 3) := by decide +kernel
theorem dX3_costFromTop_69 : decode cX3_costFromTop 69 = .ok (.aload_n 0, 1) := by decide +kernel
theorem dX3_costFromTop_70 : decode cX3_costFromTop 70 = .ok (.iload_n 3, 1) := by decide +kernel
theorem dX3_costFromTop_71 : decode cX3_costFromTop 71 = .ok (.iload_n 1, 1) := by decide +kernel
theorem dX3_costFromTop_72 : decode cX3_costFromTop 72 = .ok (.iload_n 2, 1) := by decide +kernel
theorem dX3_costFromTop_73 : decode cX3_costFromTop 73 = .ok (.invokevirtual 98, 3) := by decide +kernel
theorem dX3_costFromTop_76 : decode cX3_costFromTop 76 = .ok (.iadd, 1) := by decide +kernel
theorem dX3_costFromTop_77 : decode cX3_costFromTop 77 = .ok (.istore 4, 2) := by decide +kernel
theorem dX3_costFromTop_79 : decode cX3_costFromTop 79 = .ok (.iload 4, 2) := by decide +kernel
theorem dX3_costFromTop_81 : decode cX3_costFromTop 81 = .ok (.aload_n 0, 1) := by decide +kernel
theorem dX3_costFromTop_82 : decode cX3_costFromTop 82 = .ok (.iload_n 3, 1) := by decide +kernel
theorem dX3_costFromTop_83 : decode cX3_costFromTop 83 = .ok (.iload_n 1, 1) := by decide +kernel
theorem dX3_costFromTop_84 : decode cX3_costFromTop 84 = .ok (.iload_n 2, 1) := by decide +kernel
theorem dX3_costFromTop_85 : decode cX3_costFromTop 85 = .ok (.invokevirtual 102, 3) := by decide +kernel
theorem dX3_costFromTop_88 : decode cX3_costFromTop 88 = .ok (.if_icmp .ge 19, 3) := by decide +kernel
theorem dX3_costFromTop_91 : decode cX3_costFromTop 91 = .ok (.aload_n 0, 1) := by decide +kernel
theorem dX3_costFromTop_92 : decode cX3_costFromTop 92 = .ok (.iload_n 3, 1) := by decide +kernel
theorem dX3_costFromTop_93 : decode cX3_costFromTop 93 = .ok (.iload_n 1, 1) := by decide +kernel
theorem dX3_costFromTop_94 : decode cX3_costFromTop 94 = .ok (.invokestatic 85, 3) := by decide +kernel
theorem dX3_costFromTop_97 : decode cX3_costFromTop 97 = .ok (.iload_n 3, 1) := by decide +kernel
theorem dX3_costFromTop_98 : decode cX3_costFromTop 98 = .ok (.iload_n 2, 1) := by decide +kernel
theorem dX3_costFromTop_99 : decode cX3_costFromTop 99 = .ok (.invokestatic 88, 3) := by decide +kernel
theorem dX3_costFromTop_102 : decode cX3_costFromTop 102 = .ok (.iload 4, 2) := by decide +kernel
theorem dX3_costFromTop_104 : decode cX3_costFromTop 104 = .ok (.invokevirtual 108, 3) := by decide +kernel
theorem dX3_costFromTop_107 : decode cX3_costFromTop 107 = .ok (.iinc 3 1, 3) := by decide +kernel
theorem dX3_costFromTop_110 : decode cX3_costFromTop 110 = .ok (.goto (-52), 3) := by decide +kernel
theorem dX3_costFromTop_113 : decode cX3_costFromTop 113 = .ok (.iinc 2 1, 3) := by decide +kernel
theorem dX3_costFromTop_116 : decode cX3_costFromTop 116 = .ok (.goto (-71), 3) := by decide +kernel
theorem dX3_costFromTop_119 : decode cX3_costFromTop 119 = .ok (.iinc 1 1, 3) := by decide +kernel
theorem dX3_costFromTop_122 : decode cX3_costFromTop 122 = .ok (.goto (-90), 3) := by decide +kernel
theorem dX3_costFromTop_125 : decode cX3_costFromTop 125 = .ok (.aload_n 0, 1) := by decide +kernel
theorem dX3_costFromTop_126 : decode cX3_costFromTop 126 = .ok (.aload_n 0, 1) := by decide +kernel
theorem dX3_costFromTop_127 : decode cX3_costFromTop 127 = .ok (.getfield 12, 3) := by decide +kernel
theorem dX3_costFromTop_130 : decode cX3_costFromTop 130 = .ok (.invokevirtual 94, 3) := by decide +kernel
theorem dX3_costFromTop_133 : decode cX3_costFromTop 133 = .ok (.aload_n 0, 1) := by decide +kernel
theorem dX3_costFromTop_134 : decode cX3_costFromTop 134 = .ok (.getfield 18, 3) := by decide +kernel
theorem dX3_costFromTop_137 : decode cX3_costFromTop 137 = .ok (.invokevirtual 94, 3) := by decide +kernel
theorem dX3_costFromTop_140 : decode cX3_costFromTop 140 = .ok (.invokevirtual 91, 3) := by decide +kernel
theorem dX3_costFromTop_143 : decode cX3_costFromTop 143 = .ok (.ireturn, 1) := by decide +kernel
theorem dX3_firstBestStep_0 : decode cX3_firstBestStep 0 = .ok (.iconst 1, 1) := by decide +kernel
theorem dX3_firstBestStep_1 : decode cX3_firstBestStep 1 = .ok (.istore_n 3, 1) := by decide +kernel
theorem dX3_firstBestStep_2 : decode cX3_firstBestStep 2 = .ok (.iload_n 3, 1) := by decide +kernel
theorem dX3_firstBestStep_3 : decode cX3_firstBestStep 3 = .ok (.iconst 4, 1) := by decide +kernel
theorem dX3_firstBestStep_4 : decode cX3_firstBestStep 4 = .ok (.if_icmp .gt 35, 3) := by decide +kernel
theorem dX3_firstBestStep_7 : decode cX3_firstBestStep 7 = .ok (.aload_n 0, 1) := by decide +kernel
theorem dX3_firstBestStep_8 : decode cX3_firstBestStep 8 = .ok (.iload_n 3, 1) := by decide +kernel
theorem dX3_firstBestStep_9 : decode cX3_firstBestStep 9 = .ok (.iload_n 1, 1) := by decide +kernel
theorem dX3_firstBestStep_10 : decode cX3_firstBestStep 10 = .ok (.iload_n 2, 1) := by decide +kernel
theorem dX3_firstBestStep_11 : decode cX3_firstBestStep 11 = .ok (.invokevirtual 98, 3) := by decide +kernel
theorem dX3_firstBestStep_14 : decode cX3_firstBestStep 14 = .ok (.aload_n 0, 1) := by decide +kernel
theorem dX3_firstBestStep_15 : decode cX3_firstBestStep 15 = .ok (.iload_n 3, 1) := by decide +kernel
theorem dX3_firstBestStep_16 : decode cX3_firstBestStep 16 = .ok (.iload_n 1, 1) := by decide +kernel
theorem dX3_firstBestStep_17 : decode cX3_firstBestStep 17 = .ok (.iload_n 2, 1) := by decide +kernel
theorem dX3_firstBestStep_18 : decode cX3_firstBestStep 18 = .ok (.invokevirtual 102, 3) := by decide +kernel
theorem dX3_firstBestStep_21 : decode cX3_firstBestStep 21 = .ok (.iadd, 1) := by decide +kernel
theorem dX3_firstBestStep_22 : decode cX3_firstBestStep 22 = .ok (.aload_n 0, 1) := by decide +kernel
theorem dX3_firstBestStep_23 : decode cX3_firstBestStep 23 = .ok (.iload_n 1, 1) := by decide +kernel
theorem dX3_firstBestStep_24 : decode cX3_firstBestStep 24 = .ok (.iload_n 2, 1) := by decide +kernel
theorem dX3_firstBestStep_25 : decode cX3_firstBestStep 25 = .ok (.invokevirtual 91, 3) := by decide +kernel
theorem dX3_firstBestStep_28 : decode cX3_firstBestStep 28 = .ok (.if_icmp .ne 5, 3) := by decide +kernel
theorem dX3_firstBestStep_31 : decode cX3_firstBestStep 31 = .ok (.iload_n 3, 1) := by decide +kernel
theorem dX3_firstBestStep_32 : decode cX3_firstBestStep 32 = .ok (.ireturn, 1) := by decide +kernel
theorem dX3_firstBestStep_33 : decode cX3_firstBestStep 33 = .ok (.iinc 3 1, 3) := by decide +kernel
theorem dX3_firstBestStep_36 : decode cX3_firstBestStep 36 = .ok (.goto (-34), 3) := by decide +kernel
theorem dX3_firstBestStep_39 : decode cX3_firstBestStep 39 = .ok (.iconst 0, 1) := by decide +kernel
theorem dX3_firstBestStep_40 : decode cX3_firstBestStep 40 = .ok (.ireturn, 1) := by decide +kernel
theorem dX4_init_0 : decode cX4_init 0 = .ok (.aload_n 0, 1) := by decide +kernel
theorem dX4_init_1 : decode cX4_init 1 = .ok (.invokespecial 3, 3) := by decide +kernel
theorem dX4_init_4 : decode cX4_init 4 = .ok (.aload_n 0, 1) := by decide +kernel
theorem dX4_init_5 : decode cX4_init 5 = .ok (.iconst 5, 1) := by decide +kernel
theorem dX4_init_6 : decode cX4_init 6 = .ok (.newarray .int, 2) := by decide +kernel
theorem dX4_init_8 : decode cX4_init 8 = .ok (.putfield 9, 3) := by decide +kernel
theorem dX4_init_11 : decode cX4_init 11 = .ok (.iconst 0, 1) := by decide +kernel
theorem dX4_init_12 : decode cX4_init 12 = .ok (.istore_n 1, 1) := by decide +kernel
theorem dX4_init_13 : decode cX4_init 13 = .ok (.iload_n 1, 1) := by decide +kernel
theorem dX4_init_14 : decode cX4_init 14 = .ok (.iconst 5, 1) := by decide +kernel
theorem dX4_init_15 : decode cX4_init 15 = .ok (.if_icmp .ge 20, 3) := by decide +kernel
theorem dX4_init_18 : decode cX4_init 18 = .ok (.aload_n 0, 1) := by decide +kernel
theorem dX4_init_19 : decode cX4_init 19 = .ok (.getfield 9, 3) := by decide +kernel
theorem dX4_init_22 : decode cX4_init 22 = .ok (.iload_n 1, 1) := by decide +kernel
theorem dX4_init_23 : decode cX4_init 23 = .ok (.getstatic 15, 3) := by decide +kernel
theorem dX4_init_26 : decode cX4_init 26 = .ok (.iload_n 1, 1) := by decide +kernel
theorem dX4_init_27 : decode cX4_init 27 = .ok (.iaload, 1) := by decide +kernel
theorem dX4_init_28 : decode cX4_init 28 = .ok (.iastore, 1) := by decide +kernel
theorem dX4_init_29 : decode cX4_init 29 = .ok (.iinc 1 1, 3) := by decide +kernel
theorem dX4_init_32 : decode cX4_init 32 = .ok (.goto (-19), 3) := by decide +kernel
theorem dX4_init_35 : decode cX4_init 35 = .ok (.aload_n 0, 1) := by decide +kernel
theorem dX4_init_36 : decode cX4_init 36 = .ok (.iconst 0, 1) := by decide +kernel
theorem dX4_init_37 : decode cX4_init 37 = .ok (.putfield 18, 3) := by decide +kernel
theorem dX4_init_40 : decode cX4_init 40 = .ok (.aload_n 0, 1) := by decide +kernel
theorem dX4_init_41 : decode cX4_init 41 = .ok (.iconst 4, 1) := by decide +kernel
theorem dX4_init_42 : decode cX4_init 42 = .ok (.anewarray 22, 3) := by decide +kernel
theorem dX4_init_45 : decode cX4_init 45 = .ok (.putfield 24, 3) := by decide +kernel
theorem dX4_init_48 : decode cX4_init 48 = .ok (.iconst 0, 1) := by decide +kernel
theorem dX4_init_49 : decode cX4_init 49 = .ok (.istore_n 1, 1) := by decide +kernel
theorem dX4_init_50 : decode cX4_init 50 = .ok (.iload_n 1, 1) := by decide +kernel
theorem dX4_init_51 : decode cX4_init 51 = .ok (.iconst 4, 1) := by decide +kernel
theorem dX4_init_52 : decode cX4_init 52 = .ok (.if_icmp .ge 22, 3) := by decide +kernel
theorem dX4_init_55 : decode cX4_init 55 = .ok (.aload_n 0, 1) := by decide +kernel
theorem dX4_init_56 : decode cX4_init 56 = .ok (.getfield 24, 3) := by decide +kernel
theorem dX4_init_59 : decode cX4_init 59 = .ok (.iload_n 1, 1) := by decide +kernel
theorem dX4_init_60 : decode cX4_init 60 = .ok (.new 22, 3) := by decide +kernel
theorem dX4_init_63 : decode cX4_init 63 = .ok (.dup, 1) := by decide +kernel
theorem dX4_init_64 : decode cX4_init 64 = .ok (.invokespecial 28, 3) := by decide +kernel
theorem dX4_init_67 : decode cX4_init 67 = .ok (.aastore, 1) := by decide +kernel
theorem dX4_init_68 : decode cX4_init 68 = .ok (.iinc 1 1, 3) := by decide +kernel
theorem dX4_init_71 : decode cX4_init 71 = .ok (.goto (-21), 3) := by decide +kernel
theorem dX4_init_74 : decode cX4_init 74 = .ok (.aload_n 0, 1) := by decide +kernel
theorem dX4_init_75 : decode cX4_init 75 = .ok (.iconst 5, 1) := by decide +kernel
theorem dX4_init_76 : decode cX4_init 76 = .ok (.newarray .int, 2) := by decide +kernel
theorem dX4_init_78 : decode cX4_init 78 = .ok (.putfield 29, 3) := by decide +kernel
theorem dX4_init_81 : decode cX4_init 81 = .ok (.return_, 1) := by decide +kernel
theorem dX4_numberOf_0 : decode cX4_numberOf 0 = .ok (.iload_n 1, 1) := by decide +kernel
theorem dX4_numberOf_1 : decode cX4_numberOf 1 = .ok (.ifCond .lt 17, 3) := by decide +kernel
theorem dX4_numberOf_4 : decode cX4_numberOf 4 = .ok (.iload_n 1, 1) := by decide +kernel
theorem dX4_numberOf_5 : decode cX4_numberOf 5 = .ok (.iconst 5, 1) := by decide +kernel
theorem dX4_numberOf_6 : decode cX4_numberOf 6 = .ok (.if_icmp .ge 12, 3) := by decide +kernel
theorem dX4_numberOf_9 : decode cX4_numberOf 9 = .ok (.aload_n 0, 1) := by decide +kernel
theorem dX4_numberOf_10 : decode cX4_numberOf 10 = .ok (.getfield 9, 3) := by decide +kernel
theorem dX4_numberOf_13 : decode cX4_numberOf 13 = .ok (.iload_n 1, 1) := by decide +kernel
theorem dX4_numberOf_14 : decode cX4_numberOf 14 = .ok (.iaload, 1) := by decide +kernel
theorem dX4_numberOf_15 : decode cX4_numberOf 15 = .ok (.goto 4, 3) := by decide +kernel
theorem dX4_numberOf_18 : decode cX4_numberOf 18 = .ok (.iconst 0, 1) := by decide +kernel
theorem dX4_numberOf_19 : decode cX4_numberOf 19 = .ok (.ireturn, 1) := by decide +kernel
theorem dX4_putNumber_0 : decode cX4_putNumber 0 = .ok (.iload_n 1, 1) := by decide +kernel
theorem dX4_putNumber_1 : decode cX4_putNumber 1 = .ok (.ifCond .lt 15, 3) := by decide +kernel
theorem dX4_putNumber_4 : decode cX4_putNumber 4 = .ok (.iload_n 1, 1) := by decide +kernel
theorem dX4_putNumber_5 : decode cX4_putNumber 5 = .ok (.iconst 5, 1) := by decide +kernel
theorem dX4_putNumber_6 : decode cX4_putNumber 6 = .ok (.if_icmp .ge 10, 3) := by decide +kernel
theorem dX4_putNumber_9 : decode cX4_putNumber 9 = .ok (.aload_n 0, 1) := by decide +kernel
theorem dX4_putNumber_10 : decode cX4_putNumber 10 = .ok (.getfield 9, 3) := by decide +kernel
theorem dX4_putNumber_13 : decode cX4_putNumber 13 = .ok (.iload_n 1, 1) := by decide +kernel
theorem dX4_putNumber_14 : decode cX4_putNumber 14 = .ok (.iload_n 2, 1) := by decide +kernel
theorem dX4_putNumber_15 : decode cX4_putNumber 15 = .ok (.iastore, 1) := by decide +kernel
theorem dX4_putNumber_16 : decode cX4_putNumber 16 = .ok (.return_, 1) := by decide +kernel
theorem dX4_isKey_0 : decode cX4_isKey 0 = .ok (.iload_n 1, 1) := by decide +kernel
theorem dX4_isKey_1 : decode cX4_isKey 1 = .ok (.invokestatic 32, 3) := by decide +kernel
theorem dX4_isKey_4 : decode cX4_isKey 4 = .ok (.ifCond .eq 18, 3) := by decide +kernel
theorem dX4_isKey_7 : decode cX4_isKey 7 = .ok (.aload_n 0, 1) := by decide +kernel
theorem dX4_isKey_8 : decode cX4_isKey 8 = .ok (.getfield 18, 3) := by decide +kernel
theorem dX4_isKey_11 : decode cX4_isKey 11 = .ok (.iconst 1, 1) := by decide +kernel
theorem dX4_isKey_12 : decode cX4_isKey 12 = .ok (.iload_n 1, 1) := by decide +kernel
theorem dX4_isKey_13 : decode cX4_isKey 13 = .ok (.ishl, 1) := by decide +kernel
theorem dX4_isKey_14 : decode cX4_isKey 14 = .ok (.iand, 1) := by decide +kernel
theorem dX4_isKey_15 : decode cX4_isKey 15 = .ok (.ifCond .eq 7, 3) := by decide +kernel
theorem dX4_isKey_18 : decode cX4_isKey 18 = .ok (.iconst 1, 1) := by decide +kernel
theorem dX4_isKey_19 : decode cX4_isKey 19 = .ok (.goto 4, 3) := by decide +kernel
theorem dX4_isKey_22 : decode cX4_isKey 22 = .ok (.iconst 0, 1) := by decide +kernel
theorem dX4_isKey_23 : decode cX4_isKey 23 = .ok (.ireturn, 1) := by decide +kernel
theorem dX4_putKey_0 : decode cX4_putKey 0 = .ok (.iload_n 1, 1) := by decide +kernel
theorem dX4_putKey_1 : decode cX4_putKey 1 = .ok (.invokestatic 32, 3) := by decide +kernel
theorem dX4_putKey_4 : decode cX4_putKey 4 = .ok (.ifCond .eq 32, 3) := by decide +kernel
theorem dX4_putKey_7 : decode cX4_putKey 7 = .ok (.aload_n 0, 1) := by decide +kernel
theorem dX4_putKey_8 : decode cX4_putKey 8 = .ok (.iload_n 2, 1) := by decide +kernel
theorem dX4_putKey_9 : decode cX4_putKey 9 = .ok (.ifCond .eq 14, 3) := by decide +kernel
theorem dX4_putKey_12 : decode cX4_putKey 12 = .ok (.aload_n 0, 1) := by decide +kernel
theorem dX4_putKey_13 : decode cX4_putKey 13 = .ok (.getfield 18, 3) := by decide +kernel
theorem dX4_putKey_16 : decode cX4_putKey 16 = .ok (.iconst 1, 1) := by decide +kernel
theorem dX4_putKey_17 : decode cX4_putKey 17 = .ok (.iload_n 1, 1) := by decide +kernel
theorem dX4_putKey_18 : decode cX4_putKey 18 = .ok (.ishl, 1) := by decide +kernel
theorem dX4_putKey_19 : decode cX4_putKey 19 = .ok (.ior, 1) := by decide +kernel
theorem dX4_putKey_20 : decode cX4_putKey 20 = .ok (.goto 13, 3) := by decide +kernel
theorem dX4_putKey_23 : decode cX4_putKey 23 = .ok (.aload_n 0, 1) := by decide +kernel
theorem dX4_putKey_24 : decode cX4_putKey 24 = .ok (.getfield 18, 3) := by decide +kernel
theorem dX4_putKey_27 : decode cX4_putKey 27 = .ok (.iconst 1, 1) := by decide +kernel
theorem dX4_putKey_28 : decode cX4_putKey 28 = .ok (.iload_n 1, 1) := by decide +kernel
theorem dX4_putKey_29 : decode cX4_putKey 29 = .ok (.ishl, 1) := by decide +kernel
theorem dX4_putKey_30 : decode cX4_putKey 30 = .ok (.iconst (-1), 1) := by decide +kernel
theorem dX4_putKey_31 : decode cX4_putKey 31 = .ok (.ixor, 1) := by decide +kernel
theorem dX4_putKey_32 : decode cX4_putKey 32 = .ok (.iand, 1) := by decide +kernel
theorem dX4_putKey_33 : decode cX4_putKey 33 = .ok (.putfield 18, 3) := by decide +kernel
theorem dX4_putKey_36 : decode cX4_putKey 36 = .ok (.return_, 1) := by decide +kernel
theorem dX4_keyMarkCount_0 : decode cX4_keyMarkCount 0 = .ok (.aload_n 0, 1) := by decide +kernel
theorem dX4_keyMarkCount_1 : decode cX4_keyMarkCount 1 = .ok (.getfield 18, 3) := by decide +kernel
theorem dX4_keyMarkCount_4 : decode cX4_keyMarkCount 4 = .ok (.invokestatic 36, 3) := by decide +kernel
theorem dX4_keyMarkCount_7 : decode cX4_keyMarkCount 7 = .ok (.ireturn, 1) := by decide +kernel
theorem dX4_columnOf_0 : decode cX4_columnOf 0 = .ok (.aload_n 0, 1) := by decide +kernel
theorem dX4_columnOf_1 : decode cX4_columnOf 1 = .ok (.getfield 24, 3) := by decide +kernel
theorem dX4_columnOf_4 : decode cX4_columnOf 4 = .ok (.iload_n 1, 1) := by decide +kernel
theorem dX4_columnOf_5 : decode cX4_columnOf 5 = .ok (.invokestatic 42, 3) := by decide +kernel
theorem dX4_columnOf_8 : decode cX4_columnOf 8 = .ok (.ifCond .eq 7, 3) := by decide +kernel
theorem dX4_columnOf_11 : decode cX4_columnOf 11 = .ok (.iload_n 1, 1) := by decide +kernel
theorem dX4_columnOf_12 : decode cX4_columnOf 12 = .ok (.goto 4, 3) := by decide +kernel
theorem dX4_columnOf_15 : decode cX4_columnOf 15 = .ok (.iconst 0, 1) := by decide +kernel
theorem dX4_columnOf_16 : decode cX4_columnOf 16 = .ok (.aaload, 1) := by decide +kernel
theorem dX4_columnOf_17 : decode cX4_columnOf 17 = .ok (.areturn, 1) := by decide +kernel
theorem dX4_bookedIn_0 : decode cX4_bookedIn 0 = .ok (.iload_n 1, 1) := by decide +kernel
theorem dX4_bookedIn_1 : decode cX4_bookedIn 1 = .ok (.ifCond .lt 17, 3) := by decide +kernel
theorem dX4_bookedIn_4 : decode cX4_bookedIn 4 = .ok (.iload_n 1, 1) := by decide +kernel
theorem dX4_bookedIn_5 : decode cX4_bookedIn 5 = .ok (.iconst 5, 1) := by decide +kernel
theorem dX4_bookedIn_6 : decode cX4_bookedIn 6 = .ok (.if_icmp .ge 12, 3) := by decide +kernel
theorem dX4_bookedIn_9 : decode cX4_bookedIn 9 = .ok (.aload_n 0, 1) := by decide +kernel
theorem dX4_bookedIn_10 : decode cX4_bookedIn 10 = .ok (.getfield 29, 3) := by decide +kernel
theorem dX4_bookedIn_13 : decode cX4_bookedIn 13 = .ok (.iload_n 1, 1) := by decide +kernel
theorem dX4_bookedIn_14 : decode cX4_bookedIn 14 = .ok (.iaload, 1) := by decide +kernel
theorem dX4_bookedIn_15 : decode cX4_bookedIn 15 = .ok (.goto 4, 3) := by decide +kernel
theorem dX4_bookedIn_18 : decode cX4_bookedIn 18 = .ok (.iconst 0, 1) := by decide +kernel
theorem dX4_bookedIn_19 : decode cX4_bookedIn 19 = .ok (.ireturn, 1) := by decide +kernel
theorem dX4_book_0 : decode cX4_book 0 = .ok (.iload_n 1, 1) := by decide +kernel
theorem dX4_book_1 : decode cX4_book 1 = .ok (.ifCond .lt 18, 3) := by decide +kernel
theorem dX4_book_4 : decode cX4_book 4 = .ok (.iload_n 1, 1) := by decide +kernel
theorem dX4_book_5 : decode cX4_book 5 = .ok (.iconst 5, 1) := by decide +kernel
theorem dX4_book_6 : decode cX4_book 6 = .ok (.if_icmp .ge 13, 3) := by decide +kernel
theorem dX4_book_9 : decode cX4_book 9 = .ok (.aload_n 0, 1) := by decide +kernel
theorem dX4_book_10 : decode cX4_book 10 = .ok (.getfield 29, 3) := by decide +kernel
theorem dX4_book_13 : decode cX4_book 13 = .ok (.iload_n 1, 1) := by decide +kernel
theorem dX4_book_14 : decode cX4_book 14 = .ok (.dup2, 1) := by decide +kernel
theorem dX4_book_15 : decode cX4_book 15 = .ok (.iaload, 1) := by decide +kernel
theorem dX4_book_16 : decode cX4_book 16 = .ok (.iload_n 2, 1) := by decide +kernel
theorem dX4_book_17 : decode cX4_book 17 = .ok (.iadd, 1) := by decide +kernel
theorem dX4_book_18 : decode cX4_book 18 = .ok (.iastore, 1) := by decide +kernel
theorem dX4_book_19 : decode cX4_book 19 = .ok (.return_, 1) := by decide +kernel
theorem dX4_sumOfSizes_0 : decode cX4_sumOfSizes 0 = .ok (.iconst 0, 1) := by decide +kernel
theorem dX4_sumOfSizes_1 : decode cX4_sumOfSizes 1 = .ok (.istore_n 1, 1) := by decide +kernel
theorem dX4_sumOfSizes_2 : decode cX4_sumOfSizes 2 = .ok (.iconst 0, 1) := by decide +kernel
theorem dX4_sumOfSizes_3 : decode cX4_sumOfSizes 3 = .ok (.istore_n 2, 1) := by decide +kernel
theorem dX4_sumOfSizes_4 : decode cX4_sumOfSizes 4 = .ok (.iload_n 2, 1) := by decide +kernel
theorem dX4_sumOfSizes_5 : decode cX4_sumOfSizes 5 = .ok (.iconst 4, 1) := by decide +kernel
theorem dX4_sumOfSizes_6 : decode cX4_sumOfSizes 6 = .ok (.if_icmp .ge 21, 3) := by decide +kernel
theorem dX4_sumOfSizes_9 : decode cX4_sumOfSizes 9 = .ok (.iload_n 1, 1) := by decide +kernel
theorem dX4_sumOfSizes_10 : decode cX4_sumOfSizes 10 = .ok (.aload_n 0, 1) := by decide +kernel
theorem dX4_sumOfSizes_11 : decode cX4_sumOfSizes 11 = .ok (.getfield 24, 3) := by decide +kernel
theorem dX4_sumOfSizes_14 : decode cX4_sumOfSizes 14 = .ok (.iload_n 2, 1) := by decide +kernel
theorem dX4_sumOfSizes_15 : decode cX4_sumOfSizes 15 = .ok (.aaload, 1) := by decide +kernel
theorem dX4_sumOfSizes_16 : decode cX4_sumOfSizes 16 = .ok (.invokevirtual 45, 3) := by decide +kernel
theorem dX4_sumOfSizes_19 : decode cX4_sumOfSizes 19 = .ok (.iadd, 1) := by decide +kernel
theorem dX4_sumOfSizes_20 : decode cX4_sumOfSizes 20 = .ok (.istore_n 1, 1) := by decide +kernel
theorem dX4_sumOfSizes_21 : decode cX4_sumOfSizes 21 = .ok (.iinc 2 1, 3) := by decide +kernel
theorem dX4_sumOfSizes_24 : decode cX4_sumOfSizes 24 = .ok (.goto (-20), 3) := by decide +kernel
theorem dX4_sumOfSizes_27 : decode cX4_sumOfSizes 27 = .ok (.iload_n 1, 1) := by decide +kernel
theorem dX4_sumOfSizes_28 : decode cX4_sumOfSizes 28 = .ok (.ireturn, 1) := by decide +kernel
theorem dX4_sumOfLengths_0 : decode cX4_sumOfLengths 0 = .ok (.iconst 0, 1) := by decide +kernel
theorem dX4_sumOfLengths_1 : decode cX4_sumOfLengths 1 = .ok (.istore_n 1, 1) := by decide +kernel
theorem dX4_sumOfLengths_2 : decode cX4_sumOfLengths 2 = .ok (.iconst 0, 1) := by decide +kernel
theorem dX4_sumOfLengths_3 : decode cX4_sumOfLengths 3 = .ok (.istore_n 2, 1) := by decide +kernel
theorem dX4_sumOfLengths_4 : decode cX4_sumOfLengths 4 = .ok (.iload_n 2, 1) := by decide +kernel
theorem dX4_sumOfLengths_5 : decode cX4_sumOfLengths 5 = .ok (.iconst 4, 1) := by decide +kernel
theorem dX4_sumOfLengths_6 : decode cX4_sumOfLengths 6 = .ok (.if_icmp .ge 21, 3) := by decide +kernel
theorem dX4_sumOfLengths_9 : decode cX4_sumOfLengths 9 = .ok (.iload_n 1, 1) := by decide +kernel
theorem dX4_sumOfLengths_10 : decode cX4_sumOfLengths 10 = .ok (.aload_n 0, 1) := by decide +kernel
theorem dX4_sumOfLengths_11 : decode cX4_sumOfLengths 11 = .ok (.getfield 24, 3) := by decide +kernel
theorem dX4_sumOfLengths_14 : decode cX4_sumOfLengths 14 = .ok (.iload_n 2, 1) := by decide +kernel
theorem dX4_sumOfLengths_15 : decode cX4_sumOfLengths 15 = .ok (.aaload, 1) := by decide +kernel
theorem dX4_sumOfLengths_16 : decode cX4_sumOfLengths 16 = .ok (.invokevirtual 49, 3) := by decide +kernel
theorem dX4_sumOfLengths_19 : decode cX4_sumOfLengths 19 = .ok (.iadd, 1) := by decide +kernel
theorem dX4_sumOfLengths_20 : decode cX4_sumOfLengths 20 = .ok (.istore_n 1, 1) := by decide +kernel
theorem dX4_sumOfLengths_21 : decode cX4_sumOfLengths 21 = .ok (.iinc 2 1, 3) := by decide +kernel
theorem dX4_sumOfLengths_24 : decode cX4_sumOfLengths 24 = .ok (.goto (-20), 3) := by decide +kernel
theorem dX4_sumOfLengths_27 : decode cX4_sumOfLengths 27 = .ok (.iload_n 1, 1) := by decide +kernel
theorem dX4_sumOfLengths_28 : decode cX4_sumOfLengths 28 = .ok (.ireturn, 1) := by decide +kernel
theorem dX4_copyFrom_0 : decode cX4_copyFrom 0 = .ok (.aload_n 1, 1) := by decide +kernel
theorem dX4_copyFrom_1 : decode cX4_copyFrom 1 = .ok (.getfield 9, 3) := by decide +kernel
theorem dX4_copyFrom_4 : decode cX4_copyFrom 4 = .ok (.iconst 0, 1) := by decide +kernel
theorem dX4_copyFrom_5 : decode cX4_copyFrom 5 = .ok (.aload_n 0, 1) := by decide +kernel
theorem dX4_copyFrom_6 : decode cX4_copyFrom 6 = .ok (.getfield 9, 3) := by decide +kernel
theorem dX4_copyFrom_9 : decode cX4_copyFrom 9 = .ok (.iconst 0, 1) := by decide +kernel
theorem dX4_copyFrom_10 : decode cX4_copyFrom 10 = .ok (.iconst 5, 1) := by decide +kernel
theorem dX4_copyFrom_11 : decode cX4_copyFrom 11 = .ok (.invokestatic 52, 3) := by decide +kernel
theorem dX4_copyFrom_14 : decode cX4_copyFrom 14 = .ok (.aload_n 0, 1) := by decide +kernel
theorem dX4_copyFrom_15 : decode cX4_copyFrom 15 = .ok (.aload_n 1, 1) := by decide +kernel
theorem dX4_copyFrom_16 : decode cX4_copyFrom 16 = .ok (.getfield 18, 3) := by decide +kernel
theorem dX4_copyFrom_19 : decode cX4_copyFrom 19 = .ok (.putfield 18, 3) := by decide +kernel
theorem dX4_copyFrom_22 : decode cX4_copyFrom 22 = .ok (.iconst 0, 1) := by decide +kernel
theorem dX4_copyFrom_23 : decode cX4_copyFrom 23 = .ok (.istore_n 2, 1) := by decide +kernel
theorem dX4_copyFrom_24 : decode cX4_copyFrom 24 = .ok (.iload_n 2, 1) := by decide +kernel
theorem dX4_copyFrom_25 : decode cX4_copyFrom 25 = .ok (.iconst 4, 1) := by decide +kernel
theorem dX4_copyFrom_26 : decode cX4_copyFrom 26 = .ok (.if_icmp .ge 24, 3) := by decide +kernel
theorem dX4_copyFrom_29 : decode cX4_copyFrom 29 = .ok (.aload_n 0, 1) := by decide +kernel
theorem dX4_copyFrom_30 : decode cX4_copyFrom 30 = .ok (.getfield 24, 3) := by decide +kernel
theorem dX4_copyFrom_33 : decode cX4_copyFrom 33 = .ok (.iload_n 2, 1) := by decide +kernel
theorem dX4_copyFrom_34 : decode cX4_copyFrom 34 = .ok (.aaload, 1) := by decide +kernel
theorem dX4_copyFrom_35 : decode cX4_copyFrom 35 = .ok (.aload_n 1, 1) := by decide +kernel
theorem dX4_copyFrom_36 : decode cX4_copyFrom 36 = .ok (.getfield 24, 3) := by decide +kernel
theorem dX4_copyFrom_39 : decode cX4_copyFrom 39 = .ok (.iload_n 2, 1) := by decide +kernel
theorem dX4_copyFrom_40 : decode cX4_copyFrom 40 = .ok (.aaload, 1) := by decide +kernel
theorem dX4_copyFrom_41 : decode cX4_copyFrom 41 = .ok (.invokevirtual 58, 3) := by decide +kernel
theorem dX4_copyFrom_44 : decode cX4_copyFrom 44 = .ok (.iinc 2 1, 3) := by decide +kernel
theorem dX4_copyFrom_47 : decode cX4_copyFrom 47 = .ok (.goto (-23), 3) := by decide +kernel
theorem dX4_copyFrom_50 : decode cX4_copyFrom 50 = .ok (.aload_n 1, 1) := by decide +kernel
theorem dX4_copyFrom_51 : decode cX4_copyFrom 51 = .ok (.getfield 29, 3) := by decide +kernel
theorem dX4_copyFrom_54 : decode cX4_copyFrom 54 = .ok (.iconst 0, 1) := by decide +kernel
theorem dX4_copyFrom_55 : decode cX4_copyFrom 55 = .ok (.aload_n 0, 1) := by decide +kernel
theorem dX4_copyFrom_56 : decode cX4_copyFrom 56 = .ok (.getfield 29, 3) := by decide +kernel
theorem dX4_copyFrom_59 : decode cX4_copyFrom 59 = .ok (.iconst 0, 1) := by decide +kernel
theorem dX4_copyFrom_60 : decode cX4_copyFrom 60 = .ok (.iconst 5, 1) := by decide +kernel
theorem dX4_copyFrom_61 : decode cX4_copyFrom 61 = .ok (.invokestatic 52, 3) := by decide +kernel
theorem dX4_copyFrom_64 : decode cX4_copyFrom 64 = .ok (.return_, 1) := by decide +kernel
theorem dX5_init_0 : decode cX5_init 0 = .ok (.aload_n 0, 1) := by decide +kernel
theorem dX5_init_1 : decode cX5_init 1 = .ok (.invokespecial 3, 3) := by decide +kernel
theorem dX5_init_4 : decode cX5_init 4 = .ok (.aload_n 0, 1) := by decide +kernel
theorem dX5_init_5 : decode cX5_init 5 = .ok (.bipush 100, 2) := by decide +kernel
theorem dX5_init_7 : decode cX5_init 7 = .ok (.newarray .int, 2) := by decide +kernel
theorem dX5_init_9 : decode cX5_init 9 = .ok (.putfield 9, 3) := by decide +kernel
theorem dX5_init_12 : decode cX5_init 12 = .ok (.aload_n 0, 1) := by decide +kernel
theorem dX5_init_13 : decode cX5_init 13 = .ok (.iconst 0, 1) := by decide +kernel
theorem dX5_init_14 : decode cX5_init 14 = .ok (.putfield 15, 3) := by decide +kernel
theorem dX5_init_17 : decode cX5_init 17 = .ok (.aload_n 0, 1) := by decide +kernel
theorem dX5_init_18 : decode cX5_init 18 = .ok (.iconst 0, 1) := by decide +kernel
theorem dX5_init_19 : decode cX5_init 19 = .ok (.putfield 19, 3) := by decide +kernel
theorem dX5_init_22 : decode cX5_init 22 = .ok (.aload_n 0, 1) := by decide +kernel
theorem dX5_init_23 : decode cX5_init 23 = .ok (.iconst 0, 1) := by decide +kernel
theorem dX5_init_24 : decode cX5_init 24 = .ok (.putfield 22, 3) := by decide +kernel
theorem dX5_init_27 : decode cX5_init 27 = .ok (.aload_n 0, 1) := by decide +kernel
theorem dX5_init_28 : decode cX5_init 28 = .ok (.new 25, 3) := by decide +kernel
theorem dX5_init_31 : decode cX5_init 31 = .ok (.dup, 1) := by decide +kernel
theorem dX5_init_32 : decode cX5_init 32 = .ok (.invokespecial 27, 3) := by decide +kernel
theorem dX5_init_35 : decode cX5_init 35 = .ok (.putfield 28, 3) := by decide +kernel
theorem dX5_init_38 : decode cX5_init 38 = .ok (.return_, 1) := by decide +kernel
theorem dX5_size_0 : decode cX5_size 0 = .ok (.aload_n 0, 1) := by decide +kernel
theorem dX5_size_1 : decode cX5_size 1 = .ok (.getfield 15, 3) := by decide +kernel
theorem dX5_size_4 : decode cX5_size 4 = .ok (.ireturn, 1) := by decide +kernel
theorem dX6_init_0 : decode cX6_init 0 = .ok (.aload_n 0, 1) := by decide +kernel
theorem dX6_init_1 : decode cX6_init 1 = .ok (.invokespecial 1, 3) := by decide +kernel
theorem dX6_init_4 : decode cX6_init 4 = .ok (.aload_n 0, 1) := by decide +kernel
theorem dX6_init_5 : decode cX6_init 5 = .ok (.new 7, 3) := by decide +kernel
theorem dX6_init_8 : decode cX6_init 8 = .ok (.dup, 1) := by decide +kernel
theorem dX6_init_9 : decode cX6_init 9 = .ok (.invokespecial 9, 3) := by decide +kernel
theorem dX6_init_12 : decode cX6_init 12 = .ok (.putfield 10, 3) := by decide +kernel
theorem dX6_init_15 : decode cX6_init 15 = .ok (.aload_n 0, 1) := by decide +kernel
theorem dX6_init_16 : decode cX6_init 16 = .ok (.new 16, 3) := by decide +kernel
theorem dX6_init_19 : decode cX6_init 19 = .ok (.dup, 1) := by decide +kernel
theorem dX6_init_20 : decode cX6_init 20 = .ok (.invokespecial 18, 3) := by decide +kernel
theorem dX6_init_23 : decode cX6_init 23 = .ok (.putfield 19, 3) := by decide +kernel
theorem dX6_init_26 : decode cX6_init 26 = .ok (.aload_n 0, 1) := by decide +kernel
theorem dX6_init_27 : decode cX6_init 27 = .ok (.iconst 2, 1) := by decide +kernel
theorem dX6_init_28 : decode cX6_init 28 = .ok (.anewarray 7, 3) := by decide +kernel
theorem dX6_init_31 : decode cX6_init 31 = .ok (.putfield 23, 3) := by decide +kernel
theorem dX6_init_34 : decode cX6_init 34 = .ok (.iconst 0, 1) := by decide +kernel
theorem dX6_init_35 : decode cX6_init 35 = .ok (.istore_n 1, 1) := by decide +kernel
theorem dX6_init_36 : decode cX6_init 36 = .ok (.iload_n 1, 1) := by decide +kernel
theorem dX6_init_37 : decode cX6_init 37 = .ok (.iconst 2, 1) := by decide +kernel
theorem dX6_init_38 : decode cX6_init 38 = .ok (.if_icmp .ge 22, 3) := by decide +kernel
theorem dX6_init_41 : decode cX6_init 41 = .ok (.aload_n 0, 1) := by decide +kernel
theorem dX6_init_42 : decode cX6_init 42 = .ok (.getfield 23, 3) := by decide +kernel
theorem dX6_init_45 : decode cX6_init 45 = .ok (.iload_n 1, 1) := by decide +kernel
theorem dX6_init_46 : decode cX6_init 46 = .ok (.new 7, 3) := by decide +kernel
theorem dX6_init_49 : decode cX6_init 49 = .ok (.dup, 1) := by decide +kernel
theorem dX6_init_50 : decode cX6_init 50 = .ok (.invokespecial 9, 3) := by decide +kernel
theorem dX6_init_53 : decode cX6_init 53 = .ok (.aastore, 1) := by decide +kernel
theorem dX6_init_54 : decode cX6_init 54 = .ok (.iinc 1 1, 3) := by decide +kernel
theorem dX6_init_57 : decode cX6_init 57 = .ok (.goto (-21), 3) := by decide +kernel
theorem dX6_init_60 : decode cX6_init 60 = .ok (.aload_n 0, 1) := by decide +kernel
theorem dX6_init_61 : decode cX6_init 61 = .ok (.iconst 0, 1) := by decide +kernel
theorem dX6_init_62 : decode cX6_init 62 = .ok (.putfield 27, 3) := by decide +kernel
theorem dX6_init_65 : decode cX6_init 65 = .ok (.aload_n 0, 1) := by decide +kernel
theorem dX6_init_66 : decode cX6_init 66 = .ok (.new 31, 3) := by decide +kernel
theorem dX6_init_69 : decode cX6_init 69 = .ok (.dup, 1) := by decide +kernel
theorem dX6_init_70 : decode cX6_init 70 = .ok (.invokespecial 33, 3) := by decide +kernel
theorem dX6_init_73 : decode cX6_init 73 = .ok (.putfield 34, 3) := by decide +kernel
theorem dX6_init_76 : decode cX6_init 76 = .ok (.aload_n 0, 1) := by decide +kernel
theorem dX6_init_77 : decode cX6_init 77 = .ok (.new 38, 3) := by decide +kernel
theorem dX6_init_80 : decode cX6_init 80 = .ok (.dup, 1) := by decide +kernel
theorem dX6_init_81 : decode cX6_init 81 = .ok (.invokespecial 40, 3) := by decide +kernel
theorem dX6_init_84 : decode cX6_init 84 = .ok (.putfield 41, 3) := by decide +kernel
theorem dX6_init_87 : decode cX6_init 87 = .ok (.aload_n 0, 1) := by decide +kernel
theorem dX6_init_88 : decode cX6_init 88 = .ok (.new 45, 3) := by decide +kernel
theorem dX6_init_91 : decode cX6_init 91 = .ok (.dup, 1) := by decide +kernel
theorem dX6_init_92 : decode cX6_init 92 = .ok (.invokespecial 47, 3) := by decide +kernel
theorem dX6_init_95 : decode cX6_init 95 = .ok (.putfield 48, 3) := by decide +kernel
theorem dX6_init_98 : decode cX6_init 98 = .ok (.aload_n 0, 1) := by decide +kernel
theorem dX6_init_99 : decode cX6_init 99 = .ok (.new 45, 3) := by decide +kernel
theorem dX6_init_102 : decode cX6_init 102 = .ok (.dup, 1) := by decide +kernel
theorem dX6_init_103 : decode cX6_init 103 = .ok (.invokespecial 47, 3) := by decide +kernel
theorem dX6_init_106 : decode cX6_init 106 = .ok (.putfield 52, 3) := by decide +kernel
theorem dX6_init_109 : decode cX6_init 109 = .ok (.aload_n 0, 1) := by decide +kernel
theorem dX6_init_110 : decode cX6_init 110 = .ok (.new 45, 3) := by decide +kernel
theorem dX6_init_113 : decode cX6_init 113 = .ok (.dup, 1) := by decide +kernel
theorem dX6_init_114 : decode cX6_init 114 = .ok (.invokespecial 47, 3) := by decide +kernel
theorem dX6_init_117 : decode cX6_init 117 = .ok (.putfield 55, 3) := by decide +kernel
theorem dX6_init_120 : decode cX6_init 120 = .ok (.return_, 1) := by decide +kernel
theorem dX6_setNumber_0 : decode cX6_setNumber 0 = .ok (.iload_n 1, 1) := by decide +kernel
theorem dX6_setNumber_1 : decode cX6_setNumber 1 = .ok (.ifCond .lt 8, 3) := by decide +kernel
theorem dX6_setNumber_4 : decode cX6_setNumber 4 = .ok (.iload_n 1, 1) := by decide +kernel
theorem dX6_setNumber_5 : decode cX6_setNumber 5 = .ok (.iconst 5, 1) := by decide +kernel
theorem dX6_setNumber_6 : decode cX6_setNumber 6 = .ok (.if_icmp .lt 6, 3) := by decide +kernel
theorem dX6_setNumber_9 : decode cX6_setNumber 9 = .ok (.ldc 58, 2) := by decide +kernel
theorem dX6_setNumber_11 : decode cX6_setNumber 11 = .ok (.ireturn, 1) := by decide +kernel
theorem dX6_setNumber_12 : decode cX6_setNumber 12 = .ok (.iload_n 2, 1) := by decide +kernel
theorem dX6_setNumber_13 : decode cX6_setNumber 13 = .ok (.getstatic 59, 3) := by decide +kernel
theorem dX6_setNumber_16 : decode cX6_setNumber 16 = .ok (.iload_n 1, 1) := by decide +kernel
theorem dX6_setNumber_17 : decode cX6_setNumber 17 = .ok (.iaload, 1) := by decide +kernel
theorem dX6_setNumber_18 : decode cX6_setNumber 18 = .ok (.if_icmp .lt 12, 3) := by decide +kernel
theorem dX6_setNumber_21 : decode cX6_setNumber 21 = .ok (.iload_n 2, 1) := by decide +kernel
theorem dX6_setNumber_22 : decode cX6_setNumber 22 = .ok (.getstatic 63, 3) := by decide +kernel
theorem dX6_setNumber_25 : decode cX6_setNumber 25 = .ok (.iload_n 1, 1) := by decide +kernel
theorem dX6_setNumber_26 : decode cX6_setNumber 26 = .ok (.iaload, 1) := by decide +kernel
theorem dX6_setNumber_27 : decode cX6_setNumber 27 = .ok (.if_icmp .le 6, 3) := by decide +kernel
theorem dX6_setNumber_30 : decode cX6_setNumber 30 = .ok (.ldc 58, 2) := by decide +kernel
theorem dX6_setNumber_32 : decode cX6_setNumber 32 = .ok (.ireturn, 1) := by decide +kernel
theorem dX6_setNumber_33 : decode cX6_setNumber 33 = .ok (.aload_n 0, 1) := by decide +kernel
theorem dX6_setNumber_34 : decode cX6_setNumber 34 = .ok (.getfield 19, 3) := by decide +kernel
theorem dX6_setNumber_37 : decode cX6_setNumber 37 = .ok (.aload_n 0, 1) := by decide +kernel
theorem dX6_setNumber_38 : decode cX6_setNumber 38 = .ok (.getfield 10, 3) := by decide +kernel
theorem dX6_setNumber_41 : decode cX6_setNumber 41 = .ok (.invokevirtual 66, 3) := by decide +kernel
theorem dX6_setNumber_44 : decode cX6_setNumber 44 = .ok (.aload_n 0, 1) := by decide +kernel
theorem dX6_setNumber_45 : decode cX6_setNumber 45 = .ok (.getfield 10, 3) := by decide +kernel
theorem dX6_setNumber_48 : decode cX6_setNumber 48 = .ok (.iload_n 1, 1) := by decide +kernel
theorem dX6_setNumber_49 : decode cX6_setNumber 49 = .ok (.invokevirtual 70, 3) := by decide +kernel
theorem dX6_setNumber_52 : decode cX6_setNumber 52 = .ok (.istore_n 3, 1) := by decide +kernel
theorem dX6_setNumber_53 : decode cX6_setNumber 53 = .ok (.aload_n 0, 1) := by decide +kernel
theorem dX6_setNumber_54 : decode cX6_setNumber 54 = .ok (.getfield 10, 3) := by decide +kernel
theorem dX6_setNumber_57 : decode cX6_setNumber 57 = .ok (.iload_n 1, 1) := by decide +kernel
theorem dX6_setNumber_58 : decode cX6_setNumber 58 = .ok (.iload_n 2, 1) := by decide +kernel
theorem dX6_setNumber_59 : decode cX6_setNumber 59 = .ok (.invokevirtual 74, 3) := by decide +kernel
theorem dX6_setNumber_62 : decode cX6_setNumber 62 = .ok (.iload_n 3, 1) := by decide +kernel
theorem dX6_setNumber_63 : decode cX6_setNumber 63 = .ok (.ireturn, 1) := by decide +kernel
theorem dX6_setKey_0 : decode cX6_setKey 0 = .ok (.iload_n 1, 1) := by decide +kernel
theorem dX6_setKey_1 : decode cX6_setKey 1 = .ok (.invokestatic 78, 3) := by decide +kernel
theorem dX6_setKey_4 : decode cX6_setKey 4 = .ok (.ifCond .eq 12, 3) := by decide +kernel
theorem dX6_setKey_7 : decode cX6_setKey 7 = .ok (.iload_n 2, 1) := by decide +kernel
theorem dX6_setKey_8 : decode cX6_setKey 8 = .ok (.ifCond .lt 8, 3) := by decide +kernel
theorem dX6_setKey_11 : decode cX6_setKey 11 = .ok (.iload_n 2, 1) := by decide +kernel
theorem dX6_setKey_12 : decode cX6_setKey 12 = .ok (.iconst 1, 1) := by decide +kernel
theorem dX6_setKey_13 : decode cX6_setKey 13 = .ok (.if_icmp .le 6, 3) := by decide +kernel
theorem dX6_setKey_16 : decode cX6_setKey 16 = .ok (.ldc 58, 2) := by decide +kernel
theorem dX6_setKey_18 : decode cX6_setKey 18 = .ok (.ireturn, 1) := by decide +kernel
theorem dX6_setKey_19 : decode cX6_setKey 19 = .ok (.aload_n 0, 1) := by decide +kernel
theorem dX6_setKey_20 : decode cX6_setKey 20 = .ok (.getfield 19, 3) := by decide +kernel
theorem dX6_setKey_23 : decode cX6_setKey 23 = .ok (.aload_n 0, 1) := by decide +kernel
theorem dX6_setKey_24 : decode cX6_setKey 24 = .ok (.getfield 10, 3) := by decide +kernel
theorem dX6_setKey_27 : decode cX6_setKey 27 = .ok (.invokevirtual 66, 3) := by decide +kernel
theorem dX6_setKey_30 : decode cX6_setKey 30 = .ok (.aload_n 0, 1) := by decide +kernel
theorem dX6_setKey_31 : decode cX6_setKey 31 = .ok (.getfield 10, 3) := by decide +kernel
theorem dX6_setKey_34 : decode cX6_setKey 34 = .ok (.iload_n 1, 1) := by decide +kernel
theorem dX6_setKey_35 : decode cX6_setKey 35 = .ok (.invokevirtual 82, 3) := by decide +kernel
theorem dX6_setKey_38 : decode cX6_setKey 38 = .ok (.ifCond .eq 7, 3) := by decide +kernel
theorem dX6_setKey_41 : decode cX6_setKey 41 = .ok (.iconst 1, 1) := by decide +kernel
theorem dX6_setKey_42 : decode cX6_setKey 42 = .ok (.goto 4, 3) := by decide +kernel
theorem dX6_setKey_45 : decode cX6_setKey 45 = .ok (.iconst 0, 1) := by decide +kernel
theorem dX6_setKey_46 : decode cX6_setKey 46 = .ok (.istore_n 3, 1) := by decide +kernel
theorem dX6_setKey_47 : decode cX6_setKey 47 = .ok (.aload_n 0, 1) := by decide +kernel
theorem dX6_setKey_48 : decode cX6_setKey 48 = .ok (.getfield 10, 3) := by decide +kernel
theorem dX6_setKey_51 : decode cX6_setKey 51 = .ok (.iload_n 1, 1) := by decide +kernel
theorem dX6_setKey_52 : decode cX6_setKey 52 = .ok (.iload_n 2, 1) := by decide +kernel
theorem dX6_setKey_53 : decode cX6_setKey 53 = .ok (.iconst 1, 1) := by decide +kernel
theorem dX6_setKey_54 : decode cX6_setKey 54 = .ok (.if_icmp .ne 7, 3) := by decide +kernel
theorem dX6_setKey_57 : decode cX6_setKey 57 = .ok (.iconst 1, 1) := by decide +kernel
theorem dX6_setKey_58 : decode cX6_setKey 58 = .ok (.goto 4, 3) := by decide +kernel
theorem dX6_setKey_61 : decode cX6_setKey 61 = .ok (.iconst 0, 1) := by decide +kernel
theorem dX6_setKey_62 : decode cX6_setKey 62 = .ok (.invokevirtual 85, 3) := by decide +kernel
theorem dX6_setKey_65 : decode cX6_setKey 65 = .ok (.iload_n 3, 1) := by decide +kernel
theorem dX6_setKey_66 : decode cX6_setKey 66 = .ok (.ireturn, 1) := by decide +kernel
theorem dX6_setCollar_0 : decode cX6_setCollar 0 = .ok (.iload_n 1, 1) := by decide +kernel
theorem dX6_setCollar_1 : decode cX6_setCollar 1 = .ok (.invokestatic 89, 3) := by decide +kernel
theorem dX6_setCollar_4 : decode cX6_setCollar 4 = .ok (.ifCond .eq 17, 3) := by decide +kernel
theorem dX6_setCollar_7 : decode cX6_setCollar 7 = .ok (.iload_n 2, 1) := by decide +kernel
theorem dX6_setCollar_8 : decode cX6_setCollar 8 = .ok (.sipush (-9999), 3) := by decide +kernel
theorem dX6_setCollar_11 : decode cX6_setCollar 11 = .ok (.if_icmp .lt 10, 3) := by decide +kernel
theorem dX6_setCollar_14 : decode cX6_setCollar 14 = .ok (.iload_n 2, 1) := by decide +kernel
theorem dX6_setCollar_15 : decode cX6_setCollar 15 = .ok (.sipush 9999, 3) := by decide +kernel
theorem dX6_setCollar_18 : decode cX6_setCollar 18 = .ok (.if_icmp .le 6, 3) := by decide +kernel
theorem dX6_setCollar_21 : decode cX6_setCollar 21 = .ok (.ldc 58, 2) := by decide +kernel
theorem dX6_setCollar_23 : decode cX6_setCollar 23 = .ok (.ireturn, 1) := by decide +kernel
theorem dX6_setCollar_24 : decode cX6_setCollar 24 = .ok (.aload_n 0, 1) := by decide +kernel
theorem dX6_setCollar_25 : decode cX6_setCollar 25 = .ok (.getfield 19, 3) := by decide +kernel
theorem dX6_setCollar_28 : decode cX6_setCollar 28 = .ok (.aload_n 0, 1) := by decide +kernel
theorem dX6_setCollar_29 : decode cX6_setCollar 29 = .ok (.getfield 10, 3) := by decide +kernel
theorem dX6_setCollar_32 : decode cX6_setCollar 32 = .ok (.invokevirtual 66, 3) := by decide +kernel
theorem dX6_setCollar_35 : decode cX6_setCollar 35 = .ok (.aload_n 0, 1) := by decide +kernel
theorem dX6_setCollar_36 : decode cX6_setCollar 36 = .ok (.getfield 10, 3) := by decide +kernel
theorem dX6_setCollar_39 : decode cX6_setCollar 39 = .ok (.iload_n 1, 1) := by decide +kernel
theorem dX6_setCollar_40 : decode cX6_setCollar 40 = .ok (.invokevirtual 92, 3) := by decide +kernel
theorem dX6_setCollar_43 : decode cX6_setCollar 43 = .ok (.astore_n 3, 1) := by decide +kernel
theorem dX6_setCollar_44 : decode cX6_setCollar 44 = .ok (.aload_n 3, 1) := by decide +kernel
theorem dX6_setCollar_45 : decode cX6_setCollar 45 = .ok (.invokevirtual 96, 3) := by decide +kernel
theorem dX6_setCollar_48 : decode cX6_setCollar 48 = .ok (.istore 4, 2) := by decide +kernel
theorem dX6_setCollar_50 : decode cX6_setCollar 50 = .ok (.aload_n 3, 1) := by decide +kernel
theorem dX6_setCollar_51 : decode cX6_setCollar 51 = .ok (.iload_n 2, 1) := by decide +kernel
theorem dX6_setCollar_52 : decode cX6_setCollar 52 = .ok (.invokevirtual 100, 3) := by decide +kernel
theorem dX6_setCollar_55 : decode cX6_setCollar 55 = .ok (.iload 4, 2) := by decide +kernel
theorem dX6_setCollar_57 : decode cX6_setCollar 57 = .ok (.ireturn, 1) := by decide +kernel
theorem dX6_addBed_0 : decode cX6_addBed 0 = .ok (.iload_n 1, 1) := by decide +kernel
theorem dX6_addBed_1 : decode cX6_addBed 1 = .ok (.invokestatic 89, 3) := by decide +kernel
theorem dX6_addBed_4 : decode cX6_addBed 4 = .ok (.ifCond .eq 18, 3) := by decide +kernel
theorem dX6_addBed_7 : decode cX6_addBed 7 = .ok (.iload_n 3, 1) := by decide +kernel
theorem dX6_addBed_8 : decode cX6_addBed 8 = .ok (.invokestatic 78, 3) := by decide +kernel
theorem dX6_addBed_11 : decode cX6_addBed 11 = .ok (.ifCond .eq 11, 3) := by decide +kernel
theorem dX6_addBed_14 : decode cX6_addBed 14 = .ok (.iload 4, 2) := by decide +kernel
theorem dX6_addBed_16 : decode cX6_addBed 16 = .ok (.invokestatic 104, 3) := by decide +kernel
theorem dX6_addBed_19 : decode cX6_addBed 19 = .ok (.ifCond .ne 6, 3) := by decide +kernel
theorem dX6_addBed_22 : decode cX6_addBed 22 = .ok (.ldc 58, 2) := by decide +kernel
theorem dX6_addBed_24 : decode cX6_addBed 24 = .ok (.ireturn, 1) := by decide +kernel
theorem dX6_addBed_25 : decode cX6_addBed 25 = .ok (.aload_n 0, 1) := by decide +kernel
theorem dX6_addBed_26 : decode cX6_addBed 26 = .ok (.getfield 10, 3) := by decide +kernel
theorem dX6_addBed_29 : decode cX6_addBed 29 = .ok (.iload_n 1, 1) := by decide +kernel
theorem dX6_addBed_30 : decode cX6_addBed 30 = .ok (.invokevirtual 92, 3) := by decide +kernel
theorem dX6_addBed_33 : decode cX6_addBed 33 = .ok (.astore 5, 2) := by decide +kernel
theorem dX6_addBed_35 : decode cX6_addBed 35 = .ok (.iload_n 2, 1) := by decide +kernel
theorem dX6_addBed_36 : decode cX6_addBed 36 = .ok (.ifCond .lt 12, 3) := by decide +kernel
theorem dX6_addBed_39 : decode cX6_addBed 39 = .ok (.iload_n 2, 1) := by decide +kernel
theorem dX6_addBed_40 : decode cX6_addBed 40 = .ok (.aload 5, 2) := by decide +kernel
theorem dX6_addBed_42 : decode cX6_addBed 42 = .ok (.invokevirtual 107, 3) := by decide +kernel
theorem dX6_addBed_45 : decode cX6_addBed 45 = .ok (.if_icmp .le 6, 3) := by decide +kernel
theorem dX6_addBed_48 : decode cX6_addBed 48 = .ok (.ldc 58, 2) := by decide +kernel
theorem dX6_addBed_50 : decode cX6_addBed 50 = .ok (.ireturn, 1) := by decide +kernel
theorem dX6_addBed_51 : decode cX6_addBed 51 = .ok (.aload 5, 2) := by decide +kernel
theorem dX6_addBed_53 : decode cX6_addBed 53 = .ok (.invokevirtual 107, 3) := by decide +kernel
theorem dX6_addBed_56 : decode cX6_addBed 56 = .ok (.bipush 24, 2) := by decide +kernel
theorem dX6_addBed_58 : decode cX6_addBed 58 = .ok (.if_icmp .lt 6, 3) := by decide +kernel
theorem dX6_addBed_61 : decode cX6_addBed 61 = .ok (.ldc 110, 2) := by decide +kernel
theorem dX6_addBed_63 : decode cX6_addBed 63 = .ok (.ireturn, 1) := by decide +kernel
theorem dX6_addBed_64 : decode cX6_addBed 64 = .ok (.aload_n 0, 1) := by decide +kernel
theorem dX6_addBed_65 : decode cX6_addBed 65 = .ok (.getfield 19, 3) := by decide +kernel
theorem dX6_addBed_68 : decode cX6_addBed 68 = .ok (.aload_n 0, 1) := by decide +kernel
theorem dX6_addBed_69 : decode cX6_addBed 69 = .ok (.getfield 10, 3) := by decide +kernel
theorem dX6_addBed_72 : decode cX6_addBed 72 = .ok (.invokevirtual 66, 3) := by decide +kernel
theorem dX6_addBed_75 : decode cX6_addBed 75 = .ok (.aload 5, 2) := by decide +kernel
theorem dX6_addBed_77 : decode cX6_addBed 77 = .ok (.iload_n 2, 1) := by decide +kernel
theorem dX6_addBed_78 : decode cX6_addBed 78 = .ok (.iload_n 3, 1) := by decide +kernel
theorem dX6_addBed_79 : decode cX6_addBed 79 = .ok (.iload 4, 2) := by decide +kernel
theorem dX6_addBed_81 : decode cX6_addBed 81 = .ok (.invokevirtual 111, 3) := by decide +kernel
theorem dX6_addBed_84 : decode cX6_addBed 84 = .ok (.pop, 1) := by decide +kernel
theorem dX6_addBed_85 : decode cX6_addBed 85 = .ok (.aload_n 0, 1) := by decide +kernel
theorem dX6_addBed_86 : decode cX6_addBed 86 = .ok (.getfield 10, 3) := by decide +kernel
theorem dX6_addBed_89 : decode cX6_addBed 89 = .ok (.iconst 1, 1) := by decide +kernel
theorem dX6_addBed_90 : decode cX6_addBed 90 = .ok (.iload 4, 2) := by decide +kernel
theorem dX6_addBed_92 : decode cX6_addBed 92 = .ok (.invokevirtual 115, 3) := by decide +kernel
theorem dX6_addBed_95 : decode cX6_addBed 95 = .ok (.aload 5, 2) := by decide +kernel
theorem dX6_addBed_97 : decode cX6_addBed 97 = .ok (.invokevirtual 107, 3) := by decide +kernel
theorem dX6_addBed_100 : decode cX6_addBed 100 = .ok (.ireturn, 1) := by decide +kernel
theorem dX6_removeBed_0 : decode cX6_removeBed 0 = .ok (.iload_n 1, 1) := by decide +kernel
theorem dX6_removeBed_1 : decode cX6_removeBed 1 = .ok (.invokestatic 89, 3) := by decide +kernel
theorem dX6_removeBed_4 : decode cX6_removeBed 4 = .ok (.ifCond .eq 18, 3) := by decide +kernel
theorem dX6_removeBed_7 : decode cX6_removeBed 7 = .ok (.aload_n 0, 1) := by decide +kernel
theorem dX6_removeBed_8 : decode cX6_removeBed 8 = .ok (.getfield 10, 3) := by decide +kernel
theorem dX6_removeBed_11 : decode cX6_removeBed 11 = .ok (.iload_n 1, 1) := by decide +kernel
theorem dX6_removeBed_12 : decode cX6_removeBed 12 = .ok (.invokevirtual 92, 3) := by decide +kernel
theorem dX6_removeBed_15 : decode cX6_removeBed 15 = .ok (.iload_n 2, 1) := by decide +kernel
theorem dX6_removeBed_16 : decode cX6_removeBed 16 = .ok (.invokevirtual 118, 3) := by decide +kernel
theorem dX6_removeBed_19 : decode cX6_removeBed 19 = .ok (.ifCond .ne 6, 3) := by decide +kernel
theorem dX6_removeBed_22 : decode cX6_removeBed 22 = .ok (.ldc 58, 2) := by decide +kernel
theorem dX6_removeBed_24 : decode cX6_removeBed 24 = .ok (.ireturn, 1) := by decide +kernel
theorem dX6_removeBed_25 : decode cX6_removeBed 25 = .ok (.aload_n 0, 1) := by decide +kernel
theorem dX6_removeBed_26 : decode cX6_removeBed 26 = .ok (.getfield 19, 3) := by decide +kernel
theorem dX6_removeBed_29 : decode cX6_removeBed 29 = .ok (.aload_n 0, 1) := by decide +kernel
theorem dX6_removeBed_30 : decode cX6_removeBed 30 = .ok (.getfield 10, 3) := by decide +kernel
theorem dX6_removeBed_33 : decode cX6_removeBed 33 = .ok (.invokevirtual 66, 3) := by decide +kernel
theorem dX6_removeBed_36 : decode cX6_removeBed 36 = .ok (.aload_n 0, 1) := by decide +kernel
theorem dX6_removeBed_37 : decode cX6_removeBed 37 = .ok (.getfield 10, 3) := by decide +kernel
theorem dX6_removeBed_40 : decode cX6_removeBed 40 = .ok (.iload_n 1, 1) := by decide +kernel
theorem dX6_removeBed_41 : decode cX6_removeBed 41 = .ok (.invokevirtual 92, 3) := by decide +kernel
theorem dX6_removeBed_44 : decode cX6_removeBed 44 = .ok (.astore_n 3, 1) := by decide +kernel
theorem dX6_removeBed_45 : decode cX6_removeBed 45 = .ok (.aload_n 3, 1) := by decide +kernel
theorem dX6_removeBed_46 : decode cX6_removeBed 46 = .ok (.iload_n 2, 1) := by decide +kernel
theorem dX6_removeBed_47 : decode cX6_removeBed 47 = .ok (.invokevirtual 121, 3) := by decide +kernel
theorem dX6_removeBed_50 : decode cX6_removeBed 50 = .ok (.istore 4, 2) := by decide +kernel
theorem dX6_removeBed_52 : decode cX6_removeBed 52 = .ok (.aload_n 3, 1) := by decide +kernel
theorem dX6_removeBed_53 : decode cX6_removeBed 53 = .ok (.iload_n 2, 1) := by decide +kernel
theorem dX6_removeBed_54 : decode cX6_removeBed 54 = .ok (.invokevirtual 124, 3) := by decide +kernel
theorem dX6_removeBed_57 : decode cX6_removeBed 57 = .ok (.aload_n 0, 1) := by decide +kernel
theorem dX6_removeBed_58 : decode cX6_removeBed 58 = .ok (.getfield 10, 3) := by decide +kernel
theorem dX6_removeBed_61 : decode cX6_removeBed 61 = .ok (.iconst 2, 1) := by decide +kernel
theorem dX6_removeBed_62 : decode cX6_removeBed 62 = .ok (.iload 4, 2) := by decide +kernel
theorem dX6_removeBed_64 : decode cX6_removeBed 64 = .ok (.invokevirtual 115, 3) := by decide +kernel
theorem dX6_removeBed_67 : decode cX6_removeBed 67 = .ok (.iload 4, 2) := by decide +kernel
theorem dX6_removeBed_69 : decode cX6_removeBed 69 = .ok (.ireturn, 1) := by decide +kernel
theorem dX6_setThickness_0 : decode cX6_setThickness 0 = .ok (.iload_n 1, 1) := by decide +kernel
theorem dX6_setThickness_1 : decode cX6_setThickness 1 = .ok (.invokestatic 89, 3) := by decide +kernel
theorem dX6_setThickness_4 : decode cX6_setThickness 4 = .ok (.ifCond .eq 25, 3) := by decide +kernel
theorem dX6_setThickness_7 : decode cX6_setThickness 7 = .ok (.iload_n 3, 1) := by decide +kernel
theorem dX6_setThickness_8 : decode cX6_setThickness 8 = .ok (.invokestatic 104, 3) := by decide +kernel
theorem dX6_setThickness_11 : decode cX6_setThickness 11 = .ok (.ifCond .eq 18, 3) := by decide +kernel
theorem dX6_setThickness_14 : decode cX6_setThickness 14 = .ok (.aload_n 0, 1) := by decide +kernel
theorem dX6_setThickness_15 : decode cX6_setThickness 15 = .ok (.getfield 10, 3) := by decide +kernel
theorem dX6_setThickness_18 : decode cX6_setThickness 18 = .ok (.iload_n 1, 1) := by decide +kernel
theorem dX6_setThickness_19 : decode cX6_setThickness 19 = .ok (.invokevirtual 92, 3) := by decide +kernel
theorem dX6_setThickness_22 : decode cX6_setThickness 22 = .ok (.iload_n 2, 1) := by decide +kernel
theorem dX6_setThickness_23 : decode cX6_setThickness 23 = .ok (.invokevirtual 118, 3) := by decide +kernel
theorem dX6_setThickness_26 : decode cX6_setThickness 26 = .ok (.ifCond .ne 6, 3) := by decide +kernel
theorem dX6_setThickness_29 : decode cX6_setThickness 29 = .ok (.ldc 58, 2) := by decide +kernel
theorem dX6_setThickness_31 : decode cX6_setThickness 31 = .ok (.ireturn, 1) := by decide +kernel
theorem dX6_setThickness_32 : decode cX6_setThickness 32 = .ok (.aload_n 0, 1) := by decide +kernel
theorem dX6_setThickness_33 : decode cX6_setThickness 33 = .ok (.getfield 19, 3) := by decide +kernel
theorem dX6_setThickness_36 : decode cX6_setThickness 36 = .ok (.aload_n 0, 1) := by decide +kernel
theorem dX6_setThickness_37 : decode cX6_setThickness 37 = .ok (.getfield 10, 3) := by decide +kernel
theorem dX6_setThickness_40 : decode cX6_setThickness 40 = .ok (.invokevirtual 66, 3) := by decide +kernel
theorem dX6_setThickness_43 : decode cX6_setThickness 43 = .ok (.aload_n 0, 1) := by decide +kernel
theorem dX6_setThickness_44 : decode cX6_setThickness 44 = .ok (.getfield 10, 3) := by decide +kernel
theorem dX6_setThickness_47 : decode cX6_setThickness 47 = .ok (.iload_n 1, 1) := by decide +kernel
theorem dX6_setThickness_48 : decode cX6_setThickness 48 = .ok (.invokevirtual 92, 3) := by decide +kernel
theorem dX6_setThickness_51 : decode cX6_setThickness 51 = .ok (.astore 4, 2) := by decide +kernel
theorem dX6_setThickness_53 : decode cX6_setThickness 53 = .ok (.aload 4, 2) := by decide +kernel
theorem dX6_setThickness_55 : decode cX6_setThickness 55 = .ok (.iload_n 2, 1) := by decide +kernel
theorem dX6_setThickness_56 : decode cX6_setThickness 56 = .ok (.invokevirtual 121, 3) := by decide +kernel
theorem dX6_setThickness_59 : decode cX6_setThickness 59 = .ok (.istore 5, 2) := by decide +kernel
theorem dX6_setThickness_61 : decode cX6_setThickness 61 = .ok (.aload 4, 2) := by decide +kernel
theorem dX6_setThickness_63 : decode cX6_setThickness 63 = .ok (.iload_n 2, 1) := by decide +kernel
theorem dX6_setThickness_64 : decode cX6_setThickness 64 = .ok (.iload_n 3, 1) := by decide +kernel
theorem dX6_setThickness_65 : decode cX6_setThickness 65 = .ok (.invokevirtual 127, 3) := by decide +kernel
theorem dX6_setThickness_68 : decode cX6_setThickness 68 = .ok (.aload_n 0, 1) := by decide +kernel
theorem dX6_setThickness_69 : decode cX6_setThickness 69 = .ok (.getfield 10, 3) := by decide +kernel
theorem dX6_setThickness_72 : decode cX6_setThickness 72 = .ok (.iconst 1, 1) := by decide +kernel
theorem dX6_setThickness_73 : decode cX6_setThickness 73 = .ok (.iload_n 3, 1) := by decide +kernel
theorem dX6_setThickness_74 : decode cX6_setThickness 74 = .ok (.iload 5, 2) := by decide +kernel
theorem dX6_setThickness_76 : decode cX6_setThickness 76 = .ok (.isub, 1) := by decide +kernel
theorem dX6_setThickness_77 : decode cX6_setThickness 77 = .ok (.iconst 0, 1) := by decide +kernel
theorem dX6_setThickness_78 : decode cX6_setThickness 78 = .ok (.invokestatic 130, 3) := by decide +kernel
theorem dX6_setThickness_81 : decode cX6_setThickness 81 = .ok (.invokevirtual 115, 3) := by decide +kernel
theorem dX6_setThickness_84 : decode cX6_setThickness 84 = .ok (.aload_n 0, 1) := by decide +kernel
theorem dX6_setThickness_85 : decode cX6_setThickness 85 = .ok (.getfield 10, 3) := by decide +kernel
theorem dX6_setThickness_88 : decode cX6_setThickness 88 = .ok (.iconst 2, 1) := by decide +kernel
theorem dX6_setThickness_89 : decode cX6_setThickness 89 = .ok (.iload 5, 2) := by decide +kernel
theorem dX6_setThickness_91 : decode cX6_setThickness 91 = .ok (.iload_n 3, 1) := by decide +kernel
theorem dX6_setThickness_92 : decode cX6_setThickness 92 = .ok (.isub, 1) := by decide +kernel
theorem dX6_setThickness_93 : decode cX6_setThickness 93 = .ok (.iconst 0, 1) := by decide +kernel
theorem dX6_setThickness_94 : decode cX6_setThickness 94 = .ok (.invokestatic 130, 3) := by decide +kernel
theorem dX6_setThickness_97 : decode cX6_setThickness 97 = .ok (.invokevirtual 115, 3) := by decide +kernel
theorem dX6_setThickness_100 : decode cX6_setThickness 100 = .ok (.iload 5, 2) := by decide +kernel
theorem dX6_setThickness_102 : decode cX6_setThickness 102 = .ok (.ireturn, 1) := by decide +kernel
theorem dX6_cut_0 : decode cX6_cut 0 = .ok (.iload_n 1, 1) := by decide +kernel
theorem dX6_cut_1 : decode cX6_cut 1 = .ok (.invokestatic 89, 3) := by decide +kernel
theorem dX6_cut_4 : decode cX6_cut 4 = .ok (.ifCond .ne 6, 3) := by decide +kernel
theorem dX6_cut_7 : decode cX6_cut 7 = .ok (.ldc 58, 2) := by decide +kernel
theorem dX6_cut_9 : decode cX6_cut 9 = .ok (.ireturn, 1) := by decide +kernel
theorem dX6_cut_10 : decode cX6_cut 10 = .ok (.aload_n 0, 1) := by decide +kernel
theorem dX6_cut_11 : decode cX6_cut 11 = .ok (.getfield 10, 3) := by decide +kernel
theorem dX6_cut_14 : decode cX6_cut 14 = .ok (.iload_n 1, 1) := by decide +kernel
theorem dX6_cut_15 : decode cX6_cut 15 = .ok (.invokevirtual 92, 3) := by decide +kernel
theorem dX6_cut_18 : decode cX6_cut 18 = .ok (.astore 4, 2) := by decide +kernel
theorem dX6_cut_20 : decode cX6_cut 20 = .ok (.aload 4, 2) := by decide +kernel
theorem dX6_cut_22 : decode cX6_cut 22 = .ok (.invokevirtual 136, 3) := by decide +kernel
theorem dX6_cut_25 : decode cX6_cut 25 = .ok (.istore 5, 2) := by decide +kernel
theorem dX6_cut_27 : decode cX6_cut 27 = .ok (.iload_n 2, 1) := by decide +kernel
theorem dX6_cut_28 : decode cX6_cut 28 = .ok (.iconst 1, 1) := by decide +kernel
theorem dX6_cut_29 : decode cX6_cut 29 = .ok (.if_icmp .lt 28, 3) := by decide +kernel
theorem dX6_cut_32 : decode cX6_cut 32 = .ok (.iload_n 2, 1) := by decide +kernel
theorem dX6_cut_33 : decode cX6_cut 33 = .ok (.iload 5, 2) := by decide +kernel
theorem dX6_cut_35 : decode cX6_cut 35 = .ok (.iconst 1, 1) := by decide +kernel
theorem dX6_cut_36 : decode cX6_cut 36 = .ok (.isub, 1) := by decide +kernel
theorem dX6_cut_37 : decode cX6_cut 37 = .ok (.if_icmp .gt 20, 3) := by decide +kernel
theorem dX6_cut_40 : decode cX6_cut 40 = .ok (.iload_n 3, 1) := by decide +kernel
theorem dX6_cut_41 : decode cX6_cut 41 = .ok (.ifCond .eq 16, 3) := by decide +kernel
theorem dX6_cut_44 : decode cX6_cut 44 = .ok (.iload_n 3, 1) := by decide +kernel
theorem dX6_cut_45 : decode cX6_cut 45 = .ok (.iload_n 2, 1) := by decide +kernel
theorem dX6_cut_46 : decode cX6_cut 46 = .ok (.ineg, 1) := by decide +kernel
theorem dX6_cut_47 : decode cX6_cut 47 = .ok (.if_icmp .lt 10, 3) := by decide +kernel
theorem dX6_cut_50 : decode cX6_cut 50 = .ok (.iload_n 3, 1) := by decide +kernel
theorem dX6_cut_51 : decode cX6_cut 51 = .ok (.sipush 9999, 3) := by decide +kernel
theorem dX6_cut_54 : decode cX6_cut 54 = .ok (.if_icmp .le 6, 3) := by decide +kernel
theorem dX6_cut_57 : decode cX6_cut 57 = .ok (.ldc 58, 2) := by decide +kernel
theorem dX6_cut_59 : decode cX6_cut 59 = .ok (.ireturn, 1) := by decide +kernel
theorem dX6_cut_60 : decode cX6_cut 60 = .ok (.iload_n 2, 1) := by decide +kernel
theorem dX6_cut_61 : decode cX6_cut 61 = .ok (.iload_n 2, 1) := by decide +kernel
theorem dX6_cut_62 : decode cX6_cut 62 = .ok (.iload_n 3, 1) := by decide +kernel
theorem dX6_cut_63 : decode cX6_cut 63 = .ok (.iadd, 1) := by decide +kernel
theorem dX6_cut_64 : decode cX6_cut 64 = .ok (.invokestatic 139, 3) := by decide +kernel
theorem dX6_cut_67 : decode cX6_cut 67 = .ok (.istore 6, 2) := by decide +kernel
theorem dX6_cut_69 : decode cX6_cut 69 = .ok (.iload 5, 2) := by decide +kernel
theorem dX6_cut_71 : decode cX6_cut 71 = .ok (.iload_n 2, 1) := by decide +kernel
theorem dX6_cut_72 : decode cX6_cut 72 = .ok (.iload_n 2, 1) := by decide +kernel
theorem dX6_cut_73 : decode cX6_cut 73 = .ok (.iload_n 3, 1) := by decide +kernel
theorem dX6_cut_74 : decode cX6_cut 74 = .ok (.iadd, 1) := by decide +kernel
theorem dX6_cut_75 : decode cX6_cut 75 = .ok (.invokestatic 130, 3) := by decide +kernel
theorem dX6_cut_78 : decode cX6_cut 78 = .ok (.invokestatic 139, 3) := by decide +kernel
theorem dX6_cut_81 : decode cX6_cut 81 = .ok (.istore 7, 2) := by decide +kernel
theorem dX6_cut_83 : decode cX6_cut 83 = .ok (.aload_n 0, 1) := by decide +kernel
theorem dX6_cut_84 : decode cX6_cut 84 = .ok (.getfield 41, 3) := by decide +kernel
theorem dX6_cut_87 : decode cX6_cut 87 = .ok (.invokevirtual 142, 3) := by decide +kernel
theorem dX6_cut_90 : decode cX6_cut 90 = .ok (.aload_n 0, 1) := by decide +kernel
theorem dX6_cut_91 : decode cX6_cut 91 = .ok (.getfield 41, 3) := by decide +kernel
theorem dX6_cut_94 : decode cX6_cut 94 = .ok (.aload 4, 2) := by decide +kernel
theorem dX6_cut_96 : decode cX6_cut 96 = .ok (.iconst 0, 1) := by decide +kernel
theorem dX6_cut_97 : decode cX6_cut 97 = .ok (.iload_n 2, 1) := by decide +kernel
theorem dX6_cut_98 : decode cX6_cut 98 = .ok (.invokevirtual 145, 3) := by decide +kernel
theorem dX6_cut_101 : decode cX6_cut 101 = .ok (.ifCond .eq 38, 3) := by decide +kernel
theorem dX6_cut_104 : decode cX6_cut 104 = .ok (.aload_n 0, 1) := by decide +kernel
theorem dX6_cut_105 : decode cX6_cut 105 = .ok (.getfield 41, 3) := by decide +kernel
theorem dX6_cut_108 : decode cX6_cut 108 = .ok (.aload 4, 2) := by decide +kernel
theorem dX6_cut_110 : decode cX6_cut 110 = .ok (.iload 6, 2) := by decide +kernel
theorem dX6_cut_112 : decode cX6_cut 112 = .ok (.iload_n 2, 1) := by decide +kernel
theorem dX6_cut_113 : decode cX6_cut 113 = .ok (.invokevirtual 145, 3) := by decide +kernel
theorem dX6_cut_116 : decode cX6_cut 116 = .ok (.ifCond .eq 23, 3) := by decide +kernel
theorem dX6_cut_119 : decode cX6_cut 119 = .ok (.aload_n 0, 1) := by decide +kernel
theorem dX6_cut_120 : decode cX6_cut 120 = .ok (.getfield 41, 3) := by decide +kernel
theorem dX6_cut_123 : decode cX6_cut 123 = .ok (.aload 4, 2) := by decide +kernel
theorem dX6_cut_125 : decode cX6_cut 125 = .ok (.iload 7, 2) := by decide +kernel
theorem dX6_cut_127 : decode cX6_cut 127 = .ok (.iload 5, 2) := by decide +kernel
theorem dX6_cut_129 : decode cX6_cut 129 = .ok (.invokevirtual 145, 3) := by decide +kernel
theorem dX6_cut_132 : decode cX6_cut 132 = .ok (.ifCond .eq 7, 3) := by decide +kernel
theorem dX6_cut_135 : decode cX6_cut 135 = .ok (.iconst 1, 1) := by decide +kernel
theorem dX6_cut_136 : decode cX6_cut 136 = .ok (.goto 4, 3) := by decide +kernel
theorem dX6_cut_139 : decode cX6_cut 139 = .ok (.iconst 0, 1) := by decide +kernel
theorem dX6_cut_140 : decode cX6_cut 140 = .ok (.istore 8, 2) := by decide +kernel
theorem dX6_cut_142 : decode cX6_cut 142 = .ok (.iload 8, 2) := by decide +kernel
theorem dX6_cut_144 : decode cX6_cut 144 = .ok (.ifCond .ne 6, 3) := by decide +kernel
theorem dX6_cut_147 : decode cX6_cut 147 = .ok (.ldc 110, 2) := by decide +kernel
theorem dX6_cut_149 : decode cX6_cut 149 = .ok (.ireturn, 1) := by decide +kernel
theorem dX6_cut_150 : decode cX6_cut 150 = .ok (.aload_n 0, 1) := by decide +kernel
theorem dX6_cut_151 : decode cX6_cut 151 = .ok (.getfield 19, 3) := by decide +kernel
theorem dX6_cut_154 : decode cX6_cut 154 = .ok (.aload_n 0, 1) := by decide +kernel
theorem dX6_cut_155 : decode cX6_cut 155 = .ok (.getfield 10, 3) := by decide +kernel
theorem dX6_cut_158 : decode cX6_cut 158 = .ok (.invokevirtual 66, 3) := by decide +kernel
theorem dX6_cut_161 : decode cX6_cut 161 = .ok (.aload 4, 2) := by decide +kernel
theorem dX6_cut_163 : decode cX6_cut 163 = .ok (.aload_n 0, 1) := by decide +kernel
theorem dX6_cut_164 : decode cX6_cut 164 = .ok (.getfield 41, 3) := by decide +kernel
theorem dX6_cut_167 : decode cX6_cut 167 = .ok (.invokevirtual 149, 3) := by decide +kernel
theorem dX6_cut_170 : decode cX6_cut 170 = .ok (.aload_n 0, 1) := by decide +kernel
theorem dX6_cut_171 : decode cX6_cut 171 = .ok (.getfield 10, 3) := by decide +kernel
theorem dX6_cut_174 : decode cX6_cut 174 = .ok (.iconst 3, 1) := by decide +kernel
theorem dX6_cut_175 : decode cX6_cut 175 = .ok (.iload 7, 2) := by decide +kernel
theorem dX6_cut_177 : decode cX6_cut 177 = .ok (.iload_n 2, 1) := by decide +kernel
theorem dX6_cut_178 : decode cX6_cut 178 = .ok (.isub, 1) := by decide +kernel
theorem dX6_cut_179 : decode cX6_cut 179 = .ok (.invokevirtual 115, 3) := by decide +kernel
theorem dX6_cut_182 : decode cX6_cut 182 = .ok (.aload_n 0, 1) := by decide +kernel
theorem dX6_cut_183 : decode cX6_cut 183 = .ok (.getfield 10, 3) := by decide +kernel
theorem dX6_cut_186 : decode cX6_cut 186 = .ok (.iconst 4, 1) := by decide +kernel
theorem dX6_cut_187 : decode cX6_cut 187 = .ok (.iload_n 2, 1) := by decide +kernel
theorem dX6_cut_188 : decode cX6_cut 188 = .ok (.iload 6, 2) := by decide +kernel
theorem dX6_cut_190 : decode cX6_cut 190 = .ok (.isub, 1) := by decide +kernel
theorem dX6_cut_191 : decode cX6_cut 191 = .ok (.invokevirtual 115, 3) := by decide +kernel
theorem dX6_cut_194 : decode cX6_cut 194 = .ok (.aload 4, 2) := by decide +kernel
theorem dX6_cut_196 : decode cX6_cut 196 = .ok (.invokevirtual 107, 3) := by decide +kernel
theorem dX6_cut_199 : decode cX6_cut 199 = .ok (.ireturn, 1) := by decide +kernel
theorem dX6_count_0 : decode cX6_count 0 = .ok (.iload_n 1, 1) := by decide +kernel
theorem dX6_count_1 : decode cX6_count 1 = .ok (.ifCond .lt 17, 3) := by decide +kernel
theorem dX6_count_4 : decode cX6_count 4 = .ok (.iload_n 1, 1) := by decide +kernel
theorem dX6_count_5 : decode cX6_count 5 = .ok (.iconst 5, 1) := by decide +kernel
theorem dX6_count_6 : decode cX6_count 6 = .ok (.if_icmp .ge 12, 3) := by decide +kernel
theorem dX6_count_9 : decode cX6_count 9 = .ok (.aload_n 0, 1) := by decide +kernel
theorem dX6_count_10 : decode cX6_count 10 = .ok (.getfield 10, 3) := by decide +kernel
theorem dX6_count_13 : decode cX6_count 13 = .ok (.iload_n 1, 1) := by decide +kernel
theorem dX6_count_14 : decode cX6_count 14 = .ok (.invokevirtual 70, 3) := by decide +kernel
theorem dX6_count_17 : decode cX6_count 17 = .ok (.ireturn, 1) := by decide +kernel
theorem dX6_count_18 : decode cX6_count 18 = .ok (.iload_n 1, 1) := by decide +kernel
theorem dX6_count_19 : decode cX6_count 19 = .ok (.tableswitch 70 5 9 #[33, 41, 49, 57, 65], 33) := by decide +kernel
theorem dX6_count_52 : decode cX6_count 52 = .ok (.aload_n 0, 1) := by decide +kernel
theorem dX6_count_53 : decode cX6_count 53 = .ok (.getfield 10, 3) := by decide +kernel
theorem dX6_count_56 : decode cX6_count 56 = .ok (.invokevirtual 188, 3) := by decide +kernel
theorem dX6_count_59 : decode cX6_count 59 = .ok (.ireturn, 1) := by decide +kernel
theorem dX6_count_60 : decode cX6_count 60 = .ok (.aload_n 0, 1) := by decide +kernel
theorem dX6_count_61 : decode cX6_count 61 = .ok (.getfield 10, 3) := by decide +kernel
theorem dX6_count_64 : decode cX6_count 64 = .ok (.invokevirtual 179, 3) := by decide +kernel
theorem dX6_count_67 : decode cX6_count 67 = .ok (.ireturn, 1) := by decide +kernel
theorem dX6_count_68 : decode cX6_count 68 = .ok (.aload_n 0, 1) := by decide +kernel
theorem dX6_count_69 : decode cX6_count 69 = .ok (.getfield 34, 3) := by decide +kernel
theorem dX6_count_72 : decode cX6_count 72 = .ok (.invokevirtual 156, 3) := by decide +kernel
theorem dX6_count_75 : decode cX6_count 75 = .ok (.ireturn, 1) := by decide +kernel
theorem dX6_count_76 : decode cX6_count 76 = .ok (.aload_n 0, 1) := by decide +kernel
theorem dX6_count_77 : decode cX6_count 77 = .ok (.getfield 19, 3) := by decide +kernel
theorem dX6_count_80 : decode cX6_count 80 = .ok (.invokevirtual 187, 3) := by decide +kernel
theorem dX6_count_83 : decode cX6_count 83 = .ok (.ireturn, 1) := by decide +kernel
theorem dX6_count_84 : decode cX6_count 84 = .ok (.aload_n 0, 1) := by decide +kernel
theorem dX6_count_85 : decode cX6_count 85 = .ok (.getfield 27, 3) := by decide +kernel
theorem dX6_count_88 : decode cX6_count 88 = .ok (.ireturn, 1) := by decide +kernel
theorem dX6_count_89 : decode cX6_count 89 = .ok (.ldc 58, 2) := by decide +kernel
theorem dX6_count_91 : decode cX6_count 91 = .ok (.ireturn, 1) := by decide +kernel
theorem dX6_hole_0 : decode cX6_hole 0 = .ok (.iload_n 1, 1) := by decide +kernel
theorem dX6_hole_1 : decode cX6_hole 1 = .ok (.invokestatic 89, 3) := by decide +kernel
theorem dX6_hole_4 : decode cX6_hole 4 = .ok (.ifCond .ne 6, 3) := by decide +kernel
theorem dX6_hole_7 : decode cX6_hole 7 = .ok (.ldc 58, 2) := by decide +kernel
theorem dX6_hole_9 : decode cX6_hole 9 = .ok (.ireturn, 1) := by decide +kernel
theorem dX6_hole_10 : decode cX6_hole 10 = .ok (.aload_n 0, 1) := by decide +kernel
theorem dX6_hole_11 : decode cX6_hole 11 = .ok (.getfield 10, 3) := by decide +kernel
theorem dX6_hole_14 : decode cX6_hole 14 = .ok (.iload_n 1, 1) := by decide +kernel
theorem dX6_hole_15 : decode cX6_hole 15 = .ok (.invokevirtual 92, 3) := by decide +kernel
theorem dX6_hole_18 : decode cX6_hole 18 = .ok (.astore_n 3, 1) := by decide +kernel
theorem dX6_hole_19 : decode cX6_hole 19 = .ok (.iload_n 2, 1) := by decide +kernel
theorem dX6_hole_20 : decode cX6_hole 20 = .ok (.tableswitch 43 0 2 #[28, 33, 38], 28) := by decide +kernel
theorem dX6_hole_48 : decode cX6_hole 48 = .ok (.aload_n 3, 1) := by decide +kernel
theorem dX6_hole_49 : decode cX6_hole 49 = .ok (.invokevirtual 96, 3) := by decide +kernel
theorem dX6_hole_52 : decode cX6_hole 52 = .ok (.ireturn, 1) := by decide +kernel
theorem dX6_hole_53 : decode cX6_hole 53 = .ok (.aload_n 3, 1) := by decide +kernel
theorem dX6_hole_54 : decode cX6_hole 54 = .ok (.invokevirtual 107, 3) := by decide +kernel
theorem dX6_hole_57 : decode cX6_hole 57 = .ok (.ireturn, 1) := by decide +kernel
theorem dX6_hole_58 : decode cX6_hole 58 = .ok (.aload_n 3, 1) := by decide +kernel
theorem dX6_hole_59 : decode cX6_hole 59 = .ok (.invokevirtual 136, 3) := by decide +kernel
theorem dX6_hole_62 : decode cX6_hole 62 = .ok (.ireturn, 1) := by decide +kernel
theorem dX6_hole_63 : decode cX6_hole 63 = .ok (.ldc 58, 2) := by decide +kernel
theorem dX6_hole_65 : decode cX6_hole 65 = .ok (.ireturn, 1) := by decide +kernel
theorem dX6_bed_0 : decode cX6_bed 0 = .ok (.iload_n 1, 1) := by decide +kernel
theorem dX6_bed_1 : decode cX6_bed 1 = .ok (.invokestatic 89, 3) := by decide +kernel
theorem dX6_bed_4 : decode cX6_bed 4 = .ok (.ifCond .eq 16, 3) := by decide +kernel
theorem dX6_bed_7 : decode cX6_bed 7 = .ok (.iload_n 3, 1) := by decide +kernel
theorem dX6_bed_8 : decode cX6_bed 8 = .ok (.ifCond .lt 12, 3) := by decide +kernel
theorem dX6_bed_11 : decode cX6_bed 11 = .ok (.iload_n 3, 1) := by decide +kernel
theorem dX6_bed_12 : decode cX6_bed 12 = .ok (.iconst 3, 1) := by decide +kernel
theorem dX6_bed_13 : decode cX6_bed 13 = .ok (.if_icmp .gt 7, 3) := by decide +kernel
theorem dX6_bed_16 : decode cX6_bed 16 = .ok (.iload_n 2, 1) := by decide +kernel
theorem dX6_bed_17 : decode cX6_bed 17 = .ok (.ifCond .ge 6, 3) := by decide +kernel
theorem dX6_bed_20 : decode cX6_bed 20 = .ok (.ldc 58, 2) := by decide +kernel
theorem dX6_bed_22 : decode cX6_bed 22 = .ok (.ireturn, 1) := by decide +kernel
theorem dX6_bed_23 : decode cX6_bed 23 = .ok (.aload_n 0, 1) := by decide +kernel
theorem dX6_bed_24 : decode cX6_bed 24 = .ok (.getfield 10, 3) := by decide +kernel
theorem dX6_bed_27 : decode cX6_bed 27 = .ok (.iload_n 1, 1) := by decide +kernel
theorem dX6_bed_28 : decode cX6_bed 28 = .ok (.invokevirtual 92, 3) := by decide +kernel
theorem dX6_bed_31 : decode cX6_bed 31 = .ok (.astore 4, 2) := by decide +kernel
theorem dX6_bed_33 : decode cX6_bed 33 = .ok (.aload 4, 2) := by decide +kernel
theorem dX6_bed_35 : decode cX6_bed 35 = .ok (.iload_n 2, 1) := by decide +kernel
theorem dX6_bed_36 : decode cX6_bed 36 = .ok (.invokevirtual 118, 3) := by decide +kernel
theorem dX6_bed_39 : decode cX6_bed 39 = .ok (.ifCond .ne 6, 3) := by decide +kernel
theorem dX6_bed_42 : decode cX6_bed 42 = .ok (.ldc 191, 2) := by decide +kernel
theorem dX6_bed_44 : decode cX6_bed 44 = .ok (.ireturn, 1) := by decide +kernel
theorem dX6_bed_45 : decode cX6_bed 45 = .ok (.iload_n 3, 1) := by decide +kernel
theorem dX6_bed_46 : decode cX6_bed 46 = .ok (.tableswitch 47 0 2 #[26, 33, 40], 26) := by decide +kernel
theorem dX6_bed_72 : decode cX6_bed 72 = .ok (.aload 4, 2) := by decide +kernel
theorem dX6_bed_74 : decode cX6_bed 74 = .ok (.iload_n 2, 1) := by decide +kernel
theorem dX6_bed_75 : decode cX6_bed 75 = .ok (.invokevirtual 192, 3) := by decide +kernel
theorem dX6_bed_78 : decode cX6_bed 78 = .ok (.ireturn, 1) := by decide +kernel
theorem dX6_bed_79 : decode cX6_bed 79 = .ok (.aload 4, 2) := by decide +kernel
theorem dX6_bed_81 : decode cX6_bed 81 = .ok (.iload_n 2, 1) := by decide +kernel
theorem dX6_bed_82 : decode cX6_bed 82 = .ok (.invokevirtual 121, 3) := by decide +kernel
theorem dX6_bed_85 : decode cX6_bed 85 = .ok (.ireturn, 1) := by decide +kernel
theorem dX6_bed_86 : decode cX6_bed 86 = .ok (.aload 4, 2) := by decide +kernel
theorem dX6_bed_88 : decode cX6_bed 88 = .ok (.iload_n 2, 1) := by decide +kernel
theorem dX6_bed_89 : decode cX6_bed 89 = .ok (.invokevirtual 195, 3) := by decide +kernel
theorem dX6_bed_92 : decode cX6_bed 92 = .ok (.ireturn, 1) := by decide +kernel
theorem dX6_bed_93 : decode cX6_bed 93 = .ok (.aload 4, 2) := by decide +kernel
theorem dX6_bed_95 : decode cX6_bed 95 = .ok (.iload_n 2, 1) := by decide +kernel
theorem dX6_bed_96 : decode cX6_bed 96 = .ok (.invokevirtual 198, 3) := by decide +kernel
theorem dX6_bed_99 : decode cX6_bed 99 = .ok (.ireturn, 1) := by decide +kernel
theorem dX6_find_0 : decode cX6_find 0 = .ok (.iload_n 1, 1) := by decide +kernel
theorem dX6_find_1 : decode cX6_find 1 = .ok (.invokestatic 89, 3) := by decide +kernel
theorem dX6_find_4 : decode cX6_find 4 = .ok (.ifCond .eq 14, 3) := by decide +kernel
theorem dX6_find_7 : decode cX6_find 7 = .ok (.iload_n 2, 1) := by decide +kernel
theorem dX6_find_8 : decode cX6_find 8 = .ok (.invokestatic 78, 3) := by decide +kernel
theorem dX6_find_11 : decode cX6_find 11 = .ok (.ifCond .eq 7, 3) := by decide +kernel
theorem dX6_find_14 : decode cX6_find 14 = .ok (.iload_n 3, 1) := by decide +kernel
theorem dX6_find_15 : decode cX6_find 15 = .ok (.ifCond .ge 6, 3) := by decide +kernel
theorem dX6_find_18 : decode cX6_find 18 = .ok (.ldc 58, 2) := by decide +kernel
theorem dX6_find_20 : decode cX6_find 20 = .ok (.ireturn, 1) := by decide +kernel
theorem dX6_find_21 : decode cX6_find 21 = .ok (.aload_n 0, 1) := by decide +kernel
theorem dX6_find_22 : decode cX6_find 22 = .ok (.getfield 10, 3) := by decide +kernel
theorem dX6_find_25 : decode cX6_find 25 = .ok (.iload_n 1, 1) := by decide +kernel
theorem dX6_find_26 : decode cX6_find 26 = .ok (.invokevirtual 92, 3) := by decide +kernel
theorem dX6_find_29 : decode cX6_find 29 = .ok (.iload_n 2, 1) := by decide +kernel
theorem dX6_find_30 : decode cX6_find 30 = .ok (.iload_n 3, 1) := by decide +kernel
theorem dX6_find_31 : decode cX6_find 31 = .ok (.invokevirtual 201, 3) := by decide +kernel
theorem dX6_find_34 : decode cX6_find 34 = .ok (.ireturn, 1) := by decide +kernel
theorem dX6_account_0 : decode cX6_account 0 = .ok (.iload_n 1, 1) := by decide +kernel
theorem dX6_account_1 : decode cX6_account 1 = .ok (.ifCond .lt 8, 3) := by decide +kernel
theorem dX6_account_4 : decode cX6_account 4 = .ok (.iload_n 1, 1) := by decide +kernel
theorem dX6_account_5 : decode cX6_account 5 = .ok (.iconst 5, 1) := by decide +kernel
theorem dX6_account_6 : decode cX6_account 6 = .ok (.if_icmp .lt 6, 3) := by decide +kernel
theorem dX6_account_9 : decode cX6_account 9 = .ok (.ldc 58, 2) := by decide +kernel
theorem dX6_account_11 : decode cX6_account 11 = .ok (.ireturn, 1) := by decide +kernel
theorem dX6_account_12 : decode cX6_account 12 = .ok (.iload_n 1, 1) := by decide +kernel
theorem dX6_account_13 : decode cX6_account 13 = .ok (.ifCond .ne 13, 3) := by decide +kernel
theorem dX6_account_16 : decode cX6_account 16 = .ok (.aload_n 0, 1) := by decide +kernel
theorem dX6_account_17 : decode cX6_account 17 = .ok (.getfield 10, 3) := by decide +kernel
theorem dX6_account_20 : decode cX6_account 20 = .ok (.invokevirtual 204, 3) := by decide +kernel
theorem dX6_account_23 : decode cX6_account 23 = .ok (.goto 11, 3) := by decide +kernel
theorem dX6_account_26 : decode cX6_account 26 = .ok (.aload_n 0, 1) := by decide +kernel
theorem dX6_account_27 : decode cX6_account 27 = .ok (.getfield 10, 3) := by decide +kernel
theorem dX6_account_30 : decode cX6_account 30 = .ok (.iload_n 1, 1) := by decide +kernel
theorem dX6_account_31 : decode cX6_account 31 = .ok (.invokevirtual 207, 3) := by decide +kernel
theorem dX6_account_34 : decode cX6_account 34 = .ok (.ireturn, 1) := by decide +kernel
theorem dX6_cost_0 : decode cX6_cost 0 = .ok (.iload_n 1, 1) := by decide +kernel
theorem dX6_cost_1 : decode cX6_cost 1 = .ok (.iload_n 2, 1) := by decide +kernel
theorem dX6_cost_2 : decode cX6_cost 2 = .ok (.invokestatic 210, 3) := by decide +kernel
theorem dX6_cost_5 : decode cX6_cost 5 = .ok (.ifCond .eq 12, 3) := by decide +kernel
theorem dX6_cost_8 : decode cX6_cost 8 = .ok (.iload_n 3, 1) := by decide +kernel
theorem dX6_cost_9 : decode cX6_cost 9 = .ok (.ifCond .eq 11, 3) := by decide +kernel
theorem dX6_cost_12 : decode cX6_cost 12 = .ok (.iload_n 3, 1) := by decide +kernel
theorem dX6_cost_13 : decode cX6_cost 13 = .ok (.iconst 1, 1) := by decide +kernel
theorem dX6_cost_14 : decode cX6_cost 14 = .ok (.if_icmp .eq 6, 3) := by decide +kernel
theorem dX6_cost_17 : decode cX6_cost 17 = .ok (.ldc 58, 2) := by decide +kernel
theorem dX6_cost_19 : decode cX6_cost 19 = .ok (.ireturn, 1) := by decide +kernel
theorem dX6_cost_20 : decode cX6_cost 20 = .ok (.aload_n 0, 1) := by decide +kernel
theorem dX6_cost_21 : decode cX6_cost 21 = .ok (.getfield 48, 3) := by decide +kernel
theorem dX6_cost_24 : decode cX6_cost 24 = .ok (.aload_n 0, 1) := by decide +kernel
theorem dX6_cost_25 : decode cX6_cost 25 = .ok (.getfield 10, 3) := by decide +kernel
theorem dX6_cost_28 : decode cX6_cost 28 = .ok (.iload_n 1, 1) := by decide +kernel
theorem dX6_cost_29 : decode cX6_cost 29 = .ok (.iload_n 2, 1) := by decide +kernel
theorem dX6_cost_30 : decode cX6_cost 30 = .ok (.iload_n 3, 1) := by decide +kernel
theorem dX6_cost_31 : decode cX6_cost 31 = .ok (.invokevirtual 214, 3) := by decide +kernel
theorem dX6_cost_34 : decode cX6_cost 34 = .ok (.ireturn, 1) := by decide +kernel
theorem dX6_why_0 : decode cX6_why 0 = .ok (.aload_n 0, 1) := by decide +kernel
theorem dX6_why_1 : decode cX6_why 1 = .ok (.iload_n 1, 1) := by decide +kernel
theorem dX6_why_2 : decode cX6_why 2 = .ok (.iload_n 2, 1) := by decide +kernel
theorem dX6_why_3 : decode cX6_why 3 = .ok (.iload_n 3, 1) := by decide +kernel
theorem dX6_why_4 : decode cX6_why 4 = .ok (.iload 4, 2) := by decide +kernel
theorem dX6_why_6 : decode cX6_why 6 = .ok (.invokevirtual 218, 3) := by decide +kernel
theorem dX6_why_9 : decode cX6_why 9 = .ok (.ifCond .ne 6, 3) := by decide +kernel
theorem dX6_why_12 : decode cX6_why 12 = .ok (.ldc 58, 2) := by decide +kernel
theorem dX6_why_14 : decode cX6_why 14 = .ok (.ireturn, 1) := by decide +kernel
theorem dX6_why_15 : decode cX6_why 15 = .ok (.aload_n 0, 1) := by decide +kernel
theorem dX6_why_16 : decode cX6_why 16 = .ok (.getfield 48, 3) := by decide +kernel
theorem dX6_why_19 : decode cX6_why 19 = .ok (.aload_n 0, 1) := by decide +kernel
theorem dX6_why_20 : decode cX6_why 20 = .ok (.getfield 10, 3) := by decide +kernel
theorem dX6_why_23 : decode cX6_why 23 = .ok (.iload_n 1, 1) := by decide +kernel
theorem dX6_why_24 : decode cX6_why 24 = .ok (.iload_n 2, 1) := by decide +kernel
theorem dX6_why_25 : decode cX6_why 25 = .ok (.invokevirtual 222, 3) := by decide +kernel
theorem dX6_why_28 : decode cX6_why 28 = .ok (.aload_n 0, 1) := by decide +kernel
theorem dX6_why_29 : decode cX6_why 29 = .ok (.getfield 48, 3) := by decide +kernel
theorem dX6_why_32 : decode cX6_why 32 = .ok (.iload_n 3, 1) := by decide +kernel
theorem dX6_why_33 : decode cX6_why 33 = .ok (.iload 4, 2) := by decide +kernel
theorem dX6_why_35 : decode cX6_why 35 = .ok (.invokevirtual 226, 3) := by decide +kernel
theorem dX6_why_38 : decode cX6_why 38 = .ok (.ireturn, 1) := by decide +kernel
theorem dX6_partner_0 : decode cX6_partner 0 = .ok (.aload_n 0, 1) := by decide +kernel
theorem dX6_partner_1 : decode cX6_partner 1 = .ok (.iload_n 1, 1) := by decide +kernel
theorem dX6_partner_2 : decode cX6_partner 2 = .ok (.iload_n 2, 1) := by decide +kernel
theorem dX6_partner_3 : decode cX6_partner 3 = .ok (.iload_n 3, 1) := by decide +kernel
theorem dX6_partner_4 : decode cX6_partner 4 = .ok (.iload 4, 2) := by decide +kernel
theorem dX6_partner_6 : decode cX6_partner 6 = .ok (.invokevirtual 218, 3) := by decide +kernel
theorem dX6_partner_9 : decode cX6_partner 9 = .ok (.ifCond .ne 6, 3) := by decide +kernel
theorem dX6_partner_12 : decode cX6_partner 12 = .ok (.ldc 58, 2) := by decide +kernel
theorem dX6_partner_14 : decode cX6_partner 14 = .ok (.ireturn, 1) := by decide +kernel
theorem dX6_partner_15 : decode cX6_partner 15 = .ok (.aload_n 0, 1) := by decide +kernel
theorem dX6_partner_16 : decode cX6_partner 16 = .ok (.getfield 48, 3) := by decide +kernel
theorem dX6_partner_19 : decode cX6_partner 19 = .ok (.aload_n 0, 1) := by decide +kernel
theorem dX6_partner_20 : decode cX6_partner 20 = .ok (.getfield 10, 3) := by decide +kernel
theorem dX6_partner_23 : decode cX6_partner 23 = .ok (.iload_n 1, 1) := by decide +kernel
theorem dX6_partner_24 : decode cX6_partner 24 = .ok (.iload_n 2, 1) := by decide +kernel
theorem dX6_partner_25 : decode cX6_partner 25 = .ok (.invokevirtual 222, 3) := by decide +kernel
theorem dX6_partner_28 : decode cX6_partner 28 = .ok (.aload_n 0, 1) := by decide +kernel
theorem dX6_partner_29 : decode cX6_partner 29 = .ok (.getfield 48, 3) := by decide +kernel
theorem dX6_partner_32 : decode cX6_partner 32 = .ok (.iload_n 3, 1) := by decide +kernel
theorem dX6_partner_33 : decode cX6_partner 33 = .ok (.iload 4, 2) := by decide +kernel
theorem dX6_partner_35 : decode cX6_partner 35 = .ok (.invokevirtual 229, 3) := by decide +kernel
theorem dX6_partner_38 : decode cX6_partner 38 = .ok (.ireturn, 1) := by decide +kernel
theorem dX6_matched_0 : decode cX6_matched 0 = .ok (.iload_n 1, 1) := by decide +kernel
theorem dX6_matched_1 : decode cX6_matched 1 = .ok (.iload_n 2, 1) := by decide +kernel
theorem dX6_matched_2 : decode cX6_matched 2 = .ok (.invokestatic 210, 3) := by decide +kernel
theorem dX6_matched_5 : decode cX6_matched 5 = .ok (.ifCond .eq 13, 3) := by decide +kernel
theorem dX6_matched_8 : decode cX6_matched 8 = .ok (.iload_n 3, 1) := by decide +kernel
theorem dX6_matched_9 : decode cX6_matched 9 = .ok (.iconst 1, 1) := by decide +kernel
theorem dX6_matched_10 : decode cX6_matched 10 = .ok (.if_icmp .lt 8, 3) := by decide +kernel
theorem dX6_matched_13 : decode cX6_matched 13 = .ok (.iload_n 3, 1) := by decide +kernel
theorem dX6_matched_14 : decode cX6_matched 14 = .ok (.iconst 5, 1) := by decide +kernel
theorem dX6_matched_15 : decode cX6_matched 15 = .ok (.if_icmp .le 6, 3) := by decide +kernel
theorem dX6_matched_18 : decode cX6_matched 18 = .ok (.ldc 58, 2) := by decide +kernel
theorem dX6_matched_20 : decode cX6_matched 20 = .ok (.ireturn, 1) := by decide +kernel
theorem dX6_matched_21 : decode cX6_matched 21 = .ok (.aload_n 0, 1) := by decide +kernel
theorem dX6_matched_22 : decode cX6_matched 22 = .ok (.getfield 48, 3) := by decide +kernel
theorem dX6_matched_25 : decode cX6_matched 25 = .ok (.aload_n 0, 1) := by decide +kernel
theorem dX6_matched_26 : decode cX6_matched 26 = .ok (.getfield 10, 3) := by decide +kernel
theorem dX6_matched_29 : decode cX6_matched 29 = .ok (.iload_n 1, 1) := by decide +kernel
theorem dX6_matched_30 : decode cX6_matched 30 = .ok (.iload_n 2, 1) := by decide +kernel
theorem dX6_matched_31 : decode cX6_matched 31 = .ok (.invokevirtual 222, 3) := by decide +kernel
theorem dX6_matched_34 : decode cX6_matched 34 = .ok (.iload_n 3, 1) := by decide +kernel
theorem dX6_matched_35 : decode cX6_matched 35 = .ok (.tableswitch 49 1 4 #[29, 29, 39, 39], 29) := by decide +kernel
theorem dX6_matched_64 : decode cX6_matched 64 = .ok (.aload_n 0, 1) := by decide +kernel
theorem dX6_matched_65 : decode cX6_matched 65 = .ok (.getfield 48, 3) := by decide +kernel
theorem dX6_matched_68 : decode cX6_matched 68 = .ok (.iconst 0, 1) := by decide +kernel
theorem dX6_matched_69 : decode cX6_matched 69 = .ok (.iload_n 3, 1) := by decide +kernel
theorem dX6_matched_70 : decode cX6_matched 70 = .ok (.invokevirtual 232, 3) := by decide +kernel
theorem dX6_matched_73 : decode cX6_matched 73 = .ok (.ireturn, 1) := by decide +kernel
theorem dX6_matched_74 : decode cX6_matched 74 = .ok (.aload_n 0, 1) := by decide +kernel
theorem dX6_matched_75 : decode cX6_matched 75 = .ok (.getfield 48, 3) := by decide +kernel
theorem dX6_matched_78 : decode cX6_matched 78 = .ok (.iconst 1, 1) := by decide +kernel
theorem dX6_matched_79 : decode cX6_matched 79 = .ok (.iload_n 3, 1) := by decide +kernel
theorem dX6_matched_80 : decode cX6_matched 80 = .ok (.invokevirtual 232, 3) := by decide +kernel
theorem dX6_matched_83 : decode cX6_matched 83 = .ok (.ireturn, 1) := by decide +kernel
theorem dX6_matched_84 : decode cX6_matched 84 = .ok (.aload_n 0, 1) := by decide +kernel
theorem dX6_matched_85 : decode cX6_matched 85 = .ok (.getfield 48, 3) := by decide +kernel
theorem dX6_matched_88 : decode cX6_matched 88 = .ok (.invokevirtual 235, 3) := by decide +kernel
theorem dX6_matched_91 : decode cX6_matched 91 = .ok (.ireturn, 1) := by decide +kernel
theorem dX6_fault_0 : decode cX6_fault 0 = .ok (.iload_n 1, 1) := by decide +kernel
theorem dX6_fault_1 : decode cX6_fault 1 = .ok (.iload_n 2, 1) := by decide +kernel
theorem dX6_fault_2 : decode cX6_fault 2 = .ok (.invokestatic 210, 3) := by decide +kernel
theorem dX6_fault_5 : decode cX6_fault 5 = .ok (.ifCond .eq 18, 3) := by decide +kernel
theorem dX6_fault_8 : decode cX6_fault 8 = .ok (.iload_n 3, 1) := by decide +kernel
theorem dX6_fault_9 : decode cX6_fault 9 = .ok (.ifCond .lt 14, 3) := by decide +kernel
theorem dX6_fault_12 : decode cX6_fault 12 = .ok (.iload 4, 2) := by decide +kernel
theorem dX6_fault_14 : decode cX6_fault 14 = .ok (.ifCond .lt 9, 3) := by decide +kernel
theorem dX6_fault_17 : decode cX6_fault 17 = .ok (.iload 4, 2) := by decide +kernel
theorem dX6_fault_19 : decode cX6_fault 19 = .ok (.iconst 2, 1) := by decide +kernel
theorem dX6_fault_20 : decode cX6_fault 20 = .ok (.if_icmp .le 6, 3) := by decide +kernel
theorem dX6_fault_23 : decode cX6_fault 23 = .ok (.ldc 58, 2) := by decide +kernel
theorem dX6_fault_25 : decode cX6_fault 25 = .ok (.ireturn, 1) := by decide +kernel
theorem dX6_fault_26 : decode cX6_fault 26 = .ok (.aload_n 0, 1) := by decide +kernel
theorem dX6_fault_27 : decode cX6_fault 27 = .ok (.getfield 48, 3) := by decide +kernel
theorem dX6_fault_30 : decode cX6_fault 30 = .ok (.aload_n 0, 1) := by decide +kernel
theorem dX6_fault_31 : decode cX6_fault 31 = .ok (.getfield 10, 3) := by decide +kernel
theorem dX6_fault_34 : decode cX6_fault 34 = .ok (.iload_n 1, 1) := by decide +kernel
theorem dX6_fault_35 : decode cX6_fault 35 = .ok (.iload_n 2, 1) := by decide +kernel
theorem dX6_fault_36 : decode cX6_fault 36 = .ok (.invokevirtual 222, 3) := by decide +kernel
theorem dX6_fault_39 : decode cX6_fault 39 = .ok (.aload_n 0, 1) := by decide +kernel
theorem dX6_fault_40 : decode cX6_fault 40 = .ok (.getfield 48, 3) := by decide +kernel
theorem dX6_fault_43 : decode cX6_fault 43 = .ok (.iload_n 3, 1) := by decide +kernel
theorem dX6_fault_44 : decode cX6_fault 44 = .ok (.invokevirtual 238, 3) := by decide +kernel
theorem dX6_fault_47 : decode cX6_fault 47 = .ok (.istore 5, 2) := by decide +kernel
theorem dX6_fault_49 : decode cX6_fault 49 = .ok (.iload 5, 2) := by decide +kernel
theorem dX6_fault_51 : decode cX6_fault 51 = .ok (.ldc 191, 2) := by decide +kernel
theorem dX6_fault_53 : decode cX6_fault 53 = .ok (.if_icmp .ne 6, 3) := by decide +kernel
theorem dX6_fault_56 : decode cX6_fault 56 = .ok (.ldc 191, 2) := by decide +kernel
theorem dX6_fault_58 : decode cX6_fault 58 = .ok (.ireturn, 1) := by decide +kernel
theorem dX6_fault_59 : decode cX6_fault 59 = .ok (.iload 4, 2) := by decide +kernel
theorem dX6_fault_61 : decode cX6_fault 61 = .ok (.lookupswitch 40 #[(0, 27), (1, 30)], 27) := by decide +kernel
theorem dX6_fault_88 : decode cX6_fault 88 = .ok (.iload 5, 2) := by decide +kernel
theorem dX6_fault_90 : decode cX6_fault 90 = .ok (.ireturn, 1) := by decide +kernel
theorem dX6_fault_91 : decode cX6_fault 91 = .ok (.aload_n 0, 1) := by decide +kernel
theorem dX6_fault_92 : decode cX6_fault 92 = .ok (.getfield 48, 3) := by decide +kernel
theorem dX6_fault_95 : decode cX6_fault 95 = .ok (.iload 5, 2) := by decide +kernel
theorem dX6_fault_97 : decode cX6_fault 97 = .ok (.invokevirtual 241, 3) := by decide +kernel
theorem dX6_fault_100 : decode cX6_fault 100 = .ok (.ireturn, 1) := by decide +kernel
theorem dX6_fault_101 : decode cX6_fault 101 = .ok (.aload_n 0, 1) := by decide +kernel
theorem dX6_fault_102 : decode cX6_fault 102 = .ok (.getfield 48, 3) := by decide +kernel
theorem dX6_fault_105 : decode cX6_fault 105 = .ok (.iload 5, 2) := by decide +kernel
theorem dX6_fault_107 : decode cX6_fault 107 = .ok (.invokevirtual 244, 3) := by decide +kernel
theorem dX6_fault_110 : decode cX6_fault 110 = .ok (.ireturn, 1) := by decide +kernel
theorem dX6_sumOfThrows_0 : decode cX6_sumOfThrows 0 = .ok (.iload_n 1, 1) := by decide +kernel
theorem dX6_sumOfThrows_1 : decode cX6_sumOfThrows 1 = .ok (.iload_n 2, 1) := by decide +kernel
theorem dX6_sumOfThrows_2 : decode cX6_sumOfThrows 2 = .ok (.invokestatic 210, 3) := by decide +kernel
theorem dX6_sumOfThrows_5 : decode cX6_sumOfThrows 5 = .ok (.ifCond .eq 12, 3) := by decide +kernel
theorem dX6_sumOfThrows_8 : decode cX6_sumOfThrows 8 = .ok (.iload_n 3, 1) := by decide +kernel
theorem dX6_sumOfThrows_9 : decode cX6_sumOfThrows 9 = .ok (.ifCond .lt 8, 3) := by decide +kernel
theorem dX6_sumOfThrows_12 : decode cX6_sumOfThrows 12 = .ok (.iload_n 3, 1) := by decide +kernel
theorem dX6_sumOfThrows_13 : decode cX6_sumOfThrows 13 = .ok (.iconst 2, 1) := by decide +kernel
theorem dX6_sumOfThrows_14 : decode cX6_sumOfThrows 14 = .ok (.if_icmp .le 6, 3) := by decide +kernel
theorem dX6_sumOfThrows_17 : decode cX6_sumOfThrows 17 = .ok (.ldc 58, 2) := by decide +kernel
theorem dX6_sumOfThrows_19 : decode cX6_sumOfThrows 19 = .ok (.ireturn, 1) := by decide +kernel
theorem dX6_sumOfThrows_20 : decode cX6_sumOfThrows 20 = .ok (.aload_n 0, 1) := by decide +kernel
theorem dX6_sumOfThrows_21 : decode cX6_sumOfThrows 21 = .ok (.getfield 48, 3) := by decide +kernel
theorem dX6_sumOfThrows_24 : decode cX6_sumOfThrows 24 = .ok (.aload_n 0, 1) := by decide +kernel
theorem dX6_sumOfThrows_25 : decode cX6_sumOfThrows 25 = .ok (.getfield 10, 3) := by decide +kernel
theorem dX6_sumOfThrows_28 : decode cX6_sumOfThrows 28 = .ok (.iload_n 1, 1) := by decide +kernel
theorem dX6_sumOfThrows_29 : decode cX6_sumOfThrows 29 = .ok (.iload_n 2, 1) := by decide +kernel
theorem dX6_sumOfThrows_30 : decode cX6_sumOfThrows 30 = .ok (.invokevirtual 222, 3) := by decide +kernel
theorem dX6_sumOfThrows_33 : decode cX6_sumOfThrows 33 = .ok (.aload_n 0, 1) := by decide +kernel
theorem dX6_sumOfThrows_34 : decode cX6_sumOfThrows 34 = .ok (.getfield 48, 3) := by decide +kernel
theorem dX6_sumOfThrows_37 : decode cX6_sumOfThrows 37 = .ok (.iconst (-1), 1) := by decide +kernel
theorem dX6_sumOfThrows_38 : decode cX6_sumOfThrows 38 = .ok (.invokevirtual 247, 3) := by decide +kernel
theorem dX6_sumOfThrows_41 : decode cX6_sumOfThrows 41 = .ok (.ldc 191, 2) := by decide +kernel
theorem dX6_sumOfThrows_43 : decode cX6_sumOfThrows 43 = .ok (.if_icmp .ne 6, 3) := by decide +kernel
theorem dX6_sumOfThrows_46 : decode cX6_sumOfThrows 46 = .ok (.ldc 191, 2) := by decide +kernel
theorem dX6_sumOfThrows_48 : decode cX6_sumOfThrows 48 = .ok (.ireturn, 1) := by decide +kernel
theorem dX6_sumOfThrows_49 : decode cX6_sumOfThrows 49 = .ok (.iload_n 3, 1) := by decide +kernel
theorem dX6_sumOfThrows_50 : decode cX6_sumOfThrows 50 = .ok (.lookupswitch 44 #[(0, 26), (1, 35)], 26) := by decide +kernel
theorem dX6_sumOfThrows_76 : decode cX6_sumOfThrows 76 = .ok (.aload_n 0, 1) := by decide +kernel
theorem dX6_sumOfThrows_77 : decode cX6_sumOfThrows 77 = .ok (.getfield 48, 3) := by decide +kernel
theorem dX6_sumOfThrows_80 : decode cX6_sumOfThrows 80 = .ok (.iconst 0, 1) := by decide +kernel
theorem dX6_sumOfThrows_81 : decode cX6_sumOfThrows 81 = .ok (.invokevirtual 250, 3) := by decide +kernel
theorem dX6_sumOfThrows_84 : decode cX6_sumOfThrows 84 = .ok (.ireturn, 1) := by decide +kernel
theorem dX6_sumOfThrows_85 : decode cX6_sumOfThrows 85 = .ok (.aload_n 0, 1) := by decide +kernel
theorem dX6_sumOfThrows_86 : decode cX6_sumOfThrows 86 = .ok (.getfield 48, 3) := by decide +kernel
theorem dX6_sumOfThrows_89 : decode cX6_sumOfThrows 89 = .ok (.iconst 1, 1) := by decide +kernel
theorem dX6_sumOfThrows_90 : decode cX6_sumOfThrows 90 = .ok (.invokevirtual 250, 3) := by decide +kernel
theorem dX6_sumOfThrows_93 : decode cX6_sumOfThrows 93 = .ok (.ireturn, 1) := by decide +kernel
theorem dX6_sumOfThrows_94 : decode cX6_sumOfThrows 94 = .ok (.aload_n 0, 1) := by decide +kernel
theorem dX6_sumOfThrows_95 : decode cX6_sumOfThrows 95 = .ok (.getfield 48, 3) := by decide +kernel
theorem dX6_sumOfThrows_98 : decode cX6_sumOfThrows 98 = .ok (.invokevirtual 254, 3) := by decide +kernel
theorem dX6_sumOfThrows_101 : decode cX6_sumOfThrows 101 = .ok (.ireturn, 1) := by decide +kernel
theorem dX6_isHole_0 : decode cX6_isHole 0 = .ok (.iload_n 0, 1) := by decide +kernel
theorem dX6_isHole_1 : decode cX6_isHole 1 = .ok (.ifCond .lt 12, 3) := by decide +kernel
theorem dX6_isHole_4 : decode cX6_isHole 4 = .ok (.iload_n 0, 1) := by decide +kernel
theorem dX6_isHole_5 : decode cX6_isHole 5 = .ok (.iconst 4, 1) := by decide +kernel
theorem dX6_isHole_6 : decode cX6_isHole 6 = .ok (.if_icmp .ge 7, 3) := by decide +kernel
theorem dX6_isHole_9 : decode cX6_isHole 9 = .ok (.iconst 1, 1) := by decide +kernel
theorem dX6_isHole_10 : decode cX6_isHole 10 = .ok (.goto 4, 3) := by decide +kernel
theorem dX6_isHole_13 : decode cX6_isHole 13 = .ok (.iconst 0, 1) := by decide +kernel
theorem dX6_isHole_14 : decode cX6_isHole 14 = .ok (.ireturn, 1) := by decide +kernel
theorem dX6_isMark_0 : decode cX6_isMark 0 = .ok (.iload_n 0, 1) := by decide +kernel
theorem dX6_isMark_1 : decode cX6_isMark 1 = .ok (.ifCond .lt 13, 3) := by decide +kernel
theorem dX6_isMark_4 : decode cX6_isMark 4 = .ok (.iload_n 0, 1) := by decide +kernel
theorem dX6_isMark_5 : decode cX6_isMark 5 = .ok (.bipush 26, 2) := by decide +kernel
theorem dX6_isMark_7 : decode cX6_isMark 7 = .ok (.if_icmp .ge 7, 3) := by decide +kernel
theorem dX6_isMark_10 : decode cX6_isMark 10 = .ok (.iconst 1, 1) := by decide +kernel
theorem dX6_isMark_11 : decode cX6_isMark 11 = .ok (.goto 4, 3) := by decide +kernel
theorem dX6_isMark_14 : decode cX6_isMark 14 = .ok (.iconst 0, 1) := by decide +kernel
theorem dX6_isMark_15 : decode cX6_isMark 15 = .ok (.ireturn, 1) := by decide +kernel
theorem dX6_isThickness_0 : decode cX6_isThickness 0 = .ok (.iload_n 0, 1) := by decide +kernel
theorem dX6_isThickness_1 : decode cX6_isThickness 1 = .ok (.iconst 1, 1) := by decide +kernel
theorem dX6_isThickness_2 : decode cX6_isThickness 2 = .ok (.if_icmp .lt 13, 3) := by decide +kernel
theorem dX6_isThickness_5 : decode cX6_isThickness 5 = .ok (.iload_n 0, 1) := by decide +kernel
theorem dX6_isThickness_6 : decode cX6_isThickness 6 = .ok (.bipush 99, 2) := by decide +kernel
theorem dX6_isThickness_8 : decode cX6_isThickness 8 = .ok (.if_icmp .gt 7, 3) := by decide +kernel
theorem dX6_isThickness_11 : decode cX6_isThickness 11 = .ok (.iconst 1, 1) := by decide +kernel
theorem dX6_isThickness_12 : decode cX6_isThickness 12 = .ok (.goto 4, 3) := by decide +kernel
theorem dX6_isThickness_15 : decode cX6_isThickness 15 = .ok (.iconst 0, 1) := by decide +kernel
theorem dX6_isThickness_16 : decode cX6_isThickness 16 = .ok (.ireturn, 1) := by decide +kernel
theorem dX6_arePair_0 : decode cX6_arePair 0 = .ok (.iload_n 0, 1) := by decide +kernel
theorem dX6_arePair_1 : decode cX6_arePair 1 = .ok (.invokestatic 89, 3) := by decide +kernel
theorem dX6_arePair_4 : decode cX6_arePair 4 = .ok (.ifCond .eq 19, 3) := by decide +kernel
theorem dX6_arePair_7 : decode cX6_arePair 7 = .ok (.iload_n 1, 1) := by decide +kernel
theorem dX6_arePair_8 : decode cX6_arePair 8 = .ok (.invokestatic 89, 3) := by decide +kernel
theorem dX6_arePair_11 : decode cX6_arePair 11 = .ok (.ifCond .eq 12, 3) := by decide +kernel
theorem dX6_arePair_14 : decode cX6_arePair 14 = .ok (.iload_n 0, 1) := by decide +kernel
theorem dX6_arePair_15 : decode cX6_arePair 15 = .ok (.iload_n 1, 1) := by decide +kernel
theorem dX6_arePair_16 : decode cX6_arePair 16 = .ok (.if_icmp .eq 7, 3) := by decide +kernel
theorem dX6_arePair_19 : decode cX6_arePair 19 = .ok (.iconst 1, 1) := by decide +kernel
theorem dX6_arePair_20 : decode cX6_arePair 20 = .ok (.goto 4, 3) := by decide +kernel
theorem dX6_arePair_23 : decode cX6_arePair 23 = .ok (.iconst 0, 1) := by decide +kernel
theorem dX6_arePair_24 : decode cX6_arePair 24 = .ok (.ireturn, 1) := by decide +kernel
theorem dX6_isBedOfPair_0 : decode cX6_isBedOfPair 0 = .ok (.iload_n 1, 1) := by decide +kernel
theorem dX6_isBedOfPair_1 : decode cX6_isBedOfPair 1 = .ok (.iload_n 2, 1) := by decide +kernel
theorem dX6_isBedOfPair_2 : decode cX6_isBedOfPair 2 = .ok (.invokestatic 210, 3) := by decide +kernel
theorem dX6_isBedOfPair_5 : decode cX6_isBedOfPair 5 = .ok (.ifCond .eq 12, 3) := by decide +kernel
theorem dX6_isBedOfPair_8 : decode cX6_isBedOfPair 8 = .ok (.iload_n 3, 1) := by decide +kernel
theorem dX6_isBedOfPair_9 : decode cX6_isBedOfPair 9 = .ok (.ifCond .eq 10, 3) := by decide +kernel
theorem dX6_isBedOfPair_12 : decode cX6_isBedOfPair 12 = .ok (.iload_n 3, 1) := by decide +kernel
theorem dX6_isBedOfPair_13 : decode cX6_isBedOfPair 13 = .ok (.iconst 1, 1) := by decide +kernel
theorem dX6_isBedOfPair_14 : decode cX6_isBedOfPair 14 = .ok (.if_icmp .eq 5, 3) := by decide +kernel
theorem dX6_isBedOfPair_17 : decode cX6_isBedOfPair 17 = .ok (.iconst 0, 1) := by decide +kernel
theorem dX6_isBedOfPair_18 : decode cX6_isBedOfPair 18 = .ok (.ireturn, 1) := by decide +kernel
theorem dX6_isBedOfPair_19 : decode cX6_isBedOfPair 19 = .ok (.aload_n 0, 1) := by decide +kernel
theorem dX6_isBedOfPair_20 : decode cX6_isBedOfPair 20 = .ok (.getfield 10, 3) := by decide +kernel
theorem dX6_isBedOfPair_23 : decode cX6_isBedOfPair 23 = .ok (.iload_n 3, 1) := by decide +kernel
theorem dX6_isBedOfPair_24 : decode cX6_isBedOfPair 24 = .ok (.ifCond .ne 7, 3) := by decide +kernel
theorem dX6_isBedOfPair_27 : decode cX6_isBedOfPair 27 = .ok (.iload_n 1, 1) := by decide +kernel
theorem dX6_isBedOfPair_28 : decode cX6_isBedOfPair 28 = .ok (.goto 4, 3) := by decide +kernel
theorem dX6_isBedOfPair_31 : decode cX6_isBedOfPair 31 = .ok (.iload_n 2, 1) := by decide +kernel
theorem dX6_isBedOfPair_32 : decode cX6_isBedOfPair 32 = .ok (.invokevirtual 92, 3) := by decide +kernel
theorem dX6_isBedOfPair_35 : decode cX6_isBedOfPair 35 = .ok (.iload 4, 2) := by decide +kernel
theorem dX6_isBedOfPair_37 : decode cX6_isBedOfPair 37 = .ok (.invokevirtual 118, 3) := by decide +kernel
theorem dX6_isBedOfPair_40 : decode cX6_isBedOfPair 40 = .ok (.ireturn, 1) := by decide +kernel
theorem dJ6_bitCount_0f7a4_0 : decode cJ6_bitCount_0f7a4 0 = .ok (.iload_n 0, 1) := by decide +kernel
theorem dJ6_bitCount_0f7a4_1 : decode cJ6_bitCount_0f7a4 1 = .ok (.iload_n 0, 1) := by decide +kernel
theorem dJ6_bitCount_0f7a4_2 : decode cJ6_bitCount_0f7a4 2 = .ok (.iconst 1, 1) := by decide +kernel
theorem dJ6_bitCount_0f7a4_3 : decode cJ6_bitCount_0f7a4 3 = .ok (.iushr, 1) := by decide +kernel
theorem dJ6_bitCount_0f7a4_4 : decode cJ6_bitCount_0f7a4 4 = .ok (.ldc_w 265, 3) := by decide +kernel
theorem dJ6_bitCount_0f7a4_7 : decode cJ6_bitCount_0f7a4 7 = .ok (.iand, 1) := by decide +kernel
theorem dJ6_bitCount_0f7a4_8 : decode cJ6_bitCount_0f7a4 8 = .ok (.isub, 1) := by decide +kernel
theorem dJ6_bitCount_0f7a4_9 : decode cJ6_bitCount_0f7a4 9 = .ok (.istore_n 0, 1) := by decide +kernel
theorem dJ6_bitCount_0f7a4_10 : decode cJ6_bitCount_0f7a4 10 = .ok (.iload_n 0, 1) := by decide +kernel
theorem dJ6_bitCount_0f7a4_11 : decode cJ6_bitCount_0f7a4 11 = .ok (.ldc_w 266, 3) := by decide +kernel
theorem dJ6_bitCount_0f7a4_14 : decode cJ6_bitCount_0f7a4 14 = .ok (.iand, 1) := by decide +kernel
theorem dJ6_bitCount_0f7a4_15 : decode cJ6_bitCount_0f7a4 15 = .ok (.iload_n 0, 1) := by decide +kernel
theorem dJ6_bitCount_0f7a4_16 : decode cJ6_bitCount_0f7a4 16 = .ok (.iconst 2, 1) := by decide +kernel
theorem dJ6_bitCount_0f7a4_17 : decode cJ6_bitCount_0f7a4 17 = .ok (.iushr, 1) := by decide +kernel
theorem dJ6_bitCount_0f7a4_18 : decode cJ6_bitCount_0f7a4 18 = .ok (.ldc_w 266, 3) := by decide +kernel
theorem dJ6_bitCount_0f7a4_21 : decode cJ6_bitCount_0f7a4 21 = .ok (.iand, 1) := by decide +kernel
theorem dJ6_bitCount_0f7a4_22 : decode cJ6_bitCount_0f7a4 22 = .ok (.iadd, 1) := by decide +kernel
theorem dJ6_bitCount_0f7a4_23 : decode cJ6_bitCount_0f7a4 23 = .ok (.istore_n 0, 1) := by decide +kernel
theorem dJ6_bitCount_0f7a4_24 : decode cJ6_bitCount_0f7a4 24 = .ok (.iload_n 0, 1) := by decide +kernel
theorem dJ6_bitCount_0f7a4_25 : decode cJ6_bitCount_0f7a4 25 = .ok (.iload_n 0, 1) := by decide +kernel
theorem dJ6_bitCount_0f7a4_26 : decode cJ6_bitCount_0f7a4 26 = .ok (.iconst 4, 1) := by decide +kernel
theorem dJ6_bitCount_0f7a4_27 : decode cJ6_bitCount_0f7a4 27 = .ok (.iushr, 1) := by decide +kernel
theorem dJ6_bitCount_0f7a4_28 : decode cJ6_bitCount_0f7a4 28 = .ok (.iadd, 1) := by decide +kernel
theorem dJ6_bitCount_0f7a4_29 : decode cJ6_bitCount_0f7a4 29 = .ok (.ldc_w 267, 3) := by decide +kernel
theorem dJ6_bitCount_0f7a4_32 : decode cJ6_bitCount_0f7a4 32 = .ok (.iand, 1) := by decide +kernel
theorem dJ6_bitCount_0f7a4_33 : decode cJ6_bitCount_0f7a4 33 = .ok (.istore_n 0, 1) := by decide +kernel
theorem dJ6_bitCount_0f7a4_34 : decode cJ6_bitCount_0f7a4 34 = .ok (.iload_n 0, 1) := by decide +kernel
theorem dJ6_bitCount_0f7a4_35 : decode cJ6_bitCount_0f7a4 35 = .ok (.iload_n 0, 1) := by decide +kernel
theorem dJ6_bitCount_0f7a4_36 : decode cJ6_bitCount_0f7a4 36 = .ok (.bipush 8, 2) := by decide +kernel
theorem dJ6_bitCount_0f7a4_38 : decode cJ6_bitCount_0f7a4 38 = .ok (.iushr, 1) := by decide +kernel
theorem dJ6_bitCount_0f7a4_39 : decode cJ6_bitCount_0f7a4 39 = .ok (.iadd, 1) := by decide +kernel
theorem dJ6_bitCount_0f7a4_40 : decode cJ6_bitCount_0f7a4 40 = .ok (.istore_n 0, 1) := by decide +kernel
theorem dJ6_bitCount_0f7a4_41 : decode cJ6_bitCount_0f7a4 41 = .ok (.iload_n 0, 1) := by decide +kernel
theorem dJ6_bitCount_0f7a4_42 : decode cJ6_bitCount_0f7a4 42 = .ok (.iload_n 0, 1) := by decide +kernel
theorem dJ6_bitCount_0f7a4_43 : decode cJ6_bitCount_0f7a4 43 = .ok (.bipush 16, 2) := by decide +kernel
theorem dJ6_bitCount_0f7a4_45 : decode cJ6_bitCount_0f7a4 45 = .ok (.iushr, 1) := by decide +kernel
theorem dJ6_bitCount_0f7a4_46 : decode cJ6_bitCount_0f7a4 46 = .ok (.iadd, 1) := by decide +kernel
theorem dJ6_bitCount_0f7a4_47 : decode cJ6_bitCount_0f7a4 47 = .ok (.istore_n 0, 1) := by decide +kernel
theorem dJ6_bitCount_0f7a4_48 : decode cJ6_bitCount_0f7a4 48 = .ok (.iload_n 0, 1) := by decide +kernel
theorem dJ6_bitCount_0f7a4_49 : decode cJ6_bitCount_0f7a4 49 = .ok (.bipush 63, 2) := by decide +kernel
theorem dJ6_bitCount_0f7a4_51 : decode cJ6_bitCount_0f7a4 51 = .ok (.iand, 1) := by decide +kernel
theorem dJ6_bitCount_0f7a4_52 : decode cJ6_bitCount_0f7a4 52 = .ok (.ireturn, 1) := by decide +kernel
theorem dJ9_abs_0f7a4_0 : decode cJ9_abs_0f7a4 0 = .ok (.iload_n 0, 1) := by decide +kernel
theorem dJ9_abs_0f7a4_1 : decode cJ9_abs_0f7a4 1 = .ok (.ifCond .ge 8, 3) := by decide +kernel
theorem dJ9_abs_0f7a4_4 : decode cJ9_abs_0f7a4 4 = .ok (.iload_n 0, 1) := by decide +kernel
theorem dJ9_abs_0f7a4_5 : decode cJ9_abs_0f7a4 5 = .ok (.ineg, 1) := by decide +kernel
theorem dJ9_abs_0f7a4_6 : decode cJ9_abs_0f7a4 6 = .ok (.goto 4, 3) := by decide +kernel
theorem dJ9_abs_0f7a4_9 : decode cJ9_abs_0f7a4 9 = .ok (.iload_n 0, 1) := by decide +kernel
theorem dJ9_abs_0f7a4_10 : decode cJ9_abs_0f7a4 10 = .ok (.ireturn, 1) := by decide +kernel
theorem dJ9_max_7cf53_0 : decode cJ9_max_7cf53 0 = .ok (.iload_n 0, 1) := by decide +kernel
theorem dJ9_max_7cf53_1 : decode cJ9_max_7cf53 1 = .ok (.iload_n 1, 1) := by decide +kernel
theorem dJ9_max_7cf53_2 : decode cJ9_max_7cf53 2 = .ok (.if_icmp .lt 7, 3) := by decide +kernel
theorem dJ9_max_7cf53_5 : decode cJ9_max_7cf53 5 = .ok (.iload_n 0, 1) := by decide +kernel
theorem dJ9_max_7cf53_6 : decode cJ9_max_7cf53 6 = .ok (.goto 4, 3) := by decide +kernel
theorem dJ9_max_7cf53_9 : decode cJ9_max_7cf53 9 = .ok (.iload_n 1, 1) := by decide +kernel
theorem dJ9_max_7cf53_10 : decode cJ9_max_7cf53 10 = .ok (.ireturn, 1) := by decide +kernel
theorem dJ9_min_7cf53_0 : decode cJ9_min_7cf53 0 = .ok (.iload_n 0, 1) := by decide +kernel
theorem dJ9_min_7cf53_1 : decode cJ9_min_7cf53 1 = .ok (.iload_n 1, 1) := by decide +kernel
theorem dJ9_min_7cf53_2 : decode cJ9_min_7cf53 2 = .ok (.if_icmp .gt 7, 3) := by decide +kernel
theorem dJ9_min_7cf53_5 : decode cJ9_min_7cf53 5 = .ok (.iload_n 0, 1) := by decide +kernel
theorem dJ9_min_7cf53_6 : decode cJ9_min_7cf53 6 = .ok (.goto 4, 3) := by decide +kernel
theorem dJ9_min_7cf53_9 : decode cJ9_min_7cf53 9 = .ok (.iload_n 1, 1) := by decide +kernel
theorem dJ9_min_7cf53_10 : decode cJ9_min_7cf53 10 = .ok (.ireturn, 1) := by decide +kernel
theorem dL_cell_0 : decode cL_cell 0 = .ok (.iload_n 1, 1) := by decide +kernel
theorem dL_cell_1 : decode cL_cell 1 = .ok (.aload_n 0, 1) := by decide +kernel
theorem dL_cell_2 : decode cL_cell 2 = .ok (.arraylength, 1) := by decide +kernel
theorem dL_cell_3 : decode cL_cell 3 = .ok (.if_icmp .ge 9, 3) := by decide +kernel
theorem dL_cell_6 : decode cL_cell 6 = .ok (.aload_n 0, 1) := by decide +kernel
theorem dL_cell_7 : decode cL_cell 7 = .ok (.iload_n 1, 1) := by decide +kernel
theorem dL_cell_8 : decode cL_cell 8 = .ok (.iaload, 1) := by decide +kernel
theorem dL_cell_9 : decode cL_cell 9 = .ok (.goto 9, 3) := by decide +kernel
theorem dL_cell_12 : decode cL_cell 12 = .ok (.ldc 7, 2) := by decide +kernel
theorem dL_cell_14 : decode cL_cell 14 = .ok (.iload_n 1, 1) := by decide +kernel
theorem dL_cell_15 : decode cL_cell 15 = .ok (.iconst 3, 1) := by decide +kernel
theorem dL_cell_16 : decode cL_cell 16 = .ok (.iadd, 1) := by decide +kernel
theorem dL_cell_17 : decode cL_cell 17 = .ok (.imul, 1) := by decide +kernel
theorem dL_cell_18 : decode cL_cell 18 = .ok (.ireturn, 1) := by decide +kernel
theorem dL_low_0 : decode cL_low 0 = .ok (.iload_n 0, 1) := by decide +kernel
theorem dL_low_1 : decode cL_low 1 = .ok (.ldc 8, 2) := by decide +kernel
theorem dL_low_3 : decode cL_low 3 = .ok (.iand, 1) := by decide +kernel
theorem dL_low_4 : decode cL_low 4 = .ok (.iload_n 1, 1) := by decide +kernel
theorem dL_low_5 : decode cL_low 5 = .ok (.irem, 1) := by decide +kernel
theorem dL_low_6 : decode cL_low 6 = .ok (.ireturn, 1) := by decide +kernel
theorem dL_length_0 : decode cL_length 0 = .ok (.iconst 0, 1) := by decide +kernel
theorem dL_length_1 : decode cL_length 1 = .ok (.istore_n 3, 1) := by decide +kernel
theorem dL_length_2 : decode cL_length 2 = .ok (.iconst 0, 1) := by decide +kernel
theorem dL_length_3 : decode cL_length 3 = .ok (.istore 4, 2) := by decide +kernel
theorem dL_length_5 : decode cL_length 5 = .ok (.iload 4, 2) := by decide +kernel
theorem dL_length_7 : decode cL_length 7 = .ok (.aload_n 0, 1) := by decide +kernel
theorem dL_length_8 : decode cL_length 8 = .ok (.bipush 10, 2) := by decide +kernel
theorem dL_length_10 : decode cL_length 10 = .ok (.iload_n 2, 1) := by decide +kernel
theorem dL_length_11 : decode cL_length 11 = .ok (.iadd, 1) := by decide +kernel
theorem dL_length_12 : decode cL_length 12 = .ok (.iaload, 1) := by decide +kernel
theorem dL_length_13 : decode cL_length 13 = .ok (.if_icmp .ge 25, 3) := by decide +kernel
theorem dL_length_16 : decode cL_length 16 = .ok (.iload_n 3, 1) := by decide +kernel
theorem dL_length_17 : decode cL_length 17 = .ok (.aload_n 1, 1) := by decide +kernel
theorem dL_length_18 : decode cL_length 18 = .ok (.bipush 12, 2) := by decide +kernel
theorem dL_length_20 : decode cL_length 20 = .ok (.iload_n 2, 1) := by decide +kernel
theorem dL_length_21 : decode cL_length 21 = .ok (.imul, 1) := by decide +kernel
theorem dL_length_22 : decode cL_length 22 = .ok (.iconst 2, 1) := by decide +kernel
theorem dL_length_23 : decode cL_length 23 = .ok (.iload 4, 2) := by decide +kernel
theorem dL_length_25 : decode cL_length 25 = .ok (.imul, 1) := by decide +kernel
theorem dL_length_26 : decode cL_length 26 = .ok (.iadd, 1) := by decide +kernel
theorem dL_length_27 : decode cL_length 27 = .ok (.iconst 1, 1) := by decide +kernel
theorem dL_length_28 : decode cL_length 28 = .ok (.iadd, 1) := by decide +kernel
theorem dL_length_29 : decode cL_length 29 = .ok (.iaload, 1) := by decide +kernel
theorem dL_length_30 : decode cL_length 30 = .ok (.iadd, 1) := by decide +kernel
theorem dL_length_31 : decode cL_length 31 = .ok (.istore_n 3, 1) := by decide +kernel
theorem dL_length_32 : decode cL_length 32 = .ok (.iinc 4 1, 3) := by decide +kernel
theorem dL_length_35 : decode cL_length 35 = .ok (.goto (-30), 3) := by decide +kernel
theorem dL_length_38 : decode cL_length 38 = .ok (.iload_n 3, 1) := by decide +kernel
theorem dL_length_39 : decode cL_length 39 = .ok (.ireturn, 1) := by decide +kernel
theorem dL_depth_0 : decode cL_depth 0 = .ok (.iconst 0, 1) := by decide +kernel
theorem dL_depth_1 : decode cL_depth 1 = .ok (.istore_n 3, 1) := by decide +kernel
theorem dL_depth_2 : decode cL_depth 2 = .ok (.iload_n 2, 1) := by decide +kernel
theorem dL_depth_3 : decode cL_depth 3 = .ok (.iconst 1, 1) := by decide +kernel
theorem dL_depth_4 : decode cL_depth 4 = .ok (.isub, 1) := by decide +kernel
theorem dL_depth_5 : decode cL_depth 5 = .ok (.istore 4, 2) := by decide +kernel
theorem dL_depth_7 : decode cL_depth 7 = .ok (.iload 4, 2) := by decide +kernel
theorem dL_depth_9 : decode cL_depth 9 = .ok (.ifCond .lt 25, 3) := by decide +kernel
theorem dL_depth_12 : decode cL_depth 12 = .ok (.iload_n 3, 1) := by decide +kernel
theorem dL_depth_13 : decode cL_depth 13 = .ok (.aload_n 0, 1) := by decide +kernel
theorem dL_depth_14 : decode cL_depth 14 = .ok (.bipush 12, 2) := by decide +kernel
theorem dL_depth_16 : decode cL_depth 16 = .ok (.iload_n 1, 1) := by decide +kernel
theorem dL_depth_17 : decode cL_depth 17 = .ok (.imul, 1) := by decide +kernel
theorem dL_depth_18 : decode cL_depth 18 = .ok (.iconst 2, 1) := by decide +kernel
theorem dL_depth_19 : decode cL_depth 19 = .ok (.iload 4, 2) := by decide +kernel
theorem dL_depth_21 : decode cL_depth 21 = .ok (.imul, 1) := by decide +kernel
theorem dL_depth_22 : decode cL_depth 22 = .ok (.iadd, 1) := by decide +kernel
theorem dL_depth_23 : decode cL_depth 23 = .ok (.iconst 1, 1) := by decide +kernel
theorem dL_depth_24 : decode cL_depth 24 = .ok (.iadd, 1) := by decide +kernel
theorem dL_depth_25 : decode cL_depth 25 = .ok (.iaload, 1) := by decide +kernel
theorem dL_depth_26 : decode cL_depth 26 = .ok (.iadd, 1) := by decide +kernel
theorem dL_depth_27 : decode cL_depth 27 = .ok (.istore_n 3, 1) := by decide +kernel
theorem dL_depth_28 : decode cL_depth 28 = .ok (.iinc 4 (-1), 3) := by decide +kernel
theorem dL_depth_31 : decode cL_depth 31 = .ok (.goto (-24), 3) := by decide +kernel
theorem dL_depth_34 : decode cL_depth 34 = .ok (.iload_n 3, 1) := by decide +kernel
theorem dL_depth_35 : decode cL_depth 35 = .ok (.ireturn, 1) := by decide +kernel
theorem dL_off_0 : decode cL_off 0 = .ok (.iload_n 0, 1) := by decide +kernel
theorem dL_off_1 : decode cL_off 1 = .ok (.iload_n 1, 1) := by decide +kernel
theorem dL_off_2 : decode cL_off 2 = .ok (.if_icmp .le 9, 3) := by decide +kernel
theorem dL_off_5 : decode cL_off 5 = .ok (.iload_n 0, 1) := by decide +kernel
theorem dL_off_6 : decode cL_off 6 = .ok (.iload_n 1, 1) := by decide +kernel
theorem dL_off_7 : decode cL_off 7 = .ok (.isub, 1) := by decide +kernel
theorem dL_off_8 : decode cL_off 8 = .ok (.goto 6, 3) := by decide +kernel
theorem dL_off_11 : decode cL_off 11 = .ok (.iload_n 1, 1) := by decide +kernel
theorem dL_off_12 : decode cL_off 12 = .ok (.iload_n 0, 1) := by decide +kernel
theorem dL_off_13 : decode cL_off 13 = .ok (.isub, 1) := by decide +kernel
theorem dL_off_14 : decode cL_off 14 = .ok (.ireturn, 1) := by decide +kernel
theorem dL_alone_0 : decode cL_alone 0 = .ok (.aload_n 0, 1) := by decide +kernel
theorem dL_alone_1 : decode cL_alone 1 = .ok (.iconst 0, 1) := by decide +kernel
theorem dL_alone_2 : decode cL_alone 2 = .ok (.iaload, 1) := by decide +kernel
theorem dL_alone_3 : decode cL_alone 3 = .ok (.aload_n 0, 1) := by decide +kernel
theorem dL_alone_4 : decode cL_alone 4 = .ok (.iconst 5, 1) := by decide +kernel
theorem dL_alone_5 : decode cL_alone 5 = .ok (.iaload, 1) := by decide +kernel
theorem dL_alone_6 : decode cL_alone 6 = .ok (.iload_n 1, 1) := by decide +kernel
theorem dL_alone_7 : decode cL_alone 7 = .ok (.ishr, 1) := by decide +kernel
theorem dL_alone_8 : decode cL_alone 8 = .ok (.iconst 1, 1) := by decide +kernel
theorem dL_alone_9 : decode cL_alone 9 = .ok (.iand, 1) := by decide +kernel
theorem dL_alone_10 : decode cL_alone 10 = .ok (.iconst 1, 1) := by decide +kernel
theorem dL_alone_11 : decode cL_alone 11 = .ok (.if_icmp .ne 7, 3) := by decide +kernel
theorem dL_alone_14 : decode cL_alone 14 = .ok (.iconst 3, 1) := by decide +kernel
theorem dL_alone_15 : decode cL_alone 15 = .ok (.goto 4, 3) := by decide +kernel
theorem dL_alone_18 : decode cL_alone 18 = .ok (.iconst 1, 1) := by decide +kernel
theorem dL_alone_19 : decode cL_alone 19 = .ok (.imul, 1) := by decide +kernel
theorem dL_alone_20 : decode cL_alone 20 = .ok (.ireturn, 1) := by decide +kernel
theorem dL_twin_0 : decode cL_twin 0 = .ok (.iconst (-1), 1) := by decide +kernel
theorem dL_twin_1 : decode cL_twin 1 = .ok (.istore 5, 2) := by decide +kernel
theorem dL_twin_3 : decode cL_twin 3 = .ok (.iload_n 3, 1) := by decide +kernel
theorem dL_twin_4 : decode cL_twin 4 = .ok (.aload_n 0, 1) := by decide +kernel
theorem dL_twin_5 : decode cL_twin 5 = .ok (.iconst 3, 1) := by decide +kernel
theorem dL_twin_6 : decode cL_twin 6 = .ok (.iaload, 1) := by decide +kernel
theorem dL_twin_7 : decode cL_twin 7 = .ok (.isub, 1) := by decide +kernel
theorem dL_twin_8 : decode cL_twin 8 = .ok (.istore 6, 2) := by decide +kernel
theorem dL_twin_10 : decode cL_twin 10 = .ok (.iload 6, 2) := by decide +kernel
theorem dL_twin_12 : decode cL_twin 12 = .ok (.iload_n 3, 1) := by decide +kernel
theorem dL_twin_13 : decode cL_twin 13 = .ok (.if_icmp .ge 39, 3) := by decide +kernel
theorem dL_twin_16 : decode cL_twin 16 = .ok (.iload 6, 2) := by decide +kernel
theorem dL_twin_18 : decode cL_twin 18 = .ok (.ifCond .lt 24, 3) := by decide +kernel
theorem dL_twin_21 : decode cL_twin 21 = .ok (.aload_n 1, 1) := by decide +kernel
theorem dL_twin_22 : decode cL_twin 22 = .ok (.bipush 12, 2) := by decide +kernel
theorem dL_twin_24 : decode cL_twin 24 = .ok (.iload_n 2, 1) := by decide +kernel
theorem dL_twin_25 : decode cL_twin 25 = .ok (.imul, 1) := by decide +kernel
theorem dL_twin_26 : decode cL_twin 26 = .ok (.iconst 2, 1) := by decide +kernel
theorem dL_twin_27 : decode cL_twin 27 = .ok (.iload 6, 2) := by decide +kernel
theorem dL_twin_29 : decode cL_twin 29 = .ok (.imul, 1) := by decide +kernel
theorem dL_twin_30 : decode cL_twin 30 = .ok (.iadd, 1) := by decide +kernel
theorem dL_twin_31 : decode cL_twin 31 = .ok (.iaload, 1) := by decide +kernel
theorem dL_twin_32 : decode cL_twin 32 = .ok (.iload 4, 2) := by decide +kernel
theorem dL_twin_34 : decode cL_twin 34 = .ok (.if_icmp .ne 8, 3) := by decide +kernel
theorem dL_twin_37 : decode cL_twin 37 = .ok (.iload 6, 2) := by decide +kernel
theorem dL_twin_39 : decode cL_twin 39 = .ok (.goto 5, 3) := by decide +kernel
theorem dL_twin_42 : decode cL_twin 42 = .ok (.iload 5, 2) := by decide +kernel
theorem dL_twin_44 : decode cL_twin 44 = .ok (.istore 5, 2) := by decide +kernel
theorem dL_twin_46 : decode cL_twin 46 = .ok (.iinc 6 1, 3) := by decide +kernel
theorem dL_twin_49 : decode cL_twin 49 = .ok (.goto (-39), 3) := by decide +kernel
theorem dL_twin_52 : decode cL_twin 52 = .ok (.iload 5, 2) := by decide +kernel
theorem dL_twin_54 : decode cL_twin 54 = .ok (.ireturn, 1) := by decide +kernel
theorem dL_added_0 : decode cL_added 0 = .ok (.iload_n 3, 1) := by decide +kernel
theorem dL_added_1 : decode cL_added 1 = .ok (.aload_n 0, 1) := by decide +kernel
theorem dL_added_2 : decode cL_added 2 = .ok (.bipush 10, 2) := by decide +kernel
theorem dL_added_4 : decode cL_added 4 = .ok (.iload_n 2, 1) := by decide +kernel
theorem dL_added_5 : decode cL_added 5 = .ok (.iadd, 1) := by decide +kernel
theorem dL_added_6 : decode cL_added 6 = .ok (.iaload, 1) := by decide +kernel
theorem dL_added_7 : decode cL_added 7 = .ok (.if_icmp .ge 7, 3) := by decide +kernel
theorem dL_added_10 : decode cL_added 10 = .ok (.iconst 1, 1) := by decide +kernel
theorem dL_added_11 : decode cL_added 11 = .ok (.goto 4, 3) := by decide +kernel
theorem dL_added_14 : decode cL_added 14 = .ok (.iconst 0, 1) := by decide +kernel
theorem dL_added_15 : decode cL_added 15 = .ok (.istore 7, 2) := by decide +kernel
theorem dL_added_17 : decode cL_added 17 = .ok (.iload 5, 2) := by decide +kernel
theorem dL_added_19 : decode cL_added 19 = .ok (.aload_n 0, 1) := by decide +kernel
theorem dL_added_20 : decode cL_added 20 = .ok (.bipush 10, 2) := by decide +kernel
theorem dL_added_22 : decode cL_added 22 = .ok (.iload 4, 2) := by decide +kernel
theorem dL_added_24 : decode cL_added 24 = .ok (.iadd, 1) := by decide +kernel
theorem dL_added_25 : decode cL_added 25 = .ok (.iaload, 1) := by decide +kernel
theorem dL_added_26 : decode cL_added 26 = .ok (.if_icmp .ge 7, 3) := by decide +kernel
theorem dL_added_29 : decode cL_added 29 = .ok (.iconst 1, 1) := by decide +kernel
theorem dL_added_30 : decode cL_added 30 = .ok (.goto 4, 3) := by decide +kernel
theorem dL_added_33 : decode cL_added 33 = .ok (.iconst 0, 1) := by decide +kernel
theorem dL_added_34 : decode cL_added 34 = .ok (.istore 8, 2) := by decide +kernel
theorem dL_added_36 : decode cL_added 36 = .ok (.iload 7, 2) := by decide +kernel
theorem dL_added_38 : decode cL_added 38 = .ok (.ifCond .eq 16, 3) := by decide +kernel
theorem dL_added_41 : decode cL_added 41 = .ok (.aload_n 1, 1) := by decide +kernel
theorem dL_added_42 : decode cL_added 42 = .ok (.bipush 12, 2) := by decide +kernel
theorem dL_added_44 : decode cL_added 44 = .ok (.iload_n 2, 1) := by decide +kernel
theorem dL_added_45 : decode cL_added 45 = .ok (.imul, 1) := by decide +kernel
theorem dL_added_46 : decode cL_added 46 = .ok (.iconst 2, 1) := by decide +kernel
theorem dL_added_47 : decode cL_added 47 = .ok (.iload_n 3, 1) := by decide +kernel
theorem dL_added_48 : decode cL_added 48 = .ok (.imul, 1) := by decide +kernel
theorem dL_added_49 : decode cL_added 49 = .ok (.iadd, 1) := by decide +kernel
theorem dL_added_50 : decode cL_added 50 = .ok (.iaload, 1) := by decide +kernel
theorem dL_added_51 : decode cL_added 51 = .ok (.goto 4, 3) := by decide +kernel
theorem dL_added_54 : decode cL_added 54 = .ok (.iconst (-1), 1) := by decide +kernel
theorem dL_added_55 : decode cL_added 55 = .ok (.istore 9, 2) := by decide +kernel
theorem dL_added_57 : decode cL_added 57 = .ok (.iload 8, 2) := by decide +kernel
theorem dL_added_59 : decode cL_added 59 = .ok (.ifCond .eq 18, 3) := by decide +kernel
theorem dL_added_62 : decode cL_added 62 = .ok (.aload_n 1, 1) := by decide +kernel
theorem dL_added_63 : decode cL_added 63 = .ok (.bipush 12, 2) := by decide +kernel
theorem dL_added_65 : decode cL_added 65 = .ok (.iload 4, 2) := by decide +kernel
theorem dL_added_67 : decode cL_added 67 = .ok (.imul, 1) := by decide +kernel
theorem dL_added_68 : decode cL_added 68 = .ok (.iconst 2, 1) := by decide +kernel
theorem dL_added_69 : decode cL_added 69 = .ok (.iload 5, 2) := by decide +kernel
theorem dL_added_71 : decode cL_added 71 = .ok (.imul, 1) := by decide +kernel
theorem dL_added_72 : decode cL_added 72 = .ok (.iadd, 1) := by decide +kernel
theorem dL_added_73 : decode cL_added 73 = .ok (.iaload, 1) := by decide +kernel
theorem dL_added_74 : decode cL_added 74 = .ok (.goto 5, 3) := by decide +kernel
theorem dL_added_77 : decode cL_added 77 = .ok (.bipush (-2), 2) := by decide +kernel
theorem dL_added_79 : decode cL_added 79 = .ok (.istore 10, 2) := by decide +kernel
theorem dL_added_81 : decode cL_added 81 = .ok (.iload 8, 2) := by decide +kernel
theorem dL_added_83 : decode cL_added 83 = .ok (.ifCond .eq 20, 3) := by decide +kernel
theorem dL_added_86 : decode cL_added 86 = .ok (.aload_n 1, 1) := by decide +kernel
theorem dL_added_87 : decode cL_added 87 = .ok (.bipush 12, 2) := by decide +kernel
theorem dL_added_89 : decode cL_added 89 = .ok (.iload 4, 2) := by decide +kernel
theorem dL_added_91 : decode cL_added 91 = .ok (.imul, 1) := by decide +kernel
theorem dL_added_92 : decode cL_added 92 = .ok (.iconst 2, 1) := by decide +kernel
theorem dL_added_93 : decode cL_added 93 = .ok (.iload 5, 2) := by decide +kernel
theorem dL_added_95 : decode cL_added 95 = .ok (.imul, 1) := by decide +kernel
theorem dL_added_96 : decode cL_added 96 = .ok (.iadd, 1) := by decide +kernel
theorem dL_added_97 : decode cL_added 97 = .ok (.iconst 1, 1) := by decide +kernel
theorem dL_added_98 : decode cL_added 98 = .ok (.iadd, 1) := by decide +kernel
theorem dL_added_99 : decode cL_added 99 = .ok (.iaload, 1) := by decide +kernel
theorem dL_added_100 : decode cL_added 100 = .ok (.goto 4, 3) := by decide +kernel
theorem dL_added_103 : decode cL_added 103 = .ok (.iconst 0, 1) := by decide +kernel
theorem dL_added_104 : decode cL_added 104 = .ok (.istore 11, 2) := by decide +kernel
theorem dL_added_106 : decode cL_added 106 = .ok (.iload 6, 2) := by decide +kernel
theorem dL_added_108 : decode cL_added 108 = .ok (.iconst 1, 1) := by decide +kernel
theorem dL_added_109 : decode cL_added 109 = .ok (.if_icmp .ne 37, 3) := by decide +kernel
theorem dL_added_112 : decode cL_added 112 = .ok (.iload 9, 2) := by decide +kernel
theorem dL_added_114 : decode cL_added 114 = .ok (.iload 10, 2) := by decide +kernel
theorem dL_added_116 : decode cL_added 116 = .ok (.if_icmp .ne 27, 3) := by decide +kernel
theorem dL_added_119 : decode cL_added 119 = .ok (.aload_n 0, 1) := by decide +kernel
theorem dL_added_120 : decode cL_added 120 = .ok (.iconst 2, 1) := by decide +kernel
theorem dL_added_121 : decode cL_added 121 = .ok (.iaload, 1) := by decide +kernel
theorem dL_added_122 : decode cL_added 122 = .ok (.aload_n 1, 1) := by decide +kernel
theorem dL_added_123 : decode cL_added 123 = .ok (.bipush 12, 2) := by decide +kernel
theorem dL_added_125 : decode cL_added 125 = .ok (.iload_n 2, 1) := by decide +kernel
theorem dL_added_126 : decode cL_added 126 = .ok (.imul, 1) := by decide +kernel
theorem dL_added_127 : decode cL_added 127 = .ok (.iconst 2, 1) := by decide +kernel
theorem dL_added_128 : decode cL_added 128 = .ok (.iload_n 3, 1) := by decide +kernel
theorem dL_added_129 : decode cL_added 129 = .ok (.imul, 1) := by decide +kernel
theorem dL_added_130 : decode cL_added 130 = .ok (.iadd, 1) := by decide +kernel
theorem dL_added_131 : decode cL_added 131 = .ok (.iconst 1, 1) := by decide +kernel
theorem dL_added_132 : decode cL_added 132 = .ok (.iadd, 1) := by decide +kernel
theorem dL_added_133 : decode cL_added 133 = .ok (.iaload, 1) := by decide +kernel
theorem dL_added_134 : decode cL_added 134 = .ok (.iload 11, 2) := by decide +kernel
theorem dL_added_136 : decode cL_added 136 = .ok (.invokestatic 9, 3) := by decide +kernel
theorem dL_added_139 : decode cL_added 139 = .ok (.imul, 1) := by decide +kernel
theorem dL_added_140 : decode cL_added 140 = .ok (.goto 5, 3) := by decide +kernel
theorem dL_added_143 : decode cL_added 143 = .ok (.ldc 15, 2) := by decide +kernel
theorem dL_added_145 : decode cL_added 145 = .ok (.ireturn, 1) := by decide +kernel
theorem dL_added_146 : decode cL_added 146 = .ok (.iload 6, 2) := by decide +kernel
theorem dL_added_148 : decode cL_added 148 = .ok (.iconst 2, 1) := by decide +kernel
theorem dL_added_149 : decode cL_added 149 = .ok (.if_icmp .ne 20, 3) := by decide +kernel
theorem dL_added_152 : decode cL_added 152 = .ok (.iload 7, 2) := by decide +kernel
theorem dL_added_154 : decode cL_added 154 = .ok (.ifCond .eq 12, 3) := by decide +kernel
theorem dL_added_157 : decode cL_added 157 = .ok (.aload_n 0, 1) := by decide +kernel
theorem dL_added_158 : decode cL_added 158 = .ok (.iload 9, 2) := by decide +kernel
theorem dL_added_160 : decode cL_added 160 = .ok (.invokestatic 16, 3) := by decide +kernel
theorem dL_added_163 : decode cL_added 163 = .ok (.goto 5, 3) := by decide +kernel
theorem dL_added_166 : decode cL_added 166 = .ok (.ldc 15, 2) := by decide +kernel
theorem dL_added_168 : decode cL_added 168 = .ok (.ireturn, 1) := by decide +kernel
theorem dL_added_169 : decode cL_added 169 = .ok (.iload 6, 2) := by decide +kernel
theorem dL_added_171 : decode cL_added 171 = .ok (.iconst 4, 1) := by decide +kernel
theorem dL_added_172 : decode cL_added 172 = .ok (.if_icmp .ne 20, 3) := by decide +kernel
theorem dL_added_175 : decode cL_added 175 = .ok (.iload 8, 2) := by decide +kernel
theorem dL_added_177 : decode cL_added 177 = .ok (.ifCond .eq 12, 3) := by decide +kernel
theorem dL_added_180 : decode cL_added 180 = .ok (.aload_n 0, 1) := by decide +kernel
theorem dL_added_181 : decode cL_added 181 = .ok (.iload 10, 2) := by decide +kernel
theorem dL_added_183 : decode cL_added 183 = .ok (.invokestatic 16, 3) := by decide +kernel
theorem dL_added_186 : decode cL_added 186 = .ok (.goto 5, 3) := by decide +kernel
theorem dL_added_189 : decode cL_added 189 = .ok (.ldc 15, 2) := by decide +kernel
theorem dL_added_191 : decode cL_added 191 = .ok (.ireturn, 1) := by decide +kernel
theorem dL_added_192 : decode cL_added 192 = .ok (.aload_n 0, 1) := by decide +kernel
theorem dL_added_193 : decode cL_added 193 = .ok (.aload_n 1, 1) := by decide +kernel
theorem dL_added_194 : decode cL_added 194 = .ok (.iload_n 2, 1) := by decide +kernel
theorem dL_added_195 : decode cL_added 195 = .ok (.iload_n 3, 1) := by decide +kernel
theorem dL_added_196 : decode cL_added 196 = .ok (.iload 10, 2) := by decide +kernel
theorem dL_added_198 : decode cL_added 198 = .ok (.invokestatic 20, 3) := by decide +kernel
theorem dL_added_201 : decode cL_added 201 = .ok (.istore 12, 2) := by decide +kernel
theorem dL_added_203 : decode cL_added 203 = .ok (.iload 12, 2) := by decide +kernel
theorem dL_added_205 : decode cL_added 205 = .ok (.ifCond .ge 8, 3) := by decide +kernel
theorem dL_added_208 : decode cL_added 208 = .ok (.ldc 15, 2) := by decide +kernel
theorem dL_added_210 : decode cL_added 210 = .ok (.goto 29, 3) := by decide +kernel
theorem dL_added_213 : decode cL_added 213 = .ok (.aload_n 0, 1) := by decide +kernel
theorem dL_added_214 : decode cL_added 214 = .ok (.iconst 1, 1) := by decide +kernel
theorem dL_added_215 : decode cL_added 215 = .ok (.iaload, 1) := by decide +kernel
theorem dL_added_216 : decode cL_added 216 = .ok (.aload_n 0, 1) := by decide +kernel
theorem dL_added_217 : decode cL_added 217 = .ok (.iconst 2, 1) := by decide +kernel
theorem dL_added_218 : decode cL_added 218 = .ok (.iaload, 1) := by decide +kernel
theorem dL_added_219 : decode cL_added 219 = .ok (.aload_n 1, 1) := by decide +kernel
theorem dL_added_220 : decode cL_added 220 = .ok (.bipush 12, 2) := by decide +kernel
theorem dL_added_222 : decode cL_added 222 = .ok (.iload_n 2, 1) := by decide +kernel
theorem dL_added_223 : decode cL_added 223 = .ok (.imul, 1) := by decide +kernel
theorem dL_added_224 : decode cL_added 224 = .ok (.iconst 2, 1) := by decide +kernel
theorem dL_added_225 : decode cL_added 225 = .ok (.iload 12, 2) := by decide +kernel
theorem dL_added_227 : decode cL_added 227 = .ok (.imul, 1) := by decide +kernel
theorem dL_added_228 : decode cL_added 228 = .ok (.iadd, 1) := by decide +kernel
theorem dL_added_229 : decode cL_added 229 = .ok (.iconst 1, 1) := by decide +kernel
theorem dL_added_230 : decode cL_added 230 = .ok (.iadd, 1) := by decide +kernel
theorem dL_added_231 : decode cL_added 231 = .ok (.iaload, 1) := by decide +kernel
theorem dL_added_232 : decode cL_added 232 = .ok (.iload 11, 2) := by decide +kernel
theorem dL_added_234 : decode cL_added 234 = .ok (.invokestatic 9, 3) := by decide +kernel
theorem dL_added_237 : decode cL_added 237 = .ok (.imul, 1) := by decide +kernel
theorem dL_added_238 : decode cL_added 238 = .ok (.iadd, 1) := by decide +kernel
theorem dL_added_239 : decode cL_added 239 = .ok (.ireturn, 1) := by decide +kernel
theorem dL_least_0 : decode cL_least 0 = .ok (.aload_n 0, 1) := by decide +kernel
theorem dL_least_1 : decode cL_least 1 = .ok (.bipush 10, 2) := by decide +kernel
theorem dL_least_3 : decode cL_least 3 = .ok (.iload_n 2, 1) := by decide +kernel
theorem dL_least_4 : decode cL_least 4 = .ok (.iadd, 1) := by decide +kernel
theorem dL_least_5 : decode cL_least 5 = .ok (.iaload, 1) := by decide +kernel
theorem dL_least_6 : decode cL_least 6 = .ok (.istore 5, 2) := by decide +kernel
theorem dL_least_8 : decode cL_least 8 = .ok (.aload_n 0, 1) := by decide +kernel
theorem dL_least_9 : decode cL_least 9 = .ok (.bipush 10, 2) := by decide +kernel
theorem dL_least_11 : decode cL_least 11 = .ok (.iload_n 3, 1) := by decide +kernel
theorem dL_least_12 : decode cL_least 12 = .ok (.iadd, 1) := by decide +kernel
theorem dL_least_13 : decode cL_least 13 = .ok (.iaload, 1) := by decide +kernel
theorem dL_least_14 : decode cL_least 14 = .ok (.istore 6, 2) := by decide +kernel
theorem dL_least_16 : decode cL_least 16 = .ok (.iload 5, 2) := by decide +kernel
theorem dL_least_18 : decode cL_least 18 = .ok (.iload 6, 2) := by decide +kernel
theorem dL_least_20 : decode cL_least 20 = .ok (.iadd, 1) := by decide +kernel
theorem dL_least_21 : decode cL_least 21 = .ok (.istore 7, 2) := by decide +kernel
theorem dL_least_23 : decode cL_least 23 = .ok (.iload 7, 2) := by decide +kernel
theorem dL_least_25 : decode cL_least 25 = .ok (.ifCond .lt 174, 3) := by decide +kernel
theorem dL_least_28 : decode cL_least 28 = .ok (.iconst 0, 1) := by decide +kernel
theorem dL_least_29 : decode cL_least 29 = .ok (.istore 8, 2) := by decide +kernel
theorem dL_least_31 : decode cL_least 31 = .ok (.iload 8, 2) := by decide +kernel
theorem dL_least_33 : decode cL_least 33 = .ok (.iload 5, 2) := by decide +kernel
theorem dL_least_35 : decode cL_least 35 = .ok (.if_icmp .gt 158, 3) := by decide +kernel
theorem dL_least_38 : decode cL_least 38 = .ok (.iload 8, 2) := by decide +kernel
theorem dL_least_40 : decode cL_least 40 = .ok (.iload 7, 2) := by decide +kernel
theorem dL_least_42 : decode cL_least 42 = .ok (.if_icmp .gt 151, 3) := by decide +kernel
theorem dL_least_45 : decode cL_least 45 = .ok (.iload 7, 2) := by decide +kernel
theorem dL_least_47 : decode cL_least 47 = .ok (.iload 8, 2) := by decide +kernel
theorem dL_least_49 : decode cL_least 49 = .ok (.isub, 1) := by decide +kernel
theorem dL_least_50 : decode cL_least 50 = .ok (.istore 9, 2) := by decide +kernel
theorem dL_least_52 : decode cL_least 52 = .ok (.iload 9, 2) := by decide +kernel
theorem dL_least_54 : decode cL_least 54 = .ok (.iload 6, 2) := by decide +kernel
theorem dL_least_56 : decode cL_least 56 = .ok (.if_icmp .gt 131, 3) := by decide +kernel
theorem dL_least_59 : decode cL_least 59 = .ok (.iload 7, 2) := by decide +kernel
theorem dL_least_61 : decode cL_least 61 = .ok (.iload 5, 2) := by decide +kernel
theorem dL_least_63 : decode cL_least 63 = .ok (.iload 6, 2) := by decide +kernel
theorem dL_least_65 : decode cL_least 65 = .ok (.iadd, 1) := by decide +kernel
theorem dL_least_66 : decode cL_least 66 = .ok (.if_icmp .ne 7, 3) := by decide +kernel
theorem dL_least_69 : decode cL_least 69 = .ok (.iconst 0, 1) := by decide +kernel
theorem dL_least_70 : decode cL_least 70 = .ok (.goto 5, 3) := by decide +kernel
theorem dL_least_73 : decode cL_least 73 = .ok (.ldc 15, 2) := by decide +kernel
theorem dL_least_75 : decode cL_least 75 = .ok (.istore 10, 2) := by decide +kernel
theorem dL_least_77 : decode cL_least 77 = .ok (.iconst 1, 1) := by decide +kernel
theorem dL_least_78 : decode cL_least 78 = .ok (.istore 11, 2) := by decide +kernel
theorem dL_least_80 : decode cL_least 80 = .ok (.iload 11, 2) := by decide +kernel
theorem dL_least_82 : decode cL_least 82 = .ok (.iconst 5, 1) := by decide +kernel
theorem dL_least_83 : decode cL_least 83 = .ok (.if_icmp .ge 91, 3) := by decide +kernel
theorem dL_least_86 : decode cL_least 86 = .ok (.aload_n 0, 1) := by decide +kernel
theorem dL_least_87 : decode cL_least 87 = .ok (.aload_n 1, 1) := by decide +kernel
theorem dL_least_88 : decode cL_least 88 = .ok (.iload_n 2, 1) := by decide +kernel
theorem dL_least_89 : decode cL_least 89 = .ok (.iload 8, 2) := by decide +kernel
theorem dL_least_91 : decode cL_least 91 = .ok (.iload_n 3, 1) := by decide +kernel
theorem dL_least_92 : decode cL_least 92 = .ok (.iload 9, 2) := by decide +kernel
theorem dL_least_94 : decode cL_least 94 = .ok (.iload 11, 2) := by decide +kernel
theorem dL_least_96 : decode cL_least 96 = .ok (.invokestatic 24, 3) := by decide +kernel
theorem dL_least_99 : decode cL_least 99 = .ok (.istore 12, 2) := by decide +kernel
theorem dL_least_101 : decode cL_least 101 = .ok (.iload 12, 2) := by decide +kernel
theorem dL_least_103 : decode cL_least 103 = .ok (.iload 12, 2) := by decide +kernel
theorem dL_least_105 : decode cL_least 105 = .ok (.ldc 15, 2) := by decide +kernel
theorem dL_least_107 : decode cL_least 107 = .ok (.if_icmp .ge 41, 3) := by decide +kernel
theorem dL_least_110 : decode cL_least 110 = .ok (.aload 4, 2) := by decide +kernel
theorem dL_least_112 : decode cL_least 112 = .ok (.bipush 7, 2) := by decide +kernel
theorem dL_least_114 : decode cL_least 114 = .ok (.iload 8, 2) := by decide +kernel
theorem dL_least_116 : decode cL_least 116 = .ok (.iload 11, 2) := by decide +kernel
theorem dL_least_118 : decode cL_least 118 = .ok (.iconst 3, 1) := by decide +kernel
theorem dL_least_119 : decode cL_least 119 = .ok (.if_icmp .ge 7, 3) := by decide +kernel
theorem dL_least_122 : decode cL_least 122 = .ok (.iconst 1, 1) := by decide +kernel
theorem dL_least_123 : decode cL_least 123 = .ok (.goto 4, 3) := by decide +kernel
theorem dL_least_126 : decode cL_least 126 = .ok (.iconst 0, 1) := by decide +kernel
theorem dL_least_127 : decode cL_least 127 = .ok (.iadd, 1) := by decide +kernel
theorem dL_least_128 : decode cL_least 128 = .ok (.imul, 1) := by decide +kernel
theorem dL_least_129 : decode cL_least 129 = .ok (.iload 9, 2) := by decide +kernel
theorem dL_least_131 : decode cL_least 131 = .ok (.iadd, 1) := by decide +kernel
theorem dL_least_132 : decode cL_least 132 = .ok (.iload 11, 2) := by decide +kernel
theorem dL_least_134 : decode cL_least 134 = .ok (.iconst 2, 1) := by decide +kernel
theorem dL_least_135 : decode cL_least 135 = .ok (.if_icmp .ne 7, 3) := by decide +kernel
theorem dL_least_138 : decode cL_least 138 = .ok (.iconst 0, 1) := by decide +kernel
theorem dL_least_139 : decode cL_least 139 = .ok (.goto 4, 3) := by decide +kernel
theorem dL_least_142 : decode cL_least 142 = .ok (.iconst 1, 1) := by decide +kernel
theorem dL_least_143 : decode cL_least 143 = .ok (.iadd, 1) := by decide +kernel
theorem dL_least_144 : decode cL_least 144 = .ok (.iaload, 1) := by decide +kernel
theorem dL_least_145 : decode cL_least 145 = .ok (.goto 4, 3) := by decide +kernel
theorem dL_least_148 : decode cL_least 148 = .ok (.iconst 0, 1) := by decide +kernel
theorem dL_least_149 : decode cL_least 149 = .ok (.iadd, 1) := by decide +kernel
theorem dL_least_150 : decode cL_least 150 = .ok (.istore 12, 2) := by decide +kernel
theorem dL_least_152 : decode cL_least 152 = .ok (.iload 12, 2) := by decide +kernel
theorem dL_least_154 : decode cL_least 154 = .ok (.iload 10, 2) := by decide +kernel
theorem dL_least_156 : decode cL_least 156 = .ok (.if_icmp .ge 8, 3) := by decide +kernel
theorem dL_least_159 : decode cL_least 159 = .ok (.iload 12, 2) := by decide +kernel
theorem dL_least_161 : decode cL_least 161 = .ok (.goto 5, 3) := by decide +kernel
theorem dL_least_164 : decode cL_least 164 = .ok (.iload 10, 2) := by decide +kernel
theorem dL_least_166 : decode cL_least 166 = .ok (.istore 10, 2) := by decide +kernel
theorem dL_least_168 : decode cL_least 168 = .ok (.iinc 11 1, 3) := by decide +kernel
theorem dL_least_171 : decode cL_least 171 = .ok (.goto (-91), 3) := by decide +kernel
theorem dL_least_174 : decode cL_least 174 = .ok (.aload 4, 2) := by decide +kernel
theorem dL_least_176 : decode cL_least 176 = .ok (.bipush 7, 2) := by decide +kernel
theorem dL_least_178 : decode cL_least 178 = .ok (.iload 8, 2) := by decide +kernel
theorem dL_least_180 : decode cL_least 180 = .ok (.imul, 1) := by decide +kernel
theorem dL_least_181 : decode cL_least 181 = .ok (.iload 9, 2) := by decide +kernel
theorem dL_least_183 : decode cL_least 183 = .ok (.iadd, 1) := by decide +kernel
theorem dL_least_184 : decode cL_least 184 = .ok (.iload 10, 2) := by decide +kernel
theorem dL_least_186 : decode cL_least 186 = .ok (.iastore, 1) := by decide +kernel
theorem dL_least_187 : decode cL_least 187 = .ok (.iinc 8 1, 3) := by decide +kernel
theorem dL_least_190 : decode cL_least 190 = .ok (.goto (-159), 3) := by decide +kernel
theorem dL_least_193 : decode cL_least 193 = .ok (.iinc 7 (-1), 3) := by decide +kernel
theorem dL_least_196 : decode cL_least 196 = .ok (.goto (-173), 3) := by decide +kernel
theorem dL_least_199 : decode cL_least 199 = .ok (.aload 4, 2) := by decide +kernel
theorem dL_least_201 : decode cL_least 201 = .ok (.iconst 0, 1) := by decide +kernel
theorem dL_least_202 : decode cL_least 202 = .ok (.iaload, 1) := by decide +kernel
theorem dL_least_203 : decode cL_least 203 = .ok (.ireturn, 1) := by decide +kernel
theorem dL_walk_0 : decode cL_walk 0 = .ok (.aload_n 0, 1) := by decide +kernel
theorem dL_walk_1 : decode cL_walk 1 = .ok (.aload_n 1, 1) := by decide +kernel
theorem dL_walk_2 : decode cL_walk 2 = .ok (.iload_n 2, 1) := by decide +kernel
theorem dL_walk_3 : decode cL_walk 3 = .ok (.iload_n 3, 1) := by decide +kernel
theorem dL_walk_4 : decode cL_walk 4 = .ok (.aload 4, 2) := by decide +kernel
theorem dL_walk_6 : decode cL_walk 6 = .ok (.invokestatic 28, 3) := by decide +kernel
theorem dL_walk_9 : decode cL_walk 9 = .ok (.istore 6, 2) := by decide +kernel
theorem dL_walk_11 : decode cL_walk 11 = .ok (.iconst 0, 1) := by decide +kernel
theorem dL_walk_12 : decode cL_walk 12 = .ok (.istore 7, 2) := by decide +kernel
theorem dL_walk_14 : decode cL_walk 14 = .ok (.iconst 0, 1) := by decide +kernel
theorem dL_walk_15 : decode cL_walk 15 = .ok (.istore 8, 2) := by decide +kernel
theorem dL_walk_17 : decode cL_walk 17 = .ok (.iconst 0, 1) := by decide +kernel
theorem dL_walk_18 : decode cL_walk 18 = .ok (.istore 9, 2) := by decide +kernel
theorem dL_walk_20 : decode cL_walk 20 = .ok (.iconst 0, 1) := by decide +kernel
theorem dL_walk_21 : decode cL_walk 21 = .ok (.istore 10, 2) := by decide +kernel
theorem dL_walk_23 : decode cL_walk 23 = .ok (.iconst 0, 1) := by decide +kernel
theorem dL_walk_24 : decode cL_walk 24 = .ok (.istore 11, 2) := by decide +kernel
theorem dL_walk_26 : decode cL_walk 26 = .ok (.aload 5, 2) := by decide +kernel
theorem dL_walk_28 : decode cL_walk 28 = .ok (.bipush 42, 2) := by decide +kernel
theorem dL_walk_30 : decode cL_walk 30 = .ok (.iconst 0, 1) := by decide +kernel
theorem dL_walk_31 : decode cL_walk 31 = .ok (.iastore, 1) := by decide +kernel
theorem dL_walk_32 : decode cL_walk 32 = .ok (.aload 5, 2) := by decide +kernel
theorem dL_walk_34 : decode cL_walk 34 = .ok (.bipush 43, 2) := by decide +kernel
theorem dL_walk_36 : decode cL_walk 36 = .ok (.iconst 0, 1) := by decide +kernel
theorem dL_walk_37 : decode cL_walk 37 = .ok (.iastore, 1) := by decide +kernel
theorem dL_walk_38 : decode cL_walk 38 = .ok (.iload 6, 2) := by decide +kernel
theorem dL_walk_40 : decode cL_walk 40 = .ok (.ifCond .lt 388, 3) := by decide +kernel
theorem dL_walk_43 : decode cL_walk 43 = .ok (.iload 7, 2) := by decide +kernel
theorem dL_walk_45 : decode cL_walk 45 = .ok (.iload 8, 2) := by decide +kernel
theorem dL_walk_47 : decode cL_walk 47 = .ok (.iadd, 1) := by decide +kernel
theorem dL_walk_48 : decode cL_walk 48 = .ok (.aload_n 0, 1) := by decide +kernel
theorem dL_walk_49 : decode cL_walk 49 = .ok (.bipush 10, 2) := by decide +kernel
theorem dL_walk_51 : decode cL_walk 51 = .ok (.iload_n 2, 1) := by decide +kernel
theorem dL_walk_52 : decode cL_walk 52 = .ok (.iadd, 1) := by decide +kernel
theorem dL_walk_53 : decode cL_walk 53 = .ok (.iaload, 1) := by decide +kernel
theorem dL_walk_54 : decode cL_walk 54 = .ok (.aload_n 0, 1) := by decide +kernel
theorem dL_walk_55 : decode cL_walk 55 = .ok (.bipush 10, 2) := by decide +kernel
theorem dL_walk_57 : decode cL_walk 57 = .ok (.iload_n 3, 1) := by decide +kernel
theorem dL_walk_58 : decode cL_walk 58 = .ok (.iadd, 1) := by decide +kernel
theorem dL_walk_59 : decode cL_walk 59 = .ok (.iaload, 1) := by decide +kernel
theorem dL_walk_60 : decode cL_walk 60 = .ok (.iadd, 1) := by decide +kernel
theorem dL_walk_61 : decode cL_walk 61 = .ok (.if_icmp .ge 367, 3) := by decide +kernel
theorem dL_walk_64 : decode cL_walk 64 = .ok (.iconst 0, 1) := by decide +kernel
theorem dL_walk_65 : decode cL_walk 65 = .ok (.istore 12, 2) := by decide +kernel
theorem dL_walk_67 : decode cL_walk 67 = .ok (.iconst 0, 1) := by decide +kernel
theorem dL_walk_68 : decode cL_walk 68 = .ok (.istore 13, 2) := by decide +kernel
theorem dL_walk_70 : decode cL_walk 70 = .ok (.iload 13, 2) := by decide +kernel
theorem dL_walk_72 : decode cL_walk 72 = .ok (.ifCond .ne 90, 3) := by decide +kernel
theorem dL_walk_75 : decode cL_walk 75 = .ok (.iinc 12 1, 3) := by decide +kernel
theorem dL_walk_78 : decode cL_walk 78 = .ok (.aload_n 0, 1) := by decide +kernel
theorem dL_walk_79 : decode cL_walk 79 = .ok (.aload_n 1, 1) := by decide +kernel
theorem dL_walk_80 : decode cL_walk 80 = .ok (.iload_n 2, 1) := by decide +kernel
theorem dL_walk_81 : decode cL_walk 81 = .ok (.iload 7, 2) := by decide +kernel
theorem dL_walk_83 : decode cL_walk 83 = .ok (.iload_n 3, 1) := by decide +kernel
theorem dL_walk_84 : decode cL_walk 84 = .ok (.iload 8, 2) := by decide +kernel
theorem dL_walk_86 : decode cL_walk 86 = .ok (.iload 12, 2) := by decide +kernel
theorem dL_walk_88 : decode cL_walk 88 = .ok (.invokestatic 24, 3) := by decide +kernel
theorem dL_walk_91 : decode cL_walk 91 = .ok (.istore 14, 2) := by decide +kernel
theorem dL_walk_93 : decode cL_walk 93 = .ok (.iload 14, 2) := by decide +kernel
theorem dL_walk_95 : decode cL_walk 95 = .ok (.ldc 15, 2) := by decide +kernel
theorem dL_walk_97 : decode cL_walk 97 = .ok (.if_icmp .ge 59, 3) := by decide +kernel
theorem dL_walk_100 : decode cL_walk 100 = .ok (.iload 14, 2) := by decide +kernel
theorem dL_walk_102 : decode cL_walk 102 = .ok (.aload 4, 2) := by decide +kernel
theorem dL_walk_104 : decode cL_walk 104 = .ok (.bipush 7, 2) := by decide +kernel
theorem dL_walk_106 : decode cL_walk 106 = .ok (.iload 7, 2) := by decide +kernel
theorem dL_walk_108 : decode cL_walk 108 = .ok (.iload 12, 2) := by decide +kernel
theorem dL_walk_110 : decode cL_walk 110 = .ok (.iconst 3, 1) := by decide +kernel
theorem dL_walk_111 : decode cL_walk 111 = .ok (.if_icmp .ge 7, 3) := by decide +kernel
theorem dL_walk_114 : decode cL_walk 114 = .ok (.iconst 1, 1) := by decide +kernel
theorem dL_walk_115 : decode cL_walk 115 = .ok (.goto 4, 3) := by decide +kernel
theorem dL_walk_118 : decode cL_walk 118 = .ok (.iconst 0, 1) := by decide +kernel
theorem dL_walk_119 : decode cL_walk 119 = .ok (.iadd, 1) := by decide +kernel
theorem dL_walk_120 : decode cL_walk 120 = .ok (.imul, 1) := by decide +kernel
theorem dL_walk_121 : decode cL_walk 121 = .ok (.iload 8, 2) := by decide +kernel
theorem dL_walk_123 : decode cL_walk 123 = .ok (.iadd, 1) := by decide +kernel
theorem dL_walk_124 : decode cL_walk 124 = .ok (.iload 12, 2) := by decide +kernel
theorem dL_walk_126 : decode cL_walk 126 = .ok (.iconst 2, 1) := by decide +kernel
theorem dL_walk_127 : decode cL_walk 127 = .ok (.if_icmp .ne 7, 3) := by decide +kernel
theorem dL_walk_130 : decode cL_walk 130 = .ok (.iconst 0, 1) := by decide +kernel
theorem dL_walk_131 : decode cL_walk 131 = .ok (.goto 4, 3) := by decide +kernel
theorem dL_walk_134 : decode cL_walk 134 = .ok (.iconst 1, 1) := by decide +kernel
theorem dL_walk_135 : decode cL_walk 135 = .ok (.iadd, 1) := by decide +kernel
theorem dL_walk_136 : decode cL_walk 136 = .ok (.iaload, 1) := by decide +kernel
theorem dL_walk_137 : decode cL_walk 137 = .ok (.iadd, 1) := by decide +kernel
theorem dL_walk_138 : decode cL_walk 138 = .ok (.aload 4, 2) := by decide +kernel
theorem dL_walk_140 : decode cL_walk 140 = .ok (.bipush 7, 2) := by decide +kernel
theorem dL_walk_142 : decode cL_walk 142 = .ok (.iload 7, 2) := by decide +kernel
theorem dL_walk_144 : decode cL_walk 144 = .ok (.imul, 1) := by decide +kernel
theorem dL_walk_145 : decode cL_walk 145 = .ok (.iload 8, 2) := by decide +kernel
theorem dL_walk_147 : decode cL_walk 147 = .ok (.iadd, 1) := by decide +kernel
theorem dL_walk_148 : decode cL_walk 148 = .ok (.iaload, 1) := by decide +kernel
theorem dL_walk_149 : decode cL_walk 149 = .ok (.if_icmp .ne 7, 3) := by decide +kernel
theorem dL_walk_152 : decode cL_walk 152 = .ok (.iconst 1, 1) := by decide +kernel
theorem dL_walk_153 : decode cL_walk 153 = .ok (.goto 4, 3) := by decide +kernel
theorem dL_walk_156 : decode cL_walk 156 = .ok (.iconst 0, 1) := by decide +kernel
theorem dL_walk_157 : decode cL_walk 157 = .ok (.istore 13, 2) := by decide +kernel
theorem dL_walk_159 : decode cL_walk 159 = .ok (.goto (-89), 3) := by decide +kernel
theorem dL_walk_162 : decode cL_walk 162 = .ok (.iload 12, 2) := by decide +kernel
theorem dL_walk_164 : decode cL_walk 164 = .ok (.iconst 1, 1) := by decide +kernel
theorem dL_walk_165 : decode cL_walk 165 = .ok (.if_icmp .ne 106, 3) := by decide +kernel
theorem dL_walk_168 : decode cL_walk 168 = .ok (.aload 5, 2) := by decide +kernel
theorem dL_walk_170 : decode cL_walk 170 = .ok (.bipush 42, 2) := by decide +kernel
theorem dL_walk_172 : decode cL_walk 172 = .ok (.iaload, 1) := by decide +kernel
theorem dL_walk_173 : decode cL_walk 173 = .ok (.ifCond .le 78, 3) := by decide +kernel
theorem dL_walk_176 : decode cL_walk 176 = .ok (.aload 5, 2) := by decide +kernel
theorem dL_walk_178 : decode cL_walk 178 = .ok (.bipush 43, 2) := by decide +kernel
theorem dL_walk_180 : decode cL_walk 180 = .ok (.iaload, 1) := by decide +kernel
theorem dL_walk_181 : decode cL_walk 181 = .ok (.istore 14, 2) := by decide +kernel
theorem dL_walk_183 : decode cL_walk 183 = .ok (.aload 5, 2) := by decide +kernel
theorem dL_walk_185 : decode cL_walk 185 = .ok (.bipush 24, 2) := by decide +kernel
theorem dL_walk_187 : decode cL_walk 187 = .ok (.iload 14, 2) := by decide +kernel
theorem dL_walk_189 : decode cL_walk 189 = .ok (.iadd, 1) := by decide +kernel
theorem dL_walk_190 : decode cL_walk 190 = .ok (.iload 9, 2) := by decide +kernel
theorem dL_walk_192 : decode cL_walk 192 = .ok (.iastore, 1) := by decide +kernel
theorem dL_walk_193 : decode cL_walk 193 = .ok (.aload 5, 2) := by decide +kernel
theorem dL_walk_195 : decode cL_walk 195 = .ok (.bipush 30, 2) := by decide +kernel
theorem dL_walk_197 : decode cL_walk 197 = .ok (.iload 14, 2) := by decide +kernel
theorem dL_walk_199 : decode cL_walk 199 = .ok (.iadd, 1) := by decide +kernel
theorem dL_walk_200 : decode cL_walk 200 = .ok (.aload_n 1, 1) := by decide +kernel
theorem dL_walk_201 : decode cL_walk 201 = .ok (.iload_n 2, 1) := by decide +kernel
theorem dL_walk_202 : decode cL_walk 202 = .ok (.iload 7, 2) := by decide +kernel
theorem dL_walk_204 : decode cL_walk 204 = .ok (.invokestatic 32, 3) := by decide +kernel
theorem dL_walk_207 : decode cL_walk 207 = .ok (.aload_n 1, 1) := by decide +kernel
theorem dL_walk_208 : decode cL_walk 208 = .ok (.iload_n 2, 1) := by decide +kernel
theorem dL_walk_209 : decode cL_walk 209 = .ok (.iload 9, 2) := by decide +kernel
theorem dL_walk_211 : decode cL_walk 211 = .ok (.invokestatic 32, 3) := by decide +kernel
theorem dL_walk_214 : decode cL_walk 214 = .ok (.isub, 1) := by decide +kernel
theorem dL_walk_215 : decode cL_walk 215 = .ok (.aload_n 1, 1) := by decide +kernel
theorem dL_walk_216 : decode cL_walk 216 = .ok (.iload_n 3, 1) := by decide +kernel
theorem dL_walk_217 : decode cL_walk 217 = .ok (.iload 8, 2) := by decide +kernel
theorem dL_walk_219 : decode cL_walk 219 = .ok (.invokestatic 32, 3) := by decide +kernel
theorem dL_walk_222 : decode cL_walk 222 = .ok (.isub, 1) := by decide +kernel
theorem dL_walk_223 : decode cL_walk 223 = .ok (.aload_n 1, 1) := by decide +kernel
theorem dL_walk_224 : decode cL_walk 224 = .ok (.iload_n 3, 1) := by decide +kernel
theorem dL_walk_225 : decode cL_walk 225 = .ok (.iload 10, 2) := by decide +kernel
theorem dL_walk_227 : decode cL_walk 227 = .ok (.invokestatic 32, 3) := by decide +kernel
theorem dL_walk_230 : decode cL_walk 230 = .ok (.iadd, 1) := by decide +kernel
theorem dL_walk_231 : decode cL_walk 231 = .ok (.iastore, 1) := by decide +kernel
theorem dL_walk_232 : decode cL_walk 232 = .ok (.aload 5, 2) := by decide +kernel
theorem dL_walk_234 : decode cL_walk 234 = .ok (.bipush 36, 2) := by decide +kernel
theorem dL_walk_236 : decode cL_walk 236 = .ok (.iload 14, 2) := by decide +kernel
theorem dL_walk_238 : decode cL_walk 238 = .ok (.iadd, 1) := by decide +kernel
theorem dL_walk_239 : decode cL_walk 239 = .ok (.iload 11, 2) := by decide +kernel
theorem dL_walk_241 : decode cL_walk 241 = .ok (.iastore, 1) := by decide +kernel
theorem dL_walk_242 : decode cL_walk 242 = .ok (.aload 5, 2) := by decide +kernel
theorem dL_walk_244 : decode cL_walk 244 = .ok (.bipush 43, 2) := by decide +kernel
theorem dL_walk_246 : decode cL_walk 246 = .ok (.dup2, 1) := by decide +kernel
theorem dL_walk_247 : decode cL_walk 247 = .ok (.iaload, 1) := by decide +kernel
theorem dL_walk_248 : decode cL_walk 248 = .ok (.iconst 1, 1) := by decide +kernel
theorem dL_walk_249 : decode cL_walk 249 = .ok (.iadd, 1) := by decide +kernel
theorem dL_walk_250 : decode cL_walk 250 = .ok (.iastore, 1) := by decide +kernel
theorem dL_walk_251 : decode cL_walk 251 = .ok (.aload 5, 2) := by decide +kernel
theorem dL_walk_253 : decode cL_walk 253 = .ok (.bipush 42, 2) := by decide +kernel
theorem dL_walk_255 : decode cL_walk 255 = .ok (.dup2, 1) := by decide +kernel
theorem dL_walk_256 : decode cL_walk 256 = .ok (.iaload, 1) := by decide +kernel
theorem dL_walk_257 : decode cL_walk 257 = .ok (.iconst 1, 1) := by decide +kernel
theorem dL_walk_258 : decode cL_walk 258 = .ok (.iadd, 1) := by decide +kernel
theorem dL_walk_259 : decode cL_walk 259 = .ok (.iastore, 1) := by decide +kernel
theorem dL_walk_260 : decode cL_walk 260 = .ok (.iload 7, 2) := by decide +kernel
theorem dL_walk_262 : decode cL_walk 262 = .ok (.istore 9, 2) := by decide +kernel
theorem dL_walk_264 : decode cL_walk 264 = .ok (.iload 8, 2) := by decide +kernel
theorem dL_walk_266 : decode cL_walk 266 = .ok (.istore 10, 2) := by decide +kernel
theorem dL_walk_268 : decode cL_walk 268 = .ok (.iconst 0, 1) := by decide +kernel
theorem dL_walk_269 : decode cL_walk 269 = .ok (.istore 11, 2) := by decide +kernel
theorem dL_walk_271 : decode cL_walk 271 = .ok (.iload 11, 2) := by decide +kernel
theorem dL_walk_273 : decode cL_walk 273 = .ok (.iload 12, 2) := by decide +kernel
theorem dL_walk_275 : decode cL_walk 275 = .ok (.iconst 2, 1) := by decide +kernel
theorem dL_walk_276 : decode cL_walk 276 = .ok (.if_icmp .ne 7, 3) := by decide +kernel
theorem dL_walk_279 : decode cL_walk 279 = .ok (.iconst 1, 1) := by decide +kernel
theorem dL_walk_280 : decode cL_walk 280 = .ok (.goto 24, 3) := by decide +kernel
theorem dL_walk_283 : decode cL_walk 283 = .ok (.iload 12, 2) := by decide +kernel
theorem dL_walk_285 : decode cL_walk 285 = .ok (.iconst 3, 1) := by decide +kernel
theorem dL_walk_286 : decode cL_walk 286 = .ok (.if_icmp .ne 7, 3) := by decide +kernel
theorem dL_walk_289 : decode cL_walk 289 = .ok (.iconst 2, 1) := by decide +kernel
theorem dL_walk_290 : decode cL_walk 290 = .ok (.goto 14, 3) := by decide +kernel
theorem dL_walk_293 : decode cL_walk 293 = .ok (.iload 12, 2) := by decide +kernel
theorem dL_walk_295 : decode cL_walk 295 = .ok (.iconst 4, 1) := by decide +kernel
theorem dL_walk_296 : decode cL_walk 296 = .ok (.if_icmp .ne 7, 3) := by decide +kernel
theorem dL_walk_299 : decode cL_walk 299 = .ok (.iconst 4, 1) := by decide +kernel
theorem dL_walk_300 : decode cL_walk 300 = .ok (.goto 4, 3) := by decide +kernel
theorem dL_walk_303 : decode cL_walk 303 = .ok (.iconst 0, 1) := by decide +kernel
theorem dL_walk_304 : decode cL_walk 304 = .ok (.ior, 1) := by decide +kernel
theorem dL_walk_305 : decode cL_walk 305 = .ok (.istore 11, 2) := by decide +kernel
theorem dL_walk_307 : decode cL_walk 307 = .ok (.iload 12, 2) := by decide +kernel
theorem dL_walk_309 : decode cL_walk 309 = .ok (.iconst 2, 1) := by decide +kernel
theorem dL_walk_310 : decode cL_walk 310 = .ok (.if_icmp .eq 62, 3) := by decide +kernel
theorem dL_walk_313 : decode cL_walk 313 = .ok (.aload 5, 2) := by decide +kernel
theorem dL_walk_315 : decode cL_walk 315 = .ok (.bipush 6, 2) := by decide +kernel
theorem dL_walk_317 : decode cL_walk 317 = .ok (.iload 8, 2) := by decide +kernel
theorem dL_walk_319 : decode cL_walk 319 = .ok (.iadd, 1) := by decide +kernel
theorem dL_walk_320 : decode cL_walk 320 = .ok (.iload 12, 2) := by decide +kernel
theorem dL_walk_322 : decode cL_walk 322 = .ok (.iastore, 1) := by decide +kernel
theorem dL_walk_323 : decode cL_walk 323 = .ok (.aload 5, 2) := by decide +kernel
theorem dL_walk_325 : decode cL_walk 325 = .ok (.bipush 18, 2) := by decide +kernel
theorem dL_walk_327 : decode cL_walk 327 = .ok (.iload 8, 2) := by decide +kernel
theorem dL_walk_329 : decode cL_walk 329 = .ok (.iadd, 1) := by decide +kernel
theorem dL_walk_330 : decode cL_walk 330 = .ok (.iload 12, 2) := by decide +kernel
theorem dL_walk_332 : decode cL_walk 332 = .ok (.iconst 1, 1) := by decide +kernel
theorem dL_walk_333 : decode cL_walk 333 = .ok (.if_icmp .ne 8, 3) := by decide +kernel
theorem dL_walk_336 : decode cL_walk 336 = .ok (.iload 7, 2) := by decide +kernel
theorem dL_walk_338 : decode cL_walk 338 = .ok (.goto 33, 3) := by decide +kernel
theorem dL_walk_341 : decode cL_walk 341 = .ok (.iload 12, 2) := by decide +kernel
theorem dL_walk_343 : decode cL_walk 343 = .ok (.iconst 3, 1) := by decide +kernel
theorem dL_walk_344 : decode cL_walk 344 = .ok (.if_icmp .ne 25, 3) := by decide +kernel
theorem dL_walk_347 : decode cL_walk 347 = .ok (.aload_n 0, 1) := by decide +kernel
theorem dL_walk_348 : decode cL_walk 348 = .ok (.aload_n 1, 1) := by decide +kernel
theorem dL_walk_349 : decode cL_walk 349 = .ok (.iload_n 2, 1) := by decide +kernel
theorem dL_walk_350 : decode cL_walk 350 = .ok (.iload 7, 2) := by decide +kernel
theorem dL_walk_352 : decode cL_walk 352 = .ok (.aload_n 1, 1) := by decide +kernel
theorem dL_walk_353 : decode cL_walk 353 = .ok (.bipush 12, 2) := by decide +kernel
theorem dL_walk_355 : decode cL_walk 355 = .ok (.iload_n 3, 1) := by decide +kernel
theorem dL_walk_356 : decode cL_walk 356 = .ok (.imul, 1) := by decide +kernel
theorem dL_walk_357 : decode cL_walk 357 = .ok (.iconst 2, 1) := by decide +kernel
theorem dL_walk_358 : decode cL_walk 358 = .ok (.iload 8, 2) := by decide +kernel
theorem dL_walk_360 : decode cL_walk 360 = .ok (.imul, 1) := by decide +kernel
theorem dL_walk_361 : decode cL_walk 361 = .ok (.iadd, 1) := by decide +kernel
theorem dL_walk_362 : decode cL_walk 362 = .ok (.iaload, 1) := by decide +kernel
theorem dL_walk_363 : decode cL_walk 363 = .ok (.invokestatic 20, 3) := by decide +kernel
theorem dL_walk_366 : decode cL_walk 366 = .ok (.goto 5, 3) := by decide +kernel
theorem dL_walk_369 : decode cL_walk 369 = .ok (.ldc 36, 2) := by decide +kernel
theorem dL_walk_371 : decode cL_walk 371 = .ok (.iastore, 1) := by decide +kernel
theorem dL_walk_372 : decode cL_walk 372 = .ok (.iload 12, 2) := by decide +kernel
theorem dL_walk_374 : decode cL_walk 374 = .ok (.iconst 3, 1) := by decide +kernel
theorem dL_walk_375 : decode cL_walk 375 = .ok (.if_icmp .ge 34, 3) := by decide +kernel
theorem dL_walk_378 : decode cL_walk 378 = .ok (.aload 5, 2) := by decide +kernel
theorem dL_walk_380 : decode cL_walk 380 = .ok (.iload 7, 2) := by decide +kernel
theorem dL_walk_382 : decode cL_walk 382 = .ok (.iload 12, 2) := by decide +kernel
theorem dL_walk_384 : decode cL_walk 384 = .ok (.iastore, 1) := by decide +kernel
theorem dL_walk_385 : decode cL_walk 385 = .ok (.aload 5, 2) := by decide +kernel
theorem dL_walk_387 : decode cL_walk 387 = .ok (.bipush 12, 2) := by decide +kernel
theorem dL_walk_389 : decode cL_walk 389 = .ok (.iload 7, 2) := by decide +kernel
theorem dL_walk_391 : decode cL_walk 391 = .ok (.iadd, 1) := by decide +kernel
theorem dL_walk_392 : decode cL_walk 392 = .ok (.iload 12, 2) := by decide +kernel
theorem dL_walk_394 : decode cL_walk 394 = .ok (.iconst 1, 1) := by decide +kernel
theorem dL_walk_395 : decode cL_walk 395 = .ok (.if_icmp .ne 8, 3) := by decide +kernel
theorem dL_walk_398 : decode cL_walk 398 = .ok (.iload 8, 2) := by decide +kernel
theorem dL_walk_400 : decode cL_walk 400 = .ok (.goto 5, 3) := by decide +kernel
theorem dL_walk_403 : decode cL_walk 403 = .ok (.ldc 36, 2) := by decide +kernel
theorem dL_walk_405 : decode cL_walk 405 = .ok (.iastore, 1) := by decide +kernel
theorem dL_walk_406 : decode cL_walk 406 = .ok (.iinc 7 1, 3) := by decide +kernel
theorem dL_walk_409 : decode cL_walk 409 = .ok (.iload 8, 2) := by decide +kernel
theorem dL_walk_411 : decode cL_walk 411 = .ok (.iload 12, 2) := by decide +kernel
theorem dL_walk_413 : decode cL_walk 413 = .ok (.iconst 2, 1) := by decide +kernel
theorem dL_walk_414 : decode cL_walk 414 = .ok (.if_icmp .ne 7, 3) := by decide +kernel
theorem dL_walk_417 : decode cL_walk 417 = .ok (.iconst 0, 1) := by decide +kernel
theorem dL_walk_418 : decode cL_walk 418 = .ok (.goto 4, 3) := by decide +kernel
theorem dL_walk_421 : decode cL_walk 421 = .ok (.iconst 1, 1) := by decide +kernel
theorem dL_walk_422 : decode cL_walk 422 = .ok (.iadd, 1) := by decide +kernel
theorem dL_walk_423 : decode cL_walk 423 = .ok (.istore 8, 2) := by decide +kernel
theorem dL_walk_425 : decode cL_walk 425 = .ok (.goto (-387), 3) := by decide +kernel
theorem dL_walk_428 : decode cL_walk 428 = .ok (.return_, 1) := by decide +kernel
theorem dL_cuts_0 : decode cL_cuts 0 = .ok (.iconst 0, 1) := by decide +kernel
theorem dL_cuts_1 : decode cL_cuts 1 = .ok (.istore 6, 2) := by decide +kernel
theorem dL_cuts_3 : decode cL_cuts 3 = .ok (.iconst 0, 1) := by decide +kernel
theorem dL_cuts_4 : decode cL_cuts 4 = .ok (.istore 7, 2) := by decide +kernel
theorem dL_cuts_6 : decode cL_cuts 6 = .ok (.iload 7, 2) := by decide +kernel
theorem dL_cuts_8 : decode cL_cuts 8 = .ok (.iconst 3, 1) := by decide +kernel
theorem dL_cuts_9 : decode cL_cuts 9 = .ok (.if_icmp .ge 181, 3) := by decide +kernel
theorem dL_cuts_12 : decode cL_cuts 12 = .ok (.iload 7, 2) := by decide +kernel
theorem dL_cuts_14 : decode cL_cuts 14 = .ok (.ifCond .ne 7, 3) := by decide +kernel
theorem dL_cuts_17 : decode cL_cuts 17 = .ok (.iconst 0, 1) := by decide +kernel
theorem dL_cuts_18 : decode cL_cuts 18 = .ok (.goto 29, 3) := by decide +kernel
theorem dL_cuts_21 : decode cL_cuts 21 = .ok (.iload 7, 2) := by decide +kernel
theorem dL_cuts_23 : decode cL_cuts 23 = .ok (.iconst 1, 1) := by decide +kernel
theorem dL_cuts_24 : decode cL_cuts 24 = .ok (.if_icmp .ne 10, 3) := by decide +kernel
theorem dL_cuts_27 : decode cL_cuts 27 = .ok (.iload_n 3, 1) := by decide +kernel
theorem dL_cuts_28 : decode cL_cuts 28 = .ok (.iload 4, 2) := by decide +kernel
theorem dL_cuts_30 : decode cL_cuts 30 = .ok (.iadd, 1) := by decide +kernel
theorem dL_cuts_31 : decode cL_cuts 31 = .ok (.goto 16, 3) := by decide +kernel
theorem dL_cuts_34 : decode cL_cuts 34 = .ok (.iload 4, 2) := by decide +kernel
theorem dL_cuts_36 : decode cL_cuts 36 = .ok (.ifCond .le 10, 3) := by decide +kernel
theorem dL_cuts_39 : decode cL_cuts 39 = .ok (.iload_n 3, 1) := by decide +kernel
theorem dL_cuts_40 : decode cL_cuts 40 = .ok (.iload 4, 2) := by decide +kernel
theorem dL_cuts_42 : decode cL_cuts 42 = .ok (.iadd, 1) := by decide +kernel
theorem dL_cuts_43 : decode cL_cuts 43 = .ok (.goto 4, 3) := by decide +kernel
theorem dL_cuts_46 : decode cL_cuts 46 = .ok (.iload_n 3, 1) := by decide +kernel
theorem dL_cuts_47 : decode cL_cuts 47 = .ok (.istore 8, 2) := by decide +kernel
theorem dL_cuts_49 : decode cL_cuts 49 = .ok (.iload 7, 2) := by decide +kernel
theorem dL_cuts_51 : decode cL_cuts 51 = .ok (.iconst 2, 1) := by decide +kernel
theorem dL_cuts_52 : decode cL_cuts 52 = .ok (.if_icmp .ge 7, 3) := by decide +kernel
theorem dL_cuts_55 : decode cL_cuts 55 = .ok (.iload_n 3, 1) := by decide +kernel
theorem dL_cuts_56 : decode cL_cuts 56 = .ok (.goto 5, 3) := by decide +kernel
theorem dL_cuts_59 : decode cL_cuts 59 = .ok (.ldc 37, 2) := by decide +kernel
theorem dL_cuts_61 : decode cL_cuts 61 = .ok (.istore 9, 2) := by decide +kernel
theorem dL_cuts_63 : decode cL_cuts 63 = .ok (.iconst 0, 1) := by decide +kernel
theorem dL_cuts_64 : decode cL_cuts 64 = .ok (.istore 10, 2) := by decide +kernel
theorem dL_cuts_66 : decode cL_cuts 66 = .ok (.iload 10, 2) := by decide +kernel
theorem dL_cuts_68 : decode cL_cuts 68 = .ok (.aload_n 0, 1) := by decide +kernel
theorem dL_cuts_69 : decode cL_cuts 69 = .ok (.bipush 10, 2) := by decide +kernel
theorem dL_cuts_71 : decode cL_cuts 71 = .ok (.iload_n 2, 1) := by decide +kernel
theorem dL_cuts_72 : decode cL_cuts 72 = .ok (.iadd, 1) := by decide +kernel
theorem dL_cuts_73 : decode cL_cuts 73 = .ok (.iaload, 1) := by decide +kernel
theorem dL_cuts_74 : decode cL_cuts 74 = .ok (.if_icmp .ge 110, 3) := by decide +kernel
theorem dL_cuts_77 : decode cL_cuts 77 = .ok (.aload_n 1, 1) := by decide +kernel
theorem dL_cuts_78 : decode cL_cuts 78 = .ok (.iload_n 2, 1) := by decide +kernel
theorem dL_cuts_79 : decode cL_cuts 79 = .ok (.iload 10, 2) := by decide +kernel
theorem dL_cuts_81 : decode cL_cuts 81 = .ok (.invokestatic 32, 3) := by decide +kernel
theorem dL_cuts_84 : decode cL_cuts 84 = .ok (.istore 11, 2) := by decide +kernel
theorem dL_cuts_86 : decode cL_cuts 86 = .ok (.iload 11, 2) := by decide +kernel
theorem dL_cuts_88 : decode cL_cuts 88 = .ok (.aload_n 1, 1) := by decide +kernel
theorem dL_cuts_89 : decode cL_cuts 89 = .ok (.bipush 12, 2) := by decide +kernel
theorem dL_cuts_91 : decode cL_cuts 91 = .ok (.iload_n 2, 1) := by decide +kernel
theorem dL_cuts_92 : decode cL_cuts 92 = .ok (.imul, 1) := by decide +kernel
theorem dL_cuts_93 : decode cL_cuts 93 = .ok (.iconst 2, 1) := by decide +kernel
theorem dL_cuts_94 : decode cL_cuts 94 = .ok (.iload 10, 2) := by decide +kernel
theorem dL_cuts_96 : decode cL_cuts 96 = .ok (.imul, 1) := by decide +kernel
theorem dL_cuts_97 : decode cL_cuts 97 = .ok (.iadd, 1) := by decide +kernel
theorem dL_cuts_98 : decode cL_cuts 98 = .ok (.iconst 1, 1) := by decide +kernel
theorem dL_cuts_99 : decode cL_cuts 99 = .ok (.iadd, 1) := by decide +kernel
theorem dL_cuts_100 : decode cL_cuts 100 = .ok (.iaload, 1) := by decide +kernel
theorem dL_cuts_101 : decode cL_cuts 101 = .ok (.iadd, 1) := by decide +kernel
theorem dL_cuts_102 : decode cL_cuts 102 = .ok (.istore 12, 2) := by decide +kernel
theorem dL_cuts_104 : decode cL_cuts 104 = .ok (.iload 11, 2) := by decide +kernel
theorem dL_cuts_106 : decode cL_cuts 106 = .ok (.iload 8, 2) := by decide +kernel
theorem dL_cuts_108 : decode cL_cuts 108 = .ok (.if_icmp .le 8, 3) := by decide +kernel
theorem dL_cuts_111 : decode cL_cuts 111 = .ok (.iload 11, 2) := by decide +kernel
theorem dL_cuts_113 : decode cL_cuts 113 = .ok (.goto 5, 3) := by decide +kernel
theorem dL_cuts_116 : decode cL_cuts 116 = .ok (.iload 8, 2) := by decide +kernel
theorem dL_cuts_118 : decode cL_cuts 118 = .ok (.istore 13, 2) := by decide +kernel
theorem dL_cuts_120 : decode cL_cuts 120 = .ok (.iload 12, 2) := by decide +kernel
theorem dL_cuts_122 : decode cL_cuts 122 = .ok (.iload 9, 2) := by decide +kernel
theorem dL_cuts_124 : decode cL_cuts 124 = .ok (.if_icmp .ge 8, 3) := by decide +kernel
theorem dL_cuts_127 : decode cL_cuts 127 = .ok (.iload 12, 2) := by decide +kernel
theorem dL_cuts_129 : decode cL_cuts 129 = .ok (.goto 5, 3) := by decide +kernel
theorem dL_cuts_132 : decode cL_cuts 132 = .ok (.iload 9, 2) := by decide +kernel
theorem dL_cuts_134 : decode cL_cuts 134 = .ok (.istore 14, 2) := by decide +kernel
theorem dL_cuts_136 : decode cL_cuts 136 = .ok (.iload 14, 2) := by decide +kernel
theorem dL_cuts_138 : decode cL_cuts 138 = .ok (.iload 13, 2) := by decide +kernel
theorem dL_cuts_140 : decode cL_cuts 140 = .ok (.if_icmp .le 38, 3) := by decide +kernel
theorem dL_cuts_143 : decode cL_cuts 143 = .ok (.aload 5, 2) := by decide +kernel
theorem dL_cuts_145 : decode cL_cuts 145 = .ok (.iconst 2, 1) := by decide +kernel
theorem dL_cuts_146 : decode cL_cuts 146 = .ok (.iload 6, 2) := by decide +kernel
theorem dL_cuts_148 : decode cL_cuts 148 = .ok (.imul, 1) := by decide +kernel
theorem dL_cuts_149 : decode cL_cuts 149 = .ok (.aload_n 1, 1) := by decide +kernel
theorem dL_cuts_150 : decode cL_cuts 150 = .ok (.bipush 12, 2) := by decide +kernel
theorem dL_cuts_152 : decode cL_cuts 152 = .ok (.iload_n 2, 1) := by decide +kernel
theorem dL_cuts_153 : decode cL_cuts 153 = .ok (.imul, 1) := by decide +kernel
theorem dL_cuts_154 : decode cL_cuts 154 = .ok (.iconst 2, 1) := by decide +kernel
theorem dL_cuts_155 : decode cL_cuts 155 = .ok (.iload 10, 2) := by decide +kernel
theorem dL_cuts_157 : decode cL_cuts 157 = .ok (.imul, 1) := by decide +kernel
theorem dL_cuts_158 : decode cL_cuts 158 = .ok (.iadd, 1) := by decide +kernel
theorem dL_cuts_159 : decode cL_cuts 159 = .ok (.iaload, 1) := by decide +kernel
theorem dL_cuts_160 : decode cL_cuts 160 = .ok (.iastore, 1) := by decide +kernel
theorem dL_cuts_161 : decode cL_cuts 161 = .ok (.aload 5, 2) := by decide +kernel
theorem dL_cuts_163 : decode cL_cuts 163 = .ok (.iconst 2, 1) := by decide +kernel
theorem dL_cuts_164 : decode cL_cuts 164 = .ok (.iload 6, 2) := by decide +kernel
theorem dL_cuts_166 : decode cL_cuts 166 = .ok (.imul, 1) := by decide +kernel
theorem dL_cuts_167 : decode cL_cuts 167 = .ok (.iconst 1, 1) := by decide +kernel
theorem dL_cuts_168 : decode cL_cuts 168 = .ok (.iadd, 1) := by decide +kernel
theorem dL_cuts_169 : decode cL_cuts 169 = .ok (.iload 14, 2) := by decide +kernel
theorem dL_cuts_171 : decode cL_cuts 171 = .ok (.iload 13, 2) := by decide +kernel
theorem dL_cuts_173 : decode cL_cuts 173 = .ok (.isub, 1) := by decide +kernel
theorem dL_cuts_174 : decode cL_cuts 174 = .ok (.iastore, 1) := by decide +kernel
theorem dL_cuts_175 : decode cL_cuts 175 = .ok (.iinc 6 1, 3) := by decide +kernel
theorem dL_cuts_178 : decode cL_cuts 178 = .ok (.iinc 10 1, 3) := by decide +kernel
theorem dL_cuts_181 : decode cL_cuts 181 = .ok (.goto (-115), 3) := by decide +kernel
theorem dL_cuts_184 : decode cL_cuts 184 = .ok (.iinc 7 1, 3) := by decide +kernel
theorem dL_cuts_187 : decode cL_cuts 187 = .ok (.goto (-181), 3) := by decide +kernel
theorem dL_cuts_190 : decode cL_cuts 190 = .ok (.iload 6, 2) := by decide +kernel
theorem dL_cuts_192 : decode cL_cuts 192 = .ok (.ireturn, 1) := by decide +kernel
theorem dL_acts_0 : decode cL_acts 0 = .ok (.iload_n 3, 1) := by decide +kernel
theorem dL_acts_1 : decode cL_acts 1 = .ok (.iconst 5, 1) := by decide +kernel
theorem dL_acts_2 : decode cL_acts 2 = .ok (.ishr, 1) := by decide +kernel
theorem dL_acts_3 : decode cL_acts 3 = .ok (.ldc 38, 2) := by decide +kernel
theorem dL_acts_5 : decode cL_acts 5 = .ok (.invokestatic 39, 3) := by decide +kernel
theorem dL_acts_8 : decode cL_acts 8 = .ok (.istore 4, 2) := by decide +kernel
theorem dL_acts_10 : decode cL_acts 10 = .ok (.iload 4, 2) := by decide +kernel
theorem dL_acts_12 : decode cL_acts 12 = .ok (.iconst 4, 1) := by decide +kernel
theorem dL_acts_13 : decode cL_acts 13 = .ok (.irem, 1) := by decide +kernel
theorem dL_acts_14 : decode cL_acts 14 = .ok (.istore 5, 2) := by decide +kernel
theorem dL_acts_16 : decode cL_acts 16 = .ok (.aload_n 1, 1) := by decide +kernel
theorem dL_acts_17 : decode cL_acts 17 = .ok (.bipush 10, 2) := by decide +kernel
theorem dL_acts_19 : decode cL_acts 19 = .ok (.iload 5, 2) := by decide +kernel
theorem dL_acts_21 : decode cL_acts 21 = .ok (.iadd, 1) := by decide +kernel
theorem dL_acts_22 : decode cL_acts 22 = .ok (.iaload, 1) := by decide +kernel
theorem dL_acts_23 : decode cL_acts 23 = .ok (.istore 6, 2) := by decide +kernel
theorem dL_acts_25 : decode cL_acts 25 = .ok (.iload 6, 2) := by decide +kernel
theorem dL_acts_27 : decode cL_acts 27 = .ok (.ifCond .ne 7, 3) := by decide +kernel
theorem dL_acts_30 : decode cL_acts 30 = .ok (.iconst 0, 1) := by decide +kernel
theorem dL_acts_31 : decode cL_acts 31 = .ok (.goto 10, 3) := by decide +kernel
theorem dL_acts_34 : decode cL_acts 34 = .ok (.iload 4, 2) := by decide +kernel
theorem dL_acts_36 : decode cL_acts 36 = .ok (.iconst 4, 1) := by decide +kernel
theorem dL_acts_37 : decode cL_acts 37 = .ok (.idiv, 1) := by decide +kernel
theorem dL_acts_38 : decode cL_acts 38 = .ok (.iload 6, 2) := by decide +kernel
theorem dL_acts_40 : decode cL_acts 40 = .ok (.irem, 1) := by decide +kernel
theorem dL_acts_41 : decode cL_acts 41 = .ok (.istore 7, 2) := by decide +kernel
theorem dL_acts_43 : decode cL_acts 43 = .ok (.bipush 12, 2) := by decide +kernel
theorem dL_acts_45 : decode cL_acts 45 = .ok (.iload 5, 2) := by decide +kernel
theorem dL_acts_47 : decode cL_acts 47 = .ok (.imul, 1) := by decide +kernel
theorem dL_acts_48 : decode cL_acts 48 = .ok (.iconst 2, 1) := by decide +kernel
theorem dL_acts_49 : decode cL_acts 49 = .ok (.iload 7, 2) := by decide +kernel
theorem dL_acts_51 : decode cL_acts 51 = .ok (.imul, 1) := by decide +kernel
theorem dL_acts_52 : decode cL_acts 52 = .ok (.iadd, 1) := by decide +kernel
theorem dL_acts_53 : decode cL_acts 53 = .ok (.istore 8, 2) := by decide +kernel
theorem dL_acts_55 : decode cL_acts 55 = .ok (.iload_n 3, 1) := by decide +kernel
theorem dL_acts_56 : decode cL_acts 56 = .ok (.bipush 20, 2) := by decide +kernel
theorem dL_acts_58 : decode cL_acts 58 = .ok (.invokestatic 39, 3) := by decide +kernel
theorem dL_acts_61 : decode cL_acts 61 = .ok (.tableswitch 780 0 11 #[63, 63, 63, 174, 236, 288, 399, 399, 534, 534, 534, 534], 63) := by decide +kernel
theorem dL_acts_124 : decode cL_acts 124 = .ok (.iload 4, 2) := by decide +kernel
theorem dL_acts_126 : decode cL_acts 126 = .ok (.iconst 5, 1) := by decide +kernel
theorem dL_acts_127 : decode cL_acts 127 = .ok (.irem, 1) := by decide +kernel
theorem dL_acts_128 : decode cL_acts 128 = .ok (.istore 9, 2) := by decide +kernel
theorem dL_acts_130 : decode cL_acts 130 = .ok (.iload 9, 2) := by decide +kernel
theorem dL_acts_132 : decode cL_acts 132 = .ok (.iconst 2, 1) := by decide +kernel
theorem dL_acts_133 : decode cL_acts 133 = .ok (.if_icmp .ne 13, 3) := by decide +kernel
theorem dL_acts_136 : decode cL_acts 136 = .ok (.iload 4, 2) := by decide +kernel
theorem dL_acts_138 : decode cL_acts 138 = .ok (.iconst 5, 1) := by decide +kernel
theorem dL_acts_139 : decode cL_acts 139 = .ok (.idiv, 1) := by decide +kernel
theorem dL_acts_140 : decode cL_acts 140 = .ok (.bipush 10, 2) := by decide +kernel
theorem dL_acts_142 : decode cL_acts 142 = .ok (.irem, 1) := by decide +kernel
theorem dL_acts_143 : decode cL_acts 143 = .ok (.goto 59, 3) := by decide +kernel
theorem dL_acts_146 : decode cL_acts 146 = .ok (.iconst 1, 1) := by decide +kernel
theorem dL_acts_147 : decode cL_acts 147 = .ok (.iload 4, 2) := by decide +kernel
theorem dL_acts_149 : decode cL_acts 149 = .ok (.iconst 5, 1) := by decide +kernel
theorem dL_acts_150 : decode cL_acts 150 = .ok (.idiv, 1) := by decide +kernel
theorem dL_acts_151 : decode cL_acts 151 = .ok (.iload 9, 2) := by decide +kernel
theorem dL_acts_153 : decode cL_acts 153 = .ok (.iconst 3, 1) := by decide +kernel
theorem dL_acts_154 : decode cL_acts 154 = .ok (.if_icmp .ne 8, 3) := by decide +kernel
theorem dL_acts_157 : decode cL_acts 157 = .ok (.bipush 8, 2) := by decide +kernel
theorem dL_acts_159 : decode cL_acts 159 = .ok (.goto 41, 3) := by decide +kernel
theorem dL_acts_162 : decode cL_acts 162 = .ok (.iload 9, 2) := by decide +kernel
theorem dL_acts_164 : decode cL_acts 164 = .ok (.iconst 4, 1) := by decide +kernel
theorem dL_acts_165 : decode cL_acts 165 = .ok (.if_icmp .ne 21, 3) := by decide +kernel
theorem dL_acts_168 : decode cL_acts 168 = .ok (.iload 4, 2) := by decide +kernel
theorem dL_acts_170 : decode cL_acts 170 = .ok (.iconst 2, 1) := by decide +kernel
theorem dL_acts_171 : decode cL_acts 171 = .ok (.irem, 1) := by decide +kernel
theorem dL_acts_172 : decode cL_acts 172 = .ok (.ifCond .ne 9, 3) := by decide +kernel
theorem dL_acts_175 : decode cL_acts 175 = .ok (.sipush 999, 3) := by decide +kernel
theorem dL_acts_178 : decode cL_acts 178 = .ok (.goto 22, 3) := by decide +kernel
theorem dL_acts_181 : decode cL_acts 181 = .ok (.bipush 30, 2) := by decide +kernel
theorem dL_acts_183 : decode cL_acts 183 = .ok (.goto 17, 3) := by decide +kernel
theorem dL_acts_186 : decode cL_acts 186 = .ok (.iload 4, 2) := by decide +kernel
theorem dL_acts_188 : decode cL_acts 188 = .ok (.iconst 3, 1) := by decide +kernel
theorem dL_acts_189 : decode cL_acts 189 = .ok (.irem, 1) := by decide +kernel
theorem dL_acts_190 : decode cL_acts 190 = .ok (.ifCond .ne 8, 3) := by decide +kernel
theorem dL_acts_193 : decode cL_acts 193 = .ok (.bipush 99, 2) := by decide +kernel
theorem dL_acts_195 : decode cL_acts 195 = .ok (.goto 5, 3) := by decide +kernel
theorem dL_acts_198 : decode cL_acts 198 = .ok (.bipush 20, 2) := by decide +kernel
theorem dL_acts_200 : decode cL_acts 200 = .ok (.irem, 1) := by decide +kernel
theorem dL_acts_201 : decode cL_acts 201 = .ok (.iadd, 1) := by decide +kernel
theorem dL_acts_202 : decode cL_acts 202 = .ok (.istore 10, 2) := by decide +kernel
theorem dL_acts_204 : decode cL_acts 204 = .ok (.aload_n 1, 1) := by decide +kernel
theorem dL_acts_205 : decode cL_acts 205 = .ok (.iload 9, 2) := by decide +kernel
theorem dL_acts_207 : decode cL_acts 207 = .ok (.iaload, 1) := by decide +kernel
theorem dL_acts_208 : decode cL_acts 208 = .ok (.istore 11, 2) := by decide +kernel
theorem dL_acts_210 : decode cL_acts 210 = .ok (.aload_n 1, 1) := by decide +kernel
theorem dL_acts_211 : decode cL_acts 211 = .ok (.iload 9, 2) := by decide +kernel
theorem dL_acts_213 : decode cL_acts 213 = .ok (.iload 10, 2) := by decide +kernel
theorem dL_acts_215 : decode cL_acts 215 = .ok (.iastore, 1) := by decide +kernel
theorem dL_acts_216 : decode cL_acts 216 = .ok (.aload_n 0, 1) := by decide +kernel
theorem dL_acts_217 : decode cL_acts 217 = .ok (.iload 9, 2) := by decide +kernel
theorem dL_acts_219 : decode cL_acts 219 = .ok (.iload 10, 2) := by decide +kernel
theorem dL_acts_221 : decode cL_acts 221 = .ok (.invokevirtual 42, 3) := by decide +kernel
theorem dL_acts_224 : decode cL_acts 224 = .ok (.iload 11, 2) := by decide +kernel
theorem dL_acts_226 : decode cL_acts 226 = .ok (.if_icmp .ne 7, 3) := by decide +kernel
theorem dL_acts_229 : decode cL_acts 229 = .ok (.iconst 1, 1) := by decide +kernel
theorem dL_acts_230 : decode cL_acts 230 = .ok (.goto 4, 3) := by decide +kernel
theorem dL_acts_233 : decode cL_acts 233 = .ok (.iconst 0, 1) := by decide +kernel
theorem dL_acts_234 : decode cL_acts 234 = .ok (.ireturn, 1) := by decide +kernel
theorem dL_acts_235 : decode cL_acts 235 = .ok (.iload 4, 2) := by decide +kernel
theorem dL_acts_237 : decode cL_acts 237 = .ok (.iconst 5, 1) := by decide +kernel
theorem dL_acts_238 : decode cL_acts 238 = .ok (.irem, 1) := by decide +kernel
theorem dL_acts_239 : decode cL_acts 239 = .ok (.istore 12, 2) := by decide +kernel
theorem dL_acts_241 : decode cL_acts 241 = .ok (.aload_n 1, 1) := by decide +kernel
theorem dL_acts_242 : decode cL_acts 242 = .ok (.iconst 5, 1) := by decide +kernel
theorem dL_acts_243 : decode cL_acts 243 = .ok (.iaload, 1) := by decide +kernel
theorem dL_acts_244 : decode cL_acts 244 = .ok (.iload 12, 2) := by decide +kernel
theorem dL_acts_246 : decode cL_acts 246 = .ok (.ishr, 1) := by decide +kernel
theorem dL_acts_247 : decode cL_acts 247 = .ok (.iconst 1, 1) := by decide +kernel
theorem dL_acts_248 : decode cL_acts 248 = .ok (.iand, 1) := by decide +kernel
theorem dL_acts_249 : decode cL_acts 249 = .ok (.istore 13, 2) := by decide +kernel
theorem dL_acts_251 : decode cL_acts 251 = .ok (.aload_n 1, 1) := by decide +kernel
theorem dL_acts_252 : decode cL_acts 252 = .ok (.iconst 5, 1) := by decide +kernel
theorem dL_acts_253 : decode cL_acts 253 = .ok (.aload_n 1, 1) := by decide +kernel
theorem dL_acts_254 : decode cL_acts 254 = .ok (.iconst 5, 1) := by decide +kernel
theorem dL_acts_255 : decode cL_acts 255 = .ok (.iaload, 1) := by decide +kernel
theorem dL_acts_256 : decode cL_acts 256 = .ok (.iconst 1, 1) := by decide +kernel
theorem dL_acts_257 : decode cL_acts 257 = .ok (.iload 12, 2) := by decide +kernel
theorem dL_acts_259 : decode cL_acts 259 = .ok (.ishl, 1) := by decide +kernel
theorem dL_acts_260 : decode cL_acts 260 = .ok (.iconst (-1), 1) := by decide +kernel
theorem dL_acts_261 : decode cL_acts 261 = .ok (.ixor, 1) := by decide +kernel
theorem dL_acts_262 : decode cL_acts 262 = .ok (.iand, 1) := by decide +kernel
theorem dL_acts_263 : decode cL_acts 263 = .ok (.iload 4, 2) := by decide +kernel
theorem dL_acts_265 : decode cL_acts 265 = .ok (.iconst 5, 1) := by decide +kernel
theorem dL_acts_266 : decode cL_acts 266 = .ok (.idiv, 1) := by decide +kernel
theorem dL_acts_267 : decode cL_acts 267 = .ok (.iconst 2, 1) := by decide +kernel
theorem dL_acts_268 : decode cL_acts 268 = .ok (.irem, 1) := by decide +kernel
theorem dL_acts_269 : decode cL_acts 269 = .ok (.iload 12, 2) := by decide +kernel
theorem dL_acts_271 : decode cL_acts 271 = .ok (.ishl, 1) := by decide +kernel
theorem dL_acts_272 : decode cL_acts 272 = .ok (.ior, 1) := by decide +kernel
theorem dL_acts_273 : decode cL_acts 273 = .ok (.iastore, 1) := by decide +kernel
theorem dL_acts_274 : decode cL_acts 274 = .ok (.aload_n 0, 1) := by decide +kernel
theorem dL_acts_275 : decode cL_acts 275 = .ok (.iload 12, 2) := by decide +kernel
theorem dL_acts_277 : decode cL_acts 277 = .ok (.iload 4, 2) := by decide +kernel
theorem dL_acts_279 : decode cL_acts 279 = .ok (.iconst 5, 1) := by decide +kernel
theorem dL_acts_280 : decode cL_acts 280 = .ok (.idiv, 1) := by decide +kernel
theorem dL_acts_281 : decode cL_acts 281 = .ok (.iconst 2, 1) := by decide +kernel
theorem dL_acts_282 : decode cL_acts 282 = .ok (.irem, 1) := by decide +kernel
theorem dL_acts_283 : decode cL_acts 283 = .ok (.invokevirtual 47, 3) := by decide +kernel
theorem dL_acts_286 : decode cL_acts 286 = .ok (.iload 13, 2) := by decide +kernel
theorem dL_acts_288 : decode cL_acts 288 = .ok (.if_icmp .ne 7, 3) := by decide +kernel
theorem dL_acts_291 : decode cL_acts 291 = .ok (.iconst 1, 1) := by decide +kernel
theorem dL_acts_292 : decode cL_acts 292 = .ok (.goto 4, 3) := by decide +kernel
theorem dL_acts_295 : decode cL_acts 295 = .ok (.iconst 0, 1) := by decide +kernel
theorem dL_acts_296 : decode cL_acts 296 = .ok (.ireturn, 1) := by decide +kernel
theorem dL_acts_297 : decode cL_acts 297 = .ok (.aload_n 1, 1) := by decide +kernel
theorem dL_acts_298 : decode cL_acts 298 = .ok (.bipush 6, 2) := by decide +kernel
theorem dL_acts_300 : decode cL_acts 300 = .ok (.iload 5, 2) := by decide +kernel
theorem dL_acts_302 : decode cL_acts 302 = .ok (.iadd, 1) := by decide +kernel
theorem dL_acts_303 : decode cL_acts 303 = .ok (.iaload, 1) := by decide +kernel
theorem dL_acts_304 : decode cL_acts 304 = .ok (.istore 14, 2) := by decide +kernel
theorem dL_acts_306 : decode cL_acts 306 = .ok (.aload_n 1, 1) := by decide +kernel
theorem dL_acts_307 : decode cL_acts 307 = .ok (.bipush 6, 2) := by decide +kernel
theorem dL_acts_309 : decode cL_acts 309 = .ok (.iload 5, 2) := by decide +kernel
theorem dL_acts_311 : decode cL_acts 311 = .ok (.iadd, 1) := by decide +kernel
theorem dL_acts_312 : decode cL_acts 312 = .ok (.iload 4, 2) := by decide +kernel
theorem dL_acts_314 : decode cL_acts 314 = .ok (.iconst 4, 1) := by decide +kernel
theorem dL_acts_315 : decode cL_acts 315 = .ok (.idiv, 1) := by decide +kernel
theorem dL_acts_316 : decode cL_acts 316 = .ok (.sipush 19999, 3) := by decide +kernel
theorem dL_acts_319 : decode cL_acts 319 = .ok (.irem, 1) := by decide +kernel
theorem dL_acts_320 : decode cL_acts 320 = .ok (.sipush 9999, 3) := by decide +kernel
theorem dL_acts_323 : decode cL_acts 323 = .ok (.isub, 1) := by decide +kernel
theorem dL_acts_324 : decode cL_acts 324 = .ok (.iastore, 1) := by decide +kernel
theorem dL_acts_325 : decode cL_acts 325 = .ok (.aload_n 0, 1) := by decide +kernel
theorem dL_acts_326 : decode cL_acts 326 = .ok (.iload 5, 2) := by decide +kernel
theorem dL_acts_328 : decode cL_acts 328 = .ok (.aload_n 1, 1) := by decide +kernel
theorem dL_acts_329 : decode cL_acts 329 = .ok (.bipush 6, 2) := by decide +kernel
theorem dL_acts_331 : decode cL_acts 331 = .ok (.iload 5, 2) := by decide +kernel
theorem dL_acts_333 : decode cL_acts 333 = .ok (.iadd, 1) := by decide +kernel
theorem dL_acts_334 : decode cL_acts 334 = .ok (.iaload, 1) := by decide +kernel
theorem dL_acts_335 : decode cL_acts 335 = .ok (.invokevirtual 50, 3) := by decide +kernel
theorem dL_acts_338 : decode cL_acts 338 = .ok (.iload 14, 2) := by decide +kernel
theorem dL_acts_340 : decode cL_acts 340 = .ok (.if_icmp .ne 7, 3) := by decide +kernel
theorem dL_acts_343 : decode cL_acts 343 = .ok (.iconst 1, 1) := by decide +kernel
theorem dL_acts_344 : decode cL_acts 344 = .ok (.goto 4, 3) := by decide +kernel
theorem dL_acts_347 : decode cL_acts 347 = .ok (.iconst 0, 1) := by decide +kernel
theorem dL_acts_348 : decode cL_acts 348 = .ok (.ireturn, 1) := by decide +kernel
theorem dL_acts_349 : decode cL_acts 349 = .ok (.iload 6, 2) := by decide +kernel
theorem dL_acts_351 : decode cL_acts 351 = .ok (.ifCond .eq 10, 3) := by decide +kernel
theorem dL_acts_354 : decode cL_acts 354 = .ok (.iload 4, 2) := by decide +kernel
theorem dL_acts_356 : decode cL_acts 356 = .ok (.iconst 3, 1) := by decide +kernel
theorem dL_acts_357 : decode cL_acts 357 = .ok (.irem, 1) := by decide +kernel
theorem dL_acts_358 : decode cL_acts 358 = .ok (.ifCond .le 22, 3) := by decide +kernel
theorem dL_acts_361 : decode cL_acts 361 = .ok (.aload_n 0, 1) := by decide +kernel
theorem dL_acts_362 : decode cL_acts 362 = .ok (.iload 5, 2) := by decide +kernel
theorem dL_acts_364 : decode cL_acts 364 = .ok (.iload 6, 2) := by decide +kernel
theorem dL_acts_366 : decode cL_acts 366 = .ok (.invokevirtual 53, 3) := by decide +kernel
theorem dL_acts_369 : decode cL_acts 369 = .ok (.ldc 56, 2) := by decide +kernel
theorem dL_acts_371 : decode cL_acts 371 = .ok (.if_icmp .ne 7, 3) := by decide +kernel
theorem dL_acts_374 : decode cL_acts 374 = .ok (.iconst 1, 1) := by decide +kernel
theorem dL_acts_375 : decode cL_acts 375 = .ok (.goto 4, 3) := by decide +kernel
theorem dL_acts_378 : decode cL_acts 378 = .ok (.iconst 0, 1) := by decide +kernel
theorem dL_acts_379 : decode cL_acts 379 = .ok (.ireturn, 1) := by decide +kernel
theorem dL_acts_380 : decode cL_acts 380 = .ok (.aload_n 2, 1) := by decide +kernel
theorem dL_acts_381 : decode cL_acts 381 = .ok (.iload 8, 2) := by decide +kernel
theorem dL_acts_383 : decode cL_acts 383 = .ok (.iconst 1, 1) := by decide +kernel
theorem dL_acts_384 : decode cL_acts 384 = .ok (.iadd, 1) := by decide +kernel
theorem dL_acts_385 : decode cL_acts 385 = .ok (.iaload, 1) := by decide +kernel
theorem dL_acts_386 : decode cL_acts 386 = .ok (.istore 15, 2) := by decide +kernel
theorem dL_acts_388 : decode cL_acts 388 = .ok (.iload 8, 2) := by decide +kernel
theorem dL_acts_390 : decode cL_acts 390 = .ok (.istore 16, 2) := by decide +kernel
theorem dL_acts_392 : decode cL_acts 392 = .ok (.iload 16, 2) := by decide +kernel
theorem dL_acts_394 : decode cL_acts 394 = .ok (.bipush 12, 2) := by decide +kernel
theorem dL_acts_396 : decode cL_acts 396 = .ok (.iload 5, 2) := by decide +kernel
theorem dL_acts_398 : decode cL_acts 398 = .ok (.imul, 1) := by decide +kernel
theorem dL_acts_399 : decode cL_acts 399 = .ok (.bipush 10, 2) := by decide +kernel
theorem dL_acts_401 : decode cL_acts 401 = .ok (.iadd, 1) := by decide +kernel
theorem dL_acts_402 : decode cL_acts 402 = .ok (.if_icmp .ge 19, 3) := by decide +kernel
theorem dL_acts_405 : decode cL_acts 405 = .ok (.aload_n 2, 1) := by decide +kernel
theorem dL_acts_406 : decode cL_acts 406 = .ok (.iload 16, 2) := by decide +kernel
theorem dL_acts_408 : decode cL_acts 408 = .ok (.aload_n 2, 1) := by decide +kernel
theorem dL_acts_409 : decode cL_acts 409 = .ok (.iload 16, 2) := by decide +kernel
theorem dL_acts_411 : decode cL_acts 411 = .ok (.iconst 2, 1) := by decide +kernel
theorem dL_acts_412 : decode cL_acts 412 = .ok (.iadd, 1) := by decide +kernel
theorem dL_acts_413 : decode cL_acts 413 = .ok (.iaload, 1) := by decide +kernel
theorem dL_acts_414 : decode cL_acts 414 = .ok (.iastore, 1) := by decide +kernel
theorem dL_acts_415 : decode cL_acts 415 = .ok (.iinc 16 1, 3) := by decide +kernel
theorem dL_acts_418 : decode cL_acts 418 = .ok (.goto (-26), 3) := by decide +kernel
theorem dL_acts_421 : decode cL_acts 421 = .ok (.aload_n 1, 1) := by decide +kernel
theorem dL_acts_422 : decode cL_acts 422 = .ok (.bipush 10, 2) := by decide +kernel
theorem dL_acts_424 : decode cL_acts 424 = .ok (.iload 5, 2) := by decide +kernel
theorem dL_acts_426 : decode cL_acts 426 = .ok (.iadd, 1) := by decide +kernel
theorem dL_acts_427 : decode cL_acts 427 = .ok (.dup2, 1) := by decide +kernel
theorem dL_acts_428 : decode cL_acts 428 = .ok (.iaload, 1) := by decide +kernel
theorem dL_acts_429 : decode cL_acts 429 = .ok (.iconst 1, 1) := by decide +kernel
theorem dL_acts_430 : decode cL_acts 430 = .ok (.isub, 1) := by decide +kernel
theorem dL_acts_431 : decode cL_acts 431 = .ok (.iastore, 1) := by decide +kernel
theorem dL_acts_432 : decode cL_acts 432 = .ok (.aload_n 1, 1) := by decide +kernel
theorem dL_acts_433 : decode cL_acts 433 = .ok (.bipush 15, 2) := by decide +kernel
theorem dL_acts_435 : decode cL_acts 435 = .ok (.dup2, 1) := by decide +kernel
theorem dL_acts_436 : decode cL_acts 436 = .ok (.iaload, 1) := by decide +kernel
theorem dL_acts_437 : decode cL_acts 437 = .ok (.iload 15, 2) := by decide +kernel
theorem dL_acts_439 : decode cL_acts 439 = .ok (.iadd, 1) := by decide +kernel
theorem dL_acts_440 : decode cL_acts 440 = .ok (.iastore, 1) := by decide +kernel
theorem dL_acts_441 : decode cL_acts 441 = .ok (.aload_n 0, 1) := by decide +kernel
theorem dL_acts_442 : decode cL_acts 442 = .ok (.iload 5, 2) := by decide +kernel
theorem dL_acts_444 : decode cL_acts 444 = .ok (.iload 7, 2) := by decide +kernel
theorem dL_acts_446 : decode cL_acts 446 = .ok (.invokevirtual 53, 3) := by decide +kernel
theorem dL_acts_449 : decode cL_acts 449 = .ok (.iload 15, 2) := by decide +kernel
theorem dL_acts_451 : decode cL_acts 451 = .ok (.if_icmp .ne 7, 3) := by decide +kernel
theorem dL_acts_454 : decode cL_acts 454 = .ok (.iconst 1, 1) := by decide +kernel
theorem dL_acts_455 : decode cL_acts 455 = .ok (.goto 4, 3) := by decide +kernel
theorem dL_acts_458 : decode cL_acts 458 = .ok (.iconst 0, 1) := by decide +kernel
theorem dL_acts_459 : decode cL_acts 459 = .ok (.ireturn, 1) := by decide +kernel
theorem dL_acts_460 : decode cL_acts 460 = .ok (.iload 6, 2) := by decide +kernel
theorem dL_acts_462 : decode cL_acts 462 = .ok (.ifCond .ne 22, 3) := by decide +kernel
theorem dL_acts_465 : decode cL_acts 465 = .ok (.aload_n 0, 1) := by decide +kernel
theorem dL_acts_466 : decode cL_acts 466 = .ok (.iload 5, 2) := by decide +kernel
theorem dL_acts_468 : decode cL_acts 468 = .ok (.iconst 0, 1) := by decide +kernel
theorem dL_acts_469 : decode cL_acts 469 = .ok (.iconst 5, 1) := by decide +kernel
theorem dL_acts_470 : decode cL_acts 470 = .ok (.invokevirtual 57, 3) := by decide +kernel
theorem dL_acts_473 : decode cL_acts 473 = .ok (.ldc 56, 2) := by decide +kernel
theorem dL_acts_475 : decode cL_acts 475 = .ok (.if_icmp .ne 7, 3) := by decide +kernel
theorem dL_acts_478 : decode cL_acts 478 = .ok (.iconst 1, 1) := by decide +kernel
theorem dL_acts_479 : decode cL_acts 479 = .ok (.goto 4, 3) := by decide +kernel
theorem dL_acts_482 : decode cL_acts 482 = .ok (.iconst 0, 1) := by decide +kernel
theorem dL_acts_483 : decode cL_acts 483 = .ok (.ireturn, 1) := by decide +kernel
theorem dL_acts_484 : decode cL_acts 484 = .ok (.aload_n 2, 1) := by decide +kernel
theorem dL_acts_485 : decode cL_acts 485 = .ok (.iload 8, 2) := by decide +kernel
theorem dL_acts_487 : decode cL_acts 487 = .ok (.iconst 1, 1) := by decide +kernel
theorem dL_acts_488 : decode cL_acts 488 = .ok (.iadd, 1) := by decide +kernel
theorem dL_acts_489 : decode cL_acts 489 = .ok (.iaload, 1) := by decide +kernel
theorem dL_acts_490 : decode cL_acts 490 = .ok (.istore 16, 2) := by decide +kernel
theorem dL_acts_492 : decode cL_acts 492 = .ok (.aload_n 2, 1) := by decide +kernel
theorem dL_acts_493 : decode cL_acts 493 = .ok (.iload 8, 2) := by decide +kernel
theorem dL_acts_495 : decode cL_acts 495 = .ok (.iconst 1, 1) := by decide +kernel
theorem dL_acts_496 : decode cL_acts 496 = .ok (.iadd, 1) := by decide +kernel
theorem dL_acts_497 : decode cL_acts 497 = .ok (.iconst 1, 1) := by decide +kernel
theorem dL_acts_498 : decode cL_acts 498 = .ok (.iload 4, 2) := by decide +kernel
theorem dL_acts_500 : decode cL_acts 500 = .ok (.bipush 20, 2) := by decide +kernel
theorem dL_acts_502 : decode cL_acts 502 = .ok (.idiv, 1) := by decide +kernel
theorem dL_acts_503 : decode cL_acts 503 = .ok (.bipush 99, 2) := by decide +kernel
theorem dL_acts_505 : decode cL_acts 505 = .ok (.irem, 1) := by decide +kernel
theorem dL_acts_506 : decode cL_acts 506 = .ok (.iadd, 1) := by decide +kernel
theorem dL_acts_507 : decode cL_acts 507 = .ok (.iastore, 1) := by decide +kernel
theorem dL_acts_508 : decode cL_acts 508 = .ok (.aload_n 1, 1) := by decide +kernel
theorem dL_acts_509 : decode cL_acts 509 = .ok (.bipush 14, 2) := by decide +kernel
theorem dL_acts_511 : decode cL_acts 511 = .ok (.dup2, 1) := by decide +kernel
theorem dL_acts_512 : decode cL_acts 512 = .ok (.iaload, 1) := by decide +kernel
theorem dL_acts_513 : decode cL_acts 513 = .ok (.aload_n 2, 1) := by decide +kernel
theorem dL_acts_514 : decode cL_acts 514 = .ok (.iload 8, 2) := by decide +kernel
theorem dL_acts_516 : decode cL_acts 516 = .ok (.iconst 1, 1) := by decide +kernel
theorem dL_acts_517 : decode cL_acts 517 = .ok (.iadd, 1) := by decide +kernel
theorem dL_acts_518 : decode cL_acts 518 = .ok (.iaload, 1) := by decide +kernel
theorem dL_acts_519 : decode cL_acts 519 = .ok (.iload 16, 2) := by decide +kernel
theorem dL_acts_521 : decode cL_acts 521 = .ok (.if_icmp .le 15, 3) := by decide +kernel
theorem dL_acts_524 : decode cL_acts 524 = .ok (.aload_n 2, 1) := by decide +kernel
theorem dL_acts_525 : decode cL_acts 525 = .ok (.iload 8, 2) := by decide +kernel
theorem dL_acts_527 : decode cL_acts 527 = .ok (.iconst 1, 1) := by decide +kernel
theorem dL_acts_528 : decode cL_acts 528 = .ok (.iadd, 1) := by decide +kernel
theorem dL_acts_529 : decode cL_acts 529 = .ok (.iaload, 1) := by decide +kernel
theorem dL_acts_530 : decode cL_acts 530 = .ok (.iload 16, 2) := by decide +kernel
theorem dL_acts_532 : decode cL_acts 532 = .ok (.isub, 1) := by decide +kernel
theorem dL_acts_533 : decode cL_acts 533 = .ok (.goto 4, 3) := by decide +kernel
theorem dL_acts_536 : decode cL_acts 536 = .ok (.iconst 0, 1) := by decide +kernel
theorem dL_acts_537 : decode cL_acts 537 = .ok (.iadd, 1) := by decide +kernel
theorem dL_acts_538 : decode cL_acts 538 = .ok (.iastore, 1) := by decide +kernel
theorem dL_acts_539 : decode cL_acts 539 = .ok (.aload_n 1, 1) := by decide +kernel
theorem dL_acts_540 : decode cL_acts 540 = .ok (.bipush 15, 2) := by decide +kernel
theorem dL_acts_542 : decode cL_acts 542 = .ok (.dup2, 1) := by decide +kernel
theorem dL_acts_543 : decode cL_acts 543 = .ok (.iaload, 1) := by decide +kernel
theorem dL_acts_544 : decode cL_acts 544 = .ok (.aload_n 2, 1) := by decide +kernel
theorem dL_acts_545 : decode cL_acts 545 = .ok (.iload 8, 2) := by decide +kernel
theorem dL_acts_547 : decode cL_acts 547 = .ok (.iconst 1, 1) := by decide +kernel
theorem dL_acts_548 : decode cL_acts 548 = .ok (.iadd, 1) := by decide +kernel
theorem dL_acts_549 : decode cL_acts 549 = .ok (.iaload, 1) := by decide +kernel
theorem dL_acts_550 : decode cL_acts 550 = .ok (.iload 16, 2) := by decide +kernel
theorem dL_acts_552 : decode cL_acts 552 = .ok (.if_icmp .ge 15, 3) := by decide +kernel
theorem dL_acts_555 : decode cL_acts 555 = .ok (.iload 16, 2) := by decide +kernel
theorem dL_acts_557 : decode cL_acts 557 = .ok (.aload_n 2, 1) := by decide +kernel
theorem dL_acts_558 : decode cL_acts 558 = .ok (.iload 8, 2) := by decide +kernel
theorem dL_acts_560 : decode cL_acts 560 = .ok (.iconst 1, 1) := by decide +kernel
theorem dL_acts_561 : decode cL_acts 561 = .ok (.iadd, 1) := by decide +kernel
theorem dL_acts_562 : decode cL_acts 562 = .ok (.iaload, 1) := by decide +kernel
theorem dL_acts_563 : decode cL_acts 563 = .ok (.isub, 1) := by decide +kernel
theorem dL_acts_564 : decode cL_acts 564 = .ok (.goto 4, 3) := by decide +kernel
theorem dL_acts_567 : decode cL_acts 567 = .ok (.iconst 0, 1) := by decide +kernel
theorem dL_acts_568 : decode cL_acts 568 = .ok (.iadd, 1) := by decide +kernel
theorem dL_acts_569 : decode cL_acts 569 = .ok (.iastore, 1) := by decide +kernel
theorem dL_acts_570 : decode cL_acts 570 = .ok (.aload_n 0, 1) := by decide +kernel
theorem dL_acts_571 : decode cL_acts 571 = .ok (.iload 5, 2) := by decide +kernel
theorem dL_acts_573 : decode cL_acts 573 = .ok (.iload 7, 2) := by decide +kernel
theorem dL_acts_575 : decode cL_acts 575 = .ok (.aload_n 2, 1) := by decide +kernel
theorem dL_acts_576 : decode cL_acts 576 = .ok (.iload 8, 2) := by decide +kernel
theorem dL_acts_578 : decode cL_acts 578 = .ok (.iconst 1, 1) := by decide +kernel
theorem dL_acts_579 : decode cL_acts 579 = .ok (.iadd, 1) := by decide +kernel
theorem dL_acts_580 : decode cL_acts 580 = .ok (.iaload, 1) := by decide +kernel
theorem dL_acts_581 : decode cL_acts 581 = .ok (.invokevirtual 57, 3) := by decide +kernel
theorem dL_acts_584 : decode cL_acts 584 = .ok (.iload 16, 2) := by decide +kernel
theorem dL_acts_586 : decode cL_acts 586 = .ok (.if_icmp .ne 7, 3) := by decide +kernel
theorem dL_acts_589 : decode cL_acts 589 = .ok (.iconst 1, 1) := by decide +kernel
theorem dL_acts_590 : decode cL_acts 590 = .ok (.goto 4, 3) := by decide +kernel
theorem dL_acts_593 : decode cL_acts 593 = .ok (.iconst 0, 1) := by decide +kernel
theorem dL_acts_594 : decode cL_acts 594 = .ok (.ireturn, 1) := by decide +kernel
theorem dL_acts_595 : decode cL_acts 595 = .ok (.aload_n 1, 1) := by decide +kernel
theorem dL_acts_596 : decode cL_acts 596 = .ok (.aload_n 2, 1) := by decide +kernel
theorem dL_acts_597 : decode cL_acts 597 = .ok (.iload 5, 2) := by decide +kernel
theorem dL_acts_599 : decode cL_acts 599 = .ok (.invokestatic 61, 3) := by decide +kernel
theorem dL_acts_602 : decode cL_acts 602 = .ok (.istore 17, 2) := by decide +kernel
theorem dL_acts_604 : decode cL_acts 604 = .ok (.iload 17, 2) := by decide +kernel
theorem dL_acts_606 : decode cL_acts 606 = .ok (.iconst 2, 1) := by decide +kernel
theorem dL_acts_607 : decode cL_acts 607 = .ok (.if_icmp .ge 22, 3) := by decide +kernel
theorem dL_acts_610 : decode cL_acts 610 = .ok (.aload_n 0, 1) := by decide +kernel
theorem dL_acts_611 : decode cL_acts 611 = .ok (.iload 5, 2) := by decide +kernel
theorem dL_acts_613 : decode cL_acts 613 = .ok (.iconst 1, 1) := by decide +kernel
theorem dL_acts_614 : decode cL_acts 614 = .ok (.iconst 1, 1) := by decide +kernel
theorem dL_acts_615 : decode cL_acts 615 = .ok (.invokevirtual 65, 3) := by decide +kernel
theorem dL_acts_618 : decode cL_acts 618 = .ok (.ldc 56, 2) := by decide +kernel
theorem dL_acts_620 : decode cL_acts 620 = .ok (.if_icmp .ne 7, 3) := by decide +kernel
theorem dL_acts_623 : decode cL_acts 623 = .ok (.iconst 1, 1) := by decide +kernel
theorem dL_acts_624 : decode cL_acts 624 = .ok (.goto 4, 3) := by decide +kernel
theorem dL_acts_627 : decode cL_acts 627 = .ok (.iconst 0, 1) := by decide +kernel
theorem dL_acts_628 : decode cL_acts 628 = .ok (.ireturn, 1) := by decide +kernel
theorem dL_acts_629 : decode cL_acts 629 = .ok (.iconst 1, 1) := by decide +kernel
theorem dL_acts_630 : decode cL_acts 630 = .ok (.iload 4, 2) := by decide +kernel
theorem dL_acts_632 : decode cL_acts 632 = .ok (.iconst 4, 1) := by decide +kernel
theorem dL_acts_633 : decode cL_acts 633 = .ok (.idiv, 1) := by decide +kernel
theorem dL_acts_634 : decode cL_acts 634 = .ok (.iload 17, 2) := by decide +kernel
theorem dL_acts_636 : decode cL_acts 636 = .ok (.iconst 1, 1) := by decide +kernel
theorem dL_acts_637 : decode cL_acts 637 = .ok (.isub, 1) := by decide +kernel
theorem dL_acts_638 : decode cL_acts 638 = .ok (.irem, 1) := by decide +kernel
theorem dL_acts_639 : decode cL_acts 639 = .ok (.iadd, 1) := by decide +kernel
theorem dL_acts_640 : decode cL_acts 640 = .ok (.istore 18, 2) := by decide +kernel
theorem dL_acts_642 : decode cL_acts 642 = .ok (.iload 4, 2) := by decide +kernel
theorem dL_acts_644 : decode cL_acts 644 = .ok (.iconst 3, 1) := by decide +kernel
theorem dL_acts_645 : decode cL_acts 645 = .ok (.irem, 1) := by decide +kernel
theorem dL_acts_646 : decode cL_acts 646 = .ok (.ifCond .ne 16, 3) := by decide +kernel
theorem dL_acts_649 : decode cL_acts 649 = .ok (.iconst 1, 1) := by decide +kernel
theorem dL_acts_650 : decode cL_acts 650 = .ok (.iload 4, 2) := by decide +kernel
theorem dL_acts_652 : decode cL_acts 652 = .ok (.bipush 7, 2) := by decide +kernel
theorem dL_acts_654 : decode cL_acts 654 = .ok (.idiv, 1) := by decide +kernel
theorem dL_acts_655 : decode cL_acts 655 = .ok (.bipush 60, 2) := by decide +kernel
theorem dL_acts_657 : decode cL_acts 657 = .ok (.irem, 1) := by decide +kernel
theorem dL_acts_658 : decode cL_acts 658 = .ok (.iadd, 1) := by decide +kernel
theorem dL_acts_659 : decode cL_acts 659 = .ok (.goto 13, 3) := by decide +kernel
theorem dL_acts_662 : decode cL_acts 662 = .ok (.iconst (-1), 1) := by decide +kernel
theorem dL_acts_663 : decode cL_acts 663 = .ok (.iload 4, 2) := by decide +kernel
theorem dL_acts_665 : decode cL_acts 665 = .ok (.bipush 7, 2) := by decide +kernel
theorem dL_acts_667 : decode cL_acts 667 = .ok (.idiv, 1) := by decide +kernel
theorem dL_acts_668 : decode cL_acts 668 = .ok (.iload 18, 2) := by decide +kernel
theorem dL_acts_670 : decode cL_acts 670 = .ok (.irem, 1) := by decide +kernel
theorem dL_acts_671 : decode cL_acts 671 = .ok (.isub, 1) := by decide +kernel
theorem dL_acts_672 : decode cL_acts 672 = .ok (.istore 19, 2) := by decide +kernel
theorem dL_acts_674 : decode cL_acts 674 = .ok (.bipush 64, 2) := by decide +kernel
theorem dL_acts_676 : decode cL_acts 676 = .ok (.newarray .int, 2) := by decide +kernel
theorem dL_acts_678 : decode cL_acts 678 = .ok (.astore 20, 2) := by decide +kernel
theorem dL_acts_680 : decode cL_acts 680 = .ok (.aload_n 1, 1) := by decide +kernel
theorem dL_acts_681 : decode cL_acts 681 = .ok (.aload_n 2, 1) := by decide +kernel
theorem dL_acts_682 : decode cL_acts 682 = .ok (.iload 5, 2) := by decide +kernel
theorem dL_acts_684 : decode cL_acts 684 = .ok (.iload 18, 2) := by decide +kernel
theorem dL_acts_686 : decode cL_acts 686 = .ok (.iload 19, 2) := by decide +kernel
theorem dL_acts_688 : decode cL_acts 688 = .ok (.aload 20, 2) := by decide +kernel
theorem dL_acts_690 : decode cL_acts 690 = .ok (.invokestatic 68, 3) := by decide +kernel
theorem dL_acts_693 : decode cL_acts 693 = .ok (.istore 21, 2) := by decide +kernel
theorem dL_acts_695 : decode cL_acts 695 = .ok (.iload 21, 2) := by decide +kernel
theorem dL_acts_697 : decode cL_acts 697 = .ok (.bipush 6, 2) := by decide +kernel
theorem dL_acts_699 : decode cL_acts 699 = .ok (.if_icmp .le 24, 3) := by decide +kernel
theorem dL_acts_702 : decode cL_acts 702 = .ok (.aload_n 0, 1) := by decide +kernel
theorem dL_acts_703 : decode cL_acts 703 = .ok (.iload 5, 2) := by decide +kernel
theorem dL_acts_705 : decode cL_acts 705 = .ok (.iload 17, 2) := by decide +kernel
theorem dL_acts_707 : decode cL_acts 707 = .ok (.iload 19, 2) := by decide +kernel
theorem dL_acts_709 : decode cL_acts 709 = .ok (.invokevirtual 65, 3) := by decide +kernel
theorem dL_acts_712 : decode cL_acts 712 = .ok (.ldc 56, 2) := by decide +kernel
theorem dL_acts_714 : decode cL_acts 714 = .ok (.if_icmp .ne 7, 3) := by decide +kernel
theorem dL_acts_717 : decode cL_acts 717 = .ok (.iconst 1, 1) := by decide +kernel
theorem dL_acts_718 : decode cL_acts 718 = .ok (.goto 4, 3) := by decide +kernel
theorem dL_acts_721 : decode cL_acts 721 = .ok (.iconst 0, 1) := by decide +kernel
theorem dL_acts_722 : decode cL_acts 722 = .ok (.ireturn, 1) := by decide +kernel
theorem dL_acts_723 : decode cL_acts 723 = .ok (.iconst 0, 1) := by decide +kernel
theorem dL_acts_724 : decode cL_acts 724 = .ok (.istore 22, 2) := by decide +kernel
theorem dL_acts_726 : decode cL_acts 726 = .ok (.iload 22, 2) := by decide +kernel
theorem dL_acts_728 : decode cL_acts 728 = .ok (.iconst 2, 1) := by decide +kernel
theorem dL_acts_729 : decode cL_acts 729 = .ok (.iload 21, 2) := by decide +kernel
theorem dL_acts_731 : decode cL_acts 731 = .ok (.imul, 1) := by decide +kernel
theorem dL_acts_732 : decode cL_acts 732 = .ok (.if_icmp .ge 24, 3) := by decide +kernel
theorem dL_acts_735 : decode cL_acts 735 = .ok (.aload_n 2, 1) := by decide +kernel
theorem dL_acts_736 : decode cL_acts 736 = .ok (.bipush 12, 2) := by decide +kernel
theorem dL_acts_738 : decode cL_acts 738 = .ok (.iload 5, 2) := by decide +kernel
theorem dL_acts_740 : decode cL_acts 740 = .ok (.imul, 1) := by decide +kernel
theorem dL_acts_741 : decode cL_acts 741 = .ok (.iload 22, 2) := by decide +kernel
theorem dL_acts_743 : decode cL_acts 743 = .ok (.iadd, 1) := by decide +kernel
theorem dL_acts_744 : decode cL_acts 744 = .ok (.aload 20, 2) := by decide +kernel
theorem dL_acts_746 : decode cL_acts 746 = .ok (.iload 22, 2) := by decide +kernel
theorem dL_acts_748 : decode cL_acts 748 = .ok (.iaload, 1) := by decide +kernel
theorem dL_acts_749 : decode cL_acts 749 = .ok (.iastore, 1) := by decide +kernel
theorem dL_acts_750 : decode cL_acts 750 = .ok (.iinc 22 1, 3) := by decide +kernel
theorem dL_acts_753 : decode cL_acts 753 = .ok (.goto (-27), 3) := by decide +kernel
theorem dL_acts_756 : decode cL_acts 756 = .ok (.aload_n 1, 1) := by decide +kernel
theorem dL_acts_757 : decode cL_acts 757 = .ok (.bipush 10, 2) := by decide +kernel
theorem dL_acts_759 : decode cL_acts 759 = .ok (.iload 5, 2) := by decide +kernel
theorem dL_acts_761 : decode cL_acts 761 = .ok (.iadd, 1) := by decide +kernel
theorem dL_acts_762 : decode cL_acts 762 = .ok (.iload 21, 2) := by decide +kernel
theorem dL_acts_764 : decode cL_acts 764 = .ok (.iastore, 1) := by decide +kernel
theorem dL_acts_765 : decode cL_acts 765 = .ok (.aload_n 1, 1) := by decide +kernel
theorem dL_acts_766 : decode cL_acts 766 = .ok (.bipush 16, 2) := by decide +kernel
theorem dL_acts_768 : decode cL_acts 768 = .ok (.dup2, 1) := by decide +kernel
theorem dL_acts_769 : decode cL_acts 769 = .ok (.iaload, 1) := by decide +kernel
theorem dL_acts_770 : decode cL_acts 770 = .ok (.iload 19, 2) := by decide +kernel
theorem dL_acts_772 : decode cL_acts 772 = .ok (.ifCond .ge 7, 3) := by decide +kernel
theorem dL_acts_775 : decode cL_acts 775 = .ok (.iconst 0, 1) := by decide +kernel
theorem dL_acts_776 : decode cL_acts 776 = .ok (.goto 23, 3) := by decide +kernel
theorem dL_acts_779 : decode cL_acts 779 = .ok (.iload 19, 2) := by decide +kernel
theorem dL_acts_781 : decode cL_acts 781 = .ok (.iload 17, 2) := by decide +kernel
theorem dL_acts_783 : decode cL_acts 783 = .ok (.iload 18, 2) := by decide +kernel
theorem dL_acts_785 : decode cL_acts 785 = .ok (.isub, 1) := by decide +kernel
theorem dL_acts_786 : decode cL_acts 786 = .ok (.if_icmp .le 11, 3) := by decide +kernel
theorem dL_acts_789 : decode cL_acts 789 = .ok (.iload 17, 2) := by decide +kernel
theorem dL_acts_791 : decode cL_acts 791 = .ok (.iload 18, 2) := by decide +kernel
theorem dL_acts_793 : decode cL_acts 793 = .ok (.isub, 1) := by decide +kernel
theorem dL_acts_794 : decode cL_acts 794 = .ok (.goto 5, 3) := by decide +kernel
theorem dL_acts_797 : decode cL_acts 797 = .ok (.iload 19, 2) := by decide +kernel
theorem dL_acts_799 : decode cL_acts 799 = .ok (.iadd, 1) := by decide +kernel
theorem dL_acts_800 : decode cL_acts 800 = .ok (.iastore, 1) := by decide +kernel
theorem dL_acts_801 : decode cL_acts 801 = .ok (.aload_n 1, 1) := by decide +kernel
theorem dL_acts_802 : decode cL_acts 802 = .ok (.bipush 17, 2) := by decide +kernel
theorem dL_acts_804 : decode cL_acts 804 = .ok (.dup2, 1) := by decide +kernel
theorem dL_acts_805 : decode cL_acts 805 = .ok (.iaload, 1) := by decide +kernel
theorem dL_acts_806 : decode cL_acts 806 = .ok (.iload 19, 2) := by decide +kernel
theorem dL_acts_808 : decode cL_acts 808 = .ok (.ifCond .ge 9, 3) := by decide +kernel
theorem dL_acts_811 : decode cL_acts 811 = .ok (.iload 19, 2) := by decide +kernel
theorem dL_acts_813 : decode cL_acts 813 = .ok (.ineg, 1) := by decide +kernel
theorem dL_acts_814 : decode cL_acts 814 = .ok (.goto 4, 3) := by decide +kernel
theorem dL_acts_817 : decode cL_acts 817 = .ok (.iconst 0, 1) := by decide +kernel
theorem dL_acts_818 : decode cL_acts 818 = .ok (.iadd, 1) := by decide +kernel
theorem dL_acts_819 : decode cL_acts 819 = .ok (.iastore, 1) := by decide +kernel
theorem dL_acts_820 : decode cL_acts 820 = .ok (.aload_n 0, 1) := by decide +kernel
theorem dL_acts_821 : decode cL_acts 821 = .ok (.iload 5, 2) := by decide +kernel
theorem dL_acts_823 : decode cL_acts 823 = .ok (.iload 18, 2) := by decide +kernel
theorem dL_acts_825 : decode cL_acts 825 = .ok (.iload 19, 2) := by decide +kernel
theorem dL_acts_827 : decode cL_acts 827 = .ok (.invokevirtual 65, 3) := by decide +kernel
theorem dL_acts_830 : decode cL_acts 830 = .ok (.iload 21, 2) := by decide +kernel
theorem dL_acts_832 : decode cL_acts 832 = .ok (.if_icmp .ne 7, 3) := by decide +kernel
theorem dL_acts_835 : decode cL_acts 835 = .ok (.iconst 1, 1) := by decide +kernel
theorem dL_acts_836 : decode cL_acts 836 = .ok (.goto 4, 3) := by decide +kernel
theorem dL_acts_839 : decode cL_acts 839 = .ok (.iconst 0, 1) := by decide +kernel
theorem dL_acts_840 : decode cL_acts 840 = .ok (.ireturn, 1) := by decide +kernel
theorem dL_acts_841 : decode cL_acts 841 = .ok (.iload 6, 2) := by decide +kernel
theorem dL_acts_843 : decode cL_acts 843 = .ok (.bipush 6, 2) := by decide +kernel
theorem dL_acts_845 : decode cL_acts 845 = .ok (.if_icmp .ne 24, 3) := by decide +kernel
theorem dL_acts_848 : decode cL_acts 848 = .ok (.aload_n 0, 1) := by decide +kernel
theorem dL_acts_849 : decode cL_acts 849 = .ok (.iload 5, 2) := by decide +kernel
theorem dL_acts_851 : decode cL_acts 851 = .ok (.iconst 0, 1) := by decide +kernel
theorem dL_acts_852 : decode cL_acts 852 = .ok (.bipush 26, 2) := by decide +kernel
theorem dL_acts_854 : decode cL_acts 854 = .ok (.iconst 5, 1) := by decide +kernel
theorem dL_acts_855 : decode cL_acts 855 = .ok (.invokevirtual 72, 3) := by decide +kernel
theorem dL_acts_858 : decode cL_acts 858 = .ok (.ldc 56, 2) := by decide +kernel
theorem dL_acts_860 : decode cL_acts 860 = .ok (.if_icmp .ne 7, 3) := by decide +kernel
theorem dL_acts_863 : decode cL_acts 863 = .ok (.iconst 1, 1) := by decide +kernel
theorem dL_acts_864 : decode cL_acts 864 = .ok (.goto 4, 3) := by decide +kernel
theorem dL_acts_867 : decode cL_acts 867 = .ok (.iconst 0, 1) := by decide +kernel
theorem dL_acts_868 : decode cL_acts 868 = .ok (.ireturn, 1) := by decide +kernel
theorem dL_acts_869 : decode cL_acts 869 = .ok (.bipush 12, 2) := by decide +kernel
theorem dL_acts_871 : decode cL_acts 871 = .ok (.iload 5, 2) := by decide +kernel
theorem dL_acts_873 : decode cL_acts 873 = .ok (.imul, 1) := by decide +kernel
theorem dL_acts_874 : decode cL_acts 874 = .ok (.iconst 2, 1) := by decide +kernel
theorem dL_acts_875 : decode cL_acts 875 = .ok (.iload 4, 2) := by decide +kernel
theorem dL_acts_877 : decode cL_acts 877 = .ok (.bipush 9, 2) := by decide +kernel
theorem dL_acts_879 : decode cL_acts 879 = .ok (.idiv, 1) := by decide +kernel
theorem dL_acts_880 : decode cL_acts 880 = .ok (.iload 6, 2) := by decide +kernel
theorem dL_acts_882 : decode cL_acts 882 = .ok (.iconst 1, 1) := by decide +kernel
theorem dL_acts_883 : decode cL_acts 883 = .ok (.iadd, 1) := by decide +kernel
theorem dL_acts_884 : decode cL_acts 884 = .ok (.irem, 1) := by decide +kernel
theorem dL_acts_885 : decode cL_acts 885 = .ok (.imul, 1) := by decide +kernel
theorem dL_acts_886 : decode cL_acts 886 = .ok (.iadd, 1) := by decide +kernel
theorem dL_acts_887 : decode cL_acts 887 = .ok (.istore 22, 2) := by decide +kernel
theorem dL_acts_889 : decode cL_acts 889 = .ok (.bipush 12, 2) := by decide +kernel
theorem dL_acts_891 : decode cL_acts 891 = .ok (.iload 5, 2) := by decide +kernel
theorem dL_acts_893 : decode cL_acts 893 = .ok (.imul, 1) := by decide +kernel
theorem dL_acts_894 : decode cL_acts 894 = .ok (.iconst 2, 1) := by decide +kernel
theorem dL_acts_895 : decode cL_acts 895 = .ok (.iload 6, 2) := by decide +kernel
theorem dL_acts_897 : decode cL_acts 897 = .ok (.imul, 1) := by decide +kernel
theorem dL_acts_898 : decode cL_acts 898 = .ok (.iadd, 1) := by decide +kernel
theorem dL_acts_899 : decode cL_acts 899 = .ok (.iconst 1, 1) := by decide +kernel
theorem dL_acts_900 : decode cL_acts 900 = .ok (.isub, 1) := by decide +kernel
theorem dL_acts_901 : decode cL_acts 901 = .ok (.istore 23, 2) := by decide +kernel
theorem dL_acts_903 : decode cL_acts 903 = .ok (.iload 23, 2) := by decide +kernel
theorem dL_acts_905 : decode cL_acts 905 = .ok (.iload 22, 2) := by decide +kernel
theorem dL_acts_907 : decode cL_acts 907 = .ok (.if_icmp .lt 19, 3) := by decide +kernel
theorem dL_acts_910 : decode cL_acts 910 = .ok (.aload_n 2, 1) := by decide +kernel
theorem dL_acts_911 : decode cL_acts 911 = .ok (.iload 23, 2) := by decide +kernel
theorem dL_acts_913 : decode cL_acts 913 = .ok (.iconst 2, 1) := by decide +kernel
theorem dL_acts_914 : decode cL_acts 914 = .ok (.iadd, 1) := by decide +kernel
theorem dL_acts_915 : decode cL_acts 915 = .ok (.aload_n 2, 1) := by decide +kernel
theorem dL_acts_916 : decode cL_acts 916 = .ok (.iload 23, 2) := by decide +kernel
theorem dL_acts_918 : decode cL_acts 918 = .ok (.iaload, 1) := by decide +kernel
theorem dL_acts_919 : decode cL_acts 919 = .ok (.iastore, 1) := by decide +kernel
theorem dL_acts_920 : decode cL_acts 920 = .ok (.iinc 23 (-1), 3) := by decide +kernel
theorem dL_acts_923 : decode cL_acts 923 = .ok (.goto (-20), 3) := by decide +kernel
theorem dL_acts_926 : decode cL_acts 926 = .ok (.aload_n 2, 1) := by decide +kernel
theorem dL_acts_927 : decode cL_acts 927 = .ok (.iload 22, 2) := by decide +kernel
theorem dL_acts_929 : decode cL_acts 929 = .ok (.iload 4, 2) := by decide +kernel
theorem dL_acts_931 : decode cL_acts 931 = .ok (.bipush 70, 2) := by decide +kernel
theorem dL_acts_933 : decode cL_acts 933 = .ok (.idiv, 1) := by decide +kernel
theorem dL_acts_934 : decode cL_acts 934 = .ok (.iload 4, 2) := by decide +kernel
theorem dL_acts_936 : decode cL_acts 936 = .ok (.iconst 3, 1) := by decide +kernel
theorem dL_acts_937 : decode cL_acts 937 = .ok (.irem, 1) := by decide +kernel
theorem dL_acts_938 : decode cL_acts 938 = .ok (.ifCond .ne 8, 3) := by decide +kernel
theorem dL_acts_941 : decode cL_acts 941 = .ok (.bipush 26, 2) := by decide +kernel
theorem dL_acts_943 : decode cL_acts 943 = .ok (.goto 4, 3) := by decide +kernel
theorem dL_acts_946 : decode cL_acts 946 = .ok (.iconst 4, 1) := by decide +kernel
theorem dL_acts_947 : decode cL_acts 947 = .ok (.irem, 1) := by decide +kernel
theorem dL_acts_948 : decode cL_acts 948 = .ok (.iastore, 1) := by decide +kernel
theorem dL_acts_949 : decode cL_acts 949 = .ok (.aload_n 2, 1) := by decide +kernel
theorem dL_acts_950 : decode cL_acts 950 = .ok (.iload 22, 2) := by decide +kernel
theorem dL_acts_952 : decode cL_acts 952 = .ok (.iconst 1, 1) := by decide +kernel
theorem dL_acts_953 : decode cL_acts 953 = .ok (.iadd, 1) := by decide +kernel
theorem dL_acts_954 : decode cL_acts 954 = .ok (.iconst 1, 1) := by decide +kernel
theorem dL_acts_955 : decode cL_acts 955 = .ok (.iload 4, 2) := by decide +kernel
theorem dL_acts_957 : decode cL_acts 957 = .ok (.bipush 13, 2) := by decide +kernel
theorem dL_acts_959 : decode cL_acts 959 = .ok (.idiv, 1) := by decide +kernel
theorem dL_acts_960 : decode cL_acts 960 = .ok (.iload 4, 2) := by decide +kernel
theorem dL_acts_962 : decode cL_acts 962 = .ok (.iconst 5, 1) := by decide +kernel
theorem dL_acts_963 : decode cL_acts 963 = .ok (.irem, 1) := by decide +kernel
theorem dL_acts_964 : decode cL_acts 964 = .ok (.ifCond .ne 8, 3) := by decide +kernel
theorem dL_acts_967 : decode cL_acts 967 = .ok (.bipush 99, 2) := by decide +kernel
theorem dL_acts_969 : decode cL_acts 969 = .ok (.goto 5, 3) := by decide +kernel
theorem dL_acts_972 : decode cL_acts 972 = .ok (.bipush 12, 2) := by decide +kernel
theorem dL_acts_974 : decode cL_acts 974 = .ok (.irem, 1) := by decide +kernel
theorem dL_acts_975 : decode cL_acts 975 = .ok (.iadd, 1) := by decide +kernel
theorem dL_acts_976 : decode cL_acts 976 = .ok (.iastore, 1) := by decide +kernel
theorem dL_acts_977 : decode cL_acts 977 = .ok (.aload_n 1, 1) := by decide +kernel
theorem dL_acts_978 : decode cL_acts 978 = .ok (.bipush 10, 2) := by decide +kernel
theorem dL_acts_980 : decode cL_acts 980 = .ok (.iload 5, 2) := by decide +kernel
theorem dL_acts_982 : decode cL_acts 982 = .ok (.iadd, 1) := by decide +kernel
theorem dL_acts_983 : decode cL_acts 983 = .ok (.dup2, 1) := by decide +kernel
theorem dL_acts_984 : decode cL_acts 984 = .ok (.iaload, 1) := by decide +kernel
theorem dL_acts_985 : decode cL_acts 985 = .ok (.iconst 1, 1) := by decide +kernel
theorem dL_acts_986 : decode cL_acts 986 = .ok (.iadd, 1) := by decide +kernel
theorem dL_acts_987 : decode cL_acts 987 = .ok (.iastore, 1) := by decide +kernel
theorem dL_acts_988 : decode cL_acts 988 = .ok (.aload_n 1, 1) := by decide +kernel
theorem dL_acts_989 : decode cL_acts 989 = .ok (.bipush 14, 2) := by decide +kernel
theorem dL_acts_991 : decode cL_acts 991 = .ok (.dup2, 1) := by decide +kernel
theorem dL_acts_992 : decode cL_acts 992 = .ok (.iaload, 1) := by decide +kernel
theorem dL_acts_993 : decode cL_acts 993 = .ok (.aload_n 2, 1) := by decide +kernel
theorem dL_acts_994 : decode cL_acts 994 = .ok (.iload 22, 2) := by decide +kernel
theorem dL_acts_996 : decode cL_acts 996 = .ok (.iconst 1, 1) := by decide +kernel
theorem dL_acts_997 : decode cL_acts 997 = .ok (.iadd, 1) := by decide +kernel
theorem dL_acts_998 : decode cL_acts 998 = .ok (.iaload, 1) := by decide +kernel
theorem dL_acts_999 : decode cL_acts 999 = .ok (.iadd, 1) := by decide +kernel
theorem dL_acts_1000 : decode cL_acts 1000 = .ok (.iastore, 1) := by decide +kernel
theorem dL_acts_1001 : decode cL_acts 1001 = .ok (.aload_n 0, 1) := by decide +kernel
theorem dL_acts_1002 : decode cL_acts 1002 = .ok (.iload 5, 2) := by decide +kernel
theorem dL_acts_1004 : decode cL_acts 1004 = .ok (.iload 4, 2) := by decide +kernel
theorem dL_acts_1006 : decode cL_acts 1006 = .ok (.bipush 9, 2) := by decide +kernel
theorem dL_acts_1008 : decode cL_acts 1008 = .ok (.idiv, 1) := by decide +kernel
theorem dL_acts_1009 : decode cL_acts 1009 = .ok (.iload 6, 2) := by decide +kernel
theorem dL_acts_1011 : decode cL_acts 1011 = .ok (.iconst 1, 1) := by decide +kernel
theorem dL_acts_1012 : decode cL_acts 1012 = .ok (.iadd, 1) := by decide +kernel
theorem dL_acts_1013 : decode cL_acts 1013 = .ok (.irem, 1) := by decide +kernel
theorem dL_acts_1014 : decode cL_acts 1014 = .ok (.aload_n 2, 1) := by decide +kernel
theorem dL_acts_1015 : decode cL_acts 1015 = .ok (.iload 22, 2) := by decide +kernel
theorem dL_acts_1017 : decode cL_acts 1017 = .ok (.iaload, 1) := by decide +kernel
theorem dL_acts_1018 : decode cL_acts 1018 = .ok (.aload_n 2, 1) := by decide +kernel
theorem dL_acts_1019 : decode cL_acts 1019 = .ok (.iload 22, 2) := by decide +kernel
theorem dL_acts_1021 : decode cL_acts 1021 = .ok (.iconst 1, 1) := by decide +kernel
theorem dL_acts_1022 : decode cL_acts 1022 = .ok (.iadd, 1) := by decide +kernel
theorem dL_acts_1023 : decode cL_acts 1023 = .ok (.iaload, 1) := by decide +kernel
theorem dL_acts_1024 : decode cL_acts 1024 = .ok (.invokevirtual 72, 3) := by decide +kernel
theorem dL_acts_1027 : decode cL_acts 1027 = .ok (.iload 6, 2) := by decide +kernel
theorem dL_acts_1029 : decode cL_acts 1029 = .ok (.iconst 1, 1) := by decide +kernel
theorem dL_acts_1030 : decode cL_acts 1030 = .ok (.iadd, 1) := by decide +kernel
theorem dL_acts_1031 : decode cL_acts 1031 = .ok (.if_icmp .ne 7, 3) := by decide +kernel
theorem dL_acts_1034 : decode cL_acts 1034 = .ok (.iconst 1, 1) := by decide +kernel
theorem dL_acts_1035 : decode cL_acts 1035 = .ok (.goto 4, 3) := by decide +kernel
theorem dL_acts_1038 : decode cL_acts 1038 = .ok (.iconst 0, 1) := by decide +kernel
theorem dL_acts_1039 : decode cL_acts 1039 = .ok (.ireturn, 1) := by decide +kernel
theorem dL_starts_0 : decode cL_starts 0 = .ok (.aload_n 0, 1) := by decide +kernel
theorem dL_starts_1 : decode cL_starts 1 = .ok (.iconst 0, 1) := by decide +kernel
theorem dL_starts_2 : decode cL_starts 2 = .ok (.bipush 10, 2) := by decide +kernel
theorem dL_starts_4 : decode cL_starts 4 = .ok (.iastore, 1) := by decide +kernel
theorem dL_starts_5 : decode cL_starts 5 = .ok (.aload_n 0, 1) := by decide +kernel
theorem dL_starts_6 : decode cL_starts 6 = .ok (.iconst 1, 1) := by decide +kernel
theorem dL_starts_7 : decode cL_starts 7 = .ok (.bipush 6, 2) := by decide +kernel
theorem dL_starts_9 : decode cL_starts 9 = .ok (.iastore, 1) := by decide +kernel
theorem dL_starts_10 : decode cL_starts 10 = .ok (.aload_n 0, 1) := by decide +kernel
theorem dL_starts_11 : decode cL_starts 11 = .ok (.iconst 2, 1) := by decide +kernel
theorem dL_starts_12 : decode cL_starts 12 = .ok (.iconst 1, 1) := by decide +kernel
theorem dL_starts_13 : decode cL_starts 13 = .ok (.iastore, 1) := by decide +kernel
theorem dL_starts_14 : decode cL_starts 14 = .ok (.aload_n 0, 1) := by decide +kernel
theorem dL_starts_15 : decode cL_starts 15 = .ok (.iconst 3, 1) := by decide +kernel
theorem dL_starts_16 : decode cL_starts 16 = .ok (.iconst 3, 1) := by decide +kernel
theorem dL_starts_17 : decode cL_starts 17 = .ok (.iastore, 1) := by decide +kernel
theorem dL_starts_18 : decode cL_starts 18 = .ok (.aload_n 0, 1) := by decide +kernel
theorem dL_starts_19 : decode cL_starts 19 = .ok (.iconst 4, 1) := by decide +kernel
theorem dL_starts_20 : decode cL_starts 20 = .ok (.iconst 5, 1) := by decide +kernel
theorem dL_starts_21 : decode cL_starts 21 = .ok (.iastore, 1) := by decide +kernel
theorem dL_starts_22 : decode cL_starts 22 = .ok (.return_, 1) := by decide +kernel
theorem dL_arePaired_0 : decode cL_arePaired 0 = .ok (.aload_n 1, 1) := by decide +kernel
theorem dL_arePaired_1 : decode cL_arePaired 1 = .ok (.aload_n 2, 1) := by decide +kernel
theorem dL_arePaired_2 : decode cL_arePaired 2 = .ok (.iload 5, 2) := by decide +kernel
theorem dL_arePaired_4 : decode cL_arePaired 4 = .ok (.iload 6, 2) := by decide +kernel
theorem dL_arePaired_6 : decode cL_arePaired 6 = .ok (.aload_n 3, 1) := by decide +kernel
theorem dL_arePaired_7 : decode cL_arePaired 7 = .ok (.aload 4, 2) := by decide +kernel
theorem dL_arePaired_9 : decode cL_arePaired 9 = .ok (.invokestatic 76, 3) := by decide +kernel
theorem dL_arePaired_12 : decode cL_arePaired 12 = .ok (.bipush 6, 2) := by decide +kernel
theorem dL_arePaired_14 : decode cL_arePaired 14 = .ok (.newarray .int, 2) := by decide +kernel
theorem dL_arePaired_16 : decode cL_arePaired 16 = .ok (.astore 7, 2) := by decide +kernel
theorem dL_arePaired_18 : decode cL_arePaired 18 = .ok (.iconst 0, 1) := by decide +kernel
theorem dL_arePaired_19 : decode cL_arePaired 19 = .ok (.istore 8, 2) := by decide +kernel
theorem dL_arePaired_21 : decode cL_arePaired 21 = .ok (.iconst 0, 1) := by decide +kernel
theorem dL_arePaired_22 : decode cL_arePaired 22 = .ok (.istore 9, 2) := by decide +kernel
theorem dL_arePaired_24 : decode cL_arePaired 24 = .ok (.aload_n 0, 1) := by decide +kernel
theorem dL_arePaired_25 : decode cL_arePaired 25 = .ok (.iload 5, 2) := by decide +kernel
theorem dL_arePaired_27 : decode cL_arePaired 27 = .ok (.iload 6, 2) := by decide +kernel
theorem dL_arePaired_29 : decode cL_arePaired 29 = .ok (.iconst 0, 1) := by decide +kernel
theorem dL_arePaired_30 : decode cL_arePaired 30 = .ok (.invokevirtual 80, 3) := by decide +kernel
theorem dL_arePaired_33 : decode cL_arePaired 33 = .ok (.aload_n 3, 1) := by decide +kernel
theorem dL_arePaired_34 : decode cL_arePaired 34 = .ok (.iconst 0, 1) := by decide +kernel
theorem dL_arePaired_35 : decode cL_arePaired 35 = .ok (.iaload, 1) := by decide +kernel
theorem dL_arePaired_36 : decode cL_arePaired 36 = .ok (.if_icmp .ne 22, 3) := by decide +kernel
theorem dL_arePaired_39 : decode cL_arePaired 39 = .ok (.aload_n 0, 1) := by decide +kernel
theorem dL_arePaired_40 : decode cL_arePaired 40 = .ok (.iload 5, 2) := by decide +kernel
theorem dL_arePaired_42 : decode cL_arePaired 42 = .ok (.iload 6, 2) := by decide +kernel
theorem dL_arePaired_44 : decode cL_arePaired 44 = .ok (.iconst 1, 1) := by decide +kernel
theorem dL_arePaired_45 : decode cL_arePaired 45 = .ok (.invokevirtual 80, 3) := by decide +kernel
theorem dL_arePaired_48 : decode cL_arePaired 48 = .ok (.aload_n 3, 1) := by decide +kernel
theorem dL_arePaired_49 : decode cL_arePaired 49 = .ok (.iconst 0, 1) := by decide +kernel
theorem dL_arePaired_50 : decode cL_arePaired 50 = .ok (.iaload, 1) := by decide +kernel
theorem dL_arePaired_51 : decode cL_arePaired 51 = .ok (.if_icmp .ne 7, 3) := by decide +kernel
theorem dL_arePaired_54 : decode cL_arePaired 54 = .ok (.iconst 1, 1) := by decide +kernel
theorem dL_arePaired_55 : decode cL_arePaired 55 = .ok (.goto 4, 3) := by decide +kernel
theorem dL_arePaired_58 : decode cL_arePaired 58 = .ok (.iconst 0, 1) := by decide +kernel
theorem dL_arePaired_59 : decode cL_arePaired 59 = .ok (.istore 10, 2) := by decide +kernel
theorem dL_arePaired_61 : decode cL_arePaired 61 = .ok (.iconst 0, 1) := by decide +kernel
theorem dL_arePaired_62 : decode cL_arePaired 62 = .ok (.istore 11, 2) := by decide +kernel
theorem dL_arePaired_64 : decode cL_arePaired 64 = .ok (.iload 11, 2) := by decide +kernel
theorem dL_arePaired_66 : decode cL_arePaired 66 = .ok (.aload_n 1, 1) := by decide +kernel
theorem dL_arePaired_67 : decode cL_arePaired 67 = .ok (.bipush 10, 2) := by decide +kernel
theorem dL_arePaired_69 : decode cL_arePaired 69 = .ok (.iload 5, 2) := by decide +kernel
theorem dL_arePaired_71 : decode cL_arePaired 71 = .ok (.iadd, 1) := by decide +kernel
theorem dL_arePaired_72 : decode cL_arePaired 72 = .ok (.iaload, 1) := by decide +kernel
theorem dL_arePaired_73 : decode cL_arePaired 73 = .ok (.if_icmp .ge 87, 3) := by decide +kernel
theorem dL_arePaired_76 : decode cL_arePaired 76 = .ok (.iload 10, 2) := by decide +kernel
theorem dL_arePaired_78 : decode cL_arePaired 78 = .ok (.ifCond .eq 82, 3) := by decide +kernel
theorem dL_arePaired_81 : decode cL_arePaired 81 = .ok (.aload 7, 2) := by decide +kernel
theorem dL_arePaired_83 : decode cL_arePaired 83 = .ok (.aload 4, 2) := by decide +kernel
theorem dL_arePaired_85 : decode cL_arePaired 85 = .ok (.iload 11, 2) := by decide +kernel
theorem dL_arePaired_87 : decode cL_arePaired 87 = .ok (.iaload, 1) := by decide +kernel
theorem dL_arePaired_88 : decode cL_arePaired 88 = .ok (.dup2, 1) := by decide +kernel
theorem dL_arePaired_89 : decode cL_arePaired 89 = .ok (.iaload, 1) := by decide +kernel
theorem dL_arePaired_90 : decode cL_arePaired 90 = .ok (.aload 4, 2) := by decide +kernel
theorem dL_arePaired_92 : decode cL_arePaired 92 = .ok (.iload 11, 2) := by decide +kernel
theorem dL_arePaired_94 : decode cL_arePaired 94 = .ok (.iaload, 1) := by decide +kernel
theorem dL_arePaired_95 : decode cL_arePaired 95 = .ok (.iconst 2, 1) := by decide +kernel
theorem dL_arePaired_96 : decode cL_arePaired 96 = .ok (.if_icmp .ne 7, 3) := by decide +kernel
theorem dL_arePaired_99 : decode cL_arePaired 99 = .ok (.iconst 1, 1) := by decide +kernel
theorem dL_arePaired_100 : decode cL_arePaired 100 = .ok (.goto 4, 3) := by decide +kernel
theorem dL_arePaired_103 : decode cL_arePaired 103 = .ok (.iconst 0, 1) := by decide +kernel
theorem dL_arePaired_104 : decode cL_arePaired 104 = .ok (.iadd, 1) := by decide +kernel
theorem dL_arePaired_105 : decode cL_arePaired 105 = .ok (.iastore, 1) := by decide +kernel
theorem dL_arePaired_106 : decode cL_arePaired 106 = .ok (.aload_n 0, 1) := by decide +kernel
theorem dL_arePaired_107 : decode cL_arePaired 107 = .ok (.iload 5, 2) := by decide +kernel
theorem dL_arePaired_109 : decode cL_arePaired 109 = .ok (.iload 6, 2) := by decide +kernel
theorem dL_arePaired_111 : decode cL_arePaired 111 = .ok (.iconst 0, 1) := by decide +kernel
theorem dL_arePaired_112 : decode cL_arePaired 112 = .ok (.iload 11, 2) := by decide +kernel
theorem dL_arePaired_114 : decode cL_arePaired 114 = .ok (.invokevirtual 83, 3) := by decide +kernel
theorem dL_arePaired_117 : decode cL_arePaired 117 = .ok (.aload 4, 2) := by decide +kernel
theorem dL_arePaired_119 : decode cL_arePaired 119 = .ok (.iload 11, 2) := by decide +kernel
theorem dL_arePaired_121 : decode cL_arePaired 121 = .ok (.iaload, 1) := by decide +kernel
theorem dL_arePaired_122 : decode cL_arePaired 122 = .ok (.if_icmp .ne 29, 3) := by decide +kernel
theorem dL_arePaired_125 : decode cL_arePaired 125 = .ok (.aload_n 0, 1) := by decide +kernel
theorem dL_arePaired_126 : decode cL_arePaired 126 = .ok (.iload 5, 2) := by decide +kernel
theorem dL_arePaired_128 : decode cL_arePaired 128 = .ok (.iload 6, 2) := by decide +kernel
theorem dL_arePaired_130 : decode cL_arePaired 130 = .ok (.iconst 0, 1) := by decide +kernel
theorem dL_arePaired_131 : decode cL_arePaired 131 = .ok (.iload 11, 2) := by decide +kernel
theorem dL_arePaired_133 : decode cL_arePaired 133 = .ok (.invokevirtual 86, 3) := by decide +kernel
theorem dL_arePaired_136 : decode cL_arePaired 136 = .ok (.aload 4, 2) := by decide +kernel
theorem dL_arePaired_138 : decode cL_arePaired 138 = .ok (.bipush 12, 2) := by decide +kernel
theorem dL_arePaired_140 : decode cL_arePaired 140 = .ok (.iload 11, 2) := by decide +kernel
theorem dL_arePaired_142 : decode cL_arePaired 142 = .ok (.iadd, 1) := by decide +kernel
theorem dL_arePaired_143 : decode cL_arePaired 143 = .ok (.iaload, 1) := by decide +kernel
theorem dL_arePaired_144 : decode cL_arePaired 144 = .ok (.if_icmp .ne 7, 3) := by decide +kernel
theorem dL_arePaired_147 : decode cL_arePaired 147 = .ok (.iconst 1, 1) := by decide +kernel
theorem dL_arePaired_148 : decode cL_arePaired 148 = .ok (.goto 4, 3) := by decide +kernel
theorem dL_arePaired_151 : decode cL_arePaired 151 = .ok (.iconst 0, 1) := by decide +kernel
theorem dL_arePaired_152 : decode cL_arePaired 152 = .ok (.istore 10, 2) := by decide +kernel
theorem dL_arePaired_154 : decode cL_arePaired 154 = .ok (.iinc 11 1, 3) := by decide +kernel
theorem dL_arePaired_157 : decode cL_arePaired 157 = .ok (.goto (-93), 3) := by decide +kernel
theorem dL_arePaired_160 : decode cL_arePaired 160 = .ok (.iconst 0, 1) := by decide +kernel
theorem dL_arePaired_161 : decode cL_arePaired 161 = .ok (.istore 11, 2) := by decide +kernel
theorem dL_arePaired_163 : decode cL_arePaired 163 = .ok (.iload 11, 2) := by decide +kernel
theorem dL_arePaired_165 : decode cL_arePaired 165 = .ok (.aload_n 1, 1) := by decide +kernel
theorem dL_arePaired_166 : decode cL_arePaired 166 = .ok (.bipush 10, 2) := by decide +kernel
theorem dL_arePaired_168 : decode cL_arePaired 168 = .ok (.iload 6, 2) := by decide +kernel
theorem dL_arePaired_170 : decode cL_arePaired 170 = .ok (.iadd, 1) := by decide +kernel
theorem dL_arePaired_171 : decode cL_arePaired 171 = .ok (.iaload, 1) := by decide +kernel
theorem dL_arePaired_172 : decode cL_arePaired 172 = .ok (.if_icmp .ge 80, 3) := by decide +kernel
theorem dL_arePaired_175 : decode cL_arePaired 175 = .ok (.iload 10, 2) := by decide +kernel
theorem dL_arePaired_177 : decode cL_arePaired 177 = .ok (.ifCond .eq 75, 3) := by decide +kernel
theorem dL_arePaired_180 : decode cL_arePaired 180 = .ok (.aload 7, 2) := by decide +kernel
theorem dL_arePaired_182 : decode cL_arePaired 182 = .ok (.aload 4, 2) := by decide +kernel
theorem dL_arePaired_184 : decode cL_arePaired 184 = .ok (.bipush 6, 2) := by decide +kernel
theorem dL_arePaired_186 : decode cL_arePaired 186 = .ok (.iload 11, 2) := by decide +kernel
theorem dL_arePaired_188 : decode cL_arePaired 188 = .ok (.iadd, 1) := by decide +kernel
theorem dL_arePaired_189 : decode cL_arePaired 189 = .ok (.iaload, 1) := by decide +kernel
theorem dL_arePaired_190 : decode cL_arePaired 190 = .ok (.dup2, 1) := by decide +kernel
theorem dL_arePaired_191 : decode cL_arePaired 191 = .ok (.iaload, 1) := by decide +kernel
theorem dL_arePaired_192 : decode cL_arePaired 192 = .ok (.iconst 1, 1) := by decide +kernel
theorem dL_arePaired_193 : decode cL_arePaired 193 = .ok (.iadd, 1) := by decide +kernel
theorem dL_arePaired_194 : decode cL_arePaired 194 = .ok (.iastore, 1) := by decide +kernel
theorem dL_arePaired_195 : decode cL_arePaired 195 = .ok (.aload_n 0, 1) := by decide +kernel
theorem dL_arePaired_196 : decode cL_arePaired 196 = .ok (.iload 5, 2) := by decide +kernel
theorem dL_arePaired_198 : decode cL_arePaired 198 = .ok (.iload 6, 2) := by decide +kernel
theorem dL_arePaired_200 : decode cL_arePaired 200 = .ok (.iconst 1, 1) := by decide +kernel
theorem dL_arePaired_201 : decode cL_arePaired 201 = .ok (.iload 11, 2) := by decide +kernel
theorem dL_arePaired_203 : decode cL_arePaired 203 = .ok (.invokevirtual 83, 3) := by decide +kernel
theorem dL_arePaired_206 : decode cL_arePaired 206 = .ok (.aload 4, 2) := by decide +kernel
theorem dL_arePaired_208 : decode cL_arePaired 208 = .ok (.bipush 6, 2) := by decide +kernel
theorem dL_arePaired_210 : decode cL_arePaired 210 = .ok (.iload 11, 2) := by decide +kernel
theorem dL_arePaired_212 : decode cL_arePaired 212 = .ok (.iadd, 1) := by decide +kernel
theorem dL_arePaired_213 : decode cL_arePaired 213 = .ok (.iaload, 1) := by decide +kernel
theorem dL_arePaired_214 : decode cL_arePaired 214 = .ok (.if_icmp .ne 29, 3) := by decide +kernel
theorem dL_arePaired_217 : decode cL_arePaired 217 = .ok (.aload_n 0, 1) := by decide +kernel
theorem dL_arePaired_218 : decode cL_arePaired 218 = .ok (.iload 5, 2) := by decide +kernel
theorem dL_arePaired_220 : decode cL_arePaired 220 = .ok (.iload 6, 2) := by decide +kernel
theorem dL_arePaired_222 : decode cL_arePaired 222 = .ok (.iconst 1, 1) := by decide +kernel
theorem dL_arePaired_223 : decode cL_arePaired 223 = .ok (.iload 11, 2) := by decide +kernel
theorem dL_arePaired_225 : decode cL_arePaired 225 = .ok (.invokevirtual 86, 3) := by decide +kernel
theorem dL_arePaired_228 : decode cL_arePaired 228 = .ok (.aload 4, 2) := by decide +kernel
theorem dL_arePaired_230 : decode cL_arePaired 230 = .ok (.bipush 18, 2) := by decide +kernel
theorem dL_arePaired_232 : decode cL_arePaired 232 = .ok (.iload 11, 2) := by decide +kernel
theorem dL_arePaired_234 : decode cL_arePaired 234 = .ok (.iadd, 1) := by decide +kernel
theorem dL_arePaired_235 : decode cL_arePaired 235 = .ok (.iaload, 1) := by decide +kernel
theorem dL_arePaired_236 : decode cL_arePaired 236 = .ok (.if_icmp .ne 7, 3) := by decide +kernel
theorem dL_arePaired_239 : decode cL_arePaired 239 = .ok (.iconst 1, 1) := by decide +kernel
theorem dL_arePaired_240 : decode cL_arePaired 240 = .ok (.goto 4, 3) := by decide +kernel
theorem dL_arePaired_243 : decode cL_arePaired 243 = .ok (.iconst 0, 1) := by decide +kernel
theorem dL_arePaired_244 : decode cL_arePaired 244 = .ok (.istore 10, 2) := by decide +kernel
theorem dL_arePaired_246 : decode cL_arePaired 246 = .ok (.iinc 11 1, 3) := by decide +kernel
theorem dL_arePaired_249 : decode cL_arePaired 249 = .ok (.goto (-86), 3) := by decide +kernel
theorem dL_arePaired_252 : decode cL_arePaired 252 = .ok (.iconst 0, 1) := by decide +kernel
theorem dL_arePaired_253 : decode cL_arePaired 253 = .ok (.istore 11, 2) := by decide +kernel
theorem dL_arePaired_255 : decode cL_arePaired 255 = .ok (.iload 11, 2) := by decide +kernel
theorem dL_arePaired_257 : decode cL_arePaired 257 = .ok (.aload 4, 2) := by decide +kernel
theorem dL_arePaired_259 : decode cL_arePaired 259 = .ok (.bipush 43, 2) := by decide +kernel
theorem dL_arePaired_261 : decode cL_arePaired 261 = .ok (.iaload, 1) := by decide +kernel
theorem dL_arePaired_262 : decode cL_arePaired 262 = .ok (.if_icmp .ge 131, 3) := by decide +kernel
theorem dL_arePaired_265 : decode cL_arePaired 265 = .ok (.iload 10, 2) := by decide +kernel
theorem dL_arePaired_267 : decode cL_arePaired 267 = .ok (.ifCond .eq 126, 3) := by decide +kernel
theorem dL_arePaired_270 : decode cL_arePaired 270 = .ok (.aload 4, 2) := by decide +kernel
theorem dL_arePaired_272 : decode cL_arePaired 272 = .ok (.bipush 30, 2) := by decide +kernel
theorem dL_arePaired_274 : decode cL_arePaired 274 = .ok (.iload 11, 2) := by decide +kernel
theorem dL_arePaired_276 : decode cL_arePaired 276 = .ok (.iadd, 1) := by decide +kernel
theorem dL_arePaired_277 : decode cL_arePaired 277 = .ok (.iaload, 1) := by decide +kernel
theorem dL_arePaired_278 : decode cL_arePaired 278 = .ok (.istore 12, 2) := by decide +kernel
theorem dL_arePaired_280 : decode cL_arePaired 280 = .ok (.iload 8, 2) := by decide +kernel
theorem dL_arePaired_282 : decode cL_arePaired 282 = .ok (.iload 12, 2) := by decide +kernel
theorem dL_arePaired_284 : decode cL_arePaired 284 = .ok (.iadd, 1) := by decide +kernel
theorem dL_arePaired_285 : decode cL_arePaired 285 = .ok (.istore 8, 2) := by decide +kernel
theorem dL_arePaired_287 : decode cL_arePaired 287 = .ok (.iload 12, 2) := by decide +kernel
theorem dL_arePaired_289 : decode cL_arePaired 289 = .ok (.iconst 0, 1) := by decide +kernel
theorem dL_arePaired_290 : decode cL_arePaired 290 = .ok (.invokestatic 9, 3) := by decide +kernel
theorem dL_arePaired_293 : decode cL_arePaired 293 = .ok (.aload_n 1, 1) := by decide +kernel
theorem dL_arePaired_294 : decode cL_arePaired 294 = .ok (.iconst 4, 1) := by decide +kernel
theorem dL_arePaired_295 : decode cL_arePaired 295 = .ok (.iaload, 1) := by decide +kernel
theorem dL_arePaired_296 : decode cL_arePaired 296 = .ok (.if_icmp .lt 91, 3) := by decide +kernel
theorem dL_arePaired_299 : decode cL_arePaired 299 = .ok (.aload_n 0, 1) := by decide +kernel
theorem dL_arePaired_300 : decode cL_arePaired 300 = .ok (.iload 5, 2) := by decide +kernel
theorem dL_arePaired_302 : decode cL_arePaired 302 = .ok (.iload 6, 2) := by decide +kernel
theorem dL_arePaired_304 : decode cL_arePaired 304 = .ok (.aload 7, 2) := by decide +kernel
theorem dL_arePaired_306 : decode cL_arePaired 306 = .ok (.iconst 5, 1) := by decide +kernel
theorem dL_arePaired_307 : decode cL_arePaired 307 = .ok (.iaload, 1) := by decide +kernel
theorem dL_arePaired_308 : decode cL_arePaired 308 = .ok (.iconst 0, 1) := by decide +kernel
theorem dL_arePaired_309 : decode cL_arePaired 309 = .ok (.invokevirtual 89, 3) := by decide +kernel
theorem dL_arePaired_312 : decode cL_arePaired 312 = .ok (.aload 4, 2) := by decide +kernel
theorem dL_arePaired_314 : decode cL_arePaired 314 = .ok (.bipush 24, 2) := by decide +kernel
theorem dL_arePaired_316 : decode cL_arePaired 316 = .ok (.iload 11, 2) := by decide +kernel
theorem dL_arePaired_318 : decode cL_arePaired 318 = .ok (.iadd, 1) := by decide +kernel
theorem dL_arePaired_319 : decode cL_arePaired 319 = .ok (.iaload, 1) := by decide +kernel
theorem dL_arePaired_320 : decode cL_arePaired 320 = .ok (.if_icmp .ne 49, 3) := by decide +kernel
theorem dL_arePaired_323 : decode cL_arePaired 323 = .ok (.aload_n 0, 1) := by decide +kernel
theorem dL_arePaired_324 : decode cL_arePaired 324 = .ok (.iload 5, 2) := by decide +kernel
theorem dL_arePaired_326 : decode cL_arePaired 326 = .ok (.iload 6, 2) := by decide +kernel
theorem dL_arePaired_328 : decode cL_arePaired 328 = .ok (.aload 7, 2) := by decide +kernel
theorem dL_arePaired_330 : decode cL_arePaired 330 = .ok (.iconst 5, 1) := by decide +kernel
theorem dL_arePaired_331 : decode cL_arePaired 331 = .ok (.iaload, 1) := by decide +kernel
theorem dL_arePaired_332 : decode cL_arePaired 332 = .ok (.iconst 1, 1) := by decide +kernel
theorem dL_arePaired_333 : decode cL_arePaired 333 = .ok (.invokevirtual 89, 3) := by decide +kernel
theorem dL_arePaired_336 : decode cL_arePaired 336 = .ok (.iload 12, 2) := by decide +kernel
theorem dL_arePaired_338 : decode cL_arePaired 338 = .ok (.if_icmp .ne 31, 3) := by decide +kernel
theorem dL_arePaired_341 : decode cL_arePaired 341 = .ok (.aload_n 0, 1) := by decide +kernel
theorem dL_arePaired_342 : decode cL_arePaired 342 = .ok (.iload 5, 2) := by decide +kernel
theorem dL_arePaired_344 : decode cL_arePaired 344 = .ok (.iload 6, 2) := by decide +kernel
theorem dL_arePaired_346 : decode cL_arePaired 346 = .ok (.aload 7, 2) := by decide +kernel
theorem dL_arePaired_348 : decode cL_arePaired 348 = .ok (.iconst 5, 1) := by decide +kernel
theorem dL_arePaired_349 : decode cL_arePaired 349 = .ok (.iaload, 1) := by decide +kernel
theorem dL_arePaired_350 : decode cL_arePaired 350 = .ok (.iconst 2, 1) := by decide +kernel
theorem dL_arePaired_351 : decode cL_arePaired 351 = .ok (.invokevirtual 89, 3) := by decide +kernel
theorem dL_arePaired_354 : decode cL_arePaired 354 = .ok (.aload 4, 2) := by decide +kernel
theorem dL_arePaired_356 : decode cL_arePaired 356 = .ok (.bipush 36, 2) := by decide +kernel
theorem dL_arePaired_358 : decode cL_arePaired 358 = .ok (.iload 11, 2) := by decide +kernel
theorem dL_arePaired_360 : decode cL_arePaired 360 = .ok (.iadd, 1) := by decide +kernel
theorem dL_arePaired_361 : decode cL_arePaired 361 = .ok (.iaload, 1) := by decide +kernel
theorem dL_arePaired_362 : decode cL_arePaired 362 = .ok (.if_icmp .ne 7, 3) := by decide +kernel
theorem dL_arePaired_365 : decode cL_arePaired 365 = .ok (.iconst 1, 1) := by decide +kernel
theorem dL_arePaired_366 : decode cL_arePaired 366 = .ok (.goto 4, 3) := by decide +kernel
theorem dL_arePaired_369 : decode cL_arePaired 369 = .ok (.iconst 0, 1) := by decide +kernel
theorem dL_arePaired_370 : decode cL_arePaired 370 = .ok (.istore 10, 2) := by decide +kernel
theorem dL_arePaired_372 : decode cL_arePaired 372 = .ok (.aload 7, 2) := by decide +kernel
theorem dL_arePaired_374 : decode cL_arePaired 374 = .ok (.iconst 5, 1) := by decide +kernel
theorem dL_arePaired_375 : decode cL_arePaired 375 = .ok (.dup2, 1) := by decide +kernel
theorem dL_arePaired_376 : decode cL_arePaired 376 = .ok (.iaload, 1) := by decide +kernel
theorem dL_arePaired_377 : decode cL_arePaired 377 = .ok (.iconst 1, 1) := by decide +kernel
theorem dL_arePaired_378 : decode cL_arePaired 378 = .ok (.iadd, 1) := by decide +kernel
theorem dL_arePaired_379 : decode cL_arePaired 379 = .ok (.iastore, 1) := by decide +kernel
theorem dL_arePaired_380 : decode cL_arePaired 380 = .ok (.iload 9, 2) := by decide +kernel
theorem dL_arePaired_382 : decode cL_arePaired 382 = .ok (.iload 12, 2) := by decide +kernel
theorem dL_arePaired_384 : decode cL_arePaired 384 = .ok (.iadd, 1) := by decide +kernel
theorem dL_arePaired_385 : decode cL_arePaired 385 = .ok (.istore 9, 2) := by decide +kernel
theorem dL_arePaired_387 : decode cL_arePaired 387 = .ok (.iinc 11 1, 3) := by decide +kernel
theorem dL_arePaired_390 : decode cL_arePaired 390 = .ok (.goto (-135), 3) := by decide +kernel
theorem dL_arePaired_393 : decode cL_arePaired 393 = .ok (.iconst 1, 1) := by decide +kernel
theorem dL_arePaired_394 : decode cL_arePaired 394 = .ok (.istore 11, 2) := by decide +kernel
theorem dL_arePaired_396 : decode cL_arePaired 396 = .ok (.iload 11, 2) := by decide +kernel
theorem dL_arePaired_398 : decode cL_arePaired 398 = .ok (.bipush 6, 2) := by decide +kernel
theorem dL_arePaired_400 : decode cL_arePaired 400 = .ok (.if_icmp .ge 39, 3) := by decide +kernel
theorem dL_arePaired_403 : decode cL_arePaired 403 = .ok (.iload 10, 2) := by decide +kernel
theorem dL_arePaired_405 : decode cL_arePaired 405 = .ok (.ifCond .eq 25, 3) := by decide +kernel
theorem dL_arePaired_408 : decode cL_arePaired 408 = .ok (.aload_n 0, 1) := by decide +kernel
theorem dL_arePaired_409 : decode cL_arePaired 409 = .ok (.iload 5, 2) := by decide +kernel
theorem dL_arePaired_411 : decode cL_arePaired 411 = .ok (.iload 6, 2) := by decide +kernel
theorem dL_arePaired_413 : decode cL_arePaired 413 = .ok (.iload 11, 2) := by decide +kernel
theorem dL_arePaired_415 : decode cL_arePaired 415 = .ok (.invokevirtual 92, 3) := by decide +kernel
theorem dL_arePaired_418 : decode cL_arePaired 418 = .ok (.aload 7, 2) := by decide +kernel
theorem dL_arePaired_420 : decode cL_arePaired 420 = .ok (.iload 11, 2) := by decide +kernel
theorem dL_arePaired_422 : decode cL_arePaired 422 = .ok (.iaload, 1) := by decide +kernel
theorem dL_arePaired_423 : decode cL_arePaired 423 = .ok (.if_icmp .ne 7, 3) := by decide +kernel
theorem dL_arePaired_426 : decode cL_arePaired 426 = .ok (.iconst 1, 1) := by decide +kernel
theorem dL_arePaired_427 : decode cL_arePaired 427 = .ok (.goto 4, 3) := by decide +kernel
theorem dL_arePaired_430 : decode cL_arePaired 430 = .ok (.iconst 0, 1) := by decide +kernel
theorem dL_arePaired_431 : decode cL_arePaired 431 = .ok (.istore 10, 2) := by decide +kernel
theorem dL_arePaired_433 : decode cL_arePaired 433 = .ok (.iinc 11 1, 3) := by decide +kernel
theorem dL_arePaired_436 : decode cL_arePaired 436 = .ok (.goto (-40), 3) := by decide +kernel
theorem dL_arePaired_439 : decode cL_arePaired 439 = .ok (.aload 4, 2) := by decide +kernel
theorem dL_arePaired_441 : decode cL_arePaired 441 = .ok (.bipush 42, 2) := by decide +kernel
theorem dL_arePaired_443 : decode cL_arePaired 443 = .ok (.iaload, 1) := by decide +kernel
theorem dL_arePaired_444 : decode cL_arePaired 444 = .ok (.ifCond .ne 7, 3) := by decide +kernel
theorem dL_arePaired_447 : decode cL_arePaired 447 = .ok (.iconst 1, 1) := by decide +kernel
theorem dL_arePaired_448 : decode cL_arePaired 448 = .ok (.goto 4, 3) := by decide +kernel
theorem dL_arePaired_451 : decode cL_arePaired 451 = .ok (.iconst 0, 1) := by decide +kernel
theorem dL_arePaired_452 : decode cL_arePaired 452 = .ok (.istore 11, 2) := by decide +kernel
theorem dL_arePaired_454 : decode cL_arePaired 454 = .ok (.iload 10, 2) := by decide +kernel
theorem dL_arePaired_456 : decode cL_arePaired 456 = .ok (.ifCond .eq 97, 3) := by decide +kernel
theorem dL_arePaired_459 : decode cL_arePaired 459 = .ok (.aload_n 0, 1) := by decide +kernel
theorem dL_arePaired_460 : decode cL_arePaired 460 = .ok (.iload 5, 2) := by decide +kernel
theorem dL_arePaired_462 : decode cL_arePaired 462 = .ok (.iload 6, 2) := by decide +kernel
theorem dL_arePaired_464 : decode cL_arePaired 464 = .ok (.aload 7, 2) := by decide +kernel
theorem dL_arePaired_466 : decode cL_arePaired 466 = .ok (.iconst 5, 1) := by decide +kernel
theorem dL_arePaired_467 : decode cL_arePaired 467 = .ok (.iaload, 1) := by decide +kernel
theorem dL_arePaired_468 : decode cL_arePaired 468 = .ok (.iconst 0, 1) := by decide +kernel
theorem dL_arePaired_469 : decode cL_arePaired 469 = .ok (.invokevirtual 89, 3) := by decide +kernel
theorem dL_arePaired_472 : decode cL_arePaired 472 = .ok (.ldc 36, 2) := by decide +kernel
theorem dL_arePaired_474 : decode cL_arePaired 474 = .ok (.if_icmp .ne 79, 3) := by decide +kernel
theorem dL_arePaired_477 : decode cL_arePaired 477 = .ok (.aload_n 0, 1) := by decide +kernel
theorem dL_arePaired_478 : decode cL_arePaired 478 = .ok (.iload 5, 2) := by decide +kernel
theorem dL_arePaired_480 : decode cL_arePaired 480 = .ok (.iload 6, 2) := by decide +kernel
theorem dL_arePaired_482 : decode cL_arePaired 482 = .ok (.iconst 0, 1) := by decide +kernel
theorem dL_arePaired_483 : decode cL_arePaired 483 = .ok (.invokevirtual 95, 3) := by decide +kernel
theorem dL_arePaired_486 : decode cL_arePaired 486 = .ok (.iload 11, 2) := by decide +kernel
theorem dL_arePaired_488 : decode cL_arePaired 488 = .ok (.ifCond .eq 8, 3) := by decide +kernel
theorem dL_arePaired_491 : decode cL_arePaired 491 = .ok (.ldc 36, 2) := by decide +kernel
theorem dL_arePaired_493 : decode cL_arePaired 493 = .ok (.goto 5, 3) := by decide +kernel
theorem dL_arePaired_496 : decode cL_arePaired 496 = .ok (.iload 8, 2) := by decide +kernel
theorem dL_arePaired_498 : decode cL_arePaired 498 = .ok (.if_icmp .ne 55, 3) := by decide +kernel
theorem dL_arePaired_501 : decode cL_arePaired 501 = .ok (.aload_n 0, 1) := by decide +kernel
theorem dL_arePaired_502 : decode cL_arePaired 502 = .ok (.iload 5, 2) := by decide +kernel
theorem dL_arePaired_504 : decode cL_arePaired 504 = .ok (.iload 6, 2) := by decide +kernel
theorem dL_arePaired_506 : decode cL_arePaired 506 = .ok (.iconst 1, 1) := by decide +kernel
theorem dL_arePaired_507 : decode cL_arePaired 507 = .ok (.invokevirtual 95, 3) := by decide +kernel
theorem dL_arePaired_510 : decode cL_arePaired 510 = .ok (.iload 11, 2) := by decide +kernel
theorem dL_arePaired_512 : decode cL_arePaired 512 = .ok (.ifCond .eq 8, 3) := by decide +kernel
theorem dL_arePaired_515 : decode cL_arePaired 515 = .ok (.ldc 36, 2) := by decide +kernel
theorem dL_arePaired_517 : decode cL_arePaired 517 = .ok (.goto 5, 3) := by decide +kernel
theorem dL_arePaired_520 : decode cL_arePaired 520 = .ok (.iload 9, 2) := by decide +kernel
theorem dL_arePaired_522 : decode cL_arePaired 522 = .ok (.if_icmp .ne 31, 3) := by decide +kernel
theorem dL_arePaired_525 : decode cL_arePaired 525 = .ok (.aload_n 0, 1) := by decide +kernel
theorem dL_arePaired_526 : decode cL_arePaired 526 = .ok (.iload 5, 2) := by decide +kernel
theorem dL_arePaired_528 : decode cL_arePaired 528 = .ok (.iload 6, 2) := by decide +kernel
theorem dL_arePaired_530 : decode cL_arePaired 530 = .ok (.iconst 2, 1) := by decide +kernel
theorem dL_arePaired_531 : decode cL_arePaired 531 = .ok (.invokevirtual 95, 3) := by decide +kernel
theorem dL_arePaired_534 : decode cL_arePaired 534 = .ok (.iload 11, 2) := by decide +kernel
theorem dL_arePaired_536 : decode cL_arePaired 536 = .ok (.ifCond .eq 8, 3) := by decide +kernel
theorem dL_arePaired_539 : decode cL_arePaired 539 = .ok (.ldc 36, 2) := by decide +kernel
theorem dL_arePaired_541 : decode cL_arePaired 541 = .ok (.goto 5, 3) := by decide +kernel
theorem dL_arePaired_544 : decode cL_arePaired 544 = .ok (.iload 8, 2) := by decide +kernel
theorem dL_arePaired_546 : decode cL_arePaired 546 = .ok (.if_icmp .ne 7, 3) := by decide +kernel
theorem dL_arePaired_549 : decode cL_arePaired 549 = .ok (.iconst 1, 1) := by decide +kernel
theorem dL_arePaired_550 : decode cL_arePaired 550 = .ok (.goto 4, 3) := by decide +kernel
theorem dL_arePaired_553 : decode cL_arePaired 553 = .ok (.iconst 0, 1) := by decide +kernel
theorem dL_arePaired_554 : decode cL_arePaired 554 = .ok (.ireturn, 1) := by decide +kernel
theorem dL_isSo_0 : decode cL_isSo 0 = .ok (.iconst 0, 1) := by decide +kernel
theorem dL_isSo_1 : decode cL_isSo 1 = .ok (.istore 6, 2) := by decide +kernel
theorem dL_isSo_3 : decode cL_isSo 3 = .ok (.iconst 0, 1) := by decide +kernel
theorem dL_isSo_4 : decode cL_isSo 4 = .ok (.istore 7, 2) := by decide +kernel
theorem dL_isSo_6 : decode cL_isSo 6 = .ok (.iconst 0, 1) := by decide +kernel
theorem dL_isSo_7 : decode cL_isSo 7 = .ok (.istore 8, 2) := by decide +kernel
theorem dL_isSo_9 : decode cL_isSo 9 = .ok (.iconst 1, 1) := by decide +kernel
theorem dL_isSo_10 : decode cL_isSo 10 = .ok (.istore 9, 2) := by decide +kernel
theorem dL_isSo_12 : decode cL_isSo 12 = .ok (.iconst 0, 1) := by decide +kernel
theorem dL_isSo_13 : decode cL_isSo 13 = .ok (.istore 10, 2) := by decide +kernel
theorem dL_isSo_15 : decode cL_isSo 15 = .ok (.iload 10, 2) := by decide +kernel
theorem dL_isSo_17 : decode cL_isSo 17 = .ok (.bipush 26, 2) := by decide +kernel
theorem dL_isSo_19 : decode cL_isSo 19 = .ok (.if_icmp .ge 22, 3) := by decide +kernel
theorem dL_isSo_22 : decode cL_isSo 22 = .ok (.iload 7, 2) := by decide +kernel
theorem dL_isSo_24 : decode cL_isSo 24 = .ok (.aload_n 1, 1) := by decide +kernel
theorem dL_isSo_25 : decode cL_isSo 25 = .ok (.iconst 5, 1) := by decide +kernel
theorem dL_isSo_26 : decode cL_isSo 26 = .ok (.iaload, 1) := by decide +kernel
theorem dL_isSo_27 : decode cL_isSo 27 = .ok (.iload 10, 2) := by decide +kernel
theorem dL_isSo_29 : decode cL_isSo 29 = .ok (.ishr, 1) := by decide +kernel
theorem dL_isSo_30 : decode cL_isSo 30 = .ok (.iconst 1, 1) := by decide +kernel
theorem dL_isSo_31 : decode cL_isSo 31 = .ok (.iand, 1) := by decide +kernel
theorem dL_isSo_32 : decode cL_isSo 32 = .ok (.iadd, 1) := by decide +kernel
theorem dL_isSo_33 : decode cL_isSo 33 = .ok (.istore 7, 2) := by decide +kernel
theorem dL_isSo_35 : decode cL_isSo 35 = .ok (.iinc 10 1, 3) := by decide +kernel
theorem dL_isSo_38 : decode cL_isSo 38 = .ok (.goto (-23), 3) := by decide +kernel
theorem dL_isSo_41 : decode cL_isSo 41 = .ok (.iconst 0, 1) := by decide +kernel
theorem dL_isSo_42 : decode cL_isSo 42 = .ok (.istore 10, 2) := by decide +kernel
theorem dL_isSo_44 : decode cL_isSo 44 = .ok (.iload 10, 2) := by decide +kernel
theorem dL_isSo_46 : decode cL_isSo 46 = .ok (.iconst 4, 1) := by decide +kernel
theorem dL_isSo_47 : decode cL_isSo 47 = .ok (.if_icmp .ge 338, 3) := by decide +kernel
theorem dL_isSo_50 : decode cL_isSo 50 = .ok (.iload 9, 2) := by decide +kernel
theorem dL_isSo_52 : decode cL_isSo 52 = .ok (.ifCond .eq 333, 3) := by decide +kernel
theorem dL_isSo_55 : decode cL_isSo 55 = .ok (.iload 6, 2) := by decide +kernel
theorem dL_isSo_57 : decode cL_isSo 57 = .ok (.aload_n 1, 1) := by decide +kernel
theorem dL_isSo_58 : decode cL_isSo 58 = .ok (.bipush 10, 2) := by decide +kernel
theorem dL_isSo_60 : decode cL_isSo 60 = .ok (.iload 10, 2) := by decide +kernel
theorem dL_isSo_62 : decode cL_isSo 62 = .ok (.iadd, 1) := by decide +kernel
theorem dL_isSo_63 : decode cL_isSo 63 = .ok (.iaload, 1) := by decide +kernel
theorem dL_isSo_64 : decode cL_isSo 64 = .ok (.iadd, 1) := by decide +kernel
theorem dL_isSo_65 : decode cL_isSo 65 = .ok (.istore 6, 2) := by decide +kernel
theorem dL_isSo_67 : decode cL_isSo 67 = .ok (.iload 8, 2) := by decide +kernel
theorem dL_isSo_69 : decode cL_isSo 69 = .ok (.aload_n 1, 1) := by decide +kernel
theorem dL_isSo_70 : decode cL_isSo 70 = .ok (.aload_n 2, 1) := by decide +kernel
theorem dL_isSo_71 : decode cL_isSo 71 = .ok (.iload 10, 2) := by decide +kernel
theorem dL_isSo_73 : decode cL_isSo 73 = .ok (.invokestatic 61, 3) := by decide +kernel
theorem dL_isSo_76 : decode cL_isSo 76 = .ok (.iadd, 1) := by decide +kernel
theorem dL_isSo_77 : decode cL_isSo 77 = .ok (.istore 8, 2) := by decide +kernel
theorem dL_isSo_79 : decode cL_isSo 79 = .ok (.aload_n 0, 1) := by decide +kernel
theorem dL_isSo_80 : decode cL_isSo 80 = .ok (.iload 10, 2) := by decide +kernel
theorem dL_isSo_82 : decode cL_isSo 82 = .ok (.invokevirtual 98, 3) := by decide +kernel
theorem dL_isSo_85 : decode cL_isSo 85 = .ok (.aload_n 1, 1) := by decide +kernel
theorem dL_isSo_86 : decode cL_isSo 86 = .ok (.iload 10, 2) := by decide +kernel
theorem dL_isSo_88 : decode cL_isSo 88 = .ok (.iaload, 1) := by decide +kernel
theorem dL_isSo_89 : decode cL_isSo 89 = .ok (.if_icmp .ne 95, 3) := by decide +kernel
theorem dL_isSo_92 : decode cL_isSo 92 = .ok (.aload_n 0, 1) := by decide +kernel
theorem dL_isSo_93 : decode cL_isSo 93 = .ok (.iload 10, 2) := by decide +kernel
theorem dL_isSo_95 : decode cL_isSo 95 = .ok (.iconst 0, 1) := by decide +kernel
theorem dL_isSo_96 : decode cL_isSo 96 = .ok (.invokevirtual 102, 3) := by decide +kernel
theorem dL_isSo_99 : decode cL_isSo 99 = .ok (.aload_n 1, 1) := by decide +kernel
theorem dL_isSo_100 : decode cL_isSo 100 = .ok (.bipush 6, 2) := by decide +kernel
theorem dL_isSo_102 : decode cL_isSo 102 = .ok (.iload 10, 2) := by decide +kernel
theorem dL_isSo_104 : decode cL_isSo 104 = .ok (.iadd, 1) := by decide +kernel
theorem dL_isSo_105 : decode cL_isSo 105 = .ok (.iaload, 1) := by decide +kernel
theorem dL_isSo_106 : decode cL_isSo 106 = .ok (.if_icmp .ne 78, 3) := by decide +kernel
theorem dL_isSo_109 : decode cL_isSo 109 = .ok (.aload_n 0, 1) := by decide +kernel
theorem dL_isSo_110 : decode cL_isSo 110 = .ok (.iload 10, 2) := by decide +kernel
theorem dL_isSo_112 : decode cL_isSo 112 = .ok (.iconst 1, 1) := by decide +kernel
theorem dL_isSo_113 : decode cL_isSo 113 = .ok (.invokevirtual 102, 3) := by decide +kernel
theorem dL_isSo_116 : decode cL_isSo 116 = .ok (.aload_n 1, 1) := by decide +kernel
theorem dL_isSo_117 : decode cL_isSo 117 = .ok (.bipush 10, 2) := by decide +kernel
theorem dL_isSo_119 : decode cL_isSo 119 = .ok (.iload 10, 2) := by decide +kernel
theorem dL_isSo_121 : decode cL_isSo 121 = .ok (.iadd, 1) := by decide +kernel
theorem dL_isSo_122 : decode cL_isSo 122 = .ok (.iaload, 1) := by decide +kernel
theorem dL_isSo_123 : decode cL_isSo 123 = .ok (.if_icmp .ne 61, 3) := by decide +kernel
theorem dL_isSo_126 : decode cL_isSo 126 = .ok (.aload_n 0, 1) := by decide +kernel
theorem dL_isSo_127 : decode cL_isSo 127 = .ok (.iload 10, 2) := by decide +kernel
theorem dL_isSo_129 : decode cL_isSo 129 = .ok (.iconst 2, 1) := by decide +kernel
theorem dL_isSo_130 : decode cL_isSo 130 = .ok (.invokevirtual 102, 3) := by decide +kernel
theorem dL_isSo_133 : decode cL_isSo 133 = .ok (.aload_n 1, 1) := by decide +kernel
theorem dL_isSo_134 : decode cL_isSo 134 = .ok (.aload_n 2, 1) := by decide +kernel
theorem dL_isSo_135 : decode cL_isSo 135 = .ok (.iload 10, 2) := by decide +kernel
theorem dL_isSo_137 : decode cL_isSo 137 = .ok (.invokestatic 61, 3) := by decide +kernel
theorem dL_isSo_140 : decode cL_isSo 140 = .ok (.if_icmp .ne 44, 3) := by decide +kernel
theorem dL_isSo_143 : decode cL_isSo 143 = .ok (.aload_n 0, 1) := by decide +kernel
theorem dL_isSo_144 : decode cL_isSo 144 = .ok (.iload 10, 2) := by decide +kernel
theorem dL_isSo_146 : decode cL_isSo 146 = .ok (.iconst 1, 1) := by decide +kernel
theorem dL_isSo_147 : decode cL_isSo 147 = .ok (.iadd, 1) := by decide +kernel
theorem dL_isSo_148 : decode cL_isSo 148 = .ok (.invokevirtual 105, 3) := by decide +kernel
theorem dL_isSo_151 : decode cL_isSo 151 = .ok (.aload_n 1, 1) := by decide +kernel
theorem dL_isSo_152 : decode cL_isSo 152 = .ok (.bipush 14, 2) := by decide +kernel
theorem dL_isSo_154 : decode cL_isSo 154 = .ok (.iload 10, 2) := by decide +kernel
theorem dL_isSo_156 : decode cL_isSo 156 = .ok (.iadd, 1) := by decide +kernel
theorem dL_isSo_157 : decode cL_isSo 157 = .ok (.iaload, 1) := by decide +kernel
theorem dL_isSo_158 : decode cL_isSo 158 = .ok (.if_icmp .ne 26, 3) := by decide +kernel
theorem dL_isSo_161 : decode cL_isSo 161 = .ok (.aload_n 0, 1) := by decide +kernel
theorem dL_isSo_162 : decode cL_isSo 162 = .ok (.iload 10, 2) := by decide +kernel
theorem dL_isSo_164 : decode cL_isSo 164 = .ok (.aload_n 1, 1) := by decide +kernel
theorem dL_isSo_165 : decode cL_isSo 165 = .ok (.bipush 10, 2) := by decide +kernel
theorem dL_isSo_167 : decode cL_isSo 167 = .ok (.iload 10, 2) := by decide +kernel
theorem dL_isSo_169 : decode cL_isSo 169 = .ok (.iadd, 1) := by decide +kernel
theorem dL_isSo_170 : decode cL_isSo 170 = .ok (.iaload, 1) := by decide +kernel
theorem dL_isSo_171 : decode cL_isSo 171 = .ok (.iconst 0, 1) := by decide +kernel
theorem dL_isSo_172 : decode cL_isSo 172 = .ok (.invokevirtual 108, 3) := by decide +kernel
theorem dL_isSo_175 : decode cL_isSo 175 = .ok (.ldc 36, 2) := by decide +kernel
theorem dL_isSo_177 : decode cL_isSo 177 = .ok (.if_icmp .ne 7, 3) := by decide +kernel
theorem dL_isSo_180 : decode cL_isSo 180 = .ok (.iconst 1, 1) := by decide +kernel
theorem dL_isSo_181 : decode cL_isSo 181 = .ok (.goto 4, 3) := by decide +kernel
theorem dL_isSo_184 : decode cL_isSo 184 = .ok (.iconst 0, 1) := by decide +kernel
theorem dL_isSo_185 : decode cL_isSo 185 = .ok (.istore 9, 2) := by decide +kernel
theorem dL_isSo_187 : decode cL_isSo 187 = .ok (.iconst 0, 1) := by decide +kernel
theorem dL_isSo_188 : decode cL_isSo 188 = .ok (.istore 11, 2) := by decide +kernel
theorem dL_isSo_190 : decode cL_isSo 190 = .ok (.iload 11, 2) := by decide +kernel
theorem dL_isSo_192 : decode cL_isSo 192 = .ok (.aload_n 1, 1) := by decide +kernel
theorem dL_isSo_193 : decode cL_isSo 193 = .ok (.bipush 10, 2) := by decide +kernel
theorem dL_isSo_195 : decode cL_isSo 195 = .ok (.iload 10, 2) := by decide +kernel
theorem dL_isSo_197 : decode cL_isSo 197 = .ok (.iadd, 1) := by decide +kernel
theorem dL_isSo_198 : decode cL_isSo 198 = .ok (.iaload, 1) := by decide +kernel
theorem dL_isSo_199 : decode cL_isSo 199 = .ok (.if_icmp .ge 180, 3) := by decide +kernel
theorem dL_isSo_202 : decode cL_isSo 202 = .ok (.iload 9, 2) := by decide +kernel
theorem dL_isSo_204 : decode cL_isSo 204 = .ok (.ifCond .eq 175, 3) := by decide +kernel
theorem dL_isSo_207 : decode cL_isSo 207 = .ok (.iconst 0, 1) := by decide +kernel
theorem dL_isSo_208 : decode cL_isSo 208 = .ok (.istore 12, 2) := by decide +kernel
theorem dL_isSo_210 : decode cL_isSo 210 = .ok (.bipush 12, 2) := by decide +kernel
theorem dL_isSo_212 : decode cL_isSo 212 = .ok (.iload 10, 2) := by decide +kernel
theorem dL_isSo_214 : decode cL_isSo 214 = .ok (.imul, 1) := by decide +kernel
theorem dL_isSo_215 : decode cL_isSo 215 = .ok (.iconst 2, 1) := by decide +kernel
theorem dL_isSo_216 : decode cL_isSo 216 = .ok (.iload 11, 2) := by decide +kernel
theorem dL_isSo_218 : decode cL_isSo 218 = .ok (.imul, 1) := by decide +kernel
theorem dL_isSo_219 : decode cL_isSo 219 = .ok (.iadd, 1) := by decide +kernel
theorem dL_isSo_220 : decode cL_isSo 220 = .ok (.istore 13, 2) := by decide +kernel
theorem dL_isSo_222 : decode cL_isSo 222 = .ok (.iconst 0, 1) := by decide +kernel
theorem dL_isSo_223 : decode cL_isSo 223 = .ok (.istore 14, 2) := by decide +kernel
theorem dL_isSo_225 : decode cL_isSo 225 = .ok (.iload 14, 2) := by decide +kernel
theorem dL_isSo_227 : decode cL_isSo 227 = .ok (.iload 11, 2) := by decide +kernel
theorem dL_isSo_229 : decode cL_isSo 229 = .ok (.if_icmp .ge 38, 3) := by decide +kernel
theorem dL_isSo_232 : decode cL_isSo 232 = .ok (.iload 12, 2) := by decide +kernel
theorem dL_isSo_234 : decode cL_isSo 234 = .ok (.aload_n 2, 1) := by decide +kernel
theorem dL_isSo_235 : decode cL_isSo 235 = .ok (.bipush 12, 2) := by decide +kernel
theorem dL_isSo_237 : decode cL_isSo 237 = .ok (.iload 10, 2) := by decide +kernel
theorem dL_isSo_239 : decode cL_isSo 239 = .ok (.imul, 1) := by decide +kernel
theorem dL_isSo_240 : decode cL_isSo 240 = .ok (.iconst 2, 1) := by decide +kernel
theorem dL_isSo_241 : decode cL_isSo 241 = .ok (.iload 14, 2) := by decide +kernel
theorem dL_isSo_243 : decode cL_isSo 243 = .ok (.imul, 1) := by decide +kernel
theorem dL_isSo_244 : decode cL_isSo 244 = .ok (.iadd, 1) := by decide +kernel
theorem dL_isSo_245 : decode cL_isSo 245 = .ok (.iaload, 1) := by decide +kernel
theorem dL_isSo_246 : decode cL_isSo 246 = .ok (.aload_n 2, 1) := by decide +kernel
theorem dL_isSo_247 : decode cL_isSo 247 = .ok (.iload 13, 2) := by decide +kernel
theorem dL_isSo_249 : decode cL_isSo 249 = .ok (.iaload, 1) := by decide +kernel
theorem dL_isSo_250 : decode cL_isSo 250 = .ok (.if_icmp .ne 7, 3) := by decide +kernel
theorem dL_isSo_253 : decode cL_isSo 253 = .ok (.iconst 1, 1) := by decide +kernel
theorem dL_isSo_254 : decode cL_isSo 254 = .ok (.goto 4, 3) := by decide +kernel
theorem dL_isSo_257 : decode cL_isSo 257 = .ok (.iconst 0, 1) := by decide +kernel
theorem dL_isSo_258 : decode cL_isSo 258 = .ok (.iadd, 1) := by decide +kernel
theorem dL_isSo_259 : decode cL_isSo 259 = .ok (.istore 12, 2) := by decide +kernel
theorem dL_isSo_261 : decode cL_isSo 261 = .ok (.iinc 14 1, 3) := by decide +kernel
theorem dL_isSo_264 : decode cL_isSo 264 = .ok (.goto (-39), 3) := by decide +kernel
theorem dL_isSo_267 : decode cL_isSo 267 = .ok (.aload_n 0, 1) := by decide +kernel
theorem dL_isSo_268 : decode cL_isSo 268 = .ok (.iload 10, 2) := by decide +kernel
theorem dL_isSo_270 : decode cL_isSo 270 = .ok (.iload 11, 2) := by decide +kernel
theorem dL_isSo_272 : decode cL_isSo 272 = .ok (.iconst 0, 1) := by decide +kernel
theorem dL_isSo_273 : decode cL_isSo 273 = .ok (.invokevirtual 108, 3) := by decide +kernel
theorem dL_isSo_276 : decode cL_isSo 276 = .ok (.aload_n 2, 1) := by decide +kernel
theorem dL_isSo_277 : decode cL_isSo 277 = .ok (.iload 13, 2) := by decide +kernel
theorem dL_isSo_279 : decode cL_isSo 279 = .ok (.iaload, 1) := by decide +kernel
theorem dL_isSo_280 : decode cL_isSo 280 = .ok (.if_icmp .ne 90, 3) := by decide +kernel
theorem dL_isSo_283 : decode cL_isSo 283 = .ok (.aload_n 0, 1) := by decide +kernel
theorem dL_isSo_284 : decode cL_isSo 284 = .ok (.iload 10, 2) := by decide +kernel
theorem dL_isSo_286 : decode cL_isSo 286 = .ok (.iload 11, 2) := by decide +kernel
theorem dL_isSo_288 : decode cL_isSo 288 = .ok (.iconst 1, 1) := by decide +kernel
theorem dL_isSo_289 : decode cL_isSo 289 = .ok (.invokevirtual 108, 3) := by decide +kernel
theorem dL_isSo_292 : decode cL_isSo 292 = .ok (.aload_n 2, 1) := by decide +kernel
theorem dL_isSo_293 : decode cL_isSo 293 = .ok (.iload 13, 2) := by decide +kernel
theorem dL_isSo_295 : decode cL_isSo 295 = .ok (.iconst 1, 1) := by decide +kernel
theorem dL_isSo_296 : decode cL_isSo 296 = .ok (.iadd, 1) := by decide +kernel
theorem dL_isSo_297 : decode cL_isSo 297 = .ok (.iaload, 1) := by decide +kernel
theorem dL_isSo_298 : decode cL_isSo 298 = .ok (.if_icmp .ne 72, 3) := by decide +kernel
theorem dL_isSo_301 : decode cL_isSo 301 = .ok (.aload_n 0, 1) := by decide +kernel
theorem dL_isSo_302 : decode cL_isSo 302 = .ok (.iload 10, 2) := by decide +kernel
theorem dL_isSo_304 : decode cL_isSo 304 = .ok (.iload 11, 2) := by decide +kernel
theorem dL_isSo_306 : decode cL_isSo 306 = .ok (.iconst 2, 1) := by decide +kernel
theorem dL_isSo_307 : decode cL_isSo 307 = .ok (.invokevirtual 108, 3) := by decide +kernel
theorem dL_isSo_310 : decode cL_isSo 310 = .ok (.aload_n 2, 1) := by decide +kernel
theorem dL_isSo_311 : decode cL_isSo 311 = .ok (.iload 10, 2) := by decide +kernel
theorem dL_isSo_313 : decode cL_isSo 313 = .ok (.iload 11, 2) := by decide +kernel
theorem dL_isSo_315 : decode cL_isSo 315 = .ok (.invokestatic 32, 3) := by decide +kernel
theorem dL_isSo_318 : decode cL_isSo 318 = .ok (.if_icmp .ne 52, 3) := by decide +kernel
theorem dL_isSo_321 : decode cL_isSo 321 = .ok (.aload_n 0, 1) := by decide +kernel
theorem dL_isSo_322 : decode cL_isSo 322 = .ok (.iload 10, 2) := by decide +kernel
theorem dL_isSo_324 : decode cL_isSo 324 = .ok (.iload 11, 2) := by decide +kernel
theorem dL_isSo_326 : decode cL_isSo 326 = .ok (.iconst 3, 1) := by decide +kernel
theorem dL_isSo_327 : decode cL_isSo 327 = .ok (.invokevirtual 108, 3) := by decide +kernel
theorem dL_isSo_330 : decode cL_isSo 330 = .ok (.aload_n 1, 1) := by decide +kernel
theorem dL_isSo_331 : decode cL_isSo 331 = .ok (.bipush 6, 2) := by decide +kernel
theorem dL_isSo_333 : decode cL_isSo 333 = .ok (.iload 10, 2) := by decide +kernel
theorem dL_isSo_335 : decode cL_isSo 335 = .ok (.iadd, 1) := by decide +kernel
theorem dL_isSo_336 : decode cL_isSo 336 = .ok (.iaload, 1) := by decide +kernel
theorem dL_isSo_337 : decode cL_isSo 337 = .ok (.aload_n 2, 1) := by decide +kernel
theorem dL_isSo_338 : decode cL_isSo 338 = .ok (.iload 10, 2) := by decide +kernel
theorem dL_isSo_340 : decode cL_isSo 340 = .ok (.iload 11, 2) := by decide +kernel
theorem dL_isSo_342 : decode cL_isSo 342 = .ok (.invokestatic 32, 3) := by decide +kernel
theorem dL_isSo_345 : decode cL_isSo 345 = .ok (.isub, 1) := by decide +kernel
theorem dL_isSo_346 : decode cL_isSo 346 = .ok (.if_icmp .ne 24, 3) := by decide +kernel
theorem dL_isSo_349 : decode cL_isSo 349 = .ok (.aload_n 0, 1) := by decide +kernel
theorem dL_isSo_350 : decode cL_isSo 350 = .ok (.iload 10, 2) := by decide +kernel
theorem dL_isSo_352 : decode cL_isSo 352 = .ok (.aload_n 2, 1) := by decide +kernel
theorem dL_isSo_353 : decode cL_isSo 353 = .ok (.iload 13, 2) := by decide +kernel
theorem dL_isSo_355 : decode cL_isSo 355 = .ok (.iaload, 1) := by decide +kernel
theorem dL_isSo_356 : decode cL_isSo 356 = .ok (.iload 12, 2) := by decide +kernel
theorem dL_isSo_358 : decode cL_isSo 358 = .ok (.invokevirtual 111, 3) := by decide +kernel
theorem dL_isSo_361 : decode cL_isSo 361 = .ok (.iload 11, 2) := by decide +kernel
theorem dL_isSo_363 : decode cL_isSo 363 = .ok (.if_icmp .ne 7, 3) := by decide +kernel
theorem dL_isSo_366 : decode cL_isSo 366 = .ok (.iconst 1, 1) := by decide +kernel
theorem dL_isSo_367 : decode cL_isSo 367 = .ok (.goto 4, 3) := by decide +kernel
theorem dL_isSo_370 : decode cL_isSo 370 = .ok (.iconst 0, 1) := by decide +kernel
theorem dL_isSo_371 : decode cL_isSo 371 = .ok (.istore 9, 2) := by decide +kernel
theorem dL_isSo_373 : decode cL_isSo 373 = .ok (.iinc 11 1, 3) := by decide +kernel
theorem dL_isSo_376 : decode cL_isSo 376 = .ok (.goto (-186), 3) := by decide +kernel
theorem dL_isSo_379 : decode cL_isSo 379 = .ok (.iinc 10 1, 3) := by decide +kernel
theorem dL_isSo_382 : decode cL_isSo 382 = .ok (.goto (-338), 3) := by decide +kernel
theorem dL_isSo_385 : decode cL_isSo 385 = .ok (.iload 5, 2) := by decide +kernel
theorem dL_isSo_387 : decode cL_isSo 387 = .ok (.iconst 3, 1) := by decide +kernel
theorem dL_isSo_388 : decode cL_isSo 388 = .ok (.iand, 1) := by decide +kernel
theorem dL_isSo_389 : decode cL_isSo 389 = .ok (.istore 10, 2) := by decide +kernel
theorem dL_isSo_391 : decode cL_isSo 391 = .ok (.iload 10, 2) := by decide +kernel
theorem dL_isSo_393 : decode cL_isSo 393 = .ok (.iconst 1, 1) := by decide +kernel
theorem dL_isSo_394 : decode cL_isSo 394 = .ok (.iadd, 1) := by decide +kernel
theorem dL_isSo_395 : decode cL_isSo 395 = .ok (.iload 5, 2) := by decide +kernel
theorem dL_isSo_397 : decode cL_isSo 397 = .ok (.iconst 2, 1) := by decide +kernel
theorem dL_isSo_398 : decode cL_isSo 398 = .ok (.ishr, 1) := by decide +kernel
theorem dL_isSo_399 : decode cL_isSo 399 = .ok (.iconst 3, 1) := by decide +kernel
theorem dL_isSo_400 : decode cL_isSo 400 = .ok (.invokestatic 39, 3) := by decide +kernel
theorem dL_isSo_403 : decode cL_isSo 403 = .ok (.iadd, 1) := by decide +kernel
theorem dL_isSo_404 : decode cL_isSo 404 = .ok (.iconst 3, 1) := by decide +kernel
theorem dL_isSo_405 : decode cL_isSo 405 = .ok (.iand, 1) := by decide +kernel
theorem dL_isSo_406 : decode cL_isSo 406 = .ok (.istore 11, 2) := by decide +kernel
theorem dL_isSo_408 : decode cL_isSo 408 = .ok (.iload 9, 2) := by decide +kernel
theorem dL_isSo_410 : decode cL_isSo 410 = .ok (.ifCond .eq 89, 3) := by decide +kernel
theorem dL_isSo_413 : decode cL_isSo 413 = .ok (.aload_n 0, 1) := by decide +kernel
theorem dL_isSo_414 : decode cL_isSo 414 = .ok (.iconst 4, 1) := by decide +kernel
theorem dL_isSo_415 : decode cL_isSo 415 = .ok (.invokevirtual 98, 3) := by decide +kernel
theorem dL_isSo_418 : decode cL_isSo 418 = .ok (.aload_n 1, 1) := by decide +kernel
theorem dL_isSo_419 : decode cL_isSo 419 = .ok (.iconst 4, 1) := by decide +kernel
theorem dL_isSo_420 : decode cL_isSo 420 = .ok (.iaload, 1) := by decide +kernel
theorem dL_isSo_421 : decode cL_isSo 421 = .ok (.if_icmp .ne 78, 3) := by decide +kernel
theorem dL_isSo_424 : decode cL_isSo 424 = .ok (.aload_n 0, 1) := by decide +kernel
theorem dL_isSo_425 : decode cL_isSo 425 = .ok (.iconst 5, 1) := by decide +kernel
theorem dL_isSo_426 : decode cL_isSo 426 = .ok (.invokevirtual 98, 3) := by decide +kernel
theorem dL_isSo_429 : decode cL_isSo 429 = .ok (.iload 7, 2) := by decide +kernel
theorem dL_isSo_431 : decode cL_isSo 431 = .ok (.if_icmp .ne 68, 3) := by decide +kernel
theorem dL_isSo_434 : decode cL_isSo 434 = .ok (.aload_n 0, 1) := by decide +kernel
theorem dL_isSo_435 : decode cL_isSo 435 = .ok (.bipush 6, 2) := by decide +kernel
theorem dL_isSo_437 : decode cL_isSo 437 = .ok (.invokevirtual 98, 3) := by decide +kernel
theorem dL_isSo_440 : decode cL_isSo 440 = .ok (.iload 6, 2) := by decide +kernel
theorem dL_isSo_442 : decode cL_isSo 442 = .ok (.if_icmp .ne 57, 3) := by decide +kernel
theorem dL_isSo_445 : decode cL_isSo 445 = .ok (.aload_n 0, 1) := by decide +kernel
theorem dL_isSo_446 : decode cL_isSo 446 = .ok (.iconst 0, 1) := by decide +kernel
theorem dL_isSo_447 : decode cL_isSo 447 = .ok (.invokevirtual 105, 3) := by decide +kernel
theorem dL_isSo_450 : decode cL_isSo 450 = .ok (.iload 8, 2) := by decide +kernel
theorem dL_isSo_452 : decode cL_isSo 452 = .ok (.if_icmp .ne 47, 3) := by decide +kernel
theorem dL_isSo_455 : decode cL_isSo 455 = .ok (.iload 8, 2) := by decide +kernel
theorem dL_isSo_457 : decode cL_isSo 457 = .ok (.aload_n 1, 1) := by decide +kernel
theorem dL_isSo_458 : decode cL_isSo 458 = .ok (.bipush 14, 2) := by decide +kernel
theorem dL_isSo_460 : decode cL_isSo 460 = .ok (.iaload, 1) := by decide +kernel
theorem dL_isSo_461 : decode cL_isSo 461 = .ok (.aload_n 1, 1) := by decide +kernel
theorem dL_isSo_462 : decode cL_isSo 462 = .ok (.bipush 15, 2) := by decide +kernel
theorem dL_isSo_464 : decode cL_isSo 464 = .ok (.iaload, 1) := by decide +kernel
theorem dL_isSo_465 : decode cL_isSo 465 = .ok (.isub, 1) := by decide +kernel
theorem dL_isSo_466 : decode cL_isSo 466 = .ok (.aload_n 1, 1) := by decide +kernel
theorem dL_isSo_467 : decode cL_isSo 467 = .ok (.bipush 16, 2) := by decide +kernel
theorem dL_isSo_469 : decode cL_isSo 469 = .ok (.iaload, 1) := by decide +kernel
theorem dL_isSo_470 : decode cL_isSo 470 = .ok (.isub, 1) := by decide +kernel
theorem dL_isSo_471 : decode cL_isSo 471 = .ok (.aload_n 1, 1) := by decide +kernel
theorem dL_isSo_472 : decode cL_isSo 472 = .ok (.bipush 17, 2) := by decide +kernel
theorem dL_isSo_474 : decode cL_isSo 474 = .ok (.iaload, 1) := by decide +kernel
theorem dL_isSo_475 : decode cL_isSo 475 = .ok (.iadd, 1) := by decide +kernel
theorem dL_isSo_476 : decode cL_isSo 476 = .ok (.if_icmp .ne 23, 3) := by decide +kernel
theorem dL_isSo_479 : decode cL_isSo 479 = .ok (.aload_n 0, 1) := by decide +kernel
theorem dL_isSo_480 : decode cL_isSo 480 = .ok (.aload_n 1, 1) := by decide +kernel
theorem dL_isSo_481 : decode cL_isSo 481 = .ok (.aload_n 2, 1) := by decide +kernel
theorem dL_isSo_482 : decode cL_isSo 482 = .ok (.aload_n 3, 1) := by decide +kernel
theorem dL_isSo_483 : decode cL_isSo 483 = .ok (.aload 4, 2) := by decide +kernel
theorem dL_isSo_485 : decode cL_isSo 485 = .ok (.iload 10, 2) := by decide +kernel
theorem dL_isSo_487 : decode cL_isSo 487 = .ok (.iload 11, 2) := by decide +kernel
theorem dL_isSo_489 : decode cL_isSo 489 = .ok (.invokestatic 114, 3) := by decide +kernel
theorem dL_isSo_492 : decode cL_isSo 492 = .ok (.ifCond .eq 7, 3) := by decide +kernel
theorem dL_isSo_495 : decode cL_isSo 495 = .ok (.iconst 1, 1) := by decide +kernel
theorem dL_isSo_496 : decode cL_isSo 496 = .ok (.goto 4, 3) := by decide +kernel
theorem dL_isSo_499 : decode cL_isSo 499 = .ok (.iconst 0, 1) := by decide +kernel
theorem dL_isSo_500 : decode cL_isSo 500 = .ok (.ireturn, 1) := by decide +kernel
theorem dL_law_0 : decode cL_law 0 = .ok (.new 43, 3) := by decide +kernel
theorem dL_law_3 : decode cL_law 3 = .ok (.dup, 1) := by decide +kernel
theorem dL_law_4 : decode cL_law 4 = .ok (.invokespecial 118, 3) := by decide +kernel
theorem dL_law_7 : decode cL_law 7 = .ok (.astore_n 1, 1) := by decide +kernel
theorem dL_law_8 : decode cL_law 8 = .ok (.bipush 18, 2) := by decide +kernel
theorem dL_law_10 : decode cL_law 10 = .ok (.newarray .int, 2) := by decide +kernel
theorem dL_law_12 : decode cL_law 12 = .ok (.astore_n 2, 1) := by decide +kernel
theorem dL_law_13 : decode cL_law 13 = .ok (.bipush 48, 2) := by decide +kernel
theorem dL_law_15 : decode cL_law 15 = .ok (.newarray .int, 2) := by decide +kernel
theorem dL_law_17 : decode cL_law 17 = .ok (.astore_n 3, 1) := by decide +kernel
theorem dL_law_18 : decode cL_law 18 = .ok (.bipush 49, 2) := by decide +kernel
theorem dL_law_20 : decode cL_law 20 = .ok (.newarray .int, 2) := by decide +kernel
theorem dL_law_22 : decode cL_law 22 = .ok (.astore 4, 2) := by decide +kernel
theorem dL_law_24 : decode cL_law 24 = .ok (.bipush 44, 2) := by decide +kernel
theorem dL_law_26 : decode cL_law 26 = .ok (.newarray .int, 2) := by decide +kernel
theorem dL_law_28 : decode cL_law 28 = .ok (.astore 5, 2) := by decide +kernel
theorem dL_law_30 : decode cL_law 30 = .ok (.aload_n 2, 1) := by decide +kernel
theorem dL_law_31 : decode cL_law 31 = .ok (.invokestatic 119, 3) := by decide +kernel
theorem dL_law_34 : decode cL_law 34 = .ok (.aload_n 1, 1) := by decide +kernel
theorem dL_law_35 : decode cL_law 35 = .ok (.aload_n 2, 1) := by decide +kernel
theorem dL_law_36 : decode cL_law 36 = .ok (.aload_n 3, 1) := by decide +kernel
theorem dL_law_37 : decode cL_law 37 = .ok (.aload 4, 2) := by decide +kernel
theorem dL_law_39 : decode cL_law 39 = .ok (.aload 5, 2) := by decide +kernel
theorem dL_law_41 : decode cL_law 41 = .ok (.iconst 0, 1) := by decide +kernel
theorem dL_law_42 : decode cL_law 42 = .ok (.invokestatic 123, 3) := by decide +kernel
theorem dL_law_45 : decode cL_law 45 = .ok (.istore 6, 2) := by decide +kernel
theorem dL_law_47 : decode cL_law 47 = .ok (.iconst 0, 1) := by decide +kernel
theorem dL_law_48 : decode cL_law 48 = .ok (.istore 7, 2) := by decide +kernel
theorem dL_law_50 : decode cL_law 50 = .ok (.iload 7, 2) := by decide +kernel
theorem dL_law_52 : decode cL_law 52 = .ok (.bipush 12, 2) := by decide +kernel
theorem dL_law_54 : decode cL_law 54 = .ok (.if_icmp .ge 44, 3) := by decide +kernel
theorem dL_law_57 : decode cL_law 57 = .ok (.iload 6, 2) := by decide +kernel
theorem dL_law_59 : decode cL_law 59 = .ok (.ifCond .eq 39, 3) := by decide +kernel
theorem dL_law_62 : decode cL_law 62 = .ok (.aload_n 1, 1) := by decide +kernel
theorem dL_law_63 : decode cL_law 63 = .ok (.aload_n 2, 1) := by decide +kernel
theorem dL_law_64 : decode cL_law 64 = .ok (.aload_n 3, 1) := by decide +kernel
theorem dL_law_65 : decode cL_law 65 = .ok (.aload_n 0, 1) := by decide +kernel
theorem dL_law_66 : decode cL_law 66 = .ok (.iconst 1, 1) := by decide +kernel
theorem dL_law_67 : decode cL_law 67 = .ok (.iload 7, 2) := by decide +kernel
theorem dL_law_69 : decode cL_law 69 = .ok (.iadd, 1) := by decide +kernel
theorem dL_law_70 : decode cL_law 70 = .ok (.invokestatic 127, 3) := by decide +kernel
theorem dL_law_73 : decode cL_law 73 = .ok (.ldc 8, 2) := by decide +kernel
theorem dL_law_75 : decode cL_law 75 = .ok (.iand, 1) := by decide +kernel
theorem dL_law_76 : decode cL_law 76 = .ok (.sipush 640, 3) := by decide +kernel
theorem dL_law_79 : decode cL_law 79 = .ok (.idiv, 1) := by decide +kernel
theorem dL_law_80 : decode cL_law 80 = .ok (.sipush 640, 3) := by decide +kernel
theorem dL_law_83 : decode cL_law 83 = .ok (.imul, 1) := by decide +kernel
theorem dL_law_84 : decode cL_law 84 = .ok (.bipush 12, 2) := by decide +kernel
theorem dL_law_86 : decode cL_law 86 = .ok (.iadd, 1) := by decide +kernel
theorem dL_law_87 : decode cL_law 87 = .ok (.invokestatic 130, 3) := by decide +kernel
theorem dL_law_90 : decode cL_law 90 = .ok (.istore 6, 2) := by decide +kernel
theorem dL_law_92 : decode cL_law 92 = .ok (.iinc 7 1, 3) := by decide +kernel
theorem dL_law_95 : decode cL_law 95 = .ok (.goto (-45), 3) := by decide +kernel
theorem dL_law_98 : decode cL_law 98 = .ok (.bipush 8, 2) := by decide +kernel
theorem dL_law_100 : decode cL_law 100 = .ok (.aload_n 0, 1) := by decide +kernel
theorem dL_law_101 : decode cL_law 101 = .ok (.iconst 0, 1) := by decide +kernel
theorem dL_law_102 : decode cL_law 102 = .ok (.invokestatic 127, 3) := by decide +kernel
theorem dL_law_105 : decode cL_law 105 = .ok (.bipush 50, 2) := by decide +kernel
theorem dL_law_107 : decode cL_law 107 = .ok (.invokestatic 39, 3) := by decide +kernel
theorem dL_law_110 : decode cL_law 110 = .ok (.iadd, 1) := by decide +kernel
theorem dL_law_111 : decode cL_law 111 = .ok (.istore 7, 2) := by decide +kernel
theorem dL_law_113 : decode cL_law 113 = .ok (.iconst 0, 1) := by decide +kernel
theorem dL_law_114 : decode cL_law 114 = .ok (.istore 8, 2) := by decide +kernel
theorem dL_law_116 : decode cL_law 116 = .ok (.iload 8, 2) := by decide +kernel
theorem dL_law_118 : decode cL_law 118 = .ok (.iload 7, 2) := by decide +kernel
theorem dL_law_120 : decode cL_law 120 = .ok (.if_icmp .ge 67, 3) := by decide +kernel
theorem dL_law_123 : decode cL_law 123 = .ok (.iload 6, 2) := by decide +kernel
theorem dL_law_125 : decode cL_law 125 = .ok (.ifCond .eq 62, 3) := by decide +kernel
theorem dL_law_128 : decode cL_law 128 = .ok (.aload_n 0, 1) := by decide +kernel
theorem dL_law_129 : decode cL_law 129 = .ok (.bipush 13, 2) := by decide +kernel
theorem dL_law_131 : decode cL_law 131 = .ok (.iload 8, 2) := by decide +kernel
theorem dL_law_133 : decode cL_law 133 = .ok (.iadd, 1) := by decide +kernel
theorem dL_law_134 : decode cL_law 134 = .ok (.invokestatic 127, 3) := by decide +kernel
theorem dL_law_137 : decode cL_law 137 = .ok (.sipush 7919, 3) := by decide +kernel
theorem dL_law_140 : decode cL_law 140 = .ok (.iload 8, 2) := by decide +kernel
theorem dL_law_142 : decode cL_law 142 = .ok (.imul, 1) := by decide +kernel
theorem dL_law_143 : decode cL_law 143 = .ok (.ixor, 1) := by decide +kernel
theorem dL_law_144 : decode cL_law 144 = .ok (.istore 9, 2) := by decide +kernel
theorem dL_law_146 : decode cL_law 146 = .ok (.aload_n 1, 1) := by decide +kernel
theorem dL_law_147 : decode cL_law 147 = .ok (.aload_n 2, 1) := by decide +kernel
theorem dL_law_148 : decode cL_law 148 = .ok (.aload_n 3, 1) := by decide +kernel
theorem dL_law_149 : decode cL_law 149 = .ok (.iload 9, 2) := by decide +kernel
theorem dL_law_151 : decode cL_law 151 = .ok (.invokestatic 130, 3) := by decide +kernel
theorem dL_law_154 : decode cL_law 154 = .ok (.ifCond .eq 24, 3) := by decide +kernel
theorem dL_law_157 : decode cL_law 157 = .ok (.aload_n 1, 1) := by decide +kernel
theorem dL_law_158 : decode cL_law 158 = .ok (.aload_n 2, 1) := by decide +kernel
theorem dL_law_159 : decode cL_law 159 = .ok (.aload_n 3, 1) := by decide +kernel
theorem dL_law_160 : decode cL_law 160 = .ok (.aload 4, 2) := by decide +kernel
theorem dL_law_162 : decode cL_law 162 = .ok (.aload 5, 2) := by decide +kernel
theorem dL_law_164 : decode cL_law 164 = .ok (.iload 9, 2) := by decide +kernel
theorem dL_law_166 : decode cL_law 166 = .ok (.iconst 4, 1) := by decide +kernel
theorem dL_law_167 : decode cL_law 167 = .ok (.ishr, 1) := by decide +kernel
theorem dL_law_168 : decode cL_law 168 = .ok (.invokestatic 123, 3) := by decide +kernel
theorem dL_law_171 : decode cL_law 171 = .ok (.ifCond .eq 7, 3) := by decide +kernel
theorem dL_law_174 : decode cL_law 174 = .ok (.iconst 1, 1) := by decide +kernel
theorem dL_law_175 : decode cL_law 175 = .ok (.goto 4, 3) := by decide +kernel
theorem dL_law_178 : decode cL_law 178 = .ok (.iconst 0, 1) := by decide +kernel
theorem dL_law_179 : decode cL_law 179 = .ok (.istore 6, 2) := by decide +kernel
theorem dL_law_181 : decode cL_law 181 = .ok (.iinc 8 1, 3) := by decide +kernel
theorem dL_law_184 : decode cL_law 184 = .ok (.goto (-68), 3) := by decide +kernel
theorem dL_law_187 : decode cL_law 187 = .ok (.iload 6, 2) := by decide +kernel
theorem dL_law_189 : decode cL_law 189 = .ok (.ifCond .eq 39, 3) := by decide +kernel
theorem dL_law_192 : decode cL_law 192 = .ok (.aload_n 1, 1) := by decide +kernel
theorem dL_law_193 : decode cL_law 193 = .ok (.bipush 10, 2) := by decide +kernel
theorem dL_law_195 : decode cL_law 195 = .ok (.invokevirtual 98, 3) := by decide +kernel
theorem dL_law_198 : decode cL_law 198 = .ok (.ldc 56, 2) := by decide +kernel
theorem dL_law_200 : decode cL_law 200 = .ok (.if_icmp .ne 28, 3) := by decide +kernel
theorem dL_law_203 : decode cL_law 203 = .ok (.aload_n 1, 1) := by decide +kernel
theorem dL_law_204 : decode cL_law 204 = .ok (.iconst 5, 1) := by decide +kernel
theorem dL_law_205 : decode cL_law 205 = .ok (.invokevirtual 105, 3) := by decide +kernel
theorem dL_law_208 : decode cL_law 208 = .ok (.ldc 56, 2) := by decide +kernel
theorem dL_law_210 : decode cL_law 210 = .ok (.if_icmp .ne 18, 3) := by decide +kernel
theorem dL_law_213 : decode cL_law 213 = .ok (.aload_n 1, 1) := by decide +kernel
theorem dL_law_214 : decode cL_law 214 = .ok (.iconst 4, 1) := by decide +kernel
theorem dL_law_215 : decode cL_law 215 = .ok (.iconst 0, 1) := by decide +kernel
theorem dL_law_216 : decode cL_law 216 = .ok (.invokevirtual 102, 3) := by decide +kernel
theorem dL_law_219 : decode cL_law 219 = .ok (.ldc 56, 2) := by decide +kernel
theorem dL_law_221 : decode cL_law 221 = .ok (.if_icmp .ne 7, 3) := by decide +kernel
theorem dL_law_224 : decode cL_law 224 = .ok (.iconst 1, 1) := by decide +kernel
theorem dL_law_225 : decode cL_law 225 = .ok (.goto 4, 3) := by decide +kernel
theorem dL_law_228 : decode cL_law 228 = .ok (.iconst 0, 1) := by decide +kernel
theorem dL_law_229 : decode cL_law 229 = .ok (.ireturn, 1) := by decide +kernel
abbrev vwCl : List vw_C := [(RX0, TX0, 4), (RX1, TX1, 3), (RX2, TX2, 6), (RX3, TX3, 7), (RX4, TX4, 4), (RX5, TX5, 5), (RX6, TX6, 9)]
