def RX0 : String := "GlobeCorner$Acts"
def TX0 : u_T := fun k => match k with
  | 0 => ("GlobeCorner$Acts", "bodies", "[I", true)
  | 1 => ("GlobeCorner$Acts", "ran", "I", false)
  | 2 => ("GlobeCorner$Acts", "kind", "I", false)
  | 3 => ("GlobeCorner$Acts", "number", "I", false)
  | _ => ("GlobeCorner$Acts", "v", "I", false)
def tyX0 : Nat → FieldType := fun k => match k with
  | 0 => .array .int
  | 1 => .int
  | 2 => .int
  | 3 => .int
  | _ => .int
abbrev wsX00 : List Cond := u_ws RX0 TX0 5
theorem nmX0 : ∀ a, a < 5 → ∀ b, b < 5 → a ≠ b → (TX0 a).2.1 ≠ (TX0 b).2.1 := by decide +kernel
theorem tyX0_ok : ∀ k, k < 5 → parseFieldDescriptor (TX0 k).2.2.1 = some (tyX0 k) := by decide +kernel
def RX1 : String := "GlobeCorner$Corner"
def TX1 : u_T := fun k => match k with
  | 0 => ("GlobeCorner$Corner", "globe", "LGlobeCorner$Globe;", true)
  | 1 => ("GlobeCorner$Corner", "seen", "LGlobeCorner$Rows;", true)
  | 2 => ("GlobeCorner$Corner", "plan", "LGlobeCorner$Rows;", true)
  | _ => ("GlobeCorner$Corner", "book", "LGlobeCorner$Rows;", true)
def tyX1 : Nat → FieldType := fun k => match k with
  | 0 => .object "GlobeCorner$Globe"
  | 1 => .object "GlobeCorner$Rows"
  | 2 => .object "GlobeCorner$Rows"
  | _ => .object "GlobeCorner$Rows"
abbrev wsX10 : List Cond := u_ws RX1 TX1 4
theorem nmX1 : ∀ a, a < 4 → ∀ b, b < 4 → a ≠ b → (TX1 a).2.1 ≠ (TX1 b).2.1 := by decide +kernel
theorem tyX1_ok : ∀ k, k < 4 → parseFieldDescriptor (TX1 k).2.2.1 = some (tyX1 k) := by decide +kernel
def RX2 : String := "GlobeCorner$Globe"
def TX2 : u_T := fun k => match k with
  | 0 => ("GlobeCorner$Globe", "hour", "I", false)
  | 1 => ("GlobeCorner$Globe", "children", "I", false)
  | 2 => ("GlobeCorner$Globe", "school", "LGlobeCorner$School;", false)
  | 3 => ("GlobeCorner$Globe", "need", "[I", true)
  | 4 => ("GlobeCorner$Globe", "kind", "[I", true)
  | 5 => ("GlobeCorner$Globe", "v", "[I", true)
  | 6 => ("GlobeCorner$Globe", "finger", "[I", true)
  | 7 => ("GlobeCorner$Globe", "stood", "[I", true)
  | 8 => ("GlobeCorner$Globe", "row", "[I", true)
  | _ => ("GlobeCorner$Globe", "facts", "[I", true)
def tyX2 : Nat → FieldType := fun k => match k with
  | 0 => .int
  | 1 => .int
  | 2 => .object "GlobeCorner$School"
  | 3 => .array .int
  | 4 => .array .int
  | 5 => .array .int
  | 6 => .array .int
  | 7 => .array .int
  | 8 => .array .int
  | _ => .array .int
abbrev wsX20 : List Cond := u_ws RX2 TX2 10
theorem nmX2 : ∀ a, a < 10 → ∀ b, b < 10 → a ≠ b → (TX2 a).2.1 ≠ (TX2 b).2.1 := by decide +kernel
theorem tyX2_ok : ∀ k, k < 10 → parseFieldDescriptor (TX2 k).2.2.1 = some (tyX2 k) := by decide +kernel
def RX3 : String := "GlobeCorner$Posts"
def TX3 : u_T := fun k => match k with
  | 0 => ("GlobeCorner$Posts", "care", "[I", true)
  | _ => ("GlobeCorner$Posts", "rest", "[I", true)
def tyX3 : Nat → FieldType := fun k => match k with
  | 0 => .array .int
  | _ => .array .int
abbrev wsX30 : List Cond := u_ws RX3 TX3 2
theorem nmX3 : ∀ a, a < 2 → ∀ b, b < 2 → a ≠ b → (TX3 a).2.1 ≠ (TX3 b).2.1 := by decide +kernel
theorem tyX3_ok : ∀ k, k < 2 → parseFieldDescriptor (TX3 k).2.2.1 = some (tyX3 k) := by decide +kernel
def RX4 : String := "GlobeCorner$Reader"
def TX4 : u_T := fun k => match k with
  | 0 => ("GlobeCorner$Reader", "text", "[B", true)
  | 1 => ("GlobeCorner$Reader", "length", "I", false)
  | 2 => ("GlobeCorner$Reader", "at", "I", false)
  | 3 => ("GlobeCorner$Reader", "number", "I", false)
  | _ => ("GlobeCorner$Reader", "into", "LGlobeCorner$School;", false)
def tyX4 : Nat → FieldType := fun k => match k with
  | 0 => .array .byte
  | 1 => .int
  | 2 => .int
  | 3 => .int
  | _ => .object "GlobeCorner$School"
abbrev wsX40 : List Cond := u_ws RX4 TX4 5
theorem nmX4 : ∀ a, a < 5 → ∀ b, b < 5 → a ≠ b → (TX4 a).2.1 ≠ (TX4 b).2.1 := by decide +kernel
theorem tyX4_ok : ∀ k, k < 5 → parseFieldDescriptor (TX4 k).2.2.1 = some (tyX4 k) := by decide +kernel
def RX5 : String := "GlobeCorner$Rows"
def TX5 : u_T := fun k => match k with
  | 0 => ("GlobeCorner$Rows", "first", "[I", true)
  | 1 => ("GlobeCorner$Rows", "second", "[I", true)
  | 2 => ("GlobeCorner$Rows", "third", "[I", true)
  | _ => ("GlobeCorner$Rows", "size", "I", false)
def tyX5 : Nat → FieldType := fun k => match k with
  | 0 => .array .int
  | 1 => .array .int
  | 2 => .array .int
  | _ => .int
abbrev wsX50 : List Cond := u_ws RX5 TX5 4
theorem nmX5 : ∀ a, a < 4 → ∀ b, b < 4 → a ≠ b → (TX5 a).2.1 ≠ (TX5 b).2.1 := by decide +kernel
theorem tyX5_ok : ∀ k, k < 4 → parseFieldDescriptor (TX5 k).2.2.1 = some (tyX5 k) := by decide +kernel
def RX6 : String := "GlobeCorner$School"
def TX6 : u_T := fun k => match k with
  | 0 => ("GlobeCorner$School", "grow", "I", false)
  | 1 => ("GlobeCorner$School", "clauses", "I", false)
  | 2 => ("GlobeCorner$School", "amount", "[I", true)
  | 3 => ("GlobeCorner$School", "end", "[I", true)
  | 4 => ("GlobeCorner$School", "code", "[I", true)
  | _ => ("GlobeCorner$School", "codes", "I", false)
def tyX6 : Nat → FieldType := fun k => match k with
  | 0 => .int
  | 1 => .int
  | 2 => .array .int
  | 3 => .array .int
  | 4 => .array .int
  | _ => .int
abbrev wsX60 : List Cond := u_ws RX6 TX6 6
theorem nmX6 : ∀ a, a < 6 → ∀ b, b < 6 → a ≠ b → (TX6 a).2.1 ≠ (TX6 b).2.1 := by decide +kernel
theorem tyX6_ok : ∀ k, k < 6 → parseFieldDescriptor (TX6 k).2.2.1 = some (tyX6 k) := by decide +kernel
def RX7 : String := "GlobeCorner$Tape"
def TX7 : u_T := fun k => match k with
  | 0 => ("GlobeCorner$Tape", "sort", "I", false)
  | 1 => ("GlobeCorner$Tape", "length", "I", false)
  | _ => ("GlobeCorner$Tape", "items", "[J", true)
def tyX7 : Nat → FieldType := fun k => match k with
  | 0 => .int
  | 1 => .int
  | _ => .array .long
abbrev wsX70 : List Cond := u_ws RX7 TX7 3
theorem nmX7 : ∀ a, a < 3 → ∀ b, b < 3 → a ≠ b → (TX7 a).2.1 ≠ (TX7 b).2.1 := by decide +kernel
theorem tyX7_ok : ∀ k, k < 3 → parseFieldDescriptor (TX7 k).2.2.1 = some (tyX7 k) := by decide +kernel
def RX8 : String := "GlobeCorner"
def TX8 : u_T := fun k => match k with
  | 0 => ("GlobeCorner", "now", "LGlobeCorner$Corner;", true)
  | 1 => ("GlobeCorner", "kept", "LGlobeCorner$Corner;", true)
  | 2 => ("GlobeCorner", "anyKept", "Z", false)
  | 3 => ("GlobeCorner", "trial", "LGlobeCorner$Globe;", true)
  | 4 => ("GlobeCorner", "schools", "[LGlobeCorner$School;", true)
  | 5 => ("GlobeCorner", "schoolsRead", "I", false)
  | 6 => ("GlobeCorner", "reader", "LGlobeCorner$Reader;", true)
  | 7 => ("GlobeCorner", "posts", "LGlobeCorner$Posts;", true)
  | 8 => ("GlobeCorner", "acts", "LGlobeCorner$Acts;", true)
  | _ => ("GlobeCorner", "tapes", "[LGlobeCorner$Tape;", true)
def tyX8 : Nat → FieldType := fun k => match k with
  | 0 => .object "GlobeCorner$Corner"
  | 1 => .object "GlobeCorner$Corner"
  | 2 => .boolean
  | 3 => .object "GlobeCorner$Globe"
  | 4 => .array (.object "GlobeCorner$School")
  | 5 => .int
  | 6 => .object "GlobeCorner$Reader"
  | 7 => .object "GlobeCorner$Posts"
  | 8 => .object "GlobeCorner$Acts"
  | _ => .array (.object "GlobeCorner$Tape")
abbrev wsX80 : List Cond := u_ws RX8 TX8 10
theorem nmX8 : ∀ a, a < 10 → ∀ b, b < 10 → a ≠ b → (TX8 a).2.1 ≠ (TX8 b).2.1 := by decide +kernel
theorem tyX8_ok : ∀ k, k < 10 → parseFieldDescriptor (TX8 k).2.2.1 = some (tyX8 k) := by decide +kernel
def RX9 : String := "GlobeCornerModel"
def TX9 : u_T := fun k => match k with
  | 0 => ("GlobeCornerModel", "need", "[I", true)
  | 1 => ("GlobeCornerModel", "children", "I", false)
  | 2 => ("GlobeCornerModel", "kind", "[I", true)
  | 3 => ("GlobeCornerModel", "v", "[I", true)
  | 4 => ("GlobeCornerModel", "finger", "[I", true)
  | 5 => ("GlobeCornerModel", "stood", "[I", true)
  | 6 => ("GlobeCornerModel", "rows", "[I", true)
  | 7 => ("GlobeCornerModel", "hour", "I", false)
  | 8 => ("GlobeCornerModel", "texted", "I", false)
  | 9 => ("GlobeCornerModel", "text", "[I", true)
  | 10 => ("GlobeCornerModel", "at", "I", false)
  | 11 => ("GlobeCornerModel", "value", "I", false)
  | 12 => ("GlobeCornerModel", "digits", "I", false)
  | 13 => ("GlobeCornerModel", "open", "I", false)
  | 14 => ("GlobeCornerModel", "schools", "I", false)
  | 15 => ("GlobeCornerModel", "holds", "I", false)
  | 16 => ("GlobeCornerModel", "clauses", "[I", true)
  | 17 => ("GlobeCornerModel", "word", "[I", true)
  | 18 => ("GlobeCornerModel", "number", "[I", true)
  | 19 => ("GlobeCornerModel", "begins", "[I", true)
  | 20 => ("GlobeCornerModel", "length", "[I", true)
  | 21 => ("GlobeCornerModel", "code", "[I", true)
  | 22 => ("GlobeCornerModel", "coded", "I", false)
  | 23 => ("GlobeCornerModel", "stack", "[Z", true)
  | 24 => ("GlobeCornerModel", "seen", "I", false)
  | 25 => ("GlobeCornerModel", "seenAt", "[I", true)
  | 26 => ("GlobeCornerModel", "seenIn", "[I", true)
  | 27 => ("GlobeCornerModel", "seenNeed", "[I", true)
  | 28 => ("GlobeCornerModel", "inPlan", "I", false)
  | 29 => ("GlobeCornerModel", "goes", "[I", true)
  | 30 => ("GlobeCornerModel", "whose", "[I", true)
  | 31 => ("GlobeCornerModel", "inBook", "I", false)
  | 32 => ("GlobeCornerModel", "booked", "[I", true)
  | 33 => ("GlobeCornerModel", "bookNeed", "[I", true)
  | 34 => ("GlobeCornerModel", "traced", "I", false)
  | 35 => ("GlobeCornerModel", "traces", "[I", true)
  | 36 => ("GlobeCornerModel", "imaged", "Z", false)
  | 37 => ("GlobeCornerModel", "image", "[I", true)
  | 38 => ("GlobeCornerModel", "ahead", "[I", true)
  | 39 => ("GlobeCornerModel", "care", "[I", true)
  | 40 => ("GlobeCornerModel", "worth", "[I", true)
  | 41 => ("GlobeCornerModel", "tried", "[I", true)
  | 42 => ("GlobeCornerModel", "best", "[I", true)
  | 43 => ("GlobeCornerModel", "most", "I", false)
  | 44 => ("GlobeCornerModel", "tapeSort", "[I", true)
  | 45 => ("GlobeCornerModel", "tapeSize", "[I", true)
  | _ => ("GlobeCornerModel", "items", "[J", true)
def tyX9 : Nat → FieldType := fun k => match k with
  | 0 => .array .int
  | 1 => .int
  | 2 => .array .int
  | 3 => .array .int
  | 4 => .array .int
  | 5 => .array .int
  | 6 => .array .int
  | 7 => .int
  | 8 => .int
  | 9 => .array .int
  | 10 => .int
  | 11 => .int
  | 12 => .int
  | 13 => .int
  | 14 => .int
  | 15 => .int
  | 16 => .array .int
  | 17 => .array .int
  | 18 => .array .int
  | 19 => .array .int
  | 20 => .array .int
  | 21 => .array .int
  | 22 => .int
  | 23 => .array .boolean
  | 24 => .int
  | 25 => .array .int
  | 26 => .array .int
  | 27 => .array .int
  | 28 => .int
  | 29 => .array .int
  | 30 => .array .int
  | 31 => .int
  | 32 => .array .int
  | 33 => .array .int
  | 34 => .int
  | 35 => .array .int
  | 36 => .boolean
  | 37 => .array .int
  | 38 => .array .int
  | 39 => .array .int
  | 40 => .array .int
  | 41 => .array .int
  | 42 => .array .int
  | 43 => .int
  | 44 => .array .int
  | 45 => .array .int
  | _ => .array .long
abbrev wsX90 : List Cond := u_ws RX9 TX9 47
theorem nmX9 : ∀ a, a < 47 → ∀ b, b < 47 → a ≠ b → (TX9 a).2.1 ≠ (TX9 b).2.1 := by decide +kernel
theorem tyX9_ok : ∀ k, k < 47 → parseFieldDescriptor (TX9 k).2.2.1 = some (tyX9 k) := by decide +kernel
abbrev vwCl : List vw_C := [(RX0, TX0, 5), (RX1, TX1, 4), (RX2, TX2, 10), (RX3, TX3, 2), (RX4, TX4, 5), (RX5, TX5, 4), (RX6, TX6, 6), (RX7, TX7, 3), (RX8, TX8, 10), (RX9, TX9, 47)]
def mm_FC : List (List Nat) := [[2, 0, 0, 0, 0], [2, 2, 2, 2], [0, 0, 1, 2, 2, 2, 2, 2, 2, 2], [2, 2], [2, 0, 0, 0, 1], [2, 2, 2, 0], [0, 0, 2, 2, 2, 0], [0, 0, 2], [2, 2, 0, 2, 2, 0, 2, 2, 2, 2], [2, 0, 2, 2, 2, 2, 2, 0, 0, 2, 0, 0, 0, 0, 0, 0, 2, 2, 2, 2, 2, 2, 0, 2, 0, 2, 2, 2, 0, 2, 2, 0, 2, 2, 0, 2, 0, 2, 2, 2, 2, 2, 2, 0, 2, 2, 2]]
def mm_I_0 : List (MethodName × ByteArray × Option FieldType) := [(⟨"java/util/Arrays", "fill", "([II)V"⟩, prog_19_method_103_code, none), (⟨"java/util/Arrays", "fill", "([JJ)V"⟩, prog_19_method_101_code, none), (⟨"java/lang/Math", "min", "(II)I"⟩, prog_14_method_69_code, some .int), (⟨"java/lang/Math", "max", "(II)I"⟩, prog_14_method_65_code, some .int), (⟨"java/lang/Math", "abs", "(J)J"⟩, prog_14_method_61_code, some .long), (⟨"java/lang/Integer", "bitCount", "(I)I"⟩, prog_13_method_49_code, some .int), (⟨"java/lang/String", "length", "()I"⟩, prog_15_method_54_code, some .int), (⟨"java/lang/String", "coder", "()B"⟩, prog_15_method_152_code, some .byte), (⟨"java/lang/String", "charAt", "(I)C"⟩, prog_15_method_56_code, some .char), (⟨"java/lang/String", "isLatin1", "()Z"⟩, prog_15_method_154_code, some .boolean), (⟨"java/lang/String", "checkIndex", "(II)V"⟩, prog_15_method_155_code, none), (⟨"java/lang/String", "indexOf", "(I)I"⟩, prog_15_method_79_code, some .int), (⟨"java/lang/String", "indexOf", "(II)I"⟩, prog_15_method_80_code, some .int), (⟨"java/lang/StringLatin1", "charAt", "([BI)C"⟩, prog_16_method_2_code, some .char), (⟨"java/lang/StringLatin1", "indexOf", "([BIII)I"⟩, prog_16_method_22_code, some .int), (⟨"java/lang/StringLatin1", "canEncode", "(I)Z"⟩, prog_16_method_4_code, some .boolean)]
def mm_I_1 : List (MethodName × ByteArray × Option FieldType) := [(⟨"java/lang/StringLatin1", "indexOfChar", "([BIII)I"⟩, prog_16_method_23_code, some .int), (⟨"jdk/internal/util/Preconditions", "checkIndex", "(IILjava/util/function/BiFunction;)I"⟩, prog_20_method_11_code, some .int), (⟨"GlobeCorner$Acts", "<init>", "()V"⟩, prog_2_method_1_code, none), (⟨"GlobeCorner$Acts", "forget", "()V"⟩, prog_2_method_2_code, none), (⟨"GlobeCorner$Acts", "begin", "(LGlobeCorner$Globe;III)I"⟩, prog_2_method_4_code, some .int), (⟨"GlobeCorner$Acts", "run", "(IIII)I"⟩, prog_2_method_5_code, some .int), (⟨"GlobeCorner$Acts", "answer", "(IIII)I"⟩, prog_2_method_6_code, some .int), (⟨"GlobeCorner$Acts", "keptBodies", "()I"⟩, prog_2_method_3_code, some .int), (⟨"GlobeCorner$Corner", "<init>", "()V"⟩, prog_3_method_1_code, none), (⟨"GlobeCorner$Corner", "copyFrom", "(LGlobeCorner$Corner;)V"⟩, prog_3_method_2_code, none), (⟨"GlobeCorner$Globe", "<init>", "()V"⟩, prog_4_method_1_code, none), (⟨"GlobeCorner$Globe", "join", "(II)I"⟩, prog_4_method_3_code, some .int), (⟨"GlobeCorner$Globe", "isAnotherOn", "(II)Z"⟩, prog_4_method_9_code, some .boolean), (⟨"GlobeCorner$Globe", "careNow", "(IIZ)I"⟩, prog_4_method_10_code, some .int), (⟨"GlobeCorner$Globe", "care", "(IIIIZ)I"⟩, prog_4_method_11_code, some .int), (⟨"GlobeCorner$Globe", "factsOf", "(IIII)[I"⟩, prog_4_method_12_code, some (.array .int))]
def mm_I_2 : List (MethodName × ByteArray × Option FieldType) := [(⟨"GlobeCorner$Globe", "hoursUntilWell", "(I)I"⟩, prog_4_method_18_code, some .int), (⟨"GlobeCorner$Globe", "needNext", "(III)I"⟩, prog_4_method_14_code, some .int), (⟨"GlobeCorner$Globe", "grow", "()I"⟩, prog_4_method_4_code, some .int), (⟨"GlobeCorner$Globe", "fingersOn", "(I)I"⟩, prog_4_method_8_code, some .int), (⟨"GlobeCorner$Globe", "copyFrom", "(LGlobeCorner$Globe;)V"⟩, prog_4_method_2_code, none), (⟨"GlobeCorner$Globe", "isAllSoBut", "(ILGlobeCorner$Rows;)Z"⟩, prog_4_method_21_code, some .boolean), (⟨"GlobeCorner$Globe", "isSo", "(ILGlobeCorner$Rows;)Z"⟩, prog_4_method_22_code, some .boolean), (⟨"GlobeCorner$Globe", "carryFingers", "(I)V"⟩, prog_4_method_5_code, none), (⟨"GlobeCorner$Globe", "fingersOnPlaces", "()I"⟩, prog_4_method_7_code, some .int), (⟨"GlobeCorner$Globe", "allNeedBehind", "(I)I"⟩, prog_4_method_16_code, some .int), (⟨"GlobeCorner$Globe", "needBehind", "(II)I"⟩, prog_4_method_15_code, some .int), (⟨"GlobeCorner$Globe", "wellBehind", "(I)I"⟩, prog_4_method_17_code, some .int), (⟨"GlobeCorner$Globe", "goHour", "()V"⟩, prog_4_method_13_code, none), (⟨"GlobeCorner$Globe", "gather", "(II)V"⟩, prog_4_method_6_code, none), (⟨"GlobeCorner$Globe", "goStep", "(II)V"⟩, prog_4_method_20_code, none), (⟨"GlobeCorner$Globe", "allStood", "()I"⟩, prog_4_method_19_code, some .int)]
def mm_I_3 : List (MethodName × ByteArray × Option FieldType) := [(⟨"GlobeCorner$Posts", "<init>", "()V"⟩, prog_5_method_1_code, none), (⟨"GlobeCorner$Posts", "most", "(LGlobeCorner$Globe;)I"⟩, prog_5_method_2_code, some .int), (⟨"GlobeCorner$Posts", "weigh", "(LGlobeCorner$Globe;)V"⟩, prog_5_method_6_code, none), (⟨"GlobeCorner$Posts", "mostOf", "(II)I"⟩, prog_5_method_7_code, some .int), (⟨"GlobeCorner$Posts", "withPlace", "(III)I"⟩, prog_5_method_5_code, some .int), (⟨"GlobeCorner$Posts", "placeOf", "(LGlobeCorner$Globe;I)I"⟩, prog_5_method_3_code, some .int), (⟨"GlobeCorner$Posts", "firstBest", "(II)I"⟩, prog_5_method_4_code, some .int), (⟨"GlobeCorner$Reader", "<init>", "()V"⟩, prog_6_method_1_code, none), (⟨"GlobeCorner$Reader", "take", "(I)I"⟩, prog_6_method_2_code, some .int), (⟨"GlobeCorner$Reader", "readInto", "(LGlobeCorner$School;)I"⟩, prog_6_method_3_code, some .int), (⟨"GlobeCorner$Reader", "isClause", "()Z"⟩, prog_6_method_4_code, some .boolean), (⟨"GlobeCorner$Reader", "next", "()I"⟩, prog_6_method_14_code, some .int), (⟨"GlobeCorner$Reader", "isGrow", "()Z"⟩, prog_6_method_5_code, some .boolean), (⟨"GlobeCorner$Reader", "isWord", "(Ljava/lang/String;)Z"⟩, prog_6_method_12_code, some .boolean), (⟨"GlobeCorner$Reader", "isSign", "(I)Z"⟩, prog_6_method_13_code, some .boolean), (⟨"GlobeCorner$Reader", "isNumber", "()Z"⟩, prog_6_method_11_code, some .boolean)]
def mm_I_4 : List (MethodName × ByteArray × Option FieldType) := [(⟨"GlobeCorner$Reader", "isAny", "(I)Z"⟩, prog_6_method_6_code, some .boolean), (⟨"GlobeCorner$Reader", "isAll", "(I)Z"⟩, prog_6_method_7_code, some .boolean), (⟨"GlobeCorner$Reader", "isOne", "(I)Z"⟩, prog_6_method_8_code, some .boolean), (⟨"GlobeCorner$Reader", "isTest", "()Z"⟩, prog_6_method_9_code, some .boolean), (⟨"GlobeCorner$Reader", "wayOf", "(I)I"⟩, prog_6_method_10_code, some .int), (⟨"GlobeCorner$Rows", "<init>", "(I)V"⟩, prog_7_method_1_code, none), (⟨"GlobeCorner$Rows", "wipe", "()I"⟩, prog_7_method_3_code, some .int), (⟨"GlobeCorner$Rows", "add", "(III)I"⟩, prog_7_method_2_code, some .int), (⟨"GlobeCorner$Rows", "copyFrom", "(LGlobeCorner$Rows;)V"⟩, prog_7_method_4_code, none), (⟨"GlobeCorner$School", "<init>", "()V"⟩, prog_8_method_1_code, none), (⟨"GlobeCorner$School", "sum", "([I)I"⟩, prog_8_method_5_code, some .int), (⟨"GlobeCorner$School", "goOn", "(JI[I)J"⟩, prog_8_method_6_code, some .long), (⟨"GlobeCorner$School", "empty", "()V"⟩, prog_8_method_2_code, none), (⟨"GlobeCorner$School", "test", "(III)I"⟩, prog_8_method_7_code, some .int), (⟨"GlobeCorner$School", "put", "(I)V"⟩, prog_8_method_3_code, none), (⟨"GlobeCorner$School", "endClause", "(I)V"⟩, prog_8_method_4_code, none)]
def mm_I_5 : List (MethodName × ByteArray × Option FieldType) := [(⟨"GlobeCorner$Tape", "<init>", "()V"⟩, prog_9_method_1_code, none), (⟨"GlobeCorner$Tape", "become", "(II)I"⟩, prog_9_method_2_code, some .int), (⟨"GlobeCorner$Tape", "narrowed", "(J)J"⟩, prog_9_method_3_code, some .long), (⟨"GlobeCorner$Tape", "hasRun", "(II)Z"⟩, prog_9_method_4_code, some .boolean), (⟨"GlobeCorner", "<init>", "()V"⟩, prog_1_method_1_code, none), (⟨"GlobeCorner", "child", "(II)I"⟩, prog_1_method_2_code, some .int), (⟨"GlobeCorner", "within", "(III)Z"⟩, prog_1_method_36_code, some .boolean), (⟨"GlobeCorner", "of", "(II)I"⟩, prog_1_method_3_code, some .int), (⟨"GlobeCorner", "isChild", "(I)Z"⟩, prog_1_method_40_code, some .boolean), (⟨"GlobeCorner", "isPlaceBehindTen", "(I)Z"⟩, prog_1_method_38_code, some .boolean), (⟨"GlobeCorner", "spot", "(II)I"⟩, prog_1_method_4_code, some .int), (⟨"GlobeCorner", "isPlace", "(I)Z"⟩, prog_1_method_37_code, some .boolean), (⟨"GlobeCorner", "fittingNeeds", "(IZ)I"⟩, prog_1_method_41_code, some .int), (⟨"GlobeCorner", "point", "(II)I"⟩, prog_1_method_5_code, some .int), (⟨"GlobeCorner", "need", "(II)I"⟩, prog_1_method_6_code, some .int), (⟨"GlobeCorner", "spin", "(I)I"⟩, prog_1_method_7_code, some .int)]
def mm_I_6 : List (MethodName × ByteArray × Option FieldType) := [(⟨"GlobeCorner", "bell", "()I"⟩, prog_1_method_8_code, some .int), (⟨"GlobeCorner", "row", "(III)I"⟩, prog_1_method_9_code, some .int), (⟨"GlobeCorner", "feed", "(I)I"⟩, prog_1_method_10_code, some .int), (⟨"GlobeCorner", "school", "()I"⟩, prog_1_method_11_code, some .int), (⟨"GlobeCorner", "told", "(I)I"⟩, prog_1_method_12_code, some .int), (⟨"GlobeCorner", "pass", "(I)I"⟩, prog_1_method_13_code, some .int), (⟨"GlobeCorner", "on", "(II)I"⟩, prog_1_method_14_code, some .int), (⟨"GlobeCorner", "crowd", "(II)I"⟩, prog_1_method_15_code, some .int), (⟨"GlobeCorner", "turn", "(I)I"⟩, prog_1_method_16_code, some .int), (⟨"GlobeCorner", "see", "(III)I"⟩, prog_1_method_17_code, some .int), (⟨"GlobeCorner", "can", "(II)I"⟩, prog_1_method_18_code, some .int), (⟨"GlobeCorner", "odds", "(IIII)J"⟩, prog_1_method_19_code, some .long), (⟨"GlobeCorner", "partOfTwelfths", "(II)J"⟩, prog_1_method_42_code, some .long), (⟨"GlobeCorner", "mean", "(II)J"⟩, prog_1_method_20_code, some .long), (⟨"GlobeCorner", "plan", "(II)I"⟩, prog_1_method_21_code, some .int), (⟨"GlobeCorner", "ends", "(I)I"⟩, prog_1_method_22_code, some .int)]
def mm_I_7 : List (MethodName × ByteArray × Option FieldType) := [(⟨"GlobeCorner", "book", "(II)I"⟩, prog_1_method_23_code, some .int), (⟨"GlobeCorner", "looked", "()I"⟩, prog_1_method_24_code, some .int), (⟨"GlobeCorner", "judge", "(II)I"⟩, prog_1_method_25_code, some .int), (⟨"GlobeCorner", "isTape", "(I)Z"⟩, prog_1_method_39_code, some .boolean), (⟨"GlobeCorner", "image", "()I"⟩, prog_1_method_26_code, some .int), (⟨"GlobeCorner", "undo", "()I"⟩, prog_1_method_27_code, some .int), (⟨"GlobeCorner", "act", "(III)I"⟩, prog_1_method_28_code, some .int), (⟨"GlobeCorner", "trace", "(I)I"⟩, prog_1_method_29_code, some .int), (⟨"GlobeCorner", "taken", "(II)I"⟩, prog_1_method_30_code, some .int), (⟨"GlobeCorner", "count", "(I)I"⟩, prog_1_method_31_code, some .int), (⟨"GlobeCorner", "tape", "(III)I"⟩, prog_1_method_32_code, some .int), (⟨"GlobeCorner", "item", "(IIJ)I"⟩, prog_1_method_33_code, some .int), (⟨"GlobeCorner", "read", "(II)J"⟩, prog_1_method_34_code, some .long), (⟨"GlobeCorner", "shift", "(IIIII)I"⟩, prog_1_method_35_code, some .int), (⟨"GlobeCornerModel", "<init>", "()V"⟩, prog_11_method_1_code, none), (⟨"GlobeCornerModel", "child", "(II)I"⟩, prog_11_method_6_code, some .int)]
def mm_I_8 : List (MethodName × ByteArray × Option FieldType) := [(⟨"GlobeCornerModel", "within", "(III)Z"⟩, prog_11_method_2_code, some .boolean), (⟨"GlobeCornerModel", "of", "(II)I"⟩, prog_11_method_7_code, some .int), (⟨"GlobeCornerModel", "isOne", "(I)Z"⟩, prog_11_method_3_code, some .boolean), (⟨"GlobeCornerModel", "isSpot", "(I)Z"⟩, prog_11_method_4_code, some .boolean), (⟨"GlobeCornerModel", "isMet", "(II)Z"⟩, prog_11_method_33_code, some .boolean), (⟨"GlobeCornerModel", "careOf", "(IIZ)I"⟩, prog_11_method_34_code, some .int), (⟨"GlobeCornerModel", "sum", "(II)I"⟩, prog_11_method_31_code, some .int), (⟨"GlobeCornerModel", "isTrue", "(III)Z"⟩, prog_11_method_30_code, some .boolean), (⟨"GlobeCornerModel", "letterOf", "(III)I"⟩, prog_11_method_29_code, some .int), (⟨"GlobeCornerModel", "spot", "(II)I"⟩, prog_11_method_8_code, some .int), (⟨"GlobeCornerModel", "well", "(I)I"⟩, prog_11_method_42_code, some .int), (⟨"GlobeCornerModel", "keep", "([I)V"⟩, prog_11_method_59_code, none), (⟨"GlobeCornerModel", "goesHour", "()V"⟩, prog_11_method_35_code, none), (⟨"GlobeCornerModel", "growBy", "()I"⟩, prog_11_method_32_code, some .int), (⟨"GlobeCornerModel", "again", "([I)V"⟩, prog_11_method_60_code, none), (⟨"GlobeCornerModel", "needs", "(II)I"⟩, prog_11_method_49_code, some .int)]
def mm_I_9 : List (MethodName × ByteArray × Option FieldType) := [(⟨"GlobeCornerModel", "isSeen", "()Z"⟩, prog_11_method_48_code, some .boolean), (⟨"GlobeCornerModel", "point", "(II)I"⟩, prog_11_method_9_code, some .int), (⟨"GlobeCornerModel", "need", "(II)I"⟩, prog_11_method_10_code, some .int), (⟨"GlobeCornerModel", "isNeed", "(I)Z"⟩, prog_11_method_5_code, some .boolean), (⟨"GlobeCornerModel", "spin", "(I)I"⟩, prog_11_method_13_code, some .int), (⟨"GlobeCornerModel", "spins", "(I)V"⟩, prog_11_method_12_code, none), (⟨"GlobeCornerModel", "onSome", "()I"⟩, prog_11_method_11_code, some .int), (⟨"GlobeCornerModel", "bell", "()I"⟩, prog_11_method_14_code, some .int), (⟨"GlobeCornerModel", "row", "(III)I"⟩, prog_11_method_15_code, some .int), (⟨"GlobeCornerModel", "feed", "(I)I"⟩, prog_11_method_16_code, some .int), (⟨"GlobeCornerModel", "school", "()I"⟩, prog_11_method_28_code, some .int), (⟨"GlobeCornerModel", "isClause", "(I)Z"⟩, prog_11_method_27_code, some .boolean), (⟨"GlobeCornerModel", "isAll", "(Ljava/lang/String;)Z"⟩, prog_11_method_20_code, some .boolean), (⟨"GlobeCornerModel", "is", "(I)Z"⟩, prog_11_method_17_code, some .boolean), (⟨"GlobeCornerModel", "isNumber", "()Z"⟩, prog_11_method_19_code, some .boolean), (⟨"GlobeCornerModel", "isDigit", "()Z"⟩, prog_11_method_18_code, some .boolean)]
def mm_I_10 : List (MethodName × ByteArray × Option FieldType) := [(⟨"GlobeCornerModel", "isE", "()Z"⟩, prog_11_method_26_code, some .boolean), (⟨"GlobeCornerModel", "isT", "()Z"⟩, prog_11_method_25_code, some .boolean), (⟨"GlobeCornerModel", "isF", "()Z"⟩, prog_11_method_24_code, some .boolean), (⟨"GlobeCornerModel", "isOpened", "(I)Z"⟩, prog_11_method_23_code, some .boolean), (⟨"GlobeCornerModel", "codes", "(I)Z"⟩, prog_11_method_21_code, some .boolean), (⟨"GlobeCornerModel", "isTest", "()Z"⟩, prog_11_method_22_code, some .boolean), (⟨"GlobeCornerModel", "told", "(I)I"⟩, prog_11_method_39_code, some .int), (⟨"GlobeCornerModel", "posts", "()V"⟩, prog_11_method_44_code, none), (⟨"GlobeCornerModel", "tries", "(III)V"⟩, prog_11_method_43_code, none), (⟨"GlobeCornerModel", "allNeed", "()I"⟩, prog_11_method_36_code, some .int), (⟨"GlobeCornerModel", "allWell", "()I"⟩, prog_11_method_37_code, some .int), (⟨"GlobeCornerModel", "pass", "(I)I"⟩, prog_11_method_40_code, some .int), (⟨"GlobeCornerModel", "on", "(II)I"⟩, prog_11_method_41_code, some .int), (⟨"GlobeCornerModel", "crowd", "(II)I"⟩, prog_11_method_45_code, some .int), (⟨"GlobeCornerModel", "turn", "(I)I"⟩, prog_11_method_46_code, some .int), (⟨"GlobeCornerModel", "see", "(III)I"⟩, prog_11_method_47_code, some .int)]
def mm_I_11 : List (MethodName × ByteArray × Option FieldType) := [(⟨"GlobeCornerModel", "can", "(II)I"⟩, prog_11_method_50_code, some .int), (⟨"GlobeCornerModel", "odds", "(IIII)J"⟩, prog_11_method_52_code, some .long), (⟨"GlobeCornerModel", "part", "(JJI)J"⟩, prog_11_method_51_code, some .long), (⟨"GlobeCornerModel", "mean", "(II)J"⟩, prog_11_method_53_code, some .long), (⟨"GlobeCornerModel", "plan", "(II)I"⟩, prog_11_method_54_code, some .int), (⟨"GlobeCornerModel", "ends", "(I)I"⟩, prog_11_method_55_code, some .int), (⟨"GlobeCornerModel", "allStood", "()I"⟩, prog_11_method_38_code, some .int), (⟨"GlobeCornerModel", "book", "(II)I"⟩, prog_11_method_56_code, some .int), (⟨"GlobeCornerModel", "looked", "()I"⟩, prog_11_method_57_code, some .int), (⟨"GlobeCornerModel", "judge", "(II)I"⟩, prog_11_method_58_code, some .int), (⟨"GlobeCornerModel", "image", "()I"⟩, prog_11_method_61_code, some .int), (⟨"GlobeCornerModel", "undo", "()I"⟩, prog_11_method_62_code, some .int), (⟨"GlobeCornerModel", "act", "(III)I"⟩, prog_11_method_68_code, some .int), (⟨"GlobeCornerModel", "points", "(III)I"⟩, prog_11_method_65_code, some .int), (⟨"GlobeCornerModel", "ran", "(I)V"⟩, prog_11_method_63_code, none), (⟨"GlobeCornerModel", "above", "(I)I"⟩, prog_11_method_64_code, some .int)]
def mm_I_12 : List (MethodName × ByteArray × Option FieldType) := [(⟨"GlobeCornerModel", "sees", "(III)I"⟩, prog_11_method_66_code, some .int), (⟨"GlobeCornerModel", "tells", "(III)I"⟩, prog_11_method_67_code, some .int), (⟨"GlobeCornerModel", "trace", "(I)I"⟩, prog_11_method_69_code, some .int), (⟨"GlobeCornerModel", "taken", "(II)I"⟩, prog_11_method_70_code, some .int), (⟨"GlobeCornerModel", "count", "(I)I"⟩, prog_11_method_71_code, some .int), (⟨"GlobeCornerModel", "tape", "(III)I"⟩, prog_11_method_73_code, some .int), (⟨"GlobeCornerModel", "isTape", "(I)Z"⟩, prog_11_method_72_code, some .boolean), (⟨"GlobeCornerModel", "item", "(IIJ)I"⟩, prog_11_method_75_code, some .int), (⟨"GlobeCornerModel", "kept", "(IJ)J"⟩, prog_11_method_74_code, some .long), (⟨"GlobeCornerModel", "read", "(II)J"⟩, prog_11_method_76_code, some .long), (⟨"GlobeCornerModel", "shift", "(IIIII)I"⟩, prog_11_method_77_code, some .int), (⟨"GlobeCornerLaw", "law", "([I)Z"⟩, code, some .boolean)]
def mm_I (y : Nat) : MethodName × ByteArray × Option FieldType := match ([mm_I_0, mm_I_1, mm_I_2, mm_I_3, mm_I_4, mm_I_5, mm_I_6, mm_I_7, mm_I_8, mm_I_9, mm_I_10, mm_I_11, mm_I_12] : List (List (MethodName × ByteArray × Option FieldType)))[y / 16]? with
  | some l => l.getD (y % 16) (⟨"", "", ""⟩, code, none)
  | none => (⟨"", "", ""⟩, code, none)
