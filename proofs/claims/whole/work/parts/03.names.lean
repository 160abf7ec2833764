/-! ===== BEGIN printed: names, fields, word lists, decode rows ===== -/
def RX0 : String := "DyeRing$Bath"
def TX0 : u_T := fun k => match k with
  | 0 => ("DyeRing$Bath", "dyer", "I", true)
  | 1 => ("DyeRing$Bath", "entry", "LDyeRing$Entry;", true)
  | 2 => ("DyeRing$Bath", "strengthNow", "I", false)
  | 3 => ("DyeRing$Bath", "renewedSincePiece", "Z", false)
  | _ => ("DyeRing$Bath", "pieces", "Ljava/util/ArrayList;", true)
def tyX0 : Nat → FieldType := fun k => match k with
  | 0 => .int
  | 1 => .object "DyeRing$Entry"
  | 2 => .int
  | 3 => .boolean
  | _ => .object "java/util/ArrayList"
theorem nmX0 : ∀ a, a < 5 → ∀ b, b < 5 → a ≠ b → (TX0 a).2.1 ≠ (TX0 b).2.1 := by decide +kernel
theorem tyX0_ok : ∀ k, k < 5 → parseFieldDescriptor (TX0 k).2.2.1 = some (tyX0 k) := by decide +kernel
abbrev cX0_init : ByteArray := prog_2_method_1_code
def yX0_init : MethodName := ⟨RX0, "<init>", "(ILDyeRing$Entry;)V"⟩
abbrev cX0_isFor : ByteArray := prog_2_method_2_code
def yX0_isFor : MethodName := ⟨RX0, "isFor", "(LDyeRing$Entry;)Z"⟩
abbrev cX0_renew : ByteArray := prog_2_method_3_code
def yX0_renew : MethodName := ⟨RX0, "renew", "()I"⟩
abbrev cX0_take : ByteArray := prog_2_method_4_code
def yX0_take : MethodName := ⟨RX0, "take", "(LDyeRing$Piece;)V"⟩
abbrev cX0_followedTo : ByteArray := prog_2_method_5_code
def yX0_followedTo : MethodName := ⟨RX0, "followedTo", "(I)I"⟩
def RX1 : String := "DyeRing$Cloth"
def TX1 : u_T := fun k => match k with
  | 0 => ("DyeRing$Cloth", "shrinkage", "I", false)
  | 1 => ("DyeRing$Cloth", "debts", "[[I", true)
  | _ => ("DyeRing$Cloth", "unsettled", "[I", true)
def tyX1 : Nat → FieldType := fun k => match k with
  | 0 => .int
  | 1 => .array (.array .int)
  | _ => .array .int
theorem nmX1 : ∀ a, a < 3 → ∀ b, b < 3 → a ≠ b → (TX1 a).2.1 ≠ (TX1 b).2.1 := by decide +kernel
theorem tyX1_ok : ∀ k, k < 3 → parseFieldDescriptor (TX1 k).2.2.1 = some (tyX1 k) := by decide +kernel
abbrev cX1_init : ByteArray := prog_3_method_1_code
def yX1_init : MethodName := ⟨RX1, "<init>", "()V"⟩
abbrev cX1_shrunk : ByteArray := prog_3_method_2_code
def yX1_shrunk : MethodName := ⟨RX1, "shrunk", "(I)I"⟩
abbrev cX1_balanceOf : ByteArray := prog_3_method_3_code
def yX1_balanceOf : MethodName := ⟨RX1, "balanceOf", "(I)I"⟩
abbrev cX1_settle : ByteArray := prog_3_method_4_code
def yX1_settle : MethodName := ⟨RX1, "settle", "()I"⟩
abbrev cX1_settleLowest : ByteArray := prog_3_method_5_code
def yX1_settleLowest : MethodName := ⟨RX1, "settleLowest", "()Z"⟩
abbrev cX1_lowest : ByteArray := prog_3_method_6_code
def yX1_lowest : MethodName := ⟨RX1, "lowest", "(I)I"⟩
def RX2 : String := "DyeRing$Entry"
def TX2 : u_T := fun k => match k with
  | 0 => ("DyeRing$Entry", "number", "I", true)
  | 1 => ("DyeRing$Entry", "first", "I", true)
  | 2 => ("DyeRing$Entry", "second", "I", true)
  | _ => ("DyeRing$Entry", "tolerance", "I", true)
def tyX2 : Nat → FieldType := fun k => match k with
  | 0 => .int
  | 1 => .int
  | 2 => .int
  | _ => .int
theorem nmX2 : ∀ a, a < 4 → ∀ b, b < 4 → a ≠ b → (TX2 a).2.1 ≠ (TX2 b).2.1 := by decide +kernel
theorem tyX2_ok : ∀ k, k < 4 → parseFieldDescriptor (TX2 k).2.2.1 = some (tyX2 k) := by decide +kernel
abbrev cX2_init : ByteArray := prog_4_method_1_code
def yX2_init : MethodName := ⟨RX2, "<init>", "(IIII)V"⟩
abbrev cX2_distanceTo : ByteArray := prog_4_method_2_code
def yX2_distanceTo : MethodName := ⟨RX2, "distanceTo", "(II)I"⟩
abbrev cX2_dyedFirst : ByteArray := prog_4_method_3_code
def yX2_dyedFirst : MethodName := ⟨RX2, "dyedFirst", "(III)I"⟩
abbrev cX2_dyedSecond : ByteArray := prog_4_method_4_code
def yX2_dyedSecond : MethodName := ⟨RX2, "dyedSecond", "(II)I"⟩
abbrev cX2_distanceOfDyed : ByteArray := prog_4_method_5_code
def yX2_distanceOfDyed : MethodName := ⟨RX2, "distanceOfDyed", "(IIII)I"⟩
def RX3 : String := "DyeRing$Order"
def TX3 : u_T := fun k => match k with
  | 0 => ("DyeRing$Order", "number", "I", true)
  | 1 => ("DyeRing$Order", "entry", "LDyeRing$Entry;", true)
  | 2 => ("DyeRing$Order", "weight", "I", true)
  | 3 => ("DyeRing$Order", "yarn", "I", true)
  | 4 => ("DyeRing$Order", "piece", "LDyeRing$Piece;", false)
  | _ => ("DyeRing$Order", "claimed", "Z", false)
def tyX3 : Nat → FieldType := fun k => match k with
  | 0 => .int
  | 1 => .object "DyeRing$Entry"
  | 2 => .int
  | 3 => .int
  | 4 => .object "DyeRing$Piece"
  | _ => .boolean
theorem nmX3 : ∀ a, a < 6 → ∀ b, b < 6 → a ≠ b → (TX3 a).2.1 ≠ (TX3 b).2.1 := by decide +kernel
theorem tyX3_ok : ∀ k, k < 6 → parseFieldDescriptor (TX3 k).2.2.1 = some (tyX3 k) := by decide +kernel
abbrev cX3_init : ByteArray := prog_5_method_1_code
def yX3_init : MethodName := ⟨RX3, "<init>", "(ILDyeRing$Entry;II)V"⟩
def RX4 : String := "DyeRing$Piece"
def TX4 : u_T := fun k => match k with
  | 0 => ("DyeRing$Piece", "orderNumber", "I", true)
  | 1 => ("DyeRing$Piece", "entry", "LDyeRing$Entry;", true)
  | 2 => ("DyeRing$Piece", "weight", "I", true)
  | 3 => ("DyeRing$Piece", "bath", "LDyeRing$Bath;", true)
  | 4 => ("DyeRing$Piece", "afterRenewal", "Z", true)
  | 5 => ("DyeRing$Piece", "strengthThen", "I", true)
  | 6 => ("DyeRing$Piece", "waterThen", "I", true)
  | 7 => ("DyeRing$Piece", "yarnFirstThen", "I", true)
  | _ => ("DyeRing$Piece", "yarnSecondThen", "I", true)
def tyX4 : Nat → FieldType := fun k => match k with
  | 0 => .int
  | 1 => .object "DyeRing$Entry"
  | 2 => .int
  | 3 => .object "DyeRing$Bath"
  | 4 => .boolean
  | 5 => .int
  | 6 => .int
  | 7 => .int
  | _ => .int
theorem nmX4 : ∀ a, a < 9 → ∀ b, b < 9 → a ≠ b → (TX4 a).2.1 ≠ (TX4 b).2.1 := by decide +kernel
theorem tyX4_ok : ∀ k, k < 9 → parseFieldDescriptor (TX4 k).2.2.1 = some (tyX4 k) := by decide +kernel
abbrev cX4_init : ByteArray := prog_6_method_1_code
def yX4_init : MethodName := ⟨RX4, "<init>", "(LDyeRing$Order;LDyeRing$Bath;III)V"⟩
abbrev cX4_colourAt : ByteArray := prog_6_method_2_code
def yX4_colourAt : MethodName := ⟨RX4, "colourAt", "(II)I"⟩
abbrev cX4_distance : ByteArray := prog_6_method_3_code
def yX4_distance : MethodName := ⟨RX4, "distance", "()I"⟩
abbrev cX4_isOff : ByteArray := prog_6_method_4_code
def yX4_isOff : MethodName := ⟨RX4, "isOff", "()Z"⟩
abbrev cX4_toBlame : ByteArray := prog_6_method_5_code
def yX4_toBlame : MethodName := ⟨RX4, "toBlame", "()I"⟩
def RX5 : String := "DyeRing"
def TX5 : u_T := fun k => match k with
  | 0 => ("DyeRing", "entries", "Ljava/util/ArrayList;", true)
  | 1 => ("DyeRing", "baths", "Ljava/util/ArrayList;", true)
  | 2 => ("DyeRing", "orders", "Ljava/util/ArrayList;", true)
  | 3 => ("DyeRing", "waters", "[I", true)
  | 4 => ("DyeRing", "yarnFirsts", "[I", true)
  | 5 => ("DyeRing", "yarnSeconds", "[I", true)
  | 6 => ("DyeRing", "blames", "[[I", true)
  | _ => ("DyeRing", "cloths", "[LDyeRing$Cloth;", true)
def tyX5 : Nat → FieldType := fun k => match k with
  | 0 => .object "java/util/ArrayList"
  | 1 => .object "java/util/ArrayList"
  | 2 => .object "java/util/ArrayList"
  | 3 => .array .int
  | 4 => .array .int
  | 5 => .array .int
  | 6 => .array (.array .int)
  | _ => .array (.object "DyeRing$Cloth")
theorem nmX5 : ∀ a, a < 8 → ∀ b, b < 8 → a ≠ b → (TX5 a).2.1 ≠ (TX5 b).2.1 := by decide +kernel
theorem tyX5_ok : ∀ k, k < 8 → parseFieldDescriptor (TX5 k).2.2.1 = some (tyX5 k) := by decide +kernel
abbrev cX5_init : ByteArray := prog_1_method_1_code
def yX5_init : MethodName := ⟨RX5, "<init>", "()V"⟩
abbrev cX5_entry : ByteArray := prog_1_method_2_code
def yX5_entry : MethodName := ⟨RX5, "entry", "(III)I"⟩
abbrev cX5_water : ByteArray := prog_1_method_3_code
def yX5_water : MethodName := ⟨RX5, "water", "(II)I"⟩
abbrev cX5_yarn : ByteArray := prog_1_method_4_code
def yX5_yarn : MethodName := ⟨RX5, "yarn", "(III)I"⟩
abbrev cX5_apart : ByteArray := prog_1_method_5_code
def yX5_apart : MethodName := ⟨RX5, "apart", "(II)I"⟩
abbrev cX5_bath : ByteArray := prog_1_method_6_code
def yX5_bath : MethodName := ⟨RX5, "bath", "(II)I"⟩
abbrev cX5_freshen : ByteArray := prog_1_method_7_code
def yX5_freshen : MethodName := ⟨RX5, "freshen", "(I)I"⟩
abbrev cX5_strength : ByteArray := prog_1_method_8_code
def yX5_strength : MethodName := ⟨RX5, "strength", "(I)I"⟩
abbrev cX5_order : ByteArray := prog_1_method_9_code
def yX5_order : MethodName := ⟨RX5, "order", "(III)I"⟩
abbrev cX5_place : ByteArray := prog_1_method_10_code
def yX5_place : MethodName := ⟨RX5, "place", "(I)I"⟩
abbrev cX5_dye : ByteArray := prog_1_method_11_code
def yX5_dye : MethodName := ⟨RX5, "dye", "(II)I"⟩
abbrev cX5_claim : ByteArray := prog_1_method_12_code
def yX5_claim : MethodName := ⟨RX5, "claim", "(I)I"⟩
abbrev cX5_stateOf : ByteArray := prog_1_method_13_code
def yX5_stateOf : MethodName := ⟨RX5, "stateOf", "(I)I"⟩
abbrev cX5_colour : ByteArray := prog_1_method_14_code
def yX5_colour : MethodName := ⟨RX5, "colour", "(II)I"⟩
abbrev cX5_colourByBath : ByteArray := prog_1_method_15_code
def yX5_colourByBath : MethodName := ⟨RX5, "colourByBath", "(II)I"⟩
abbrev cX5_blamed : ByteArray := prog_1_method_16_code
def yX5_blamed : MethodName := ⟨RX5, "blamed", "(II)I"⟩
abbrev cX5_shrinks : ByteArray := prog_1_method_17_code
def yX5_shrinks : MethodName := ⟨RX5, "shrinks", "(II)I"⟩
abbrev cX5_give : ByteArray := prog_1_method_18_code
def yX5_give : MethodName := ⟨RX5, "give", "(IIII)I"⟩
abbrev cX5_owes : ByteArray := prog_1_method_19_code
def yX5_owes : MethodName := ⟨RX5, "owes", "(III)I"⟩
abbrev cX5_position : ByteArray := prog_1_method_20_code
def yX5_position : MethodName := ⟨RX5, "position", "(II)I"⟩
abbrev cX5_net : ByteArray := prog_1_method_21_code
def yX5_net : MethodName := ⟨RX5, "net", "(I)I"⟩
abbrev cX5_requireIndex : ByteArray := prog_1_method_22_code
def yX5_requireIndex : MethodName := ⟨RX5, "requireIndex", "(II)V"⟩
abbrev cX5_requireRange : ByteArray := prog_1_method_23_code
def yX5_requireRange : MethodName := ⟨RX5, "requireRange", "(III)V"⟩
abbrev cX5_requireRoom : ByteArray := prog_1_method_24_code
def yX5_requireRoom : MethodName := ⟨RX5, "requireRoom", "(II)V"⟩
abbrev cX5_requireWaiting : ByteArray := prog_1_method_25_code
def yX5_requireWaiting : MethodName := ⟨RX5, "requireWaiting", "(LDyeRing$Order;)V"⟩
abbrev cX5_pieceOf : ByteArray := prog_1_method_26_code
def yX5_pieceOf : MethodName := ⟨RX5, "pieceOf", "(LDyeRing$Order;)LDyeRing$Piece;"⟩
abbrev cX5_findEntry : ByteArray := prog_1_method_27_code
def yX5_findEntry : MethodName := ⟨RX5, "findEntry", "(I)LDyeRing$Entry;"⟩
abbrev cX5_findBath : ByteArray := prog_1_method_28_code
def yX5_findBath : MethodName := ⟨RX5, "findBath", "(I)LDyeRing$Bath;"⟩
abbrev cX5_findOrder : ByteArray := prog_1_method_29_code
def yX5_findOrder : MethodName := ⟨RX5, "findOrder", "(I)LDyeRing$Order;"⟩
abbrev cX5_weakestRightBath : ByteArray := prog_1_method_30_code
def yX5_weakestRightBath : MethodName := ⟨RX5, "weakestRightBath", "(LDyeRing$Order;)I"⟩
abbrev cX5_isRight : ByteArray := prog_1_method_31_code
def yX5_isRight : MethodName := ⟨RX5, "isRight", "(LDyeRing$Bath;LDyeRing$Order;)Z"⟩
abbrev cX5_dyeIn : ByteArray := prog_1_method_32_code
def yX5_dyeIn : MethodName := ⟨RX5, "dyeIn", "(LDyeRing$Order;LDyeRing$Bath;)LDyeRing$Piece;"⟩
abbrev cX5_weakened : ByteArray := prog_1_method_33_code
def yX5_weakened : MethodName := ⟨RX5, "weakened", "(II)I"⟩
def RX6 : String := "DyeRingModel"
def TX6 : u_T := fun k => match k with
  | 0 => ("DyeRingModel", "entries", "I", false)
  | 1 => ("DyeRingModel", "book", "[I", true)
  | 2 => ("DyeRingModel", "tolerance", "[I", true)
  | 3 => ("DyeRingModel", "waters", "[I", true)
  | 4 => ("DyeRingModel", "yarns", "[I", true)
  | 5 => ("DyeRingModel", "baths", "I", false)
  | 6 => ("DyeRingModel", "dyer", "[I", true)
  | 7 => ("DyeRingModel", "bathFor", "[I", true)
  | 8 => ("DyeRingModel", "strength", "[I", true)
  | 9 => ("DyeRingModel", "orders", "I", false)
  | 10 => ("DyeRingModel", "entryOf", "[I", true)
  | 11 => ("DyeRingModel", "weight", "[I", true)
  | 12 => ("DyeRingModel", "yarnOf", "[I", true)
  | 13 => ("DyeRingModel", "state", "[I", true)
  | 14 => ("DyeRingModel", "bathOf", "[I", true)
  | 15 => ("DyeRingModel", "hadStrength", "[I", true)
  | 16 => ("DyeRingModel", "hadWater", "[I", true)
  | 17 => ("DyeRingModel", "hadFirst", "[I", true)
  | 18 => ("DyeRingModel", "hadSecond", "[I", true)
  | 19 => ("DyeRingModel", "blames", "[I", true)
  | 20 => ("DyeRingModel", "shrinkage", "[I", true)
  | 21 => ("DyeRingModel", "debts", "[I", true)
  | 22 => ("DyeRingModel", "positions", "[I", true)
  | _ => ("DyeRingModel", "thrown", "I", false)
def tyX6 : Nat → FieldType := fun k => match k with
  | 0 => .int
  | 1 => .array .int
  | 2 => .array .int
  | 3 => .array .int
  | 4 => .array .int
  | 5 => .int
  | 6 => .array .int
  | 7 => .array .int
  | 8 => .array .int
  | 9 => .int
  | 10 => .array .int
  | 11 => .array .int
  | 12 => .array .int
  | 13 => .array .int
  | 14 => .array .int
  | 15 => .array .int
  | 16 => .array .int
  | 17 => .array .int
  | 18 => .array .int
  | 19 => .array .int
  | 20 => .array .int
  | 21 => .array .int
  | 22 => .array .int
  | _ => .int
theorem nmX6 : ∀ a, a < 24 → ∀ b, b < 24 → a ≠ b → (TX6 a).2.1 ≠ (TX6 b).2.1 := by decide +kernel
theorem tyX6_ok : ∀ k, k < 24 → parseFieldDescriptor (TX6 k).2.2.1 = some (tyX6 k) := by decide +kernel
abbrev cX6_init : ByteArray := prog_8_method_1_code
def yX6_init : MethodName := ⟨RX6, "<init>", "()V"⟩
abbrev cX6_thrown : ByteArray := prog_8_method_2_code
def yX6_thrown : MethodName := ⟨RX6, "thrown", "()I"⟩
abbrev cX6_may : ByteArray := prog_8_method_3_code
def yX6_may : MethodName := ⟨RX6, "may", "(Z)Z"⟩
abbrev cX6_mayBoth : ByteArray := prog_8_method_4_code
def yX6_mayBoth : MethodName := ⟨RX6, "mayBoth", "(ZZ)Z"⟩
abbrev cX6_mayAll : ByteArray := prog_8_method_5_code
def yX6_mayAll : MethodName := ⟨RX6, "mayAll", "(ZZZ)Z"⟩
abbrev cX6_isIn : ByteArray := prog_8_method_6_code
def yX6_isIn : MethodName := ⟨RX6, "isIn", "(III)Z"⟩
abbrev cX6_isThird : ByteArray := prog_8_method_7_code
def yX6_isThird : MethodName := ⟨RX6, "isThird", "(I)Z"⟩
abbrev cX6_isEntry : ByteArray := prog_8_method_8_code
def yX6_isEntry : MethodName := ⟨RX6, "isEntry", "(I)Z"⟩
abbrev cX6_isBath : ByteArray := prog_8_method_9_code
def yX6_isBath : MethodName := ⟨RX6, "isBath", "(I)Z"⟩
abbrev cX6_isOrder : ByteArray := prog_8_method_10_code
def yX6_isOrder : MethodName := ⟨RX6, "isOrder", "(I)Z"⟩
abbrev cX6_far : ByteArray := prog_8_method_11_code
def yX6_far : MethodName := ⟨RX6, "far", "(II)I"⟩
abbrev cX6_entry : ByteArray := prog_8_method_12_code
def yX6_entry : MethodName := ⟨RX6, "entry", "(III)I"⟩
abbrev cX6_water : ByteArray := prog_8_method_13_code
def yX6_water : MethodName := ⟨RX6, "water", "(II)I"⟩
abbrev cX6_yarn : ByteArray := prog_8_method_14_code
def yX6_yarn : MethodName := ⟨RX6, "yarn", "(III)I"⟩
abbrev cX6_apart : ByteArray := prog_8_method_15_code
def yX6_apart : MethodName := ⟨RX6, "apart", "(II)I"⟩
abbrev cX6_bath : ByteArray := prog_8_method_16_code
def yX6_bath : MethodName := ⟨RX6, "bath", "(II)I"⟩
abbrev cX6_freshen : ByteArray := prog_8_method_17_code
def yX6_freshen : MethodName := ⟨RX6, "freshen", "(I)I"⟩
abbrev cX6_strength : ByteArray := prog_8_method_18_code
def yX6_strength : MethodName := ⟨RX6, "strength", "(I)I"⟩
abbrev cX6_order : ByteArray := prog_8_method_19_code
def yX6_order : MethodName := ⟨RX6, "order", "(III)I"⟩
abbrev cX6_off : ByteArray := prog_8_method_20_code
def yX6_off : MethodName := ⟨RX6, "off", "(IIII)I"⟩
abbrev cX6_offBy : ByteArray := prog_8_method_21_code
def yX6_offBy : MethodName := ⟨RX6, "offBy", "(II)I"⟩
abbrev cX6_offOf : ByteArray := prog_8_method_22_code
def yX6_offOf : MethodName := ⟨RX6, "offOf", "(I)I"⟩
abbrev cX6_dyeIn : ByteArray := prog_8_method_23_code
def yX6_dyeIn : MethodName := ⟨RX6, "dyeIn", "(II)V"⟩
abbrev cX6_place : ByteArray := prog_8_method_24_code
def yX6_place : MethodName := ⟨RX6, "place", "(I)I"⟩
abbrev cX6_dye : ByteArray := prog_8_method_25_code
def yX6_dye : MethodName := ⟨RX6, "dye", "(II)I"⟩
abbrev cX6_claim : ByteArray := prog_8_method_26_code
def yX6_claim : MethodName := ⟨RX6, "claim", "(I)I"⟩
abbrev cX6_stateOf : ByteArray := prog_8_method_27_code
def yX6_stateOf : MethodName := ⟨RX6, "stateOf", "(I)I"⟩
abbrev cX6_colour : ByteArray := prog_8_method_28_code
def yX6_colour : MethodName := ⟨RX6, "colour", "(II)I"⟩
abbrev cX6_colourByBath : ByteArray := prog_8_method_29_code
def yX6_colourByBath : MethodName := ⟨RX6, "colourByBath", "(II)I"⟩
abbrev cX6_blamed : ByteArray := prog_8_method_30_code
def yX6_blamed : MethodName := ⟨RX6, "blamed", "(II)I"⟩
abbrev cX6_isPerson : ByteArray := prog_8_method_31_code
def yX6_isPerson : MethodName := ⟨RX6, "isPerson", "(I)Z"⟩
abbrev cX6_shrinks : ByteArray := prog_8_method_32_code
def yX6_shrinks : MethodName := ⟨RX6, "shrinks", "(II)I"⟩
abbrev cX6_give : ByteArray := prog_8_method_33_code
def yX6_give : MethodName := ⟨RX6, "give", "(IIII)I"⟩
abbrev cX6_owes : ByteArray := prog_8_method_34_code
def yX6_owes : MethodName := ⟨RX6, "owes", "(III)I"⟩
abbrev cX6_positionOf : ByteArray := prog_8_method_35_code
def yX6_positionOf : MethodName := ⟨RX6, "positionOf", "(II)I"⟩
abbrev cX6_position : ByteArray := prog_8_method_36_code
def yX6_position : MethodName := ⟨RX6, "position", "(II)I"⟩
abbrev cX6_net : ByteArray := prog_8_method_37_code
def yX6_net : MethodName := ⟨RX6, "net", "(I)I"⟩
def RJx145de : String := "java/io/Serializable"
def TJx145de : u_T := fun k => match k with
  | _ => ("", "", "", false)
def tyJx145de : Nat → FieldType := fun k => match k with
  | _ => .int
theorem nmJx145de : ∀ a, a < 0 → ∀ b, b < 0 → a ≠ b → (TJx145de a).2.1 ≠ (TJx145de b).2.1 := by decide +kernel
theorem tyJx145de_ok : ∀ k, k < 0 → parseFieldDescriptor (TJx145de k).2.2.1 = some (tyJx145de k) := by decide +kernel
def RJx8e188 : String := "java/lang/Cloneable"
def TJx8e188 : u_T := fun k => match k with
  | _ => ("", "", "", false)
def tyJx8e188 : Nat → FieldType := fun k => match k with
  | _ => .int
theorem nmJx8e188 : ∀ a, a < 0 → ∀ b, b < 0 → a ≠ b → (TJx8e188 a).2.1 ≠ (TJx8e188 b).2.1 := by decide +kernel
theorem tyJx8e188_ok : ∀ k, k < 0 → parseFieldDescriptor (TJx8e188 k).2.2.1 = some (tyJx8e188 k) := by decide +kernel
def RJxab1ab : String := "java/lang/Iterable"
def TJxab1ab : u_T := fun k => match k with
  | _ => ("", "", "", false)
def tyJxab1ab : Nat → FieldType := fun k => match k with
  | _ => .int
theorem nmJxab1ab : ∀ a, a < 0 → ∀ b, b < 0 → a ≠ b → (TJxab1ab a).2.1 ≠ (TJxab1ab b).2.1 := by decide +kernel
theorem tyJxab1ab_ok : ∀ k, k < 0 → parseFieldDescriptor (TJxab1ab k).2.2.1 = some (tyJxab1ab k) := by decide +kernel
def RJ9 : String := "java/lang/Math"
def TJ9 : u_T := fun k => match k with
  | _ => ("", "", "", false)
def tyJ9 : Nat → FieldType := fun k => match k with
  | _ => .int
theorem nmJ9 : ∀ a, a < 0 → ∀ b, b < 0 → a ≠ b → (TJ9 a).2.1 ≠ (TJ9 b).2.1 := by decide +kernel
theorem tyJ9_ok : ∀ k, k < 0 → parseFieldDescriptor (TJ9 k).2.2.1 = some (tyJ9 k) := by decide +kernel
abbrev cJ9_abs_0f7a4 : ByteArray := prog_16_method_59_code
def yJ9_abs_0f7a4 : MethodName := ⟨RJ9, "abs", "(I)I"⟩
abbrev cJ9_max_7cf53 : ByteArray := prog_16_method_65_code
def yJ9_max_7cf53 : MethodName := ⟨RJ9, "max", "(II)I"⟩
abbrev cJ9_min_7cf53 : ByteArray := prog_16_method_69_code
def yJ9_min_7cf53 : MethodName := ⟨RJ9, "min", "(II)I"⟩
def RJ0 : String := "java/lang/String"
def TJ0 : u_T := fun k => match k with
  | _ => ("", "", "", false)
def tyJ0 : Nat → FieldType := fun k => match k with
  | _ => .int
theorem nmJ0 : ∀ a, a < 0 → ∀ b, b < 0 → a ≠ b → (TJ0 a).2.1 ≠ (TJ0 b).2.1 := by decide +kernel
theorem tyJ0_ok : ∀ k, k < 0 → parseFieldDescriptor (TJ0 k).2.2.1 = some (tyJ0 k) := by decide +kernel
def RJ10 : String := "java/lang/System"
def TJ10 : u_T := fun k => match k with
  | _ => ("", "", "", false)
def tyJ10 : Nat → FieldType := fun k => match k with
  | _ => .int
theorem nmJ10 : ∀ a, a < 0 → ∀ b, b < 0 → a ≠ b → (TJ10 a).2.1 ≠ (TJ10 b).2.1 := by decide +kernel
theorem tyJ10_ok : ∀ k, k < 0 → parseFieldDescriptor (TJ10 k).2.2.1 = some (tyJ10 k) := by decide +kernel
def RJxa1e45 : String := "java/util/AbstractCollection"
def TJxa1e45 : u_T := fun k => match k with
  | _ => ("", "", "", false)
def tyJxa1e45 : Nat → FieldType := fun k => match k with
  | _ => .int
theorem nmJxa1e45 : ∀ a, a < 0 → ∀ b, b < 0 → a ≠ b → (TJxa1e45 a).2.1 ≠ (TJxa1e45 b).2.1 := by decide +kernel
theorem tyJxa1e45_ok : ∀ k, k < 0 → parseFieldDescriptor (TJxa1e45 k).2.2.1 = some (tyJxa1e45 k) := by decide +kernel
abbrev cJxa1e45_init_da8c8 : ByteArray := prog_21_method_1_code
def yJxa1e45_init_da8c8 : MethodName := ⟨RJxa1e45, "<init>", "()V"⟩
def RJxc12de : String := "java/util/AbstractList"
def TJxc12de : u_T := fun k => match k with
  | _ => ("", "", "", false)
def tyJxc12de : Nat → FieldType := fun k => match k with
  | _ => .int
theorem nmJxc12de : ∀ a, a < 0 → ∀ b, b < 0 → a ≠ b → (TJxc12de a).2.1 ≠ (TJxc12de b).2.1 := by decide +kernel
theorem tyJxc12de_ok : ∀ k, k < 0 → parseFieldDescriptor (TJxc12de k).2.2.1 = some (tyJxc12de k) := by decide +kernel
abbrev cJxc12de_init_da8c8 : ByteArray := prog_22_method_1_code
def yJxc12de_init_da8c8 : MethodName := ⟨RJxc12de, "<init>", "()V"⟩
def RJx4a65c : String := "java/util/ArrayList"
def TJx4a65c : u_T := fun k => match k with
  | 0 => ("java/util/AbstractList", "modCount", "I", false)
  | 1 => ("java/util/ArrayList", "elementData", "[Ljava/lang/Object;", false)
  | _ => ("java/util/ArrayList", "size", "I", false)
def tyJx4a65c : Nat → FieldType := fun k => match k with
  | 0 => .int
  | 1 => .array (.object "java/lang/Object")
  | _ => .int
theorem nmJx4a65c : ∀ a, a < 3 → ∀ b, b < 3 → a ≠ b → (TJx4a65c a).2.1 ≠ (TJx4a65c b).2.1 := by decide +kernel
theorem tyJx4a65c_ok : ∀ k, k < 3 → parseFieldDescriptor (TJx4a65c k).2.2.1 = some (tyJx4a65c k) := by decide +kernel
abbrev cJx4a65c_init_da8c8 : ByteArray := prog_23_method_2_code
def yJx4a65c_init_da8c8 : MethodName := ⟨RJx4a65c, "<init>", "()V"⟩
abbrev cJx4a65c_grow_92f84 : ByteArray := prog_23_method_6_code
def yJx4a65c_grow_92f84 : MethodName := ⟨RJx4a65c, "grow", "(I)[Ljava/lang/Object;"⟩
abbrev cJx4a65c_grow_d5877 : ByteArray := prog_23_method_7_code
def yJx4a65c_grow_d5877 : MethodName := ⟨RJx4a65c, "grow", "()[Ljava/lang/Object;"⟩
abbrev cJx4a65c_size_8abf5 : ByteArray := prog_23_method_8_code
def yJx4a65c_size_8abf5 : MethodName := ⟨RJx4a65c, "size", "()I"⟩
abbrev cJx4a65c_elementData_915e3 : ByteArray := prog_23_method_18_code
def yJx4a65c_elementData_915e3 : MethodName := ⟨RJx4a65c, "elementData", "(I)Ljava/lang/Object;"⟩
abbrev cJx4a65c_get_915e3 : ByteArray := prog_23_method_20_code
def yJx4a65c_get_915e3 : MethodName := ⟨RJx4a65c, "get", "(I)Ljava/lang/Object;"⟩
abbrev cJx4a65c_add_72be8 : ByteArray := prog_23_method_24_code
def yJx4a65c_add_72be8 : MethodName := ⟨RJx4a65c, "add", "(Ljava/lang/Object;[Ljava/lang/Object;I)V"⟩
abbrev cJx4a65c_add_9ea2d : ByteArray := prog_23_method_25_code
def yJx4a65c_add_9ea2d : MethodName := ⟨RJx4a65c, "add", "(Ljava/lang/Object;)Z"⟩
def RJ7 : String := "java/util/Arrays"
def TJ7 : u_T := fun k => match k with
  | _ => ("", "", "", false)
def tyJ7 : Nat → FieldType := fun k => match k with
  | _ => .int
theorem nmJ7 : ∀ a, a < 0 → ∀ b, b < 0 → a ≠ b → (TJ7 a).2.1 ≠ (TJ7 b).2.1 := by decide +kernel
theorem tyJ7_ok : ∀ k, k < 0 → parseFieldDescriptor (TJ7 k).2.2.1 = some (tyJ7 k) := by decide +kernel
abbrev cJ7_fill_53178 : ByteArray := prog_24_method_103_code
def yJ7_fill_53178 : MethodName := ⟨RJ7, "fill", "([II)V"⟩
abbrev cJ7_copyOf_1904c : ByteArray := prog_24_method_119_code
def yJ7_copyOf_1904c : MethodName := ⟨RJ7, "copyOf", "([Ljava/lang/Object;I)[Ljava/lang/Object;"⟩
abbrev cJ7_copyOf_6403c : ByteArray := prog_24_method_120_code
def yJ7_copyOf_6403c : MethodName := ⟨RJ7, "copyOf", "([Ljava/lang/Object;ILjava/lang/Class;)[Ljava/lang/Object;"⟩
def RJx5ef63 : String := "java/util/Collection"
def TJx5ef63 : u_T := fun k => match k with
  | _ => ("", "", "", false)
def tyJx5ef63 : Nat → FieldType := fun k => match k with
  | _ => .int
theorem nmJx5ef63 : ∀ a, a < 0 → ∀ b, b < 0 → a ≠ b → (TJx5ef63 a).2.1 ≠ (TJx5ef63 b).2.1 := by decide +kernel
theorem tyJx5ef63_ok : ∀ k, k < 0 → parseFieldDescriptor (TJx5ef63 k).2.2.1 = some (tyJx5ef63 k) := by decide +kernel
def RJxbd725 : String := "java/util/List"
def TJxbd725 : u_T := fun k => match k with
  | _ => ("", "", "", false)
def tyJxbd725 : Nat → FieldType := fun k => match k with
  | _ => .int
theorem nmJxbd725 : ∀ a, a < 0 → ∀ b, b < 0 → a ≠ b → (TJxbd725 a).2.1 ≠ (TJxbd725 b).2.1 := by decide +kernel
theorem tyJxbd725_ok : ∀ k, k < 0 → parseFieldDescriptor (TJxbd725 k).2.2.1 = some (tyJxbd725 k) := by decide +kernel
def RJ15 : String := "java/util/Objects"
def TJ15 : u_T := fun k => match k with
  | _ => ("", "", "", false)
def tyJ15 : Nat → FieldType := fun k => match k with
  | _ => .int
theorem nmJ15 : ∀ a, a < 0 → ∀ b, b < 0 → a ≠ b → (TJ15 a).2.1 ≠ (TJ15 b).2.1 := by decide +kernel
theorem tyJ15_ok : ∀ k, k < 0 → parseFieldDescriptor (TJ15 k).2.2.1 = some (tyJ15 k) := by decide +kernel
abbrev cJ15_checkIndex_7cf53 : ByteArray := prog_28_method_17_code
def yJ15_checkIndex_7cf53 : MethodName := ⟨RJ15, "checkIndex", "(II)I"⟩
def RJxf0a74 : String := "java/util/RandomAccess"
def TJxf0a74 : u_T := fun k => match k with
  | _ => ("", "", "", false)
def tyJxf0a74 : Nat → FieldType := fun k => match k with
  | _ => .int
theorem nmJxf0a74 : ∀ a, a < 0 → ∀ b, b < 0 → a ≠ b → (TJxf0a74 a).2.1 ≠ (TJxf0a74 b).2.1 := by decide +kernel
theorem tyJxf0a74_ok : ∀ k, k < 0 → parseFieldDescriptor (TJxf0a74 k).2.2.1 = some (tyJxf0a74 k) := by decide +kernel
def RJxa66e6 : String := "java/util/SequencedCollection"
def TJxa66e6 : u_T := fun k => match k with
  | _ => ("", "", "", false)
def tyJxa66e6 : Nat → FieldType := fun k => match k with
  | _ => .int
theorem nmJxa66e6 : ∀ a, a < 0 → ∀ b, b < 0 → a ≠ b → (TJxa66e6 a).2.1 ≠ (TJxa66e6 b).2.1 := by decide +kernel
theorem tyJxa66e6_ok : ∀ k, k < 0 → parseFieldDescriptor (TJxa66e6 k).2.2.1 = some (tyJxa66e6 k) := by decide +kernel
def RJ8 : String := "jdk/internal/util/ArraysSupport"
def TJ8 : u_T := fun k => match k with
  | _ => ("", "", "", false)
def tyJ8 : Nat → FieldType := fun k => match k with
  | _ => .int
theorem nmJ8 : ∀ a, a < 0 → ∀ b, b < 0 → a ≠ b → (TJ8 a).2.1 ≠ (TJ8 b).2.1 := by decide +kernel
theorem tyJ8_ok : ∀ k, k < 0 → parseFieldDescriptor (TJ8 k).2.2.1 = some (tyJ8 k) := by decide +kernel
abbrev cJ8_newLength_cabcc : ByteArray := prog_31_method_27_code
def yJ8_newLength_cabcc : MethodName := ⟨RJ8, "newLength", "(III)I"⟩
abbrev cJ8_hugeLength_7cf53 : ByteArray := prog_31_method_28_code
def yJ8_hugeLength_7cf53 : MethodName := ⟨RJ8, "hugeLength", "(II)I"⟩
def RJ3 : String := "jdk/internal/util/Preconditions"
def TJ3 : u_T := fun k => match k with
  | _ => ("", "", "", false)
def tyJ3 : Nat → FieldType := fun k => match k with
  | _ => .int
theorem nmJ3 : ∀ a, a < 0 → ∀ b, b < 0 → a ≠ b → (TJ3 a).2.1 ≠ (TJ3 b).2.1 := by decide +kernel
theorem tyJ3_ok : ∀ k, k < 0 → parseFieldDescriptor (TJ3 k).2.2.1 = some (tyJ3 k) := by decide +kernel
abbrev cJ3_checkIndex_8e157 : ByteArray := prog_32_method_11_code
def yJ3_checkIndex_8e157 : MethodName := ⟨RJ3, "checkIndex", "(IILjava/util/function/BiFunction;)I"⟩
def RL : String := "DyeRingLaw"
abbrev cL_entry : ByteArray := method_3_code
def yL_entry : MethodName := ⟨RL, "entry", "(LDyeRing;III[J)I"⟩
abbrev cL_water : ByteArray := method_4_code
def yL_water : MethodName := ⟨RL, "water", "(LDyeRing;II[J)I"⟩
abbrev cL_yarn : ByteArray := method_5_code
def yL_yarn : MethodName := ⟨RL, "yarn", "(LDyeRing;III[J)I"⟩
abbrev cL_apart : ByteArray := method_6_code
def yL_apart : MethodName := ⟨RL, "apart", "(LDyeRing;II[J)I"⟩
abbrev cL_bath : ByteArray := method_7_code
def yL_bath : MethodName := ⟨RL, "bath", "(LDyeRing;II[J)I"⟩
abbrev cL_freshen : ByteArray := method_8_code
def yL_freshen : MethodName := ⟨RL, "freshen", "(LDyeRing;I[J)I"⟩
abbrev cL_strength : ByteArray := method_9_code
def yL_strength : MethodName := ⟨RL, "strength", "(LDyeRing;I[J)I"⟩
abbrev cL_order : ByteArray := method_10_code
def yL_order : MethodName := ⟨RL, "order", "(LDyeRing;III[J)I"⟩
abbrev cL_place : ByteArray := method_11_code
def yL_place : MethodName := ⟨RL, "place", "(LDyeRing;I[J)I"⟩
abbrev cL_dye : ByteArray := method_12_code
def yL_dye : MethodName := ⟨RL, "dye", "(LDyeRing;II[J)I"⟩
abbrev cL_claim : ByteArray := method_13_code
def yL_claim : MethodName := ⟨RL, "claim", "(LDyeRing;I[J)I"⟩
abbrev cL_stateOf : ByteArray := method_14_code
def yL_stateOf : MethodName := ⟨RL, "stateOf", "(LDyeRing;I[J)I"⟩
abbrev cL_colour : ByteArray := method_15_code
def yL_colour : MethodName := ⟨RL, "colour", "(LDyeRing;II[J)I"⟩
abbrev cL_colourByBath : ByteArray := method_16_code
def yL_colourByBath : MethodName := ⟨RL, "colourByBath", "(LDyeRing;II[J)I"⟩
abbrev cL_blamed : ByteArray := method_17_code
def yL_blamed : MethodName := ⟨RL, "blamed", "(LDyeRing;II[J)I"⟩
abbrev cL_shrinks : ByteArray := method_18_code
def yL_shrinks : MethodName := ⟨RL, "shrinks", "(LDyeRing;II[J)I"⟩
abbrev cL_give : ByteArray := method_19_code
def yL_give : MethodName := ⟨RL, "give", "(LDyeRing;IIII[J)I"⟩
abbrev cL_owes : ByteArray := method_20_code
def yL_owes : MethodName := ⟨RL, "owes", "(LDyeRing;III[J)I"⟩
abbrev cL_position : ByteArray := method_21_code
def yL_position : MethodName := ⟨RL, "position", "(LDyeRing;II[J)I"⟩
abbrev cL_net : ByteArray := method_22_code
def yL_net : MethodName := ⟨RL, "net", "(LDyeRing;I[J)I"⟩
abbrev cL_law : ByteArray := code
def yL_law : MethodName := ⟨RL, "law", "([I)Z"⟩
theorem dX0_init_0 : decode cX0_init 0 = .ok (.aload_n 0, 1) := by decide +kernel
theorem dX0_init_1 : decode cX0_init 1 = .ok (.invokespecial 3, 3) := by decide +kernel
theorem dX0_init_4 : decode cX0_init 4 = .ok (.aload_n 0, 1) := by decide +kernel
theorem dX0_init_5 : decode cX0_init 5 = .ok (.bipush 100, 2) := by decide +kernel
theorem dX0_init_7 : decode cX0_init 7 = .ok (.putfield 9, 3) := by decide +kernel
theorem dX0_init_10 : decode cX0_init 10 = .ok (.aload_n 0, 1) := by decide +kernel
theorem dX0_init_11 : decode cX0_init 11 = .ok (.new 15, 3) := by decide +kernel
theorem dX0_init_14 : decode cX0_init 14 = .ok (.dup, 1) := by decide +kernel
theorem dX0_init_15 : decode cX0_init 15 = .ok (.invokespecial 17, 3) := by decide +kernel
theorem dX0_init_18 : decode cX0_init 18 = .ok (.putfield 18, 3) := by decide +kernel
theorem dX0_init_21 : decode cX0_init 21 = .ok (.aload_n 0, 1) := by decide +kernel
theorem dX0_init_22 : decode cX0_init 22 = .ok (.iload_n 1, 1) := by decide +kernel
theorem dX0_init_23 : decode cX0_init 23 = .ok (.putfield 22, 3) := by decide +kernel
theorem dX0_init_26 : decode cX0_init 26 = .ok (.aload_n 0, 1) := by decide +kernel
theorem dX0_init_27 : decode cX0_init 27 = .ok (.aload_n 2, 1) := by decide +kernel
theorem dX0_init_28 : decode cX0_init 28 = .ok (.putfield 25, 3) := by decide +kernel
theorem dX0_init_31 : decode cX0_init 31 = .ok (.return_, 1) := by decide +kernel
theorem dX0_isFor_0 : decode cX0_isFor 0 = .ok (.aload_n 0, 1) := by decide +kernel
theorem dX0_isFor_1 : decode cX0_isFor 1 = .ok (.getfield 25, 3) := by decide +kernel
theorem dX0_isFor_4 : decode cX0_isFor 4 = .ok (.getfield 29, 3) := by decide +kernel
theorem dX0_isFor_7 : decode cX0_isFor 7 = .ok (.aload_n 1, 1) := by decide +kernel
theorem dX0_isFor_8 : decode cX0_isFor 8 = .ok (.getfield 29, 3) := by decide +kernel
theorem dX0_isFor_11 : decode cX0_isFor 11 = .ok (.if_icmp .ne 7, 3) := by decide +kernel
theorem dX0_isFor_14 : decode cX0_isFor 14 = .ok (.iconst 1, 1) := by decide +kernel
theorem dX0_isFor_15 : decode cX0_isFor 15 = .ok (.goto 4, 3) := by decide +kernel
theorem dX0_isFor_18 : decode cX0_isFor 18 = .ok (.iconst 0, 1) := by decide +kernel
theorem dX0_isFor_19 : decode cX0_isFor 19 = .ok (.ireturn, 1) := by decide +kernel
theorem dX0_renew_0 : decode cX0_renew 0 = .ok (.aload_n 0, 1) := by decide +kernel
theorem dX0_renew_1 : decode cX0_renew 1 = .ok (.getfield 9, 3) := by decide +kernel
theorem dX0_renew_4 : decode cX0_renew 4 = .ok (.istore_n 1, 1) := by decide +kernel
theorem dX0_renew_5 : decode cX0_renew 5 = .ok (.aload_n 0, 1) := by decide +kernel
theorem dX0_renew_6 : decode cX0_renew 6 = .ok (.bipush 100, 2) := by decide +kernel
theorem dX0_renew_8 : decode cX0_renew 8 = .ok (.putfield 9, 3) := by decide +kernel
theorem dX0_renew_11 : decode cX0_renew 11 = .ok (.aload_n 0, 1) := by decide +kernel
theorem dX0_renew_12 : decode cX0_renew 12 = .ok (.iconst 1, 1) := by decide +kernel
theorem dX0_renew_13 : decode cX0_renew 13 = .ok (.putfield 34, 3) := by decide +kernel
theorem dX0_renew_16 : decode cX0_renew 16 = .ok (.iload_n 1, 1) := by decide +kernel
theorem dX0_renew_17 : decode cX0_renew 17 = .ok (.ireturn, 1) := by decide +kernel
theorem dX0_take_0 : decode cX0_take 0 = .ok (.aload_n 0, 1) := by decide +kernel
theorem dX0_take_1 : decode cX0_take 1 = .ok (.getfield 18, 3) := by decide +kernel
theorem dX0_take_4 : decode cX0_take 4 = .ok (.aload_n 1, 1) := by decide +kernel
theorem dX0_take_5 : decode cX0_take 5 = .ok (.invokevirtual 38, 3) := by decide +kernel
theorem dX0_take_8 : decode cX0_take 8 = .ok (.pop, 1) := by decide +kernel
theorem dX0_take_9 : decode cX0_take 9 = .ok (.aload_n 0, 1) := by decide +kernel
theorem dX0_take_10 : decode cX0_take 10 = .ok (.aload_n 0, 1) := by decide +kernel
theorem dX0_take_11 : decode cX0_take 11 = .ok (.getfield 9, 3) := by decide +kernel
theorem dX0_take_14 : decode cX0_take 14 = .ok (.aload_n 1, 1) := by decide +kernel
theorem dX0_take_15 : decode cX0_take 15 = .ok (.getfield 42, 3) := by decide +kernel
theorem dX0_take_18 : decode cX0_take 18 = .ok (.invokestatic 47, 3) := by decide +kernel
theorem dX0_take_21 : decode cX0_take 21 = .ok (.putfield 9, 3) := by decide +kernel
theorem dX0_take_24 : decode cX0_take 24 = .ok (.aload_n 0, 1) := by decide +kernel
theorem dX0_take_25 : decode cX0_take 25 = .ok (.iconst 0, 1) := by decide +kernel
theorem dX0_take_26 : decode cX0_take 26 = .ok (.putfield 34, 3) := by decide +kernel
theorem dX0_take_29 : decode cX0_take 29 = .ok (.return_, 1) := by decide +kernel
theorem dX0_followedTo_0 : decode cX0_followedTo 0 = .ok (.bipush 100, 2) := by decide +kernel
theorem dX0_followedTo_2 : decode cX0_followedTo 2 = .ok (.istore_n 2, 1) := by decide +kernel
theorem dX0_followedTo_3 : decode cX0_followedTo 3 = .ok (.iconst 0, 1) := by decide +kernel
theorem dX0_followedTo_4 : decode cX0_followedTo 4 = .ok (.istore_n 3, 1) := by decide +kernel
theorem dX0_followedTo_5 : decode cX0_followedTo 5 = .ok (.iload_n 3, 1) := by decide +kernel
theorem dX0_followedTo_6 : decode cX0_followedTo 6 = .ok (.aload_n 0, 1) := by decide +kernel
theorem dX0_followedTo_7 : decode cX0_followedTo 7 = .ok (.getfield 18, 3) := by decide +kernel
theorem dX0_followedTo_10 : decode cX0_followedTo 10 = .ok (.invokevirtual 51, 3) := by decide +kernel
theorem dX0_followedTo_13 : decode cX0_followedTo 13 = .ok (.if_icmp .ge 54, 3) := by decide +kernel
theorem dX0_followedTo_16 : decode cX0_followedTo 16 = .ok (.aload_n 0, 1) := by decide +kernel
theorem dX0_followedTo_17 : decode cX0_followedTo 17 = .ok (.getfield 18, 3) := by decide +kernel
theorem dX0_followedTo_20 : decode cX0_followedTo 20 = .ok (.iload_n 3, 1) := by decide +kernel
theorem dX0_followedTo_21 : decode cX0_followedTo 21 = .ok (.invokevirtual 55, 3) := by decide +kernel
theorem dX0_followedTo_24 : decode cX0_followedTo 24 = .ok (.checkcast 43, 3) := by decide +kernel
theorem dX0_followedTo_27 : decode cX0_followedTo 27 = .ok (.astore 4, 2) := by decide +kernel
theorem dX0_followedTo_29 : decode cX0_followedTo 29 = .ok (.aload 4, 2) := by decide +kernel
theorem dX0_followedTo_31 : decode cX0_followedTo 31 = .ok (.getfield 59, 3) := by decide +kernel
theorem dX0_followedTo_34 : decode cX0_followedTo 34 = .ok (.ifCond .eq 6, 3) := by decide +kernel
theorem dX0_followedTo_37 : decode cX0_followedTo 37 = .ok (.bipush 100, 2) := by decide +kernel
theorem dX0_followedTo_39 : decode cX0_followedTo 39 = .ok (.istore_n 2, 1) := by decide +kernel
theorem dX0_followedTo_40 : decode cX0_followedTo 40 = .ok (.aload 4, 2) := by decide +kernel
theorem dX0_followedTo_42 : decode cX0_followedTo 42 = .ok (.getfield 62, 3) := by decide +kernel
theorem dX0_followedTo_45 : decode cX0_followedTo 45 = .ok (.iload_n 1, 1) := by decide +kernel
theorem dX0_followedTo_46 : decode cX0_followedTo 46 = .ok (.if_icmp .ne 5, 3) := by decide +kernel
theorem dX0_followedTo_49 : decode cX0_followedTo 49 = .ok (.iload_n 2, 1) := by decide +kernel
theorem dX0_followedTo_50 : decode cX0_followedTo 50 = .ok (.ireturn, 1) := by decide +kernel
theorem dX0_followedTo_51 : decode cX0_followedTo 51 = .ok (.iload_n 2, 1) := by decide +kernel
theorem dX0_followedTo_52 : decode cX0_followedTo 52 = .ok (.aload 4, 2) := by decide +kernel
theorem dX0_followedTo_54 : decode cX0_followedTo 54 = .ok (.getfield 42, 3) := by decide +kernel
theorem dX0_followedTo_57 : decode cX0_followedTo 57 = .ok (.invokestatic 47, 3) := by decide +kernel
theorem dX0_followedTo_60 : decode cX0_followedTo 60 = .ok (.istore_n 2, 1) := by decide +kernel
theorem dX0_followedTo_61 : decode cX0_followedTo 61 = .ok (.iinc 3 1, 3) := by decide +kernel
theorem dX0_followedTo_64 : decode cX0_followedTo 64 = .ok (.goto (-59), 3) := by decide +kernel
theorem dX0_followedTo_67 : decode cX0_followedTo 67 = .ok (.iload_n 2, 1) := by decide +kernel
theorem dX0_followedTo_68 : decode cX0_followedTo 68 = .ok (.ireturn, 1) := by decide +kernel
theorem dX1_init_0 : decode cX1_init 0 = .ok (.aload_n 0, 1) := by decide +kernel
theorem dX1_init_1 : decode cX1_init 1 = .ok (.invokespecial 3, 3) := by decide +kernel
theorem dX1_init_4 : decode cX1_init 4 = .ok (.aload_n 0, 1) := by decide +kernel
theorem dX1_init_5 : decode cX1_init 5 = .ok (.iconst 5, 1) := by decide +kernel
theorem dX1_init_6 : decode cX1_init 6 = .ok (.iconst 5, 1) := by decide +kernel
theorem dX1_init_7 : decode cX1_init 7 = .ok (.multianewarray 9 2, 4) := by decide +kernel
theorem dX1_init_11 : decode cX1_init 11 = .ok (.putfield 11, 3) := by decide +kernel
theorem dX1_init_14 : decode cX1_init 14 = .ok (.aload_n 0, 1) := by decide +kernel
theorem dX1_init_15 : decode cX1_init 15 = .ok (.iconst 5, 1) := by decide +kernel
theorem dX1_init_16 : decode cX1_init 16 = .ok (.newarray .int, 2) := by decide +kernel
theorem dX1_init_18 : decode cX1_init 18 = .ok (.putfield 16, 3) := by decide +kernel
theorem dX1_init_21 : decode cX1_init 21 = .ok (.return_, 1) := by decide +kernel
theorem dX1_shrunk_0 : decode cX1_shrunk 0 = .ok (.iload_n 1, 1) := by decide +kernel
theorem dX1_shrunk_1 : decode cX1_shrunk 1 = .ok (.aload_n 0, 1) := by decide +kernel
theorem dX1_shrunk_2 : decode cX1_shrunk 2 = .ok (.getfield 20, 3) := by decide +kernel
theorem dX1_shrunk_5 : decode cX1_shrunk 5 = .ok (.imul, 1) := by decide +kernel
theorem dX1_shrunk_6 : decode cX1_shrunk 6 = .ok (.bipush 99, 2) := by decide +kernel
theorem dX1_shrunk_8 : decode cX1_shrunk 8 = .ok (.iadd, 1) := by decide +kernel
theorem dX1_shrunk_9 : decode cX1_shrunk 9 = .ok (.bipush 100, 2) := by decide +kernel
theorem dX1_shrunk_11 : decode cX1_shrunk 11 = .ok (.idiv, 1) := by decide +kernel
theorem dX1_shrunk_12 : decode cX1_shrunk 12 = .ok (.istore_n 2, 1) := by decide +kernel
theorem dX1_shrunk_13 : decode cX1_shrunk 13 = .ok (.iload_n 1, 1) := by decide +kernel
theorem dX1_shrunk_14 : decode cX1_shrunk 14 = .ok (.iload_n 2, 1) := by decide +kernel
theorem dX1_shrunk_15 : decode cX1_shrunk 15 = .ok (.isub, 1) := by decide +kernel
theorem dX1_shrunk_16 : decode cX1_shrunk 16 = .ok (.ireturn, 1) := by decide +kernel
theorem dX1_balanceOf_0 : decode cX1_balanceOf 0 = .ok (.iconst 0, 1) := by decide +kernel
theorem dX1_balanceOf_1 : decode cX1_balanceOf 1 = .ok (.istore_n 2, 1) := by decide +kernel
theorem dX1_balanceOf_2 : decode cX1_balanceOf 2 = .ok (.iconst 0, 1) := by decide +kernel
theorem dX1_balanceOf_3 : decode cX1_balanceOf 3 = .ok (.istore_n 3, 1) := by decide +kernel
theorem dX1_balanceOf_4 : decode cX1_balanceOf 4 = .ok (.iload_n 3, 1) := by decide +kernel
theorem dX1_balanceOf_5 : decode cX1_balanceOf 5 = .ok (.iconst 5, 1) := by decide +kernel
theorem dX1_balanceOf_6 : decode cX1_balanceOf 6 = .ok (.if_icmp .ge 29, 3) := by decide +kernel
theorem dX1_balanceOf_9 : decode cX1_balanceOf 9 = .ok (.iload_n 2, 1) := by decide +kernel
theorem dX1_balanceOf_10 : decode cX1_balanceOf 10 = .ok (.aload_n 0, 1) := by decide +kernel
theorem dX1_balanceOf_11 : decode cX1_balanceOf 11 = .ok (.getfield 11, 3) := by decide +kernel
theorem dX1_balanceOf_14 : decode cX1_balanceOf 14 = .ok (.iload_n 3, 1) := by decide +kernel
theorem dX1_balanceOf_15 : decode cX1_balanceOf 15 = .ok (.aaload, 1) := by decide +kernel
theorem dX1_balanceOf_16 : decode cX1_balanceOf 16 = .ok (.iload_n 1, 1) := by decide +kernel
theorem dX1_balanceOf_17 : decode cX1_balanceOf 17 = .ok (.iaload, 1) := by decide +kernel
theorem dX1_balanceOf_18 : decode cX1_balanceOf 18 = .ok (.aload_n 0, 1) := by decide +kernel
theorem dX1_balanceOf_19 : decode cX1_balanceOf 19 = .ok (.getfield 11, 3) := by decide +kernel
theorem dX1_balanceOf_22 : decode cX1_balanceOf 22 = .ok (.iload_n 1, 1) := by decide +kernel
theorem dX1_balanceOf_23 : decode cX1_balanceOf 23 = .ok (.aaload, 1) := by decide +kernel
theorem dX1_balanceOf_24 : decode cX1_balanceOf 24 = .ok (.iload_n 3, 1) := by decide +kernel
theorem dX1_balanceOf_25 : decode cX1_balanceOf 25 = .ok (.iaload, 1) := by decide +kernel
theorem dX1_balanceOf_26 : decode cX1_balanceOf 26 = .ok (.isub, 1) := by decide +kernel
theorem dX1_balanceOf_27 : decode cX1_balanceOf 27 = .ok (.iadd, 1) := by decide +kernel
theorem dX1_balanceOf_28 : decode cX1_balanceOf 28 = .ok (.istore_n 2, 1) := by decide +kernel
theorem dX1_balanceOf_29 : decode cX1_balanceOf 29 = .ok (.iinc 3 1, 3) := by decide +kernel
theorem dX1_balanceOf_32 : decode cX1_balanceOf 32 = .ok (.goto (-28), 3) := by decide +kernel
theorem dX1_balanceOf_35 : decode cX1_balanceOf 35 = .ok (.iload_n 2, 1) := by decide +kernel
theorem dX1_balanceOf_36 : decode cX1_balanceOf 36 = .ok (.ireturn, 1) := by decide +kernel
theorem dX1_settle_0 : decode cX1_settle 0 = .ok (.iconst 0, 1) := by decide +kernel
theorem dX1_settle_1 : decode cX1_settle 1 = .ok (.istore_n 1, 1) := by decide +kernel
theorem dX1_settle_2 : decode cX1_settle 2 = .ok (.iload_n 1, 1) := by decide +kernel
theorem dX1_settle_3 : decode cX1_settle 3 = .ok (.iconst 5, 1) := by decide +kernel
theorem dX1_settle_4 : decode cX1_settle 4 = .ok (.if_icmp .ge 20, 3) := by decide +kernel
theorem dX1_settle_7 : decode cX1_settle 7 = .ok (.aload_n 0, 1) := by decide +kernel
theorem dX1_settle_8 : decode cX1_settle 8 = .ok (.getfield 16, 3) := by decide +kernel
theorem dX1_settle_11 : decode cX1_settle 11 = .ok (.iload_n 1, 1) := by decide +kernel
theorem dX1_settle_12 : decode cX1_settle 12 = .ok (.aload_n 0, 1) := by decide +kernel
theorem dX1_settle_13 : decode cX1_settle 13 = .ok (.iload_n 1, 1) := by decide +kernel
theorem dX1_settle_14 : decode cX1_settle 14 = .ok (.invokevirtual 24, 3) := by decide +kernel
theorem dX1_settle_17 : decode cX1_settle 17 = .ok (.iastore, 1) := by decide +kernel
theorem dX1_settle_18 : decode cX1_settle 18 = .ok (.iinc 1 1, 3) := by decide +kernel
theorem dX1_settle_21 : decode cX1_settle 21 = .ok (.goto (-19), 3) := by decide +kernel
theorem dX1_settle_24 : decode cX1_settle 24 = .ok (.iconst 0, 1) := by decide +kernel
theorem dX1_settle_25 : decode cX1_settle 25 = .ok (.istore_n 1, 1) := by decide +kernel
theorem dX1_settle_26 : decode cX1_settle 26 = .ok (.iload_n 1, 1) := by decide +kernel
theorem dX1_settle_27 : decode cX1_settle 27 = .ok (.iconst 5, 1) := by decide +kernel
theorem dX1_settle_28 : decode cX1_settle 28 = .ok (.if_icmp .ge 19, 3) := by decide +kernel
theorem dX1_settle_31 : decode cX1_settle 31 = .ok (.aload_n 0, 1) := by decide +kernel
theorem dX1_settle_32 : decode cX1_settle 32 = .ok (.getfield 11, 3) := by decide +kernel
theorem dX1_settle_35 : decode cX1_settle 35 = .ok (.iload_n 1, 1) := by decide +kernel
theorem dX1_settle_36 : decode cX1_settle 36 = .ok (.aaload, 1) := by decide +kernel
theorem dX1_settle_37 : decode cX1_settle 37 = .ok (.iconst 0, 1) := by decide +kernel
theorem dX1_settle_38 : decode cX1_settle 38 = .ok (.invokestatic 28, 3) := by decide +kernel
theorem dX1_settle_41 : decode cX1_settle 41 = .ok (.iinc 1 1, 3) := by decide +kernel
theorem dX1_settle_44 : decode cX1_settle 44 = .ok (.goto (-18), 3) := by decide +kernel
theorem dX1_settle_47 : decode cX1_settle 47 = .ok (.iconst 0, 1) := by decide +kernel
theorem dX1_settle_48 : decode cX1_settle 48 = .ok (.istore_n 1, 1) := by decide +kernel
theorem dX1_settle_49 : decode cX1_settle 49 = .ok (.iload_n 1, 1) := by decide +kernel
theorem dX1_settle_50 : decode cX1_settle 50 = .ok (.iconst 5, 1) := by decide +kernel
theorem dX1_settle_51 : decode cX1_settle 51 = .ok (.if_icmp .ge 16, 3) := by decide +kernel
theorem dX1_settle_54 : decode cX1_settle 54 = .ok (.aload_n 0, 1) := by decide +kernel
theorem dX1_settle_55 : decode cX1_settle 55 = .ok (.invokevirtual 34, 3) := by decide +kernel
theorem dX1_settle_58 : decode cX1_settle 58 = .ok (.ifCond .eq 9, 3) := by decide +kernel
theorem dX1_settle_61 : decode cX1_settle 61 = .ok (.iinc 1 1, 3) := by decide +kernel
theorem dX1_settle_64 : decode cX1_settle 64 = .ok (.goto (-15), 3) := by decide +kernel
theorem dX1_settle_67 : decode cX1_settle 67 = .ok (.iload_n 1, 1) := by decide +kernel
theorem dX1_settle_68 : decode cX1_settle 68 = .ok (.ireturn, 1) := by decide +kernel
theorem dX1_settleLowest_0 : decode cX1_settleLowest 0 = .ok (.aload_n 0, 1) := by decide +kernel
theorem dX1_settleLowest_1 : decode cX1_settleLowest 1 = .ok (.iconst (-1), 1) := by decide +kernel
theorem dX1_settleLowest_2 : decode cX1_settleLowest 2 = .ok (.invokevirtual 38, 3) := by decide +kernel
theorem dX1_settleLowest_5 : decode cX1_settleLowest 5 = .ok (.istore_n 1, 1) := by decide +kernel
theorem dX1_settleLowest_6 : decode cX1_settleLowest 6 = .ok (.aload_n 0, 1) := by decide +kernel
theorem dX1_settleLowest_7 : decode cX1_settleLowest 7 = .ok (.iconst 1, 1) := by decide +kernel
theorem dX1_settleLowest_8 : decode cX1_settleLowest 8 = .ok (.invokevirtual 38, 3) := by decide +kernel
theorem dX1_settleLowest_11 : decode cX1_settleLowest 11 = .ok (.istore_n 2, 1) := by decide +kernel
theorem dX1_settleLowest_12 : decode cX1_settleLowest 12 = .ok (.iload_n 1, 1) := by decide +kernel
theorem dX1_settleLowest_13 : decode cX1_settleLowest 13 = .ok (.iconst (-1), 1) := by decide +kernel
theorem dX1_settleLowest_14 : decode cX1_settleLowest 14 = .ok (.if_icmp .eq 8, 3) := by decide +kernel
theorem dX1_settleLowest_17 : decode cX1_settleLowest 17 = .ok (.iload_n 2, 1) := by decide +kernel
theorem dX1_settleLowest_18 : decode cX1_settleLowest 18 = .ok (.iconst (-1), 1) := by decide +kernel
theorem dX1_settleLowest_19 : decode cX1_settleLowest 19 = .ok (.if_icmp .ne 5, 3) := by decide +kernel
theorem dX1_settleLowest_22 : decode cX1_settleLowest 22 = .ok (.iconst 0, 1) := by decide +kernel
theorem dX1_settleLowest_23 : decode cX1_settleLowest 23 = .ok (.ireturn, 1) := by decide +kernel
theorem dX1_settleLowest_24 : decode cX1_settleLowest 24 = .ok (.aload_n 0, 1) := by decide +kernel
theorem dX1_settleLowest_25 : decode cX1_settleLowest 25 = .ok (.getfield 16, 3) := by decide +kernel
theorem dX1_settleLowest_28 : decode cX1_settleLowest 28 = .ok (.iload_n 1, 1) := by decide +kernel
theorem dX1_settleLowest_29 : decode cX1_settleLowest 29 = .ok (.iaload, 1) := by decide +kernel
theorem dX1_settleLowest_30 : decode cX1_settleLowest 30 = .ok (.ineg, 1) := by decide +kernel
theorem dX1_settleLowest_31 : decode cX1_settleLowest 31 = .ok (.aload_n 0, 1) := by decide +kernel
theorem dX1_settleLowest_32 : decode cX1_settleLowest 32 = .ok (.getfield 16, 3) := by decide +kernel
theorem dX1_settleLowest_35 : decode cX1_settleLowest 35 = .ok (.iload_n 2, 1) := by decide +kernel
theorem dX1_settleLowest_36 : decode cX1_settleLowest 36 = .ok (.iaload, 1) := by decide +kernel
theorem dX1_settleLowest_37 : decode cX1_settleLowest 37 = .ok (.invokestatic 41, 3) := by decide +kernel
theorem dX1_settleLowest_40 : decode cX1_settleLowest 40 = .ok (.istore_n 3, 1) := by decide +kernel
theorem dX1_settleLowest_41 : decode cX1_settleLowest 41 = .ok (.aload_n 0, 1) := by decide +kernel
theorem dX1_settleLowest_42 : decode cX1_settleLowest 42 = .ok (.getfield 11, 3) := by decide +kernel
theorem dX1_settleLowest_45 : decode cX1_settleLowest 45 = .ok (.iload_n 1, 1) := by decide +kernel
theorem dX1_settleLowest_46 : decode cX1_settleLowest 46 = .ok (.aaload, 1) := by decide +kernel
theorem dX1_settleLowest_47 : decode cX1_settleLowest 47 = .ok (.iload_n 2, 1) := by decide +kernel
theorem dX1_settleLowest_48 : decode cX1_settleLowest 48 = .ok (.iload_n 3, 1) := by decide +kernel
theorem dX1_settleLowest_49 : decode cX1_settleLowest 49 = .ok (.iastore, 1) := by decide +kernel
theorem dX1_settleLowest_50 : decode cX1_settleLowest 50 = .ok (.aload_n 0, 1) := by decide +kernel
theorem dX1_settleLowest_51 : decode cX1_settleLowest 51 = .ok (.getfield 16, 3) := by decide +kernel
theorem dX1_settleLowest_54 : decode cX1_settleLowest 54 = .ok (.iload_n 1, 1) := by decide +kernel
theorem dX1_settleLowest_55 : decode cX1_settleLowest 55 = .ok (.dup2, 1) := by decide +kernel
theorem dX1_settleLowest_56 : decode cX1_settleLowest 56 = .ok (.iaload, 1) := by decide +kernel
theorem dX1_settleLowest_57 : decode cX1_settleLowest 57 = .ok (.iload_n 3, 1) := by decide +kernel
theorem dX1_settleLowest_58 : decode cX1_settleLowest 58 = .ok (.iadd, 1) := by decide +kernel
theorem dX1_settleLowest_59 : decode cX1_settleLowest 59 = .ok (.iastore, 1) := by decide +kernel
theorem dX1_settleLowest_60 : decode cX1_settleLowest 60 = .ok (.aload_n 0, 1) := by decide +kernel
theorem dX1_settleLowest_61 : decode cX1_settleLowest 61 = .ok (.getfield 16, 3) := by decide +kernel
theorem dX1_settleLowest_64 : decode cX1_settleLowest 64 = .ok (.iload_n 2, 1) := by decide +kernel
theorem dX1_settleLowest_65 : decode cX1_settleLowest 65 = .ok (.dup2, 1) := by decide +kernel
theorem dX1_settleLowest_66 : decode cX1_settleLowest 66 = .ok (.iaload, 1) := by decide +kernel
theorem dX1_settleLowest_67 : decode cX1_settleLowest 67 = .ok (.iload_n 3, 1) := by decide +kernel
theorem dX1_settleLowest_68 : decode cX1_settleLowest 68 = .ok (.isub, 1) := by decide +kernel
theorem dX1_settleLowest_69 : decode cX1_settleLowest 69 = .ok (.iastore, 1) := by decide +kernel
theorem dX1_settleLowest_70 : decode cX1_settleLowest 70 = .ok (.iconst 1, 1) := by decide +kernel
theorem dX1_settleLowest_71 : decode cX1_settleLowest 71 = .ok (.ireturn, 1) := by decide +kernel
theorem dX1_lowest_0 : decode cX1_lowest 0 = .ok (.iconst 0, 1) := by decide +kernel
theorem dX1_lowest_1 : decode cX1_lowest 1 = .ok (.istore_n 2, 1) := by decide +kernel
theorem dX1_lowest_2 : decode cX1_lowest 2 = .ok (.iload_n 2, 1) := by decide +kernel
theorem dX1_lowest_3 : decode cX1_lowest 3 = .ok (.iconst 5, 1) := by decide +kernel
theorem dX1_lowest_4 : decode cX1_lowest 4 = .ok (.if_icmp .ge 22, 3) := by decide +kernel
theorem dX1_lowest_7 : decode cX1_lowest 7 = .ok (.aload_n 0, 1) := by decide +kernel
theorem dX1_lowest_8 : decode cX1_lowest 8 = .ok (.getfield 16, 3) := by decide +kernel
theorem dX1_lowest_11 : decode cX1_lowest 11 = .ok (.iload_n 2, 1) := by decide +kernel
theorem dX1_lowest_12 : decode cX1_lowest 12 = .ok (.iaload, 1) := by decide +kernel
theorem dX1_lowest_13 : decode cX1_lowest 13 = .ok (.iload_n 1, 1) := by decide +kernel
theorem dX1_lowest_14 : decode cX1_lowest 14 = .ok (.imul, 1) := by decide +kernel
theorem dX1_lowest_15 : decode cX1_lowest 15 = .ok (.ifCond .le 5, 3) := by decide +kernel
theorem dX1_lowest_18 : decode cX1_lowest 18 = .ok (.iload_n 2, 1) := by decide +kernel
theorem dX1_lowest_19 : decode cX1_lowest 19 = .ok (.ireturn, 1) := by decide +kernel
theorem dX1_lowest_20 : decode cX1_lowest 20 = .ok (.iinc 2 1, 3) := by decide +kernel
theorem dX1_lowest_23 : decode cX1_lowest 23 = .ok (.goto (-21), 3) := by decide +kernel
theorem dX1_lowest_26 : decode cX1_lowest 26 = .ok (.iconst (-1), 1) := by decide +kernel
theorem dX1_lowest_27 : decode cX1_lowest 27 = .ok (.ireturn, 1) := by decide +kernel
theorem dX2_init_0 : decode cX2_init 0 = .ok (.aload_n 0, 1) := by decide +kernel
theorem dX2_init_1 : decode cX2_init 1 = .ok (.invokespecial 3, 3) := by decide +kernel
theorem dX2_init_4 : decode cX2_init 4 = .ok (.aload_n 0, 1) := by decide +kernel
theorem dX2_init_5 : decode cX2_init 5 = .ok (.iload_n 1, 1) := by decide +kernel
theorem dX2_init_6 : decode cX2_init 6 = .ok (.putfield 9, 3) := by decide +kernel
theorem dX2_init_9 : decode cX2_init 9 = .ok (.aload_n 0, 1) := by decide +kernel
theorem dX2_init_10 : decode cX2_init 10 = .ok (.iload_n 2, 1) := by decide +kernel
theorem dX2_init_11 : decode cX2_init 11 = .ok (.putfield 15, 3) := by decide +kernel
theorem dX2_init_14 : decode cX2_init 14 = .ok (.aload_n 0, 1) := by decide +kernel
theorem dX2_init_15 : decode cX2_init 15 = .ok (.iload_n 3, 1) := by decide +kernel
theorem dX2_init_16 : decode cX2_init 16 = .ok (.putfield 18, 3) := by decide +kernel
theorem dX2_init_19 : decode cX2_init 19 = .ok (.aload_n 0, 1) := by decide +kernel
theorem dX2_init_20 : decode cX2_init 20 = .ok (.iload 4, 2) := by decide +kernel
theorem dX2_init_22 : decode cX2_init 22 = .ok (.putfield 21, 3) := by decide +kernel
theorem dX2_init_25 : decode cX2_init 25 = .ok (.return_, 1) := by decide +kernel
theorem dX2_distanceTo_0 : decode cX2_distanceTo 0 = .ok (.aload_n 0, 1) := by decide +kernel
theorem dX2_distanceTo_1 : decode cX2_distanceTo 1 = .ok (.getfield 15, 3) := by decide +kernel
theorem dX2_distanceTo_4 : decode cX2_distanceTo 4 = .ok (.iload_n 1, 1) := by decide +kernel
theorem dX2_distanceTo_5 : decode cX2_distanceTo 5 = .ok (.isub, 1) := by decide +kernel
theorem dX2_distanceTo_6 : decode cX2_distanceTo 6 = .ok (.invokestatic 24, 3) := by decide +kernel
theorem dX2_distanceTo_9 : decode cX2_distanceTo 9 = .ok (.aload_n 0, 1) := by decide +kernel
theorem dX2_distanceTo_10 : decode cX2_distanceTo 10 = .ok (.getfield 18, 3) := by decide +kernel
theorem dX2_distanceTo_13 : decode cX2_distanceTo 13 = .ok (.iload_n 2, 1) := by decide +kernel
theorem dX2_distanceTo_14 : decode cX2_distanceTo 14 = .ok (.isub, 1) := by decide +kernel
theorem dX2_distanceTo_15 : decode cX2_distanceTo 15 = .ok (.invokestatic 24, 3) := by decide +kernel
theorem dX2_distanceTo_18 : decode cX2_distanceTo 18 = .ok (.iadd, 1) := by decide +kernel
theorem dX2_distanceTo_19 : decode cX2_distanceTo 19 = .ok (.ireturn, 1) := by decide +kernel
theorem dX2_dyedFirst_0 : decode cX2_dyedFirst 0 = .ok (.aload_n 0, 1) := by decide +kernel
theorem dX2_dyedFirst_1 : decode cX2_dyedFirst 1 = .ok (.getfield 15, 3) := by decide +kernel
theorem dX2_dyedFirst_4 : decode cX2_dyedFirst 4 = .ok (.iload_n 1, 1) := by decide +kernel
theorem dX2_dyedFirst_5 : decode cX2_dyedFirst 5 = .ok (.imul, 1) := by decide +kernel
theorem dX2_dyedFirst_6 : decode cX2_dyedFirst 6 = .ok (.bipush 100, 2) := by decide +kernel
theorem dX2_dyedFirst_8 : decode cX2_dyedFirst 8 = .ok (.idiv, 1) := by decide +kernel
theorem dX2_dyedFirst_9 : decode cX2_dyedFirst 9 = .ok (.iload_n 3, 1) := by decide +kernel
theorem dX2_dyedFirst_10 : decode cX2_dyedFirst 10 = .ok (.iadd, 1) := by decide +kernel
theorem dX2_dyedFirst_11 : decode cX2_dyedFirst 11 = .ok (.iload_n 2, 1) := by decide +kernel
theorem dX2_dyedFirst_12 : decode cX2_dyedFirst 12 = .ok (.iadd, 1) := by decide +kernel
theorem dX2_dyedFirst_13 : decode cX2_dyedFirst 13 = .ok (.ireturn, 1) := by decide +kernel
theorem dX2_dyedSecond_0 : decode cX2_dyedSecond 0 = .ok (.aload_n 0, 1) := by decide +kernel
theorem dX2_dyedSecond_1 : decode cX2_dyedSecond 1 = .ok (.getfield 18, 3) := by decide +kernel
theorem dX2_dyedSecond_4 : decode cX2_dyedSecond 4 = .ok (.iload_n 1, 1) := by decide +kernel
theorem dX2_dyedSecond_5 : decode cX2_dyedSecond 5 = .ok (.imul, 1) := by decide +kernel
theorem dX2_dyedSecond_6 : decode cX2_dyedSecond 6 = .ok (.bipush 100, 2) := by decide +kernel
theorem dX2_dyedSecond_8 : decode cX2_dyedSecond 8 = .ok (.idiv, 1) := by decide +kernel
theorem dX2_dyedSecond_9 : decode cX2_dyedSecond 9 = .ok (.iload_n 2, 1) := by decide +kernel
theorem dX2_dyedSecond_10 : decode cX2_dyedSecond 10 = .ok (.iadd, 1) := by decide +kernel
theorem dX2_dyedSecond_11 : decode cX2_dyedSecond 11 = .ok (.ireturn, 1) := by decide +kernel
theorem dX2_distanceOfDyed_0 : decode cX2_distanceOfDyed 0 = .ok (.aload_n 0, 1) := by decide +kernel
theorem dX2_distanceOfDyed_1 : decode cX2_distanceOfDyed 1 = .ok (.aload_n 0, 1) := by decide +kernel
theorem dX2_distanceOfDyed_2 : decode cX2_distanceOfDyed 2 = .ok (.iload_n 1, 1) := by decide +kernel
theorem dX2_distanceOfDyed_3 : decode cX2_distanceOfDyed 3 = .ok (.iload_n 2, 1) := by decide +kernel
theorem dX2_distanceOfDyed_4 : decode cX2_distanceOfDyed 4 = .ok (.iload_n 3, 1) := by decide +kernel
theorem dX2_distanceOfDyed_5 : decode cX2_distanceOfDyed 5 = .ok (.invokevirtual 30, 3) := by decide +kernel
theorem dX2_distanceOfDyed_8 : decode cX2_distanceOfDyed 8 = .ok (.aload_n 0, 1) := by decide +kernel
theorem dX2_distanceOfDyed_9 : decode cX2_distanceOfDyed 9 = .ok (.iload_n 1, 1) := by decide +kernel
theorem dX2_distanceOfDyed_10 : decode cX2_distanceOfDyed 10 = .ok (.iload 4, 2) := by decide +kernel
theorem dX2_distanceOfDyed_12 : decode cX2_distanceOfDyed 12 = .ok (.invokevirtual 34, 3) := by decide +kernel
theorem dX2_distanceOfDyed_15 : decode cX2_distanceOfDyed 15 = .ok (.invokevirtual 38, 3) := by decide +kernel
theorem dX2_distanceOfDyed_18 : decode cX2_distanceOfDyed 18 = .ok (.ireturn, 1) := by decide +kernel
theorem dX3_init_0 : decode cX3_init 0 = .ok (.aload_n 0, 1) := by decide +kernel
theorem dX3_init_1 : decode cX3_init 1 = .ok (.invokespecial 1, 3) := by decide +kernel
theorem dX3_init_4 : decode cX3_init 4 = .ok (.aload_n 0, 1) := by decide +kernel
theorem dX3_init_5 : decode cX3_init 5 = .ok (.iload_n 1, 1) := by decide +kernel
theorem dX3_init_6 : decode cX3_init 6 = .ok (.putfield 7, 3) := by decide +kernel
theorem dX3_init_9 : decode cX3_init 9 = .ok (.aload_n 0, 1) := by decide +kernel
theorem dX3_init_10 : decode cX3_init 10 = .ok (.aload_n 2, 1) := by decide +kernel
theorem dX3_init_11 : decode cX3_init 11 = .ok (.putfield 13, 3) := by decide +kernel
theorem dX3_init_14 : decode cX3_init 14 = .ok (.aload_n 0, 1) := by decide +kernel
theorem dX3_init_15 : decode cX3_init 15 = .ok (.iload_n 3, 1) := by decide +kernel
theorem dX3_init_16 : decode cX3_init 16 = .ok (.putfield 17, 3) := by decide +kernel
theorem dX3_init_19 : decode cX3_init 19 = .ok (.aload_n 0, 1) := by decide +kernel
theorem dX3_init_20 : decode cX3_init 20 = .ok (.iload 4, 2) := by decide +kernel
theorem dX3_init_22 : decode cX3_init 22 = .ok (.putfield 20, 3) := by decide +kernel
theorem dX3_init_25 : decode cX3_init 25 = .ok (.return_, 1) := by decide +kernel
theorem dX4_init_0 : decode cX4_init 0 = .ok (.aload_n 0, 1) := by decide +kernel
theorem dX4_init_1 : decode cX4_init 1 = .ok (.invokespecial 3, 3) := by decide +kernel
theorem dX4_init_4 : decode cX4_init 4 = .ok (.aload_n 0, 1) := by decide +kernel
theorem dX4_init_5 : decode cX4_init 5 = .ok (.aload_n 1, 1) := by decide +kernel
theorem dX4_init_6 : decode cX4_init 6 = .ok (.getfield 9, 3) := by decide +kernel
theorem dX4_init_9 : decode cX4_init 9 = .ok (.putfield 15, 3) := by decide +kernel
theorem dX4_init_12 : decode cX4_init 12 = .ok (.aload_n 0, 1) := by decide +kernel
theorem dX4_init_13 : decode cX4_init 13 = .ok (.aload_n 1, 1) := by decide +kernel
theorem dX4_init_14 : decode cX4_init 14 = .ok (.getfield 20, 3) := by decide +kernel
theorem dX4_init_17 : decode cX4_init 17 = .ok (.putfield 24, 3) := by decide +kernel
theorem dX4_init_20 : decode cX4_init 20 = .ok (.aload_n 0, 1) := by decide +kernel
theorem dX4_init_21 : decode cX4_init 21 = .ok (.aload_n 1, 1) := by decide +kernel
theorem dX4_init_22 : decode cX4_init 22 = .ok (.getfield 25, 3) := by decide +kernel
theorem dX4_init_25 : decode cX4_init 25 = .ok (.putfield 28, 3) := by decide +kernel
theorem dX4_init_28 : decode cX4_init 28 = .ok (.aload_n 0, 1) := by decide +kernel
theorem dX4_init_29 : decode cX4_init 29 = .ok (.aload_n 2, 1) := by decide +kernel
theorem dX4_init_30 : decode cX4_init 30 = .ok (.putfield 29, 3) := by decide +kernel
theorem dX4_init_33 : decode cX4_init 33 = .ok (.aload_n 0, 1) := by decide +kernel
theorem dX4_init_34 : decode cX4_init 34 = .ok (.aload_n 2, 1) := by decide +kernel
theorem dX4_init_35 : decode cX4_init 35 = .ok (.getfield 33, 3) := by decide +kernel
theorem dX4_init_38 : decode cX4_init 38 = .ok (.putfield 39, 3) := by decide +kernel
theorem dX4_init_41 : decode cX4_init 41 = .ok (.aload_n 0, 1) := by decide +kernel
theorem dX4_init_42 : decode cX4_init 42 = .ok (.aload_n 2, 1) := by decide +kernel
theorem dX4_init_43 : decode cX4_init 43 = .ok (.getfield 42, 3) := by decide +kernel
theorem dX4_init_46 : decode cX4_init 46 = .ok (.putfield 45, 3) := by decide +kernel
theorem dX4_init_49 : decode cX4_init 49 = .ok (.aload_n 0, 1) := by decide +kernel
theorem dX4_init_50 : decode cX4_init 50 = .ok (.iload_n 3, 1) := by decide +kernel
theorem dX4_init_51 : decode cX4_init 51 = .ok (.putfield 48, 3) := by decide +kernel
theorem dX4_init_54 : decode cX4_init 54 = .ok (.aload_n 0, 1) := by decide +kernel
theorem dX4_init_55 : decode cX4_init 55 = .ok (.iload 4, 2) := by decide +kernel
theorem dX4_init_57 : decode cX4_init 57 = .ok (.putfield 51, 3) := by decide +kernel
theorem dX4_init_60 : decode cX4_init 60 = .ok (.aload_n 0, 1) := by decide +kernel
theorem dX4_init_61 : decode cX4_init 61 = .ok (.iload 5, 2) := by decide +kernel
theorem dX4_init_63 : decode cX4_init 63 = .ok (.putfield 54, 3) := by decide +kernel
theorem dX4_init_66 : decode cX4_init 66 = .ok (.return_, 1) := by decide +kernel
theorem dX4_colourAt_0 : decode cX4_colourAt 0 = .ok (.iload_n 1, 1) := by decide +kernel
theorem dX4_colourAt_1 : decode cX4_colourAt 1 = .ok (.ifCond .ne 22, 3) := by decide +kernel
theorem dX4_colourAt_4 : decode cX4_colourAt 4 = .ok (.aload_n 0, 1) := by decide +kernel
theorem dX4_colourAt_5 : decode cX4_colourAt 5 = .ok (.getfield 24, 3) := by decide +kernel
theorem dX4_colourAt_8 : decode cX4_colourAt 8 = .ok (.iload_n 2, 1) := by decide +kernel
theorem dX4_colourAt_9 : decode cX4_colourAt 9 = .ok (.aload_n 0, 1) := by decide +kernel
theorem dX4_colourAt_10 : decode cX4_colourAt 10 = .ok (.getfield 48, 3) := by decide +kernel
theorem dX4_colourAt_13 : decode cX4_colourAt 13 = .ok (.aload_n 0, 1) := by decide +kernel
theorem dX4_colourAt_14 : decode cX4_colourAt 14 = .ok (.getfield 51, 3) := by decide +kernel
theorem dX4_colourAt_17 : decode cX4_colourAt 17 = .ok (.invokevirtual 57, 3) := by decide +kernel
theorem dX4_colourAt_20 : decode cX4_colourAt 20 = .ok (.goto 15, 3) := by decide +kernel
theorem dX4_colourAt_23 : decode cX4_colourAt 23 = .ok (.aload_n 0, 1) := by decide +kernel
theorem dX4_colourAt_24 : decode cX4_colourAt 24 = .ok (.getfield 24, 3) := by decide +kernel
theorem dX4_colourAt_27 : decode cX4_colourAt 27 = .ok (.iload_n 2, 1) := by decide +kernel
theorem dX4_colourAt_28 : decode cX4_colourAt 28 = .ok (.aload_n 0, 1) := by decide +kernel
theorem dX4_colourAt_29 : decode cX4_colourAt 29 = .ok (.getfield 54, 3) := by decide +kernel
theorem dX4_colourAt_32 : decode cX4_colourAt 32 = .ok (.invokevirtual 63, 3) := by decide +kernel
theorem dX4_colourAt_35 : decode cX4_colourAt 35 = .ok (.ireturn, 1) := by decide +kernel
theorem dX4_distance_0 : decode cX4_distance 0 = .ok (.aload_n 0, 1) := by decide +kernel
theorem dX4_distance_1 : decode cX4_distance 1 = .ok (.getfield 24, 3) := by decide +kernel
theorem dX4_distance_4 : decode cX4_distance 4 = .ok (.aload_n 0, 1) := by decide +kernel
theorem dX4_distance_5 : decode cX4_distance 5 = .ok (.getfield 45, 3) := by decide +kernel
theorem dX4_distance_8 : decode cX4_distance 8 = .ok (.aload_n 0, 1) := by decide +kernel
theorem dX4_distance_9 : decode cX4_distance 9 = .ok (.getfield 48, 3) := by decide +kernel
theorem dX4_distance_12 : decode cX4_distance 12 = .ok (.aload_n 0, 1) := by decide +kernel
theorem dX4_distance_13 : decode cX4_distance 13 = .ok (.getfield 51, 3) := by decide +kernel
theorem dX4_distance_16 : decode cX4_distance 16 = .ok (.aload_n 0, 1) := by decide +kernel
theorem dX4_distance_17 : decode cX4_distance 17 = .ok (.getfield 54, 3) := by decide +kernel
theorem dX4_distance_20 : decode cX4_distance 20 = .ok (.invokevirtual 67, 3) := by decide +kernel
theorem dX4_distance_23 : decode cX4_distance 23 = .ok (.ireturn, 1) := by decide +kernel
theorem dX4_isOff_0 : decode cX4_isOff 0 = .ok (.aload_n 0, 1) := by decide +kernel
theorem dX4_isOff_1 : decode cX4_isOff 1 = .ok (.invokevirtual 71, 3) := by decide +kernel
theorem dX4_isOff_4 : decode cX4_isOff 4 = .ok (.aload_n 0, 1) := by decide +kernel
theorem dX4_isOff_5 : decode cX4_isOff 5 = .ok (.getfield 24, 3) := by decide +kernel
theorem dX4_isOff_8 : decode cX4_isOff 8 = .ok (.getfield 75, 3) := by decide +kernel
theorem dX4_isOff_11 : decode cX4_isOff 11 = .ok (.if_icmp .le 7, 3) := by decide +kernel
theorem dX4_isOff_14 : decode cX4_isOff 14 = .ok (.iconst 1, 1) := by decide +kernel
theorem dX4_isOff_15 : decode cX4_isOff 15 = .ok (.goto 4, 3) := by decide +kernel
theorem dX4_isOff_18 : decode cX4_isOff 18 = .ok (.iconst 0, 1) := by decide +kernel
theorem dX4_isOff_19 : decode cX4_isOff 19 = .ok (.ireturn, 1) := by decide +kernel
theorem dX4_toBlame_0 : decode cX4_toBlame 0 = .ok (.aload_n 0, 1) := by decide +kernel
theorem dX4_toBlame_1 : decode cX4_toBlame 1 = .ok (.getfield 24, 3) := by decide +kernel
theorem dX4_toBlame_4 : decode cX4_toBlame 4 = .ok (.bipush 100, 2) := by decide +kernel
theorem dX4_toBlame_6 : decode cX4_toBlame 6 = .ok (.aload_n 0, 1) := by decide +kernel
theorem dX4_toBlame_7 : decode cX4_toBlame 7 = .ok (.getfield 48, 3) := by decide +kernel
theorem dX4_toBlame_10 : decode cX4_toBlame 10 = .ok (.aload_n 0, 1) := by decide +kernel
theorem dX4_toBlame_11 : decode cX4_toBlame 11 = .ok (.getfield 51, 3) := by decide +kernel
theorem dX4_toBlame_14 : decode cX4_toBlame 14 = .ok (.aload_n 0, 1) := by decide +kernel
theorem dX4_toBlame_15 : decode cX4_toBlame 15 = .ok (.getfield 54, 3) := by decide +kernel
theorem dX4_toBlame_18 : decode cX4_toBlame 18 = .ok (.invokevirtual 67, 3) := by decide +kernel
theorem dX4_toBlame_21 : decode cX4_toBlame 21 = .ok (.istore_n 1, 1) := by decide +kernel
theorem dX4_toBlame_22 : decode cX4_toBlame 22 = .ok (.aload_n 0, 1) := by decide +kernel
theorem dX4_toBlame_23 : decode cX4_toBlame 23 = .ok (.getfield 24, 3) := by decide +kernel
theorem dX4_toBlame_26 : decode cX4_toBlame 26 = .ok (.aload_n 0, 1) := by decide +kernel
theorem dX4_toBlame_27 : decode cX4_toBlame 27 = .ok (.getfield 45, 3) := by decide +kernel
theorem dX4_toBlame_30 : decode cX4_toBlame 30 = .ok (.iconst 0, 1) := by decide +kernel
theorem dX4_toBlame_31 : decode cX4_toBlame 31 = .ok (.aload_n 0, 1) := by decide +kernel
theorem dX4_toBlame_32 : decode cX4_toBlame 32 = .ok (.getfield 51, 3) := by decide +kernel
theorem dX4_toBlame_35 : decode cX4_toBlame 35 = .ok (.aload_n 0, 1) := by decide +kernel
theorem dX4_toBlame_36 : decode cX4_toBlame 36 = .ok (.getfield 54, 3) := by decide +kernel
theorem dX4_toBlame_39 : decode cX4_toBlame 39 = .ok (.invokevirtual 67, 3) := by decide +kernel
theorem dX4_toBlame_42 : decode cX4_toBlame 42 = .ok (.istore_n 2, 1) := by decide +kernel
theorem dX4_toBlame_43 : decode cX4_toBlame 43 = .ok (.aload_n 0, 1) := by decide +kernel
theorem dX4_toBlame_44 : decode cX4_toBlame 44 = .ok (.getfield 24, 3) := by decide +kernel
theorem dX4_toBlame_47 : decode cX4_toBlame 47 = .ok (.aload_n 0, 1) := by decide +kernel
theorem dX4_toBlame_48 : decode cX4_toBlame 48 = .ok (.getfield 45, 3) := by decide +kernel
theorem dX4_toBlame_51 : decode cX4_toBlame 51 = .ok (.aload_n 0, 1) := by decide +kernel
theorem dX4_toBlame_52 : decode cX4_toBlame 52 = .ok (.getfield 48, 3) := by decide +kernel
theorem dX4_toBlame_55 : decode cX4_toBlame 55 = .ok (.iconst 0, 1) := by decide +kernel
theorem dX4_toBlame_56 : decode cX4_toBlame 56 = .ok (.iconst 0, 1) := by decide +kernel
theorem dX4_toBlame_57 : decode cX4_toBlame 57 = .ok (.invokevirtual 67, 3) := by decide +kernel
theorem dX4_toBlame_60 : decode cX4_toBlame 60 = .ok (.istore_n 3, 1) := by decide +kernel
theorem dX4_toBlame_61 : decode cX4_toBlame 61 = .ok (.iload_n 1, 1) := by decide +kernel
theorem dX4_toBlame_62 : decode cX4_toBlame 62 = .ok (.iload_n 2, 1) := by decide +kernel
theorem dX4_toBlame_63 : decode cX4_toBlame 63 = .ok (.if_icmp .gt 10, 3) := by decide +kernel
theorem dX4_toBlame_66 : decode cX4_toBlame 66 = .ok (.iload_n 1, 1) := by decide +kernel
theorem dX4_toBlame_67 : decode cX4_toBlame 67 = .ok (.iload_n 3, 1) := by decide +kernel
theorem dX4_toBlame_68 : decode cX4_toBlame 68 = .ok (.if_icmp .gt 5, 3) := by decide +kernel
theorem dX4_toBlame_71 : decode cX4_toBlame 71 = .ok (.iconst 0, 1) := by decide +kernel
theorem dX4_toBlame_72 : decode cX4_toBlame 72 = .ok (.ireturn, 1) := by decide +kernel
theorem dX4_toBlame_73 : decode cX4_toBlame 73 = .ok (.iload_n 2, 1) := by decide +kernel
theorem dX4_toBlame_74 : decode cX4_toBlame 74 = .ok (.iload_n 3, 1) := by decide +kernel
theorem dX4_toBlame_75 : decode cX4_toBlame 75 = .ok (.if_icmp .gt 7, 3) := by decide +kernel
theorem dX4_toBlame_78 : decode cX4_toBlame 78 = .ok (.iconst 1, 1) := by decide +kernel
theorem dX4_toBlame_79 : decode cX4_toBlame 79 = .ok (.goto 4, 3) := by decide +kernel
theorem dX4_toBlame_82 : decode cX4_toBlame 82 = .ok (.iconst 2, 1) := by decide +kernel
theorem dX4_toBlame_83 : decode cX4_toBlame 83 = .ok (.ireturn, 1) := by decide +kernel
theorem dX5_init_0 : decode cX5_init 0 = .ok (.aload_n 0, 1) := by decide +kernel
theorem dX5_init_1 : decode cX5_init 1 = .ok (.invokespecial 1, 3) := by decide +kernel
theorem dX5_init_4 : decode cX5_init 4 = .ok (.aload_n 0, 1) := by decide +kernel
theorem dX5_init_5 : decode cX5_init 5 = .ok (.new 7, 3) := by decide +kernel
theorem dX5_init_8 : decode cX5_init 8 = .ok (.dup, 1) := by decide +kernel
theorem dX5_init_9 : decode cX5_init 9 = .ok (.invokespecial 9, 3) := by decide +kernel
theorem dX5_init_12 : decode cX5_init 12 = .ok (.putfield 10, 3) := by decide +kernel
theorem dX5_init_15 : decode cX5_init 15 = .ok (.aload_n 0, 1) := by decide +kernel
theorem dX5_init_16 : decode cX5_init 16 = .ok (.new 7, 3) := by decide +kernel
theorem dX5_init_19 : decode cX5_init 19 = .ok (.dup, 1) := by decide +kernel
theorem dX5_init_20 : decode cX5_init 20 = .ok (.invokespecial 9, 3) := by decide +kernel
theorem dX5_init_23 : decode cX5_init 23 = .ok (.putfield 16, 3) := by decide +kernel
theorem dX5_init_26 : decode cX5_init 26 = .ok (.aload_n 0, 1) := by decide +kernel
theorem dX5_init_27 : decode cX5_init 27 = .ok (.new 7, 3) := by decide +kernel
theorem dX5_init_30 : decode cX5_init 30 = .ok (.dup, 1) := by decide +kernel
theorem dX5_init_31 : decode cX5_init 31 = .ok (.invokespecial 9, 3) := by decide +kernel
theorem dX5_init_34 : decode cX5_init 34 = .ok (.putfield 19, 3) := by decide +kernel
theorem dX5_init_37 : decode cX5_init 37 = .ok (.aload_n 0, 1) := by decide +kernel
theorem dX5_init_38 : decode cX5_init 38 = .ok (.iconst 3, 1) := by decide +kernel
theorem dX5_init_39 : decode cX5_init 39 = .ok (.newarray .int, 2) := by decide +kernel
theorem dX5_init_41 : decode cX5_init 41 = .ok (.putfield 22, 3) := by decide +kernel
theorem dX5_init_44 : decode cX5_init 44 = .ok (.aload_n 0, 1) := by decide +kernel
theorem dX5_init_45 : decode cX5_init 45 = .ok (.iconst 4, 1) := by decide +kernel
theorem dX5_init_46 : decode cX5_init 46 = .ok (.newarray .int, 2) := by decide +kernel
theorem dX5_init_48 : decode cX5_init 48 = .ok (.putfield 26, 3) := by decide +kernel
theorem dX5_init_51 : decode cX5_init 51 = .ok (.aload_n 0, 1) := by decide +kernel
theorem dX5_init_52 : decode cX5_init 52 = .ok (.iconst 4, 1) := by decide +kernel
theorem dX5_init_53 : decode cX5_init 53 = .ok (.newarray .int, 2) := by decide +kernel
theorem dX5_init_55 : decode cX5_init 55 = .ok (.putfield 29, 3) := by decide +kernel
theorem dX5_init_58 : decode cX5_init 58 = .ok (.aload_n 0, 1) := by decide +kernel
theorem dX5_init_59 : decode cX5_init 59 = .ok (.iconst 3, 1) := by decide +kernel
theorem dX5_init_60 : decode cX5_init 60 = .ok (.iconst 3, 1) := by decide +kernel
theorem dX5_init_61 : decode cX5_init 61 = .ok (.multianewarray 32 2, 4) := by decide +kernel
theorem dX5_init_65 : decode cX5_init 65 = .ok (.putfield 34, 3) := by decide +kernel
theorem dX5_init_68 : decode cX5_init 68 = .ok (.aload_n 0, 1) := by decide +kernel
theorem dX5_init_69 : decode cX5_init 69 = .ok (.iconst 3, 1) := by decide +kernel
theorem dX5_init_70 : decode cX5_init 70 = .ok (.anewarray 37, 3) := by decide +kernel
theorem dX5_init_73 : decode cX5_init 73 = .ok (.putfield 39, 3) := by decide +kernel
theorem dX5_init_76 : decode cX5_init 76 = .ok (.iconst 0, 1) := by decide +kernel
theorem dX5_init_77 : decode cX5_init 77 = .ok (.istore_n 1, 1) := by decide +kernel
theorem dX5_init_78 : decode cX5_init 78 = .ok (.iload_n 1, 1) := by decide +kernel
theorem dX5_init_79 : decode cX5_init 79 = .ok (.iconst 3, 1) := by decide +kernel
theorem dX5_init_80 : decode cX5_init 80 = .ok (.if_icmp .ge 22, 3) := by decide +kernel
theorem dX5_init_83 : decode cX5_init 83 = .ok (.aload_n 0, 1) := by decide +kernel
theorem dX5_init_84 : decode cX5_init 84 = .ok (.getfield 39, 3) := by decide +kernel
theorem dX5_init_87 : decode cX5_init 87 = .ok (.iload_n 1, 1) := by decide +kernel
theorem dX5_init_88 : decode cX5_init 88 = .ok (.new 37, 3) := by decide +kernel
theorem dX5_init_91 : decode cX5_init 91 = .ok (.dup, 1) := by decide +kernel
theorem dX5_init_92 : decode cX5_init 92 = .ok (.invokespecial 43, 3) := by decide +kernel
theorem dX5_init_95 : decode cX5_init 95 = .ok (.aastore, 1) := by decide +kernel
theorem dX5_init_96 : decode cX5_init 96 = .ok (.iinc 1 1, 3) := by decide +kernel
theorem dX5_init_99 : decode cX5_init 99 = .ok (.goto (-21), 3) := by decide +kernel
theorem dX5_init_102 : decode cX5_init 102 = .ok (.return_, 1) := by decide +kernel
theorem dX5_entry_0 : decode cX5_entry 0 = .ok (.iload_n 1, 1) := by decide +kernel
theorem dX5_entry_1 : decode cX5_entry 1 = .ok (.iconst 0, 1) := by decide +kernel
theorem dX5_entry_2 : decode cX5_entry 2 = .ok (.bipush 60, 2) := by decide +kernel
theorem dX5_entry_4 : decode cX5_entry 4 = .ok (.invokestatic 44, 3) := by decide +kernel
theorem dX5_entry_7 : decode cX5_entry 7 = .ok (.iload_n 2, 1) := by decide +kernel
theorem dX5_entry_8 : decode cX5_entry 8 = .ok (.iconst 0, 1) := by decide +kernel
theorem dX5_entry_9 : decode cX5_entry 9 = .ok (.bipush 60, 2) := by decide +kernel
theorem dX5_entry_11 : decode cX5_entry 11 = .ok (.invokestatic 44, 3) := by decide +kernel
theorem dX5_entry_14 : decode cX5_entry 14 = .ok (.iload_n 3, 1) := by decide +kernel
theorem dX5_entry_15 : decode cX5_entry 15 = .ok (.iconst 0, 1) := by decide +kernel
theorem dX5_entry_16 : decode cX5_entry 16 = .ok (.bipush 20, 2) := by decide +kernel
theorem dX5_entry_18 : decode cX5_entry 18 = .ok (.invokestatic 44, 3) := by decide +kernel
theorem dX5_entry_21 : decode cX5_entry 21 = .ok (.aload_n 0, 1) := by decide +kernel
theorem dX5_entry_22 : decode cX5_entry 22 = .ok (.getfield 10, 3) := by decide +kernel
theorem dX5_entry_25 : decode cX5_entry 25 = .ok (.invokevirtual 48, 3) := by decide +kernel
theorem dX5_entry_28 : decode cX5_entry 28 = .ok (.istore 4, 2) := by decide +kernel
theorem dX5_entry_30 : decode cX5_entry 30 = .ok (.iload 4, 2) := by decide +kernel
theorem dX5_entry_32 : decode cX5_entry 32 = .ok (.bipush 12, 2) := by decide +kernel
theorem dX5_entry_34 : decode cX5_entry 34 = .ok (.invokestatic 52, 3) := by decide +kernel
theorem dX5_entry_37 : decode cX5_entry 37 = .ok (.aload_n 0, 1) := by decide +kernel
theorem dX5_entry_38 : decode cX5_entry 38 = .ok (.getfield 10, 3) := by decide +kernel
theorem dX5_entry_41 : decode cX5_entry 41 = .ok (.new 56, 3) := by decide +kernel
theorem dX5_entry_44 : decode cX5_entry 44 = .ok (.dup, 1) := by decide +kernel
theorem dX5_entry_45 : decode cX5_entry 45 = .ok (.iload 4, 2) := by decide +kernel
theorem dX5_entry_47 : decode cX5_entry 47 = .ok (.iload_n 1, 1) := by decide +kernel
theorem dX5_entry_48 : decode cX5_entry 48 = .ok (.iload_n 2, 1) := by decide +kernel
theorem dX5_entry_49 : decode cX5_entry 49 = .ok (.iload_n 3, 1) := by decide +kernel
theorem dX5_entry_50 : decode cX5_entry 50 = .ok (.invokespecial 58, 3) := by decide +kernel
theorem dX5_entry_53 : decode cX5_entry 53 = .ok (.invokevirtual 61, 3) := by decide +kernel
theorem dX5_entry_56 : decode cX5_entry 56 = .ok (.pop, 1) := by decide +kernel
theorem dX5_entry_57 : decode cX5_entry 57 = .ok (.iload 4, 2) := by decide +kernel
theorem dX5_entry_59 : decode cX5_entry 59 = .ok (.ireturn, 1) := by decide +kernel
theorem dX5_water_0 : decode cX5_water 0 = .ok (.iload_n 1, 1) := by decide +kernel
theorem dX5_water_1 : decode cX5_water 1 = .ok (.iconst 3, 1) := by decide +kernel
theorem dX5_water_2 : decode cX5_water 2 = .ok (.invokestatic 65, 3) := by decide +kernel
theorem dX5_water_5 : decode cX5_water 5 = .ok (.iload_n 2, 1) := by decide +kernel
theorem dX5_water_6 : decode cX5_water 6 = .ok (.bipush (-10), 2) := by decide +kernel
theorem dX5_water_8 : decode cX5_water 8 = .ok (.bipush 10, 2) := by decide +kernel
theorem dX5_water_10 : decode cX5_water 10 = .ok (.invokestatic 44, 3) := by decide +kernel
theorem dX5_water_13 : decode cX5_water 13 = .ok (.aload_n 0, 1) := by decide +kernel
theorem dX5_water_14 : decode cX5_water 14 = .ok (.getfield 22, 3) := by decide +kernel
theorem dX5_water_17 : decode cX5_water 17 = .ok (.iload_n 1, 1) := by decide +kernel
theorem dX5_water_18 : decode cX5_water 18 = .ok (.iaload, 1) := by decide +kernel
theorem dX5_water_19 : decode cX5_water 19 = .ok (.istore_n 3, 1) := by decide +kernel
theorem dX5_water_20 : decode cX5_water 20 = .ok (.aload_n 0, 1) := by decide +kernel
theorem dX5_water_21 : decode cX5_water 21 = .ok (.getfield 22, 3) := by decide +kernel
theorem dX5_water_24 : decode cX5_water 24 = .ok (.iload_n 1, 1) := by decide +kernel
theorem dX5_water_25 : decode cX5_water 25 = .ok (.iload_n 2, 1) := by decide +kernel
theorem dX5_water_26 : decode cX5_water 26 = .ok (.iastore, 1) := by decide +kernel
theorem dX5_water_27 : decode cX5_water 27 = .ok (.iload_n 3, 1) := by decide +kernel
theorem dX5_water_28 : decode cX5_water 28 = .ok (.ireturn, 1) := by decide +kernel
theorem dX5_yarn_0 : decode cX5_yarn 0 = .ok (.iload_n 1, 1) := by decide +kernel
theorem dX5_yarn_1 : decode cX5_yarn 1 = .ok (.iconst 4, 1) := by decide +kernel
theorem dX5_yarn_2 : decode cX5_yarn 2 = .ok (.invokestatic 65, 3) := by decide +kernel
theorem dX5_yarn_5 : decode cX5_yarn 5 = .ok (.iload_n 2, 1) := by decide +kernel
theorem dX5_yarn_6 : decode cX5_yarn 6 = .ok (.bipush (-10), 2) := by decide +kernel
theorem dX5_yarn_8 : decode cX5_yarn 8 = .ok (.bipush 10, 2) := by decide +kernel
theorem dX5_yarn_10 : decode cX5_yarn 10 = .ok (.invokestatic 44, 3) := by decide +kernel
theorem dX5_yarn_13 : decode cX5_yarn 13 = .ok (.iload_n 3, 1) := by decide +kernel
theorem dX5_yarn_14 : decode cX5_yarn 14 = .ok (.bipush (-10), 2) := by decide +kernel
theorem dX5_yarn_16 : decode cX5_yarn 16 = .ok (.bipush 10, 2) := by decide +kernel
theorem dX5_yarn_18 : decode cX5_yarn 18 = .ok (.invokestatic 44, 3) := by decide +kernel
theorem dX5_yarn_21 : decode cX5_yarn 21 = .ok (.aload_n 0, 1) := by decide +kernel
theorem dX5_yarn_22 : decode cX5_yarn 22 = .ok (.getfield 26, 3) := by decide +kernel
theorem dX5_yarn_25 : decode cX5_yarn 25 = .ok (.iload_n 1, 1) := by decide +kernel
theorem dX5_yarn_26 : decode cX5_yarn 26 = .ok (.iaload, 1) := by decide +kernel
theorem dX5_yarn_27 : decode cX5_yarn 27 = .ok (.istore 4, 2) := by decide +kernel
theorem dX5_yarn_29 : decode cX5_yarn 29 = .ok (.aload_n 0, 1) := by decide +kernel
theorem dX5_yarn_30 : decode cX5_yarn 30 = .ok (.getfield 26, 3) := by decide +kernel
theorem dX5_yarn_33 : decode cX5_yarn 33 = .ok (.iload_n 1, 1) := by decide +kernel
theorem dX5_yarn_34 : decode cX5_yarn 34 = .ok (.iload_n 2, 1) := by decide +kernel
theorem dX5_yarn_35 : decode cX5_yarn 35 = .ok (.iastore, 1) := by decide +kernel
theorem dX5_yarn_36 : decode cX5_yarn 36 = .ok (.aload_n 0, 1) := by decide +kernel
theorem dX5_yarn_37 : decode cX5_yarn 37 = .ok (.getfield 29, 3) := by decide +kernel
theorem dX5_yarn_40 : decode cX5_yarn 40 = .ok (.iload_n 1, 1) := by decide +kernel
theorem dX5_yarn_41 : decode cX5_yarn 41 = .ok (.iload_n 3, 1) := by decide +kernel
theorem dX5_yarn_42 : decode cX5_yarn 42 = .ok (.iastore, 1) := by decide +kernel
theorem dX5_yarn_43 : decode cX5_yarn 43 = .ok (.iload 4, 2) := by decide +kernel
theorem dX5_yarn_45 : decode cX5_yarn 45 = .ok (.ireturn, 1) := by decide +kernel
theorem dX5_apart_0 : decode cX5_apart 0 = .ok (.aload_n 0, 1) := by decide +kernel
theorem dX5_apart_1 : decode cX5_apart 1 = .ok (.iload_n 1, 1) := by decide +kernel
theorem dX5_apart_2 : decode cX5_apart 2 = .ok (.invokevirtual 68, 3) := by decide +kernel
theorem dX5_apart_5 : decode cX5_apart 5 = .ok (.astore_n 3, 1) := by decide +kernel
theorem dX5_apart_6 : decode cX5_apart 6 = .ok (.aload_n 0, 1) := by decide +kernel
theorem dX5_apart_7 : decode cX5_apart 7 = .ok (.iload_n 2, 1) := by decide +kernel
theorem dX5_apart_8 : decode cX5_apart 8 = .ok (.invokevirtual 68, 3) := by decide +kernel
theorem dX5_apart_11 : decode cX5_apart 11 = .ok (.astore 4, 2) := by decide +kernel
theorem dX5_apart_13 : decode cX5_apart 13 = .ok (.aload_n 3, 1) := by decide +kernel
theorem dX5_apart_14 : decode cX5_apart 14 = .ok (.aload 4, 2) := by decide +kernel
theorem dX5_apart_16 : decode cX5_apart 16 = .ok (.getfield 72, 3) := by decide +kernel
theorem dX5_apart_19 : decode cX5_apart 19 = .ok (.aload 4, 2) := by decide +kernel
theorem dX5_apart_21 : decode cX5_apart 21 = .ok (.getfield 76, 3) := by decide +kernel
theorem dX5_apart_24 : decode cX5_apart 24 = .ok (.invokevirtual 79, 3) := by decide +kernel
theorem dX5_apart_27 : decode cX5_apart 27 = .ok (.ireturn, 1) := by decide +kernel
theorem dX5_bath_0 : decode cX5_bath 0 = .ok (.iload_n 1, 1) := by decide +kernel
theorem dX5_bath_1 : decode cX5_bath 1 = .ok (.iconst 3, 1) := by decide +kernel
theorem dX5_bath_2 : decode cX5_bath 2 = .ok (.invokestatic 65, 3) := by decide +kernel
theorem dX5_bath_5 : decode cX5_bath 5 = .ok (.aload_n 0, 1) := by decide +kernel
theorem dX5_bath_6 : decode cX5_bath 6 = .ok (.iload_n 2, 1) := by decide +kernel
theorem dX5_bath_7 : decode cX5_bath 7 = .ok (.invokevirtual 68, 3) := by decide +kernel
theorem dX5_bath_10 : decode cX5_bath 10 = .ok (.astore_n 3, 1) := by decide +kernel
theorem dX5_bath_11 : decode cX5_bath 11 = .ok (.aload_n 0, 1) := by decide +kernel
theorem dX5_bath_12 : decode cX5_bath 12 = .ok (.getfield 16, 3) := by decide +kernel
theorem dX5_bath_15 : decode cX5_bath 15 = .ok (.invokevirtual 48, 3) := by decide +kernel
theorem dX5_bath_18 : decode cX5_bath 18 = .ok (.istore 4, 2) := by decide +kernel
theorem dX5_bath_20 : decode cX5_bath 20 = .ok (.iload 4, 2) := by decide +kernel
theorem dX5_bath_22 : decode cX5_bath 22 = .ok (.bipush 10, 2) := by decide +kernel
theorem dX5_bath_24 : decode cX5_bath 24 = .ok (.invokestatic 52, 3) := by decide +kernel
theorem dX5_bath_27 : decode cX5_bath 27 = .ok (.aload_n 0, 1) := by decide +kernel
theorem dX5_bath_28 : decode cX5_bath 28 = .ok (.getfield 16, 3) := by decide +kernel
theorem dX5_bath_31 : decode cX5_bath 31 = .ok (.new 83, 3) := by decide +kernel
theorem dX5_bath_34 : decode cX5_bath 34 = .ok (.dup, 1) := by decide +kernel
theorem dX5_bath_35 : decode cX5_bath 35 = .ok (.iload_n 1, 1) := by decide +kernel
theorem dX5_bath_36 : decode cX5_bath 36 = .ok (.aload_n 3, 1) := by decide +kernel
theorem dX5_bath_37 : decode cX5_bath 37 = .ok (.invokespecial 85, 3) := by decide +kernel
theorem dX5_bath_40 : decode cX5_bath 40 = .ok (.invokevirtual 61, 3) := by decide +kernel
theorem dX5_bath_43 : decode cX5_bath 43 = .ok (.pop, 1) := by decide +kernel
theorem dX5_bath_44 : decode cX5_bath 44 = .ok (.iload 4, 2) := by decide +kernel
theorem dX5_bath_46 : decode cX5_bath 46 = .ok (.ireturn, 1) := by decide +kernel
theorem dX5_freshen_0 : decode cX5_freshen 0 = .ok (.aload_n 0, 1) := by decide +kernel
theorem dX5_freshen_1 : decode cX5_freshen 1 = .ok (.iload_n 1, 1) := by decide +kernel
theorem dX5_freshen_2 : decode cX5_freshen 2 = .ok (.invokevirtual 88, 3) := by decide +kernel
theorem dX5_freshen_5 : decode cX5_freshen 5 = .ok (.invokevirtual 92, 3) := by decide +kernel
theorem dX5_freshen_8 : decode cX5_freshen 8 = .ok (.ireturn, 1) := by decide +kernel
theorem dX5_strength_0 : decode cX5_strength 0 = .ok (.aload_n 0, 1) := by decide +kernel
theorem dX5_strength_1 : decode cX5_strength 1 = .ok (.iload_n 1, 1) := by decide +kernel
theorem dX5_strength_2 : decode cX5_strength 2 = .ok (.invokevirtual 88, 3) := by decide +kernel
theorem dX5_strength_5 : decode cX5_strength 5 = .ok (.getfield 95, 3) := by decide +kernel
theorem dX5_strength_8 : decode cX5_strength 8 = .ok (.ireturn, 1) := by decide +kernel
theorem dX5_order_0 : decode cX5_order 0 = .ok (.aload_n 0, 1) := by decide +kernel
theorem dX5_order_1 : decode cX5_order 1 = .ok (.iload_n 1, 1) := by decide +kernel
theorem dX5_order_2 : decode cX5_order 2 = .ok (.invokevirtual 68, 3) := by decide +kernel
theorem dX5_order_5 : decode cX5_order 5 = .ok (.astore 4, 2) := by decide +kernel
theorem dX5_order_7 : decode cX5_order 7 = .ok (.iload_n 3, 1) := by decide +kernel
theorem dX5_order_8 : decode cX5_order 8 = .ok (.iconst 4, 1) := by decide +kernel
theorem dX5_order_9 : decode cX5_order 9 = .ok (.invokestatic 65, 3) := by decide +kernel
theorem dX5_order_12 : decode cX5_order 12 = .ok (.iload_n 2, 1) := by decide +kernel
theorem dX5_order_13 : decode cX5_order 13 = .ok (.iconst 1, 1) := by decide +kernel
theorem dX5_order_14 : decode cX5_order 14 = .ok (.bipush 40, 2) := by decide +kernel
theorem dX5_order_16 : decode cX5_order 16 = .ok (.invokestatic 44, 3) := by decide +kernel
theorem dX5_order_19 : decode cX5_order 19 = .ok (.aload_n 0, 1) := by decide +kernel
theorem dX5_order_20 : decode cX5_order 20 = .ok (.getfield 19, 3) := by decide +kernel
theorem dX5_order_23 : decode cX5_order 23 = .ok (.invokevirtual 48, 3) := by decide +kernel
theorem dX5_order_26 : decode cX5_order 26 = .ok (.istore 5, 2) := by decide +kernel
theorem dX5_order_28 : decode cX5_order 28 = .ok (.iload 5, 2) := by decide +kernel
theorem dX5_order_30 : decode cX5_order 30 = .ok (.bipush 40, 2) := by decide +kernel
theorem dX5_order_32 : decode cX5_order 32 = .ok (.invokestatic 52, 3) := by decide +kernel
theorem dX5_order_35 : decode cX5_order 35 = .ok (.aload_n 0, 1) := by decide +kernel
theorem dX5_order_36 : decode cX5_order 36 = .ok (.getfield 19, 3) := by decide +kernel
theorem dX5_order_39 : decode cX5_order 39 = .ok (.new 98, 3) := by decide +kernel
theorem dX5_order_42 : decode cX5_order 42 = .ok (.dup, 1) := by decide +kernel
theorem dX5_order_43 : decode cX5_order 43 = .ok (.iload 5, 2) := by decide +kernel
theorem dX5_order_45 : decode cX5_order 45 = .ok (.aload 4, 2) := by decide +kernel
theorem dX5_order_47 : decode cX5_order 47 = .ok (.iload_n 2, 1) := by decide +kernel
theorem dX5_order_48 : decode cX5_order 48 = .ok (.iload_n 3, 1) := by decide +kernel
theorem dX5_order_49 : decode cX5_order 49 = .ok (.invokespecial 100, 3) := by decide +kernel
theorem dX5_order_52 : decode cX5_order 52 = .ok (.invokevirtual 61, 3) := by decide +kernel
theorem dX5_order_55 : decode cX5_order 55 = .ok (.pop, 1) := by decide +kernel
theorem dX5_order_56 : decode cX5_order 56 = .ok (.iload 5, 2) := by decide +kernel
theorem dX5_order_58 : decode cX5_order 58 = .ok (.ireturn, 1) := by decide +kernel
theorem dX5_place_0 : decode cX5_place 0 = .ok (.aload_n 0, 1) := by decide +kernel
theorem dX5_place_1 : decode cX5_place 1 = .ok (.iload_n 1, 1) := by decide +kernel
theorem dX5_place_2 : decode cX5_place 2 = .ok (.invokevirtual 103, 3) := by decide +kernel
theorem dX5_place_5 : decode cX5_place 5 = .ok (.astore_n 2, 1) := by decide +kernel
theorem dX5_place_6 : decode cX5_place 6 = .ok (.aload_n 2, 1) := by decide +kernel
theorem dX5_place_7 : decode cX5_place 7 = .ok (.invokestatic 107, 3) := by decide +kernel
theorem dX5_place_10 : decode cX5_place 10 = .ok (.aload_n 0, 1) := by decide +kernel
theorem dX5_place_11 : decode cX5_place 11 = .ok (.aload_n 2, 1) := by decide +kernel
theorem dX5_place_12 : decode cX5_place 12 = .ok (.invokevirtual 111, 3) := by decide +kernel
theorem dX5_place_15 : decode cX5_place 15 = .ok (.istore_n 3, 1) := by decide +kernel
theorem dX5_place_16 : decode cX5_place 16 = .ok (.iload_n 3, 1) := by decide +kernel
theorem dX5_place_17 : decode cX5_place 17 = .ok (.iconst (-1), 1) := by decide +kernel
theorem dX5_place_18 : decode cX5_place 18 = .ok (.if_icmp .ne 13, 3) := by decide +kernel
theorem dX5_place_21 : decode cX5_place 21 = .ok (.new 115, 3) := by decide +kernel
theorem dX5_place_24 : decode cX5_place 24 = .ok (.dup, 1) := by decide +kernel
theorem dX5_place_25 : decode cX5_place 25 = .ok (.ldc 117, 2) := by decide +kernel
theorem dX5_place_27 : decode cX5_place 27 = .ok (.invokespecial 119, 3) := by decide +kernel
theorem dX5_place_30 : decode cX5_place 30 = .ok (.athrow, 1) := by decide +kernel
theorem dX5_place_31 : decode cX5_place 31 = .ok (.aload_n 0, 1) := by decide +kernel
theorem dX5_place_32 : decode cX5_place 32 = .ok (.aload_n 2, 1) := by decide +kernel
theorem dX5_place_33 : decode cX5_place 33 = .ok (.aload_n 0, 1) := by decide +kernel
theorem dX5_place_34 : decode cX5_place 34 = .ok (.iload_n 3, 1) := by decide +kernel
theorem dX5_place_35 : decode cX5_place 35 = .ok (.invokevirtual 88, 3) := by decide +kernel
theorem dX5_place_38 : decode cX5_place 38 = .ok (.invokevirtual 122, 3) := by decide +kernel
theorem dX5_place_41 : decode cX5_place 41 = .ok (.pop, 1) := by decide +kernel
theorem dX5_place_42 : decode cX5_place 42 = .ok (.iload_n 3, 1) := by decide +kernel
theorem dX5_place_43 : decode cX5_place 43 = .ok (.ireturn, 1) := by decide +kernel
theorem dX5_dye_0 : decode cX5_dye 0 = .ok (.aload_n 0, 1) := by decide +kernel
theorem dX5_dye_1 : decode cX5_dye 1 = .ok (.iload_n 1, 1) := by decide +kernel
theorem dX5_dye_2 : decode cX5_dye 2 = .ok (.invokevirtual 103, 3) := by decide +kernel
theorem dX5_dye_5 : decode cX5_dye 5 = .ok (.astore_n 3, 1) := by decide +kernel
theorem dX5_dye_6 : decode cX5_dye 6 = .ok (.aload_n 0, 1) := by decide +kernel
theorem dX5_dye_7 : decode cX5_dye 7 = .ok (.iload_n 2, 1) := by decide +kernel
theorem dX5_dye_8 : decode cX5_dye 8 = .ok (.invokevirtual 88, 3) := by decide +kernel
theorem dX5_dye_11 : decode cX5_dye 11 = .ok (.astore 4, 2) := by decide +kernel
theorem dX5_dye_13 : decode cX5_dye 13 = .ok (.aload 4, 2) := by decide +kernel
theorem dX5_dye_15 : decode cX5_dye 15 = .ok (.aload_n 3, 1) := by decide +kernel
theorem dX5_dye_16 : decode cX5_dye 16 = .ok (.getfield 126, 3) := by decide +kernel
theorem dX5_dye_19 : decode cX5_dye 19 = .ok (.invokevirtual 130, 3) := by decide +kernel
theorem dX5_dye_22 : decode cX5_dye 22 = .ok (.ifCond .ne 13, 3) := by decide +kernel
theorem dX5_dye_25 : decode cX5_dye 25 = .ok (.new 134, 3) := by decide +kernel
theorem dX5_dye_28 : decode cX5_dye 28 = .ok (.dup, 1) := by decide +kernel
theorem dX5_dye_29 : decode cX5_dye 29 = .ok (.ldc 136, 2) := by decide +kernel
theorem dX5_dye_31 : decode cX5_dye 31 = .ok (.invokespecial 138, 3) := by decide +kernel
theorem dX5_dye_34 : decode cX5_dye 34 = .ok (.athrow, 1) := by decide +kernel
theorem dX5_dye_35 : decode cX5_dye 35 = .ok (.aload_n 3, 1) := by decide +kernel
theorem dX5_dye_36 : decode cX5_dye 36 = .ok (.invokestatic 107, 3) := by decide +kernel
theorem dX5_dye_39 : decode cX5_dye 39 = .ok (.aload_n 0, 1) := by decide +kernel
theorem dX5_dye_40 : decode cX5_dye 40 = .ok (.aload_n 3, 1) := by decide +kernel
theorem dX5_dye_41 : decode cX5_dye 41 = .ok (.aload 4, 2) := by decide +kernel
theorem dX5_dye_43 : decode cX5_dye 43 = .ok (.invokevirtual 122, 3) := by decide +kernel
theorem dX5_dye_46 : decode cX5_dye 46 = .ok (.invokevirtual 139, 3) := by decide +kernel
theorem dX5_dye_49 : decode cX5_dye 49 = .ok (.ireturn, 1) := by decide +kernel
theorem dX5_claim_0 : decode cX5_claim 0 = .ok (.aload_n 0, 1) := by decide +kernel
theorem dX5_claim_1 : decode cX5_claim 1 = .ok (.iload_n 1, 1) := by decide +kernel
theorem dX5_claim_2 : decode cX5_claim 2 = .ok (.invokevirtual 103, 3) := by decide +kernel
theorem dX5_claim_5 : decode cX5_claim 5 = .ok (.astore_n 2, 1) := by decide +kernel
theorem dX5_claim_6 : decode cX5_claim 6 = .ok (.aload_n 2, 1) := by decide +kernel
theorem dX5_claim_7 : decode cX5_claim 7 = .ok (.invokestatic 144, 3) := by decide +kernel
theorem dX5_claim_10 : decode cX5_claim 10 = .ok (.astore_n 3, 1) := by decide +kernel
theorem dX5_claim_11 : decode cX5_claim 11 = .ok (.aload_n 2, 1) := by decide +kernel
theorem dX5_claim_12 : decode cX5_claim 12 = .ok (.getfield 148, 3) := by decide +kernel
theorem dX5_claim_15 : decode cX5_claim 15 = .ok (.ifCond .ne 10, 3) := by decide +kernel
theorem dX5_claim_18 : decode cX5_claim 18 = .ok (.aload_n 3, 1) := by decide +kernel
theorem dX5_claim_19 : decode cX5_claim 19 = .ok (.invokevirtual 152, 3) := by decide +kernel
theorem dX5_claim_22 : decode cX5_claim 22 = .ok (.ifCond .ne 13, 3) := by decide +kernel
theorem dX5_claim_25 : decode cX5_claim 25 = .ok (.new 156, 3) := by decide +kernel
theorem dX5_claim_28 : decode cX5_claim 28 = .ok (.dup, 1) := by decide +kernel
theorem dX5_claim_29 : decode cX5_claim 29 = .ok (.ldc 158, 2) := by decide +kernel
theorem dX5_claim_31 : decode cX5_claim 31 = .ok (.invokespecial 160, 3) := by decide +kernel
theorem dX5_claim_34 : decode cX5_claim 34 = .ok (.athrow, 1) := by decide +kernel
theorem dX5_claim_35 : decode cX5_claim 35 = .ok (.aload_n 3, 1) := by decide +kernel
theorem dX5_claim_36 : decode cX5_claim 36 = .ok (.invokevirtual 161, 3) := by decide +kernel
theorem dX5_claim_39 : decode cX5_claim 39 = .ok (.istore 4, 2) := by decide +kernel
theorem dX5_claim_41 : decode cX5_claim 41 = .ok (.aload_n 2, 1) := by decide +kernel
theorem dX5_claim_42 : decode cX5_claim 42 = .ok (.iconst 1, 1) := by decide +kernel
theorem dX5_claim_43 : decode cX5_claim 43 = .ok (.putfield 148, 3) := by decide +kernel
theorem dX5_claim_46 : decode cX5_claim 46 = .ok (.aload_n 0, 1) := by decide +kernel
theorem dX5_claim_47 : decode cX5_claim 47 = .ok (.getfield 34, 3) := by decide +kernel
theorem dX5_claim_50 : decode cX5_claim 50 = .ok (.aload_n 3, 1) := by decide +kernel
theorem dX5_claim_51 : decode cX5_claim 51 = .ok (.getfield 164, 3) := by decide +kernel
theorem dX5_claim_54 : decode cX5_claim 54 = .ok (.getfield 168, 3) := by decide +kernel
theorem dX5_claim_57 : decode cX5_claim 57 = .ok (.aaload, 1) := by decide +kernel
theorem dX5_claim_58 : decode cX5_claim 58 = .ok (.iload 4, 2) := by decide +kernel
theorem dX5_claim_60 : decode cX5_claim 60 = .ok (.dup2, 1) := by decide +kernel
theorem dX5_claim_61 : decode cX5_claim 61 = .ok (.iaload, 1) := by decide +kernel
theorem dX5_claim_62 : decode cX5_claim 62 = .ok (.iconst 1, 1) := by decide +kernel
theorem dX5_claim_63 : decode cX5_claim 63 = .ok (.iadd, 1) := by decide +kernel
theorem dX5_claim_64 : decode cX5_claim 64 = .ok (.iastore, 1) := by decide +kernel
theorem dX5_claim_65 : decode cX5_claim 65 = .ok (.iload 4, 2) := by decide +kernel
theorem dX5_claim_67 : decode cX5_claim 67 = .ok (.ireturn, 1) := by decide +kernel
theorem dX5_stateOf_0 : decode cX5_stateOf 0 = .ok (.aload_n 0, 1) := by decide +kernel
theorem dX5_stateOf_1 : decode cX5_stateOf 1 = .ok (.iload_n 1, 1) := by decide +kernel
theorem dX5_stateOf_2 : decode cX5_stateOf 2 = .ok (.invokevirtual 103, 3) := by decide +kernel
theorem dX5_stateOf_5 : decode cX5_stateOf 5 = .ok (.astore_n 2, 1) := by decide +kernel
theorem dX5_stateOf_6 : decode cX5_stateOf 6 = .ok (.aload_n 2, 1) := by decide +kernel
theorem dX5_stateOf_7 : decode cX5_stateOf 7 = .ok (.getfield 171, 3) := by decide +kernel
theorem dX5_stateOf_10 : decode cX5_stateOf 10 = .ok (.ifnonnull 5, 3) := by decide +kernel
theorem dX5_stateOf_13 : decode cX5_stateOf 13 = .ok (.iconst 0, 1) := by decide +kernel
theorem dX5_stateOf_14 : decode cX5_stateOf 14 = .ok (.ireturn, 1) := by decide +kernel
theorem dX5_stateOf_15 : decode cX5_stateOf 15 = .ok (.aload_n 2, 1) := by decide +kernel
theorem dX5_stateOf_16 : decode cX5_stateOf 16 = .ok (.getfield 148, 3) := by decide +kernel
theorem dX5_stateOf_19 : decode cX5_stateOf 19 = .ok (.ifCond .eq 7, 3) := by decide +kernel
theorem dX5_stateOf_22 : decode cX5_stateOf 22 = .ok (.iconst 2, 1) := by decide +kernel
theorem dX5_stateOf_23 : decode cX5_stateOf 23 = .ok (.goto 4, 3) := by decide +kernel
theorem dX5_stateOf_26 : decode cX5_stateOf 26 = .ok (.iconst 1, 1) := by decide +kernel
theorem dX5_stateOf_27 : decode cX5_stateOf 27 = .ok (.ireturn, 1) := by decide +kernel
theorem dX5_colour_0 : decode cX5_colour 0 = .ok (.aload_n 0, 1) := by decide +kernel
theorem dX5_colour_1 : decode cX5_colour 1 = .ok (.iload_n 1, 1) := by decide +kernel
theorem dX5_colour_2 : decode cX5_colour 2 = .ok (.invokevirtual 103, 3) := by decide +kernel
theorem dX5_colour_5 : decode cX5_colour 5 = .ok (.astore_n 3, 1) := by decide +kernel
theorem dX5_colour_6 : decode cX5_colour 6 = .ok (.iload_n 2, 1) := by decide +kernel
theorem dX5_colour_7 : decode cX5_colour 7 = .ok (.iconst 2, 1) := by decide +kernel
theorem dX5_colour_8 : decode cX5_colour 8 = .ok (.invokestatic 65, 3) := by decide +kernel
theorem dX5_colour_11 : decode cX5_colour 11 = .ok (.aload_n 3, 1) := by decide +kernel
theorem dX5_colour_12 : decode cX5_colour 12 = .ok (.invokestatic 144, 3) := by decide +kernel
theorem dX5_colour_15 : decode cX5_colour 15 = .ok (.astore 4, 2) := by decide +kernel
theorem dX5_colour_17 : decode cX5_colour 17 = .ok (.aload 4, 2) := by decide +kernel
theorem dX5_colour_19 : decode cX5_colour 19 = .ok (.iload_n 2, 1) := by decide +kernel
theorem dX5_colour_20 : decode cX5_colour 20 = .ok (.aload 4, 2) := by decide +kernel
theorem dX5_colour_22 : decode cX5_colour 22 = .ok (.getfield 175, 3) := by decide +kernel
theorem dX5_colour_25 : decode cX5_colour 25 = .ok (.invokevirtual 178, 3) := by decide +kernel
theorem dX5_colour_28 : decode cX5_colour 28 = .ok (.ireturn, 1) := by decide +kernel
theorem dX5_colourByBath_0 : decode cX5_colourByBath 0 = .ok (.aload_n 0, 1) := by decide +kernel
theorem dX5_colourByBath_1 : decode cX5_colourByBath 1 = .ok (.iload_n 1, 1) := by decide +kernel
theorem dX5_colourByBath_2 : decode cX5_colourByBath 2 = .ok (.invokevirtual 103, 3) := by decide +kernel
theorem dX5_colourByBath_5 : decode cX5_colourByBath 5 = .ok (.astore_n 3, 1) := by decide +kernel
theorem dX5_colourByBath_6 : decode cX5_colourByBath 6 = .ok (.iload_n 2, 1) := by decide +kernel
theorem dX5_colourByBath_7 : decode cX5_colourByBath 7 = .ok (.iconst 2, 1) := by decide +kernel
theorem dX5_colourByBath_8 : decode cX5_colourByBath 8 = .ok (.invokestatic 65, 3) := by decide +kernel
theorem dX5_colourByBath_11 : decode cX5_colourByBath 11 = .ok (.aload_n 3, 1) := by decide +kernel
theorem dX5_colourByBath_12 : decode cX5_colourByBath 12 = .ok (.invokestatic 144, 3) := by decide +kernel
theorem dX5_colourByBath_15 : decode cX5_colourByBath 15 = .ok (.astore 4, 2) := by decide +kernel
theorem dX5_colourByBath_17 : decode cX5_colourByBath 17 = .ok (.aload 4, 2) := by decide +kernel
theorem dX5_colourByBath_19 : decode cX5_colourByBath 19 = .ok (.iload_n 2, 1) := by decide +kernel
theorem dX5_colourByBath_20 : decode cX5_colourByBath 20 = .ok (.aload 4, 2) := by decide +kernel
theorem dX5_colourByBath_22 : decode cX5_colourByBath 22 = .ok (.getfield 164, 3) := by decide +kernel
theorem dX5_colourByBath_25 : decode cX5_colourByBath 25 = .ok (.iload_n 1, 1) := by decide +kernel
theorem dX5_colourByBath_26 : decode cX5_colourByBath 26 = .ok (.invokevirtual 181, 3) := by decide +kernel
theorem dX5_colourByBath_29 : decode cX5_colourByBath 29 = .ok (.invokevirtual 178, 3) := by decide +kernel
theorem dX5_colourByBath_32 : decode cX5_colourByBath 32 = .ok (.ireturn, 1) := by decide +kernel
theorem dX5_blamed_0 : decode cX5_blamed 0 = .ok (.iload_n 1, 1) := by decide +kernel
theorem dX5_blamed_1 : decode cX5_blamed 1 = .ok (.iconst 3, 1) := by decide +kernel
theorem dX5_blamed_2 : decode cX5_blamed 2 = .ok (.invokestatic 65, 3) := by decide +kernel
theorem dX5_blamed_5 : decode cX5_blamed 5 = .ok (.iload_n 2, 1) := by decide +kernel
theorem dX5_blamed_6 : decode cX5_blamed 6 = .ok (.iconst 0, 1) := by decide +kernel
theorem dX5_blamed_7 : decode cX5_blamed 7 = .ok (.iconst 2, 1) := by decide +kernel
theorem dX5_blamed_8 : decode cX5_blamed 8 = .ok (.invokestatic 44, 3) := by decide +kernel
theorem dX5_blamed_11 : decode cX5_blamed 11 = .ok (.aload_n 0, 1) := by decide +kernel
theorem dX5_blamed_12 : decode cX5_blamed 12 = .ok (.getfield 34, 3) := by decide +kernel
theorem dX5_blamed_15 : decode cX5_blamed 15 = .ok (.iload_n 1, 1) := by decide +kernel
theorem dX5_blamed_16 : decode cX5_blamed 16 = .ok (.aaload, 1) := by decide +kernel
theorem dX5_blamed_17 : decode cX5_blamed 17 = .ok (.iload_n 2, 1) := by decide +kernel
theorem dX5_blamed_18 : decode cX5_blamed 18 = .ok (.iaload, 1) := by decide +kernel
theorem dX5_blamed_19 : decode cX5_blamed 19 = .ok (.ireturn, 1) := by decide +kernel
theorem dX5_shrinks_0 : decode cX5_shrinks 0 = .ok (.iload_n 1, 1) := by decide +kernel
theorem dX5_shrinks_1 : decode cX5_shrinks 1 = .ok (.iconst 3, 1) := by decide +kernel
theorem dX5_shrinks_2 : decode cX5_shrinks 2 = .ok (.invokestatic 65, 3) := by decide +kernel
theorem dX5_shrinks_5 : decode cX5_shrinks 5 = .ok (.iload_n 2, 1) := by decide +kernel
theorem dX5_shrinks_6 : decode cX5_shrinks 6 = .ok (.iconst 0, 1) := by decide +kernel
theorem dX5_shrinks_7 : decode cX5_shrinks 7 = .ok (.bipush 90, 2) := by decide +kernel
theorem dX5_shrinks_9 : decode cX5_shrinks 9 = .ok (.invokestatic 44, 3) := by decide +kernel
theorem dX5_shrinks_12 : decode cX5_shrinks 12 = .ok (.aload_n 0, 1) := by decide +kernel
theorem dX5_shrinks_13 : decode cX5_shrinks 13 = .ok (.getfield 39, 3) := by decide +kernel
theorem dX5_shrinks_16 : decode cX5_shrinks 16 = .ok (.iload_n 1, 1) := by decide +kernel
theorem dX5_shrinks_17 : decode cX5_shrinks 17 = .ok (.aaload, 1) := by decide +kernel
theorem dX5_shrinks_18 : decode cX5_shrinks 18 = .ok (.getfield 185, 3) := by decide +kernel
theorem dX5_shrinks_21 : decode cX5_shrinks 21 = .ok (.istore_n 3, 1) := by decide +kernel
theorem dX5_shrinks_22 : decode cX5_shrinks 22 = .ok (.aload_n 0, 1) := by decide +kernel
theorem dX5_shrinks_23 : decode cX5_shrinks 23 = .ok (.getfield 39, 3) := by decide +kernel
theorem dX5_shrinks_26 : decode cX5_shrinks 26 = .ok (.iload_n 1, 1) := by decide +kernel
theorem dX5_shrinks_27 : decode cX5_shrinks 27 = .ok (.aaload, 1) := by decide +kernel
theorem dX5_shrinks_28 : decode cX5_shrinks 28 = .ok (.iload_n 2, 1) := by decide +kernel
theorem dX5_shrinks_29 : decode cX5_shrinks 29 = .ok (.putfield 185, 3) := by decide +kernel
theorem dX5_shrinks_32 : decode cX5_shrinks 32 = .ok (.iload_n 3, 1) := by decide +kernel
theorem dX5_shrinks_33 : decode cX5_shrinks 33 = .ok (.ireturn, 1) := by decide +kernel
theorem dX5_give_0 : decode cX5_give 0 = .ok (.iload_n 1, 1) := by decide +kernel
theorem dX5_give_1 : decode cX5_give 1 = .ok (.iconst 5, 1) := by decide +kernel
theorem dX5_give_2 : decode cX5_give 2 = .ok (.invokestatic 65, 3) := by decide +kernel
theorem dX5_give_5 : decode cX5_give 5 = .ok (.iload_n 2, 1) := by decide +kernel
theorem dX5_give_6 : decode cX5_give 6 = .ok (.iconst 5, 1) := by decide +kernel
theorem dX5_give_7 : decode cX5_give 7 = .ok (.invokestatic 65, 3) := by decide +kernel
theorem dX5_give_10 : decode cX5_give 10 = .ok (.iload_n 3, 1) := by decide +kernel
theorem dX5_give_11 : decode cX5_give 11 = .ok (.iconst 3, 1) := by decide +kernel
theorem dX5_give_12 : decode cX5_give 12 = .ok (.invokestatic 65, 3) := by decide +kernel
theorem dX5_give_15 : decode cX5_give 15 = .ok (.iload_n 1, 1) := by decide +kernel
theorem dX5_give_16 : decode cX5_give 16 = .ok (.iload_n 2, 1) := by decide +kernel
theorem dX5_give_17 : decode cX5_give 17 = .ok (.if_icmp .ne 13, 3) := by decide +kernel
theorem dX5_give_20 : decode cX5_give 20 = .ok (.new 134, 3) := by decide +kernel
theorem dX5_give_23 : decode cX5_give 23 = .ok (.dup, 1) := by decide +kernel
theorem dX5_give_24 : decode cX5_give 24 = .ok (.ldc 188, 2) := by decide +kernel
theorem dX5_give_26 : decode cX5_give 26 = .ok (.invokespecial 138, 3) := by decide +kernel
theorem dX5_give_29 : decode cX5_give 29 = .ok (.athrow, 1) := by decide +kernel
theorem dX5_give_30 : decode cX5_give 30 = .ok (.iload 4, 2) := by decide +kernel
theorem dX5_give_32 : decode cX5_give 32 = .ok (.iconst 1, 1) := by decide +kernel
theorem dX5_give_33 : decode cX5_give 33 = .ok (.sipush 1000, 3) := by decide +kernel
theorem dX5_give_36 : decode cX5_give 36 = .ok (.invokestatic 44, 3) := by decide +kernel
theorem dX5_give_39 : decode cX5_give 39 = .ok (.aload_n 0, 1) := by decide +kernel
theorem dX5_give_40 : decode cX5_give 40 = .ok (.getfield 39, 3) := by decide +kernel
theorem dX5_give_43 : decode cX5_give 43 = .ok (.iload_n 3, 1) := by decide +kernel
theorem dX5_give_44 : decode cX5_give 44 = .ok (.aaload, 1) := by decide +kernel
theorem dX5_give_45 : decode cX5_give 45 = .ok (.astore 5, 2) := by decide +kernel
theorem dX5_give_47 : decode cX5_give 47 = .ok (.aload 5, 2) := by decide +kernel
theorem dX5_give_49 : decode cX5_give 49 = .ok (.getfield 190, 3) := by decide +kernel
theorem dX5_give_52 : decode cX5_give 52 = .ok (.iload_n 2, 1) := by decide +kernel
theorem dX5_give_53 : decode cX5_give 53 = .ok (.aaload, 1) := by decide +kernel
theorem dX5_give_54 : decode cX5_give 54 = .ok (.iload_n 1, 1) := by decide +kernel
theorem dX5_give_55 : decode cX5_give 55 = .ok (.iaload, 1) := by decide +kernel
theorem dX5_give_56 : decode cX5_give 56 = .ok (.aload 5, 2) := by decide +kernel
theorem dX5_give_58 : decode cX5_give 58 = .ok (.iload 4, 2) := by decide +kernel
theorem dX5_give_60 : decode cX5_give 60 = .ok (.invokevirtual 193, 3) := by decide +kernel
theorem dX5_give_63 : decode cX5_give 63 = .ok (.iadd, 1) := by decide +kernel
theorem dX5_give_64 : decode cX5_give 64 = .ok (.istore 6, 2) := by decide +kernel
theorem dX5_give_66 : decode cX5_give 66 = .ok (.iload 6, 2) := by decide +kernel
theorem dX5_give_68 : decode cX5_give 68 = .ok (.ldc 196, 2) := by decide +kernel
theorem dX5_give_70 : decode cX5_give 70 = .ok (.if_icmp .le 13, 3) := by decide +kernel
theorem dX5_give_73 : decode cX5_give 73 = .ok (.new 156, 3) := by decide +kernel
theorem dX5_give_76 : decode cX5_give 76 = .ok (.dup, 1) := by decide +kernel
theorem dX5_give_77 : decode cX5_give 77 = .ok (.ldc 197, 2) := by decide +kernel
theorem dX5_give_79 : decode cX5_give 79 = .ok (.invokespecial 160, 3) := by decide +kernel
theorem dX5_give_82 : decode cX5_give 82 = .ok (.athrow, 1) := by decide +kernel
theorem dX5_give_83 : decode cX5_give 83 = .ok (.aload 5, 2) := by decide +kernel
theorem dX5_give_85 : decode cX5_give 85 = .ok (.getfield 190, 3) := by decide +kernel
theorem dX5_give_88 : decode cX5_give 88 = .ok (.iload_n 2, 1) := by decide +kernel
theorem dX5_give_89 : decode cX5_give 89 = .ok (.aaload, 1) := by decide +kernel
theorem dX5_give_90 : decode cX5_give 90 = .ok (.iload_n 1, 1) := by decide +kernel
theorem dX5_give_91 : decode cX5_give 91 = .ok (.iload 6, 2) := by decide +kernel
theorem dX5_give_93 : decode cX5_give 93 = .ok (.iastore, 1) := by decide +kernel
theorem dX5_give_94 : decode cX5_give 94 = .ok (.iload 6, 2) := by decide +kernel
theorem dX5_give_96 : decode cX5_give 96 = .ok (.ireturn, 1) := by decide +kernel
theorem dX5_owes_0 : decode cX5_owes 0 = .ok (.iload_n 1, 1) := by decide +kernel
theorem dX5_owes_1 : decode cX5_owes 1 = .ok (.iconst 5, 1) := by decide +kernel
theorem dX5_owes_2 : decode cX5_owes 2 = .ok (.invokestatic 65, 3) := by decide +kernel
theorem dX5_owes_5 : decode cX5_owes 5 = .ok (.iload_n 2, 1) := by decide +kernel
theorem dX5_owes_6 : decode cX5_owes 6 = .ok (.iconst 5, 1) := by decide +kernel
theorem dX5_owes_7 : decode cX5_owes 7 = .ok (.invokestatic 65, 3) := by decide +kernel
theorem dX5_owes_10 : decode cX5_owes 10 = .ok (.iload_n 3, 1) := by decide +kernel
theorem dX5_owes_11 : decode cX5_owes 11 = .ok (.iconst 3, 1) := by decide +kernel
theorem dX5_owes_12 : decode cX5_owes 12 = .ok (.invokestatic 65, 3) := by decide +kernel
theorem dX5_owes_15 : decode cX5_owes 15 = .ok (.aload_n 0, 1) := by decide +kernel
theorem dX5_owes_16 : decode cX5_owes 16 = .ok (.getfield 39, 3) := by decide +kernel
theorem dX5_owes_19 : decode cX5_owes 19 = .ok (.iload_n 3, 1) := by decide +kernel
theorem dX5_owes_20 : decode cX5_owes 20 = .ok (.aaload, 1) := by decide +kernel
theorem dX5_owes_21 : decode cX5_owes 21 = .ok (.getfield 190, 3) := by decide +kernel
theorem dX5_owes_24 : decode cX5_owes 24 = .ok (.iload_n 1, 1) := by decide +kernel
theorem dX5_owes_25 : decode cX5_owes 25 = .ok (.aaload, 1) := by decide +kernel
theorem dX5_owes_26 : decode cX5_owes 26 = .ok (.iload_n 2, 1) := by decide +kernel
theorem dX5_owes_27 : decode cX5_owes 27 = .ok (.iaload, 1) := by decide +kernel
theorem dX5_owes_28 : decode cX5_owes 28 = .ok (.ireturn, 1) := by decide +kernel
theorem dX5_position_0 : decode cX5_position 0 = .ok (.iload_n 1, 1) := by decide +kernel
theorem dX5_position_1 : decode cX5_position 1 = .ok (.iconst 5, 1) := by decide +kernel
theorem dX5_position_2 : decode cX5_position 2 = .ok (.invokestatic 65, 3) := by decide +kernel
theorem dX5_position_5 : decode cX5_position 5 = .ok (.iload_n 2, 1) := by decide +kernel
theorem dX5_position_6 : decode cX5_position 6 = .ok (.iconst 3, 1) := by decide +kernel
theorem dX5_position_7 : decode cX5_position 7 = .ok (.invokestatic 65, 3) := by decide +kernel
theorem dX5_position_10 : decode cX5_position 10 = .ok (.aload_n 0, 1) := by decide +kernel
theorem dX5_position_11 : decode cX5_position 11 = .ok (.getfield 39, 3) := by decide +kernel
theorem dX5_position_14 : decode cX5_position 14 = .ok (.iload_n 2, 1) := by decide +kernel
theorem dX5_position_15 : decode cX5_position 15 = .ok (.aaload, 1) := by decide +kernel
theorem dX5_position_16 : decode cX5_position 16 = .ok (.iload_n 1, 1) := by decide +kernel
theorem dX5_position_17 : decode cX5_position 17 = .ok (.invokevirtual 199, 3) := by decide +kernel
theorem dX5_position_20 : decode cX5_position 20 = .ok (.ireturn, 1) := by decide +kernel
theorem dX5_net_0 : decode cX5_net 0 = .ok (.iload_n 1, 1) := by decide +kernel
theorem dX5_net_1 : decode cX5_net 1 = .ok (.iconst 3, 1) := by decide +kernel
theorem dX5_net_2 : decode cX5_net 2 = .ok (.invokestatic 65, 3) := by decide +kernel
theorem dX5_net_5 : decode cX5_net 5 = .ok (.aload_n 0, 1) := by decide +kernel
theorem dX5_net_6 : decode cX5_net 6 = .ok (.getfield 39, 3) := by decide +kernel
theorem dX5_net_9 : decode cX5_net 9 = .ok (.iload_n 1, 1) := by decide +kernel
theorem dX5_net_10 : decode cX5_net 10 = .ok (.aaload, 1) := by decide +kernel
theorem dX5_net_11 : decode cX5_net 11 = .ok (.invokevirtual 202, 3) := by decide +kernel
theorem dX5_net_14 : decode cX5_net 14 = .ok (.ireturn, 1) := by decide +kernel
theorem dX5_requireIndex_0 : decode cX5_requireIndex 0 = .ok (.iload_n 0, 1) := by decide +kernel
theorem dX5_requireIndex_1 : decode cX5_requireIndex 1 = .ok (.ifCond .lt 8, 3) := by decide +kernel
theorem dX5_requireIndex_4 : decode cX5_requireIndex 4 = .ok (.iload_n 0, 1) := by decide +kernel
theorem dX5_requireIndex_5 : decode cX5_requireIndex 5 = .ok (.iload_n 1, 1) := by decide +kernel
theorem dX5_requireIndex_6 : decode cX5_requireIndex 6 = .ok (.if_icmp .lt 13, 3) := by decide +kernel
theorem dX5_requireIndex_9 : decode cX5_requireIndex 9 = .ok (.new 205, 3) := by decide +kernel
theorem dX5_requireIndex_12 : decode cX5_requireIndex 12 = .ok (.dup, 1) := by decide +kernel
theorem dX5_requireIndex_13 : decode cX5_requireIndex 13 = .ok (.ldc 207, 2) := by decide +kernel
theorem dX5_requireIndex_15 : decode cX5_requireIndex 15 = .ok (.invokespecial 209, 3) := by decide +kernel
theorem dX5_requireIndex_18 : decode cX5_requireIndex 18 = .ok (.athrow, 1) := by decide +kernel
theorem dX5_requireIndex_19 : decode cX5_requireIndex 19 = .ok (.return_, 1) := by decide +kernel
theorem dX5_requireRange_0 : decode cX5_requireRange 0 = .ok (.iload_n 0, 1) := by decide +kernel
theorem dX5_requireRange_1 : decode cX5_requireRange 1 = .ok (.iload_n 1, 1) := by decide +kernel
theorem dX5_requireRange_2 : decode cX5_requireRange 2 = .ok (.if_icmp .lt 8, 3) := by decide +kernel
theorem dX5_requireRange_5 : decode cX5_requireRange 5 = .ok (.iload_n 0, 1) := by decide +kernel
theorem dX5_requireRange_6 : decode cX5_requireRange 6 = .ok (.iload_n 2, 1) := by decide +kernel
theorem dX5_requireRange_7 : decode cX5_requireRange 7 = .ok (.if_icmp .le 13, 3) := by decide +kernel
theorem dX5_requireRange_10 : decode cX5_requireRange 10 = .ok (.new 134, 3) := by decide +kernel
theorem dX5_requireRange_13 : decode cX5_requireRange 13 = .ok (.dup, 1) := by decide +kernel
theorem dX5_requireRange_14 : decode cX5_requireRange 14 = .ok (.ldc 210, 2) := by decide +kernel
theorem dX5_requireRange_16 : decode cX5_requireRange 16 = .ok (.invokespecial 138, 3) := by decide +kernel
theorem dX5_requireRange_19 : decode cX5_requireRange 19 = .ok (.athrow, 1) := by decide +kernel
theorem dX5_requireRange_20 : decode cX5_requireRange 20 = .ok (.return_, 1) := by decide +kernel
theorem dX5_requireRoom_0 : decode cX5_requireRoom 0 = .ok (.iload_n 0, 1) := by decide +kernel
theorem dX5_requireRoom_1 : decode cX5_requireRoom 1 = .ok (.iload_n 1, 1) := by decide +kernel
theorem dX5_requireRoom_2 : decode cX5_requireRoom 2 = .ok (.if_icmp .lt 13, 3) := by decide +kernel
theorem dX5_requireRoom_5 : decode cX5_requireRoom 5 = .ok (.new 156, 3) := by decide +kernel
theorem dX5_requireRoom_8 : decode cX5_requireRoom 8 = .ok (.dup, 1) := by decide +kernel
theorem dX5_requireRoom_9 : decode cX5_requireRoom 9 = .ok (.ldc 212, 2) := by decide +kernel
theorem dX5_requireRoom_11 : decode cX5_requireRoom 11 = .ok (.invokespecial 160, 3) := by decide +kernel
theorem dX5_requireRoom_14 : decode cX5_requireRoom 14 = .ok (.athrow, 1) := by decide +kernel
theorem dX5_requireRoom_15 : decode cX5_requireRoom 15 = .ok (.return_, 1) := by decide +kernel
theorem dX5_requireWaiting_0 : decode cX5_requireWaiting 0 = .ok (.aload_n 0, 1) := by decide +kernel
theorem dX5_requireWaiting_1 : decode cX5_requireWaiting 1 = .ok (.getfield 171, 3) := by decide +kernel
theorem dX5_requireWaiting_4 : decode cX5_requireWaiting 4 = .ok (.ifnull 13, 3) := by decide +kernel
theorem dX5_requireWaiting_7 : decode cX5_requireWaiting 7 = .ok (.new 156, 3) := by decide +kernel
theorem dX5_requireWaiting_10 : decode cX5_requireWaiting 10 = .ok (.dup, 1) := by decide +kernel
theorem dX5_requireWaiting_11 : decode cX5_requireWaiting 11 = .ok (.ldc 214, 2) := by decide +kernel
theorem dX5_requireWaiting_13 : decode cX5_requireWaiting 13 = .ok (.invokespecial 160, 3) := by decide +kernel
theorem dX5_requireWaiting_16 : decode cX5_requireWaiting 16 = .ok (.athrow, 1) := by decide +kernel
theorem dX5_requireWaiting_17 : decode cX5_requireWaiting 17 = .ok (.return_, 1) := by decide +kernel
theorem dX5_pieceOf_0 : decode cX5_pieceOf 0 = .ok (.aload_n 0, 1) := by decide +kernel
theorem dX5_pieceOf_1 : decode cX5_pieceOf 1 = .ok (.getfield 171, 3) := by decide +kernel
theorem dX5_pieceOf_4 : decode cX5_pieceOf 4 = .ok (.astore_n 1, 1) := by decide +kernel
theorem dX5_pieceOf_5 : decode cX5_pieceOf 5 = .ok (.aload_n 1, 1) := by decide +kernel
theorem dX5_pieceOf_6 : decode cX5_pieceOf 6 = .ok (.ifnonnull 13, 3) := by decide +kernel
theorem dX5_pieceOf_9 : decode cX5_pieceOf 9 = .ok (.new 156, 3) := by decide +kernel
theorem dX5_pieceOf_12 : decode cX5_pieceOf 12 = .ok (.dup, 1) := by decide +kernel
theorem dX5_pieceOf_13 : decode cX5_pieceOf 13 = .ok (.ldc 216, 2) := by decide +kernel
theorem dX5_pieceOf_15 : decode cX5_pieceOf 15 = .ok (.invokespecial 160, 3) := by decide +kernel
theorem dX5_pieceOf_18 : decode cX5_pieceOf 18 = .ok (.athrow, 1) := by decide +kernel
theorem dX5_pieceOf_19 : decode cX5_pieceOf 19 = .ok (.aload_n 1, 1) := by decide +kernel
theorem dX5_pieceOf_20 : decode cX5_pieceOf 20 = .ok (.areturn, 1) := by decide +kernel
theorem dX5_findEntry_0 : decode cX5_findEntry 0 = .ok (.iload_n 1, 1) := by decide +kernel
theorem dX5_findEntry_1 : decode cX5_findEntry 1 = .ok (.aload_n 0, 1) := by decide +kernel
theorem dX5_findEntry_2 : decode cX5_findEntry 2 = .ok (.getfield 10, 3) := by decide +kernel
theorem dX5_findEntry_5 : decode cX5_findEntry 5 = .ok (.invokevirtual 48, 3) := by decide +kernel
theorem dX5_findEntry_8 : decode cX5_findEntry 8 = .ok (.invokestatic 65, 3) := by decide +kernel
theorem dX5_findEntry_11 : decode cX5_findEntry 11 = .ok (.aload_n 0, 1) := by decide +kernel
theorem dX5_findEntry_12 : decode cX5_findEntry 12 = .ok (.getfield 10, 3) := by decide +kernel
theorem dX5_findEntry_15 : decode cX5_findEntry 15 = .ok (.iload_n 1, 1) := by decide +kernel
theorem dX5_findEntry_16 : decode cX5_findEntry 16 = .ok (.invokevirtual 218, 3) := by decide +kernel
theorem dX5_findEntry_19 : decode cX5_findEntry 19 = .ok (.checkcast 56, 3) := by decide +kernel
theorem dX5_findEntry_22 : decode cX5_findEntry 22 = .ok (.areturn, 1) := by decide +kernel
theorem dX5_findBath_0 : decode cX5_findBath 0 = .ok (.iload_n 1, 1) := by decide +kernel
theorem dX5_findBath_1 : decode cX5_findBath 1 = .ok (.aload_n 0, 1) := by decide +kernel
theorem dX5_findBath_2 : decode cX5_findBath 2 = .ok (.getfield 16, 3) := by decide +kernel
theorem dX5_findBath_5 : decode cX5_findBath 5 = .ok (.invokevirtual 48, 3) := by decide +kernel
theorem dX5_findBath_8 : decode cX5_findBath 8 = .ok (.invokestatic 65, 3) := by decide +kernel
theorem dX5_findBath_11 : decode cX5_findBath 11 = .ok (.aload_n 0, 1) := by decide +kernel
theorem dX5_findBath_12 : decode cX5_findBath 12 = .ok (.getfield 16, 3) := by decide +kernel
theorem dX5_findBath_15 : decode cX5_findBath 15 = .ok (.iload_n 1, 1) := by decide +kernel
theorem dX5_findBath_16 : decode cX5_findBath 16 = .ok (.invokevirtual 218, 3) := by decide +kernel
theorem dX5_findBath_19 : decode cX5_findBath 19 = .ok (.checkcast 83, 3) := by decide +kernel
theorem dX5_findBath_22 : decode cX5_findBath 22 = .ok (.areturn, 1) := by decide +kernel
theorem dX5_findOrder_0 : decode cX5_findOrder 0 = .ok (.iload_n 1, 1) := by decide +kernel
theorem dX5_findOrder_1 : decode cX5_findOrder 1 = .ok (.aload_n 0, 1) := by decide +kernel
theorem dX5_findOrder_2 : decode cX5_findOrder 2 = .ok (.getfield 19, 3) := by decide +kernel
theorem dX5_findOrder_5 : decode cX5_findOrder 5 = .ok (.invokevirtual 48, 3) := by decide +kernel
theorem dX5_findOrder_8 : decode cX5_findOrder 8 = .ok (.invokestatic 65, 3) := by decide +kernel
theorem dX5_findOrder_11 : decode cX5_findOrder 11 = .ok (.aload_n 0, 1) := by decide +kernel
theorem dX5_findOrder_12 : decode cX5_findOrder 12 = .ok (.getfield 19, 3) := by decide +kernel
theorem dX5_findOrder_15 : decode cX5_findOrder 15 = .ok (.iload_n 1, 1) := by decide +kernel
theorem dX5_findOrder_16 : decode cX5_findOrder 16 = .ok (.invokevirtual 218, 3) := by decide +kernel
theorem dX5_findOrder_19 : decode cX5_findOrder 19 = .ok (.checkcast 98, 3) := by decide +kernel
theorem dX5_findOrder_22 : decode cX5_findOrder 22 = .ok (.areturn, 1) := by decide +kernel
theorem dX5_weakestRightBath_0 : decode cX5_weakestRightBath 0 = .ok (.iconst (-1), 1) := by decide +kernel
theorem dX5_weakestRightBath_1 : decode cX5_weakestRightBath 1 = .ok (.istore_n 2, 1) := by decide +kernel
theorem dX5_weakestRightBath_2 : decode cX5_weakestRightBath 2 = .ok (.bipush 101, 2) := by decide +kernel
theorem dX5_weakestRightBath_4 : decode cX5_weakestRightBath 4 = .ok (.istore_n 3, 1) := by decide +kernel
theorem dX5_weakestRightBath_5 : decode cX5_weakestRightBath 5 = .ok (.iconst 0, 1) := by decide +kernel
theorem dX5_weakestRightBath_6 : decode cX5_weakestRightBath 6 = .ok (.istore 4, 2) := by decide +kernel
theorem dX5_weakestRightBath_8 : decode cX5_weakestRightBath 8 = .ok (.iload 4, 2) := by decide +kernel
theorem dX5_weakestRightBath_10 : decode cX5_weakestRightBath 10 = .ok (.aload_n 0, 1) := by decide +kernel
theorem dX5_weakestRightBath_11 : decode cX5_weakestRightBath 11 = .ok (.getfield 16, 3) := by decide +kernel
theorem dX5_weakestRightBath_14 : decode cX5_weakestRightBath 14 = .ok (.invokevirtual 48, 3) := by decide +kernel
theorem dX5_weakestRightBath_17 : decode cX5_weakestRightBath 17 = .ok (.if_icmp .ge 51, 3) := by decide +kernel
theorem dX5_weakestRightBath_20 : decode cX5_weakestRightBath 20 = .ok (.aload_n 0, 1) := by decide +kernel
theorem dX5_weakestRightBath_21 : decode cX5_weakestRightBath 21 = .ok (.getfield 16, 3) := by decide +kernel
theorem dX5_weakestRightBath_24 : decode cX5_weakestRightBath 24 = .ok (.iload 4, 2) := by decide +kernel
theorem dX5_weakestRightBath_26 : decode cX5_weakestRightBath 26 = .ok (.invokevirtual 218, 3) := by decide +kernel
theorem dX5_weakestRightBath_29 : decode cX5_weakestRightBath 29 = .ok (.checkcast 83, 3) := by decide +kernel
theorem dX5_weakestRightBath_32 : decode cX5_weakestRightBath 32 = .ok (.astore 5, 2) := by decide +kernel
theorem dX5_weakestRightBath_34 : decode cX5_weakestRightBath 34 = .ok (.aload 5, 2) := by decide +kernel
theorem dX5_weakestRightBath_36 : decode cX5_weakestRightBath 36 = .ok (.getfield 95, 3) := by decide +kernel
theorem dX5_weakestRightBath_39 : decode cX5_weakestRightBath 39 = .ok (.iload_n 3, 1) := by decide +kernel
theorem dX5_weakestRightBath_40 : decode cX5_weakestRightBath 40 = .ok (.if_icmp .ge 22, 3) := by decide +kernel
theorem dX5_weakestRightBath_43 : decode cX5_weakestRightBath 43 = .ok (.aload_n 0, 1) := by decide +kernel
theorem dX5_weakestRightBath_44 : decode cX5_weakestRightBath 44 = .ok (.aload 5, 2) := by decide +kernel
theorem dX5_weakestRightBath_46 : decode cX5_weakestRightBath 46 = .ok (.aload_n 1, 1) := by decide +kernel
theorem dX5_weakestRightBath_47 : decode cX5_weakestRightBath 47 = .ok (.invokevirtual 222, 3) := by decide +kernel
theorem dX5_weakestRightBath_50 : decode cX5_weakestRightBath 50 = .ok (.ifCond .eq 12, 3) := by decide +kernel
theorem dX5_weakestRightBath_53 : decode cX5_weakestRightBath 53 = .ok (.iload 4, 2) := by decide +kernel
theorem dX5_weakestRightBath_55 : decode cX5_weakestRightBath 55 = .ok (.istore_n 2, 1) := by decide +kernel
theorem dX5_weakestRightBath_56 : decode cX5_weakestRightBath 56 = .ok (.aload 5, 2) := by decide +kernel
theorem dX5_weakestRightBath_58 : decode cX5_weakestRightBath 58 = .ok (.getfield 95, 3) := by decide +kernel
theorem dX5_weakestRightBath_61 : decode cX5_weakestRightBath 61 = .ok (.istore_n 3, 1) := by decide +kernel
theorem dX5_weakestRightBath_62 : decode cX5_weakestRightBath 62 = .ok (.iinc 4 1, 3) := by decide +kernel
theorem dX5_weakestRightBath_65 : decode cX5_weakestRightBath 65 = .ok (.goto (-57), 3) := by decide +kernel
theorem dX5_weakestRightBath_68 : decode cX5_weakestRightBath 68 = .ok (.iload_n 2, 1) := by decide +kernel
theorem dX5_weakestRightBath_69 : decode cX5_weakestRightBath 69 = .ok (.ireturn, 1) := by decide +kernel
theorem dX5_isRight_0 : decode cX5_isRight 0 = .ok (.aload_n 1, 1) := by decide +kernel
theorem dX5_isRight_1 : decode cX5_isRight 1 = .ok (.aload_n 2, 1) := by decide +kernel
theorem dX5_isRight_2 : decode cX5_isRight 2 = .ok (.getfield 126, 3) := by decide +kernel
theorem dX5_isRight_5 : decode cX5_isRight 5 = .ok (.invokevirtual 130, 3) := by decide +kernel
theorem dX5_isRight_8 : decode cX5_isRight 8 = .ok (.ifCond .ne 5, 3) := by decide +kernel
theorem dX5_isRight_11 : decode cX5_isRight 11 = .ok (.iconst 0, 1) := by decide +kernel
theorem dX5_isRight_12 : decode cX5_isRight 12 = .ok (.ireturn, 1) := by decide +kernel
theorem dX5_isRight_13 : decode cX5_isRight 13 = .ok (.aload_n 1, 1) := by decide +kernel
theorem dX5_isRight_14 : decode cX5_isRight 14 = .ok (.getfield 226, 3) := by decide +kernel
theorem dX5_isRight_17 : decode cX5_isRight 17 = .ok (.aload_n 1, 1) := by decide +kernel
theorem dX5_isRight_18 : decode cX5_isRight 18 = .ok (.getfield 95, 3) := by decide +kernel
theorem dX5_isRight_21 : decode cX5_isRight 21 = .ok (.aload_n 0, 1) := by decide +kernel
theorem dX5_isRight_22 : decode cX5_isRight 22 = .ok (.getfield 22, 3) := by decide +kernel
theorem dX5_isRight_25 : decode cX5_isRight 25 = .ok (.aload_n 1, 1) := by decide +kernel
theorem dX5_isRight_26 : decode cX5_isRight 26 = .ok (.getfield 168, 3) := by decide +kernel
theorem dX5_isRight_29 : decode cX5_isRight 29 = .ok (.iaload, 1) := by decide +kernel
theorem dX5_isRight_30 : decode cX5_isRight 30 = .ok (.aload_n 0, 1) := by decide +kernel
theorem dX5_isRight_31 : decode cX5_isRight 31 = .ok (.getfield 26, 3) := by decide +kernel
theorem dX5_isRight_34 : decode cX5_isRight 34 = .ok (.aload_n 2, 1) := by decide +kernel
theorem dX5_isRight_35 : decode cX5_isRight 35 = .ok (.getfield 227, 3) := by decide +kernel
theorem dX5_isRight_38 : decode cX5_isRight 38 = .ok (.iaload, 1) := by decide +kernel
theorem dX5_isRight_39 : decode cX5_isRight 39 = .ok (.aload_n 0, 1) := by decide +kernel
theorem dX5_isRight_40 : decode cX5_isRight 40 = .ok (.getfield 29, 3) := by decide +kernel
theorem dX5_isRight_43 : decode cX5_isRight 43 = .ok (.aload_n 2, 1) := by decide +kernel
theorem dX5_isRight_44 : decode cX5_isRight 44 = .ok (.getfield 227, 3) := by decide +kernel
theorem dX5_isRight_47 : decode cX5_isRight 47 = .ok (.iaload, 1) := by decide +kernel
theorem dX5_isRight_48 : decode cX5_isRight 48 = .ok (.invokevirtual 230, 3) := by decide +kernel
theorem dX5_isRight_51 : decode cX5_isRight 51 = .ok (.istore_n 3, 1) := by decide +kernel
theorem dX5_isRight_52 : decode cX5_isRight 52 = .ok (.iload_n 3, 1) := by decide +kernel
theorem dX5_isRight_53 : decode cX5_isRight 53 = .ok (.aload_n 1, 1) := by decide +kernel
theorem dX5_isRight_54 : decode cX5_isRight 54 = .ok (.getfield 226, 3) := by decide +kernel
theorem dX5_isRight_57 : decode cX5_isRight 57 = .ok (.getfield 234, 3) := by decide +kernel
theorem dX5_isRight_60 : decode cX5_isRight 60 = .ok (.if_icmp .gt 7, 3) := by decide +kernel
theorem dX5_isRight_63 : decode cX5_isRight 63 = .ok (.iconst 1, 1) := by decide +kernel
theorem dX5_isRight_64 : decode cX5_isRight 64 = .ok (.goto 4, 3) := by decide +kernel
theorem dX5_isRight_67 : decode cX5_isRight 67 = .ok (.iconst 0, 1) := by decide +kernel
theorem dX5_isRight_68 : decode cX5_isRight 68 = .ok (.ireturn, 1) := by decide +kernel
theorem dX5_dyeIn_0 : decode cX5_dyeIn 0 = .ok (.new 140, 3) := by decide +kernel
theorem dX5_dyeIn_3 : decode cX5_dyeIn 3 = .ok (.dup, 1) := by decide +kernel
theorem dX5_dyeIn_4 : decode cX5_dyeIn 4 = .ok (.aload_n 1, 1) := by decide +kernel
theorem dX5_dyeIn_5 : decode cX5_dyeIn 5 = .ok (.aload_n 2, 1) := by decide +kernel
theorem dX5_dyeIn_6 : decode cX5_dyeIn 6 = .ok (.aload_n 0, 1) := by decide +kernel
theorem dX5_dyeIn_7 : decode cX5_dyeIn 7 = .ok (.getfield 22, 3) := by decide +kernel
theorem dX5_dyeIn_10 : decode cX5_dyeIn 10 = .ok (.aload_n 2, 1) := by decide +kernel
theorem dX5_dyeIn_11 : decode cX5_dyeIn 11 = .ok (.getfield 168, 3) := by decide +kernel
theorem dX5_dyeIn_14 : decode cX5_dyeIn 14 = .ok (.iaload, 1) := by decide +kernel
theorem dX5_dyeIn_15 : decode cX5_dyeIn 15 = .ok (.aload_n 0, 1) := by decide +kernel
theorem dX5_dyeIn_16 : decode cX5_dyeIn 16 = .ok (.getfield 26, 3) := by decide +kernel
theorem dX5_dyeIn_19 : decode cX5_dyeIn 19 = .ok (.aload_n 1, 1) := by decide +kernel
theorem dX5_dyeIn_20 : decode cX5_dyeIn 20 = .ok (.getfield 227, 3) := by decide +kernel
theorem dX5_dyeIn_23 : decode cX5_dyeIn 23 = .ok (.iaload, 1) := by decide +kernel
theorem dX5_dyeIn_24 : decode cX5_dyeIn 24 = .ok (.aload_n 0, 1) := by decide +kernel
theorem dX5_dyeIn_25 : decode cX5_dyeIn 25 = .ok (.getfield 29, 3) := by decide +kernel
theorem dX5_dyeIn_28 : decode cX5_dyeIn 28 = .ok (.aload_n 1, 1) := by decide +kernel
theorem dX5_dyeIn_29 : decode cX5_dyeIn 29 = .ok (.getfield 227, 3) := by decide +kernel
theorem dX5_dyeIn_32 : decode cX5_dyeIn 32 = .ok (.iaload, 1) := by decide +kernel
theorem dX5_dyeIn_33 : decode cX5_dyeIn 33 = .ok (.invokespecial 237, 3) := by decide +kernel
theorem dX5_dyeIn_36 : decode cX5_dyeIn 36 = .ok (.astore_n 3, 1) := by decide +kernel
theorem dX5_dyeIn_37 : decode cX5_dyeIn 37 = .ok (.aload_n 1, 1) := by decide +kernel
theorem dX5_dyeIn_38 : decode cX5_dyeIn 38 = .ok (.aload_n 3, 1) := by decide +kernel
theorem dX5_dyeIn_39 : decode cX5_dyeIn 39 = .ok (.putfield 171, 3) := by decide +kernel
theorem dX5_dyeIn_42 : decode cX5_dyeIn 42 = .ok (.aload_n 2, 1) := by decide +kernel
theorem dX5_dyeIn_43 : decode cX5_dyeIn 43 = .ok (.aload_n 3, 1) := by decide +kernel
theorem dX5_dyeIn_44 : decode cX5_dyeIn 44 = .ok (.invokevirtual 240, 3) := by decide +kernel
theorem dX5_dyeIn_47 : decode cX5_dyeIn 47 = .ok (.aload_n 3, 1) := by decide +kernel
theorem dX5_dyeIn_48 : decode cX5_dyeIn 48 = .ok (.areturn, 1) := by decide +kernel
theorem dX5_weakened_0 : decode cX5_weakened 0 = .ok (.iconst 0, 1) := by decide +kernel
theorem dX5_weakened_1 : decode cX5_weakened 1 = .ok (.iload_n 0, 1) := by decide +kernel
theorem dX5_weakened_2 : decode cX5_weakened 2 = .ok (.iload_n 1, 1) := by decide +kernel
theorem dX5_weakened_3 : decode cX5_weakened 3 = .ok (.isub, 1) := by decide +kernel
theorem dX5_weakened_4 : decode cX5_weakened 4 = .ok (.invokestatic 244, 3) := by decide +kernel
theorem dX5_weakened_7 : decode cX5_weakened 7 = .ok (.ireturn, 1) := by decide +kernel
theorem dX6_init_0 : decode cX6_init 0 = .ok (.aload_n 0, 1) := by decide +kernel
theorem dX6_init_1 : decode cX6_init 1 = .ok (.invokespecial 1, 3) := by decide +kernel
theorem dX6_init_4 : decode cX6_init 4 = .ok (.aload_n 0, 1) := by decide +kernel
theorem dX6_init_5 : decode cX6_init 5 = .ok (.bipush 24, 2) := by decide +kernel
theorem dX6_init_7 : decode cX6_init 7 = .ok (.newarray .int, 2) := by decide +kernel
theorem dX6_init_9 : decode cX6_init 9 = .ok (.putfield 7, 3) := by decide +kernel
theorem dX6_init_12 : decode cX6_init 12 = .ok (.aload_n 0, 1) := by decide +kernel
theorem dX6_init_13 : decode cX6_init 13 = .ok (.bipush 12, 2) := by decide +kernel
theorem dX6_init_15 : decode cX6_init 15 = .ok (.newarray .int, 2) := by decide +kernel
theorem dX6_init_17 : decode cX6_init 17 = .ok (.putfield 13, 3) := by decide +kernel
theorem dX6_init_20 : decode cX6_init 20 = .ok (.aload_n 0, 1) := by decide +kernel
theorem dX6_init_21 : decode cX6_init 21 = .ok (.iconst 3, 1) := by decide +kernel
theorem dX6_init_22 : decode cX6_init 22 = .ok (.newarray .int, 2) := by decide +kernel
theorem dX6_init_24 : decode cX6_init 24 = .ok (.putfield 16, 3) := by decide +kernel
theorem dX6_init_27 : decode cX6_init 27 = .ok (.aload_n 0, 1) := by decide +kernel
theorem dX6_init_28 : decode cX6_init 28 = .ok (.bipush 8, 2) := by decide +kernel
theorem dX6_init_30 : decode cX6_init 30 = .ok (.newarray .int, 2) := by decide +kernel
theorem dX6_init_32 : decode cX6_init 32 = .ok (.putfield 19, 3) := by decide +kernel
theorem dX6_init_35 : decode cX6_init 35 = .ok (.aload_n 0, 1) := by decide +kernel
theorem dX6_init_36 : decode cX6_init 36 = .ok (.bipush 10, 2) := by decide +kernel
theorem dX6_init_38 : decode cX6_init 38 = .ok (.newarray .int, 2) := by decide +kernel
theorem dX6_init_40 : decode cX6_init 40 = .ok (.putfield 22, 3) := by decide +kernel
theorem dX6_init_43 : decode cX6_init 43 = .ok (.aload_n 0, 1) := by decide +kernel
theorem dX6_init_44 : decode cX6_init 44 = .ok (.bipush 10, 2) := by decide +kernel
theorem dX6_init_46 : decode cX6_init 46 = .ok (.newarray .int, 2) := by decide +kernel
theorem dX6_init_48 : decode cX6_init 48 = .ok (.putfield 25, 3) := by decide +kernel
theorem dX6_init_51 : decode cX6_init 51 = .ok (.aload_n 0, 1) := by decide +kernel
theorem dX6_init_52 : decode cX6_init 52 = .ok (.bipush 10, 2) := by decide +kernel
theorem dX6_init_54 : decode cX6_init 54 = .ok (.newarray .int, 2) := by decide +kernel
theorem dX6_init_56 : decode cX6_init 56 = .ok (.putfield 28, 3) := by decide +kernel
theorem dX6_init_59 : decode cX6_init 59 = .ok (.aload_n 0, 1) := by decide +kernel
theorem dX6_init_60 : decode cX6_init 60 = .ok (.bipush 40, 2) := by decide +kernel
theorem dX6_init_62 : decode cX6_init 62 = .ok (.newarray .int, 2) := by decide +kernel
theorem dX6_init_64 : decode cX6_init 64 = .ok (.putfield 31, 3) := by decide +kernel
theorem dX6_init_67 : decode cX6_init 67 = .ok (.aload_n 0, 1) := by decide +kernel
theorem dX6_init_68 : decode cX6_init 68 = .ok (.bipush 40, 2) := by decide +kernel
theorem dX6_init_70 : decode cX6_init 70 = .ok (.newarray .int, 2) := by decide +kernel
theorem dX6_init_72 : decode cX6_init 72 = .ok (.putfield 34, 3) := by decide +kernel
theorem dX6_init_75 : decode cX6_init 75 = .ok (.aload_n 0, 1) := by decide +kernel
theorem dX6_init_76 : decode cX6_init 76 = .ok (.bipush 40, 2) := by decide +kernel
theorem dX6_init_78 : decode cX6_init 78 = .ok (.newarray .int, 2) := by decide +kernel
theorem dX6_init_80 : decode cX6_init 80 = .ok (.putfield 37, 3) := by decide +kernel
theorem dX6_init_83 : decode cX6_init 83 = .ok (.aload_n 0, 1) := by decide +kernel
theorem dX6_init_84 : decode cX6_init 84 = .ok (.bipush 40, 2) := by decide +kernel
theorem dX6_init_86 : decode cX6_init 86 = .ok (.newarray .int, 2) := by decide +kernel
theorem dX6_init_88 : decode cX6_init 88 = .ok (.putfield 40, 3) := by decide +kernel
theorem dX6_init_91 : decode cX6_init 91 = .ok (.aload_n 0, 1) := by decide +kernel
theorem dX6_init_92 : decode cX6_init 92 = .ok (.bipush 40, 2) := by decide +kernel
theorem dX6_init_94 : decode cX6_init 94 = .ok (.newarray .int, 2) := by decide +kernel
theorem dX6_init_96 : decode cX6_init 96 = .ok (.putfield 43, 3) := by decide +kernel
theorem dX6_init_99 : decode cX6_init 99 = .ok (.aload_n 0, 1) := by decide +kernel
theorem dX6_init_100 : decode cX6_init 100 = .ok (.bipush 40, 2) := by decide +kernel
theorem dX6_init_102 : decode cX6_init 102 = .ok (.newarray .int, 2) := by decide +kernel
theorem dX6_init_104 : decode cX6_init 104 = .ok (.putfield 46, 3) := by decide +kernel
theorem dX6_init_107 : decode cX6_init 107 = .ok (.aload_n 0, 1) := by decide +kernel
theorem dX6_init_108 : decode cX6_init 108 = .ok (.bipush 40, 2) := by decide +kernel
theorem dX6_init_110 : decode cX6_init 110 = .ok (.newarray .int, 2) := by decide +kernel
theorem dX6_init_112 : decode cX6_init 112 = .ok (.putfield 49, 3) := by decide +kernel
theorem dX6_init_115 : decode cX6_init 115 = .ok (.aload_n 0, 1) := by decide +kernel
theorem dX6_init_116 : decode cX6_init 116 = .ok (.bipush 40, 2) := by decide +kernel
theorem dX6_init_118 : decode cX6_init 118 = .ok (.newarray .int, 2) := by decide +kernel
theorem dX6_init_120 : decode cX6_init 120 = .ok (.putfield 52, 3) := by decide +kernel
theorem dX6_init_123 : decode cX6_init 123 = .ok (.aload_n 0, 1) := by decide +kernel
theorem dX6_init_124 : decode cX6_init 124 = .ok (.bipush 40, 2) := by decide +kernel
theorem dX6_init_126 : decode cX6_init 126 = .ok (.newarray .int, 2) := by decide +kernel
theorem dX6_init_128 : decode cX6_init 128 = .ok (.putfield 55, 3) := by decide +kernel
theorem dX6_init_131 : decode cX6_init 131 = .ok (.aload_n 0, 1) := by decide +kernel
theorem dX6_init_132 : decode cX6_init 132 = .ok (.bipush 9, 2) := by decide +kernel
theorem dX6_init_134 : decode cX6_init 134 = .ok (.newarray .int, 2) := by decide +kernel
theorem dX6_init_136 : decode cX6_init 136 = .ok (.putfield 58, 3) := by decide +kernel
theorem dX6_init_139 : decode cX6_init 139 = .ok (.aload_n 0, 1) := by decide +kernel
theorem dX6_init_140 : decode cX6_init 140 = .ok (.iconst 3, 1) := by decide +kernel
theorem dX6_init_141 : decode cX6_init 141 = .ok (.newarray .int, 2) := by decide +kernel
theorem dX6_init_143 : decode cX6_init 143 = .ok (.putfield 61, 3) := by decide +kernel
theorem dX6_init_146 : decode cX6_init 146 = .ok (.aload_n 0, 1) := by decide +kernel
theorem dX6_init_147 : decode cX6_init 147 = .ok (.bipush 75, 2) := by decide +kernel
theorem dX6_init_149 : decode cX6_init 149 = .ok (.newarray .int, 2) := by decide +kernel
theorem dX6_init_151 : decode cX6_init 151 = .ok (.putfield 64, 3) := by decide +kernel
theorem dX6_init_154 : decode cX6_init 154 = .ok (.aload_n 0, 1) := by decide +kernel
theorem dX6_init_155 : decode cX6_init 155 = .ok (.iconst 5, 1) := by decide +kernel
theorem dX6_init_156 : decode cX6_init 156 = .ok (.newarray .int, 2) := by decide +kernel
theorem dX6_init_158 : decode cX6_init 158 = .ok (.putfield 67, 3) := by decide +kernel
theorem dX6_init_161 : decode cX6_init 161 = .ok (.return_, 1) := by decide +kernel
theorem dX6_thrown_0 : decode cX6_thrown 0 = .ok (.aload_n 0, 1) := by decide +kernel
theorem dX6_thrown_1 : decode cX6_thrown 1 = .ok (.getfield 70, 3) := by decide +kernel
theorem dX6_thrown_4 : decode cX6_thrown 4 = .ok (.ireturn, 1) := by decide +kernel
theorem dX6_may_0 : decode cX6_may 0 = .ok (.aload_n 0, 1) := by decide +kernel
theorem dX6_may_1 : decode cX6_may 1 = .ok (.iload_n 1, 1) := by decide +kernel
theorem dX6_may_2 : decode cX6_may 2 = .ok (.ifCond .eq 7, 3) := by decide +kernel
theorem dX6_may_5 : decode cX6_may 5 = .ok (.iconst 0, 1) := by decide +kernel
theorem dX6_may_6 : decode cX6_may 6 = .ok (.goto 4, 3) := by decide +kernel
theorem dX6_may_9 : decode cX6_may 9 = .ok (.iconst 1, 1) := by decide +kernel
theorem dX6_may_10 : decode cX6_may 10 = .ok (.putfield 70, 3) := by decide +kernel
theorem dX6_may_13 : decode cX6_may 13 = .ok (.iload_n 1, 1) := by decide +kernel
theorem dX6_may_14 : decode cX6_may 14 = .ok (.ireturn, 1) := by decide +kernel
theorem dX6_mayBoth_0 : decode cX6_mayBoth 0 = .ok (.aload_n 0, 1) := by decide +kernel
theorem dX6_mayBoth_1 : decode cX6_mayBoth 1 = .ok (.iload_n 1, 1) := by decide +kernel
theorem dX6_mayBoth_2 : decode cX6_mayBoth 2 = .ok (.ifCond .ne 7, 3) := by decide +kernel
theorem dX6_mayBoth_5 : decode cX6_mayBoth 5 = .ok (.iconst 1, 1) := by decide +kernel
theorem dX6_mayBoth_6 : decode cX6_mayBoth 6 = .ok (.goto 12, 3) := by decide +kernel
theorem dX6_mayBoth_9 : decode cX6_mayBoth 9 = .ok (.iload_n 2, 1) := by decide +kernel
theorem dX6_mayBoth_10 : decode cX6_mayBoth 10 = .ok (.ifCond .ne 7, 3) := by decide +kernel
theorem dX6_mayBoth_13 : decode cX6_mayBoth 13 = .ok (.iconst 2, 1) := by decide +kernel
theorem dX6_mayBoth_14 : decode cX6_mayBoth 14 = .ok (.goto 4, 3) := by decide +kernel
theorem dX6_mayBoth_17 : decode cX6_mayBoth 17 = .ok (.iconst 0, 1) := by decide +kernel
theorem dX6_mayBoth_18 : decode cX6_mayBoth 18 = .ok (.putfield 70, 3) := by decide +kernel
theorem dX6_mayBoth_21 : decode cX6_mayBoth 21 = .ok (.aload_n 0, 1) := by decide +kernel
theorem dX6_mayBoth_22 : decode cX6_mayBoth 22 = .ok (.getfield 70, 3) := by decide +kernel
theorem dX6_mayBoth_25 : decode cX6_mayBoth 25 = .ok (.ifCond .ne 7, 3) := by decide +kernel
theorem dX6_mayBoth_28 : decode cX6_mayBoth 28 = .ok (.iconst 1, 1) := by decide +kernel
theorem dX6_mayBoth_29 : decode cX6_mayBoth 29 = .ok (.goto 4, 3) := by decide +kernel
theorem dX6_mayBoth_32 : decode cX6_mayBoth 32 = .ok (.iconst 0, 1) := by decide +kernel
theorem dX6_mayBoth_33 : decode cX6_mayBoth 33 = .ok (.ireturn, 1) := by decide +kernel
theorem dX6_mayAll_0 : decode cX6_mayAll 0 = .ok (.aload_n 0, 1) := by decide +kernel
theorem dX6_mayAll_1 : decode cX6_mayAll 1 = .ok (.iload_n 1, 1) := by decide +kernel
theorem dX6_mayAll_2 : decode cX6_mayAll 2 = .ok (.ifCond .ne 7, 3) := by decide +kernel
theorem dX6_mayAll_5 : decode cX6_mayAll 5 = .ok (.iconst 1, 1) := by decide +kernel
theorem dX6_mayAll_6 : decode cX6_mayAll 6 = .ok (.goto 20, 3) := by decide +kernel
theorem dX6_mayAll_9 : decode cX6_mayAll 9 = .ok (.iload_n 2, 1) := by decide +kernel
theorem dX6_mayAll_10 : decode cX6_mayAll 10 = .ok (.ifCond .ne 7, 3) := by decide +kernel
theorem dX6_mayAll_13 : decode cX6_mayAll 13 = .ok (.iconst 2, 1) := by decide +kernel
theorem dX6_mayAll_14 : decode cX6_mayAll 14 = .ok (.goto 12, 3) := by decide +kernel
theorem dX6_mayAll_17 : decode cX6_mayAll 17 = .ok (.iload_n 3, 1) := by decide +kernel
theorem dX6_mayAll_18 : decode cX6_mayAll 18 = .ok (.ifCond .ne 7, 3) := by decide +kernel
theorem dX6_mayAll_21 : decode cX6_mayAll 21 = .ok (.iconst 3, 1) := by decide +kernel
theorem dX6_mayAll_22 : decode cX6_mayAll 22 = .ok (.goto 4, 3) := by decide +kernel
theorem dX6_mayAll_25 : decode cX6_mayAll 25 = .ok (.iconst 0, 1) := by decide +kernel
theorem dX6_mayAll_26 : decode cX6_mayAll 26 = .ok (.putfield 70, 3) := by decide +kernel
theorem dX6_mayAll_29 : decode cX6_mayAll 29 = .ok (.aload_n 0, 1) := by decide +kernel
theorem dX6_mayAll_30 : decode cX6_mayAll 30 = .ok (.getfield 70, 3) := by decide +kernel
theorem dX6_mayAll_33 : decode cX6_mayAll 33 = .ok (.ifCond .ne 7, 3) := by decide +kernel
theorem dX6_mayAll_36 : decode cX6_mayAll 36 = .ok (.iconst 1, 1) := by decide +kernel
theorem dX6_mayAll_37 : decode cX6_mayAll 37 = .ok (.goto 4, 3) := by decide +kernel
theorem dX6_mayAll_40 : decode cX6_mayAll 40 = .ok (.iconst 0, 1) := by decide +kernel
theorem dX6_mayAll_41 : decode cX6_mayAll 41 = .ok (.ireturn, 1) := by decide +kernel
theorem dX6_isIn_0 : decode cX6_isIn 0 = .ok (.iload_n 0, 1) := by decide +kernel
theorem dX6_isIn_1 : decode cX6_isIn 1 = .ok (.iload_n 1, 1) := by decide +kernel
theorem dX6_isIn_2 : decode cX6_isIn 2 = .ok (.if_icmp .lt 12, 3) := by decide +kernel
theorem dX6_isIn_5 : decode cX6_isIn 5 = .ok (.iload_n 0, 1) := by decide +kernel
theorem dX6_isIn_6 : decode cX6_isIn 6 = .ok (.iload_n 2, 1) := by decide +kernel
theorem dX6_isIn_7 : decode cX6_isIn 7 = .ok (.if_icmp .gt 7, 3) := by decide +kernel
theorem dX6_isIn_10 : decode cX6_isIn 10 = .ok (.iconst 1, 1) := by decide +kernel
theorem dX6_isIn_11 : decode cX6_isIn 11 = .ok (.goto 4, 3) := by decide +kernel
theorem dX6_isIn_14 : decode cX6_isIn 14 = .ok (.iconst 0, 1) := by decide +kernel
theorem dX6_isIn_15 : decode cX6_isIn 15 = .ok (.ireturn, 1) := by decide +kernel
theorem dX6_isThird_0 : decode cX6_isThird 0 = .ok (.iload_n 0, 1) := by decide +kernel
theorem dX6_isThird_1 : decode cX6_isThird 1 = .ok (.iconst 0, 1) := by decide +kernel
theorem dX6_isThird_2 : decode cX6_isThird 2 = .ok (.iconst 2, 1) := by decide +kernel
theorem dX6_isThird_3 : decode cX6_isThird 3 = .ok (.invokestatic 74, 3) := by decide +kernel
theorem dX6_isThird_6 : decode cX6_isThird 6 = .ok (.ireturn, 1) := by decide +kernel
theorem dX6_isEntry_0 : decode cX6_isEntry 0 = .ok (.iload_n 1, 1) := by decide +kernel
theorem dX6_isEntry_1 : decode cX6_isEntry 1 = .ok (.iconst 0, 1) := by decide +kernel
theorem dX6_isEntry_2 : decode cX6_isEntry 2 = .ok (.aload_n 0, 1) := by decide +kernel
theorem dX6_isEntry_3 : decode cX6_isEntry 3 = .ok (.getfield 78, 3) := by decide +kernel
theorem dX6_isEntry_6 : decode cX6_isEntry 6 = .ok (.iconst 1, 1) := by decide +kernel
theorem dX6_isEntry_7 : decode cX6_isEntry 7 = .ok (.isub, 1) := by decide +kernel
theorem dX6_isEntry_8 : decode cX6_isEntry 8 = .ok (.invokestatic 74, 3) := by decide +kernel
theorem dX6_isEntry_11 : decode cX6_isEntry 11 = .ok (.ireturn, 1) := by decide +kernel
theorem dX6_isBath_0 : decode cX6_isBath 0 = .ok (.iload_n 1, 1) := by decide +kernel
theorem dX6_isBath_1 : decode cX6_isBath 1 = .ok (.iconst 0, 1) := by decide +kernel
theorem dX6_isBath_2 : decode cX6_isBath 2 = .ok (.aload_n 0, 1) := by decide +kernel
theorem dX6_isBath_3 : decode cX6_isBath 3 = .ok (.getfield 81, 3) := by decide +kernel
theorem dX6_isBath_6 : decode cX6_isBath 6 = .ok (.iconst 1, 1) := by decide +kernel
theorem dX6_isBath_7 : decode cX6_isBath 7 = .ok (.isub, 1) := by decide +kernel
theorem dX6_isBath_8 : decode cX6_isBath 8 = .ok (.invokestatic 74, 3) := by decide +kernel
theorem dX6_isBath_11 : decode cX6_isBath 11 = .ok (.ireturn, 1) := by decide +kernel
theorem dX6_isOrder_0 : decode cX6_isOrder 0 = .ok (.iload_n 1, 1) := by decide +kernel
theorem dX6_isOrder_1 : decode cX6_isOrder 1 = .ok (.iconst 0, 1) := by decide +kernel
theorem dX6_isOrder_2 : decode cX6_isOrder 2 = .ok (.aload_n 0, 1) := by decide +kernel
theorem dX6_isOrder_3 : decode cX6_isOrder 3 = .ok (.getfield 84, 3) := by decide +kernel
theorem dX6_isOrder_6 : decode cX6_isOrder 6 = .ok (.iconst 1, 1) := by decide +kernel
theorem dX6_isOrder_7 : decode cX6_isOrder 7 = .ok (.isub, 1) := by decide +kernel
theorem dX6_isOrder_8 : decode cX6_isOrder 8 = .ok (.invokestatic 74, 3) := by decide +kernel
theorem dX6_isOrder_11 : decode cX6_isOrder 11 = .ok (.ireturn, 1) := by decide +kernel
theorem dX6_far_0 : decode cX6_far 0 = .ok (.iload_n 0, 1) := by decide +kernel
theorem dX6_far_1 : decode cX6_far 1 = .ok (.iload_n 1, 1) := by decide +kernel
theorem dX6_far_2 : decode cX6_far 2 = .ok (.if_icmp .le 9, 3) := by decide +kernel
theorem dX6_far_5 : decode cX6_far 5 = .ok (.iload_n 0, 1) := by decide +kernel
theorem dX6_far_6 : decode cX6_far 6 = .ok (.iload_n 1, 1) := by decide +kernel
theorem dX6_far_7 : decode cX6_far 7 = .ok (.isub, 1) := by decide +kernel
theorem dX6_far_8 : decode cX6_far 8 = .ok (.goto 6, 3) := by decide +kernel
theorem dX6_far_11 : decode cX6_far 11 = .ok (.iload_n 1, 1) := by decide +kernel
theorem dX6_far_12 : decode cX6_far 12 = .ok (.iload_n 0, 1) := by decide +kernel
theorem dX6_far_13 : decode cX6_far 13 = .ok (.isub, 1) := by decide +kernel
theorem dX6_far_14 : decode cX6_far 14 = .ok (.ireturn, 1) := by decide +kernel
theorem dX6_entry_0 : decode cX6_entry 0 = .ok (.aload_n 0, 1) := by decide +kernel
theorem dX6_entry_1 : decode cX6_entry 1 = .ok (.iload_n 1, 1) := by decide +kernel
theorem dX6_entry_2 : decode cX6_entry 2 = .ok (.iconst 0, 1) := by decide +kernel
theorem dX6_entry_3 : decode cX6_entry 3 = .ok (.bipush 60, 2) := by decide +kernel
theorem dX6_entry_5 : decode cX6_entry 5 = .ok (.invokestatic 74, 3) := by decide +kernel
theorem dX6_entry_8 : decode cX6_entry 8 = .ok (.ifCond .eq 27, 3) := by decide +kernel
theorem dX6_entry_11 : decode cX6_entry 11 = .ok (.iload_n 2, 1) := by decide +kernel
theorem dX6_entry_12 : decode cX6_entry 12 = .ok (.iconst 0, 1) := by decide +kernel
theorem dX6_entry_13 : decode cX6_entry 13 = .ok (.bipush 60, 2) := by decide +kernel
theorem dX6_entry_15 : decode cX6_entry 15 = .ok (.invokestatic 74, 3) := by decide +kernel
theorem dX6_entry_18 : decode cX6_entry 18 = .ok (.ifCond .eq 17, 3) := by decide +kernel
theorem dX6_entry_21 : decode cX6_entry 21 = .ok (.iload_n 3, 1) := by decide +kernel
theorem dX6_entry_22 : decode cX6_entry 22 = .ok (.iconst 0, 1) := by decide +kernel
theorem dX6_entry_23 : decode cX6_entry 23 = .ok (.bipush 20, 2) := by decide +kernel
theorem dX6_entry_25 : decode cX6_entry 25 = .ok (.invokestatic 74, 3) := by decide +kernel
theorem dX6_entry_28 : decode cX6_entry 28 = .ok (.ifCond .eq 7, 3) := by decide +kernel
theorem dX6_entry_31 : decode cX6_entry 31 = .ok (.iconst 1, 1) := by decide +kernel
theorem dX6_entry_32 : decode cX6_entry 32 = .ok (.goto 4, 3) := by decide +kernel
theorem dX6_entry_35 : decode cX6_entry 35 = .ok (.iconst 0, 1) := by decide +kernel
theorem dX6_entry_36 : decode cX6_entry 36 = .ok (.aload_n 0, 1) := by decide +kernel
theorem dX6_entry_37 : decode cX6_entry 37 = .ok (.getfield 78, 3) := by decide +kernel
theorem dX6_entry_40 : decode cX6_entry 40 = .ok (.bipush 12, 2) := by decide +kernel
theorem dX6_entry_42 : decode cX6_entry 42 = .ok (.if_icmp .ge 7, 3) := by decide +kernel
theorem dX6_entry_45 : decode cX6_entry 45 = .ok (.iconst 1, 1) := by decide +kernel
theorem dX6_entry_46 : decode cX6_entry 46 = .ok (.goto 4, 3) := by decide +kernel
theorem dX6_entry_49 : decode cX6_entry 49 = .ok (.iconst 0, 1) := by decide +kernel
theorem dX6_entry_50 : decode cX6_entry 50 = .ok (.invokevirtual 87, 3) := by decide +kernel
theorem dX6_entry_53 : decode cX6_entry 53 = .ok (.ifCond .ne 5, 3) := by decide +kernel
theorem dX6_entry_56 : decode cX6_entry 56 = .ok (.iconst 0, 1) := by decide +kernel
theorem dX6_entry_57 : decode cX6_entry 57 = .ok (.ireturn, 1) := by decide +kernel
theorem dX6_entry_58 : decode cX6_entry 58 = .ok (.aload_n 0, 1) := by decide +kernel
theorem dX6_entry_59 : decode cX6_entry 59 = .ok (.getfield 7, 3) := by decide +kernel
theorem dX6_entry_62 : decode cX6_entry 62 = .ok (.iconst 2, 1) := by decide +kernel
theorem dX6_entry_63 : decode cX6_entry 63 = .ok (.aload_n 0, 1) := by decide +kernel
theorem dX6_entry_64 : decode cX6_entry 64 = .ok (.getfield 78, 3) := by decide +kernel
theorem dX6_entry_67 : decode cX6_entry 67 = .ok (.imul, 1) := by decide +kernel
theorem dX6_entry_68 : decode cX6_entry 68 = .ok (.iload_n 1, 1) := by decide +kernel
theorem dX6_entry_69 : decode cX6_entry 69 = .ok (.iastore, 1) := by decide +kernel
theorem dX6_entry_70 : decode cX6_entry 70 = .ok (.aload_n 0, 1) := by decide +kernel
theorem dX6_entry_71 : decode cX6_entry 71 = .ok (.getfield 7, 3) := by decide +kernel
theorem dX6_entry_74 : decode cX6_entry 74 = .ok (.iconst 2, 1) := by decide +kernel
theorem dX6_entry_75 : decode cX6_entry 75 = .ok (.aload_n 0, 1) := by decide +kernel
theorem dX6_entry_76 : decode cX6_entry 76 = .ok (.getfield 78, 3) := by decide +kernel
theorem dX6_entry_79 : decode cX6_entry 79 = .ok (.imul, 1) := by decide +kernel
theorem dX6_entry_80 : decode cX6_entry 80 = .ok (.iconst 1, 1) := by decide +kernel
theorem dX6_entry_81 : decode cX6_entry 81 = .ok (.iadd, 1) := by decide +kernel
theorem dX6_entry_82 : decode cX6_entry 82 = .ok (.iload_n 2, 1) := by decide +kernel
theorem dX6_entry_83 : decode cX6_entry 83 = .ok (.iastore, 1) := by decide +kernel
theorem dX6_entry_84 : decode cX6_entry 84 = .ok (.aload_n 0, 1) := by decide +kernel
theorem dX6_entry_85 : decode cX6_entry 85 = .ok (.getfield 13, 3) := by decide +kernel
theorem dX6_entry_88 : decode cX6_entry 88 = .ok (.aload_n 0, 1) := by decide +kernel
theorem dX6_entry_89 : decode cX6_entry 89 = .ok (.getfield 78, 3) := by decide +kernel
theorem dX6_entry_92 : decode cX6_entry 92 = .ok (.iload_n 3, 1) := by decide +kernel
theorem dX6_entry_93 : decode cX6_entry 93 = .ok (.iastore, 1) := by decide +kernel
theorem dX6_entry_94 : decode cX6_entry 94 = .ok (.aload_n 0, 1) := by decide +kernel
theorem dX6_entry_95 : decode cX6_entry 95 = .ok (.dup, 1) := by decide +kernel
theorem dX6_entry_96 : decode cX6_entry 96 = .ok (.getfield 78, 3) := by decide +kernel
theorem dX6_entry_99 : decode cX6_entry 99 = .ok (.iconst 1, 1) := by decide +kernel
theorem dX6_entry_100 : decode cX6_entry 100 = .ok (.iadd, 1) := by decide +kernel
theorem dX6_entry_101 : decode cX6_entry 101 = .ok (.putfield 78, 3) := by decide +kernel
theorem dX6_entry_104 : decode cX6_entry 104 = .ok (.aload_n 0, 1) := by decide +kernel
theorem dX6_entry_105 : decode cX6_entry 105 = .ok (.getfield 78, 3) := by decide +kernel
theorem dX6_entry_108 : decode cX6_entry 108 = .ok (.iconst 1, 1) := by decide +kernel
theorem dX6_entry_109 : decode cX6_entry 109 = .ok (.isub, 1) := by decide +kernel
theorem dX6_entry_110 : decode cX6_entry 110 = .ok (.ireturn, 1) := by decide +kernel
theorem dX6_water_0 : decode cX6_water 0 = .ok (.aload_n 0, 1) := by decide +kernel
theorem dX6_water_1 : decode cX6_water 1 = .ok (.iload_n 1, 1) := by decide +kernel
theorem dX6_water_2 : decode cX6_water 2 = .ok (.invokestatic 91, 3) := by decide +kernel
theorem dX6_water_5 : decode cX6_water 5 = .ok (.iload_n 2, 1) := by decide +kernel
theorem dX6_water_6 : decode cX6_water 6 = .ok (.bipush (-10), 2) := by decide +kernel
theorem dX6_water_8 : decode cX6_water 8 = .ok (.bipush 10, 2) := by decide +kernel
theorem dX6_water_10 : decode cX6_water 10 = .ok (.invokestatic 74, 3) := by decide +kernel
theorem dX6_water_13 : decode cX6_water 13 = .ok (.invokevirtual 87, 3) := by decide +kernel
theorem dX6_water_16 : decode cX6_water 16 = .ok (.ifCond .ne 5, 3) := by decide +kernel
theorem dX6_water_19 : decode cX6_water 19 = .ok (.iconst 0, 1) := by decide +kernel
theorem dX6_water_20 : decode cX6_water 20 = .ok (.ireturn, 1) := by decide +kernel
theorem dX6_water_21 : decode cX6_water 21 = .ok (.aload_n 0, 1) := by decide +kernel
theorem dX6_water_22 : decode cX6_water 22 = .ok (.getfield 16, 3) := by decide +kernel
theorem dX6_water_25 : decode cX6_water 25 = .ok (.iload_n 1, 1) := by decide +kernel
theorem dX6_water_26 : decode cX6_water 26 = .ok (.iaload, 1) := by decide +kernel
theorem dX6_water_27 : decode cX6_water 27 = .ok (.istore_n 3, 1) := by decide +kernel
theorem dX6_water_28 : decode cX6_water 28 = .ok (.aload_n 0, 1) := by decide +kernel
theorem dX6_water_29 : decode cX6_water 29 = .ok (.getfield 16, 3) := by decide +kernel
theorem dX6_water_32 : decode cX6_water 32 = .ok (.iload_n 1, 1) := by decide +kernel
theorem dX6_water_33 : decode cX6_water 33 = .ok (.iload_n 2, 1) := by decide +kernel
theorem dX6_water_34 : decode cX6_water 34 = .ok (.iastore, 1) := by decide +kernel
theorem dX6_water_35 : decode cX6_water 35 = .ok (.iload_n 3, 1) := by decide +kernel
theorem dX6_water_36 : decode cX6_water 36 = .ok (.ireturn, 1) := by decide +kernel
theorem dX6_yarn_0 : decode cX6_yarn 0 = .ok (.aload_n 0, 1) := by decide +kernel
theorem dX6_yarn_1 : decode cX6_yarn 1 = .ok (.iload_n 1, 1) := by decide +kernel
theorem dX6_yarn_2 : decode cX6_yarn 2 = .ok (.iconst 0, 1) := by decide +kernel
theorem dX6_yarn_3 : decode cX6_yarn 3 = .ok (.iconst 3, 1) := by decide +kernel
theorem dX6_yarn_4 : decode cX6_yarn 4 = .ok (.invokestatic 74, 3) := by decide +kernel
theorem dX6_yarn_7 : decode cX6_yarn 7 = .ok (.iload_n 2, 1) := by decide +kernel
theorem dX6_yarn_8 : decode cX6_yarn 8 = .ok (.bipush (-10), 2) := by decide +kernel
theorem dX6_yarn_10 : decode cX6_yarn 10 = .ok (.bipush 10, 2) := by decide +kernel
theorem dX6_yarn_12 : decode cX6_yarn 12 = .ok (.invokestatic 74, 3) := by decide +kernel
theorem dX6_yarn_15 : decode cX6_yarn 15 = .ok (.ifCond .eq 18, 3) := by decide +kernel
theorem dX6_yarn_18 : decode cX6_yarn 18 = .ok (.iload_n 3, 1) := by decide +kernel
theorem dX6_yarn_19 : decode cX6_yarn 19 = .ok (.bipush (-10), 2) := by decide +kernel
theorem dX6_yarn_21 : decode cX6_yarn 21 = .ok (.bipush 10, 2) := by decide +kernel
theorem dX6_yarn_23 : decode cX6_yarn 23 = .ok (.invokestatic 74, 3) := by decide +kernel
theorem dX6_yarn_26 : decode cX6_yarn 26 = .ok (.ifCond .eq 7, 3) := by decide +kernel
theorem dX6_yarn_29 : decode cX6_yarn 29 = .ok (.iconst 1, 1) := by decide +kernel
theorem dX6_yarn_30 : decode cX6_yarn 30 = .ok (.goto 4, 3) := by decide +kernel
theorem dX6_yarn_33 : decode cX6_yarn 33 = .ok (.iconst 0, 1) := by decide +kernel
theorem dX6_yarn_34 : decode cX6_yarn 34 = .ok (.invokevirtual 87, 3) := by decide +kernel
theorem dX6_yarn_37 : decode cX6_yarn 37 = .ok (.ifCond .ne 5, 3) := by decide +kernel
theorem dX6_yarn_40 : decode cX6_yarn 40 = .ok (.iconst 0, 1) := by decide +kernel
theorem dX6_yarn_41 : decode cX6_yarn 41 = .ok (.ireturn, 1) := by decide +kernel
theorem dX6_yarn_42 : decode cX6_yarn 42 = .ok (.aload_n 0, 1) := by decide +kernel
theorem dX6_yarn_43 : decode cX6_yarn 43 = .ok (.getfield 19, 3) := by decide +kernel
theorem dX6_yarn_46 : decode cX6_yarn 46 = .ok (.iconst 2, 1) := by decide +kernel
theorem dX6_yarn_47 : decode cX6_yarn 47 = .ok (.iload_n 1, 1) := by decide +kernel
theorem dX6_yarn_48 : decode cX6_yarn 48 = .ok (.imul, 1) := by decide +kernel
theorem dX6_yarn_49 : decode cX6_yarn 49 = .ok (.iaload, 1) := by decide +kernel
theorem dX6_yarn_50 : decode cX6_yarn 50 = .ok (.istore 4, 2) := by decide +kernel
theorem dX6_yarn_52 : decode cX6_yarn 52 = .ok (.aload_n 0, 1) := by decide +kernel
theorem dX6_yarn_53 : decode cX6_yarn 53 = .ok (.getfield 19, 3) := by decide +kernel
theorem dX6_yarn_56 : decode cX6_yarn 56 = .ok (.iconst 2, 1) := by decide +kernel
theorem dX6_yarn_57 : decode cX6_yarn 57 = .ok (.iload_n 1, 1) := by decide +kernel
theorem dX6_yarn_58 : decode cX6_yarn 58 = .ok (.imul, 1) := by decide +kernel
theorem dX6_yarn_59 : decode cX6_yarn 59 = .ok (.iload_n 2, 1) := by decide +kernel
theorem dX6_yarn_60 : decode cX6_yarn 60 = .ok (.iastore, 1) := by decide +kernel
theorem dX6_yarn_61 : decode cX6_yarn 61 = .ok (.aload_n 0, 1) := by decide +kernel
theorem dX6_yarn_62 : decode cX6_yarn 62 = .ok (.getfield 19, 3) := by decide +kernel
theorem dX6_yarn_65 : decode cX6_yarn 65 = .ok (.iconst 2, 1) := by decide +kernel
theorem dX6_yarn_66 : decode cX6_yarn 66 = .ok (.iload_n 1, 1) := by decide +kernel
theorem dX6_yarn_67 : decode cX6_yarn 67 = .ok (.imul, 1) := by decide +kernel
theorem dX6_yarn_68 : decode cX6_yarn 68 = .ok (.iconst 1, 1) := by decide +kernel
theorem dX6_yarn_69 : decode cX6_yarn 69 = .ok (.iadd, 1) := by decide +kernel
theorem dX6_yarn_70 : decode cX6_yarn 70 = .ok (.iload_n 3, 1) := by decide +kernel
theorem dX6_yarn_71 : decode cX6_yarn 71 = .ok (.iastore, 1) := by decide +kernel
theorem dX6_yarn_72 : decode cX6_yarn 72 = .ok (.iload 4, 2) := by decide +kernel
theorem dX6_yarn_74 : decode cX6_yarn 74 = .ok (.ireturn, 1) := by decide +kernel
theorem dX6_apart_0 : decode cX6_apart 0 = .ok (.aload_n 0, 1) := by decide +kernel
theorem dX6_apart_1 : decode cX6_apart 1 = .ok (.aload_n 0, 1) := by decide +kernel
theorem dX6_apart_2 : decode cX6_apart 2 = .ok (.iload_n 1, 1) := by decide +kernel
theorem dX6_apart_3 : decode cX6_apart 3 = .ok (.invokevirtual 95, 3) := by decide +kernel
theorem dX6_apart_6 : decode cX6_apart 6 = .ok (.ifCond .eq 15, 3) := by decide +kernel
theorem dX6_apart_9 : decode cX6_apart 9 = .ok (.aload_n 0, 1) := by decide +kernel
theorem dX6_apart_10 : decode cX6_apart 10 = .ok (.iload_n 2, 1) := by decide +kernel
theorem dX6_apart_11 : decode cX6_apart 11 = .ok (.invokevirtual 95, 3) := by decide +kernel
theorem dX6_apart_14 : decode cX6_apart 14 = .ok (.ifCond .eq 7, 3) := by decide +kernel
theorem dX6_apart_17 : decode cX6_apart 17 = .ok (.iconst 1, 1) := by decide +kernel
theorem dX6_apart_18 : decode cX6_apart 18 = .ok (.goto 4, 3) := by decide +kernel
theorem dX6_apart_21 : decode cX6_apart 21 = .ok (.iconst 0, 1) := by decide +kernel
theorem dX6_apart_22 : decode cX6_apart 22 = .ok (.invokevirtual 98, 3) := by decide +kernel
theorem dX6_apart_25 : decode cX6_apart 25 = .ok (.ifCond .ne 5, 3) := by decide +kernel
theorem dX6_apart_28 : decode cX6_apart 28 = .ok (.iconst 0, 1) := by decide +kernel
theorem dX6_apart_29 : decode cX6_apart 29 = .ok (.ireturn, 1) := by decide +kernel
theorem dX6_apart_30 : decode cX6_apart 30 = .ok (.aload_n 0, 1) := by decide +kernel
theorem dX6_apart_31 : decode cX6_apart 31 = .ok (.getfield 7, 3) := by decide +kernel
theorem dX6_apart_34 : decode cX6_apart 34 = .ok (.iconst 2, 1) := by decide +kernel
theorem dX6_apart_35 : decode cX6_apart 35 = .ok (.iload_n 1, 1) := by decide +kernel
theorem dX6_apart_36 : decode cX6_apart 36 = .ok (.imul, 1) := by decide +kernel
theorem dX6_apart_37 : decode cX6_apart 37 = .ok (.iaload, 1) := by decide +kernel
theorem dX6_apart_38 : decode cX6_apart 38 = .ok (.aload_n 0, 1) := by decide +kernel
theorem dX6_apart_39 : decode cX6_apart 39 = .ok (.getfield 7, 3) := by decide +kernel
theorem dX6_apart_42 : decode cX6_apart 42 = .ok (.iconst 2, 1) := by decide +kernel
theorem dX6_apart_43 : decode cX6_apart 43 = .ok (.iload_n 2, 1) := by decide +kernel
theorem dX6_apart_44 : decode cX6_apart 44 = .ok (.imul, 1) := by decide +kernel
theorem dX6_apart_45 : decode cX6_apart 45 = .ok (.iaload, 1) := by decide +kernel
theorem dX6_apart_46 : decode cX6_apart 46 = .ok (.invokestatic 102, 3) := by decide +kernel
theorem dX6_apart_49 : decode cX6_apart 49 = .ok (.aload_n 0, 1) := by decide +kernel
theorem dX6_apart_50 : decode cX6_apart 50 = .ok (.getfield 7, 3) := by decide +kernel
theorem dX6_apart_53 : decode cX6_apart 53 = .ok (.iconst 2, 1) := by decide +kernel
theorem dX6_apart_54 : decode cX6_apart 54 = .ok (.iload_n 1, 1) := by decide +kernel
theorem dX6_apart_55 : decode cX6_apart 55 = .ok (.imul, 1) := by decide +kernel
theorem dX6_apart_56 : decode cX6_apart 56 = .ok (.iconst 1, 1) := by decide +kernel
theorem dX6_apart_57 : decode cX6_apart 57 = .ok (.iadd, 1) := by decide +kernel
theorem dX6_apart_58 : decode cX6_apart 58 = .ok (.iaload, 1) := by decide +kernel
theorem dX6_apart_59 : decode cX6_apart 59 = .ok (.aload_n 0, 1) := by decide +kernel
theorem dX6_apart_60 : decode cX6_apart 60 = .ok (.getfield 7, 3) := by decide +kernel
theorem dX6_apart_63 : decode cX6_apart 63 = .ok (.iconst 2, 1) := by decide +kernel
theorem dX6_apart_64 : decode cX6_apart 64 = .ok (.iload_n 2, 1) := by decide +kernel
theorem dX6_apart_65 : decode cX6_apart 65 = .ok (.imul, 1) := by decide +kernel
theorem dX6_apart_66 : decode cX6_apart 66 = .ok (.iconst 1, 1) := by decide +kernel
theorem dX6_apart_67 : decode cX6_apart 67 = .ok (.iadd, 1) := by decide +kernel
theorem dX6_apart_68 : decode cX6_apart 68 = .ok (.iaload, 1) := by decide +kernel
theorem dX6_apart_69 : decode cX6_apart 69 = .ok (.invokestatic 102, 3) := by decide +kernel
theorem dX6_apart_72 : decode cX6_apart 72 = .ok (.iadd, 1) := by decide +kernel
theorem dX6_apart_73 : decode cX6_apart 73 = .ok (.ireturn, 1) := by decide +kernel
theorem dX6_bath_0 : decode cX6_bath 0 = .ok (.aload_n 0, 1) := by decide +kernel
theorem dX6_bath_1 : decode cX6_bath 1 = .ok (.iload_n 1, 1) := by decide +kernel
theorem dX6_bath_2 : decode cX6_bath 2 = .ok (.invokestatic 91, 3) := by decide +kernel
theorem dX6_bath_5 : decode cX6_bath 5 = .ok (.ifCond .eq 15, 3) := by decide +kernel
theorem dX6_bath_8 : decode cX6_bath 8 = .ok (.aload_n 0, 1) := by decide +kernel
theorem dX6_bath_9 : decode cX6_bath 9 = .ok (.iload_n 2, 1) := by decide +kernel
theorem dX6_bath_10 : decode cX6_bath 10 = .ok (.invokevirtual 95, 3) := by decide +kernel
theorem dX6_bath_13 : decode cX6_bath 13 = .ok (.ifCond .eq 7, 3) := by decide +kernel
theorem dX6_bath_16 : decode cX6_bath 16 = .ok (.iconst 1, 1) := by decide +kernel
theorem dX6_bath_17 : decode cX6_bath 17 = .ok (.goto 4, 3) := by decide +kernel
theorem dX6_bath_20 : decode cX6_bath 20 = .ok (.iconst 0, 1) := by decide +kernel
theorem dX6_bath_21 : decode cX6_bath 21 = .ok (.aload_n 0, 1) := by decide +kernel
theorem dX6_bath_22 : decode cX6_bath 22 = .ok (.getfield 81, 3) := by decide +kernel
theorem dX6_bath_25 : decode cX6_bath 25 = .ok (.bipush 10, 2) := by decide +kernel
theorem dX6_bath_27 : decode cX6_bath 27 = .ok (.if_icmp .ge 7, 3) := by decide +kernel
theorem dX6_bath_30 : decode cX6_bath 30 = .ok (.iconst 1, 1) := by decide +kernel
theorem dX6_bath_31 : decode cX6_bath 31 = .ok (.goto 4, 3) := by decide +kernel
theorem dX6_bath_34 : decode cX6_bath 34 = .ok (.iconst 0, 1) := by decide +kernel
theorem dX6_bath_35 : decode cX6_bath 35 = .ok (.invokevirtual 87, 3) := by decide +kernel
theorem dX6_bath_38 : decode cX6_bath 38 = .ok (.ifCond .ne 5, 3) := by decide +kernel
theorem dX6_bath_41 : decode cX6_bath 41 = .ok (.iconst 0, 1) := by decide +kernel
theorem dX6_bath_42 : decode cX6_bath 42 = .ok (.ireturn, 1) := by decide +kernel
theorem dX6_bath_43 : decode cX6_bath 43 = .ok (.aload_n 0, 1) := by decide +kernel
theorem dX6_bath_44 : decode cX6_bath 44 = .ok (.getfield 22, 3) := by decide +kernel
theorem dX6_bath_47 : decode cX6_bath 47 = .ok (.aload_n 0, 1) := by decide +kernel
theorem dX6_bath_48 : decode cX6_bath 48 = .ok (.getfield 81, 3) := by decide +kernel
theorem dX6_bath_51 : decode cX6_bath 51 = .ok (.iload_n 1, 1) := by decide +kernel
theorem dX6_bath_52 : decode cX6_bath 52 = .ok (.iastore, 1) := by decide +kernel
theorem dX6_bath_53 : decode cX6_bath 53 = .ok (.aload_n 0, 1) := by decide +kernel
theorem dX6_bath_54 : decode cX6_bath 54 = .ok (.getfield 25, 3) := by decide +kernel
theorem dX6_bath_57 : decode cX6_bath 57 = .ok (.aload_n 0, 1) := by decide +kernel
theorem dX6_bath_58 : decode cX6_bath 58 = .ok (.getfield 81, 3) := by decide +kernel
theorem dX6_bath_61 : decode cX6_bath 61 = .ok (.iload_n 2, 1) := by decide +kernel
theorem dX6_bath_62 : decode cX6_bath 62 = .ok (.iastore, 1) := by decide +kernel
theorem dX6_bath_63 : decode cX6_bath 63 = .ok (.aload_n 0, 1) := by decide +kernel
theorem dX6_bath_64 : decode cX6_bath 64 = .ok (.getfield 28, 3) := by decide +kernel
theorem dX6_bath_67 : decode cX6_bath 67 = .ok (.aload_n 0, 1) := by decide +kernel
theorem dX6_bath_68 : decode cX6_bath 68 = .ok (.getfield 81, 3) := by decide +kernel
theorem dX6_bath_71 : decode cX6_bath 71 = .ok (.bipush 100, 2) := by decide +kernel
theorem dX6_bath_73 : decode cX6_bath 73 = .ok (.iastore, 1) := by decide +kernel
theorem dX6_bath_74 : decode cX6_bath 74 = .ok (.aload_n 0, 1) := by decide +kernel
theorem dX6_bath_75 : decode cX6_bath 75 = .ok (.dup, 1) := by decide +kernel
theorem dX6_bath_76 : decode cX6_bath 76 = .ok (.getfield 81, 3) := by decide +kernel
theorem dX6_bath_79 : decode cX6_bath 79 = .ok (.iconst 1, 1) := by decide +kernel
theorem dX6_bath_80 : decode cX6_bath 80 = .ok (.iadd, 1) := by decide +kernel
theorem dX6_bath_81 : decode cX6_bath 81 = .ok (.putfield 81, 3) := by decide +kernel
theorem dX6_bath_84 : decode cX6_bath 84 = .ok (.aload_n 0, 1) := by decide +kernel
theorem dX6_bath_85 : decode cX6_bath 85 = .ok (.getfield 81, 3) := by decide +kernel
theorem dX6_bath_88 : decode cX6_bath 88 = .ok (.iconst 1, 1) := by decide +kernel
theorem dX6_bath_89 : decode cX6_bath 89 = .ok (.isub, 1) := by decide +kernel
theorem dX6_bath_90 : decode cX6_bath 90 = .ok (.ireturn, 1) := by decide +kernel
theorem dX6_freshen_0 : decode cX6_freshen 0 = .ok (.aload_n 0, 1) := by decide +kernel
theorem dX6_freshen_1 : decode cX6_freshen 1 = .ok (.aload_n 0, 1) := by decide +kernel
theorem dX6_freshen_2 : decode cX6_freshen 2 = .ok (.iload_n 1, 1) := by decide +kernel
theorem dX6_freshen_3 : decode cX6_freshen 3 = .ok (.invokevirtual 106, 3) := by decide +kernel
theorem dX6_freshen_6 : decode cX6_freshen 6 = .ok (.invokevirtual 98, 3) := by decide +kernel
theorem dX6_freshen_9 : decode cX6_freshen 9 = .ok (.ifCond .ne 5, 3) := by decide +kernel
theorem dX6_freshen_12 : decode cX6_freshen 12 = .ok (.iconst 0, 1) := by decide +kernel
theorem dX6_freshen_13 : decode cX6_freshen 13 = .ok (.ireturn, 1) := by decide +kernel
theorem dX6_freshen_14 : decode cX6_freshen 14 = .ok (.aload_n 0, 1) := by decide +kernel
theorem dX6_freshen_15 : decode cX6_freshen 15 = .ok (.getfield 28, 3) := by decide +kernel
theorem dX6_freshen_18 : decode cX6_freshen 18 = .ok (.iload_n 1, 1) := by decide +kernel
theorem dX6_freshen_19 : decode cX6_freshen 19 = .ok (.iaload, 1) := by decide +kernel
theorem dX6_freshen_20 : decode cX6_freshen 20 = .ok (.istore_n 2, 1) := by decide +kernel
theorem dX6_freshen_21 : decode cX6_freshen 21 = .ok (.aload_n 0, 1) := by decide +kernel
theorem dX6_freshen_22 : decode cX6_freshen 22 = .ok (.getfield 28, 3) := by decide +kernel
theorem dX6_freshen_25 : decode cX6_freshen 25 = .ok (.iload_n 1, 1) := by decide +kernel
theorem dX6_freshen_26 : decode cX6_freshen 26 = .ok (.bipush 100, 2) := by decide +kernel
theorem dX6_freshen_28 : decode cX6_freshen 28 = .ok (.iastore, 1) := by decide +kernel
theorem dX6_freshen_29 : decode cX6_freshen 29 = .ok (.iload_n 2, 1) := by decide +kernel
theorem dX6_freshen_30 : decode cX6_freshen 30 = .ok (.ireturn, 1) := by decide +kernel
theorem dX6_strength_0 : decode cX6_strength 0 = .ok (.aload_n 0, 1) := by decide +kernel
theorem dX6_strength_1 : decode cX6_strength 1 = .ok (.aload_n 0, 1) := by decide +kernel
theorem dX6_strength_2 : decode cX6_strength 2 = .ok (.iload_n 1, 1) := by decide +kernel
theorem dX6_strength_3 : decode cX6_strength 3 = .ok (.invokevirtual 106, 3) := by decide +kernel
theorem dX6_strength_6 : decode cX6_strength 6 = .ok (.invokevirtual 98, 3) := by decide +kernel
theorem dX6_strength_9 : decode cX6_strength 9 = .ok (.ifCond .eq 12, 3) := by decide +kernel
theorem dX6_strength_12 : decode cX6_strength 12 = .ok (.aload_n 0, 1) := by decide +kernel
theorem dX6_strength_13 : decode cX6_strength 13 = .ok (.getfield 28, 3) := by decide +kernel
theorem dX6_strength_16 : decode cX6_strength 16 = .ok (.iload_n 1, 1) := by decide +kernel
theorem dX6_strength_17 : decode cX6_strength 17 = .ok (.iaload, 1) := by decide +kernel
theorem dX6_strength_18 : decode cX6_strength 18 = .ok (.goto 4, 3) := by decide +kernel
theorem dX6_strength_21 : decode cX6_strength 21 = .ok (.iconst 0, 1) := by decide +kernel
theorem dX6_strength_22 : decode cX6_strength 22 = .ok (.ireturn, 1) := by decide +kernel
theorem dX6_order_0 : decode cX6_order 0 = .ok (.aload_n 0, 1) := by decide +kernel
theorem dX6_order_1 : decode cX6_order 1 = .ok (.aload_n 0, 1) := by decide +kernel
theorem dX6_order_2 : decode cX6_order 2 = .ok (.iload_n 1, 1) := by decide +kernel
theorem dX6_order_3 : decode cX6_order 3 = .ok (.invokevirtual 95, 3) := by decide +kernel
theorem dX6_order_6 : decode cX6_order 6 = .ok (.ifCond .eq 16, 3) := by decide +kernel
theorem dX6_order_9 : decode cX6_order 9 = .ok (.iload_n 3, 1) := by decide +kernel
theorem dX6_order_10 : decode cX6_order 10 = .ok (.iconst 0, 1) := by decide +kernel
theorem dX6_order_11 : decode cX6_order 11 = .ok (.iconst 3, 1) := by decide +kernel
theorem dX6_order_12 : decode cX6_order 12 = .ok (.invokestatic 74, 3) := by decide +kernel
theorem dX6_order_15 : decode cX6_order 15 = .ok (.ifCond .eq 7, 3) := by decide +kernel
theorem dX6_order_18 : decode cX6_order 18 = .ok (.iconst 1, 1) := by decide +kernel
theorem dX6_order_19 : decode cX6_order 19 = .ok (.goto 4, 3) := by decide +kernel
theorem dX6_order_22 : decode cX6_order 22 = .ok (.iconst 0, 1) := by decide +kernel
theorem dX6_order_23 : decode cX6_order 23 = .ok (.iload_n 2, 1) := by decide +kernel
theorem dX6_order_24 : decode cX6_order 24 = .ok (.iconst 1, 1) := by decide +kernel
theorem dX6_order_25 : decode cX6_order 25 = .ok (.bipush 40, 2) := by decide +kernel
theorem dX6_order_27 : decode cX6_order 27 = .ok (.invokestatic 74, 3) := by decide +kernel
theorem dX6_order_30 : decode cX6_order 30 = .ok (.aload_n 0, 1) := by decide +kernel
theorem dX6_order_31 : decode cX6_order 31 = .ok (.getfield 84, 3) := by decide +kernel
theorem dX6_order_34 : decode cX6_order 34 = .ok (.bipush 40, 2) := by decide +kernel
theorem dX6_order_36 : decode cX6_order 36 = .ok (.if_icmp .ge 7, 3) := by decide +kernel
theorem dX6_order_39 : decode cX6_order 39 = .ok (.iconst 1, 1) := by decide +kernel
theorem dX6_order_40 : decode cX6_order 40 = .ok (.goto 4, 3) := by decide +kernel
theorem dX6_order_43 : decode cX6_order 43 = .ok (.iconst 0, 1) := by decide +kernel
theorem dX6_order_44 : decode cX6_order 44 = .ok (.invokevirtual 109, 3) := by decide +kernel
theorem dX6_order_47 : decode cX6_order 47 = .ok (.ifCond .ne 5, 3) := by decide +kernel
theorem dX6_order_50 : decode cX6_order 50 = .ok (.iconst 0, 1) := by decide +kernel
theorem dX6_order_51 : decode cX6_order 51 = .ok (.ireturn, 1) := by decide +kernel
theorem dX6_order_52 : decode cX6_order 52 = .ok (.aload_n 0, 1) := by decide +kernel
theorem dX6_order_53 : decode cX6_order 53 = .ok (.getfield 31, 3) := by decide +kernel
theorem dX6_order_56 : decode cX6_order 56 = .ok (.aload_n 0, 1) := by decide +kernel
theorem dX6_order_57 : decode cX6_order 57 = .ok (.getfield 84, 3) := by decide +kernel
theorem dX6_order_60 : decode cX6_order 60 = .ok (.iload_n 1, 1) := by decide +kernel
theorem dX6_order_61 : decode cX6_order 61 = .ok (.iastore, 1) := by decide +kernel
theorem dX6_order_62 : decode cX6_order 62 = .ok (.aload_n 0, 1) := by decide +kernel
theorem dX6_order_63 : decode cX6_order 63 = .ok (.getfield 34, 3) := by decide +kernel
theorem dX6_order_66 : decode cX6_order 66 = .ok (.aload_n 0, 1) := by decide +kernel
theorem dX6_order_67 : decode cX6_order 67 = .ok (.getfield 84, 3) := by decide +kernel
theorem dX6_order_70 : decode cX6_order 70 = .ok (.iload_n 2, 1) := by decide +kernel
theorem dX6_order_71 : decode cX6_order 71 = .ok (.iastore, 1) := by decide +kernel
theorem dX6_order_72 : decode cX6_order 72 = .ok (.aload_n 0, 1) := by decide +kernel
theorem dX6_order_73 : decode cX6_order 73 = .ok (.getfield 37, 3) := by decide +kernel
theorem dX6_order_76 : decode cX6_order 76 = .ok (.aload_n 0, 1) := by decide +kernel
theorem dX6_order_77 : decode cX6_order 77 = .ok (.getfield 84, 3) := by decide +kernel
theorem dX6_order_80 : decode cX6_order 80 = .ok (.iload_n 3, 1) := by decide +kernel
theorem dX6_order_81 : decode cX6_order 81 = .ok (.iastore, 1) := by decide +kernel
theorem dX6_order_82 : decode cX6_order 82 = .ok (.aload_n 0, 1) := by decide +kernel
theorem dX6_order_83 : decode cX6_order 83 = .ok (.dup, 1) := by decide +kernel
theorem dX6_order_84 : decode cX6_order 84 = .ok (.getfield 84, 3) := by decide +kernel
theorem dX6_order_87 : decode cX6_order 87 = .ok (.iconst 1, 1) := by decide +kernel
theorem dX6_order_88 : decode cX6_order 88 = .ok (.iadd, 1) := by decide +kernel
theorem dX6_order_89 : decode cX6_order 89 = .ok (.putfield 84, 3) := by decide +kernel
theorem dX6_order_92 : decode cX6_order 92 = .ok (.aload_n 0, 1) := by decide +kernel
theorem dX6_order_93 : decode cX6_order 93 = .ok (.getfield 84, 3) := by decide +kernel
theorem dX6_order_96 : decode cX6_order 96 = .ok (.iconst 1, 1) := by decide +kernel
theorem dX6_order_97 : decode cX6_order 97 = .ok (.isub, 1) := by decide +kernel
theorem dX6_order_98 : decode cX6_order 98 = .ok (.ireturn, 1) := by decide +kernel
theorem dX6_off_0 : decode cX6_off 0 = .ok (.aload_n 0, 1) := by decide +kernel
theorem dX6_off_1 : decode cX6_off 1 = .ok (.getfield 7, 3) := by decide +kernel
theorem dX6_off_4 : decode cX6_off 4 = .ok (.iconst 2, 1) := by decide +kernel
theorem dX6_off_5 : decode cX6_off 5 = .ok (.iload_n 1, 1) := by decide +kernel
theorem dX6_off_6 : decode cX6_off 6 = .ok (.imul, 1) := by decide +kernel
theorem dX6_off_7 : decode cX6_off 7 = .ok (.iaload, 1) := by decide +kernel
theorem dX6_off_8 : decode cX6_off 8 = .ok (.iload_n 2, 1) := by decide +kernel
theorem dX6_off_9 : decode cX6_off 9 = .ok (.imul, 1) := by decide +kernel
theorem dX6_off_10 : decode cX6_off 10 = .ok (.bipush 100, 2) := by decide +kernel
theorem dX6_off_12 : decode cX6_off 12 = .ok (.idiv, 1) := by decide +kernel
theorem dX6_off_13 : decode cX6_off 13 = .ok (.iload_n 3, 1) := by decide +kernel
theorem dX6_off_14 : decode cX6_off 14 = .ok (.iadd, 1) := by decide +kernel
theorem dX6_off_15 : decode cX6_off 15 = .ok (.istore 5, 2) := by decide +kernel
theorem dX6_off_17 : decode cX6_off 17 = .ok (.aload_n 0, 1) := by decide +kernel
theorem dX6_off_18 : decode cX6_off 18 = .ok (.getfield 7, 3) := by decide +kernel
theorem dX6_off_21 : decode cX6_off 21 = .ok (.iconst 2, 1) := by decide +kernel
theorem dX6_off_22 : decode cX6_off 22 = .ok (.iload_n 1, 1) := by decide +kernel
theorem dX6_off_23 : decode cX6_off 23 = .ok (.imul, 1) := by decide +kernel
theorem dX6_off_24 : decode cX6_off 24 = .ok (.iconst 1, 1) := by decide +kernel
theorem dX6_off_25 : decode cX6_off 25 = .ok (.iadd, 1) := by decide +kernel
theorem dX6_off_26 : decode cX6_off 26 = .ok (.iaload, 1) := by decide +kernel
theorem dX6_off_27 : decode cX6_off 27 = .ok (.iload_n 2, 1) := by decide +kernel
theorem dX6_off_28 : decode cX6_off 28 = .ok (.imul, 1) := by decide +kernel
theorem dX6_off_29 : decode cX6_off 29 = .ok (.bipush 100, 2) := by decide +kernel
theorem dX6_off_31 : decode cX6_off 31 = .ok (.idiv, 1) := by decide +kernel
theorem dX6_off_32 : decode cX6_off 32 = .ok (.iload 4, 2) := by decide +kernel
theorem dX6_off_34 : decode cX6_off 34 = .ok (.iadd, 1) := by decide +kernel
theorem dX6_off_35 : decode cX6_off 35 = .ok (.istore 6, 2) := by decide +kernel
theorem dX6_off_37 : decode cX6_off 37 = .ok (.iload 5, 2) := by decide +kernel
theorem dX6_off_39 : decode cX6_off 39 = .ok (.aload_n 0, 1) := by decide +kernel
theorem dX6_off_40 : decode cX6_off 40 = .ok (.getfield 7, 3) := by decide +kernel
theorem dX6_off_43 : decode cX6_off 43 = .ok (.iconst 2, 1) := by decide +kernel
theorem dX6_off_44 : decode cX6_off 44 = .ok (.iload_n 1, 1) := by decide +kernel
theorem dX6_off_45 : decode cX6_off 45 = .ok (.imul, 1) := by decide +kernel
theorem dX6_off_46 : decode cX6_off 46 = .ok (.iaload, 1) := by decide +kernel
theorem dX6_off_47 : decode cX6_off 47 = .ok (.invokestatic 102, 3) := by decide +kernel
theorem dX6_off_50 : decode cX6_off 50 = .ok (.iload 6, 2) := by decide +kernel
theorem dX6_off_52 : decode cX6_off 52 = .ok (.aload_n 0, 1) := by decide +kernel
theorem dX6_off_53 : decode cX6_off 53 = .ok (.getfield 7, 3) := by decide +kernel
theorem dX6_off_56 : decode cX6_off 56 = .ok (.iconst 2, 1) := by decide +kernel
theorem dX6_off_57 : decode cX6_off 57 = .ok (.iload_n 1, 1) := by decide +kernel
theorem dX6_off_58 : decode cX6_off 58 = .ok (.imul, 1) := by decide +kernel
theorem dX6_off_59 : decode cX6_off 59 = .ok (.iconst 1, 1) := by decide +kernel
theorem dX6_off_60 : decode cX6_off 60 = .ok (.iadd, 1) := by decide +kernel
theorem dX6_off_61 : decode cX6_off 61 = .ok (.iaload, 1) := by decide +kernel
theorem dX6_off_62 : decode cX6_off 62 = .ok (.invokestatic 102, 3) := by decide +kernel
theorem dX6_off_65 : decode cX6_off 65 = .ok (.iadd, 1) := by decide +kernel
theorem dX6_off_66 : decode cX6_off 66 = .ok (.ireturn, 1) := by decide +kernel
theorem dX6_offBy_0 : decode cX6_offBy 0 = .ok (.aload_n 0, 1) := by decide +kernel
theorem dX6_offBy_1 : decode cX6_offBy 1 = .ok (.getfield 37, 3) := by decide +kernel
theorem dX6_offBy_4 : decode cX6_offBy 4 = .ok (.iload_n 1, 1) := by decide +kernel
theorem dX6_offBy_5 : decode cX6_offBy 5 = .ok (.iaload, 1) := by decide +kernel
theorem dX6_offBy_6 : decode cX6_offBy 6 = .ok (.istore_n 3, 1) := by decide +kernel
theorem dX6_offBy_7 : decode cX6_offBy 7 = .ok (.aload_n 0, 1) := by decide +kernel
theorem dX6_offBy_8 : decode cX6_offBy 8 = .ok (.aload_n 0, 1) := by decide +kernel
theorem dX6_offBy_9 : decode cX6_offBy 9 = .ok (.getfield 31, 3) := by decide +kernel
theorem dX6_offBy_12 : decode cX6_offBy 12 = .ok (.iload_n 1, 1) := by decide +kernel
theorem dX6_offBy_13 : decode cX6_offBy 13 = .ok (.iaload, 1) := by decide +kernel
theorem dX6_offBy_14 : decode cX6_offBy 14 = .ok (.aload_n 0, 1) := by decide +kernel
theorem dX6_offBy_15 : decode cX6_offBy 15 = .ok (.getfield 28, 3) := by decide +kernel
theorem dX6_offBy_18 : decode cX6_offBy 18 = .ok (.iload_n 2, 1) := by decide +kernel
theorem dX6_offBy_19 : decode cX6_offBy 19 = .ok (.iaload, 1) := by decide +kernel
theorem dX6_offBy_20 : decode cX6_offBy 20 = .ok (.aload_n 0, 1) := by decide +kernel
theorem dX6_offBy_21 : decode cX6_offBy 21 = .ok (.getfield 19, 3) := by decide +kernel
theorem dX6_offBy_24 : decode cX6_offBy 24 = .ok (.iconst 2, 1) := by decide +kernel
theorem dX6_offBy_25 : decode cX6_offBy 25 = .ok (.iload_n 3, 1) := by decide +kernel
theorem dX6_offBy_26 : decode cX6_offBy 26 = .ok (.imul, 1) := by decide +kernel
theorem dX6_offBy_27 : decode cX6_offBy 27 = .ok (.iaload, 1) := by decide +kernel
theorem dX6_offBy_28 : decode cX6_offBy 28 = .ok (.aload_n 0, 1) := by decide +kernel
theorem dX6_offBy_29 : decode cX6_offBy 29 = .ok (.getfield 16, 3) := by decide +kernel
theorem dX6_offBy_32 : decode cX6_offBy 32 = .ok (.aload_n 0, 1) := by decide +kernel
theorem dX6_offBy_33 : decode cX6_offBy 33 = .ok (.getfield 22, 3) := by decide +kernel
theorem dX6_offBy_36 : decode cX6_offBy 36 = .ok (.iload_n 2, 1) := by decide +kernel
theorem dX6_offBy_37 : decode cX6_offBy 37 = .ok (.iaload, 1) := by decide +kernel
theorem dX6_offBy_38 : decode cX6_offBy 38 = .ok (.iaload, 1) := by decide +kernel
theorem dX6_offBy_39 : decode cX6_offBy 39 = .ok (.iadd, 1) := by decide +kernel
theorem dX6_offBy_40 : decode cX6_offBy 40 = .ok (.aload_n 0, 1) := by decide +kernel
theorem dX6_offBy_41 : decode cX6_offBy 41 = .ok (.getfield 19, 3) := by decide +kernel
theorem dX6_offBy_44 : decode cX6_offBy 44 = .ok (.iconst 2, 1) := by decide +kernel
theorem dX6_offBy_45 : decode cX6_offBy 45 = .ok (.iload_n 3, 1) := by decide +kernel
theorem dX6_offBy_46 : decode cX6_offBy 46 = .ok (.imul, 1) := by decide +kernel
theorem dX6_offBy_47 : decode cX6_offBy 47 = .ok (.iconst 1, 1) := by decide +kernel
theorem dX6_offBy_48 : decode cX6_offBy 48 = .ok (.iadd, 1) := by decide +kernel
theorem dX6_offBy_49 : decode cX6_offBy 49 = .ok (.iaload, 1) := by decide +kernel
theorem dX6_offBy_50 : decode cX6_offBy 50 = .ok (.invokevirtual 113, 3) := by decide +kernel
theorem dX6_offBy_53 : decode cX6_offBy 53 = .ok (.ireturn, 1) := by decide +kernel
theorem dX6_offOf_0 : decode cX6_offOf 0 = .ok (.aload_n 0, 1) := by decide +kernel
theorem dX6_offOf_1 : decode cX6_offOf 1 = .ok (.aload_n 0, 1) := by decide +kernel
theorem dX6_offOf_2 : decode cX6_offOf 2 = .ok (.getfield 31, 3) := by decide +kernel
theorem dX6_offOf_5 : decode cX6_offOf 5 = .ok (.iload_n 1, 1) := by decide +kernel
theorem dX6_offOf_6 : decode cX6_offOf 6 = .ok (.iaload, 1) := by decide +kernel
theorem dX6_offOf_7 : decode cX6_offOf 7 = .ok (.aload_n 0, 1) := by decide +kernel
theorem dX6_offOf_8 : decode cX6_offOf 8 = .ok (.getfield 46, 3) := by decide +kernel
theorem dX6_offOf_11 : decode cX6_offOf 11 = .ok (.iload_n 1, 1) := by decide +kernel
theorem dX6_offOf_12 : decode cX6_offOf 12 = .ok (.iaload, 1) := by decide +kernel
theorem dX6_offOf_13 : decode cX6_offOf 13 = .ok (.aload_n 0, 1) := by decide +kernel
theorem dX6_offOf_14 : decode cX6_offOf 14 = .ok (.getfield 52, 3) := by decide +kernel
theorem dX6_offOf_17 : decode cX6_offOf 17 = .ok (.iload_n 1, 1) := by decide +kernel
theorem dX6_offOf_18 : decode cX6_offOf 18 = .ok (.iaload, 1) := by decide +kernel
theorem dX6_offOf_19 : decode cX6_offOf 19 = .ok (.aload_n 0, 1) := by decide +kernel
theorem dX6_offOf_20 : decode cX6_offOf 20 = .ok (.getfield 49, 3) := by decide +kernel
theorem dX6_offOf_23 : decode cX6_offOf 23 = .ok (.iload_n 1, 1) := by decide +kernel
theorem dX6_offOf_24 : decode cX6_offOf 24 = .ok (.iaload, 1) := by decide +kernel
theorem dX6_offOf_25 : decode cX6_offOf 25 = .ok (.iadd, 1) := by decide +kernel
theorem dX6_offOf_26 : decode cX6_offOf 26 = .ok (.aload_n 0, 1) := by decide +kernel
theorem dX6_offOf_27 : decode cX6_offOf 27 = .ok (.getfield 55, 3) := by decide +kernel
theorem dX6_offOf_30 : decode cX6_offOf 30 = .ok (.iload_n 1, 1) := by decide +kernel
theorem dX6_offOf_31 : decode cX6_offOf 31 = .ok (.iaload, 1) := by decide +kernel
theorem dX6_offOf_32 : decode cX6_offOf 32 = .ok (.invokevirtual 113, 3) := by decide +kernel
theorem dX6_offOf_35 : decode cX6_offOf 35 = .ok (.ireturn, 1) := by decide +kernel
theorem dX6_dyeIn_0 : decode cX6_dyeIn 0 = .ok (.aload_n 0, 1) := by decide +kernel
theorem dX6_dyeIn_1 : decode cX6_dyeIn 1 = .ok (.getfield 40, 3) := by decide +kernel
theorem dX6_dyeIn_4 : decode cX6_dyeIn 4 = .ok (.iload_n 1, 1) := by decide +kernel
theorem dX6_dyeIn_5 : decode cX6_dyeIn 5 = .ok (.iconst 1, 1) := by decide +kernel
theorem dX6_dyeIn_6 : decode cX6_dyeIn 6 = .ok (.iastore, 1) := by decide +kernel
theorem dX6_dyeIn_7 : decode cX6_dyeIn 7 = .ok (.aload_n 0, 1) := by decide +kernel
theorem dX6_dyeIn_8 : decode cX6_dyeIn 8 = .ok (.getfield 43, 3) := by decide +kernel
theorem dX6_dyeIn_11 : decode cX6_dyeIn 11 = .ok (.iload_n 1, 1) := by decide +kernel
theorem dX6_dyeIn_12 : decode cX6_dyeIn 12 = .ok (.iload_n 2, 1) := by decide +kernel
theorem dX6_dyeIn_13 : decode cX6_dyeIn 13 = .ok (.iastore, 1) := by decide +kernel
theorem dX6_dyeIn_14 : decode cX6_dyeIn 14 = .ok (.aload_n 0, 1) := by decide +kernel
theorem dX6_dyeIn_15 : decode cX6_dyeIn 15 = .ok (.getfield 46, 3) := by decide +kernel
theorem dX6_dyeIn_18 : decode cX6_dyeIn 18 = .ok (.iload_n 1, 1) := by decide +kernel
theorem dX6_dyeIn_19 : decode cX6_dyeIn 19 = .ok (.aload_n 0, 1) := by decide +kernel
theorem dX6_dyeIn_20 : decode cX6_dyeIn 20 = .ok (.getfield 28, 3) := by decide +kernel
theorem dX6_dyeIn_23 : decode cX6_dyeIn 23 = .ok (.iload_n 2, 1) := by decide +kernel
theorem dX6_dyeIn_24 : decode cX6_dyeIn 24 = .ok (.iaload, 1) := by decide +kernel
theorem dX6_dyeIn_25 : decode cX6_dyeIn 25 = .ok (.iastore, 1) := by decide +kernel
theorem dX6_dyeIn_26 : decode cX6_dyeIn 26 = .ok (.aload_n 0, 1) := by decide +kernel
theorem dX6_dyeIn_27 : decode cX6_dyeIn 27 = .ok (.getfield 49, 3) := by decide +kernel
theorem dX6_dyeIn_30 : decode cX6_dyeIn 30 = .ok (.iload_n 1, 1) := by decide +kernel
theorem dX6_dyeIn_31 : decode cX6_dyeIn 31 = .ok (.aload_n 0, 1) := by decide +kernel
theorem dX6_dyeIn_32 : decode cX6_dyeIn 32 = .ok (.getfield 16, 3) := by decide +kernel
theorem dX6_dyeIn_35 : decode cX6_dyeIn 35 = .ok (.aload_n 0, 1) := by decide +kernel
theorem dX6_dyeIn_36 : decode cX6_dyeIn 36 = .ok (.getfield 22, 3) := by decide +kernel
theorem dX6_dyeIn_39 : decode cX6_dyeIn 39 = .ok (.iload_n 2, 1) := by decide +kernel
theorem dX6_dyeIn_40 : decode cX6_dyeIn 40 = .ok (.iaload, 1) := by decide +kernel
theorem dX6_dyeIn_41 : decode cX6_dyeIn 41 = .ok (.iaload, 1) := by decide +kernel
theorem dX6_dyeIn_42 : decode cX6_dyeIn 42 = .ok (.iastore, 1) := by decide +kernel
theorem dX6_dyeIn_43 : decode cX6_dyeIn 43 = .ok (.aload_n 0, 1) := by decide +kernel
theorem dX6_dyeIn_44 : decode cX6_dyeIn 44 = .ok (.getfield 52, 3) := by decide +kernel
theorem dX6_dyeIn_47 : decode cX6_dyeIn 47 = .ok (.iload_n 1, 1) := by decide +kernel
theorem dX6_dyeIn_48 : decode cX6_dyeIn 48 = .ok (.aload_n 0, 1) := by decide +kernel
theorem dX6_dyeIn_49 : decode cX6_dyeIn 49 = .ok (.getfield 19, 3) := by decide +kernel
theorem dX6_dyeIn_52 : decode cX6_dyeIn 52 = .ok (.iconst 2, 1) := by decide +kernel
theorem dX6_dyeIn_53 : decode cX6_dyeIn 53 = .ok (.aload_n 0, 1) := by decide +kernel
theorem dX6_dyeIn_54 : decode cX6_dyeIn 54 = .ok (.getfield 37, 3) := by decide +kernel
theorem dX6_dyeIn_57 : decode cX6_dyeIn 57 = .ok (.iload_n 1, 1) := by decide +kernel
theorem dX6_dyeIn_58 : decode cX6_dyeIn 58 = .ok (.iaload, 1) := by decide +kernel
theorem dX6_dyeIn_59 : decode cX6_dyeIn 59 = .ok (.imul, 1) := by decide +kernel
theorem dX6_dyeIn_60 : decode cX6_dyeIn 60 = .ok (.iaload, 1) := by decide +kernel
theorem dX6_dyeIn_61 : decode cX6_dyeIn 61 = .ok (.iastore, 1) := by decide +kernel
theorem dX6_dyeIn_62 : decode cX6_dyeIn 62 = .ok (.aload_n 0, 1) := by decide +kernel
theorem dX6_dyeIn_63 : decode cX6_dyeIn 63 = .ok (.getfield 55, 3) := by decide +kernel
theorem dX6_dyeIn_66 : decode cX6_dyeIn 66 = .ok (.iload_n 1, 1) := by decide +kernel
theorem dX6_dyeIn_67 : decode cX6_dyeIn 67 = .ok (.aload_n 0, 1) := by decide +kernel
theorem dX6_dyeIn_68 : decode cX6_dyeIn 68 = .ok (.getfield 19, 3) := by decide +kernel
theorem dX6_dyeIn_71 : decode cX6_dyeIn 71 = .ok (.iconst 2, 1) := by decide +kernel
theorem dX6_dyeIn_72 : decode cX6_dyeIn 72 = .ok (.aload_n 0, 1) := by decide +kernel
theorem dX6_dyeIn_73 : decode cX6_dyeIn 73 = .ok (.getfield 37, 3) := by decide +kernel
theorem dX6_dyeIn_76 : decode cX6_dyeIn 76 = .ok (.iload_n 1, 1) := by decide +kernel
theorem dX6_dyeIn_77 : decode cX6_dyeIn 77 = .ok (.iaload, 1) := by decide +kernel
theorem dX6_dyeIn_78 : decode cX6_dyeIn 78 = .ok (.imul, 1) := by decide +kernel
theorem dX6_dyeIn_79 : decode cX6_dyeIn 79 = .ok (.iconst 1, 1) := by decide +kernel
theorem dX6_dyeIn_80 : decode cX6_dyeIn 80 = .ok (.iadd, 1) := by decide +kernel
theorem dX6_dyeIn_81 : decode cX6_dyeIn 81 = .ok (.iaload, 1) := by decide +kernel
theorem dX6_dyeIn_82 : decode cX6_dyeIn 82 = .ok (.iastore, 1) := by decide +kernel
theorem dX6_dyeIn_83 : decode cX6_dyeIn 83 = .ok (.aload_n 0, 1) := by decide +kernel
theorem dX6_dyeIn_84 : decode cX6_dyeIn 84 = .ok (.getfield 28, 3) := by decide +kernel
theorem dX6_dyeIn_87 : decode cX6_dyeIn 87 = .ok (.iload_n 2, 1) := by decide +kernel
theorem dX6_dyeIn_88 : decode cX6_dyeIn 88 = .ok (.aload_n 0, 1) := by decide +kernel
theorem dX6_dyeIn_89 : decode cX6_dyeIn 89 = .ok (.getfield 28, 3) := by decide +kernel
theorem dX6_dyeIn_92 : decode cX6_dyeIn 92 = .ok (.iload_n 2, 1) := by decide +kernel
theorem dX6_dyeIn_93 : decode cX6_dyeIn 93 = .ok (.iaload, 1) := by decide +kernel
theorem dX6_dyeIn_94 : decode cX6_dyeIn 94 = .ok (.aload_n 0, 1) := by decide +kernel
theorem dX6_dyeIn_95 : decode cX6_dyeIn 95 = .ok (.getfield 34, 3) := by decide +kernel
theorem dX6_dyeIn_98 : decode cX6_dyeIn 98 = .ok (.iload_n 1, 1) := by decide +kernel
theorem dX6_dyeIn_99 : decode cX6_dyeIn 99 = .ok (.iaload, 1) := by decide +kernel
theorem dX6_dyeIn_100 : decode cX6_dyeIn 100 = .ok (.if_icmp .le 19, 3) := by decide +kernel
theorem dX6_dyeIn_103 : decode cX6_dyeIn 103 = .ok (.aload_n 0, 1) := by decide +kernel
theorem dX6_dyeIn_104 : decode cX6_dyeIn 104 = .ok (.getfield 28, 3) := by decide +kernel
theorem dX6_dyeIn_107 : decode cX6_dyeIn 107 = .ok (.iload_n 2, 1) := by decide +kernel
theorem dX6_dyeIn_108 : decode cX6_dyeIn 108 = .ok (.iaload, 1) := by decide +kernel
theorem dX6_dyeIn_109 : decode cX6_dyeIn 109 = .ok (.aload_n 0, 1) := by decide +kernel
theorem dX6_dyeIn_110 : decode cX6_dyeIn 110 = .ok (.getfield 34, 3) := by decide +kernel
theorem dX6_dyeIn_113 : decode cX6_dyeIn 113 = .ok (.iload_n 1, 1) := by decide +kernel
theorem dX6_dyeIn_114 : decode cX6_dyeIn 114 = .ok (.iaload, 1) := by decide +kernel
theorem dX6_dyeIn_115 : decode cX6_dyeIn 115 = .ok (.isub, 1) := by decide +kernel
theorem dX6_dyeIn_116 : decode cX6_dyeIn 116 = .ok (.goto 4, 3) := by decide +kernel
theorem dX6_dyeIn_119 : decode cX6_dyeIn 119 = .ok (.iconst 0, 1) := by decide +kernel
theorem dX6_dyeIn_120 : decode cX6_dyeIn 120 = .ok (.iastore, 1) := by decide +kernel
theorem dX6_dyeIn_121 : decode cX6_dyeIn 121 = .ok (.return_, 1) := by decide +kernel
theorem dX6_place_0 : decode cX6_place 0 = .ok (.aload_n 0, 1) := by decide +kernel
theorem dX6_place_1 : decode cX6_place 1 = .ok (.iload_n 1, 1) := by decide +kernel
theorem dX6_place_2 : decode cX6_place 2 = .ok (.invokevirtual 117, 3) := by decide +kernel
theorem dX6_place_5 : decode cX6_place 5 = .ok (.istore_n 2, 1) := by decide +kernel
theorem dX6_place_6 : decode cX6_place 6 = .ok (.iload_n 2, 1) := by decide +kernel
theorem dX6_place_7 : decode cX6_place 7 = .ok (.ifCond .eq 16, 3) := by decide +kernel
theorem dX6_place_10 : decode cX6_place 10 = .ok (.aload_n 0, 1) := by decide +kernel
theorem dX6_place_11 : decode cX6_place 11 = .ok (.getfield 40, 3) := by decide +kernel
theorem dX6_place_14 : decode cX6_place 14 = .ok (.iload_n 1, 1) := by decide +kernel
theorem dX6_place_15 : decode cX6_place 15 = .ok (.iaload, 1) := by decide +kernel
theorem dX6_place_16 : decode cX6_place 16 = .ok (.ifCond .ne 7, 3) := by decide +kernel
theorem dX6_place_19 : decode cX6_place 19 = .ok (.iconst 1, 1) := by decide +kernel
theorem dX6_place_20 : decode cX6_place 20 = .ok (.goto 4, 3) := by decide +kernel
theorem dX6_place_23 : decode cX6_place 23 = .ok (.iconst 0, 1) := by decide +kernel
theorem dX6_place_24 : decode cX6_place 24 = .ok (.istore_n 3, 1) := by decide +kernel
theorem dX6_place_25 : decode cX6_place 25 = .ok (.iconst (-1), 1) := by decide +kernel
theorem dX6_place_26 : decode cX6_place 26 = .ok (.istore 4, 2) := by decide +kernel
theorem dX6_place_28 : decode cX6_place 28 = .ok (.iconst 0, 1) := by decide +kernel
theorem dX6_place_29 : decode cX6_place 29 = .ok (.istore 5, 2) := by decide +kernel
theorem dX6_place_31 : decode cX6_place 31 = .ok (.iload 5, 2) := by decide +kernel
theorem dX6_place_33 : decode cX6_place 33 = .ok (.aload_n 0, 1) := by decide +kernel
theorem dX6_place_34 : decode cX6_place 34 = .ok (.getfield 81, 3) := by decide +kernel
theorem dX6_place_37 : decode cX6_place 37 = .ok (.if_icmp .ge 94, 3) := by decide +kernel
theorem dX6_place_40 : decode cX6_place 40 = .ok (.iload_n 3, 1) := by decide +kernel
theorem dX6_place_41 : decode cX6_place 41 = .ok (.ifCond .eq 90, 3) := by decide +kernel
theorem dX6_place_44 : decode cX6_place 44 = .ok (.aload_n 0, 1) := by decide +kernel
theorem dX6_place_45 : decode cX6_place 45 = .ok (.getfield 25, 3) := by decide +kernel
theorem dX6_place_48 : decode cX6_place 48 = .ok (.iload 5, 2) := by decide +kernel
theorem dX6_place_50 : decode cX6_place 50 = .ok (.iaload, 1) := by decide +kernel
theorem dX6_place_51 : decode cX6_place 51 = .ok (.aload_n 0, 1) := by decide +kernel
theorem dX6_place_52 : decode cX6_place 52 = .ok (.getfield 31, 3) := by decide +kernel
theorem dX6_place_55 : decode cX6_place 55 = .ok (.iload_n 1, 1) := by decide +kernel
theorem dX6_place_56 : decode cX6_place 56 = .ok (.iaload, 1) := by decide +kernel
theorem dX6_place_57 : decode cX6_place 57 = .ok (.if_icmp .ne 28, 3) := by decide +kernel
theorem dX6_place_60 : decode cX6_place 60 = .ok (.aload_n 0, 1) := by decide +kernel
theorem dX6_place_61 : decode cX6_place 61 = .ok (.iload_n 1, 1) := by decide +kernel
theorem dX6_place_62 : decode cX6_place 62 = .ok (.iload 5, 2) := by decide +kernel
theorem dX6_place_64 : decode cX6_place 64 = .ok (.invokevirtual 120, 3) := by decide +kernel
theorem dX6_place_67 : decode cX6_place 67 = .ok (.aload_n 0, 1) := by decide +kernel
theorem dX6_place_68 : decode cX6_place 68 = .ok (.getfield 13, 3) := by decide +kernel
theorem dX6_place_71 : decode cX6_place 71 = .ok (.aload_n 0, 1) := by decide +kernel
theorem dX6_place_72 : decode cX6_place 72 = .ok (.getfield 31, 3) := by decide +kernel
theorem dX6_place_75 : decode cX6_place 75 = .ok (.iload_n 1, 1) := by decide +kernel
theorem dX6_place_76 : decode cX6_place 76 = .ok (.iaload, 1) := by decide +kernel
theorem dX6_place_77 : decode cX6_place 77 = .ok (.iaload, 1) := by decide +kernel
theorem dX6_place_78 : decode cX6_place 78 = .ok (.if_icmp .gt 7, 3) := by decide +kernel
theorem dX6_place_81 : decode cX6_place 81 = .ok (.iconst 1, 1) := by decide +kernel
theorem dX6_place_82 : decode cX6_place 82 = .ok (.goto 4, 3) := by decide +kernel
theorem dX6_place_85 : decode cX6_place 85 = .ok (.iconst 0, 1) := by decide +kernel
theorem dX6_place_86 : decode cX6_place 86 = .ok (.istore 6, 2) := by decide +kernel
theorem dX6_place_88 : decode cX6_place 88 = .ok (.iload 6, 2) := by decide +kernel
theorem dX6_place_90 : decode cX6_place 90 = .ok (.ifCond .eq 31, 3) := by decide +kernel
theorem dX6_place_93 : decode cX6_place 93 = .ok (.iload 4, 2) := by decide +kernel
theorem dX6_place_95 : decode cX6_place 95 = .ok (.iconst (-1), 1) := by decide +kernel
theorem dX6_place_96 : decode cX6_place 96 = .ok (.if_icmp .eq 20, 3) := by decide +kernel
theorem dX6_place_99 : decode cX6_place 99 = .ok (.aload_n 0, 1) := by decide +kernel
theorem dX6_place_100 : decode cX6_place 100 = .ok (.getfield 28, 3) := by decide +kernel
theorem dX6_place_103 : decode cX6_place 103 = .ok (.iload 5, 2) := by decide +kernel
theorem dX6_place_105 : decode cX6_place 105 = .ok (.iaload, 1) := by decide +kernel
theorem dX6_place_106 : decode cX6_place 106 = .ok (.aload_n 0, 1) := by decide +kernel
theorem dX6_place_107 : decode cX6_place 107 = .ok (.getfield 28, 3) := by decide +kernel
theorem dX6_place_110 : decode cX6_place 110 = .ok (.iload 4, 2) := by decide +kernel
theorem dX6_place_112 : decode cX6_place 112 = .ok (.iaload, 1) := by decide +kernel
theorem dX6_place_113 : decode cX6_place 113 = .ok (.if_icmp .ge 8, 3) := by decide +kernel
theorem dX6_place_116 : decode cX6_place 116 = .ok (.iload 5, 2) := by decide +kernel
theorem dX6_place_118 : decode cX6_place 118 = .ok (.goto 5, 3) := by decide +kernel
theorem dX6_place_121 : decode cX6_place 121 = .ok (.iload 4, 2) := by decide +kernel
theorem dX6_place_123 : decode cX6_place 123 = .ok (.istore 4, 2) := by decide +kernel
theorem dX6_place_125 : decode cX6_place 125 = .ok (.iinc 5 1, 3) := by decide +kernel
theorem dX6_place_128 : decode cX6_place 128 = .ok (.goto (-97), 3) := by decide +kernel
theorem dX6_place_131 : decode cX6_place 131 = .ok (.aload_n 0, 1) := by decide +kernel
theorem dX6_place_132 : decode cX6_place 132 = .ok (.iload_n 2, 1) := by decide +kernel
theorem dX6_place_133 : decode cX6_place 133 = .ok (.iload_n 3, 1) := by decide +kernel
theorem dX6_place_134 : decode cX6_place 134 = .ok (.iload 4, 2) := by decide +kernel
theorem dX6_place_136 : decode cX6_place 136 = .ok (.iconst (-1), 1) := by decide +kernel
theorem dX6_place_137 : decode cX6_place 137 = .ok (.if_icmp .eq 7, 3) := by decide +kernel
theorem dX6_place_140 : decode cX6_place 140 = .ok (.iconst 1, 1) := by decide +kernel
theorem dX6_place_141 : decode cX6_place 141 = .ok (.goto 4, 3) := by decide +kernel
theorem dX6_place_144 : decode cX6_place 144 = .ok (.iconst 0, 1) := by decide +kernel
theorem dX6_place_145 : decode cX6_place 145 = .ok (.invokevirtual 109, 3) := by decide +kernel
theorem dX6_place_148 : decode cX6_place 148 = .ok (.ifCond .ne 5, 3) := by decide +kernel
theorem dX6_place_151 : decode cX6_place 151 = .ok (.iconst 0, 1) := by decide +kernel
theorem dX6_place_152 : decode cX6_place 152 = .ok (.ireturn, 1) := by decide +kernel
theorem dX6_place_153 : decode cX6_place 153 = .ok (.aload_n 0, 1) := by decide +kernel
theorem dX6_place_154 : decode cX6_place 154 = .ok (.iload_n 1, 1) := by decide +kernel
theorem dX6_place_155 : decode cX6_place 155 = .ok (.iload 4, 2) := by decide +kernel
theorem dX6_place_157 : decode cX6_place 157 = .ok (.invokevirtual 123, 3) := by decide +kernel
theorem dX6_place_160 : decode cX6_place 160 = .ok (.iload 4, 2) := by decide +kernel
theorem dX6_place_162 : decode cX6_place 162 = .ok (.ireturn, 1) := by decide +kernel
theorem dX6_dye_0 : decode cX6_dye 0 = .ok (.aload_n 0, 1) := by decide +kernel
theorem dX6_dye_1 : decode cX6_dye 1 = .ok (.iload_n 1, 1) := by decide +kernel
theorem dX6_dye_2 : decode cX6_dye 2 = .ok (.invokevirtual 117, 3) := by decide +kernel
theorem dX6_dye_5 : decode cX6_dye 5 = .ok (.ifCond .eq 15, 3) := by decide +kernel
theorem dX6_dye_8 : decode cX6_dye 8 = .ok (.aload_n 0, 1) := by decide +kernel
theorem dX6_dye_9 : decode cX6_dye 9 = .ok (.iload_n 2, 1) := by decide +kernel
theorem dX6_dye_10 : decode cX6_dye 10 = .ok (.invokevirtual 106, 3) := by decide +kernel
theorem dX6_dye_13 : decode cX6_dye 13 = .ok (.ifCond .eq 7, 3) := by decide +kernel
theorem dX6_dye_16 : decode cX6_dye 16 = .ok (.iconst 1, 1) := by decide +kernel
theorem dX6_dye_17 : decode cX6_dye 17 = .ok (.goto 4, 3) := by decide +kernel
theorem dX6_dye_20 : decode cX6_dye 20 = .ok (.iconst 0, 1) := by decide +kernel
theorem dX6_dye_21 : decode cX6_dye 21 = .ok (.istore_n 3, 1) := by decide +kernel
theorem dX6_dye_22 : decode cX6_dye 22 = .ok (.aload_n 0, 1) := by decide +kernel
theorem dX6_dye_23 : decode cX6_dye 23 = .ok (.iload_n 3, 1) := by decide +kernel
theorem dX6_dye_24 : decode cX6_dye 24 = .ok (.iload_n 3, 1) := by decide +kernel
theorem dX6_dye_25 : decode cX6_dye 25 = .ok (.ifCond .eq 22, 3) := by decide +kernel
theorem dX6_dye_28 : decode cX6_dye 28 = .ok (.aload_n 0, 1) := by decide +kernel
theorem dX6_dye_29 : decode cX6_dye 29 = .ok (.getfield 25, 3) := by decide +kernel
theorem dX6_dye_32 : decode cX6_dye 32 = .ok (.iload_n 2, 1) := by decide +kernel
theorem dX6_dye_33 : decode cX6_dye 33 = .ok (.iaload, 1) := by decide +kernel
theorem dX6_dye_34 : decode cX6_dye 34 = .ok (.aload_n 0, 1) := by decide +kernel
theorem dX6_dye_35 : decode cX6_dye 35 = .ok (.getfield 31, 3) := by decide +kernel
theorem dX6_dye_38 : decode cX6_dye 38 = .ok (.iload_n 1, 1) := by decide +kernel
theorem dX6_dye_39 : decode cX6_dye 39 = .ok (.iaload, 1) := by decide +kernel
theorem dX6_dye_40 : decode cX6_dye 40 = .ok (.if_icmp .ne 7, 3) := by decide +kernel
theorem dX6_dye_43 : decode cX6_dye 43 = .ok (.iconst 1, 1) := by decide +kernel
theorem dX6_dye_44 : decode cX6_dye 44 = .ok (.goto 4, 3) := by decide +kernel
theorem dX6_dye_47 : decode cX6_dye 47 = .ok (.iconst 0, 1) := by decide +kernel
theorem dX6_dye_48 : decode cX6_dye 48 = .ok (.iload_n 3, 1) := by decide +kernel
theorem dX6_dye_49 : decode cX6_dye 49 = .ok (.ifCond .eq 16, 3) := by decide +kernel
theorem dX6_dye_52 : decode cX6_dye 52 = .ok (.aload_n 0, 1) := by decide +kernel
theorem dX6_dye_53 : decode cX6_dye 53 = .ok (.getfield 40, 3) := by decide +kernel
theorem dX6_dye_56 : decode cX6_dye 56 = .ok (.iload_n 1, 1) := by decide +kernel
theorem dX6_dye_57 : decode cX6_dye 57 = .ok (.iaload, 1) := by decide +kernel
theorem dX6_dye_58 : decode cX6_dye 58 = .ok (.ifCond .ne 7, 3) := by decide +kernel
theorem dX6_dye_61 : decode cX6_dye 61 = .ok (.iconst 1, 1) := by decide +kernel
theorem dX6_dye_62 : decode cX6_dye 62 = .ok (.goto 4, 3) := by decide +kernel
theorem dX6_dye_65 : decode cX6_dye 65 = .ok (.iconst 0, 1) := by decide +kernel
theorem dX6_dye_66 : decode cX6_dye 66 = .ok (.invokevirtual 109, 3) := by decide +kernel
theorem dX6_dye_69 : decode cX6_dye 69 = .ok (.ifCond .ne 5, 3) := by decide +kernel
theorem dX6_dye_72 : decode cX6_dye 72 = .ok (.iconst 0, 1) := by decide +kernel
theorem dX6_dye_73 : decode cX6_dye 73 = .ok (.ireturn, 1) := by decide +kernel
theorem dX6_dye_74 : decode cX6_dye 74 = .ok (.aload_n 0, 1) := by decide +kernel
theorem dX6_dye_75 : decode cX6_dye 75 = .ok (.iload_n 1, 1) := by decide +kernel
theorem dX6_dye_76 : decode cX6_dye 76 = .ok (.iload_n 2, 1) := by decide +kernel
theorem dX6_dye_77 : decode cX6_dye 77 = .ok (.invokevirtual 123, 3) := by decide +kernel
theorem dX6_dye_80 : decode cX6_dye 80 = .ok (.aload_n 0, 1) := by decide +kernel
theorem dX6_dye_81 : decode cX6_dye 81 = .ok (.iload_n 1, 1) := by decide +kernel
theorem dX6_dye_82 : decode cX6_dye 82 = .ok (.invokevirtual 127, 3) := by decide +kernel
theorem dX6_dye_85 : decode cX6_dye 85 = .ok (.ireturn, 1) := by decide +kernel
theorem dX6_claim_0 : decode cX6_claim 0 = .ok (.aload_n 0, 1) := by decide +kernel
theorem dX6_claim_1 : decode cX6_claim 1 = .ok (.iload_n 1, 1) := by decide +kernel
theorem dX6_claim_2 : decode cX6_claim 2 = .ok (.invokevirtual 117, 3) := by decide +kernel
theorem dX6_claim_5 : decode cX6_claim 5 = .ok (.istore_n 2, 1) := by decide +kernel
theorem dX6_claim_6 : decode cX6_claim 6 = .ok (.aload_n 0, 1) := by decide +kernel
theorem dX6_claim_7 : decode cX6_claim 7 = .ok (.iload_n 2, 1) := by decide +kernel
theorem dX6_claim_8 : decode cX6_claim 8 = .ok (.iload_n 2, 1) := by decide +kernel
theorem dX6_claim_9 : decode cX6_claim 9 = .ok (.ifCond .eq 36, 3) := by decide +kernel
theorem dX6_claim_12 : decode cX6_claim 12 = .ok (.aload_n 0, 1) := by decide +kernel
theorem dX6_claim_13 : decode cX6_claim 13 = .ok (.getfield 40, 3) := by decide +kernel
theorem dX6_claim_16 : decode cX6_claim 16 = .ok (.iload_n 1, 1) := by decide +kernel
theorem dX6_claim_17 : decode cX6_claim 17 = .ok (.iaload, 1) := by decide +kernel
theorem dX6_claim_18 : decode cX6_claim 18 = .ok (.iconst 1, 1) := by decide +kernel
theorem dX6_claim_19 : decode cX6_claim 19 = .ok (.if_icmp .ne 26, 3) := by decide +kernel
theorem dX6_claim_22 : decode cX6_claim 22 = .ok (.aload_n 0, 1) := by decide +kernel
theorem dX6_claim_23 : decode cX6_claim 23 = .ok (.iload_n 1, 1) := by decide +kernel
theorem dX6_claim_24 : decode cX6_claim 24 = .ok (.invokevirtual 127, 3) := by decide +kernel
theorem dX6_claim_27 : decode cX6_claim 27 = .ok (.aload_n 0, 1) := by decide +kernel
theorem dX6_claim_28 : decode cX6_claim 28 = .ok (.getfield 13, 3) := by decide +kernel
theorem dX6_claim_31 : decode cX6_claim 31 = .ok (.aload_n 0, 1) := by decide +kernel
theorem dX6_claim_32 : decode cX6_claim 32 = .ok (.getfield 31, 3) := by decide +kernel
theorem dX6_claim_35 : decode cX6_claim 35 = .ok (.iload_n 1, 1) := by decide +kernel
theorem dX6_claim_36 : decode cX6_claim 36 = .ok (.iaload, 1) := by decide +kernel
theorem dX6_claim_37 : decode cX6_claim 37 = .ok (.iaload, 1) := by decide +kernel
theorem dX6_claim_38 : decode cX6_claim 38 = .ok (.if_icmp .le 7, 3) := by decide +kernel
theorem dX6_claim_41 : decode cX6_claim 41 = .ok (.iconst 1, 1) := by decide +kernel
theorem dX6_claim_42 : decode cX6_claim 42 = .ok (.goto 4, 3) := by decide +kernel
theorem dX6_claim_45 : decode cX6_claim 45 = .ok (.iconst 0, 1) := by decide +kernel
theorem dX6_claim_46 : decode cX6_claim 46 = .ok (.invokevirtual 87, 3) := by decide +kernel
theorem dX6_claim_49 : decode cX6_claim 49 = .ok (.ifCond .ne 5, 3) := by decide +kernel
theorem dX6_claim_52 : decode cX6_claim 52 = .ok (.iconst 0, 1) := by decide +kernel
theorem dX6_claim_53 : decode cX6_claim 53 = .ok (.ireturn, 1) := by decide +kernel
theorem dX6_claim_54 : decode cX6_claim 54 = .ok (.aload_n 0, 1) := by decide +kernel
theorem dX6_claim_55 : decode cX6_claim 55 = .ok (.getfield 31, 3) := by decide +kernel
theorem dX6_claim_58 : decode cX6_claim 58 = .ok (.iload_n 1, 1) := by decide +kernel
theorem dX6_claim_59 : decode cX6_claim 59 = .ok (.iaload, 1) := by decide +kernel
theorem dX6_claim_60 : decode cX6_claim 60 = .ok (.istore_n 3, 1) := by decide +kernel
theorem dX6_claim_61 : decode cX6_claim 61 = .ok (.aload_n 0, 1) := by decide +kernel
theorem dX6_claim_62 : decode cX6_claim 62 = .ok (.iload_n 3, 1) := by decide +kernel
theorem dX6_claim_63 : decode cX6_claim 63 = .ok (.bipush 100, 2) := by decide +kernel
theorem dX6_claim_65 : decode cX6_claim 65 = .ok (.aload_n 0, 1) := by decide +kernel
theorem dX6_claim_66 : decode cX6_claim 66 = .ok (.getfield 52, 3) := by decide +kernel
theorem dX6_claim_69 : decode cX6_claim 69 = .ok (.iload_n 1, 1) := by decide +kernel
theorem dX6_claim_70 : decode cX6_claim 70 = .ok (.iaload, 1) := by decide +kernel
theorem dX6_claim_71 : decode cX6_claim 71 = .ok (.aload_n 0, 1) := by decide +kernel
theorem dX6_claim_72 : decode cX6_claim 72 = .ok (.getfield 49, 3) := by decide +kernel
theorem dX6_claim_75 : decode cX6_claim 75 = .ok (.iload_n 1, 1) := by decide +kernel
theorem dX6_claim_76 : decode cX6_claim 76 = .ok (.iaload, 1) := by decide +kernel
theorem dX6_claim_77 : decode cX6_claim 77 = .ok (.iadd, 1) := by decide +kernel
theorem dX6_claim_78 : decode cX6_claim 78 = .ok (.aload_n 0, 1) := by decide +kernel
theorem dX6_claim_79 : decode cX6_claim 79 = .ok (.getfield 55, 3) := by decide +kernel
theorem dX6_claim_82 : decode cX6_claim 82 = .ok (.iload_n 1, 1) := by decide +kernel
theorem dX6_claim_83 : decode cX6_claim 83 = .ok (.iaload, 1) := by decide +kernel
theorem dX6_claim_84 : decode cX6_claim 84 = .ok (.invokevirtual 113, 3) := by decide +kernel
theorem dX6_claim_87 : decode cX6_claim 87 = .ok (.istore 4, 2) := by decide +kernel
theorem dX6_claim_89 : decode cX6_claim 89 = .ok (.aload_n 0, 1) := by decide +kernel
theorem dX6_claim_90 : decode cX6_claim 90 = .ok (.iload_n 3, 1) := by decide +kernel
theorem dX6_claim_91 : decode cX6_claim 91 = .ok (.aload_n 0, 1) := by decide +kernel
theorem dX6_claim_92 : decode cX6_claim 92 = .ok (.getfield 46, 3) := by decide +kernel
theorem dX6_claim_95 : decode cX6_claim 95 = .ok (.iload_n 1, 1) := by decide +kernel
theorem dX6_claim_96 : decode cX6_claim 96 = .ok (.iaload, 1) := by decide +kernel
theorem dX6_claim_97 : decode cX6_claim 97 = .ok (.aload_n 0, 1) := by decide +kernel
theorem dX6_claim_98 : decode cX6_claim 98 = .ok (.getfield 52, 3) := by decide +kernel
theorem dX6_claim_101 : decode cX6_claim 101 = .ok (.iload_n 1, 1) := by decide +kernel
theorem dX6_claim_102 : decode cX6_claim 102 = .ok (.iaload, 1) := by decide +kernel
theorem dX6_claim_103 : decode cX6_claim 103 = .ok (.aload_n 0, 1) := by decide +kernel
theorem dX6_claim_104 : decode cX6_claim 104 = .ok (.getfield 55, 3) := by decide +kernel
theorem dX6_claim_107 : decode cX6_claim 107 = .ok (.iload_n 1, 1) := by decide +kernel
theorem dX6_claim_108 : decode cX6_claim 108 = .ok (.iaload, 1) := by decide +kernel
theorem dX6_claim_109 : decode cX6_claim 109 = .ok (.invokevirtual 113, 3) := by decide +kernel
theorem dX6_claim_112 : decode cX6_claim 112 = .ok (.istore 5, 2) := by decide +kernel
theorem dX6_claim_114 : decode cX6_claim 114 = .ok (.aload_n 0, 1) := by decide +kernel
theorem dX6_claim_115 : decode cX6_claim 115 = .ok (.iload_n 3, 1) := by decide +kernel
theorem dX6_claim_116 : decode cX6_claim 116 = .ok (.aload_n 0, 1) := by decide +kernel
theorem dX6_claim_117 : decode cX6_claim 117 = .ok (.getfield 46, 3) := by decide +kernel
theorem dX6_claim_120 : decode cX6_claim 120 = .ok (.iload_n 1, 1) := by decide +kernel
theorem dX6_claim_121 : decode cX6_claim 121 = .ok (.iaload, 1) := by decide +kernel
theorem dX6_claim_122 : decode cX6_claim 122 = .ok (.aload_n 0, 1) := by decide +kernel
theorem dX6_claim_123 : decode cX6_claim 123 = .ok (.getfield 49, 3) := by decide +kernel
theorem dX6_claim_126 : decode cX6_claim 126 = .ok (.iload_n 1, 1) := by decide +kernel
theorem dX6_claim_127 : decode cX6_claim 127 = .ok (.iaload, 1) := by decide +kernel
theorem dX6_claim_128 : decode cX6_claim 128 = .ok (.iconst 0, 1) := by decide +kernel
theorem dX6_claim_129 : decode cX6_claim 129 = .ok (.invokevirtual 113, 3) := by decide +kernel
theorem dX6_claim_132 : decode cX6_claim 132 = .ok (.istore 6, 2) := by decide +kernel
theorem dX6_claim_134 : decode cX6_claim 134 = .ok (.iload 4, 2) := by decide +kernel
theorem dX6_claim_136 : decode cX6_claim 136 = .ok (.iload 5, 2) := by decide +kernel
theorem dX6_claim_138 : decode cX6_claim 138 = .ok (.if_icmp .gt 14, 3) := by decide +kernel
theorem dX6_claim_141 : decode cX6_claim 141 = .ok (.iload 4, 2) := by decide +kernel
theorem dX6_claim_143 : decode cX6_claim 143 = .ok (.iload 6, 2) := by decide +kernel
theorem dX6_claim_145 : decode cX6_claim 145 = .ok (.if_icmp .gt 7, 3) := by decide +kernel
theorem dX6_claim_148 : decode cX6_claim 148 = .ok (.iconst 0, 1) := by decide +kernel
theorem dX6_claim_149 : decode cX6_claim 149 = .ok (.goto 15, 3) := by decide +kernel
theorem dX6_claim_152 : decode cX6_claim 152 = .ok (.iload 5, 2) := by decide +kernel
theorem dX6_claim_154 : decode cX6_claim 154 = .ok (.iload 6, 2) := by decide +kernel
theorem dX6_claim_156 : decode cX6_claim 156 = .ok (.if_icmp .gt 7, 3) := by decide +kernel
theorem dX6_claim_159 : decode cX6_claim 159 = .ok (.iconst 1, 1) := by decide +kernel
theorem dX6_claim_160 : decode cX6_claim 160 = .ok (.goto 4, 3) := by decide +kernel
theorem dX6_claim_163 : decode cX6_claim 163 = .ok (.iconst 2, 1) := by decide +kernel
theorem dX6_claim_164 : decode cX6_claim 164 = .ok (.istore 7, 2) := by decide +kernel
theorem dX6_claim_166 : decode cX6_claim 166 = .ok (.aload_n 0, 1) := by decide +kernel
theorem dX6_claim_167 : decode cX6_claim 167 = .ok (.getfield 40, 3) := by decide +kernel
theorem dX6_claim_170 : decode cX6_claim 170 = .ok (.iload_n 1, 1) := by decide +kernel
theorem dX6_claim_171 : decode cX6_claim 171 = .ok (.iconst 2, 1) := by decide +kernel
theorem dX6_claim_172 : decode cX6_claim 172 = .ok (.iastore, 1) := by decide +kernel
theorem dX6_claim_173 : decode cX6_claim 173 = .ok (.aload_n 0, 1) := by decide +kernel
theorem dX6_claim_174 : decode cX6_claim 174 = .ok (.getfield 58, 3) := by decide +kernel
theorem dX6_claim_177 : decode cX6_claim 177 = .ok (.iconst 3, 1) := by decide +kernel
theorem dX6_claim_178 : decode cX6_claim 178 = .ok (.aload_n 0, 1) := by decide +kernel
theorem dX6_claim_179 : decode cX6_claim 179 = .ok (.getfield 22, 3) := by decide +kernel
theorem dX6_claim_182 : decode cX6_claim 182 = .ok (.aload_n 0, 1) := by decide +kernel
theorem dX6_claim_183 : decode cX6_claim 183 = .ok (.getfield 43, 3) := by decide +kernel
theorem dX6_claim_186 : decode cX6_claim 186 = .ok (.iload_n 1, 1) := by decide +kernel
theorem dX6_claim_187 : decode cX6_claim 187 = .ok (.iaload, 1) := by decide +kernel
theorem dX6_claim_188 : decode cX6_claim 188 = .ok (.iaload, 1) := by decide +kernel
theorem dX6_claim_189 : decode cX6_claim 189 = .ok (.imul, 1) := by decide +kernel
theorem dX6_claim_190 : decode cX6_claim 190 = .ok (.iload 7, 2) := by decide +kernel
theorem dX6_claim_192 : decode cX6_claim 192 = .ok (.iadd, 1) := by decide +kernel
theorem dX6_claim_193 : decode cX6_claim 193 = .ok (.dup2, 1) := by decide +kernel
theorem dX6_claim_194 : decode cX6_claim 194 = .ok (.iaload, 1) := by decide +kernel
theorem dX6_claim_195 : decode cX6_claim 195 = .ok (.iconst 1, 1) := by decide +kernel
theorem dX6_claim_196 : decode cX6_claim 196 = .ok (.iadd, 1) := by decide +kernel
theorem dX6_claim_197 : decode cX6_claim 197 = .ok (.iastore, 1) := by decide +kernel
theorem dX6_claim_198 : decode cX6_claim 198 = .ok (.iload 7, 2) := by decide +kernel
theorem dX6_claim_200 : decode cX6_claim 200 = .ok (.ireturn, 1) := by decide +kernel
theorem dX6_stateOf_0 : decode cX6_stateOf 0 = .ok (.aload_n 0, 1) := by decide +kernel
theorem dX6_stateOf_1 : decode cX6_stateOf 1 = .ok (.aload_n 0, 1) := by decide +kernel
theorem dX6_stateOf_2 : decode cX6_stateOf 2 = .ok (.iload_n 1, 1) := by decide +kernel
theorem dX6_stateOf_3 : decode cX6_stateOf 3 = .ok (.invokevirtual 117, 3) := by decide +kernel
theorem dX6_stateOf_6 : decode cX6_stateOf 6 = .ok (.invokevirtual 98, 3) := by decide +kernel
theorem dX6_stateOf_9 : decode cX6_stateOf 9 = .ok (.ifCond .eq 12, 3) := by decide +kernel
theorem dX6_stateOf_12 : decode cX6_stateOf 12 = .ok (.aload_n 0, 1) := by decide +kernel
theorem dX6_stateOf_13 : decode cX6_stateOf 13 = .ok (.getfield 40, 3) := by decide +kernel
theorem dX6_stateOf_16 : decode cX6_stateOf 16 = .ok (.iload_n 1, 1) := by decide +kernel
theorem dX6_stateOf_17 : decode cX6_stateOf 17 = .ok (.iaload, 1) := by decide +kernel
theorem dX6_stateOf_18 : decode cX6_stateOf 18 = .ok (.goto 4, 3) := by decide +kernel
theorem dX6_stateOf_21 : decode cX6_stateOf 21 = .ok (.iconst 0, 1) := by decide +kernel
theorem dX6_stateOf_22 : decode cX6_stateOf 22 = .ok (.ireturn, 1) := by decide +kernel
theorem dX6_colour_0 : decode cX6_colour 0 = .ok (.aload_n 0, 1) := by decide +kernel
theorem dX6_colour_1 : decode cX6_colour 1 = .ok (.iload_n 1, 1) := by decide +kernel
theorem dX6_colour_2 : decode cX6_colour 2 = .ok (.invokevirtual 117, 3) := by decide +kernel
theorem dX6_colour_5 : decode cX6_colour 5 = .ok (.ifCond .eq 16, 3) := by decide +kernel
theorem dX6_colour_8 : decode cX6_colour 8 = .ok (.iload_n 2, 1) := by decide +kernel
theorem dX6_colour_9 : decode cX6_colour 9 = .ok (.iconst 0, 1) := by decide +kernel
theorem dX6_colour_10 : decode cX6_colour 10 = .ok (.iconst 1, 1) := by decide +kernel
theorem dX6_colour_11 : decode cX6_colour 11 = .ok (.invokestatic 74, 3) := by decide +kernel
theorem dX6_colour_14 : decode cX6_colour 14 = .ok (.ifCond .eq 7, 3) := by decide +kernel
theorem dX6_colour_17 : decode cX6_colour 17 = .ok (.iconst 1, 1) := by decide +kernel
theorem dX6_colour_18 : decode cX6_colour 18 = .ok (.goto 4, 3) := by decide +kernel
theorem dX6_colour_21 : decode cX6_colour 21 = .ok (.iconst 0, 1) := by decide +kernel
theorem dX6_colour_22 : decode cX6_colour 22 = .ok (.istore_n 3, 1) := by decide +kernel
theorem dX6_colour_23 : decode cX6_colour 23 = .ok (.aload_n 0, 1) := by decide +kernel
theorem dX6_colour_24 : decode cX6_colour 24 = .ok (.iload_n 3, 1) := by decide +kernel
theorem dX6_colour_25 : decode cX6_colour 25 = .ok (.iload_n 3, 1) := by decide +kernel
theorem dX6_colour_26 : decode cX6_colour 26 = .ok (.ifCond .eq 16, 3) := by decide +kernel
theorem dX6_colour_29 : decode cX6_colour 29 = .ok (.aload_n 0, 1) := by decide +kernel
theorem dX6_colour_30 : decode cX6_colour 30 = .ok (.getfield 40, 3) := by decide +kernel
theorem dX6_colour_33 : decode cX6_colour 33 = .ok (.iload_n 1, 1) := by decide +kernel
theorem dX6_colour_34 : decode cX6_colour 34 = .ok (.iaload, 1) := by decide +kernel
theorem dX6_colour_35 : decode cX6_colour 35 = .ok (.ifCond .eq 7, 3) := by decide +kernel
theorem dX6_colour_38 : decode cX6_colour 38 = .ok (.iconst 1, 1) := by decide +kernel
theorem dX6_colour_39 : decode cX6_colour 39 = .ok (.goto 4, 3) := by decide +kernel
theorem dX6_colour_42 : decode cX6_colour 42 = .ok (.iconst 0, 1) := by decide +kernel
theorem dX6_colour_43 : decode cX6_colour 43 = .ok (.invokevirtual 87, 3) := by decide +kernel
theorem dX6_colour_46 : decode cX6_colour 46 = .ok (.ifCond .ne 5, 3) := by decide +kernel
theorem dX6_colour_49 : decode cX6_colour 49 = .ok (.iconst 0, 1) := by decide +kernel
theorem dX6_colour_50 : decode cX6_colour 50 = .ok (.ireturn, 1) := by decide +kernel
theorem dX6_colour_51 : decode cX6_colour 51 = .ok (.aload_n 0, 1) := by decide +kernel
theorem dX6_colour_52 : decode cX6_colour 52 = .ok (.getfield 7, 3) := by decide +kernel
theorem dX6_colour_55 : decode cX6_colour 55 = .ok (.iconst 2, 1) := by decide +kernel
theorem dX6_colour_56 : decode cX6_colour 56 = .ok (.aload_n 0, 1) := by decide +kernel
theorem dX6_colour_57 : decode cX6_colour 57 = .ok (.getfield 31, 3) := by decide +kernel
theorem dX6_colour_60 : decode cX6_colour 60 = .ok (.iload_n 1, 1) := by decide +kernel
theorem dX6_colour_61 : decode cX6_colour 61 = .ok (.iaload, 1) := by decide +kernel
theorem dX6_colour_62 : decode cX6_colour 62 = .ok (.imul, 1) := by decide +kernel
theorem dX6_colour_63 : decode cX6_colour 63 = .ok (.iload_n 2, 1) := by decide +kernel
theorem dX6_colour_64 : decode cX6_colour 64 = .ok (.iadd, 1) := by decide +kernel
theorem dX6_colour_65 : decode cX6_colour 65 = .ok (.iaload, 1) := by decide +kernel
theorem dX6_colour_66 : decode cX6_colour 66 = .ok (.aload_n 0, 1) := by decide +kernel
theorem dX6_colour_67 : decode cX6_colour 67 = .ok (.getfield 46, 3) := by decide +kernel
theorem dX6_colour_70 : decode cX6_colour 70 = .ok (.iload_n 1, 1) := by decide +kernel
theorem dX6_colour_71 : decode cX6_colour 71 = .ok (.iaload, 1) := by decide +kernel
theorem dX6_colour_72 : decode cX6_colour 72 = .ok (.imul, 1) := by decide +kernel
theorem dX6_colour_73 : decode cX6_colour 73 = .ok (.bipush 100, 2) := by decide +kernel
theorem dX6_colour_75 : decode cX6_colour 75 = .ok (.idiv, 1) := by decide +kernel
theorem dX6_colour_76 : decode cX6_colour 76 = .ok (.istore 4, 2) := by decide +kernel
theorem dX6_colour_78 : decode cX6_colour 78 = .ok (.iload 4, 2) := by decide +kernel
theorem dX6_colour_80 : decode cX6_colour 80 = .ok (.iload_n 2, 1) := by decide +kernel
theorem dX6_colour_81 : decode cX6_colour 81 = .ok (.ifCond .ne 19, 3) := by decide +kernel
theorem dX6_colour_84 : decode cX6_colour 84 = .ok (.aload_n 0, 1) := by decide +kernel
theorem dX6_colour_85 : decode cX6_colour 85 = .ok (.getfield 52, 3) := by decide +kernel
theorem dX6_colour_88 : decode cX6_colour 88 = .ok (.iload_n 1, 1) := by decide +kernel
theorem dX6_colour_89 : decode cX6_colour 89 = .ok (.iaload, 1) := by decide +kernel
theorem dX6_colour_90 : decode cX6_colour 90 = .ok (.aload_n 0, 1) := by decide +kernel
theorem dX6_colour_91 : decode cX6_colour 91 = .ok (.getfield 49, 3) := by decide +kernel
theorem dX6_colour_94 : decode cX6_colour 94 = .ok (.iload_n 1, 1) := by decide +kernel
theorem dX6_colour_95 : decode cX6_colour 95 = .ok (.iaload, 1) := by decide +kernel
theorem dX6_colour_96 : decode cX6_colour 96 = .ok (.iadd, 1) := by decide +kernel
theorem dX6_colour_97 : decode cX6_colour 97 = .ok (.goto 9, 3) := by decide +kernel
theorem dX6_colour_100 : decode cX6_colour 100 = .ok (.aload_n 0, 1) := by decide +kernel
theorem dX6_colour_101 : decode cX6_colour 101 = .ok (.getfield 55, 3) := by decide +kernel
theorem dX6_colour_104 : decode cX6_colour 104 = .ok (.iload_n 1, 1) := by decide +kernel
theorem dX6_colour_105 : decode cX6_colour 105 = .ok (.iaload, 1) := by decide +kernel
theorem dX6_colour_106 : decode cX6_colour 106 = .ok (.iadd, 1) := by decide +kernel
theorem dX6_colour_107 : decode cX6_colour 107 = .ok (.ireturn, 1) := by decide +kernel
theorem dX6_colourByBath_0 : decode cX6_colourByBath 0 = .ok (.aload_n 0, 1) := by decide +kernel
theorem dX6_colourByBath_1 : decode cX6_colourByBath 1 = .ok (.iload_n 1, 1) := by decide +kernel
theorem dX6_colourByBath_2 : decode cX6_colourByBath 2 = .ok (.iload_n 2, 1) := by decide +kernel
theorem dX6_colourByBath_3 : decode cX6_colourByBath 3 = .ok (.invokevirtual 131, 3) := by decide +kernel
theorem dX6_colourByBath_6 : decode cX6_colourByBath 6 = .ok (.ireturn, 1) := by decide +kernel
theorem dX6_blamed_0 : decode cX6_blamed 0 = .ok (.aload_n 0, 1) := by decide +kernel
theorem dX6_blamed_1 : decode cX6_blamed 1 = .ok (.iload_n 1, 1) := by decide +kernel
theorem dX6_blamed_2 : decode cX6_blamed 2 = .ok (.invokestatic 91, 3) := by decide +kernel
theorem dX6_blamed_5 : decode cX6_blamed 5 = .ok (.iload_n 2, 1) := by decide +kernel
theorem dX6_blamed_6 : decode cX6_blamed 6 = .ok (.iconst 0, 1) := by decide +kernel
theorem dX6_blamed_7 : decode cX6_blamed 7 = .ok (.iconst 2, 1) := by decide +kernel
theorem dX6_blamed_8 : decode cX6_blamed 8 = .ok (.invokestatic 74, 3) := by decide +kernel
theorem dX6_blamed_11 : decode cX6_blamed 11 = .ok (.invokevirtual 87, 3) := by decide +kernel
theorem dX6_blamed_14 : decode cX6_blamed 14 = .ok (.ifCond .eq 16, 3) := by decide +kernel
theorem dX6_blamed_17 : decode cX6_blamed 17 = .ok (.aload_n 0, 1) := by decide +kernel
theorem dX6_blamed_18 : decode cX6_blamed 18 = .ok (.getfield 58, 3) := by decide +kernel
theorem dX6_blamed_21 : decode cX6_blamed 21 = .ok (.iconst 3, 1) := by decide +kernel
theorem dX6_blamed_22 : decode cX6_blamed 22 = .ok (.iload_n 1, 1) := by decide +kernel
theorem dX6_blamed_23 : decode cX6_blamed 23 = .ok (.imul, 1) := by decide +kernel
theorem dX6_blamed_24 : decode cX6_blamed 24 = .ok (.iload_n 2, 1) := by decide +kernel
theorem dX6_blamed_25 : decode cX6_blamed 25 = .ok (.iadd, 1) := by decide +kernel
theorem dX6_blamed_26 : decode cX6_blamed 26 = .ok (.iaload, 1) := by decide +kernel
theorem dX6_blamed_27 : decode cX6_blamed 27 = .ok (.goto 4, 3) := by decide +kernel
theorem dX6_blamed_30 : decode cX6_blamed 30 = .ok (.iconst 0, 1) := by decide +kernel
theorem dX6_blamed_31 : decode cX6_blamed 31 = .ok (.ireturn, 1) := by decide +kernel
theorem dX6_isPerson_0 : decode cX6_isPerson 0 = .ok (.iload_n 0, 1) := by decide +kernel
theorem dX6_isPerson_1 : decode cX6_isPerson 1 = .ok (.iconst 0, 1) := by decide +kernel
theorem dX6_isPerson_2 : decode cX6_isPerson 2 = .ok (.iconst 4, 1) := by decide +kernel
theorem dX6_isPerson_3 : decode cX6_isPerson 3 = .ok (.invokestatic 74, 3) := by decide +kernel
theorem dX6_isPerson_6 : decode cX6_isPerson 6 = .ok (.ireturn, 1) := by decide +kernel
theorem dX6_shrinks_0 : decode cX6_shrinks 0 = .ok (.aload_n 0, 1) := by decide +kernel
theorem dX6_shrinks_1 : decode cX6_shrinks 1 = .ok (.iload_n 1, 1) := by decide +kernel
theorem dX6_shrinks_2 : decode cX6_shrinks 2 = .ok (.invokestatic 91, 3) := by decide +kernel
theorem dX6_shrinks_5 : decode cX6_shrinks 5 = .ok (.iload_n 2, 1) := by decide +kernel
theorem dX6_shrinks_6 : decode cX6_shrinks 6 = .ok (.iconst 0, 1) := by decide +kernel
theorem dX6_shrinks_7 : decode cX6_shrinks 7 = .ok (.bipush 90, 2) := by decide +kernel
theorem dX6_shrinks_9 : decode cX6_shrinks 9 = .ok (.invokestatic 74, 3) := by decide +kernel
theorem dX6_shrinks_12 : decode cX6_shrinks 12 = .ok (.invokevirtual 87, 3) := by decide +kernel
theorem dX6_shrinks_15 : decode cX6_shrinks 15 = .ok (.ifCond .ne 5, 3) := by decide +kernel
theorem dX6_shrinks_18 : decode cX6_shrinks 18 = .ok (.iconst 0, 1) := by decide +kernel
theorem dX6_shrinks_19 : decode cX6_shrinks 19 = .ok (.ireturn, 1) := by decide +kernel
theorem dX6_shrinks_20 : decode cX6_shrinks 20 = .ok (.aload_n 0, 1) := by decide +kernel
theorem dX6_shrinks_21 : decode cX6_shrinks 21 = .ok (.getfield 61, 3) := by decide +kernel
theorem dX6_shrinks_24 : decode cX6_shrinks 24 = .ok (.iload_n 1, 1) := by decide +kernel
theorem dX6_shrinks_25 : decode cX6_shrinks 25 = .ok (.iaload, 1) := by decide +kernel
theorem dX6_shrinks_26 : decode cX6_shrinks 26 = .ok (.istore_n 3, 1) := by decide +kernel
theorem dX6_shrinks_27 : decode cX6_shrinks 27 = .ok (.aload_n 0, 1) := by decide +kernel
theorem dX6_shrinks_28 : decode cX6_shrinks 28 = .ok (.getfield 61, 3) := by decide +kernel
theorem dX6_shrinks_31 : decode cX6_shrinks 31 = .ok (.iload_n 1, 1) := by decide +kernel
theorem dX6_shrinks_32 : decode cX6_shrinks 32 = .ok (.iload_n 2, 1) := by decide +kernel
theorem dX6_shrinks_33 : decode cX6_shrinks 33 = .ok (.iastore, 1) := by decide +kernel
theorem dX6_shrinks_34 : decode cX6_shrinks 34 = .ok (.iload_n 3, 1) := by decide +kernel
theorem dX6_shrinks_35 : decode cX6_shrinks 35 = .ok (.ireturn, 1) := by decide +kernel
theorem dX6_give_0 : decode cX6_give 0 = .ok (.iload_n 1, 1) := by decide +kernel
theorem dX6_give_1 : decode cX6_give 1 = .ok (.invokestatic 134, 3) := by decide +kernel
theorem dX6_give_4 : decode cX6_give 4 = .ok (.ifCond .eq 21, 3) := by decide +kernel
theorem dX6_give_7 : decode cX6_give 7 = .ok (.iload_n 2, 1) := by decide +kernel
theorem dX6_give_8 : decode cX6_give 8 = .ok (.invokestatic 134, 3) := by decide +kernel
theorem dX6_give_11 : decode cX6_give 11 = .ok (.ifCond .eq 14, 3) := by decide +kernel
theorem dX6_give_14 : decode cX6_give 14 = .ok (.iload_n 3, 1) := by decide +kernel
theorem dX6_give_15 : decode cX6_give 15 = .ok (.invokestatic 91, 3) := by decide +kernel
theorem dX6_give_18 : decode cX6_give 18 = .ok (.ifCond .eq 7, 3) := by decide +kernel
theorem dX6_give_21 : decode cX6_give 21 = .ok (.iconst 1, 1) := by decide +kernel
theorem dX6_give_22 : decode cX6_give 22 = .ok (.goto 4, 3) := by decide +kernel
theorem dX6_give_25 : decode cX6_give 25 = .ok (.iconst 0, 1) := by decide +kernel
theorem dX6_give_26 : decode cX6_give 26 = .ok (.istore 5, 2) := by decide +kernel
theorem dX6_give_28 : decode cX6_give 28 = .ok (.iload 5, 2) := by decide +kernel
theorem dX6_give_30 : decode cX6_give 30 = .ok (.ifCond .eq 24, 3) := by decide +kernel
theorem dX6_give_33 : decode cX6_give 33 = .ok (.iload_n 1, 1) := by decide +kernel
theorem dX6_give_34 : decode cX6_give 34 = .ok (.iload_n 2, 1) := by decide +kernel
theorem dX6_give_35 : decode cX6_give 35 = .ok (.if_icmp .eq 19, 3) := by decide +kernel
theorem dX6_give_38 : decode cX6_give 38 = .ok (.iload 4, 2) := by decide +kernel
theorem dX6_give_40 : decode cX6_give 40 = .ok (.iconst 1, 1) := by decide +kernel
theorem dX6_give_41 : decode cX6_give 41 = .ok (.sipush 1000, 3) := by decide +kernel
theorem dX6_give_44 : decode cX6_give 44 = .ok (.invokestatic 74, 3) := by decide +kernel
theorem dX6_give_47 : decode cX6_give 47 = .ok (.ifCond .eq 7, 3) := by decide +kernel
theorem dX6_give_50 : decode cX6_give 50 = .ok (.iconst 1, 1) := by decide +kernel
theorem dX6_give_51 : decode cX6_give 51 = .ok (.goto 4, 3) := by decide +kernel
theorem dX6_give_54 : decode cX6_give 54 = .ok (.iconst 0, 1) := by decide +kernel
theorem dX6_give_55 : decode cX6_give 55 = .ok (.istore 6, 2) := by decide +kernel
theorem dX6_give_57 : decode cX6_give 57 = .ok (.iload 6, 2) := by decide +kernel
theorem dX6_give_59 : decode cX6_give 59 = .ok (.ifCond .eq 24, 3) := by decide +kernel
theorem dX6_give_62 : decode cX6_give 62 = .ok (.iload 4, 2) := by decide +kernel
theorem dX6_give_64 : decode cX6_give 64 = .ok (.iload 4, 2) := by decide +kernel
theorem dX6_give_66 : decode cX6_give 66 = .ok (.aload_n 0, 1) := by decide +kernel
theorem dX6_give_67 : decode cX6_give 67 = .ok (.getfield 61, 3) := by decide +kernel
theorem dX6_give_70 : decode cX6_give 70 = .ok (.iload_n 3, 1) := by decide +kernel
theorem dX6_give_71 : decode cX6_give 71 = .ok (.iaload, 1) := by decide +kernel
theorem dX6_give_72 : decode cX6_give 72 = .ok (.imul, 1) := by decide +kernel
theorem dX6_give_73 : decode cX6_give 73 = .ok (.bipush 99, 2) := by decide +kernel
theorem dX6_give_75 : decode cX6_give 75 = .ok (.iadd, 1) := by decide +kernel
theorem dX6_give_76 : decode cX6_give 76 = .ok (.bipush 100, 2) := by decide +kernel
theorem dX6_give_78 : decode cX6_give 78 = .ok (.idiv, 1) := by decide +kernel
theorem dX6_give_79 : decode cX6_give 79 = .ok (.isub, 1) := by decide +kernel
theorem dX6_give_80 : decode cX6_give 80 = .ok (.goto 4, 3) := by decide +kernel
theorem dX6_give_83 : decode cX6_give 83 = .ok (.iconst 0, 1) := by decide +kernel
theorem dX6_give_84 : decode cX6_give 84 = .ok (.istore 7, 2) := by decide +kernel
theorem dX6_give_86 : decode cX6_give 86 = .ok (.iload 5, 2) := by decide +kernel
theorem dX6_give_88 : decode cX6_give 88 = .ok (.ifCond .eq 16, 3) := by decide +kernel
theorem dX6_give_91 : decode cX6_give 91 = .ok (.bipush 25, 2) := by decide +kernel
theorem dX6_give_93 : decode cX6_give 93 = .ok (.iload_n 3, 1) := by decide +kernel
theorem dX6_give_94 : decode cX6_give 94 = .ok (.imul, 1) := by decide +kernel
theorem dX6_give_95 : decode cX6_give 95 = .ok (.iconst 5, 1) := by decide +kernel
theorem dX6_give_96 : decode cX6_give 96 = .ok (.iload_n 2, 1) := by decide +kernel
theorem dX6_give_97 : decode cX6_give 97 = .ok (.imul, 1) := by decide +kernel
theorem dX6_give_98 : decode cX6_give 98 = .ok (.iadd, 1) := by decide +kernel
theorem dX6_give_99 : decode cX6_give 99 = .ok (.iload_n 1, 1) := by decide +kernel
theorem dX6_give_100 : decode cX6_give 100 = .ok (.iadd, 1) := by decide +kernel
theorem dX6_give_101 : decode cX6_give 101 = .ok (.goto 4, 3) := by decide +kernel
theorem dX6_give_104 : decode cX6_give 104 = .ok (.iconst 0, 1) := by decide +kernel
theorem dX6_give_105 : decode cX6_give 105 = .ok (.istore 8, 2) := by decide +kernel
theorem dX6_give_107 : decode cX6_give 107 = .ok (.aload_n 0, 1) := by decide +kernel
theorem dX6_give_108 : decode cX6_give 108 = .ok (.iload 5, 2) := by decide +kernel
theorem dX6_give_110 : decode cX6_give 110 = .ok (.iload 6, 2) := by decide +kernel
theorem dX6_give_112 : decode cX6_give 112 = .ok (.aload_n 0, 1) := by decide +kernel
theorem dX6_give_113 : decode cX6_give 113 = .ok (.getfield 64, 3) := by decide +kernel
theorem dX6_give_116 : decode cX6_give 116 = .ok (.iload 8, 2) := by decide +kernel
theorem dX6_give_118 : decode cX6_give 118 = .ok (.iaload, 1) := by decide +kernel
theorem dX6_give_119 : decode cX6_give 119 = .ok (.iload 7, 2) := by decide +kernel
theorem dX6_give_121 : decode cX6_give 121 = .ok (.iadd, 1) := by decide +kernel
theorem dX6_give_122 : decode cX6_give 122 = .ok (.ldc 137, 2) := by decide +kernel
theorem dX6_give_124 : decode cX6_give 124 = .ok (.if_icmp .gt 7, 3) := by decide +kernel
theorem dX6_give_127 : decode cX6_give 127 = .ok (.iconst 1, 1) := by decide +kernel
theorem dX6_give_128 : decode cX6_give 128 = .ok (.goto 4, 3) := by decide +kernel
theorem dX6_give_131 : decode cX6_give 131 = .ok (.iconst 0, 1) := by decide +kernel
theorem dX6_give_132 : decode cX6_give 132 = .ok (.invokevirtual 109, 3) := by decide +kernel
theorem dX6_give_135 : decode cX6_give 135 = .ok (.ifCond .ne 5, 3) := by decide +kernel
theorem dX6_give_138 : decode cX6_give 138 = .ok (.iconst 0, 1) := by decide +kernel
theorem dX6_give_139 : decode cX6_give 139 = .ok (.ireturn, 1) := by decide +kernel
theorem dX6_give_140 : decode cX6_give 140 = .ok (.aload_n 0, 1) := by decide +kernel
theorem dX6_give_141 : decode cX6_give 141 = .ok (.getfield 64, 3) := by decide +kernel
theorem dX6_give_144 : decode cX6_give 144 = .ok (.iload 8, 2) := by decide +kernel
theorem dX6_give_146 : decode cX6_give 146 = .ok (.dup2, 1) := by decide +kernel
theorem dX6_give_147 : decode cX6_give 147 = .ok (.iaload, 1) := by decide +kernel
theorem dX6_give_148 : decode cX6_give 148 = .ok (.iload 7, 2) := by decide +kernel
theorem dX6_give_150 : decode cX6_give 150 = .ok (.iadd, 1) := by decide +kernel
theorem dX6_give_151 : decode cX6_give 151 = .ok (.iastore, 1) := by decide +kernel
theorem dX6_give_152 : decode cX6_give 152 = .ok (.aload_n 0, 1) := by decide +kernel
theorem dX6_give_153 : decode cX6_give 153 = .ok (.getfield 64, 3) := by decide +kernel
theorem dX6_give_156 : decode cX6_give 156 = .ok (.iload 8, 2) := by decide +kernel
theorem dX6_give_158 : decode cX6_give 158 = .ok (.iaload, 1) := by decide +kernel
theorem dX6_give_159 : decode cX6_give 159 = .ok (.ireturn, 1) := by decide +kernel
theorem dX6_owes_0 : decode cX6_owes 0 = .ok (.aload_n 0, 1) := by decide +kernel
theorem dX6_owes_1 : decode cX6_owes 1 = .ok (.iload_n 1, 1) := by decide +kernel
theorem dX6_owes_2 : decode cX6_owes 2 = .ok (.invokestatic 134, 3) := by decide +kernel
theorem dX6_owes_5 : decode cX6_owes 5 = .ok (.ifCond .eq 21, 3) := by decide +kernel
theorem dX6_owes_8 : decode cX6_owes 8 = .ok (.iload_n 2, 1) := by decide +kernel
theorem dX6_owes_9 : decode cX6_owes 9 = .ok (.invokestatic 134, 3) := by decide +kernel
theorem dX6_owes_12 : decode cX6_owes 12 = .ok (.ifCond .eq 14, 3) := by decide +kernel
theorem dX6_owes_15 : decode cX6_owes 15 = .ok (.iload_n 3, 1) := by decide +kernel
theorem dX6_owes_16 : decode cX6_owes 16 = .ok (.invokestatic 91, 3) := by decide +kernel
theorem dX6_owes_19 : decode cX6_owes 19 = .ok (.ifCond .eq 7, 3) := by decide +kernel
theorem dX6_owes_22 : decode cX6_owes 22 = .ok (.iconst 1, 1) := by decide +kernel
theorem dX6_owes_23 : decode cX6_owes 23 = .ok (.goto 4, 3) := by decide +kernel
theorem dX6_owes_26 : decode cX6_owes 26 = .ok (.iconst 0, 1) := by decide +kernel
theorem dX6_owes_27 : decode cX6_owes 27 = .ok (.invokevirtual 98, 3) := by decide +kernel
theorem dX6_owes_30 : decode cX6_owes 30 = .ok (.ifCond .eq 21, 3) := by decide +kernel
theorem dX6_owes_33 : decode cX6_owes 33 = .ok (.aload_n 0, 1) := by decide +kernel
theorem dX6_owes_34 : decode cX6_owes 34 = .ok (.getfield 64, 3) := by decide +kernel
theorem dX6_owes_37 : decode cX6_owes 37 = .ok (.bipush 25, 2) := by decide +kernel
theorem dX6_owes_39 : decode cX6_owes 39 = .ok (.iload_n 3, 1) := by decide +kernel
theorem dX6_owes_40 : decode cX6_owes 40 = .ok (.imul, 1) := by decide +kernel
theorem dX6_owes_41 : decode cX6_owes 41 = .ok (.iconst 5, 1) := by decide +kernel
theorem dX6_owes_42 : decode cX6_owes 42 = .ok (.iload_n 1, 1) := by decide +kernel
theorem dX6_owes_43 : decode cX6_owes 43 = .ok (.imul, 1) := by decide +kernel
theorem dX6_owes_44 : decode cX6_owes 44 = .ok (.iadd, 1) := by decide +kernel
theorem dX6_owes_45 : decode cX6_owes 45 = .ok (.iload_n 2, 1) := by decide +kernel
theorem dX6_owes_46 : decode cX6_owes 46 = .ok (.iadd, 1) := by decide +kernel
theorem dX6_owes_47 : decode cX6_owes 47 = .ok (.iaload, 1) := by decide +kernel
theorem dX6_owes_48 : decode cX6_owes 48 = .ok (.goto 4, 3) := by decide +kernel
theorem dX6_owes_51 : decode cX6_owes 51 = .ok (.iconst 0, 1) := by decide +kernel
theorem dX6_owes_52 : decode cX6_owes 52 = .ok (.ireturn, 1) := by decide +kernel
theorem dX6_positionOf_0 : decode cX6_positionOf 0 = .ok (.iconst 0, 1) := by decide +kernel
theorem dX6_positionOf_1 : decode cX6_positionOf 1 = .ok (.istore_n 3, 1) := by decide +kernel
theorem dX6_positionOf_2 : decode cX6_positionOf 2 = .ok (.iconst 0, 1) := by decide +kernel
theorem dX6_positionOf_3 : decode cX6_positionOf 3 = .ok (.istore 4, 2) := by decide +kernel
theorem dX6_positionOf_5 : decode cX6_positionOf 5 = .ok (.iload 4, 2) := by decide +kernel
theorem dX6_positionOf_7 : decode cX6_positionOf 7 = .ok (.iconst 5, 1) := by decide +kernel
theorem dX6_positionOf_8 : decode cX6_positionOf 8 = .ok (.if_icmp .ge 45, 3) := by decide +kernel
theorem dX6_positionOf_11 : decode cX6_positionOf 11 = .ok (.iload_n 3, 1) := by decide +kernel
theorem dX6_positionOf_12 : decode cX6_positionOf 12 = .ok (.aload_n 0, 1) := by decide +kernel
theorem dX6_positionOf_13 : decode cX6_positionOf 13 = .ok (.getfield 64, 3) := by decide +kernel
theorem dX6_positionOf_16 : decode cX6_positionOf 16 = .ok (.bipush 25, 2) := by decide +kernel
theorem dX6_positionOf_18 : decode cX6_positionOf 18 = .ok (.iload_n 2, 1) := by decide +kernel
theorem dX6_positionOf_19 : decode cX6_positionOf 19 = .ok (.imul, 1) := by decide +kernel
theorem dX6_positionOf_20 : decode cX6_positionOf 20 = .ok (.iconst 5, 1) := by decide +kernel
theorem dX6_positionOf_21 : decode cX6_positionOf 21 = .ok (.iload 4, 2) := by decide +kernel
theorem dX6_positionOf_23 : decode cX6_positionOf 23 = .ok (.imul, 1) := by decide +kernel
theorem dX6_positionOf_24 : decode cX6_positionOf 24 = .ok (.iadd, 1) := by decide +kernel
theorem dX6_positionOf_25 : decode cX6_positionOf 25 = .ok (.iload_n 1, 1) := by decide +kernel
theorem dX6_positionOf_26 : decode cX6_positionOf 26 = .ok (.iadd, 1) := by decide +kernel
theorem dX6_positionOf_27 : decode cX6_positionOf 27 = .ok (.iaload, 1) := by decide +kernel
theorem dX6_positionOf_28 : decode cX6_positionOf 28 = .ok (.aload_n 0, 1) := by decide +kernel
theorem dX6_positionOf_29 : decode cX6_positionOf 29 = .ok (.getfield 64, 3) := by decide +kernel
theorem dX6_positionOf_32 : decode cX6_positionOf 32 = .ok (.bipush 25, 2) := by decide +kernel
theorem dX6_positionOf_34 : decode cX6_positionOf 34 = .ok (.iload_n 2, 1) := by decide +kernel
theorem dX6_positionOf_35 : decode cX6_positionOf 35 = .ok (.imul, 1) := by decide +kernel
theorem dX6_positionOf_36 : decode cX6_positionOf 36 = .ok (.iconst 5, 1) := by decide +kernel
theorem dX6_positionOf_37 : decode cX6_positionOf 37 = .ok (.iload_n 1, 1) := by decide +kernel
theorem dX6_positionOf_38 : decode cX6_positionOf 38 = .ok (.imul, 1) := by decide +kernel
theorem dX6_positionOf_39 : decode cX6_positionOf 39 = .ok (.iadd, 1) := by decide +kernel
theorem dX6_positionOf_40 : decode cX6_positionOf 40 = .ok (.iload 4, 2) := by decide +kernel
theorem dX6_positionOf_42 : decode cX6_positionOf 42 = .ok (.iadd, 1) := by decide +kernel
theorem dX6_positionOf_43 : decode cX6_positionOf 43 = .ok (.iaload, 1) := by decide +kernel
theorem dX6_positionOf_44 : decode cX6_positionOf 44 = .ok (.isub, 1) := by decide +kernel
theorem dX6_positionOf_45 : decode cX6_positionOf 45 = .ok (.iadd, 1) := by decide +kernel
theorem dX6_positionOf_46 : decode cX6_positionOf 46 = .ok (.istore_n 3, 1) := by decide +kernel
theorem dX6_positionOf_47 : decode cX6_positionOf 47 = .ok (.iinc 4 1, 3) := by decide +kernel
theorem dX6_positionOf_50 : decode cX6_positionOf 50 = .ok (.goto (-45), 3) := by decide +kernel
theorem dX6_positionOf_53 : decode cX6_positionOf 53 = .ok (.iload_n 3, 1) := by decide +kernel
theorem dX6_positionOf_54 : decode cX6_positionOf 54 = .ok (.ireturn, 1) := by decide +kernel
theorem dX6_position_0 : decode cX6_position 0 = .ok (.aload_n 0, 1) := by decide +kernel
theorem dX6_position_1 : decode cX6_position 1 = .ok (.iload_n 1, 1) := by decide +kernel
theorem dX6_position_2 : decode cX6_position 2 = .ok (.invokestatic 134, 3) := by decide +kernel
theorem dX6_position_5 : decode cX6_position 5 = .ok (.ifCond .eq 14, 3) := by decide +kernel
theorem dX6_position_8 : decode cX6_position 8 = .ok (.iload_n 2, 1) := by decide +kernel
theorem dX6_position_9 : decode cX6_position 9 = .ok (.invokestatic 91, 3) := by decide +kernel
theorem dX6_position_12 : decode cX6_position 12 = .ok (.ifCond .eq 7, 3) := by decide +kernel
theorem dX6_position_15 : decode cX6_position 15 = .ok (.iconst 1, 1) := by decide +kernel
theorem dX6_position_16 : decode cX6_position 16 = .ok (.goto 4, 3) := by decide +kernel
theorem dX6_position_19 : decode cX6_position 19 = .ok (.iconst 0, 1) := by decide +kernel
theorem dX6_position_20 : decode cX6_position 20 = .ok (.invokevirtual 98, 3) := by decide +kernel
theorem dX6_position_23 : decode cX6_position 23 = .ok (.ifCond .eq 12, 3) := by decide +kernel
theorem dX6_position_26 : decode cX6_position 26 = .ok (.aload_n 0, 1) := by decide +kernel
theorem dX6_position_27 : decode cX6_position 27 = .ok (.iload_n 1, 1) := by decide +kernel
theorem dX6_position_28 : decode cX6_position 28 = .ok (.iload_n 2, 1) := by decide +kernel
theorem dX6_position_29 : decode cX6_position 29 = .ok (.invokevirtual 138, 3) := by decide +kernel
theorem dX6_position_32 : decode cX6_position 32 = .ok (.goto 4, 3) := by decide +kernel
theorem dX6_position_35 : decode cX6_position 35 = .ok (.iconst 0, 1) := by decide +kernel
theorem dX6_position_36 : decode cX6_position 36 = .ok (.ireturn, 1) := by decide +kernel
theorem dX6_net_0 : decode cX6_net 0 = .ok (.aload_n 0, 1) := by decide +kernel
theorem dX6_net_1 : decode cX6_net 1 = .ok (.iload_n 1, 1) := by decide +kernel
theorem dX6_net_2 : decode cX6_net 2 = .ok (.invokestatic 91, 3) := by decide +kernel
theorem dX6_net_5 : decode cX6_net 5 = .ok (.invokevirtual 98, 3) := by decide +kernel
theorem dX6_net_8 : decode cX6_net 8 = .ok (.ifCond .ne 5, 3) := by decide +kernel
theorem dX6_net_11 : decode cX6_net 11 = .ok (.iconst 0, 1) := by decide +kernel
theorem dX6_net_12 : decode cX6_net 12 = .ok (.ireturn, 1) := by decide +kernel
theorem dX6_net_13 : decode cX6_net 13 = .ok (.iconst 0, 1) := by decide +kernel
theorem dX6_net_14 : decode cX6_net 14 = .ok (.istore_n 2, 1) := by decide +kernel
theorem dX6_net_15 : decode cX6_net 15 = .ok (.iload_n 2, 1) := by decide +kernel
theorem dX6_net_16 : decode cX6_net 16 = .ok (.iconst 5, 1) := by decide +kernel
theorem dX6_net_17 : decode cX6_net 17 = .ok (.if_icmp .ge 21, 3) := by decide +kernel
theorem dX6_net_20 : decode cX6_net 20 = .ok (.aload_n 0, 1) := by decide +kernel
theorem dX6_net_21 : decode cX6_net 21 = .ok (.getfield 67, 3) := by decide +kernel
theorem dX6_net_24 : decode cX6_net 24 = .ok (.iload_n 2, 1) := by decide +kernel
theorem dX6_net_25 : decode cX6_net 25 = .ok (.aload_n 0, 1) := by decide +kernel
theorem dX6_net_26 : decode cX6_net 26 = .ok (.iload_n 2, 1) := by decide +kernel
theorem dX6_net_27 : decode cX6_net 27 = .ok (.iload_n 1, 1) := by decide +kernel
theorem dX6_net_28 : decode cX6_net 28 = .ok (.invokevirtual 138, 3) := by decide +kernel
theorem dX6_net_31 : decode cX6_net 31 = .ok (.iastore, 1) := by decide +kernel
theorem dX6_net_32 : decode cX6_net 32 = .ok (.iinc 2 1, 3) := by decide +kernel
theorem dX6_net_35 : decode cX6_net 35 = .ok (.goto (-20), 3) := by decide +kernel
theorem dX6_net_38 : decode cX6_net 38 = .ok (.iconst 0, 1) := by decide +kernel
theorem dX6_net_39 : decode cX6_net 39 = .ok (.istore_n 2, 1) := by decide +kernel
theorem dX6_net_40 : decode cX6_net 40 = .ok (.iload_n 2, 1) := by decide +kernel
theorem dX6_net_41 : decode cX6_net 41 = .ok (.bipush 25, 2) := by decide +kernel
theorem dX6_net_43 : decode cX6_net 43 = .ok (.if_icmp .ge 21, 3) := by decide +kernel
theorem dX6_net_46 : decode cX6_net 46 = .ok (.aload_n 0, 1) := by decide +kernel
theorem dX6_net_47 : decode cX6_net 47 = .ok (.getfield 64, 3) := by decide +kernel
theorem dX6_net_50 : decode cX6_net 50 = .ok (.bipush 25, 2) := by decide +kernel
theorem dX6_net_52 : decode cX6_net 52 = .ok (.iload_n 1, 1) := by decide +kernel
theorem dX6_net_53 : decode cX6_net 53 = .ok (.imul, 1) := by decide +kernel
theorem dX6_net_54 : decode cX6_net 54 = .ok (.iload_n 2, 1) := by decide +kernel
theorem dX6_net_55 : decode cX6_net 55 = .ok (.iadd, 1) := by decide +kernel
theorem dX6_net_56 : decode cX6_net 56 = .ok (.iconst 0, 1) := by decide +kernel
theorem dX6_net_57 : decode cX6_net 57 = .ok (.iastore, 1) := by decide +kernel
theorem dX6_net_58 : decode cX6_net 58 = .ok (.iinc 2 1, 3) := by decide +kernel
theorem dX6_net_61 : decode cX6_net 61 = .ok (.goto (-21), 3) := by decide +kernel
theorem dX6_net_64 : decode cX6_net 64 = .ok (.iconst 0, 1) := by decide +kernel
theorem dX6_net_65 : decode cX6_net 65 = .ok (.istore_n 2, 1) := by decide +kernel
theorem dX6_net_66 : decode cX6_net 66 = .ok (.iconst 0, 1) := by decide +kernel
theorem dX6_net_67 : decode cX6_net 67 = .ok (.istore_n 3, 1) := by decide +kernel
theorem dX6_net_68 : decode cX6_net 68 = .ok (.iconst 0, 1) := by decide +kernel
theorem dX6_net_69 : decode cX6_net 69 = .ok (.istore 4, 2) := by decide +kernel
theorem dX6_net_71 : decode cX6_net 71 = .ok (.iload_n 3, 1) := by decide +kernel
theorem dX6_net_72 : decode cX6_net 72 = .ok (.iconst 5, 1) := by decide +kernel
theorem dX6_net_73 : decode cX6_net 73 = .ok (.if_icmp .ge 123, 3) := by decide +kernel
theorem dX6_net_76 : decode cX6_net 76 = .ok (.iload 4, 2) := by decide +kernel
theorem dX6_net_78 : decode cX6_net 78 = .ok (.iconst 5, 1) := by decide +kernel
theorem dX6_net_79 : decode cX6_net 79 = .ok (.if_icmp .ge 117, 3) := by decide +kernel
theorem dX6_net_82 : decode cX6_net 82 = .ok (.aload_n 0, 1) := by decide +kernel
theorem dX6_net_83 : decode cX6_net 83 = .ok (.getfield 67, 3) := by decide +kernel
theorem dX6_net_86 : decode cX6_net 86 = .ok (.iload_n 3, 1) := by decide +kernel
theorem dX6_net_87 : decode cX6_net 87 = .ok (.iaload, 1) := by decide +kernel
theorem dX6_net_88 : decode cX6_net 88 = .ok (.ifCond .lt 9, 3) := by decide +kernel
theorem dX6_net_91 : decode cX6_net 91 = .ok (.iinc 3 1, 3) := by decide +kernel
theorem dX6_net_94 : decode cX6_net 94 = .ok (.goto (-23), 3) := by decide +kernel
theorem dX6_net_97 : decode cX6_net 97 = .ok (.aload_n 0, 1) := by decide +kernel
theorem dX6_net_98 : decode cX6_net 98 = .ok (.getfield 67, 3) := by decide +kernel
theorem dX6_net_101 : decode cX6_net 101 = .ok (.iload 4, 2) := by decide +kernel
theorem dX6_net_103 : decode cX6_net 103 = .ok (.iaload, 1) := by decide +kernel
theorem dX6_net_104 : decode cX6_net 104 = .ok (.ifCond .gt 9, 3) := by decide +kernel
theorem dX6_net_107 : decode cX6_net 107 = .ok (.iinc 4 1, 3) := by decide +kernel
theorem dX6_net_110 : decode cX6_net 110 = .ok (.goto (-39), 3) := by decide +kernel
theorem dX6_net_113 : decode cX6_net 113 = .ok (.aload_n 0, 1) := by decide +kernel
theorem dX6_net_114 : decode cX6_net 114 = .ok (.getfield 67, 3) := by decide +kernel
theorem dX6_net_117 : decode cX6_net 117 = .ok (.iload_n 3, 1) := by decide +kernel
theorem dX6_net_118 : decode cX6_net 118 = .ok (.iaload, 1) := by decide +kernel
theorem dX6_net_119 : decode cX6_net 119 = .ok (.ineg, 1) := by decide +kernel
theorem dX6_net_120 : decode cX6_net 120 = .ok (.aload_n 0, 1) := by decide +kernel
theorem dX6_net_121 : decode cX6_net 121 = .ok (.getfield 67, 3) := by decide +kernel
theorem dX6_net_124 : decode cX6_net 124 = .ok (.iload 4, 2) := by decide +kernel
theorem dX6_net_126 : decode cX6_net 126 = .ok (.iaload, 1) := by decide +kernel
theorem dX6_net_127 : decode cX6_net 127 = .ok (.if_icmp .ge 13, 3) := by decide +kernel
theorem dX6_net_130 : decode cX6_net 130 = .ok (.aload_n 0, 1) := by decide +kernel
theorem dX6_net_131 : decode cX6_net 131 = .ok (.getfield 67, 3) := by decide +kernel
theorem dX6_net_134 : decode cX6_net 134 = .ok (.iload_n 3, 1) := by decide +kernel
theorem dX6_net_135 : decode cX6_net 135 = .ok (.iaload, 1) := by decide +kernel
theorem dX6_net_136 : decode cX6_net 136 = .ok (.ineg, 1) := by decide +kernel
theorem dX6_net_137 : decode cX6_net 137 = .ok (.goto 10, 3) := by decide +kernel
theorem dX6_net_140 : decode cX6_net 140 = .ok (.aload_n 0, 1) := by decide +kernel
theorem dX6_net_141 : decode cX6_net 141 = .ok (.getfield 67, 3) := by decide +kernel
theorem dX6_net_144 : decode cX6_net 144 = .ok (.iload 4, 2) := by decide +kernel
theorem dX6_net_146 : decode cX6_net 146 = .ok (.iaload, 1) := by decide +kernel
theorem dX6_net_147 : decode cX6_net 147 = .ok (.istore 5, 2) := by decide +kernel
theorem dX6_net_149 : decode cX6_net 149 = .ok (.aload_n 0, 1) := by decide +kernel
theorem dX6_net_150 : decode cX6_net 150 = .ok (.getfield 64, 3) := by decide +kernel
theorem dX6_net_153 : decode cX6_net 153 = .ok (.bipush 25, 2) := by decide +kernel
theorem dX6_net_155 : decode cX6_net 155 = .ok (.iload_n 1, 1) := by decide +kernel
theorem dX6_net_156 : decode cX6_net 156 = .ok (.imul, 1) := by decide +kernel
theorem dX6_net_157 : decode cX6_net 157 = .ok (.iconst 5, 1) := by decide +kernel
theorem dX6_net_158 : decode cX6_net 158 = .ok (.iload_n 3, 1) := by decide +kernel
theorem dX6_net_159 : decode cX6_net 159 = .ok (.imul, 1) := by decide +kernel
theorem dX6_net_160 : decode cX6_net 160 = .ok (.iadd, 1) := by decide +kernel
theorem dX6_net_161 : decode cX6_net 161 = .ok (.iload 4, 2) := by decide +kernel
theorem dX6_net_163 : decode cX6_net 163 = .ok (.iadd, 1) := by decide +kernel
theorem dX6_net_164 : decode cX6_net 164 = .ok (.iload 5, 2) := by decide +kernel
theorem dX6_net_166 : decode cX6_net 166 = .ok (.iastore, 1) := by decide +kernel
theorem dX6_net_167 : decode cX6_net 167 = .ok (.aload_n 0, 1) := by decide +kernel
theorem dX6_net_168 : decode cX6_net 168 = .ok (.getfield 67, 3) := by decide +kernel
theorem dX6_net_171 : decode cX6_net 171 = .ok (.iload_n 3, 1) := by decide +kernel
theorem dX6_net_172 : decode cX6_net 172 = .ok (.dup2, 1) := by decide +kernel
theorem dX6_net_173 : decode cX6_net 173 = .ok (.iaload, 1) := by decide +kernel
theorem dX6_net_174 : decode cX6_net 174 = .ok (.iload 5, 2) := by decide +kernel
theorem dX6_net_176 : decode cX6_net 176 = .ok (.iadd, 1) := by decide +kernel
theorem dX6_net_177 : decode cX6_net 177 = .ok (.iastore, 1) := by decide +kernel
theorem dX6_net_178 : decode cX6_net 178 = .ok (.aload_n 0, 1) := by decide +kernel
theorem dX6_net_179 : decode cX6_net 179 = .ok (.getfield 67, 3) := by decide +kernel
theorem dX6_net_182 : decode cX6_net 182 = .ok (.iload 4, 2) := by decide +kernel
theorem dX6_net_184 : decode cX6_net 184 = .ok (.dup2, 1) := by decide +kernel
theorem dX6_net_185 : decode cX6_net 185 = .ok (.iaload, 1) := by decide +kernel
theorem dX6_net_186 : decode cX6_net 186 = .ok (.iload 5, 2) := by decide +kernel
theorem dX6_net_188 : decode cX6_net 188 = .ok (.isub, 1) := by decide +kernel
theorem dX6_net_189 : decode cX6_net 189 = .ok (.iastore, 1) := by decide +kernel
theorem dX6_net_190 : decode cX6_net 190 = .ok (.iinc 2 1, 3) := by decide +kernel
theorem dX6_net_193 : decode cX6_net 193 = .ok (.goto (-122), 3) := by decide +kernel
theorem dX6_net_196 : decode cX6_net 196 = .ok (.iload_n 2, 1) := by decide +kernel
theorem dX6_net_197 : decode cX6_net 197 = .ok (.ireturn, 1) := by decide +kernel
theorem dJ9_abs_0f7a4_0 : decode cJ9_abs_0f7a4 0 = .ok (.iload_n 0, 1) := by decide +kernel
theorem dJ9_abs_0f7a4_1 : decode cJ9_abs_0f7a4 1 = .ok (.ifCond .ge 8, 3) := by decide +kernel
theorem dJ9_abs_0f7a4_4 : decode cJ9_abs_0f7a4 4 = .ok (.iload_n 0, 1) := by decide +kernel
theorem dJ9_abs_0f7a4_5 : decode cJ9_abs_0f7a4 5 = .ok (.ineg, 1) := by decide +kernel
theorem dJ9_abs_0f7a4_6 : decode cJ9_abs_0f7a4 6 = .ok (.goto 4, 3) := by decide +kernel
theorem dJ9_abs_0f7a4_9 : decode cJ9_abs_0f7a4 9 = .ok (.iload_n 0, 1) := by decide +kernel
theorem dJ9_abs_0f7a4_10 : decode cJ9_abs_0f7a4 10 = .ok (.ireturn, 1) := by decide +kernel
theorem dJ9_max_7cf53_0 : decode cJ9_max_7cf53 0 = .ok (.iload_n 0, 1) := by decide +kernel
theorem dJ9_max_7cf53_1 : decode cJ9_max_7cf53 1 = .ok (.iload_n 1, 1) := by decide +kernel
theorem dJ9_max_7cf53_2 : decode cJ9_max_7cf53 2 = .ok (.if_icmp .lt 7, 3) := by decide +kernel
theorem dJ9_max_7cf53_5 : decode cJ9_max_7cf53 5 = .ok (.iload_n 0, 1) := by decide +kernel
theorem dJ9_max_7cf53_6 : decode cJ9_max_7cf53 6 = .ok (.goto 4, 3) := by decide +kernel
theorem dJ9_max_7cf53_9 : decode cJ9_max_7cf53 9 = .ok (.iload_n 1, 1) := by decide +kernel
theorem dJ9_max_7cf53_10 : decode cJ9_max_7cf53 10 = .ok (.ireturn, 1) := by decide +kernel
theorem dJ9_min_7cf53_0 : decode cJ9_min_7cf53 0 = .ok (.iload_n 0, 1) := by decide +kernel
theorem dJ9_min_7cf53_1 : decode cJ9_min_7cf53 1 = .ok (.iload_n 1, 1) := by decide +kernel
theorem dJ9_min_7cf53_2 : decode cJ9_min_7cf53 2 = .ok (.if_icmp .gt 7, 3) := by decide +kernel
theorem dJ9_min_7cf53_5 : decode cJ9_min_7cf53 5 = .ok (.iload_n 0, 1) := by decide +kernel
theorem dJ9_min_7cf53_6 : decode cJ9_min_7cf53 6 = .ok (.goto 4, 3) := by decide +kernel
theorem dJ9_min_7cf53_9 : decode cJ9_min_7cf53 9 = .ok (.iload_n 1, 1) := by decide +kernel
theorem dJ9_min_7cf53_10 : decode cJ9_min_7cf53 10 = .ok (.ireturn, 1) := by decide +kernel
theorem dJxa1e45_init_da8c8_0 : decode cJxa1e45_init_da8c8 0 = .ok (.aload_n 0, 1) := by decide +kernel
theorem dJxa1e45_init_da8c8_1 : decode cJxa1e45_init_da8c8 1 = .ok (.invokespecial 1, 3) := by decide +kernel
theorem dJxa1e45_init_da8c8_4 : decode cJxa1e45_init_da8c8 4 = .ok (.return_, 1) := by decide +kernel
theorem dJxc12de_init_da8c8_0 : decode cJxc12de_init_da8c8 0 = .ok (.aload_n 0, 1) := by decide +kernel
theorem dJxc12de_init_da8c8_1 : decode cJxc12de_init_da8c8 1 = .ok (.invokespecial 1, 3) := by decide +kernel
theorem dJxc12de_init_da8c8_4 : decode cJxc12de_init_da8c8 4 = .ok (.aload_n 0, 1) := by decide +kernel
theorem dJxc12de_init_da8c8_5 : decode cJxc12de_init_da8c8 5 = .ok (.iconst 0, 1) := by decide +kernel
theorem dJxc12de_init_da8c8_6 : decode cJxc12de_init_da8c8 6 = .ok (.putfield 7, 3) := by decide +kernel
theorem dJxc12de_init_da8c8_9 : decode cJxc12de_init_da8c8 9 = .ok (.return_, 1) := by decide +kernel
theorem dJx4a65c_init_da8c8_0 : decode cJx4a65c_init_da8c8 0 = .ok (.aload_n 0, 1) := by decide +kernel
theorem dJx4a65c_init_da8c8_1 : decode cJx4a65c_init_da8c8 1 = .ok (.invokespecial 1, 3) := by decide +kernel
theorem dJx4a65c_init_da8c8_4 : decode cJx4a65c_init_da8c8 4 = .ok (.aload_n 0, 1) := by decide +kernel
theorem dJx4a65c_init_da8c8_5 : decode cJx4a65c_init_da8c8 5 = .ok (.getstatic 39, 3) := by decide +kernel
theorem dJx4a65c_init_da8c8_8 : decode cJx4a65c_init_da8c8 8 = .ok (.putfield 9, 3) := by decide +kernel
theorem dJx4a65c_init_da8c8_11 : decode cJx4a65c_init_da8c8 11 = .ok (.return_, 1) := by decide +kernel
theorem dJx4a65c_grow_92f84_0 : decode cJx4a65c_grow_92f84 0 = .ok (.aload_n 0, 1) := by decide +kernel
theorem dJx4a65c_grow_92f84_1 : decode cJx4a65c_grow_92f84 1 = .ok (.getfield 9, 3) := by decide +kernel
theorem dJx4a65c_grow_92f84_4 : decode cJx4a65c_grow_92f84 4 = .ok (.arraylength, 1) := by decide +kernel
theorem dJx4a65c_grow_92f84_5 : decode cJx4a65c_grow_92f84 5 = .ok (.istore_n 2, 1) := by decide +kernel
theorem dJx4a65c_grow_92f84_6 : decode cJx4a65c_grow_92f84 6 = .ok (.iload_n 2, 1) := by decide +kernel
theorem dJx4a65c_grow_92f84_7 : decode cJx4a65c_grow_92f84 7 = .ok (.ifCond .gt 13, 3) := by decide +kernel
theorem dJx4a65c_grow_92f84_10 : decode cJx4a65c_grow_92f84 10 = .ok (.aload_n 0, 1) := by decide +kernel
theorem dJx4a65c_grow_92f84_11 : decode cJx4a65c_grow_92f84 11 = .ok (.getfield 9, 3) := by decide +kernel
theorem dJx4a65c_grow_92f84_14 : decode cJx4a65c_grow_92f84 14 = .ok (.getstatic 39, 3) := by decide +kernel
theorem dJx4a65c_grow_92f84_17 : decode cJx4a65c_grow_92f84 17 = .ok (.if_acmp .eq 28, 3) := by decide +kernel
theorem dJx4a65c_grow_92f84_20 : decode cJx4a65c_grow_92f84 20 = .ok (.iload_n 2, 1) := by decide +kernel
theorem dJx4a65c_grow_92f84_21 : decode cJx4a65c_grow_92f84 21 = .ok (.iload_n 1, 1) := by decide +kernel
theorem dJx4a65c_grow_92f84_22 : decode cJx4a65c_grow_92f84 22 = .ok (.iload_n 2, 1) := by decide +kernel
theorem dJx4a65c_grow_92f84_23 : decode cJx4a65c_grow_92f84 23 = .ok (.isub, 1) := by decide +kernel
theorem dJx4a65c_grow_92f84_24 : decode cJx4a65c_grow_92f84 24 = .ok (.iload_n 2, 1) := by decide +kernel
theorem dJx4a65c_grow_92f84_25 : decode cJx4a65c_grow_92f84 25 = .ok (.iconst 1, 1) := by decide +kernel
theorem dJx4a65c_grow_92f84_26 : decode cJx4a65c_grow_92f84 26 = .ok (.ishr, 1) := by decide +kernel
theorem dJx4a65c_grow_92f84_27 : decode cJx4a65c_grow_92f84 27 = .ok (.invokestatic 73, 3) := by decide +kernel
theorem dJx4a65c_grow_92f84_30 : decode cJx4a65c_grow_92f84 30 = .ok (.istore_n 3, 1) := by decide +kernel
theorem dJx4a65c_grow_92f84_31 : decode cJx4a65c_grow_92f84 31 = .ok (.aload_n 0, 1) := by decide +kernel
theorem dJx4a65c_grow_92f84_32 : decode cJx4a65c_grow_92f84 32 = .ok (.aload_n 0, 1) := by decide +kernel
theorem dJx4a65c_grow_92f84_33 : decode cJx4a65c_grow_92f84 33 = .ok (.getfield 9, 3) := by decide +kernel
theorem dJx4a65c_grow_92f84_36 : decode cJx4a65c_grow_92f84 36 = .ok (.iload_n 3, 1) := by decide +kernel
theorem dJx4a65c_grow_92f84_37 : decode cJx4a65c_grow_92f84 37 = .ok (.invokestatic 66, 3) := by decide +kernel
theorem dJx4a65c_grow_92f84_40 : decode cJx4a65c_grow_92f84 40 = .ok (.dup_x1, 1) := by decide +kernel
theorem dJx4a65c_grow_92f84_41 : decode cJx4a65c_grow_92f84 41 = .ok (.putfield 9, 3) := by decide +kernel
theorem dJx4a65c_grow_92f84_44 : decode cJx4a65c_grow_92f84 44 = .ok (.areturn, 1) := by decide +kernel
theorem dJx4a65c_grow_92f84_45 : decode cJx4a65c_grow_92f84 45 = .ok (.aload_n 0, 1) := by decide +kernel
theorem dJx4a65c_grow_92f84_46 : decode cJx4a65c_grow_92f84 46 = .ok (.bipush 10, 2) := by decide +kernel
theorem dJx4a65c_grow_92f84_48 : decode cJx4a65c_grow_92f84 48 = .ok (.iload_n 1, 1) := by decide +kernel
theorem dJx4a65c_grow_92f84_49 : decode cJx4a65c_grow_92f84 49 = .ok (.invokestatic 79, 3) := by decide +kernel
theorem dJx4a65c_grow_92f84_52 : decode cJx4a65c_grow_92f84 52 = .ok (.anewarray 7, 3) := by decide +kernel
theorem dJx4a65c_grow_92f84_55 : decode cJx4a65c_grow_92f84 55 = .ok (.dup_x1, 1) := by decide +kernel
theorem dJx4a65c_grow_92f84_56 : decode cJx4a65c_grow_92f84 56 = .ok (.putfield 9, 3) := by decide +kernel
theorem dJx4a65c_grow_92f84_59 : decode cJx4a65c_grow_92f84 59 = .ok (.areturn, 1) := by decide +kernel
theorem dJx4a65c_grow_d5877_0 : decode cJx4a65c_grow_d5877 0 = .ok (.aload_n 0, 1) := by decide +kernel
theorem dJx4a65c_grow_d5877_1 : decode cJx4a65c_grow_d5877 1 = .ok (.aload_n 0, 1) := by decide +kernel
theorem dJx4a65c_grow_d5877_2 : decode cJx4a65c_grow_d5877 2 = .ok (.getfield 48, 3) := by decide +kernel
theorem dJx4a65c_grow_d5877_5 : decode cJx4a65c_grow_d5877 5 = .ok (.iconst 1, 1) := by decide +kernel
theorem dJx4a65c_grow_d5877_6 : decode cJx4a65c_grow_d5877 6 = .ok (.iadd, 1) := by decide +kernel
theorem dJx4a65c_grow_d5877_7 : decode cJx4a65c_grow_d5877 7 = .ok (.invokevirtual 69, 3) := by decide +kernel
theorem dJx4a65c_grow_d5877_10 : decode cJx4a65c_grow_d5877 10 = .ok (.areturn, 1) := by decide +kernel
theorem dJx4a65c_size_8abf5_0 : decode cJx4a65c_size_8abf5 0 = .ok (.aload_n 0, 1) := by decide +kernel
theorem dJx4a65c_size_8abf5_1 : decode cJx4a65c_size_8abf5 1 = .ok (.getfield 48, 3) := by decide +kernel
theorem dJx4a65c_size_8abf5_4 : decode cJx4a65c_size_8abf5 4 = .ok (.ireturn, 1) := by decide +kernel
theorem dJx4a65c_elementData_915e3_0 : decode cJx4a65c_elementData_915e3 0 = .ok (.aload_n 0, 1) := by decide +kernel
theorem dJx4a65c_elementData_915e3_1 : decode cJx4a65c_elementData_915e3 1 = .ok (.getfield 9, 3) := by decide +kernel
theorem dJx4a65c_elementData_915e3_4 : decode cJx4a65c_elementData_915e3 4 = .ok (.iload_n 1, 1) := by decide +kernel
theorem dJx4a65c_elementData_915e3_5 : decode cJx4a65c_elementData_915e3 5 = .ok (.aaload, 1) := by decide +kernel
theorem dJx4a65c_elementData_915e3_6 : decode cJx4a65c_elementData_915e3 6 = .ok (.areturn, 1) := by decide +kernel
theorem dJx4a65c_get_915e3_0 : decode cJx4a65c_get_915e3 0 = .ok (.iload_n 1, 1) := by decide +kernel
theorem dJx4a65c_get_915e3_1 : decode cJx4a65c_get_915e3 1 = .ok (.aload_n 0, 1) := by decide +kernel
theorem dJx4a65c_get_915e3_2 : decode cJx4a65c_get_915e3 2 = .ok (.getfield 48, 3) := by decide +kernel
theorem dJx4a65c_get_915e3_5 : decode cJx4a65c_get_915e3 5 = .ok (.invokestatic 118, 3) := by decide +kernel
theorem dJx4a65c_get_915e3_8 : decode cJx4a65c_get_915e3 8 = .ok (.pop, 1) := by decide +kernel
theorem dJx4a65c_get_915e3_9 : decode cJx4a65c_get_915e3 9 = .ok (.aload_n 0, 1) := by decide +kernel
theorem dJx4a65c_get_915e3_10 : decode cJx4a65c_get_915e3 10 = .ok (.iload_n 1, 1) := by decide +kernel
theorem dJx4a65c_get_915e3_11 : decode cJx4a65c_get_915e3 11 = .ok (.invokevirtual 123, 3) := by decide +kernel
theorem dJx4a65c_get_915e3_14 : decode cJx4a65c_get_915e3 14 = .ok (.areturn, 1) := by decide +kernel
theorem dJx4a65c_add_72be8_0 : decode cJx4a65c_add_72be8 0 = .ok (.iload_n 3, 1) := by decide +kernel
theorem dJx4a65c_add_72be8_1 : decode cJx4a65c_add_72be8 1 = .ok (.aload_n 2, 1) := by decide +kernel
theorem dJx4a65c_add_72be8_2 : decode cJx4a65c_add_72be8 2 = .ok (.arraylength, 1) := by decide +kernel
theorem dJx4a65c_add_72be8_3 : decode cJx4a65c_add_72be8 3 = .ok (.if_icmp .ne 8, 3) := by decide +kernel
theorem dJx4a65c_add_72be8_6 : decode cJx4a65c_add_72be8 6 = .ok (.aload_n 0, 1) := by decide +kernel
theorem dJx4a65c_add_72be8_7 : decode cJx4a65c_add_72be8 7 = .ok (.invokevirtual 129, 3) := by decide +kernel
theorem dJx4a65c_add_72be8_10 : decode cJx4a65c_add_72be8 10 = .ok (.astore_n 2, 1) := by decide +kernel
theorem dJx4a65c_add_72be8_11 : decode cJx4a65c_add_72be8 11 = .ok (.aload_n 2, 1) := by decide +kernel
theorem dJx4a65c_add_72be8_12 : decode cJx4a65c_add_72be8 12 = .ok (.iload_n 3, 1) := by decide +kernel
theorem dJx4a65c_add_72be8_13 : decode cJx4a65c_add_72be8 13 = .ok (.aload_n 1, 1) := by decide +kernel
theorem dJx4a65c_add_72be8_14 : decode cJx4a65c_add_72be8 14 = .ok (.aastore, 1) := by decide +kernel
theorem dJx4a65c_add_72be8_15 : decode cJx4a65c_add_72be8 15 = .ok (.aload_n 0, 1) := by decide +kernel
theorem dJx4a65c_add_72be8_16 : decode cJx4a65c_add_72be8 16 = .ok (.iload_n 3, 1) := by decide +kernel
theorem dJx4a65c_add_72be8_17 : decode cJx4a65c_add_72be8 17 = .ok (.iconst 1, 1) := by decide +kernel
theorem dJx4a65c_add_72be8_18 : decode cJx4a65c_add_72be8 18 = .ok (.iadd, 1) := by decide +kernel
theorem dJx4a65c_add_72be8_19 : decode cJx4a65c_add_72be8 19 = .ok (.putfield 48, 3) := by decide +kernel
theorem dJx4a65c_add_72be8_22 : decode cJx4a65c_add_72be8 22 = .ok (.return_, 1) := by decide +kernel
theorem dJx4a65c_add_9ea2d_0 : decode cJx4a65c_add_9ea2d 0 = .ok (.aload_n 0, 1) := by decide +kernel
theorem dJx4a65c_add_9ea2d_1 : decode cJx4a65c_add_9ea2d 1 = .ok (.dup, 1) := by decide +kernel
theorem dJx4a65c_add_9ea2d_2 : decode cJx4a65c_add_9ea2d 2 = .ok (.getfield 63, 3) := by decide +kernel
theorem dJx4a65c_add_9ea2d_5 : decode cJx4a65c_add_9ea2d 5 = .ok (.iconst 1, 1) := by decide +kernel
theorem dJx4a65c_add_9ea2d_6 : decode cJx4a65c_add_9ea2d 6 = .ok (.iadd, 1) := by decide +kernel
theorem dJx4a65c_add_9ea2d_7 : decode cJx4a65c_add_9ea2d 7 = .ok (.putfield 63, 3) := by decide +kernel
theorem dJx4a65c_add_9ea2d_10 : decode cJx4a65c_add_9ea2d 10 = .ok (.aload_n 0, 1) := by decide +kernel
theorem dJx4a65c_add_9ea2d_11 : decode cJx4a65c_add_9ea2d 11 = .ok (.aload_n 1, 1) := by decide +kernel
theorem dJx4a65c_add_9ea2d_12 : decode cJx4a65c_add_9ea2d 12 = .ok (.aload_n 0, 1) := by decide +kernel
theorem dJx4a65c_add_9ea2d_13 : decode cJx4a65c_add_9ea2d 13 = .ok (.getfield 9, 3) := by decide +kernel
theorem dJx4a65c_add_9ea2d_16 : decode cJx4a65c_add_9ea2d 16 = .ok (.aload_n 0, 1) := by decide +kernel
theorem dJx4a65c_add_9ea2d_17 : decode cJx4a65c_add_9ea2d 17 = .ok (.getfield 48, 3) := by decide +kernel
theorem dJx4a65c_add_9ea2d_20 : decode cJx4a65c_add_9ea2d 20 = .ok (.invokevirtual 131, 3) := by decide +kernel
theorem dJx4a65c_add_9ea2d_23 : decode cJx4a65c_add_9ea2d 23 = .ok (.iconst 1, 1) := by decide +kernel
theorem dJx4a65c_add_9ea2d_24 : decode cJx4a65c_add_9ea2d 24 = .ok (.ireturn, 1) := by decide +kernel
theorem dJ7_fill_53178_0 : decode cJ7_fill_53178 0 = .ok (.iconst 0, 1) := by decide +kernel
theorem dJ7_fill_53178_1 : decode cJ7_fill_53178 1 = .ok (.istore_n 2, 1) := by decide +kernel
theorem dJ7_fill_53178_2 : decode cJ7_fill_53178 2 = .ok (.aload_n 0, 1) := by decide +kernel
theorem dJ7_fill_53178_3 : decode cJ7_fill_53178 3 = .ok (.arraylength, 1) := by decide +kernel
theorem dJ7_fill_53178_4 : decode cJ7_fill_53178 4 = .ok (.istore_n 3, 1) := by decide +kernel
theorem dJ7_fill_53178_5 : decode cJ7_fill_53178 5 = .ok (.iload_n 2, 1) := by decide +kernel
theorem dJ7_fill_53178_6 : decode cJ7_fill_53178 6 = .ok (.iload_n 3, 1) := by decide +kernel
theorem dJ7_fill_53178_7 : decode cJ7_fill_53178 7 = .ok (.if_icmp .ge 13, 3) := by decide +kernel
theorem dJ7_fill_53178_10 : decode cJ7_fill_53178 10 = .ok (.aload_n 0, 1) := by decide +kernel
theorem dJ7_fill_53178_11 : decode cJ7_fill_53178 11 = .ok (.iload_n 2, 1) := by decide +kernel
theorem dJ7_fill_53178_12 : decode cJ7_fill_53178 12 = .ok (.iload_n 1, 1) := by decide +kernel
theorem dJ7_fill_53178_13 : decode cJ7_fill_53178 13 = .ok (.iastore, 1) := by decide +kernel
theorem dJ7_fill_53178_14 : decode cJ7_fill_53178 14 = .ok (.iinc 2 1, 3) := by decide +kernel
theorem dJ7_fill_53178_17 : decode cJ7_fill_53178 17 = .ok (.goto (-12), 3) := by decide +kernel
theorem dJ7_fill_53178_20 : decode cJ7_fill_53178 20 = .ok (.return_, 1) := by decide +kernel
theorem dJ7_copyOf_1904c_0 : decode cJ7_copyOf_1904c 0 = .ok (.aload_n 0, 1) := by decide +kernel
theorem dJ7_copyOf_1904c_1 : decode cJ7_copyOf_1904c 1 = .ok (.iload_n 1, 1) := by decide +kernel
theorem dJ7_copyOf_1904c_2 : decode cJ7_copyOf_1904c 2 = .ok (.aload_n 0, 1) := by decide +kernel
theorem dJ7_copyOf_1904c_3 : decode cJ7_copyOf_1904c 3 = .ok (.invokevirtual 86, 3) := by decide +kernel
theorem dJ7_copyOf_1904c_6 : decode cJ7_copyOf_1904c 6 = .ok (.invokestatic 300, 3) := by decide +kernel
theorem dJ7_copyOf_1904c_9 : decode cJ7_copyOf_1904c 9 = .ok (.areturn, 1) := by decide +kernel
theorem dJ7_copyOf_6403c_0 : decode cJ7_copyOf_6403c 0 = .ok (.aload_n 2, 1) := by decide +kernel
theorem dJ7_copyOf_6403c_1 : decode cJ7_copyOf_6403c 1 = .ok (.ldc 110, 2) := by decide +kernel
theorem dJ7_copyOf_6403c_3 : decode cJ7_copyOf_6403c 3 = .ok (.if_acmp .ne 10, 3) := by decide +kernel
theorem dJ7_copyOf_6403c_6 : decode cJ7_copyOf_6403c 6 = .ok (.iload_n 1, 1) := by decide +kernel
theorem dJ7_copyOf_6403c_7 : decode cJ7_copyOf_6403c 7 = .ok (.anewarray 2, 3) := by decide +kernel
theorem dJ7_copyOf_6403c_10 : decode cJ7_copyOf_6403c 10 = .ok (.goto 14, 3) := by decide +kernel
theorem dJ7_copyOf_6403c_13 : decode cJ7_copyOf_6403c 13 = .ok (.aload_n 2, 1) := by decide +kernel
theorem dJ7_copyOf_6403c_14 : decode cJ7_copyOf_6403c 14 = .ok (.invokevirtual 90, 3) := by decide +kernel
theorem dJ7_copyOf_6403c_17 : decode cJ7_copyOf_6403c 17 = .ok (.iload_n 1, 1) := by decide +kernel
theorem dJ7_copyOf_6403c_18 : decode cJ7_copyOf_6403c 18 = .ok (.invokestatic 95, 3) := by decide +kernel
theorem dJ7_copyOf_6403c_21 : decode cJ7_copyOf_6403c 21 = .ok (.checkcast 110, 3) := by decide +kernel
theorem dJ7_copyOf_6403c_24 : decode cJ7_copyOf_6403c 24 = .ok (.astore_n 3, 1) := by decide +kernel
theorem dJ7_copyOf_6403c_25 : decode cJ7_copyOf_6403c 25 = .ok (.aload_n 0, 1) := by decide +kernel
theorem dJ7_copyOf_6403c_26 : decode cJ7_copyOf_6403c 26 = .ok (.iconst 0, 1) := by decide +kernel
theorem dJ7_copyOf_6403c_27 : decode cJ7_copyOf_6403c 27 = .ok (.aload_n 3, 1) := by decide +kernel
theorem dJ7_copyOf_6403c_28 : decode cJ7_copyOf_6403c 28 = .ok (.iconst 0, 1) := by decide +kernel
theorem dJ7_copyOf_6403c_29 : decode cJ7_copyOf_6403c 29 = .ok (.aload_n 0, 1) := by decide +kernel
theorem dJ7_copyOf_6403c_30 : decode cJ7_copyOf_6403c 30 = .ok (.arraylength, 1) := by decide +kernel
theorem dJ7_copyOf_6403c_31 : decode cJ7_copyOf_6403c 31 = .ok (.iload_n 1, 1) := by decide +kernel
theorem dJ7_copyOf_6403c_32 : decode cJ7_copyOf_6403c 32 = .ok (.invokestatic 304, 3) := by decide +kernel
theorem dJ7_copyOf_6403c_35 : decode cJ7_copyOf_6403c 35 = .ok (.invokestatic 150, 3) := by decide +kernel
theorem dJ7_copyOf_6403c_38 : decode cJ7_copyOf_6403c 38 = .ok (.aload_n 3, 1) := by decide +kernel
theorem dJ7_copyOf_6403c_39 : decode cJ7_copyOf_6403c 39 = .ok (.areturn, 1) := by decide +kernel
theorem dJ15_checkIndex_7cf53_0 : decode cJ15_checkIndex_7cf53 0 = .ok (.iload_n 0, 1) := by decide +kernel
theorem dJ15_checkIndex_7cf53_1 : decode cJ15_checkIndex_7cf53 1 = .ok (.iload_n 1, 1) := by decide +kernel
theorem dJ15_checkIndex_7cf53_2 : decode cJ15_checkIndex_7cf53 2 = .ok (.aconst_null, 1) := by decide +kernel
theorem dJ15_checkIndex_7cf53_3 : decode cJ15_checkIndex_7cf53 3 = .ok (.invokestatic 105, 3) := by decide +kernel
theorem dJ15_checkIndex_7cf53_6 : decode cJ15_checkIndex_7cf53 6 = .ok (.ireturn, 1) := by decide +kernel
theorem dJ8_newLength_cabcc_0 : decode cJ8_newLength_cabcc 0 = .ok (.iload_n 0, 1) := by decide +kernel
theorem dJ8_newLength_cabcc_1 : decode cJ8_newLength_cabcc 1 = .ok (.iload_n 1, 1) := by decide +kernel
theorem dJ8_newLength_cabcc_2 : decode cJ8_newLength_cabcc 2 = .ok (.iload_n 2, 1) := by decide +kernel
theorem dJ8_newLength_cabcc_3 : decode cJ8_newLength_cabcc 3 = .ok (.invokestatic 194, 3) := by decide +kernel
theorem dJ8_newLength_cabcc_6 : decode cJ8_newLength_cabcc 6 = .ok (.iadd, 1) := by decide +kernel
theorem dJ8_newLength_cabcc_7 : decode cJ8_newLength_cabcc 7 = .ok (.istore_n 3, 1) := by decide +kernel
theorem dJ8_newLength_cabcc_8 : decode cJ8_newLength_cabcc 8 = .ok (.iconst 0, 1) := by decide +kernel
theorem dJ8_newLength_cabcc_9 : decode cJ8_newLength_cabcc 9 = .ok (.iload_n 3, 1) := by decide +kernel
theorem dJ8_newLength_cabcc_10 : decode cJ8_newLength_cabcc 10 = .ok (.if_icmp .ge 11, 3) := by decide +kernel
theorem dJ8_newLength_cabcc_13 : decode cJ8_newLength_cabcc 13 = .ok (.iload_n 3, 1) := by decide +kernel
theorem dJ8_newLength_cabcc_14 : decode cJ8_newLength_cabcc 14 = .ok (.ldc 200, 2) := by decide +kernel
theorem dJ8_newLength_cabcc_16 : decode cJ8_newLength_cabcc 16 = .ok (.if_icmp .gt 5, 3) := by decide +kernel
theorem dJ8_newLength_cabcc_19 : decode cJ8_newLength_cabcc 19 = .ok (.iload_n 3, 1) := by decide +kernel
theorem dJ8_newLength_cabcc_20 : decode cJ8_newLength_cabcc 20 = .ok (.ireturn, 1) := by decide +kernel
theorem dJ8_newLength_cabcc_21 : decode cJ8_newLength_cabcc 21 = .ok (.iload_n 0, 1) := by decide +kernel
theorem dJ8_newLength_cabcc_22 : decode cJ8_newLength_cabcc 22 = .ok (.iload_n 1, 1) := by decide +kernel
theorem dJ8_newLength_cabcc_23 : decode cJ8_newLength_cabcc 23 = .ok (.invokestatic 201, 3) := by decide +kernel
theorem dJ8_newLength_cabcc_26 : decode cJ8_newLength_cabcc 26 = .ok (.ireturn, 1) := by decide +kernel
theorem dJ8_hugeLength_7cf53_0 : decode cJ8_hugeLength_7cf53 0 = .ok (.iload_n 0, 1) := by decide +kernel
theorem dJ8_hugeLength_7cf53_1 : decode cJ8_hugeLength_7cf53 1 = .ok (.iload_n 1, 1) := by decide +kernel
theorem dJ8_hugeLength_7cf53_2 : decode cJ8_hugeLength_7cf53 2 = .ok (.iadd, 1) := by decide +kernel
theorem dJ8_hugeLength_7cf53_3 : decode cJ8_hugeLength_7cf53 3 = .ok (.istore_n 2, 1) := by decide +kernel
theorem dJ8_hugeLength_7cf53_4 : decode cJ8_hugeLength_7cf53 4 = .ok (.iload_n 2, 1) := by decide +kernel
theorem dJ8_hugeLength_7cf53_5 : decode cJ8_hugeLength_7cf53 5 = .ok (.ifCond .ge 44, 3) := by decide +kernel
theorem dJ8_hugeLength_7cf53_8 : decode cJ8_hugeLength_7cf53 8 = .ok (.new 204, 3) := by decide +kernel
theorem dJ8_hugeLength_7cf53_11 : decode cJ8_hugeLength_7cf53 11 = .ok (.dup, 1) := by decide +kernel
theorem dJ8_hugeLength_7cf53_12 : decode cJ8_hugeLength_7cf53 12 = .ok (.new 89, 3) := by decide +kernel
theorem dJ8_hugeLength_7cf53_15 : decode cJ8_hugeLength_7cf53 15 = .ok (.dup, 1) := by decide +kernel
theorem dJ8_hugeLength_7cf53_16 : decode cJ8_hugeLength_7cf53 16 = .ok (.invokespecial 91, 3) := by decide +kernel
theorem dJ8_hugeLength_7cf53_19 : decode cJ8_hugeLength_7cf53 19 = .ok (.ldc 206, 2) := by decide +kernel
theorem dJ8_hugeLength_7cf53_21 : decode cJ8_hugeLength_7cf53 21 = .ok (.invokevirtual 94, 3) := by decide +kernel
theorem dJ8_hugeLength_7cf53_24 : decode cJ8_hugeLength_7cf53 24 = .ok (.iload_n 0, 1) := by decide +kernel
theorem dJ8_hugeLength_7cf53_25 : decode cJ8_hugeLength_7cf53 25 = .ok (.invokevirtual 98, 3) := by decide +kernel
theorem dJ8_hugeLength_7cf53_28 : decode cJ8_hugeLength_7cf53 28 = .ok (.ldc 208, 2) := by decide +kernel
theorem dJ8_hugeLength_7cf53_30 : decode cJ8_hugeLength_7cf53 30 = .ok (.invokevirtual 94, 3) := by decide +kernel
theorem dJ8_hugeLength_7cf53_33 : decode cJ8_hugeLength_7cf53 33 = .ok (.iload_n 1, 1) := by decide +kernel
theorem dJ8_hugeLength_7cf53_34 : decode cJ8_hugeLength_7cf53 34 = .ok (.invokevirtual 98, 3) := by decide +kernel
theorem dJ8_hugeLength_7cf53_37 : decode cJ8_hugeLength_7cf53 37 = .ok (.ldc 210, 2) := by decide +kernel
theorem dJ8_hugeLength_7cf53_39 : decode cJ8_hugeLength_7cf53 39 = .ok (.invokevirtual 94, 3) := by decide +kernel
theorem dJ8_hugeLength_7cf53_42 : decode cJ8_hugeLength_7cf53 42 = .ok (.invokevirtual 101, 3) := by decide +kernel
theorem dJ8_hugeLength_7cf53_45 : decode cJ8_hugeLength_7cf53 45 = .ok (.invokespecial 212, 3) := by decide +kernel
theorem dJ8_hugeLength_7cf53_48 : decode cJ8_hugeLength_7cf53 48 = .ok (.athrow, 1) := by decide +kernel
theorem dJ8_hugeLength_7cf53_49 : decode cJ8_hugeLength_7cf53 49 = .ok (.iload_n 2, 1) := by decide +kernel
theorem dJ8_hugeLength_7cf53_50 : decode cJ8_hugeLength_7cf53 50 = .ok (.ldc 200, 2) := by decide +kernel
theorem dJ8_hugeLength_7cf53_52 : decode cJ8_hugeLength_7cf53 52 = .ok (.if_icmp .gt 6, 3) := by decide +kernel
theorem dJ8_hugeLength_7cf53_55 : decode cJ8_hugeLength_7cf53 55 = .ok (.ldc 200, 2) := by decide +kernel
theorem dJ8_hugeLength_7cf53_57 : decode cJ8_hugeLength_7cf53 57 = .ok (.ireturn, 1) := by decide +kernel
theorem dJ8_hugeLength_7cf53_58 : decode cJ8_hugeLength_7cf53 58 = .ok (.iload_n 2, 1) := by decide +kernel
theorem dJ8_hugeLength_7cf53_59 : decode cJ8_hugeLength_7cf53 59 = .ok (.ireturn, 1) := by decide +kernel
theorem dJ3_checkIndex_8e157_0 : decode cJ3_checkIndex_8e157 0 = .ok (.iload_n 0, 1) := by decide +kernel
theorem dJ3_checkIndex_8e157_1 : decode cJ3_checkIndex_8e157 1 = .ok (.ifCond .lt 8, 3) := by decide +kernel
theorem dJ3_checkIndex_8e157_4 : decode cJ3_checkIndex_8e157 4 = .ok (.iload_n 0, 1) := by decide +kernel
theorem dJ3_checkIndex_8e157_5 : decode cJ3_checkIndex_8e157 5 = .ok (.iload_n 1, 1) := by decide +kernel
theorem dJ3_checkIndex_8e157_6 : decode cJ3_checkIndex_8e157 6 = .ok (.if_icmp .lt 10, 3) := by decide +kernel
theorem dJ3_checkIndex_8e157_9 : decode cJ3_checkIndex_8e157 9 = .ok (.aload_n 2, 1) := by decide +kernel
theorem dJ3_checkIndex_8e157_10 : decode cJ3_checkIndex_8e157 10 = .ok (.iload_n 0, 1) := by decide +kernel
theorem dJ3_checkIndex_8e157_11 : decode cJ3_checkIndex_8e157 11 = .ok (.iload_n 1, 1) := by decide +kernel
theorem dJ3_checkIndex_8e157_12 : decode cJ3_checkIndex_8e157 12 = .ok (.invokestatic 95, 3) := by decide +kernel
theorem dJ3_checkIndex_8e157_15 : decode cJ3_checkIndex_8e157 15 = .ok (.athrow, 1) := by decide +kernel
theorem dJ3_checkIndex_8e157_16 : decode cJ3_checkIndex_8e157 16 = .ok (.iload_n 0, 1) := by decide +kernel
theorem dJ3_checkIndex_8e157_17 : decode cJ3_checkIndex_8e157 17 = .ok (.ireturn, 1) := by decide +kernel
theorem dL_entry_0 : decode cL_entry 0 = .ok (.aload 4, 2) := by decide +kernel
theorem dL_entry_2 : decode cL_entry 2 = .ok (.iconst 0, 1) := by decide +kernel
theorem dL_entry_3 : decode cL_entry 3 = .ok (.aload_n 0, 1) := by decide +kernel
theorem dL_entry_4 : decode cL_entry 4 = .ok (.iload_n 1, 1) := by decide +kernel
theorem dL_entry_5 : decode cL_entry 5 = .ok (.iload_n 2, 1) := by decide +kernel
theorem dL_entry_6 : decode cL_entry 6 = .ok (.iload_n 3, 1) := by decide +kernel
theorem dL_entry_7 : decode cL_entry 7 = .ok (.invokevirtual 7, 3) := by decide +kernel
theorem dL_entry_10 : decode cL_entry 10 = .ok (.i2l, 1) := by decide +kernel
theorem dL_entry_11 : decode cL_entry 11 = .ok (.lastore, 1) := by decide +kernel
theorem dL_entry_12 : decode cL_entry 12 = .ok (.goto 11, 3) := by decide +kernel
theorem dL_entry_15 : decode cL_entry 15 = .ok (.astore 5, 2) := by decide +kernel
theorem dL_entry_17 : decode cL_entry 17 = .ok (.iconst 1, 1) := by decide +kernel
theorem dL_entry_18 : decode cL_entry 18 = .ok (.ireturn, 1) := by decide +kernel
theorem dL_entry_19 : decode cL_entry 19 = .ok (.astore 5, 2) := by decide +kernel
theorem dL_entry_21 : decode cL_entry 21 = .ok (.iconst 2, 1) := by decide +kernel
theorem dL_entry_22 : decode cL_entry 22 = .ok (.ireturn, 1) := by decide +kernel
theorem dL_entry_23 : decode cL_entry 23 = .ok (.iconst 0, 1) := by decide +kernel
theorem dL_entry_24 : decode cL_entry 24 = .ok (.ireturn, 1) := by decide +kernel
theorem dL_water_0 : decode cL_water 0 = .ok (.aload_n 3, 1) := by decide +kernel
theorem dL_water_1 : decode cL_water 1 = .ok (.iconst 0, 1) := by decide +kernel
theorem dL_water_2 : decode cL_water 2 = .ok (.aload_n 0, 1) := by decide +kernel
theorem dL_water_3 : decode cL_water 3 = .ok (.iload_n 1, 1) := by decide +kernel
theorem dL_water_4 : decode cL_water 4 = .ok (.iload_n 2, 1) := by decide +kernel
theorem dL_water_5 : decode cL_water 5 = .ok (.invokevirtual 17, 3) := by decide +kernel
theorem dL_water_8 : decode cL_water 8 = .ok (.i2l, 1) := by decide +kernel
theorem dL_water_9 : decode cL_water 9 = .ok (.lastore, 1) := by decide +kernel
theorem dL_water_10 : decode cL_water 10 = .ok (.goto 11, 3) := by decide +kernel
theorem dL_water_13 : decode cL_water 13 = .ok (.astore 4, 2) := by decide +kernel
theorem dL_water_15 : decode cL_water 15 = .ok (.iconst 1, 1) := by decide +kernel
theorem dL_water_16 : decode cL_water 16 = .ok (.ireturn, 1) := by decide +kernel
theorem dL_water_17 : decode cL_water 17 = .ok (.astore 4, 2) := by decide +kernel
theorem dL_water_19 : decode cL_water 19 = .ok (.iconst 2, 1) := by decide +kernel
theorem dL_water_20 : decode cL_water 20 = .ok (.ireturn, 1) := by decide +kernel
theorem dL_water_21 : decode cL_water 21 = .ok (.iconst 0, 1) := by decide +kernel
theorem dL_water_22 : decode cL_water 22 = .ok (.ireturn, 1) := by decide +kernel
theorem dL_yarn_0 : decode cL_yarn 0 = .ok (.aload 4, 2) := by decide +kernel
theorem dL_yarn_2 : decode cL_yarn 2 = .ok (.iconst 0, 1) := by decide +kernel
theorem dL_yarn_3 : decode cL_yarn 3 = .ok (.aload_n 0, 1) := by decide +kernel
theorem dL_yarn_4 : decode cL_yarn 4 = .ok (.iload_n 1, 1) := by decide +kernel
theorem dL_yarn_5 : decode cL_yarn 5 = .ok (.iload_n 2, 1) := by decide +kernel
theorem dL_yarn_6 : decode cL_yarn 6 = .ok (.iload_n 3, 1) := by decide +kernel
theorem dL_yarn_7 : decode cL_yarn 7 = .ok (.invokevirtual 23, 3) := by decide +kernel
theorem dL_yarn_10 : decode cL_yarn 10 = .ok (.i2l, 1) := by decide +kernel
theorem dL_yarn_11 : decode cL_yarn 11 = .ok (.lastore, 1) := by decide +kernel
theorem dL_yarn_12 : decode cL_yarn 12 = .ok (.goto 11, 3) := by decide +kernel
theorem dL_yarn_15 : decode cL_yarn 15 = .ok (.astore 5, 2) := by decide +kernel
theorem dL_yarn_17 : decode cL_yarn 17 = .ok (.iconst 1, 1) := by decide +kernel
theorem dL_yarn_18 : decode cL_yarn 18 = .ok (.ireturn, 1) := by decide +kernel
theorem dL_yarn_19 : decode cL_yarn 19 = .ok (.astore 5, 2) := by decide +kernel
theorem dL_yarn_21 : decode cL_yarn 21 = .ok (.iconst 2, 1) := by decide +kernel
theorem dL_yarn_22 : decode cL_yarn 22 = .ok (.ireturn, 1) := by decide +kernel
theorem dL_yarn_23 : decode cL_yarn 23 = .ok (.iconst 0, 1) := by decide +kernel
theorem dL_yarn_24 : decode cL_yarn 24 = .ok (.ireturn, 1) := by decide +kernel
theorem dL_apart_0 : decode cL_apart 0 = .ok (.aload_n 3, 1) := by decide +kernel
theorem dL_apart_1 : decode cL_apart 1 = .ok (.iconst 0, 1) := by decide +kernel
theorem dL_apart_2 : decode cL_apart 2 = .ok (.aload_n 0, 1) := by decide +kernel
theorem dL_apart_3 : decode cL_apart 3 = .ok (.iload_n 1, 1) := by decide +kernel
theorem dL_apart_4 : decode cL_apart 4 = .ok (.iload_n 2, 1) := by decide +kernel
theorem dL_apart_5 : decode cL_apart 5 = .ok (.invokevirtual 26, 3) := by decide +kernel
theorem dL_apart_8 : decode cL_apart 8 = .ok (.i2l, 1) := by decide +kernel
theorem dL_apart_9 : decode cL_apart 9 = .ok (.lastore, 1) := by decide +kernel
theorem dL_apart_10 : decode cL_apart 10 = .ok (.goto 7, 3) := by decide +kernel
theorem dL_apart_13 : decode cL_apart 13 = .ok (.astore 4, 2) := by decide +kernel
theorem dL_apart_15 : decode cL_apart 15 = .ok (.iconst 1, 1) := by decide +kernel
theorem dL_apart_16 : decode cL_apart 16 = .ok (.ireturn, 1) := by decide +kernel
theorem dL_apart_17 : decode cL_apart 17 = .ok (.iconst 0, 1) := by decide +kernel
theorem dL_apart_18 : decode cL_apart 18 = .ok (.ireturn, 1) := by decide +kernel
theorem dL_bath_0 : decode cL_bath 0 = .ok (.aload_n 3, 1) := by decide +kernel
theorem dL_bath_1 : decode cL_bath 1 = .ok (.iconst 0, 1) := by decide +kernel
theorem dL_bath_2 : decode cL_bath 2 = .ok (.aload_n 0, 1) := by decide +kernel
theorem dL_bath_3 : decode cL_bath 3 = .ok (.iload_n 1, 1) := by decide +kernel
theorem dL_bath_4 : decode cL_bath 4 = .ok (.iload_n 2, 1) := by decide +kernel
theorem dL_bath_5 : decode cL_bath 5 = .ok (.invokevirtual 29, 3) := by decide +kernel
theorem dL_bath_8 : decode cL_bath 8 = .ok (.i2l, 1) := by decide +kernel
theorem dL_bath_9 : decode cL_bath 9 = .ok (.lastore, 1) := by decide +kernel
theorem dL_bath_10 : decode cL_bath 10 = .ok (.goto 11, 3) := by decide +kernel
theorem dL_bath_13 : decode cL_bath 13 = .ok (.astore 4, 2) := by decide +kernel
theorem dL_bath_15 : decode cL_bath 15 = .ok (.iconst 1, 1) := by decide +kernel
theorem dL_bath_16 : decode cL_bath 16 = .ok (.ireturn, 1) := by decide +kernel
theorem dL_bath_17 : decode cL_bath 17 = .ok (.astore 4, 2) := by decide +kernel
theorem dL_bath_19 : decode cL_bath 19 = .ok (.iconst 2, 1) := by decide +kernel
theorem dL_bath_20 : decode cL_bath 20 = .ok (.ireturn, 1) := by decide +kernel
theorem dL_bath_21 : decode cL_bath 21 = .ok (.iconst 0, 1) := by decide +kernel
theorem dL_bath_22 : decode cL_bath 22 = .ok (.ireturn, 1) := by decide +kernel
theorem dL_freshen_0 : decode cL_freshen 0 = .ok (.aload_n 2, 1) := by decide +kernel
theorem dL_freshen_1 : decode cL_freshen 1 = .ok (.iconst 0, 1) := by decide +kernel
theorem dL_freshen_2 : decode cL_freshen 2 = .ok (.aload_n 0, 1) := by decide +kernel
theorem dL_freshen_3 : decode cL_freshen 3 = .ok (.iload_n 1, 1) := by decide +kernel
theorem dL_freshen_4 : decode cL_freshen 4 = .ok (.invokevirtual 32, 3) := by decide +kernel
theorem dL_freshen_7 : decode cL_freshen 7 = .ok (.i2l, 1) := by decide +kernel
theorem dL_freshen_8 : decode cL_freshen 8 = .ok (.lastore, 1) := by decide +kernel
theorem dL_freshen_9 : decode cL_freshen 9 = .ok (.goto 6, 3) := by decide +kernel
theorem dL_freshen_12 : decode cL_freshen 12 = .ok (.astore_n 3, 1) := by decide +kernel
theorem dL_freshen_13 : decode cL_freshen 13 = .ok (.iconst 1, 1) := by decide +kernel
theorem dL_freshen_14 : decode cL_freshen 14 = .ok (.ireturn, 1) := by decide +kernel
theorem dL_freshen_15 : decode cL_freshen 15 = .ok (.iconst 0, 1) := by decide +kernel
theorem dL_freshen_16 : decode cL_freshen 16 = .ok (.ireturn, 1) := by decide +kernel
theorem dL_strength_0 : decode cL_strength 0 = .ok (.aload_n 2, 1) := by decide +kernel
theorem dL_strength_1 : decode cL_strength 1 = .ok (.iconst 0, 1) := by decide +kernel
theorem dL_strength_2 : decode cL_strength 2 = .ok (.aload_n 0, 1) := by decide +kernel
theorem dL_strength_3 : decode cL_strength 3 = .ok (.iload_n 1, 1) := by decide +kernel
theorem dL_strength_4 : decode cL_strength 4 = .ok (.invokevirtual 36, 3) := by decide +kernel
theorem dL_strength_7 : decode cL_strength 7 = .ok (.i2l, 1) := by decide +kernel
theorem dL_strength_8 : decode cL_strength 8 = .ok (.lastore, 1) := by decide +kernel
theorem dL_strength_9 : decode cL_strength 9 = .ok (.goto 6, 3) := by decide +kernel
theorem dL_strength_12 : decode cL_strength 12 = .ok (.astore_n 3, 1) := by decide +kernel
theorem dL_strength_13 : decode cL_strength 13 = .ok (.iconst 1, 1) := by decide +kernel
theorem dL_strength_14 : decode cL_strength 14 = .ok (.ireturn, 1) := by decide +kernel
theorem dL_strength_15 : decode cL_strength 15 = .ok (.iconst 0, 1) := by decide +kernel
theorem dL_strength_16 : decode cL_strength 16 = .ok (.ireturn, 1) := by decide +kernel
theorem dL_order_0 : decode cL_order 0 = .ok (.aload 4, 2) := by decide +kernel
theorem dL_order_2 : decode cL_order 2 = .ok (.iconst 0, 1) := by decide +kernel
theorem dL_order_3 : decode cL_order 3 = .ok (.aload_n 0, 1) := by decide +kernel
theorem dL_order_4 : decode cL_order 4 = .ok (.iload_n 1, 1) := by decide +kernel
theorem dL_order_5 : decode cL_order 5 = .ok (.iload_n 2, 1) := by decide +kernel
theorem dL_order_6 : decode cL_order 6 = .ok (.iload_n 3, 1) := by decide +kernel
theorem dL_order_7 : decode cL_order 7 = .ok (.invokevirtual 39, 3) := by decide +kernel
theorem dL_order_10 : decode cL_order 10 = .ok (.i2l, 1) := by decide +kernel
theorem dL_order_11 : decode cL_order 11 = .ok (.lastore, 1) := by decide +kernel
theorem dL_order_12 : decode cL_order 12 = .ok (.goto 15, 3) := by decide +kernel
theorem dL_order_15 : decode cL_order 15 = .ok (.astore 5, 2) := by decide +kernel
theorem dL_order_17 : decode cL_order 17 = .ok (.iconst 1, 1) := by decide +kernel
theorem dL_order_18 : decode cL_order 18 = .ok (.ireturn, 1) := by decide +kernel
theorem dL_order_19 : decode cL_order 19 = .ok (.astore 5, 2) := by decide +kernel
theorem dL_order_21 : decode cL_order 21 = .ok (.iconst 2, 1) := by decide +kernel
theorem dL_order_22 : decode cL_order 22 = .ok (.ireturn, 1) := by decide +kernel
theorem dL_order_23 : decode cL_order 23 = .ok (.astore 5, 2) := by decide +kernel
theorem dL_order_25 : decode cL_order 25 = .ok (.iconst 3, 1) := by decide +kernel
theorem dL_order_26 : decode cL_order 26 = .ok (.ireturn, 1) := by decide +kernel
theorem dL_order_27 : decode cL_order 27 = .ok (.iconst 0, 1) := by decide +kernel
theorem dL_order_28 : decode cL_order 28 = .ok (.ireturn, 1) := by decide +kernel
theorem dL_place_0 : decode cL_place 0 = .ok (.aload_n 2, 1) := by decide +kernel
theorem dL_place_1 : decode cL_place 1 = .ok (.iconst 0, 1) := by decide +kernel
theorem dL_place_2 : decode cL_place 2 = .ok (.aload_n 0, 1) := by decide +kernel
theorem dL_place_3 : decode cL_place 3 = .ok (.iload_n 1, 1) := by decide +kernel
theorem dL_place_4 : decode cL_place 4 = .ok (.invokevirtual 42, 3) := by decide +kernel
theorem dL_place_7 : decode cL_place 7 = .ok (.i2l, 1) := by decide +kernel
theorem dL_place_8 : decode cL_place 8 = .ok (.lastore, 1) := by decide +kernel
theorem dL_place_9 : decode cL_place 9 = .ok (.goto 12, 3) := by decide +kernel
theorem dL_place_12 : decode cL_place 12 = .ok (.astore_n 3, 1) := by decide +kernel
theorem dL_place_13 : decode cL_place 13 = .ok (.iconst 1, 1) := by decide +kernel
theorem dL_place_14 : decode cL_place 14 = .ok (.ireturn, 1) := by decide +kernel
theorem dL_place_15 : decode cL_place 15 = .ok (.astore_n 3, 1) := by decide +kernel
theorem dL_place_16 : decode cL_place 16 = .ok (.iconst 2, 1) := by decide +kernel
theorem dL_place_17 : decode cL_place 17 = .ok (.ireturn, 1) := by decide +kernel
theorem dL_place_18 : decode cL_place 18 = .ok (.astore_n 3, 1) := by decide +kernel
theorem dL_place_19 : decode cL_place 19 = .ok (.iconst 3, 1) := by decide +kernel
theorem dL_place_20 : decode cL_place 20 = .ok (.ireturn, 1) := by decide +kernel
theorem dL_place_21 : decode cL_place 21 = .ok (.iconst 0, 1) := by decide +kernel
theorem dL_place_22 : decode cL_place 22 = .ok (.ireturn, 1) := by decide +kernel
theorem dL_dye_0 : decode cL_dye 0 = .ok (.aload_n 3, 1) := by decide +kernel
theorem dL_dye_1 : decode cL_dye 1 = .ok (.iconst 0, 1) := by decide +kernel
theorem dL_dye_2 : decode cL_dye 2 = .ok (.aload_n 0, 1) := by decide +kernel
theorem dL_dye_3 : decode cL_dye 3 = .ok (.iload_n 1, 1) := by decide +kernel
theorem dL_dye_4 : decode cL_dye 4 = .ok (.iload_n 2, 1) := by decide +kernel
theorem dL_dye_5 : decode cL_dye 5 = .ok (.invokevirtual 47, 3) := by decide +kernel
theorem dL_dye_8 : decode cL_dye 8 = .ok (.i2l, 1) := by decide +kernel
theorem dL_dye_9 : decode cL_dye 9 = .ok (.lastore, 1) := by decide +kernel
theorem dL_dye_10 : decode cL_dye 10 = .ok (.goto 15, 3) := by decide +kernel
theorem dL_dye_13 : decode cL_dye 13 = .ok (.astore 4, 2) := by decide +kernel
theorem dL_dye_15 : decode cL_dye 15 = .ok (.iconst 1, 1) := by decide +kernel
theorem dL_dye_16 : decode cL_dye 16 = .ok (.ireturn, 1) := by decide +kernel
theorem dL_dye_17 : decode cL_dye 17 = .ok (.astore 4, 2) := by decide +kernel
theorem dL_dye_19 : decode cL_dye 19 = .ok (.iconst 2, 1) := by decide +kernel
theorem dL_dye_20 : decode cL_dye 20 = .ok (.ireturn, 1) := by decide +kernel
theorem dL_dye_21 : decode cL_dye 21 = .ok (.astore 4, 2) := by decide +kernel
theorem dL_dye_23 : decode cL_dye 23 = .ok (.iconst 3, 1) := by decide +kernel
theorem dL_dye_24 : decode cL_dye 24 = .ok (.ireturn, 1) := by decide +kernel
theorem dL_dye_25 : decode cL_dye 25 = .ok (.iconst 0, 1) := by decide +kernel
theorem dL_dye_26 : decode cL_dye 26 = .ok (.ireturn, 1) := by decide +kernel
theorem dL_claim_0 : decode cL_claim 0 = .ok (.aload_n 2, 1) := by decide +kernel
theorem dL_claim_1 : decode cL_claim 1 = .ok (.iconst 0, 1) := by decide +kernel
theorem dL_claim_2 : decode cL_claim 2 = .ok (.aload_n 0, 1) := by decide +kernel
theorem dL_claim_3 : decode cL_claim 3 = .ok (.iload_n 1, 1) := by decide +kernel
theorem dL_claim_4 : decode cL_claim 4 = .ok (.invokevirtual 50, 3) := by decide +kernel
theorem dL_claim_7 : decode cL_claim 7 = .ok (.i2l, 1) := by decide +kernel
theorem dL_claim_8 : decode cL_claim 8 = .ok (.lastore, 1) := by decide +kernel
theorem dL_claim_9 : decode cL_claim 9 = .ok (.goto 9, 3) := by decide +kernel
theorem dL_claim_12 : decode cL_claim 12 = .ok (.astore_n 3, 1) := by decide +kernel
theorem dL_claim_13 : decode cL_claim 13 = .ok (.iconst 1, 1) := by decide +kernel
theorem dL_claim_14 : decode cL_claim 14 = .ok (.ireturn, 1) := by decide +kernel
theorem dL_claim_15 : decode cL_claim 15 = .ok (.astore_n 3, 1) := by decide +kernel
theorem dL_claim_16 : decode cL_claim 16 = .ok (.iconst 2, 1) := by decide +kernel
theorem dL_claim_17 : decode cL_claim 17 = .ok (.ireturn, 1) := by decide +kernel
theorem dL_claim_18 : decode cL_claim 18 = .ok (.iconst 0, 1) := by decide +kernel
theorem dL_claim_19 : decode cL_claim 19 = .ok (.ireturn, 1) := by decide +kernel
theorem dL_stateOf_0 : decode cL_stateOf 0 = .ok (.aload_n 2, 1) := by decide +kernel
theorem dL_stateOf_1 : decode cL_stateOf 1 = .ok (.iconst 0, 1) := by decide +kernel
theorem dL_stateOf_2 : decode cL_stateOf 2 = .ok (.aload_n 0, 1) := by decide +kernel
theorem dL_stateOf_3 : decode cL_stateOf 3 = .ok (.iload_n 1, 1) := by decide +kernel
theorem dL_stateOf_4 : decode cL_stateOf 4 = .ok (.invokevirtual 53, 3) := by decide +kernel
theorem dL_stateOf_7 : decode cL_stateOf 7 = .ok (.i2l, 1) := by decide +kernel
theorem dL_stateOf_8 : decode cL_stateOf 8 = .ok (.lastore, 1) := by decide +kernel
theorem dL_stateOf_9 : decode cL_stateOf 9 = .ok (.goto 6, 3) := by decide +kernel
theorem dL_stateOf_12 : decode cL_stateOf 12 = .ok (.astore_n 3, 1) := by decide +kernel
theorem dL_stateOf_13 : decode cL_stateOf 13 = .ok (.iconst 1, 1) := by decide +kernel
theorem dL_stateOf_14 : decode cL_stateOf 14 = .ok (.ireturn, 1) := by decide +kernel
theorem dL_stateOf_15 : decode cL_stateOf 15 = .ok (.iconst 0, 1) := by decide +kernel
theorem dL_stateOf_16 : decode cL_stateOf 16 = .ok (.ireturn, 1) := by decide +kernel
theorem dL_colour_0 : decode cL_colour 0 = .ok (.aload_n 3, 1) := by decide +kernel
theorem dL_colour_1 : decode cL_colour 1 = .ok (.iconst 0, 1) := by decide +kernel
theorem dL_colour_2 : decode cL_colour 2 = .ok (.aload_n 0, 1) := by decide +kernel
theorem dL_colour_3 : decode cL_colour 3 = .ok (.iload_n 1, 1) := by decide +kernel
theorem dL_colour_4 : decode cL_colour 4 = .ok (.iload_n 2, 1) := by decide +kernel
theorem dL_colour_5 : decode cL_colour 5 = .ok (.invokevirtual 56, 3) := by decide +kernel
theorem dL_colour_8 : decode cL_colour 8 = .ok (.i2l, 1) := by decide +kernel
theorem dL_colour_9 : decode cL_colour 9 = .ok (.lastore, 1) := by decide +kernel
theorem dL_colour_10 : decode cL_colour 10 = .ok (.goto 11, 3) := by decide +kernel
theorem dL_colour_13 : decode cL_colour 13 = .ok (.astore 4, 2) := by decide +kernel
theorem dL_colour_15 : decode cL_colour 15 = .ok (.iconst 1, 1) := by decide +kernel
theorem dL_colour_16 : decode cL_colour 16 = .ok (.ireturn, 1) := by decide +kernel
theorem dL_colour_17 : decode cL_colour 17 = .ok (.astore 4, 2) := by decide +kernel
theorem dL_colour_19 : decode cL_colour 19 = .ok (.iconst 2, 1) := by decide +kernel
theorem dL_colour_20 : decode cL_colour 20 = .ok (.ireturn, 1) := by decide +kernel
theorem dL_colour_21 : decode cL_colour 21 = .ok (.iconst 0, 1) := by decide +kernel
theorem dL_colour_22 : decode cL_colour 22 = .ok (.ireturn, 1) := by decide +kernel
theorem dL_colourByBath_0 : decode cL_colourByBath 0 = .ok (.aload_n 3, 1) := by decide +kernel
theorem dL_colourByBath_1 : decode cL_colourByBath 1 = .ok (.iconst 0, 1) := by decide +kernel
theorem dL_colourByBath_2 : decode cL_colourByBath 2 = .ok (.aload_n 0, 1) := by decide +kernel
theorem dL_colourByBath_3 : decode cL_colourByBath 3 = .ok (.iload_n 1, 1) := by decide +kernel
theorem dL_colourByBath_4 : decode cL_colourByBath 4 = .ok (.iload_n 2, 1) := by decide +kernel
theorem dL_colourByBath_5 : decode cL_colourByBath 5 = .ok (.invokevirtual 59, 3) := by decide +kernel
theorem dL_colourByBath_8 : decode cL_colourByBath 8 = .ok (.i2l, 1) := by decide +kernel
theorem dL_colourByBath_9 : decode cL_colourByBath 9 = .ok (.lastore, 1) := by decide +kernel
theorem dL_colourByBath_10 : decode cL_colourByBath 10 = .ok (.goto 11, 3) := by decide +kernel
theorem dL_colourByBath_13 : decode cL_colourByBath 13 = .ok (.astore 4, 2) := by decide +kernel
theorem dL_colourByBath_15 : decode cL_colourByBath 15 = .ok (.iconst 1, 1) := by decide +kernel
theorem dL_colourByBath_16 : decode cL_colourByBath 16 = .ok (.ireturn, 1) := by decide +kernel
theorem dL_colourByBath_17 : decode cL_colourByBath 17 = .ok (.astore 4, 2) := by decide +kernel
theorem dL_colourByBath_19 : decode cL_colourByBath 19 = .ok (.iconst 2, 1) := by decide +kernel
theorem dL_colourByBath_20 : decode cL_colourByBath 20 = .ok (.ireturn, 1) := by decide +kernel
theorem dL_colourByBath_21 : decode cL_colourByBath 21 = .ok (.iconst 0, 1) := by decide +kernel
theorem dL_colourByBath_22 : decode cL_colourByBath 22 = .ok (.ireturn, 1) := by decide +kernel
theorem dL_blamed_0 : decode cL_blamed 0 = .ok (.aload_n 3, 1) := by decide +kernel
theorem dL_blamed_1 : decode cL_blamed 1 = .ok (.iconst 0, 1) := by decide +kernel
theorem dL_blamed_2 : decode cL_blamed 2 = .ok (.aload_n 0, 1) := by decide +kernel
theorem dL_blamed_3 : decode cL_blamed 3 = .ok (.iload_n 1, 1) := by decide +kernel
theorem dL_blamed_4 : decode cL_blamed 4 = .ok (.iload_n 2, 1) := by decide +kernel
theorem dL_blamed_5 : decode cL_blamed 5 = .ok (.invokevirtual 62, 3) := by decide +kernel
theorem dL_blamed_8 : decode cL_blamed 8 = .ok (.i2l, 1) := by decide +kernel
theorem dL_blamed_9 : decode cL_blamed 9 = .ok (.lastore, 1) := by decide +kernel
theorem dL_blamed_10 : decode cL_blamed 10 = .ok (.goto 11, 3) := by decide +kernel
theorem dL_blamed_13 : decode cL_blamed 13 = .ok (.astore 4, 2) := by decide +kernel
theorem dL_blamed_15 : decode cL_blamed 15 = .ok (.iconst 1, 1) := by decide +kernel
theorem dL_blamed_16 : decode cL_blamed 16 = .ok (.ireturn, 1) := by decide +kernel
theorem dL_blamed_17 : decode cL_blamed 17 = .ok (.astore 4, 2) := by decide +kernel
theorem dL_blamed_19 : decode cL_blamed 19 = .ok (.iconst 2, 1) := by decide +kernel
theorem dL_blamed_20 : decode cL_blamed 20 = .ok (.ireturn, 1) := by decide +kernel
theorem dL_blamed_21 : decode cL_blamed 21 = .ok (.iconst 0, 1) := by decide +kernel
theorem dL_blamed_22 : decode cL_blamed 22 = .ok (.ireturn, 1) := by decide +kernel
theorem dL_shrinks_0 : decode cL_shrinks 0 = .ok (.aload_n 3, 1) := by decide +kernel
theorem dL_shrinks_1 : decode cL_shrinks 1 = .ok (.iconst 0, 1) := by decide +kernel
theorem dL_shrinks_2 : decode cL_shrinks 2 = .ok (.aload_n 0, 1) := by decide +kernel
theorem dL_shrinks_3 : decode cL_shrinks 3 = .ok (.iload_n 1, 1) := by decide +kernel
theorem dL_shrinks_4 : decode cL_shrinks 4 = .ok (.iload_n 2, 1) := by decide +kernel
theorem dL_shrinks_5 : decode cL_shrinks 5 = .ok (.invokevirtual 65, 3) := by decide +kernel
theorem dL_shrinks_8 : decode cL_shrinks 8 = .ok (.i2l, 1) := by decide +kernel
theorem dL_shrinks_9 : decode cL_shrinks 9 = .ok (.lastore, 1) := by decide +kernel
theorem dL_shrinks_10 : decode cL_shrinks 10 = .ok (.goto 11, 3) := by decide +kernel
theorem dL_shrinks_13 : decode cL_shrinks 13 = .ok (.astore 4, 2) := by decide +kernel
theorem dL_shrinks_15 : decode cL_shrinks 15 = .ok (.iconst 1, 1) := by decide +kernel
theorem dL_shrinks_16 : decode cL_shrinks 16 = .ok (.ireturn, 1) := by decide +kernel
theorem dL_shrinks_17 : decode cL_shrinks 17 = .ok (.astore 4, 2) := by decide +kernel
theorem dL_shrinks_19 : decode cL_shrinks 19 = .ok (.iconst 2, 1) := by decide +kernel
theorem dL_shrinks_20 : decode cL_shrinks 20 = .ok (.ireturn, 1) := by decide +kernel
theorem dL_shrinks_21 : decode cL_shrinks 21 = .ok (.iconst 0, 1) := by decide +kernel
theorem dL_shrinks_22 : decode cL_shrinks 22 = .ok (.ireturn, 1) := by decide +kernel
theorem dL_give_0 : decode cL_give 0 = .ok (.aload 5, 2) := by decide +kernel
theorem dL_give_2 : decode cL_give 2 = .ok (.iconst 0, 1) := by decide +kernel
theorem dL_give_3 : decode cL_give 3 = .ok (.aload_n 0, 1) := by decide +kernel
theorem dL_give_4 : decode cL_give 4 = .ok (.iload_n 1, 1) := by decide +kernel
theorem dL_give_5 : decode cL_give 5 = .ok (.iload_n 2, 1) := by decide +kernel
theorem dL_give_6 : decode cL_give 6 = .ok (.iload_n 3, 1) := by decide +kernel
theorem dL_give_7 : decode cL_give 7 = .ok (.iload 4, 2) := by decide +kernel
theorem dL_give_9 : decode cL_give 9 = .ok (.invokevirtual 68, 3) := by decide +kernel
theorem dL_give_12 : decode cL_give 12 = .ok (.i2l, 1) := by decide +kernel
theorem dL_give_13 : decode cL_give 13 = .ok (.lastore, 1) := by decide +kernel
theorem dL_give_14 : decode cL_give 14 = .ok (.goto 15, 3) := by decide +kernel
theorem dL_give_17 : decode cL_give 17 = .ok (.astore 6, 2) := by decide +kernel
theorem dL_give_19 : decode cL_give 19 = .ok (.iconst 1, 1) := by decide +kernel
theorem dL_give_20 : decode cL_give 20 = .ok (.ireturn, 1) := by decide +kernel
theorem dL_give_21 : decode cL_give 21 = .ok (.astore 6, 2) := by decide +kernel
theorem dL_give_23 : decode cL_give 23 = .ok (.iconst 2, 1) := by decide +kernel
theorem dL_give_24 : decode cL_give 24 = .ok (.ireturn, 1) := by decide +kernel
theorem dL_give_25 : decode cL_give 25 = .ok (.astore 6, 2) := by decide +kernel
theorem dL_give_27 : decode cL_give 27 = .ok (.iconst 3, 1) := by decide +kernel
theorem dL_give_28 : decode cL_give 28 = .ok (.ireturn, 1) := by decide +kernel
theorem dL_give_29 : decode cL_give 29 = .ok (.iconst 0, 1) := by decide +kernel
theorem dL_give_30 : decode cL_give 30 = .ok (.ireturn, 1) := by decide +kernel
theorem dL_owes_0 : decode cL_owes 0 = .ok (.aload 4, 2) := by decide +kernel
theorem dL_owes_2 : decode cL_owes 2 = .ok (.iconst 0, 1) := by decide +kernel
theorem dL_owes_3 : decode cL_owes 3 = .ok (.aload_n 0, 1) := by decide +kernel
theorem dL_owes_4 : decode cL_owes 4 = .ok (.iload_n 1, 1) := by decide +kernel
theorem dL_owes_5 : decode cL_owes 5 = .ok (.iload_n 2, 1) := by decide +kernel
theorem dL_owes_6 : decode cL_owes 6 = .ok (.iload_n 3, 1) := by decide +kernel
theorem dL_owes_7 : decode cL_owes 7 = .ok (.invokevirtual 72, 3) := by decide +kernel
theorem dL_owes_10 : decode cL_owes 10 = .ok (.i2l, 1) := by decide +kernel
theorem dL_owes_11 : decode cL_owes 11 = .ok (.lastore, 1) := by decide +kernel
theorem dL_owes_12 : decode cL_owes 12 = .ok (.goto 7, 3) := by decide +kernel
theorem dL_owes_15 : decode cL_owes 15 = .ok (.astore 5, 2) := by decide +kernel
theorem dL_owes_17 : decode cL_owes 17 = .ok (.iconst 1, 1) := by decide +kernel
theorem dL_owes_18 : decode cL_owes 18 = .ok (.ireturn, 1) := by decide +kernel
theorem dL_owes_19 : decode cL_owes 19 = .ok (.iconst 0, 1) := by decide +kernel
theorem dL_owes_20 : decode cL_owes 20 = .ok (.ireturn, 1) := by decide +kernel
theorem dL_position_0 : decode cL_position 0 = .ok (.aload_n 3, 1) := by decide +kernel
theorem dL_position_1 : decode cL_position 1 = .ok (.iconst 0, 1) := by decide +kernel
theorem dL_position_2 : decode cL_position 2 = .ok (.aload_n 0, 1) := by decide +kernel
theorem dL_position_3 : decode cL_position 3 = .ok (.iload_n 1, 1) := by decide +kernel
theorem dL_position_4 : decode cL_position 4 = .ok (.iload_n 2, 1) := by decide +kernel
theorem dL_position_5 : decode cL_position 5 = .ok (.invokevirtual 75, 3) := by decide +kernel
theorem dL_position_8 : decode cL_position 8 = .ok (.i2l, 1) := by decide +kernel
theorem dL_position_9 : decode cL_position 9 = .ok (.lastore, 1) := by decide +kernel
theorem dL_position_10 : decode cL_position 10 = .ok (.goto 7, 3) := by decide +kernel
theorem dL_position_13 : decode cL_position 13 = .ok (.astore 4, 2) := by decide +kernel
theorem dL_position_15 : decode cL_position 15 = .ok (.iconst 1, 1) := by decide +kernel
theorem dL_position_16 : decode cL_position 16 = .ok (.ireturn, 1) := by decide +kernel
theorem dL_position_17 : decode cL_position 17 = .ok (.iconst 0, 1) := by decide +kernel
theorem dL_position_18 : decode cL_position 18 = .ok (.ireturn, 1) := by decide +kernel
theorem dL_net_0 : decode cL_net 0 = .ok (.aload_n 2, 1) := by decide +kernel
theorem dL_net_1 : decode cL_net 1 = .ok (.iconst 0, 1) := by decide +kernel
theorem dL_net_2 : decode cL_net 2 = .ok (.aload_n 0, 1) := by decide +kernel
theorem dL_net_3 : decode cL_net 3 = .ok (.iload_n 1, 1) := by decide +kernel
theorem dL_net_4 : decode cL_net 4 = .ok (.invokevirtual 78, 3) := by decide +kernel
theorem dL_net_7 : decode cL_net 7 = .ok (.i2l, 1) := by decide +kernel
theorem dL_net_8 : decode cL_net 8 = .ok (.lastore, 1) := by decide +kernel
theorem dL_net_9 : decode cL_net 9 = .ok (.goto 6, 3) := by decide +kernel
theorem dL_net_12 : decode cL_net 12 = .ok (.astore_n 3, 1) := by decide +kernel
theorem dL_net_13 : decode cL_net 13 = .ok (.iconst 1, 1) := by decide +kernel
theorem dL_net_14 : decode cL_net 14 = .ok (.ireturn, 1) := by decide +kernel
theorem dL_net_15 : decode cL_net 15 = .ok (.iconst 0, 1) := by decide +kernel
theorem dL_net_16 : decode cL_net 16 = .ok (.ireturn, 1) := by decide +kernel
theorem dL_law_0 : decode cL_law 0 = .ok (.new 8, 3) := by decide +kernel
theorem dL_law_3 : decode cL_law 3 = .ok (.dup, 1) := by decide +kernel
theorem dL_law_4 : decode cL_law 4 = .ok (.invokespecial 81, 3) := by decide +kernel
theorem dL_law_7 : decode cL_law 7 = .ok (.astore_n 1, 1) := by decide +kernel
theorem dL_law_8 : decode cL_law 8 = .ok (.new 82, 3) := by decide +kernel
theorem dL_law_11 : decode cL_law 11 = .ok (.dup, 1) := by decide +kernel
theorem dL_law_12 : decode cL_law 12 = .ok (.invokespecial 84, 3) := by decide +kernel
theorem dL_law_15 : decode cL_law 15 = .ok (.astore_n 2, 1) := by decide +kernel
theorem dL_law_16 : decode cL_law 16 = .ok (.iconst 1, 1) := by decide +kernel
theorem dL_law_17 : decode cL_law 17 = .ok (.newarray .long, 2) := by decide +kernel
theorem dL_law_19 : decode cL_law 19 = .ok (.astore_n 3, 1) := by decide +kernel
theorem dL_law_20 : decode cL_law 20 = .ok (.iconst 0, 1) := by decide +kernel
theorem dL_law_21 : decode cL_law 21 = .ok (.istore 4, 2) := by decide +kernel
theorem dL_law_23 : decode cL_law 23 = .ok (.iload 4, 2) := by decide +kernel
theorem dL_law_25 : decode cL_law 25 = .ok (.aload_n 0, 1) := by decide +kernel
theorem dL_law_26 : decode cL_law 26 = .ok (.arraylength, 1) := by decide +kernel
theorem dL_law_27 : decode cL_law 27 = .ok (.iconst 5, 1) := by decide +kernel
theorem dL_law_28 : decode cL_law 28 = .ok (.isub, 1) := by decide +kernel
theorem dL_law_29 : decode cL_law 29 = .ok (.if_icmp .gt 1469, 3) := by decide +kernel
theorem dL_law_32 : decode cL_law 32 = .ok (.aload_n 0, 1) := by decide +kernel
theorem dL_law_33 : decode cL_law 33 = .ok (.iload 4, 2) := by decide +kernel
theorem dL_law_35 : decode cL_law 35 = .ok (.iaload, 1) := by decide +kernel
theorem dL_law_36 : decode cL_law 36 = .ok (.bipush 31, 2) := by decide +kernel
theorem dL_law_38 : decode cL_law 38 = .ok (.iand, 1) := by decide +kernel
theorem dL_law_39 : decode cL_law 39 = .ok (.tableswitch 1453 0 19 #[93, 173, 241, 321, 389, 457, 513, 569, 649, 705, 773, 829, 885, 953, 1021, 1089, 1157, 1249, 1329, 1397], 93) := by decide +kernel
theorem dL_law_132 : decode cL_law 132 = .ok (.aload_n 1, 1) := by decide +kernel
theorem dL_law_133 : decode cL_law 133 = .ok (.aload_n 0, 1) := by decide +kernel
theorem dL_law_134 : decode cL_law 134 = .ok (.iload 4, 2) := by decide +kernel
theorem dL_law_136 : decode cL_law 136 = .ok (.iconst 1, 1) := by decide +kernel
theorem dL_law_137 : decode cL_law 137 = .ok (.iadd, 1) := by decide +kernel
theorem dL_law_138 : decode cL_law 138 = .ok (.iaload, 1) := by decide +kernel
theorem dL_law_139 : decode cL_law 139 = .ok (.aload_n 0, 1) := by decide +kernel
theorem dL_law_140 : decode cL_law 140 = .ok (.iload 4, 2) := by decide +kernel
theorem dL_law_142 : decode cL_law 142 = .ok (.iconst 2, 1) := by decide +kernel
theorem dL_law_143 : decode cL_law 143 = .ok (.iadd, 1) := by decide +kernel
theorem dL_law_144 : decode cL_law 144 = .ok (.iaload, 1) := by decide +kernel
theorem dL_law_145 : decode cL_law 145 = .ok (.aload_n 0, 1) := by decide +kernel
theorem dL_law_146 : decode cL_law 146 = .ok (.iload 4, 2) := by decide +kernel
theorem dL_law_148 : decode cL_law 148 = .ok (.iconst 3, 1) := by decide +kernel
theorem dL_law_149 : decode cL_law 149 = .ok (.iadd, 1) := by decide +kernel
theorem dL_law_150 : decode cL_law 150 = .ok (.iaload, 1) := by decide +kernel
theorem dL_law_151 : decode cL_law 151 = .ok (.aload_n 3, 1) := by decide +kernel
theorem dL_law_152 : decode cL_law 152 = .ok (.invokestatic 85, 3) := by decide +kernel
theorem dL_law_155 : decode cL_law 155 = .ok (.istore 5, 2) := by decide +kernel
theorem dL_law_157 : decode cL_law 157 = .ok (.aload_n 2, 1) := by decide +kernel
theorem dL_law_158 : decode cL_law 158 = .ok (.aload_n 0, 1) := by decide +kernel
theorem dL_law_159 : decode cL_law 159 = .ok (.iload 4, 2) := by decide +kernel
theorem dL_law_161 : decode cL_law 161 = .ok (.iconst 1, 1) := by decide +kernel
theorem dL_law_162 : decode cL_law 162 = .ok (.iadd, 1) := by decide +kernel
theorem dL_law_163 : decode cL_law 163 = .ok (.iaload, 1) := by decide +kernel
theorem dL_law_164 : decode cL_law 164 = .ok (.aload_n 0, 1) := by decide +kernel
theorem dL_law_165 : decode cL_law 165 = .ok (.iload 4, 2) := by decide +kernel
theorem dL_law_167 : decode cL_law 167 = .ok (.iconst 2, 1) := by decide +kernel
theorem dL_law_168 : decode cL_law 168 = .ok (.iadd, 1) := by decide +kernel
theorem dL_law_169 : decode cL_law 169 = .ok (.iaload, 1) := by decide +kernel
theorem dL_law_170 : decode cL_law 170 = .ok (.aload_n 0, 1) := by decide +kernel
theorem dL_law_171 : decode cL_law 171 = .ok (.iload 4, 2) := by decide +kernel
theorem dL_law_173 : decode cL_law 173 = .ok (.iconst 3, 1) := by decide +kernel
theorem dL_law_174 : decode cL_law 174 = .ok (.iadd, 1) := by decide +kernel
theorem dL_law_175 : decode cL_law 175 = .ok (.iaload, 1) := by decide +kernel
theorem dL_law_176 : decode cL_law 176 = .ok (.invokevirtual 90, 3) := by decide +kernel
theorem dL_law_179 : decode cL_law 179 = .ok (.istore 6, 2) := by decide +kernel
theorem dL_law_181 : decode cL_law 181 = .ok (.aload_n 2, 1) := by decide +kernel
theorem dL_law_182 : decode cL_law 182 = .ok (.invokevirtual 91, 3) := by decide +kernel
theorem dL_law_185 : decode cL_law 185 = .ok (.iload 5, 2) := by decide +kernel
theorem dL_law_187 : decode cL_law 187 = .ok (.if_icmp .eq 5, 3) := by decide +kernel
theorem dL_law_190 : decode cL_law 190 = .ok (.iconst 0, 1) := by decide +kernel
theorem dL_law_191 : decode cL_law 191 = .ok (.ireturn, 1) := by decide +kernel
theorem dL_law_192 : decode cL_law 192 = .ok (.iload 5, 2) := by decide +kernel
theorem dL_law_194 : decode cL_law 194 = .ok (.ifCond .ne 15, 3) := by decide +kernel
theorem dL_law_197 : decode cL_law 197 = .ok (.aload_n 3, 1) := by decide +kernel
theorem dL_law_198 : decode cL_law 198 = .ok (.iconst 0, 1) := by decide +kernel
theorem dL_law_199 : decode cL_law 199 = .ok (.laload, 1) := by decide +kernel
theorem dL_law_200 : decode cL_law 200 = .ok (.iload 6, 2) := by decide +kernel
theorem dL_law_202 : decode cL_law 202 = .ok (.i2l, 1) := by decide +kernel
theorem dL_law_203 : decode cL_law 203 = .ok (.lcmp, 1) := by decide +kernel
theorem dL_law_204 : decode cL_law 204 = .ok (.ifCond .eq 5, 3) := by decide +kernel
theorem dL_law_207 : decode cL_law 207 = .ok (.iconst 0, 1) := by decide +kernel
theorem dL_law_208 : decode cL_law 208 = .ok (.ireturn, 1) := by decide +kernel
theorem dL_law_209 : decode cL_law 209 = .ok (.goto 1283, 3) := by decide +kernel
theorem dL_law_212 : decode cL_law 212 = .ok (.aload_n 1, 1) := by decide +kernel
theorem dL_law_213 : decode cL_law 213 = .ok (.aload_n 0, 1) := by decide +kernel
theorem dL_law_214 : decode cL_law 214 = .ok (.iload 4, 2) := by decide +kernel
theorem dL_law_216 : decode cL_law 216 = .ok (.iconst 1, 1) := by decide +kernel
theorem dL_law_217 : decode cL_law 217 = .ok (.iadd, 1) := by decide +kernel
theorem dL_law_218 : decode cL_law 218 = .ok (.iaload, 1) := by decide +kernel
theorem dL_law_219 : decode cL_law 219 = .ok (.aload_n 0, 1) := by decide +kernel
theorem dL_law_220 : decode cL_law 220 = .ok (.iload 4, 2) := by decide +kernel
theorem dL_law_222 : decode cL_law 222 = .ok (.iconst 2, 1) := by decide +kernel
theorem dL_law_223 : decode cL_law 223 = .ok (.iadd, 1) := by decide +kernel
theorem dL_law_224 : decode cL_law 224 = .ok (.iaload, 1) := by decide +kernel
theorem dL_law_225 : decode cL_law 225 = .ok (.aload_n 3, 1) := by decide +kernel
theorem dL_law_226 : decode cL_law 226 = .ok (.invokestatic 95, 3) := by decide +kernel
theorem dL_law_229 : decode cL_law 229 = .ok (.istore 5, 2) := by decide +kernel
theorem dL_law_231 : decode cL_law 231 = .ok (.aload_n 2, 1) := by decide +kernel
theorem dL_law_232 : decode cL_law 232 = .ok (.aload_n 0, 1) := by decide +kernel
theorem dL_law_233 : decode cL_law 233 = .ok (.iload 4, 2) := by decide +kernel
theorem dL_law_235 : decode cL_law 235 = .ok (.iconst 1, 1) := by decide +kernel
theorem dL_law_236 : decode cL_law 236 = .ok (.iadd, 1) := by decide +kernel
theorem dL_law_237 : decode cL_law 237 = .ok (.iaload, 1) := by decide +kernel
theorem dL_law_238 : decode cL_law 238 = .ok (.aload_n 0, 1) := by decide +kernel
theorem dL_law_239 : decode cL_law 239 = .ok (.iload 4, 2) := by decide +kernel
theorem dL_law_241 : decode cL_law 241 = .ok (.iconst 2, 1) := by decide +kernel
theorem dL_law_242 : decode cL_law 242 = .ok (.iadd, 1) := by decide +kernel
theorem dL_law_243 : decode cL_law 243 = .ok (.iaload, 1) := by decide +kernel
theorem dL_law_244 : decode cL_law 244 = .ok (.invokevirtual 98, 3) := by decide +kernel
theorem dL_law_247 : decode cL_law 247 = .ok (.istore 6, 2) := by decide +kernel
theorem dL_law_249 : decode cL_law 249 = .ok (.aload_n 2, 1) := by decide +kernel
theorem dL_law_250 : decode cL_law 250 = .ok (.invokevirtual 91, 3) := by decide +kernel
theorem dL_law_253 : decode cL_law 253 = .ok (.iload 5, 2) := by decide +kernel
theorem dL_law_255 : decode cL_law 255 = .ok (.if_icmp .eq 5, 3) := by decide +kernel
theorem dL_law_258 : decode cL_law 258 = .ok (.iconst 0, 1) := by decide +kernel
theorem dL_law_259 : decode cL_law 259 = .ok (.ireturn, 1) := by decide +kernel
theorem dL_law_260 : decode cL_law 260 = .ok (.iload 5, 2) := by decide +kernel
theorem dL_law_262 : decode cL_law 262 = .ok (.ifCond .ne 15, 3) := by decide +kernel
theorem dL_law_265 : decode cL_law 265 = .ok (.aload_n 3, 1) := by decide +kernel
theorem dL_law_266 : decode cL_law 266 = .ok (.iconst 0, 1) := by decide +kernel
theorem dL_law_267 : decode cL_law 267 = .ok (.laload, 1) := by decide +kernel
theorem dL_law_268 : decode cL_law 268 = .ok (.iload 6, 2) := by decide +kernel
theorem dL_law_270 : decode cL_law 270 = .ok (.i2l, 1) := by decide +kernel
theorem dL_law_271 : decode cL_law 271 = .ok (.lcmp, 1) := by decide +kernel
theorem dL_law_272 : decode cL_law 272 = .ok (.ifCond .eq 5, 3) := by decide +kernel
theorem dL_law_275 : decode cL_law 275 = .ok (.iconst 0, 1) := by decide +kernel
theorem dL_law_276 : decode cL_law 276 = .ok (.ireturn, 1) := by decide +kernel
theorem dL_law_277 : decode cL_law 277 = .ok (.goto 1215, 3) := by decide +kernel
theorem dL_law_280 : decode cL_law 280 = .ok (.aload_n 1, 1) := by decide +kernel
theorem dL_law_281 : decode cL_law 281 = .ok (.aload_n 0, 1) := by decide +kernel
theorem dL_law_282 : decode cL_law 282 = .ok (.iload 4, 2) := by decide +kernel
theorem dL_law_284 : decode cL_law 284 = .ok (.iconst 1, 1) := by decide +kernel
theorem dL_law_285 : decode cL_law 285 = .ok (.iadd, 1) := by decide +kernel
theorem dL_law_286 : decode cL_law 286 = .ok (.iaload, 1) := by decide +kernel
theorem dL_law_287 : decode cL_law 287 = .ok (.aload_n 0, 1) := by decide +kernel
theorem dL_law_288 : decode cL_law 288 = .ok (.iload 4, 2) := by decide +kernel
theorem dL_law_290 : decode cL_law 290 = .ok (.iconst 2, 1) := by decide +kernel
theorem dL_law_291 : decode cL_law 291 = .ok (.iadd, 1) := by decide +kernel
theorem dL_law_292 : decode cL_law 292 = .ok (.iaload, 1) := by decide +kernel
theorem dL_law_293 : decode cL_law 293 = .ok (.aload_n 0, 1) := by decide +kernel
theorem dL_law_294 : decode cL_law 294 = .ok (.iload 4, 2) := by decide +kernel
theorem dL_law_296 : decode cL_law 296 = .ok (.iconst 3, 1) := by decide +kernel
theorem dL_law_297 : decode cL_law 297 = .ok (.iadd, 1) := by decide +kernel
theorem dL_law_298 : decode cL_law 298 = .ok (.iaload, 1) := by decide +kernel
theorem dL_law_299 : decode cL_law 299 = .ok (.aload_n 3, 1) := by decide +kernel
theorem dL_law_300 : decode cL_law 300 = .ok (.invokestatic 99, 3) := by decide +kernel
theorem dL_law_303 : decode cL_law 303 = .ok (.istore 5, 2) := by decide +kernel
theorem dL_law_305 : decode cL_law 305 = .ok (.aload_n 2, 1) := by decide +kernel
theorem dL_law_306 : decode cL_law 306 = .ok (.aload_n 0, 1) := by decide +kernel
theorem dL_law_307 : decode cL_law 307 = .ok (.iload 4, 2) := by decide +kernel
theorem dL_law_309 : decode cL_law 309 = .ok (.iconst 1, 1) := by decide +kernel
theorem dL_law_310 : decode cL_law 310 = .ok (.iadd, 1) := by decide +kernel
theorem dL_law_311 : decode cL_law 311 = .ok (.iaload, 1) := by decide +kernel
theorem dL_law_312 : decode cL_law 312 = .ok (.aload_n 0, 1) := by decide +kernel
theorem dL_law_313 : decode cL_law 313 = .ok (.iload 4, 2) := by decide +kernel
theorem dL_law_315 : decode cL_law 315 = .ok (.iconst 2, 1) := by decide +kernel
theorem dL_law_316 : decode cL_law 316 = .ok (.iadd, 1) := by decide +kernel
theorem dL_law_317 : decode cL_law 317 = .ok (.iaload, 1) := by decide +kernel
theorem dL_law_318 : decode cL_law 318 = .ok (.aload_n 0, 1) := by decide +kernel
theorem dL_law_319 : decode cL_law 319 = .ok (.iload 4, 2) := by decide +kernel
theorem dL_law_321 : decode cL_law 321 = .ok (.iconst 3, 1) := by decide +kernel
theorem dL_law_322 : decode cL_law 322 = .ok (.iadd, 1) := by decide +kernel
theorem dL_law_323 : decode cL_law 323 = .ok (.iaload, 1) := by decide +kernel
theorem dL_law_324 : decode cL_law 324 = .ok (.invokevirtual 101, 3) := by decide +kernel
theorem dL_law_327 : decode cL_law 327 = .ok (.istore 6, 2) := by decide +kernel
theorem dL_law_329 : decode cL_law 329 = .ok (.aload_n 2, 1) := by decide +kernel
theorem dL_law_330 : decode cL_law 330 = .ok (.invokevirtual 91, 3) := by decide +kernel
theorem dL_law_333 : decode cL_law 333 = .ok (.iload 5, 2) := by decide +kernel
theorem dL_law_335 : decode cL_law 335 = .ok (.if_icmp .eq 5, 3) := by decide +kernel
theorem dL_law_338 : decode cL_law 338 = .ok (.iconst 0, 1) := by decide +kernel
theorem dL_law_339 : decode cL_law 339 = .ok (.ireturn, 1) := by decide +kernel
theorem dL_law_340 : decode cL_law 340 = .ok (.iload 5, 2) := by decide +kernel
theorem dL_law_342 : decode cL_law 342 = .ok (.ifCond .ne 15, 3) := by decide +kernel
theorem dL_law_345 : decode cL_law 345 = .ok (.aload_n 3, 1) := by decide +kernel
theorem dL_law_346 : decode cL_law 346 = .ok (.iconst 0, 1) := by decide +kernel
theorem dL_law_347 : decode cL_law 347 = .ok (.laload, 1) := by decide +kernel
theorem dL_law_348 : decode cL_law 348 = .ok (.iload 6, 2) := by decide +kernel
theorem dL_law_350 : decode cL_law 350 = .ok (.i2l, 1) := by decide +kernel
theorem dL_law_351 : decode cL_law 351 = .ok (.lcmp, 1) := by decide +kernel
theorem dL_law_352 : decode cL_law 352 = .ok (.ifCond .eq 5, 3) := by decide +kernel
theorem dL_law_355 : decode cL_law 355 = .ok (.iconst 0, 1) := by decide +kernel
theorem dL_law_356 : decode cL_law 356 = .ok (.ireturn, 1) := by decide +kernel
theorem dL_law_357 : decode cL_law 357 = .ok (.goto 1135, 3) := by decide +kernel
theorem dL_law_360 : decode cL_law 360 = .ok (.aload_n 1, 1) := by decide +kernel
theorem dL_law_361 : decode cL_law 361 = .ok (.aload_n 0, 1) := by decide +kernel
theorem dL_law_362 : decode cL_law 362 = .ok (.iload 4, 2) := by decide +kernel
theorem dL_law_364 : decode cL_law 364 = .ok (.iconst 1, 1) := by decide +kernel
theorem dL_law_365 : decode cL_law 365 = .ok (.iadd, 1) := by decide +kernel
theorem dL_law_366 : decode cL_law 366 = .ok (.iaload, 1) := by decide +kernel
theorem dL_law_367 : decode cL_law 367 = .ok (.aload_n 0, 1) := by decide +kernel
theorem dL_law_368 : decode cL_law 368 = .ok (.iload 4, 2) := by decide +kernel
theorem dL_law_370 : decode cL_law 370 = .ok (.iconst 2, 1) := by decide +kernel
theorem dL_law_371 : decode cL_law 371 = .ok (.iadd, 1) := by decide +kernel
theorem dL_law_372 : decode cL_law 372 = .ok (.iaload, 1) := by decide +kernel
theorem dL_law_373 : decode cL_law 373 = .ok (.aload_n 3, 1) := by decide +kernel
theorem dL_law_374 : decode cL_law 374 = .ok (.invokestatic 102, 3) := by decide +kernel
theorem dL_law_377 : decode cL_law 377 = .ok (.istore 5, 2) := by decide +kernel
theorem dL_law_379 : decode cL_law 379 = .ok (.aload_n 2, 1) := by decide +kernel
theorem dL_law_380 : decode cL_law 380 = .ok (.aload_n 0, 1) := by decide +kernel
theorem dL_law_381 : decode cL_law 381 = .ok (.iload 4, 2) := by decide +kernel
theorem dL_law_383 : decode cL_law 383 = .ok (.iconst 1, 1) := by decide +kernel
theorem dL_law_384 : decode cL_law 384 = .ok (.iadd, 1) := by decide +kernel
theorem dL_law_385 : decode cL_law 385 = .ok (.iaload, 1) := by decide +kernel
theorem dL_law_386 : decode cL_law 386 = .ok (.aload_n 0, 1) := by decide +kernel
theorem dL_law_387 : decode cL_law 387 = .ok (.iload 4, 2) := by decide +kernel
theorem dL_law_389 : decode cL_law 389 = .ok (.iconst 2, 1) := by decide +kernel
theorem dL_law_390 : decode cL_law 390 = .ok (.iadd, 1) := by decide +kernel
theorem dL_law_391 : decode cL_law 391 = .ok (.iaload, 1) := by decide +kernel
theorem dL_law_392 : decode cL_law 392 = .ok (.invokevirtual 104, 3) := by decide +kernel
theorem dL_law_395 : decode cL_law 395 = .ok (.istore 6, 2) := by decide +kernel
theorem dL_law_397 : decode cL_law 397 = .ok (.aload_n 2, 1) := by decide +kernel
theorem dL_law_398 : decode cL_law 398 = .ok (.invokevirtual 91, 3) := by decide +kernel
theorem dL_law_401 : decode cL_law 401 = .ok (.iload 5, 2) := by decide +kernel
theorem dL_law_403 : decode cL_law 403 = .ok (.if_icmp .eq 5, 3) := by decide +kernel
theorem dL_law_406 : decode cL_law 406 = .ok (.iconst 0, 1) := by decide +kernel
theorem dL_law_407 : decode cL_law 407 = .ok (.ireturn, 1) := by decide +kernel
theorem dL_law_408 : decode cL_law 408 = .ok (.iload 5, 2) := by decide +kernel
theorem dL_law_410 : decode cL_law 410 = .ok (.ifCond .ne 15, 3) := by decide +kernel
theorem dL_law_413 : decode cL_law 413 = .ok (.aload_n 3, 1) := by decide +kernel
theorem dL_law_414 : decode cL_law 414 = .ok (.iconst 0, 1) := by decide +kernel
theorem dL_law_415 : decode cL_law 415 = .ok (.laload, 1) := by decide +kernel
theorem dL_law_416 : decode cL_law 416 = .ok (.iload 6, 2) := by decide +kernel
theorem dL_law_418 : decode cL_law 418 = .ok (.i2l, 1) := by decide +kernel
theorem dL_law_419 : decode cL_law 419 = .ok (.lcmp, 1) := by decide +kernel
theorem dL_law_420 : decode cL_law 420 = .ok (.ifCond .eq 5, 3) := by decide +kernel
theorem dL_law_423 : decode cL_law 423 = .ok (.iconst 0, 1) := by decide +kernel
theorem dL_law_424 : decode cL_law 424 = .ok (.ireturn, 1) := by decide +kernel
theorem dL_law_425 : decode cL_law 425 = .ok (.goto 1067, 3) := by decide +kernel
theorem dL_law_428 : decode cL_law 428 = .ok (.aload_n 1, 1) := by decide +kernel
theorem dL_law_429 : decode cL_law 429 = .ok (.aload_n 0, 1) := by decide +kernel
theorem dL_law_430 : decode cL_law 430 = .ok (.iload 4, 2) := by decide +kernel
theorem dL_law_432 : decode cL_law 432 = .ok (.iconst 1, 1) := by decide +kernel
theorem dL_law_433 : decode cL_law 433 = .ok (.iadd, 1) := by decide +kernel
theorem dL_law_434 : decode cL_law 434 = .ok (.iaload, 1) := by decide +kernel
theorem dL_law_435 : decode cL_law 435 = .ok (.aload_n 0, 1) := by decide +kernel
theorem dL_law_436 : decode cL_law 436 = .ok (.iload 4, 2) := by decide +kernel
theorem dL_law_438 : decode cL_law 438 = .ok (.iconst 2, 1) := by decide +kernel
theorem dL_law_439 : decode cL_law 439 = .ok (.iadd, 1) := by decide +kernel
theorem dL_law_440 : decode cL_law 440 = .ok (.iaload, 1) := by decide +kernel
theorem dL_law_441 : decode cL_law 441 = .ok (.aload_n 3, 1) := by decide +kernel
theorem dL_law_442 : decode cL_law 442 = .ok (.invokestatic 105, 3) := by decide +kernel
theorem dL_law_445 : decode cL_law 445 = .ok (.istore 5, 2) := by decide +kernel
theorem dL_law_447 : decode cL_law 447 = .ok (.aload_n 2, 1) := by decide +kernel
theorem dL_law_448 : decode cL_law 448 = .ok (.aload_n 0, 1) := by decide +kernel
theorem dL_law_449 : decode cL_law 449 = .ok (.iload 4, 2) := by decide +kernel
theorem dL_law_451 : decode cL_law 451 = .ok (.iconst 1, 1) := by decide +kernel
theorem dL_law_452 : decode cL_law 452 = .ok (.iadd, 1) := by decide +kernel
theorem dL_law_453 : decode cL_law 453 = .ok (.iaload, 1) := by decide +kernel
theorem dL_law_454 : decode cL_law 454 = .ok (.aload_n 0, 1) := by decide +kernel
theorem dL_law_455 : decode cL_law 455 = .ok (.iload 4, 2) := by decide +kernel
theorem dL_law_457 : decode cL_law 457 = .ok (.iconst 2, 1) := by decide +kernel
theorem dL_law_458 : decode cL_law 458 = .ok (.iadd, 1) := by decide +kernel
theorem dL_law_459 : decode cL_law 459 = .ok (.iaload, 1) := by decide +kernel
theorem dL_law_460 : decode cL_law 460 = .ok (.invokevirtual 107, 3) := by decide +kernel
theorem dL_law_463 : decode cL_law 463 = .ok (.istore 6, 2) := by decide +kernel
theorem dL_law_465 : decode cL_law 465 = .ok (.aload_n 2, 1) := by decide +kernel
theorem dL_law_466 : decode cL_law 466 = .ok (.invokevirtual 91, 3) := by decide +kernel
theorem dL_law_469 : decode cL_law 469 = .ok (.iload 5, 2) := by decide +kernel
theorem dL_law_471 : decode cL_law 471 = .ok (.if_icmp .eq 5, 3) := by decide +kernel
theorem dL_law_474 : decode cL_law 474 = .ok (.iconst 0, 1) := by decide +kernel
theorem dL_law_475 : decode cL_law 475 = .ok (.ireturn, 1) := by decide +kernel
theorem dL_law_476 : decode cL_law 476 = .ok (.iload 5, 2) := by decide +kernel
theorem dL_law_478 : decode cL_law 478 = .ok (.ifCond .ne 15, 3) := by decide +kernel
theorem dL_law_481 : decode cL_law 481 = .ok (.aload_n 3, 1) := by decide +kernel
theorem dL_law_482 : decode cL_law 482 = .ok (.iconst 0, 1) := by decide +kernel
theorem dL_law_483 : decode cL_law 483 = .ok (.laload, 1) := by decide +kernel
theorem dL_law_484 : decode cL_law 484 = .ok (.iload 6, 2) := by decide +kernel
theorem dL_law_486 : decode cL_law 486 = .ok (.i2l, 1) := by decide +kernel
theorem dL_law_487 : decode cL_law 487 = .ok (.lcmp, 1) := by decide +kernel
theorem dL_law_488 : decode cL_law 488 = .ok (.ifCond .eq 5, 3) := by decide +kernel
theorem dL_law_491 : decode cL_law 491 = .ok (.iconst 0, 1) := by decide +kernel
theorem dL_law_492 : decode cL_law 492 = .ok (.ireturn, 1) := by decide +kernel
theorem dL_law_493 : decode cL_law 493 = .ok (.goto 999, 3) := by decide +kernel
theorem dL_law_496 : decode cL_law 496 = .ok (.aload_n 1, 1) := by decide +kernel
theorem dL_law_497 : decode cL_law 497 = .ok (.aload_n 0, 1) := by decide +kernel
theorem dL_law_498 : decode cL_law 498 = .ok (.iload 4, 2) := by decide +kernel
theorem dL_law_500 : decode cL_law 500 = .ok (.iconst 1, 1) := by decide +kernel
theorem dL_law_501 : decode cL_law 501 = .ok (.iadd, 1) := by decide +kernel
theorem dL_law_502 : decode cL_law 502 = .ok (.iaload, 1) := by decide +kernel
theorem dL_law_503 : decode cL_law 503 = .ok (.aload_n 3, 1) := by decide +kernel
theorem dL_law_504 : decode cL_law 504 = .ok (.invokestatic 108, 3) := by decide +kernel
theorem dL_law_507 : decode cL_law 507 = .ok (.istore 5, 2) := by decide +kernel
theorem dL_law_509 : decode cL_law 509 = .ok (.aload_n 2, 1) := by decide +kernel
theorem dL_law_510 : decode cL_law 510 = .ok (.aload_n 0, 1) := by decide +kernel
theorem dL_law_511 : decode cL_law 511 = .ok (.iload 4, 2) := by decide +kernel
theorem dL_law_513 : decode cL_law 513 = .ok (.iconst 1, 1) := by decide +kernel
theorem dL_law_514 : decode cL_law 514 = .ok (.iadd, 1) := by decide +kernel
theorem dL_law_515 : decode cL_law 515 = .ok (.iaload, 1) := by decide +kernel
theorem dL_law_516 : decode cL_law 516 = .ok (.invokevirtual 111, 3) := by decide +kernel
theorem dL_law_519 : decode cL_law 519 = .ok (.istore 6, 2) := by decide +kernel
theorem dL_law_521 : decode cL_law 521 = .ok (.aload_n 2, 1) := by decide +kernel
theorem dL_law_522 : decode cL_law 522 = .ok (.invokevirtual 91, 3) := by decide +kernel
theorem dL_law_525 : decode cL_law 525 = .ok (.iload 5, 2) := by decide +kernel
theorem dL_law_527 : decode cL_law 527 = .ok (.if_icmp .eq 5, 3) := by decide +kernel
theorem dL_law_530 : decode cL_law 530 = .ok (.iconst 0, 1) := by decide +kernel
theorem dL_law_531 : decode cL_law 531 = .ok (.ireturn, 1) := by decide +kernel
theorem dL_law_532 : decode cL_law 532 = .ok (.iload 5, 2) := by decide +kernel
theorem dL_law_534 : decode cL_law 534 = .ok (.ifCond .ne 15, 3) := by decide +kernel
theorem dL_law_537 : decode cL_law 537 = .ok (.aload_n 3, 1) := by decide +kernel
theorem dL_law_538 : decode cL_law 538 = .ok (.iconst 0, 1) := by decide +kernel
theorem dL_law_539 : decode cL_law 539 = .ok (.laload, 1) := by decide +kernel
theorem dL_law_540 : decode cL_law 540 = .ok (.iload 6, 2) := by decide +kernel
theorem dL_law_542 : decode cL_law 542 = .ok (.i2l, 1) := by decide +kernel
theorem dL_law_543 : decode cL_law 543 = .ok (.lcmp, 1) := by decide +kernel
theorem dL_law_544 : decode cL_law 544 = .ok (.ifCond .eq 5, 3) := by decide +kernel
theorem dL_law_547 : decode cL_law 547 = .ok (.iconst 0, 1) := by decide +kernel
theorem dL_law_548 : decode cL_law 548 = .ok (.ireturn, 1) := by decide +kernel
theorem dL_law_549 : decode cL_law 549 = .ok (.goto 943, 3) := by decide +kernel
theorem dL_law_552 : decode cL_law 552 = .ok (.aload_n 1, 1) := by decide +kernel
theorem dL_law_553 : decode cL_law 553 = .ok (.aload_n 0, 1) := by decide +kernel
theorem dL_law_554 : decode cL_law 554 = .ok (.iload 4, 2) := by decide +kernel
theorem dL_law_556 : decode cL_law 556 = .ok (.iconst 1, 1) := by decide +kernel
theorem dL_law_557 : decode cL_law 557 = .ok (.iadd, 1) := by decide +kernel
theorem dL_law_558 : decode cL_law 558 = .ok (.iaload, 1) := by decide +kernel
theorem dL_law_559 : decode cL_law 559 = .ok (.aload_n 3, 1) := by decide +kernel
theorem dL_law_560 : decode cL_law 560 = .ok (.invokestatic 112, 3) := by decide +kernel
theorem dL_law_563 : decode cL_law 563 = .ok (.istore 5, 2) := by decide +kernel
theorem dL_law_565 : decode cL_law 565 = .ok (.aload_n 2, 1) := by decide +kernel
theorem dL_law_566 : decode cL_law 566 = .ok (.aload_n 0, 1) := by decide +kernel
theorem dL_law_567 : decode cL_law 567 = .ok (.iload 4, 2) := by decide +kernel
theorem dL_law_569 : decode cL_law 569 = .ok (.iconst 1, 1) := by decide +kernel
theorem dL_law_570 : decode cL_law 570 = .ok (.iadd, 1) := by decide +kernel
theorem dL_law_571 : decode cL_law 571 = .ok (.iaload, 1) := by decide +kernel
theorem dL_law_572 : decode cL_law 572 = .ok (.invokevirtual 114, 3) := by decide +kernel
theorem dL_law_575 : decode cL_law 575 = .ok (.istore 6, 2) := by decide +kernel
theorem dL_law_577 : decode cL_law 577 = .ok (.aload_n 2, 1) := by decide +kernel
theorem dL_law_578 : decode cL_law 578 = .ok (.invokevirtual 91, 3) := by decide +kernel
theorem dL_law_581 : decode cL_law 581 = .ok (.iload 5, 2) := by decide +kernel
theorem dL_law_583 : decode cL_law 583 = .ok (.if_icmp .eq 5, 3) := by decide +kernel
theorem dL_law_586 : decode cL_law 586 = .ok (.iconst 0, 1) := by decide +kernel
theorem dL_law_587 : decode cL_law 587 = .ok (.ireturn, 1) := by decide +kernel
theorem dL_law_588 : decode cL_law 588 = .ok (.iload 5, 2) := by decide +kernel
theorem dL_law_590 : decode cL_law 590 = .ok (.ifCond .ne 15, 3) := by decide +kernel
theorem dL_law_593 : decode cL_law 593 = .ok (.aload_n 3, 1) := by decide +kernel
theorem dL_law_594 : decode cL_law 594 = .ok (.iconst 0, 1) := by decide +kernel
theorem dL_law_595 : decode cL_law 595 = .ok (.laload, 1) := by decide +kernel
theorem dL_law_596 : decode cL_law 596 = .ok (.iload 6, 2) := by decide +kernel
theorem dL_law_598 : decode cL_law 598 = .ok (.i2l, 1) := by decide +kernel
theorem dL_law_599 : decode cL_law 599 = .ok (.lcmp, 1) := by decide +kernel
theorem dL_law_600 : decode cL_law 600 = .ok (.ifCond .eq 5, 3) := by decide +kernel
theorem dL_law_603 : decode cL_law 603 = .ok (.iconst 0, 1) := by decide +kernel
theorem dL_law_604 : decode cL_law 604 = .ok (.ireturn, 1) := by decide +kernel
theorem dL_law_605 : decode cL_law 605 = .ok (.goto 887, 3) := by decide +kernel
theorem dL_law_608 : decode cL_law 608 = .ok (.aload_n 1, 1) := by decide +kernel
theorem dL_law_609 : decode cL_law 609 = .ok (.aload_n 0, 1) := by decide +kernel
theorem dL_law_610 : decode cL_law 610 = .ok (.iload 4, 2) := by decide +kernel
theorem dL_law_612 : decode cL_law 612 = .ok (.iconst 1, 1) := by decide +kernel
theorem dL_law_613 : decode cL_law 613 = .ok (.iadd, 1) := by decide +kernel
theorem dL_law_614 : decode cL_law 614 = .ok (.iaload, 1) := by decide +kernel
theorem dL_law_615 : decode cL_law 615 = .ok (.aload_n 0, 1) := by decide +kernel
theorem dL_law_616 : decode cL_law 616 = .ok (.iload 4, 2) := by decide +kernel
theorem dL_law_618 : decode cL_law 618 = .ok (.iconst 2, 1) := by decide +kernel
theorem dL_law_619 : decode cL_law 619 = .ok (.iadd, 1) := by decide +kernel
theorem dL_law_620 : decode cL_law 620 = .ok (.iaload, 1) := by decide +kernel
theorem dL_law_621 : decode cL_law 621 = .ok (.aload_n 0, 1) := by decide +kernel
theorem dL_law_622 : decode cL_law 622 = .ok (.iload 4, 2) := by decide +kernel
theorem dL_law_624 : decode cL_law 624 = .ok (.iconst 3, 1) := by decide +kernel
theorem dL_law_625 : decode cL_law 625 = .ok (.iadd, 1) := by decide +kernel
theorem dL_law_626 : decode cL_law 626 = .ok (.iaload, 1) := by decide +kernel
theorem dL_law_627 : decode cL_law 627 = .ok (.aload_n 3, 1) := by decide +kernel
theorem dL_law_628 : decode cL_law 628 = .ok (.invokestatic 115, 3) := by decide +kernel
theorem dL_law_631 : decode cL_law 631 = .ok (.istore 5, 2) := by decide +kernel
theorem dL_law_633 : decode cL_law 633 = .ok (.aload_n 2, 1) := by decide +kernel
theorem dL_law_634 : decode cL_law 634 = .ok (.aload_n 0, 1) := by decide +kernel
theorem dL_law_635 : decode cL_law 635 = .ok (.iload 4, 2) := by decide +kernel
theorem dL_law_637 : decode cL_law 637 = .ok (.iconst 1, 1) := by decide +kernel
theorem dL_law_638 : decode cL_law 638 = .ok (.iadd, 1) := by decide +kernel
theorem dL_law_639 : decode cL_law 639 = .ok (.iaload, 1) := by decide +kernel
theorem dL_law_640 : decode cL_law 640 = .ok (.aload_n 0, 1) := by decide +kernel
theorem dL_law_641 : decode cL_law 641 = .ok (.iload 4, 2) := by decide +kernel
theorem dL_law_643 : decode cL_law 643 = .ok (.iconst 2, 1) := by decide +kernel
theorem dL_law_644 : decode cL_law 644 = .ok (.iadd, 1) := by decide +kernel
theorem dL_law_645 : decode cL_law 645 = .ok (.iaload, 1) := by decide +kernel
theorem dL_law_646 : decode cL_law 646 = .ok (.aload_n 0, 1) := by decide +kernel
theorem dL_law_647 : decode cL_law 647 = .ok (.iload 4, 2) := by decide +kernel
theorem dL_law_649 : decode cL_law 649 = .ok (.iconst 3, 1) := by decide +kernel
theorem dL_law_650 : decode cL_law 650 = .ok (.iadd, 1) := by decide +kernel
theorem dL_law_651 : decode cL_law 651 = .ok (.iaload, 1) := by decide +kernel
theorem dL_law_652 : decode cL_law 652 = .ok (.invokevirtual 117, 3) := by decide +kernel
theorem dL_law_655 : decode cL_law 655 = .ok (.istore 6, 2) := by decide +kernel
theorem dL_law_657 : decode cL_law 657 = .ok (.aload_n 2, 1) := by decide +kernel
theorem dL_law_658 : decode cL_law 658 = .ok (.invokevirtual 91, 3) := by decide +kernel
theorem dL_law_661 : decode cL_law 661 = .ok (.iload 5, 2) := by decide +kernel
theorem dL_law_663 : decode cL_law 663 = .ok (.if_icmp .eq 5, 3) := by decide +kernel
theorem dL_law_666 : decode cL_law 666 = .ok (.iconst 0, 1) := by decide +kernel
theorem dL_law_667 : decode cL_law 667 = .ok (.ireturn, 1) := by decide +kernel
theorem dL_law_668 : decode cL_law 668 = .ok (.iload 5, 2) := by decide +kernel
theorem dL_law_670 : decode cL_law 670 = .ok (.ifCond .ne 15, 3) := by decide +kernel
theorem dL_law_673 : decode cL_law 673 = .ok (.aload_n 3, 1) := by decide +kernel
theorem dL_law_674 : decode cL_law 674 = .ok (.iconst 0, 1) := by decide +kernel
theorem dL_law_675 : decode cL_law 675 = .ok (.laload, 1) := by decide +kernel
theorem dL_law_676 : decode cL_law 676 = .ok (.iload 6, 2) := by decide +kernel
theorem dL_law_678 : decode cL_law 678 = .ok (.i2l, 1) := by decide +kernel
theorem dL_law_679 : decode cL_law 679 = .ok (.lcmp, 1) := by decide +kernel
theorem dL_law_680 : decode cL_law 680 = .ok (.ifCond .eq 5, 3) := by decide +kernel
theorem dL_law_683 : decode cL_law 683 = .ok (.iconst 0, 1) := by decide +kernel
theorem dL_law_684 : decode cL_law 684 = .ok (.ireturn, 1) := by decide +kernel
theorem dL_law_685 : decode cL_law 685 = .ok (.goto 807, 3) := by decide +kernel
theorem dL_law_688 : decode cL_law 688 = .ok (.aload_n 1, 1) := by decide +kernel
theorem dL_law_689 : decode cL_law 689 = .ok (.aload_n 0, 1) := by decide +kernel
theorem dL_law_690 : decode cL_law 690 = .ok (.iload 4, 2) := by decide +kernel
theorem dL_law_692 : decode cL_law 692 = .ok (.iconst 1, 1) := by decide +kernel
theorem dL_law_693 : decode cL_law 693 = .ok (.iadd, 1) := by decide +kernel
theorem dL_law_694 : decode cL_law 694 = .ok (.iaload, 1) := by decide +kernel
theorem dL_law_695 : decode cL_law 695 = .ok (.aload_n 3, 1) := by decide +kernel
theorem dL_law_696 : decode cL_law 696 = .ok (.invokestatic 118, 3) := by decide +kernel
theorem dL_law_699 : decode cL_law 699 = .ok (.istore 5, 2) := by decide +kernel
theorem dL_law_701 : decode cL_law 701 = .ok (.aload_n 2, 1) := by decide +kernel
theorem dL_law_702 : decode cL_law 702 = .ok (.aload_n 0, 1) := by decide +kernel
theorem dL_law_703 : decode cL_law 703 = .ok (.iload 4, 2) := by decide +kernel
theorem dL_law_705 : decode cL_law 705 = .ok (.iconst 1, 1) := by decide +kernel
theorem dL_law_706 : decode cL_law 706 = .ok (.iadd, 1) := by decide +kernel
theorem dL_law_707 : decode cL_law 707 = .ok (.iaload, 1) := by decide +kernel
theorem dL_law_708 : decode cL_law 708 = .ok (.invokevirtual 120, 3) := by decide +kernel
theorem dL_law_711 : decode cL_law 711 = .ok (.istore 6, 2) := by decide +kernel
theorem dL_law_713 : decode cL_law 713 = .ok (.aload_n 2, 1) := by decide +kernel
theorem dL_law_714 : decode cL_law 714 = .ok (.invokevirtual 91, 3) := by decide +kernel
theorem dL_law_717 : decode cL_law 717 = .ok (.iload 5, 2) := by decide +kernel
theorem dL_law_719 : decode cL_law 719 = .ok (.if_icmp .eq 5, 3) := by decide +kernel
theorem dL_law_722 : decode cL_law 722 = .ok (.iconst 0, 1) := by decide +kernel
theorem dL_law_723 : decode cL_law 723 = .ok (.ireturn, 1) := by decide +kernel
theorem dL_law_724 : decode cL_law 724 = .ok (.iload 5, 2) := by decide +kernel
theorem dL_law_726 : decode cL_law 726 = .ok (.ifCond .ne 15, 3) := by decide +kernel
theorem dL_law_729 : decode cL_law 729 = .ok (.aload_n 3, 1) := by decide +kernel
theorem dL_law_730 : decode cL_law 730 = .ok (.iconst 0, 1) := by decide +kernel
theorem dL_law_731 : decode cL_law 731 = .ok (.laload, 1) := by decide +kernel
theorem dL_law_732 : decode cL_law 732 = .ok (.iload 6, 2) := by decide +kernel
theorem dL_law_734 : decode cL_law 734 = .ok (.i2l, 1) := by decide +kernel
theorem dL_law_735 : decode cL_law 735 = .ok (.lcmp, 1) := by decide +kernel
theorem dL_law_736 : decode cL_law 736 = .ok (.ifCond .eq 5, 3) := by decide +kernel
theorem dL_law_739 : decode cL_law 739 = .ok (.iconst 0, 1) := by decide +kernel
theorem dL_law_740 : decode cL_law 740 = .ok (.ireturn, 1) := by decide +kernel
theorem dL_law_741 : decode cL_law 741 = .ok (.goto 751, 3) := by decide +kernel
theorem dL_law_744 : decode cL_law 744 = .ok (.aload_n 1, 1) := by decide +kernel
theorem dL_law_745 : decode cL_law 745 = .ok (.aload_n 0, 1) := by decide +kernel
theorem dL_law_746 : decode cL_law 746 = .ok (.iload 4, 2) := by decide +kernel
theorem dL_law_748 : decode cL_law 748 = .ok (.iconst 1, 1) := by decide +kernel
theorem dL_law_749 : decode cL_law 749 = .ok (.iadd, 1) := by decide +kernel
theorem dL_law_750 : decode cL_law 750 = .ok (.iaload, 1) := by decide +kernel
theorem dL_law_751 : decode cL_law 751 = .ok (.aload_n 0, 1) := by decide +kernel
theorem dL_law_752 : decode cL_law 752 = .ok (.iload 4, 2) := by decide +kernel
theorem dL_law_754 : decode cL_law 754 = .ok (.iconst 2, 1) := by decide +kernel
theorem dL_law_755 : decode cL_law 755 = .ok (.iadd, 1) := by decide +kernel
theorem dL_law_756 : decode cL_law 756 = .ok (.iaload, 1) := by decide +kernel
theorem dL_law_757 : decode cL_law 757 = .ok (.aload_n 3, 1) := by decide +kernel
theorem dL_law_758 : decode cL_law 758 = .ok (.invokestatic 121, 3) := by decide +kernel
theorem dL_law_761 : decode cL_law 761 = .ok (.istore 5, 2) := by decide +kernel
theorem dL_law_763 : decode cL_law 763 = .ok (.aload_n 2, 1) := by decide +kernel
theorem dL_law_764 : decode cL_law 764 = .ok (.aload_n 0, 1) := by decide +kernel
theorem dL_law_765 : decode cL_law 765 = .ok (.iload 4, 2) := by decide +kernel
theorem dL_law_767 : decode cL_law 767 = .ok (.iconst 1, 1) := by decide +kernel
theorem dL_law_768 : decode cL_law 768 = .ok (.iadd, 1) := by decide +kernel
theorem dL_law_769 : decode cL_law 769 = .ok (.iaload, 1) := by decide +kernel
theorem dL_law_770 : decode cL_law 770 = .ok (.aload_n 0, 1) := by decide +kernel
theorem dL_law_771 : decode cL_law 771 = .ok (.iload 4, 2) := by decide +kernel
theorem dL_law_773 : decode cL_law 773 = .ok (.iconst 2, 1) := by decide +kernel
theorem dL_law_774 : decode cL_law 774 = .ok (.iadd, 1) := by decide +kernel
theorem dL_law_775 : decode cL_law 775 = .ok (.iaload, 1) := by decide +kernel
theorem dL_law_776 : decode cL_law 776 = .ok (.invokevirtual 123, 3) := by decide +kernel
theorem dL_law_779 : decode cL_law 779 = .ok (.istore 6, 2) := by decide +kernel
theorem dL_law_781 : decode cL_law 781 = .ok (.aload_n 2, 1) := by decide +kernel
theorem dL_law_782 : decode cL_law 782 = .ok (.invokevirtual 91, 3) := by decide +kernel
theorem dL_law_785 : decode cL_law 785 = .ok (.iload 5, 2) := by decide +kernel
theorem dL_law_787 : decode cL_law 787 = .ok (.if_icmp .eq 5, 3) := by decide +kernel
theorem dL_law_790 : decode cL_law 790 = .ok (.iconst 0, 1) := by decide +kernel
theorem dL_law_791 : decode cL_law 791 = .ok (.ireturn, 1) := by decide +kernel
theorem dL_law_792 : decode cL_law 792 = .ok (.iload 5, 2) := by decide +kernel
theorem dL_law_794 : decode cL_law 794 = .ok (.ifCond .ne 15, 3) := by decide +kernel
theorem dL_law_797 : decode cL_law 797 = .ok (.aload_n 3, 1) := by decide +kernel
theorem dL_law_798 : decode cL_law 798 = .ok (.iconst 0, 1) := by decide +kernel
theorem dL_law_799 : decode cL_law 799 = .ok (.laload, 1) := by decide +kernel
theorem dL_law_800 : decode cL_law 800 = .ok (.iload 6, 2) := by decide +kernel
theorem dL_law_802 : decode cL_law 802 = .ok (.i2l, 1) := by decide +kernel
theorem dL_law_803 : decode cL_law 803 = .ok (.lcmp, 1) := by decide +kernel
theorem dL_law_804 : decode cL_law 804 = .ok (.ifCond .eq 5, 3) := by decide +kernel
theorem dL_law_807 : decode cL_law 807 = .ok (.iconst 0, 1) := by decide +kernel
theorem dL_law_808 : decode cL_law 808 = .ok (.ireturn, 1) := by decide +kernel
theorem dL_law_809 : decode cL_law 809 = .ok (.goto 683, 3) := by decide +kernel
theorem dL_law_812 : decode cL_law 812 = .ok (.aload_n 1, 1) := by decide +kernel
theorem dL_law_813 : decode cL_law 813 = .ok (.aload_n 0, 1) := by decide +kernel
theorem dL_law_814 : decode cL_law 814 = .ok (.iload 4, 2) := by decide +kernel
theorem dL_law_816 : decode cL_law 816 = .ok (.iconst 1, 1) := by decide +kernel
theorem dL_law_817 : decode cL_law 817 = .ok (.iadd, 1) := by decide +kernel
theorem dL_law_818 : decode cL_law 818 = .ok (.iaload, 1) := by decide +kernel
theorem dL_law_819 : decode cL_law 819 = .ok (.aload_n 3, 1) := by decide +kernel
theorem dL_law_820 : decode cL_law 820 = .ok (.invokestatic 124, 3) := by decide +kernel
theorem dL_law_823 : decode cL_law 823 = .ok (.istore 5, 2) := by decide +kernel
theorem dL_law_825 : decode cL_law 825 = .ok (.aload_n 2, 1) := by decide +kernel
theorem dL_law_826 : decode cL_law 826 = .ok (.aload_n 0, 1) := by decide +kernel
theorem dL_law_827 : decode cL_law 827 = .ok (.iload 4, 2) := by decide +kernel
theorem dL_law_829 : decode cL_law 829 = .ok (.iconst 1, 1) := by decide +kernel
theorem dL_law_830 : decode cL_law 830 = .ok (.iadd, 1) := by decide +kernel
theorem dL_law_831 : decode cL_law 831 = .ok (.iaload, 1) := by decide +kernel
theorem dL_law_832 : decode cL_law 832 = .ok (.invokevirtual 126, 3) := by decide +kernel
theorem dL_law_835 : decode cL_law 835 = .ok (.istore 6, 2) := by decide +kernel
theorem dL_law_837 : decode cL_law 837 = .ok (.aload_n 2, 1) := by decide +kernel
theorem dL_law_838 : decode cL_law 838 = .ok (.invokevirtual 91, 3) := by decide +kernel
theorem dL_law_841 : decode cL_law 841 = .ok (.iload 5, 2) := by decide +kernel
theorem dL_law_843 : decode cL_law 843 = .ok (.if_icmp .eq 5, 3) := by decide +kernel
theorem dL_law_846 : decode cL_law 846 = .ok (.iconst 0, 1) := by decide +kernel
theorem dL_law_847 : decode cL_law 847 = .ok (.ireturn, 1) := by decide +kernel
theorem dL_law_848 : decode cL_law 848 = .ok (.iload 5, 2) := by decide +kernel
theorem dL_law_850 : decode cL_law 850 = .ok (.ifCond .ne 15, 3) := by decide +kernel
theorem dL_law_853 : decode cL_law 853 = .ok (.aload_n 3, 1) := by decide +kernel
theorem dL_law_854 : decode cL_law 854 = .ok (.iconst 0, 1) := by decide +kernel
theorem dL_law_855 : decode cL_law 855 = .ok (.laload, 1) := by decide +kernel
theorem dL_law_856 : decode cL_law 856 = .ok (.iload 6, 2) := by decide +kernel
theorem dL_law_858 : decode cL_law 858 = .ok (.i2l, 1) := by decide +kernel
theorem dL_law_859 : decode cL_law 859 = .ok (.lcmp, 1) := by decide +kernel
theorem dL_law_860 : decode cL_law 860 = .ok (.ifCond .eq 5, 3) := by decide +kernel
theorem dL_law_863 : decode cL_law 863 = .ok (.iconst 0, 1) := by decide +kernel
theorem dL_law_864 : decode cL_law 864 = .ok (.ireturn, 1) := by decide +kernel
theorem dL_law_865 : decode cL_law 865 = .ok (.goto 627, 3) := by decide +kernel
theorem dL_law_868 : decode cL_law 868 = .ok (.aload_n 1, 1) := by decide +kernel
theorem dL_law_869 : decode cL_law 869 = .ok (.aload_n 0, 1) := by decide +kernel
theorem dL_law_870 : decode cL_law 870 = .ok (.iload 4, 2) := by decide +kernel
theorem dL_law_872 : decode cL_law 872 = .ok (.iconst 1, 1) := by decide +kernel
theorem dL_law_873 : decode cL_law 873 = .ok (.iadd, 1) := by decide +kernel
theorem dL_law_874 : decode cL_law 874 = .ok (.iaload, 1) := by decide +kernel
theorem dL_law_875 : decode cL_law 875 = .ok (.aload_n 3, 1) := by decide +kernel
theorem dL_law_876 : decode cL_law 876 = .ok (.invokestatic 127, 3) := by decide +kernel
theorem dL_law_879 : decode cL_law 879 = .ok (.istore 5, 2) := by decide +kernel
theorem dL_law_881 : decode cL_law 881 = .ok (.aload_n 2, 1) := by decide +kernel
theorem dL_law_882 : decode cL_law 882 = .ok (.aload_n 0, 1) := by decide +kernel
theorem dL_law_883 : decode cL_law 883 = .ok (.iload 4, 2) := by decide +kernel
theorem dL_law_885 : decode cL_law 885 = .ok (.iconst 1, 1) := by decide +kernel
theorem dL_law_886 : decode cL_law 886 = .ok (.iadd, 1) := by decide +kernel
theorem dL_law_887 : decode cL_law 887 = .ok (.iaload, 1) := by decide +kernel
theorem dL_law_888 : decode cL_law 888 = .ok (.invokevirtual 129, 3) := by decide +kernel
theorem dL_law_891 : decode cL_law 891 = .ok (.istore 6, 2) := by decide +kernel
theorem dL_law_893 : decode cL_law 893 = .ok (.aload_n 2, 1) := by decide +kernel
theorem dL_law_894 : decode cL_law 894 = .ok (.invokevirtual 91, 3) := by decide +kernel
theorem dL_law_897 : decode cL_law 897 = .ok (.iload 5, 2) := by decide +kernel
theorem dL_law_899 : decode cL_law 899 = .ok (.if_icmp .eq 5, 3) := by decide +kernel
theorem dL_law_902 : decode cL_law 902 = .ok (.iconst 0, 1) := by decide +kernel
theorem dL_law_903 : decode cL_law 903 = .ok (.ireturn, 1) := by decide +kernel
theorem dL_law_904 : decode cL_law 904 = .ok (.iload 5, 2) := by decide +kernel
theorem dL_law_906 : decode cL_law 906 = .ok (.ifCond .ne 15, 3) := by decide +kernel
theorem dL_law_909 : decode cL_law 909 = .ok (.aload_n 3, 1) := by decide +kernel
theorem dL_law_910 : decode cL_law 910 = .ok (.iconst 0, 1) := by decide +kernel
theorem dL_law_911 : decode cL_law 911 = .ok (.laload, 1) := by decide +kernel
theorem dL_law_912 : decode cL_law 912 = .ok (.iload 6, 2) := by decide +kernel
theorem dL_law_914 : decode cL_law 914 = .ok (.i2l, 1) := by decide +kernel
theorem dL_law_915 : decode cL_law 915 = .ok (.lcmp, 1) := by decide +kernel
theorem dL_law_916 : decode cL_law 916 = .ok (.ifCond .eq 5, 3) := by decide +kernel
theorem dL_law_919 : decode cL_law 919 = .ok (.iconst 0, 1) := by decide +kernel
theorem dL_law_920 : decode cL_law 920 = .ok (.ireturn, 1) := by decide +kernel
theorem dL_law_921 : decode cL_law 921 = .ok (.goto 571, 3) := by decide +kernel
theorem dL_law_924 : decode cL_law 924 = .ok (.aload_n 1, 1) := by decide +kernel
theorem dL_law_925 : decode cL_law 925 = .ok (.aload_n 0, 1) := by decide +kernel
theorem dL_law_926 : decode cL_law 926 = .ok (.iload 4, 2) := by decide +kernel
theorem dL_law_928 : decode cL_law 928 = .ok (.iconst 1, 1) := by decide +kernel
theorem dL_law_929 : decode cL_law 929 = .ok (.iadd, 1) := by decide +kernel
theorem dL_law_930 : decode cL_law 930 = .ok (.iaload, 1) := by decide +kernel
theorem dL_law_931 : decode cL_law 931 = .ok (.aload_n 0, 1) := by decide +kernel
theorem dL_law_932 : decode cL_law 932 = .ok (.iload 4, 2) := by decide +kernel
theorem dL_law_934 : decode cL_law 934 = .ok (.iconst 2, 1) := by decide +kernel
theorem dL_law_935 : decode cL_law 935 = .ok (.iadd, 1) := by decide +kernel
theorem dL_law_936 : decode cL_law 936 = .ok (.iaload, 1) := by decide +kernel
theorem dL_law_937 : decode cL_law 937 = .ok (.aload_n 3, 1) := by decide +kernel
theorem dL_law_938 : decode cL_law 938 = .ok (.invokestatic 130, 3) := by decide +kernel
theorem dL_law_941 : decode cL_law 941 = .ok (.istore 5, 2) := by decide +kernel
theorem dL_law_943 : decode cL_law 943 = .ok (.aload_n 2, 1) := by decide +kernel
theorem dL_law_944 : decode cL_law 944 = .ok (.aload_n 0, 1) := by decide +kernel
theorem dL_law_945 : decode cL_law 945 = .ok (.iload 4, 2) := by decide +kernel
theorem dL_law_947 : decode cL_law 947 = .ok (.iconst 1, 1) := by decide +kernel
theorem dL_law_948 : decode cL_law 948 = .ok (.iadd, 1) := by decide +kernel
theorem dL_law_949 : decode cL_law 949 = .ok (.iaload, 1) := by decide +kernel
theorem dL_law_950 : decode cL_law 950 = .ok (.aload_n 0, 1) := by decide +kernel
theorem dL_law_951 : decode cL_law 951 = .ok (.iload 4, 2) := by decide +kernel
theorem dL_law_953 : decode cL_law 953 = .ok (.iconst 2, 1) := by decide +kernel
theorem dL_law_954 : decode cL_law 954 = .ok (.iadd, 1) := by decide +kernel
theorem dL_law_955 : decode cL_law 955 = .ok (.iaload, 1) := by decide +kernel
theorem dL_law_956 : decode cL_law 956 = .ok (.invokevirtual 132, 3) := by decide +kernel
theorem dL_law_959 : decode cL_law 959 = .ok (.istore 6, 2) := by decide +kernel
theorem dL_law_961 : decode cL_law 961 = .ok (.aload_n 2, 1) := by decide +kernel
theorem dL_law_962 : decode cL_law 962 = .ok (.invokevirtual 91, 3) := by decide +kernel
theorem dL_law_965 : decode cL_law 965 = .ok (.iload 5, 2) := by decide +kernel
theorem dL_law_967 : decode cL_law 967 = .ok (.if_icmp .eq 5, 3) := by decide +kernel
theorem dL_law_970 : decode cL_law 970 = .ok (.iconst 0, 1) := by decide +kernel
theorem dL_law_971 : decode cL_law 971 = .ok (.ireturn, 1) := by decide +kernel
theorem dL_law_972 : decode cL_law 972 = .ok (.iload 5, 2) := by decide +kernel
theorem dL_law_974 : decode cL_law 974 = .ok (.ifCond .ne 15, 3) := by decide +kernel
theorem dL_law_977 : decode cL_law 977 = .ok (.aload_n 3, 1) := by decide +kernel
theorem dL_law_978 : decode cL_law 978 = .ok (.iconst 0, 1) := by decide +kernel
theorem dL_law_979 : decode cL_law 979 = .ok (.laload, 1) := by decide +kernel
theorem dL_law_980 : decode cL_law 980 = .ok (.iload 6, 2) := by decide +kernel
theorem dL_law_982 : decode cL_law 982 = .ok (.i2l, 1) := by decide +kernel
theorem dL_law_983 : decode cL_law 983 = .ok (.lcmp, 1) := by decide +kernel
theorem dL_law_984 : decode cL_law 984 = .ok (.ifCond .eq 5, 3) := by decide +kernel
theorem dL_law_987 : decode cL_law 987 = .ok (.iconst 0, 1) := by decide +kernel
theorem dL_law_988 : decode cL_law 988 = .ok (.ireturn, 1) := by decide +kernel
theorem dL_law_989 : decode cL_law 989 = .ok (.goto 503, 3) := by decide +kernel
theorem dL_law_992 : decode cL_law 992 = .ok (.aload_n 1, 1) := by decide +kernel
theorem dL_law_993 : decode cL_law 993 = .ok (.aload_n 0, 1) := by decide +kernel
theorem dL_law_994 : decode cL_law 994 = .ok (.iload 4, 2) := by decide +kernel
theorem dL_law_996 : decode cL_law 996 = .ok (.iconst 1, 1) := by decide +kernel
theorem dL_law_997 : decode cL_law 997 = .ok (.iadd, 1) := by decide +kernel
theorem dL_law_998 : decode cL_law 998 = .ok (.iaload, 1) := by decide +kernel
theorem dL_law_999 : decode cL_law 999 = .ok (.aload_n 0, 1) := by decide +kernel
theorem dL_law_1000 : decode cL_law 1000 = .ok (.iload 4, 2) := by decide +kernel
theorem dL_law_1002 : decode cL_law 1002 = .ok (.iconst 2, 1) := by decide +kernel
theorem dL_law_1003 : decode cL_law 1003 = .ok (.iadd, 1) := by decide +kernel
theorem dL_law_1004 : decode cL_law 1004 = .ok (.iaload, 1) := by decide +kernel
theorem dL_law_1005 : decode cL_law 1005 = .ok (.aload_n 3, 1) := by decide +kernel
theorem dL_law_1006 : decode cL_law 1006 = .ok (.invokestatic 133, 3) := by decide +kernel
theorem dL_law_1009 : decode cL_law 1009 = .ok (.istore 5, 2) := by decide +kernel
theorem dL_law_1011 : decode cL_law 1011 = .ok (.aload_n 2, 1) := by decide +kernel
theorem dL_law_1012 : decode cL_law 1012 = .ok (.aload_n 0, 1) := by decide +kernel
theorem dL_law_1013 : decode cL_law 1013 = .ok (.iload 4, 2) := by decide +kernel
theorem dL_law_1015 : decode cL_law 1015 = .ok (.iconst 1, 1) := by decide +kernel
theorem dL_law_1016 : decode cL_law 1016 = .ok (.iadd, 1) := by decide +kernel
theorem dL_law_1017 : decode cL_law 1017 = .ok (.iaload, 1) := by decide +kernel
theorem dL_law_1018 : decode cL_law 1018 = .ok (.aload_n 0, 1) := by decide +kernel
theorem dL_law_1019 : decode cL_law 1019 = .ok (.iload 4, 2) := by decide +kernel
theorem dL_law_1021 : decode cL_law 1021 = .ok (.iconst 2, 1) := by decide +kernel
theorem dL_law_1022 : decode cL_law 1022 = .ok (.iadd, 1) := by decide +kernel
theorem dL_law_1023 : decode cL_law 1023 = .ok (.iaload, 1) := by decide +kernel
theorem dL_law_1024 : decode cL_law 1024 = .ok (.invokevirtual 135, 3) := by decide +kernel
theorem dL_law_1027 : decode cL_law 1027 = .ok (.istore 6, 2) := by decide +kernel
theorem dL_law_1029 : decode cL_law 1029 = .ok (.aload_n 2, 1) := by decide +kernel
theorem dL_law_1030 : decode cL_law 1030 = .ok (.invokevirtual 91, 3) := by decide +kernel
theorem dL_law_1033 : decode cL_law 1033 = .ok (.iload 5, 2) := by decide +kernel
theorem dL_law_1035 : decode cL_law 1035 = .ok (.if_icmp .eq 5, 3) := by decide +kernel
theorem dL_law_1038 : decode cL_law 1038 = .ok (.iconst 0, 1) := by decide +kernel
theorem dL_law_1039 : decode cL_law 1039 = .ok (.ireturn, 1) := by decide +kernel
theorem dL_law_1040 : decode cL_law 1040 = .ok (.iload 5, 2) := by decide +kernel
theorem dL_law_1042 : decode cL_law 1042 = .ok (.ifCond .ne 15, 3) := by decide +kernel
theorem dL_law_1045 : decode cL_law 1045 = .ok (.aload_n 3, 1) := by decide +kernel
theorem dL_law_1046 : decode cL_law 1046 = .ok (.iconst 0, 1) := by decide +kernel
theorem dL_law_1047 : decode cL_law 1047 = .ok (.laload, 1) := by decide +kernel
theorem dL_law_1048 : decode cL_law 1048 = .ok (.iload 6, 2) := by decide +kernel
theorem dL_law_1050 : decode cL_law 1050 = .ok (.i2l, 1) := by decide +kernel
theorem dL_law_1051 : decode cL_law 1051 = .ok (.lcmp, 1) := by decide +kernel
theorem dL_law_1052 : decode cL_law 1052 = .ok (.ifCond .eq 5, 3) := by decide +kernel
theorem dL_law_1055 : decode cL_law 1055 = .ok (.iconst 0, 1) := by decide +kernel
theorem dL_law_1056 : decode cL_law 1056 = .ok (.ireturn, 1) := by decide +kernel
theorem dL_law_1057 : decode cL_law 1057 = .ok (.goto 435, 3) := by decide +kernel
theorem dL_law_1060 : decode cL_law 1060 = .ok (.aload_n 1, 1) := by decide +kernel
theorem dL_law_1061 : decode cL_law 1061 = .ok (.aload_n 0, 1) := by decide +kernel
theorem dL_law_1062 : decode cL_law 1062 = .ok (.iload 4, 2) := by decide +kernel
theorem dL_law_1064 : decode cL_law 1064 = .ok (.iconst 1, 1) := by decide +kernel
theorem dL_law_1065 : decode cL_law 1065 = .ok (.iadd, 1) := by decide +kernel
theorem dL_law_1066 : decode cL_law 1066 = .ok (.iaload, 1) := by decide +kernel
theorem dL_law_1067 : decode cL_law 1067 = .ok (.aload_n 0, 1) := by decide +kernel
theorem dL_law_1068 : decode cL_law 1068 = .ok (.iload 4, 2) := by decide +kernel
theorem dL_law_1070 : decode cL_law 1070 = .ok (.iconst 2, 1) := by decide +kernel
theorem dL_law_1071 : decode cL_law 1071 = .ok (.iadd, 1) := by decide +kernel
theorem dL_law_1072 : decode cL_law 1072 = .ok (.iaload, 1) := by decide +kernel
theorem dL_law_1073 : decode cL_law 1073 = .ok (.aload_n 3, 1) := by decide +kernel
theorem dL_law_1074 : decode cL_law 1074 = .ok (.invokestatic 136, 3) := by decide +kernel
theorem dL_law_1077 : decode cL_law 1077 = .ok (.istore 5, 2) := by decide +kernel
theorem dL_law_1079 : decode cL_law 1079 = .ok (.aload_n 2, 1) := by decide +kernel
theorem dL_law_1080 : decode cL_law 1080 = .ok (.aload_n 0, 1) := by decide +kernel
theorem dL_law_1081 : decode cL_law 1081 = .ok (.iload 4, 2) := by decide +kernel
theorem dL_law_1083 : decode cL_law 1083 = .ok (.iconst 1, 1) := by decide +kernel
theorem dL_law_1084 : decode cL_law 1084 = .ok (.iadd, 1) := by decide +kernel
theorem dL_law_1085 : decode cL_law 1085 = .ok (.iaload, 1) := by decide +kernel
theorem dL_law_1086 : decode cL_law 1086 = .ok (.aload_n 0, 1) := by decide +kernel
theorem dL_law_1087 : decode cL_law 1087 = .ok (.iload 4, 2) := by decide +kernel
theorem dL_law_1089 : decode cL_law 1089 = .ok (.iconst 2, 1) := by decide +kernel
theorem dL_law_1090 : decode cL_law 1090 = .ok (.iadd, 1) := by decide +kernel
theorem dL_law_1091 : decode cL_law 1091 = .ok (.iaload, 1) := by decide +kernel
theorem dL_law_1092 : decode cL_law 1092 = .ok (.invokevirtual 138, 3) := by decide +kernel
theorem dL_law_1095 : decode cL_law 1095 = .ok (.istore 6, 2) := by decide +kernel
theorem dL_law_1097 : decode cL_law 1097 = .ok (.aload_n 2, 1) := by decide +kernel
theorem dL_law_1098 : decode cL_law 1098 = .ok (.invokevirtual 91, 3) := by decide +kernel
theorem dL_law_1101 : decode cL_law 1101 = .ok (.iload 5, 2) := by decide +kernel
theorem dL_law_1103 : decode cL_law 1103 = .ok (.if_icmp .eq 5, 3) := by decide +kernel
theorem dL_law_1106 : decode cL_law 1106 = .ok (.iconst 0, 1) := by decide +kernel
theorem dL_law_1107 : decode cL_law 1107 = .ok (.ireturn, 1) := by decide +kernel
theorem dL_law_1108 : decode cL_law 1108 = .ok (.iload 5, 2) := by decide +kernel
theorem dL_law_1110 : decode cL_law 1110 = .ok (.ifCond .ne 15, 3) := by decide +kernel
theorem dL_law_1113 : decode cL_law 1113 = .ok (.aload_n 3, 1) := by decide +kernel
theorem dL_law_1114 : decode cL_law 1114 = .ok (.iconst 0, 1) := by decide +kernel
theorem dL_law_1115 : decode cL_law 1115 = .ok (.laload, 1) := by decide +kernel
theorem dL_law_1116 : decode cL_law 1116 = .ok (.iload 6, 2) := by decide +kernel
theorem dL_law_1118 : decode cL_law 1118 = .ok (.i2l, 1) := by decide +kernel
theorem dL_law_1119 : decode cL_law 1119 = .ok (.lcmp, 1) := by decide +kernel
theorem dL_law_1120 : decode cL_law 1120 = .ok (.ifCond .eq 5, 3) := by decide +kernel
theorem dL_law_1123 : decode cL_law 1123 = .ok (.iconst 0, 1) := by decide +kernel
theorem dL_law_1124 : decode cL_law 1124 = .ok (.ireturn, 1) := by decide +kernel
theorem dL_law_1125 : decode cL_law 1125 = .ok (.goto 367, 3) := by decide +kernel
theorem dL_law_1128 : decode cL_law 1128 = .ok (.aload_n 1, 1) := by decide +kernel
theorem dL_law_1129 : decode cL_law 1129 = .ok (.aload_n 0, 1) := by decide +kernel
theorem dL_law_1130 : decode cL_law 1130 = .ok (.iload 4, 2) := by decide +kernel
theorem dL_law_1132 : decode cL_law 1132 = .ok (.iconst 1, 1) := by decide +kernel
theorem dL_law_1133 : decode cL_law 1133 = .ok (.iadd, 1) := by decide +kernel
theorem dL_law_1134 : decode cL_law 1134 = .ok (.iaload, 1) := by decide +kernel
theorem dL_law_1135 : decode cL_law 1135 = .ok (.aload_n 0, 1) := by decide +kernel
theorem dL_law_1136 : decode cL_law 1136 = .ok (.iload 4, 2) := by decide +kernel
theorem dL_law_1138 : decode cL_law 1138 = .ok (.iconst 2, 1) := by decide +kernel
theorem dL_law_1139 : decode cL_law 1139 = .ok (.iadd, 1) := by decide +kernel
theorem dL_law_1140 : decode cL_law 1140 = .ok (.iaload, 1) := by decide +kernel
theorem dL_law_1141 : decode cL_law 1141 = .ok (.aload_n 3, 1) := by decide +kernel
theorem dL_law_1142 : decode cL_law 1142 = .ok (.invokestatic 139, 3) := by decide +kernel
theorem dL_law_1145 : decode cL_law 1145 = .ok (.istore 5, 2) := by decide +kernel
theorem dL_law_1147 : decode cL_law 1147 = .ok (.aload_n 2, 1) := by decide +kernel
theorem dL_law_1148 : decode cL_law 1148 = .ok (.aload_n 0, 1) := by decide +kernel
theorem dL_law_1149 : decode cL_law 1149 = .ok (.iload 4, 2) := by decide +kernel
theorem dL_law_1151 : decode cL_law 1151 = .ok (.iconst 1, 1) := by decide +kernel
theorem dL_law_1152 : decode cL_law 1152 = .ok (.iadd, 1) := by decide +kernel
theorem dL_law_1153 : decode cL_law 1153 = .ok (.iaload, 1) := by decide +kernel
theorem dL_law_1154 : decode cL_law 1154 = .ok (.aload_n 0, 1) := by decide +kernel
theorem dL_law_1155 : decode cL_law 1155 = .ok (.iload 4, 2) := by decide +kernel
theorem dL_law_1157 : decode cL_law 1157 = .ok (.iconst 2, 1) := by decide +kernel
theorem dL_law_1158 : decode cL_law 1158 = .ok (.iadd, 1) := by decide +kernel
theorem dL_law_1159 : decode cL_law 1159 = .ok (.iaload, 1) := by decide +kernel
theorem dL_law_1160 : decode cL_law 1160 = .ok (.invokevirtual 141, 3) := by decide +kernel
theorem dL_law_1163 : decode cL_law 1163 = .ok (.istore 6, 2) := by decide +kernel
theorem dL_law_1165 : decode cL_law 1165 = .ok (.aload_n 2, 1) := by decide +kernel
theorem dL_law_1166 : decode cL_law 1166 = .ok (.invokevirtual 91, 3) := by decide +kernel
theorem dL_law_1169 : decode cL_law 1169 = .ok (.iload 5, 2) := by decide +kernel
theorem dL_law_1171 : decode cL_law 1171 = .ok (.if_icmp .eq 5, 3) := by decide +kernel
theorem dL_law_1174 : decode cL_law 1174 = .ok (.iconst 0, 1) := by decide +kernel
theorem dL_law_1175 : decode cL_law 1175 = .ok (.ireturn, 1) := by decide +kernel
theorem dL_law_1176 : decode cL_law 1176 = .ok (.iload 5, 2) := by decide +kernel
theorem dL_law_1178 : decode cL_law 1178 = .ok (.ifCond .ne 15, 3) := by decide +kernel
theorem dL_law_1181 : decode cL_law 1181 = .ok (.aload_n 3, 1) := by decide +kernel
theorem dL_law_1182 : decode cL_law 1182 = .ok (.iconst 0, 1) := by decide +kernel
theorem dL_law_1183 : decode cL_law 1183 = .ok (.laload, 1) := by decide +kernel
theorem dL_law_1184 : decode cL_law 1184 = .ok (.iload 6, 2) := by decide +kernel
theorem dL_law_1186 : decode cL_law 1186 = .ok (.i2l, 1) := by decide +kernel
theorem dL_law_1187 : decode cL_law 1187 = .ok (.lcmp, 1) := by decide +kernel
theorem dL_law_1188 : decode cL_law 1188 = .ok (.ifCond .eq 5, 3) := by decide +kernel
theorem dL_law_1191 : decode cL_law 1191 = .ok (.iconst 0, 1) := by decide +kernel
theorem dL_law_1192 : decode cL_law 1192 = .ok (.ireturn, 1) := by decide +kernel
theorem dL_law_1193 : decode cL_law 1193 = .ok (.goto 299, 3) := by decide +kernel
theorem dL_law_1196 : decode cL_law 1196 = .ok (.aload_n 1, 1) := by decide +kernel
theorem dL_law_1197 : decode cL_law 1197 = .ok (.aload_n 0, 1) := by decide +kernel
theorem dL_law_1198 : decode cL_law 1198 = .ok (.iload 4, 2) := by decide +kernel
theorem dL_law_1200 : decode cL_law 1200 = .ok (.iconst 1, 1) := by decide +kernel
theorem dL_law_1201 : decode cL_law 1201 = .ok (.iadd, 1) := by decide +kernel
theorem dL_law_1202 : decode cL_law 1202 = .ok (.iaload, 1) := by decide +kernel
theorem dL_law_1203 : decode cL_law 1203 = .ok (.aload_n 0, 1) := by decide +kernel
theorem dL_law_1204 : decode cL_law 1204 = .ok (.iload 4, 2) := by decide +kernel
theorem dL_law_1206 : decode cL_law 1206 = .ok (.iconst 2, 1) := by decide +kernel
theorem dL_law_1207 : decode cL_law 1207 = .ok (.iadd, 1) := by decide +kernel
theorem dL_law_1208 : decode cL_law 1208 = .ok (.iaload, 1) := by decide +kernel
theorem dL_law_1209 : decode cL_law 1209 = .ok (.aload_n 0, 1) := by decide +kernel
theorem dL_law_1210 : decode cL_law 1210 = .ok (.iload 4, 2) := by decide +kernel
theorem dL_law_1212 : decode cL_law 1212 = .ok (.iconst 3, 1) := by decide +kernel
theorem dL_law_1213 : decode cL_law 1213 = .ok (.iadd, 1) := by decide +kernel
theorem dL_law_1214 : decode cL_law 1214 = .ok (.iaload, 1) := by decide +kernel
theorem dL_law_1215 : decode cL_law 1215 = .ok (.aload_n 0, 1) := by decide +kernel
theorem dL_law_1216 : decode cL_law 1216 = .ok (.iload 4, 2) := by decide +kernel
theorem dL_law_1218 : decode cL_law 1218 = .ok (.iconst 4, 1) := by decide +kernel
theorem dL_law_1219 : decode cL_law 1219 = .ok (.iadd, 1) := by decide +kernel
theorem dL_law_1220 : decode cL_law 1220 = .ok (.iaload, 1) := by decide +kernel
theorem dL_law_1221 : decode cL_law 1221 = .ok (.aload_n 3, 1) := by decide +kernel
theorem dL_law_1222 : decode cL_law 1222 = .ok (.invokestatic 142, 3) := by decide +kernel
theorem dL_law_1225 : decode cL_law 1225 = .ok (.istore 5, 2) := by decide +kernel
theorem dL_law_1227 : decode cL_law 1227 = .ok (.aload_n 2, 1) := by decide +kernel
theorem dL_law_1228 : decode cL_law 1228 = .ok (.aload_n 0, 1) := by decide +kernel
theorem dL_law_1229 : decode cL_law 1229 = .ok (.iload 4, 2) := by decide +kernel
theorem dL_law_1231 : decode cL_law 1231 = .ok (.iconst 1, 1) := by decide +kernel
theorem dL_law_1232 : decode cL_law 1232 = .ok (.iadd, 1) := by decide +kernel
theorem dL_law_1233 : decode cL_law 1233 = .ok (.iaload, 1) := by decide +kernel
theorem dL_law_1234 : decode cL_law 1234 = .ok (.aload_n 0, 1) := by decide +kernel
theorem dL_law_1235 : decode cL_law 1235 = .ok (.iload 4, 2) := by decide +kernel
theorem dL_law_1237 : decode cL_law 1237 = .ok (.iconst 2, 1) := by decide +kernel
theorem dL_law_1238 : decode cL_law 1238 = .ok (.iadd, 1) := by decide +kernel
theorem dL_law_1239 : decode cL_law 1239 = .ok (.iaload, 1) := by decide +kernel
theorem dL_law_1240 : decode cL_law 1240 = .ok (.aload_n 0, 1) := by decide +kernel
theorem dL_law_1241 : decode cL_law 1241 = .ok (.iload 4, 2) := by decide +kernel
theorem dL_law_1243 : decode cL_law 1243 = .ok (.iconst 3, 1) := by decide +kernel
theorem dL_law_1244 : decode cL_law 1244 = .ok (.iadd, 1) := by decide +kernel
theorem dL_law_1245 : decode cL_law 1245 = .ok (.iaload, 1) := by decide +kernel
theorem dL_law_1246 : decode cL_law 1246 = .ok (.aload_n 0, 1) := by decide +kernel
theorem dL_law_1247 : decode cL_law 1247 = .ok (.iload 4, 2) := by decide +kernel
theorem dL_law_1249 : decode cL_law 1249 = .ok (.iconst 4, 1) := by decide +kernel
theorem dL_law_1250 : decode cL_law 1250 = .ok (.iadd, 1) := by decide +kernel
theorem dL_law_1251 : decode cL_law 1251 = .ok (.iaload, 1) := by decide +kernel
theorem dL_law_1252 : decode cL_law 1252 = .ok (.invokevirtual 145, 3) := by decide +kernel
theorem dL_law_1255 : decode cL_law 1255 = .ok (.istore 6, 2) := by decide +kernel
theorem dL_law_1257 : decode cL_law 1257 = .ok (.aload_n 2, 1) := by decide +kernel
theorem dL_law_1258 : decode cL_law 1258 = .ok (.invokevirtual 91, 3) := by decide +kernel
theorem dL_law_1261 : decode cL_law 1261 = .ok (.iload 5, 2) := by decide +kernel
theorem dL_law_1263 : decode cL_law 1263 = .ok (.if_icmp .eq 5, 3) := by decide +kernel
theorem dL_law_1266 : decode cL_law 1266 = .ok (.iconst 0, 1) := by decide +kernel
theorem dL_law_1267 : decode cL_law 1267 = .ok (.ireturn, 1) := by decide +kernel
theorem dL_law_1268 : decode cL_law 1268 = .ok (.iload 5, 2) := by decide +kernel
theorem dL_law_1270 : decode cL_law 1270 = .ok (.ifCond .ne 15, 3) := by decide +kernel
theorem dL_law_1273 : decode cL_law 1273 = .ok (.aload_n 3, 1) := by decide +kernel
theorem dL_law_1274 : decode cL_law 1274 = .ok (.iconst 0, 1) := by decide +kernel
theorem dL_law_1275 : decode cL_law 1275 = .ok (.laload, 1) := by decide +kernel
theorem dL_law_1276 : decode cL_law 1276 = .ok (.iload 6, 2) := by decide +kernel
theorem dL_law_1278 : decode cL_law 1278 = .ok (.i2l, 1) := by decide +kernel
theorem dL_law_1279 : decode cL_law 1279 = .ok (.lcmp, 1) := by decide +kernel
theorem dL_law_1280 : decode cL_law 1280 = .ok (.ifCond .eq 5, 3) := by decide +kernel
theorem dL_law_1283 : decode cL_law 1283 = .ok (.iconst 0, 1) := by decide +kernel
theorem dL_law_1284 : decode cL_law 1284 = .ok (.ireturn, 1) := by decide +kernel
theorem dL_law_1285 : decode cL_law 1285 = .ok (.goto 207, 3) := by decide +kernel
theorem dL_law_1288 : decode cL_law 1288 = .ok (.aload_n 1, 1) := by decide +kernel
theorem dL_law_1289 : decode cL_law 1289 = .ok (.aload_n 0, 1) := by decide +kernel
theorem dL_law_1290 : decode cL_law 1290 = .ok (.iload 4, 2) := by decide +kernel
theorem dL_law_1292 : decode cL_law 1292 = .ok (.iconst 1, 1) := by decide +kernel
theorem dL_law_1293 : decode cL_law 1293 = .ok (.iadd, 1) := by decide +kernel
theorem dL_law_1294 : decode cL_law 1294 = .ok (.iaload, 1) := by decide +kernel
theorem dL_law_1295 : decode cL_law 1295 = .ok (.aload_n 0, 1) := by decide +kernel
theorem dL_law_1296 : decode cL_law 1296 = .ok (.iload 4, 2) := by decide +kernel
theorem dL_law_1298 : decode cL_law 1298 = .ok (.iconst 2, 1) := by decide +kernel
theorem dL_law_1299 : decode cL_law 1299 = .ok (.iadd, 1) := by decide +kernel
theorem dL_law_1300 : decode cL_law 1300 = .ok (.iaload, 1) := by decide +kernel
theorem dL_law_1301 : decode cL_law 1301 = .ok (.aload_n 0, 1) := by decide +kernel
theorem dL_law_1302 : decode cL_law 1302 = .ok (.iload 4, 2) := by decide +kernel
theorem dL_law_1304 : decode cL_law 1304 = .ok (.iconst 3, 1) := by decide +kernel
theorem dL_law_1305 : decode cL_law 1305 = .ok (.iadd, 1) := by decide +kernel
theorem dL_law_1306 : decode cL_law 1306 = .ok (.iaload, 1) := by decide +kernel
theorem dL_law_1307 : decode cL_law 1307 = .ok (.aload_n 3, 1) := by decide +kernel
theorem dL_law_1308 : decode cL_law 1308 = .ok (.invokestatic 146, 3) := by decide +kernel
theorem dL_law_1311 : decode cL_law 1311 = .ok (.istore 5, 2) := by decide +kernel
theorem dL_law_1313 : decode cL_law 1313 = .ok (.aload_n 2, 1) := by decide +kernel
theorem dL_law_1314 : decode cL_law 1314 = .ok (.aload_n 0, 1) := by decide +kernel
theorem dL_law_1315 : decode cL_law 1315 = .ok (.iload 4, 2) := by decide +kernel
theorem dL_law_1317 : decode cL_law 1317 = .ok (.iconst 1, 1) := by decide +kernel
theorem dL_law_1318 : decode cL_law 1318 = .ok (.iadd, 1) := by decide +kernel
theorem dL_law_1319 : decode cL_law 1319 = .ok (.iaload, 1) := by decide +kernel
theorem dL_law_1320 : decode cL_law 1320 = .ok (.aload_n 0, 1) := by decide +kernel
theorem dL_law_1321 : decode cL_law 1321 = .ok (.iload 4, 2) := by decide +kernel
theorem dL_law_1323 : decode cL_law 1323 = .ok (.iconst 2, 1) := by decide +kernel
theorem dL_law_1324 : decode cL_law 1324 = .ok (.iadd, 1) := by decide +kernel
theorem dL_law_1325 : decode cL_law 1325 = .ok (.iaload, 1) := by decide +kernel
theorem dL_law_1326 : decode cL_law 1326 = .ok (.aload_n 0, 1) := by decide +kernel
theorem dL_law_1327 : decode cL_law 1327 = .ok (.iload 4, 2) := by decide +kernel
theorem dL_law_1329 : decode cL_law 1329 = .ok (.iconst 3, 1) := by decide +kernel
theorem dL_law_1330 : decode cL_law 1330 = .ok (.iadd, 1) := by decide +kernel
theorem dL_law_1331 : decode cL_law 1331 = .ok (.iaload, 1) := by decide +kernel
theorem dL_law_1332 : decode cL_law 1332 = .ok (.invokevirtual 148, 3) := by decide +kernel
theorem dL_law_1335 : decode cL_law 1335 = .ok (.istore 6, 2) := by decide +kernel
theorem dL_law_1337 : decode cL_law 1337 = .ok (.aload_n 2, 1) := by decide +kernel
theorem dL_law_1338 : decode cL_law 1338 = .ok (.invokevirtual 91, 3) := by decide +kernel
theorem dL_law_1341 : decode cL_law 1341 = .ok (.iload 5, 2) := by decide +kernel
theorem dL_law_1343 : decode cL_law 1343 = .ok (.if_icmp .eq 5, 3) := by decide +kernel
theorem dL_law_1346 : decode cL_law 1346 = .ok (.iconst 0, 1) := by decide +kernel
theorem dL_law_1347 : decode cL_law 1347 = .ok (.ireturn, 1) := by decide +kernel
theorem dL_law_1348 : decode cL_law 1348 = .ok (.iload 5, 2) := by decide +kernel
theorem dL_law_1350 : decode cL_law 1350 = .ok (.ifCond .ne 15, 3) := by decide +kernel
theorem dL_law_1353 : decode cL_law 1353 = .ok (.aload_n 3, 1) := by decide +kernel
theorem dL_law_1354 : decode cL_law 1354 = .ok (.iconst 0, 1) := by decide +kernel
theorem dL_law_1355 : decode cL_law 1355 = .ok (.laload, 1) := by decide +kernel
theorem dL_law_1356 : decode cL_law 1356 = .ok (.iload 6, 2) := by decide +kernel
theorem dL_law_1358 : decode cL_law 1358 = .ok (.i2l, 1) := by decide +kernel
theorem dL_law_1359 : decode cL_law 1359 = .ok (.lcmp, 1) := by decide +kernel
theorem dL_law_1360 : decode cL_law 1360 = .ok (.ifCond .eq 5, 3) := by decide +kernel
theorem dL_law_1363 : decode cL_law 1363 = .ok (.iconst 0, 1) := by decide +kernel
theorem dL_law_1364 : decode cL_law 1364 = .ok (.ireturn, 1) := by decide +kernel
theorem dL_law_1365 : decode cL_law 1365 = .ok (.goto 127, 3) := by decide +kernel
theorem dL_law_1368 : decode cL_law 1368 = .ok (.aload_n 1, 1) := by decide +kernel
theorem dL_law_1369 : decode cL_law 1369 = .ok (.aload_n 0, 1) := by decide +kernel
theorem dL_law_1370 : decode cL_law 1370 = .ok (.iload 4, 2) := by decide +kernel
theorem dL_law_1372 : decode cL_law 1372 = .ok (.iconst 1, 1) := by decide +kernel
theorem dL_law_1373 : decode cL_law 1373 = .ok (.iadd, 1) := by decide +kernel
theorem dL_law_1374 : decode cL_law 1374 = .ok (.iaload, 1) := by decide +kernel
theorem dL_law_1375 : decode cL_law 1375 = .ok (.aload_n 0, 1) := by decide +kernel
theorem dL_law_1376 : decode cL_law 1376 = .ok (.iload 4, 2) := by decide +kernel
theorem dL_law_1378 : decode cL_law 1378 = .ok (.iconst 2, 1) := by decide +kernel
theorem dL_law_1379 : decode cL_law 1379 = .ok (.iadd, 1) := by decide +kernel
theorem dL_law_1380 : decode cL_law 1380 = .ok (.iaload, 1) := by decide +kernel
theorem dL_law_1381 : decode cL_law 1381 = .ok (.aload_n 3, 1) := by decide +kernel
theorem dL_law_1382 : decode cL_law 1382 = .ok (.invokestatic 149, 3) := by decide +kernel
theorem dL_law_1385 : decode cL_law 1385 = .ok (.istore 5, 2) := by decide +kernel
theorem dL_law_1387 : decode cL_law 1387 = .ok (.aload_n 2, 1) := by decide +kernel
theorem dL_law_1388 : decode cL_law 1388 = .ok (.aload_n 0, 1) := by decide +kernel
theorem dL_law_1389 : decode cL_law 1389 = .ok (.iload 4, 2) := by decide +kernel
theorem dL_law_1391 : decode cL_law 1391 = .ok (.iconst 1, 1) := by decide +kernel
theorem dL_law_1392 : decode cL_law 1392 = .ok (.iadd, 1) := by decide +kernel
theorem dL_law_1393 : decode cL_law 1393 = .ok (.iaload, 1) := by decide +kernel
theorem dL_law_1394 : decode cL_law 1394 = .ok (.aload_n 0, 1) := by decide +kernel
theorem dL_law_1395 : decode cL_law 1395 = .ok (.iload 4, 2) := by decide +kernel
theorem dL_law_1397 : decode cL_law 1397 = .ok (.iconst 2, 1) := by decide +kernel
theorem dL_law_1398 : decode cL_law 1398 = .ok (.iadd, 1) := by decide +kernel
theorem dL_law_1399 : decode cL_law 1399 = .ok (.iaload, 1) := by decide +kernel
theorem dL_law_1400 : decode cL_law 1400 = .ok (.invokevirtual 151, 3) := by decide +kernel
theorem dL_law_1403 : decode cL_law 1403 = .ok (.istore 6, 2) := by decide +kernel
theorem dL_law_1405 : decode cL_law 1405 = .ok (.aload_n 2, 1) := by decide +kernel
theorem dL_law_1406 : decode cL_law 1406 = .ok (.invokevirtual 91, 3) := by decide +kernel
theorem dL_law_1409 : decode cL_law 1409 = .ok (.iload 5, 2) := by decide +kernel
theorem dL_law_1411 : decode cL_law 1411 = .ok (.if_icmp .eq 5, 3) := by decide +kernel
theorem dL_law_1414 : decode cL_law 1414 = .ok (.iconst 0, 1) := by decide +kernel
theorem dL_law_1415 : decode cL_law 1415 = .ok (.ireturn, 1) := by decide +kernel
theorem dL_law_1416 : decode cL_law 1416 = .ok (.iload 5, 2) := by decide +kernel
theorem dL_law_1418 : decode cL_law 1418 = .ok (.ifCond .ne 15, 3) := by decide +kernel
theorem dL_law_1421 : decode cL_law 1421 = .ok (.aload_n 3, 1) := by decide +kernel
theorem dL_law_1422 : decode cL_law 1422 = .ok (.iconst 0, 1) := by decide +kernel
theorem dL_law_1423 : decode cL_law 1423 = .ok (.laload, 1) := by decide +kernel
theorem dL_law_1424 : decode cL_law 1424 = .ok (.iload 6, 2) := by decide +kernel
theorem dL_law_1426 : decode cL_law 1426 = .ok (.i2l, 1) := by decide +kernel
theorem dL_law_1427 : decode cL_law 1427 = .ok (.lcmp, 1) := by decide +kernel
theorem dL_law_1428 : decode cL_law 1428 = .ok (.ifCond .eq 5, 3) := by decide +kernel
theorem dL_law_1431 : decode cL_law 1431 = .ok (.iconst 0, 1) := by decide +kernel
theorem dL_law_1432 : decode cL_law 1432 = .ok (.ireturn, 1) := by decide +kernel
theorem dL_law_1433 : decode cL_law 1433 = .ok (.goto 59, 3) := by decide +kernel
theorem dL_law_1436 : decode cL_law 1436 = .ok (.aload_n 1, 1) := by decide +kernel
theorem dL_law_1437 : decode cL_law 1437 = .ok (.aload_n 0, 1) := by decide +kernel
theorem dL_law_1438 : decode cL_law 1438 = .ok (.iload 4, 2) := by decide +kernel
theorem dL_law_1440 : decode cL_law 1440 = .ok (.iconst 1, 1) := by decide +kernel
theorem dL_law_1441 : decode cL_law 1441 = .ok (.iadd, 1) := by decide +kernel
theorem dL_law_1442 : decode cL_law 1442 = .ok (.iaload, 1) := by decide +kernel
theorem dL_law_1443 : decode cL_law 1443 = .ok (.aload_n 3, 1) := by decide +kernel
theorem dL_law_1444 : decode cL_law 1444 = .ok (.invokestatic 152, 3) := by decide +kernel
theorem dL_law_1447 : decode cL_law 1447 = .ok (.istore 5, 2) := by decide +kernel
theorem dL_law_1449 : decode cL_law 1449 = .ok (.aload_n 2, 1) := by decide +kernel
theorem dL_law_1450 : decode cL_law 1450 = .ok (.aload_n 0, 1) := by decide +kernel
theorem dL_law_1451 : decode cL_law 1451 = .ok (.iload 4, 2) := by decide +kernel
theorem dL_law_1453 : decode cL_law 1453 = .ok (.iconst 1, 1) := by decide +kernel
theorem dL_law_1454 : decode cL_law 1454 = .ok (.iadd, 1) := by decide +kernel
theorem dL_law_1455 : decode cL_law 1455 = .ok (.iaload, 1) := by decide +kernel
theorem dL_law_1456 : decode cL_law 1456 = .ok (.invokevirtual 154, 3) := by decide +kernel
theorem dL_law_1459 : decode cL_law 1459 = .ok (.istore 6, 2) := by decide +kernel
theorem dL_law_1461 : decode cL_law 1461 = .ok (.aload_n 2, 1) := by decide +kernel
theorem dL_law_1462 : decode cL_law 1462 = .ok (.invokevirtual 91, 3) := by decide +kernel
theorem dL_law_1465 : decode cL_law 1465 = .ok (.iload 5, 2) := by decide +kernel
theorem dL_law_1467 : decode cL_law 1467 = .ok (.if_icmp .eq 5, 3) := by decide +kernel
theorem dL_law_1470 : decode cL_law 1470 = .ok (.iconst 0, 1) := by decide +kernel
theorem dL_law_1471 : decode cL_law 1471 = .ok (.ireturn, 1) := by decide +kernel
theorem dL_law_1472 : decode cL_law 1472 = .ok (.iload 5, 2) := by decide +kernel
theorem dL_law_1474 : decode cL_law 1474 = .ok (.ifCond .ne 15, 3) := by decide +kernel
theorem dL_law_1477 : decode cL_law 1477 = .ok (.aload_n 3, 1) := by decide +kernel
theorem dL_law_1478 : decode cL_law 1478 = .ok (.iconst 0, 1) := by decide +kernel
theorem dL_law_1479 : decode cL_law 1479 = .ok (.laload, 1) := by decide +kernel
theorem dL_law_1480 : decode cL_law 1480 = .ok (.iload 6, 2) := by decide +kernel
theorem dL_law_1482 : decode cL_law 1482 = .ok (.i2l, 1) := by decide +kernel
theorem dL_law_1483 : decode cL_law 1483 = .ok (.lcmp, 1) := by decide +kernel
theorem dL_law_1484 : decode cL_law 1484 = .ok (.ifCond .eq 5, 3) := by decide +kernel
theorem dL_law_1487 : decode cL_law 1487 = .ok (.iconst 0, 1) := by decide +kernel
theorem dL_law_1488 : decode cL_law 1488 = .ok (.ireturn, 1) := by decide +kernel
theorem dL_law_1489 : decode cL_law 1489 = .ok (.goto 3, 3) := by decide +kernel
theorem dL_law_1492 : decode cL_law 1492 = .ok (.iinc 4 5, 3) := by decide +kernel
theorem dL_law_1495 : decode cL_law 1495 = .ok (.goto (-1472), 3) := by decide +kernel
theorem dL_law_1498 : decode cL_law 1498 = .ok (.iconst 1, 1) := by decide +kernel
theorem dL_law_1499 : decode cL_law 1499 = .ok (.ireturn, 1) := by decide +kernel
abbrev vwCl : List vw_C := [(RJx4a65c, TJx4a65c, 3), (RX0, TX0, 5), (RX1, TX1, 3), (RX2, TX2, 4), (RX3, TX3, 6), (RX4, TX4, 9), (RX5, TX5, 8), (RX6, TX6, 24)]
