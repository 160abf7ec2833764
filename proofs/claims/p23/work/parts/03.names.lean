/-! ===== BEGIN printed: names, fields, word lists, decode rows ===== -/
def RX0 : String := "DyeRing$Bath"
def TX0 : u_T := fun k => match k with
  | 0 => ("DyeRing$Bath", "dyer", "I", true)
  | 1 => ("DyeRing$Bath", "entry", "LDyeRing$Entry;", true)
  | 2 => ("DyeRing$Bath", "strengthNow", "I", false)
  | 3 => ("DyeRing$Bath", "renewedSincePiece", "Z", false)
  | _ => ("DyeRing$Bath", "pieces", "Ljava/util/ArrayList;", true)
def tyX0 : Nat → FieldType := fun k => match k with
  | 0 => .int
  | 1 => .object "DyeRing$Entry"
  | 2 => .int
  | 3 => .boolean
  | _ => .object "java/util/ArrayList"
theorem nmX0 : ∀ a, a < 5 → ∀ b, b < 5 → a ≠ b → (TX0 a).2.1 ≠ (TX0 b).2.1 := by decide +kernel
theorem tyX0_ok : ∀ k, k < 5 → parseFieldDescriptor (TX0 k).2.2.1 = some (tyX0 k) := by decide +kernel
abbrev cX0_init : ByteArray := prog_2_method_1_code
def yX0_init : MethodName := ⟨RX0, "<init>", "(ILDyeRing$Entry;)V"⟩
abbrev cX0_isFor : ByteArray := prog_2_method_2_code
def yX0_isFor : MethodName := ⟨RX0, "isFor", "(LDyeRing$Entry;)Z"⟩
abbrev cX0_renew : ByteArray := prog_2_method_3_code
def yX0_renew : MethodName := ⟨RX0, "renew", "()I"⟩
abbrev cX0_take : ByteArray := prog_2_method_4_code
def yX0_take : MethodName := ⟨RX0, "take", "(LDyeRing$Piece;)V"⟩
abbrev cX0_followedTo : ByteArray := prog_2_method_5_code
def yX0_followedTo : MethodName := ⟨RX0, "followedTo", "(I)I"⟩
def RX1 : String := "DyeRing$Cloth"
def TX1 : u_T := fun k => match k with
  | 0 => ("DyeRing$Cloth", "shrinkage", "I", false)
  | 1 => ("DyeRing$Cloth", "debts", "[[I", true)
  | _ => ("DyeRing$Cloth", "unsettled", "[I", true)
def tyX1 : Nat → FieldType := fun k => match k with
  | 0 => .int
  | 1 => .array (.array .int)
  | _ => .array .int
theorem nmX1 : ∀ a, a < 3 → ∀ b, b < 3 → a ≠ b → (TX1 a).2.1 ≠ (TX1 b).2.1 := by decide +kernel
theorem tyX1_ok : ∀ k, k < 3 → parseFieldDescriptor (TX1 k).2.2.1 = some (tyX1 k) := by decide +kernel
abbrev cX1_init : ByteArray := prog_3_method_1_code
def yX1_init : MethodName := ⟨RX1, "<init>", "()V"⟩
abbrev cX1_shrunk : ByteArray := prog_3_method_2_code
def yX1_shrunk : MethodName := ⟨RX1, "shrunk", "(I)I"⟩
abbrev cX1_balanceOf : ByteArray := prog_3_method_3_code
def yX1_balanceOf : MethodName := ⟨RX1, "balanceOf", "(I)I"⟩
abbrev cX1_settle : ByteArray := prog_3_method_4_code
def yX1_settle : MethodName := ⟨RX1, "settle", "()I"⟩
abbrev cX1_settleLowest : ByteArray := prog_3_method_5_code
def yX1_settleLowest : MethodName := ⟨RX1, "settleLowest", "()Z"⟩
abbrev cX1_lowest : ByteArray := prog_3_method_6_code
def yX1_lowest : MethodName := ⟨RX1, "lowest", "(I)I"⟩
def RX2 : String := "DyeRing$Entry"
def TX2 : u_T := fun k => match k with
  | 0 => ("DyeRing$Entry", "number", "I", true)
  | 1 => ("DyeRing$Entry", "first", "I", true)
  | 2 => ("DyeRing$Entry", "second", "I", true)
  | _ => ("DyeRing$Entry", "tolerance", "I", true)
def tyX2 : Nat → FieldType := fun k => match k with
  | 0 => .int
  | 1 => .int
  | 2 => .int
  | _ => .int
theorem nmX2 : ∀ a, a < 4 → ∀ b, b < 4 → a ≠ b → (TX2 a).2.1 ≠ (TX2 b).2.1 := by decide +kernel
theorem tyX2_ok : ∀ k, k < 4 → parseFieldDescriptor (TX2 k).2.2.1 = some (tyX2 k) := by decide +kernel
abbrev cX2_init : ByteArray := prog_4_method_1_code
def yX2_init : MethodName := ⟨RX2, "<init>", "(IIII)V"⟩
abbrev cX2_distanceTo : ByteArray := prog_4_method_2_code
def yX2_distanceTo : MethodName := ⟨RX2, "distanceTo", "(II)I"⟩
abbrev cX2_dyedFirst : ByteArray := prog_4_method_3_code
def yX2_dyedFirst : MethodName := ⟨RX2, "dyedFirst", "(III)I"⟩
abbrev cX2_dyedSecond : ByteArray := prog_4_method_4_code
def yX2_dyedSecond : MethodName := ⟨RX2, "dyedSecond", "(II)I"⟩
abbrev cX2_distanceOfDyed : ByteArray := prog_4_method_5_code
def yX2_distanceOfDyed : MethodName := ⟨RX2, "distanceOfDyed", "(IIII)I"⟩
def RX3 : String := "DyeRing$Order"
def TX3 : u_T := fun k => match k with
  | 0 => ("DyeRing$Order", "number", "I", true)
  | 1 => ("DyeRing$Order", "entry", "LDyeRing$Entry;", true)
  | 2 => ("DyeRing$Order", "weight", "I", true)
  | 3 => ("DyeRing$Order", "yarn", "I", true)
  | 4 => ("DyeRing$Order", "piece", "LDyeRing$Piece;", false)
  | _ => ("DyeRing$Order", "claimed", "Z", false)
def tyX3 : Nat → FieldType := fun k => match k with
  | 0 => .int
  | 1 => .object "DyeRing$Entry"
  | 2 => .int
  | 3 => .int
  | 4 => .object "DyeRing$Piece"
  | _ => .boolean
theorem nmX3 : ∀ a, a < 6 → ∀ b, b < 6 → a ≠ b → (TX3 a).2.1 ≠ (TX3 b).2.1 := by decide +kernel
theorem tyX3_ok : ∀ k, k < 6 → parseFieldDescriptor (TX3 k).2.2.1 = some (tyX3 k) := by decide +kernel
abbrev cX3_init : ByteArray := prog_5_method_1_code
def yX3_init : MethodName := ⟨RX3, "<init>", "(ILDyeRing$Entry;II)V"⟩
def RX4 : String := "DyeRing$Piece"
def TX4 : u_T := fun k => match k with
  | 0 => ("DyeRing$Piece", "orderNumber", "I", true)
  | 1 => ("DyeRing$Piece", "entry", "LDyeRing$Entry;", true)
  | 2 => ("DyeRing$Piece", "weight", "I", true)
  | 3 => ("DyeRing$Piece", "bath", "LDyeRing$Bath;", true)
  | 4 => ("DyeRing$Piece", "afterRenewal", "Z", true)
  | 5 => ("DyeRing$Piece", "strengthThen", "I", true)
  | 6 => ("DyeRing$Piece", "waterThen", "I", true)
  | 7 => ("DyeRing$Piece", "yarnFirstThen", "I", true)
  | _ => ("DyeRing$Piece", "yarnSecondThen", "I", true)
def tyX4 : Nat → FieldType := fun k => match k with
  | 0 => .int
  | 1 => .object "DyeRing$Entry"
  | 2 => .int
  | 3 => .object "DyeRing$Bath"
  | 4 => .boolean
  | 5 => .int
  | 6 => .int
  | 7 => .int
  | _ => .int
theorem nmX4 : ∀ a, a < 9 → ∀ b, b < 9 → a ≠ b → (TX4 a).2.1 ≠ (TX4 b).2.1 := by decide +kernel
theorem tyX4_ok : ∀ k, k < 9 → parseFieldDescriptor (TX4 k).2.2.1 = some (tyX4 k) := by decide +kernel
abbrev cX4_init : ByteArray := prog_6_method_1_code
def yX4_init : MethodName := ⟨RX4, "<init>", "(LDyeRing$Order;LDyeRing$Bath;III)V"⟩
abbrev cX4_colourAt : ByteArray := prog_6_method_2_code
def yX4_colourAt : MethodName := ⟨RX4, "colourAt", "(II)I"⟩
abbrev cX4_distance : ByteArray := prog_6_method_3_code
def yX4_distance : MethodName := ⟨RX4, "distance", "()I"⟩
abbrev cX4_isOff : ByteArray := prog_6_method_4_code
def yX4_isOff : MethodName := ⟨RX4, "isOff", "()Z"⟩
abbrev cX4_toBlame : ByteArray := prog_6_method_5_code
def yX4_toBlame : MethodName := ⟨RX4, "toBlame", "()I"⟩
def RX5 : String := "DyeRing"
def TX5 : u_T := fun k => match k with
  | 0 => ("DyeRing", "entries", "Ljava/util/ArrayList;", true)
  | 1 => ("DyeRing", "baths", "Ljava/util/ArrayList;", true)
  | 2 => ("DyeRing", "orders", "Ljava/util/ArrayList;", true)
  | 3 => ("DyeRing", "waters", "[I", true)
  | 4 => ("DyeRing", "yarnFirsts", "[I", true)
  | 5 => ("DyeRing", "yarnSeconds", "[I", true)
  | 6 => ("DyeRing", "blames", "[[I", true)
  | _ => ("DyeRing", "cloths", "[LDyeRing$Cloth;", true)
def tyX5 : Nat → FieldType := fun k => match k with
  | 0 => .object "java/util/ArrayList"
  | 1 => .object "java/util/ArrayList"
  | 2 => .object "java/util/ArrayList"
  | 3 => .array .int
  | 4 => .array .int
  | 5 => .array .int
  | 6 => .array (.array .int)
  | _ => .array (.object "DyeRing$Cloth")
theorem nmX5 : ∀ a, a < 8 → ∀ b, b < 8 → a ≠ b → (TX5 a).2.1 ≠ (TX5 b).2.1 := by decide +kernel
theorem tyX5_ok : ∀ k, k < 8 → parseFieldDescriptor (TX5 k).2.2.1 = some (tyX5 k) := by decide +kernel
abbrev cX5_init : ByteArray := prog_1_method_1_code
def yX5_init : MethodName := ⟨RX5, "<init>", "()V"⟩
abbrev cX5_entry : ByteArray := prog_1_method_2_code
def yX5_entry : MethodName := ⟨RX5, "entry", "(III)I"⟩
abbrev cX5_water : ByteArray := prog_1_method_3_code
def yX5_water : MethodName := ⟨RX5, "water", "(II)I"⟩
abbrev cX5_yarn : ByteArray := prog_1_method_4_code
def yX5_yarn : MethodName := ⟨RX5, "yarn", "(III)I"⟩
abbrev cX5_apart : ByteArray := prog_1_method_5_code
def yX5_apart : MethodName := ⟨RX5, "apart", "(II)I"⟩
abbrev cX5_bath : ByteArray := prog_1_method_6_code
def yX5_bath : MethodName := ⟨RX5, "bath", "(II)I"⟩
abbrev cX5_freshen : ByteArray := prog_1_method_7_code
def yX5_freshen : MethodName := ⟨RX5, "freshen", "(I)I"⟩
abbrev cX5_strength : ByteArray := prog_1_method_8_code
def yX5_strength : MethodName := ⟨RX5, "strength", "(I)I"⟩
abbrev cX5_order : ByteArray := prog_1_method_9_code
def yX5_order : MethodName := ⟨RX5, "order", "(III)I"⟩
abbrev cX5_place : ByteArray := prog_1_method_10_code
def yX5_place : MethodName := ⟨RX5, "place", "(I)I"⟩
abbrev cX5_dye : ByteArray := prog_1_method_11_code
def yX5_dye : MethodName := ⟨RX5, "dye", "(II)I"⟩
abbrev cX5_claim : ByteArray := prog_1_method_12_code
def yX5_claim : MethodName := ⟨RX5, "claim", "(I)I"⟩
abbrev cX5_stateOf : ByteArray := prog_1_method_13_code
def yX5_stateOf : MethodName := ⟨RX5, "stateOf", "(I)I"⟩
abbrev cX5_colour : ByteArray := prog_1_method_14_code
def yX5_colour : MethodName := ⟨RX5, "colour", "(II)I"⟩
abbrev cX5_colourByBath : ByteArray := prog_1_method_15_code
def yX5_colourByBath : MethodName := ⟨RX5, "colourByBath", "(II)I"⟩
abbrev cX5_blamed : ByteArray := prog_1_method_16_code
def yX5_blamed : MethodName := ⟨RX5, "blamed", "(II)I"⟩
abbrev cX5_shrinks : ByteArray := prog_1_method_17_code
def yX5_shrinks : MethodName := ⟨RX5, "shrinks", "(II)I"⟩
abbrev cX5_give : ByteArray := prog_1_method_18_code
def yX5_give : MethodName := ⟨RX5, "give", "(IIII)I"⟩
abbrev cX5_owes : ByteArray := prog_1_method_19_code
def yX5_owes : MethodName := ⟨RX5, "owes", "(III)I"⟩
abbrev cX5_position : ByteArray := prog_1_method_20_code
def yX5_position : MethodName := ⟨RX5, "position", "(II)I"⟩
abbrev cX5_net : ByteArray := prog_1_method_21_code
def yX5_net : MethodName := ⟨RX5, "net", "(I)I"⟩
abbrev cX5_requireIndex : ByteArray := prog_1_method_22_code
def yX5_requireIndex : MethodName := ⟨RX5, "requireIndex", "(II)V"⟩
abbrev cX5_requireRange : ByteArray := prog_1_method_23_code
def yX5_requireRange : MethodName := ⟨RX5, "requireRange", "(III)V"⟩
abbrev cX5_requireRoom : ByteArray := prog_1_method_24_code
def yX5_requireRoom : MethodName := ⟨RX5, "requireRoom", "(II)V"⟩
abbrev cX5_requireWaiting : ByteArray := prog_1_method_25_code
def yX5_requireWaiting : MethodName := ⟨RX5, "requireWaiting", "(LDyeRing$Order;)V"⟩
abbrev cX5_pieceOf : ByteArray := prog_1_method_26_code
def yX5_pieceOf : MethodName := ⟨RX5, "pieceOf", "(LDyeRing$Order;)LDyeRing$Piece;"⟩
abbrev cX5_findEntry : ByteArray := prog_1_method_27_code
def yX5_findEntry : MethodName := ⟨RX5, "findEntry", "(I)LDyeRing$Entry;"⟩
abbrev cX5_findBath : ByteArray := prog_1_method_28_code
def yX5_findBath : MethodName := ⟨RX5, "findBath", "(I)LDyeRing$Bath;"⟩
abbrev cX5_findOrder : ByteArray := prog_1_method_29_code
def yX5_findOrder : MethodName := ⟨RX5, "findOrder", "(I)LDyeRing$Order;"⟩
abbrev cX5_weakestRightBath : ByteArray := prog_1_method_30_code
def yX5_weakestRightBath : MethodName := ⟨RX5, "weakestRightBath", "(LDyeRing$Order;)I"⟩
abbrev cX5_isRight : ByteArray := prog_1_method_31_code
def yX5_isRight : MethodName := ⟨RX5, "isRight", "(LDyeRing$Bath;LDyeRing$Order;)Z"⟩
abbrev cX5_dyeIn : ByteArray := prog_1_method_32_code
def yX5_dyeIn : MethodName := ⟨RX5, "dyeIn", "(LDyeRing$Order;LDyeRing$Bath;)LDyeRing$Piece;"⟩
abbrev cX5_weakened : ByteArray := prog_1_method_33_code
def yX5_weakened : MethodName := ⟨RX5, "weakened", "(II)I"⟩
def RX6 : String := "DyeRingModel"
def TX6 : u_T := fun k => match k with
  | _ => ("", "", "", false)
def tyX6 : Nat → FieldType := fun k => match k with
  | _ => .int
theorem nmX6 : ∀ a, a < 0 → ∀ b, b < 0 → a ≠ b → (TX6 a).2.1 ≠ (TX6 b).2.1 := by decide +kernel
theorem tyX6_ok : ∀ k, k < 0 → parseFieldDescriptor (TX6 k).2.2.1 = some (tyX6 k) := by decide +kernel
def RJx145de : String := "java/io/Serializable"
def TJx145de : u_T := fun k => match k with
  | _ => ("", "", "", false)
def tyJx145de : Nat → FieldType := fun k => match k with
  | _ => .int
theorem nmJx145de : ∀ a, a < 0 → ∀ b, b < 0 → a ≠ b → (TJx145de a).2.1 ≠ (TJx145de b).2.1 := by decide +kernel
theorem tyJx145de_ok : ∀ k, k < 0 → parseFieldDescriptor (TJx145de k).2.2.1 = some (tyJx145de k) := by decide +kernel
def RJx8e188 : String := "java/lang/Cloneable"
def TJx8e188 : u_T := fun k => match k with
  | _ => ("", "", "", false)
def tyJx8e188 : Nat → FieldType := fun k => match k with
  | _ => .int
theorem nmJx8e188 : ∀ a, a < 0 → ∀ b, b < 0 → a ≠ b → (TJx8e188 a).2.1 ≠ (TJx8e188 b).2.1 := by decide +kernel
theorem tyJx8e188_ok : ∀ k, k < 0 → parseFieldDescriptor (TJx8e188 k).2.2.1 = some (tyJx8e188 k) := by decide +kernel
def RJxab1ab : String := "java/lang/Iterable"
def TJxab1ab : u_T := fun k => match k with
  | _ => ("", "", "", false)
def tyJxab1ab : Nat → FieldType := fun k => match k with
  | _ => .int
theorem nmJxab1ab : ∀ a, a < 0 → ∀ b, b < 0 → a ≠ b → (TJxab1ab a).2.1 ≠ (TJxab1ab b).2.1 := by decide +kernel
theorem tyJxab1ab_ok : ∀ k, k < 0 → parseFieldDescriptor (TJxab1ab k).2.2.1 = some (tyJxab1ab k) := by decide +kernel
def RJ9 : String := "java/lang/Math"
def TJ9 : u_T := fun k => match k with
  | _ => ("", "", "", false)
def tyJ9 : Nat → FieldType := fun k => match k with
  | _ => .int
theorem nmJ9 : ∀ a, a < 0 → ∀ b, b < 0 → a ≠ b → (TJ9 a).2.1 ≠ (TJ9 b).2.1 := by decide +kernel
theorem tyJ9_ok : ∀ k, k < 0 → parseFieldDescriptor (TJ9 k).2.2.1 = some (tyJ9 k) := by decide +kernel
abbrev cJ9_abs_0f7a4 : ByteArray := prog_16_method_59_code
def yJ9_abs_0f7a4 : MethodName := ⟨RJ9, "abs", "(I)I"⟩
abbrev cJ9_max_7cf53 : ByteArray := prog_16_method_65_code
def yJ9_max_7cf53 : MethodName := ⟨RJ9, "max", "(II)I"⟩
abbrev cJ9_min_7cf53 : ByteArray := prog_16_method_69_code
def yJ9_min_7cf53 : MethodName := ⟨RJ9, "min", "(II)I"⟩
def RJ0 : String := "java/lang/String"
def TJ0 : u_T := fun k => match k with
  | _ => ("", "", "", false)
def tyJ0 : Nat → FieldType := fun k => match k with
  | _ => .int
theorem nmJ0 : ∀ a, a < 0 → ∀ b, b < 0 → a ≠ b → (TJ0 a).2.1 ≠ (TJ0 b).2.1 := by decide +kernel
theorem tyJ0_ok : ∀ k, k < 0 → parseFieldDescriptor (TJ0 k).2.2.1 = some (tyJ0 k) := by decide +kernel
def RJ10 : String := "java/lang/System"
def TJ10 : u_T := fun k => match k with
  | _ => ("", "", "", false)
def tyJ10 : Nat → FieldType := fun k => match k with
  | _ => .int
theorem nmJ10 : ∀ a, a < 0 → ∀ b, b < 0 → a ≠ b → (TJ10 a).2.1 ≠ (TJ10 b).2.1 := by decide +kernel
theorem tyJ10_ok : ∀ k, k < 0 → parseFieldDescriptor (TJ10 k).2.2.1 = some (tyJ10 k) := by decide +kernel
def RJxa1e45 : String := "java/util/AbstractCollection"
def TJxa1e45 : u_T := fun k => match k with
  | _ => ("", "", "", false)
def tyJxa1e45 : Nat → FieldType := fun k => match k with
  | _ => .int
theorem nmJxa1e45 : ∀ a, a < 0 → ∀ b, b < 0 → a ≠ b → (TJxa1e45 a).2.1 ≠ (TJxa1e45 b).2.1 := by decide +kernel
theorem tyJxa1e45_ok : ∀ k, k < 0 → parseFieldDescriptor (TJxa1e45 k).2.2.1 = some (tyJxa1e45 k) := by decide +kernel
abbrev cJxa1e45_init_da8c8 : ByteArray := prog_21_method_1_code
def yJxa1e45_init_da8c8 : MethodName := ⟨RJxa1e45, "<init>", "()V"⟩
def RJxc12de : String := "java/util/AbstractList"
def TJxc12de : u_T := fun k => match k with
  | _ => ("", "", "", false)
def tyJxc12de : Nat → FieldType := fun k => match k with
  | _ => .int
theorem nmJxc12de : ∀ a, a < 0 → ∀ b, b < 0 → a ≠ b → (TJxc12de a).2.1 ≠ (TJxc12de b).2.1 := by decide +kernel
theorem tyJxc12de_ok : ∀ k, k < 0 → parseFieldDescriptor (TJxc12de k).2.2.1 = some (tyJxc12de k) := by decide +kernel
abbrev cJxc12de_init_da8c8 : ByteArray := prog_22_method_1_code
def yJxc12de_init_da8c8 : MethodName := ⟨RJxc12de, "<init>", "()V"⟩
def RJx4a65c : String := "java/util/ArrayList"
def TJx4a65c : u_T := fun k => match k with
  | 0 => ("java/util/AbstractList", "modCount", "I", false)
  | 1 => ("java/util/ArrayList", "elementData", "[Ljava/lang/Object;", false)
  | _ => ("java/util/ArrayList", "size", "I", false)
def tyJx4a65c : Nat → FieldType := fun k => match k with
  | 0 => .int
  | 1 => .array (.object "java/lang/Object")
  | _ => .int
theorem nmJx4a65c : ∀ a, a < 3 → ∀ b, b < 3 → a ≠ b → (TJx4a65c a).2.1 ≠ (TJx4a65c b).2.1 := by decide +kernel
theorem tyJx4a65c_ok : ∀ k, k < 3 → parseFieldDescriptor (TJx4a65c k).2.2.1 = some (tyJx4a65c k) := by decide +kernel
abbrev cJx4a65c_init_da8c8 : ByteArray := prog_23_method_2_code
def yJx4a65c_init_da8c8 : MethodName := ⟨RJx4a65c, "<init>", "()V"⟩
abbrev cJx4a65c_grow_92f84 : ByteArray := prog_23_method_6_code
def yJx4a65c_grow_92f84 : MethodName := ⟨RJx4a65c, "grow", "(I)[Ljava/lang/Object;"⟩
abbrev cJx4a65c_grow_d5877 : ByteArray := prog_23_method_7_code
def yJx4a65c_grow_d5877 : MethodName := ⟨RJx4a65c, "grow", "()[Ljava/lang/Object;"⟩
abbrev cJx4a65c_size_8abf5 : ByteArray := prog_23_method_8_code
def yJx4a65c_size_8abf5 : MethodName := ⟨RJx4a65c, "size", "()I"⟩
abbrev cJx4a65c_elementData_915e3 : ByteArray := prog_23_method_18_code
def yJx4a65c_elementData_915e3 : MethodName := ⟨RJx4a65c, "elementData", "(I)Ljava/lang/Object;"⟩
abbrev cJx4a65c_get_915e3 : ByteArray := prog_23_method_20_code
def yJx4a65c_get_915e3 : MethodName := ⟨RJx4a65c, "get", "(I)Ljava/lang/Object;"⟩
abbrev cJx4a65c_add_72be8 : ByteArray := prog_23_method_24_code
def yJx4a65c_add_72be8 : MethodName := ⟨RJx4a65c, "add", "(Ljava/lang/Object;[Ljava/lang/Object;I)V"⟩
abbrev cJx4a65c_add_9ea2d : ByteArray := prog_23_method_25_code
def yJx4a65c_add_9ea2d : MethodName := ⟨RJx4a65c, "add", "(Ljava/lang/Object;)Z"⟩
def RJ7 : String := "java/util/Arrays"
def TJ7 : u_T := fun k => match k with
  | _ => ("", "", "", false)
def tyJ7 : Nat → FieldType := fun k => match k with
  | _ => .int
theorem nmJ7 : ∀ a, a < 0 → ∀ b, b < 0 → a ≠ b → (TJ7 a).2.1 ≠ (TJ7 b).2.1 := by decide +kernel
theorem tyJ7_ok : ∀ k, k < 0 → parseFieldDescriptor (TJ7 k).2.2.1 = some (tyJ7 k) := by decide +kernel
abbrev cJ7_fill_53178 : ByteArray := prog_24_method_103_code
def yJ7_fill_53178 : MethodName := ⟨RJ7, "fill", "([II)V"⟩
abbrev cJ7_copyOf_1904c : ByteArray := prog_24_method_119_code
def yJ7_copyOf_1904c : MethodName := ⟨RJ7, "copyOf", "([Ljava/lang/Object;I)[Ljava/lang/Object;"⟩
abbrev cJ7_copyOf_6403c : ByteArray := prog_24_method_120_code
def yJ7_copyOf_6403c : MethodName := ⟨RJ7, "copyOf", "([Ljava/lang/Object;ILjava/lang/Class;)[Ljava/lang/Object;"⟩
def RJx5ef63 : String := "java/util/Collection"
def TJx5ef63 : u_T := fun k => match k with
  | _ => ("", "", "", false)
def tyJx5ef63 : Nat → FieldType := fun k => match k with
  | _ => .int
theorem nmJx5ef63 : ∀ a, a < 0 → ∀ b, b < 0 → a ≠ b → (TJx5ef63 a).2.1 ≠ (TJx5ef63 b).2.1 := by decide +kernel
theorem tyJx5ef63_ok : ∀ k, k < 0 → parseFieldDescriptor (TJx5ef63 k).2.2.1 = some (tyJx5ef63 k) := by decide +kernel
def RJxbd725 : String := "java/util/List"
def TJxbd725 : u_T := fun k => match k with
  | _ => ("", "", "", false)
def tyJxbd725 : Nat → FieldType := fun k => match k with
  | _ => .int
theorem nmJxbd725 : ∀ a, a < 0 → ∀ b, b < 0 → a ≠ b → (TJxbd725 a).2.1 ≠ (TJxbd725 b).2.1 := by decide +kernel
theorem tyJxbd725_ok : ∀ k, k < 0 → parseFieldDescriptor (TJxbd725 k).2.2.1 = some (tyJxbd725 k) := by decide +kernel
def RJ15 : String := "java/util/Objects"
def TJ15 : u_T := fun k => match k with
  | _ => ("", "", "", false)
def tyJ15 : Nat → FieldType := fun k => match k with
  | _ => .int
theorem nmJ15 : ∀ a, a < 0 → ∀ b, b < 0 → a ≠ b → (TJ15 a).2.1 ≠ (TJ15 b).2.1 := by decide +kernel
theorem tyJ15_ok : ∀ k, k < 0 → parseFieldDescriptor (TJ15 k).2.2.1 = some (tyJ15 k) := by decide +kernel
abbrev cJ15_checkIndex_7cf53 : ByteArray := prog_28_method_17_code
def yJ15_checkIndex_7cf53 : MethodName := ⟨RJ15, "checkIndex", "(II)I"⟩
def RJxf0a74 : String := "java/util/RandomAccess"
def TJxf0a74 : u_T := fun k => match k with
  | _ => ("", "", "", false)
def tyJxf0a74 : Nat → FieldType := fun k => match k with
  | _ => .int
theorem nmJxf0a74 : ∀ a, a < 0 → ∀ b, b < 0 → a ≠ b → (TJxf0a74 a).2.1 ≠ (TJxf0a74 b).2.1 := by decide +kernel
theorem tyJxf0a74_ok : ∀ k, k < 0 → parseFieldDescriptor (TJxf0a74 k).2.2.1 = some (tyJxf0a74 k) := by decide +kernel
def RJxa66e6 : String := "java/util/SequencedCollection"
def TJxa66e6 : u_T := fun k => match k with
  | _ => ("", "", "", false)
def tyJxa66e6 : Nat → FieldType := fun k => match k with
  | _ => .int
theorem nmJxa66e6 : ∀ a, a < 0 → ∀ b, b < 0 → a ≠ b → (TJxa66e6 a).2.1 ≠ (TJxa66e6 b).2.1 := by decide +kernel
theorem tyJxa66e6_ok : ∀ k, k < 0 → parseFieldDescriptor (TJxa66e6 k).2.2.1 = some (tyJxa66e6 k) := by decide +kernel
def RJ8 : String := "jdk/internal/util/ArraysSupport"
def TJ8 : u_T := fun k => match k with
  | _ => ("", "", "", false)
def tyJ8 : Nat → FieldType := fun k => match k with
  | _ => .int
theorem nmJ8 : ∀ a, a < 0 → ∀ b, b < 0 → a ≠ b → (TJ8 a).2.1 ≠ (TJ8 b).2.1 := by decide +kernel
theorem tyJ8_ok : ∀ k, k < 0 → parseFieldDescriptor (TJ8 k).2.2.1 = some (tyJ8 k) := by decide +kernel
abbrev cJ8_newLength_cabcc : ByteArray := prog_31_method_27_code
def yJ8_newLength_cabcc : MethodName := ⟨RJ8, "newLength", "(III)I"⟩
abbrev cJ8_hugeLength_7cf53 : ByteArray := prog_31_method_28_code
def yJ8_hugeLength_7cf53 : MethodName := ⟨RJ8, "hugeLength", "(II)I"⟩
def RJ3 : String := "jdk/internal/util/Preconditions"
def TJ3 : u_T := fun k => match k with
  | _ => ("", "", "", false)
def tyJ3 : Nat → FieldType := fun k => match k with
  | _ => .int
theorem nmJ3 : ∀ a, a < 0 → ∀ b, b < 0 → a ≠ b → (TJ3 a).2.1 ≠ (TJ3 b).2.1 := by decide +kernel
theorem tyJ3_ok : ∀ k, k < 0 → parseFieldDescriptor (TJ3 k).2.2.1 = some (tyJ3 k) := by decide +kernel
abbrev cJ3_checkIndex_8e157 : ByteArray := prog_32_method_11_code
def yJ3_checkIndex_8e157 : MethodName := ⟨RJ3, "checkIndex", "(IILjava/util/function/BiFunction;)I"⟩
def RL : String := "DyeRingLaw"
abbrev cL_cell : ByteArray := method_2_code
def yL_cell : MethodName := ⟨RL, "cell", "([II)I"⟩
abbrev cL_some : ByteArray := method_3_code
def yL_some : MethodName := ⟨RL, "some", "(II)I"⟩
abbrev cL_apart : ByteArray := method_4_code
def yL_apart : MethodName := ⟨RL, "apart", "(II)I"⟩
abbrev cL_off : ByteArray := method_5_code
def yL_off : MethodName := ⟨RL, "off", "([IIII)I"⟩
abbrev cL_given : ByteArray := method_6_code
def yL_given : MethodName := ⟨RL, "given", "([I[I[IIII)I"⟩
abbrev cL_offBy : ByteArray := method_7_code
def yL_offBy : MethodName := ⟨RL, "offBy", "([I[I[III)I"⟩
abbrev cL_dyes : ByteArray := method_8_code
def yL_dyes : MethodName := ⟨RL, "dyes", "([I[I[I[I[IIII)V"⟩
abbrev cL_position : ByteArray := method_9_code
def yL_position : MethodName := ⟨RL, "position", "([III)I"⟩
abbrev cL_entries : ByteArray := method_10_code
def yL_entries : MethodName := ⟨RL, "entries", "(LDyeRing;III)I"⟩
abbrev cL_yarns : ByteArray := method_11_code
def yL_yarns : MethodName := ⟨RL, "yarns", "(LDyeRing;III)I"⟩
abbrev cL_two : ByteArray := method_12_code
def yL_two : MethodName := ⟨RL, "two", "(LDyeRing;III)I"⟩
abbrev cL_orders : ByteArray := method_13_code
def yL_orders : MethodName := ⟨RL, "orders", "(LDyeRing;III)I"⟩
abbrev cL_pieces : ByteArray := method_14_code
def yL_pieces : MethodName := ⟨RL, "pieces", "(LDyeRing;III)I"⟩
abbrev cL_gives : ByteArray := method_15_code
def yL_gives : MethodName := ⟨RL, "gives", "(LDyeRing;IIII)I"⟩
abbrev cL_one : ByteArray := method_16_code
def yL_one : MethodName := ⟨RL, "one", "(LDyeRing;II)I"⟩
abbrev cL_debt : ByteArray := method_17_code
def yL_debt : MethodName := ⟨RL, "debt", "(LDyeRing;IIII)I"⟩
abbrev cL_sets : ByteArray := method_18_code
def yL_sets : MethodName := ⟨RL, "sets", "(LDyeRing;II[I[I[I[I[I)Z"⟩
abbrev cL_goes : ByteArray := method_19_code
def yL_goes : MethodName := ⟨RL, "goes", "(LDyeRing;II[I[I[I[I[I[I[I[I)Z"⟩
abbrev cL_cloth : ByteArray := method_20_code
def yL_cloth : MethodName := ⟨RL, "cloth", "(LDyeRing;II[I[I)Z"⟩
abbrev cL_asks : ByteArray := method_21_code
def yL_asks : MethodName := ⟨RL, "asks", "(LDyeRing;I[I[I[I[I[I[I[I[I)Z"⟩
abbrev cL_law : ByteArray := code
def yL_law : MethodName := ⟨RL, "law", "([I)Z"⟩
theorem dX0_init_0 : decode cX0_init 0 = .ok (.aload_n 0, 1) := by decide +kernel
theorem dX0_init_1 : decode cX0_init 1 = .ok (.invokespecial 3, 3) := by decide +kernel
theorem dX0_init_4 : decode cX0_init 4 = .ok (.aload_n 0, 1) := by decide +kernel
theorem dX0_init_5 : decode cX0_init 5 = .ok (.bipush 100, 2) := by decide +kernel
theorem dX0_init_7 : decode cX0_init 7 = .ok (.putfield 9, 3) := by decide +kernel
theorem dX0_init_10 : decode cX0_init 10 = .ok (.aload_n 0, 1) := by decide +kernel
theorem dX0_init_11 : decode cX0_init 11 = .ok (.new 15, 3) := by decide +kernel
theorem dX0_init_14 : decode cX0_init 14 = .ok (.dup, 1) := by decide +kernel
theorem dX0_init_15 : decode cX0_init 15 = .ok (.invokespecial 17, 3) := by decide +kernel
theorem dX0_init_18 : decode cX0_init 18 = .ok (.putfield 18, 3) := by decide +kernel
theorem dX0_init_21 : decode cX0_init 21 = .ok (.aload_n 0, 1) := by decide +kernel
theorem dX0_init_22 : decode cX0_init 22 = .ok (.iload_n 1, 1) := by decide +kernel
theorem dX0_init_23 : decode cX0_init 23 = .ok (.putfield 22, 3) := by decide +kernel
theorem dX0_init_26 : decode cX0_init 26 = .ok (.aload_n 0, 1) := by decide +kernel
theorem dX0_init_27 : decode cX0_init 27 = .ok (.aload_n 2, 1) := by decide +kernel
theorem dX0_init_28 : decode cX0_init 28 = .ok (.putfield 25, 3) := by decide +kernel
theorem dX0_init_31 : decode cX0_init 31 = .ok (.return_, 1) := by decide +kernel
theorem dX0_isFor_0 : decode cX0_isFor 0 = .ok (.aload_n 0, 1) := by decide +kernel
theorem dX0_isFor_1 : decode cX0_isFor 1 = .ok (.getfield 25, 3) := by decide +kernel
theorem dX0_isFor_4 : decode cX0_isFor 4 = .ok (.getfield 29, 3) := by decide +kernel
theorem dX0_isFor_7 : decode cX0_isFor 7 = .ok (.aload_n 1, 1) := by decide +kernel
theorem dX0_isFor_8 : decode cX0_isFor 8 = .ok (.getfield 29, 3) := by decide +kernel
theorem dX0_isFor_11 : decode cX0_isFor 11 = .ok (.if_icmp .ne 7, 3) := by decide +kernel
theorem dX0_isFor_14 : decode cX0_isFor 14 = .ok (.iconst 1, 1) := by decide +kernel
theorem dX0_isFor_15 : decode cX0_isFor 15 = .ok (.goto 4, 3) := by decide +kernel
theorem dX0_isFor_18 : decode cX0_isFor 18 = .ok (.iconst 0, 1) := by decide +kernel
theorem dX0_isFor_19 : decode cX0_isFor 19 = .ok (.ireturn, 1) := by decide +kernel
theorem dX0_renew_0 : decode cX0_renew 0 = .ok (.aload_n 0, 1) := by decide +kernel
theorem dX0_renew_1 : decode cX0_renew 1 = .ok (.getfield 9, 3) := by decide +kernel
theorem dX0_renew_4 : decode cX0_renew 4 = .ok (.istore_n 1, 1) := by decide +kernel
theorem dX0_renew_5 : decode cX0_renew 5 = .ok (.aload_n 0, 1) := by decide +kernel
theorem dX0_renew_6 : decode cX0_renew 6 = .ok (.bipush 100, 2) := by decide +kernel
theorem dX0_renew_8 : decode cX0_renew 8 = .ok (.putfield 9, 3) := by decide +kernel
theorem dX0_renew_11 : decode cX0_renew 11 = .ok (.aload_n 0, 1) := by decide +kernel
theorem dX0_renew_12 : decode cX0_renew 12 = .ok (.iconst 1, 1) := by decide +kernel
theorem dX0_renew_13 : decode cX0_renew 13 = .ok (.putfield 34, 3) := by decide +kernel
theorem dX0_renew_16 : decode cX0_renew 16 = .ok (.iload_n 1, 1) := by decide +kernel
theorem dX0_renew_17 : decode cX0_renew 17 = .ok (.ireturn, 1) := by decide +kernel
theorem dX0_take_0 : decode cX0_take 0 = .ok (.aload_n 0, 1) := by decide +kernel
theorem dX0_take_1 : decode cX0_take 1 = .ok (.getfield 18, 3) := by decide +kernel
theorem dX0_take_4 : decode cX0_take 4 = .ok (.aload_n 1, 1) := by decide +kernel
theorem dX0_take_5 : decode cX0_take 5 = .ok (.invokevirtual 38, 3) := by decide +kernel
theorem dX0_take_8 : decode cX0_take 8 = .ok (.pop, 1) := by decide +kernel
theorem dX0_take_9 : decode cX0_take 9 = .ok (.aload_n 0, 1) := by decide +kernel
theorem dX0_take_10 : decode cX0_take 10 = .ok (.aload_n 0, 1) := by decide +kernel
theorem dX0_take_11 : decode cX0_take 11 = .ok (.getfield 9, 3) := by decide +kernel
theorem dX0_take_14 : decode cX0_take 14 = .ok (.aload_n 1, 1) := by decide +kernel
theorem dX0_take_15 : decode cX0_take 15 = .ok (.getfield 42, 3) := by decide +kernel
theorem dX0_take_18 : decode cX0_take 18 = .ok (.invokestatic 47, 3) := by decide +kernel
theorem dX0_take_21 : decode cX0_take 21 = .ok (.putfield 9, 3) := by decide +kernel
theorem dX0_take_24 : decode cX0_take 24 = .ok (.aload_n 0, 1) := by decide +kernel
theorem dX0_take_25 : decode cX0_take 25 = .ok (.iconst 0, 1) := by decide +kernel
theorem dX0_take_26 : decode cX0_take 26 = .ok (.putfield 34, 3) := by decide +kernel
theorem dX0_take_29 : decode cX0_take 29 = .ok (.return_, 1) := by decide +kernel
theorem dX0_followedTo_0 : decode cX0_followedTo 0 = .ok (.bipush 100, 2) := by decide +kernel
theorem dX0_followedTo_2 : decode cX0_followedTo 2 = .ok (.istore_n 2, 1) := by decide +kernel
theorem dX0_followedTo_3 : decode cX0_followedTo 3 = .ok (.iconst 0, 1) := by decide +kernel
theorem dX0_followedTo_4 : decode cX0_followedTo 4 = .ok (.istore_n 3, 1) := by decide +kernel
theorem dX0_followedTo_5 : decode cX0_followedTo 5 = .ok (.iload_n 3, 1) := by decide +kernel
theorem dX0_followedTo_6 : decode cX0_followedTo 6 = .ok (.aload_n 0, 1) := by decide +kernel
theorem dX0_followedTo_7 : decode cX0_followedTo 7 = .ok (.getfield 18, 3) := by decide +kernel
theorem dX0_followedTo_10 : decode cX0_followedTo 10 = .ok (.invokevirtual 51, 3) := by decide +kernel
theorem dX0_followedTo_13 : decode cX0_followedTo 13 = .ok (.if_icmp .ge 54, 3) := by decide +kernel
theorem dX0_followedTo_16 : decode cX0_followedTo 16 = .ok (.aload_n 0, 1) := by decide +kernel
theorem dX0_followedTo_17 : decode cX0_followedTo 17 = .ok (.getfield 18, 3) := by decide +kernel
theorem dX0_followedTo_20 : decode cX0_followedTo 20 = .ok (.iload_n 3, 1) := by decide +kernel
theorem dX0_followedTo_21 : decode cX0_followedTo 21 = .ok (.invokevirtual 55, 3) := by decide +kernel
theorem dX0_followedTo_24 : decode cX0_followedTo 24 = .ok (.checkcast 43, 3) := by decide +kernel
theorem dX0_followedTo_27 : decode cX0_followedTo 27 = .ok (.astore 4, 2) := by decide +kernel
theorem dX0_followedTo_29 : decode cX0_followedTo 29 = .ok (.aload 4, 2) := by decide +kernel
theorem dX0_followedTo_31 : decode cX0_followedTo 31 = .ok (.getfield 59, 3) := by decide +kernel
theorem dX0_followedTo_34 : decode cX0_followedTo 34 = .ok (.ifCond .eq 6, 3) := by decide +kernel
theorem dX0_followedTo_37 : decode cX0_followedTo 37 = .ok (.bipush 100, 2) := by decide +kernel
theorem dX0_followedTo_39 : decode cX0_followedTo 39 = .ok (.istore_n 2, 1) := by decide +kernel
theorem dX0_followedTo_40 : decode cX0_followedTo 40 = .ok (.aload 4, 2) := by decide +kernel
theorem dX0_followedTo_42 : decode cX0_followedTo 42 = .ok (.getfield 62, 3) := by decide +kernel
theorem dX0_followedTo_45 : decode cX0_followedTo 45 = .ok (.iload_n 1, 1) := by decide +kernel
theorem dX0_followedTo_46 : decode cX0_followedTo 46 = .ok (.if_icmp .ne 5, 3) := by decide +kernel
theorem dX0_followedTo_49 : decode cX0_followedTo 49 = .ok (.iload_n 2, 1) := by decide +kernel
theorem dX0_followedTo_50 : decode cX0_followedTo 50 = .ok (.ireturn, 1) := by decide +kernel
theorem dX0_followedTo_51 : decode cX0_followedTo 51 = .ok (.iload_n 2, 1) := by decide +kernel
theorem dX0_followedTo_52 : decode cX0_followedTo 52 = .ok (.aload 4, 2) := by decide +kernel
theorem dX0_followedTo_54 : decode cX0_followedTo 54 = .ok (.getfield 42, 3) := by decide +kernel
theorem dX0_followedTo_57 : decode cX0_followedTo 57 = .ok (.invokestatic 47, 3) := by decide +kernel
theorem dX0_followedTo_60 : decode cX0_followedTo 60 = .ok (.istore_n 2, 1) := by decide +kernel
theorem dX0_followedTo_61 : decode cX0_followedTo 61 = .ok (.iinc 3 1, 3) := by decide +kernel
theorem dX0_followedTo_64 : decode cX0_followedTo 64 = .ok (.goto (-59), 3) := by decide +kernel
theorem dX0_followedTo_67 : decode cX0_followedTo 67 = .ok (.iload_n 2, 1) := by decide +kernel
theorem dX0_followedTo_68 : decode cX0_followedTo 68 = .ok (.ireturn, 1) := by decide +kernel
theorem dX1_init_0 : decode cX1_init 0 = .ok (.aload_n 0, 1) := by decide +kernel
theorem dX1_init_1 : decode cX1_init 1 = .ok (.invokespecial 3, 3) := by decide +kernel
theorem dX1_init_4 : decode cX1_init 4 = .ok (.aload_n 0, 1) := by decide +kernel
theorem dX1_init_5 : decode cX1_init 5 = .ok (.iconst 5, 1) := by decide +kernel
theorem dX1_init_6 : decode cX1_init 6 = .ok (.iconst 5, 1) := by decide +kernel
theorem dX1_init_7 : decode cX1_init 7 = .ok (.multianewarray 9 2, 4) := by decide +kernel
theorem dX1_init_11 : decode cX1_init 11 = .ok (.putfield 11, 3) := by decide +kernel
theorem dX1_init_14 : decode cX1_init 14 = .ok (.aload_n 0, 1) := by decide +kernel
theorem dX1_init_15 : decode cX1_init 15 = .ok (.iconst 5, 1) := by decide +kernel
theorem dX1_init_16 : decode cX1_init 16 = .ok (.newarray .int, 2) := by decide +kernel
theorem dX1_init_18 : decode cX1_init 18 = .ok (.putfield 16, 3) := by decide +kernel
theorem dX1_init_21 : decode cX1_init 21 = .ok (.return_, 1) := by decide +kernel
theorem dX1_shrunk_0 : decode cX1_shrunk 0 = .ok (.iload_n 1, 1) := by decide +kernel
theorem dX1_shrunk_1 : decode cX1_shrunk 1 = .ok (.aload_n 0, 1) := by decide +kernel
theorem dX1_shrunk_2 : decode cX1_shrunk 2 = .ok (.getfield 20, 3) := by decide +kernel
theorem dX1_shrunk_5 : decode cX1_shrunk 5 = .ok (.imul, 1) := by decide +kernel
theorem dX1_shrunk_6 : decode cX1_shrunk 6 = .ok (.bipush 99, 2) := by decide +kernel
theorem dX1_shrunk_8 : decode cX1_shrunk 8 = .ok (.iadd, 1) := by decide +kernel
theorem dX1_shrunk_9 : decode cX1_shrunk 9 = .ok (.bipush 100, 2) := by decide +kernel
theorem dX1_shrunk_11 : decode cX1_shrunk 11 = .ok (.idiv, 1) := by decide +kernel
theorem dX1_shrunk_12 : decode cX1_shrunk 12 = .ok (.istore_n 2, 1) := by decide +kernel
theorem dX1_shrunk_13 : decode cX1_shrunk 13 = .ok (.iload_n 1, 1) := by decide +kernel
theorem dX1_shrunk_14 : decode cX1_shrunk 14 = .ok (.iload_n 2, 1) := by decide +kernel
theorem dX1_shrunk_15 : decode cX1_shrunk 15 = .ok (.isub, 1) := by decide +kernel
theorem dX1_shrunk_16 : decode cX1_shrunk 16 = .ok (.ireturn, 1) := by decide +kernel
theorem dX1_balanceOf_0 : decode cX1_balanceOf 0 = .ok (.iconst 0, 1) := by decide +kernel
theorem dX1_balanceOf_1 : decode cX1_balanceOf 1 = .ok (.istore_n 2, 1) := by decide +kernel
theorem dX1_balanceOf_2 : decode cX1_balanceOf 2 = .ok (.iconst 0, 1) := by decide +kernel
theorem dX1_balanceOf_3 : decode cX1_balanceOf 3 = .ok (.istore_n 3, 1) := by decide +kernel
theorem dX1_balanceOf_4 : decode cX1_balanceOf 4 = .ok (.iload_n 3, 1) := by decide +kernel
theorem dX1_balanceOf_5 : decode cX1_balanceOf 5 = .ok (.iconst 5, 1) := by decide +kernel
theorem dX1_balanceOf_6 : decode cX1_balanceOf 6 = .ok (.if_icmp .ge 29, 3) := by decide +kernel
theorem dX1_balanceOf_9 : decode cX1_balanceOf 9 = .ok (.iload_n 2, 1) := by decide +kernel
theorem dX1_balanceOf_10 : decode cX1_balanceOf 10 = .ok (.aload_n 0, 1) := by decide +kernel
theorem dX1_balanceOf_11 : decode cX1_balanceOf 11 = .ok (.getfield 11, 3) := by decide +kernel
theorem dX1_balanceOf_14 : decode cX1_balanceOf 14 = .ok (.iload_n 3, 1) := by decide +kernel
theorem dX1_balanceOf_15 : decode cX1_balanceOf 15 = .ok (.aaload, 1) := by decide +kernel
theorem dX1_balanceOf_16 : decode cX1_balanceOf 16 = .ok (.iload_n 1, 1) := by decide +kernel
theorem dX1_balanceOf_17 : decode cX1_balanceOf 17 = .ok (.iaload, 1) := by decide +kernel
theorem dX1_balanceOf_18 : decode cX1_balanceOf 18 = .ok (.aload_n 0, 1) := by decide +kernel
theorem dX1_balanceOf_19 : decode cX1_balanceOf 19 = .ok (.getfield 11, 3) := by decide +kernel
theorem dX1_balanceOf_22 : decode cX1_balanceOf 22 = .ok (.iload_n 1, 1) := by decide +kernel
theorem dX1_balanceOf_23 : decode cX1_balanceOf 23 = .ok (.aaload, 1) := by decide +kernel
theorem dX1_balanceOf_24 : decode cX1_balanceOf 24 = .ok (.iload_n 3, 1) := by decide +kernel
theorem dX1_balanceOf_25 : decode cX1_balanceOf 25 = .ok (.iaload, 1) := by decide +kernel
theorem dX1_balanceOf_26 : decode cX1_balanceOf 26 = .ok (.isub, 1) := by decide +kernel
theorem dX1_balanceOf_27 : decode cX1_balanceOf 27 = .ok (.iadd, 1) := by decide +kernel
theorem dX1_balanceOf_28 : decode cX1_balanceOf 28 = .ok (.istore_n 2, 1) := by decide +kernel
theorem dX1_balanceOf_29 : decode cX1_balanceOf 29 = .ok (.iinc 3 1, 3) := by decide +kernel
theorem dX1_balanceOf_32 : decode cX1_balanceOf 32 = .ok (.goto (-28), 3) := by decide +kernel
theorem dX1_balanceOf_35 : decode cX1_balanceOf 35 = .ok (.iload_n 2, 1) := by decide +kernel
theorem dX1_balanceOf_36 : decode cX1_balanceOf 36 = .ok (.ireturn, 1) := by decide +kernel
theorem dX1_settle_0 : decode cX1_settle 0 = .ok (.iconst 0, 1) := by decide +kernel
theorem dX1_settle_1 : decode cX1_settle 1 = .ok (.istore_n 1, 1) := by decide +kernel
theorem dX1_settle_2 : decode cX1_settle 2 = .ok (.iload_n 1, 1) := by decide +kernel
theorem dX1_settle_3 : decode cX1_settle 3 = .ok (.iconst 5, 1) := by decide +kernel
theorem dX1_settle_4 : decode cX1_settle 4 = .ok (.if_icmp .ge 20, 3) := by decide +kernel
theorem dX1_settle_7 : decode cX1_settle 7 = .ok (.aload_n 0, 1) := by decide +kernel
theorem dX1_settle_8 : decode cX1_settle 8 = .ok (.getfield 16, 3) := by decide +kernel
theorem dX1_settle_11 : decode cX1_settle 11 = .ok (.iload_n 1, 1) := by decide +kernel
theorem dX1_settle_12 : decode cX1_settle 12 = .ok (.aload_n 0, 1) := by decide +kernel
theorem dX1_settle_13 : decode cX1_settle 13 = .ok (.iload_n 1, 1) := by decide +kernel
theorem dX1_settle_14 : decode cX1_settle 14 = .ok (.invokevirtual 24, 3) := by decide +kernel
theorem dX1_settle_17 : decode cX1_settle 17 = .ok (.iastore, 1) := by decide +kernel
theorem dX1_settle_18 : decode cX1_settle 18 = .ok (.iinc 1 1, 3) := by decide +kernel
theorem dX1_settle_21 : decode cX1_settle 21 = .ok (.goto (-19), 3) := by decide +kernel
theorem dX1_settle_24 : decode cX1_settle 24 = .ok (.iconst 0, 1) := by decide +kernel
theorem dX1_settle_25 : decode cX1_settle 25 = .ok (.istore_n 1, 1) := by decide +kernel
theorem dX1_settle_26 : decode cX1_settle 26 = .ok (.iload_n 1, 1) := by decide +kernel
theorem dX1_settle_27 : decode cX1_settle 27 = .ok (.iconst 5, 1) := by decide +kernel
theorem dX1_settle_28 : decode cX1_settle 28 = .ok (.if_icmp .ge 19, 3) := by decide +kernel
theorem dX1_settle_31 : decode cX1_settle 31 = .ok (.aload_n 0, 1) := by decide +kernel
theorem dX1_settle_32 : decode cX1_settle 32 = .ok (.getfield 11, 3) := by decide +kernel
theorem dX1_settle_35 : decode cX1_settle 35 = .ok (.iload_n 1, 1) := by decide +kernel
theorem dX1_settle_36 : decode cX1_settle 36 = .ok (.aaload, 1) := by decide +kernel
theorem dX1_settle_37 : decode cX1_settle 37 = .ok (.iconst 0, 1) := by decide +kernel
theorem dX1_settle_38 : decode cX1_settle 38 = .ok (.invokestatic 28, 3) := by decide +kernel
theorem dX1_settle_41 : decode cX1_settle 41 = .ok (.iinc 1 1, 3) := by decide +kernel
theorem dX1_settle_44 : decode cX1_settle 44 = .ok (.goto (-18), 3) := by decide +kernel
theorem dX1_settle_47 : decode cX1_settle 47 = .ok (.iconst 0, 1) := by decide +kernel
theorem dX1_settle_48 : decode cX1_settle 48 = .ok (.istore_n 1, 1) := by decide +kernel
theorem dX1_settle_49 : decode cX1_settle 49 = .ok (.iload_n 1, 1) := by decide +kernel
theorem dX1_settle_50 : decode cX1_settle 50 = .ok (.iconst 5, 1) := by decide +kernel
theorem dX1_settle_51 : decode cX1_settle 51 = .ok (.if_icmp .ge 16, 3) := by decide +kernel
theorem dX1_settle_54 : decode cX1_settle 54 = .ok (.aload_n 0, 1) := by decide +kernel
theorem dX1_settle_55 : decode cX1_settle 55 = .ok (.invokevirtual 34, 3) := by decide +kernel
theorem dX1_settle_58 : decode cX1_settle 58 = .ok (.ifCond .eq 9, 3) := by decide +kernel
theorem dX1_settle_61 : decode cX1_settle 61 = .ok (.iinc 1 1, 3) := by decide +kernel
theorem dX1_settle_64 : decode cX1_settle 64 = .ok (.goto (-15), 3) := by decide +kernel
theorem dX1_settle_67 : decode cX1_settle 67 = .ok (.iload_n 1, 1) := by decide +kernel
theorem dX1_settle_68 : decode cX1_settle 68 = .ok (.ireturn, 1) := by decide +kernel
theorem dX1_settleLowest_0 : decode cX1_settleLowest 0 = .ok (.aload_n 0, 1) := by decide +kernel
theorem dX1_settleLowest_1 : decode cX1_settleLowest 1 = .ok (.iconst (-1), 1) := by decide +kernel
theorem dX1_settleLowest_2 : decode cX1_settleLowest 2 = .ok (.invokevirtual 38, 3) := by decide +kernel
theorem dX1_settleLowest_5 : decode cX1_settleLowest 5 = .ok (.istore_n 1, 1) := by decide +kernel
theorem dX1_settleLowest_6 : decode cX1_settleLowest 6 = .ok (.aload_n 0, 1) := by decide +kernel
theorem dX1_settleLowest_7 : decode cX1_settleLowest 7 = .ok (.iconst 1, 1) := by decide +kernel
theorem dX1_settleLowest_8 : decode cX1_settleLowest 8 = .ok (.invokevirtual 38, 3) := by decide +kernel
theorem dX1_settleLowest_11 : decode cX1_settleLowest 11 = .ok (.istore_n 2, 1) := by decide +kernel
theorem dX1_settleLowest_12 : decode cX1_settleLowest 12 = .ok (.iload_n 1, 1) := by decide +kernel
theorem dX1_settleLowest_13 : decode cX1_settleLowest 13 = .ok (.iconst (-1), 1) := by decide +kernel
theorem dX1_settleLowest_14 : decode cX1_settleLowest 14 = .ok (.if_icmp .eq 8, 3) := by decide +kernel
theorem dX1_settleLowest_17 : decode cX1_settleLowest 17 = .ok (.iload_n 2, 1) := by decide +kernel
theorem dX1_settleLowest_18 : decode cX1_settleLowest 18 = .ok (.iconst (-1), 1) := by decide +kernel
theorem dX1_settleLowest_19 : decode cX1_settleLowest 19 = .ok (.if_icmp .ne 5, 3) := by decide +kernel
theorem dX1_settleLowest_22 : decode cX1_settleLowest 22 = .ok (.iconst 0, 1) := by decide +kernel
theorem dX1_settleLowest_23 : decode cX1_settleLowest 23 = .ok (.ireturn, 1) := by decide +kernel
theorem dX1_settleLowest_24 : decode cX1_settleLowest 24 = .ok (.aload_n 0, 1) := by decide +kernel
theorem dX1_settleLowest_25 : decode cX1_settleLowest 25 = .ok (.getfield 16, 3) := by decide +kernel
theorem dX1_settleLowest_28 : decode cX1_settleLowest 28 = .ok (.iload_n 1, 1) := by decide +kernel
theorem dX1_settleLowest_29 : decode cX1_settleLowest 29 = .ok (.iaload, 1) := by decide +kernel
theorem dX1_settleLowest_30 : decode cX1_settleLowest 30 = .ok (.ineg, 1) := by decide +kernel
theorem dX1_settleLowest_31 : decode cX1_settleLowest 31 = .ok (.aload_n 0, 1) := by decide +kernel
theorem dX1_settleLowest_32 : decode cX1_settleLowest 32 = .ok (.getfield 16, 3) := by decide +kernel
theorem dX1_settleLowest_35 : decode cX1_settleLowest 35 = .ok (.iload_n 2, 1) := by decide +kernel
theorem dX1_settleLowest_36 : decode cX1_settleLowest 36 = .ok (.iaload, 1) := by decide +kernel
theorem dX1_settleLowest_37 : decode cX1_settleLowest 37 = .ok (.invokestatic 41, 3) := by decide +kernel
theorem dX1_settleLowest_40 : decode cX1_settleLowest 40 = .ok (.istore_n 3, 1) := by decide +kernel
theorem dX1_settleLowest_41 : decode cX1_settleLowest 41 = .ok (.aload_n 0, 1) := by decide +kernel
theorem dX1_settleLowest_42 : decode cX1_settleLowest 42 = .ok (.getfield 11, 3) := by decide +kernel
theorem dX1_settleLowest_45 : decode cX1_settleLowest 45 = .ok (.iload_n 1, 1) := by decide +kernel
theorem dX1_settleLowest_46 : decode cX1_settleLowest 46 = .ok (.aaload, 1) := by decide +kernel
theorem dX1_settleLowest_47 : decode cX1_settleLowest 47 = .ok (.iload_n 2, 1) := by decide +kernel
theorem dX1_settleLowest_48 : decode cX1_settleLowest 48 = .ok (.iload_n 3, 1) := by decide +kernel
theorem dX1_settleLowest_49 : decode cX1_settleLowest 49 = .ok (.iastore, 1) := by decide +kernel
theorem dX1_settleLowest_50 : decode cX1_settleLowest 50 = .ok (.aload_n 0, 1) := by decide +kernel
theorem dX1_settleLowest_51 : decode cX1_settleLowest 51 = .ok (.getfield 16, 3) := by decide +kernel
theorem dX1_settleLowest_54 : decode cX1_settleLowest 54 = .ok (.iload_n 1, 1) := by decide +kernel
theorem dX1_settleLowest_55 : decode cX1_settleLowest 55 = .ok (.dup2, 1) := by decide +kernel
theorem dX1_settleLowest_56 : decode cX1_settleLowest 56 = .ok (.iaload, 1) := by decide +kernel
theorem dX1_settleLowest_57 : decode cX1_settleLowest 57 = .ok (.iload_n 3, 1) := by decide +kernel
theorem dX1_settleLowest_58 : decode cX1_settleLowest 58 = .ok (.iadd, 1) := by decide +kernel
theorem dX1_settleLowest_59 : decode cX1_settleLowest 59 = .ok (.iastore, 1) := by decide +kernel
theorem dX1_settleLowest_60 : decode cX1_settleLowest 60 = .ok (.aload_n 0, 1) := by decide +kernel
theorem dX1_settleLowest_61 : decode cX1_settleLowest 61 = .ok (.getfield 16, 3) := by decide +kernel
theorem dX1_settleLowest_64 : decode cX1_settleLowest 64 = .ok (.iload_n 2, 1) := by decide +kernel
theorem dX1_settleLowest_65 : decode cX1_settleLowest 65 = .ok (.dup2, 1) := by decide +kernel
theorem dX1_settleLowest_66 : decode cX1_settleLowest 66 = .ok (.iaload, 1) := by decide +kernel
theorem dX1_settleLowest_67 : decode cX1_settleLowest 67 = .ok (.iload_n 3, 1) := by decide +kernel
theorem dX1_settleLowest_68 : decode cX1_settleLowest 68 = .ok (.isub, 1) := by decide +kernel
theorem dX1_settleLowest_69 : decode cX1_settleLowest 69 = .ok (.iastore, 1) := by decide +kernel
theorem dX1_settleLowest_70 : decode cX1_settleLowest 70 = .ok (.iconst 1, 1) := by decide +kernel
theorem dX1_settleLowest_71 : decode cX1_settleLowest 71 = .ok (.ireturn, 1) := by decide +kernel
theorem dX1_lowest_0 : decode cX1_lowest 0 = .ok (.iconst 0, 1) := by decide +kernel
theorem dX1_lowest_1 : decode cX1_lowest 1 = .ok (.istore_n 2, 1) := by decide +kernel
theorem dX1_lowest_2 : decode cX1_lowest 2 = .ok (.iload_n 2, 1) := by decide +kernel
theorem dX1_lowest_3 : decode cX1_lowest 3 = .ok (.iconst 5, 1) := by decide +kernel
theorem dX1_lowest_4 : decode cX1_lowest 4 = .ok (.if_icmp .ge 22, 3) := by decide +kernel
theorem dX1_lowest_7 : decode cX1_lowest 7 = .ok (.aload_n 0, 1) := by decide +kernel
theorem dX1_lowest_8 : decode cX1_lowest 8 = .ok (.getfield 16, 3) := by decide +kernel
theorem dX1_lowest_11 : decode cX1_lowest 11 = .ok (.iload_n 2, 1) := by decide +kernel
theorem dX1_lowest_12 : decode cX1_lowest 12 = .ok (.iaload, 1) := by decide +kernel
theorem dX1_lowest_13 : decode cX1_lowest 13 = .ok (.iload_n 1, 1) := by decide +kernel
theorem dX1_lowest_14 : decode cX1_lowest 14 = .ok (.imul, 1) := by decide +kernel
theorem dX1_lowest_15 : decode cX1_lowest 15 = .ok (.ifCond .le 5, 3) := by decide +kernel
theorem dX1_lowest_18 : decode cX1_lowest 18 = .ok (.iload_n 2, 1) := by decide +kernel
theorem dX1_lowest_19 : decode cX1_lowest 19 = .ok (.ireturn, 1) := by decide +kernel
theorem dX1_lowest_20 : decode cX1_lowest 20 = .ok (.iinc 2 1, 3) := by decide +kernel
theorem dX1_lowest_23 : decode cX1_lowest 23 = .ok (.goto (-21), 3) := by decide +kernel
theorem dX1_lowest_26 : decode cX1_lowest 26 = .ok (.iconst (-1), 1) := by decide +kernel
theorem dX1_lowest_27 : decode cX1_lowest 27 = .ok (.ireturn, 1) := by decide +kernel
theorem dX2_init_0 : decode cX2_init 0 = .ok (.aload_n 0, 1) := by decide +kernel
theorem dX2_init_1 : decode cX2_init 1 = .ok (.invokespecial 3, 3) := by decide +kernel
theorem dX2_init_4 : decode cX2_init 4 = .ok (.aload_n 0, 1) := by decide +kernel
theorem dX2_init_5 : decode cX2_init 5 = .ok (.iload_n 1, 1) := by decide +kernel
theorem dX2_init_6 : decode cX2_init 6 = .ok (.putfield 9, 3) := by decide +kernel
theorem dX2_init_9 : decode cX2_init 9 = .ok (.aload_n 0, 1) := by decide +kernel
theorem dX2_init_10 : decode cX2_init 10 = .ok (.iload_n 2, 1) := by decide +kernel
theorem dX2_init_11 : decode cX2_init 11 = .ok (.putfield 15, 3) := by decide +kernel
theorem dX2_init_14 : decode cX2_init 14 = .ok (.aload_n 0, 1) := by decide +kernel
theorem dX2_init_15 : decode cX2_init 15 = .ok (.iload_n 3, 1) := by decide +kernel
theorem dX2_init_16 : decode cX2_init 16 = .ok (.putfield 18, 3) := by decide +kernel
theorem dX2_init_19 : decode cX2_init 19 = .ok (.aload_n 0, 1) := by decide +kernel
theorem dX2_init_20 : decode cX2_init 20 = .ok (.iload 4, 2) := by decide +kernel
theorem dX2_init_22 : decode cX2_init 22 = .ok (.putfield 21, 3) := by decide +kernel
theorem dX2_init_25 : decode cX2_init 25 = .ok (.return_, 1) := by decide +kernel
theorem dX2_distanceTo_0 : decode cX2_distanceTo 0 = .ok (.aload_n 0, 1) := by decide +kernel
theorem dX2_distanceTo_1 : decode cX2_distanceTo 1 = .ok (.getfield 15, 3) := by decide +kernel
theorem dX2_distanceTo_4 : decode cX2_distanceTo 4 = .ok (.iload_n 1, 1) := by decide +kernel
theorem dX2_distanceTo_5 : decode cX2_distanceTo 5 = .ok (.isub, 1) := by decide +kernel
theorem dX2_distanceTo_6 : decode cX2_distanceTo 6 = .ok (.invokestatic 24, 3) := by decide +kernel
theorem dX2_distanceTo_9 : decode cX2_distanceTo 9 = .ok (.aload_n 0, 1) := by decide +kernel
theorem dX2_distanceTo_10 : decode cX2_distanceTo 10 = .ok (.getfield 18, 3) := by decide +kernel
theorem dX2_distanceTo_13 : decode cX2_distanceTo 13 = .ok (.iload_n 2, 1) := by decide +kernel
theorem dX2_distanceTo_14 : decode cX2_distanceTo 14 = .ok (.isub, 1) := by decide +kernel
theorem dX2_distanceTo_15 : decode cX2_distanceTo 15 = .ok (.invokestatic 24, 3) := by decide +kernel
theorem dX2_distanceTo_18 : decode cX2_distanceTo 18 = .ok (.iadd, 1) := by decide +kernel
theorem dX2_distanceTo_19 : decode cX2_distanceTo 19 = .ok (.ireturn, 1) := by decide +kernel
theorem dX2_dyedFirst_0 : decode cX2_dyedFirst 0 = .ok (.aload_n 0, 1) := by decide +kernel
theorem dX2_dyedFirst_1 : decode cX2_dyedFirst 1 = .ok (.getfield 15, 3) := by decide +kernel
theorem dX2_dyedFirst_4 : decode cX2_dyedFirst 4 = .ok (.iload_n 1, 1) := by decide +kernel
theorem dX2_dyedFirst_5 : decode cX2_dyedFirst 5 = .ok (.imul, 1) := by decide +kernel
theorem dX2_dyedFirst_6 : decode cX2_dyedFirst 6 = .ok (.bipush 100, 2) := by decide +kernel
theorem dX2_dyedFirst_8 : decode cX2_dyedFirst 8 = .ok (.idiv, 1) := by decide +kernel
theorem dX2_dyedFirst_9 : decode cX2_dyedFirst 9 = .ok (.iload_n 3, 1) := by decide +kernel
theorem dX2_dyedFirst_10 : decode cX2_dyedFirst 10 = .ok (.iadd, 1) := by decide +kernel
theorem dX2_dyedFirst_11 : decode cX2_dyedFirst 11 = .ok (.iload_n 2, 1) := by decide +kernel
theorem dX2_dyedFirst_12 : decode cX2_dyedFirst 12 = .ok (.iadd, 1) := by decide +kernel
theorem dX2_dyedFirst_13 : decode cX2_dyedFirst 13 = .ok (.ireturn, 1) := by decide +kernel
theorem dX2_dyedSecond_0 : decode cX2_dyedSecond 0 = .ok (.aload_n 0, 1) := by decide +kernel
theorem dX2_dyedSecond_1 : decode cX2_dyedSecond 1 = .ok (.getfield 18, 3) := by decide +kernel
theorem dX2_dyedSecond_4 : decode cX2_dyedSecond 4 = .ok (.iload_n 1, 1) := by decide +kernel
theorem dX2_dyedSecond_5 : decode cX2_dyedSecond 5 = .ok (.imul, 1) := by decide +kernel
theorem dX2_dyedSecond_6 : decode cX2_dyedSecond 6 = .ok (.bipush 100, 2) := by decide +kernel
theorem dX2_dyedSecond_8 : decode cX2_dyedSecond 8 = .ok (.idiv, 1) := by decide +kernel
theorem dX2_dyedSecond_9 : decode cX2_dyedSecond 9 = .ok (.iload_n 2, 1) := by decide +kernel
theorem dX2_dyedSecond_10 : decode cX2_dyedSecond 10 = .ok (.iadd, 1) := by decide +kernel
theorem dX2_dyedSecond_11 : decode cX2_dyedSecond 11 = .ok (.ireturn, 1) := by decide +kernel
theorem dX2_distanceOfDyed_0 : decode cX2_distanceOfDyed 0 = .ok (.aload_n 0, 1) := by decide +kernel
theorem dX2_distanceOfDyed_1 : decode cX2_distanceOfDyed 1 = .ok (.aload_n 0, 1) := by decide +kernel
theorem dX2_distanceOfDyed_2 : decode cX2_distanceOfDyed 2 = .ok (.iload_n 1, 1) := by decide +kernel
theorem dX2_distanceOfDyed_3 : decode cX2_distanceOfDyed 3 = .ok (.iload_n 2, 1) := by decide +kernel
theorem dX2_distanceOfDyed_4 : decode cX2_distanceOfDyed 4 = .ok (.iload_n 3, 1) := by decide +kernel
theorem dX2_distanceOfDyed_5 : decode cX2_distanceOfDyed 5 = .ok (.invokevirtual 30, 3) := by decide +kernel
theorem dX2_distanceOfDyed_8 : decode cX2_distanceOfDyed 8 = .ok (.aload_n 0, 1) := by decide +kernel
theorem dX2_distanceOfDyed_9 : decode cX2_distanceOfDyed 9 = .ok (.iload_n 1, 1) := by decide +kernel
theorem dX2_distanceOfDyed_10 : decode cX2_distanceOfDyed 10 = .ok (.iload 4, 2) := by decide +kernel
theorem dX2_distanceOfDyed_12 : decode cX2_distanceOfDyed 12 = .ok (.invokevirtual 34, 3) := by decide +kernel
theorem dX2_distanceOfDyed_15 : decode cX2_distanceOfDyed 15 = .ok (.invokevirtual 38, 3) := by decide +kernel
theorem dX2_distanceOfDyed_18 : decode cX2_distanceOfDyed 18 = .ok (.ireturn, 1) := by decide +kernel
theorem dX3_init_0 : decode cX3_init 0 = .ok (.aload_n 0, 1) := by decide +kernel
theorem dX3_init_1 : decode cX3_init 1 = .ok (.invokespecial 1, 3) := by decide +kernel
theorem dX3_init_4 : decode cX3_init 4 = .ok (.aload_n 0, 1) := by decide +kernel
theorem dX3_init_5 : decode cX3_init 5 = .ok (.iload_n 1, 1) := by decide +kernel
theorem dX3_init_6 : decode cX3_init 6 = .ok (.putfield 7, 3) := by decide +kernel
theorem dX3_init_9 : decode cX3_init 9 = .ok (.aload_n 0, 1) := by decide +kernel
theorem dX3_init_10 : decode cX3_init 10 = .ok (.aload_n 2, 1) := by decide +kernel
theorem dX3_init_11 : decode cX3_init 11 = .ok (.putfield 13, 3) := by decide +kernel
theorem dX3_init_14 : decode cX3_init 14 = .ok (.aload_n 0, 1) := by decide +kernel
theorem dX3_init_15 : decode cX3_init 15 = .ok (.iload_n 3, 1) := by decide +kernel
theorem dX3_init_16 : decode cX3_init 16 = .ok (.putfield 17, 3) := by decide +kernel
theorem dX3_init_19 : decode cX3_init 19 = .ok (.aload_n 0, 1) := by decide +kernel
theorem dX3_init_20 : decode cX3_init 20 = .ok (.iload 4, 2) := by decide +kernel
theorem dX3_init_22 : decode cX3_init 22 = .ok (.putfield 20, 3) := by decide +kernel
theorem dX3_init_25 : decode cX3_init 25 = .ok (.return_, 1) := by decide +kernel
theorem dX4_init_0 : decode cX4_init 0 = .ok (.aload_n 0, 1) := by decide +kernel
theorem dX4_init_1 : decode cX4_init 1 = .ok (.invokespecial 3, 3) := by decide +kernel
theorem dX4_init_4 : decode cX4_init 4 = .ok (.aload_n 0, 1) := by decide +kernel
theorem dX4_init_5 : decode cX4_init 5 = .ok (.aload_n 1, 1) := by decide +kernel
theorem dX4_init_6 : decode cX4_init 6 = .ok (.getfield 9, 3) := by decide +kernel
theorem dX4_init_9 : decode cX4_init 9 = .ok (.putfield 15, 3) := by decide +kernel
theorem dX4_init_12 : decode cX4_init 12 = .ok (.aload_n 0, 1) := by decide +kernel
theorem dX4_init_13 : decode cX4_init 13 = .ok (.aload_n 1, 1) := by decide +kernel
theorem dX4_init_14 : decode cX4_init 14 = .ok (.getfield 20, 3) := by decide +kernel
theorem dX4_init_17 : decode cX4_init 17 = .ok (.putfield 24, 3) := by decide +kernel
theorem dX4_init_20 : decode cX4_init 20 = .ok (.aload_n 0, 1) := by decide +kernel
theorem dX4_init_21 : decode cX4_init 21 = .ok (.aload_n 1, 1) := by decide +kernel
theorem dX4_init_22 : decode cX4_init 22 = .ok (.getfield 25, 3) := by decide +kernel
theorem dX4_init_25 : decode cX4_init 25 = .ok (.putfield 28, 3) := by decide +kernel
theorem dX4_init_28 : decode cX4_init 28 = .ok (.aload_n 0, 1) := by decide +kernel
theorem dX4_init_29 : decode cX4_init 29 = .ok (.aload_n 2, 1) := by decide +kernel
theorem dX4_init_30 : decode cX4_init 30 = .ok (.putfield 29, 3) := by decide +kernel
theorem dX4_init_33 : decode cX4_init 33 = .ok (.aload_n 0, 1) := by decide +kernel
theorem dX4_init_34 : decode cX4_init 34 = .ok (.aload_n 2, 1) := by decide +kernel
theorem dX4_init_35 : decode cX4_init 35 = .ok (.getfield 33, 3) := by decide +kernel
theorem dX4_init_38 : decode cX4_init 38 = .ok (.putfield 39, 3) := by decide +kernel
theorem dX4_init_41 : decode cX4_init 41 = .ok (.aload_n 0, 1) := by decide +kernel
theorem dX4_init_42 : decode cX4_init 42 = .ok (.aload_n 2, 1) := by decide +kernel
theorem dX4_init_43 : decode cX4_init 43 = .ok (.getfield 42, 3) := by decide +kernel
theorem dX4_init_46 : decode cX4_init 46 = .ok (.putfield 45, 3) := by decide +kernel
theorem dX4_init_49 : decode cX4_init 49 = .ok (.aload_n 0, 1) := by decide +kernel
theorem dX4_init_50 : decode cX4_init 50 = .ok (.iload_n 3, 1) := by decide +kernel
theorem dX4_init_51 : decode cX4_init 51 = .ok (.putfield 48, 3) := by decide +kernel
theorem dX4_init_54 : decode cX4_init 54 = .ok (.aload_n 0, 1) := by decide +kernel
theorem dX4_init_55 : decode cX4_init 55 = .ok (.iload 4, 2) := by decide +kernel
theorem dX4_init_57 : decode cX4_init 57 = .ok (.putfield 51, 3) := by decide +kernel
theorem dX4_init_60 : decode cX4_init 60 = .ok (.aload_n 0, 1) := by decide +kernel
theorem dX4_init_61 : decode cX4_init 61 = .ok (.iload 5, 2) := by decide +kernel
theorem dX4_init_63 : decode cX4_init 63 = .ok (.putfield 54, 3) := by decide +kernel
theorem dX4_init_66 : decode cX4_init 66 = .ok (.return_, 1) := by decide +kernel
theorem dX4_colourAt_0 : decode cX4_colourAt 0 = .ok (.iload_n 1, 1) := by decide +kernel
theorem dX4_colourAt_1 : decode cX4_colourAt 1 = .ok (.ifCond .ne 22, 3) := by decide +kernel
theorem dX4_colourAt_4 : decode cX4_colourAt 4 = .ok (.aload_n 0, 1) := by decide +kernel
theorem dX4_colourAt_5 : decode cX4_colourAt 5 = .ok (.getfield 24, 3) := by decide +kernel
theorem dX4_colourAt_8 : decode cX4_colourAt 8 = .ok (.iload_n 2, 1) := by decide +kernel
theorem dX4_colourAt_9 : decode cX4_colourAt 9 = .ok (.aload_n 0, 1) := by decide +kernel
theorem dX4_colourAt_10 : decode cX4_colourAt 10 = .ok (.getfield 48, 3) := by decide +kernel
theorem dX4_colourAt_13 : decode cX4_colourAt 13 = .ok (.aload_n 0, 1) := by decide +kernel
theorem dX4_colourAt_14 : decode cX4_colourAt 14 = .ok (.getfield 51, 3) := by decide +kernel
theorem dX4_colourAt_17 : decode cX4_colourAt 17 = .ok (.invokevirtual 57, 3) := by decide +kernel
theorem dX4_colourAt_20 : decode cX4_colourAt 20 = .ok (.goto 15, 3) := by decide +kernel
theorem dX4_colourAt_23 : decode cX4_colourAt 23 = .ok (.aload_n 0, 1) := by decide +kernel
theorem dX4_colourAt_24 : decode cX4_colourAt 24 = .ok (.getfield 24, 3) := by decide +kernel
theorem dX4_colourAt_27 : decode cX4_colourAt 27 = .ok (.iload_n 2, 1) := by decide +kernel
theorem dX4_colourAt_28 : decode cX4_colourAt 28 = .ok (.aload_n 0, 1) := by decide +kernel
theorem dX4_colourAt_29 : decode cX4_colourAt 29 = .ok (.getfield 54, 3) := by decide +kernel
theorem dX4_colourAt_32 : decode cX4_colourAt 32 = .ok (.invokevirtual 63, 3) := by decide +kernel
theorem dX4_colourAt_35 : decode cX4_colourAt 35 = .ok (.ireturn, 1) := by decide +kernel
theorem dX4_distance_0 : decode cX4_distance 0 = .ok (.aload_n 0, 1) := by decide +kernel
theorem dX4_distance_1 : decode cX4_distance 1 = .ok (.getfield 24, 3) := by decide +kernel
theorem dX4_distance_4 : decode cX4_distance 4 = .ok (.aload_n 0, 1) := by decide +kernel
theorem dX4_distance_5 : decode cX4_distance 5 = .ok (.getfield 45, 3) := by decide +kernel
theorem dX4_distance_8 : decode cX4_distance 8 = .ok (.aload_n 0, 1) := by decide +kernel
theorem dX4_distance_9 : decode cX4_distance 9 = .ok (.getfield 48, 3) := by decide +kernel
theorem dX4_distance_12 : decode cX4_distance 12 = .ok (.aload_n 0, 1) := by decide +kernel
theorem dX4_distance_13 : decode cX4_distance 13 = .ok (.getfield 51, 3) := by decide +kernel
theorem dX4_distance_16 : decode cX4_distance 16 = .ok (.aload_n 0, 1) := by decide +kernel
theorem dX4_distance_17 : decode cX4_distance 17 = .ok (.getfield 54, 3) := by decide +kernel
theorem dX4_distance_20 : decode cX4_distance 20 = .ok (.invokevirtual 67, 3) := by decide +kernel
theorem dX4_distance_23 : decode cX4_distance 23 = .ok (.ireturn, 1) := by decide +kernel
theorem dX4_isOff_0 : decode cX4_isOff 0 = .ok (.aload_n 0, 1) := by decide +kernel
theorem dX4_isOff_1 : decode cX4_isOff 1 = .ok (.invokevirtual 71, 3) := by decide +kernel
theorem dX4_isOff_4 : decode cX4_isOff 4 = .ok (.aload_n 0, 1) := by decide +kernel
theorem dX4_isOff_5 : decode cX4_isOff 5 = .ok (.getfield 24, 3) := by decide +kernel
theorem dX4_isOff_8 : decode cX4_isOff 8 = .ok (.getfield 75, 3) := by decide +kernel
theorem dX4_isOff_11 : decode cX4_isOff 11 = .ok (.if_icmp .le 7, 3) := by decide +kernel
theorem dX4_isOff_14 : decode cX4_isOff 14 = .ok (.iconst 1, 1) := by decide +kernel
theorem dX4_isOff_15 : decode cX4_isOff 15 = .ok (.goto 4, 3) := by decide +kernel
theorem dX4_isOff_18 : decode cX4_isOff 18 = .ok (.iconst 0, 1) := by decide +kernel
theorem dX4_isOff_19 : decode cX4_isOff 19 = .ok (.ireturn, 1) := by decide +kernel
theorem dX4_toBlame_0 : decode cX4_toBlame 0 = .ok (.aload_n 0, 1) := by decide +kernel
theorem dX4_toBlame_1 : decode cX4_toBlame 1 = .ok (.getfield 24, 3) := by decide +kernel
theorem dX4_toBlame_4 : decode cX4_toBlame 4 = .ok (.bipush 100, 2) := by decide +kernel
theorem dX4_toBlame_6 : decode cX4_toBlame 6 = .ok (.aload_n 0, 1) := by decide +kernel
theorem dX4_toBlame_7 : decode cX4_toBlame 7 = .ok (.getfield 48, 3) := by decide +kernel
theorem dX4_toBlame_10 : decode cX4_toBlame 10 = .ok (.aload_n 0, 1) := by decide +kernel
theorem dX4_toBlame_11 : decode cX4_toBlame 11 = .ok (.getfield 51, 3) := by decide +kernel
theorem dX4_toBlame_14 : decode cX4_toBlame 14 = .ok (.aload_n 0, 1) := by decide +kernel
theorem dX4_toBlame_15 : decode cX4_toBlame 15 = .ok (.getfield 54, 3) := by decide +kernel
theorem dX4_toBlame_18 : decode cX4_toBlame 18 = .ok (.invokevirtual 67, 3) := by decide +kernel
theorem dX4_toBlame_21 : decode cX4_toBlame 21 = .ok (.istore_n 1, 1) := by decide +kernel
theorem dX4_toBlame_22 : decode cX4_toBlame 22 = .ok (.aload_n 0, 1) := by decide +kernel
theorem dX4_toBlame_23 : decode cX4_toBlame 23 = .ok (.getfield 24, 3) := by decide +kernel
theorem dX4_toBlame_26 : decode cX4_toBlame 26 = .ok (.aload_n 0, 1) := by decide +kernel
theorem dX4_toBlame_27 : decode cX4_toBlame 27 = .ok (.getfield 45, 3) := by decide +kernel
theorem dX4_toBlame_30 : decode cX4_toBlame 30 = .ok (.iconst 0, 1) := by decide +kernel
theorem dX4_toBlame_31 : decode cX4_toBlame 31 = .ok (.aload_n 0, 1) := by decide +kernel
theorem dX4_toBlame_32 : decode cX4_toBlame 32 = .ok (.getfield 51, 3) := by decide +kernel
theorem dX4_toBlame_35 : decode cX4_toBlame 35 = .ok (.aload_n 0, 1) := by decide +kernel
theorem dX4_toBlame_36 : decode cX4_toBlame 36 = .ok (.getfield 54, 3) := by decide +kernel
theorem dX4_toBlame_39 : decode cX4_toBlame 39 = .ok (.invokevirtual 67, 3) := by decide +kernel
theorem dX4_toBlame_42 : decode cX4_toBlame 42 = .ok (.istore_n 2, 1) := by decide +kernel
theorem dX4_toBlame_43 : decode cX4_toBlame 43 = .ok (.aload_n 0, 1) := by decide +kernel
theorem dX4_toBlame_44 : decode cX4_toBlame 44 = .ok (.getfield 24, 3) := by decide +kernel
theorem dX4_toBlame_47 : decode cX4_toBlame 47 = .ok (.aload_n 0, 1) := by decide +kernel
theorem dX4_toBlame_48 : decode cX4_toBlame 48 = .ok (.getfield 45, 3) := by decide +kernel
theorem dX4_toBlame_51 : decode cX4_toBlame 51 = .ok (.aload_n 0, 1) := by decide +kernel
theorem dX4_toBlame_52 : decode cX4_toBlame 52 = .ok (.getfield 48, 3) := by decide +kernel
theorem dX4_toBlame_55 : decode cX4_toBlame 55 = .ok (.iconst 0, 1) := by decide +kernel
theorem dX4_toBlame_56 : decode cX4_toBlame 56 = .ok (.iconst 0, 1) := by decide +kernel
theorem dX4_toBlame_57 : decode cX4_toBlame 57 = .ok (.invokevirtual 67, 3) := by decide +kernel
theorem dX4_toBlame_60 : decode cX4_toBlame 60 = .ok (.istore_n 3, 1) := by decide +kernel
theorem dX4_toBlame_61 : decode cX4_toBlame 61 = .ok (.iload_n 1, 1) := by decide +kernel
theorem dX4_toBlame_62 : decode cX4_toBlame 62 = .ok (.iload_n 2, 1) := by decide +kernel
theorem dX4_toBlame_63 : decode cX4_toBlame 63 = .ok (.if_icmp .gt 10, 3) := by decide +kernel
theorem dX4_toBlame_66 : decode cX4_toBlame 66 = .ok (.iload_n 1, 1) := by decide +kernel
theorem dX4_toBlame_67 : decode cX4_toBlame 67 = .ok (.iload_n 3, 1) := by decide +kernel
theorem dX4_toBlame_68 : decode cX4_toBlame 68 = .ok (.if_icmp .gt 5, 3) := by decide +kernel
theorem dX4_toBlame_71 : decode cX4_toBlame 71 = .ok (.iconst 0, 1) := by decide +kernel
theorem dX4_toBlame_72 : decode cX4_toBlame 72 = .ok (.ireturn, 1) := by decide +kernel
theorem dX4_toBlame_73 : decode cX4_toBlame 73 = .ok (.iload_n 2, 1) := by decide +kernel
theorem dX4_toBlame_74 : decode cX4_toBlame 74 = .ok (.iload_n 3, 1) := by decide +kernel
theorem dX4_toBlame_75 : decode cX4_toBlame 75 = .ok (.if_icmp .gt 7, 3) := by decide +kernel
theorem dX4_toBlame_78 : decode cX4_toBlame 78 = .ok (.iconst 1, 1) := by decide +kernel
theorem dX4_toBlame_79 : decode cX4_toBlame 79 = .ok (.goto 4, 3) := by decide +kernel
theorem dX4_toBlame_82 : decode cX4_toBlame 82 = .ok (.iconst 2, 1) := by decide +kernel
theorem dX4_toBlame_83 : decode cX4_toBlame 83 = .ok (.ireturn, 1) := by decide +kernel
theorem dX5_init_0 : decode cX5_init 0 = .ok (.aload_n 0, 1) := by decide +kernel
theorem dX5_init_1 : decode cX5_init 1 = .ok (.invokespecial 1, 3) := by decide +kernel
theorem dX5_init_4 : decode cX5_init 4 = .ok (.aload_n 0, 1) := by decide +kernel
theorem dX5_init_5 : decode cX5_init 5 = .ok (.new 7, 3) := by decide +kernel
theorem dX5_init_8 : decode cX5_init 8 = .ok (.dup, 1) := by decide +kernel
theorem dX5_init_9 : decode cX5_init 9 = .ok (.invokespecial 9, 3) := by decide +kernel
theorem dX5_init_12 : decode cX5_init 12 = .ok (.putfield 10, 3) := by decide +kernel
theorem dX5_init_15 : decode cX5_init 15 = .ok (.aload_n 0, 1) := by decide +kernel
theorem dX5_init_16 : decode cX5_init 16 = .ok (.new 7, 3) := by decide +kernel
theorem dX5_init_19 : decode cX5_init 19 = .ok (.dup, 1) := by decide +kernel
theorem dX5_init_20 : decode cX5_init 20 = .ok (.invokespecial 9, 3) := by decide +kernel
theorem dX5_init_23 : decode cX5_init 23 = .ok (.putfield 16, 3) := by decide +kernel
theorem dX5_init_26 : decode cX5_init 26 = .ok (.aload_n 0, 1) := by decide +kernel
theorem dX5_init_27 : decode cX5_init 27 = .ok (.new 7, 3) := by decide +kernel
theorem dX5_init_30 : decode cX5_init 30 = .ok (.dup, 1) := by decide +kernel
theorem dX5_init_31 : decode cX5_init 31 = .ok (.invokespecial 9, 3) := by decide +kernel
theorem dX5_init_34 : decode cX5_init 34 = .ok (.putfield 19, 3) := by decide +kernel
theorem dX5_init_37 : decode cX5_init 37 = .ok (.aload_n 0, 1) := by decide +kernel
theorem dX5_init_38 : decode cX5_init 38 = .ok (.iconst 3, 1) := by decide +kernel
theorem dX5_init_39 : decode cX5_init 39 = .ok (.newarray .int, 2) := by decide +kernel
theorem dX5_init_41 : decode cX5_init 41 = .ok (.putfield 22, 3) := by decide +kernel
theorem dX5_init_44 : decode cX5_init 44 = .ok (.aload_n 0, 1) := by decide +kernel
theorem dX5_init_45 : decode cX5_init 45 = .ok (.iconst 4, 1) := by decide +kernel
theorem dX5_init_46 : decode cX5_init 46 = .ok (.newarray .int, 2) := by decide +kernel
theorem dX5_init_48 : decode cX5_init 48 = .ok (.putfield 26, 3) := by decide +kernel
theorem dX5_init_51 : decode cX5_init 51 = .ok (.aload_n 0, 1) := by decide +kernel
theorem dX5_init_52 : decode cX5_init 52 = .ok (.iconst 4, 1) := by decide +kernel
theorem dX5_init_53 : decode cX5_init 53 = .ok (.newarray .int, 2) := by decide +kernel
theorem dX5_init_55 : decode cX5_init 55 = .ok (.putfield 29, 3) := by decide +kernel
theorem dX5_init_58 : decode cX5_init 58 = .ok (.aload_n 0, 1) := by decide +kernel
theorem dX5_init_59 : decode cX5_init 59 = .ok (.iconst 3, 1) := by decide +kernel
theorem dX5_init_60 : decode cX5_init 60 = .ok (.iconst 3, 1) := by decide +kernel
theorem dX5_init_61 : decode cX5_init 61 = .ok (.multianewarray 32 2, 4) := by decide +kernel
theorem dX5_init_65 : decode cX5_init 65 = .ok (.putfield 34, 3) := by decide +kernel
theorem dX5_init_68 : decode cX5_init 68 = .ok (.aload_n 0, 1) := by decide +kernel
theorem dX5_init_69 : decode cX5_init 69 = .ok (.iconst 3, 1) := by decide +kernel
theorem dX5_init_70 : decode cX5_init 70 = .ok (.anewarray 37, 3) := by decide +kernel
theorem dX5_init_73 : decode cX5_init 73 = .ok (.putfield 39, 3) := by decide +kernel
theorem dX5_init_76 : decode cX5_init 76 = .ok (.iconst 0, 1) := by decide +kernel
theorem dX5_init_77 : decode cX5_init 77 = .ok (.istore_n 1, 1) := by decide +kernel
theorem dX5_init_78 : decode cX5_init 78 = .ok (.iload_n 1, 1) := by decide +kernel
theorem dX5_init_79 : decode cX5_init 79 = .ok (.iconst 3, 1) := by decide +kernel
theorem dX5_init_80 : decode cX5_init 80 = .ok (.if_icmp .ge 22, 3) := by decide +kernel
theorem dX5_init_83 : decode cX5_init 83 = .ok (.aload_n 0, 1) := by decide +kernel
theorem dX5_init_84 : decode cX5_init 84 = .ok (.getfield 39, 3) := by decide +kernel
theorem dX5_init_87 : decode cX5_init 87 = .ok (.iload_n 1, 1) := by decide +kernel
theorem dX5_init_88 : decode cX5_init 88 = .ok (.new 37, 3) := by decide +kernel
theorem dX5_init_91 : decode cX5_init 91 = .ok (.dup, 1) := by decide +kernel
theorem dX5_init_92 : decode cX5_init 92 = .ok (.invokespecial 43, 3) := by decide +kernel
theorem dX5_init_95 : decode cX5_init 95 = .ok (.aastore, 1) := by decide +kernel
theorem dX5_init_96 : decode cX5_init 96 = .ok (.iinc 1 1, 3) := by decide +kernel
theorem dX5_init_99 : decode cX5_init 99 = .ok (.goto (-21), 3) := by decide +kernel
theorem dX5_init_102 : decode cX5_init 102 = .ok (.return_, 1) := by decide +kernel
theorem dX5_entry_0 : decode cX5_entry 0 = .ok (.iload_n 1, 1) := by decide +kernel
theorem dX5_entry_1 : decode cX5_entry 1 = .ok (.iconst 0, 1) := by decide +kernel
theorem dX5_entry_2 : decode cX5_entry 2 = .ok (.bipush 60, 2) := by decide +kernel
theorem dX5_entry_4 : decode cX5_entry 4 = .ok (.invokestatic 44, 3) := by decide +kernel
theorem dX5_entry_7 : decode cX5_entry 7 = .ok (.iload_n 2, 1) := by decide +kernel
theorem dX5_entry_8 : decode cX5_entry 8 = .ok (.iconst 0, 1) := by decide +kernel
theorem dX5_entry_9 : decode cX5_entry 9 = .ok (.bipush 60, 2) := by decide +kernel
theorem dX5_entry_11 : decode cX5_entry 11 = .ok (.invokestatic 44, 3) := by decide +kernel
theorem dX5_entry_14 : decode cX5_entry 14 = .ok (.iload_n 3, 1) := by decide +kernel
theorem dX5_entry_15 : decode cX5_entry 15 = .ok (.iconst 0, 1) := by decide +kernel
theorem dX5_entry_16 : decode cX5_entry 16 = .ok (.bipush 20, 2) := by decide +kernel
theorem dX5_entry_18 : decode cX5_entry 18 = .ok (.invokestatic 44, 3) := by decide +kernel
theorem dX5_entry_21 : decode cX5_entry 21 = .ok (.aload_n 0, 1) := by decide +kernel
theorem dX5_entry_22 : decode cX5_entry 22 = .ok (.getfield 10, 3) := by decide +kernel
theorem dX5_entry_25 : decode cX5_entry 25 = .ok (.invokevirtual 48, 3) := by decide +kernel
theorem dX5_entry_28 : decode cX5_entry 28 = .ok (.istore 4, 2) := by decide +kernel
theorem dX5_entry_30 : decode cX5_entry 30 = .ok (.iload 4, 2) := by decide +kernel
theorem dX5_entry_32 : decode cX5_entry 32 = .ok (.bipush 12, 2) := by decide +kernel
theorem dX5_entry_34 : decode cX5_entry 34 = .ok (.invokestatic 52, 3) := by decide +kernel
theorem dX5_entry_37 : decode cX5_entry 37 = .ok (.aload_n 0, 1) := by decide +kernel
theorem dX5_entry_38 : decode cX5_entry 38 = .ok (.getfield 10, 3) := by decide +kernel
theorem dX5_entry_41 : decode cX5_entry 41 = .ok (.new 56, 3) := by decide +kernel
theorem dX5_entry_44 : decode cX5_entry 44 = .ok (.dup, 1) := by decide +kernel
theorem dX5_entry_45 : decode cX5_entry 45 = .ok (.iload 4, 2) := by decide +kernel
theorem dX5_entry_47 : decode cX5_entry 47 = .ok (.iload_n 1, 1) := by decide +kernel
theorem dX5_entry_48 : decode cX5_entry 48 = .ok (.iload_n 2, 1) := by decide +kernel
theorem dX5_entry_49 : decode cX5_entry 49 = .ok (.iload_n 3, 1) := by decide +kernel
theorem dX5_entry_50 : decode cX5_entry 50 = .ok (.invokespecial 58, 3) := by decide +kernel
theorem dX5_entry_53 : decode cX5_entry 53 = .ok (.invokevirtual 61, 3) := by decide +kernel
theorem dX5_entry_56 : decode cX5_entry 56 = .ok (.pop, 1) := by decide +kernel
theorem dX5_entry_57 : decode cX5_entry 57 = .ok (.iload 4, 2) := by decide +kernel
theorem dX5_entry_59 : decode cX5_entry 59 = .ok (.ireturn, 1) := by decide +kernel
theorem dX5_water_0 : decode cX5_water 0 = .ok (.iload_n 1, 1) := by decide +kernel
theorem dX5_water_1 : decode cX5_water 1 = .ok (.iconst 3, 1) := by decide +kernel
theorem dX5_water_2 : decode cX5_water 2 = .ok (.invokestatic 65, 3) := by decide +kernel
theorem dX5_water_5 : decode cX5_water 5 = .ok (.iload_n 2, 1) := by decide +kernel
theorem dX5_water_6 : decode cX5_water 6 = .ok (.bipush (-10), 2) := by decide +kernel
theorem dX5_water_8 : decode cX5_water 8 = .ok (.bipush 10, 2) := by decide +kernel
theorem dX5_water_10 : decode cX5_water 10 = .ok (.invokestatic 44, 3) := by decide +kernel
theorem dX5_water_13 : decode cX5_water 13 = .ok (.aload_n 0, 1) := by decide +kernel
theorem dX5_water_14 : decode cX5_water 14 = .ok (.getfield 22, 3) := by decide +kernel
theorem dX5_water_17 : decode cX5_water 17 = .ok (.iload_n 1, 1) := by decide +kernel
theorem dX5_water_18 : decode cX5_water 18 = .ok (.iaload, 1) := by decide +kernel
theorem dX5_water_19 : decode cX5_water 19 = .ok (.istore_n 3, 1) := by decide +kernel
theorem dX5_water_20 : decode cX5_water 20 = .ok (.aload_n 0, 1) := by decide +kernel
theorem dX5_water_21 : decode cX5_water 21 = .ok (.getfield 22, 3) := by decide +kernel
theorem dX5_water_24 : decode cX5_water 24 = .ok (.iload_n 1, 1) := by decide +kernel
theorem dX5_water_25 : decode cX5_water 25 = .ok (.iload_n 2, 1) := by decide +kernel
theorem dX5_water_26 : decode cX5_water 26 = .ok (.iastore, 1) := by decide +kernel
theorem dX5_water_27 : decode cX5_water 27 = .ok (.iload_n 3, 1) := by decide +kernel
theorem dX5_water_28 : decode cX5_water 28 = .ok (.ireturn, 1) := by decide +kernel
theorem dX5_yarn_0 : decode cX5_yarn 0 = .ok (.iload_n 1, 1) := by decide +kernel
theorem dX5_yarn_1 : decode cX5_yarn 1 = .ok (.iconst 4, 1) := by decide +kernel
theorem dX5_yarn_2 : decode cX5_yarn 2 = .ok (.invokestatic 65, 3) := by decide +kernel
theorem dX5_yarn_5 : decode cX5_yarn 5 = .ok (.iload_n 2, 1) := by decide +kernel
theorem dX5_yarn_6 : decode cX5_yarn 6 = .ok (.bipush (-10), 2) := by decide +kernel
theorem dX5_yarn_8 : decode cX5_yarn 8 = .ok (.bipush 10, 2) := by decide +kernel
theorem dX5_yarn_10 : decode cX5_yarn 10 = .ok (.invokestatic 44, 3) := by decide +kernel
theorem dX5_yarn_13 : decode cX5_yarn 13 = .ok (.iload_n 3, 1) := by decide +kernel
theorem dX5_yarn_14 : decode cX5_yarn 14 = .ok (.bipush (-10), 2) := by decide +kernel
theorem dX5_yarn_16 : decode cX5_yarn 16 = .ok (.bipush 10, 2) := by decide +kernel
theorem dX5_yarn_18 : decode cX5_yarn 18 = .ok (.invokestatic 44, 3) := by decide +kernel
theorem dX5_yarn_21 : decode cX5_yarn 21 = .ok (.aload_n 0, 1) := by decide +kernel
theorem dX5_yarn_22 : decode cX5_yarn 22 = .ok (.getfield 26, 3) := by decide +kernel
theorem dX5_yarn_25 : decode cX5_yarn 25 = .ok (.iload_n 1, 1) := by decide +kernel
theorem dX5_yarn_26 : decode cX5_yarn 26 = .ok (.iaload, 1) := by decide +kernel
theorem dX5_yarn_27 : decode cX5_yarn 27 = .ok (.istore 4, 2) := by decide +kernel
theorem dX5_yarn_29 : decode cX5_yarn 29 = .ok (.aload_n 0, 1) := by decide +kernel
theorem dX5_yarn_30 : decode cX5_yarn 30 = .ok (.getfield 26, 3) := by decide +kernel
theorem dX5_yarn_33 : decode cX5_yarn 33 = .ok (.iload_n 1, 1) := by decide +kernel
theorem dX5_yarn_34 : decode cX5_yarn 34 = .ok (.iload_n 2, 1) := by decide +kernel
theorem dX5_yarn_35 : decode cX5_yarn 35 = .ok (.iastore, 1) := by decide +kernel
theorem dX5_yarn_36 : decode cX5_yarn 36 = .ok (.aload_n 0, 1) := by decide +kernel
theorem dX5_yarn_37 : decode cX5_yarn 37 = .ok (.getfield 29, 3) := by decide +kernel
theorem dX5_yarn_40 : decode cX5_yarn 40 = .ok (.iload_n 1, 1) := by decide +kernel
theorem dX5_yarn_41 : decode cX5_yarn 41 = .ok (.iload_n 3, 1) := by decide +kernel
theorem dX5_yarn_42 : decode cX5_yarn 42 = .ok (.iastore, 1) := by decide +kernel
theorem dX5_yarn_43 : decode cX5_yarn 43 = .ok (.iload 4, 2) := by decide +kernel
theorem dX5_yarn_45 : decode cX5_yarn 45 = .ok (.ireturn, 1) := by decide +kernel
theorem dX5_apart_0 : decode cX5_apart 0 = .ok (.aload_n 0, 1) := by decide +kernel
theorem dX5_apart_1 : decode cX5_apart 1 = .ok (.iload_n 1, 1) := by decide +kernel
theorem dX5_apart_2 : decode cX5_apart 2 = .ok (.invokevirtual 68, 3) := by decide +kernel
theorem dX5_apart_5 : decode cX5_apart 5 = .ok (.astore_n 3, 1) := by decide +kernel
theorem dX5_apart_6 : decode cX5_apart 6 = .ok (.aload_n 0, 1) := by decide +kernel
theorem dX5_apart_7 : decode cX5_apart 7 = .ok (.iload_n 2, 1) := by decide +kernel
theorem dX5_apart_8 : decode cX5_apart 8 = .ok (.invokevirtual 68, 3) := by decide +kernel
theorem dX5_apart_11 : decode cX5_apart 11 = .ok (.astore 4, 2) := by decide +kernel
theorem dX5_apart_13 : decode cX5_apart 13 = .ok (.aload_n 3, 1) := by decide +kernel
theorem dX5_apart_14 : decode cX5_apart 14 = .ok (.aload 4, 2) := by decide +kernel
theorem dX5_apart_16 : decode cX5_apart 16 = .ok (.getfield 72, 3) := by decide +kernel
theorem dX5_apart_19 : decode cX5_apart 19 = .ok (.aload 4, 2) := by decide +kernel
theorem dX5_apart_21 : decode cX5_apart 21 = .ok (.getfield 76, 3) := by decide +kernel
theorem dX5_apart_24 : decode cX5_apart 24 = .ok (.invokevirtual 79, 3) := by decide +kernel
theorem dX5_apart_27 : decode cX5_apart 27 = .ok (.ireturn, 1) := by decide +kernel
theorem dX5_bath_0 : decode cX5_bath 0 = .ok (.iload_n 1, 1) := by decide +kernel
theorem dX5_bath_1 : decode cX5_bath 1 = .ok (.iconst 3, 1) := by decide +kernel
theorem dX5_bath_2 : decode cX5_bath 2 = .ok (.invokestatic 65, 3) := by decide +kernel
theorem dX5_bath_5 : decode cX5_bath 5 = .ok (.aload_n 0, 1) := by decide +kernel
theorem dX5_bath_6 : decode cX5_bath 6 = .ok (.iload_n 2, 1) := by decide +kernel
theorem dX5_bath_7 : decode cX5_bath 7 = .ok (.invokevirtual 68, 3) := by decide +kernel
theorem dX5_bath_10 : decode cX5_bath 10 = .ok (.astore_n 3, 1) := by decide +kernel
theorem dX5_bath_11 : decode cX5_bath 11 = .ok (.aload_n 0, 1) := by decide +kernel
theorem dX5_bath_12 : decode cX5_bath 12 = .ok (.getfield 16, 3) := by decide +kernel
theorem dX5_bath_15 : decode cX5_bath 15 = .ok (.invokevirtual 48, 3) := by decide +kernel
theorem dX5_bath_18 : decode cX5_bath 18 = .ok (.istore 4, 2) := by decide +kernel
theorem dX5_bath_20 : decode cX5_bath 20 = .ok (.iload 4, 2) := by decide +kernel
theorem dX5_bath_22 : decode cX5_bath 22 = .ok (.bipush 10, 2) := by decide +kernel
theorem dX5_bath_24 : decode cX5_bath 24 = .ok (.invokestatic 52, 3) := by decide +kernel
theorem dX5_bath_27 : decode cX5_bath 27 = .ok (.aload_n 0, 1) := by decide +kernel
theorem dX5_bath_28 : decode cX5_bath 28 = .ok (.getfield 16, 3) := by decide +kernel
theorem dX5_bath_31 : decode cX5_bath 31 = .ok (.new 83, 3) := by decide +kernel
theorem dX5_bath_34 : decode cX5_bath 34 = .ok (.dup, 1) := by decide +kernel
theorem dX5_bath_35 : decode cX5_bath 35 = .ok (.iload_n 1, 1) := by decide +kernel
theorem dX5_bath_36 : decode cX5_bath 36 = .ok (.aload_n 3, 1) := by decide +kernel
theorem dX5_bath_37 : decode cX5_bath 37 = .ok (.invokespecial 85, 3) := by decide +kernel
theorem dX5_bath_40 : decode cX5_bath 40 = .ok (.invokevirtual 61, 3) := by decide +kernel
theorem dX5_bath_43 : decode cX5_bath 43 = .ok (.pop, 1) := by decide +kernel
theorem dX5_bath_44 : decode cX5_bath 44 = .ok (.iload 4, 2) := by decide +kernel
theorem dX5_bath_46 : decode cX5_bath 46 = .ok (.ireturn, 1) := by decide +kernel
theorem dX5_freshen_0 : decode cX5_freshen 0 = .ok (.aload_n 0, 1) := by decide +kernel
theorem dX5_freshen_1 : decode cX5_freshen 1 = .ok (.iload_n 1, 1) := by decide +kernel
theorem dX5_freshen_2 : decode cX5_freshen 2 = .ok (.invokevirtual 88, 3) := by decide +kernel
theorem dX5_freshen_5 : decode cX5_freshen 5 = .ok (.invokevirtual 92, 3) := by decide +kernel
theorem dX5_freshen_8 : decode cX5_freshen 8 = .ok (.ireturn, 1) := by decide +kernel
theorem dX5_strength_0 : decode cX5_strength 0 = .ok (.aload_n 0, 1) := by decide +kernel
theorem dX5_strength_1 : decode cX5_strength 1 = .ok (.iload_n 1, 1) := by decide +kernel
theorem dX5_strength_2 : decode cX5_strength 2 = .ok (.invokevirtual 88, 3) := by decide +kernel
theorem dX5_strength_5 : decode cX5_strength 5 = .ok (.getfield 95, 3) := by decide +kernel
theorem dX5_strength_8 : decode cX5_strength 8 = .ok (.ireturn, 1) := by decide +kernel
theorem dX5_order_0 : decode cX5_order 0 = .ok (.aload_n 0, 1) := by decide +kernel
theorem dX5_order_1 : decode cX5_order 1 = .ok (.iload_n 1, 1) := by decide +kernel
theorem dX5_order_2 : decode cX5_order 2 = .ok (.invokevirtual 68, 3) := by decide +kernel
theorem dX5_order_5 : decode cX5_order 5 = .ok (.astore 4, 2) := by decide +kernel
theorem dX5_order_7 : decode cX5_order 7 = .ok (.iload_n 3, 1) := by decide +kernel
theorem dX5_order_8 : decode cX5_order 8 = .ok (.iconst 4, 1) := by decide +kernel
theorem dX5_order_9 : decode cX5_order 9 = .ok (.invokestatic 65, 3) := by decide +kernel
theorem dX5_order_12 : decode cX5_order 12 = .ok (.iload_n 2, 1) := by decide +kernel
theorem dX5_order_13 : decode cX5_order 13 = .ok (.iconst 1, 1) := by decide +kernel
theorem dX5_order_14 : decode cX5_order 14 = .ok (.bipush 40, 2) := by decide +kernel
theorem dX5_order_16 : decode cX5_order 16 = .ok (.invokestatic 44, 3) := by decide +kernel
theorem dX5_order_19 : decode cX5_order 19 = .ok (.aload_n 0, 1) := by decide +kernel
theorem dX5_order_20 : decode cX5_order 20 = .ok (.getfield 19, 3) := by decide +kernel
theorem dX5_order_23 : decode cX5_order 23 = .ok (.invokevirtual 48, 3) := by decide +kernel
theorem dX5_order_26 : decode cX5_order 26 = .ok (.istore 5, 2) := by decide +kernel
theorem dX5_order_28 : decode cX5_order 28 = .ok (.iload 5, 2) := by decide +kernel
theorem dX5_order_30 : decode cX5_order 30 = .ok (.bipush 40, 2) := by decide +kernel
theorem dX5_order_32 : decode cX5_order 32 = .ok (.invokestatic 52, 3) := by decide +kernel
theorem dX5_order_35 : decode cX5_order 35 = .ok (.aload_n 0, 1) := by decide +kernel
theorem dX5_order_36 : decode cX5_order 36 = .ok (.getfield 19, 3) := by decide +kernel
theorem dX5_order_39 : decode cX5_order 39 = .ok (.new 98, 3) := by decide +kernel
theorem dX5_order_42 : decode cX5_order 42 = .ok (.dup, 1) := by decide +kernel
theorem dX5_order_43 : decode cX5_order 43 = .ok (.iload 5, 2) := by decide +kernel
theorem dX5_order_45 : decode cX5_order 45 = .ok (.aload 4, 2) := by decide +kernel
theorem dX5_order_47 : decode cX5_order 47 = .ok (.iload_n 2, 1) := by decide +kernel
theorem dX5_order_48 : decode cX5_order 48 = .ok (.iload_n 3, 1) := by decide +kernel
theorem dX5_order_49 : decode cX5_order 49 = .ok (.invokespecial 100, 3) := by decide +kernel
theorem dX5_order_52 : decode cX5_order 52 = .ok (.invokevirtual 61, 3) := by decide +kernel
theorem dX5_order_55 : decode cX5_order 55 = .ok (.pop, 1) := by decide +kernel
theorem dX5_order_56 : decode cX5_order 56 = .ok (.iload 5, 2) := by decide +kernel
theorem dX5_order_58 : decode cX5_order 58 = .ok (.ireturn, 1) := by decide +kernel
theorem dX5_place_0 : decode cX5_place 0 = .ok (.aload_n 0, 1) := by decide +kernel
theorem dX5_place_1 : decode cX5_place 1 = .ok (.iload_n 1, 1) := by decide +kernel
theorem dX5_place_2 : decode cX5_place 2 = .ok (.invokevirtual 103, 3) := by decide +kernel
theorem dX5_place_5 : decode cX5_place 5 = .ok (.astore_n 2, 1) := by decide +kernel
theorem dX5_place_6 : decode cX5_place 6 = .ok (.aload_n 2, 1) := by decide +kernel
theorem dX5_place_7 : decode cX5_place 7 = .ok (.invokestatic 107, 3) := by decide +kernel
theorem dX5_place_10 : decode cX5_place 10 = .ok (.aload_n 0, 1) := by decide +kernel
theorem dX5_place_11 : decode cX5_place 11 = .ok (.aload_n 2, 1) := by decide +kernel
theorem dX5_place_12 : decode cX5_place 12 = .ok (.invokevirtual 111, 3) := by decide +kernel
theorem dX5_place_15 : decode cX5_place 15 = .ok (.istore_n 3, 1) := by decide +kernel
theorem dX5_place_16 : decode cX5_place 16 = .ok (.iload_n 3, 1) := by decide +kernel
theorem dX5_place_17 : decode cX5_place 17 = .ok (.iconst (-1), 1) := by decide +kernel
theorem dX5_place_18 : decode cX5_place 18 = .ok (.if_icmp .ne 13, 3) := by decide +kernel
theorem dX5_place_21 : decode cX5_place 21 = .ok (.new 115, 3) := by decide +kernel
theorem dX5_place_24 : decode cX5_place 24 = .ok (.dup, 1) := by decide +kernel
theorem dX5_place_25 : decode cX5_place 25 = .ok (.ldc 117, 2) := by decide +kernel
theorem dX5_place_27 : decode cX5_place 27 = .ok (.invokespecial 119, 3) := by decide +kernel
theorem dX5_place_30 : decode cX5_place 30 = .ok (.athrow, 1) := by decide +kernel
theorem dX5_place_31 : decode cX5_place 31 = .ok (.aload_n 0, 1) := by decide +kernel
theorem dX5_place_32 : decode cX5_place 32 = .ok (.aload_n 2, 1) := by decide +kernel
theorem dX5_place_33 : decode cX5_place 33 = .ok (.aload_n 0, 1) := by decide +kernel
theorem dX5_place_34 : decode cX5_place 34 = .ok (.iload_n 3, 1) := by decide +kernel
theorem dX5_place_35 : decode cX5_place 35 = .ok (.invokevirtual 88, 3) := by decide +kernel
theorem dX5_place_38 : decode cX5_place 38 = .ok (.invokevirtual 122, 3) := by decide +kernel
theorem dX5_place_41 : decode cX5_place 41 = .ok (.pop, 1) := by decide +kernel
theorem dX5_place_42 : decode cX5_place 42 = .ok (.iload_n 3, 1) := by decide +kernel
theorem dX5_place_43 : decode cX5_place 43 = .ok (.ireturn, 1) := by decide +kernel
theorem dX5_dye_0 : decode cX5_dye 0 = .ok (.aload_n 0, 1) := by decide +kernel
theorem dX5_dye_1 : decode cX5_dye 1 = .ok (.iload_n 1, 1) := by decide +kernel
theorem dX5_dye_2 : decode cX5_dye 2 = .ok (.invokevirtual 103, 3) := by decide +kernel
theorem dX5_dye_5 : decode cX5_dye 5 = .ok (.astore_n 3, 1) := by decide +kernel
theorem dX5_dye_6 : decode cX5_dye 6 = .ok (.aload_n 0, 1) := by decide +kernel
theorem dX5_dye_7 : decode cX5_dye 7 = .ok (.iload_n 2, 1) := by decide +kernel
theorem dX5_dye_8 : decode cX5_dye 8 = .ok (.invokevirtual 88, 3) := by decide +kernel
theorem dX5_dye_11 : decode cX5_dye 11 = .ok (.astore 4, 2) := by decide +kernel
theorem dX5_dye_13 : decode cX5_dye 13 = .ok (.aload 4, 2) := by decide +kernel
theorem dX5_dye_15 : decode cX5_dye 15 = .ok (.aload_n 3, 1) := by decide +kernel
theorem dX5_dye_16 : decode cX5_dye 16 = .ok (.getfield 126, 3) := by decide +kernel
theorem dX5_dye_19 : decode cX5_dye 19 = .ok (.invokevirtual 130, 3) := by decide +kernel
theorem dX5_dye_22 : decode cX5_dye 22 = .ok (.ifCond .ne 13, 3) := by decide +kernel
theorem dX5_dye_25 : decode cX5_dye 25 = .ok (.new 134, 3) := by decide +kernel
theorem dX5_dye_28 : decode cX5_dye 28 = .ok (.dup, 1) := by decide +kernel
theorem dX5_dye_29 : decode cX5_dye 29 = .ok (.ldc 136, 2) := by decide +kernel
theorem dX5_dye_31 : decode cX5_dye 31 = .ok (.invokespecial 138, 3) := by decide +kernel
theorem dX5_dye_34 : decode cX5_dye 34 = .ok (.athrow, 1) := by decide +kernel
theorem dX5_dye_35 : decode cX5_dye 35 = .ok (.aload_n 3, 1) := by decide +kernel
theorem dX5_dye_36 : decode cX5_dye 36 = .ok (.invokestatic 107, 3) := by decide +kernel
theorem dX5_dye_39 : decode cX5_dye 39 = .ok (.aload_n 0, 1) := by decide +kernel
theorem dX5_dye_40 : decode cX5_dye 40 = .ok (.aload_n 3, 1) := by decide +kernel
theorem dX5_dye_41 : decode cX5_dye 41 = .ok (.aload 4, 2) := by decide +kernel
theorem dX5_dye_43 : decode cX5_dye 43 = .ok (.invokevirtual 122, 3) := by decide +kernel
theorem dX5_dye_46 : decode cX5_dye 46 = .ok (.invokevirtual 139, 3) := by decide +kernel
theorem dX5_dye_49 : decode cX5_dye 49 = .ok (.ireturn, 1) := by decide +kernel
theorem dX5_claim_0 : decode cX5_claim 0 = .ok (.aload_n 0, 1) := by decide +kernel
theorem dX5_claim_1 : decode cX5_claim 1 = .ok (.iload_n 1, 1) := by decide +kernel
theorem dX5_claim_2 : decode cX5_claim 2 = .ok (.invokevirtual 103, 3) := by decide +kernel
theorem dX5_claim_5 : decode cX5_claim 5 = .ok (.astore_n 2, 1) := by decide +kernel
theorem dX5_claim_6 : decode cX5_claim 6 = .ok (.aload_n 2, 1) := by decide +kernel
theorem dX5_claim_7 : decode cX5_claim 7 = .ok (.invokestatic 144, 3) := by decide +kernel
theorem dX5_claim_10 : decode cX5_claim 10 = .ok (.astore_n 3, 1) := by decide +kernel
theorem dX5_claim_11 : decode cX5_claim 11 = .ok (.aload_n 2, 1) := by decide +kernel
theorem dX5_claim_12 : decode cX5_claim 12 = .ok (.getfield 148, 3) := by decide +kernel
theorem dX5_claim_15 : decode cX5_claim 15 = .ok (.ifCond .ne 10, 3) := by decide +kernel
theorem dX5_claim_18 : decode cX5_claim 18 = .ok (.aload_n 3, 1) := by decide +kernel
theorem dX5_claim_19 : decode cX5_claim 19 = .ok (.invokevirtual 152, 3) := by decide +kernel
theorem dX5_claim_22 : decode cX5_claim 22 = .ok (.ifCond .ne 13, 3) := by decide +kernel
theorem dX5_claim_25 : decode cX5_claim 25 = .ok (.new 156, 3) := by decide +kernel
theorem dX5_claim_28 : decode cX5_claim 28 = .ok (.dup, 1) := by decide +kernel
theorem dX5_claim_29 : decode cX5_claim 29 = .ok (.ldc 158, 2) := by decide +kernel
theorem dX5_claim_31 : decode cX5_claim 31 = .ok (.invokespecial 160, 3) := by decide +kernel
theorem dX5_claim_34 : decode cX5_claim 34 = .ok (.athrow, 1) := by decide +kernel
theorem dX5_claim_35 : decode cX5_claim 35 = .ok (.aload_n 3, 1) := by decide +kernel
theorem dX5_claim_36 : decode cX5_claim 36 = .ok (.invokevirtual 161, 3) := by decide +kernel
theorem dX5_claim_39 : decode cX5_claim 39 = .ok (.istore 4, 2) := by decide +kernel
theorem dX5_claim_41 : decode cX5_claim 41 = .ok (.aload_n 2, 1) := by decide +kernel
theorem dX5_claim_42 : decode cX5_claim 42 = .ok (.iconst 1, 1) := by decide +kernel
theorem dX5_claim_43 : decode cX5_claim 43 = .ok (.putfield 148, 3) := by decide +kernel
theorem dX5_claim_46 : decode cX5_claim 46 = .ok (.aload_n 0, 1) := by decide +kernel
theorem dX5_claim_47 : decode cX5_claim 47 = .ok (.getfield 34, 3) := by decide +kernel
theorem dX5_claim_50 : decode cX5_claim 50 = .ok (.aload_n 3, 1) := by decide +kernel
theorem dX5_claim_51 : decode cX5_claim 51 = .ok (.getfield 164, 3) := by decide +kernel
theorem dX5_claim_54 : decode cX5_claim 54 = .ok (.getfield 168, 3) := by decide +kernel
theorem dX5_claim_57 : decode cX5_claim 57 = .ok (.aaload, 1) := by decide +kernel
theorem dX5_claim_58 : decode cX5_claim 58 = .ok (.iload 4, 2) := by decide +kernel
theorem dX5_claim_60 : decode cX5_claim 60 = .ok (.dup2, 1) := by decide +kernel
theorem dX5_claim_61 : decode cX5_claim 61 = .ok (.iaload, 1) := by decide +kernel
theorem dX5_claim_62 : decode cX5_claim 62 = .ok (.iconst 1, 1) := by decide +kernel
theorem dX5_claim_63 : decode cX5_claim 63 = .ok (.iadd, 1) := by decide +kernel
theorem dX5_claim_64 : decode cX5_claim 64 = .ok (.iastore, 1) := by decide +kernel
theorem dX5_claim_65 : decode cX5_claim 65 = .ok (.iload 4, 2) := by decide +kernel
theorem dX5_claim_67 : decode cX5_claim 67 = .ok (.ireturn, 1) := by decide +kernel
theorem dX5_stateOf_0 : decode cX5_stateOf 0 = .ok (.aload_n 0, 1) := by decide +kernel
theorem dX5_stateOf_1 : decode cX5_stateOf 1 = .ok (.iload_n 1, 1) := by decide +kernel
theorem dX5_stateOf_2 : decode cX5_stateOf 2 = .ok (.invokevirtual 103, 3) := by decide +kernel
theorem dX5_stateOf_5 : decode cX5_stateOf 5 = .ok (.astore_n 2, 1) := by decide +kernel
theorem dX5_stateOf_6 : decode cX5_stateOf 6 = .ok (.aload_n 2, 1) := by decide +kernel
theorem dX5_stateOf_7 : decode cX5_stateOf 7 = .ok (.getfield 171, 3) := by decide +kernel
theorem dX5_stateOf_10 : decode cX5_stateOf 10 = .ok (.ifnonnull 5, 3) := by decide +kernel
theorem dX5_stateOf_13 : decode cX5_stateOf 13 = .ok (.iconst 0, 1) := by decide +kernel
theorem dX5_stateOf_14 : decode cX5_stateOf 14 = .ok (.ireturn, 1) := by decide +kernel
theorem dX5_stateOf_15 : decode cX5_stateOf 15 = .ok (.aload_n 2, 1) := by decide +kernel
theorem dX5_stateOf_16 : decode cX5_stateOf 16 = .ok (.getfield 148, 3) := by decide +kernel
theorem dX5_stateOf_19 : decode cX5_stateOf 19 = .ok (.ifCond .eq 7, 3) := by decide +kernel
theorem dX5_stateOf_22 : decode cX5_stateOf 22 = .ok (.iconst 2, 1) := by decide +kernel
theorem dX5_stateOf_23 : decode cX5_stateOf 23 = .ok (.goto 4, 3) := by decide +kernel
theorem dX5_stateOf_26 : decode cX5_stateOf 26 = .ok (.iconst 1, 1) := by decide +kernel
theorem dX5_stateOf_27 : decode cX5_stateOf 27 = .ok (.ireturn, 1) := by decide +kernel
theorem dX5_colour_0 : decode cX5_colour 0 = .ok (.aload_n 0, 1) := by decide +kernel
theorem dX5_colour_1 : decode cX5_colour 1 = .ok (.iload_n 1, 1) := by decide +kernel
theorem dX5_colour_2 : decode cX5_colour 2 = .ok (.invokevirtual 103, 3) := by decide +kernel
theorem dX5_colour_5 : decode cX5_colour 5 = .ok (.astore_n 3, 1) := by decide +kernel
theorem dX5_colour_6 : decode cX5_colour 6 = .ok (.iload_n 2, 1) := by decide +kernel
theorem dX5_colour_7 : decode cX5_colour 7 = .ok (.iconst 2, 1) := by decide +kernel
theorem dX5_colour_8 : decode cX5_colour 8 = .ok (.invokestatic 65, 3) := by decide +kernel
theorem dX5_colour_11 : decode cX5_colour 11 = .ok (.aload_n 3, 1) := by decide +kernel
theorem dX5_colour_12 : decode cX5_colour 12 = .ok (.invokestatic 144, 3) := by decide +kernel
theorem dX5_colour_15 : decode cX5_colour 15 = .ok (.astore 4, 2) := by decide +kernel
theorem dX5_colour_17 : decode cX5_colour 17 = .ok (.aload 4, 2) := by decide +kernel
theorem dX5_colour_19 : decode cX5_colour 19 = .ok (.iload_n 2, 1) := by decide +kernel
theorem dX5_colour_20 : decode cX5_colour 20 = .ok (.aload 4, 2) := by decide +kernel
theorem dX5_colour_22 : decode cX5_colour 22 = .ok (.getfield 175, 3) := by decide +kernel
theorem dX5_colour_25 : decode cX5_colour 25 = .ok (.invokevirtual 178, 3) := by decide +kernel
theorem dX5_colour_28 : decode cX5_colour 28 = .ok (.ireturn, 1) := by decide +kernel
theorem dX5_colourByBath_0 : decode cX5_colourByBath 0 = .ok (.aload_n 0, 1) := by decide +kernel
theorem dX5_colourByBath_1 : decode cX5_colourByBath 1 = .ok (.iload_n 1, 1) := by decide +kernel
theorem dX5_colourByBath_2 : decode cX5_colourByBath 2 = .ok (.invokevirtual 103, 3) := by decide +kernel
theorem dX5_colourByBath_5 : decode cX5_colourByBath 5 = .ok (.astore_n 3, 1) := by decide +kernel
theorem dX5_colourByBath_6 : decode cX5_colourByBath 6 = .ok (.iload_n 2, 1) := by decide +kernel
theorem dX5_colourByBath_7 : decode cX5_colourByBath 7 = .ok (.iconst 2, 1) := by decide +kernel
theorem dX5_colourByBath_8 : decode cX5_colourByBath 8 = .ok (.invokestatic 65, 3) := by decide +kernel
theorem dX5_colourByBath_11 : decode cX5_colourByBath 11 = .ok (.aload_n 3, 1) := by decide +kernel
theorem dX5_colourByBath_12 : decode cX5_colourByBath 12 = .ok (.invokestatic 144, 3) := by decide +kernel
theorem dX5_colourByBath_15 : decode cX5_colourByBath 15 = .ok (.astore 4, 2) := by decide +kernel
theorem dX5_colourByBath_17 : decode cX5_colourByBath 17 = .ok (.aload 4, 2) := by decide +kernel
theorem dX5_colourByBath_19 : decode cX5_colourByBath 19 = .ok (.iload_n 2, 1) := by decide +kernel
theorem dX5_colourByBath_20 : decode cX5_colourByBath 20 = .ok (.aload 4, 2) := by decide +kernel
theorem dX5_colourByBath_22 : decode cX5_colourByBath 22 = .ok (.getfield 164, 3) := by decide +kernel
theorem dX5_colourByBath_25 : decode cX5_colourByBath 25 = .ok (.iload_n 1, 1) := by decide +kernel
theorem dX5_colourByBath_26 : decode cX5_colourByBath 26 = .ok (.invokevirtual 181, 3) := by decide +kernel
theorem dX5_colourByBath_29 : decode cX5_colourByBath 29 = .ok (.invokevirtual 178, 3) := by decide +kernel
theorem dX5_colourByBath_32 : decode cX5_colourByBath 32 = .ok (.ireturn, 1) := by decide +kernel
theorem dX5_blamed_0 : decode cX5_blamed 0 = .ok (.iload_n 1, 1) := by decide +kernel
theorem dX5_blamed_1 : decode cX5_blamed 1 = .ok (.iconst 3, 1) := by decide +kernel
theorem dX5_blamed_2 : decode cX5_blamed 2 = .ok (.invokestatic 65, 3) := by decide +kernel
theorem dX5_blamed_5 : decode cX5_blamed 5 = .ok (.iload_n 2, 1) := by decide +kernel
theorem dX5_blamed_6 : decode cX5_blamed 6 = .ok (.iconst 0, 1) := by decide +kernel
theorem dX5_blamed_7 : decode cX5_blamed 7 = .ok (.iconst 2, 1) := by decide +kernel
theorem dX5_blamed_8 : decode cX5_blamed 8 = .ok (.invokestatic 44, 3) := by decide +kernel
theorem dX5_blamed_11 : decode cX5_blamed 11 = .ok (.aload_n 0, 1) := by decide +kernel
theorem dX5_blamed_12 : decode cX5_blamed 12 = .ok (.getfield 34, 3) := by decide +kernel
theorem dX5_blamed_15 : decode cX5_blamed 15 = .ok (.iload_n 1, 1) := by decide +kernel
theorem dX5_blamed_16 : decode cX5_blamed 16 = .ok (.aaload, 1) := by decide +kernel
theorem dX5_blamed_17 : decode cX5_blamed 17 = .ok (.iload_n 2, 1) := by decide +kernel
theorem dX5_blamed_18 : decode cX5_blamed 18 = .ok (.iaload, 1) := by decide +kernel
theorem dX5_blamed_19 : decode cX5_blamed 19 = .ok (.ireturn, 1) := by decide +kernel
theorem dX5_shrinks_0 : decode cX5_shrinks 0 = .ok (.iload_n 1, 1) := by decide +kernel
theorem dX5_shrinks_1 : decode cX5_shrinks 1 = .ok (.iconst 3, 1) := by decide +kernel
theorem dX5_shrinks_2 : decode cX5_shrinks 2 = .ok (.invokestatic 65, 3) := by decide +kernel
theorem dX5_shrinks_5 : decode cX5_shrinks 5 = .ok (.iload_n 2, 1) := by decide +kernel
theorem dX5_shrinks_6 : decode cX5_shrinks 6 = .ok (.iconst 0, 1) := by decide +kernel
theorem dX5_shrinks_7 : decode cX5_shrinks 7 = .ok (.bipush 90, 2) := by decide +kernel
theorem dX5_shrinks_9 : decode cX5_shrinks 9 = .ok (.invokestatic 44, 3) := by decide +kernel
theorem dX5_shrinks_12 : decode cX5_shrinks 12 = .ok (.aload_n 0, 1) := by decide +kernel
theorem dX5_shrinks_13 : decode cX5_shrinks 13 = .ok (.getfield 39, 3) := by decide +kernel
theorem dX5_shrinks_16 : decode cX5_shrinks 16 = .ok (.iload_n 1, 1) := by decide +kernel
theorem dX5_shrinks_17 : decode cX5_shrinks 17 = .ok (.aaload, 1) := by decide +kernel
theorem dX5_shrinks_18 : decode cX5_shrinks 18 = .ok (.getfield 185, 3) := by decide +kernel
theorem dX5_shrinks_21 : decode cX5_shrinks 21 = .ok (.istore_n 3, 1) := by decide +kernel
theorem dX5_shrinks_22 : decode cX5_shrinks 22 = .ok (.aload_n 0, 1) := by decide +kernel
theorem dX5_shrinks_23 : decode cX5_shrinks 23 = .ok (.getfield 39, 3) := by decide +kernel
theorem dX5_shrinks_26 : decode cX5_shrinks 26 = .ok (.iload_n 1, 1) := by decide +kernel
theorem dX5_shrinks_27 : decode cX5_shrinks 27 = .ok (.aaload, 1) := by decide +kernel
theorem dX5_shrinks_28 : decode cX5_shrinks 28 = .ok (.iload_n 2, 1) := by decide +kernel
theorem dX5_shrinks_29 : decode cX5_shrinks 29 = .ok (.putfield 185, 3) := by decide +kernel
theorem dX5_shrinks_32 : decode cX5_shrinks 32 = .ok (.iload_n 3, 1) := by decide +kernel
theorem dX5_shrinks_33 : decode cX5_shrinks 33 = .ok (.ireturn, 1) := by decide +kernel
theorem dX5_give_0 : decode cX5_give 0 = .ok (.iload_n 1, 1) := by decide +kernel
theorem dX5_give_1 : decode cX5_give 1 = .ok (.iconst 5, 1) := by decide +kernel
theorem dX5_give_2 : decode cX5_give 2 = .ok (.invokestatic 65, 3) := by decide +kernel
theorem dX5_give_5 : decode cX5_give 5 = .ok (.iload_n 2, 1) := by decide +kernel
theorem dX5_give_6 : decode cX5_give 6 = .ok (.iconst 5, 1) := by decide +kernel
theorem dX5_give_7 : decode cX5_give 7 = .ok (.invokestatic 65, 3) := by decide +kernel
theorem dX5_give_10 : decode cX5_give 10 = .ok (.iload_n 3, 1) := by decide +kernel
theorem dX5_give_11 : decode cX5_give 11 = .ok (.iconst 3, 1) := by decide +kernel
theorem dX5_give_12 : decode cX5_give 12 = .ok (.invokestatic 65, 3) := by decide +kernel
theorem dX5_give_15 : decode cX5_give 15 = .ok (.iload_n 1, 1) := by decide +kernel
theorem dX5_give_16 : decode cX5_give 16 = .ok (.iload_n 2, 1) := by decide +kernel
theorem dX5_give_17 : decode cX5_give 17 = .ok (.if_icmp .ne 13, 3) := by decide +kernel
theorem dX5_give_20 : decode cX5_give 20 = .ok (.new 134, 3) := by decide +kernel
theorem dX5_give_23 : decode cX5_give 23 = .ok (.dup, 1) := by decide +kernel
theorem dX5_give_24 : decode cX5_give 24 = .ok (.ldc 188, 2) := by decide +kernel
theorem dX5_give_26 : decode cX5_give 26 = .ok (.invokespecial 138, 3) := by decide +kernel
theorem dX5_give_29 : decode cX5_give 29 = .ok (.athrow, 1) := by decide +kernel
theorem dX5_give_30 : decode cX5_give 30 = .ok (.iload 4, 2) := by decide +kernel
theorem dX5_give_32 : decode cX5_give 32 = .ok (.iconst 1, 1) := by decide +kernel
theorem dX5_give_33 : decode cX5_give 33 = .ok (.sipush 1000, 3) := by decide +kernel
theorem dX5_give_36 : decode cX5_give 36 = .ok (.invokestatic 44, 3) := by decide +kernel
theorem dX5_give_39 : decode cX5_give 39 = .ok (.aload_n 0, 1) := by decide +kernel
theorem dX5_give_40 : decode cX5_give 40 = .ok (.getfield 39, 3) := by decide +kernel
theorem dX5_give_43 : decode cX5_give 43 = .ok (.iload_n 3, 1) := by decide +kernel
theorem dX5_give_44 : decode cX5_give 44 = .ok (.aaload, 1) := by decide +kernel
theorem dX5_give_45 : decode cX5_give 45 = .ok (.astore 5, 2) := by decide +kernel
theorem dX5_give_47 : decode cX5_give 47 = .ok (.aload 5, 2) := by decide +kernel
theorem dX5_give_49 : decode cX5_give 49 = .ok (.getfield 190, 3) := by decide +kernel
theorem dX5_give_52 : decode cX5_give 52 = .ok (.iload_n 2, 1) := by decide +kernel
theorem dX5_give_53 : decode cX5_give 53 = .ok (.aaload, 1) := by decide +kernel
theorem dX5_give_54 : decode cX5_give 54 = .ok (.iload_n 1, 1) := by decide +kernel
theorem dX5_give_55 : decode cX5_give 55 = .ok (.iaload, 1) := by decide +kernel
theorem dX5_give_56 : decode cX5_give 56 = .ok (.aload 5, 2) := by decide +kernel
theorem dX5_give_58 : decode cX5_give 58 = .ok (.iload 4, 2) := by decide +kernel
theorem dX5_give_60 : decode cX5_give 60 = .ok (.invokevirtual 193, 3) := by decide +kernel
theorem dX5_give_63 : decode cX5_give 63 = .ok (.iadd, 1) := by decide +kernel
theorem dX5_give_64 : decode cX5_give 64 = .ok (.istore 6, 2) := by decide +kernel
theorem dX5_give_66 : decode cX5_give 66 = .ok (.iload 6, 2) := by decide +kernel
theorem dX5_give_68 : decode cX5_give 68 = .ok (.ldc 196, 2) := by decide +kernel
theorem dX5_give_70 : decode cX5_give 70 = .ok (.if_icmp .le 13, 3) := by decide +kernel
theorem dX5_give_73 : decode cX5_give 73 = .ok (.new 156, 3) := by decide +kernel
theorem dX5_give_76 : decode cX5_give 76 = .ok (.dup, 1) := by decide +kernel
theorem dX5_give_77 : decode cX5_give 77 = .ok (.ldc 197, 2) := by decide +kernel
theorem dX5_give_79 : decode cX5_give 79 = .ok (.invokespecial 160, 3) := by decide +kernel
theorem dX5_give_82 : decode cX5_give 82 = .ok (.athrow, 1) := by decide +kernel
theorem dX5_give_83 : decode cX5_give 83 = .ok (.aload 5, 2) := by decide +kernel
theorem dX5_give_85 : decode cX5_give 85 = .ok (.getfield 190, 3) := by decide +kernel
theorem dX5_give_88 : decode cX5_give 88 = .ok (.iload_n 2, 1) := by decide +kernel
theorem dX5_give_89 : decode cX5_give 89 = .ok (.aaload, 1) := by decide +kernel
theorem dX5_give_90 : decode cX5_give 90 = .ok (.iload_n 1, 1) := by decide +kernel
theorem dX5_give_91 : decode cX5_give 91 = .ok (.iload 6, 2) := by decide +kernel
theorem dX5_give_93 : decode cX5_give 93 = .ok (.iastore, 1) := by decide +kernel
theorem dX5_give_94 : decode cX5_give 94 = .ok (.iload 6, 2) := by decide +kernel
theorem dX5_give_96 : decode cX5_give 96 = .ok (.ireturn, 1) := by decide +kernel
theorem dX5_owes_0 : decode cX5_owes 0 = .ok (.iload_n 1, 1) := by decide +kernel
theorem dX5_owes_1 : decode cX5_owes 1 = .ok (.iconst 5, 1) := by decide +kernel
theorem dX5_owes_2 : decode cX5_owes 2 = .ok (.invokestatic 65, 3) := by decide +kernel
theorem dX5_owes_5 : decode cX5_owes 5 = .ok (.iload_n 2, 1) := by decide +kernel
theorem dX5_owes_6 : decode cX5_owes 6 = .ok (.iconst 5, 1) := by decide +kernel
theorem dX5_owes_7 : decode cX5_owes 7 = .ok (.invokestatic 65, 3) := by decide +kernel
theorem dX5_owes_10 : decode cX5_owes 10 = .ok (.iload_n 3, 1) := by decide +kernel
theorem dX5_owes_11 : decode cX5_owes 11 = .ok (.iconst 3, 1) := by decide +kernel
theorem dX5_owes_12 : decode cX5_owes 12 = .ok (.invokestatic 65, 3) := by decide +kernel
theorem dX5_owes_15 : decode cX5_owes 15 = .ok (.aload_n 0, 1) := by decide +kernel
theorem dX5_owes_16 : decode cX5_owes 16 = .ok (.getfield 39, 3) := by decide +kernel
theorem dX5_owes_19 : decode cX5_owes 19 = .ok (.iload_n 3, 1) := by decide +kernel
theorem dX5_owes_20 : decode cX5_owes 20 = .ok (.aaload, 1) := by decide +kernel
theorem dX5_owes_21 : decode cX5_owes 21 = .ok (.getfield 190, 3) := by decide +kernel
theorem dX5_owes_24 : decode cX5_owes 24 = .ok (.iload_n 1, 1) := by decide +kernel
theorem dX5_owes_25 : decode cX5_owes 25 = .ok (.aaload, 1) := by decide +kernel
theorem dX5_owes_26 : decode cX5_owes 26 = .ok (.iload_n 2, 1) := by decide +kernel
theorem dX5_owes_27 : decode cX5_owes 27 = .ok (.iaload, 1) := by decide +kernel
theorem dX5_owes_28 : decode cX5_owes 28 = .ok (.ireturn, 1) := by decide +kernel
theorem dX5_position_0 : decode cX5_position 0 = .ok (.iload_n 1, 1) := by decide +kernel
theorem dX5_position_1 : decode cX5_position 1 = .ok (.iconst 5, 1) := by decide +kernel
theorem dX5_position_2 : decode cX5_position 2 = .ok (.invokestatic 65, 3) := by decide +kernel
theorem dX5_position_5 : decode cX5_position 5 = .ok (.iload_n 2, 1) := by decide +kernel
theorem dX5_position_6 : decode cX5_position 6 = .ok (.iconst 3, 1) := by decide +kernel
theorem dX5_position_7 : decode cX5_position 7 = .ok (.invokestatic 65, 3) := by decide +kernel
theorem dX5_position_10 : decode cX5_position 10 = .ok (.aload_n 0, 1) := by decide +kernel
theorem dX5_position_11 : decode cX5_position 11 = .ok (.getfield 39, 3) := by decide +kernel
theorem dX5_position_14 : decode cX5_position 14 = .ok (.iload_n 2, 1) := by decide +kernel
theorem dX5_position_15 : decode cX5_position 15 = .ok (.aaload, 1) := by decide +kernel
theorem dX5_position_16 : decode cX5_position 16 = .ok (.iload_n 1, 1) := by decide +kernel
theorem dX5_position_17 : decode cX5_position 17 = .ok (.invokevirtual 199, 3) := by decide +kernel
theorem dX5_position_20 : decode cX5_position 20 = .ok (.ireturn, 1) := by decide +kernel
theorem dX5_net_0 : decode cX5_net 0 = .ok (.iload_n 1, 1) := by decide +kernel
theorem dX5_net_1 : decode cX5_net 1 = .ok (.iconst 3, 1) := by decide +kernel
theorem dX5_net_2 : decode cX5_net 2 = .ok (.invokestatic 65, 3) := by decide +kernel
theorem dX5_net_5 : decode cX5_net 5 = .ok (.aload_n 0, 1) := by decide +kernel
theorem dX5_net_6 : decode cX5_net 6 = .ok (.getfield 39, 3) := by decide +kernel
theorem dX5_net_9 : decode cX5_net 9 = .ok (.iload_n 1, 1) := by decide +kernel
theorem dX5_net_10 : decode cX5_net 10 = .ok (.aaload, 1) := by decide +kernel
theorem dX5_net_11 : decode cX5_net 11 = .ok (.invokevirtual 202, 3) := by decide +kernel
theorem dX5_net_14 : decode cX5_net 14 = .ok (.ireturn, 1) := by decide +kernel
theorem dX5_requireIndex_0 : decode cX5_requireIndex 0 = .ok (.iload_n 0, 1) := by decide +kernel
theorem dX5_requireIndex_1 : decode cX5_requireIndex 1 = .ok (.ifCond .lt 8, 3) := by decide +kernel
theorem dX5_requireIndex_4 : decode cX5_requireIndex 4 = .ok (.iload_n 0, 1) := by decide +kernel
theorem dX5_requireIndex_5 : decode cX5_requireIndex 5 = .ok (.iload_n 1, 1) := by decide +kernel
theorem dX5_requireIndex_6 : decode cX5_requireIndex 6 = .ok (.if_icmp .lt 13, 3) := by decide +kernel
theorem dX5_requireIndex_9 : decode cX5_requireIndex 9 = .ok (.new 205, 3) := by decide +kernel
theorem dX5_requireIndex_12 : decode cX5_requireIndex 12 = .ok (.dup, 1) := by decide +kernel
theorem dX5_requireIndex_13 : decode cX5_requireIndex 13 = .ok (.ldc 207, 2) := by decide +kernel
theorem dX5_requireIndex_15 : decode cX5_requireIndex 15 = .ok (.invokespecial 209, 3) := by decide +kernel
theorem dX5_requireIndex_18 : decode cX5_requireIndex 18 = .ok (.athrow, 1) := by decide +kernel
theorem dX5_requireIndex_19 : decode cX5_requireIndex 19 = .ok (.return_, 1) := by decide +kernel
theorem dX5_requireRange_0 : decode cX5_requireRange 0 = .ok (.iload_n 0, 1) := by decide +kernel
theorem dX5_requireRange_1 : decode cX5_requireRange 1 = .ok (.iload_n 1, 1) := by decide +kernel
theorem dX5_requireRange_2 : decode cX5_requireRange 2 = .ok (.if_icmp .lt 8, 3) := by decide +kernel
theorem dX5_requireRange_5 : decode cX5_requireRange 5 = .ok (.iload_n 0, 1) := by decide +kernel
theorem dX5_requireRange_6 : decode cX5_requireRange 6 = .ok (.iload_n 2, 1) := by decide +kernel
theorem dX5_requireRange_7 : decode cX5_requireRange 7 = .ok (.if_icmp .le 13, 3) := by decide +kernel
theorem dX5_requireRange_10 : decode cX5_requireRange 10 = .ok (.new 134, 3) := by decide +kernel
theorem dX5_requireRange_13 : decode cX5_requireRange 13 = .ok (.dup, 1) := by decide +kernel
theorem dX5_requireRange_14 : decode cX5_requireRange 14 = .ok (.ldc 210, 2) := by decide +kernel
theorem dX5_requireRange_16 : decode cX5_requireRange 16 = .ok (.invokespecial 138, 3) := by decide +kernel
theorem dX5_requireRange_19 : decode cX5_requireRange 19 = .ok (.athrow, 1) := by decide +kernel
theorem dX5_requireRange_20 : decode cX5_requireRange 20 = .ok (.return_, 1) := by decide +kernel
theorem dX5_requireRoom_0 : decode cX5_requireRoom 0 = .ok (.iload_n 0, 1) := by decide +kernel
theorem dX5_requireRoom_1 : decode cX5_requireRoom 1 = .ok (.iload_n 1, 1) := by decide +kernel
theorem dX5_requireRoom_2 : decode cX5_requireRoom 2 = .ok (.if_icmp .lt 13, 3) := by decide +kernel
theorem dX5_requireRoom_5 : decode cX5_requireRoom 5 = .ok (.new 156, 3) := by decide +kernel
theorem dX5_requireRoom_8 : decode cX5_requireRoom 8 = .ok (.dup, 1) := by decide +kernel
theorem dX5_requireRoom_9 : decode cX5_requireRoom 9 = .ok (.ldc 212, 2) := by decide +kernel
theorem dX5_requireRoom_11 : decode cX5_requireRoom 11 = .ok (.invokespecial 160, 3) := by decide +kernel
theorem dX5_requireRoom_14 : decode cX5_requireRoom 14 = .ok (.athrow, 1) := by decide +kernel
theorem dX5_requireRoom_15 : decode cX5_requireRoom 15 = .ok (.return_, 1) := by decide +kernel
theorem dX5_requireWaiting_0 : decode cX5_requireWaiting 0 = .ok (.aload_n 0, 1) := by decide +kernel
theorem dX5_requireWaiting_1 : decode cX5_requireWaiting 1 = .ok (.getfield 171, 3) := by decide +kernel
theorem dX5_requireWaiting_4 : decode cX5_requireWaiting 4 = .ok (.ifnull 13, 3) := by decide +kernel
theorem dX5_requireWaiting_7 : decode cX5_requireWaiting 7 = .ok (.new 156, 3) := by decide +kernel
theorem dX5_requireWaiting_10 : decode cX5_requireWaiting 10 = .ok (.dup, 1) := by decide +kernel
theorem dX5_requireWaiting_11 : decode cX5_requireWaiting 11 = .ok (.ldc 214, 2) := by decide +kernel
theorem dX5_requireWaiting_13 : decode cX5_requireWaiting 13 = .ok (.invokespecial 160, 3) := by decide +kernel
theorem dX5_requireWaiting_16 : decode cX5_requireWaiting 16 = .ok (.athrow, 1) := by decide +kernel
theorem dX5_requireWaiting_17 : decode cX5_requireWaiting 17 = .ok (.return_, 1) := by decide +kernel
theorem dX5_pieceOf_0 : decode cX5_pieceOf 0 = .ok (.aload_n 0, 1) := by decide +kernel
theorem dX5_pieceOf_1 : decode cX5_pieceOf 1 = .ok (.getfield 171, 3) := by decide +kernel
theorem dX5_pieceOf_4 : decode cX5_pieceOf 4 = .ok (.astore_n 1, 1) := by decide +kernel
theorem dX5_pieceOf_5 : decode cX5_pieceOf 5 = .ok (.aload_n 1, 1) := by decide +kernel
theorem dX5_pieceOf_6 : decode cX5_pieceOf 6 = .ok (.ifnonnull 13, 3) := by decide +kernel
theorem dX5_pieceOf_9 : decode cX5_pieceOf 9 = .ok (.new 156, 3) := by decide +kernel
theorem dX5_pieceOf_12 : decode cX5_pieceOf 12 = .ok (.dup, 1) := by decide +kernel
theorem dX5_pieceOf_13 : decode cX5_pieceOf 13 = .ok (.ldc 216, 2) := by decide +kernel
theorem dX5_pieceOf_15 : decode cX5_pieceOf 15 = .ok (.invokespecial 160, 3) := by decide +kernel
theorem dX5_pieceOf_18 : decode cX5_pieceOf 18 = .ok (.athrow, 1) := by decide +kernel
theorem dX5_pieceOf_19 : decode cX5_pieceOf 19 = .ok (.aload_n 1, 1) := by decide +kernel
theorem dX5_pieceOf_20 : decode cX5_pieceOf 20 = .ok (.areturn, 1) := by decide +kernel
theorem dX5_findEntry_0 : decode cX5_findEntry 0 = .ok (.iload_n 1, 1) := by decide +kernel
theorem dX5_findEntry_1 : decode cX5_findEntry 1 = .ok (.aload_n 0, 1) := by decide +kernel
theorem dX5_findEntry_2 : decode cX5_findEntry 2 = .ok (.getfield 10, 3) := by decide +kernel
theorem dX5_findEntry_5 : decode cX5_findEntry 5 = .ok (.invokevirtual 48, 3) := by decide +kernel
theorem dX5_findEntry_8 : decode cX5_findEntry 8 = .ok (.invokestatic 65, 3) := by decide +kernel
theorem dX5_findEntry_11 : decode cX5_findEntry 11 = .ok (.aload_n 0, 1) := by decide +kernel
theorem dX5_findEntry_12 : decode cX5_findEntry 12 = .ok (.getfield 10, 3) := by decide +kernel
theorem dX5_findEntry_15 : decode cX5_findEntry 15 = .ok (.iload_n 1, 1) := by decide +kernel
theorem dX5_findEntry_16 : decode cX5_findEntry 16 = .ok (.invokevirtual 218, 3) := by decide +kernel
theorem dX5_findEntry_19 : decode cX5_findEntry 19 = .ok (.checkcast 56, 3) := by decide +kernel
theorem dX5_findEntry_22 : decode cX5_findEntry 22 = .ok (.areturn, 1) := by decide +kernel
theorem dX5_findBath_0 : decode cX5_findBath 0 = .ok (.iload_n 1, 1) := by decide +kernel
theorem dX5_findBath_1 : decode cX5_findBath 1 = .ok (.aload_n 0, 1) := by decide +kernel
theorem dX5_findBath_2 : decode cX5_findBath 2 = .ok (.getfield 16, 3) := by decide +kernel
theorem dX5_findBath_5 : decode cX5_findBath 5 = .ok (.invokevirtual 48, 3) := by decide +kernel
theorem dX5_findBath_8 : decode cX5_findBath 8 = .ok (.invokestatic 65, 3) := by decide +kernel
theorem dX5_findBath_11 : decode cX5_findBath 11 = .ok (.aload_n 0, 1) := by decide +kernel
theorem dX5_findBath_12 : decode cX5_findBath 12 = .ok (.getfield 16, 3) := by decide +kernel
theorem dX5_findBath_15 : decode cX5_findBath 15 = .ok (.iload_n 1, 1) := by decide +kernel
theorem dX5_findBath_16 : decode cX5_findBath 16 = .ok (.invokevirtual 218, 3) := by decide +kernel
theorem dX5_findBath_19 : decode cX5_findBath 19 = .ok (.checkcast 83, 3) := by decide +kernel
theorem dX5_findBath_22 : decode cX5_findBath 22 = .ok (.areturn, 1) := by decide +kernel
theorem dX5_findOrder_0 : decode cX5_findOrder 0 = .ok (.iload_n 1, 1) := by decide +kernel
theorem dX5_findOrder_1 : decode cX5_findOrder 1 = .ok (.aload_n 0, 1) := by decide +kernel
theorem dX5_findOrder_2 : decode cX5_findOrder 2 = .ok (.getfield 19, 3) := by decide +kernel
theorem dX5_findOrder_5 : decode cX5_findOrder 5 = .ok (.invokevirtual 48, 3) := by decide +kernel
theorem dX5_findOrder_8 : decode cX5_findOrder 8 = .ok (.invokestatic 65, 3) := by decide +kernel
theorem dX5_findOrder_11 : decode cX5_findOrder 11 = .ok (.aload_n 0, 1) := by decide +kernel
theorem dX5_findOrder_12 : decode cX5_findOrder 12 = .ok (.getfield 19, 3) := by decide +kernel
theorem dX5_findOrder_15 : decode cX5_findOrder 15 = .ok (.iload_n 1, 1) := by decide +kernel
theorem dX5_findOrder_16 : decode cX5_findOrder 16 = .ok (.invokevirtual 218, 3) := by decide +kernel
theorem dX5_findOrder_19 : decode cX5_findOrder 19 = .ok (.checkcast 98, 3) := by decide +kernel
theorem dX5_findOrder_22 : decode cX5_findOrder 22 = .ok (.areturn, 1) := by decide +kernel
theorem dX5_weakestRightBath_0 : decode cX5_weakestRightBath 0 = .ok (.iconst (-1), 1) := by decide +kernel
theorem dX5_weakestRightBath_1 : decode cX5_weakestRightBath 1 = .ok (.istore_n 2, 1) := by decide +kernel
theorem dX5_weakestRightBath_2 : decode cX5_weakestRightBath 2 = .ok (.bipush 101, 2) := by decide +kernel
theorem dX5_weakestRightBath_4 : decode cX5_weakestRightBath 4 = .ok (.istore_n 3, 1) := by decide +kernel
theorem dX5_weakestRightBath_5 : decode cX5_weakestRightBath 5 = .ok (.iconst 0, 1) := by decide +kernel
theorem dX5_weakestRightBath_6 : decode cX5_weakestRightBath 6 = .ok (.istore 4, 2) := by decide +kernel
theorem dX5_weakestRightBath_8 : decode cX5_weakestRightBath 8 = .ok (.iload 4, 2) := by decide +kernel
theorem dX5_weakestRightBath_10 : decode cX5_weakestRightBath 10 = .ok (.aload_n 0, 1) := by decide +kernel
theorem dX5_weakestRightBath_11 : decode cX5_weakestRightBath 11 = .ok (.getfield 16, 3) := by decide +kernel
theorem dX5_weakestRightBath_14 : decode cX5_weakestRightBath 14 = .ok (.invokevirtual 48, 3) := by decide +kernel
theorem dX5_weakestRightBath_17 : decode cX5_weakestRightBath 17 = .ok (.if_icmp .ge 51, 3) := by decide +kernel
theorem dX5_weakestRightBath_20 : decode cX5_weakestRightBath 20 = .ok (.aload_n 0, 1) := by decide +kernel
theorem dX5_weakestRightBath_21 : decode cX5_weakestRightBath 21 = .ok (.getfield 16, 3) := by decide +kernel
theorem dX5_weakestRightBath_24 : decode cX5_weakestRightBath 24 = .ok (.iload 4, 2) := by decide +kernel
theorem dX5_weakestRightBath_26 : decode cX5_weakestRightBath 26 = .ok (.invokevirtual 218, 3) := by decide +kernel
theorem dX5_weakestRightBath_29 : decode cX5_weakestRightBath 29 = .ok (.checkcast 83, 3) := by decide +kernel
theorem dX5_weakestRightBath_32 : decode cX5_weakestRightBath 32 = .ok (.astore 5, 2) := by decide +kernel
theorem dX5_weakestRightBath_34 : decode cX5_weakestRightBath 34 = .ok (.aload 5, 2) := by decide +kernel
theorem dX5_weakestRightBath_36 : decode cX5_weakestRightBath 36 = .ok (.getfield 95, 3) := by decide +kernel
theorem dX5_weakestRightBath_39 : decode cX5_weakestRightBath 39 = .ok (.iload_n 3, 1) := by decide +kernel
theorem dX5_weakestRightBath_40 : decode cX5_weakestRightBath 40 = .ok (.if_icmp .ge 22, 3) := by decide +kernel
theorem dX5_weakestRightBath_43 : decode cX5_weakestRightBath 43 = .ok (.aload_n 0, 1) := by decide +kernel
theorem dX5_weakestRightBath_44 : decode cX5_weakestRightBath 44 = .ok (.aload 5, 2) := by decide +kernel
theorem dX5_weakestRightBath_46 : decode cX5_weakestRightBath 46 = .ok (.aload_n 1, 1) := by decide +kernel
theorem dX5_weakestRightBath_47 : decode cX5_weakestRightBath 47 = .ok (.invokevirtual 222, 3) := by decide +kernel
theorem dX5_weakestRightBath_50 : decode cX5_weakestRightBath 50 = .ok (.ifCond .eq 12, 3) := by decide +kernel
theorem dX5_weakestRightBath_53 : decode cX5_weakestRightBath 53 = .ok (.iload 4, 2) := by decide +kernel
theorem dX5_weakestRightBath_55 : decode cX5_weakestRightBath 55 = .ok (.istore_n 2, 1) := by decide +kernel
theorem dX5_weakestRightBath_56 : decode cX5_weakestRightBath 56 = .ok (.aload 5, 2) := by decide +kernel
theorem dX5_weakestRightBath_58 : decode cX5_weakestRightBath 58 = .ok (.getfield 95, 3) := by decide +kernel
theorem dX5_weakestRightBath_61 : decode cX5_weakestRightBath 61 = .ok (.istore_n 3, 1) := by decide +kernel
theorem dX5_weakestRightBath_62 : decode cX5_weakestRightBath 62 = .ok (.iinc 4 1, 3) := by decide +kernel
theorem dX5_weakestRightBath_65 : decode cX5_weakestRightBath 65 = .ok (.goto (-57), 3) := by decide +kernel
theorem dX5_weakestRightBath_68 : decode cX5_weakestRightBath 68 = .ok (.iload_n 2, 1) := by decide +kernel
theorem dX5_weakestRightBath_69 : decode cX5_weakestRightBath 69 = .ok (.ireturn, 1) := by decide +kernel
theorem dX5_isRight_0 : decode cX5_isRight 0 = .ok (.aload_n 1, 1) := by decide +kernel
theorem dX5_isRight_1 : decode cX5_isRight 1 = .ok (.aload_n 2, 1) := by decide +kernel
theorem dX5_isRight_2 : decode cX5_isRight 2 = .ok (.getfield 126, 3) := by decide +kernel
theorem dX5_isRight_5 : decode cX5_isRight 5 = .ok (.invokevirtual 130, 3) := by decide +kernel
theorem dX5_isRight_8 : decode cX5_isRight 8 = .ok (.ifCond .ne 5, 3) := by decide +kernel
theorem dX5_isRight_11 : decode cX5_isRight 11 = .ok (.iconst 0, 1) := by decide +kernel
theorem dX5_isRight_12 : decode cX5_isRight 12 = .ok (.ireturn, 1) := by decide +kernel
theorem dX5_isRight_13 : decode cX5_isRight 13 = .ok (.aload_n 1, 1) := by decide +kernel
theorem dX5_isRight_14 : decode cX5_isRight 14 = .ok (.getfield 226, 3) := by decide +kernel
theorem dX5_isRight_17 : decode cX5_isRight 17 = .ok (.aload_n 1, 1) := by decide +kernel
theorem dX5_isRight_18 : decode cX5_isRight 18 = .ok (.getfield 95, 3) := by decide +kernel
theorem dX5_isRight_21 : decode cX5_isRight 21 = .ok (.aload_n 0, 1) := by decide +kernel
theorem dX5_isRight_22 : decode cX5_isRight 22 = .ok (.getfield 22, 3) := by decide +kernel
theorem dX5_isRight_25 : decode cX5_isRight 25 = .ok (.aload_n 1, 1) := by decide +kernel
theorem dX5_isRight_26 : decode cX5_isRight 26 = .ok (.getfield 168, 3) := by decide +kernel
theorem dX5_isRight_29 : decode cX5_isRight 29 = .ok (.iaload, 1) := by decide +kernel
theorem dX5_isRight_30 : decode cX5_isRight 30 = .ok (.aload_n 0, 1) := by decide +kernel
theorem dX5_isRight_31 : decode cX5_isRight 31 = .ok (.getfield 26, 3) := by decide +kernel
theorem dX5_isRight_34 : decode cX5_isRight 34 = .ok (.aload_n 2, 1) := by decide +kernel
theorem dX5_isRight_35 : decode cX5_isRight 35 = .ok (.getfield 227, 3) := by decide +kernel
theorem dX5_isRight_38 : decode cX5_isRight 38 = .ok (.iaload, 1) := by decide +kernel
theorem dX5_isRight_39 : decode cX5_isRight 39 = .ok (.aload_n 0, 1) := by decide +kernel
theorem dX5_isRight_40 : decode cX5_isRight 40 = .ok (.getfield 29, 3) := by decide +kernel
theorem dX5_isRight_43 : decode cX5_isRight 43 = .ok (.aload_n 2, 1) := by decide +kernel
theorem dX5_isRight_44 : decode cX5_isRight 44 = .ok (.getfield 227, 3) := by decide +kernel
theorem dX5_isRight_47 : decode cX5_isRight 47 = .ok (.iaload, 1) := by decide +kernel
theorem dX5_isRight_48 : decode cX5_isRight 48 = .ok (.invokevirtual 230, 3) := by decide +kernel
theorem dX5_isRight_51 : decode cX5_isRight 51 = .ok (.istore_n 3, 1) := by decide +kernel
theorem dX5_isRight_52 : decode cX5_isRight 52 = .ok (.iload_n 3, 1) := by decide +kernel
theorem dX5_isRight_53 : decode cX5_isRight 53 = .ok (.aload_n 1, 1) := by decide +kernel
theorem dX5_isRight_54 : decode cX5_isRight 54 = .ok (.getfield 226, 3) := by decide +kernel
theorem dX5_isRight_57 : decode cX5_isRight 57 = .ok (.getfield 234, 3) := by decide +kernel
theorem dX5_isRight_60 : decode cX5_isRight 60 = .ok (.if_icmp .gt 7, 3) := by decide +kernel
theorem dX5_isRight_63 : decode cX5_isRight 63 = .ok (.iconst 1, 1) := by decide +kernel
theorem dX5_isRight_64 : decode cX5_isRight 64 = .ok (.goto 4, 3) := by decide +kernel
theorem dX5_isRight_67 : decode cX5_isRight 67 = .ok (.iconst 0, 1) := by decide +kernel
theorem dX5_isRight_68 : decode cX5_isRight 68 = .ok (.ireturn, 1) := by decide +kernel
theorem dX5_dyeIn_0 : decode cX5_dyeIn 0 = .ok (.new 140, 3) := by decide +kernel
theorem dX5_dyeIn_3 : decode cX5_dyeIn 3 = .ok (.dup, 1) := by decide +kernel
theorem dX5_dyeIn_4 : decode cX5_dyeIn 4 = .ok (.aload_n 1, 1) := by decide +kernel
theorem dX5_dyeIn_5 : decode cX5_dyeIn 5 = .ok (.aload_n 2, 1) := by decide +kernel
theorem dX5_dyeIn_6 : decode cX5_dyeIn 6 = .ok (.aload_n 0, 1) := by decide +kernel
theorem dX5_dyeIn_7 : decode cX5_dyeIn 7 = .ok (.getfield 22, 3) := by decide +kernel
theorem dX5_dyeIn_10 : decode cX5_dyeIn 10 = .ok (.aload_n 2, 1) := by decide +kernel
theorem dX5_dyeIn_11 : decode cX5_dyeIn 11 = .ok (.getfield 168, 3) := by decide +kernel
theorem dX5_dyeIn_14 : decode cX5_dyeIn 14 = .ok (.iaload, 1) := by decide +kernel
theorem dX5_dyeIn_15 : decode cX5_dyeIn 15 = .ok (.aload_n 0, 1) := by decide +kernel
theorem dX5_dyeIn_16 : decode cX5_dyeIn 16 = .ok (.getfield 26, 3) := by decide +kernel
theorem dX5_dyeIn_19 : decode cX5_dyeIn 19 = .ok (.aload_n 1, 1) := by decide +kernel
theorem dX5_dyeIn_20 : decode cX5_dyeIn 20 = .ok (.getfield 227, 3) := by decide +kernel
theorem dX5_dyeIn_23 : decode cX5_dyeIn 23 = .ok (.iaload, 1) := by decide +kernel
theorem dX5_dyeIn_24 : decode cX5_dyeIn 24 = .ok (.aload_n 0, 1) := by decide +kernel
theorem dX5_dyeIn_25 : decode cX5_dyeIn 25 = .ok (.getfield 29, 3) := by decide +kernel
theorem dX5_dyeIn_28 : decode cX5_dyeIn 28 = .ok (.aload_n 1, 1) := by decide +kernel
theorem dX5_dyeIn_29 : decode cX5_dyeIn 29 = .ok (.getfield 227, 3) := by decide +kernel
theorem dX5_dyeIn_32 : decode cX5_dyeIn 32 = .ok (.iaload, 1) := by decide +kernel
theorem dX5_dyeIn_33 : decode cX5_dyeIn 33 = .ok (.invokespecial 237, 3) := by decide +kernel
theorem dX5_dyeIn_36 : decode cX5_dyeIn 36 = .ok (.astore_n 3, 1) := by decide +kernel
theorem dX5_dyeIn_37 : decode cX5_dyeIn 37 = .ok (.aload_n 1, 1) := by decide +kernel
theorem dX5_dyeIn_38 : decode cX5_dyeIn 38 = .ok (.aload_n 3, 1) := by decide +kernel
theorem dX5_dyeIn_39 : decode cX5_dyeIn 39 = .ok (.putfield 171, 3) := by decide +kernel
theorem dX5_dyeIn_42 : decode cX5_dyeIn 42 = .ok (.aload_n 2, 1) := by decide +kernel
theorem dX5_dyeIn_43 : decode cX5_dyeIn 43 = .ok (.aload_n 3, 1) := by decide +kernel
theorem dX5_dyeIn_44 : decode cX5_dyeIn 44 = .ok (.invokevirtual 240, 3) := by decide +kernel
theorem dX5_dyeIn_47 : decode cX5_dyeIn 47 = .ok (.aload_n 3, 1) := by decide +kernel
theorem dX5_dyeIn_48 : decode cX5_dyeIn 48 = .ok (.areturn, 1) := by decide +kernel
theorem dX5_weakened_0 : decode cX5_weakened 0 = .ok (.iconst 0, 1) := by decide +kernel
theorem dX5_weakened_1 : decode cX5_weakened 1 = .ok (.iload_n 0, 1) := by decide +kernel
theorem dX5_weakened_2 : decode cX5_weakened 2 = .ok (.iload_n 1, 1) := by decide +kernel
theorem dX5_weakened_3 : decode cX5_weakened 3 = .ok (.isub, 1) := by decide +kernel
theorem dX5_weakened_4 : decode cX5_weakened 4 = .ok (.invokestatic 244, 3) := by decide +kernel
theorem dX5_weakened_7 : decode cX5_weakened 7 = .ok (.ireturn, 1) := by decide +kernel
theorem dJ9_abs_0f7a4_0 : decode cJ9_abs_0f7a4 0 = .ok (.iload_n 0, 1) := by decide +kernel
theorem dJ9_abs_0f7a4_1 : decode cJ9_abs_0f7a4 1 = .ok (.ifCond .ge 8, 3) := by decide +kernel
theorem dJ9_abs_0f7a4_4 : decode cJ9_abs_0f7a4 4 = .ok (.iload_n 0, 1) := by decide +kernel
theorem dJ9_abs_0f7a4_5 : decode cJ9_abs_0f7a4 5 = .ok (.ineg, 1) := by decide +kernel
theorem dJ9_abs_0f7a4_6 : decode cJ9_abs_0f7a4 6 = .ok (.goto 4, 3) := by decide +kernel
theorem dJ9_abs_0f7a4_9 : decode cJ9_abs_0f7a4 9 = .ok (.iload_n 0, 1) := by decide +kernel
theorem dJ9_abs_0f7a4_10 : decode cJ9_abs_0f7a4 10 = .ok (.ireturn, 1) := by decide +kernel
theorem dJ9_max_7cf53_0 : decode cJ9_max_7cf53 0 = .ok (.iload_n 0, 1) := by decide +kernel
theorem dJ9_max_7cf53_1 : decode cJ9_max_7cf53 1 = .ok (.iload_n 1, 1) := by decide +kernel
theorem dJ9_max_7cf53_2 : decode cJ9_max_7cf53 2 = .ok (.if_icmp .lt 7, 3) := by decide +kernel
theorem dJ9_max_7cf53_5 : decode cJ9_max_7cf53 5 = .ok (.iload_n 0, 1) := by decide +kernel
theorem dJ9_max_7cf53_6 : decode cJ9_max_7cf53 6 = .ok (.goto 4, 3) := by decide +kernel
theorem dJ9_max_7cf53_9 : decode cJ9_max_7cf53 9 = .ok (.iload_n 1, 1) := by decide +kernel
theorem dJ9_max_7cf53_10 : decode cJ9_max_7cf53 10 = .ok (.ireturn, 1) := by decide +kernel
theorem dJ9_min_7cf53_0 : decode cJ9_min_7cf53 0 = .ok (.iload_n 0, 1) := by decide +kernel
theorem dJ9_min_7cf53_1 : decode cJ9_min_7cf53 1 = .ok (.iload_n 1, 1) := by decide +kernel
theorem dJ9_min_7cf53_2 : decode cJ9_min_7cf53 2 = .ok (.if_icmp .gt 7, 3) := by decide +kernel
theorem dJ9_min_7cf53_5 : decode cJ9_min_7cf53 5 = .ok (.iload_n 0, 1) := by decide +kernel
theorem dJ9_min_7cf53_6 : decode cJ9_min_7cf53 6 = .ok (.goto 4, 3) := by decide +kernel
theorem dJ9_min_7cf53_9 : decode cJ9_min_7cf53 9 = .ok (.iload_n 1, 1) := by decide +kernel
theorem dJ9_min_7cf53_10 : decode cJ9_min_7cf53 10 = .ok (.ireturn, 1) := by decide +kernel
theorem dJxa1e45_init_da8c8_0 : decode cJxa1e45_init_da8c8 0 = .ok (.aload_n 0, 1) := by decide +kernel
theorem dJxa1e45_init_da8c8_1 : decode cJxa1e45_init_da8c8 1 = .ok (.invokespecial 1, 3) := by decide +kernel
theorem dJxa1e45_init_da8c8_4 : decode cJxa1e45_init_da8c8 4 = .ok (.return_, 1) := by decide +kernel
theorem dJxc12de_init_da8c8_0 : decode cJxc12de_init_da8c8 0 = .ok (.aload_n 0, 1) := by decide +kernel
theorem dJxc12de_init_da8c8_1 : decode cJxc12de_init_da8c8 1 = .ok (.invokespecial 1, 3) := by decide +kernel
theorem dJxc12de_init_da8c8_4 : decode cJxc12de_init_da8c8 4 = .ok (.aload_n 0, 1) := by decide +kernel
theorem dJxc12de_init_da8c8_5 : decode cJxc12de_init_da8c8 5 = .ok (.iconst 0, 1) := by decide +kernel
theorem dJxc12de_init_da8c8_6 : decode cJxc12de_init_da8c8 6 = .ok (.putfield 7, 3) := by decide +kernel
theorem dJxc12de_init_da8c8_9 : decode cJxc12de_init_da8c8 9 = .ok (.return_, 1) := by decide +kernel
theorem dJx4a65c_init_da8c8_0 : decode cJx4a65c_init_da8c8 0 = .ok (.aload_n 0, 1) := by decide +kernel
theorem dJx4a65c_init_da8c8_1 : decode cJx4a65c_init_da8c8 1 = .ok (.invokespecial 1, 3) := by decide +kernel
theorem dJx4a65c_init_da8c8_4 : decode cJx4a65c_init_da8c8 4 = .ok (.aload_n 0, 1) := by decide +kernel
theorem dJx4a65c_init_da8c8_5 : decode cJx4a65c_init_da8c8 5 = .ok (.getstatic 39, 3) := by decide +kernel
theorem dJx4a65c_init_da8c8_8 : decode cJx4a65c_init_da8c8 8 = .ok (.putfield 9, 3) := by decide +kernel
theorem dJx4a65c_init_da8c8_11 : decode cJx4a65c_init_da8c8 11 = .ok (.return_, 1) := by decide +kernel
theorem dJx4a65c_grow_92f84_0 : decode cJx4a65c_grow_92f84 0 = .ok (.aload_n 0, 1) := by decide +kernel
theorem dJx4a65c_grow_92f84_1 : decode cJx4a65c_grow_92f84 1 = .ok (.getfield 9, 3) := by decide +kernel
theorem dJx4a65c_grow_92f84_4 : decode cJx4a65c_grow_92f84 4 = .ok (.arraylength, 1) := by decide +kernel
theorem dJx4a65c_grow_92f84_5 : decode cJx4a65c_grow_92f84 5 = .ok (.istore_n 2, 1) := by decide +kernel
theorem dJx4a65c_grow_92f84_6 : decode cJx4a65c_grow_92f84 6 = .ok (.iload_n 2, 1) := by decide +kernel
theorem dJx4a65c_grow_92f84_7 : decode cJx4a65c_grow_92f84 7 = .ok (.ifCond .gt 13, 3) := by decide +kernel
theorem dJx4a65c_grow_92f84_10 : decode cJx4a65c_grow_92f84 10 = .ok (.aload_n 0, 1) := by decide +kernel
theorem dJx4a65c_grow_92f84_11 : decode cJx4a65c_grow_92f84 11 = .ok (.getfield 9, 3) := by decide +kernel
theorem dJx4a65c_grow_92f84_14 : decode cJx4a65c_grow_92f84 14 = .ok (.getstatic 39, 3) := by decide +kernel
theorem dJx4a65c_grow_92f84_17 : decode cJx4a65c_grow_92f84 17 = .ok (.if_acmp .eq 28, 3) := by decide +kernel
theorem dJx4a65c_grow_92f84_20 : decode cJx4a65c_grow_92f84 20 = .ok (.iload_n 2, 1) := by decide +kernel
theorem dJx4a65c_grow_92f84_21 : decode cJx4a65c_grow_92f84 21 = .ok (.iload_n 1, 1) := by decide +kernel
theorem dJx4a65c_grow_92f84_22 : decode cJx4a65c_grow_92f84 22 = .ok (.iload_n 2, 1) := by decide +kernel
theorem dJx4a65c_grow_92f84_23 : decode cJx4a65c_grow_92f84 23 = .ok (.isub, 1) := by decide +kernel
theorem dJx4a65c_grow_92f84_24 : decode cJx4a65c_grow_92f84 24 = .ok (.iload_n 2, 1) := by decide +kernel
theorem dJx4a65c_grow_92f84_25 : decode cJx4a65c_grow_92f84 25 = .ok (.iconst 1, 1) := by decide +kernel
theorem dJx4a65c_grow_92f84_26 : decode cJx4a65c_grow_92f84 26 = .ok (.ishr, 1) := by decide +kernel
theorem dJx4a65c_grow_92f84_27 : decode cJx4a65c_grow_92f84 27 = .ok (.invokestatic 73, 3) := by decide +kernel
theorem dJx4a65c_grow_92f84_30 : decode cJx4a65c_grow_92f84 30 = .ok (.istore_n 3, 1) := by decide +kernel
theorem dJx4a65c_grow_92f84_31 : decode cJx4a65c_grow_92f84 31 = .ok (.aload_n 0, 1) := by decide +kernel
theorem dJx4a65c_grow_92f84_32 : decode cJx4a65c_grow_92f84 32 = .ok (.aload_n 0, 1) := by decide +kernel
theorem dJx4a65c_grow_92f84_33 : decode cJx4a65c_grow_92f84 33 = .ok (.getfield 9, 3) := by decide +kernel
theorem dJx4a65c_grow_92f84_36 : decode cJx4a65c_grow_92f84 36 = .ok (.iload_n 3, 1) := by decide +kernel
theorem dJx4a65c_grow_92f84_37 : decode cJx4a65c_grow_92f84 37 = .ok (.invokestatic 66, 3) := by decide +kernel
theorem dJx4a65c_grow_92f84_40 : decode cJx4a65c_grow_92f84 40 = .ok (.dup_x1, 1) := by decide +kernel
theorem dJx4a65c_grow_92f84_41 : decode cJx4a65c_grow_92f84 41 = .ok (.putfield 9, 3) := by decide +kernel
theorem dJx4a65c_grow_92f84_44 : decode cJx4a65c_grow_92f84 44 = .ok (.areturn, 1) := by decide +kernel
theorem dJx4a65c_grow_92f84_45 : decode cJx4a65c_grow_92f84 45 = .ok (.aload_n 0, 1) := by decide +kernel
theorem dJx4a65c_grow_92f84_46 : decode cJx4a65c_grow_92f84 46 = .ok (.bipush 10, 2) := by decide +kernel
theorem dJx4a65c_grow_92f84_48 : decode cJx4a65c_grow_92f84 48 = .ok (.iload_n 1, 1) := by decide +kernel
theorem dJx4a65c_grow_92f84_49 : decode cJx4a65c_grow_92f84 49 = .ok (.invokestatic 79, 3) := by decide +kernel
theorem dJx4a65c_grow_92f84_52 : decode cJx4a65c_grow_92f84 52 = .ok (.anewarray 7, 3) := by decide +kernel
theorem dJx4a65c_grow_92f84_55 : decode cJx4a65c_grow_92f84 55 = .ok (.dup_x1, 1) := by decide +kernel
theorem dJx4a65c_grow_92f84_56 : decode cJx4a65c_grow_92f84 56 = .ok (.putfield 9, 3) := by decide +kernel
theorem dJx4a65c_grow_92f84_59 : decode cJx4a65c_grow_92f84 59 = .ok (.areturn, 1) := by decide +kernel
theorem dJx4a65c_grow_d5877_0 : decode cJx4a65c_grow_d5877 0 = .ok (.aload_n 0, 1) := by decide +kernel
theorem dJx4a65c_grow_d5877_1 : decode cJx4a65c_grow_d5877 1 = .ok (.aload_n 0, 1) := by decide +kernel
theorem dJx4a65c_grow_d5877_2 : decode cJx4a65c_grow_d5877 2 = .ok (.getfield 48, 3) := by decide +kernel
theorem dJx4a65c_grow_d5877_5 : decode cJx4a65c_grow_d5877 5 = .ok (.iconst 1, 1) := by decide +kernel
theorem dJx4a65c_grow_d5877_6 : decode cJx4a65c_grow_d5877 6 = .ok (.iadd, 1) := by decide +kernel
theorem dJx4a65c_grow_d5877_7 : decode cJx4a65c_grow_d5877 7 = .ok (.invokevirtual 69, 3) := by decide +kernel
theorem dJx4a65c_grow_d5877_10 : decode cJx4a65c_grow_d5877 10 = .ok (.areturn, 1) := by decide +kernel
theorem dJx4a65c_size_8abf5_0 : decode cJx4a65c_size_8abf5 0 = .ok (.aload_n 0, 1) := by decide +kernel
theorem dJx4a65c_size_8abf5_1 : decode cJx4a65c_size_8abf5 1 = .ok (.getfield 48, 3) := by decide +kernel
theorem dJx4a65c_size_8abf5_4 : decode cJx4a65c_size_8abf5 4 = .ok (.ireturn, 1) := by decide +kernel
theorem dJx4a65c_elementData_915e3_0 : decode cJx4a65c_elementData_915e3 0 = .ok (.aload_n 0, 1) := by decide +kernel
theorem dJx4a65c_elementData_915e3_1 : decode cJx4a65c_elementData_915e3 1 = .ok (.getfield 9, 3) := by decide +kernel
theorem dJx4a65c_elementData_915e3_4 : decode cJx4a65c_elementData_915e3 4 = .ok (.iload_n 1, 1) := by decide +kernel
theorem dJx4a65c_elementData_915e3_5 : decode cJx4a65c_elementData_915e3 5 = .ok (.aaload, 1) := by decide +kernel
theorem dJx4a65c_elementData_915e3_6 : decode cJx4a65c_elementData_915e3 6 = .ok (.areturn, 1) := by decide +kernel
theorem dJx4a65c_get_915e3_0 : decode cJx4a65c_get_915e3 0 = .ok (.iload_n 1, 1) := by decide +kernel
theorem dJx4a65c_get_915e3_1 : decode cJx4a65c_get_915e3 1 = .ok (.aload_n 0, 1) := by decide +kernel
theorem dJx4a65c_get_915e3_2 : decode cJx4a65c_get_915e3 2 = .ok (.getfield 48, 3) := by decide +kernel
theorem dJx4a65c_get_915e3_5 : decode cJx4a65c_get_915e3 5 = .ok (.invokestatic 118, 3) := by decide +kernel
theorem dJx4a65c_get_915e3_8 : decode cJx4a65c_get_915e3 8 = .ok (.pop, 1) := by decide +kernel
theorem dJx4a65c_get_915e3_9 : decode cJx4a65c_get_915e3 9 = .ok (.aload_n 0, 1) := by decide +kernel
theorem dJx4a65c_get_915e3_10 : decode cJx4a65c_get_915e3 10 = .ok (.iload_n 1, 1) := by decide +kernel
theorem dJx4a65c_get_915e3_11 : decode cJx4a65c_get_915e3 11 = .ok (.invokevirtual 123, 3) := by decide +kernel
theorem dJx4a65c_get_915e3_14 : decode cJx4a65c_get_915e3 14 = .ok (.areturn, 1) := by decide +kernel
theorem dJx4a65c_add_72be8_0 : decode cJx4a65c_add_72be8 0 = .ok (.iload_n 3, 1) := by decide +kernel
theorem dJx4a65c_add_72be8_1 : decode cJx4a65c_add_72be8 1 = .ok (.aload_n 2, 1) := by decide +kernel
theorem dJx4a65c_add_72be8_2 : decode cJx4a65c_add_72be8 2 = .ok (.arraylength, 1) := by decide +kernel
theorem dJx4a65c_add_72be8_3 : decode cJx4a65c_add_72be8 3 = .ok (.if_icmp .ne 8, 3) := by decide +kernel
theorem dJx4a65c_add_72be8_6 : decode cJx4a65c_add_72be8 6 = .ok (.aload_n 0, 1) := by decide +kernel
theorem dJx4a65c_add_72be8_7 : decode cJx4a65c_add_72be8 7 = .ok (.invokevirtual 129, 3) := by decide +kernel
theorem dJx4a65c_add_72be8_10 : decode cJx4a65c_add_72be8 10 = .ok (.astore_n 2, 1) := by decide +kernel
theorem dJx4a65c_add_72be8_11 : decode cJx4a65c_add_72be8 11 = .ok (.aload_n 2, 1) := by decide +kernel
theorem dJx4a65c_add_72be8_12 : decode cJx4a65c_add_72be8 12 = .ok (.iload_n 3, 1) := by decide +kernel
theorem dJx4a65c_add_72be8_13 : decode cJx4a65c_add_72be8 13 = .ok (.aload_n 1, 1) := by decide +kernel
theorem dJx4a65c_add_72be8_14 : decode cJx4a65c_add_72be8 14 = .ok (.aastore, 1) := by decide +kernel
theorem dJx4a65c_add_72be8_15 : decode cJx4a65c_add_72be8 15 = .ok (.aload_n 0, 1) := by decide +kernel
theorem dJx4a65c_add_72be8_16 : decode cJx4a65c_add_72be8 16 = .ok (.iload_n 3, 1) := by decide +kernel
theorem dJx4a65c_add_72be8_17 : decode cJx4a65c_add_72be8 17 = .ok (.iconst 1, 1) := by decide +kernel
theorem dJx4a65c_add_72be8_18 : decode cJx4a65c_add_72be8 18 = .ok (.iadd, 1) := by decide +kernel
theorem dJx4a65c_add_72be8_19 : decode cJx4a65c_add_72be8 19 = .ok (.putfield 48, 3) := by decide +kernel
theorem dJx4a65c_add_72be8_22 : decode cJx4a65c_add_72be8 22 = .ok (.return_, 1) := by decide +kernel
theorem dJx4a65c_add_9ea2d_0 : decode cJx4a65c_add_9ea2d 0 = .ok (.aload_n 0, 1) := by decide +kernel
theorem dJx4a65c_add_9ea2d_1 : decode cJx4a65c_add_9ea2d 1 = .ok (.dup, 1) := by decide +kernel
theorem dJx4a65c_add_9ea2d_2 : decode cJx4a65c_add_9ea2d 2 = .ok (.getfield 63, 3) := by decide +kernel
theorem dJx4a65c_add_9ea2d_5 : decode cJx4a65c_add_9ea2d 5 = .ok (.iconst 1, 1) := by decide +kernel
theorem dJx4a65c_add_9ea2d_6 : decode cJx4a65c_add_9ea2d 6 = .ok (.iadd, 1) := by decide +kernel
theorem dJx4a65c_add_9ea2d_7 : decode cJx4a65c_add_9ea2d 7 = .ok (.putfield 63, 3) := by decide +kernel
theorem dJx4a65c_add_9ea2d_10 : decode cJx4a65c_add_9ea2d 10 = .ok (.aload_n 0, 1) := by decide +kernel
theorem dJx4a65c_add_9ea2d_11 : decode cJx4a65c_add_9ea2d 11 = .ok (.aload_n 1, 1) := by decide +kernel
theorem dJx4a65c_add_9ea2d_12 : decode cJx4a65c_add_9ea2d 12 = .ok (.aload_n 0, 1) := by decide +kernel
theorem dJx4a65c_add_9ea2d_13 : decode cJx4a65c_add_9ea2d 13 = .ok (.getfield 9, 3) := by decide +kernel
theorem dJx4a65c_add_9ea2d_16 : decode cJx4a65c_add_9ea2d 16 = .ok (.aload_n 0, 1) := by decide +kernel
theorem dJx4a65c_add_9ea2d_17 : decode cJx4a65c_add_9ea2d 17 = .ok (.getfield 48, 3) := by decide +kernel
theorem dJx4a65c_add_9ea2d_20 : decode cJx4a65c_add_9ea2d 20 = .ok (.invokevirtual 131, 3) := by decide +kernel
theorem dJx4a65c_add_9ea2d_23 : decode cJx4a65c_add_9ea2d 23 = .ok (.iconst 1, 1) := by decide +kernel
theorem dJx4a65c_add_9ea2d_24 : decode cJx4a65c_add_9ea2d 24 = .ok (.ireturn, 1) := by decide +kernel
theorem dJ7_fill_53178_0 : decode cJ7_fill_53178 0 = .ok (.iconst 0, 1) := by decide +kernel
theorem dJ7_fill_53178_1 : decode cJ7_fill_53178 1 = .ok (.istore_n 2, 1) := by decide +kernel
theorem dJ7_fill_53178_2 : decode cJ7_fill_53178 2 = .ok (.aload_n 0, 1) := by decide +kernel
theorem dJ7_fill_53178_3 : decode cJ7_fill_53178 3 = .ok (.arraylength, 1) := by decide +kernel
theorem dJ7_fill_53178_4 : decode cJ7_fill_53178 4 = .ok (.istore_n 3, 1) := by decide +kernel
theorem dJ7_fill_53178_5 : decode cJ7_fill_53178 5 = .ok (.iload_n 2, 1) := by decide +kernel
theorem dJ7_fill_53178_6 : decode cJ7_fill_53178 6 = .ok (.iload_n 3, 1) := by decide +kernel
theorem dJ7_fill_53178_7 : decode cJ7_fill_53178 7 = .ok (.if_icmp .ge 13, 3) := by decide +kernel
theorem dJ7_fill_53178_10 : decode cJ7_fill_53178 10 = .ok (.aload_n 0, 1) := by decide +kernel
theorem dJ7_fill_53178_11 : decode cJ7_fill_53178 11 = .ok (.iload_n 2, 1) := by decide +kernel
theorem dJ7_fill_53178_12 : decode cJ7_fill_53178 12 = .ok (.iload_n 1, 1) := by decide +kernel
theorem dJ7_fill_53178_13 : decode cJ7_fill_53178 13 = .ok (.iastore, 1) := by decide +kernel
theorem dJ7_fill_53178_14 : decode cJ7_fill_53178 14 = .ok (.iinc 2 1, 3) := by decide +kernel
theorem dJ7_fill_53178_17 : decode cJ7_fill_53178 17 = .ok (.goto (-12), 3) := by decide +kernel
theorem dJ7_fill_53178_20 : decode cJ7_fill_53178 20 = .ok (.return_, 1) := by decide +kernel
theorem dJ7_copyOf_1904c_0 : decode cJ7_copyOf_1904c 0 = .ok (.aload_n 0, 1) := by decide +kernel
theorem dJ7_copyOf_1904c_1 : decode cJ7_copyOf_1904c 1 = .ok (.iload_n 1, 1) := by decide +kernel
theorem dJ7_copyOf_1904c_2 : decode cJ7_copyOf_1904c 2 = .ok (.aload_n 0, 1) := by decide +kernel
theorem dJ7_copyOf_1904c_3 : decode cJ7_copyOf_1904c 3 = .ok (.invokevirtual 86, 3) := by decide +kernel
theorem dJ7_copyOf_1904c_6 : decode cJ7_copyOf_1904c 6 = .ok (.invokestatic 300, 3) := by decide +kernel
theorem dJ7_copyOf_1904c_9 : decode cJ7_copyOf_1904c 9 = .ok (.areturn, 1) := by decide +kernel
theorem dJ7_copyOf_6403c_0 : decode cJ7_copyOf_6403c 0 = .ok (.aload_n 2, 1) := by decide +kernel
theorem dJ7_copyOf_6403c_1 : decode cJ7_copyOf_6403c 1 = .ok (.ldc 110, 2) := by decide +kernel
theorem dJ7_copyOf_6403c_3 : decode cJ7_copyOf_6403c 3 = .ok (.if_acmp .ne 10, 3) := by decide +kernel
theorem dJ7_copyOf_6403c_6 : decode cJ7_copyOf_6403c 6 = .ok (.iload_n 1, 1) := by decide +kernel
theorem dJ7_copyOf_6403c_7 : decode cJ7_copyOf_6403c 7 = .ok (.anewarray 2, 3) := by decide +kernel
theorem dJ7_copyOf_6403c_10 : decode cJ7_copyOf_6403c 10 = .ok (.goto 14, 3) := by decide +kernel
theorem dJ7_copyOf_6403c_13 : decode cJ7_copyOf_6403c 13 = .ok (.aload_n 2, 1) := by decide +kernel
theorem dJ7_copyOf_6403c_14 : decode cJ7_copyOf_6403c 14 = .ok (.invokevirtual 90, 3) := by decide +kernel
theorem dJ7_copyOf_6403c_17 : decode cJ7_copyOf_6403c 17 = .ok (.iload_n 1, 1) := by decide +kernel
theorem dJ7_copyOf_6403c_18 : decode cJ7_copyOf_6403c 18 = .ok (.invokestatic 95, 3) := by decide +kernel
theorem dJ7_copyOf_6403c_21 : decode cJ7_copyOf_6403c 21 = .ok (.checkcast 110, 3) := by decide +kernel
theorem dJ7_copyOf_6403c_24 : decode cJ7_copyOf_6403c 24 = .ok (.astore_n 3, 1) := by decide +kernel
theorem dJ7_copyOf_6403c_25 : decode cJ7_copyOf_6403c 25 = .ok (.aload_n 0, 1) := by decide +kernel
theorem dJ7_copyOf_6403c_26 : decode cJ7_copyOf_6403c 26 = .ok (.iconst 0, 1) := by decide +kernel
theorem dJ7_copyOf_6403c_27 : decode cJ7_copyOf_6403c 27 = .ok (.aload_n 3, 1) := by decide +kernel
theorem dJ7_copyOf_6403c_28 : decode cJ7_copyOf_6403c 28 = .ok (.iconst 0, 1) := by decide +kernel
theorem dJ7_copyOf_6403c_29 : decode cJ7_copyOf_6403c 29 = .ok (.aload_n 0, 1) := by decide +kernel
theorem dJ7_copyOf_6403c_30 : decode cJ7_copyOf_6403c 30 = .ok (.arraylength, 1) := by decide +kernel
theorem dJ7_copyOf_6403c_31 : decode cJ7_copyOf_6403c 31 = .ok (.iload_n 1, 1) := by decide +kernel
theorem dJ7_copyOf_6403c_32 : decode cJ7_copyOf_6403c 32 = .ok (.invokestatic 304, 3) := by decide +kernel
theorem dJ7_copyOf_6403c_35 : decode cJ7_copyOf_6403c 35 = .ok (.invokestatic 150, 3) := by decide +kernel
theorem dJ7_copyOf_6403c_38 : decode cJ7_copyOf_6403c 38 = .ok (.aload_n 3, 1) := by decide +kernel
theorem dJ7_copyOf_6403c_39 : decode cJ7_copyOf_6403c 39 = .ok (.areturn, 1) := by decide +kernel
theorem dJ15_checkIndex_7cf53_0 : decode cJ15_checkIndex_7cf53 0 = .ok (.iload_n 0, 1) := by decide +kernel
theorem dJ15_checkIndex_7cf53_1 : decode cJ15_checkIndex_7cf53 1 = .ok (.iload_n 1, 1) := by decide +kernel
theorem dJ15_checkIndex_7cf53_2 : decode cJ15_checkIndex_7cf53 2 = .ok (.aconst_null, 1) := by decide +kernel
theorem dJ15_checkIndex_7cf53_3 : decode cJ15_checkIndex_7cf53 3 = .ok (.invokestatic 105, 3) := by decide +kernel
theorem dJ15_checkIndex_7cf53_6 : decode cJ15_checkIndex_7cf53 6 = .ok (.ireturn, 1) := by decide +kernel
theorem dJ8_newLength_cabcc_0 : decode cJ8_newLength_cabcc 0 = .ok (.iload_n 0, 1) := by decide +kernel
theorem dJ8_newLength_cabcc_1 : decode cJ8_newLength_cabcc 1 = .ok (.iload_n 1, 1) := by decide +kernel
theorem dJ8_newLength_cabcc_2 : decode cJ8_newLength_cabcc 2 = .ok (.iload_n 2, 1) := by decide +kernel
theorem dJ8_newLength_cabcc_3 : decode cJ8_newLength_cabcc 3 = .ok (.invokestatic 194, 3) := by decide +kernel
theorem dJ8_newLength_cabcc_6 : decode cJ8_newLength_cabcc 6 = .ok (.iadd, 1) := by decide +kernel
theorem dJ8_newLength_cabcc_7 : decode cJ8_newLength_cabcc 7 = .ok (.istore_n 3, 1) := by decide +kernel
theorem dJ8_newLength_cabcc_8 : decode cJ8_newLength_cabcc 8 = .ok (.iconst 0, 1) := by decide +kernel
theorem dJ8_newLength_cabcc_9 : decode cJ8_newLength_cabcc 9 = .ok (.iload_n 3, 1) := by decide +kernel
theorem dJ8_newLength_cabcc_10 : decode cJ8_newLength_cabcc 10 = .ok (.if_icmp .ge 11, 3) := by decide +kernel
theorem dJ8_newLength_cabcc_13 : decode cJ8_newLength_cabcc 13 = .ok (.iload_n 3, 1) := by decide +kernel
theorem dJ8_newLength_cabcc_14 : decode cJ8_newLength_cabcc 14 = .ok (.ldc 200, 2) := by decide +kernel
theorem dJ8_newLength_cabcc_16 : decode cJ8_newLength_cabcc 16 = .ok (.if_icmp .gt 5, 3) := by decide +kernel
theorem dJ8_newLength_cabcc_19 : decode cJ8_newLength_cabcc 19 = .ok (.iload_n 3, 1) := by decide +kernel
theorem dJ8_newLength_cabcc_20 : decode cJ8_newLength_cabcc 20 = .ok (.ireturn, 1) := by decide +kernel
theorem dJ8_newLength_cabcc_21 : decode cJ8_newLength_cabcc 21 = .ok (.iload_n 0, 1) := by decide +kernel
theorem dJ8_newLength_cabcc_22 : decode cJ8_newLength_cabcc 22 = .ok (.iload_n 1, 1) := by decide +kernel
theorem dJ8_newLength_cabcc_23 : decode cJ8_newLength_cabcc 23 = .ok (.invokestatic 201, 3) := by decide +kernel
theorem dJ8_newLength_cabcc_26 : decode cJ8_newLength_cabcc 26 = .ok (.ireturn, 1) := by decide +kernel
theorem dJ8_hugeLength_7cf53_0 : decode cJ8_hugeLength_7cf53 0 = .ok (.iload_n 0, 1) := by decide +kernel
theorem dJ8_hugeLength_7cf53_1 : decode cJ8_hugeLength_7cf53 1 = .ok (.iload_n 1, 1) := by decide +kernel
theorem dJ8_hugeLength_7cf53_2 : decode cJ8_hugeLength_7cf53 2 = .ok (.iadd, 1) := by decide +kernel
theorem dJ8_hugeLength_7cf53_3 : decode cJ8_hugeLength_7cf53 3 = .ok (.istore_n 2, 1) := by decide +kernel
theorem dJ8_hugeLength_7cf53_4 : decode cJ8_hugeLength_7cf53 4 = .ok (.iload_n 2, 1) := by decide +kernel
theorem dJ8_hugeLength_7cf53_5 : decode cJ8_hugeLength_7cf53 5 = .ok (.ifCond .ge 44, 3) := by decide +kernel
theorem dJ8_hugeLength_7cf53_8 : decode cJ8_hugeLength_7cf53 8 = .ok (.new 204, 3) := by decide +kernel
theorem dJ8_hugeLength_7cf53_11 : decode cJ8_hugeLength_7cf53 11 = .ok (.dup, 1) := by decide +kernel
theorem dJ8_hugeLength_7cf53_12 : decode cJ8_hugeLength_7cf53 12 = .ok (.new 89, 3) := by decide +kernel
theorem dJ8_hugeLength_7cf53_15 : decode cJ8_hugeLength_7cf53 15 = .ok (.dup, 1) := by decide +kernel
theorem dJ8_hugeLength_7cf53_16 : decode cJ8_hugeLength_7cf53 16 = .ok (.invokespecial 91, 3) := by decide +kernel
theorem dJ8_hugeLength_7cf53_19 : decode cJ8_hugeLength_7cf53 19 = .ok (.ldc 206, 2) := by decide +kernel
theorem dJ8_hugeLength_7cf53_21 : decode cJ8_hugeLength_7cf53 21 = .ok (.invokevirtual 94, 3) := by decide +kernel
theorem dJ8_hugeLength_7cf53_24 : decode cJ8_hugeLength_7cf53 24 = .ok (.iload_n 0, 1) := by decide +kernel
theorem dJ8_hugeLength_7cf53_25 : decode cJ8_hugeLength_7cf53 25 = .ok (.invokevirtual 98, 3) := by decide +kernel
theorem dJ8_hugeLength_7cf53_28 : decode cJ8_hugeLength_7cf53 28 = .ok (.ldc 208, 2) := by decide +kernel
theorem dJ8_hugeLength_7cf53_30 : decode cJ8_hugeLength_7cf53 30 = .ok (.invokevirtual 94, 3) := by decide +kernel
theorem dJ8_hugeLength_7cf53_33 : decode cJ8_hugeLength_7cf53 33 = .ok (.iload_n 1, 1) := by decide +kernel
theorem dJ8_hugeLength_7cf53_34 : decode cJ8_hugeLength_7cf53 34 = .ok (.invokevirtual 98, 3) := by decide +kernel
theorem dJ8_hugeLength_7cf53_37 : decode cJ8_hugeLength_7cf53 37 = .ok (.ldc 210, 2) := by decide +kernel
theorem dJ8_hugeLength_7cf53_39 : decode cJ8_hugeLength_7cf53 39 = .ok (.invokevirtual 94, 3) := by decide +kernel
theorem dJ8_hugeLength_7cf53_42 : decode cJ8_hugeLength_7cf53 42 = .ok (.invokevirtual 101, 3) := by decide +kernel
theorem dJ8_hugeLength_7cf53_45 : decode cJ8_hugeLength_7cf53 45 = .ok (.invokespecial 212, 3) := by decide +kernel
theorem dJ8_hugeLength_7cf53_48 : decode cJ8_hugeLength_7cf53 48 = .ok (.athrow, 1) := by decide +kernel
theorem dJ8_hugeLength_7cf53_49 : decode cJ8_hugeLength_7cf53 49 = .ok (.iload_n 2, 1) := by decide +kernel
theorem dJ8_hugeLength_7cf53_50 : decode cJ8_hugeLength_7cf53 50 = .ok (.ldc 200, 2) := by decide +kernel
theorem dJ8_hugeLength_7cf53_52 : decode cJ8_hugeLength_7cf53 52 = .ok (.if_icmp .gt 6, 3) := by decide +kernel
theorem dJ8_hugeLength_7cf53_55 : decode cJ8_hugeLength_7cf53 55 = .ok (.ldc 200, 2) := by decide +kernel
theorem dJ8_hugeLength_7cf53_57 : decode cJ8_hugeLength_7cf53 57 = .ok (.ireturn, 1) := by decide +kernel
theorem dJ8_hugeLength_7cf53_58 : decode cJ8_hugeLength_7cf53 58 = .ok (.iload_n 2, 1) := by decide +kernel
theorem dJ8_hugeLength_7cf53_59 : decode cJ8_hugeLength_7cf53 59 = .ok (.ireturn, 1) := by decide +kernel
theorem dJ3_checkIndex_8e157_0 : decode cJ3_checkIndex_8e157 0 = .ok (.iload_n 0, 1) := by decide +kernel
theorem dJ3_checkIndex_8e157_1 : decode cJ3_checkIndex_8e157 1 = .ok (.ifCond .lt 8, 3) := by decide +kernel
theorem dJ3_checkIndex_8e157_4 : decode cJ3_checkIndex_8e157 4 = .ok (.iload_n 0, 1) := by decide +kernel
theorem dJ3_checkIndex_8e157_5 : decode cJ3_checkIndex_8e157 5 = .ok (.iload_n 1, 1) := by decide +kernel
theorem dJ3_checkIndex_8e157_6 : decode cJ3_checkIndex_8e157 6 = .ok (.if_icmp .lt 10, 3) := by decide +kernel
theorem dJ3_checkIndex_8e157_9 : decode cJ3_checkIndex_8e157 9 = .ok (.aload_n 2, 1) := by decide +kernel
theorem dJ3_checkIndex_8e157_10 : decode cJ3_checkIndex_8e157 10 = .ok (.iload_n 0, 1) := by decide +kernel
theorem dJ3_checkIndex_8e157_11 : decode cJ3_checkIndex_8e157 11 = .ok (.iload_n 1, 1) := by decide +kernel
theorem dJ3_checkIndex_8e157_12 : decode cJ3_checkIndex_8e157 12 = .ok (.invokestatic 95, 3) := by decide +kernel
theorem dJ3_checkIndex_8e157_15 : decode cJ3_checkIndex_8e157 15 = .ok (.athrow, 1) := by decide +kernel
theorem dJ3_checkIndex_8e157_16 : decode cJ3_checkIndex_8e157 16 = .ok (.iload_n 0, 1) := by decide +kernel
theorem dJ3_checkIndex_8e157_17 : decode cJ3_checkIndex_8e157 17 = .ok (.ireturn, 1) := by decide +kernel
theorem dL_cell_0 : decode cL_cell 0 = .ok (.iload_n 1, 1) := by decide +kernel
theorem dL_cell_1 : decode cL_cell 1 = .ok (.aload_n 0, 1) := by decide +kernel
theorem dL_cell_2 : decode cL_cell 2 = .ok (.arraylength, 1) := by decide +kernel
theorem dL_cell_3 : decode cL_cell 3 = .ok (.if_icmp .ge 9, 3) := by decide +kernel
theorem dL_cell_6 : decode cL_cell 6 = .ok (.aload_n 0, 1) := by decide +kernel
theorem dL_cell_7 : decode cL_cell 7 = .ok (.iload_n 1, 1) := by decide +kernel
theorem dL_cell_8 : decode cL_cell 8 = .ok (.iaload, 1) := by decide +kernel
theorem dL_cell_9 : decode cL_cell 9 = .ok (.goto 15, 3) := by decide +kernel
theorem dL_cell_12 : decode cL_cell 12 = .ok (.ldc2_w 7, 3) := by decide +kernel
theorem dL_cell_15 : decode cL_cell 15 = .ok (.iload_n 1, 1) := by decide +kernel
theorem dL_cell_16 : decode cL_cell 16 = .ok (.bipush 109, 2) := by decide +kernel
theorem dL_cell_18 : decode cL_cell 18 = .ok (.iadd, 1) := by decide +kernel
theorem dL_cell_19 : decode cL_cell 19 = .ok (.i2l, 1) := by decide +kernel
theorem dL_cell_20 : decode cL_cell 20 = .ok (.lmul, 1) := by decide +kernel
theorem dL_cell_21 : decode cL_cell 21 = .ok (.iconst 4, 1) := by decide +kernel
theorem dL_cell_22 : decode cL_cell 22 = .ok (.lushr, 1) := by decide +kernel
theorem dL_cell_23 : decode cL_cell 23 = .ok (.l2i, 1) := by decide +kernel
theorem dL_cell_24 : decode cL_cell 24 = .ok (.ireturn, 1) := by decide +kernel
theorem dL_some_0 : decode cL_some 0 = .ok (.iload_n 0, 1) := by decide +kernel
theorem dL_some_1 : decode cL_some 1 = .ok (.iconst 2, 1) := by decide +kernel
theorem dL_some_2 : decode cL_some 2 = .ok (.iushr, 1) := by decide +kernel
theorem dL_some_3 : decode cL_some 3 = .ok (.iload_n 1, 1) := by decide +kernel
theorem dL_some_4 : decode cL_some 4 = .ok (.irem, 1) := by decide +kernel
theorem dL_some_5 : decode cL_some 5 = .ok (.ireturn, 1) := by decide +kernel
theorem dL_apart_0 : decode cL_apart 0 = .ok (.iload_n 0, 1) := by decide +kernel
theorem dL_apart_1 : decode cL_apart 1 = .ok (.iload_n 1, 1) := by decide +kernel
theorem dL_apart_2 : decode cL_apart 2 = .ok (.if_icmp .ge 9, 3) := by decide +kernel
theorem dL_apart_5 : decode cL_apart 5 = .ok (.iload_n 1, 1) := by decide +kernel
theorem dL_apart_6 : decode cL_apart 6 = .ok (.iload_n 0, 1) := by decide +kernel
theorem dL_apart_7 : decode cL_apart 7 = .ok (.isub, 1) := by decide +kernel
theorem dL_apart_8 : decode cL_apart 8 = .ok (.goto 6, 3) := by decide +kernel
theorem dL_apart_11 : decode cL_apart 11 = .ok (.iload_n 0, 1) := by decide +kernel
theorem dL_apart_12 : decode cL_apart 12 = .ok (.iload_n 1, 1) := by decide +kernel
theorem dL_apart_13 : decode cL_apart 13 = .ok (.isub, 1) := by decide +kernel
theorem dL_apart_14 : decode cL_apart 14 = .ok (.ireturn, 1) := by decide +kernel
theorem dL_off_0 : decode cL_off 0 = .ok (.iload_n 2, 1) := by decide +kernel
theorem dL_off_1 : decode cL_off 1 = .ok (.aload_n 0, 1) := by decide +kernel
theorem dL_off_2 : decode cL_off 2 = .ok (.iconst 3, 1) := by decide +kernel
theorem dL_off_3 : decode cL_off 3 = .ok (.iload_n 1, 1) := by decide +kernel
theorem dL_off_4 : decode cL_off 4 = .ok (.imul, 1) := by decide +kernel
theorem dL_off_5 : decode cL_off 5 = .ok (.iaload, 1) := by decide +kernel
theorem dL_off_6 : decode cL_off 6 = .ok (.invokestatic 9, 3) := by decide +kernel
theorem dL_off_9 : decode cL_off 9 = .ok (.iload_n 3, 1) := by decide +kernel
theorem dL_off_10 : decode cL_off 10 = .ok (.aload_n 0, 1) := by decide +kernel
theorem dL_off_11 : decode cL_off 11 = .ok (.iconst 3, 1) := by decide +kernel
theorem dL_off_12 : decode cL_off 12 = .ok (.iload_n 1, 1) := by decide +kernel
theorem dL_off_13 : decode cL_off 13 = .ok (.imul, 1) := by decide +kernel
theorem dL_off_14 : decode cL_off 14 = .ok (.iconst 1, 1) := by decide +kernel
theorem dL_off_15 : decode cL_off 15 = .ok (.iadd, 1) := by decide +kernel
theorem dL_off_16 : decode cL_off 16 = .ok (.iaload, 1) := by decide +kernel
theorem dL_off_17 : decode cL_off 17 = .ok (.invokestatic 9, 3) := by decide +kernel
theorem dL_off_20 : decode cL_off 20 = .ok (.iadd, 1) := by decide +kernel
theorem dL_off_21 : decode cL_off 21 = .ok (.ireturn, 1) := by decide +kernel
theorem dL_given_0 : decode cL_given 0 = .ok (.aload_n 0, 1) := by decide +kernel
theorem dL_given_1 : decode cL_given 1 = .ok (.iconst 3, 1) := by decide +kernel
theorem dL_given_2 : decode cL_given 2 = .ok (.aload_n 2, 1) := by decide +kernel
theorem dL_given_3 : decode cL_given 3 = .ok (.iconst 3, 1) := by decide +kernel
theorem dL_given_4 : decode cL_given 4 = .ok (.iload_n 3, 1) := by decide +kernel
theorem dL_given_5 : decode cL_given 5 = .ok (.imul, 1) := by decide +kernel
theorem dL_given_6 : decode cL_given 6 = .ok (.iconst 1, 1) := by decide +kernel
theorem dL_given_7 : decode cL_given 7 = .ok (.iadd, 1) := by decide +kernel
theorem dL_given_8 : decode cL_given 8 = .ok (.iaload, 1) := by decide +kernel
theorem dL_given_9 : decode cL_given 9 = .ok (.imul, 1) := by decide +kernel
theorem dL_given_10 : decode cL_given 10 = .ok (.iload 5, 2) := by decide +kernel
theorem dL_given_12 : decode cL_given 12 = .ok (.iadd, 1) := by decide +kernel
theorem dL_given_13 : decode cL_given 13 = .ok (.iaload, 1) := by decide +kernel
theorem dL_given_14 : decode cL_given 14 = .ok (.aload_n 2, 1) := by decide +kernel
theorem dL_given_15 : decode cL_given 15 = .ok (.iconst 3, 1) := by decide +kernel
theorem dL_given_16 : decode cL_given 16 = .ok (.iload_n 3, 1) := by decide +kernel
theorem dL_given_17 : decode cL_given 17 = .ok (.imul, 1) := by decide +kernel
theorem dL_given_18 : decode cL_given 18 = .ok (.iconst 2, 1) := by decide +kernel
theorem dL_given_19 : decode cL_given 19 = .ok (.iadd, 1) := by decide +kernel
theorem dL_given_20 : decode cL_given 20 = .ok (.iaload, 1) := by decide +kernel
theorem dL_given_21 : decode cL_given 21 = .ok (.imul, 1) := by decide +kernel
theorem dL_given_22 : decode cL_given 22 = .ok (.istore 6, 2) := by decide +kernel
theorem dL_given_24 : decode cL_given 24 = .ok (.iload 6, 2) := by decide +kernel
theorem dL_given_26 : decode cL_given 26 = .ok (.iload 6, 2) := by decide +kernel
theorem dL_given_28 : decode cL_given 28 = .ok (.bipush 100, 2) := by decide +kernel
theorem dL_given_30 : decode cL_given 30 = .ok (.irem, 1) := by decide +kernel
theorem dL_given_31 : decode cL_given 31 = .ok (.isub, 1) := by decide +kernel
theorem dL_given_32 : decode cL_given 32 = .ok (.bipush 100, 2) := by decide +kernel
theorem dL_given_34 : decode cL_given 34 = .ok (.idiv, 1) := by decide +kernel
theorem dL_given_35 : decode cL_given 35 = .ok (.aload_n 1, 1) := by decide +kernel
theorem dL_given_36 : decode cL_given 36 = .ok (.iconst 3, 1) := by decide +kernel
theorem dL_given_37 : decode cL_given 37 = .ok (.iconst 2, 1) := by decide +kernel
theorem dL_given_38 : decode cL_given 38 = .ok (.iload 4, 2) := by decide +kernel
theorem dL_given_40 : decode cL_given 40 = .ok (.imul, 1) := by decide +kernel
theorem dL_given_41 : decode cL_given 41 = .ok (.iadd, 1) := by decide +kernel
theorem dL_given_42 : decode cL_given 42 = .ok (.iload 5, 2) := by decide +kernel
theorem dL_given_44 : decode cL_given 44 = .ok (.iadd, 1) := by decide +kernel
theorem dL_given_45 : decode cL_given 45 = .ok (.iaload, 1) := by decide +kernel
theorem dL_given_46 : decode cL_given 46 = .ok (.iadd, 1) := by decide +kernel
theorem dL_given_47 : decode cL_given 47 = .ok (.iload 5, 2) := by decide +kernel
theorem dL_given_49 : decode cL_given 49 = .ok (.ifCond .ne 13, 3) := by decide +kernel
theorem dL_given_52 : decode cL_given 52 = .ok (.aload_n 1, 1) := by decide +kernel
theorem dL_given_53 : decode cL_given 53 = .ok (.aload_n 2, 1) := by decide +kernel
theorem dL_given_54 : decode cL_given 54 = .ok (.iconst 3, 1) := by decide +kernel
theorem dL_given_55 : decode cL_given 55 = .ok (.iload_n 3, 1) := by decide +kernel
theorem dL_given_56 : decode cL_given 56 = .ok (.imul, 1) := by decide +kernel
theorem dL_given_57 : decode cL_given 57 = .ok (.iaload, 1) := by decide +kernel
theorem dL_given_58 : decode cL_given 58 = .ok (.iaload, 1) := by decide +kernel
theorem dL_given_59 : decode cL_given 59 = .ok (.goto 4, 3) := by decide +kernel
theorem dL_given_62 : decode cL_given 62 = .ok (.iconst 0, 1) := by decide +kernel
theorem dL_given_63 : decode cL_given 63 = .ok (.iadd, 1) := by decide +kernel
theorem dL_given_64 : decode cL_given 64 = .ok (.ireturn, 1) := by decide +kernel
theorem dL_offBy_0 : decode cL_offBy 0 = .ok (.aload_n 0, 1) := by decide +kernel
theorem dL_offBy_1 : decode cL_offBy 1 = .ok (.aload_n 2, 1) := by decide +kernel
theorem dL_offBy_2 : decode cL_offBy 2 = .ok (.iconst 3, 1) := by decide +kernel
theorem dL_offBy_3 : decode cL_offBy 3 = .ok (.iload_n 3, 1) := by decide +kernel
theorem dL_offBy_4 : decode cL_offBy 4 = .ok (.imul, 1) := by decide +kernel
theorem dL_offBy_5 : decode cL_offBy 5 = .ok (.iconst 1, 1) := by decide +kernel
theorem dL_offBy_6 : decode cL_offBy 6 = .ok (.iadd, 1) := by decide +kernel
theorem dL_offBy_7 : decode cL_offBy 7 = .ok (.iaload, 1) := by decide +kernel
theorem dL_offBy_8 : decode cL_offBy 8 = .ok (.aload_n 0, 1) := by decide +kernel
theorem dL_offBy_9 : decode cL_offBy 9 = .ok (.aload_n 1, 1) := by decide +kernel
theorem dL_offBy_10 : decode cL_offBy 10 = .ok (.aload_n 2, 1) := by decide +kernel
theorem dL_offBy_11 : decode cL_offBy 11 = .ok (.iload_n 3, 1) := by decide +kernel
theorem dL_offBy_12 : decode cL_offBy 12 = .ok (.iload 4, 2) := by decide +kernel
theorem dL_offBy_14 : decode cL_offBy 14 = .ok (.iconst 0, 1) := by decide +kernel
theorem dL_offBy_15 : decode cL_offBy 15 = .ok (.invokestatic 15, 3) := by decide +kernel
theorem dL_offBy_18 : decode cL_offBy 18 = .ok (.aload_n 0, 1) := by decide +kernel
theorem dL_offBy_19 : decode cL_offBy 19 = .ok (.aload_n 1, 1) := by decide +kernel
theorem dL_offBy_20 : decode cL_offBy 20 = .ok (.aload_n 2, 1) := by decide +kernel
theorem dL_offBy_21 : decode cL_offBy 21 = .ok (.iload_n 3, 1) := by decide +kernel
theorem dL_offBy_22 : decode cL_offBy 22 = .ok (.iload 4, 2) := by decide +kernel
theorem dL_offBy_24 : decode cL_offBy 24 = .ok (.iconst 1, 1) := by decide +kernel
theorem dL_offBy_25 : decode cL_offBy 25 = .ok (.invokestatic 15, 3) := by decide +kernel
theorem dL_offBy_28 : decode cL_offBy 28 = .ok (.invokestatic 19, 3) := by decide +kernel
theorem dL_offBy_31 : decode cL_offBy 31 = .ok (.ireturn, 1) := by decide +kernel
theorem dL_dyes_0 : decode cL_dyes 0 = .ok (.aload_n 3, 1) := by decide +kernel
theorem dL_dyes_1 : decode cL_dyes 1 = .ok (.iload 5, 2) := by decide +kernel
theorem dL_dyes_3 : decode cL_dyes 3 = .ok (.iconst 1, 1) := by decide +kernel
theorem dL_dyes_4 : decode cL_dyes 4 = .ok (.iadd, 1) := by decide +kernel
theorem dL_dyes_5 : decode cL_dyes 5 = .ok (.iaload, 1) := by decide +kernel
theorem dL_dyes_6 : decode cL_dyes 6 = .ok (.istore 8, 2) := by decide +kernel
theorem dL_dyes_8 : decode cL_dyes 8 = .ok (.aload_n 3, 1) := by decide +kernel
theorem dL_dyes_9 : decode cL_dyes 9 = .ok (.iload 5, 2) := by decide +kernel
theorem dL_dyes_11 : decode cL_dyes 11 = .ok (.iaload, 1) := by decide +kernel
theorem dL_dyes_12 : decode cL_dyes 12 = .ok (.istore 9, 2) := by decide +kernel
theorem dL_dyes_14 : decode cL_dyes 14 = .ok (.aload_n 0, 1) := by decide +kernel
theorem dL_dyes_15 : decode cL_dyes 15 = .ok (.aload_n 1, 1) := by decide +kernel
theorem dL_dyes_16 : decode cL_dyes 16 = .ok (.aload_n 2, 1) := by decide +kernel
theorem dL_dyes_17 : decode cL_dyes 17 = .ok (.iload 7, 2) := by decide +kernel
theorem dL_dyes_19 : decode cL_dyes 19 = .ok (.iload 8, 2) := by decide +kernel
theorem dL_dyes_21 : decode cL_dyes 21 = .ok (.iconst 0, 1) := by decide +kernel
theorem dL_dyes_22 : decode cL_dyes 22 = .ok (.invokestatic 15, 3) := by decide +kernel
theorem dL_dyes_25 : decode cL_dyes 25 = .ok (.istore 10, 2) := by decide +kernel
theorem dL_dyes_27 : decode cL_dyes 27 = .ok (.aload_n 0, 1) := by decide +kernel
theorem dL_dyes_28 : decode cL_dyes 28 = .ok (.aload_n 1, 1) := by decide +kernel
theorem dL_dyes_29 : decode cL_dyes 29 = .ok (.aload_n 2, 1) := by decide +kernel
theorem dL_dyes_30 : decode cL_dyes 30 = .ok (.iload 7, 2) := by decide +kernel
theorem dL_dyes_32 : decode cL_dyes 32 = .ok (.iload 8, 2) := by decide +kernel
theorem dL_dyes_34 : decode cL_dyes 34 = .ok (.iconst 1, 1) := by decide +kernel
theorem dL_dyes_35 : decode cL_dyes 35 = .ok (.invokestatic 15, 3) := by decide +kernel
theorem dL_dyes_38 : decode cL_dyes 38 = .ok (.istore 11, 2) := by decide +kernel
theorem dL_dyes_40 : decode cL_dyes 40 = .ok (.aload_n 0, 1) := by decide +kernel
theorem dL_dyes_41 : decode cL_dyes 41 = .ok (.iload 9, 2) := by decide +kernel
theorem dL_dyes_43 : decode cL_dyes 43 = .ok (.aload_n 0, 1) := by decide +kernel
theorem dL_dyes_44 : decode cL_dyes 44 = .ok (.iconst 3, 1) := by decide +kernel
theorem dL_dyes_45 : decode cL_dyes 45 = .ok (.iload 9, 2) := by decide +kernel
theorem dL_dyes_47 : decode cL_dyes 47 = .ok (.imul, 1) := by decide +kernel
theorem dL_dyes_48 : decode cL_dyes 48 = .ok (.iaload, 1) := by decide +kernel
theorem dL_dyes_49 : decode cL_dyes 49 = .ok (.aload_n 1, 1) := by decide +kernel
theorem dL_dyes_50 : decode cL_dyes 50 = .ok (.iconst 3, 1) := by decide +kernel
theorem dL_dyes_51 : decode cL_dyes 51 = .ok (.iconst 2, 1) := by decide +kernel
theorem dL_dyes_52 : decode cL_dyes 52 = .ok (.iload 8, 2) := by decide +kernel
theorem dL_dyes_54 : decode cL_dyes 54 = .ok (.imul, 1) := by decide +kernel
theorem dL_dyes_55 : decode cL_dyes 55 = .ok (.iadd, 1) := by decide +kernel
theorem dL_dyes_56 : decode cL_dyes 56 = .ok (.iaload, 1) := by decide +kernel
theorem dL_dyes_57 : decode cL_dyes 57 = .ok (.iadd, 1) := by decide +kernel
theorem dL_dyes_58 : decode cL_dyes 58 = .ok (.aload_n 1, 1) := by decide +kernel
theorem dL_dyes_59 : decode cL_dyes 59 = .ok (.aload_n 2, 1) := by decide +kernel
theorem dL_dyes_60 : decode cL_dyes 60 = .ok (.iconst 3, 1) := by decide +kernel
theorem dL_dyes_61 : decode cL_dyes 61 = .ok (.iload 7, 2) := by decide +kernel
theorem dL_dyes_63 : decode cL_dyes 63 = .ok (.imul, 1) := by decide +kernel
theorem dL_dyes_64 : decode cL_dyes 64 = .ok (.iaload, 1) := by decide +kernel
theorem dL_dyes_65 : decode cL_dyes 65 = .ok (.iaload, 1) := by decide +kernel
theorem dL_dyes_66 : decode cL_dyes 66 = .ok (.iadd, 1) := by decide +kernel
theorem dL_dyes_67 : decode cL_dyes 67 = .ok (.aload_n 0, 1) := by decide +kernel
theorem dL_dyes_68 : decode cL_dyes 68 = .ok (.iconst 3, 1) := by decide +kernel
theorem dL_dyes_69 : decode cL_dyes 69 = .ok (.iload 9, 2) := by decide +kernel
theorem dL_dyes_71 : decode cL_dyes 71 = .ok (.imul, 1) := by decide +kernel
theorem dL_dyes_72 : decode cL_dyes 72 = .ok (.iconst 1, 1) := by decide +kernel
theorem dL_dyes_73 : decode cL_dyes 73 = .ok (.iadd, 1) := by decide +kernel
theorem dL_dyes_74 : decode cL_dyes 74 = .ok (.iaload, 1) := by decide +kernel
theorem dL_dyes_75 : decode cL_dyes 75 = .ok (.aload_n 1, 1) := by decide +kernel
theorem dL_dyes_76 : decode cL_dyes 76 = .ok (.iconst 4, 1) := by decide +kernel
theorem dL_dyes_77 : decode cL_dyes 77 = .ok (.iconst 2, 1) := by decide +kernel
theorem dL_dyes_78 : decode cL_dyes 78 = .ok (.iload 8, 2) := by decide +kernel
theorem dL_dyes_80 : decode cL_dyes 80 = .ok (.imul, 1) := by decide +kernel
theorem dL_dyes_81 : decode cL_dyes 81 = .ok (.iadd, 1) := by decide +kernel
theorem dL_dyes_82 : decode cL_dyes 82 = .ok (.iaload, 1) := by decide +kernel
theorem dL_dyes_83 : decode cL_dyes 83 = .ok (.iadd, 1) := by decide +kernel
theorem dL_dyes_84 : decode cL_dyes 84 = .ok (.invokestatic 19, 3) := by decide +kernel
theorem dL_dyes_87 : decode cL_dyes 87 = .ok (.istore 12, 2) := by decide +kernel
theorem dL_dyes_89 : decode cL_dyes 89 = .ok (.aload_n 0, 1) := by decide +kernel
theorem dL_dyes_90 : decode cL_dyes 90 = .ok (.iload 9, 2) := by decide +kernel
theorem dL_dyes_92 : decode cL_dyes 92 = .ok (.iload 10, 2) := by decide +kernel
theorem dL_dyes_94 : decode cL_dyes 94 = .ok (.aload_n 1, 1) := by decide +kernel
theorem dL_dyes_95 : decode cL_dyes 95 = .ok (.aload_n 2, 1) := by decide +kernel
theorem dL_dyes_96 : decode cL_dyes 96 = .ok (.iconst 3, 1) := by decide +kernel
theorem dL_dyes_97 : decode cL_dyes 97 = .ok (.iload 7, 2) := by decide +kernel
theorem dL_dyes_99 : decode cL_dyes 99 = .ok (.imul, 1) := by decide +kernel
theorem dL_dyes_100 : decode cL_dyes 100 = .ok (.iaload, 1) := by decide +kernel
theorem dL_dyes_101 : decode cL_dyes 101 = .ok (.iaload, 1) := by decide +kernel
theorem dL_dyes_102 : decode cL_dyes 102 = .ok (.isub, 1) := by decide +kernel
theorem dL_dyes_103 : decode cL_dyes 103 = .ok (.iload 11, 2) := by decide +kernel
theorem dL_dyes_105 : decode cL_dyes 105 = .ok (.invokestatic 19, 3) := by decide +kernel
theorem dL_dyes_108 : decode cL_dyes 108 = .ok (.istore 13, 2) := by decide +kernel
theorem dL_dyes_110 : decode cL_dyes 110 = .ok (.aload_n 0, 1) := by decide +kernel
theorem dL_dyes_111 : decode cL_dyes 111 = .ok (.iload 9, 2) := by decide +kernel
theorem dL_dyes_113 : decode cL_dyes 113 = .ok (.iload 10, 2) := by decide +kernel
theorem dL_dyes_115 : decode cL_dyes 115 = .ok (.aload_n 1, 1) := by decide +kernel
theorem dL_dyes_116 : decode cL_dyes 116 = .ok (.iconst 3, 1) := by decide +kernel
theorem dL_dyes_117 : decode cL_dyes 117 = .ok (.iconst 2, 1) := by decide +kernel
theorem dL_dyes_118 : decode cL_dyes 118 = .ok (.iload 8, 2) := by decide +kernel
theorem dL_dyes_120 : decode cL_dyes 120 = .ok (.imul, 1) := by decide +kernel
theorem dL_dyes_121 : decode cL_dyes 121 = .ok (.iadd, 1) := by decide +kernel
theorem dL_dyes_122 : decode cL_dyes 122 = .ok (.iaload, 1) := by decide +kernel
theorem dL_dyes_123 : decode cL_dyes 123 = .ok (.isub, 1) := by decide +kernel
theorem dL_dyes_124 : decode cL_dyes 124 = .ok (.iload 11, 2) := by decide +kernel
theorem dL_dyes_126 : decode cL_dyes 126 = .ok (.aload_n 1, 1) := by decide +kernel
theorem dL_dyes_127 : decode cL_dyes 127 = .ok (.iconst 4, 1) := by decide +kernel
theorem dL_dyes_128 : decode cL_dyes 128 = .ok (.iconst 2, 1) := by decide +kernel
theorem dL_dyes_129 : decode cL_dyes 129 = .ok (.iload 8, 2) := by decide +kernel
theorem dL_dyes_131 : decode cL_dyes 131 = .ok (.imul, 1) := by decide +kernel
theorem dL_dyes_132 : decode cL_dyes 132 = .ok (.iadd, 1) := by decide +kernel
theorem dL_dyes_133 : decode cL_dyes 133 = .ok (.iaload, 1) := by decide +kernel
theorem dL_dyes_134 : decode cL_dyes 134 = .ok (.isub, 1) := by decide +kernel
theorem dL_dyes_135 : decode cL_dyes 135 = .ok (.invokestatic 19, 3) := by decide +kernel
theorem dL_dyes_138 : decode cL_dyes 138 = .ok (.istore 14, 2) := by decide +kernel
theorem dL_dyes_140 : decode cL_dyes 140 = .ok (.iconst 3, 1) := by decide +kernel
theorem dL_dyes_141 : decode cL_dyes 141 = .ok (.istore 15, 2) := by decide +kernel
theorem dL_dyes_143 : decode cL_dyes 143 = .ok (.iload 13, 2) := by decide +kernel
theorem dL_dyes_145 : decode cL_dyes 145 = .ok (.iload 14, 2) := by decide +kernel
theorem dL_dyes_147 : decode cL_dyes 147 = .ok (.if_icmp .gt 7, 3) := by decide +kernel
theorem dL_dyes_150 : decode cL_dyes 150 = .ok (.iconst 2, 1) := by decide +kernel
theorem dL_dyes_151 : decode cL_dyes 151 = .ok (.goto 5, 3) := by decide +kernel
theorem dL_dyes_154 : decode cL_dyes 154 = .ok (.iload 15, 2) := by decide +kernel
theorem dL_dyes_156 : decode cL_dyes 156 = .ok (.istore 15, 2) := by decide +kernel
theorem dL_dyes_158 : decode cL_dyes 158 = .ok (.iload 12, 2) := by decide +kernel
theorem dL_dyes_160 : decode cL_dyes 160 = .ok (.iload 13, 2) := by decide +kernel
theorem dL_dyes_162 : decode cL_dyes 162 = .ok (.if_icmp .gt 14, 3) := by decide +kernel
theorem dL_dyes_165 : decode cL_dyes 165 = .ok (.iload 12, 2) := by decide +kernel
theorem dL_dyes_167 : decode cL_dyes 167 = .ok (.iload 14, 2) := by decide +kernel
theorem dL_dyes_169 : decode cL_dyes 169 = .ok (.if_icmp .gt 7, 3) := by decide +kernel
theorem dL_dyes_172 : decode cL_dyes 172 = .ok (.iconst 1, 1) := by decide +kernel
theorem dL_dyes_173 : decode cL_dyes 173 = .ok (.goto 5, 3) := by decide +kernel
theorem dL_dyes_176 : decode cL_dyes 176 = .ok (.iload 15, 2) := by decide +kernel
theorem dL_dyes_178 : decode cL_dyes 178 = .ok (.istore 15, 2) := by decide +kernel
theorem dL_dyes_180 : decode cL_dyes 180 = .ok (.aload 4, 2) := by decide +kernel
theorem dL_dyes_182 : decode cL_dyes 182 = .ok (.iconst 3, 1) := by decide +kernel
theorem dL_dyes_183 : decode cL_dyes 183 = .ok (.iload 6, 2) := by decide +kernel
theorem dL_dyes_185 : decode cL_dyes 185 = .ok (.imul, 1) := by decide +kernel
theorem dL_dyes_186 : decode cL_dyes 186 = .ok (.iload 10, 2) := by decide +kernel
theorem dL_dyes_188 : decode cL_dyes 188 = .ok (.iastore, 1) := by decide +kernel
theorem dL_dyes_189 : decode cL_dyes 189 = .ok (.aload 4, 2) := by decide +kernel
theorem dL_dyes_191 : decode cL_dyes 191 = .ok (.iconst 3, 1) := by decide +kernel
theorem dL_dyes_192 : decode cL_dyes 192 = .ok (.iload 6, 2) := by decide +kernel
theorem dL_dyes_194 : decode cL_dyes 194 = .ok (.imul, 1) := by decide +kernel
theorem dL_dyes_195 : decode cL_dyes 195 = .ok (.iconst 1, 1) := by decide +kernel
theorem dL_dyes_196 : decode cL_dyes 196 = .ok (.iadd, 1) := by decide +kernel
theorem dL_dyes_197 : decode cL_dyes 197 = .ok (.iload 11, 2) := by decide +kernel
theorem dL_dyes_199 : decode cL_dyes 199 = .ok (.iastore, 1) := by decide +kernel
theorem dL_dyes_200 : decode cL_dyes 200 = .ok (.aload 4, 2) := by decide +kernel
theorem dL_dyes_202 : decode cL_dyes 202 = .ok (.iconst 3, 1) := by decide +kernel
theorem dL_dyes_203 : decode cL_dyes 203 = .ok (.iload 6, 2) := by decide +kernel
theorem dL_dyes_205 : decode cL_dyes 205 = .ok (.imul, 1) := by decide +kernel
theorem dL_dyes_206 : decode cL_dyes 206 = .ok (.iconst 2, 1) := by decide +kernel
theorem dL_dyes_207 : decode cL_dyes 207 = .ok (.iadd, 1) := by decide +kernel
theorem dL_dyes_208 : decode cL_dyes 208 = .ok (.aload_n 0, 1) := by decide +kernel
theorem dL_dyes_209 : decode cL_dyes 209 = .ok (.iload 9, 2) := by decide +kernel
theorem dL_dyes_211 : decode cL_dyes 211 = .ok (.iload 10, 2) := by decide +kernel
theorem dL_dyes_213 : decode cL_dyes 213 = .ok (.iload 11, 2) := by decide +kernel
theorem dL_dyes_215 : decode cL_dyes 215 = .ok (.invokestatic 19, 3) := by decide +kernel
theorem dL_dyes_218 : decode cL_dyes 218 = .ok (.aload_n 0, 1) := by decide +kernel
theorem dL_dyes_219 : decode cL_dyes 219 = .ok (.iconst 3, 1) := by decide +kernel
theorem dL_dyes_220 : decode cL_dyes 220 = .ok (.iload 9, 2) := by decide +kernel
theorem dL_dyes_222 : decode cL_dyes 222 = .ok (.imul, 1) := by decide +kernel
theorem dL_dyes_223 : decode cL_dyes 223 = .ok (.iconst 2, 1) := by decide +kernel
theorem dL_dyes_224 : decode cL_dyes 224 = .ok (.iadd, 1) := by decide +kernel
theorem dL_dyes_225 : decode cL_dyes 225 = .ok (.iaload, 1) := by decide +kernel
theorem dL_dyes_226 : decode cL_dyes 226 = .ok (.if_icmp .le 8, 3) := by decide +kernel
theorem dL_dyes_229 : decode cL_dyes 229 = .ok (.iload 15, 2) := by decide +kernel
theorem dL_dyes_231 : decode cL_dyes 231 = .ok (.goto 4, 3) := by decide +kernel
theorem dL_dyes_234 : decode cL_dyes 234 = .ok (.iconst 0, 1) := by decide +kernel
theorem dL_dyes_235 : decode cL_dyes 235 = .ok (.iastore, 1) := by decide +kernel
theorem dL_dyes_236 : decode cL_dyes 236 = .ok (.aload_n 3, 1) := by decide +kernel
theorem dL_dyes_237 : decode cL_dyes 237 = .ok (.iload 5, 2) := by decide +kernel
theorem dL_dyes_239 : decode cL_dyes 239 = .ok (.iconst 3, 1) := by decide +kernel
theorem dL_dyes_240 : decode cL_dyes 240 = .ok (.iadd, 1) := by decide +kernel
theorem dL_dyes_241 : decode cL_dyes 241 = .ok (.iconst 1, 1) := by decide +kernel
theorem dL_dyes_242 : decode cL_dyes 242 = .ok (.iastore, 1) := by decide +kernel
theorem dL_dyes_243 : decode cL_dyes 243 = .ok (.aload_n 3, 1) := by decide +kernel
theorem dL_dyes_244 : decode cL_dyes 244 = .ok (.iload 5, 2) := by decide +kernel
theorem dL_dyes_246 : decode cL_dyes 246 = .ok (.iconst 4, 1) := by decide +kernel
theorem dL_dyes_247 : decode cL_dyes 247 = .ok (.iadd, 1) := by decide +kernel
theorem dL_dyes_248 : decode cL_dyes 248 = .ok (.iload 7, 2) := by decide +kernel
theorem dL_dyes_250 : decode cL_dyes 250 = .ok (.iastore, 1) := by decide +kernel
theorem dL_dyes_251 : decode cL_dyes 251 = .ok (.aload_n 2, 1) := by decide +kernel
theorem dL_dyes_252 : decode cL_dyes 252 = .ok (.iconst 3, 1) := by decide +kernel
theorem dL_dyes_253 : decode cL_dyes 253 = .ok (.iload 7, 2) := by decide +kernel
theorem dL_dyes_255 : decode cL_dyes 255 = .ok (.imul, 1) := by decide +kernel
theorem dL_dyes_256 : decode cL_dyes 256 = .ok (.iconst 2, 1) := by decide +kernel
theorem dL_dyes_257 : decode cL_dyes 257 = .ok (.iadd, 1) := by decide +kernel
theorem dL_dyes_258 : decode cL_dyes 258 = .ok (.dup2, 1) := by decide +kernel
theorem dL_dyes_259 : decode cL_dyes 259 = .ok (.iaload, 1) := by decide +kernel
theorem dL_dyes_260 : decode cL_dyes 260 = .ok (.aload_n 3, 1) := by decide +kernel
theorem dL_dyes_261 : decode cL_dyes 261 = .ok (.iload 5, 2) := by decide +kernel
theorem dL_dyes_263 : decode cL_dyes 263 = .ok (.iconst 2, 1) := by decide +kernel
theorem dL_dyes_264 : decode cL_dyes 264 = .ok (.iadd, 1) := by decide +kernel
theorem dL_dyes_265 : decode cL_dyes 265 = .ok (.iaload, 1) := by decide +kernel
theorem dL_dyes_266 : decode cL_dyes 266 = .ok (.isub, 1) := by decide +kernel
theorem dL_dyes_267 : decode cL_dyes 267 = .ok (.iastore, 1) := by decide +kernel
theorem dL_dyes_268 : decode cL_dyes 268 = .ok (.aload_n 2, 1) := by decide +kernel
theorem dL_dyes_269 : decode cL_dyes 269 = .ok (.iconst 3, 1) := by decide +kernel
theorem dL_dyes_270 : decode cL_dyes 270 = .ok (.iload 7, 2) := by decide +kernel
theorem dL_dyes_272 : decode cL_dyes 272 = .ok (.imul, 1) := by decide +kernel
theorem dL_dyes_273 : decode cL_dyes 273 = .ok (.iconst 2, 1) := by decide +kernel
theorem dL_dyes_274 : decode cL_dyes 274 = .ok (.iadd, 1) := by decide +kernel
theorem dL_dyes_275 : decode cL_dyes 275 = .ok (.aload_n 2, 1) := by decide +kernel
theorem dL_dyes_276 : decode cL_dyes 276 = .ok (.iconst 3, 1) := by decide +kernel
theorem dL_dyes_277 : decode cL_dyes 277 = .ok (.iload 7, 2) := by decide +kernel
theorem dL_dyes_279 : decode cL_dyes 279 = .ok (.imul, 1) := by decide +kernel
theorem dL_dyes_280 : decode cL_dyes 280 = .ok (.iconst 2, 1) := by decide +kernel
theorem dL_dyes_281 : decode cL_dyes 281 = .ok (.iadd, 1) := by decide +kernel
theorem dL_dyes_282 : decode cL_dyes 282 = .ok (.iaload, 1) := by decide +kernel
theorem dL_dyes_283 : decode cL_dyes 283 = .ok (.ifCond .ge 7, 3) := by decide +kernel
theorem dL_dyes_286 : decode cL_dyes 286 = .ok (.iconst 0, 1) := by decide +kernel
theorem dL_dyes_287 : decode cL_dyes 287 = .ok (.goto 11, 3) := by decide +kernel
theorem dL_dyes_290 : decode cL_dyes 290 = .ok (.aload_n 2, 1) := by decide +kernel
theorem dL_dyes_291 : decode cL_dyes 291 = .ok (.iconst 3, 1) := by decide +kernel
theorem dL_dyes_292 : decode cL_dyes 292 = .ok (.iload 7, 2) := by decide +kernel
theorem dL_dyes_294 : decode cL_dyes 294 = .ok (.imul, 1) := by decide +kernel
theorem dL_dyes_295 : decode cL_dyes 295 = .ok (.iconst 2, 1) := by decide +kernel
theorem dL_dyes_296 : decode cL_dyes 296 = .ok (.iadd, 1) := by decide +kernel
theorem dL_dyes_297 : decode cL_dyes 297 = .ok (.iaload, 1) := by decide +kernel
theorem dL_dyes_298 : decode cL_dyes 298 = .ok (.iastore, 1) := by decide +kernel
theorem dL_dyes_299 : decode cL_dyes 299 = .ok (.return_, 1) := by decide +kernel
theorem dL_position_0 : decode cL_position 0 = .ok (.iconst 0, 1) := by decide +kernel
theorem dL_position_1 : decode cL_position 1 = .ok (.istore_n 3, 1) := by decide +kernel
theorem dL_position_2 : decode cL_position 2 = .ok (.iconst 0, 1) := by decide +kernel
theorem dL_position_3 : decode cL_position 3 = .ok (.istore 4, 2) := by decide +kernel
theorem dL_position_5 : decode cL_position 5 = .ok (.iload 4, 2) := by decide +kernel
theorem dL_position_7 : decode cL_position 7 = .ok (.bipush 25, 2) := by decide +kernel
theorem dL_position_9 : decode cL_position 9 = .ok (.if_icmp .ge 55, 3) := by decide +kernel
theorem dL_position_12 : decode cL_position 12 = .ok (.iload_n 3, 1) := by decide +kernel
theorem dL_position_13 : decode cL_position 13 = .ok (.iload 4, 2) := by decide +kernel
theorem dL_position_15 : decode cL_position 15 = .ok (.iconst 5, 1) := by decide +kernel
theorem dL_position_16 : decode cL_position 16 = .ok (.irem, 1) := by decide +kernel
theorem dL_position_17 : decode cL_position 17 = .ok (.iload_n 2, 1) := by decide +kernel
theorem dL_position_18 : decode cL_position 18 = .ok (.if_icmp .ne 15, 3) := by decide +kernel
theorem dL_position_21 : decode cL_position 21 = .ok (.aload_n 0, 1) := by decide +kernel
theorem dL_position_22 : decode cL_position 22 = .ok (.bipush 25, 2) := by decide +kernel
theorem dL_position_24 : decode cL_position 24 = .ok (.iload_n 1, 1) := by decide +kernel
theorem dL_position_25 : decode cL_position 25 = .ok (.imul, 1) := by decide +kernel
theorem dL_position_26 : decode cL_position 26 = .ok (.iload 4, 2) := by decide +kernel
theorem dL_position_28 : decode cL_position 28 = .ok (.iadd, 1) := by decide +kernel
theorem dL_position_29 : decode cL_position 29 = .ok (.iaload, 1) := by decide +kernel
theorem dL_position_30 : decode cL_position 30 = .ok (.goto 4, 3) := by decide +kernel
theorem dL_position_33 : decode cL_position 33 = .ok (.iconst 0, 1) := by decide +kernel
theorem dL_position_34 : decode cL_position 34 = .ok (.iload 4, 2) := by decide +kernel
theorem dL_position_36 : decode cL_position 36 = .ok (.iconst 5, 1) := by decide +kernel
theorem dL_position_37 : decode cL_position 37 = .ok (.idiv, 1) := by decide +kernel
theorem dL_position_38 : decode cL_position 38 = .ok (.iload_n 2, 1) := by decide +kernel
theorem dL_position_39 : decode cL_position 39 = .ok (.if_icmp .ne 15, 3) := by decide +kernel
theorem dL_position_42 : decode cL_position 42 = .ok (.aload_n 0, 1) := by decide +kernel
theorem dL_position_43 : decode cL_position 43 = .ok (.bipush 25, 2) := by decide +kernel
theorem dL_position_45 : decode cL_position 45 = .ok (.iload_n 1, 1) := by decide +kernel
theorem dL_position_46 : decode cL_position 46 = .ok (.imul, 1) := by decide +kernel
theorem dL_position_47 : decode cL_position 47 = .ok (.iload 4, 2) := by decide +kernel
theorem dL_position_49 : decode cL_position 49 = .ok (.iadd, 1) := by decide +kernel
theorem dL_position_50 : decode cL_position 50 = .ok (.iaload, 1) := by decide +kernel
theorem dL_position_51 : decode cL_position 51 = .ok (.goto 4, 3) := by decide +kernel
theorem dL_position_54 : decode cL_position 54 = .ok (.iconst 0, 1) := by decide +kernel
theorem dL_position_55 : decode cL_position 55 = .ok (.isub, 1) := by decide +kernel
theorem dL_position_56 : decode cL_position 56 = .ok (.iadd, 1) := by decide +kernel
theorem dL_position_57 : decode cL_position 57 = .ok (.istore_n 3, 1) := by decide +kernel
theorem dL_position_58 : decode cL_position 58 = .ok (.iinc 4 1, 3) := by decide +kernel
theorem dL_position_61 : decode cL_position 61 = .ok (.goto (-56), 3) := by decide +kernel
theorem dL_position_64 : decode cL_position 64 = .ok (.iload_n 3, 1) := by decide +kernel
theorem dL_position_65 : decode cL_position 65 = .ok (.ireturn, 1) := by decide +kernel
theorem dL_entries_0 : decode cL_entries 0 = .ok (.aload_n 0, 1) := by decide +kernel
theorem dL_entries_1 : decode cL_entries 1 = .ok (.iload_n 1, 1) := by decide +kernel
theorem dL_entries_2 : decode cL_entries 2 = .ok (.iload_n 2, 1) := by decide +kernel
theorem dL_entries_3 : decode cL_entries 3 = .ok (.iload_n 3, 1) := by decide +kernel
theorem dL_entries_4 : decode cL_entries 4 = .ok (.invokevirtual 23, 3) := by decide +kernel
theorem dL_entries_7 : decode cL_entries 7 = .ok (.ireturn, 1) := by decide +kernel
theorem dL_entries_8 : decode cL_entries 8 = .ok (.astore 4, 2) := by decide +kernel
theorem dL_entries_10 : decode cL_entries 10 = .ok (.bipush (-101), 2) := by decide +kernel
theorem dL_entries_12 : decode cL_entries 12 = .ok (.ireturn, 1) := by decide +kernel
theorem dL_entries_13 : decode cL_entries 13 = .ok (.astore 4, 2) := by decide +kernel
theorem dL_entries_15 : decode cL_entries 15 = .ok (.bipush (-102), 2) := by decide +kernel
theorem dL_entries_17 : decode cL_entries 17 = .ok (.ireturn, 1) := by decide +kernel
theorem dL_yarns_0 : decode cL_yarns 0 = .ok (.aload_n 0, 1) := by decide +kernel
theorem dL_yarns_1 : decode cL_yarns 1 = .ok (.iload_n 1, 1) := by decide +kernel
theorem dL_yarns_2 : decode cL_yarns 2 = .ok (.iload_n 2, 1) := by decide +kernel
theorem dL_yarns_3 : decode cL_yarns 3 = .ok (.iload_n 3, 1) := by decide +kernel
theorem dL_yarns_4 : decode cL_yarns 4 = .ok (.invokevirtual 33, 3) := by decide +kernel
theorem dL_yarns_7 : decode cL_yarns 7 = .ok (.ireturn, 1) := by decide +kernel
theorem dL_yarns_8 : decode cL_yarns 8 = .ok (.astore 4, 2) := by decide +kernel
theorem dL_yarns_10 : decode cL_yarns 10 = .ok (.bipush (-101), 2) := by decide +kernel
theorem dL_yarns_12 : decode cL_yarns 12 = .ok (.ireturn, 1) := by decide +kernel
theorem dL_yarns_13 : decode cL_yarns 13 = .ok (.astore 4, 2) := by decide +kernel
theorem dL_yarns_15 : decode cL_yarns 15 = .ok (.bipush (-102), 2) := by decide +kernel
theorem dL_yarns_17 : decode cL_yarns 17 = .ok (.ireturn, 1) := by decide +kernel
theorem dL_two_0 : decode cL_two 0 = .ok (.iload_n 1, 1) := by decide +kernel
theorem dL_two_1 : decode cL_two 1 = .ok (.ifCond .ne 12, 3) := by decide +kernel
theorem dL_two_4 : decode cL_two 4 = .ok (.aload_n 0, 1) := by decide +kernel
theorem dL_two_5 : decode cL_two 5 = .ok (.iload_n 2, 1) := by decide +kernel
theorem dL_two_6 : decode cL_two 6 = .ok (.iload_n 3, 1) := by decide +kernel
theorem dL_two_7 : decode cL_two 7 = .ok (.invokevirtual 38, 3) := by decide +kernel
theorem dL_two_10 : decode cL_two 10 = .ok (.goto 65, 3) := by decide +kernel
theorem dL_two_13 : decode cL_two 13 = .ok (.iload_n 1, 1) := by decide +kernel
theorem dL_two_14 : decode cL_two 14 = .ok (.iconst 1, 1) := by decide +kernel
theorem dL_two_15 : decode cL_two 15 = .ok (.if_icmp .ne 12, 3) := by decide +kernel
theorem dL_two_18 : decode cL_two 18 = .ok (.aload_n 0, 1) := by decide +kernel
theorem dL_two_19 : decode cL_two 19 = .ok (.iload_n 2, 1) := by decide +kernel
theorem dL_two_20 : decode cL_two 20 = .ok (.iload_n 3, 1) := by decide +kernel
theorem dL_two_21 : decode cL_two 21 = .ok (.invokevirtual 41, 3) := by decide +kernel
theorem dL_two_24 : decode cL_two 24 = .ok (.goto 51, 3) := by decide +kernel
theorem dL_two_27 : decode cL_two 27 = .ok (.iload_n 1, 1) := by decide +kernel
theorem dL_two_28 : decode cL_two 28 = .ok (.iconst 2, 1) := by decide +kernel
theorem dL_two_29 : decode cL_two 29 = .ok (.if_icmp .ne 12, 3) := by decide +kernel
theorem dL_two_32 : decode cL_two 32 = .ok (.aload_n 0, 1) := by decide +kernel
theorem dL_two_33 : decode cL_two 33 = .ok (.iload_n 2, 1) := by decide +kernel
theorem dL_two_34 : decode cL_two 34 = .ok (.iload_n 3, 1) := by decide +kernel
theorem dL_two_35 : decode cL_two 35 = .ok (.invokevirtual 44, 3) := by decide +kernel
theorem dL_two_38 : decode cL_two 38 = .ok (.goto 37, 3) := by decide +kernel
theorem dL_two_41 : decode cL_two 41 = .ok (.iload_n 1, 1) := by decide +kernel
theorem dL_two_42 : decode cL_two 42 = .ok (.iconst 3, 1) := by decide +kernel
theorem dL_two_43 : decode cL_two 43 = .ok (.if_icmp .ne 12, 3) := by decide +kernel
theorem dL_two_46 : decode cL_two 46 = .ok (.aload_n 0, 1) := by decide +kernel
theorem dL_two_47 : decode cL_two 47 = .ok (.iload_n 2, 1) := by decide +kernel
theorem dL_two_48 : decode cL_two 48 = .ok (.iload_n 3, 1) := by decide +kernel
theorem dL_two_49 : decode cL_two 49 = .ok (.invokevirtual 47, 3) := by decide +kernel
theorem dL_two_52 : decode cL_two 52 = .ok (.goto 23, 3) := by decide +kernel
theorem dL_two_55 : decode cL_two 55 = .ok (.iload_n 1, 1) := by decide +kernel
theorem dL_two_56 : decode cL_two 56 = .ok (.iconst 4, 1) := by decide +kernel
theorem dL_two_57 : decode cL_two 57 = .ok (.if_icmp .ne 12, 3) := by decide +kernel
theorem dL_two_60 : decode cL_two 60 = .ok (.aload_n 0, 1) := by decide +kernel
theorem dL_two_61 : decode cL_two 61 = .ok (.iload_n 2, 1) := by decide +kernel
theorem dL_two_62 : decode cL_two 62 = .ok (.iload_n 3, 1) := by decide +kernel
theorem dL_two_63 : decode cL_two 63 = .ok (.invokevirtual 50, 3) := by decide +kernel
theorem dL_two_66 : decode cL_two 66 = .ok (.goto 9, 3) := by decide +kernel
theorem dL_two_69 : decode cL_two 69 = .ok (.aload_n 0, 1) := by decide +kernel
theorem dL_two_70 : decode cL_two 70 = .ok (.iload_n 2, 1) := by decide +kernel
theorem dL_two_71 : decode cL_two 71 = .ok (.iload_n 3, 1) := by decide +kernel
theorem dL_two_72 : decode cL_two 72 = .ok (.invokevirtual 53, 3) := by decide +kernel
theorem dL_two_75 : decode cL_two 75 = .ok (.ireturn, 1) := by decide +kernel
theorem dL_two_76 : decode cL_two 76 = .ok (.astore 4, 2) := by decide +kernel
theorem dL_two_78 : decode cL_two 78 = .ok (.bipush (-101), 2) := by decide +kernel
theorem dL_two_80 : decode cL_two 80 = .ok (.ireturn, 1) := by decide +kernel
theorem dL_two_81 : decode cL_two 81 = .ok (.astore 4, 2) := by decide +kernel
theorem dL_two_83 : decode cL_two 83 = .ok (.bipush (-102), 2) := by decide +kernel
theorem dL_two_85 : decode cL_two 85 = .ok (.ireturn, 1) := by decide +kernel
theorem dL_two_86 : decode cL_two 86 = .ok (.astore 4, 2) := by decide +kernel
theorem dL_two_88 : decode cL_two 88 = .ok (.bipush (-103), 2) := by decide +kernel
theorem dL_two_90 : decode cL_two 90 = .ok (.ireturn, 1) := by decide +kernel
theorem dL_orders_0 : decode cL_orders 0 = .ok (.aload_n 0, 1) := by decide +kernel
theorem dL_orders_1 : decode cL_orders 1 = .ok (.iload_n 1, 1) := by decide +kernel
theorem dL_orders_2 : decode cL_orders 2 = .ok (.iload_n 2, 1) := by decide +kernel
theorem dL_orders_3 : decode cL_orders 3 = .ok (.iload_n 3, 1) := by decide +kernel
theorem dL_orders_4 : decode cL_orders 4 = .ok (.invokevirtual 54, 3) := by decide +kernel
theorem dL_orders_7 : decode cL_orders 7 = .ok (.ireturn, 1) := by decide +kernel
theorem dL_orders_8 : decode cL_orders 8 = .ok (.astore 4, 2) := by decide +kernel
theorem dL_orders_10 : decode cL_orders 10 = .ok (.bipush (-101), 2) := by decide +kernel
theorem dL_orders_12 : decode cL_orders 12 = .ok (.ireturn, 1) := by decide +kernel
theorem dL_orders_13 : decode cL_orders 13 = .ok (.astore 4, 2) := by decide +kernel
theorem dL_orders_15 : decode cL_orders 15 = .ok (.bipush (-102), 2) := by decide +kernel
theorem dL_orders_17 : decode cL_orders 17 = .ok (.ireturn, 1) := by decide +kernel
theorem dL_orders_18 : decode cL_orders 18 = .ok (.astore 4, 2) := by decide +kernel
theorem dL_orders_20 : decode cL_orders 20 = .ok (.bipush (-103), 2) := by decide +kernel
theorem dL_orders_22 : decode cL_orders 22 = .ok (.ireturn, 1) := by decide +kernel
theorem dL_pieces_0 : decode cL_pieces 0 = .ok (.iload_n 1, 1) := by decide +kernel
theorem dL_pieces_1 : decode cL_pieces 1 = .ok (.ifCond .ne 11, 3) := by decide +kernel
theorem dL_pieces_4 : decode cL_pieces 4 = .ok (.aload_n 0, 1) := by decide +kernel
theorem dL_pieces_5 : decode cL_pieces 5 = .ok (.iload_n 2, 1) := by decide +kernel
theorem dL_pieces_6 : decode cL_pieces 6 = .ok (.invokevirtual 57, 3) := by decide +kernel
theorem dL_pieces_9 : decode cL_pieces 9 = .ok (.goto 36, 3) := by decide +kernel
theorem dL_pieces_12 : decode cL_pieces 12 = .ok (.iload_n 1, 1) := by decide +kernel
theorem dL_pieces_13 : decode cL_pieces 13 = .ok (.iconst 1, 1) := by decide +kernel
theorem dL_pieces_14 : decode cL_pieces 14 = .ok (.if_icmp .ne 11, 3) := by decide +kernel
theorem dL_pieces_17 : decode cL_pieces 17 = .ok (.aload_n 0, 1) := by decide +kernel
theorem dL_pieces_18 : decode cL_pieces 18 = .ok (.iload_n 2, 1) := by decide +kernel
theorem dL_pieces_19 : decode cL_pieces 19 = .ok (.invokevirtual 61, 3) := by decide +kernel
theorem dL_pieces_22 : decode cL_pieces 22 = .ok (.goto 23, 3) := by decide +kernel
theorem dL_pieces_25 : decode cL_pieces 25 = .ok (.iload_n 1, 1) := by decide +kernel
theorem dL_pieces_26 : decode cL_pieces 26 = .ok (.iconst 2, 1) := by decide +kernel
theorem dL_pieces_27 : decode cL_pieces 27 = .ok (.if_icmp .ne 12, 3) := by decide +kernel
theorem dL_pieces_30 : decode cL_pieces 30 = .ok (.aload_n 0, 1) := by decide +kernel
theorem dL_pieces_31 : decode cL_pieces 31 = .ok (.iload_n 2, 1) := by decide +kernel
theorem dL_pieces_32 : decode cL_pieces 32 = .ok (.iload_n 3, 1) := by decide +kernel
theorem dL_pieces_33 : decode cL_pieces 33 = .ok (.invokevirtual 64, 3) := by decide +kernel
theorem dL_pieces_36 : decode cL_pieces 36 = .ok (.goto 9, 3) := by decide +kernel
theorem dL_pieces_39 : decode cL_pieces 39 = .ok (.aload_n 0, 1) := by decide +kernel
theorem dL_pieces_40 : decode cL_pieces 40 = .ok (.iload_n 2, 1) := by decide +kernel
theorem dL_pieces_41 : decode cL_pieces 41 = .ok (.iload_n 3, 1) := by decide +kernel
theorem dL_pieces_42 : decode cL_pieces 42 = .ok (.invokevirtual 67, 3) := by decide +kernel
theorem dL_pieces_45 : decode cL_pieces 45 = .ok (.ireturn, 1) := by decide +kernel
theorem dL_pieces_46 : decode cL_pieces 46 = .ok (.astore 4, 2) := by decide +kernel
theorem dL_pieces_48 : decode cL_pieces 48 = .ok (.bipush (-101), 2) := by decide +kernel
theorem dL_pieces_50 : decode cL_pieces 50 = .ok (.ireturn, 1) := by decide +kernel
theorem dL_pieces_51 : decode cL_pieces 51 = .ok (.astore 4, 2) := by decide +kernel
theorem dL_pieces_53 : decode cL_pieces 53 = .ok (.bipush (-102), 2) := by decide +kernel
theorem dL_pieces_55 : decode cL_pieces 55 = .ok (.ireturn, 1) := by decide +kernel
theorem dL_pieces_56 : decode cL_pieces 56 = .ok (.astore 4, 2) := by decide +kernel
theorem dL_pieces_58 : decode cL_pieces 58 = .ok (.bipush (-103), 2) := by decide +kernel
theorem dL_pieces_60 : decode cL_pieces 60 = .ok (.ireturn, 1) := by decide +kernel
theorem dL_gives_0 : decode cL_gives 0 = .ok (.aload_n 0, 1) := by decide +kernel
theorem dL_gives_1 : decode cL_gives 1 = .ok (.iload_n 1, 1) := by decide +kernel
theorem dL_gives_2 : decode cL_gives 2 = .ok (.iload_n 2, 1) := by decide +kernel
theorem dL_gives_3 : decode cL_gives 3 = .ok (.iload_n 3, 1) := by decide +kernel
theorem dL_gives_4 : decode cL_gives 4 = .ok (.iload 4, 2) := by decide +kernel
theorem dL_gives_6 : decode cL_gives 6 = .ok (.invokevirtual 72, 3) := by decide +kernel
theorem dL_gives_9 : decode cL_gives 9 = .ok (.ireturn, 1) := by decide +kernel
theorem dL_gives_10 : decode cL_gives 10 = .ok (.astore 5, 2) := by decide +kernel
theorem dL_gives_12 : decode cL_gives 12 = .ok (.bipush (-101), 2) := by decide +kernel
theorem dL_gives_14 : decode cL_gives 14 = .ok (.ireturn, 1) := by decide +kernel
theorem dL_gives_15 : decode cL_gives 15 = .ok (.astore 5, 2) := by decide +kernel
theorem dL_gives_17 : decode cL_gives 17 = .ok (.bipush (-102), 2) := by decide +kernel
theorem dL_gives_19 : decode cL_gives 19 = .ok (.ireturn, 1) := by decide +kernel
theorem dL_gives_20 : decode cL_gives 20 = .ok (.astore 5, 2) := by decide +kernel
theorem dL_gives_22 : decode cL_gives 22 = .ok (.bipush (-103), 2) := by decide +kernel
theorem dL_gives_24 : decode cL_gives 24 = .ok (.ireturn, 1) := by decide +kernel
theorem dL_one_0 : decode cL_one 0 = .ok (.iload_n 1, 1) := by decide +kernel
theorem dL_one_1 : decode cL_one 1 = .ok (.ifCond .ne 11, 3) := by decide +kernel
theorem dL_one_4 : decode cL_one 4 = .ok (.aload_n 0, 1) := by decide +kernel
theorem dL_one_5 : decode cL_one 5 = .ok (.iload_n 2, 1) := by decide +kernel
theorem dL_one_6 : decode cL_one 6 = .ok (.invokevirtual 76, 3) := by decide +kernel
theorem dL_one_9 : decode cL_one 9 = .ok (.goto 34, 3) := by decide +kernel
theorem dL_one_12 : decode cL_one 12 = .ok (.iload_n 1, 1) := by decide +kernel
theorem dL_one_13 : decode cL_one 13 = .ok (.iconst 1, 1) := by decide +kernel
theorem dL_one_14 : decode cL_one 14 = .ok (.if_icmp .ne 11, 3) := by decide +kernel
theorem dL_one_17 : decode cL_one 17 = .ok (.aload_n 0, 1) := by decide +kernel
theorem dL_one_18 : decode cL_one 18 = .ok (.iload_n 2, 1) := by decide +kernel
theorem dL_one_19 : decode cL_one 19 = .ok (.invokevirtual 79, 3) := by decide +kernel
theorem dL_one_22 : decode cL_one 22 = .ok (.goto 21, 3) := by decide +kernel
theorem dL_one_25 : decode cL_one 25 = .ok (.iload_n 1, 1) := by decide +kernel
theorem dL_one_26 : decode cL_one 26 = .ok (.iconst 2, 1) := by decide +kernel
theorem dL_one_27 : decode cL_one 27 = .ok (.if_icmp .ne 11, 3) := by decide +kernel
theorem dL_one_30 : decode cL_one 30 = .ok (.aload_n 0, 1) := by decide +kernel
theorem dL_one_31 : decode cL_one 31 = .ok (.iload_n 2, 1) := by decide +kernel
theorem dL_one_32 : decode cL_one 32 = .ok (.invokevirtual 82, 3) := by decide +kernel
theorem dL_one_35 : decode cL_one 35 = .ok (.goto 8, 3) := by decide +kernel
theorem dL_one_38 : decode cL_one 38 = .ok (.aload_n 0, 1) := by decide +kernel
theorem dL_one_39 : decode cL_one 39 = .ok (.iload_n 2, 1) := by decide +kernel
theorem dL_one_40 : decode cL_one 40 = .ok (.invokevirtual 85, 3) := by decide +kernel
theorem dL_one_43 : decode cL_one 43 = .ok (.ireturn, 1) := by decide +kernel
theorem dL_one_44 : decode cL_one 44 = .ok (.astore_n 3, 1) := by decide +kernel
theorem dL_one_45 : decode cL_one 45 = .ok (.bipush (-101), 2) := by decide +kernel
theorem dL_one_47 : decode cL_one 47 = .ok (.ireturn, 1) := by decide +kernel
theorem dL_debt_0 : decode cL_debt 0 = .ok (.iload_n 1, 1) := by decide +kernel
theorem dL_debt_1 : decode cL_debt 1 = .ok (.ifCond .ne 14, 3) := by decide +kernel
theorem dL_debt_4 : decode cL_debt 4 = .ok (.aload_n 0, 1) := by decide +kernel
theorem dL_debt_5 : decode cL_debt 5 = .ok (.iload_n 2, 1) := by decide +kernel
theorem dL_debt_6 : decode cL_debt 6 = .ok (.iload_n 3, 1) := by decide +kernel
theorem dL_debt_7 : decode cL_debt 7 = .ok (.iload 4, 2) := by decide +kernel
theorem dL_debt_9 : decode cL_debt 9 = .ok (.invokevirtual 88, 3) := by decide +kernel
theorem dL_debt_12 : decode cL_debt 12 = .ok (.goto 10, 3) := by decide +kernel
theorem dL_debt_15 : decode cL_debt 15 = .ok (.aload_n 0, 1) := by decide +kernel
theorem dL_debt_16 : decode cL_debt 16 = .ok (.iload_n 2, 1) := by decide +kernel
theorem dL_debt_17 : decode cL_debt 17 = .ok (.iload 4, 2) := by decide +kernel
theorem dL_debt_19 : decode cL_debt 19 = .ok (.invokevirtual 91, 3) := by decide +kernel
theorem dL_debt_22 : decode cL_debt 22 = .ok (.ireturn, 1) := by decide +kernel
theorem dL_debt_23 : decode cL_debt 23 = .ok (.astore 5, 2) := by decide +kernel
theorem dL_debt_25 : decode cL_debt 25 = .ok (.ldc 94, 2) := by decide +kernel
theorem dL_debt_27 : decode cL_debt 27 = .ok (.ireturn, 1) := by decide +kernel
theorem dL_sets_0 : decode cL_sets 0 = .ok (.iload_n 1, 1) := by decide +kernel
theorem dL_sets_1 : decode cL_sets 1 = .ok (.ifCond .ne 196, 3) := by decide +kernel
theorem dL_sets_4 : decode cL_sets 4 = .ok (.iload_n 2, 1) := by decide +kernel
theorem dL_sets_5 : decode cL_sets 5 = .ok (.bipush 60, 2) := by decide +kernel
theorem dL_sets_7 : decode cL_sets 7 = .ok (.invokestatic 95, 3) := by decide +kernel
theorem dL_sets_10 : decode cL_sets 10 = .ok (.ifCond .ne 8, 3) := by decide +kernel
theorem dL_sets_13 : decode cL_sets 13 = .ok (.bipush 61, 2) := by decide +kernel
theorem dL_sets_15 : decode cL_sets 15 = .ok (.goto 9, 3) := by decide +kernel
theorem dL_sets_18 : decode cL_sets 18 = .ok (.iload_n 2, 1) := by decide +kernel
theorem dL_sets_19 : decode cL_sets 19 = .ok (.bipush 61, 2) := by decide +kernel
theorem dL_sets_21 : decode cL_sets 21 = .ok (.invokestatic 95, 3) := by decide +kernel
theorem dL_sets_24 : decode cL_sets 24 = .ok (.istore 8, 2) := by decide +kernel
theorem dL_sets_26 : decode cL_sets 26 = .ok (.iload_n 2, 1) := by decide +kernel
theorem dL_sets_27 : decode cL_sets 27 = .ok (.iconst 3, 1) := by decide +kernel
theorem dL_sets_28 : decode cL_sets 28 = .ok (.ishr, 1) := by decide +kernel
theorem dL_sets_29 : decode cL_sets 29 = .ok (.bipush 60, 2) := by decide +kernel
theorem dL_sets_31 : decode cL_sets 31 = .ok (.invokestatic 95, 3) := by decide +kernel
theorem dL_sets_34 : decode cL_sets 34 = .ok (.ifCond .ne 7, 3) := by decide +kernel
theorem dL_sets_37 : decode cL_sets 37 = .ok (.iconst (-1), 1) := by decide +kernel
theorem dL_sets_38 : decode cL_sets 38 = .ok (.goto 11, 3) := by decide +kernel
theorem dL_sets_41 : decode cL_sets 41 = .ok (.iload_n 2, 1) := by decide +kernel
theorem dL_sets_42 : decode cL_sets 42 = .ok (.iconst 3, 1) := by decide +kernel
theorem dL_sets_43 : decode cL_sets 43 = .ok (.ishr, 1) := by decide +kernel
theorem dL_sets_44 : decode cL_sets 44 = .ok (.bipush 61, 2) := by decide +kernel
theorem dL_sets_46 : decode cL_sets 46 = .ok (.invokestatic 95, 3) := by decide +kernel
theorem dL_sets_49 : decode cL_sets 49 = .ok (.istore 9, 2) := by decide +kernel
theorem dL_sets_51 : decode cL_sets 51 = .ok (.iload_n 2, 1) := by decide +kernel
theorem dL_sets_52 : decode cL_sets 52 = .ok (.iconst 5, 1) := by decide +kernel
theorem dL_sets_53 : decode cL_sets 53 = .ok (.ishr, 1) := by decide +kernel
theorem dL_sets_54 : decode cL_sets 54 = .ok (.bipush 60, 2) := by decide +kernel
theorem dL_sets_56 : decode cL_sets 56 = .ok (.invokestatic 95, 3) := by decide +kernel
theorem dL_sets_59 : decode cL_sets 59 = .ok (.ifCond .ne 8, 3) := by decide +kernel
theorem dL_sets_62 : decode cL_sets 62 = .ok (.bipush 21, 2) := by decide +kernel
theorem dL_sets_64 : decode cL_sets 64 = .ok (.goto 11, 3) := by decide +kernel
theorem dL_sets_67 : decode cL_sets 67 = .ok (.iload_n 2, 1) := by decide +kernel
theorem dL_sets_68 : decode cL_sets 68 = .ok (.iconst 5, 1) := by decide +kernel
theorem dL_sets_69 : decode cL_sets 69 = .ok (.ishr, 1) := by decide +kernel
theorem dL_sets_70 : decode cL_sets 70 = .ok (.bipush 14, 2) := by decide +kernel
theorem dL_sets_72 : decode cL_sets 72 = .ok (.invokestatic 95, 3) := by decide +kernel
theorem dL_sets_75 : decode cL_sets 75 = .ok (.istore 10, 2) := by decide +kernel
theorem dL_sets_77 : decode cL_sets 77 = .ok (.iload 8, 2) := by decide +kernel
theorem dL_sets_79 : decode cL_sets 79 = .ok (.bipush 61, 2) := by decide +kernel
theorem dL_sets_81 : decode cL_sets 81 = .ok (.if_icmp .ge 19, 3) := by decide +kernel
theorem dL_sets_84 : decode cL_sets 84 = .ok (.iload 9, 2) := by decide +kernel
theorem dL_sets_86 : decode cL_sets 86 = .ok (.ifCond .lt 14, 3) := by decide +kernel
theorem dL_sets_89 : decode cL_sets 89 = .ok (.iload 10, 2) := by decide +kernel
theorem dL_sets_91 : decode cL_sets 91 = .ok (.bipush 21, 2) := by decide +kernel
theorem dL_sets_93 : decode cL_sets 93 = .ok (.if_icmp .ge 7, 3) := by decide +kernel
theorem dL_sets_96 : decode cL_sets 96 = .ok (.iconst 1, 1) := by decide +kernel
theorem dL_sets_97 : decode cL_sets 97 = .ok (.goto 4, 3) := by decide +kernel
theorem dL_sets_100 : decode cL_sets 100 = .ok (.iconst 0, 1) := by decide +kernel
theorem dL_sets_101 : decode cL_sets 101 = .ok (.istore 11, 2) := by decide +kernel
theorem dL_sets_103 : decode cL_sets 103 = .ok (.iload 11, 2) := by decide +kernel
theorem dL_sets_105 : decode cL_sets 105 = .ok (.ifCond .eq 12, 3) := by decide +kernel
theorem dL_sets_108 : decode cL_sets 108 = .ok (.aload_n 3, 1) := by decide +kernel
theorem dL_sets_109 : decode cL_sets 109 = .ok (.iconst 0, 1) := by decide +kernel
theorem dL_sets_110 : decode cL_sets 110 = .ok (.iaload, 1) := by decide +kernel
theorem dL_sets_111 : decode cL_sets 111 = .ok (.iconst 4, 1) := by decide +kernel
theorem dL_sets_112 : decode cL_sets 112 = .ok (.if_icmp .ne 5, 3) := by decide +kernel
theorem dL_sets_115 : decode cL_sets 115 = .ok (.iconst 1, 1) := by decide +kernel
theorem dL_sets_116 : decode cL_sets 116 = .ok (.ireturn, 1) := by decide +kernel
theorem dL_sets_117 : decode cL_sets 117 = .ok (.iload 11, 2) := by decide +kernel
theorem dL_sets_119 : decode cL_sets 119 = .ok (.ifCond .eq 44, 3) := by decide +kernel
theorem dL_sets_122 : decode cL_sets 122 = .ok (.aload 4, 2) := by decide +kernel
theorem dL_sets_124 : decode cL_sets 124 = .ok (.iconst 3, 1) := by decide +kernel
theorem dL_sets_125 : decode cL_sets 125 = .ok (.aload_n 3, 1) := by decide +kernel
theorem dL_sets_126 : decode cL_sets 126 = .ok (.iconst 0, 1) := by decide +kernel
theorem dL_sets_127 : decode cL_sets 127 = .ok (.iaload, 1) := by decide +kernel
theorem dL_sets_128 : decode cL_sets 128 = .ok (.imul, 1) := by decide +kernel
theorem dL_sets_129 : decode cL_sets 129 = .ok (.iload 8, 2) := by decide +kernel
theorem dL_sets_131 : decode cL_sets 131 = .ok (.iastore, 1) := by decide +kernel
theorem dL_sets_132 : decode cL_sets 132 = .ok (.aload 4, 2) := by decide +kernel
theorem dL_sets_134 : decode cL_sets 134 = .ok (.iconst 3, 1) := by decide +kernel
theorem dL_sets_135 : decode cL_sets 135 = .ok (.aload_n 3, 1) := by decide +kernel
theorem dL_sets_136 : decode cL_sets 136 = .ok (.iconst 0, 1) := by decide +kernel
theorem dL_sets_137 : decode cL_sets 137 = .ok (.iaload, 1) := by decide +kernel
theorem dL_sets_138 : decode cL_sets 138 = .ok (.imul, 1) := by decide +kernel
theorem dL_sets_139 : decode cL_sets 139 = .ok (.iconst 1, 1) := by decide +kernel
theorem dL_sets_140 : decode cL_sets 140 = .ok (.iadd, 1) := by decide +kernel
theorem dL_sets_141 : decode cL_sets 141 = .ok (.iload 9, 2) := by decide +kernel
theorem dL_sets_143 : decode cL_sets 143 = .ok (.iastore, 1) := by decide +kernel
theorem dL_sets_144 : decode cL_sets 144 = .ok (.aload 4, 2) := by decide +kernel
theorem dL_sets_146 : decode cL_sets 146 = .ok (.iconst 3, 1) := by decide +kernel
theorem dL_sets_147 : decode cL_sets 147 = .ok (.aload_n 3, 1) := by decide +kernel
theorem dL_sets_148 : decode cL_sets 148 = .ok (.iconst 0, 1) := by decide +kernel
theorem dL_sets_149 : decode cL_sets 149 = .ok (.iaload, 1) := by decide +kernel
theorem dL_sets_150 : decode cL_sets 150 = .ok (.imul, 1) := by decide +kernel
theorem dL_sets_151 : decode cL_sets 151 = .ok (.iconst 2, 1) := by decide +kernel
theorem dL_sets_152 : decode cL_sets 152 = .ok (.iadd, 1) := by decide +kernel
theorem dL_sets_153 : decode cL_sets 153 = .ok (.iload 10, 2) := by decide +kernel
theorem dL_sets_155 : decode cL_sets 155 = .ok (.iastore, 1) := by decide +kernel
theorem dL_sets_156 : decode cL_sets 156 = .ok (.aload_n 3, 1) := by decide +kernel
theorem dL_sets_157 : decode cL_sets 157 = .ok (.iconst 0, 1) := by decide +kernel
theorem dL_sets_158 : decode cL_sets 158 = .ok (.dup2, 1) := by decide +kernel
theorem dL_sets_159 : decode cL_sets 159 = .ok (.iaload, 1) := by decide +kernel
theorem dL_sets_160 : decode cL_sets 160 = .ok (.iconst 1, 1) := by decide +kernel
theorem dL_sets_161 : decode cL_sets 161 = .ok (.iadd, 1) := by decide +kernel
theorem dL_sets_162 : decode cL_sets 162 = .ok (.iastore, 1) := by decide +kernel
theorem dL_sets_163 : decode cL_sets 163 = .ok (.aload_n 0, 1) := by decide +kernel
theorem dL_sets_164 : decode cL_sets 164 = .ok (.iload 8, 2) := by decide +kernel
theorem dL_sets_166 : decode cL_sets 166 = .ok (.iload 9, 2) := by decide +kernel
theorem dL_sets_168 : decode cL_sets 168 = .ok (.iload 10, 2) := by decide +kernel
theorem dL_sets_170 : decode cL_sets 170 = .ok (.invokestatic 98, 3) := by decide +kernel
theorem dL_sets_173 : decode cL_sets 173 = .ok (.iload 11, 2) := by decide +kernel
theorem dL_sets_175 : decode cL_sets 175 = .ok (.ifCond .eq 11, 3) := by decide +kernel
theorem dL_sets_178 : decode cL_sets 178 = .ok (.aload_n 3, 1) := by decide +kernel
theorem dL_sets_179 : decode cL_sets 179 = .ok (.iconst 0, 1) := by decide +kernel
theorem dL_sets_180 : decode cL_sets 180 = .ok (.iaload, 1) := by decide +kernel
theorem dL_sets_181 : decode cL_sets 181 = .ok (.iconst 1, 1) := by decide +kernel
theorem dL_sets_182 : decode cL_sets 182 = .ok (.isub, 1) := by decide +kernel
theorem dL_sets_183 : decode cL_sets 183 = .ok (.goto 5, 3) := by decide +kernel
theorem dL_sets_186 : decode cL_sets 186 = .ok (.bipush (-101), 2) := by decide +kernel
theorem dL_sets_188 : decode cL_sets 188 = .ok (.if_icmp .ne 7, 3) := by decide +kernel
theorem dL_sets_191 : decode cL_sets 191 = .ok (.iconst 1, 1) := by decide +kernel
theorem dL_sets_192 : decode cL_sets 192 = .ok (.goto 4, 3) := by decide +kernel
theorem dL_sets_195 : decode cL_sets 195 = .ok (.iconst 0, 1) := by decide +kernel
theorem dL_sets_196 : decode cL_sets 196 = .ok (.ireturn, 1) := by decide +kernel
theorem dL_sets_197 : decode cL_sets 197 = .ok (.iload_n 1, 1) := by decide +kernel
theorem dL_sets_198 : decode cL_sets 198 = .ok (.iconst 1, 1) := by decide +kernel
theorem dL_sets_199 : decode cL_sets 199 = .ok (.if_icmp .ne 116, 3) := by decide +kernel
theorem dL_sets_202 : decode cL_sets 202 = .ok (.iload_n 2, 1) := by decide +kernel
theorem dL_sets_203 : decode cL_sets 203 = .ok (.bipush 30, 2) := by decide +kernel
theorem dL_sets_205 : decode cL_sets 205 = .ok (.invokestatic 95, 3) := by decide +kernel
theorem dL_sets_208 : decode cL_sets 208 = .ok (.ifCond .ne 7, 3) := by decide +kernel
theorem dL_sets_211 : decode cL_sets 211 = .ok (.iconst 3, 1) := by decide +kernel
theorem dL_sets_212 : decode cL_sets 212 = .ok (.goto 8, 3) := by decide +kernel
theorem dL_sets_215 : decode cL_sets 215 = .ok (.iload_n 2, 1) := by decide +kernel
theorem dL_sets_216 : decode cL_sets 216 = .ok (.iconst 3, 1) := by decide +kernel
theorem dL_sets_217 : decode cL_sets 217 = .ok (.invokestatic 95, 3) := by decide +kernel
theorem dL_sets_220 : decode cL_sets 220 = .ok (.istore 8, 2) := by decide +kernel
theorem dL_sets_222 : decode cL_sets 222 = .ok (.iload_n 2, 1) := by decide +kernel
theorem dL_sets_223 : decode cL_sets 223 = .ok (.iconst 3, 1) := by decide +kernel
theorem dL_sets_224 : decode cL_sets 224 = .ok (.ishr, 1) := by decide +kernel
theorem dL_sets_225 : decode cL_sets 225 = .ok (.bipush 30, 2) := by decide +kernel
theorem dL_sets_227 : decode cL_sets 227 = .ok (.invokestatic 95, 3) := by decide +kernel
theorem dL_sets_230 : decode cL_sets 230 = .ok (.ifCond .ne 8, 3) := by decide +kernel
theorem dL_sets_233 : decode cL_sets 233 = .ok (.bipush 11, 2) := by decide +kernel
theorem dL_sets_235 : decode cL_sets 235 = .ok (.goto 14, 3) := by decide +kernel
theorem dL_sets_238 : decode cL_sets 238 = .ok (.iload_n 2, 1) := by decide +kernel
theorem dL_sets_239 : decode cL_sets 239 = .ok (.iconst 3, 1) := by decide +kernel
theorem dL_sets_240 : decode cL_sets 240 = .ok (.ishr, 1) := by decide +kernel
theorem dL_sets_241 : decode cL_sets 241 = .ok (.bipush 21, 2) := by decide +kernel
theorem dL_sets_243 : decode cL_sets 243 = .ok (.invokestatic 95, 3) := by decide +kernel
theorem dL_sets_246 : decode cL_sets 246 = .ok (.bipush 10, 2) := by decide +kernel
theorem dL_sets_248 : decode cL_sets 248 = .ok (.isub, 1) := by decide +kernel
theorem dL_sets_249 : decode cL_sets 249 = .ok (.istore 9, 2) := by decide +kernel
theorem dL_sets_251 : decode cL_sets 251 = .ok (.iload 8, 2) := by decide +kernel
theorem dL_sets_253 : decode cL_sets 253 = .ok (.iconst 2, 1) := by decide +kernel
theorem dL_sets_254 : decode cL_sets 254 = .ok (.if_icmp .le 8, 3) := by decide +kernel
theorem dL_sets_257 : decode cL_sets 257 = .ok (.bipush (-101), 2) := by decide +kernel
theorem dL_sets_259 : decode cL_sets 259 = .ok (.goto 20, 3) := by decide +kernel
theorem dL_sets_262 : decode cL_sets 262 = .ok (.iload 9, 2) := by decide +kernel
theorem dL_sets_264 : decode cL_sets 264 = .ok (.bipush 10, 2) := by decide +kernel
theorem dL_sets_266 : decode cL_sets 266 = .ok (.if_icmp .le 8, 3) := by decide +kernel
theorem dL_sets_269 : decode cL_sets 269 = .ok (.bipush (-102), 2) := by decide +kernel
theorem dL_sets_271 : decode cL_sets 271 = .ok (.goto 8, 3) := by decide +kernel
theorem dL_sets_274 : decode cL_sets 274 = .ok (.aload 5, 2) := by decide +kernel
theorem dL_sets_276 : decode cL_sets 276 = .ok (.iload 8, 2) := by decide +kernel
theorem dL_sets_278 : decode cL_sets 278 = .ok (.iaload, 1) := by decide +kernel
theorem dL_sets_279 : decode cL_sets 279 = .ok (.istore 10, 2) := by decide +kernel
theorem dL_sets_281 : decode cL_sets 281 = .ok (.iload 10, 2) := by decide +kernel
theorem dL_sets_283 : decode cL_sets 283 = .ok (.bipush (-20), 2) := by decide +kernel
theorem dL_sets_285 : decode cL_sets 285 = .ok (.if_icmp .le 10, 3) := by decide +kernel
theorem dL_sets_288 : decode cL_sets 288 = .ok (.aload 5, 2) := by decide +kernel
theorem dL_sets_290 : decode cL_sets 290 = .ok (.iload 8, 2) := by decide +kernel
theorem dL_sets_292 : decode cL_sets 292 = .ok (.iload 9, 2) := by decide +kernel
theorem dL_sets_294 : decode cL_sets 294 = .ok (.iastore, 1) := by decide +kernel
theorem dL_sets_295 : decode cL_sets 295 = .ok (.aload_n 0, 1) := by decide +kernel
theorem dL_sets_296 : decode cL_sets 296 = .ok (.iconst 0, 1) := by decide +kernel
theorem dL_sets_297 : decode cL_sets 297 = .ok (.iload 8, 2) := by decide +kernel
theorem dL_sets_299 : decode cL_sets 299 = .ok (.iload 9, 2) := by decide +kernel
theorem dL_sets_301 : decode cL_sets 301 = .ok (.invokestatic 102, 3) := by decide +kernel
theorem dL_sets_304 : decode cL_sets 304 = .ok (.iload 10, 2) := by decide +kernel
theorem dL_sets_306 : decode cL_sets 306 = .ok (.if_icmp .ne 7, 3) := by decide +kernel
theorem dL_sets_309 : decode cL_sets 309 = .ok (.iconst 1, 1) := by decide +kernel
theorem dL_sets_310 : decode cL_sets 310 = .ok (.goto 4, 3) := by decide +kernel
theorem dL_sets_313 : decode cL_sets 313 = .ok (.iconst 0, 1) := by decide +kernel
theorem dL_sets_314 : decode cL_sets 314 = .ok (.ireturn, 1) := by decide +kernel
theorem dL_sets_315 : decode cL_sets 315 = .ok (.iload_n 1, 1) := by decide +kernel
theorem dL_sets_316 : decode cL_sets 316 = .ok (.iconst 2, 1) := by decide +kernel
theorem dL_sets_317 : decode cL_sets 317 = .ok (.if_icmp .ne 172, 3) := by decide +kernel
theorem dL_sets_320 : decode cL_sets 320 = .ok (.iload_n 2, 1) := by decide +kernel
theorem dL_sets_321 : decode cL_sets 321 = .ok (.bipush 30, 2) := by decide +kernel
theorem dL_sets_323 : decode cL_sets 323 = .ok (.invokestatic 95, 3) := by decide +kernel
theorem dL_sets_326 : decode cL_sets 326 = .ok (.ifCond .ne 7, 3) := by decide +kernel
theorem dL_sets_329 : decode cL_sets 329 = .ok (.iconst 4, 1) := by decide +kernel
theorem dL_sets_330 : decode cL_sets 330 = .ok (.goto 8, 3) := by decide +kernel
theorem dL_sets_333 : decode cL_sets 333 = .ok (.iload_n 2, 1) := by decide +kernel
theorem dL_sets_334 : decode cL_sets 334 = .ok (.iconst 4, 1) := by decide +kernel
theorem dL_sets_335 : decode cL_sets 335 = .ok (.invokestatic 95, 3) := by decide +kernel
theorem dL_sets_338 : decode cL_sets 338 = .ok (.istore 8, 2) := by decide +kernel
theorem dL_sets_340 : decode cL_sets 340 = .ok (.iload_n 2, 1) := by decide +kernel
theorem dL_sets_341 : decode cL_sets 341 = .ok (.iconst 3, 1) := by decide +kernel
theorem dL_sets_342 : decode cL_sets 342 = .ok (.ishr, 1) := by decide +kernel
theorem dL_sets_343 : decode cL_sets 343 = .ok (.bipush 30, 2) := by decide +kernel
theorem dL_sets_345 : decode cL_sets 345 = .ok (.invokestatic 95, 3) := by decide +kernel
theorem dL_sets_348 : decode cL_sets 348 = .ok (.ifCond .ne 8, 3) := by decide +kernel
theorem dL_sets_351 : decode cL_sets 351 = .ok (.bipush (-11), 2) := by decide +kernel
theorem dL_sets_353 : decode cL_sets 353 = .ok (.goto 14, 3) := by decide +kernel
theorem dL_sets_356 : decode cL_sets 356 = .ok (.iload_n 2, 1) := by decide +kernel
theorem dL_sets_357 : decode cL_sets 357 = .ok (.iconst 3, 1) := by decide +kernel
theorem dL_sets_358 : decode cL_sets 358 = .ok (.ishr, 1) := by decide +kernel
theorem dL_sets_359 : decode cL_sets 359 = .ok (.bipush 21, 2) := by decide +kernel
theorem dL_sets_361 : decode cL_sets 361 = .ok (.invokestatic 95, 3) := by decide +kernel
theorem dL_sets_364 : decode cL_sets 364 = .ok (.bipush 10, 2) := by decide +kernel
theorem dL_sets_366 : decode cL_sets 366 = .ok (.isub, 1) := by decide +kernel
theorem dL_sets_367 : decode cL_sets 367 = .ok (.istore 9, 2) := by decide +kernel
theorem dL_sets_369 : decode cL_sets 369 = .ok (.iload_n 2, 1) := by decide +kernel
theorem dL_sets_370 : decode cL_sets 370 = .ok (.iconst 5, 1) := by decide +kernel
theorem dL_sets_371 : decode cL_sets 371 = .ok (.ishr, 1) := by decide +kernel
theorem dL_sets_372 : decode cL_sets 372 = .ok (.bipush 30, 2) := by decide +kernel
theorem dL_sets_374 : decode cL_sets 374 = .ok (.invokestatic 95, 3) := by decide +kernel
theorem dL_sets_377 : decode cL_sets 377 = .ok (.ifCond .ne 8, 3) := by decide +kernel
theorem dL_sets_380 : decode cL_sets 380 = .ok (.bipush 11, 2) := by decide +kernel
theorem dL_sets_382 : decode cL_sets 382 = .ok (.goto 14, 3) := by decide +kernel
theorem dL_sets_385 : decode cL_sets 385 = .ok (.iload_n 2, 1) := by decide +kernel
theorem dL_sets_386 : decode cL_sets 386 = .ok (.iconst 5, 1) := by decide +kernel
theorem dL_sets_387 : decode cL_sets 387 = .ok (.ishr, 1) := by decide +kernel
theorem dL_sets_388 : decode cL_sets 388 = .ok (.bipush 21, 2) := by decide +kernel
theorem dL_sets_390 : decode cL_sets 390 = .ok (.invokestatic 95, 3) := by decide +kernel
theorem dL_sets_393 : decode cL_sets 393 = .ok (.bipush 10, 2) := by decide +kernel
theorem dL_sets_395 : decode cL_sets 395 = .ok (.isub, 1) := by decide +kernel
theorem dL_sets_396 : decode cL_sets 396 = .ok (.istore 10, 2) := by decide +kernel
theorem dL_sets_398 : decode cL_sets 398 = .ok (.iload 8, 2) := by decide +kernel
theorem dL_sets_400 : decode cL_sets 400 = .ok (.iconst 3, 1) := by decide +kernel
theorem dL_sets_401 : decode cL_sets 401 = .ok (.if_icmp .le 8, 3) := by decide +kernel
theorem dL_sets_404 : decode cL_sets 404 = .ok (.bipush (-101), 2) := by decide +kernel
theorem dL_sets_406 : decode cL_sets 406 = .ok (.goto 31, 3) := by decide +kernel
theorem dL_sets_409 : decode cL_sets 409 = .ok (.iload 9, 2) := by decide +kernel
theorem dL_sets_411 : decode cL_sets 411 = .ok (.bipush (-10), 2) := by decide +kernel
theorem dL_sets_413 : decode cL_sets 413 = .ok (.if_icmp .lt 10, 3) := by decide +kernel
theorem dL_sets_416 : decode cL_sets 416 = .ok (.iload 10, 2) := by decide +kernel
theorem dL_sets_418 : decode cL_sets 418 = .ok (.bipush 10, 2) := by decide +kernel
theorem dL_sets_420 : decode cL_sets 420 = .ok (.if_icmp .le 8, 3) := by decide +kernel
theorem dL_sets_423 : decode cL_sets 423 = .ok (.bipush (-102), 2) := by decide +kernel
theorem dL_sets_425 : decode cL_sets 425 = .ok (.goto 12, 3) := by decide +kernel
theorem dL_sets_428 : decode cL_sets 428 = .ok (.aload 5, 2) := by decide +kernel
theorem dL_sets_430 : decode cL_sets 430 = .ok (.iconst 3, 1) := by decide +kernel
theorem dL_sets_431 : decode cL_sets 431 = .ok (.iconst 2, 1) := by decide +kernel
theorem dL_sets_432 : decode cL_sets 432 = .ok (.iload 8, 2) := by decide +kernel
theorem dL_sets_434 : decode cL_sets 434 = .ok (.imul, 1) := by decide +kernel
theorem dL_sets_435 : decode cL_sets 435 = .ok (.iadd, 1) := by decide +kernel
theorem dL_sets_436 : decode cL_sets 436 = .ok (.iaload, 1) := by decide +kernel
theorem dL_sets_437 : decode cL_sets 437 = .ok (.istore 11, 2) := by decide +kernel
theorem dL_sets_439 : decode cL_sets 439 = .ok (.iload 11, 2) := by decide +kernel
theorem dL_sets_441 : decode cL_sets 441 = .ok (.bipush (-20), 2) := by decide +kernel
theorem dL_sets_443 : decode cL_sets 443 = .ok (.if_icmp .le 25, 3) := by decide +kernel
theorem dL_sets_446 : decode cL_sets 446 = .ok (.aload 5, 2) := by decide +kernel
theorem dL_sets_448 : decode cL_sets 448 = .ok (.iconst 3, 1) := by decide +kernel
theorem dL_sets_449 : decode cL_sets 449 = .ok (.iconst 2, 1) := by decide +kernel
theorem dL_sets_450 : decode cL_sets 450 = .ok (.iload 8, 2) := by decide +kernel
theorem dL_sets_452 : decode cL_sets 452 = .ok (.imul, 1) := by decide +kernel
theorem dL_sets_453 : decode cL_sets 453 = .ok (.iadd, 1) := by decide +kernel
theorem dL_sets_454 : decode cL_sets 454 = .ok (.iload 9, 2) := by decide +kernel
theorem dL_sets_456 : decode cL_sets 456 = .ok (.iastore, 1) := by decide +kernel
theorem dL_sets_457 : decode cL_sets 457 = .ok (.aload 5, 2) := by decide +kernel
theorem dL_sets_459 : decode cL_sets 459 = .ok (.iconst 4, 1) := by decide +kernel
theorem dL_sets_460 : decode cL_sets 460 = .ok (.iconst 2, 1) := by decide +kernel
theorem dL_sets_461 : decode cL_sets 461 = .ok (.iload 8, 2) := by decide +kernel
theorem dL_sets_463 : decode cL_sets 463 = .ok (.imul, 1) := by decide +kernel
theorem dL_sets_464 : decode cL_sets 464 = .ok (.iadd, 1) := by decide +kernel
theorem dL_sets_465 : decode cL_sets 465 = .ok (.iload 10, 2) := by decide +kernel
theorem dL_sets_467 : decode cL_sets 467 = .ok (.iastore, 1) := by decide +kernel
theorem dL_sets_468 : decode cL_sets 468 = .ok (.aload_n 0, 1) := by decide +kernel
theorem dL_sets_469 : decode cL_sets 469 = .ok (.iload 8, 2) := by decide +kernel
theorem dL_sets_471 : decode cL_sets 471 = .ok (.iload 9, 2) := by decide +kernel
theorem dL_sets_473 : decode cL_sets 473 = .ok (.iload 10, 2) := by decide +kernel
theorem dL_sets_475 : decode cL_sets 475 = .ok (.invokestatic 105, 3) := by decide +kernel
theorem dL_sets_478 : decode cL_sets 478 = .ok (.iload 11, 2) := by decide +kernel
theorem dL_sets_480 : decode cL_sets 480 = .ok (.if_icmp .ne 7, 3) := by decide +kernel
theorem dL_sets_483 : decode cL_sets 483 = .ok (.iconst 1, 1) := by decide +kernel
theorem dL_sets_484 : decode cL_sets 484 = .ok (.goto 4, 3) := by decide +kernel
theorem dL_sets_487 : decode cL_sets 487 = .ok (.iconst 0, 1) := by decide +kernel
theorem dL_sets_488 : decode cL_sets 488 = .ok (.ireturn, 1) := by decide +kernel
theorem dL_sets_489 : decode cL_sets 489 = .ok (.iload_n 1, 1) := by decide +kernel
theorem dL_sets_490 : decode cL_sets 490 = .ok (.iconst 3, 1) := by decide +kernel
theorem dL_sets_491 : decode cL_sets 491 = .ok (.if_icmp .ne 149, 3) := by decide +kernel
theorem dL_sets_494 : decode cL_sets 494 = .ok (.iload_n 2, 1) := by decide +kernel
theorem dL_sets_495 : decode cL_sets 495 = .ok (.bipush 30, 2) := by decide +kernel
theorem dL_sets_497 : decode cL_sets 497 = .ok (.invokestatic 95, 3) := by decide +kernel
theorem dL_sets_500 : decode cL_sets 500 = .ok (.ifCond .ne 7, 3) := by decide +kernel
theorem dL_sets_503 : decode cL_sets 503 = .ok (.iconst (-1), 1) := by decide +kernel
theorem dL_sets_504 : decode cL_sets 504 = .ok (.goto 8, 3) := by decide +kernel
theorem dL_sets_507 : decode cL_sets 507 = .ok (.iload_n 2, 1) := by decide +kernel
theorem dL_sets_508 : decode cL_sets 508 = .ok (.iconst 3, 1) := by decide +kernel
theorem dL_sets_509 : decode cL_sets 509 = .ok (.invokestatic 95, 3) := by decide +kernel
theorem dL_sets_512 : decode cL_sets 512 = .ok (.istore 8, 2) := by decide +kernel
theorem dL_sets_514 : decode cL_sets 514 = .ok (.iload_n 2, 1) := by decide +kernel
theorem dL_sets_515 : decode cL_sets 515 = .ok (.iconst 3, 1) := by decide +kernel
theorem dL_sets_516 : decode cL_sets 516 = .ok (.ishr, 1) := by decide +kernel
theorem dL_sets_517 : decode cL_sets 517 = .ok (.aload_n 3, 1) := by decide +kernel
theorem dL_sets_518 : decode cL_sets 518 = .ok (.iconst 0, 1) := by decide +kernel
theorem dL_sets_519 : decode cL_sets 519 = .ok (.iaload, 1) := by decide +kernel
theorem dL_sets_520 : decode cL_sets 520 = .ok (.iconst 1, 1) := by decide +kernel
theorem dL_sets_521 : decode cL_sets 521 = .ok (.iadd, 1) := by decide +kernel
theorem dL_sets_522 : decode cL_sets 522 = .ok (.invokestatic 95, 3) := by decide +kernel
theorem dL_sets_525 : decode cL_sets 525 = .ok (.istore 9, 2) := by decide +kernel
theorem dL_sets_527 : decode cL_sets 527 = .ok (.iload 8, 2) := by decide +kernel
theorem dL_sets_529 : decode cL_sets 529 = .ok (.ifCond .lt 15, 3) := by decide +kernel
theorem dL_sets_532 : decode cL_sets 532 = .ok (.iload 9, 2) := by decide +kernel
theorem dL_sets_534 : decode cL_sets 534 = .ok (.aload_n 3, 1) := by decide +kernel
theorem dL_sets_535 : decode cL_sets 535 = .ok (.iconst 0, 1) := by decide +kernel
theorem dL_sets_536 : decode cL_sets 536 = .ok (.iaload, 1) := by decide +kernel
theorem dL_sets_537 : decode cL_sets 537 = .ok (.if_icmp .ge 7, 3) := by decide +kernel
theorem dL_sets_540 : decode cL_sets 540 = .ok (.iconst 1, 1) := by decide +kernel
theorem dL_sets_541 : decode cL_sets 541 = .ok (.goto 4, 3) := by decide +kernel
theorem dL_sets_544 : decode cL_sets 544 = .ok (.iconst 0, 1) := by decide +kernel
theorem dL_sets_545 : decode cL_sets 545 = .ok (.istore 10, 2) := by decide +kernel
theorem dL_sets_547 : decode cL_sets 547 = .ok (.iload 10, 2) := by decide +kernel
theorem dL_sets_549 : decode cL_sets 549 = .ok (.ifCond .eq 12, 3) := by decide +kernel
theorem dL_sets_552 : decode cL_sets 552 = .ok (.aload_n 3, 1) := by decide +kernel
theorem dL_sets_553 : decode cL_sets 553 = .ok (.iconst 1, 1) := by decide +kernel
theorem dL_sets_554 : decode cL_sets 554 = .ok (.iaload, 1) := by decide +kernel
theorem dL_sets_555 : decode cL_sets 555 = .ok (.iconst 5, 1) := by decide +kernel
theorem dL_sets_556 : decode cL_sets 556 = .ok (.if_icmp .ne 5, 3) := by decide +kernel
theorem dL_sets_559 : decode cL_sets 559 = .ok (.iconst 1, 1) := by decide +kernel
theorem dL_sets_560 : decode cL_sets 560 = .ok (.ireturn, 1) := by decide +kernel
theorem dL_sets_561 : decode cL_sets 561 = .ok (.iload 10, 2) := by decide +kernel
theorem dL_sets_563 : decode cL_sets 563 = .ok (.ifCond .eq 44, 3) := by decide +kernel
theorem dL_sets_566 : decode cL_sets 566 = .ok (.aload 6, 2) := by decide +kernel
theorem dL_sets_568 : decode cL_sets 568 = .ok (.iconst 3, 1) := by decide +kernel
theorem dL_sets_569 : decode cL_sets 569 = .ok (.aload_n 3, 1) := by decide +kernel
theorem dL_sets_570 : decode cL_sets 570 = .ok (.iconst 1, 1) := by decide +kernel
theorem dL_sets_571 : decode cL_sets 571 = .ok (.iaload, 1) := by decide +kernel
theorem dL_sets_572 : decode cL_sets 572 = .ok (.imul, 1) := by decide +kernel
theorem dL_sets_573 : decode cL_sets 573 = .ok (.iload 8, 2) := by decide +kernel
theorem dL_sets_575 : decode cL_sets 575 = .ok (.iastore, 1) := by decide +kernel
theorem dL_sets_576 : decode cL_sets 576 = .ok (.aload 6, 2) := by decide +kernel
theorem dL_sets_578 : decode cL_sets 578 = .ok (.iconst 3, 1) := by decide +kernel
theorem dL_sets_579 : decode cL_sets 579 = .ok (.aload_n 3, 1) := by decide +kernel
theorem dL_sets_580 : decode cL_sets 580 = .ok (.iconst 1, 1) := by decide +kernel
theorem dL_sets_581 : decode cL_sets 581 = .ok (.iaload, 1) := by decide +kernel
theorem dL_sets_582 : decode cL_sets 582 = .ok (.imul, 1) := by decide +kernel
theorem dL_sets_583 : decode cL_sets 583 = .ok (.iconst 1, 1) := by decide +kernel
theorem dL_sets_584 : decode cL_sets 584 = .ok (.iadd, 1) := by decide +kernel
theorem dL_sets_585 : decode cL_sets 585 = .ok (.iload 9, 2) := by decide +kernel
theorem dL_sets_587 : decode cL_sets 587 = .ok (.iastore, 1) := by decide +kernel
theorem dL_sets_588 : decode cL_sets 588 = .ok (.aload 6, 2) := by decide +kernel
theorem dL_sets_590 : decode cL_sets 590 = .ok (.iconst 3, 1) := by decide +kernel
theorem dL_sets_591 : decode cL_sets 591 = .ok (.aload_n 3, 1) := by decide +kernel
theorem dL_sets_592 : decode cL_sets 592 = .ok (.iconst 1, 1) := by decide +kernel
theorem dL_sets_593 : decode cL_sets 593 = .ok (.iaload, 1) := by decide +kernel
theorem dL_sets_594 : decode cL_sets 594 = .ok (.imul, 1) := by decide +kernel
theorem dL_sets_595 : decode cL_sets 595 = .ok (.iconst 2, 1) := by decide +kernel
theorem dL_sets_596 : decode cL_sets 596 = .ok (.iadd, 1) := by decide +kernel
theorem dL_sets_597 : decode cL_sets 597 = .ok (.bipush 100, 2) := by decide +kernel
theorem dL_sets_599 : decode cL_sets 599 = .ok (.iastore, 1) := by decide +kernel
theorem dL_sets_600 : decode cL_sets 600 = .ok (.aload_n 3, 1) := by decide +kernel
theorem dL_sets_601 : decode cL_sets 601 = .ok (.iconst 1, 1) := by decide +kernel
theorem dL_sets_602 : decode cL_sets 602 = .ok (.dup2, 1) := by decide +kernel
theorem dL_sets_603 : decode cL_sets 603 = .ok (.iaload, 1) := by decide +kernel
theorem dL_sets_604 : decode cL_sets 604 = .ok (.iconst 1, 1) := by decide +kernel
theorem dL_sets_605 : decode cL_sets 605 = .ok (.iadd, 1) := by decide +kernel
theorem dL_sets_606 : decode cL_sets 606 = .ok (.iastore, 1) := by decide +kernel
theorem dL_sets_607 : decode cL_sets 607 = .ok (.aload_n 0, 1) := by decide +kernel
theorem dL_sets_608 : decode cL_sets 608 = .ok (.iconst 1, 1) := by decide +kernel
theorem dL_sets_609 : decode cL_sets 609 = .ok (.iload 8, 2) := by decide +kernel
theorem dL_sets_611 : decode cL_sets 611 = .ok (.iload 9, 2) := by decide +kernel
theorem dL_sets_613 : decode cL_sets 613 = .ok (.invokestatic 102, 3) := by decide +kernel
theorem dL_sets_616 : decode cL_sets 616 = .ok (.iload 10, 2) := by decide +kernel
theorem dL_sets_618 : decode cL_sets 618 = .ok (.ifCond .eq 11, 3) := by decide +kernel
theorem dL_sets_621 : decode cL_sets 621 = .ok (.aload_n 3, 1) := by decide +kernel
theorem dL_sets_622 : decode cL_sets 622 = .ok (.iconst 1, 1) := by decide +kernel
theorem dL_sets_623 : decode cL_sets 623 = .ok (.iaload, 1) := by decide +kernel
theorem dL_sets_624 : decode cL_sets 624 = .ok (.iconst 1, 1) := by decide +kernel
theorem dL_sets_625 : decode cL_sets 625 = .ok (.isub, 1) := by decide +kernel
theorem dL_sets_626 : decode cL_sets 626 = .ok (.goto 5, 3) := by decide +kernel
theorem dL_sets_629 : decode cL_sets 629 = .ok (.bipush (-101), 2) := by decide +kernel
theorem dL_sets_631 : decode cL_sets 631 = .ok (.if_icmp .ne 7, 3) := by decide +kernel
theorem dL_sets_634 : decode cL_sets 634 = .ok (.iconst 1, 1) := by decide +kernel
theorem dL_sets_635 : decode cL_sets 635 = .ok (.goto 4, 3) := by decide +kernel
theorem dL_sets_638 : decode cL_sets 638 = .ok (.iconst 0, 1) := by decide +kernel
theorem dL_sets_639 : decode cL_sets 639 = .ok (.ireturn, 1) := by decide +kernel
theorem dL_sets_640 : decode cL_sets 640 = .ok (.iload_n 1, 1) := by decide +kernel
theorem dL_sets_641 : decode cL_sets 641 = .ok (.iconst 4, 1) := by decide +kernel
theorem dL_sets_642 : decode cL_sets 642 = .ok (.if_icmp .ne 72, 3) := by decide +kernel
theorem dL_sets_645 : decode cL_sets 645 = .ok (.iload_n 2, 1) := by decide +kernel
theorem dL_sets_646 : decode cL_sets 646 = .ok (.aload_n 3, 1) := by decide +kernel
theorem dL_sets_647 : decode cL_sets 647 = .ok (.iconst 1, 1) := by decide +kernel
theorem dL_sets_648 : decode cL_sets 648 = .ok (.iaload, 1) := by decide +kernel
theorem dL_sets_649 : decode cL_sets 649 = .ok (.iconst 1, 1) := by decide +kernel
theorem dL_sets_650 : decode cL_sets 650 = .ok (.iadd, 1) := by decide +kernel
theorem dL_sets_651 : decode cL_sets 651 = .ok (.invokestatic 95, 3) := by decide +kernel
theorem dL_sets_654 : decode cL_sets 654 = .ok (.istore 8, 2) := by decide +kernel
theorem dL_sets_656 : decode cL_sets 656 = .ok (.iload 8, 2) := by decide +kernel
theorem dL_sets_658 : decode cL_sets 658 = .ok (.aload_n 3, 1) := by decide +kernel
theorem dL_sets_659 : decode cL_sets 659 = .ok (.iconst 1, 1) := by decide +kernel
theorem dL_sets_660 : decode cL_sets 660 = .ok (.iaload, 1) := by decide +kernel
theorem dL_sets_661 : decode cL_sets 661 = .ok (.if_icmp .ge 15, 3) := by decide +kernel
theorem dL_sets_664 : decode cL_sets 664 = .ok (.aload 6, 2) := by decide +kernel
theorem dL_sets_666 : decode cL_sets 666 = .ok (.iconst 3, 1) := by decide +kernel
theorem dL_sets_667 : decode cL_sets 667 = .ok (.iload 8, 2) := by decide +kernel
theorem dL_sets_669 : decode cL_sets 669 = .ok (.imul, 1) := by decide +kernel
theorem dL_sets_670 : decode cL_sets 670 = .ok (.iconst 2, 1) := by decide +kernel
theorem dL_sets_671 : decode cL_sets 671 = .ok (.iadd, 1) := by decide +kernel
theorem dL_sets_672 : decode cL_sets 672 = .ok (.iaload, 1) := by decide +kernel
theorem dL_sets_673 : decode cL_sets 673 = .ok (.goto 5, 3) := by decide +kernel
theorem dL_sets_676 : decode cL_sets 676 = .ok (.bipush (-101), 2) := by decide +kernel
theorem dL_sets_678 : decode cL_sets 678 = .ok (.istore 9, 2) := by decide +kernel
theorem dL_sets_680 : decode cL_sets 680 = .ok (.iload 9, 2) := by decide +kernel
theorem dL_sets_682 : decode cL_sets 682 = .ok (.ifCond .lt 14, 3) := by decide +kernel
theorem dL_sets_685 : decode cL_sets 685 = .ok (.aload 6, 2) := by decide +kernel
theorem dL_sets_687 : decode cL_sets 687 = .ok (.iconst 3, 1) := by decide +kernel
theorem dL_sets_688 : decode cL_sets 688 = .ok (.iload 8, 2) := by decide +kernel
theorem dL_sets_690 : decode cL_sets 690 = .ok (.imul, 1) := by decide +kernel
theorem dL_sets_691 : decode cL_sets 691 = .ok (.iconst 2, 1) := by decide +kernel
theorem dL_sets_692 : decode cL_sets 692 = .ok (.iadd, 1) := by decide +kernel
theorem dL_sets_693 : decode cL_sets 693 = .ok (.bipush 100, 2) := by decide +kernel
theorem dL_sets_695 : decode cL_sets 695 = .ok (.iastore, 1) := by decide +kernel
theorem dL_sets_696 : decode cL_sets 696 = .ok (.aload_n 0, 1) := by decide +kernel
theorem dL_sets_697 : decode cL_sets 697 = .ok (.iconst 0, 1) := by decide +kernel
theorem dL_sets_698 : decode cL_sets 698 = .ok (.iload 8, 2) := by decide +kernel
theorem dL_sets_700 : decode cL_sets 700 = .ok (.invokestatic 108, 3) := by decide +kernel
theorem dL_sets_703 : decode cL_sets 703 = .ok (.iload 9, 2) := by decide +kernel
theorem dL_sets_705 : decode cL_sets 705 = .ok (.if_icmp .ne 7, 3) := by decide +kernel
theorem dL_sets_708 : decode cL_sets 708 = .ok (.iconst 1, 1) := by decide +kernel
theorem dL_sets_709 : decode cL_sets 709 = .ok (.goto 4, 3) := by decide +kernel
theorem dL_sets_712 : decode cL_sets 712 = .ok (.iconst 0, 1) := by decide +kernel
theorem dL_sets_713 : decode cL_sets 713 = .ok (.ireturn, 1) := by decide +kernel
theorem dL_sets_714 : decode cL_sets 714 = .ok (.iload_n 2, 1) := by decide +kernel
theorem dL_sets_715 : decode cL_sets 715 = .ok (.bipush 30, 2) := by decide +kernel
theorem dL_sets_717 : decode cL_sets 717 = .ok (.invokestatic 95, 3) := by decide +kernel
theorem dL_sets_720 : decode cL_sets 720 = .ok (.ifCond .ne 7, 3) := by decide +kernel
theorem dL_sets_723 : decode cL_sets 723 = .ok (.iconst 3, 1) := by decide +kernel
theorem dL_sets_724 : decode cL_sets 724 = .ok (.goto 8, 3) := by decide +kernel
theorem dL_sets_727 : decode cL_sets 727 = .ok (.iload_n 2, 1) := by decide +kernel
theorem dL_sets_728 : decode cL_sets 728 = .ok (.iconst 2, 1) := by decide +kernel
theorem dL_sets_729 : decode cL_sets 729 = .ok (.invokestatic 95, 3) := by decide +kernel
theorem dL_sets_732 : decode cL_sets 732 = .ok (.istore 8, 2) := by decide +kernel
theorem dL_sets_734 : decode cL_sets 734 = .ok (.iload_n 2, 1) := by decide +kernel
theorem dL_sets_735 : decode cL_sets 735 = .ok (.iconst 3, 1) := by decide +kernel
theorem dL_sets_736 : decode cL_sets 736 = .ok (.ishr, 1) := by decide +kernel
theorem dL_sets_737 : decode cL_sets 737 = .ok (.bipush 30, 2) := by decide +kernel
theorem dL_sets_739 : decode cL_sets 739 = .ok (.invokestatic 95, 3) := by decide +kernel
theorem dL_sets_742 : decode cL_sets 742 = .ok (.ifCond .ne 8, 3) := by decide +kernel
theorem dL_sets_745 : decode cL_sets 745 = .ok (.bipush 91, 2) := by decide +kernel
theorem dL_sets_747 : decode cL_sets 747 = .ok (.goto 25, 3) := by decide +kernel
theorem dL_sets_750 : decode cL_sets 750 = .ok (.iload_n 2, 1) := by decide +kernel
theorem dL_sets_751 : decode cL_sets 751 = .ok (.iconst 3, 1) := by decide +kernel
theorem dL_sets_752 : decode cL_sets 752 = .ok (.ishr, 1) := by decide +kernel
theorem dL_sets_753 : decode cL_sets 753 = .ok (.iconst 2, 1) := by decide +kernel
theorem dL_sets_754 : decode cL_sets 754 = .ok (.invokestatic 95, 3) := by decide +kernel
theorem dL_sets_757 : decode cL_sets 757 = .ok (.ifCond .ne 7, 3) := by decide +kernel
theorem dL_sets_760 : decode cL_sets 760 = .ok (.iconst 0, 1) := by decide +kernel
theorem dL_sets_761 : decode cL_sets 761 = .ok (.goto 11, 3) := by decide +kernel
theorem dL_sets_764 : decode cL_sets 764 = .ok (.iload_n 2, 1) := by decide +kernel
theorem dL_sets_765 : decode cL_sets 765 = .ok (.iconst 4, 1) := by decide +kernel
theorem dL_sets_766 : decode cL_sets 766 = .ok (.ishr, 1) := by decide +kernel
theorem dL_sets_767 : decode cL_sets 767 = .ok (.bipush 91, 2) := by decide +kernel
theorem dL_sets_769 : decode cL_sets 769 = .ok (.invokestatic 95, 3) := by decide +kernel
theorem dL_sets_772 : decode cL_sets 772 = .ok (.istore 9, 2) := by decide +kernel
theorem dL_sets_774 : decode cL_sets 774 = .ok (.iload 8, 2) := by decide +kernel
theorem dL_sets_776 : decode cL_sets 776 = .ok (.iconst 2, 1) := by decide +kernel
theorem dL_sets_777 : decode cL_sets 777 = .ok (.if_icmp .le 8, 3) := by decide +kernel
theorem dL_sets_780 : decode cL_sets 780 = .ok (.bipush (-101), 2) := by decide +kernel
theorem dL_sets_782 : decode cL_sets 782 = .ok (.goto 20, 3) := by decide +kernel
theorem dL_sets_785 : decode cL_sets 785 = .ok (.iload 9, 2) := by decide +kernel
theorem dL_sets_787 : decode cL_sets 787 = .ok (.bipush 90, 2) := by decide +kernel
theorem dL_sets_789 : decode cL_sets 789 = .ok (.if_icmp .le 8, 3) := by decide +kernel
theorem dL_sets_792 : decode cL_sets 792 = .ok (.bipush (-102), 2) := by decide +kernel
theorem dL_sets_794 : decode cL_sets 794 = .ok (.goto 8, 3) := by decide +kernel
theorem dL_sets_797 : decode cL_sets 797 = .ok (.aload 7, 2) := by decide +kernel
theorem dL_sets_799 : decode cL_sets 799 = .ok (.iload 8, 2) := by decide +kernel
theorem dL_sets_801 : decode cL_sets 801 = .ok (.iaload, 1) := by decide +kernel
theorem dL_sets_802 : decode cL_sets 802 = .ok (.istore 10, 2) := by decide +kernel
theorem dL_sets_804 : decode cL_sets 804 = .ok (.iload 10, 2) := by decide +kernel
theorem dL_sets_806 : decode cL_sets 806 = .ok (.ifCond .lt 10, 3) := by decide +kernel
theorem dL_sets_809 : decode cL_sets 809 = .ok (.aload 7, 2) := by decide +kernel
theorem dL_sets_811 : decode cL_sets 811 = .ok (.iload 8, 2) := by decide +kernel
theorem dL_sets_813 : decode cL_sets 813 = .ok (.iload 9, 2) := by decide +kernel
theorem dL_sets_815 : decode cL_sets 815 = .ok (.iastore, 1) := by decide +kernel
theorem dL_sets_816 : decode cL_sets 816 = .ok (.aload_n 0, 1) := by decide +kernel
theorem dL_sets_817 : decode cL_sets 817 = .ok (.iconst 3, 1) := by decide +kernel
theorem dL_sets_818 : decode cL_sets 818 = .ok (.iload 8, 2) := by decide +kernel
theorem dL_sets_820 : decode cL_sets 820 = .ok (.iload 9, 2) := by decide +kernel
theorem dL_sets_822 : decode cL_sets 822 = .ok (.invokestatic 102, 3) := by decide +kernel
theorem dL_sets_825 : decode cL_sets 825 = .ok (.iload 10, 2) := by decide +kernel
theorem dL_sets_827 : decode cL_sets 827 = .ok (.if_icmp .ne 7, 3) := by decide +kernel
theorem dL_sets_830 : decode cL_sets 830 = .ok (.iconst 1, 1) := by decide +kernel
theorem dL_sets_831 : decode cL_sets 831 = .ok (.goto 4, 3) := by decide +kernel
theorem dL_sets_834 : decode cL_sets 834 = .ok (.iconst 0, 1) := by decide +kernel
theorem dL_sets_835 : decode cL_sets 835 = .ok (.ireturn, 1) := by decide +kernel
theorem dL_goes_0 : decode cL_goes 0 = .ok (.iload_n 1, 1) := by decide +kernel
theorem dL_goes_1 : decode cL_goes 1 = .ok (.ifCond .ne 255, 3) := by decide +kernel
theorem dL_goes_4 : decode cL_goes 4 = .ok (.iload_n 2, 1) := by decide +kernel
theorem dL_goes_5 : decode cL_goes 5 = .ok (.aload_n 3, 1) := by decide +kernel
theorem dL_goes_6 : decode cL_goes 6 = .ok (.iconst 0, 1) := by decide +kernel
theorem dL_goes_7 : decode cL_goes 7 = .ok (.iaload, 1) := by decide +kernel
theorem dL_goes_8 : decode cL_goes 8 = .ok (.iconst 1, 1) := by decide +kernel
theorem dL_goes_9 : decode cL_goes 9 = .ok (.iadd, 1) := by decide +kernel
theorem dL_goes_10 : decode cL_goes 10 = .ok (.invokestatic 95, 3) := by decide +kernel
theorem dL_goes_13 : decode cL_goes 13 = .ok (.istore 11, 2) := by decide +kernel
theorem dL_goes_15 : decode cL_goes 15 = .ok (.iload_n 2, 1) := by decide +kernel
theorem dL_goes_16 : decode cL_goes 16 = .ok (.iconst 3, 1) := by decide +kernel
theorem dL_goes_17 : decode cL_goes 17 = .ok (.ishr, 1) := by decide +kernel
theorem dL_goes_18 : decode cL_goes 18 = .ok (.bipush 30, 2) := by decide +kernel
theorem dL_goes_20 : decode cL_goes 20 = .ok (.invokestatic 95, 3) := by decide +kernel
theorem dL_goes_23 : decode cL_goes 23 = .ok (.ifCond .ne 16, 3) := by decide +kernel
theorem dL_goes_26 : decode cL_goes 26 = .ok (.bipush 41, 2) := by decide +kernel
theorem dL_goes_28 : decode cL_goes 28 = .ok (.iload_n 2, 1) := by decide +kernel
theorem dL_goes_29 : decode cL_goes 29 = .ok (.iconst 4, 1) := by decide +kernel
theorem dL_goes_30 : decode cL_goes 30 = .ok (.ishr, 1) := by decide +kernel
theorem dL_goes_31 : decode cL_goes 31 = .ok (.iconst 2, 1) := by decide +kernel
theorem dL_goes_32 : decode cL_goes 32 = .ok (.invokestatic 95, 3) := by decide +kernel
theorem dL_goes_35 : decode cL_goes 35 = .ok (.imul, 1) := by decide +kernel
theorem dL_goes_36 : decode cL_goes 36 = .ok (.goto 13, 3) := by decide +kernel
theorem dL_goes_39 : decode cL_goes 39 = .ok (.iconst 1, 1) := by decide +kernel
theorem dL_goes_40 : decode cL_goes 40 = .ok (.iload_n 2, 1) := by decide +kernel
theorem dL_goes_41 : decode cL_goes 41 = .ok (.iconst 3, 1) := by decide +kernel
theorem dL_goes_42 : decode cL_goes 42 = .ok (.ishr, 1) := by decide +kernel
theorem dL_goes_43 : decode cL_goes 43 = .ok (.bipush 40, 2) := by decide +kernel
theorem dL_goes_45 : decode cL_goes 45 = .ok (.invokestatic 95, 3) := by decide +kernel
theorem dL_goes_48 : decode cL_goes 48 = .ok (.iadd, 1) := by decide +kernel
theorem dL_goes_49 : decode cL_goes 49 = .ok (.istore 12, 2) := by decide +kernel
theorem dL_goes_51 : decode cL_goes 51 = .ok (.iload_n 2, 1) := by decide +kernel
theorem dL_goes_52 : decode cL_goes 52 = .ok (.iconst 5, 1) := by decide +kernel
theorem dL_goes_53 : decode cL_goes 53 = .ok (.ishr, 1) := by decide +kernel
theorem dL_goes_54 : decode cL_goes 54 = .ok (.bipush 60, 2) := by decide +kernel
theorem dL_goes_56 : decode cL_goes 56 = .ok (.invokestatic 95, 3) := by decide +kernel
theorem dL_goes_59 : decode cL_goes 59 = .ok (.ifCond .ne 7, 3) := by decide +kernel
theorem dL_goes_62 : decode cL_goes 62 = .ok (.iconst 4, 1) := by decide +kernel
theorem dL_goes_63 : decode cL_goes 63 = .ok (.goto 10, 3) := by decide +kernel
theorem dL_goes_66 : decode cL_goes 66 = .ok (.iload_n 2, 1) := by decide +kernel
theorem dL_goes_67 : decode cL_goes 67 = .ok (.iconst 5, 1) := by decide +kernel
theorem dL_goes_68 : decode cL_goes 68 = .ok (.ishr, 1) := by decide +kernel
theorem dL_goes_69 : decode cL_goes 69 = .ok (.iconst 4, 1) := by decide +kernel
theorem dL_goes_70 : decode cL_goes 70 = .ok (.invokestatic 95, 3) := by decide +kernel
theorem dL_goes_73 : decode cL_goes 73 = .ok (.istore 13, 2) := by decide +kernel
theorem dL_goes_75 : decode cL_goes 75 = .ok (.iload 11, 2) := by decide +kernel
theorem dL_goes_77 : decode cL_goes 77 = .ok (.aload_n 3, 1) := by decide +kernel
theorem dL_goes_78 : decode cL_goes 78 = .ok (.iconst 0, 1) := by decide +kernel
theorem dL_goes_79 : decode cL_goes 79 = .ok (.iaload, 1) := by decide +kernel
theorem dL_goes_80 : decode cL_goes 80 = .ok (.if_icmp .ge 13, 3) := by decide +kernel
theorem dL_goes_83 : decode cL_goes 83 = .ok (.iload 13, 2) := by decide +kernel
theorem dL_goes_85 : decode cL_goes 85 = .ok (.iconst 4, 1) := by decide +kernel
theorem dL_goes_86 : decode cL_goes 86 = .ok (.if_icmp .ge 7, 3) := by decide +kernel
theorem dL_goes_89 : decode cL_goes 89 = .ok (.iconst 1, 1) := by decide +kernel
theorem dL_goes_90 : decode cL_goes 90 = .ok (.goto 4, 3) := by decide +kernel
theorem dL_goes_93 : decode cL_goes 93 = .ok (.iconst 0, 1) := by decide +kernel
theorem dL_goes_94 : decode cL_goes 94 = .ok (.istore 14, 2) := by decide +kernel
theorem dL_goes_96 : decode cL_goes 96 = .ok (.iload 12, 2) := by decide +kernel
theorem dL_goes_98 : decode cL_goes 98 = .ok (.ifCond .le 14, 3) := by decide +kernel
theorem dL_goes_101 : decode cL_goes 101 = .ok (.iload 12, 2) := by decide +kernel
theorem dL_goes_103 : decode cL_goes 103 = .ok (.bipush 41, 2) := by decide +kernel
theorem dL_goes_105 : decode cL_goes 105 = .ok (.if_icmp .ge 7, 3) := by decide +kernel
theorem dL_goes_108 : decode cL_goes 108 = .ok (.iconst 1, 1) := by decide +kernel
theorem dL_goes_109 : decode cL_goes 109 = .ok (.goto 4, 3) := by decide +kernel
theorem dL_goes_112 : decode cL_goes 112 = .ok (.iconst 0, 1) := by decide +kernel
theorem dL_goes_113 : decode cL_goes 113 = .ok (.istore 15, 2) := by decide +kernel
theorem dL_goes_115 : decode cL_goes 115 = .ok (.iload 14, 2) := by decide +kernel
theorem dL_goes_117 : decode cL_goes 117 = .ok (.ifCond .eq 18, 3) := by decide +kernel
theorem dL_goes_120 : decode cL_goes 120 = .ok (.iload 15, 2) := by decide +kernel
theorem dL_goes_122 : decode cL_goes 122 = .ok (.ifCond .eq 13, 3) := by decide +kernel
theorem dL_goes_125 : decode cL_goes 125 = .ok (.aload_n 3, 1) := by decide +kernel
theorem dL_goes_126 : decode cL_goes 126 = .ok (.iconst 2, 1) := by decide +kernel
theorem dL_goes_127 : decode cL_goes 127 = .ok (.iaload, 1) := by decide +kernel
theorem dL_goes_128 : decode cL_goes 128 = .ok (.bipush 20, 2) := by decide +kernel
theorem dL_goes_130 : decode cL_goes 130 = .ok (.if_icmp .ne 5, 3) := by decide +kernel
theorem dL_goes_133 : decode cL_goes 133 = .ok (.iconst 1, 1) := by decide +kernel
theorem dL_goes_134 : decode cL_goes 134 = .ok (.ireturn, 1) := by decide +kernel
theorem dL_goes_135 : decode cL_goes 135 = .ok (.iload 14, 2) := by decide +kernel
theorem dL_goes_137 : decode cL_goes 137 = .ok (.ifCond .eq 75, 3) := by decide +kernel
theorem dL_goes_140 : decode cL_goes 140 = .ok (.iload 15, 2) := by decide +kernel
theorem dL_goes_142 : decode cL_goes 142 = .ok (.ifCond .eq 70, 3) := by decide +kernel
theorem dL_goes_145 : decode cL_goes 145 = .ok (.aload_n 3, 1) := by decide +kernel
theorem dL_goes_146 : decode cL_goes 146 = .ok (.iconst 2, 1) := by decide +kernel
theorem dL_goes_147 : decode cL_goes 147 = .ok (.iaload, 1) := by decide +kernel
theorem dL_goes_148 : decode cL_goes 148 = .ok (.bipush 10, 2) := by decide +kernel
theorem dL_goes_150 : decode cL_goes 150 = .ok (.if_icmp .ge 8, 3) := by decide +kernel
theorem dL_goes_153 : decode cL_goes 153 = .ok (.aload 7, 2) := by decide +kernel
theorem dL_goes_155 : decode cL_goes 155 = .ok (.goto 5, 3) := by decide +kernel
theorem dL_goes_158 : decode cL_goes 158 = .ok (.aload 8, 2) := by decide +kernel
theorem dL_goes_160 : decode cL_goes 160 = .ok (.astore 16, 2) := by decide +kernel
theorem dL_goes_162 : decode cL_goes 162 = .ok (.iconst 5, 1) := by decide +kernel
theorem dL_goes_163 : decode cL_goes 163 = .ok (.aload_n 3, 1) := by decide +kernel
theorem dL_goes_164 : decode cL_goes 164 = .ok (.iconst 2, 1) := by decide +kernel
theorem dL_goes_165 : decode cL_goes 165 = .ok (.iaload, 1) := by decide +kernel
theorem dL_goes_166 : decode cL_goes 166 = .ok (.bipush 10, 2) := by decide +kernel
theorem dL_goes_168 : decode cL_goes 168 = .ok (.irem, 1) := by decide +kernel
theorem dL_goes_169 : decode cL_goes 169 = .ok (.imul, 1) := by decide +kernel
theorem dL_goes_170 : decode cL_goes 170 = .ok (.istore 17, 2) := by decide +kernel
theorem dL_goes_172 : decode cL_goes 172 = .ok (.aload 16, 2) := by decide +kernel
theorem dL_goes_174 : decode cL_goes 174 = .ok (.iload 17, 2) := by decide +kernel
theorem dL_goes_176 : decode cL_goes 176 = .ok (.iload 11, 2) := by decide +kernel
theorem dL_goes_178 : decode cL_goes 178 = .ok (.iastore, 1) := by decide +kernel
theorem dL_goes_179 : decode cL_goes 179 = .ok (.aload 16, 2) := by decide +kernel
theorem dL_goes_181 : decode cL_goes 181 = .ok (.iload 17, 2) := by decide +kernel
theorem dL_goes_183 : decode cL_goes 183 = .ok (.iconst 1, 1) := by decide +kernel
theorem dL_goes_184 : decode cL_goes 184 = .ok (.iadd, 1) := by decide +kernel
theorem dL_goes_185 : decode cL_goes 185 = .ok (.iload 13, 2) := by decide +kernel
theorem dL_goes_187 : decode cL_goes 187 = .ok (.iastore, 1) := by decide +kernel
theorem dL_goes_188 : decode cL_goes 188 = .ok (.aload 16, 2) := by decide +kernel
theorem dL_goes_190 : decode cL_goes 190 = .ok (.iload 17, 2) := by decide +kernel
theorem dL_goes_192 : decode cL_goes 192 = .ok (.iconst 2, 1) := by decide +kernel
theorem dL_goes_193 : decode cL_goes 193 = .ok (.iadd, 1) := by decide +kernel
theorem dL_goes_194 : decode cL_goes 194 = .ok (.iload 12, 2) := by decide +kernel
theorem dL_goes_196 : decode cL_goes 196 = .ok (.iastore, 1) := by decide +kernel
theorem dL_goes_197 : decode cL_goes 197 = .ok (.aload 16, 2) := by decide +kernel
theorem dL_goes_199 : decode cL_goes 199 = .ok (.iload 17, 2) := by decide +kernel
theorem dL_goes_201 : decode cL_goes 201 = .ok (.iconst 3, 1) := by decide +kernel
theorem dL_goes_202 : decode cL_goes 202 = .ok (.iadd, 1) := by decide +kernel
theorem dL_goes_203 : decode cL_goes 203 = .ok (.iconst 0, 1) := by decide +kernel
theorem dL_goes_204 : decode cL_goes 204 = .ok (.iastore, 1) := by decide +kernel
theorem dL_goes_205 : decode cL_goes 205 = .ok (.aload_n 3, 1) := by decide +kernel
theorem dL_goes_206 : decode cL_goes 206 = .ok (.iconst 2, 1) := by decide +kernel
theorem dL_goes_207 : decode cL_goes 207 = .ok (.dup2, 1) := by decide +kernel
theorem dL_goes_208 : decode cL_goes 208 = .ok (.iaload, 1) := by decide +kernel
theorem dL_goes_209 : decode cL_goes 209 = .ok (.iconst 1, 1) := by decide +kernel
theorem dL_goes_210 : decode cL_goes 210 = .ok (.iadd, 1) := by decide +kernel
theorem dL_goes_211 : decode cL_goes 211 = .ok (.iastore, 1) := by decide +kernel
theorem dL_goes_212 : decode cL_goes 212 = .ok (.aload_n 0, 1) := by decide +kernel
theorem dL_goes_213 : decode cL_goes 213 = .ok (.iload 11, 2) := by decide +kernel
theorem dL_goes_215 : decode cL_goes 215 = .ok (.iload 12, 2) := by decide +kernel
theorem dL_goes_217 : decode cL_goes 217 = .ok (.iload 13, 2) := by decide +kernel
theorem dL_goes_219 : decode cL_goes 219 = .ok (.invokestatic 112, 3) := by decide +kernel
theorem dL_goes_222 : decode cL_goes 222 = .ok (.iload 14, 2) := by decide +kernel
theorem dL_goes_224 : decode cL_goes 224 = .ok (.ifCond .ne 8, 3) := by decide +kernel
theorem dL_goes_227 : decode cL_goes 227 = .ok (.bipush (-101), 2) := by decide +kernel
theorem dL_goes_229 : decode cL_goes 229 = .ok (.goto 18, 3) := by decide +kernel
theorem dL_goes_232 : decode cL_goes 232 = .ok (.iload 15, 2) := by decide +kernel
theorem dL_goes_234 : decode cL_goes 234 = .ok (.ifCond .ne 8, 3) := by decide +kernel
theorem dL_goes_237 : decode cL_goes 237 = .ok (.bipush (-102), 2) := by decide +kernel
theorem dL_goes_239 : decode cL_goes 239 = .ok (.goto 8, 3) := by decide +kernel
theorem dL_goes_242 : decode cL_goes 242 = .ok (.aload_n 3, 1) := by decide +kernel
theorem dL_goes_243 : decode cL_goes 243 = .ok (.iconst 2, 1) := by decide +kernel
theorem dL_goes_244 : decode cL_goes 244 = .ok (.iaload, 1) := by decide +kernel
theorem dL_goes_245 : decode cL_goes 245 = .ok (.iconst 1, 1) := by decide +kernel
theorem dL_goes_246 : decode cL_goes 246 = .ok (.isub, 1) := by decide +kernel
theorem dL_goes_247 : decode cL_goes 247 = .ok (.if_icmp .ne 7, 3) := by decide +kernel
theorem dL_goes_250 : decode cL_goes 250 = .ok (.iconst 1, 1) := by decide +kernel
theorem dL_goes_251 : decode cL_goes 251 = .ok (.goto 4, 3) := by decide +kernel
theorem dL_goes_254 : decode cL_goes 254 = .ok (.iconst 0, 1) := by decide +kernel
theorem dL_goes_255 : decode cL_goes 255 = .ok (.ireturn, 1) := by decide +kernel
theorem dL_goes_256 : decode cL_goes 256 = .ok (.iload_n 2, 1) := by decide +kernel
theorem dL_goes_257 : decode cL_goes 257 = .ok (.iconst 3, 1) := by decide +kernel
theorem dL_goes_258 : decode cL_goes 258 = .ok (.invokestatic 95, 3) := by decide +kernel
theorem dL_goes_261 : decode cL_goes 261 = .ok (.ifCond .ne 17, 3) := by decide +kernel
theorem dL_goes_264 : decode cL_goes 264 = .ok (.iload_n 2, 1) := by decide +kernel
theorem dL_goes_265 : decode cL_goes 265 = .ok (.iconst 3, 1) := by decide +kernel
theorem dL_goes_266 : decode cL_goes 266 = .ok (.ishr, 1) := by decide +kernel
theorem dL_goes_267 : decode cL_goes 267 = .ok (.aload_n 3, 1) := by decide +kernel
theorem dL_goes_268 : decode cL_goes 268 = .ok (.iconst 2, 1) := by decide +kernel
theorem dL_goes_269 : decode cL_goes 269 = .ok (.iaload, 1) := by decide +kernel
theorem dL_goes_270 : decode cL_goes 270 = .ok (.iconst 1, 1) := by decide +kernel
theorem dL_goes_271 : decode cL_goes 271 = .ok (.iadd, 1) := by decide +kernel
theorem dL_goes_272 : decode cL_goes 272 = .ok (.invokestatic 95, 3) := by decide +kernel
theorem dL_goes_275 : decode cL_goes 275 = .ok (.goto 41, 3) := by decide +kernel
theorem dL_goes_278 : decode cL_goes 278 = .ok (.aload_n 3, 1) := by decide +kernel
theorem dL_goes_279 : decode cL_goes 279 = .ok (.iconst 2, 1) := by decide +kernel
theorem dL_goes_280 : decode cL_goes 280 = .ok (.iaload, 1) := by decide +kernel
theorem dL_goes_281 : decode cL_goes 281 = .ok (.ifCond .ne 7, 3) := by decide +kernel
theorem dL_goes_284 : decode cL_goes 284 = .ok (.iconst (-1), 1) := by decide +kernel
theorem dL_goes_285 : decode cL_goes 285 = .ok (.goto 31, 3) := by decide +kernel
theorem dL_goes_288 : decode cL_goes 288 = .ok (.aload_n 3, 1) := by decide +kernel
theorem dL_goes_289 : decode cL_goes 289 = .ok (.iconst 2, 1) := by decide +kernel
theorem dL_goes_290 : decode cL_goes 290 = .ok (.iaload, 1) := by decide +kernel
theorem dL_goes_291 : decode cL_goes 291 = .ok (.iconst 1, 1) := by decide +kernel
theorem dL_goes_292 : decode cL_goes 292 = .ok (.isub, 1) := by decide +kernel
theorem dL_goes_293 : decode cL_goes 293 = .ok (.iload_n 2, 1) := by decide +kernel
theorem dL_goes_294 : decode cL_goes 294 = .ok (.iconst 3, 1) := by decide +kernel
theorem dL_goes_295 : decode cL_goes 295 = .ok (.ishr, 1) := by decide +kernel
theorem dL_goes_296 : decode cL_goes 296 = .ok (.aload_n 3, 1) := by decide +kernel
theorem dL_goes_297 : decode cL_goes 297 = .ok (.iconst 2, 1) := by decide +kernel
theorem dL_goes_298 : decode cL_goes 298 = .ok (.iaload, 1) := by decide +kernel
theorem dL_goes_299 : decode cL_goes 299 = .ok (.bipush 6, 2) := by decide +kernel
theorem dL_goes_301 : decode cL_goes 301 = .ok (.if_icmp .ge 9, 3) := by decide +kernel
theorem dL_goes_304 : decode cL_goes 304 = .ok (.aload_n 3, 1) := by decide +kernel
theorem dL_goes_305 : decode cL_goes 305 = .ok (.iconst 2, 1) := by decide +kernel
theorem dL_goes_306 : decode cL_goes 306 = .ok (.iaload, 1) := by decide +kernel
theorem dL_goes_307 : decode cL_goes 307 = .ok (.goto 5, 3) := by decide +kernel
theorem dL_goes_310 : decode cL_goes 310 = .ok (.bipush 6, 2) := by decide +kernel
theorem dL_goes_312 : decode cL_goes 312 = .ok (.invokestatic 95, 3) := by decide +kernel
theorem dL_goes_315 : decode cL_goes 315 = .ok (.isub, 1) := by decide +kernel
theorem dL_goes_316 : decode cL_goes 316 = .ok (.istore 11, 2) := by decide +kernel
theorem dL_goes_318 : decode cL_goes 318 = .ok (.iload 11, 2) := by decide +kernel
theorem dL_goes_320 : decode cL_goes 320 = .ok (.ifCond .lt 15, 3) := by decide +kernel
theorem dL_goes_323 : decode cL_goes 323 = .ok (.iload 11, 2) := by decide +kernel
theorem dL_goes_325 : decode cL_goes 325 = .ok (.aload_n 3, 1) := by decide +kernel
theorem dL_goes_326 : decode cL_goes 326 = .ok (.iconst 2, 1) := by decide +kernel
theorem dL_goes_327 : decode cL_goes 327 = .ok (.iaload, 1) := by decide +kernel
theorem dL_goes_328 : decode cL_goes 328 = .ok (.if_icmp .ge 7, 3) := by decide +kernel
theorem dL_goes_331 : decode cL_goes 331 = .ok (.iconst 1, 1) := by decide +kernel
theorem dL_goes_332 : decode cL_goes 332 = .ok (.goto 4, 3) := by decide +kernel
theorem dL_goes_335 : decode cL_goes 335 = .ok (.iconst 0, 1) := by decide +kernel
theorem dL_goes_336 : decode cL_goes 336 = .ok (.istore 12, 2) := by decide +kernel
theorem dL_goes_338 : decode cL_goes 338 = .ok (.iload 11, 2) := by decide +kernel
theorem dL_goes_340 : decode cL_goes 340 = .ok (.bipush 10, 2) := by decide +kernel
theorem dL_goes_342 : decode cL_goes 342 = .ok (.if_icmp .ge 8, 3) := by decide +kernel
theorem dL_goes_345 : decode cL_goes 345 = .ok (.aload 7, 2) := by decide +kernel
theorem dL_goes_347 : decode cL_goes 347 = .ok (.goto 5, 3) := by decide +kernel
theorem dL_goes_350 : decode cL_goes 350 = .ok (.aload 8, 2) := by decide +kernel
theorem dL_goes_352 : decode cL_goes 352 = .ok (.astore 13, 2) := by decide +kernel
theorem dL_goes_354 : decode cL_goes 354 = .ok (.iload 12, 2) := by decide +kernel
theorem dL_goes_356 : decode cL_goes 356 = .ok (.ifCond .eq 13, 3) := by decide +kernel
theorem dL_goes_359 : decode cL_goes 359 = .ok (.iconst 5, 1) := by decide +kernel
theorem dL_goes_360 : decode cL_goes 360 = .ok (.iload 11, 2) := by decide +kernel
theorem dL_goes_362 : decode cL_goes 362 = .ok (.bipush 10, 2) := by decide +kernel
theorem dL_goes_364 : decode cL_goes 364 = .ok (.irem, 1) := by decide +kernel
theorem dL_goes_365 : decode cL_goes 365 = .ok (.imul, 1) := by decide +kernel
theorem dL_goes_366 : decode cL_goes 366 = .ok (.goto 4, 3) := by decide +kernel
theorem dL_goes_369 : decode cL_goes 369 = .ok (.iconst 0, 1) := by decide +kernel
theorem dL_goes_370 : decode cL_goes 370 = .ok (.istore 14, 2) := by decide +kernel
theorem dL_goes_372 : decode cL_goes 372 = .ok (.iload_n 1, 1) := by decide +kernel
theorem dL_goes_373 : decode cL_goes 373 = .ok (.iconst 1, 1) := by decide +kernel
theorem dL_goes_374 : decode cL_goes 374 = .ok (.if_icmp .ne 208, 3) := by decide +kernel
theorem dL_goes_377 : decode cL_goes 377 = .ok (.iconst (-1), 1) := by decide +kernel
theorem dL_goes_378 : decode cL_goes 378 = .ok (.istore 15, 2) := by decide +kernel
theorem dL_goes_380 : decode cL_goes 380 = .ok (.aload_n 3, 1) := by decide +kernel
theorem dL_goes_381 : decode cL_goes 381 = .ok (.iconst 1, 1) := by decide +kernel
theorem dL_goes_382 : decode cL_goes 382 = .ok (.iaload, 1) := by decide +kernel
theorem dL_goes_383 : decode cL_goes 383 = .ok (.iconst 1, 1) := by decide +kernel
theorem dL_goes_384 : decode cL_goes 384 = .ok (.isub, 1) := by decide +kernel
theorem dL_goes_385 : decode cL_goes 385 = .ok (.istore 16, 2) := by decide +kernel
theorem dL_goes_387 : decode cL_goes 387 = .ok (.iload 16, 2) := by decide +kernel
theorem dL_goes_389 : decode cL_goes 389 = .ok (.ifCond .lt 111, 3) := by decide +kernel
theorem dL_goes_392 : decode cL_goes 392 = .ok (.iload 12, 2) := by decide +kernel
theorem dL_goes_394 : decode cL_goes 394 = .ok (.ifCond .eq 106, 3) := by decide +kernel
theorem dL_goes_397 : decode cL_goes 397 = .ok (.aload 6, 2) := by decide +kernel
theorem dL_goes_399 : decode cL_goes 399 = .ok (.iconst 3, 1) := by decide +kernel
theorem dL_goes_400 : decode cL_goes 400 = .ok (.iload 16, 2) := by decide +kernel
theorem dL_goes_402 : decode cL_goes 402 = .ok (.imul, 1) := by decide +kernel
theorem dL_goes_403 : decode cL_goes 403 = .ok (.iconst 1, 1) := by decide +kernel
theorem dL_goes_404 : decode cL_goes 404 = .ok (.iadd, 1) := by decide +kernel
theorem dL_goes_405 : decode cL_goes 405 = .ok (.iaload, 1) := by decide +kernel
theorem dL_goes_406 : decode cL_goes 406 = .ok (.aload 13, 2) := by decide +kernel
theorem dL_goes_408 : decode cL_goes 408 = .ok (.iload 14, 2) := by decide +kernel
theorem dL_goes_410 : decode cL_goes 410 = .ok (.iaload, 1) := by decide +kernel
theorem dL_goes_411 : decode cL_goes 411 = .ok (.if_icmp .ne 40, 3) := by decide +kernel
theorem dL_goes_414 : decode cL_goes 414 = .ok (.aload 4, 2) := by decide +kernel
theorem dL_goes_416 : decode cL_goes 416 = .ok (.aload 5, 2) := by decide +kernel
theorem dL_goes_418 : decode cL_goes 418 = .ok (.aload 6, 2) := by decide +kernel
theorem dL_goes_420 : decode cL_goes 420 = .ok (.iload 16, 2) := by decide +kernel
theorem dL_goes_422 : decode cL_goes 422 = .ok (.aload 13, 2) := by decide +kernel
theorem dL_goes_424 : decode cL_goes 424 = .ok (.iload 14, 2) := by decide +kernel
theorem dL_goes_426 : decode cL_goes 426 = .ok (.iconst 1, 1) := by decide +kernel
theorem dL_goes_427 : decode cL_goes 427 = .ok (.iadd, 1) := by decide +kernel
theorem dL_goes_428 : decode cL_goes 428 = .ok (.iaload, 1) := by decide +kernel
theorem dL_goes_429 : decode cL_goes 429 = .ok (.invokestatic 115, 3) := by decide +kernel
theorem dL_goes_432 : decode cL_goes 432 = .ok (.aload 4, 2) := by decide +kernel
theorem dL_goes_434 : decode cL_goes 434 = .ok (.iconst 3, 1) := by decide +kernel
theorem dL_goes_435 : decode cL_goes 435 = .ok (.aload 13, 2) := by decide +kernel
theorem dL_goes_437 : decode cL_goes 437 = .ok (.iload 14, 2) := by decide +kernel
theorem dL_goes_439 : decode cL_goes 439 = .ok (.iaload, 1) := by decide +kernel
theorem dL_goes_440 : decode cL_goes 440 = .ok (.imul, 1) := by decide +kernel
theorem dL_goes_441 : decode cL_goes 441 = .ok (.iconst 2, 1) := by decide +kernel
theorem dL_goes_442 : decode cL_goes 442 = .ok (.iadd, 1) := by decide +kernel
theorem dL_goes_443 : decode cL_goes 443 = .ok (.iaload, 1) := by decide +kernel
theorem dL_goes_444 : decode cL_goes 444 = .ok (.if_icmp .gt 7, 3) := by decide +kernel
theorem dL_goes_447 : decode cL_goes 447 = .ok (.iconst 1, 1) := by decide +kernel
theorem dL_goes_448 : decode cL_goes 448 = .ok (.goto 4, 3) := by decide +kernel
theorem dL_goes_451 : decode cL_goes 451 = .ok (.iconst 0, 1) := by decide +kernel
theorem dL_goes_452 : decode cL_goes 452 = .ok (.istore 17, 2) := by decide +kernel
theorem dL_goes_454 : decode cL_goes 454 = .ok (.iload 17, 2) := by decide +kernel
theorem dL_goes_456 : decode cL_goes 456 = .ok (.ifCond .eq 34, 3) := by decide +kernel
theorem dL_goes_459 : decode cL_goes 459 = .ok (.iload 15, 2) := by decide +kernel
theorem dL_goes_461 : decode cL_goes 461 = .ok (.ifCond .lt 24, 3) := by decide +kernel
theorem dL_goes_464 : decode cL_goes 464 = .ok (.aload 6, 2) := by decide +kernel
theorem dL_goes_466 : decode cL_goes 466 = .ok (.iconst 3, 1) := by decide +kernel
theorem dL_goes_467 : decode cL_goes 467 = .ok (.iload 16, 2) := by decide +kernel
theorem dL_goes_469 : decode cL_goes 469 = .ok (.imul, 1) := by decide +kernel
theorem dL_goes_470 : decode cL_goes 470 = .ok (.iconst 2, 1) := by decide +kernel
theorem dL_goes_471 : decode cL_goes 471 = .ok (.iadd, 1) := by decide +kernel
theorem dL_goes_472 : decode cL_goes 472 = .ok (.iaload, 1) := by decide +kernel
theorem dL_goes_473 : decode cL_goes 473 = .ok (.aload 6, 2) := by decide +kernel
theorem dL_goes_475 : decode cL_goes 475 = .ok (.iconst 3, 1) := by decide +kernel
theorem dL_goes_476 : decode cL_goes 476 = .ok (.iload 15, 2) := by decide +kernel
theorem dL_goes_478 : decode cL_goes 478 = .ok (.imul, 1) := by decide +kernel
theorem dL_goes_479 : decode cL_goes 479 = .ok (.iconst 2, 1) := by decide +kernel
theorem dL_goes_480 : decode cL_goes 480 = .ok (.iadd, 1) := by decide +kernel
theorem dL_goes_481 : decode cL_goes 481 = .ok (.iaload, 1) := by decide +kernel
theorem dL_goes_482 : decode cL_goes 482 = .ok (.if_icmp .gt 8, 3) := by decide +kernel
theorem dL_goes_485 : decode cL_goes 485 = .ok (.iload 16, 2) := by decide +kernel
theorem dL_goes_487 : decode cL_goes 487 = .ok (.goto 5, 3) := by decide +kernel
theorem dL_goes_490 : decode cL_goes 490 = .ok (.iload 15, 2) := by decide +kernel
theorem dL_goes_492 : decode cL_goes 492 = .ok (.istore 15, 2) := by decide +kernel
theorem dL_goes_494 : decode cL_goes 494 = .ok (.iinc 16 (-1), 3) := by decide +kernel
theorem dL_goes_497 : decode cL_goes 497 = .ok (.goto (-110), 3) := by decide +kernel
theorem dL_goes_500 : decode cL_goes 500 = .ok (.iload 12, 2) := by decide +kernel
theorem dL_goes_502 : decode cL_goes 502 = .ok (.ifCond .ne 8, 3) := by decide +kernel
theorem dL_goes_505 : decode cL_goes 505 = .ok (.bipush (-101), 2) := by decide +kernel
theorem dL_goes_507 : decode cL_goes 507 = .ok (.goto 30, 3) := by decide +kernel
theorem dL_goes_510 : decode cL_goes 510 = .ok (.aload 13, 2) := by decide +kernel
theorem dL_goes_512 : decode cL_goes 512 = .ok (.iload 14, 2) := by decide +kernel
theorem dL_goes_514 : decode cL_goes 514 = .ok (.iconst 3, 1) := by decide +kernel
theorem dL_goes_515 : decode cL_goes 515 = .ok (.iadd, 1) := by decide +kernel
theorem dL_goes_516 : decode cL_goes 516 = .ok (.iaload, 1) := by decide +kernel
theorem dL_goes_517 : decode cL_goes 517 = .ok (.ifCond .le 8, 3) := by decide +kernel
theorem dL_goes_520 : decode cL_goes 520 = .ok (.bipush (-102), 2) := by decide +kernel
theorem dL_goes_522 : decode cL_goes 522 = .ok (.goto 15, 3) := by decide +kernel
theorem dL_goes_525 : decode cL_goes 525 = .ok (.iload 15, 2) := by decide +kernel
theorem dL_goes_527 : decode cL_goes 527 = .ok (.ifCond .ge 8, 3) := by decide +kernel
theorem dL_goes_530 : decode cL_goes 530 = .ok (.bipush (-103), 2) := by decide +kernel
theorem dL_goes_532 : decode cL_goes 532 = .ok (.goto 5, 3) := by decide +kernel
theorem dL_goes_535 : decode cL_goes 535 = .ok (.iload 15, 2) := by decide +kernel
theorem dL_goes_537 : decode cL_goes 537 = .ok (.istore 16, 2) := by decide +kernel
theorem dL_goes_539 : decode cL_goes 539 = .ok (.iload 16, 2) := by decide +kernel
theorem dL_goes_541 : decode cL_goes 541 = .ok (.ifCond .lt 22, 3) := by decide +kernel
theorem dL_goes_544 : decode cL_goes 544 = .ok (.aload 4, 2) := by decide +kernel
theorem dL_goes_546 : decode cL_goes 546 = .ok (.aload 5, 2) := by decide +kernel
theorem dL_goes_548 : decode cL_goes 548 = .ok (.aload 6, 2) := by decide +kernel
theorem dL_goes_550 : decode cL_goes 550 = .ok (.aload 13, 2) := by decide +kernel
theorem dL_goes_552 : decode cL_goes 552 = .ok (.aload 9, 2) := by decide +kernel
theorem dL_goes_554 : decode cL_goes 554 = .ok (.iload 14, 2) := by decide +kernel
theorem dL_goes_556 : decode cL_goes 556 = .ok (.iload 11, 2) := by decide +kernel
theorem dL_goes_558 : decode cL_goes 558 = .ok (.iload 15, 2) := by decide +kernel
theorem dL_goes_560 : decode cL_goes 560 = .ok (.invokestatic 119, 3) := by decide +kernel
theorem dL_goes_563 : decode cL_goes 563 = .ok (.aload_n 0, 1) := by decide +kernel
theorem dL_goes_564 : decode cL_goes 564 = .ok (.iconst 0, 1) := by decide +kernel
theorem dL_goes_565 : decode cL_goes 565 = .ok (.iload 11, 2) := by decide +kernel
theorem dL_goes_567 : decode cL_goes 567 = .ok (.iconst 0, 1) := by decide +kernel
theorem dL_goes_568 : decode cL_goes 568 = .ok (.invokestatic 123, 3) := by decide +kernel
theorem dL_goes_571 : decode cL_goes 571 = .ok (.iload 16, 2) := by decide +kernel
theorem dL_goes_573 : decode cL_goes 573 = .ok (.if_icmp .ne 7, 3) := by decide +kernel
theorem dL_goes_576 : decode cL_goes 576 = .ok (.iconst 1, 1) := by decide +kernel
theorem dL_goes_577 : decode cL_goes 577 = .ok (.goto 4, 3) := by decide +kernel
theorem dL_goes_580 : decode cL_goes 580 = .ok (.iconst 0, 1) := by decide +kernel
theorem dL_goes_581 : decode cL_goes 581 = .ok (.ireturn, 1) := by decide +kernel
theorem dL_goes_582 : decode cL_goes 582 = .ok (.iload_n 1, 1) := by decide +kernel
theorem dL_goes_583 : decode cL_goes 583 = .ok (.iconst 2, 1) := by decide +kernel
theorem dL_goes_584 : decode cL_goes 584 = .ok (.if_icmp .ne 135, 3) := by decide +kernel
theorem dL_goes_587 : decode cL_goes 587 = .ok (.iload_n 2, 1) := by decide +kernel
theorem dL_goes_588 : decode cL_goes 588 = .ok (.iconst 5, 1) := by decide +kernel
theorem dL_goes_589 : decode cL_goes 589 = .ok (.ishr, 1) := by decide +kernel
theorem dL_goes_590 : decode cL_goes 590 = .ok (.aload_n 3, 1) := by decide +kernel
theorem dL_goes_591 : decode cL_goes 591 = .ok (.iconst 1, 1) := by decide +kernel
theorem dL_goes_592 : decode cL_goes 592 = .ok (.iaload, 1) := by decide +kernel
theorem dL_goes_593 : decode cL_goes 593 = .ok (.iconst 1, 1) := by decide +kernel
theorem dL_goes_594 : decode cL_goes 594 = .ok (.iadd, 1) := by decide +kernel
theorem dL_goes_595 : decode cL_goes 595 = .ok (.invokestatic 95, 3) := by decide +kernel
theorem dL_goes_598 : decode cL_goes 598 = .ok (.istore 15, 2) := by decide +kernel
theorem dL_goes_600 : decode cL_goes 600 = .ok (.iload 12, 2) := by decide +kernel
theorem dL_goes_602 : decode cL_goes 602 = .ok (.ifCond .eq 11, 3) := by decide +kernel
theorem dL_goes_605 : decode cL_goes 605 = .ok (.iload 15, 2) := by decide +kernel
theorem dL_goes_607 : decode cL_goes 607 = .ok (.aload_n 3, 1) := by decide +kernel
theorem dL_goes_608 : decode cL_goes 608 = .ok (.iconst 1, 1) := by decide +kernel
theorem dL_goes_609 : decode cL_goes 609 = .ok (.iaload, 1) := by decide +kernel
theorem dL_goes_610 : decode cL_goes 610 = .ok (.if_icmp .lt 8, 3) := by decide +kernel
theorem dL_goes_613 : decode cL_goes 613 = .ok (.bipush (-101), 2) := by decide +kernel
theorem dL_goes_615 : decode cL_goes 615 = .ok (.goto 58, 3) := by decide +kernel
theorem dL_goes_618 : decode cL_goes 618 = .ok (.aload 6, 2) := by decide +kernel
theorem dL_goes_620 : decode cL_goes 620 = .ok (.iconst 3, 1) := by decide +kernel
theorem dL_goes_621 : decode cL_goes 621 = .ok (.iload 15, 2) := by decide +kernel
theorem dL_goes_623 : decode cL_goes 623 = .ok (.imul, 1) := by decide +kernel
theorem dL_goes_624 : decode cL_goes 624 = .ok (.iconst 1, 1) := by decide +kernel
theorem dL_goes_625 : decode cL_goes 625 = .ok (.iadd, 1) := by decide +kernel
theorem dL_goes_626 : decode cL_goes 626 = .ok (.iaload, 1) := by decide +kernel
theorem dL_goes_627 : decode cL_goes 627 = .ok (.aload 13, 2) := by decide +kernel
theorem dL_goes_629 : decode cL_goes 629 = .ok (.iload 14, 2) := by decide +kernel
theorem dL_goes_631 : decode cL_goes 631 = .ok (.iaload, 1) := by decide +kernel
theorem dL_goes_632 : decode cL_goes 632 = .ok (.if_icmp .eq 8, 3) := by decide +kernel
theorem dL_goes_635 : decode cL_goes 635 = .ok (.bipush (-102), 2) := by decide +kernel
theorem dL_goes_637 : decode cL_goes 637 = .ok (.goto 36, 3) := by decide +kernel
theorem dL_goes_640 : decode cL_goes 640 = .ok (.aload 13, 2) := by decide +kernel
theorem dL_goes_642 : decode cL_goes 642 = .ok (.iload 14, 2) := by decide +kernel
theorem dL_goes_644 : decode cL_goes 644 = .ok (.iconst 3, 1) := by decide +kernel
theorem dL_goes_645 : decode cL_goes 645 = .ok (.iadd, 1) := by decide +kernel
theorem dL_goes_646 : decode cL_goes 646 = .ok (.iaload, 1) := by decide +kernel
theorem dL_goes_647 : decode cL_goes 647 = .ok (.ifCond .le 8, 3) := by decide +kernel
theorem dL_goes_650 : decode cL_goes 650 = .ok (.bipush (-103), 2) := by decide +kernel
theorem dL_goes_652 : decode cL_goes 652 = .ok (.goto 21, 3) := by decide +kernel
theorem dL_goes_655 : decode cL_goes 655 = .ok (.aload 4, 2) := by decide +kernel
theorem dL_goes_657 : decode cL_goes 657 = .ok (.aload 5, 2) := by decide +kernel
theorem dL_goes_659 : decode cL_goes 659 = .ok (.aload 6, 2) := by decide +kernel
theorem dL_goes_661 : decode cL_goes 661 = .ok (.iload 15, 2) := by decide +kernel
theorem dL_goes_663 : decode cL_goes 663 = .ok (.aload 13, 2) := by decide +kernel
theorem dL_goes_665 : decode cL_goes 665 = .ok (.iload 14, 2) := by decide +kernel
theorem dL_goes_667 : decode cL_goes 667 = .ok (.iconst 1, 1) := by decide +kernel
theorem dL_goes_668 : decode cL_goes 668 = .ok (.iadd, 1) := by decide +kernel
theorem dL_goes_669 : decode cL_goes 669 = .ok (.iaload, 1) := by decide +kernel
theorem dL_goes_670 : decode cL_goes 670 = .ok (.invokestatic 115, 3) := by decide +kernel
theorem dL_goes_673 : decode cL_goes 673 = .ok (.istore 16, 2) := by decide +kernel
theorem dL_goes_675 : decode cL_goes 675 = .ok (.iload 16, 2) := by decide +kernel
theorem dL_goes_677 : decode cL_goes 677 = .ok (.ifCond .lt 22, 3) := by decide +kernel
theorem dL_goes_680 : decode cL_goes 680 = .ok (.aload 4, 2) := by decide +kernel
theorem dL_goes_682 : decode cL_goes 682 = .ok (.aload 5, 2) := by decide +kernel
theorem dL_goes_684 : decode cL_goes 684 = .ok (.aload 6, 2) := by decide +kernel
theorem dL_goes_686 : decode cL_goes 686 = .ok (.aload 13, 2) := by decide +kernel
theorem dL_goes_688 : decode cL_goes 688 = .ok (.aload 9, 2) := by decide +kernel
theorem dL_goes_690 : decode cL_goes 690 = .ok (.iload 14, 2) := by decide +kernel
theorem dL_goes_692 : decode cL_goes 692 = .ok (.iload 11, 2) := by decide +kernel
theorem dL_goes_694 : decode cL_goes 694 = .ok (.iload 15, 2) := by decide +kernel
theorem dL_goes_696 : decode cL_goes 696 = .ok (.invokestatic 119, 3) := by decide +kernel
theorem dL_goes_699 : decode cL_goes 699 = .ok (.aload_n 0, 1) := by decide +kernel
theorem dL_goes_700 : decode cL_goes 700 = .ok (.iconst 2, 1) := by decide +kernel
theorem dL_goes_701 : decode cL_goes 701 = .ok (.iload 11, 2) := by decide +kernel
theorem dL_goes_703 : decode cL_goes 703 = .ok (.iload 15, 2) := by decide +kernel
theorem dL_goes_705 : decode cL_goes 705 = .ok (.invokestatic 102, 3) := by decide +kernel
theorem dL_goes_708 : decode cL_goes 708 = .ok (.iload 16, 2) := by decide +kernel
theorem dL_goes_710 : decode cL_goes 710 = .ok (.if_icmp .ne 7, 3) := by decide +kernel
theorem dL_goes_713 : decode cL_goes 713 = .ok (.iconst 1, 1) := by decide +kernel
theorem dL_goes_714 : decode cL_goes 714 = .ok (.goto 4, 3) := by decide +kernel
theorem dL_goes_717 : decode cL_goes 717 = .ok (.iconst 0, 1) := by decide +kernel
theorem dL_goes_718 : decode cL_goes 718 = .ok (.ireturn, 1) := by decide +kernel
theorem dL_goes_719 : decode cL_goes 719 = .ok (.iload 12, 2) := by decide +kernel
theorem dL_goes_721 : decode cL_goes 721 = .ok (.ifCond .ne 8, 3) := by decide +kernel
theorem dL_goes_724 : decode cL_goes 724 = .ok (.bipush (-101), 2) := by decide +kernel
theorem dL_goes_726 : decode cL_goes 726 = .ok (.goto 42, 3) := by decide +kernel
theorem dL_goes_729 : decode cL_goes 729 = .ok (.aload 13, 2) := by decide +kernel
theorem dL_goes_731 : decode cL_goes 731 = .ok (.iload 14, 2) := by decide +kernel
theorem dL_goes_733 : decode cL_goes 733 = .ok (.iconst 3, 1) := by decide +kernel
theorem dL_goes_734 : decode cL_goes 734 = .ok (.iadd, 1) := by decide +kernel
theorem dL_goes_735 : decode cL_goes 735 = .ok (.iaload, 1) := by decide +kernel
theorem dL_goes_736 : decode cL_goes 736 = .ok (.iconst 1, 1) := by decide +kernel
theorem dL_goes_737 : decode cL_goes 737 = .ok (.if_icmp .ne 15, 3) := by decide +kernel
theorem dL_goes_740 : decode cL_goes 740 = .ok (.aload 9, 2) := by decide +kernel
theorem dL_goes_742 : decode cL_goes 742 = .ok (.iconst 3, 1) := by decide +kernel
theorem dL_goes_743 : decode cL_goes 743 = .ok (.iload 11, 2) := by decide +kernel
theorem dL_goes_745 : decode cL_goes 745 = .ok (.imul, 1) := by decide +kernel
theorem dL_goes_746 : decode cL_goes 746 = .ok (.iconst 2, 1) := by decide +kernel
theorem dL_goes_747 : decode cL_goes 747 = .ok (.iadd, 1) := by decide +kernel
theorem dL_goes_748 : decode cL_goes 748 = .ok (.iaload, 1) := by decide +kernel
theorem dL_goes_749 : decode cL_goes 749 = .ok (.ifCond .ne 8, 3) := by decide +kernel
theorem dL_goes_752 : decode cL_goes 752 = .ok (.bipush (-102), 2) := by decide +kernel
theorem dL_goes_754 : decode cL_goes 754 = .ok (.goto 14, 3) := by decide +kernel
theorem dL_goes_757 : decode cL_goes 757 = .ok (.aload 9, 2) := by decide +kernel
theorem dL_goes_759 : decode cL_goes 759 = .ok (.iconst 3, 1) := by decide +kernel
theorem dL_goes_760 : decode cL_goes 760 = .ok (.iload 11, 2) := by decide +kernel
theorem dL_goes_762 : decode cL_goes 762 = .ok (.imul, 1) := by decide +kernel
theorem dL_goes_763 : decode cL_goes 763 = .ok (.iconst 2, 1) := by decide +kernel
theorem dL_goes_764 : decode cL_goes 764 = .ok (.iadd, 1) := by decide +kernel
theorem dL_goes_765 : decode cL_goes 765 = .ok (.iaload, 1) := by decide +kernel
theorem dL_goes_766 : decode cL_goes 766 = .ok (.iconst 1, 1) := by decide +kernel
theorem dL_goes_767 : decode cL_goes 767 = .ok (.isub, 1) := by decide +kernel
theorem dL_goes_768 : decode cL_goes 768 = .ok (.istore 15, 2) := by decide +kernel
theorem dL_goes_770 : decode cL_goes 770 = .ok (.iload 15, 2) := by decide +kernel
theorem dL_goes_772 : decode cL_goes 772 = .ok (.ifCond .lt 35, 3) := by decide +kernel
theorem dL_goes_775 : decode cL_goes 775 = .ok (.aload 13, 2) := by decide +kernel
theorem dL_goes_777 : decode cL_goes 777 = .ok (.iload 14, 2) := by decide +kernel
theorem dL_goes_779 : decode cL_goes 779 = .ok (.iconst 3, 1) := by decide +kernel
theorem dL_goes_780 : decode cL_goes 780 = .ok (.iadd, 1) := by decide +kernel
theorem dL_goes_781 : decode cL_goes 781 = .ok (.iconst 2, 1) := by decide +kernel
theorem dL_goes_782 : decode cL_goes 782 = .ok (.iastore, 1) := by decide +kernel
theorem dL_goes_783 : decode cL_goes 783 = .ok (.aload 10, 2) := by decide +kernel
theorem dL_goes_785 : decode cL_goes 785 = .ok (.iconst 3, 1) := by decide +kernel
theorem dL_goes_786 : decode cL_goes 786 = .ok (.aload 6, 2) := by decide +kernel
theorem dL_goes_788 : decode cL_goes 788 = .ok (.iconst 3, 1) := by decide +kernel
theorem dL_goes_789 : decode cL_goes 789 = .ok (.aload 13, 2) := by decide +kernel
theorem dL_goes_791 : decode cL_goes 791 = .ok (.iload 14, 2) := by decide +kernel
theorem dL_goes_793 : decode cL_goes 793 = .ok (.iconst 4, 1) := by decide +kernel
theorem dL_goes_794 : decode cL_goes 794 = .ok (.iadd, 1) := by decide +kernel
theorem dL_goes_795 : decode cL_goes 795 = .ok (.iaload, 1) := by decide +kernel
theorem dL_goes_796 : decode cL_goes 796 = .ok (.imul, 1) := by decide +kernel
theorem dL_goes_797 : decode cL_goes 797 = .ok (.iaload, 1) := by decide +kernel
theorem dL_goes_798 : decode cL_goes 798 = .ok (.imul, 1) := by decide +kernel
theorem dL_goes_799 : decode cL_goes 799 = .ok (.iload 15, 2) := by decide +kernel
theorem dL_goes_801 : decode cL_goes 801 = .ok (.iadd, 1) := by decide +kernel
theorem dL_goes_802 : decode cL_goes 802 = .ok (.dup2, 1) := by decide +kernel
theorem dL_goes_803 : decode cL_goes 803 = .ok (.iaload, 1) := by decide +kernel
theorem dL_goes_804 : decode cL_goes 804 = .ok (.iconst 1, 1) := by decide +kernel
theorem dL_goes_805 : decode cL_goes 805 = .ok (.iadd, 1) := by decide +kernel
theorem dL_goes_806 : decode cL_goes 806 = .ok (.iastore, 1) := by decide +kernel
theorem dL_goes_807 : decode cL_goes 807 = .ok (.aload_n 0, 1) := by decide +kernel
theorem dL_goes_808 : decode cL_goes 808 = .ok (.iconst 1, 1) := by decide +kernel
theorem dL_goes_809 : decode cL_goes 809 = .ok (.iload 11, 2) := by decide +kernel
theorem dL_goes_811 : decode cL_goes 811 = .ok (.iconst 0, 1) := by decide +kernel
theorem dL_goes_812 : decode cL_goes 812 = .ok (.invokestatic 123, 3) := by decide +kernel
theorem dL_goes_815 : decode cL_goes 815 = .ok (.iload 15, 2) := by decide +kernel
theorem dL_goes_817 : decode cL_goes 817 = .ok (.if_icmp .ne 7, 3) := by decide +kernel
theorem dL_goes_820 : decode cL_goes 820 = .ok (.iconst 1, 1) := by decide +kernel
theorem dL_goes_821 : decode cL_goes 821 = .ok (.goto 4, 3) := by decide +kernel
theorem dL_goes_824 : decode cL_goes 824 = .ok (.iconst 0, 1) := by decide +kernel
theorem dL_goes_825 : decode cL_goes 825 = .ok (.ireturn, 1) := by decide +kernel
theorem dL_cloth_0 : decode cL_cloth 0 = .ok (.iload_n 2, 1) := by decide +kernel
theorem dL_cloth_1 : decode cL_cloth 1 = .ok (.bipush 40, 2) := by decide +kernel
theorem dL_cloth_3 : decode cL_cloth 3 = .ok (.invokestatic 95, 3) := by decide +kernel
theorem dL_cloth_6 : decode cL_cloth 6 = .ok (.ifCond .ne 7, 3) := by decide +kernel
theorem dL_cloth_9 : decode cL_cloth 9 = .ok (.iconst 3, 1) := by decide +kernel
theorem dL_cloth_10 : decode cL_cloth 10 = .ok (.goto 8, 3) := by decide +kernel
theorem dL_cloth_13 : decode cL_cloth 13 = .ok (.iload_n 2, 1) := by decide +kernel
theorem dL_cloth_14 : decode cL_cloth 14 = .ok (.iconst 2, 1) := by decide +kernel
theorem dL_cloth_15 : decode cL_cloth 15 = .ok (.invokestatic 95, 3) := by decide +kernel
theorem dL_cloth_18 : decode cL_cloth 18 = .ok (.istore 5, 2) := by decide +kernel
theorem dL_cloth_20 : decode cL_cloth 20 = .ok (.iload_n 1, 1) := by decide +kernel
theorem dL_cloth_21 : decode cL_cloth 21 = .ok (.ifCond .ne 258, 3) := by decide +kernel
theorem dL_cloth_24 : decode cL_cloth 24 = .ok (.iload_n 2, 1) := by decide +kernel
theorem dL_cloth_25 : decode cL_cloth 25 = .ok (.iconst 3, 1) := by decide +kernel
theorem dL_cloth_26 : decode cL_cloth 26 = .ok (.ishr, 1) := by decide +kernel
theorem dL_cloth_27 : decode cL_cloth 27 = .ok (.bipush 40, 2) := by decide +kernel
theorem dL_cloth_29 : decode cL_cloth 29 = .ok (.invokestatic 95, 3) := by decide +kernel
theorem dL_cloth_32 : decode cL_cloth 32 = .ok (.ifCond .ne 7, 3) := by decide +kernel
theorem dL_cloth_35 : decode cL_cloth 35 = .ok (.iconst 5, 1) := by decide +kernel
theorem dL_cloth_36 : decode cL_cloth 36 = .ok (.goto 10, 3) := by decide +kernel
theorem dL_cloth_39 : decode cL_cloth 39 = .ok (.iload_n 2, 1) := by decide +kernel
theorem dL_cloth_40 : decode cL_cloth 40 = .ok (.iconst 3, 1) := by decide +kernel
theorem dL_cloth_41 : decode cL_cloth 41 = .ok (.ishr, 1) := by decide +kernel
theorem dL_cloth_42 : decode cL_cloth 42 = .ok (.iconst 5, 1) := by decide +kernel
theorem dL_cloth_43 : decode cL_cloth 43 = .ok (.invokestatic 95, 3) := by decide +kernel
theorem dL_cloth_46 : decode cL_cloth 46 = .ok (.istore 6, 2) := by decide +kernel
theorem dL_cloth_48 : decode cL_cloth 48 = .ok (.iload_n 2, 1) := by decide +kernel
theorem dL_cloth_49 : decode cL_cloth 49 = .ok (.iconst 5, 1) := by decide +kernel
theorem dL_cloth_50 : decode cL_cloth 50 = .ok (.ishr, 1) := by decide +kernel
theorem dL_cloth_51 : decode cL_cloth 51 = .ok (.bipush 40, 2) := by decide +kernel
theorem dL_cloth_53 : decode cL_cloth 53 = .ok (.invokestatic 95, 3) := by decide +kernel
theorem dL_cloth_56 : decode cL_cloth 56 = .ok (.ifCond .ne 7, 3) := by decide +kernel
theorem dL_cloth_59 : decode cL_cloth 59 = .ok (.iconst (-1), 1) := by decide +kernel
theorem dL_cloth_60 : decode cL_cloth 60 = .ok (.goto 10, 3) := by decide +kernel
theorem dL_cloth_63 : decode cL_cloth 63 = .ok (.iload_n 2, 1) := by decide +kernel
theorem dL_cloth_64 : decode cL_cloth 64 = .ok (.iconst 5, 1) := by decide +kernel
theorem dL_cloth_65 : decode cL_cloth 65 = .ok (.ishr, 1) := by decide +kernel
theorem dL_cloth_66 : decode cL_cloth 66 = .ok (.iconst 5, 1) := by decide +kernel
theorem dL_cloth_67 : decode cL_cloth 67 = .ok (.invokestatic 95, 3) := by decide +kernel
theorem dL_cloth_70 : decode cL_cloth 70 = .ok (.istore 7, 2) := by decide +kernel
theorem dL_cloth_72 : decode cL_cloth 72 = .ok (.iload_n 2, 1) := by decide +kernel
theorem dL_cloth_73 : decode cL_cloth 73 = .ok (.bipush 7, 2) := by decide +kernel
theorem dL_cloth_75 : decode cL_cloth 75 = .ok (.ishr, 1) := by decide +kernel
theorem dL_cloth_76 : decode cL_cloth 76 = .ok (.bipush 30, 2) := by decide +kernel
theorem dL_cloth_78 : decode cL_cloth 78 = .ok (.invokestatic 95, 3) := by decide +kernel
theorem dL_cloth_81 : decode cL_cloth 81 = .ok (.ifCond .ne 18, 3) := by decide +kernel
theorem dL_cloth_84 : decode cL_cloth 84 = .ok (.sipush 1001, 3) := by decide +kernel
theorem dL_cloth_87 : decode cL_cloth 87 = .ok (.iload_n 2, 1) := by decide +kernel
theorem dL_cloth_88 : decode cL_cloth 88 = .ok (.bipush 8, 2) := by decide +kernel
theorem dL_cloth_90 : decode cL_cloth 90 = .ok (.ishr, 1) := by decide +kernel
theorem dL_cloth_91 : decode cL_cloth 91 = .ok (.iconst 2, 1) := by decide +kernel
theorem dL_cloth_92 : decode cL_cloth 92 = .ok (.invokestatic 95, 3) := by decide +kernel
theorem dL_cloth_95 : decode cL_cloth 95 = .ok (.imul, 1) := by decide +kernel
theorem dL_cloth_96 : decode cL_cloth 96 = .ok (.goto 15, 3) := by decide +kernel
theorem dL_cloth_99 : decode cL_cloth 99 = .ok (.iconst 1, 1) := by decide +kernel
theorem dL_cloth_100 : decode cL_cloth 100 = .ok (.iload_n 2, 1) := by decide +kernel
theorem dL_cloth_101 : decode cL_cloth 101 = .ok (.bipush 7, 2) := by decide +kernel
theorem dL_cloth_103 : decode cL_cloth 103 = .ok (.ishr, 1) := by decide +kernel
theorem dL_cloth_104 : decode cL_cloth 104 = .ok (.sipush 1000, 3) := by decide +kernel
theorem dL_cloth_107 : decode cL_cloth 107 = .ok (.invokestatic 95, 3) := by decide +kernel
theorem dL_cloth_110 : decode cL_cloth 110 = .ok (.iadd, 1) := by decide +kernel
theorem dL_cloth_111 : decode cL_cloth 111 = .ok (.istore 8, 2) := by decide +kernel
theorem dL_cloth_113 : decode cL_cloth 113 = .ok (.iload 5, 2) := by decide +kernel
theorem dL_cloth_115 : decode cL_cloth 115 = .ok (.iconst 3, 1) := by decide +kernel
theorem dL_cloth_116 : decode cL_cloth 116 = .ok (.if_icmp .ge 18, 3) := by decide +kernel
theorem dL_cloth_119 : decode cL_cloth 119 = .ok (.iload 6, 2) := by decide +kernel
theorem dL_cloth_121 : decode cL_cloth 121 = .ok (.iconst 5, 1) := by decide +kernel
theorem dL_cloth_122 : decode cL_cloth 122 = .ok (.if_icmp .ge 12, 3) := by decide +kernel
theorem dL_cloth_125 : decode cL_cloth 125 = .ok (.iload 7, 2) := by decide +kernel
theorem dL_cloth_127 : decode cL_cloth 127 = .ok (.ifCond .lt 7, 3) := by decide +kernel
theorem dL_cloth_130 : decode cL_cloth 130 = .ok (.iconst 1, 1) := by decide +kernel
theorem dL_cloth_131 : decode cL_cloth 131 = .ok (.goto 4, 3) := by decide +kernel
theorem dL_cloth_134 : decode cL_cloth 134 = .ok (.iconst 0, 1) := by decide +kernel
theorem dL_cloth_135 : decode cL_cloth 135 = .ok (.istore 9, 2) := by decide +kernel
theorem dL_cloth_137 : decode cL_cloth 137 = .ok (.iload 9, 2) := by decide +kernel
theorem dL_cloth_139 : decode cL_cloth 139 = .ok (.ifCond .eq 27, 3) := by decide +kernel
theorem dL_cloth_142 : decode cL_cloth 142 = .ok (.iload 6, 2) := by decide +kernel
theorem dL_cloth_144 : decode cL_cloth 144 = .ok (.iload 7, 2) := by decide +kernel
theorem dL_cloth_146 : decode cL_cloth 146 = .ok (.if_icmp .eq 20, 3) := by decide +kernel
theorem dL_cloth_149 : decode cL_cloth 149 = .ok (.iload 8, 2) := by decide +kernel
theorem dL_cloth_151 : decode cL_cloth 151 = .ok (.ifCond .le 15, 3) := by decide +kernel
theorem dL_cloth_154 : decode cL_cloth 154 = .ok (.iload 8, 2) := by decide +kernel
theorem dL_cloth_156 : decode cL_cloth 156 = .ok (.sipush 1001, 3) := by decide +kernel
theorem dL_cloth_159 : decode cL_cloth 159 = .ok (.if_icmp .ge 7, 3) := by decide +kernel
theorem dL_cloth_162 : decode cL_cloth 162 = .ok (.iconst 1, 1) := by decide +kernel
theorem dL_cloth_163 : decode cL_cloth 163 = .ok (.goto 4, 3) := by decide +kernel
theorem dL_cloth_166 : decode cL_cloth 166 = .ok (.iconst 0, 1) := by decide +kernel
theorem dL_cloth_167 : decode cL_cloth 167 = .ok (.istore 10, 2) := by decide +kernel
theorem dL_cloth_169 : decode cL_cloth 169 = .ok (.iload 9, 2) := by decide +kernel
theorem dL_cloth_171 : decode cL_cloth 171 = .ok (.ifCond .ne 8, 3) := by decide +kernel
theorem dL_cloth_174 : decode cL_cloth 174 = .ok (.bipush (-101), 2) := by decide +kernel
theorem dL_cloth_176 : decode cL_cloth 176 = .ok (.goto 14, 3) := by decide +kernel
theorem dL_cloth_179 : decode cL_cloth 179 = .ok (.iload 10, 2) := by decide +kernel
theorem dL_cloth_181 : decode cL_cloth 181 = .ok (.ifCond .ne 8, 3) := by decide +kernel
theorem dL_cloth_184 : decode cL_cloth 184 = .ok (.bipush (-102), 2) := by decide +kernel
theorem dL_cloth_186 : decode cL_cloth 186 = .ok (.goto 4, 3) := by decide +kernel
theorem dL_cloth_189 : decode cL_cloth 189 = .ok (.iconst 0, 1) := by decide +kernel
theorem dL_cloth_190 : decode cL_cloth 190 = .ok (.istore 11, 2) := by decide +kernel
theorem dL_cloth_192 : decode cL_cloth 192 = .ok (.iload 10, 2) := by decide +kernel
theorem dL_cloth_194 : decode cL_cloth 194 = .ok (.ifCond .eq 62, 3) := by decide +kernel
theorem dL_cloth_197 : decode cL_cloth 197 = .ok (.iload 8, 2) := by decide +kernel
theorem dL_cloth_199 : decode cL_cloth 199 = .ok (.bipush 100, 2) := by decide +kernel
theorem dL_cloth_201 : decode cL_cloth 201 = .ok (.aload 4, 2) := by decide +kernel
theorem dL_cloth_203 : decode cL_cloth 203 = .ok (.iload 5, 2) := by decide +kernel
theorem dL_cloth_205 : decode cL_cloth 205 = .ok (.iaload, 1) := by decide +kernel
theorem dL_cloth_206 : decode cL_cloth 206 = .ok (.isub, 1) := by decide +kernel
theorem dL_cloth_207 : decode cL_cloth 207 = .ok (.imul, 1) := by decide +kernel
theorem dL_cloth_208 : decode cL_cloth 208 = .ok (.istore 12, 2) := by decide +kernel
theorem dL_cloth_210 : decode cL_cloth 210 = .ok (.aload_n 3, 1) := by decide +kernel
theorem dL_cloth_211 : decode cL_cloth 211 = .ok (.bipush 25, 2) := by decide +kernel
theorem dL_cloth_213 : decode cL_cloth 213 = .ok (.iload 5, 2) := by decide +kernel
theorem dL_cloth_215 : decode cL_cloth 215 = .ok (.imul, 1) := by decide +kernel
theorem dL_cloth_216 : decode cL_cloth 216 = .ok (.iconst 5, 1) := by decide +kernel
theorem dL_cloth_217 : decode cL_cloth 217 = .ok (.iload 7, 2) := by decide +kernel
theorem dL_cloth_219 : decode cL_cloth 219 = .ok (.imul, 1) := by decide +kernel
theorem dL_cloth_220 : decode cL_cloth 220 = .ok (.iadd, 1) := by decide +kernel
theorem dL_cloth_221 : decode cL_cloth 221 = .ok (.iload 6, 2) := by decide +kernel
theorem dL_cloth_223 : decode cL_cloth 223 = .ok (.iadd, 1) := by decide +kernel
theorem dL_cloth_224 : decode cL_cloth 224 = .ok (.dup2, 1) := by decide +kernel
theorem dL_cloth_225 : decode cL_cloth 225 = .ok (.iaload, 1) := by decide +kernel
theorem dL_cloth_226 : decode cL_cloth 226 = .ok (.iload 12, 2) := by decide +kernel
theorem dL_cloth_228 : decode cL_cloth 228 = .ok (.iload 12, 2) := by decide +kernel
theorem dL_cloth_230 : decode cL_cloth 230 = .ok (.bipush 100, 2) := by decide +kernel
theorem dL_cloth_232 : decode cL_cloth 232 = .ok (.irem, 1) := by decide +kernel
theorem dL_cloth_233 : decode cL_cloth 233 = .ok (.isub, 1) := by decide +kernel
theorem dL_cloth_234 : decode cL_cloth 234 = .ok (.bipush 100, 2) := by decide +kernel
theorem dL_cloth_236 : decode cL_cloth 236 = .ok (.idiv, 1) := by decide +kernel
theorem dL_cloth_237 : decode cL_cloth 237 = .ok (.iadd, 1) := by decide +kernel
theorem dL_cloth_238 : decode cL_cloth 238 = .ok (.iastore, 1) := by decide +kernel
theorem dL_cloth_239 : decode cL_cloth 239 = .ok (.aload_n 3, 1) := by decide +kernel
theorem dL_cloth_240 : decode cL_cloth 240 = .ok (.bipush 25, 2) := by decide +kernel
theorem dL_cloth_242 : decode cL_cloth 242 = .ok (.iload 5, 2) := by decide +kernel
theorem dL_cloth_244 : decode cL_cloth 244 = .ok (.imul, 1) := by decide +kernel
theorem dL_cloth_245 : decode cL_cloth 245 = .ok (.iconst 5, 1) := by decide +kernel
theorem dL_cloth_246 : decode cL_cloth 246 = .ok (.iload 7, 2) := by decide +kernel
theorem dL_cloth_248 : decode cL_cloth 248 = .ok (.imul, 1) := by decide +kernel
theorem dL_cloth_249 : decode cL_cloth 249 = .ok (.iadd, 1) := by decide +kernel
theorem dL_cloth_250 : decode cL_cloth 250 = .ok (.iload 6, 2) := by decide +kernel
theorem dL_cloth_252 : decode cL_cloth 252 = .ok (.iadd, 1) := by decide +kernel
theorem dL_cloth_253 : decode cL_cloth 253 = .ok (.iaload, 1) := by decide +kernel
theorem dL_cloth_254 : decode cL_cloth 254 = .ok (.istore 11, 2) := by decide +kernel
theorem dL_cloth_256 : decode cL_cloth 256 = .ok (.aload_n 0, 1) := by decide +kernel
theorem dL_cloth_257 : decode cL_cloth 257 = .ok (.iload 6, 2) := by decide +kernel
theorem dL_cloth_259 : decode cL_cloth 259 = .ok (.iload 7, 2) := by decide +kernel
theorem dL_cloth_261 : decode cL_cloth 261 = .ok (.iload 5, 2) := by decide +kernel
theorem dL_cloth_263 : decode cL_cloth 263 = .ok (.iload 8, 2) := by decide +kernel
theorem dL_cloth_265 : decode cL_cloth 265 = .ok (.invokestatic 126, 3) := by decide +kernel
theorem dL_cloth_268 : decode cL_cloth 268 = .ok (.iload 11, 2) := by decide +kernel
theorem dL_cloth_270 : decode cL_cloth 270 = .ok (.if_icmp .ne 7, 3) := by decide +kernel
theorem dL_cloth_273 : decode cL_cloth 273 = .ok (.iconst 1, 1) := by decide +kernel
theorem dL_cloth_274 : decode cL_cloth 274 = .ok (.goto 4, 3) := by decide +kernel
theorem dL_cloth_277 : decode cL_cloth 277 = .ok (.iconst 0, 1) := by decide +kernel
theorem dL_cloth_278 : decode cL_cloth 278 = .ok (.ireturn, 1) := by decide +kernel
theorem dL_cloth_279 : decode cL_cloth 279 = .ok (.iconst 0, 1) := by decide +kernel
theorem dL_cloth_280 : decode cL_cloth 280 = .ok (.istore 6, 2) := by decide +kernel
theorem dL_cloth_282 : decode cL_cloth 282 = .ok (.iload 5, 2) := by decide +kernel
theorem dL_cloth_284 : decode cL_cloth 284 = .ok (.iconst 3, 1) := by decide +kernel
theorem dL_cloth_285 : decode cL_cloth 285 = .ok (.if_icmp .ge 195, 3) := by decide +kernel
theorem dL_cloth_288 : decode cL_cloth 288 = .ok (.iconst 5, 1) := by decide +kernel
theorem dL_cloth_289 : decode cL_cloth 289 = .ok (.newarray .int, 2) := by decide +kernel
theorem dL_cloth_291 : decode cL_cloth 291 = .ok (.astore 7, 2) := by decide +kernel
theorem dL_cloth_293 : decode cL_cloth 293 = .ok (.iconst 0, 1) := by decide +kernel
theorem dL_cloth_294 : decode cL_cloth 294 = .ok (.istore 8, 2) := by decide +kernel
theorem dL_cloth_296 : decode cL_cloth 296 = .ok (.iload 8, 2) := by decide +kernel
theorem dL_cloth_298 : decode cL_cloth 298 = .ok (.iconst 5, 1) := by decide +kernel
theorem dL_cloth_299 : decode cL_cloth 299 = .ok (.if_icmp .ge 22, 3) := by decide +kernel
theorem dL_cloth_302 : decode cL_cloth 302 = .ok (.aload 7, 2) := by decide +kernel
theorem dL_cloth_304 : decode cL_cloth 304 = .ok (.iload 8, 2) := by decide +kernel
theorem dL_cloth_306 : decode cL_cloth 306 = .ok (.aload_n 3, 1) := by decide +kernel
theorem dL_cloth_307 : decode cL_cloth 307 = .ok (.iload 5, 2) := by decide +kernel
theorem dL_cloth_309 : decode cL_cloth 309 = .ok (.iload 8, 2) := by decide +kernel
theorem dL_cloth_311 : decode cL_cloth 311 = .ok (.invokestatic 130, 3) := by decide +kernel
theorem dL_cloth_314 : decode cL_cloth 314 = .ok (.iastore, 1) := by decide +kernel
theorem dL_cloth_315 : decode cL_cloth 315 = .ok (.iinc 8 1, 3) := by decide +kernel
theorem dL_cloth_318 : decode cL_cloth 318 = .ok (.goto (-22), 3) := by decide +kernel
theorem dL_cloth_321 : decode cL_cloth 321 = .ok (.iconst 0, 1) := by decide +kernel
theorem dL_cloth_322 : decode cL_cloth 322 = .ok (.istore 8, 2) := by decide +kernel
theorem dL_cloth_324 : decode cL_cloth 324 = .ok (.iload 8, 2) := by decide +kernel
theorem dL_cloth_326 : decode cL_cloth 326 = .ok (.bipush 25, 2) := by decide +kernel
theorem dL_cloth_328 : decode cL_cloth 328 = .ok (.if_icmp .ge 20, 3) := by decide +kernel
theorem dL_cloth_331 : decode cL_cloth 331 = .ok (.aload_n 3, 1) := by decide +kernel
theorem dL_cloth_332 : decode cL_cloth 332 = .ok (.bipush 25, 2) := by decide +kernel
theorem dL_cloth_334 : decode cL_cloth 334 = .ok (.iload 5, 2) := by decide +kernel
theorem dL_cloth_336 : decode cL_cloth 336 = .ok (.imul, 1) := by decide +kernel
theorem dL_cloth_337 : decode cL_cloth 337 = .ok (.iload 8, 2) := by decide +kernel
theorem dL_cloth_339 : decode cL_cloth 339 = .ok (.iadd, 1) := by decide +kernel
theorem dL_cloth_340 : decode cL_cloth 340 = .ok (.iconst 0, 1) := by decide +kernel
theorem dL_cloth_341 : decode cL_cloth 341 = .ok (.iastore, 1) := by decide +kernel
theorem dL_cloth_342 : decode cL_cloth 342 = .ok (.iinc 8 1, 3) := by decide +kernel
theorem dL_cloth_345 : decode cL_cloth 345 = .ok (.goto (-21), 3) := by decide +kernel
theorem dL_cloth_348 : decode cL_cloth 348 = .ok (.iconst 0, 1) := by decide +kernel
theorem dL_cloth_349 : decode cL_cloth 349 = .ok (.istore 8, 2) := by decide +kernel
theorem dL_cloth_351 : decode cL_cloth 351 = .ok (.iload 8, 2) := by decide +kernel
theorem dL_cloth_353 : decode cL_cloth 353 = .ok (.iconst 5, 1) := by decide +kernel
theorem dL_cloth_354 : decode cL_cloth 354 = .ok (.if_icmp .ge 126, 3) := by decide +kernel
theorem dL_cloth_357 : decode cL_cloth 357 = .ok (.iconst 0, 1) := by decide +kernel
theorem dL_cloth_358 : decode cL_cloth 358 = .ok (.istore 9, 2) := by decide +kernel
theorem dL_cloth_360 : decode cL_cloth 360 = .ok (.iload 9, 2) := by decide +kernel
theorem dL_cloth_362 : decode cL_cloth 362 = .ok (.iconst 5, 1) := by decide +kernel
theorem dL_cloth_363 : decode cL_cloth 363 = .ok (.if_icmp .ge 111, 3) := by decide +kernel
theorem dL_cloth_366 : decode cL_cloth 366 = .ok (.aload 7, 2) := by decide +kernel
theorem dL_cloth_368 : decode cL_cloth 368 = .ok (.iload 8, 2) := by decide +kernel
theorem dL_cloth_370 : decode cL_cloth 370 = .ok (.iaload, 1) := by decide +kernel
theorem dL_cloth_371 : decode cL_cloth 371 = .ok (.ifCond .ge 42, 3) := by decide +kernel
theorem dL_cloth_374 : decode cL_cloth 374 = .ok (.aload 7, 2) := by decide +kernel
theorem dL_cloth_376 : decode cL_cloth 376 = .ok (.iload 9, 2) := by decide +kernel
theorem dL_cloth_378 : decode cL_cloth 378 = .ok (.iaload, 1) := by decide +kernel
theorem dL_cloth_379 : decode cL_cloth 379 = .ok (.ifCond .le 34, 3) := by decide +kernel
theorem dL_cloth_382 : decode cL_cloth 382 = .ok (.aload 7, 2) := by decide +kernel
theorem dL_cloth_384 : decode cL_cloth 384 = .ok (.iload 9, 2) := by decide +kernel
theorem dL_cloth_386 : decode cL_cloth 386 = .ok (.iaload, 1) := by decide +kernel
theorem dL_cloth_387 : decode cL_cloth 387 = .ok (.aload 7, 2) := by decide +kernel
theorem dL_cloth_389 : decode cL_cloth 389 = .ok (.iload 8, 2) := by decide +kernel
theorem dL_cloth_391 : decode cL_cloth 391 = .ok (.iaload, 1) := by decide +kernel
theorem dL_cloth_392 : decode cL_cloth 392 = .ok (.iadd, 1) := by decide +kernel
theorem dL_cloth_393 : decode cL_cloth 393 = .ok (.ifCond .le 12, 3) := by decide +kernel
theorem dL_cloth_396 : decode cL_cloth 396 = .ok (.aload 7, 2) := by decide +kernel
theorem dL_cloth_398 : decode cL_cloth 398 = .ok (.iload 8, 2) := by decide +kernel
theorem dL_cloth_400 : decode cL_cloth 400 = .ok (.iaload, 1) := by decide +kernel
theorem dL_cloth_401 : decode cL_cloth 401 = .ok (.ineg, 1) := by decide +kernel
theorem dL_cloth_402 : decode cL_cloth 402 = .ok (.goto 12, 3) := by decide +kernel
theorem dL_cloth_405 : decode cL_cloth 405 = .ok (.aload 7, 2) := by decide +kernel
theorem dL_cloth_407 : decode cL_cloth 407 = .ok (.iload 9, 2) := by decide +kernel
theorem dL_cloth_409 : decode cL_cloth 409 = .ok (.iaload, 1) := by decide +kernel
theorem dL_cloth_410 : decode cL_cloth 410 = .ok (.goto 4, 3) := by decide +kernel
theorem dL_cloth_413 : decode cL_cloth 413 = .ok (.iconst 0, 1) := by decide +kernel
theorem dL_cloth_414 : decode cL_cloth 414 = .ok (.istore 10, 2) := by decide +kernel
theorem dL_cloth_416 : decode cL_cloth 416 = .ok (.aload_n 3, 1) := by decide +kernel
theorem dL_cloth_417 : decode cL_cloth 417 = .ok (.bipush 25, 2) := by decide +kernel
theorem dL_cloth_419 : decode cL_cloth 419 = .ok (.iload 5, 2) := by decide +kernel
theorem dL_cloth_421 : decode cL_cloth 421 = .ok (.imul, 1) := by decide +kernel
theorem dL_cloth_422 : decode cL_cloth 422 = .ok (.iconst 5, 1) := by decide +kernel
theorem dL_cloth_423 : decode cL_cloth 423 = .ok (.iload 8, 2) := by decide +kernel
theorem dL_cloth_425 : decode cL_cloth 425 = .ok (.imul, 1) := by decide +kernel
theorem dL_cloth_426 : decode cL_cloth 426 = .ok (.iadd, 1) := by decide +kernel
theorem dL_cloth_427 : decode cL_cloth 427 = .ok (.iload 9, 2) := by decide +kernel
theorem dL_cloth_429 : decode cL_cloth 429 = .ok (.iadd, 1) := by decide +kernel
theorem dL_cloth_430 : decode cL_cloth 430 = .ok (.iload 10, 2) := by decide +kernel
theorem dL_cloth_432 : decode cL_cloth 432 = .ok (.iastore, 1) := by decide +kernel
theorem dL_cloth_433 : decode cL_cloth 433 = .ok (.aload 7, 2) := by decide +kernel
theorem dL_cloth_435 : decode cL_cloth 435 = .ok (.iload 8, 2) := by decide +kernel
theorem dL_cloth_437 : decode cL_cloth 437 = .ok (.dup2, 1) := by decide +kernel
theorem dL_cloth_438 : decode cL_cloth 438 = .ok (.iaload, 1) := by decide +kernel
theorem dL_cloth_439 : decode cL_cloth 439 = .ok (.iload 10, 2) := by decide +kernel
theorem dL_cloth_441 : decode cL_cloth 441 = .ok (.iadd, 1) := by decide +kernel
theorem dL_cloth_442 : decode cL_cloth 442 = .ok (.iastore, 1) := by decide +kernel
theorem dL_cloth_443 : decode cL_cloth 443 = .ok (.aload 7, 2) := by decide +kernel
theorem dL_cloth_445 : decode cL_cloth 445 = .ok (.iload 9, 2) := by decide +kernel
theorem dL_cloth_447 : decode cL_cloth 447 = .ok (.dup2, 1) := by decide +kernel
theorem dL_cloth_448 : decode cL_cloth 448 = .ok (.iaload, 1) := by decide +kernel
theorem dL_cloth_449 : decode cL_cloth 449 = .ok (.iload 10, 2) := by decide +kernel
theorem dL_cloth_451 : decode cL_cloth 451 = .ok (.isub, 1) := by decide +kernel
theorem dL_cloth_452 : decode cL_cloth 452 = .ok (.iastore, 1) := by decide +kernel
theorem dL_cloth_453 : decode cL_cloth 453 = .ok (.iload 6, 2) := by decide +kernel
theorem dL_cloth_455 : decode cL_cloth 455 = .ok (.iload 10, 2) := by decide +kernel
theorem dL_cloth_457 : decode cL_cloth 457 = .ok (.ifCond .le 7, 3) := by decide +kernel
theorem dL_cloth_460 : decode cL_cloth 460 = .ok (.iconst 1, 1) := by decide +kernel
theorem dL_cloth_461 : decode cL_cloth 461 = .ok (.goto 4, 3) := by decide +kernel
theorem dL_cloth_464 : decode cL_cloth 464 = .ok (.iconst 0, 1) := by decide +kernel
theorem dL_cloth_465 : decode cL_cloth 465 = .ok (.iadd, 1) := by decide +kernel
theorem dL_cloth_466 : decode cL_cloth 466 = .ok (.istore 6, 2) := by decide +kernel
theorem dL_cloth_468 : decode cL_cloth 468 = .ok (.iinc 9 1, 3) := by decide +kernel
theorem dL_cloth_471 : decode cL_cloth 471 = .ok (.goto (-111), 3) := by decide +kernel
theorem dL_cloth_474 : decode cL_cloth 474 = .ok (.iinc 8 1, 3) := by decide +kernel
theorem dL_cloth_477 : decode cL_cloth 477 = .ok (.goto (-126), 3) := by decide +kernel
theorem dL_cloth_480 : decode cL_cloth 480 = .ok (.aload_n 0, 1) := by decide +kernel
theorem dL_cloth_481 : decode cL_cloth 481 = .ok (.iconst 3, 1) := by decide +kernel
theorem dL_cloth_482 : decode cL_cloth 482 = .ok (.iload 5, 2) := by decide +kernel
theorem dL_cloth_484 : decode cL_cloth 484 = .ok (.invokestatic 108, 3) := by decide +kernel
theorem dL_cloth_487 : decode cL_cloth 487 = .ok (.iload 5, 2) := by decide +kernel
theorem dL_cloth_489 : decode cL_cloth 489 = .ok (.iconst 3, 1) := by decide +kernel
theorem dL_cloth_490 : decode cL_cloth 490 = .ok (.if_icmp .ge 8, 3) := by decide +kernel
theorem dL_cloth_493 : decode cL_cloth 493 = .ok (.iload 6, 2) := by decide +kernel
theorem dL_cloth_495 : decode cL_cloth 495 = .ok (.goto 5, 3) := by decide +kernel
theorem dL_cloth_498 : decode cL_cloth 498 = .ok (.bipush (-101), 2) := by decide +kernel
theorem dL_cloth_500 : decode cL_cloth 500 = .ok (.if_icmp .ne 7, 3) := by decide +kernel
theorem dL_cloth_503 : decode cL_cloth 503 = .ok (.iconst 1, 1) := by decide +kernel
theorem dL_cloth_504 : decode cL_cloth 504 = .ok (.goto 4, 3) := by decide +kernel
theorem dL_cloth_507 : decode cL_cloth 507 = .ok (.iconst 0, 1) := by decide +kernel
theorem dL_cloth_508 : decode cL_cloth 508 = .ok (.ireturn, 1) := by decide +kernel
theorem dL_asks_0 : decode cL_asks 0 = .ok (.iconst 2, 1) := by decide +kernel
theorem dL_asks_1 : decode cL_asks 1 = .ok (.iload_n 1, 1) := by decide +kernel
theorem dL_asks_2 : decode cL_asks 2 = .ok (.iconst 2, 1) := by decide +kernel
theorem dL_asks_3 : decode cL_asks 3 = .ok (.invokestatic 95, 3) := by decide +kernel
theorem dL_asks_6 : decode cL_asks 6 = .ok (.iadd, 1) := by decide +kernel
theorem dL_asks_7 : decode cL_asks 7 = .ok (.istore 10, 2) := by decide +kernel
theorem dL_asks_9 : decode cL_asks 9 = .ok (.iconst 0, 1) := by decide +kernel
theorem dL_asks_10 : decode cL_asks 10 = .ok (.istore 11, 2) := by decide +kernel
theorem dL_asks_12 : decode cL_asks 12 = .ok (.iload 11, 2) := by decide +kernel
theorem dL_asks_14 : decode cL_asks 14 = .ok (.aload_n 2, 1) := by decide +kernel
theorem dL_asks_15 : decode cL_asks 15 = .ok (.iconst 2, 1) := by decide +kernel
theorem dL_asks_16 : decode cL_asks 16 = .ok (.iaload, 1) := by decide +kernel
theorem dL_asks_17 : decode cL_asks 17 = .ok (.if_icmp .gt 128, 3) := by decide +kernel
theorem dL_asks_20 : decode cL_asks 20 = .ok (.iload 11, 2) := by decide +kernel
theorem dL_asks_22 : decode cL_asks 22 = .ok (.bipush 10, 2) := by decide +kernel
theorem dL_asks_24 : decode cL_asks 24 = .ok (.if_icmp .ge 8, 3) := by decide +kernel
theorem dL_asks_27 : decode cL_asks 27 = .ok (.aload 5, 2) := by decide +kernel
theorem dL_asks_29 : decode cL_asks 29 = .ok (.goto 5, 3) := by decide +kernel
theorem dL_asks_32 : decode cL_asks 32 = .ok (.aload 6, 2) := by decide +kernel
theorem dL_asks_34 : decode cL_asks 34 = .ok (.astore 12, 2) := by decide +kernel
theorem dL_asks_36 : decode cL_asks 36 = .ok (.iload 11, 2) := by decide +kernel
theorem dL_asks_38 : decode cL_asks 38 = .ok (.aload_n 2, 1) := by decide +kernel
theorem dL_asks_39 : decode cL_asks 39 = .ok (.iconst 2, 1) := by decide +kernel
theorem dL_asks_40 : decode cL_asks 40 = .ok (.iaload, 1) := by decide +kernel
theorem dL_asks_41 : decode cL_asks 41 = .ok (.if_icmp .ge 18, 3) := by decide +kernel
theorem dL_asks_44 : decode cL_asks 44 = .ok (.aload 12, 2) := by decide +kernel
theorem dL_asks_46 : decode cL_asks 46 = .ok (.iconst 5, 1) := by decide +kernel
theorem dL_asks_47 : decode cL_asks 47 = .ok (.iload 11, 2) := by decide +kernel
theorem dL_asks_49 : decode cL_asks 49 = .ok (.bipush 10, 2) := by decide +kernel
theorem dL_asks_51 : decode cL_asks 51 = .ok (.irem, 1) := by decide +kernel
theorem dL_asks_52 : decode cL_asks 52 = .ok (.imul, 1) := by decide +kernel
theorem dL_asks_53 : decode cL_asks 53 = .ok (.iconst 3, 1) := by decide +kernel
theorem dL_asks_54 : decode cL_asks 54 = .ok (.iadd, 1) := by decide +kernel
theorem dL_asks_55 : decode cL_asks 55 = .ok (.iaload, 1) := by decide +kernel
theorem dL_asks_56 : decode cL_asks 56 = .ok (.goto 5, 3) := by decide +kernel
theorem dL_asks_59 : decode cL_asks 59 = .ok (.bipush (-101), 2) := by decide +kernel
theorem dL_asks_61 : decode cL_asks 61 = .ok (.istore 13, 2) := by decide +kernel
theorem dL_asks_63 : decode cL_asks 63 = .ok (.iload_n 1, 1) := by decide +kernel
theorem dL_asks_64 : decode cL_asks 64 = .ok (.iconst 3, 1) := by decide +kernel
theorem dL_asks_65 : decode cL_asks 65 = .ok (.ishr, 1) := by decide +kernel
theorem dL_asks_66 : decode cL_asks 66 = .ok (.iconst 3, 1) := by decide +kernel
theorem dL_asks_67 : decode cL_asks 67 = .ok (.invokestatic 95, 3) := by decide +kernel
theorem dL_asks_70 : decode cL_asks 70 = .ok (.istore 14, 2) := by decide +kernel
theorem dL_asks_72 : decode cL_asks 72 = .ok (.iload 13, 2) := by decide +kernel
theorem dL_asks_74 : decode cL_asks 74 = .ok (.ifCond .lt 9, 3) := by decide +kernel
theorem dL_asks_77 : decode cL_asks 77 = .ok (.iload 14, 2) := by decide +kernel
theorem dL_asks_79 : decode cL_asks 79 = .ok (.iconst 1, 1) := by decide +kernel
theorem dL_asks_80 : decode cL_asks 80 = .ok (.if_icmp .le 8, 3) := by decide +kernel
theorem dL_asks_83 : decode cL_asks 83 = .ok (.bipush (-101), 2) := by decide +kernel
theorem dL_asks_85 : decode cL_asks 85 = .ok (.goto 23, 3) := by decide +kernel
theorem dL_asks_88 : decode cL_asks 88 = .ok (.iload 13, 2) := by decide +kernel
theorem dL_asks_90 : decode cL_asks 90 = .ok (.ifCond .ne 8, 3) := by decide +kernel
theorem dL_asks_93 : decode cL_asks 93 = .ok (.bipush (-102), 2) := by decide +kernel
theorem dL_asks_95 : decode cL_asks 95 = .ok (.goto 13, 3) := by decide +kernel
theorem dL_asks_98 : decode cL_asks 98 = .ok (.aload 7, 2) := by decide +kernel
theorem dL_asks_100 : decode cL_asks 100 = .ok (.iconst 3, 1) := by decide +kernel
theorem dL_asks_101 : decode cL_asks 101 = .ok (.iload 11, 2) := by decide +kernel
theorem dL_asks_103 : decode cL_asks 103 = .ok (.imul, 1) := by decide +kernel
theorem dL_asks_104 : decode cL_asks 104 = .ok (.iload 14, 2) := by decide +kernel
theorem dL_asks_106 : decode cL_asks 106 = .ok (.iadd, 1) := by decide +kernel
theorem dL_asks_107 : decode cL_asks 107 = .ok (.iaload, 1) := by decide +kernel
theorem dL_asks_108 : decode cL_asks 108 = .ok (.istore 15, 2) := by decide +kernel
theorem dL_asks_110 : decode cL_asks 110 = .ok (.aload_n 0, 1) := by decide +kernel
theorem dL_asks_111 : decode cL_asks 111 = .ok (.iconst 2, 1) := by decide +kernel
theorem dL_asks_112 : decode cL_asks 112 = .ok (.iload 11, 2) := by decide +kernel
theorem dL_asks_114 : decode cL_asks 114 = .ok (.invokestatic 108, 3) := by decide +kernel
theorem dL_asks_117 : decode cL_asks 117 = .ok (.iload 13, 2) := by decide +kernel
theorem dL_asks_119 : decode cL_asks 119 = .ok (.if_icmp .ne 18, 3) := by decide +kernel
theorem dL_asks_122 : decode cL_asks 122 = .ok (.aload_n 0, 1) := by decide +kernel
theorem dL_asks_123 : decode cL_asks 123 = .ok (.iload 10, 2) := by decide +kernel
theorem dL_asks_125 : decode cL_asks 125 = .ok (.iload 11, 2) := by decide +kernel
theorem dL_asks_127 : decode cL_asks 127 = .ok (.iload 14, 2) := by decide +kernel
theorem dL_asks_129 : decode cL_asks 129 = .ok (.invokestatic 123, 3) := by decide +kernel
theorem dL_asks_132 : decode cL_asks 132 = .ok (.iload 15, 2) := by decide +kernel
theorem dL_asks_134 : decode cL_asks 134 = .ok (.if_icmp .eq 5, 3) := by decide +kernel
theorem dL_asks_137 : decode cL_asks 137 = .ok (.iconst 0, 1) := by decide +kernel
theorem dL_asks_138 : decode cL_asks 138 = .ok (.ireturn, 1) := by decide +kernel
theorem dL_asks_139 : decode cL_asks 139 = .ok (.iinc 11 1, 3) := by decide +kernel
theorem dL_asks_142 : decode cL_asks 142 = .ok (.goto (-130), 3) := by decide +kernel
theorem dL_asks_145 : decode cL_asks 145 = .ok (.iconst 0, 1) := by decide +kernel
theorem dL_asks_146 : decode cL_asks 146 = .ok (.istore 11, 2) := by decide +kernel
theorem dL_asks_148 : decode cL_asks 148 = .ok (.iload 11, 2) := by decide +kernel
theorem dL_asks_150 : decode cL_asks 150 = .ok (.aload_n 2, 1) := by decide +kernel
theorem dL_asks_151 : decode cL_asks 151 = .ok (.iconst 1, 1) := by decide +kernel
theorem dL_asks_152 : decode cL_asks 152 = .ok (.iaload, 1) := by decide +kernel
theorem dL_asks_153 : decode cL_asks 153 = .ok (.if_icmp .gt 43, 3) := by decide +kernel
theorem dL_asks_156 : decode cL_asks 156 = .ok (.aload_n 0, 1) := by decide +kernel
theorem dL_asks_157 : decode cL_asks 157 = .ok (.iconst 1, 1) := by decide +kernel
theorem dL_asks_158 : decode cL_asks 158 = .ok (.iload 11, 2) := by decide +kernel
theorem dL_asks_160 : decode cL_asks 160 = .ok (.invokestatic 108, 3) := by decide +kernel
theorem dL_asks_163 : decode cL_asks 163 = .ok (.iload 11, 2) := by decide +kernel
theorem dL_asks_165 : decode cL_asks 165 = .ok (.aload_n 2, 1) := by decide +kernel
theorem dL_asks_166 : decode cL_asks 166 = .ok (.iconst 1, 1) := by decide +kernel
theorem dL_asks_167 : decode cL_asks 167 = .ok (.iaload, 1) := by decide +kernel
theorem dL_asks_168 : decode cL_asks 168 = .ok (.if_icmp .ge 15, 3) := by decide +kernel
theorem dL_asks_171 : decode cL_asks 171 = .ok (.aload 4, 2) := by decide +kernel
theorem dL_asks_173 : decode cL_asks 173 = .ok (.iconst 3, 1) := by decide +kernel
theorem dL_asks_174 : decode cL_asks 174 = .ok (.iload 11, 2) := by decide +kernel
theorem dL_asks_176 : decode cL_asks 176 = .ok (.imul, 1) := by decide +kernel
theorem dL_asks_177 : decode cL_asks 177 = .ok (.iconst 2, 1) := by decide +kernel
theorem dL_asks_178 : decode cL_asks 178 = .ok (.iadd, 1) := by decide +kernel
theorem dL_asks_179 : decode cL_asks 179 = .ok (.iaload, 1) := by decide +kernel
theorem dL_asks_180 : decode cL_asks 180 = .ok (.goto 5, 3) := by decide +kernel
theorem dL_asks_183 : decode cL_asks 183 = .ok (.bipush (-101), 2) := by decide +kernel
theorem dL_asks_185 : decode cL_asks 185 = .ok (.if_icmp .eq 5, 3) := by decide +kernel
theorem dL_asks_188 : decode cL_asks 188 = .ok (.iconst 0, 1) := by decide +kernel
theorem dL_asks_189 : decode cL_asks 189 = .ok (.ireturn, 1) := by decide +kernel
theorem dL_asks_190 : decode cL_asks 190 = .ok (.iinc 11 1, 3) := by decide +kernel
theorem dL_asks_193 : decode cL_asks 193 = .ok (.goto (-45), 3) := by decide +kernel
theorem dL_asks_196 : decode cL_asks 196 = .ok (.iload_n 1, 1) := by decide +kernel
theorem dL_asks_197 : decode cL_asks 197 = .ok (.iconst 5, 1) := by decide +kernel
theorem dL_asks_198 : decode cL_asks 198 = .ok (.ishr, 1) := by decide +kernel
theorem dL_asks_199 : decode cL_asks 199 = .ok (.iconst 4, 1) := by decide +kernel
theorem dL_asks_200 : decode cL_asks 200 = .ok (.invokestatic 95, 3) := by decide +kernel
theorem dL_asks_203 : decode cL_asks 203 = .ok (.istore 11, 2) := by decide +kernel
theorem dL_asks_205 : decode cL_asks 205 = .ok (.iload_n 1, 1) := by decide +kernel
theorem dL_asks_206 : decode cL_asks 206 = .ok (.bipush 7, 2) := by decide +kernel
theorem dL_asks_208 : decode cL_asks 208 = .ok (.ishr, 1) := by decide +kernel
theorem dL_asks_209 : decode cL_asks 209 = .ok (.iconst 4, 1) := by decide +kernel
theorem dL_asks_210 : decode cL_asks 210 = .ok (.invokestatic 95, 3) := by decide +kernel
theorem dL_asks_213 : decode cL_asks 213 = .ok (.istore 12, 2) := by decide +kernel
theorem dL_asks_215 : decode cL_asks 215 = .ok (.iload_n 1, 1) := by decide +kernel
theorem dL_asks_216 : decode cL_asks 216 = .ok (.iconst 4, 1) := by decide +kernel
theorem dL_asks_217 : decode cL_asks 217 = .ok (.ishr, 1) := by decide +kernel
theorem dL_asks_218 : decode cL_asks 218 = .ok (.aload_n 2, 1) := by decide +kernel
theorem dL_asks_219 : decode cL_asks 219 = .ok (.iconst 0, 1) := by decide +kernel
theorem dL_asks_220 : decode cL_asks 220 = .ok (.iaload, 1) := by decide +kernel
theorem dL_asks_221 : decode cL_asks 221 = .ok (.iconst 1, 1) := by decide +kernel
theorem dL_asks_222 : decode cL_asks 222 = .ok (.iadd, 1) := by decide +kernel
theorem dL_asks_223 : decode cL_asks 223 = .ok (.invokestatic 95, 3) := by decide +kernel
theorem dL_asks_226 : decode cL_asks 226 = .ok (.istore 13, 2) := by decide +kernel
theorem dL_asks_228 : decode cL_asks 228 = .ok (.iload_n 1, 1) := by decide +kernel
theorem dL_asks_229 : decode cL_asks 229 = .ok (.bipush 6, 2) := by decide +kernel
theorem dL_asks_231 : decode cL_asks 231 = .ok (.ishr, 1) := by decide +kernel
theorem dL_asks_232 : decode cL_asks 232 = .ok (.aload_n 2, 1) := by decide +kernel
theorem dL_asks_233 : decode cL_asks 233 = .ok (.iconst 0, 1) := by decide +kernel
theorem dL_asks_234 : decode cL_asks 234 = .ok (.iaload, 1) := by decide +kernel
theorem dL_asks_235 : decode cL_asks 235 = .ok (.iconst 1, 1) := by decide +kernel
theorem dL_asks_236 : decode cL_asks 236 = .ok (.iadd, 1) := by decide +kernel
theorem dL_asks_237 : decode cL_asks 237 = .ok (.invokestatic 95, 3) := by decide +kernel
theorem dL_asks_240 : decode cL_asks 240 = .ok (.istore 14, 2) := by decide +kernel
theorem dL_asks_242 : decode cL_asks 242 = .ok (.iload 13, 2) := by decide +kernel
theorem dL_asks_244 : decode cL_asks 244 = .ok (.aload_n 2, 1) := by decide +kernel
theorem dL_asks_245 : decode cL_asks 245 = .ok (.iconst 0, 1) := by decide +kernel
theorem dL_asks_246 : decode cL_asks 246 = .ok (.iaload, 1) := by decide +kernel
theorem dL_asks_247 : decode cL_asks 247 = .ok (.if_icmp .ge 15, 3) := by decide +kernel
theorem dL_asks_250 : decode cL_asks 250 = .ok (.iload 14, 2) := by decide +kernel
theorem dL_asks_252 : decode cL_asks 252 = .ok (.aload_n 2, 1) := by decide +kernel
theorem dL_asks_253 : decode cL_asks 253 = .ok (.iconst 0, 1) := by decide +kernel
theorem dL_asks_254 : decode cL_asks 254 = .ok (.iaload, 1) := by decide +kernel
theorem dL_asks_255 : decode cL_asks 255 = .ok (.if_icmp .ge 7, 3) := by decide +kernel
theorem dL_asks_258 : decode cL_asks 258 = .ok (.iconst 1, 1) := by decide +kernel
theorem dL_asks_259 : decode cL_asks 259 = .ok (.goto 4, 3) := by decide +kernel
theorem dL_asks_262 : decode cL_asks 262 = .ok (.iconst 0, 1) := by decide +kernel
theorem dL_asks_263 : decode cL_asks 263 = .ok (.istore 15, 2) := by decide +kernel
theorem dL_asks_265 : decode cL_asks 265 = .ok (.iload_n 1, 1) := by decide +kernel
theorem dL_asks_266 : decode cL_asks 266 = .ok (.bipush 8, 2) := by decide +kernel
theorem dL_asks_268 : decode cL_asks 268 = .ok (.ishr, 1) := by decide +kernel
theorem dL_asks_269 : decode cL_asks 269 = .ok (.iconst 2, 1) := by decide +kernel
theorem dL_asks_270 : decode cL_asks 270 = .ok (.invokestatic 95, 3) := by decide +kernel
theorem dL_asks_273 : decode cL_asks 273 = .ok (.istore 16, 2) := by decide +kernel
theorem dL_asks_275 : decode cL_asks 275 = .ok (.iload_n 1, 1) := by decide +kernel
theorem dL_asks_276 : decode cL_asks 276 = .ok (.iconst 3, 1) := by decide +kernel
theorem dL_asks_277 : decode cL_asks 277 = .ok (.ishr, 1) := by decide +kernel
theorem dL_asks_278 : decode cL_asks 278 = .ok (.bipush 6, 2) := by decide +kernel
theorem dL_asks_280 : decode cL_asks 280 = .ok (.invokestatic 95, 3) := by decide +kernel
theorem dL_asks_283 : decode cL_asks 283 = .ok (.istore 17, 2) := by decide +kernel
theorem dL_asks_285 : decode cL_asks 285 = .ok (.iload_n 1, 1) := by decide +kernel
theorem dL_asks_286 : decode cL_asks 286 = .ok (.bipush 9, 2) := by decide +kernel
theorem dL_asks_288 : decode cL_asks 288 = .ok (.ishr, 1) := by decide +kernel
theorem dL_asks_289 : decode cL_asks 289 = .ok (.bipush 6, 2) := by decide +kernel
theorem dL_asks_291 : decode cL_asks 291 = .ok (.invokestatic 95, 3) := by decide +kernel
theorem dL_asks_294 : decode cL_asks 294 = .ok (.istore 18, 2) := by decide +kernel
theorem dL_asks_296 : decode cL_asks 296 = .ok (.iload 17, 2) := by decide +kernel
theorem dL_asks_298 : decode cL_asks 298 = .ok (.iconst 5, 1) := by decide +kernel
theorem dL_asks_299 : decode cL_asks 299 = .ok (.if_icmp .ge 13, 3) := by decide +kernel
theorem dL_asks_302 : decode cL_asks 302 = .ok (.iload 18, 2) := by decide +kernel
theorem dL_asks_304 : decode cL_asks 304 = .ok (.iconst 5, 1) := by decide +kernel
theorem dL_asks_305 : decode cL_asks 305 = .ok (.if_icmp .ge 7, 3) := by decide +kernel
theorem dL_asks_308 : decode cL_asks 308 = .ok (.iconst 1, 1) := by decide +kernel
theorem dL_asks_309 : decode cL_asks 309 = .ok (.goto 4, 3) := by decide +kernel
theorem dL_asks_312 : decode cL_asks 312 = .ok (.iconst 0, 1) := by decide +kernel
theorem dL_asks_313 : decode cL_asks 313 = .ok (.istore 19, 2) := by decide +kernel
theorem dL_asks_315 : decode cL_asks 315 = .ok (.aload_n 0, 1) := by decide +kernel
theorem dL_asks_316 : decode cL_asks 316 = .ok (.iconst 4, 1) := by decide +kernel
theorem dL_asks_317 : decode cL_asks 317 = .ok (.iload 11, 2) := by decide +kernel
theorem dL_asks_319 : decode cL_asks 319 = .ok (.iload 12, 2) := by decide +kernel
theorem dL_asks_321 : decode cL_asks 321 = .ok (.invokestatic 102, 3) := by decide +kernel
theorem dL_asks_324 : decode cL_asks 324 = .ok (.iload 11, 2) := by decide +kernel
theorem dL_asks_326 : decode cL_asks 326 = .ok (.iconst 2, 1) := by decide +kernel
theorem dL_asks_327 : decode cL_asks 327 = .ok (.if_icmp .le 8, 3) := by decide +kernel
theorem dL_asks_330 : decode cL_asks 330 = .ok (.bipush (-101), 2) := by decide +kernel
theorem dL_asks_332 : decode cL_asks 332 = .ok (.goto 24, 3) := by decide +kernel
theorem dL_asks_335 : decode cL_asks 335 = .ok (.iload 12, 2) := by decide +kernel
theorem dL_asks_337 : decode cL_asks 337 = .ok (.iconst 2, 1) := by decide +kernel
theorem dL_asks_338 : decode cL_asks 338 = .ok (.if_icmp .le 8, 3) := by decide +kernel
theorem dL_asks_341 : decode cL_asks 341 = .ok (.bipush (-102), 2) := by decide +kernel
theorem dL_asks_343 : decode cL_asks 343 = .ok (.goto 13, 3) := by decide +kernel
theorem dL_asks_346 : decode cL_asks 346 = .ok (.aload 8, 2) := by decide +kernel
theorem dL_asks_348 : decode cL_asks 348 = .ok (.iconst 3, 1) := by decide +kernel
theorem dL_asks_349 : decode cL_asks 349 = .ok (.iload 11, 2) := by decide +kernel
theorem dL_asks_351 : decode cL_asks 351 = .ok (.imul, 1) := by decide +kernel
theorem dL_asks_352 : decode cL_asks 352 = .ok (.iload 12, 2) := by decide +kernel
theorem dL_asks_354 : decode cL_asks 354 = .ok (.iadd, 1) := by decide +kernel
theorem dL_asks_355 : decode cL_asks 355 = .ok (.iaload, 1) := by decide +kernel
theorem dL_asks_356 : decode cL_asks 356 = .ok (.if_icmp .ne 133, 3) := by decide +kernel
theorem dL_asks_359 : decode cL_asks 359 = .ok (.aload_n 0, 1) := by decide +kernel
theorem dL_asks_360 : decode cL_asks 360 = .ok (.iconst 5, 1) := by decide +kernel
theorem dL_asks_361 : decode cL_asks 361 = .ok (.iload 13, 2) := by decide +kernel
theorem dL_asks_363 : decode cL_asks 363 = .ok (.iload 14, 2) := by decide +kernel
theorem dL_asks_365 : decode cL_asks 365 = .ok (.invokestatic 102, 3) := by decide +kernel
theorem dL_asks_368 : decode cL_asks 368 = .ok (.iload 15, 2) := by decide +kernel
theorem dL_asks_370 : decode cL_asks 370 = .ok (.ifCond .eq 26, 3) := by decide +kernel
theorem dL_asks_373 : decode cL_asks 373 = .ok (.aload_n 3, 1) := by decide +kernel
theorem dL_asks_374 : decode cL_asks 374 = .ok (.iload 13, 2) := by decide +kernel
theorem dL_asks_376 : decode cL_asks 376 = .ok (.aload_n 3, 1) := by decide +kernel
theorem dL_asks_377 : decode cL_asks 377 = .ok (.iconst 3, 1) := by decide +kernel
theorem dL_asks_378 : decode cL_asks 378 = .ok (.iload 14, 2) := by decide +kernel
theorem dL_asks_380 : decode cL_asks 380 = .ok (.imul, 1) := by decide +kernel
theorem dL_asks_381 : decode cL_asks 381 = .ok (.iaload, 1) := by decide +kernel
theorem dL_asks_382 : decode cL_asks 382 = .ok (.aload_n 3, 1) := by decide +kernel
theorem dL_asks_383 : decode cL_asks 383 = .ok (.iconst 3, 1) := by decide +kernel
theorem dL_asks_384 : decode cL_asks 384 = .ok (.iload 14, 2) := by decide +kernel
theorem dL_asks_386 : decode cL_asks 386 = .ok (.imul, 1) := by decide +kernel
theorem dL_asks_387 : decode cL_asks 387 = .ok (.iconst 1, 1) := by decide +kernel
theorem dL_asks_388 : decode cL_asks 388 = .ok (.iadd, 1) := by decide +kernel
theorem dL_asks_389 : decode cL_asks 389 = .ok (.iaload, 1) := by decide +kernel
theorem dL_asks_390 : decode cL_asks 390 = .ok (.invokestatic 19, 3) := by decide +kernel
theorem dL_asks_393 : decode cL_asks 393 = .ok (.goto 5, 3) := by decide +kernel
theorem dL_asks_396 : decode cL_asks 396 = .ok (.bipush (-101), 2) := by decide +kernel
theorem dL_asks_398 : decode cL_asks 398 = .ok (.if_icmp .ne 91, 3) := by decide +kernel
theorem dL_asks_401 : decode cL_asks 401 = .ok (.aload_n 0, 1) := by decide +kernel
theorem dL_asks_402 : decode cL_asks 402 = .ok (.iconst 0, 1) := by decide +kernel
theorem dL_asks_403 : decode cL_asks 403 = .ok (.iload 17, 2) := by decide +kernel
theorem dL_asks_405 : decode cL_asks 405 = .ok (.iload 18, 2) := by decide +kernel
theorem dL_asks_407 : decode cL_asks 407 = .ok (.iload 16, 2) := by decide +kernel
theorem dL_asks_409 : decode cL_asks 409 = .ok (.invokestatic 133, 3) := by decide +kernel
theorem dL_asks_412 : decode cL_asks 412 = .ok (.iload 19, 2) := by decide +kernel
theorem dL_asks_414 : decode cL_asks 414 = .ok (.ifCond .eq 22, 3) := by decide +kernel
theorem dL_asks_417 : decode cL_asks 417 = .ok (.aload 9, 2) := by decide +kernel
theorem dL_asks_419 : decode cL_asks 419 = .ok (.bipush 25, 2) := by decide +kernel
theorem dL_asks_421 : decode cL_asks 421 = .ok (.iload 16, 2) := by decide +kernel
theorem dL_asks_423 : decode cL_asks 423 = .ok (.imul, 1) := by decide +kernel
theorem dL_asks_424 : decode cL_asks 424 = .ok (.iconst 5, 1) := by decide +kernel
theorem dL_asks_425 : decode cL_asks 425 = .ok (.iload 17, 2) := by decide +kernel
theorem dL_asks_427 : decode cL_asks 427 = .ok (.imul, 1) := by decide +kernel
theorem dL_asks_428 : decode cL_asks 428 = .ok (.iadd, 1) := by decide +kernel
theorem dL_asks_429 : decode cL_asks 429 = .ok (.iload 18, 2) := by decide +kernel
theorem dL_asks_431 : decode cL_asks 431 = .ok (.iadd, 1) := by decide +kernel
theorem dL_asks_432 : decode cL_asks 432 = .ok (.iaload, 1) := by decide +kernel
theorem dL_asks_433 : decode cL_asks 433 = .ok (.goto 5, 3) := by decide +kernel
theorem dL_asks_436 : decode cL_asks 436 = .ok (.ldc 94, 2) := by decide +kernel
theorem dL_asks_438 : decode cL_asks 438 = .ok (.if_icmp .ne 51, 3) := by decide +kernel
theorem dL_asks_441 : decode cL_asks 441 = .ok (.aload_n 0, 1) := by decide +kernel
theorem dL_asks_442 : decode cL_asks 442 = .ok (.iconst 1, 1) := by decide +kernel
theorem dL_asks_443 : decode cL_asks 443 = .ok (.iload 17, 2) := by decide +kernel
theorem dL_asks_445 : decode cL_asks 445 = .ok (.iconst 0, 1) := by decide +kernel
theorem dL_asks_446 : decode cL_asks 446 = .ok (.iload 16, 2) := by decide +kernel
theorem dL_asks_448 : decode cL_asks 448 = .ok (.invokestatic 133, 3) := by decide +kernel
theorem dL_asks_451 : decode cL_asks 451 = .ok (.iload 17, 2) := by decide +kernel
theorem dL_asks_453 : decode cL_asks 453 = .ok (.iconst 5, 1) := by decide +kernel
theorem dL_asks_454 : decode cL_asks 454 = .ok (.if_icmp .ge 15, 3) := by decide +kernel
theorem dL_asks_457 : decode cL_asks 457 = .ok (.aload 9, 2) := by decide +kernel
theorem dL_asks_459 : decode cL_asks 459 = .ok (.iload 16, 2) := by decide +kernel
theorem dL_asks_461 : decode cL_asks 461 = .ok (.iload 17, 2) := by decide +kernel
theorem dL_asks_463 : decode cL_asks 463 = .ok (.invokestatic 130, 3) := by decide +kernel
theorem dL_asks_466 : decode cL_asks 466 = .ok (.goto 5, 3) := by decide +kernel
theorem dL_asks_469 : decode cL_asks 469 = .ok (.ldc 94, 2) := by decide +kernel
theorem dL_asks_471 : decode cL_asks 471 = .ok (.if_icmp .ne 18, 3) := by decide +kernel
theorem dL_asks_474 : decode cL_asks 474 = .ok (.aload_n 0, 1) := by decide +kernel
theorem dL_asks_475 : decode cL_asks 475 = .ok (.iconst 1, 1) := by decide +kernel
theorem dL_asks_476 : decode cL_asks 476 = .ok (.iconst (-1), 1) := by decide +kernel
theorem dL_asks_477 : decode cL_asks 477 = .ok (.invokestatic 108, 3) := by decide +kernel
theorem dL_asks_480 : decode cL_asks 480 = .ok (.bipush (-101), 2) := by decide +kernel
theorem dL_asks_482 : decode cL_asks 482 = .ok (.if_icmp .ne 7, 3) := by decide +kernel
theorem dL_asks_485 : decode cL_asks 485 = .ok (.iconst 1, 1) := by decide +kernel
theorem dL_asks_486 : decode cL_asks 486 = .ok (.goto 4, 3) := by decide +kernel
theorem dL_asks_489 : decode cL_asks 489 = .ok (.iconst 0, 1) := by decide +kernel
theorem dL_asks_490 : decode cL_asks 490 = .ok (.ireturn, 1) := by decide +kernel
theorem dL_law_0 : decode cL_law 0 = .ok (.new 24, 3) := by decide +kernel
theorem dL_law_3 : decode cL_law 3 = .ok (.dup, 1) := by decide +kernel
theorem dL_law_4 : decode cL_law 4 = .ok (.invokespecial 136, 3) := by decide +kernel
theorem dL_law_7 : decode cL_law 7 = .ok (.astore_n 1, 1) := by decide +kernel
theorem dL_law_8 : decode cL_law 8 = .ok (.iconst 3, 1) := by decide +kernel
theorem dL_law_9 : decode cL_law 9 = .ok (.newarray .int, 2) := by decide +kernel
theorem dL_law_11 : decode cL_law 11 = .ok (.astore_n 2, 1) := by decide +kernel
theorem dL_law_12 : decode cL_law 12 = .ok (.bipush 12, 2) := by decide +kernel
theorem dL_law_14 : decode cL_law 14 = .ok (.newarray .int, 2) := by decide +kernel
theorem dL_law_16 : decode cL_law 16 = .ok (.astore_n 3, 1) := by decide +kernel
theorem dL_law_17 : decode cL_law 17 = .ok (.bipush 11, 2) := by decide +kernel
theorem dL_law_19 : decode cL_law 19 = .ok (.newarray .int, 2) := by decide +kernel
theorem dL_law_21 : decode cL_law 21 = .ok (.astore 4, 2) := by decide +kernel
theorem dL_law_23 : decode cL_law 23 = .ok (.bipush 15, 2) := by decide +kernel
theorem dL_law_25 : decode cL_law 25 = .ok (.newarray .int, 2) := by decide +kernel
theorem dL_law_27 : decode cL_law 27 = .ok (.astore 5, 2) := by decide +kernel
theorem dL_law_29 : decode cL_law 29 = .ok (.bipush 50, 2) := by decide +kernel
theorem dL_law_31 : decode cL_law 31 = .ok (.newarray .int, 2) := by decide +kernel
theorem dL_law_33 : decode cL_law 33 = .ok (.astore 6, 2) := by decide +kernel
theorem dL_law_35 : decode cL_law 35 = .ok (.bipush 50, 2) := by decide +kernel
theorem dL_law_37 : decode cL_law 37 = .ok (.newarray .int, 2) := by decide +kernel
theorem dL_law_39 : decode cL_law 39 = .ok (.astore 7, 2) := by decide +kernel
theorem dL_law_41 : decode cL_law 41 = .ok (.bipush 60, 2) := by decide +kernel
theorem dL_law_43 : decode cL_law 43 = .ok (.newarray .int, 2) := by decide +kernel
theorem dL_law_45 : decode cL_law 45 = .ok (.astore 8, 2) := by decide +kernel
theorem dL_law_47 : decode cL_law 47 = .ok (.bipush 9, 2) := by decide +kernel
theorem dL_law_49 : decode cL_law 49 = .ok (.newarray .int, 2) := by decide +kernel
theorem dL_law_51 : decode cL_law 51 = .ok (.astore 9, 2) := by decide +kernel
theorem dL_law_53 : decode cL_law 53 = .ok (.bipush 50, 2) := by decide +kernel
theorem dL_law_55 : decode cL_law 55 = .ok (.newarray .int, 2) := by decide +kernel
theorem dL_law_57 : decode cL_law 57 = .ok (.astore 10, 2) := by decide +kernel
theorem dL_law_59 : decode cL_law 59 = .ok (.iconst 3, 1) := by decide +kernel
theorem dL_law_60 : decode cL_law 60 = .ok (.newarray .int, 2) := by decide +kernel
theorem dL_law_62 : decode cL_law 62 = .ok (.astore 11, 2) := by decide +kernel
theorem dL_law_64 : decode cL_law 64 = .ok (.iconst 0, 1) := by decide +kernel
theorem dL_law_65 : decode cL_law 65 = .ok (.istore 12, 2) := by decide +kernel
theorem dL_law_67 : decode cL_law 67 = .ok (.iload 12, 2) := by decide +kernel
theorem dL_law_69 : decode cL_law 69 = .ok (.bipush 110, 2) := by decide +kernel
theorem dL_law_71 : decode cL_law 71 = .ok (.if_icmp .ge 325, 3) := by decide +kernel
theorem dL_law_74 : decode cL_law 74 = .ok (.aload_n 0, 1) := by decide +kernel
theorem dL_law_75 : decode cL_law 75 = .ok (.iload 12, 2) := by decide +kernel
theorem dL_law_77 : decode cL_law 77 = .ok (.bipush 97, 2) := by decide +kernel
theorem dL_law_79 : decode cL_law 79 = .ok (.irem, 1) := by decide +kernel
theorem dL_law_80 : decode cL_law 80 = .ok (.invokestatic 137, 3) := by decide +kernel
theorem dL_law_83 : decode cL_law 83 = .ok (.iload 12, 2) := by decide +kernel
theorem dL_law_85 : decode cL_law 85 = .ok (.ldc 141, 2) := by decide +kernel
theorem dL_law_87 : decode cL_law 87 = .ok (.imul, 1) := by decide +kernel
theorem dL_law_88 : decode cL_law 88 = .ok (.ixor, 1) := by decide +kernel
theorem dL_law_89 : decode cL_law 89 = .ok (.istore 13, 2) := by decide +kernel
theorem dL_law_91 : decode cL_law 91 = .ok (.iload 13, 2) := by decide +kernel
theorem dL_law_93 : decode cL_law 93 = .ok (.iconst 4, 1) := by decide +kernel
theorem dL_law_94 : decode cL_law 94 = .ok (.ishr, 1) := by decide +kernel
theorem dL_law_95 : decode cL_law 95 = .ok (.istore 14, 2) := by decide +kernel
theorem dL_law_97 : decode cL_law 97 = .ok (.iload 13, 2) := by decide +kernel
theorem dL_law_99 : decode cL_law 99 = .ok (.bipush 30, 2) := by decide +kernel
theorem dL_law_101 : decode cL_law 101 = .ok (.invokestatic 95, 3) := by decide +kernel
theorem dL_law_104 : decode cL_law 104 = .ok (.istore 15, 2) := by decide +kernel
theorem dL_law_106 : decode cL_law 106 = .ok (.iload 12, 2) := by decide +kernel
theorem dL_law_108 : decode cL_law 108 = .ok (.iconst 4, 1) := by decide +kernel
theorem dL_law_109 : decode cL_law 109 = .ok (.if_icmp .ge 21, 3) := by decide +kernel
theorem dL_law_112 : decode cL_law 112 = .ok (.aload_n 1, 1) := by decide +kernel
theorem dL_law_113 : decode cL_law 113 = .ok (.iconst 0, 1) := by decide +kernel
theorem dL_law_114 : decode cL_law 114 = .ok (.iload 14, 2) := by decide +kernel
theorem dL_law_116 : decode cL_law 116 = .ok (.aload_n 2, 1) := by decide +kernel
theorem dL_law_117 : decode cL_law 117 = .ok (.aload_n 3, 1) := by decide +kernel
theorem dL_law_118 : decode cL_law 118 = .ok (.aload 4, 2) := by decide +kernel
theorem dL_law_120 : decode cL_law 120 = .ok (.aload 5, 2) := by decide +kernel
theorem dL_law_122 : decode cL_law 122 = .ok (.aload 11, 2) := by decide +kernel
theorem dL_law_124 : decode cL_law 124 = .ok (.invokestatic 142, 3) := by decide +kernel
theorem dL_law_127 : decode cL_law 127 = .ok (.goto 231, 3) := by decide +kernel
theorem dL_law_130 : decode cL_law 130 = .ok (.iload 12, 2) := by decide +kernel
theorem dL_law_132 : decode cL_law 132 = .ok (.bipush 8, 2) := by decide +kernel
theorem dL_law_134 : decode cL_law 134 = .ok (.if_icmp .ge 21, 3) := by decide +kernel
theorem dL_law_137 : decode cL_law 137 = .ok (.aload_n 1, 1) := by decide +kernel
theorem dL_law_138 : decode cL_law 138 = .ok (.iconst 3, 1) := by decide +kernel
theorem dL_law_139 : decode cL_law 139 = .ok (.iload 14, 2) := by decide +kernel
theorem dL_law_141 : decode cL_law 141 = .ok (.aload_n 2, 1) := by decide +kernel
theorem dL_law_142 : decode cL_law 142 = .ok (.aload_n 3, 1) := by decide +kernel
theorem dL_law_143 : decode cL_law 143 = .ok (.aload 4, 2) := by decide +kernel
theorem dL_law_145 : decode cL_law 145 = .ok (.aload 5, 2) := by decide +kernel
theorem dL_law_147 : decode cL_law 147 = .ok (.aload 11, 2) := by decide +kernel
theorem dL_law_149 : decode cL_law 149 = .ok (.invokestatic 142, 3) := by decide +kernel
theorem dL_law_152 : decode cL_law 152 = .ok (.goto 206, 3) := by decide +kernel
theorem dL_law_155 : decode cL_law 155 = .ok (.iload 12, 2) := by decide +kernel
theorem dL_law_157 : decode cL_law 157 = .ok (.bipush 11, 2) := by decide +kernel
theorem dL_law_159 : decode cL_law 159 = .ok (.if_icmp .ge 27, 3) := by decide +kernel
theorem dL_law_162 : decode cL_law 162 = .ok (.aload_n 1, 1) := by decide +kernel
theorem dL_law_163 : decode cL_law 163 = .ok (.iconst 0, 1) := by decide +kernel
theorem dL_law_164 : decode cL_law 164 = .ok (.iload 14, 2) := by decide +kernel
theorem dL_law_166 : decode cL_law 166 = .ok (.aload_n 2, 1) := by decide +kernel
theorem dL_law_167 : decode cL_law 167 = .ok (.aload_n 3, 1) := by decide +kernel
theorem dL_law_168 : decode cL_law 168 = .ok (.aload 4, 2) := by decide +kernel
theorem dL_law_170 : decode cL_law 170 = .ok (.aload 5, 2) := by decide +kernel
theorem dL_law_172 : decode cL_law 172 = .ok (.aload 6, 2) := by decide +kernel
theorem dL_law_174 : decode cL_law 174 = .ok (.aload 7, 2) := by decide +kernel
theorem dL_law_176 : decode cL_law 176 = .ok (.aload 8, 2) := by decide +kernel
theorem dL_law_178 : decode cL_law 178 = .ok (.aload 9, 2) := by decide +kernel
theorem dL_law_180 : decode cL_law 180 = .ok (.invokestatic 146, 3) := by decide +kernel
theorem dL_law_183 : decode cL_law 183 = .ok (.goto 175, 3) := by decide +kernel
theorem dL_law_186 : decode cL_law 186 = .ok (.iload 15, 2) := by decide +kernel
theorem dL_law_188 : decode cL_law 188 = .ok (.bipush 6, 2) := by decide +kernel
theorem dL_law_190 : decode cL_law 190 = .ok (.if_icmp .ge 22, 3) := by decide +kernel
theorem dL_law_193 : decode cL_law 193 = .ok (.aload_n 1, 1) := by decide +kernel
theorem dL_law_194 : decode cL_law 194 = .ok (.iload 15, 2) := by decide +kernel
theorem dL_law_196 : decode cL_law 196 = .ok (.iload 14, 2) := by decide +kernel
theorem dL_law_198 : decode cL_law 198 = .ok (.aload_n 2, 1) := by decide +kernel
theorem dL_law_199 : decode cL_law 199 = .ok (.aload_n 3, 1) := by decide +kernel
theorem dL_law_200 : decode cL_law 200 = .ok (.aload 4, 2) := by decide +kernel
theorem dL_law_202 : decode cL_law 202 = .ok (.aload 5, 2) := by decide +kernel
theorem dL_law_204 : decode cL_law 204 = .ok (.aload 11, 2) := by decide +kernel
theorem dL_law_206 : decode cL_law 206 = .ok (.invokestatic 142, 3) := by decide +kernel
theorem dL_law_209 : decode cL_law 209 = .ok (.goto 149, 3) := by decide +kernel
theorem dL_law_212 : decode cL_law 212 = .ok (.iload 15, 2) := by decide +kernel
theorem dL_law_214 : decode cL_law 214 = .ok (.bipush 11, 2) := by decide +kernel
theorem dL_law_216 : decode cL_law 216 = .ok (.if_icmp .ge 27, 3) := by decide +kernel
theorem dL_law_219 : decode cL_law 219 = .ok (.aload_n 1, 1) := by decide +kernel
theorem dL_law_220 : decode cL_law 220 = .ok (.iconst 0, 1) := by decide +kernel
theorem dL_law_221 : decode cL_law 221 = .ok (.iload 14, 2) := by decide +kernel
theorem dL_law_223 : decode cL_law 223 = .ok (.aload_n 2, 1) := by decide +kernel
theorem dL_law_224 : decode cL_law 224 = .ok (.aload_n 3, 1) := by decide +kernel
theorem dL_law_225 : decode cL_law 225 = .ok (.aload 4, 2) := by decide +kernel
theorem dL_law_227 : decode cL_law 227 = .ok (.aload 5, 2) := by decide +kernel
theorem dL_law_229 : decode cL_law 229 = .ok (.aload 6, 2) := by decide +kernel
theorem dL_law_231 : decode cL_law 231 = .ok (.aload 7, 2) := by decide +kernel
theorem dL_law_233 : decode cL_law 233 = .ok (.aload 8, 2) := by decide +kernel
theorem dL_law_235 : decode cL_law 235 = .ok (.aload 9, 2) := by decide +kernel
theorem dL_law_237 : decode cL_law 237 = .ok (.invokestatic 146, 3) := by decide +kernel
theorem dL_law_240 : decode cL_law 240 = .ok (.goto 118, 3) := by decide +kernel
theorem dL_law_243 : decode cL_law 243 = .ok (.iload 15, 2) := by decide +kernel
theorem dL_law_245 : decode cL_law 245 = .ok (.bipush 15, 2) := by decide +kernel
theorem dL_law_247 : decode cL_law 247 = .ok (.if_icmp .ge 27, 3) := by decide +kernel
theorem dL_law_250 : decode cL_law 250 = .ok (.aload_n 1, 1) := by decide +kernel
theorem dL_law_251 : decode cL_law 251 = .ok (.iconst 1, 1) := by decide +kernel
theorem dL_law_252 : decode cL_law 252 = .ok (.iload 14, 2) := by decide +kernel
theorem dL_law_254 : decode cL_law 254 = .ok (.aload_n 2, 1) := by decide +kernel
theorem dL_law_255 : decode cL_law 255 = .ok (.aload_n 3, 1) := by decide +kernel
theorem dL_law_256 : decode cL_law 256 = .ok (.aload 4, 2) := by decide +kernel
theorem dL_law_258 : decode cL_law 258 = .ok (.aload 5, 2) := by decide +kernel
theorem dL_law_260 : decode cL_law 260 = .ok (.aload 6, 2) := by decide +kernel
theorem dL_law_262 : decode cL_law 262 = .ok (.aload 7, 2) := by decide +kernel
theorem dL_law_264 : decode cL_law 264 = .ok (.aload 8, 2) := by decide +kernel
theorem dL_law_266 : decode cL_law 266 = .ok (.aload 9, 2) := by decide +kernel
theorem dL_law_268 : decode cL_law 268 = .ok (.invokestatic 146, 3) := by decide +kernel
theorem dL_law_271 : decode cL_law 271 = .ok (.goto 87, 3) := by decide +kernel
theorem dL_law_274 : decode cL_law 274 = .ok (.iload 15, 2) := by decide +kernel
theorem dL_law_276 : decode cL_law 276 = .ok (.bipush 19, 2) := by decide +kernel
theorem dL_law_278 : decode cL_law 278 = .ok (.if_icmp .ge 27, 3) := by decide +kernel
theorem dL_law_281 : decode cL_law 281 = .ok (.aload_n 1, 1) := by decide +kernel
theorem dL_law_282 : decode cL_law 282 = .ok (.iconst 2, 1) := by decide +kernel
theorem dL_law_283 : decode cL_law 283 = .ok (.iload 14, 2) := by decide +kernel
theorem dL_law_285 : decode cL_law 285 = .ok (.aload_n 2, 1) := by decide +kernel
theorem dL_law_286 : decode cL_law 286 = .ok (.aload_n 3, 1) := by decide +kernel
theorem dL_law_287 : decode cL_law 287 = .ok (.aload 4, 2) := by decide +kernel
theorem dL_law_289 : decode cL_law 289 = .ok (.aload 5, 2) := by decide +kernel
theorem dL_law_291 : decode cL_law 291 = .ok (.aload 6, 2) := by decide +kernel
theorem dL_law_293 : decode cL_law 293 = .ok (.aload 7, 2) := by decide +kernel
theorem dL_law_295 : decode cL_law 295 = .ok (.aload 8, 2) := by decide +kernel
theorem dL_law_297 : decode cL_law 297 = .ok (.aload 9, 2) := by decide +kernel
theorem dL_law_299 : decode cL_law 299 = .ok (.invokestatic 146, 3) := by decide +kernel
theorem dL_law_302 : decode cL_law 302 = .ok (.goto 56, 3) := by decide +kernel
theorem dL_law_305 : decode cL_law 305 = .ok (.iload 15, 2) := by decide +kernel
theorem dL_law_307 : decode cL_law 307 = .ok (.bipush 24, 2) := by decide +kernel
theorem dL_law_309 : decode cL_law 309 = .ok (.if_icmp .ge 27, 3) := by decide +kernel
theorem dL_law_312 : decode cL_law 312 = .ok (.aload_n 1, 1) := by decide +kernel
theorem dL_law_313 : decode cL_law 313 = .ok (.iconst 3, 1) := by decide +kernel
theorem dL_law_314 : decode cL_law 314 = .ok (.iload 14, 2) := by decide +kernel
theorem dL_law_316 : decode cL_law 316 = .ok (.aload_n 2, 1) := by decide +kernel
theorem dL_law_317 : decode cL_law 317 = .ok (.aload_n 3, 1) := by decide +kernel
theorem dL_law_318 : decode cL_law 318 = .ok (.aload 4, 2) := by decide +kernel
theorem dL_law_320 : decode cL_law 320 = .ok (.aload 5, 2) := by decide +kernel
theorem dL_law_322 : decode cL_law 322 = .ok (.aload 6, 2) := by decide +kernel
theorem dL_law_324 : decode cL_law 324 = .ok (.aload 7, 2) := by decide +kernel
theorem dL_law_326 : decode cL_law 326 = .ok (.aload 8, 2) := by decide +kernel
theorem dL_law_328 : decode cL_law 328 = .ok (.aload 9, 2) := by decide +kernel
theorem dL_law_330 : decode cL_law 330 = .ok (.invokestatic 146, 3) := by decide +kernel
theorem dL_law_333 : decode cL_law 333 = .ok (.goto 25, 3) := by decide +kernel
theorem dL_law_336 : decode cL_law 336 = .ok (.aload_n 1, 1) := by decide +kernel
theorem dL_law_337 : decode cL_law 337 = .ok (.iload 15, 2) := by decide +kernel
theorem dL_law_339 : decode cL_law 339 = .ok (.bipush 29, 2) := by decide +kernel
theorem dL_law_341 : decode cL_law 341 = .ok (.if_icmp .ge 7, 3) := by decide +kernel
theorem dL_law_344 : decode cL_law 344 = .ok (.iconst 0, 1) := by decide +kernel
theorem dL_law_345 : decode cL_law 345 = .ok (.goto 4, 3) := by decide +kernel
theorem dL_law_348 : decode cL_law 348 = .ok (.iconst 1, 1) := by decide +kernel
theorem dL_law_349 : decode cL_law 349 = .ok (.iload 14, 2) := by decide +kernel
theorem dL_law_351 : decode cL_law 351 = .ok (.aload 10, 2) := by decide +kernel
theorem dL_law_353 : decode cL_law 353 = .ok (.aload 11, 2) := by decide +kernel
theorem dL_law_355 : decode cL_law 355 = .ok (.invokestatic 150, 3) := by decide +kernel
theorem dL_law_358 : decode cL_law 358 = .ok (.istore 16, 2) := by decide +kernel
theorem dL_law_360 : decode cL_law 360 = .ok (.iload 16, 2) := by decide +kernel
theorem dL_law_362 : decode cL_law 362 = .ok (.ifCond .eq 26, 3) := by decide +kernel
theorem dL_law_365 : decode cL_law 365 = .ok (.aload_n 1, 1) := by decide +kernel
theorem dL_law_366 : decode cL_law 366 = .ok (.iload 14, 2) := by decide +kernel
theorem dL_law_368 : decode cL_law 368 = .ok (.aload_n 2, 1) := by decide +kernel
theorem dL_law_369 : decode cL_law 369 = .ok (.aload_n 3, 1) := by decide +kernel
theorem dL_law_370 : decode cL_law 370 = .ok (.aload 5, 2) := by decide +kernel
theorem dL_law_372 : decode cL_law 372 = .ok (.aload 6, 2) := by decide +kernel
theorem dL_law_374 : decode cL_law 374 = .ok (.aload 7, 2) := by decide +kernel
theorem dL_law_376 : decode cL_law 376 = .ok (.aload 8, 2) := by decide +kernel
theorem dL_law_378 : decode cL_law 378 = .ok (.aload 9, 2) := by decide +kernel
theorem dL_law_380 : decode cL_law 380 = .ok (.aload 10, 2) := by decide +kernel
theorem dL_law_382 : decode cL_law 382 = .ok (.invokestatic 154, 3) := by decide +kernel
theorem dL_law_385 : decode cL_law 385 = .ok (.ifCond .ne 5, 3) := by decide +kernel
theorem dL_law_388 : decode cL_law 388 = .ok (.iconst 0, 1) := by decide +kernel
theorem dL_law_389 : decode cL_law 389 = .ok (.ireturn, 1) := by decide +kernel
theorem dL_law_390 : decode cL_law 390 = .ok (.iinc 12 1, 3) := by decide +kernel
theorem dL_law_393 : decode cL_law 393 = .ok (.goto (-326), 3) := by decide +kernel
theorem dL_law_396 : decode cL_law 396 = .ok (.iconst 1, 1) := by decide +kernel
theorem dL_law_397 : decode cL_law 397 = .ok (.ireturn, 1) := by decide +kernel
abbrev vwCl : List vw_C := [(RJx4a65c, TJx4a65c, 3), (RX0, TX0, 5), (RX1, TX1, 3), (RX2, TX2, 4), (RX3, TX3, 6), (RX4, TX4, 9), (RX5, TX5, 8)]
