/-! ===== BEGIN printed: names, fields, word lists, decode rows ===== -/
def RX0 : String := "DyehouseLedger$Lot"
def TX0 : u_T := fun k => match k with
  | 0 => ("DyehouseLedger$Lot", "number", "I", true)
  | 1 => ("DyehouseLedger$Lot", "order", "LDyehouseLedger$Order;", true)
  | 2 => ("DyehouseLedger$Lot", "weight", "I", true)
  | 3 => ("DyehouseLedger$Lot", "shade", "LDyehouseLedger$Shade;", true)
  | 4 => ("DyehouseLedger$Lot", "state", "C", false)
  | 5 => ("DyehouseLedger$Lot", "vat", "LDyehouseLedger$Vat;", false)
  | 6 => ("DyehouseLedger$Lot", "clockThen", "I", false)
  | 7 => ("DyehouseLedger$Lot", "cleaningsThen", "I", false)
  | _ => ("DyehouseLedger$Lot", "plannedFor", "LDyehouseLedger$Vat;", false)
def tyX0 : Nat → FieldType := fun k => match k with
  | 0 => .int
  | 1 => .object "DyehouseLedger$Order"
  | 2 => .int
  | 3 => .object "DyehouseLedger$Shade"
  | 4 => .char
  | 5 => .object "DyehouseLedger$Vat"
  | 6 => .int
  | 7 => .int
  | _ => .object "DyehouseLedger$Vat"
abbrev wsX00 : List Cond := u_ws RX0 TX0 9
theorem nmX0 : ∀ a, a < 9 → ∀ b, b < 9 → a ≠ b → (TX0 a).2.1 ≠ (TX0 b).2.1 := by decide +kernel
theorem tyX0_ok : ∀ k, k < 9 → parseFieldDescriptor (TX0 k).2.2.1 = some (tyX0 k) := by decide +kernel
abbrev cX0_init : ByteArray := prog_2_method_1_code
def yX0_init : MethodName := ⟨RX0, "<init>", "(ILDyehouseLedger$Order;I)V"⟩
abbrev cX0_dyeingHours : ByteArray := prog_2_method_2_code
def yX0_dyeingHours : MethodName := ⟨RX0, "dyeingHours", "()I"⟩
abbrev cX0_gramsNeeded : ByteArray := prog_2_method_3_code
def yX0_gramsNeeded : MethodName := ⟨RX0, "gramsNeeded", "(I)I"⟩
abbrev cX0_distanceFromRecipe : ByteArray := prog_2_method_4_code
def yX0_distanceFromRecipe : MethodName := ⟨RX0, "distanceFromRecipe", "()I"⟩
abbrev cX0_isPassedOf : ByteArray := prog_2_method_5_code
def yX0_isPassedOf : MethodName := ⟨RX0, "isPassedOf", "(LDyehouseLedger$Order;)Z"⟩
abbrev cX0_comesBeforeByLight : ByteArray := prog_2_method_6_code
def yX0_comesBeforeByLight : MethodName := ⟨RX0, "comesBeforeByLight", "(LDyehouseLedger$Lot;)Z"⟩
def RX1 : String := "DyehouseLedger$Order"
def TX1 : u_T := fun k => match k with
  | 0 => ("DyehouseLedger$Order", "customer", "I", true)
  | 1 => ("DyehouseLedger$Order", "recipe", "LDyehouseLedger$Recipe;", true)
  | 2 => ("DyehouseLedger$Order", "bound", "I", true)
  | 3 => ("DyehouseLedger$Order", "day", "I", true)
  | _ => ("DyehouseLedger$Order", "price", "I", true)
def tyX1 : Nat → FieldType := fun k => match k with
  | 0 => .int
  | 1 => .object "DyehouseLedger$Recipe"
  | 2 => .int
  | 3 => .int
  | _ => .int
abbrev wsX10 : List Cond := u_ws RX1 TX1 5
theorem nmX1 : ∀ a, a < 5 → ∀ b, b < 5 → a ≠ b → (TX1 a).2.1 ≠ (TX1 b).2.1 := by decide +kernel
theorem tyX1_ok : ∀ k, k < 5 → parseFieldDescriptor (TX1 k).2.2.1 = some (tyX1 k) := by decide +kernel
abbrev cX1_init : ByteArray := prog_3_method_1_code
def yX1_init : MethodName := ⟨RX1, "<init>", "(ILDyehouseLedger$Recipe;III)V"⟩
def RX2 : String := "DyehouseLedger$Plan"
def TX2 : u_T := fun k => match k with
  | 0 => ("DyehouseLedger$Plan", "numbers", "[I", true)
  | 1 => ("DyehouseLedger$Plan", "lights", "[I", true)
  | 2 => ("DyehouseLedger$Plan", "customers", "[I", true)
  | 3 => ("DyehouseLedger$Plan", "hours", "[I", true)
  | 4 => ("DyehouseLedger$Plan", "size", "I", false)
  | 5 => ("DyehouseLedger$Plan", "lightAtFirst", "I", false)
  | _ => ("DyehouseLedger$Plan", "onlyCustomerAtFirst", "I", false)
def tyX2 : Nat → FieldType := fun k => match k with
  | 0 => .array .int
  | 1 => .array .int
  | 2 => .array .int
  | 3 => .array .int
  | 4 => .int
  | 5 => .int
  | _ => .int
abbrev wsX20 : List Cond := u_ws RX2 TX2 7
theorem nmX2 : ∀ a, a < 7 → ∀ b, b < 7 → a ≠ b → (TX2 a).2.1 ≠ (TX2 b).2.1 := by decide +kernel
theorem tyX2_ok : ∀ k, k < 7 → parseFieldDescriptor (TX2 k).2.2.1 = some (tyX2 k) := by decide +kernel
abbrev cX2_init : ByteArray := prog_4_method_1_code
def yX2_init : MethodName := ⟨RX2, "<init>", "()V"⟩
abbrev cX2_begin : ByteArray := prog_4_method_2_code
def yX2_begin : MethodName := ⟨RX2, "begin", "(LDyehouseLedger$Vat;)V"⟩
abbrev cX2_add : ByteArray := prog_4_method_3_code
def yX2_add : MethodName := ⟨RX2, "add", "(LDyehouseLedger$Lot;)V"⟩
abbrev cX2_dyeingHours : ByteArray := prog_4_method_4_code
def yX2_dyeingHours : MethodName := ⟨RX2, "dyeingHours", "()I"⟩
abbrev cX2_fewestCleanings : ByteArray := prog_4_method_5_code
def yX2_fewestCleanings : MethodName := ⟨RX2, "fewestCleanings", "()I"⟩
abbrev cX2_firstOfBestOrder : ByteArray := prog_4_method_6_code
def yX2_firstOfBestOrder : MethodName := ⟨RX2, "firstOfBestOrder", "()I"⟩
abbrev cX2_fewestBeginningWith : ByteArray := prog_4_method_7_code
def yX2_fewestBeginningWith : MethodName := ⟨RX2, "fewestBeginningWith", "(II)I"⟩
abbrev cX2_leastOfAllOrders : ByteArray := prog_4_method_8_code
def yX2_leastOfAllOrders : MethodName := ⟨RX2, "leastOfAllOrders", "()I"⟩
abbrev cX2_mustBeCleaned : ByteArray := prog_4_method_9_code
def yX2_mustBeCleaned : MethodName := ⟨RX2, "mustBeCleaned", "(III)Z"⟩
abbrev cX2_fewestFrom : ByteArray := prog_4_method_10_code
def yX2_fewestFrom : MethodName := ⟨RX2, "fewestFrom", "(LDyehouseLedger$Plan;IIIIII)I"⟩
abbrev cX2_leastFrom : ByteArray := prog_4_method_11_code
def yX2_leastFrom : MethodName := ⟨RX2, "leastFrom", "(LDyehouseLedger$Plan;IIIII)I"⟩
def RX3 : String := "DyehouseLedger$Recipe"
def TX3 : u_T := fun k => match k with
  | 0 => ("DyehouseLedger$Recipe", "shade", "LDyehouseLedger$Shade;", true)
  | _ => ("DyehouseLedger$Recipe", "grams", "[I", true)
def tyX3 : Nat → FieldType := fun k => match k with
  | 0 => .object "DyehouseLedger$Shade"
  | _ => .array .int
abbrev wsX30 : List Cond := u_ws RX3 TX3 2
theorem nmX3 : ∀ a, a < 2 → ∀ b, b < 2 → a ≠ b → (TX3 a).2.1 ≠ (TX3 b).2.1 := by decide +kernel
theorem tyX3_ok : ∀ k, k < 2 → parseFieldDescriptor (TX3 k).2.2.1 = some (tyX3 k) := by decide +kernel
abbrev cX3_init : ByteArray := prog_5_method_1_code
def yX3_init : MethodName := ⟨RX3, "<init>", "(LDyehouseLedger$Shade;)V"⟩
def RX4 : String := "DyehouseLedger$Shade"
def TX4 : u_T := fun k => match k with
  | 0 => ("DyehouseLedger$Shade", "light", "I", false)
  | 1 => ("DyehouseLedger$Shade", "red", "I", false)
  | _ => ("DyehouseLedger$Shade", "blue", "I", false)
def tyX4 : Nat → FieldType := fun k => match k with
  | 0 => .int
  | 1 => .int
  | _ => .int
abbrev wsX40 : List Cond := u_ws RX4 TX4 3
theorem nmX4 : ∀ a, a < 3 → ∀ b, b < 3 → a ≠ b → (TX4 a).2.1 ≠ (TX4 b).2.1 := by decide +kernel
theorem tyX4_ok : ∀ k, k < 3 → parseFieldDescriptor (TX4 k).2.2.1 = some (tyX4 k) := by decide +kernel
abbrev cX4_init : ByteArray := prog_6_method_1_code
def yX4_init : MethodName := ⟨RX4, "<init>", "(III)V"⟩
abbrev cX4_set : ByteArray := prog_6_method_2_code
def yX4_set : MethodName := ⟨RX4, "set", "(III)V"⟩
abbrev cX4_distanceTo : ByteArray := prog_6_method_3_code
def yX4_distanceTo : MethodName := ⟨RX4, "distanceTo", "(LDyehouseLedger$Shade;)I"⟩
def RX5 : String := "DyehouseLedger$Vat"
def TX5 : u_T := fun k => match k with
  | 0 => ("DyehouseLedger$Vat", "number", "I", true)
  | 1 => ("DyehouseLedger$Vat", "mostWeight", "I", true)
  | 2 => ("DyehouseLedger$Vat", "light", "I", false)
  | 3 => ("DyehouseLedger$Vat", "onlyCustomer", "I", false)
  | 4 => ("DyehouseLedger$Vat", "clock", "I", false)
  | _ => ("DyehouseLedger$Vat", "cleanings", "I", false)
def tyX5 : Nat → FieldType := fun k => match k with
  | 0 => .int
  | 1 => .int
  | 2 => .int
  | 3 => .int
  | 4 => .int
  | _ => .int
abbrev wsX50 : List Cond := u_ws RX5 TX5 6
theorem nmX5 : ∀ a, a < 6 → ∀ b, b < 6 → a ≠ b → (TX5 a).2.1 ≠ (TX5 b).2.1 := by decide +kernel
theorem tyX5_ok : ∀ k, k < 6 → parseFieldDescriptor (TX5 k).2.2.1 = some (tyX5 k) := by decide +kernel
abbrev cX5_init : ByteArray := prog_7_method_1_code
def yX5_init : MethodName := ⟨RX5, "<init>", "(II)V"⟩
def RX6 : String := "DyehouseLedger"
def TX6 : u_T := fun k => match k with
  | 0 => ("DyehouseLedger", "allRecipes", "[LDyehouseLedger$Recipe;", true)
  | 1 => ("DyehouseLedger", "allOrders", "[LDyehouseLedger$Order;", true)
  | 2 => ("DyehouseLedger", "allLots", "[LDyehouseLedger$Lot;", true)
  | 3 => ("DyehouseLedger", "allVats", "[LDyehouseLedger$Vat;", true)
  | 4 => ("DyehouseLedger", "gramsInStock", "[I", true)
  | 5 => ("DyehouseLedger", "gramsUsed", "[J", true)
  | 6 => ("DyehouseLedger", "planAtHand", "LDyehouseLedger$Plan;", true)
  | 7 => ("DyehouseLedger", "recipeCount", "I", false)
  | 8 => ("DyehouseLedger", "orderCount", "I", false)
  | 9 => ("DyehouseLedger", "lotCount", "I", false)
  | _ => ("DyehouseLedger", "vatCount", "I", false)
def tyX6 : Nat → FieldType := fun k => match k with
  | 0 => .array (.object "DyehouseLedger$Recipe")
  | 1 => .array (.object "DyehouseLedger$Order")
  | 2 => .array (.object "DyehouseLedger$Lot")
  | 3 => .array (.object "DyehouseLedger$Vat")
  | 4 => .array .int
  | 5 => .array .long
  | 6 => .object "DyehouseLedger$Plan"
  | 7 => .int
  | 8 => .int
  | 9 => .int
  | _ => .int
abbrev wsX60 : List Cond := u_ws RX6 TX6 11
theorem nmX6 : ∀ a, a < 11 → ∀ b, b < 11 → a ≠ b → (TX6 a).2.1 ≠ (TX6 b).2.1 := by decide +kernel
theorem tyX6_ok : ∀ k, k < 11 → parseFieldDescriptor (TX6 k).2.2.1 = some (tyX6 k) := by decide +kernel
abbrev cX6_init : ByteArray := prog_1_method_1_code
def yX6_init : MethodName := ⟨RX6, "<init>", "()V"⟩
abbrev cX6_addRecipe : ByteArray := prog_1_method_2_code
def yX6_addRecipe : MethodName := ⟨RX6, "addRecipe", "(III)I"⟩
abbrev cX6_setDye : ByteArray := prog_1_method_3_code
def yX6_setDye : MethodName := ⟨RX6, "setDye", "(III)I"⟩
abbrev cX6_supply : ByteArray := prog_1_method_4_code
def yX6_supply : MethodName := ⟨RX6, "supply", "(II)I"⟩
abbrev cX6_stock : ByteArray := prog_1_method_5_code
def yX6_stock : MethodName := ⟨RX6, "stock", "(I)I"⟩
abbrev cX6_addOrder : ByteArray := prog_1_method_6_code
def yX6_addOrder : MethodName := ⟨RX6, "addOrder", "(IIIII)I"⟩
abbrev cX6_addLot : ByteArray := prog_1_method_7_code
def yX6_addLot : MethodName := ⟨RX6, "addLot", "(II)I"⟩
abbrev cX6_addVat : ByteArray := prog_1_method_8_code
def yX6_addVat : MethodName := ⟨RX6, "addVat", "(I)I"⟩
abbrev cX6_needs : ByteArray := prog_1_method_9_code
def yX6_needs : MethodName := ⟨RX6, "needs", "(II)I"⟩
abbrev cX6_hoursFor : ByteArray := prog_1_method_10_code
def yX6_hoursFor : MethodName := ⟨RX6, "hoursFor", "(I)I"⟩
abbrev cX6_reason : ByteArray := prog_1_method_11_code
def yX6_reason : MethodName := ⟨RX6, "reason", "(II)C"⟩
abbrev cX6_dye : ByteArray := prog_1_method_12_code
def yX6_dye : MethodName := ⟨RX6, "dye", "(IIIII)I"⟩
abbrev cX6_clean : ByteArray := prog_1_method_13_code
def yX6_clean : MethodName := ⟨RX6, "clean", "(I)I"⟩
abbrev cX6_verdict : ByteArray := prog_1_method_14_code
def yX6_verdict : MethodName := ⟨RX6, "verdict", "(I)C"⟩
abbrev cX6_judge : ByteArray := prog_1_method_15_code
def yX6_judge : MethodName := ⟨RX6, "judge", "(I)Z"⟩
abbrev cX6_again : ByteArray := prog_1_method_16_code
def yX6_again : MethodName := ⟨RX6, "again", "(I)I"⟩
abbrev cX6_plan : ByteArray := prog_1_method_17_code
def yX6_plan : MethodName := ⟨RX6, "plan", "(II)I"⟩
abbrev cX6_unplan : ByteArray := prog_1_method_18_code
def yX6_unplan : MethodName := ⟨RX6, "unplan", "(I)I"⟩
abbrev cX6_planned : ByteArray := prog_1_method_19_code
def yX6_planned : MethodName := ⟨RX6, "planned", "(I)I"⟩
abbrev cX6_plannedAt : ByteArray := prog_1_method_20_code
def yX6_plannedAt : MethodName := ⟨RX6, "plannedAt", "(II)I"⟩
abbrev cX6_leastHours : ByteArray := prog_1_method_21_code
def yX6_leastHours : MethodName := ⟨RX6, "leastHours", "(I)I"⟩
abbrev cX6_leastByAll : ByteArray := prog_1_method_22_code
def yX6_leastByAll : MethodName := ⟨RX6, "leastByAll", "(I)I"⟩
abbrev cX6_firstOf : ByteArray := prog_1_method_23_code
def yX6_firstOf : MethodName := ⟨RX6, "firstOf", "(I)I"⟩
abbrev cX6_recipes : ByteArray := prog_1_method_24_code
def yX6_recipes : MethodName := ⟨RX6, "recipes", "()I"⟩
abbrev cX6_lots : ByteArray := prog_1_method_25_code
def yX6_lots : MethodName := ⟨RX6, "lots", "()I"⟩
abbrev cX6_stateOf : ByteArray := prog_1_method_26_code
def yX6_stateOf : MethodName := ⟨RX6, "stateOf", "(I)C"⟩
abbrev cX6_shadeOf : ByteArray := prog_1_method_27_code
def yX6_shadeOf : MethodName := ⟨RX6, "shadeOf", "(II)I"⟩
abbrev cX6_vatOf : ByteArray := prog_1_method_28_code
def yX6_vatOf : MethodName := ⟨RX6, "vatOf", "(I)I"⟩
abbrev cX6_offBy : ByteArray := prog_1_method_29_code
def yX6_offBy : MethodName := ⟨RX6, "offBy", "(I)I"⟩
abbrev cX6_distance : ByteArray := prog_1_method_30_code
def yX6_distance : MethodName := ⟨RX6, "distance", "(II)I"⟩
abbrev cX6_nearest : ByteArray := prog_1_method_31_code
def yX6_nearest : MethodName := ⟨RX6, "nearest", "(I)I"⟩
abbrev cX6_byLight : ByteArray := prog_1_method_32_code
def yX6_byLight : MethodName := ⟨RX6, "byLight", "(I)I"⟩
abbrev cX6_clock : ByteArray := prog_1_method_33_code
def yX6_clock : MethodName := ⟨RX6, "clock", "(I)I"⟩
abbrev cX6_cleanings : ByteArray := prog_1_method_34_code
def yX6_cleanings : MethodName := ⟨RX6, "cleanings", "(I)I"⟩
abbrev cX6_lightIn : ByteArray := prog_1_method_35_code
def yX6_lightIn : MethodName := ⟨RX6, "lightIn", "(I)I"⟩
abbrev cX6_customerOf : ByteArray := prog_1_method_36_code
def yX6_customerOf : MethodName := ⟨RX6, "customerOf", "(I)I"⟩
abbrev cX6_lotsOf : ByteArray := prog_1_method_37_code
def yX6_lotsOf : MethodName := ⟨RX6, "lotsOf", "(I)I"⟩
abbrev cX6_spread : ByteArray := prog_1_method_39_code
def yX6_spread : MethodName := ⟨RX6, "spread", "(I)I"⟩
abbrev cX6_lateBy : ByteArray := prog_1_method_40_code
def yX6_lateBy : MethodName := ⟨RX6, "lateBy", "(I)I"⟩
abbrev cX6_due : ByteArray := prog_1_method_41_code
def yX6_due : MethodName := ⟨RX6, "due", "(I)I"⟩
abbrev cX6_dues : ByteArray := prog_1_method_42_code
def yX6_dues : MethodName := ⟨RX6, "dues", "(I)J"⟩
abbrev cX6_used : ByteArray := prog_1_method_43_code
def yX6_used : MethodName := ⟨RX6, "used", "(I)J"⟩
abbrev cX6_passedShare : ByteArray := prog_1_method_44_code
def yX6_passedShare : MethodName := ⟨RX6, "passedShare", "()F"⟩
abbrev cX6_meanOff : ByteArray := prog_1_method_45_code
def yX6_meanOff : MethodName := ⟨RX6, "meanOff", "()D"⟩
abbrev cX6_checkRange : ByteArray := prog_1_method_46_code
def yX6_checkRange : MethodName := ⟨RX6, "checkRange", "(III)V"⟩
abbrev cX6_checkShade : ByteArray := prog_1_method_47_code
def yX6_checkShade : MethodName := ⟨RX6, "checkShade", "(III)V"⟩
abbrev cX6_checkDye : ByteArray := prog_1_method_48_code
def yX6_checkDye : MethodName := ⟨RX6, "checkDye", "(I)V"⟩
abbrev cX6_checkCustomer : ByteArray := prog_1_method_49_code
def yX6_checkCustomer : MethodName := ⟨RX6, "checkCustomer", "(I)V"⟩
abbrev cX6_recipeNumbered : ByteArray := prog_1_method_50_code
def yX6_recipeNumbered : MethodName := ⟨RX6, "recipeNumbered", "(I)LDyehouseLedger$Recipe;"⟩
abbrev cX6_orderNumbered : ByteArray := prog_1_method_51_code
def yX6_orderNumbered : MethodName := ⟨RX6, "orderNumbered", "(I)LDyehouseLedger$Order;"⟩
abbrev cX6_lotNumbered : ByteArray := prog_1_method_52_code
def yX6_lotNumbered : MethodName := ⟨RX6, "lotNumbered", "(I)LDyehouseLedger$Lot;"⟩
abbrev cX6_vatNumbered : ByteArray := prog_1_method_53_code
def yX6_vatNumbered : MethodName := ⟨RX6, "vatNumbered", "(I)LDyehouseLedger$Vat;"⟩
abbrev cX6_dyedLotNumbered : ByteArray := prog_1_method_54_code
def yX6_dyedLotNumbered : MethodName := ⟨RX6, "dyedLotNumbered", "(I)LDyehouseLedger$Lot;"⟩
abbrev cX6_shadedLotNumbered : ByteArray := prog_1_method_55_code
def yX6_shadedLotNumbered : MethodName := ⟨RX6, "shadedLotNumbered", "(I)LDyehouseLedger$Lot;"⟩
abbrev cX6_reasonAgainst : ByteArray := prog_1_method_56_code
def yX6_reasonAgainst : MethodName := ⟨RX6, "reasonAgainst", "(LDyehouseLedger$Lot;LDyehouseLedger$Vat;)C"⟩
abbrev cX6_isTooDark : ByteArray := prog_1_method_57_code
def yX6_isTooDark : MethodName := ⟨RX6, "isTooDark", "(II)Z"⟩
abbrev cX6_isBarred : ByteArray := prog_1_method_58_code
def yX6_isBarred : MethodName := ⟨RX6, "isBarred", "(II)Z"⟩
abbrev cX6_isStocked : ByteArray := prog_1_method_59_code
def yX6_isStocked : MethodName := ⟨RX6, "isStocked", "(LDyehouseLedger$Lot;)Z"⟩
abbrev cX6_takeDyesFor : ByteArray := prog_1_method_60_code
def yX6_takeDyesFor : MethodName := ⟨RX6, "takeDyesFor", "(LDyehouseLedger$Lot;)V"⟩
abbrev cX6_verdictOn : ByteArray := prog_1_method_61_code
def yX6_verdictOn : MethodName := ⟨RX6, "verdictOn", "(LDyehouseLedger$Lot;)C"⟩
abbrev cX6_greatestDistanceFromPassed : ByteArray := prog_1_method_62_code
def yX6_greatestDistanceFromPassed : MethodName := ⟨RX6, "greatestDistanceFromPassed", "(LDyehouseLedger$Lot;)I"⟩
abbrev cX6_barVatOf : ByteArray := prog_1_method_63_code
def yX6_barVatOf : MethodName := ⟨RX6, "barVatOf", "(LDyehouseLedger$Lot;)V"⟩
abbrev cX6_lotsInState : ByteArray := prog_1_method_64_code
def yX6_lotsInState : MethodName := ⟨RX6, "lotsInState", "(C)I"⟩
abbrev cX6_plannedLots : ByteArray := prog_1_method_65_code
def yX6_plannedLots : MethodName := ⟨RX6, "plannedLots", "(LDyehouseLedger$Vat;)I"⟩
abbrev cX6_fillPlan : ByteArray := prog_1_method_66_code
def yX6_fillPlan : MethodName := ⟨RX6, "fillPlan", "(LDyehouseLedger$Vat;)V"⟩
abbrev cX6_placeByLight : ByteArray := prog_1_method_67_code
def yX6_placeByLight : MethodName := ⟨RX6, "placeByLight", "(LDyehouseLedger$Lot;)I"⟩
abbrev cX6_daysLate : ByteArray := prog_1_method_68_code
def yX6_daysLate : MethodName := ⟨RX6, "daysLate", "(LDyehouseLedger$Order;)I"⟩
abbrev cX6_amountDue : ByteArray := prog_1_method_69_code
def yX6_amountDue : MethodName := ⟨RX6, "amountDue", "(LDyehouseLedger$Order;)I"⟩
def RX7 : String := "DyehouseLedgerLaw$Draw"
def TX7 : u_T := fun k => match k with
  | _ => ("DyehouseLedgerLaw$Draw", "state", "I", false)
def tyX7 : Nat → FieldType := fun k => match k with
  | _ => .int
abbrev wsX70 : List Cond := u_ws RX7 TX7 1
theorem nmX7 : ∀ a, a < 1 → ∀ b, b < 1 → a ≠ b → (TX7 a).2.1 ≠ (TX7 b).2.1 := by decide +kernel
theorem tyX7_ok : ∀ k, k < 1 → parseFieldDescriptor (TX7 k).2.2.1 = some (tyX7 k) := by decide +kernel
abbrev cX7_init : ByteArray := prog_9_method_1_code
def yX7_init : MethodName := ⟨RX7, "<init>", "(I)V"⟩
abbrev cX7_next : ByteArray := prog_9_method_2_code
def yX7_next : MethodName := ⟨RX7, "next", "(I)I"⟩
def RX8 : String := "DyehouseLedgerModel"
def TX8 : u_T := fun k => match k with
  | _ => ("", "", "", false)
def tyX8 : Nat → FieldType := fun k => match k with
  | _ => .int
abbrev wsX80 : List Cond := u_ws RX8 TX8 0
theorem nmX8 : ∀ a, a < 0 → ∀ b, b < 0 → a ≠ b → (TX8 a).2.1 ≠ (TX8 b).2.1 := by decide +kernel
theorem tyX8_ok : ∀ k, k < 0 → parseFieldDescriptor (TX8 k).2.2.1 = some (tyX8 k) := by decide +kernel
def RJx145de : String := "java/io/Serializable"
def TJx145de : u_T := fun k => match k with
  | _ => ("", "", "", false)
def tyJx145de : Nat → FieldType := fun k => match k with
  | _ => .int
abbrev wsJx145de0 : List Cond := u_ws RJx145de TJx145de 0
theorem nmJx145de : ∀ a, a < 0 → ∀ b, b < 0 → a ≠ b → (TJx145de a).2.1 ≠ (TJx145de b).2.1 := by decide +kernel
theorem tyJx145de_ok : ∀ k, k < 0 → parseFieldDescriptor (TJx145de k).2.2.1 = some (tyJx145de k) := by decide +kernel
def RJ5 : String := "java/lang/AbstractStringBuilder"
def TJ5 : u_T := fun k => match k with
  | _ => ("", "", "", false)
def tyJ5 : Nat → FieldType := fun k => match k with
  | _ => .int
abbrev wsJ50 : List Cond := u_ws RJ5 TJ5 0
theorem nmJ5 : ∀ a, a < 0 → ∀ b, b < 0 → a ≠ b → (TJ5 a).2.1 ≠ (TJ5 b).2.1 := by decide +kernel
theorem tyJ5_ok : ∀ k, k < 0 → parseFieldDescriptor (TJ5 k).2.2.1 = some (tyJ5 k) := by decide +kernel
abbrev cJ5_init_d00df : ByteArray := prog_12_method_2_code
def yJ5_init_d00df : MethodName := ⟨RJ5, "<init>", "(I)V"⟩
abbrev cJ5_length_8abf5 : ByteArray := prog_12_method_6_code
def yJ5_length_8abf5 : MethodName := ⟨RJ5, "length", "()I"⟩
abbrev cJ5_ensureCapacityInternal_d00df : ByteArray := prog_12_method_9_code
def yJ5_ensureCapacityInternal_d00df : MethodName := ⟨RJ5, "ensureCapacityInternal", "(I)V"⟩
abbrev cJ5_newCapacity_0f7a4 : ByteArray := prog_12_method_10_code
def yJ5_newCapacity_0f7a4 : MethodName := ⟨RJ5, "newCapacity", "(I)I"⟩
abbrev cJ5_inflate_da8c8 : ByteArray := prog_12_method_11_code
def yJ5_inflate_da8c8 : MethodName := ⟨RJ5, "inflate", "()V"⟩
abbrev cJ5_charAt_5068e : ByteArray := prog_12_method_14_code
def yJ5_charAt_5068e : MethodName := ⟨RJ5, "charAt", "(I)C"⟩
abbrev cJ5_append_cf1ce : ByteArray := prog_12_method_22_code
def yJ5_append_cf1ce : MethodName := ⟨RJ5, "append", "(Ljava/lang/String;)Ljava/lang/AbstractStringBuilder;"⟩
abbrev cJ5_append_2ceeb : ByteArray := prog_12_method_24_code
def yJ5_append_2ceeb : MethodName := ⟨RJ5, "append", "(Ljava/lang/AbstractStringBuilder;)Ljava/lang/AbstractStringBuilder;"⟩
abbrev cJ5_append_8f9a3 : ByteArray := prog_12_method_25_code
def yJ5_append_8f9a3 : MethodName := ⟨RJ5, "append", "(Ljava/lang/CharSequence;)Ljava/lang/AbstractStringBuilder;"⟩
abbrev cJ5_appendNull_278bc : ByteArray := prog_12_method_26_code
def yJ5_appendNull_278bc : MethodName := ⟨RJ5, "appendNull", "()Ljava/lang/AbstractStringBuilder;"⟩
abbrev cJ5_append_e1f22 : ByteArray := prog_12_method_27_code
def yJ5_append_e1f22 : MethodName := ⟨RJ5, "append", "(Ljava/lang/CharSequence;II)Ljava/lang/AbstractStringBuilder;"⟩
abbrev cJ5_append_a1634 : ByteArray := prog_12_method_28_code
def yJ5_append_a1634 : MethodName := ⟨RJ5, "append", "([C)Ljava/lang/AbstractStringBuilder;"⟩
abbrev cJ5_append_3fe6f : ByteArray := prog_12_method_31_code
def yJ5_append_3fe6f : MethodName := ⟨RJ5, "append", "(C)Ljava/lang/AbstractStringBuilder;"⟩
abbrev cJ5_append_c97b9 : ByteArray := prog_12_method_32_code
def yJ5_append_c97b9 : MethodName := ⟨RJ5, "append", "(I)Ljava/lang/AbstractStringBuilder;"⟩
abbrev cJ5_append_66267 : ByteArray := prog_12_method_33_code
def yJ5_append_66267 : MethodName := ⟨RJ5, "append", "(J)Ljava/lang/AbstractStringBuilder;"⟩
abbrev cJ5_append_b089e : ByteArray := prog_12_method_34_code
def yJ5_append_b089e : MethodName := ⟨RJ5, "append", "(F)Ljava/lang/AbstractStringBuilder;"⟩
abbrev cJ5_append_9cb98 : ByteArray := prog_12_method_35_code
def yJ5_append_9cb98 : MethodName := ⟨RJ5, "append", "(D)Ljava/lang/AbstractStringBuilder;"⟩
abbrev cJ5_getValue_6d5f1 : ByteArray := prog_12_method_64_code
def yJ5_getValue_6d5f1 : MethodName := ⟨RJ5, "getValue", "()[B"⟩
abbrev cJ5_getBytes_840e7 : ByteArray := prog_12_method_65_code
def yJ5_getBytes_840e7 : MethodName := ⟨RJ5, "getBytes", "([BIB)V"⟩
abbrev cJ5_getCoder_7d493 : ByteArray := prog_12_method_67_code
def yJ5_getCoder_7d493 : MethodName := ⟨RJ5, "getCoder", "()B"⟩
abbrev cJ5_isLatin1_aae02 : ByteArray := prog_12_method_68_code
def yJ5_isLatin1_aae02 : MethodName := ⟨RJ5, "isLatin1", "()Z"⟩
abbrev cJ5_inflateIfNeededFor_a7421 : ByteArray := prog_12_method_71_code
def yJ5_inflateIfNeededFor_a7421 : MethodName := ⟨RJ5, "inflateIfNeededFor", "(Ljava/lang/String;)V"⟩
abbrev cJ5_inflateIfNeededFor_56e69 : ByteArray := prog_12_method_72_code
def yJ5_inflateIfNeededFor_56e69 : MethodName := ⟨RJ5, "inflateIfNeededFor", "(Ljava/lang/AbstractStringBuilder;)V"⟩
abbrev cJ5_putStringAt_47b60 : ByteArray := prog_12_method_73_code
def yJ5_putStringAt_47b60 : MethodName := ⟨RJ5, "putStringAt", "(ILjava/lang/String;)V"⟩
abbrev cJ5_appendChars_0ad70 : ByteArray := prog_12_method_74_code
def yJ5_appendChars_0ad70 : MethodName := ⟨RJ5, "appendChars", "([CII)V"⟩
abbrev cJ5_appendChars_3135b : ByteArray := prog_12_method_75_code
def yJ5_appendChars_3135b : MethodName := ⟨RJ5, "appendChars", "(Ljava/lang/String;II)V"⟩
abbrev cJ5_appendChars_a91ff : ByteArray := prog_12_method_76_code
def yJ5_appendChars_a91ff : MethodName := ⟨RJ5, "appendChars", "(Ljava/lang/CharSequence;II)V"⟩
def RJx2cfe8 : String := "java/lang/Appendable"
def TJx2cfe8 : u_T := fun k => match k with
  | _ => ("", "", "", false)
def tyJx2cfe8 : Nat → FieldType := fun k => match k with
  | _ => .int
abbrev wsJx2cfe80 : List Cond := u_ws RJx2cfe8 TJx2cfe8 0
theorem nmJx2cfe8 : ∀ a, a < 0 → ∀ b, b < 0 → a ≠ b → (TJx2cfe8 a).2.1 ≠ (TJx2cfe8 b).2.1 := by decide +kernel
theorem tyJx2cfe8_ok : ∀ k, k < 0 → parseFieldDescriptor (TJx2cfe8 k).2.2.1 = some (tyJx2cfe8 k) := by decide +kernel
def RJx00060 : String := "java/lang/ArrayIndexOutOfBoundsException"
def TJx00060 : u_T := fun k => match k with
  | 0 => ("java/lang/Throwable", "backtrace", "Ljava/lang/Object;", false)
  | 1 => ("java/lang/Throwable", "detailMessage", "Ljava/lang/String;", false)
  | 2 => ("java/lang/Throwable", "cause", "Ljava/lang/Throwable;", false)
  | 3 => ("java/lang/Throwable", "stackTrace", "[Ljava/lang/StackTraceElement;", false)
  | 4 => ("java/lang/Throwable", "depth", "I", false)
  | _ => ("java/lang/Throwable", "suppressedExceptions", "Ljava/util/List;", false)
def tyJx00060 : Nat → FieldType := fun k => match k with
  | 0 => .object "java/lang/Object"
  | 1 => .object "java/lang/String"
  | 2 => .object "java/lang/Throwable"
  | 3 => .array (.object "java/lang/StackTraceElement")
  | 4 => .int
  | _ => .object "java/util/List"
abbrev wsJx000600 : List Cond := u_ws RJx00060 TJx00060 6
theorem nmJx00060 : ∀ a, a < 6 → ∀ b, b < 6 → a ≠ b → (TJx00060 a).2.1 ≠ (TJx00060 b).2.1 := by decide +kernel
theorem tyJx00060_ok : ∀ k, k < 6 → parseFieldDescriptor (TJx00060 k).2.2.1 = some (tyJx00060 k) := by decide +kernel
abbrev cJx00060_init_a7421 : ByteArray := prog_15_method_2_code
def yJx00060_init_a7421 : MethodName := ⟨RJx00060, "<init>", "(Ljava/lang/String;)V"⟩
def RJx9f9b0 : String := "java/lang/CharSequence"
def TJx9f9b0 : u_T := fun k => match k with
  | _ => ("", "", "", false)
def tyJx9f9b0 : Nat → FieldType := fun k => match k with
  | _ => .int
abbrev wsJx9f9b00 : List Cond := u_ws RJx9f9b0 TJx9f9b0 0
theorem nmJx9f9b0 : ∀ a, a < 0 → ∀ b, b < 0 → a ≠ b → (TJx9f9b0 a).2.1 ≠ (TJx9f9b0 b).2.1 := by decide +kernel
theorem tyJx9f9b0_ok : ∀ k, k < 0 → parseFieldDescriptor (TJx9f9b0 k).2.2.1 = some (tyJx9f9b0 k) := by decide +kernel
def RJx8e188 : String := "java/lang/Cloneable"
def TJx8e188 : u_T := fun k => match k with
  | _ => ("", "", "", false)
def tyJx8e188 : Nat → FieldType := fun k => match k with
  | _ => .int
abbrev wsJx8e1880 : List Cond := u_ws RJx8e188 TJx8e188 0
theorem nmJx8e188 : ∀ a, a < 0 → ∀ b, b < 0 → a ≠ b → (TJx8e188 a).2.1 ≠ (TJx8e188 b).2.1 := by decide +kernel
theorem tyJx8e188_ok : ∀ k, k < 0 → parseFieldDescriptor (TJx8e188 k).2.2.1 = some (tyJx8e188 k) := by decide +kernel
def RJxb160c : String := "java/lang/Comparable"
def TJxb160c : u_T := fun k => match k with
  | _ => ("", "", "", false)
def tyJxb160c : Nat → FieldType := fun k => match k with
  | _ => .int
abbrev wsJxb160c0 : List Cond := u_ws RJxb160c TJxb160c 0
theorem nmJxb160c : ∀ a, a < 0 → ∀ b, b < 0 → a ≠ b → (TJxb160c a).2.1 ≠ (TJxb160c b).2.1 := by decide +kernel
theorem tyJxb160c_ok : ∀ k, k < 0 → parseFieldDescriptor (TJxb160c k).2.2.1 = some (tyJxb160c k) := by decide +kernel
def RJxe99ae : String := "java/lang/Double"
def TJxe99ae : u_T := fun k => match k with
  | _ => ("", "", "", false)
def tyJxe99ae : Nat → FieldType := fun k => match k with
  | _ => .int
abbrev wsJxe99ae0 : List Cond := u_ws RJxe99ae TJxe99ae 0
theorem nmJxe99ae : ∀ a, a < 0 → ∀ b, b < 0 → a ≠ b → (TJxe99ae a).2.1 ≠ (TJxe99ae b).2.1 := by decide +kernel
theorem tyJxe99ae_ok : ∀ k, k < 0 → parseFieldDescriptor (TJxe99ae k).2.2.1 = some (tyJxe99ae k) := by decide +kernel
def RJxf58ca : String := "java/lang/Float"
def TJxf58ca : u_T := fun k => match k with
  | _ => ("", "", "", false)
def tyJxf58ca : Nat → FieldType := fun k => match k with
  | _ => .int
abbrev wsJxf58ca0 : List Cond := u_ws RJxf58ca TJxf58ca 0
theorem nmJxf58ca : ∀ a, a < 0 → ∀ b, b < 0 → a ≠ b → (TJxf58ca a).2.1 ≠ (TJxf58ca b).2.1 := by decide +kernel
theorem tyJxf58ca_ok : ∀ k, k < 0 → parseFieldDescriptor (TJxf58ca k).2.2.1 = some (tyJxf58ca k) := by decide +kernel
def RJ6 : String := "java/lang/Integer"
def TJ6 : u_T := fun k => match k with
  | _ => ("", "", "", false)
def tyJ6 : Nat → FieldType := fun k => match k with
  | _ => .int
abbrev wsJ60 : List Cond := u_ws RJ6 TJ6 0
theorem nmJ6 : ∀ a, a < 0 → ∀ b, b < 0 → a ≠ b → (TJ6 a).2.1 ≠ (TJ6 b).2.1 := by decide +kernel
theorem tyJ6_ok : ∀ k, k < 0 → parseFieldDescriptor (TJ6 k).2.2.1 = some (tyJ6 k) := by decide +kernel
abbrev cJ6_getChars_ba4f3 : ByteArray := prog_25_method_12_code
def yJ6_getChars_ba4f3 : MethodName := ⟨RJ6, "getChars", "(II[B)I"⟩
abbrev cJ6_stringSize_0f7a4 : ByteArray := prog_25_method_13_code
def yJ6_stringSize_0f7a4 : MethodName := ⟨RJ6, "stringSize", "(I)I"⟩
abbrev cJ6_numberOfLeadingZeros_0f7a4 : ByteArray := prog_25_method_47_code
def yJ6_numberOfLeadingZeros_0f7a4 : MethodName := ⟨RJ6, "numberOfLeadingZeros", "(I)I"⟩
def RJ13 : String := "java/lang/Long"
def TJ13 : u_T := fun k => match k with
  | _ => ("", "", "", false)
def tyJ13 : Nat → FieldType := fun k => match k with
  | _ => .int
abbrev wsJ130 : List Cond := u_ws RJ13 TJ13 0
theorem nmJ13 : ∀ a, a < 0 → ∀ b, b < 0 → a ≠ b → (TJ13 a).2.1 ≠ (TJ13 b).2.1 := by decide +kernel
theorem tyJ13_ok : ∀ k, k < 0 → parseFieldDescriptor (TJ13 k).2.2.1 = some (tyJ13 k) := by decide +kernel
abbrev cJ13_getChars_11360 : ByteArray := prog_26_method_14_code
def yJ13_getChars_11360 : MethodName := ⟨RJ13, "getChars", "(JI[B)I"⟩
abbrev cJ13_stringSize_95d88 : ByteArray := prog_26_method_15_code
def yJ13_stringSize_95d88 : MethodName := ⟨RJ13, "stringSize", "(J)I"⟩
abbrev cJ13_numberOfLeadingZeros_95d88 : ByteArray := prog_26_method_48_code
def yJ13_numberOfLeadingZeros_95d88 : MethodName := ⟨RJ13, "numberOfLeadingZeros", "(J)I"⟩
def RJ9 : String := "java/lang/Math"
def TJ9 : u_T := fun k => match k with
  | _ => ("", "", "", false)
def tyJ9 : Nat → FieldType := fun k => match k with
  | _ => .int
abbrev wsJ90 : List Cond := u_ws RJ9 TJ9 0
theorem nmJ9 : ∀ a, a < 0 → ∀ b, b < 0 → a ≠ b → (TJ9 a).2.1 ≠ (TJ9 b).2.1 := by decide +kernel
theorem tyJ9_ok : ∀ k, k < 0 → parseFieldDescriptor (TJ9 k).2.2.1 = some (tyJ9 k) := by decide +kernel
abbrev cJ9_multiplyHigh_f86c9 : ByteArray := prog_27_method_45_code
def yJ9_multiplyHigh_f86c9 : MethodName := ⟨RJ9, "multiplyHigh", "(JJ)J"⟩
abbrev cJ9_abs_0f7a4 : ByteArray := prog_27_method_59_code
def yJ9_abs_0f7a4 : MethodName := ⟨RJ9, "abs", "(I)I"⟩
abbrev cJ9_max_7cf53 : ByteArray := prog_27_method_65_code
def yJ9_max_7cf53 : MethodName := ⟨RJ9, "max", "(II)I"⟩
abbrev cJ9_min_7cf53 : ByteArray := prog_27_method_69_code
def yJ9_min_7cf53 : MethodName := ⟨RJ9, "min", "(II)I"⟩
def RJxd2413 : String := "java/lang/Number"
def TJxd2413 : u_T := fun k => match k with
  | _ => ("", "", "", false)
def tyJxd2413 : Nat → FieldType := fun k => match k with
  | _ => .int
abbrev wsJxd24130 : List Cond := u_ws RJxd2413 TJxd2413 0
theorem nmJxd2413 : ∀ a, a < 0 → ∀ b, b < 0 → a ≠ b → (TJxd2413 a).2.1 ≠ (TJxd2413 b).2.1 := by decide +kernel
theorem tyJxd2413_ok : ∀ k, k < 0 → parseFieldDescriptor (TJxd2413 k).2.2.1 = some (tyJxd2413 k) := by decide +kernel
def RJ0 : String := "java/lang/String"
def TJ0 : u_T := fun k => match k with
  | 0 => ("java/lang/String", "value", "[B", true)
  | 1 => ("java/lang/String", "coder", "B", true)
  | 2 => ("java/lang/String", "hash", "I", false)
  | _ => ("java/lang/String", "hashIsZero", "Z", false)
def tyJ0 : Nat → FieldType := fun k => match k with
  | 0 => .array .byte
  | 1 => .byte
  | 2 => .int
  | _ => .boolean
abbrev wsJ00 : List Cond := u_ws RJ0 TJ0 4
theorem nmJ0 : ∀ a, a < 4 → ∀ b, b < 4 → a ≠ b → (TJ0 a).2.1 ≠ (TJ0 b).2.1 := by decide +kernel
theorem tyJ0_ok : ∀ k, k < 4 → parseFieldDescriptor (TJ0 k).2.2.1 = some (tyJ0 k) := by decide +kernel
abbrev cJ0_init_81219 : ByteArray := prog_30_method_53_code
def yJ0_init_81219 : MethodName := ⟨RJ0, "<init>", "(Ljava/lang/StringBuilder;)V"⟩
abbrev cJ0_length_8abf5 : ByteArray := prog_30_method_54_code
def yJ0_length_8abf5 : MethodName := ⟨RJ0, "length", "()I"⟩
abbrev cJ0_charAt_5068e : ByteArray := prog_30_method_56_code
def yJ0_charAt_5068e : MethodName := ⟨RJ0, "charAt", "(I)C"⟩
abbrev cJ0_equals_9ea2d : ByteArray := prog_30_method_66_code
def yJ0_equals_9ea2d : MethodName := ⟨RJ0, "equals", "(Ljava/lang/Object;)Z"⟩
abbrev cJ0_getBytes_840e7 : ByteArray := prog_30_method_147_code
def yJ0_getBytes_840e7 : MethodName := ⟨RJ0, "getBytes", "([BIB)V"⟩
abbrev cJ0_init_db425 : ByteArray := prog_30_method_150_code
def yJ0_init_db425 : MethodName := ⟨RJ0, "<init>", "(Ljava/lang/AbstractStringBuilder;Ljava/lang/Void;)V"⟩
abbrev cJ0_coder_7d493 : ByteArray := prog_30_method_152_code
def yJ0_coder_7d493 : MethodName := ⟨RJ0, "coder", "()B"⟩
abbrev cJ0_value_6d5f1 : ByteArray := prog_30_method_153_code
def yJ0_value_6d5f1 : MethodName := ⟨RJ0, "value", "()[B"⟩
abbrev cJ0_isLatin1_aae02 : ByteArray := prog_30_method_154_code
def yJ0_isLatin1_aae02 : MethodName := ⟨RJ0, "isLatin1", "()Z"⟩
abbrev cJ0_checkIndex_df160 : ByteArray := prog_30_method_155_code
def yJ0_checkIndex_df160 : MethodName := ⟨RJ0, "checkIndex", "(II)V"⟩
abbrev cJ0_checkBoundsOffCount_cabcc : ByteArray := prog_30_method_157_code
def yJ0_checkBoundsOffCount_cabcc : MethodName := ⟨RJ0, "checkBoundsOffCount", "(III)I"⟩
abbrev cJ0_checkBoundsBeginEnd_23922 : ByteArray := prog_30_method_158_code
def yJ0_checkBoundsBeginEnd_23922 : MethodName := ⟨RJ0, "checkBoundsBeginEnd", "(III)V"⟩
def RJxe8eeb : String := "java/lang/StringBuffer"
def TJxe8eeb : u_T := fun k => match k with
  | _ => ("", "", "", false)
def tyJxe8eeb : Nat → FieldType := fun k => match k with
  | _ => .int
abbrev wsJxe8eeb0 : List Cond := u_ws RJxe8eeb TJxe8eeb 0
theorem nmJxe8eeb : ∀ a, a < 0 → ∀ b, b < 0 → a ≠ b → (TJxe8eeb a).2.1 ≠ (TJxe8eeb b).2.1 := by decide +kernel
theorem tyJxe8eeb_ok : ∀ k, k < 0 → parseFieldDescriptor (TJxe8eeb k).2.2.1 = some (tyJxe8eeb k) := by decide +kernel
abbrev cJxe8eeb_append_b568b : ByteArray := prog_31_method_24_code
def yJxe8eeb_append_b568b : MethodName := ⟨RJxe8eeb, "append", "([C)Ljava/lang/StringBuffer;"⟩
def RJ4 : String := "java/lang/StringBuilder"
def TJ4 : u_T := fun k => match k with
  | 0 => ("java/lang/AbstractStringBuilder", "value", "[B", false)
  | 1 => ("java/lang/AbstractStringBuilder", "coder", "B", false)
  | 2 => ("java/lang/AbstractStringBuilder", "maybeLatin1", "Z", false)
  | _ => ("java/lang/AbstractStringBuilder", "count", "I", false)
def tyJ4 : Nat → FieldType := fun k => match k with
  | 0 => .array .byte
  | 1 => .byte
  | 2 => .boolean
  | _ => .int
abbrev wsJ40 : List Cond := u_ws RJ4 TJ4 4
theorem nmJ4 : ∀ a, a < 4 → ∀ b, b < 4 → a ≠ b → (TJ4 a).2.1 ≠ (TJ4 b).2.1 := by decide +kernel
theorem tyJ4_ok : ∀ k, k < 4 → parseFieldDescriptor (TJ4 k).2.2.1 = some (tyJ4 k) := by decide +kernel
abbrev cJ4_init_da8c8 : ByteArray := prog_32_method_1_code
def yJ4_init_da8c8 : MethodName := ⟨RJ4, "<init>", "()V"⟩
abbrev cJ4_append_15ec4 : ByteArray := prog_32_method_7_code
def yJ4_append_15ec4 : MethodName := ⟨RJ4, "append", "(Ljava/lang/String;)Ljava/lang/StringBuilder;"⟩
abbrev cJ4_append_1fab5 : ByteArray := prog_32_method_9_code
def yJ4_append_1fab5 : MethodName := ⟨RJ4, "append", "(Ljava/lang/CharSequence;)Ljava/lang/StringBuilder;"⟩
abbrev cJ4_append_69d29 : ByteArray := prog_32_method_10_code
def yJ4_append_69d29 : MethodName := ⟨RJ4, "append", "(Ljava/lang/CharSequence;II)Ljava/lang/StringBuilder;"⟩
abbrev cJ4_append_37e8c : ByteArray := prog_32_method_11_code
def yJ4_append_37e8c : MethodName := ⟨RJ4, "append", "([C)Ljava/lang/StringBuilder;"⟩
abbrev cJ4_append_cf468 : ByteArray := prog_32_method_14_code
def yJ4_append_cf468 : MethodName := ⟨RJ4, "append", "(C)Ljava/lang/StringBuilder;"⟩
abbrev cJ4_append_bf812 : ByteArray := prog_32_method_15_code
def yJ4_append_bf812 : MethodName := ⟨RJ4, "append", "(I)Ljava/lang/StringBuilder;"⟩
abbrev cJ4_append_f7089 : ByteArray := prog_32_method_16_code
def yJ4_append_f7089 : MethodName := ⟨RJ4, "append", "(J)Ljava/lang/StringBuilder;"⟩
abbrev cJ4_append_9d4c8 : ByteArray := prog_32_method_17_code
def yJ4_append_9d4c8 : MethodName := ⟨RJ4, "append", "(F)Ljava/lang/StringBuilder;"⟩
abbrev cJ4_append_ec4c5 : ByteArray := prog_32_method_18_code
def yJ4_append_ec4c5 : MethodName := ⟨RJ4, "append", "(D)Ljava/lang/StringBuilder;"⟩
abbrev cJ4_toString_0e30d : ByteArray := prog_32_method_42_code
def yJ4_toString_0e30d : MethodName := ⟨RJ4, "toString", "()Ljava/lang/String;"⟩
abbrev cJ4_append_e1f22 : ByteArray := prog_32_method_77_code
def yJ4_append_e1f22 : MethodName := ⟨RJ4, "append", "(Ljava/lang/CharSequence;II)Ljava/lang/AbstractStringBuilder;"⟩
abbrev cJ4_append_cf1ce : ByteArray := prog_32_method_80_code
def yJ4_append_cf1ce : MethodName := ⟨RJ4, "append", "(Ljava/lang/String;)Ljava/lang/AbstractStringBuilder;"⟩
abbrev cJ4_charAt_5068e : ByteArray := prog_32_method_88_code
def yJ4_charAt_5068e : MethodName := ⟨RJ4, "charAt", "(I)C"⟩
abbrev cJ4_length_8abf5 : ByteArray := prog_32_method_93_code
def yJ4_length_8abf5 : MethodName := ⟨RJ4, "length", "()I"⟩
abbrev cJ4_append_b3078 : ByteArray := prog_32_method_94_code
def yJ4_append_b3078 : MethodName := ⟨RJ4, "append", "(C)Ljava/lang/Appendable;"⟩
abbrev cJ4_append_996db : ByteArray := prog_32_method_96_code
def yJ4_append_996db : MethodName := ⟨RJ4, "append", "(Ljava/lang/CharSequence;)Ljava/lang/Appendable;"⟩
def RJ1 : String := "java/lang/StringLatin1"
def TJ1 : u_T := fun k => match k with
  | _ => ("", "", "", false)
def tyJ1 : Nat → FieldType := fun k => match k with
  | _ => .int
abbrev wsJ10 : List Cond := u_ws RJ1 TJ1 0
theorem nmJ1 : ∀ a, a < 0 → ∀ b, b < 0 → a ≠ b → (TJ1 a).2.1 ≠ (TJ1 b).2.1 := by decide +kernel
theorem tyJ1_ok : ∀ k, k < 0 → parseFieldDescriptor (TJ1 k).2.2.1 = some (tyJ1 k) := by decide +kernel
abbrev cJ1_charAt_3b067 : ByteArray := prog_33_method_2_code
def yJ1_charAt_3b067 : MethodName := ⟨RJ1, "charAt", "([BI)C"⟩
abbrev cJ1_canEncode_fc78d : ByteArray := prog_33_method_3_code
def yJ1_canEncode_fc78d : MethodName := ⟨RJ1, "canEncode", "(C)Z"⟩
abbrev cJ1_equals_b5fdf : ByteArray := prog_33_method_13_code
def yJ1_equals_b5fdf : MethodName := ⟨RJ1, "equals", "([B[B)Z"⟩
abbrev cJ1_inflate_0e8fd : ByteArray := prog_33_method_50_code
def yJ1_inflate_0e8fd : MethodName := ⟨RJ1, "inflate", "([BI[BII)V"⟩
def RJ2 : String := "java/lang/StringUTF16"
def TJ2 : u_T := fun k => match k with
  | _ => ("", "", "", false)
def tyJ2 : Nat → FieldType := fun k => match k with
  | _ => .int
abbrev wsJ20 : List Cond := u_ws RJ2 TJ2 0
theorem nmJ2 : ∀ a, a < 0 → ∀ b, b < 0 → a ≠ b → (TJ2 a).2.1 ≠ (TJ2 b).2.1 := by decide +kernel
theorem tyJ2_ok : ∀ k, k < 0 → parseFieldDescriptor (TJ2 k).2.2.1 = some (tyJ2 k) := by decide +kernel
abbrev cJ2_newBytesFor_77867 : ByteArray := prog_34_method_2_code
def yJ2_newBytesFor_77867 : MethodName := ⟨RJ2, "newBytesFor", "(I)[B"⟩
abbrev cJ2_newBytesLength_0f7a4 : ByteArray := prog_34_method_3_code
def yJ2_newBytesLength_0f7a4 : MethodName := ⟨RJ2, "newBytesLength", "(I)I"⟩
abbrev cJ2_putChar_b72d1 : ByteArray := prog_34_method_4_code
def yJ2_putChar_b72d1 : MethodName := ⟨RJ2, "putChar", "([BII)V"⟩
abbrev cJ2_getChar_3b067 : ByteArray := prog_34_method_5_code
def yJ2_getChar_3b067 : MethodName := ⟨RJ2, "getChar", "([BI)C"⟩
abbrev cJ2_length_9d52b : ByteArray := prog_34_method_6_code
def yJ2_length_9d52b : MethodName := ⟨RJ2, "length", "([B)I"⟩
abbrev cJ2_coderFromArrayLen_85cad : ByteArray := prog_34_method_15_code
def yJ2_coderFromArrayLen_85cad : MethodName := ⟨RJ2, "coderFromArrayLen", "([BI)B"⟩
abbrev cJ2_compress_39247 : ByteArray := prog_34_method_17_code
def yJ2_compress_39247 : MethodName := ⟨RJ2, "compress", "([BII)[B"⟩
abbrev cJ2_compress_5af95 : ByteArray := prog_34_method_22_code
def yJ2_compress_5af95 : MethodName := ⟨RJ2, "compress", "([BI[BII)I"⟩
abbrev cJ2_putChars_03870 : ByteArray := prog_34_method_68_code
def yJ2_putChars_03870 : MethodName := ⟨RJ2, "putChars", "([BI[CII)V"⟩
abbrev cJ2_putCharSB_b72d1 : ByteArray := prog_34_method_71_code
def yJ2_putCharSB_b72d1 : MethodName := ⟨RJ2, "putCharSB", "([BII)V"⟩
abbrev cJ2_putCharsSB_03870 : ByteArray := prog_34_method_72_code
def yJ2_putCharsSB_03870 : MethodName := ⟨RJ2, "putCharsSB", "([BI[CII)V"⟩
abbrev cJ2_putCharsSB_8fd6a : ByteArray := prog_34_method_73_code
def yJ2_putCharsSB_8fd6a : MethodName := ⟨RJ2, "putCharsSB", "([BILjava/lang/CharSequence;II)V"⟩
abbrev cJ2_getChars_46870 : ByteArray := prog_34_method_77_code
def yJ2_getChars_46870 : MethodName := ⟨RJ2, "getChars", "(III[B)I"⟩
abbrev cJ2_getChars_1ba55 : ByteArray := prog_34_method_78_code
def yJ2_getChars_1ba55 : MethodName := ⟨RJ2, "getChars", "(JII[B)I"⟩
abbrev cJ2_putCharsAt_cd4e5 : ByteArray := prog_34_method_81_code
def yJ2_putCharsAt_cd4e5 : MethodName := ⟨RJ2, "putCharsAt", "([BICCCC)I"⟩
abbrev cJ2_charAt_3b067 : ByteArray := prog_34_method_83_code
def yJ2_charAt_3b067 : MethodName := ⟨RJ2, "charAt", "([BI)C"⟩
abbrev cJ2_inflate_0e8fd : ByteArray := prog_34_method_86_code
def yJ2_inflate_0e8fd : MethodName := ⟨RJ2, "inflate", "([BI[BII)V"⟩
abbrev cJ2_getChars_ba4f3 : ByteArray := prog_34_method_89_code
def yJ2_getChars_ba4f3 : MethodName := ⟨RJ2, "getChars", "(II[B)I"⟩
abbrev cJ2_getChars_11360 : ByteArray := prog_34_method_90_code
def yJ2_getChars_11360 : MethodName := ⟨RJ2, "getChars", "(JI[B)I"⟩
abbrev cJ2_checkIndex_2214a : ByteArray := prog_34_method_91_code
def yJ2_checkIndex_2214a : MethodName := ⟨RJ2, "checkIndex", "(I[B)V"⟩
abbrev cJ2_checkBoundsBeginEnd_d044e : ByteArray := prog_34_method_93_code
def yJ2_checkBoundsBeginEnd_d044e : MethodName := ⟨RJ2, "checkBoundsBeginEnd", "(II[B)V"⟩
abbrev cJ2_checkBoundsOffCount_d044e : ByteArray := prog_34_method_94_code
def yJ2_checkBoundsOffCount_d044e : MethodName := ⟨RJ2, "checkBoundsOffCount", "(II[B)V"⟩
def RJ10 : String := "java/lang/System"
def TJ10 : u_T := fun k => match k with
  | _ => ("", "", "", false)
def tyJ10 : Nat → FieldType := fun k => match k with
  | _ => .int
abbrev wsJ100 : List Cond := u_ws RJ10 TJ10 0
theorem nmJ10 : ∀ a, a < 0 → ∀ b, b < 0 → a ≠ b → (TJ10 a).2.1 ≠ (TJ10 b).2.1 := by decide +kernel
theorem tyJ10_ok : ∀ k, k < 0 → parseFieldDescriptor (TJ10 k).2.2.1 = some (tyJ10 k) := by decide +kernel
def RJxfd54e : String := "java/lang/constant/Constable"
def TJxfd54e : u_T := fun k => match k with
  | _ => ("", "", "", false)
def tyJxfd54e : Nat → FieldType := fun k => match k with
  | _ => .int
abbrev wsJxfd54e0 : List Cond := u_ws RJxfd54e TJxfd54e 0
theorem nmJxfd54e : ∀ a, a < 0 → ∀ b, b < 0 → a ≠ b → (TJxfd54e a).2.1 ≠ (TJxfd54e b).2.1 := by decide +kernel
theorem tyJxfd54e_ok : ∀ k, k < 0 → parseFieldDescriptor (TJxfd54e k).2.2.1 = some (tyJxfd54e k) := by decide +kernel
def RJx3cf43 : String := "java/lang/constant/ConstantDesc"
def TJx3cf43 : u_T := fun k => match k with
  | _ => ("", "", "", false)
def tyJx3cf43 : Nat → FieldType := fun k => match k with
  | _ => .int
abbrev wsJx3cf430 : List Cond := u_ws RJx3cf43 TJx3cf43 0
theorem nmJx3cf43 : ∀ a, a < 0 → ∀ b, b < 0 → a ≠ b → (TJx3cf43 a).2.1 ≠ (TJx3cf43 b).2.1 := by decide +kernel
theorem tyJx3cf43_ok : ∀ k, k < 0 → parseFieldDescriptor (TJx3cf43 k).2.2.1 = some (tyJx3cf43 k) := by decide +kernel
def RJ7 : String := "java/util/Arrays"
def TJ7 : u_T := fun k => match k with
  | _ => ("", "", "", false)
def tyJ7 : Nat → FieldType := fun k => match k with
  | _ => .int
abbrev wsJ70 : List Cond := u_ws RJ7 TJ7 0
theorem nmJ7 : ∀ a, a < 0 → ∀ b, b < 0 → a ≠ b → (TJ7 a).2.1 ≠ (TJ7 b).2.1 := by decide +kernel
theorem tyJ7_ok : ∀ k, k < 0 → parseFieldDescriptor (TJ7 k).2.2.1 = some (tyJ7 k) := by decide +kernel
abbrev cJ7_copyOf_9075b : ByteArray := prog_40_method_121_code
def yJ7_copyOf_9075b : MethodName := ⟨RJ7, "copyOf", "([BI)[B"⟩
abbrev cJ7_checkLength_df160 : ByteArray := prog_40_method_131_code
def yJ7_checkLength_df160 : MethodName := ⟨RJ7, "checkLength", "(II)V"⟩
abbrev cJ7_copyOfRange_39247 : ByteArray := prog_40_method_132_code
def yJ7_copyOfRange_39247 : MethodName := ⟨RJ7, "copyOfRange", "([BII)[B"⟩
abbrev cJ7_copyOfRangeByte_39247 : ByteArray := prog_40_method_133_code
def yJ7_copyOfRangeByte_39247 : MethodName := ⟨RJ7, "copyOfRangeByte", "([BII)[B"⟩
def RJx4497a : String := "jdk/internal/math/DoubleToDecimal"
def TJx4497a : u_T := fun k => match k with
  | 0 => ("jdk/internal/math/DoubleToDecimal", "bytes", "[B", true)
  | _ => ("jdk/internal/math/DoubleToDecimal", "index", "I", false)
def tyJx4497a : Nat → FieldType := fun k => match k with
  | 0 => .array .byte
  | _ => .int
abbrev wsJx4497a0 : List Cond := u_ws RJx4497a TJx4497a 2
theorem nmJx4497a : ∀ a, a < 2 → ∀ b, b < 2 → a ≠ b → (TJx4497a a).2.1 ≠ (TJx4497a b).2.1 := by decide +kernel
theorem tyJx4497a_ok : ∀ k, k < 2 → parseFieldDescriptor (TJx4497a k).2.2.1 = some (tyJx4497a k) := by decide +kernel
abbrev cJx4497a_init_f633c : ByteArray := prog_42_method_1_code
def yJx4497a_init_f633c : MethodName := ⟨RJx4497a, "<init>", "(Z)V"⟩
abbrev cJx4497a_appendTo_00aa9 : ByteArray := prog_42_method_4_code
def yJx4497a_appendTo_00aa9 : MethodName := ⟨RJx4497a, "appendTo", "(DLjava/lang/Appendable;)Ljava/lang/Appendable;"⟩
abbrev cJx4497a_appendDecimalTo_00aa9 : ByteArray := prog_42_method_6_code
def yJx4497a_appendDecimalTo_00aa9 : MethodName := ⟨RJx4497a, "appendDecimalTo", "(DLjava/lang/Appendable;)Ljava/lang/Appendable;"⟩
abbrev cJx4497a_toDecimal_a02bb : ByteArray := prog_42_method_7_code
def yJx4497a_toDecimal_a02bb : MethodName := ⟨RJx4497a, "toDecimal", "(DLjdk/internal/math/FormattedFPDecimal;)I"⟩
abbrev cJx4497a_toDecimal_3416a : ByteArray := prog_42_method_8_code
def yJx4497a_toDecimal_3416a : MethodName := ⟨RJx4497a, "toDecimal", "(IJILjdk/internal/math/FormattedFPDecimal;)I"⟩
abbrev cJx4497a_rop_fb923 : ByteArray := prog_42_method_9_code
def yJx4497a_rop_fb923 : MethodName := ⟨RJx4497a, "rop", "(JJJ)J"⟩
abbrev cJx4497a_toChars_b7021 : ByteArray := prog_42_method_10_code
def yJx4497a_toChars_b7021 : MethodName := ⟨RJx4497a, "toChars", "(JILjdk/internal/math/FormattedFPDecimal;)I"⟩
abbrev cJx4497a_toChars1_7f61f : ByteArray := prog_42_method_11_code
def yJx4497a_toChars1_7f61f : MethodName := ⟨RJx4497a, "toChars1", "(IIII)I"⟩
abbrev cJx4497a_toChars2_7f61f : ByteArray := prog_42_method_12_code
def yJx4497a_toChars2_7f61f : MethodName := ⟨RJx4497a, "toChars2", "(IIII)I"⟩
abbrev cJx4497a_toChars3_7f61f : ByteArray := prog_42_method_13_code
def yJx4497a_toChars3_7f61f : MethodName := ⟨RJx4497a, "toChars3", "(IIII)I"⟩
abbrev cJx4497a_lowDigits_d00df : ByteArray := prog_42_method_14_code
def yJx4497a_lowDigits_d00df : MethodName := ⟨RJx4497a, "lowDigits", "(I)V"⟩
abbrev cJx4497a_append8Digits_d00df : ByteArray := prog_42_method_15_code
def yJx4497a_append8Digits_d00df : MethodName := ⟨RJx4497a, "append8Digits", "(I)V"⟩
abbrev cJx4497a_removeTrailingZeroes_da8c8 : ByteArray := prog_42_method_16_code
def yJx4497a_removeTrailingZeroes_da8c8 : MethodName := ⟨RJx4497a, "removeTrailingZeroes", "()V"⟩
abbrev cJx4497a_y_0f7a4 : ByteArray := prog_42_method_17_code
def yJx4497a_y_0f7a4 : MethodName := ⟨RJx4497a, "y", "(I)I"⟩
abbrev cJx4497a_exponent_d00df : ByteArray := prog_42_method_18_code
def yJx4497a_exponent_d00df : MethodName := ⟨RJx4497a, "exponent", "(I)V"⟩
abbrev cJx4497a_append_d00df : ByteArray := prog_42_method_19_code
def yJx4497a_append_d00df : MethodName := ⟨RJx4497a, "append", "(I)V"⟩
abbrev cJx4497a_appendDigit_d00df : ByteArray := prog_42_method_20_code
def yJx4497a_appendDigit_d00df : MethodName := ⟨RJx4497a, "appendDigit", "(I)V"⟩
def RJx40b00 : String := "jdk/internal/math/FloatToDecimal"
def TJx40b00 : u_T := fun k => match k with
  | 0 => ("jdk/internal/math/FloatToDecimal", "bytes", "[B", true)
  | _ => ("jdk/internal/math/FloatToDecimal", "index", "I", false)
def tyJx40b00 : Nat → FieldType := fun k => match k with
  | 0 => .array .byte
  | _ => .int
abbrev wsJx40b000 : List Cond := u_ws RJx40b00 TJx40b00 2
theorem nmJx40b00 : ∀ a, a < 2 → ∀ b, b < 2 → a ≠ b → (TJx40b00 a).2.1 ≠ (TJx40b00 b).2.1 := by decide +kernel
theorem tyJx40b00_ok : ∀ k, k < 2 → parseFieldDescriptor (TJx40b00 k).2.2.1 = some (tyJx40b00 k) := by decide +kernel
abbrev cJx40b00_init_da8c8 : ByteArray := prog_43_method_1_code
def yJx40b00_init_da8c8 : MethodName := ⟨RJx40b00, "<init>", "()V"⟩
abbrev cJx40b00_appendTo_8d9f2 : ByteArray := prog_43_method_3_code
def yJx40b00_appendTo_8d9f2 : MethodName := ⟨RJx40b00, "appendTo", "(FLjava/lang/Appendable;)Ljava/lang/Appendable;"⟩
abbrev cJx40b00_appendDecimalTo_8d9f2 : ByteArray := prog_43_method_5_code
def yJx40b00_appendDecimalTo_8d9f2 : MethodName := ⟨RJx40b00, "appendDecimalTo", "(FLjava/lang/Appendable;)Ljava/lang/Appendable;"⟩
abbrev cJx40b00_toDecimal_5c35a : ByteArray := prog_43_method_6_code
def yJx40b00_toDecimal_5c35a : MethodName := ⟨RJx40b00, "toDecimal", "(F)I"⟩
abbrev cJx40b00_toDecimal_cabcc : ByteArray := prog_43_method_7_code
def yJx40b00_toDecimal_cabcc : MethodName := ⟨RJx40b00, "toDecimal", "(III)I"⟩
abbrev cJx40b00_rop_74951 : ByteArray := prog_43_method_8_code
def yJx40b00_rop_74951 : MethodName := ⟨RJx40b00, "rop", "(JJ)I"⟩
abbrev cJx40b00_toChars_7cf53 : ByteArray := prog_43_method_9_code
def yJx40b00_toChars_7cf53 : MethodName := ⟨RJx40b00, "toChars", "(II)I"⟩
abbrev cJx40b00_toChars1_cabcc : ByteArray := prog_43_method_10_code
def yJx40b00_toChars1_cabcc : MethodName := ⟨RJx40b00, "toChars1", "(III)I"⟩
abbrev cJx40b00_toChars2_cabcc : ByteArray := prog_43_method_11_code
def yJx40b00_toChars2_cabcc : MethodName := ⟨RJx40b00, "toChars2", "(III)I"⟩
abbrev cJx40b00_toChars3_cabcc : ByteArray := prog_43_method_12_code
def yJx40b00_toChars3_cabcc : MethodName := ⟨RJx40b00, "toChars3", "(III)I"⟩
abbrev cJx40b00_append8Digits_d00df : ByteArray := prog_43_method_13_code
def yJx40b00_append8Digits_d00df : MethodName := ⟨RJx40b00, "append8Digits", "(I)V"⟩
abbrev cJx40b00_removeTrailingZeroes_da8c8 : ByteArray := prog_43_method_14_code
def yJx40b00_removeTrailingZeroes_da8c8 : MethodName := ⟨RJx40b00, "removeTrailingZeroes", "()V"⟩
abbrev cJx40b00_y_0f7a4 : ByteArray := prog_43_method_15_code
def yJx40b00_y_0f7a4 : MethodName := ⟨RJx40b00, "y", "(I)I"⟩
abbrev cJx40b00_exponent_d00df : ByteArray := prog_43_method_16_code
def yJx40b00_exponent_d00df : MethodName := ⟨RJx40b00, "exponent", "(I)V"⟩
abbrev cJx40b00_append_d00df : ByteArray := prog_43_method_17_code
def yJx40b00_append_d00df : MethodName := ⟨RJx40b00, "append", "(I)V"⟩
abbrev cJx40b00_appendDigit_d00df : ByteArray := prog_43_method_18_code
def yJx40b00_appendDigit_d00df : MethodName := ⟨RJx40b00, "appendDigit", "(I)V"⟩
def RJx5991d : String := "jdk/internal/math/FormattedFPDecimal"
def TJx5991d : u_T := fun k => match k with
  | _ => ("", "", "", false)
def tyJx5991d : Nat → FieldType := fun k => match k with
  | _ => .int
abbrev wsJx5991d0 : List Cond := u_ws RJx5991d TJx5991d 0
theorem nmJx5991d : ∀ a, a < 0 → ∀ b, b < 0 → a ≠ b → (TJx5991d a).2.1 ≠ (TJx5991d b).2.1 := by decide +kernel
theorem tyJx5991d_ok : ∀ k, k < 0 → parseFieldDescriptor (TJx5991d k).2.2.1 = some (tyJx5991d k) := by decide +kernel
abbrev cJx5991d_set_6c0ba : ByteArray := prog_44_method_3_code
def yJx5991d_set_6c0ba : MethodName := ⟨RJx5991d, "set", "(JII)V"⟩
def RJx25f51 : String := "jdk/internal/math/MathUtils"
def TJx25f51 : u_T := fun k => match k with
  | _ => ("", "", "", false)
def tyJx25f51 : Nat → FieldType := fun k => match k with
  | _ => .int
abbrev wsJx25f510 : List Cond := u_ws RJx25f51 TJx25f51 0
theorem nmJx25f51 : ∀ a, a < 0 → ∀ b, b < 0 → a ≠ b → (TJx25f51 a).2.1 ≠ (TJx25f51 b).2.1 := by decide +kernel
theorem tyJx25f51_ok : ∀ k, k < 0 → parseFieldDescriptor (TJx25f51 k).2.2.1 = some (tyJx25f51 k) := by decide +kernel
abbrev cJx25f51_pow10_3e8ac : ByteArray := prog_45_method_2_code
def yJx25f51_pow10_3e8ac : MethodName := ⟨RJx25f51, "pow10", "(I)J"⟩
abbrev cJx25f51_flog10pow2_0f7a4 : ByteArray := prog_45_method_3_code
def yJx25f51_flog10pow2_0f7a4 : MethodName := ⟨RJx25f51, "flog10pow2", "(I)I"⟩
abbrev cJx25f51_flog10threeQuartersPow2_0f7a4 : ByteArray := prog_45_method_4_code
def yJx25f51_flog10threeQuartersPow2_0f7a4 : MethodName := ⟨RJx25f51, "flog10threeQuartersPow2", "(I)I"⟩
abbrev cJx25f51_flog2pow10_0f7a4 : ByteArray := prog_45_method_5_code
def yJx25f51_flog2pow10_0f7a4 : MethodName := ⟨RJx25f51, "flog2pow10", "(I)I"⟩
abbrev cJx25f51_g1_3e8ac : ByteArray := prog_45_method_6_code
def yJx25f51_g1_3e8ac : MethodName := ⟨RJx25f51, "g1", "(I)J"⟩
abbrev cJx25f51_g0_3e8ac : ByteArray := prog_45_method_7_code
def yJx25f51_g0_3e8ac : MethodName := ⟨RJx25f51, "g0", "(I)J"⟩
def RJ8 : String := "jdk/internal/util/ArraysSupport"
def TJ8 : u_T := fun k => match k with
  | _ => ("", "", "", false)
def tyJ8 : Nat → FieldType := fun k => match k with
  | _ => .int
abbrev wsJ80 : List Cond := u_ws RJ8 TJ8 0
theorem nmJ8 : ∀ a, a < 0 → ∀ b, b < 0 → a ≠ b → (TJ8 a).2.1 ≠ (TJ8 b).2.1 := by decide +kernel
theorem tyJ8_ok : ∀ k, k < 0 → parseFieldDescriptor (TJ8 k).2.2.1 = some (tyJ8 k) := by decide +kernel
abbrev cJ8_newLength_cabcc : ByteArray := prog_46_method_27_code
def yJ8_newLength_cabcc : MethodName := ⟨RJ8, "newLength", "(III)I"⟩
abbrev cJ8_hugeLength_7cf53 : ByteArray := prog_46_method_28_code
def yJ8_hugeLength_7cf53 : MethodName := ⟨RJ8, "hugeLength", "(II)I"⟩
def RJ3 : String := "jdk/internal/util/Preconditions"
def TJ3 : u_T := fun k => match k with
  | _ => ("", "", "", false)
def tyJ3 : Nat → FieldType := fun k => match k with
  | _ => .int
abbrev wsJ30 : List Cond := u_ws RJ3 TJ3 0
theorem nmJ3 : ∀ a, a < 0 → ∀ b, b < 0 → a ≠ b → (TJ3 a).2.1 ≠ (TJ3 b).2.1 := by decide +kernel
theorem tyJ3_ok : ∀ k, k < 0 → parseFieldDescriptor (TJ3 k).2.2.1 = some (tyJ3 k) := by decide +kernel
abbrev cJ3_checkIndex_8e157 : ByteArray := prog_47_method_11_code
def yJ3_checkIndex_8e157 : MethodName := ⟨RJ3, "checkIndex", "(IILjava/util/function/BiFunction;)I"⟩
abbrev cJ3_checkFromToIndex_8c36e : ByteArray := prog_47_method_12_code
def yJ3_checkFromToIndex_8c36e : MethodName := ⟨RJ3, "checkFromToIndex", "(IIILjava/util/function/BiFunction;)I"⟩
abbrev cJ3_checkFromIndexSize_8c36e : ByteArray := prog_47_method_13_code
def yJ3_checkFromIndexSize_8c36e : MethodName := ⟨RJ3, "checkFromIndexSize", "(IIILjava/util/function/BiFunction;)I"⟩
def RL : String := "DyehouseLedgerLaw"
abbrev cL_cell : ByteArray := method_2_code
def yL_cell : MethodName := ⟨RL, "cell", "([II)I"⟩
abbrev cL_addRecipe : ByteArray := method_3_code
def yL_addRecipe : MethodName := ⟨RL, "addRecipe", "(LDyehouseLedger;III)I"⟩
abbrev cL_setDye : ByteArray := method_4_code
def yL_setDye : MethodName := ⟨RL, "setDye", "(LDyehouseLedger;III)I"⟩
abbrev cL_supply : ByteArray := method_5_code
def yL_supply : MethodName := ⟨RL, "supply", "(LDyehouseLedger;II)I"⟩
abbrev cL_stock : ByteArray := method_6_code
def yL_stock : MethodName := ⟨RL, "stock", "(LDyehouseLedger;I)I"⟩
abbrev cL_addOrder : ByteArray := method_7_code
def yL_addOrder : MethodName := ⟨RL, "addOrder", "(LDyehouseLedger;IIIII)I"⟩
abbrev cL_addLot : ByteArray := method_8_code
def yL_addLot : MethodName := ⟨RL, "addLot", "(LDyehouseLedger;II)I"⟩
abbrev cL_addVat : ByteArray := method_9_code
def yL_addVat : MethodName := ⟨RL, "addVat", "(LDyehouseLedger;I)I"⟩
abbrev cL_needs : ByteArray := method_10_code
def yL_needs : MethodName := ⟨RL, "needs", "(LDyehouseLedger;II)I"⟩
abbrev cL_hoursFor : ByteArray := method_11_code
def yL_hoursFor : MethodName := ⟨RL, "hoursFor", "(LDyehouseLedger;I)I"⟩
abbrev cL_reason : ByteArray := method_12_code
def yL_reason : MethodName := ⟨RL, "reason", "(LDyehouseLedger;II)I"⟩
abbrev cL_dye : ByteArray := method_13_code
def yL_dye : MethodName := ⟨RL, "dye", "(LDyehouseLedger;IIIII)I"⟩
abbrev cL_clean : ByteArray := method_14_code
def yL_clean : MethodName := ⟨RL, "clean", "(LDyehouseLedger;I)I"⟩
abbrev cL_verdict : ByteArray := method_15_code
def yL_verdict : MethodName := ⟨RL, "verdict", "(LDyehouseLedger;I)I"⟩
abbrev cL_judge : ByteArray := method_16_code
def yL_judge : MethodName := ⟨RL, "judge", "(LDyehouseLedger;I)I"⟩
abbrev cL_again : ByteArray := method_17_code
def yL_again : MethodName := ⟨RL, "again", "(LDyehouseLedger;I)I"⟩
abbrev cL_plan : ByteArray := method_18_code
def yL_plan : MethodName := ⟨RL, "plan", "(LDyehouseLedger;II)I"⟩
abbrev cL_unplan : ByteArray := method_19_code
def yL_unplan : MethodName := ⟨RL, "unplan", "(LDyehouseLedger;I)I"⟩
abbrev cL_planned : ByteArray := method_20_code
def yL_planned : MethodName := ⟨RL, "planned", "(LDyehouseLedger;I)I"⟩
abbrev cL_plannedAt : ByteArray := method_21_code
def yL_plannedAt : MethodName := ⟨RL, "plannedAt", "(LDyehouseLedger;II)I"⟩
abbrev cL_leastHours : ByteArray := method_22_code
def yL_leastHours : MethodName := ⟨RL, "leastHours", "(LDyehouseLedger;I)I"⟩
abbrev cL_leastByAll : ByteArray := method_23_code
def yL_leastByAll : MethodName := ⟨RL, "leastByAll", "(LDyehouseLedger;I)I"⟩
abbrev cL_firstOf : ByteArray := method_24_code
def yL_firstOf : MethodName := ⟨RL, "firstOf", "(LDyehouseLedger;I)I"⟩
abbrev cL_stateOf : ByteArray := method_25_code
def yL_stateOf : MethodName := ⟨RL, "stateOf", "(LDyehouseLedger;I)I"⟩
abbrev cL_shadeOf : ByteArray := method_26_code
def yL_shadeOf : MethodName := ⟨RL, "shadeOf", "(LDyehouseLedger;II)I"⟩
abbrev cL_vatOf : ByteArray := method_27_code
def yL_vatOf : MethodName := ⟨RL, "vatOf", "(LDyehouseLedger;I)I"⟩
abbrev cL_offBy : ByteArray := method_28_code
def yL_offBy : MethodName := ⟨RL, "offBy", "(LDyehouseLedger;I)I"⟩
abbrev cL_distance : ByteArray := method_29_code
def yL_distance : MethodName := ⟨RL, "distance", "(LDyehouseLedger;II)I"⟩
abbrev cL_nearest : ByteArray := method_30_code
def yL_nearest : MethodName := ⟨RL, "nearest", "(LDyehouseLedger;I)I"⟩
abbrev cL_byLight : ByteArray := method_31_code
def yL_byLight : MethodName := ⟨RL, "byLight", "(LDyehouseLedger;I)I"⟩
abbrev cL_clock : ByteArray := method_32_code
def yL_clock : MethodName := ⟨RL, "clock", "(LDyehouseLedger;I)I"⟩
abbrev cL_cleanings : ByteArray := method_33_code
def yL_cleanings : MethodName := ⟨RL, "cleanings", "(LDyehouseLedger;I)I"⟩
abbrev cL_lightIn : ByteArray := method_34_code
def yL_lightIn : MethodName := ⟨RL, "lightIn", "(LDyehouseLedger;I)I"⟩
abbrev cL_customerOf : ByteArray := method_35_code
def yL_customerOf : MethodName := ⟨RL, "customerOf", "(LDyehouseLedger;I)I"⟩
abbrev cL_lotsOf : ByteArray := method_36_code
def yL_lotsOf : MethodName := ⟨RL, "lotsOf", "(LDyehouseLedger;I)I"⟩
abbrev cL_spread : ByteArray := method_38_code
def yL_spread : MethodName := ⟨RL, "spread", "(LDyehouseLedger;I)I"⟩
abbrev cL_lateBy : ByteArray := method_39_code
def yL_lateBy : MethodName := ⟨RL, "lateBy", "(LDyehouseLedger;I)I"⟩
abbrev cL_due : ByteArray := method_40_code
def yL_due : MethodName := ⟨RL, "due", "(LDyehouseLedger;I)I"⟩
abbrev cL_dues : ByteArray := method_41_code
def yL_dues : MethodName := ⟨RL, "dues", "(LDyehouseLedger;I)J"⟩
abbrev cL_used : ByteArray := method_42_code
def yL_used : MethodName := ⟨RL, "used", "(LDyehouseLedger;I)J"⟩
abbrev cL_passedShare : ByteArray := method_43_code
def yL_passedShare : MethodName := ⟨RL, "passedShare", "(LDyehouseLedger;)F"⟩
abbrev cL_meanOff : ByteArray := method_44_code
def yL_meanOff : MethodName := ⟨RL, "meanOff", "(LDyehouseLedger;)D"⟩
abbrev cL_number : ByteArray := method_45_code
def yL_number : MethodName := ⟨RL, "number", "(LDyehouseLedgerLaw$Draw;II)I"⟩
abbrev cL_acts : ByteArray := method_46_code
def yL_acts : MethodName := ⟨RL, "acts", "(LDyehouseLedger;ILDyehouseLedgerLaw$Draw;)I"⟩
abbrev cL_told : ByteArray := method_47_code
def yL_told : MethodName := ⟨RL, "told", "(LDyehouseLedger;)Ljava/lang/String;"⟩
abbrev cL_ordered : ByteArray := method_48_code
def yL_ordered : MethodName := ⟨RL, "ordered", "(LDyehouseLedger;)Z"⟩
abbrev cL_sorted : ByteArray := method_49_code
def yL_sorted : MethodName := ⟨RL, "sorted", "(LDyehouseLedger;)Z"⟩
abbrev cL_plans : ByteArray := method_50_code
def yL_plans : MethodName := ⟨RL, "plans", "(LDyehouseLedger;I)Z"⟩
abbrev cL_neared : ByteArray := method_51_code
def yL_neared : MethodName := ⟨RL, "neared", "(LDyehouseLedger;II)Z"⟩
abbrev cL_law : ByteArray := code
def yL_law : MethodName := ⟨RL, "law", "([I)Z"⟩
def wsX4_init : List Cond := .code yX4_init cX4_init 4 none :: ([.methodLink RX4 1 objectInit, .instanceMethod objectInit, .code objectInit ⟨#[0xb1]⟩ 1 none, .fieldLink RX4 7 "DyehouseLedger$Shade" "light" "I", .fieldLink RX4 13 "DyehouseLedger$Shade" "red" "I", .fieldLink RX4 16 "DyehouseLedger$Shade" "blue" "I"] ++ wsX40)
def wsX0_init : List Cond := .code yX0_init cX0_init 4 none :: ([.methodLink RX0 3 objectInit, .instanceMethod objectInit, .code objectInit ⟨#[0xb1]⟩ 1 none, .fieldLink RX0 9 "DyehouseLedger$Lot" "number" "I", .fieldLink RX0 15 "DyehouseLedger$Lot" "order" "LDyehouseLedger$Order;", .fieldLink RX0 19 "DyehouseLedger$Lot" "weight" "I", .classLink RX0 22 RX4, .instantiable RX4 3, .initialized RX4, .fieldLink RX0 27 "DyehouseLedger$Lot" "shade" "LDyehouseLedger$Shade;", .fieldLink RX0 31 "DyehouseLedger$Lot" "state" "C", .methodLink RX0 24 yX4_init, .instanceMethod yX4_init, .code yX4_init cX4_init 4 none, .methodLink RX4 1 objectInit, .fieldLink RX4 7 "DyehouseLedger$Shade" "light" "I", .fieldLink RX4 13 "DyehouseLedger$Shade" "red" "I", .fieldLink RX4 16 "DyehouseLedger$Shade" "blue" "I"] ++ wsX00 ++ wsX40)
def wsX0_dyeingHours : List Cond := .code yX0_dyeingHours cX0_dyeingHours 1 (some .int) :: ([.fieldLink RX0 19 "DyehouseLedger$Lot" "weight" "I"] ++ wsX00)
def wsX0_gramsNeeded : List Cond := .code yX0_gramsNeeded cX0_gramsNeeded 2 (some .int) :: ([.fieldLink RX0 15 "DyehouseLedger$Lot" "order" "LDyehouseLedger$Order;", .fieldLink RX0 35 "DyehouseLedger$Order" "recipe" "LDyehouseLedger$Recipe;", .fieldLink RX0 41 "DyehouseLedger$Recipe" "grams" "[I", .fieldLink RX0 19 "DyehouseLedger$Lot" "weight" "I"] ++ wsX00 ++ wsX10 ++ wsX30 ++ (vx_atM "java/lang/ArrayIndexOutOfBoundsException" ["java/lang/IndexOutOfBoundsException", "java/lang/RuntimeException", "java/lang/Exception"]).filter goodWord)
def wsX4_distanceTo : List Cond := .code yX4_distanceTo cX4_distanceTo 2 (some .int) :: ([.fieldLink RX4 7 "DyehouseLedger$Shade" "light" "I", .methodLink RX4 19 Lib.Math.abs.name, .static Lib.Math.abs.name, .initialized "java/lang/Math", .code Lib.Math.abs.name Lib.Math.abs.code 1 (some .int), .fieldLink RX4 13 "DyehouseLedger$Shade" "red" "I", .fieldLink RX4 16 "DyehouseLedger$Shade" "blue" "I"] ++ wsX40)
def wsX0_distanceFromRecipe : List Cond := .code yX0_distanceFromRecipe cX0_distanceFromRecipe 1 (some .int) :: ([.fieldLink RX0 27 "DyehouseLedger$Lot" "shade" "LDyehouseLedger$Shade;", .fieldLink RX0 15 "DyehouseLedger$Lot" "order" "LDyehouseLedger$Order;", .fieldLink RX0 35 "DyehouseLedger$Order" "recipe" "LDyehouseLedger$Recipe;", .fieldLink RX0 47 "DyehouseLedger$Recipe" "shade" "LDyehouseLedger$Shade;", .methodLink RX0 48 yX4_distanceTo, .instanceMethod yX4_distanceTo, .selects RX4 yX4_distanceTo yX4_distanceTo, .initialized RX4, .code yX4_distanceTo cX4_distanceTo 2 (some .int), .fieldLink RX4 7 "DyehouseLedger$Shade" "light" "I", .methodLink RX4 19 Lib.Math.abs.name, .static Lib.Math.abs.name, .initialized "java/lang/Math", .code Lib.Math.abs.name Lib.Math.abs.code 1 (some .int), .fieldLink RX4 13 "DyehouseLedger$Shade" "red" "I", .fieldLink RX4 16 "DyehouseLedger$Shade" "blue" "I"] ++ wsX00 ++ wsX10 ++ wsX30 ++ wsX40)
def wsX0_isPassedOf : List Cond := .code yX0_isPassedOf cX0_isPassedOf 2 (some .boolean) :: ([.fieldLink RX0 15 "DyehouseLedger$Lot" "order" "LDyehouseLedger$Order;", .fieldLink RX0 31 "DyehouseLedger$Lot" "state" "C"] ++ wsX00)
def wsX0_comesBeforeByLight : List Cond := .code yX0_comesBeforeByLight cX0_comesBeforeByLight 2 (some .boolean) :: ([.fieldLink RX0 27 "DyehouseLedger$Lot" "shade" "LDyehouseLedger$Shade;", .fieldLink RX0 52 "DyehouseLedger$Shade" "light" "I", .fieldLink RX0 55 "DyehouseLedger$Shade" "red" "I", .fieldLink RX0 58 "DyehouseLedger$Shade" "blue" "I", .fieldLink RX0 9 "DyehouseLedger$Lot" "number" "I"] ++ wsX00 ++ wsX40)
def wsX1_init : List Cond := .code yX1_init cX1_init 6 none :: ([.methodLink RX1 1 objectInit, .instanceMethod objectInit, .code objectInit ⟨#[0xb1]⟩ 1 none, .fieldLink RX1 7 "DyehouseLedger$Order" "customer" "I", .fieldLink RX1 13 "DyehouseLedger$Order" "recipe" "LDyehouseLedger$Recipe;", .fieldLink RX1 17 "DyehouseLedger$Order" "bound" "I", .fieldLink RX1 20 "DyehouseLedger$Order" "day" "I", .fieldLink RX1 23 "DyehouseLedger$Order" "price" "I"] ++ wsX10)
def wsX2_init : List Cond := .code yX2_init cX2_init 1 none :: ([.methodLink RX2 3 objectInit, .instanceMethod objectInit, .code objectInit ⟨#[0xb1]⟩ 1 none, .arrayClass .int, .fieldLink RX2 9 "DyehouseLedger$Plan" "numbers" "[I", .fieldLink RX2 15 "DyehouseLedger$Plan" "lights" "[I", .fieldLink RX2 18 "DyehouseLedger$Plan" "customers" "[I", .fieldLink RX2 21 "DyehouseLedger$Plan" "hours" "[I"] ++ wsX20)
def wsX2_begin : List Cond := .code yX2_begin cX2_begin 2 none :: ([.fieldLink RX2 24 "DyehouseLedger$Plan" "size" "I", .fieldLink RX2 28 "DyehouseLedger$Vat" "light" "I", .fieldLink RX2 33 "DyehouseLedger$Plan" "lightAtFirst" "I", .fieldLink RX2 36 "DyehouseLedger$Vat" "onlyCustomer" "I", .fieldLink RX2 39 "DyehouseLedger$Plan" "onlyCustomerAtFirst" "I"] ++ wsX20 ++ wsX50)
def wsX2_add : List Cond := .code yX2_add cX2_add 2 none :: ([.fieldLink RX2 24 "DyehouseLedger$Plan" "size" "I", .fieldLink RX2 9 "DyehouseLedger$Plan" "numbers" "[I", .fieldLink RX2 42 "DyehouseLedger$Lot" "number" "I", .fieldLink RX2 15 "DyehouseLedger$Plan" "lights" "[I", .fieldLink RX2 47 "DyehouseLedger$Lot" "order" "LDyehouseLedger$Order;", .fieldLink RX2 51 "DyehouseLedger$Order" "recipe" "LDyehouseLedger$Recipe;", .fieldLink RX2 57 "DyehouseLedger$Recipe" "shade" "LDyehouseLedger$Shade;", .fieldLink RX2 63 "DyehouseLedger$Shade" "light" "I", .fieldLink RX2 18 "DyehouseLedger$Plan" "customers" "[I", .fieldLink RX2 66 "DyehouseLedger$Order" "customer" "I", .fieldLink RX2 21 "DyehouseLedger$Plan" "hours" "[I", .methodLink RX2 69 yX0_dyeingHours, .instanceMethod yX0_dyeingHours, .selects RX0 yX0_dyeingHours yX0_dyeingHours, .initialized RX0, .code yX0_dyeingHours cX0_dyeingHours 1 (some .int), .fieldLink RX0 19 "DyehouseLedger$Lot" "weight" "I"] ++ wsX20 ++ wsX00 ++ wsX10 ++ wsX30 ++ wsX40 ++ (vx_atM "java/lang/ArrayIndexOutOfBoundsException" ["java/lang/IndexOutOfBoundsException", "java/lang/RuntimeException", "java/lang/Exception"]).filter goodWord)
def wsX2_dyeingHours : List Cond := .code yX2_dyeingHours cX2_dyeingHours 3 (some .int) :: ([.fieldLink RX2 24 "DyehouseLedger$Plan" "size" "I", .fieldLink RX2 21 "DyehouseLedger$Plan" "hours" "[I"] ++ wsX20 ++ (vx_atM "java/lang/ArrayIndexOutOfBoundsException" ["java/lang/IndexOutOfBoundsException", "java/lang/RuntimeException", "java/lang/Exception"]).filter goodWord)
def wsX6_isTooDark : List Cond := .code yX6_isTooDark cX6_isTooDark 2 (some .boolean) :: ([])
def wsX6_isBarred : List Cond := .code yX6_isBarred cX6_isBarred 2 (some .boolean) :: ([])
def wsX2_mustBeCleaned : List Cond := .code yX2_mustBeCleaned cX2_mustBeCleaned 4 (some .boolean) :: ([.fieldLink RX2 15 "DyehouseLedger$Plan" "lights" "[I", .fieldLink RX2 18 "DyehouseLedger$Plan" "customers" "[I", .static yX6_isTooDark, .initialized RX6, .code yX6_isTooDark cX6_isTooDark 2 (some .boolean), .static yX6_isBarred, .code yX6_isBarred cX6_isBarred 2 (some .boolean)] ++ wsX20 ++ (vx_atM "java/lang/ArrayIndexOutOfBoundsException" ["java/lang/IndexOutOfBoundsException", "java/lang/RuntimeException", "java/lang/Exception"]).filter goodWord)
def wsX2_fewestFrom : List Cond := .code yX2_fewestFrom cX2_fewestFrom 10 (some .int) :: ([.fieldLink RX2 24 "DyehouseLedger$Plan" "size" "I", .fieldLink RX2 15 "DyehouseLedger$Plan" "lights" "[I", .methodLink RX2 84 yX2_mustBeCleaned, .instanceMethod yX2_mustBeCleaned, .selects RX2 yX2_mustBeCleaned yX2_mustBeCleaned, .initialized RX2, .code yX2_mustBeCleaned cX2_mustBeCleaned 4 (some .boolean), .fieldLink RX2 18 "DyehouseLedger$Plan" "customers" "[I", .static yX6_isTooDark, .initialized RX6, .code yX6_isTooDark cX6_isTooDark 2 (some .boolean), .static yX6_isBarred, .code yX6_isBarred cX6_isBarred 2 (some .boolean), .methodLink RX2 73 yX2_fewestFrom, .static yX2_fewestFrom] ++ wsX20 ++ (vx_atM "java/lang/ArrayIndexOutOfBoundsException" ["java/lang/IndexOutOfBoundsException", "java/lang/RuntimeException", "java/lang/Exception"]).filter goodWord)
def wsX2_fewestCleanings : List Cond := .code yX2_fewestCleanings cX2_fewestCleanings 1 (some .int) :: ([.fieldLink RX2 33 "DyehouseLedger$Plan" "lightAtFirst" "I", .fieldLink RX2 39 "DyehouseLedger$Plan" "onlyCustomerAtFirst" "I", .fieldLink RX2 24 "DyehouseLedger$Plan" "size" "I", .methodLink RX2 73 yX2_fewestFrom, .static yX2_fewestFrom, .initialized RX2, .code yX2_fewestFrom cX2_fewestFrom 10 (some .int), .fieldLink RX2 15 "DyehouseLedger$Plan" "lights" "[I", .methodLink RX2 84 yX2_mustBeCleaned, .instanceMethod yX2_mustBeCleaned, .selects RX2 yX2_mustBeCleaned yX2_mustBeCleaned, .code yX2_mustBeCleaned cX2_mustBeCleaned 4 (some .boolean), .fieldLink RX2 18 "DyehouseLedger$Plan" "customers" "[I", .static yX6_isTooDark, .initialized RX6, .code yX6_isTooDark cX6_isTooDark 2 (some .boolean), .static yX6_isBarred, .code yX6_isBarred cX6_isBarred 2 (some .boolean)] ++ wsX20 ++ (vx_atM "java/lang/ArrayIndexOutOfBoundsException" ["java/lang/IndexOutOfBoundsException", "java/lang/RuntimeException", "java/lang/Exception"]).filter goodWord)
def wsX2_fewestBeginningWith : List Cond := .code yX2_fewestBeginningWith cX2_fewestBeginningWith 5 (some .int) :: ([.fieldLink RX2 33 "DyehouseLedger$Plan" "lightAtFirst" "I", .fieldLink RX2 39 "DyehouseLedger$Plan" "onlyCustomerAtFirst" "I", .fieldLink RX2 15 "DyehouseLedger$Plan" "lights" "[I", .methodLink RX2 84 yX2_mustBeCleaned, .instanceMethod yX2_mustBeCleaned, .selects RX2 yX2_mustBeCleaned yX2_mustBeCleaned, .initialized RX2, .code yX2_mustBeCleaned cX2_mustBeCleaned 4 (some .boolean), .fieldLink RX2 18 "DyehouseLedger$Plan" "customers" "[I", .static yX6_isTooDark, .initialized RX6, .code yX6_isTooDark cX6_isTooDark 2 (some .boolean), .static yX6_isBarred, .code yX6_isBarred cX6_isBarred 2 (some .boolean), .methodLink RX2 73 yX2_fewestFrom, .static yX2_fewestFrom, .code yX2_fewestFrom cX2_fewestFrom 10 (some .int), .fieldLink RX2 24 "DyehouseLedger$Plan" "size" "I"] ++ wsX20 ++ (vx_atM "java/lang/ArrayIndexOutOfBoundsException" ["java/lang/IndexOutOfBoundsException", "java/lang/RuntimeException", "java/lang/Exception"]).filter goodWord)
def wsX2_firstOfBestOrder_r1 : List Cond := [Cond.fieldLink RX2 24 "DyehouseLedger$Plan" "size" "I", Cond.fieldLink RX2 9 "DyehouseLedger$Plan" "numbers" "[I", Cond.methodLink RX2 77 yX2_fewestCleanings, Cond.instanceMethod yX2_fewestCleanings, Cond.selects RX2 yX2_fewestCleanings yX2_fewestCleanings, Cond.initialized RX2, Cond.code yX2_fewestCleanings cX2_fewestCleanings 1 (some .int), Cond.fieldLink RX2 33 "DyehouseLedger$Plan" "lightAtFirst" "I", Cond.fieldLink RX2 39 "DyehouseLedger$Plan" "onlyCustomerAtFirst" "I", Cond.methodLink RX2 73 yX2_fewestFrom, Cond.static yX2_fewestFrom, Cond.code yX2_fewestFrom cX2_fewestFrom 10 (some .int), Cond.fieldLink RX2 15 "DyehouseLedger$Plan" "lights" "[I", Cond.methodLink RX2 84 yX2_mustBeCleaned, Cond.instanceMethod yX2_mustBeCleaned, Cond.selects RX2 yX2_mustBeCleaned yX2_mustBeCleaned, Cond.code yX2_mustBeCleaned cX2_mustBeCleaned 4 (some .boolean), Cond.fieldLink RX2 18 "DyehouseLedger$Plan" "customers" "[I", Cond.static yX6_isTooDark, Cond.initialized RX6, Cond.code yX6_isTooDark cX6_isTooDark 2 (some .boolean), Cond.static yX6_isBarred, Cond.code yX6_isBarred cX6_isBarred 2 (some .boolean), Cond.methodLink RX2 80 yX2_fewestBeginningWith]
def wsX2_firstOfBestOrder_r2 : List Cond := [Cond.instanceMethod yX2_fewestBeginningWith, Cond.selects RX2 yX2_fewestBeginningWith yX2_fewestBeginningWith, Cond.code yX2_fewestBeginningWith cX2_fewestBeginningWith 5 (some .int)]
def wsX2_firstOfBestOrder : List Cond := .code yX2_firstOfBestOrder cX2_firstOfBestOrder 3 (some .int) :: ((wsX2_firstOfBestOrder_r1 ++ wsX2_firstOfBestOrder_r2) ++ wsX20 ++ (vx_atM "java/lang/ArrayIndexOutOfBoundsException" ["java/lang/IndexOutOfBoundsException", "java/lang/RuntimeException", "java/lang/Exception"]).filter goodWord)
def wsX2_leastFrom : List Cond := .code yX2_leastFrom cX2_leastFrom 10 (some .int) :: ([.fieldLink RX2 24 "DyehouseLedger$Plan" "size" "I", .constant RX2 99 (1000000), .fieldLink RX2 21 "DyehouseLedger$Plan" "hours" "[I", .fieldLink RX2 15 "DyehouseLedger$Plan" "lights" "[I", .methodLink RX2 100 Lib.Math.min.name, .static Lib.Math.min.name, .initialized "java/lang/Math", .code Lib.Math.min.name Lib.Math.min.code 2 (some .int), .methodLink RX2 84 yX2_mustBeCleaned, .instanceMethod yX2_mustBeCleaned, .selects RX2 yX2_mustBeCleaned yX2_mustBeCleaned, .initialized RX2, .code yX2_mustBeCleaned cX2_mustBeCleaned 4 (some .boolean), .fieldLink RX2 18 "DyehouseLedger$Plan" "customers" "[I", .static yX6_isTooDark, .initialized RX6, .code yX6_isTooDark cX6_isTooDark 2 (some .boolean), .static yX6_isBarred, .code yX6_isBarred cX6_isBarred 2 (some .boolean), .methodLink RX2 88 yX2_leastFrom, .static yX2_leastFrom] ++ wsX20 ++ (vx_atM "java/lang/ArrayIndexOutOfBoundsException" ["java/lang/IndexOutOfBoundsException", "java/lang/RuntimeException", "java/lang/Exception"]).filter goodWord)
def wsX2_leastOfAllOrders : List Cond := .code yX2_leastOfAllOrders cX2_leastOfAllOrders 1 (some .int) :: ([.fieldLink RX2 33 "DyehouseLedger$Plan" "lightAtFirst" "I", .fieldLink RX2 39 "DyehouseLedger$Plan" "onlyCustomerAtFirst" "I", .methodLink RX2 88 yX2_leastFrom, .static yX2_leastFrom, .initialized RX2, .code yX2_leastFrom cX2_leastFrom 10 (some .int), .fieldLink RX2 24 "DyehouseLedger$Plan" "size" "I", .constant RX2 99 (1000000), .fieldLink RX2 21 "DyehouseLedger$Plan" "hours" "[I", .fieldLink RX2 15 "DyehouseLedger$Plan" "lights" "[I", .methodLink RX2 100 Lib.Math.min.name, .static Lib.Math.min.name, .initialized "java/lang/Math", .code Lib.Math.min.name Lib.Math.min.code 2 (some .int), .methodLink RX2 84 yX2_mustBeCleaned, .instanceMethod yX2_mustBeCleaned, .selects RX2 yX2_mustBeCleaned yX2_mustBeCleaned, .code yX2_mustBeCleaned cX2_mustBeCleaned 4 (some .boolean), .fieldLink RX2 18 "DyehouseLedger$Plan" "customers" "[I", .static yX6_isTooDark, .initialized RX6, .code yX6_isTooDark cX6_isTooDark 2 (some .boolean), .static yX6_isBarred, .code yX6_isBarred cX6_isBarred 2 (some .boolean)] ++ wsX20 ++ (vx_atM "java/lang/ArrayIndexOutOfBoundsException" ["java/lang/IndexOutOfBoundsException", "java/lang/RuntimeException", "java/lang/Exception"]).filter goodWord)
def wsX3_init : List Cond := .code yX3_init cX3_init 2 none :: ([.methodLink RX3 3 objectInit, .instanceMethod objectInit, .code objectInit ⟨#[0xb1]⟩ 1 none, .fieldLink RX3 9 "DyehouseLedger$Recipe" "shade" "LDyehouseLedger$Shade;", .arrayClass .int, .fieldLink RX3 15 "DyehouseLedger$Recipe" "grams" "[I"] ++ wsX30)
def wsX4_set : List Cond := .code yX4_set cX4_set 4 none :: ([.fieldLink RX4 7 "DyehouseLedger$Shade" "light" "I", .fieldLink RX4 13 "DyehouseLedger$Shade" "red" "I", .fieldLink RX4 16 "DyehouseLedger$Shade" "blue" "I"] ++ wsX40)
def wsX5_init : List Cond := .code yX5_init cX5_init 3 none :: ([.methodLink RX5 3 objectInit, .instanceMethod objectInit, .code objectInit ⟨#[0xb1]⟩ 1 none, .fieldLink RX5 9 "DyehouseLedger$Vat" "number" "I", .fieldLink RX5 15 "DyehouseLedger$Vat" "mostWeight" "I", .fieldLink RX5 18 "DyehouseLedger$Vat" "light" "I", .fieldLink RX5 21 "DyehouseLedger$Vat" "onlyCustomer" "I"] ++ wsX50)
def wsX6_init_r1 : List Cond := [Cond.methodLink RX6 1 objectInit, Cond.instanceMethod objectInit, Cond.code objectInit ⟨#[0xb1]⟩ 1 none, Cond.classLink RX6 9 RX3, Cond.fieldLink RX6 11 "DyehouseLedger" "allRecipes" "[LDyehouseLedger$Recipe;", Cond.classLink RX6 15 RX1, Cond.fieldLink RX6 17 "DyehouseLedger" "allOrders" "[LDyehouseLedger$Order;", Cond.classLink RX6 21 RX0, Cond.fieldLink RX6 23 "DyehouseLedger" "allLots" "[LDyehouseLedger$Lot;", Cond.classLink RX6 27 RX5, Cond.fieldLink RX6 29 "DyehouseLedger" "allVats" "[LDyehouseLedger$Vat;", Cond.arrayClass .int, Cond.fieldLink RX6 33 "DyehouseLedger" "gramsInStock" "[I", Cond.arrayClass .long, Cond.fieldLink RX6 37 "DyehouseLedger" "gramsUsed" "[J", Cond.classLink RX6 41 RX2, Cond.instantiable RX2 7, Cond.initialized RX2, Cond.fieldLink RX6 44 "DyehouseLedger" "planAtHand" "LDyehouseLedger$Plan;", Cond.methodLink RX6 43 yX2_init, Cond.instanceMethod yX2_init, Cond.code yX2_init cX2_init 1 none, Cond.methodLink RX2 3 objectInit, Cond.fieldLink RX2 9 "DyehouseLedger$Plan" "numbers" "[I"]
def wsX6_init_r2 : List Cond := [Cond.fieldLink RX2 15 "DyehouseLedger$Plan" "lights" "[I", Cond.fieldLink RX2 18 "DyehouseLedger$Plan" "customers" "[I", Cond.fieldLink RX2 21 "DyehouseLedger$Plan" "hours" "[I"]
def wsX6_init : List Cond := .code yX6_init cX6_init 1 none :: ((wsX6_init_r1 ++ wsX6_init_r2) ++ wsX60 ++ wsX20)
def wsX6_checkRange : List Cond := .code yX6_checkRange cX6_checkRange 3 none :: ([.classLink RX6 266 "java/lang/IllegalArgumentException", .initialized "java/lang/IllegalArgumentException"] ++ (vx_at0 RX6 268 "java/lang/IllegalArgumentException" ["java/lang/RuntimeException", "java/lang/Exception"]).filter goodWord)
def wsX6_checkShade : List Cond := .code yX6_checkShade cX6_checkShade 3 none :: ([.methodLink RX6 74 yX6_checkRange, .static yX6_checkRange, .initialized RX6, .code yX6_checkRange cX6_checkRange 3 none, .classLink RX6 266 "java/lang/IllegalArgumentException", .initialized "java/lang/IllegalArgumentException"] ++ (vx_at0 RX6 268 "java/lang/IllegalArgumentException" ["java/lang/RuntimeException", "java/lang/Exception"]).filter goodWord)
def wsX6_addRecipe_r1 : List Cond := [Cond.classLink RX6 56 "java/lang/IllegalStateException", Cond.initialized "java/lang/IllegalStateException", Cond.fieldLink RX6 52 "DyehouseLedger" "recipeCount" "I", Cond.fieldLink RX6 11 "DyehouseLedger" "allRecipes" "[LDyehouseLedger$Recipe;", Cond.classLink RX6 9 RX3, Cond.instantiable RX3 2, Cond.initialized RX3, Cond.classLink RX6 59 RX4, Cond.instantiable RX4 3, Cond.initialized RX4, Cond.methodLink RX6 48 yX6_checkShade, Cond.static yX6_checkShade, Cond.initialized RX6, Cond.code yX6_checkShade cX6_checkShade 3 none, Cond.methodLink RX6 74 yX6_checkRange, Cond.static yX6_checkRange, Cond.code yX6_checkRange cX6_checkRange 3 none, Cond.classLink RX6 266 "java/lang/IllegalArgumentException", Cond.initialized "java/lang/IllegalArgumentException", Cond.methodLink RX6 61 yX4_init, Cond.instanceMethod yX4_init, Cond.code yX4_init cX4_init 4 none, Cond.methodLink RX4 1 objectInit, Cond.instanceMethod objectInit]
def wsX6_addRecipe_r2 : List Cond := [Cond.code objectInit ⟨#[0xb1]⟩ 1 none, Cond.fieldLink RX4 7 "DyehouseLedger$Shade" "light" "I", Cond.fieldLink RX4 13 "DyehouseLedger$Shade" "red" "I", Cond.fieldLink RX4 16 "DyehouseLedger$Shade" "blue" "I", Cond.methodLink RX6 63 yX3_init, Cond.instanceMethod yX3_init, Cond.code yX3_init cX3_init 2 none, Cond.methodLink RX3 3 objectInit, Cond.fieldLink RX3 9 "DyehouseLedger$Recipe" "shade" "LDyehouseLedger$Shade;", Cond.arrayClass .int, Cond.fieldLink RX3 15 "DyehouseLedger$Recipe" "grams" "[I"]
def wsX6_addRecipe : List Cond := .code yX6_addRecipe cX6_addRecipe 4 (some .int) :: ((wsX6_addRecipe_r1 ++ wsX6_addRecipe_r2) ++ wsX60 ++ wsX30 ++ wsX40 ++ (vx_at0 RX6 58 "java/lang/IllegalStateException" ["java/lang/RuntimeException", "java/lang/Exception"]).filter goodWord ++ (vx_at0 RX6 268 "java/lang/IllegalArgumentException" ["java/lang/RuntimeException", "java/lang/Exception"]).filter goodWord)
def wsX6_recipeNumbered : List Cond := .code yX6_recipeNumbered cX6_recipeNumbered 3 (some (.object "DyehouseLedger$Recipe")) :: ([.classLink RX6 269 "java/util/NoSuchElementException", .initialized "java/util/NoSuchElementException", .fieldLink RX6 11 "DyehouseLedger" "allRecipes" "[LDyehouseLedger$Recipe;"] ++ wsX60 ++ (vx_at0 RX6 271 "java/util/NoSuchElementException" ["java/lang/RuntimeException", "java/lang/Exception"]).filter goodWord)
def wsX6_checkDye : List Cond := .code yX6_checkDye cX6_checkDye 1 none :: ([.methodLink RX6 74 yX6_checkRange, .static yX6_checkRange, .initialized RX6, .code yX6_checkRange cX6_checkRange 3 none, .classLink RX6 266 "java/lang/IllegalArgumentException", .initialized "java/lang/IllegalArgumentException"] ++ (vx_at0 RX6 268 "java/lang/IllegalArgumentException" ["java/lang/RuntimeException", "java/lang/Exception"]).filter goodWord)
def wsX6_setDye : List Cond := .code yX6_setDye cX6_setDye 6 (some .int) :: ([.fieldLink RX6 77 "DyehouseLedger$Recipe" "grams" "[I", .methodLink RX6 66 yX6_recipeNumbered, .instanceMethod yX6_recipeNumbered, .selects RX6 yX6_recipeNumbered yX6_recipeNumbered, .initialized RX6, .code yX6_recipeNumbered cX6_recipeNumbered 3 (some (.object "DyehouseLedger$Recipe")), .classLink RX6 269 "java/util/NoSuchElementException", .initialized "java/util/NoSuchElementException", .fieldLink RX6 11 "DyehouseLedger" "allRecipes" "[LDyehouseLedger$Recipe;", .methodLink RX6 70 yX6_checkDye, .static yX6_checkDye, .code yX6_checkDye cX6_checkDye 1 none, .methodLink RX6 74 yX6_checkRange, .static yX6_checkRange, .code yX6_checkRange cX6_checkRange 3 none, .classLink RX6 266 "java/lang/IllegalArgumentException", .initialized "java/lang/IllegalArgumentException"] ++ wsX30 ++ wsX60 ++ (vx_atM "java/lang/ArrayIndexOutOfBoundsException" ["java/lang/IndexOutOfBoundsException", "java/lang/RuntimeException", "java/lang/Exception"]).filter goodWord ++ (vx_at0 RX6 271 "java/util/NoSuchElementException" ["java/lang/RuntimeException", "java/lang/Exception"]).filter goodWord ++ (vx_at0 RX6 268 "java/lang/IllegalArgumentException" ["java/lang/RuntimeException", "java/lang/Exception"]).filter goodWord)
def wsX6_supply : List Cond := .code yX6_supply cX6_supply 3 (some .int) :: ([.classLink RX6 56 "java/lang/IllegalStateException", .initialized "java/lang/IllegalStateException", .constant RX6 80 (99999), .fieldLink RX6 33 "DyehouseLedger" "gramsInStock" "[I", .constant RX6 81 (9999999), .methodLink RX6 70 yX6_checkDye, .static yX6_checkDye, .initialized RX6, .code yX6_checkDye cX6_checkDye 1 none, .methodLink RX6 74 yX6_checkRange, .static yX6_checkRange, .code yX6_checkRange cX6_checkRange 3 none, .classLink RX6 266 "java/lang/IllegalArgumentException", .initialized "java/lang/IllegalArgumentException"] ++ wsX60 ++ (vx_atM "java/lang/ArrayIndexOutOfBoundsException" ["java/lang/IndexOutOfBoundsException", "java/lang/RuntimeException", "java/lang/Exception"]).filter goodWord ++ (vx_at0 RX6 58 "java/lang/IllegalStateException" ["java/lang/RuntimeException", "java/lang/Exception"]).filter goodWord ++ (vx_at0 RX6 268 "java/lang/IllegalArgumentException" ["java/lang/RuntimeException", "java/lang/Exception"]).filter goodWord)
def wsX6_stock : List Cond := .code yX6_stock cX6_stock 2 (some .int) :: ([.fieldLink RX6 33 "DyehouseLedger" "gramsInStock" "[I", .methodLink RX6 70 yX6_checkDye, .static yX6_checkDye, .initialized RX6, .code yX6_checkDye cX6_checkDye 1 none, .methodLink RX6 74 yX6_checkRange, .static yX6_checkRange, .code yX6_checkRange cX6_checkRange 3 none, .classLink RX6 266 "java/lang/IllegalArgumentException", .initialized "java/lang/IllegalArgumentException"] ++ wsX60 ++ (vx_atM "java/lang/ArrayIndexOutOfBoundsException" ["java/lang/IndexOutOfBoundsException", "java/lang/RuntimeException", "java/lang/Exception"]).filter goodWord ++ (vx_at0 RX6 268 "java/lang/IllegalArgumentException" ["java/lang/RuntimeException", "java/lang/Exception"]).filter goodWord)
def wsX6_checkCustomer : List Cond := .code yX6_checkCustomer cX6_checkCustomer 1 none :: ([.methodLink RX6 74 yX6_checkRange, .static yX6_checkRange, .initialized RX6, .code yX6_checkRange cX6_checkRange 3 none, .classLink RX6 266 "java/lang/IllegalArgumentException", .initialized "java/lang/IllegalArgumentException"] ++ (vx_at0 RX6 268 "java/lang/IllegalArgumentException" ["java/lang/RuntimeException", "java/lang/Exception"]).filter goodWord)
def wsX6_addOrder_r1 : List Cond := [Cond.classLink RX6 56 "java/lang/IllegalStateException", Cond.initialized "java/lang/IllegalStateException", Cond.fieldLink RX6 85 "DyehouseLedger" "orderCount" "I", Cond.fieldLink RX6 17 "DyehouseLedger" "allOrders" "[LDyehouseLedger$Order;", Cond.classLink RX6 15 RX1, Cond.instantiable RX1 5, Cond.initialized RX1, Cond.methodLink RX6 66 yX6_recipeNumbered, Cond.instanceMethod yX6_recipeNumbered, Cond.selects RX6 yX6_recipeNumbered yX6_recipeNumbered, Cond.initialized RX6, Cond.code yX6_recipeNumbered cX6_recipeNumbered 3 (some (.object "DyehouseLedger$Recipe")), Cond.classLink RX6 269 "java/util/NoSuchElementException", Cond.initialized "java/util/NoSuchElementException", Cond.fieldLink RX6 11 "DyehouseLedger" "allRecipes" "[LDyehouseLedger$Recipe;", Cond.methodLink RX6 82 yX6_checkCustomer, Cond.static yX6_checkCustomer, Cond.code yX6_checkCustomer cX6_checkCustomer 1 none, Cond.methodLink RX6 74 yX6_checkRange, Cond.static yX6_checkRange, Cond.code yX6_checkRange cX6_checkRange 3 none, Cond.classLink RX6 266 "java/lang/IllegalArgumentException", Cond.initialized "java/lang/IllegalArgumentException", Cond.methodLink RX6 88 yX1_init]
def wsX6_addOrder_r2 : List Cond := [Cond.instanceMethod yX1_init, Cond.code yX1_init cX1_init 6 none, Cond.methodLink RX1 1 objectInit, Cond.instanceMethod objectInit, Cond.code objectInit ⟨#[0xb1]⟩ 1 none, Cond.fieldLink RX1 7 "DyehouseLedger$Order" "customer" "I", Cond.fieldLink RX1 13 "DyehouseLedger$Order" "recipe" "LDyehouseLedger$Recipe;", Cond.fieldLink RX1 17 "DyehouseLedger$Order" "bound" "I", Cond.fieldLink RX1 20 "DyehouseLedger$Order" "day" "I", Cond.fieldLink RX1 23 "DyehouseLedger$Order" "price" "I"]
def wsX6_addOrder : List Cond := .code yX6_addOrder cX6_addOrder 7 (some .int) :: ((wsX6_addOrder_r1 ++ wsX6_addOrder_r2) ++ wsX60 ++ wsX10 ++ (vx_at0 RX6 58 "java/lang/IllegalStateException" ["java/lang/RuntimeException", "java/lang/Exception"]).filter goodWord ++ (vx_at0 RX6 271 "java/util/NoSuchElementException" ["java/lang/RuntimeException", "java/lang/Exception"]).filter goodWord ++ (vx_at0 RX6 268 "java/lang/IllegalArgumentException" ["java/lang/RuntimeException", "java/lang/Exception"]).filter goodWord)
def wsX6_orderNumbered : List Cond := .code yX6_orderNumbered cX6_orderNumbered 3 (some (.object "DyehouseLedger$Order")) :: ([.classLink RX6 269 "java/util/NoSuchElementException", .initialized "java/util/NoSuchElementException", .fieldLink RX6 17 "DyehouseLedger" "allOrders" "[LDyehouseLedger$Order;"] ++ wsX60 ++ (vx_at0 RX6 271 "java/util/NoSuchElementException" ["java/lang/RuntimeException", "java/lang/Exception"]).filter goodWord)
def wsX6_addLot_r1 : List Cond := [Cond.classLink RX6 56 "java/lang/IllegalStateException", Cond.initialized "java/lang/IllegalStateException", Cond.fieldLink RX6 95 "DyehouseLedger" "lotCount" "I", Cond.fieldLink RX6 23 "DyehouseLedger" "allLots" "[LDyehouseLedger$Lot;", Cond.classLink RX6 21 RX0, Cond.instantiable RX0 9, Cond.initialized RX0, Cond.methodLink RX6 91 yX6_orderNumbered, Cond.instanceMethod yX6_orderNumbered, Cond.selects RX6 yX6_orderNumbered yX6_orderNumbered, Cond.initialized RX6, Cond.code yX6_orderNumbered cX6_orderNumbered 3 (some (.object "DyehouseLedger$Order")), Cond.classLink RX6 269 "java/util/NoSuchElementException", Cond.initialized "java/util/NoSuchElementException", Cond.fieldLink RX6 17 "DyehouseLedger" "allOrders" "[LDyehouseLedger$Order;", Cond.methodLink RX6 74 yX6_checkRange, Cond.static yX6_checkRange, Cond.code yX6_checkRange cX6_checkRange 3 none, Cond.classLink RX6 266 "java/lang/IllegalArgumentException", Cond.initialized "java/lang/IllegalArgumentException", Cond.methodLink RX6 98 yX0_init, Cond.instanceMethod yX0_init, Cond.code yX0_init cX0_init 4 none, Cond.methodLink RX0 3 objectInit]
def wsX6_addLot_r2 : List Cond := [Cond.instanceMethod objectInit, Cond.code objectInit ⟨#[0xb1]⟩ 1 none, Cond.fieldLink RX0 9 "DyehouseLedger$Lot" "number" "I", Cond.fieldLink RX0 15 "DyehouseLedger$Lot" "order" "LDyehouseLedger$Order;", Cond.fieldLink RX0 19 "DyehouseLedger$Lot" "weight" "I", Cond.classLink RX0 22 RX4, Cond.instantiable RX4 3, Cond.initialized RX4, Cond.fieldLink RX0 27 "DyehouseLedger$Lot" "shade" "LDyehouseLedger$Shade;", Cond.fieldLink RX0 31 "DyehouseLedger$Lot" "state" "C", Cond.methodLink RX0 24 yX4_init, Cond.instanceMethod yX4_init, Cond.code yX4_init cX4_init 4 none, Cond.methodLink RX4 1 objectInit, Cond.fieldLink RX4 7 "DyehouseLedger$Shade" "light" "I", Cond.fieldLink RX4 13 "DyehouseLedger$Shade" "red" "I", Cond.fieldLink RX4 16 "DyehouseLedger$Shade" "blue" "I"]
def wsX6_addLot : List Cond := .code yX6_addLot cX6_addLot 4 (some .int) :: ((wsX6_addLot_r1 ++ wsX6_addLot_r2) ++ wsX60 ++ wsX00 ++ wsX40 ++ (vx_at0 RX6 58 "java/lang/IllegalStateException" ["java/lang/RuntimeException", "java/lang/Exception"]).filter goodWord ++ (vx_at0 RX6 271 "java/util/NoSuchElementException" ["java/lang/RuntimeException", "java/lang/Exception"]).filter goodWord ++ (vx_at0 RX6 268 "java/lang/IllegalArgumentException" ["java/lang/RuntimeException", "java/lang/Exception"]).filter goodWord)
def wsX6_addVat : List Cond := .code yX6_addVat cX6_addVat 2 (some .int) :: ([.classLink RX6 56 "java/lang/IllegalStateException", .initialized "java/lang/IllegalStateException", .fieldLink RX6 101 "DyehouseLedger" "vatCount" "I", .fieldLink RX6 29 "DyehouseLedger" "allVats" "[LDyehouseLedger$Vat;", .classLink RX6 27 RX5, .instantiable RX5 6, .initialized RX5, .methodLink RX6 74 yX6_checkRange, .static yX6_checkRange, .initialized RX6, .code yX6_checkRange cX6_checkRange 3 none, .classLink RX6 266 "java/lang/IllegalArgumentException", .initialized "java/lang/IllegalArgumentException", .methodLink RX6 104 yX5_init, .instanceMethod yX5_init, .code yX5_init cX5_init 3 none, .methodLink RX5 3 objectInit, .instanceMethod objectInit, .code objectInit ⟨#[0xb1]⟩ 1 none, .fieldLink RX5 9 "DyehouseLedger$Vat" "number" "I", .fieldLink RX5 15 "DyehouseLedger$Vat" "mostWeight" "I", .fieldLink RX5 18 "DyehouseLedger$Vat" "light" "I", .fieldLink RX5 21 "DyehouseLedger$Vat" "onlyCustomer" "I"] ++ wsX60 ++ wsX50 ++ (vx_at0 RX6 58 "java/lang/IllegalStateException" ["java/lang/RuntimeException", "java/lang/Exception"]).filter goodWord ++ (vx_at0 RX6 268 "java/lang/IllegalArgumentException" ["java/lang/RuntimeException", "java/lang/Exception"]).filter goodWord)
def wsX6_lotNumbered : List Cond := .code yX6_lotNumbered cX6_lotNumbered 3 (some (.object "DyehouseLedger$Lot")) :: ([.classLink RX6 269 "java/util/NoSuchElementException", .initialized "java/util/NoSuchElementException", .fieldLink RX6 23 "DyehouseLedger" "allLots" "[LDyehouseLedger$Lot;"] ++ wsX60 ++ (vx_at0 RX6 271 "java/util/NoSuchElementException" ["java/lang/RuntimeException", "java/lang/Exception"]).filter goodWord)
def wsX6_needs_r1 : List Cond := [Cond.methodLink RX6 107 yX6_lotNumbered, Cond.instanceMethod yX6_lotNumbered, Cond.selects RX6 yX6_lotNumbered yX6_lotNumbered, Cond.initialized RX6, Cond.code yX6_lotNumbered cX6_lotNumbered 3 (some (.object "DyehouseLedger$Lot")), Cond.classLink RX6 269 "java/util/NoSuchElementException", Cond.initialized "java/util/NoSuchElementException", Cond.fieldLink RX6 23 "DyehouseLedger" "allLots" "[LDyehouseLedger$Lot;", Cond.methodLink RX6 70 yX6_checkDye, Cond.static yX6_checkDye, Cond.code yX6_checkDye cX6_checkDye 1 none, Cond.methodLink RX6 74 yX6_checkRange, Cond.static yX6_checkRange, Cond.code yX6_checkRange cX6_checkRange 3 none, Cond.classLink RX6 266 "java/lang/IllegalArgumentException", Cond.initialized "java/lang/IllegalArgumentException", Cond.methodLink RX6 111 yX0_gramsNeeded, Cond.instanceMethod yX0_gramsNeeded, Cond.selects RX0 yX0_gramsNeeded yX0_gramsNeeded, Cond.initialized RX0, Cond.code yX0_gramsNeeded cX0_gramsNeeded 2 (some .int), Cond.fieldLink RX0 15 "DyehouseLedger$Lot" "order" "LDyehouseLedger$Order;", Cond.fieldLink RX0 35 "DyehouseLedger$Order" "recipe" "LDyehouseLedger$Recipe;", Cond.fieldLink RX0 41 "DyehouseLedger$Recipe" "grams" "[I"]
def wsX6_needs_r2 : List Cond := [Cond.fieldLink RX0 19 "DyehouseLedger$Lot" "weight" "I"]
def wsX6_needs : List Cond := .code yX6_needs cX6_needs 4 (some .int) :: ((wsX6_needs_r1 ++ wsX6_needs_r2) ++ wsX60 ++ wsX00 ++ wsX10 ++ wsX30 ++ (vx_at0 RX6 271 "java/util/NoSuchElementException" ["java/lang/RuntimeException", "java/lang/Exception"]).filter goodWord ++ (vx_at0 RX6 268 "java/lang/IllegalArgumentException" ["java/lang/RuntimeException", "java/lang/Exception"]).filter goodWord ++ (vx_atM "java/lang/ArrayIndexOutOfBoundsException" ["java/lang/IndexOutOfBoundsException", "java/lang/RuntimeException", "java/lang/Exception"]).filter goodWord)
def wsX6_hoursFor : List Cond := .code yX6_hoursFor cX6_hoursFor 2 (some .int) :: ([.methodLink RX6 107 yX6_lotNumbered, .instanceMethod yX6_lotNumbered, .selects RX6 yX6_lotNumbered yX6_lotNumbered, .initialized RX6, .code yX6_lotNumbered cX6_lotNumbered 3 (some (.object "DyehouseLedger$Lot")), .classLink RX6 269 "java/util/NoSuchElementException", .initialized "java/util/NoSuchElementException", .fieldLink RX6 23 "DyehouseLedger" "allLots" "[LDyehouseLedger$Lot;", .methodLink RX6 115 yX0_dyeingHours, .instanceMethod yX0_dyeingHours, .selects RX0 yX0_dyeingHours yX0_dyeingHours, .initialized RX0, .code yX0_dyeingHours cX0_dyeingHours 1 (some .int), .fieldLink RX0 19 "DyehouseLedger$Lot" "weight" "I"] ++ wsX60 ++ wsX00 ++ (vx_at0 RX6 271 "java/util/NoSuchElementException" ["java/lang/RuntimeException", "java/lang/Exception"]).filter goodWord)
def wsX6_vatNumbered : List Cond := .code yX6_vatNumbered cX6_vatNumbered 3 (some (.object "DyehouseLedger$Vat")) :: ([.classLink RX6 269 "java/util/NoSuchElementException", .initialized "java/util/NoSuchElementException", .fieldLink RX6 29 "DyehouseLedger" "allVats" "[LDyehouseLedger$Vat;"] ++ wsX60 ++ (vx_at0 RX6 271 "java/util/NoSuchElementException" ["java/lang/RuntimeException", "java/lang/Exception"]).filter goodWord)
def wsX6_isStocked : List Cond := .code yX6_isStocked cX6_isStocked 3 (some .boolean) :: ([.fieldLink RX6 33 "DyehouseLedger" "gramsInStock" "[I", .methodLink RX6 111 yX0_gramsNeeded, .instanceMethod yX0_gramsNeeded, .selects RX0 yX0_gramsNeeded yX0_gramsNeeded, .initialized RX0, .code yX0_gramsNeeded cX0_gramsNeeded 2 (some .int), .fieldLink RX0 15 "DyehouseLedger$Lot" "order" "LDyehouseLedger$Order;", .fieldLink RX0 35 "DyehouseLedger$Order" "recipe" "LDyehouseLedger$Recipe;", .fieldLink RX0 41 "DyehouseLedger$Recipe" "grams" "[I", .fieldLink RX0 19 "DyehouseLedger$Lot" "weight" "I"] ++ wsX60 ++ wsX00 ++ wsX10 ++ wsX30 ++ (vx_atM "java/lang/ArrayIndexOutOfBoundsException" ["java/lang/IndexOutOfBoundsException", "java/lang/RuntimeException", "java/lang/Exception"]).filter goodWord)
def wsX6_reasonAgainst_r1 : List Cond := [Cond.fieldLink RX6 147 "DyehouseLedger$Lot" "state" "C", Cond.fieldLink RX6 188 "DyehouseLedger$Lot" "weight" "I", Cond.fieldLink RX6 191 "DyehouseLedger$Vat" "mostWeight" "I", Cond.fieldLink RX6 134 "DyehouseLedger$Vat" "light" "I", Cond.fieldLink RX6 236 "DyehouseLedger$Lot" "order" "LDyehouseLedger$Order;", Cond.fieldLink RX6 272 "DyehouseLedger$Order" "recipe" "LDyehouseLedger$Recipe;", Cond.fieldLink RX6 276 "DyehouseLedger$Recipe" "shade" "LDyehouseLedger$Shade;", Cond.fieldLink RX6 218 "DyehouseLedger$Shade" "light" "I", Cond.fieldLink RX6 167 "DyehouseLedger$Vat" "onlyCustomer" "I", Cond.fieldLink RX6 260 "DyehouseLedger$Order" "customer" "I", Cond.methodLink RX6 277 yX6_isTooDark, Cond.static yX6_isTooDark, Cond.initialized RX6, Cond.code yX6_isTooDark cX6_isTooDark 2 (some .boolean), Cond.methodLink RX6 281 yX6_isBarred, Cond.static yX6_isBarred, Cond.code yX6_isBarred cX6_isBarred 2 (some .boolean), Cond.methodLink RX6 284 yX6_isStocked, Cond.instanceMethod yX6_isStocked, Cond.selects RX6 yX6_isStocked yX6_isStocked, Cond.code yX6_isStocked cX6_isStocked 3 (some .boolean), Cond.fieldLink RX6 33 "DyehouseLedger" "gramsInStock" "[I", Cond.methodLink RX6 111 yX0_gramsNeeded, Cond.instanceMethod yX0_gramsNeeded]
def wsX6_reasonAgainst_r2 : List Cond := [Cond.selects RX0 yX0_gramsNeeded yX0_gramsNeeded, Cond.initialized RX0, Cond.code yX0_gramsNeeded cX0_gramsNeeded 2 (some .int), Cond.fieldLink RX0 15 "DyehouseLedger$Lot" "order" "LDyehouseLedger$Order;", Cond.fieldLink RX0 35 "DyehouseLedger$Order" "recipe" "LDyehouseLedger$Recipe;", Cond.fieldLink RX0 41 "DyehouseLedger$Recipe" "grams" "[I", Cond.fieldLink RX0 19 "DyehouseLedger$Lot" "weight" "I"]
def wsX6_reasonAgainst : List Cond := .code yX6_reasonAgainst cX6_reasonAgainst 3 (some .char) :: ((wsX6_reasonAgainst_r1 ++ wsX6_reasonAgainst_r2) ++ wsX00 ++ wsX50 ++ wsX10 ++ wsX30 ++ wsX40 ++ wsX60 ++ (vx_atM "java/lang/ArrayIndexOutOfBoundsException" ["java/lang/IndexOutOfBoundsException", "java/lang/RuntimeException", "java/lang/Exception"]).filter goodWord)
def wsX6_reason_r1 : List Cond := [Cond.methodLink RX6 107 yX6_lotNumbered, Cond.instanceMethod yX6_lotNumbered, Cond.selects RX6 yX6_lotNumbered yX6_lotNumbered, Cond.initialized RX6, Cond.code yX6_lotNumbered cX6_lotNumbered 3 (some (.object "DyehouseLedger$Lot")), Cond.classLink RX6 269 "java/util/NoSuchElementException", Cond.initialized "java/util/NoSuchElementException", Cond.fieldLink RX6 23 "DyehouseLedger" "allLots" "[LDyehouseLedger$Lot;", Cond.methodLink RX6 119 yX6_vatNumbered, Cond.instanceMethod yX6_vatNumbered, Cond.selects RX6 yX6_vatNumbered yX6_vatNumbered, Cond.code yX6_vatNumbered cX6_vatNumbered 3 (some (.object "DyehouseLedger$Vat")), Cond.fieldLink RX6 29 "DyehouseLedger" "allVats" "[LDyehouseLedger$Vat;", Cond.methodLink RX6 123 yX6_reasonAgainst, Cond.instanceMethod yX6_reasonAgainst, Cond.selects RX6 yX6_reasonAgainst yX6_reasonAgainst, Cond.code yX6_reasonAgainst cX6_reasonAgainst 3 (some .char), Cond.fieldLink RX6 147 "DyehouseLedger$Lot" "state" "C", Cond.fieldLink RX6 188 "DyehouseLedger$Lot" "weight" "I", Cond.fieldLink RX6 191 "DyehouseLedger$Vat" "mostWeight" "I", Cond.fieldLink RX6 134 "DyehouseLedger$Vat" "light" "I", Cond.fieldLink RX6 236 "DyehouseLedger$Lot" "order" "LDyehouseLedger$Order;", Cond.fieldLink RX6 272 "DyehouseLedger$Order" "recipe" "LDyehouseLedger$Recipe;", Cond.fieldLink RX6 276 "DyehouseLedger$Recipe" "shade" "LDyehouseLedger$Shade;"]
def wsX6_reason_r2 : List Cond := [Cond.fieldLink RX6 218 "DyehouseLedger$Shade" "light" "I", Cond.fieldLink RX6 167 "DyehouseLedger$Vat" "onlyCustomer" "I", Cond.fieldLink RX6 260 "DyehouseLedger$Order" "customer" "I", Cond.methodLink RX6 277 yX6_isTooDark, Cond.static yX6_isTooDark, Cond.code yX6_isTooDark cX6_isTooDark 2 (some .boolean), Cond.methodLink RX6 281 yX6_isBarred, Cond.static yX6_isBarred, Cond.code yX6_isBarred cX6_isBarred 2 (some .boolean), Cond.methodLink RX6 284 yX6_isStocked, Cond.instanceMethod yX6_isStocked, Cond.selects RX6 yX6_isStocked yX6_isStocked, Cond.code yX6_isStocked cX6_isStocked 3 (some .boolean), Cond.fieldLink RX6 33 "DyehouseLedger" "gramsInStock" "[I", Cond.methodLink RX6 111 yX0_gramsNeeded, Cond.instanceMethod yX0_gramsNeeded, Cond.selects RX0 yX0_gramsNeeded yX0_gramsNeeded, Cond.initialized RX0, Cond.code yX0_gramsNeeded cX0_gramsNeeded 2 (some .int), Cond.fieldLink RX0 15 "DyehouseLedger$Lot" "order" "LDyehouseLedger$Order;", Cond.fieldLink RX0 35 "DyehouseLedger$Order" "recipe" "LDyehouseLedger$Recipe;", Cond.fieldLink RX0 41 "DyehouseLedger$Recipe" "grams" "[I", Cond.fieldLink RX0 19 "DyehouseLedger$Lot" "weight" "I"]
def wsX6_reason : List Cond := .code yX6_reason cX6_reason 4 (some .char) :: ((wsX6_reason_r1 ++ wsX6_reason_r2) ++ wsX60 ++ wsX00 ++ wsX50 ++ wsX10 ++ wsX30 ++ wsX40 ++ (vx_at0 RX6 271 "java/util/NoSuchElementException" ["java/lang/RuntimeException", "java/lang/Exception"]).filter goodWord ++ (vx_atM "java/lang/ArrayIndexOutOfBoundsException" ["java/lang/IndexOutOfBoundsException", "java/lang/RuntimeException", "java/lang/Exception"]).filter goodWord)
def wsX6_takeDyesFor : List Cond := .code yX6_takeDyesFor cX6_takeDyesFor 4 none :: ([.fieldLink RX6 33 "DyehouseLedger" "gramsInStock" "[I", .fieldLink RX6 37 "DyehouseLedger" "gramsUsed" "[J", .methodLink RX6 111 yX0_gramsNeeded, .instanceMethod yX0_gramsNeeded, .selects RX0 yX0_gramsNeeded yX0_gramsNeeded, .initialized RX0, .code yX0_gramsNeeded cX0_gramsNeeded 2 (some .int), .fieldLink RX0 15 "DyehouseLedger$Lot" "order" "LDyehouseLedger$Order;", .fieldLink RX0 35 "DyehouseLedger$Order" "recipe" "LDyehouseLedger$Recipe;", .fieldLink RX0 41 "DyehouseLedger$Recipe" "grams" "[I", .fieldLink RX0 19 "DyehouseLedger$Lot" "weight" "I"] ++ wsX60 ++ wsX00 ++ wsX10 ++ wsX30 ++ (vx_atM "java/lang/ArrayIndexOutOfBoundsException" ["java/lang/IndexOutOfBoundsException", "java/lang/RuntimeException", "java/lang/Exception"]).filter goodWord)
def wsX6_dye_r1 : List Cond := [Cond.classLink RX6 127 "java/lang/UnsupportedOperationException", Cond.initialized "java/lang/UnsupportedOperationException", Cond.fieldLink RX6 134 "DyehouseLedger$Vat" "light" "I", Cond.fieldLink RX6 137 "DyehouseLedger$Vat" "clock" "I", Cond.fieldLink RX6 140 "DyehouseLedger$Lot" "shade" "LDyehouseLedger$Shade;", Cond.fieldLink RX6 147 "DyehouseLedger$Lot" "state" "C", Cond.fieldLink RX6 151 "DyehouseLedger$Lot" "vat" "LDyehouseLedger$Vat;", Cond.fieldLink RX6 155 "DyehouseLedger$Lot" "clockThen" "I", Cond.fieldLink RX6 158 "DyehouseLedger$Vat" "cleanings" "I", Cond.fieldLink RX6 161 "DyehouseLedger$Lot" "cleaningsThen" "I", Cond.fieldLink RX6 164 "DyehouseLedger$Lot" "plannedFor" "LDyehouseLedger$Vat;", Cond.methodLink RX6 107 yX6_lotNumbered, Cond.instanceMethod yX6_lotNumbered, Cond.selects RX6 yX6_lotNumbered yX6_lotNumbered, Cond.initialized RX6, Cond.code yX6_lotNumbered cX6_lotNumbered 3 (some (.object "DyehouseLedger$Lot")), Cond.classLink RX6 269 "java/util/NoSuchElementException", Cond.initialized "java/util/NoSuchElementException", Cond.fieldLink RX6 23 "DyehouseLedger" "allLots" "[LDyehouseLedger$Lot;", Cond.methodLink RX6 119 yX6_vatNumbered, Cond.instanceMethod yX6_vatNumbered, Cond.selects RX6 yX6_vatNumbered yX6_vatNumbered, Cond.code yX6_vatNumbered cX6_vatNumbered 3 (some (.object "DyehouseLedger$Vat")), Cond.fieldLink RX6 29 "DyehouseLedger" "allVats" "[LDyehouseLedger$Vat;"]
def wsX6_dye_r2 : List Cond := [Cond.methodLink RX6 48 yX6_checkShade, Cond.static yX6_checkShade, Cond.code yX6_checkShade cX6_checkShade 3 none, Cond.methodLink RX6 74 yX6_checkRange, Cond.static yX6_checkRange, Cond.code yX6_checkRange cX6_checkRange 3 none, Cond.classLink RX6 266 "java/lang/IllegalArgumentException", Cond.initialized "java/lang/IllegalArgumentException", Cond.methodLink RX6 123 yX6_reasonAgainst, Cond.instanceMethod yX6_reasonAgainst, Cond.selects RX6 yX6_reasonAgainst yX6_reasonAgainst, Cond.code yX6_reasonAgainst cX6_reasonAgainst 3 (some .char), Cond.fieldLink RX6 188 "DyehouseLedger$Lot" "weight" "I", Cond.fieldLink RX6 191 "DyehouseLedger$Vat" "mostWeight" "I", Cond.fieldLink RX6 236 "DyehouseLedger$Lot" "order" "LDyehouseLedger$Order;", Cond.fieldLink RX6 272 "DyehouseLedger$Order" "recipe" "LDyehouseLedger$Recipe;", Cond.fieldLink RX6 276 "DyehouseLedger$Recipe" "shade" "LDyehouseLedger$Shade;", Cond.fieldLink RX6 218 "DyehouseLedger$Shade" "light" "I", Cond.fieldLink RX6 167 "DyehouseLedger$Vat" "onlyCustomer" "I", Cond.fieldLink RX6 260 "DyehouseLedger$Order" "customer" "I", Cond.methodLink RX6 277 yX6_isTooDark, Cond.static yX6_isTooDark, Cond.code yX6_isTooDark cX6_isTooDark 2 (some .boolean), Cond.methodLink RX6 281 yX6_isBarred]
def wsX6_dye_r3 : List Cond := [Cond.static yX6_isBarred, Cond.code yX6_isBarred cX6_isBarred 2 (some .boolean), Cond.methodLink RX6 284 yX6_isStocked, Cond.instanceMethod yX6_isStocked, Cond.selects RX6 yX6_isStocked yX6_isStocked, Cond.code yX6_isStocked cX6_isStocked 3 (some .boolean), Cond.fieldLink RX6 33 "DyehouseLedger" "gramsInStock" "[I", Cond.methodLink RX6 111 yX0_gramsNeeded, Cond.instanceMethod yX0_gramsNeeded, Cond.selects RX0 yX0_gramsNeeded yX0_gramsNeeded, Cond.initialized RX0, Cond.code yX0_gramsNeeded cX0_gramsNeeded 2 (some .int), Cond.fieldLink RX0 15 "DyehouseLedger$Lot" "order" "LDyehouseLedger$Order;", Cond.fieldLink RX0 35 "DyehouseLedger$Order" "recipe" "LDyehouseLedger$Recipe;", Cond.fieldLink RX0 41 "DyehouseLedger$Recipe" "grams" "[I", Cond.fieldLink RX0 19 "DyehouseLedger$Lot" "weight" "I", Cond.methodLink RX6 130 yX6_takeDyesFor, Cond.instanceMethod yX6_takeDyesFor, Cond.selects RX6 yX6_takeDyesFor yX6_takeDyesFor, Cond.code yX6_takeDyesFor cX6_takeDyesFor 4 none, Cond.fieldLink RX6 37 "DyehouseLedger" "gramsUsed" "[J", Cond.methodLink RX6 115 yX0_dyeingHours, Cond.instanceMethod yX0_dyeingHours, Cond.selects RX0 yX0_dyeingHours yX0_dyeingHours]
def wsX6_dye_r4 : List Cond := [Cond.code yX0_dyeingHours cX0_dyeingHours 1 (some .int), Cond.methodLink RX6 144 yX4_set, Cond.instanceMethod yX4_set, Cond.selects RX4 yX4_set yX4_set, Cond.initialized RX4, Cond.code yX4_set cX4_set 4 none, Cond.fieldLink RX4 7 "DyehouseLedger$Shade" "light" "I", Cond.fieldLink RX4 13 "DyehouseLedger$Shade" "red" "I", Cond.fieldLink RX4 16 "DyehouseLedger$Shade" "blue" "I"]
def wsX6_dye : List Cond := .code yX6_dye cX6_dye 8 (some .int) :: ((wsX6_dye_r1 ++ (wsX6_dye_r2 ++ (wsX6_dye_r3 ++ wsX6_dye_r4))) ++ wsX50 ++ wsX00 ++ wsX60 ++ wsX10 ++ wsX30 ++ wsX40 ++ (vx_at0 RX6 129 "java/lang/UnsupportedOperationException" ["java/lang/RuntimeException", "java/lang/Exception"]).filter goodWord ++ (vx_at0 RX6 271 "java/util/NoSuchElementException" ["java/lang/RuntimeException", "java/lang/Exception"]).filter goodWord ++ (vx_at0 RX6 268 "java/lang/IllegalArgumentException" ["java/lang/RuntimeException", "java/lang/Exception"]).filter goodWord ++ (vx_atM "java/lang/ArrayIndexOutOfBoundsException" ["java/lang/IndexOutOfBoundsException", "java/lang/RuntimeException", "java/lang/Exception"]).filter goodWord)
def wsX6_clean : List Cond := .code yX6_clean cX6_clean 3 (some .int) :: ([.fieldLink RX6 134 "DyehouseLedger$Vat" "light" "I", .fieldLink RX6 167 "DyehouseLedger$Vat" "onlyCustomer" "I", .fieldLink RX6 158 "DyehouseLedger$Vat" "cleanings" "I", .fieldLink RX6 137 "DyehouseLedger$Vat" "clock" "I", .methodLink RX6 119 yX6_vatNumbered, .instanceMethod yX6_vatNumbered, .selects RX6 yX6_vatNumbered yX6_vatNumbered, .initialized RX6, .code yX6_vatNumbered cX6_vatNumbered 3 (some (.object "DyehouseLedger$Vat")), .classLink RX6 269 "java/util/NoSuchElementException", .initialized "java/util/NoSuchElementException", .fieldLink RX6 29 "DyehouseLedger" "allVats" "[LDyehouseLedger$Vat;"] ++ wsX50 ++ wsX60 ++ (vx_at0 RX6 271 "java/util/NoSuchElementException" ["java/lang/RuntimeException", "java/lang/Exception"]).filter goodWord)
def wsX6_dyedLotNumbered : List Cond := .code yX6_dyedLotNumbered cX6_dyedLotNumbered 3 (some (.object "DyehouseLedger$Lot")) :: ([.classLink RX6 56 "java/lang/IllegalStateException", .initialized "java/lang/IllegalStateException", .fieldLink RX6 147 "DyehouseLedger$Lot" "state" "C", .methodLink RX6 107 yX6_lotNumbered, .instanceMethod yX6_lotNumbered, .selects RX6 yX6_lotNumbered yX6_lotNumbered, .initialized RX6, .code yX6_lotNumbered cX6_lotNumbered 3 (some (.object "DyehouseLedger$Lot")), .classLink RX6 269 "java/util/NoSuchElementException", .initialized "java/util/NoSuchElementException", .fieldLink RX6 23 "DyehouseLedger" "allLots" "[LDyehouseLedger$Lot;"] ++ wsX00 ++ wsX60 ++ (vx_at0 RX6 58 "java/lang/IllegalStateException" ["java/lang/RuntimeException", "java/lang/Exception"]).filter goodWord ++ (vx_at0 RX6 271 "java/util/NoSuchElementException" ["java/lang/RuntimeException", "java/lang/Exception"]).filter goodWord)
def wsX6_greatestDistanceFromPassed_r1 : List Cond := [Cond.fieldLink RX6 23 "DyehouseLedger" "allLots" "[LDyehouseLedger$Lot;", Cond.fieldLink RX6 236 "DyehouseLedger$Lot" "order" "LDyehouseLedger$Order;", Cond.fieldLink RX6 140 "DyehouseLedger$Lot" "shade" "LDyehouseLedger$Shade;", Cond.methodLink RX6 247 Lib.Math.max.name, Cond.static Lib.Math.max.name, Cond.initialized "java/lang/Math", Cond.code Lib.Math.max.name Lib.Math.max.code 2 (some .int), Cond.methodLink RX6 240 yX0_isPassedOf, Cond.instanceMethod yX0_isPassedOf, Cond.selects RX0 yX0_isPassedOf yX0_isPassedOf, Cond.initialized RX0, Cond.code yX0_isPassedOf cX0_isPassedOf 2 (some .boolean), Cond.fieldLink RX0 15 "DyehouseLedger$Lot" "order" "LDyehouseLedger$Order;", Cond.fieldLink RX0 31 "DyehouseLedger$Lot" "state" "C", Cond.methodLink RX6 228 yX4_distanceTo, Cond.instanceMethod yX4_distanceTo, Cond.selects RX4 yX4_distanceTo yX4_distanceTo, Cond.initialized RX4, Cond.code yX4_distanceTo cX4_distanceTo 2 (some .int), Cond.fieldLink RX4 7 "DyehouseLedger$Shade" "light" "I", Cond.methodLink RX4 19 Lib.Math.abs.name, Cond.static Lib.Math.abs.name, Cond.code Lib.Math.abs.name Lib.Math.abs.code 1 (some .int), Cond.fieldLink RX4 13 "DyehouseLedger$Shade" "red" "I"]
def wsX6_greatestDistanceFromPassed_r2 : List Cond := [Cond.fieldLink RX4 16 "DyehouseLedger$Shade" "blue" "I"]
def wsX6_greatestDistanceFromPassed : List Cond := .code yX6_greatestDistanceFromPassed cX6_greatestDistanceFromPassed 7 (some .int) :: ((wsX6_greatestDistanceFromPassed_r1 ++ wsX6_greatestDistanceFromPassed_r2) ++ wsX60 ++ wsX00 ++ wsX40)
def wsX6_verdictOn_r1 : List Cond := [Cond.fieldLink RX6 236 "DyehouseLedger$Lot" "order" "LDyehouseLedger$Order;", Cond.fieldLink RX6 288 "DyehouseLedger$Order" "bound" "I", Cond.methodLink RX6 225 yX0_distanceFromRecipe, Cond.instanceMethod yX0_distanceFromRecipe, Cond.selects RX0 yX0_distanceFromRecipe yX0_distanceFromRecipe, Cond.initialized RX0, Cond.code yX0_distanceFromRecipe cX0_distanceFromRecipe 1 (some .int), Cond.fieldLink RX0 27 "DyehouseLedger$Lot" "shade" "LDyehouseLedger$Shade;", Cond.fieldLink RX0 15 "DyehouseLedger$Lot" "order" "LDyehouseLedger$Order;", Cond.fieldLink RX0 35 "DyehouseLedger$Order" "recipe" "LDyehouseLedger$Recipe;", Cond.fieldLink RX0 47 "DyehouseLedger$Recipe" "shade" "LDyehouseLedger$Shade;", Cond.methodLink RX0 48 yX4_distanceTo, Cond.instanceMethod yX4_distanceTo, Cond.selects RX4 yX4_distanceTo yX4_distanceTo, Cond.initialized RX4, Cond.code yX4_distanceTo cX4_distanceTo 2 (some .int), Cond.fieldLink RX4 7 "DyehouseLedger$Shade" "light" "I", Cond.methodLink RX4 19 Lib.Math.abs.name, Cond.static Lib.Math.abs.name, Cond.initialized "java/lang/Math", Cond.code Lib.Math.abs.name Lib.Math.abs.code 1 (some .int), Cond.fieldLink RX4 13 "DyehouseLedger$Shade" "red" "I", Cond.fieldLink RX4 16 "DyehouseLedger$Shade" "blue" "I", Cond.methodLink RX6 244 yX6_greatestDistanceFromPassed]
def wsX6_verdictOn_r2 : List Cond := [Cond.instanceMethod yX6_greatestDistanceFromPassed, Cond.selects RX6 yX6_greatestDistanceFromPassed yX6_greatestDistanceFromPassed, Cond.initialized RX6, Cond.code yX6_greatestDistanceFromPassed cX6_greatestDistanceFromPassed 7 (some .int), Cond.fieldLink RX6 23 "DyehouseLedger" "allLots" "[LDyehouseLedger$Lot;", Cond.fieldLink RX6 140 "DyehouseLedger$Lot" "shade" "LDyehouseLedger$Shade;", Cond.methodLink RX6 247 Lib.Math.max.name, Cond.static Lib.Math.max.name, Cond.code Lib.Math.max.name Lib.Math.max.code 2 (some .int), Cond.methodLink RX6 240 yX0_isPassedOf, Cond.instanceMethod yX0_isPassedOf, Cond.selects RX0 yX0_isPassedOf yX0_isPassedOf, Cond.code yX0_isPassedOf cX0_isPassedOf 2 (some .boolean), Cond.fieldLink RX0 31 "DyehouseLedger$Lot" "state" "C", Cond.methodLink RX6 228 yX4_distanceTo]
def wsX6_verdictOn : List Cond := .code yX6_verdictOn cX6_verdictOn 2 (some .char) :: ((wsX6_verdictOn_r1 ++ wsX6_verdictOn_r2) ++ wsX00 ++ wsX10 ++ wsX30 ++ wsX40 ++ wsX60)
def wsX6_verdict_r1 : List Cond := [Cond.methodLink RX6 170 yX6_dyedLotNumbered, Cond.instanceMethod yX6_dyedLotNumbered, Cond.selects RX6 yX6_dyedLotNumbered yX6_dyedLotNumbered, Cond.initialized RX6, Cond.code yX6_dyedLotNumbered cX6_dyedLotNumbered 3 (some (.object "DyehouseLedger$Lot")), Cond.classLink RX6 56 "java/lang/IllegalStateException", Cond.initialized "java/lang/IllegalStateException", Cond.fieldLink RX6 147 "DyehouseLedger$Lot" "state" "C", Cond.methodLink RX6 107 yX6_lotNumbered, Cond.instanceMethod yX6_lotNumbered, Cond.selects RX6 yX6_lotNumbered yX6_lotNumbered, Cond.code yX6_lotNumbered cX6_lotNumbered 3 (some (.object "DyehouseLedger$Lot")), Cond.classLink RX6 269 "java/util/NoSuchElementException", Cond.initialized "java/util/NoSuchElementException", Cond.fieldLink RX6 23 "DyehouseLedger" "allLots" "[LDyehouseLedger$Lot;", Cond.methodLink RX6 173 yX6_verdictOn, Cond.instanceMethod yX6_verdictOn, Cond.selects RX6 yX6_verdictOn yX6_verdictOn, Cond.code yX6_verdictOn cX6_verdictOn 2 (some .char), Cond.fieldLink RX6 236 "DyehouseLedger$Lot" "order" "LDyehouseLedger$Order;", Cond.fieldLink RX6 288 "DyehouseLedger$Order" "bound" "I", Cond.methodLink RX6 225 yX0_distanceFromRecipe, Cond.instanceMethod yX0_distanceFromRecipe, Cond.selects RX0 yX0_distanceFromRecipe yX0_distanceFromRecipe]
def wsX6_verdict_r2 : List Cond := [Cond.initialized RX0, Cond.code yX0_distanceFromRecipe cX0_distanceFromRecipe 1 (some .int), Cond.fieldLink RX0 27 "DyehouseLedger$Lot" "shade" "LDyehouseLedger$Shade;", Cond.fieldLink RX0 15 "DyehouseLedger$Lot" "order" "LDyehouseLedger$Order;", Cond.fieldLink RX0 35 "DyehouseLedger$Order" "recipe" "LDyehouseLedger$Recipe;", Cond.fieldLink RX0 47 "DyehouseLedger$Recipe" "shade" "LDyehouseLedger$Shade;", Cond.methodLink RX0 48 yX4_distanceTo, Cond.instanceMethod yX4_distanceTo, Cond.selects RX4 yX4_distanceTo yX4_distanceTo, Cond.initialized RX4, Cond.code yX4_distanceTo cX4_distanceTo 2 (some .int), Cond.fieldLink RX4 7 "DyehouseLedger$Shade" "light" "I", Cond.methodLink RX4 19 Lib.Math.abs.name, Cond.static Lib.Math.abs.name, Cond.initialized "java/lang/Math", Cond.code Lib.Math.abs.name Lib.Math.abs.code 1 (some .int), Cond.fieldLink RX4 13 "DyehouseLedger$Shade" "red" "I", Cond.fieldLink RX4 16 "DyehouseLedger$Shade" "blue" "I", Cond.methodLink RX6 244 yX6_greatestDistanceFromPassed, Cond.instanceMethod yX6_greatestDistanceFromPassed, Cond.selects RX6 yX6_greatestDistanceFromPassed yX6_greatestDistanceFromPassed, Cond.code yX6_greatestDistanceFromPassed cX6_greatestDistanceFromPassed 7 (some .int), Cond.fieldLink RX6 140 "DyehouseLedger$Lot" "shade" "LDyehouseLedger$Shade;", Cond.methodLink RX6 247 Lib.Math.max.name]
def wsX6_verdict_r3 : List Cond := [Cond.static Lib.Math.max.name, Cond.code Lib.Math.max.name Lib.Math.max.code 2 (some .int), Cond.methodLink RX6 240 yX0_isPassedOf, Cond.instanceMethod yX0_isPassedOf, Cond.selects RX0 yX0_isPassedOf yX0_isPassedOf, Cond.code yX0_isPassedOf cX0_isPassedOf 2 (some .boolean), Cond.fieldLink RX0 31 "DyehouseLedger$Lot" "state" "C", Cond.methodLink RX6 228 yX4_distanceTo]
def wsX6_verdict : List Cond := .code yX6_verdict cX6_verdict 2 (some .char) :: ((wsX6_verdict_r1 ++ (wsX6_verdict_r2 ++ wsX6_verdict_r3)) ++ wsX00 ++ wsX60 ++ wsX10 ++ wsX30 ++ wsX40 ++ (vx_at0 RX6 58 "java/lang/IllegalStateException" ["java/lang/RuntimeException", "java/lang/Exception"]).filter goodWord ++ (vx_at0 RX6 271 "java/util/NoSuchElementException" ["java/lang/RuntimeException", "java/lang/Exception"]).filter goodWord)
def wsX6_barVatOf : List Cond := .code yX6_barVatOf cX6_barVatOf 2 none :: ([.fieldLink RX6 151 "DyehouseLedger$Lot" "vat" "LDyehouseLedger$Vat;", .fieldLink RX6 158 "DyehouseLedger$Vat" "cleanings" "I", .fieldLink RX6 161 "DyehouseLedger$Lot" "cleaningsThen" "I", .fieldLink RX6 236 "DyehouseLedger$Lot" "order" "LDyehouseLedger$Order;", .fieldLink RX6 260 "DyehouseLedger$Order" "customer" "I", .fieldLink RX6 167 "DyehouseLedger$Vat" "onlyCustomer" "I"] ++ wsX00 ++ wsX50 ++ wsX10)
def wsX6_judge_r1 : List Cond := [Cond.fieldLink RX6 147 "DyehouseLedger$Lot" "state" "C", Cond.methodLink RX6 170 yX6_dyedLotNumbered, Cond.instanceMethod yX6_dyedLotNumbered, Cond.selects RX6 yX6_dyedLotNumbered yX6_dyedLotNumbered, Cond.initialized RX6, Cond.code yX6_dyedLotNumbered cX6_dyedLotNumbered 3 (some (.object "DyehouseLedger$Lot")), Cond.classLink RX6 56 "java/lang/IllegalStateException", Cond.initialized "java/lang/IllegalStateException", Cond.methodLink RX6 107 yX6_lotNumbered, Cond.instanceMethod yX6_lotNumbered, Cond.selects RX6 yX6_lotNumbered yX6_lotNumbered, Cond.code yX6_lotNumbered cX6_lotNumbered 3 (some (.object "DyehouseLedger$Lot")), Cond.classLink RX6 269 "java/util/NoSuchElementException", Cond.initialized "java/util/NoSuchElementException", Cond.fieldLink RX6 23 "DyehouseLedger" "allLots" "[LDyehouseLedger$Lot;", Cond.methodLink RX6 173 yX6_verdictOn, Cond.instanceMethod yX6_verdictOn, Cond.selects RX6 yX6_verdictOn yX6_verdictOn, Cond.code yX6_verdictOn cX6_verdictOn 2 (some .char), Cond.fieldLink RX6 236 "DyehouseLedger$Lot" "order" "LDyehouseLedger$Order;", Cond.fieldLink RX6 288 "DyehouseLedger$Order" "bound" "I", Cond.methodLink RX6 225 yX0_distanceFromRecipe, Cond.instanceMethod yX0_distanceFromRecipe, Cond.selects RX0 yX0_distanceFromRecipe yX0_distanceFromRecipe]
def wsX6_judge_r2 : List Cond := [Cond.initialized RX0, Cond.code yX0_distanceFromRecipe cX0_distanceFromRecipe 1 (some .int), Cond.fieldLink RX0 27 "DyehouseLedger$Lot" "shade" "LDyehouseLedger$Shade;", Cond.fieldLink RX0 15 "DyehouseLedger$Lot" "order" "LDyehouseLedger$Order;", Cond.fieldLink RX0 35 "DyehouseLedger$Order" "recipe" "LDyehouseLedger$Recipe;", Cond.fieldLink RX0 47 "DyehouseLedger$Recipe" "shade" "LDyehouseLedger$Shade;", Cond.methodLink RX0 48 yX4_distanceTo, Cond.instanceMethod yX4_distanceTo, Cond.selects RX4 yX4_distanceTo yX4_distanceTo, Cond.initialized RX4, Cond.code yX4_distanceTo cX4_distanceTo 2 (some .int), Cond.fieldLink RX4 7 "DyehouseLedger$Shade" "light" "I", Cond.methodLink RX4 19 Lib.Math.abs.name, Cond.static Lib.Math.abs.name, Cond.initialized "java/lang/Math", Cond.code Lib.Math.abs.name Lib.Math.abs.code 1 (some .int), Cond.fieldLink RX4 13 "DyehouseLedger$Shade" "red" "I", Cond.fieldLink RX4 16 "DyehouseLedger$Shade" "blue" "I", Cond.methodLink RX6 244 yX6_greatestDistanceFromPassed, Cond.instanceMethod yX6_greatestDistanceFromPassed, Cond.selects RX6 yX6_greatestDistanceFromPassed yX6_greatestDistanceFromPassed, Cond.code yX6_greatestDistanceFromPassed cX6_greatestDistanceFromPassed 7 (some .int), Cond.fieldLink RX6 140 "DyehouseLedger$Lot" "shade" "LDyehouseLedger$Shade;", Cond.methodLink RX6 247 Lib.Math.max.name]
def wsX6_judge_r3 : List Cond := [Cond.static Lib.Math.max.name, Cond.code Lib.Math.max.name Lib.Math.max.code 2 (some .int), Cond.methodLink RX6 240 yX0_isPassedOf, Cond.instanceMethod yX0_isPassedOf, Cond.selects RX0 yX0_isPassedOf yX0_isPassedOf, Cond.code yX0_isPassedOf cX0_isPassedOf 2 (some .boolean), Cond.fieldLink RX0 31 "DyehouseLedger$Lot" "state" "C", Cond.methodLink RX6 228 yX4_distanceTo, Cond.methodLink RX6 177 yX6_barVatOf, Cond.static yX6_barVatOf, Cond.code yX6_barVatOf cX6_barVatOf 2 none, Cond.fieldLink RX6 151 "DyehouseLedger$Lot" "vat" "LDyehouseLedger$Vat;", Cond.fieldLink RX6 158 "DyehouseLedger$Vat" "cleanings" "I", Cond.fieldLink RX6 161 "DyehouseLedger$Lot" "cleaningsThen" "I", Cond.fieldLink RX6 260 "DyehouseLedger$Order" "customer" "I", Cond.fieldLink RX6 167 "DyehouseLedger$Vat" "onlyCustomer" "I"]
def wsX6_judge : List Cond := .code yX6_judge cX6_judge 3 (some .boolean) :: ((wsX6_judge_r1 ++ (wsX6_judge_r2 ++ wsX6_judge_r3)) ++ wsX00 ++ wsX60 ++ wsX10 ++ wsX30 ++ wsX40 ++ wsX50 ++ (vx_at0 RX6 58 "java/lang/IllegalStateException" ["java/lang/RuntimeException", "java/lang/Exception"]).filter goodWord ++ (vx_at0 RX6 271 "java/util/NoSuchElementException" ["java/lang/RuntimeException", "java/lang/Exception"]).filter goodWord)
def wsX6_lotsInState : List Cond := .code yX6_lotsInState cX6_lotsInState 7 (some .int) :: ([.fieldLink RX6 23 "DyehouseLedger" "allLots" "[LDyehouseLedger$Lot;", .fieldLink RX6 147 "DyehouseLedger$Lot" "state" "C"] ++ wsX60 ++ wsX00)
def wsX6_again : List Cond := .code yX6_again cX6_again 3 (some .int) :: ([.classLink RX6 56 "java/lang/IllegalStateException", .initialized "java/lang/IllegalStateException", .fieldLink RX6 147 "DyehouseLedger$Lot" "state" "C", .fieldLink RX6 151 "DyehouseLedger$Lot" "vat" "LDyehouseLedger$Vat;", .methodLink RX6 107 yX6_lotNumbered, .instanceMethod yX6_lotNumbered, .selects RX6 yX6_lotNumbered yX6_lotNumbered, .initialized RX6, .code yX6_lotNumbered cX6_lotNumbered 3 (some (.object "DyehouseLedger$Lot")), .classLink RX6 269 "java/util/NoSuchElementException", .initialized "java/util/NoSuchElementException", .fieldLink RX6 23 "DyehouseLedger" "allLots" "[LDyehouseLedger$Lot;", .methodLink RX6 180 yX6_lotsInState, .instanceMethod yX6_lotsInState, .selects RX6 yX6_lotsInState yX6_lotsInState, .code yX6_lotsInState cX6_lotsInState 7 (some .int)] ++ wsX00 ++ wsX60 ++ (vx_at0 RX6 58 "java/lang/IllegalStateException" ["java/lang/RuntimeException", "java/lang/Exception"]).filter goodWord ++ (vx_at0 RX6 271 "java/util/NoSuchElementException" ["java/lang/RuntimeException", "java/lang/Exception"]).filter goodWord)
def wsX6_plannedLots : List Cond := .code yX6_plannedLots cX6_plannedLots 7 (some .int) :: ([.fieldLink RX6 23 "DyehouseLedger" "allLots" "[LDyehouseLedger$Lot;", .fieldLink RX6 164 "DyehouseLedger$Lot" "plannedFor" "LDyehouseLedger$Vat;"] ++ wsX60 ++ wsX00)
def wsX6_plan_r1 : List Cond := [Cond.classLink RX6 56 "java/lang/IllegalStateException", Cond.initialized "java/lang/IllegalStateException", Cond.classLink RX6 127 "java/lang/UnsupportedOperationException", Cond.initialized "java/lang/UnsupportedOperationException", Cond.fieldLink RX6 147 "DyehouseLedger$Lot" "state" "C", Cond.fieldLink RX6 164 "DyehouseLedger$Lot" "plannedFor" "LDyehouseLedger$Vat;", Cond.fieldLink RX6 188 "DyehouseLedger$Lot" "weight" "I", Cond.fieldLink RX6 191 "DyehouseLedger$Vat" "mostWeight" "I", Cond.methodLink RX6 107 yX6_lotNumbered, Cond.instanceMethod yX6_lotNumbered, Cond.selects RX6 yX6_lotNumbered yX6_lotNumbered, Cond.initialized RX6, Cond.code yX6_lotNumbered cX6_lotNumbered 3 (some (.object "DyehouseLedger$Lot")), Cond.classLink RX6 269 "java/util/NoSuchElementException", Cond.initialized "java/util/NoSuchElementException", Cond.fieldLink RX6 23 "DyehouseLedger" "allLots" "[LDyehouseLedger$Lot;", Cond.methodLink RX6 119 yX6_vatNumbered, Cond.instanceMethod yX6_vatNumbered, Cond.selects RX6 yX6_vatNumbered yX6_vatNumbered, Cond.code yX6_vatNumbered cX6_vatNumbered 3 (some (.object "DyehouseLedger$Vat")), Cond.fieldLink RX6 29 "DyehouseLedger" "allVats" "[LDyehouseLedger$Vat;", Cond.methodLink RX6 184 yX6_plannedLots, Cond.instanceMethod yX6_plannedLots, Cond.selects RX6 yX6_plannedLots yX6_plannedLots]
def wsX6_plan_r2 : List Cond := [Cond.code yX6_plannedLots cX6_plannedLots 7 (some .int)]
def wsX6_plan : List Cond := .code yX6_plan cX6_plan 6 (some .int) :: ((wsX6_plan_r1 ++ wsX6_plan_r2) ++ wsX00 ++ wsX50 ++ wsX60 ++ (vx_at0 RX6 58 "java/lang/IllegalStateException" ["java/lang/RuntimeException", "java/lang/Exception"]).filter goodWord ++ (vx_at0 RX6 129 "java/lang/UnsupportedOperationException" ["java/lang/RuntimeException", "java/lang/Exception"]).filter goodWord ++ (vx_at0 RX6 271 "java/util/NoSuchElementException" ["java/lang/RuntimeException", "java/lang/Exception"]).filter goodWord)
def wsX6_unplan : List Cond := .code yX6_unplan cX6_unplan 4 (some .int) :: ([.classLink RX6 56 "java/lang/IllegalStateException", .initialized "java/lang/IllegalStateException", .fieldLink RX6 164 "DyehouseLedger$Lot" "plannedFor" "LDyehouseLedger$Vat;", .fieldLink RX6 194 "DyehouseLedger$Vat" "number" "I", .methodLink RX6 107 yX6_lotNumbered, .instanceMethod yX6_lotNumbered, .selects RX6 yX6_lotNumbered yX6_lotNumbered, .initialized RX6, .code yX6_lotNumbered cX6_lotNumbered 3 (some (.object "DyehouseLedger$Lot")), .classLink RX6 269 "java/util/NoSuchElementException", .initialized "java/util/NoSuchElementException", .fieldLink RX6 23 "DyehouseLedger" "allLots" "[LDyehouseLedger$Lot;"] ++ wsX00 ++ wsX50 ++ wsX60 ++ (vx_at0 RX6 58 "java/lang/IllegalStateException" ["java/lang/RuntimeException", "java/lang/Exception"]).filter goodWord ++ (vx_at0 RX6 271 "java/util/NoSuchElementException" ["java/lang/RuntimeException", "java/lang/Exception"]).filter goodWord)
def wsX6_planned : List Cond := .code yX6_planned cX6_planned 2 (some .int) :: ([.methodLink RX6 119 yX6_vatNumbered, .instanceMethod yX6_vatNumbered, .selects RX6 yX6_vatNumbered yX6_vatNumbered, .initialized RX6, .code yX6_vatNumbered cX6_vatNumbered 3 (some (.object "DyehouseLedger$Vat")), .classLink RX6 269 "java/util/NoSuchElementException", .initialized "java/util/NoSuchElementException", .fieldLink RX6 29 "DyehouseLedger" "allVats" "[LDyehouseLedger$Vat;", .methodLink RX6 184 yX6_plannedLots, .instanceMethod yX6_plannedLots, .selects RX6 yX6_plannedLots yX6_plannedLots, .code yX6_plannedLots cX6_plannedLots 7 (some .int), .fieldLink RX6 23 "DyehouseLedger" "allLots" "[LDyehouseLedger$Lot;", .fieldLink RX6 164 "DyehouseLedger$Lot" "plannedFor" "LDyehouseLedger$Vat;"] ++ wsX60 ++ wsX00 ++ (vx_at0 RX6 271 "java/util/NoSuchElementException" ["java/lang/RuntimeException", "java/lang/Exception"]).filter goodWord)
def wsX6_plannedAt : List Cond := .code yX6_plannedAt cX6_plannedAt 9 (some .int) :: ([.classLink RX6 198 "java/lang/IndexOutOfBoundsException", .initialized "java/lang/IndexOutOfBoundsException", .fieldLink RX6 23 "DyehouseLedger" "allLots" "[LDyehouseLedger$Lot;", .fieldLink RX6 164 "DyehouseLedger$Lot" "plannedFor" "LDyehouseLedger$Vat;", .fieldLink RX6 197 "DyehouseLedger$Lot" "number" "I", .methodLink RX6 119 yX6_vatNumbered, .instanceMethod yX6_vatNumbered, .selects RX6 yX6_vatNumbered yX6_vatNumbered, .initialized RX6, .code yX6_vatNumbered cX6_vatNumbered 3 (some (.object "DyehouseLedger$Vat")), .classLink RX6 269 "java/util/NoSuchElementException", .initialized "java/util/NoSuchElementException", .fieldLink RX6 29 "DyehouseLedger" "allVats" "[LDyehouseLedger$Vat;"] ++ wsX60 ++ wsX00 ++ (vx_at0 RX6 200 "java/lang/IndexOutOfBoundsException" ["java/lang/RuntimeException", "java/lang/Exception"]).filter goodWord ++ (vx_at0 RX6 271 "java/util/NoSuchElementException" ["java/lang/RuntimeException", "java/lang/Exception"]).filter goodWord)
def wsX6_fillPlan_r1 : List Cond := [Cond.fieldLink RX6 44 "DyehouseLedger" "planAtHand" "LDyehouseLedger$Plan;", Cond.fieldLink RX6 23 "DyehouseLedger" "allLots" "[LDyehouseLedger$Lot;", Cond.fieldLink RX6 164 "DyehouseLedger$Lot" "plannedFor" "LDyehouseLedger$Vat;", Cond.methodLink RX6 291 yX2_begin, Cond.instanceMethod yX2_begin, Cond.selects RX2 yX2_begin yX2_begin, Cond.initialized RX2, Cond.code yX2_begin cX2_begin 2 none, Cond.fieldLink RX2 24 "DyehouseLedger$Plan" "size" "I", Cond.fieldLink RX2 28 "DyehouseLedger$Vat" "light" "I", Cond.fieldLink RX2 33 "DyehouseLedger$Plan" "lightAtFirst" "I", Cond.fieldLink RX2 36 "DyehouseLedger$Vat" "onlyCustomer" "I", Cond.fieldLink RX2 39 "DyehouseLedger$Plan" "onlyCustomerAtFirst" "I", Cond.methodLink RX6 294 yX2_add, Cond.instanceMethod yX2_add, Cond.selects RX2 yX2_add yX2_add, Cond.code yX2_add cX2_add 2 none, Cond.fieldLink RX2 9 "DyehouseLedger$Plan" "numbers" "[I", Cond.fieldLink RX2 42 "DyehouseLedger$Lot" "number" "I", Cond.fieldLink RX2 15 "DyehouseLedger$Plan" "lights" "[I", Cond.fieldLink RX2 47 "DyehouseLedger$Lot" "order" "LDyehouseLedger$Order;", Cond.fieldLink RX2 51 "DyehouseLedger$Order" "recipe" "LDyehouseLedger$Recipe;", Cond.fieldLink RX2 57 "DyehouseLedger$Recipe" "shade" "LDyehouseLedger$Shade;", Cond.fieldLink RX2 63 "DyehouseLedger$Shade" "light" "I"]
def wsX6_fillPlan_r2 : List Cond := [Cond.fieldLink RX2 18 "DyehouseLedger$Plan" "customers" "[I", Cond.fieldLink RX2 66 "DyehouseLedger$Order" "customer" "I", Cond.fieldLink RX2 21 "DyehouseLedger$Plan" "hours" "[I", Cond.methodLink RX2 69 yX0_dyeingHours, Cond.instanceMethod yX0_dyeingHours, Cond.selects RX0 yX0_dyeingHours yX0_dyeingHours, Cond.initialized RX0, Cond.code yX0_dyeingHours cX0_dyeingHours 1 (some .int), Cond.fieldLink RX0 19 "DyehouseLedger$Lot" "weight" "I"]
def wsX6_fillPlan : List Cond := .code yX6_fillPlan cX6_fillPlan 6 none :: ((wsX6_fillPlan_r1 ++ wsX6_fillPlan_r2) ++ wsX60 ++ wsX00 ++ wsX20 ++ wsX50 ++ wsX10 ++ wsX30 ++ wsX40 ++ (vx_atM "java/lang/ArrayIndexOutOfBoundsException" ["java/lang/IndexOutOfBoundsException", "java/lang/RuntimeException", "java/lang/Exception"]).filter goodWord)
def wsX6_leastHours_r1 : List Cond := [Cond.fieldLink RX6 44 "DyehouseLedger" "planAtHand" "LDyehouseLedger$Plan;", Cond.methodLink RX6 119 yX6_vatNumbered, Cond.instanceMethod yX6_vatNumbered, Cond.selects RX6 yX6_vatNumbered yX6_vatNumbered, Cond.initialized RX6, Cond.code yX6_vatNumbered cX6_vatNumbered 3 (some (.object "DyehouseLedger$Vat")), Cond.classLink RX6 269 "java/util/NoSuchElementException", Cond.initialized "java/util/NoSuchElementException", Cond.fieldLink RX6 29 "DyehouseLedger" "allVats" "[LDyehouseLedger$Vat;", Cond.methodLink RX6 201 yX6_fillPlan, Cond.instanceMethod yX6_fillPlan, Cond.selects RX6 yX6_fillPlan yX6_fillPlan, Cond.code yX6_fillPlan cX6_fillPlan 6 none, Cond.fieldLink RX6 23 "DyehouseLedger" "allLots" "[LDyehouseLedger$Lot;", Cond.fieldLink RX6 164 "DyehouseLedger$Lot" "plannedFor" "LDyehouseLedger$Vat;", Cond.methodLink RX6 291 yX2_begin, Cond.instanceMethod yX2_begin, Cond.selects RX2 yX2_begin yX2_begin, Cond.initialized RX2, Cond.code yX2_begin cX2_begin 2 none, Cond.fieldLink RX2 24 "DyehouseLedger$Plan" "size" "I", Cond.fieldLink RX2 28 "DyehouseLedger$Vat" "light" "I", Cond.fieldLink RX2 33 "DyehouseLedger$Plan" "lightAtFirst" "I", Cond.fieldLink RX2 36 "DyehouseLedger$Vat" "onlyCustomer" "I"]
def wsX6_leastHours_r2 : List Cond := [Cond.fieldLink RX2 39 "DyehouseLedger$Plan" "onlyCustomerAtFirst" "I", Cond.methodLink RX6 294 yX2_add, Cond.instanceMethod yX2_add, Cond.selects RX2 yX2_add yX2_add, Cond.code yX2_add cX2_add 2 none, Cond.fieldLink RX2 9 "DyehouseLedger$Plan" "numbers" "[I", Cond.fieldLink RX2 42 "DyehouseLedger$Lot" "number" "I", Cond.fieldLink RX2 15 "DyehouseLedger$Plan" "lights" "[I", Cond.fieldLink RX2 47 "DyehouseLedger$Lot" "order" "LDyehouseLedger$Order;", Cond.fieldLink RX2 51 "DyehouseLedger$Order" "recipe" "LDyehouseLedger$Recipe;", Cond.fieldLink RX2 57 "DyehouseLedger$Recipe" "shade" "LDyehouseLedger$Shade;", Cond.fieldLink RX2 63 "DyehouseLedger$Shade" "light" "I", Cond.fieldLink RX2 18 "DyehouseLedger$Plan" "customers" "[I", Cond.fieldLink RX2 66 "DyehouseLedger$Order" "customer" "I", Cond.fieldLink RX2 21 "DyehouseLedger$Plan" "hours" "[I", Cond.methodLink RX2 69 yX0_dyeingHours, Cond.instanceMethod yX0_dyeingHours, Cond.selects RX0 yX0_dyeingHours yX0_dyeingHours, Cond.initialized RX0, Cond.code yX0_dyeingHours cX0_dyeingHours 1 (some .int), Cond.fieldLink RX0 19 "DyehouseLedger$Lot" "weight" "I", Cond.methodLink RX6 205 yX2_dyeingHours, Cond.instanceMethod yX2_dyeingHours, Cond.selects RX2 yX2_dyeingHours yX2_dyeingHours]
def wsX6_leastHours_r3 : List Cond := [Cond.code yX2_dyeingHours cX2_dyeingHours 3 (some .int), Cond.methodLink RX6 206 yX2_fewestCleanings, Cond.instanceMethod yX2_fewestCleanings, Cond.selects RX2 yX2_fewestCleanings yX2_fewestCleanings, Cond.code yX2_fewestCleanings cX2_fewestCleanings 1 (some .int), Cond.methodLink RX2 73 yX2_fewestFrom, Cond.static yX2_fewestFrom, Cond.code yX2_fewestFrom cX2_fewestFrom 10 (some .int), Cond.methodLink RX2 84 yX2_mustBeCleaned, Cond.instanceMethod yX2_mustBeCleaned, Cond.selects RX2 yX2_mustBeCleaned yX2_mustBeCleaned, Cond.code yX2_mustBeCleaned cX2_mustBeCleaned 4 (some .boolean), Cond.static yX6_isTooDark, Cond.code yX6_isTooDark cX6_isTooDark 2 (some .boolean), Cond.static yX6_isBarred, Cond.code yX6_isBarred cX6_isBarred 2 (some .boolean)]
def wsX6_leastHours : List Cond := .code yX6_leastHours cX6_leastHours 2 (some .int) :: ((wsX6_leastHours_r1 ++ (wsX6_leastHours_r2 ++ wsX6_leastHours_r3)) ++ wsX60 ++ wsX00 ++ wsX20 ++ wsX50 ++ wsX10 ++ wsX30 ++ wsX40 ++ (vx_at0 RX6 271 "java/util/NoSuchElementException" ["java/lang/RuntimeException", "java/lang/Exception"]).filter goodWord ++ (vx_atM "java/lang/ArrayIndexOutOfBoundsException" ["java/lang/IndexOutOfBoundsException", "java/lang/RuntimeException", "java/lang/Exception"]).filter goodWord)
def wsX6_leastByAll_r1 : List Cond := [Cond.fieldLink RX6 44 "DyehouseLedger" "planAtHand" "LDyehouseLedger$Plan;", Cond.methodLink RX6 119 yX6_vatNumbered, Cond.instanceMethod yX6_vatNumbered, Cond.selects RX6 yX6_vatNumbered yX6_vatNumbered, Cond.initialized RX6, Cond.code yX6_vatNumbered cX6_vatNumbered 3 (some (.object "DyehouseLedger$Vat")), Cond.classLink RX6 269 "java/util/NoSuchElementException", Cond.initialized "java/util/NoSuchElementException", Cond.fieldLink RX6 29 "DyehouseLedger" "allVats" "[LDyehouseLedger$Vat;", Cond.methodLink RX6 201 yX6_fillPlan, Cond.instanceMethod yX6_fillPlan, Cond.selects RX6 yX6_fillPlan yX6_fillPlan, Cond.code yX6_fillPlan cX6_fillPlan 6 none, Cond.fieldLink RX6 23 "DyehouseLedger" "allLots" "[LDyehouseLedger$Lot;", Cond.fieldLink RX6 164 "DyehouseLedger$Lot" "plannedFor" "LDyehouseLedger$Vat;", Cond.methodLink RX6 291 yX2_begin, Cond.instanceMethod yX2_begin, Cond.selects RX2 yX2_begin yX2_begin, Cond.initialized RX2, Cond.code yX2_begin cX2_begin 2 none, Cond.fieldLink RX2 24 "DyehouseLedger$Plan" "size" "I", Cond.fieldLink RX2 28 "DyehouseLedger$Vat" "light" "I", Cond.fieldLink RX2 33 "DyehouseLedger$Plan" "lightAtFirst" "I", Cond.fieldLink RX2 36 "DyehouseLedger$Vat" "onlyCustomer" "I"]
def wsX6_leastByAll_r2 : List Cond := [Cond.fieldLink RX2 39 "DyehouseLedger$Plan" "onlyCustomerAtFirst" "I", Cond.methodLink RX6 294 yX2_add, Cond.instanceMethod yX2_add, Cond.selects RX2 yX2_add yX2_add, Cond.code yX2_add cX2_add 2 none, Cond.fieldLink RX2 9 "DyehouseLedger$Plan" "numbers" "[I", Cond.fieldLink RX2 42 "DyehouseLedger$Lot" "number" "I", Cond.fieldLink RX2 15 "DyehouseLedger$Plan" "lights" "[I", Cond.fieldLink RX2 47 "DyehouseLedger$Lot" "order" "LDyehouseLedger$Order;", Cond.fieldLink RX2 51 "DyehouseLedger$Order" "recipe" "LDyehouseLedger$Recipe;", Cond.fieldLink RX2 57 "DyehouseLedger$Recipe" "shade" "LDyehouseLedger$Shade;", Cond.fieldLink RX2 63 "DyehouseLedger$Shade" "light" "I", Cond.fieldLink RX2 18 "DyehouseLedger$Plan" "customers" "[I", Cond.fieldLink RX2 66 "DyehouseLedger$Order" "customer" "I", Cond.fieldLink RX2 21 "DyehouseLedger$Plan" "hours" "[I", Cond.methodLink RX2 69 yX0_dyeingHours, Cond.instanceMethod yX0_dyeingHours, Cond.selects RX0 yX0_dyeingHours yX0_dyeingHours, Cond.initialized RX0, Cond.code yX0_dyeingHours cX0_dyeingHours 1 (some .int), Cond.fieldLink RX0 19 "DyehouseLedger$Lot" "weight" "I", Cond.methodLink RX6 209 yX2_leastOfAllOrders, Cond.instanceMethod yX2_leastOfAllOrders, Cond.selects RX2 yX2_leastOfAllOrders yX2_leastOfAllOrders]
def wsX6_leastByAll_r3 : List Cond := [Cond.code yX2_leastOfAllOrders cX2_leastOfAllOrders 1 (some .int), Cond.methodLink RX2 88 yX2_leastFrom, Cond.static yX2_leastFrom, Cond.code yX2_leastFrom cX2_leastFrom 10 (some .int), Cond.constant RX2 99 (1000000), Cond.methodLink RX2 100 Lib.Math.min.name, Cond.static Lib.Math.min.name, Cond.initialized "java/lang/Math", Cond.code Lib.Math.min.name Lib.Math.min.code 2 (some .int), Cond.methodLink RX2 84 yX2_mustBeCleaned, Cond.instanceMethod yX2_mustBeCleaned, Cond.selects RX2 yX2_mustBeCleaned yX2_mustBeCleaned, Cond.code yX2_mustBeCleaned cX2_mustBeCleaned 4 (some .boolean), Cond.static yX6_isTooDark, Cond.code yX6_isTooDark cX6_isTooDark 2 (some .boolean), Cond.static yX6_isBarred, Cond.code yX6_isBarred cX6_isBarred 2 (some .boolean)]
def wsX6_leastByAll : List Cond := .code yX6_leastByAll cX6_leastByAll 2 (some .int) :: ((wsX6_leastByAll_r1 ++ (wsX6_leastByAll_r2 ++ wsX6_leastByAll_r3)) ++ wsX60 ++ wsX00 ++ wsX20 ++ wsX50 ++ wsX10 ++ wsX30 ++ wsX40 ++ (vx_at0 RX6 271 "java/util/NoSuchElementException" ["java/lang/RuntimeException", "java/lang/Exception"]).filter goodWord ++ (vx_atM "java/lang/ArrayIndexOutOfBoundsException" ["java/lang/IndexOutOfBoundsException", "java/lang/RuntimeException", "java/lang/Exception"]).filter goodWord)
def wsX6_firstOf_r1 : List Cond := [Cond.classLink RX6 56 "java/lang/IllegalStateException", Cond.initialized "java/lang/IllegalStateException", Cond.fieldLink RX6 44 "DyehouseLedger" "planAtHand" "LDyehouseLedger$Plan;", Cond.methodLink RX6 119 yX6_vatNumbered, Cond.instanceMethod yX6_vatNumbered, Cond.selects RX6 yX6_vatNumbered yX6_vatNumbered, Cond.initialized RX6, Cond.code yX6_vatNumbered cX6_vatNumbered 3 (some (.object "DyehouseLedger$Vat")), Cond.classLink RX6 269 "java/util/NoSuchElementException", Cond.initialized "java/util/NoSuchElementException", Cond.fieldLink RX6 29 "DyehouseLedger" "allVats" "[LDyehouseLedger$Vat;", Cond.methodLink RX6 184 yX6_plannedLots, Cond.instanceMethod yX6_plannedLots, Cond.selects RX6 yX6_plannedLots yX6_plannedLots, Cond.code yX6_plannedLots cX6_plannedLots 7 (some .int), Cond.fieldLink RX6 23 "DyehouseLedger" "allLots" "[LDyehouseLedger$Lot;", Cond.fieldLink RX6 164 "DyehouseLedger$Lot" "plannedFor" "LDyehouseLedger$Vat;", Cond.methodLink RX6 201 yX6_fillPlan, Cond.instanceMethod yX6_fillPlan, Cond.selects RX6 yX6_fillPlan yX6_fillPlan, Cond.code yX6_fillPlan cX6_fillPlan 6 none, Cond.methodLink RX6 291 yX2_begin, Cond.instanceMethod yX2_begin, Cond.selects RX2 yX2_begin yX2_begin]
def wsX6_firstOf_r2 : List Cond := [Cond.initialized RX2, Cond.code yX2_begin cX2_begin 2 none, Cond.fieldLink RX2 24 "DyehouseLedger$Plan" "size" "I", Cond.fieldLink RX2 28 "DyehouseLedger$Vat" "light" "I", Cond.fieldLink RX2 33 "DyehouseLedger$Plan" "lightAtFirst" "I", Cond.fieldLink RX2 36 "DyehouseLedger$Vat" "onlyCustomer" "I", Cond.fieldLink RX2 39 "DyehouseLedger$Plan" "onlyCustomerAtFirst" "I", Cond.methodLink RX6 294 yX2_add, Cond.instanceMethod yX2_add, Cond.selects RX2 yX2_add yX2_add, Cond.code yX2_add cX2_add 2 none, Cond.fieldLink RX2 9 "DyehouseLedger$Plan" "numbers" "[I", Cond.fieldLink RX2 42 "DyehouseLedger$Lot" "number" "I", Cond.fieldLink RX2 15 "DyehouseLedger$Plan" "lights" "[I", Cond.fieldLink RX2 47 "DyehouseLedger$Lot" "order" "LDyehouseLedger$Order;", Cond.fieldLink RX2 51 "DyehouseLedger$Order" "recipe" "LDyehouseLedger$Recipe;", Cond.fieldLink RX2 57 "DyehouseLedger$Recipe" "shade" "LDyehouseLedger$Shade;", Cond.fieldLink RX2 63 "DyehouseLedger$Shade" "light" "I", Cond.fieldLink RX2 18 "DyehouseLedger$Plan" "customers" "[I", Cond.fieldLink RX2 66 "DyehouseLedger$Order" "customer" "I", Cond.fieldLink RX2 21 "DyehouseLedger$Plan" "hours" "[I", Cond.methodLink RX2 69 yX0_dyeingHours, Cond.instanceMethod yX0_dyeingHours, Cond.selects RX0 yX0_dyeingHours yX0_dyeingHours]
def wsX6_firstOf_r3 : List Cond := [Cond.initialized RX0, Cond.code yX0_dyeingHours cX0_dyeingHours 1 (some .int), Cond.fieldLink RX0 19 "DyehouseLedger$Lot" "weight" "I", Cond.methodLink RX6 212 yX2_firstOfBestOrder, Cond.instanceMethod yX2_firstOfBestOrder, Cond.selects RX2 yX2_firstOfBestOrder yX2_firstOfBestOrder, Cond.code yX2_firstOfBestOrder cX2_firstOfBestOrder 3 (some .int), Cond.methodLink RX2 77 yX2_fewestCleanings, Cond.instanceMethod yX2_fewestCleanings, Cond.selects RX2 yX2_fewestCleanings yX2_fewestCleanings, Cond.code yX2_fewestCleanings cX2_fewestCleanings 1 (some .int), Cond.methodLink RX2 73 yX2_fewestFrom, Cond.static yX2_fewestFrom, Cond.code yX2_fewestFrom cX2_fewestFrom 10 (some .int), Cond.methodLink RX2 84 yX2_mustBeCleaned, Cond.instanceMethod yX2_mustBeCleaned, Cond.selects RX2 yX2_mustBeCleaned yX2_mustBeCleaned, Cond.code yX2_mustBeCleaned cX2_mustBeCleaned 4 (some .boolean), Cond.static yX6_isTooDark, Cond.code yX6_isTooDark cX6_isTooDark 2 (some .boolean), Cond.static yX6_isBarred, Cond.code yX6_isBarred cX6_isBarred 2 (some .boolean), Cond.methodLink RX2 80 yX2_fewestBeginningWith, Cond.instanceMethod yX2_fewestBeginningWith]
def wsX6_firstOf_r4 : List Cond := [Cond.selects RX2 yX2_fewestBeginningWith yX2_fewestBeginningWith, Cond.code yX2_fewestBeginningWith cX2_fewestBeginningWith 5 (some .int)]
def wsX6_firstOf : List Cond := .code yX6_firstOf cX6_firstOf 3 (some .int) :: ((wsX6_firstOf_r1 ++ (wsX6_firstOf_r2 ++ (wsX6_firstOf_r3 ++ wsX6_firstOf_r4))) ++ wsX60 ++ wsX00 ++ wsX20 ++ wsX50 ++ wsX10 ++ wsX30 ++ wsX40 ++ (vx_at0 RX6 58 "java/lang/IllegalStateException" ["java/lang/RuntimeException", "java/lang/Exception"]).filter goodWord ++ (vx_at0 RX6 271 "java/util/NoSuchElementException" ["java/lang/RuntimeException", "java/lang/Exception"]).filter goodWord ++ (vx_atM "java/lang/ArrayIndexOutOfBoundsException" ["java/lang/IndexOutOfBoundsException", "java/lang/RuntimeException", "java/lang/Exception"]).filter goodWord)
def wsX6_recipes : List Cond := .code yX6_recipes cX6_recipes 1 (some .int) :: ([.fieldLink RX6 52 "DyehouseLedger" "recipeCount" "I"] ++ wsX60)
def wsX6_lots : List Cond := .code yX6_lots cX6_lots 1 (some .int) :: ([.fieldLink RX6 95 "DyehouseLedger" "lotCount" "I"] ++ wsX60)
def wsX6_stateOf : List Cond := .code yX6_stateOf cX6_stateOf 2 (some .char) :: ([.fieldLink RX6 147 "DyehouseLedger$Lot" "state" "C", .methodLink RX6 107 yX6_lotNumbered, .instanceMethod yX6_lotNumbered, .selects RX6 yX6_lotNumbered yX6_lotNumbered, .initialized RX6, .code yX6_lotNumbered cX6_lotNumbered 3 (some (.object "DyehouseLedger$Lot")), .classLink RX6 269 "java/util/NoSuchElementException", .initialized "java/util/NoSuchElementException", .fieldLink RX6 23 "DyehouseLedger" "allLots" "[LDyehouseLedger$Lot;"] ++ wsX00 ++ wsX60 ++ (vx_at0 RX6 271 "java/util/NoSuchElementException" ["java/lang/RuntimeException", "java/lang/Exception"]).filter goodWord)
def wsX6_shadedLotNumbered : List Cond := .code yX6_shadedLotNumbered cX6_shadedLotNumbered 3 (some (.object "DyehouseLedger$Lot")) :: ([.classLink RX6 56 "java/lang/IllegalStateException", .initialized "java/lang/IllegalStateException", .fieldLink RX6 147 "DyehouseLedger$Lot" "state" "C", .methodLink RX6 107 yX6_lotNumbered, .instanceMethod yX6_lotNumbered, .selects RX6 yX6_lotNumbered yX6_lotNumbered, .initialized RX6, .code yX6_lotNumbered cX6_lotNumbered 3 (some (.object "DyehouseLedger$Lot")), .classLink RX6 269 "java/util/NoSuchElementException", .initialized "java/util/NoSuchElementException", .fieldLink RX6 23 "DyehouseLedger" "allLots" "[LDyehouseLedger$Lot;"] ++ wsX00 ++ wsX60 ++ (vx_at0 RX6 58 "java/lang/IllegalStateException" ["java/lang/RuntimeException", "java/lang/Exception"]).filter goodWord ++ (vx_at0 RX6 271 "java/util/NoSuchElementException" ["java/lang/RuntimeException", "java/lang/Exception"]).filter goodWord)
def wsX6_shadeOf : List Cond := .code yX6_shadeOf cX6_shadeOf 4 (some .int) :: ([.classLink RX6 198 "java/lang/IndexOutOfBoundsException", .initialized "java/lang/IndexOutOfBoundsException", .fieldLink RX6 140 "DyehouseLedger$Lot" "shade" "LDyehouseLedger$Shade;", .fieldLink RX6 218 "DyehouseLedger$Shade" "light" "I", .fieldLink RX6 219 "DyehouseLedger$Shade" "red" "I", .fieldLink RX6 222 "DyehouseLedger$Shade" "blue" "I", .methodLink RX6 215 yX6_shadedLotNumbered, .instanceMethod yX6_shadedLotNumbered, .selects RX6 yX6_shadedLotNumbered yX6_shadedLotNumbered, .initialized RX6, .code yX6_shadedLotNumbered cX6_shadedLotNumbered 3 (some (.object "DyehouseLedger$Lot")), .classLink RX6 56 "java/lang/IllegalStateException", .initialized "java/lang/IllegalStateException", .fieldLink RX6 147 "DyehouseLedger$Lot" "state" "C", .methodLink RX6 107 yX6_lotNumbered, .instanceMethod yX6_lotNumbered, .selects RX6 yX6_lotNumbered yX6_lotNumbered, .code yX6_lotNumbered cX6_lotNumbered 3 (some (.object "DyehouseLedger$Lot")), .classLink RX6 269 "java/util/NoSuchElementException", .initialized "java/util/NoSuchElementException", .fieldLink RX6 23 "DyehouseLedger" "allLots" "[LDyehouseLedger$Lot;"] ++ wsX00 ++ wsX40 ++ wsX60 ++ (vx_at0 RX6 200 "java/lang/IndexOutOfBoundsException" ["java/lang/RuntimeException", "java/lang/Exception"]).filter goodWord ++ (vx_at0 RX6 58 "java/lang/IllegalStateException" ["java/lang/RuntimeException", "java/lang/Exception"]).filter goodWord ++ (vx_at0 RX6 271 "java/util/NoSuchElementException" ["java/lang/RuntimeException", "java/lang/Exception"]).filter goodWord)
def wsX6_vatOf : List Cond := .code yX6_vatOf cX6_vatOf 3 (some .int) :: ([.classLink RX6 56 "java/lang/IllegalStateException", .initialized "java/lang/IllegalStateException", .fieldLink RX6 151 "DyehouseLedger$Lot" "vat" "LDyehouseLedger$Vat;", .fieldLink RX6 194 "DyehouseLedger$Vat" "number" "I", .methodLink RX6 107 yX6_lotNumbered, .instanceMethod yX6_lotNumbered, .selects RX6 yX6_lotNumbered yX6_lotNumbered, .initialized RX6, .code yX6_lotNumbered cX6_lotNumbered 3 (some (.object "DyehouseLedger$Lot")), .classLink RX6 269 "java/util/NoSuchElementException", .initialized "java/util/NoSuchElementException", .fieldLink RX6 23 "DyehouseLedger" "allLots" "[LDyehouseLedger$Lot;"] ++ wsX00 ++ wsX50 ++ wsX60 ++ (vx_at0 RX6 58 "java/lang/IllegalStateException" ["java/lang/RuntimeException", "java/lang/Exception"]).filter goodWord ++ (vx_at0 RX6 271 "java/util/NoSuchElementException" ["java/lang/RuntimeException", "java/lang/Exception"]).filter goodWord)
def wsX6_offBy_r1 : List Cond := [Cond.methodLink RX6 215 yX6_shadedLotNumbered, Cond.instanceMethod yX6_shadedLotNumbered, Cond.selects RX6 yX6_shadedLotNumbered yX6_shadedLotNumbered, Cond.initialized RX6, Cond.code yX6_shadedLotNumbered cX6_shadedLotNumbered 3 (some (.object "DyehouseLedger$Lot")), Cond.classLink RX6 56 "java/lang/IllegalStateException", Cond.initialized "java/lang/IllegalStateException", Cond.fieldLink RX6 147 "DyehouseLedger$Lot" "state" "C", Cond.methodLink RX6 107 yX6_lotNumbered, Cond.instanceMethod yX6_lotNumbered, Cond.selects RX6 yX6_lotNumbered yX6_lotNumbered, Cond.code yX6_lotNumbered cX6_lotNumbered 3 (some (.object "DyehouseLedger$Lot")), Cond.classLink RX6 269 "java/util/NoSuchElementException", Cond.initialized "java/util/NoSuchElementException", Cond.fieldLink RX6 23 "DyehouseLedger" "allLots" "[LDyehouseLedger$Lot;", Cond.methodLink RX6 225 yX0_distanceFromRecipe, Cond.instanceMethod yX0_distanceFromRecipe, Cond.selects RX0 yX0_distanceFromRecipe yX0_distanceFromRecipe, Cond.initialized RX0, Cond.code yX0_distanceFromRecipe cX0_distanceFromRecipe 1 (some .int), Cond.fieldLink RX0 27 "DyehouseLedger$Lot" "shade" "LDyehouseLedger$Shade;", Cond.fieldLink RX0 15 "DyehouseLedger$Lot" "order" "LDyehouseLedger$Order;", Cond.fieldLink RX0 35 "DyehouseLedger$Order" "recipe" "LDyehouseLedger$Recipe;", Cond.fieldLink RX0 47 "DyehouseLedger$Recipe" "shade" "LDyehouseLedger$Shade;"]
def wsX6_offBy_r2 : List Cond := [Cond.methodLink RX0 48 yX4_distanceTo, Cond.instanceMethod yX4_distanceTo, Cond.selects RX4 yX4_distanceTo yX4_distanceTo, Cond.initialized RX4, Cond.code yX4_distanceTo cX4_distanceTo 2 (some .int), Cond.fieldLink RX4 7 "DyehouseLedger$Shade" "light" "I", Cond.methodLink RX4 19 Lib.Math.abs.name, Cond.static Lib.Math.abs.name, Cond.initialized "java/lang/Math", Cond.code Lib.Math.abs.name Lib.Math.abs.code 1 (some .int), Cond.fieldLink RX4 13 "DyehouseLedger$Shade" "red" "I", Cond.fieldLink RX4 16 "DyehouseLedger$Shade" "blue" "I"]
def wsX6_offBy : List Cond := .code yX6_offBy cX6_offBy 2 (some .int) :: ((wsX6_offBy_r1 ++ wsX6_offBy_r2) ++ wsX00 ++ wsX60 ++ wsX10 ++ wsX30 ++ wsX40 ++ (vx_at0 RX6 58 "java/lang/IllegalStateException" ["java/lang/RuntimeException", "java/lang/Exception"]).filter goodWord ++ (vx_at0 RX6 271 "java/util/NoSuchElementException" ["java/lang/RuntimeException", "java/lang/Exception"]).filter goodWord)
def wsX6_distance : List Cond := .code yX6_distance cX6_distance 5 (some .int) :: ([.classLink RX6 56 "java/lang/IllegalStateException", .initialized "java/lang/IllegalStateException", .fieldLink RX6 147 "DyehouseLedger$Lot" "state" "C", .fieldLink RX6 140 "DyehouseLedger$Lot" "shade" "LDyehouseLedger$Shade;", .methodLink RX6 107 yX6_lotNumbered, .instanceMethod yX6_lotNumbered, .selects RX6 yX6_lotNumbered yX6_lotNumbered, .initialized RX6, .code yX6_lotNumbered cX6_lotNumbered 3 (some (.object "DyehouseLedger$Lot")), .classLink RX6 269 "java/util/NoSuchElementException", .initialized "java/util/NoSuchElementException", .fieldLink RX6 23 "DyehouseLedger" "allLots" "[LDyehouseLedger$Lot;", .methodLink RX6 228 yX4_distanceTo, .instanceMethod yX4_distanceTo, .selects RX4 yX4_distanceTo yX4_distanceTo, .initialized RX4, .code yX4_distanceTo cX4_distanceTo 2 (some .int), .fieldLink RX4 7 "DyehouseLedger$Shade" "light" "I", .methodLink RX4 19 Lib.Math.abs.name, .static Lib.Math.abs.name, .initialized "java/lang/Math", .code Lib.Math.abs.name Lib.Math.abs.code 1 (some .int), .fieldLink RX4 13 "DyehouseLedger$Shade" "red" "I", .fieldLink RX4 16 "DyehouseLedger$Shade" "blue" "I"] ++ wsX00 ++ wsX60 ++ wsX40 ++ (vx_at0 RX6 58 "java/lang/IllegalStateException" ["java/lang/RuntimeException", "java/lang/Exception"]).filter goodWord ++ (vx_at0 RX6 271 "java/util/NoSuchElementException" ["java/lang/RuntimeException", "java/lang/Exception"]).filter goodWord)
def wsX6_nearest_r1 : List Cond := [Cond.classLink RX6 127 "java/lang/UnsupportedOperationException", Cond.initialized "java/lang/UnsupportedOperationException", Cond.fieldLink RX6 23 "DyehouseLedger" "allLots" "[LDyehouseLedger$Lot;", Cond.fieldLink RX6 147 "DyehouseLedger$Lot" "state" "C", Cond.fieldLink RX6 140 "DyehouseLedger$Lot" "shade" "LDyehouseLedger$Shade;", Cond.fieldLink RX6 197 "DyehouseLedger$Lot" "number" "I", Cond.methodLink RX6 215 yX6_shadedLotNumbered, Cond.instanceMethod yX6_shadedLotNumbered, Cond.selects RX6 yX6_shadedLotNumbered yX6_shadedLotNumbered, Cond.initialized RX6, Cond.code yX6_shadedLotNumbered cX6_shadedLotNumbered 3 (some (.object "DyehouseLedger$Lot")), Cond.classLink RX6 56 "java/lang/IllegalStateException", Cond.initialized "java/lang/IllegalStateException", Cond.methodLink RX6 107 yX6_lotNumbered, Cond.instanceMethod yX6_lotNumbered, Cond.selects RX6 yX6_lotNumbered yX6_lotNumbered, Cond.code yX6_lotNumbered cX6_lotNumbered 3 (some (.object "DyehouseLedger$Lot")), Cond.classLink RX6 269 "java/util/NoSuchElementException", Cond.initialized "java/util/NoSuchElementException", Cond.methodLink RX6 228 yX4_distanceTo, Cond.instanceMethod yX4_distanceTo, Cond.selects RX4 yX4_distanceTo yX4_distanceTo, Cond.initialized RX4, Cond.code yX4_distanceTo cX4_distanceTo 2 (some .int)]
def wsX6_nearest_r2 : List Cond := [Cond.fieldLink RX4 7 "DyehouseLedger$Shade" "light" "I", Cond.methodLink RX4 19 Lib.Math.abs.name, Cond.static Lib.Math.abs.name, Cond.initialized "java/lang/Math", Cond.code Lib.Math.abs.name Lib.Math.abs.code 1 (some .int), Cond.fieldLink RX4 13 "DyehouseLedger$Shade" "red" "I", Cond.fieldLink RX4 16 "DyehouseLedger$Shade" "blue" "I"]
def wsX6_nearest : List Cond := .code yX6_nearest cX6_nearest 10 (some .int) :: ((wsX6_nearest_r1 ++ wsX6_nearest_r2) ++ wsX60 ++ wsX00 ++ wsX40 ++ (vx_at0 RX6 129 "java/lang/UnsupportedOperationException" ["java/lang/RuntimeException", "java/lang/Exception"]).filter goodWord ++ (vx_at0 RX6 58 "java/lang/IllegalStateException" ["java/lang/RuntimeException", "java/lang/Exception"]).filter goodWord ++ (vx_at0 RX6 271 "java/util/NoSuchElementException" ["java/lang/RuntimeException", "java/lang/Exception"]).filter goodWord)
def wsX6_placeByLight : List Cond := .code yX6_placeByLight cX6_placeByLight 7 (some .int) :: ([.fieldLink RX6 23 "DyehouseLedger" "allLots" "[LDyehouseLedger$Lot;", .fieldLink RX6 147 "DyehouseLedger$Lot" "state" "C", .methodLink RX6 297 yX0_comesBeforeByLight, .instanceMethod yX0_comesBeforeByLight, .selects RX0 yX0_comesBeforeByLight yX0_comesBeforeByLight, .initialized RX0, .code yX0_comesBeforeByLight cX0_comesBeforeByLight 2 (some .boolean), .fieldLink RX0 27 "DyehouseLedger$Lot" "shade" "LDyehouseLedger$Shade;", .fieldLink RX0 52 "DyehouseLedger$Shade" "light" "I", .fieldLink RX0 55 "DyehouseLedger$Shade" "red" "I", .fieldLink RX0 58 "DyehouseLedger$Shade" "blue" "I", .fieldLink RX0 9 "DyehouseLedger$Lot" "number" "I"] ++ wsX60 ++ wsX00 ++ wsX40)
def wsX6_byLight : List Cond := .code yX6_byLight cX6_byLight 6 (some .int) :: ([.classLink RX6 198 "java/lang/IndexOutOfBoundsException", .initialized "java/lang/IndexOutOfBoundsException", .fieldLink RX6 23 "DyehouseLedger" "allLots" "[LDyehouseLedger$Lot;", .fieldLink RX6 147 "DyehouseLedger$Lot" "state" "C", .fieldLink RX6 197 "DyehouseLedger$Lot" "number" "I", .methodLink RX6 232 yX6_placeByLight, .instanceMethod yX6_placeByLight, .selects RX6 yX6_placeByLight yX6_placeByLight, .initialized RX6, .code yX6_placeByLight cX6_placeByLight 7 (some .int), .methodLink RX6 297 yX0_comesBeforeByLight, .instanceMethod yX0_comesBeforeByLight, .selects RX0 yX0_comesBeforeByLight yX0_comesBeforeByLight, .initialized RX0, .code yX0_comesBeforeByLight cX0_comesBeforeByLight 2 (some .boolean), .fieldLink RX0 27 "DyehouseLedger$Lot" "shade" "LDyehouseLedger$Shade;", .fieldLink RX0 52 "DyehouseLedger$Shade" "light" "I", .fieldLink RX0 55 "DyehouseLedger$Shade" "red" "I", .fieldLink RX0 58 "DyehouseLedger$Shade" "blue" "I", .fieldLink RX0 9 "DyehouseLedger$Lot" "number" "I"] ++ wsX60 ++ wsX00 ++ wsX40 ++ (vx_at0 RX6 200 "java/lang/IndexOutOfBoundsException" ["java/lang/RuntimeException", "java/lang/Exception"]).filter goodWord)
def wsX6_clock : List Cond := .code yX6_clock cX6_clock 2 (some .int) :: ([.fieldLink RX6 137 "DyehouseLedger$Vat" "clock" "I", .methodLink RX6 119 yX6_vatNumbered, .instanceMethod yX6_vatNumbered, .selects RX6 yX6_vatNumbered yX6_vatNumbered, .initialized RX6, .code yX6_vatNumbered cX6_vatNumbered 3 (some (.object "DyehouseLedger$Vat")), .classLink RX6 269 "java/util/NoSuchElementException", .initialized "java/util/NoSuchElementException", .fieldLink RX6 29 "DyehouseLedger" "allVats" "[LDyehouseLedger$Vat;"] ++ wsX50 ++ wsX60 ++ (vx_at0 RX6 271 "java/util/NoSuchElementException" ["java/lang/RuntimeException", "java/lang/Exception"]).filter goodWord)
def wsX6_cleanings : List Cond := .code yX6_cleanings cX6_cleanings 2 (some .int) :: ([.fieldLink RX6 158 "DyehouseLedger$Vat" "cleanings" "I", .methodLink RX6 119 yX6_vatNumbered, .instanceMethod yX6_vatNumbered, .selects RX6 yX6_vatNumbered yX6_vatNumbered, .initialized RX6, .code yX6_vatNumbered cX6_vatNumbered 3 (some (.object "DyehouseLedger$Vat")), .classLink RX6 269 "java/util/NoSuchElementException", .initialized "java/util/NoSuchElementException", .fieldLink RX6 29 "DyehouseLedger" "allVats" "[LDyehouseLedger$Vat;"] ++ wsX50 ++ wsX60 ++ (vx_at0 RX6 271 "java/util/NoSuchElementException" ["java/lang/RuntimeException", "java/lang/Exception"]).filter goodWord)
def wsX6_lightIn : List Cond := .code yX6_lightIn cX6_lightIn 3 (some .int) :: ([.classLink RX6 56 "java/lang/IllegalStateException", .initialized "java/lang/IllegalStateException", .fieldLink RX6 134 "DyehouseLedger$Vat" "light" "I", .methodLink RX6 119 yX6_vatNumbered, .instanceMethod yX6_vatNumbered, .selects RX6 yX6_vatNumbered yX6_vatNumbered, .initialized RX6, .code yX6_vatNumbered cX6_vatNumbered 3 (some (.object "DyehouseLedger$Vat")), .classLink RX6 269 "java/util/NoSuchElementException", .initialized "java/util/NoSuchElementException", .fieldLink RX6 29 "DyehouseLedger" "allVats" "[LDyehouseLedger$Vat;"] ++ wsX50 ++ wsX60 ++ (vx_at0 RX6 58 "java/lang/IllegalStateException" ["java/lang/RuntimeException", "java/lang/Exception"]).filter goodWord ++ (vx_at0 RX6 271 "java/util/NoSuchElementException" ["java/lang/RuntimeException", "java/lang/Exception"]).filter goodWord)
def wsX6_customerOf : List Cond := .code yX6_customerOf cX6_customerOf 3 (some .int) :: ([.classLink RX6 56 "java/lang/IllegalStateException", .initialized "java/lang/IllegalStateException", .fieldLink RX6 167 "DyehouseLedger$Vat" "onlyCustomer" "I", .methodLink RX6 119 yX6_vatNumbered, .instanceMethod yX6_vatNumbered, .selects RX6 yX6_vatNumbered yX6_vatNumbered, .initialized RX6, .code yX6_vatNumbered cX6_vatNumbered 3 (some (.object "DyehouseLedger$Vat")), .classLink RX6 269 "java/util/NoSuchElementException", .initialized "java/util/NoSuchElementException", .fieldLink RX6 29 "DyehouseLedger" "allVats" "[LDyehouseLedger$Vat;"] ++ wsX50 ++ wsX60 ++ (vx_at0 RX6 58 "java/lang/IllegalStateException" ["java/lang/RuntimeException", "java/lang/Exception"]).filter goodWord ++ (vx_at0 RX6 271 "java/util/NoSuchElementException" ["java/lang/RuntimeException", "java/lang/Exception"]).filter goodWord)
def wsX6_lotsOf : List Cond := .code yX6_lotsOf cX6_lotsOf 8 (some .int) :: ([.fieldLink RX6 23 "DyehouseLedger" "allLots" "[LDyehouseLedger$Lot;", .fieldLink RX6 236 "DyehouseLedger$Lot" "order" "LDyehouseLedger$Order;", .methodLink RX6 91 yX6_orderNumbered, .instanceMethod yX6_orderNumbered, .selects RX6 yX6_orderNumbered yX6_orderNumbered, .initialized RX6, .code yX6_orderNumbered cX6_orderNumbered 3 (some (.object "DyehouseLedger$Order")), .classLink RX6 269 "java/util/NoSuchElementException", .initialized "java/util/NoSuchElementException", .fieldLink RX6 17 "DyehouseLedger" "allOrders" "[LDyehouseLedger$Order;"] ++ wsX60 ++ wsX00 ++ (vx_at0 RX6 271 "java/util/NoSuchElementException" ["java/lang/RuntimeException", "java/lang/Exception"]).filter goodWord)
def wsX6_spread_r1 : List Cond := [Cond.fieldLink RX6 23 "DyehouseLedger" "allLots" "[LDyehouseLedger$Lot;", Cond.methodLink RX6 247 Lib.Math.max.name, Cond.static Lib.Math.max.name, Cond.initialized "java/lang/Math", Cond.code Lib.Math.max.name Lib.Math.max.code 2 (some .int), Cond.methodLink RX6 91 yX6_orderNumbered, Cond.instanceMethod yX6_orderNumbered, Cond.selects RX6 yX6_orderNumbered yX6_orderNumbered, Cond.initialized RX6, Cond.code yX6_orderNumbered cX6_orderNumbered 3 (some (.object "DyehouseLedger$Order")), Cond.classLink RX6 269 "java/util/NoSuchElementException", Cond.initialized "java/util/NoSuchElementException", Cond.fieldLink RX6 17 "DyehouseLedger" "allOrders" "[LDyehouseLedger$Order;", Cond.methodLink RX6 240 yX0_isPassedOf, Cond.instanceMethod yX0_isPassedOf, Cond.selects RX0 yX0_isPassedOf yX0_isPassedOf, Cond.initialized RX0, Cond.code yX0_isPassedOf cX0_isPassedOf 2 (some .boolean), Cond.fieldLink RX0 15 "DyehouseLedger$Lot" "order" "LDyehouseLedger$Order;", Cond.fieldLink RX0 31 "DyehouseLedger$Lot" "state" "C", Cond.methodLink RX6 244 yX6_greatestDistanceFromPassed, Cond.instanceMethod yX6_greatestDistanceFromPassed, Cond.selects RX6 yX6_greatestDistanceFromPassed yX6_greatestDistanceFromPassed, Cond.code yX6_greatestDistanceFromPassed cX6_greatestDistanceFromPassed 7 (some .int)]
def wsX6_spread_r2 : List Cond := [Cond.fieldLink RX6 236 "DyehouseLedger$Lot" "order" "LDyehouseLedger$Order;", Cond.fieldLink RX6 140 "DyehouseLedger$Lot" "shade" "LDyehouseLedger$Shade;", Cond.methodLink RX6 228 yX4_distanceTo, Cond.instanceMethod yX4_distanceTo, Cond.selects RX4 yX4_distanceTo yX4_distanceTo, Cond.initialized RX4, Cond.code yX4_distanceTo cX4_distanceTo 2 (some .int), Cond.fieldLink RX4 7 "DyehouseLedger$Shade" "light" "I", Cond.methodLink RX4 19 Lib.Math.abs.name, Cond.static Lib.Math.abs.name, Cond.code Lib.Math.abs.name Lib.Math.abs.code 1 (some .int), Cond.fieldLink RX4 13 "DyehouseLedger$Shade" "red" "I", Cond.fieldLink RX4 16 "DyehouseLedger$Shade" "blue" "I"]
def wsX6_spread : List Cond := .code yX6_spread cX6_spread 8 (some .int) :: ((wsX6_spread_r1 ++ wsX6_spread_r2) ++ wsX60 ++ wsX00 ++ wsX40 ++ (vx_at0 RX6 271 "java/util/NoSuchElementException" ["java/lang/RuntimeException", "java/lang/Exception"]).filter goodWord)
def wsX6_daysLate : List Cond := .code yX6_daysLate cX6_daysLate 7 (some .int) :: ([.fieldLink RX6 23 "DyehouseLedger" "allLots" "[LDyehouseLedger$Lot;", .fieldLink RX6 236 "DyehouseLedger$Lot" "order" "LDyehouseLedger$Order;", .fieldLink RX6 147 "DyehouseLedger$Lot" "state" "C", .fieldLink RX6 155 "DyehouseLedger$Lot" "clockThen" "I", .methodLink RX6 247 Lib.Math.max.name, .static Lib.Math.max.name, .initialized "java/lang/Math", .code Lib.Math.max.name Lib.Math.max.code 2 (some .int), .fieldLink RX6 300 "DyehouseLedger$Order" "day" "I"] ++ wsX60 ++ wsX00 ++ wsX10)
def wsX6_lateBy : List Cond := .code yX6_lateBy cX6_lateBy 2 (some .int) :: ([.methodLink RX6 91 yX6_orderNumbered, .instanceMethod yX6_orderNumbered, .selects RX6 yX6_orderNumbered yX6_orderNumbered, .initialized RX6, .code yX6_orderNumbered cX6_orderNumbered 3 (some (.object "DyehouseLedger$Order")), .classLink RX6 269 "java/util/NoSuchElementException", .initialized "java/util/NoSuchElementException", .fieldLink RX6 17 "DyehouseLedger" "allOrders" "[LDyehouseLedger$Order;", .methodLink RX6 253 yX6_daysLate, .instanceMethod yX6_daysLate, .selects RX6 yX6_daysLate yX6_daysLate, .code yX6_daysLate cX6_daysLate 7 (some .int), .fieldLink RX6 23 "DyehouseLedger" "allLots" "[LDyehouseLedger$Lot;", .fieldLink RX6 236 "DyehouseLedger$Lot" "order" "LDyehouseLedger$Order;", .fieldLink RX6 147 "DyehouseLedger$Lot" "state" "C", .fieldLink RX6 155 "DyehouseLedger$Lot" "clockThen" "I", .methodLink RX6 247 Lib.Math.max.name, .static Lib.Math.max.name, .initialized "java/lang/Math", .code Lib.Math.max.name Lib.Math.max.code 2 (some .int), .fieldLink RX6 300 "DyehouseLedger$Order" "day" "I"] ++ wsX60 ++ wsX00 ++ wsX10 ++ (vx_at0 RX6 271 "java/util/NoSuchElementException" ["java/lang/RuntimeException", "java/lang/Exception"]).filter goodWord)
def wsX6_amountDue : List Cond := .code yX6_amountDue cX6_amountDue 7 (some .int) :: ([.fieldLink RX6 23 "DyehouseLedger" "allLots" "[LDyehouseLedger$Lot;", .fieldLink RX6 188 "DyehouseLedger$Lot" "weight" "I", .fieldLink RX6 303 "DyehouseLedger$Order" "price" "I", .methodLink RX6 247 Lib.Math.max.name, .static Lib.Math.max.name, .initialized "java/lang/Math", .code Lib.Math.max.name Lib.Math.max.code 2 (some .int), .methodLink RX6 240 yX0_isPassedOf, .instanceMethod yX0_isPassedOf, .selects RX0 yX0_isPassedOf yX0_isPassedOf, .initialized RX0, .code yX0_isPassedOf cX0_isPassedOf 2 (some .boolean), .fieldLink RX0 15 "DyehouseLedger$Lot" "order" "LDyehouseLedger$Order;", .fieldLink RX0 31 "DyehouseLedger$Lot" "state" "C", .methodLink RX6 253 yX6_daysLate, .instanceMethod yX6_daysLate, .selects RX6 yX6_daysLate yX6_daysLate, .initialized RX6, .code yX6_daysLate cX6_daysLate 7 (some .int), .fieldLink RX6 236 "DyehouseLedger$Lot" "order" "LDyehouseLedger$Order;", .fieldLink RX6 147 "DyehouseLedger$Lot" "state" "C", .fieldLink RX6 155 "DyehouseLedger$Lot" "clockThen" "I", .fieldLink RX6 300 "DyehouseLedger$Order" "day" "I"] ++ wsX60 ++ wsX00 ++ wsX10)
def wsX6_due_r1 : List Cond := [Cond.methodLink RX6 91 yX6_orderNumbered, Cond.instanceMethod yX6_orderNumbered, Cond.selects RX6 yX6_orderNumbered yX6_orderNumbered, Cond.initialized RX6, Cond.code yX6_orderNumbered cX6_orderNumbered 3 (some (.object "DyehouseLedger$Order")), Cond.classLink RX6 269 "java/util/NoSuchElementException", Cond.initialized "java/util/NoSuchElementException", Cond.fieldLink RX6 17 "DyehouseLedger" "allOrders" "[LDyehouseLedger$Order;", Cond.methodLink RX6 257 yX6_amountDue, Cond.instanceMethod yX6_amountDue, Cond.selects RX6 yX6_amountDue yX6_amountDue, Cond.code yX6_amountDue cX6_amountDue 7 (some .int), Cond.fieldLink RX6 23 "DyehouseLedger" "allLots" "[LDyehouseLedger$Lot;", Cond.fieldLink RX6 188 "DyehouseLedger$Lot" "weight" "I", Cond.fieldLink RX6 303 "DyehouseLedger$Order" "price" "I", Cond.methodLink RX6 247 Lib.Math.max.name, Cond.static Lib.Math.max.name, Cond.initialized "java/lang/Math", Cond.code Lib.Math.max.name Lib.Math.max.code 2 (some .int), Cond.methodLink RX6 240 yX0_isPassedOf, Cond.instanceMethod yX0_isPassedOf, Cond.selects RX0 yX0_isPassedOf yX0_isPassedOf, Cond.initialized RX0, Cond.code yX0_isPassedOf cX0_isPassedOf 2 (some .boolean)]
def wsX6_due_r2 : List Cond := [Cond.fieldLink RX0 15 "DyehouseLedger$Lot" "order" "LDyehouseLedger$Order;", Cond.fieldLink RX0 31 "DyehouseLedger$Lot" "state" "C", Cond.methodLink RX6 253 yX6_daysLate, Cond.instanceMethod yX6_daysLate, Cond.selects RX6 yX6_daysLate yX6_daysLate, Cond.code yX6_daysLate cX6_daysLate 7 (some .int), Cond.fieldLink RX6 236 "DyehouseLedger$Lot" "order" "LDyehouseLedger$Order;", Cond.fieldLink RX6 147 "DyehouseLedger$Lot" "state" "C", Cond.fieldLink RX6 155 "DyehouseLedger$Lot" "clockThen" "I", Cond.fieldLink RX6 300 "DyehouseLedger$Order" "day" "I"]
def wsX6_due : List Cond := .code yX6_due cX6_due 2 (some .int) :: ((wsX6_due_r1 ++ wsX6_due_r2) ++ wsX60 ++ wsX00 ++ wsX10 ++ (vx_at0 RX6 271 "java/util/NoSuchElementException" ["java/lang/RuntimeException", "java/lang/Exception"]).filter goodWord)
def wsX6_dues_r1 : List Cond := [Cond.fieldLink RX6 17 "DyehouseLedger" "allOrders" "[LDyehouseLedger$Order;", Cond.fieldLink RX6 260 "DyehouseLedger$Order" "customer" "I", Cond.methodLink RX6 82 yX6_checkCustomer, Cond.static yX6_checkCustomer, Cond.initialized RX6, Cond.code yX6_checkCustomer cX6_checkCustomer 1 none, Cond.methodLink RX6 74 yX6_checkRange, Cond.static yX6_checkRange, Cond.code yX6_checkRange cX6_checkRange 3 none, Cond.classLink RX6 266 "java/lang/IllegalArgumentException", Cond.initialized "java/lang/IllegalArgumentException", Cond.methodLink RX6 257 yX6_amountDue, Cond.instanceMethod yX6_amountDue, Cond.selects RX6 yX6_amountDue yX6_amountDue, Cond.code yX6_amountDue cX6_amountDue 7 (some .int), Cond.fieldLink RX6 23 "DyehouseLedger" "allLots" "[LDyehouseLedger$Lot;", Cond.fieldLink RX6 188 "DyehouseLedger$Lot" "weight" "I", Cond.fieldLink RX6 303 "DyehouseLedger$Order" "price" "I", Cond.methodLink RX6 247 Lib.Math.max.name, Cond.static Lib.Math.max.name, Cond.initialized "java/lang/Math", Cond.code Lib.Math.max.name Lib.Math.max.code 2 (some .int), Cond.methodLink RX6 240 yX0_isPassedOf, Cond.instanceMethod yX0_isPassedOf]
def wsX6_dues_r2 : List Cond := [Cond.selects RX0 yX0_isPassedOf yX0_isPassedOf, Cond.initialized RX0, Cond.code yX0_isPassedOf cX0_isPassedOf 2 (some .boolean), Cond.fieldLink RX0 15 "DyehouseLedger$Lot" "order" "LDyehouseLedger$Order;", Cond.fieldLink RX0 31 "DyehouseLedger$Lot" "state" "C", Cond.methodLink RX6 253 yX6_daysLate, Cond.instanceMethod yX6_daysLate, Cond.selects RX6 yX6_daysLate yX6_daysLate, Cond.code yX6_daysLate cX6_daysLate 7 (some .int), Cond.fieldLink RX6 236 "DyehouseLedger$Lot" "order" "LDyehouseLedger$Order;", Cond.fieldLink RX6 147 "DyehouseLedger$Lot" "state" "C", Cond.fieldLink RX6 155 "DyehouseLedger$Lot" "clockThen" "I", Cond.fieldLink RX6 300 "DyehouseLedger$Order" "day" "I"]
def wsX6_dues : List Cond := .code yX6_dues cX6_dues 8 (some .long) :: ((wsX6_dues_r1 ++ wsX6_dues_r2) ++ wsX60 ++ wsX10 ++ wsX00 ++ (vx_at0 RX6 268 "java/lang/IllegalArgumentException" ["java/lang/RuntimeException", "java/lang/Exception"]).filter goodWord)
def wsX6_used : List Cond := .code yX6_used cX6_used 2 (some .long) :: ([.fieldLink RX6 37 "DyehouseLedger" "gramsUsed" "[J", .methodLink RX6 70 yX6_checkDye, .static yX6_checkDye, .initialized RX6, .code yX6_checkDye cX6_checkDye 1 none, .methodLink RX6 74 yX6_checkRange, .static yX6_checkRange, .code yX6_checkRange cX6_checkRange 3 none, .classLink RX6 266 "java/lang/IllegalArgumentException", .initialized "java/lang/IllegalArgumentException"] ++ wsX60 ++ (vx_atM "java/lang/ArrayIndexOutOfBoundsException" ["java/lang/IndexOutOfBoundsException", "java/lang/RuntimeException", "java/lang/Exception"]).filter goodWord ++ (vx_at0 RX6 268 "java/lang/IllegalArgumentException" ["java/lang/RuntimeException", "java/lang/Exception"]).filter goodWord)
def wsX6_passedShare : List Cond := .code yX6_passedShare cX6_passedShare 3 (some .float) :: ([.classLink RX6 263 "java/lang/ArithmeticException", .initialized "java/lang/ArithmeticException", .methodLink RX6 180 yX6_lotsInState, .instanceMethod yX6_lotsInState, .selects RX6 yX6_lotsInState yX6_lotsInState, .initialized RX6, .code yX6_lotsInState cX6_lotsInState 7 (some .int), .fieldLink RX6 23 "DyehouseLedger" "allLots" "[LDyehouseLedger$Lot;", .fieldLink RX6 147 "DyehouseLedger$Lot" "state" "C"] ++ wsX60 ++ wsX00 ++ (vx_at0 RX6 265 "java/lang/ArithmeticException" ["java/lang/RuntimeException", "java/lang/Exception"]).filter goodWord)
def wsX6_meanOff_r1 : List Cond := [Cond.classLink RX6 263 "java/lang/ArithmeticException", Cond.initialized "java/lang/ArithmeticException", Cond.fieldLink RX6 23 "DyehouseLedger" "allLots" "[LDyehouseLedger$Lot;", Cond.fieldLink RX6 147 "DyehouseLedger$Lot" "state" "C", Cond.methodLink RX6 225 yX0_distanceFromRecipe, Cond.instanceMethod yX0_distanceFromRecipe, Cond.selects RX0 yX0_distanceFromRecipe yX0_distanceFromRecipe, Cond.initialized RX0, Cond.code yX0_distanceFromRecipe cX0_distanceFromRecipe 1 (some .int), Cond.fieldLink RX0 27 "DyehouseLedger$Lot" "shade" "LDyehouseLedger$Shade;", Cond.fieldLink RX0 15 "DyehouseLedger$Lot" "order" "LDyehouseLedger$Order;", Cond.fieldLink RX0 35 "DyehouseLedger$Order" "recipe" "LDyehouseLedger$Recipe;", Cond.fieldLink RX0 47 "DyehouseLedger$Recipe" "shade" "LDyehouseLedger$Shade;", Cond.methodLink RX0 48 yX4_distanceTo, Cond.instanceMethod yX4_distanceTo, Cond.selects RX4 yX4_distanceTo yX4_distanceTo, Cond.initialized RX4, Cond.code yX4_distanceTo cX4_distanceTo 2 (some .int), Cond.fieldLink RX4 7 "DyehouseLedger$Shade" "light" "I", Cond.methodLink RX4 19 Lib.Math.abs.name, Cond.static Lib.Math.abs.name, Cond.initialized "java/lang/Math", Cond.code Lib.Math.abs.name Lib.Math.abs.code 1 (some .int), Cond.fieldLink RX4 13 "DyehouseLedger$Shade" "red" "I"]
def wsX6_meanOff_r2 : List Cond := [Cond.fieldLink RX4 16 "DyehouseLedger$Shade" "blue" "I"]
def wsX6_meanOff : List Cond := .code yX6_meanOff cX6_meanOff 7 (some .double) :: ((wsX6_meanOff_r1 ++ wsX6_meanOff_r2) ++ wsX60 ++ wsX00 ++ wsX10 ++ wsX30 ++ wsX40 ++ (vx_at0 RX6 265 "java/lang/ArithmeticException" ["java/lang/RuntimeException", "java/lang/Exception"]).filter goodWord)
def wsX7_init : List Cond := .code yX7_init cX7_init 2 none :: ([.methodLink RX7 1 objectInit, .instanceMethod objectInit, .code objectInit ⟨#[0xb1]⟩ 1 none, .constant RX7 7 (48271), .fieldLink RX7 8 "DyehouseLedgerLaw$Draw" "state" "I"] ++ wsX70)
def wsX7_next : List Cond := .code yX7_next cX7_next 2 (some .int) :: ([.fieldLink RX7 8 "DyehouseLedgerLaw$Draw" "state" "I", .constant RX7 14 (1103515245), .methodLink RX7 15 Lib.Math.max.name, .static Lib.Math.max.name, .initialized "java/lang/Math", .code Lib.Math.max.name Lib.Math.max.code 2 (some .int)] ++ wsX70 ++ (vx_atM "java/lang/ArithmeticException" ["java/lang/RuntimeException", "java/lang/Exception"]).filter goodWord)
/-! ===== END printed: names ===== -/

abbrev vwCl : List vw_C := [(RJ0, TJ0, 4), (RJx00060, TJx00060, 6), (RX0, TX0, 9), (RX1, TX1, 5), (RX2, TX2, 7), (RX3, TX3, 2), (RX4, TX4, 3), (RX5, TX5, 6), (RX6, TX6, 11), (RX7, TX7, 1), (RJ4, TJ4, 4), (RJx4497a, TJx4497a, 2), (RJx40b00, TJx40b00, 2)]
