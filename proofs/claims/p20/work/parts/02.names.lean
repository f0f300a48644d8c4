def RX0 : String := "InkKitchen$Ink"
def TX0 : u_T := fun k => match k with
  | _ => ("InkKitchen$Ink", "milligrams", "[I", true)
def tyX0 : Nat → FieldType := fun k => match k with
  | _ => .array .int
abbrev wsX00 : List Cond := u_ws RX0 TX0 1
theorem nmX0 : ∀ a, a < 1 → ∀ b, b < 1 → a ≠ b → (TX0 a).2.1 ≠ (TX0 b).2.1 := by decide +kernel
theorem tyX0_ok : ∀ k, k < 1 → parseFieldDescriptor (TX0 k).2.2.1 = some (tyX0 k) := by decide +kernel
abbrev cX0_init : ByteArray := prog_2_method_1_code
def yX0_init : MethodName := ⟨RX0, "<init>", "()V"⟩
abbrev cX0_weight : ByteArray := prog_2_method_2_code
def yX0_weight : MethodName := ⟨RX0, "weight", "()I"⟩
def RX1 : String := "InkKitchen$Job"
def TX1 : u_T := fun k => match k with
  | 0 => ("InkKitchen$Job", "wanted", "[I", true)
  | 1 => ("InkKitchen$Job", "colour", "[I", true)
  | 2 => ("InkKitchen$Job", "ink", "LInkKitchen$Ink;", true)
  | 3 => ("InkKitchen$Job", "grams", "I", false)
  | 4 => ("InkKitchen$Job", "gap", "I", false)
  | 5 => ("InkKitchen$Job", "state", "I", false)
  | 6 => ("InkKitchen$Job", "hasChip", "Z", false)
  | _ => ("InkKitchen$Job", "printDay", "I", false)
def tyX1 : Nat → FieldType := fun k => match k with
  | 0 => .array .int
  | 1 => .array .int
  | 2 => .object "InkKitchen$Ink"
  | 3 => .int
  | 4 => .int
  | 5 => .int
  | 6 => .boolean
  | _ => .int
abbrev wsX10 : List Cond := u_ws RX1 TX1 8
theorem nmX1 : ∀ a, a < 8 → ∀ b, b < 8 → a ≠ b → (TX1 a).2.1 ≠ (TX1 b).2.1 := by decide +kernel
theorem tyX1_ok : ∀ k, k < 8 → parseFieldDescriptor (TX1 k).2.2.1 = some (tyX1 k) := by decide +kernel
abbrev cX1_init : ByteArray := prog_3_method_1_code
def yX1_init : MethodName := ⟨RX1, "<init>", "()V"⟩
abbrev cX1_gramsOfTenths : ByteArray := prog_3_method_2_code
def yX1_gramsOfTenths : MethodName := ⟨RX1, "gramsOfTenths", "(I)I"⟩
abbrev cX1_milligramsOfTenth : ByteArray := prog_3_method_3_code
def yX1_milligramsOfTenth : MethodName := ⟨RX1, "milligramsOfTenth", "()I"⟩
abbrev cX1_chipPart : ByteArray := prog_3_method_4_code
def yX1_chipPart : MethodName := ⟨RX1, "chipPart", "(II)I"⟩
def RX2 : String := "InkKitchen$Ladle"
def TX2 : u_T := fun k => match k with
  | 0 => ("InkKitchen$Ladle", "measured", "[I", true)
  | _ => ("InkKitchen$Ladle", "rests", "[I", true)
def tyX2 : Nat → FieldType := fun k => match k with
  | 0 => .array .int
  | _ => .array .int
abbrev wsX20 : List Cond := u_ws RX2 TX2 2
theorem nmX2 : ∀ a, a < 2 → ∀ b, b < 2 → a ≠ b → (TX2 a).2.1 ≠ (TX2 b).2.1 := by decide +kernel
theorem tyX2_ok : ∀ k, k < 2 → parseFieldDescriptor (TX2 k).2.2.1 = some (tyX2 k) := by decide +kernel
abbrev cX2_init : ByteArray := prog_4_method_1_code
def yX2_init : MethodName := ⟨RX2, "<init>", "()V"⟩
abbrev cX2_measure : ByteArray := prog_4_method_2_code
def yX2_measure : MethodName := ⟨RX2, "measure", "(LInkKitchen$Ink;I)V"⟩
abbrev cX2_move : ByteArray := prog_4_method_3_code
def yX2_move : MethodName := ⟨RX2, "move", "(LInkKitchen$Ink;ILInkKitchen$Ink;)V"⟩
abbrev cX2_addToGreatestRest : ByteArray := prog_4_method_4_code
def yX2_addToGreatestRest : MethodName := ⟨RX2, "addToGreatestRest", "()V"⟩
def RX3 : String := "InkKitchen$Press"
def TX3 : u_T := fun k => match k with
  | 0 => ("InkKitchen$Press", "lastColour", "[I", true)
  | 1 => ("InkKitchen$Press", "isClean", "Z", false)
  | _ => ("InkKitchen$Press", "plateWear", "I", false)
def tyX3 : Nat → FieldType := fun k => match k with
  | 0 => .array .int
  | 1 => .boolean
  | _ => .int
abbrev wsX30 : List Cond := u_ws RX3 TX3 3
theorem nmX3 : ∀ a, a < 3 → ∀ b, b < 3 → a ≠ b → (TX3 a).2.1 ≠ (TX3 b).2.1 := by decide +kernel
theorem tyX3_ok : ∀ k, k < 3 → parseFieldDescriptor (TX3 k).2.2.1 = some (tyX3 k) := by decide +kernel
abbrev cX3_init : ByteArray := prog_5_method_1_code
def yX3_init : MethodName := ⟨RX3, "<init>", "()V"⟩
abbrev cX3_run : ByteArray := prog_5_method_2_code
def yX3_run : MethodName := ⟨RX3, "run", "([II)V"⟩
abbrev cX3_washTo : ByteArray := prog_5_method_3_code
def yX3_washTo : MethodName := ⟨RX3, "washTo", "([I)I"⟩
abbrev cX3_washBetween : ByteArray := prog_5_method_4_code
def yX3_washBetween : MethodName := ⟨RX3, "washBetween", "([I[I)I"⟩
def RX4 : String := "InkKitchen$Recipe"
def TX4 : u_T := fun k => match k with
  | 0 => ("InkKitchen$Recipe", "tenths", "[I", true)
  | 1 => ("InkKitchen$Recipe", "tinTenths", "I", false)
  | 2 => ("InkKitchen$Recipe", "tin", "I", false)
  | _ => ("InkKitchen$Recipe", "gap", "I", false)
def tyX4 : Nat → FieldType := fun k => match k with
  | 0 => .array .int
  | 1 => .int
  | 2 => .int
  | _ => .int
abbrev wsX40 : List Cond := u_ws RX4 TX4 4
theorem nmX4 : ∀ a, a < 4 → ∀ b, b < 4 → a ≠ b → (TX4 a).2.1 ≠ (TX4 b).2.1 := by decide +kernel
theorem tyX4_ok : ∀ k, k < 4 → parseFieldDescriptor (TX4 k).2.2.1 = some (tyX4 k) := by decide +kernel
abbrev cX4_init : ByteArray := prog_6_method_1_code
def yX4_init : MethodName := ⟨RX4, "<init>", "()V"⟩
abbrev cX4_tell : ByteArray := prog_6_method_2_code
def yX4_tell : MethodName := ⟨RX4, "tell", "(I)I"⟩
def RX5 : String := "InkKitchen$RecipeSearch"
def TX5 : u_T := fun k => match k with
  | 0 => ("InkKitchen$RecipeSearch", "best", "LInkKitchen$Recipe;", true)
  | 1 => ("InkKitchen$RecipeSearch", "ladle", "LInkKitchen$Ladle;", true)
  | 2 => ("InkKitchen$RecipeSearch", "nothing", "[I", true)
  | 3 => ("InkKitchen$RecipeSearch", "mostTenths", "[I", true)
  | 4 => ("InkKitchen$RecipeSearch", "trial", "[I", true)
  | 5 => ("InkKitchen$RecipeSearch", "tinParts", "[I", true)
  | 6 => ("InkKitchen$RecipeSearch", "found", "Z", false)
  | _ => ("InkKitchen$RecipeSearch", "allowedGap", "I", false)
def tyX5 : Nat → FieldType := fun k => match k with
  | 0 => .object "InkKitchen$Recipe"
  | 1 => .object "InkKitchen$Ladle"
  | 2 => .array .int
  | 3 => .array .int
  | 4 => .array .int
  | 5 => .array .int
  | 6 => .boolean
  | _ => .int
abbrev wsX50 : List Cond := u_ws RX5 TX5 8
theorem nmX5 : ∀ a, a < 8 → ∀ b, b < 8 → a ≠ b → (TX5 a).2.1 ≠ (TX5 b).2.1 := by decide +kernel
theorem tyX5_ok : ∀ k, k < 8 → parseFieldDescriptor (TX5 k).2.2.1 = some (tyX5 k) := by decide +kernel
abbrev cX5_init : ByteArray := prog_7_method_1_code
def yX5_init : MethodName := ⟨RX5, "<init>", "()V"⟩
abbrev cX5_find : ByteArray := prog_7_method_2_code
def yX5_find : MethodName := ⟨RX5, "find", "(LInkKitchen$Job;LInkKitchen$Shelf;)Z"⟩
abbrev cX5_countTenths : ByteArray := prog_7_method_3_code
def yX5_countTenths : MethodName := ⟨RX5, "countTenths", "(LInkKitchen$Job;LInkKitchen$Ink;)V"⟩
abbrev cX5_tryTin : ByteArray := prog_7_method_4_code
def yX5_tryTin : MethodName := ⟨RX5, "tryTin", "(LInkKitchen$Job;LInkKitchen$Shelf;II)V"⟩
abbrev cX5_weighTin : ByteArray := prog_7_method_5_code
def yX5_weighTin : MethodName := ⟨RX5, "weighTin", "(LInkKitchen$Shelf;[I)V"⟩
abbrev cX5_tryBases : ByteArray := prog_7_method_6_code
def yX5_tryBases : MethodName := ⟨RX5, "tryBases", "(LInkKitchen$Job;LInkKitchen$Shelf;II)V"⟩
abbrev cX5_tryTrial : ByteArray := prog_7_method_7_code
def yX5_tryTrial : MethodName := ⟨RX5, "tryTrial", "(LInkKitchen$Job;LInkKitchen$Shelf;II)V"⟩
abbrev cX5_gapOfTrial : ByteArray := prog_7_method_8_code
def yX5_gapOfTrial : MethodName := ⟨RX5, "gapOfTrial", "(LInkKitchen$Job;LInkKitchen$Shelf;)I"⟩
def RX6 : String := "InkKitchen$Shelf"
def TX6 : u_T := fun k => match k with
  | 0 => ("InkKitchen$Shelf", "baseColours", "[[I", true)
  | 1 => ("InkKitchen$Shelf", "stock", "LInkKitchen$Ink;", true)
  | 2 => ("InkKitchen$Shelf", "tins", "[LInkKitchen$Ink;", true)
  | _ => ("InkKitchen$Shelf", "tinCount", "I", false)
def tyX6 : Nat → FieldType := fun k => match k with
  | 0 => .array (.array .int)
  | 1 => .object "InkKitchen$Ink"
  | 2 => .array (.object "InkKitchen$Ink")
  | _ => .int
abbrev wsX60 : List Cond := u_ws RX6 TX6 4
theorem nmX6 : ∀ a, a < 4 → ∀ b, b < 4 → a ≠ b → (TX6 a).2.1 ≠ (TX6 b).2.1 := by decide +kernel
theorem tyX6_ok : ∀ k, k < 4 → parseFieldDescriptor (TX6 k).2.2.1 = some (tyX6 k) := by decide +kernel
abbrev cX6_init : ByteArray := prog_8_method_1_code
def yX6_init : MethodName := ⟨RX6, "<init>", "()V"⟩
abbrev cX6_partOf : ByteArray := prog_8_method_2_code
def yX6_partOf : MethodName := ⟨RX6, "partOf", "(LInkKitchen$Ink;I)I"⟩
abbrev cX6_weighedPart : ByteArray := prog_8_method_3_code
def yX6_weighedPart : MethodName := ⟨RX6, "weighedPart", "([II)I"⟩
abbrev cX6_keep : ByteArray := prog_8_method_4_code
def yX6_keep : MethodName := ⟨RX6, "keep", "(LInkKitchen$Ink;)I"⟩
abbrev cX6_inAllTins : ByteArray := prog_8_method_5_code
def yX6_inAllTins : MethodName := ⟨RX6, "inAllTins", "(I)I"⟩
def RX7 : String := "InkKitchen$WashPlan"
def TX7 : u_T := fun k => match k with
  | 0 => ("InkKitchen$WashPlan", "runs", "[I", true)
  | 1 => ("InkKitchen$WashPlan", "colours", "[[I", true)
  | 2 => ("InkKitchen$WashPlan", "costs", "[[I", true)
  | 3 => ("InkKitchen$WashPlan", "least", "[[I", true)
  | _ => ("InkKitchen$WashPlan", "count", "I", false)
def tyX7 : Nat → FieldType := fun k => match k with
  | 0 => .array .int
  | 1 => .array (.array .int)
  | 2 => .array (.array .int)
  | 3 => .array (.array .int)
  | _ => .int
abbrev wsX70 : List Cond := u_ws RX7 TX7 5
theorem nmX7 : ∀ a, a < 5 → ∀ b, b < 5 → a ≠ b → (TX7 a).2.1 ≠ (TX7 b).2.1 := by decide +kernel
theorem tyX7_ok : ∀ k, k < 5 → parseFieldDescriptor (TX7 k).2.2.1 = some (tyX7 k) := by decide +kernel
abbrev cX7_init : ByteArray := prog_9_method_1_code
def yX7_init : MethodName := ⟨RX7, "<init>", "()V"⟩
abbrev cX7_clear : ByteArray := prog_9_method_2_code
def yX7_clear : MethodName := ⟨RX7, "clear", "()V"⟩
abbrev cX7_add : ByteArray := prog_9_method_3_code
def yX7_add : MethodName := ⟨RX7, "add", "(I[ILInkKitchen$Press;)V"⟩
abbrev cX7_leastBySets : ByteArray := prog_9_method_4_code
def yX7_leastBySets : MethodName := ⟨RX7, "leastBySets", "()I"⟩
abbrev cX7_leastBehind : ByteArray := prog_9_method_5_code
def yX7_leastBehind : MethodName := ⟨RX7, "leastBehind", "(II)I"⟩
abbrev cX7_firstOfBest : ByteArray := prog_9_method_6_code
def yX7_firstOfBest : MethodName := ⟨RX7, "firstOfBest", "()I"⟩
abbrev cX7_leastByAllOrders : ByteArray := prog_9_method_7_code
def yX7_leastByAllOrders : MethodName := ⟨RX7, "leastByAllOrders", "()I"⟩
abbrev cX7_tryOrders : ByteArray := prog_9_method_8_code
def yX7_tryOrders : MethodName := ⟨RX7, "tryOrders", "([[IIII)I"⟩
def RX8 : String := "InkKitchen"
def TX8 : u_T := fun k => match k with
  | 0 => ("InkKitchen", "shelf", "LInkKitchen$Shelf;", true)
  | 1 => ("InkKitchen", "gramsBought", "[I", true)
  | 2 => ("InkKitchen", "paper", "LInkKitchen$Ink;", true)
  | 3 => ("InkKitchen", "jobs", "[LInkKitchen$Job;", true)
  | 4 => ("InkKitchen", "press", "LInkKitchen$Press;", true)
  | 5 => ("InkKitchen", "ladle", "LInkKitchen$Ladle;", true)
  | 6 => ("InkKitchen", "search", "LInkKitchen$RecipeSearch;", true)
  | 7 => ("InkKitchen", "plan", "LInkKitchen$WashPlan;", true)
  | 8 => ("InkKitchen", "jobCount", "I", false)
  | 9 => ("InkKitchen", "everMixed", "Z", false)
  | _ => ("InkKitchen", "day", "I", false)
def tyX8 : Nat → FieldType := fun k => match k with
  | 0 => .object "InkKitchen$Shelf"
  | 1 => .array .int
  | 2 => .object "InkKitchen$Ink"
  | 3 => .array (.object "InkKitchen$Job")
  | 4 => .object "InkKitchen$Press"
  | 5 => .object "InkKitchen$Ladle"
  | 6 => .object "InkKitchen$RecipeSearch"
  | 7 => .object "InkKitchen$WashPlan"
  | 8 => .int
  | 9 => .boolean
  | _ => .int
abbrev wsX80 : List Cond := u_ws RX8 TX8 11
theorem nmX8 : ∀ a, a < 11 → ∀ b, b < 11 → a ≠ b → (TX8 a).2.1 ≠ (TX8 b).2.1 := by decide +kernel
theorem tyX8_ok : ∀ k, k < 11 → parseFieldDescriptor (TX8 k).2.2.1 = some (tyX8 k) := by decide +kernel
abbrev cX8_init : ByteArray := prog_1_method_1_code
def yX8_init : MethodName := ⟨RX8, "<init>", "()V"⟩
abbrev cX8_buy : ByteArray := prog_1_method_3_code
def yX8_buy : MethodName := ⟨RX8, "buy", "(II)I"⟩
abbrev cX8_job : ByteArray := prog_1_method_4_code
def yX8_job : MethodName := ⟨RX8, "job", "(IIIII)I"⟩
abbrev cX8_recipe : ByteArray := prog_1_method_5_code
def yX8_recipe : MethodName := ⟨RX8, "recipe", "(II)I"⟩
abbrev cX8_mix : ByteArray := prog_1_method_6_code
def yX8_mix : MethodName := ⟨RX8, "mix", "(I)I"⟩
abbrev cX8_print : ByteArray := prog_1_method_7_code
def yX8_print : MethodName := ⟨RX8, "print", "(IIZ)I"⟩
abbrev cX8_pass : ByteArray := prog_1_method_8_code
def yX8_pass : MethodName := ⟨RX8, "pass", "(I)I"⟩
abbrev cX8_state : ByteArray := prog_1_method_9_code
def yX8_state : MethodName := ⟨RX8, "state", "(I)I"⟩
abbrev cX8_tins : ByteArray := prog_1_method_10_code
def yX8_tins : MethodName := ⟨RX8, "tins", "()I"⟩
abbrev cX8_inTin : ByteArray := prog_1_method_11_code
def yX8_inTin : MethodName := ⟨RX8, "inTin", "(II)I"⟩
abbrev cX8_where : ByteArray := prog_1_method_13_code
def yX8_where : MethodName := ⟨RX8, "where", "(II)I"⟩
abbrev cX8_washes : ByteArray := prog_1_method_14_code
def yX8_washes : MethodName := ⟨RX8, "washes", "()I"⟩
abbrev cX8_washesByAll : ByteArray := prog_1_method_15_code
def yX8_washesByAll : MethodName := ⟨RX8, "washesByAll", "()I"⟩
abbrev cX8_firstRun : ByteArray := prog_1_method_16_code
def yX8_firstRun : MethodName := ⟨RX8, "firstRun", "()I"⟩
abbrev cX8_wear : ByteArray := prog_1_method_17_code
def yX8_wear : MethodName := ⟨RX8, "wear", "()I"⟩
abbrev cX8_chipGap : ByteArray := prog_1_method_18_code
def yX8_chipGap : MethodName := ⟨RX8, "chipGap", "(II)I"⟩
abbrev cX8_jobNumbered : ByteArray := prog_1_method_19_code
def yX8_jobNumbered : MethodName := ⟨RX8, "jobNumbered", "(I)LInkKitchen$Job;"⟩
abbrev cX8_tinNumbered : ByteArray := prog_1_method_20_code
def yX8_tinNumbered : MethodName := ⟨RX8, "tinNumbered", "(I)LInkKitchen$Ink;"⟩
abbrev cX8_fillInk : ByteArray := prog_1_method_21_code
def yX8_fillInk : MethodName := ⟨RX8, "fillInk", "(LInkKitchen$Job;LInkKitchen$Recipe;)V"⟩
abbrev cX8_countMixed : ByteArray := prog_1_method_22_code
def yX8_countMixed : MethodName := ⟨RX8, "countMixed", "()I"⟩
abbrev cX8_inMixedJobs : ByteArray := prog_1_method_23_code
def yX8_inMixedJobs : MethodName := ⟨RX8, "inMixedJobs", "(I)I"⟩
abbrev cX8_planWashes : ByteArray := prog_1_method_24_code
def yX8_planWashes : MethodName := ⟨RX8, "planWashes", "()V"⟩
abbrev cX8_isWithin : ByteArray := prog_1_method_25_code
def yX8_isWithin : MethodName := ⟨RX8, "isWithin", "(III)Z"⟩
abbrev cX8_isBase : ByteArray := prog_1_method_26_code
def yX8_isBase : MethodName := ⟨RX8, "isBase", "(I)Z"⟩
abbrev cX8_isColour : ByteArray := prog_1_method_27_code
def yX8_isColour : MethodName := ⟨RX8, "isColour", "(III)Z"⟩
abbrev cX8_isJobGrams : ByteArray := prog_1_method_28_code
def yX8_isJobGrams : MethodName := ⟨RX8, "isJobGrams", "(I)Z"⟩
abbrev cX8_setColour : ByteArray := prog_1_method_29_code
def yX8_setColour : MethodName := ⟨RX8, "setColour", "([IIII)V"⟩
def RX9 : String := "InkKitchenModel"
def TX9 : u_T := fun k => match k with
  | _ => ("", "", "", false)
def tyX9 : Nat → FieldType := fun k => match k with
  | _ => .int
abbrev wsX90 : List Cond := u_ws RX9 TX9 0
theorem nmX9 : ∀ a, a < 0 → ∀ b, b < 0 → a ≠ b → (TX9 a).2.1 ≠ (TX9 b).2.1 := by decide +kernel
theorem tyX9_ok : ∀ k, k < 0 → parseFieldDescriptor (TX9 k).2.2.1 = some (tyX9 k) := by decide +kernel
def RJ9 : String := "java/lang/Math"
def TJ9 : u_T := fun k => match k with
  | _ => ("", "", "", false)
def tyJ9 : Nat → FieldType := fun k => match k with
  | _ => .int
theorem tyJ9_ok : ∀ k, k < 0 → parseFieldDescriptor (TJ9 k).2.2.1 = some (tyJ9 k) := by decide +kernel
abbrev cJ9_abs_0f7a4 : ByteArray := prog_16_method_59_code
def yJ9_abs_0f7a4 : MethodName := ⟨RJ9, "abs", "(I)I"⟩
abbrev cJ9_min_7cf53 : ByteArray := prog_16_method_69_code
def yJ9_min_7cf53 : MethodName := ⟨RJ9, "min", "(II)I"⟩
def RL : String := "InkKitchenLaw"
abbrev cL_low : ByteArray := method_2_code
def yL_low : MethodName := ⟨RL, "low", "(II)I"⟩
abbrev cL_cell : ByteArray := method_3_code
def yL_cell : MethodName := ⟨RL, "cell", "([II)I"⟩
abbrev cL_buy : ByteArray := method_4_code
def yL_buy : MethodName := ⟨RL, "buy", "(LInkKitchen;II)I"⟩
abbrev cL_recipe : ByteArray := method_5_code
def yL_recipe : MethodName := ⟨RL, "recipe", "(LInkKitchen;II)I"⟩
abbrev cL_mix : ByteArray := method_6_code
def yL_mix : MethodName := ⟨RL, "mix", "(LInkKitchen;I)I"⟩
abbrev cL_print : ByteArray := method_7_code
def yL_print : MethodName := ⟨RL, "print", "(LInkKitchen;IIZ)I"⟩
abbrev cL_sums : ByteArray := method_8_code
def yL_sums : MethodName := ⟨RL, "sums", "(LInkKitchen;[I)Z"⟩
abbrev cL_mixes : ByteArray := method_9_code
def yL_mixes : MethodName := ⟨RL, "mixes", "(LInkKitchen;I)Z"⟩
abbrev cL_prints : ByteArray := method_10_code
def yL_prints : MethodName := ⟨RL, "prints", "(LInkKitchen;III)Z"⟩
abbrev cL_law : ByteArray := code
def yL_law : MethodName := ⟨RL, "law", "([I)Z"⟩
theorem dX0_init_0 : decode cX0_init 0 = .ok (.aload_n 0, 1) := by decide +kernel
theorem dX0_init_1 : decode cX0_init 1 = .ok (.invokespecial 3, 3) := by decide +kernel
theorem dX0_init_4 : decode cX0_init 4 = .ok (.aload_n 0, 1) := by decide +kernel
theorem dX0_init_5 : decode cX0_init 5 = .ok (.iconst 4, 1) := by decide +kernel
theorem dX0_init_6 : decode cX0_init 6 = .ok (.newarray .int, 2) := by decide +kernel
theorem dX0_init_8 : decode cX0_init 8 = .ok (.putfield 9, 3) := by decide +kernel
theorem dX0_init_11 : decode cX0_init 11 = .ok (.return_, 1) := by decide +kernel
theorem dX0_weight_0 : decode cX0_weight 0 = .ok (.iconst 0, 1) := by decide +kernel
theorem dX0_weight_1 : decode cX0_weight 1 = .ok (.istore_n 1, 1) := by decide +kernel
theorem dX0_weight_2 : decode cX0_weight 2 = .ok (.iconst 0, 1) := by decide +kernel
theorem dX0_weight_3 : decode cX0_weight 3 = .ok (.istore_n 2, 1) := by decide +kernel
theorem dX0_weight_4 : decode cX0_weight 4 = .ok (.iload_n 2, 1) := by decide +kernel
theorem dX0_weight_5 : decode cX0_weight 5 = .ok (.iconst 4, 1) := by decide +kernel
theorem dX0_weight_6 : decode cX0_weight 6 = .ok (.if_icmp .ge 18, 3) := by decide +kernel
theorem dX0_weight_9 : decode cX0_weight 9 = .ok (.iload_n 1, 1) := by decide +kernel
theorem dX0_weight_10 : decode cX0_weight 10 = .ok (.aload_n 0, 1) := by decide +kernel
theorem dX0_weight_11 : decode cX0_weight 11 = .ok (.getfield 9, 3) := by decide +kernel
theorem dX0_weight_14 : decode cX0_weight 14 = .ok (.iload_n 2, 1) := by decide +kernel
theorem dX0_weight_15 : decode cX0_weight 15 = .ok (.iaload, 1) := by decide +kernel
theorem dX0_weight_16 : decode cX0_weight 16 = .ok (.iadd, 1) := by decide +kernel
theorem dX0_weight_17 : decode cX0_weight 17 = .ok (.istore_n 1, 1) := by decide +kernel
theorem dX0_weight_18 : decode cX0_weight 18 = .ok (.iinc 2 1, 3) := by decide +kernel
theorem dX0_weight_21 : decode cX0_weight 21 = .ok (.goto (-17), 3) := by decide +kernel
theorem dX0_weight_24 : decode cX0_weight 24 = .ok (.iload_n 1, 1) := by decide +kernel
theorem dX0_weight_25 : decode cX0_weight 25 = .ok (.ireturn, 1) := by decide +kernel
theorem dX1_init_0 : decode cX1_init 0 = .ok (.aload_n 0, 1) := by decide +kernel
theorem dX1_init_1 : decode cX1_init 1 = .ok (.invokespecial 3, 3) := by decide +kernel
theorem dX1_init_4 : decode cX1_init 4 = .ok (.aload_n 0, 1) := by decide +kernel
theorem dX1_init_5 : decode cX1_init 5 = .ok (.iconst 3, 1) := by decide +kernel
theorem dX1_init_6 : decode cX1_init 6 = .ok (.newarray .int, 2) := by decide +kernel
theorem dX1_init_8 : decode cX1_init 8 = .ok (.putfield 9, 3) := by decide +kernel
theorem dX1_init_11 : decode cX1_init 11 = .ok (.aload_n 0, 1) := by decide +kernel
theorem dX1_init_12 : decode cX1_init 12 = .ok (.iconst 3, 1) := by decide +kernel
theorem dX1_init_13 : decode cX1_init 13 = .ok (.newarray .int, 2) := by decide +kernel
theorem dX1_init_15 : decode cX1_init 15 = .ok (.putfield 15, 3) := by decide +kernel
theorem dX1_init_18 : decode cX1_init 18 = .ok (.aload_n 0, 1) := by decide +kernel
theorem dX1_init_19 : decode cX1_init 19 = .ok (.new 18, 3) := by decide +kernel
theorem dX1_init_22 : decode cX1_init 22 = .ok (.dup, 1) := by decide +kernel
theorem dX1_init_23 : decode cX1_init 23 = .ok (.invokespecial 20, 3) := by decide +kernel
theorem dX1_init_26 : decode cX1_init 26 = .ok (.putfield 21, 3) := by decide +kernel
theorem dX1_init_29 : decode cX1_init 29 = .ok (.aload_n 0, 1) := by decide +kernel
theorem dX1_init_30 : decode cX1_init 30 = .ok (.iconst 0, 1) := by decide +kernel
theorem dX1_init_31 : decode cX1_init 31 = .ok (.putfield 25, 3) := by decide +kernel
theorem dX1_init_34 : decode cX1_init 34 = .ok (.return_, 1) := by decide +kernel
theorem dX1_gramsOfTenths_0 : decode cX1_gramsOfTenths 0 = .ok (.aload_n 0, 1) := by decide +kernel
theorem dX1_gramsOfTenths_1 : decode cX1_gramsOfTenths 1 = .ok (.getfield 29, 3) := by decide +kernel
theorem dX1_gramsOfTenths_4 : decode cX1_gramsOfTenths 4 = .ok (.bipush 10, 2) := by decide +kernel
theorem dX1_gramsOfTenths_6 : decode cX1_gramsOfTenths 6 = .ok (.idiv, 1) := by decide +kernel
theorem dX1_gramsOfTenths_7 : decode cX1_gramsOfTenths 7 = .ok (.iload_n 1, 1) := by decide +kernel
theorem dX1_gramsOfTenths_8 : decode cX1_gramsOfTenths 8 = .ok (.imul, 1) := by decide +kernel
theorem dX1_gramsOfTenths_9 : decode cX1_gramsOfTenths 9 = .ok (.ireturn, 1) := by decide +kernel
theorem dX1_milligramsOfTenth_0 : decode cX1_milligramsOfTenth 0 = .ok (.aload_n 0, 1) := by decide +kernel
theorem dX1_milligramsOfTenth_1 : decode cX1_milligramsOfTenth 1 = .ok (.iconst 1, 1) := by decide +kernel
theorem dX1_milligramsOfTenth_2 : decode cX1_milligramsOfTenth 2 = .ok (.invokevirtual 32, 3) := by decide +kernel
theorem dX1_milligramsOfTenth_5 : decode cX1_milligramsOfTenth 5 = .ok (.sipush 1000, 3) := by decide +kernel
theorem dX1_milligramsOfTenth_8 : decode cX1_milligramsOfTenth 8 = .ok (.imul, 1) := by decide +kernel
theorem dX1_milligramsOfTenth_9 : decode cX1_milligramsOfTenth 9 = .ok (.ireturn, 1) := by decide +kernel
theorem dX1_chipPart_0 : decode cX1_chipPart 0 = .ok (.bipush 100, 2) := by decide +kernel
theorem dX1_chipPart_2 : decode cX1_chipPart 2 = .ok (.aload_n 0, 1) := by decide +kernel
theorem dX1_chipPart_3 : decode cX1_chipPart 3 = .ok (.getfield 15, 3) := by decide +kernel
theorem dX1_chipPart_6 : decode cX1_chipPart 6 = .ok (.iload_n 1, 1) := by decide +kernel
theorem dX1_chipPart_7 : decode cX1_chipPart 7 = .ok (.iaload, 1) := by decide +kernel
theorem dX1_chipPart_8 : decode cX1_chipPart 8 = .ok (.iload_n 2, 1) := by decide +kernel
theorem dX1_chipPart_9 : decode cX1_chipPart 9 = .ok (.aload_n 0, 1) := by decide +kernel
theorem dX1_chipPart_10 : decode cX1_chipPart 10 = .ok (.getfield 36, 3) := by decide +kernel
theorem dX1_chipPart_13 : decode cX1_chipPart 13 = .ok (.isub, 1) := by decide +kernel
theorem dX1_chipPart_14 : decode cX1_chipPart 14 = .ok (.bipush 10, 2) := by decide +kernel
theorem dX1_chipPart_16 : decode cX1_chipPart 16 = .ok (.idiv, 1) := by decide +kernel
theorem dX1_chipPart_17 : decode cX1_chipPart 17 = .ok (.iadd, 1) := by decide +kernel
theorem dX1_chipPart_18 : decode cX1_chipPart 18 = .ok (.invokestatic 39, 3) := by decide +kernel
theorem dX1_chipPart_21 : decode cX1_chipPart 21 = .ok (.ireturn, 1) := by decide +kernel
theorem dX2_init_0 : decode cX2_init 0 = .ok (.aload_n 0, 1) := by decide +kernel
theorem dX2_init_1 : decode cX2_init 1 = .ok (.invokespecial 3, 3) := by decide +kernel
theorem dX2_init_4 : decode cX2_init 4 = .ok (.aload_n 0, 1) := by decide +kernel
theorem dX2_init_5 : decode cX2_init 5 = .ok (.iconst 4, 1) := by decide +kernel
theorem dX2_init_6 : decode cX2_init 6 = .ok (.newarray .int, 2) := by decide +kernel
theorem dX2_init_8 : decode cX2_init 8 = .ok (.putfield 9, 3) := by decide +kernel
theorem dX2_init_11 : decode cX2_init 11 = .ok (.aload_n 0, 1) := by decide +kernel
theorem dX2_init_12 : decode cX2_init 12 = .ok (.iconst 4, 1) := by decide +kernel
theorem dX2_init_13 : decode cX2_init 13 = .ok (.newarray .int, 2) := by decide +kernel
theorem dX2_init_15 : decode cX2_init 15 = .ok (.putfield 15, 3) := by decide +kernel
theorem dX2_init_18 : decode cX2_init 18 = .ok (.return_, 1) := by decide +kernel
theorem dX2_measure_0 : decode cX2_measure 0 = .ok (.aload_n 1, 1) := by decide +kernel
theorem dX2_measure_1 : decode cX2_measure 1 = .ok (.invokevirtual 18, 3) := by decide +kernel
theorem dX2_measure_4 : decode cX2_measure 4 = .ok (.istore_n 3, 1) := by decide +kernel
theorem dX2_measure_5 : decode cX2_measure 5 = .ok (.iload_n 2, 1) := by decide +kernel
theorem dX2_measure_6 : decode cX2_measure 6 = .ok (.sipush 1000, 3) := by decide +kernel
theorem dX2_measure_9 : decode cX2_measure 9 = .ok (.imul, 1) := by decide +kernel
theorem dX2_measure_10 : decode cX2_measure 10 = .ok (.istore 4, 2) := by decide +kernel
theorem dX2_measure_12 : decode cX2_measure 12 = .ok (.iload 4, 2) := by decide +kernel
theorem dX2_measure_14 : decode cX2_measure 14 = .ok (.istore 5, 2) := by decide +kernel
theorem dX2_measure_16 : decode cX2_measure 16 = .ok (.iconst 0, 1) := by decide +kernel
theorem dX2_measure_17 : decode cX2_measure 17 = .ok (.istore 6, 2) := by decide +kernel
theorem dX2_measure_19 : decode cX2_measure 19 = .ok (.iload 6, 2) := by decide +kernel
theorem dX2_measure_21 : decode cX2_measure 21 = .ok (.iconst 4, 1) := by decide +kernel
theorem dX2_measure_22 : decode cX2_measure 22 = .ok (.if_icmp .ge 77, 3) := by decide +kernel
theorem dX2_measure_25 : decode cX2_measure 25 = .ok (.aload_n 1, 1) := by decide +kernel
theorem dX2_measure_26 : decode cX2_measure 26 = .ok (.getfield 24, 3) := by decide +kernel
theorem dX2_measure_29 : decode cX2_measure 29 = .ok (.iload 6, 2) := by decide +kernel
theorem dX2_measure_31 : decode cX2_measure 31 = .ok (.iaload, 1) := by decide +kernel
theorem dX2_measure_32 : decode cX2_measure 32 = .ok (.i2l, 1) := by decide +kernel
theorem dX2_measure_33 : decode cX2_measure 33 = .ok (.iload 4, 2) := by decide +kernel
theorem dX2_measure_35 : decode cX2_measure 35 = .ok (.i2l, 1) := by decide +kernel
theorem dX2_measure_36 : decode cX2_measure 36 = .ok (.lmul, 1) := by decide +kernel
theorem dX2_measure_37 : decode cX2_measure 37 = .ok (.lstore 7, 2) := by decide +kernel
theorem dX2_measure_39 : decode cX2_measure 39 = .ok (.aload_n 0, 1) := by decide +kernel
theorem dX2_measure_40 : decode cX2_measure 40 = .ok (.getfield 9, 3) := by decide +kernel
theorem dX2_measure_43 : decode cX2_measure 43 = .ok (.iload 6, 2) := by decide +kernel
theorem dX2_measure_45 : decode cX2_measure 45 = .ok (.iload_n 3, 1) := by decide +kernel
theorem dX2_measure_46 : decode cX2_measure 46 = .ok (.ifCond .le 12, 3) := by decide +kernel
theorem dX2_measure_49 : decode cX2_measure 49 = .ok (.lload 7, 2) := by decide +kernel
theorem dX2_measure_51 : decode cX2_measure 51 = .ok (.iload_n 3, 1) := by decide +kernel
theorem dX2_measure_52 : decode cX2_measure 52 = .ok (.i2l, 1) := by decide +kernel
theorem dX2_measure_53 : decode cX2_measure 53 = .ok (.ldiv, 1) := by decide +kernel
theorem dX2_measure_54 : decode cX2_measure 54 = .ok (.l2i, 1) := by decide +kernel
theorem dX2_measure_55 : decode cX2_measure 55 = .ok (.goto 4, 3) := by decide +kernel
theorem dX2_measure_58 : decode cX2_measure 58 = .ok (.iconst 0, 1) := by decide +kernel
theorem dX2_measure_59 : decode cX2_measure 59 = .ok (.iastore, 1) := by decide +kernel
theorem dX2_measure_60 : decode cX2_measure 60 = .ok (.aload_n 0, 1) := by decide +kernel
theorem dX2_measure_61 : decode cX2_measure 61 = .ok (.getfield 15, 3) := by decide +kernel
theorem dX2_measure_64 : decode cX2_measure 64 = .ok (.iload 6, 2) := by decide +kernel
theorem dX2_measure_66 : decode cX2_measure 66 = .ok (.iload_n 3, 1) := by decide +kernel
theorem dX2_measure_67 : decode cX2_measure 67 = .ok (.ifCond .le 12, 3) := by decide +kernel
theorem dX2_measure_70 : decode cX2_measure 70 = .ok (.lload 7, 2) := by decide +kernel
theorem dX2_measure_72 : decode cX2_measure 72 = .ok (.iload_n 3, 1) := by decide +kernel
theorem dX2_measure_73 : decode cX2_measure 73 = .ok (.i2l, 1) := by decide +kernel
theorem dX2_measure_74 : decode cX2_measure 74 = .ok (.lrem, 1) := by decide +kernel
theorem dX2_measure_75 : decode cX2_measure 75 = .ok (.l2i, 1) := by decide +kernel
theorem dX2_measure_76 : decode cX2_measure 76 = .ok (.goto 4, 3) := by decide +kernel
theorem dX2_measure_79 : decode cX2_measure 79 = .ok (.iconst 0, 1) := by decide +kernel
theorem dX2_measure_80 : decode cX2_measure 80 = .ok (.iastore, 1) := by decide +kernel
theorem dX2_measure_81 : decode cX2_measure 81 = .ok (.iload 5, 2) := by decide +kernel
theorem dX2_measure_83 : decode cX2_measure 83 = .ok (.aload_n 0, 1) := by decide +kernel
theorem dX2_measure_84 : decode cX2_measure 84 = .ok (.getfield 9, 3) := by decide +kernel
theorem dX2_measure_87 : decode cX2_measure 87 = .ok (.iload 6, 2) := by decide +kernel
theorem dX2_measure_89 : decode cX2_measure 89 = .ok (.iaload, 1) := by decide +kernel
theorem dX2_measure_90 : decode cX2_measure 90 = .ok (.isub, 1) := by decide +kernel
theorem dX2_measure_91 : decode cX2_measure 91 = .ok (.istore 5, 2) := by decide +kernel
theorem dX2_measure_93 : decode cX2_measure 93 = .ok (.iinc 6 1, 3) := by decide +kernel
theorem dX2_measure_96 : decode cX2_measure 96 = .ok (.goto (-77), 3) := by decide +kernel
theorem dX2_measure_99 : decode cX2_measure 99 = .ok (.iconst 0, 1) := by decide +kernel
theorem dX2_measure_100 : decode cX2_measure 100 = .ok (.istore 6, 2) := by decide +kernel
theorem dX2_measure_102 : decode cX2_measure 102 = .ok (.iload 6, 2) := by decide +kernel
theorem dX2_measure_104 : decode cX2_measure 104 = .ok (.iconst 4, 1) := by decide +kernel
theorem dX2_measure_105 : decode cX2_measure 105 = .ok (.if_icmp .ge 20, 3) := by decide +kernel
theorem dX2_measure_108 : decode cX2_measure 108 = .ok (.iload 6, 2) := by decide +kernel
theorem dX2_measure_110 : decode cX2_measure 110 = .ok (.iload 5, 2) := by decide +kernel
theorem dX2_measure_112 : decode cX2_measure 112 = .ok (.if_icmp .ge 13, 3) := by decide +kernel
theorem dX2_measure_115 : decode cX2_measure 115 = .ok (.aload_n 0, 1) := by decide +kernel
theorem dX2_measure_116 : decode cX2_measure 116 = .ok (.invokevirtual 27, 3) := by decide +kernel
theorem dX2_measure_119 : decode cX2_measure 119 = .ok (.iinc 6 1, 3) := by decide +kernel
theorem dX2_measure_122 : decode cX2_measure 122 = .ok (.goto (-20), 3) := by decide +kernel
theorem dX2_measure_125 : decode cX2_measure 125 = .ok (.return_, 1) := by decide +kernel
theorem dX2_move_0 : decode cX2_move 0 = .ok (.aload_n 0, 1) := by decide +kernel
theorem dX2_move_1 : decode cX2_move 1 = .ok (.aload_n 1, 1) := by decide +kernel
theorem dX2_move_2 : decode cX2_move 2 = .ok (.iload_n 2, 1) := by decide +kernel
theorem dX2_move_3 : decode cX2_move 3 = .ok (.invokevirtual 30, 3) := by decide +kernel
theorem dX2_move_6 : decode cX2_move 6 = .ok (.iconst 0, 1) := by decide +kernel
theorem dX2_move_7 : decode cX2_move 7 = .ok (.istore 4, 2) := by decide +kernel
theorem dX2_move_9 : decode cX2_move 9 = .ok (.iload 4, 2) := by decide +kernel
theorem dX2_move_11 : decode cX2_move 11 = .ok (.iconst 4, 1) := by decide +kernel
theorem dX2_move_12 : decode cX2_move 12 = .ok (.if_icmp .ge 43, 3) := by decide +kernel
theorem dX2_move_15 : decode cX2_move 15 = .ok (.aload_n 1, 1) := by decide +kernel
theorem dX2_move_16 : decode cX2_move 16 = .ok (.getfield 24, 3) := by decide +kernel
theorem dX2_move_19 : decode cX2_move 19 = .ok (.iload 4, 2) := by decide +kernel
theorem dX2_move_21 : decode cX2_move 21 = .ok (.dup2, 1) := by decide +kernel
theorem dX2_move_22 : decode cX2_move 22 = .ok (.iaload, 1) := by decide +kernel
theorem dX2_move_23 : decode cX2_move 23 = .ok (.aload_n 0, 1) := by decide +kernel
theorem dX2_move_24 : decode cX2_move 24 = .ok (.getfield 9, 3) := by decide +kernel
theorem dX2_move_27 : decode cX2_move 27 = .ok (.iload 4, 2) := by decide +kernel
theorem dX2_move_29 : decode cX2_move 29 = .ok (.iaload, 1) := by decide +kernel
theorem dX2_move_30 : decode cX2_move 30 = .ok (.isub, 1) := by decide +kernel
theorem dX2_move_31 : decode cX2_move 31 = .ok (.iastore, 1) := by decide +kernel
theorem dX2_move_32 : decode cX2_move 32 = .ok (.aload_n 3, 1) := by decide +kernel
theorem dX2_move_33 : decode cX2_move 33 = .ok (.getfield 24, 3) := by decide +kernel
theorem dX2_move_36 : decode cX2_move 36 = .ok (.iload 4, 2) := by decide +kernel
theorem dX2_move_38 : decode cX2_move 38 = .ok (.dup2, 1) := by decide +kernel
theorem dX2_move_39 : decode cX2_move 39 = .ok (.iaload, 1) := by decide +kernel
theorem dX2_move_40 : decode cX2_move 40 = .ok (.aload_n 0, 1) := by decide +kernel
theorem dX2_move_41 : decode cX2_move 41 = .ok (.getfield 9, 3) := by decide +kernel
theorem dX2_move_44 : decode cX2_move 44 = .ok (.iload 4, 2) := by decide +kernel
theorem dX2_move_46 : decode cX2_move 46 = .ok (.iaload, 1) := by decide +kernel
theorem dX2_move_47 : decode cX2_move 47 = .ok (.iadd, 1) := by decide +kernel
theorem dX2_move_48 : decode cX2_move 48 = .ok (.iastore, 1) := by decide +kernel
theorem dX2_move_49 : decode cX2_move 49 = .ok (.iinc 4 1, 3) := by decide +kernel
theorem dX2_move_52 : decode cX2_move 52 = .ok (.goto (-43), 3) := by decide +kernel
theorem dX2_move_55 : decode cX2_move 55 = .ok (.return_, 1) := by decide +kernel
theorem dX2_addToGreatestRest_0 : decode cX2_addToGreatestRest 0 = .ok (.iconst 0, 1) := by decide +kernel
theorem dX2_addToGreatestRest_1 : decode cX2_addToGreatestRest 1 = .ok (.istore_n 1, 1) := by decide +kernel
theorem dX2_addToGreatestRest_2 : decode cX2_addToGreatestRest 2 = .ok (.iconst 1, 1) := by decide +kernel
theorem dX2_addToGreatestRest_3 : decode cX2_addToGreatestRest 3 = .ok (.istore_n 2, 1) := by decide +kernel
theorem dX2_addToGreatestRest_4 : decode cX2_addToGreatestRest 4 = .ok (.iload_n 2, 1) := by decide +kernel
theorem dX2_addToGreatestRest_5 : decode cX2_addToGreatestRest 5 = .ok (.iconst 4, 1) := by decide +kernel
theorem dX2_addToGreatestRest_6 : decode cX2_addToGreatestRest 6 = .ok (.if_icmp .ge 26, 3) := by decide +kernel
theorem dX2_addToGreatestRest_9 : decode cX2_addToGreatestRest 9 = .ok (.aload_n 0, 1) := by decide +kernel
theorem dX2_addToGreatestRest_10 : decode cX2_addToGreatestRest 10 = .ok (.getfield 15, 3) := by decide +kernel
theorem dX2_addToGreatestRest_13 : decode cX2_addToGreatestRest 13 = .ok (.iload_n 2, 1) := by decide +kernel
theorem dX2_addToGreatestRest_14 : decode cX2_addToGreatestRest 14 = .ok (.iaload, 1) := by decide +kernel
theorem dX2_addToGreatestRest_15 : decode cX2_addToGreatestRest 15 = .ok (.aload_n 0, 1) := by decide +kernel
theorem dX2_addToGreatestRest_16 : decode cX2_addToGreatestRest 16 = .ok (.getfield 15, 3) := by decide +kernel
theorem dX2_addToGreatestRest_19 : decode cX2_addToGreatestRest 19 = .ok (.iload_n 1, 1) := by decide +kernel
theorem dX2_addToGreatestRest_20 : decode cX2_addToGreatestRest 20 = .ok (.iaload, 1) := by decide +kernel
theorem dX2_addToGreatestRest_21 : decode cX2_addToGreatestRest 21 = .ok (.if_icmp .le 5, 3) := by decide +kernel
theorem dX2_addToGreatestRest_24 : decode cX2_addToGreatestRest 24 = .ok (.iload_n 2, 1) := by decide +kernel
theorem dX2_addToGreatestRest_25 : decode cX2_addToGreatestRest 25 = .ok (.istore_n 1, 1) := by decide +kernel
theorem dX2_addToGreatestRest_26 : decode cX2_addToGreatestRest 26 = .ok (.iinc 2 1, 3) := by decide +kernel
theorem dX2_addToGreatestRest_29 : decode cX2_addToGreatestRest 29 = .ok (.goto (-25), 3) := by decide +kernel
theorem dX2_addToGreatestRest_32 : decode cX2_addToGreatestRest 32 = .ok (.aload_n 0, 1) := by decide +kernel
theorem dX2_addToGreatestRest_33 : decode cX2_addToGreatestRest 33 = .ok (.getfield 9, 3) := by decide +kernel
theorem dX2_addToGreatestRest_36 : decode cX2_addToGreatestRest 36 = .ok (.iload_n 1, 1) := by decide +kernel
theorem dX2_addToGreatestRest_37 : decode cX2_addToGreatestRest 37 = .ok (.dup2, 1) := by decide +kernel
theorem dX2_addToGreatestRest_38 : decode cX2_addToGreatestRest 38 = .ok (.iaload, 1) := by decide +kernel
theorem dX2_addToGreatestRest_39 : decode cX2_addToGreatestRest 39 = .ok (.iconst 1, 1) := by decide +kernel
theorem dX2_addToGreatestRest_40 : decode cX2_addToGreatestRest 40 = .ok (.iadd, 1) := by decide +kernel
theorem dX2_addToGreatestRest_41 : decode cX2_addToGreatestRest 41 = .ok (.iastore, 1) := by decide +kernel
theorem dX2_addToGreatestRest_42 : decode cX2_addToGreatestRest 42 = .ok (.aload_n 0, 1) := by decide +kernel
theorem dX2_addToGreatestRest_43 : decode cX2_addToGreatestRest 43 = .ok (.getfield 15, 3) := by decide +kernel
theorem dX2_addToGreatestRest_46 : decode cX2_addToGreatestRest 46 = .ok (.iload_n 1, 1) := by decide +kernel
theorem dX2_addToGreatestRest_47 : decode cX2_addToGreatestRest 47 = .ok (.iconst (-1), 1) := by decide +kernel
theorem dX2_addToGreatestRest_48 : decode cX2_addToGreatestRest 48 = .ok (.iastore, 1) := by decide +kernel
theorem dX2_addToGreatestRest_49 : decode cX2_addToGreatestRest 49 = .ok (.return_, 1) := by decide +kernel
theorem dX3_init_0 : decode cX3_init 0 = .ok (.aload_n 0, 1) := by decide +kernel
theorem dX3_init_1 : decode cX3_init 1 = .ok (.invokespecial 3, 3) := by decide +kernel
theorem dX3_init_4 : decode cX3_init 4 = .ok (.aload_n 0, 1) := by decide +kernel
theorem dX3_init_5 : decode cX3_init 5 = .ok (.iconst 3, 1) := by decide +kernel
theorem dX3_init_6 : decode cX3_init 6 = .ok (.newarray .int, 2) := by decide +kernel
theorem dX3_init_8 : decode cX3_init 8 = .ok (.putfield 9, 3) := by decide +kernel
theorem dX3_init_11 : decode cX3_init 11 = .ok (.aload_n 0, 1) := by decide +kernel
theorem dX3_init_12 : decode cX3_init 12 = .ok (.iconst 1, 1) := by decide +kernel
theorem dX3_init_13 : decode cX3_init 13 = .ok (.putfield 15, 3) := by decide +kernel
theorem dX3_init_16 : decode cX3_init 16 = .ok (.return_, 1) := by decide +kernel
theorem dX3_run_0 : decode cX3_run 0 = .ok (.iconst 0, 1) := by decide +kernel
theorem dX3_run_1 : decode cX3_run 1 = .ok (.istore_n 3, 1) := by decide +kernel
theorem dX3_run_2 : decode cX3_run 2 = .ok (.iload_n 3, 1) := by decide +kernel
theorem dX3_run_3 : decode cX3_run 3 = .ok (.iconst 3, 1) := by decide +kernel
theorem dX3_run_4 : decode cX3_run 4 = .ok (.if_icmp .ge 18, 3) := by decide +kernel
theorem dX3_run_7 : decode cX3_run 7 = .ok (.aload_n 0, 1) := by decide +kernel
theorem dX3_run_8 : decode cX3_run 8 = .ok (.getfield 9, 3) := by decide +kernel
theorem dX3_run_11 : decode cX3_run 11 = .ok (.iload_n 3, 1) := by decide +kernel
theorem dX3_run_12 : decode cX3_run 12 = .ok (.aload_n 1, 1) := by decide +kernel
theorem dX3_run_13 : decode cX3_run 13 = .ok (.iload_n 3, 1) := by decide +kernel
theorem dX3_run_14 : decode cX3_run 14 = .ok (.iaload, 1) := by decide +kernel
theorem dX3_run_15 : decode cX3_run 15 = .ok (.iastore, 1) := by decide +kernel
theorem dX3_run_16 : decode cX3_run 16 = .ok (.iinc 3 1, 3) := by decide +kernel
theorem dX3_run_19 : decode cX3_run 19 = .ok (.goto (-17), 3) := by decide +kernel
theorem dX3_run_22 : decode cX3_run 22 = .ok (.aload_n 0, 1) := by decide +kernel
theorem dX3_run_23 : decode cX3_run 23 = .ok (.iconst 0, 1) := by decide +kernel
theorem dX3_run_24 : decode cX3_run 24 = .ok (.putfield 15, 3) := by decide +kernel
theorem dX3_run_27 : decode cX3_run 27 = .ok (.aload_n 0, 1) := by decide +kernel
theorem dX3_run_28 : decode cX3_run 28 = .ok (.dup, 1) := by decide +kernel
theorem dX3_run_29 : decode cX3_run 29 = .ok (.getfield 19, 3) := by decide +kernel
theorem dX3_run_32 : decode cX3_run 32 = .ok (.iconst 1, 1) := by decide +kernel
theorem dX3_run_33 : decode cX3_run 33 = .ok (.iload_n 2, 1) := by decide +kernel
theorem dX3_run_34 : decode cX3_run 34 = .ok (.bipush 100, 2) := by decide +kernel
theorem dX3_run_36 : decode cX3_run 36 = .ok (.idiv, 1) := by decide +kernel
theorem dX3_run_37 : decode cX3_run 37 = .ok (.iadd, 1) := by decide +kernel
theorem dX3_run_38 : decode cX3_run 38 = .ok (.iadd, 1) := by decide +kernel
theorem dX3_run_39 : decode cX3_run 39 = .ok (.putfield 19, 3) := by decide +kernel
theorem dX3_run_42 : decode cX3_run 42 = .ok (.aload_n 0, 1) := by decide +kernel
theorem dX3_run_43 : decode cX3_run 43 = .ok (.getfield 19, 3) := by decide +kernel
theorem dX3_run_46 : decode cX3_run 46 = .ok (.bipush 10, 2) := by decide +kernel
theorem dX3_run_48 : decode cX3_run 48 = .ok (.if_icmp .lt 8, 3) := by decide +kernel
theorem dX3_run_51 : decode cX3_run 51 = .ok (.aload_n 0, 1) := by decide +kernel
theorem dX3_run_52 : decode cX3_run 52 = .ok (.iconst 0, 1) := by decide +kernel
theorem dX3_run_53 : decode cX3_run 53 = .ok (.putfield 19, 3) := by decide +kernel
theorem dX3_run_56 : decode cX3_run 56 = .ok (.return_, 1) := by decide +kernel
theorem dX3_washTo_0 : decode cX3_washTo 0 = .ok (.aload_n 0, 1) := by decide +kernel
theorem dX3_washTo_1 : decode cX3_washTo 1 = .ok (.getfield 15, 3) := by decide +kernel
theorem dX3_washTo_4 : decode cX3_washTo 4 = .ok (.ifCond .eq 7, 3) := by decide +kernel
theorem dX3_washTo_7 : decode cX3_washTo 7 = .ok (.iconst 0, 1) := by decide +kernel
theorem dX3_washTo_8 : decode cX3_washTo 8 = .ok (.goto 11, 3) := by decide +kernel
theorem dX3_washTo_11 : decode cX3_washTo 11 = .ok (.aload_n 0, 1) := by decide +kernel
theorem dX3_washTo_12 : decode cX3_washTo 12 = .ok (.getfield 9, 3) := by decide +kernel
theorem dX3_washTo_15 : decode cX3_washTo 15 = .ok (.aload_n 1, 1) := by decide +kernel
theorem dX3_washTo_16 : decode cX3_washTo 16 = .ok (.invokestatic 23, 3) := by decide +kernel
theorem dX3_washTo_19 : decode cX3_washTo 19 = .ok (.ireturn, 1) := by decide +kernel
theorem dX3_washBetween_0 : decode cX3_washBetween 0 = .ok (.iconst 0, 1) := by decide +kernel
theorem dX3_washBetween_1 : decode cX3_washBetween 1 = .ok (.istore_n 2, 1) := by decide +kernel
theorem dX3_washBetween_2 : decode cX3_washBetween 2 = .ok (.iconst 0, 1) := by decide +kernel
theorem dX3_washBetween_3 : decode cX3_washBetween 3 = .ok (.istore_n 3, 1) := by decide +kernel
theorem dX3_washBetween_4 : decode cX3_washBetween 4 = .ok (.iconst 0, 1) := by decide +kernel
theorem dX3_washBetween_5 : decode cX3_washBetween 5 = .ok (.istore 4, 2) := by decide +kernel
theorem dX3_washBetween_7 : decode cX3_washBetween 7 = .ok (.iload 4, 2) := by decide +kernel
theorem dX3_washBetween_9 : decode cX3_washBetween 9 = .ok (.iconst 3, 1) := by decide +kernel
theorem dX3_washBetween_10 : decode cX3_washBetween 10 = .ok (.if_icmp .ge 36, 3) := by decide +kernel
theorem dX3_washBetween_13 : decode cX3_washBetween 13 = .ok (.iload_n 2, 1) := by decide +kernel
theorem dX3_washBetween_14 : decode cX3_washBetween 14 = .ok (.aload_n 1, 1) := by decide +kernel
theorem dX3_washBetween_15 : decode cX3_washBetween 15 = .ok (.iload 4, 2) := by decide +kernel
theorem dX3_washBetween_17 : decode cX3_washBetween 17 = .ok (.iaload, 1) := by decide +kernel
theorem dX3_washBetween_18 : decode cX3_washBetween 18 = .ok (.aload_n 0, 1) := by decide +kernel
theorem dX3_washBetween_19 : decode cX3_washBetween 19 = .ok (.iload 4, 2) := by decide +kernel
theorem dX3_washBetween_21 : decode cX3_washBetween 21 = .ok (.iaload, 1) := by decide +kernel
theorem dX3_washBetween_22 : decode cX3_washBetween 22 = .ok (.isub, 1) := by decide +kernel
theorem dX3_washBetween_23 : decode cX3_washBetween 23 = .ok (.invokestatic 27, 3) := by decide +kernel
theorem dX3_washBetween_26 : decode cX3_washBetween 26 = .ok (.iadd, 1) := by decide +kernel
theorem dX3_washBetween_27 : decode cX3_washBetween 27 = .ok (.istore_n 2, 1) := by decide +kernel
theorem dX3_washBetween_28 : decode cX3_washBetween 28 = .ok (.iload_n 3, 1) := by decide +kernel
theorem dX3_washBetween_29 : decode cX3_washBetween 29 = .ok (.aload_n 1, 1) := by decide +kernel
theorem dX3_washBetween_30 : decode cX3_washBetween 30 = .ok (.iload 4, 2) := by decide +kernel
theorem dX3_washBetween_32 : decode cX3_washBetween 32 = .ok (.iaload, 1) := by decide +kernel
theorem dX3_washBetween_33 : decode cX3_washBetween 33 = .ok (.aload_n 0, 1) := by decide +kernel
theorem dX3_washBetween_34 : decode cX3_washBetween 34 = .ok (.iload 4, 2) := by decide +kernel
theorem dX3_washBetween_36 : decode cX3_washBetween 36 = .ok (.iaload, 1) := by decide +kernel
theorem dX3_washBetween_37 : decode cX3_washBetween 37 = .ok (.isub, 1) := by decide +kernel
theorem dX3_washBetween_38 : decode cX3_washBetween 38 = .ok (.iadd, 1) := by decide +kernel
theorem dX3_washBetween_39 : decode cX3_washBetween 39 = .ok (.istore_n 3, 1) := by decide +kernel
theorem dX3_washBetween_40 : decode cX3_washBetween 40 = .ok (.iinc 4 1, 3) := by decide +kernel
theorem dX3_washBetween_43 : decode cX3_washBetween 43 = .ok (.goto (-36), 3) := by decide +kernel
theorem dX3_washBetween_46 : decode cX3_washBetween 46 = .ok (.iload_n 3, 1) := by decide +kernel
theorem dX3_washBetween_47 : decode cX3_washBetween 47 = .ok (.ifCond .le 9, 3) := by decide +kernel
theorem dX3_washBetween_50 : decode cX3_washBetween 50 = .ok (.iconst 2, 1) := by decide +kernel
theorem dX3_washBetween_51 : decode cX3_washBetween 51 = .ok (.iload_n 2, 1) := by decide +kernel
theorem dX3_washBetween_52 : decode cX3_washBetween 52 = .ok (.imul, 1) := by decide +kernel
theorem dX3_washBetween_53 : decode cX3_washBetween 53 = .ok (.goto 4, 3) := by decide +kernel
theorem dX3_washBetween_56 : decode cX3_washBetween 56 = .ok (.iload_n 2, 1) := by decide +kernel
theorem dX3_washBetween_57 : decode cX3_washBetween 57 = .ok (.ireturn, 1) := by decide +kernel
theorem dX4_init_0 : decode cX4_init 0 = .ok (.aload_n 0, 1) := by decide +kernel
theorem dX4_init_1 : decode cX4_init 1 = .ok (.invokespecial 3, 3) := by decide +kernel
theorem dX4_init_4 : decode cX4_init 4 = .ok (.aload_n 0, 1) := by decide +kernel
theorem dX4_init_5 : decode cX4_init 5 = .ok (.iconst 4, 1) := by decide +kernel
theorem dX4_init_6 : decode cX4_init 6 = .ok (.newarray .int, 2) := by decide +kernel
theorem dX4_init_8 : decode cX4_init 8 = .ok (.putfield 9, 3) := by decide +kernel
theorem dX4_init_11 : decode cX4_init 11 = .ok (.return_, 1) := by decide +kernel
theorem dX4_tell_0 : decode cX4_tell 0 = .ok (.iload_n 1, 1) := by decide +kernel
theorem dX4_tell_1 : decode cX4_tell 1 = .ok (.tableswitch 42 4 6 #[27, 32, 37], 27) := by decide +kernel
theorem dX4_tell_28 : decode cX4_tell 28 = .ok (.aload_n 0, 1) := by decide +kernel
theorem dX4_tell_29 : decode cX4_tell 29 = .ok (.getfield 15, 3) := by decide +kernel
theorem dX4_tell_32 : decode cX4_tell 32 = .ok (.ireturn, 1) := by decide +kernel
theorem dX4_tell_33 : decode cX4_tell 33 = .ok (.aload_n 0, 1) := by decide +kernel
theorem dX4_tell_34 : decode cX4_tell 34 = .ok (.getfield 19, 3) := by decide +kernel
theorem dX4_tell_37 : decode cX4_tell 37 = .ok (.ireturn, 1) := by decide +kernel
theorem dX4_tell_38 : decode cX4_tell 38 = .ok (.aload_n 0, 1) := by decide +kernel
theorem dX4_tell_39 : decode cX4_tell 39 = .ok (.getfield 22, 3) := by decide +kernel
theorem dX4_tell_42 : decode cX4_tell 42 = .ok (.ireturn, 1) := by decide +kernel
theorem dX4_tell_43 : decode cX4_tell 43 = .ok (.iload_n 1, 1) := by decide +kernel
theorem dX4_tell_44 : decode cX4_tell 44 = .ok (.ifCond .lt 17, 3) := by decide +kernel
theorem dX4_tell_47 : decode cX4_tell 47 = .ok (.iload_n 1, 1) := by decide +kernel
theorem dX4_tell_48 : decode cX4_tell 48 = .ok (.iconst 4, 1) := by decide +kernel
theorem dX4_tell_49 : decode cX4_tell 49 = .ok (.if_icmp .ge 12, 3) := by decide +kernel
theorem dX4_tell_52 : decode cX4_tell 52 = .ok (.aload_n 0, 1) := by decide +kernel
theorem dX4_tell_53 : decode cX4_tell 53 = .ok (.getfield 9, 3) := by decide +kernel
theorem dX4_tell_56 : decode cX4_tell 56 = .ok (.iload_n 1, 1) := by decide +kernel
theorem dX4_tell_57 : decode cX4_tell 57 = .ok (.iaload, 1) := by decide +kernel
theorem dX4_tell_58 : decode cX4_tell 58 = .ok (.goto 4, 3) := by decide +kernel
theorem dX4_tell_61 : decode cX4_tell 61 = .ok (.iconst 0, 1) := by decide +kernel
theorem dX4_tell_62 : decode cX4_tell 62 = .ok (.ireturn, 1) := by decide +kernel
theorem dX5_init_0 : decode cX5_init 0 = .ok (.aload_n 0, 1) := by decide +kernel
theorem dX5_init_1 : decode cX5_init 1 = .ok (.invokespecial 3, 3) := by decide +kernel
theorem dX5_init_4 : decode cX5_init 4 = .ok (.aload_n 0, 1) := by decide +kernel
theorem dX5_init_5 : decode cX5_init 5 = .ok (.new 9, 3) := by decide +kernel
theorem dX5_init_8 : decode cX5_init 8 = .ok (.dup, 1) := by decide +kernel
theorem dX5_init_9 : decode cX5_init 9 = .ok (.invokespecial 11, 3) := by decide +kernel
theorem dX5_init_12 : decode cX5_init 12 = .ok (.putfield 12, 3) := by decide +kernel
theorem dX5_init_15 : decode cX5_init 15 = .ok (.aload_n 0, 1) := by decide +kernel
theorem dX5_init_16 : decode cX5_init 16 = .ok (.new 18, 3) := by decide +kernel
theorem dX5_init_19 : decode cX5_init 19 = .ok (.dup, 1) := by decide +kernel
theorem dX5_init_20 : decode cX5_init 20 = .ok (.invokespecial 20, 3) := by decide +kernel
theorem dX5_init_23 : decode cX5_init 23 = .ok (.putfield 21, 3) := by decide +kernel
theorem dX5_init_26 : decode cX5_init 26 = .ok (.aload_n 0, 1) := by decide +kernel
theorem dX5_init_27 : decode cX5_init 27 = .ok (.iconst 4, 1) := by decide +kernel
theorem dX5_init_28 : decode cX5_init 28 = .ok (.newarray .int, 2) := by decide +kernel
theorem dX5_init_30 : decode cX5_init 30 = .ok (.putfield 25, 3) := by decide +kernel
theorem dX5_init_33 : decode cX5_init 33 = .ok (.aload_n 0, 1) := by decide +kernel
theorem dX5_init_34 : decode cX5_init 34 = .ok (.iconst 4, 1) := by decide +kernel
theorem dX5_init_35 : decode cX5_init 35 = .ok (.newarray .int, 2) := by decide +kernel
theorem dX5_init_37 : decode cX5_init 37 = .ok (.putfield 29, 3) := by decide +kernel
theorem dX5_init_40 : decode cX5_init 40 = .ok (.aload_n 0, 1) := by decide +kernel
theorem dX5_init_41 : decode cX5_init 41 = .ok (.iconst 4, 1) := by decide +kernel
theorem dX5_init_42 : decode cX5_init 42 = .ok (.newarray .int, 2) := by decide +kernel
theorem dX5_init_44 : decode cX5_init 44 = .ok (.putfield 32, 3) := by decide +kernel
theorem dX5_init_47 : decode cX5_init 47 = .ok (.aload_n 0, 1) := by decide +kernel
theorem dX5_init_48 : decode cX5_init 48 = .ok (.iconst 3, 1) := by decide +kernel
theorem dX5_init_49 : decode cX5_init 49 = .ok (.newarray .int, 2) := by decide +kernel
theorem dX5_init_51 : decode cX5_init 51 = .ok (.putfield 35, 3) := by decide +kernel
theorem dX5_init_54 : decode cX5_init 54 = .ok (.return_, 1) := by decide +kernel
theorem dX5_find_0 : decode cX5_find 0 = .ok (.aload_n 0, 1) := by decide +kernel
theorem dX5_find_1 : decode cX5_find 1 = .ok (.iconst 0, 1) := by decide +kernel
theorem dX5_find_2 : decode cX5_find 2 = .ok (.putfield 38, 3) := by decide +kernel
theorem dX5_find_5 : decode cX5_find 5 = .ok (.aload_n 0, 1) := by decide +kernel
theorem dX5_find_6 : decode cX5_find 6 = .ok (.aload_n 1, 1) := by decide +kernel
theorem dX5_find_7 : decode cX5_find 7 = .ok (.getfield 42, 3) := by decide +kernel
theorem dX5_find_10 : decode cX5_find 10 = .ok (.putfield 48, 3) := by decide +kernel
theorem dX5_find_13 : decode cX5_find 13 = .ok (.aload_n 0, 1) := by decide +kernel
theorem dX5_find_14 : decode cX5_find 14 = .ok (.aload_n 1, 1) := by decide +kernel
theorem dX5_find_15 : decode cX5_find 15 = .ok (.aload_n 2, 1) := by decide +kernel
theorem dX5_find_16 : decode cX5_find 16 = .ok (.getfield 51, 3) := by decide +kernel
theorem dX5_find_19 : decode cX5_find 19 = .ok (.invokevirtual 57, 3) := by decide +kernel
theorem dX5_find_22 : decode cX5_find 22 = .ok (.bipush 10, 2) := by decide +kernel
theorem dX5_find_24 : decode cX5_find 24 = .ok (.istore_n 3, 1) := by decide +kernel
theorem dX5_find_25 : decode cX5_find 25 = .ok (.iload_n 3, 1) := by decide +kernel
theorem dX5_find_26 : decode cX5_find 26 = .ok (.ifCond .le 43, 3) := by decide +kernel
theorem dX5_find_29 : decode cX5_find 29 = .ok (.aload_n 0, 1) := by decide +kernel
theorem dX5_find_30 : decode cX5_find 30 = .ok (.getfield 38, 3) := by decide +kernel
theorem dX5_find_33 : decode cX5_find 33 = .ok (.ifCond .ne 36, 3) := by decide +kernel
theorem dX5_find_36 : decode cX5_find 36 = .ok (.iconst 0, 1) := by decide +kernel
theorem dX5_find_37 : decode cX5_find 37 = .ok (.istore 4, 2) := by decide +kernel
theorem dX5_find_39 : decode cX5_find 39 = .ok (.iload 4, 2) := by decide +kernel
theorem dX5_find_41 : decode cX5_find 41 = .ok (.aload_n 2, 1) := by decide +kernel
theorem dX5_find_42 : decode cX5_find 42 = .ok (.getfield 61, 3) := by decide +kernel
theorem dX5_find_45 : decode cX5_find 45 = .ok (.if_icmp .ge 18, 3) := by decide +kernel
theorem dX5_find_48 : decode cX5_find 48 = .ok (.aload_n 0, 1) := by decide +kernel
theorem dX5_find_49 : decode cX5_find 49 = .ok (.aload_n 1, 1) := by decide +kernel
theorem dX5_find_50 : decode cX5_find 50 = .ok (.aload_n 2, 1) := by decide +kernel
theorem dX5_find_51 : decode cX5_find 51 = .ok (.iload 4, 2) := by decide +kernel
theorem dX5_find_53 : decode cX5_find 53 = .ok (.iload_n 3, 1) := by decide +kernel
theorem dX5_find_54 : decode cX5_find 54 = .ok (.invokevirtual 64, 3) := by decide +kernel
theorem dX5_find_57 : decode cX5_find 57 = .ok (.iinc 4 1, 3) := by decide +kernel
theorem dX5_find_60 : decode cX5_find 60 = .ok (.goto (-21), 3) := by decide +kernel
theorem dX5_find_63 : decode cX5_find 63 = .ok (.iinc 3 (-1), 3) := by decide +kernel
theorem dX5_find_66 : decode cX5_find 66 = .ok (.goto (-41), 3) := by decide +kernel
theorem dX5_find_69 : decode cX5_find 69 = .ok (.aload_n 0, 1) := by decide +kernel
theorem dX5_find_70 : decode cX5_find 70 = .ok (.getfield 38, 3) := by decide +kernel
theorem dX5_find_73 : decode cX5_find 73 = .ok (.ifCond .ne 20, 3) := by decide +kernel
theorem dX5_find_76 : decode cX5_find 76 = .ok (.aload_n 0, 1) := by decide +kernel
theorem dX5_find_77 : decode cX5_find 77 = .ok (.aload_n 2, 1) := by decide +kernel
theorem dX5_find_78 : decode cX5_find 78 = .ok (.aload_n 0, 1) := by decide +kernel
theorem dX5_find_79 : decode cX5_find 79 = .ok (.getfield 25, 3) := by decide +kernel
theorem dX5_find_82 : decode cX5_find 82 = .ok (.invokevirtual 68, 3) := by decide +kernel
theorem dX5_find_85 : decode cX5_find 85 = .ok (.aload_n 0, 1) := by decide +kernel
theorem dX5_find_86 : decode cX5_find 86 = .ok (.aload_n 1, 1) := by decide +kernel
theorem dX5_find_87 : decode cX5_find 87 = .ok (.aload_n 2, 1) := by decide +kernel
theorem dX5_find_88 : decode cX5_find 88 = .ok (.iconst (-1), 1) := by decide +kernel
theorem dX5_find_89 : decode cX5_find 89 = .ok (.iconst 0, 1) := by decide +kernel
theorem dX5_find_90 : decode cX5_find 90 = .ok (.invokevirtual 72, 3) := by decide +kernel
theorem dX5_find_93 : decode cX5_find 93 = .ok (.aload_n 0, 1) := by decide +kernel
theorem dX5_find_94 : decode cX5_find 94 = .ok (.getfield 38, 3) := by decide +kernel
theorem dX5_find_97 : decode cX5_find 97 = .ok (.ireturn, 1) := by decide +kernel
theorem dX5_countTenths_0 : decode cX5_countTenths 0 = .ok (.aload_n 1, 1) := by decide +kernel
theorem dX5_countTenths_1 : decode cX5_countTenths 1 = .ok (.invokevirtual 75, 3) := by decide +kernel
theorem dX5_countTenths_4 : decode cX5_countTenths 4 = .ok (.istore_n 3, 1) := by decide +kernel
theorem dX5_countTenths_5 : decode cX5_countTenths 5 = .ok (.iconst 0, 1) := by decide +kernel
theorem dX5_countTenths_6 : decode cX5_countTenths 6 = .ok (.istore 4, 2) := by decide +kernel
theorem dX5_countTenths_8 : decode cX5_countTenths 8 = .ok (.iload 4, 2) := by decide +kernel
theorem dX5_countTenths_10 : decode cX5_countTenths 10 = .ok (.iconst 4, 1) := by decide +kernel
theorem dX5_countTenths_11 : decode cX5_countTenths 11 = .ok (.if_icmp .ge 33, 3) := by decide +kernel
theorem dX5_countTenths_14 : decode cX5_countTenths 14 = .ok (.aload_n 0, 1) := by decide +kernel
theorem dX5_countTenths_15 : decode cX5_countTenths 15 = .ok (.getfield 29, 3) := by decide +kernel
theorem dX5_countTenths_18 : decode cX5_countTenths 18 = .ok (.iload 4, 2) := by decide +kernel
theorem dX5_countTenths_20 : decode cX5_countTenths 20 = .ok (.iload_n 3, 1) := by decide +kernel
theorem dX5_countTenths_21 : decode cX5_countTenths 21 = .ok (.ifCond .le 15, 3) := by decide +kernel
theorem dX5_countTenths_24 : decode cX5_countTenths 24 = .ok (.aload_n 2, 1) := by decide +kernel
theorem dX5_countTenths_25 : decode cX5_countTenths 25 = .ok (.getfield 79, 3) := by decide +kernel
theorem dX5_countTenths_28 : decode cX5_countTenths 28 = .ok (.iload 4, 2) := by decide +kernel
theorem dX5_countTenths_30 : decode cX5_countTenths 30 = .ok (.iaload, 1) := by decide +kernel
theorem dX5_countTenths_31 : decode cX5_countTenths 31 = .ok (.iload_n 3, 1) := by decide +kernel
theorem dX5_countTenths_32 : decode cX5_countTenths 32 = .ok (.idiv, 1) := by decide +kernel
theorem dX5_countTenths_33 : decode cX5_countTenths 33 = .ok (.goto 4, 3) := by decide +kernel
theorem dX5_countTenths_36 : decode cX5_countTenths 36 = .ok (.iconst 0, 1) := by decide +kernel
theorem dX5_countTenths_37 : decode cX5_countTenths 37 = .ok (.iastore, 1) := by decide +kernel
theorem dX5_countTenths_38 : decode cX5_countTenths 38 = .ok (.iinc 4 1, 3) := by decide +kernel
theorem dX5_countTenths_41 : decode cX5_countTenths 41 = .ok (.goto (-33), 3) := by decide +kernel
theorem dX5_countTenths_44 : decode cX5_countTenths 44 = .ok (.return_, 1) := by decide +kernel
theorem dX5_tryTin_0 : decode cX5_tryTin 0 = .ok (.aload_n 2, 1) := by decide +kernel
theorem dX5_tryTin_1 : decode cX5_tryTin 1 = .ok (.getfield 84, 3) := by decide +kernel
theorem dX5_tryTin_4 : decode cX5_tryTin 4 = .ok (.iload_n 3, 1) := by decide +kernel
theorem dX5_tryTin_5 : decode cX5_tryTin 5 = .ok (.aaload, 1) := by decide +kernel
theorem dX5_tryTin_6 : decode cX5_tryTin 6 = .ok (.astore 5, 2) := by decide +kernel
theorem dX5_tryTin_8 : decode cX5_tryTin 8 = .ok (.aload_n 1, 1) := by decide +kernel
theorem dX5_tryTin_9 : decode cX5_tryTin 9 = .ok (.iload 4, 2) := by decide +kernel
theorem dX5_tryTin_11 : decode cX5_tryTin 11 = .ok (.invokevirtual 88, 3) := by decide +kernel
theorem dX5_tryTin_14 : decode cX5_tryTin 14 = .ok (.istore 6, 2) := by decide +kernel
theorem dX5_tryTin_16 : decode cX5_tryTin 16 = .ok (.aload 5, 2) := by decide +kernel
theorem dX5_tryTin_18 : decode cX5_tryTin 18 = .ok (.invokevirtual 92, 3) := by decide +kernel
theorem dX5_tryTin_21 : decode cX5_tryTin 21 = .ok (.iload 6, 2) := by decide +kernel
theorem dX5_tryTin_23 : decode cX5_tryTin 23 = .ok (.sipush 1000, 3) := by decide +kernel
theorem dX5_tryTin_26 : decode cX5_tryTin 26 = .ok (.imul, 1) := by decide +kernel
theorem dX5_tryTin_27 : decode cX5_tryTin 27 = .ok (.if_icmp .ge 4, 3) := by decide +kernel
theorem dX5_tryTin_30 : decode cX5_tryTin 30 = .ok (.return_, 1) := by decide +kernel
theorem dX5_tryTin_31 : decode cX5_tryTin 31 = .ok (.aload_n 0, 1) := by decide +kernel
theorem dX5_tryTin_32 : decode cX5_tryTin 32 = .ok (.getfield 21, 3) := by decide +kernel
theorem dX5_tryTin_35 : decode cX5_tryTin 35 = .ok (.aload 5, 2) := by decide +kernel
theorem dX5_tryTin_37 : decode cX5_tryTin 37 = .ok (.iload 6, 2) := by decide +kernel
theorem dX5_tryTin_39 : decode cX5_tryTin 39 = .ok (.invokevirtual 95, 3) := by decide +kernel
theorem dX5_tryTin_42 : decode cX5_tryTin 42 = .ok (.aload_n 0, 1) := by decide +kernel
theorem dX5_tryTin_43 : decode cX5_tryTin 43 = .ok (.aload_n 2, 1) := by decide +kernel
theorem dX5_tryTin_44 : decode cX5_tryTin 44 = .ok (.aload_n 0, 1) := by decide +kernel
theorem dX5_tryTin_45 : decode cX5_tryTin 45 = .ok (.getfield 21, 3) := by decide +kernel
theorem dX5_tryTin_48 : decode cX5_tryTin 48 = .ok (.getfield 99, 3) := by decide +kernel
theorem dX5_tryTin_51 : decode cX5_tryTin 51 = .ok (.invokevirtual 68, 3) := by decide +kernel
theorem dX5_tryTin_54 : decode cX5_tryTin 54 = .ok (.aload_n 0, 1) := by decide +kernel
theorem dX5_tryTin_55 : decode cX5_tryTin 55 = .ok (.aload_n 1, 1) := by decide +kernel
theorem dX5_tryTin_56 : decode cX5_tryTin 56 = .ok (.aload_n 2, 1) := by decide +kernel
theorem dX5_tryTin_57 : decode cX5_tryTin 57 = .ok (.iload_n 3, 1) := by decide +kernel
theorem dX5_tryTin_58 : decode cX5_tryTin 58 = .ok (.iload 4, 2) := by decide +kernel
theorem dX5_tryTin_60 : decode cX5_tryTin 60 = .ok (.invokevirtual 72, 3) := by decide +kernel
theorem dX5_tryTin_63 : decode cX5_tryTin 63 = .ok (.return_, 1) := by decide +kernel
theorem dX5_weighTin_0 : decode cX5_weighTin 0 = .ok (.iconst 0, 1) := by decide +kernel
theorem dX5_weighTin_1 : decode cX5_weighTin 1 = .ok (.istore_n 3, 1) := by decide +kernel
theorem dX5_weighTin_2 : decode cX5_weighTin 2 = .ok (.iload_n 3, 1) := by decide +kernel
theorem dX5_weighTin_3 : decode cX5_weighTin 3 = .ok (.iconst 3, 1) := by decide +kernel
theorem dX5_weighTin_4 : decode cX5_weighTin 4 = .ok (.if_icmp .ge 21, 3) := by decide +kernel
theorem dX5_weighTin_7 : decode cX5_weighTin 7 = .ok (.aload_n 0, 1) := by decide +kernel
theorem dX5_weighTin_8 : decode cX5_weighTin 8 = .ok (.getfield 35, 3) := by decide +kernel
theorem dX5_weighTin_11 : decode cX5_weighTin 11 = .ok (.iload_n 3, 1) := by decide +kernel
theorem dX5_weighTin_12 : decode cX5_weighTin 12 = .ok (.aload_n 1, 1) := by decide +kernel
theorem dX5_weighTin_13 : decode cX5_weighTin 13 = .ok (.aload_n 2, 1) := by decide +kernel
theorem dX5_weighTin_14 : decode cX5_weighTin 14 = .ok (.iload_n 3, 1) := by decide +kernel
theorem dX5_weighTin_15 : decode cX5_weighTin 15 = .ok (.invokevirtual 102, 3) := by decide +kernel
theorem dX5_weighTin_18 : decode cX5_weighTin 18 = .ok (.iastore, 1) := by decide +kernel
theorem dX5_weighTin_19 : decode cX5_weighTin 19 = .ok (.iinc 3 1, 3) := by decide +kernel
theorem dX5_weighTin_22 : decode cX5_weighTin 22 = .ok (.goto (-20), 3) := by decide +kernel
theorem dX5_weighTin_25 : decode cX5_weighTin 25 = .ok (.return_, 1) := by decide +kernel
theorem dX5_tryBases_0 : decode cX5_tryBases 0 = .ok (.bipush 10, 2) := by decide +kernel
theorem dX5_tryBases_2 : decode cX5_tryBases 2 = .ok (.iload 4, 2) := by decide +kernel
theorem dX5_tryBases_4 : decode cX5_tryBases 4 = .ok (.isub, 1) := by decide +kernel
theorem dX5_tryBases_5 : decode cX5_tryBases 5 = .ok (.istore 5, 2) := by decide +kernel
theorem dX5_tryBases_7 : decode cX5_tryBases 7 = .ok (.iconst 0, 1) := by decide +kernel
theorem dX5_tryBases_8 : decode cX5_tryBases 8 = .ok (.istore 6, 2) := by decide +kernel
theorem dX5_tryBases_10 : decode cX5_tryBases 10 = .ok (.iload 6, 2) := by decide +kernel
theorem dX5_tryBases_12 : decode cX5_tryBases 12 = .ok (.iload 5, 2) := by decide +kernel
theorem dX5_tryBases_14 : decode cX5_tryBases 14 = .ok (.if_icmp .gt 148, 3) := by decide +kernel
theorem dX5_tryBases_17 : decode cX5_tryBases 17 = .ok (.iload 6, 2) := by decide +kernel
theorem dX5_tryBases_19 : decode cX5_tryBases 19 = .ok (.aload_n 0, 1) := by decide +kernel
theorem dX5_tryBases_20 : decode cX5_tryBases 20 = .ok (.getfield 29, 3) := by decide +kernel
theorem dX5_tryBases_23 : decode cX5_tryBases 23 = .ok (.iconst 0, 1) := by decide +kernel
theorem dX5_tryBases_24 : decode cX5_tryBases 24 = .ok (.iaload, 1) := by decide +kernel
theorem dX5_tryBases_25 : decode cX5_tryBases 25 = .ok (.if_icmp .gt 137, 3) := by decide +kernel
theorem dX5_tryBases_28 : decode cX5_tryBases 28 = .ok (.iconst 0, 1) := by decide +kernel
theorem dX5_tryBases_29 : decode cX5_tryBases 29 = .ok (.istore 7, 2) := by decide +kernel
theorem dX5_tryBases_31 : decode cX5_tryBases 31 = .ok (.iload 7, 2) := by decide +kernel
theorem dX5_tryBases_33 : decode cX5_tryBases 33 = .ok (.iload 5, 2) := by decide +kernel
theorem dX5_tryBases_35 : decode cX5_tryBases 35 = .ok (.iload 6, 2) := by decide +kernel
theorem dX5_tryBases_37 : decode cX5_tryBases 37 = .ok (.isub, 1) := by decide +kernel
theorem dX5_tryBases_38 : decode cX5_tryBases 38 = .ok (.if_icmp .gt 118, 3) := by decide +kernel
theorem dX5_tryBases_41 : decode cX5_tryBases 41 = .ok (.iload 7, 2) := by decide +kernel
theorem dX5_tryBases_43 : decode cX5_tryBases 43 = .ok (.aload_n 0, 1) := by decide +kernel
theorem dX5_tryBases_44 : decode cX5_tryBases 44 = .ok (.getfield 29, 3) := by decide +kernel
theorem dX5_tryBases_47 : decode cX5_tryBases 47 = .ok (.iconst 1, 1) := by decide +kernel
theorem dX5_tryBases_48 : decode cX5_tryBases 48 = .ok (.iaload, 1) := by decide +kernel
theorem dX5_tryBases_49 : decode cX5_tryBases 49 = .ok (.if_icmp .gt 107, 3) := by decide +kernel
theorem dX5_tryBases_52 : decode cX5_tryBases 52 = .ok (.iconst 0, 1) := by decide +kernel
theorem dX5_tryBases_53 : decode cX5_tryBases 53 = .ok (.istore 8, 2) := by decide +kernel
theorem dX5_tryBases_55 : decode cX5_tryBases 55 = .ok (.iload 8, 2) := by decide +kernel
theorem dX5_tryBases_57 : decode cX5_tryBases 57 = .ok (.iload 5, 2) := by decide +kernel
theorem dX5_tryBases_59 : decode cX5_tryBases 59 = .ok (.iload 6, 2) := by decide +kernel
theorem dX5_tryBases_61 : decode cX5_tryBases 61 = .ok (.isub, 1) := by decide +kernel
theorem dX5_tryBases_62 : decode cX5_tryBases 62 = .ok (.iload 7, 2) := by decide +kernel
theorem dX5_tryBases_64 : decode cX5_tryBases 64 = .ok (.isub, 1) := by decide +kernel
theorem dX5_tryBases_65 : decode cX5_tryBases 65 = .ok (.if_icmp .gt 85, 3) := by decide +kernel
theorem dX5_tryBases_68 : decode cX5_tryBases 68 = .ok (.iload 8, 2) := by decide +kernel
theorem dX5_tryBases_70 : decode cX5_tryBases 70 = .ok (.aload_n 0, 1) := by decide +kernel
theorem dX5_tryBases_71 : decode cX5_tryBases 71 = .ok (.getfield 29, 3) := by decide +kernel
theorem dX5_tryBases_74 : decode cX5_tryBases 74 = .ok (.iconst 2, 1) := by decide +kernel
theorem dX5_tryBases_75 : decode cX5_tryBases 75 = .ok (.iaload, 1) := by decide +kernel
theorem dX5_tryBases_76 : decode cX5_tryBases 76 = .ok (.if_icmp .gt 74, 3) := by decide +kernel
theorem dX5_tryBases_79 : decode cX5_tryBases 79 = .ok (.aload_n 0, 1) := by decide +kernel
theorem dX5_tryBases_80 : decode cX5_tryBases 80 = .ok (.getfield 32, 3) := by decide +kernel
theorem dX5_tryBases_83 : decode cX5_tryBases 83 = .ok (.iconst 0, 1) := by decide +kernel
theorem dX5_tryBases_84 : decode cX5_tryBases 84 = .ok (.iload 6, 2) := by decide +kernel
theorem dX5_tryBases_86 : decode cX5_tryBases 86 = .ok (.iastore, 1) := by decide +kernel
theorem dX5_tryBases_87 : decode cX5_tryBases 87 = .ok (.aload_n 0, 1) := by decide +kernel
theorem dX5_tryBases_88 : decode cX5_tryBases 88 = .ok (.getfield 32, 3) := by decide +kernel
theorem dX5_tryBases_91 : decode cX5_tryBases 91 = .ok (.iconst 1, 1) := by decide +kernel
theorem dX5_tryBases_92 : decode cX5_tryBases 92 = .ok (.iload 7, 2) := by decide +kernel
theorem dX5_tryBases_94 : decode cX5_tryBases 94 = .ok (.iastore, 1) := by decide +kernel
theorem dX5_tryBases_95 : decode cX5_tryBases 95 = .ok (.aload_n 0, 1) := by decide +kernel
theorem dX5_tryBases_96 : decode cX5_tryBases 96 = .ok (.getfield 32, 3) := by decide +kernel
theorem dX5_tryBases_99 : decode cX5_tryBases 99 = .ok (.iconst 2, 1) := by decide +kernel
theorem dX5_tryBases_100 : decode cX5_tryBases 100 = .ok (.iload 8, 2) := by decide +kernel
theorem dX5_tryBases_102 : decode cX5_tryBases 102 = .ok (.iastore, 1) := by decide +kernel
theorem dX5_tryBases_103 : decode cX5_tryBases 103 = .ok (.aload_n 0, 1) := by decide +kernel
theorem dX5_tryBases_104 : decode cX5_tryBases 104 = .ok (.getfield 32, 3) := by decide +kernel
theorem dX5_tryBases_107 : decode cX5_tryBases 107 = .ok (.iconst 3, 1) := by decide +kernel
theorem dX5_tryBases_108 : decode cX5_tryBases 108 = .ok (.iload 5, 2) := by decide +kernel
theorem dX5_tryBases_110 : decode cX5_tryBases 110 = .ok (.iload 6, 2) := by decide +kernel
theorem dX5_tryBases_112 : decode cX5_tryBases 112 = .ok (.isub, 1) := by decide +kernel
theorem dX5_tryBases_113 : decode cX5_tryBases 113 = .ok (.iload 7, 2) := by decide +kernel
theorem dX5_tryBases_115 : decode cX5_tryBases 115 = .ok (.isub, 1) := by decide +kernel
theorem dX5_tryBases_116 : decode cX5_tryBases 116 = .ok (.iload 8, 2) := by decide +kernel
theorem dX5_tryBases_118 : decode cX5_tryBases 118 = .ok (.isub, 1) := by decide +kernel
theorem dX5_tryBases_119 : decode cX5_tryBases 119 = .ok (.iastore, 1) := by decide +kernel
theorem dX5_tryBases_120 : decode cX5_tryBases 120 = .ok (.aload_n 0, 1) := by decide +kernel
theorem dX5_tryBases_121 : decode cX5_tryBases 121 = .ok (.getfield 32, 3) := by decide +kernel
theorem dX5_tryBases_124 : decode cX5_tryBases 124 = .ok (.iconst 3, 1) := by decide +kernel
theorem dX5_tryBases_125 : decode cX5_tryBases 125 = .ok (.iaload, 1) := by decide +kernel
theorem dX5_tryBases_126 : decode cX5_tryBases 126 = .ok (.aload_n 0, 1) := by decide +kernel
theorem dX5_tryBases_127 : decode cX5_tryBases 127 = .ok (.getfield 29, 3) := by decide +kernel
theorem dX5_tryBases_130 : decode cX5_tryBases 130 = .ok (.iconst 3, 1) := by decide +kernel
theorem dX5_tryBases_131 : decode cX5_tryBases 131 = .ok (.iaload, 1) := by decide +kernel
theorem dX5_tryBases_132 : decode cX5_tryBases 132 = .ok (.if_icmp .gt 12, 3) := by decide +kernel
theorem dX5_tryBases_135 : decode cX5_tryBases 135 = .ok (.aload_n 0, 1) := by decide +kernel
theorem dX5_tryBases_136 : decode cX5_tryBases 136 = .ok (.aload_n 1, 1) := by decide +kernel
theorem dX5_tryBases_137 : decode cX5_tryBases 137 = .ok (.aload_n 2, 1) := by decide +kernel
theorem dX5_tryBases_138 : decode cX5_tryBases 138 = .ok (.iload_n 3, 1) := by decide +kernel
theorem dX5_tryBases_139 : decode cX5_tryBases 139 = .ok (.iload 4, 2) := by decide +kernel
theorem dX5_tryBases_141 : decode cX5_tryBases 141 = .ok (.invokevirtual 106, 3) := by decide +kernel
theorem dX5_tryBases_144 : decode cX5_tryBases 144 = .ok (.iinc 8 1, 3) := by decide +kernel
theorem dX5_tryBases_147 : decode cX5_tryBases 147 = .ok (.goto (-92), 3) := by decide +kernel
theorem dX5_tryBases_150 : decode cX5_tryBases 150 = .ok (.iinc 7 1, 3) := by decide +kernel
theorem dX5_tryBases_153 : decode cX5_tryBases 153 = .ok (.goto (-122), 3) := by decide +kernel
theorem dX5_tryBases_156 : decode cX5_tryBases 156 = .ok (.iinc 6 1, 3) := by decide +kernel
theorem dX5_tryBases_159 : decode cX5_tryBases 159 = .ok (.goto (-149), 3) := by decide +kernel
theorem dX5_tryBases_162 : decode cX5_tryBases 162 = .ok (.return_, 1) := by decide +kernel
theorem dX5_tryTrial_0 : decode cX5_tryTrial 0 = .ok (.aload_n 0, 1) := by decide +kernel
theorem dX5_tryTrial_1 : decode cX5_tryTrial 1 = .ok (.aload_n 1, 1) := by decide +kernel
theorem dX5_tryTrial_2 : decode cX5_tryTrial 2 = .ok (.aload_n 2, 1) := by decide +kernel
theorem dX5_tryTrial_3 : decode cX5_tryTrial 3 = .ok (.invokevirtual 109, 3) := by decide +kernel
theorem dX5_tryTrial_6 : decode cX5_tryTrial 6 = .ok (.istore 5, 2) := by decide +kernel
theorem dX5_tryTrial_8 : decode cX5_tryTrial 8 = .ok (.iload 5, 2) := by decide +kernel
theorem dX5_tryTrial_10 : decode cX5_tryTrial 10 = .ok (.aload_n 0, 1) := by decide +kernel
theorem dX5_tryTrial_11 : decode cX5_tryTrial 11 = .ok (.getfield 48, 3) := by decide +kernel
theorem dX5_tryTrial_14 : decode cX5_tryTrial 14 = .ok (.if_icmp .le 4, 3) := by decide +kernel
theorem dX5_tryTrial_17 : decode cX5_tryTrial 17 = .ok (.return_, 1) := by decide +kernel
theorem dX5_tryTrial_18 : decode cX5_tryTrial 18 = .ok (.aload_n 0, 1) := by decide +kernel
theorem dX5_tryTrial_19 : decode cX5_tryTrial 19 = .ok (.iconst 1, 1) := by decide +kernel
theorem dX5_tryTrial_20 : decode cX5_tryTrial 20 = .ok (.putfield 38, 3) := by decide +kernel
theorem dX5_tryTrial_23 : decode cX5_tryTrial 23 = .ok (.aload_n 0, 1) := by decide +kernel
theorem dX5_tryTrial_24 : decode cX5_tryTrial 24 = .ok (.iload 5, 2) := by decide +kernel
theorem dX5_tryTrial_26 : decode cX5_tryTrial 26 = .ok (.iconst 1, 1) := by decide +kernel
theorem dX5_tryTrial_27 : decode cX5_tryTrial 27 = .ok (.isub, 1) := by decide +kernel
theorem dX5_tryTrial_28 : decode cX5_tryTrial 28 = .ok (.putfield 48, 3) := by decide +kernel
theorem dX5_tryTrial_31 : decode cX5_tryTrial 31 = .ok (.aload_n 0, 1) := by decide +kernel
theorem dX5_tryTrial_32 : decode cX5_tryTrial 32 = .ok (.getfield 12, 3) := by decide +kernel
theorem dX5_tryTrial_35 : decode cX5_tryTrial 35 = .ok (.iload 5, 2) := by decide +kernel
theorem dX5_tryTrial_37 : decode cX5_tryTrial 37 = .ok (.putfield 113, 3) := by decide +kernel
theorem dX5_tryTrial_40 : decode cX5_tryTrial 40 = .ok (.aload_n 0, 1) := by decide +kernel
theorem dX5_tryTrial_41 : decode cX5_tryTrial 41 = .ok (.getfield 12, 3) := by decide +kernel
theorem dX5_tryTrial_44 : decode cX5_tryTrial 44 = .ok (.iload_n 3, 1) := by decide +kernel
theorem dX5_tryTrial_45 : decode cX5_tryTrial 45 = .ok (.putfield 114, 3) := by decide +kernel
theorem dX5_tryTrial_48 : decode cX5_tryTrial 48 = .ok (.aload_n 0, 1) := by decide +kernel
theorem dX5_tryTrial_49 : decode cX5_tryTrial 49 = .ok (.getfield 12, 3) := by decide +kernel
theorem dX5_tryTrial_52 : decode cX5_tryTrial 52 = .ok (.iload 4, 2) := by decide +kernel
theorem dX5_tryTrial_54 : decode cX5_tryTrial 54 = .ok (.putfield 117, 3) := by decide +kernel
theorem dX5_tryTrial_57 : decode cX5_tryTrial 57 = .ok (.iconst 0, 1) := by decide +kernel
theorem dX5_tryTrial_58 : decode cX5_tryTrial 58 = .ok (.istore 6, 2) := by decide +kernel
theorem dX5_tryTrial_60 : decode cX5_tryTrial 60 = .ok (.iload 6, 2) := by decide +kernel
theorem dX5_tryTrial_62 : decode cX5_tryTrial 62 = .ok (.iconst 4, 1) := by decide +kernel
theorem dX5_tryTrial_63 : decode cX5_tryTrial 63 = .ok (.if_icmp .ge 26, 3) := by decide +kernel
theorem dX5_tryTrial_66 : decode cX5_tryTrial 66 = .ok (.aload_n 0, 1) := by decide +kernel
theorem dX5_tryTrial_67 : decode cX5_tryTrial 67 = .ok (.getfield 12, 3) := by decide +kernel
theorem dX5_tryTrial_70 : decode cX5_tryTrial 70 = .ok (.getfield 120, 3) := by decide +kernel
theorem dX5_tryTrial_73 : decode cX5_tryTrial 73 = .ok (.iload 6, 2) := by decide +kernel
theorem dX5_tryTrial_75 : decode cX5_tryTrial 75 = .ok (.aload_n 0, 1) := by decide +kernel
theorem dX5_tryTrial_76 : decode cX5_tryTrial 76 = .ok (.getfield 32, 3) := by decide +kernel
theorem dX5_tryTrial_79 : decode cX5_tryTrial 79 = .ok (.iload 6, 2) := by decide +kernel
theorem dX5_tryTrial_81 : decode cX5_tryTrial 81 = .ok (.iaload, 1) := by decide +kernel
theorem dX5_tryTrial_82 : decode cX5_tryTrial 82 = .ok (.iastore, 1) := by decide +kernel
theorem dX5_tryTrial_83 : decode cX5_tryTrial 83 = .ok (.iinc 6 1, 3) := by decide +kernel
theorem dX5_tryTrial_86 : decode cX5_tryTrial 86 = .ok (.goto (-26), 3) := by decide +kernel
theorem dX5_tryTrial_89 : decode cX5_tryTrial 89 = .ok (.return_, 1) := by decide +kernel
theorem dX5_gapOfTrial_0 : decode cX5_gapOfTrial 0 = .ok (.aload_n 1, 1) := by decide +kernel
theorem dX5_gapOfTrial_1 : decode cX5_gapOfTrial 1 = .ok (.invokevirtual 75, 3) := by decide +kernel
theorem dX5_gapOfTrial_4 : decode cX5_gapOfTrial 4 = .ok (.istore_n 3, 1) := by decide +kernel
theorem dX5_gapOfTrial_5 : decode cX5_gapOfTrial 5 = .ok (.iconst 0, 1) := by decide +kernel
theorem dX5_gapOfTrial_6 : decode cX5_gapOfTrial 6 = .ok (.istore 4, 2) := by decide +kernel
theorem dX5_gapOfTrial_8 : decode cX5_gapOfTrial 8 = .ok (.iconst 0, 1) := by decide +kernel
theorem dX5_gapOfTrial_9 : decode cX5_gapOfTrial 9 = .ok (.istore 5, 2) := by decide +kernel
theorem dX5_gapOfTrial_11 : decode cX5_gapOfTrial 11 = .ok (.iload 5, 2) := by decide +kernel
theorem dX5_gapOfTrial_13 : decode cX5_gapOfTrial 13 = .ok (.iconst 3, 1) := by decide +kernel
theorem dX5_gapOfTrial_14 : decode cX5_gapOfTrial 14 = .ok (.if_icmp .ge 67, 3) := by decide +kernel
theorem dX5_gapOfTrial_17 : decode cX5_gapOfTrial 17 = .ok (.iload 4, 2) := by decide +kernel
theorem dX5_gapOfTrial_19 : decode cX5_gapOfTrial 19 = .ok (.aload_n 0, 1) := by decide +kernel
theorem dX5_gapOfTrial_20 : decode cX5_gapOfTrial 20 = .ok (.getfield 48, 3) := by decide +kernel
theorem dX5_gapOfTrial_23 : decode cX5_gapOfTrial 23 = .ok (.if_icmp .gt 58, 3) := by decide +kernel
theorem dX5_gapOfTrial_26 : decode cX5_gapOfTrial 26 = .ok (.iload_n 3, 1) := by decide +kernel
theorem dX5_gapOfTrial_27 : decode cX5_gapOfTrial 27 = .ok (.ifCond .le 54, 3) := by decide +kernel
theorem dX5_gapOfTrial_30 : decode cX5_gapOfTrial 30 = .ok (.aload_n 0, 1) := by decide +kernel
theorem dX5_gapOfTrial_31 : decode cX5_gapOfTrial 31 = .ok (.getfield 35, 3) := by decide +kernel
theorem dX5_gapOfTrial_34 : decode cX5_gapOfTrial 34 = .ok (.iload 5, 2) := by decide +kernel
theorem dX5_gapOfTrial_36 : decode cX5_gapOfTrial 36 = .ok (.iaload, 1) := by decide +kernel
theorem dX5_gapOfTrial_37 : decode cX5_gapOfTrial 37 = .ok (.iload_n 3, 1) := by decide +kernel
theorem dX5_gapOfTrial_38 : decode cX5_gapOfTrial 38 = .ok (.aload_n 2, 1) := by decide +kernel
theorem dX5_gapOfTrial_39 : decode cX5_gapOfTrial 39 = .ok (.aload_n 0, 1) := by decide +kernel
theorem dX5_gapOfTrial_40 : decode cX5_gapOfTrial 40 = .ok (.getfield 32, 3) := by decide +kernel
theorem dX5_gapOfTrial_43 : decode cX5_gapOfTrial 43 = .ok (.iload 5, 2) := by decide +kernel
theorem dX5_gapOfTrial_45 : decode cX5_gapOfTrial 45 = .ok (.invokevirtual 102, 3) := by decide +kernel
theorem dX5_gapOfTrial_48 : decode cX5_gapOfTrial 48 = .ok (.imul, 1) := by decide +kernel
theorem dX5_gapOfTrial_49 : decode cX5_gapOfTrial 49 = .ok (.iadd, 1) := by decide +kernel
theorem dX5_gapOfTrial_50 : decode cX5_gapOfTrial 50 = .ok (.istore 6, 2) := by decide +kernel
theorem dX5_gapOfTrial_52 : decode cX5_gapOfTrial 52 = .ok (.iload 4, 2) := by decide +kernel
theorem dX5_gapOfTrial_54 : decode cX5_gapOfTrial 54 = .ok (.iload 6, 2) := by decide +kernel
theorem dX5_gapOfTrial_56 : decode cX5_gapOfTrial 56 = .ok (.iload_n 3, 1) := by decide +kernel
theorem dX5_gapOfTrial_57 : decode cX5_gapOfTrial 57 = .ok (.bipush 10, 2) := by decide +kernel
theorem dX5_gapOfTrial_59 : decode cX5_gapOfTrial 59 = .ok (.imul, 1) := by decide +kernel
theorem dX5_gapOfTrial_60 : decode cX5_gapOfTrial 60 = .ok (.idiv, 1) := by decide +kernel
theorem dX5_gapOfTrial_61 : decode cX5_gapOfTrial 61 = .ok (.aload_n 1, 1) := by decide +kernel
theorem dX5_gapOfTrial_62 : decode cX5_gapOfTrial 62 = .ok (.getfield 123, 3) := by decide +kernel
theorem dX5_gapOfTrial_65 : decode cX5_gapOfTrial 65 = .ok (.iload 5, 2) := by decide +kernel
theorem dX5_gapOfTrial_67 : decode cX5_gapOfTrial 67 = .ok (.iaload, 1) := by decide +kernel
theorem dX5_gapOfTrial_68 : decode cX5_gapOfTrial 68 = .ok (.isub, 1) := by decide +kernel
theorem dX5_gapOfTrial_69 : decode cX5_gapOfTrial 69 = .ok (.invokestatic 126, 3) := by decide +kernel
theorem dX5_gapOfTrial_72 : decode cX5_gapOfTrial 72 = .ok (.iadd, 1) := by decide +kernel
theorem dX5_gapOfTrial_73 : decode cX5_gapOfTrial 73 = .ok (.istore 4, 2) := by decide +kernel
theorem dX5_gapOfTrial_75 : decode cX5_gapOfTrial 75 = .ok (.iinc 5 1, 3) := by decide +kernel
theorem dX5_gapOfTrial_78 : decode cX5_gapOfTrial 78 = .ok (.goto (-67), 3) := by decide +kernel
theorem dX5_gapOfTrial_81 : decode cX5_gapOfTrial 81 = .ok (.iload 4, 2) := by decide +kernel
theorem dX5_gapOfTrial_83 : decode cX5_gapOfTrial 83 = .ok (.ireturn, 1) := by decide +kernel
theorem dX6_init_0 : decode cX6_init 0 = .ok (.aload_n 0, 1) := by decide +kernel
theorem dX6_init_1 : decode cX6_init 1 = .ok (.invokespecial 3, 3) := by decide +kernel
theorem dX6_init_4 : decode cX6_init 4 = .ok (.aload_n 0, 1) := by decide +kernel
theorem dX6_init_5 : decode cX6_init 5 = .ok (.iconst 4, 1) := by decide +kernel
theorem dX6_init_6 : decode cX6_init 6 = .ok (.anewarray 9, 3) := by decide +kernel
theorem dX6_init_9 : decode cX6_init 9 = .ok (.dup, 1) := by decide +kernel
theorem dX6_init_10 : decode cX6_init 10 = .ok (.iconst 0, 1) := by decide +kernel
theorem dX6_init_11 : decode cX6_init 11 = .ok (.iconst 3, 1) := by decide +kernel
theorem dX6_init_12 : decode cX6_init 12 = .ok (.newarray .int, 2) := by decide +kernel
theorem dX6_init_14 : decode cX6_init 14 = .ok (.dup, 1) := by decide +kernel
theorem dX6_init_15 : decode cX6_init 15 = .ok (.iconst 0, 1) := by decide +kernel
theorem dX6_init_16 : decode cX6_init 16 = .ok (.iconst 0, 1) := by decide +kernel
theorem dX6_init_17 : decode cX6_init 17 = .ok (.iastore, 1) := by decide +kernel
theorem dX6_init_18 : decode cX6_init 18 = .ok (.dup, 1) := by decide +kernel
theorem dX6_init_19 : decode cX6_init 19 = .ok (.iconst 1, 1) := by decide +kernel
theorem dX6_init_20 : decode cX6_init 20 = .ok (.iconst 0, 1) := by decide +kernel
theorem dX6_init_21 : decode cX6_init 21 = .ok (.iastore, 1) := by decide +kernel
theorem dX6_init_22 : decode cX6_init 22 = .ok (.dup, 1) := by decide +kernel
theorem dX6_init_23 : decode cX6_init 23 = .ok (.iconst 2, 1) := by decide +kernel
theorem dX6_init_24 : decode cX6_init 24 = .ok (.iconst 0, 1) := by decide +kernel
theorem dX6_init_25 : decode cX6_init 25 = .ok (.iastore, 1) := by decide +kernel
theorem dX6_init_26 : decode cX6_init 26 = .ok (.aastore, 1) := by decide +kernel
theorem dX6_init_27 : decode cX6_init 27 = .ok (.dup, 1) := by decide +kernel
theorem dX6_init_28 : decode cX6_init 28 = .ok (.iconst 1, 1) := by decide +kernel
theorem dX6_init_29 : decode cX6_init 29 = .ok (.iconst 3, 1) := by decide +kernel
theorem dX6_init_30 : decode cX6_init 30 = .ok (.newarray .int, 2) := by decide +kernel
theorem dX6_init_32 : decode cX6_init 32 = .ok (.dup, 1) := by decide +kernel
theorem dX6_init_33 : decode cX6_init 33 = .ok (.iconst 0, 1) := by decide +kernel
theorem dX6_init_34 : decode cX6_init 34 = .ok (.bipush 100, 2) := by decide +kernel
theorem dX6_init_36 : decode cX6_init 36 = .ok (.iastore, 1) := by decide +kernel
theorem dX6_init_37 : decode cX6_init 37 = .ok (.dup, 1) := by decide +kernel
theorem dX6_init_38 : decode cX6_init 38 = .ok (.iconst 1, 1) := by decide +kernel
theorem dX6_init_39 : decode cX6_init 39 = .ok (.bipush 10, 2) := by decide +kernel
theorem dX6_init_41 : decode cX6_init 41 = .ok (.iastore, 1) := by decide +kernel
theorem dX6_init_42 : decode cX6_init 42 = .ok (.dup, 1) := by decide +kernel
theorem dX6_init_43 : decode cX6_init 43 = .ok (.iconst 2, 1) := by decide +kernel
theorem dX6_init_44 : decode cX6_init 44 = .ok (.bipush 20, 2) := by decide +kernel
theorem dX6_init_46 : decode cX6_init 46 = .ok (.iastore, 1) := by decide +kernel
theorem dX6_init_47 : decode cX6_init 47 = .ok (.aastore, 1) := by decide +kernel
theorem dX6_init_48 : decode cX6_init 48 = .ok (.dup, 1) := by decide +kernel
theorem dX6_init_49 : decode cX6_init 49 = .ok (.iconst 2, 1) := by decide +kernel
theorem dX6_init_50 : decode cX6_init 50 = .ok (.iconst 3, 1) := by decide +kernel
theorem dX6_init_51 : decode cX6_init 51 = .ok (.newarray .int, 2) := by decide +kernel
theorem dX6_init_53 : decode cX6_init 53 = .ok (.dup, 1) := by decide +kernel
theorem dX6_init_54 : decode cX6_init 54 = .ok (.iconst 0, 1) := by decide +kernel
theorem dX6_init_55 : decode cX6_init 55 = .ok (.bipush 20, 2) := by decide +kernel
theorem dX6_init_57 : decode cX6_init 57 = .ok (.iastore, 1) := by decide +kernel
theorem dX6_init_58 : decode cX6_init 58 = .ok (.dup, 1) := by decide +kernel
theorem dX6_init_59 : decode cX6_init 59 = .ok (.iconst 1, 1) := by decide +kernel
theorem dX6_init_60 : decode cX6_init 60 = .ok (.bipush 100, 2) := by decide +kernel
theorem dX6_init_62 : decode cX6_init 62 = .ok (.iastore, 1) := by decide +kernel
theorem dX6_init_63 : decode cX6_init 63 = .ok (.dup, 1) := by decide +kernel
theorem dX6_init_64 : decode cX6_init 64 = .ok (.iconst 2, 1) := by decide +kernel
theorem dX6_init_65 : decode cX6_init 65 = .ok (.bipush 10, 2) := by decide +kernel
theorem dX6_init_67 : decode cX6_init 67 = .ok (.iastore, 1) := by decide +kernel
theorem dX6_init_68 : decode cX6_init 68 = .ok (.aastore, 1) := by decide +kernel
theorem dX6_init_69 : decode cX6_init 69 = .ok (.dup, 1) := by decide +kernel
theorem dX6_init_70 : decode cX6_init 70 = .ok (.iconst 3, 1) := by decide +kernel
theorem dX6_init_71 : decode cX6_init 71 = .ok (.iconst 3, 1) := by decide +kernel
theorem dX6_init_72 : decode cX6_init 72 = .ok (.newarray .int, 2) := by decide +kernel
theorem dX6_init_74 : decode cX6_init 74 = .ok (.dup, 1) := by decide +kernel
theorem dX6_init_75 : decode cX6_init 75 = .ok (.iconst 0, 1) := by decide +kernel
theorem dX6_init_76 : decode cX6_init 76 = .ok (.bipush 90, 2) := by decide +kernel
theorem dX6_init_78 : decode cX6_init 78 = .ok (.iastore, 1) := by decide +kernel
theorem dX6_init_79 : decode cX6_init 79 = .ok (.dup, 1) := by decide +kernel
theorem dX6_init_80 : decode cX6_init 80 = .ok (.iconst 1, 1) := by decide +kernel
theorem dX6_init_81 : decode cX6_init 81 = .ok (.bipush 90, 2) := by decide +kernel
theorem dX6_init_83 : decode cX6_init 83 = .ok (.iastore, 1) := by decide +kernel
theorem dX6_init_84 : decode cX6_init 84 = .ok (.dup, 1) := by decide +kernel
theorem dX6_init_85 : decode cX6_init 85 = .ok (.iconst 2, 1) := by decide +kernel
theorem dX6_init_86 : decode cX6_init 86 = .ok (.bipush 90, 2) := by decide +kernel
theorem dX6_init_88 : decode cX6_init 88 = .ok (.iastore, 1) := by decide +kernel
theorem dX6_init_89 : decode cX6_init 89 = .ok (.aastore, 1) := by decide +kernel
theorem dX6_init_90 : decode cX6_init 90 = .ok (.putfield 11, 3) := by decide +kernel
theorem dX6_init_93 : decode cX6_init 93 = .ok (.aload_n 0, 1) := by decide +kernel
theorem dX6_init_94 : decode cX6_init 94 = .ok (.new 17, 3) := by decide +kernel
theorem dX6_init_97 : decode cX6_init 97 = .ok (.dup, 1) := by decide +kernel
theorem dX6_init_98 : decode cX6_init 98 = .ok (.invokespecial 19, 3) := by decide +kernel
theorem dX6_init_101 : decode cX6_init 101 = .ok (.putfield 20, 3) := by decide +kernel
theorem dX6_init_104 : decode cX6_init 104 = .ok (.aload_n 0, 1) := by decide +kernel
theorem dX6_init_105 : decode cX6_init 105 = .ok (.bipush 30, 2) := by decide +kernel
theorem dX6_init_107 : decode cX6_init 107 = .ok (.anewarray 17, 3) := by decide +kernel
theorem dX6_init_110 : decode cX6_init 110 = .ok (.putfield 24, 3) := by decide +kernel
theorem dX6_init_113 : decode cX6_init 113 = .ok (.iconst 0, 1) := by decide +kernel
theorem dX6_init_114 : decode cX6_init 114 = .ok (.istore_n 1, 1) := by decide +kernel
theorem dX6_init_115 : decode cX6_init 115 = .ok (.iload_n 1, 1) := by decide +kernel
theorem dX6_init_116 : decode cX6_init 116 = .ok (.bipush 30, 2) := by decide +kernel
theorem dX6_init_118 : decode cX6_init 118 = .ok (.if_icmp .ge 22, 3) := by decide +kernel
theorem dX6_init_121 : decode cX6_init 121 = .ok (.aload_n 0, 1) := by decide +kernel
theorem dX6_init_122 : decode cX6_init 122 = .ok (.getfield 24, 3) := by decide +kernel
theorem dX6_init_125 : decode cX6_init 125 = .ok (.iload_n 1, 1) := by decide +kernel
theorem dX6_init_126 : decode cX6_init 126 = .ok (.new 17, 3) := by decide +kernel
theorem dX6_init_129 : decode cX6_init 129 = .ok (.dup, 1) := by decide +kernel
theorem dX6_init_130 : decode cX6_init 130 = .ok (.invokespecial 19, 3) := by decide +kernel
theorem dX6_init_133 : decode cX6_init 133 = .ok (.aastore, 1) := by decide +kernel
theorem dX6_init_134 : decode cX6_init 134 = .ok (.iinc 1 1, 3) := by decide +kernel
theorem dX6_init_137 : decode cX6_init 137 = .ok (.goto (-22), 3) := by decide +kernel
theorem dX6_init_140 : decode cX6_init 140 = .ok (.return_, 1) := by decide +kernel
theorem dX6_partOf_0 : decode cX6_partOf 0 = .ok (.aload_n 1, 1) := by decide +kernel
theorem dX6_partOf_1 : decode cX6_partOf 1 = .ok (.invokevirtual 28, 3) := by decide +kernel
theorem dX6_partOf_4 : decode cX6_partOf 4 = .ok (.istore_n 3, 1) := by decide +kernel
theorem dX6_partOf_5 : decode cX6_partOf 5 = .ok (.iload_n 3, 1) := by decide +kernel
theorem dX6_partOf_6 : decode cX6_partOf 6 = .ok (.ifCond .gt 5, 3) := by decide +kernel
theorem dX6_partOf_9 : decode cX6_partOf 9 = .ok (.iconst 0, 1) := by decide +kernel
theorem dX6_partOf_10 : decode cX6_partOf 10 = .ok (.ireturn, 1) := by decide +kernel
theorem dX6_partOf_11 : decode cX6_partOf 11 = .ok (.aload_n 0, 1) := by decide +kernel
theorem dX6_partOf_12 : decode cX6_partOf 12 = .ok (.aload_n 1, 1) := by decide +kernel
theorem dX6_partOf_13 : decode cX6_partOf 13 = .ok (.getfield 32, 3) := by decide +kernel
theorem dX6_partOf_16 : decode cX6_partOf 16 = .ok (.iload_n 2, 1) := by decide +kernel
theorem dX6_partOf_17 : decode cX6_partOf 17 = .ok (.invokevirtual 35, 3) := by decide +kernel
theorem dX6_partOf_20 : decode cX6_partOf 20 = .ok (.iload_n 3, 1) := by decide +kernel
theorem dX6_partOf_21 : decode cX6_partOf 21 = .ok (.idiv, 1) := by decide +kernel
theorem dX6_partOf_22 : decode cX6_partOf 22 = .ok (.ireturn, 1) := by decide +kernel
theorem dX6_weighedPart_0 : decode cX6_weighedPart 0 = .ok (.iconst 0, 1) := by decide +kernel
theorem dX6_weighedPart_1 : decode cX6_weighedPart 1 = .ok (.istore_n 3, 1) := by decide +kernel
theorem dX6_weighedPart_2 : decode cX6_weighedPart 2 = .ok (.iconst 0, 1) := by decide +kernel
theorem dX6_weighedPart_3 : decode cX6_weighedPart 3 = .ok (.istore 4, 2) := by decide +kernel
theorem dX6_weighedPart_5 : decode cX6_weighedPart 5 = .ok (.iload 4, 2) := by decide +kernel
theorem dX6_weighedPart_7 : decode cX6_weighedPart 7 = .ok (.iconst 4, 1) := by decide +kernel
theorem dX6_weighedPart_8 : decode cX6_weighedPart 8 = .ok (.if_icmp .ge 26, 3) := by decide +kernel
theorem dX6_weighedPart_11 : decode cX6_weighedPart 11 = .ok (.iload_n 3, 1) := by decide +kernel
theorem dX6_weighedPart_12 : decode cX6_weighedPart 12 = .ok (.aload_n 1, 1) := by decide +kernel
theorem dX6_weighedPart_13 : decode cX6_weighedPart 13 = .ok (.iload 4, 2) := by decide +kernel
theorem dX6_weighedPart_15 : decode cX6_weighedPart 15 = .ok (.iaload, 1) := by decide +kernel
theorem dX6_weighedPart_16 : decode cX6_weighedPart 16 = .ok (.aload_n 0, 1) := by decide +kernel
theorem dX6_weighedPart_17 : decode cX6_weighedPart 17 = .ok (.getfield 11, 3) := by decide +kernel
theorem dX6_weighedPart_20 : decode cX6_weighedPart 20 = .ok (.iload 4, 2) := by decide +kernel
theorem dX6_weighedPart_22 : decode cX6_weighedPart 22 = .ok (.aaload, 1) := by decide +kernel
theorem dX6_weighedPart_23 : decode cX6_weighedPart 23 = .ok (.iload_n 2, 1) := by decide +kernel
theorem dX6_weighedPart_24 : decode cX6_weighedPart 24 = .ok (.iaload, 1) := by decide +kernel
theorem dX6_weighedPart_25 : decode cX6_weighedPart 25 = .ok (.imul, 1) := by decide +kernel
theorem dX6_weighedPart_26 : decode cX6_weighedPart 26 = .ok (.iadd, 1) := by decide +kernel
theorem dX6_weighedPart_27 : decode cX6_weighedPart 27 = .ok (.istore_n 3, 1) := by decide +kernel
theorem dX6_weighedPart_28 : decode cX6_weighedPart 28 = .ok (.iinc 4 1, 3) := by decide +kernel
theorem dX6_weighedPart_31 : decode cX6_weighedPart 31 = .ok (.goto (-26), 3) := by decide +kernel
theorem dX6_weighedPart_34 : decode cX6_weighedPart 34 = .ok (.iload_n 3, 1) := by decide +kernel
theorem dX6_weighedPart_35 : decode cX6_weighedPart 35 = .ok (.ireturn, 1) := by decide +kernel
theorem dX6_keep_0 : decode cX6_keep 0 = .ok (.aload_n 0, 1) := by decide +kernel
theorem dX6_keep_1 : decode cX6_keep 1 = .ok (.getfield 39, 3) := by decide +kernel
theorem dX6_keep_4 : decode cX6_keep 4 = .ok (.bipush 30, 2) := by decide +kernel
theorem dX6_keep_6 : decode cX6_keep 6 = .ok (.if_icmp .lt 5, 3) := by decide +kernel
theorem dX6_keep_9 : decode cX6_keep 9 = .ok (.iconst (-1), 1) := by decide +kernel
theorem dX6_keep_10 : decode cX6_keep 10 = .ok (.ireturn, 1) := by decide +kernel
theorem dX6_keep_11 : decode cX6_keep 11 = .ok (.aload_n 0, 1) := by decide +kernel
theorem dX6_keep_12 : decode cX6_keep 12 = .ok (.getfield 24, 3) := by decide +kernel
theorem dX6_keep_15 : decode cX6_keep 15 = .ok (.aload_n 0, 1) := by decide +kernel
theorem dX6_keep_16 : decode cX6_keep 16 = .ok (.getfield 39, 3) := by decide +kernel
theorem dX6_keep_19 : decode cX6_keep 19 = .ok (.aaload, 1) := by decide +kernel
theorem dX6_keep_20 : decode cX6_keep 20 = .ok (.astore_n 2, 1) := by decide +kernel
theorem dX6_keep_21 : decode cX6_keep 21 = .ok (.iconst 0, 1) := by decide +kernel
theorem dX6_keep_22 : decode cX6_keep 22 = .ok (.istore_n 3, 1) := by decide +kernel
theorem dX6_keep_23 : decode cX6_keep 23 = .ok (.iload_n 3, 1) := by decide +kernel
theorem dX6_keep_24 : decode cX6_keep 24 = .ok (.iconst 4, 1) := by decide +kernel
theorem dX6_keep_25 : decode cX6_keep 25 = .ok (.if_icmp .ge 28, 3) := by decide +kernel
theorem dX6_keep_28 : decode cX6_keep 28 = .ok (.aload_n 2, 1) := by decide +kernel
theorem dX6_keep_29 : decode cX6_keep 29 = .ok (.getfield 32, 3) := by decide +kernel
theorem dX6_keep_32 : decode cX6_keep 32 = .ok (.iload_n 3, 1) := by decide +kernel
theorem dX6_keep_33 : decode cX6_keep 33 = .ok (.aload_n 1, 1) := by decide +kernel
theorem dX6_keep_34 : decode cX6_keep 34 = .ok (.getfield 32, 3) := by decide +kernel
theorem dX6_keep_37 : decode cX6_keep 37 = .ok (.iload_n 3, 1) := by decide +kernel
theorem dX6_keep_38 : decode cX6_keep 38 = .ok (.iaload, 1) := by decide +kernel
theorem dX6_keep_39 : decode cX6_keep 39 = .ok (.iastore, 1) := by decide +kernel
theorem dX6_keep_40 : decode cX6_keep 40 = .ok (.aload_n 1, 1) := by decide +kernel
theorem dX6_keep_41 : decode cX6_keep 41 = .ok (.getfield 32, 3) := by decide +kernel
theorem dX6_keep_44 : decode cX6_keep 44 = .ok (.iload_n 3, 1) := by decide +kernel
theorem dX6_keep_45 : decode cX6_keep 45 = .ok (.iconst 0, 1) := by decide +kernel
theorem dX6_keep_46 : decode cX6_keep 46 = .ok (.iastore, 1) := by decide +kernel
theorem dX6_keep_47 : decode cX6_keep 47 = .ok (.iinc 3 1, 3) := by decide +kernel
theorem dX6_keep_50 : decode cX6_keep 50 = .ok (.goto (-27), 3) := by decide +kernel
theorem dX6_keep_53 : decode cX6_keep 53 = .ok (.aload_n 0, 1) := by decide +kernel
theorem dX6_keep_54 : decode cX6_keep 54 = .ok (.dup, 1) := by decide +kernel
theorem dX6_keep_55 : decode cX6_keep 55 = .ok (.getfield 39, 3) := by decide +kernel
theorem dX6_keep_58 : decode cX6_keep 58 = .ok (.iconst 1, 1) := by decide +kernel
theorem dX6_keep_59 : decode cX6_keep 59 = .ok (.iadd, 1) := by decide +kernel
theorem dX6_keep_60 : decode cX6_keep 60 = .ok (.putfield 39, 3) := by decide +kernel
theorem dX6_keep_63 : decode cX6_keep 63 = .ok (.aload_n 0, 1) := by decide +kernel
theorem dX6_keep_64 : decode cX6_keep 64 = .ok (.getfield 39, 3) := by decide +kernel
theorem dX6_keep_67 : decode cX6_keep 67 = .ok (.iconst 1, 1) := by decide +kernel
theorem dX6_keep_68 : decode cX6_keep 68 = .ok (.isub, 1) := by decide +kernel
theorem dX6_keep_69 : decode cX6_keep 69 = .ok (.ireturn, 1) := by decide +kernel
theorem dX6_inAllTins_0 : decode cX6_inAllTins 0 = .ok (.iconst 0, 1) := by decide +kernel
theorem dX6_inAllTins_1 : decode cX6_inAllTins 1 = .ok (.istore_n 2, 1) := by decide +kernel
theorem dX6_inAllTins_2 : decode cX6_inAllTins 2 = .ok (.iconst 0, 1) := by decide +kernel
theorem dX6_inAllTins_3 : decode cX6_inAllTins 3 = .ok (.istore_n 3, 1) := by decide +kernel
theorem dX6_inAllTins_4 : decode cX6_inAllTins 4 = .ok (.iload_n 3, 1) := by decide +kernel
theorem dX6_inAllTins_5 : decode cX6_inAllTins 5 = .ok (.aload_n 0, 1) := by decide +kernel
theorem dX6_inAllTins_6 : decode cX6_inAllTins 6 = .ok (.getfield 39, 3) := by decide +kernel
theorem dX6_inAllTins_9 : decode cX6_inAllTins 9 = .ok (.if_icmp .ge 23, 3) := by decide +kernel
theorem dX6_inAllTins_12 : decode cX6_inAllTins 12 = .ok (.iload_n 2, 1) := by decide +kernel
theorem dX6_inAllTins_13 : decode cX6_inAllTins 13 = .ok (.aload_n 0, 1) := by decide +kernel
theorem dX6_inAllTins_14 : decode cX6_inAllTins 14 = .ok (.getfield 24, 3) := by decide +kernel
theorem dX6_inAllTins_17 : decode cX6_inAllTins 17 = .ok (.iload_n 3, 1) := by decide +kernel
theorem dX6_inAllTins_18 : decode cX6_inAllTins 18 = .ok (.aaload, 1) := by decide +kernel
theorem dX6_inAllTins_19 : decode cX6_inAllTins 19 = .ok (.getfield 32, 3) := by decide +kernel
theorem dX6_inAllTins_22 : decode cX6_inAllTins 22 = .ok (.iload_n 1, 1) := by decide +kernel
theorem dX6_inAllTins_23 : decode cX6_inAllTins 23 = .ok (.iaload, 1) := by decide +kernel
theorem dX6_inAllTins_24 : decode cX6_inAllTins 24 = .ok (.iadd, 1) := by decide +kernel
theorem dX6_inAllTins_25 : decode cX6_inAllTins 25 = .ok (.istore_n 2, 1) := by decide +kernel
theorem dX6_inAllTins_26 : decode cX6_inAllTins 26 = .ok (.iinc 3 1, 3) := by decide +kernel
theorem dX6_inAllTins_29 : decode cX6_inAllTins 29 = .ok (.goto (-25), 3) := by decide +kernel
theorem dX6_inAllTins_32 : decode cX6_inAllTins 32 = .ok (.iload_n 2, 1) := by decide +kernel
theorem dX6_inAllTins_33 : decode cX6_inAllTins 33 = .ok (.ireturn, 1) := by decide +kernel
theorem dX7_init_0 : decode cX7_init 0 = .ok (.aload_n 0, 1) := by decide +kernel
theorem dX7_init_1 : decode cX7_init 1 = .ok (.invokespecial 3, 3) := by decide +kernel
theorem dX7_init_4 : decode cX7_init 4 = .ok (.aload_n 0, 1) := by decide +kernel
theorem dX7_init_5 : decode cX7_init 5 = .ok (.bipush 8, 2) := by decide +kernel
theorem dX7_init_7 : decode cX7_init 7 = .ok (.newarray .int, 2) := by decide +kernel
theorem dX7_init_9 : decode cX7_init 9 = .ok (.putfield 9, 3) := by decide +kernel
theorem dX7_init_12 : decode cX7_init 12 = .ok (.aload_n 0, 1) := by decide +kernel
theorem dX7_init_13 : decode cX7_init 13 = .ok (.bipush 8, 2) := by decide +kernel
theorem dX7_init_15 : decode cX7_init 15 = .ok (.iconst 3, 1) := by decide +kernel
theorem dX7_init_16 : decode cX7_init 16 = .ok (.multianewarray 15 2, 4) := by decide +kernel
theorem dX7_init_20 : decode cX7_init 20 = .ok (.putfield 17, 3) := by decide +kernel
theorem dX7_init_23 : decode cX7_init 23 = .ok (.aload_n 0, 1) := by decide +kernel
theorem dX7_init_24 : decode cX7_init 24 = .ok (.bipush 9, 2) := by decide +kernel
theorem dX7_init_26 : decode cX7_init 26 = .ok (.bipush 8, 2) := by decide +kernel
theorem dX7_init_28 : decode cX7_init 28 = .ok (.multianewarray 15 2, 4) := by decide +kernel
theorem dX7_init_32 : decode cX7_init 32 = .ok (.putfield 20, 3) := by decide +kernel
theorem dX7_init_35 : decode cX7_init 35 = .ok (.aload_n 0, 1) := by decide +kernel
theorem dX7_init_36 : decode cX7_init 36 = .ok (.sipush 256, 3) := by decide +kernel
theorem dX7_init_39 : decode cX7_init 39 = .ok (.bipush 9, 2) := by decide +kernel
theorem dX7_init_41 : decode cX7_init 41 = .ok (.multianewarray 15 2, 4) := by decide +kernel
theorem dX7_init_45 : decode cX7_init 45 = .ok (.putfield 23, 3) := by decide +kernel
theorem dX7_init_48 : decode cX7_init 48 = .ok (.return_, 1) := by decide +kernel
theorem dX7_clear_0 : decode cX7_clear 0 = .ok (.aload_n 0, 1) := by decide +kernel
theorem dX7_clear_1 : decode cX7_clear 1 = .ok (.iconst 0, 1) := by decide +kernel
theorem dX7_clear_2 : decode cX7_clear 2 = .ok (.putfield 26, 3) := by decide +kernel
theorem dX7_clear_5 : decode cX7_clear 5 = .ok (.return_, 1) := by decide +kernel
theorem dX7_add_0 : decode cX7_add 0 = .ok (.aload_n 0, 1) := by decide +kernel
theorem dX7_add_1 : decode cX7_add 1 = .ok (.getfield 26, 3) := by decide +kernel
theorem dX7_add_4 : decode cX7_add 4 = .ok (.bipush 8, 2) := by decide +kernel
theorem dX7_add_6 : decode cX7_add 6 = .ok (.if_icmp .lt 4, 3) := by decide +kernel
theorem dX7_add_9 : decode cX7_add 9 = .ok (.return_, 1) := by decide +kernel
theorem dX7_add_10 : decode cX7_add 10 = .ok (.aload_n 0, 1) := by decide +kernel
theorem dX7_add_11 : decode cX7_add 11 = .ok (.getfield 9, 3) := by decide +kernel
theorem dX7_add_14 : decode cX7_add 14 = .ok (.aload_n 0, 1) := by decide +kernel
theorem dX7_add_15 : decode cX7_add 15 = .ok (.getfield 26, 3) := by decide +kernel
theorem dX7_add_18 : decode cX7_add 18 = .ok (.iload_n 1, 1) := by decide +kernel
theorem dX7_add_19 : decode cX7_add 19 = .ok (.iastore, 1) := by decide +kernel
theorem dX7_add_20 : decode cX7_add 20 = .ok (.iconst 0, 1) := by decide +kernel
theorem dX7_add_21 : decode cX7_add 21 = .ok (.istore 4, 2) := by decide +kernel
theorem dX7_add_23 : decode cX7_add 23 = .ok (.iload 4, 2) := by decide +kernel
theorem dX7_add_25 : decode cX7_add 25 = .ok (.iconst 3, 1) := by decide +kernel
theorem dX7_add_26 : decode cX7_add 26 = .ok (.if_icmp .ge 25, 3) := by decide +kernel
theorem dX7_add_29 : decode cX7_add 29 = .ok (.aload_n 0, 1) := by decide +kernel
theorem dX7_add_30 : decode cX7_add 30 = .ok (.getfield 17, 3) := by decide +kernel
theorem dX7_add_33 : decode cX7_add 33 = .ok (.aload_n 0, 1) := by decide +kernel
theorem dX7_add_34 : decode cX7_add 34 = .ok (.getfield 26, 3) := by decide +kernel
theorem dX7_add_37 : decode cX7_add 37 = .ok (.aaload, 1) := by decide +kernel
theorem dX7_add_38 : decode cX7_add 38 = .ok (.iload 4, 2) := by decide +kernel
theorem dX7_add_40 : decode cX7_add 40 = .ok (.aload_n 2, 1) := by decide +kernel
theorem dX7_add_41 : decode cX7_add 41 = .ok (.iload 4, 2) := by decide +kernel
theorem dX7_add_43 : decode cX7_add 43 = .ok (.iaload, 1) := by decide +kernel
theorem dX7_add_44 : decode cX7_add 44 = .ok (.iastore, 1) := by decide +kernel
theorem dX7_add_45 : decode cX7_add 45 = .ok (.iinc 4 1, 3) := by decide +kernel
theorem dX7_add_48 : decode cX7_add 48 = .ok (.goto (-25), 3) := by decide +kernel
theorem dX7_add_51 : decode cX7_add 51 = .ok (.iconst 0, 1) := by decide +kernel
theorem dX7_add_52 : decode cX7_add 52 = .ok (.istore 4, 2) := by decide +kernel
theorem dX7_add_54 : decode cX7_add 54 = .ok (.iload 4, 2) := by decide +kernel
theorem dX7_add_56 : decode cX7_add 56 = .ok (.aload_n 0, 1) := by decide +kernel
theorem dX7_add_57 : decode cX7_add 57 = .ok (.getfield 26, 3) := by decide +kernel
theorem dX7_add_60 : decode cX7_add 60 = .ok (.if_icmp .ge 55, 3) := by decide +kernel
theorem dX7_add_63 : decode cX7_add 63 = .ok (.aload_n 0, 1) := by decide +kernel
theorem dX7_add_64 : decode cX7_add 64 = .ok (.getfield 20, 3) := by decide +kernel
theorem dX7_add_67 : decode cX7_add 67 = .ok (.aload_n 0, 1) := by decide +kernel
theorem dX7_add_68 : decode cX7_add 68 = .ok (.getfield 26, 3) := by decide +kernel
theorem dX7_add_71 : decode cX7_add 71 = .ok (.aaload, 1) := by decide +kernel
theorem dX7_add_72 : decode cX7_add 72 = .ok (.iload 4, 2) := by decide +kernel
theorem dX7_add_74 : decode cX7_add 74 = .ok (.aload_n 2, 1) := by decide +kernel
theorem dX7_add_75 : decode cX7_add 75 = .ok (.aload_n 0, 1) := by decide +kernel
theorem dX7_add_76 : decode cX7_add 76 = .ok (.getfield 17, 3) := by decide +kernel
theorem dX7_add_79 : decode cX7_add 79 = .ok (.iload 4, 2) := by decide +kernel
theorem dX7_add_81 : decode cX7_add 81 = .ok (.aaload, 1) := by decide +kernel
theorem dX7_add_82 : decode cX7_add 82 = .ok (.invokestatic 30, 3) := by decide +kernel
theorem dX7_add_85 : decode cX7_add 85 = .ok (.iastore, 1) := by decide +kernel
theorem dX7_add_86 : decode cX7_add 86 = .ok (.aload_n 0, 1) := by decide +kernel
theorem dX7_add_87 : decode cX7_add 87 = .ok (.getfield 20, 3) := by decide +kernel
theorem dX7_add_90 : decode cX7_add 90 = .ok (.iload 4, 2) := by decide +kernel
theorem dX7_add_92 : decode cX7_add 92 = .ok (.aaload, 1) := by decide +kernel
theorem dX7_add_93 : decode cX7_add 93 = .ok (.aload_n 0, 1) := by decide +kernel
theorem dX7_add_94 : decode cX7_add 94 = .ok (.getfield 26, 3) := by decide +kernel
theorem dX7_add_97 : decode cX7_add 97 = .ok (.aload_n 0, 1) := by decide +kernel
theorem dX7_add_98 : decode cX7_add 98 = .ok (.getfield 17, 3) := by decide +kernel
theorem dX7_add_101 : decode cX7_add 101 = .ok (.iload 4, 2) := by decide +kernel
theorem dX7_add_103 : decode cX7_add 103 = .ok (.aaload, 1) := by decide +kernel
theorem dX7_add_104 : decode cX7_add 104 = .ok (.aload_n 2, 1) := by decide +kernel
theorem dX7_add_105 : decode cX7_add 105 = .ok (.invokestatic 30, 3) := by decide +kernel
theorem dX7_add_108 : decode cX7_add 108 = .ok (.iastore, 1) := by decide +kernel
theorem dX7_add_109 : decode cX7_add 109 = .ok (.iinc 4 1, 3) := by decide +kernel
theorem dX7_add_112 : decode cX7_add 112 = .ok (.goto (-58), 3) := by decide +kernel
theorem dX7_add_115 : decode cX7_add 115 = .ok (.aload_n 0, 1) := by decide +kernel
theorem dX7_add_116 : decode cX7_add 116 = .ok (.getfield 20, 3) := by decide +kernel
theorem dX7_add_119 : decode cX7_add 119 = .ok (.bipush 8, 2) := by decide +kernel
theorem dX7_add_121 : decode cX7_add 121 = .ok (.aaload, 1) := by decide +kernel
theorem dX7_add_122 : decode cX7_add 122 = .ok (.aload_n 0, 1) := by decide +kernel
theorem dX7_add_123 : decode cX7_add 123 = .ok (.getfield 26, 3) := by decide +kernel
theorem dX7_add_126 : decode cX7_add 126 = .ok (.aload_n 3, 1) := by decide +kernel
theorem dX7_add_127 : decode cX7_add 127 = .ok (.aload_n 2, 1) := by decide +kernel
theorem dX7_add_128 : decode cX7_add 128 = .ok (.invokevirtual 36, 3) := by decide +kernel
theorem dX7_add_131 : decode cX7_add 131 = .ok (.iastore, 1) := by decide +kernel
theorem dX7_add_132 : decode cX7_add 132 = .ok (.aload_n 0, 1) := by decide +kernel
theorem dX7_add_133 : decode cX7_add 133 = .ok (.dup, 1) := by decide +kernel
theorem dX7_add_134 : decode cX7_add 134 = .ok (.getfield 26, 3) := by decide +kernel
theorem dX7_add_137 : decode cX7_add 137 = .ok (.iconst 1, 1) := by decide +kernel
theorem dX7_add_138 : decode cX7_add 138 = .ok (.iadd, 1) := by decide +kernel
theorem dX7_add_139 : decode cX7_add 139 = .ok (.putfield 26, 3) := by decide +kernel
theorem dX7_add_142 : decode cX7_add 142 = .ok (.return_, 1) := by decide +kernel
theorem dX7_leastBySets_0 : decode cX7_leastBySets 0 = .ok (.iconst 1, 1) := by decide +kernel
theorem dX7_leastBySets_1 : decode cX7_leastBySets 1 = .ok (.aload_n 0, 1) := by decide +kernel
theorem dX7_leastBySets_2 : decode cX7_leastBySets 2 = .ok (.getfield 26, 3) := by decide +kernel
theorem dX7_leastBySets_5 : decode cX7_leastBySets 5 = .ok (.ishl, 1) := by decide +kernel
theorem dX7_leastBySets_6 : decode cX7_leastBySets 6 = .ok (.istore_n 1, 1) := by decide +kernel
theorem dX7_leastBySets_7 : decode cX7_leastBySets 7 = .ok (.iconst 0, 1) := by decide +kernel
theorem dX7_leastBySets_8 : decode cX7_leastBySets 8 = .ok (.istore_n 2, 1) := by decide +kernel
theorem dX7_leastBySets_9 : decode cX7_leastBySets 9 = .ok (.iload_n 2, 1) := by decide +kernel
theorem dX7_leastBySets_10 : decode cX7_leastBySets 10 = .ok (.iload_n 1, 1) := by decide +kernel
theorem dX7_leastBySets_11 : decode cX7_leastBySets 11 = .ok (.if_icmp .ge 44, 3) := by decide +kernel
theorem dX7_leastBySets_14 : decode cX7_leastBySets 14 = .ok (.iload_n 2, 1) := by decide +kernel
theorem dX7_leastBySets_15 : decode cX7_leastBySets 15 = .ok (.sipush 256, 3) := by decide +kernel
theorem dX7_leastBySets_18 : decode cX7_leastBySets 18 = .ok (.if_icmp .ge 37, 3) := by decide +kernel
theorem dX7_leastBySets_21 : decode cX7_leastBySets 21 = .ok (.iconst 0, 1) := by decide +kernel
theorem dX7_leastBySets_22 : decode cX7_leastBySets 22 = .ok (.istore_n 3, 1) := by decide +kernel
theorem dX7_leastBySets_23 : decode cX7_leastBySets 23 = .ok (.iload_n 3, 1) := by decide +kernel
theorem dX7_leastBySets_24 : decode cX7_leastBySets 24 = .ok (.bipush 8, 2) := by decide +kernel
theorem dX7_leastBySets_26 : decode cX7_leastBySets 26 = .ok (.if_icmp .gt 23, 3) := by decide +kernel
theorem dX7_leastBySets_29 : decode cX7_leastBySets 29 = .ok (.aload_n 0, 1) := by decide +kernel
theorem dX7_leastBySets_30 : decode cX7_leastBySets 30 = .ok (.getfield 23, 3) := by decide +kernel
theorem dX7_leastBySets_33 : decode cX7_leastBySets 33 = .ok (.iload_n 2, 1) := by decide +kernel
theorem dX7_leastBySets_34 : decode cX7_leastBySets 34 = .ok (.aaload, 1) := by decide +kernel
theorem dX7_leastBySets_35 : decode cX7_leastBySets 35 = .ok (.iload_n 3, 1) := by decide +kernel
theorem dX7_leastBySets_36 : decode cX7_leastBySets 36 = .ok (.aload_n 0, 1) := by decide +kernel
theorem dX7_leastBySets_37 : decode cX7_leastBySets 37 = .ok (.iload_n 2, 1) := by decide +kernel
theorem dX7_leastBySets_38 : decode cX7_leastBySets 38 = .ok (.iload_n 3, 1) := by decide +kernel
theorem dX7_leastBySets_39 : decode cX7_leastBySets 39 = .ok (.invokevirtual 40, 3) := by decide +kernel
theorem dX7_leastBySets_42 : decode cX7_leastBySets 42 = .ok (.iastore, 1) := by decide +kernel
theorem dX7_leastBySets_43 : decode cX7_leastBySets 43 = .ok (.iinc 3 1, 3) := by decide +kernel
theorem dX7_leastBySets_46 : decode cX7_leastBySets 46 = .ok (.goto (-23), 3) := by decide +kernel
theorem dX7_leastBySets_49 : decode cX7_leastBySets 49 = .ok (.iinc 2 1, 3) := by decide +kernel
theorem dX7_leastBySets_52 : decode cX7_leastBySets 52 = .ok (.goto (-43), 3) := by decide +kernel
theorem dX7_leastBySets_55 : decode cX7_leastBySets 55 = .ok (.aload_n 0, 1) := by decide +kernel
theorem dX7_leastBySets_56 : decode cX7_leastBySets 56 = .ok (.getfield 23, 3) := by decide +kernel
theorem dX7_leastBySets_59 : decode cX7_leastBySets 59 = .ok (.iload_n 1, 1) := by decide +kernel
theorem dX7_leastBySets_60 : decode cX7_leastBySets 60 = .ok (.iconst 1, 1) := by decide +kernel
theorem dX7_leastBySets_61 : decode cX7_leastBySets 61 = .ok (.isub, 1) := by decide +kernel
theorem dX7_leastBySets_62 : decode cX7_leastBySets 62 = .ok (.sipush 255, 3) := by decide +kernel
theorem dX7_leastBySets_65 : decode cX7_leastBySets 65 = .ok (.iand, 1) := by decide +kernel
theorem dX7_leastBySets_66 : decode cX7_leastBySets 66 = .ok (.aaload, 1) := by decide +kernel
theorem dX7_leastBySets_67 : decode cX7_leastBySets 67 = .ok (.bipush 8, 2) := by decide +kernel
theorem dX7_leastBySets_69 : decode cX7_leastBySets 69 = .ok (.iaload, 1) := by decide +kernel
theorem dX7_leastBySets_70 : decode cX7_leastBySets 70 = .ok (.ireturn, 1) := by decide +kernel
theorem dX7_leastBehind_0 : decode cX7_leastBehind 0 = .ok (.iload_n 1, 1) := by decide +kernel
theorem dX7_leastBehind_1 : decode cX7_leastBehind 1 = .ok (.ifCond .ne 5, 3) := by decide +kernel
theorem dX7_leastBehind_4 : decode cX7_leastBehind 4 = .ok (.iconst 0, 1) := by decide +kernel
theorem dX7_leastBehind_5 : decode cX7_leastBehind 5 = .ok (.ireturn, 1) := by decide +kernel
theorem dX7_leastBehind_6 : decode cX7_leastBehind 6 = .ok (.ldc 44, 2) := by decide +kernel
theorem dX7_leastBehind_8 : decode cX7_leastBehind 8 = .ok (.istore_n 3, 1) := by decide +kernel
theorem dX7_leastBehind_9 : decode cX7_leastBehind 9 = .ok (.iconst 0, 1) := by decide +kernel
theorem dX7_leastBehind_10 : decode cX7_leastBehind 10 = .ok (.istore 4, 2) := by decide +kernel
theorem dX7_leastBehind_12 : decode cX7_leastBehind 12 = .ok (.iload 4, 2) := by decide +kernel
theorem dX7_leastBehind_14 : decode cX7_leastBehind 14 = .ok (.aload_n 0, 1) := by decide +kernel
theorem dX7_leastBehind_15 : decode cX7_leastBehind 15 = .ok (.getfield 26, 3) := by decide +kernel
theorem dX7_leastBehind_18 : decode cX7_leastBehind 18 = .ok (.if_icmp .ge 57, 3) := by decide +kernel
theorem dX7_leastBehind_21 : decode cX7_leastBehind 21 = .ok (.iload_n 1, 1) := by decide +kernel
theorem dX7_leastBehind_22 : decode cX7_leastBehind 22 = .ok (.iconst 1, 1) := by decide +kernel
theorem dX7_leastBehind_23 : decode cX7_leastBehind 23 = .ok (.iload 4, 2) := by decide +kernel
theorem dX7_leastBehind_25 : decode cX7_leastBehind 25 = .ok (.ishl, 1) := by decide +kernel
theorem dX7_leastBehind_26 : decode cX7_leastBehind 26 = .ok (.iand, 1) := by decide +kernel
theorem dX7_leastBehind_27 : decode cX7_leastBehind 27 = .ok (.ifCond .eq 42, 3) := by decide +kernel
theorem dX7_leastBehind_30 : decode cX7_leastBehind 30 = .ok (.iload_n 1, 1) := by decide +kernel
theorem dX7_leastBehind_31 : decode cX7_leastBehind 31 = .ok (.iconst 1, 1) := by decide +kernel
theorem dX7_leastBehind_32 : decode cX7_leastBehind 32 = .ok (.iload 4, 2) := by decide +kernel
theorem dX7_leastBehind_34 : decode cX7_leastBehind 34 = .ok (.ishl, 1) := by decide +kernel
theorem dX7_leastBehind_35 : decode cX7_leastBehind 35 = .ok (.iconst (-1), 1) := by decide +kernel
theorem dX7_leastBehind_36 : decode cX7_leastBehind 36 = .ok (.ixor, 1) := by decide +kernel
theorem dX7_leastBehind_37 : decode cX7_leastBehind 37 = .ok (.iand, 1) := by decide +kernel
theorem dX7_leastBehind_38 : decode cX7_leastBehind 38 = .ok (.sipush 255, 3) := by decide +kernel
theorem dX7_leastBehind_41 : decode cX7_leastBehind 41 = .ok (.iand, 1) := by decide +kernel
theorem dX7_leastBehind_42 : decode cX7_leastBehind 42 = .ok (.istore 5, 2) := by decide +kernel
theorem dX7_leastBehind_44 : decode cX7_leastBehind 44 = .ok (.iload_n 3, 1) := by decide +kernel
theorem dX7_leastBehind_45 : decode cX7_leastBehind 45 = .ok (.aload_n 0, 1) := by decide +kernel
theorem dX7_leastBehind_46 : decode cX7_leastBehind 46 = .ok (.getfield 20, 3) := by decide +kernel
theorem dX7_leastBehind_49 : decode cX7_leastBehind 49 = .ok (.iload_n 2, 1) := by decide +kernel
theorem dX7_leastBehind_50 : decode cX7_leastBehind 50 = .ok (.aaload, 1) := by decide +kernel
theorem dX7_leastBehind_51 : decode cX7_leastBehind 51 = .ok (.iload 4, 2) := by decide +kernel
theorem dX7_leastBehind_53 : decode cX7_leastBehind 53 = .ok (.iaload, 1) := by decide +kernel
theorem dX7_leastBehind_54 : decode cX7_leastBehind 54 = .ok (.aload_n 0, 1) := by decide +kernel
theorem dX7_leastBehind_55 : decode cX7_leastBehind 55 = .ok (.getfield 23, 3) := by decide +kernel
theorem dX7_leastBehind_58 : decode cX7_leastBehind 58 = .ok (.iload 5, 2) := by decide +kernel
theorem dX7_leastBehind_60 : decode cX7_leastBehind 60 = .ok (.aaload, 1) := by decide +kernel
theorem dX7_leastBehind_61 : decode cX7_leastBehind 61 = .ok (.iload 4, 2) := by decide +kernel
theorem dX7_leastBehind_63 : decode cX7_leastBehind 63 = .ok (.iaload, 1) := by decide +kernel
theorem dX7_leastBehind_64 : decode cX7_leastBehind 64 = .ok (.iadd, 1) := by decide +kernel
theorem dX7_leastBehind_65 : decode cX7_leastBehind 65 = .ok (.invokestatic 45, 3) := by decide +kernel
theorem dX7_leastBehind_68 : decode cX7_leastBehind 68 = .ok (.istore_n 3, 1) := by decide +kernel
theorem dX7_leastBehind_69 : decode cX7_leastBehind 69 = .ok (.iinc 4 1, 3) := by decide +kernel
theorem dX7_leastBehind_72 : decode cX7_leastBehind 72 = .ok (.goto (-60), 3) := by decide +kernel
theorem dX7_leastBehind_75 : decode cX7_leastBehind 75 = .ok (.iload_n 3, 1) := by decide +kernel
theorem dX7_leastBehind_76 : decode cX7_leastBehind 76 = .ok (.ireturn, 1) := by decide +kernel
theorem dX7_firstOfBest_0 : decode cX7_firstOfBest 0 = .ok (.aload_n 0, 1) := by decide +kernel
theorem dX7_firstOfBest_1 : decode cX7_firstOfBest 1 = .ok (.invokevirtual 50, 3) := by decide +kernel
theorem dX7_firstOfBest_4 : decode cX7_firstOfBest 4 = .ok (.istore_n 1, 1) := by decide +kernel
theorem dX7_firstOfBest_5 : decode cX7_firstOfBest 5 = .ok (.iconst 1, 1) := by decide +kernel
theorem dX7_firstOfBest_6 : decode cX7_firstOfBest 6 = .ok (.aload_n 0, 1) := by decide +kernel
theorem dX7_firstOfBest_7 : decode cX7_firstOfBest 7 = .ok (.getfield 26, 3) := by decide +kernel
theorem dX7_firstOfBest_10 : decode cX7_firstOfBest 10 = .ok (.ishl, 1) := by decide +kernel
theorem dX7_firstOfBest_11 : decode cX7_firstOfBest 11 = .ok (.iconst 1, 1) := by decide +kernel
theorem dX7_firstOfBest_12 : decode cX7_firstOfBest 12 = .ok (.isub, 1) := by decide +kernel
theorem dX7_firstOfBest_13 : decode cX7_firstOfBest 13 = .ok (.istore_n 2, 1) := by decide +kernel
theorem dX7_firstOfBest_14 : decode cX7_firstOfBest 14 = .ok (.iconst 0, 1) := by decide +kernel
theorem dX7_firstOfBest_15 : decode cX7_firstOfBest 15 = .ok (.istore_n 3, 1) := by decide +kernel
theorem dX7_firstOfBest_16 : decode cX7_firstOfBest 16 = .ok (.iload_n 3, 1) := by decide +kernel
theorem dX7_firstOfBest_17 : decode cX7_firstOfBest 17 = .ok (.aload_n 0, 1) := by decide +kernel
theorem dX7_firstOfBest_18 : decode cX7_firstOfBest 18 = .ok (.getfield 26, 3) := by decide +kernel
theorem dX7_firstOfBest_21 : decode cX7_firstOfBest 21 = .ok (.if_icmp .ge 52, 3) := by decide +kernel
theorem dX7_firstOfBest_24 : decode cX7_firstOfBest 24 = .ok (.iload_n 2, 1) := by decide +kernel
theorem dX7_firstOfBest_25 : decode cX7_firstOfBest 25 = .ok (.iconst 1, 1) := by decide +kernel
theorem dX7_firstOfBest_26 : decode cX7_firstOfBest 26 = .ok (.iload_n 3, 1) := by decide +kernel
theorem dX7_firstOfBest_27 : decode cX7_firstOfBest 27 = .ok (.ishl, 1) := by decide +kernel
theorem dX7_firstOfBest_28 : decode cX7_firstOfBest 28 = .ok (.iconst (-1), 1) := by decide +kernel
theorem dX7_firstOfBest_29 : decode cX7_firstOfBest 29 = .ok (.ixor, 1) := by decide +kernel
theorem dX7_firstOfBest_30 : decode cX7_firstOfBest 30 = .ok (.iand, 1) := by decide +kernel
theorem dX7_firstOfBest_31 : decode cX7_firstOfBest 31 = .ok (.sipush 255, 3) := by decide +kernel
theorem dX7_firstOfBest_34 : decode cX7_firstOfBest 34 = .ok (.iand, 1) := by decide +kernel
theorem dX7_firstOfBest_35 : decode cX7_firstOfBest 35 = .ok (.istore 4, 2) := by decide +kernel
theorem dX7_firstOfBest_37 : decode cX7_firstOfBest 37 = .ok (.aload_n 0, 1) := by decide +kernel
theorem dX7_firstOfBest_38 : decode cX7_firstOfBest 38 = .ok (.getfield 20, 3) := by decide +kernel
theorem dX7_firstOfBest_41 : decode cX7_firstOfBest 41 = .ok (.bipush 8, 2) := by decide +kernel
theorem dX7_firstOfBest_43 : decode cX7_firstOfBest 43 = .ok (.aaload, 1) := by decide +kernel
theorem dX7_firstOfBest_44 : decode cX7_firstOfBest 44 = .ok (.iload_n 3, 1) := by decide +kernel
theorem dX7_firstOfBest_45 : decode cX7_firstOfBest 45 = .ok (.iaload, 1) := by decide +kernel
theorem dX7_firstOfBest_46 : decode cX7_firstOfBest 46 = .ok (.aload_n 0, 1) := by decide +kernel
theorem dX7_firstOfBest_47 : decode cX7_firstOfBest 47 = .ok (.getfield 23, 3) := by decide +kernel
theorem dX7_firstOfBest_50 : decode cX7_firstOfBest 50 = .ok (.iload 4, 2) := by decide +kernel
theorem dX7_firstOfBest_52 : decode cX7_firstOfBest 52 = .ok (.aaload, 1) := by decide +kernel
theorem dX7_firstOfBest_53 : decode cX7_firstOfBest 53 = .ok (.iload_n 3, 1) := by decide +kernel
theorem dX7_firstOfBest_54 : decode cX7_firstOfBest 54 = .ok (.iaload, 1) := by decide +kernel
theorem dX7_firstOfBest_55 : decode cX7_firstOfBest 55 = .ok (.iadd, 1) := by decide +kernel
theorem dX7_firstOfBest_56 : decode cX7_firstOfBest 56 = .ok (.iload_n 1, 1) := by decide +kernel
theorem dX7_firstOfBest_57 : decode cX7_firstOfBest 57 = .ok (.if_icmp .ne 10, 3) := by decide +kernel
theorem dX7_firstOfBest_60 : decode cX7_firstOfBest 60 = .ok (.aload_n 0, 1) := by decide +kernel
theorem dX7_firstOfBest_61 : decode cX7_firstOfBest 61 = .ok (.getfield 9, 3) := by decide +kernel
theorem dX7_firstOfBest_64 : decode cX7_firstOfBest 64 = .ok (.iload_n 3, 1) := by decide +kernel
theorem dX7_firstOfBest_65 : decode cX7_firstOfBest 65 = .ok (.iaload, 1) := by decide +kernel
theorem dX7_firstOfBest_66 : decode cX7_firstOfBest 66 = .ok (.ireturn, 1) := by decide +kernel
theorem dX7_firstOfBest_67 : decode cX7_firstOfBest 67 = .ok (.iinc 3 1, 3) := by decide +kernel
theorem dX7_firstOfBest_70 : decode cX7_firstOfBest 70 = .ok (.goto (-54), 3) := by decide +kernel
theorem dX7_firstOfBest_73 : decode cX7_firstOfBest 73 = .ok (.iconst (-1), 1) := by decide +kernel
theorem dX7_firstOfBest_74 : decode cX7_firstOfBest 74 = .ok (.ireturn, 1) := by decide +kernel
theorem dX7_leastByAllOrders_0 : decode cX7_leastByAllOrders 0 = .ok (.aload_n 0, 1) := by decide +kernel
theorem dX7_leastByAllOrders_1 : decode cX7_leastByAllOrders 1 = .ok (.getfield 20, 3) := by decide +kernel
theorem dX7_leastByAllOrders_4 : decode cX7_leastByAllOrders 4 = .ok (.iconst 1, 1) := by decide +kernel
theorem dX7_leastByAllOrders_5 : decode cX7_leastByAllOrders 5 = .ok (.aload_n 0, 1) := by decide +kernel
theorem dX7_leastByAllOrders_6 : decode cX7_leastByAllOrders 6 = .ok (.getfield 26, 3) := by decide +kernel
theorem dX7_leastByAllOrders_9 : decode cX7_leastByAllOrders 9 = .ok (.ishl, 1) := by decide +kernel
theorem dX7_leastByAllOrders_10 : decode cX7_leastByAllOrders 10 = .ok (.iconst 1, 1) := by decide +kernel
theorem dX7_leastByAllOrders_11 : decode cX7_leastByAllOrders 11 = .ok (.isub, 1) := by decide +kernel
theorem dX7_leastByAllOrders_12 : decode cX7_leastByAllOrders 12 = .ok (.bipush 8, 2) := by decide +kernel
theorem dX7_leastByAllOrders_14 : decode cX7_leastByAllOrders 14 = .ok (.iconst 0, 1) := by decide +kernel
theorem dX7_leastByAllOrders_15 : decode cX7_leastByAllOrders 15 = .ok (.invokestatic 54, 3) := by decide +kernel
theorem dX7_leastByAllOrders_18 : decode cX7_leastByAllOrders 18 = .ok (.ireturn, 1) := by decide +kernel
theorem dX7_tryOrders_0 : decode cX7_tryOrders 0 = .ok (.iload_n 1, 1) := by decide +kernel
theorem dX7_tryOrders_1 : decode cX7_tryOrders 1 = .ok (.ifCond .eq 9, 3) := by decide +kernel
theorem dX7_tryOrders_4 : decode cX7_tryOrders 4 = .ok (.iload_n 3, 1) := by decide +kernel
theorem dX7_tryOrders_5 : decode cX7_tryOrders 5 = .ok (.bipush 8, 2) := by decide +kernel
theorem dX7_tryOrders_7 : decode cX7_tryOrders 7 = .ok (.if_icmp .lt 5, 3) := by decide +kernel
theorem dX7_tryOrders_10 : decode cX7_tryOrders 10 = .ok (.iconst 0, 1) := by decide +kernel
theorem dX7_tryOrders_11 : decode cX7_tryOrders 11 = .ok (.ireturn, 1) := by decide +kernel
theorem dX7_tryOrders_12 : decode cX7_tryOrders 12 = .ok (.ldc 44, 2) := by decide +kernel
theorem dX7_tryOrders_14 : decode cX7_tryOrders 14 = .ok (.istore 4, 2) := by decide +kernel
theorem dX7_tryOrders_16 : decode cX7_tryOrders 16 = .ok (.iconst 0, 1) := by decide +kernel
theorem dX7_tryOrders_17 : decode cX7_tryOrders 17 = .ok (.istore 5, 2) := by decide +kernel
theorem dX7_tryOrders_19 : decode cX7_tryOrders 19 = .ok (.iload 5, 2) := by decide +kernel
theorem dX7_tryOrders_21 : decode cX7_tryOrders 21 = .ok (.bipush 8, 2) := by decide +kernel
theorem dX7_tryOrders_23 : decode cX7_tryOrders 23 = .ok (.if_icmp .ge 53, 3) := by decide +kernel
theorem dX7_tryOrders_26 : decode cX7_tryOrders 26 = .ok (.iload_n 1, 1) := by decide +kernel
theorem dX7_tryOrders_27 : decode cX7_tryOrders 27 = .ok (.iconst 1, 1) := by decide +kernel
theorem dX7_tryOrders_28 : decode cX7_tryOrders 28 = .ok (.iload 5, 2) := by decide +kernel
theorem dX7_tryOrders_30 : decode cX7_tryOrders 30 = .ok (.ishl, 1) := by decide +kernel
theorem dX7_tryOrders_31 : decode cX7_tryOrders 31 = .ok (.iand, 1) := by decide +kernel
theorem dX7_tryOrders_32 : decode cX7_tryOrders 32 = .ok (.ifCond .eq 38, 3) := by decide +kernel
theorem dX7_tryOrders_35 : decode cX7_tryOrders 35 = .ok (.aload_n 0, 1) := by decide +kernel
theorem dX7_tryOrders_36 : decode cX7_tryOrders 36 = .ok (.iload_n 1, 1) := by decide +kernel
theorem dX7_tryOrders_37 : decode cX7_tryOrders 37 = .ok (.iconst 1, 1) := by decide +kernel
theorem dX7_tryOrders_38 : decode cX7_tryOrders 38 = .ok (.iload 5, 2) := by decide +kernel
theorem dX7_tryOrders_40 : decode cX7_tryOrders 40 = .ok (.ishl, 1) := by decide +kernel
theorem dX7_tryOrders_41 : decode cX7_tryOrders 41 = .ok (.iconst (-1), 1) := by decide +kernel
theorem dX7_tryOrders_42 : decode cX7_tryOrders 42 = .ok (.ixor, 1) := by decide +kernel
theorem dX7_tryOrders_43 : decode cX7_tryOrders 43 = .ok (.iand, 1) := by decide +kernel
theorem dX7_tryOrders_44 : decode cX7_tryOrders 44 = .ok (.iload 5, 2) := by decide +kernel
theorem dX7_tryOrders_46 : decode cX7_tryOrders 46 = .ok (.iload_n 3, 1) := by decide +kernel
theorem dX7_tryOrders_47 : decode cX7_tryOrders 47 = .ok (.iconst 1, 1) := by decide +kernel
theorem dX7_tryOrders_48 : decode cX7_tryOrders 48 = .ok (.iadd, 1) := by decide +kernel
theorem dX7_tryOrders_49 : decode cX7_tryOrders 49 = .ok (.invokestatic 54, 3) := by decide +kernel
theorem dX7_tryOrders_52 : decode cX7_tryOrders 52 = .ok (.istore 6, 2) := by decide +kernel
theorem dX7_tryOrders_54 : decode cX7_tryOrders 54 = .ok (.iload 4, 2) := by decide +kernel
theorem dX7_tryOrders_56 : decode cX7_tryOrders 56 = .ok (.aload_n 0, 1) := by decide +kernel
theorem dX7_tryOrders_57 : decode cX7_tryOrders 57 = .ok (.iload_n 2, 1) := by decide +kernel
theorem dX7_tryOrders_58 : decode cX7_tryOrders 58 = .ok (.aaload, 1) := by decide +kernel
theorem dX7_tryOrders_59 : decode cX7_tryOrders 59 = .ok (.iload 5, 2) := by decide +kernel
theorem dX7_tryOrders_61 : decode cX7_tryOrders 61 = .ok (.iaload, 1) := by decide +kernel
theorem dX7_tryOrders_62 : decode cX7_tryOrders 62 = .ok (.iload 6, 2) := by decide +kernel
theorem dX7_tryOrders_64 : decode cX7_tryOrders 64 = .ok (.iadd, 1) := by decide +kernel
theorem dX7_tryOrders_65 : decode cX7_tryOrders 65 = .ok (.invokestatic 45, 3) := by decide +kernel
theorem dX7_tryOrders_68 : decode cX7_tryOrders 68 = .ok (.istore 4, 2) := by decide +kernel
theorem dX7_tryOrders_70 : decode cX7_tryOrders 70 = .ok (.iinc 5 1, 3) := by decide +kernel
theorem dX7_tryOrders_73 : decode cX7_tryOrders 73 = .ok (.goto (-54), 3) := by decide +kernel
theorem dX7_tryOrders_76 : decode cX7_tryOrders 76 = .ok (.iload 4, 2) := by decide +kernel
theorem dX7_tryOrders_78 : decode cX7_tryOrders 78 = .ok (.ireturn, 1) := by decide +kernel
theorem dX8_init_0 : decode cX8_init 0 = .ok (.aload_n 0, 1) := by decide +kernel
theorem dX8_init_1 : decode cX8_init 1 = .ok (.invokespecial 1, 3) := by decide +kernel
theorem dX8_init_4 : decode cX8_init 4 = .ok (.aload_n 0, 1) := by decide +kernel
theorem dX8_init_5 : decode cX8_init 5 = .ok (.new 7, 3) := by decide +kernel
theorem dX8_init_8 : decode cX8_init 8 = .ok (.dup, 1) := by decide +kernel
theorem dX8_init_9 : decode cX8_init 9 = .ok (.invokespecial 9, 3) := by decide +kernel
theorem dX8_init_12 : decode cX8_init 12 = .ok (.putfield 10, 3) := by decide +kernel
theorem dX8_init_15 : decode cX8_init 15 = .ok (.aload_n 0, 1) := by decide +kernel
theorem dX8_init_16 : decode cX8_init 16 = .ok (.iconst 4, 1) := by decide +kernel
theorem dX8_init_17 : decode cX8_init 17 = .ok (.newarray .int, 2) := by decide +kernel
theorem dX8_init_19 : decode cX8_init 19 = .ok (.putfield 16, 3) := by decide +kernel
theorem dX8_init_22 : decode cX8_init 22 = .ok (.aload_n 0, 1) := by decide +kernel
theorem dX8_init_23 : decode cX8_init 23 = .ok (.new 20, 3) := by decide +kernel
theorem dX8_init_26 : decode cX8_init 26 = .ok (.dup, 1) := by decide +kernel
theorem dX8_init_27 : decode cX8_init 27 = .ok (.invokespecial 22, 3) := by decide +kernel
theorem dX8_init_30 : decode cX8_init 30 = .ok (.putfield 23, 3) := by decide +kernel
theorem dX8_init_33 : decode cX8_init 33 = .ok (.aload_n 0, 1) := by decide +kernel
theorem dX8_init_34 : decode cX8_init 34 = .ok (.bipush 16, 2) := by decide +kernel
theorem dX8_init_36 : decode cX8_init 36 = .ok (.anewarray 27, 3) := by decide +kernel
theorem dX8_init_39 : decode cX8_init 39 = .ok (.putfield 29, 3) := by decide +kernel
theorem dX8_init_42 : decode cX8_init 42 = .ok (.aload_n 0, 1) := by decide +kernel
theorem dX8_init_43 : decode cX8_init 43 = .ok (.new 33, 3) := by decide +kernel
theorem dX8_init_46 : decode cX8_init 46 = .ok (.dup, 1) := by decide +kernel
theorem dX8_init_47 : decode cX8_init 47 = .ok (.invokespecial 35, 3) := by decide +kernel
theorem dX8_init_50 : decode cX8_init 50 = .ok (.putfield 36, 3) := by decide +kernel
theorem dX8_init_53 : decode cX8_init 53 = .ok (.aload_n 0, 1) := by decide +kernel
theorem dX8_init_54 : decode cX8_init 54 = .ok (.new 40, 3) := by decide +kernel
theorem dX8_init_57 : decode cX8_init 57 = .ok (.dup, 1) := by decide +kernel
theorem dX8_init_58 : decode cX8_init 58 = .ok (.invokespecial 42, 3) := by decide +kernel
theorem dX8_init_61 : decode cX8_init 61 = .ok (.putfield 43, 3) := by decide +kernel
theorem dX8_init_64 : decode cX8_init 64 = .ok (.aload_n 0, 1) := by decide +kernel
theorem dX8_init_65 : decode cX8_init 65 = .ok (.new 47, 3) := by decide +kernel
theorem dX8_init_68 : decode cX8_init 68 = .ok (.dup, 1) := by decide +kernel
theorem dX8_init_69 : decode cX8_init 69 = .ok (.invokespecial 49, 3) := by decide +kernel
theorem dX8_init_72 : decode cX8_init 72 = .ok (.putfield 50, 3) := by decide +kernel
theorem dX8_init_75 : decode cX8_init 75 = .ok (.aload_n 0, 1) := by decide +kernel
theorem dX8_init_76 : decode cX8_init 76 = .ok (.new 54, 3) := by decide +kernel
theorem dX8_init_79 : decode cX8_init 79 = .ok (.dup, 1) := by decide +kernel
theorem dX8_init_80 : decode cX8_init 80 = .ok (.invokespecial 56, 3) := by decide +kernel
theorem dX8_init_83 : decode cX8_init 83 = .ok (.putfield 57, 3) := by decide +kernel
theorem dX8_init_86 : decode cX8_init 86 = .ok (.iconst 0, 1) := by decide +kernel
theorem dX8_init_87 : decode cX8_init 87 = .ok (.istore_n 1, 1) := by decide +kernel
theorem dX8_init_88 : decode cX8_init 88 = .ok (.iload_n 1, 1) := by decide +kernel
theorem dX8_init_89 : decode cX8_init 89 = .ok (.bipush 16, 2) := by decide +kernel
theorem dX8_init_91 : decode cX8_init 91 = .ok (.if_icmp .ge 22, 3) := by decide +kernel
theorem dX8_init_94 : decode cX8_init 94 = .ok (.aload_n 0, 1) := by decide +kernel
theorem dX8_init_95 : decode cX8_init 95 = .ok (.getfield 29, 3) := by decide +kernel
theorem dX8_init_98 : decode cX8_init 98 = .ok (.iload_n 1, 1) := by decide +kernel
theorem dX8_init_99 : decode cX8_init 99 = .ok (.new 27, 3) := by decide +kernel
theorem dX8_init_102 : decode cX8_init 102 = .ok (.dup, 1) := by decide +kernel
theorem dX8_init_103 : decode cX8_init 103 = .ok (.invokespecial 61, 3) := by decide +kernel
theorem dX8_init_106 : decode cX8_init 106 = .ok (.aastore, 1) := by decide +kernel
theorem dX8_init_107 : decode cX8_init 107 = .ok (.iinc 1 1, 3) := by decide +kernel
theorem dX8_init_110 : decode cX8_init 110 = .ok (.goto (-22), 3) := by decide +kernel
theorem dX8_init_113 : decode cX8_init 113 = .ok (.return_, 1) := by decide +kernel
theorem dX8_buy_0 : decode cX8_buy 0 = .ok (.iload_n 1, 1) := by decide +kernel
theorem dX8_buy_1 : decode cX8_buy 1 = .ok (.invokestatic 62, 3) := by decide +kernel
theorem dX8_buy_4 : decode cX8_buy 4 = .ok (.ifCond .eq 14, 3) := by decide +kernel
theorem dX8_buy_7 : decode cX8_buy 7 = .ok (.iload_n 2, 1) := by decide +kernel
theorem dX8_buy_8 : decode cX8_buy 8 = .ok (.iconst 1, 1) := by decide +kernel
theorem dX8_buy_9 : decode cX8_buy 9 = .ok (.sipush 5000, 3) := by decide +kernel
theorem dX8_buy_12 : decode cX8_buy 12 = .ok (.invokestatic 88, 3) := by decide +kernel
theorem dX8_buy_15 : decode cX8_buy 15 = .ok (.ifCond .ne 11, 3) := by decide +kernel
theorem dX8_buy_18 : decode cX8_buy 18 = .ok (.new 70, 3) := by decide +kernel
theorem dX8_buy_21 : decode cX8_buy 21 = .ok (.dup, 1) := by decide +kernel
theorem dX8_buy_22 : decode cX8_buy 22 = .ok (.invokespecial 72, 3) := by decide +kernel
theorem dX8_buy_25 : decode cX8_buy 25 = .ok (.athrow, 1) := by decide +kernel
theorem dX8_buy_26 : decode cX8_buy 26 = .ok (.aload_n 0, 1) := by decide +kernel
theorem dX8_buy_27 : decode cX8_buy 27 = .ok (.getfield 16, 3) := by decide +kernel
theorem dX8_buy_30 : decode cX8_buy 30 = .ok (.iload_n 1, 1) := by decide +kernel
theorem dX8_buy_31 : decode cX8_buy 31 = .ok (.iaload, 1) := by decide +kernel
theorem dX8_buy_32 : decode cX8_buy 32 = .ok (.iload_n 2, 1) := by decide +kernel
theorem dX8_buy_33 : decode cX8_buy 33 = .ok (.iadd, 1) := by decide +kernel
theorem dX8_buy_34 : decode cX8_buy 34 = .ok (.ldc 91, 2) := by decide +kernel
theorem dX8_buy_36 : decode cX8_buy 36 = .ok (.if_icmp .le 11, 3) := by decide +kernel
theorem dX8_buy_39 : decode cX8_buy 39 = .ok (.new 77, 3) := by decide +kernel
theorem dX8_buy_42 : decode cX8_buy 42 = .ok (.dup, 1) := by decide +kernel
theorem dX8_buy_43 : decode cX8_buy 43 = .ok (.invokespecial 79, 3) := by decide +kernel
theorem dX8_buy_46 : decode cX8_buy 46 = .ok (.athrow, 1) := by decide +kernel
theorem dX8_buy_47 : decode cX8_buy 47 = .ok (.aload_n 0, 1) := by decide +kernel
theorem dX8_buy_48 : decode cX8_buy 48 = .ok (.getfield 16, 3) := by decide +kernel
theorem dX8_buy_51 : decode cX8_buy 51 = .ok (.iload_n 1, 1) := by decide +kernel
theorem dX8_buy_52 : decode cX8_buy 52 = .ok (.dup2, 1) := by decide +kernel
theorem dX8_buy_53 : decode cX8_buy 53 = .ok (.iaload, 1) := by decide +kernel
theorem dX8_buy_54 : decode cX8_buy 54 = .ok (.iload_n 2, 1) := by decide +kernel
theorem dX8_buy_55 : decode cX8_buy 55 = .ok (.iadd, 1) := by decide +kernel
theorem dX8_buy_56 : decode cX8_buy 56 = .ok (.iastore, 1) := by decide +kernel
theorem dX8_buy_57 : decode cX8_buy 57 = .ok (.aload_n 0, 1) := by decide +kernel
theorem dX8_buy_58 : decode cX8_buy 58 = .ok (.getfield 10, 3) := by decide +kernel
theorem dX8_buy_61 : decode cX8_buy 61 = .ok (.getfield 92, 3) := by decide +kernel
theorem dX8_buy_64 : decode cX8_buy 64 = .ok (.getfield 95, 3) := by decide +kernel
theorem dX8_buy_67 : decode cX8_buy 67 = .ok (.iload_n 1, 1) := by decide +kernel
theorem dX8_buy_68 : decode cX8_buy 68 = .ok (.dup2, 1) := by decide +kernel
theorem dX8_buy_69 : decode cX8_buy 69 = .ok (.iaload, 1) := by decide +kernel
theorem dX8_buy_70 : decode cX8_buy 70 = .ok (.iload_n 2, 1) := by decide +kernel
theorem dX8_buy_71 : decode cX8_buy 71 = .ok (.sipush 1000, 3) := by decide +kernel
theorem dX8_buy_74 : decode cX8_buy 74 = .ok (.imul, 1) := by decide +kernel
theorem dX8_buy_75 : decode cX8_buy 75 = .ok (.iadd, 1) := by decide +kernel
theorem dX8_buy_76 : decode cX8_buy 76 = .ok (.iastore, 1) := by decide +kernel
theorem dX8_buy_77 : decode cX8_buy 77 = .ok (.aload_n 0, 1) := by decide +kernel
theorem dX8_buy_78 : decode cX8_buy 78 = .ok (.getfield 10, 3) := by decide +kernel
theorem dX8_buy_81 : decode cX8_buy 81 = .ok (.getfield 92, 3) := by decide +kernel
theorem dX8_buy_84 : decode cX8_buy 84 = .ok (.getfield 95, 3) := by decide +kernel
theorem dX8_buy_87 : decode cX8_buy 87 = .ok (.iload_n 1, 1) := by decide +kernel
theorem dX8_buy_88 : decode cX8_buy 88 = .ok (.iaload, 1) := by decide +kernel
theorem dX8_buy_89 : decode cX8_buy 89 = .ok (.ireturn, 1) := by decide +kernel
theorem dX8_job_0 : decode cX8_job 0 = .ok (.iload_n 1, 1) := by decide +kernel
theorem dX8_job_1 : decode cX8_job 1 = .ok (.iload_n 2, 1) := by decide +kernel
theorem dX8_job_2 : decode cX8_job 2 = .ok (.iload_n 3, 1) := by decide +kernel
theorem dX8_job_3 : decode cX8_job 3 = .ok (.invokestatic 66, 3) := by decide +kernel
theorem dX8_job_6 : decode cX8_job 6 = .ok (.ifCond .eq 23, 3) := by decide +kernel
theorem dX8_job_9 : decode cX8_job 9 = .ok (.iload 4, 2) := by decide +kernel
theorem dX8_job_11 : decode cX8_job 11 = .ok (.invokestatic 98, 3) := by decide +kernel
theorem dX8_job_14 : decode cX8_job 14 = .ok (.ifCond .eq 15, 3) := by decide +kernel
theorem dX8_job_17 : decode cX8_job 17 = .ok (.iload 5, 2) := by decide +kernel
theorem dX8_job_19 : decode cX8_job 19 = .ok (.iconst 0, 1) := by decide +kernel
theorem dX8_job_20 : decode cX8_job 20 = .ok (.sipush 300, 3) := by decide +kernel
theorem dX8_job_23 : decode cX8_job 23 = .ok (.invokestatic 88, 3) := by decide +kernel
theorem dX8_job_26 : decode cX8_job 26 = .ok (.ifCond .ne 11, 3) := by decide +kernel
theorem dX8_job_29 : decode cX8_job 29 = .ok (.new 70, 3) := by decide +kernel
theorem dX8_job_32 : decode cX8_job 32 = .ok (.dup, 1) := by decide +kernel
theorem dX8_job_33 : decode cX8_job 33 = .ok (.invokespecial 72, 3) := by decide +kernel
theorem dX8_job_36 : decode cX8_job 36 = .ok (.athrow, 1) := by decide +kernel
theorem dX8_job_37 : decode cX8_job 37 = .ok (.aload_n 0, 1) := by decide +kernel
theorem dX8_job_38 : decode cX8_job 38 = .ok (.getfield 101, 3) := by decide +kernel
theorem dX8_job_41 : decode cX8_job 41 = .ok (.bipush 16, 2) := by decide +kernel
theorem dX8_job_43 : decode cX8_job 43 = .ok (.if_icmp .lt 11, 3) := by decide +kernel
theorem dX8_job_46 : decode cX8_job 46 = .ok (.new 77, 3) := by decide +kernel
theorem dX8_job_49 : decode cX8_job 49 = .ok (.dup, 1) := by decide +kernel
theorem dX8_job_50 : decode cX8_job 50 = .ok (.invokespecial 79, 3) := by decide +kernel
theorem dX8_job_53 : decode cX8_job 53 = .ok (.athrow, 1) := by decide +kernel
theorem dX8_job_54 : decode cX8_job 54 = .ok (.aload_n 0, 1) := by decide +kernel
theorem dX8_job_55 : decode cX8_job 55 = .ok (.getfield 29, 3) := by decide +kernel
theorem dX8_job_58 : decode cX8_job 58 = .ok (.aload_n 0, 1) := by decide +kernel
theorem dX8_job_59 : decode cX8_job 59 = .ok (.getfield 101, 3) := by decide +kernel
theorem dX8_job_62 : decode cX8_job 62 = .ok (.aaload, 1) := by decide +kernel
theorem dX8_job_63 : decode cX8_job 63 = .ok (.astore 6, 2) := by decide +kernel
theorem dX8_job_65 : decode cX8_job 65 = .ok (.aload 6, 2) := by decide +kernel
theorem dX8_job_67 : decode cX8_job 67 = .ok (.getfield 105, 3) := by decide +kernel
theorem dX8_job_70 : decode cX8_job 70 = .ok (.iload_n 1, 1) := by decide +kernel
theorem dX8_job_71 : decode cX8_job 71 = .ok (.iload_n 2, 1) := by decide +kernel
theorem dX8_job_72 : decode cX8_job 72 = .ok (.iload_n 3, 1) := by decide +kernel
theorem dX8_job_73 : decode cX8_job 73 = .ok (.invokestatic 84, 3) := by decide +kernel
theorem dX8_job_76 : decode cX8_job 76 = .ok (.aload 6, 2) := by decide +kernel
theorem dX8_job_78 : decode cX8_job 78 = .ok (.iload 4, 2) := by decide +kernel
theorem dX8_job_80 : decode cX8_job 80 = .ok (.putfield 108, 3) := by decide +kernel
theorem dX8_job_83 : decode cX8_job 83 = .ok (.aload 6, 2) := by decide +kernel
theorem dX8_job_85 : decode cX8_job 85 = .ok (.iload 5, 2) := by decide +kernel
theorem dX8_job_87 : decode cX8_job 87 = .ok (.putfield 111, 3) := by decide +kernel
theorem dX8_job_90 : decode cX8_job 90 = .ok (.aload_n 0, 1) := by decide +kernel
theorem dX8_job_91 : decode cX8_job 91 = .ok (.dup, 1) := by decide +kernel
theorem dX8_job_92 : decode cX8_job 92 = .ok (.getfield 101, 3) := by decide +kernel
theorem dX8_job_95 : decode cX8_job 95 = .ok (.iconst 1, 1) := by decide +kernel
theorem dX8_job_96 : decode cX8_job 96 = .ok (.iadd, 1) := by decide +kernel
theorem dX8_job_97 : decode cX8_job 97 = .ok (.putfield 101, 3) := by decide +kernel
theorem dX8_job_100 : decode cX8_job 100 = .ok (.aload_n 0, 1) := by decide +kernel
theorem dX8_job_101 : decode cX8_job 101 = .ok (.getfield 101, 3) := by decide +kernel
theorem dX8_job_104 : decode cX8_job 104 = .ok (.iconst 1, 1) := by decide +kernel
theorem dX8_job_105 : decode cX8_job 105 = .ok (.isub, 1) := by decide +kernel
theorem dX8_job_106 : decode cX8_job 106 = .ok (.ireturn, 1) := by decide +kernel
theorem dX8_recipe_0 : decode cX8_recipe 0 = .ok (.aload_n 0, 1) := by decide +kernel
theorem dX8_recipe_1 : decode cX8_recipe 1 = .ok (.iload_n 1, 1) := by decide +kernel
theorem dX8_recipe_2 : decode cX8_recipe 2 = .ok (.invokevirtual 114, 3) := by decide +kernel
theorem dX8_recipe_5 : decode cX8_recipe 5 = .ok (.astore_n 3, 1) := by decide +kernel
theorem dX8_recipe_6 : decode cX8_recipe 6 = .ok (.iload_n 2, 1) := by decide +kernel
theorem dX8_recipe_7 : decode cX8_recipe 7 = .ok (.iconst 0, 1) := by decide +kernel
theorem dX8_recipe_8 : decode cX8_recipe 8 = .ok (.bipush 6, 2) := by decide +kernel
theorem dX8_recipe_10 : decode cX8_recipe 10 = .ok (.invokestatic 88, 3) := by decide +kernel
theorem dX8_recipe_13 : decode cX8_recipe 13 = .ok (.ifCond .ne 11, 3) := by decide +kernel
theorem dX8_recipe_16 : decode cX8_recipe 16 = .ok (.new 70, 3) := by decide +kernel
theorem dX8_recipe_19 : decode cX8_recipe 19 = .ok (.dup, 1) := by decide +kernel
theorem dX8_recipe_20 : decode cX8_recipe 20 = .ok (.invokespecial 72, 3) := by decide +kernel
theorem dX8_recipe_23 : decode cX8_recipe 23 = .ok (.athrow, 1) := by decide +kernel
theorem dX8_recipe_24 : decode cX8_recipe 24 = .ok (.aload_n 3, 1) := by decide +kernel
theorem dX8_recipe_25 : decode cX8_recipe 25 = .ok (.getfield 118, 3) := by decide +kernel
theorem dX8_recipe_28 : decode cX8_recipe 28 = .ok (.ifCond .ne 18, 3) := by decide +kernel
theorem dX8_recipe_31 : decode cX8_recipe 31 = .ok (.aload_n 0, 1) := by decide +kernel
theorem dX8_recipe_32 : decode cX8_recipe 32 = .ok (.getfield 50, 3) := by decide +kernel
theorem dX8_recipe_35 : decode cX8_recipe 35 = .ok (.aload_n 3, 1) := by decide +kernel
theorem dX8_recipe_36 : decode cX8_recipe 36 = .ok (.aload_n 0, 1) := by decide +kernel
theorem dX8_recipe_37 : decode cX8_recipe 37 = .ok (.getfield 10, 3) := by decide +kernel
theorem dX8_recipe_40 : decode cX8_recipe 40 = .ok (.invokevirtual 121, 3) := by decide +kernel
theorem dX8_recipe_43 : decode cX8_recipe 43 = .ok (.ifCond .ne 11, 3) := by decide +kernel
theorem dX8_recipe_46 : decode cX8_recipe 46 = .ok (.new 77, 3) := by decide +kernel
theorem dX8_recipe_49 : decode cX8_recipe 49 = .ok (.dup, 1) := by decide +kernel
theorem dX8_recipe_50 : decode cX8_recipe 50 = .ok (.invokespecial 79, 3) := by decide +kernel
theorem dX8_recipe_53 : decode cX8_recipe 53 = .ok (.athrow, 1) := by decide +kernel
theorem dX8_recipe_54 : decode cX8_recipe 54 = .ok (.aload_n 0, 1) := by decide +kernel
theorem dX8_recipe_55 : decode cX8_recipe 55 = .ok (.getfield 50, 3) := by decide +kernel
theorem dX8_recipe_58 : decode cX8_recipe 58 = .ok (.getfield 125, 3) := by decide +kernel
theorem dX8_recipe_61 : decode cX8_recipe 61 = .ok (.iload_n 2, 1) := by decide +kernel
theorem dX8_recipe_62 : decode cX8_recipe 62 = .ok (.invokevirtual 129, 3) := by decide +kernel
theorem dX8_recipe_65 : decode cX8_recipe 65 = .ok (.ireturn, 1) := by decide +kernel
theorem dX8_mix_0 : decode cX8_mix 0 = .ok (.aload_n 0, 1) := by decide +kernel
theorem dX8_mix_1 : decode cX8_mix 1 = .ok (.iload_n 1, 1) := by decide +kernel
theorem dX8_mix_2 : decode cX8_mix 2 = .ok (.invokevirtual 114, 3) := by decide +kernel
theorem dX8_mix_5 : decode cX8_mix 5 = .ok (.astore_n 2, 1) := by decide +kernel
theorem dX8_mix_6 : decode cX8_mix 6 = .ok (.aload_n 2, 1) := by decide +kernel
theorem dX8_mix_7 : decode cX8_mix 7 = .ok (.getfield 118, 3) := by decide +kernel
theorem dX8_mix_10 : decode cX8_mix 10 = .ok (.ifCond .ne 27, 3) := by decide +kernel
theorem dX8_mix_13 : decode cX8_mix 13 = .ok (.aload_n 0, 1) := by decide +kernel
theorem dX8_mix_14 : decode cX8_mix 14 = .ok (.invokevirtual 135, 3) := by decide +kernel
theorem dX8_mix_17 : decode cX8_mix 17 = .ok (.bipush 8, 2) := by decide +kernel
theorem dX8_mix_19 : decode cX8_mix 19 = .ok (.if_icmp .ge 18, 3) := by decide +kernel
theorem dX8_mix_22 : decode cX8_mix 22 = .ok (.aload_n 0, 1) := by decide +kernel
theorem dX8_mix_23 : decode cX8_mix 23 = .ok (.getfield 50, 3) := by decide +kernel
theorem dX8_mix_26 : decode cX8_mix 26 = .ok (.aload_n 2, 1) := by decide +kernel
theorem dX8_mix_27 : decode cX8_mix 27 = .ok (.aload_n 0, 1) := by decide +kernel
theorem dX8_mix_28 : decode cX8_mix 28 = .ok (.getfield 10, 3) := by decide +kernel
theorem dX8_mix_31 : decode cX8_mix 31 = .ok (.invokevirtual 121, 3) := by decide +kernel
theorem dX8_mix_34 : decode cX8_mix 34 = .ok (.ifCond .ne 11, 3) := by decide +kernel
theorem dX8_mix_37 : decode cX8_mix 37 = .ok (.new 77, 3) := by decide +kernel
theorem dX8_mix_40 : decode cX8_mix 40 = .ok (.dup, 1) := by decide +kernel
theorem dX8_mix_41 : decode cX8_mix 41 = .ok (.invokespecial 79, 3) := by decide +kernel
theorem dX8_mix_44 : decode cX8_mix 44 = .ok (.athrow, 1) := by decide +kernel
theorem dX8_mix_45 : decode cX8_mix 45 = .ok (.aload_n 0, 1) := by decide +kernel
theorem dX8_mix_46 : decode cX8_mix 46 = .ok (.aload_n 2, 1) := by decide +kernel
theorem dX8_mix_47 : decode cX8_mix 47 = .ok (.aload_n 0, 1) := by decide +kernel
theorem dX8_mix_48 : decode cX8_mix 48 = .ok (.getfield 50, 3) := by decide +kernel
theorem dX8_mix_51 : decode cX8_mix 51 = .ok (.getfield 125, 3) := by decide +kernel
theorem dX8_mix_54 : decode cX8_mix 54 = .ok (.invokevirtual 139, 3) := by decide +kernel
theorem dX8_mix_57 : decode cX8_mix 57 = .ok (.iconst 0, 1) := by decide +kernel
theorem dX8_mix_58 : decode cX8_mix 58 = .ok (.istore_n 3, 1) := by decide +kernel
theorem dX8_mix_59 : decode cX8_mix 59 = .ok (.iload_n 3, 1) := by decide +kernel
theorem dX8_mix_60 : decode cX8_mix 60 = .ok (.iconst 3, 1) := by decide +kernel
theorem dX8_mix_61 : decode cX8_mix 61 = .ok (.if_icmp .ge 27, 3) := by decide +kernel
theorem dX8_mix_64 : decode cX8_mix 64 = .ok (.aload_n 2, 1) := by decide +kernel
theorem dX8_mix_65 : decode cX8_mix 65 = .ok (.getfield 143, 3) := by decide +kernel
theorem dX8_mix_68 : decode cX8_mix 68 = .ok (.iload_n 3, 1) := by decide +kernel
theorem dX8_mix_69 : decode cX8_mix 69 = .ok (.aload_n 0, 1) := by decide +kernel
theorem dX8_mix_70 : decode cX8_mix 70 = .ok (.getfield 10, 3) := by decide +kernel
theorem dX8_mix_73 : decode cX8_mix 73 = .ok (.aload_n 2, 1) := by decide +kernel
theorem dX8_mix_74 : decode cX8_mix 74 = .ok (.getfield 146, 3) := by decide +kernel
theorem dX8_mix_77 : decode cX8_mix 77 = .ok (.iload_n 3, 1) := by decide +kernel
theorem dX8_mix_78 : decode cX8_mix 78 = .ok (.invokevirtual 149, 3) := by decide +kernel
theorem dX8_mix_81 : decode cX8_mix 81 = .ok (.iastore, 1) := by decide +kernel
theorem dX8_mix_82 : decode cX8_mix 82 = .ok (.iinc 3 1, 3) := by decide +kernel
theorem dX8_mix_85 : decode cX8_mix 85 = .ok (.goto (-26), 3) := by decide +kernel
theorem dX8_mix_88 : decode cX8_mix 88 = .ok (.aload_n 2, 1) := by decide +kernel
theorem dX8_mix_89 : decode cX8_mix 89 = .ok (.iconst 1, 1) := by decide +kernel
theorem dX8_mix_90 : decode cX8_mix 90 = .ok (.putfield 118, 3) := by decide +kernel
theorem dX8_mix_93 : decode cX8_mix 93 = .ok (.aload_n 0, 1) := by decide +kernel
theorem dX8_mix_94 : decode cX8_mix 94 = .ok (.iconst 1, 1) := by decide +kernel
theorem dX8_mix_95 : decode cX8_mix 95 = .ok (.putfield 73, 3) := by decide +kernel
theorem dX8_mix_98 : decode cX8_mix 98 = .ok (.aload_n 0, 1) := by decide +kernel
theorem dX8_mix_99 : decode cX8_mix 99 = .ok (.getfield 50, 3) := by decide +kernel
theorem dX8_mix_102 : decode cX8_mix 102 = .ok (.getfield 125, 3) := by decide +kernel
theorem dX8_mix_105 : decode cX8_mix 105 = .ok (.getfield 153, 3) := by decide +kernel
theorem dX8_mix_108 : decode cX8_mix 108 = .ok (.ireturn, 1) := by decide +kernel
theorem dX8_print_0 : decode cX8_print 0 = .ok (.aload_n 0, 1) := by decide +kernel
theorem dX8_print_1 : decode cX8_print 1 = .ok (.iload_n 1, 1) := by decide +kernel
theorem dX8_print_2 : decode cX8_print 2 = .ok (.invokevirtual 114, 3) := by decide +kernel
theorem dX8_print_5 : decode cX8_print 5 = .ok (.astore 4, 2) := by decide +kernel
theorem dX8_print_7 : decode cX8_print 7 = .ok (.iload_n 2, 1) := by decide +kernel
theorem dX8_print_8 : decode cX8_print 8 = .ok (.iconst 1, 1) := by decide +kernel
theorem dX8_print_9 : decode cX8_print 9 = .ok (.aload 4, 2) := by decide +kernel
theorem dX8_print_11 : decode cX8_print 11 = .ok (.getfield 108, 3) := by decide +kernel
theorem dX8_print_14 : decode cX8_print 14 = .ok (.invokestatic 88, 3) := by decide +kernel
theorem dX8_print_17 : decode cX8_print 17 = .ok (.ifCond .ne 11, 3) := by decide +kernel
theorem dX8_print_20 : decode cX8_print 20 = .ok (.new 70, 3) := by decide +kernel
theorem dX8_print_23 : decode cX8_print 23 = .ok (.dup, 1) := by decide +kernel
theorem dX8_print_24 : decode cX8_print 24 = .ok (.invokespecial 72, 3) := by decide +kernel
theorem dX8_print_27 : decode cX8_print 27 = .ok (.athrow, 1) := by decide +kernel
theorem dX8_print_28 : decode cX8_print 28 = .ok (.iload_n 2, 1) := by decide +kernel
theorem dX8_print_29 : decode cX8_print 29 = .ok (.aload 4, 2) := by decide +kernel
theorem dX8_print_31 : decode cX8_print 31 = .ok (.getfield 108, 3) := by decide +kernel
theorem dX8_print_34 : decode cX8_print 34 = .ok (.if_icmp .ge 7, 3) := by decide +kernel
theorem dX8_print_37 : decode cX8_print 37 = .ok (.iconst 1, 1) := by decide +kernel
theorem dX8_print_38 : decode cX8_print 38 = .ok (.goto 4, 3) := by decide +kernel
theorem dX8_print_41 : decode cX8_print 41 = .ok (.iconst 0, 1) := by decide +kernel
theorem dX8_print_42 : decode cX8_print 42 = .ok (.istore 5, 2) := by decide +kernel
theorem dX8_print_44 : decode cX8_print 44 = .ok (.aload 4, 2) := by decide +kernel
theorem dX8_print_46 : decode cX8_print 46 = .ok (.getfield 118, 3) := by decide +kernel
theorem dX8_print_49 : decode cX8_print 49 = .ok (.iconst 1, 1) := by decide +kernel
theorem dX8_print_50 : decode cX8_print 50 = .ok (.if_icmp .ne 20, 3) := by decide +kernel
theorem dX8_print_53 : decode cX8_print 53 = .ok (.iload 5, 2) := by decide +kernel
theorem dX8_print_55 : decode cX8_print 55 = .ok (.ifCond .eq 23, 3) := by decide +kernel
theorem dX8_print_58 : decode cX8_print 58 = .ok (.aload_n 0, 1) := by decide +kernel
theorem dX8_print_59 : decode cX8_print 59 = .ok (.getfield 10, 3) := by decide +kernel
theorem dX8_print_62 : decode cX8_print 62 = .ok (.getfield 154, 3) := by decide +kernel
theorem dX8_print_65 : decode cX8_print 65 = .ok (.bipush 30, 2) := by decide +kernel
theorem dX8_print_67 : decode cX8_print 67 = .ok (.if_icmp .lt 11, 3) := by decide +kernel
theorem dX8_print_70 : decode cX8_print 70 = .ok (.new 77, 3) := by decide +kernel
theorem dX8_print_73 : decode cX8_print 73 = .ok (.dup, 1) := by decide +kernel
theorem dX8_print_74 : decode cX8_print 74 = .ok (.invokespecial 79, 3) := by decide +kernel
theorem dX8_print_77 : decode cX8_print 77 = .ok (.athrow, 1) := by decide +kernel
theorem dX8_print_78 : decode cX8_print 78 = .ok (.aload_n 0, 1) := by decide +kernel
theorem dX8_print_79 : decode cX8_print 79 = .ok (.getfield 43, 3) := by decide +kernel
theorem dX8_print_82 : decode cX8_print 82 = .ok (.aload 4, 2) := by decide +kernel
theorem dX8_print_84 : decode cX8_print 84 = .ok (.getfield 146, 3) := by decide +kernel
theorem dX8_print_87 : decode cX8_print 87 = .ok (.iload_n 2, 1) := by decide +kernel
theorem dX8_print_88 : decode cX8_print 88 = .ok (.aload_n 0, 1) := by decide +kernel
theorem dX8_print_89 : decode cX8_print 89 = .ok (.getfield 23, 3) := by decide +kernel
theorem dX8_print_92 : decode cX8_print 92 = .ok (.invokevirtual 157, 3) := by decide +kernel
theorem dX8_print_95 : decode cX8_print 95 = .ok (.aload_n 0, 1) := by decide +kernel
theorem dX8_print_96 : decode cX8_print 96 = .ok (.getfield 36, 3) := by decide +kernel
theorem dX8_print_99 : decode cX8_print 99 = .ok (.aload 4, 2) := by decide +kernel
theorem dX8_print_101 : decode cX8_print 101 = .ok (.getfield 143, 3) := by decide +kernel
theorem dX8_print_104 : decode cX8_print 104 = .ok (.iload_n 2, 1) := by decide +kernel
theorem dX8_print_105 : decode cX8_print 105 = .ok (.invokevirtual 161, 3) := by decide +kernel
theorem dX8_print_108 : decode cX8_print 108 = .ok (.aload 4, 2) := by decide +kernel
theorem dX8_print_110 : decode cX8_print 110 = .ok (.iconst 2, 1) := by decide +kernel
theorem dX8_print_111 : decode cX8_print 111 = .ok (.putfield 118, 3) := by decide +kernel
theorem dX8_print_114 : decode cX8_print 114 = .ok (.aload 4, 2) := by decide +kernel
theorem dX8_print_116 : decode cX8_print 116 = .ok (.iload_n 3, 1) := by decide +kernel
theorem dX8_print_117 : decode cX8_print 117 = .ok (.putfield 165, 3) := by decide +kernel
theorem dX8_print_120 : decode cX8_print 120 = .ok (.aload 4, 2) := by decide +kernel
theorem dX8_print_122 : decode cX8_print 122 = .ok (.aload_n 0, 1) := by decide +kernel
theorem dX8_print_123 : decode cX8_print 123 = .ok (.getfield 168, 3) := by decide +kernel
theorem dX8_print_126 : decode cX8_print 126 = .ok (.putfield 171, 3) := by decide +kernel
theorem dX8_print_129 : decode cX8_print 129 = .ok (.iload 5, 2) := by decide +kernel
theorem dX8_print_131 : decode cX8_print 131 = .ok (.ifCond .eq 18, 3) := by decide +kernel
theorem dX8_print_134 : decode cX8_print 134 = .ok (.aload_n 0, 1) := by decide +kernel
theorem dX8_print_135 : decode cX8_print 135 = .ok (.getfield 10, 3) := by decide +kernel
theorem dX8_print_138 : decode cX8_print 138 = .ok (.aload 4, 2) := by decide +kernel
theorem dX8_print_140 : decode cX8_print 140 = .ok (.getfield 146, 3) := by decide +kernel
theorem dX8_print_143 : decode cX8_print 143 = .ok (.invokevirtual 174, 3) := by decide +kernel
theorem dX8_print_146 : decode cX8_print 146 = .ok (.goto 4, 3) := by decide +kernel
theorem dX8_print_149 : decode cX8_print 149 = .ok (.iconst (-1), 1) := by decide +kernel
theorem dX8_print_150 : decode cX8_print 150 = .ok (.ireturn, 1) := by decide +kernel
theorem dX8_pass_0 : decode cX8_pass 0 = .ok (.iload_n 1, 1) := by decide +kernel
theorem dX8_pass_1 : decode cX8_pass 1 = .ok (.iconst 1, 1) := by decide +kernel
theorem dX8_pass_2 : decode cX8_pass 2 = .ok (.bipush 100, 2) := by decide +kernel
theorem dX8_pass_4 : decode cX8_pass 4 = .ok (.invokestatic 88, 3) := by decide +kernel
theorem dX8_pass_7 : decode cX8_pass 7 = .ok (.ifCond .ne 11, 3) := by decide +kernel
theorem dX8_pass_10 : decode cX8_pass 10 = .ok (.new 70, 3) := by decide +kernel
theorem dX8_pass_13 : decode cX8_pass 13 = .ok (.dup, 1) := by decide +kernel
theorem dX8_pass_14 : decode cX8_pass 14 = .ok (.invokespecial 72, 3) := by decide +kernel
theorem dX8_pass_17 : decode cX8_pass 17 = .ok (.athrow, 1) := by decide +kernel
theorem dX8_pass_18 : decode cX8_pass 18 = .ok (.aload_n 0, 1) := by decide +kernel
theorem dX8_pass_19 : decode cX8_pass 19 = .ok (.getfield 168, 3) := by decide +kernel
theorem dX8_pass_22 : decode cX8_pass 22 = .ok (.iload_n 1, 1) := by decide +kernel
theorem dX8_pass_23 : decode cX8_pass 23 = .ok (.iadd, 1) := by decide +kernel
theorem dX8_pass_24 : decode cX8_pass 24 = .ok (.sipush 10000, 3) := by decide +kernel
theorem dX8_pass_27 : decode cX8_pass 27 = .ok (.if_icmp .le 11, 3) := by decide +kernel
theorem dX8_pass_30 : decode cX8_pass 30 = .ok (.new 77, 3) := by decide +kernel
theorem dX8_pass_33 : decode cX8_pass 33 = .ok (.dup, 1) := by decide +kernel
theorem dX8_pass_34 : decode cX8_pass 34 = .ok (.invokespecial 79, 3) := by decide +kernel
theorem dX8_pass_37 : decode cX8_pass 37 = .ok (.athrow, 1) := by decide +kernel
theorem dX8_pass_38 : decode cX8_pass 38 = .ok (.aload_n 0, 1) := by decide +kernel
theorem dX8_pass_39 : decode cX8_pass 39 = .ok (.dup, 1) := by decide +kernel
theorem dX8_pass_40 : decode cX8_pass 40 = .ok (.getfield 168, 3) := by decide +kernel
theorem dX8_pass_43 : decode cX8_pass 43 = .ok (.iload_n 1, 1) := by decide +kernel
theorem dX8_pass_44 : decode cX8_pass 44 = .ok (.iadd, 1) := by decide +kernel
theorem dX8_pass_45 : decode cX8_pass 45 = .ok (.putfield 168, 3) := by decide +kernel
theorem dX8_pass_48 : decode cX8_pass 48 = .ok (.aload_n 0, 1) := by decide +kernel
theorem dX8_pass_49 : decode cX8_pass 49 = .ok (.getfield 168, 3) := by decide +kernel
theorem dX8_pass_52 : decode cX8_pass 52 = .ok (.ireturn, 1) := by decide +kernel
theorem dX8_state_0 : decode cX8_state 0 = .ok (.aload_n 0, 1) := by decide +kernel
theorem dX8_state_1 : decode cX8_state 1 = .ok (.iload_n 1, 1) := by decide +kernel
theorem dX8_state_2 : decode cX8_state 2 = .ok (.invokevirtual 114, 3) := by decide +kernel
theorem dX8_state_5 : decode cX8_state 5 = .ok (.getfield 118, 3) := by decide +kernel
theorem dX8_state_8 : decode cX8_state 8 = .ok (.ireturn, 1) := by decide +kernel
theorem dX8_tins_0 : decode cX8_tins 0 = .ok (.aload_n 0, 1) := by decide +kernel
theorem dX8_tins_1 : decode cX8_tins 1 = .ok (.getfield 10, 3) := by decide +kernel
theorem dX8_tins_4 : decode cX8_tins 4 = .ok (.getfield 154, 3) := by decide +kernel
theorem dX8_tins_7 : decode cX8_tins 7 = .ok (.ireturn, 1) := by decide +kernel
theorem dX8_inTin_0 : decode cX8_inTin 0 = .ok (.aload_n 0, 1) := by decide +kernel
theorem dX8_inTin_1 : decode cX8_inTin 1 = .ok (.iload_n 1, 1) := by decide +kernel
theorem dX8_inTin_2 : decode cX8_inTin 2 = .ok (.invokevirtual 178, 3) := by decide +kernel
theorem dX8_inTin_5 : decode cX8_inTin 5 = .ok (.astore_n 3, 1) := by decide +kernel
theorem dX8_inTin_6 : decode cX8_inTin 6 = .ok (.iload_n 2, 1) := by decide +kernel
theorem dX8_inTin_7 : decode cX8_inTin 7 = .ok (.invokestatic 62, 3) := by decide +kernel
theorem dX8_inTin_10 : decode cX8_inTin 10 = .ok (.ifCond .ne 11, 3) := by decide +kernel
theorem dX8_inTin_13 : decode cX8_inTin 13 = .ok (.new 70, 3) := by decide +kernel
theorem dX8_inTin_16 : decode cX8_inTin 16 = .ok (.dup, 1) := by decide +kernel
theorem dX8_inTin_17 : decode cX8_inTin 17 = .ok (.invokespecial 72, 3) := by decide +kernel
theorem dX8_inTin_20 : decode cX8_inTin 20 = .ok (.athrow, 1) := by decide +kernel
theorem dX8_inTin_21 : decode cX8_inTin 21 = .ok (.aload_n 3, 1) := by decide +kernel
theorem dX8_inTin_22 : decode cX8_inTin 22 = .ok (.getfield 95, 3) := by decide +kernel
theorem dX8_inTin_25 : decode cX8_inTin 25 = .ok (.iload_n 2, 1) := by decide +kernel
theorem dX8_inTin_26 : decode cX8_inTin 26 = .ok (.iaload, 1) := by decide +kernel
theorem dX8_inTin_27 : decode cX8_inTin 27 = .ok (.ireturn, 1) := by decide +kernel
theorem dX8_where_0 : decode cX8_where 0 = .ok (.iload_n 1, 1) := by decide +kernel
theorem dX8_where_1 : decode cX8_where 1 = .ok (.invokestatic 62, 3) := by decide +kernel
theorem dX8_where_4 : decode cX8_where 4 = .ok (.ifCond .eq 12, 3) := by decide +kernel
theorem dX8_where_7 : decode cX8_where 7 = .ok (.iload_n 2, 1) := by decide +kernel
theorem dX8_where_8 : decode cX8_where 8 = .ok (.iconst 0, 1) := by decide +kernel
theorem dX8_where_9 : decode cX8_where 9 = .ok (.iconst 3, 1) := by decide +kernel
theorem dX8_where_10 : decode cX8_where 10 = .ok (.invokestatic 88, 3) := by decide +kernel
theorem dX8_where_13 : decode cX8_where 13 = .ok (.ifCond .ne 11, 3) := by decide +kernel
theorem dX8_where_16 : decode cX8_where 16 = .ok (.new 70, 3) := by decide +kernel
theorem dX8_where_19 : decode cX8_where 19 = .ok (.dup, 1) := by decide +kernel
theorem dX8_where_20 : decode cX8_where 20 = .ok (.invokespecial 72, 3) := by decide +kernel
theorem dX8_where_23 : decode cX8_where 23 = .ok (.athrow, 1) := by decide +kernel
theorem dX8_where_24 : decode cX8_where 24 = .ok (.iload_n 2, 1) := by decide +kernel
theorem dX8_where_25 : decode cX8_where 25 = .ok (.tableswitch 55 0 2 #[27, 40, 49], 27) := by decide +kernel
theorem dX8_where_52 : decode cX8_where 52 = .ok (.aload_n 0, 1) := by decide +kernel
theorem dX8_where_53 : decode cX8_where 53 = .ok (.getfield 10, 3) := by decide +kernel
theorem dX8_where_56 : decode cX8_where 56 = .ok (.getfield 92, 3) := by decide +kernel
theorem dX8_where_59 : decode cX8_where 59 = .ok (.getfield 95, 3) := by decide +kernel
theorem dX8_where_62 : decode cX8_where 62 = .ok (.iload_n 1, 1) := by decide +kernel
theorem dX8_where_63 : decode cX8_where 63 = .ok (.iaload, 1) := by decide +kernel
theorem dX8_where_64 : decode cX8_where 64 = .ok (.ireturn, 1) := by decide +kernel
theorem dX8_where_65 : decode cX8_where 65 = .ok (.aload_n 0, 1) := by decide +kernel
theorem dX8_where_66 : decode cX8_where 66 = .ok (.getfield 10, 3) := by decide +kernel
theorem dX8_where_69 : decode cX8_where 69 = .ok (.iload_n 1, 1) := by decide +kernel
theorem dX8_where_70 : decode cX8_where 70 = .ok (.invokevirtual 185, 3) := by decide +kernel
theorem dX8_where_73 : decode cX8_where 73 = .ok (.ireturn, 1) := by decide +kernel
theorem dX8_where_74 : decode cX8_where 74 = .ok (.aload_n 0, 1) := by decide +kernel
theorem dX8_where_75 : decode cX8_where 75 = .ok (.iload_n 1, 1) := by decide +kernel
theorem dX8_where_76 : decode cX8_where 76 = .ok (.invokevirtual 188, 3) := by decide +kernel
theorem dX8_where_79 : decode cX8_where 79 = .ok (.ireturn, 1) := by decide +kernel
theorem dX8_where_80 : decode cX8_where 80 = .ok (.aload_n 0, 1) := by decide +kernel
theorem dX8_where_81 : decode cX8_where 81 = .ok (.getfield 23, 3) := by decide +kernel
theorem dX8_where_84 : decode cX8_where 84 = .ok (.getfield 95, 3) := by decide +kernel
theorem dX8_where_87 : decode cX8_where 87 = .ok (.iload_n 1, 1) := by decide +kernel
theorem dX8_where_88 : decode cX8_where 88 = .ok (.iaload, 1) := by decide +kernel
theorem dX8_where_89 : decode cX8_where 89 = .ok (.ireturn, 1) := by decide +kernel
theorem dX8_washes_0 : decode cX8_washes 0 = .ok (.aload_n 0, 1) := by decide +kernel
theorem dX8_washes_1 : decode cX8_washes 1 = .ok (.invokevirtual 191, 3) := by decide +kernel
theorem dX8_washes_4 : decode cX8_washes 4 = .ok (.aload_n 0, 1) := by decide +kernel
theorem dX8_washes_5 : decode cX8_washes 5 = .ok (.getfield 57, 3) := by decide +kernel
theorem dX8_washes_8 : decode cX8_washes 8 = .ok (.invokevirtual 194, 3) := by decide +kernel
theorem dX8_washes_11 : decode cX8_washes 11 = .ok (.ireturn, 1) := by decide +kernel
theorem dX8_washesByAll_0 : decode cX8_washesByAll 0 = .ok (.aload_n 0, 1) := by decide +kernel
theorem dX8_washesByAll_1 : decode cX8_washesByAll 1 = .ok (.invokevirtual 135, 3) := by decide +kernel
theorem dX8_washesByAll_4 : decode cX8_washesByAll 4 = .ok (.bipush 7, 2) := by decide +kernel
theorem dX8_washesByAll_6 : decode cX8_washesByAll 6 = .ok (.if_icmp .le 11, 3) := by decide +kernel
theorem dX8_washesByAll_9 : decode cX8_washesByAll 9 = .ok (.new 77, 3) := by decide +kernel
theorem dX8_washesByAll_12 : decode cX8_washesByAll 12 = .ok (.dup, 1) := by decide +kernel
theorem dX8_washesByAll_13 : decode cX8_washesByAll 13 = .ok (.invokespecial 79, 3) := by decide +kernel
theorem dX8_washesByAll_16 : decode cX8_washesByAll 16 = .ok (.athrow, 1) := by decide +kernel
theorem dX8_washesByAll_17 : decode cX8_washesByAll 17 = .ok (.aload_n 0, 1) := by decide +kernel
theorem dX8_washesByAll_18 : decode cX8_washesByAll 18 = .ok (.invokevirtual 191, 3) := by decide +kernel
theorem dX8_washesByAll_21 : decode cX8_washesByAll 21 = .ok (.aload_n 0, 1) := by decide +kernel
theorem dX8_washesByAll_22 : decode cX8_washesByAll 22 = .ok (.getfield 57, 3) := by decide +kernel
theorem dX8_washesByAll_25 : decode cX8_washesByAll 25 = .ok (.invokevirtual 197, 3) := by decide +kernel
theorem dX8_washesByAll_28 : decode cX8_washesByAll 28 = .ok (.ireturn, 1) := by decide +kernel
theorem dX8_firstRun_0 : decode cX8_firstRun 0 = .ok (.aload_n 0, 1) := by decide +kernel
theorem dX8_firstRun_1 : decode cX8_firstRun 1 = .ok (.invokevirtual 191, 3) := by decide +kernel
theorem dX8_firstRun_4 : decode cX8_firstRun 4 = .ok (.aload_n 0, 1) := by decide +kernel
theorem dX8_firstRun_5 : decode cX8_firstRun 5 = .ok (.getfield 57, 3) := by decide +kernel
theorem dX8_firstRun_8 : decode cX8_firstRun 8 = .ok (.invokevirtual 200, 3) := by decide +kernel
theorem dX8_firstRun_11 : decode cX8_firstRun 11 = .ok (.ireturn, 1) := by decide +kernel
theorem dX8_wear_0 : decode cX8_wear 0 = .ok (.aload_n 0, 1) := by decide +kernel
theorem dX8_wear_1 : decode cX8_wear 1 = .ok (.getfield 36, 3) := by decide +kernel
theorem dX8_wear_4 : decode cX8_wear 4 = .ok (.getfield 203, 3) := by decide +kernel
theorem dX8_wear_7 : decode cX8_wear 7 = .ok (.ireturn, 1) := by decide +kernel
theorem dX8_chipGap_0 : decode cX8_chipGap 0 = .ok (.aload_n 0, 1) := by decide +kernel
theorem dX8_chipGap_1 : decode cX8_chipGap 1 = .ok (.iload_n 1, 1) := by decide +kernel
theorem dX8_chipGap_2 : decode cX8_chipGap 2 = .ok (.invokevirtual 114, 3) := by decide +kernel
theorem dX8_chipGap_5 : decode cX8_chipGap 5 = .ok (.astore_n 3, 1) := by decide +kernel
theorem dX8_chipGap_6 : decode cX8_chipGap 6 = .ok (.aload_n 0, 1) := by decide +kernel
theorem dX8_chipGap_7 : decode cX8_chipGap 7 = .ok (.iload_n 2, 1) := by decide +kernel
theorem dX8_chipGap_8 : decode cX8_chipGap 8 = .ok (.invokevirtual 114, 3) := by decide +kernel
theorem dX8_chipGap_11 : decode cX8_chipGap 11 = .ok (.astore 4, 2) := by decide +kernel
theorem dX8_chipGap_13 : decode cX8_chipGap 13 = .ok (.aload_n 3, 1) := by decide +kernel
theorem dX8_chipGap_14 : decode cX8_chipGap 14 = .ok (.getfield 165, 3) := by decide +kernel
theorem dX8_chipGap_17 : decode cX8_chipGap 17 = .ok (.ifCond .eq 11, 3) := by decide +kernel
theorem dX8_chipGap_20 : decode cX8_chipGap 20 = .ok (.aload 4, 2) := by decide +kernel
theorem dX8_chipGap_22 : decode cX8_chipGap 22 = .ok (.getfield 118, 3) := by decide +kernel
theorem dX8_chipGap_25 : decode cX8_chipGap 25 = .ok (.ifCond .ne 11, 3) := by decide +kernel
theorem dX8_chipGap_28 : decode cX8_chipGap 28 = .ok (.new 77, 3) := by decide +kernel
theorem dX8_chipGap_31 : decode cX8_chipGap 31 = .ok (.dup, 1) := by decide +kernel
theorem dX8_chipGap_32 : decode cX8_chipGap 32 = .ok (.invokespecial 79, 3) := by decide +kernel
theorem dX8_chipGap_35 : decode cX8_chipGap 35 = .ok (.athrow, 1) := by decide +kernel
theorem dX8_chipGap_36 : decode cX8_chipGap 36 = .ok (.iconst 0, 1) := by decide +kernel
theorem dX8_chipGap_37 : decode cX8_chipGap 37 = .ok (.istore 5, 2) := by decide +kernel
theorem dX8_chipGap_39 : decode cX8_chipGap 39 = .ok (.iconst 0, 1) := by decide +kernel
theorem dX8_chipGap_40 : decode cX8_chipGap 40 = .ok (.istore 6, 2) := by decide +kernel
theorem dX8_chipGap_42 : decode cX8_chipGap 42 = .ok (.iload 6, 2) := by decide +kernel
theorem dX8_chipGap_44 : decode cX8_chipGap 44 = .ok (.iconst 3, 1) := by decide +kernel
theorem dX8_chipGap_45 : decode cX8_chipGap 45 = .ok (.if_icmp .ge 36, 3) := by decide +kernel
theorem dX8_chipGap_48 : decode cX8_chipGap 48 = .ok (.iload 5, 2) := by decide +kernel
theorem dX8_chipGap_50 : decode cX8_chipGap 50 = .ok (.aload_n 3, 1) := by decide +kernel
theorem dX8_chipGap_51 : decode cX8_chipGap 51 = .ok (.iload 6, 2) := by decide +kernel
theorem dX8_chipGap_53 : decode cX8_chipGap 53 = .ok (.aload_n 0, 1) := by decide +kernel
theorem dX8_chipGap_54 : decode cX8_chipGap 54 = .ok (.getfield 168, 3) := by decide +kernel
theorem dX8_chipGap_57 : decode cX8_chipGap 57 = .ok (.invokevirtual 206, 3) := by decide +kernel
theorem dX8_chipGap_60 : decode cX8_chipGap 60 = .ok (.aload 4, 2) := by decide +kernel
theorem dX8_chipGap_62 : decode cX8_chipGap 62 = .ok (.getfield 143, 3) := by decide +kernel
theorem dX8_chipGap_65 : decode cX8_chipGap 65 = .ok (.iload 6, 2) := by decide +kernel
theorem dX8_chipGap_67 : decode cX8_chipGap 67 = .ok (.iaload, 1) := by decide +kernel
theorem dX8_chipGap_68 : decode cX8_chipGap 68 = .ok (.isub, 1) := by decide +kernel
theorem dX8_chipGap_69 : decode cX8_chipGap 69 = .ok (.invokestatic 210, 3) := by decide +kernel
theorem dX8_chipGap_72 : decode cX8_chipGap 72 = .ok (.iadd, 1) := by decide +kernel
theorem dX8_chipGap_73 : decode cX8_chipGap 73 = .ok (.istore 5, 2) := by decide +kernel
theorem dX8_chipGap_75 : decode cX8_chipGap 75 = .ok (.iinc 6 1, 3) := by decide +kernel
theorem dX8_chipGap_78 : decode cX8_chipGap 78 = .ok (.goto (-36), 3) := by decide +kernel
theorem dX8_chipGap_81 : decode cX8_chipGap 81 = .ok (.iload 5, 2) := by decide +kernel
theorem dX8_chipGap_83 : decode cX8_chipGap 83 = .ok (.ireturn, 1) := by decide +kernel
theorem dX8_jobNumbered_0 : decode cX8_jobNumbered 0 = .ok (.iload_n 1, 1) := by decide +kernel
theorem dX8_jobNumbered_1 : decode cX8_jobNumbered 1 = .ok (.ifCond .lt 11, 3) := by decide +kernel
theorem dX8_jobNumbered_4 : decode cX8_jobNumbered 4 = .ok (.iload_n 1, 1) := by decide +kernel
theorem dX8_jobNumbered_5 : decode cX8_jobNumbered 5 = .ok (.aload_n 0, 1) := by decide +kernel
theorem dX8_jobNumbered_6 : decode cX8_jobNumbered 6 = .ok (.getfield 101, 3) := by decide +kernel
theorem dX8_jobNumbered_9 : decode cX8_jobNumbered 9 = .ok (.if_icmp .lt 11, 3) := by decide +kernel
theorem dX8_jobNumbered_12 : decode cX8_jobNumbered 12 = .ok (.new 215, 3) := by decide +kernel
theorem dX8_jobNumbered_15 : decode cX8_jobNumbered 15 = .ok (.dup, 1) := by decide +kernel
theorem dX8_jobNumbered_16 : decode cX8_jobNumbered 16 = .ok (.invokespecial 217, 3) := by decide +kernel
theorem dX8_jobNumbered_19 : decode cX8_jobNumbered 19 = .ok (.athrow, 1) := by decide +kernel
theorem dX8_jobNumbered_20 : decode cX8_jobNumbered 20 = .ok (.aload_n 0, 1) := by decide +kernel
theorem dX8_jobNumbered_21 : decode cX8_jobNumbered 21 = .ok (.getfield 29, 3) := by decide +kernel
theorem dX8_jobNumbered_24 : decode cX8_jobNumbered 24 = .ok (.iload_n 1, 1) := by decide +kernel
theorem dX8_jobNumbered_25 : decode cX8_jobNumbered 25 = .ok (.aaload, 1) := by decide +kernel
theorem dX8_jobNumbered_26 : decode cX8_jobNumbered 26 = .ok (.areturn, 1) := by decide +kernel
theorem dX8_tinNumbered_0 : decode cX8_tinNumbered 0 = .ok (.iload_n 1, 1) := by decide +kernel
theorem dX8_tinNumbered_1 : decode cX8_tinNumbered 1 = .ok (.ifCond .lt 14, 3) := by decide +kernel
theorem dX8_tinNumbered_4 : decode cX8_tinNumbered 4 = .ok (.iload_n 1, 1) := by decide +kernel
theorem dX8_tinNumbered_5 : decode cX8_tinNumbered 5 = .ok (.aload_n 0, 1) := by decide +kernel
theorem dX8_tinNumbered_6 : decode cX8_tinNumbered 6 = .ok (.getfield 10, 3) := by decide +kernel
theorem dX8_tinNumbered_9 : decode cX8_tinNumbered 9 = .ok (.getfield 154, 3) := by decide +kernel
theorem dX8_tinNumbered_12 : decode cX8_tinNumbered 12 = .ok (.if_icmp .lt 11, 3) := by decide +kernel
theorem dX8_tinNumbered_15 : decode cX8_tinNumbered 15 = .ok (.new 215, 3) := by decide +kernel
theorem dX8_tinNumbered_18 : decode cX8_tinNumbered 18 = .ok (.dup, 1) := by decide +kernel
theorem dX8_tinNumbered_19 : decode cX8_tinNumbered 19 = .ok (.invokespecial 217, 3) := by decide +kernel
theorem dX8_tinNumbered_22 : decode cX8_tinNumbered 22 = .ok (.athrow, 1) := by decide +kernel
theorem dX8_tinNumbered_23 : decode cX8_tinNumbered 23 = .ok (.aload_n 0, 1) := by decide +kernel
theorem dX8_tinNumbered_24 : decode cX8_tinNumbered 24 = .ok (.getfield 10, 3) := by decide +kernel
theorem dX8_tinNumbered_27 : decode cX8_tinNumbered 27 = .ok (.getfield 218, 3) := by decide +kernel
theorem dX8_tinNumbered_30 : decode cX8_tinNumbered 30 = .ok (.iload_n 1, 1) := by decide +kernel
theorem dX8_tinNumbered_31 : decode cX8_tinNumbered 31 = .ok (.aaload, 1) := by decide +kernel
theorem dX8_tinNumbered_32 : decode cX8_tinNumbered 32 = .ok (.areturn, 1) := by decide +kernel
theorem dX8_fillInk_0 : decode cX8_fillInk 0 = .ok (.iconst 0, 1) := by decide +kernel
theorem dX8_fillInk_1 : decode cX8_fillInk 1 = .ok (.istore_n 3, 1) := by decide +kernel
theorem dX8_fillInk_2 : decode cX8_fillInk 2 = .ok (.iload_n 3, 1) := by decide +kernel
theorem dX8_fillInk_3 : decode cX8_fillInk 3 = .ok (.iconst 4, 1) := by decide +kernel
theorem dX8_fillInk_4 : decode cX8_fillInk 4 = .ok (.if_icmp .ge 53, 3) := by decide +kernel
theorem dX8_fillInk_7 : decode cX8_fillInk 7 = .ok (.aload_n 2, 1) := by decide +kernel
theorem dX8_fillInk_8 : decode cX8_fillInk 8 = .ok (.getfield 222, 3) := by decide +kernel
theorem dX8_fillInk_11 : decode cX8_fillInk 11 = .ok (.iload_n 3, 1) := by decide +kernel
theorem dX8_fillInk_12 : decode cX8_fillInk 12 = .ok (.iaload, 1) := by decide +kernel
theorem dX8_fillInk_13 : decode cX8_fillInk 13 = .ok (.aload_n 1, 1) := by decide +kernel
theorem dX8_fillInk_14 : decode cX8_fillInk 14 = .ok (.invokevirtual 225, 3) := by decide +kernel
theorem dX8_fillInk_17 : decode cX8_fillInk 17 = .ok (.imul, 1) := by decide +kernel
theorem dX8_fillInk_18 : decode cX8_fillInk 18 = .ok (.istore 4, 2) := by decide +kernel
theorem dX8_fillInk_20 : decode cX8_fillInk 20 = .ok (.aload_n 0, 1) := by decide +kernel
theorem dX8_fillInk_21 : decode cX8_fillInk 21 = .ok (.getfield 10, 3) := by decide +kernel
theorem dX8_fillInk_24 : decode cX8_fillInk 24 = .ok (.getfield 92, 3) := by decide +kernel
theorem dX8_fillInk_27 : decode cX8_fillInk 27 = .ok (.getfield 95, 3) := by decide +kernel
theorem dX8_fillInk_30 : decode cX8_fillInk 30 = .ok (.iload_n 3, 1) := by decide +kernel
theorem dX8_fillInk_31 : decode cX8_fillInk 31 = .ok (.dup2, 1) := by decide +kernel
theorem dX8_fillInk_32 : decode cX8_fillInk 32 = .ok (.iaload, 1) := by decide +kernel
theorem dX8_fillInk_33 : decode cX8_fillInk 33 = .ok (.iload 4, 2) := by decide +kernel
theorem dX8_fillInk_35 : decode cX8_fillInk 35 = .ok (.isub, 1) := by decide +kernel
theorem dX8_fillInk_36 : decode cX8_fillInk 36 = .ok (.iastore, 1) := by decide +kernel
theorem dX8_fillInk_37 : decode cX8_fillInk 37 = .ok (.aload_n 1, 1) := by decide +kernel
theorem dX8_fillInk_38 : decode cX8_fillInk 38 = .ok (.getfield 146, 3) := by decide +kernel
theorem dX8_fillInk_41 : decode cX8_fillInk 41 = .ok (.getfield 95, 3) := by decide +kernel
theorem dX8_fillInk_44 : decode cX8_fillInk 44 = .ok (.iload_n 3, 1) := by decide +kernel
theorem dX8_fillInk_45 : decode cX8_fillInk 45 = .ok (.dup2, 1) := by decide +kernel
theorem dX8_fillInk_46 : decode cX8_fillInk 46 = .ok (.iaload, 1) := by decide +kernel
theorem dX8_fillInk_47 : decode cX8_fillInk 47 = .ok (.iload 4, 2) := by decide +kernel
theorem dX8_fillInk_49 : decode cX8_fillInk 49 = .ok (.iadd, 1) := by decide +kernel
theorem dX8_fillInk_50 : decode cX8_fillInk 50 = .ok (.iastore, 1) := by decide +kernel
theorem dX8_fillInk_51 : decode cX8_fillInk 51 = .ok (.iinc 3 1, 3) := by decide +kernel
theorem dX8_fillInk_54 : decode cX8_fillInk 54 = .ok (.goto (-52), 3) := by decide +kernel
theorem dX8_fillInk_57 : decode cX8_fillInk 57 = .ok (.aload_n 2, 1) := by decide +kernel
theorem dX8_fillInk_58 : decode cX8_fillInk 58 = .ok (.getfield 228, 3) := by decide +kernel
theorem dX8_fillInk_61 : decode cX8_fillInk 61 = .ok (.ifCond .lt 48, 3) := by decide +kernel
theorem dX8_fillInk_64 : decode cX8_fillInk 64 = .ok (.aload_n 2, 1) := by decide +kernel
theorem dX8_fillInk_65 : decode cX8_fillInk 65 = .ok (.getfield 228, 3) := by decide +kernel
theorem dX8_fillInk_68 : decode cX8_fillInk 68 = .ok (.aload_n 0, 1) := by decide +kernel
theorem dX8_fillInk_69 : decode cX8_fillInk 69 = .ok (.getfield 10, 3) := by decide +kernel
theorem dX8_fillInk_72 : decode cX8_fillInk 72 = .ok (.getfield 154, 3) := by decide +kernel
theorem dX8_fillInk_75 : decode cX8_fillInk 75 = .ok (.if_icmp .ge 34, 3) := by decide +kernel
theorem dX8_fillInk_78 : decode cX8_fillInk 78 = .ok (.aload_n 0, 1) := by decide +kernel
theorem dX8_fillInk_79 : decode cX8_fillInk 79 = .ok (.getfield 43, 3) := by decide +kernel
theorem dX8_fillInk_82 : decode cX8_fillInk 82 = .ok (.aload_n 0, 1) := by decide +kernel
theorem dX8_fillInk_83 : decode cX8_fillInk 83 = .ok (.getfield 10, 3) := by decide +kernel
theorem dX8_fillInk_86 : decode cX8_fillInk 86 = .ok (.getfield 218, 3) := by decide +kernel
theorem dX8_fillInk_89 : decode cX8_fillInk 89 = .ok (.aload_n 2, 1) := by decide +kernel
theorem dX8_fillInk_90 : decode cX8_fillInk 90 = .ok (.getfield 228, 3) := by decide +kernel
theorem dX8_fillInk_93 : decode cX8_fillInk 93 = .ok (.aaload, 1) := by decide +kernel
theorem dX8_fillInk_94 : decode cX8_fillInk 94 = .ok (.aload_n 1, 1) := by decide +kernel
theorem dX8_fillInk_95 : decode cX8_fillInk 95 = .ok (.aload_n 2, 1) := by decide +kernel
theorem dX8_fillInk_96 : decode cX8_fillInk 96 = .ok (.getfield 231, 3) := by decide +kernel
theorem dX8_fillInk_99 : decode cX8_fillInk 99 = .ok (.invokevirtual 234, 3) := by decide +kernel
theorem dX8_fillInk_102 : decode cX8_fillInk 102 = .ok (.aload_n 1, 1) := by decide +kernel
theorem dX8_fillInk_103 : decode cX8_fillInk 103 = .ok (.getfield 146, 3) := by decide +kernel
theorem dX8_fillInk_106 : decode cX8_fillInk 106 = .ok (.invokevirtual 157, 3) := by decide +kernel
theorem dX8_fillInk_109 : decode cX8_fillInk 109 = .ok (.return_, 1) := by decide +kernel
theorem dX8_countMixed_0 : decode cX8_countMixed 0 = .ok (.iconst 0, 1) := by decide +kernel
theorem dX8_countMixed_1 : decode cX8_countMixed 1 = .ok (.istore_n 1, 1) := by decide +kernel
theorem dX8_countMixed_2 : decode cX8_countMixed 2 = .ok (.iconst 0, 1) := by decide +kernel
theorem dX8_countMixed_3 : decode cX8_countMixed 3 = .ok (.istore_n 2, 1) := by decide +kernel
theorem dX8_countMixed_4 : decode cX8_countMixed 4 = .ok (.iload_n 2, 1) := by decide +kernel
theorem dX8_countMixed_5 : decode cX8_countMixed 5 = .ok (.aload_n 0, 1) := by decide +kernel
theorem dX8_countMixed_6 : decode cX8_countMixed 6 = .ok (.getfield 101, 3) := by decide +kernel
theorem dX8_countMixed_9 : decode cX8_countMixed 9 = .ok (.if_icmp .ge 25, 3) := by decide +kernel
theorem dX8_countMixed_12 : decode cX8_countMixed 12 = .ok (.aload_n 0, 1) := by decide +kernel
theorem dX8_countMixed_13 : decode cX8_countMixed 13 = .ok (.getfield 29, 3) := by decide +kernel
theorem dX8_countMixed_16 : decode cX8_countMixed 16 = .ok (.iload_n 2, 1) := by decide +kernel
theorem dX8_countMixed_17 : decode cX8_countMixed 17 = .ok (.aaload, 1) := by decide +kernel
theorem dX8_countMixed_18 : decode cX8_countMixed 18 = .ok (.getfield 118, 3) := by decide +kernel
theorem dX8_countMixed_21 : decode cX8_countMixed 21 = .ok (.iconst 1, 1) := by decide +kernel
theorem dX8_countMixed_22 : decode cX8_countMixed 22 = .ok (.if_icmp .ne 6, 3) := by decide +kernel
theorem dX8_countMixed_25 : decode cX8_countMixed 25 = .ok (.iinc 1 1, 3) := by decide +kernel
theorem dX8_countMixed_28 : decode cX8_countMixed 28 = .ok (.iinc 2 1, 3) := by decide +kernel
theorem dX8_countMixed_31 : decode cX8_countMixed 31 = .ok (.goto (-27), 3) := by decide +kernel
theorem dX8_countMixed_34 : decode cX8_countMixed 34 = .ok (.iload_n 1, 1) := by decide +kernel
theorem dX8_countMixed_35 : decode cX8_countMixed 35 = .ok (.ireturn, 1) := by decide +kernel
theorem dX8_inMixedJobs_0 : decode cX8_inMixedJobs 0 = .ok (.iconst 0, 1) := by decide +kernel
theorem dX8_inMixedJobs_1 : decode cX8_inMixedJobs 1 = .ok (.istore_n 2, 1) := by decide +kernel
theorem dX8_inMixedJobs_2 : decode cX8_inMixedJobs 2 = .ok (.iconst 0, 1) := by decide +kernel
theorem dX8_inMixedJobs_3 : decode cX8_inMixedJobs 3 = .ok (.istore_n 3, 1) := by decide +kernel
theorem dX8_inMixedJobs_4 : decode cX8_inMixedJobs 4 = .ok (.iload_n 3, 1) := by decide +kernel
theorem dX8_inMixedJobs_5 : decode cX8_inMixedJobs 5 = .ok (.aload_n 0, 1) := by decide +kernel
theorem dX8_inMixedJobs_6 : decode cX8_inMixedJobs 6 = .ok (.getfield 101, 3) := by decide +kernel
theorem dX8_inMixedJobs_9 : decode cX8_inMixedJobs 9 = .ok (.if_icmp .ge 39, 3) := by decide +kernel
theorem dX8_inMixedJobs_12 : decode cX8_inMixedJobs 12 = .ok (.aload_n 0, 1) := by decide +kernel
theorem dX8_inMixedJobs_13 : decode cX8_inMixedJobs 13 = .ok (.getfield 29, 3) := by decide +kernel
theorem dX8_inMixedJobs_16 : decode cX8_inMixedJobs 16 = .ok (.iload_n 3, 1) := by decide +kernel
theorem dX8_inMixedJobs_17 : decode cX8_inMixedJobs 17 = .ok (.aaload, 1) := by decide +kernel
theorem dX8_inMixedJobs_18 : decode cX8_inMixedJobs 18 = .ok (.getfield 118, 3) := by decide +kernel
theorem dX8_inMixedJobs_21 : decode cX8_inMixedJobs 21 = .ok (.iconst 1, 1) := by decide +kernel
theorem dX8_inMixedJobs_22 : decode cX8_inMixedJobs 22 = .ok (.if_icmp .ne 20, 3) := by decide +kernel
theorem dX8_inMixedJobs_25 : decode cX8_inMixedJobs 25 = .ok (.iload_n 2, 1) := by decide +kernel
theorem dX8_inMixedJobs_26 : decode cX8_inMixedJobs 26 = .ok (.aload_n 0, 1) := by decide +kernel
theorem dX8_inMixedJobs_27 : decode cX8_inMixedJobs 27 = .ok (.getfield 29, 3) := by decide +kernel
theorem dX8_inMixedJobs_30 : decode cX8_inMixedJobs 30 = .ok (.iload_n 3, 1) := by decide +kernel
theorem dX8_inMixedJobs_31 : decode cX8_inMixedJobs 31 = .ok (.aaload, 1) := by decide +kernel
theorem dX8_inMixedJobs_32 : decode cX8_inMixedJobs 32 = .ok (.getfield 146, 3) := by decide +kernel
theorem dX8_inMixedJobs_35 : decode cX8_inMixedJobs 35 = .ok (.getfield 95, 3) := by decide +kernel
theorem dX8_inMixedJobs_38 : decode cX8_inMixedJobs 38 = .ok (.iload_n 1, 1) := by decide +kernel
theorem dX8_inMixedJobs_39 : decode cX8_inMixedJobs 39 = .ok (.iaload, 1) := by decide +kernel
theorem dX8_inMixedJobs_40 : decode cX8_inMixedJobs 40 = .ok (.iadd, 1) := by decide +kernel
theorem dX8_inMixedJobs_41 : decode cX8_inMixedJobs 41 = .ok (.istore_n 2, 1) := by decide +kernel
theorem dX8_inMixedJobs_42 : decode cX8_inMixedJobs 42 = .ok (.iinc 3 1, 3) := by decide +kernel
theorem dX8_inMixedJobs_45 : decode cX8_inMixedJobs 45 = .ok (.goto (-41), 3) := by decide +kernel
theorem dX8_inMixedJobs_48 : decode cX8_inMixedJobs 48 = .ok (.iload_n 2, 1) := by decide +kernel
theorem dX8_inMixedJobs_49 : decode cX8_inMixedJobs 49 = .ok (.ireturn, 1) := by decide +kernel
theorem dX8_planWashes_0 : decode cX8_planWashes 0 = .ok (.aload_n 0, 1) := by decide +kernel
theorem dX8_planWashes_1 : decode cX8_planWashes 1 = .ok (.getfield 57, 3) := by decide +kernel
theorem dX8_planWashes_4 : decode cX8_planWashes 4 = .ok (.invokevirtual 237, 3) := by decide +kernel
theorem dX8_planWashes_7 : decode cX8_planWashes 7 = .ok (.iconst 0, 1) := by decide +kernel
theorem dX8_planWashes_8 : decode cX8_planWashes 8 = .ok (.istore_n 1, 1) := by decide +kernel
theorem dX8_planWashes_9 : decode cX8_planWashes 9 = .ok (.iload_n 1, 1) := by decide +kernel
theorem dX8_planWashes_10 : decode cX8_planWashes 10 = .ok (.aload_n 0, 1) := by decide +kernel
theorem dX8_planWashes_11 : decode cX8_planWashes 11 = .ok (.getfield 101, 3) := by decide +kernel
theorem dX8_planWashes_14 : decode cX8_planWashes 14 = .ok (.if_icmp .ge 43, 3) := by decide +kernel
theorem dX8_planWashes_17 : decode cX8_planWashes 17 = .ok (.aload_n 0, 1) := by decide +kernel
theorem dX8_planWashes_18 : decode cX8_planWashes 18 = .ok (.getfield 29, 3) := by decide +kernel
theorem dX8_planWashes_21 : decode cX8_planWashes 21 = .ok (.iload_n 1, 1) := by decide +kernel
theorem dX8_planWashes_22 : decode cX8_planWashes 22 = .ok (.aaload, 1) := by decide +kernel
theorem dX8_planWashes_23 : decode cX8_planWashes 23 = .ok (.getfield 118, 3) := by decide +kernel
theorem dX8_planWashes_26 : decode cX8_planWashes 26 = .ok (.iconst 1, 1) := by decide +kernel
theorem dX8_planWashes_27 : decode cX8_planWashes 27 = .ok (.if_icmp .ne 24, 3) := by decide +kernel
theorem dX8_planWashes_30 : decode cX8_planWashes 30 = .ok (.aload_n 0, 1) := by decide +kernel
theorem dX8_planWashes_31 : decode cX8_planWashes 31 = .ok (.getfield 57, 3) := by decide +kernel
theorem dX8_planWashes_34 : decode cX8_planWashes 34 = .ok (.iload_n 1, 1) := by decide +kernel
theorem dX8_planWashes_35 : decode cX8_planWashes 35 = .ok (.aload_n 0, 1) := by decide +kernel
theorem dX8_planWashes_36 : decode cX8_planWashes 36 = .ok (.getfield 29, 3) := by decide +kernel
theorem dX8_planWashes_39 : decode cX8_planWashes 39 = .ok (.iload_n 1, 1) := by decide +kernel
theorem dX8_planWashes_40 : decode cX8_planWashes 40 = .ok (.aaload, 1) := by decide +kernel
theorem dX8_planWashes_41 : decode cX8_planWashes 41 = .ok (.getfield 143, 3) := by decide +kernel
theorem dX8_planWashes_44 : decode cX8_planWashes 44 = .ok (.aload_n 0, 1) := by decide +kernel
theorem dX8_planWashes_45 : decode cX8_planWashes 45 = .ok (.getfield 36, 3) := by decide +kernel
theorem dX8_planWashes_48 : decode cX8_planWashes 48 = .ok (.invokevirtual 240, 3) := by decide +kernel
theorem dX8_planWashes_51 : decode cX8_planWashes 51 = .ok (.iinc 1 1, 3) := by decide +kernel
theorem dX8_planWashes_54 : decode cX8_planWashes 54 = .ok (.goto (-45), 3) := by decide +kernel
theorem dX8_planWashes_57 : decode cX8_planWashes 57 = .ok (.return_, 1) := by decide +kernel
theorem dX8_isWithin_0 : decode cX8_isWithin 0 = .ok (.iload_n 0, 1) := by decide +kernel
theorem dX8_isWithin_1 : decode cX8_isWithin 1 = .ok (.iload_n 1, 1) := by decide +kernel
theorem dX8_isWithin_2 : decode cX8_isWithin 2 = .ok (.if_icmp .lt 12, 3) := by decide +kernel
theorem dX8_isWithin_5 : decode cX8_isWithin 5 = .ok (.iload_n 0, 1) := by decide +kernel
theorem dX8_isWithin_6 : decode cX8_isWithin 6 = .ok (.iload_n 2, 1) := by decide +kernel
theorem dX8_isWithin_7 : decode cX8_isWithin 7 = .ok (.if_icmp .gt 7, 3) := by decide +kernel
theorem dX8_isWithin_10 : decode cX8_isWithin 10 = .ok (.iconst 1, 1) := by decide +kernel
theorem dX8_isWithin_11 : decode cX8_isWithin 11 = .ok (.goto 4, 3) := by decide +kernel
theorem dX8_isWithin_14 : decode cX8_isWithin 14 = .ok (.iconst 0, 1) := by decide +kernel
theorem dX8_isWithin_15 : decode cX8_isWithin 15 = .ok (.ireturn, 1) := by decide +kernel
theorem dX8_isBase_0 : decode cX8_isBase 0 = .ok (.iload_n 0, 1) := by decide +kernel
theorem dX8_isBase_1 : decode cX8_isBase 1 = .ok (.iconst 0, 1) := by decide +kernel
theorem dX8_isBase_2 : decode cX8_isBase 2 = .ok (.iconst 3, 1) := by decide +kernel
theorem dX8_isBase_3 : decode cX8_isBase 3 = .ok (.invokestatic 88, 3) := by decide +kernel
theorem dX8_isBase_6 : decode cX8_isBase 6 = .ok (.ireturn, 1) := by decide +kernel
theorem dX8_isColour_0 : decode cX8_isColour 0 = .ok (.iload_n 0, 1) := by decide +kernel
theorem dX8_isColour_1 : decode cX8_isColour 1 = .ok (.iconst 0, 1) := by decide +kernel
theorem dX8_isColour_2 : decode cX8_isColour 2 = .ok (.bipush 100, 2) := by decide +kernel
theorem dX8_isColour_4 : decode cX8_isColour 4 = .ok (.invokestatic 88, 3) := by decide +kernel
theorem dX8_isColour_7 : decode cX8_isColour 7 = .ok (.ifCond .eq 27, 3) := by decide +kernel
theorem dX8_isColour_10 : decode cX8_isColour 10 = .ok (.iload_n 1, 1) := by decide +kernel
theorem dX8_isColour_11 : decode cX8_isColour 11 = .ok (.iconst 0, 1) := by decide +kernel
theorem dX8_isColour_12 : decode cX8_isColour 12 = .ok (.bipush 100, 2) := by decide +kernel
theorem dX8_isColour_14 : decode cX8_isColour 14 = .ok (.invokestatic 88, 3) := by decide +kernel
theorem dX8_isColour_17 : decode cX8_isColour 17 = .ok (.ifCond .eq 17, 3) := by decide +kernel
theorem dX8_isColour_20 : decode cX8_isColour 20 = .ok (.iload_n 2, 1) := by decide +kernel
theorem dX8_isColour_21 : decode cX8_isColour 21 = .ok (.iconst 0, 1) := by decide +kernel
theorem dX8_isColour_22 : decode cX8_isColour 22 = .ok (.bipush 100, 2) := by decide +kernel
theorem dX8_isColour_24 : decode cX8_isColour 24 = .ok (.invokestatic 88, 3) := by decide +kernel
theorem dX8_isColour_27 : decode cX8_isColour 27 = .ok (.ifCond .eq 7, 3) := by decide +kernel
theorem dX8_isColour_30 : decode cX8_isColour 30 = .ok (.iconst 1, 1) := by decide +kernel
theorem dX8_isColour_31 : decode cX8_isColour 31 = .ok (.goto 4, 3) := by decide +kernel
theorem dX8_isColour_34 : decode cX8_isColour 34 = .ok (.iconst 0, 1) := by decide +kernel
theorem dX8_isColour_35 : decode cX8_isColour 35 = .ok (.ireturn, 1) := by decide +kernel
theorem dX8_isJobGrams_0 : decode cX8_isJobGrams 0 = .ok (.iload_n 0, 1) := by decide +kernel
theorem dX8_isJobGrams_1 : decode cX8_isJobGrams 1 = .ok (.bipush 10, 2) := by decide +kernel
theorem dX8_isJobGrams_3 : decode cX8_isJobGrams 3 = .ok (.sipush 500, 3) := by decide +kernel
theorem dX8_isJobGrams_6 : decode cX8_isJobGrams 6 = .ok (.invokestatic 88, 3) := by decide +kernel
theorem dX8_isJobGrams_9 : decode cX8_isJobGrams 9 = .ok (.ifCond .eq 14, 3) := by decide +kernel
theorem dX8_isJobGrams_12 : decode cX8_isJobGrams 12 = .ok (.iload_n 0, 1) := by decide +kernel
theorem dX8_isJobGrams_13 : decode cX8_isJobGrams 13 = .ok (.bipush 10, 2) := by decide +kernel
theorem dX8_isJobGrams_15 : decode cX8_isJobGrams 15 = .ok (.irem, 1) := by decide +kernel
theorem dX8_isJobGrams_16 : decode cX8_isJobGrams 16 = .ok (.ifCond .ne 7, 3) := by decide +kernel
theorem dX8_isJobGrams_19 : decode cX8_isJobGrams 19 = .ok (.iconst 1, 1) := by decide +kernel
theorem dX8_isJobGrams_20 : decode cX8_isJobGrams 20 = .ok (.goto 4, 3) := by decide +kernel
theorem dX8_isJobGrams_23 : decode cX8_isJobGrams 23 = .ok (.iconst 0, 1) := by decide +kernel
theorem dX8_isJobGrams_24 : decode cX8_isJobGrams 24 = .ok (.ireturn, 1) := by decide +kernel
theorem dX8_setColour_0 : decode cX8_setColour 0 = .ok (.aload_n 0, 1) := by decide +kernel
theorem dX8_setColour_1 : decode cX8_setColour 1 = .ok (.iconst 0, 1) := by decide +kernel
theorem dX8_setColour_2 : decode cX8_setColour 2 = .ok (.iload_n 1, 1) := by decide +kernel
theorem dX8_setColour_3 : decode cX8_setColour 3 = .ok (.iastore, 1) := by decide +kernel
theorem dX8_setColour_4 : decode cX8_setColour 4 = .ok (.aload_n 0, 1) := by decide +kernel
theorem dX8_setColour_5 : decode cX8_setColour 5 = .ok (.iconst 1, 1) := by decide +kernel
theorem dX8_setColour_6 : decode cX8_setColour 6 = .ok (.iload_n 2, 1) := by decide +kernel
theorem dX8_setColour_7 : decode cX8_setColour 7 = .ok (.iastore, 1) := by decide +kernel
theorem dX8_setColour_8 : decode cX8_setColour 8 = .ok (.aload_n 0, 1) := by decide +kernel
theorem dX8_setColour_9 : decode cX8_setColour 9 = .ok (.iconst 2, 1) := by decide +kernel
theorem dX8_setColour_10 : decode cX8_setColour 10 = .ok (.iload_n 3, 1) := by decide +kernel
theorem dX8_setColour_11 : decode cX8_setColour 11 = .ok (.iastore, 1) := by decide +kernel
theorem dX8_setColour_12 : decode cX8_setColour 12 = .ok (.return_, 1) := by decide +kernel
theorem dJ9_abs_0f7a4_0 : decode cJ9_abs_0f7a4 0 = .ok (.iload_n 0, 1) := by decide +kernel
theorem dJ9_abs_0f7a4_1 : decode cJ9_abs_0f7a4 1 = .ok (.ifCond .ge 8, 3) := by decide +kernel
theorem dJ9_abs_0f7a4_4 : decode cJ9_abs_0f7a4 4 = .ok (.iload_n 0, 1) := by decide +kernel
theorem dJ9_abs_0f7a4_5 : decode cJ9_abs_0f7a4 5 = .ok (.ineg, 1) := by decide +kernel
theorem dJ9_abs_0f7a4_6 : decode cJ9_abs_0f7a4 6 = .ok (.goto 4, 3) := by decide +kernel
theorem dJ9_abs_0f7a4_9 : decode cJ9_abs_0f7a4 9 = .ok (.iload_n 0, 1) := by decide +kernel
theorem dJ9_abs_0f7a4_10 : decode cJ9_abs_0f7a4 10 = .ok (.ireturn, 1) := by decide +kernel
theorem dJ9_min_7cf53_0 : decode cJ9_min_7cf53 0 = .ok (.iload_n 0, 1) := by decide +kernel
theorem dJ9_min_7cf53_1 : decode cJ9_min_7cf53 1 = .ok (.iload_n 1, 1) := by decide +kernel
theorem dJ9_min_7cf53_2 : decode cJ9_min_7cf53 2 = .ok (.if_icmp .gt 7, 3) := by decide +kernel
theorem dJ9_min_7cf53_5 : decode cJ9_min_7cf53 5 = .ok (.iload_n 0, 1) := by decide +kernel
theorem dJ9_min_7cf53_6 : decode cJ9_min_7cf53 6 = .ok (.goto 4, 3) := by decide +kernel
theorem dJ9_min_7cf53_9 : decode cJ9_min_7cf53 9 = .ok (.iload_n 1, 1) := by decide +kernel
theorem dJ9_min_7cf53_10 : decode cJ9_min_7cf53 10 = .ok (.ireturn, 1) := by decide +kernel
theorem dL_low_0 : decode cL_low 0 = .ok (.iload_n 0, 1) := by decide +kernel
theorem dL_low_1 : decode cL_low 1 = .ok (.ldc 7, 2) := by decide +kernel
theorem dL_low_3 : decode cL_low 3 = .ok (.iand, 1) := by decide +kernel
theorem dL_low_4 : decode cL_low 4 = .ok (.iload_n 1, 1) := by decide +kernel
theorem dL_low_5 : decode cL_low 5 = .ok (.irem, 1) := by decide +kernel
theorem dL_low_6 : decode cL_low 6 = .ok (.ireturn, 1) := by decide +kernel
theorem dL_cell_0 : decode cL_cell 0 = .ok (.iload_n 1, 1) := by decide +kernel
theorem dL_cell_1 : decode cL_cell 1 = .ok (.aload_n 0, 1) := by decide +kernel
theorem dL_cell_2 : decode cL_cell 2 = .ok (.arraylength, 1) := by decide +kernel
theorem dL_cell_3 : decode cL_cell 3 = .ok (.if_icmp .ge 9, 3) := by decide +kernel
theorem dL_cell_6 : decode cL_cell 6 = .ok (.aload_n 0, 1) := by decide +kernel
theorem dL_cell_7 : decode cL_cell 7 = .ok (.iload_n 1, 1) := by decide +kernel
theorem dL_cell_8 : decode cL_cell 8 = .ok (.iaload, 1) := by decide +kernel
theorem dL_cell_9 : decode cL_cell 9 = .ok (.goto 11, 3) := by decide +kernel
theorem dL_cell_12 : decode cL_cell 12 = .ok (.ldc 8, 2) := by decide +kernel
theorem dL_cell_14 : decode cL_cell 14 = .ok (.iload_n 1, 1) := by decide +kernel
theorem dL_cell_15 : decode cL_cell 15 = .ok (.imul, 1) := by decide +kernel
theorem dL_cell_16 : decode cL_cell 16 = .ok (.sipush 977, 3) := by decide +kernel
theorem dL_cell_19 : decode cL_cell 19 = .ok (.iadd, 1) := by decide +kernel
theorem dL_cell_20 : decode cL_cell 20 = .ok (.ireturn, 1) := by decide +kernel
theorem dL_buy_0 : decode cL_buy 0 = .ok (.aload_n 0, 1) := by decide +kernel
theorem dL_buy_1 : decode cL_buy 1 = .ok (.iload_n 1, 1) := by decide +kernel
theorem dL_buy_2 : decode cL_buy 2 = .ok (.iload_n 2, 1) := by decide +kernel
theorem dL_buy_3 : decode cL_buy 3 = .ok (.invokevirtual 9, 3) := by decide +kernel
theorem dL_buy_6 : decode cL_buy 6 = .ok (.ireturn, 1) := by decide +kernel
theorem dL_buy_7 : decode cL_buy 7 = .ok (.astore_n 3, 1) := by decide +kernel
theorem dL_buy_8 : decode cL_buy 8 = .ok (.bipush (-3), 2) := by decide +kernel
theorem dL_buy_10 : decode cL_buy 10 = .ok (.ireturn, 1) := by decide +kernel
theorem dL_recipe_0 : decode cL_recipe 0 = .ok (.aload_n 0, 1) := by decide +kernel
theorem dL_recipe_1 : decode cL_recipe 1 = .ok (.iload_n 1, 1) := by decide +kernel
theorem dL_recipe_2 : decode cL_recipe 2 = .ok (.iload_n 2, 1) := by decide +kernel
theorem dL_recipe_3 : decode cL_recipe 3 = .ok (.invokevirtual 17, 3) := by decide +kernel
theorem dL_recipe_6 : decode cL_recipe 6 = .ok (.ireturn, 1) := by decide +kernel
theorem dL_recipe_7 : decode cL_recipe 7 = .ok (.astore_n 3, 1) := by decide +kernel
theorem dL_recipe_8 : decode cL_recipe 8 = .ok (.bipush (-3), 2) := by decide +kernel
theorem dL_recipe_10 : decode cL_recipe 10 = .ok (.ireturn, 1) := by decide +kernel
theorem dL_mix_0 : decode cL_mix 0 = .ok (.aload_n 0, 1) := by decide +kernel
theorem dL_mix_1 : decode cL_mix 1 = .ok (.iload_n 1, 1) := by decide +kernel
theorem dL_mix_2 : decode cL_mix 2 = .ok (.invokevirtual 20, 3) := by decide +kernel
theorem dL_mix_5 : decode cL_mix 5 = .ok (.ireturn, 1) := by decide +kernel
theorem dL_mix_6 : decode cL_mix 6 = .ok (.astore_n 2, 1) := by decide +kernel
theorem dL_mix_7 : decode cL_mix 7 = .ok (.bipush (-3), 2) := by decide +kernel
theorem dL_mix_9 : decode cL_mix 9 = .ok (.ireturn, 1) := by decide +kernel
theorem dL_print_0 : decode cL_print 0 = .ok (.aload_n 0, 1) := by decide +kernel
theorem dL_print_1 : decode cL_print 1 = .ok (.iload_n 1, 1) := by decide +kernel
theorem dL_print_2 : decode cL_print 2 = .ok (.iload_n 2, 1) := by decide +kernel
theorem dL_print_3 : decode cL_print 3 = .ok (.iload_n 3, 1) := by decide +kernel
theorem dL_print_4 : decode cL_print 4 = .ok (.invokevirtual 24, 3) := by decide +kernel
theorem dL_print_7 : decode cL_print 7 = .ok (.ireturn, 1) := by decide +kernel
theorem dL_print_8 : decode cL_print 8 = .ok (.astore 4, 2) := by decide +kernel
theorem dL_print_10 : decode cL_print 10 = .ok (.bipush (-3), 2) := by decide +kernel
theorem dL_print_12 : decode cL_print 12 = .ok (.ireturn, 1) := by decide +kernel
theorem dL_sums_0 : decode cL_sums 0 = .ok (.iconst 1, 1) := by decide +kernel
theorem dL_sums_1 : decode cL_sums 1 = .ok (.istore_n 2, 1) := by decide +kernel
theorem dL_sums_2 : decode cL_sums 2 = .ok (.iconst 0, 1) := by decide +kernel
theorem dL_sums_3 : decode cL_sums 3 = .ok (.istore_n 3, 1) := by decide +kernel
theorem dL_sums_4 : decode cL_sums 4 = .ok (.iload_n 3, 1) := by decide +kernel
theorem dL_sums_5 : decode cL_sums 5 = .ok (.iconst 4, 1) := by decide +kernel
theorem dL_sums_6 : decode cL_sums 6 = .ok (.if_icmp .ge 129, 3) := by decide +kernel
theorem dL_sums_9 : decode cL_sums 9 = .ok (.iload_n 2, 1) := by decide +kernel
theorem dL_sums_10 : decode cL_sums 10 = .ok (.ifCond .eq 125, 3) := by decide +kernel
theorem dL_sums_13 : decode cL_sums 13 = .ok (.iconst 0, 1) := by decide +kernel
theorem dL_sums_14 : decode cL_sums 14 = .ok (.istore 4, 2) := by decide +kernel
theorem dL_sums_16 : decode cL_sums 16 = .ok (.iconst 0, 1) := by decide +kernel
theorem dL_sums_17 : decode cL_sums 17 = .ok (.istore 5, 2) := by decide +kernel
theorem dL_sums_19 : decode cL_sums 19 = .ok (.iload 5, 2) := by decide +kernel
theorem dL_sums_21 : decode cL_sums 21 = .ok (.aload_n 0, 1) := by decide +kernel
theorem dL_sums_22 : decode cL_sums 22 = .ok (.invokevirtual 28, 3) := by decide +kernel
theorem dL_sums_25 : decode cL_sums 25 = .ok (.if_icmp .ge 41, 3) := by decide +kernel
theorem dL_sums_28 : decode cL_sums 28 = .ok (.iload 4, 2) := by decide +kernel
theorem dL_sums_30 : decode cL_sums 30 = .ok (.aload_n 0, 1) := by decide +kernel
theorem dL_sums_31 : decode cL_sums 31 = .ok (.iload 5, 2) := by decide +kernel
theorem dL_sums_33 : decode cL_sums 33 = .ok (.iload_n 3, 1) := by decide +kernel
theorem dL_sums_34 : decode cL_sums 34 = .ok (.invokevirtual 32, 3) := by decide +kernel
theorem dL_sums_37 : decode cL_sums 37 = .ok (.iadd, 1) := by decide +kernel
theorem dL_sums_38 : decode cL_sums 38 = .ok (.istore 4, 2) := by decide +kernel
theorem dL_sums_40 : decode cL_sums 40 = .ok (.iload_n 2, 1) := by decide +kernel
theorem dL_sums_41 : decode cL_sums 41 = .ok (.ifCond .eq 17, 3) := by decide +kernel
theorem dL_sums_44 : decode cL_sums 44 = .ok (.aload_n 0, 1) := by decide +kernel
theorem dL_sums_45 : decode cL_sums 45 = .ok (.iload 5, 2) := by decide +kernel
theorem dL_sums_47 : decode cL_sums 47 = .ok (.iload_n 3, 1) := by decide +kernel
theorem dL_sums_48 : decode cL_sums 48 = .ok (.invokevirtual 32, 3) := by decide +kernel
theorem dL_sums_51 : decode cL_sums 51 = .ok (.ifCond .lt 7, 3) := by decide +kernel
theorem dL_sums_54 : decode cL_sums 54 = .ok (.iconst 1, 1) := by decide +kernel
theorem dL_sums_55 : decode cL_sums 55 = .ok (.goto 4, 3) := by decide +kernel
theorem dL_sums_58 : decode cL_sums 58 = .ok (.iconst 0, 1) := by decide +kernel
theorem dL_sums_59 : decode cL_sums 59 = .ok (.istore_n 2, 1) := by decide +kernel
theorem dL_sums_60 : decode cL_sums 60 = .ok (.iinc 5 1, 3) := by decide +kernel
theorem dL_sums_63 : decode cL_sums 63 = .ok (.goto (-44), 3) := by decide +kernel
theorem dL_sums_66 : decode cL_sums 66 = .ok (.iload_n 2, 1) := by decide +kernel
theorem dL_sums_67 : decode cL_sums 67 = .ok (.ifCond .eq 60, 3) := by decide +kernel
theorem dL_sums_70 : decode cL_sums 70 = .ok (.aload_n 0, 1) := by decide +kernel
theorem dL_sums_71 : decode cL_sums 71 = .ok (.iload_n 3, 1) := by decide +kernel
theorem dL_sums_72 : decode cL_sums 72 = .ok (.iconst 1, 1) := by decide +kernel
theorem dL_sums_73 : decode cL_sums 73 = .ok (.invokevirtual 35, 3) := by decide +kernel
theorem dL_sums_76 : decode cL_sums 76 = .ok (.iload 4, 2) := by decide +kernel
theorem dL_sums_78 : decode cL_sums 78 = .ok (.if_icmp .ne 49, 3) := by decide +kernel
theorem dL_sums_81 : decode cL_sums 81 = .ok (.aload_n 0, 1) := by decide +kernel
theorem dL_sums_82 : decode cL_sums 82 = .ok (.iload_n 3, 1) := by decide +kernel
theorem dL_sums_83 : decode cL_sums 83 = .ok (.iconst 0, 1) := by decide +kernel
theorem dL_sums_84 : decode cL_sums 84 = .ok (.invokevirtual 35, 3) := by decide +kernel
theorem dL_sums_87 : decode cL_sums 87 = .ok (.ifCond .lt 40, 3) := by decide +kernel
theorem dL_sums_90 : decode cL_sums 90 = .ok (.aload_n 0, 1) := by decide +kernel
theorem dL_sums_91 : decode cL_sums 91 = .ok (.iload_n 3, 1) := by decide +kernel
theorem dL_sums_92 : decode cL_sums 92 = .ok (.iconst 0, 1) := by decide +kernel
theorem dL_sums_93 : decode cL_sums 93 = .ok (.invokevirtual 35, 3) := by decide +kernel
theorem dL_sums_96 : decode cL_sums 96 = .ok (.iload 4, 2) := by decide +kernel
theorem dL_sums_98 : decode cL_sums 98 = .ok (.iadd, 1) := by decide +kernel
theorem dL_sums_99 : decode cL_sums 99 = .ok (.aload_n 0, 1) := by decide +kernel
theorem dL_sums_100 : decode cL_sums 100 = .ok (.iload_n 3, 1) := by decide +kernel
theorem dL_sums_101 : decode cL_sums 101 = .ok (.iconst 2, 1) := by decide +kernel
theorem dL_sums_102 : decode cL_sums 102 = .ok (.invokevirtual 35, 3) := by decide +kernel
theorem dL_sums_105 : decode cL_sums 105 = .ok (.iadd, 1) := by decide +kernel
theorem dL_sums_106 : decode cL_sums 106 = .ok (.aload_n 0, 1) := by decide +kernel
theorem dL_sums_107 : decode cL_sums 107 = .ok (.iload_n 3, 1) := by decide +kernel
theorem dL_sums_108 : decode cL_sums 108 = .ok (.iconst 3, 1) := by decide +kernel
theorem dL_sums_109 : decode cL_sums 109 = .ok (.invokevirtual 35, 3) := by decide +kernel
theorem dL_sums_112 : decode cL_sums 112 = .ok (.iadd, 1) := by decide +kernel
theorem dL_sums_113 : decode cL_sums 113 = .ok (.sipush 1000, 3) := by decide +kernel
theorem dL_sums_116 : decode cL_sums 116 = .ok (.aload_n 1, 1) := by decide +kernel
theorem dL_sums_117 : decode cL_sums 117 = .ok (.iload_n 3, 1) := by decide +kernel
theorem dL_sums_118 : decode cL_sums 118 = .ok (.iaload, 1) := by decide +kernel
theorem dL_sums_119 : decode cL_sums 119 = .ok (.imul, 1) := by decide +kernel
theorem dL_sums_120 : decode cL_sums 120 = .ok (.if_icmp .ne 7, 3) := by decide +kernel
theorem dL_sums_123 : decode cL_sums 123 = .ok (.iconst 1, 1) := by decide +kernel
theorem dL_sums_124 : decode cL_sums 124 = .ok (.goto 4, 3) := by decide +kernel
theorem dL_sums_127 : decode cL_sums 127 = .ok (.iconst 0, 1) := by decide +kernel
theorem dL_sums_128 : decode cL_sums 128 = .ok (.istore_n 2, 1) := by decide +kernel
theorem dL_sums_129 : decode cL_sums 129 = .ok (.iinc 3 1, 3) := by decide +kernel
theorem dL_sums_132 : decode cL_sums 132 = .ok (.goto (-128), 3) := by decide +kernel
theorem dL_sums_135 : decode cL_sums 135 = .ok (.iload_n 2, 1) := by decide +kernel
theorem dL_sums_136 : decode cL_sums 136 = .ok (.ifCond .eq 23, 3) := by decide +kernel
theorem dL_sums_139 : decode cL_sums 139 = .ok (.aload_n 0, 1) := by decide +kernel
theorem dL_sums_140 : decode cL_sums 140 = .ok (.invokevirtual 38, 3) := by decide +kernel
theorem dL_sums_143 : decode cL_sums 143 = .ok (.ifCond .lt 16, 3) := by decide +kernel
theorem dL_sums_146 : decode cL_sums 146 = .ok (.aload_n 0, 1) := by decide +kernel
theorem dL_sums_147 : decode cL_sums 147 = .ok (.invokevirtual 38, 3) := by decide +kernel
theorem dL_sums_150 : decode cL_sums 150 = .ok (.bipush 10, 2) := by decide +kernel
theorem dL_sums_152 : decode cL_sums 152 = .ok (.if_icmp .ge 7, 3) := by decide +kernel
theorem dL_sums_155 : decode cL_sums 155 = .ok (.iconst 1, 1) := by decide +kernel
theorem dL_sums_156 : decode cL_sums 156 = .ok (.goto 4, 3) := by decide +kernel
theorem dL_sums_159 : decode cL_sums 159 = .ok (.iconst 0, 1) := by decide +kernel
theorem dL_sums_160 : decode cL_sums 160 = .ok (.ireturn, 1) := by decide +kernel
theorem dL_mixes_0 : decode cL_mixes 0 = .ok (.aload_n 0, 1) := by decide +kernel
theorem dL_mixes_1 : decode cL_mixes 1 = .ok (.iload_n 1, 1) := by decide +kernel
theorem dL_mixes_2 : decode cL_mixes 2 = .ok (.invokevirtual 41, 3) := by decide +kernel
theorem dL_mixes_5 : decode cL_mixes 5 = .ok (.istore_n 2, 1) := by decide +kernel
theorem dL_mixes_6 : decode cL_mixes 6 = .ok (.aload_n 0, 1) := by decide +kernel
theorem dL_mixes_7 : decode cL_mixes 7 = .ok (.iload_n 1, 1) := by decide +kernel
theorem dL_mixes_8 : decode cL_mixes 8 = .ok (.bipush 6, 2) := by decide +kernel
theorem dL_mixes_10 : decode cL_mixes 10 = .ok (.invokestatic 44, 3) := by decide +kernel
theorem dL_mixes_13 : decode cL_mixes 13 = .ok (.istore_n 3, 1) := by decide +kernel
theorem dL_mixes_14 : decode cL_mixes 14 = .ok (.iload_n 3, 1) := by decide +kernel
theorem dL_mixes_15 : decode cL_mixes 15 = .ok (.bipush (-3), 2) := by decide +kernel
theorem dL_mixes_17 : decode cL_mixes 17 = .ok (.if_icmp .ne 7, 3) := by decide +kernel
theorem dL_mixes_20 : decode cL_mixes 20 = .ok (.iconst 0, 1) := by decide +kernel
theorem dL_mixes_21 : decode cL_mixes 21 = .ok (.goto 9, 3) := by decide +kernel
theorem dL_mixes_24 : decode cL_mixes 24 = .ok (.aload_n 0, 1) := by decide +kernel
theorem dL_mixes_25 : decode cL_mixes 25 = .ok (.iload_n 1, 1) := by decide +kernel
theorem dL_mixes_26 : decode cL_mixes 26 = .ok (.iconst 4, 1) := by decide +kernel
theorem dL_mixes_27 : decode cL_mixes 27 = .ok (.invokestatic 44, 3) := by decide +kernel
theorem dL_mixes_30 : decode cL_mixes 30 = .ok (.istore 4, 2) := by decide +kernel
theorem dL_mixes_32 : decode cL_mixes 32 = .ok (.iload_n 3, 1) := by decide +kernel
theorem dL_mixes_33 : decode cL_mixes 33 = .ok (.bipush (-3), 2) := by decide +kernel
theorem dL_mixes_35 : decode cL_mixes 35 = .ok (.if_icmp .ne 7, 3) := by decide +kernel
theorem dL_mixes_38 : decode cL_mixes 38 = .ok (.iconst (-1), 1) := by decide +kernel
theorem dL_mixes_39 : decode cL_mixes 39 = .ok (.goto 9, 3) := by decide +kernel
theorem dL_mixes_42 : decode cL_mixes 42 = .ok (.aload_n 0, 1) := by decide +kernel
theorem dL_mixes_43 : decode cL_mixes 43 = .ok (.iload_n 1, 1) := by decide +kernel
theorem dL_mixes_44 : decode cL_mixes 44 = .ok (.iconst 5, 1) := by decide +kernel
theorem dL_mixes_45 : decode cL_mixes 45 = .ok (.invokestatic 44, 3) := by decide +kernel
theorem dL_mixes_48 : decode cL_mixes 48 = .ok (.istore 5, 2) := by decide +kernel
theorem dL_mixes_50 : decode cL_mixes 50 = .ok (.iconst 0, 1) := by decide +kernel
theorem dL_mixes_51 : decode cL_mixes 51 = .ok (.istore 6, 2) := by decide +kernel
theorem dL_mixes_53 : decode cL_mixes 53 = .ok (.iconst 0, 1) := by decide +kernel
theorem dL_mixes_54 : decode cL_mixes 54 = .ok (.istore 7, 2) := by decide +kernel
theorem dL_mixes_56 : decode cL_mixes 56 = .ok (.iload 7, 2) := by decide +kernel
theorem dL_mixes_58 : decode cL_mixes 58 = .ok (.iconst 4, 1) := by decide +kernel
theorem dL_mixes_59 : decode cL_mixes 59 = .ok (.if_icmp .ge 27, 3) := by decide +kernel
theorem dL_mixes_62 : decode cL_mixes 62 = .ok (.iload_n 3, 1) := by decide +kernel
theorem dL_mixes_63 : decode cL_mixes 63 = .ok (.bipush (-3), 2) := by decide +kernel
theorem dL_mixes_65 : decode cL_mixes 65 = .ok (.if_icmp .eq 21, 3) := by decide +kernel
theorem dL_mixes_68 : decode cL_mixes 68 = .ok (.iload 6, 2) := by decide +kernel
theorem dL_mixes_70 : decode cL_mixes 70 = .ok (.aload_n 0, 1) := by decide +kernel
theorem dL_mixes_71 : decode cL_mixes 71 = .ok (.iload_n 1, 1) := by decide +kernel
theorem dL_mixes_72 : decode cL_mixes 72 = .ok (.iload 7, 2) := by decide +kernel
theorem dL_mixes_74 : decode cL_mixes 74 = .ok (.invokestatic 44, 3) := by decide +kernel
theorem dL_mixes_77 : decode cL_mixes 77 = .ok (.iadd, 1) := by decide +kernel
theorem dL_mixes_78 : decode cL_mixes 78 = .ok (.istore 6, 2) := by decide +kernel
theorem dL_mixes_80 : decode cL_mixes 80 = .ok (.iinc 7 1, 3) := by decide +kernel
theorem dL_mixes_83 : decode cL_mixes 83 = .ok (.goto (-27), 3) := by decide +kernel
theorem dL_mixes_86 : decode cL_mixes 86 = .ok (.iload_n 3, 1) := by decide +kernel
theorem dL_mixes_87 : decode cL_mixes 87 = .ok (.bipush (-3), 2) := by decide +kernel
theorem dL_mixes_89 : decode cL_mixes 89 = .ok (.if_icmp .eq 41, 3) := by decide +kernel
theorem dL_mixes_92 : decode cL_mixes 92 = .ok (.iload 6, 2) := by decide +kernel
theorem dL_mixes_94 : decode cL_mixes 94 = .ok (.iload 4, 2) := by decide +kernel
theorem dL_mixes_96 : decode cL_mixes 96 = .ok (.iadd, 1) := by decide +kernel
theorem dL_mixes_97 : decode cL_mixes 97 = .ok (.bipush 10, 2) := by decide +kernel
theorem dL_mixes_99 : decode cL_mixes 99 = .ok (.if_icmp .ne 35, 3) := by decide +kernel
theorem dL_mixes_102 : decode cL_mixes 102 = .ok (.iload 4, 2) := by decide +kernel
theorem dL_mixes_104 : decode cL_mixes 104 = .ok (.ifCond .ne 7, 3) := by decide +kernel
theorem dL_mixes_107 : decode cL_mixes 107 = .ok (.iconst 1, 1) := by decide +kernel
theorem dL_mixes_108 : decode cL_mixes 108 = .ok (.goto 4, 3) := by decide +kernel
theorem dL_mixes_111 : decode cL_mixes 111 = .ok (.iconst 0, 1) := by decide +kernel
theorem dL_mixes_112 : decode cL_mixes 112 = .ok (.iload 5, 2) := by decide +kernel
theorem dL_mixes_114 : decode cL_mixes 114 = .ok (.iconst (-1), 1) := by decide +kernel
theorem dL_mixes_115 : decode cL_mixes 115 = .ok (.if_icmp .ne 7, 3) := by decide +kernel
theorem dL_mixes_118 : decode cL_mixes 118 = .ok (.iconst 1, 1) := by decide +kernel
theorem dL_mixes_119 : decode cL_mixes 119 = .ok (.goto 4, 3) := by decide +kernel
theorem dL_mixes_122 : decode cL_mixes 122 = .ok (.iconst 0, 1) := by decide +kernel
theorem dL_mixes_123 : decode cL_mixes 123 = .ok (.if_icmp .ne 11, 3) := by decide +kernel
theorem dL_mixes_126 : decode cL_mixes 126 = .ok (.iload_n 3, 1) := by decide +kernel
theorem dL_mixes_127 : decode cL_mixes 127 = .ok (.ifCond .lt 7, 3) := by decide +kernel
theorem dL_mixes_130 : decode cL_mixes 130 = .ok (.iconst 1, 1) := by decide +kernel
theorem dL_mixes_131 : decode cL_mixes 131 = .ok (.goto 4, 3) := by decide +kernel
theorem dL_mixes_134 : decode cL_mixes 134 = .ok (.iconst 0, 1) := by decide +kernel
theorem dL_mixes_135 : decode cL_mixes 135 = .ok (.istore 7, 2) := by decide +kernel
theorem dL_mixes_137 : decode cL_mixes 137 = .ok (.aload_n 0, 1) := by decide +kernel
theorem dL_mixes_138 : decode cL_mixes 138 = .ok (.iload_n 1, 1) := by decide +kernel
theorem dL_mixes_139 : decode cL_mixes 139 = .ok (.invokestatic 49, 3) := by decide +kernel
theorem dL_mixes_142 : decode cL_mixes 142 = .ok (.istore 8, 2) := by decide +kernel
theorem dL_mixes_144 : decode cL_mixes 144 = .ok (.iload 7, 2) := by decide +kernel
theorem dL_mixes_146 : decode cL_mixes 146 = .ok (.ifCond .eq 45, 3) := by decide +kernel
theorem dL_mixes_149 : decode cL_mixes 149 = .ok (.iload 8, 2) := by decide +kernel
theorem dL_mixes_151 : decode cL_mixes 151 = .ok (.bipush (-3), 2) := by decide +kernel
theorem dL_mixes_153 : decode cL_mixes 153 = .ok (.if_icmp .ne 15, 3) := by decide +kernel
theorem dL_mixes_156 : decode cL_mixes 156 = .ok (.aload_n 0, 1) := by decide +kernel
theorem dL_mixes_157 : decode cL_mixes 157 = .ok (.iload_n 1, 1) := by decide +kernel
theorem dL_mixes_158 : decode cL_mixes 158 = .ok (.invokevirtual 41, 3) := by decide +kernel
theorem dL_mixes_161 : decode cL_mixes 161 = .ok (.iload_n 2, 1) := by decide +kernel
theorem dL_mixes_162 : decode cL_mixes 162 = .ok (.if_icmp .ne 29, 3) := by decide +kernel
theorem dL_mixes_165 : decode cL_mixes 165 = .ok (.goto 22, 3) := by decide +kernel
theorem dL_mixes_168 : decode cL_mixes 168 = .ok (.iload 8, 2) := by decide +kernel
theorem dL_mixes_170 : decode cL_mixes 170 = .ok (.iload_n 3, 1) := by decide +kernel
theorem dL_mixes_171 : decode cL_mixes 171 = .ok (.if_icmp .ne 20, 3) := by decide +kernel
theorem dL_mixes_174 : decode cL_mixes 174 = .ok (.iload_n 2, 1) := by decide +kernel
theorem dL_mixes_175 : decode cL_mixes 175 = .ok (.ifCond .ne 16, 3) := by decide +kernel
theorem dL_mixes_178 : decode cL_mixes 178 = .ok (.aload_n 0, 1) := by decide +kernel
theorem dL_mixes_179 : decode cL_mixes 179 = .ok (.iload_n 1, 1) := by decide +kernel
theorem dL_mixes_180 : decode cL_mixes 180 = .ok (.invokevirtual 41, 3) := by decide +kernel
theorem dL_mixes_183 : decode cL_mixes 183 = .ok (.iconst 1, 1) := by decide +kernel
theorem dL_mixes_184 : decode cL_mixes 184 = .ok (.if_icmp .ne 7, 3) := by decide +kernel
theorem dL_mixes_187 : decode cL_mixes 187 = .ok (.iconst 1, 1) := by decide +kernel
theorem dL_mixes_188 : decode cL_mixes 188 = .ok (.goto 4, 3) := by decide +kernel
theorem dL_mixes_191 : decode cL_mixes 191 = .ok (.iconst 0, 1) := by decide +kernel
theorem dL_mixes_192 : decode cL_mixes 192 = .ok (.ireturn, 1) := by decide +kernel
theorem dL_prints_0 : decode cL_prints 0 = .ok (.aload_n 0, 1) := by decide +kernel
theorem dL_prints_1 : decode cL_prints 1 = .ok (.iload_n 1, 1) := by decide +kernel
theorem dL_prints_2 : decode cL_prints 2 = .ok (.invokevirtual 41, 3) := by decide +kernel
theorem dL_prints_5 : decode cL_prints 5 = .ok (.istore 4, 2) := by decide +kernel
theorem dL_prints_7 : decode cL_prints 7 = .ok (.aload_n 0, 1) := by decide +kernel
theorem dL_prints_8 : decode cL_prints 8 = .ok (.invokevirtual 28, 3) := by decide +kernel
theorem dL_prints_11 : decode cL_prints 11 = .ok (.istore 5, 2) := by decide +kernel
theorem dL_prints_13 : decode cL_prints 13 = .ok (.iload_n 3, 1) := by decide +kernel
theorem dL_prints_14 : decode cL_prints 14 = .ok (.iconst 3, 1) := by decide +kernel
theorem dL_prints_15 : decode cL_prints 15 = .ok (.invokestatic 52, 3) := by decide +kernel
theorem dL_prints_18 : decode cL_prints 18 = .ok (.ifCond .ne 7, 3) := by decide +kernel
theorem dL_prints_21 : decode cL_prints 21 = .ok (.iload_n 2, 1) := by decide +kernel
theorem dL_prints_22 : decode cL_prints 22 = .ok (.goto 12, 3) := by decide +kernel
theorem dL_prints_25 : decode cL_prints 25 = .ok (.iconst 1, 1) := by decide +kernel
theorem dL_prints_26 : decode cL_prints 26 = .ok (.iload_n 3, 1) := by decide +kernel
theorem dL_prints_27 : decode cL_prints 27 = .ok (.iconst 2, 1) := by decide +kernel
theorem dL_prints_28 : decode cL_prints 28 = .ok (.ishr, 1) := by decide +kernel
theorem dL_prints_29 : decode cL_prints 29 = .ok (.iload_n 2, 1) := by decide +kernel
theorem dL_prints_30 : decode cL_prints 30 = .ok (.invokestatic 52, 3) := by decide +kernel
theorem dL_prints_33 : decode cL_prints 33 = .ok (.iadd, 1) := by decide +kernel
theorem dL_prints_34 : decode cL_prints 34 = .ok (.istore 6, 2) := by decide +kernel
theorem dL_prints_36 : decode cL_prints 36 = .ok (.aload_n 0, 1) := by decide +kernel
theorem dL_prints_37 : decode cL_prints 37 = .ok (.iload_n 1, 1) := by decide +kernel
theorem dL_prints_38 : decode cL_prints 38 = .ok (.iload 6, 2) := by decide +kernel
theorem dL_prints_40 : decode cL_prints 40 = .ok (.iload_n 3, 1) := by decide +kernel
theorem dL_prints_41 : decode cL_prints 41 = .ok (.iconst 2, 1) := by decide +kernel
theorem dL_prints_42 : decode cL_prints 42 = .ok (.invokestatic 52, 3) := by decide +kernel
theorem dL_prints_45 : decode cL_prints 45 = .ok (.ifCond .ne 7, 3) := by decide +kernel
theorem dL_prints_48 : decode cL_prints 48 = .ok (.iconst 1, 1) := by decide +kernel
theorem dL_prints_49 : decode cL_prints 49 = .ok (.goto 4, 3) := by decide +kernel
theorem dL_prints_52 : decode cL_prints 52 = .ok (.iconst 0, 1) := by decide +kernel
theorem dL_prints_53 : decode cL_prints 53 = .ok (.invokestatic 55, 3) := by decide +kernel
theorem dL_prints_56 : decode cL_prints 56 = .ok (.istore 7, 2) := by decide +kernel
theorem dL_prints_58 : decode cL_prints 58 = .ok (.iload 7, 2) := by decide +kernel
theorem dL_prints_60 : decode cL_prints 60 = .ok (.bipush (-3), 2) := by decide +kernel
theorem dL_prints_62 : decode cL_prints 62 = .ok (.if_icmp .ne 28, 3) := by decide +kernel
theorem dL_prints_65 : decode cL_prints 65 = .ok (.aload_n 0, 1) := by decide +kernel
theorem dL_prints_66 : decode cL_prints 66 = .ok (.iload_n 1, 1) := by decide +kernel
theorem dL_prints_67 : decode cL_prints 67 = .ok (.invokevirtual 41, 3) := by decide +kernel
theorem dL_prints_70 : decode cL_prints 70 = .ok (.iload 4, 2) := by decide +kernel
theorem dL_prints_72 : decode cL_prints 72 = .ok (.if_icmp .ne 16, 3) := by decide +kernel
theorem dL_prints_75 : decode cL_prints 75 = .ok (.aload_n 0, 1) := by decide +kernel
theorem dL_prints_76 : decode cL_prints 76 = .ok (.invokevirtual 28, 3) := by decide +kernel
theorem dL_prints_79 : decode cL_prints 79 = .ok (.iload 5, 2) := by decide +kernel
theorem dL_prints_81 : decode cL_prints 81 = .ok (.if_icmp .ne 7, 3) := by decide +kernel
theorem dL_prints_84 : decode cL_prints 84 = .ok (.iconst 1, 1) := by decide +kernel
theorem dL_prints_85 : decode cL_prints 85 = .ok (.goto 4, 3) := by decide +kernel
theorem dL_prints_88 : decode cL_prints 88 = .ok (.iconst 0, 1) := by decide +kernel
theorem dL_prints_89 : decode cL_prints 89 = .ok (.ireturn, 1) := by decide +kernel
theorem dL_prints_90 : decode cL_prints 90 = .ok (.iconst 0, 1) := by decide +kernel
theorem dL_prints_91 : decode cL_prints 91 = .ok (.istore 8, 2) := by decide +kernel
theorem dL_prints_93 : decode cL_prints 93 = .ok (.iconst 0, 1) := by decide +kernel
theorem dL_prints_94 : decode cL_prints 94 = .ok (.istore 9, 2) := by decide +kernel
theorem dL_prints_96 : decode cL_prints 96 = .ok (.iload 9, 2) := by decide +kernel
theorem dL_prints_98 : decode cL_prints 98 = .ok (.iconst 4, 1) := by decide +kernel
theorem dL_prints_99 : decode cL_prints 99 = .ok (.if_icmp .ge 27, 3) := by decide +kernel
theorem dL_prints_102 : decode cL_prints 102 = .ok (.iload 7, 2) := by decide +kernel
theorem dL_prints_104 : decode cL_prints 104 = .ok (.ifCond .lt 22, 3) := by decide +kernel
theorem dL_prints_107 : decode cL_prints 107 = .ok (.iload 8, 2) := by decide +kernel
theorem dL_prints_109 : decode cL_prints 109 = .ok (.aload_n 0, 1) := by decide +kernel
theorem dL_prints_110 : decode cL_prints 110 = .ok (.iload 7, 2) := by decide +kernel
theorem dL_prints_112 : decode cL_prints 112 = .ok (.iload 9, 2) := by decide +kernel
theorem dL_prints_114 : decode cL_prints 114 = .ok (.invokevirtual 32, 3) := by decide +kernel
theorem dL_prints_117 : decode cL_prints 117 = .ok (.iadd, 1) := by decide +kernel
theorem dL_prints_118 : decode cL_prints 118 = .ok (.istore 8, 2) := by decide +kernel
theorem dL_prints_120 : decode cL_prints 120 = .ok (.iinc 9 1, 3) := by decide +kernel
theorem dL_prints_123 : decode cL_prints 123 = .ok (.goto (-27), 3) := by decide +kernel
theorem dL_prints_126 : decode cL_prints 126 = .ok (.iload 4, 2) := by decide +kernel
theorem dL_prints_128 : decode cL_prints 128 = .ok (.iconst 1, 1) := by decide +kernel
theorem dL_prints_129 : decode cL_prints 129 = .ok (.if_icmp .ne 71, 3) := by decide +kernel
theorem dL_prints_132 : decode cL_prints 132 = .ok (.aload_n 0, 1) := by decide +kernel
theorem dL_prints_133 : decode cL_prints 133 = .ok (.iload_n 1, 1) := by decide +kernel
theorem dL_prints_134 : decode cL_prints 134 = .ok (.invokevirtual 41, 3) := by decide +kernel
theorem dL_prints_137 : decode cL_prints 137 = .ok (.iconst 2, 1) := by decide +kernel
theorem dL_prints_138 : decode cL_prints 138 = .ok (.if_icmp .ne 62, 3) := by decide +kernel
theorem dL_prints_141 : decode cL_prints 141 = .ok (.iload 6, 2) := by decide +kernel
theorem dL_prints_143 : decode cL_prints 143 = .ok (.iload_n 2, 1) := by decide +kernel
theorem dL_prints_144 : decode cL_prints 144 = .ok (.if_icmp .ne 21, 3) := by decide +kernel
theorem dL_prints_147 : decode cL_prints 147 = .ok (.iload 7, 2) := by decide +kernel
theorem dL_prints_149 : decode cL_prints 149 = .ok (.iconst (-1), 1) := by decide +kernel
theorem dL_prints_150 : decode cL_prints 150 = .ok (.if_icmp .ne 50, 3) := by decide +kernel
theorem dL_prints_153 : decode cL_prints 153 = .ok (.aload_n 0, 1) := by decide +kernel
theorem dL_prints_154 : decode cL_prints 154 = .ok (.invokevirtual 28, 3) := by decide +kernel
theorem dL_prints_157 : decode cL_prints 157 = .ok (.iload 5, 2) := by decide +kernel
theorem dL_prints_159 : decode cL_prints 159 = .ok (.if_icmp .ne 41, 3) := by decide +kernel
theorem dL_prints_162 : decode cL_prints 162 = .ok (.goto 34, 3) := by decide +kernel
theorem dL_prints_165 : decode cL_prints 165 = .ok (.iload 7, 2) := by decide +kernel
theorem dL_prints_167 : decode cL_prints 167 = .ok (.iload 5, 2) := by decide +kernel
theorem dL_prints_169 : decode cL_prints 169 = .ok (.if_icmp .ne 31, 3) := by decide +kernel
theorem dL_prints_172 : decode cL_prints 172 = .ok (.aload_n 0, 1) := by decide +kernel
theorem dL_prints_173 : decode cL_prints 173 = .ok (.invokevirtual 28, 3) := by decide +kernel
theorem dL_prints_176 : decode cL_prints 176 = .ok (.iload 5, 2) := by decide +kernel
theorem dL_prints_178 : decode cL_prints 178 = .ok (.iconst 1, 1) := by decide +kernel
theorem dL_prints_179 : decode cL_prints 179 = .ok (.iadd, 1) := by decide +kernel
theorem dL_prints_180 : decode cL_prints 180 = .ok (.if_icmp .ne 20, 3) := by decide +kernel
theorem dL_prints_183 : decode cL_prints 183 = .ok (.iload 8, 2) := by decide +kernel
theorem dL_prints_185 : decode cL_prints 185 = .ok (.sipush 1000, 3) := by decide +kernel
theorem dL_prints_188 : decode cL_prints 188 = .ok (.iload_n 2, 1) := by decide +kernel
theorem dL_prints_189 : decode cL_prints 189 = .ok (.iload 6, 2) := by decide +kernel
theorem dL_prints_191 : decode cL_prints 191 = .ok (.isub, 1) := by decide +kernel
theorem dL_prints_192 : decode cL_prints 192 = .ok (.imul, 1) := by decide +kernel
theorem dL_prints_193 : decode cL_prints 193 = .ok (.if_icmp .ne 7, 3) := by decide +kernel
theorem dL_prints_196 : decode cL_prints 196 = .ok (.iconst 1, 1) := by decide +kernel
theorem dL_prints_197 : decode cL_prints 197 = .ok (.goto 4, 3) := by decide +kernel
theorem dL_prints_200 : decode cL_prints 200 = .ok (.iconst 0, 1) := by decide +kernel
theorem dL_prints_201 : decode cL_prints 201 = .ok (.istore 9, 2) := by decide +kernel
theorem dL_prints_203 : decode cL_prints 203 = .ok (.iload 9, 2) := by decide +kernel
theorem dL_prints_205 : decode cL_prints 205 = .ok (.ifCond .eq 24, 3) := by decide +kernel
theorem dL_prints_208 : decode cL_prints 208 = .ok (.iload_n 3, 1) := by decide +kernel
theorem dL_prints_209 : decode cL_prints 209 = .ok (.iconst 2, 1) := by decide +kernel
theorem dL_prints_210 : decode cL_prints 210 = .ok (.invokestatic 52, 3) := by decide +kernel
theorem dL_prints_213 : decode cL_prints 213 = .ok (.ifCond .gt 12, 3) := by decide +kernel
theorem dL_prints_216 : decode cL_prints 216 = .ok (.aload_n 0, 1) := by decide +kernel
theorem dL_prints_217 : decode cL_prints 217 = .ok (.iload_n 1, 1) := by decide +kernel
theorem dL_prints_218 : decode cL_prints 218 = .ok (.iload_n 1, 1) := by decide +kernel
theorem dL_prints_219 : decode cL_prints 219 = .ok (.invokevirtual 58, 3) := by decide +kernel
theorem dL_prints_222 : decode cL_prints 222 = .ok (.ifCond .ne 7, 3) := by decide +kernel
theorem dL_prints_225 : decode cL_prints 225 = .ok (.iconst 1, 1) := by decide +kernel
theorem dL_prints_226 : decode cL_prints 226 = .ok (.goto 4, 3) := by decide +kernel
theorem dL_prints_229 : decode cL_prints 229 = .ok (.iconst 0, 1) := by decide +kernel
theorem dL_prints_230 : decode cL_prints 230 = .ok (.ireturn, 1) := by decide +kernel
theorem dL_law_0 : decode cL_law 0 = .ok (.new 10, 3) := by decide +kernel
theorem dL_law_3 : decode cL_law 3 = .ok (.dup, 1) := by decide +kernel
theorem dL_law_4 : decode cL_law 4 = .ok (.invokespecial 61, 3) := by decide +kernel
theorem dL_law_7 : decode cL_law 7 = .ok (.astore_n 1, 1) := by decide +kernel
theorem dL_law_8 : decode cL_law 8 = .ok (.iconst 4, 1) := by decide +kernel
theorem dL_law_9 : decode cL_law 9 = .ok (.newarray .int, 2) := by decide +kernel
theorem dL_law_11 : decode cL_law 11 = .ok (.astore_n 2, 1) := by decide +kernel
theorem dL_law_12 : decode cL_law 12 = .ok (.bipush 16, 2) := by decide +kernel
theorem dL_law_14 : decode cL_law 14 = .ok (.newarray .int, 2) := by decide +kernel
theorem dL_law_16 : decode cL_law 16 = .ok (.astore_n 3, 1) := by decide +kernel
theorem dL_law_17 : decode cL_law 17 = .ok (.iconst 0, 1) := by decide +kernel
theorem dL_law_18 : decode cL_law 18 = .ok (.istore 4, 2) := by decide +kernel
theorem dL_law_20 : decode cL_law 20 = .ok (.iconst 0, 1) := by decide +kernel
theorem dL_law_21 : decode cL_law 21 = .ok (.istore 5, 2) := by decide +kernel
theorem dL_law_23 : decode cL_law 23 = .ok (.aload_n 1, 1) := by decide +kernel
theorem dL_law_24 : decode cL_law 24 = .ok (.aload_n 2, 1) := by decide +kernel
theorem dL_law_25 : decode cL_law 25 = .ok (.invokestatic 62, 3) := by decide +kernel
theorem dL_law_28 : decode cL_law 28 = .ok (.ifCond .eq 22, 3) := by decide +kernel
theorem dL_law_31 : decode cL_law 31 = .ok (.aload_n 1, 1) := by decide +kernel
theorem dL_law_32 : decode cL_law 32 = .ok (.invokevirtual 66, 3) := by decide +kernel
theorem dL_law_35 : decode cL_law 35 = .ok (.ifCond .ne 15, 3) := by decide +kernel
theorem dL_law_38 : decode cL_law 38 = .ok (.aload_n 1, 1) := by decide +kernel
theorem dL_law_39 : decode cL_law 39 = .ok (.invokevirtual 69, 3) := by decide +kernel
theorem dL_law_42 : decode cL_law 42 = .ok (.iconst (-1), 1) := by decide +kernel
theorem dL_law_43 : decode cL_law 43 = .ok (.if_icmp .ne 7, 3) := by decide +kernel
theorem dL_law_46 : decode cL_law 46 = .ok (.iconst 1, 1) := by decide +kernel
theorem dL_law_47 : decode cL_law 47 = .ok (.goto 4, 3) := by decide +kernel
theorem dL_law_50 : decode cL_law 50 = .ok (.iconst 0, 1) := by decide +kernel
theorem dL_law_51 : decode cL_law 51 = .ok (.istore 6, 2) := by decide +kernel
theorem dL_law_53 : decode cL_law 53 = .ok (.bipush 6, 2) := by decide +kernel
theorem dL_law_55 : decode cL_law 55 = .ok (.aload_n 0, 1) := by decide +kernel
theorem dL_law_56 : decode cL_law 56 = .ok (.iconst 0, 1) := by decide +kernel
theorem dL_law_57 : decode cL_law 57 = .ok (.invokestatic 72, 3) := by decide +kernel
theorem dL_law_60 : decode cL_law 60 = .ok (.bipush 40, 2) := by decide +kernel
theorem dL_law_62 : decode cL_law 62 = .ok (.invokestatic 52, 3) := by decide +kernel
theorem dL_law_65 : decode cL_law 65 = .ok (.iadd, 1) := by decide +kernel
theorem dL_law_66 : decode cL_law 66 = .ok (.istore 7, 2) := by decide +kernel
theorem dL_law_68 : decode cL_law 68 = .ok (.iconst 0, 1) := by decide +kernel
theorem dL_law_69 : decode cL_law 69 = .ok (.istore 8, 2) := by decide +kernel
theorem dL_law_71 : decode cL_law 71 = .ok (.iload 8, 2) := by decide +kernel
theorem dL_law_73 : decode cL_law 73 = .ok (.iload 7, 2) := by decide +kernel
theorem dL_law_75 : decode cL_law 75 = .ok (.if_icmp .ge 496, 3) := by decide +kernel
theorem dL_law_78 : decode cL_law 78 = .ok (.iload 6, 2) := by decide +kernel
theorem dL_law_80 : decode cL_law 80 = .ok (.ifCond .eq 491, 3) := by decide +kernel
theorem dL_law_83 : decode cL_law 83 = .ok (.aload_n 0, 1) := by decide +kernel
theorem dL_law_84 : decode cL_law 84 = .ok (.iconst 1, 1) := by decide +kernel
theorem dL_law_85 : decode cL_law 85 = .ok (.iload 8, 2) := by decide +kernel
theorem dL_law_87 : decode cL_law 87 = .ok (.iadd, 1) := by decide +kernel
theorem dL_law_88 : decode cL_law 88 = .ok (.invokestatic 72, 3) := by decide +kernel
theorem dL_law_91 : decode cL_law 91 = .ok (.istore 9, 2) := by decide +kernel
theorem dL_law_93 : decode cL_law 93 = .ok (.iload 4, 2) := by decide +kernel
theorem dL_law_95 : decode cL_law 95 = .ok (.ifCond .ne 7, 3) := by decide +kernel
theorem dL_law_98 : decode cL_law 98 = .ok (.iconst 0, 1) := by decide +kernel
theorem dL_law_99 : decode cL_law 99 = .ok (.goto 12, 3) := by decide +kernel
theorem dL_law_102 : decode cL_law 102 = .ok (.iload 9, 2) := by decide +kernel
theorem dL_law_104 : decode cL_law 104 = .ok (.iconst 3, 1) := by decide +kernel
theorem dL_law_105 : decode cL_law 105 = .ok (.ishr, 1) := by decide +kernel
theorem dL_law_106 : decode cL_law 106 = .ok (.iload 4, 2) := by decide +kernel
theorem dL_law_108 : decode cL_law 108 = .ok (.invokestatic 52, 3) := by decide +kernel
theorem dL_law_111 : decode cL_law 111 = .ok (.istore 10, 2) := by decide +kernel
theorem dL_law_113 : decode cL_law 113 = .ok (.iload 9, 2) := by decide +kernel
theorem dL_law_115 : decode cL_law 115 = .ok (.bipush 20, 2) := by decide +kernel
theorem dL_law_117 : decode cL_law 117 = .ok (.ishr, 1) := by decide +kernel
theorem dL_law_118 : decode cL_law 118 = .ok (.bipush 14, 2) := by decide +kernel
theorem dL_law_120 : decode cL_law 120 = .ok (.invokestatic 52, 3) := by decide +kernel
theorem dL_law_123 : decode cL_law 123 = .ok (.istore 11, 2) := by decide +kernel
theorem dL_law_125 : decode cL_law 125 = .ok (.iload 8, 2) := by decide +kernel
theorem dL_law_127 : decode cL_law 127 = .ok (.iconst 4, 1) := by decide +kernel
theorem dL_law_128 : decode cL_law 128 = .ok (.if_icmp .lt 9, 3) := by decide +kernel
theorem dL_law_131 : decode cL_law 131 = .ok (.iload 11, 2) := by decide +kernel
theorem dL_law_133 : decode cL_law 133 = .ok (.iconst 2, 1) := by decide +kernel
theorem dL_law_134 : decode cL_law 134 = .ok (.if_icmp .ge 112, 3) := by decide +kernel
theorem dL_law_137 : decode cL_law 137 = .ok (.iload 8, 2) := by decide +kernel
theorem dL_law_139 : decode cL_law 139 = .ok (.iconst 4, 1) := by decide +kernel
theorem dL_law_140 : decode cL_law 140 = .ok (.if_icmp .ge 8, 3) := by decide +kernel
theorem dL_law_143 : decode cL_law 143 = .ok (.iload 8, 2) := by decide +kernel
theorem dL_law_145 : decode cL_law 145 = .ok (.goto 11, 3) := by decide +kernel
theorem dL_law_148 : decode cL_law 148 = .ok (.iload 9, 2) := by decide +kernel
theorem dL_law_150 : decode cL_law 150 = .ok (.iconst 3, 1) := by decide +kernel
theorem dL_law_151 : decode cL_law 151 = .ok (.ishr, 1) := by decide +kernel
theorem dL_law_152 : decode cL_law 152 = .ok (.iconst 4, 1) := by decide +kernel
theorem dL_law_153 : decode cL_law 153 = .ok (.invokestatic 52, 3) := by decide +kernel
theorem dL_law_156 : decode cL_law 156 = .ok (.istore 12, 2) := by decide +kernel
theorem dL_law_158 : decode cL_law 158 = .ok (.iconst 1, 1) := by decide +kernel
theorem dL_law_159 : decode cL_law 159 = .ok (.iload 9, 2) := by decide +kernel
theorem dL_law_161 : decode cL_law 161 = .ok (.iconst 5, 1) := by decide +kernel
theorem dL_law_162 : decode cL_law 162 = .ok (.ishr, 1) := by decide +kernel
theorem dL_law_163 : decode cL_law 163 = .ok (.iload 9, 2) := by decide +kernel
theorem dL_law_165 : decode cL_law 165 = .ok (.iconst 2, 1) := by decide +kernel
theorem dL_law_166 : decode cL_law 166 = .ok (.invokestatic 52, 3) := by decide +kernel
theorem dL_law_169 : decode cL_law 169 = .ok (.ifCond .ne 9, 3) := by decide +kernel
theorem dL_law_172 : decode cL_law 172 = .ok (.sipush 5000, 3) := by decide +kernel
theorem dL_law_175 : decode cL_law 175 = .ok (.goto 6, 3) := by decide +kernel
theorem dL_law_178 : decode cL_law 178 = .ok (.sipush 400, 3) := by decide +kernel
theorem dL_law_181 : decode cL_law 181 = .ok (.invokestatic 52, 3) := by decide +kernel
theorem dL_law_184 : decode cL_law 184 = .ok (.iadd, 1) := by decide +kernel
theorem dL_law_185 : decode cL_law 185 = .ok (.istore 13, 2) := by decide +kernel
theorem dL_law_187 : decode cL_law 187 = .ok (.aload_n 1, 1) := by decide +kernel
theorem dL_law_188 : decode cL_law 188 = .ok (.iload 12, 2) := by decide +kernel
theorem dL_law_190 : decode cL_law 190 = .ok (.iload 13, 2) := by decide +kernel
theorem dL_law_192 : decode cL_law 192 = .ok (.invokestatic 76, 3) := by decide +kernel
theorem dL_law_195 : decode cL_law 195 = .ok (.istore 14, 2) := by decide +kernel
theorem dL_law_197 : decode cL_law 197 = .ok (.aload_n 2, 1) := by decide +kernel
theorem dL_law_198 : decode cL_law 198 = .ok (.iload 12, 2) := by decide +kernel
theorem dL_law_200 : decode cL_law 200 = .ok (.dup2, 1) := by decide +kernel
theorem dL_law_201 : decode cL_law 201 = .ok (.iaload, 1) := by decide +kernel
theorem dL_law_202 : decode cL_law 202 = .ok (.iload 14, 2) := by decide +kernel
theorem dL_law_204 : decode cL_law 204 = .ok (.bipush (-3), 2) := by decide +kernel
theorem dL_law_206 : decode cL_law 206 = .ok (.if_icmp .ne 7, 3) := by decide +kernel
theorem dL_law_209 : decode cL_law 209 = .ok (.iconst 0, 1) := by decide +kernel
theorem dL_law_210 : decode cL_law 210 = .ok (.goto 5, 3) := by decide +kernel
theorem dL_law_213 : decode cL_law 213 = .ok (.iload 13, 2) := by decide +kernel
theorem dL_law_215 : decode cL_law 215 = .ok (.iadd, 1) := by decide +kernel
theorem dL_law_216 : decode cL_law 216 = .ok (.iastore, 1) := by decide +kernel
theorem dL_law_217 : decode cL_law 217 = .ok (.iload 14, 2) := by decide +kernel
theorem dL_law_219 : decode cL_law 219 = .ok (.bipush (-3), 2) := by decide +kernel
theorem dL_law_221 : decode cL_law 221 = .ok (.if_icmp .eq 15, 3) := by decide +kernel
theorem dL_law_224 : decode cL_law 224 = .ok (.iload 14, 2) := by decide +kernel
theorem dL_law_226 : decode cL_law 226 = .ok (.aload_n 1, 1) := by decide +kernel
theorem dL_law_227 : decode cL_law 227 = .ok (.iload 12, 2) := by decide +kernel
theorem dL_law_229 : decode cL_law 229 = .ok (.iconst 0, 1) := by decide +kernel
theorem dL_law_230 : decode cL_law 230 = .ok (.invokevirtual 35, 3) := by decide +kernel
theorem dL_law_233 : decode cL_law 233 = .ok (.if_icmp .ne 7, 3) := by decide +kernel
theorem dL_law_236 : decode cL_law 236 = .ok (.iconst 1, 1) := by decide +kernel
theorem dL_law_237 : decode cL_law 237 = .ok (.goto 4, 3) := by decide +kernel
theorem dL_law_240 : decode cL_law 240 = .ok (.iconst 0, 1) := by decide +kernel
theorem dL_law_241 : decode cL_law 241 = .ok (.istore 6, 2) := by decide +kernel
theorem dL_law_243 : decode cL_law 243 = .ok (.goto 247, 3) := by decide +kernel
theorem dL_law_246 : decode cL_law 246 = .ok (.iload 4, 2) := by decide +kernel
theorem dL_law_248 : decode cL_law 248 = .ok (.ifCond .eq 16, 3) := by decide +kernel
theorem dL_law_251 : decode cL_law 251 = .ok (.iload 11, 2) := by decide +kernel
theorem dL_law_253 : decode cL_law 253 = .ok (.iconst 5, 1) := by decide +kernel
theorem dL_law_254 : decode cL_law 254 = .ok (.if_icmp .ge 101, 3) := by decide +kernel
theorem dL_law_257 : decode cL_law 257 = .ok (.iload 4, 2) := by decide +kernel
theorem dL_law_259 : decode cL_law 259 = .ok (.bipush 16, 2) := by decide +kernel
theorem dL_law_261 : decode cL_law 261 = .ok (.if_icmp .ge 94, 3) := by decide +kernel
theorem dL_law_264 : decode cL_law 264 = .ok (.aload_n 3, 1) := by decide +kernel
theorem dL_law_265 : decode cL_law 265 = .ok (.iload 4, 2) := by decide +kernel
theorem dL_law_267 : decode cL_law 267 = .ok (.bipush 10, 2) := by decide +kernel
theorem dL_law_269 : decode cL_law 269 = .ok (.bipush 10, 2) := by decide +kernel
theorem dL_law_271 : decode cL_law 271 = .ok (.iload 9, 2) := by decide +kernel
theorem dL_law_273 : decode cL_law 273 = .ok (.iconst 5, 1) := by decide +kernel
theorem dL_law_274 : decode cL_law 274 = .ok (.ishr, 1) := by decide +kernel
theorem dL_law_275 : decode cL_law 275 = .ok (.bipush 50, 2) := by decide +kernel
theorem dL_law_277 : decode cL_law 277 = .ok (.invokestatic 52, 3) := by decide +kernel
theorem dL_law_280 : decode cL_law 280 = .ok (.imul, 1) := by decide +kernel
theorem dL_law_281 : decode cL_law 281 = .ok (.iadd, 1) := by decide +kernel
theorem dL_law_282 : decode cL_law 282 = .ok (.iastore, 1) := by decide +kernel
theorem dL_law_283 : decode cL_law 283 = .ok (.aload_n 1, 1) := by decide +kernel
theorem dL_law_284 : decode cL_law 284 = .ok (.iload 9, 2) := by decide +kernel
theorem dL_law_286 : decode cL_law 286 = .ok (.bipush 101, 2) := by decide +kernel
theorem dL_law_288 : decode cL_law 288 = .ok (.invokestatic 52, 3) := by decide +kernel
theorem dL_law_291 : decode cL_law 291 = .ok (.iload 9, 2) := by decide +kernel
theorem dL_law_293 : decode cL_law 293 = .ok (.iconst 3, 1) := by decide +kernel
theorem dL_law_294 : decode cL_law 294 = .ok (.ishr, 1) := by decide +kernel
theorem dL_law_295 : decode cL_law 295 = .ok (.bipush 101, 2) := by decide +kernel
theorem dL_law_297 : decode cL_law 297 = .ok (.invokestatic 52, 3) := by decide +kernel
theorem dL_law_300 : decode cL_law 300 = .ok (.iload 9, 2) := by decide +kernel
theorem dL_law_302 : decode cL_law 302 = .ok (.bipush 7, 2) := by decide +kernel
theorem dL_law_304 : decode cL_law 304 = .ok (.ishr, 1) := by decide +kernel
theorem dL_law_305 : decode cL_law 305 = .ok (.bipush 101, 2) := by decide +kernel
theorem dL_law_307 : decode cL_law 307 = .ok (.invokestatic 52, 3) := by decide +kernel
theorem dL_law_310 : decode cL_law 310 = .ok (.aload_n 3, 1) := by decide +kernel
theorem dL_law_311 : decode cL_law 311 = .ok (.iload 4, 2) := by decide +kernel
theorem dL_law_313 : decode cL_law 313 = .ok (.iaload, 1) := by decide +kernel
theorem dL_law_314 : decode cL_law 314 = .ok (.iload 9, 2) := by decide +kernel
theorem dL_law_316 : decode cL_law 316 = .ok (.bipush 9, 2) := by decide +kernel
theorem dL_law_318 : decode cL_law 318 = .ok (.ishr, 1) := by decide +kernel
theorem dL_law_319 : decode cL_law 319 = .ok (.sipush 301, 3) := by decide +kernel
theorem dL_law_322 : decode cL_law 322 = .ok (.invokestatic 52, 3) := by decide +kernel
theorem dL_law_325 : decode cL_law 325 = .ok (.invokevirtual 78, 3) := by decide +kernel
theorem dL_law_328 : decode cL_law 328 = .ok (.iload 4, 2) := by decide +kernel
theorem dL_law_330 : decode cL_law 330 = .ok (.if_icmp .ne 16, 3) := by decide +kernel
theorem dL_law_333 : decode cL_law 333 = .ok (.aload_n 1, 1) := by decide +kernel
theorem dL_law_334 : decode cL_law 334 = .ok (.iload 4, 2) := by decide +kernel
theorem dL_law_336 : decode cL_law 336 = .ok (.invokevirtual 41, 3) := by decide +kernel
theorem dL_law_339 : decode cL_law 339 = .ok (.ifCond .ne 7, 3) := by decide +kernel
theorem dL_law_342 : decode cL_law 342 = .ok (.iconst 1, 1) := by decide +kernel
theorem dL_law_343 : decode cL_law 343 = .ok (.goto 4, 3) := by decide +kernel
theorem dL_law_346 : decode cL_law 346 = .ok (.iconst 0, 1) := by decide +kernel
theorem dL_law_347 : decode cL_law 347 = .ok (.istore 6, 2) := by decide +kernel
theorem dL_law_349 : decode cL_law 349 = .ok (.iinc 4 1, 3) := by decide +kernel
theorem dL_law_352 : decode cL_law 352 = .ok (.goto 138, 3) := by decide +kernel
theorem dL_law_355 : decode cL_law 355 = .ok (.iload 11, 2) := by decide +kernel
theorem dL_law_357 : decode cL_law 357 = .ok (.bipush 9, 2) := by decide +kernel
theorem dL_law_359 : decode cL_law 359 = .ok (.if_icmp .ge 47, 3) := by decide +kernel
theorem dL_law_362 : decode cL_law 362 = .ok (.aload_n 1, 1) := by decide +kernel
theorem dL_law_363 : decode cL_law 363 = .ok (.iload 10, 2) := by decide +kernel
theorem dL_law_365 : decode cL_law 365 = .ok (.invokevirtual 41, 3) := by decide +kernel
theorem dL_law_368 : decode cL_law 368 = .ok (.istore 12, 2) := by decide +kernel
theorem dL_law_370 : decode cL_law 370 = .ok (.aload_n 1, 1) := by decide +kernel
theorem dL_law_371 : decode cL_law 371 = .ok (.iload 10, 2) := by decide +kernel
theorem dL_law_373 : decode cL_law 373 = .ok (.invokestatic 82, 3) := by decide +kernel
theorem dL_law_376 : decode cL_law 376 = .ok (.istore 6, 2) := by decide +kernel
theorem dL_law_378 : decode cL_law 378 = .ok (.iload 5, 2) := by decide +kernel
theorem dL_law_380 : decode cL_law 380 = .ok (.iload 12, 2) := by decide +kernel
theorem dL_law_382 : decode cL_law 382 = .ok (.ifCond .ne 17, 3) := by decide +kernel
theorem dL_law_385 : decode cL_law 385 = .ok (.aload_n 1, 1) := by decide +kernel
theorem dL_law_386 : decode cL_law 386 = .ok (.iload 10, 2) := by decide +kernel
theorem dL_law_388 : decode cL_law 388 = .ok (.invokevirtual 41, 3) := by decide +kernel
theorem dL_law_391 : decode cL_law 391 = .ok (.iconst 1, 1) := by decide +kernel
theorem dL_law_392 : decode cL_law 392 = .ok (.if_icmp .ne 7, 3) := by decide +kernel
theorem dL_law_395 : decode cL_law 395 = .ok (.iconst 1, 1) := by decide +kernel
theorem dL_law_396 : decode cL_law 396 = .ok (.goto 4, 3) := by decide +kernel
theorem dL_law_399 : decode cL_law 399 = .ok (.iconst 0, 1) := by decide +kernel
theorem dL_law_400 : decode cL_law 400 = .ok (.iadd, 1) := by decide +kernel
theorem dL_law_401 : decode cL_law 401 = .ok (.istore 5, 2) := by decide +kernel
theorem dL_law_403 : decode cL_law 403 = .ok (.goto 87, 3) := by decide +kernel
theorem dL_law_406 : decode cL_law 406 = .ok (.iload 11, 2) := by decide +kernel
theorem dL_law_408 : decode cL_law 408 = .ok (.bipush 12, 2) := by decide +kernel
theorem dL_law_410 : decode cL_law 410 = .ok (.if_icmp .ge 57, 3) := by decide +kernel
theorem dL_law_413 : decode cL_law 413 = .ok (.aload_n 1, 1) := by decide +kernel
theorem dL_law_414 : decode cL_law 414 = .ok (.iload 10, 2) := by decide +kernel
theorem dL_law_416 : decode cL_law 416 = .ok (.invokevirtual 41, 3) := by decide +kernel
theorem dL_law_419 : decode cL_law 419 = .ok (.istore 12, 2) := by decide +kernel
theorem dL_law_421 : decode cL_law 421 = .ok (.aload_n 1, 1) := by decide +kernel
theorem dL_law_422 : decode cL_law 422 = .ok (.iload 10, 2) := by decide +kernel
theorem dL_law_424 : decode cL_law 424 = .ok (.aload_n 3, 1) := by decide +kernel
theorem dL_law_425 : decode cL_law 425 = .ok (.iload 10, 2) := by decide +kernel
theorem dL_law_427 : decode cL_law 427 = .ok (.iaload, 1) := by decide +kernel
theorem dL_law_428 : decode cL_law 428 = .ok (.iload 9, 2) := by decide +kernel
theorem dL_law_430 : decode cL_law 430 = .ok (.bipush 6, 2) := by decide +kernel
theorem dL_law_432 : decode cL_law 432 = .ok (.ishr, 1) := by decide +kernel
theorem dL_law_433 : decode cL_law 433 = .ok (.invokestatic 86, 3) := by decide +kernel
theorem dL_law_436 : decode cL_law 436 = .ok (.istore 6, 2) := by decide +kernel
theorem dL_law_438 : decode cL_law 438 = .ok (.iload 5, 2) := by decide +kernel
theorem dL_law_440 : decode cL_law 440 = .ok (.iload 12, 2) := by decide +kernel
theorem dL_law_442 : decode cL_law 442 = .ok (.iconst 1, 1) := by decide +kernel
theorem dL_law_443 : decode cL_law 443 = .ok (.if_icmp .ne 17, 3) := by decide +kernel
theorem dL_law_446 : decode cL_law 446 = .ok (.aload_n 1, 1) := by decide +kernel
theorem dL_law_447 : decode cL_law 447 = .ok (.iload 10, 2) := by decide +kernel
theorem dL_law_449 : decode cL_law 449 = .ok (.invokevirtual 41, 3) := by decide +kernel
theorem dL_law_452 : decode cL_law 452 = .ok (.iconst 2, 1) := by decide +kernel
theorem dL_law_453 : decode cL_law 453 = .ok (.if_icmp .ne 7, 3) := by decide +kernel
theorem dL_law_456 : decode cL_law 456 = .ok (.iconst 1, 1) := by decide +kernel
theorem dL_law_457 : decode cL_law 457 = .ok (.goto 4, 3) := by decide +kernel
theorem dL_law_460 : decode cL_law 460 = .ok (.iconst 0, 1) := by decide +kernel
theorem dL_law_461 : decode cL_law 461 = .ok (.isub, 1) := by decide +kernel
theorem dL_law_462 : decode cL_law 462 = .ok (.istore 5, 2) := by decide +kernel
theorem dL_law_464 : decode cL_law 464 = .ok (.goto 26, 3) := by decide +kernel
theorem dL_law_467 : decode cL_law 467 = .ok (.aload_n 1, 1) := by decide +kernel
theorem dL_law_468 : decode cL_law 468 = .ok (.iconst 1, 1) := by decide +kernel
theorem dL_law_469 : decode cL_law 469 = .ok (.iload 9, 2) := by decide +kernel
theorem dL_law_471 : decode cL_law 471 = .ok (.bipush 100, 2) := by decide +kernel
theorem dL_law_473 : decode cL_law 473 = .ok (.invokestatic 52, 3) := by decide +kernel
theorem dL_law_476 : decode cL_law 476 = .ok (.iadd, 1) := by decide +kernel
theorem dL_law_477 : decode cL_law 477 = .ok (.invokevirtual 90, 3) := by decide +kernel
theorem dL_law_480 : decode cL_law 480 = .ok (.ifCond .le 7, 3) := by decide +kernel
theorem dL_law_483 : decode cL_law 483 = .ok (.iconst 1, 1) := by decide +kernel
theorem dL_law_484 : decode cL_law 484 = .ok (.goto 4, 3) := by decide +kernel
theorem dL_law_487 : decode cL_law 487 = .ok (.iconst 0, 1) := by decide +kernel
theorem dL_law_488 : decode cL_law 488 = .ok (.istore 6, 2) := by decide +kernel
theorem dL_law_490 : decode cL_law 490 = .ok (.iload 6, 2) := by decide +kernel
theorem dL_law_492 : decode cL_law 492 = .ok (.ifCond .eq 70, 3) := by decide +kernel
theorem dL_law_495 : decode cL_law 495 = .ok (.aload_n 1, 1) := by decide +kernel
theorem dL_law_496 : decode cL_law 496 = .ok (.aload_n 2, 1) := by decide +kernel
theorem dL_law_497 : decode cL_law 497 = .ok (.invokestatic 62, 3) := by decide +kernel
theorem dL_law_500 : decode cL_law 500 = .ok (.ifCond .eq 62, 3) := by decide +kernel
theorem dL_law_503 : decode cL_law 503 = .ok (.iload 5, 2) := by decide +kernel
theorem dL_law_505 : decode cL_law 505 = .ok (.iconst 5, 1) := by decide +kernel
theorem dL_law_506 : decode cL_law 506 = .ok (.if_icmp .gt 14, 3) := by decide +kernel
theorem dL_law_509 : decode cL_law 509 = .ok (.aload_n 1, 1) := by decide +kernel
theorem dL_law_510 : decode cL_law 510 = .ok (.invokevirtual 66, 3) := by decide +kernel
theorem dL_law_513 : decode cL_law 513 = .ok (.aload_n 1, 1) := by decide +kernel
theorem dL_law_514 : decode cL_law 514 = .ok (.invokevirtual 93, 3) := by decide +kernel
theorem dL_law_517 : decode cL_law 517 = .ok (.if_icmp .ne 45, 3) := by decide +kernel
theorem dL_law_520 : decode cL_law 520 = .ok (.aload_n 1, 1) := by decide +kernel
theorem dL_law_521 : decode cL_law 521 = .ok (.invokevirtual 69, 3) := by decide +kernel
theorem dL_law_524 : decode cL_law 524 = .ok (.iconst (-1), 1) := by decide +kernel
theorem dL_law_525 : decode cL_law 525 = .ok (.if_icmp .ne 7, 3) := by decide +kernel
theorem dL_law_528 : decode cL_law 528 = .ok (.iconst 1, 1) := by decide +kernel
theorem dL_law_529 : decode cL_law 529 = .ok (.goto 4, 3) := by decide +kernel
theorem dL_law_532 : decode cL_law 532 = .ok (.iconst 0, 1) := by decide +kernel
theorem dL_law_533 : decode cL_law 533 = .ok (.iload 5, 2) := by decide +kernel
theorem dL_law_535 : decode cL_law 535 = .ok (.ifCond .ne 7, 3) := by decide +kernel
theorem dL_law_538 : decode cL_law 538 = .ok (.iconst 1, 1) := by decide +kernel
theorem dL_law_539 : decode cL_law 539 = .ok (.goto 4, 3) := by decide +kernel
theorem dL_law_542 : decode cL_law 542 = .ok (.iconst 0, 1) := by decide +kernel
theorem dL_law_543 : decode cL_law 543 = .ok (.if_icmp .ne 19, 3) := by decide +kernel
theorem dL_law_546 : decode cL_law 546 = .ok (.iload 5, 2) := by decide +kernel
theorem dL_law_548 : decode cL_law 548 = .ok (.ifCond .gt 10, 3) := by decide +kernel
theorem dL_law_551 : decode cL_law 551 = .ok (.aload_n 1, 1) := by decide +kernel
theorem dL_law_552 : decode cL_law 552 = .ok (.invokevirtual 66, 3) := by decide +kernel
theorem dL_law_555 : decode cL_law 555 = .ok (.ifCond .ne 7, 3) := by decide +kernel
theorem dL_law_558 : decode cL_law 558 = .ok (.iconst 1, 1) := by decide +kernel
theorem dL_law_559 : decode cL_law 559 = .ok (.goto 4, 3) := by decide +kernel
theorem dL_law_562 : decode cL_law 562 = .ok (.iconst 0, 1) := by decide +kernel
theorem dL_law_563 : decode cL_law 563 = .ok (.istore 6, 2) := by decide +kernel
theorem dL_law_565 : decode cL_law 565 = .ok (.iinc 8 1, 3) := by decide +kernel
theorem dL_law_568 : decode cL_law 568 = .ok (.goto (-497), 3) := by decide +kernel
theorem dL_law_571 : decode cL_law 571 = .ok (.iload 6, 2) := by decide +kernel
theorem dL_law_573 : decode cL_law 573 = .ok (.ireturn, 1) := by decide +kernel
abbrev vwCl : List vw_C := [(RX0, TX0, 1), (RX1, TX1, 8), (RX2, TX2, 2), (RX3, TX3, 3), (RX4, TX4, 4), (RX5, TX5, 8), (RX6, TX6, 4), (RX7, TX7, 5), (RX8, TX8, 11), (RX0, TX0, 1)]
