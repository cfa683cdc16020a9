def RX0 : String := "OneCubeEach$Best"
def TX0 : u_T := fun k => match k with
  | 0 => ("OneCubeEach$Best", "found", "I", false)
  | 1 => ("OneCubeEach$Best", "most", "I", false)
  | _ => ("OneCubeEach$Best", "any", "Z", false)
def tyX0 : Nat → FieldType := fun k => match k with
  | 0 => .int
  | 1 => .int
  | _ => .boolean
abbrev wsX00 : List Cond := u_ws RX0 TX0 3
theorem nmX0 : ∀ a, a < 3 → ∀ b, b < 3 → a ≠ b → (TX0 a).2.1 ≠ (TX0 b).2.1 := by decide +kernel
theorem tyX0_ok : ∀ k, k < 3 → parseFieldDescriptor (TX0 k).2.2.1 = some (tyX0 k) := by decide +kernel
abbrev cX0_init : ByteArray := prog_2_method_1_code
def yX0_init : MethodName := ⟨RX0, "<init>", "()V"⟩
abbrev cX0_begin : ByteArray := prog_2_method_2_code
def yX0_begin : MethodName := ⟨RX0, "begin", "()V"⟩
abbrev cX0_beginWith : ByteArray := prog_2_method_3_code
def yX0_beginWith : MethodName := ⟨RX0, "beginWith", "(II)V"⟩
abbrev cX0_offer : ByteArray := prog_2_method_4_code
def yX0_offer : MethodName := ⟨RX0, "offer", "(II)V"⟩
abbrev cX0_answer : ByteArray := prog_2_method_5_code
def yX0_answer : MethodName := ⟨RX0, "answer", "(I)I"⟩
def RX1 : String := "OneCubeEach$Customer"
def TX1 : u_T := fun k => match k with
  | 0 => ("OneCubeEach$Customer", "kind", "I", false)
  | 1 => ("OneCubeEach$Customer", "number", "I", false)
  | 2 => ("OneCubeEach$Customer", "hour", "I", false)
  | 3 => ("OneCubeEach$Customer", "hunger", "I", false)
  | _ => ("OneCubeEach$Customer", "bought", "I", false)
def tyX1 : Nat → FieldType := fun k => match k with
  | 0 => .int
  | 1 => .int
  | 2 => .int
  | 3 => .int
  | _ => .int
abbrev wsX10 : List Cond := u_ws RX1 TX1 5
theorem nmX1 : ∀ a, a < 5 → ∀ b, b < 5 → a ≠ b → (TX1 a).2.1 ≠ (TX1 b).2.1 := by decide +kernel
theorem tyX1_ok : ∀ k, k < 5 → parseFieldDescriptor (TX1 k).2.2.1 = some (tyX1 k) := by decide +kernel
abbrev cX1_init : ByteArray := prog_3_method_1_code
def yX1_init : MethodName := ⟨RX1, "<init>", "()V"⟩
abbrev cX1_come : ByteArray := prog_3_method_2_code
def yX1_come : MethodName := ⟨RX1, "come", "(III)V"⟩
abbrev cX1_become : ByteArray := prog_3_method_3_code
def yX1_become : MethodName := ⟨RX1, "become", "(LOneCubeEach$Customer;)V"⟩
abbrev cX1_reading : ByteArray := prog_3_method_4_code
def yX1_reading : MethodName := ⟨RX1, "reading", "(I)I"⟩
abbrev cX1_lay : ByteArray := prog_3_method_5_code
def yX1_lay : MethodName := ⟨RX1, "lay", "(II)V"⟩
def RX2 : String := "OneCubeEach$Fraction"
def TX2 : u_T := fun k => match k with
  | 0 => ("OneCubeEach$Fraction", "above", "J", false)
  | _ => ("OneCubeEach$Fraction", "below", "J", false)
def tyX2 : Nat → FieldType := fun k => match k with
  | 0 => .long
  | _ => .long
abbrev wsX20 : List Cond := u_ws RX2 TX2 2
theorem nmX2 : ∀ a, a < 2 → ∀ b, b < 2 → a ≠ b → (TX2 a).2.1 ≠ (TX2 b).2.1 := by decide +kernel
theorem tyX2_ok : ∀ k, k < 2 → parseFieldDescriptor (TX2 k).2.2.1 = some (tyX2 k) := by decide +kernel
abbrev cX2_init : ByteArray := prog_4_method_1_code
def yX2_init : MethodName := ⟨RX2, "<init>", "()V"⟩
abbrev cX2_lay : ByteArray := prog_4_method_2_code
def yX2_lay : MethodName := ⟨RX2, "lay", "(JJ)V"⟩
abbrev cX2_plus : ByteArray := prog_4_method_3_code
def yX2_plus : MethodName := ⟨RX2, "plus", "(JJ)V"⟩
abbrev cX2_times : ByteArray := prog_4_method_4_code
def yX2_times : MethodName := ⟨RX2, "times", "(JJ)V"⟩
abbrev cX2_part : ByteArray := prog_4_method_5_code
def yX2_part : MethodName := ⟨RX2, "part", "(I)J"⟩
abbrev cX2_commonOf : ByteArray := prog_4_method_6_code
def yX2_commonOf : MethodName := ⟨RX2, "commonOf", "(JJ)J"⟩
def RX3 : String := "OneCubeEach$Reader"
def TX3 : u_T := fun k => match k with
  | 0 => ("OneCubeEach$Reader", "tokens", "LOneCubeEach$Tokens;", true)
  | 1 => ("OneCubeEach$Reader", "at", "I", false)
  | _ => ("OneCubeEach$Reader", "fault", "I", false)
def tyX3 : Nat → FieldType := fun k => match k with
  | 0 => .object "OneCubeEach$Tokens"
  | 1 => .int
  | _ => .int
abbrev wsX30 : List Cond := u_ws RX3 TX3 3
theorem nmX3 : ∀ a, a < 3 → ∀ b, b < 3 → a ≠ b → (TX3 a).2.1 ≠ (TX3 b).2.1 := by decide +kernel
theorem tyX3_ok : ∀ k, k < 3 → parseFieldDescriptor (TX3 k).2.2.1 = some (tyX3 k) := by decide +kernel
abbrev cX3_init : ByteArray := prog_5_method_1_code
def yX3_init : MethodName := ⟨RX3, "<init>", "()V"⟩
abbrev cX3_read : ByteArray := prog_5_method_2_code
def yX3_read : MethodName := ⟨RX3, "read", "(LOneCubeEach$Tape;LOneCubeEach$Text;)I"⟩
abbrev cX3_fail : ByteArray := prog_5_method_3_code
def yX3_fail : MethodName := ⟨RX3, "fail", "()V"⟩
abbrev cX3_pass : ByteArray := prog_5_method_4_code
def yX3_pass : MethodName := ⟨RX3, "pass", "(I)V"⟩
abbrev cX3_readLevel : ByteArray := prog_5_method_5_code
def yX3_readLevel : MethodName := ⟨RX3, "readLevel", "(LOneCubeEach$Text;II)V"⟩
abbrev cX3_readNot : ByteArray := prog_5_method_6_code
def yX3_readNot : MethodName := ⟨RX3, "readNot", "(LOneCubeEach$Text;I)V"⟩
abbrev cX3_readOne : ByteArray := prog_5_method_7_code
def yX3_readOne : MethodName := ⟨RX3, "readOne", "(LOneCubeEach$Text;I)V"⟩
abbrev cX3_levelOf : ByteArray := prog_5_method_8_code
def yX3_levelOf : MethodName := ⟨RX3, "levelOf", "(I)I"⟩
def RX4 : String := "OneCubeEach$Reckoning"
def TX4 : u_T := fun k => match k with
  | _ => ("OneCubeEach$Reckoning", "texts", "LOneCubeEach$Texts;", true)
def tyX4 : Nat → FieldType := fun k => match k with
  | _ => .object "OneCubeEach$Texts"
abbrev wsX40 : List Cond := u_ws RX4 TX4 1
theorem nmX4 : ∀ a, a < 1 → ∀ b, b < 1 → a ≠ b → (TX4 a).2.1 ≠ (TX4 b).2.1 := by decide +kernel
theorem tyX4_ok : ∀ k, k < 1 → parseFieldDescriptor (TX4 k).2.2.1 = some (tyX4 k) := by decide +kernel
abbrev cX4_init : ByteArray := prog_6_method_1_code
def yX4_init : MethodName := ⟨RX4, "<init>", "(LOneCubeEach$Texts;)V"⟩
abbrev cX4_eatsOf : ByteArray := prog_6_method_2_code
def yX4_eatsOf : MethodName := ⟨RX4, "eatsOf", "(LOneCubeEach$Stall;LOneCubeEach$Customer;)I"⟩
abbrev cX4_triesOf : ByteArray := prog_6_method_3_code
def yX4_triesOf : MethodName := ⟨RX4, "triesOf", "(LOneCubeEach$Stall;LOneCubeEach$Customer;)I"⟩
abbrev cX4_spendsOf : ByteArray := prog_6_method_4_code
def yX4_spendsOf : MethodName := ⟨RX4, "spendsOf", "(LOneCubeEach$Stall;LOneCubeEach$Customer;)I"⟩
abbrev cX4_eatenBy : ByteArray := prog_6_method_5_code
def yX4_eatenBy : MethodName := ⟨RX4, "eatenBy", "(LOneCubeEach$Stall;LOneCubeEach$Customer;)I"⟩
abbrev cX4_triesIfThere : ByteArray := prog_6_method_6_code
def yX4_triesIfThere : MethodName := ⟨RX4, "triesIfThere", "(LOneCubeEach$Stall;LOneCubeEach$Customer;)I"⟩
abbrev cX4_costOf : ByteArray := prog_6_method_7_code
def yX4_costOf : MethodName := ⟨RX4, "costOf", "(LOneCubeEach$Stall;LOneCubeEach$Customer;)I"⟩
abbrev cX4_gainOf : ByteArray := prog_6_method_8_code
def yX4_gainOf : MethodName := ⟨RX4, "gainOf", "(LOneCubeEach$Stall;LOneCubeEach$Customer;)I"⟩
abbrev cX4_priceOf : ByteArray := prog_6_method_9_code
def yX4_priceOf : MethodName := ⟨RX4, "priceOf", "(LOneCubeEach$Stall;I)I"⟩
abbrev cX4_allGainOf : ByteArray := prog_6_method_10_code
def yX4_allGainOf : MethodName := ⟨RX4, "allGainOf", "(LOneCubeEach$Stall;)I"⟩
abbrev cX4_allCostOf : ByteArray := prog_6_method_11_code
def yX4_allCostOf : MethodName := ⟨RX4, "allCostOf", "(LOneCubeEach$Stall;)I"⟩
abbrev cX4_allEatenOf : ByteArray := prog_6_method_12_code
def yX4_allEatenOf : MethodName := ⟨RX4, "allEatenOf", "(LOneCubeEach$Stall;)I"⟩
abbrev cX4_eatenIn : ByteArray := prog_6_method_13_code
def yX4_eatenIn : MethodName := ⟨RX4, "eatenIn", "(LOneCubeEach$Stall;I)I"⟩
abbrev cX4_onlyEatersOf : ByteArray := prog_6_method_14_code
def yX4_onlyEatersOf : MethodName := ⟨RX4, "onlyEatersOf", "(LOneCubeEach$Stall;)I"⟩
abbrev cX4_drawn : ByteArray := prog_6_method_15_code
def yX4_drawn : MethodName := ⟨RX4, "drawn", "(LOneCubeEach$Stall;IZ)I"⟩
def RX5 : String := "OneCubeEach$Sheet"
def TX5 : u_T := fun k => match k with
  | 0 => ("OneCubeEach$Sheet", "sort", "I", false)
  | 1 => ("OneCubeEach$Sheet", "size", "I", false)
  | _ => ("OneCubeEach$Sheet", "cells", "[I", true)
def tyX5 : Nat → FieldType := fun k => match k with
  | 0 => .int
  | 1 => .int
  | _ => .array .int
abbrev wsX50 : List Cond := u_ws RX5 TX5 3
theorem nmX5 : ∀ a, a < 3 → ∀ b, b < 3 → a ≠ b → (TX5 a).2.1 ≠ (TX5 b).2.1 := by decide +kernel
theorem tyX5_ok : ∀ k, k < 3 → parseFieldDescriptor (TX5 k).2.2.1 = some (tyX5 k) := by decide +kernel
abbrev cX5_init : ByteArray := prog_7_method_1_code
def yX5_init : MethodName := ⟨RX5, "<init>", "()V"⟩
abbrev cX5_isMissing : ByteArray := prog_7_method_2_code
def yX5_isMissing : MethodName := ⟨RX5, "isMissing", "()Z"⟩
abbrev cX5_holds : ByteArray := prog_7_method_3_code
def yX5_holds : MethodName := ⟨RX5, "holds", "(II)Z"⟩
abbrev cX5_become : ByteArray := prog_7_method_4_code
def yX5_become : MethodName := ⟨RX5, "become", "(II)V"⟩
abbrev cX5_put : ByteArray := prog_7_method_5_code
def yX5_put : MethodName := ⟨RX5, "put", "(II)V"⟩
def RX6 : String := "OneCubeEach$Stall"
def TX6 : u_T := fun k => match k with
  | 0 => ("OneCubeEach$Stall", "cube", "I", false)
  | 1 => ("OneCubeEach$Stall", "sorts", "I", false)
  | 2 => ("OneCubeEach$Stall", "girl", "I", false)
  | 3 => ("OneCubeEach$Stall", "open", "I", false)
  | 4 => ("OneCubeEach$Stall", "gram", "I", false)
  | 5 => ("OneCubeEach$Stall", "rule", "I", false)
  | 6 => ("OneCubeEach$Stall", "size", "I", false)
  | _ => ("OneCubeEach$Stall", "customers", "[LOneCubeEach$Customer;", true)
def tyX6 : Nat → FieldType := fun k => match k with
  | 0 => .int
  | 1 => .int
  | 2 => .int
  | 3 => .int
  | 4 => .int
  | 5 => .int
  | 6 => .int
  | _ => .array (.object "OneCubeEach$Customer")
abbrev wsX60 : List Cond := u_ws RX6 TX6 8
theorem nmX6 : ∀ a, a < 8 → ∀ b, b < 8 → a ≠ b → (TX6 a).2.1 ≠ (TX6 b).2.1 := by decide +kernel
theorem tyX6_ok : ∀ k, k < 8 → parseFieldDescriptor (TX6 k).2.2.1 = some (tyX6 k) := by decide +kernel
abbrev cX6_init : ByteArray := prog_8_method_1_code
def yX6_init : MethodName := ⟨RX6, "<init>", "()V"⟩
abbrev cX6_become : ByteArray := prog_8_method_2_code
def yX6_become : MethodName := ⟨RX6, "become", "(LOneCubeEach$Stall;)V"⟩
abbrev cX6_has : ByteArray := prog_8_method_3_code
def yX6_has : MethodName := ⟨RX6, "has", "(I)Z"⟩
abbrev cX6_isThere : ByteArray := prog_8_method_4_code
def yX6_isThere : MethodName := ⟨RX6, "isThere", "(LOneCubeEach$Customer;)Z"⟩
abbrev cX6_thereAmong : ByteArray := prog_8_method_5_code
def yX6_thereAmong : MethodName := ⟨RX6, "thereAmong", "(I)I"⟩
abbrev cX6_boughtByAll : ByteArray := prog_8_method_6_code
def yX6_boughtByAll : MethodName := ⟨RX6, "boughtByAll", "()I"⟩
abbrev cX6_reading : ByteArray := prog_8_method_7_code
def yX6_reading : MethodName := ⟨RX6, "reading", "(I)I"⟩
abbrev cX6_lay : ByteArray := prog_8_method_8_code
def yX6_lay : MethodName := ⟨RX6, "lay", "(II)V"⟩
def RX7 : String := "OneCubeEach$Tape"
def TX7 : u_T := fun k => match k with
  | 0 => ("OneCubeEach$Tape", "letters", "[I", true)
  | _ => ("OneCubeEach$Tape", "size", "I", false)
def tyX7 : Nat → FieldType := fun k => match k with
  | 0 => .array .int
  | _ => .int
abbrev wsX70 : List Cond := u_ws RX7 TX7 2
theorem nmX7 : ∀ a, a < 2 → ∀ b, b < 2 → a ≠ b → (TX7 a).2.1 ≠ (TX7 b).2.1 := by decide +kernel
theorem tyX7_ok : ∀ k, k < 2 → parseFieldDescriptor (TX7 k).2.2.1 = some (tyX7 k) := by decide +kernel
abbrev cX7_init : ByteArray := prog_9_method_1_code
def yX7_init : MethodName := ⟨RX7, "<init>", "()V"⟩
abbrev cX7_take : ByteArray := prog_9_method_2_code
def yX7_take : MethodName := ⟨RX7, "take", "(I)Z"⟩
abbrev cX7_letterAt : ByteArray := prog_9_method_3_code
def yX7_letterAt : MethodName := ⟨RX7, "letterAt", "(I)I"⟩
abbrev cX7_isBlank : ByteArray := prog_9_method_4_code
def yX7_isBlank : MethodName := ⟨RX7, "isBlank", "(I)Z"⟩
abbrev cX7_isSmall : ByteArray := prog_9_method_5_code
def yX7_isSmall : MethodName := ⟨RX7, "isSmall", "(I)Z"⟩
abbrev cX7_isDigit : ByteArray := prog_9_method_6_code
def yX7_isDigit : MethodName := ⟨RX7, "isDigit", "(I)Z"⟩
def RX8 : String := "OneCubeEach$Text"
def TX8 : u_T := fun k => match k with
  | 0 => ("OneCubeEach$Text", "steps", "[I", true)
  | 1 => ("OneCubeEach$Text", "ends", "[I", true)
  | 2 => ("OneCubeEach$Text", "stack", "[I", true)
  | _ => ("OneCubeEach$Text", "size", "I", false)
def tyX8 : Nat → FieldType := fun k => match k with
  | 0 => .array .int
  | 1 => .array .int
  | 2 => .array .int
  | _ => .int
abbrev wsX80 : List Cond := u_ws RX8 TX8 4
theorem nmX8 : ∀ a, a < 4 → ∀ b, b < 4 → a ≠ b → (TX8 a).2.1 ≠ (TX8 b).2.1 := by decide +kernel
theorem tyX8_ok : ∀ k, k < 4 → parseFieldDescriptor (TX8 k).2.2.1 = some (tyX8 k) := by decide +kernel
abbrev cX8_init : ByteArray := prog_10_method_1_code
def yX8_init : MethodName := ⟨RX8, "<init>", "()V"⟩
abbrev cX8_add : ByteArray := prog_10_method_2_code
def yX8_add : MethodName := ⟨RX8, "add", "(I)V"⟩
abbrev cX8_endPart : ByteArray := prog_10_method_3_code
def yX8_endPart : MethodName := ⟨RX8, "endPart", "(I)V"⟩
abbrev cX8_tell : ByteArray := prog_10_method_4_code
def yX8_tell : MethodName := ⟨RX8, "tell", "(ILOneCubeEach$Stall;LOneCubeEach$Customer;)I"⟩
abbrev cX8_named : ByteArray := prog_10_method_5_code
def yX8_named : MethodName := ⟨RX8, "named", "(ILOneCubeEach$Stall;LOneCubeEach$Customer;)I"⟩
abbrev cX8_turned : ByteArray := prog_10_method_6_code
def yX8_turned : MethodName := ⟨RX8, "turned", "(II)I"⟩
abbrev cX8_joined : ByteArray := prog_10_method_7_code
def yX8_joined : MethodName := ⟨RX8, "joined", "(III)I"⟩
def RX9 : String := "OneCubeEach$Texts"
def TX9 : u_T := fun k => match k with
  | 0 => ("OneCubeEach$Texts", "rows", "[LOneCubeEach$Text;", true)
  | _ => ("OneCubeEach$Texts", "size", "I", false)
def tyX9 : Nat → FieldType := fun k => match k with
  | 0 => .array (.object "OneCubeEach$Text")
  | _ => .int
abbrev wsX90 : List Cond := u_ws RX9 TX9 2
theorem nmX9 : ∀ a, a < 2 → ∀ b, b < 2 → a ≠ b → (TX9 a).2.1 ≠ (TX9 b).2.1 := by decide +kernel
theorem tyX9_ok : ∀ k, k < 2 → parseFieldDescriptor (TX9 k).2.2.1 = some (tyX9 k) := by decide +kernel
abbrev cX9_init : ByteArray := prog_11_method_1_code
def yX9_init : MethodName := ⟨RX9, "<init>", "()V"⟩
abbrev cX9_has : ByteArray := prog_11_method_2_code
def yX9_has : MethodName := ⟨RX9, "has", "(I)Z"⟩
abbrev cX9_ruleOf : ByteArray := prog_11_method_3_code
def yX9_ruleOf : MethodName := ⟨RX9, "ruleOf", "(LOneCubeEach$Stall;)LOneCubeEach$Text;"⟩
def RX10 : String := "OneCubeEach$Tokens"
def TX10 : u_T := fun k => match k with
  | 0 => ("OneCubeEach$Tokens", "tokens", "[I", true)
  | 1 => ("OneCubeEach$Tokens", "places", "[I", true)
  | _ => ("OneCubeEach$Tokens", "size", "I", false)
def tyX10 : Nat → FieldType := fun k => match k with
  | 0 => .array .int
  | 1 => .array .int
  | _ => .int
abbrev wsX100 : List Cond := u_ws RX10 TX10 3
theorem nmX10 : ∀ a, a < 3 → ∀ b, b < 3 → a ≠ b → (TX10 a).2.1 ≠ (TX10 b).2.1 := by decide +kernel
theorem tyX10_ok : ∀ k, k < 3 → parseFieldDescriptor (TX10 k).2.2.1 = some (tyX10 k) := by decide +kernel
abbrev cX10_init : ByteArray := prog_12_method_1_code
def yX10_init : MethodName := ⟨RX10, "<init>", "()V"⟩
abbrev cX10_cut : ByteArray := prog_12_method_2_code
def yX10_cut : MethodName := ⟨RX10, "cut", "(LOneCubeEach$Tape;)V"⟩
abbrev cX10_tokenAt : ByteArray := prog_12_method_3_code
def yX10_tokenAt : MethodName := ⟨RX10, "tokenAt", "(I)I"⟩
abbrev cX10_placeAt : ByteArray := prog_12_method_4_code
def yX10_placeAt : MethodName := ⟨RX10, "placeAt", "(I)I"⟩
abbrev cX10_put : ByteArray := prog_12_method_5_code
def yX10_put : MethodName := ⟨RX10, "put", "(II)V"⟩
abbrev cX10_endOf : ByteArray := prog_12_method_6_code
def yX10_endOf : MethodName := ⟨RX10, "endOf", "(LOneCubeEach$Tape;I)I"⟩
abbrev cX10_tokenOf : ByteArray := prog_12_method_7_code
def yX10_tokenOf : MethodName := ⟨RX10, "tokenOf", "(LOneCubeEach$Tape;II)I"⟩
abbrev cX10_numberOf : ByteArray := prog_12_method_8_code
def yX10_numberOf : MethodName := ⟨RX10, "numberOf", "(LOneCubeEach$Tape;II)I"⟩
abbrev cX10_wordOf : ByteArray := prog_12_method_9_code
def yX10_wordOf : MethodName := ⟨RX10, "wordOf", "(LOneCubeEach$Tape;II)I"⟩
abbrev cX10_isSpelt : ByteArray := prog_12_method_10_code
def yX10_isSpelt : MethodName := ⟨RX10, "isSpelt", "(Ljava/lang/String;LOneCubeEach$Tape;II)Z"⟩
abbrev cX10_spellingOf : ByteArray := prog_12_method_11_code
def yX10_spellingOf : MethodName := ⟨RX10, "spellingOf", "(I)Ljava/lang/String;"⟩
def RX11 : String := "OneCubeEach"
def TX11 : u_T := fun k => match k with
  | 0 => ("OneCubeEach", "now", "LOneCubeEach$Stall;", true)
  | 1 => ("OneCubeEach", "thought", "LOneCubeEach$Stall;", true)
  | 2 => ("OneCubeEach", "kept", "LOneCubeEach$Stall;", true)
  | 3 => ("OneCubeEach", "anyKept", "Z", false)
  | 4 => ("OneCubeEach", "tape", "LOneCubeEach$Tape;", true)
  | 5 => ("OneCubeEach", "reader", "LOneCubeEach$Reader;", true)
  | 6 => ("OneCubeEach", "texts", "LOneCubeEach$Texts;", true)
  | 7 => ("OneCubeEach", "reckoning", "LOneCubeEach$Reckoning;", true)
  | 8 => ("OneCubeEach", "best", "LOneCubeEach$Best;", true)
  | 9 => ("OneCubeEach", "line", "LOneCubeEach$Fraction;", true)
  | _ => ("OneCubeEach", "sheets", "[LOneCubeEach$Sheet;", true)
def tyX11 : Nat → FieldType := fun k => match k with
  | 0 => .object "OneCubeEach$Stall"
  | 1 => .object "OneCubeEach$Stall"
  | 2 => .object "OneCubeEach$Stall"
  | 3 => .boolean
  | 4 => .object "OneCubeEach$Tape"
  | 5 => .object "OneCubeEach$Reader"
  | 6 => .object "OneCubeEach$Texts"
  | 7 => .object "OneCubeEach$Reckoning"
  | 8 => .object "OneCubeEach$Best"
  | 9 => .object "OneCubeEach$Fraction"
  | _ => .array (.object "OneCubeEach$Sheet")
abbrev wsX110 : List Cond := u_ws RX11 TX11 11
theorem nmX11 : ∀ a, a < 11 → ∀ b, b < 11 → a ≠ b → (TX11 a).2.1 ≠ (TX11 b).2.1 := by decide +kernel
theorem tyX11_ok : ∀ k, k < 11 → parseFieldDescriptor (TX11 k).2.2.1 = some (tyX11 k) := by decide +kernel
abbrev cX11_init : ByteArray := prog_1_method_1_code
def yX11_init : MethodName := ⟨RX11, "<init>", "()V"⟩
abbrev cX11_set : ByteArray := prog_1_method_2_code
def yX11_set : MethodName := ⟨RX11, "set", "(III)I"⟩
abbrev cX11_customer : ByteArray := prog_1_method_3_code
def yX11_customer : MethodName := ⟨RX11, "customer", "(III)I"⟩
abbrev cX11_told : ByteArray := prog_1_method_4_code
def yX11_told : MethodName := ⟨RX11, "told", "(II)I"⟩
abbrev cX11_feed : ByteArray := prog_1_method_5_code
def yX11_feed : MethodName := ⟨RX11, "feed", "(I)I"⟩
abbrev cX11_text : ByteArray := prog_1_method_6_code
def yX11_text : MethodName := ⟨RX11, "text", "()I"⟩
abbrev cX11_force : ByteArray := prog_1_method_7_code
def yX11_force : MethodName := ⟨RX11, "force", "(I)I"⟩
abbrev cX11_board : ByteArray := prog_1_method_8_code
def yX11_board : MethodName := ⟨RX11, "board", "(I)I"⟩
abbrev cX11_fair : ByteArray := prog_1_method_9_code
def yX11_fair : MethodName := ⟨RX11, "fair", "(I)J"⟩
abbrev cX11_buysOne : ByteArray := prog_1_method_10_code
def yX11_buysOne : MethodName := ⟨RX11, "buysOne", "(I)J"⟩
abbrev cX11_hour : ByteArray := prog_1_method_11_code
def yX11_hour : MethodName := ⟨RX11, "hour", "(II)I"⟩
abbrev cX11_crowdedHour : ByteArray := prog_1_method_12_code
def yX11_crowdedHour : MethodName := ⟨RX11, "crowdedHour", "()I"⟩
abbrev cX11_cubes : ByteArray := prog_1_method_13_code
def yX11_cubes : MethodName := ⟨RX11, "cubes", "(I)I"⟩
abbrev cX11_shelf : ByteArray := prog_1_method_14_code
def yX11_shelf : MethodName := ⟨RX11, "shelf", "(I)I"⟩
abbrev cX11_apron : ByteArray := prog_1_method_15_code
def yX11_apron : MethodName := ⟨RX11, "apron", "(I)I"⟩
abbrev cX11_stand : ByteArray := prog_1_method_16_code
def yX11_stand : MethodName := ⟨RX11, "stand", "(II)I"⟩
abbrev cX11_setting : ByteArray := prog_1_method_17_code
def yX11_setting : MethodName := ⟨RX11, "setting", "(I)I"⟩
abbrev cX11_sendAway : ByteArray := prog_1_method_18_code
def yX11_sendAway : MethodName := ⟨RX11, "sendAway", "(I)I"⟩
abbrev cX11_lost : ByteArray := prog_1_method_19_code
def yX11_lost : MethodName := ⟨RX11, "lost", "(I)I"⟩
abbrev cX11_bestOf : ByteArray := prog_1_method_20_code
def yX11_bestOf : MethodName := ⟨RX11, "bestOf", "(IIII)I"⟩
abbrev cX11_tells : ByteArray := prog_1_method_21_code
def yX11_tells : MethodName := ⟨RX11, "tells", "(III)I"⟩
abbrev cX11_film : ByteArray := prog_1_method_22_code
def yX11_film : MethodName := ⟨RX11, "film", "(III)I"⟩
abbrev cX11_sell : ByteArray := prog_1_method_23_code
def yX11_sell : MethodName := ⟨RX11, "sell", "(I)I"⟩
abbrev cX11_chance : ByteArray := prog_1_method_24_code
def yX11_chance : MethodName := ⟨RX11, "chance", "(IIII)J"⟩
abbrev cX11_image : ByteArray := prog_1_method_25_code
def yX11_image : MethodName := ⟨RX11, "image", "()I"⟩
abbrev cX11_back : ByteArray := prog_1_method_26_code
def yX11_back : MethodName := ⟨RX11, "back", "()I"⟩
abbrev cX11_count : ByteArray := prog_1_method_27_code
def yX11_count : MethodName := ⟨RX11, "count", "(I)I"⟩
abbrev cX11_firstOtherwise : ByteArray := prog_1_method_28_code
def yX11_firstOtherwise : MethodName := ⟨RX11, "firstOtherwise", "(LOneCubeEach$Sheet;LOneCubeEach$Customer;)I"⟩
abbrev cX11_allBy : ByteArray := prog_1_method_29_code
def yX11_allBy : MethodName := ⟨RX11, "allBy", "(LOneCubeEach$Sheet;LOneCubeEach$Customer;I)I"⟩
abbrev cX11_suppose : ByteArray := prog_1_method_30_code
def yX11_suppose : MethodName := ⟨RX11, "suppose", "(LOneCubeEach$Customer;II)V"⟩
abbrev cX11_sheet : ByteArray := prog_1_method_31_code
def yX11_sheet : MethodName := ⟨RX11, "sheet", "(III)I"⟩
abbrev cX11_cell : ByteArray := prog_1_method_32_code
def yX11_cell : MethodName := ⟨RX11, "cell", "(III)I"⟩
abbrev cX11_copy : ByteArray := prog_1_method_33_code
def yX11_copy : MethodName := ⟨RX11, "copy", "(IIIII)I"⟩
abbrev cX11_customers : ByteArray := prog_1_method_34_code
def yX11_customers : MethodName := ⟨RX11, "customers", "(IIII)I"⟩
abbrev cX11_taken : ByteArray := prog_1_method_35_code
def yX11_taken : MethodName := ⟨RX11, "taken", "(II)I"⟩
abbrev cX11_isUnder : ByteArray := prog_1_method_36_code
def yX11_isUnder : MethodName := ⟨RX11, "isUnder", "(II)Z"⟩
abbrev cX11_isWithin : ByteArray := prog_1_method_37_code
def yX11_isWithin : MethodName := ⟨RX11, "isWithin", "(III)Z"⟩
abbrev cX11_isZeroOrOne : ByteArray := prog_1_method_38_code
def yX11_isZeroOrOne : MethodName := ⟨RX11, "isZeroOrOne", "(I)Z"⟩
abbrev cX11_isHour : ByteArray := prog_1_method_39_code
def yX11_isHour : MethodName := ⟨RX11, "isHour", "(I)Z"⟩
abbrev cX11_isSheet : ByteArray := prog_1_method_40_code
def yX11_isSheet : MethodName := ⟨RX11, "isSheet", "(I)Z"⟩
abbrev cX11_bounded : ByteArray := prog_1_method_41_code
def yX11_bounded : MethodName := ⟨RX11, "bounded", "(II)I"⟩
def RX12 : String := "OneCubeEachModel"
def TX12 : u_T := fun k => match k with
  | 0 => ("OneCubeEachModel", "thrown", "I", false)
  | 1 => ("OneCubeEachModel", "texts", "[I", true)
  | 2 => ("OneCubeEachModel", "textSize", "[I", true)
  | 3 => ("OneCubeEachModel", "textCount", "I", false)
  | 4 => ("OneCubeEachModel", "rule", "I", false)
  | 5 => ("OneCubeEachModel", "tape", "[I", true)
  | 6 => ("OneCubeEachModel", "taped", "I", false)
  | 7 => ("OneCubeEachModel", "stall", "[I", true)
  | 8 => ("OneCubeEachModel", "kinds", "[I", true)
  | 9 => ("OneCubeEachModel", "rows", "[I", true)
  | 10 => ("OneCubeEachModel", "many", "I", false)
  | 11 => ("OneCubeEachModel", "ofHour", "I", false)
  | 12 => ("OneCubeEachModel", "ofHunger", "I", false)
  | 13 => ("OneCubeEachModel", "ofNumber", "I", false)
  | 14 => ("OneCubeEachModel", "ofGirl", "I", false)
  | 15 => ("OneCubeEachModel", "ofCube", "I", false)
  | 16 => ("OneCubeEachModel", "ofSorts", "I", false)
  | 17 => ("OneCubeEachModel", "from", "I", false)
  | 18 => ("OneCubeEachModel", "size", "I", false)
  | 19 => ("OneCubeEachModel", "here", "I", false)
  | 20 => ("OneCubeEachModel", "token", "I", false)
  | 21 => ("OneCubeEachModel", "tokenAt", "I", false)
  | 22 => ("OneCubeEachModel", "tokenWorth", "J", false)
  | 23 => ("OneCubeEachModel", "open", "I", false)
  | 24 => ("OneCubeEachModel", "bad", "Z", false)
  | 25 => ("OneCubeEachModel", "fault", "I", false)
  | 26 => ("OneCubeEachModel", "stallKept", "[I", true)
  | 27 => ("OneCubeEachModel", "rowsKept", "[I", true)
  | 28 => ("OneCubeEachModel", "manyKept", "I", false)
  | 29 => ("OneCubeEachModel", "ruleKept", "I", false)
  | 30 => ("OneCubeEachModel", "isThere", "[Z", true)
  | 31 => ("OneCubeEachModel", "sorts", "[I", true)
  | 32 => ("OneCubeEachModel", "sheetSize", "[I", true)
  | _ => ("OneCubeEachModel", "items", "[I", true)
def tyX12 : Nat → FieldType := fun k => match k with
  | 0 => .int
  | 1 => .array .int
  | 2 => .array .int
  | 3 => .int
  | 4 => .int
  | 5 => .array .int
  | 6 => .int
  | 7 => .array .int
  | 8 => .array .int
  | 9 => .array .int
  | 10 => .int
  | 11 => .int
  | 12 => .int
  | 13 => .int
  | 14 => .int
  | 15 => .int
  | 16 => .int
  | 17 => .int
  | 18 => .int
  | 19 => .int
  | 20 => .int
  | 21 => .int
  | 22 => .long
  | 23 => .int
  | 24 => .boolean
  | 25 => .int
  | 26 => .array .int
  | 27 => .array .int
  | 28 => .int
  | 29 => .int
  | 30 => .array .boolean
  | 31 => .array .int
  | 32 => .array .int
  | _ => .array .int
abbrev wsX120 : List Cond := u_ws RX12 TX12 34
theorem nmX12 : ∀ a, a < 34 → ∀ b, b < 34 → a ≠ b → (TX12 a).2.1 ≠ (TX12 b).2.1 := by decide +kernel
theorem tyX12_ok : ∀ k, k < 34 → parseFieldDescriptor (TX12 k).2.2.1 = some (tyX12 k) := by decide +kernel
abbrev cX12_in : ByteArray := prog_14_method_2_code
def yX12_in : MethodName := ⟨RX12, "in", "(JJJ)Z"⟩
abbrev cX12_within : ByteArray := prog_14_method_3_code
def yX12_within : MethodName := ⟨RX12, "within", "(III)I"⟩
abbrev cX12_init : ByteArray := prog_14_method_4_code
def yX12_init : MethodName := ⟨RX12, "<init>", "()V"⟩
abbrev cX12_spell : ByteArray := prog_14_method_5_code
def yX12_spell : MethodName := ⟨RX12, "spell", "(IIIIIIIII)V"⟩
abbrev cX12_isOne : ByteArray := prog_14_method_6_code
def yX12_isOne : MethodName := ⟨RX12, "isOne", "(I)Z"⟩
abbrev cX12_leastOf : ByteArray := prog_14_method_7_code
def yX12_leastOf : MethodName := ⟨RX12, "leastOf", "(I)I"⟩
abbrev cX12_mostOf : ByteArray := prog_14_method_8_code
def yX12_mostOf : MethodName := ⟨RX12, "mostOf", "(I)I"⟩
abbrev cX12_set : ByteArray := prog_14_method_9_code
def yX12_set : MethodName := ⟨RX12, "set", "(III)I"⟩
abbrev cX12_lays : ByteArray := prog_14_method_10_code
def yX12_lays : MethodName := ⟨RX12, "lays", "(III)V"⟩
abbrev cX12_customer : ByteArray := prog_14_method_11_code
def yX12_customer : MethodName := ⟨RX12, "customer", "(III)I"⟩
abbrev cX12_told : ByteArray := prog_14_method_12_code
def yX12_told : MethodName := ⟨RX12, "told", "(II)I"⟩
abbrev cX12_feed : ByteArray := prog_14_method_13_code
def yX12_feed : MethodName := ⟨RX12, "feed", "(I)I"⟩
abbrev cX12_byteAt : ByteArray := prog_14_method_14_code
def yX12_byteAt : MethodName := ⟨RX12, "byteAt", "(I)I"⟩
abbrev cX12_next : ByteArray := prog_14_method_15_code
def yX12_next : MethodName := ⟨RX12, "next", "()V"⟩
abbrev cX12_fail : ByteArray := prog_14_method_16_code
def yX12_fail : MethodName := ⟨RX12, "fail", "()V"⟩
abbrev cX12_isLetter : ByteArray := prog_14_method_17_code
def yX12_isLetter : MethodName := ⟨RX12, "isLetter", "(II)Z"⟩
abbrev cX12_isWord : ByteArray := prog_14_method_18_code
def yX12_isWord : MethodName := ⟨RX12, "isWord", "(IIIIIIII)Z"⟩
abbrev cX12_isSign : ByteArray := prog_14_method_19_code
def yX12_isSign : MethodName := ⟨RX12, "isSign", "(I)Z"⟩
abbrev cX12_opens : ByteArray := prog_14_method_20_code
def yX12_opens : MethodName := ⟨RX12, "opens", "()Z"⟩
abbrev cX12_name : ByteArray := prog_14_method_21_code
def yX12_name : MethodName := ⟨RX12, "name", "()I"⟩
abbrev cX12_atom5 : ByteArray := prog_14_method_22_code
def yX12_atom5 : MethodName := ⟨RX12, "atom5", "()I"⟩
abbrev cX12_term5 : ByteArray := prog_14_method_23_code
def yX12_term5 : MethodName := ⟨RX12, "term5", "()I"⟩
abbrev cX12_added5 : ByteArray := prog_14_method_24_code
def yX12_added5 : MethodName := ⟨RX12, "added5", "()I"⟩
abbrev cX12_not5 : ByteArray := prog_14_method_25_code
def yX12_not5 : MethodName := ⟨RX12, "not5", "()I"⟩
abbrev cX12_both5 : ByteArray := prog_14_method_26_code
def yX12_both5 : MethodName := ⟨RX12, "both5", "()I"⟩
abbrev cX12_either5 : ByteArray := prog_14_method_27_code
def yX12_either5 : MethodName := ⟨RX12, "either5", "()I"⟩
abbrev cX12_atom4 : ByteArray := prog_14_method_28_code
def yX12_atom4 : MethodName := ⟨RX12, "atom4", "()I"⟩
abbrev cX12_term4 : ByteArray := prog_14_method_29_code
def yX12_term4 : MethodName := ⟨RX12, "term4", "()I"⟩
abbrev cX12_added4 : ByteArray := prog_14_method_30_code
def yX12_added4 : MethodName := ⟨RX12, "added4", "()I"⟩
abbrev cX12_not4 : ByteArray := prog_14_method_31_code
def yX12_not4 : MethodName := ⟨RX12, "not4", "()I"⟩
abbrev cX12_both4 : ByteArray := prog_14_method_32_code
def yX12_both4 : MethodName := ⟨RX12, "both4", "()I"⟩
abbrev cX12_either4 : ByteArray := prog_14_method_33_code
def yX12_either4 : MethodName := ⟨RX12, "either4", "()I"⟩
abbrev cX12_atom3 : ByteArray := prog_14_method_34_code
def yX12_atom3 : MethodName := ⟨RX12, "atom3", "()I"⟩
abbrev cX12_term3 : ByteArray := prog_14_method_35_code
def yX12_term3 : MethodName := ⟨RX12, "term3", "()I"⟩
abbrev cX12_added3 : ByteArray := prog_14_method_36_code
def yX12_added3 : MethodName := ⟨RX12, "added3", "()I"⟩
abbrev cX12_not3 : ByteArray := prog_14_method_37_code
def yX12_not3 : MethodName := ⟨RX12, "not3", "()I"⟩
abbrev cX12_both3 : ByteArray := prog_14_method_38_code
def yX12_both3 : MethodName := ⟨RX12, "both3", "()I"⟩
abbrev cX12_either3 : ByteArray := prog_14_method_39_code
def yX12_either3 : MethodName := ⟨RX12, "either3", "()I"⟩
abbrev cX12_atom2 : ByteArray := prog_14_method_40_code
def yX12_atom2 : MethodName := ⟨RX12, "atom2", "()I"⟩
abbrev cX12_term2 : ByteArray := prog_14_method_41_code
def yX12_term2 : MethodName := ⟨RX12, "term2", "()I"⟩
abbrev cX12_added2 : ByteArray := prog_14_method_42_code
def yX12_added2 : MethodName := ⟨RX12, "added2", "()I"⟩
abbrev cX12_not2 : ByteArray := prog_14_method_43_code
def yX12_not2 : MethodName := ⟨RX12, "not2", "()I"⟩
abbrev cX12_both2 : ByteArray := prog_14_method_44_code
def yX12_both2 : MethodName := ⟨RX12, "both2", "()I"⟩
abbrev cX12_either2 : ByteArray := prog_14_method_45_code
def yX12_either2 : MethodName := ⟨RX12, "either2", "()I"⟩
abbrev cX12_atom1 : ByteArray := prog_14_method_46_code
def yX12_atom1 : MethodName := ⟨RX12, "atom1", "()I"⟩
abbrev cX12_term1 : ByteArray := prog_14_method_47_code
def yX12_term1 : MethodName := ⟨RX12, "term1", "()I"⟩
abbrev cX12_added1 : ByteArray := prog_14_method_48_code
def yX12_added1 : MethodName := ⟨RX12, "added1", "()I"⟩
abbrev cX12_not1 : ByteArray := prog_14_method_49_code
def yX12_not1 : MethodName := ⟨RX12, "not1", "()I"⟩
abbrev cX12_both1 : ByteArray := prog_14_method_50_code
def yX12_both1 : MethodName := ⟨RX12, "both1", "()I"⟩
abbrev cX12_either1 : ByteArray := prog_14_method_51_code
def yX12_either1 : MethodName := ⟨RX12, "either1", "()I"⟩
abbrev cX12_atom0 : ByteArray := prog_14_method_52_code
def yX12_atom0 : MethodName := ⟨RX12, "atom0", "()I"⟩
abbrev cX12_term0 : ByteArray := prog_14_method_53_code
def yX12_term0 : MethodName := ⟨RX12, "term0", "()I"⟩
abbrev cX12_added0 : ByteArray := prog_14_method_54_code
def yX12_added0 : MethodName := ⟨RX12, "added0", "()I"⟩
abbrev cX12_not0 : ByteArray := prog_14_method_55_code
def yX12_not0 : MethodName := ⟨RX12, "not0", "()I"⟩
abbrev cX12_both0 : ByteArray := prog_14_method_56_code
def yX12_both0 : MethodName := ⟨RX12, "both0", "()I"⟩
abbrev cX12_either0 : ByteArray := prog_14_method_57_code
def yX12_either0 : MethodName := ⟨RX12, "either0", "()I"⟩
abbrev cX12_part : ByteArray := prog_14_method_58_code
def yX12_part : MethodName := ⟨RX12, "part", "(Z)I"⟩
abbrev cX12_read : ByteArray := prog_14_method_59_code
def yX12_read : MethodName := ⟨RX12, "read", "(II)I"⟩
abbrev cX12_text : ByteArray := prog_14_method_60_code
def yX12_text : MethodName := ⟨RX12, "text", "()I"⟩
abbrev cX12_force : ByteArray := prog_14_method_61_code
def yX12_force : MethodName := ⟨RX12, "force", "(I)I"⟩
abbrev cX12_asks : ByteArray := prog_14_method_62_code
def yX12_asks : MethodName := ⟨RX12, "asks", "(II)I"⟩
abbrev cX12_eatsOf : ByteArray := prog_14_method_63_code
def yX12_eatsOf : MethodName := ⟨RX12, "eatsOf", "(I)I"⟩
abbrev cX12_triesOf : ByteArray := prog_14_method_64_code
def yX12_triesOf : MethodName := ⟨RX12, "triesOf", "(I)I"⟩
abbrev cX12_spendsOf : ByteArray := prog_14_method_65_code
def yX12_spendsOf : MethodName := ⟨RX12, "spendsOf", "(I)I"⟩
abbrev cX12_isThereNow : ByteArray := prog_14_method_66_code
def yX12_isThereNow : MethodName := ⟨RX12, "isThereNow", "(I)Z"⟩
abbrev cX12_costOf : ByteArray := prog_14_method_67_code
def yX12_costOf : MethodName := ⟨RX12, "costOf", "(I)I"⟩
abbrev cX12_gainOf : ByteArray := prog_14_method_68_code
def yX12_gainOf : MethodName := ⟨RX12, "gainOf", "(I)I"⟩
abbrev cX12_gainAll : ByteArray := prog_14_method_69_code
def yX12_gainAll : MethodName := ⟨RX12, "gainAll", "()I"⟩
abbrev cX12_eatenIn : ByteArray := prog_14_method_70_code
def yX12_eatenIn : MethodName := ⟨RX12, "eatenIn", "(I)I"⟩
abbrev cX12_crowd : ByteArray := prog_14_method_71_code
def yX12_crowd : MethodName := ⟨RX12, "crowd", "()I"⟩
abbrev cX12_board : ByteArray := prog_14_method_72_code
def yX12_board : MethodName := ⟨RX12, "board", "(I)I"⟩
abbrev cX12_common : ByteArray := prog_14_method_73_code
def yX12_common : MethodName := ⟨RX12, "common", "(JJ)J"⟩
abbrev cX12_buys : ByteArray := prog_14_method_74_code
def yX12_buys : MethodName := ⟨RX12, "buys", "(I)Z"⟩
abbrev cX12_fair : ByteArray := prog_14_method_75_code
def yX12_fair : MethodName := ⟨RX12, "fair", "(I)J"⟩
abbrev cX12_buysOne : ByteArray := prog_14_method_76_code
def yX12_buysOne : MethodName := ⟨RX12, "buysOne", "(I)J"⟩
abbrev cX12_hour : ByteArray := prog_14_method_77_code
def yX12_hour : MethodName := ⟨RX12, "hour", "(II)I"⟩
abbrev cX12_bestOf : ByteArray := prog_14_method_78_code
def yX12_bestOf : MethodName := ⟨RX12, "bestOf", "(II)I"⟩
abbrev cX12_cubes : ByteArray := prog_14_method_79_code
def yX12_cubes : MethodName := ⟨RX12, "cubes", "(I)I"⟩
abbrev cX12_shelf : ByteArray := prog_14_method_80_code
def yX12_shelf : MethodName := ⟨RX12, "shelf", "(I)I"⟩
abbrev cX12_apron : ByteArray := prog_14_method_81_code
def yX12_apron : MethodName := ⟨RX12, "apron", "(I)I"⟩
abbrev cX12_stand : ByteArray := prog_14_method_82_code
def yX12_stand : MethodName := ⟨RX12, "stand", "(II)I"⟩
abbrev cX12_setting : ByteArray := prog_14_method_83_code
def yX12_setting : MethodName := ⟨RX12, "setting", "(I)I"⟩
abbrev cX12_sendAway : ByteArray := prog_14_method_84_code
def yX12_sendAway : MethodName := ⟨RX12, "sendAway", "(I)I"⟩
abbrev cX12_lost : ByteArray := prog_14_method_85_code
def yX12_lost : MethodName := ⟨RX12, "lost", "(I)I"⟩
abbrev cX12_firstOther : ByteArray := prog_14_method_86_code
def yX12_firstOther : MethodName := ⟨RX12, "firstOther", "(II)I"⟩
abbrev cX12_tells : ByteArray := prog_14_method_87_code
def yX12_tells : MethodName := ⟨RX12, "tells", "(III)I"⟩
abbrev cX12_film : ByteArray := prog_14_method_88_code
def yX12_film : MethodName := ⟨RX12, "film", "(III)I"⟩
abbrev cX12_soldBy : ByteArray := prog_14_method_89_code
def yX12_soldBy : MethodName := ⟨RX12, "soldBy", "(IZ)I"⟩
abbrev cX12_sell : ByteArray := prog_14_method_90_code
def yX12_sell : MethodName := ⟨RX12, "sell", "(I)I"⟩
abbrev cX12_chance : ByteArray := prog_14_method_91_code
def yX12_chance : MethodName := ⟨RX12, "chance", "(IIII)J"⟩
abbrev cX12_image : ByteArray := prog_14_method_92_code
def yX12_image : MethodName := ⟨RX12, "image", "()I"⟩
abbrev cX12_back : ByteArray := prog_14_method_93_code
def yX12_back : MethodName := ⟨RX12, "back", "()I"⟩
abbrev cX12_count : ByteArray := prog_14_method_94_code
def yX12_count : MethodName := ⟨RX12, "count", "(I)I"⟩
abbrev cX12_isSheet : ByteArray := prog_14_method_95_code
def yX12_isSheet : MethodName := ⟨RX12, "isSheet", "(I)Z"⟩
abbrev cX12_sheet : ByteArray := prog_14_method_96_code
def yX12_sheet : MethodName := ⟨RX12, "sheet", "(III)I"⟩
abbrev cX12_cell : ByteArray := prog_14_method_97_code
def yX12_cell : MethodName := ⟨RX12, "cell", "(III)I"⟩
abbrev cX12_copy : ByteArray := prog_14_method_98_code
def yX12_copy : MethodName := ⟨RX12, "copy", "(IIIII)I"⟩
abbrev cX12_customers : ByteArray := prog_14_method_99_code
def yX12_customers : MethodName := ⟨RX12, "customers", "(IIII)I"⟩
abbrev cX12_over : ByteArray := prog_14_method_100_code
def yX12_over : MethodName := ⟨RX12, "over", "(I)I"⟩
abbrev cX12_taken : ByteArray := prog_14_method_101_code
def yX12_taken : MethodName := ⟨RX12, "taken", "(II)I"⟩
def RJ11 : String := "java/lang/Character"
def TJ11 : u_T := fun k => match k with
  | _ => ("", "", "", false)
def tyJ11 : Nat → FieldType := fun k => match k with
  | _ => .int
abbrev wsJ110 : List Cond := u_ws RJ11 TJ11 0
theorem nmJ11 : ∀ a, a < 0 → ∀ b, b < 0 → a ≠ b → (TJ11 a).2.1 ≠ (TJ11 b).2.1 := by decide +kernel
theorem tyJ11_ok : ∀ k, k < 0 → parseFieldDescriptor (TJ11 k).2.2.1 = some (tyJ11 k) := by decide +kernel
abbrev cJ11_isValidCodePoint_9a6ad : ByteArray := prog_15_method_11_code
def yJ11_isValidCodePoint_9a6ad : MethodName := ⟨RJ11, "isValidCodePoint", "(I)Z"⟩
abbrev cJ11_highSurrogate_5068e : ByteArray := prog_15_method_28_code
def yJ11_highSurrogate_5068e : MethodName := ⟨RJ11, "highSurrogate", "(I)C"⟩
abbrev cJ11_lowSurrogate_5068e : ByteArray := prog_15_method_29_code
def yJ11_lowSurrogate_5068e : MethodName := ⟨RJ11, "lowSurrogate", "(I)C"⟩
def RJ6 : String := "java/lang/Integer"
def TJ6 : u_T := fun k => match k with
  | _ => ("", "", "", false)
def tyJ6 : Nat → FieldType := fun k => match k with
  | _ => .int
abbrev wsJ60 : List Cond := u_ws RJ6 TJ6 0
theorem nmJ6 : ∀ a, a < 0 → ∀ b, b < 0 → a ≠ b → (TJ6 a).2.1 ≠ (TJ6 b).2.1 := by decide +kernel
theorem tyJ6_ok : ∀ k, k < 0 → parseFieldDescriptor (TJ6 k).2.2.1 = some (tyJ6 k) := by decide +kernel
abbrev cJ6_bitCount_0f7a4 : ByteArray := prog_16_method_49_code
def yJ6_bitCount_0f7a4 : MethodName := ⟨RJ6, "bitCount", "(I)I"⟩
def RJ9 : String := "java/lang/Math"
def TJ9 : u_T := fun k => match k with
  | _ => ("", "", "", false)
def tyJ9 : Nat → FieldType := fun k => match k with
  | _ => .int
abbrev wsJ90 : List Cond := u_ws RJ9 TJ9 0
theorem nmJ9 : ∀ a, a < 0 → ∀ b, b < 0 → a ≠ b → (TJ9 a).2.1 ≠ (TJ9 b).2.1 := by decide +kernel
theorem tyJ9_ok : ∀ k, k < 0 → parseFieldDescriptor (TJ9 k).2.2.1 = some (tyJ9 k) := by decide +kernel
abbrev cJ9_max_7cf53 : ByteArray := prog_17_method_65_code
def yJ9_max_7cf53 : MethodName := ⟨RJ9, "max", "(II)I"⟩
abbrev cJ9_min_7cf53 : ByteArray := prog_17_method_69_code
def yJ9_min_7cf53 : MethodName := ⟨RJ9, "min", "(II)I"⟩
def RJ0 : String := "java/lang/String"
def TJ0 : u_T := fun k => match k with
  | _ => ("", "", "", false)
def tyJ0 : Nat → FieldType := fun k => match k with
  | _ => .int
abbrev wsJ00 : List Cond := u_ws RJ0 TJ0 0
theorem nmJ0 : ∀ a, a < 0 → ∀ b, b < 0 → a ≠ b → (TJ0 a).2.1 ≠ (TJ0 b).2.1 := by decide +kernel
theorem tyJ0_ok : ∀ k, k < 0 → parseFieldDescriptor (TJ0 k).2.2.1 = some (tyJ0 k) := by decide +kernel
abbrev cJ0_length_8abf5 : ByteArray := prog_18_method_54_code
def yJ0_length_8abf5 : MethodName := ⟨RJ0, "length", "()I"⟩
abbrev cJ0_charAt_5068e : ByteArray := prog_18_method_56_code
def yJ0_charAt_5068e : MethodName := ⟨RJ0, "charAt", "(I)C"⟩
abbrev cJ0_indexOf_0f7a4 : ByteArray := prog_18_method_79_code
def yJ0_indexOf_0f7a4 : MethodName := ⟨RJ0, "indexOf", "(I)I"⟩
abbrev cJ0_indexOf_7cf53 : ByteArray := prog_18_method_80_code
def yJ0_indexOf_7cf53 : MethodName := ⟨RJ0, "indexOf", "(II)I"⟩
abbrev cJ0_coder_7d493 : ByteArray := prog_18_method_152_code
def yJ0_coder_7d493 : MethodName := ⟨RJ0, "coder", "()B"⟩
abbrev cJ0_isLatin1_aae02 : ByteArray := prog_18_method_154_code
def yJ0_isLatin1_aae02 : MethodName := ⟨RJ0, "isLatin1", "()Z"⟩
abbrev cJ0_checkIndex_df160 : ByteArray := prog_18_method_155_code
def yJ0_checkIndex_df160 : MethodName := ⟨RJ0, "checkIndex", "(II)V"⟩
abbrev cJ0_checkBoundsBeginEnd_23922 : ByteArray := prog_18_method_158_code
def yJ0_checkBoundsBeginEnd_23922 : MethodName := ⟨RJ0, "checkBoundsBeginEnd", "(III)V"⟩
def RJ1 : String := "java/lang/StringLatin1"
def TJ1 : u_T := fun k => match k with
  | _ => ("", "", "", false)
def tyJ1 : Nat → FieldType := fun k => match k with
  | _ => .int
abbrev wsJ10 : List Cond := u_ws RJ1 TJ1 0
theorem nmJ1 : ∀ a, a < 0 → ∀ b, b < 0 → a ≠ b → (TJ1 a).2.1 ≠ (TJ1 b).2.1 := by decide +kernel
theorem tyJ1_ok : ∀ k, k < 0 → parseFieldDescriptor (TJ1 k).2.2.1 = some (tyJ1 k) := by decide +kernel
abbrev cJ1_charAt_3b067 : ByteArray := prog_19_method_2_code
def yJ1_charAt_3b067 : MethodName := ⟨RJ1, "charAt", "([BI)C"⟩
abbrev cJ1_canEncode_9a6ad : ByteArray := prog_19_method_4_code
def yJ1_canEncode_9a6ad : MethodName := ⟨RJ1, "canEncode", "(I)Z"⟩
abbrev cJ1_indexOf_4cfef : ByteArray := prog_19_method_22_code
def yJ1_indexOf_4cfef : MethodName := ⟨RJ1, "indexOf", "([BIII)I"⟩
abbrev cJ1_indexOfChar_4cfef : ByteArray := prog_19_method_23_code
def yJ1_indexOfChar_4cfef : MethodName := ⟨RJ1, "indexOfChar", "([BIII)I"⟩
def RJ2 : String := "java/lang/StringUTF16"
def TJ2 : u_T := fun k => match k with
  | _ => ("", "", "", false)
def tyJ2 : Nat → FieldType := fun k => match k with
  | _ => .int
abbrev wsJ20 : List Cond := u_ws RJ2 TJ2 0
theorem nmJ2 : ∀ a, a < 0 → ∀ b, b < 0 → a ≠ b → (TJ2 a).2.1 ≠ (TJ2 b).2.1 := by decide +kernel
theorem tyJ2_ok : ∀ k, k < 0 → parseFieldDescriptor (TJ2 k).2.2.1 = some (tyJ2 k) := by decide +kernel
abbrev cJ2_getChar_3b067 : ByteArray := prog_20_method_5_code
def yJ2_getChar_3b067 : MethodName := ⟨RJ2, "getChar", "([BI)C"⟩
abbrev cJ2_length_9d52b : ByteArray := prog_20_method_6_code
def yJ2_length_9d52b : MethodName := ⟨RJ2, "length", "([B)I"⟩
abbrev cJ2_indexOf_4cfef : ByteArray := prog_20_method_40_code
def yJ2_indexOf_4cfef : MethodName := ⟨RJ2, "indexOf", "([BIII)I"⟩
abbrev cJ2_indexOfChar_4cfef : ByteArray := prog_20_method_47_code
def yJ2_indexOfChar_4cfef : MethodName := ⟨RJ2, "indexOfChar", "([BIII)I"⟩
abbrev cJ2_indexOfCharUnsafe_4cfef : ByteArray := prog_20_method_48_code
def yJ2_indexOfCharUnsafe_4cfef : MethodName := ⟨RJ2, "indexOfCharUnsafe", "([BIII)I"⟩
abbrev cJ2_indexOfSupplementary_4cfef : ByteArray := prog_20_method_49_code
def yJ2_indexOfSupplementary_4cfef : MethodName := ⟨RJ2, "indexOfSupplementary", "([BIII)I"⟩
abbrev cJ2_charAt_3b067 : ByteArray := prog_20_method_83_code
def yJ2_charAt_3b067 : MethodName := ⟨RJ2, "charAt", "([BI)C"⟩
abbrev cJ2_checkIndex_2214a : ByteArray := prog_20_method_91_code
def yJ2_checkIndex_2214a : MethodName := ⟨RJ2, "checkIndex", "(I[B)V"⟩
abbrev cJ2_checkBoundsBeginEnd_d044e : ByteArray := prog_20_method_93_code
def yJ2_checkBoundsBeginEnd_d044e : MethodName := ⟨RJ2, "checkBoundsBeginEnd", "(II[B)V"⟩
def RJ10 : String := "java/lang/System"
def TJ10 : u_T := fun k => match k with
  | _ => ("", "", "", false)
def tyJ10 : Nat → FieldType := fun k => match k with
  | _ => .int
abbrev wsJ100 : List Cond := u_ws RJ10 TJ10 0
theorem nmJ10 : ∀ a, a < 0 → ∀ b, b < 0 → a ≠ b → (TJ10 a).2.1 ≠ (TJ10 b).2.1 := by decide +kernel
theorem tyJ10_ok : ∀ k, k < 0 → parseFieldDescriptor (TJ10 k).2.2.1 = some (tyJ10 k) := by decide +kernel
def RJ3 : String := "jdk/internal/util/Preconditions"
def TJ3 : u_T := fun k => match k with
  | _ => ("", "", "", false)
def tyJ3 : Nat → FieldType := fun k => match k with
  | _ => .int
abbrev wsJ30 : List Cond := u_ws RJ3 TJ3 0
theorem nmJ3 : ∀ a, a < 0 → ∀ b, b < 0 → a ≠ b → (TJ3 a).2.1 ≠ (TJ3 b).2.1 := by decide +kernel
theorem tyJ3_ok : ∀ k, k < 0 → parseFieldDescriptor (TJ3 k).2.2.1 = some (tyJ3 k) := by decide +kernel
abbrev cJ3_checkIndex_8e157 : ByteArray := prog_22_method_11_code
def yJ3_checkIndex_8e157 : MethodName := ⟨RJ3, "checkIndex", "(IILjava/util/function/BiFunction;)I"⟩
abbrev cJ3_checkFromToIndex_8c36e : ByteArray := prog_22_method_12_code
def yJ3_checkFromToIndex_8c36e : MethodName := ⟨RJ3, "checkFromToIndex", "(IIILjava/util/function/BiFunction;)I"⟩
def RL : String := "OneCubeEachLaw"
abbrev cL_law : ByteArray := code
def yL_law : MethodName := ⟨RL, "law", "([I)Z"⟩
abbrev vwCl : List vw_C := [(RX0, TX0, 3), (RX1, TX1, 5), (RX2, TX2, 2), (RX3, TX3, 3), (RX4, TX4, 1), (RX5, TX5, 3), (RX6, TX6, 8), (RX7, TX7, 2), (RX8, TX8, 4), (RX9, TX9, 2), (RX10, TX10, 3), (RX11, TX11, 11), (RX12, TX12, 34)]
/-- the tables' words that stay through calls: every method here speaks of these alone -/
def lw_good : List Cond := lw_tbl.filter goodWord
theorem lg_of {w : Cond} (h : w ∈ lw_tbl) (g : goodWord w = true) : w ∈ lw_good := List.mem_filter.mpr ⟨h, g⟩
theorem lg_t {w : Cond} (h : w ∈ tables_1) (g : goodWord w = true) : w ∈ lw_good := lg_of (List.mem_append_right _ h) g
theorem lg_1 {w : Cond} (h : w ∈ tables_1_1) (g : goodWord w = true) : w ∈ lw_good := lg_t (List.mem_append_left _ h) g
theorem lg_2 {w : Cond} (h : w ∈ tables_1_2) (g : goodWord w = true) : w ∈ lw_good := lg_t (List.mem_append_right _ (List.mem_append_left _ h)) g
theorem lg_3 {w : Cond} (h : w ∈ tables_1_3) (g : goodWord w = true) : w ∈ lw_good := lg_t (List.mem_append_right _ (List.mem_append_right _ (List.mem_append_left _ h))) g
theorem lg_4 {w : Cond} (h : w ∈ tables_1_4) (g : goodWord w = true) : w ∈ lw_good := lg_t (List.mem_append_right _ (List.mem_append_right _ (List.mem_append_right _ (List.mem_append_left _ h)))) g
theorem lg_5 {w : Cond} (h : w ∈ tables_1_5) (g : goodWord w = true) : w ∈ lw_good := lg_t (List.mem_append_right _ (List.mem_append_right _ (List.mem_append_right _ (List.mem_append_right _ (List.mem_append_left _ h))))) g
theorem lg_6 {w : Cond} (h : w ∈ tables_1_6) (g : goodWord w = true) : w ∈ lw_good := lg_t (List.mem_append_right _ (List.mem_append_right _ (List.mem_append_right _ (List.mem_append_right _ (List.mem_append_right _ h))))) g
theorem lg_p {q : MethodName × Nat} (h : q ∈ lw_privs) : Cond.selects q.1.cls q.1 q.1 ∈ lw_good := lg_of (List.mem_append_left _ (List.mem_map.mpr ⟨q, h, rfl⟩)) rfl
theorem lg_good {w : Cond} (h : w ∈ lw_good) : w ∈ lw_good ∧ ((w.onTables && w.keeps) = true ∨ ∃ ty, w = .arrayClass ty) := ⟨h, good_of_word (List.mem_filter.mp h).2⟩
/-- a method's words: its code, and the tables' -/
def wT (y : MethodName) (c : ByteArray) (n : Nat) (r : Option FieldType) : List Cond := .code y c n r :: lw_good
theorem wT_good {y : MethodName} {c : ByteArray} {n : Nat} {r : Option FieldType} (h : .code y c n r ∈ lw_good) : GoodIn lw_good (wT y c n r) := fun w hw => (List.mem_cons.mp hw).elim (fun e => lg_good (e ▸ h)) lg_good
/-- what the tables say of an instance method that is called -/
def mw_VB (y : MethodName) (C : String) (c : ByteArray) (maxL : Nat) (ret : Option FieldType) (n : Nat) : Prop := (.instanceMethod y ∈ lw_good ∧ .selects C y y ∈ lw_good ∧ .initialized C ∈ lw_good ∧ .code y c maxL ret ∈ lw_good) ∧ (y.cls = C ∧ y.cls ≠ "java/lang/invoke/MethodHandle" ∧ y.cls ≠ "java/lang/invoke/VarHandle" ∧ (parseMethodDescriptor y.desc).map (fun d => d.parameters.length) = some n)
/-- and of a static one -/
def mw_SB (y : MethodName) (c : ByteArray) (maxL : Nat) (ret : Option FieldType) (n : Nat) : Prop := (.static y ∈ lw_good ∧ .initialized y.cls ∈ lw_good ∧ .code y c maxL ret ∈ lw_good) ∧ (y.cls ≠ "java/lang/invoke/MethodHandle" ∧ y.cls ≠ "java/lang/invoke/VarHandle" ∧ (parseMethodDescriptor y.desc).map (fun d => d.parameters.length) = some n)
theorem mw_gV {own : String} {index : Nat} {y : MethodName} {C : String} {c : ByteArray} {maxL n : Nat} {ret : Option FieldType} (hl : .methodLink own index y ∈ lw_good) (h : mw_VB y C c maxL ret n) : GoodIn lw_good (wsV own index C y (wT y c maxL ret)) := by
  intro w hw
  rcases List.mem_append.mp hw with h1 | h1
  · simp only [List.mem_cons, List.not_mem_nil, or_false] at h1
    rcases h1 with rfl | rfl | rfl | rfl
    · exact lg_good hl
    · exact lg_good h.1.1
    · exact lg_good h.1.2.1
    · exact lg_good h.1.2.2.1
  · exact wT_good h.1.2.2.2 w h1
theorem mw_gS {own : String} {index : Nat} {y : MethodName} {c : ByteArray} {maxL n : Nat} {ret : Option FieldType} (hl : .methodLink own index y ∈ lw_good) (h : mw_SB y c maxL ret n) : GoodIn lw_good (va_wsS own index y (wT y c maxL ret)) := by
  intro w hw
  rcases List.mem_append.mp hw with h1 | h1
  · simp only [List.mem_cons, List.not_mem_nil, or_false] at h1
    rcases h1 with rfl | rfl | rfl
    · exact lg_good hl
    · exact lg_good h.1.1
    · exact lg_good h.1.2.1
  · exact wT_good h.1.2.2 w h1
