/-! ===== BEGIN printed: names, fields, word lists, decode rows ===== -/
def RX0 : String := "TickForms$Form"
def TX0 : u_T := fun k => match k with
  | 0 => ("TickForms$Form", "kinds", "[I", true)
  | 1 => ("TickForms$Form", "parts", "[I", true)
  | 2 => ("TickForms$Form", "settings", "[I", true)
  | 3 => ("TickForms$Form", "limits", "[I", true)
  | 4 => ("TickForms$Form", "answers", "[I", true)
  | 5 => ("TickForms$Form", "values", "[I", true)
  | _ => ("TickForms$Form", "size", "I", false)
def tyX0 : Nat → FieldType := fun k => match k with
  | 0 => .array .int
  | 1 => .array .int
  | 2 => .array .int
  | 3 => .array .int
  | 4 => .array .int
  | 5 => .array .int
  | _ => .int
abbrev wsX00 : List Cond := u_ws RX0 TX0 7
theorem nmX0 : ∀ a, a < 7 → ∀ b, b < 7 → a ≠ b → (TX0 a).2.1 ≠ (TX0 b).2.1 := by decide +kernel
theorem tyX0_ok : ∀ k, k < 7 → parseFieldDescriptor (TX0 k).2.2.1 = some (tyX0 k) := by decide +kernel
abbrev cX0_init : ByteArray := prog_2_method_1_code
def yX0_init : MethodName := ⟨RX0, "<init>", "()V"⟩
abbrev cX0_size : ByteArray := prog_2_method_2_code
def yX0_size : MethodName := ⟨RX0, "size", "()I"⟩
abbrev cX0_has : ByteArray := prog_2_method_3_code
def yX0_has : MethodName := ⟨RX0, "has", "(I)Z"⟩
abbrev cX0_kindOf : ByteArray := prog_2_method_4_code
def yX0_kindOf : MethodName := ⟨RX0, "kindOf", "(I)I"⟩
abbrev cX0_partOf : ByteArray := prog_2_method_5_code
def yX0_partOf : MethodName := ⟨RX0, "partOf", "(I)I"⟩
abbrev cX0_settingOf : ByteArray := prog_2_method_6_code
def yX0_settingOf : MethodName := ⟨RX0, "settingOf", "(I)I"⟩
abbrev cX0_limitOf : ByteArray := prog_2_method_7_code
def yX0_limitOf : MethodName := ⟨RX0, "limitOf", "(I)I"⟩
abbrev cX0_answerOf : ByteArray := prog_2_method_8_code
def yX0_answerOf : MethodName := ⟨RX0, "answerOf", "(I)I"⟩
abbrev cX0_add : ByteArray := prog_2_method_9_code
def yX0_add : MethodName := ⟨RX0, "add", "(IIII)V"⟩
abbrev cX0_removeLast : ByteArray := prog_2_method_10_code
def yX0_removeLast : MethodName := ⟨RX0, "removeLast", "()V"⟩
abbrev cX0_give : ByteArray := prog_2_method_11_code
def yX0_give : MethodName := ⟨RX0, "give", "(II)V"⟩
abbrev cX0_copyFrom : ByteArray := prog_2_method_12_code
def yX0_copyFrom : MethodName := ⟨RX0, "copyFrom", "(LTickForms$Form;)V"⟩
abbrev cX0_isFor : ByteArray := prog_2_method_13_code
def yX0_isFor : MethodName := ⟨RX0, "isFor", "(III)Z"⟩
abbrev cX0_isEmpty : ByteArray := prog_2_method_14_code
def yX0_isEmpty : MethodName := ⟨RX0, "isEmpty", "(I)Z"⟩
abbrev cX0_fits : ByteArray := prog_2_method_15_code
def yX0_fits : MethodName := ⟨RX0, "fits", "(II)Z"⟩
abbrev cX0_mostAnswer : ByteArray := prog_2_method_16_code
def yX0_mostAnswer : MethodName := ⟨RX0, "mostAnswer", "(I)I"⟩
abbrev cX0_mostWithTeeth : ByteArray := prog_2_method_17_code
def yX0_mostWithTeeth : MethodName := ⟨RX0, "mostWithTeeth", "(I)I"⟩
abbrev cX0_answered : ByteArray := prog_2_method_18_code
def yX0_answered : MethodName := ⟨RX0, "answered", "()I"⟩
abbrev cX0_openParts : ByteArray := prog_2_method_19_code
def yX0_openParts : MethodName := ⟨RX0, "openParts", "()I"⟩
abbrev cX0_isTicked : ByteArray := prog_2_method_20_code
def yX0_isTicked : MethodName := ⟨RX0, "isTicked", "(II)Z"⟩
abbrev cX0_isSkipped : ByteArray := prog_2_method_21_code
def yX0_isSkipped : MethodName := ⟨RX0, "isSkipped", "(II)Z"⟩
abbrev cX0_boxesFor : ByteArray := prog_2_method_22_code
def yX0_boxesFor : MethodName := ⟨RX0, "boxesFor", "(II)I"⟩
abbrev cX0_isOpen : ByteArray := prog_2_method_23_code
def yX0_isOpen : MethodName := ⟨RX0, "isOpen", "(II)Z"⟩
abbrev cX0_wants : ByteArray := prog_2_method_24_code
def yX0_wants : MethodName := ⟨RX0, "wants", "(II)Z"⟩
abbrev cX0_boxesIn : ByteArray := prog_2_method_25_code
def yX0_boxesIn : MethodName := ⟨RX0, "boxesIn", "(I)I"⟩
abbrev cX0_wantingIn : ByteArray := prog_2_method_26_code
def yX0_wantingIn : MethodName := ⟨RX0, "wantingIn", "(II)I"⟩
abbrev cX0_wanting : ByteArray := prog_2_method_27_code
def yX0_wanting : MethodName := ⟨RX0, "wanting", "(I)I"⟩
abbrev cX0_firstWanting : ByteArray := prog_2_method_28_code
def yX0_firstWanting : MethodName := ⟨RX0, "firstWanting", "(I)I"⟩
abbrev cX0_openBoxes : ByteArray := prog_2_method_29_code
def yX0_openBoxes : MethodName := ⟨RX0, "openBoxes", "(I)I"⟩
abbrev cX0_openToAnswer : ByteArray := prog_2_method_30_code
def yX0_openToAnswer : MethodName := ⟨RX0, "openToAnswer", "(I)I"⟩
abbrev cX0_canComeTo : ByteArray := prog_2_method_31_code
def yX0_canComeTo : MethodName := ⟨RX0, "canComeTo", "(I)Z"⟩
abbrev cX0_canOpen : ByteArray := prog_2_method_32_code
def yX0_canOpen : MethodName := ⟨RX0, "canOpen", "(II)Z"⟩
abbrev cX0_canClose : ByteArray := prog_2_method_33_code
def yX0_canClose : MethodName := ⟨RX0, "canClose", "(II)Z"⟩
abbrev cX0_hasWanting : ByteArray := prog_2_method_34_code
def yX0_hasWanting : MethodName := ⟨RX0, "hasWanting", "(IIII)Z"⟩
abbrev cX0_canCarry : ByteArray := prog_2_method_35_code
def yX0_canCarry : MethodName := ⟨RX0, "canCarry", "(I)Z"⟩
abbrev cX0_lastTotal : ByteArray := prog_2_method_36_code
def yX0_lastTotal : MethodName := ⟨RX0, "lastTotal", "()I"⟩
abbrev cX0_valueOf : ByteArray := prog_2_method_37_code
def yX0_valueOf : MethodName := ⟨RX0, "valueOf", "(II)I"⟩
abbrev cX0_ownValue : ByteArray := prog_2_method_38_code
def yX0_ownValue : MethodName := ⟨RX0, "ownValue", "(I)I"⟩
abbrev cX0_sumOf : ByteArray := prog_2_method_39_code
def yX0_sumOf : MethodName := ⟨RX0, "sumOf", "(II)I"⟩
abbrev cX0_totalsOver : ByteArray := prog_2_method_40_code
def yX0_totalsOver : MethodName := ⟨RX0, "totalsOver", "(I)I"⟩
def RX1 : String := "TickForms$History"
def TX1 : u_T := fun k => match k with
  | 0 => ("TickForms$History", "states", "[LTickForms$Form;", true)
  | 1 => ("TickForms$History", "next", "I", false)
  | _ => ("TickForms$History", "size", "I", false)
def tyX1 : Nat → FieldType := fun k => match k with
  | 0 => .array (.object "TickForms$Form")
  | 1 => .int
  | _ => .int
abbrev wsX10 : List Cond := u_ws RX1 TX1 3
theorem nmX1 : ∀ a, a < 3 → ∀ b, b < 3 → a ≠ b → (TX1 a).2.1 ≠ (TX1 b).2.1 := by decide +kernel
theorem tyX1_ok : ∀ k, k < 3 → parseFieldDescriptor (TX1 k).2.2.1 = some (tyX1 k) := by decide +kernel
abbrev cX1_init : ByteArray := prog_3_method_1_code
def yX1_init : MethodName := ⟨RX1, "<init>", "()V"⟩
abbrev cX1_size : ByteArray := prog_3_method_2_code
def yX1_size : MethodName := ⟨RX1, "size", "()I"⟩
abbrev cX1_save : ByteArray := prog_3_method_3_code
def yX1_save : MethodName := ⟨RX1, "save", "(LTickForms$Form;)V"⟩
abbrev cX1_restore : ByteArray := prog_3_method_4_code
def yX1_restore : MethodName := ⟨RX1, "restore", "(LTickForms$Form;)V"⟩
abbrev cX1_stateAt : ByteArray := prog_3_method_5_code
def yX1_stateAt : MethodName := ⟨RX1, "stateAt", "(I)LTickForms$Form;"⟩
def RX2 : String := "TickForms$Text"
def TX2 : u_T := fun k => match k with
  | 0 => ("TickForms$Text", "codes", "[I", true)
  | _ => ("TickForms$Text", "length", "I", false)
def tyX2 : Nat → FieldType := fun k => match k with
  | 0 => .array .int
  | _ => .int
abbrev wsX20 : List Cond := u_ws RX2 TX2 2
theorem nmX2 : ∀ a, a < 2 → ∀ b, b < 2 → a ≠ b → (TX2 a).2.1 ≠ (TX2 b).2.1 := by decide +kernel
theorem tyX2_ok : ∀ k, k < 2 → parseFieldDescriptor (TX2 k).2.2.1 = some (tyX2 k) := by decide +kernel
abbrev cX2_init : ByteArray := prog_4_method_1_code
def yX2_init : MethodName := ⟨RX2, "<init>", "()V"⟩
abbrev cX2_length : ByteArray := prog_4_method_2_code
def yX2_length : MethodName := ⟨RX2, "length", "()I"⟩
abbrev cX2_codeAt : ByteArray := prog_4_method_3_code
def yX2_codeAt : MethodName := ⟨RX2, "codeAt", "(I)I"⟩
abbrev cX2_add : ByteArray := prog_4_method_4_code
def yX2_add : MethodName := ⟨RX2, "add", "(I)V"⟩
abbrev cX2_empty : ByteArray := prog_4_method_5_code
def yX2_empty : MethodName := ⟨RX2, "empty", "()V"⟩
abbrev cX2_errorAt : ByteArray := prog_4_method_6_code
def yX2_errorAt : MethodName := ⟨RX2, "errorAt", "()I"⟩
abbrev cX2_isComplete : ByteArray := prog_4_method_7_code
def yX2_isComplete : MethodName := ⟨RX2, "isComplete", "()Z"⟩
abbrev cX2_stateAfter : ByteArray := prog_4_method_8_code
def yX2_stateAfter : MethodName := ⟨RX2, "stateAfter", "(II)I"⟩
abbrev cX2_isDigit : ByteArray := prog_4_method_9_code
def yX2_isDigit : MethodName := ⟨RX2, "isDigit", "(I)Z"⟩
abbrev cX2_afterBox : ByteArray := prog_4_method_10_code
def yX2_afterBox : MethodName := ⟨RX2, "afterBox", "(I)I"⟩
abbrev cX2_afterAnswer : ByteArray := prog_4_method_11_code
def yX2_afterAnswer : MethodName := ⟨RX2, "afterAnswer", "(I)I"⟩
def RX3 : String := "TickForms"
def TX3 : u_T := fun k => match k with
  | 0 => ("TickForms", "form", "LTickForms$Form;", true)
  | 1 => ("TickForms", "trial", "LTickForms$Form;", true)
  | 2 => ("TickForms", "history", "LTickForms$History;", true)
  | _ => ("TickForms", "text", "LTickForms$Text;", true)
def tyX3 : Nat → FieldType := fun k => match k with
  | 0 => .object "TickForms$Form"
  | 1 => .object "TickForms$Form"
  | 2 => .object "TickForms$History"
  | _ => .object "TickForms$Text"
abbrev wsX30 : List Cond := u_ws RX3 TX3 4
theorem nmX3 : ∀ a, a < 4 → ∀ b, b < 4 → a ≠ b → (TX3 a).2.1 ≠ (TX3 b).2.1 := by decide +kernel
theorem tyX3_ok : ∀ k, k < 4 → parseFieldDescriptor (TX3 k).2.2.1 = some (tyX3 k) := by decide +kernel
abbrev cX3_init : ByteArray := prog_1_method_1_code
def yX3_init : MethodName := ⟨RX3, "<init>", "()V"⟩
abbrev cX3_comb : ByteArray := prog_1_method_2_code
def yX3_comb : MethodName := ⟨RX3, "comb", "(II)I"⟩
abbrev cX3_tick : ByteArray := prog_1_method_3_code
def yX3_tick : MethodName := ⟨RX3, "tick", "(II)I"⟩
abbrev cX3_skip : ByteArray := prog_1_method_4_code
def yX3_skip : MethodName := ⟨RX3, "skip", "(III)I"⟩
abbrev cX3_total : ByteArray := prog_1_method_5_code
def yX3_total : MethodName := ⟨RX3, "total", "(II)I"⟩
abbrev cX3_drop : ByteArray := prog_1_method_6_code
def yX3_drop : MethodName := ⟨RX3, "drop", "()I"⟩
abbrev cX3_answer : ByteArray := prog_1_method_7_code
def yX3_answer : MethodName := ⟨RX3, "answer", "(II)I"⟩
abbrev cX3_clear : ByteArray := prog_1_method_8_code
def yX3_clear : MethodName := ⟨RX3, "clear", "()I"⟩
abbrev cX3_append : ByteArray := prog_1_method_9_code
def yX3_append : MethodName := ⟨RX3, "append", "(I)I"⟩
abbrev cX3_clearBuffer : ByteArray := prog_1_method_10_code
def yX3_clearBuffer : MethodName := ⟨RX3, "clearBuffer", "()I"⟩
abbrev cX3_firstError : ByteArray := prog_1_method_11_code
def yX3_firstError : MethodName := ⟨RX3, "firstError", "()I"⟩
abbrev cX3_fill : ByteArray := prog_1_method_12_code
def yX3_fill : MethodName := ⟨RX3, "fill", "()I"⟩
abbrev cX3_undo : ByteArray := prog_1_method_13_code
def yX3_undo : MethodName := ⟨RX3, "undo", "()I"⟩
abbrev cX3_box : ByteArray := prog_1_method_14_code
def yX3_box : MethodName := ⟨RX3, "box", "(II)I"⟩
abbrev cX3_part : ByteArray := prog_1_method_15_code
def yX3_part : MethodName := ⟨RX3, "part", "(II)I"⟩
abbrev cX3_count : ByteArray := prog_1_method_16_code
def yX3_count : MethodName := ⟨RX3, "count", "(I)I"⟩
abbrev cX3_ifAnswered : ByteArray := prog_1_method_17_code
def yX3_ifAnswered : MethodName := ⟨RX3, "ifAnswered", "(III)I"⟩
abbrev cX3_shortest : ByteArray := prog_1_method_18_code
def yX3_shortest : MethodName := ⟨RX3, "shortest", "()I"⟩
abbrev cX3_mostCarried : ByteArray := prog_1_method_19_code
def yX3_mostCarried : MethodName := ⟨RX3, "mostCarried", "()I"⟩
abbrev cX3_filled : ByteArray := prog_1_method_20_code
def yX3_filled : MethodName := ⟨RX3, "filled", "()D"⟩
abbrev cX3_digest : ByteArray := prog_1_method_21_code
def yX3_digest : MethodName := ⟨RX3, "digest", "()J"⟩
abbrev cX3_isWithin : ByteArray := prog_1_method_22_code
def yX3_isWithin : MethodName := ⟨RX3, "isWithin", "(III)Z"⟩
abbrev cX3_needPart : ByteArray := prog_1_method_23_code
def yX3_needPart : MethodName := ⟨RX3, "needPart", "(II)V"⟩
abbrev cX3_needBox : ByteArray := prog_1_method_24_code
def yX3_needBox : MethodName := ⟨RX3, "needBox", "(I)V"⟩
abbrev cX3_needArgument : ByteArray := prog_1_method_25_code
def yX3_needArgument : MethodName := ⟨RX3, "needArgument", "(Z)V"⟩
abbrev cX3_needState : ByteArray := prog_1_method_26_code
def yX3_needState : MethodName := ⟨RX3, "needState", "(Z)V"⟩
abbrev cX3_at : ByteArray := prog_1_method_27_code
def yX3_at : MethodName := ⟨RX3, "at", "([II)I"⟩
abbrev cX3_put : ByteArray := prog_1_method_28_code
def yX3_put : MethodName := ⟨RX3, "put", "([III)V"⟩
abbrev cX3_addNew : ByteArray := prog_1_method_29_code
def yX3_addNew : MethodName := ⟨RX3, "addNew", "(IIII)I"⟩
abbrev cX3_giveAnswersOfText : ByteArray := prog_1_method_30_code
def yX3_giveAnswersOfText : MethodName := ⟨RX3, "giveAnswersOfText", "()I"⟩
abbrev cX3_ofBox : ByteArray := prog_1_method_31_code
def yX3_ofBox : MethodName := ⟨RX3, "ofBox", "(III)I"⟩
abbrev cX3_ofPart : ByteArray := prog_1_method_32_code
def yX3_ofPart : MethodName := ⟨RX3, "ofPart", "(III)I"⟩
abbrev cX3_ofForm : ByteArray := prog_1_method_33_code
def yX3_ofForm : MethodName := ⟨RX3, "ofForm", "(II)I"⟩
abbrev cX3_ofTrial : ByteArray := prog_1_method_34_code
def yX3_ofTrial : MethodName := ⟨RX3, "ofTrial", "(III)I"⟩
abbrev cX3_isInMask : ByteArray := prog_1_method_35_code
def yX3_isInMask : MethodName := ⟨RX3, "isInMask", "(II)Z"⟩
abbrev cX3_mix : ByteArray := prog_1_method_36_code
def yX3_mix : MethodName := ⟨RX3, "mix", "(JJ)J"⟩
abbrev cX3_hashCounts : ByteArray := prog_1_method_37_code
def yX3_hashCounts : MethodName := ⟨RX3, "hashCounts", "(JI)J"⟩
abbrev cX3_hashBoxes : ByteArray := prog_1_method_38_code
def yX3_hashBoxes : MethodName := ⟨RX3, "hashBoxes", "(JI)J"⟩
abbrev cX3_hashParts : ByteArray := prog_1_method_39_code
def yX3_hashParts : MethodName := ⟨RX3, "hashParts", "(JI)J"⟩
abbrev cX3_bitsOfShare : ByteArray := prog_1_method_40_code
def yX3_bitsOfShare : MethodName := ⟨RX3, "bitsOfShare", "(D)J"⟩
def RX4 : String := "TickFormsModel"
def TX4 : u_T := fun k => match k with
  | 0 => ("TickFormsModel", "thrown", "I", false)
  | 1 => ("TickFormsModel", "z", "[I", true)
  | 2 => ("TickFormsModel", "saved", "[I", true)
  | 3 => ("TickFormsModel", "savedMany", "I", false)
  | 4 => ("TickFormsModel", "buffer", "[I", true)
  | 5 => ("TickFormsModel", "typed", "I", false)
  | 6 => ("TickFormsModel", "values", "[I", true)
  | 7 => ("TickFormsModel", "read", "[I", true)
  | 8 => ("TickFormsModel", "readMany", "I", false)
  | 9 => ("TickFormsModel", "spot", "I", false)
  | 10 => ("TickFormsModel", "wrong", "I", false)
  | 11 => ("TickFormsModel", "choices", "[I", true)
  | 12 => ("TickFormsModel", "wasEmpty", "[Z", true)
  | _ => ("TickFormsModel", "hash", "J", false)
def tyX4 : Nat → FieldType := fun k => match k with
  | 0 => .int
  | 1 => .array .int
  | 2 => .array .int
  | 3 => .int
  | 4 => .array .int
  | 5 => .int
  | 6 => .array .int
  | 7 => .array .int
  | 8 => .int
  | 9 => .int
  | 10 => .int
  | 11 => .array .int
  | 12 => .array .boolean
  | _ => .long
abbrev wsX40 : List Cond := u_ws RX4 TX4 14
theorem nmX4 : ∀ a, a < 14 → ∀ b, b < 14 → a ≠ b → (TX4 a).2.1 ≠ (TX4 b).2.1 := by decide +kernel
theorem tyX4_ok : ∀ k, k < 14 → parseFieldDescriptor (TX4 k).2.2.1 = some (tyX4 k) := by decide +kernel
abbrev cX4_init : ByteArray := prog_6_method_1_code
def yX4_init : MethodName := ⟨RX4, "<init>", "()V"⟩
abbrev cX4_thrown : ByteArray := prog_6_method_2_code
def yX4_thrown : MethodName := ⟨RX4, "thrown", "()I"⟩
abbrev cX4_in : ByteArray := prog_6_method_3_code
def yX4_in : MethodName := ⟨RX4, "in", "(III)Z"⟩
abbrev cX4_isPart : ByteArray := prog_6_method_4_code
def yX4_isPart : MethodName := ⟨RX4, "isPart", "(I)Z"⟩
abbrev cX4_isBox : ByteArray := prog_6_method_5_code
def yX4_isBox : MethodName := ⟨RX4, "isBox", "(I)Z"⟩
abbrev cX4_of : ByteArray := prog_6_method_6_code
def yX4_of : MethodName := ⟨RX4, "of", "(II)I"⟩
abbrev cX4_lay : ByteArray := prog_6_method_7_code
def yX4_lay : MethodName := ⟨RX4, "lay", "(III)V"⟩
abbrev cX4_save : ByteArray := prog_6_method_8_code
def yX4_save : MethodName := ⟨RX4, "save", "()V"⟩
abbrev cX4_undo : ByteArray := prog_6_method_9_code
def yX4_undo : MethodName := ⟨RX4, "undo", "()I"⟩
abbrev cX4_isTold : ByteArray := prog_6_method_10_code
def yX4_isTold : MethodName := ⟨RX4, "isTold", "(II)Z"⟩
abbrev cX4_closesNow : ByteArray := prog_6_method_11_code
def yX4_closesNow : MethodName := ⟨RX4, "closesNow", "(I)Z"⟩
abbrev cX4_isClosed : ByteArray := prog_6_method_12_code
def yX4_isClosed : MethodName := ⟨RX4, "isClosed", "(II)Z"⟩
abbrev cX4_isOpened : ByteArray := prog_6_method_13_code
def yX4_isOpened : MethodName := ⟨RX4, "isOpened", "(II)Z"⟩
abbrev cX4_open : ByteArray := prog_6_method_14_code
def yX4_open : MethodName := ⟨RX4, "open", "()I"⟩
abbrev cX4_wants : ByteArray := prog_6_method_15_code
def yX4_wants : MethodName := ⟨RX4, "wants", "(II)Z"⟩
abbrev cX4_wanting : ByteArray := prog_6_method_16_code
def yX4_wanting : MethodName := ⟨RX4, "wanting", "(I)I"⟩
abbrev cX4_firstWanting : ByteArray := prog_6_method_17_code
def yX4_firstWanting : MethodName := ⟨RX4, "firstWanting", "(I)I"⟩
abbrev cX4_reckon : ByteArray := prog_6_method_18_code
def yX4_reckon : MethodName := ⟨RX4, "reckon", "(I)V"⟩
abbrev cX4_add : ByteArray := prog_6_method_19_code
def yX4_add : MethodName := ⟨RX4, "add", "(IIII)I"⟩
abbrev cX4_comb : ByteArray := prog_6_method_20_code
def yX4_comb : MethodName := ⟨RX4, "comb", "(II)I"⟩
abbrev cX4_tick : ByteArray := prog_6_method_21_code
def yX4_tick : MethodName := ⟨RX4, "tick", "(II)I"⟩
abbrev cX4_skip : ByteArray := prog_6_method_22_code
def yX4_skip : MethodName := ⟨RX4, "skip", "(III)I"⟩
abbrev cX4_isMask : ByteArray := prog_6_method_23_code
def yX4_isMask : MethodName := ⟨RX4, "isMask", "(I)Z"⟩
abbrev cX4_total : ByteArray := prog_6_method_24_code
def yX4_total : MethodName := ⟨RX4, "total", "(II)I"⟩
abbrev cX4_drop : ByteArray := prog_6_method_25_code
def yX4_drop : MethodName := ⟨RX4, "drop", "()I"⟩
abbrev cX4_power : ByteArray := prog_6_method_26_code
def yX4_power : MethodName := ⟨RX4, "power", "(I)I"⟩
abbrev cX4_canHave : ByteArray := prog_6_method_27_code
def yX4_canHave : MethodName := ⟨RX4, "canHave", "(II)Z"⟩
abbrev cX4_answer : ByteArray := prog_6_method_28_code
def yX4_answer : MethodName := ⟨RX4, "answer", "(II)I"⟩
abbrev cX4_answered : ByteArray := prog_6_method_29_code
def yX4_answered : MethodName := ⟨RX4, "answered", "()I"⟩
abbrev cX4_clear : ByteArray := prog_6_method_30_code
def yX4_clear : MethodName := ⟨RX4, "clear", "()I"⟩
abbrev cX4_append : ByteArray := prog_6_method_31_code
def yX4_append : MethodName := ⟨RX4, "append", "(I)I"⟩
abbrev cX4_clearBuffer : ByteArray := prog_6_method_32_code
def yX4_clearBuffer : MethodName := ⟨RX4, "clearBuffer", "()I"⟩
abbrev cX4_letter : ByteArray := prog_6_method_33_code
def yX4_letter : MethodName := ⟨RX4, "letter", "()I"⟩
abbrev cX4_needs : ByteArray := prog_6_method_34_code
def yX4_needs : MethodName := ⟨RX4, "needs", "(Z)V"⟩
abbrev cX4_number : ByteArray := prog_6_method_35_code
def yX4_number : MethodName := ⟨RX4, "number", "(I)I"⟩
abbrev cX4_readPart : ByteArray := prog_6_method_36_code
def yX4_readPart : MethodName := ⟨RX4, "readPart", "()V"⟩
abbrev cX4_readBuffer : ByteArray := prog_6_method_37_code
def yX4_readBuffer : MethodName := ⟨RX4, "readBuffer", "()I"⟩
abbrev cX4_firstError : ByteArray := prog_6_method_38_code
def yX4_firstError : MethodName := ⟨RX4, "firstError", "()I"⟩
abbrev cX4_fill : ByteArray := prog_6_method_39_code
def yX4_fill : MethodName := ⟨RX4, "fill", "()I"⟩
abbrev cX4_toldBox : ByteArray := prog_6_method_40_code
def yX4_toldBox : MethodName := ⟨RX4, "toldBox", "(II)I"⟩
abbrev cX4_box : ByteArray := prog_6_method_41_code
def yX4_box : MethodName := ⟨RX4, "box", "(II)I"⟩
abbrev cX4_toldPart : ByteArray := prog_6_method_42_code
def yX4_toldPart : MethodName := ⟨RX4, "toldPart", "(II)I"⟩
abbrev cX4_part : ByteArray := prog_6_method_43_code
def yX4_part : MethodName := ⟨RX4, "part", "(II)I"⟩
abbrev cX4_openBoxes : ByteArray := prog_6_method_44_code
def yX4_openBoxes : MethodName := ⟨RX4, "openBoxes", "(I)I"⟩
abbrev cX4_bits : ByteArray := prog_6_method_45_code
def yX4_bits : MethodName := ⟨RX4, "bits", "(I)I"⟩
abbrev cX4_counted : ByteArray := prog_6_method_46_code
def yX4_counted : MethodName := ⟨RX4, "counted", "(I)I"⟩
abbrev cX4_count : ByteArray := prog_6_method_47_code
def yX4_count : MethodName := ⟨RX4, "count", "(I)I"⟩
abbrev cX4_lastTotal : ByteArray := prog_6_method_48_code
def yX4_lastTotal : MethodName := ⟨RX4, "lastTotal", "(I)I"⟩
abbrev cX4_withAnswer : ByteArray := prog_6_method_49_code
def yX4_withAnswer : MethodName := ⟨RX4, "withAnswer", "(III)I"⟩
abbrev cX4_ifAnswered : ByteArray := prog_6_method_50_code
def yX4_ifAnswered : MethodName := ⟨RX4, "ifAnswered", "(III)I"⟩
abbrev cX4_chosen : ByteArray := prog_6_method_51_code
def yX4_chosen : MethodName := ⟨RX4, "chosen", "(II)I"⟩
abbrev cX4_fewest : ByteArray := prog_6_method_52_code
def yX4_fewest : MethodName := ⟨RX4, "fewest", "()I"⟩
abbrev cX4_shortest : ByteArray := prog_6_method_53_code
def yX4_shortest : MethodName := ⟨RX4, "shortest", "()I"⟩
abbrev cX4_carried : ByteArray := prog_6_method_54_code
def yX4_carried : MethodName := ⟨RX4, "carried", "(I)I"⟩
abbrev cX4_carriedMost : ByteArray := prog_6_method_55_code
def yX4_carriedMost : MethodName := ⟨RX4, "carriedMost", "()I"⟩
abbrev cX4_mostCarried : ByteArray := prog_6_method_56_code
def yX4_mostCarried : MethodName := ⟨RX4, "mostCarried", "()I"⟩
abbrev cX4_share : ByteArray := prog_6_method_57_code
def yX4_share : MethodName := ⟨RX4, "share", "()D"⟩
abbrev cX4_filled : ByteArray := prog_6_method_58_code
def yX4_filled : MethodName := ⟨RX4, "filled", "()D"⟩
abbrev cX4_bitsOf : ByteArray := prog_6_method_59_code
def yX4_bitsOf : MethodName := ⟨RX4, "bitsOf", "(D)J"⟩
abbrev cX4_mix : ByteArray := prog_6_method_60_code
def yX4_mix : MethodName := ⟨RX4, "mix", "(J)V"⟩
abbrev cX4_digest : ByteArray := prog_6_method_61_code
def yX4_digest : MethodName := ⟨RX4, "digest", "()J"⟩
def RJ6 : String := "java/lang/Integer"
def TJ6 : u_T := fun k => match k with
  | _ => ("", "", "", false)
def tyJ6 : Nat → FieldType := fun k => match k with
  | _ => .int
abbrev wsJ60 : List Cond := u_ws RJ6 TJ6 0
theorem nmJ6 : ∀ a, a < 0 → ∀ b, b < 0 → a ≠ b → (TJ6 a).2.1 ≠ (TJ6 b).2.1 := by decide +kernel
theorem tyJ6_ok : ∀ k, k < 0 → parseFieldDescriptor (TJ6 k).2.2.1 = some (tyJ6 k) := by decide +kernel
abbrev cJ6_bitCount_0f7a4 : ByteArray := prog_11_method_49_code
def yJ6_bitCount_0f7a4 : MethodName := ⟨RJ6, "bitCount", "(I)I"⟩
def RJ9 : String := "java/lang/Math"
def TJ9 : u_T := fun k => match k with
  | _ => ("", "", "", false)
def tyJ9 : Nat → FieldType := fun k => match k with
  | _ => .int
abbrev wsJ90 : List Cond := u_ws RJ9 TJ9 0
theorem nmJ9 : ∀ a, a < 0 → ∀ b, b < 0 → a ≠ b → (TJ9 a).2.1 ≠ (TJ9 b).2.1 := by decide +kernel
theorem tyJ9_ok : ∀ k, k < 0 → parseFieldDescriptor (TJ9 k).2.2.1 = some (tyJ9 k) := by decide +kernel
abbrev cJ9_min_7cf53 : ByteArray := prog_12_method_69_code
def yJ9_min_7cf53 : MethodName := ⟨RJ9, "min", "(II)I"⟩
def RJ0 : String := "java/lang/String"
def TJ0 : u_T := fun k => match k with
  | _ => ("", "", "", false)
def tyJ0 : Nat → FieldType := fun k => match k with
  | _ => .int
abbrev wsJ00 : List Cond := u_ws RJ0 TJ0 0
theorem nmJ0 : ∀ a, a < 0 → ∀ b, b < 0 → a ≠ b → (TJ0 a).2.1 ≠ (TJ0 b).2.1 := by decide +kernel
theorem tyJ0_ok : ∀ k, k < 0 → parseFieldDescriptor (TJ0 k).2.2.1 = some (tyJ0 k) := by decide +kernel
def RL : String := "TickFormsLaw"
abbrev cL_comb : ByteArray := method_3_code
def yL_comb : MethodName := ⟨RL, "comb", "(LTickForms;II[J)I"⟩
abbrev cL_tick : ByteArray := method_4_code
def yL_tick : MethodName := ⟨RL, "tick", "(LTickForms;II[J)I"⟩
abbrev cL_skip : ByteArray := method_5_code
def yL_skip : MethodName := ⟨RL, "skip", "(LTickForms;III[J)I"⟩
abbrev cL_total : ByteArray := method_6_code
def yL_total : MethodName := ⟨RL, "total", "(LTickForms;II[J)I"⟩
abbrev cL_drop : ByteArray := method_7_code
def yL_drop : MethodName := ⟨RL, "drop", "(LTickForms;[J)I"⟩
abbrev cL_answer : ByteArray := method_8_code
def yL_answer : MethodName := ⟨RL, "answer", "(LTickForms;II[J)I"⟩
abbrev cL_append : ByteArray := method_9_code
def yL_append : MethodName := ⟨RL, "append", "(LTickForms;I[J)I"⟩
abbrev cL_fill : ByteArray := method_10_code
def yL_fill : MethodName := ⟨RL, "fill", "(LTickForms;[J)I"⟩
abbrev cL_undo : ByteArray := method_11_code
def yL_undo : MethodName := ⟨RL, "undo", "(LTickForms;[J)I"⟩
abbrev cL_box : ByteArray := method_12_code
def yL_box : MethodName := ⟨RL, "box", "(LTickForms;II[J)I"⟩
abbrev cL_part : ByteArray := method_13_code
def yL_part : MethodName := ⟨RL, "part", "(LTickForms;II[J)I"⟩
abbrev cL_count : ByteArray := method_14_code
def yL_count : MethodName := ⟨RL, "count", "(LTickForms;I[J)I"⟩
abbrev cL_ifAnswered : ByteArray := method_15_code
def yL_ifAnswered : MethodName := ⟨RL, "ifAnswered", "(LTickForms;III[J)I"⟩
abbrev cL_law : ByteArray := code
def yL_law : MethodName := ⟨RL, "law", "([I)Z"⟩
def wsX0_init : List Cond := .code yX0_init cX0_init 1 none :: ([.methodLink RX0 3 objectInit, .instanceMethod objectInit, .code objectInit ⟨#[0xb1]⟩ 1 none, .arrayClass .int, .fieldLink RX0 9 "TickForms$Form" "kinds" "[I", .fieldLink RX0 15 "TickForms$Form" "parts" "[I", .fieldLink RX0 18 "TickForms$Form" "settings" "[I", .fieldLink RX0 21 "TickForms$Form" "limits" "[I", .fieldLink RX0 24 "TickForms$Form" "answers" "[I", .fieldLink RX0 27 "TickForms$Form" "values" "[I"] ++ wsX00)
def wsX0_size : List Cond := .code yX0_size cX0_size 1 (some .int) :: ([.fieldLink RX0 30 "TickForms$Form" "size" "I"] ++ wsX00)
def wsX0_has : List Cond := .code yX0_has cX0_has 2 (some .boolean) :: ([.fieldLink RX0 30 "TickForms$Form" "size" "I"] ++ wsX00)
def wsX3_at : List Cond := .code yX3_at cX3_at 2 (some .int) :: ([])
def wsX0_kindOf : List Cond := .code yX0_kindOf cX0_kindOf 2 (some .int) :: ([.fieldLink RX0 9 "TickForms$Form" "kinds" "[I", .static yX3_at, .initialized RX3, .code yX3_at cX3_at 2 (some .int)] ++ wsX00)
def wsX0_partOf : List Cond := .code yX0_partOf cX0_partOf 2 (some .int) :: ([.fieldLink RX0 15 "TickForms$Form" "parts" "[I", .static yX3_at, .initialized RX3, .code yX3_at cX3_at 2 (some .int)] ++ wsX00)
def wsX0_settingOf : List Cond := .code yX0_settingOf cX0_settingOf 2 (some .int) :: ([.fieldLink RX0 18 "TickForms$Form" "settings" "[I", .static yX3_at, .initialized RX3, .code yX3_at cX3_at 2 (some .int)] ++ wsX00)
def wsX0_limitOf : List Cond := .code yX0_limitOf cX0_limitOf 2 (some .int) :: ([.fieldLink RX0 21 "TickForms$Form" "limits" "[I", .static yX3_at, .initialized RX3, .code yX3_at cX3_at 2 (some .int)] ++ wsX00)
def wsX0_answerOf : List Cond := .code yX0_answerOf cX0_answerOf 2 (some .int) :: ([.fieldLink RX0 24 "TickForms$Form" "answers" "[I", .static yX3_at, .initialized RX3, .code yX3_at cX3_at 2 (some .int)] ++ wsX00)
def wsX3_put : List Cond := .code yX3_put cX3_put 3 none :: ([])
def wsX0_add : List Cond := .code yX0_add cX0_add 5 none :: ([.fieldLink RX0 9 "TickForms$Form" "kinds" "[I", .fieldLink RX0 30 "TickForms$Form" "size" "I", .fieldLink RX0 15 "TickForms$Form" "parts" "[I", .fieldLink RX0 18 "TickForms$Form" "settings" "[I", .fieldLink RX0 21 "TickForms$Form" "limits" "[I", .fieldLink RX0 24 "TickForms$Form" "answers" "[I", .static yX3_put, .initialized RX3, .code yX3_put cX3_put 3 none] ++ wsX00)
def wsX0_removeLast : List Cond := .code yX0_removeLast cX0_removeLast 1 none :: ([.fieldLink RX0 30 "TickForms$Form" "size" "I"] ++ wsX00)
def wsX0_give : List Cond := .code yX0_give cX0_give 3 none :: ([.fieldLink RX0 24 "TickForms$Form" "answers" "[I", .static yX3_put, .initialized RX3, .code yX3_put cX3_put 3 none] ++ wsX00)
def wsX0_copyFrom : List Cond := .code yX0_copyFrom cX0_copyFrom 3 none :: ([.fieldLink RX0 30 "TickForms$Form" "size" "I", .fieldLink RX0 9 "TickForms$Form" "kinds" "[I", .fieldLink RX0 15 "TickForms$Form" "parts" "[I", .fieldLink RX0 18 "TickForms$Form" "settings" "[I", .fieldLink RX0 21 "TickForms$Form" "limits" "[I", .fieldLink RX0 24 "TickForms$Form" "answers" "[I", .static yX3_at, .initialized RX3, .code yX3_at cX3_at 2 (some .int), .static yX3_put, .code yX3_put cX3_put 3 none] ++ wsX00)
def wsX0_isFor : List Cond := .code yX0_isFor cX0_isFor 4 (some .boolean) :: ([.fieldLink RX0 9 "TickForms$Form" "kinds" "[I", .fieldLink RX0 18 "TickForms$Form" "settings" "[I", .static yX3_at, .initialized RX3, .code yX3_at cX3_at 2 (some .int)] ++ wsX00)
def wsX0_isEmpty : List Cond := .code yX0_isEmpty cX0_isEmpty 2 (some .boolean) :: ([.fieldLink RX0 9 "TickForms$Form" "kinds" "[I", .fieldLink RX0 24 "TickForms$Form" "answers" "[I", .static yX3_at, .initialized RX3, .code yX3_at cX3_at 2 (some .int)] ++ wsX00)
def wsX0_mostWithTeeth : List Cond := .code yX0_mostWithTeeth cX0_mostWithTeeth 3 (some .int) :: ([])
def wsX0_mostAnswer : List Cond := .code yX0_mostAnswer cX0_mostAnswer 2 (some .int) :: ([.fieldLink RX0 9 "TickForms$Form" "kinds" "[I", .fieldLink RX0 18 "TickForms$Form" "settings" "[I", .static yX3_at, .initialized RX3, .code yX3_at cX3_at 2 (some .int), .methodLink RX0 50 yX0_mostWithTeeth, .static yX0_mostWithTeeth, .initialized RX0, .code yX0_mostWithTeeth cX0_mostWithTeeth 3 (some .int)] ++ wsX00)
def wsX3_isWithin : List Cond := .code yX3_isWithin cX3_isWithin 3 (some .boolean) :: ([])
def wsX0_fits : List Cond := .code yX0_fits cX0_fits 3 (some .boolean) :: ([.methodLink RX0 42 yX0_mostAnswer, .instanceMethod yX0_mostAnswer, .selects RX0 yX0_mostAnswer yX0_mostAnswer, .initialized RX0, .code yX0_mostAnswer cX0_mostAnswer 2 (some .int), .fieldLink RX0 9 "TickForms$Form" "kinds" "[I", .fieldLink RX0 18 "TickForms$Form" "settings" "[I", .static yX3_at, .initialized RX3, .code yX3_at cX3_at 2 (some .int), .methodLink RX0 50 yX0_mostWithTeeth, .static yX0_mostWithTeeth, .code yX0_mostWithTeeth cX0_mostWithTeeth 3 (some .int), .static yX3_isWithin, .code yX3_isWithin cX3_isWithin 3 (some .boolean)] ++ wsX00)
def wsX0_answered : List Cond := .code yX0_answered cX0_answered 3 (some .int) :: ([.fieldLink RX0 30 "TickForms$Form" "size" "I", .fieldLink RX0 24 "TickForms$Form" "answers" "[I", .static yX3_at, .initialized RX3, .code yX3_at cX3_at 2 (some .int)] ++ wsX00)
def wsX3_isInMask : List Cond := .code yX3_isInMask cX3_isInMask 2 (some .boolean) :: ([])
def wsX0_isOpen : List Cond := .code yX0_isOpen cX0_isOpen 3 (some .boolean) :: ([.fieldLink RX0 15 "TickForms$Form" "parts" "[I", .static yX3_at, .initialized RX3, .code yX3_at cX3_at 2 (some .int), .static yX3_isInMask, .code yX3_isInMask cX3_isInMask 2 (some .boolean)] ++ wsX00)
def wsX0_isTicked : List Cond := .code yX0_isTicked cX0_isTicked 5 (some .boolean) :: ([.fieldLink RX0 30 "TickForms$Form" "size" "I", .fieldLink RX0 24 "TickForms$Form" "answers" "[I", .methodLink RX0 60 yX0_isFor, .instanceMethod yX0_isFor, .selects RX0 yX0_isFor yX0_isFor, .initialized RX0, .code yX0_isFor cX0_isFor 4 (some .boolean), .fieldLink RX0 9 "TickForms$Form" "kinds" "[I", .fieldLink RX0 18 "TickForms$Form" "settings" "[I", .static yX3_at, .initialized RX3, .code yX3_at cX3_at 2 (some .int), .methodLink RX0 63 yX0_isOpen, .instanceMethod yX0_isOpen, .selects RX0 yX0_isOpen yX0_isOpen, .code yX0_isOpen cX0_isOpen 3 (some .boolean), .fieldLink RX0 15 "TickForms$Form" "parts" "[I", .static yX3_isInMask, .code yX3_isInMask cX3_isInMask 2 (some .boolean)] ++ wsX00)
def wsX0_isSkipped : List Cond := .code yX0_isSkipped cX0_isSkipped 5 (some .boolean) :: ([.fieldLink RX0 30 "TickForms$Form" "size" "I", .fieldLink RX0 24 "TickForms$Form" "answers" "[I", .fieldLink RX0 21 "TickForms$Form" "limits" "[I", .methodLink RX0 66 yX0_isEmpty, .instanceMethod yX0_isEmpty, .selects RX0 yX0_isEmpty yX0_isEmpty, .initialized RX0, .code yX0_isEmpty cX0_isEmpty 2 (some .boolean), .fieldLink RX0 9 "TickForms$Form" "kinds" "[I", .static yX3_at, .initialized RX3, .code yX3_at cX3_at 2 (some .int), .methodLink RX0 60 yX0_isFor, .instanceMethod yX0_isFor, .selects RX0 yX0_isFor yX0_isFor, .code yX0_isFor cX0_isFor 4 (some .boolean), .fieldLink RX0 18 "TickForms$Form" "settings" "[I", .methodLink RX0 63 yX0_isOpen, .instanceMethod yX0_isOpen, .selects RX0 yX0_isOpen yX0_isOpen, .code yX0_isOpen cX0_isOpen 3 (some .boolean), .fieldLink RX0 15 "TickForms$Form" "parts" "[I", .static yX3_isInMask, .code yX3_isInMask cX3_isInMask 2 (some .boolean)] ++ wsX00)
def wsX0_openParts_r1 : List Cond := [Cond.methodLink RX0 53 yX0_isTicked, Cond.instanceMethod yX0_isTicked, Cond.selects RX0 yX0_isTicked yX0_isTicked, Cond.initialized RX0, Cond.code yX0_isTicked cX0_isTicked 5 (some .boolean), Cond.fieldLink RX0 30 "TickForms$Form" "size" "I", Cond.fieldLink RX0 24 "TickForms$Form" "answers" "[I", Cond.methodLink RX0 60 yX0_isFor, Cond.instanceMethod yX0_isFor, Cond.selects RX0 yX0_isFor yX0_isFor, Cond.code yX0_isFor cX0_isFor 4 (some .boolean), Cond.fieldLink RX0 9 "TickForms$Form" "kinds" "[I", Cond.fieldLink RX0 18 "TickForms$Form" "settings" "[I", Cond.static yX3_at, Cond.initialized RX3, Cond.code yX3_at cX3_at 2 (some .int), Cond.methodLink RX0 63 yX0_isOpen, Cond.instanceMethod yX0_isOpen, Cond.selects RX0 yX0_isOpen yX0_isOpen, Cond.code yX0_isOpen cX0_isOpen 3 (some .boolean), Cond.fieldLink RX0 15 "TickForms$Form" "parts" "[I", Cond.static yX3_isInMask, Cond.code yX3_isInMask cX3_isInMask 2 (some .boolean), Cond.methodLink RX0 57 yX0_isSkipped]
def wsX0_openParts_r2 : List Cond := [Cond.instanceMethod yX0_isSkipped, Cond.selects RX0 yX0_isSkipped yX0_isSkipped, Cond.code yX0_isSkipped cX0_isSkipped 5 (some .boolean), Cond.fieldLink RX0 21 "TickForms$Form" "limits" "[I", Cond.methodLink RX0 66 yX0_isEmpty, Cond.instanceMethod yX0_isEmpty, Cond.selects RX0 yX0_isEmpty yX0_isEmpty, Cond.code yX0_isEmpty cX0_isEmpty 2 (some .boolean)]
def wsX0_openParts : List Cond := .code yX0_openParts cX0_openParts 3 (some .int) :: ((wsX0_openParts_r1 ++ wsX0_openParts_r2) ++ wsX00)
def wsX0_boxesFor : List Cond := .code yX0_boxesFor cX0_boxesFor 5 (some .int) :: ([.fieldLink RX0 30 "TickForms$Form" "size" "I", .methodLink RX0 60 yX0_isFor, .instanceMethod yX0_isFor, .selects RX0 yX0_isFor yX0_isFor, .initialized RX0, .code yX0_isFor cX0_isFor 4 (some .boolean), .fieldLink RX0 9 "TickForms$Form" "kinds" "[I", .fieldLink RX0 18 "TickForms$Form" "settings" "[I", .static yX3_at, .initialized RX3, .code yX3_at cX3_at 2 (some .int)] ++ wsX00)
def wsX0_wants : List Cond := .code yX0_wants cX0_wants 3 (some .boolean) :: ([.methodLink RX0 63 yX0_isOpen, .instanceMethod yX0_isOpen, .selects RX0 yX0_isOpen yX0_isOpen, .initialized RX0, .code yX0_isOpen cX0_isOpen 3 (some .boolean), .fieldLink RX0 15 "TickForms$Form" "parts" "[I", .static yX3_at, .initialized RX3, .code yX3_at cX3_at 2 (some .int), .static yX3_isInMask, .code yX3_isInMask cX3_isInMask 2 (some .boolean), .methodLink RX0 66 yX0_isEmpty, .instanceMethod yX0_isEmpty, .selects RX0 yX0_isEmpty yX0_isEmpty, .code yX0_isEmpty cX0_isEmpty 2 (some .boolean), .fieldLink RX0 9 "TickForms$Form" "kinds" "[I", .fieldLink RX0 24 "TickForms$Form" "answers" "[I"] ++ wsX00)
def wsX0_boxesIn : List Cond := .code yX0_boxesIn cX0_boxesIn 4 (some .int) :: ([.fieldLink RX0 30 "TickForms$Form" "size" "I", .fieldLink RX0 15 "TickForms$Form" "parts" "[I", .static yX3_at, .initialized RX3, .code yX3_at cX3_at 2 (some .int)] ++ wsX00)
def wsX0_wantingIn : List Cond := .code yX0_wantingIn cX0_wantingIn 5 (some .int) :: ([.fieldLink RX0 30 "TickForms$Form" "size" "I", .fieldLink RX0 15 "TickForms$Form" "parts" "[I", .static yX3_at, .initialized RX3, .code yX3_at cX3_at 2 (some .int), .methodLink RX0 73 yX0_wants, .instanceMethod yX0_wants, .selects RX0 yX0_wants yX0_wants, .initialized RX0, .code yX0_wants cX0_wants 3 (some .boolean), .methodLink RX0 63 yX0_isOpen, .instanceMethod yX0_isOpen, .selects RX0 yX0_isOpen yX0_isOpen, .code yX0_isOpen cX0_isOpen 3 (some .boolean), .static yX3_isInMask, .code yX3_isInMask cX3_isInMask 2 (some .boolean), .methodLink RX0 66 yX0_isEmpty, .instanceMethod yX0_isEmpty, .selects RX0 yX0_isEmpty yX0_isEmpty, .code yX0_isEmpty cX0_isEmpty 2 (some .boolean), .fieldLink RX0 9 "TickForms$Form" "kinds" "[I", .fieldLink RX0 24 "TickForms$Form" "answers" "[I"] ++ wsX00)
def wsX0_wanting : List Cond := .code yX0_wanting cX0_wanting 4 (some .int) :: ([.fieldLink RX0 30 "TickForms$Form" "size" "I", .methodLink RX0 73 yX0_wants, .instanceMethod yX0_wants, .selects RX0 yX0_wants yX0_wants, .initialized RX0, .code yX0_wants cX0_wants 3 (some .boolean), .methodLink RX0 63 yX0_isOpen, .instanceMethod yX0_isOpen, .selects RX0 yX0_isOpen yX0_isOpen, .code yX0_isOpen cX0_isOpen 3 (some .boolean), .fieldLink RX0 15 "TickForms$Form" "parts" "[I", .static yX3_at, .initialized RX3, .code yX3_at cX3_at 2 (some .int), .static yX3_isInMask, .code yX3_isInMask cX3_isInMask 2 (some .boolean), .methodLink RX0 66 yX0_isEmpty, .instanceMethod yX0_isEmpty, .selects RX0 yX0_isEmpty yX0_isEmpty, .code yX0_isEmpty cX0_isEmpty 2 (some .boolean), .fieldLink RX0 9 "TickForms$Form" "kinds" "[I", .fieldLink RX0 24 "TickForms$Form" "answers" "[I"] ++ wsX00)
def wsX0_firstWanting : List Cond := .code yX0_firstWanting cX0_firstWanting 3 (some .int) :: ([.fieldLink RX0 30 "TickForms$Form" "size" "I", .methodLink RX0 73 yX0_wants, .instanceMethod yX0_wants, .selects RX0 yX0_wants yX0_wants, .initialized RX0, .code yX0_wants cX0_wants 3 (some .boolean), .methodLink RX0 63 yX0_isOpen, .instanceMethod yX0_isOpen, .selects RX0 yX0_isOpen yX0_isOpen, .code yX0_isOpen cX0_isOpen 3 (some .boolean), .fieldLink RX0 15 "TickForms$Form" "parts" "[I", .static yX3_at, .initialized RX3, .code yX3_at cX3_at 2 (some .int), .static yX3_isInMask, .code yX3_isInMask cX3_isInMask 2 (some .boolean), .methodLink RX0 66 yX0_isEmpty, .instanceMethod yX0_isEmpty, .selects RX0 yX0_isEmpty yX0_isEmpty, .code yX0_isEmpty cX0_isEmpty 2 (some .boolean), .fieldLink RX0 9 "TickForms$Form" "kinds" "[I", .fieldLink RX0 24 "TickForms$Form" "answers" "[I"] ++ wsX00)
def wsX0_openBoxes : List Cond := .code yX0_openBoxes cX0_openBoxes 4 (some .int) :: ([.fieldLink RX0 30 "TickForms$Form" "size" "I", .methodLink RX0 63 yX0_isOpen, .instanceMethod yX0_isOpen, .selects RX0 yX0_isOpen yX0_isOpen, .initialized RX0, .code yX0_isOpen cX0_isOpen 3 (some .boolean), .fieldLink RX0 15 "TickForms$Form" "parts" "[I", .static yX3_at, .initialized RX3, .code yX3_at cX3_at 2 (some .int), .static yX3_isInMask, .code yX3_isInMask cX3_isInMask 2 (some .boolean)] ++ wsX00)
def wsX0_openToAnswer : List Cond := .code yX0_openToAnswer cX0_openToAnswer 4 (some .int) :: ([.fieldLink RX0 30 "TickForms$Form" "size" "I", .fieldLink RX0 9 "TickForms$Form" "kinds" "[I", .methodLink RX0 63 yX0_isOpen, .instanceMethod yX0_isOpen, .selects RX0 yX0_isOpen yX0_isOpen, .initialized RX0, .code yX0_isOpen cX0_isOpen 3 (some .boolean), .fieldLink RX0 15 "TickForms$Form" "parts" "[I", .static yX3_at, .initialized RX3, .code yX3_at cX3_at 2 (some .int), .static yX3_isInMask, .code yX3_isInMask cX3_isInMask 2 (some .boolean)] ++ wsX00)
def wsX0_hasWanting : List Cond := .code yX0_hasWanting cX0_hasWanting 7 (some .boolean) :: ([.fieldLink RX0 30 "TickForms$Form" "size" "I", .fieldLink RX0 21 "TickForms$Form" "limits" "[I", .methodLink RX0 63 yX0_isOpen, .instanceMethod yX0_isOpen, .selects RX0 yX0_isOpen yX0_isOpen, .initialized RX0, .code yX0_isOpen cX0_isOpen 3 (some .boolean), .fieldLink RX0 15 "TickForms$Form" "parts" "[I", .static yX3_at, .initialized RX3, .code yX3_at cX3_at 2 (some .int), .static yX3_isInMask, .code yX3_isInMask cX3_isInMask 2 (some .boolean), .methodLink RX0 66 yX0_isEmpty, .instanceMethod yX0_isEmpty, .selects RX0 yX0_isEmpty yX0_isEmpty, .code yX0_isEmpty cX0_isEmpty 2 (some .boolean), .fieldLink RX0 9 "TickForms$Form" "kinds" "[I", .fieldLink RX0 24 "TickForms$Form" "answers" "[I", .methodLink RX0 60 yX0_isFor, .instanceMethod yX0_isFor, .selects RX0 yX0_isFor yX0_isFor, .code yX0_isFor cX0_isFor 4 (some .boolean), .fieldLink RX0 18 "TickForms$Form" "settings" "[I"] ++ wsX00)
def wsX0_canOpen_r1 : List Cond := [Cond.methodLink RX0 53 yX0_isTicked, Cond.instanceMethod yX0_isTicked, Cond.selects RX0 yX0_isTicked yX0_isTicked, Cond.initialized RX0, Cond.code yX0_isTicked cX0_isTicked 5 (some .boolean), Cond.fieldLink RX0 30 "TickForms$Form" "size" "I", Cond.fieldLink RX0 24 "TickForms$Form" "answers" "[I", Cond.methodLink RX0 60 yX0_isFor, Cond.instanceMethod yX0_isFor, Cond.selects RX0 yX0_isFor yX0_isFor, Cond.code yX0_isFor cX0_isFor 4 (some .boolean), Cond.fieldLink RX0 9 "TickForms$Form" "kinds" "[I", Cond.fieldLink RX0 18 "TickForms$Form" "settings" "[I", Cond.static yX3_at, Cond.initialized RX3, Cond.code yX3_at cX3_at 2 (some .int), Cond.methodLink RX0 63 yX0_isOpen, Cond.instanceMethod yX0_isOpen, Cond.selects RX0 yX0_isOpen yX0_isOpen, Cond.code yX0_isOpen cX0_isOpen 3 (some .boolean), Cond.fieldLink RX0 15 "TickForms$Form" "parts" "[I", Cond.static yX3_isInMask, Cond.code yX3_isInMask cX3_isInMask 2 (some .boolean), Cond.methodLink RX0 82 yX0_hasWanting]
def wsX0_canOpen_r2 : List Cond := [Cond.instanceMethod yX0_hasWanting, Cond.selects RX0 yX0_hasWanting yX0_hasWanting, Cond.code yX0_hasWanting cX0_hasWanting 7 (some .boolean), Cond.fieldLink RX0 21 "TickForms$Form" "limits" "[I", Cond.methodLink RX0 66 yX0_isEmpty, Cond.instanceMethod yX0_isEmpty, Cond.selects RX0 yX0_isEmpty yX0_isEmpty, Cond.code yX0_isEmpty cX0_isEmpty 2 (some .boolean), Cond.methodLink RX0 57 yX0_isSkipped, Cond.instanceMethod yX0_isSkipped, Cond.selects RX0 yX0_isSkipped yX0_isSkipped, Cond.code yX0_isSkipped cX0_isSkipped 5 (some .boolean)]
def wsX0_canOpen : List Cond := .code yX0_canOpen cX0_canOpen 4 (some .boolean) :: ((wsX0_canOpen_r1 ++ wsX0_canOpen_r2) ++ wsX00)
def wsX0_canClose_r1 : List Cond := [Cond.methodLink RX0 53 yX0_isTicked, Cond.instanceMethod yX0_isTicked, Cond.selects RX0 yX0_isTicked yX0_isTicked, Cond.initialized RX0, Cond.code yX0_isTicked cX0_isTicked 5 (some .boolean), Cond.fieldLink RX0 30 "TickForms$Form" "size" "I", Cond.fieldLink RX0 24 "TickForms$Form" "answers" "[I", Cond.methodLink RX0 60 yX0_isFor, Cond.instanceMethod yX0_isFor, Cond.selects RX0 yX0_isFor yX0_isFor, Cond.code yX0_isFor cX0_isFor 4 (some .boolean), Cond.fieldLink RX0 9 "TickForms$Form" "kinds" "[I", Cond.fieldLink RX0 18 "TickForms$Form" "settings" "[I", Cond.static yX3_at, Cond.initialized RX3, Cond.code yX3_at cX3_at 2 (some .int), Cond.methodLink RX0 63 yX0_isOpen, Cond.instanceMethod yX0_isOpen, Cond.selects RX0 yX0_isOpen yX0_isOpen, Cond.code yX0_isOpen cX0_isOpen 3 (some .boolean), Cond.fieldLink RX0 15 "TickForms$Form" "parts" "[I", Cond.static yX3_isInMask, Cond.code yX3_isInMask cX3_isInMask 2 (some .boolean), Cond.methodLink RX0 57 yX0_isSkipped]
def wsX0_canClose_r2 : List Cond := [Cond.instanceMethod yX0_isSkipped, Cond.selects RX0 yX0_isSkipped yX0_isSkipped, Cond.code yX0_isSkipped cX0_isSkipped 5 (some .boolean), Cond.fieldLink RX0 21 "TickForms$Form" "limits" "[I", Cond.methodLink RX0 66 yX0_isEmpty, Cond.instanceMethod yX0_isEmpty, Cond.selects RX0 yX0_isEmpty yX0_isEmpty, Cond.code yX0_isEmpty cX0_isEmpty 2 (some .boolean), Cond.methodLink RX0 82 yX0_hasWanting, Cond.instanceMethod yX0_hasWanting, Cond.selects RX0 yX0_hasWanting yX0_hasWanting, Cond.code yX0_hasWanting cX0_hasWanting 7 (some .boolean)]
def wsX0_canClose : List Cond := .code yX0_canClose cX0_canClose 3 (some .boolean) :: ((wsX0_canClose_r1 ++ wsX0_canClose_r2) ++ wsX00)
def wsX0_canComeTo_r1 : List Cond := [Cond.static yX3_isInMask, Cond.initialized RX3, Cond.code yX3_isInMask cX3_isInMask 2 (some .boolean), Cond.methodLink RX0 76 yX0_canOpen, Cond.instanceMethod yX0_canOpen, Cond.selects RX0 yX0_canOpen yX0_canOpen, Cond.initialized RX0, Cond.code yX0_canOpen cX0_canOpen 4 (some .boolean), Cond.methodLink RX0 53 yX0_isTicked, Cond.instanceMethod yX0_isTicked, Cond.selects RX0 yX0_isTicked yX0_isTicked, Cond.code yX0_isTicked cX0_isTicked 5 (some .boolean), Cond.fieldLink RX0 30 "TickForms$Form" "size" "I", Cond.fieldLink RX0 24 "TickForms$Form" "answers" "[I", Cond.methodLink RX0 60 yX0_isFor, Cond.instanceMethod yX0_isFor, Cond.selects RX0 yX0_isFor yX0_isFor, Cond.code yX0_isFor cX0_isFor 4 (some .boolean), Cond.fieldLink RX0 9 "TickForms$Form" "kinds" "[I", Cond.fieldLink RX0 18 "TickForms$Form" "settings" "[I", Cond.static yX3_at, Cond.code yX3_at cX3_at 2 (some .int), Cond.methodLink RX0 63 yX0_isOpen, Cond.instanceMethod yX0_isOpen]
def wsX0_canComeTo_r2 : List Cond := [Cond.selects RX0 yX0_isOpen yX0_isOpen, Cond.code yX0_isOpen cX0_isOpen 3 (some .boolean), Cond.fieldLink RX0 15 "TickForms$Form" "parts" "[I", Cond.methodLink RX0 82 yX0_hasWanting, Cond.instanceMethod yX0_hasWanting, Cond.selects RX0 yX0_hasWanting yX0_hasWanting, Cond.code yX0_hasWanting cX0_hasWanting 7 (some .boolean), Cond.fieldLink RX0 21 "TickForms$Form" "limits" "[I", Cond.methodLink RX0 66 yX0_isEmpty, Cond.instanceMethod yX0_isEmpty, Cond.selects RX0 yX0_isEmpty yX0_isEmpty, Cond.code yX0_isEmpty cX0_isEmpty 2 (some .boolean), Cond.methodLink RX0 57 yX0_isSkipped, Cond.instanceMethod yX0_isSkipped, Cond.selects RX0 yX0_isSkipped yX0_isSkipped, Cond.code yX0_isSkipped cX0_isSkipped 5 (some .boolean), Cond.methodLink RX0 79 yX0_canClose, Cond.instanceMethod yX0_canClose, Cond.selects RX0 yX0_canClose yX0_canClose, Cond.code yX0_canClose cX0_canClose 3 (some .boolean)]
def wsX0_canComeTo : List Cond := .code yX0_canComeTo cX0_canComeTo 4 (some .boolean) :: ((wsX0_canComeTo_r1 ++ wsX0_canComeTo_r2) ++ wsX00)
def wsX0_canCarry : List Cond := .code yX0_canCarry cX0_canCarry 4 (some .boolean) :: ([.fieldLink RX0 9 "TickForms$Form" "kinds" "[I", .static yX3_at, .initialized RX3, .code yX3_at cX3_at 2 (some .int), .static yX3_isInMask, .code yX3_isInMask cX3_isInMask 2 (some .boolean), .methodLink RX0 86 yX0_has, .instanceMethod yX0_has, .selects RX0 yX0_has yX0_has, .initialized RX0, .code yX0_has cX0_has 2 (some .boolean), .fieldLink RX0 30 "TickForms$Form" "size" "I"] ++ wsX00)
def wsX0_lastTotal : List Cond := .code yX0_lastTotal cX0_lastTotal 2 (some .int) :: ([.fieldLink RX0 30 "TickForms$Form" "size" "I", .fieldLink RX0 9 "TickForms$Form" "kinds" "[I", .static yX3_at, .initialized RX3, .code yX3_at cX3_at 2 (some .int)] ++ wsX00)
def wsX0_sumOf : List Cond := .code yX0_sumOf cX0_sumOf 5 (some .int) :: ([.fieldLink RX0 18 "TickForms$Form" "settings" "[I", .fieldLink RX0 27 "TickForms$Form" "values" "[I", .constant RX0 96 (999999), .methodLink RX0 97 Lib.Math.min.name, .static Lib.Math.min.name, .initialized "java/lang/Math", .code Lib.Math.min.name Lib.Math.min.code 2 (some .int), .static yX3_at, .initialized RX3, .code yX3_at cX3_at 2 (some .int), .static yX3_isInMask, .code yX3_isInMask cX3_isInMask 2 (some .boolean), .methodLink RX0 63 yX0_isOpen, .instanceMethod yX0_isOpen, .selects RX0 yX0_isOpen yX0_isOpen, .initialized RX0, .code yX0_isOpen cX0_isOpen 3 (some .boolean), .fieldLink RX0 15 "TickForms$Form" "parts" "[I"] ++ wsX00)
def wsX0_ownValue : List Cond := .code yX0_ownValue cX0_ownValue 2 (some .int) :: ([.fieldLink RX0 9 "TickForms$Form" "kinds" "[I", .fieldLink RX0 24 "TickForms$Form" "answers" "[I", .static yX3_at, .initialized RX3, .code yX3_at cX3_at 2 (some .int), .methodLink RX0 66 yX0_isEmpty, .instanceMethod yX0_isEmpty, .selects RX0 yX0_isEmpty yX0_isEmpty, .initialized RX0, .code yX0_isEmpty cX0_isEmpty 2 (some .boolean)] ++ wsX00)
def wsX0_valueOf_r1 : List Cond := [Cond.fieldLink RX0 30 "TickForms$Form" "size" "I", Cond.fieldLink RX0 27 "TickForms$Form" "values" "[I", Cond.fieldLink RX0 9 "TickForms$Form" "kinds" "[I", Cond.static yX3_at, Cond.initialized RX3, Cond.code yX3_at cX3_at 2 (some .int), Cond.methodLink RX0 89 yX0_sumOf, Cond.instanceMethod yX0_sumOf, Cond.selects RX0 yX0_sumOf yX0_sumOf, Cond.initialized RX0, Cond.code yX0_sumOf cX0_sumOf 5 (some .int), Cond.fieldLink RX0 18 "TickForms$Form" "settings" "[I", Cond.constant RX0 96 (999999), Cond.methodLink RX0 97 Lib.Math.min.name, Cond.static Lib.Math.min.name, Cond.initialized "java/lang/Math", Cond.code Lib.Math.min.name Lib.Math.min.code 2 (some .int), Cond.static yX3_isInMask, Cond.code yX3_isInMask cX3_isInMask 2 (some .boolean), Cond.methodLink RX0 63 yX0_isOpen, Cond.instanceMethod yX0_isOpen, Cond.selects RX0 yX0_isOpen yX0_isOpen, Cond.code yX0_isOpen cX0_isOpen 3 (some .boolean), Cond.fieldLink RX0 15 "TickForms$Form" "parts" "[I"]
def wsX0_valueOf_r2 : List Cond := [Cond.methodLink RX0 93 yX0_ownValue, Cond.instanceMethod yX0_ownValue, Cond.selects RX0 yX0_ownValue yX0_ownValue, Cond.code yX0_ownValue cX0_ownValue 2 (some .int), Cond.fieldLink RX0 24 "TickForms$Form" "answers" "[I", Cond.methodLink RX0 66 yX0_isEmpty, Cond.instanceMethod yX0_isEmpty, Cond.selects RX0 yX0_isEmpty yX0_isEmpty, Cond.code yX0_isEmpty cX0_isEmpty 2 (some .boolean), Cond.static yX3_put, Cond.code yX3_put cX3_put 3 none]
def wsX0_valueOf : List Cond := .code yX0_valueOf cX0_valueOf 4 (some .int) :: ((wsX0_valueOf_r1 ++ wsX0_valueOf_r2) ++ wsX00)
def wsJ6_bitCount_0f7a4 : List Cond := .code yJ6_bitCount_0f7a4 cJ6_bitCount_0f7a4 1 (some .int) :: ([.constant RJ6 265 (1431655765), .constant RJ6 266 (858993459), .constant RJ6 267 (252645135)])
def wsX0_totalsOver : List Cond := .code yX0_totalsOver cX0_totalsOver 6 (some .int) :: ([.fieldLink RX0 30 "TickForms$Form" "size" "I", .fieldLink RX0 18 "TickForms$Form" "settings" "[I", .fieldLink RX0 9 "TickForms$Form" "kinds" "[I", .static yX3_at, .initialized RX3, .code yX3_at cX3_at 2 (some .int), .static yX3_isInMask, .code yX3_isInMask cX3_isInMask 2 (some .boolean), .methodLink RX0 102 yJ6_bitCount_0f7a4, .static yJ6_bitCount_0f7a4, .initialized RJ6, .code yJ6_bitCount_0f7a4 cJ6_bitCount_0f7a4 1 (some .int), .constant RJ6 265 (1431655765), .constant RJ6 266 (858993459), .constant RJ6 267 (252645135)] ++ wsX00)
def wsX1_init : List Cond := .code yX1_init cX1_init 2 none :: ([.methodLink RX1 3 objectInit, .instanceMethod objectInit, .code objectInit ⟨#[0xb1]⟩ 1 none, .classLink RX1 9 RX0, .fieldLink RX1 11 "TickForms$History" "states" "[LTickForms$Form;", .instantiable RX0 7, .initialized RX0, .instanceMethod yX0_init, .code yX0_init cX0_init 1 none, .methodLink RX0 3 objectInit, .arrayClass .int, .fieldLink RX0 9 "TickForms$Form" "kinds" "[I", .fieldLink RX0 15 "TickForms$Form" "parts" "[I", .fieldLink RX0 18 "TickForms$Form" "settings" "[I", .fieldLink RX0 21 "TickForms$Form" "limits" "[I", .fieldLink RX0 24 "TickForms$Form" "answers" "[I", .fieldLink RX0 27 "TickForms$Form" "values" "[I"] ++ wsX10 ++ wsX00)
def wsX1_size : List Cond := .code yX1_size cX1_size 1 (some .int) :: ([.fieldLink RX1 18 "TickForms$History" "size" "I"] ++ wsX10)
def wsX1_stateAt : List Cond := .code yX1_stateAt cX1_stateAt 2 (some (.object "TickForms$Form")) :: ([.fieldLink RX1 11 "TickForms$History" "states" "[LTickForms$Form;"] ++ wsX10)
def wsX1_save_r1 : List Cond := [Cond.fieldLink RX1 22 "TickForms$History" "next" "I", Cond.fieldLink RX1 18 "TickForms$History" "size" "I", Cond.methodLink RX1 33 Lib.Math.min.name, Cond.static Lib.Math.min.name, Cond.initialized "java/lang/Math", Cond.code Lib.Math.min.name Lib.Math.min.code 2 (some .int), Cond.methodLink RX1 25 yX1_stateAt, Cond.instanceMethod yX1_stateAt, Cond.selects RX1 yX1_stateAt yX1_stateAt, Cond.initialized RX1, Cond.code yX1_stateAt cX1_stateAt 2 (some (.object "TickForms$Form")), Cond.fieldLink RX1 11 "TickForms$History" "states" "[LTickForms$Form;", Cond.instanceMethod yX0_copyFrom, Cond.initialized RX0, Cond.selects RX0 yX0_copyFrom yX0_copyFrom, Cond.code yX0_copyFrom cX0_copyFrom 3 none, Cond.fieldLink RX0 30 "TickForms$Form" "size" "I", Cond.fieldLink RX0 9 "TickForms$Form" "kinds" "[I", Cond.fieldLink RX0 15 "TickForms$Form" "parts" "[I", Cond.fieldLink RX0 18 "TickForms$Form" "settings" "[I", Cond.fieldLink RX0 21 "TickForms$Form" "limits" "[I", Cond.fieldLink RX0 24 "TickForms$Form" "answers" "[I", Cond.static yX3_at, Cond.initialized RX3]
def wsX1_save_r2 : List Cond := [Cond.code yX3_at cX3_at 2 (some .int), Cond.static yX3_put, Cond.code yX3_put cX3_put 3 none]
def wsX1_save : List Cond := .code yX1_save cX1_save 3 none :: ((wsX1_save_r1 ++ wsX1_save_r2) ++ wsX10 ++ wsX00)
def wsX1_restore : List Cond := .code yX1_restore cX1_restore 3 none :: ([.fieldLink RX1 22 "TickForms$History" "next" "I", .fieldLink RX1 18 "TickForms$History" "size" "I", .methodLink RX1 25 yX1_stateAt, .instanceMethod yX1_stateAt, .selects RX1 yX1_stateAt yX1_stateAt, .initialized RX1, .code yX1_stateAt cX1_stateAt 2 (some (.object "TickForms$Form")), .fieldLink RX1 11 "TickForms$History" "states" "[LTickForms$Form;", .instanceMethod yX0_copyFrom, .initialized RX0, .selects RX0 yX0_copyFrom yX0_copyFrom, .code yX0_copyFrom cX0_copyFrom 3 none, .fieldLink RX0 30 "TickForms$Form" "size" "I", .fieldLink RX0 9 "TickForms$Form" "kinds" "[I", .fieldLink RX0 15 "TickForms$Form" "parts" "[I", .fieldLink RX0 18 "TickForms$Form" "settings" "[I", .fieldLink RX0 21 "TickForms$Form" "limits" "[I", .fieldLink RX0 24 "TickForms$Form" "answers" "[I", .static yX3_at, .initialized RX3, .code yX3_at cX3_at 2 (some .int), .static yX3_put, .code yX3_put cX3_put 3 none] ++ wsX10 ++ wsX00)
def wsX2_init : List Cond := .code yX2_init cX2_init 1 none :: ([.methodLink RX2 3 objectInit, .instanceMethod objectInit, .code objectInit ⟨#[0xb1]⟩ 1 none, .arrayClass .int, .fieldLink RX2 9 "TickForms$Text" "codes" "[I"] ++ wsX20)
def wsX2_length : List Cond := .code yX2_length cX2_length 1 (some .int) :: ([.fieldLink RX2 15 "TickForms$Text" "length" "I"] ++ wsX20)
def wsX2_codeAt : List Cond := .code yX2_codeAt cX2_codeAt 2 (some .int) :: ([.fieldLink RX2 15 "TickForms$Text" "length" "I", .fieldLink RX2 9 "TickForms$Text" "codes" "[I", .static yX3_at, .initialized RX3, .code yX3_at cX3_at 2 (some .int)] ++ wsX20)
def wsX2_add : List Cond := .code yX2_add cX2_add 2 none :: ([.fieldLink RX2 9 "TickForms$Text" "codes" "[I", .fieldLink RX2 15 "TickForms$Text" "length" "I", .static yX3_put, .initialized RX3, .code yX3_put cX3_put 3 none] ++ wsX20)
def wsX2_empty : List Cond := .code yX2_empty cX2_empty 1 none :: ([.fieldLink RX2 15 "TickForms$Text" "length" "I"] ++ wsX20)
def wsX2_isDigit : List Cond := .code yX2_isDigit cX2_isDigit 1 (some .boolean) :: ([.static yX3_isWithin, .initialized RX3, .code yX3_isWithin cX3_isWithin 3 (some .boolean)])
def wsX2_afterBox : List Cond := .code yX2_afterBox cX2_afterBox 1 (some .int) :: ([])
def wsX2_afterAnswer : List Cond := .code yX2_afterAnswer cX2_afterAnswer 1 (some .int) :: ([])
def wsX2_stateAfter : List Cond := .code yX2_stateAfter cX2_stateAfter 2 (some .int) :: ([.methodLink RX2 35 yX2_isDigit, .static yX2_isDigit, .initialized RX2, .code yX2_isDigit cX2_isDigit 1 (some .boolean), .static yX3_isWithin, .initialized RX3, .code yX3_isWithin cX3_isWithin 3 (some .boolean), .methodLink RX2 43 yX2_afterBox, .static yX2_afterBox, .code yX2_afterBox cX2_afterBox 1 (some .int), .methodLink RX2 46 yX2_afterAnswer, .static yX2_afterAnswer, .code yX2_afterAnswer cX2_afterAnswer 1 (some .int)])
def wsX2_errorAt : List Cond := .code yX2_errorAt cX2_errorAt 3 (some .int) :: ([.fieldLink RX2 15 "TickForms$Text" "length" "I", .methodLink RX2 27 yX2_codeAt, .instanceMethod yX2_codeAt, .selects RX2 yX2_codeAt yX2_codeAt, .initialized RX2, .code yX2_codeAt cX2_codeAt 2 (some .int), .fieldLink RX2 9 "TickForms$Text" "codes" "[I", .static yX3_at, .initialized RX3, .code yX3_at cX3_at 2 (some .int), .methodLink RX2 31 yX2_stateAfter, .static yX2_stateAfter, .code yX2_stateAfter cX2_stateAfter 2 (some .int), .methodLink RX2 35 yX2_isDigit, .static yX2_isDigit, .code yX2_isDigit cX2_isDigit 1 (some .boolean), .static yX3_isWithin, .code yX3_isWithin cX3_isWithin 3 (some .boolean), .methodLink RX2 43 yX2_afterBox, .static yX2_afterBox, .code yX2_afterBox cX2_afterBox 1 (some .int), .methodLink RX2 46 yX2_afterAnswer, .static yX2_afterAnswer, .code yX2_afterAnswer cX2_afterAnswer 1 (some .int)] ++ wsX20)
def wsX2_isComplete : List Cond := .code yX2_isComplete cX2_isComplete 3 (some .boolean) :: ([.fieldLink RX2 15 "TickForms$Text" "length" "I", .methodLink RX2 27 yX2_codeAt, .instanceMethod yX2_codeAt, .selects RX2 yX2_codeAt yX2_codeAt, .initialized RX2, .code yX2_codeAt cX2_codeAt 2 (some .int), .fieldLink RX2 9 "TickForms$Text" "codes" "[I", .static yX3_at, .initialized RX3, .code yX3_at cX3_at 2 (some .int), .methodLink RX2 31 yX2_stateAfter, .static yX2_stateAfter, .code yX2_stateAfter cX2_stateAfter 2 (some .int), .methodLink RX2 35 yX2_isDigit, .static yX2_isDigit, .code yX2_isDigit cX2_isDigit 1 (some .boolean), .static yX3_isWithin, .code yX3_isWithin cX3_isWithin 3 (some .boolean), .methodLink RX2 43 yX2_afterBox, .static yX2_afterBox, .code yX2_afterBox cX2_afterBox 1 (some .int), .methodLink RX2 46 yX2_afterAnswer, .static yX2_afterAnswer, .code yX2_afterAnswer cX2_afterAnswer 1 (some .int)] ++ wsX20)
def wsX3_init_r1 : List Cond := [Cond.methodLink RX3 1 objectInit, Cond.instanceMethod objectInit, Cond.code objectInit ⟨#[0xb1]⟩ 1 none, Cond.classLink RX3 7 RX0, Cond.instantiable RX0 7, Cond.initialized RX0, Cond.fieldLink RX3 10 "TickForms" "form" "LTickForms$Form;", Cond.fieldLink RX3 16 "TickForms" "trial" "LTickForms$Form;", Cond.classLink RX3 19 RX1, Cond.instantiable RX1 3, Cond.initialized RX1, Cond.fieldLink RX3 22 "TickForms" "history" "LTickForms$History;", Cond.classLink RX3 26 RX2, Cond.instantiable RX2 2, Cond.initialized RX2, Cond.fieldLink RX3 29 "TickForms" "text" "LTickForms$Text;", Cond.instanceMethod yX0_init, Cond.code yX0_init cX0_init 1 none, Cond.methodLink RX0 3 objectInit, Cond.arrayClass .int, Cond.fieldLink RX0 9 "TickForms$Form" "kinds" "[I", Cond.fieldLink RX0 15 "TickForms$Form" "parts" "[I", Cond.fieldLink RX0 18 "TickForms$Form" "settings" "[I", Cond.fieldLink RX0 21 "TickForms$Form" "limits" "[I"]
def wsX3_init_r2 : List Cond := [Cond.fieldLink RX0 24 "TickForms$Form" "answers" "[I", Cond.fieldLink RX0 27 "TickForms$Form" "values" "[I", Cond.instanceMethod yX1_init, Cond.code yX1_init cX1_init 2 none, Cond.methodLink RX1 3 objectInit, Cond.classLink RX1 9 RX0, Cond.fieldLink RX1 11 "TickForms$History" "states" "[LTickForms$Form;", Cond.instanceMethod yX2_init, Cond.code yX2_init cX2_init 1 none, Cond.methodLink RX2 3 objectInit, Cond.fieldLink RX2 9 "TickForms$Text" "codes" "[I"]
def wsX3_init : List Cond := .code yX3_init cX3_init 1 none :: ((wsX3_init_r1 ++ wsX3_init_r2) ++ wsX00 ++ wsX30 ++ wsX10 ++ wsX20)
def wsX3_needPart : List Cond := .code yX3_needPart cX3_needPart 2 none :: ([.classLink RX3 176 "java/lang/IndexOutOfBoundsException", .initialized "java/lang/IndexOutOfBoundsException", .methodLink RX3 37 yX3_isWithin, .static yX3_isWithin, .initialized RX3, .code yX3_isWithin cX3_isWithin 3 (some .boolean)] ++ (vx_atS RX3 180 "java/lang/IndexOutOfBoundsException" ["java/lang/RuntimeException", "java/lang/Exception"]).filter goodWord)
def wsX3_needArgument : List Cond := .code yX3_needArgument cX3_needArgument 1 none :: ([.classLink RX3 188 "java/lang/IllegalArgumentException", .initialized "java/lang/IllegalArgumentException"] ++ (vx_atS RX3 192 "java/lang/IllegalArgumentException" ["java/lang/RuntimeException", "java/lang/Exception"]).filter goodWord)
def wsX3_needState : List Cond := .code yX3_needState cX3_needState 1 none :: ([.classLink RX3 193 "java/lang/IllegalStateException", .initialized "java/lang/IllegalStateException"] ++ (vx_atS RX3 197 "java/lang/IllegalStateException" ["java/lang/RuntimeException", "java/lang/Exception"]).filter goodWord)
def wsX3_addNew_r1 : List Cond := [Cond.fieldLink RX3 10 "TickForms" "form" "LTickForms$Form;", Cond.fieldLink RX3 22 "TickForms" "history" "LTickForms$History;", Cond.instanceMethod yX0_size, Cond.initialized RX0, Cond.selects RX0 yX0_size yX0_size, Cond.code yX0_size cX0_size 1 (some .int), Cond.fieldLink RX0 30 "TickForms$Form" "size" "I", Cond.methodLink RX3 58 yX3_needState, Cond.static yX3_needState, Cond.initialized RX3, Cond.code yX3_needState cX3_needState 1 none, Cond.classLink RX3 193 "java/lang/IllegalStateException", Cond.initialized "java/lang/IllegalStateException", Cond.instanceMethod yX1_save, Cond.initialized RX1, Cond.selects RX1 yX1_save yX1_save, Cond.code yX1_save cX1_save 3 none, Cond.fieldLink RX1 22 "TickForms$History" "next" "I", Cond.fieldLink RX1 18 "TickForms$History" "size" "I", Cond.methodLink RX1 33 Lib.Math.min.name, Cond.static Lib.Math.min.name, Cond.initialized "java/lang/Math", Cond.code Lib.Math.min.name Lib.Math.min.code 2 (some .int), Cond.methodLink RX1 25 yX1_stateAt]
def wsX3_addNew_r2 : List Cond := [Cond.instanceMethod yX1_stateAt, Cond.selects RX1 yX1_stateAt yX1_stateAt, Cond.code yX1_stateAt cX1_stateAt 2 (some (.object "TickForms$Form")), Cond.fieldLink RX1 11 "TickForms$History" "states" "[LTickForms$Form;", Cond.instanceMethod yX0_copyFrom, Cond.selects RX0 yX0_copyFrom yX0_copyFrom, Cond.code yX0_copyFrom cX0_copyFrom 3 none, Cond.fieldLink RX0 9 "TickForms$Form" "kinds" "[I", Cond.fieldLink RX0 15 "TickForms$Form" "parts" "[I", Cond.fieldLink RX0 18 "TickForms$Form" "settings" "[I", Cond.fieldLink RX0 21 "TickForms$Form" "limits" "[I", Cond.fieldLink RX0 24 "TickForms$Form" "answers" "[I", Cond.static yX3_at, Cond.code yX3_at cX3_at 2 (some .int), Cond.static yX3_put, Cond.code yX3_put cX3_put 3 none, Cond.instanceMethod yX0_add, Cond.selects RX0 yX0_add yX0_add, Cond.code yX0_add cX0_add 5 none]
def wsX3_addNew : List Cond := .code yX3_addNew cX3_addNew 5 (some .int) :: ((wsX3_addNew_r1 ++ wsX3_addNew_r2) ++ wsX30 ++ wsX00 ++ wsX10 ++ (vx_atS RX3 197 "java/lang/IllegalStateException" ["java/lang/RuntimeException", "java/lang/Exception"]).filter goodWord)
def wsX3_comb_r1 : List Cond := [Cond.methodLink RX3 33 yX3_needPart, Cond.static yX3_needPart, Cond.initialized RX3, Cond.code yX3_needPart cX3_needPart 2 none, Cond.classLink RX3 176 "java/lang/IndexOutOfBoundsException", Cond.initialized "java/lang/IndexOutOfBoundsException", Cond.methodLink RX3 37 yX3_isWithin, Cond.static yX3_isWithin, Cond.code yX3_isWithin cX3_isWithin 3 (some .boolean), Cond.methodLink RX3 41 yX3_needArgument, Cond.static yX3_needArgument, Cond.code yX3_needArgument cX3_needArgument 1 none, Cond.classLink RX3 188 "java/lang/IllegalArgumentException", Cond.initialized "java/lang/IllegalArgumentException", Cond.methodLink RX3 45 yX3_addNew, Cond.instanceMethod yX3_addNew, Cond.selects RX3 yX3_addNew yX3_addNew, Cond.code yX3_addNew cX3_addNew 5 (some .int), Cond.fieldLink RX3 10 "TickForms" "form" "LTickForms$Form;", Cond.fieldLink RX3 22 "TickForms" "history" "LTickForms$History;", Cond.instanceMethod yX0_size, Cond.initialized RX0, Cond.selects RX0 yX0_size yX0_size, Cond.code yX0_size cX0_size 1 (some .int)]
def wsX3_comb_r2 : List Cond := [Cond.fieldLink RX0 30 "TickForms$Form" "size" "I", Cond.methodLink RX3 58 yX3_needState, Cond.static yX3_needState, Cond.code yX3_needState cX3_needState 1 none, Cond.classLink RX3 193 "java/lang/IllegalStateException", Cond.initialized "java/lang/IllegalStateException", Cond.instanceMethod yX1_save, Cond.initialized RX1, Cond.selects RX1 yX1_save yX1_save, Cond.code yX1_save cX1_save 3 none, Cond.fieldLink RX1 22 "TickForms$History" "next" "I", Cond.fieldLink RX1 18 "TickForms$History" "size" "I", Cond.methodLink RX1 33 Lib.Math.min.name, Cond.static Lib.Math.min.name, Cond.initialized "java/lang/Math", Cond.code Lib.Math.min.name Lib.Math.min.code 2 (some .int), Cond.methodLink RX1 25 yX1_stateAt, Cond.instanceMethod yX1_stateAt, Cond.selects RX1 yX1_stateAt yX1_stateAt, Cond.code yX1_stateAt cX1_stateAt 2 (some (.object "TickForms$Form")), Cond.fieldLink RX1 11 "TickForms$History" "states" "[LTickForms$Form;", Cond.instanceMethod yX0_copyFrom, Cond.selects RX0 yX0_copyFrom yX0_copyFrom, Cond.code yX0_copyFrom cX0_copyFrom 3 none]
def wsX3_comb_r3 : List Cond := [Cond.fieldLink RX0 9 "TickForms$Form" "kinds" "[I", Cond.fieldLink RX0 15 "TickForms$Form" "parts" "[I", Cond.fieldLink RX0 18 "TickForms$Form" "settings" "[I", Cond.fieldLink RX0 21 "TickForms$Form" "limits" "[I", Cond.fieldLink RX0 24 "TickForms$Form" "answers" "[I", Cond.static yX3_at, Cond.code yX3_at cX3_at 2 (some .int), Cond.static yX3_put, Cond.code yX3_put cX3_put 3 none, Cond.instanceMethod yX0_add, Cond.selects RX0 yX0_add yX0_add, Cond.code yX0_add cX0_add 5 none]
def wsX3_comb : List Cond := .code yX3_comb cX3_comb 3 (some .int) :: ((wsX3_comb_r1 ++ (wsX3_comb_r2 ++ wsX3_comb_r3)) ++ wsX30 ++ wsX00 ++ wsX10 ++ (vx_atS RX3 180 "java/lang/IndexOutOfBoundsException" ["java/lang/RuntimeException", "java/lang/Exception"]).filter goodWord ++ (vx_atS RX3 192 "java/lang/IllegalArgumentException" ["java/lang/RuntimeException", "java/lang/Exception"]).filter goodWord ++ (vx_atS RX3 197 "java/lang/IllegalStateException" ["java/lang/RuntimeException", "java/lang/Exception"]).filter goodWord)
def wsX3_tick_r1 : List Cond := [Cond.methodLink RX3 33 yX3_needPart, Cond.static yX3_needPart, Cond.initialized RX3, Cond.code yX3_needPart cX3_needPart 2 none, Cond.classLink RX3 176 "java/lang/IndexOutOfBoundsException", Cond.initialized "java/lang/IndexOutOfBoundsException", Cond.methodLink RX3 37 yX3_isWithin, Cond.static yX3_isWithin, Cond.code yX3_isWithin cX3_isWithin 3 (some .boolean), Cond.methodLink RX3 41 yX3_needArgument, Cond.static yX3_needArgument, Cond.code yX3_needArgument cX3_needArgument 1 none, Cond.classLink RX3 188 "java/lang/IllegalArgumentException", Cond.initialized "java/lang/IllegalArgumentException", Cond.methodLink RX3 45 yX3_addNew, Cond.instanceMethod yX3_addNew, Cond.selects RX3 yX3_addNew yX3_addNew, Cond.code yX3_addNew cX3_addNew 5 (some .int), Cond.fieldLink RX3 10 "TickForms" "form" "LTickForms$Form;", Cond.fieldLink RX3 22 "TickForms" "history" "LTickForms$History;", Cond.instanceMethod yX0_size, Cond.initialized RX0, Cond.selects RX0 yX0_size yX0_size, Cond.code yX0_size cX0_size 1 (some .int)]
def wsX3_tick_r2 : List Cond := [Cond.fieldLink RX0 30 "TickForms$Form" "size" "I", Cond.methodLink RX3 58 yX3_needState, Cond.static yX3_needState, Cond.code yX3_needState cX3_needState 1 none, Cond.classLink RX3 193 "java/lang/IllegalStateException", Cond.initialized "java/lang/IllegalStateException", Cond.instanceMethod yX1_save, Cond.initialized RX1, Cond.selects RX1 yX1_save yX1_save, Cond.code yX1_save cX1_save 3 none, Cond.fieldLink RX1 22 "TickForms$History" "next" "I", Cond.fieldLink RX1 18 "TickForms$History" "size" "I", Cond.methodLink RX1 33 Lib.Math.min.name, Cond.static Lib.Math.min.name, Cond.initialized "java/lang/Math", Cond.code Lib.Math.min.name Lib.Math.min.code 2 (some .int), Cond.methodLink RX1 25 yX1_stateAt, Cond.instanceMethod yX1_stateAt, Cond.selects RX1 yX1_stateAt yX1_stateAt, Cond.code yX1_stateAt cX1_stateAt 2 (some (.object "TickForms$Form")), Cond.fieldLink RX1 11 "TickForms$History" "states" "[LTickForms$Form;", Cond.instanceMethod yX0_copyFrom, Cond.selects RX0 yX0_copyFrom yX0_copyFrom, Cond.code yX0_copyFrom cX0_copyFrom 3 none]
def wsX3_tick_r3 : List Cond := [Cond.fieldLink RX0 9 "TickForms$Form" "kinds" "[I", Cond.fieldLink RX0 15 "TickForms$Form" "parts" "[I", Cond.fieldLink RX0 18 "TickForms$Form" "settings" "[I", Cond.fieldLink RX0 21 "TickForms$Form" "limits" "[I", Cond.fieldLink RX0 24 "TickForms$Form" "answers" "[I", Cond.static yX3_at, Cond.code yX3_at cX3_at 2 (some .int), Cond.static yX3_put, Cond.code yX3_put cX3_put 3 none, Cond.instanceMethod yX0_add, Cond.selects RX0 yX0_add yX0_add, Cond.code yX0_add cX0_add 5 none]
def wsX3_tick : List Cond := .code yX3_tick cX3_tick 3 (some .int) :: ((wsX3_tick_r1 ++ (wsX3_tick_r2 ++ wsX3_tick_r3)) ++ wsX30 ++ wsX00 ++ wsX10 ++ (vx_atS RX3 180 "java/lang/IndexOutOfBoundsException" ["java/lang/RuntimeException", "java/lang/Exception"]).filter goodWord ++ (vx_atS RX3 192 "java/lang/IllegalArgumentException" ["java/lang/RuntimeException", "java/lang/Exception"]).filter goodWord ++ (vx_atS RX3 197 "java/lang/IllegalStateException" ["java/lang/RuntimeException", "java/lang/Exception"]).filter goodWord)
def wsX3_skip_r1 : List Cond := [Cond.methodLink RX3 33 yX3_needPart, Cond.static yX3_needPart, Cond.initialized RX3, Cond.code yX3_needPart cX3_needPart 2 none, Cond.classLink RX3 176 "java/lang/IndexOutOfBoundsException", Cond.initialized "java/lang/IndexOutOfBoundsException", Cond.methodLink RX3 37 yX3_isWithin, Cond.static yX3_isWithin, Cond.code yX3_isWithin cX3_isWithin 3 (some .boolean), Cond.methodLink RX3 41 yX3_needArgument, Cond.static yX3_needArgument, Cond.code yX3_needArgument cX3_needArgument 1 none, Cond.classLink RX3 188 "java/lang/IllegalArgumentException", Cond.initialized "java/lang/IllegalArgumentException", Cond.methodLink RX3 45 yX3_addNew, Cond.instanceMethod yX3_addNew, Cond.selects RX3 yX3_addNew yX3_addNew, Cond.code yX3_addNew cX3_addNew 5 (some .int), Cond.fieldLink RX3 10 "TickForms" "form" "LTickForms$Form;", Cond.fieldLink RX3 22 "TickForms" "history" "LTickForms$History;", Cond.instanceMethod yX0_size, Cond.initialized RX0, Cond.selects RX0 yX0_size yX0_size, Cond.code yX0_size cX0_size 1 (some .int)]
def wsX3_skip_r2 : List Cond := [Cond.fieldLink RX0 30 "TickForms$Form" "size" "I", Cond.methodLink RX3 58 yX3_needState, Cond.static yX3_needState, Cond.code yX3_needState cX3_needState 1 none, Cond.classLink RX3 193 "java/lang/IllegalStateException", Cond.initialized "java/lang/IllegalStateException", Cond.instanceMethod yX1_save, Cond.initialized RX1, Cond.selects RX1 yX1_save yX1_save, Cond.code yX1_save cX1_save 3 none, Cond.fieldLink RX1 22 "TickForms$History" "next" "I", Cond.fieldLink RX1 18 "TickForms$History" "size" "I", Cond.methodLink RX1 33 Lib.Math.min.name, Cond.static Lib.Math.min.name, Cond.initialized "java/lang/Math", Cond.code Lib.Math.min.name Lib.Math.min.code 2 (some .int), Cond.methodLink RX1 25 yX1_stateAt, Cond.instanceMethod yX1_stateAt, Cond.selects RX1 yX1_stateAt yX1_stateAt, Cond.code yX1_stateAt cX1_stateAt 2 (some (.object "TickForms$Form")), Cond.fieldLink RX1 11 "TickForms$History" "states" "[LTickForms$Form;", Cond.instanceMethod yX0_copyFrom, Cond.selects RX0 yX0_copyFrom yX0_copyFrom, Cond.code yX0_copyFrom cX0_copyFrom 3 none]
def wsX3_skip_r3 : List Cond := [Cond.fieldLink RX0 9 "TickForms$Form" "kinds" "[I", Cond.fieldLink RX0 15 "TickForms$Form" "parts" "[I", Cond.fieldLink RX0 18 "TickForms$Form" "settings" "[I", Cond.fieldLink RX0 21 "TickForms$Form" "limits" "[I", Cond.fieldLink RX0 24 "TickForms$Form" "answers" "[I", Cond.static yX3_at, Cond.code yX3_at cX3_at 2 (some .int), Cond.static yX3_put, Cond.code yX3_put cX3_put 3 none, Cond.instanceMethod yX0_add, Cond.selects RX0 yX0_add yX0_add, Cond.code yX0_add cX0_add 5 none]
def wsX3_skip : List Cond := .code yX3_skip cX3_skip 4 (some .int) :: ((wsX3_skip_r1 ++ (wsX3_skip_r2 ++ wsX3_skip_r3)) ++ wsX30 ++ wsX00 ++ wsX10 ++ (vx_atS RX3 180 "java/lang/IndexOutOfBoundsException" ["java/lang/RuntimeException", "java/lang/Exception"]).filter goodWord ++ (vx_atS RX3 192 "java/lang/IllegalArgumentException" ["java/lang/RuntimeException", "java/lang/Exception"]).filter goodWord ++ (vx_atS RX3 197 "java/lang/IllegalStateException" ["java/lang/RuntimeException", "java/lang/Exception"]).filter goodWord)
def wsX3_total_r1 : List Cond := [Cond.constant RX3 49 (65535), Cond.fieldLink RX3 10 "TickForms" "form" "LTickForms$Form;", Cond.methodLink RX3 33 yX3_needPart, Cond.static yX3_needPart, Cond.initialized RX3, Cond.code yX3_needPart cX3_needPart 2 none, Cond.classLink RX3 176 "java/lang/IndexOutOfBoundsException", Cond.initialized "java/lang/IndexOutOfBoundsException", Cond.methodLink RX3 37 yX3_isWithin, Cond.static yX3_isWithin, Cond.code yX3_isWithin cX3_isWithin 3 (some .boolean), Cond.instanceMethod yX0_canCarry, Cond.initialized RX0, Cond.selects RX0 yX0_canCarry yX0_canCarry, Cond.code yX0_canCarry cX0_canCarry 4 (some .boolean), Cond.fieldLink RX0 9 "TickForms$Form" "kinds" "[I", Cond.static yX3_at, Cond.code yX3_at cX3_at 2 (some .int), Cond.static yX3_isInMask, Cond.code yX3_isInMask cX3_isInMask 2 (some .boolean), Cond.methodLink RX0 86 yX0_has, Cond.instanceMethod yX0_has, Cond.selects RX0 yX0_has yX0_has, Cond.code yX0_has cX0_has 2 (some .boolean)]
def wsX3_total_r2 : List Cond := [Cond.fieldLink RX0 30 "TickForms$Form" "size" "I", Cond.methodLink RX3 41 yX3_needArgument, Cond.static yX3_needArgument, Cond.code yX3_needArgument cX3_needArgument 1 none, Cond.classLink RX3 188 "java/lang/IllegalArgumentException", Cond.initialized "java/lang/IllegalArgumentException", Cond.methodLink RX3 45 yX3_addNew, Cond.instanceMethod yX3_addNew, Cond.selects RX3 yX3_addNew yX3_addNew, Cond.code yX3_addNew cX3_addNew 5 (some .int), Cond.fieldLink RX3 22 "TickForms" "history" "LTickForms$History;", Cond.instanceMethod yX0_size, Cond.selects RX0 yX0_size yX0_size, Cond.code yX0_size cX0_size 1 (some .int), Cond.methodLink RX3 58 yX3_needState, Cond.static yX3_needState, Cond.code yX3_needState cX3_needState 1 none, Cond.classLink RX3 193 "java/lang/IllegalStateException", Cond.initialized "java/lang/IllegalStateException", Cond.instanceMethod yX1_save, Cond.initialized RX1, Cond.selects RX1 yX1_save yX1_save, Cond.code yX1_save cX1_save 3 none, Cond.fieldLink RX1 22 "TickForms$History" "next" "I"]
def wsX3_total_r3 : List Cond := [Cond.fieldLink RX1 18 "TickForms$History" "size" "I", Cond.methodLink RX1 33 Lib.Math.min.name, Cond.static Lib.Math.min.name, Cond.initialized "java/lang/Math", Cond.code Lib.Math.min.name Lib.Math.min.code 2 (some .int), Cond.methodLink RX1 25 yX1_stateAt, Cond.instanceMethod yX1_stateAt, Cond.selects RX1 yX1_stateAt yX1_stateAt, Cond.code yX1_stateAt cX1_stateAt 2 (some (.object "TickForms$Form")), Cond.fieldLink RX1 11 "TickForms$History" "states" "[LTickForms$Form;", Cond.instanceMethod yX0_copyFrom, Cond.selects RX0 yX0_copyFrom yX0_copyFrom, Cond.code yX0_copyFrom cX0_copyFrom 3 none, Cond.fieldLink RX0 15 "TickForms$Form" "parts" "[I", Cond.fieldLink RX0 18 "TickForms$Form" "settings" "[I", Cond.fieldLink RX0 21 "TickForms$Form" "limits" "[I", Cond.fieldLink RX0 24 "TickForms$Form" "answers" "[I", Cond.static yX3_put, Cond.code yX3_put cX3_put 3 none, Cond.instanceMethod yX0_add, Cond.selects RX0 yX0_add yX0_add, Cond.code yX0_add cX0_add 5 none]
def wsX3_total : List Cond := .code yX3_total cX3_total 3 (some .int) :: ((wsX3_total_r1 ++ (wsX3_total_r2 ++ wsX3_total_r3)) ++ wsX30 ++ wsX00 ++ wsX10 ++ (vx_atS RX3 180 "java/lang/IndexOutOfBoundsException" ["java/lang/RuntimeException", "java/lang/Exception"]).filter goodWord ++ (vx_atS RX3 192 "java/lang/IllegalArgumentException" ["java/lang/RuntimeException", "java/lang/Exception"]).filter goodWord ++ (vx_atS RX3 197 "java/lang/IllegalStateException" ["java/lang/RuntimeException", "java/lang/Exception"]).filter goodWord)
def wsX3_drop_r1 : List Cond := [Cond.fieldLink RX3 10 "TickForms" "form" "LTickForms$Form;", Cond.fieldLink RX3 22 "TickForms" "history" "LTickForms$History;", Cond.instanceMethod yX0_size, Cond.initialized RX0, Cond.selects RX0 yX0_size yX0_size, Cond.code yX0_size cX0_size 1 (some .int), Cond.fieldLink RX0 30 "TickForms$Form" "size" "I", Cond.methodLink RX3 58 yX3_needState, Cond.static yX3_needState, Cond.initialized RX3, Cond.code yX3_needState cX3_needState 1 none, Cond.classLink RX3 193 "java/lang/IllegalStateException", Cond.initialized "java/lang/IllegalStateException", Cond.instanceMethod yX1_save, Cond.initialized RX1, Cond.selects RX1 yX1_save yX1_save, Cond.code yX1_save cX1_save 3 none, Cond.fieldLink RX1 22 "TickForms$History" "next" "I", Cond.fieldLink RX1 18 "TickForms$History" "size" "I", Cond.methodLink RX1 33 Lib.Math.min.name, Cond.static Lib.Math.min.name, Cond.initialized "java/lang/Math", Cond.code Lib.Math.min.name Lib.Math.min.code 2 (some .int), Cond.methodLink RX1 25 yX1_stateAt]
def wsX3_drop_r2 : List Cond := [Cond.instanceMethod yX1_stateAt, Cond.selects RX1 yX1_stateAt yX1_stateAt, Cond.code yX1_stateAt cX1_stateAt 2 (some (.object "TickForms$Form")), Cond.fieldLink RX1 11 "TickForms$History" "states" "[LTickForms$Form;", Cond.instanceMethod yX0_copyFrom, Cond.selects RX0 yX0_copyFrom yX0_copyFrom, Cond.code yX0_copyFrom cX0_copyFrom 3 none, Cond.fieldLink RX0 9 "TickForms$Form" "kinds" "[I", Cond.fieldLink RX0 15 "TickForms$Form" "parts" "[I", Cond.fieldLink RX0 18 "TickForms$Form" "settings" "[I", Cond.fieldLink RX0 21 "TickForms$Form" "limits" "[I", Cond.fieldLink RX0 24 "TickForms$Form" "answers" "[I", Cond.static yX3_at, Cond.code yX3_at cX3_at 2 (some .int), Cond.static yX3_put, Cond.code yX3_put cX3_put 3 none, Cond.instanceMethod yX0_kindOf, Cond.selects RX0 yX0_kindOf yX0_kindOf, Cond.code yX0_kindOf cX0_kindOf 2 (some .int), Cond.instanceMethod yX0_removeLast, Cond.selects RX0 yX0_removeLast yX0_removeLast, Cond.code yX0_removeLast cX0_removeLast 1 none]
def wsX3_drop : List Cond := .code yX3_drop cX3_drop 3 (some .int) :: ((wsX3_drop_r1 ++ wsX3_drop_r2) ++ wsX30 ++ wsX00 ++ wsX10 ++ (vx_atS RX3 197 "java/lang/IllegalStateException" ["java/lang/RuntimeException", "java/lang/Exception"]).filter goodWord)
def wsX3_needBox : List Cond := .code yX3_needBox cX3_needBox 2 none :: ([.classLink RX3 176 "java/lang/IndexOutOfBoundsException", .initialized "java/lang/IndexOutOfBoundsException", .fieldLink RX3 10 "TickForms" "form" "LTickForms$Form;", .instanceMethod yX0_has, .initialized RX0, .selects RX0 yX0_has yX0_has, .code yX0_has cX0_has 2 (some .boolean), .fieldLink RX0 30 "TickForms$Form" "size" "I"] ++ wsX30 ++ wsX00 ++ (vx_atS RX3 180 "java/lang/IndexOutOfBoundsException" ["java/lang/RuntimeException", "java/lang/Exception"]).filter goodWord)
def wsX3_answer_r1 : List Cond := [Cond.fieldLink RX3 10 "TickForms" "form" "LTickForms$Form;", Cond.fieldLink RX3 22 "TickForms" "history" "LTickForms$History;", Cond.methodLink RX3 72 yX3_needBox, Cond.instanceMethod yX3_needBox, Cond.selects RX3 yX3_needBox yX3_needBox, Cond.initialized RX3, Cond.code yX3_needBox cX3_needBox 2 none, Cond.classLink RX3 176 "java/lang/IndexOutOfBoundsException", Cond.initialized "java/lang/IndexOutOfBoundsException", Cond.instanceMethod yX0_has, Cond.initialized RX0, Cond.selects RX0 yX0_has yX0_has, Cond.code yX0_has cX0_has 2 (some .boolean), Cond.fieldLink RX0 30 "TickForms$Form" "size" "I", Cond.instanceMethod yX0_fits, Cond.selects RX0 yX0_fits yX0_fits, Cond.code yX0_fits cX0_fits 3 (some .boolean), Cond.methodLink RX0 42 yX0_mostAnswer, Cond.instanceMethod yX0_mostAnswer, Cond.selects RX0 yX0_mostAnswer yX0_mostAnswer, Cond.code yX0_mostAnswer cX0_mostAnswer 2 (some .int), Cond.fieldLink RX0 9 "TickForms$Form" "kinds" "[I", Cond.fieldLink RX0 18 "TickForms$Form" "settings" "[I", Cond.static yX3_at]
def wsX3_answer_r2 : List Cond := [Cond.code yX3_at cX3_at 2 (some .int), Cond.methodLink RX0 50 yX0_mostWithTeeth, Cond.static yX0_mostWithTeeth, Cond.code yX0_mostWithTeeth cX0_mostWithTeeth 3 (some .int), Cond.static yX3_isWithin, Cond.code yX3_isWithin cX3_isWithin 3 (some .boolean), Cond.methodLink RX3 41 yX3_needArgument, Cond.static yX3_needArgument, Cond.code yX3_needArgument cX3_needArgument 1 none, Cond.classLink RX3 188 "java/lang/IllegalArgumentException", Cond.initialized "java/lang/IllegalArgumentException", Cond.instanceMethod yX1_save, Cond.initialized RX1, Cond.selects RX1 yX1_save yX1_save, Cond.code yX1_save cX1_save 3 none, Cond.fieldLink RX1 22 "TickForms$History" "next" "I", Cond.fieldLink RX1 18 "TickForms$History" "size" "I", Cond.methodLink RX1 33 Lib.Math.min.name, Cond.static Lib.Math.min.name, Cond.initialized "java/lang/Math", Cond.code Lib.Math.min.name Lib.Math.min.code 2 (some .int), Cond.methodLink RX1 25 yX1_stateAt, Cond.instanceMethod yX1_stateAt, Cond.selects RX1 yX1_stateAt yX1_stateAt]
def wsX3_answer_r3 : List Cond := [Cond.code yX1_stateAt cX1_stateAt 2 (some (.object "TickForms$Form")), Cond.fieldLink RX1 11 "TickForms$History" "states" "[LTickForms$Form;", Cond.instanceMethod yX0_copyFrom, Cond.selects RX0 yX0_copyFrom yX0_copyFrom, Cond.code yX0_copyFrom cX0_copyFrom 3 none, Cond.fieldLink RX0 15 "TickForms$Form" "parts" "[I", Cond.fieldLink RX0 21 "TickForms$Form" "limits" "[I", Cond.fieldLink RX0 24 "TickForms$Form" "answers" "[I", Cond.static yX3_put, Cond.code yX3_put cX3_put 3 none, Cond.instanceMethod yX0_give, Cond.selects RX0 yX0_give yX0_give, Cond.code yX0_give cX0_give 3 none, Cond.instanceMethod yX0_openParts, Cond.selects RX0 yX0_openParts yX0_openParts, Cond.code yX0_openParts cX0_openParts 3 (some .int), Cond.methodLink RX0 53 yX0_isTicked, Cond.instanceMethod yX0_isTicked, Cond.selects RX0 yX0_isTicked yX0_isTicked, Cond.code yX0_isTicked cX0_isTicked 5 (some .boolean), Cond.methodLink RX0 60 yX0_isFor, Cond.instanceMethod yX0_isFor, Cond.selects RX0 yX0_isFor yX0_isFor, Cond.code yX0_isFor cX0_isFor 4 (some .boolean)]
def wsX3_answer_r4 : List Cond := [Cond.methodLink RX0 63 yX0_isOpen, Cond.instanceMethod yX0_isOpen, Cond.selects RX0 yX0_isOpen yX0_isOpen, Cond.code yX0_isOpen cX0_isOpen 3 (some .boolean), Cond.static yX3_isInMask, Cond.code yX3_isInMask cX3_isInMask 2 (some .boolean), Cond.methodLink RX0 57 yX0_isSkipped, Cond.instanceMethod yX0_isSkipped, Cond.selects RX0 yX0_isSkipped yX0_isSkipped, Cond.code yX0_isSkipped cX0_isSkipped 5 (some .boolean), Cond.methodLink RX0 66 yX0_isEmpty, Cond.instanceMethod yX0_isEmpty, Cond.selects RX0 yX0_isEmpty yX0_isEmpty, Cond.code yX0_isEmpty cX0_isEmpty 2 (some .boolean), Cond.instanceMethod yX0_wanting, Cond.selects RX0 yX0_wanting yX0_wanting, Cond.code yX0_wanting cX0_wanting 4 (some .int), Cond.methodLink RX0 73 yX0_wants, Cond.instanceMethod yX0_wants, Cond.selects RX0 yX0_wants yX0_wants, Cond.code yX0_wants cX0_wants 3 (some .boolean)]
def wsX3_answer : List Cond := .code yX3_answer cX3_answer 3 (some .int) :: ((wsX3_answer_r1 ++ (wsX3_answer_r2 ++ (wsX3_answer_r3 ++ wsX3_answer_r4))) ++ wsX30 ++ wsX00 ++ wsX10 ++ (vx_atS RX3 180 "java/lang/IndexOutOfBoundsException" ["java/lang/RuntimeException", "java/lang/Exception"]).filter goodWord ++ (vx_atS RX3 192 "java/lang/IllegalArgumentException" ["java/lang/RuntimeException", "java/lang/Exception"]).filter goodWord)
def wsX3_clear_r1 : List Cond := [Cond.fieldLink RX3 22 "TickForms" "history" "LTickForms$History;", Cond.fieldLink RX3 10 "TickForms" "form" "LTickForms$Form;", Cond.instanceMethod yX1_save, Cond.initialized RX1, Cond.selects RX1 yX1_save yX1_save, Cond.code yX1_save cX1_save 3 none, Cond.fieldLink RX1 22 "TickForms$History" "next" "I", Cond.fieldLink RX1 18 "TickForms$History" "size" "I", Cond.methodLink RX1 33 Lib.Math.min.name, Cond.static Lib.Math.min.name, Cond.initialized "java/lang/Math", Cond.code Lib.Math.min.name Lib.Math.min.code 2 (some .int), Cond.methodLink RX1 25 yX1_stateAt, Cond.instanceMethod yX1_stateAt, Cond.selects RX1 yX1_stateAt yX1_stateAt, Cond.code yX1_stateAt cX1_stateAt 2 (some (.object "TickForms$Form")), Cond.fieldLink RX1 11 "TickForms$History" "states" "[LTickForms$Form;", Cond.instanceMethod yX0_copyFrom, Cond.initialized RX0, Cond.selects RX0 yX0_copyFrom yX0_copyFrom, Cond.code yX0_copyFrom cX0_copyFrom 3 none, Cond.fieldLink RX0 30 "TickForms$Form" "size" "I", Cond.fieldLink RX0 9 "TickForms$Form" "kinds" "[I", Cond.fieldLink RX0 15 "TickForms$Form" "parts" "[I"]
def wsX3_clear_r2 : List Cond := [Cond.fieldLink RX0 18 "TickForms$Form" "settings" "[I", Cond.fieldLink RX0 21 "TickForms$Form" "limits" "[I", Cond.fieldLink RX0 24 "TickForms$Form" "answers" "[I", Cond.static yX3_at, Cond.initialized RX3, Cond.code yX3_at cX3_at 2 (some .int), Cond.static yX3_put, Cond.code yX3_put cX3_put 3 none, Cond.instanceMethod yX0_answered, Cond.selects RX0 yX0_answered yX0_answered, Cond.code yX0_answered cX0_answered 3 (some .int), Cond.instanceMethod yX0_size, Cond.selects RX0 yX0_size yX0_size, Cond.code yX0_size cX0_size 1 (some .int), Cond.instanceMethod yX0_give, Cond.selects RX0 yX0_give yX0_give, Cond.code yX0_give cX0_give 3 none]
def wsX3_clear : List Cond := .code yX3_clear cX3_clear 4 (some .int) :: ((wsX3_clear_r1 ++ wsX3_clear_r2) ++ wsX30 ++ wsX10 ++ wsX00)
def wsX3_append_r1 : List Cond := [Cond.fieldLink RX3 29 "TickForms" "text" "LTickForms$Text;", Cond.methodLink RX3 37 yX3_isWithin, Cond.static yX3_isWithin, Cond.initialized RX3, Cond.code yX3_isWithin cX3_isWithin 3 (some .boolean), Cond.methodLink RX3 41 yX3_needArgument, Cond.static yX3_needArgument, Cond.code yX3_needArgument cX3_needArgument 1 none, Cond.classLink RX3 188 "java/lang/IllegalArgumentException", Cond.initialized "java/lang/IllegalArgumentException", Cond.instanceMethod yX2_length, Cond.initialized RX2, Cond.selects RX2 yX2_length yX2_length, Cond.code yX2_length cX2_length 1 (some .int), Cond.fieldLink RX2 15 "TickForms$Text" "length" "I", Cond.methodLink RX3 58 yX3_needState, Cond.static yX3_needState, Cond.code yX3_needState cX3_needState 1 none, Cond.classLink RX3 193 "java/lang/IllegalStateException", Cond.initialized "java/lang/IllegalStateException", Cond.instanceMethod yX2_add, Cond.selects RX2 yX2_add yX2_add, Cond.code yX2_add cX2_add 2 none, Cond.fieldLink RX2 9 "TickForms$Text" "codes" "[I"]
def wsX3_append_r2 : List Cond := [Cond.static yX3_put, Cond.code yX3_put cX3_put 3 none]
def wsX3_append : List Cond := .code yX3_append cX3_append 2 (some .int) :: ((wsX3_append_r1 ++ wsX3_append_r2) ++ wsX30 ++ wsX20 ++ (vx_atS RX3 192 "java/lang/IllegalArgumentException" ["java/lang/RuntimeException", "java/lang/Exception"]).filter goodWord ++ (vx_atS RX3 197 "java/lang/IllegalStateException" ["java/lang/RuntimeException", "java/lang/Exception"]).filter goodWord)
def wsX3_clearBuffer : List Cond := .code yX3_clearBuffer cX3_clearBuffer 2 (some .int) :: ([.fieldLink RX3 29 "TickForms" "text" "LTickForms$Text;", .instanceMethod yX2_length, .initialized RX2, .selects RX2 yX2_length yX2_length, .code yX2_length cX2_length 1 (some .int), .fieldLink RX2 15 "TickForms$Text" "length" "I", .instanceMethod yX2_empty, .selects RX2 yX2_empty yX2_empty, .code yX2_empty cX2_empty 1 none] ++ wsX30 ++ wsX20)
def wsX3_firstError_r1 : List Cond := [Cond.fieldLink RX3 29 "TickForms" "text" "LTickForms$Text;", Cond.instanceMethod yX2_errorAt, Cond.initialized RX2, Cond.selects RX2 yX2_errorAt yX2_errorAt, Cond.code yX2_errorAt cX2_errorAt 3 (some .int), Cond.fieldLink RX2 15 "TickForms$Text" "length" "I", Cond.methodLink RX2 27 yX2_codeAt, Cond.instanceMethod yX2_codeAt, Cond.selects RX2 yX2_codeAt yX2_codeAt, Cond.code yX2_codeAt cX2_codeAt 2 (some .int), Cond.fieldLink RX2 9 "TickForms$Text" "codes" "[I", Cond.static yX3_at, Cond.initialized RX3, Cond.code yX3_at cX3_at 2 (some .int), Cond.methodLink RX2 31 yX2_stateAfter, Cond.static yX2_stateAfter, Cond.code yX2_stateAfter cX2_stateAfter 2 (some .int), Cond.methodLink RX2 35 yX2_isDigit, Cond.static yX2_isDigit, Cond.code yX2_isDigit cX2_isDigit 1 (some .boolean), Cond.static yX3_isWithin, Cond.code yX3_isWithin cX3_isWithin 3 (some .boolean), Cond.methodLink RX2 43 yX2_afterBox, Cond.static yX2_afterBox]
def wsX3_firstError_r2 : List Cond := [Cond.code yX2_afterBox cX2_afterBox 1 (some .int), Cond.methodLink RX2 46 yX2_afterAnswer, Cond.static yX2_afterAnswer, Cond.code yX2_afterAnswer cX2_afterAnswer 1 (some .int)]
def wsX3_firstError : List Cond := .code yX3_firstError cX3_firstError 1 (some .int) :: ((wsX3_firstError_r1 ++ wsX3_firstError_r2) ++ wsX30 ++ wsX20)
def wsX3_giveAnswersOfText_r1 : List Cond := [Cond.fieldLink RX3 29 "TickForms" "text" "LTickForms$Text;", Cond.fieldLink RX3 10 "TickForms" "form" "LTickForms$Form;", Cond.instanceMethod yX2_length, Cond.initialized RX2, Cond.selects RX2 yX2_length yX2_length, Cond.code yX2_length cX2_length 1 (some .int), Cond.fieldLink RX2 15 "TickForms$Text" "length" "I", Cond.instanceMethod yX2_codeAt, Cond.selects RX2 yX2_codeAt yX2_codeAt, Cond.code yX2_codeAt cX2_codeAt 2 (some .int), Cond.fieldLink RX2 9 "TickForms$Text" "codes" "[I", Cond.static yX3_at, Cond.initialized RX3, Cond.code yX3_at cX3_at 2 (some .int), Cond.instanceMethod yX0_has, Cond.initialized RX0, Cond.selects RX0 yX0_has yX0_has, Cond.code yX0_has cX0_has 2 (some .boolean), Cond.fieldLink RX0 30 "TickForms$Form" "size" "I", Cond.instanceMethod yX0_fits, Cond.selects RX0 yX0_fits yX0_fits, Cond.code yX0_fits cX0_fits 3 (some .boolean), Cond.methodLink RX0 42 yX0_mostAnswer, Cond.instanceMethod yX0_mostAnswer]
def wsX3_giveAnswersOfText_r2 : List Cond := [Cond.selects RX0 yX0_mostAnswer yX0_mostAnswer, Cond.code yX0_mostAnswer cX0_mostAnswer 2 (some .int), Cond.fieldLink RX0 9 "TickForms$Form" "kinds" "[I", Cond.fieldLink RX0 18 "TickForms$Form" "settings" "[I", Cond.methodLink RX0 50 yX0_mostWithTeeth, Cond.static yX0_mostWithTeeth, Cond.code yX0_mostWithTeeth cX0_mostWithTeeth 3 (some .int), Cond.static yX3_isWithin, Cond.code yX3_isWithin cX3_isWithin 3 (some .boolean), Cond.instanceMethod yX0_give, Cond.selects RX0 yX0_give yX0_give, Cond.code yX0_give cX0_give 3 none, Cond.fieldLink RX0 24 "TickForms$Form" "answers" "[I", Cond.static yX3_put, Cond.code yX3_put cX3_put 3 none]
def wsX3_giveAnswersOfText : List Cond := .code yX3_giveAnswersOfText cX3_giveAnswersOfText 9 (some .int) :: ((wsX3_giveAnswersOfText_r1 ++ wsX3_giveAnswersOfText_r2) ++ wsX30 ++ wsX20 ++ wsX00)
def wsX3_fill_r1 : List Cond := [Cond.fieldLink RX3 29 "TickForms" "text" "LTickForms$Text;", Cond.fieldLink RX3 22 "TickForms" "history" "LTickForms$History;", Cond.fieldLink RX3 10 "TickForms" "form" "LTickForms$Form;", Cond.instanceMethod yX2_isComplete, Cond.initialized RX2, Cond.selects RX2 yX2_isComplete yX2_isComplete, Cond.code yX2_isComplete cX2_isComplete 3 (some .boolean), Cond.fieldLink RX2 15 "TickForms$Text" "length" "I", Cond.methodLink RX2 27 yX2_codeAt, Cond.instanceMethod yX2_codeAt, Cond.selects RX2 yX2_codeAt yX2_codeAt, Cond.code yX2_codeAt cX2_codeAt 2 (some .int), Cond.fieldLink RX2 9 "TickForms$Text" "codes" "[I", Cond.static yX3_at, Cond.initialized RX3, Cond.code yX3_at cX3_at 2 (some .int), Cond.methodLink RX2 31 yX2_stateAfter, Cond.static yX2_stateAfter, Cond.code yX2_stateAfter cX2_stateAfter 2 (some .int), Cond.methodLink RX2 35 yX2_isDigit, Cond.static yX2_isDigit, Cond.code yX2_isDigit cX2_isDigit 1 (some .boolean), Cond.static yX3_isWithin, Cond.code yX3_isWithin cX3_isWithin 3 (some .boolean)]
def wsX3_fill_r2 : List Cond := [Cond.methodLink RX2 43 yX2_afterBox, Cond.static yX2_afterBox, Cond.code yX2_afterBox cX2_afterBox 1 (some .int), Cond.methodLink RX2 46 yX2_afterAnswer, Cond.static yX2_afterAnswer, Cond.code yX2_afterAnswer cX2_afterAnswer 1 (some .int), Cond.methodLink RX3 41 yX3_needArgument, Cond.static yX3_needArgument, Cond.code yX3_needArgument cX3_needArgument 1 none, Cond.classLink RX3 188 "java/lang/IllegalArgumentException", Cond.initialized "java/lang/IllegalArgumentException", Cond.instanceMethod yX1_save, Cond.initialized RX1, Cond.selects RX1 yX1_save yX1_save, Cond.code yX1_save cX1_save 3 none, Cond.fieldLink RX1 22 "TickForms$History" "next" "I", Cond.fieldLink RX1 18 "TickForms$History" "size" "I", Cond.methodLink RX1 33 Lib.Math.min.name, Cond.static Lib.Math.min.name, Cond.initialized "java/lang/Math", Cond.code Lib.Math.min.name Lib.Math.min.code 2 (some .int), Cond.methodLink RX1 25 yX1_stateAt, Cond.instanceMethod yX1_stateAt, Cond.selects RX1 yX1_stateAt yX1_stateAt]
def wsX3_fill_r3 : List Cond := [Cond.code yX1_stateAt cX1_stateAt 2 (some (.object "TickForms$Form")), Cond.fieldLink RX1 11 "TickForms$History" "states" "[LTickForms$Form;", Cond.instanceMethod yX0_copyFrom, Cond.initialized RX0, Cond.selects RX0 yX0_copyFrom yX0_copyFrom, Cond.code yX0_copyFrom cX0_copyFrom 3 none, Cond.fieldLink RX0 30 "TickForms$Form" "size" "I", Cond.fieldLink RX0 9 "TickForms$Form" "kinds" "[I", Cond.fieldLink RX0 15 "TickForms$Form" "parts" "[I", Cond.fieldLink RX0 18 "TickForms$Form" "settings" "[I", Cond.fieldLink RX0 21 "TickForms$Form" "limits" "[I", Cond.fieldLink RX0 24 "TickForms$Form" "answers" "[I", Cond.static yX3_put, Cond.code yX3_put cX3_put 3 none, Cond.methodLink RX3 108 yX3_giveAnswersOfText, Cond.instanceMethod yX3_giveAnswersOfText, Cond.selects RX3 yX3_giveAnswersOfText yX3_giveAnswersOfText, Cond.code yX3_giveAnswersOfText cX3_giveAnswersOfText 9 (some .int), Cond.instanceMethod yX2_length, Cond.selects RX2 yX2_length yX2_length, Cond.code yX2_length cX2_length 1 (some .int), Cond.instanceMethod yX0_has, Cond.selects RX0 yX0_has yX0_has, Cond.code yX0_has cX0_has 2 (some .boolean)]
def wsX3_fill_r4 : List Cond := [Cond.instanceMethod yX0_fits, Cond.selects RX0 yX0_fits yX0_fits, Cond.code yX0_fits cX0_fits 3 (some .boolean), Cond.methodLink RX0 42 yX0_mostAnswer, Cond.instanceMethod yX0_mostAnswer, Cond.selects RX0 yX0_mostAnswer yX0_mostAnswer, Cond.code yX0_mostAnswer cX0_mostAnswer 2 (some .int), Cond.methodLink RX0 50 yX0_mostWithTeeth, Cond.static yX0_mostWithTeeth, Cond.code yX0_mostWithTeeth cX0_mostWithTeeth 3 (some .int), Cond.instanceMethod yX0_give, Cond.selects RX0 yX0_give yX0_give, Cond.code yX0_give cX0_give 3 none, Cond.instanceMethod yX2_empty, Cond.selects RX2 yX2_empty yX2_empty, Cond.code yX2_empty cX2_empty 1 none]
def wsX3_fill : List Cond := .code yX3_fill cX3_fill 2 (some .int) :: ((wsX3_fill_r1 ++ (wsX3_fill_r2 ++ (wsX3_fill_r3 ++ wsX3_fill_r4))) ++ wsX30 ++ wsX20 ++ wsX10 ++ wsX00 ++ (vx_atS RX3 192 "java/lang/IllegalArgumentException" ["java/lang/RuntimeException", "java/lang/Exception"]).filter goodWord)
def wsX3_undo_r1 : List Cond := [Cond.fieldLink RX3 22 "TickForms" "history" "LTickForms$History;", Cond.fieldLink RX3 10 "TickForms" "form" "LTickForms$Form;", Cond.instanceMethod yX1_size, Cond.initialized RX1, Cond.selects RX1 yX1_size yX1_size, Cond.code yX1_size cX1_size 1 (some .int), Cond.fieldLink RX1 18 "TickForms$History" "size" "I", Cond.methodLink RX3 58 yX3_needState, Cond.static yX3_needState, Cond.initialized RX3, Cond.code yX3_needState cX3_needState 1 none, Cond.classLink RX3 193 "java/lang/IllegalStateException", Cond.initialized "java/lang/IllegalStateException", Cond.instanceMethod yX1_restore, Cond.selects RX1 yX1_restore yX1_restore, Cond.code yX1_restore cX1_restore 3 none, Cond.fieldLink RX1 22 "TickForms$History" "next" "I", Cond.methodLink RX1 25 yX1_stateAt, Cond.instanceMethod yX1_stateAt, Cond.selects RX1 yX1_stateAt yX1_stateAt, Cond.code yX1_stateAt cX1_stateAt 2 (some (.object "TickForms$Form")), Cond.fieldLink RX1 11 "TickForms$History" "states" "[LTickForms$Form;", Cond.instanceMethod yX0_copyFrom, Cond.initialized RX0]
def wsX3_undo_r2 : List Cond := [Cond.selects RX0 yX0_copyFrom yX0_copyFrom, Cond.code yX0_copyFrom cX0_copyFrom 3 none, Cond.fieldLink RX0 30 "TickForms$Form" "size" "I", Cond.fieldLink RX0 9 "TickForms$Form" "kinds" "[I", Cond.fieldLink RX0 15 "TickForms$Form" "parts" "[I", Cond.fieldLink RX0 18 "TickForms$Form" "settings" "[I", Cond.fieldLink RX0 21 "TickForms$Form" "limits" "[I", Cond.fieldLink RX0 24 "TickForms$Form" "answers" "[I", Cond.static yX3_at, Cond.code yX3_at cX3_at 2 (some .int), Cond.static yX3_put, Cond.code yX3_put cX3_put 3 none]
def wsX3_undo : List Cond := .code yX3_undo cX3_undo 1 (some .int) :: ((wsX3_undo_r1 ++ wsX3_undo_r2) ++ wsX30 ++ wsX10 ++ wsX00 ++ (vx_atS RX3 197 "java/lang/IllegalStateException" ["java/lang/RuntimeException", "java/lang/Exception"]).filter goodWord)
def wsX3_ofBox_r1 : List Cond := [Cond.fieldLink RX3 10 "TickForms" "form" "LTickForms$Form;", Cond.instanceMethod yX0_kindOf, Cond.initialized RX0, Cond.selects RX0 yX0_kindOf yX0_kindOf, Cond.code yX0_kindOf cX0_kindOf 2 (some .int), Cond.fieldLink RX0 9 "TickForms$Form" "kinds" "[I", Cond.static yX3_at, Cond.initialized RX3, Cond.code yX3_at cX3_at 2 (some .int), Cond.instanceMethod yX0_partOf, Cond.selects RX0 yX0_partOf yX0_partOf, Cond.code yX0_partOf cX0_partOf 2 (some .int), Cond.fieldLink RX0 15 "TickForms$Form" "parts" "[I", Cond.instanceMethod yX0_settingOf, Cond.selects RX0 yX0_settingOf yX0_settingOf, Cond.code yX0_settingOf cX0_settingOf 2 (some .int), Cond.fieldLink RX0 18 "TickForms$Form" "settings" "[I", Cond.instanceMethod yX0_limitOf, Cond.selects RX0 yX0_limitOf yX0_limitOf, Cond.code yX0_limitOf cX0_limitOf 2 (some .int), Cond.fieldLink RX0 21 "TickForms$Form" "limits" "[I", Cond.instanceMethod yX0_answerOf, Cond.selects RX0 yX0_answerOf yX0_answerOf, Cond.code yX0_answerOf cX0_answerOf 2 (some .int)]
def wsX3_ofBox_r2 : List Cond := [Cond.fieldLink RX0 24 "TickForms$Form" "answers" "[I", Cond.instanceMethod yX0_valueOf, Cond.selects RX0 yX0_valueOf yX0_valueOf, Cond.code yX0_valueOf cX0_valueOf 4 (some .int), Cond.fieldLink RX0 30 "TickForms$Form" "size" "I", Cond.fieldLink RX0 27 "TickForms$Form" "values" "[I", Cond.methodLink RX0 89 yX0_sumOf, Cond.instanceMethod yX0_sumOf, Cond.selects RX0 yX0_sumOf yX0_sumOf, Cond.code yX0_sumOf cX0_sumOf 5 (some .int), Cond.constant RX0 96 (999999), Cond.methodLink RX0 97 Lib.Math.min.name, Cond.static Lib.Math.min.name, Cond.initialized "java/lang/Math", Cond.code Lib.Math.min.name Lib.Math.min.code 2 (some .int), Cond.static yX3_isInMask, Cond.code yX3_isInMask cX3_isInMask 2 (some .boolean), Cond.methodLink RX0 63 yX0_isOpen, Cond.instanceMethod yX0_isOpen, Cond.selects RX0 yX0_isOpen yX0_isOpen, Cond.code yX0_isOpen cX0_isOpen 3 (some .boolean), Cond.methodLink RX0 93 yX0_ownValue, Cond.instanceMethod yX0_ownValue, Cond.selects RX0 yX0_ownValue yX0_ownValue]
def wsX3_ofBox_r3 : List Cond := [Cond.code yX0_ownValue cX0_ownValue 2 (some .int), Cond.methodLink RX0 66 yX0_isEmpty, Cond.instanceMethod yX0_isEmpty, Cond.selects RX0 yX0_isEmpty yX0_isEmpty, Cond.code yX0_isEmpty cX0_isEmpty 2 (some .boolean), Cond.static yX3_put, Cond.code yX3_put cX3_put 3 none, Cond.instanceMethod yX0_wants, Cond.selects RX0 yX0_wants yX0_wants, Cond.code yX0_wants cX0_wants 3 (some .boolean)]
def wsX3_ofBox : List Cond := .code yX3_ofBox cX3_ofBox 4 (some .int) :: ((wsX3_ofBox_r1 ++ (wsX3_ofBox_r2 ++ wsX3_ofBox_r3)) ++ wsX30 ++ wsX00)
def wsX3_box_r1 : List Cond := [Cond.fieldLink RX3 10 "TickForms" "form" "LTickForms$Form;", Cond.methodLink RX3 72 yX3_needBox, Cond.instanceMethod yX3_needBox, Cond.selects RX3 yX3_needBox yX3_needBox, Cond.initialized RX3, Cond.code yX3_needBox cX3_needBox 2 none, Cond.classLink RX3 176 "java/lang/IndexOutOfBoundsException", Cond.initialized "java/lang/IndexOutOfBoundsException", Cond.instanceMethod yX0_has, Cond.initialized RX0, Cond.selects RX0 yX0_has yX0_has, Cond.code yX0_has cX0_has 2 (some .boolean), Cond.fieldLink RX0 30 "TickForms$Form" "size" "I", Cond.methodLink RX3 37 yX3_isWithin, Cond.static yX3_isWithin, Cond.code yX3_isWithin cX3_isWithin 3 (some .boolean), Cond.methodLink RX3 41 yX3_needArgument, Cond.static yX3_needArgument, Cond.code yX3_needArgument cX3_needArgument 1 none, Cond.classLink RX3 188 "java/lang/IllegalArgumentException", Cond.initialized "java/lang/IllegalArgumentException", Cond.instanceMethod yX0_openParts, Cond.selects RX0 yX0_openParts yX0_openParts, Cond.code yX0_openParts cX0_openParts 3 (some .int)]
def wsX3_box_r2 : List Cond := [Cond.methodLink RX0 53 yX0_isTicked, Cond.instanceMethod yX0_isTicked, Cond.selects RX0 yX0_isTicked yX0_isTicked, Cond.code yX0_isTicked cX0_isTicked 5 (some .boolean), Cond.fieldLink RX0 24 "TickForms$Form" "answers" "[I", Cond.methodLink RX0 60 yX0_isFor, Cond.instanceMethod yX0_isFor, Cond.selects RX0 yX0_isFor yX0_isFor, Cond.code yX0_isFor cX0_isFor 4 (some .boolean), Cond.fieldLink RX0 9 "TickForms$Form" "kinds" "[I", Cond.fieldLink RX0 18 "TickForms$Form" "settings" "[I", Cond.static yX3_at, Cond.code yX3_at cX3_at 2 (some .int), Cond.methodLink RX0 63 yX0_isOpen, Cond.instanceMethod yX0_isOpen, Cond.selects RX0 yX0_isOpen yX0_isOpen, Cond.code yX0_isOpen cX0_isOpen 3 (some .boolean), Cond.fieldLink RX0 15 "TickForms$Form" "parts" "[I", Cond.static yX3_isInMask, Cond.code yX3_isInMask cX3_isInMask 2 (some .boolean), Cond.methodLink RX0 57 yX0_isSkipped, Cond.instanceMethod yX0_isSkipped, Cond.selects RX0 yX0_isSkipped yX0_isSkipped, Cond.code yX0_isSkipped cX0_isSkipped 5 (some .boolean)]
def wsX3_box_r3 : List Cond := [Cond.fieldLink RX0 21 "TickForms$Form" "limits" "[I", Cond.methodLink RX0 66 yX0_isEmpty, Cond.instanceMethod yX0_isEmpty, Cond.selects RX0 yX0_isEmpty yX0_isEmpty, Cond.code yX0_isEmpty cX0_isEmpty 2 (some .boolean), Cond.methodLink RX3 115 yX3_ofBox, Cond.instanceMethod yX3_ofBox, Cond.selects RX3 yX3_ofBox yX3_ofBox, Cond.code yX3_ofBox cX3_ofBox 4 (some .int), Cond.instanceMethod yX0_kindOf, Cond.selects RX0 yX0_kindOf yX0_kindOf, Cond.code yX0_kindOf cX0_kindOf 2 (some .int), Cond.instanceMethod yX0_partOf, Cond.selects RX0 yX0_partOf yX0_partOf, Cond.code yX0_partOf cX0_partOf 2 (some .int), Cond.instanceMethod yX0_settingOf, Cond.selects RX0 yX0_settingOf yX0_settingOf, Cond.code yX0_settingOf cX0_settingOf 2 (some .int), Cond.instanceMethod yX0_limitOf, Cond.selects RX0 yX0_limitOf yX0_limitOf, Cond.code yX0_limitOf cX0_limitOf 2 (some .int), Cond.instanceMethod yX0_answerOf, Cond.selects RX0 yX0_answerOf yX0_answerOf, Cond.code yX0_answerOf cX0_answerOf 2 (some .int)]
def wsX3_box_r4 : List Cond := [Cond.instanceMethod yX0_valueOf, Cond.selects RX0 yX0_valueOf yX0_valueOf, Cond.code yX0_valueOf cX0_valueOf 4 (some .int), Cond.fieldLink RX0 27 "TickForms$Form" "values" "[I", Cond.methodLink RX0 89 yX0_sumOf, Cond.instanceMethod yX0_sumOf, Cond.selects RX0 yX0_sumOf yX0_sumOf, Cond.code yX0_sumOf cX0_sumOf 5 (some .int), Cond.constant RX0 96 (999999), Cond.methodLink RX0 97 Lib.Math.min.name, Cond.static Lib.Math.min.name, Cond.initialized "java/lang/Math", Cond.code Lib.Math.min.name Lib.Math.min.code 2 (some .int), Cond.methodLink RX0 93 yX0_ownValue, Cond.instanceMethod yX0_ownValue, Cond.selects RX0 yX0_ownValue yX0_ownValue, Cond.code yX0_ownValue cX0_ownValue 2 (some .int), Cond.static yX3_put, Cond.code yX3_put cX3_put 3 none, Cond.instanceMethod yX0_wants, Cond.selects RX0 yX0_wants yX0_wants, Cond.code yX0_wants cX0_wants 3 (some .boolean)]
def wsX3_box : List Cond := .code yX3_box cX3_box 3 (some .int) :: ((wsX3_box_r1 ++ (wsX3_box_r2 ++ (wsX3_box_r3 ++ wsX3_box_r4))) ++ wsX30 ++ wsX00 ++ (vx_atS RX3 180 "java/lang/IndexOutOfBoundsException" ["java/lang/RuntimeException", "java/lang/Exception"]).filter goodWord ++ (vx_atS RX3 192 "java/lang/IllegalArgumentException" ["java/lang/RuntimeException", "java/lang/Exception"]).filter goodWord)
def wsX3_ofPart_r1 : List Cond := [Cond.fieldLink RX3 10 "TickForms" "form" "LTickForms$Form;", Cond.methodLink RX3 222 yX3_isInMask, Cond.static yX3_isInMask, Cond.initialized RX3, Cond.code yX3_isInMask cX3_isInMask 2 (some .boolean), Cond.instanceMethod yX0_boxesIn, Cond.initialized RX0, Cond.selects RX0 yX0_boxesIn yX0_boxesIn, Cond.code yX0_boxesIn cX0_boxesIn 4 (some .int), Cond.fieldLink RX0 30 "TickForms$Form" "size" "I", Cond.fieldLink RX0 15 "TickForms$Form" "parts" "[I", Cond.static yX3_at, Cond.code yX3_at cX3_at 2 (some .int), Cond.instanceMethod yX0_wantingIn, Cond.selects RX0 yX0_wantingIn yX0_wantingIn, Cond.code yX0_wantingIn cX0_wantingIn 5 (some .int), Cond.methodLink RX0 73 yX0_wants, Cond.instanceMethod yX0_wants, Cond.selects RX0 yX0_wants yX0_wants, Cond.code yX0_wants cX0_wants 3 (some .boolean), Cond.methodLink RX0 63 yX0_isOpen, Cond.instanceMethod yX0_isOpen, Cond.selects RX0 yX0_isOpen yX0_isOpen, Cond.code yX0_isOpen cX0_isOpen 3 (some .boolean)]
def wsX3_ofPart_r2 : List Cond := [Cond.methodLink RX0 66 yX0_isEmpty, Cond.instanceMethod yX0_isEmpty, Cond.selects RX0 yX0_isEmpty yX0_isEmpty, Cond.code yX0_isEmpty cX0_isEmpty 2 (some .boolean), Cond.fieldLink RX0 9 "TickForms$Form" "kinds" "[I", Cond.fieldLink RX0 24 "TickForms$Form" "answers" "[I", Cond.instanceMethod yX0_boxesFor, Cond.selects RX0 yX0_boxesFor yX0_boxesFor, Cond.code yX0_boxesFor cX0_boxesFor 5 (some .int), Cond.methodLink RX0 60 yX0_isFor, Cond.instanceMethod yX0_isFor, Cond.selects RX0 yX0_isFor yX0_isFor, Cond.code yX0_isFor cX0_isFor 4 (some .boolean), Cond.fieldLink RX0 18 "TickForms$Form" "settings" "[I", Cond.instanceMethod yX0_isSkipped, Cond.selects RX0 yX0_isSkipped yX0_isSkipped, Cond.code yX0_isSkipped cX0_isSkipped 5 (some .boolean), Cond.fieldLink RX0 21 "TickForms$Form" "limits" "[I"]
def wsX3_ofPart : List Cond := .code yX3_ofPart cX3_ofPart 4 (some .int) :: ((wsX3_ofPart_r1 ++ wsX3_ofPart_r2) ++ wsX30 ++ wsX00)
def wsX3_part_r1 : List Cond := [Cond.fieldLink RX3 10 "TickForms" "form" "LTickForms$Form;", Cond.methodLink RX3 33 yX3_needPart, Cond.static yX3_needPart, Cond.initialized RX3, Cond.code yX3_needPart cX3_needPart 2 none, Cond.classLink RX3 176 "java/lang/IndexOutOfBoundsException", Cond.initialized "java/lang/IndexOutOfBoundsException", Cond.methodLink RX3 37 yX3_isWithin, Cond.static yX3_isWithin, Cond.code yX3_isWithin cX3_isWithin 3 (some .boolean), Cond.methodLink RX3 41 yX3_needArgument, Cond.static yX3_needArgument, Cond.code yX3_needArgument cX3_needArgument 1 none, Cond.classLink RX3 188 "java/lang/IllegalArgumentException", Cond.initialized "java/lang/IllegalArgumentException", Cond.instanceMethod yX0_openParts, Cond.initialized RX0, Cond.selects RX0 yX0_openParts yX0_openParts, Cond.code yX0_openParts cX0_openParts 3 (some .int), Cond.methodLink RX0 53 yX0_isTicked, Cond.instanceMethod yX0_isTicked, Cond.selects RX0 yX0_isTicked yX0_isTicked, Cond.code yX0_isTicked cX0_isTicked 5 (some .boolean), Cond.fieldLink RX0 30 "TickForms$Form" "size" "I"]
def wsX3_part_r2 : List Cond := [Cond.fieldLink RX0 24 "TickForms$Form" "answers" "[I", Cond.methodLink RX0 60 yX0_isFor, Cond.instanceMethod yX0_isFor, Cond.selects RX0 yX0_isFor yX0_isFor, Cond.code yX0_isFor cX0_isFor 4 (some .boolean), Cond.fieldLink RX0 9 "TickForms$Form" "kinds" "[I", Cond.fieldLink RX0 18 "TickForms$Form" "settings" "[I", Cond.static yX3_at, Cond.code yX3_at cX3_at 2 (some .int), Cond.methodLink RX0 63 yX0_isOpen, Cond.instanceMethod yX0_isOpen, Cond.selects RX0 yX0_isOpen yX0_isOpen, Cond.code yX0_isOpen cX0_isOpen 3 (some .boolean), Cond.fieldLink RX0 15 "TickForms$Form" "parts" "[I", Cond.static yX3_isInMask, Cond.code yX3_isInMask cX3_isInMask 2 (some .boolean), Cond.methodLink RX0 57 yX0_isSkipped, Cond.instanceMethod yX0_isSkipped, Cond.selects RX0 yX0_isSkipped yX0_isSkipped, Cond.code yX0_isSkipped cX0_isSkipped 5 (some .boolean), Cond.fieldLink RX0 21 "TickForms$Form" "limits" "[I", Cond.methodLink RX0 66 yX0_isEmpty, Cond.instanceMethod yX0_isEmpty, Cond.selects RX0 yX0_isEmpty yX0_isEmpty]
def wsX3_part_r3 : List Cond := [Cond.code yX0_isEmpty cX0_isEmpty 2 (some .boolean), Cond.methodLink RX3 119 yX3_ofPart, Cond.instanceMethod yX3_ofPart, Cond.selects RX3 yX3_ofPart yX3_ofPart, Cond.code yX3_ofPart cX3_ofPart 4 (some .int), Cond.methodLink RX3 222 yX3_isInMask, Cond.instanceMethod yX0_boxesIn, Cond.selects RX0 yX0_boxesIn yX0_boxesIn, Cond.code yX0_boxesIn cX0_boxesIn 4 (some .int), Cond.instanceMethod yX0_wantingIn, Cond.selects RX0 yX0_wantingIn yX0_wantingIn, Cond.code yX0_wantingIn cX0_wantingIn 5 (some .int), Cond.methodLink RX0 73 yX0_wants, Cond.instanceMethod yX0_wants, Cond.selects RX0 yX0_wants yX0_wants, Cond.code yX0_wants cX0_wants 3 (some .boolean), Cond.instanceMethod yX0_boxesFor, Cond.selects RX0 yX0_boxesFor yX0_boxesFor, Cond.code yX0_boxesFor cX0_boxesFor 5 (some .int)]
def wsX3_part : List Cond := .code yX3_part cX3_part 3 (some .int) :: ((wsX3_part_r1 ++ (wsX3_part_r2 ++ wsX3_part_r3)) ++ wsX30 ++ wsX00 ++ (vx_atS RX3 180 "java/lang/IndexOutOfBoundsException" ["java/lang/RuntimeException", "java/lang/Exception"]).filter goodWord ++ (vx_atS RX3 192 "java/lang/IllegalArgumentException" ["java/lang/RuntimeException", "java/lang/Exception"]).filter goodWord)
def wsX3_ofForm_r1 : List Cond := [Cond.fieldLink RX3 10 "TickForms" "form" "LTickForms$Form;", Cond.fieldLink RX3 22 "TickForms" "history" "LTickForms$History;", Cond.instanceMethod yX0_size, Cond.initialized RX0, Cond.selects RX0 yX0_size yX0_size, Cond.code yX0_size cX0_size 1 (some .int), Cond.fieldLink RX0 30 "TickForms$Form" "size" "I", Cond.instanceMethod yX0_openBoxes, Cond.selects RX0 yX0_openBoxes yX0_openBoxes, Cond.code yX0_openBoxes cX0_openBoxes 4 (some .int), Cond.methodLink RX0 63 yX0_isOpen, Cond.instanceMethod yX0_isOpen, Cond.selects RX0 yX0_isOpen yX0_isOpen, Cond.code yX0_isOpen cX0_isOpen 3 (some .boolean), Cond.fieldLink RX0 15 "TickForms$Form" "parts" "[I", Cond.static yX3_at, Cond.initialized RX3, Cond.code yX3_at cX3_at 2 (some .int), Cond.static yX3_isInMask, Cond.code yX3_isInMask cX3_isInMask 2 (some .boolean), Cond.instanceMethod yX0_wanting, Cond.selects RX0 yX0_wanting yX0_wanting, Cond.code yX0_wanting cX0_wanting 4 (some .int), Cond.methodLink RX0 73 yX0_wants]
def wsX3_ofForm_r2 : List Cond := [Cond.instanceMethod yX0_wants, Cond.selects RX0 yX0_wants yX0_wants, Cond.code yX0_wants cX0_wants 3 (some .boolean), Cond.methodLink RX0 66 yX0_isEmpty, Cond.instanceMethod yX0_isEmpty, Cond.selects RX0 yX0_isEmpty yX0_isEmpty, Cond.code yX0_isEmpty cX0_isEmpty 2 (some .boolean), Cond.fieldLink RX0 9 "TickForms$Form" "kinds" "[I", Cond.fieldLink RX0 24 "TickForms$Form" "answers" "[I", Cond.instanceMethod yX0_firstWanting, Cond.selects RX0 yX0_firstWanting yX0_firstWanting, Cond.code yX0_firstWanting cX0_firstWanting 3 (some .int), Cond.methodLink RX3 243 yJ6_bitCount_0f7a4, Cond.static yJ6_bitCount_0f7a4, Cond.initialized RJ6, Cond.code yJ6_bitCount_0f7a4 cJ6_bitCount_0f7a4 1 (some .int), Cond.constant RJ6 265 (1431655765), Cond.constant RJ6 266 (858993459), Cond.constant RJ6 267 (252645135), Cond.instanceMethod yX0_answered, Cond.selects RX0 yX0_answered yX0_answered, Cond.code yX0_answered cX0_answered 3 (some .int), Cond.instanceMethod yX1_size, Cond.initialized RX1]
def wsX3_ofForm_r3 : List Cond := [Cond.selects RX1 yX1_size yX1_size, Cond.code yX1_size cX1_size 1 (some .int), Cond.fieldLink RX1 18 "TickForms$History" "size" "I"]
def wsX3_ofForm : List Cond := .code yX3_ofForm cX3_ofForm 3 (some .int) :: ((wsX3_ofForm_r1 ++ (wsX3_ofForm_r2 ++ wsX3_ofForm_r3)) ++ wsX30 ++ wsX00 ++ wsX10)
def wsX3_count_r1 : List Cond := [Cond.fieldLink RX3 10 "TickForms" "form" "LTickForms$Form;", Cond.methodLink RX3 37 yX3_isWithin, Cond.static yX3_isWithin, Cond.initialized RX3, Cond.code yX3_isWithin cX3_isWithin 3 (some .boolean), Cond.methodLink RX3 41 yX3_needArgument, Cond.static yX3_needArgument, Cond.code yX3_needArgument cX3_needArgument 1 none, Cond.classLink RX3 188 "java/lang/IllegalArgumentException", Cond.initialized "java/lang/IllegalArgumentException", Cond.instanceMethod yX0_openParts, Cond.initialized RX0, Cond.selects RX0 yX0_openParts yX0_openParts, Cond.code yX0_openParts cX0_openParts 3 (some .int), Cond.methodLink RX0 53 yX0_isTicked, Cond.instanceMethod yX0_isTicked, Cond.selects RX0 yX0_isTicked yX0_isTicked, Cond.code yX0_isTicked cX0_isTicked 5 (some .boolean), Cond.fieldLink RX0 30 "TickForms$Form" "size" "I", Cond.fieldLink RX0 24 "TickForms$Form" "answers" "[I", Cond.methodLink RX0 60 yX0_isFor, Cond.instanceMethod yX0_isFor, Cond.selects RX0 yX0_isFor yX0_isFor, Cond.code yX0_isFor cX0_isFor 4 (some .boolean)]
def wsX3_count_r2 : List Cond := [Cond.fieldLink RX0 9 "TickForms$Form" "kinds" "[I", Cond.fieldLink RX0 18 "TickForms$Form" "settings" "[I", Cond.static yX3_at, Cond.code yX3_at cX3_at 2 (some .int), Cond.methodLink RX0 63 yX0_isOpen, Cond.instanceMethod yX0_isOpen, Cond.selects RX0 yX0_isOpen yX0_isOpen, Cond.code yX0_isOpen cX0_isOpen 3 (some .boolean), Cond.fieldLink RX0 15 "TickForms$Form" "parts" "[I", Cond.static yX3_isInMask, Cond.code yX3_isInMask cX3_isInMask 2 (some .boolean), Cond.methodLink RX0 57 yX0_isSkipped, Cond.instanceMethod yX0_isSkipped, Cond.selects RX0 yX0_isSkipped yX0_isSkipped, Cond.code yX0_isSkipped cX0_isSkipped 5 (some .boolean), Cond.fieldLink RX0 21 "TickForms$Form" "limits" "[I", Cond.methodLink RX0 66 yX0_isEmpty, Cond.instanceMethod yX0_isEmpty, Cond.selects RX0 yX0_isEmpty yX0_isEmpty, Cond.code yX0_isEmpty cX0_isEmpty 2 (some .boolean), Cond.methodLink RX3 122 yX3_ofForm, Cond.instanceMethod yX3_ofForm, Cond.selects RX3 yX3_ofForm yX3_ofForm, Cond.code yX3_ofForm cX3_ofForm 3 (some .int)]
def wsX3_count_r3 : List Cond := [Cond.fieldLink RX3 22 "TickForms" "history" "LTickForms$History;", Cond.instanceMethod yX0_size, Cond.selects RX0 yX0_size yX0_size, Cond.code yX0_size cX0_size 1 (some .int), Cond.instanceMethod yX0_openBoxes, Cond.selects RX0 yX0_openBoxes yX0_openBoxes, Cond.code yX0_openBoxes cX0_openBoxes 4 (some .int), Cond.instanceMethod yX0_wanting, Cond.selects RX0 yX0_wanting yX0_wanting, Cond.code yX0_wanting cX0_wanting 4 (some .int), Cond.methodLink RX0 73 yX0_wants, Cond.instanceMethod yX0_wants, Cond.selects RX0 yX0_wants yX0_wants, Cond.code yX0_wants cX0_wants 3 (some .boolean), Cond.instanceMethod yX0_firstWanting, Cond.selects RX0 yX0_firstWanting yX0_firstWanting, Cond.code yX0_firstWanting cX0_firstWanting 3 (some .int), Cond.methodLink RX3 243 yJ6_bitCount_0f7a4, Cond.static yJ6_bitCount_0f7a4, Cond.initialized RJ6, Cond.code yJ6_bitCount_0f7a4 cJ6_bitCount_0f7a4 1 (some .int), Cond.constant RJ6 265 (1431655765), Cond.constant RJ6 266 (858993459), Cond.constant RJ6 267 (252645135)]
def wsX3_count_r4 : List Cond := [Cond.instanceMethod yX0_answered, Cond.selects RX0 yX0_answered yX0_answered, Cond.code yX0_answered cX0_answered 3 (some .int), Cond.instanceMethod yX1_size, Cond.initialized RX1, Cond.selects RX1 yX1_size yX1_size, Cond.code yX1_size cX1_size 1 (some .int), Cond.fieldLink RX1 18 "TickForms$History" "size" "I"]
def wsX3_count : List Cond := .code yX3_count cX3_count 2 (some .int) :: ((wsX3_count_r1 ++ (wsX3_count_r2 ++ (wsX3_count_r3 ++ wsX3_count_r4))) ++ wsX30 ++ wsX00 ++ wsX10 ++ (vx_atS RX3 192 "java/lang/IllegalArgumentException" ["java/lang/RuntimeException", "java/lang/Exception"]).filter goodWord)
def wsX3_ofTrial_r1 : List Cond := [Cond.fieldLink RX3 16 "TickForms" "trial" "LTickForms$Form;", Cond.fieldLink RX3 10 "TickForms" "form" "LTickForms$Form;", Cond.instanceMethod yX0_copyFrom, Cond.initialized RX0, Cond.selects RX0 yX0_copyFrom yX0_copyFrom, Cond.code yX0_copyFrom cX0_copyFrom 3 none, Cond.fieldLink RX0 30 "TickForms$Form" "size" "I", Cond.fieldLink RX0 9 "TickForms$Form" "kinds" "[I", Cond.fieldLink RX0 15 "TickForms$Form" "parts" "[I", Cond.fieldLink RX0 18 "TickForms$Form" "settings" "[I", Cond.fieldLink RX0 21 "TickForms$Form" "limits" "[I", Cond.fieldLink RX0 24 "TickForms$Form" "answers" "[I", Cond.static yX3_at, Cond.initialized RX3, Cond.code yX3_at cX3_at 2 (some .int), Cond.static yX3_put, Cond.code yX3_put cX3_put 3 none, Cond.instanceMethod yX0_give, Cond.selects RX0 yX0_give yX0_give, Cond.code yX0_give cX0_give 3 none, Cond.instanceMethod yX0_openParts, Cond.selects RX0 yX0_openParts yX0_openParts, Cond.code yX0_openParts cX0_openParts 3 (some .int), Cond.methodLink RX0 53 yX0_isTicked]
def wsX3_ofTrial_r2 : List Cond := [Cond.instanceMethod yX0_isTicked, Cond.selects RX0 yX0_isTicked yX0_isTicked, Cond.code yX0_isTicked cX0_isTicked 5 (some .boolean), Cond.methodLink RX0 60 yX0_isFor, Cond.instanceMethod yX0_isFor, Cond.selects RX0 yX0_isFor yX0_isFor, Cond.code yX0_isFor cX0_isFor 4 (some .boolean), Cond.methodLink RX0 63 yX0_isOpen, Cond.instanceMethod yX0_isOpen, Cond.selects RX0 yX0_isOpen yX0_isOpen, Cond.code yX0_isOpen cX0_isOpen 3 (some .boolean), Cond.static yX3_isInMask, Cond.code yX3_isInMask cX3_isInMask 2 (some .boolean), Cond.methodLink RX0 57 yX0_isSkipped, Cond.instanceMethod yX0_isSkipped, Cond.selects RX0 yX0_isSkipped yX0_isSkipped, Cond.code yX0_isSkipped cX0_isSkipped 5 (some .boolean), Cond.methodLink RX0 66 yX0_isEmpty, Cond.instanceMethod yX0_isEmpty, Cond.selects RX0 yX0_isEmpty yX0_isEmpty, Cond.code yX0_isEmpty cX0_isEmpty 2 (some .boolean), Cond.instanceMethod yX0_wanting, Cond.selects RX0 yX0_wanting yX0_wanting, Cond.code yX0_wanting cX0_wanting 4 (some .int)]
def wsX3_ofTrial_r3 : List Cond := [Cond.methodLink RX0 73 yX0_wants, Cond.instanceMethod yX0_wants, Cond.selects RX0 yX0_wants yX0_wants, Cond.code yX0_wants cX0_wants 3 (some .boolean), Cond.instanceMethod yX0_lastTotal, Cond.selects RX0 yX0_lastTotal yX0_lastTotal, Cond.code yX0_lastTotal cX0_lastTotal 2 (some .int), Cond.instanceMethod yX0_valueOf, Cond.selects RX0 yX0_valueOf yX0_valueOf, Cond.code yX0_valueOf cX0_valueOf 4 (some .int), Cond.fieldLink RX0 27 "TickForms$Form" "values" "[I", Cond.methodLink RX0 89 yX0_sumOf, Cond.instanceMethod yX0_sumOf, Cond.selects RX0 yX0_sumOf yX0_sumOf, Cond.code yX0_sumOf cX0_sumOf 5 (some .int), Cond.constant RX0 96 (999999), Cond.methodLink RX0 97 Lib.Math.min.name, Cond.static Lib.Math.min.name, Cond.initialized "java/lang/Math", Cond.code Lib.Math.min.name Lib.Math.min.code 2 (some .int), Cond.methodLink RX0 93 yX0_ownValue, Cond.instanceMethod yX0_ownValue, Cond.selects RX0 yX0_ownValue yX0_ownValue, Cond.code yX0_ownValue cX0_ownValue 2 (some .int)]
def wsX3_ofTrial : List Cond := .code yX3_ofTrial cX3_ofTrial 5 (some .int) :: ((wsX3_ofTrial_r1 ++ (wsX3_ofTrial_r2 ++ wsX3_ofTrial_r3)) ++ wsX30 ++ wsX00)
def wsX3_ifAnswered_r1 : List Cond := [Cond.fieldLink RX3 10 "TickForms" "form" "LTickForms$Form;", Cond.methodLink RX3 72 yX3_needBox, Cond.instanceMethod yX3_needBox, Cond.selects RX3 yX3_needBox yX3_needBox, Cond.initialized RX3, Cond.code yX3_needBox cX3_needBox 2 none, Cond.classLink RX3 176 "java/lang/IndexOutOfBoundsException", Cond.initialized "java/lang/IndexOutOfBoundsException", Cond.instanceMethod yX0_has, Cond.initialized RX0, Cond.selects RX0 yX0_has yX0_has, Cond.code yX0_has cX0_has 2 (some .boolean), Cond.fieldLink RX0 30 "TickForms$Form" "size" "I", Cond.instanceMethod yX0_fits, Cond.selects RX0 yX0_fits yX0_fits, Cond.code yX0_fits cX0_fits 3 (some .boolean), Cond.methodLink RX0 42 yX0_mostAnswer, Cond.instanceMethod yX0_mostAnswer, Cond.selects RX0 yX0_mostAnswer yX0_mostAnswer, Cond.code yX0_mostAnswer cX0_mostAnswer 2 (some .int), Cond.fieldLink RX0 9 "TickForms$Form" "kinds" "[I", Cond.fieldLink RX0 18 "TickForms$Form" "settings" "[I", Cond.static yX3_at, Cond.code yX3_at cX3_at 2 (some .int)]
def wsX3_ifAnswered_r2 : List Cond := [Cond.methodLink RX0 50 yX0_mostWithTeeth, Cond.static yX0_mostWithTeeth, Cond.code yX0_mostWithTeeth cX0_mostWithTeeth 3 (some .int), Cond.static yX3_isWithin, Cond.code yX3_isWithin cX3_isWithin 3 (some .boolean), Cond.methodLink RX3 37 yX3_isWithin, Cond.methodLink RX3 41 yX3_needArgument, Cond.static yX3_needArgument, Cond.code yX3_needArgument cX3_needArgument 1 none, Cond.classLink RX3 188 "java/lang/IllegalArgumentException", Cond.initialized "java/lang/IllegalArgumentException", Cond.methodLink RX3 126 yX3_ofTrial, Cond.instanceMethod yX3_ofTrial, Cond.selects RX3 yX3_ofTrial yX3_ofTrial, Cond.code yX3_ofTrial cX3_ofTrial 5 (some .int), Cond.fieldLink RX3 16 "TickForms" "trial" "LTickForms$Form;", Cond.instanceMethod yX0_copyFrom, Cond.selects RX0 yX0_copyFrom yX0_copyFrom, Cond.code yX0_copyFrom cX0_copyFrom 3 none, Cond.fieldLink RX0 15 "TickForms$Form" "parts" "[I", Cond.fieldLink RX0 21 "TickForms$Form" "limits" "[I", Cond.fieldLink RX0 24 "TickForms$Form" "answers" "[I", Cond.static yX3_put, Cond.code yX3_put cX3_put 3 none]
def wsX3_ifAnswered_r3 : List Cond := [Cond.instanceMethod yX0_give, Cond.selects RX0 yX0_give yX0_give, Cond.code yX0_give cX0_give 3 none, Cond.instanceMethod yX0_openParts, Cond.selects RX0 yX0_openParts yX0_openParts, Cond.code yX0_openParts cX0_openParts 3 (some .int), Cond.methodLink RX0 53 yX0_isTicked, Cond.instanceMethod yX0_isTicked, Cond.selects RX0 yX0_isTicked yX0_isTicked, Cond.code yX0_isTicked cX0_isTicked 5 (some .boolean), Cond.methodLink RX0 60 yX0_isFor, Cond.instanceMethod yX0_isFor, Cond.selects RX0 yX0_isFor yX0_isFor, Cond.code yX0_isFor cX0_isFor 4 (some .boolean), Cond.methodLink RX0 63 yX0_isOpen, Cond.instanceMethod yX0_isOpen, Cond.selects RX0 yX0_isOpen yX0_isOpen, Cond.code yX0_isOpen cX0_isOpen 3 (some .boolean), Cond.static yX3_isInMask, Cond.code yX3_isInMask cX3_isInMask 2 (some .boolean), Cond.methodLink RX0 57 yX0_isSkipped, Cond.instanceMethod yX0_isSkipped, Cond.selects RX0 yX0_isSkipped yX0_isSkipped, Cond.code yX0_isSkipped cX0_isSkipped 5 (some .boolean)]
def wsX3_ifAnswered_r4 : List Cond := [Cond.methodLink RX0 66 yX0_isEmpty, Cond.instanceMethod yX0_isEmpty, Cond.selects RX0 yX0_isEmpty yX0_isEmpty, Cond.code yX0_isEmpty cX0_isEmpty 2 (some .boolean), Cond.instanceMethod yX0_wanting, Cond.selects RX0 yX0_wanting yX0_wanting, Cond.code yX0_wanting cX0_wanting 4 (some .int), Cond.methodLink RX0 73 yX0_wants, Cond.instanceMethod yX0_wants, Cond.selects RX0 yX0_wants yX0_wants, Cond.code yX0_wants cX0_wants 3 (some .boolean), Cond.instanceMethod yX0_lastTotal, Cond.selects RX0 yX0_lastTotal yX0_lastTotal, Cond.code yX0_lastTotal cX0_lastTotal 2 (some .int), Cond.instanceMethod yX0_valueOf, Cond.selects RX0 yX0_valueOf yX0_valueOf, Cond.code yX0_valueOf cX0_valueOf 4 (some .int), Cond.fieldLink RX0 27 "TickForms$Form" "values" "[I", Cond.methodLink RX0 89 yX0_sumOf, Cond.instanceMethod yX0_sumOf, Cond.selects RX0 yX0_sumOf yX0_sumOf, Cond.code yX0_sumOf cX0_sumOf 5 (some .int), Cond.constant RX0 96 (999999), Cond.methodLink RX0 97 Lib.Math.min.name]
def wsX3_ifAnswered_r5 : List Cond := [Cond.static Lib.Math.min.name, Cond.initialized "java/lang/Math", Cond.code Lib.Math.min.name Lib.Math.min.code 2 (some .int), Cond.methodLink RX0 93 yX0_ownValue, Cond.instanceMethod yX0_ownValue, Cond.selects RX0 yX0_ownValue yX0_ownValue, Cond.code yX0_ownValue cX0_ownValue 2 (some .int)]
def wsX3_ifAnswered : List Cond := .code yX3_ifAnswered cX3_ifAnswered 4 (some .int) :: ((wsX3_ifAnswered_r1 ++ (wsX3_ifAnswered_r2 ++ (wsX3_ifAnswered_r3 ++ (wsX3_ifAnswered_r4 ++ wsX3_ifAnswered_r5)))) ++ wsX30 ++ wsX00 ++ (vx_atS RX3 180 "java/lang/IndexOutOfBoundsException" ["java/lang/RuntimeException", "java/lang/Exception"]).filter goodWord ++ (vx_atS RX3 192 "java/lang/IllegalArgumentException" ["java/lang/RuntimeException", "java/lang/Exception"]).filter goodWord)
def wsX3_shortest_r1 : List Cond := [Cond.fieldLink RX3 10 "TickForms" "form" "LTickForms$Form;", Cond.methodLink RX3 132 Lib.Math.min.name, Cond.static Lib.Math.min.name, Cond.initialized "java/lang/Math", Cond.code Lib.Math.min.name Lib.Math.min.code 2 (some .int), Cond.instanceMethod yX0_canComeTo, Cond.initialized RX0, Cond.selects RX0 yX0_canComeTo yX0_canComeTo, Cond.code yX0_canComeTo cX0_canComeTo 4 (some .boolean), Cond.static yX3_isInMask, Cond.initialized RX3, Cond.code yX3_isInMask cX3_isInMask 2 (some .boolean), Cond.methodLink RX0 76 yX0_canOpen, Cond.instanceMethod yX0_canOpen, Cond.selects RX0 yX0_canOpen yX0_canOpen, Cond.code yX0_canOpen cX0_canOpen 4 (some .boolean), Cond.methodLink RX0 53 yX0_isTicked, Cond.instanceMethod yX0_isTicked, Cond.selects RX0 yX0_isTicked yX0_isTicked, Cond.code yX0_isTicked cX0_isTicked 5 (some .boolean), Cond.fieldLink RX0 30 "TickForms$Form" "size" "I", Cond.fieldLink RX0 24 "TickForms$Form" "answers" "[I", Cond.methodLink RX0 60 yX0_isFor, Cond.instanceMethod yX0_isFor]
def wsX3_shortest_r2 : List Cond := [Cond.selects RX0 yX0_isFor yX0_isFor, Cond.code yX0_isFor cX0_isFor 4 (some .boolean), Cond.fieldLink RX0 9 "TickForms$Form" "kinds" "[I", Cond.fieldLink RX0 18 "TickForms$Form" "settings" "[I", Cond.static yX3_at, Cond.code yX3_at cX3_at 2 (some .int), Cond.methodLink RX0 63 yX0_isOpen, Cond.instanceMethod yX0_isOpen, Cond.selects RX0 yX0_isOpen yX0_isOpen, Cond.code yX0_isOpen cX0_isOpen 3 (some .boolean), Cond.fieldLink RX0 15 "TickForms$Form" "parts" "[I", Cond.methodLink RX0 82 yX0_hasWanting, Cond.instanceMethod yX0_hasWanting, Cond.selects RX0 yX0_hasWanting yX0_hasWanting, Cond.code yX0_hasWanting cX0_hasWanting 7 (some .boolean), Cond.fieldLink RX0 21 "TickForms$Form" "limits" "[I", Cond.methodLink RX0 66 yX0_isEmpty, Cond.instanceMethod yX0_isEmpty, Cond.selects RX0 yX0_isEmpty yX0_isEmpty, Cond.code yX0_isEmpty cX0_isEmpty 2 (some .boolean), Cond.methodLink RX0 57 yX0_isSkipped, Cond.instanceMethod yX0_isSkipped, Cond.selects RX0 yX0_isSkipped yX0_isSkipped, Cond.code yX0_isSkipped cX0_isSkipped 5 (some .boolean)]
def wsX3_shortest_r3 : List Cond := [Cond.methodLink RX0 79 yX0_canClose, Cond.instanceMethod yX0_canClose, Cond.selects RX0 yX0_canClose yX0_canClose, Cond.code yX0_canClose cX0_canClose 3 (some .boolean), Cond.instanceMethod yX0_wanting, Cond.selects RX0 yX0_wanting yX0_wanting, Cond.code yX0_wanting cX0_wanting 4 (some .int), Cond.methodLink RX0 73 yX0_wants, Cond.instanceMethod yX0_wants, Cond.selects RX0 yX0_wants yX0_wants, Cond.code yX0_wants cX0_wants 3 (some .boolean)]
def wsX3_shortest : List Cond := .code yX3_shortest cX3_shortest 3 (some .int) :: ((wsX3_shortest_r1 ++ (wsX3_shortest_r2 ++ wsX3_shortest_r3)) ++ wsX30 ++ wsX00)
def wsX3_mostCarried : List Cond := .code yX3_mostCarried cX3_mostCarried 6 (some .int) :: ([.fieldLink RX3 10 "TickForms" "form" "LTickForms$Form;", .instanceMethod yX0_size, .initialized RX0, .selects RX0 yX0_size yX0_size, .code yX0_size cX0_size 1 (some .int), .fieldLink RX0 30 "TickForms$Form" "size" "I", .instanceMethod yX0_totalsOver, .selects RX0 yX0_totalsOver yX0_totalsOver, .code yX0_totalsOver cX0_totalsOver 6 (some .int), .fieldLink RX0 18 "TickForms$Form" "settings" "[I", .fieldLink RX0 9 "TickForms$Form" "kinds" "[I", .static yX3_at, .initialized RX3, .code yX3_at cX3_at 2 (some .int), .static yX3_isInMask, .code yX3_isInMask cX3_isInMask 2 (some .boolean), .methodLink RX0 102 yJ6_bitCount_0f7a4, .static yJ6_bitCount_0f7a4, .initialized RJ6, .code yJ6_bitCount_0f7a4 cJ6_bitCount_0f7a4 1 (some .int), .constant RJ6 265 (1431655765), .constant RJ6 266 (858993459), .constant RJ6 267 (252645135)] ++ wsX30 ++ wsX00)
def wsX3_filled_r1 : List Cond := [Cond.fieldLink RX3 10 "TickForms" "form" "LTickForms$Form;", Cond.instanceMethod yX0_openParts, Cond.initialized RX0, Cond.selects RX0 yX0_openParts yX0_openParts, Cond.code yX0_openParts cX0_openParts 3 (some .int), Cond.methodLink RX0 53 yX0_isTicked, Cond.instanceMethod yX0_isTicked, Cond.selects RX0 yX0_isTicked yX0_isTicked, Cond.code yX0_isTicked cX0_isTicked 5 (some .boolean), Cond.fieldLink RX0 30 "TickForms$Form" "size" "I", Cond.fieldLink RX0 24 "TickForms$Form" "answers" "[I", Cond.methodLink RX0 60 yX0_isFor, Cond.instanceMethod yX0_isFor, Cond.selects RX0 yX0_isFor yX0_isFor, Cond.code yX0_isFor cX0_isFor 4 (some .boolean), Cond.fieldLink RX0 9 "TickForms$Form" "kinds" "[I", Cond.fieldLink RX0 18 "TickForms$Form" "settings" "[I", Cond.static yX3_at, Cond.initialized RX3, Cond.code yX3_at cX3_at 2 (some .int), Cond.methodLink RX0 63 yX0_isOpen, Cond.instanceMethod yX0_isOpen, Cond.selects RX0 yX0_isOpen yX0_isOpen, Cond.code yX0_isOpen cX0_isOpen 3 (some .boolean)]
def wsX3_filled_r2 : List Cond := [Cond.fieldLink RX0 15 "TickForms$Form" "parts" "[I", Cond.static yX3_isInMask, Cond.code yX3_isInMask cX3_isInMask 2 (some .boolean), Cond.methodLink RX0 57 yX0_isSkipped, Cond.instanceMethod yX0_isSkipped, Cond.selects RX0 yX0_isSkipped yX0_isSkipped, Cond.code yX0_isSkipped cX0_isSkipped 5 (some .boolean), Cond.fieldLink RX0 21 "TickForms$Form" "limits" "[I", Cond.methodLink RX0 66 yX0_isEmpty, Cond.instanceMethod yX0_isEmpty, Cond.selects RX0 yX0_isEmpty yX0_isEmpty, Cond.code yX0_isEmpty cX0_isEmpty 2 (some .boolean), Cond.instanceMethod yX0_openToAnswer, Cond.selects RX0 yX0_openToAnswer yX0_openToAnswer, Cond.code yX0_openToAnswer cX0_openToAnswer 4 (some .int), Cond.instanceMethod yX0_wanting, Cond.selects RX0 yX0_wanting yX0_wanting, Cond.code yX0_wanting cX0_wanting 4 (some .int), Cond.methodLink RX0 73 yX0_wants, Cond.instanceMethod yX0_wants, Cond.selects RX0 yX0_wants yX0_wants, Cond.code yX0_wants cX0_wants 3 (some .boolean)]
def wsX3_filled : List Cond := .code yX3_filled cX3_filled 3 (some .double) :: ((wsX3_filled_r1 ++ wsX3_filled_r2) ++ wsX30 ++ wsX00)
def wsX3_mix : List Cond := .code yX3_mix cX3_mix 4 (some .long) :: ([.constantLong RX3 254 (31)])
def wsX3_hashCounts_r1 : List Cond := [Cond.methodLink RX3 122 yX3_ofForm, Cond.instanceMethod yX3_ofForm, Cond.selects RX3 yX3_ofForm yX3_ofForm, Cond.initialized RX3, Cond.code yX3_ofForm cX3_ofForm 3 (some .int), Cond.fieldLink RX3 10 "TickForms" "form" "LTickForms$Form;", Cond.fieldLink RX3 22 "TickForms" "history" "LTickForms$History;", Cond.instanceMethod yX0_size, Cond.initialized RX0, Cond.selects RX0 yX0_size yX0_size, Cond.code yX0_size cX0_size 1 (some .int), Cond.fieldLink RX0 30 "TickForms$Form" "size" "I", Cond.instanceMethod yX0_openBoxes, Cond.selects RX0 yX0_openBoxes yX0_openBoxes, Cond.code yX0_openBoxes cX0_openBoxes 4 (some .int), Cond.methodLink RX0 63 yX0_isOpen, Cond.instanceMethod yX0_isOpen, Cond.selects RX0 yX0_isOpen yX0_isOpen, Cond.code yX0_isOpen cX0_isOpen 3 (some .boolean), Cond.fieldLink RX0 15 "TickForms$Form" "parts" "[I", Cond.static yX3_at, Cond.code yX3_at cX3_at 2 (some .int), Cond.static yX3_isInMask, Cond.code yX3_isInMask cX3_isInMask 2 (some .boolean)]
def wsX3_hashCounts_r2 : List Cond := [Cond.instanceMethod yX0_wanting, Cond.selects RX0 yX0_wanting yX0_wanting, Cond.code yX0_wanting cX0_wanting 4 (some .int), Cond.methodLink RX0 73 yX0_wants, Cond.instanceMethod yX0_wants, Cond.selects RX0 yX0_wants yX0_wants, Cond.code yX0_wants cX0_wants 3 (some .boolean), Cond.methodLink RX0 66 yX0_isEmpty, Cond.instanceMethod yX0_isEmpty, Cond.selects RX0 yX0_isEmpty yX0_isEmpty, Cond.code yX0_isEmpty cX0_isEmpty 2 (some .boolean), Cond.fieldLink RX0 9 "TickForms$Form" "kinds" "[I", Cond.fieldLink RX0 24 "TickForms$Form" "answers" "[I", Cond.instanceMethod yX0_firstWanting, Cond.selects RX0 yX0_firstWanting yX0_firstWanting, Cond.code yX0_firstWanting cX0_firstWanting 3 (some .int), Cond.methodLink RX3 243 yJ6_bitCount_0f7a4, Cond.static yJ6_bitCount_0f7a4, Cond.initialized RJ6, Cond.code yJ6_bitCount_0f7a4 cJ6_bitCount_0f7a4 1 (some .int), Cond.constant RJ6 265 (1431655765), Cond.constant RJ6 266 (858993459), Cond.constant RJ6 267 (252645135), Cond.instanceMethod yX0_answered]
def wsX3_hashCounts_r3 : List Cond := [Cond.selects RX0 yX0_answered yX0_answered, Cond.code yX0_answered cX0_answered 3 (some .int), Cond.instanceMethod yX1_size, Cond.initialized RX1, Cond.selects RX1 yX1_size yX1_size, Cond.code yX1_size cX1_size 1 (some .int), Cond.fieldLink RX1 18 "TickForms$History" "size" "I", Cond.methodLink RX3 158 yX3_mix, Cond.static yX3_mix, Cond.code yX3_mix cX3_mix 4 (some .long), Cond.constantLong RX3 254 (31)]
def wsX3_hashCounts : List Cond := .code yX3_hashCounts cX3_hashCounts 7 (some .long) :: ((wsX3_hashCounts_r1 ++ (wsX3_hashCounts_r2 ++ wsX3_hashCounts_r3)) ++ wsX30 ++ wsX00 ++ wsX10)
def wsX3_hashBoxes_r1 : List Cond := [Cond.fieldLink RX3 10 "TickForms" "form" "LTickForms$Form;", Cond.instanceMethod yX0_size, Cond.initialized RX0, Cond.selects RX0 yX0_size yX0_size, Cond.code yX0_size cX0_size 1 (some .int), Cond.fieldLink RX0 30 "TickForms$Form" "size" "I", Cond.methodLink RX3 115 yX3_ofBox, Cond.instanceMethod yX3_ofBox, Cond.selects RX3 yX3_ofBox yX3_ofBox, Cond.initialized RX3, Cond.code yX3_ofBox cX3_ofBox 4 (some .int), Cond.instanceMethod yX0_kindOf, Cond.selects RX0 yX0_kindOf yX0_kindOf, Cond.code yX0_kindOf cX0_kindOf 2 (some .int), Cond.fieldLink RX0 9 "TickForms$Form" "kinds" "[I", Cond.static yX3_at, Cond.code yX3_at cX3_at 2 (some .int), Cond.instanceMethod yX0_partOf, Cond.selects RX0 yX0_partOf yX0_partOf, Cond.code yX0_partOf cX0_partOf 2 (some .int), Cond.fieldLink RX0 15 "TickForms$Form" "parts" "[I", Cond.instanceMethod yX0_settingOf, Cond.selects RX0 yX0_settingOf yX0_settingOf, Cond.code yX0_settingOf cX0_settingOf 2 (some .int)]
def wsX3_hashBoxes_r2 : List Cond := [Cond.fieldLink RX0 18 "TickForms$Form" "settings" "[I", Cond.instanceMethod yX0_limitOf, Cond.selects RX0 yX0_limitOf yX0_limitOf, Cond.code yX0_limitOf cX0_limitOf 2 (some .int), Cond.fieldLink RX0 21 "TickForms$Form" "limits" "[I", Cond.instanceMethod yX0_answerOf, Cond.selects RX0 yX0_answerOf yX0_answerOf, Cond.code yX0_answerOf cX0_answerOf 2 (some .int), Cond.fieldLink RX0 24 "TickForms$Form" "answers" "[I", Cond.instanceMethod yX0_valueOf, Cond.selects RX0 yX0_valueOf yX0_valueOf, Cond.code yX0_valueOf cX0_valueOf 4 (some .int), Cond.fieldLink RX0 27 "TickForms$Form" "values" "[I", Cond.methodLink RX0 89 yX0_sumOf, Cond.instanceMethod yX0_sumOf, Cond.selects RX0 yX0_sumOf yX0_sumOf, Cond.code yX0_sumOf cX0_sumOf 5 (some .int), Cond.constant RX0 96 (999999), Cond.methodLink RX0 97 Lib.Math.min.name, Cond.static Lib.Math.min.name, Cond.initialized "java/lang/Math", Cond.code Lib.Math.min.name Lib.Math.min.code 2 (some .int), Cond.static yX3_isInMask, Cond.code yX3_isInMask cX3_isInMask 2 (some .boolean)]
def wsX3_hashBoxes_r3 : List Cond := [Cond.methodLink RX0 63 yX0_isOpen, Cond.instanceMethod yX0_isOpen, Cond.selects RX0 yX0_isOpen yX0_isOpen, Cond.code yX0_isOpen cX0_isOpen 3 (some .boolean), Cond.methodLink RX0 93 yX0_ownValue, Cond.instanceMethod yX0_ownValue, Cond.selects RX0 yX0_ownValue yX0_ownValue, Cond.code yX0_ownValue cX0_ownValue 2 (some .int), Cond.methodLink RX0 66 yX0_isEmpty, Cond.instanceMethod yX0_isEmpty, Cond.selects RX0 yX0_isEmpty yX0_isEmpty, Cond.code yX0_isEmpty cX0_isEmpty 2 (some .boolean), Cond.static yX3_put, Cond.code yX3_put cX3_put 3 none, Cond.instanceMethod yX0_wants, Cond.selects RX0 yX0_wants yX0_wants, Cond.code yX0_wants cX0_wants 3 (some .boolean), Cond.methodLink RX3 158 yX3_mix, Cond.static yX3_mix, Cond.code yX3_mix cX3_mix 4 (some .long), Cond.constantLong RX3 254 (31), Cond.methodLink RX3 126 yX3_ofTrial, Cond.instanceMethod yX3_ofTrial, Cond.selects RX3 yX3_ofTrial yX3_ofTrial]
def wsX3_hashBoxes_r4 : List Cond := [Cond.code yX3_ofTrial cX3_ofTrial 5 (some .int), Cond.fieldLink RX3 16 "TickForms" "trial" "LTickForms$Form;", Cond.instanceMethod yX0_copyFrom, Cond.selects RX0 yX0_copyFrom yX0_copyFrom, Cond.code yX0_copyFrom cX0_copyFrom 3 none, Cond.instanceMethod yX0_give, Cond.selects RX0 yX0_give yX0_give, Cond.code yX0_give cX0_give 3 none, Cond.instanceMethod yX0_openParts, Cond.selects RX0 yX0_openParts yX0_openParts, Cond.code yX0_openParts cX0_openParts 3 (some .int), Cond.methodLink RX0 53 yX0_isTicked, Cond.instanceMethod yX0_isTicked, Cond.selects RX0 yX0_isTicked yX0_isTicked, Cond.code yX0_isTicked cX0_isTicked 5 (some .boolean), Cond.methodLink RX0 60 yX0_isFor, Cond.instanceMethod yX0_isFor, Cond.selects RX0 yX0_isFor yX0_isFor, Cond.code yX0_isFor cX0_isFor 4 (some .boolean), Cond.methodLink RX0 57 yX0_isSkipped, Cond.instanceMethod yX0_isSkipped, Cond.selects RX0 yX0_isSkipped yX0_isSkipped, Cond.code yX0_isSkipped cX0_isSkipped 5 (some .boolean), Cond.instanceMethod yX0_wanting]
def wsX3_hashBoxes_r5 : List Cond := [Cond.selects RX0 yX0_wanting yX0_wanting, Cond.code yX0_wanting cX0_wanting 4 (some .int), Cond.methodLink RX0 73 yX0_wants, Cond.instanceMethod yX0_lastTotal, Cond.selects RX0 yX0_lastTotal yX0_lastTotal, Cond.code yX0_lastTotal cX0_lastTotal 2 (some .int)]
def wsX3_hashBoxes : List Cond := .code yX3_hashBoxes cX3_hashBoxes 9 (some .long) :: ((wsX3_hashBoxes_r1 ++ (wsX3_hashBoxes_r2 ++ (wsX3_hashBoxes_r3 ++ (wsX3_hashBoxes_r4 ++ wsX3_hashBoxes_r5)))) ++ wsX30 ++ wsX00)
def wsX3_hashParts_r1 : List Cond := [Cond.methodLink RX3 119 yX3_ofPart, Cond.instanceMethod yX3_ofPart, Cond.selects RX3 yX3_ofPart yX3_ofPart, Cond.initialized RX3, Cond.code yX3_ofPart cX3_ofPart 4 (some .int), Cond.fieldLink RX3 10 "TickForms" "form" "LTickForms$Form;", Cond.methodLink RX3 222 yX3_isInMask, Cond.static yX3_isInMask, Cond.code yX3_isInMask cX3_isInMask 2 (some .boolean), Cond.instanceMethod yX0_boxesIn, Cond.initialized RX0, Cond.selects RX0 yX0_boxesIn yX0_boxesIn, Cond.code yX0_boxesIn cX0_boxesIn 4 (some .int), Cond.fieldLink RX0 30 "TickForms$Form" "size" "I", Cond.fieldLink RX0 15 "TickForms$Form" "parts" "[I", Cond.static yX3_at, Cond.code yX3_at cX3_at 2 (some .int), Cond.instanceMethod yX0_wantingIn, Cond.selects RX0 yX0_wantingIn yX0_wantingIn, Cond.code yX0_wantingIn cX0_wantingIn 5 (some .int), Cond.methodLink RX0 73 yX0_wants, Cond.instanceMethod yX0_wants, Cond.selects RX0 yX0_wants yX0_wants, Cond.code yX0_wants cX0_wants 3 (some .boolean)]
def wsX3_hashParts_r2 : List Cond := [Cond.methodLink RX0 63 yX0_isOpen, Cond.instanceMethod yX0_isOpen, Cond.selects RX0 yX0_isOpen yX0_isOpen, Cond.code yX0_isOpen cX0_isOpen 3 (some .boolean), Cond.methodLink RX0 66 yX0_isEmpty, Cond.instanceMethod yX0_isEmpty, Cond.selects RX0 yX0_isEmpty yX0_isEmpty, Cond.code yX0_isEmpty cX0_isEmpty 2 (some .boolean), Cond.fieldLink RX0 9 "TickForms$Form" "kinds" "[I", Cond.fieldLink RX0 24 "TickForms$Form" "answers" "[I", Cond.instanceMethod yX0_boxesFor, Cond.selects RX0 yX0_boxesFor yX0_boxesFor, Cond.code yX0_boxesFor cX0_boxesFor 5 (some .int), Cond.methodLink RX0 60 yX0_isFor, Cond.instanceMethod yX0_isFor, Cond.selects RX0 yX0_isFor yX0_isFor, Cond.code yX0_isFor cX0_isFor 4 (some .boolean), Cond.fieldLink RX0 18 "TickForms$Form" "settings" "[I", Cond.instanceMethod yX0_isSkipped, Cond.selects RX0 yX0_isSkipped yX0_isSkipped, Cond.code yX0_isSkipped cX0_isSkipped 5 (some .boolean), Cond.fieldLink RX0 21 "TickForms$Form" "limits" "[I", Cond.methodLink RX3 158 yX3_mix, Cond.static yX3_mix]
def wsX3_hashParts_r3 : List Cond := [Cond.code yX3_mix cX3_mix 4 (some .long), Cond.constantLong RX3 254 (31)]
def wsX3_hashParts : List Cond := .code yX3_hashParts cX3_hashParts 8 (some .long) :: ((wsX3_hashParts_r1 ++ (wsX3_hashParts_r2 ++ wsX3_hashParts_r3)) ++ wsX30 ++ wsX00)
def wsX3_bitsOfShare : List Cond := .code yX3_bitsOfShare cX3_bitsOfShare 9 (some .long) :: ([.constantDouble RX3 256 (4611686018427387904), .constantLong RX3 258 (4503599627370496)])
def wsX3_digest_r1 : List Cond := [Cond.fieldLink RX3 10 "TickForms" "form" "LTickForms$Form;", Cond.constantLong RX3 143 (3389), Cond.fieldLink RX3 29 "TickForms" "text" "LTickForms$Text;", Cond.instanceMethod yX0_openParts, Cond.initialized RX0, Cond.selects RX0 yX0_openParts yX0_openParts, Cond.code yX0_openParts cX0_openParts 3 (some .int), Cond.methodLink RX0 53 yX0_isTicked, Cond.instanceMethod yX0_isTicked, Cond.selects RX0 yX0_isTicked yX0_isTicked, Cond.code yX0_isTicked cX0_isTicked 5 (some .boolean), Cond.fieldLink RX0 30 "TickForms$Form" "size" "I", Cond.fieldLink RX0 24 "TickForms$Form" "answers" "[I", Cond.methodLink RX0 60 yX0_isFor, Cond.instanceMethod yX0_isFor, Cond.selects RX0 yX0_isFor yX0_isFor, Cond.code yX0_isFor cX0_isFor 4 (some .boolean), Cond.fieldLink RX0 9 "TickForms$Form" "kinds" "[I", Cond.fieldLink RX0 18 "TickForms$Form" "settings" "[I", Cond.static yX3_at, Cond.initialized RX3, Cond.code yX3_at cX3_at 2 (some .int), Cond.methodLink RX0 63 yX0_isOpen, Cond.instanceMethod yX0_isOpen]
def wsX3_digest_r2 : List Cond := [Cond.selects RX0 yX0_isOpen yX0_isOpen, Cond.code yX0_isOpen cX0_isOpen 3 (some .boolean), Cond.fieldLink RX0 15 "TickForms$Form" "parts" "[I", Cond.static yX3_isInMask, Cond.code yX3_isInMask cX3_isInMask 2 (some .boolean), Cond.methodLink RX0 57 yX0_isSkipped, Cond.instanceMethod yX0_isSkipped, Cond.selects RX0 yX0_isSkipped yX0_isSkipped, Cond.code yX0_isSkipped cX0_isSkipped 5 (some .boolean), Cond.fieldLink RX0 21 "TickForms$Form" "limits" "[I", Cond.methodLink RX0 66 yX0_isEmpty, Cond.instanceMethod yX0_isEmpty, Cond.selects RX0 yX0_isEmpty yX0_isEmpty, Cond.code yX0_isEmpty cX0_isEmpty 2 (some .boolean), Cond.methodLink RX3 145 yX3_hashCounts, Cond.instanceMethod yX3_hashCounts, Cond.selects RX3 yX3_hashCounts yX3_hashCounts, Cond.code yX3_hashCounts cX3_hashCounts 7 (some .long), Cond.methodLink RX3 122 yX3_ofForm, Cond.instanceMethod yX3_ofForm, Cond.selects RX3 yX3_ofForm yX3_ofForm, Cond.code yX3_ofForm cX3_ofForm 3 (some .int), Cond.fieldLink RX3 22 "TickForms" "history" "LTickForms$History;", Cond.instanceMethod yX0_size]
def wsX3_digest_r3 : List Cond := [Cond.selects RX0 yX0_size yX0_size, Cond.code yX0_size cX0_size 1 (some .int), Cond.instanceMethod yX0_openBoxes, Cond.selects RX0 yX0_openBoxes yX0_openBoxes, Cond.code yX0_openBoxes cX0_openBoxes 4 (some .int), Cond.instanceMethod yX0_wanting, Cond.selects RX0 yX0_wanting yX0_wanting, Cond.code yX0_wanting cX0_wanting 4 (some .int), Cond.methodLink RX0 73 yX0_wants, Cond.instanceMethod yX0_wants, Cond.selects RX0 yX0_wants yX0_wants, Cond.code yX0_wants cX0_wants 3 (some .boolean), Cond.instanceMethod yX0_firstWanting, Cond.selects RX0 yX0_firstWanting yX0_firstWanting, Cond.code yX0_firstWanting cX0_firstWanting 3 (some .int), Cond.methodLink RX3 243 yJ6_bitCount_0f7a4, Cond.static yJ6_bitCount_0f7a4, Cond.initialized RJ6, Cond.code yJ6_bitCount_0f7a4 cJ6_bitCount_0f7a4 1 (some .int), Cond.constant RJ6 265 (1431655765), Cond.constant RJ6 266 (858993459), Cond.constant RJ6 267 (252645135), Cond.instanceMethod yX0_answered, Cond.selects RX0 yX0_answered yX0_answered]
def wsX3_digest_r4 : List Cond := [Cond.code yX0_answered cX0_answered 3 (some .int), Cond.instanceMethod yX1_size, Cond.initialized RX1, Cond.selects RX1 yX1_size yX1_size, Cond.code yX1_size cX1_size 1 (some .int), Cond.fieldLink RX1 18 "TickForms$History" "size" "I", Cond.methodLink RX3 158 yX3_mix, Cond.static yX3_mix, Cond.code yX3_mix cX3_mix 4 (some .long), Cond.constantLong RX3 254 (31), Cond.methodLink RX3 149 yX3_hashBoxes, Cond.instanceMethod yX3_hashBoxes, Cond.selects RX3 yX3_hashBoxes yX3_hashBoxes, Cond.code yX3_hashBoxes cX3_hashBoxes 9 (some .long), Cond.methodLink RX3 115 yX3_ofBox, Cond.instanceMethod yX3_ofBox, Cond.selects RX3 yX3_ofBox yX3_ofBox, Cond.code yX3_ofBox cX3_ofBox 4 (some .int), Cond.instanceMethod yX0_kindOf, Cond.selects RX0 yX0_kindOf yX0_kindOf, Cond.code yX0_kindOf cX0_kindOf 2 (some .int), Cond.instanceMethod yX0_partOf, Cond.selects RX0 yX0_partOf yX0_partOf, Cond.code yX0_partOf cX0_partOf 2 (some .int)]
def wsX3_digest_r5 : List Cond := [Cond.instanceMethod yX0_settingOf, Cond.selects RX0 yX0_settingOf yX0_settingOf, Cond.code yX0_settingOf cX0_settingOf 2 (some .int), Cond.instanceMethod yX0_limitOf, Cond.selects RX0 yX0_limitOf yX0_limitOf, Cond.code yX0_limitOf cX0_limitOf 2 (some .int), Cond.instanceMethod yX0_answerOf, Cond.selects RX0 yX0_answerOf yX0_answerOf, Cond.code yX0_answerOf cX0_answerOf 2 (some .int), Cond.instanceMethod yX0_valueOf, Cond.selects RX0 yX0_valueOf yX0_valueOf, Cond.code yX0_valueOf cX0_valueOf 4 (some .int), Cond.fieldLink RX0 27 "TickForms$Form" "values" "[I", Cond.methodLink RX0 89 yX0_sumOf, Cond.instanceMethod yX0_sumOf, Cond.selects RX0 yX0_sumOf yX0_sumOf, Cond.code yX0_sumOf cX0_sumOf 5 (some .int), Cond.constant RX0 96 (999999), Cond.methodLink RX0 97 Lib.Math.min.name, Cond.static Lib.Math.min.name, Cond.initialized "java/lang/Math", Cond.code Lib.Math.min.name Lib.Math.min.code 2 (some .int), Cond.methodLink RX0 93 yX0_ownValue, Cond.instanceMethod yX0_ownValue]
def wsX3_digest_r6 : List Cond := [Cond.selects RX0 yX0_ownValue yX0_ownValue, Cond.code yX0_ownValue cX0_ownValue 2 (some .int), Cond.static yX3_put, Cond.code yX3_put cX3_put 3 none, Cond.methodLink RX3 126 yX3_ofTrial, Cond.instanceMethod yX3_ofTrial, Cond.selects RX3 yX3_ofTrial yX3_ofTrial, Cond.code yX3_ofTrial cX3_ofTrial 5 (some .int), Cond.fieldLink RX3 16 "TickForms" "trial" "LTickForms$Form;", Cond.instanceMethod yX0_copyFrom, Cond.selects RX0 yX0_copyFrom yX0_copyFrom, Cond.code yX0_copyFrom cX0_copyFrom 3 none, Cond.instanceMethod yX0_give, Cond.selects RX0 yX0_give yX0_give, Cond.code yX0_give cX0_give 3 none, Cond.instanceMethod yX0_lastTotal, Cond.selects RX0 yX0_lastTotal yX0_lastTotal, Cond.code yX0_lastTotal cX0_lastTotal 2 (some .int), Cond.methodLink RX3 152 yX3_hashParts, Cond.instanceMethod yX3_hashParts, Cond.selects RX3 yX3_hashParts yX3_hashParts, Cond.code yX3_hashParts cX3_hashParts 8 (some .long), Cond.methodLink RX3 119 yX3_ofPart, Cond.instanceMethod yX3_ofPart]
def wsX3_digest_r7 : List Cond := [Cond.selects RX3 yX3_ofPart yX3_ofPart, Cond.code yX3_ofPart cX3_ofPart 4 (some .int), Cond.methodLink RX3 222 yX3_isInMask, Cond.instanceMethod yX0_boxesIn, Cond.selects RX0 yX0_boxesIn yX0_boxesIn, Cond.code yX0_boxesIn cX0_boxesIn 4 (some .int), Cond.instanceMethod yX0_wantingIn, Cond.selects RX0 yX0_wantingIn yX0_wantingIn, Cond.code yX0_wantingIn cX0_wantingIn 5 (some .int), Cond.instanceMethod yX0_boxesFor, Cond.selects RX0 yX0_boxesFor yX0_boxesFor, Cond.code yX0_boxesFor cX0_boxesFor 5 (some .int), Cond.methodLink RX3 155 yX3_shortest, Cond.instanceMethod yX3_shortest, Cond.selects RX3 yX3_shortest yX3_shortest, Cond.code yX3_shortest cX3_shortest 3 (some .int), Cond.methodLink RX3 132 Lib.Math.min.name, Cond.instanceMethod yX0_canComeTo, Cond.selects RX0 yX0_canComeTo yX0_canComeTo, Cond.code yX0_canComeTo cX0_canComeTo 4 (some .boolean), Cond.methodLink RX0 76 yX0_canOpen, Cond.instanceMethod yX0_canOpen, Cond.selects RX0 yX0_canOpen yX0_canOpen, Cond.code yX0_canOpen cX0_canOpen 4 (some .boolean)]
def wsX3_digest_r8 : List Cond := [Cond.methodLink RX0 82 yX0_hasWanting, Cond.instanceMethod yX0_hasWanting, Cond.selects RX0 yX0_hasWanting yX0_hasWanting, Cond.code yX0_hasWanting cX0_hasWanting 7 (some .boolean), Cond.methodLink RX0 79 yX0_canClose, Cond.instanceMethod yX0_canClose, Cond.selects RX0 yX0_canClose yX0_canClose, Cond.code yX0_canClose cX0_canClose 3 (some .boolean), Cond.methodLink RX3 162 yX3_mostCarried, Cond.instanceMethod yX3_mostCarried, Cond.selects RX3 yX3_mostCarried yX3_mostCarried, Cond.code yX3_mostCarried cX3_mostCarried 6 (some .int), Cond.instanceMethod yX0_totalsOver, Cond.selects RX0 yX0_totalsOver yX0_totalsOver, Cond.code yX0_totalsOver cX0_totalsOver 6 (some .int), Cond.methodLink RX0 102 yJ6_bitCount_0f7a4, Cond.methodLink RX3 165 yX3_filled, Cond.instanceMethod yX3_filled, Cond.selects RX3 yX3_filled yX3_filled, Cond.code yX3_filled cX3_filled 3 (some .double), Cond.instanceMethod yX0_openToAnswer, Cond.selects RX0 yX0_openToAnswer yX0_openToAnswer, Cond.code yX0_openToAnswer cX0_openToAnswer 4 (some .int), Cond.methodLink RX3 169 yX3_bitsOfShare]
def wsX3_digest_r9 : List Cond := [Cond.static yX3_bitsOfShare, Cond.code yX3_bitsOfShare cX3_bitsOfShare 9 (some .long), Cond.constantDouble RX3 256 (4611686018427387904), Cond.constantLong RX3 258 (4503599627370496), Cond.instanceMethod yX2_length, Cond.initialized RX2, Cond.selects RX2 yX2_length yX2_length, Cond.code yX2_length cX2_length 1 (some .int), Cond.fieldLink RX2 15 "TickForms$Text" "length" "I", Cond.instanceMethod yX2_codeAt, Cond.selects RX2 yX2_codeAt yX2_codeAt, Cond.code yX2_codeAt cX2_codeAt 2 (some .int), Cond.fieldLink RX2 9 "TickForms$Text" "codes" "[I"]
def wsX3_digest : List Cond := .code yX3_digest cX3_digest 6 (some .long) :: ((wsX3_digest_r1 ++ (wsX3_digest_r2 ++ (wsX3_digest_r3 ++ (wsX3_digest_r4 ++ (wsX3_digest_r5 ++ (wsX3_digest_r6 ++ (wsX3_digest_r7 ++ (wsX3_digest_r8 ++ wsX3_digest_r9)))))))) ++ wsX30 ++ wsX00 ++ wsX10 ++ wsX20)
def wsX4_init : List Cond := .code yX4_init cX4_init 1 none :: ([.methodLink RX4 1 objectInit, .instanceMethod objectInit, .code objectInit ⟨#[0xb1]⟩ 1 none, .arrayClass .int, .fieldLink RX4 7 "TickFormsModel" "z" "[I", .fieldLink RX4 13 "TickFormsModel" "saved" "[I", .fieldLink RX4 16 "TickFormsModel" "buffer" "[I", .fieldLink RX4 19 "TickFormsModel" "values" "[I", .fieldLink RX4 22 "TickFormsModel" "read" "[I", .fieldLink RX4 25 "TickFormsModel" "choices" "[I", .arrayClass .boolean, .fieldLink RX4 28 "TickFormsModel" "wasEmpty" "[Z"] ++ wsX40)
def wsX4_thrown : List Cond := .code yX4_thrown cX4_thrown 1 (some .int) :: ([.fieldLink RX4 32 "TickFormsModel" "thrown" "I"] ++ wsX40)
def wsX4_in : List Cond := .code yX4_in cX4_in 3 (some .boolean) :: ([])
def wsX4_isPart : List Cond := .code yX4_isPart cX4_isPart 1 (some .boolean) :: ([.methodLink RX4 36 yX4_in, .static yX4_in, .initialized RX4, .code yX4_in cX4_in 3 (some .boolean)])
def wsX4_isBox : List Cond := .code yX4_isBox cX4_isBox 2 (some .boolean) :: ([.fieldLink RX4 7 "TickFormsModel" "z" "[I"] ++ wsX40)
def wsX4_of : List Cond := .code yX4_of cX4_of 3 (some .int) :: ([.fieldLink RX4 7 "TickFormsModel" "z" "[I"] ++ wsX40)
def wsX4_lay : List Cond := .code yX4_lay cX4_lay 4 none :: ([.fieldLink RX4 7 "TickFormsModel" "z" "[I"] ++ wsX40)
def wsX4_save : List Cond := .code yX4_save cX4_save 2 none :: ([.fieldLink RX4 40 "TickFormsModel" "savedMany" "I", .fieldLink RX4 13 "TickFormsModel" "saved" "[I", .fieldLink RX4 7 "TickFormsModel" "z" "[I"] ++ wsX40)
def wsX4_undo : List Cond := .code yX4_undo cX4_undo 2 (some .int) :: ([.fieldLink RX4 40 "TickFormsModel" "savedMany" "I", .fieldLink RX4 32 "TickFormsModel" "thrown" "I", .fieldLink RX4 7 "TickFormsModel" "z" "[I", .fieldLink RX4 13 "TickFormsModel" "saved" "[I"] ++ wsX40)
def wsX4_isTold : List Cond := .code yX4_isTold cX4_isTold 3 (some .boolean) :: ([.methodLink RX4 43 yX4_of, .instanceMethod yX4_of, .selects RX4 yX4_of yX4_of, .initialized RX4, .code yX4_of cX4_of 3 (some .int), .fieldLink RX4 7 "TickFormsModel" "z" "[I"] ++ wsX40)
def wsX4_closesNow : List Cond := .code yX4_closesNow cX4_closesNow 2 (some .boolean) :: ([.methodLink RX4 43 yX4_of, .instanceMethod yX4_of, .selects RX4 yX4_of yX4_of, .initialized RX4, .code yX4_of cX4_of 3 (some .int), .fieldLink RX4 7 "TickFormsModel" "z" "[I"] ++ wsX40)
def wsX4_isClosed : List Cond := .code yX4_isClosed cX4_isClosed 5 (some .boolean) :: ([.fieldLink RX4 7 "TickFormsModel" "z" "[I", .methodLink RX4 47 yX4_closesNow, .instanceMethod yX4_closesNow, .selects RX4 yX4_closesNow yX4_closesNow, .initialized RX4, .code yX4_closesNow cX4_closesNow 2 (some .boolean), .methodLink RX4 43 yX4_of, .instanceMethod yX4_of, .selects RX4 yX4_of yX4_of, .code yX4_of cX4_of 3 (some .int), .methodLink RX4 51 yX4_isTold, .instanceMethod yX4_isTold, .selects RX4 yX4_isTold yX4_isTold, .code yX4_isTold cX4_isTold 3 (some .boolean)] ++ wsX40)
def wsX4_isOpened : List Cond := .code yX4_isOpened cX4_isOpened 6 (some .boolean) :: ([.fieldLink RX4 7 "TickFormsModel" "z" "[I", .methodLink RX4 43 yX4_of, .instanceMethod yX4_of, .selects RX4 yX4_of yX4_of, .initialized RX4, .code yX4_of cX4_of 3 (some .int), .methodLink RX4 51 yX4_isTold, .instanceMethod yX4_isTold, .selects RX4 yX4_isTold yX4_isTold, .code yX4_isTold cX4_isTold 3 (some .boolean)] ++ wsX40)
def wsX4_open : List Cond := .code yX4_open cX4_open 3 (some .int) :: ([.methodLink RX4 55 yX4_isOpened, .instanceMethod yX4_isOpened, .selects RX4 yX4_isOpened yX4_isOpened, .initialized RX4, .code yX4_isOpened cX4_isOpened 6 (some .boolean), .fieldLink RX4 7 "TickFormsModel" "z" "[I", .methodLink RX4 43 yX4_of, .instanceMethod yX4_of, .selects RX4 yX4_of yX4_of, .code yX4_of cX4_of 3 (some .int), .methodLink RX4 51 yX4_isTold, .instanceMethod yX4_isTold, .selects RX4 yX4_isTold yX4_isTold, .code yX4_isTold cX4_isTold 3 (some .boolean), .methodLink RX4 58 yX4_isClosed, .instanceMethod yX4_isClosed, .selects RX4 yX4_isClosed yX4_isClosed, .code yX4_isClosed cX4_isClosed 5 (some .boolean), .methodLink RX4 47 yX4_closesNow, .instanceMethod yX4_closesNow, .selects RX4 yX4_closesNow yX4_closesNow, .code yX4_closesNow cX4_closesNow 2 (some .boolean)] ++ wsX40)
def wsX4_wants : List Cond := .code yX4_wants cX4_wants 3 (some .boolean) :: ([.methodLink RX4 43 yX4_of, .instanceMethod yX4_of, .selects RX4 yX4_of yX4_of, .initialized RX4, .code yX4_of cX4_of 3 (some .int), .fieldLink RX4 7 "TickFormsModel" "z" "[I", .methodLink RX4 51 yX4_isTold, .instanceMethod yX4_isTold, .selects RX4 yX4_isTold yX4_isTold, .code yX4_isTold cX4_isTold 3 (some .boolean)] ++ wsX40)
def wsX4_wanting : List Cond := .code yX4_wanting cX4_wanting 4 (some .int) :: ([.fieldLink RX4 7 "TickFormsModel" "z" "[I", .methodLink RX4 61 yX4_wants, .instanceMethod yX4_wants, .selects RX4 yX4_wants yX4_wants, .initialized RX4, .code yX4_wants cX4_wants 3 (some .boolean), .methodLink RX4 43 yX4_of, .instanceMethod yX4_of, .selects RX4 yX4_of yX4_of, .code yX4_of cX4_of 3 (some .int), .methodLink RX4 51 yX4_isTold, .instanceMethod yX4_isTold, .selects RX4 yX4_isTold yX4_isTold, .code yX4_isTold cX4_isTold 3 (some .boolean)] ++ wsX40)
def wsX4_firstWanting : List Cond := .code yX4_firstWanting cX4_firstWanting 4 (some .int) :: ([.fieldLink RX4 7 "TickFormsModel" "z" "[I", .methodLink RX4 61 yX4_wants, .instanceMethod yX4_wants, .selects RX4 yX4_wants yX4_wants, .initialized RX4, .code yX4_wants cX4_wants 3 (some .boolean), .methodLink RX4 43 yX4_of, .instanceMethod yX4_of, .selects RX4 yX4_of yX4_of, .code yX4_of cX4_of 3 (some .int), .methodLink RX4 51 yX4_isTold, .instanceMethod yX4_isTold, .selects RX4 yX4_isTold yX4_isTold, .code yX4_isTold cX4_isTold 3 (some .boolean)] ++ wsX40)
def wsX4_reckon : List Cond := .code yX4_reckon cX4_reckon 5 none :: ([.fieldLink RX4 7 "TickFormsModel" "z" "[I", .fieldLink RX4 19 "TickFormsModel" "values" "[I", .constant RX4 64 (999999), .methodLink RX4 43 yX4_of, .instanceMethod yX4_of, .selects RX4 yX4_of yX4_of, .initialized RX4, .code yX4_of cX4_of 3 (some .int), .methodLink RX4 51 yX4_isTold, .instanceMethod yX4_isTold, .selects RX4 yX4_isTold yX4_isTold, .code yX4_isTold cX4_isTold 3 (some .boolean)] ++ wsX40)
def wsX4_add : List Cond := .code yX4_add cX4_add 6 (some .int) :: ([.fieldLink RX4 7 "TickFormsModel" "z" "[I", .methodLink RX4 65 yX4_save, .instanceMethod yX4_save, .selects RX4 yX4_save yX4_save, .initialized RX4, .code yX4_save cX4_save 2 none, .fieldLink RX4 40 "TickFormsModel" "savedMany" "I", .fieldLink RX4 13 "TickFormsModel" "saved" "[I", .methodLink RX4 68 yX4_lay, .instanceMethod yX4_lay, .selects RX4 yX4_lay yX4_lay, .code yX4_lay cX4_lay 4 none] ++ wsX40)
def wsX4_comb : List Cond := .code yX4_comb cX4_comb 3 (some .int) :: ([.fieldLink RX4 7 "TickFormsModel" "z" "[I", .fieldLink RX4 32 "TickFormsModel" "thrown" "I", .methodLink RX4 72 yX4_isPart, .static yX4_isPart, .initialized RX4, .code yX4_isPart cX4_isPart 1 (some .boolean), .methodLink RX4 36 yX4_in, .static yX4_in, .code yX4_in cX4_in 3 (some .boolean), .methodLink RX4 75 yX4_add, .instanceMethod yX4_add, .selects RX4 yX4_add yX4_add, .code yX4_add cX4_add 6 (some .int), .methodLink RX4 65 yX4_save, .instanceMethod yX4_save, .selects RX4 yX4_save yX4_save, .code yX4_save cX4_save 2 none, .fieldLink RX4 40 "TickFormsModel" "savedMany" "I", .fieldLink RX4 13 "TickFormsModel" "saved" "[I", .methodLink RX4 68 yX4_lay, .instanceMethod yX4_lay, .selects RX4 yX4_lay yX4_lay, .code yX4_lay cX4_lay 4 none] ++ wsX40)
def wsX4_tick : List Cond := .code yX4_tick cX4_tick 3 (some .int) :: ([.fieldLink RX4 7 "TickFormsModel" "z" "[I", .fieldLink RX4 32 "TickFormsModel" "thrown" "I", .methodLink RX4 72 yX4_isPart, .static yX4_isPart, .initialized RX4, .code yX4_isPart cX4_isPart 1 (some .boolean), .methodLink RX4 36 yX4_in, .static yX4_in, .code yX4_in cX4_in 3 (some .boolean), .methodLink RX4 75 yX4_add, .instanceMethod yX4_add, .selects RX4 yX4_add yX4_add, .code yX4_add cX4_add 6 (some .int), .methodLink RX4 65 yX4_save, .instanceMethod yX4_save, .selects RX4 yX4_save yX4_save, .code yX4_save cX4_save 2 none, .fieldLink RX4 40 "TickFormsModel" "savedMany" "I", .fieldLink RX4 13 "TickFormsModel" "saved" "[I", .methodLink RX4 68 yX4_lay, .instanceMethod yX4_lay, .selects RX4 yX4_lay yX4_lay, .code yX4_lay cX4_lay 4 none] ++ wsX40)
def wsX4_skip : List Cond := .code yX4_skip cX4_skip 4 (some .int) :: ([.fieldLink RX4 7 "TickFormsModel" "z" "[I", .fieldLink RX4 32 "TickFormsModel" "thrown" "I", .methodLink RX4 36 yX4_in, .static yX4_in, .initialized RX4, .code yX4_in cX4_in 3 (some .boolean), .methodLink RX4 75 yX4_add, .instanceMethod yX4_add, .selects RX4 yX4_add yX4_add, .code yX4_add cX4_add 6 (some .int), .methodLink RX4 65 yX4_save, .instanceMethod yX4_save, .selects RX4 yX4_save yX4_save, .code yX4_save cX4_save 2 none, .fieldLink RX4 40 "TickFormsModel" "savedMany" "I", .fieldLink RX4 13 "TickFormsModel" "saved" "[I", .methodLink RX4 68 yX4_lay, .instanceMethod yX4_lay, .selects RX4 yX4_lay yX4_lay, .code yX4_lay cX4_lay 4 none] ++ wsX40)
def wsX4_isMask : List Cond := .code yX4_isMask cX4_isMask 4 (some .boolean) :: ([.constant RX4 79 (65535), .methodLink RX4 36 yX4_in, .static yX4_in, .initialized RX4, .code yX4_in cX4_in 3 (some .boolean), .methodLink RX4 80 yX4_isBox, .instanceMethod yX4_isBox, .selects RX4 yX4_isBox yX4_isBox, .code yX4_isBox cX4_isBox 2 (some .boolean), .fieldLink RX4 7 "TickFormsModel" "z" "[I", .methodLink RX4 43 yX4_of, .instanceMethod yX4_of, .selects RX4 yX4_of yX4_of, .code yX4_of cX4_of 3 (some .int)] ++ wsX40)
def wsX4_total_r1 : List Cond := [Cond.fieldLink RX4 7 "TickFormsModel" "z" "[I", Cond.fieldLink RX4 32 "TickFormsModel" "thrown" "I", Cond.methodLink RX4 72 yX4_isPart, Cond.static yX4_isPart, Cond.initialized RX4, Cond.code yX4_isPart cX4_isPart 1 (some .boolean), Cond.methodLink RX4 36 yX4_in, Cond.static yX4_in, Cond.code yX4_in cX4_in 3 (some .boolean), Cond.methodLink RX4 83 yX4_isMask, Cond.instanceMethod yX4_isMask, Cond.selects RX4 yX4_isMask yX4_isMask, Cond.code yX4_isMask cX4_isMask 4 (some .boolean), Cond.constant RX4 79 (65535), Cond.methodLink RX4 80 yX4_isBox, Cond.instanceMethod yX4_isBox, Cond.selects RX4 yX4_isBox yX4_isBox, Cond.code yX4_isBox cX4_isBox 2 (some .boolean), Cond.methodLink RX4 43 yX4_of, Cond.instanceMethod yX4_of, Cond.selects RX4 yX4_of yX4_of, Cond.code yX4_of cX4_of 3 (some .int), Cond.methodLink RX4 75 yX4_add, Cond.instanceMethod yX4_add]
def wsX4_total_r2 : List Cond := [Cond.selects RX4 yX4_add yX4_add, Cond.code yX4_add cX4_add 6 (some .int), Cond.methodLink RX4 65 yX4_save, Cond.instanceMethod yX4_save, Cond.selects RX4 yX4_save yX4_save, Cond.code yX4_save cX4_save 2 none, Cond.fieldLink RX4 40 "TickFormsModel" "savedMany" "I", Cond.fieldLink RX4 13 "TickFormsModel" "saved" "[I", Cond.methodLink RX4 68 yX4_lay, Cond.instanceMethod yX4_lay, Cond.selects RX4 yX4_lay yX4_lay, Cond.code yX4_lay cX4_lay 4 none]
def wsX4_total : List Cond := .code yX4_total cX4_total 3 (some .int) :: ((wsX4_total_r1 ++ wsX4_total_r2) ++ wsX40)
def wsX4_drop : List Cond := .code yX4_drop cX4_drop 1 (some .int) :: ([.fieldLink RX4 7 "TickFormsModel" "z" "[I", .fieldLink RX4 32 "TickFormsModel" "thrown" "I", .methodLink RX4 65 yX4_save, .instanceMethod yX4_save, .selects RX4 yX4_save yX4_save, .initialized RX4, .code yX4_save cX4_save 2 none, .fieldLink RX4 40 "TickFormsModel" "savedMany" "I", .fieldLink RX4 13 "TickFormsModel" "saved" "[I", .methodLink RX4 43 yX4_of, .instanceMethod yX4_of, .selects RX4 yX4_of yX4_of, .code yX4_of cX4_of 3 (some .int)] ++ wsX40)
def wsX4_power : List Cond := .code yX4_power cX4_power 3 (some .int) :: ([])
def wsX4_canHave : List Cond := .code yX4_canHave cX4_canHave 3 (some .boolean) :: ([.methodLink RX4 43 yX4_of, .instanceMethod yX4_of, .selects RX4 yX4_of yX4_of, .initialized RX4, .code yX4_of cX4_of 3 (some .int), .fieldLink RX4 7 "TickFormsModel" "z" "[I", .methodLink RX4 86 yX4_power, .static yX4_power, .code yX4_power cX4_power 3 (some .int), .methodLink RX4 36 yX4_in, .static yX4_in, .code yX4_in cX4_in 3 (some .boolean)] ++ wsX40)
def wsX4_answer_r1 : List Cond := [Cond.fieldLink RX4 32 "TickFormsModel" "thrown" "I", Cond.methodLink RX4 80 yX4_isBox, Cond.instanceMethod yX4_isBox, Cond.selects RX4 yX4_isBox yX4_isBox, Cond.initialized RX4, Cond.code yX4_isBox cX4_isBox 2 (some .boolean), Cond.fieldLink RX4 7 "TickFormsModel" "z" "[I", Cond.methodLink RX4 90 yX4_canHave, Cond.instanceMethod yX4_canHave, Cond.selects RX4 yX4_canHave yX4_canHave, Cond.code yX4_canHave cX4_canHave 3 (some .boolean), Cond.methodLink RX4 43 yX4_of, Cond.instanceMethod yX4_of, Cond.selects RX4 yX4_of yX4_of, Cond.code yX4_of cX4_of 3 (some .int), Cond.methodLink RX4 86 yX4_power, Cond.static yX4_power, Cond.code yX4_power cX4_power 3 (some .int), Cond.methodLink RX4 36 yX4_in, Cond.static yX4_in, Cond.code yX4_in cX4_in 3 (some .boolean), Cond.methodLink RX4 65 yX4_save, Cond.instanceMethod yX4_save, Cond.selects RX4 yX4_save yX4_save]
def wsX4_answer_r2 : List Cond := [Cond.code yX4_save cX4_save 2 none, Cond.fieldLink RX4 40 "TickFormsModel" "savedMany" "I", Cond.fieldLink RX4 13 "TickFormsModel" "saved" "[I", Cond.methodLink RX4 68 yX4_lay, Cond.instanceMethod yX4_lay, Cond.selects RX4 yX4_lay yX4_lay, Cond.code yX4_lay cX4_lay 4 none, Cond.methodLink RX4 93 yX4_open, Cond.instanceMethod yX4_open, Cond.selects RX4 yX4_open yX4_open, Cond.code yX4_open cX4_open 3 (some .int), Cond.methodLink RX4 55 yX4_isOpened, Cond.instanceMethod yX4_isOpened, Cond.selects RX4 yX4_isOpened yX4_isOpened, Cond.code yX4_isOpened cX4_isOpened 6 (some .boolean), Cond.methodLink RX4 51 yX4_isTold, Cond.instanceMethod yX4_isTold, Cond.selects RX4 yX4_isTold yX4_isTold, Cond.code yX4_isTold cX4_isTold 3 (some .boolean), Cond.methodLink RX4 58 yX4_isClosed, Cond.instanceMethod yX4_isClosed, Cond.selects RX4 yX4_isClosed yX4_isClosed, Cond.code yX4_isClosed cX4_isClosed 5 (some .boolean), Cond.methodLink RX4 47 yX4_closesNow]
def wsX4_answer_r3 : List Cond := [Cond.instanceMethod yX4_closesNow, Cond.selects RX4 yX4_closesNow yX4_closesNow, Cond.code yX4_closesNow cX4_closesNow 2 (some .boolean), Cond.methodLink RX4 97 yX4_wanting, Cond.instanceMethod yX4_wanting, Cond.selects RX4 yX4_wanting yX4_wanting, Cond.code yX4_wanting cX4_wanting 4 (some .int), Cond.methodLink RX4 61 yX4_wants, Cond.instanceMethod yX4_wants, Cond.selects RX4 yX4_wants yX4_wants, Cond.code yX4_wants cX4_wants 3 (some .boolean)]
def wsX4_answer : List Cond := .code yX4_answer cX4_answer 3 (some .int) :: ((wsX4_answer_r1 ++ (wsX4_answer_r2 ++ wsX4_answer_r3)) ++ wsX40)
def wsX4_answered : List Cond := .code yX4_answered cX4_answered 3 (some .int) :: ([.fieldLink RX4 7 "TickFormsModel" "z" "[I", .methodLink RX4 43 yX4_of, .instanceMethod yX4_of, .selects RX4 yX4_of yX4_of, .initialized RX4, .code yX4_of cX4_of 3 (some .int)] ++ wsX40)
def wsX4_clear : List Cond := .code yX4_clear cX4_clear 3 (some .int) :: ([.fieldLink RX4 32 "TickFormsModel" "thrown" "I", .fieldLink RX4 7 "TickFormsModel" "z" "[I", .methodLink RX4 65 yX4_save, .instanceMethod yX4_save, .selects RX4 yX4_save yX4_save, .initialized RX4, .code yX4_save cX4_save 2 none, .fieldLink RX4 40 "TickFormsModel" "savedMany" "I", .fieldLink RX4 13 "TickFormsModel" "saved" "[I", .methodLink RX4 100 yX4_answered, .instanceMethod yX4_answered, .selects RX4 yX4_answered yX4_answered, .code yX4_answered cX4_answered 3 (some .int), .methodLink RX4 43 yX4_of, .instanceMethod yX4_of, .selects RX4 yX4_of yX4_of, .code yX4_of cX4_of 3 (some .int), .methodLink RX4 68 yX4_lay, .instanceMethod yX4_lay, .selects RX4 yX4_lay yX4_lay, .code yX4_lay cX4_lay 4 none] ++ wsX40)
def wsX4_append : List Cond := .code yX4_append cX4_append 2 (some .int) :: ([.fieldLink RX4 103 "TickFormsModel" "typed" "I", .fieldLink RX4 32 "TickFormsModel" "thrown" "I", .fieldLink RX4 16 "TickFormsModel" "buffer" "[I", .methodLink RX4 36 yX4_in, .static yX4_in, .initialized RX4, .code yX4_in cX4_in 3 (some .boolean)] ++ wsX40)
def wsX4_clearBuffer : List Cond := .code yX4_clearBuffer cX4_clearBuffer 2 (some .int) :: ([.fieldLink RX4 32 "TickFormsModel" "thrown" "I", .fieldLink RX4 103 "TickFormsModel" "typed" "I"] ++ wsX40)
def wsX4_letter : List Cond := .code yX4_letter cX4_letter 1 (some .int) :: ([.fieldLink RX4 106 "TickFormsModel" "spot" "I", .fieldLink RX4 103 "TickFormsModel" "typed" "I", .fieldLink RX4 16 "TickFormsModel" "buffer" "[I"] ++ wsX40)
def wsX4_needs : List Cond := .code yX4_needs cX4_needs 2 none :: ([.fieldLink RX4 109 "TickFormsModel" "wrong" "I", .fieldLink RX4 106 "TickFormsModel" "spot" "I"] ++ wsX40)
def wsX4_number : List Cond := .code yX4_number cX4_number 4 (some .int) :: ([.fieldLink RX4 109 "TickFormsModel" "wrong" "I", .fieldLink RX4 106 "TickFormsModel" "spot" "I", .methodLink RX4 112 yX4_letter, .instanceMethod yX4_letter, .selects RX4 yX4_letter yX4_letter, .initialized RX4, .code yX4_letter cX4_letter 1 (some .int), .fieldLink RX4 103 "TickFormsModel" "typed" "I", .fieldLink RX4 16 "TickFormsModel" "buffer" "[I", .methodLink RX4 36 yX4_in, .static yX4_in, .code yX4_in cX4_in 3 (some .boolean), .methodLink RX4 115 yX4_needs, .instanceMethod yX4_needs, .selects RX4 yX4_needs yX4_needs, .code yX4_needs cX4_needs 2 none] ++ wsX40)
def wsX4_readPart : List Cond := .code yX4_readPart cX4_readPart 2 none :: ([.fieldLink RX4 119 "TickFormsModel" "readMany" "I", .fieldLink RX4 22 "TickFormsModel" "read" "[I", .fieldLink RX4 109 "TickFormsModel" "wrong" "I", .fieldLink RX4 106 "TickFormsModel" "spot" "I", .constant RX4 125 (99999), .methodLink RX4 122 yX4_number, .instanceMethod yX4_number, .selects RX4 yX4_number yX4_number, .initialized RX4, .code yX4_number cX4_number 4 (some .int), .methodLink RX4 112 yX4_letter, .instanceMethod yX4_letter, .selects RX4 yX4_letter yX4_letter, .code yX4_letter cX4_letter 1 (some .int), .fieldLink RX4 103 "TickFormsModel" "typed" "I", .fieldLink RX4 16 "TickFormsModel" "buffer" "[I", .methodLink RX4 36 yX4_in, .static yX4_in, .code yX4_in cX4_in 3 (some .boolean), .methodLink RX4 115 yX4_needs, .instanceMethod yX4_needs, .selects RX4 yX4_needs yX4_needs, .code yX4_needs cX4_needs 2 none] ++ wsX40)
def wsX4_readBuffer_r1 : List Cond := [Cond.fieldLink RX4 119 "TickFormsModel" "readMany" "I", Cond.fieldLink RX4 106 "TickFormsModel" "spot" "I", Cond.fieldLink RX4 109 "TickFormsModel" "wrong" "I", Cond.fieldLink RX4 103 "TickFormsModel" "typed" "I", Cond.methodLink RX4 126 yX4_readPart, Cond.instanceMethod yX4_readPart, Cond.selects RX4 yX4_readPart yX4_readPart, Cond.initialized RX4, Cond.code yX4_readPart cX4_readPart 2 none, Cond.fieldLink RX4 22 "TickFormsModel" "read" "[I", Cond.constant RX4 125 (99999), Cond.methodLink RX4 122 yX4_number, Cond.instanceMethod yX4_number, Cond.selects RX4 yX4_number yX4_number, Cond.code yX4_number cX4_number 4 (some .int), Cond.methodLink RX4 112 yX4_letter, Cond.instanceMethod yX4_letter, Cond.selects RX4 yX4_letter yX4_letter, Cond.code yX4_letter cX4_letter 1 (some .int), Cond.fieldLink RX4 16 "TickFormsModel" "buffer" "[I", Cond.methodLink RX4 36 yX4_in, Cond.static yX4_in, Cond.code yX4_in cX4_in 3 (some .boolean), Cond.methodLink RX4 115 yX4_needs]
def wsX4_readBuffer_r2 : List Cond := [Cond.instanceMethod yX4_needs, Cond.selects RX4 yX4_needs yX4_needs, Cond.code yX4_needs cX4_needs 2 none]
def wsX4_readBuffer : List Cond := .code yX4_readBuffer cX4_readBuffer 2 (some .int) :: ((wsX4_readBuffer_r1 ++ wsX4_readBuffer_r2) ++ wsX40)
def wsX4_firstError_r1 : List Cond := [Cond.fieldLink RX4 32 "TickFormsModel" "thrown" "I", Cond.fieldLink RX4 103 "TickFormsModel" "typed" "I", Cond.methodLink RX4 129 yX4_readBuffer, Cond.instanceMethod yX4_readBuffer, Cond.selects RX4 yX4_readBuffer yX4_readBuffer, Cond.initialized RX4, Cond.code yX4_readBuffer cX4_readBuffer 2 (some .int), Cond.fieldLink RX4 119 "TickFormsModel" "readMany" "I", Cond.fieldLink RX4 106 "TickFormsModel" "spot" "I", Cond.fieldLink RX4 109 "TickFormsModel" "wrong" "I", Cond.methodLink RX4 126 yX4_readPart, Cond.instanceMethod yX4_readPart, Cond.selects RX4 yX4_readPart yX4_readPart, Cond.code yX4_readPart cX4_readPart 2 none, Cond.fieldLink RX4 22 "TickFormsModel" "read" "[I", Cond.constant RX4 125 (99999), Cond.methodLink RX4 122 yX4_number, Cond.instanceMethod yX4_number, Cond.selects RX4 yX4_number yX4_number, Cond.code yX4_number cX4_number 4 (some .int), Cond.methodLink RX4 112 yX4_letter, Cond.instanceMethod yX4_letter, Cond.selects RX4 yX4_letter yX4_letter, Cond.code yX4_letter cX4_letter 1 (some .int)]
def wsX4_firstError_r2 : List Cond := [Cond.fieldLink RX4 16 "TickFormsModel" "buffer" "[I", Cond.methodLink RX4 36 yX4_in, Cond.static yX4_in, Cond.code yX4_in cX4_in 3 (some .boolean), Cond.methodLink RX4 115 yX4_needs, Cond.instanceMethod yX4_needs, Cond.selects RX4 yX4_needs yX4_needs, Cond.code yX4_needs cX4_needs 2 none]
def wsX4_firstError : List Cond := .code yX4_firstError cX4_firstError 2 (some .int) :: ((wsX4_firstError_r1 ++ wsX4_firstError_r2) ++ wsX40)
def wsX4_fill_r1 : List Cond := [Cond.fieldLink RX4 32 "TickFormsModel" "thrown" "I", Cond.fieldLink RX4 119 "TickFormsModel" "readMany" "I", Cond.fieldLink RX4 22 "TickFormsModel" "read" "[I", Cond.fieldLink RX4 103 "TickFormsModel" "typed" "I", Cond.methodLink RX4 129 yX4_readBuffer, Cond.instanceMethod yX4_readBuffer, Cond.selects RX4 yX4_readBuffer yX4_readBuffer, Cond.initialized RX4, Cond.code yX4_readBuffer cX4_readBuffer 2 (some .int), Cond.fieldLink RX4 106 "TickFormsModel" "spot" "I", Cond.fieldLink RX4 109 "TickFormsModel" "wrong" "I", Cond.methodLink RX4 126 yX4_readPart, Cond.instanceMethod yX4_readPart, Cond.selects RX4 yX4_readPart yX4_readPart, Cond.code yX4_readPart cX4_readPart 2 none, Cond.constant RX4 125 (99999), Cond.methodLink RX4 122 yX4_number, Cond.instanceMethod yX4_number, Cond.selects RX4 yX4_number yX4_number, Cond.code yX4_number cX4_number 4 (some .int), Cond.methodLink RX4 112 yX4_letter, Cond.instanceMethod yX4_letter, Cond.selects RX4 yX4_letter yX4_letter, Cond.code yX4_letter cX4_letter 1 (some .int)]
def wsX4_fill_r2 : List Cond := [Cond.fieldLink RX4 16 "TickFormsModel" "buffer" "[I", Cond.methodLink RX4 36 yX4_in, Cond.static yX4_in, Cond.code yX4_in cX4_in 3 (some .boolean), Cond.methodLink RX4 115 yX4_needs, Cond.instanceMethod yX4_needs, Cond.selects RX4 yX4_needs yX4_needs, Cond.code yX4_needs cX4_needs 2 none, Cond.methodLink RX4 65 yX4_save, Cond.instanceMethod yX4_save, Cond.selects RX4 yX4_save yX4_save, Cond.code yX4_save cX4_save 2 none, Cond.fieldLink RX4 40 "TickFormsModel" "savedMany" "I", Cond.fieldLink RX4 13 "TickFormsModel" "saved" "[I", Cond.fieldLink RX4 7 "TickFormsModel" "z" "[I", Cond.methodLink RX4 80 yX4_isBox, Cond.instanceMethod yX4_isBox, Cond.selects RX4 yX4_isBox yX4_isBox, Cond.code yX4_isBox cX4_isBox 2 (some .boolean), Cond.methodLink RX4 90 yX4_canHave, Cond.instanceMethod yX4_canHave, Cond.selects RX4 yX4_canHave yX4_canHave, Cond.code yX4_canHave cX4_canHave 3 (some .boolean), Cond.methodLink RX4 43 yX4_of]
def wsX4_fill_r3 : List Cond := [Cond.instanceMethod yX4_of, Cond.selects RX4 yX4_of yX4_of, Cond.code yX4_of cX4_of 3 (some .int), Cond.methodLink RX4 86 yX4_power, Cond.static yX4_power, Cond.code yX4_power cX4_power 3 (some .int), Cond.methodLink RX4 68 yX4_lay, Cond.instanceMethod yX4_lay, Cond.selects RX4 yX4_lay yX4_lay, Cond.code yX4_lay cX4_lay 4 none]
def wsX4_fill : List Cond := .code yX4_fill cX4_fill 2 (some .int) :: ((wsX4_fill_r1 ++ (wsX4_fill_r2 ++ wsX4_fill_r3)) ++ wsX40)
def wsX4_toldBox_r1 : List Cond := [Cond.fieldLink RX4 19 "TickFormsModel" "values" "[I", Cond.methodLink RX4 93 yX4_open, Cond.instanceMethod yX4_open, Cond.selects RX4 yX4_open yX4_open, Cond.initialized RX4, Cond.code yX4_open cX4_open 3 (some .int), Cond.methodLink RX4 55 yX4_isOpened, Cond.instanceMethod yX4_isOpened, Cond.selects RX4 yX4_isOpened yX4_isOpened, Cond.code yX4_isOpened cX4_isOpened 6 (some .boolean), Cond.fieldLink RX4 7 "TickFormsModel" "z" "[I", Cond.methodLink RX4 43 yX4_of, Cond.instanceMethod yX4_of, Cond.selects RX4 yX4_of yX4_of, Cond.code yX4_of cX4_of 3 (some .int), Cond.methodLink RX4 51 yX4_isTold, Cond.instanceMethod yX4_isTold, Cond.selects RX4 yX4_isTold yX4_isTold, Cond.code yX4_isTold cX4_isTold 3 (some .boolean), Cond.methodLink RX4 58 yX4_isClosed, Cond.instanceMethod yX4_isClosed, Cond.selects RX4 yX4_isClosed yX4_isClosed, Cond.code yX4_isClosed cX4_isClosed 5 (some .boolean), Cond.methodLink RX4 47 yX4_closesNow]
def wsX4_toldBox_r2 : List Cond := [Cond.instanceMethod yX4_closesNow, Cond.selects RX4 yX4_closesNow yX4_closesNow, Cond.code yX4_closesNow cX4_closesNow 2 (some .boolean), Cond.methodLink RX4 132 yX4_reckon, Cond.instanceMethod yX4_reckon, Cond.selects RX4 yX4_reckon yX4_reckon, Cond.code yX4_reckon cX4_reckon 5 none, Cond.constant RX4 64 (999999), Cond.methodLink RX4 61 yX4_wants, Cond.instanceMethod yX4_wants, Cond.selects RX4 yX4_wants yX4_wants, Cond.code yX4_wants cX4_wants 3 (some .boolean)]
def wsX4_toldBox : List Cond := .code yX4_toldBox cX4_toldBox 4 (some .int) :: ((wsX4_toldBox_r1 ++ wsX4_toldBox_r2) ++ wsX40)
def wsX4_box_r1 : List Cond := [Cond.fieldLink RX4 32 "TickFormsModel" "thrown" "I", Cond.methodLink RX4 80 yX4_isBox, Cond.instanceMethod yX4_isBox, Cond.selects RX4 yX4_isBox yX4_isBox, Cond.initialized RX4, Cond.code yX4_isBox cX4_isBox 2 (some .boolean), Cond.fieldLink RX4 7 "TickFormsModel" "z" "[I", Cond.methodLink RX4 36 yX4_in, Cond.static yX4_in, Cond.code yX4_in cX4_in 3 (some .boolean), Cond.methodLink RX4 136 yX4_toldBox, Cond.instanceMethod yX4_toldBox, Cond.selects RX4 yX4_toldBox yX4_toldBox, Cond.code yX4_toldBox cX4_toldBox 4 (some .int), Cond.fieldLink RX4 19 "TickFormsModel" "values" "[I", Cond.methodLink RX4 93 yX4_open, Cond.instanceMethod yX4_open, Cond.selects RX4 yX4_open yX4_open, Cond.code yX4_open cX4_open 3 (some .int), Cond.methodLink RX4 55 yX4_isOpened, Cond.instanceMethod yX4_isOpened, Cond.selects RX4 yX4_isOpened yX4_isOpened, Cond.code yX4_isOpened cX4_isOpened 6 (some .boolean), Cond.methodLink RX4 43 yX4_of]
def wsX4_box_r2 : List Cond := [Cond.instanceMethod yX4_of, Cond.selects RX4 yX4_of yX4_of, Cond.code yX4_of cX4_of 3 (some .int), Cond.methodLink RX4 51 yX4_isTold, Cond.instanceMethod yX4_isTold, Cond.selects RX4 yX4_isTold yX4_isTold, Cond.code yX4_isTold cX4_isTold 3 (some .boolean), Cond.methodLink RX4 58 yX4_isClosed, Cond.instanceMethod yX4_isClosed, Cond.selects RX4 yX4_isClosed yX4_isClosed, Cond.code yX4_isClosed cX4_isClosed 5 (some .boolean), Cond.methodLink RX4 47 yX4_closesNow, Cond.instanceMethod yX4_closesNow, Cond.selects RX4 yX4_closesNow yX4_closesNow, Cond.code yX4_closesNow cX4_closesNow 2 (some .boolean), Cond.methodLink RX4 132 yX4_reckon, Cond.instanceMethod yX4_reckon, Cond.selects RX4 yX4_reckon yX4_reckon, Cond.code yX4_reckon cX4_reckon 5 none, Cond.constant RX4 64 (999999), Cond.methodLink RX4 61 yX4_wants, Cond.instanceMethod yX4_wants, Cond.selects RX4 yX4_wants yX4_wants, Cond.code yX4_wants cX4_wants 3 (some .boolean)]
def wsX4_box : List Cond := .code yX4_box cX4_box 3 (some .int) :: ((wsX4_box_r1 ++ wsX4_box_r2) ++ wsX40)
def wsX4_toldPart_r1 : List Cond := [Cond.fieldLink RX4 7 "TickFormsModel" "z" "[I", Cond.methodLink RX4 93 yX4_open, Cond.instanceMethod yX4_open, Cond.selects RX4 yX4_open yX4_open, Cond.initialized RX4, Cond.code yX4_open cX4_open 3 (some .int), Cond.methodLink RX4 55 yX4_isOpened, Cond.instanceMethod yX4_isOpened, Cond.selects RX4 yX4_isOpened yX4_isOpened, Cond.code yX4_isOpened cX4_isOpened 6 (some .boolean), Cond.methodLink RX4 43 yX4_of, Cond.instanceMethod yX4_of, Cond.selects RX4 yX4_of yX4_of, Cond.code yX4_of cX4_of 3 (some .int), Cond.methodLink RX4 51 yX4_isTold, Cond.instanceMethod yX4_isTold, Cond.selects RX4 yX4_isTold yX4_isTold, Cond.code yX4_isTold cX4_isTold 3 (some .boolean), Cond.methodLink RX4 58 yX4_isClosed, Cond.instanceMethod yX4_isClosed, Cond.selects RX4 yX4_isClosed yX4_isClosed, Cond.code yX4_isClosed cX4_isClosed 5 (some .boolean), Cond.methodLink RX4 47 yX4_closesNow, Cond.instanceMethod yX4_closesNow]
def wsX4_toldPart_r2 : List Cond := [Cond.selects RX4 yX4_closesNow yX4_closesNow, Cond.code yX4_closesNow cX4_closesNow 2 (some .boolean), Cond.methodLink RX4 61 yX4_wants, Cond.instanceMethod yX4_wants, Cond.selects RX4 yX4_wants yX4_wants, Cond.code yX4_wants cX4_wants 3 (some .boolean)]
def wsX4_toldPart : List Cond := .code yX4_toldPart cX4_toldPart 9 (some .int) :: ((wsX4_toldPart_r1 ++ wsX4_toldPart_r2) ++ wsX40)
def wsX4_part_r1 : List Cond := [Cond.fieldLink RX4 32 "TickFormsModel" "thrown" "I", Cond.methodLink RX4 72 yX4_isPart, Cond.static yX4_isPart, Cond.initialized RX4, Cond.code yX4_isPart cX4_isPart 1 (some .boolean), Cond.methodLink RX4 36 yX4_in, Cond.static yX4_in, Cond.code yX4_in cX4_in 3 (some .boolean), Cond.methodLink RX4 139 yX4_toldPart, Cond.instanceMethod yX4_toldPart, Cond.selects RX4 yX4_toldPart yX4_toldPart, Cond.code yX4_toldPart cX4_toldPart 9 (some .int), Cond.fieldLink RX4 7 "TickFormsModel" "z" "[I", Cond.methodLink RX4 93 yX4_open, Cond.instanceMethod yX4_open, Cond.selects RX4 yX4_open yX4_open, Cond.code yX4_open cX4_open 3 (some .int), Cond.methodLink RX4 55 yX4_isOpened, Cond.instanceMethod yX4_isOpened, Cond.selects RX4 yX4_isOpened yX4_isOpened, Cond.code yX4_isOpened cX4_isOpened 6 (some .boolean), Cond.methodLink RX4 43 yX4_of, Cond.instanceMethod yX4_of, Cond.selects RX4 yX4_of yX4_of]
def wsX4_part_r2 : List Cond := [Cond.code yX4_of cX4_of 3 (some .int), Cond.methodLink RX4 51 yX4_isTold, Cond.instanceMethod yX4_isTold, Cond.selects RX4 yX4_isTold yX4_isTold, Cond.code yX4_isTold cX4_isTold 3 (some .boolean), Cond.methodLink RX4 58 yX4_isClosed, Cond.instanceMethod yX4_isClosed, Cond.selects RX4 yX4_isClosed yX4_isClosed, Cond.code yX4_isClosed cX4_isClosed 5 (some .boolean), Cond.methodLink RX4 47 yX4_closesNow, Cond.instanceMethod yX4_closesNow, Cond.selects RX4 yX4_closesNow yX4_closesNow, Cond.code yX4_closesNow cX4_closesNow 2 (some .boolean), Cond.methodLink RX4 61 yX4_wants, Cond.instanceMethod yX4_wants, Cond.selects RX4 yX4_wants yX4_wants, Cond.code yX4_wants cX4_wants 3 (some .boolean)]
def wsX4_part : List Cond := .code yX4_part cX4_part 3 (some .int) :: ((wsX4_part_r1 ++ wsX4_part_r2) ++ wsX40)
def wsX4_openBoxes : List Cond := .code yX4_openBoxes cX4_openBoxes 4 (some .int) :: ([.fieldLink RX4 7 "TickFormsModel" "z" "[I", .methodLink RX4 51 yX4_isTold, .instanceMethod yX4_isTold, .selects RX4 yX4_isTold yX4_isTold, .initialized RX4, .code yX4_isTold cX4_isTold 3 (some .boolean), .methodLink RX4 43 yX4_of, .instanceMethod yX4_of, .selects RX4 yX4_of yX4_of, .code yX4_of cX4_of 3 (some .int)] ++ wsX40)
def wsX4_bits : List Cond := .code yX4_bits cX4_bits 3 (some .int) :: ([])
def wsX4_counted_r1 : List Cond := [Cond.fieldLink RX4 7 "TickFormsModel" "z" "[I", Cond.fieldLink RX4 40 "TickFormsModel" "savedMany" "I", Cond.methodLink RX4 93 yX4_open, Cond.instanceMethod yX4_open, Cond.selects RX4 yX4_open yX4_open, Cond.initialized RX4, Cond.code yX4_open cX4_open 3 (some .int), Cond.methodLink RX4 55 yX4_isOpened, Cond.instanceMethod yX4_isOpened, Cond.selects RX4 yX4_isOpened yX4_isOpened, Cond.code yX4_isOpened cX4_isOpened 6 (some .boolean), Cond.methodLink RX4 43 yX4_of, Cond.instanceMethod yX4_of, Cond.selects RX4 yX4_of yX4_of, Cond.code yX4_of cX4_of 3 (some .int), Cond.methodLink RX4 51 yX4_isTold, Cond.instanceMethod yX4_isTold, Cond.selects RX4 yX4_isTold yX4_isTold, Cond.code yX4_isTold cX4_isTold 3 (some .boolean), Cond.methodLink RX4 58 yX4_isClosed, Cond.instanceMethod yX4_isClosed, Cond.selects RX4 yX4_isClosed yX4_isClosed, Cond.code yX4_isClosed cX4_isClosed 5 (some .boolean), Cond.methodLink RX4 47 yX4_closesNow]
def wsX4_counted_r2 : List Cond := [Cond.instanceMethod yX4_closesNow, Cond.selects RX4 yX4_closesNow yX4_closesNow, Cond.code yX4_closesNow cX4_closesNow 2 (some .boolean), Cond.methodLink RX4 142 yX4_openBoxes, Cond.instanceMethod yX4_openBoxes, Cond.selects RX4 yX4_openBoxes yX4_openBoxes, Cond.code yX4_openBoxes cX4_openBoxes 4 (some .int), Cond.methodLink RX4 97 yX4_wanting, Cond.instanceMethod yX4_wanting, Cond.selects RX4 yX4_wanting yX4_wanting, Cond.code yX4_wanting cX4_wanting 4 (some .int), Cond.methodLink RX4 61 yX4_wants, Cond.instanceMethod yX4_wants, Cond.selects RX4 yX4_wants yX4_wants, Cond.code yX4_wants cX4_wants 3 (some .boolean), Cond.methodLink RX4 145 yX4_firstWanting, Cond.instanceMethod yX4_firstWanting, Cond.selects RX4 yX4_firstWanting yX4_firstWanting, Cond.code yX4_firstWanting cX4_firstWanting 4 (some .int), Cond.methodLink RX4 148 yX4_bits, Cond.static yX4_bits, Cond.code yX4_bits cX4_bits 3 (some .int), Cond.methodLink RX4 100 yX4_answered, Cond.instanceMethod yX4_answered]
def wsX4_counted_r3 : List Cond := [Cond.selects RX4 yX4_answered yX4_answered, Cond.code yX4_answered cX4_answered 3 (some .int)]
def wsX4_counted : List Cond := .code yX4_counted cX4_counted 3 (some .int) :: ((wsX4_counted_r1 ++ (wsX4_counted_r2 ++ wsX4_counted_r3)) ++ wsX40)
def wsX4_count_r1 : List Cond := [Cond.fieldLink RX4 32 "TickFormsModel" "thrown" "I", Cond.methodLink RX4 36 yX4_in, Cond.static yX4_in, Cond.initialized RX4, Cond.code yX4_in cX4_in 3 (some .boolean), Cond.methodLink RX4 151 yX4_counted, Cond.instanceMethod yX4_counted, Cond.selects RX4 yX4_counted yX4_counted, Cond.code yX4_counted cX4_counted 3 (some .int), Cond.fieldLink RX4 7 "TickFormsModel" "z" "[I", Cond.fieldLink RX4 40 "TickFormsModel" "savedMany" "I", Cond.methodLink RX4 93 yX4_open, Cond.instanceMethod yX4_open, Cond.selects RX4 yX4_open yX4_open, Cond.code yX4_open cX4_open 3 (some .int), Cond.methodLink RX4 55 yX4_isOpened, Cond.instanceMethod yX4_isOpened, Cond.selects RX4 yX4_isOpened yX4_isOpened, Cond.code yX4_isOpened cX4_isOpened 6 (some .boolean), Cond.methodLink RX4 43 yX4_of, Cond.instanceMethod yX4_of, Cond.selects RX4 yX4_of yX4_of, Cond.code yX4_of cX4_of 3 (some .int), Cond.methodLink RX4 51 yX4_isTold]
def wsX4_count_r2 : List Cond := [Cond.instanceMethod yX4_isTold, Cond.selects RX4 yX4_isTold yX4_isTold, Cond.code yX4_isTold cX4_isTold 3 (some .boolean), Cond.methodLink RX4 58 yX4_isClosed, Cond.instanceMethod yX4_isClosed, Cond.selects RX4 yX4_isClosed yX4_isClosed, Cond.code yX4_isClosed cX4_isClosed 5 (some .boolean), Cond.methodLink RX4 47 yX4_closesNow, Cond.instanceMethod yX4_closesNow, Cond.selects RX4 yX4_closesNow yX4_closesNow, Cond.code yX4_closesNow cX4_closesNow 2 (some .boolean), Cond.methodLink RX4 142 yX4_openBoxes, Cond.instanceMethod yX4_openBoxes, Cond.selects RX4 yX4_openBoxes yX4_openBoxes, Cond.code yX4_openBoxes cX4_openBoxes 4 (some .int), Cond.methodLink RX4 97 yX4_wanting, Cond.instanceMethod yX4_wanting, Cond.selects RX4 yX4_wanting yX4_wanting, Cond.code yX4_wanting cX4_wanting 4 (some .int), Cond.methodLink RX4 61 yX4_wants, Cond.instanceMethod yX4_wants, Cond.selects RX4 yX4_wants yX4_wants, Cond.code yX4_wants cX4_wants 3 (some .boolean), Cond.methodLink RX4 145 yX4_firstWanting]
def wsX4_count_r3 : List Cond := [Cond.instanceMethod yX4_firstWanting, Cond.selects RX4 yX4_firstWanting yX4_firstWanting, Cond.code yX4_firstWanting cX4_firstWanting 4 (some .int), Cond.methodLink RX4 148 yX4_bits, Cond.static yX4_bits, Cond.code yX4_bits cX4_bits 3 (some .int), Cond.methodLink RX4 100 yX4_answered, Cond.instanceMethod yX4_answered, Cond.selects RX4 yX4_answered yX4_answered, Cond.code yX4_answered cX4_answered 3 (some .int)]
def wsX4_count : List Cond := .code yX4_count cX4_count 2 (some .int) :: ((wsX4_count_r1 ++ (wsX4_count_r2 ++ wsX4_count_r3)) ++ wsX40)
def wsX4_lastTotal : List Cond := .code yX4_lastTotal cX4_lastTotal 4 (some .int) :: ([.fieldLink RX4 7 "TickFormsModel" "z" "[I", .fieldLink RX4 19 "TickFormsModel" "values" "[I", .methodLink RX4 132 yX4_reckon, .instanceMethod yX4_reckon, .selects RX4 yX4_reckon yX4_reckon, .initialized RX4, .code yX4_reckon cX4_reckon 5 none, .constant RX4 64 (999999), .methodLink RX4 43 yX4_of, .instanceMethod yX4_of, .selects RX4 yX4_of yX4_of, .code yX4_of cX4_of 3 (some .int), .methodLink RX4 51 yX4_isTold, .instanceMethod yX4_isTold, .selects RX4 yX4_isTold yX4_isTold, .code yX4_isTold cX4_isTold 3 (some .boolean)] ++ wsX40)
def wsX4_withAnswer_r1 : List Cond := [Cond.methodLink RX4 43 yX4_of, Cond.instanceMethod yX4_of, Cond.selects RX4 yX4_of yX4_of, Cond.initialized RX4, Cond.code yX4_of cX4_of 3 (some .int), Cond.fieldLink RX4 7 "TickFormsModel" "z" "[I", Cond.methodLink RX4 68 yX4_lay, Cond.instanceMethod yX4_lay, Cond.selects RX4 yX4_lay yX4_lay, Cond.code yX4_lay cX4_lay 4 none, Cond.methodLink RX4 93 yX4_open, Cond.instanceMethod yX4_open, Cond.selects RX4 yX4_open yX4_open, Cond.code yX4_open cX4_open 3 (some .int), Cond.methodLink RX4 55 yX4_isOpened, Cond.instanceMethod yX4_isOpened, Cond.selects RX4 yX4_isOpened yX4_isOpened, Cond.code yX4_isOpened cX4_isOpened 6 (some .boolean), Cond.methodLink RX4 51 yX4_isTold, Cond.instanceMethod yX4_isTold, Cond.selects RX4 yX4_isTold yX4_isTold, Cond.code yX4_isTold cX4_isTold 3 (some .boolean), Cond.methodLink RX4 58 yX4_isClosed, Cond.instanceMethod yX4_isClosed]
def wsX4_withAnswer_r2 : List Cond := [Cond.selects RX4 yX4_isClosed yX4_isClosed, Cond.code yX4_isClosed cX4_isClosed 5 (some .boolean), Cond.methodLink RX4 47 yX4_closesNow, Cond.instanceMethod yX4_closesNow, Cond.selects RX4 yX4_closesNow yX4_closesNow, Cond.code yX4_closesNow cX4_closesNow 2 (some .boolean), Cond.methodLink RX4 97 yX4_wanting, Cond.instanceMethod yX4_wanting, Cond.selects RX4 yX4_wanting yX4_wanting, Cond.code yX4_wanting cX4_wanting 4 (some .int), Cond.methodLink RX4 61 yX4_wants, Cond.instanceMethod yX4_wants, Cond.selects RX4 yX4_wants yX4_wants, Cond.code yX4_wants cX4_wants 3 (some .boolean), Cond.methodLink RX4 154 yX4_lastTotal, Cond.instanceMethod yX4_lastTotal, Cond.selects RX4 yX4_lastTotal yX4_lastTotal, Cond.code yX4_lastTotal cX4_lastTotal 4 (some .int), Cond.fieldLink RX4 19 "TickFormsModel" "values" "[I", Cond.methodLink RX4 132 yX4_reckon, Cond.instanceMethod yX4_reckon, Cond.selects RX4 yX4_reckon yX4_reckon, Cond.code yX4_reckon cX4_reckon 5 none, Cond.constant RX4 64 (999999)]
def wsX4_withAnswer : List Cond := .code yX4_withAnswer cX4_withAnswer 7 (some .int) :: ((wsX4_withAnswer_r1 ++ wsX4_withAnswer_r2) ++ wsX40)
def wsX4_ifAnswered_r1 : List Cond := [Cond.fieldLink RX4 32 "TickFormsModel" "thrown" "I", Cond.methodLink RX4 80 yX4_isBox, Cond.instanceMethod yX4_isBox, Cond.selects RX4 yX4_isBox yX4_isBox, Cond.initialized RX4, Cond.code yX4_isBox cX4_isBox 2 (some .boolean), Cond.fieldLink RX4 7 "TickFormsModel" "z" "[I", Cond.methodLink RX4 90 yX4_canHave, Cond.instanceMethod yX4_canHave, Cond.selects RX4 yX4_canHave yX4_canHave, Cond.code yX4_canHave cX4_canHave 3 (some .boolean), Cond.methodLink RX4 43 yX4_of, Cond.instanceMethod yX4_of, Cond.selects RX4 yX4_of yX4_of, Cond.code yX4_of cX4_of 3 (some .int), Cond.methodLink RX4 86 yX4_power, Cond.static yX4_power, Cond.code yX4_power cX4_power 3 (some .int), Cond.methodLink RX4 36 yX4_in, Cond.static yX4_in, Cond.code yX4_in cX4_in 3 (some .boolean), Cond.methodLink RX4 157 yX4_withAnswer, Cond.instanceMethod yX4_withAnswer, Cond.selects RX4 yX4_withAnswer yX4_withAnswer]
def wsX4_ifAnswered_r2 : List Cond := [Cond.code yX4_withAnswer cX4_withAnswer 7 (some .int), Cond.methodLink RX4 68 yX4_lay, Cond.instanceMethod yX4_lay, Cond.selects RX4 yX4_lay yX4_lay, Cond.code yX4_lay cX4_lay 4 none, Cond.methodLink RX4 93 yX4_open, Cond.instanceMethod yX4_open, Cond.selects RX4 yX4_open yX4_open, Cond.code yX4_open cX4_open 3 (some .int), Cond.methodLink RX4 55 yX4_isOpened, Cond.instanceMethod yX4_isOpened, Cond.selects RX4 yX4_isOpened yX4_isOpened, Cond.code yX4_isOpened cX4_isOpened 6 (some .boolean), Cond.methodLink RX4 51 yX4_isTold, Cond.instanceMethod yX4_isTold, Cond.selects RX4 yX4_isTold yX4_isTold, Cond.code yX4_isTold cX4_isTold 3 (some .boolean), Cond.methodLink RX4 58 yX4_isClosed, Cond.instanceMethod yX4_isClosed, Cond.selects RX4 yX4_isClosed yX4_isClosed, Cond.code yX4_isClosed cX4_isClosed 5 (some .boolean), Cond.methodLink RX4 47 yX4_closesNow, Cond.instanceMethod yX4_closesNow, Cond.selects RX4 yX4_closesNow yX4_closesNow]
def wsX4_ifAnswered_r3 : List Cond := [Cond.code yX4_closesNow cX4_closesNow 2 (some .boolean), Cond.methodLink RX4 97 yX4_wanting, Cond.instanceMethod yX4_wanting, Cond.selects RX4 yX4_wanting yX4_wanting, Cond.code yX4_wanting cX4_wanting 4 (some .int), Cond.methodLink RX4 61 yX4_wants, Cond.instanceMethod yX4_wants, Cond.selects RX4 yX4_wants yX4_wants, Cond.code yX4_wants cX4_wants 3 (some .boolean), Cond.methodLink RX4 154 yX4_lastTotal, Cond.instanceMethod yX4_lastTotal, Cond.selects RX4 yX4_lastTotal yX4_lastTotal, Cond.code yX4_lastTotal cX4_lastTotal 4 (some .int), Cond.fieldLink RX4 19 "TickFormsModel" "values" "[I", Cond.methodLink RX4 132 yX4_reckon, Cond.instanceMethod yX4_reckon, Cond.selects RX4 yX4_reckon yX4_reckon, Cond.code yX4_reckon cX4_reckon 5 none, Cond.constant RX4 64 (999999)]
def wsX4_ifAnswered : List Cond := .code yX4_ifAnswered cX4_ifAnswered 4 (some .int) :: ((wsX4_ifAnswered_r1 ++ (wsX4_ifAnswered_r2 ++ wsX4_ifAnswered_r3)) ++ wsX40)
def wsX4_chosen : List Cond := .code yX4_chosen cX4_chosen 3 (some .int) :: ([.methodLink RX4 43 yX4_of, .instanceMethod yX4_of, .selects RX4 yX4_of yX4_of, .initialized RX4, .code yX4_of cX4_of 3 (some .int), .fieldLink RX4 7 "TickFormsModel" "z" "[I"] ++ wsX40)
def wsX4_fewest_r1 : List Cond := [Cond.fieldLink RX4 7 "TickFormsModel" "z" "[I", Cond.fieldLink RX4 28 "TickFormsModel" "wasEmpty" "[Z", Cond.fieldLink RX4 25 "TickFormsModel" "choices" "[I", Cond.methodLink RX4 43 yX4_of, Cond.instanceMethod yX4_of, Cond.selects RX4 yX4_of yX4_of, Cond.initialized RX4, Cond.code yX4_of cX4_of 3 (some .int), Cond.methodLink RX4 161 yX4_chosen, Cond.instanceMethod yX4_chosen, Cond.selects RX4 yX4_chosen yX4_chosen, Cond.code yX4_chosen cX4_chosen 3 (some .int), Cond.methodLink RX4 68 yX4_lay, Cond.instanceMethod yX4_lay, Cond.selects RX4 yX4_lay yX4_lay, Cond.code yX4_lay cX4_lay 4 none, Cond.methodLink RX4 93 yX4_open, Cond.instanceMethod yX4_open, Cond.selects RX4 yX4_open yX4_open, Cond.code yX4_open cX4_open 3 (some .int), Cond.methodLink RX4 55 yX4_isOpened, Cond.instanceMethod yX4_isOpened, Cond.selects RX4 yX4_isOpened yX4_isOpened, Cond.code yX4_isOpened cX4_isOpened 6 (some .boolean)]
def wsX4_fewest_r2 : List Cond := [Cond.methodLink RX4 51 yX4_isTold, Cond.instanceMethod yX4_isTold, Cond.selects RX4 yX4_isTold yX4_isTold, Cond.code yX4_isTold cX4_isTold 3 (some .boolean), Cond.methodLink RX4 58 yX4_isClosed, Cond.instanceMethod yX4_isClosed, Cond.selects RX4 yX4_isClosed yX4_isClosed, Cond.code yX4_isClosed cX4_isClosed 5 (some .boolean), Cond.methodLink RX4 47 yX4_closesNow, Cond.instanceMethod yX4_closesNow, Cond.selects RX4 yX4_closesNow yX4_closesNow, Cond.code yX4_closesNow cX4_closesNow 2 (some .boolean)]
def wsX4_fewest : List Cond := .code yX4_fewest cX4_fewest 7 (some .int) :: ((wsX4_fewest_r1 ++ wsX4_fewest_r2) ++ wsX40)
def wsX4_shortest_r1 : List Cond := [Cond.fieldLink RX4 32 "TickFormsModel" "thrown" "I", Cond.methodLink RX4 164 yX4_fewest, Cond.instanceMethod yX4_fewest, Cond.selects RX4 yX4_fewest yX4_fewest, Cond.initialized RX4, Cond.code yX4_fewest cX4_fewest 7 (some .int), Cond.fieldLink RX4 7 "TickFormsModel" "z" "[I", Cond.fieldLink RX4 28 "TickFormsModel" "wasEmpty" "[Z", Cond.fieldLink RX4 25 "TickFormsModel" "choices" "[I", Cond.methodLink RX4 43 yX4_of, Cond.instanceMethod yX4_of, Cond.selects RX4 yX4_of yX4_of, Cond.code yX4_of cX4_of 3 (some .int), Cond.methodLink RX4 161 yX4_chosen, Cond.instanceMethod yX4_chosen, Cond.selects RX4 yX4_chosen yX4_chosen, Cond.code yX4_chosen cX4_chosen 3 (some .int), Cond.methodLink RX4 68 yX4_lay, Cond.instanceMethod yX4_lay, Cond.selects RX4 yX4_lay yX4_lay, Cond.code yX4_lay cX4_lay 4 none, Cond.methodLink RX4 93 yX4_open, Cond.instanceMethod yX4_open, Cond.selects RX4 yX4_open yX4_open]
def wsX4_shortest_r2 : List Cond := [Cond.code yX4_open cX4_open 3 (some .int), Cond.methodLink RX4 55 yX4_isOpened, Cond.instanceMethod yX4_isOpened, Cond.selects RX4 yX4_isOpened yX4_isOpened, Cond.code yX4_isOpened cX4_isOpened 6 (some .boolean), Cond.methodLink RX4 51 yX4_isTold, Cond.instanceMethod yX4_isTold, Cond.selects RX4 yX4_isTold yX4_isTold, Cond.code yX4_isTold cX4_isTold 3 (some .boolean), Cond.methodLink RX4 58 yX4_isClosed, Cond.instanceMethod yX4_isClosed, Cond.selects RX4 yX4_isClosed yX4_isClosed, Cond.code yX4_isClosed cX4_isClosed 5 (some .boolean), Cond.methodLink RX4 47 yX4_closesNow, Cond.instanceMethod yX4_closesNow, Cond.selects RX4 yX4_closesNow yX4_closesNow, Cond.code yX4_closesNow cX4_closesNow 2 (some .boolean)]
def wsX4_shortest : List Cond := .code yX4_shortest cX4_shortest 1 (some .int) :: ((wsX4_shortest_r1 ++ wsX4_shortest_r2) ++ wsX40)
def wsX4_carried : List Cond := .code yX4_carried cX4_carried 5 (some .int) :: ([.fieldLink RX4 7 "TickFormsModel" "z" "[I", .methodLink RX4 43 yX4_of, .instanceMethod yX4_of, .selects RX4 yX4_of yX4_of, .initialized RX4, .code yX4_of cX4_of 3 (some .int)] ++ wsX40)
def wsX4_carriedMost : List Cond := .code yX4_carriedMost cX4_carriedMost 5 (some .int) :: ([.fieldLink RX4 7 "TickFormsModel" "z" "[I", .methodLink RX4 167 yX4_carried, .instanceMethod yX4_carried, .selects RX4 yX4_carried yX4_carried, .initialized RX4, .code yX4_carried cX4_carried 5 (some .int), .methodLink RX4 43 yX4_of, .instanceMethod yX4_of, .selects RX4 yX4_of yX4_of, .code yX4_of cX4_of 3 (some .int)] ++ wsX40)
def wsX4_mostCarried : List Cond := .code yX4_mostCarried cX4_mostCarried 1 (some .int) :: ([.fieldLink RX4 32 "TickFormsModel" "thrown" "I", .methodLink RX4 170 yX4_carriedMost, .instanceMethod yX4_carriedMost, .selects RX4 yX4_carriedMost yX4_carriedMost, .initialized RX4, .code yX4_carriedMost cX4_carriedMost 5 (some .int), .fieldLink RX4 7 "TickFormsModel" "z" "[I", .methodLink RX4 167 yX4_carried, .instanceMethod yX4_carried, .selects RX4 yX4_carried yX4_carried, .code yX4_carried cX4_carried 5 (some .int), .methodLink RX4 43 yX4_of, .instanceMethod yX4_of, .selects RX4 yX4_of yX4_of, .code yX4_of cX4_of 3 (some .int)] ++ wsX40)
def wsX4_share_r1 : List Cond := [Cond.fieldLink RX4 7 "TickFormsModel" "z" "[I", Cond.methodLink RX4 93 yX4_open, Cond.instanceMethod yX4_open, Cond.selects RX4 yX4_open yX4_open, Cond.initialized RX4, Cond.code yX4_open cX4_open 3 (some .int), Cond.methodLink RX4 55 yX4_isOpened, Cond.instanceMethod yX4_isOpened, Cond.selects RX4 yX4_isOpened yX4_isOpened, Cond.code yX4_isOpened cX4_isOpened 6 (some .boolean), Cond.methodLink RX4 43 yX4_of, Cond.instanceMethod yX4_of, Cond.selects RX4 yX4_of yX4_of, Cond.code yX4_of cX4_of 3 (some .int), Cond.methodLink RX4 51 yX4_isTold, Cond.instanceMethod yX4_isTold, Cond.selects RX4 yX4_isTold yX4_isTold, Cond.code yX4_isTold cX4_isTold 3 (some .boolean), Cond.methodLink RX4 58 yX4_isClosed, Cond.instanceMethod yX4_isClosed, Cond.selects RX4 yX4_isClosed yX4_isClosed, Cond.code yX4_isClosed cX4_isClosed 5 (some .boolean), Cond.methodLink RX4 47 yX4_closesNow, Cond.instanceMethod yX4_closesNow]
def wsX4_share_r2 : List Cond := [Cond.selects RX4 yX4_closesNow yX4_closesNow, Cond.code yX4_closesNow cX4_closesNow 2 (some .boolean), Cond.methodLink RX4 97 yX4_wanting, Cond.instanceMethod yX4_wanting, Cond.selects RX4 yX4_wanting yX4_wanting, Cond.code yX4_wanting cX4_wanting 4 (some .int), Cond.methodLink RX4 61 yX4_wants, Cond.instanceMethod yX4_wants, Cond.selects RX4 yX4_wants yX4_wants, Cond.code yX4_wants cX4_wants 3 (some .boolean)]
def wsX4_share : List Cond := .code yX4_share cX4_share 4 (some .double) :: ((wsX4_share_r1 ++ wsX4_share_r2) ++ wsX40)
def wsX4_filled_r1 : List Cond := [Cond.fieldLink RX4 32 "TickFormsModel" "thrown" "I", Cond.methodLink RX4 173 yX4_share, Cond.instanceMethod yX4_share, Cond.selects RX4 yX4_share yX4_share, Cond.initialized RX4, Cond.code yX4_share cX4_share 4 (some .double), Cond.fieldLink RX4 7 "TickFormsModel" "z" "[I", Cond.methodLink RX4 93 yX4_open, Cond.instanceMethod yX4_open, Cond.selects RX4 yX4_open yX4_open, Cond.code yX4_open cX4_open 3 (some .int), Cond.methodLink RX4 55 yX4_isOpened, Cond.instanceMethod yX4_isOpened, Cond.selects RX4 yX4_isOpened yX4_isOpened, Cond.code yX4_isOpened cX4_isOpened 6 (some .boolean), Cond.methodLink RX4 43 yX4_of, Cond.instanceMethod yX4_of, Cond.selects RX4 yX4_of yX4_of, Cond.code yX4_of cX4_of 3 (some .int), Cond.methodLink RX4 51 yX4_isTold, Cond.instanceMethod yX4_isTold, Cond.selects RX4 yX4_isTold yX4_isTold, Cond.code yX4_isTold cX4_isTold 3 (some .boolean), Cond.methodLink RX4 58 yX4_isClosed]
def wsX4_filled_r2 : List Cond := [Cond.instanceMethod yX4_isClosed, Cond.selects RX4 yX4_isClosed yX4_isClosed, Cond.code yX4_isClosed cX4_isClosed 5 (some .boolean), Cond.methodLink RX4 47 yX4_closesNow, Cond.instanceMethod yX4_closesNow, Cond.selects RX4 yX4_closesNow yX4_closesNow, Cond.code yX4_closesNow cX4_closesNow 2 (some .boolean), Cond.methodLink RX4 97 yX4_wanting, Cond.instanceMethod yX4_wanting, Cond.selects RX4 yX4_wanting yX4_wanting, Cond.code yX4_wanting cX4_wanting 4 (some .int), Cond.methodLink RX4 61 yX4_wants, Cond.instanceMethod yX4_wants, Cond.selects RX4 yX4_wants yX4_wants, Cond.code yX4_wants cX4_wants 3 (some .boolean)]
def wsX4_filled : List Cond := .code yX4_filled cX4_filled 1 (some .double) :: ((wsX4_filled_r1 ++ wsX4_filled_r2) ++ wsX40)
def wsX4_bitsOf : List Cond := .code yX4_bitsOf cX4_bitsOf 6 (some .long) :: ([.constantLong RX4 177 (1023), .constantDouble RX4 179 (4611686018427387904), .constantDouble RX4 181 (4841369599423283200), .constantLong RX4 183 (4503599627370496)])
def wsX4_mix : List Cond := .code yX4_mix cX4_mix 3 none :: ([.constantLong RX4 185 (31), .fieldLink RX4 187 "TickFormsModel" "hash" "J"] ++ wsX40)
def wsX4_digest_r1 : List Cond := [Cond.fieldLink RX4 32 "TickFormsModel" "thrown" "I", Cond.constantLong RX4 191 (3389), Cond.fieldLink RX4 187 "TickFormsModel" "hash" "J", Cond.fieldLink RX4 7 "TickFormsModel" "z" "[I", Cond.fieldLink RX4 103 "TickFormsModel" "typed" "I", Cond.fieldLink RX4 16 "TickFormsModel" "buffer" "[I", Cond.methodLink RX4 151 yX4_counted, Cond.instanceMethod yX4_counted, Cond.selects RX4 yX4_counted yX4_counted, Cond.initialized RX4, Cond.code yX4_counted cX4_counted 3 (some .int), Cond.fieldLink RX4 40 "TickFormsModel" "savedMany" "I", Cond.methodLink RX4 93 yX4_open, Cond.instanceMethod yX4_open, Cond.selects RX4 yX4_open yX4_open, Cond.code yX4_open cX4_open 3 (some .int), Cond.methodLink RX4 55 yX4_isOpened, Cond.instanceMethod yX4_isOpened, Cond.selects RX4 yX4_isOpened yX4_isOpened, Cond.code yX4_isOpened cX4_isOpened 6 (some .boolean), Cond.methodLink RX4 43 yX4_of, Cond.instanceMethod yX4_of, Cond.selects RX4 yX4_of yX4_of, Cond.code yX4_of cX4_of 3 (some .int)]
def wsX4_digest_r2 : List Cond := [Cond.methodLink RX4 51 yX4_isTold, Cond.instanceMethod yX4_isTold, Cond.selects RX4 yX4_isTold yX4_isTold, Cond.code yX4_isTold cX4_isTold 3 (some .boolean), Cond.methodLink RX4 58 yX4_isClosed, Cond.instanceMethod yX4_isClosed, Cond.selects RX4 yX4_isClosed yX4_isClosed, Cond.code yX4_isClosed cX4_isClosed 5 (some .boolean), Cond.methodLink RX4 47 yX4_closesNow, Cond.instanceMethod yX4_closesNow, Cond.selects RX4 yX4_closesNow yX4_closesNow, Cond.code yX4_closesNow cX4_closesNow 2 (some .boolean), Cond.methodLink RX4 142 yX4_openBoxes, Cond.instanceMethod yX4_openBoxes, Cond.selects RX4 yX4_openBoxes yX4_openBoxes, Cond.code yX4_openBoxes cX4_openBoxes 4 (some .int), Cond.methodLink RX4 97 yX4_wanting, Cond.instanceMethod yX4_wanting, Cond.selects RX4 yX4_wanting yX4_wanting, Cond.code yX4_wanting cX4_wanting 4 (some .int), Cond.methodLink RX4 61 yX4_wants, Cond.instanceMethod yX4_wants, Cond.selects RX4 yX4_wants yX4_wants, Cond.code yX4_wants cX4_wants 3 (some .boolean)]
def wsX4_digest_r3 : List Cond := [Cond.methodLink RX4 145 yX4_firstWanting, Cond.instanceMethod yX4_firstWanting, Cond.selects RX4 yX4_firstWanting yX4_firstWanting, Cond.code yX4_firstWanting cX4_firstWanting 4 (some .int), Cond.methodLink RX4 148 yX4_bits, Cond.static yX4_bits, Cond.code yX4_bits cX4_bits 3 (some .int), Cond.methodLink RX4 100 yX4_answered, Cond.instanceMethod yX4_answered, Cond.selects RX4 yX4_answered yX4_answered, Cond.code yX4_answered cX4_answered 3 (some .int), Cond.methodLink RX4 193 yX4_mix, Cond.instanceMethod yX4_mix, Cond.selects RX4 yX4_mix yX4_mix, Cond.code yX4_mix cX4_mix 3 none, Cond.constantLong RX4 185 (31), Cond.methodLink RX4 136 yX4_toldBox, Cond.instanceMethod yX4_toldBox, Cond.selects RX4 yX4_toldBox yX4_toldBox, Cond.code yX4_toldBox cX4_toldBox 4 (some .int), Cond.fieldLink RX4 19 "TickFormsModel" "values" "[I", Cond.methodLink RX4 132 yX4_reckon, Cond.instanceMethod yX4_reckon, Cond.selects RX4 yX4_reckon yX4_reckon]
def wsX4_digest_r4 : List Cond := [Cond.code yX4_reckon cX4_reckon 5 none, Cond.constant RX4 64 (999999), Cond.methodLink RX4 157 yX4_withAnswer, Cond.instanceMethod yX4_withAnswer, Cond.selects RX4 yX4_withAnswer yX4_withAnswer, Cond.code yX4_withAnswer cX4_withAnswer 7 (some .int), Cond.methodLink RX4 68 yX4_lay, Cond.instanceMethod yX4_lay, Cond.selects RX4 yX4_lay yX4_lay, Cond.code yX4_lay cX4_lay 4 none, Cond.methodLink RX4 154 yX4_lastTotal, Cond.instanceMethod yX4_lastTotal, Cond.selects RX4 yX4_lastTotal yX4_lastTotal, Cond.code yX4_lastTotal cX4_lastTotal 4 (some .int), Cond.methodLink RX4 139 yX4_toldPart, Cond.instanceMethod yX4_toldPart, Cond.selects RX4 yX4_toldPart yX4_toldPart, Cond.code yX4_toldPart cX4_toldPart 9 (some .int), Cond.methodLink RX4 164 yX4_fewest, Cond.instanceMethod yX4_fewest, Cond.selects RX4 yX4_fewest yX4_fewest, Cond.code yX4_fewest cX4_fewest 7 (some .int), Cond.fieldLink RX4 28 "TickFormsModel" "wasEmpty" "[Z", Cond.fieldLink RX4 25 "TickFormsModel" "choices" "[I"]
def wsX4_digest_r5 : List Cond := [Cond.methodLink RX4 161 yX4_chosen, Cond.instanceMethod yX4_chosen, Cond.selects RX4 yX4_chosen yX4_chosen, Cond.code yX4_chosen cX4_chosen 3 (some .int), Cond.methodLink RX4 170 yX4_carriedMost, Cond.instanceMethod yX4_carriedMost, Cond.selects RX4 yX4_carriedMost yX4_carriedMost, Cond.code yX4_carriedMost cX4_carriedMost 5 (some .int), Cond.methodLink RX4 167 yX4_carried, Cond.instanceMethod yX4_carried, Cond.selects RX4 yX4_carried yX4_carried, Cond.code yX4_carried cX4_carried 5 (some .int), Cond.methodLink RX4 173 yX4_share, Cond.instanceMethod yX4_share, Cond.selects RX4 yX4_share yX4_share, Cond.code yX4_share cX4_share 4 (some .double), Cond.methodLink RX4 197 yX4_bitsOf, Cond.static yX4_bitsOf, Cond.code yX4_bitsOf cX4_bitsOf 6 (some .long), Cond.constantLong RX4 177 (1023), Cond.constantDouble RX4 179 (4611686018427387904), Cond.constantDouble RX4 181 (4841369599423283200), Cond.constantLong RX4 183 (4503599627370496)]
def wsX4_digest : List Cond := .code yX4_digest cX4_digest 3 (some .long) :: ((wsX4_digest_r1 ++ (wsX4_digest_r2 ++ (wsX4_digest_r3 ++ (wsX4_digest_r4 ++ wsX4_digest_r5)))) ++ wsX40)
def wsJ9_min_7cf53 : List Cond := .code yJ9_min_7cf53 cJ9_min_7cf53 2 (some .int) :: ([])
def wsL_comb_r1 : List Cond := [Cond.classLink RL 13 "java/lang/IndexOutOfBoundsException", Cond.classLink RL 15 "java/lang/IllegalArgumentException", Cond.classLink RL 17 "java/lang/IllegalStateException", Cond.methodLink RL 7 yX3_comb, Cond.instanceMethod yX3_comb, Cond.selects RX3 yX3_comb yX3_comb, Cond.initialized RX3, Cond.code yX3_comb cX3_comb 3 (some .int), Cond.methodLink RX3 33 yX3_needPart, Cond.static yX3_needPart, Cond.code yX3_needPart cX3_needPart 2 none, Cond.classLink RX3 176 "java/lang/IndexOutOfBoundsException", Cond.initialized "java/lang/IndexOutOfBoundsException", Cond.methodLink RX3 37 yX3_isWithin, Cond.static yX3_isWithin, Cond.code yX3_isWithin cX3_isWithin 3 (some .boolean), Cond.methodLink RX3 41 yX3_needArgument, Cond.static yX3_needArgument, Cond.code yX3_needArgument cX3_needArgument 1 none, Cond.classLink RX3 188 "java/lang/IllegalArgumentException", Cond.initialized "java/lang/IllegalArgumentException", Cond.methodLink RX3 45 yX3_addNew, Cond.instanceMethod yX3_addNew, Cond.selects RX3 yX3_addNew yX3_addNew]
def wsL_comb_r2 : List Cond := [Cond.code yX3_addNew cX3_addNew 5 (some .int), Cond.fieldLink RX3 10 "TickForms" "form" "LTickForms$Form;", Cond.fieldLink RX3 22 "TickForms" "history" "LTickForms$History;", Cond.instanceMethod yX0_size, Cond.initialized RX0, Cond.selects RX0 yX0_size yX0_size, Cond.code yX0_size cX0_size 1 (some .int), Cond.fieldLink RX0 30 "TickForms$Form" "size" "I", Cond.methodLink RX3 58 yX3_needState, Cond.static yX3_needState, Cond.code yX3_needState cX3_needState 1 none, Cond.classLink RX3 193 "java/lang/IllegalStateException", Cond.initialized "java/lang/IllegalStateException", Cond.instanceMethod yX1_save, Cond.initialized RX1, Cond.selects RX1 yX1_save yX1_save, Cond.code yX1_save cX1_save 3 none, Cond.fieldLink RX1 22 "TickForms$History" "next" "I", Cond.fieldLink RX1 18 "TickForms$History" "size" "I", Cond.methodLink RX1 33 Lib.Math.min.name, Cond.static Lib.Math.min.name, Cond.initialized "java/lang/Math", Cond.code Lib.Math.min.name Lib.Math.min.code 2 (some .int), Cond.methodLink RX1 25 yX1_stateAt]
def wsL_comb_r3 : List Cond := [Cond.instanceMethod yX1_stateAt, Cond.selects RX1 yX1_stateAt yX1_stateAt, Cond.code yX1_stateAt cX1_stateAt 2 (some (.object "TickForms$Form")), Cond.fieldLink RX1 11 "TickForms$History" "states" "[LTickForms$Form;", Cond.instanceMethod yX0_copyFrom, Cond.selects RX0 yX0_copyFrom yX0_copyFrom, Cond.code yX0_copyFrom cX0_copyFrom 3 none, Cond.fieldLink RX0 9 "TickForms$Form" "kinds" "[I", Cond.fieldLink RX0 15 "TickForms$Form" "parts" "[I", Cond.fieldLink RX0 18 "TickForms$Form" "settings" "[I", Cond.fieldLink RX0 21 "TickForms$Form" "limits" "[I", Cond.fieldLink RX0 24 "TickForms$Form" "answers" "[I", Cond.static yX3_at, Cond.code yX3_at cX3_at 2 (some .int), Cond.static yX3_put, Cond.code yX3_put cX3_put 3 none, Cond.instanceMethod yX0_add, Cond.selects RX0 yX0_add yX0_add, Cond.code yX0_add cX0_add 5 none]
def wsL_comb : List Cond := .codeWith yL_comb cL_comb 5 (some .int) [(0, 10, 13, 13), (0, 10, 17, 15), (0, 10, 21, 17)] :: ((wsL_comb_r1 ++ (wsL_comb_r2 ++ wsL_comb_r3)) ++ wsX30 ++ wsX00 ++ wsX10 ++ (vx_atS RX3 180 "java/lang/IndexOutOfBoundsException" ["java/lang/RuntimeException", "java/lang/Exception"]).filter goodWord ++ (vx_atS RX3 192 "java/lang/IllegalArgumentException" ["java/lang/RuntimeException", "java/lang/Exception"]).filter goodWord ++ (vx_atS RX3 197 "java/lang/IllegalStateException" ["java/lang/RuntimeException", "java/lang/Exception"]).filter goodWord)
def wsL_tick_r1 : List Cond := [Cond.classLink RL 13 "java/lang/IndexOutOfBoundsException", Cond.classLink RL 15 "java/lang/IllegalArgumentException", Cond.classLink RL 17 "java/lang/IllegalStateException", Cond.methodLink RL 19 yX3_tick, Cond.instanceMethod yX3_tick, Cond.selects RX3 yX3_tick yX3_tick, Cond.initialized RX3, Cond.code yX3_tick cX3_tick 3 (some .int), Cond.methodLink RX3 33 yX3_needPart, Cond.static yX3_needPart, Cond.code yX3_needPart cX3_needPart 2 none, Cond.classLink RX3 176 "java/lang/IndexOutOfBoundsException", Cond.initialized "java/lang/IndexOutOfBoundsException", Cond.methodLink RX3 37 yX3_isWithin, Cond.static yX3_isWithin, Cond.code yX3_isWithin cX3_isWithin 3 (some .boolean), Cond.methodLink RX3 41 yX3_needArgument, Cond.static yX3_needArgument, Cond.code yX3_needArgument cX3_needArgument 1 none, Cond.classLink RX3 188 "java/lang/IllegalArgumentException", Cond.initialized "java/lang/IllegalArgumentException", Cond.methodLink RX3 45 yX3_addNew, Cond.instanceMethod yX3_addNew, Cond.selects RX3 yX3_addNew yX3_addNew]
def wsL_tick_r2 : List Cond := [Cond.code yX3_addNew cX3_addNew 5 (some .int), Cond.fieldLink RX3 10 "TickForms" "form" "LTickForms$Form;", Cond.fieldLink RX3 22 "TickForms" "history" "LTickForms$History;", Cond.instanceMethod yX0_size, Cond.initialized RX0, Cond.selects RX0 yX0_size yX0_size, Cond.code yX0_size cX0_size 1 (some .int), Cond.fieldLink RX0 30 "TickForms$Form" "size" "I", Cond.methodLink RX3 58 yX3_needState, Cond.static yX3_needState, Cond.code yX3_needState cX3_needState 1 none, Cond.classLink RX3 193 "java/lang/IllegalStateException", Cond.initialized "java/lang/IllegalStateException", Cond.instanceMethod yX1_save, Cond.initialized RX1, Cond.selects RX1 yX1_save yX1_save, Cond.code yX1_save cX1_save 3 none, Cond.fieldLink RX1 22 "TickForms$History" "next" "I", Cond.fieldLink RX1 18 "TickForms$History" "size" "I", Cond.methodLink RX1 33 Lib.Math.min.name, Cond.static Lib.Math.min.name, Cond.initialized "java/lang/Math", Cond.code Lib.Math.min.name Lib.Math.min.code 2 (some .int), Cond.methodLink RX1 25 yX1_stateAt]
def wsL_tick_r3 : List Cond := [Cond.instanceMethod yX1_stateAt, Cond.selects RX1 yX1_stateAt yX1_stateAt, Cond.code yX1_stateAt cX1_stateAt 2 (some (.object "TickForms$Form")), Cond.fieldLink RX1 11 "TickForms$History" "states" "[LTickForms$Form;", Cond.instanceMethod yX0_copyFrom, Cond.selects RX0 yX0_copyFrom yX0_copyFrom, Cond.code yX0_copyFrom cX0_copyFrom 3 none, Cond.fieldLink RX0 9 "TickForms$Form" "kinds" "[I", Cond.fieldLink RX0 15 "TickForms$Form" "parts" "[I", Cond.fieldLink RX0 18 "TickForms$Form" "settings" "[I", Cond.fieldLink RX0 21 "TickForms$Form" "limits" "[I", Cond.fieldLink RX0 24 "TickForms$Form" "answers" "[I", Cond.static yX3_at, Cond.code yX3_at cX3_at 2 (some .int), Cond.static yX3_put, Cond.code yX3_put cX3_put 3 none, Cond.instanceMethod yX0_add, Cond.selects RX0 yX0_add yX0_add, Cond.code yX0_add cX0_add 5 none]
def wsL_tick : List Cond := .codeWith yL_tick cL_tick 5 (some .int) [(0, 10, 13, 13), (0, 10, 17, 15), (0, 10, 21, 17)] :: ((wsL_tick_r1 ++ (wsL_tick_r2 ++ wsL_tick_r3)) ++ wsX30 ++ wsX00 ++ wsX10 ++ (vx_atS RX3 180 "java/lang/IndexOutOfBoundsException" ["java/lang/RuntimeException", "java/lang/Exception"]).filter goodWord ++ (vx_atS RX3 192 "java/lang/IllegalArgumentException" ["java/lang/RuntimeException", "java/lang/Exception"]).filter goodWord ++ (vx_atS RX3 197 "java/lang/IllegalStateException" ["java/lang/RuntimeException", "java/lang/Exception"]).filter goodWord)
def wsL_skip_r1 : List Cond := [Cond.classLink RL 13 "java/lang/IndexOutOfBoundsException", Cond.classLink RL 15 "java/lang/IllegalArgumentException", Cond.classLink RL 17 "java/lang/IllegalStateException", Cond.methodLink RL 22 yX3_skip, Cond.instanceMethod yX3_skip, Cond.selects RX3 yX3_skip yX3_skip, Cond.initialized RX3, Cond.code yX3_skip cX3_skip 4 (some .int), Cond.methodLink RX3 33 yX3_needPart, Cond.static yX3_needPart, Cond.code yX3_needPart cX3_needPart 2 none, Cond.classLink RX3 176 "java/lang/IndexOutOfBoundsException", Cond.initialized "java/lang/IndexOutOfBoundsException", Cond.methodLink RX3 37 yX3_isWithin, Cond.static yX3_isWithin, Cond.code yX3_isWithin cX3_isWithin 3 (some .boolean), Cond.methodLink RX3 41 yX3_needArgument, Cond.static yX3_needArgument, Cond.code yX3_needArgument cX3_needArgument 1 none, Cond.classLink RX3 188 "java/lang/IllegalArgumentException", Cond.initialized "java/lang/IllegalArgumentException", Cond.methodLink RX3 45 yX3_addNew, Cond.instanceMethod yX3_addNew, Cond.selects RX3 yX3_addNew yX3_addNew]
def wsL_skip_r2 : List Cond := [Cond.code yX3_addNew cX3_addNew 5 (some .int), Cond.fieldLink RX3 10 "TickForms" "form" "LTickForms$Form;", Cond.fieldLink RX3 22 "TickForms" "history" "LTickForms$History;", Cond.instanceMethod yX0_size, Cond.initialized RX0, Cond.selects RX0 yX0_size yX0_size, Cond.code yX0_size cX0_size 1 (some .int), Cond.fieldLink RX0 30 "TickForms$Form" "size" "I", Cond.methodLink RX3 58 yX3_needState, Cond.static yX3_needState, Cond.code yX3_needState cX3_needState 1 none, Cond.classLink RX3 193 "java/lang/IllegalStateException", Cond.initialized "java/lang/IllegalStateException", Cond.instanceMethod yX1_save, Cond.initialized RX1, Cond.selects RX1 yX1_save yX1_save, Cond.code yX1_save cX1_save 3 none, Cond.fieldLink RX1 22 "TickForms$History" "next" "I", Cond.fieldLink RX1 18 "TickForms$History" "size" "I", Cond.methodLink RX1 33 Lib.Math.min.name, Cond.static Lib.Math.min.name, Cond.initialized "java/lang/Math", Cond.code Lib.Math.min.name Lib.Math.min.code 2 (some .int), Cond.methodLink RX1 25 yX1_stateAt]
def wsL_skip_r3 : List Cond := [Cond.instanceMethod yX1_stateAt, Cond.selects RX1 yX1_stateAt yX1_stateAt, Cond.code yX1_stateAt cX1_stateAt 2 (some (.object "TickForms$Form")), Cond.fieldLink RX1 11 "TickForms$History" "states" "[LTickForms$Form;", Cond.instanceMethod yX0_copyFrom, Cond.selects RX0 yX0_copyFrom yX0_copyFrom, Cond.code yX0_copyFrom cX0_copyFrom 3 none, Cond.fieldLink RX0 9 "TickForms$Form" "kinds" "[I", Cond.fieldLink RX0 15 "TickForms$Form" "parts" "[I", Cond.fieldLink RX0 18 "TickForms$Form" "settings" "[I", Cond.fieldLink RX0 21 "TickForms$Form" "limits" "[I", Cond.fieldLink RX0 24 "TickForms$Form" "answers" "[I", Cond.static yX3_at, Cond.code yX3_at cX3_at 2 (some .int), Cond.static yX3_put, Cond.code yX3_put cX3_put 3 none, Cond.instanceMethod yX0_add, Cond.selects RX0 yX0_add yX0_add, Cond.code yX0_add cX0_add 5 none]
def wsL_skip : List Cond := .codeWith yL_skip cL_skip 6 (some .int) [(0, 12, 15, 13), (0, 12, 19, 15), (0, 12, 23, 17)] :: ((wsL_skip_r1 ++ (wsL_skip_r2 ++ wsL_skip_r3)) ++ wsX30 ++ wsX00 ++ wsX10 ++ (vx_atS RX3 180 "java/lang/IndexOutOfBoundsException" ["java/lang/RuntimeException", "java/lang/Exception"]).filter goodWord ++ (vx_atS RX3 192 "java/lang/IllegalArgumentException" ["java/lang/RuntimeException", "java/lang/Exception"]).filter goodWord ++ (vx_atS RX3 197 "java/lang/IllegalStateException" ["java/lang/RuntimeException", "java/lang/Exception"]).filter goodWord)
def wsL_total_r1 : List Cond := [Cond.classLink RL 13 "java/lang/IndexOutOfBoundsException", Cond.classLink RL 15 "java/lang/IllegalArgumentException", Cond.classLink RL 17 "java/lang/IllegalStateException", Cond.methodLink RL 26 yX3_total, Cond.instanceMethod yX3_total, Cond.selects RX3 yX3_total yX3_total, Cond.initialized RX3, Cond.code yX3_total cX3_total 3 (some .int), Cond.constant RX3 49 (65535), Cond.fieldLink RX3 10 "TickForms" "form" "LTickForms$Form;", Cond.methodLink RX3 33 yX3_needPart, Cond.static yX3_needPart, Cond.code yX3_needPart cX3_needPart 2 none, Cond.classLink RX3 176 "java/lang/IndexOutOfBoundsException", Cond.initialized "java/lang/IndexOutOfBoundsException", Cond.methodLink RX3 37 yX3_isWithin, Cond.static yX3_isWithin, Cond.code yX3_isWithin cX3_isWithin 3 (some .boolean), Cond.instanceMethod yX0_canCarry, Cond.initialized RX0, Cond.selects RX0 yX0_canCarry yX0_canCarry, Cond.code yX0_canCarry cX0_canCarry 4 (some .boolean), Cond.fieldLink RX0 9 "TickForms$Form" "kinds" "[I", Cond.static yX3_at]
def wsL_total_r2 : List Cond := [Cond.code yX3_at cX3_at 2 (some .int), Cond.static yX3_isInMask, Cond.code yX3_isInMask cX3_isInMask 2 (some .boolean), Cond.methodLink RX0 86 yX0_has, Cond.instanceMethod yX0_has, Cond.selects RX0 yX0_has yX0_has, Cond.code yX0_has cX0_has 2 (some .boolean), Cond.fieldLink RX0 30 "TickForms$Form" "size" "I", Cond.methodLink RX3 41 yX3_needArgument, Cond.static yX3_needArgument, Cond.code yX3_needArgument cX3_needArgument 1 none, Cond.classLink RX3 188 "java/lang/IllegalArgumentException", Cond.initialized "java/lang/IllegalArgumentException", Cond.methodLink RX3 45 yX3_addNew, Cond.instanceMethod yX3_addNew, Cond.selects RX3 yX3_addNew yX3_addNew, Cond.code yX3_addNew cX3_addNew 5 (some .int), Cond.fieldLink RX3 22 "TickForms" "history" "LTickForms$History;", Cond.instanceMethod yX0_size, Cond.selects RX0 yX0_size yX0_size, Cond.code yX0_size cX0_size 1 (some .int), Cond.methodLink RX3 58 yX3_needState, Cond.static yX3_needState, Cond.code yX3_needState cX3_needState 1 none]
def wsL_total_r3 : List Cond := [Cond.classLink RX3 193 "java/lang/IllegalStateException", Cond.initialized "java/lang/IllegalStateException", Cond.instanceMethod yX1_save, Cond.initialized RX1, Cond.selects RX1 yX1_save yX1_save, Cond.code yX1_save cX1_save 3 none, Cond.fieldLink RX1 22 "TickForms$History" "next" "I", Cond.fieldLink RX1 18 "TickForms$History" "size" "I", Cond.methodLink RX1 33 Lib.Math.min.name, Cond.static Lib.Math.min.name, Cond.initialized "java/lang/Math", Cond.code Lib.Math.min.name Lib.Math.min.code 2 (some .int), Cond.methodLink RX1 25 yX1_stateAt, Cond.instanceMethod yX1_stateAt, Cond.selects RX1 yX1_stateAt yX1_stateAt, Cond.code yX1_stateAt cX1_stateAt 2 (some (.object "TickForms$Form")), Cond.fieldLink RX1 11 "TickForms$History" "states" "[LTickForms$Form;", Cond.instanceMethod yX0_copyFrom, Cond.selects RX0 yX0_copyFrom yX0_copyFrom, Cond.code yX0_copyFrom cX0_copyFrom 3 none, Cond.fieldLink RX0 15 "TickForms$Form" "parts" "[I", Cond.fieldLink RX0 18 "TickForms$Form" "settings" "[I", Cond.fieldLink RX0 21 "TickForms$Form" "limits" "[I", Cond.fieldLink RX0 24 "TickForms$Form" "answers" "[I"]
def wsL_total_r4 : List Cond := [Cond.static yX3_put, Cond.code yX3_put cX3_put 3 none, Cond.instanceMethod yX0_add, Cond.selects RX0 yX0_add yX0_add, Cond.code yX0_add cX0_add 5 none]
def wsL_total : List Cond := .codeWith yL_total cL_total 5 (some .int) [(0, 10, 13, 13), (0, 10, 17, 15), (0, 10, 21, 17)] :: ((wsL_total_r1 ++ (wsL_total_r2 ++ (wsL_total_r3 ++ wsL_total_r4))) ++ wsX30 ++ wsX00 ++ wsX10 ++ (vx_atS RX3 180 "java/lang/IndexOutOfBoundsException" ["java/lang/RuntimeException", "java/lang/Exception"]).filter goodWord ++ (vx_atS RX3 192 "java/lang/IllegalArgumentException" ["java/lang/RuntimeException", "java/lang/Exception"]).filter goodWord ++ (vx_atS RX3 197 "java/lang/IllegalStateException" ["java/lang/RuntimeException", "java/lang/Exception"]).filter goodWord)
def wsL_drop_r1 : List Cond := [Cond.classLink RL 17 "java/lang/IllegalStateException", Cond.methodLink RL 29 yX3_drop, Cond.instanceMethod yX3_drop, Cond.selects RX3 yX3_drop yX3_drop, Cond.initialized RX3, Cond.code yX3_drop cX3_drop 3 (some .int), Cond.fieldLink RX3 10 "TickForms" "form" "LTickForms$Form;", Cond.fieldLink RX3 22 "TickForms" "history" "LTickForms$History;", Cond.instanceMethod yX0_size, Cond.initialized RX0, Cond.selects RX0 yX0_size yX0_size, Cond.code yX0_size cX0_size 1 (some .int), Cond.fieldLink RX0 30 "TickForms$Form" "size" "I", Cond.methodLink RX3 58 yX3_needState, Cond.static yX3_needState, Cond.code yX3_needState cX3_needState 1 none, Cond.classLink RX3 193 "java/lang/IllegalStateException", Cond.initialized "java/lang/IllegalStateException", Cond.instanceMethod yX1_save, Cond.initialized RX1, Cond.selects RX1 yX1_save yX1_save, Cond.code yX1_save cX1_save 3 none, Cond.fieldLink RX1 22 "TickForms$History" "next" "I", Cond.fieldLink RX1 18 "TickForms$History" "size" "I"]
def wsL_drop_r2 : List Cond := [Cond.methodLink RX1 33 Lib.Math.min.name, Cond.static Lib.Math.min.name, Cond.initialized "java/lang/Math", Cond.code Lib.Math.min.name Lib.Math.min.code 2 (some .int), Cond.methodLink RX1 25 yX1_stateAt, Cond.instanceMethod yX1_stateAt, Cond.selects RX1 yX1_stateAt yX1_stateAt, Cond.code yX1_stateAt cX1_stateAt 2 (some (.object "TickForms$Form")), Cond.fieldLink RX1 11 "TickForms$History" "states" "[LTickForms$Form;", Cond.instanceMethod yX0_copyFrom, Cond.selects RX0 yX0_copyFrom yX0_copyFrom, Cond.code yX0_copyFrom cX0_copyFrom 3 none, Cond.fieldLink RX0 9 "TickForms$Form" "kinds" "[I", Cond.fieldLink RX0 15 "TickForms$Form" "parts" "[I", Cond.fieldLink RX0 18 "TickForms$Form" "settings" "[I", Cond.fieldLink RX0 21 "TickForms$Form" "limits" "[I", Cond.fieldLink RX0 24 "TickForms$Form" "answers" "[I", Cond.static yX3_at, Cond.code yX3_at cX3_at 2 (some .int), Cond.static yX3_put, Cond.code yX3_put cX3_put 3 none, Cond.instanceMethod yX0_kindOf, Cond.selects RX0 yX0_kindOf yX0_kindOf, Cond.code yX0_kindOf cX0_kindOf 2 (some .int)]
def wsL_drop_r3 : List Cond := [Cond.instanceMethod yX0_removeLast, Cond.selects RX0 yX0_removeLast yX0_removeLast, Cond.code yX0_removeLast cX0_removeLast 1 none]
def wsL_drop : List Cond := .codeWith yL_drop cL_drop 3 (some .int) [(0, 8, 11, 17)] :: ((wsL_drop_r1 ++ (wsL_drop_r2 ++ wsL_drop_r3)) ++ wsX30 ++ wsX00 ++ wsX10 ++ (vx_atS RX3 197 "java/lang/IllegalStateException" ["java/lang/RuntimeException", "java/lang/Exception"]).filter goodWord)
def wsL_answer_r1 : List Cond := [Cond.classLink RL 13 "java/lang/IndexOutOfBoundsException", Cond.classLink RL 15 "java/lang/IllegalArgumentException", Cond.methodLink RL 33 yX3_answer, Cond.instanceMethod yX3_answer, Cond.selects RX3 yX3_answer yX3_answer, Cond.initialized RX3, Cond.code yX3_answer cX3_answer 3 (some .int), Cond.fieldLink RX3 10 "TickForms" "form" "LTickForms$Form;", Cond.fieldLink RX3 22 "TickForms" "history" "LTickForms$History;", Cond.methodLink RX3 72 yX3_needBox, Cond.instanceMethod yX3_needBox, Cond.selects RX3 yX3_needBox yX3_needBox, Cond.code yX3_needBox cX3_needBox 2 none, Cond.classLink RX3 176 "java/lang/IndexOutOfBoundsException", Cond.initialized "java/lang/IndexOutOfBoundsException", Cond.instanceMethod yX0_has, Cond.initialized RX0, Cond.selects RX0 yX0_has yX0_has, Cond.code yX0_has cX0_has 2 (some .boolean), Cond.fieldLink RX0 30 "TickForms$Form" "size" "I", Cond.instanceMethod yX0_fits, Cond.selects RX0 yX0_fits yX0_fits, Cond.code yX0_fits cX0_fits 3 (some .boolean), Cond.methodLink RX0 42 yX0_mostAnswer]
def wsL_answer_r2 : List Cond := [Cond.instanceMethod yX0_mostAnswer, Cond.selects RX0 yX0_mostAnswer yX0_mostAnswer, Cond.code yX0_mostAnswer cX0_mostAnswer 2 (some .int), Cond.fieldLink RX0 9 "TickForms$Form" "kinds" "[I", Cond.fieldLink RX0 18 "TickForms$Form" "settings" "[I", Cond.static yX3_at, Cond.code yX3_at cX3_at 2 (some .int), Cond.methodLink RX0 50 yX0_mostWithTeeth, Cond.static yX0_mostWithTeeth, Cond.code yX0_mostWithTeeth cX0_mostWithTeeth 3 (some .int), Cond.static yX3_isWithin, Cond.code yX3_isWithin cX3_isWithin 3 (some .boolean), Cond.methodLink RX3 41 yX3_needArgument, Cond.static yX3_needArgument, Cond.code yX3_needArgument cX3_needArgument 1 none, Cond.classLink RX3 188 "java/lang/IllegalArgumentException", Cond.initialized "java/lang/IllegalArgumentException", Cond.instanceMethod yX1_save, Cond.initialized RX1, Cond.selects RX1 yX1_save yX1_save, Cond.code yX1_save cX1_save 3 none, Cond.fieldLink RX1 22 "TickForms$History" "next" "I", Cond.fieldLink RX1 18 "TickForms$History" "size" "I", Cond.methodLink RX1 33 Lib.Math.min.name]
def wsL_answer_r3 : List Cond := [Cond.static Lib.Math.min.name, Cond.initialized "java/lang/Math", Cond.code Lib.Math.min.name Lib.Math.min.code 2 (some .int), Cond.methodLink RX1 25 yX1_stateAt, Cond.instanceMethod yX1_stateAt, Cond.selects RX1 yX1_stateAt yX1_stateAt, Cond.code yX1_stateAt cX1_stateAt 2 (some (.object "TickForms$Form")), Cond.fieldLink RX1 11 "TickForms$History" "states" "[LTickForms$Form;", Cond.instanceMethod yX0_copyFrom, Cond.selects RX0 yX0_copyFrom yX0_copyFrom, Cond.code yX0_copyFrom cX0_copyFrom 3 none, Cond.fieldLink RX0 15 "TickForms$Form" "parts" "[I", Cond.fieldLink RX0 21 "TickForms$Form" "limits" "[I", Cond.fieldLink RX0 24 "TickForms$Form" "answers" "[I", Cond.static yX3_put, Cond.code yX3_put cX3_put 3 none, Cond.instanceMethod yX0_give, Cond.selects RX0 yX0_give yX0_give, Cond.code yX0_give cX0_give 3 none, Cond.instanceMethod yX0_openParts, Cond.selects RX0 yX0_openParts yX0_openParts, Cond.code yX0_openParts cX0_openParts 3 (some .int), Cond.methodLink RX0 53 yX0_isTicked, Cond.instanceMethod yX0_isTicked]
def wsL_answer_r4 : List Cond := [Cond.selects RX0 yX0_isTicked yX0_isTicked, Cond.code yX0_isTicked cX0_isTicked 5 (some .boolean), Cond.methodLink RX0 60 yX0_isFor, Cond.instanceMethod yX0_isFor, Cond.selects RX0 yX0_isFor yX0_isFor, Cond.code yX0_isFor cX0_isFor 4 (some .boolean), Cond.methodLink RX0 63 yX0_isOpen, Cond.instanceMethod yX0_isOpen, Cond.selects RX0 yX0_isOpen yX0_isOpen, Cond.code yX0_isOpen cX0_isOpen 3 (some .boolean), Cond.static yX3_isInMask, Cond.code yX3_isInMask cX3_isInMask 2 (some .boolean), Cond.methodLink RX0 57 yX0_isSkipped, Cond.instanceMethod yX0_isSkipped, Cond.selects RX0 yX0_isSkipped yX0_isSkipped, Cond.code yX0_isSkipped cX0_isSkipped 5 (some .boolean), Cond.methodLink RX0 66 yX0_isEmpty, Cond.instanceMethod yX0_isEmpty, Cond.selects RX0 yX0_isEmpty yX0_isEmpty, Cond.code yX0_isEmpty cX0_isEmpty 2 (some .boolean), Cond.instanceMethod yX0_wanting, Cond.selects RX0 yX0_wanting yX0_wanting, Cond.code yX0_wanting cX0_wanting 4 (some .int), Cond.methodLink RX0 73 yX0_wants]
def wsL_answer_r5 : List Cond := [Cond.instanceMethod yX0_wants, Cond.selects RX0 yX0_wants yX0_wants, Cond.code yX0_wants cX0_wants 3 (some .boolean)]
def wsL_answer : List Cond := .codeWith yL_answer cL_answer 5 (some .int) [(0, 10, 13, 13), (0, 10, 17, 15)] :: ((wsL_answer_r1 ++ (wsL_answer_r2 ++ (wsL_answer_r3 ++ (wsL_answer_r4 ++ wsL_answer_r5)))) ++ wsX30 ++ wsX00 ++ wsX10 ++ (vx_atS RX3 180 "java/lang/IndexOutOfBoundsException" ["java/lang/RuntimeException", "java/lang/Exception"]).filter goodWord ++ (vx_atS RX3 192 "java/lang/IllegalArgumentException" ["java/lang/RuntimeException", "java/lang/Exception"]).filter goodWord)
def wsL_append_r1 : List Cond := [Cond.classLink RL 15 "java/lang/IllegalArgumentException", Cond.classLink RL 17 "java/lang/IllegalStateException", Cond.methodLink RL 36 yX3_append, Cond.instanceMethod yX3_append, Cond.selects RX3 yX3_append yX3_append, Cond.initialized RX3, Cond.code yX3_append cX3_append 2 (some .int), Cond.fieldLink RX3 29 "TickForms" "text" "LTickForms$Text;", Cond.methodLink RX3 37 yX3_isWithin, Cond.static yX3_isWithin, Cond.code yX3_isWithin cX3_isWithin 3 (some .boolean), Cond.methodLink RX3 41 yX3_needArgument, Cond.static yX3_needArgument, Cond.code yX3_needArgument cX3_needArgument 1 none, Cond.classLink RX3 188 "java/lang/IllegalArgumentException", Cond.initialized "java/lang/IllegalArgumentException", Cond.instanceMethod yX2_length, Cond.initialized RX2, Cond.selects RX2 yX2_length yX2_length, Cond.code yX2_length cX2_length 1 (some .int), Cond.fieldLink RX2 15 "TickForms$Text" "length" "I", Cond.methodLink RX3 58 yX3_needState, Cond.static yX3_needState, Cond.code yX3_needState cX3_needState 1 none]
def wsL_append_r2 : List Cond := [Cond.classLink RX3 193 "java/lang/IllegalStateException", Cond.initialized "java/lang/IllegalStateException", Cond.instanceMethod yX2_add, Cond.selects RX2 yX2_add yX2_add, Cond.code yX2_add cX2_add 2 none, Cond.fieldLink RX2 9 "TickForms$Text" "codes" "[I", Cond.static yX3_put, Cond.code yX3_put cX3_put 3 none]
def wsL_append : List Cond := .codeWith yL_append cL_append 4 (some .int) [(0, 9, 12, 15), (0, 9, 15, 17)] :: ((wsL_append_r1 ++ wsL_append_r2) ++ wsX30 ++ wsX20 ++ (vx_atS RX3 192 "java/lang/IllegalArgumentException" ["java/lang/RuntimeException", "java/lang/Exception"]).filter goodWord ++ (vx_atS RX3 197 "java/lang/IllegalStateException" ["java/lang/RuntimeException", "java/lang/Exception"]).filter goodWord)
def wsL_fill_r1 : List Cond := [Cond.classLink RL 15 "java/lang/IllegalArgumentException", Cond.methodLink RL 40 yX3_fill, Cond.instanceMethod yX3_fill, Cond.selects RX3 yX3_fill yX3_fill, Cond.initialized RX3, Cond.code yX3_fill cX3_fill 2 (some .int), Cond.fieldLink RX3 29 "TickForms" "text" "LTickForms$Text;", Cond.fieldLink RX3 22 "TickForms" "history" "LTickForms$History;", Cond.fieldLink RX3 10 "TickForms" "form" "LTickForms$Form;", Cond.instanceMethod yX2_isComplete, Cond.initialized RX2, Cond.selects RX2 yX2_isComplete yX2_isComplete, Cond.code yX2_isComplete cX2_isComplete 3 (some .boolean), Cond.fieldLink RX2 15 "TickForms$Text" "length" "I", Cond.methodLink RX2 27 yX2_codeAt, Cond.instanceMethod yX2_codeAt, Cond.selects RX2 yX2_codeAt yX2_codeAt, Cond.code yX2_codeAt cX2_codeAt 2 (some .int), Cond.fieldLink RX2 9 "TickForms$Text" "codes" "[I", Cond.static yX3_at, Cond.code yX3_at cX3_at 2 (some .int), Cond.methodLink RX2 31 yX2_stateAfter, Cond.static yX2_stateAfter, Cond.code yX2_stateAfter cX2_stateAfter 2 (some .int)]
def wsL_fill_r2 : List Cond := [Cond.methodLink RX2 35 yX2_isDigit, Cond.static yX2_isDigit, Cond.code yX2_isDigit cX2_isDigit 1 (some .boolean), Cond.static yX3_isWithin, Cond.code yX3_isWithin cX3_isWithin 3 (some .boolean), Cond.methodLink RX2 43 yX2_afterBox, Cond.static yX2_afterBox, Cond.code yX2_afterBox cX2_afterBox 1 (some .int), Cond.methodLink RX2 46 yX2_afterAnswer, Cond.static yX2_afterAnswer, Cond.code yX2_afterAnswer cX2_afterAnswer 1 (some .int), Cond.methodLink RX3 41 yX3_needArgument, Cond.static yX3_needArgument, Cond.code yX3_needArgument cX3_needArgument 1 none, Cond.classLink RX3 188 "java/lang/IllegalArgumentException", Cond.initialized "java/lang/IllegalArgumentException", Cond.instanceMethod yX1_save, Cond.initialized RX1, Cond.selects RX1 yX1_save yX1_save, Cond.code yX1_save cX1_save 3 none, Cond.fieldLink RX1 22 "TickForms$History" "next" "I", Cond.fieldLink RX1 18 "TickForms$History" "size" "I", Cond.methodLink RX1 33 Lib.Math.min.name, Cond.static Lib.Math.min.name]
def wsL_fill_r3 : List Cond := [Cond.initialized "java/lang/Math", Cond.code Lib.Math.min.name Lib.Math.min.code 2 (some .int), Cond.methodLink RX1 25 yX1_stateAt, Cond.instanceMethod yX1_stateAt, Cond.selects RX1 yX1_stateAt yX1_stateAt, Cond.code yX1_stateAt cX1_stateAt 2 (some (.object "TickForms$Form")), Cond.fieldLink RX1 11 "TickForms$History" "states" "[LTickForms$Form;", Cond.instanceMethod yX0_copyFrom, Cond.initialized RX0, Cond.selects RX0 yX0_copyFrom yX0_copyFrom, Cond.code yX0_copyFrom cX0_copyFrom 3 none, Cond.fieldLink RX0 30 "TickForms$Form" "size" "I", Cond.fieldLink RX0 9 "TickForms$Form" "kinds" "[I", Cond.fieldLink RX0 15 "TickForms$Form" "parts" "[I", Cond.fieldLink RX0 18 "TickForms$Form" "settings" "[I", Cond.fieldLink RX0 21 "TickForms$Form" "limits" "[I", Cond.fieldLink RX0 24 "TickForms$Form" "answers" "[I", Cond.static yX3_put, Cond.code yX3_put cX3_put 3 none, Cond.methodLink RX3 108 yX3_giveAnswersOfText, Cond.instanceMethod yX3_giveAnswersOfText, Cond.selects RX3 yX3_giveAnswersOfText yX3_giveAnswersOfText, Cond.code yX3_giveAnswersOfText cX3_giveAnswersOfText 9 (some .int), Cond.instanceMethod yX2_length]
def wsL_fill_r4 : List Cond := [Cond.selects RX2 yX2_length yX2_length, Cond.code yX2_length cX2_length 1 (some .int), Cond.instanceMethod yX0_has, Cond.selects RX0 yX0_has yX0_has, Cond.code yX0_has cX0_has 2 (some .boolean), Cond.instanceMethod yX0_fits, Cond.selects RX0 yX0_fits yX0_fits, Cond.code yX0_fits cX0_fits 3 (some .boolean), Cond.methodLink RX0 42 yX0_mostAnswer, Cond.instanceMethod yX0_mostAnswer, Cond.selects RX0 yX0_mostAnswer yX0_mostAnswer, Cond.code yX0_mostAnswer cX0_mostAnswer 2 (some .int), Cond.methodLink RX0 50 yX0_mostWithTeeth, Cond.static yX0_mostWithTeeth, Cond.code yX0_mostWithTeeth cX0_mostWithTeeth 3 (some .int), Cond.instanceMethod yX0_give, Cond.selects RX0 yX0_give yX0_give, Cond.code yX0_give cX0_give 3 none, Cond.instanceMethod yX2_empty, Cond.selects RX2 yX2_empty yX2_empty, Cond.code yX2_empty cX2_empty 1 none]
def wsL_fill : List Cond := .codeWith yL_fill cL_fill 3 (some .int) [(0, 8, 11, 15)] :: ((wsL_fill_r1 ++ (wsL_fill_r2 ++ (wsL_fill_r3 ++ wsL_fill_r4))) ++ wsX30 ++ wsX20 ++ wsX10 ++ wsX00 ++ (vx_atS RX3 192 "java/lang/IllegalArgumentException" ["java/lang/RuntimeException", "java/lang/Exception"]).filter goodWord)
def wsL_undo_r1 : List Cond := [Cond.classLink RL 17 "java/lang/IllegalStateException", Cond.methodLink RL 43 yX3_undo, Cond.instanceMethod yX3_undo, Cond.selects RX3 yX3_undo yX3_undo, Cond.initialized RX3, Cond.code yX3_undo cX3_undo 1 (some .int), Cond.fieldLink RX3 22 "TickForms" "history" "LTickForms$History;", Cond.fieldLink RX3 10 "TickForms" "form" "LTickForms$Form;", Cond.instanceMethod yX1_size, Cond.initialized RX1, Cond.selects RX1 yX1_size yX1_size, Cond.code yX1_size cX1_size 1 (some .int), Cond.fieldLink RX1 18 "TickForms$History" "size" "I", Cond.methodLink RX3 58 yX3_needState, Cond.static yX3_needState, Cond.code yX3_needState cX3_needState 1 none, Cond.classLink RX3 193 "java/lang/IllegalStateException", Cond.initialized "java/lang/IllegalStateException", Cond.instanceMethod yX1_restore, Cond.selects RX1 yX1_restore yX1_restore, Cond.code yX1_restore cX1_restore 3 none, Cond.fieldLink RX1 22 "TickForms$History" "next" "I", Cond.methodLink RX1 25 yX1_stateAt, Cond.instanceMethod yX1_stateAt]
def wsL_undo_r2 : List Cond := [Cond.selects RX1 yX1_stateAt yX1_stateAt, Cond.code yX1_stateAt cX1_stateAt 2 (some (.object "TickForms$Form")), Cond.fieldLink RX1 11 "TickForms$History" "states" "[LTickForms$Form;", Cond.instanceMethod yX0_copyFrom, Cond.initialized RX0, Cond.selects RX0 yX0_copyFrom yX0_copyFrom, Cond.code yX0_copyFrom cX0_copyFrom 3 none, Cond.fieldLink RX0 30 "TickForms$Form" "size" "I", Cond.fieldLink RX0 9 "TickForms$Form" "kinds" "[I", Cond.fieldLink RX0 15 "TickForms$Form" "parts" "[I", Cond.fieldLink RX0 18 "TickForms$Form" "settings" "[I", Cond.fieldLink RX0 21 "TickForms$Form" "limits" "[I", Cond.fieldLink RX0 24 "TickForms$Form" "answers" "[I", Cond.static yX3_at, Cond.code yX3_at cX3_at 2 (some .int), Cond.static yX3_put, Cond.code yX3_put cX3_put 3 none]
def wsL_undo : List Cond := .codeWith yL_undo cL_undo 3 (some .int) [(0, 8, 11, 17)] :: ((wsL_undo_r1 ++ wsL_undo_r2) ++ wsX30 ++ wsX10 ++ wsX00 ++ (vx_atS RX3 197 "java/lang/IllegalStateException" ["java/lang/RuntimeException", "java/lang/Exception"]).filter goodWord)
def wsL_box_r1 : List Cond := [Cond.classLink RL 13 "java/lang/IndexOutOfBoundsException", Cond.classLink RL 15 "java/lang/IllegalArgumentException", Cond.methodLink RL 46 yX3_box, Cond.instanceMethod yX3_box, Cond.selects RX3 yX3_box yX3_box, Cond.initialized RX3, Cond.code yX3_box cX3_box 3 (some .int), Cond.fieldLink RX3 10 "TickForms" "form" "LTickForms$Form;", Cond.methodLink RX3 72 yX3_needBox, Cond.instanceMethod yX3_needBox, Cond.selects RX3 yX3_needBox yX3_needBox, Cond.code yX3_needBox cX3_needBox 2 none, Cond.classLink RX3 176 "java/lang/IndexOutOfBoundsException", Cond.initialized "java/lang/IndexOutOfBoundsException", Cond.instanceMethod yX0_has, Cond.initialized RX0, Cond.selects RX0 yX0_has yX0_has, Cond.code yX0_has cX0_has 2 (some .boolean), Cond.fieldLink RX0 30 "TickForms$Form" "size" "I", Cond.methodLink RX3 37 yX3_isWithin, Cond.static yX3_isWithin, Cond.code yX3_isWithin cX3_isWithin 3 (some .boolean), Cond.methodLink RX3 41 yX3_needArgument, Cond.static yX3_needArgument]
def wsL_box_r2 : List Cond := [Cond.code yX3_needArgument cX3_needArgument 1 none, Cond.classLink RX3 188 "java/lang/IllegalArgumentException", Cond.initialized "java/lang/IllegalArgumentException", Cond.instanceMethod yX0_openParts, Cond.selects RX0 yX0_openParts yX0_openParts, Cond.code yX0_openParts cX0_openParts 3 (some .int), Cond.methodLink RX0 53 yX0_isTicked, Cond.instanceMethod yX0_isTicked, Cond.selects RX0 yX0_isTicked yX0_isTicked, Cond.code yX0_isTicked cX0_isTicked 5 (some .boolean), Cond.fieldLink RX0 24 "TickForms$Form" "answers" "[I", Cond.methodLink RX0 60 yX0_isFor, Cond.instanceMethod yX0_isFor, Cond.selects RX0 yX0_isFor yX0_isFor, Cond.code yX0_isFor cX0_isFor 4 (some .boolean), Cond.fieldLink RX0 9 "TickForms$Form" "kinds" "[I", Cond.fieldLink RX0 18 "TickForms$Form" "settings" "[I", Cond.static yX3_at, Cond.code yX3_at cX3_at 2 (some .int), Cond.methodLink RX0 63 yX0_isOpen, Cond.instanceMethod yX0_isOpen, Cond.selects RX0 yX0_isOpen yX0_isOpen, Cond.code yX0_isOpen cX0_isOpen 3 (some .boolean), Cond.fieldLink RX0 15 "TickForms$Form" "parts" "[I"]
def wsL_box_r3 : List Cond := [Cond.static yX3_isInMask, Cond.code yX3_isInMask cX3_isInMask 2 (some .boolean), Cond.methodLink RX0 57 yX0_isSkipped, Cond.instanceMethod yX0_isSkipped, Cond.selects RX0 yX0_isSkipped yX0_isSkipped, Cond.code yX0_isSkipped cX0_isSkipped 5 (some .boolean), Cond.fieldLink RX0 21 "TickForms$Form" "limits" "[I", Cond.methodLink RX0 66 yX0_isEmpty, Cond.instanceMethod yX0_isEmpty, Cond.selects RX0 yX0_isEmpty yX0_isEmpty, Cond.code yX0_isEmpty cX0_isEmpty 2 (some .boolean), Cond.methodLink RX3 115 yX3_ofBox, Cond.instanceMethod yX3_ofBox, Cond.selects RX3 yX3_ofBox yX3_ofBox, Cond.code yX3_ofBox cX3_ofBox 4 (some .int), Cond.instanceMethod yX0_kindOf, Cond.selects RX0 yX0_kindOf yX0_kindOf, Cond.code yX0_kindOf cX0_kindOf 2 (some .int), Cond.instanceMethod yX0_partOf, Cond.selects RX0 yX0_partOf yX0_partOf, Cond.code yX0_partOf cX0_partOf 2 (some .int), Cond.instanceMethod yX0_settingOf, Cond.selects RX0 yX0_settingOf yX0_settingOf, Cond.code yX0_settingOf cX0_settingOf 2 (some .int)]
def wsL_box_r4 : List Cond := [Cond.instanceMethod yX0_limitOf, Cond.selects RX0 yX0_limitOf yX0_limitOf, Cond.code yX0_limitOf cX0_limitOf 2 (some .int), Cond.instanceMethod yX0_answerOf, Cond.selects RX0 yX0_answerOf yX0_answerOf, Cond.code yX0_answerOf cX0_answerOf 2 (some .int), Cond.instanceMethod yX0_valueOf, Cond.selects RX0 yX0_valueOf yX0_valueOf, Cond.code yX0_valueOf cX0_valueOf 4 (some .int), Cond.fieldLink RX0 27 "TickForms$Form" "values" "[I", Cond.methodLink RX0 89 yX0_sumOf, Cond.instanceMethod yX0_sumOf, Cond.selects RX0 yX0_sumOf yX0_sumOf, Cond.code yX0_sumOf cX0_sumOf 5 (some .int), Cond.constant RX0 96 (999999), Cond.methodLink RX0 97 Lib.Math.min.name, Cond.static Lib.Math.min.name, Cond.initialized "java/lang/Math", Cond.code Lib.Math.min.name Lib.Math.min.code 2 (some .int), Cond.methodLink RX0 93 yX0_ownValue, Cond.instanceMethod yX0_ownValue, Cond.selects RX0 yX0_ownValue yX0_ownValue, Cond.code yX0_ownValue cX0_ownValue 2 (some .int), Cond.static yX3_put]
def wsL_box_r5 : List Cond := [Cond.code yX3_put cX3_put 3 none, Cond.instanceMethod yX0_wants, Cond.selects RX0 yX0_wants yX0_wants, Cond.code yX0_wants cX0_wants 3 (some .boolean)]
def wsL_box : List Cond := .codeWith yL_box cL_box 5 (some .int) [(0, 10, 13, 13), (0, 10, 17, 15)] :: ((wsL_box_r1 ++ (wsL_box_r2 ++ (wsL_box_r3 ++ (wsL_box_r4 ++ wsL_box_r5)))) ++ wsX30 ++ wsX00 ++ (vx_atS RX3 180 "java/lang/IndexOutOfBoundsException" ["java/lang/RuntimeException", "java/lang/Exception"]).filter goodWord ++ (vx_atS RX3 192 "java/lang/IllegalArgumentException" ["java/lang/RuntimeException", "java/lang/Exception"]).filter goodWord)
def wsL_part_r1 : List Cond := [Cond.classLink RL 13 "java/lang/IndexOutOfBoundsException", Cond.classLink RL 15 "java/lang/IllegalArgumentException", Cond.methodLink RL 49 yX3_part, Cond.instanceMethod yX3_part, Cond.selects RX3 yX3_part yX3_part, Cond.initialized RX3, Cond.code yX3_part cX3_part 3 (some .int), Cond.fieldLink RX3 10 "TickForms" "form" "LTickForms$Form;", Cond.methodLink RX3 33 yX3_needPart, Cond.static yX3_needPart, Cond.code yX3_needPart cX3_needPart 2 none, Cond.classLink RX3 176 "java/lang/IndexOutOfBoundsException", Cond.initialized "java/lang/IndexOutOfBoundsException", Cond.methodLink RX3 37 yX3_isWithin, Cond.static yX3_isWithin, Cond.code yX3_isWithin cX3_isWithin 3 (some .boolean), Cond.methodLink RX3 41 yX3_needArgument, Cond.static yX3_needArgument, Cond.code yX3_needArgument cX3_needArgument 1 none, Cond.classLink RX3 188 "java/lang/IllegalArgumentException", Cond.initialized "java/lang/IllegalArgumentException", Cond.instanceMethod yX0_openParts, Cond.initialized RX0, Cond.selects RX0 yX0_openParts yX0_openParts]
def wsL_part_r2 : List Cond := [Cond.code yX0_openParts cX0_openParts 3 (some .int), Cond.methodLink RX0 53 yX0_isTicked, Cond.instanceMethod yX0_isTicked, Cond.selects RX0 yX0_isTicked yX0_isTicked, Cond.code yX0_isTicked cX0_isTicked 5 (some .boolean), Cond.fieldLink RX0 30 "TickForms$Form" "size" "I", Cond.fieldLink RX0 24 "TickForms$Form" "answers" "[I", Cond.methodLink RX0 60 yX0_isFor, Cond.instanceMethod yX0_isFor, Cond.selects RX0 yX0_isFor yX0_isFor, Cond.code yX0_isFor cX0_isFor 4 (some .boolean), Cond.fieldLink RX0 9 "TickForms$Form" "kinds" "[I", Cond.fieldLink RX0 18 "TickForms$Form" "settings" "[I", Cond.static yX3_at, Cond.code yX3_at cX3_at 2 (some .int), Cond.methodLink RX0 63 yX0_isOpen, Cond.instanceMethod yX0_isOpen, Cond.selects RX0 yX0_isOpen yX0_isOpen, Cond.code yX0_isOpen cX0_isOpen 3 (some .boolean), Cond.fieldLink RX0 15 "TickForms$Form" "parts" "[I", Cond.static yX3_isInMask, Cond.code yX3_isInMask cX3_isInMask 2 (some .boolean), Cond.methodLink RX0 57 yX0_isSkipped, Cond.instanceMethod yX0_isSkipped]
def wsL_part_r3 : List Cond := [Cond.selects RX0 yX0_isSkipped yX0_isSkipped, Cond.code yX0_isSkipped cX0_isSkipped 5 (some .boolean), Cond.fieldLink RX0 21 "TickForms$Form" "limits" "[I", Cond.methodLink RX0 66 yX0_isEmpty, Cond.instanceMethod yX0_isEmpty, Cond.selects RX0 yX0_isEmpty yX0_isEmpty, Cond.code yX0_isEmpty cX0_isEmpty 2 (some .boolean), Cond.methodLink RX3 119 yX3_ofPart, Cond.instanceMethod yX3_ofPart, Cond.selects RX3 yX3_ofPart yX3_ofPart, Cond.code yX3_ofPart cX3_ofPart 4 (some .int), Cond.methodLink RX3 222 yX3_isInMask, Cond.instanceMethod yX0_boxesIn, Cond.selects RX0 yX0_boxesIn yX0_boxesIn, Cond.code yX0_boxesIn cX0_boxesIn 4 (some .int), Cond.instanceMethod yX0_wantingIn, Cond.selects RX0 yX0_wantingIn yX0_wantingIn, Cond.code yX0_wantingIn cX0_wantingIn 5 (some .int), Cond.methodLink RX0 73 yX0_wants, Cond.instanceMethod yX0_wants, Cond.selects RX0 yX0_wants yX0_wants, Cond.code yX0_wants cX0_wants 3 (some .boolean), Cond.instanceMethod yX0_boxesFor, Cond.selects RX0 yX0_boxesFor yX0_boxesFor]
def wsL_part_r4 : List Cond := [Cond.code yX0_boxesFor cX0_boxesFor 5 (some .int)]
def wsL_part : List Cond := .codeWith yL_part cL_part 5 (some .int) [(0, 10, 13, 13), (0, 10, 17, 15)] :: ((wsL_part_r1 ++ (wsL_part_r2 ++ (wsL_part_r3 ++ wsL_part_r4))) ++ wsX30 ++ wsX00 ++ (vx_atS RX3 180 "java/lang/IndexOutOfBoundsException" ["java/lang/RuntimeException", "java/lang/Exception"]).filter goodWord ++ (vx_atS RX3 192 "java/lang/IllegalArgumentException" ["java/lang/RuntimeException", "java/lang/Exception"]).filter goodWord)
def wsL_count_r1 : List Cond := [Cond.classLink RL 15 "java/lang/IllegalArgumentException", Cond.methodLink RL 52 yX3_count, Cond.instanceMethod yX3_count, Cond.selects RX3 yX3_count yX3_count, Cond.initialized RX3, Cond.code yX3_count cX3_count 2 (some .int), Cond.fieldLink RX3 10 "TickForms" "form" "LTickForms$Form;", Cond.methodLink RX3 37 yX3_isWithin, Cond.static yX3_isWithin, Cond.code yX3_isWithin cX3_isWithin 3 (some .boolean), Cond.methodLink RX3 41 yX3_needArgument, Cond.static yX3_needArgument, Cond.code yX3_needArgument cX3_needArgument 1 none, Cond.classLink RX3 188 "java/lang/IllegalArgumentException", Cond.initialized "java/lang/IllegalArgumentException", Cond.instanceMethod yX0_openParts, Cond.initialized RX0, Cond.selects RX0 yX0_openParts yX0_openParts, Cond.code yX0_openParts cX0_openParts 3 (some .int), Cond.methodLink RX0 53 yX0_isTicked, Cond.instanceMethod yX0_isTicked, Cond.selects RX0 yX0_isTicked yX0_isTicked, Cond.code yX0_isTicked cX0_isTicked 5 (some .boolean), Cond.fieldLink RX0 30 "TickForms$Form" "size" "I"]
def wsL_count_r2 : List Cond := [Cond.fieldLink RX0 24 "TickForms$Form" "answers" "[I", Cond.methodLink RX0 60 yX0_isFor, Cond.instanceMethod yX0_isFor, Cond.selects RX0 yX0_isFor yX0_isFor, Cond.code yX0_isFor cX0_isFor 4 (some .boolean), Cond.fieldLink RX0 9 "TickForms$Form" "kinds" "[I", Cond.fieldLink RX0 18 "TickForms$Form" "settings" "[I", Cond.static yX3_at, Cond.code yX3_at cX3_at 2 (some .int), Cond.methodLink RX0 63 yX0_isOpen, Cond.instanceMethod yX0_isOpen, Cond.selects RX0 yX0_isOpen yX0_isOpen, Cond.code yX0_isOpen cX0_isOpen 3 (some .boolean), Cond.fieldLink RX0 15 "TickForms$Form" "parts" "[I", Cond.static yX3_isInMask, Cond.code yX3_isInMask cX3_isInMask 2 (some .boolean), Cond.methodLink RX0 57 yX0_isSkipped, Cond.instanceMethod yX0_isSkipped, Cond.selects RX0 yX0_isSkipped yX0_isSkipped, Cond.code yX0_isSkipped cX0_isSkipped 5 (some .boolean), Cond.fieldLink RX0 21 "TickForms$Form" "limits" "[I", Cond.methodLink RX0 66 yX0_isEmpty, Cond.instanceMethod yX0_isEmpty, Cond.selects RX0 yX0_isEmpty yX0_isEmpty]
def wsL_count_r3 : List Cond := [Cond.code yX0_isEmpty cX0_isEmpty 2 (some .boolean), Cond.methodLink RX3 122 yX3_ofForm, Cond.instanceMethod yX3_ofForm, Cond.selects RX3 yX3_ofForm yX3_ofForm, Cond.code yX3_ofForm cX3_ofForm 3 (some .int), Cond.fieldLink RX3 22 "TickForms" "history" "LTickForms$History;", Cond.instanceMethod yX0_size, Cond.selects RX0 yX0_size yX0_size, Cond.code yX0_size cX0_size 1 (some .int), Cond.instanceMethod yX0_openBoxes, Cond.selects RX0 yX0_openBoxes yX0_openBoxes, Cond.code yX0_openBoxes cX0_openBoxes 4 (some .int), Cond.instanceMethod yX0_wanting, Cond.selects RX0 yX0_wanting yX0_wanting, Cond.code yX0_wanting cX0_wanting 4 (some .int), Cond.methodLink RX0 73 yX0_wants, Cond.instanceMethod yX0_wants, Cond.selects RX0 yX0_wants yX0_wants, Cond.code yX0_wants cX0_wants 3 (some .boolean), Cond.instanceMethod yX0_firstWanting, Cond.selects RX0 yX0_firstWanting yX0_firstWanting, Cond.code yX0_firstWanting cX0_firstWanting 3 (some .int), Cond.methodLink RX3 243 yJ6_bitCount_0f7a4, Cond.static yJ6_bitCount_0f7a4]
def wsL_count_r4 : List Cond := [Cond.initialized RJ6, Cond.code yJ6_bitCount_0f7a4 cJ6_bitCount_0f7a4 1 (some .int), Cond.constant RJ6 265 (1431655765), Cond.constant RJ6 266 (858993459), Cond.constant RJ6 267 (252645135), Cond.instanceMethod yX0_answered, Cond.selects RX0 yX0_answered yX0_answered, Cond.code yX0_answered cX0_answered 3 (some .int), Cond.instanceMethod yX1_size, Cond.initialized RX1, Cond.selects RX1 yX1_size yX1_size, Cond.code yX1_size cX1_size 1 (some .int), Cond.fieldLink RX1 18 "TickForms$History" "size" "I"]
def wsL_count : List Cond := .codeWith yL_count cL_count 4 (some .int) [(0, 9, 12, 15)] :: ((wsL_count_r1 ++ (wsL_count_r2 ++ (wsL_count_r3 ++ wsL_count_r4))) ++ wsX30 ++ wsX00 ++ wsX10 ++ (vx_atS RX3 192 "java/lang/IllegalArgumentException" ["java/lang/RuntimeException", "java/lang/Exception"]).filter goodWord)
def wsL_ifAnswered_r1 : List Cond := [Cond.classLink RL 13 "java/lang/IndexOutOfBoundsException", Cond.classLink RL 15 "java/lang/IllegalArgumentException", Cond.methodLink RL 55 yX3_ifAnswered, Cond.instanceMethod yX3_ifAnswered, Cond.selects RX3 yX3_ifAnswered yX3_ifAnswered, Cond.initialized RX3, Cond.code yX3_ifAnswered cX3_ifAnswered 4 (some .int), Cond.fieldLink RX3 10 "TickForms" "form" "LTickForms$Form;", Cond.methodLink RX3 72 yX3_needBox, Cond.instanceMethod yX3_needBox, Cond.selects RX3 yX3_needBox yX3_needBox, Cond.code yX3_needBox cX3_needBox 2 none, Cond.classLink RX3 176 "java/lang/IndexOutOfBoundsException", Cond.initialized "java/lang/IndexOutOfBoundsException", Cond.instanceMethod yX0_has, Cond.initialized RX0, Cond.selects RX0 yX0_has yX0_has, Cond.code yX0_has cX0_has 2 (some .boolean), Cond.fieldLink RX0 30 "TickForms$Form" "size" "I", Cond.instanceMethod yX0_fits, Cond.selects RX0 yX0_fits yX0_fits, Cond.code yX0_fits cX0_fits 3 (some .boolean), Cond.methodLink RX0 42 yX0_mostAnswer, Cond.instanceMethod yX0_mostAnswer]
def wsL_ifAnswered_r2 : List Cond := [Cond.selects RX0 yX0_mostAnswer yX0_mostAnswer, Cond.code yX0_mostAnswer cX0_mostAnswer 2 (some .int), Cond.fieldLink RX0 9 "TickForms$Form" "kinds" "[I", Cond.fieldLink RX0 18 "TickForms$Form" "settings" "[I", Cond.static yX3_at, Cond.code yX3_at cX3_at 2 (some .int), Cond.methodLink RX0 50 yX0_mostWithTeeth, Cond.static yX0_mostWithTeeth, Cond.code yX0_mostWithTeeth cX0_mostWithTeeth 3 (some .int), Cond.static yX3_isWithin, Cond.code yX3_isWithin cX3_isWithin 3 (some .boolean), Cond.methodLink RX3 37 yX3_isWithin, Cond.methodLink RX3 41 yX3_needArgument, Cond.static yX3_needArgument, Cond.code yX3_needArgument cX3_needArgument 1 none, Cond.classLink RX3 188 "java/lang/IllegalArgumentException", Cond.initialized "java/lang/IllegalArgumentException", Cond.methodLink RX3 126 yX3_ofTrial, Cond.instanceMethod yX3_ofTrial, Cond.selects RX3 yX3_ofTrial yX3_ofTrial, Cond.code yX3_ofTrial cX3_ofTrial 5 (some .int), Cond.fieldLink RX3 16 "TickForms" "trial" "LTickForms$Form;", Cond.instanceMethod yX0_copyFrom, Cond.selects RX0 yX0_copyFrom yX0_copyFrom]
def wsL_ifAnswered_r3 : List Cond := [Cond.code yX0_copyFrom cX0_copyFrom 3 none, Cond.fieldLink RX0 15 "TickForms$Form" "parts" "[I", Cond.fieldLink RX0 21 "TickForms$Form" "limits" "[I", Cond.fieldLink RX0 24 "TickForms$Form" "answers" "[I", Cond.static yX3_put, Cond.code yX3_put cX3_put 3 none, Cond.instanceMethod yX0_give, Cond.selects RX0 yX0_give yX0_give, Cond.code yX0_give cX0_give 3 none, Cond.instanceMethod yX0_openParts, Cond.selects RX0 yX0_openParts yX0_openParts, Cond.code yX0_openParts cX0_openParts 3 (some .int), Cond.methodLink RX0 53 yX0_isTicked, Cond.instanceMethod yX0_isTicked, Cond.selects RX0 yX0_isTicked yX0_isTicked, Cond.code yX0_isTicked cX0_isTicked 5 (some .boolean), Cond.methodLink RX0 60 yX0_isFor, Cond.instanceMethod yX0_isFor, Cond.selects RX0 yX0_isFor yX0_isFor, Cond.code yX0_isFor cX0_isFor 4 (some .boolean), Cond.methodLink RX0 63 yX0_isOpen, Cond.instanceMethod yX0_isOpen, Cond.selects RX0 yX0_isOpen yX0_isOpen, Cond.code yX0_isOpen cX0_isOpen 3 (some .boolean)]
def wsL_ifAnswered_r4 : List Cond := [Cond.static yX3_isInMask, Cond.code yX3_isInMask cX3_isInMask 2 (some .boolean), Cond.methodLink RX0 57 yX0_isSkipped, Cond.instanceMethod yX0_isSkipped, Cond.selects RX0 yX0_isSkipped yX0_isSkipped, Cond.code yX0_isSkipped cX0_isSkipped 5 (some .boolean), Cond.methodLink RX0 66 yX0_isEmpty, Cond.instanceMethod yX0_isEmpty, Cond.selects RX0 yX0_isEmpty yX0_isEmpty, Cond.code yX0_isEmpty cX0_isEmpty 2 (some .boolean), Cond.instanceMethod yX0_wanting, Cond.selects RX0 yX0_wanting yX0_wanting, Cond.code yX0_wanting cX0_wanting 4 (some .int), Cond.methodLink RX0 73 yX0_wants, Cond.instanceMethod yX0_wants, Cond.selects RX0 yX0_wants yX0_wants, Cond.code yX0_wants cX0_wants 3 (some .boolean), Cond.instanceMethod yX0_lastTotal, Cond.selects RX0 yX0_lastTotal yX0_lastTotal, Cond.code yX0_lastTotal cX0_lastTotal 2 (some .int), Cond.instanceMethod yX0_valueOf, Cond.selects RX0 yX0_valueOf yX0_valueOf, Cond.code yX0_valueOf cX0_valueOf 4 (some .int), Cond.fieldLink RX0 27 "TickForms$Form" "values" "[I"]
def wsL_ifAnswered_r5 : List Cond := [Cond.methodLink RX0 89 yX0_sumOf, Cond.instanceMethod yX0_sumOf, Cond.selects RX0 yX0_sumOf yX0_sumOf, Cond.code yX0_sumOf cX0_sumOf 5 (some .int), Cond.constant RX0 96 (999999), Cond.methodLink RX0 97 Lib.Math.min.name, Cond.static Lib.Math.min.name, Cond.initialized "java/lang/Math", Cond.code Lib.Math.min.name Lib.Math.min.code 2 (some .int), Cond.methodLink RX0 93 yX0_ownValue, Cond.instanceMethod yX0_ownValue, Cond.selects RX0 yX0_ownValue yX0_ownValue, Cond.code yX0_ownValue cX0_ownValue 2 (some .int)]
def wsL_ifAnswered : List Cond := .codeWith yL_ifAnswered cL_ifAnswered 6 (some .int) [(0, 12, 15, 13), (0, 12, 19, 15)] :: ((wsL_ifAnswered_r1 ++ (wsL_ifAnswered_r2 ++ (wsL_ifAnswered_r3 ++ (wsL_ifAnswered_r4 ++ wsL_ifAnswered_r5)))) ++ wsX30 ++ wsX00 ++ (vx_atS RX3 180 "java/lang/IndexOutOfBoundsException" ["java/lang/RuntimeException", "java/lang/Exception"]).filter goodWord ++ (vx_atS RX3 192 "java/lang/IllegalArgumentException" ["java/lang/RuntimeException", "java/lang/Exception"]).filter goodWord)
def wsL_law0_r1 : List Cond := [Cond.classLink RL 8 RX3, Cond.instantiable RX3 4, Cond.initialized RX3, Cond.classLink RL 59 RX4, Cond.instantiable RX4 14, Cond.initialized RX4, Cond.arrayClass .long, Cond.methodLink RL 58 yX3_init, Cond.instanceMethod yX3_init, Cond.code yX3_init cX3_init 1 none, Cond.methodLink RX3 1 objectInit, Cond.instanceMethod objectInit, Cond.code objectInit ⟨#[0xb1]⟩ 1 none, Cond.classLink RX3 7 RX0, Cond.instantiable RX0 7, Cond.initialized RX0, Cond.fieldLink RX3 10 "TickForms" "form" "LTickForms$Form;", Cond.fieldLink RX3 16 "TickForms" "trial" "LTickForms$Form;", Cond.classLink RX3 19 RX1, Cond.instantiable RX1 3, Cond.initialized RX1, Cond.fieldLink RX3 22 "TickForms" "history" "LTickForms$History;", Cond.classLink RX3 26 RX2, Cond.instantiable RX2 2]
def wsL_law0_r2 : List Cond := [Cond.initialized RX2, Cond.fieldLink RX3 29 "TickForms" "text" "LTickForms$Text;", Cond.instanceMethod yX0_init, Cond.code yX0_init cX0_init 1 none, Cond.methodLink RX0 3 objectInit, Cond.arrayClass .int, Cond.fieldLink RX0 9 "TickForms$Form" "kinds" "[I", Cond.fieldLink RX0 15 "TickForms$Form" "parts" "[I", Cond.fieldLink RX0 18 "TickForms$Form" "settings" "[I", Cond.fieldLink RX0 21 "TickForms$Form" "limits" "[I", Cond.fieldLink RX0 24 "TickForms$Form" "answers" "[I", Cond.fieldLink RX0 27 "TickForms$Form" "values" "[I", Cond.instanceMethod yX1_init, Cond.code yX1_init cX1_init 2 none, Cond.methodLink RX1 3 objectInit, Cond.classLink RX1 9 RX0, Cond.fieldLink RX1 11 "TickForms$History" "states" "[LTickForms$Form;", Cond.instanceMethod yX2_init, Cond.code yX2_init cX2_init 1 none, Cond.methodLink RX2 3 objectInit, Cond.fieldLink RX2 9 "TickForms$Text" "codes" "[I", Cond.methodLink RL 61 yX4_init, Cond.instanceMethod yX4_init, Cond.code yX4_init cX4_init 1 none]
def wsL_law0_r3 : List Cond := [Cond.methodLink RX4 1 objectInit, Cond.fieldLink RX4 7 "TickFormsModel" "z" "[I", Cond.fieldLink RX4 13 "TickFormsModel" "saved" "[I", Cond.fieldLink RX4 16 "TickFormsModel" "buffer" "[I", Cond.fieldLink RX4 19 "TickFormsModel" "values" "[I", Cond.fieldLink RX4 22 "TickFormsModel" "read" "[I", Cond.fieldLink RX4 25 "TickFormsModel" "choices" "[I", Cond.arrayClass .boolean, Cond.fieldLink RX4 28 "TickFormsModel" "wasEmpty" "[Z", Cond.methodLink RL 62 yL_comb, Cond.static yL_comb, Cond.initialized RL, Cond.codeWith yL_comb cL_comb 5 (some .int) [(0, 10, 13, 13), (0, 10, 17, 15), (0, 10, 21, 17)], Cond.classLink RL 13 "java/lang/IndexOutOfBoundsException", Cond.classLink RL 15 "java/lang/IllegalArgumentException", Cond.classLink RL 17 "java/lang/IllegalStateException", Cond.methodLink RL 7 yX3_comb, Cond.instanceMethod yX3_comb, Cond.selects RX3 yX3_comb yX3_comb, Cond.code yX3_comb cX3_comb 3 (some .int), Cond.methodLink RX3 33 yX3_needPart, Cond.static yX3_needPart, Cond.code yX3_needPart cX3_needPart 2 none, Cond.classLink RX3 176 "java/lang/IndexOutOfBoundsException"]
def wsL_law0_r4 : List Cond := [Cond.initialized "java/lang/IndexOutOfBoundsException", Cond.methodLink RX3 37 yX3_isWithin, Cond.static yX3_isWithin, Cond.code yX3_isWithin cX3_isWithin 3 (some .boolean), Cond.methodLink RX3 41 yX3_needArgument, Cond.static yX3_needArgument, Cond.code yX3_needArgument cX3_needArgument 1 none, Cond.classLink RX3 188 "java/lang/IllegalArgumentException", Cond.initialized "java/lang/IllegalArgumentException", Cond.methodLink RX3 45 yX3_addNew, Cond.instanceMethod yX3_addNew, Cond.selects RX3 yX3_addNew yX3_addNew, Cond.code yX3_addNew cX3_addNew 5 (some .int), Cond.instanceMethod yX0_size, Cond.selects RX0 yX0_size yX0_size, Cond.code yX0_size cX0_size 1 (some .int), Cond.fieldLink RX0 30 "TickForms$Form" "size" "I", Cond.methodLink RX3 58 yX3_needState, Cond.static yX3_needState, Cond.code yX3_needState cX3_needState 1 none, Cond.classLink RX3 193 "java/lang/IllegalStateException", Cond.initialized "java/lang/IllegalStateException", Cond.instanceMethod yX1_save, Cond.selects RX1 yX1_save yX1_save]
def wsL_law0_r5 : List Cond := [Cond.code yX1_save cX1_save 3 none, Cond.fieldLink RX1 22 "TickForms$History" "next" "I", Cond.fieldLink RX1 18 "TickForms$History" "size" "I", Cond.methodLink RX1 33 Lib.Math.min.name, Cond.static Lib.Math.min.name, Cond.initialized "java/lang/Math", Cond.code Lib.Math.min.name Lib.Math.min.code 2 (some .int), Cond.methodLink RX1 25 yX1_stateAt, Cond.instanceMethod yX1_stateAt, Cond.selects RX1 yX1_stateAt yX1_stateAt, Cond.code yX1_stateAt cX1_stateAt 2 (some (.object "TickForms$Form")), Cond.instanceMethod yX0_copyFrom, Cond.selects RX0 yX0_copyFrom yX0_copyFrom, Cond.code yX0_copyFrom cX0_copyFrom 3 none, Cond.static yX3_at, Cond.code yX3_at cX3_at 2 (some .int), Cond.static yX3_put, Cond.code yX3_put cX3_put 3 none, Cond.instanceMethod yX0_add, Cond.selects RX0 yX0_add yX0_add, Cond.code yX0_add cX0_add 5 none, Cond.methodLink RL 67 yX4_comb, Cond.instanceMethod yX4_comb, Cond.selects RX4 yX4_comb yX4_comb]
def wsL_law0_r6 : List Cond := [Cond.code yX4_comb cX4_comb 3 (some .int), Cond.fieldLink RX4 32 "TickFormsModel" "thrown" "I", Cond.methodLink RX4 72 yX4_isPart, Cond.static yX4_isPart, Cond.code yX4_isPart cX4_isPart 1 (some .boolean), Cond.methodLink RX4 36 yX4_in, Cond.static yX4_in, Cond.code yX4_in cX4_in 3 (some .boolean), Cond.methodLink RX4 75 yX4_add, Cond.instanceMethod yX4_add, Cond.selects RX4 yX4_add yX4_add, Cond.code yX4_add cX4_add 6 (some .int), Cond.methodLink RX4 65 yX4_save, Cond.instanceMethod yX4_save, Cond.selects RX4 yX4_save yX4_save, Cond.code yX4_save cX4_save 2 none, Cond.fieldLink RX4 40 "TickFormsModel" "savedMany" "I", Cond.methodLink RX4 68 yX4_lay, Cond.instanceMethod yX4_lay, Cond.selects RX4 yX4_lay yX4_lay, Cond.code yX4_lay cX4_lay 4 none, Cond.methodLink RL 68 yX4_thrown, Cond.instanceMethod yX4_thrown, Cond.selects RX4 yX4_thrown yX4_thrown]
def wsL_law0_r7 : List Cond := [Cond.code yX4_thrown cX4_thrown 1 (some .int), Cond.methodLink RL 71 yL_tick, Cond.static yL_tick, Cond.codeWith yL_tick cL_tick 5 (some .int) [(0, 10, 13, 13), (0, 10, 17, 15), (0, 10, 21, 17)], Cond.methodLink RL 19 yX3_tick, Cond.instanceMethod yX3_tick, Cond.selects RX3 yX3_tick yX3_tick, Cond.code yX3_tick cX3_tick 3 (some .int), Cond.methodLink RL 73 yX4_tick, Cond.instanceMethod yX4_tick, Cond.selects RX4 yX4_tick yX4_tick, Cond.code yX4_tick cX4_tick 3 (some .int), Cond.methodLink RL 74 yL_skip, Cond.static yL_skip, Cond.codeWith yL_skip cL_skip 6 (some .int) [(0, 12, 15, 13), (0, 12, 19, 15), (0, 12, 23, 17)], Cond.methodLink RL 22 yX3_skip, Cond.instanceMethod yX3_skip, Cond.selects RX3 yX3_skip yX3_skip, Cond.code yX3_skip cX3_skip 4 (some .int), Cond.methodLink RL 77 yX4_skip, Cond.instanceMethod yX4_skip, Cond.selects RX4 yX4_skip yX4_skip, Cond.code yX4_skip cX4_skip 4 (some .int), Cond.methodLink RL 78 yL_total]
def wsL_law0_r8 : List Cond := [Cond.static yL_total, Cond.codeWith yL_total cL_total 5 (some .int) [(0, 10, 13, 13), (0, 10, 17, 15), (0, 10, 21, 17)], Cond.methodLink RL 26 yX3_total, Cond.instanceMethod yX3_total, Cond.selects RX3 yX3_total yX3_total, Cond.code yX3_total cX3_total 3 (some .int), Cond.constant RX3 49 (65535), Cond.instanceMethod yX0_canCarry, Cond.selects RX0 yX0_canCarry yX0_canCarry, Cond.code yX0_canCarry cX0_canCarry 4 (some .boolean), Cond.static yX3_isInMask, Cond.code yX3_isInMask cX3_isInMask 2 (some .boolean), Cond.methodLink RX0 86 yX0_has, Cond.instanceMethod yX0_has, Cond.selects RX0 yX0_has yX0_has, Cond.code yX0_has cX0_has 2 (some .boolean), Cond.methodLink RL 80 yX4_total, Cond.instanceMethod yX4_total, Cond.selects RX4 yX4_total yX4_total, Cond.code yX4_total cX4_total 3 (some .int), Cond.methodLink RX4 83 yX4_isMask, Cond.instanceMethod yX4_isMask, Cond.selects RX4 yX4_isMask yX4_isMask, Cond.code yX4_isMask cX4_isMask 4 (some .boolean)]
def wsL_law0_r9 : List Cond := [Cond.constant RX4 79 (65535), Cond.methodLink RX4 80 yX4_isBox, Cond.instanceMethod yX4_isBox, Cond.selects RX4 yX4_isBox yX4_isBox, Cond.code yX4_isBox cX4_isBox 2 (some .boolean), Cond.methodLink RX4 43 yX4_of, Cond.instanceMethod yX4_of, Cond.selects RX4 yX4_of yX4_of, Cond.code yX4_of cX4_of 3 (some .int), Cond.methodLink RL 81 yL_drop, Cond.static yL_drop, Cond.codeWith yL_drop cL_drop 3 (some .int) [(0, 8, 11, 17)], Cond.methodLink RL 29 yX3_drop, Cond.instanceMethod yX3_drop, Cond.selects RX3 yX3_drop yX3_drop, Cond.code yX3_drop cX3_drop 3 (some .int), Cond.instanceMethod yX0_kindOf, Cond.selects RX0 yX0_kindOf yX0_kindOf, Cond.code yX0_kindOf cX0_kindOf 2 (some .int), Cond.instanceMethod yX0_removeLast, Cond.selects RX0 yX0_removeLast yX0_removeLast, Cond.code yX0_removeLast cX0_removeLast 1 none, Cond.methodLink RL 84 yX4_drop, Cond.instanceMethod yX4_drop]
def wsL_law0_r10 : List Cond := [Cond.selects RX4 yX4_drop yX4_drop, Cond.code yX4_drop cX4_drop 1 (some .int), Cond.methodLink RL 85 yL_answer, Cond.static yL_answer, Cond.codeWith yL_answer cL_answer 5 (some .int) [(0, 10, 13, 13), (0, 10, 17, 15)], Cond.methodLink RL 33 yX3_answer, Cond.instanceMethod yX3_answer, Cond.selects RX3 yX3_answer yX3_answer, Cond.code yX3_answer cX3_answer 3 (some .int), Cond.methodLink RX3 72 yX3_needBox, Cond.instanceMethod yX3_needBox, Cond.selects RX3 yX3_needBox yX3_needBox, Cond.code yX3_needBox cX3_needBox 2 none, Cond.instanceMethod yX0_fits, Cond.selects RX0 yX0_fits yX0_fits, Cond.code yX0_fits cX0_fits 3 (some .boolean), Cond.methodLink RX0 42 yX0_mostAnswer, Cond.instanceMethod yX0_mostAnswer, Cond.selects RX0 yX0_mostAnswer yX0_mostAnswer, Cond.code yX0_mostAnswer cX0_mostAnswer 2 (some .int), Cond.methodLink RX0 50 yX0_mostWithTeeth, Cond.static yX0_mostWithTeeth, Cond.code yX0_mostWithTeeth cX0_mostWithTeeth 3 (some .int), Cond.instanceMethod yX0_give]
def wsL_law0_r11 : List Cond := [Cond.selects RX0 yX0_give yX0_give, Cond.code yX0_give cX0_give 3 none, Cond.instanceMethod yX0_openParts, Cond.selects RX0 yX0_openParts yX0_openParts, Cond.code yX0_openParts cX0_openParts 3 (some .int), Cond.methodLink RX0 53 yX0_isTicked, Cond.instanceMethod yX0_isTicked, Cond.selects RX0 yX0_isTicked yX0_isTicked, Cond.code yX0_isTicked cX0_isTicked 5 (some .boolean), Cond.methodLink RX0 60 yX0_isFor, Cond.instanceMethod yX0_isFor, Cond.selects RX0 yX0_isFor yX0_isFor, Cond.code yX0_isFor cX0_isFor 4 (some .boolean), Cond.methodLink RX0 63 yX0_isOpen, Cond.instanceMethod yX0_isOpen, Cond.selects RX0 yX0_isOpen yX0_isOpen, Cond.code yX0_isOpen cX0_isOpen 3 (some .boolean), Cond.methodLink RX0 57 yX0_isSkipped, Cond.instanceMethod yX0_isSkipped, Cond.selects RX0 yX0_isSkipped yX0_isSkipped, Cond.code yX0_isSkipped cX0_isSkipped 5 (some .boolean), Cond.methodLink RX0 66 yX0_isEmpty, Cond.instanceMethod yX0_isEmpty, Cond.selects RX0 yX0_isEmpty yX0_isEmpty]
def wsL_law0_r12 : List Cond := [Cond.code yX0_isEmpty cX0_isEmpty 2 (some .boolean), Cond.instanceMethod yX0_wanting, Cond.selects RX0 yX0_wanting yX0_wanting, Cond.code yX0_wanting cX0_wanting 4 (some .int), Cond.methodLink RX0 73 yX0_wants, Cond.instanceMethod yX0_wants, Cond.selects RX0 yX0_wants yX0_wants, Cond.code yX0_wants cX0_wants 3 (some .boolean), Cond.methodLink RL 87 yX4_answer, Cond.instanceMethod yX4_answer, Cond.selects RX4 yX4_answer yX4_answer, Cond.code yX4_answer cX4_answer 3 (some .int), Cond.methodLink RX4 90 yX4_canHave, Cond.instanceMethod yX4_canHave, Cond.selects RX4 yX4_canHave yX4_canHave, Cond.code yX4_canHave cX4_canHave 3 (some .boolean), Cond.methodLink RX4 86 yX4_power, Cond.static yX4_power, Cond.code yX4_power cX4_power 3 (some .int), Cond.methodLink RX4 93 yX4_open, Cond.instanceMethod yX4_open, Cond.selects RX4 yX4_open yX4_open, Cond.code yX4_open cX4_open 3 (some .int), Cond.methodLink RX4 55 yX4_isOpened]
def wsL_law0_r13 : List Cond := [Cond.instanceMethod yX4_isOpened, Cond.selects RX4 yX4_isOpened yX4_isOpened, Cond.code yX4_isOpened cX4_isOpened 6 (some .boolean), Cond.methodLink RX4 51 yX4_isTold, Cond.instanceMethod yX4_isTold, Cond.selects RX4 yX4_isTold yX4_isTold, Cond.code yX4_isTold cX4_isTold 3 (some .boolean), Cond.methodLink RX4 58 yX4_isClosed, Cond.instanceMethod yX4_isClosed, Cond.selects RX4 yX4_isClosed yX4_isClosed, Cond.code yX4_isClosed cX4_isClosed 5 (some .boolean), Cond.methodLink RX4 47 yX4_closesNow, Cond.instanceMethod yX4_closesNow, Cond.selects RX4 yX4_closesNow yX4_closesNow, Cond.code yX4_closesNow cX4_closesNow 2 (some .boolean), Cond.methodLink RX4 97 yX4_wanting, Cond.instanceMethod yX4_wanting, Cond.selects RX4 yX4_wanting yX4_wanting, Cond.code yX4_wanting cX4_wanting 4 (some .int), Cond.methodLink RX4 61 yX4_wants, Cond.instanceMethod yX4_wants, Cond.selects RX4 yX4_wants yX4_wants, Cond.code yX4_wants cX4_wants 3 (some .boolean), Cond.methodLink RL 88 yX3_clear]
def wsL_law0_r14 : List Cond := [Cond.instanceMethod yX3_clear, Cond.selects RX3 yX3_clear yX3_clear, Cond.code yX3_clear cX3_clear 4 (some .int), Cond.instanceMethod yX0_answered, Cond.selects RX0 yX0_answered yX0_answered, Cond.code yX0_answered cX0_answered 3 (some .int), Cond.methodLink RL 91 yX4_clear, Cond.instanceMethod yX4_clear, Cond.selects RX4 yX4_clear yX4_clear, Cond.code yX4_clear cX4_clear 3 (some .int), Cond.methodLink RX4 100 yX4_answered, Cond.instanceMethod yX4_answered, Cond.selects RX4 yX4_answered yX4_answered, Cond.code yX4_answered cX4_answered 3 (some .int), Cond.methodLink RL 92 yL_append, Cond.static yL_append, Cond.codeWith yL_append cL_append 4 (some .int) [(0, 9, 12, 15), (0, 9, 15, 17)], Cond.methodLink RL 36 yX3_append, Cond.instanceMethod yX3_append, Cond.selects RX3 yX3_append yX3_append, Cond.code yX3_append cX3_append 2 (some .int), Cond.instanceMethod yX2_length, Cond.selects RX2 yX2_length yX2_length, Cond.code yX2_length cX2_length 1 (some .int)]
def wsL_law0_r15 : List Cond := [Cond.fieldLink RX2 15 "TickForms$Text" "length" "I", Cond.instanceMethod yX2_add, Cond.selects RX2 yX2_add yX2_add, Cond.code yX2_add cX2_add 2 none, Cond.methodLink RL 95 yX4_append, Cond.instanceMethod yX4_append, Cond.selects RX4 yX4_append yX4_append, Cond.code yX4_append cX4_append 2 (some .int), Cond.fieldLink RX4 103 "TickFormsModel" "typed" "I", Cond.methodLink RL 96 yX3_clearBuffer, Cond.instanceMethod yX3_clearBuffer, Cond.selects RX3 yX3_clearBuffer yX3_clearBuffer, Cond.code yX3_clearBuffer cX3_clearBuffer 2 (some .int), Cond.instanceMethod yX2_empty, Cond.selects RX2 yX2_empty yX2_empty, Cond.code yX2_empty cX2_empty 1 none, Cond.methodLink RL 99 yX4_clearBuffer, Cond.instanceMethod yX4_clearBuffer, Cond.selects RX4 yX4_clearBuffer yX4_clearBuffer, Cond.code yX4_clearBuffer cX4_clearBuffer 2 (some .int), Cond.methodLink RL 100 yX3_firstError, Cond.instanceMethod yX3_firstError, Cond.selects RX3 yX3_firstError yX3_firstError, Cond.code yX3_firstError cX3_firstError 1 (some .int)]
def wsL_law0_r16 : List Cond := [Cond.instanceMethod yX2_errorAt, Cond.selects RX2 yX2_errorAt yX2_errorAt, Cond.code yX2_errorAt cX2_errorAt 3 (some .int), Cond.methodLink RX2 27 yX2_codeAt, Cond.instanceMethod yX2_codeAt, Cond.selects RX2 yX2_codeAt yX2_codeAt, Cond.code yX2_codeAt cX2_codeAt 2 (some .int), Cond.methodLink RX2 31 yX2_stateAfter, Cond.static yX2_stateAfter, Cond.code yX2_stateAfter cX2_stateAfter 2 (some .int), Cond.methodLink RX2 35 yX2_isDigit, Cond.static yX2_isDigit, Cond.code yX2_isDigit cX2_isDigit 1 (some .boolean), Cond.methodLink RX2 43 yX2_afterBox, Cond.static yX2_afterBox, Cond.code yX2_afterBox cX2_afterBox 1 (some .int), Cond.methodLink RX2 46 yX2_afterAnswer, Cond.static yX2_afterAnswer, Cond.code yX2_afterAnswer cX2_afterAnswer 1 (some .int), Cond.methodLink RL 103 yX4_firstError, Cond.instanceMethod yX4_firstError, Cond.selects RX4 yX4_firstError yX4_firstError, Cond.code yX4_firstError cX4_firstError 2 (some .int), Cond.methodLink RX4 129 yX4_readBuffer]
def wsL_law0_r17 : List Cond := [Cond.instanceMethod yX4_readBuffer, Cond.selects RX4 yX4_readBuffer yX4_readBuffer, Cond.code yX4_readBuffer cX4_readBuffer 2 (some .int), Cond.fieldLink RX4 119 "TickFormsModel" "readMany" "I", Cond.fieldLink RX4 106 "TickFormsModel" "spot" "I", Cond.fieldLink RX4 109 "TickFormsModel" "wrong" "I", Cond.methodLink RX4 126 yX4_readPart, Cond.instanceMethod yX4_readPart, Cond.selects RX4 yX4_readPart yX4_readPart, Cond.code yX4_readPart cX4_readPart 2 none, Cond.constant RX4 125 (99999), Cond.methodLink RX4 122 yX4_number, Cond.instanceMethod yX4_number, Cond.selects RX4 yX4_number yX4_number, Cond.code yX4_number cX4_number 4 (some .int), Cond.methodLink RX4 112 yX4_letter, Cond.instanceMethod yX4_letter, Cond.selects RX4 yX4_letter yX4_letter, Cond.code yX4_letter cX4_letter 1 (some .int), Cond.methodLink RX4 115 yX4_needs, Cond.instanceMethod yX4_needs, Cond.selects RX4 yX4_needs yX4_needs, Cond.code yX4_needs cX4_needs 2 none, Cond.methodLink RL 104 yL_fill]
def wsL_law0_r18 : List Cond := [Cond.static yL_fill, Cond.codeWith yL_fill cL_fill 3 (some .int) [(0, 8, 11, 15)], Cond.methodLink RL 40 yX3_fill, Cond.instanceMethod yX3_fill, Cond.selects RX3 yX3_fill yX3_fill, Cond.code yX3_fill cX3_fill 2 (some .int), Cond.instanceMethod yX2_isComplete, Cond.selects RX2 yX2_isComplete yX2_isComplete, Cond.code yX2_isComplete cX2_isComplete 3 (some .boolean), Cond.methodLink RX3 108 yX3_giveAnswersOfText, Cond.instanceMethod yX3_giveAnswersOfText, Cond.selects RX3 yX3_giveAnswersOfText yX3_giveAnswersOfText, Cond.code yX3_giveAnswersOfText cX3_giveAnswersOfText 9 (some .int), Cond.methodLink RL 106 yX4_fill, Cond.instanceMethod yX4_fill, Cond.selects RX4 yX4_fill yX4_fill, Cond.code yX4_fill cX4_fill 2 (some .int), Cond.methodLink RL 107 yL_undo, Cond.static yL_undo, Cond.codeWith yL_undo cL_undo 3 (some .int) [(0, 8, 11, 17)], Cond.methodLink RL 43 yX3_undo, Cond.instanceMethod yX3_undo, Cond.selects RX3 yX3_undo yX3_undo, Cond.code yX3_undo cX3_undo 1 (some .int)]
def wsL_law0_r19 : List Cond := [Cond.instanceMethod yX1_size, Cond.selects RX1 yX1_size yX1_size, Cond.code yX1_size cX1_size 1 (some .int), Cond.instanceMethod yX1_restore, Cond.selects RX1 yX1_restore yX1_restore, Cond.code yX1_restore cX1_restore 3 none, Cond.methodLink RL 109 yX4_undo, Cond.instanceMethod yX4_undo, Cond.selects RX4 yX4_undo yX4_undo, Cond.code yX4_undo cX4_undo 2 (some .int), Cond.methodLink RL 110 yL_box, Cond.static yL_box, Cond.codeWith yL_box cL_box 5 (some .int) [(0, 10, 13, 13), (0, 10, 17, 15)], Cond.methodLink RL 46 yX3_box, Cond.instanceMethod yX3_box, Cond.selects RX3 yX3_box yX3_box, Cond.code yX3_box cX3_box 3 (some .int), Cond.methodLink RX3 115 yX3_ofBox, Cond.instanceMethod yX3_ofBox, Cond.selects RX3 yX3_ofBox yX3_ofBox, Cond.code yX3_ofBox cX3_ofBox 4 (some .int), Cond.instanceMethod yX0_partOf, Cond.selects RX0 yX0_partOf yX0_partOf, Cond.code yX0_partOf cX0_partOf 2 (some .int)]
def wsL_law0_r20 : List Cond := [Cond.instanceMethod yX0_settingOf, Cond.selects RX0 yX0_settingOf yX0_settingOf, Cond.code yX0_settingOf cX0_settingOf 2 (some .int), Cond.instanceMethod yX0_limitOf, Cond.selects RX0 yX0_limitOf yX0_limitOf, Cond.code yX0_limitOf cX0_limitOf 2 (some .int), Cond.instanceMethod yX0_answerOf, Cond.selects RX0 yX0_answerOf yX0_answerOf, Cond.code yX0_answerOf cX0_answerOf 2 (some .int), Cond.instanceMethod yX0_valueOf, Cond.selects RX0 yX0_valueOf yX0_valueOf, Cond.code yX0_valueOf cX0_valueOf 4 (some .int), Cond.methodLink RX0 89 yX0_sumOf, Cond.instanceMethod yX0_sumOf, Cond.selects RX0 yX0_sumOf yX0_sumOf, Cond.code yX0_sumOf cX0_sumOf 5 (some .int), Cond.constant RX0 96 (999999), Cond.methodLink RX0 97 Lib.Math.min.name, Cond.methodLink RX0 93 yX0_ownValue, Cond.instanceMethod yX0_ownValue, Cond.selects RX0 yX0_ownValue yX0_ownValue, Cond.code yX0_ownValue cX0_ownValue 2 (some .int), Cond.methodLink RL 112 yX4_box, Cond.instanceMethod yX4_box]
def wsL_law0_r21 : List Cond := [Cond.selects RX4 yX4_box yX4_box, Cond.code yX4_box cX4_box 3 (some .int), Cond.methodLink RX4 136 yX4_toldBox, Cond.instanceMethod yX4_toldBox, Cond.selects RX4 yX4_toldBox yX4_toldBox, Cond.code yX4_toldBox cX4_toldBox 4 (some .int), Cond.methodLink RX4 132 yX4_reckon, Cond.instanceMethod yX4_reckon, Cond.selects RX4 yX4_reckon yX4_reckon, Cond.code yX4_reckon cX4_reckon 5 none, Cond.constant RX4 64 (999999), Cond.methodLink RL 113 yL_part, Cond.static yL_part, Cond.codeWith yL_part cL_part 5 (some .int) [(0, 10, 13, 13), (0, 10, 17, 15)], Cond.methodLink RL 49 yX3_part, Cond.instanceMethod yX3_part, Cond.selects RX3 yX3_part yX3_part, Cond.code yX3_part cX3_part 3 (some .int), Cond.methodLink RX3 119 yX3_ofPart, Cond.instanceMethod yX3_ofPart, Cond.selects RX3 yX3_ofPart yX3_ofPart, Cond.code yX3_ofPart cX3_ofPart 4 (some .int), Cond.methodLink RX3 222 yX3_isInMask, Cond.instanceMethod yX0_boxesIn]
def wsL_law0_r22 : List Cond := [Cond.selects RX0 yX0_boxesIn yX0_boxesIn, Cond.code yX0_boxesIn cX0_boxesIn 4 (some .int), Cond.instanceMethod yX0_wantingIn, Cond.selects RX0 yX0_wantingIn yX0_wantingIn, Cond.code yX0_wantingIn cX0_wantingIn 5 (some .int), Cond.instanceMethod yX0_boxesFor, Cond.selects RX0 yX0_boxesFor yX0_boxesFor, Cond.code yX0_boxesFor cX0_boxesFor 5 (some .int), Cond.methodLink RL 115 yX4_part, Cond.instanceMethod yX4_part, Cond.selects RX4 yX4_part yX4_part, Cond.code yX4_part cX4_part 3 (some .int), Cond.methodLink RX4 139 yX4_toldPart, Cond.instanceMethod yX4_toldPart, Cond.selects RX4 yX4_toldPart yX4_toldPart, Cond.code yX4_toldPart cX4_toldPart 9 (some .int), Cond.methodLink RL 116 yL_count, Cond.static yL_count, Cond.codeWith yL_count cL_count 4 (some .int) [(0, 9, 12, 15)], Cond.methodLink RL 52 yX3_count, Cond.instanceMethod yX3_count, Cond.selects RX3 yX3_count yX3_count, Cond.code yX3_count cX3_count 2 (some .int), Cond.methodLink RX3 122 yX3_ofForm]
def wsL_law0_r23 : List Cond := [Cond.instanceMethod yX3_ofForm, Cond.selects RX3 yX3_ofForm yX3_ofForm, Cond.code yX3_ofForm cX3_ofForm 3 (some .int), Cond.instanceMethod yX0_openBoxes, Cond.selects RX0 yX0_openBoxes yX0_openBoxes, Cond.code yX0_openBoxes cX0_openBoxes 4 (some .int), Cond.instanceMethod yX0_firstWanting, Cond.selects RX0 yX0_firstWanting yX0_firstWanting, Cond.code yX0_firstWanting cX0_firstWanting 3 (some .int), Cond.methodLink RX3 243 yJ6_bitCount_0f7a4, Cond.static yJ6_bitCount_0f7a4, Cond.initialized RJ6, Cond.code yJ6_bitCount_0f7a4 cJ6_bitCount_0f7a4 1 (some .int), Cond.constant RJ6 265 (1431655765), Cond.constant RJ6 266 (858993459), Cond.constant RJ6 267 (252645135), Cond.methodLink RL 118 yX4_count, Cond.instanceMethod yX4_count, Cond.selects RX4 yX4_count yX4_count, Cond.code yX4_count cX4_count 2 (some .int), Cond.methodLink RX4 151 yX4_counted, Cond.instanceMethod yX4_counted, Cond.selects RX4 yX4_counted yX4_counted, Cond.code yX4_counted cX4_counted 3 (some .int)]
def wsL_law0_r24 : List Cond := [Cond.methodLink RX4 142 yX4_openBoxes, Cond.instanceMethod yX4_openBoxes, Cond.selects RX4 yX4_openBoxes yX4_openBoxes, Cond.code yX4_openBoxes cX4_openBoxes 4 (some .int), Cond.methodLink RX4 145 yX4_firstWanting, Cond.instanceMethod yX4_firstWanting, Cond.selects RX4 yX4_firstWanting yX4_firstWanting, Cond.code yX4_firstWanting cX4_firstWanting 4 (some .int), Cond.methodLink RX4 148 yX4_bits, Cond.static yX4_bits, Cond.code yX4_bits cX4_bits 3 (some .int), Cond.methodLink RL 119 yL_ifAnswered, Cond.static yL_ifAnswered, Cond.codeWith yL_ifAnswered cL_ifAnswered 6 (some .int) [(0, 12, 15, 13), (0, 12, 19, 15)], Cond.methodLink RL 55 yX3_ifAnswered, Cond.instanceMethod yX3_ifAnswered, Cond.selects RX3 yX3_ifAnswered yX3_ifAnswered, Cond.code yX3_ifAnswered cX3_ifAnswered 4 (some .int), Cond.methodLink RX3 126 yX3_ofTrial, Cond.instanceMethod yX3_ofTrial, Cond.selects RX3 yX3_ofTrial yX3_ofTrial, Cond.code yX3_ofTrial cX3_ofTrial 5 (some .int), Cond.instanceMethod yX0_lastTotal, Cond.selects RX0 yX0_lastTotal yX0_lastTotal]
def wsL_law0_r25 : List Cond := [Cond.code yX0_lastTotal cX0_lastTotal 2 (some .int), Cond.methodLink RL 121 yX4_ifAnswered, Cond.instanceMethod yX4_ifAnswered, Cond.selects RX4 yX4_ifAnswered yX4_ifAnswered, Cond.code yX4_ifAnswered cX4_ifAnswered 4 (some .int), Cond.methodLink RX4 157 yX4_withAnswer, Cond.instanceMethod yX4_withAnswer, Cond.selects RX4 yX4_withAnswer yX4_withAnswer, Cond.code yX4_withAnswer cX4_withAnswer 7 (some .int), Cond.methodLink RX4 154 yX4_lastTotal, Cond.instanceMethod yX4_lastTotal, Cond.selects RX4 yX4_lastTotal yX4_lastTotal, Cond.code yX4_lastTotal cX4_lastTotal 4 (some .int), Cond.methodLink RL 122 yX3_shortest, Cond.instanceMethod yX3_shortest, Cond.selects RX3 yX3_shortest yX3_shortest, Cond.code yX3_shortest cX3_shortest 3 (some .int), Cond.methodLink RX3 132 Lib.Math.min.name, Cond.instanceMethod yX0_canComeTo, Cond.selects RX0 yX0_canComeTo yX0_canComeTo, Cond.code yX0_canComeTo cX0_canComeTo 4 (some .boolean), Cond.methodLink RX0 76 yX0_canOpen, Cond.instanceMethod yX0_canOpen, Cond.selects RX0 yX0_canOpen yX0_canOpen]
def wsL_law0_r26 : List Cond := [Cond.code yX0_canOpen cX0_canOpen 4 (some .boolean), Cond.methodLink RX0 82 yX0_hasWanting, Cond.instanceMethod yX0_hasWanting, Cond.selects RX0 yX0_hasWanting yX0_hasWanting, Cond.code yX0_hasWanting cX0_hasWanting 7 (some .boolean), Cond.methodLink RX0 79 yX0_canClose, Cond.instanceMethod yX0_canClose, Cond.selects RX0 yX0_canClose yX0_canClose, Cond.code yX0_canClose cX0_canClose 3 (some .boolean), Cond.methodLink RL 125 yX4_shortest, Cond.instanceMethod yX4_shortest, Cond.selects RX4 yX4_shortest yX4_shortest, Cond.code yX4_shortest cX4_shortest 1 (some .int), Cond.methodLink RX4 164 yX4_fewest, Cond.instanceMethod yX4_fewest, Cond.selects RX4 yX4_fewest yX4_fewest, Cond.code yX4_fewest cX4_fewest 7 (some .int), Cond.methodLink RX4 161 yX4_chosen, Cond.instanceMethod yX4_chosen, Cond.selects RX4 yX4_chosen yX4_chosen, Cond.code yX4_chosen cX4_chosen 3 (some .int), Cond.methodLink RL 126 yX3_mostCarried, Cond.instanceMethod yX3_mostCarried, Cond.selects RX3 yX3_mostCarried yX3_mostCarried]
def wsL_law0_r27 : List Cond := [Cond.code yX3_mostCarried cX3_mostCarried 6 (some .int), Cond.instanceMethod yX0_totalsOver, Cond.selects RX0 yX0_totalsOver yX0_totalsOver, Cond.code yX0_totalsOver cX0_totalsOver 6 (some .int), Cond.methodLink RX0 102 yJ6_bitCount_0f7a4, Cond.methodLink RL 129 yX4_mostCarried, Cond.instanceMethod yX4_mostCarried, Cond.selects RX4 yX4_mostCarried yX4_mostCarried, Cond.code yX4_mostCarried cX4_mostCarried 1 (some .int), Cond.methodLink RX4 170 yX4_carriedMost, Cond.instanceMethod yX4_carriedMost, Cond.selects RX4 yX4_carriedMost yX4_carriedMost, Cond.code yX4_carriedMost cX4_carriedMost 5 (some .int), Cond.methodLink RX4 167 yX4_carried, Cond.instanceMethod yX4_carried, Cond.selects RX4 yX4_carried yX4_carried, Cond.code yX4_carried cX4_carried 5 (some .int), Cond.methodLink RL 130 yX3_filled, Cond.instanceMethod yX3_filled, Cond.selects RX3 yX3_filled yX3_filled, Cond.code yX3_filled cX3_filled 3 (some .double), Cond.instanceMethod yX0_openToAnswer, Cond.selects RX0 yX0_openToAnswer yX0_openToAnswer, Cond.code yX0_openToAnswer cX0_openToAnswer 4 (some .int)]
def wsL_law0_r28 : List Cond := [Cond.methodLink RL 134 yX4_filled, Cond.instanceMethod yX4_filled, Cond.selects RX4 yX4_filled yX4_filled, Cond.code yX4_filled cX4_filled 1 (some .double), Cond.methodLink RX4 173 yX4_share, Cond.instanceMethod yX4_share, Cond.selects RX4 yX4_share yX4_share, Cond.code yX4_share cX4_share 4 (some .double), Cond.methodLink RL 135 yX3_digest, Cond.instanceMethod yX3_digest, Cond.selects RX3 yX3_digest yX3_digest, Cond.code yX3_digest cX3_digest 6 (some .long), Cond.constantLong RX3 143 (3389), Cond.methodLink RX3 145 yX3_hashCounts, Cond.instanceMethod yX3_hashCounts, Cond.selects RX3 yX3_hashCounts yX3_hashCounts, Cond.code yX3_hashCounts cX3_hashCounts 7 (some .long), Cond.methodLink RX3 158 yX3_mix, Cond.static yX3_mix, Cond.code yX3_mix cX3_mix 4 (some .long), Cond.constantLong RX3 254 (31), Cond.methodLink RX3 149 yX3_hashBoxes, Cond.instanceMethod yX3_hashBoxes, Cond.selects RX3 yX3_hashBoxes yX3_hashBoxes]
def wsL_law0_r29 : List Cond := [Cond.code yX3_hashBoxes cX3_hashBoxes 9 (some .long), Cond.methodLink RX3 152 yX3_hashParts, Cond.instanceMethod yX3_hashParts, Cond.selects RX3 yX3_hashParts yX3_hashParts, Cond.code yX3_hashParts cX3_hashParts 8 (some .long), Cond.methodLink RX3 155 yX3_shortest, Cond.methodLink RX3 162 yX3_mostCarried, Cond.methodLink RX3 165 yX3_filled, Cond.methodLink RX3 169 yX3_bitsOfShare, Cond.static yX3_bitsOfShare, Cond.code yX3_bitsOfShare cX3_bitsOfShare 9 (some .long), Cond.constantDouble RX3 256 (4611686018427387904), Cond.constantLong RX3 258 (4503599627370496), Cond.methodLink RL 139 yX4_digest, Cond.instanceMethod yX4_digest, Cond.selects RX4 yX4_digest yX4_digest, Cond.code yX4_digest cX4_digest 3 (some .long), Cond.constantLong RX4 191 (3389), Cond.fieldLink RX4 187 "TickFormsModel" "hash" "J", Cond.methodLink RX4 193 yX4_mix, Cond.instanceMethod yX4_mix, Cond.selects RX4 yX4_mix yX4_mix, Cond.code yX4_mix cX4_mix 3 none, Cond.constantLong RX4 185 (31)]
def wsL_law0_r30 : List Cond := [Cond.methodLink RX4 197 yX4_bitsOf, Cond.static yX4_bitsOf, Cond.code yX4_bitsOf cX4_bitsOf 6 (some .long), Cond.constantLong RX4 177 (1023), Cond.constantDouble RX4 179 (4611686018427387904), Cond.constantDouble RX4 181 (4841369599423283200), Cond.constantLong RX4 183 (4503599627370496)]
def wsL_law0 : List Cond := (wsL_law0_r1 ++ (wsL_law0_r2 ++ (wsL_law0_r3 ++ (wsL_law0_r4 ++ (wsL_law0_r5 ++ (wsL_law0_r6 ++ (wsL_law0_r7 ++ (wsL_law0_r8 ++ (wsL_law0_r9 ++ (wsL_law0_r10 ++ (wsL_law0_r11 ++ (wsL_law0_r12 ++ (wsL_law0_r13 ++ (wsL_law0_r14 ++ (wsL_law0_r15 ++ (wsL_law0_r16 ++ (wsL_law0_r17 ++ (wsL_law0_r18 ++ (wsL_law0_r19 ++ (wsL_law0_r20 ++ (wsL_law0_r21 ++ (wsL_law0_r22 ++ (wsL_law0_r23 ++ (wsL_law0_r24 ++ (wsL_law0_r25 ++ (wsL_law0_r26 ++ (wsL_law0_r27 ++ (wsL_law0_r28 ++ (wsL_law0_r29 ++ wsL_law0_r30))))))))))))))))))))))))))))) ++ wsX30 ++ wsX40 ++ wsX00 ++ wsX10 ++ wsX20 ++ ([] : List Cond)
def wsL_law : List Cond := wsL_law0 ++ (vx_atS RX3 180 "java/lang/IndexOutOfBoundsException" ["java/lang/RuntimeException", "java/lang/Exception"]).filter goodWord ++ (vx_atS RX3 192 "java/lang/IllegalArgumentException" ["java/lang/RuntimeException", "java/lang/Exception"]).filter goodWord ++ (vx_atS RX3 197 "java/lang/IllegalStateException" ["java/lang/RuntimeException", "java/lang/Exception"]).filter goodWord
set_option maxRecDepth 20000 in
theorem wsL_law_in0 : ∀ w ∈ wsL_law0, w ∈ lw_tbl := fun w h => (goodIn_p wsL_law0 [111, 114, 119, 148, 167, 722, 467, 470, 259, 542, 562, 221, 565, 196, 213, 200, 204, 207, 210, 585, 779, 782, 785, 789, 793, 797, 771, 592, 801, 599, 805, 606, 611, 276, 615, 809, 813, 818, 822, 622, 385, 626, 826, 633, 637, 643, 647, 650, 225, 339, 284, 288, 292, 304, 300, 312, 316, 830, 834, 837, 841, 845, 849, 853, 857, 861, 865, 192, 217, 869, 873, 658, 233, 662, 877, 229, 237, 881, 241, 245, 249, 253, 256, 262, 265, 885, 889, 893, 897, 901, 905, 670, 674, 678, 910, 685, 369, 689, 775, 696, 381, 389, 393, 397, 401, 405, 409, 415, 914, 918, 922, 703, 434, 439, 443, 447, 927, 931, 710, 356, 360, 364, 328, 935, 939, 943, 947, 950, 717, 421, 426, 954, 958, 962, 269, 273, 280, 296, 308, 966, 970, 974, 321, 325, 978, 982, 986, 335, 343, 990, 994, 347, 352, 372, 377, 430, 454, 998, 1003, 1007] (by decide +kernel) (by decide +kernel) w h).1
theorem wsL_law_x0 : ∀ w ∈ (vx_atS RX3 180 "java/lang/IndexOutOfBoundsException" ["java/lang/RuntimeException", "java/lang/Exception"]).filter goodWord, w ∈ lw_tbl := by decide +kernel
theorem wsL_law_x1 : ∀ w ∈ (vx_atS RX3 192 "java/lang/IllegalArgumentException" ["java/lang/RuntimeException", "java/lang/Exception"]).filter goodWord, w ∈ lw_tbl := by decide +kernel
theorem wsL_law_x2 : ∀ w ∈ (vx_atS RX3 197 "java/lang/IllegalStateException" ["java/lang/RuntimeException", "java/lang/Exception"]).filter goodWord, w ∈ lw_tbl := by decide +kernel
theorem wsL_law_in : ∀ w ∈ wsL_law, w ∈ lw_tbl := fun w h => (List.mem_append.mp h).elim (fun h => (List.mem_append.mp h).elim (fun h => (List.mem_append.mp h).elim (fun h => wsL_law_in0 w h) (fun h => wsL_law_x0 w h)) (fun h => wsL_law_x1 w h)) (fun h => wsL_law_x2 w h)
theorem inlX0 : ∀ w ∈ wsX00, w ∈ wsL_law := fun _ h => List.mem_append_left _ (List.mem_append_left _ (List.mem_append_left _ (List.mem_append_left _ (List.mem_append_left _ (List.mem_append_left _ (List.mem_append_right _ h))))))
theorem inX0 : ∀ w ∈ wsX00, w ∈ lw_tbl := fun w h => wsL_law_in w (inlX0 w h)
theorem inlX1 : ∀ w ∈ wsX10, w ∈ wsL_law := fun _ h => List.mem_append_left _ (List.mem_append_left _ (List.mem_append_left _ (List.mem_append_left _ (List.mem_append_left _ (List.mem_append_right _ h)))))
theorem inX1 : ∀ w ∈ wsX10, w ∈ lw_tbl := fun w h => wsL_law_in w (inlX1 w h)
theorem inlX2 : ∀ w ∈ wsX20, w ∈ wsL_law := fun _ h => List.mem_append_left _ (List.mem_append_left _ (List.mem_append_left _ (List.mem_append_left _ (List.mem_append_right _ h))))
theorem inX2 : ∀ w ∈ wsX20, w ∈ lw_tbl := fun w h => wsL_law_in w (inlX2 w h)
theorem inlX3 : ∀ w ∈ wsX30, w ∈ wsL_law := fun _ h => List.mem_append_left _ (List.mem_append_left _ (List.mem_append_left _ (List.mem_append_left _ (List.mem_append_left _ (List.mem_append_left _ (List.mem_append_left _ (List.mem_append_left _ (List.mem_append_right _ h))))))))
theorem inX3 : ∀ w ∈ wsX30, w ∈ lw_tbl := fun w h => wsL_law_in w (inlX3 w h)
theorem inlX4 : ∀ w ∈ wsX40, w ∈ wsL_law := fun _ h => List.mem_append_left _ (List.mem_append_left _ (List.mem_append_left _ (List.mem_append_left _ (List.mem_append_left _ (List.mem_append_left _ (List.mem_append_left _ (List.mem_append_right _ h)))))))
theorem inX4 : ∀ w ∈ wsX40, w ∈ lw_tbl := fun w h => wsL_law_in w (inlX4 w h)
theorem inJ6 : ∀ w ∈ wsJ60, w ∈ lw_tbl := by decide +kernel
theorem inJ9 : ∀ w ∈ wsJ90, w ∈ lw_tbl := by decide +kernel
theorem inJ0 : ∀ w ∈ wsJ00, w ∈ lw_tbl := by decide +kernel
theorem dX0_init_0 : decode cX0_init 0 = .ok (.aload_n 0, 1) := by decide +kernel
theorem dX0_init_1 : decode cX0_init 1 = .ok (.invokespecial 3, 3) := by decide +kernel
theorem dX0_init_4 : decode cX0_init 4 = .ok (.aload_n 0, 1) := by decide +kernel
theorem dX0_init_5 : decode cX0_init 5 = .ok (.bipush 16, 2) := by decide +kernel
theorem dX0_init_7 : decode cX0_init 7 = .ok (.newarray .int, 2) := by decide +kernel
theorem dX0_init_9 : decode cX0_init 9 = .ok (.putfield 9, 3) := by decide +kernel
theorem dX0_init_12 : decode cX0_init 12 = .ok (.aload_n 0, 1) := by decide +kernel
theorem dX0_init_13 : decode cX0_init 13 = .ok (.bipush 16, 2) := by decide +kernel
theorem dX0_init_15 : decode cX0_init 15 = .ok (.newarray .int, 2) := by decide +kernel
theorem dX0_init_17 : decode cX0_init 17 = .ok (.putfield 15, 3) := by decide +kernel
theorem dX0_init_20 : decode cX0_init 20 = .ok (.aload_n 0, 1) := by decide +kernel
theorem dX0_init_21 : decode cX0_init 21 = .ok (.bipush 16, 2) := by decide +kernel
theorem dX0_init_23 : decode cX0_init 23 = .ok (.newarray .int, 2) := by decide +kernel
theorem dX0_init_25 : decode cX0_init 25 = .ok (.putfield 18, 3) := by decide +kernel
theorem dX0_init_28 : decode cX0_init 28 = .ok (.aload_n 0, 1) := by decide +kernel
theorem dX0_init_29 : decode cX0_init 29 = .ok (.bipush 16, 2) := by decide +kernel
theorem dX0_init_31 : decode cX0_init 31 = .ok (.newarray .int, 2) := by decide +kernel
theorem dX0_init_33 : decode cX0_init 33 = .ok (.putfield 21, 3) := by decide +kernel
theorem dX0_init_36 : decode cX0_init 36 = .ok (.aload_n 0, 1) := by decide +kernel
theorem dX0_init_37 : decode cX0_init 37 = .ok (.bipush 16, 2) := by decide +kernel
theorem dX0_init_39 : decode cX0_init 39 = .ok (.newarray .int, 2) := by decide +kernel
theorem dX0_init_41 : decode cX0_init 41 = .ok (.putfield 24, 3) := by decide +kernel
theorem dX0_init_44 : decode cX0_init 44 = .ok (.aload_n 0, 1) := by decide +kernel
theorem dX0_init_45 : decode cX0_init 45 = .ok (.bipush 16, 2) := by decide +kernel
theorem dX0_init_47 : decode cX0_init 47 = .ok (.newarray .int, 2) := by decide +kernel
theorem dX0_init_49 : decode cX0_init 49 = .ok (.putfield 27, 3) := by decide +kernel
theorem dX0_init_52 : decode cX0_init 52 = .ok (.return_, 1) := by decide +kernel
theorem dX0_size_0 : decode cX0_size 0 = .ok (.aload_n 0, 1) := by decide +kernel
theorem dX0_size_1 : decode cX0_size 1 = .ok (.getfield 30, 3) := by decide +kernel
theorem dX0_size_4 : decode cX0_size 4 = .ok (.ireturn, 1) := by decide +kernel
theorem dX0_has_0 : decode cX0_has 0 = .ok (.iload_n 1, 1) := by decide +kernel
theorem dX0_has_1 : decode cX0_has 1 = .ok (.ifCond .lt 15, 3) := by decide +kernel
theorem dX0_has_4 : decode cX0_has 4 = .ok (.iload_n 1, 1) := by decide +kernel
theorem dX0_has_5 : decode cX0_has 5 = .ok (.aload_n 0, 1) := by decide +kernel
theorem dX0_has_6 : decode cX0_has 6 = .ok (.getfield 30, 3) := by decide +kernel
theorem dX0_has_9 : decode cX0_has 9 = .ok (.if_icmp .ge 7, 3) := by decide +kernel
theorem dX0_has_12 : decode cX0_has 12 = .ok (.iconst 1, 1) := by decide +kernel
theorem dX0_has_13 : decode cX0_has 13 = .ok (.goto 4, 3) := by decide +kernel
theorem dX0_has_16 : decode cX0_has 16 = .ok (.iconst 0, 1) := by decide +kernel
theorem dX0_has_17 : decode cX0_has 17 = .ok (.ireturn, 1) := by decide +kernel
set_option maxRecDepth 20000 in
theorem ggX0_kindOf_X3_at : GoodIn wsX0_kindOf wsX3_at := goodIn_r _ [4] (by decide +kernel) (by decide +kernel)
set_option maxRecDepth 20000 in
theorem gX0_kindOf_X3_at_n34 : GoodIn wsX0_kindOf (wsX3_at) := ggX0_kindOf_X3_at
theorem dX0_kindOf_0 : decode cX0_kindOf 0 = .ok (.aload_n 0, 1) := by decide +kernel
theorem dX0_kindOf_1 : decode cX0_kindOf 1 = .ok (.getfield 9, 3) := by decide +kernel
theorem dX0_kindOf_4 : decode cX0_kindOf 4 = .ok (.iload_n 1, 1) := by decide +kernel
theorem dX0_kindOf_5 : decode cX0_kindOf 5 = .ok (.invokestatic 34, 3) := by decide +kernel
theorem dX0_kindOf_8 : decode cX0_kindOf 8 = .ok (.ireturn, 1) := by decide +kernel
set_option maxRecDepth 20000 in
theorem ggX0_partOf_X3_at : GoodIn wsX0_partOf wsX3_at := goodIn_r _ [4] (by decide +kernel) (by decide +kernel)
set_option maxRecDepth 20000 in
theorem gX0_partOf_X3_at_n34 : GoodIn wsX0_partOf (wsX3_at) := ggX0_partOf_X3_at
theorem dX0_partOf_0 : decode cX0_partOf 0 = .ok (.aload_n 0, 1) := by decide +kernel
theorem dX0_partOf_1 : decode cX0_partOf 1 = .ok (.getfield 15, 3) := by decide +kernel
theorem dX0_partOf_4 : decode cX0_partOf 4 = .ok (.iload_n 1, 1) := by decide +kernel
theorem dX0_partOf_5 : decode cX0_partOf 5 = .ok (.invokestatic 34, 3) := by decide +kernel
theorem dX0_partOf_8 : decode cX0_partOf 8 = .ok (.ireturn, 1) := by decide +kernel
set_option maxRecDepth 20000 in
theorem ggX0_settingOf_X3_at : GoodIn wsX0_settingOf wsX3_at := goodIn_r _ [4] (by decide +kernel) (by decide +kernel)
set_option maxRecDepth 20000 in
theorem gX0_settingOf_X3_at_n34 : GoodIn wsX0_settingOf (wsX3_at) := ggX0_settingOf_X3_at
theorem dX0_settingOf_0 : decode cX0_settingOf 0 = .ok (.aload_n 0, 1) := by decide +kernel
theorem dX0_settingOf_1 : decode cX0_settingOf 1 = .ok (.getfield 18, 3) := by decide +kernel
theorem dX0_settingOf_4 : decode cX0_settingOf 4 = .ok (.iload_n 1, 1) := by decide +kernel
theorem dX0_settingOf_5 : decode cX0_settingOf 5 = .ok (.invokestatic 34, 3) := by decide +kernel
theorem dX0_settingOf_8 : decode cX0_settingOf 8 = .ok (.ireturn, 1) := by decide +kernel
set_option maxRecDepth 20000 in
theorem ggX0_limitOf_X3_at : GoodIn wsX0_limitOf wsX3_at := goodIn_r _ [4] (by decide +kernel) (by decide +kernel)
set_option maxRecDepth 20000 in
theorem gX0_limitOf_X3_at_n34 : GoodIn wsX0_limitOf (wsX3_at) := ggX0_limitOf_X3_at
theorem dX0_limitOf_0 : decode cX0_limitOf 0 = .ok (.aload_n 0, 1) := by decide +kernel
theorem dX0_limitOf_1 : decode cX0_limitOf 1 = .ok (.getfield 21, 3) := by decide +kernel
theorem dX0_limitOf_4 : decode cX0_limitOf 4 = .ok (.iload_n 1, 1) := by decide +kernel
theorem dX0_limitOf_5 : decode cX0_limitOf 5 = .ok (.invokestatic 34, 3) := by decide +kernel
theorem dX0_limitOf_8 : decode cX0_limitOf 8 = .ok (.ireturn, 1) := by decide +kernel
set_option maxRecDepth 20000 in
theorem ggX0_answerOf_X3_at : GoodIn wsX0_answerOf wsX3_at := goodIn_r _ [4] (by decide +kernel) (by decide +kernel)
set_option maxRecDepth 20000 in
theorem gX0_answerOf_X3_at_n34 : GoodIn wsX0_answerOf (wsX3_at) := ggX0_answerOf_X3_at
theorem dX0_answerOf_0 : decode cX0_answerOf 0 = .ok (.aload_n 0, 1) := by decide +kernel
theorem dX0_answerOf_1 : decode cX0_answerOf 1 = .ok (.getfield 24, 3) := by decide +kernel
theorem dX0_answerOf_4 : decode cX0_answerOf 4 = .ok (.iload_n 1, 1) := by decide +kernel
theorem dX0_answerOf_5 : decode cX0_answerOf 5 = .ok (.invokestatic 34, 3) := by decide +kernel
theorem dX0_answerOf_8 : decode cX0_answerOf 8 = .ok (.ireturn, 1) := by decide +kernel
set_option maxRecDepth 20000 in
theorem ggX0_add_X3_put : GoodIn wsX0_add wsX3_put := goodIn_r _ [9] (by decide +kernel) (by decide +kernel)
set_option maxRecDepth 20000 in
theorem gX0_add_X3_put_n38 : GoodIn wsX0_add (wsX3_put) := ggX0_add_X3_put
theorem dX0_add_0 : decode cX0_add 0 = .ok (.aload_n 0, 1) := by decide +kernel
theorem dX0_add_1 : decode cX0_add 1 = .ok (.getfield 9, 3) := by decide +kernel
theorem dX0_add_4 : decode cX0_add 4 = .ok (.aload_n 0, 1) := by decide +kernel
theorem dX0_add_5 : decode cX0_add 5 = .ok (.getfield 30, 3) := by decide +kernel
theorem dX0_add_8 : decode cX0_add 8 = .ok (.iload_n 1, 1) := by decide +kernel
theorem dX0_add_9 : decode cX0_add 9 = .ok (.invokestatic 38, 3) := by decide +kernel
theorem dX0_add_12 : decode cX0_add 12 = .ok (.aload_n 0, 1) := by decide +kernel
theorem dX0_add_13 : decode cX0_add 13 = .ok (.getfield 15, 3) := by decide +kernel
theorem dX0_add_16 : decode cX0_add 16 = .ok (.aload_n 0, 1) := by decide +kernel
theorem dX0_add_17 : decode cX0_add 17 = .ok (.getfield 30, 3) := by decide +kernel
theorem dX0_add_20 : decode cX0_add 20 = .ok (.iload_n 2, 1) := by decide +kernel
theorem dX0_add_21 : decode cX0_add 21 = .ok (.invokestatic 38, 3) := by decide +kernel
theorem dX0_add_24 : decode cX0_add 24 = .ok (.aload_n 0, 1) := by decide +kernel
theorem dX0_add_25 : decode cX0_add 25 = .ok (.getfield 18, 3) := by decide +kernel
theorem dX0_add_28 : decode cX0_add 28 = .ok (.aload_n 0, 1) := by decide +kernel
theorem dX0_add_29 : decode cX0_add 29 = .ok (.getfield 30, 3) := by decide +kernel
theorem dX0_add_32 : decode cX0_add 32 = .ok (.iload_n 3, 1) := by decide +kernel
theorem dX0_add_33 : decode cX0_add 33 = .ok (.invokestatic 38, 3) := by decide +kernel
theorem dX0_add_36 : decode cX0_add 36 = .ok (.aload_n 0, 1) := by decide +kernel
theorem dX0_add_37 : decode cX0_add 37 = .ok (.getfield 21, 3) := by decide +kernel
theorem dX0_add_40 : decode cX0_add 40 = .ok (.aload_n 0, 1) := by decide +kernel
theorem dX0_add_41 : decode cX0_add 41 = .ok (.getfield 30, 3) := by decide +kernel
theorem dX0_add_44 : decode cX0_add 44 = .ok (.iload 4, 2) := by decide +kernel
theorem dX0_add_46 : decode cX0_add 46 = .ok (.invokestatic 38, 3) := by decide +kernel
theorem dX0_add_49 : decode cX0_add 49 = .ok (.aload_n 0, 1) := by decide +kernel
theorem dX0_add_50 : decode cX0_add 50 = .ok (.getfield 24, 3) := by decide +kernel
theorem dX0_add_53 : decode cX0_add 53 = .ok (.aload_n 0, 1) := by decide +kernel
theorem dX0_add_54 : decode cX0_add 54 = .ok (.getfield 30, 3) := by decide +kernel
theorem dX0_add_57 : decode cX0_add 57 = .ok (.iconst (-1), 1) := by decide +kernel
theorem dX0_add_58 : decode cX0_add 58 = .ok (.invokestatic 38, 3) := by decide +kernel
theorem dX0_add_61 : decode cX0_add 61 = .ok (.aload_n 0, 1) := by decide +kernel
theorem dX0_add_62 : decode cX0_add 62 = .ok (.dup, 1) := by decide +kernel
theorem dX0_add_63 : decode cX0_add 63 = .ok (.getfield 30, 3) := by decide +kernel
theorem dX0_add_66 : decode cX0_add 66 = .ok (.iconst 1, 1) := by decide +kernel
theorem dX0_add_67 : decode cX0_add 67 = .ok (.iadd, 1) := by decide +kernel
theorem dX0_add_68 : decode cX0_add 68 = .ok (.putfield 30, 3) := by decide +kernel
theorem dX0_add_71 : decode cX0_add 71 = .ok (.return_, 1) := by decide +kernel
theorem dX0_removeLast_0 : decode cX0_removeLast 0 = .ok (.aload_n 0, 1) := by decide +kernel
theorem dX0_removeLast_1 : decode cX0_removeLast 1 = .ok (.dup, 1) := by decide +kernel
theorem dX0_removeLast_2 : decode cX0_removeLast 2 = .ok (.getfield 30, 3) := by decide +kernel
theorem dX0_removeLast_5 : decode cX0_removeLast 5 = .ok (.iconst 1, 1) := by decide +kernel
theorem dX0_removeLast_6 : decode cX0_removeLast 6 = .ok (.isub, 1) := by decide +kernel
theorem dX0_removeLast_7 : decode cX0_removeLast 7 = .ok (.putfield 30, 3) := by decide +kernel
theorem dX0_removeLast_10 : decode cX0_removeLast 10 = .ok (.return_, 1) := by decide +kernel
set_option maxRecDepth 20000 in
theorem ggX0_give_X3_put : GoodIn wsX0_give wsX3_put := goodIn_r _ [4] (by decide +kernel) (by decide +kernel)
set_option maxRecDepth 20000 in
theorem gX0_give_X3_put_n38 : GoodIn wsX0_give (wsX3_put) := ggX0_give_X3_put
theorem dX0_give_0 : decode cX0_give 0 = .ok (.aload_n 0, 1) := by decide +kernel
theorem dX0_give_1 : decode cX0_give 1 = .ok (.getfield 24, 3) := by decide +kernel
theorem dX0_give_4 : decode cX0_give 4 = .ok (.iload_n 1, 1) := by decide +kernel
theorem dX0_give_5 : decode cX0_give 5 = .ok (.iload_n 2, 1) := by decide +kernel
theorem dX0_give_6 : decode cX0_give 6 = .ok (.invokestatic 38, 3) := by decide +kernel
theorem dX0_give_9 : decode cX0_give 9 = .ok (.return_, 1) := by decide +kernel
set_option maxRecDepth 20000 in
theorem ggX0_copyFrom_X3_at : GoodIn wsX0_copyFrom wsX3_at := goodIn_r _ [9] (by decide +kernel) (by decide +kernel)
set_option maxRecDepth 20000 in
theorem gX0_copyFrom_X3_at_n34 : GoodIn wsX0_copyFrom (wsX3_at) := ggX0_copyFrom_X3_at
set_option maxRecDepth 20000 in
theorem ggX0_copyFrom_X3_put : GoodIn wsX0_copyFrom wsX3_put := goodIn_r _ [11] (by decide +kernel) (by decide +kernel)
set_option maxRecDepth 20000 in
theorem gX0_copyFrom_X3_put_n38 : GoodIn wsX0_copyFrom (wsX3_put) := ggX0_copyFrom_X3_put
theorem dX0_copyFrom_0 : decode cX0_copyFrom 0 = .ok (.iconst 0, 1) := by decide +kernel
theorem dX0_copyFrom_1 : decode cX0_copyFrom 1 = .ok (.istore_n 2, 1) := by decide +kernel
theorem dX0_copyFrom_2 : decode cX0_copyFrom 2 = .ok (.iload_n 2, 1) := by decide +kernel
theorem dX0_copyFrom_3 : decode cX0_copyFrom 3 = .ok (.aload_n 1, 1) := by decide +kernel
theorem dX0_copyFrom_4 : decode cX0_copyFrom 4 = .ok (.getfield 30, 3) := by decide +kernel
theorem dX0_copyFrom_7 : decode cX0_copyFrom 7 = .ok (.if_icmp .ge 89, 3) := by decide +kernel
theorem dX0_copyFrom_10 : decode cX0_copyFrom 10 = .ok (.aload_n 0, 1) := by decide +kernel
theorem dX0_copyFrom_11 : decode cX0_copyFrom 11 = .ok (.getfield 9, 3) := by decide +kernel
theorem dX0_copyFrom_14 : decode cX0_copyFrom 14 = .ok (.iload_n 2, 1) := by decide +kernel
theorem dX0_copyFrom_15 : decode cX0_copyFrom 15 = .ok (.aload_n 1, 1) := by decide +kernel
theorem dX0_copyFrom_16 : decode cX0_copyFrom 16 = .ok (.getfield 9, 3) := by decide +kernel
theorem dX0_copyFrom_19 : decode cX0_copyFrom 19 = .ok (.iload_n 2, 1) := by decide +kernel
theorem dX0_copyFrom_20 : decode cX0_copyFrom 20 = .ok (.invokestatic 34, 3) := by decide +kernel
theorem dX0_copyFrom_23 : decode cX0_copyFrom 23 = .ok (.invokestatic 38, 3) := by decide +kernel
theorem dX0_copyFrom_26 : decode cX0_copyFrom 26 = .ok (.aload_n 0, 1) := by decide +kernel
theorem dX0_copyFrom_27 : decode cX0_copyFrom 27 = .ok (.getfield 15, 3) := by decide +kernel
theorem dX0_copyFrom_30 : decode cX0_copyFrom 30 = .ok (.iload_n 2, 1) := by decide +kernel
theorem dX0_copyFrom_31 : decode cX0_copyFrom 31 = .ok (.aload_n 1, 1) := by decide +kernel
theorem dX0_copyFrom_32 : decode cX0_copyFrom 32 = .ok (.getfield 15, 3) := by decide +kernel
theorem dX0_copyFrom_35 : decode cX0_copyFrom 35 = .ok (.iload_n 2, 1) := by decide +kernel
theorem dX0_copyFrom_36 : decode cX0_copyFrom 36 = .ok (.invokestatic 34, 3) := by decide +kernel
theorem dX0_copyFrom_39 : decode cX0_copyFrom 39 = .ok (.invokestatic 38, 3) := by decide +kernel
theorem dX0_copyFrom_42 : decode cX0_copyFrom 42 = .ok (.aload_n 0, 1) := by decide +kernel
theorem dX0_copyFrom_43 : decode cX0_copyFrom 43 = .ok (.getfield 18, 3) := by decide +kernel
theorem dX0_copyFrom_46 : decode cX0_copyFrom 46 = .ok (.iload_n 2, 1) := by decide +kernel
theorem dX0_copyFrom_47 : decode cX0_copyFrom 47 = .ok (.aload_n 1, 1) := by decide +kernel
theorem dX0_copyFrom_48 : decode cX0_copyFrom 48 = .ok (.getfield 18, 3) := by decide +kernel
theorem dX0_copyFrom_51 : decode cX0_copyFrom 51 = .ok (.iload_n 2, 1) := by decide +kernel
theorem dX0_copyFrom_52 : decode cX0_copyFrom 52 = .ok (.invokestatic 34, 3) := by decide +kernel
theorem dX0_copyFrom_55 : decode cX0_copyFrom 55 = .ok (.invokestatic 38, 3) := by decide +kernel
theorem dX0_copyFrom_58 : decode cX0_copyFrom 58 = .ok (.aload_n 0, 1) := by decide +kernel
theorem dX0_copyFrom_59 : decode cX0_copyFrom 59 = .ok (.getfield 21, 3) := by decide +kernel
theorem dX0_copyFrom_62 : decode cX0_copyFrom 62 = .ok (.iload_n 2, 1) := by decide +kernel
theorem dX0_copyFrom_63 : decode cX0_copyFrom 63 = .ok (.aload_n 1, 1) := by decide +kernel
theorem dX0_copyFrom_64 : decode cX0_copyFrom 64 = .ok (.getfield 21, 3) := by decide +kernel
theorem dX0_copyFrom_67 : decode cX0_copyFrom 67 = .ok (.iload_n 2, 1) := by decide +kernel
theorem dX0_copyFrom_68 : decode cX0_copyFrom 68 = .ok (.invokestatic 34, 3) := by decide +kernel
theorem dX0_copyFrom_71 : decode cX0_copyFrom 71 = .ok (.invokestatic 38, 3) := by decide +kernel
theorem dX0_copyFrom_74 : decode cX0_copyFrom 74 = .ok (.aload_n 0, 1) := by decide +kernel
theorem dX0_copyFrom_75 : decode cX0_copyFrom 75 = .ok (.getfield 24, 3) := by decide +kernel
theorem dX0_copyFrom_78 : decode cX0_copyFrom 78 = .ok (.iload_n 2, 1) := by decide +kernel
theorem dX0_copyFrom_79 : decode cX0_copyFrom 79 = .ok (.aload_n 1, 1) := by decide +kernel
theorem dX0_copyFrom_80 : decode cX0_copyFrom 80 = .ok (.getfield 24, 3) := by decide +kernel
theorem dX0_copyFrom_83 : decode cX0_copyFrom 83 = .ok (.iload_n 2, 1) := by decide +kernel
theorem dX0_copyFrom_84 : decode cX0_copyFrom 84 = .ok (.invokestatic 34, 3) := by decide +kernel
theorem dX0_copyFrom_87 : decode cX0_copyFrom 87 = .ok (.invokestatic 38, 3) := by decide +kernel
theorem dX0_copyFrom_90 : decode cX0_copyFrom 90 = .ok (.iinc 2 1, 3) := by decide +kernel
theorem dX0_copyFrom_93 : decode cX0_copyFrom 93 = .ok (.goto (-91), 3) := by decide +kernel
theorem dX0_copyFrom_96 : decode cX0_copyFrom 96 = .ok (.aload_n 0, 1) := by decide +kernel
theorem dX0_copyFrom_97 : decode cX0_copyFrom 97 = .ok (.aload_n 1, 1) := by decide +kernel
theorem dX0_copyFrom_98 : decode cX0_copyFrom 98 = .ok (.getfield 30, 3) := by decide +kernel
theorem dX0_copyFrom_101 : decode cX0_copyFrom 101 = .ok (.putfield 30, 3) := by decide +kernel
theorem dX0_copyFrom_104 : decode cX0_copyFrom 104 = .ok (.return_, 1) := by decide +kernel
set_option maxRecDepth 20000 in
theorem ggX0_isFor_X3_at : GoodIn wsX0_isFor wsX3_at := goodIn_r _ [5] (by decide +kernel) (by decide +kernel)
set_option maxRecDepth 20000 in
theorem gX0_isFor_X3_at_n34 : GoodIn wsX0_isFor (wsX3_at) := ggX0_isFor_X3_at
theorem dX0_isFor_0 : decode cX0_isFor 0 = .ok (.aload_n 0, 1) := by decide +kernel
theorem dX0_isFor_1 : decode cX0_isFor 1 = .ok (.getfield 9, 3) := by decide +kernel
theorem dX0_isFor_4 : decode cX0_isFor 4 = .ok (.iload_n 1, 1) := by decide +kernel
theorem dX0_isFor_5 : decode cX0_isFor 5 = .ok (.invokestatic 34, 3) := by decide +kernel
theorem dX0_isFor_8 : decode cX0_isFor 8 = .ok (.iload_n 2, 1) := by decide +kernel
theorem dX0_isFor_9 : decode cX0_isFor 9 = .ok (.if_icmp .ne 19, 3) := by decide +kernel
theorem dX0_isFor_12 : decode cX0_isFor 12 = .ok (.aload_n 0, 1) := by decide +kernel
theorem dX0_isFor_13 : decode cX0_isFor 13 = .ok (.getfield 18, 3) := by decide +kernel
theorem dX0_isFor_16 : decode cX0_isFor 16 = .ok (.iload_n 1, 1) := by decide +kernel
theorem dX0_isFor_17 : decode cX0_isFor 17 = .ok (.invokestatic 34, 3) := by decide +kernel
theorem dX0_isFor_20 : decode cX0_isFor 20 = .ok (.iload_n 3, 1) := by decide +kernel
theorem dX0_isFor_21 : decode cX0_isFor 21 = .ok (.if_icmp .ne 7, 3) := by decide +kernel
theorem dX0_isFor_24 : decode cX0_isFor 24 = .ok (.iconst 1, 1) := by decide +kernel
theorem dX0_isFor_25 : decode cX0_isFor 25 = .ok (.goto 4, 3) := by decide +kernel
theorem dX0_isFor_28 : decode cX0_isFor 28 = .ok (.iconst 0, 1) := by decide +kernel
theorem dX0_isFor_29 : decode cX0_isFor 29 = .ok (.ireturn, 1) := by decide +kernel
set_option maxRecDepth 20000 in
theorem ggX0_isEmpty_X3_at : GoodIn wsX0_isEmpty wsX3_at := goodIn_r _ [5] (by decide +kernel) (by decide +kernel)
set_option maxRecDepth 20000 in
theorem gX0_isEmpty_X3_at_n34 : GoodIn wsX0_isEmpty (wsX3_at) := ggX0_isEmpty_X3_at
theorem dX0_isEmpty_0 : decode cX0_isEmpty 0 = .ok (.aload_n 0, 1) := by decide +kernel
theorem dX0_isEmpty_1 : decode cX0_isEmpty 1 = .ok (.getfield 9, 3) := by decide +kernel
theorem dX0_isEmpty_4 : decode cX0_isEmpty 4 = .ok (.iload_n 1, 1) := by decide +kernel
theorem dX0_isEmpty_5 : decode cX0_isEmpty 5 = .ok (.invokestatic 34, 3) := by decide +kernel
theorem dX0_isEmpty_8 : decode cX0_isEmpty 8 = .ok (.iconst 3, 1) := by decide +kernel
theorem dX0_isEmpty_9 : decode cX0_isEmpty 9 = .ok (.if_icmp .eq 19, 3) := by decide +kernel
theorem dX0_isEmpty_12 : decode cX0_isEmpty 12 = .ok (.aload_n 0, 1) := by decide +kernel
theorem dX0_isEmpty_13 : decode cX0_isEmpty 13 = .ok (.getfield 24, 3) := by decide +kernel
theorem dX0_isEmpty_16 : decode cX0_isEmpty 16 = .ok (.iload_n 1, 1) := by decide +kernel
theorem dX0_isEmpty_17 : decode cX0_isEmpty 17 = .ok (.invokestatic 34, 3) := by decide +kernel
theorem dX0_isEmpty_20 : decode cX0_isEmpty 20 = .ok (.iconst (-1), 1) := by decide +kernel
theorem dX0_isEmpty_21 : decode cX0_isEmpty 21 = .ok (.if_icmp .ne 7, 3) := by decide +kernel
theorem dX0_isEmpty_24 : decode cX0_isEmpty 24 = .ok (.iconst 1, 1) := by decide +kernel
theorem dX0_isEmpty_25 : decode cX0_isEmpty 25 = .ok (.goto 4, 3) := by decide +kernel
theorem dX0_isEmpty_28 : decode cX0_isEmpty 28 = .ok (.iconst 0, 1) := by decide +kernel
theorem dX0_isEmpty_29 : decode cX0_isEmpty 29 = .ok (.ireturn, 1) := by decide +kernel
set_option maxRecDepth 20000 in
theorem ggX0_fits_X0_mostAnswer : GoodIn wsX0_fits wsX0_mostAnswer := goodIn_r _ [5, 6, 7, 8, 9, 10, 11, 12, 4, 13, 16, 17, 18, 19, 20, 21, 22] (by decide +kernel) (by decide +kernel)
set_option maxRecDepth 20000 in
theorem gX0_fits_X0_mostAnswer : GoodIn wsX0_fits (wsV RX0 42 RX0 yX0_mostAnswer wsX0_mostAnswer) := goodIn_app (goodIn_of _ (by decide +kernel)) ggX0_fits_X0_mostAnswer
set_option maxRecDepth 20000 in
theorem ggX0_fits_X3_isWithin : GoodIn wsX0_fits wsX3_isWithin := goodIn_r _ [15] (by decide +kernel) (by decide +kernel)
set_option maxRecDepth 20000 in
theorem gX0_fits_X3_isWithin_n46 : GoodIn wsX0_fits (wsX3_isWithin) := ggX0_fits_X3_isWithin
theorem dX0_fits_0 : decode cX0_fits 0 = .ok (.iload_n 2, 1) := by decide +kernel
theorem dX0_fits_1 : decode cX0_fits 1 = .ok (.iconst (-1), 1) := by decide +kernel
theorem dX0_fits_2 : decode cX0_fits 2 = .ok (.if_icmp .eq 16, 3) := by decide +kernel
theorem dX0_fits_5 : decode cX0_fits 5 = .ok (.iload_n 2, 1) := by decide +kernel
theorem dX0_fits_6 : decode cX0_fits 6 = .ok (.iconst 0, 1) := by decide +kernel
theorem dX0_fits_7 : decode cX0_fits 7 = .ok (.aload_n 0, 1) := by decide +kernel
theorem dX0_fits_8 : decode cX0_fits 8 = .ok (.iload_n 1, 1) := by decide +kernel
theorem dX0_fits_9 : decode cX0_fits 9 = .ok (.invokevirtual 42, 3) := by decide +kernel
theorem dX0_fits_12 : decode cX0_fits 12 = .ok (.invokestatic 46, 3) := by decide +kernel
theorem dX0_fits_15 : decode cX0_fits 15 = .ok (.ifCond .eq 7, 3) := by decide +kernel
theorem dX0_fits_18 : decode cX0_fits 18 = .ok (.iconst 1, 1) := by decide +kernel
theorem dX0_fits_19 : decode cX0_fits 19 = .ok (.goto 4, 3) := by decide +kernel
theorem dX0_fits_22 : decode cX0_fits 22 = .ok (.iconst 0, 1) := by decide +kernel
theorem dX0_fits_23 : decode cX0_fits 23 = .ok (.ireturn, 1) := by decide +kernel
set_option maxRecDepth 20000 in
theorem ggX0_mostAnswer_X3_at : GoodIn wsX0_mostAnswer wsX3_at := goodIn_r _ [5] (by decide +kernel) (by decide +kernel)
set_option maxRecDepth 20000 in
theorem gX0_mostAnswer_X3_at_n34 : GoodIn wsX0_mostAnswer (wsX3_at) := ggX0_mostAnswer_X3_at
set_option maxRecDepth 20000 in
theorem ggX0_mostAnswer_X0_mostWithTeeth : GoodIn wsX0_mostAnswer wsX0_mostWithTeeth := goodIn_r _ [9] (by decide +kernel) (by decide +kernel)
set_option maxRecDepth 20000 in
theorem gX0_mostAnswer_X0_mostWithTeeth : GoodIn wsX0_mostAnswer (va_wsS RX0 50 yX0_mostWithTeeth wsX0_mostWithTeeth) := goodIn_app (goodIn_of _ (by decide +kernel)) ggX0_mostAnswer_X0_mostWithTeeth
theorem dX0_mostAnswer_0 : decode cX0_mostAnswer 0 = .ok (.aload_n 0, 1) := by decide +kernel
theorem dX0_mostAnswer_1 : decode cX0_mostAnswer 1 = .ok (.getfield 9, 3) := by decide +kernel
theorem dX0_mostAnswer_4 : decode cX0_mostAnswer 4 = .ok (.iload_n 1, 1) := by decide +kernel
theorem dX0_mostAnswer_5 : decode cX0_mostAnswer 5 = .ok (.invokestatic 34, 3) := by decide +kernel
theorem dX0_mostAnswer_8 : decode cX0_mostAnswer 8 = .ok (.tableswitch 45 0 2 #[28, 40, 42], 28) := by decide +kernel
theorem dX0_mostAnswer_36 : decode cX0_mostAnswer 36 = .ok (.aload_n 0, 1) := by decide +kernel
theorem dX0_mostAnswer_37 : decode cX0_mostAnswer 37 = .ok (.getfield 18, 3) := by decide +kernel
theorem dX0_mostAnswer_40 : decode cX0_mostAnswer 40 = .ok (.iload_n 1, 1) := by decide +kernel
theorem dX0_mostAnswer_41 : decode cX0_mostAnswer 41 = .ok (.invokestatic 34, 3) := by decide +kernel
theorem dX0_mostAnswer_44 : decode cX0_mostAnswer 44 = .ok (.invokestatic 50, 3) := by decide +kernel
theorem dX0_mostAnswer_47 : decode cX0_mostAnswer 47 = .ok (.ireturn, 1) := by decide +kernel
theorem dX0_mostAnswer_48 : decode cX0_mostAnswer 48 = .ok (.iconst 1, 1) := by decide +kernel
theorem dX0_mostAnswer_49 : decode cX0_mostAnswer 49 = .ok (.ireturn, 1) := by decide +kernel
theorem dX0_mostAnswer_50 : decode cX0_mostAnswer 50 = .ok (.bipush 99, 2) := by decide +kernel
theorem dX0_mostAnswer_52 : decode cX0_mostAnswer 52 = .ok (.ireturn, 1) := by decide +kernel
theorem dX0_mostAnswer_53 : decode cX0_mostAnswer 53 = .ok (.iconst (-1), 1) := by decide +kernel
theorem dX0_mostAnswer_54 : decode cX0_mostAnswer 54 = .ok (.ireturn, 1) := by decide +kernel
theorem dX0_mostWithTeeth_0 : decode cX0_mostWithTeeth 0 = .ok (.iconst 0, 1) := by decide +kernel
theorem dX0_mostWithTeeth_1 : decode cX0_mostWithTeeth 1 = .ok (.istore_n 1, 1) := by decide +kernel
theorem dX0_mostWithTeeth_2 : decode cX0_mostWithTeeth 2 = .ok (.iconst 0, 1) := by decide +kernel
theorem dX0_mostWithTeeth_3 : decode cX0_mostWithTeeth 3 = .ok (.istore_n 2, 1) := by decide +kernel
theorem dX0_mostWithTeeth_4 : decode cX0_mostWithTeeth 4 = .ok (.iload_n 2, 1) := by decide +kernel
theorem dX0_mostWithTeeth_5 : decode cX0_mostWithTeeth 5 = .ok (.iload_n 0, 1) := by decide +kernel
theorem dX0_mostWithTeeth_6 : decode cX0_mostWithTeeth 6 = .ok (.if_icmp .ge 22, 3) := by decide +kernel
theorem dX0_mostWithTeeth_9 : decode cX0_mostWithTeeth 9 = .ok (.iload_n 2, 1) := by decide +kernel
theorem dX0_mostWithTeeth_10 : decode cX0_mostWithTeeth 10 = .ok (.iconst 5, 1) := by decide +kernel
theorem dX0_mostWithTeeth_11 : decode cX0_mostWithTeeth 11 = .ok (.if_icmp .ge 17, 3) := by decide +kernel
theorem dX0_mostWithTeeth_14 : decode cX0_mostWithTeeth 14 = .ok (.iload_n 1, 1) := by decide +kernel
theorem dX0_mostWithTeeth_15 : decode cX0_mostWithTeeth 15 = .ok (.bipush 10, 2) := by decide +kernel
theorem dX0_mostWithTeeth_17 : decode cX0_mostWithTeeth 17 = .ok (.imul, 1) := by decide +kernel
theorem dX0_mostWithTeeth_18 : decode cX0_mostWithTeeth 18 = .ok (.bipush 9, 2) := by decide +kernel
theorem dX0_mostWithTeeth_20 : decode cX0_mostWithTeeth 20 = .ok (.iadd, 1) := by decide +kernel
theorem dX0_mostWithTeeth_21 : decode cX0_mostWithTeeth 21 = .ok (.istore_n 1, 1) := by decide +kernel
theorem dX0_mostWithTeeth_22 : decode cX0_mostWithTeeth 22 = .ok (.iinc 2 1, 3) := by decide +kernel
theorem dX0_mostWithTeeth_25 : decode cX0_mostWithTeeth 25 = .ok (.goto (-21), 3) := by decide +kernel
theorem dX0_mostWithTeeth_28 : decode cX0_mostWithTeeth 28 = .ok (.iload_n 1, 1) := by decide +kernel
theorem dX0_mostWithTeeth_29 : decode cX0_mostWithTeeth 29 = .ok (.ireturn, 1) := by decide +kernel
set_option maxRecDepth 20000 in
theorem ggX0_answered_X3_at : GoodIn wsX0_answered wsX3_at := goodIn_r _ [5] (by decide +kernel) (by decide +kernel)
set_option maxRecDepth 20000 in
theorem gX0_answered_X3_at_n34 : GoodIn wsX0_answered (wsX3_at) := ggX0_answered_X3_at
theorem dX0_answered_0 : decode cX0_answered 0 = .ok (.iconst 0, 1) := by decide +kernel
theorem dX0_answered_1 : decode cX0_answered 1 = .ok (.istore_n 1, 1) := by decide +kernel
theorem dX0_answered_2 : decode cX0_answered 2 = .ok (.iconst 0, 1) := by decide +kernel
theorem dX0_answered_3 : decode cX0_answered 3 = .ok (.istore_n 2, 1) := by decide +kernel
theorem dX0_answered_4 : decode cX0_answered 4 = .ok (.iload_n 2, 1) := by decide +kernel
theorem dX0_answered_5 : decode cX0_answered 5 = .ok (.aload_n 0, 1) := by decide +kernel
theorem dX0_answered_6 : decode cX0_answered 6 = .ok (.getfield 30, 3) := by decide +kernel
theorem dX0_answered_9 : decode cX0_answered 9 = .ok (.if_icmp .ge 24, 3) := by decide +kernel
theorem dX0_answered_12 : decode cX0_answered 12 = .ok (.aload_n 0, 1) := by decide +kernel
theorem dX0_answered_13 : decode cX0_answered 13 = .ok (.getfield 24, 3) := by decide +kernel
theorem dX0_answered_16 : decode cX0_answered 16 = .ok (.iload_n 2, 1) := by decide +kernel
theorem dX0_answered_17 : decode cX0_answered 17 = .ok (.invokestatic 34, 3) := by decide +kernel
theorem dX0_answered_20 : decode cX0_answered 20 = .ok (.iconst (-1), 1) := by decide +kernel
theorem dX0_answered_21 : decode cX0_answered 21 = .ok (.if_icmp .eq 6, 3) := by decide +kernel
theorem dX0_answered_24 : decode cX0_answered 24 = .ok (.iinc 1 1, 3) := by decide +kernel
theorem dX0_answered_27 : decode cX0_answered 27 = .ok (.iinc 2 1, 3) := by decide +kernel
theorem dX0_answered_30 : decode cX0_answered 30 = .ok (.goto (-26), 3) := by decide +kernel
theorem dX0_answered_33 : decode cX0_answered 33 = .ok (.iload_n 1, 1) := by decide +kernel
theorem dX0_answered_34 : decode cX0_answered 34 = .ok (.ireturn, 1) := by decide +kernel
set_option maxRecDepth 20000 in
theorem ggX0_openParts_X0_isTicked : GoodIn wsX0_openParts wsX0_isTicked := goodIn_r _ [5, 6, 7, 8, 9, 10, 4, 11, 12, 13, 14, 15, 16, 17, 18, 19, 20, 21, 22, 23, 33, 34, 35, 36, 37, 38, 39] (by decide +kernel) (by decide +kernel)
set_option maxRecDepth 20000 in
theorem gX0_openParts_X0_isTicked : GoodIn wsX0_openParts (wsV RX0 53 RX0 yX0_isTicked wsX0_isTicked) := goodIn_app (goodIn_of _ (by decide +kernel)) ggX0_openParts_X0_isTicked
set_option maxRecDepth 20000 in
theorem ggX0_openParts_X0_isSkipped : GoodIn wsX0_openParts wsX0_isSkipped := goodIn_r _ [27, 6, 7, 28, 29, 30, 31, 4, 32, 12, 14, 15, 16, 8, 9, 10, 11, 13, 17, 18, 19, 20, 21, 22, 23, 33, 34, 35, 36, 37, 38, 39] (by decide +kernel) (by decide +kernel)
set_option maxRecDepth 20000 in
theorem gX0_openParts_X0_isSkipped : GoodIn wsX0_openParts (wsV RX0 57 RX0 yX0_isSkipped wsX0_isSkipped) := goodIn_app (goodIn_of _ (by decide +kernel)) ggX0_openParts_X0_isSkipped
theorem dX0_openParts_0 : decode cX0_openParts 0 = .ok (.iconst 1, 1) := by decide +kernel
theorem dX0_openParts_1 : decode cX0_openParts 1 = .ok (.istore_n 1, 1) := by decide +kernel
theorem dX0_openParts_2 : decode cX0_openParts 2 = .ok (.iconst 1, 1) := by decide +kernel
theorem dX0_openParts_3 : decode cX0_openParts 3 = .ok (.istore_n 2, 1) := by decide +kernel
theorem dX0_openParts_4 : decode cX0_openParts 4 = .ok (.iload_n 2, 1) := by decide +kernel
theorem dX0_openParts_5 : decode cX0_openParts 5 = .ok (.iconst 5, 1) := by decide +kernel
theorem dX0_openParts_6 : decode cX0_openParts 6 = .ok (.if_icmp .ge 33, 3) := by decide +kernel
theorem dX0_openParts_9 : decode cX0_openParts 9 = .ok (.aload_n 0, 1) := by decide +kernel
theorem dX0_openParts_10 : decode cX0_openParts 10 = .ok (.iload_n 2, 1) := by decide +kernel
theorem dX0_openParts_11 : decode cX0_openParts 11 = .ok (.iload_n 1, 1) := by decide +kernel
theorem dX0_openParts_12 : decode cX0_openParts 12 = .ok (.invokevirtual 53, 3) := by decide +kernel
theorem dX0_openParts_15 : decode cX0_openParts 15 = .ok (.ifCond .eq 18, 3) := by decide +kernel
theorem dX0_openParts_18 : decode cX0_openParts 18 = .ok (.aload_n 0, 1) := by decide +kernel
theorem dX0_openParts_19 : decode cX0_openParts 19 = .ok (.iload_n 2, 1) := by decide +kernel
theorem dX0_openParts_20 : decode cX0_openParts 20 = .ok (.iload_n 1, 1) := by decide +kernel
theorem dX0_openParts_21 : decode cX0_openParts 21 = .ok (.invokevirtual 57, 3) := by decide +kernel
theorem dX0_openParts_24 : decode cX0_openParts 24 = .ok (.ifCond .ne 9, 3) := by decide +kernel
theorem dX0_openParts_27 : decode cX0_openParts 27 = .ok (.iload_n 1, 1) := by decide +kernel
theorem dX0_openParts_28 : decode cX0_openParts 28 = .ok (.iconst 1, 1) := by decide +kernel
theorem dX0_openParts_29 : decode cX0_openParts 29 = .ok (.iload_n 2, 1) := by decide +kernel
theorem dX0_openParts_30 : decode cX0_openParts 30 = .ok (.ishl, 1) := by decide +kernel
theorem dX0_openParts_31 : decode cX0_openParts 31 = .ok (.ior, 1) := by decide +kernel
theorem dX0_openParts_32 : decode cX0_openParts 32 = .ok (.istore_n 1, 1) := by decide +kernel
theorem dX0_openParts_33 : decode cX0_openParts 33 = .ok (.iinc 2 1, 3) := by decide +kernel
theorem dX0_openParts_36 : decode cX0_openParts 36 = .ok (.goto (-32), 3) := by decide +kernel
theorem dX0_openParts_39 : decode cX0_openParts 39 = .ok (.iload_n 1, 1) := by decide +kernel
theorem dX0_openParts_40 : decode cX0_openParts 40 = .ok (.ireturn, 1) := by decide +kernel
set_option maxRecDepth 20000 in
theorem ggX0_isTicked_X0_isFor : GoodIn wsX0_isTicked wsX0_isFor := goodIn_r _ [7, 8, 9, 10, 11, 12, 20, 21, 22, 23, 24, 25, 26] (by decide +kernel) (by decide +kernel)
set_option maxRecDepth 20000 in
theorem gX0_isTicked_X0_isFor : GoodIn wsX0_isTicked (wsV RX0 60 RX0 yX0_isFor wsX0_isFor) := goodIn_app (goodIn_of _ (by decide +kernel)) ggX0_isTicked_X0_isFor
set_option maxRecDepth 20000 in
theorem ggX0_isTicked_X0_isOpen : GoodIn wsX0_isTicked wsX0_isOpen := goodIn_r _ [16, 17, 10, 11, 12, 18, 19, 20, 21, 22, 23, 24, 25, 26] (by decide +kernel) (by decide +kernel)
set_option maxRecDepth 20000 in
theorem gX0_isTicked_X0_isOpen : GoodIn wsX0_isTicked (wsV RX0 63 RX0 yX0_isOpen wsX0_isOpen) := goodIn_app (goodIn_of _ (by decide +kernel)) ggX0_isTicked_X0_isOpen
set_option maxRecDepth 20000 in
theorem ggX0_isTicked_X3_at : GoodIn wsX0_isTicked wsX3_at := goodIn_r _ [12] (by decide +kernel) (by decide +kernel)
set_option maxRecDepth 20000 in
theorem gX0_isTicked_X3_at_n34 : GoodIn wsX0_isTicked (wsX3_at) := ggX0_isTicked_X3_at
theorem dX0_isTicked_0 : decode cX0_isTicked 0 = .ok (.iconst 0, 1) := by decide +kernel
theorem dX0_isTicked_1 : decode cX0_isTicked 1 = .ok (.istore_n 3, 1) := by decide +kernel
theorem dX0_isTicked_2 : decode cX0_isTicked 2 = .ok (.iconst 0, 1) := by decide +kernel
theorem dX0_isTicked_3 : decode cX0_isTicked 3 = .ok (.istore 4, 2) := by decide +kernel
theorem dX0_isTicked_5 : decode cX0_isTicked 5 = .ok (.iload 4, 2) := by decide +kernel
theorem dX0_isTicked_7 : decode cX0_isTicked 7 = .ok (.aload_n 0, 1) := by decide +kernel
theorem dX0_isTicked_8 : decode cX0_isTicked 8 = .ok (.getfield 30, 3) := by decide +kernel
theorem dX0_isTicked_11 : decode cX0_isTicked 11 = .ok (.if_icmp .ge 47, 3) := by decide +kernel
theorem dX0_isTicked_14 : decode cX0_isTicked 14 = .ok (.aload_n 0, 1) := by decide +kernel
theorem dX0_isTicked_15 : decode cX0_isTicked 15 = .ok (.iload 4, 2) := by decide +kernel
theorem dX0_isTicked_17 : decode cX0_isTicked 17 = .ok (.iconst 1, 1) := by decide +kernel
theorem dX0_isTicked_18 : decode cX0_isTicked 18 = .ok (.iload_n 1, 1) := by decide +kernel
theorem dX0_isTicked_19 : decode cX0_isTicked 19 = .ok (.invokevirtual 60, 3) := by decide +kernel
theorem dX0_isTicked_22 : decode cX0_isTicked 22 = .ok (.ifCond .eq 30, 3) := by decide +kernel
theorem dX0_isTicked_25 : decode cX0_isTicked 25 = .ok (.aload_n 0, 1) := by decide +kernel
theorem dX0_isTicked_26 : decode cX0_isTicked 26 = .ok (.iload 4, 2) := by decide +kernel
theorem dX0_isTicked_28 : decode cX0_isTicked 28 = .ok (.iload_n 2, 1) := by decide +kernel
theorem dX0_isTicked_29 : decode cX0_isTicked 29 = .ok (.invokevirtual 63, 3) := by decide +kernel
theorem dX0_isTicked_32 : decode cX0_isTicked 32 = .ok (.ifCond .eq 18, 3) := by decide +kernel
theorem dX0_isTicked_35 : decode cX0_isTicked 35 = .ok (.aload_n 0, 1) := by decide +kernel
theorem dX0_isTicked_36 : decode cX0_isTicked 36 = .ok (.getfield 24, 3) := by decide +kernel
theorem dX0_isTicked_39 : decode cX0_isTicked 39 = .ok (.iload 4, 2) := by decide +kernel
theorem dX0_isTicked_41 : decode cX0_isTicked 41 = .ok (.invokestatic 34, 3) := by decide +kernel
theorem dX0_isTicked_44 : decode cX0_isTicked 44 = .ok (.iconst 1, 1) := by decide +kernel
theorem dX0_isTicked_45 : decode cX0_isTicked 45 = .ok (.if_icmp .ne 5, 3) := by decide +kernel
theorem dX0_isTicked_48 : decode cX0_isTicked 48 = .ok (.iconst 1, 1) := by decide +kernel
theorem dX0_isTicked_49 : decode cX0_isTicked 49 = .ok (.ireturn, 1) := by decide +kernel
theorem dX0_isTicked_50 : decode cX0_isTicked 50 = .ok (.iconst 1, 1) := by decide +kernel
theorem dX0_isTicked_51 : decode cX0_isTicked 51 = .ok (.istore_n 3, 1) := by decide +kernel
theorem dX0_isTicked_52 : decode cX0_isTicked 52 = .ok (.iinc 4 1, 3) := by decide +kernel
theorem dX0_isTicked_55 : decode cX0_isTicked 55 = .ok (.goto (-50), 3) := by decide +kernel
theorem dX0_isTicked_58 : decode cX0_isTicked 58 = .ok (.iload_n 3, 1) := by decide +kernel
theorem dX0_isTicked_59 : decode cX0_isTicked 59 = .ok (.ifCond .ne 7, 3) := by decide +kernel
theorem dX0_isTicked_62 : decode cX0_isTicked 62 = .ok (.iconst 1, 1) := by decide +kernel
theorem dX0_isTicked_63 : decode cX0_isTicked 63 = .ok (.goto 4, 3) := by decide +kernel
theorem dX0_isTicked_66 : decode cX0_isTicked 66 = .ok (.iconst 0, 1) := by decide +kernel
theorem dX0_isTicked_67 : decode cX0_isTicked 67 = .ok (.ireturn, 1) := by decide +kernel
set_option maxRecDepth 20000 in
theorem ggX0_isSkipped_X0_isEmpty : GoodIn wsX0_isSkipped wsX0_isEmpty := goodIn_r _ [8, 9, 2, 10, 11, 12, 25, 26, 27, 28, 29, 30, 31] (by decide +kernel) (by decide +kernel)
set_option maxRecDepth 20000 in
theorem gX0_isSkipped_X0_isEmpty : GoodIn wsX0_isSkipped (wsV RX0 66 RX0 yX0_isEmpty wsX0_isEmpty) := goodIn_app (goodIn_of _ (by decide +kernel)) ggX0_isSkipped_X0_isEmpty
set_option maxRecDepth 20000 in
theorem ggX0_isSkipped_X3_at : GoodIn wsX0_isSkipped wsX3_at := goodIn_r _ [12] (by decide +kernel) (by decide +kernel)
set_option maxRecDepth 20000 in
theorem gX0_isSkipped_X3_at_n34 : GoodIn wsX0_isSkipped (wsX3_at) := ggX0_isSkipped_X3_at
set_option maxRecDepth 20000 in
theorem ggX0_isSkipped_X0_isFor : GoodIn wsX0_isSkipped wsX0_isFor := goodIn_r _ [16, 9, 17, 10, 11, 12, 25, 26, 27, 28, 29, 30, 31] (by decide +kernel) (by decide +kernel)
set_option maxRecDepth 20000 in
theorem gX0_isSkipped_X0_isFor : GoodIn wsX0_isSkipped (wsV RX0 60 RX0 yX0_isFor wsX0_isFor) := goodIn_app (goodIn_of _ (by decide +kernel)) ggX0_isSkipped_X0_isFor
set_option maxRecDepth 20000 in
theorem ggX0_isSkipped_X0_isOpen : GoodIn wsX0_isSkipped wsX0_isOpen := goodIn_r _ [21, 22, 10, 11, 12, 23, 24, 25, 26, 27, 28, 29, 30, 31] (by decide +kernel) (by decide +kernel)
set_option maxRecDepth 20000 in
theorem gX0_isSkipped_X0_isOpen : GoodIn wsX0_isSkipped (wsV RX0 63 RX0 yX0_isOpen wsX0_isOpen) := goodIn_app (goodIn_of _ (by decide +kernel)) ggX0_isSkipped_X0_isOpen
theorem dX0_isSkipped_0 : decode cX0_isSkipped 0 = .ok (.iconst 0, 1) := by decide +kernel
theorem dX0_isSkipped_1 : decode cX0_isSkipped 1 = .ok (.istore_n 3, 1) := by decide +kernel
theorem dX0_isSkipped_2 : decode cX0_isSkipped 2 = .ok (.iload_n 3, 1) := by decide +kernel
theorem dX0_isSkipped_3 : decode cX0_isSkipped 3 = .ok (.aload_n 0, 1) := by decide +kernel
theorem dX0_isSkipped_4 : decode cX0_isSkipped 4 = .ok (.getfield 30, 3) := by decide +kernel
theorem dX0_isSkipped_7 : decode cX0_isSkipped 7 = .ok (.if_icmp .ge 69, 3) := by decide +kernel
theorem dX0_isSkipped_10 : decode cX0_isSkipped 10 = .ok (.aload_n 0, 1) := by decide +kernel
theorem dX0_isSkipped_11 : decode cX0_isSkipped 11 = .ok (.iload_n 3, 1) := by decide +kernel
theorem dX0_isSkipped_12 : decode cX0_isSkipped 12 = .ok (.invokevirtual 66, 3) := by decide +kernel
theorem dX0_isSkipped_15 : decode cX0_isSkipped 15 = .ok (.ifCond .ne 26, 3) := by decide +kernel
theorem dX0_isSkipped_18 : decode cX0_isSkipped 18 = .ok (.aload_n 0, 1) := by decide +kernel
theorem dX0_isSkipped_19 : decode cX0_isSkipped 19 = .ok (.getfield 24, 3) := by decide +kernel
theorem dX0_isSkipped_22 : decode cX0_isSkipped 22 = .ok (.iload_n 3, 1) := by decide +kernel
theorem dX0_isSkipped_23 : decode cX0_isSkipped 23 = .ok (.invokestatic 34, 3) := by decide +kernel
theorem dX0_isSkipped_26 : decode cX0_isSkipped 26 = .ok (.aload_n 0, 1) := by decide +kernel
theorem dX0_isSkipped_27 : decode cX0_isSkipped 27 = .ok (.getfield 21, 3) := by decide +kernel
theorem dX0_isSkipped_30 : decode cX0_isSkipped 30 = .ok (.iload_n 3, 1) := by decide +kernel
theorem dX0_isSkipped_31 : decode cX0_isSkipped 31 = .ok (.invokestatic 34, 3) := by decide +kernel
theorem dX0_isSkipped_34 : decode cX0_isSkipped 34 = .ok (.if_icmp .lt 7, 3) := by decide +kernel
theorem dX0_isSkipped_37 : decode cX0_isSkipped 37 = .ok (.iconst 1, 1) := by decide +kernel
theorem dX0_isSkipped_38 : decode cX0_isSkipped 38 = .ok (.goto 4, 3) := by decide +kernel
theorem dX0_isSkipped_41 : decode cX0_isSkipped 41 = .ok (.iconst 0, 1) := by decide +kernel
theorem dX0_isSkipped_42 : decode cX0_isSkipped 42 = .ok (.istore 4, 2) := by decide +kernel
theorem dX0_isSkipped_44 : decode cX0_isSkipped 44 = .ok (.aload_n 0, 1) := by decide +kernel
theorem dX0_isSkipped_45 : decode cX0_isSkipped 45 = .ok (.iload_n 3, 1) := by decide +kernel
theorem dX0_isSkipped_46 : decode cX0_isSkipped 46 = .ok (.iconst 2, 1) := by decide +kernel
theorem dX0_isSkipped_47 : decode cX0_isSkipped 47 = .ok (.iload_n 1, 1) := by decide +kernel
theorem dX0_isSkipped_48 : decode cX0_isSkipped 48 = .ok (.invokevirtual 60, 3) := by decide +kernel
theorem dX0_isSkipped_51 : decode cX0_isSkipped 51 = .ok (.ifCond .eq 19, 3) := by decide +kernel
theorem dX0_isSkipped_54 : decode cX0_isSkipped 54 = .ok (.aload_n 0, 1) := by decide +kernel
theorem dX0_isSkipped_55 : decode cX0_isSkipped 55 = .ok (.iload_n 3, 1) := by decide +kernel
theorem dX0_isSkipped_56 : decode cX0_isSkipped 56 = .ok (.iload_n 2, 1) := by decide +kernel
theorem dX0_isSkipped_57 : decode cX0_isSkipped 57 = .ok (.invokevirtual 63, 3) := by decide +kernel
theorem dX0_isSkipped_60 : decode cX0_isSkipped 60 = .ok (.ifCond .eq 10, 3) := by decide +kernel
theorem dX0_isSkipped_63 : decode cX0_isSkipped 63 = .ok (.iload 4, 2) := by decide +kernel
theorem dX0_isSkipped_65 : decode cX0_isSkipped 65 = .ok (.ifCond .eq 5, 3) := by decide +kernel
theorem dX0_isSkipped_68 : decode cX0_isSkipped 68 = .ok (.iconst 1, 1) := by decide +kernel
theorem dX0_isSkipped_69 : decode cX0_isSkipped 69 = .ok (.ireturn, 1) := by decide +kernel
theorem dX0_isSkipped_70 : decode cX0_isSkipped 70 = .ok (.iinc 3 1, 3) := by decide +kernel
theorem dX0_isSkipped_73 : decode cX0_isSkipped 73 = .ok (.goto (-71), 3) := by decide +kernel
theorem dX0_isSkipped_76 : decode cX0_isSkipped 76 = .ok (.iconst 0, 1) := by decide +kernel
theorem dX0_isSkipped_77 : decode cX0_isSkipped 77 = .ok (.ireturn, 1) := by decide +kernel
set_option maxRecDepth 20000 in
theorem ggX0_boxesFor_X0_isFor : GoodIn wsX0_boxesFor wsX0_isFor := goodIn_r _ [6, 7, 8, 9, 10, 11, 12, 13, 14, 15, 16, 17, 18] (by decide +kernel) (by decide +kernel)
set_option maxRecDepth 20000 in
theorem gX0_boxesFor_X0_isFor : GoodIn wsX0_boxesFor (wsV RX0 60 RX0 yX0_isFor wsX0_isFor) := goodIn_app (goodIn_of _ (by decide +kernel)) ggX0_boxesFor_X0_isFor
theorem dX0_boxesFor_0 : decode cX0_boxesFor 0 = .ok (.iconst 0, 1) := by decide +kernel
theorem dX0_boxesFor_1 : decode cX0_boxesFor 1 = .ok (.istore_n 3, 1) := by decide +kernel
theorem dX0_boxesFor_2 : decode cX0_boxesFor 2 = .ok (.iconst 0, 1) := by decide +kernel
theorem dX0_boxesFor_3 : decode cX0_boxesFor 3 = .ok (.istore 4, 2) := by decide +kernel
theorem dX0_boxesFor_5 : decode cX0_boxesFor 5 = .ok (.iload 4, 2) := by decide +kernel
theorem dX0_boxesFor_7 : decode cX0_boxesFor 7 = .ok (.aload_n 0, 1) := by decide +kernel
theorem dX0_boxesFor_8 : decode cX0_boxesFor 8 = .ok (.getfield 30, 3) := by decide +kernel
theorem dX0_boxesFor_11 : decode cX0_boxesFor 11 = .ok (.if_icmp .ge 23, 3) := by decide +kernel
theorem dX0_boxesFor_14 : decode cX0_boxesFor 14 = .ok (.aload_n 0, 1) := by decide +kernel
theorem dX0_boxesFor_15 : decode cX0_boxesFor 15 = .ok (.iload 4, 2) := by decide +kernel
theorem dX0_boxesFor_17 : decode cX0_boxesFor 17 = .ok (.iload_n 1, 1) := by decide +kernel
theorem dX0_boxesFor_18 : decode cX0_boxesFor 18 = .ok (.iload_n 2, 1) := by decide +kernel
theorem dX0_boxesFor_19 : decode cX0_boxesFor 19 = .ok (.invokevirtual 60, 3) := by decide +kernel
theorem dX0_boxesFor_22 : decode cX0_boxesFor 22 = .ok (.ifCond .eq 6, 3) := by decide +kernel
theorem dX0_boxesFor_25 : decode cX0_boxesFor 25 = .ok (.iinc 3 1, 3) := by decide +kernel
theorem dX0_boxesFor_28 : decode cX0_boxesFor 28 = .ok (.iinc 4 1, 3) := by decide +kernel
theorem dX0_boxesFor_31 : decode cX0_boxesFor 31 = .ok (.goto (-26), 3) := by decide +kernel
theorem dX0_boxesFor_34 : decode cX0_boxesFor 34 = .ok (.iload_n 3, 1) := by decide +kernel
theorem dX0_boxesFor_35 : decode cX0_boxesFor 35 = .ok (.ireturn, 1) := by decide +kernel
set_option maxRecDepth 20000 in
theorem ggX0_isOpen_X3_at : GoodIn wsX0_isOpen wsX3_at := goodIn_r _ [4] (by decide +kernel) (by decide +kernel)
set_option maxRecDepth 20000 in
theorem gX0_isOpen_X3_at_n34 : GoodIn wsX0_isOpen (wsX3_at) := ggX0_isOpen_X3_at
set_option maxRecDepth 20000 in
theorem ggX0_isOpen_X3_isInMask : GoodIn wsX0_isOpen wsX3_isInMask := goodIn_r _ [6] (by decide +kernel) (by decide +kernel)
set_option maxRecDepth 20000 in
theorem gX0_isOpen_X3_isInMask_n70 : GoodIn wsX0_isOpen (wsX3_isInMask) := ggX0_isOpen_X3_isInMask
theorem dX0_isOpen_0 : decode cX0_isOpen 0 = .ok (.aload_n 0, 1) := by decide +kernel
theorem dX0_isOpen_1 : decode cX0_isOpen 1 = .ok (.getfield 15, 3) := by decide +kernel
theorem dX0_isOpen_4 : decode cX0_isOpen 4 = .ok (.iload_n 1, 1) := by decide +kernel
theorem dX0_isOpen_5 : decode cX0_isOpen 5 = .ok (.invokestatic 34, 3) := by decide +kernel
theorem dX0_isOpen_8 : decode cX0_isOpen 8 = .ok (.iload_n 2, 1) := by decide +kernel
theorem dX0_isOpen_9 : decode cX0_isOpen 9 = .ok (.invokestatic 70, 3) := by decide +kernel
theorem dX0_isOpen_12 : decode cX0_isOpen 12 = .ok (.ireturn, 1) := by decide +kernel
set_option maxRecDepth 20000 in
theorem ggX0_wants_X0_isOpen : GoodIn wsX0_wants wsX0_isOpen := goodIn_r _ [5, 6, 7, 8, 9, 10, 11, 18, 19, 20, 21, 22, 23, 24] (by decide +kernel) (by decide +kernel)
set_option maxRecDepth 20000 in
theorem gX0_wants_X0_isOpen : GoodIn wsX0_wants (wsV RX0 63 RX0 yX0_isOpen wsX0_isOpen) := goodIn_app (goodIn_of _ (by decide +kernel)) ggX0_wants_X0_isOpen
set_option maxRecDepth 20000 in
theorem ggX0_wants_X0_isEmpty : GoodIn wsX0_wants wsX0_isEmpty := goodIn_r _ [15, 16, 17, 7, 8, 9, 18, 19, 20, 21, 22, 23, 24] (by decide +kernel) (by decide +kernel)
set_option maxRecDepth 20000 in
theorem gX0_wants_X0_isEmpty : GoodIn wsX0_wants (wsV RX0 66 RX0 yX0_isEmpty wsX0_isEmpty) := goodIn_app (goodIn_of _ (by decide +kernel)) ggX0_wants_X0_isEmpty
theorem dX0_wants_0 : decode cX0_wants 0 = .ok (.aload_n 0, 1) := by decide +kernel
theorem dX0_wants_1 : decode cX0_wants 1 = .ok (.iload_n 1, 1) := by decide +kernel
theorem dX0_wants_2 : decode cX0_wants 2 = .ok (.iload_n 2, 1) := by decide +kernel
theorem dX0_wants_3 : decode cX0_wants 3 = .ok (.invokevirtual 63, 3) := by decide +kernel
theorem dX0_wants_6 : decode cX0_wants 6 = .ok (.ifCond .eq 15, 3) := by decide +kernel
theorem dX0_wants_9 : decode cX0_wants 9 = .ok (.aload_n 0, 1) := by decide +kernel
theorem dX0_wants_10 : decode cX0_wants 10 = .ok (.iload_n 1, 1) := by decide +kernel
theorem dX0_wants_11 : decode cX0_wants 11 = .ok (.invokevirtual 66, 3) := by decide +kernel
theorem dX0_wants_14 : decode cX0_wants 14 = .ok (.ifCond .eq 7, 3) := by decide +kernel
theorem dX0_wants_17 : decode cX0_wants 17 = .ok (.iconst 1, 1) := by decide +kernel
theorem dX0_wants_18 : decode cX0_wants 18 = .ok (.goto 4, 3) := by decide +kernel
theorem dX0_wants_21 : decode cX0_wants 21 = .ok (.iconst 0, 1) := by decide +kernel
theorem dX0_wants_22 : decode cX0_wants 22 = .ok (.ireturn, 1) := by decide +kernel
set_option maxRecDepth 20000 in
theorem ggX0_boxesIn_X3_at : GoodIn wsX0_boxesIn wsX3_at := goodIn_r _ [5] (by decide +kernel) (by decide +kernel)
set_option maxRecDepth 20000 in
theorem gX0_boxesIn_X3_at_n34 : GoodIn wsX0_boxesIn (wsX3_at) := ggX0_boxesIn_X3_at
theorem dX0_boxesIn_0 : decode cX0_boxesIn 0 = .ok (.iconst 0, 1) := by decide +kernel
theorem dX0_boxesIn_1 : decode cX0_boxesIn 1 = .ok (.istore_n 2, 1) := by decide +kernel
theorem dX0_boxesIn_2 : decode cX0_boxesIn 2 = .ok (.iconst 0, 1) := by decide +kernel
theorem dX0_boxesIn_3 : decode cX0_boxesIn 3 = .ok (.istore_n 3, 1) := by decide +kernel
theorem dX0_boxesIn_4 : decode cX0_boxesIn 4 = .ok (.iload_n 3, 1) := by decide +kernel
theorem dX0_boxesIn_5 : decode cX0_boxesIn 5 = .ok (.aload_n 0, 1) := by decide +kernel
theorem dX0_boxesIn_6 : decode cX0_boxesIn 6 = .ok (.getfield 30, 3) := by decide +kernel
theorem dX0_boxesIn_9 : decode cX0_boxesIn 9 = .ok (.if_icmp .ge 24, 3) := by decide +kernel
theorem dX0_boxesIn_12 : decode cX0_boxesIn 12 = .ok (.aload_n 0, 1) := by decide +kernel
theorem dX0_boxesIn_13 : decode cX0_boxesIn 13 = .ok (.getfield 15, 3) := by decide +kernel
theorem dX0_boxesIn_16 : decode cX0_boxesIn 16 = .ok (.iload_n 3, 1) := by decide +kernel
theorem dX0_boxesIn_17 : decode cX0_boxesIn 17 = .ok (.invokestatic 34, 3) := by decide +kernel
theorem dX0_boxesIn_20 : decode cX0_boxesIn 20 = .ok (.iload_n 1, 1) := by decide +kernel
theorem dX0_boxesIn_21 : decode cX0_boxesIn 21 = .ok (.if_icmp .ne 6, 3) := by decide +kernel
theorem dX0_boxesIn_24 : decode cX0_boxesIn 24 = .ok (.iinc 2 1, 3) := by decide +kernel
theorem dX0_boxesIn_27 : decode cX0_boxesIn 27 = .ok (.iinc 3 1, 3) := by decide +kernel
theorem dX0_boxesIn_30 : decode cX0_boxesIn 30 = .ok (.goto (-26), 3) := by decide +kernel
theorem dX0_boxesIn_33 : decode cX0_boxesIn 33 = .ok (.iload_n 2, 1) := by decide +kernel
theorem dX0_boxesIn_34 : decode cX0_boxesIn 34 = .ok (.ireturn, 1) := by decide +kernel
set_option maxRecDepth 20000 in
theorem ggX0_wantingIn_X3_at : GoodIn wsX0_wantingIn wsX3_at := goodIn_r _ [5] (by decide +kernel) (by decide +kernel)
set_option maxRecDepth 20000 in
theorem gX0_wantingIn_X3_at_n34 : GoodIn wsX0_wantingIn (wsX3_at) := ggX0_wantingIn_X3_at
set_option maxRecDepth 20000 in
theorem ggX0_wantingIn_X0_wants : GoodIn wsX0_wantingIn wsX0_wants := goodIn_r _ [10, 11, 12, 13, 9, 14, 2, 3, 4, 5, 15, 16, 17, 18, 19, 20, 21, 22, 23, 24, 25, 26, 27, 28, 29] (by decide +kernel) (by decide +kernel)
set_option maxRecDepth 20000 in
theorem gX0_wantingIn_X0_wants : GoodIn wsX0_wantingIn (wsV RX0 73 RX0 yX0_wants wsX0_wants) := goodIn_app (goodIn_of _ (by decide +kernel)) ggX0_wantingIn_X0_wants
theorem dX0_wantingIn_0 : decode cX0_wantingIn 0 = .ok (.iconst 0, 1) := by decide +kernel
theorem dX0_wantingIn_1 : decode cX0_wantingIn 1 = .ok (.istore_n 3, 1) := by decide +kernel
theorem dX0_wantingIn_2 : decode cX0_wantingIn 2 = .ok (.iconst 0, 1) := by decide +kernel
theorem dX0_wantingIn_3 : decode cX0_wantingIn 3 = .ok (.istore 4, 2) := by decide +kernel
theorem dX0_wantingIn_5 : decode cX0_wantingIn 5 = .ok (.iload 4, 2) := by decide +kernel
theorem dX0_wantingIn_7 : decode cX0_wantingIn 7 = .ok (.aload_n 0, 1) := by decide +kernel
theorem dX0_wantingIn_8 : decode cX0_wantingIn 8 = .ok (.getfield 30, 3) := by decide +kernel
theorem dX0_wantingIn_11 : decode cX0_wantingIn 11 = .ok (.if_icmp .ge 35, 3) := by decide +kernel
theorem dX0_wantingIn_14 : decode cX0_wantingIn 14 = .ok (.aload_n 0, 1) := by decide +kernel
theorem dX0_wantingIn_15 : decode cX0_wantingIn 15 = .ok (.getfield 15, 3) := by decide +kernel
theorem dX0_wantingIn_18 : decode cX0_wantingIn 18 = .ok (.iload 4, 2) := by decide +kernel
theorem dX0_wantingIn_20 : decode cX0_wantingIn 20 = .ok (.invokestatic 34, 3) := by decide +kernel
theorem dX0_wantingIn_23 : decode cX0_wantingIn 23 = .ok (.iload_n 1, 1) := by decide +kernel
theorem dX0_wantingIn_24 : decode cX0_wantingIn 24 = .ok (.if_icmp .ne 16, 3) := by decide +kernel
theorem dX0_wantingIn_27 : decode cX0_wantingIn 27 = .ok (.aload_n 0, 1) := by decide +kernel
theorem dX0_wantingIn_28 : decode cX0_wantingIn 28 = .ok (.iload 4, 2) := by decide +kernel
theorem dX0_wantingIn_30 : decode cX0_wantingIn 30 = .ok (.iload_n 2, 1) := by decide +kernel
theorem dX0_wantingIn_31 : decode cX0_wantingIn 31 = .ok (.invokevirtual 73, 3) := by decide +kernel
theorem dX0_wantingIn_34 : decode cX0_wantingIn 34 = .ok (.ifCond .eq 6, 3) := by decide +kernel
theorem dX0_wantingIn_37 : decode cX0_wantingIn 37 = .ok (.iinc 3 1, 3) := by decide +kernel
theorem dX0_wantingIn_40 : decode cX0_wantingIn 40 = .ok (.iinc 4 1, 3) := by decide +kernel
theorem dX0_wantingIn_43 : decode cX0_wantingIn 43 = .ok (.goto (-38), 3) := by decide +kernel
theorem dX0_wantingIn_46 : decode cX0_wantingIn 46 = .ok (.iload_n 3, 1) := by decide +kernel
theorem dX0_wantingIn_47 : decode cX0_wantingIn 47 = .ok (.ireturn, 1) := by decide +kernel
set_option maxRecDepth 20000 in
theorem ggX0_wanting_X0_wants : GoodIn wsX0_wanting wsX0_wants := goodIn_r _ [6, 7, 8, 9, 5, 10, 11, 12, 13, 14, 15, 16, 17, 18, 19, 20, 21, 22, 23, 24, 25, 26, 27, 28, 29] (by decide +kernel) (by decide +kernel)
set_option maxRecDepth 20000 in
theorem gX0_wanting_X0_wants : GoodIn wsX0_wanting (wsV RX0 73 RX0 yX0_wants wsX0_wants) := goodIn_app (goodIn_of _ (by decide +kernel)) ggX0_wanting_X0_wants
theorem dX0_wanting_0 : decode cX0_wanting 0 = .ok (.iconst 0, 1) := by decide +kernel
theorem dX0_wanting_1 : decode cX0_wanting 1 = .ok (.istore_n 2, 1) := by decide +kernel
theorem dX0_wanting_2 : decode cX0_wanting 2 = .ok (.iconst 0, 1) := by decide +kernel
theorem dX0_wanting_3 : decode cX0_wanting 3 = .ok (.istore_n 3, 1) := by decide +kernel
theorem dX0_wanting_4 : decode cX0_wanting 4 = .ok (.iload_n 3, 1) := by decide +kernel
theorem dX0_wanting_5 : decode cX0_wanting 5 = .ok (.aload_n 0, 1) := by decide +kernel
theorem dX0_wanting_6 : decode cX0_wanting 6 = .ok (.getfield 30, 3) := by decide +kernel
theorem dX0_wanting_9 : decode cX0_wanting 9 = .ok (.if_icmp .ge 21, 3) := by decide +kernel
theorem dX0_wanting_12 : decode cX0_wanting 12 = .ok (.aload_n 0, 1) := by decide +kernel
theorem dX0_wanting_13 : decode cX0_wanting 13 = .ok (.iload_n 3, 1) := by decide +kernel
theorem dX0_wanting_14 : decode cX0_wanting 14 = .ok (.iload_n 1, 1) := by decide +kernel
theorem dX0_wanting_15 : decode cX0_wanting 15 = .ok (.invokevirtual 73, 3) := by decide +kernel
theorem dX0_wanting_18 : decode cX0_wanting 18 = .ok (.ifCond .eq 6, 3) := by decide +kernel
theorem dX0_wanting_21 : decode cX0_wanting 21 = .ok (.iinc 2 1, 3) := by decide +kernel
theorem dX0_wanting_24 : decode cX0_wanting 24 = .ok (.iinc 3 1, 3) := by decide +kernel
theorem dX0_wanting_27 : decode cX0_wanting 27 = .ok (.goto (-23), 3) := by decide +kernel
theorem dX0_wanting_30 : decode cX0_wanting 30 = .ok (.iload_n 2, 1) := by decide +kernel
theorem dX0_wanting_31 : decode cX0_wanting 31 = .ok (.ireturn, 1) := by decide +kernel
set_option maxRecDepth 20000 in
theorem ggX0_firstWanting_X0_wants : GoodIn wsX0_firstWanting wsX0_wants := goodIn_r _ [6, 7, 8, 9, 5, 10, 11, 12, 13, 14, 15, 16, 17, 18, 19, 20, 21, 22, 23, 24, 25, 26, 27, 28, 29] (by decide +kernel) (by decide +kernel)
set_option maxRecDepth 20000 in
theorem gX0_firstWanting_X0_wants : GoodIn wsX0_firstWanting (wsV RX0 73 RX0 yX0_wants wsX0_wants) := goodIn_app (goodIn_of _ (by decide +kernel)) ggX0_firstWanting_X0_wants
theorem dX0_firstWanting_0 : decode cX0_firstWanting 0 = .ok (.iconst 0, 1) := by decide +kernel
theorem dX0_firstWanting_1 : decode cX0_firstWanting 1 = .ok (.istore_n 2, 1) := by decide +kernel
theorem dX0_firstWanting_2 : decode cX0_firstWanting 2 = .ok (.iload_n 2, 1) := by decide +kernel
theorem dX0_firstWanting_3 : decode cX0_firstWanting 3 = .ok (.aload_n 0, 1) := by decide +kernel
theorem dX0_firstWanting_4 : decode cX0_firstWanting 4 = .ok (.getfield 30, 3) := by decide +kernel
theorem dX0_firstWanting_7 : decode cX0_firstWanting 7 = .ok (.if_icmp .ge 20, 3) := by decide +kernel
theorem dX0_firstWanting_10 : decode cX0_firstWanting 10 = .ok (.aload_n 0, 1) := by decide +kernel
theorem dX0_firstWanting_11 : decode cX0_firstWanting 11 = .ok (.iload_n 2, 1) := by decide +kernel
theorem dX0_firstWanting_12 : decode cX0_firstWanting 12 = .ok (.iload_n 1, 1) := by decide +kernel
theorem dX0_firstWanting_13 : decode cX0_firstWanting 13 = .ok (.invokevirtual 73, 3) := by decide +kernel
theorem dX0_firstWanting_16 : decode cX0_firstWanting 16 = .ok (.ifCond .eq 5, 3) := by decide +kernel
theorem dX0_firstWanting_19 : decode cX0_firstWanting 19 = .ok (.iload_n 2, 1) := by decide +kernel
theorem dX0_firstWanting_20 : decode cX0_firstWanting 20 = .ok (.ireturn, 1) := by decide +kernel
theorem dX0_firstWanting_21 : decode cX0_firstWanting 21 = .ok (.iinc 2 1, 3) := by decide +kernel
theorem dX0_firstWanting_24 : decode cX0_firstWanting 24 = .ok (.goto (-22), 3) := by decide +kernel
theorem dX0_firstWanting_27 : decode cX0_firstWanting 27 = .ok (.iconst (-1), 1) := by decide +kernel
theorem dX0_firstWanting_28 : decode cX0_firstWanting 28 = .ok (.ireturn, 1) := by decide +kernel
set_option maxRecDepth 20000 in
theorem ggX0_openBoxes_X0_isOpen : GoodIn wsX0_openBoxes wsX0_isOpen := goodIn_r _ [6, 7, 8, 9, 10, 11, 12, 13, 14, 15, 16, 17, 18, 19] (by decide +kernel) (by decide +kernel)
set_option maxRecDepth 20000 in
theorem gX0_openBoxes_X0_isOpen : GoodIn wsX0_openBoxes (wsV RX0 63 RX0 yX0_isOpen wsX0_isOpen) := goodIn_app (goodIn_of _ (by decide +kernel)) ggX0_openBoxes_X0_isOpen
theorem dX0_openBoxes_0 : decode cX0_openBoxes 0 = .ok (.iconst 0, 1) := by decide +kernel
theorem dX0_openBoxes_1 : decode cX0_openBoxes 1 = .ok (.istore_n 2, 1) := by decide +kernel
theorem dX0_openBoxes_2 : decode cX0_openBoxes 2 = .ok (.iconst 0, 1) := by decide +kernel
theorem dX0_openBoxes_3 : decode cX0_openBoxes 3 = .ok (.istore_n 3, 1) := by decide +kernel
theorem dX0_openBoxes_4 : decode cX0_openBoxes 4 = .ok (.iload_n 3, 1) := by decide +kernel
theorem dX0_openBoxes_5 : decode cX0_openBoxes 5 = .ok (.aload_n 0, 1) := by decide +kernel
theorem dX0_openBoxes_6 : decode cX0_openBoxes 6 = .ok (.getfield 30, 3) := by decide +kernel
theorem dX0_openBoxes_9 : decode cX0_openBoxes 9 = .ok (.if_icmp .ge 21, 3) := by decide +kernel
theorem dX0_openBoxes_12 : decode cX0_openBoxes 12 = .ok (.aload_n 0, 1) := by decide +kernel
theorem dX0_openBoxes_13 : decode cX0_openBoxes 13 = .ok (.iload_n 3, 1) := by decide +kernel
theorem dX0_openBoxes_14 : decode cX0_openBoxes 14 = .ok (.iload_n 1, 1) := by decide +kernel
theorem dX0_openBoxes_15 : decode cX0_openBoxes 15 = .ok (.invokevirtual 63, 3) := by decide +kernel
theorem dX0_openBoxes_18 : decode cX0_openBoxes 18 = .ok (.ifCond .eq 6, 3) := by decide +kernel
theorem dX0_openBoxes_21 : decode cX0_openBoxes 21 = .ok (.iinc 2 1, 3) := by decide +kernel
theorem dX0_openBoxes_24 : decode cX0_openBoxes 24 = .ok (.iinc 3 1, 3) := by decide +kernel
theorem dX0_openBoxes_27 : decode cX0_openBoxes 27 = .ok (.goto (-23), 3) := by decide +kernel
theorem dX0_openBoxes_30 : decode cX0_openBoxes 30 = .ok (.iload_n 2, 1) := by decide +kernel
theorem dX0_openBoxes_31 : decode cX0_openBoxes 31 = .ok (.ireturn, 1) := by decide +kernel
set_option maxRecDepth 20000 in
theorem ggX0_openToAnswer_X0_isOpen : GoodIn wsX0_openToAnswer wsX0_isOpen := goodIn_r _ [7, 8, 9, 10, 11, 12, 13, 14, 15, 16, 17, 18, 19, 20] (by decide +kernel) (by decide +kernel)
set_option maxRecDepth 20000 in
theorem gX0_openToAnswer_X0_isOpen : GoodIn wsX0_openToAnswer (wsV RX0 63 RX0 yX0_isOpen wsX0_isOpen) := goodIn_app (goodIn_of _ (by decide +kernel)) ggX0_openToAnswer_X0_isOpen
set_option maxRecDepth 20000 in
theorem ggX0_openToAnswer_X3_at : GoodIn wsX0_openToAnswer wsX3_at := goodIn_r _ [11] (by decide +kernel) (by decide +kernel)
set_option maxRecDepth 20000 in
theorem gX0_openToAnswer_X3_at_n34 : GoodIn wsX0_openToAnswer (wsX3_at) := ggX0_openToAnswer_X3_at
theorem dX0_openToAnswer_0 : decode cX0_openToAnswer 0 = .ok (.iconst 0, 1) := by decide +kernel
theorem dX0_openToAnswer_1 : decode cX0_openToAnswer 1 = .ok (.istore_n 2, 1) := by decide +kernel
theorem dX0_openToAnswer_2 : decode cX0_openToAnswer 2 = .ok (.iconst 0, 1) := by decide +kernel
theorem dX0_openToAnswer_3 : decode cX0_openToAnswer 3 = .ok (.istore_n 3, 1) := by decide +kernel
theorem dX0_openToAnswer_4 : decode cX0_openToAnswer 4 = .ok (.iload_n 3, 1) := by decide +kernel
theorem dX0_openToAnswer_5 : decode cX0_openToAnswer 5 = .ok (.aload_n 0, 1) := by decide +kernel
theorem dX0_openToAnswer_6 : decode cX0_openToAnswer 6 = .ok (.getfield 30, 3) := by decide +kernel
theorem dX0_openToAnswer_9 : decode cX0_openToAnswer 9 = .ok (.if_icmp .ge 33, 3) := by decide +kernel
theorem dX0_openToAnswer_12 : decode cX0_openToAnswer 12 = .ok (.aload_n 0, 1) := by decide +kernel
theorem dX0_openToAnswer_13 : decode cX0_openToAnswer 13 = .ok (.iload_n 3, 1) := by decide +kernel
theorem dX0_openToAnswer_14 : decode cX0_openToAnswer 14 = .ok (.iload_n 1, 1) := by decide +kernel
theorem dX0_openToAnswer_15 : decode cX0_openToAnswer 15 = .ok (.invokevirtual 63, 3) := by decide +kernel
theorem dX0_openToAnswer_18 : decode cX0_openToAnswer 18 = .ok (.ifCond .eq 18, 3) := by decide +kernel
theorem dX0_openToAnswer_21 : decode cX0_openToAnswer 21 = .ok (.aload_n 0, 1) := by decide +kernel
theorem dX0_openToAnswer_22 : decode cX0_openToAnswer 22 = .ok (.getfield 9, 3) := by decide +kernel
theorem dX0_openToAnswer_25 : decode cX0_openToAnswer 25 = .ok (.iload_n 3, 1) := by decide +kernel
theorem dX0_openToAnswer_26 : decode cX0_openToAnswer 26 = .ok (.invokestatic 34, 3) := by decide +kernel
theorem dX0_openToAnswer_29 : decode cX0_openToAnswer 29 = .ok (.iconst 3, 1) := by decide +kernel
theorem dX0_openToAnswer_30 : decode cX0_openToAnswer 30 = .ok (.if_icmp .eq 6, 3) := by decide +kernel
theorem dX0_openToAnswer_33 : decode cX0_openToAnswer 33 = .ok (.iinc 2 1, 3) := by decide +kernel
theorem dX0_openToAnswer_36 : decode cX0_openToAnswer 36 = .ok (.iinc 3 1, 3) := by decide +kernel
theorem dX0_openToAnswer_39 : decode cX0_openToAnswer 39 = .ok (.goto (-35), 3) := by decide +kernel
theorem dX0_openToAnswer_42 : decode cX0_openToAnswer 42 = .ok (.iload_n 2, 1) := by decide +kernel
theorem dX0_openToAnswer_43 : decode cX0_openToAnswer 43 = .ok (.ireturn, 1) := by decide +kernel
set_option maxRecDepth 20000 in
theorem ggX0_canComeTo_X3_isInMask : GoodIn wsX0_canComeTo wsX3_isInMask := goodIn_r _ [3] (by decide +kernel) (by decide +kernel)
set_option maxRecDepth 20000 in
theorem gX0_canComeTo_X3_isInMask_n70 : GoodIn wsX0_canComeTo (wsX3_isInMask) := ggX0_canComeTo_X3_isInMask
set_option maxRecDepth 20000 in
theorem ggX0_canComeTo_X0_canOpen : GoodIn wsX0_canComeTo wsX0_canOpen := goodIn_r _ [8, 9, 10, 11, 7, 12, 13, 14, 15, 16, 17, 18, 19, 20, 21, 2, 22, 23, 24, 25, 26, 27, 1, 3, 28, 29, 30, 31, 32, 33, 34, 35, 36, 37, 38, 39, 40, 45, 46, 47, 48, 49, 50, 51] (by decide +kernel) (by decide +kernel)
set_option maxRecDepth 20000 in
theorem gX0_canComeTo_X0_canOpen : GoodIn wsX0_canComeTo (wsV RX0 76 RX0 yX0_canOpen wsX0_canOpen) := goodIn_app (goodIn_of _ (by decide +kernel)) ggX0_canComeTo_X0_canOpen
set_option maxRecDepth 20000 in
theorem ggX0_canComeTo_X0_canClose : GoodIn wsX0_canComeTo wsX0_canClose := goodIn_r _ [44, 9, 10, 11, 7, 12, 13, 14, 15, 16, 17, 18, 19, 20, 21, 2, 22, 23, 24, 25, 26, 27, 1, 3, 37, 38, 39, 40, 32, 33, 34, 35, 36, 28, 29, 30, 31, 45, 46, 47, 48, 49, 50, 51] (by decide +kernel) (by decide +kernel)
set_option maxRecDepth 20000 in
theorem gX0_canComeTo_X0_canClose : GoodIn wsX0_canComeTo (wsV RX0 79 RX0 yX0_canClose wsX0_canClose) := goodIn_app (goodIn_of _ (by decide +kernel)) ggX0_canComeTo_X0_canClose
theorem dX0_canComeTo_0 : decode cX0_canComeTo 0 = .ok (.iconst 1, 1) := by decide +kernel
theorem dX0_canComeTo_1 : decode cX0_canComeTo 1 = .ok (.istore_n 2, 1) := by decide +kernel
theorem dX0_canComeTo_2 : decode cX0_canComeTo 2 = .ok (.iload_n 2, 1) := by decide +kernel
theorem dX0_canComeTo_3 : decode cX0_canComeTo 3 = .ok (.iconst 5, 1) := by decide +kernel
theorem dX0_canComeTo_4 : decode cX0_canComeTo 4 = .ok (.if_icmp .ge 39, 3) := by decide +kernel
theorem dX0_canComeTo_7 : decode cX0_canComeTo 7 = .ok (.iload_n 2, 1) := by decide +kernel
theorem dX0_canComeTo_8 : decode cX0_canComeTo 8 = .ok (.iload_n 1, 1) := by decide +kernel
theorem dX0_canComeTo_9 : decode cX0_canComeTo 9 = .ok (.invokestatic 70, 3) := by decide +kernel
theorem dX0_canComeTo_12 : decode cX0_canComeTo 12 = .ok (.ifCond .eq 12, 3) := by decide +kernel
theorem dX0_canComeTo_15 : decode cX0_canComeTo 15 = .ok (.aload_n 0, 1) := by decide +kernel
theorem dX0_canComeTo_16 : decode cX0_canComeTo 16 = .ok (.iload_n 2, 1) := by decide +kernel
theorem dX0_canComeTo_17 : decode cX0_canComeTo 17 = .ok (.iload_n 1, 1) := by decide +kernel
theorem dX0_canComeTo_18 : decode cX0_canComeTo 18 = .ok (.invokevirtual 76, 3) := by decide +kernel
theorem dX0_canComeTo_21 : decode cX0_canComeTo 21 = .ok (.goto 9, 3) := by decide +kernel
theorem dX0_canComeTo_24 : decode cX0_canComeTo 24 = .ok (.aload_n 0, 1) := by decide +kernel
theorem dX0_canComeTo_25 : decode cX0_canComeTo 25 = .ok (.iload_n 2, 1) := by decide +kernel
theorem dX0_canComeTo_26 : decode cX0_canComeTo 26 = .ok (.iload_n 1, 1) := by decide +kernel
theorem dX0_canComeTo_27 : decode cX0_canComeTo 27 = .ok (.invokevirtual 79, 3) := by decide +kernel
theorem dX0_canComeTo_30 : decode cX0_canComeTo 30 = .ok (.istore_n 3, 1) := by decide +kernel
theorem dX0_canComeTo_31 : decode cX0_canComeTo 31 = .ok (.iload_n 3, 1) := by decide +kernel
theorem dX0_canComeTo_32 : decode cX0_canComeTo 32 = .ok (.ifCond .ne 5, 3) := by decide +kernel
theorem dX0_canComeTo_35 : decode cX0_canComeTo 35 = .ok (.iconst 0, 1) := by decide +kernel
theorem dX0_canComeTo_36 : decode cX0_canComeTo 36 = .ok (.ireturn, 1) := by decide +kernel
theorem dX0_canComeTo_37 : decode cX0_canComeTo 37 = .ok (.iinc 2 1, 3) := by decide +kernel
theorem dX0_canComeTo_40 : decode cX0_canComeTo 40 = .ok (.goto (-38), 3) := by decide +kernel
theorem dX0_canComeTo_43 : decode cX0_canComeTo 43 = .ok (.iconst 1, 1) := by decide +kernel
theorem dX0_canComeTo_44 : decode cX0_canComeTo 44 = .ok (.ireturn, 1) := by decide +kernel
set_option maxRecDepth 20000 in
theorem ggX0_canOpen_X0_isTicked : GoodIn wsX0_canOpen wsX0_isTicked := goodIn_r _ [5, 6, 7, 8, 9, 10, 4, 11, 12, 13, 14, 15, 16, 17, 18, 19, 20, 21, 22, 23, 37, 38, 39, 40, 41, 42, 43] (by decide +kernel) (by decide +kernel)
set_option maxRecDepth 20000 in
theorem gX0_canOpen_X0_isTicked : GoodIn wsX0_canOpen (wsV RX0 53 RX0 yX0_isTicked wsX0_isTicked) := goodIn_app (goodIn_of _ (by decide +kernel)) ggX0_canOpen_X0_isTicked
set_option maxRecDepth 20000 in
theorem ggX0_canOpen_X0_hasWanting : GoodIn wsX0_canOpen wsX0_hasWanting := goodIn_r _ [27, 6, 28, 17, 18, 19, 4, 20, 21, 14, 15, 16, 22, 23, 29, 30, 31, 32, 12, 7, 8, 9, 10, 11, 13, 37, 38, 39, 40, 41, 42, 43] (by decide +kernel) (by decide +kernel)
set_option maxRecDepth 20000 in
theorem gX0_canOpen_X0_hasWanting : GoodIn wsX0_canOpen (wsV RX0 82 RX0 yX0_hasWanting wsX0_hasWanting) := goodIn_app (goodIn_of _ (by decide +kernel)) ggX0_canOpen_X0_hasWanting
set_option maxRecDepth 20000 in
theorem ggX0_canOpen_X0_isSkipped : GoodIn wsX0_canOpen wsX0_isSkipped := goodIn_r _ [36, 6, 7, 28, 29, 30, 31, 4, 32, 12, 14, 15, 16, 8, 9, 10, 11, 13, 17, 18, 19, 20, 21, 22, 23, 37, 38, 39, 40, 41, 42, 43] (by decide +kernel) (by decide +kernel)
set_option maxRecDepth 20000 in
theorem gX0_canOpen_X0_isSkipped : GoodIn wsX0_canOpen (wsV RX0 57 RX0 yX0_isSkipped wsX0_isSkipped) := goodIn_app (goodIn_of _ (by decide +kernel)) ggX0_canOpen_X0_isSkipped
theorem dX0_canOpen_0 : decode cX0_canOpen 0 = .ok (.aload_n 0, 1) := by decide +kernel
theorem dX0_canOpen_1 : decode cX0_canOpen 1 = .ok (.iload_n 1, 1) := by decide +kernel
theorem dX0_canOpen_2 : decode cX0_canOpen 2 = .ok (.iload_n 2, 1) := by decide +kernel
theorem dX0_canOpen_3 : decode cX0_canOpen 3 = .ok (.invokevirtual 53, 3) := by decide +kernel
theorem dX0_canOpen_6 : decode cX0_canOpen 6 = .ok (.ifCond .ne 14, 3) := by decide +kernel
theorem dX0_canOpen_9 : decode cX0_canOpen 9 = .ok (.aload_n 0, 1) := by decide +kernel
theorem dX0_canOpen_10 : decode cX0_canOpen 10 = .ok (.iconst 1, 1) := by decide +kernel
theorem dX0_canOpen_11 : decode cX0_canOpen 11 = .ok (.iload_n 1, 1) := by decide +kernel
theorem dX0_canOpen_12 : decode cX0_canOpen 12 = .ok (.iconst (-1), 1) := by decide +kernel
theorem dX0_canOpen_13 : decode cX0_canOpen 13 = .ok (.iload_n 2, 1) := by decide +kernel
theorem dX0_canOpen_14 : decode cX0_canOpen 14 = .ok (.invokevirtual 82, 3) := by decide +kernel
theorem dX0_canOpen_17 : decode cX0_canOpen 17 = .ok (.ifCond .eq 7, 3) := by decide +kernel
theorem dX0_canOpen_20 : decode cX0_canOpen 20 = .ok (.iconst 1, 1) := by decide +kernel
theorem dX0_canOpen_21 : decode cX0_canOpen 21 = .ok (.goto 4, 3) := by decide +kernel
theorem dX0_canOpen_24 : decode cX0_canOpen 24 = .ok (.iconst 0, 1) := by decide +kernel
theorem dX0_canOpen_25 : decode cX0_canOpen 25 = .ok (.istore_n 3, 1) := by decide +kernel
theorem dX0_canOpen_26 : decode cX0_canOpen 26 = .ok (.iload_n 3, 1) := by decide +kernel
theorem dX0_canOpen_27 : decode cX0_canOpen 27 = .ok (.ifCond .eq 27, 3) := by decide +kernel
theorem dX0_canOpen_30 : decode cX0_canOpen 30 = .ok (.aload_n 0, 1) := by decide +kernel
theorem dX0_canOpen_31 : decode cX0_canOpen 31 = .ok (.iload_n 1, 1) := by decide +kernel
theorem dX0_canOpen_32 : decode cX0_canOpen 32 = .ok (.iload_n 2, 1) := by decide +kernel
theorem dX0_canOpen_33 : decode cX0_canOpen 33 = .ok (.invokevirtual 57, 3) := by decide +kernel
theorem dX0_canOpen_36 : decode cX0_canOpen 36 = .ok (.ifCond .ne 18, 3) := by decide +kernel
theorem dX0_canOpen_39 : decode cX0_canOpen 39 = .ok (.aload_n 0, 1) := by decide +kernel
theorem dX0_canOpen_40 : decode cX0_canOpen 40 = .ok (.iconst 2, 1) := by decide +kernel
theorem dX0_canOpen_41 : decode cX0_canOpen 41 = .ok (.iload_n 1, 1) := by decide +kernel
theorem dX0_canOpen_42 : decode cX0_canOpen 42 = .ok (.iconst 0, 1) := by decide +kernel
theorem dX0_canOpen_43 : decode cX0_canOpen 43 = .ok (.iload_n 2, 1) := by decide +kernel
theorem dX0_canOpen_44 : decode cX0_canOpen 44 = .ok (.invokevirtual 82, 3) := by decide +kernel
theorem dX0_canOpen_47 : decode cX0_canOpen 47 = .ok (.ifCond .ne 7, 3) := by decide +kernel
theorem dX0_canOpen_50 : decode cX0_canOpen 50 = .ok (.iconst 1, 1) := by decide +kernel
theorem dX0_canOpen_51 : decode cX0_canOpen 51 = .ok (.goto 4, 3) := by decide +kernel
theorem dX0_canOpen_54 : decode cX0_canOpen 54 = .ok (.iconst 0, 1) := by decide +kernel
theorem dX0_canOpen_55 : decode cX0_canOpen 55 = .ok (.ireturn, 1) := by decide +kernel
set_option maxRecDepth 20000 in
theorem ggX0_canClose_X0_isTicked : GoodIn wsX0_canClose wsX0_isTicked := goodIn_r _ [5, 6, 7, 8, 9, 10, 4, 11, 12, 13, 14, 15, 16, 17, 18, 19, 20, 21, 22, 23, 37, 38, 39, 40, 41, 42, 43] (by decide +kernel) (by decide +kernel)
set_option maxRecDepth 20000 in
theorem gX0_canClose_X0_isTicked : GoodIn wsX0_canClose (wsV RX0 53 RX0 yX0_isTicked wsX0_isTicked) := goodIn_app (goodIn_of _ (by decide +kernel)) ggX0_canClose_X0_isTicked
set_option maxRecDepth 20000 in
theorem ggX0_canClose_X0_isSkipped : GoodIn wsX0_canClose wsX0_isSkipped := goodIn_r _ [27, 6, 7, 28, 29, 30, 31, 4, 32, 12, 14, 15, 16, 8, 9, 10, 11, 13, 17, 18, 19, 20, 21, 22, 23, 37, 38, 39, 40, 41, 42, 43] (by decide +kernel) (by decide +kernel)
set_option maxRecDepth 20000 in
theorem gX0_canClose_X0_isSkipped : GoodIn wsX0_canClose (wsV RX0 57 RX0 yX0_isSkipped wsX0_isSkipped) := goodIn_app (goodIn_of _ (by decide +kernel)) ggX0_canClose_X0_isSkipped
set_option maxRecDepth 20000 in
theorem ggX0_canClose_X0_hasWanting : GoodIn wsX0_canClose wsX0_hasWanting := goodIn_r _ [36, 6, 28, 17, 18, 19, 4, 20, 21, 14, 15, 16, 22, 23, 29, 30, 31, 32, 12, 7, 8, 9, 10, 11, 13, 37, 38, 39, 40, 41, 42, 43] (by decide +kernel) (by decide +kernel)
set_option maxRecDepth 20000 in
theorem gX0_canClose_X0_hasWanting : GoodIn wsX0_canClose (wsV RX0 82 RX0 yX0_hasWanting wsX0_hasWanting) := goodIn_app (goodIn_of _ (by decide +kernel)) ggX0_canClose_X0_hasWanting
theorem dX0_canClose_0 : decode cX0_canClose 0 = .ok (.aload_n 0, 1) := by decide +kernel
theorem dX0_canClose_1 : decode cX0_canClose 1 = .ok (.iload_n 1, 1) := by decide +kernel
theorem dX0_canClose_2 : decode cX0_canClose 2 = .ok (.iload_n 2, 1) := by decide +kernel
theorem dX0_canClose_3 : decode cX0_canClose 3 = .ok (.invokevirtual 53, 3) := by decide +kernel
theorem dX0_canClose_6 : decode cX0_canClose 6 = .ok (.ifCond .eq 24, 3) := by decide +kernel
theorem dX0_canClose_9 : decode cX0_canClose 9 = .ok (.aload_n 0, 1) := by decide +kernel
theorem dX0_canClose_10 : decode cX0_canClose 10 = .ok (.iload_n 1, 1) := by decide +kernel
theorem dX0_canClose_11 : decode cX0_canClose 11 = .ok (.iload_n 2, 1) := by decide +kernel
theorem dX0_canClose_12 : decode cX0_canClose 12 = .ok (.invokevirtual 57, 3) := by decide +kernel
theorem dX0_canClose_15 : decode cX0_canClose 15 = .ok (.ifCond .ne 15, 3) := by decide +kernel
theorem dX0_canClose_18 : decode cX0_canClose 18 = .ok (.aload_n 0, 1) := by decide +kernel
theorem dX0_canClose_19 : decode cX0_canClose 19 = .ok (.iconst 2, 1) := by decide +kernel
theorem dX0_canClose_20 : decode cX0_canClose 20 = .ok (.iload_n 1, 1) := by decide +kernel
theorem dX0_canClose_21 : decode cX0_canClose 21 = .ok (.bipush 99, 2) := by decide +kernel
theorem dX0_canClose_23 : decode cX0_canClose 23 = .ok (.iload_n 2, 1) := by decide +kernel
theorem dX0_canClose_24 : decode cX0_canClose 24 = .ok (.invokevirtual 82, 3) := by decide +kernel
theorem dX0_canClose_27 : decode cX0_canClose 27 = .ok (.ifCond .eq 7, 3) := by decide +kernel
theorem dX0_canClose_30 : decode cX0_canClose 30 = .ok (.iconst 1, 1) := by decide +kernel
theorem dX0_canClose_31 : decode cX0_canClose 31 = .ok (.goto 4, 3) := by decide +kernel
theorem dX0_canClose_34 : decode cX0_canClose 34 = .ok (.iconst 0, 1) := by decide +kernel
theorem dX0_canClose_35 : decode cX0_canClose 35 = .ok (.ireturn, 1) := by decide +kernel
set_option maxRecDepth 20000 in
theorem ggX0_hasWanting_X0_isOpen : GoodIn wsX0_hasWanting wsX0_isOpen := goodIn_r _ [7, 8, 9, 10, 11, 12, 13, 25, 26, 27, 28, 29, 30, 31] (by decide +kernel) (by decide +kernel)
set_option maxRecDepth 20000 in
theorem gX0_hasWanting_X0_isOpen : GoodIn wsX0_hasWanting (wsV RX0 63 RX0 yX0_isOpen wsX0_isOpen) := goodIn_app (goodIn_of _ (by decide +kernel)) ggX0_hasWanting_X0_isOpen
set_option maxRecDepth 20000 in
theorem ggX0_hasWanting_X0_isEmpty : GoodIn wsX0_hasWanting wsX0_isEmpty := goodIn_r _ [17, 18, 19, 9, 10, 11, 25, 26, 27, 28, 29, 30, 31] (by decide +kernel) (by decide +kernel)
set_option maxRecDepth 20000 in
theorem gX0_hasWanting_X0_isEmpty : GoodIn wsX0_hasWanting (wsV RX0 66 RX0 yX0_isEmpty wsX0_isEmpty) := goodIn_app (goodIn_of _ (by decide +kernel)) ggX0_hasWanting_X0_isEmpty
set_option maxRecDepth 20000 in
theorem ggX0_hasWanting_X0_isFor : GoodIn wsX0_hasWanting wsX0_isFor := goodIn_r _ [23, 18, 24, 9, 10, 11, 25, 26, 27, 28, 29, 30, 31] (by decide +kernel) (by decide +kernel)
set_option maxRecDepth 20000 in
theorem gX0_hasWanting_X0_isFor : GoodIn wsX0_hasWanting (wsV RX0 60 RX0 yX0_isFor wsX0_isFor) := goodIn_app (goodIn_of _ (by decide +kernel)) ggX0_hasWanting_X0_isFor
set_option maxRecDepth 20000 in
theorem ggX0_hasWanting_X3_at : GoodIn wsX0_hasWanting wsX3_at := goodIn_r _ [11] (by decide +kernel) (by decide +kernel)
set_option maxRecDepth 20000 in
theorem gX0_hasWanting_X3_at_n34 : GoodIn wsX0_hasWanting (wsX3_at) := ggX0_hasWanting_X3_at
theorem dX0_hasWanting_0 : decode cX0_hasWanting 0 = .ok (.iconst 0, 1) := by decide +kernel
theorem dX0_hasWanting_1 : decode cX0_hasWanting 1 = .ok (.istore 5, 2) := by decide +kernel
theorem dX0_hasWanting_3 : decode cX0_hasWanting 3 = .ok (.iload 5, 2) := by decide +kernel
theorem dX0_hasWanting_5 : decode cX0_hasWanting 5 = .ok (.aload_n 0, 1) := by decide +kernel
theorem dX0_hasWanting_6 : decode cX0_hasWanting 6 = .ok (.getfield 30, 3) := by decide +kernel
theorem dX0_hasWanting_9 : decode cX0_hasWanting 9 = .ok (.if_icmp .ge 67, 3) := by decide +kernel
theorem dX0_hasWanting_12 : decode cX0_hasWanting 12 = .ok (.aload_n 0, 1) := by decide +kernel
theorem dX0_hasWanting_13 : decode cX0_hasWanting 13 = .ok (.iload 5, 2) := by decide +kernel
theorem dX0_hasWanting_15 : decode cX0_hasWanting 15 = .ok (.iload 4, 2) := by decide +kernel
theorem dX0_hasWanting_17 : decode cX0_hasWanting 17 = .ok (.invokevirtual 63, 3) := by decide +kernel
theorem dX0_hasWanting_20 : decode cX0_hasWanting 20 = .ok (.ifCond .eq 16, 3) := by decide +kernel
theorem dX0_hasWanting_23 : decode cX0_hasWanting 23 = .ok (.aload_n 0, 1) := by decide +kernel
theorem dX0_hasWanting_24 : decode cX0_hasWanting 24 = .ok (.iload 5, 2) := by decide +kernel
theorem dX0_hasWanting_26 : decode cX0_hasWanting 26 = .ok (.invokevirtual 66, 3) := by decide +kernel
theorem dX0_hasWanting_29 : decode cX0_hasWanting 29 = .ok (.ifCond .eq 7, 3) := by decide +kernel
theorem dX0_hasWanting_32 : decode cX0_hasWanting 32 = .ok (.iconst 1, 1) := by decide +kernel
theorem dX0_hasWanting_33 : decode cX0_hasWanting 33 = .ok (.goto 4, 3) := by decide +kernel
theorem dX0_hasWanting_36 : decode cX0_hasWanting 36 = .ok (.iconst 0, 1) := by decide +kernel
theorem dX0_hasWanting_37 : decode cX0_hasWanting 37 = .ok (.istore 6, 2) := by decide +kernel
theorem dX0_hasWanting_39 : decode cX0_hasWanting 39 = .ok (.aload_n 0, 1) := by decide +kernel
theorem dX0_hasWanting_40 : decode cX0_hasWanting 40 = .ok (.iload 5, 2) := by decide +kernel
theorem dX0_hasWanting_42 : decode cX0_hasWanting 42 = .ok (.iload_n 1, 1) := by decide +kernel
theorem dX0_hasWanting_43 : decode cX0_hasWanting 43 = .ok (.iload_n 2, 1) := by decide +kernel
theorem dX0_hasWanting_44 : decode cX0_hasWanting 44 = .ok (.invokevirtual 60, 3) := by decide +kernel
theorem dX0_hasWanting_47 : decode cX0_hasWanting 47 = .ok (.ifCond .eq 23, 3) := by decide +kernel
theorem dX0_hasWanting_50 : decode cX0_hasWanting 50 = .ok (.iload 6, 2) := by decide +kernel
theorem dX0_hasWanting_52 : decode cX0_hasWanting 52 = .ok (.ifCond .eq 18, 3) := by decide +kernel
theorem dX0_hasWanting_55 : decode cX0_hasWanting 55 = .ok (.aload_n 0, 1) := by decide +kernel
theorem dX0_hasWanting_56 : decode cX0_hasWanting 56 = .ok (.getfield 21, 3) := by decide +kernel
theorem dX0_hasWanting_59 : decode cX0_hasWanting 59 = .ok (.iload 5, 2) := by decide +kernel
theorem dX0_hasWanting_61 : decode cX0_hasWanting 61 = .ok (.invokestatic 34, 3) := by decide +kernel
theorem dX0_hasWanting_64 : decode cX0_hasWanting 64 = .ok (.iload_n 3, 1) := by decide +kernel
theorem dX0_hasWanting_65 : decode cX0_hasWanting 65 = .ok (.if_icmp .gt 5, 3) := by decide +kernel
theorem dX0_hasWanting_68 : decode cX0_hasWanting 68 = .ok (.iconst 1, 1) := by decide +kernel
theorem dX0_hasWanting_69 : decode cX0_hasWanting 69 = .ok (.ireturn, 1) := by decide +kernel
theorem dX0_hasWanting_70 : decode cX0_hasWanting 70 = .ok (.iinc 5 1, 3) := by decide +kernel
theorem dX0_hasWanting_73 : decode cX0_hasWanting 73 = .ok (.goto (-70), 3) := by decide +kernel
theorem dX0_hasWanting_76 : decode cX0_hasWanting 76 = .ok (.iconst 0, 1) := by decide +kernel
theorem dX0_hasWanting_77 : decode cX0_hasWanting 77 = .ok (.ireturn, 1) := by decide +kernel
set_option maxRecDepth 20000 in
theorem ggX0_canCarry_X3_at : GoodIn wsX0_canCarry wsX3_at := goodIn_r _ [4] (by decide +kernel) (by decide +kernel)
set_option maxRecDepth 20000 in
theorem gX0_canCarry_X3_at_n34 : GoodIn wsX0_canCarry (wsX3_at) := ggX0_canCarry_X3_at
set_option maxRecDepth 20000 in
theorem ggX0_canCarry_X3_isInMask : GoodIn wsX0_canCarry wsX3_isInMask := goodIn_r _ [6] (by decide +kernel) (by decide +kernel)
set_option maxRecDepth 20000 in
theorem gX0_canCarry_X3_isInMask_n70 : GoodIn wsX0_canCarry (wsX3_isInMask) := ggX0_canCarry_X3_isInMask
set_option maxRecDepth 20000 in
theorem ggX0_canCarry_X0_has : GoodIn wsX0_canCarry wsX0_has := goodIn_r _ [11, 12, 13, 14, 15, 16, 17, 18, 19] (by decide +kernel) (by decide +kernel)
set_option maxRecDepth 20000 in
theorem gX0_canCarry_X0_has : GoodIn wsX0_canCarry (wsV RX0 86 RX0 yX0_has wsX0_has) := goodIn_app (goodIn_of _ (by decide +kernel)) ggX0_canCarry_X0_has
theorem dX0_canCarry_0 : decode cX0_canCarry 0 = .ok (.iconst 0, 1) := by decide +kernel
theorem dX0_canCarry_1 : decode cX0_canCarry 1 = .ok (.istore_n 2, 1) := by decide +kernel
theorem dX0_canCarry_2 : decode cX0_canCarry 2 = .ok (.iload_n 2, 1) := by decide +kernel
theorem dX0_canCarry_3 : decode cX0_canCarry 3 = .ok (.bipush 16, 2) := by decide +kernel
theorem dX0_canCarry_5 : decode cX0_canCarry 5 = .ok (.if_icmp .ge 60, 3) := by decide +kernel
theorem dX0_canCarry_8 : decode cX0_canCarry 8 = .ok (.aload_n 0, 1) := by decide +kernel
theorem dX0_canCarry_9 : decode cX0_canCarry 9 = .ok (.getfield 9, 3) := by decide +kernel
theorem dX0_canCarry_12 : decode cX0_canCarry 12 = .ok (.iload_n 2, 1) := by decide +kernel
theorem dX0_canCarry_13 : decode cX0_canCarry 13 = .ok (.invokestatic 34, 3) := by decide +kernel
theorem dX0_canCarry_16 : decode cX0_canCarry 16 = .ok (.ifCond .eq 15, 3) := by decide +kernel
theorem dX0_canCarry_19 : decode cX0_canCarry 19 = .ok (.aload_n 0, 1) := by decide +kernel
theorem dX0_canCarry_20 : decode cX0_canCarry 20 = .ok (.getfield 9, 3) := by decide +kernel
theorem dX0_canCarry_23 : decode cX0_canCarry 23 = .ok (.iload_n 2, 1) := by decide +kernel
theorem dX0_canCarry_24 : decode cX0_canCarry 24 = .ok (.invokestatic 34, 3) := by decide +kernel
theorem dX0_canCarry_27 : decode cX0_canCarry 27 = .ok (.iconst 3, 1) := by decide +kernel
theorem dX0_canCarry_28 : decode cX0_canCarry 28 = .ok (.if_icmp .ne 7, 3) := by decide +kernel
theorem dX0_canCarry_31 : decode cX0_canCarry 31 = .ok (.iconst 1, 1) := by decide +kernel
theorem dX0_canCarry_32 : decode cX0_canCarry 32 = .ok (.goto 4, 3) := by decide +kernel
theorem dX0_canCarry_35 : decode cX0_canCarry 35 = .ok (.iconst 0, 1) := by decide +kernel
theorem dX0_canCarry_36 : decode cX0_canCarry 36 = .ok (.istore_n 3, 1) := by decide +kernel
theorem dX0_canCarry_37 : decode cX0_canCarry 37 = .ok (.iload_n 2, 1) := by decide +kernel
theorem dX0_canCarry_38 : decode cX0_canCarry 38 = .ok (.iload_n 1, 1) := by decide +kernel
theorem dX0_canCarry_39 : decode cX0_canCarry 39 = .ok (.invokestatic 70, 3) := by decide +kernel
theorem dX0_canCarry_42 : decode cX0_canCarry 42 = .ok (.ifCond .eq 17, 3) := by decide +kernel
theorem dX0_canCarry_45 : decode cX0_canCarry 45 = .ok (.aload_n 0, 1) := by decide +kernel
theorem dX0_canCarry_46 : decode cX0_canCarry 46 = .ok (.iload_n 2, 1) := by decide +kernel
theorem dX0_canCarry_47 : decode cX0_canCarry 47 = .ok (.invokevirtual 86, 3) := by decide +kernel
theorem dX0_canCarry_50 : decode cX0_canCarry 50 = .ok (.ifCond .eq 7, 3) := by decide +kernel
theorem dX0_canCarry_53 : decode cX0_canCarry 53 = .ok (.iload_n 3, 1) := by decide +kernel
theorem dX0_canCarry_54 : decode cX0_canCarry 54 = .ok (.ifCond .ne 5, 3) := by decide +kernel
theorem dX0_canCarry_57 : decode cX0_canCarry 57 = .ok (.iconst 0, 1) := by decide +kernel
theorem dX0_canCarry_58 : decode cX0_canCarry 58 = .ok (.ireturn, 1) := by decide +kernel
theorem dX0_canCarry_59 : decode cX0_canCarry 59 = .ok (.iinc 2 1, 3) := by decide +kernel
theorem dX0_canCarry_62 : decode cX0_canCarry 62 = .ok (.goto (-60), 3) := by decide +kernel
theorem dX0_canCarry_65 : decode cX0_canCarry 65 = .ok (.iconst 1, 1) := by decide +kernel
theorem dX0_canCarry_66 : decode cX0_canCarry 66 = .ok (.ireturn, 1) := by decide +kernel
set_option maxRecDepth 20000 in
theorem ggX0_lastTotal_X3_at : GoodIn wsX0_lastTotal wsX3_at := goodIn_r _ [5] (by decide +kernel) (by decide +kernel)
set_option maxRecDepth 20000 in
theorem gX0_lastTotal_X3_at_n34 : GoodIn wsX0_lastTotal (wsX3_at) := ggX0_lastTotal_X3_at
theorem dX0_lastTotal_0 : decode cX0_lastTotal 0 = .ok (.aload_n 0, 1) := by decide +kernel
theorem dX0_lastTotal_1 : decode cX0_lastTotal 1 = .ok (.getfield 30, 3) := by decide +kernel
theorem dX0_lastTotal_4 : decode cX0_lastTotal 4 = .ok (.iconst 1, 1) := by decide +kernel
theorem dX0_lastTotal_5 : decode cX0_lastTotal 5 = .ok (.isub, 1) := by decide +kernel
theorem dX0_lastTotal_6 : decode cX0_lastTotal 6 = .ok (.istore_n 1, 1) := by decide +kernel
theorem dX0_lastTotal_7 : decode cX0_lastTotal 7 = .ok (.iload_n 1, 1) := by decide +kernel
theorem dX0_lastTotal_8 : decode cX0_lastTotal 8 = .ok (.ifCond .lt 23, 3) := by decide +kernel
theorem dX0_lastTotal_11 : decode cX0_lastTotal 11 = .ok (.aload_n 0, 1) := by decide +kernel
theorem dX0_lastTotal_12 : decode cX0_lastTotal 12 = .ok (.getfield 9, 3) := by decide +kernel
theorem dX0_lastTotal_15 : decode cX0_lastTotal 15 = .ok (.iload_n 1, 1) := by decide +kernel
theorem dX0_lastTotal_16 : decode cX0_lastTotal 16 = .ok (.invokestatic 34, 3) := by decide +kernel
theorem dX0_lastTotal_19 : decode cX0_lastTotal 19 = .ok (.iconst 3, 1) := by decide +kernel
theorem dX0_lastTotal_20 : decode cX0_lastTotal 20 = .ok (.if_icmp .ne 5, 3) := by decide +kernel
theorem dX0_lastTotal_23 : decode cX0_lastTotal 23 = .ok (.iload_n 1, 1) := by decide +kernel
theorem dX0_lastTotal_24 : decode cX0_lastTotal 24 = .ok (.ireturn, 1) := by decide +kernel
theorem dX0_lastTotal_25 : decode cX0_lastTotal 25 = .ok (.iinc 1 (-1), 3) := by decide +kernel
theorem dX0_lastTotal_28 : decode cX0_lastTotal 28 = .ok (.goto (-21), 3) := by decide +kernel
theorem dX0_lastTotal_31 : decode cX0_lastTotal 31 = .ok (.iconst (-1), 1) := by decide +kernel
theorem dX0_lastTotal_32 : decode cX0_lastTotal 32 = .ok (.ireturn, 1) := by decide +kernel
set_option maxRecDepth 20000 in
theorem ggX0_valueOf_X3_at : GoodIn wsX0_valueOf wsX3_at := goodIn_r _ [6] (by decide +kernel) (by decide +kernel)
set_option maxRecDepth 20000 in
theorem gX0_valueOf_X3_at_n34 : GoodIn wsX0_valueOf (wsX3_at) := ggX0_valueOf_X3_at
set_option maxRecDepth 20000 in
theorem ggX0_valueOf_X0_sumOf : GoodIn wsX0_valueOf wsX0_sumOf := goodIn_r _ [11, 12, 2, 13, 14, 15, 16, 17, 4, 5, 6, 18, 19, 20, 21, 22, 10, 23, 24, 36, 37, 38, 39, 40, 41, 42] (by decide +kernel) (by decide +kernel)
set_option maxRecDepth 20000 in
theorem gX0_valueOf_X0_sumOf : GoodIn wsX0_valueOf (wsV RX0 89 RX0 yX0_sumOf wsX0_sumOf) := goodIn_app (goodIn_of _ (by decide +kernel)) ggX0_valueOf_X0_sumOf
set_option maxRecDepth 20000 in
theorem ggX0_valueOf_X0_ownValue : GoodIn wsX0_valueOf wsX0_ownValue := goodIn_r _ [28, 3, 29, 4, 5, 6, 30, 31, 32, 10, 33, 36, 37, 38, 39, 40, 41, 42] (by decide +kernel) (by decide +kernel)
set_option maxRecDepth 20000 in
theorem gX0_valueOf_X0_ownValue : GoodIn wsX0_valueOf (wsV RX0 93 RX0 yX0_ownValue wsX0_ownValue) := goodIn_app (goodIn_of _ (by decide +kernel)) ggX0_valueOf_X0_ownValue
set_option maxRecDepth 20000 in
theorem ggX0_valueOf_X3_put : GoodIn wsX0_valueOf wsX3_put := goodIn_r _ [35] (by decide +kernel) (by decide +kernel)
set_option maxRecDepth 20000 in
theorem gX0_valueOf_X3_put_n38 : GoodIn wsX0_valueOf (wsX3_put) := ggX0_valueOf_X3_put
theorem dX0_valueOf_0 : decode cX0_valueOf 0 = .ok (.iconst 0, 1) := by decide +kernel
theorem dX0_valueOf_1 : decode cX0_valueOf 1 = .ok (.istore_n 3, 1) := by decide +kernel
theorem dX0_valueOf_2 : decode cX0_valueOf 2 = .ok (.iload_n 3, 1) := by decide +kernel
theorem dX0_valueOf_3 : decode cX0_valueOf 3 = .ok (.iload_n 1, 1) := by decide +kernel
theorem dX0_valueOf_4 : decode cX0_valueOf 4 = .ok (.if_icmp .gt 51, 3) := by decide +kernel
theorem dX0_valueOf_7 : decode cX0_valueOf 7 = .ok (.iload_n 3, 1) := by decide +kernel
theorem dX0_valueOf_8 : decode cX0_valueOf 8 = .ok (.aload_n 0, 1) := by decide +kernel
theorem dX0_valueOf_9 : decode cX0_valueOf 9 = .ok (.getfield 30, 3) := by decide +kernel
theorem dX0_valueOf_12 : decode cX0_valueOf 12 = .ok (.if_icmp .ge 43, 3) := by decide +kernel
theorem dX0_valueOf_15 : decode cX0_valueOf 15 = .ok (.aload_n 0, 1) := by decide +kernel
theorem dX0_valueOf_16 : decode cX0_valueOf 16 = .ok (.getfield 27, 3) := by decide +kernel
theorem dX0_valueOf_19 : decode cX0_valueOf 19 = .ok (.iload_n 3, 1) := by decide +kernel
theorem dX0_valueOf_20 : decode cX0_valueOf 20 = .ok (.aload_n 0, 1) := by decide +kernel
theorem dX0_valueOf_21 : decode cX0_valueOf 21 = .ok (.getfield 9, 3) := by decide +kernel
theorem dX0_valueOf_24 : decode cX0_valueOf 24 = .ok (.iload_n 3, 1) := by decide +kernel
theorem dX0_valueOf_25 : decode cX0_valueOf 25 = .ok (.invokestatic 34, 3) := by decide +kernel
theorem dX0_valueOf_28 : decode cX0_valueOf 28 = .ok (.iconst 3, 1) := by decide +kernel
theorem dX0_valueOf_29 : decode cX0_valueOf 29 = .ok (.if_icmp .ne 12, 3) := by decide +kernel
theorem dX0_valueOf_32 : decode cX0_valueOf 32 = .ok (.aload_n 0, 1) := by decide +kernel
theorem dX0_valueOf_33 : decode cX0_valueOf 33 = .ok (.iload_n 3, 1) := by decide +kernel
theorem dX0_valueOf_34 : decode cX0_valueOf 34 = .ok (.iload_n 2, 1) := by decide +kernel
theorem dX0_valueOf_35 : decode cX0_valueOf 35 = .ok (.invokevirtual 89, 3) := by decide +kernel
theorem dX0_valueOf_38 : decode cX0_valueOf 38 = .ok (.goto 8, 3) := by decide +kernel
theorem dX0_valueOf_41 : decode cX0_valueOf 41 = .ok (.aload_n 0, 1) := by decide +kernel
theorem dX0_valueOf_42 : decode cX0_valueOf 42 = .ok (.iload_n 3, 1) := by decide +kernel
theorem dX0_valueOf_43 : decode cX0_valueOf 43 = .ok (.invokevirtual 93, 3) := by decide +kernel
theorem dX0_valueOf_46 : decode cX0_valueOf 46 = .ok (.invokestatic 38, 3) := by decide +kernel
theorem dX0_valueOf_49 : decode cX0_valueOf 49 = .ok (.iinc 3 1, 3) := by decide +kernel
theorem dX0_valueOf_52 : decode cX0_valueOf 52 = .ok (.goto (-50), 3) := by decide +kernel
theorem dX0_valueOf_55 : decode cX0_valueOf 55 = .ok (.aload_n 0, 1) := by decide +kernel
theorem dX0_valueOf_56 : decode cX0_valueOf 56 = .ok (.getfield 27, 3) := by decide +kernel
theorem dX0_valueOf_59 : decode cX0_valueOf 59 = .ok (.iload_n 1, 1) := by decide +kernel
theorem dX0_valueOf_60 : decode cX0_valueOf 60 = .ok (.invokestatic 34, 3) := by decide +kernel
theorem dX0_valueOf_63 : decode cX0_valueOf 63 = .ok (.ireturn, 1) := by decide +kernel
set_option maxRecDepth 20000 in
theorem ggX0_ownValue_X3_at : GoodIn wsX0_ownValue wsX3_at := goodIn_r _ [5] (by decide +kernel) (by decide +kernel)
set_option maxRecDepth 20000 in
theorem gX0_ownValue_X3_at_n34 : GoodIn wsX0_ownValue (wsX3_at) := ggX0_ownValue_X3_at
set_option maxRecDepth 20000 in
theorem ggX0_ownValue_X0_isEmpty : GoodIn wsX0_ownValue wsX0_isEmpty := goodIn_r _ [10, 1, 2, 3, 4, 5, 11, 12, 13, 14, 15, 16, 17] (by decide +kernel) (by decide +kernel)
set_option maxRecDepth 20000 in
theorem gX0_ownValue_X0_isEmpty : GoodIn wsX0_ownValue (wsV RX0 66 RX0 yX0_isEmpty wsX0_isEmpty) := goodIn_app (goodIn_of _ (by decide +kernel)) ggX0_ownValue_X0_isEmpty
theorem dX0_ownValue_0 : decode cX0_ownValue 0 = .ok (.aload_n 0, 1) := by decide +kernel
theorem dX0_ownValue_1 : decode cX0_ownValue 1 = .ok (.getfield 9, 3) := by decide +kernel
theorem dX0_ownValue_4 : decode cX0_ownValue 4 = .ok (.iload_n 1, 1) := by decide +kernel
theorem dX0_ownValue_5 : decode cX0_ownValue 5 = .ok (.invokestatic 34, 3) := by decide +kernel
theorem dX0_ownValue_8 : decode cX0_ownValue 8 = .ok (.ifCond .eq 5, 3) := by decide +kernel
theorem dX0_ownValue_11 : decode cX0_ownValue 11 = .ok (.iconst (-1), 1) := by decide +kernel
theorem dX0_ownValue_12 : decode cX0_ownValue 12 = .ok (.ireturn, 1) := by decide +kernel
theorem dX0_ownValue_13 : decode cX0_ownValue 13 = .ok (.aload_n 0, 1) := by decide +kernel
theorem dX0_ownValue_14 : decode cX0_ownValue 14 = .ok (.iload_n 1, 1) := by decide +kernel
theorem dX0_ownValue_15 : decode cX0_ownValue 15 = .ok (.invokevirtual 66, 3) := by decide +kernel
theorem dX0_ownValue_18 : decode cX0_ownValue 18 = .ok (.ifCond .eq 7, 3) := by decide +kernel
theorem dX0_ownValue_21 : decode cX0_ownValue 21 = .ok (.iconst 0, 1) := by decide +kernel
theorem dX0_ownValue_22 : decode cX0_ownValue 22 = .ok (.goto 11, 3) := by decide +kernel
theorem dX0_ownValue_25 : decode cX0_ownValue 25 = .ok (.aload_n 0, 1) := by decide +kernel
theorem dX0_ownValue_26 : decode cX0_ownValue 26 = .ok (.getfield 24, 3) := by decide +kernel
theorem dX0_ownValue_29 : decode cX0_ownValue 29 = .ok (.iload_n 1, 1) := by decide +kernel
theorem dX0_ownValue_30 : decode cX0_ownValue 30 = .ok (.invokestatic 34, 3) := by decide +kernel
theorem dX0_ownValue_33 : decode cX0_ownValue 33 = .ok (.ireturn, 1) := by decide +kernel
set_option maxRecDepth 20000 in
theorem ggX0_sumOf_X3_at : GoodIn wsX0_sumOf wsX3_at := goodIn_r _ [10] (by decide +kernel) (by decide +kernel)
set_option maxRecDepth 20000 in
theorem gX0_sumOf_X3_at_n34 : GoodIn wsX0_sumOf (wsX3_at) := ggX0_sumOf_X3_at
