/-! ===== BEGIN words of one list among another's, by their places ===== -/
theorem goodIn_r {big : List Cond} (ws : List Cond) (ps : List Nat) (hp : ws = ps.filterMap (fun i => big[i]?)) (h : ws.all goodWord = true) : GoodIn big ws := by
  intro w hw
  have h1 := List.all_eq_true.mp h w hw
  rw [hp] at hw
  obtain ⟨i, -, hi⟩ := List.mem_filterMap.mp hw
  have hm : w ∈ big := by first | exact List.mem_of_getElem? hi | exact List.getElem?_mem hi
  exact ⟨hm, good_of_word h1⟩
theorem goodIn_app {big a b : List Cond} (ha : GoodIn big a) (hb : GoodIn big b) : GoodIn big (a ++ b) := fun w h => (List.mem_append.mp h).elim (ha w) (hb w)
theorem goodIn_ca {big a b : List Cond} {c : Cond} (ha : GoodIn big (c :: a)) (hb : GoodIn big b) : GoodIn big (c :: (a ++ b)) := fun w h => (List.mem_cons.mp h).elim (fun e => ha w (List.mem_cons.mpr (Or.inl e))) (fun h => (List.mem_append.mp h).elim (fun h => ha w (List.mem_cons.mpr (Or.inr h))) (hb w))
theorem goodIn_sub {big ws : List Cond} (hm : ∀ w ∈ ws, w ∈ big) (h : ws.all goodWord = true) : GoodIn big ws := fun w hw => ⟨hm w hw, good_of_word (List.all_eq_true.mp h w hw)⟩
/-! ===== END ===== -/

/-! ===== BEGIN printed: names, fields, word lists, decode rows ===== -/
def RX0 : String := "DecimalRegisters$Decimal"
def TX0 : u_T := fun k => match k with
  | 0 => ("DecimalRegisters$Decimal", "digits", "LDecimalRegisters$Natural;", true)
  | 1 => ("DecimalRegisters$Decimal", "minus", "Z", false)
  | _ => ("DecimalRegisters$Decimal", "scale", "I", false)
def tyX0 : Nat → FieldType := fun k => match k with
  | 0 => .object "DecimalRegisters$Natural"
  | 1 => .boolean
  | _ => .int
abbrev wsX00 : List Cond := u_ws RX0 TX0 3
theorem nmX0 : ∀ a, a < 3 → ∀ b, b < 3 → a ≠ b → (TX0 a).2.1 ≠ (TX0 b).2.1 := by decide +kernel
theorem tyX0_ok : ∀ k, k < 3 → parseFieldDescriptor (TX0 k).2.2.1 = some (tyX0 k) := by decide +kernel
abbrev cX0_init : ByteArray := prog_2_method_1_code
def yX0_init : MethodName := ⟨RX0, "<init>", "()V"⟩
abbrev cX0_become : ByteArray := prog_2_method_2_code
def yX0_become : MethodName := ⟨RX0, "become", "(LDecimalRegisters$Decimal;)V"⟩
abbrev cX0_take : ByteArray := prog_2_method_3_code
def yX0_take : MethodName := ⟨RX0, "take", "(LDecimalRegisters$Natural;ZI)V"⟩
abbrev cX0_sign : ByteArray := prog_2_method_4_code
def yX0_sign : MethodName := ⟨RX0, "sign", "()I"⟩
def RX1 : String := "DecimalRegisters$Natural"
def TX1 : u_T := fun k => match k with
  | 0 => ("DecimalRegisters$Natural", "limbs", "[J", true)
  | _ => ("DecimalRegisters$Natural", "size", "I", false)
def tyX1 : Nat → FieldType := fun k => match k with
  | 0 => .array .long
  | _ => .int
abbrev wsX10 : List Cond := u_ws RX1 TX1 2
theorem nmX1 : ∀ a, a < 2 → ∀ b, b < 2 → a ≠ b → (TX1 a).2.1 ≠ (TX1 b).2.1 := by decide +kernel
theorem tyX1_ok : ∀ k, k < 2 → parseFieldDescriptor (TX1 k).2.2.1 = some (tyX1 k) := by decide +kernel
abbrev cX1_init : ByteArray := prog_3_method_1_code
def yX1_init : MethodName := ⟨RX1, "<init>", "()V"⟩
abbrev cX1_isZero : ByteArray := prog_3_method_2_code
def yX1_isZero : MethodName := ⟨RX1, "isZero", "()Z"⟩
abbrev cX1_become : ByteArray := prog_3_method_3_code
def yX1_become : MethodName := ⟨RX1, "become", "(LDecimalRegisters$Natural;)V"⟩
abbrev cX1_becomeSizeOf : ByteArray := prog_3_method_4_code
def yX1_becomeSizeOf : MethodName := ⟨RX1, "becomeSizeOf", "(J)V"⟩
abbrev cX1_clear : ByteArray := prog_3_method_5_code
def yX1_clear : MethodName := ⟨RX1, "clear", "()V"⟩
abbrev cX1_precision : ByteArray := prog_3_method_6_code
def yX1_precision : MethodName := ⟨RX1, "precision", "()I"⟩
abbrev cX1_figure : ByteArray := prog_3_method_7_code
def yX1_figure : MethodName := ⟨RX1, "figure", "(I)I"⟩
abbrev cX1_zerosAtEnd : ByteArray := prog_3_method_8_code
def yX1_zerosAtEnd : MethodName := ⟨RX1, "zerosAtEnd", "()I"⟩
abbrev cX1_lowestBits : ByteArray := prog_3_method_9_code
def yX1_lowestBits : MethodName := ⟨RX1, "lowestBits", "()J"⟩
abbrev cX1_order : ByteArray := prog_3_method_10_code
def yX1_order : MethodName := ⟨RX1, "order", "(LDecimalRegisters$Natural;)I"⟩
abbrev cX1_add : ByteArray := prog_3_method_11_code
def yX1_add : MethodName := ⟨RX1, "add", "(LDecimalRegisters$Natural;)V"⟩
abbrev cX1_subtract : ByteArray := prog_3_method_12_code
def yX1_subtract : MethodName := ⟨RX1, "subtract", "(LDecimalRegisters$Natural;)V"⟩
abbrev cX1_becomeProduct : ByteArray := prog_3_method_13_code
def yX1_becomeProduct : MethodName := ⟨RX1, "becomeProduct", "(LDecimalRegisters$Natural;LDecimalRegisters$Natural;)V"⟩
abbrev cX1_raise : ByteArray := prog_3_method_14_code
def yX1_raise : MethodName := ⟨RX1, "raise", "(I)V"⟩
abbrev cX1_shift : ByteArray := prog_3_method_15_code
def yX1_shift : MethodName := ⟨RX1, "shift", "(I)V"⟩
abbrev cX1_takeOut : ByteArray := prog_3_method_16_code
def yX1_takeOut : MethodName := ⟨RX1, "takeOut", "(LDecimalRegisters$Natural;LDecimalRegisters$Natural;)V"⟩
abbrev cX1_guess : ByteArray := prog_3_method_17_code
def yX1_guess : MethodName := ⟨RX1, "guess", "(LDecimalRegisters$Natural;I)J"⟩
abbrev cX1_takeAway : ByteArray := prog_3_method_18_code
def yX1_takeAway : MethodName := ⟨RX1, "takeAway", "(LDecimalRegisters$Natural;JI)V"⟩
abbrev cX1_close : ByteArray := prog_3_method_19_code
def yX1_close : MethodName := ⟨RX1, "close", "(IJ)V"⟩
abbrev cX1_shrink : ByteArray := prog_3_method_20_code
def yX1_shrink : MethodName := ⟨RX1, "shrink", "()V"⟩
def RX2 : String := "DecimalRegisters"
def TX2 : u_T := fun k => match k with
  | 0 => ("DecimalRegisters", "registers", "[LDecimalRegisters$Decimal;", true)
  | 1 => ("DecimalRegisters", "result", "LDecimalRegisters$Decimal;", true)
  | 2 => ("DecimalRegisters", "one", "LDecimalRegisters$Decimal;", true)
  | 3 => ("DecimalRegisters", "top", "LDecimalRegisters$Natural;", true)
  | 4 => ("DecimalRegisters", "bottom", "LDecimalRegisters$Natural;", true)
  | 5 => ("DecimalRegisters", "text", "[C", true)
  | _ => ("DecimalRegisters", "textLength", "I", false)
def tyX2 : Nat → FieldType := fun k => match k with
  | 0 => .array (.object "DecimalRegisters$Decimal")
  | 1 => .object "DecimalRegisters$Decimal"
  | 2 => .object "DecimalRegisters$Decimal"
  | 3 => .object "DecimalRegisters$Natural"
  | 4 => .object "DecimalRegisters$Natural"
  | 5 => .array .char
  | _ => .int
abbrev wsX20 : List Cond := u_ws RX2 TX2 7
theorem nmX2 : ∀ a, a < 7 → ∀ b, b < 7 → a ≠ b → (TX2 a).2.1 ≠ (TX2 b).2.1 := by decide +kernel
theorem tyX2_ok : ∀ k, k < 7 → parseFieldDescriptor (TX2 k).2.2.1 = some (tyX2 k) := by decide +kernel
abbrev cX2_init : ByteArray := prog_1_method_1_code
def yX2_init : MethodName := ⟨RX2, "<init>", "()V"⟩
abbrev cX2_load : ByteArray := prog_1_method_2_code
def yX2_load : MethodName := ⟨RX2, "load", "(IJI)I"⟩
abbrev cX2_push : ByteArray := prog_1_method_3_code
def yX2_push : MethodName := ⟨RX2, "push", "(IJ)I"⟩
abbrev cX2_reckon : ByteArray := prog_1_method_4_code
def yX2_reckon : MethodName := ⟨RX2, "reckon", "(IIII)I"⟩
abbrev cX2_divide : ByteArray := prog_1_method_5_code
def yX2_divide : MethodName := ⟨RX2, "divide", "(IIIII)I"⟩
abbrev cX2_part : ByteArray := prog_1_method_6_code
def yX2_part : MethodName := ⟨RX2, "part", "(IIII)I"⟩
abbrev cX2_scale : ByteArray := prog_1_method_7_code
def yX2_scale : MethodName := ⟨RX2, "scale", "(IIII)I"⟩
abbrev cX2_round : ByteArray := prog_1_method_8_code
def yX2_round : MethodName := ⟨RX2, "round", "(IIII)I"⟩
abbrev cX2_turn : ByteArray := prog_1_method_9_code
def yX2_turn : MethodName := ⟨RX2, "turn", "(III)I"⟩
abbrev cX2_move : ByteArray := prog_1_method_10_code
def yX2_move : MethodName := ⟨RX2, "move", "(IIII)I"⟩
abbrev cX2_power : ByteArray := prog_1_method_11_code
def yX2_power : MethodName := ⟨RX2, "power", "(III)I"⟩
abbrev cX2_compare : ByteArray := prog_1_method_12_code
def yX2_compare : MethodName := ⟨RX2, "compare", "(II)I"⟩
abbrev cX2_same : ByteArray := prog_1_method_13_code
def yX2_same : MethodName := ⟨RX2, "same", "(II)Z"⟩
abbrev cX2_look : ByteArray := prog_1_method_14_code
def yX2_look : MethodName := ⟨RX2, "look", "(II)I"⟩
abbrev cX2_digit : ByteArray := prog_1_method_15_code
def yX2_digit : MethodName := ⟨RX2, "digit", "(II)I"⟩
abbrev cX2_whole : ByteArray := prog_1_method_16_code
def yX2_whole : MethodName := ⟨RX2, "whole", "(I)J"⟩
abbrev cX2_write : ByteArray := prog_1_method_17_code
def yX2_write : MethodName := ⟨RX2, "write", "(I)I"⟩
abbrev cX2_octet : ByteArray := prog_1_method_18_code
def yX2_octet : MethodName := ⟨RX2, "octet", "(I)I"⟩
abbrev cX2_isRegister : ByteArray := prog_1_method_19_code
def yX2_isRegister : MethodName := ⟨RX2, "isRegister", "(I)Z"⟩
abbrev cX2_isWay : ByteArray := prog_1_method_20_code
def yX2_isWay : MethodName := ⟨RX2, "isWay", "(I)Z"⟩
abbrev cX2_isScale : ByteArray := prog_1_method_21_code
def yX2_isScale : MethodName := ⟨RX2, "isScale", "(I)Z"⟩
abbrev cX2_keep : ByteArray := prog_1_method_22_code
def yX2_keep : MethodName := ⟨RX2, "keep", "(I)I"⟩
abbrev cX2_keepQuotient : ByteArray := prog_1_method_23_code
def yX2_keepQuotient : MethodName := ⟨RX2, "keepQuotient", "(ILDecimalRegisters$Decimal;LDecimalRegisters$Decimal;II)I"⟩
abbrev cX2_align : ByteArray := prog_1_method_24_code
def yX2_align : MethodName := ⟨RX2, "align", "(LDecimalRegisters$Decimal;LDecimalRegisters$Decimal;I)V"⟩
abbrev cX2_split : ByteArray := prog_1_method_25_code
def yX2_split : MethodName := ⟨RX2, "split", "(LDecimalRegisters$Decimal;LDecimalRegisters$Decimal;I)V"⟩
abbrev cX2_settle : ByteArray := prog_1_method_26_code
def yX2_settle : MethodName := ⟨RX2, "settle", "(I)Z"⟩
abbrev cX2_isAwayFromZero : ByteArray := prog_1_method_27_code
def yX2_isAwayFromZero : MethodName := ⟨RX2, "isAwayFromZero", "(II)Z"⟩
abbrev cX2_cutOff : ByteArray := prog_1_method_28_code
def yX2_cutOff : MethodName := ⟨RX2, "cutOff", "(I)V"⟩
abbrev cX2_cutOffZeros : ByteArray := prog_1_method_29_code
def yX2_cutOffZeros : MethodName := ⟨RX2, "cutOffZeros", "()V"⟩
abbrev cX2_addUp : ByteArray := prog_1_method_30_code
def yX2_addUp : MethodName := ⟨RX2, "addUp", "(LDecimalRegisters$Decimal;LDecimalRegisters$Decimal;Z)V"⟩
abbrev cX2_multiply : ByteArray := prog_1_method_31_code
def yX2_multiply : MethodName := ⟨RX2, "multiply", "(LDecimalRegisters$Decimal;LDecimalRegisters$Decimal;)V"⟩
abbrev cX2_order : ByteArray := prog_1_method_32_code
def yX2_order : MethodName := ⟨RX2, "order", "(LDecimalRegisters$Decimal;LDecimalRegisters$Decimal;)I"⟩
abbrev cX2_appendFigures : ByteArray := prog_1_method_33_code
def yX2_appendFigures : MethodName := ⟨RX2, "appendFigures", "(LDecimalRegisters$Decimal;)V"⟩
abbrev cX2_appendZeros : ByteArray := prog_1_method_34_code
def yX2_appendZeros : MethodName := ⟨RX2, "appendZeros", "(I)V"⟩
abbrev cX2_append : ByteArray := prog_1_method_35_code
def yX2_append : MethodName := ⟨RX2, "append", "(C)V"⟩
def RX3 : String := "DecimalRegistersModel$Row"
def TX3 : u_T := fun k => match k with
  | 0 => ("DecimalRegistersModel$Row", "d", "[I", true)
  | 1 => ("DecimalRegistersModel$Row", "n", "I", false)
  | 2 => ("DecimalRegistersModel$Row", "minus", "Z", false)
  | _ => ("DecimalRegistersModel$Row", "scale", "I", false)
def tyX3 : Nat → FieldType := fun k => match k with
  | 0 => .array .int
  | 1 => .int
  | 2 => .boolean
  | _ => .int
abbrev wsX30 : List Cond := u_ws RX3 TX3 4
theorem nmX3 : ∀ a, a < 4 → ∀ b, b < 4 → a ≠ b → (TX3 a).2.1 ≠ (TX3 b).2.1 := by decide +kernel
theorem tyX3_ok : ∀ k, k < 4 → parseFieldDescriptor (TX3 k).2.2.1 = some (tyX3 k) := by decide +kernel
abbrev cX3_init : ByteArray := prog_6_method_1_code
def yX3_init : MethodName := ⟨RX3, "<init>", "()V"⟩
abbrev cX3_isZero : ByteArray := prog_6_method_2_code
def yX3_isZero : MethodName := ⟨RX3, "isZero", "()Z"⟩
abbrev cX3_zero : ByteArray := prog_6_method_3_code
def yX3_zero : MethodName := ⟨RX3, "zero", "()V"⟩
abbrev cX3_trim : ByteArray := prog_6_method_4_code
def yX3_trim : MethodName := ⟨RX3, "trim", "()V"⟩
abbrev cX3_take : ByteArray := prog_6_method_5_code
def yX3_take : MethodName := ⟨RX3, "take", "(LDecimalRegistersModel$Row;)V"⟩
abbrev cX3_up : ByteArray := prog_6_method_6_code
def yX3_up : MethodName := ⟨RX3, "up", "(I)V"⟩
abbrev cX3_ends : ByteArray := prog_6_method_7_code
def yX3_ends : MethodName := ⟨RX3, "ends", "(I)Z"⟩
abbrev cX3_more : ByteArray := prog_6_method_8_code
def yX3_more : MethodName := ⟨RX3, "more", "()V"⟩
def RX4 : String := "DecimalRegistersModel"
def TX4 : u_T := fun k => match k with
  | 0 => ("DecimalRegistersModel", "registers", "[LDecimalRegistersModel$Row;", true)
  | 1 => ("DecimalRegistersModel", "a", "LDecimalRegistersModel$Row;", true)
  | 2 => ("DecimalRegistersModel", "b", "LDecimalRegistersModel$Row;", true)
  | 3 => ("DecimalRegistersModel", "c", "LDecimalRegistersModel$Row;", true)
  | 4 => ("DecimalRegistersModel", "e", "LDecimalRegistersModel$Row;", true)
  | 5 => ("DecimalRegistersModel", "text", "[I", true)
  | _ => ("DecimalRegistersModel", "length", "I", false)
def tyX4 : Nat → FieldType := fun k => match k with
  | 0 => .array (.object "DecimalRegistersModel$Row")
  | 1 => .object "DecimalRegistersModel$Row"
  | 2 => .object "DecimalRegistersModel$Row"
  | 3 => .object "DecimalRegistersModel$Row"
  | 4 => .object "DecimalRegistersModel$Row"
  | 5 => .array .int
  | _ => .int
abbrev wsX40 : List Cond := u_ws RX4 TX4 7
theorem nmX4 : ∀ a, a < 7 → ∀ b, b < 7 → a ≠ b → (TX4 a).2.1 ≠ (TX4 b).2.1 := by decide +kernel
theorem tyX4_ok : ∀ k, k < 7 → parseFieldDescriptor (TX4 k).2.2.1 = some (tyX4 k) := by decide +kernel
abbrev cX4_init : ByteArray := prog_5_method_1_code
def yX4_init : MethodName := ⟨RX4, "<init>", "()V"⟩
abbrev cX4_is : ByteArray := prog_5_method_2_code
def yX4_is : MethodName := ⟨RX4, "is", "(I)Z"⟩
abbrev cX4_isScale : ByteArray := prog_5_method_3_code
def yX4_isScale : MethodName := ⟨RX4, "isScale", "(J)Z"⟩
abbrev cX4_keep : ByteArray := prog_5_method_4_code
def yX4_keep : MethodName := ⟨RX4, "keep", "(ILDecimalRegistersModel$Row;)I"⟩
abbrev cX4_load : ByteArray := prog_5_method_5_code
def yX4_load : MethodName := ⟨RX4, "load", "(IJI)I"⟩
abbrev cX4_push : ByteArray := prog_5_method_6_code
def yX4_push : MethodName := ⟨RX4, "push", "(IJ)I"⟩
abbrev cX4_sizes : ByteArray := prog_5_method_7_code
def yX4_sizes : MethodName := ⟨RX4, "sizes", "(LDecimalRegistersModel$Row;LDecimalRegistersModel$Row;)I"⟩
abbrev cX4_align : ByteArray := prog_5_method_8_code
def yX4_align : MethodName := ⟨RX4, "align", "(II)V"⟩
abbrev cX4_order : ByteArray := prog_5_method_9_code
def yX4_order : MethodName := ⟨RX4, "order", "(II)I"⟩
abbrev cX4_sum : ByteArray := prog_5_method_10_code
def yX4_sum : MethodName := ⟨RX4, "sum", "(Z)V"⟩
abbrev cX4_product : ByteArray := prog_5_method_11_code
def yX4_product : MethodName := ⟨RX4, "product", "(LDecimalRegistersModel$Row;LDecimalRegistersModel$Row;LDecimalRegistersModel$Row;)V"⟩
abbrev cX4_reckon : ByteArray := prog_5_method_12_code
def yX4_reckon : MethodName := ⟨RX4, "reckon", "(IIII)I"⟩
abbrev cX4_over : ByteArray := prog_5_method_13_code
def yX4_over : MethodName := ⟨RX4, "over", "()V"⟩
abbrev cX4_turns : ByteArray := prog_5_method_14_code
def yX4_turns : MethodName := ⟨RX4, "turns", "(IZIZ)Z"⟩
abbrev cX4_divide : ByteArray := prog_5_method_15_code
def yX4_divide : MethodName := ⟨RX4, "divide", "(IIIII)I"⟩
abbrev cX4_part : ByteArray := prog_5_method_16_code
def yX4_part : MethodName := ⟨RX4, "part", "(IIII)I"⟩
abbrev cX4_cut : ByteArray := prog_5_method_17_code
def yX4_cut : MethodName := ⟨RX4, "cut", "(II)Z"⟩
abbrev cX4_scale : ByteArray := prog_5_method_18_code
def yX4_scale : MethodName := ⟨RX4, "scale", "(IIII)I"⟩
abbrev cX4_round : ByteArray := prog_5_method_19_code
def yX4_round : MethodName := ⟨RX4, "round", "(IIII)I"⟩
abbrev cX4_turn : ByteArray := prog_5_method_20_code
def yX4_turn : MethodName := ⟨RX4, "turn", "(III)I"⟩
abbrev cX4_move : ByteArray := prog_5_method_21_code
def yX4_move : MethodName := ⟨RX4, "move", "(IIII)I"⟩
abbrev cX4_power : ByteArray := prog_5_method_22_code
def yX4_power : MethodName := ⟨RX4, "power", "(III)I"⟩
abbrev cX4_compare : ByteArray := prog_5_method_23_code
def yX4_compare : MethodName := ⟨RX4, "compare", "(II)I"⟩
abbrev cX4_same : ByteArray := prog_5_method_24_code
def yX4_same : MethodName := ⟨RX4, "same", "(II)Z"⟩
abbrev cX4_look : ByteArray := prog_5_method_25_code
def yX4_look : MethodName := ⟨RX4, "look", "(II)I"⟩
abbrev cX4_digit : ByteArray := prog_5_method_26_code
def yX4_digit : MethodName := ⟨RX4, "digit", "(II)I"⟩
abbrev cX4_whole : ByteArray := prog_5_method_27_code
def yX4_whole : MethodName := ⟨RX4, "whole", "(I)J"⟩
abbrev cX4_sign : ByteArray := prog_5_method_28_code
def yX4_sign : MethodName := ⟨RX4, "sign", "(I)V"⟩
abbrev cX4_write : ByteArray := prog_5_method_29_code
def yX4_write : MethodName := ⟨RX4, "write", "(I)I"⟩
abbrev cX4_octet : ByteArray := prog_5_method_30_code
def yX4_octet : MethodName := ⟨RX4, "octet", "(I)I"⟩
def RJ9 : String := "java/lang/Math"
def TJ9 : u_T := fun k => match k with
  | _ => ("", "", "", false)
def tyJ9 : Nat → FieldType := fun k => match k with
  | _ => .int
abbrev wsJ90 : List Cond := u_ws RJ9 TJ9 0
theorem nmJ9 : ∀ a, a < 0 → ∀ b, b < 0 → a ≠ b → (TJ9 a).2.1 ≠ (TJ9 b).2.1 := by decide +kernel
theorem tyJ9_ok : ∀ k, k < 0 → parseFieldDescriptor (TJ9 k).2.2.1 = some (tyJ9 k) := by decide +kernel
abbrev cJ9_floorDiv_f86c9 : ByteArray := prog_7_method_49_code
def yJ9_floorDiv_f86c9 : MethodName := ⟨RJ9, "floorDiv", "(JJ)J"⟩
abbrev cJ9_abs_067f4 : ByteArray := prog_7_method_61_code
def yJ9_abs_067f4 : MethodName := ⟨RJ9, "abs", "(J)J"⟩
abbrev cJ9_max_7cf53 : ByteArray := prog_7_method_65_code
def yJ9_max_7cf53 : MethodName := ⟨RJ9, "max", "(II)I"⟩
def RJ10 : String := "java/lang/System"
def TJ10 : u_T := fun k => match k with
  | _ => ("", "", "", false)
def tyJ10 : Nat → FieldType := fun k => match k with
  | _ => .int
abbrev wsJ100 : List Cond := u_ws RJ10 TJ10 0
theorem nmJ10 : ∀ a, a < 0 → ∀ b, b < 0 → a ≠ b → (TJ10 a).2.1 ≠ (TJ10 b).2.1 := by decide +kernel
theorem tyJ10_ok : ∀ k, k < 0 → parseFieldDescriptor (TJ10 k).2.2.1 = some (tyJ10 k) := by decide +kernel
def RL : String := "DecimalRegistersLaw"
abbrev cL_law : ByteArray := code
def yL_law : MethodName := ⟨RL, "law", "([I)Z"⟩
def wsX1_init : List Cond := .code yX1_init cX1_init 1 none :: ([.methodLink RX1 1 objectInit, .instanceMethod objectInit, .code objectInit ⟨#[0xb1]⟩ 1 none, .arrayClass .long, .fieldLink RX1 9 "DecimalRegisters$Natural" "limbs" "[J"] ++ wsX10)
def wsX0_init : List Cond := .code yX0_init cX0_init 1 none :: ([.methodLink RX0 1 objectInit, .instanceMethod objectInit, .code objectInit ⟨#[0xb1]⟩ 1 none, .classLink RX0 7 RX1, .instantiable RX1 2, .initialized RX1, .fieldLink RX0 10 "DecimalRegisters$Decimal" "digits" "LDecimalRegisters$Natural;", .instanceMethod yX1_init, .code yX1_init cX1_init 1 none, .methodLink RX1 1 objectInit, .arrayClass .long, .fieldLink RX1 9 "DecimalRegisters$Natural" "limbs" "[J"] ++ wsX10 ++ wsX00)
def wsX1_become : List Cond := .code yX1_become cX1_become 2 none :: ([.fieldLink RX1 9 "DecimalRegisters$Natural" "limbs" "[J", .methodLink RX1 17 arraycopyName, .native arraycopyName, .static arraycopyName, .initialized "java/lang/System", .fieldLink RX1 13 "DecimalRegisters$Natural" "size" "I"] ++ wsX10)
def wsX1_isZero : List Cond := .code yX1_isZero cX1_isZero 1 (some .boolean) :: ([.fieldLink RX1 13 "DecimalRegisters$Natural" "size" "I"] ++ wsX10)
def wsX0_take : List Cond := .code yX0_take cX0_take 4 none :: ([.fieldLink RX0 10 "DecimalRegisters$Decimal" "digits" "LDecimalRegisters$Natural;", .fieldLink RX0 16 "DecimalRegisters$Decimal" "minus" "Z", .fieldLink RX0 20 "DecimalRegisters$Decimal" "scale" "I", .methodLink RX0 28 yX1_become, .instanceMethod yX1_become, .selects RX1 yX1_become yX1_become, .initialized RX1, .code yX1_become cX1_become 2 none, .fieldLink RX1 9 "DecimalRegisters$Natural" "limbs" "[J", .methodLink RX1 17 arraycopyName, .native arraycopyName, .static arraycopyName, .initialized "java/lang/System", .fieldLink RX1 13 "DecimalRegisters$Natural" "size" "I", .methodLink RX0 32 yX1_isZero, .instanceMethod yX1_isZero, .selects RX1 yX1_isZero yX1_isZero, .code yX1_isZero cX1_isZero 1 (some .boolean)] ++ wsX00 ++ wsX10)
def wsX0_become : List Cond := .code yX0_become cX0_become 2 none :: ([.fieldLink RX0 10 "DecimalRegisters$Decimal" "digits" "LDecimalRegisters$Natural;", .fieldLink RX0 16 "DecimalRegisters$Decimal" "minus" "Z", .fieldLink RX0 20 "DecimalRegisters$Decimal" "scale" "I", .methodLink RX0 24 yX0_take, .instanceMethod yX0_take, .selects RX0 yX0_take yX0_take, .initialized RX0, .code yX0_take cX0_take 4 none, .methodLink RX0 28 yX1_become, .instanceMethod yX1_become, .selects RX1 yX1_become yX1_become, .initialized RX1, .code yX1_become cX1_become 2 none, .fieldLink RX1 9 "DecimalRegisters$Natural" "limbs" "[J", .methodLink RX1 17 arraycopyName, .native arraycopyName, .static arraycopyName, .initialized "java/lang/System", .fieldLink RX1 13 "DecimalRegisters$Natural" "size" "I", .methodLink RX0 32 yX1_isZero, .instanceMethod yX1_isZero, .selects RX1 yX1_isZero yX1_isZero, .code yX1_isZero cX1_isZero 1 (some .boolean)] ++ wsX00 ++ wsX10)
def wsX0_sign : List Cond := .code yX0_sign cX0_sign 1 (some .int) :: ([.fieldLink RX0 10 "DecimalRegisters$Decimal" "digits" "LDecimalRegisters$Natural;", .fieldLink RX0 16 "DecimalRegisters$Decimal" "minus" "Z", .methodLink RX0 32 yX1_isZero, .instanceMethod yX1_isZero, .selects RX1 yX1_isZero yX1_isZero, .initialized RX1, .code yX1_isZero cX1_isZero 1 (some .boolean), .fieldLink RX1 13 "DecimalRegisters$Natural" "size" "I"] ++ wsX00 ++ wsX10)
def wsX1_clear : List Cond := .code yX1_clear cX1_clear 2 none :: ([.fieldLink RX1 13 "DecimalRegisters$Natural" "size" "I", .fieldLink RX1 9 "DecimalRegisters$Natural" "limbs" "[J"] ++ wsX10)
def wsX1_becomeSizeOf : List Cond := .code yX1_becomeSizeOf cX1_becomeSizeOf 6 none :: ([.fieldLink RX1 9 "DecimalRegisters$Natural" "limbs" "[J", .constantLong RX1 26 (1000000), .methodLink RX1 28 Lib.MathLoose.abs_long.x, .static Lib.MathLoose.abs_long.x, .initialized "java/lang/Math", .code Lib.MathLoose.abs_long.x Lib.MathLoose.abs_long.code 2 (some .long), .fieldLink RX1 13 "DecimalRegisters$Natural" "size" "I", .methodLink RX1 23 yX1_clear, .instanceMethod yX1_clear, .selects RX1 yX1_clear yX1_clear, .initialized RX1, .code yX1_clear cX1_clear 2 none] ++ wsX10)
def wsX1_figure : List Cond := .code yX1_figure cX1_figure 3 (some .int) :: ([.fieldLink RX1 13 "DecimalRegisters$Natural" "size" "I", .fieldLink RX1 9 "DecimalRegisters$Natural" "limbs" "[J", .fieldLink RX1 42 "DecimalRegisters$Natural" "TENS" "[J", .constantLong RX1 45 (10)] ++ wsX10)
def wsX1_precision : List Cond := .code yX1_precision cX1_precision 2 (some .int) :: ([.fieldLink RX1 13 "DecimalRegisters$Natural" "size" "I", .methodLink RX1 38 Lib.Math.max.name, .static Lib.Math.max.name, .initialized "java/lang/Math", .code Lib.Math.max.name Lib.Math.max.code 2 (some .int), .methodLink RX1 34 yX1_figure, .instanceMethod yX1_figure, .selects RX1 yX1_figure yX1_figure, .initialized RX1, .code yX1_figure cX1_figure 3 (some .int), .fieldLink RX1 9 "DecimalRegisters$Natural" "limbs" "[J", .fieldLink RX1 42 "DecimalRegisters$Natural" "TENS" "[J", .constantLong RX1 45 (10)] ++ wsX10)
def wsX1_zerosAtEnd : List Cond := .code yX1_zerosAtEnd cX1_zerosAtEnd 3 (some .int) :: ([.fieldLink RX1 13 "DecimalRegisters$Natural" "size" "I", .methodLink RX1 34 yX1_figure, .instanceMethod yX1_figure, .selects RX1 yX1_figure yX1_figure, .initialized RX1, .code yX1_figure cX1_figure 3 (some .int), .fieldLink RX1 9 "DecimalRegisters$Natural" "limbs" "[J", .fieldLink RX1 42 "DecimalRegisters$Natural" "TENS" "[J", .constantLong RX1 45 (10)] ++ wsX10)
def wsX1_lowestBits : List Cond := .code yX1_lowestBits cX1_lowestBits 4 (some .long) :: ([.fieldLink RX1 13 "DecimalRegisters$Natural" "size" "I", .constantLong RX1 26 (1000000), .fieldLink RX1 9 "DecimalRegisters$Natural" "limbs" "[J"] ++ wsX10)
def wsX1_order : List Cond := .code yX1_order cX1_order 3 (some .int) :: ([.fieldLink RX1 13 "DecimalRegisters$Natural" "size" "I", .fieldLink RX1 9 "DecimalRegisters$Natural" "limbs" "[J"] ++ wsX10)
def wsX1_close : List Cond := .code yX1_close cX1_close 4 none :: ([.fieldLink RX1 13 "DecimalRegisters$Natural" "size" "I", .fieldLink RX1 9 "DecimalRegisters$Natural" "limbs" "[J"] ++ wsX10)
def wsX1_add : List Cond := .code yX1_add cX1_add 8 none :: ([.fieldLink RX1 13 "DecimalRegisters$Natural" "size" "I", .methodLink RX1 38 Lib.Math.max.name, .static Lib.Math.max.name, .initialized "java/lang/Math", .code Lib.Math.max.name Lib.Math.max.code 2 (some .int), .fieldLink RX1 9 "DecimalRegisters$Natural" "limbs" "[J", .constantLong RX1 26 (1000000), .methodLink RX1 47 yX1_close, .instanceMethod yX1_close, .selects RX1 yX1_close yX1_close, .initialized RX1, .code yX1_close cX1_close 4 none] ++ wsX10)
def wsX1_shrink : List Cond := .code yX1_shrink cX1_shrink 1 none :: ([.fieldLink RX1 13 "DecimalRegisters$Natural" "size" "I", .fieldLink RX1 9 "DecimalRegisters$Natural" "limbs" "[J"] ++ wsX10)
def wsX1_subtract : List Cond := .code yX1_subtract cX1_subtract 7 none :: ([.fieldLink RX1 13 "DecimalRegisters$Natural" "size" "I", .fieldLink RX1 9 "DecimalRegisters$Natural" "limbs" "[J", .constantLong RX1 26 (1000000), .methodLink RX1 51 yX1_shrink, .instanceMethod yX1_shrink, .selects RX1 yX1_shrink yX1_shrink, .initialized RX1, .code yX1_shrink cX1_shrink 1 none] ++ wsX10)
def wsX1_becomeProduct : List Cond := .code yX1_becomeProduct cX1_becomeProduct 9 none :: ([.fieldLink RX1 13 "DecimalRegisters$Natural" "size" "I", .fieldLink RX1 9 "DecimalRegisters$Natural" "limbs" "[J", .constantLong RX1 26 (1000000), .methodLink RX1 23 yX1_clear, .instanceMethod yX1_clear, .selects RX1 yX1_clear yX1_clear, .initialized RX1, .code yX1_clear cX1_clear 2 none, .methodLink RX1 51 yX1_shrink, .instanceMethod yX1_shrink, .selects RX1 yX1_shrink yX1_shrink, .code yX1_shrink cX1_shrink 1 none] ++ wsX10)
def wsX1_shift : List Cond := .code yX1_shift cX1_shift 3 none :: ([.fieldLink RX1 13 "DecimalRegisters$Natural" "size" "I", .fieldLink RX1 9 "DecimalRegisters$Natural" "limbs" "[J"] ++ wsX10)
def wsX1_raise : List Cond := .code yX1_raise cX1_raise 10 none :: ([.fieldLink RX1 13 "DecimalRegisters$Natural" "size" "I", .fieldLink RX1 42 "DecimalRegisters$Natural" "TENS" "[J", .fieldLink RX1 9 "DecimalRegisters$Natural" "limbs" "[J", .constantLong RX1 26 (1000000), .methodLink RX1 47 yX1_close, .instanceMethod yX1_close, .selects RX1 yX1_close yX1_close, .initialized RX1, .code yX1_close cX1_close 4 none, .methodLink RX1 54 yX1_shift, .instanceMethod yX1_shift, .selects RX1 yX1_shift yX1_shift, .code yX1_shift cX1_shift 3 none] ++ wsX10)
def wsX1_guess : List Cond := .code yX1_guess cX1_guess 8 (some .long) :: ([.fieldLink RX1 13 "DecimalRegisters$Natural" "size" "I", .fieldLink RX1 9 "DecimalRegisters$Natural" "limbs" "[J", .constantLong RX1 26 (1000000)] ++ wsX10)
def wsJ9_floorDiv_f86c9 : List Cond := .code yJ9_floorDiv_f86c9 cJ9_floorDiv_f86c9 6 (some .long) :: ([])
def wsX1_takeAway : List Cond := .code yX1_takeAway cX1_takeAway 10 none :: ([.fieldLink RX1 13 "DecimalRegisters$Natural" "size" "I", .fieldLink RX1 9 "DecimalRegisters$Natural" "limbs" "[J", .constantLong RX1 26 (1000000), .methodLink RX1 68 yJ9_floorDiv_f86c9, .static yJ9_floorDiv_f86c9, .initialized RJ9, .code yJ9_floorDiv_f86c9 cJ9_floorDiv_f86c9 6 (some .long)] ++ wsX10)
def wsX1_takeOut_r1 : List Cond := [Cond.fieldLink RX1 13 "DecimalRegisters$Natural" "size" "I", Cond.fieldLink RX1 9 "DecimalRegisters$Natural" "limbs" "[J", Cond.constantLong RX1 66 (-1), Cond.methodLink RX1 23 yX1_clear, Cond.instanceMethod yX1_clear, Cond.selects RX1 yX1_clear yX1_clear, Cond.initialized RX1, Cond.code yX1_clear cX1_clear 2 none, Cond.methodLink RX1 58 yX1_guess, Cond.instanceMethod yX1_guess, Cond.selects RX1 yX1_guess yX1_guess, Cond.code yX1_guess cX1_guess 8 (some .long), Cond.constantLong RX1 26 (1000000), Cond.methodLink RX1 62 yX1_takeAway, Cond.instanceMethod yX1_takeAway, Cond.selects RX1 yX1_takeAway yX1_takeAway, Cond.code yX1_takeAway cX1_takeAway 10 none, Cond.methodLink RX1 68 yJ9_floorDiv_f86c9, Cond.static yJ9_floorDiv_f86c9, Cond.initialized RJ9, Cond.code yJ9_floorDiv_f86c9 cJ9_floorDiv_f86c9 6 (some .long), Cond.methodLink RX1 51 yX1_shrink, Cond.instanceMethod yX1_shrink, Cond.selects RX1 yX1_shrink yX1_shrink]
def wsX1_takeOut_r2 : List Cond := [Cond.code yX1_shrink cX1_shrink 1 none]
def wsX1_takeOut : List Cond := .code yX1_takeOut cX1_takeOut 7 none :: ((wsX1_takeOut_r1 ++ wsX1_takeOut_r2) ++ wsX10)
def wsX2_init_r1 : List Cond := [Cond.methodLink RX2 1 objectInit, Cond.instanceMethod objectInit, Cond.code objectInit ⟨#[0xb1]⟩ 1 none, Cond.classLink RX2 9 RX0, Cond.fieldLink RX2 11 "DecimalRegisters" "registers" "[LDecimalRegisters$Decimal;", Cond.instantiable RX0 3, Cond.initialized RX0, Cond.fieldLink RX2 16 "DecimalRegisters" "result" "LDecimalRegisters$Decimal;", Cond.fieldLink RX2 20 "DecimalRegisters" "one" "LDecimalRegisters$Decimal;", Cond.fieldLink RX2 23 "DecimalRegisters$Decimal" "digits" "LDecimalRegisters$Natural;", Cond.classLink RX2 28 RX1, Cond.instantiable RX1 2, Cond.initialized RX1, Cond.fieldLink RX2 34 "DecimalRegisters" "top" "LDecimalRegisters$Natural;", Cond.fieldLink RX2 37 "DecimalRegisters" "bottom" "LDecimalRegisters$Natural;", Cond.arrayClass .char, Cond.fieldLink RX2 40 "DecimalRegisters" "text" "[C", Cond.fieldLink RX2 44 "DecimalRegisters" "textLength" "I", Cond.instanceMethod yX0_init, Cond.code yX0_init cX0_init 1 none, Cond.methodLink RX0 1 objectInit, Cond.classLink RX0 7 RX1, Cond.fieldLink RX0 10 "DecimalRegisters$Decimal" "digits" "LDecimalRegisters$Natural;", Cond.instanceMethod yX1_init]
def wsX2_init_r2 : List Cond := [Cond.code yX1_init cX1_init 1 none, Cond.methodLink RX1 1 objectInit, Cond.arrayClass .long, Cond.fieldLink RX1 9 "DecimalRegisters$Natural" "limbs" "[J", Cond.methodLink RX2 27 yX1_becomeSizeOf, Cond.instanceMethod yX1_becomeSizeOf, Cond.selects RX1 yX1_becomeSizeOf yX1_becomeSizeOf, Cond.code yX1_becomeSizeOf cX1_becomeSizeOf 6 none, Cond.constantLong RX1 26 (1000000), Cond.methodLink RX1 28 Lib.MathLoose.abs_long.x, Cond.static Lib.MathLoose.abs_long.x, Cond.initialized "java/lang/Math", Cond.code Lib.MathLoose.abs_long.x Lib.MathLoose.abs_long.code 2 (some .long), Cond.fieldLink RX1 13 "DecimalRegisters$Natural" "size" "I", Cond.methodLink RX1 23 yX1_clear, Cond.instanceMethod yX1_clear, Cond.selects RX1 yX1_clear yX1_clear, Cond.code yX1_clear cX1_clear 2 none]
def wsX2_init : List Cond := .code yX2_init cX2_init 2 none :: ((wsX2_init_r1 ++ wsX2_init_r2) ++ wsX20 ++ wsX00 ++ wsX10)
def wsX2_isRegister : List Cond := .code yX2_isRegister cX2_isRegister 1 (some .boolean) :: ([])
def wsX2_isScale : List Cond := .code yX2_isScale cX2_isScale 1 (some .boolean) :: ([])
def wsX2_keep_r1 : List Cond := [Cond.fieldLink RX2 16 "DecimalRegisters" "result" "LDecimalRegisters$Decimal;", Cond.fieldLink RX2 23 "DecimalRegisters$Decimal" "digits" "LDecimalRegisters$Natural;", Cond.fieldLink RX2 56 "DecimalRegisters$Decimal" "scale" "I", Cond.fieldLink RX2 11 "DecimalRegisters" "registers" "[LDecimalRegisters$Decimal;", Cond.methodLink RX2 114 yX1_precision, Cond.instanceMethod yX1_precision, Cond.selects RX1 yX1_precision yX1_precision, Cond.initialized RX1, Cond.code yX1_precision cX1_precision 2 (some .int), Cond.fieldLink RX1 13 "DecimalRegisters$Natural" "size" "I", Cond.methodLink RX1 38 Lib.Math.max.name, Cond.static Lib.Math.max.name, Cond.initialized "java/lang/Math", Cond.code Lib.Math.max.name Lib.Math.max.code 2 (some .int), Cond.methodLink RX1 34 yX1_figure, Cond.instanceMethod yX1_figure, Cond.selects RX1 yX1_figure yX1_figure, Cond.code yX1_figure cX1_figure 3 (some .int), Cond.fieldLink RX1 9 "DecimalRegisters$Natural" "limbs" "[J", Cond.fieldLink RX1 42 "DecimalRegisters$Natural" "TENS" "[J", Cond.constantLong RX1 45 (10), Cond.methodLink RX2 150 yX2_isScale, Cond.static yX2_isScale, Cond.initialized RX2]
def wsX2_keep_r2 : List Cond := [Cond.code yX2_isScale cX2_isScale 1 (some .boolean), Cond.methodLink RX2 63 yX0_become, Cond.instanceMethod yX0_become, Cond.selects RX0 yX0_become yX0_become, Cond.initialized RX0, Cond.code yX0_become cX0_become 2 none, Cond.fieldLink RX0 10 "DecimalRegisters$Decimal" "digits" "LDecimalRegisters$Natural;", Cond.fieldLink RX0 16 "DecimalRegisters$Decimal" "minus" "Z", Cond.fieldLink RX0 20 "DecimalRegisters$Decimal" "scale" "I", Cond.methodLink RX0 24 yX0_take, Cond.instanceMethod yX0_take, Cond.selects RX0 yX0_take yX0_take, Cond.code yX0_take cX0_take 4 none, Cond.methodLink RX0 28 yX1_become, Cond.instanceMethod yX1_become, Cond.selects RX1 yX1_become yX1_become, Cond.code yX1_become cX1_become 2 none, Cond.methodLink RX1 17 arraycopyName, Cond.native arraycopyName, Cond.static arraycopyName, Cond.initialized "java/lang/System", Cond.methodLink RX0 32 yX1_isZero, Cond.instanceMethod yX1_isZero, Cond.selects RX1 yX1_isZero yX1_isZero]
def wsX2_keep_r3 : List Cond := [Cond.code yX1_isZero cX1_isZero 1 (some .boolean)]
def wsX2_keep : List Cond := .code yX2_keep cX2_keep 3 (some .int) :: ((wsX2_keep_r1 ++ (wsX2_keep_r2 ++ wsX2_keep_r3)) ++ wsX20 ++ wsX00 ++ wsX10)
def wsX2_load_r1 : List Cond := [Cond.fieldLink RX2 16 "DecimalRegisters" "result" "LDecimalRegisters$Decimal;", Cond.fieldLink RX2 23 "DecimalRegisters$Decimal" "digits" "LDecimalRegisters$Natural;", Cond.fieldLink RX2 52 "DecimalRegisters$Decimal" "minus" "Z", Cond.fieldLink RX2 56 "DecimalRegisters$Decimal" "scale" "I", Cond.methodLink RX2 48 yX2_isRegister, Cond.static yX2_isRegister, Cond.initialized RX2, Cond.code yX2_isRegister cX2_isRegister 1 (some .boolean), Cond.methodLink RX2 27 yX1_becomeSizeOf, Cond.instanceMethod yX1_becomeSizeOf, Cond.selects RX1 yX1_becomeSizeOf yX1_becomeSizeOf, Cond.initialized RX1, Cond.code yX1_becomeSizeOf cX1_becomeSizeOf 6 none, Cond.fieldLink RX1 9 "DecimalRegisters$Natural" "limbs" "[J", Cond.constantLong RX1 26 (1000000), Cond.methodLink RX1 28 Lib.MathLoose.abs_long.x, Cond.static Lib.MathLoose.abs_long.x, Cond.initialized "java/lang/Math", Cond.code Lib.MathLoose.abs_long.x Lib.MathLoose.abs_long.code 2 (some .long), Cond.fieldLink RX1 13 "DecimalRegisters$Natural" "size" "I", Cond.methodLink RX1 23 yX1_clear, Cond.instanceMethod yX1_clear, Cond.selects RX1 yX1_clear yX1_clear, Cond.code yX1_clear cX1_clear 2 none]
def wsX2_load_r2 : List Cond := [Cond.methodLink RX2 59 yX2_keep, Cond.instanceMethod yX2_keep, Cond.selects RX2 yX2_keep yX2_keep, Cond.code yX2_keep cX2_keep 3 (some .int), Cond.fieldLink RX2 11 "DecimalRegisters" "registers" "[LDecimalRegisters$Decimal;", Cond.methodLink RX2 114 yX1_precision, Cond.instanceMethod yX1_precision, Cond.selects RX1 yX1_precision yX1_precision, Cond.code yX1_precision cX1_precision 2 (some .int), Cond.methodLink RX1 38 Lib.Math.max.name, Cond.static Lib.Math.max.name, Cond.code Lib.Math.max.name Lib.Math.max.code 2 (some .int), Cond.methodLink RX1 34 yX1_figure, Cond.instanceMethod yX1_figure, Cond.selects RX1 yX1_figure yX1_figure, Cond.code yX1_figure cX1_figure 3 (some .int), Cond.fieldLink RX1 42 "DecimalRegisters$Natural" "TENS" "[J", Cond.constantLong RX1 45 (10), Cond.methodLink RX2 150 yX2_isScale, Cond.static yX2_isScale, Cond.code yX2_isScale cX2_isScale 1 (some .boolean), Cond.methodLink RX2 63 yX0_become, Cond.instanceMethod yX0_become, Cond.selects RX0 yX0_become yX0_become]
def wsX2_load_r3 : List Cond := [Cond.initialized RX0, Cond.code yX0_become cX0_become 2 none, Cond.fieldLink RX0 10 "DecimalRegisters$Decimal" "digits" "LDecimalRegisters$Natural;", Cond.fieldLink RX0 16 "DecimalRegisters$Decimal" "minus" "Z", Cond.fieldLink RX0 20 "DecimalRegisters$Decimal" "scale" "I", Cond.methodLink RX0 24 yX0_take, Cond.instanceMethod yX0_take, Cond.selects RX0 yX0_take yX0_take, Cond.code yX0_take cX0_take 4 none, Cond.methodLink RX0 28 yX1_become, Cond.instanceMethod yX1_become, Cond.selects RX1 yX1_become yX1_become, Cond.code yX1_become cX1_become 2 none, Cond.methodLink RX1 17 arraycopyName, Cond.native arraycopyName, Cond.static arraycopyName, Cond.initialized "java/lang/System", Cond.methodLink RX0 32 yX1_isZero, Cond.instanceMethod yX1_isZero, Cond.selects RX1 yX1_isZero yX1_isZero, Cond.code yX1_isZero cX1_isZero 1 (some .boolean)]
def wsX2_load : List Cond := .code yX2_load cX2_load 5 (some .int) :: ((wsX2_load_r1 ++ (wsX2_load_r2 ++ wsX2_load_r3)) ++ wsX20 ++ wsX00 ++ wsX10)
def wsX2_push_r1 : List Cond := [Cond.fieldLink RX2 16 "DecimalRegisters" "result" "LDecimalRegisters$Decimal;", Cond.fieldLink RX2 11 "DecimalRegisters" "registers" "[LDecimalRegisters$Decimal;", Cond.fieldLink RX2 23 "DecimalRegisters$Decimal" "digits" "LDecimalRegisters$Natural;", Cond.fieldLink RX2 34 "DecimalRegisters" "top" "LDecimalRegisters$Natural;", Cond.constantLong RX2 71 (1000000000000000000), Cond.methodLink RX2 48 yX2_isRegister, Cond.static yX2_isRegister, Cond.initialized RX2, Cond.code yX2_isRegister cX2_isRegister 1 (some .boolean), Cond.methodLink RX2 63 yX0_become, Cond.instanceMethod yX0_become, Cond.selects RX0 yX0_become yX0_become, Cond.initialized RX0, Cond.code yX0_become cX0_become 2 none, Cond.fieldLink RX0 10 "DecimalRegisters$Decimal" "digits" "LDecimalRegisters$Natural;", Cond.fieldLink RX0 16 "DecimalRegisters$Decimal" "minus" "Z", Cond.fieldLink RX0 20 "DecimalRegisters$Decimal" "scale" "I", Cond.methodLink RX0 24 yX0_take, Cond.instanceMethod yX0_take, Cond.selects RX0 yX0_take yX0_take, Cond.code yX0_take cX0_take 4 none, Cond.methodLink RX0 28 yX1_become, Cond.instanceMethod yX1_become, Cond.selects RX1 yX1_become yX1_become]
def wsX2_push_r2 : List Cond := [Cond.initialized RX1, Cond.code yX1_become cX1_become 2 none, Cond.fieldLink RX1 9 "DecimalRegisters$Natural" "limbs" "[J", Cond.methodLink RX1 17 arraycopyName, Cond.native arraycopyName, Cond.static arraycopyName, Cond.initialized "java/lang/System", Cond.fieldLink RX1 13 "DecimalRegisters$Natural" "size" "I", Cond.methodLink RX0 32 yX1_isZero, Cond.instanceMethod yX1_isZero, Cond.selects RX1 yX1_isZero yX1_isZero, Cond.code yX1_isZero cX1_isZero 1 (some .boolean), Cond.methodLink RX2 67 yX1_raise, Cond.instanceMethod yX1_raise, Cond.selects RX1 yX1_raise yX1_raise, Cond.code yX1_raise cX1_raise 10 none, Cond.fieldLink RX1 42 "DecimalRegisters$Natural" "TENS" "[J", Cond.constantLong RX1 26 (1000000), Cond.methodLink RX1 47 yX1_close, Cond.instanceMethod yX1_close, Cond.selects RX1 yX1_close yX1_close, Cond.code yX1_close cX1_close 4 none, Cond.methodLink RX1 54 yX1_shift, Cond.instanceMethod yX1_shift]
def wsX2_push_r3 : List Cond := [Cond.selects RX1 yX1_shift yX1_shift, Cond.code yX1_shift cX1_shift 3 none, Cond.methodLink RX2 27 yX1_becomeSizeOf, Cond.instanceMethod yX1_becomeSizeOf, Cond.selects RX1 yX1_becomeSizeOf yX1_becomeSizeOf, Cond.code yX1_becomeSizeOf cX1_becomeSizeOf 6 none, Cond.methodLink RX1 28 Lib.MathLoose.abs_long.x, Cond.static Lib.MathLoose.abs_long.x, Cond.initialized "java/lang/Math", Cond.code Lib.MathLoose.abs_long.x Lib.MathLoose.abs_long.code 2 (some .long), Cond.methodLink RX1 23 yX1_clear, Cond.instanceMethod yX1_clear, Cond.selects RX1 yX1_clear yX1_clear, Cond.code yX1_clear cX1_clear 2 none, Cond.methodLink RX2 73 yX1_add, Cond.instanceMethod yX1_add, Cond.selects RX1 yX1_add yX1_add, Cond.code yX1_add cX1_add 8 none, Cond.methodLink RX1 38 Lib.Math.max.name, Cond.static Lib.Math.max.name, Cond.code Lib.Math.max.name Lib.Math.max.code 2 (some .int), Cond.methodLink RX2 59 yX2_keep, Cond.instanceMethod yX2_keep, Cond.selects RX2 yX2_keep yX2_keep]
def wsX2_push_r4 : List Cond := [Cond.code yX2_keep cX2_keep 3 (some .int), Cond.fieldLink RX2 56 "DecimalRegisters$Decimal" "scale" "I", Cond.methodLink RX2 114 yX1_precision, Cond.instanceMethod yX1_precision, Cond.selects RX1 yX1_precision yX1_precision, Cond.code yX1_precision cX1_precision 2 (some .int), Cond.methodLink RX1 34 yX1_figure, Cond.instanceMethod yX1_figure, Cond.selects RX1 yX1_figure yX1_figure, Cond.code yX1_figure cX1_figure 3 (some .int), Cond.constantLong RX1 45 (10), Cond.methodLink RX2 150 yX2_isScale, Cond.static yX2_isScale, Cond.code yX2_isScale cX2_isScale 1 (some .boolean)]
def wsX2_push : List Cond := .code yX2_push cX2_push 4 (some .int) :: ((wsX2_push_r1 ++ (wsX2_push_r2 ++ (wsX2_push_r3 ++ wsX2_push_r4))) ++ wsX20 ++ wsX00 ++ wsX10)
def wsX2_align_r1 : List Cond := [Cond.fieldLink RX2 56 "DecimalRegisters$Decimal" "scale" "I", Cond.fieldLink RX2 34 "DecimalRegisters" "top" "LDecimalRegisters$Natural;", Cond.fieldLink RX2 23 "DecimalRegisters$Decimal" "digits" "LDecimalRegisters$Natural;", Cond.fieldLink RX2 37 "DecimalRegisters" "bottom" "LDecimalRegisters$Natural;", Cond.methodLink RX2 153 yX1_become, Cond.instanceMethod yX1_become, Cond.selects RX1 yX1_become yX1_become, Cond.initialized RX1, Cond.code yX1_become cX1_become 2 none, Cond.fieldLink RX1 9 "DecimalRegisters$Natural" "limbs" "[J", Cond.methodLink RX1 17 arraycopyName, Cond.native arraycopyName, Cond.static arraycopyName, Cond.initialized "java/lang/System", Cond.fieldLink RX1 13 "DecimalRegisters$Natural" "size" "I", Cond.methodLink RX2 67 yX1_raise, Cond.instanceMethod yX1_raise, Cond.selects RX1 yX1_raise yX1_raise, Cond.code yX1_raise cX1_raise 10 none, Cond.fieldLink RX1 42 "DecimalRegisters$Natural" "TENS" "[J", Cond.constantLong RX1 26 (1000000), Cond.methodLink RX1 47 yX1_close, Cond.instanceMethod yX1_close, Cond.selects RX1 yX1_close yX1_close]
def wsX2_align_r2 : List Cond := [Cond.code yX1_close cX1_close 4 none, Cond.methodLink RX1 54 yX1_shift, Cond.instanceMethod yX1_shift, Cond.selects RX1 yX1_shift yX1_shift, Cond.code yX1_shift cX1_shift 3 none]
def wsX2_align : List Cond := .code yX2_align cX2_align 5 none :: ((wsX2_align_r1 ++ wsX2_align_r2) ++ wsX00 ++ wsX20 ++ wsX10)
def wsX2_addUp_r1 : List Cond := [Cond.fieldLink RX2 56 "DecimalRegisters$Decimal" "scale" "I", Cond.methodLink RX2 100 Lib.Math.max.name, Cond.static Lib.Math.max.name, Cond.initialized "java/lang/Math", Cond.code Lib.Math.max.name Lib.Math.max.code 2 (some .int), Cond.fieldLink RX2 52 "DecimalRegisters$Decimal" "minus" "Z", Cond.fieldLink RX2 34 "DecimalRegisters" "top" "LDecimalRegisters$Natural;", Cond.fieldLink RX2 37 "DecimalRegisters" "bottom" "LDecimalRegisters$Natural;", Cond.fieldLink RX2 16 "DecimalRegisters" "result" "LDecimalRegisters$Decimal;", Cond.methodLink RX2 155 yX2_align, Cond.instanceMethod yX2_align, Cond.selects RX2 yX2_align yX2_align, Cond.initialized RX2, Cond.code yX2_align cX2_align 5 none, Cond.fieldLink RX2 23 "DecimalRegisters$Decimal" "digits" "LDecimalRegisters$Natural;", Cond.methodLink RX2 153 yX1_become, Cond.instanceMethod yX1_become, Cond.selects RX1 yX1_become yX1_become, Cond.initialized RX1, Cond.code yX1_become cX1_become 2 none, Cond.fieldLink RX1 9 "DecimalRegisters$Natural" "limbs" "[J", Cond.methodLink RX1 17 arraycopyName, Cond.native arraycopyName, Cond.static arraycopyName]
def wsX2_addUp_r2 : List Cond := [Cond.initialized "java/lang/System", Cond.fieldLink RX1 13 "DecimalRegisters$Natural" "size" "I", Cond.methodLink RX2 67 yX1_raise, Cond.instanceMethod yX1_raise, Cond.selects RX1 yX1_raise yX1_raise, Cond.code yX1_raise cX1_raise 10 none, Cond.fieldLink RX1 42 "DecimalRegisters$Natural" "TENS" "[J", Cond.constantLong RX1 26 (1000000), Cond.methodLink RX1 47 yX1_close, Cond.instanceMethod yX1_close, Cond.selects RX1 yX1_close yX1_close, Cond.code yX1_close cX1_close 4 none, Cond.methodLink RX1 54 yX1_shift, Cond.instanceMethod yX1_shift, Cond.selects RX1 yX1_shift yX1_shift, Cond.code yX1_shift cX1_shift 3 none, Cond.methodLink RX2 73 yX1_add, Cond.instanceMethod yX1_add, Cond.selects RX1 yX1_add yX1_add, Cond.code yX1_add cX1_add 8 none, Cond.methodLink RX1 38 Lib.Math.max.name, Cond.methodLink RX2 110 yX0_take, Cond.instanceMethod yX0_take, Cond.selects RX0 yX0_take yX0_take]
def wsX2_addUp_r3 : List Cond := [Cond.initialized RX0, Cond.code yX0_take cX0_take 4 none, Cond.fieldLink RX0 10 "DecimalRegisters$Decimal" "digits" "LDecimalRegisters$Natural;", Cond.fieldLink RX0 16 "DecimalRegisters$Decimal" "minus" "Z", Cond.fieldLink RX0 20 "DecimalRegisters$Decimal" "scale" "I", Cond.methodLink RX0 28 yX1_become, Cond.methodLink RX0 32 yX1_isZero, Cond.instanceMethod yX1_isZero, Cond.selects RX1 yX1_isZero yX1_isZero, Cond.code yX1_isZero cX1_isZero 1 (some .boolean), Cond.methodLink RX2 127 yX1_order, Cond.instanceMethod yX1_order, Cond.selects RX1 yX1_order yX1_order, Cond.code yX1_order cX1_order 3 (some .int), Cond.methodLink RX2 169 yX1_subtract, Cond.instanceMethod yX1_subtract, Cond.selects RX1 yX1_subtract yX1_subtract, Cond.code yX1_subtract cX1_subtract 7 none, Cond.methodLink RX1 51 yX1_shrink, Cond.instanceMethod yX1_shrink, Cond.selects RX1 yX1_shrink yX1_shrink, Cond.code yX1_shrink cX1_shrink 1 none]
def wsX2_addUp : List Cond := .code yX2_addUp cX2_addUp 5 none :: ((wsX2_addUp_r1 ++ (wsX2_addUp_r2 ++ wsX2_addUp_r3)) ++ wsX00 ++ wsX20 ++ wsX10)
def wsX2_multiply_r1 : List Cond := [Cond.fieldLink RX2 34 "DecimalRegisters" "top" "LDecimalRegisters$Natural;", Cond.fieldLink RX2 23 "DecimalRegisters$Decimal" "digits" "LDecimalRegisters$Natural;", Cond.fieldLink RX2 16 "DecimalRegisters" "result" "LDecimalRegisters$Decimal;", Cond.fieldLink RX2 52 "DecimalRegisters$Decimal" "minus" "Z", Cond.fieldLink RX2 56 "DecimalRegisters$Decimal" "scale" "I", Cond.methodLink RX2 172 yX1_becomeProduct, Cond.instanceMethod yX1_becomeProduct, Cond.selects RX1 yX1_becomeProduct yX1_becomeProduct, Cond.initialized RX1, Cond.code yX1_becomeProduct cX1_becomeProduct 9 none, Cond.fieldLink RX1 13 "DecimalRegisters$Natural" "size" "I", Cond.fieldLink RX1 9 "DecimalRegisters$Natural" "limbs" "[J", Cond.constantLong RX1 26 (1000000), Cond.methodLink RX1 23 yX1_clear, Cond.instanceMethod yX1_clear, Cond.selects RX1 yX1_clear yX1_clear, Cond.code yX1_clear cX1_clear 2 none, Cond.methodLink RX1 51 yX1_shrink, Cond.instanceMethod yX1_shrink, Cond.selects RX1 yX1_shrink yX1_shrink, Cond.code yX1_shrink cX1_shrink 1 none, Cond.methodLink RX2 110 yX0_take, Cond.instanceMethod yX0_take, Cond.selects RX0 yX0_take yX0_take]
def wsX2_multiply_r2 : List Cond := [Cond.initialized RX0, Cond.code yX0_take cX0_take 4 none, Cond.fieldLink RX0 10 "DecimalRegisters$Decimal" "digits" "LDecimalRegisters$Natural;", Cond.fieldLink RX0 16 "DecimalRegisters$Decimal" "minus" "Z", Cond.fieldLink RX0 20 "DecimalRegisters$Decimal" "scale" "I", Cond.methodLink RX0 28 yX1_become, Cond.instanceMethod yX1_become, Cond.selects RX1 yX1_become yX1_become, Cond.code yX1_become cX1_become 2 none, Cond.methodLink RX1 17 arraycopyName, Cond.native arraycopyName, Cond.static arraycopyName, Cond.initialized "java/lang/System", Cond.methodLink RX0 32 yX1_isZero, Cond.instanceMethod yX1_isZero, Cond.selects RX1 yX1_isZero yX1_isZero, Cond.code yX1_isZero cX1_isZero 1 (some .boolean)]
def wsX2_multiply : List Cond := .code yX2_multiply cX2_multiply 3 none :: ((wsX2_multiply_r1 ++ wsX2_multiply_r2) ++ wsX20 ++ wsX00 ++ wsX10)
def wsX2_order_r1 : List Cond := [Cond.fieldLink RX2 52 "DecimalRegisters$Decimal" "minus" "Z", Cond.fieldLink RX2 37 "DecimalRegisters" "bottom" "LDecimalRegisters$Natural;", Cond.fieldLink RX2 34 "DecimalRegisters" "top" "LDecimalRegisters$Natural;", Cond.methodLink RX2 130 yX0_sign, Cond.instanceMethod yX0_sign, Cond.selects RX0 yX0_sign yX0_sign, Cond.initialized RX0, Cond.code yX0_sign cX0_sign 1 (some .int), Cond.fieldLink RX0 10 "DecimalRegisters$Decimal" "digits" "LDecimalRegisters$Natural;", Cond.fieldLink RX0 16 "DecimalRegisters$Decimal" "minus" "Z", Cond.methodLink RX0 32 yX1_isZero, Cond.instanceMethod yX1_isZero, Cond.selects RX1 yX1_isZero yX1_isZero, Cond.initialized RX1, Cond.code yX1_isZero cX1_isZero 1 (some .boolean), Cond.fieldLink RX1 13 "DecimalRegisters$Natural" "size" "I", Cond.methodLink RX2 155 yX2_align, Cond.instanceMethod yX2_align, Cond.selects RX2 yX2_align yX2_align, Cond.initialized RX2, Cond.code yX2_align cX2_align 5 none, Cond.fieldLink RX2 56 "DecimalRegisters$Decimal" "scale" "I", Cond.fieldLink RX2 23 "DecimalRegisters$Decimal" "digits" "LDecimalRegisters$Natural;", Cond.methodLink RX2 153 yX1_become]
def wsX2_order_r2 : List Cond := [Cond.instanceMethod yX1_become, Cond.selects RX1 yX1_become yX1_become, Cond.code yX1_become cX1_become 2 none, Cond.fieldLink RX1 9 "DecimalRegisters$Natural" "limbs" "[J", Cond.methodLink RX1 17 arraycopyName, Cond.native arraycopyName, Cond.static arraycopyName, Cond.initialized "java/lang/System", Cond.methodLink RX2 67 yX1_raise, Cond.instanceMethod yX1_raise, Cond.selects RX1 yX1_raise yX1_raise, Cond.code yX1_raise cX1_raise 10 none, Cond.fieldLink RX1 42 "DecimalRegisters$Natural" "TENS" "[J", Cond.constantLong RX1 26 (1000000), Cond.methodLink RX1 47 yX1_close, Cond.instanceMethod yX1_close, Cond.selects RX1 yX1_close yX1_close, Cond.code yX1_close cX1_close 4 none, Cond.methodLink RX1 54 yX1_shift, Cond.instanceMethod yX1_shift, Cond.selects RX1 yX1_shift yX1_shift, Cond.code yX1_shift cX1_shift 3 none, Cond.methodLink RX2 127 yX1_order, Cond.instanceMethod yX1_order]
def wsX2_order_r3 : List Cond := [Cond.selects RX1 yX1_order yX1_order, Cond.code yX1_order cX1_order 3 (some .int)]
def wsX2_order : List Cond := .code yX2_order cX2_order 3 (some .int) :: ((wsX2_order_r1 ++ (wsX2_order_r2 ++ wsX2_order_r3)) ++ wsX00 ++ wsX20 ++ wsX10)
def wsX2_reckon_r1 : List Cond := [Cond.fieldLink RX2 11 "DecimalRegisters" "registers" "[LDecimalRegisters$Decimal;", Cond.fieldLink RX2 52 "DecimalRegisters$Decimal" "minus" "Z", Cond.fieldLink RX2 16 "DecimalRegisters" "result" "LDecimalRegisters$Decimal;", Cond.methodLink RX2 48 yX2_isRegister, Cond.static yX2_isRegister, Cond.initialized RX2, Cond.code yX2_isRegister cX2_isRegister 1 (some .boolean), Cond.methodLink RX2 77 yX2_addUp, Cond.instanceMethod yX2_addUp, Cond.selects RX2 yX2_addUp yX2_addUp, Cond.code yX2_addUp cX2_addUp 5 none, Cond.fieldLink RX2 56 "DecimalRegisters$Decimal" "scale" "I", Cond.methodLink RX2 100 Lib.Math.max.name, Cond.static Lib.Math.max.name, Cond.initialized "java/lang/Math", Cond.code Lib.Math.max.name Lib.Math.max.code 2 (some .int), Cond.fieldLink RX2 34 "DecimalRegisters" "top" "LDecimalRegisters$Natural;", Cond.fieldLink RX2 37 "DecimalRegisters" "bottom" "LDecimalRegisters$Natural;", Cond.methodLink RX2 155 yX2_align, Cond.instanceMethod yX2_align, Cond.selects RX2 yX2_align yX2_align, Cond.code yX2_align cX2_align 5 none, Cond.fieldLink RX2 23 "DecimalRegisters$Decimal" "digits" "LDecimalRegisters$Natural;", Cond.methodLink RX2 153 yX1_become]
def wsX2_reckon_r2 : List Cond := [Cond.instanceMethod yX1_become, Cond.selects RX1 yX1_become yX1_become, Cond.initialized RX1, Cond.code yX1_become cX1_become 2 none, Cond.fieldLink RX1 9 "DecimalRegisters$Natural" "limbs" "[J", Cond.methodLink RX1 17 arraycopyName, Cond.native arraycopyName, Cond.static arraycopyName, Cond.initialized "java/lang/System", Cond.fieldLink RX1 13 "DecimalRegisters$Natural" "size" "I", Cond.methodLink RX2 67 yX1_raise, Cond.instanceMethod yX1_raise, Cond.selects RX1 yX1_raise yX1_raise, Cond.code yX1_raise cX1_raise 10 none, Cond.fieldLink RX1 42 "DecimalRegisters$Natural" "TENS" "[J", Cond.constantLong RX1 26 (1000000), Cond.methodLink RX1 47 yX1_close, Cond.instanceMethod yX1_close, Cond.selects RX1 yX1_close yX1_close, Cond.code yX1_close cX1_close 4 none, Cond.methodLink RX1 54 yX1_shift, Cond.instanceMethod yX1_shift, Cond.selects RX1 yX1_shift yX1_shift, Cond.code yX1_shift cX1_shift 3 none]
def wsX2_reckon_r3 : List Cond := [Cond.methodLink RX2 73 yX1_add, Cond.instanceMethod yX1_add, Cond.selects RX1 yX1_add yX1_add, Cond.code yX1_add cX1_add 8 none, Cond.methodLink RX1 38 Lib.Math.max.name, Cond.methodLink RX2 110 yX0_take, Cond.instanceMethod yX0_take, Cond.selects RX0 yX0_take yX0_take, Cond.initialized RX0, Cond.code yX0_take cX0_take 4 none, Cond.fieldLink RX0 10 "DecimalRegisters$Decimal" "digits" "LDecimalRegisters$Natural;", Cond.fieldLink RX0 16 "DecimalRegisters$Decimal" "minus" "Z", Cond.fieldLink RX0 20 "DecimalRegisters$Decimal" "scale" "I", Cond.methodLink RX0 28 yX1_become, Cond.methodLink RX0 32 yX1_isZero, Cond.instanceMethod yX1_isZero, Cond.selects RX1 yX1_isZero yX1_isZero, Cond.code yX1_isZero cX1_isZero 1 (some .boolean), Cond.methodLink RX2 127 yX1_order, Cond.instanceMethod yX1_order, Cond.selects RX1 yX1_order yX1_order, Cond.code yX1_order cX1_order 3 (some .int), Cond.methodLink RX2 169 yX1_subtract, Cond.instanceMethod yX1_subtract]
def wsX2_reckon_r4 : List Cond := [Cond.selects RX1 yX1_subtract yX1_subtract, Cond.code yX1_subtract cX1_subtract 7 none, Cond.methodLink RX1 51 yX1_shrink, Cond.instanceMethod yX1_shrink, Cond.selects RX1 yX1_shrink yX1_shrink, Cond.code yX1_shrink cX1_shrink 1 none, Cond.methodLink RX2 81 yX2_multiply, Cond.instanceMethod yX2_multiply, Cond.selects RX2 yX2_multiply yX2_multiply, Cond.code yX2_multiply cX2_multiply 3 none, Cond.methodLink RX2 172 yX1_becomeProduct, Cond.instanceMethod yX1_becomeProduct, Cond.selects RX1 yX1_becomeProduct yX1_becomeProduct, Cond.code yX1_becomeProduct cX1_becomeProduct 9 none, Cond.methodLink RX1 23 yX1_clear, Cond.instanceMethod yX1_clear, Cond.selects RX1 yX1_clear yX1_clear, Cond.code yX1_clear cX1_clear 2 none, Cond.methodLink RX2 85 yX2_order, Cond.instanceMethod yX2_order, Cond.selects RX2 yX2_order yX2_order, Cond.code yX2_order cX2_order 3 (some .int), Cond.methodLink RX2 130 yX0_sign, Cond.instanceMethod yX0_sign]
def wsX2_reckon_r5 : List Cond := [Cond.selects RX0 yX0_sign yX0_sign, Cond.code yX0_sign cX0_sign 1 (some .int), Cond.methodLink RX2 63 yX0_become, Cond.instanceMethod yX0_become, Cond.selects RX0 yX0_become yX0_become, Cond.code yX0_become cX0_become 2 none, Cond.methodLink RX0 24 yX0_take, Cond.methodLink RX2 59 yX2_keep, Cond.instanceMethod yX2_keep, Cond.selects RX2 yX2_keep yX2_keep, Cond.code yX2_keep cX2_keep 3 (some .int), Cond.methodLink RX2 114 yX1_precision, Cond.instanceMethod yX1_precision, Cond.selects RX1 yX1_precision yX1_precision, Cond.code yX1_precision cX1_precision 2 (some .int), Cond.methodLink RX1 34 yX1_figure, Cond.instanceMethod yX1_figure, Cond.selects RX1 yX1_figure yX1_figure, Cond.code yX1_figure cX1_figure 3 (some .int), Cond.constantLong RX1 45 (10), Cond.methodLink RX2 150 yX2_isScale, Cond.static yX2_isScale, Cond.code yX2_isScale cX2_isScale 1 (some .boolean)]
def wsX2_reckon : List Cond := .code yX2_reckon cX2_reckon 7 (some .int) :: ((wsX2_reckon_r1 ++ (wsX2_reckon_r2 ++ (wsX2_reckon_r3 ++ (wsX2_reckon_r4 ++ wsX2_reckon_r5)))) ++ wsX20 ++ wsX00 ++ wsX10)
def wsX2_isWay : List Cond := .code yX2_isWay cX2_isWay 1 (some .boolean) :: ([])
def wsX2_split_r1 : List Cond := [Cond.fieldLink RX2 34 "DecimalRegisters" "top" "LDecimalRegisters$Natural;", Cond.fieldLink RX2 37 "DecimalRegisters" "bottom" "LDecimalRegisters$Natural;", Cond.fieldLink RX2 16 "DecimalRegisters" "result" "LDecimalRegisters$Decimal;", Cond.fieldLink RX2 23 "DecimalRegisters$Decimal" "digits" "LDecimalRegisters$Natural;", Cond.fieldLink RX2 52 "DecimalRegisters$Decimal" "minus" "Z", Cond.fieldLink RX2 56 "DecimalRegisters$Decimal" "scale" "I", Cond.methodLink RX2 155 yX2_align, Cond.instanceMethod yX2_align, Cond.selects RX2 yX2_align yX2_align, Cond.initialized RX2, Cond.code yX2_align cX2_align 5 none, Cond.methodLink RX2 153 yX1_become, Cond.instanceMethod yX1_become, Cond.selects RX1 yX1_become yX1_become, Cond.initialized RX1, Cond.code yX1_become cX1_become 2 none, Cond.fieldLink RX1 9 "DecimalRegisters$Natural" "limbs" "[J", Cond.methodLink RX1 17 arraycopyName, Cond.native arraycopyName, Cond.static arraycopyName, Cond.initialized "java/lang/System", Cond.fieldLink RX1 13 "DecimalRegisters$Natural" "size" "I", Cond.methodLink RX2 67 yX1_raise, Cond.instanceMethod yX1_raise]
def wsX2_split_r2 : List Cond := [Cond.selects RX1 yX1_raise yX1_raise, Cond.code yX1_raise cX1_raise 10 none, Cond.fieldLink RX1 42 "DecimalRegisters$Natural" "TENS" "[J", Cond.constantLong RX1 26 (1000000), Cond.methodLink RX1 47 yX1_close, Cond.instanceMethod yX1_close, Cond.selects RX1 yX1_close yX1_close, Cond.code yX1_close cX1_close 4 none, Cond.methodLink RX1 54 yX1_shift, Cond.instanceMethod yX1_shift, Cond.selects RX1 yX1_shift yX1_shift, Cond.code yX1_shift cX1_shift 3 none, Cond.methodLink RX2 158 yX1_takeOut, Cond.instanceMethod yX1_takeOut, Cond.selects RX1 yX1_takeOut yX1_takeOut, Cond.code yX1_takeOut cX1_takeOut 7 none, Cond.constantLong RX1 66 (-1), Cond.methodLink RX1 23 yX1_clear, Cond.instanceMethod yX1_clear, Cond.selects RX1 yX1_clear yX1_clear, Cond.code yX1_clear cX1_clear 2 none, Cond.methodLink RX1 58 yX1_guess, Cond.instanceMethod yX1_guess, Cond.selects RX1 yX1_guess yX1_guess]
def wsX2_split_r3 : List Cond := [Cond.code yX1_guess cX1_guess 8 (some .long), Cond.methodLink RX1 62 yX1_takeAway, Cond.instanceMethod yX1_takeAway, Cond.selects RX1 yX1_takeAway yX1_takeAway, Cond.code yX1_takeAway cX1_takeAway 10 none, Cond.methodLink RX1 68 yJ9_floorDiv_f86c9, Cond.static yJ9_floorDiv_f86c9, Cond.initialized RJ9, Cond.code yJ9_floorDiv_f86c9 cJ9_floorDiv_f86c9 6 (some .long), Cond.methodLink RX1 51 yX1_shrink, Cond.instanceMethod yX1_shrink, Cond.selects RX1 yX1_shrink yX1_shrink, Cond.code yX1_shrink cX1_shrink 1 none]
def wsX2_split : List Cond := .code yX2_split cX2_split 4 none :: ((wsX2_split_r1 ++ (wsX2_split_r2 ++ wsX2_split_r3)) ++ wsX20 ++ wsX00 ++ wsX10)
def wsX2_isAwayFromZero : List Cond := .code yX2_isAwayFromZero cX2_isAwayFromZero 3 (some .boolean) :: ([.fieldLink RX2 16 "DecimalRegisters" "result" "LDecimalRegisters$Decimal;", .fieldLink RX2 52 "DecimalRegisters$Decimal" "minus" "Z", .fieldLink RX2 23 "DecimalRegisters$Decimal" "digits" "LDecimalRegisters$Natural;", .methodLink RX2 133 yX1_figure, .instanceMethod yX1_figure, .selects RX1 yX1_figure yX1_figure, .initialized RX1, .code yX1_figure cX1_figure 3 (some .int), .fieldLink RX1 13 "DecimalRegisters$Natural" "size" "I", .fieldLink RX1 9 "DecimalRegisters$Natural" "limbs" "[J", .fieldLink RX1 42 "DecimalRegisters$Natural" "TENS" "[J", .constantLong RX1 45 (10)] ++ wsX20 ++ wsX00 ++ wsX10)
def wsX2_settle_r1 : List Cond := [Cond.fieldLink RX2 34 "DecimalRegisters" "top" "LDecimalRegisters$Natural;", Cond.fieldLink RX2 37 "DecimalRegisters" "bottom" "LDecimalRegisters$Natural;", Cond.fieldLink RX2 16 "DecimalRegisters" "result" "LDecimalRegisters$Decimal;", Cond.fieldLink RX2 23 "DecimalRegisters$Decimal" "digits" "LDecimalRegisters$Natural;", Cond.fieldLink RX2 20 "DecimalRegisters" "one" "LDecimalRegisters$Decimal;", Cond.methodLink RX2 92 yX1_isZero, Cond.instanceMethod yX1_isZero, Cond.selects RX1 yX1_isZero yX1_isZero, Cond.initialized RX1, Cond.code yX1_isZero cX1_isZero 1 (some .boolean), Cond.fieldLink RX1 13 "DecimalRegisters$Natural" "size" "I", Cond.methodLink RX2 73 yX1_add, Cond.instanceMethod yX1_add, Cond.selects RX1 yX1_add yX1_add, Cond.code yX1_add cX1_add 8 none, Cond.methodLink RX1 38 Lib.Math.max.name, Cond.static Lib.Math.max.name, Cond.initialized "java/lang/Math", Cond.code Lib.Math.max.name Lib.Math.max.code 2 (some .int), Cond.fieldLink RX1 9 "DecimalRegisters$Natural" "limbs" "[J", Cond.constantLong RX1 26 (1000000), Cond.methodLink RX1 47 yX1_close, Cond.instanceMethod yX1_close, Cond.selects RX1 yX1_close yX1_close]
def wsX2_settle_r2 : List Cond := [Cond.code yX1_close cX1_close 4 none, Cond.methodLink RX2 127 yX1_order, Cond.instanceMethod yX1_order, Cond.selects RX1 yX1_order yX1_order, Cond.code yX1_order cX1_order 3 (some .int), Cond.methodLink RX2 162 yX2_isAwayFromZero, Cond.instanceMethod yX2_isAwayFromZero, Cond.selects RX2 yX2_isAwayFromZero yX2_isAwayFromZero, Cond.initialized RX2, Cond.code yX2_isAwayFromZero cX2_isAwayFromZero 3 (some .boolean), Cond.fieldLink RX2 52 "DecimalRegisters$Decimal" "minus" "Z", Cond.methodLink RX2 133 yX1_figure, Cond.instanceMethod yX1_figure, Cond.selects RX1 yX1_figure yX1_figure, Cond.code yX1_figure cX1_figure 3 (some .int), Cond.fieldLink RX1 42 "DecimalRegisters$Natural" "TENS" "[J", Cond.constantLong RX1 45 (10)]
def wsX2_settle : List Cond := .code yX2_settle cX2_settle 2 (some .boolean) :: ((wsX2_settle_r1 ++ wsX2_settle_r2) ++ wsX20 ++ wsX00 ++ wsX10)
def wsX2_keepQuotient_r1 : List Cond := [Cond.methodLink RX2 150 yX2_isScale, Cond.static yX2_isScale, Cond.initialized RX2, Cond.code yX2_isScale cX2_isScale 1 (some .boolean), Cond.methodLink RX2 106 yX2_split, Cond.instanceMethod yX2_split, Cond.selects RX2 yX2_split yX2_split, Cond.code yX2_split cX2_split 4 none, Cond.fieldLink RX2 34 "DecimalRegisters" "top" "LDecimalRegisters$Natural;", Cond.fieldLink RX2 37 "DecimalRegisters" "bottom" "LDecimalRegisters$Natural;", Cond.fieldLink RX2 16 "DecimalRegisters" "result" "LDecimalRegisters$Decimal;", Cond.fieldLink RX2 23 "DecimalRegisters$Decimal" "digits" "LDecimalRegisters$Natural;", Cond.fieldLink RX2 52 "DecimalRegisters$Decimal" "minus" "Z", Cond.fieldLink RX2 56 "DecimalRegisters$Decimal" "scale" "I", Cond.methodLink RX2 155 yX2_align, Cond.instanceMethod yX2_align, Cond.selects RX2 yX2_align yX2_align, Cond.code yX2_align cX2_align 5 none, Cond.methodLink RX2 153 yX1_become, Cond.instanceMethod yX1_become, Cond.selects RX1 yX1_become yX1_become, Cond.initialized RX1, Cond.code yX1_become cX1_become 2 none, Cond.fieldLink RX1 9 "DecimalRegisters$Natural" "limbs" "[J"]
def wsX2_keepQuotient_r2 : List Cond := [Cond.methodLink RX1 17 arraycopyName, Cond.native arraycopyName, Cond.static arraycopyName, Cond.initialized "java/lang/System", Cond.fieldLink RX1 13 "DecimalRegisters$Natural" "size" "I", Cond.methodLink RX2 67 yX1_raise, Cond.instanceMethod yX1_raise, Cond.selects RX1 yX1_raise yX1_raise, Cond.code yX1_raise cX1_raise 10 none, Cond.fieldLink RX1 42 "DecimalRegisters$Natural" "TENS" "[J", Cond.constantLong RX1 26 (1000000), Cond.methodLink RX1 47 yX1_close, Cond.instanceMethod yX1_close, Cond.selects RX1 yX1_close yX1_close, Cond.code yX1_close cX1_close 4 none, Cond.methodLink RX1 54 yX1_shift, Cond.instanceMethod yX1_shift, Cond.selects RX1 yX1_shift yX1_shift, Cond.code yX1_shift cX1_shift 3 none, Cond.methodLink RX2 158 yX1_takeOut, Cond.instanceMethod yX1_takeOut, Cond.selects RX1 yX1_takeOut yX1_takeOut, Cond.code yX1_takeOut cX1_takeOut 7 none, Cond.constantLong RX1 66 (-1)]
def wsX2_keepQuotient_r3 : List Cond := [Cond.methodLink RX1 23 yX1_clear, Cond.instanceMethod yX1_clear, Cond.selects RX1 yX1_clear yX1_clear, Cond.code yX1_clear cX1_clear 2 none, Cond.methodLink RX1 58 yX1_guess, Cond.instanceMethod yX1_guess, Cond.selects RX1 yX1_guess yX1_guess, Cond.code yX1_guess cX1_guess 8 (some .long), Cond.methodLink RX1 62 yX1_takeAway, Cond.instanceMethod yX1_takeAway, Cond.selects RX1 yX1_takeAway yX1_takeAway, Cond.code yX1_takeAway cX1_takeAway 10 none, Cond.methodLink RX1 68 yJ9_floorDiv_f86c9, Cond.static yJ9_floorDiv_f86c9, Cond.initialized RJ9, Cond.code yJ9_floorDiv_f86c9 cJ9_floorDiv_f86c9 6 (some .long), Cond.methodLink RX1 51 yX1_shrink, Cond.instanceMethod yX1_shrink, Cond.selects RX1 yX1_shrink yX1_shrink, Cond.code yX1_shrink cX1_shrink 1 none, Cond.methodLink RX2 121 yX2_settle, Cond.instanceMethod yX2_settle, Cond.selects RX2 yX2_settle yX2_settle, Cond.code yX2_settle cX2_settle 2 (some .boolean)]
def wsX2_keepQuotient_r4 : List Cond := [Cond.fieldLink RX2 20 "DecimalRegisters" "one" "LDecimalRegisters$Decimal;", Cond.methodLink RX2 92 yX1_isZero, Cond.instanceMethod yX1_isZero, Cond.selects RX1 yX1_isZero yX1_isZero, Cond.code yX1_isZero cX1_isZero 1 (some .boolean), Cond.methodLink RX2 73 yX1_add, Cond.instanceMethod yX1_add, Cond.selects RX1 yX1_add yX1_add, Cond.code yX1_add cX1_add 8 none, Cond.methodLink RX1 38 Lib.Math.max.name, Cond.static Lib.Math.max.name, Cond.initialized "java/lang/Math", Cond.code Lib.Math.max.name Lib.Math.max.code 2 (some .int), Cond.methodLink RX2 127 yX1_order, Cond.instanceMethod yX1_order, Cond.selects RX1 yX1_order yX1_order, Cond.code yX1_order cX1_order 3 (some .int), Cond.methodLink RX2 162 yX2_isAwayFromZero, Cond.instanceMethod yX2_isAwayFromZero, Cond.selects RX2 yX2_isAwayFromZero yX2_isAwayFromZero, Cond.code yX2_isAwayFromZero cX2_isAwayFromZero 3 (some .boolean), Cond.methodLink RX2 133 yX1_figure, Cond.instanceMethod yX1_figure, Cond.selects RX1 yX1_figure yX1_figure]
def wsX2_keepQuotient_r5 : List Cond := [Cond.code yX1_figure cX1_figure 3 (some .int), Cond.constantLong RX1 45 (10), Cond.methodLink RX2 59 yX2_keep, Cond.instanceMethod yX2_keep, Cond.selects RX2 yX2_keep yX2_keep, Cond.code yX2_keep cX2_keep 3 (some .int), Cond.fieldLink RX2 11 "DecimalRegisters" "registers" "[LDecimalRegisters$Decimal;", Cond.methodLink RX2 114 yX1_precision, Cond.instanceMethod yX1_precision, Cond.selects RX1 yX1_precision yX1_precision, Cond.code yX1_precision cX1_precision 2 (some .int), Cond.methodLink RX1 34 yX1_figure, Cond.methodLink RX2 63 yX0_become, Cond.instanceMethod yX0_become, Cond.selects RX0 yX0_become yX0_become, Cond.initialized RX0, Cond.code yX0_become cX0_become 2 none, Cond.fieldLink RX0 10 "DecimalRegisters$Decimal" "digits" "LDecimalRegisters$Natural;", Cond.fieldLink RX0 16 "DecimalRegisters$Decimal" "minus" "Z", Cond.fieldLink RX0 20 "DecimalRegisters$Decimal" "scale" "I", Cond.methodLink RX0 24 yX0_take, Cond.instanceMethod yX0_take, Cond.selects RX0 yX0_take yX0_take, Cond.code yX0_take cX0_take 4 none]
def wsX2_keepQuotient_r6 : List Cond := [Cond.methodLink RX0 28 yX1_become, Cond.methodLink RX0 32 yX1_isZero]
def wsX2_keepQuotient : List Cond := .code yX2_keepQuotient cX2_keepQuotient 6 (some .int) :: ((wsX2_keepQuotient_r1 ++ (wsX2_keepQuotient_r2 ++ (wsX2_keepQuotient_r3 ++ (wsX2_keepQuotient_r4 ++ (wsX2_keepQuotient_r5 ++ wsX2_keepQuotient_r6))))) ++ wsX20 ++ wsX00 ++ wsX10)
def wsX2_divide_r1 : List Cond := [Cond.fieldLink RX2 11 "DecimalRegisters" "registers" "[LDecimalRegisters$Decimal;", Cond.fieldLink RX2 23 "DecimalRegisters$Decimal" "digits" "LDecimalRegisters$Natural;", Cond.methodLink RX2 48 yX2_isRegister, Cond.static yX2_isRegister, Cond.initialized RX2, Cond.code yX2_isRegister cX2_isRegister 1 (some .boolean), Cond.methodLink RX2 89 yX2_isWay, Cond.static yX2_isWay, Cond.code yX2_isWay cX2_isWay 1 (some .boolean), Cond.methodLink RX2 92 yX1_isZero, Cond.instanceMethod yX1_isZero, Cond.selects RX1 yX1_isZero yX1_isZero, Cond.initialized RX1, Cond.code yX1_isZero cX1_isZero 1 (some .boolean), Cond.fieldLink RX1 13 "DecimalRegisters$Natural" "size" "I", Cond.methodLink RX2 96 yX2_keepQuotient, Cond.instanceMethod yX2_keepQuotient, Cond.selects RX2 yX2_keepQuotient yX2_keepQuotient, Cond.code yX2_keepQuotient cX2_keepQuotient 6 (some .int), Cond.methodLink RX2 150 yX2_isScale, Cond.static yX2_isScale, Cond.code yX2_isScale cX2_isScale 1 (some .boolean), Cond.methodLink RX2 106 yX2_split, Cond.instanceMethod yX2_split]
def wsX2_divide_r2 : List Cond := [Cond.selects RX2 yX2_split yX2_split, Cond.code yX2_split cX2_split 4 none, Cond.fieldLink RX2 34 "DecimalRegisters" "top" "LDecimalRegisters$Natural;", Cond.fieldLink RX2 37 "DecimalRegisters" "bottom" "LDecimalRegisters$Natural;", Cond.fieldLink RX2 16 "DecimalRegisters" "result" "LDecimalRegisters$Decimal;", Cond.fieldLink RX2 52 "DecimalRegisters$Decimal" "minus" "Z", Cond.fieldLink RX2 56 "DecimalRegisters$Decimal" "scale" "I", Cond.methodLink RX2 155 yX2_align, Cond.instanceMethod yX2_align, Cond.selects RX2 yX2_align yX2_align, Cond.code yX2_align cX2_align 5 none, Cond.methodLink RX2 153 yX1_become, Cond.instanceMethod yX1_become, Cond.selects RX1 yX1_become yX1_become, Cond.code yX1_become cX1_become 2 none, Cond.fieldLink RX1 9 "DecimalRegisters$Natural" "limbs" "[J", Cond.methodLink RX1 17 arraycopyName, Cond.native arraycopyName, Cond.static arraycopyName, Cond.initialized "java/lang/System", Cond.methodLink RX2 67 yX1_raise, Cond.instanceMethod yX1_raise, Cond.selects RX1 yX1_raise yX1_raise, Cond.code yX1_raise cX1_raise 10 none]
def wsX2_divide_r3 : List Cond := [Cond.fieldLink RX1 42 "DecimalRegisters$Natural" "TENS" "[J", Cond.constantLong RX1 26 (1000000), Cond.methodLink RX1 47 yX1_close, Cond.instanceMethod yX1_close, Cond.selects RX1 yX1_close yX1_close, Cond.code yX1_close cX1_close 4 none, Cond.methodLink RX1 54 yX1_shift, Cond.instanceMethod yX1_shift, Cond.selects RX1 yX1_shift yX1_shift, Cond.code yX1_shift cX1_shift 3 none, Cond.methodLink RX2 158 yX1_takeOut, Cond.instanceMethod yX1_takeOut, Cond.selects RX1 yX1_takeOut yX1_takeOut, Cond.code yX1_takeOut cX1_takeOut 7 none, Cond.constantLong RX1 66 (-1), Cond.methodLink RX1 23 yX1_clear, Cond.instanceMethod yX1_clear, Cond.selects RX1 yX1_clear yX1_clear, Cond.code yX1_clear cX1_clear 2 none, Cond.methodLink RX1 58 yX1_guess, Cond.instanceMethod yX1_guess, Cond.selects RX1 yX1_guess yX1_guess, Cond.code yX1_guess cX1_guess 8 (some .long), Cond.methodLink RX1 62 yX1_takeAway]
def wsX2_divide_r4 : List Cond := [Cond.instanceMethod yX1_takeAway, Cond.selects RX1 yX1_takeAway yX1_takeAway, Cond.code yX1_takeAway cX1_takeAway 10 none, Cond.methodLink RX1 68 yJ9_floorDiv_f86c9, Cond.static yJ9_floorDiv_f86c9, Cond.initialized RJ9, Cond.code yJ9_floorDiv_f86c9 cJ9_floorDiv_f86c9 6 (some .long), Cond.methodLink RX1 51 yX1_shrink, Cond.instanceMethod yX1_shrink, Cond.selects RX1 yX1_shrink yX1_shrink, Cond.code yX1_shrink cX1_shrink 1 none, Cond.methodLink RX2 121 yX2_settle, Cond.instanceMethod yX2_settle, Cond.selects RX2 yX2_settle yX2_settle, Cond.code yX2_settle cX2_settle 2 (some .boolean), Cond.fieldLink RX2 20 "DecimalRegisters" "one" "LDecimalRegisters$Decimal;", Cond.methodLink RX2 73 yX1_add, Cond.instanceMethod yX1_add, Cond.selects RX1 yX1_add yX1_add, Cond.code yX1_add cX1_add 8 none, Cond.methodLink RX1 38 Lib.Math.max.name, Cond.static Lib.Math.max.name, Cond.initialized "java/lang/Math", Cond.code Lib.Math.max.name Lib.Math.max.code 2 (some .int)]
def wsX2_divide_r5 : List Cond := [Cond.methodLink RX2 127 yX1_order, Cond.instanceMethod yX1_order, Cond.selects RX1 yX1_order yX1_order, Cond.code yX1_order cX1_order 3 (some .int), Cond.methodLink RX2 162 yX2_isAwayFromZero, Cond.instanceMethod yX2_isAwayFromZero, Cond.selects RX2 yX2_isAwayFromZero yX2_isAwayFromZero, Cond.code yX2_isAwayFromZero cX2_isAwayFromZero 3 (some .boolean), Cond.methodLink RX2 133 yX1_figure, Cond.instanceMethod yX1_figure, Cond.selects RX1 yX1_figure yX1_figure, Cond.code yX1_figure cX1_figure 3 (some .int), Cond.constantLong RX1 45 (10), Cond.methodLink RX2 59 yX2_keep, Cond.instanceMethod yX2_keep, Cond.selects RX2 yX2_keep yX2_keep, Cond.code yX2_keep cX2_keep 3 (some .int), Cond.methodLink RX2 114 yX1_precision, Cond.instanceMethod yX1_precision, Cond.selects RX1 yX1_precision yX1_precision, Cond.code yX1_precision cX1_precision 2 (some .int), Cond.methodLink RX1 34 yX1_figure, Cond.methodLink RX2 63 yX0_become, Cond.instanceMethod yX0_become]
def wsX2_divide_r6 : List Cond := [Cond.selects RX0 yX0_become yX0_become, Cond.initialized RX0, Cond.code yX0_become cX0_become 2 none, Cond.fieldLink RX0 10 "DecimalRegisters$Decimal" "digits" "LDecimalRegisters$Natural;", Cond.fieldLink RX0 16 "DecimalRegisters$Decimal" "minus" "Z", Cond.fieldLink RX0 20 "DecimalRegisters$Decimal" "scale" "I", Cond.methodLink RX0 24 yX0_take, Cond.instanceMethod yX0_take, Cond.selects RX0 yX0_take yX0_take, Cond.code yX0_take cX0_take 4 none, Cond.methodLink RX0 28 yX1_become, Cond.methodLink RX0 32 yX1_isZero]
def wsX2_divide : List Cond := .code yX2_divide cX2_divide 6 (some .int) :: ((wsX2_divide_r1 ++ (wsX2_divide_r2 ++ (wsX2_divide_r3 ++ (wsX2_divide_r4 ++ (wsX2_divide_r5 ++ wsX2_divide_r6))))) ++ wsX20 ++ wsX00 ++ wsX10)
def wsX2_part_r1 : List Cond := [Cond.fieldLink RX2 11 "DecimalRegisters" "registers" "[LDecimalRegisters$Decimal;", Cond.fieldLink RX2 23 "DecimalRegisters$Decimal" "digits" "LDecimalRegisters$Natural;", Cond.fieldLink RX2 52 "DecimalRegisters$Decimal" "minus" "Z", Cond.fieldLink RX2 56 "DecimalRegisters$Decimal" "scale" "I", Cond.methodLink RX2 100 Lib.Math.max.name, Cond.static Lib.Math.max.name, Cond.initialized "java/lang/Math", Cond.code Lib.Math.max.name Lib.Math.max.code 2 (some .int), Cond.fieldLink RX2 34 "DecimalRegisters" "top" "LDecimalRegisters$Natural;", Cond.methodLink RX2 48 yX2_isRegister, Cond.static yX2_isRegister, Cond.initialized RX2, Cond.code yX2_isRegister cX2_isRegister 1 (some .boolean), Cond.methodLink RX2 92 yX1_isZero, Cond.instanceMethod yX1_isZero, Cond.selects RX1 yX1_isZero yX1_isZero, Cond.initialized RX1, Cond.code yX1_isZero cX1_isZero 1 (some .boolean), Cond.fieldLink RX1 13 "DecimalRegisters$Natural" "size" "I", Cond.methodLink RX2 106 yX2_split, Cond.instanceMethod yX2_split, Cond.selects RX2 yX2_split yX2_split, Cond.code yX2_split cX2_split 4 none, Cond.fieldLink RX2 37 "DecimalRegisters" "bottom" "LDecimalRegisters$Natural;"]
def wsX2_part_r2 : List Cond := [Cond.fieldLink RX2 16 "DecimalRegisters" "result" "LDecimalRegisters$Decimal;", Cond.methodLink RX2 155 yX2_align, Cond.instanceMethod yX2_align, Cond.selects RX2 yX2_align yX2_align, Cond.code yX2_align cX2_align 5 none, Cond.methodLink RX2 153 yX1_become, Cond.instanceMethod yX1_become, Cond.selects RX1 yX1_become yX1_become, Cond.code yX1_become cX1_become 2 none, Cond.fieldLink RX1 9 "DecimalRegisters$Natural" "limbs" "[J", Cond.methodLink RX1 17 arraycopyName, Cond.native arraycopyName, Cond.static arraycopyName, Cond.initialized "java/lang/System", Cond.methodLink RX2 67 yX1_raise, Cond.instanceMethod yX1_raise, Cond.selects RX1 yX1_raise yX1_raise, Cond.code yX1_raise cX1_raise 10 none, Cond.fieldLink RX1 42 "DecimalRegisters$Natural" "TENS" "[J", Cond.constantLong RX1 26 (1000000), Cond.methodLink RX1 47 yX1_close, Cond.instanceMethod yX1_close, Cond.selects RX1 yX1_close yX1_close, Cond.code yX1_close cX1_close 4 none]
def wsX2_part_r3 : List Cond := [Cond.methodLink RX1 54 yX1_shift, Cond.instanceMethod yX1_shift, Cond.selects RX1 yX1_shift yX1_shift, Cond.code yX1_shift cX1_shift 3 none, Cond.methodLink RX2 158 yX1_takeOut, Cond.instanceMethod yX1_takeOut, Cond.selects RX1 yX1_takeOut yX1_takeOut, Cond.code yX1_takeOut cX1_takeOut 7 none, Cond.constantLong RX1 66 (-1), Cond.methodLink RX1 23 yX1_clear, Cond.instanceMethod yX1_clear, Cond.selects RX1 yX1_clear yX1_clear, Cond.code yX1_clear cX1_clear 2 none, Cond.methodLink RX1 58 yX1_guess, Cond.instanceMethod yX1_guess, Cond.selects RX1 yX1_guess yX1_guess, Cond.code yX1_guess cX1_guess 8 (some .long), Cond.methodLink RX1 62 yX1_takeAway, Cond.instanceMethod yX1_takeAway, Cond.selects RX1 yX1_takeAway yX1_takeAway, Cond.code yX1_takeAway cX1_takeAway 10 none, Cond.methodLink RX1 68 yJ9_floorDiv_f86c9, Cond.static yJ9_floorDiv_f86c9, Cond.initialized RJ9]
def wsX2_part_r4 : List Cond := [Cond.code yJ9_floorDiv_f86c9 cJ9_floorDiv_f86c9 6 (some .long), Cond.methodLink RX1 51 yX1_shrink, Cond.instanceMethod yX1_shrink, Cond.selects RX1 yX1_shrink yX1_shrink, Cond.code yX1_shrink cX1_shrink 1 none, Cond.methodLink RX2 59 yX2_keep, Cond.instanceMethod yX2_keep, Cond.selects RX2 yX2_keep yX2_keep, Cond.code yX2_keep cX2_keep 3 (some .int), Cond.methodLink RX2 114 yX1_precision, Cond.instanceMethod yX1_precision, Cond.selects RX1 yX1_precision yX1_precision, Cond.code yX1_precision cX1_precision 2 (some .int), Cond.methodLink RX1 38 Lib.Math.max.name, Cond.methodLink RX1 34 yX1_figure, Cond.instanceMethod yX1_figure, Cond.selects RX1 yX1_figure yX1_figure, Cond.code yX1_figure cX1_figure 3 (some .int), Cond.constantLong RX1 45 (10), Cond.methodLink RX2 150 yX2_isScale, Cond.static yX2_isScale, Cond.code yX2_isScale cX2_isScale 1 (some .boolean), Cond.methodLink RX2 63 yX0_become, Cond.instanceMethod yX0_become]
def wsX2_part_r5 : List Cond := [Cond.selects RX0 yX0_become yX0_become, Cond.initialized RX0, Cond.code yX0_become cX0_become 2 none, Cond.fieldLink RX0 10 "DecimalRegisters$Decimal" "digits" "LDecimalRegisters$Natural;", Cond.fieldLink RX0 16 "DecimalRegisters$Decimal" "minus" "Z", Cond.fieldLink RX0 20 "DecimalRegisters$Decimal" "scale" "I", Cond.methodLink RX0 24 yX0_take, Cond.instanceMethod yX0_take, Cond.selects RX0 yX0_take yX0_take, Cond.code yX0_take cX0_take 4 none, Cond.methodLink RX0 28 yX1_become, Cond.methodLink RX0 32 yX1_isZero, Cond.methodLink RX2 110 yX0_take]
def wsX2_part : List Cond := .code yX2_part cX2_part 10 (some .int) :: ((wsX2_part_r1 ++ (wsX2_part_r2 ++ (wsX2_part_r3 ++ (wsX2_part_r4 ++ wsX2_part_r5)))) ++ wsX20 ++ wsX00 ++ wsX10)
def wsX2_scale_r1 : List Cond := [Cond.fieldLink RX2 11 "DecimalRegisters" "registers" "[LDecimalRegisters$Decimal;", Cond.fieldLink RX2 20 "DecimalRegisters" "one" "LDecimalRegisters$Decimal;", Cond.methodLink RX2 48 yX2_isRegister, Cond.static yX2_isRegister, Cond.initialized RX2, Cond.code yX2_isRegister cX2_isRegister 1 (some .boolean), Cond.methodLink RX2 89 yX2_isWay, Cond.static yX2_isWay, Cond.code yX2_isWay cX2_isWay 1 (some .boolean), Cond.methodLink RX2 96 yX2_keepQuotient, Cond.instanceMethod yX2_keepQuotient, Cond.selects RX2 yX2_keepQuotient yX2_keepQuotient, Cond.code yX2_keepQuotient cX2_keepQuotient 6 (some .int), Cond.methodLink RX2 150 yX2_isScale, Cond.static yX2_isScale, Cond.code yX2_isScale cX2_isScale 1 (some .boolean), Cond.methodLink RX2 106 yX2_split, Cond.instanceMethod yX2_split, Cond.selects RX2 yX2_split yX2_split, Cond.code yX2_split cX2_split 4 none, Cond.fieldLink RX2 34 "DecimalRegisters" "top" "LDecimalRegisters$Natural;", Cond.fieldLink RX2 37 "DecimalRegisters" "bottom" "LDecimalRegisters$Natural;", Cond.fieldLink RX2 16 "DecimalRegisters" "result" "LDecimalRegisters$Decimal;", Cond.fieldLink RX2 23 "DecimalRegisters$Decimal" "digits" "LDecimalRegisters$Natural;"]
def wsX2_scale_r2 : List Cond := [Cond.fieldLink RX2 52 "DecimalRegisters$Decimal" "minus" "Z", Cond.fieldLink RX2 56 "DecimalRegisters$Decimal" "scale" "I", Cond.methodLink RX2 155 yX2_align, Cond.instanceMethod yX2_align, Cond.selects RX2 yX2_align yX2_align, Cond.code yX2_align cX2_align 5 none, Cond.methodLink RX2 153 yX1_become, Cond.instanceMethod yX1_become, Cond.selects RX1 yX1_become yX1_become, Cond.initialized RX1, Cond.code yX1_become cX1_become 2 none, Cond.fieldLink RX1 9 "DecimalRegisters$Natural" "limbs" "[J", Cond.methodLink RX1 17 arraycopyName, Cond.native arraycopyName, Cond.static arraycopyName, Cond.initialized "java/lang/System", Cond.fieldLink RX1 13 "DecimalRegisters$Natural" "size" "I", Cond.methodLink RX2 67 yX1_raise, Cond.instanceMethod yX1_raise, Cond.selects RX1 yX1_raise yX1_raise, Cond.code yX1_raise cX1_raise 10 none, Cond.fieldLink RX1 42 "DecimalRegisters$Natural" "TENS" "[J", Cond.constantLong RX1 26 (1000000), Cond.methodLink RX1 47 yX1_close]
def wsX2_scale_r3 : List Cond := [Cond.instanceMethod yX1_close, Cond.selects RX1 yX1_close yX1_close, Cond.code yX1_close cX1_close 4 none, Cond.methodLink RX1 54 yX1_shift, Cond.instanceMethod yX1_shift, Cond.selects RX1 yX1_shift yX1_shift, Cond.code yX1_shift cX1_shift 3 none, Cond.methodLink RX2 158 yX1_takeOut, Cond.instanceMethod yX1_takeOut, Cond.selects RX1 yX1_takeOut yX1_takeOut, Cond.code yX1_takeOut cX1_takeOut 7 none, Cond.constantLong RX1 66 (-1), Cond.methodLink RX1 23 yX1_clear, Cond.instanceMethod yX1_clear, Cond.selects RX1 yX1_clear yX1_clear, Cond.code yX1_clear cX1_clear 2 none, Cond.methodLink RX1 58 yX1_guess, Cond.instanceMethod yX1_guess, Cond.selects RX1 yX1_guess yX1_guess, Cond.code yX1_guess cX1_guess 8 (some .long), Cond.methodLink RX1 62 yX1_takeAway, Cond.instanceMethod yX1_takeAway, Cond.selects RX1 yX1_takeAway yX1_takeAway, Cond.code yX1_takeAway cX1_takeAway 10 none]
def wsX2_scale_r4 : List Cond := [Cond.methodLink RX1 68 yJ9_floorDiv_f86c9, Cond.static yJ9_floorDiv_f86c9, Cond.initialized RJ9, Cond.code yJ9_floorDiv_f86c9 cJ9_floorDiv_f86c9 6 (some .long), Cond.methodLink RX1 51 yX1_shrink, Cond.instanceMethod yX1_shrink, Cond.selects RX1 yX1_shrink yX1_shrink, Cond.code yX1_shrink cX1_shrink 1 none, Cond.methodLink RX2 121 yX2_settle, Cond.instanceMethod yX2_settle, Cond.selects RX2 yX2_settle yX2_settle, Cond.code yX2_settle cX2_settle 2 (some .boolean), Cond.methodLink RX2 92 yX1_isZero, Cond.instanceMethod yX1_isZero, Cond.selects RX1 yX1_isZero yX1_isZero, Cond.code yX1_isZero cX1_isZero 1 (some .boolean), Cond.methodLink RX2 73 yX1_add, Cond.instanceMethod yX1_add, Cond.selects RX1 yX1_add yX1_add, Cond.code yX1_add cX1_add 8 none, Cond.methodLink RX1 38 Lib.Math.max.name, Cond.static Lib.Math.max.name, Cond.initialized "java/lang/Math", Cond.code Lib.Math.max.name Lib.Math.max.code 2 (some .int)]
def wsX2_scale_r5 : List Cond := [Cond.methodLink RX2 127 yX1_order, Cond.instanceMethod yX1_order, Cond.selects RX1 yX1_order yX1_order, Cond.code yX1_order cX1_order 3 (some .int), Cond.methodLink RX2 162 yX2_isAwayFromZero, Cond.instanceMethod yX2_isAwayFromZero, Cond.selects RX2 yX2_isAwayFromZero yX2_isAwayFromZero, Cond.code yX2_isAwayFromZero cX2_isAwayFromZero 3 (some .boolean), Cond.methodLink RX2 133 yX1_figure, Cond.instanceMethod yX1_figure, Cond.selects RX1 yX1_figure yX1_figure, Cond.code yX1_figure cX1_figure 3 (some .int), Cond.constantLong RX1 45 (10), Cond.methodLink RX2 59 yX2_keep, Cond.instanceMethod yX2_keep, Cond.selects RX2 yX2_keep yX2_keep, Cond.code yX2_keep cX2_keep 3 (some .int), Cond.methodLink RX2 114 yX1_precision, Cond.instanceMethod yX1_precision, Cond.selects RX1 yX1_precision yX1_precision, Cond.code yX1_precision cX1_precision 2 (some .int), Cond.methodLink RX1 34 yX1_figure, Cond.methodLink RX2 63 yX0_become, Cond.instanceMethod yX0_become]
def wsX2_scale_r6 : List Cond := [Cond.selects RX0 yX0_become yX0_become, Cond.initialized RX0, Cond.code yX0_become cX0_become 2 none, Cond.fieldLink RX0 10 "DecimalRegisters$Decimal" "digits" "LDecimalRegisters$Natural;", Cond.fieldLink RX0 16 "DecimalRegisters$Decimal" "minus" "Z", Cond.fieldLink RX0 20 "DecimalRegisters$Decimal" "scale" "I", Cond.methodLink RX0 24 yX0_take, Cond.instanceMethod yX0_take, Cond.selects RX0 yX0_take yX0_take, Cond.code yX0_take cX0_take 4 none, Cond.methodLink RX0 28 yX1_become, Cond.methodLink RX0 32 yX1_isZero]
def wsX2_scale : List Cond := .code yX2_scale cX2_scale 5 (some .int) :: ((wsX2_scale_r1 ++ (wsX2_scale_r2 ++ (wsX2_scale_r3 ++ (wsX2_scale_r4 ++ (wsX2_scale_r5 ++ wsX2_scale_r6))))) ++ wsX20 ++ wsX00 ++ wsX10)
def wsX2_cutOff_r1 : List Cond := [Cond.fieldLink RX2 16 "DecimalRegisters" "result" "LDecimalRegisters$Decimal;", Cond.fieldLink RX2 20 "DecimalRegisters" "one" "LDecimalRegisters$Decimal;", Cond.fieldLink RX2 56 "DecimalRegisters$Decimal" "scale" "I", Cond.methodLink RX2 106 yX2_split, Cond.instanceMethod yX2_split, Cond.selects RX2 yX2_split yX2_split, Cond.initialized RX2, Cond.code yX2_split cX2_split 4 none, Cond.fieldLink RX2 34 "DecimalRegisters" "top" "LDecimalRegisters$Natural;", Cond.fieldLink RX2 37 "DecimalRegisters" "bottom" "LDecimalRegisters$Natural;", Cond.fieldLink RX2 23 "DecimalRegisters$Decimal" "digits" "LDecimalRegisters$Natural;", Cond.fieldLink RX2 52 "DecimalRegisters$Decimal" "minus" "Z", Cond.methodLink RX2 155 yX2_align, Cond.instanceMethod yX2_align, Cond.selects RX2 yX2_align yX2_align, Cond.code yX2_align cX2_align 5 none, Cond.methodLink RX2 153 yX1_become, Cond.instanceMethod yX1_become, Cond.selects RX1 yX1_become yX1_become, Cond.initialized RX1, Cond.code yX1_become cX1_become 2 none, Cond.fieldLink RX1 9 "DecimalRegisters$Natural" "limbs" "[J", Cond.methodLink RX1 17 arraycopyName, Cond.native arraycopyName]
def wsX2_cutOff_r2 : List Cond := [Cond.static arraycopyName, Cond.initialized "java/lang/System", Cond.fieldLink RX1 13 "DecimalRegisters$Natural" "size" "I", Cond.methodLink RX2 67 yX1_raise, Cond.instanceMethod yX1_raise, Cond.selects RX1 yX1_raise yX1_raise, Cond.code yX1_raise cX1_raise 10 none, Cond.fieldLink RX1 42 "DecimalRegisters$Natural" "TENS" "[J", Cond.constantLong RX1 26 (1000000), Cond.methodLink RX1 47 yX1_close, Cond.instanceMethod yX1_close, Cond.selects RX1 yX1_close yX1_close, Cond.code yX1_close cX1_close 4 none, Cond.methodLink RX1 54 yX1_shift, Cond.instanceMethod yX1_shift, Cond.selects RX1 yX1_shift yX1_shift, Cond.code yX1_shift cX1_shift 3 none, Cond.methodLink RX2 158 yX1_takeOut, Cond.instanceMethod yX1_takeOut, Cond.selects RX1 yX1_takeOut yX1_takeOut, Cond.code yX1_takeOut cX1_takeOut 7 none, Cond.constantLong RX1 66 (-1), Cond.methodLink RX1 23 yX1_clear, Cond.instanceMethod yX1_clear]
def wsX2_cutOff_r3 : List Cond := [Cond.selects RX1 yX1_clear yX1_clear, Cond.code yX1_clear cX1_clear 2 none, Cond.methodLink RX1 58 yX1_guess, Cond.instanceMethod yX1_guess, Cond.selects RX1 yX1_guess yX1_guess, Cond.code yX1_guess cX1_guess 8 (some .long), Cond.methodLink RX1 62 yX1_takeAway, Cond.instanceMethod yX1_takeAway, Cond.selects RX1 yX1_takeAway yX1_takeAway, Cond.code yX1_takeAway cX1_takeAway 10 none, Cond.methodLink RX1 68 yJ9_floorDiv_f86c9, Cond.static yJ9_floorDiv_f86c9, Cond.initialized RJ9, Cond.code yJ9_floorDiv_f86c9 cJ9_floorDiv_f86c9 6 (some .long), Cond.methodLink RX1 51 yX1_shrink, Cond.instanceMethod yX1_shrink, Cond.selects RX1 yX1_shrink yX1_shrink, Cond.code yX1_shrink cX1_shrink 1 none]
def wsX2_cutOff : List Cond := .code yX2_cutOff cX2_cutOff 2 none :: ((wsX2_cutOff_r1 ++ (wsX2_cutOff_r2 ++ wsX2_cutOff_r3)) ++ wsX20 ++ wsX00 ++ wsX10)
def wsX2_round_r1 : List Cond := [Cond.fieldLink RX2 11 "DecimalRegisters" "registers" "[LDecimalRegisters$Decimal;", Cond.fieldLink RX2 23 "DecimalRegisters$Decimal" "digits" "LDecimalRegisters$Natural;", Cond.fieldLink RX2 16 "DecimalRegisters" "result" "LDecimalRegisters$Decimal;", Cond.methodLink RX2 48 yX2_isRegister, Cond.static yX2_isRegister, Cond.initialized RX2, Cond.code yX2_isRegister cX2_isRegister 1 (some .boolean), Cond.methodLink RX2 89 yX2_isWay, Cond.static yX2_isWay, Cond.code yX2_isWay cX2_isWay 1 (some .boolean), Cond.methodLink RX2 114 yX1_precision, Cond.instanceMethod yX1_precision, Cond.selects RX1 yX1_precision yX1_precision, Cond.initialized RX1, Cond.code yX1_precision cX1_precision 2 (some .int), Cond.fieldLink RX1 13 "DecimalRegisters$Natural" "size" "I", Cond.methodLink RX1 38 Lib.Math.max.name, Cond.static Lib.Math.max.name, Cond.initialized "java/lang/Math", Cond.code Lib.Math.max.name Lib.Math.max.code 2 (some .int), Cond.methodLink RX1 34 yX1_figure, Cond.instanceMethod yX1_figure, Cond.selects RX1 yX1_figure yX1_figure, Cond.code yX1_figure cX1_figure 3 (some .int)]
def wsX2_round_r2 : List Cond := [Cond.fieldLink RX1 9 "DecimalRegisters$Natural" "limbs" "[J", Cond.fieldLink RX1 42 "DecimalRegisters$Natural" "TENS" "[J", Cond.constantLong RX1 45 (10), Cond.methodLink RX2 63 yX0_become, Cond.instanceMethod yX0_become, Cond.selects RX0 yX0_become yX0_become, Cond.initialized RX0, Cond.code yX0_become cX0_become 2 none, Cond.fieldLink RX0 10 "DecimalRegisters$Decimal" "digits" "LDecimalRegisters$Natural;", Cond.fieldLink RX0 16 "DecimalRegisters$Decimal" "minus" "Z", Cond.fieldLink RX0 20 "DecimalRegisters$Decimal" "scale" "I", Cond.methodLink RX0 24 yX0_take, Cond.instanceMethod yX0_take, Cond.selects RX0 yX0_take yX0_take, Cond.code yX0_take cX0_take 4 none, Cond.methodLink RX0 28 yX1_become, Cond.instanceMethod yX1_become, Cond.selects RX1 yX1_become yX1_become, Cond.code yX1_become cX1_become 2 none, Cond.methodLink RX1 17 arraycopyName, Cond.native arraycopyName, Cond.static arraycopyName, Cond.initialized "java/lang/System", Cond.methodLink RX0 32 yX1_isZero]
def wsX2_round_r3 : List Cond := [Cond.instanceMethod yX1_isZero, Cond.selects RX1 yX1_isZero yX1_isZero, Cond.code yX1_isZero cX1_isZero 1 (some .boolean), Cond.methodLink RX2 118 yX2_cutOff, Cond.instanceMethod yX2_cutOff, Cond.selects RX2 yX2_cutOff yX2_cutOff, Cond.code yX2_cutOff cX2_cutOff 2 none, Cond.fieldLink RX2 20 "DecimalRegisters" "one" "LDecimalRegisters$Decimal;", Cond.fieldLink RX2 56 "DecimalRegisters$Decimal" "scale" "I", Cond.methodLink RX2 106 yX2_split, Cond.instanceMethod yX2_split, Cond.selects RX2 yX2_split yX2_split, Cond.code yX2_split cX2_split 4 none, Cond.fieldLink RX2 34 "DecimalRegisters" "top" "LDecimalRegisters$Natural;", Cond.fieldLink RX2 37 "DecimalRegisters" "bottom" "LDecimalRegisters$Natural;", Cond.fieldLink RX2 52 "DecimalRegisters$Decimal" "minus" "Z", Cond.methodLink RX2 155 yX2_align, Cond.instanceMethod yX2_align, Cond.selects RX2 yX2_align yX2_align, Cond.code yX2_align cX2_align 5 none, Cond.methodLink RX2 153 yX1_become, Cond.methodLink RX2 67 yX1_raise, Cond.instanceMethod yX1_raise, Cond.selects RX1 yX1_raise yX1_raise]
def wsX2_round_r4 : List Cond := [Cond.code yX1_raise cX1_raise 10 none, Cond.constantLong RX1 26 (1000000), Cond.methodLink RX1 47 yX1_close, Cond.instanceMethod yX1_close, Cond.selects RX1 yX1_close yX1_close, Cond.code yX1_close cX1_close 4 none, Cond.methodLink RX1 54 yX1_shift, Cond.instanceMethod yX1_shift, Cond.selects RX1 yX1_shift yX1_shift, Cond.code yX1_shift cX1_shift 3 none, Cond.methodLink RX2 158 yX1_takeOut, Cond.instanceMethod yX1_takeOut, Cond.selects RX1 yX1_takeOut yX1_takeOut, Cond.code yX1_takeOut cX1_takeOut 7 none, Cond.constantLong RX1 66 (-1), Cond.methodLink RX1 23 yX1_clear, Cond.instanceMethod yX1_clear, Cond.selects RX1 yX1_clear yX1_clear, Cond.code yX1_clear cX1_clear 2 none, Cond.methodLink RX1 58 yX1_guess, Cond.instanceMethod yX1_guess, Cond.selects RX1 yX1_guess yX1_guess, Cond.code yX1_guess cX1_guess 8 (some .long), Cond.methodLink RX1 62 yX1_takeAway]
def wsX2_round_r5 : List Cond := [Cond.instanceMethod yX1_takeAway, Cond.selects RX1 yX1_takeAway yX1_takeAway, Cond.code yX1_takeAway cX1_takeAway 10 none, Cond.methodLink RX1 68 yJ9_floorDiv_f86c9, Cond.static yJ9_floorDiv_f86c9, Cond.initialized RJ9, Cond.code yJ9_floorDiv_f86c9 cJ9_floorDiv_f86c9 6 (some .long), Cond.methodLink RX1 51 yX1_shrink, Cond.instanceMethod yX1_shrink, Cond.selects RX1 yX1_shrink yX1_shrink, Cond.code yX1_shrink cX1_shrink 1 none, Cond.methodLink RX2 121 yX2_settle, Cond.instanceMethod yX2_settle, Cond.selects RX2 yX2_settle yX2_settle, Cond.code yX2_settle cX2_settle 2 (some .boolean), Cond.methodLink RX2 92 yX1_isZero, Cond.methodLink RX2 73 yX1_add, Cond.instanceMethod yX1_add, Cond.selects RX1 yX1_add yX1_add, Cond.code yX1_add cX1_add 8 none, Cond.methodLink RX2 127 yX1_order, Cond.instanceMethod yX1_order, Cond.selects RX1 yX1_order yX1_order, Cond.code yX1_order cX1_order 3 (some .int)]
def wsX2_round_r6 : List Cond := [Cond.methodLink RX2 162 yX2_isAwayFromZero, Cond.instanceMethod yX2_isAwayFromZero, Cond.selects RX2 yX2_isAwayFromZero yX2_isAwayFromZero, Cond.code yX2_isAwayFromZero cX2_isAwayFromZero 3 (some .boolean), Cond.methodLink RX2 133 yX1_figure, Cond.methodLink RX2 59 yX2_keep, Cond.instanceMethod yX2_keep, Cond.selects RX2 yX2_keep yX2_keep, Cond.code yX2_keep cX2_keep 3 (some .int), Cond.methodLink RX2 150 yX2_isScale, Cond.static yX2_isScale, Cond.code yX2_isScale cX2_isScale 1 (some .boolean)]
def wsX2_round : List Cond := .code yX2_round cX2_round 7 (some .int) :: ((wsX2_round_r1 ++ (wsX2_round_r2 ++ (wsX2_round_r3 ++ (wsX2_round_r4 ++ (wsX2_round_r5 ++ wsX2_round_r6))))) ++ wsX20 ++ wsX00 ++ wsX10)
def wsX2_cutOffZeros_r1 : List Cond := [Cond.fieldLink RX2 16 "DecimalRegisters" "result" "LDecimalRegisters$Decimal;", Cond.fieldLink RX2 23 "DecimalRegisters$Decimal" "digits" "LDecimalRegisters$Natural;", Cond.fieldLink RX2 56 "DecimalRegisters$Decimal" "scale" "I", Cond.methodLink RX2 92 yX1_isZero, Cond.instanceMethod yX1_isZero, Cond.selects RX1 yX1_isZero yX1_isZero, Cond.initialized RX1, Cond.code yX1_isZero cX1_isZero 1 (some .boolean), Cond.fieldLink RX1 13 "DecimalRegisters$Natural" "size" "I", Cond.methodLink RX2 166 yX1_zerosAtEnd, Cond.instanceMethod yX1_zerosAtEnd, Cond.selects RX1 yX1_zerosAtEnd yX1_zerosAtEnd, Cond.code yX1_zerosAtEnd cX1_zerosAtEnd 3 (some .int), Cond.methodLink RX1 34 yX1_figure, Cond.instanceMethod yX1_figure, Cond.selects RX1 yX1_figure yX1_figure, Cond.code yX1_figure cX1_figure 3 (some .int), Cond.fieldLink RX1 9 "DecimalRegisters$Natural" "limbs" "[J", Cond.fieldLink RX1 42 "DecimalRegisters$Natural" "TENS" "[J", Cond.constantLong RX1 45 (10), Cond.methodLink RX2 118 yX2_cutOff, Cond.instanceMethod yX2_cutOff, Cond.selects RX2 yX2_cutOff yX2_cutOff, Cond.initialized RX2]
def wsX2_cutOffZeros_r2 : List Cond := [Cond.code yX2_cutOff cX2_cutOff 2 none, Cond.fieldLink RX2 20 "DecimalRegisters" "one" "LDecimalRegisters$Decimal;", Cond.methodLink RX2 106 yX2_split, Cond.instanceMethod yX2_split, Cond.selects RX2 yX2_split yX2_split, Cond.code yX2_split cX2_split 4 none, Cond.fieldLink RX2 34 "DecimalRegisters" "top" "LDecimalRegisters$Natural;", Cond.fieldLink RX2 37 "DecimalRegisters" "bottom" "LDecimalRegisters$Natural;", Cond.fieldLink RX2 52 "DecimalRegisters$Decimal" "minus" "Z", Cond.methodLink RX2 155 yX2_align, Cond.instanceMethod yX2_align, Cond.selects RX2 yX2_align yX2_align, Cond.code yX2_align cX2_align 5 none, Cond.methodLink RX2 153 yX1_become, Cond.instanceMethod yX1_become, Cond.selects RX1 yX1_become yX1_become, Cond.code yX1_become cX1_become 2 none, Cond.methodLink RX1 17 arraycopyName, Cond.native arraycopyName, Cond.static arraycopyName, Cond.initialized "java/lang/System", Cond.methodLink RX2 67 yX1_raise, Cond.instanceMethod yX1_raise, Cond.selects RX1 yX1_raise yX1_raise]
def wsX2_cutOffZeros_r3 : List Cond := [Cond.code yX1_raise cX1_raise 10 none, Cond.constantLong RX1 26 (1000000), Cond.methodLink RX1 47 yX1_close, Cond.instanceMethod yX1_close, Cond.selects RX1 yX1_close yX1_close, Cond.code yX1_close cX1_close 4 none, Cond.methodLink RX1 54 yX1_shift, Cond.instanceMethod yX1_shift, Cond.selects RX1 yX1_shift yX1_shift, Cond.code yX1_shift cX1_shift 3 none, Cond.methodLink RX2 158 yX1_takeOut, Cond.instanceMethod yX1_takeOut, Cond.selects RX1 yX1_takeOut yX1_takeOut, Cond.code yX1_takeOut cX1_takeOut 7 none, Cond.constantLong RX1 66 (-1), Cond.methodLink RX1 23 yX1_clear, Cond.instanceMethod yX1_clear, Cond.selects RX1 yX1_clear yX1_clear, Cond.code yX1_clear cX1_clear 2 none, Cond.methodLink RX1 58 yX1_guess, Cond.instanceMethod yX1_guess, Cond.selects RX1 yX1_guess yX1_guess, Cond.code yX1_guess cX1_guess 8 (some .long), Cond.methodLink RX1 62 yX1_takeAway]
def wsX2_cutOffZeros_r4 : List Cond := [Cond.instanceMethod yX1_takeAway, Cond.selects RX1 yX1_takeAway yX1_takeAway, Cond.code yX1_takeAway cX1_takeAway 10 none, Cond.methodLink RX1 68 yJ9_floorDiv_f86c9, Cond.static yJ9_floorDiv_f86c9, Cond.initialized RJ9, Cond.code yJ9_floorDiv_f86c9 cJ9_floorDiv_f86c9 6 (some .long), Cond.methodLink RX1 51 yX1_shrink, Cond.instanceMethod yX1_shrink, Cond.selects RX1 yX1_shrink yX1_shrink, Cond.code yX1_shrink cX1_shrink 1 none]
def wsX2_cutOffZeros : List Cond := .code yX2_cutOffZeros cX2_cutOffZeros 1 none :: ((wsX2_cutOffZeros_r1 ++ (wsX2_cutOffZeros_r2 ++ (wsX2_cutOffZeros_r3 ++ wsX2_cutOffZeros_r4))) ++ wsX20 ++ wsX00 ++ wsX10)
def wsX2_turn_r1 : List Cond := [Cond.fieldLink RX2 16 "DecimalRegisters" "result" "LDecimalRegisters$Decimal;", Cond.fieldLink RX2 11 "DecimalRegisters" "registers" "[LDecimalRegisters$Decimal;", Cond.fieldLink RX2 52 "DecimalRegisters$Decimal" "minus" "Z", Cond.methodLink RX2 48 yX2_isRegister, Cond.static yX2_isRegister, Cond.initialized RX2, Cond.code yX2_isRegister cX2_isRegister 1 (some .boolean), Cond.methodLink RX2 63 yX0_become, Cond.instanceMethod yX0_become, Cond.selects RX0 yX0_become yX0_become, Cond.initialized RX0, Cond.code yX0_become cX0_become 2 none, Cond.fieldLink RX0 10 "DecimalRegisters$Decimal" "digits" "LDecimalRegisters$Natural;", Cond.fieldLink RX0 16 "DecimalRegisters$Decimal" "minus" "Z", Cond.fieldLink RX0 20 "DecimalRegisters$Decimal" "scale" "I", Cond.methodLink RX0 24 yX0_take, Cond.instanceMethod yX0_take, Cond.selects RX0 yX0_take yX0_take, Cond.code yX0_take cX0_take 4 none, Cond.methodLink RX0 28 yX1_become, Cond.instanceMethod yX1_become, Cond.selects RX1 yX1_become yX1_become, Cond.initialized RX1, Cond.code yX1_become cX1_become 2 none]
def wsX2_turn_r2 : List Cond := [Cond.fieldLink RX1 9 "DecimalRegisters$Natural" "limbs" "[J", Cond.methodLink RX1 17 arraycopyName, Cond.native arraycopyName, Cond.static arraycopyName, Cond.initialized "java/lang/System", Cond.fieldLink RX1 13 "DecimalRegisters$Natural" "size" "I", Cond.methodLink RX0 32 yX1_isZero, Cond.instanceMethod yX1_isZero, Cond.selects RX1 yX1_isZero yX1_isZero, Cond.code yX1_isZero cX1_isZero 1 (some .boolean), Cond.methodLink RX2 124 yX2_cutOffZeros, Cond.instanceMethod yX2_cutOffZeros, Cond.selects RX2 yX2_cutOffZeros yX2_cutOffZeros, Cond.code yX2_cutOffZeros cX2_cutOffZeros 1 none, Cond.fieldLink RX2 23 "DecimalRegisters$Decimal" "digits" "LDecimalRegisters$Natural;", Cond.fieldLink RX2 56 "DecimalRegisters$Decimal" "scale" "I", Cond.methodLink RX2 92 yX1_isZero, Cond.methodLink RX2 166 yX1_zerosAtEnd, Cond.instanceMethod yX1_zerosAtEnd, Cond.selects RX1 yX1_zerosAtEnd yX1_zerosAtEnd, Cond.code yX1_zerosAtEnd cX1_zerosAtEnd 3 (some .int), Cond.methodLink RX1 34 yX1_figure, Cond.instanceMethod yX1_figure, Cond.selects RX1 yX1_figure yX1_figure]
def wsX2_turn_r3 : List Cond := [Cond.code yX1_figure cX1_figure 3 (some .int), Cond.fieldLink RX1 42 "DecimalRegisters$Natural" "TENS" "[J", Cond.constantLong RX1 45 (10), Cond.methodLink RX2 118 yX2_cutOff, Cond.instanceMethod yX2_cutOff, Cond.selects RX2 yX2_cutOff yX2_cutOff, Cond.code yX2_cutOff cX2_cutOff 2 none, Cond.fieldLink RX2 20 "DecimalRegisters" "one" "LDecimalRegisters$Decimal;", Cond.methodLink RX2 106 yX2_split, Cond.instanceMethod yX2_split, Cond.selects RX2 yX2_split yX2_split, Cond.code yX2_split cX2_split 4 none, Cond.fieldLink RX2 34 "DecimalRegisters" "top" "LDecimalRegisters$Natural;", Cond.fieldLink RX2 37 "DecimalRegisters" "bottom" "LDecimalRegisters$Natural;", Cond.methodLink RX2 155 yX2_align, Cond.instanceMethod yX2_align, Cond.selects RX2 yX2_align yX2_align, Cond.code yX2_align cX2_align 5 none, Cond.methodLink RX2 153 yX1_become, Cond.methodLink RX2 67 yX1_raise, Cond.instanceMethod yX1_raise, Cond.selects RX1 yX1_raise yX1_raise, Cond.code yX1_raise cX1_raise 10 none, Cond.constantLong RX1 26 (1000000)]
def wsX2_turn_r4 : List Cond := [Cond.methodLink RX1 47 yX1_close, Cond.instanceMethod yX1_close, Cond.selects RX1 yX1_close yX1_close, Cond.code yX1_close cX1_close 4 none, Cond.methodLink RX1 54 yX1_shift, Cond.instanceMethod yX1_shift, Cond.selects RX1 yX1_shift yX1_shift, Cond.code yX1_shift cX1_shift 3 none, Cond.methodLink RX2 158 yX1_takeOut, Cond.instanceMethod yX1_takeOut, Cond.selects RX1 yX1_takeOut yX1_takeOut, Cond.code yX1_takeOut cX1_takeOut 7 none, Cond.constantLong RX1 66 (-1), Cond.methodLink RX1 23 yX1_clear, Cond.instanceMethod yX1_clear, Cond.selects RX1 yX1_clear yX1_clear, Cond.code yX1_clear cX1_clear 2 none, Cond.methodLink RX1 58 yX1_guess, Cond.instanceMethod yX1_guess, Cond.selects RX1 yX1_guess yX1_guess, Cond.code yX1_guess cX1_guess 8 (some .long), Cond.methodLink RX1 62 yX1_takeAway, Cond.instanceMethod yX1_takeAway, Cond.selects RX1 yX1_takeAway yX1_takeAway]
def wsX2_turn_r5 : List Cond := [Cond.code yX1_takeAway cX1_takeAway 10 none, Cond.methodLink RX1 68 yJ9_floorDiv_f86c9, Cond.static yJ9_floorDiv_f86c9, Cond.initialized RJ9, Cond.code yJ9_floorDiv_f86c9 cJ9_floorDiv_f86c9 6 (some .long), Cond.methodLink RX1 51 yX1_shrink, Cond.instanceMethod yX1_shrink, Cond.selects RX1 yX1_shrink yX1_shrink, Cond.code yX1_shrink cX1_shrink 1 none, Cond.methodLink RX2 59 yX2_keep, Cond.instanceMethod yX2_keep, Cond.selects RX2 yX2_keep yX2_keep, Cond.code yX2_keep cX2_keep 3 (some .int), Cond.methodLink RX2 114 yX1_precision, Cond.instanceMethod yX1_precision, Cond.selects RX1 yX1_precision yX1_precision, Cond.code yX1_precision cX1_precision 2 (some .int), Cond.methodLink RX1 38 Lib.Math.max.name, Cond.static Lib.Math.max.name, Cond.initialized "java/lang/Math", Cond.code Lib.Math.max.name Lib.Math.max.code 2 (some .int), Cond.methodLink RX2 150 yX2_isScale, Cond.static yX2_isScale, Cond.code yX2_isScale cX2_isScale 1 (some .boolean)]
def wsX2_turn : List Cond := .code yX2_turn cX2_turn 4 (some .int) :: ((wsX2_turn_r1 ++ (wsX2_turn_r2 ++ (wsX2_turn_r3 ++ (wsX2_turn_r4 ++ wsX2_turn_r5)))) ++ wsX20 ++ wsX00 ++ wsX10)
def wsX2_move_r1 : List Cond := [Cond.fieldLink RX2 16 "DecimalRegisters" "result" "LDecimalRegisters$Decimal;", Cond.fieldLink RX2 11 "DecimalRegisters" "registers" "[LDecimalRegisters$Decimal;", Cond.fieldLink RX2 56 "DecimalRegisters$Decimal" "scale" "I", Cond.fieldLink RX2 23 "DecimalRegisters$Decimal" "digits" "LDecimalRegisters$Natural;", Cond.methodLink RX2 48 yX2_isRegister, Cond.static yX2_isRegister, Cond.initialized RX2, Cond.code yX2_isRegister cX2_isRegister 1 (some .boolean), Cond.methodLink RX2 63 yX0_become, Cond.instanceMethod yX0_become, Cond.selects RX0 yX0_become yX0_become, Cond.initialized RX0, Cond.code yX0_become cX0_become 2 none, Cond.fieldLink RX0 10 "DecimalRegisters$Decimal" "digits" "LDecimalRegisters$Natural;", Cond.fieldLink RX0 16 "DecimalRegisters$Decimal" "minus" "Z", Cond.fieldLink RX0 20 "DecimalRegisters$Decimal" "scale" "I", Cond.methodLink RX0 24 yX0_take, Cond.instanceMethod yX0_take, Cond.selects RX0 yX0_take yX0_take, Cond.code yX0_take cX0_take 4 none, Cond.methodLink RX0 28 yX1_become, Cond.instanceMethod yX1_become, Cond.selects RX1 yX1_become yX1_become, Cond.initialized RX1]
def wsX2_move_r2 : List Cond := [Cond.code yX1_become cX1_become 2 none, Cond.fieldLink RX1 9 "DecimalRegisters$Natural" "limbs" "[J", Cond.methodLink RX1 17 arraycopyName, Cond.native arraycopyName, Cond.static arraycopyName, Cond.initialized "java/lang/System", Cond.fieldLink RX1 13 "DecimalRegisters$Natural" "size" "I", Cond.methodLink RX0 32 yX1_isZero, Cond.instanceMethod yX1_isZero, Cond.selects RX1 yX1_isZero yX1_isZero, Cond.code yX1_isZero cX1_isZero 1 (some .boolean), Cond.methodLink RX2 67 yX1_raise, Cond.instanceMethod yX1_raise, Cond.selects RX1 yX1_raise yX1_raise, Cond.code yX1_raise cX1_raise 10 none, Cond.fieldLink RX1 42 "DecimalRegisters$Natural" "TENS" "[J", Cond.constantLong RX1 26 (1000000), Cond.methodLink RX1 47 yX1_close, Cond.instanceMethod yX1_close, Cond.selects RX1 yX1_close yX1_close, Cond.code yX1_close cX1_close 4 none, Cond.methodLink RX1 54 yX1_shift, Cond.instanceMethod yX1_shift, Cond.selects RX1 yX1_shift yX1_shift]
def wsX2_move_r3 : List Cond := [Cond.code yX1_shift cX1_shift 3 none, Cond.methodLink RX2 59 yX2_keep, Cond.instanceMethod yX2_keep, Cond.selects RX2 yX2_keep yX2_keep, Cond.code yX2_keep cX2_keep 3 (some .int), Cond.methodLink RX2 114 yX1_precision, Cond.instanceMethod yX1_precision, Cond.selects RX1 yX1_precision yX1_precision, Cond.code yX1_precision cX1_precision 2 (some .int), Cond.methodLink RX1 38 Lib.Math.max.name, Cond.static Lib.Math.max.name, Cond.initialized "java/lang/Math", Cond.code Lib.Math.max.name Lib.Math.max.code 2 (some .int), Cond.methodLink RX1 34 yX1_figure, Cond.instanceMethod yX1_figure, Cond.selects RX1 yX1_figure yX1_figure, Cond.code yX1_figure cX1_figure 3 (some .int), Cond.constantLong RX1 45 (10), Cond.methodLink RX2 150 yX2_isScale, Cond.static yX2_isScale, Cond.code yX2_isScale cX2_isScale 1 (some .boolean)]
def wsX2_move : List Cond := .code yX2_move cX2_move 5 (some .int) :: ((wsX2_move_r1 ++ (wsX2_move_r2 ++ wsX2_move_r3)) ++ wsX20 ++ wsX00 ++ wsX10)
def wsX2_power_r1 : List Cond := [Cond.fieldLink RX2 11 "DecimalRegisters" "registers" "[LDecimalRegisters$Decimal;", Cond.fieldLink RX2 23 "DecimalRegisters$Decimal" "digits" "LDecimalRegisters$Natural;", Cond.fieldLink RX2 16 "DecimalRegisters" "result" "LDecimalRegisters$Decimal;", Cond.fieldLink RX2 20 "DecimalRegisters" "one" "LDecimalRegisters$Decimal;", Cond.methodLink RX2 48 yX2_isRegister, Cond.static yX2_isRegister, Cond.initialized RX2, Cond.code yX2_isRegister cX2_isRegister 1 (some .boolean), Cond.methodLink RX2 114 yX1_precision, Cond.instanceMethod yX1_precision, Cond.selects RX1 yX1_precision yX1_precision, Cond.initialized RX1, Cond.code yX1_precision cX1_precision 2 (some .int), Cond.fieldLink RX1 13 "DecimalRegisters$Natural" "size" "I", Cond.methodLink RX1 38 Lib.Math.max.name, Cond.static Lib.Math.max.name, Cond.initialized "java/lang/Math", Cond.code Lib.Math.max.name Lib.Math.max.code 2 (some .int), Cond.methodLink RX1 34 yX1_figure, Cond.instanceMethod yX1_figure, Cond.selects RX1 yX1_figure yX1_figure, Cond.code yX1_figure cX1_figure 3 (some .int), Cond.fieldLink RX1 9 "DecimalRegisters$Natural" "limbs" "[J", Cond.fieldLink RX1 42 "DecimalRegisters$Natural" "TENS" "[J"]
def wsX2_power_r2 : List Cond := [Cond.constantLong RX1 45 (10), Cond.methodLink RX2 63 yX0_become, Cond.instanceMethod yX0_become, Cond.selects RX0 yX0_become yX0_become, Cond.initialized RX0, Cond.code yX0_become cX0_become 2 none, Cond.fieldLink RX0 10 "DecimalRegisters$Decimal" "digits" "LDecimalRegisters$Natural;", Cond.fieldLink RX0 16 "DecimalRegisters$Decimal" "minus" "Z", Cond.fieldLink RX0 20 "DecimalRegisters$Decimal" "scale" "I", Cond.methodLink RX0 24 yX0_take, Cond.instanceMethod yX0_take, Cond.selects RX0 yX0_take yX0_take, Cond.code yX0_take cX0_take 4 none, Cond.methodLink RX0 28 yX1_become, Cond.instanceMethod yX1_become, Cond.selects RX1 yX1_become yX1_become, Cond.code yX1_become cX1_become 2 none, Cond.methodLink RX1 17 arraycopyName, Cond.native arraycopyName, Cond.static arraycopyName, Cond.initialized "java/lang/System", Cond.methodLink RX0 32 yX1_isZero, Cond.instanceMethod yX1_isZero, Cond.selects RX1 yX1_isZero yX1_isZero]
def wsX2_power_r3 : List Cond := [Cond.code yX1_isZero cX1_isZero 1 (some .boolean), Cond.methodLink RX2 81 yX2_multiply, Cond.instanceMethod yX2_multiply, Cond.selects RX2 yX2_multiply yX2_multiply, Cond.code yX2_multiply cX2_multiply 3 none, Cond.fieldLink RX2 34 "DecimalRegisters" "top" "LDecimalRegisters$Natural;", Cond.fieldLink RX2 52 "DecimalRegisters$Decimal" "minus" "Z", Cond.fieldLink RX2 56 "DecimalRegisters$Decimal" "scale" "I", Cond.methodLink RX2 172 yX1_becomeProduct, Cond.instanceMethod yX1_becomeProduct, Cond.selects RX1 yX1_becomeProduct yX1_becomeProduct, Cond.code yX1_becomeProduct cX1_becomeProduct 9 none, Cond.constantLong RX1 26 (1000000), Cond.methodLink RX1 23 yX1_clear, Cond.instanceMethod yX1_clear, Cond.selects RX1 yX1_clear yX1_clear, Cond.code yX1_clear cX1_clear 2 none, Cond.methodLink RX1 51 yX1_shrink, Cond.instanceMethod yX1_shrink, Cond.selects RX1 yX1_shrink yX1_shrink, Cond.code yX1_shrink cX1_shrink 1 none, Cond.methodLink RX2 110 yX0_take, Cond.methodLink RX2 59 yX2_keep, Cond.instanceMethod yX2_keep]
def wsX2_power_r4 : List Cond := [Cond.selects RX2 yX2_keep yX2_keep, Cond.code yX2_keep cX2_keep 3 (some .int), Cond.methodLink RX2 150 yX2_isScale, Cond.static yX2_isScale, Cond.code yX2_isScale cX2_isScale 1 (some .boolean)]
def wsX2_power : List Cond := .code yX2_power cX2_power 6 (some .int) :: ((wsX2_power_r1 ++ (wsX2_power_r2 ++ (wsX2_power_r3 ++ wsX2_power_r4))) ++ wsX20 ++ wsX00 ++ wsX10)
def wsX2_compare_r1 : List Cond := [Cond.fieldLink RX2 11 "DecimalRegisters" "registers" "[LDecimalRegisters$Decimal;", Cond.methodLink RX2 48 yX2_isRegister, Cond.static yX2_isRegister, Cond.initialized RX2, Cond.code yX2_isRegister cX2_isRegister 1 (some .boolean), Cond.methodLink RX2 85 yX2_order, Cond.instanceMethod yX2_order, Cond.selects RX2 yX2_order yX2_order, Cond.code yX2_order cX2_order 3 (some .int), Cond.fieldLink RX2 52 "DecimalRegisters$Decimal" "minus" "Z", Cond.fieldLink RX2 37 "DecimalRegisters" "bottom" "LDecimalRegisters$Natural;", Cond.fieldLink RX2 34 "DecimalRegisters" "top" "LDecimalRegisters$Natural;", Cond.methodLink RX2 130 yX0_sign, Cond.instanceMethod yX0_sign, Cond.selects RX0 yX0_sign yX0_sign, Cond.initialized RX0, Cond.code yX0_sign cX0_sign 1 (some .int), Cond.fieldLink RX0 10 "DecimalRegisters$Decimal" "digits" "LDecimalRegisters$Natural;", Cond.fieldLink RX0 16 "DecimalRegisters$Decimal" "minus" "Z", Cond.methodLink RX0 32 yX1_isZero, Cond.instanceMethod yX1_isZero, Cond.selects RX1 yX1_isZero yX1_isZero, Cond.initialized RX1, Cond.code yX1_isZero cX1_isZero 1 (some .boolean)]
def wsX2_compare_r2 : List Cond := [Cond.fieldLink RX1 13 "DecimalRegisters$Natural" "size" "I", Cond.methodLink RX2 155 yX2_align, Cond.instanceMethod yX2_align, Cond.selects RX2 yX2_align yX2_align, Cond.code yX2_align cX2_align 5 none, Cond.fieldLink RX2 56 "DecimalRegisters$Decimal" "scale" "I", Cond.fieldLink RX2 23 "DecimalRegisters$Decimal" "digits" "LDecimalRegisters$Natural;", Cond.methodLink RX2 153 yX1_become, Cond.instanceMethod yX1_become, Cond.selects RX1 yX1_become yX1_become, Cond.code yX1_become cX1_become 2 none, Cond.fieldLink RX1 9 "DecimalRegisters$Natural" "limbs" "[J", Cond.methodLink RX1 17 arraycopyName, Cond.native arraycopyName, Cond.static arraycopyName, Cond.initialized "java/lang/System", Cond.methodLink RX2 67 yX1_raise, Cond.instanceMethod yX1_raise, Cond.selects RX1 yX1_raise yX1_raise, Cond.code yX1_raise cX1_raise 10 none, Cond.fieldLink RX1 42 "DecimalRegisters$Natural" "TENS" "[J", Cond.constantLong RX1 26 (1000000), Cond.methodLink RX1 47 yX1_close, Cond.instanceMethod yX1_close]
def wsX2_compare_r3 : List Cond := [Cond.selects RX1 yX1_close yX1_close, Cond.code yX1_close cX1_close 4 none, Cond.methodLink RX1 54 yX1_shift, Cond.instanceMethod yX1_shift, Cond.selects RX1 yX1_shift yX1_shift, Cond.code yX1_shift cX1_shift 3 none, Cond.methodLink RX2 127 yX1_order, Cond.instanceMethod yX1_order, Cond.selects RX1 yX1_order yX1_order, Cond.code yX1_order cX1_order 3 (some .int)]
def wsX2_compare : List Cond := .code yX2_compare cX2_compare 3 (some .int) :: ((wsX2_compare_r1 ++ (wsX2_compare_r2 ++ wsX2_compare_r3)) ++ wsX20 ++ wsX00 ++ wsX10)
def wsX2_same : List Cond := .code yX2_same cX2_same 5 (some .boolean) :: ([.fieldLink RX2 11 "DecimalRegisters" "registers" "[LDecimalRegisters$Decimal;", .fieldLink RX2 56 "DecimalRegisters$Decimal" "scale" "I", .fieldLink RX2 52 "DecimalRegisters$Decimal" "minus" "Z", .fieldLink RX2 23 "DecimalRegisters$Decimal" "digits" "LDecimalRegisters$Natural;", .methodLink RX2 48 yX2_isRegister, .static yX2_isRegister, .initialized RX2, .code yX2_isRegister cX2_isRegister 1 (some .boolean), .methodLink RX2 127 yX1_order, .instanceMethod yX1_order, .selects RX1 yX1_order yX1_order, .initialized RX1, .code yX1_order cX1_order 3 (some .int), .fieldLink RX1 13 "DecimalRegisters$Natural" "size" "I", .fieldLink RX1 9 "DecimalRegisters$Natural" "limbs" "[J"] ++ wsX20 ++ wsX00 ++ wsX10)
def wsX2_look_r1 : List Cond := [Cond.fieldLink RX2 11 "DecimalRegisters" "registers" "[LDecimalRegisters$Decimal;", Cond.fieldLink RX2 23 "DecimalRegisters$Decimal" "digits" "LDecimalRegisters$Natural;", Cond.fieldLink RX2 56 "DecimalRegisters$Decimal" "scale" "I", Cond.methodLink RX2 48 yX2_isRegister, Cond.static yX2_isRegister, Cond.initialized RX2, Cond.code yX2_isRegister cX2_isRegister 1 (some .boolean), Cond.methodLink RX2 130 yX0_sign, Cond.instanceMethod yX0_sign, Cond.selects RX0 yX0_sign yX0_sign, Cond.initialized RX0, Cond.code yX0_sign cX0_sign 1 (some .int), Cond.fieldLink RX0 10 "DecimalRegisters$Decimal" "digits" "LDecimalRegisters$Natural;", Cond.fieldLink RX0 16 "DecimalRegisters$Decimal" "minus" "Z", Cond.methodLink RX0 32 yX1_isZero, Cond.instanceMethod yX1_isZero, Cond.selects RX1 yX1_isZero yX1_isZero, Cond.initialized RX1, Cond.code yX1_isZero cX1_isZero 1 (some .boolean), Cond.fieldLink RX1 13 "DecimalRegisters$Natural" "size" "I", Cond.methodLink RX2 114 yX1_precision, Cond.instanceMethod yX1_precision, Cond.selects RX1 yX1_precision yX1_precision, Cond.code yX1_precision cX1_precision 2 (some .int)]
def wsX2_look_r2 : List Cond := [Cond.methodLink RX1 38 Lib.Math.max.name, Cond.static Lib.Math.max.name, Cond.initialized "java/lang/Math", Cond.code Lib.Math.max.name Lib.Math.max.code 2 (some .int), Cond.methodLink RX1 34 yX1_figure, Cond.instanceMethod yX1_figure, Cond.selects RX1 yX1_figure yX1_figure, Cond.code yX1_figure cX1_figure 3 (some .int), Cond.fieldLink RX1 9 "DecimalRegisters$Natural" "limbs" "[J", Cond.fieldLink RX1 42 "DecimalRegisters$Natural" "TENS" "[J", Cond.constantLong RX1 45 (10)]
def wsX2_look : List Cond := .code yX2_look cX2_look 3 (some .int) :: ((wsX2_look_r1 ++ wsX2_look_r2) ++ wsX20 ++ wsX00 ++ wsX10)
def wsX2_digit : List Cond := .code yX2_digit cX2_digit 3 (some .int) :: ([.fieldLink RX2 11 "DecimalRegisters" "registers" "[LDecimalRegisters$Decimal;", .fieldLink RX2 23 "DecimalRegisters$Decimal" "digits" "LDecimalRegisters$Natural;", .methodLink RX2 48 yX2_isRegister, .static yX2_isRegister, .initialized RX2, .code yX2_isRegister cX2_isRegister 1 (some .boolean), .methodLink RX2 114 yX1_precision, .instanceMethod yX1_precision, .selects RX1 yX1_precision yX1_precision, .initialized RX1, .code yX1_precision cX1_precision 2 (some .int), .fieldLink RX1 13 "DecimalRegisters$Natural" "size" "I", .methodLink RX1 38 Lib.Math.max.name, .static Lib.Math.max.name, .initialized "java/lang/Math", .code Lib.Math.max.name Lib.Math.max.code 2 (some .int), .methodLink RX1 34 yX1_figure, .instanceMethod yX1_figure, .selects RX1 yX1_figure yX1_figure, .code yX1_figure cX1_figure 3 (some .int), .fieldLink RX1 9 "DecimalRegisters$Natural" "limbs" "[J", .fieldLink RX1 42 "DecimalRegisters$Natural" "TENS" "[J", .constantLong RX1 45 (10), .methodLink RX2 133 yX1_figure] ++ wsX20 ++ wsX00 ++ wsX10)
def wsX2_whole_r1 : List Cond := [Cond.fieldLink RX2 11 "DecimalRegisters" "registers" "[LDecimalRegisters$Decimal;", Cond.fieldLink RX2 20 "DecimalRegisters" "one" "LDecimalRegisters$Decimal;", Cond.fieldLink RX2 16 "DecimalRegisters" "result" "LDecimalRegisters$Decimal;", Cond.fieldLink RX2 23 "DecimalRegisters$Decimal" "digits" "LDecimalRegisters$Natural;", Cond.fieldLink RX2 52 "DecimalRegisters$Decimal" "minus" "Z", Cond.methodLink RX2 48 yX2_isRegister, Cond.static yX2_isRegister, Cond.initialized RX2, Cond.code yX2_isRegister cX2_isRegister 1 (some .boolean), Cond.methodLink RX2 106 yX2_split, Cond.instanceMethod yX2_split, Cond.selects RX2 yX2_split yX2_split, Cond.code yX2_split cX2_split 4 none, Cond.fieldLink RX2 34 "DecimalRegisters" "top" "LDecimalRegisters$Natural;", Cond.fieldLink RX2 37 "DecimalRegisters" "bottom" "LDecimalRegisters$Natural;", Cond.fieldLink RX2 56 "DecimalRegisters$Decimal" "scale" "I", Cond.methodLink RX2 155 yX2_align, Cond.instanceMethod yX2_align, Cond.selects RX2 yX2_align yX2_align, Cond.code yX2_align cX2_align 5 none, Cond.methodLink RX2 153 yX1_become, Cond.instanceMethod yX1_become, Cond.selects RX1 yX1_become yX1_become, Cond.initialized RX1]
def wsX2_whole_r2 : List Cond := [Cond.code yX1_become cX1_become 2 none, Cond.fieldLink RX1 9 "DecimalRegisters$Natural" "limbs" "[J", Cond.methodLink RX1 17 arraycopyName, Cond.native arraycopyName, Cond.static arraycopyName, Cond.initialized "java/lang/System", Cond.fieldLink RX1 13 "DecimalRegisters$Natural" "size" "I", Cond.methodLink RX2 67 yX1_raise, Cond.instanceMethod yX1_raise, Cond.selects RX1 yX1_raise yX1_raise, Cond.code yX1_raise cX1_raise 10 none, Cond.fieldLink RX1 42 "DecimalRegisters$Natural" "TENS" "[J", Cond.constantLong RX1 26 (1000000), Cond.methodLink RX1 47 yX1_close, Cond.instanceMethod yX1_close, Cond.selects RX1 yX1_close yX1_close, Cond.code yX1_close cX1_close 4 none, Cond.methodLink RX1 54 yX1_shift, Cond.instanceMethod yX1_shift, Cond.selects RX1 yX1_shift yX1_shift, Cond.code yX1_shift cX1_shift 3 none, Cond.methodLink RX2 158 yX1_takeOut, Cond.instanceMethod yX1_takeOut, Cond.selects RX1 yX1_takeOut yX1_takeOut]
def wsX2_whole_r3 : List Cond := [Cond.code yX1_takeOut cX1_takeOut 7 none, Cond.constantLong RX1 66 (-1), Cond.methodLink RX1 23 yX1_clear, Cond.instanceMethod yX1_clear, Cond.selects RX1 yX1_clear yX1_clear, Cond.code yX1_clear cX1_clear 2 none, Cond.methodLink RX1 58 yX1_guess, Cond.instanceMethod yX1_guess, Cond.selects RX1 yX1_guess yX1_guess, Cond.code yX1_guess cX1_guess 8 (some .long), Cond.methodLink RX1 62 yX1_takeAway, Cond.instanceMethod yX1_takeAway, Cond.selects RX1 yX1_takeAway yX1_takeAway, Cond.code yX1_takeAway cX1_takeAway 10 none, Cond.methodLink RX1 68 yJ9_floorDiv_f86c9, Cond.static yJ9_floorDiv_f86c9, Cond.initialized RJ9, Cond.code yJ9_floorDiv_f86c9 cJ9_floorDiv_f86c9 6 (some .long), Cond.methodLink RX1 51 yX1_shrink, Cond.instanceMethod yX1_shrink, Cond.selects RX1 yX1_shrink yX1_shrink, Cond.code yX1_shrink cX1_shrink 1 none, Cond.methodLink RX2 136 yX1_lowestBits, Cond.instanceMethod yX1_lowestBits]
def wsX2_whole_r4 : List Cond := [Cond.selects RX1 yX1_lowestBits yX1_lowestBits, Cond.code yX1_lowestBits cX1_lowestBits 4 (some .long)]
def wsX2_whole : List Cond := .code yX2_whole cX2_whole 4 (some .long) :: ((wsX2_whole_r1 ++ (wsX2_whole_r2 ++ (wsX2_whole_r3 ++ wsX2_whole_r4))) ++ wsX20 ++ wsX00 ++ wsX10)
def wsX2_append : List Cond := .code yX2_append cX2_append 2 none :: ([.fieldLink RX2 44 "DecimalRegisters" "textLength" "I", .fieldLink RX2 40 "DecimalRegisters" "text" "[C"] ++ wsX20)
def wsX2_appendFigures_r1 : List Cond := [Cond.fieldLink RX2 23 "DecimalRegisters$Decimal" "digits" "LDecimalRegisters$Natural;", Cond.fieldLink RX2 56 "DecimalRegisters$Decimal" "scale" "I", Cond.methodLink RX2 100 Lib.Math.max.name, Cond.static Lib.Math.max.name, Cond.initialized "java/lang/Math", Cond.code Lib.Math.max.name Lib.Math.max.code 2 (some .int), Cond.methodLink RX2 114 yX1_precision, Cond.instanceMethod yX1_precision, Cond.selects RX1 yX1_precision yX1_precision, Cond.initialized RX1, Cond.code yX1_precision cX1_precision 2 (some .int), Cond.fieldLink RX1 13 "DecimalRegisters$Natural" "size" "I", Cond.methodLink RX1 38 Lib.Math.max.name, Cond.methodLink RX1 34 yX1_figure, Cond.instanceMethod yX1_figure, Cond.selects RX1 yX1_figure yX1_figure, Cond.code yX1_figure cX1_figure 3 (some .int), Cond.fieldLink RX1 9 "DecimalRegisters$Natural" "limbs" "[J", Cond.fieldLink RX1 42 "DecimalRegisters$Natural" "TENS" "[J", Cond.constantLong RX1 45 (10), Cond.methodLink RX2 133 yX1_figure, Cond.methodLink RX2 140 yX2_append, Cond.instanceMethod yX2_append, Cond.selects RX2 yX2_append yX2_append]
def wsX2_appendFigures_r2 : List Cond := [Cond.initialized RX2, Cond.code yX2_append cX2_append 2 none, Cond.fieldLink RX2 44 "DecimalRegisters" "textLength" "I", Cond.fieldLink RX2 40 "DecimalRegisters" "text" "[C"]
def wsX2_appendFigures : List Cond := .code yX2_appendFigures cX2_appendFigures 3 none :: ((wsX2_appendFigures_r1 ++ wsX2_appendFigures_r2) ++ wsX00 ++ wsX10 ++ wsX20)
def wsX2_appendZeros : List Cond := .code yX2_appendZeros cX2_appendZeros 3 none :: ([.methodLink RX2 140 yX2_append, .instanceMethod yX2_append, .selects RX2 yX2_append yX2_append, .initialized RX2, .code yX2_append cX2_append 2 none, .fieldLink RX2 44 "DecimalRegisters" "textLength" "I", .fieldLink RX2 40 "DecimalRegisters" "text" "[C"] ++ wsX20)
def wsX2_write_r1 : List Cond := [Cond.fieldLink RX2 11 "DecimalRegisters" "registers" "[LDecimalRegisters$Decimal;", Cond.fieldLink RX2 44 "DecimalRegisters" "textLength" "I", Cond.fieldLink RX2 52 "DecimalRegisters$Decimal" "minus" "Z", Cond.fieldLink RX2 23 "DecimalRegisters$Decimal" "digits" "LDecimalRegisters$Natural;", Cond.fieldLink RX2 56 "DecimalRegisters$Decimal" "scale" "I", Cond.methodLink RX2 48 yX2_isRegister, Cond.static yX2_isRegister, Cond.initialized RX2, Cond.code yX2_isRegister cX2_isRegister 1 (some .boolean), Cond.methodLink RX2 140 yX2_append, Cond.instanceMethod yX2_append, Cond.selects RX2 yX2_append yX2_append, Cond.code yX2_append cX2_append 2 none, Cond.fieldLink RX2 40 "DecimalRegisters" "text" "[C", Cond.methodLink RX2 144 yX2_appendFigures, Cond.instanceMethod yX2_appendFigures, Cond.selects RX2 yX2_appendFigures yX2_appendFigures, Cond.code yX2_appendFigures cX2_appendFigures 3 none, Cond.methodLink RX2 100 Lib.Math.max.name, Cond.static Lib.Math.max.name, Cond.initialized "java/lang/Math", Cond.code Lib.Math.max.name Lib.Math.max.code 2 (some .int), Cond.methodLink RX2 114 yX1_precision, Cond.instanceMethod yX1_precision]
def wsX2_write_r2 : List Cond := [Cond.selects RX1 yX1_precision yX1_precision, Cond.initialized RX1, Cond.code yX1_precision cX1_precision 2 (some .int), Cond.fieldLink RX1 13 "DecimalRegisters$Natural" "size" "I", Cond.methodLink RX1 38 Lib.Math.max.name, Cond.methodLink RX1 34 yX1_figure, Cond.instanceMethod yX1_figure, Cond.selects RX1 yX1_figure yX1_figure, Cond.code yX1_figure cX1_figure 3 (some .int), Cond.fieldLink RX1 9 "DecimalRegisters$Natural" "limbs" "[J", Cond.fieldLink RX1 42 "DecimalRegisters$Natural" "TENS" "[J", Cond.constantLong RX1 45 (10), Cond.methodLink RX2 133 yX1_figure, Cond.methodLink RX2 92 yX1_isZero, Cond.instanceMethod yX1_isZero, Cond.selects RX1 yX1_isZero yX1_isZero, Cond.code yX1_isZero cX1_isZero 1 (some .boolean), Cond.methodLink RX2 147 yX2_appendZeros, Cond.instanceMethod yX2_appendZeros, Cond.selects RX2 yX2_appendZeros yX2_appendZeros, Cond.code yX2_appendZeros cX2_appendZeros 3 none]
def wsX2_write : List Cond := .code yX2_write cX2_write 3 (some .int) :: ((wsX2_write_r1 ++ wsX2_write_r2) ++ wsX20 ++ wsX00 ++ wsX10)
def wsX2_octet : List Cond := .code yX2_octet cX2_octet 2 (some .int) :: ([.fieldLink RX2 44 "DecimalRegisters" "textLength" "I", .fieldLink RX2 40 "DecimalRegisters" "text" "[C"] ++ wsX20)
def wsX3_init : List Cond := .code yX3_init cX3_init 1 none :: ([.methodLink RX3 1 objectInit, .instanceMethod objectInit, .code objectInit ⟨#[0xb1]⟩ 1 none, .arrayClass .int, .fieldLink RX3 7 "DecimalRegistersModel$Row" "d" "[I", .fieldLink RX3 13 "DecimalRegistersModel$Row" "n" "I"] ++ wsX30)
def wsX3_isZero : List Cond := .code yX3_isZero cX3_isZero 1 (some .boolean) :: ([.fieldLink RX3 13 "DecimalRegistersModel$Row" "n" "I", .fieldLink RX3 7 "DecimalRegistersModel$Row" "d" "[I"] ++ wsX30)
def wsX3_zero : List Cond := .code yX3_zero cX3_zero 1 none :: ([.fieldLink RX3 13 "DecimalRegistersModel$Row" "n" "I", .fieldLink RX3 7 "DecimalRegistersModel$Row" "d" "[I", .fieldLink RX3 17 "DecimalRegistersModel$Row" "minus" "Z"] ++ wsX30)
def wsX3_trim : List Cond := .code yX3_trim cX3_trim 1 none :: ([.fieldLink RX3 13 "DecimalRegistersModel$Row" "n" "I", .fieldLink RX3 7 "DecimalRegistersModel$Row" "d" "[I", .fieldLink RX3 17 "DecimalRegistersModel$Row" "minus" "Z", .methodLink RX3 21 yX3_isZero, .instanceMethod yX3_isZero, .selects RX3 yX3_isZero yX3_isZero, .initialized RX3, .code yX3_isZero cX3_isZero 1 (some .boolean)] ++ wsX30)
def wsX3_take : List Cond := .code yX3_take cX3_take 3 none :: ([.fieldLink RX3 13 "DecimalRegistersModel$Row" "n" "I", .fieldLink RX3 17 "DecimalRegistersModel$Row" "minus" "Z", .fieldLink RX3 25 "DecimalRegistersModel$Row" "scale" "I", .fieldLink RX3 7 "DecimalRegistersModel$Row" "d" "[I"] ++ wsX30)
def wsX3_up : List Cond := .code yX3_up cX3_up 3 none :: ([.fieldLink RX3 13 "DecimalRegistersModel$Row" "n" "I", .fieldLink RX3 7 "DecimalRegistersModel$Row" "d" "[I", .methodLink RX3 21 yX3_isZero, .instanceMethod yX3_isZero, .selects RX3 yX3_isZero yX3_isZero, .initialized RX3, .code yX3_isZero cX3_isZero 1 (some .boolean)] ++ wsX30)
def wsX3_ends : List Cond := .code yX3_ends cX3_ends 3 (some .boolean) :: ([.fieldLink RX3 13 "DecimalRegistersModel$Row" "n" "I", .fieldLink RX3 7 "DecimalRegistersModel$Row" "d" "[I"] ++ wsX30)
def wsX3_more : List Cond := .code yX3_more cX3_more 2 none :: ([.fieldLink RX3 13 "DecimalRegistersModel$Row" "n" "I", .fieldLink RX3 7 "DecimalRegistersModel$Row" "d" "[I"] ++ wsX30)
def wsX4_init : List Cond := .code yX4_init cX4_init 2 none :: ([.methodLink RX4 1 objectInit, .instanceMethod objectInit, .code objectInit ⟨#[0xb1]⟩ 1 none, .classLink RX4 7 RX3, .fieldLink RX4 9 "DecimalRegistersModel" "registers" "[LDecimalRegistersModel$Row;", .instantiable RX3 4, .initialized RX3, .fieldLink RX4 16 "DecimalRegistersModel" "a" "LDecimalRegistersModel$Row;", .fieldLink RX4 20 "DecimalRegistersModel" "b" "LDecimalRegistersModel$Row;", .fieldLink RX4 23 "DecimalRegistersModel" "c" "LDecimalRegistersModel$Row;", .fieldLink RX4 26 "DecimalRegistersModel" "e" "LDecimalRegistersModel$Row;", .arrayClass .int, .fieldLink RX4 29 "DecimalRegistersModel" "text" "[I", .instanceMethod yX3_init, .code yX3_init cX3_init 1 none, .methodLink RX3 1 objectInit, .fieldLink RX3 7 "DecimalRegistersModel$Row" "d" "[I", .fieldLink RX3 13 "DecimalRegistersModel$Row" "n" "I"] ++ wsX40 ++ wsX30)
def wsX4_is : List Cond := .code yX4_is cX4_is 1 (some .boolean) :: ([])
def wsX4_isScale : List Cond := .code yX4_isScale cX4_isScale 2 (some .boolean) :: ([.constantLong RX4 33 (-6), .constantLong RX4 35 (6)])
def wsX4_keep : List Cond := .code yX4_keep cX4_keep 3 (some .int) :: ([.fieldLink RX4 37 "DecimalRegistersModel$Row" "n" "I", .fieldLink RX4 41 "DecimalRegistersModel$Row" "scale" "I", .fieldLink RX4 9 "DecimalRegistersModel" "registers" "[LDecimalRegistersModel$Row;", .methodLink RX4 44 yX4_isScale, .static yX4_isScale, .initialized RX4, .code yX4_isScale cX4_isScale 2 (some .boolean), .constantLong RX4 33 (-6), .constantLong RX4 35 (6), .methodLink RX4 48 yX3_take, .instanceMethod yX3_take, .selects RX3 yX3_take yX3_take, .initialized RX3, .code yX3_take cX3_take 3 none, .fieldLink RX3 13 "DecimalRegistersModel$Row" "n" "I", .fieldLink RX3 17 "DecimalRegistersModel$Row" "minus" "Z", .fieldLink RX3 25 "DecimalRegistersModel$Row" "scale" "I", .fieldLink RX3 7 "DecimalRegistersModel$Row" "d" "[I"] ++ wsX30 ++ wsX40)
def wsX4_load : List Cond := .code yX4_load cX4_load 10 (some .int) :: ([.fieldLink RX4 9 "DecimalRegistersModel" "registers" "[LDecimalRegistersModel$Row;", .fieldLink RX4 37 "DecimalRegistersModel$Row" "n" "I", .constantLong RX4 56 (10), .fieldLink RX4 58 "DecimalRegistersModel$Row" "d" "[I", .fieldLink RX4 61 "DecimalRegistersModel$Row" "minus" "Z", .fieldLink RX4 41 "DecimalRegistersModel$Row" "scale" "I", .methodLink RX4 52 yX4_is, .static yX4_is, .initialized RX4, .code yX4_is cX4_is 1 (some .boolean), .methodLink RX4 44 yX4_isScale, .static yX4_isScale, .code yX4_isScale cX4_isScale 2 (some .boolean), .constantLong RX4 33 (-6), .constantLong RX4 35 (6)] ++ wsX40 ++ wsX30)
def wsX4_push_r1 : List Cond := [Cond.fieldLink RX4 16 "DecimalRegistersModel" "a" "LDecimalRegistersModel$Row;", Cond.fieldLink RX4 9 "DecimalRegistersModel" "registers" "[LDecimalRegistersModel$Row;", Cond.fieldLink RX4 37 "DecimalRegistersModel$Row" "n" "I", Cond.fieldLink RX4 58 "DecimalRegistersModel$Row" "d" "[I", Cond.constantLong RX4 56 (10), Cond.methodLink RX4 52 yX4_is, Cond.static yX4_is, Cond.initialized RX4, Cond.code yX4_is cX4_is 1 (some .boolean), Cond.methodLink RX4 48 yX3_take, Cond.instanceMethod yX3_take, Cond.selects RX3 yX3_take yX3_take, Cond.initialized RX3, Cond.code yX3_take cX3_take 3 none, Cond.fieldLink RX3 13 "DecimalRegistersModel$Row" "n" "I", Cond.fieldLink RX3 17 "DecimalRegistersModel$Row" "minus" "Z", Cond.fieldLink RX3 25 "DecimalRegistersModel$Row" "scale" "I", Cond.fieldLink RX3 7 "DecimalRegistersModel$Row" "d" "[I", Cond.methodLink RX4 65 yX3_trim, Cond.instanceMethod yX3_trim, Cond.selects RX3 yX3_trim yX3_trim, Cond.code yX3_trim cX3_trim 1 none, Cond.methodLink RX3 21 yX3_isZero, Cond.instanceMethod yX3_isZero]
def wsX4_push_r2 : List Cond := [Cond.selects RX3 yX3_isZero yX3_isZero, Cond.code yX3_isZero cX3_isZero 1 (some .boolean), Cond.methodLink RX4 68 yX4_keep, Cond.instanceMethod yX4_keep, Cond.selects RX4 yX4_keep yX4_keep, Cond.code yX4_keep cX4_keep 3 (some .int), Cond.fieldLink RX4 41 "DecimalRegistersModel$Row" "scale" "I", Cond.methodLink RX4 44 yX4_isScale, Cond.static yX4_isScale, Cond.code yX4_isScale cX4_isScale 2 (some .boolean), Cond.constantLong RX4 33 (-6), Cond.constantLong RX4 35 (6)]
def wsX4_push : List Cond := .code yX4_push cX4_push 9 (some .int) :: ((wsX4_push_r1 ++ wsX4_push_r2) ++ wsX40 ++ wsX30)
def wsX4_sizes : List Cond := .code yX4_sizes cX4_sizes 3 (some .int) :: ([.fieldLink RX4 37 "DecimalRegistersModel$Row" "n" "I", .fieldLink RX4 58 "DecimalRegistersModel$Row" "d" "[I"] ++ wsX30)
def wsX4_align : List Cond := .code yX4_align cX4_align 4 none :: ([.fieldLink RX4 16 "DecimalRegistersModel" "a" "LDecimalRegistersModel$Row;", .fieldLink RX4 9 "DecimalRegistersModel" "registers" "[LDecimalRegistersModel$Row;", .fieldLink RX4 20 "DecimalRegistersModel" "b" "LDecimalRegistersModel$Row;", .fieldLink RX4 41 "DecimalRegistersModel$Row" "scale" "I", .methodLink RX4 48 yX3_take, .instanceMethod yX3_take, .selects RX3 yX3_take yX3_take, .initialized RX3, .code yX3_take cX3_take 3 none, .fieldLink RX3 13 "DecimalRegistersModel$Row" "n" "I", .fieldLink RX3 17 "DecimalRegistersModel$Row" "minus" "Z", .fieldLink RX3 25 "DecimalRegistersModel$Row" "scale" "I", .fieldLink RX3 7 "DecimalRegistersModel$Row" "d" "[I", .methodLink RX4 72 yX3_up, .instanceMethod yX3_up, .selects RX3 yX3_up yX3_up, .code yX3_up cX3_up 3 none, .methodLink RX3 21 yX3_isZero, .instanceMethod yX3_isZero, .selects RX3 yX3_isZero yX3_isZero, .code yX3_isZero cX3_isZero 1 (some .boolean)] ++ wsX40 ++ wsX30)
def wsX4_order_r1 : List Cond := [Cond.fieldLink RX4 16 "DecimalRegistersModel" "a" "LDecimalRegistersModel$Row;", Cond.fieldLink RX4 61 "DecimalRegistersModel$Row" "minus" "Z", Cond.fieldLink RX4 20 "DecimalRegistersModel" "b" "LDecimalRegistersModel$Row;", Cond.methodLink RX4 76 yX4_align, Cond.instanceMethod yX4_align, Cond.selects RX4 yX4_align yX4_align, Cond.initialized RX4, Cond.code yX4_align cX4_align 4 none, Cond.fieldLink RX4 9 "DecimalRegistersModel" "registers" "[LDecimalRegistersModel$Row;", Cond.fieldLink RX4 41 "DecimalRegistersModel$Row" "scale" "I", Cond.methodLink RX4 48 yX3_take, Cond.instanceMethod yX3_take, Cond.selects RX3 yX3_take yX3_take, Cond.initialized RX3, Cond.code yX3_take cX3_take 3 none, Cond.fieldLink RX3 13 "DecimalRegistersModel$Row" "n" "I", Cond.fieldLink RX3 17 "DecimalRegistersModel$Row" "minus" "Z", Cond.fieldLink RX3 25 "DecimalRegistersModel$Row" "scale" "I", Cond.fieldLink RX3 7 "DecimalRegistersModel$Row" "d" "[I", Cond.methodLink RX4 72 yX3_up, Cond.instanceMethod yX3_up, Cond.selects RX3 yX3_up yX3_up, Cond.code yX3_up cX3_up 3 none, Cond.methodLink RX3 21 yX3_isZero]
def wsX4_order_r2 : List Cond := [Cond.instanceMethod yX3_isZero, Cond.selects RX3 yX3_isZero yX3_isZero, Cond.code yX3_isZero cX3_isZero 1 (some .boolean), Cond.methodLink RX4 80 yX4_sizes, Cond.static yX4_sizes, Cond.code yX4_sizes cX4_sizes 3 (some .int), Cond.fieldLink RX4 37 "DecimalRegistersModel$Row" "n" "I", Cond.fieldLink RX4 58 "DecimalRegistersModel$Row" "d" "[I"]
def wsX4_order : List Cond := .code yX4_order cX4_order 4 (some .int) :: ((wsX4_order_r1 ++ wsX4_order_r2) ++ wsX40 ++ wsX30)
def wsX4_sum : List Cond := .code yX4_sum cX4_sum 8 none :: ([.fieldLink RX4 20 "DecimalRegistersModel" "b" "LDecimalRegistersModel$Row;", .fieldLink RX4 61 "DecimalRegistersModel$Row" "minus" "Z", .fieldLink RX4 23 "DecimalRegistersModel" "c" "LDecimalRegistersModel$Row;", .fieldLink RX4 16 "DecimalRegistersModel" "a" "LDecimalRegistersModel$Row;", .fieldLink RX4 41 "DecimalRegistersModel$Row" "scale" "I", .fieldLink RX4 37 "DecimalRegistersModel$Row" "n" "I", .fieldLink RX4 58 "DecimalRegistersModel$Row" "d" "[I", .methodLink RX4 84 yX3_isZero, .instanceMethod yX3_isZero, .selects RX3 yX3_isZero yX3_isZero, .initialized RX3, .code yX3_isZero cX3_isZero 1 (some .boolean), .fieldLink RX3 13 "DecimalRegistersModel$Row" "n" "I", .fieldLink RX3 7 "DecimalRegistersModel$Row" "d" "[I", .methodLink RX4 80 yX4_sizes, .static yX4_sizes, .initialized RX4, .code yX4_sizes cX4_sizes 3 (some .int), .methodLink RX4 65 yX3_trim, .instanceMethod yX3_trim, .selects RX3 yX3_trim yX3_trim, .code yX3_trim cX3_trim 1 none, .fieldLink RX3 17 "DecimalRegistersModel$Row" "minus" "Z", .methodLink RX3 21 yX3_isZero] ++ wsX40 ++ wsX30)
def wsX4_product : List Cond := .code yX4_product cX4_product 7 none :: ([.fieldLink RX4 37 "DecimalRegistersModel$Row" "n" "I", .fieldLink RX4 58 "DecimalRegistersModel$Row" "d" "[I", .fieldLink RX4 61 "DecimalRegistersModel$Row" "minus" "Z", .fieldLink RX4 41 "DecimalRegistersModel$Row" "scale" "I", .methodLink RX4 65 yX3_trim, .instanceMethod yX3_trim, .selects RX3 yX3_trim yX3_trim, .initialized RX3, .code yX3_trim cX3_trim 1 none, .fieldLink RX3 13 "DecimalRegistersModel$Row" "n" "I", .fieldLink RX3 7 "DecimalRegistersModel$Row" "d" "[I", .fieldLink RX3 17 "DecimalRegistersModel$Row" "minus" "Z", .methodLink RX3 21 yX3_isZero, .instanceMethod yX3_isZero, .selects RX3 yX3_isZero yX3_isZero, .code yX3_isZero cX3_isZero 1 (some .boolean)] ++ wsX30)
def wsX4_reckon_r1 : List Cond := [Cond.fieldLink RX4 16 "DecimalRegistersModel" "a" "LDecimalRegistersModel$Row;", Cond.fieldLink RX4 9 "DecimalRegistersModel" "registers" "[LDecimalRegistersModel$Row;", Cond.fieldLink RX4 23 "DecimalRegistersModel" "c" "LDecimalRegistersModel$Row;", Cond.methodLink RX4 52 yX4_is, Cond.static yX4_is, Cond.initialized RX4, Cond.code yX4_is cX4_is 1 (some .boolean), Cond.methodLink RX4 88 yX4_order, Cond.instanceMethod yX4_order, Cond.selects RX4 yX4_order yX4_order, Cond.code yX4_order cX4_order 4 (some .int), Cond.fieldLink RX4 61 "DecimalRegistersModel$Row" "minus" "Z", Cond.fieldLink RX4 20 "DecimalRegistersModel" "b" "LDecimalRegistersModel$Row;", Cond.methodLink RX4 76 yX4_align, Cond.instanceMethod yX4_align, Cond.selects RX4 yX4_align yX4_align, Cond.code yX4_align cX4_align 4 none, Cond.fieldLink RX4 41 "DecimalRegistersModel$Row" "scale" "I", Cond.methodLink RX4 48 yX3_take, Cond.instanceMethod yX3_take, Cond.selects RX3 yX3_take yX3_take, Cond.initialized RX3, Cond.code yX3_take cX3_take 3 none, Cond.fieldLink RX3 13 "DecimalRegistersModel$Row" "n" "I"]
def wsX4_reckon_r2 : List Cond := [Cond.fieldLink RX3 17 "DecimalRegistersModel$Row" "minus" "Z", Cond.fieldLink RX3 25 "DecimalRegistersModel$Row" "scale" "I", Cond.fieldLink RX3 7 "DecimalRegistersModel$Row" "d" "[I", Cond.methodLink RX4 72 yX3_up, Cond.instanceMethod yX3_up, Cond.selects RX3 yX3_up yX3_up, Cond.code yX3_up cX3_up 3 none, Cond.methodLink RX3 21 yX3_isZero, Cond.instanceMethod yX3_isZero, Cond.selects RX3 yX3_isZero yX3_isZero, Cond.code yX3_isZero cX3_isZero 1 (some .boolean), Cond.methodLink RX4 80 yX4_sizes, Cond.static yX4_sizes, Cond.code yX4_sizes cX4_sizes 3 (some .int), Cond.fieldLink RX4 37 "DecimalRegistersModel$Row" "n" "I", Cond.fieldLink RX4 58 "DecimalRegistersModel$Row" "d" "[I", Cond.methodLink RX4 68 yX4_keep, Cond.instanceMethod yX4_keep, Cond.selects RX4 yX4_keep yX4_keep, Cond.code yX4_keep cX4_keep 3 (some .int), Cond.methodLink RX4 44 yX4_isScale, Cond.static yX4_isScale, Cond.code yX4_isScale cX4_isScale 2 (some .boolean), Cond.constantLong RX4 33 (-6)]
def wsX4_reckon_r3 : List Cond := [Cond.constantLong RX4 35 (6), Cond.methodLink RX4 92 yX4_product, Cond.static yX4_product, Cond.code yX4_product cX4_product 7 none, Cond.methodLink RX4 65 yX3_trim, Cond.instanceMethod yX3_trim, Cond.selects RX3 yX3_trim yX3_trim, Cond.code yX3_trim cX3_trim 1 none, Cond.methodLink RX4 96 yX4_sum, Cond.instanceMethod yX4_sum, Cond.selects RX4 yX4_sum yX4_sum, Cond.code yX4_sum cX4_sum 8 none, Cond.methodLink RX4 84 yX3_isZero]
def wsX4_reckon : List Cond := .code yX4_reckon cX4_reckon 7 (some .int) :: ((wsX4_reckon_r1 ++ (wsX4_reckon_r2 ++ wsX4_reckon_r3)) ++ wsX40 ++ wsX30)
def wsX4_over : List Cond := .code yX4_over cX4_over 6 none :: ([.fieldLink RX4 23 "DecimalRegistersModel" "c" "LDecimalRegistersModel$Row;", .fieldLink RX4 16 "DecimalRegistersModel" "a" "LDecimalRegistersModel$Row;", .fieldLink RX4 37 "DecimalRegistersModel$Row" "n" "I", .fieldLink RX4 26 "DecimalRegistersModel" "e" "LDecimalRegistersModel$Row;", .fieldLink RX4 58 "DecimalRegistersModel$Row" "d" "[I", .fieldLink RX4 20 "DecimalRegistersModel" "b" "LDecimalRegistersModel$Row;", .methodLink RX4 80 yX4_sizes, .static yX4_sizes, .initialized RX4, .code yX4_sizes cX4_sizes 3 (some .int)] ++ wsX40 ++ wsX30)
def wsX4_turns : List Cond := .code yX4_turns cX4_turns 4 (some .boolean) :: ([])
def wsX4_divide_r1 : List Cond := [Cond.fieldLink RX4 9 "DecimalRegistersModel" "registers" "[LDecimalRegistersModel$Row;", Cond.fieldLink RX4 16 "DecimalRegistersModel" "a" "LDecimalRegistersModel$Row;", Cond.fieldLink RX4 20 "DecimalRegistersModel" "b" "LDecimalRegistersModel$Row;", Cond.fieldLink RX4 61 "DecimalRegistersModel$Row" "minus" "Z", Cond.fieldLink RX4 41 "DecimalRegistersModel$Row" "scale" "I", Cond.fieldLink RX4 37 "DecimalRegistersModel$Row" "n" "I", Cond.fieldLink RX4 58 "DecimalRegistersModel$Row" "d" "[I", Cond.fieldLink RX4 23 "DecimalRegistersModel" "c" "LDecimalRegistersModel$Row;", Cond.methodLink RX4 52 yX4_is, Cond.static yX4_is, Cond.initialized RX4, Cond.code yX4_is cX4_is 1 (some .boolean), Cond.methodLink RX4 84 yX3_isZero, Cond.instanceMethod yX3_isZero, Cond.selects RX3 yX3_isZero yX3_isZero, Cond.initialized RX3, Cond.code yX3_isZero cX3_isZero 1 (some .boolean), Cond.fieldLink RX3 13 "DecimalRegistersModel$Row" "n" "I", Cond.fieldLink RX3 7 "DecimalRegistersModel$Row" "d" "[I", Cond.methodLink RX4 44 yX4_isScale, Cond.static yX4_isScale, Cond.code yX4_isScale cX4_isScale 2 (some .boolean), Cond.constantLong RX4 33 (-6), Cond.constantLong RX4 35 (6)]
def wsX4_divide_r2 : List Cond := [Cond.methodLink RX4 48 yX3_take, Cond.instanceMethod yX3_take, Cond.selects RX3 yX3_take yX3_take, Cond.code yX3_take cX3_take 3 none, Cond.fieldLink RX3 17 "DecimalRegistersModel$Row" "minus" "Z", Cond.fieldLink RX3 25 "DecimalRegistersModel$Row" "scale" "I", Cond.methodLink RX4 72 yX3_up, Cond.instanceMethod yX3_up, Cond.selects RX3 yX3_up yX3_up, Cond.code yX3_up cX3_up 3 none, Cond.methodLink RX3 21 yX3_isZero, Cond.methodLink RX4 100 yX4_over, Cond.instanceMethod yX4_over, Cond.selects RX4 yX4_over yX4_over, Cond.code yX4_over cX4_over 6 none, Cond.fieldLink RX4 26 "DecimalRegistersModel" "e" "LDecimalRegistersModel$Row;", Cond.methodLink RX4 80 yX4_sizes, Cond.static yX4_sizes, Cond.code yX4_sizes cX4_sizes 3 (some .int), Cond.methodLink RX4 103 yX4_turns, Cond.static yX4_turns, Cond.code yX4_turns cX4_turns 4 (some .boolean), Cond.methodLink RX4 107 yX3_more, Cond.instanceMethod yX3_more]
def wsX4_divide_r3 : List Cond := [Cond.selects RX3 yX3_more yX3_more, Cond.code yX3_more cX3_more 2 none, Cond.methodLink RX4 65 yX3_trim, Cond.instanceMethod yX3_trim, Cond.selects RX3 yX3_trim yX3_trim, Cond.code yX3_trim cX3_trim 1 none, Cond.methodLink RX4 68 yX4_keep, Cond.instanceMethod yX4_keep, Cond.selects RX4 yX4_keep yX4_keep, Cond.code yX4_keep cX4_keep 3 (some .int)]
def wsX4_divide : List Cond := .code yX4_divide cX4_divide 11 (some .int) :: ((wsX4_divide_r1 ++ (wsX4_divide_r2 ++ wsX4_divide_r3)) ++ wsX40 ++ wsX30)
def wsX4_part_r1 : List Cond := [Cond.fieldLink RX4 9 "DecimalRegistersModel" "registers" "[LDecimalRegistersModel$Row;", Cond.fieldLink RX4 16 "DecimalRegistersModel" "a" "LDecimalRegistersModel$Row;", Cond.fieldLink RX4 61 "DecimalRegistersModel$Row" "minus" "Z", Cond.fieldLink RX4 23 "DecimalRegistersModel" "c" "LDecimalRegistersModel$Row;", Cond.fieldLink RX4 20 "DecimalRegistersModel" "b" "LDecimalRegistersModel$Row;", Cond.fieldLink RX4 41 "DecimalRegistersModel$Row" "scale" "I", Cond.fieldLink RX4 37 "DecimalRegistersModel$Row" "n" "I", Cond.methodLink RX4 52 yX4_is, Cond.static yX4_is, Cond.initialized RX4, Cond.code yX4_is cX4_is 1 (some .boolean), Cond.methodLink RX4 84 yX3_isZero, Cond.instanceMethod yX3_isZero, Cond.selects RX3 yX3_isZero yX3_isZero, Cond.initialized RX3, Cond.code yX3_isZero cX3_isZero 1 (some .boolean), Cond.fieldLink RX3 13 "DecimalRegistersModel$Row" "n" "I", Cond.fieldLink RX3 7 "DecimalRegistersModel$Row" "d" "[I", Cond.methodLink RX4 76 yX4_align, Cond.instanceMethod yX4_align, Cond.selects RX4 yX4_align yX4_align, Cond.code yX4_align cX4_align 4 none, Cond.methodLink RX4 48 yX3_take, Cond.instanceMethod yX3_take]
def wsX4_part_r2 : List Cond := [Cond.selects RX3 yX3_take yX3_take, Cond.code yX3_take cX3_take 3 none, Cond.fieldLink RX3 17 "DecimalRegistersModel$Row" "minus" "Z", Cond.fieldLink RX3 25 "DecimalRegistersModel$Row" "scale" "I", Cond.methodLink RX4 72 yX3_up, Cond.instanceMethod yX3_up, Cond.selects RX3 yX3_up yX3_up, Cond.code yX3_up cX3_up 3 none, Cond.methodLink RX3 21 yX3_isZero, Cond.methodLink RX4 100 yX4_over, Cond.instanceMethod yX4_over, Cond.selects RX4 yX4_over yX4_over, Cond.code yX4_over cX4_over 6 none, Cond.fieldLink RX4 26 "DecimalRegistersModel" "e" "LDecimalRegistersModel$Row;", Cond.fieldLink RX4 58 "DecimalRegistersModel$Row" "d" "[I", Cond.methodLink RX4 80 yX4_sizes, Cond.static yX4_sizes, Cond.code yX4_sizes cX4_sizes 3 (some .int), Cond.methodLink RX4 65 yX3_trim, Cond.instanceMethod yX3_trim, Cond.selects RX3 yX3_trim yX3_trim, Cond.code yX3_trim cX3_trim 1 none]
def wsX4_part : List Cond := .code yX4_part cX4_part 7 (some .int) :: ((wsX4_part_r1 ++ wsX4_part_r2) ++ wsX40 ++ wsX30)
def wsX4_cut : List Cond := .code yX4_cut cX4_cut 8 (some .boolean) :: ([.fieldLink RX4 16 "DecimalRegistersModel" "a" "LDecimalRegistersModel$Row;", .fieldLink RX4 37 "DecimalRegistersModel$Row" "n" "I", .fieldLink RX4 58 "DecimalRegistersModel$Row" "d" "[I", .fieldLink RX4 61 "DecimalRegistersModel$Row" "minus" "Z", .methodLink RX4 110 yX3_ends, .instanceMethod yX3_ends, .selects RX3 yX3_ends yX3_ends, .initialized RX3, .code yX3_ends cX3_ends 3 (some .boolean), .fieldLink RX3 13 "DecimalRegistersModel$Row" "n" "I", .fieldLink RX3 7 "DecimalRegistersModel$Row" "d" "[I", .methodLink RX4 103 yX4_turns, .static yX4_turns, .initialized RX4, .code yX4_turns cX4_turns 4 (some .boolean), .methodLink RX4 107 yX3_more, .instanceMethod yX3_more, .selects RX3 yX3_more yX3_more, .code yX3_more cX3_more 2 none] ++ wsX40 ++ wsX30)
def wsX4_scale_r1 : List Cond := [Cond.fieldLink RX4 16 "DecimalRegistersModel" "a" "LDecimalRegistersModel$Row;", Cond.fieldLink RX4 9 "DecimalRegistersModel" "registers" "[LDecimalRegistersModel$Row;", Cond.fieldLink RX4 41 "DecimalRegistersModel$Row" "scale" "I", Cond.methodLink RX4 52 yX4_is, Cond.static yX4_is, Cond.initialized RX4, Cond.code yX4_is cX4_is 1 (some .boolean), Cond.methodLink RX4 44 yX4_isScale, Cond.static yX4_isScale, Cond.code yX4_isScale cX4_isScale 2 (some .boolean), Cond.constantLong RX4 33 (-6), Cond.constantLong RX4 35 (6), Cond.methodLink RX4 48 yX3_take, Cond.instanceMethod yX3_take, Cond.selects RX3 yX3_take yX3_take, Cond.initialized RX3, Cond.code yX3_take cX3_take 3 none, Cond.fieldLink RX3 13 "DecimalRegistersModel$Row" "n" "I", Cond.fieldLink RX3 17 "DecimalRegistersModel$Row" "minus" "Z", Cond.fieldLink RX3 25 "DecimalRegistersModel$Row" "scale" "I", Cond.fieldLink RX3 7 "DecimalRegistersModel$Row" "d" "[I", Cond.methodLink RX4 72 yX3_up, Cond.instanceMethod yX3_up, Cond.selects RX3 yX3_up yX3_up]
def wsX4_scale_r2 : List Cond := [Cond.code yX3_up cX3_up 3 none, Cond.methodLink RX3 21 yX3_isZero, Cond.instanceMethod yX3_isZero, Cond.selects RX3 yX3_isZero yX3_isZero, Cond.code yX3_isZero cX3_isZero 1 (some .boolean), Cond.methodLink RX4 113 yX4_cut, Cond.instanceMethod yX4_cut, Cond.selects RX4 yX4_cut yX4_cut, Cond.code yX4_cut cX4_cut 8 (some .boolean), Cond.fieldLink RX4 37 "DecimalRegistersModel$Row" "n" "I", Cond.fieldLink RX4 58 "DecimalRegistersModel$Row" "d" "[I", Cond.fieldLink RX4 61 "DecimalRegistersModel$Row" "minus" "Z", Cond.methodLink RX4 110 yX3_ends, Cond.instanceMethod yX3_ends, Cond.selects RX3 yX3_ends yX3_ends, Cond.code yX3_ends cX3_ends 3 (some .boolean), Cond.methodLink RX4 103 yX4_turns, Cond.static yX4_turns, Cond.code yX4_turns cX4_turns 4 (some .boolean), Cond.methodLink RX4 107 yX3_more, Cond.instanceMethod yX3_more, Cond.selects RX3 yX3_more yX3_more, Cond.code yX3_more cX3_more 2 none, Cond.methodLink RX4 65 yX3_trim]
def wsX4_scale_r3 : List Cond := [Cond.instanceMethod yX3_trim, Cond.selects RX3 yX3_trim yX3_trim, Cond.code yX3_trim cX3_trim 1 none, Cond.methodLink RX4 68 yX4_keep, Cond.instanceMethod yX4_keep, Cond.selects RX4 yX4_keep yX4_keep, Cond.code yX4_keep cX4_keep 3 (some .int)]
def wsX4_scale : List Cond := .code yX4_scale cX4_scale 5 (some .int) :: ((wsX4_scale_r1 ++ (wsX4_scale_r2 ++ wsX4_scale_r3)) ++ wsX40 ++ wsX30)
def wsX4_round_r1 : List Cond := [Cond.fieldLink RX4 9 "DecimalRegistersModel" "registers" "[LDecimalRegistersModel$Row;", Cond.fieldLink RX4 37 "DecimalRegistersModel$Row" "n" "I", Cond.fieldLink RX4 16 "DecimalRegistersModel" "a" "LDecimalRegistersModel$Row;", Cond.fieldLink RX4 41 "DecimalRegistersModel$Row" "scale" "I", Cond.methodLink RX4 52 yX4_is, Cond.static yX4_is, Cond.initialized RX4, Cond.code yX4_is cX4_is 1 (some .boolean), Cond.methodLink RX4 48 yX3_take, Cond.instanceMethod yX3_take, Cond.selects RX3 yX3_take yX3_take, Cond.initialized RX3, Cond.code yX3_take cX3_take 3 none, Cond.fieldLink RX3 13 "DecimalRegistersModel$Row" "n" "I", Cond.fieldLink RX3 17 "DecimalRegistersModel$Row" "minus" "Z", Cond.fieldLink RX3 25 "DecimalRegistersModel$Row" "scale" "I", Cond.fieldLink RX3 7 "DecimalRegistersModel$Row" "d" "[I", Cond.methodLink RX4 113 yX4_cut, Cond.instanceMethod yX4_cut, Cond.selects RX4 yX4_cut yX4_cut, Cond.code yX4_cut cX4_cut 8 (some .boolean), Cond.fieldLink RX4 58 "DecimalRegistersModel$Row" "d" "[I", Cond.fieldLink RX4 61 "DecimalRegistersModel$Row" "minus" "Z", Cond.methodLink RX4 110 yX3_ends]
def wsX4_round_r2 : List Cond := [Cond.instanceMethod yX3_ends, Cond.selects RX3 yX3_ends yX3_ends, Cond.code yX3_ends cX3_ends 3 (some .boolean), Cond.methodLink RX4 103 yX4_turns, Cond.static yX4_turns, Cond.code yX4_turns cX4_turns 4 (some .boolean), Cond.methodLink RX4 107 yX3_more, Cond.instanceMethod yX3_more, Cond.selects RX3 yX3_more yX3_more, Cond.code yX3_more cX3_more 2 none, Cond.methodLink RX4 68 yX4_keep, Cond.instanceMethod yX4_keep, Cond.selects RX4 yX4_keep yX4_keep, Cond.code yX4_keep cX4_keep 3 (some .int), Cond.methodLink RX4 44 yX4_isScale, Cond.static yX4_isScale, Cond.code yX4_isScale cX4_isScale 2 (some .boolean), Cond.constantLong RX4 33 (-6), Cond.constantLong RX4 35 (6)]
def wsX4_round : List Cond := .code yX4_round cX4_round 6 (some .int) :: ((wsX4_round_r1 ++ wsX4_round_r2) ++ wsX40 ++ wsX30)
def wsX4_turn_r1 : List Cond := [Cond.fieldLink RX4 16 "DecimalRegistersModel" "a" "LDecimalRegistersModel$Row;", Cond.fieldLink RX4 9 "DecimalRegistersModel" "registers" "[LDecimalRegistersModel$Row;", Cond.fieldLink RX4 61 "DecimalRegistersModel$Row" "minus" "Z", Cond.fieldLink RX4 37 "DecimalRegistersModel$Row" "n" "I", Cond.fieldLink RX4 58 "DecimalRegistersModel$Row" "d" "[I", Cond.fieldLink RX4 41 "DecimalRegistersModel$Row" "scale" "I", Cond.methodLink RX4 52 yX4_is, Cond.static yX4_is, Cond.initialized RX4, Cond.code yX4_is cX4_is 1 (some .boolean), Cond.methodLink RX4 48 yX3_take, Cond.instanceMethod yX3_take, Cond.selects RX3 yX3_take yX3_take, Cond.initialized RX3, Cond.code yX3_take cX3_take 3 none, Cond.fieldLink RX3 13 "DecimalRegistersModel$Row" "n" "I", Cond.fieldLink RX3 17 "DecimalRegistersModel$Row" "minus" "Z", Cond.fieldLink RX3 25 "DecimalRegistersModel$Row" "scale" "I", Cond.fieldLink RX3 7 "DecimalRegistersModel$Row" "d" "[I", Cond.methodLink RX4 84 yX3_isZero, Cond.instanceMethod yX3_isZero, Cond.selects RX3 yX3_isZero yX3_isZero, Cond.code yX3_isZero cX3_isZero 1 (some .boolean), Cond.methodLink RX4 113 yX4_cut]
def wsX4_turn_r2 : List Cond := [Cond.instanceMethod yX4_cut, Cond.selects RX4 yX4_cut yX4_cut, Cond.code yX4_cut cX4_cut 8 (some .boolean), Cond.methodLink RX4 110 yX3_ends, Cond.instanceMethod yX3_ends, Cond.selects RX3 yX3_ends yX3_ends, Cond.code yX3_ends cX3_ends 3 (some .boolean), Cond.methodLink RX4 103 yX4_turns, Cond.static yX4_turns, Cond.code yX4_turns cX4_turns 4 (some .boolean), Cond.methodLink RX4 107 yX3_more, Cond.instanceMethod yX3_more, Cond.selects RX3 yX3_more yX3_more, Cond.code yX3_more cX3_more 2 none, Cond.methodLink RX4 68 yX4_keep, Cond.instanceMethod yX4_keep, Cond.selects RX4 yX4_keep yX4_keep, Cond.code yX4_keep cX4_keep 3 (some .int), Cond.methodLink RX4 44 yX4_isScale, Cond.static yX4_isScale, Cond.code yX4_isScale cX4_isScale 2 (some .boolean), Cond.constantLong RX4 33 (-6), Cond.constantLong RX4 35 (6)]
def wsX4_turn : List Cond := .code yX4_turn cX4_turn 5 (some .int) :: ((wsX4_turn_r1 ++ wsX4_turn_r2) ++ wsX40 ++ wsX30)
def wsX4_move_r1 : List Cond := [Cond.fieldLink RX4 16 "DecimalRegistersModel" "a" "LDecimalRegistersModel$Row;", Cond.fieldLink RX4 9 "DecimalRegistersModel" "registers" "[LDecimalRegistersModel$Row;", Cond.fieldLink RX4 41 "DecimalRegistersModel$Row" "scale" "I", Cond.methodLink RX4 52 yX4_is, Cond.static yX4_is, Cond.initialized RX4, Cond.code yX4_is cX4_is 1 (some .boolean), Cond.methodLink RX4 48 yX3_take, Cond.instanceMethod yX3_take, Cond.selects RX3 yX3_take yX3_take, Cond.initialized RX3, Cond.code yX3_take cX3_take 3 none, Cond.fieldLink RX3 13 "DecimalRegistersModel$Row" "n" "I", Cond.fieldLink RX3 17 "DecimalRegistersModel$Row" "minus" "Z", Cond.fieldLink RX3 25 "DecimalRegistersModel$Row" "scale" "I", Cond.fieldLink RX3 7 "DecimalRegistersModel$Row" "d" "[I", Cond.methodLink RX4 72 yX3_up, Cond.instanceMethod yX3_up, Cond.selects RX3 yX3_up yX3_up, Cond.code yX3_up cX3_up 3 none, Cond.methodLink RX3 21 yX3_isZero, Cond.instanceMethod yX3_isZero, Cond.selects RX3 yX3_isZero yX3_isZero, Cond.code yX3_isZero cX3_isZero 1 (some .boolean)]
def wsX4_move_r2 : List Cond := [Cond.methodLink RX4 68 yX4_keep, Cond.instanceMethod yX4_keep, Cond.selects RX4 yX4_keep yX4_keep, Cond.code yX4_keep cX4_keep 3 (some .int), Cond.fieldLink RX4 37 "DecimalRegistersModel$Row" "n" "I", Cond.methodLink RX4 44 yX4_isScale, Cond.static yX4_isScale, Cond.code yX4_isScale cX4_isScale 2 (some .boolean), Cond.constantLong RX4 33 (-6), Cond.constantLong RX4 35 (6)]
def wsX4_move : List Cond := .code yX4_move cX4_move 5 (some .int) :: ((wsX4_move_r1 ++ wsX4_move_r2) ++ wsX40 ++ wsX30)
def wsX4_power_r1 : List Cond := [Cond.fieldLink RX4 9 "DecimalRegistersModel" "registers" "[LDecimalRegistersModel$Row;", Cond.fieldLink RX4 37 "DecimalRegistersModel$Row" "n" "I", Cond.fieldLink RX4 16 "DecimalRegistersModel" "a" "LDecimalRegistersModel$Row;", Cond.fieldLink RX4 58 "DecimalRegistersModel$Row" "d" "[I", Cond.fieldLink RX4 41 "DecimalRegistersModel$Row" "scale" "I", Cond.fieldLink RX4 23 "DecimalRegistersModel" "c" "LDecimalRegistersModel$Row;", Cond.methodLink RX4 52 yX4_is, Cond.static yX4_is, Cond.initialized RX4, Cond.code yX4_is cX4_is 1 (some .boolean), Cond.methodLink RX4 117 yX3_zero, Cond.instanceMethod yX3_zero, Cond.selects RX3 yX3_zero yX3_zero, Cond.initialized RX3, Cond.code yX3_zero cX3_zero 1 none, Cond.fieldLink RX3 13 "DecimalRegistersModel$Row" "n" "I", Cond.fieldLink RX3 7 "DecimalRegistersModel$Row" "d" "[I", Cond.fieldLink RX3 17 "DecimalRegistersModel$Row" "minus" "Z", Cond.methodLink RX4 92 yX4_product, Cond.static yX4_product, Cond.code yX4_product cX4_product 7 none, Cond.fieldLink RX4 61 "DecimalRegistersModel$Row" "minus" "Z", Cond.methodLink RX4 65 yX3_trim, Cond.instanceMethod yX3_trim]
def wsX4_power_r2 : List Cond := [Cond.selects RX3 yX3_trim yX3_trim, Cond.code yX3_trim cX3_trim 1 none, Cond.methodLink RX3 21 yX3_isZero, Cond.instanceMethod yX3_isZero, Cond.selects RX3 yX3_isZero yX3_isZero, Cond.code yX3_isZero cX3_isZero 1 (some .boolean), Cond.methodLink RX4 48 yX3_take, Cond.instanceMethod yX3_take, Cond.selects RX3 yX3_take yX3_take, Cond.code yX3_take cX3_take 3 none, Cond.fieldLink RX3 25 "DecimalRegistersModel$Row" "scale" "I", Cond.methodLink RX4 68 yX4_keep, Cond.instanceMethod yX4_keep, Cond.selects RX4 yX4_keep yX4_keep, Cond.code yX4_keep cX4_keep 3 (some .int), Cond.methodLink RX4 44 yX4_isScale, Cond.static yX4_isScale, Cond.code yX4_isScale cX4_isScale 2 (some .boolean), Cond.constantLong RX4 33 (-6), Cond.constantLong RX4 35 (6)]
def wsX4_power : List Cond := .code yX4_power cX4_power 5 (some .int) :: ((wsX4_power_r1 ++ wsX4_power_r2) ++ wsX40 ++ wsX30)
def wsX4_compare_r1 : List Cond := [Cond.methodLink RX4 52 yX4_is, Cond.static yX4_is, Cond.initialized RX4, Cond.code yX4_is cX4_is 1 (some .boolean), Cond.methodLink RX4 88 yX4_order, Cond.instanceMethod yX4_order, Cond.selects RX4 yX4_order yX4_order, Cond.code yX4_order cX4_order 4 (some .int), Cond.fieldLink RX4 16 "DecimalRegistersModel" "a" "LDecimalRegistersModel$Row;", Cond.fieldLink RX4 61 "DecimalRegistersModel$Row" "minus" "Z", Cond.fieldLink RX4 20 "DecimalRegistersModel" "b" "LDecimalRegistersModel$Row;", Cond.methodLink RX4 76 yX4_align, Cond.instanceMethod yX4_align, Cond.selects RX4 yX4_align yX4_align, Cond.code yX4_align cX4_align 4 none, Cond.fieldLink RX4 9 "DecimalRegistersModel" "registers" "[LDecimalRegistersModel$Row;", Cond.fieldLink RX4 41 "DecimalRegistersModel$Row" "scale" "I", Cond.methodLink RX4 48 yX3_take, Cond.instanceMethod yX3_take, Cond.selects RX3 yX3_take yX3_take, Cond.initialized RX3, Cond.code yX3_take cX3_take 3 none, Cond.fieldLink RX3 13 "DecimalRegistersModel$Row" "n" "I", Cond.fieldLink RX3 17 "DecimalRegistersModel$Row" "minus" "Z"]
def wsX4_compare_r2 : List Cond := [Cond.fieldLink RX3 25 "DecimalRegistersModel$Row" "scale" "I", Cond.fieldLink RX3 7 "DecimalRegistersModel$Row" "d" "[I", Cond.methodLink RX4 72 yX3_up, Cond.instanceMethod yX3_up, Cond.selects RX3 yX3_up yX3_up, Cond.code yX3_up cX3_up 3 none, Cond.methodLink RX3 21 yX3_isZero, Cond.instanceMethod yX3_isZero, Cond.selects RX3 yX3_isZero yX3_isZero, Cond.code yX3_isZero cX3_isZero 1 (some .boolean), Cond.methodLink RX4 80 yX4_sizes, Cond.static yX4_sizes, Cond.code yX4_sizes cX4_sizes 3 (some .int), Cond.fieldLink RX4 37 "DecimalRegistersModel$Row" "n" "I", Cond.fieldLink RX4 58 "DecimalRegistersModel$Row" "d" "[I"]
def wsX4_compare : List Cond := .code yX4_compare cX4_compare 3 (some .int) :: ((wsX4_compare_r1 ++ wsX4_compare_r2) ++ wsX40 ++ wsX30)
def wsX4_same : List Cond := .code yX4_same cX4_same 5 (some .boolean) :: ([.fieldLink RX4 9 "DecimalRegistersModel" "registers" "[LDecimalRegistersModel$Row;", .fieldLink RX4 61 "DecimalRegistersModel$Row" "minus" "Z", .fieldLink RX4 41 "DecimalRegistersModel$Row" "scale" "I", .methodLink RX4 52 yX4_is, .static yX4_is, .initialized RX4, .code yX4_is cX4_is 1 (some .boolean), .methodLink RX4 80 yX4_sizes, .static yX4_sizes, .code yX4_sizes cX4_sizes 3 (some .int), .fieldLink RX4 37 "DecimalRegistersModel$Row" "n" "I", .fieldLink RX4 58 "DecimalRegistersModel$Row" "d" "[I"] ++ wsX40 ++ wsX30)
def wsX4_look : List Cond := .code yX4_look cX4_look 4 (some .int) :: ([.fieldLink RX4 9 "DecimalRegistersModel" "registers" "[LDecimalRegistersModel$Row;", .fieldLink RX4 61 "DecimalRegistersModel$Row" "minus" "Z", .fieldLink RX4 37 "DecimalRegistersModel$Row" "n" "I", .fieldLink RX4 41 "DecimalRegistersModel$Row" "scale" "I", .methodLink RX4 52 yX4_is, .static yX4_is, .initialized RX4, .code yX4_is cX4_is 1 (some .boolean), .methodLink RX4 84 yX3_isZero, .instanceMethod yX3_isZero, .selects RX3 yX3_isZero yX3_isZero, .initialized RX3, .code yX3_isZero cX3_isZero 1 (some .boolean), .fieldLink RX3 13 "DecimalRegistersModel$Row" "n" "I", .fieldLink RX3 7 "DecimalRegistersModel$Row" "d" "[I"] ++ wsX40 ++ wsX30)
def wsX4_digit : List Cond := .code yX4_digit cX4_digit 3 (some .int) :: ([.fieldLink RX4 9 "DecimalRegistersModel" "registers" "[LDecimalRegistersModel$Row;", .fieldLink RX4 37 "DecimalRegistersModel$Row" "n" "I", .fieldLink RX4 58 "DecimalRegistersModel$Row" "d" "[I", .methodLink RX4 52 yX4_is, .static yX4_is, .initialized RX4, .code yX4_is cX4_is 1 (some .boolean)] ++ wsX40 ++ wsX30)
def wsX4_whole : List Cond := .code yX4_whole cX4_whole 7 (some .long) :: ([.fieldLink RX4 9 "DecimalRegistersModel" "registers" "[LDecimalRegistersModel$Row;", .fieldLink RX4 41 "DecimalRegistersModel$Row" "scale" "I", .fieldLink RX4 37 "DecimalRegistersModel$Row" "n" "I", .constantLong RX4 56 (10), .fieldLink RX4 58 "DecimalRegistersModel$Row" "d" "[I", .fieldLink RX4 61 "DecimalRegistersModel$Row" "minus" "Z", .methodLink RX4 52 yX4_is, .static yX4_is, .initialized RX4, .code yX4_is cX4_is 1 (some .boolean)] ++ wsX40 ++ wsX30)
def wsX4_sign : List Cond := .code yX4_sign cX4_sign 2 none :: ([.fieldLink RX4 29 "DecimalRegistersModel" "text" "[I", .fieldLink RX4 120 "DecimalRegistersModel" "length" "I"] ++ wsX40)
def wsX4_write : List Cond := .code yX4_write cX4_write 4 (some .int) :: ([.fieldLink RX4 9 "DecimalRegistersModel" "registers" "[LDecimalRegistersModel$Row;", .fieldLink RX4 120 "DecimalRegistersModel" "length" "I", .fieldLink RX4 61 "DecimalRegistersModel$Row" "minus" "Z", .fieldLink RX4 37 "DecimalRegistersModel$Row" "n" "I", .fieldLink RX4 41 "DecimalRegistersModel$Row" "scale" "I", .fieldLink RX4 58 "DecimalRegistersModel$Row" "d" "[I", .methodLink RX4 52 yX4_is, .static yX4_is, .initialized RX4, .code yX4_is cX4_is 1 (some .boolean), .methodLink RX4 123 yX4_sign, .instanceMethod yX4_sign, .selects RX4 yX4_sign yX4_sign, .code yX4_sign cX4_sign 2 none, .fieldLink RX4 29 "DecimalRegistersModel" "text" "[I", .methodLink RX4 84 yX3_isZero, .instanceMethod yX3_isZero, .selects RX3 yX3_isZero yX3_isZero, .initialized RX3, .code yX3_isZero cX3_isZero 1 (some .boolean), .fieldLink RX3 13 "DecimalRegistersModel$Row" "n" "I", .fieldLink RX3 7 "DecimalRegistersModel$Row" "d" "[I"] ++ wsX40 ++ wsX30)
def wsX4_octet : List Cond := .code yX4_octet cX4_octet 2 (some .int) :: ([.fieldLink RX4 120 "DecimalRegistersModel" "length" "I", .fieldLink RX4 29 "DecimalRegistersModel" "text" "[I"] ++ wsX40)
def wsJ9_abs_067f4 : List Cond := .code yJ9_abs_067f4 cJ9_abs_067f4 2 (some .long) :: ([])
def wsJ9_max_7cf53 : List Cond := .code yJ9_max_7cf53 cJ9_max_7cf53 2 (some .int) :: ([])
def wsL_law_r1 : List Cond := [Cond.classLink RL 7 RX2, Cond.instantiable RX2 7, Cond.initialized RX2, Cond.classLink RL 10 RX4, Cond.instantiable RX4 7, Cond.initialized RX4, Cond.constantLong RL 13 (4294967295), Cond.methodLink RL 9 yX2_init, Cond.instanceMethod yX2_init, Cond.code yX2_init cX2_init 2 none, Cond.methodLink RX2 1 objectInit, Cond.instanceMethod objectInit, Cond.code objectInit ⟨#[0xb1]⟩ 1 none, Cond.classLink RX2 9 RX0, Cond.fieldLink RX2 11 "DecimalRegisters" "registers" "[LDecimalRegisters$Decimal;", Cond.instantiable RX0 3, Cond.initialized RX0, Cond.fieldLink RX2 16 "DecimalRegisters" "result" "LDecimalRegisters$Decimal;", Cond.fieldLink RX2 20 "DecimalRegisters" "one" "LDecimalRegisters$Decimal;", Cond.fieldLink RX2 23 "DecimalRegisters$Decimal" "digits" "LDecimalRegisters$Natural;", Cond.classLink RX2 28 RX1, Cond.instantiable RX1 2, Cond.initialized RX1, Cond.fieldLink RX2 34 "DecimalRegisters" "top" "LDecimalRegisters$Natural;"]
def wsL_law_r2 : List Cond := [Cond.fieldLink RX2 37 "DecimalRegisters" "bottom" "LDecimalRegisters$Natural;", Cond.arrayClass .char, Cond.fieldLink RX2 40 "DecimalRegisters" "text" "[C", Cond.fieldLink RX2 44 "DecimalRegisters" "textLength" "I", Cond.instanceMethod yX0_init, Cond.code yX0_init cX0_init 1 none, Cond.methodLink RX0 1 objectInit, Cond.classLink RX0 7 RX1, Cond.fieldLink RX0 10 "DecimalRegisters$Decimal" "digits" "LDecimalRegisters$Natural;", Cond.instanceMethod yX1_init, Cond.code yX1_init cX1_init 1 none, Cond.methodLink RX1 1 objectInit, Cond.arrayClass .long, Cond.fieldLink RX1 9 "DecimalRegisters$Natural" "limbs" "[J", Cond.methodLink RX2 27 yX1_becomeSizeOf, Cond.instanceMethod yX1_becomeSizeOf, Cond.selects RX1 yX1_becomeSizeOf yX1_becomeSizeOf, Cond.code yX1_becomeSizeOf cX1_becomeSizeOf 6 none, Cond.constantLong RX1 26 (1000000), Cond.methodLink RX1 28 Lib.MathLoose.abs_long.x, Cond.static Lib.MathLoose.abs_long.x, Cond.initialized "java/lang/Math", Cond.code Lib.MathLoose.abs_long.x Lib.MathLoose.abs_long.code 2 (some .long), Cond.fieldLink RX1 13 "DecimalRegisters$Natural" "size" "I"]
def wsL_law_r3 : List Cond := [Cond.methodLink RX1 23 yX1_clear, Cond.instanceMethod yX1_clear, Cond.selects RX1 yX1_clear yX1_clear, Cond.code yX1_clear cX1_clear 2 none, Cond.methodLink RL 12 yX4_init, Cond.instanceMethod yX4_init, Cond.code yX4_init cX4_init 2 none, Cond.methodLink RX4 1 objectInit, Cond.classLink RX4 7 RX3, Cond.fieldLink RX4 9 "DecimalRegistersModel" "registers" "[LDecimalRegistersModel$Row;", Cond.instantiable RX3 4, Cond.initialized RX3, Cond.fieldLink RX4 16 "DecimalRegistersModel" "a" "LDecimalRegistersModel$Row;", Cond.fieldLink RX4 20 "DecimalRegistersModel" "b" "LDecimalRegistersModel$Row;", Cond.fieldLink RX4 23 "DecimalRegistersModel" "c" "LDecimalRegistersModel$Row;", Cond.fieldLink RX4 26 "DecimalRegistersModel" "e" "LDecimalRegistersModel$Row;", Cond.arrayClass .int, Cond.fieldLink RX4 29 "DecimalRegistersModel" "text" "[I", Cond.instanceMethod yX3_init, Cond.code yX3_init cX3_init 1 none, Cond.methodLink RX3 1 objectInit, Cond.fieldLink RX3 7 "DecimalRegistersModel$Row" "d" "[I", Cond.fieldLink RX3 13 "DecimalRegistersModel$Row" "n" "I", Cond.methodLink RL 15 yX2_load]
def wsL_law_r4 : List Cond := [Cond.instanceMethod yX2_load, Cond.selects RX2 yX2_load yX2_load, Cond.code yX2_load cX2_load 5 (some .int), Cond.fieldLink RX2 52 "DecimalRegisters$Decimal" "minus" "Z", Cond.fieldLink RX2 56 "DecimalRegisters$Decimal" "scale" "I", Cond.methodLink RX2 48 yX2_isRegister, Cond.static yX2_isRegister, Cond.code yX2_isRegister cX2_isRegister 1 (some .boolean), Cond.methodLink RX2 59 yX2_keep, Cond.instanceMethod yX2_keep, Cond.selects RX2 yX2_keep yX2_keep, Cond.code yX2_keep cX2_keep 3 (some .int), Cond.methodLink RX2 114 yX1_precision, Cond.instanceMethod yX1_precision, Cond.selects RX1 yX1_precision yX1_precision, Cond.code yX1_precision cX1_precision 2 (some .int), Cond.methodLink RX1 38 Lib.Math.max.name, Cond.static Lib.Math.max.name, Cond.code Lib.Math.max.name Lib.Math.max.code 2 (some .int), Cond.methodLink RX1 34 yX1_figure, Cond.instanceMethod yX1_figure, Cond.selects RX1 yX1_figure yX1_figure, Cond.code yX1_figure cX1_figure 3 (some .int), Cond.fieldLink RX1 42 "DecimalRegisters$Natural" "TENS" "[J"]
def wsL_law_r5 : List Cond := [Cond.constantLong RX1 45 (10), Cond.methodLink RX2 150 yX2_isScale, Cond.static yX2_isScale, Cond.code yX2_isScale cX2_isScale 1 (some .boolean), Cond.methodLink RX2 63 yX0_become, Cond.instanceMethod yX0_become, Cond.selects RX0 yX0_become yX0_become, Cond.code yX0_become cX0_become 2 none, Cond.fieldLink RX0 16 "DecimalRegisters$Decimal" "minus" "Z", Cond.fieldLink RX0 20 "DecimalRegisters$Decimal" "scale" "I", Cond.methodLink RX0 24 yX0_take, Cond.instanceMethod yX0_take, Cond.selects RX0 yX0_take yX0_take, Cond.code yX0_take cX0_take 4 none, Cond.methodLink RX0 28 yX1_become, Cond.instanceMethod yX1_become, Cond.selects RX1 yX1_become yX1_become, Cond.code yX1_become cX1_become 2 none, Cond.methodLink RX1 17 arraycopyName, Cond.native arraycopyName, Cond.static arraycopyName, Cond.initialized "java/lang/System", Cond.methodLink RX0 32 yX1_isZero, Cond.instanceMethod yX1_isZero]
def wsL_law_r6 : List Cond := [Cond.selects RX1 yX1_isZero yX1_isZero, Cond.code yX1_isZero cX1_isZero 1 (some .boolean), Cond.methodLink RL 19 yX4_load, Cond.instanceMethod yX4_load, Cond.selects RX4 yX4_load yX4_load, Cond.code yX4_load cX4_load 10 (some .int), Cond.fieldLink RX4 37 "DecimalRegistersModel$Row" "n" "I", Cond.constantLong RX4 56 (10), Cond.fieldLink RX4 58 "DecimalRegistersModel$Row" "d" "[I", Cond.fieldLink RX4 61 "DecimalRegistersModel$Row" "minus" "Z", Cond.fieldLink RX4 41 "DecimalRegistersModel$Row" "scale" "I", Cond.methodLink RX4 52 yX4_is, Cond.static yX4_is, Cond.code yX4_is cX4_is 1 (some .boolean), Cond.methodLink RX4 44 yX4_isScale, Cond.static yX4_isScale, Cond.code yX4_isScale cX4_isScale 2 (some .boolean), Cond.constantLong RX4 33 (-6), Cond.constantLong RX4 35 (6), Cond.methodLink RL 20 yX2_push, Cond.instanceMethod yX2_push, Cond.selects RX2 yX2_push yX2_push, Cond.code yX2_push cX2_push 4 (some .int), Cond.constantLong RX2 71 (1000000000000000000)]
def wsL_law_r7 : List Cond := [Cond.methodLink RX2 67 yX1_raise, Cond.instanceMethod yX1_raise, Cond.selects RX1 yX1_raise yX1_raise, Cond.code yX1_raise cX1_raise 10 none, Cond.methodLink RX1 47 yX1_close, Cond.instanceMethod yX1_close, Cond.selects RX1 yX1_close yX1_close, Cond.code yX1_close cX1_close 4 none, Cond.methodLink RX1 54 yX1_shift, Cond.instanceMethod yX1_shift, Cond.selects RX1 yX1_shift yX1_shift, Cond.code yX1_shift cX1_shift 3 none, Cond.methodLink RX2 73 yX1_add, Cond.instanceMethod yX1_add, Cond.selects RX1 yX1_add yX1_add, Cond.code yX1_add cX1_add 8 none, Cond.methodLink RL 24 yX4_push, Cond.instanceMethod yX4_push, Cond.selects RX4 yX4_push yX4_push, Cond.code yX4_push cX4_push 9 (some .int), Cond.methodLink RX4 48 yX3_take, Cond.instanceMethod yX3_take, Cond.selects RX3 yX3_take yX3_take, Cond.code yX3_take cX3_take 3 none]
def wsL_law_r8 : List Cond := [Cond.fieldLink RX3 17 "DecimalRegistersModel$Row" "minus" "Z", Cond.fieldLink RX3 25 "DecimalRegistersModel$Row" "scale" "I", Cond.methodLink RX4 65 yX3_trim, Cond.instanceMethod yX3_trim, Cond.selects RX3 yX3_trim yX3_trim, Cond.code yX3_trim cX3_trim 1 none, Cond.methodLink RX3 21 yX3_isZero, Cond.instanceMethod yX3_isZero, Cond.selects RX3 yX3_isZero yX3_isZero, Cond.code yX3_isZero cX3_isZero 1 (some .boolean), Cond.methodLink RX4 68 yX4_keep, Cond.instanceMethod yX4_keep, Cond.selects RX4 yX4_keep yX4_keep, Cond.code yX4_keep cX4_keep 3 (some .int), Cond.methodLink RL 25 yX2_reckon, Cond.instanceMethod yX2_reckon, Cond.selects RX2 yX2_reckon yX2_reckon, Cond.code yX2_reckon cX2_reckon 7 (some .int), Cond.methodLink RX2 77 yX2_addUp, Cond.instanceMethod yX2_addUp, Cond.selects RX2 yX2_addUp yX2_addUp, Cond.code yX2_addUp cX2_addUp 5 none, Cond.methodLink RX2 100 Lib.Math.max.name, Cond.methodLink RX2 155 yX2_align]
def wsL_law_r9 : List Cond := [Cond.instanceMethod yX2_align, Cond.selects RX2 yX2_align yX2_align, Cond.code yX2_align cX2_align 5 none, Cond.methodLink RX2 153 yX1_become, Cond.methodLink RX2 110 yX0_take, Cond.methodLink RX2 127 yX1_order, Cond.instanceMethod yX1_order, Cond.selects RX1 yX1_order yX1_order, Cond.code yX1_order cX1_order 3 (some .int), Cond.methodLink RX2 169 yX1_subtract, Cond.instanceMethod yX1_subtract, Cond.selects RX1 yX1_subtract yX1_subtract, Cond.code yX1_subtract cX1_subtract 7 none, Cond.methodLink RX1 51 yX1_shrink, Cond.instanceMethod yX1_shrink, Cond.selects RX1 yX1_shrink yX1_shrink, Cond.code yX1_shrink cX1_shrink 1 none, Cond.methodLink RX2 81 yX2_multiply, Cond.instanceMethod yX2_multiply, Cond.selects RX2 yX2_multiply yX2_multiply, Cond.code yX2_multiply cX2_multiply 3 none, Cond.methodLink RX2 172 yX1_becomeProduct, Cond.instanceMethod yX1_becomeProduct, Cond.selects RX1 yX1_becomeProduct yX1_becomeProduct]
def wsL_law_r10 : List Cond := [Cond.code yX1_becomeProduct cX1_becomeProduct 9 none, Cond.methodLink RX2 85 yX2_order, Cond.instanceMethod yX2_order, Cond.selects RX2 yX2_order yX2_order, Cond.code yX2_order cX2_order 3 (some .int), Cond.methodLink RX2 130 yX0_sign, Cond.instanceMethod yX0_sign, Cond.selects RX0 yX0_sign yX0_sign, Cond.code yX0_sign cX0_sign 1 (some .int), Cond.methodLink RL 29 yX4_reckon, Cond.instanceMethod yX4_reckon, Cond.selects RX4 yX4_reckon yX4_reckon, Cond.code yX4_reckon cX4_reckon 7 (some .int), Cond.methodLink RX4 88 yX4_order, Cond.instanceMethod yX4_order, Cond.selects RX4 yX4_order yX4_order, Cond.code yX4_order cX4_order 4 (some .int), Cond.methodLink RX4 76 yX4_align, Cond.instanceMethod yX4_align, Cond.selects RX4 yX4_align yX4_align, Cond.code yX4_align cX4_align 4 none, Cond.methodLink RX4 72 yX3_up, Cond.instanceMethod yX3_up, Cond.selects RX3 yX3_up yX3_up]
def wsL_law_r11 : List Cond := [Cond.code yX3_up cX3_up 3 none, Cond.methodLink RX4 80 yX4_sizes, Cond.static yX4_sizes, Cond.code yX4_sizes cX4_sizes 3 (some .int), Cond.methodLink RX4 92 yX4_product, Cond.static yX4_product, Cond.code yX4_product cX4_product 7 none, Cond.methodLink RX4 96 yX4_sum, Cond.instanceMethod yX4_sum, Cond.selects RX4 yX4_sum yX4_sum, Cond.code yX4_sum cX4_sum 8 none, Cond.methodLink RX4 84 yX3_isZero, Cond.methodLink RL 30 yX2_divide, Cond.instanceMethod yX2_divide, Cond.selects RX2 yX2_divide yX2_divide, Cond.code yX2_divide cX2_divide 6 (some .int), Cond.methodLink RX2 89 yX2_isWay, Cond.static yX2_isWay, Cond.code yX2_isWay cX2_isWay 1 (some .boolean), Cond.methodLink RX2 92 yX1_isZero, Cond.methodLink RX2 96 yX2_keepQuotient, Cond.instanceMethod yX2_keepQuotient, Cond.selects RX2 yX2_keepQuotient yX2_keepQuotient, Cond.code yX2_keepQuotient cX2_keepQuotient 6 (some .int)]
def wsL_law_r12 : List Cond := [Cond.methodLink RX2 106 yX2_split, Cond.instanceMethod yX2_split, Cond.selects RX2 yX2_split yX2_split, Cond.code yX2_split cX2_split 4 none, Cond.methodLink RX2 158 yX1_takeOut, Cond.instanceMethod yX1_takeOut, Cond.selects RX1 yX1_takeOut yX1_takeOut, Cond.code yX1_takeOut cX1_takeOut 7 none, Cond.constantLong RX1 66 (-1), Cond.methodLink RX1 58 yX1_guess, Cond.instanceMethod yX1_guess, Cond.selects RX1 yX1_guess yX1_guess, Cond.code yX1_guess cX1_guess 8 (some .long), Cond.methodLink RX1 62 yX1_takeAway, Cond.instanceMethod yX1_takeAway, Cond.selects RX1 yX1_takeAway yX1_takeAway, Cond.code yX1_takeAway cX1_takeAway 10 none, Cond.methodLink RX1 68 yJ9_floorDiv_f86c9, Cond.static yJ9_floorDiv_f86c9, Cond.initialized RJ9, Cond.code yJ9_floorDiv_f86c9 cJ9_floorDiv_f86c9 6 (some .long), Cond.methodLink RX2 121 yX2_settle, Cond.instanceMethod yX2_settle, Cond.selects RX2 yX2_settle yX2_settle]
def wsL_law_r13 : List Cond := [Cond.code yX2_settle cX2_settle 2 (some .boolean), Cond.methodLink RX2 162 yX2_isAwayFromZero, Cond.instanceMethod yX2_isAwayFromZero, Cond.selects RX2 yX2_isAwayFromZero yX2_isAwayFromZero, Cond.code yX2_isAwayFromZero cX2_isAwayFromZero 3 (some .boolean), Cond.methodLink RX2 133 yX1_figure, Cond.methodLink RL 34 yX4_divide, Cond.instanceMethod yX4_divide, Cond.selects RX4 yX4_divide yX4_divide, Cond.code yX4_divide cX4_divide 11 (some .int), Cond.methodLink RX4 100 yX4_over, Cond.instanceMethod yX4_over, Cond.selects RX4 yX4_over yX4_over, Cond.code yX4_over cX4_over 6 none, Cond.methodLink RX4 103 yX4_turns, Cond.static yX4_turns, Cond.code yX4_turns cX4_turns 4 (some .boolean), Cond.methodLink RX4 107 yX3_more, Cond.instanceMethod yX3_more, Cond.selects RX3 yX3_more yX3_more, Cond.code yX3_more cX3_more 2 none, Cond.methodLink RL 35 yX2_part, Cond.instanceMethod yX2_part, Cond.selects RX2 yX2_part yX2_part]
def wsL_law_r14 : List Cond := [Cond.code yX2_part cX2_part 10 (some .int), Cond.methodLink RL 38 yX4_part, Cond.instanceMethod yX4_part, Cond.selects RX4 yX4_part yX4_part, Cond.code yX4_part cX4_part 7 (some .int), Cond.methodLink RL 39 yX2_scale, Cond.instanceMethod yX2_scale, Cond.selects RX2 yX2_scale yX2_scale, Cond.code yX2_scale cX2_scale 5 (some .int), Cond.methodLink RL 42 yX4_scale, Cond.instanceMethod yX4_scale, Cond.selects RX4 yX4_scale yX4_scale, Cond.code yX4_scale cX4_scale 5 (some .int), Cond.methodLink RX4 113 yX4_cut, Cond.instanceMethod yX4_cut, Cond.selects RX4 yX4_cut yX4_cut, Cond.code yX4_cut cX4_cut 8 (some .boolean), Cond.methodLink RX4 110 yX3_ends, Cond.instanceMethod yX3_ends, Cond.selects RX3 yX3_ends yX3_ends, Cond.code yX3_ends cX3_ends 3 (some .boolean), Cond.methodLink RL 43 yX2_round, Cond.instanceMethod yX2_round, Cond.selects RX2 yX2_round yX2_round]
def wsL_law_r15 : List Cond := [Cond.code yX2_round cX2_round 7 (some .int), Cond.methodLink RX2 118 yX2_cutOff, Cond.instanceMethod yX2_cutOff, Cond.selects RX2 yX2_cutOff yX2_cutOff, Cond.code yX2_cutOff cX2_cutOff 2 none, Cond.methodLink RL 46 yX4_round, Cond.instanceMethod yX4_round, Cond.selects RX4 yX4_round yX4_round, Cond.code yX4_round cX4_round 6 (some .int), Cond.methodLink RL 47 yX2_turn, Cond.instanceMethod yX2_turn, Cond.selects RX2 yX2_turn yX2_turn, Cond.code yX2_turn cX2_turn 4 (some .int), Cond.methodLink RX2 124 yX2_cutOffZeros, Cond.instanceMethod yX2_cutOffZeros, Cond.selects RX2 yX2_cutOffZeros yX2_cutOffZeros, Cond.code yX2_cutOffZeros cX2_cutOffZeros 1 none, Cond.methodLink RX2 166 yX1_zerosAtEnd, Cond.instanceMethod yX1_zerosAtEnd, Cond.selects RX1 yX1_zerosAtEnd yX1_zerosAtEnd, Cond.code yX1_zerosAtEnd cX1_zerosAtEnd 3 (some .int), Cond.methodLink RL 51 yX4_turn, Cond.instanceMethod yX4_turn, Cond.selects RX4 yX4_turn yX4_turn]
def wsL_law_r16 : List Cond := [Cond.code yX4_turn cX4_turn 5 (some .int), Cond.methodLink RL 52 yX2_move, Cond.instanceMethod yX2_move, Cond.selects RX2 yX2_move yX2_move, Cond.code yX2_move cX2_move 5 (some .int), Cond.methodLink RL 55 yX4_move, Cond.instanceMethod yX4_move, Cond.selects RX4 yX4_move yX4_move, Cond.code yX4_move cX4_move 5 (some .int), Cond.methodLink RL 56 yX2_power, Cond.instanceMethod yX2_power, Cond.selects RX2 yX2_power yX2_power, Cond.code yX2_power cX2_power 6 (some .int), Cond.methodLink RL 59 yX4_power, Cond.instanceMethod yX4_power, Cond.selects RX4 yX4_power yX4_power, Cond.code yX4_power cX4_power 5 (some .int), Cond.methodLink RX4 117 yX3_zero, Cond.instanceMethod yX3_zero, Cond.selects RX3 yX3_zero yX3_zero, Cond.code yX3_zero cX3_zero 1 none, Cond.methodLink RL 60 yX2_compare, Cond.instanceMethod yX2_compare, Cond.selects RX2 yX2_compare yX2_compare]
def wsL_law_r17 : List Cond := [Cond.code yX2_compare cX2_compare 3 (some .int), Cond.methodLink RL 64 yX4_compare, Cond.instanceMethod yX4_compare, Cond.selects RX4 yX4_compare yX4_compare, Cond.code yX4_compare cX4_compare 3 (some .int), Cond.methodLink RL 65 yX2_same, Cond.instanceMethod yX2_same, Cond.selects RX2 yX2_same yX2_same, Cond.code yX2_same cX2_same 5 (some .boolean), Cond.methodLink RL 69 yX4_same, Cond.instanceMethod yX4_same, Cond.selects RX4 yX4_same yX4_same, Cond.code yX4_same cX4_same 5 (some .boolean), Cond.methodLink RL 70 yX2_look, Cond.instanceMethod yX2_look, Cond.selects RX2 yX2_look yX2_look, Cond.code yX2_look cX2_look 3 (some .int), Cond.methodLink RL 73 yX4_look, Cond.instanceMethod yX4_look, Cond.selects RX4 yX4_look yX4_look, Cond.code yX4_look cX4_look 4 (some .int), Cond.methodLink RL 74 yX2_digit, Cond.instanceMethod yX2_digit, Cond.selects RX2 yX2_digit yX2_digit]
def wsL_law_r18 : List Cond := [Cond.code yX2_digit cX2_digit 3 (some .int), Cond.methodLink RL 77 yX4_digit, Cond.instanceMethod yX4_digit, Cond.selects RX4 yX4_digit yX4_digit, Cond.code yX4_digit cX4_digit 3 (some .int), Cond.methodLink RL 78 yX2_whole, Cond.instanceMethod yX2_whole, Cond.selects RX2 yX2_whole yX2_whole, Cond.code yX2_whole cX2_whole 4 (some .long), Cond.methodLink RX2 136 yX1_lowestBits, Cond.instanceMethod yX1_lowestBits, Cond.selects RX1 yX1_lowestBits yX1_lowestBits, Cond.code yX1_lowestBits cX1_lowestBits 4 (some .long), Cond.methodLink RL 82 yX4_whole, Cond.instanceMethod yX4_whole, Cond.selects RX4 yX4_whole yX4_whole, Cond.code yX4_whole cX4_whole 7 (some .long), Cond.methodLink RL 83 yX2_write, Cond.instanceMethod yX2_write, Cond.selects RX2 yX2_write yX2_write, Cond.code yX2_write cX2_write 3 (some .int), Cond.methodLink RX2 140 yX2_append, Cond.instanceMethod yX2_append, Cond.selects RX2 yX2_append yX2_append]
def wsL_law_r19 : List Cond := [Cond.code yX2_append cX2_append 2 none, Cond.methodLink RX2 144 yX2_appendFigures, Cond.instanceMethod yX2_appendFigures, Cond.selects RX2 yX2_appendFigures yX2_appendFigures, Cond.code yX2_appendFigures cX2_appendFigures 3 none, Cond.methodLink RX2 147 yX2_appendZeros, Cond.instanceMethod yX2_appendZeros, Cond.selects RX2 yX2_appendZeros yX2_appendZeros, Cond.code yX2_appendZeros cX2_appendZeros 3 none, Cond.methodLink RL 87 yX4_write, Cond.instanceMethod yX4_write, Cond.selects RX4 yX4_write yX4_write, Cond.code yX4_write cX4_write 4 (some .int), Cond.fieldLink RX4 120 "DecimalRegistersModel" "length" "I", Cond.methodLink RX4 123 yX4_sign, Cond.instanceMethod yX4_sign, Cond.selects RX4 yX4_sign yX4_sign, Cond.code yX4_sign cX4_sign 2 none, Cond.methodLink RL 88 yX2_octet, Cond.instanceMethod yX2_octet, Cond.selects RX2 yX2_octet yX2_octet, Cond.code yX2_octet cX2_octet 2 (some .int), Cond.methodLink RL 91 yX4_octet, Cond.instanceMethod yX4_octet]
def wsL_law_r20 : List Cond := [Cond.selects RX4 yX4_octet yX4_octet, Cond.code yX4_octet cX4_octet 2 (some .int)]
def wsL_law : List Cond := (wsL_law_r1 ++ (wsL_law_r2 ++ (wsL_law_r3 ++ (wsL_law_r4 ++ (wsL_law_r5 ++ (wsL_law_r6 ++ (wsL_law_r7 ++ (wsL_law_r8 ++ (wsL_law_r9 ++ (wsL_law_r10 ++ (wsL_law_r11 ++ (wsL_law_r12 ++ (wsL_law_r13 ++ (wsL_law_r14 ++ (wsL_law_r15 ++ (wsL_law_r16 ++ (wsL_law_r17 ++ (wsL_law_r18 ++ (wsL_law_r19 ++ wsL_law_r20))))))))))))))))))) ++ wsX20 ++ wsX40 ++ wsX00 ++ wsX10 ++ wsX30 ++ ([] : List Cond)
set_option maxRecDepth 20000 in
theorem wsL_law_in : ∀ w ∈ wsL_law, w ∈ lw_tbl := fun w h => (goodIn_p wsL_law [38, 41, 47, 53, 79, 87, 83, 349, 356, 116, 119, 123, 127, 137, 131, 140, 144, 148, 152, 159, 401, 404, 407, 163, 167, 171, 175, 180, 414, 418, 422, 426, 430, 184, 188, 193, 199, 203, 207, 211, 215, 219, 223, 434, 438, 442, 446, 449, 452, 456, 227, 230, 235, 239, 243, 247, 251, 254, 259, 263, 461, 465, 468, 472, 268, 476, 272, 480, 484, 488, 276, 280, 492, 284, 288, 292, 496, 296, 500, 300, 504, 508, 304, 512, 308, 516, 312, 520, 316, 524, 320, 324, 528, 328, 332, 336, 340, 532, 536, 344, 540] (by decide +kernel) (by decide +kernel) w h).1
theorem inlX0 : ∀ w ∈ wsX00, w ∈ wsL_law := fun _ h => List.mem_append_left _ (List.mem_append_left _ (List.mem_append_left _ (List.mem_append_right _ h)))
theorem inX0 : ∀ w ∈ wsX00, w ∈ lw_tbl := fun w h => wsL_law_in w (inlX0 w h)
theorem inlX1 : ∀ w ∈ wsX10, w ∈ wsL_law := fun _ h => List.mem_append_left _ (List.mem_append_left _ (List.mem_append_right _ h))
theorem inX1 : ∀ w ∈ wsX10, w ∈ lw_tbl := fun w h => wsL_law_in w (inlX1 w h)
theorem inlX2 : ∀ w ∈ wsX20, w ∈ wsL_law := fun _ h => List.mem_append_left _ (List.mem_append_left _ (List.mem_append_left _ (List.mem_append_left _ (List.mem_append_left _ (List.mem_append_right _ h)))))
theorem inX2 : ∀ w ∈ wsX20, w ∈ lw_tbl := fun w h => wsL_law_in w (inlX2 w h)
theorem inlX3 : ∀ w ∈ wsX30, w ∈ wsL_law := fun _ h => List.mem_append_left _ (List.mem_append_right _ h)
theorem inX3 : ∀ w ∈ wsX30, w ∈ lw_tbl := fun w h => wsL_law_in w (inlX3 w h)
theorem inlX4 : ∀ w ∈ wsX40, w ∈ wsL_law := fun _ h => List.mem_append_left _ (List.mem_append_left _ (List.mem_append_left _ (List.mem_append_left _ (List.mem_append_right _ h))))
theorem inX4 : ∀ w ∈ wsX40, w ∈ lw_tbl := fun w h => wsL_law_in w (inlX4 w h)
theorem inJ9 : ∀ w ∈ wsJ90, w ∈ lw_tbl := by decide +kernel
theorem inJ10 : ∀ w ∈ wsJ100, w ∈ lw_tbl := by decide +kernel
set_option maxRecDepth 20000 in
theorem ggX0_init_X1_init : GoodIn wsX0_init wsX1_init := goodIn_r _ [9, 10, 2, 3, 11, 12, 13, 14] (by decide +kernel) (by decide +kernel)
set_option maxRecDepth 20000 in
theorem gX0_init_X1_init_n9 : GoodIn wsX0_init (wsX1_init) := ggX0_init_X1_init
theorem dX0_init_0 : decode cX0_init 0 = .ok (.aload_n 0, 1) := by decide +kernel
theorem dX0_init_1 : decode cX0_init 1 = .ok (.invokespecial 1, 3) := by decide +kernel
theorem dX0_init_4 : decode cX0_init 4 = .ok (.aload_n 0, 1) := by decide +kernel
theorem dX0_init_5 : decode cX0_init 5 = .ok (.new 7, 3) := by decide +kernel
theorem dX0_init_8 : decode cX0_init 8 = .ok (.dup, 1) := by decide +kernel
theorem dX0_init_9 : decode cX0_init 9 = .ok (.invokespecial 9, 3) := by decide +kernel
theorem dX0_init_12 : decode cX0_init 12 = .ok (.putfield 10, 3) := by decide +kernel
theorem dX0_init_15 : decode cX0_init 15 = .ok (.return_, 1) := by decide +kernel
set_option maxRecDepth 20000 in
theorem ggX0_become_X0_take : GoodIn wsX0_become wsX0_take := goodIn_r _ [8, 1, 2, 3, 9, 10, 11, 12, 13, 14, 15, 16, 17, 18, 19, 20, 21, 22, 23, 24, 25, 26, 27, 28] (by decide +kernel) (by decide +kernel)
set_option maxRecDepth 20000 in
theorem gX0_become_X0_take : GoodIn wsX0_become (wsV RX0 24 RX0 yX0_take wsX0_take) := goodIn_app (goodIn_of _ (by decide +kernel)) ggX0_become_X0_take
theorem dX0_become_0 : decode cX0_become 0 = .ok (.aload_n 0, 1) := by decide +kernel
theorem dX0_become_1 : decode cX0_become 1 = .ok (.aload_n 1, 1) := by decide +kernel
theorem dX0_become_2 : decode cX0_become 2 = .ok (.getfield 10, 3) := by decide +kernel
theorem dX0_become_5 : decode cX0_become 5 = .ok (.aload_n 1, 1) := by decide +kernel
theorem dX0_become_6 : decode cX0_become 6 = .ok (.getfield 16, 3) := by decide +kernel
theorem dX0_become_9 : decode cX0_become 9 = .ok (.aload_n 1, 1) := by decide +kernel
theorem dX0_become_10 : decode cX0_become 10 = .ok (.getfield 20, 3) := by decide +kernel
theorem dX0_become_13 : decode cX0_become 13 = .ok (.invokevirtual 24, 3) := by decide +kernel
theorem dX0_become_16 : decode cX0_become 16 = .ok (.return_, 1) := by decide +kernel
set_option maxRecDepth 20000 in
theorem ggX0_take_X1_become : GoodIn wsX0_take wsX1_become := goodIn_r _ [8, 9, 10, 11, 12, 13, 14, 22, 23] (by decide +kernel) (by decide +kernel)
set_option maxRecDepth 20000 in
theorem gX0_take_X1_become : GoodIn wsX0_take (wsV RX0 28 RX1 yX1_become wsX1_become) := goodIn_app (goodIn_of _ (by decide +kernel)) ggX0_take_X1_become
set_option maxRecDepth 20000 in
theorem ggX0_take_X1_isZero : GoodIn wsX0_take wsX1_isZero := goodIn_r _ [18, 14, 22, 23] (by decide +kernel) (by decide +kernel)
set_option maxRecDepth 20000 in
theorem gX0_take_X1_isZero : GoodIn wsX0_take (wsV RX0 32 RX1 yX1_isZero wsX1_isZero) := goodIn_app (goodIn_of _ (by decide +kernel)) ggX0_take_X1_isZero
theorem dX0_take_0 : decode cX0_take 0 = .ok (.aload_n 0, 1) := by decide +kernel
theorem dX0_take_1 : decode cX0_take 1 = .ok (.getfield 10, 3) := by decide +kernel
theorem dX0_take_4 : decode cX0_take 4 = .ok (.aload_n 1, 1) := by decide +kernel
theorem dX0_take_5 : decode cX0_take 5 = .ok (.invokevirtual 28, 3) := by decide +kernel
theorem dX0_take_8 : decode cX0_take 8 = .ok (.aload_n 0, 1) := by decide +kernel
theorem dX0_take_9 : decode cX0_take 9 = .ok (.iload_n 2, 1) := by decide +kernel
theorem dX0_take_10 : decode cX0_take 10 = .ok (.ifCond .eq 14, 3) := by decide +kernel
theorem dX0_take_13 : decode cX0_take 13 = .ok (.aload_n 1, 1) := by decide +kernel
theorem dX0_take_14 : decode cX0_take 14 = .ok (.invokevirtual 32, 3) := by decide +kernel
theorem dX0_take_17 : decode cX0_take 17 = .ok (.ifCond .ne 7, 3) := by decide +kernel
theorem dX0_take_20 : decode cX0_take 20 = .ok (.iconst 1, 1) := by decide +kernel
theorem dX0_take_21 : decode cX0_take 21 = .ok (.goto 4, 3) := by decide +kernel
theorem dX0_take_24 : decode cX0_take 24 = .ok (.iconst 0, 1) := by decide +kernel
theorem dX0_take_25 : decode cX0_take 25 = .ok (.putfield 16, 3) := by decide +kernel
theorem dX0_take_28 : decode cX0_take 28 = .ok (.aload_n 0, 1) := by decide +kernel
theorem dX0_take_29 : decode cX0_take 29 = .ok (.iload_n 3, 1) := by decide +kernel
theorem dX0_take_30 : decode cX0_take 30 = .ok (.putfield 20, 3) := by decide +kernel
theorem dX0_take_33 : decode cX0_take 33 = .ok (.return_, 1) := by decide +kernel
set_option maxRecDepth 20000 in
theorem ggX0_sign_X1_isZero : GoodIn wsX0_sign wsX1_isZero := goodIn_r _ [7, 8, 12, 13] (by decide +kernel) (by decide +kernel)
set_option maxRecDepth 20000 in
theorem gX0_sign_X1_isZero : GoodIn wsX0_sign (wsV RX0 32 RX1 yX1_isZero wsX1_isZero) := goodIn_app (goodIn_of _ (by decide +kernel)) ggX0_sign_X1_isZero
theorem dX0_sign_0 : decode cX0_sign 0 = .ok (.aload_n 0, 1) := by decide +kernel
theorem dX0_sign_1 : decode cX0_sign 1 = .ok (.getfield 10, 3) := by decide +kernel
theorem dX0_sign_4 : decode cX0_sign 4 = .ok (.invokevirtual 32, 3) := by decide +kernel
theorem dX0_sign_7 : decode cX0_sign 7 = .ok (.ifCond .eq 5, 3) := by decide +kernel
theorem dX0_sign_10 : decode cX0_sign 10 = .ok (.iconst 0, 1) := by decide +kernel
theorem dX0_sign_11 : decode cX0_sign 11 = .ok (.ireturn, 1) := by decide +kernel
theorem dX0_sign_12 : decode cX0_sign 12 = .ok (.aload_n 0, 1) := by decide +kernel
theorem dX0_sign_13 : decode cX0_sign 13 = .ok (.getfield 16, 3) := by decide +kernel
theorem dX0_sign_16 : decode cX0_sign 16 = .ok (.ifCond .eq 7, 3) := by decide +kernel
theorem dX0_sign_19 : decode cX0_sign 19 = .ok (.iconst (-1), 1) := by decide +kernel
theorem dX0_sign_20 : decode cX0_sign 20 = .ok (.goto 4, 3) := by decide +kernel
theorem dX0_sign_23 : decode cX0_sign 23 = .ok (.iconst 1, 1) := by decide +kernel
theorem dX0_sign_24 : decode cX0_sign 24 = .ok (.ireturn, 1) := by decide +kernel
theorem dX1_init_0 : decode cX1_init 0 = .ok (.aload_n 0, 1) := by decide +kernel
theorem dX1_init_1 : decode cX1_init 1 = .ok (.invokespecial 1, 3) := by decide +kernel
theorem dX1_init_4 : decode cX1_init 4 = .ok (.aload_n 0, 1) := by decide +kernel
theorem dX1_init_5 : decode cX1_init 5 = .ok (.bipush 64, 2) := by decide +kernel
theorem dX1_init_7 : decode cX1_init 7 = .ok (.newarray .long, 2) := by decide +kernel
theorem dX1_init_9 : decode cX1_init 9 = .ok (.putfield 9, 3) := by decide +kernel
theorem dX1_init_12 : decode cX1_init 12 = .ok (.return_, 1) := by decide +kernel
theorem dX1_isZero_0 : decode cX1_isZero 0 = .ok (.aload_n 0, 1) := by decide +kernel
theorem dX1_isZero_1 : decode cX1_isZero 1 = .ok (.getfield 13, 3) := by decide +kernel
theorem dX1_isZero_4 : decode cX1_isZero 4 = .ok (.ifCond .ne 7, 3) := by decide +kernel
theorem dX1_isZero_7 : decode cX1_isZero 7 = .ok (.iconst 1, 1) := by decide +kernel
theorem dX1_isZero_8 : decode cX1_isZero 8 = .ok (.goto 4, 3) := by decide +kernel
theorem dX1_isZero_11 : decode cX1_isZero 11 = .ok (.iconst 0, 1) := by decide +kernel
theorem dX1_isZero_12 : decode cX1_isZero 12 = .ok (.ireturn, 1) := by decide +kernel
theorem dX1_become_0 : decode cX1_become 0 = .ok (.aload_n 1, 1) := by decide +kernel
theorem dX1_become_1 : decode cX1_become 1 = .ok (.getfield 9, 3) := by decide +kernel
theorem dX1_become_4 : decode cX1_become 4 = .ok (.iconst 0, 1) := by decide +kernel
theorem dX1_become_5 : decode cX1_become 5 = .ok (.aload_n 0, 1) := by decide +kernel
theorem dX1_become_6 : decode cX1_become 6 = .ok (.getfield 9, 3) := by decide +kernel
theorem dX1_become_9 : decode cX1_become 9 = .ok (.iconst 0, 1) := by decide +kernel
theorem dX1_become_10 : decode cX1_become 10 = .ok (.bipush 64, 2) := by decide +kernel
theorem dX1_become_12 : decode cX1_become 12 = .ok (.invokestatic 17, 3) := by decide +kernel
theorem dX1_become_15 : decode cX1_become 15 = .ok (.aload_n 0, 1) := by decide +kernel
theorem dX1_become_16 : decode cX1_become 16 = .ok (.aload_n 1, 1) := by decide +kernel
theorem dX1_become_17 : decode cX1_become 17 = .ok (.getfield 13, 3) := by decide +kernel
theorem dX1_become_20 : decode cX1_become 20 = .ok (.putfield 13, 3) := by decide +kernel
theorem dX1_become_23 : decode cX1_become 23 = .ok (.return_, 1) := by decide +kernel
set_option maxRecDepth 20000 in
theorem ggX1_becomeSizeOf_X1_clear : GoodIn wsX1_becomeSizeOf wsX1_clear := goodIn_r _ [12, 7, 1, 13, 14] (by decide +kernel) (by decide +kernel)
set_option maxRecDepth 20000 in
theorem gX1_becomeSizeOf_X1_clear : GoodIn wsX1_becomeSizeOf (wsV RX1 23 RX1 yX1_clear wsX1_clear) := goodIn_app (goodIn_of _ (by decide +kernel)) ggX1_becomeSizeOf_X1_clear
theorem dX1_becomeSizeOf_0 : decode cX1_becomeSizeOf 0 = .ok (.aload_n 0, 1) := by decide +kernel
theorem dX1_becomeSizeOf_1 : decode cX1_becomeSizeOf 1 = .ok (.invokevirtual 23, 3) := by decide +kernel
theorem dX1_becomeSizeOf_4 : decode cX1_becomeSizeOf 4 = .ok (.lload_n 1, 1) := by decide +kernel
theorem dX1_becomeSizeOf_5 : decode cX1_becomeSizeOf 5 = .ok (.lstore_n 3, 1) := by decide +kernel
theorem dX1_becomeSizeOf_6 : decode cX1_becomeSizeOf 6 = .ok (.iconst 0, 1) := by decide +kernel
theorem dX1_becomeSizeOf_7 : decode cX1_becomeSizeOf 7 = .ok (.istore 5, 2) := by decide +kernel
theorem dX1_becomeSizeOf_9 : decode cX1_becomeSizeOf 9 = .ok (.iload 5, 2) := by decide +kernel
theorem dX1_becomeSizeOf_11 : decode cX1_becomeSizeOf 11 = .ok (.bipush 64, 2) := by decide +kernel
theorem dX1_becomeSizeOf_13 : decode cX1_becomeSizeOf 13 = .ok (.if_icmp .ge 44, 3) := by decide +kernel
theorem dX1_becomeSizeOf_16 : decode cX1_becomeSizeOf 16 = .ok (.lload_n 3, 1) := by decide +kernel
theorem dX1_becomeSizeOf_17 : decode cX1_becomeSizeOf 17 = .ok (.lconst 0, 1) := by decide +kernel
theorem dX1_becomeSizeOf_18 : decode cX1_becomeSizeOf 18 = .ok (.lcmp, 1) := by decide +kernel
theorem dX1_becomeSizeOf_19 : decode cX1_becomeSizeOf 19 = .ok (.ifCond .eq 38, 3) := by decide +kernel
theorem dX1_becomeSizeOf_22 : decode cX1_becomeSizeOf 22 = .ok (.aload_n 0, 1) := by decide +kernel
theorem dX1_becomeSizeOf_23 : decode cX1_becomeSizeOf 23 = .ok (.getfield 9, 3) := by decide +kernel
theorem dX1_becomeSizeOf_26 : decode cX1_becomeSizeOf 26 = .ok (.iload 5, 2) := by decide +kernel
theorem dX1_becomeSizeOf_28 : decode cX1_becomeSizeOf 28 = .ok (.lload_n 3, 1) := by decide +kernel
theorem dX1_becomeSizeOf_29 : decode cX1_becomeSizeOf 29 = .ok (.ldc2_w 26, 3) := by decide +kernel
theorem dX1_becomeSizeOf_32 : decode cX1_becomeSizeOf 32 = .ok (.lrem, 1) := by decide +kernel
theorem dX1_becomeSizeOf_33 : decode cX1_becomeSizeOf 33 = .ok (.invokestatic 28, 3) := by decide +kernel
theorem dX1_becomeSizeOf_36 : decode cX1_becomeSizeOf 36 = .ok (.lastore, 1) := by decide +kernel
theorem dX1_becomeSizeOf_37 : decode cX1_becomeSizeOf 37 = .ok (.lload_n 3, 1) := by decide +kernel
theorem dX1_becomeSizeOf_38 : decode cX1_becomeSizeOf 38 = .ok (.ldc2_w 26, 3) := by decide +kernel
theorem dX1_becomeSizeOf_41 : decode cX1_becomeSizeOf 41 = .ok (.ldiv, 1) := by decide +kernel
theorem dX1_becomeSizeOf_42 : decode cX1_becomeSizeOf 42 = .ok (.lstore_n 3, 1) := by decide +kernel
theorem dX1_becomeSizeOf_43 : decode cX1_becomeSizeOf 43 = .ok (.aload_n 0, 1) := by decide +kernel
theorem dX1_becomeSizeOf_44 : decode cX1_becomeSizeOf 44 = .ok (.iload 5, 2) := by decide +kernel
theorem dX1_becomeSizeOf_46 : decode cX1_becomeSizeOf 46 = .ok (.iconst 1, 1) := by decide +kernel
theorem dX1_becomeSizeOf_47 : decode cX1_becomeSizeOf 47 = .ok (.iadd, 1) := by decide +kernel
theorem dX1_becomeSizeOf_48 : decode cX1_becomeSizeOf 48 = .ok (.putfield 13, 3) := by decide +kernel
theorem dX1_becomeSizeOf_51 : decode cX1_becomeSizeOf 51 = .ok (.iinc 5 1, 3) := by decide +kernel
theorem dX1_becomeSizeOf_54 : decode cX1_becomeSizeOf 54 = .ok (.goto (-45), 3) := by decide +kernel
theorem dX1_becomeSizeOf_57 : decode cX1_becomeSizeOf 57 = .ok (.return_, 1) := by decide +kernel
theorem dX1_clear_0 : decode cX1_clear 0 = .ok (.iconst 0, 1) := by decide +kernel
theorem dX1_clear_1 : decode cX1_clear 1 = .ok (.istore_n 1, 1) := by decide +kernel
theorem dX1_clear_2 : decode cX1_clear 2 = .ok (.iload_n 1, 1) := by decide +kernel
theorem dX1_clear_3 : decode cX1_clear 3 = .ok (.aload_n 0, 1) := by decide +kernel
theorem dX1_clear_4 : decode cX1_clear 4 = .ok (.getfield 13, 3) := by decide +kernel
theorem dX1_clear_7 : decode cX1_clear 7 = .ok (.if_icmp .ge 16, 3) := by decide +kernel
theorem dX1_clear_10 : decode cX1_clear 10 = .ok (.aload_n 0, 1) := by decide +kernel
theorem dX1_clear_11 : decode cX1_clear 11 = .ok (.getfield 9, 3) := by decide +kernel
theorem dX1_clear_14 : decode cX1_clear 14 = .ok (.iload_n 1, 1) := by decide +kernel
theorem dX1_clear_15 : decode cX1_clear 15 = .ok (.lconst 0, 1) := by decide +kernel
theorem dX1_clear_16 : decode cX1_clear 16 = .ok (.lastore, 1) := by decide +kernel
theorem dX1_clear_17 : decode cX1_clear 17 = .ok (.iinc 1 1, 3) := by decide +kernel
theorem dX1_clear_20 : decode cX1_clear 20 = .ok (.goto (-18), 3) := by decide +kernel
theorem dX1_clear_23 : decode cX1_clear 23 = .ok (.aload_n 0, 1) := by decide +kernel
theorem dX1_clear_24 : decode cX1_clear 24 = .ok (.iconst 0, 1) := by decide +kernel
theorem dX1_clear_25 : decode cX1_clear 25 = .ok (.putfield 13, 3) := by decide +kernel
theorem dX1_clear_28 : decode cX1_clear 28 = .ok (.return_, 1) := by decide +kernel
set_option maxRecDepth 20000 in
theorem ggX1_precision_X1_figure : GoodIn wsX1_precision wsX1_figure := goodIn_r _ [10, 1, 11, 12, 13, 14, 15] (by decide +kernel) (by decide +kernel)
set_option maxRecDepth 20000 in
theorem gX1_precision_X1_figure : GoodIn wsX1_precision (wsV RX1 34 RX1 yX1_figure wsX1_figure) := goodIn_app (goodIn_of _ (by decide +kernel)) ggX1_precision_X1_figure
theorem dX1_precision_0 : decode cX1_precision 0 = .ok (.aload_n 0, 1) := by decide +kernel
theorem dX1_precision_1 : decode cX1_precision 1 = .ok (.getfield 13, 3) := by decide +kernel
theorem dX1_precision_4 : decode cX1_precision 4 = .ok (.bipush 6, 2) := by decide +kernel
theorem dX1_precision_6 : decode cX1_precision 6 = .ok (.imul, 1) := by decide +kernel
theorem dX1_precision_7 : decode cX1_precision 7 = .ok (.istore_n 1, 1) := by decide +kernel
theorem dX1_precision_8 : decode cX1_precision 8 = .ok (.iload_n 1, 1) := by decide +kernel
theorem dX1_precision_9 : decode cX1_precision 9 = .ok (.iconst 1, 1) := by decide +kernel
theorem dX1_precision_10 : decode cX1_precision 10 = .ok (.if_icmp .le 19, 3) := by decide +kernel
theorem dX1_precision_13 : decode cX1_precision 13 = .ok (.aload_n 0, 1) := by decide +kernel
theorem dX1_precision_14 : decode cX1_precision 14 = .ok (.iload_n 1, 1) := by decide +kernel
theorem dX1_precision_15 : decode cX1_precision 15 = .ok (.iconst 1, 1) := by decide +kernel
theorem dX1_precision_16 : decode cX1_precision 16 = .ok (.isub, 1) := by decide +kernel
theorem dX1_precision_17 : decode cX1_precision 17 = .ok (.invokevirtual 34, 3) := by decide +kernel
theorem dX1_precision_20 : decode cX1_precision 20 = .ok (.ifCond .ne 9, 3) := by decide +kernel
theorem dX1_precision_23 : decode cX1_precision 23 = .ok (.iinc 1 (-1), 3) := by decide +kernel
theorem dX1_precision_26 : decode cX1_precision 26 = .ok (.goto (-18), 3) := by decide +kernel
theorem dX1_precision_29 : decode cX1_precision 29 = .ok (.iload_n 1, 1) := by decide +kernel
theorem dX1_precision_30 : decode cX1_precision 30 = .ok (.iconst 1, 1) := by decide +kernel
theorem dX1_precision_31 : decode cX1_precision 31 = .ok (.invokestatic 38, 3) := by decide +kernel
theorem dX1_precision_34 : decode cX1_precision 34 = .ok (.ireturn, 1) := by decide +kernel
theorem dX1_figure_0 : decode cX1_figure 0 = .ok (.iload_n 1, 1) := by decide +kernel
theorem dX1_figure_1 : decode cX1_figure 1 = .ok (.bipush 6, 2) := by decide +kernel
theorem dX1_figure_3 : decode cX1_figure 3 = .ok (.idiv, 1) := by decide +kernel
theorem dX1_figure_4 : decode cX1_figure 4 = .ok (.istore_n 2, 1) := by decide +kernel
theorem dX1_figure_5 : decode cX1_figure 5 = .ok (.iload_n 1, 1) := by decide +kernel
theorem dX1_figure_6 : decode cX1_figure 6 = .ok (.ifCond .lt 11, 3) := by decide +kernel
theorem dX1_figure_9 : decode cX1_figure 9 = .ok (.iload_n 2, 1) := by decide +kernel
theorem dX1_figure_10 : decode cX1_figure 10 = .ok (.aload_n 0, 1) := by decide +kernel
theorem dX1_figure_11 : decode cX1_figure 11 = .ok (.getfield 13, 3) := by decide +kernel
theorem dX1_figure_14 : decode cX1_figure 14 = .ok (.if_icmp .lt 5, 3) := by decide +kernel
theorem dX1_figure_17 : decode cX1_figure 17 = .ok (.iconst 0, 1) := by decide +kernel
theorem dX1_figure_18 : decode cX1_figure 18 = .ok (.ireturn, 1) := by decide +kernel
theorem dX1_figure_19 : decode cX1_figure 19 = .ok (.aload_n 0, 1) := by decide +kernel
theorem dX1_figure_20 : decode cX1_figure 20 = .ok (.getfield 9, 3) := by decide +kernel
theorem dX1_figure_23 : decode cX1_figure 23 = .ok (.iload_n 2, 1) := by decide +kernel
theorem dX1_figure_24 : decode cX1_figure 24 = .ok (.laload, 1) := by decide +kernel
theorem dX1_figure_25 : decode cX1_figure 25 = .ok (.getstatic 42, 3) := by decide +kernel
theorem dX1_figure_28 : decode cX1_figure 28 = .ok (.iload_n 1, 1) := by decide +kernel
theorem dX1_figure_29 : decode cX1_figure 29 = .ok (.bipush 6, 2) := by decide +kernel
theorem dX1_figure_31 : decode cX1_figure 31 = .ok (.irem, 1) := by decide +kernel
theorem dX1_figure_32 : decode cX1_figure 32 = .ok (.laload, 1) := by decide +kernel
theorem dX1_figure_33 : decode cX1_figure 33 = .ok (.ldiv, 1) := by decide +kernel
theorem dX1_figure_34 : decode cX1_figure 34 = .ok (.ldc2_w 45, 3) := by decide +kernel
theorem dX1_figure_37 : decode cX1_figure 37 = .ok (.lrem, 1) := by decide +kernel
theorem dX1_figure_38 : decode cX1_figure 38 = .ok (.l2i, 1) := by decide +kernel
theorem dX1_figure_39 : decode cX1_figure 39 = .ok (.ireturn, 1) := by decide +kernel
set_option maxRecDepth 20000 in
theorem ggX1_zerosAtEnd_X1_figure : GoodIn wsX1_zerosAtEnd wsX1_figure := goodIn_r _ [6, 1, 7, 8, 9, 10, 11] (by decide +kernel) (by decide +kernel)
set_option maxRecDepth 20000 in
theorem gX1_zerosAtEnd_X1_figure : GoodIn wsX1_zerosAtEnd (wsV RX1 34 RX1 yX1_figure wsX1_figure) := goodIn_app (goodIn_of _ (by decide +kernel)) ggX1_zerosAtEnd_X1_figure
theorem dX1_zerosAtEnd_0 : decode cX1_zerosAtEnd 0 = .ok (.aload_n 0, 1) := by decide +kernel
theorem dX1_zerosAtEnd_1 : decode cX1_zerosAtEnd 1 = .ok (.getfield 13, 3) := by decide +kernel
theorem dX1_zerosAtEnd_4 : decode cX1_zerosAtEnd 4 = .ok (.bipush 6, 2) := by decide +kernel
theorem dX1_zerosAtEnd_6 : decode cX1_zerosAtEnd 6 = .ok (.imul, 1) := by decide +kernel
theorem dX1_zerosAtEnd_7 : decode cX1_zerosAtEnd 7 = .ok (.istore_n 1, 1) := by decide +kernel
theorem dX1_zerosAtEnd_8 : decode cX1_zerosAtEnd 8 = .ok (.iconst 0, 1) := by decide +kernel
theorem dX1_zerosAtEnd_9 : decode cX1_zerosAtEnd 9 = .ok (.istore_n 2, 1) := by decide +kernel
theorem dX1_zerosAtEnd_10 : decode cX1_zerosAtEnd 10 = .ok (.iload_n 2, 1) := by decide +kernel
theorem dX1_zerosAtEnd_11 : decode cX1_zerosAtEnd 11 = .ok (.iload_n 1, 1) := by decide +kernel
theorem dX1_zerosAtEnd_12 : decode cX1_zerosAtEnd 12 = .ok (.if_icmp .ge 17, 3) := by decide +kernel
theorem dX1_zerosAtEnd_15 : decode cX1_zerosAtEnd 15 = .ok (.aload_n 0, 1) := by decide +kernel
theorem dX1_zerosAtEnd_16 : decode cX1_zerosAtEnd 16 = .ok (.iload_n 2, 1) := by decide +kernel
theorem dX1_zerosAtEnd_17 : decode cX1_zerosAtEnd 17 = .ok (.invokevirtual 34, 3) := by decide +kernel
theorem dX1_zerosAtEnd_20 : decode cX1_zerosAtEnd 20 = .ok (.ifCond .ne 9, 3) := by decide +kernel
theorem dX1_zerosAtEnd_23 : decode cX1_zerosAtEnd 23 = .ok (.iinc 2 1, 3) := by decide +kernel
theorem dX1_zerosAtEnd_26 : decode cX1_zerosAtEnd 26 = .ok (.goto (-16), 3) := by decide +kernel
theorem dX1_zerosAtEnd_29 : decode cX1_zerosAtEnd 29 = .ok (.iload_n 2, 1) := by decide +kernel
theorem dX1_zerosAtEnd_30 : decode cX1_zerosAtEnd 30 = .ok (.ireturn, 1) := by decide +kernel
theorem dX1_lowestBits_0 : decode cX1_lowestBits 0 = .ok (.lconst 0, 1) := by decide +kernel
theorem dX1_lowestBits_1 : decode cX1_lowestBits 1 = .ok (.lstore_n 1, 1) := by decide +kernel
theorem dX1_lowestBits_2 : decode cX1_lowestBits 2 = .ok (.aload_n 0, 1) := by decide +kernel
theorem dX1_lowestBits_3 : decode cX1_lowestBits 3 = .ok (.getfield 13, 3) := by decide +kernel
theorem dX1_lowestBits_6 : decode cX1_lowestBits 6 = .ok (.iconst 1, 1) := by decide +kernel
theorem dX1_lowestBits_7 : decode cX1_lowestBits 7 = .ok (.isub, 1) := by decide +kernel
theorem dX1_lowestBits_8 : decode cX1_lowestBits 8 = .ok (.istore_n 3, 1) := by decide +kernel
theorem dX1_lowestBits_9 : decode cX1_lowestBits 9 = .ok (.iload_n 3, 1) := by decide +kernel
theorem dX1_lowestBits_10 : decode cX1_lowestBits 10 = .ok (.ifCond .lt 22, 3) := by decide +kernel
theorem dX1_lowestBits_13 : decode cX1_lowestBits 13 = .ok (.lload_n 1, 1) := by decide +kernel
theorem dX1_lowestBits_14 : decode cX1_lowestBits 14 = .ok (.ldc2_w 26, 3) := by decide +kernel
theorem dX1_lowestBits_17 : decode cX1_lowestBits 17 = .ok (.lmul, 1) := by decide +kernel
theorem dX1_lowestBits_18 : decode cX1_lowestBits 18 = .ok (.aload_n 0, 1) := by decide +kernel
theorem dX1_lowestBits_19 : decode cX1_lowestBits 19 = .ok (.getfield 9, 3) := by decide +kernel
theorem dX1_lowestBits_22 : decode cX1_lowestBits 22 = .ok (.iload_n 3, 1) := by decide +kernel
theorem dX1_lowestBits_23 : decode cX1_lowestBits 23 = .ok (.laload, 1) := by decide +kernel
theorem dX1_lowestBits_24 : decode cX1_lowestBits 24 = .ok (.ladd, 1) := by decide +kernel
theorem dX1_lowestBits_25 : decode cX1_lowestBits 25 = .ok (.lstore_n 1, 1) := by decide +kernel
theorem dX1_lowestBits_26 : decode cX1_lowestBits 26 = .ok (.iinc 3 (-1), 3) := by decide +kernel
theorem dX1_lowestBits_29 : decode cX1_lowestBits 29 = .ok (.goto (-20), 3) := by decide +kernel
theorem dX1_lowestBits_32 : decode cX1_lowestBits 32 = .ok (.lload_n 1, 1) := by decide +kernel
theorem dX1_lowestBits_33 : decode cX1_lowestBits 33 = .ok (.lreturn, 1) := by decide +kernel
theorem dX1_order_0 : decode cX1_order 0 = .ok (.aload_n 0, 1) := by decide +kernel
theorem dX1_order_1 : decode cX1_order 1 = .ok (.getfield 13, 3) := by decide +kernel
theorem dX1_order_4 : decode cX1_order 4 = .ok (.aload_n 1, 1) := by decide +kernel
theorem dX1_order_5 : decode cX1_order 5 = .ok (.getfield 13, 3) := by decide +kernel
theorem dX1_order_8 : decode cX1_order 8 = .ok (.if_icmp .eq 20, 3) := by decide +kernel
theorem dX1_order_11 : decode cX1_order 11 = .ok (.aload_n 0, 1) := by decide +kernel
theorem dX1_order_12 : decode cX1_order 12 = .ok (.getfield 13, 3) := by decide +kernel
theorem dX1_order_15 : decode cX1_order 15 = .ok (.aload_n 1, 1) := by decide +kernel
theorem dX1_order_16 : decode cX1_order 16 = .ok (.getfield 13, 3) := by decide +kernel
theorem dX1_order_19 : decode cX1_order 19 = .ok (.if_icmp .ge 7, 3) := by decide +kernel
theorem dX1_order_22 : decode cX1_order 22 = .ok (.iconst (-1), 1) := by decide +kernel
theorem dX1_order_23 : decode cX1_order 23 = .ok (.goto 4, 3) := by decide +kernel
theorem dX1_order_26 : decode cX1_order 26 = .ok (.iconst 1, 1) := by decide +kernel
theorem dX1_order_27 : decode cX1_order 27 = .ok (.ireturn, 1) := by decide +kernel
theorem dX1_order_28 : decode cX1_order 28 = .ok (.aload_n 0, 1) := by decide +kernel
theorem dX1_order_29 : decode cX1_order 29 = .ok (.getfield 13, 3) := by decide +kernel
theorem dX1_order_32 : decode cX1_order 32 = .ok (.iconst 1, 1) := by decide +kernel
theorem dX1_order_33 : decode cX1_order 33 = .ok (.isub, 1) := by decide +kernel
theorem dX1_order_34 : decode cX1_order 34 = .ok (.istore_n 2, 1) := by decide +kernel
theorem dX1_order_35 : decode cX1_order 35 = .ok (.iload_n 2, 1) := by decide +kernel
theorem dX1_order_36 : decode cX1_order 36 = .ok (.ifCond .lt 47, 3) := by decide +kernel
theorem dX1_order_39 : decode cX1_order 39 = .ok (.aload_n 0, 1) := by decide +kernel
theorem dX1_order_40 : decode cX1_order 40 = .ok (.getfield 9, 3) := by decide +kernel
theorem dX1_order_43 : decode cX1_order 43 = .ok (.iload_n 2, 1) := by decide +kernel
theorem dX1_order_44 : decode cX1_order 44 = .ok (.laload, 1) := by decide +kernel
theorem dX1_order_45 : decode cX1_order 45 = .ok (.aload_n 1, 1) := by decide +kernel
theorem dX1_order_46 : decode cX1_order 46 = .ok (.getfield 9, 3) := by decide +kernel
theorem dX1_order_49 : decode cX1_order 49 = .ok (.iload_n 2, 1) := by decide +kernel
theorem dX1_order_50 : decode cX1_order 50 = .ok (.laload, 1) := by decide +kernel
theorem dX1_order_51 : decode cX1_order 51 = .ok (.lcmp, 1) := by decide +kernel
theorem dX1_order_52 : decode cX1_order 52 = .ok (.ifCond .eq 25, 3) := by decide +kernel
theorem dX1_order_55 : decode cX1_order 55 = .ok (.aload_n 0, 1) := by decide +kernel
theorem dX1_order_56 : decode cX1_order 56 = .ok (.getfield 9, 3) := by decide +kernel
theorem dX1_order_59 : decode cX1_order 59 = .ok (.iload_n 2, 1) := by decide +kernel
theorem dX1_order_60 : decode cX1_order 60 = .ok (.laload, 1) := by decide +kernel
theorem dX1_order_61 : decode cX1_order 61 = .ok (.aload_n 1, 1) := by decide +kernel
theorem dX1_order_62 : decode cX1_order 62 = .ok (.getfield 9, 3) := by decide +kernel
theorem dX1_order_65 : decode cX1_order 65 = .ok (.iload_n 2, 1) := by decide +kernel
theorem dX1_order_66 : decode cX1_order 66 = .ok (.laload, 1) := by decide +kernel
theorem dX1_order_67 : decode cX1_order 67 = .ok (.lcmp, 1) := by decide +kernel
theorem dX1_order_68 : decode cX1_order 68 = .ok (.ifCond .ge 7, 3) := by decide +kernel
theorem dX1_order_71 : decode cX1_order 71 = .ok (.iconst (-1), 1) := by decide +kernel
theorem dX1_order_72 : decode cX1_order 72 = .ok (.goto 4, 3) := by decide +kernel
theorem dX1_order_75 : decode cX1_order 75 = .ok (.iconst 1, 1) := by decide +kernel
theorem dX1_order_76 : decode cX1_order 76 = .ok (.ireturn, 1) := by decide +kernel
theorem dX1_order_77 : decode cX1_order 77 = .ok (.iinc 2 (-1), 3) := by decide +kernel
theorem dX1_order_80 : decode cX1_order 80 = .ok (.goto (-45), 3) := by decide +kernel
theorem dX1_order_83 : decode cX1_order 83 = .ok (.iconst 0, 1) := by decide +kernel
theorem dX1_order_84 : decode cX1_order 84 = .ok (.ireturn, 1) := by decide +kernel
set_option maxRecDepth 20000 in
theorem ggX1_add_X1_close : GoodIn wsX1_add wsX1_close := goodIn_r _ [12, 1, 6, 13, 14] (by decide +kernel) (by decide +kernel)
set_option maxRecDepth 20000 in
theorem gX1_add_X1_close : GoodIn wsX1_add (wsV RX1 47 RX1 yX1_close wsX1_close) := goodIn_app (goodIn_of _ (by decide +kernel)) ggX1_add_X1_close
theorem dX1_add_0 : decode cX1_add 0 = .ok (.aload_n 0, 1) := by decide +kernel
theorem dX1_add_1 : decode cX1_add 1 = .ok (.getfield 13, 3) := by decide +kernel
theorem dX1_add_4 : decode cX1_add 4 = .ok (.aload_n 1, 1) := by decide +kernel
theorem dX1_add_5 : decode cX1_add 5 = .ok (.getfield 13, 3) := by decide +kernel
theorem dX1_add_8 : decode cX1_add 8 = .ok (.invokestatic 38, 3) := by decide +kernel
theorem dX1_add_11 : decode cX1_add 11 = .ok (.istore_n 2, 1) := by decide +kernel
theorem dX1_add_12 : decode cX1_add 12 = .ok (.lconst 0, 1) := by decide +kernel
theorem dX1_add_13 : decode cX1_add 13 = .ok (.lstore_n 3, 1) := by decide +kernel
theorem dX1_add_14 : decode cX1_add 14 = .ok (.iconst 0, 1) := by decide +kernel
theorem dX1_add_15 : decode cX1_add 15 = .ok (.istore 5, 2) := by decide +kernel
theorem dX1_add_17 : decode cX1_add 17 = .ok (.iload 5, 2) := by decide +kernel
theorem dX1_add_19 : decode cX1_add 19 = .ok (.iload_n 2, 1) := by decide +kernel
theorem dX1_add_20 : decode cX1_add 20 = .ok (.if_icmp .ge 48, 3) := by decide +kernel
theorem dX1_add_23 : decode cX1_add 23 = .ok (.aload_n 0, 1) := by decide +kernel
theorem dX1_add_24 : decode cX1_add 24 = .ok (.getfield 9, 3) := by decide +kernel
theorem dX1_add_27 : decode cX1_add 27 = .ok (.iload 5, 2) := by decide +kernel
theorem dX1_add_29 : decode cX1_add 29 = .ok (.laload, 1) := by decide +kernel
theorem dX1_add_30 : decode cX1_add 30 = .ok (.aload_n 1, 1) := by decide +kernel
theorem dX1_add_31 : decode cX1_add 31 = .ok (.getfield 9, 3) := by decide +kernel
theorem dX1_add_34 : decode cX1_add 34 = .ok (.iload 5, 2) := by decide +kernel
theorem dX1_add_36 : decode cX1_add 36 = .ok (.laload, 1) := by decide +kernel
theorem dX1_add_37 : decode cX1_add 37 = .ok (.ladd, 1) := by decide +kernel
theorem dX1_add_38 : decode cX1_add 38 = .ok (.lload_n 3, 1) := by decide +kernel
theorem dX1_add_39 : decode cX1_add 39 = .ok (.ladd, 1) := by decide +kernel
theorem dX1_add_40 : decode cX1_add 40 = .ok (.lstore 6, 2) := by decide +kernel
theorem dX1_add_42 : decode cX1_add 42 = .ok (.aload_n 0, 1) := by decide +kernel
theorem dX1_add_43 : decode cX1_add 43 = .ok (.getfield 9, 3) := by decide +kernel
theorem dX1_add_46 : decode cX1_add 46 = .ok (.iload 5, 2) := by decide +kernel
theorem dX1_add_48 : decode cX1_add 48 = .ok (.lload 6, 2) := by decide +kernel
theorem dX1_add_50 : decode cX1_add 50 = .ok (.ldc2_w 26, 3) := by decide +kernel
theorem dX1_add_53 : decode cX1_add 53 = .ok (.lrem, 1) := by decide +kernel
theorem dX1_add_54 : decode cX1_add 54 = .ok (.lastore, 1) := by decide +kernel
theorem dX1_add_55 : decode cX1_add 55 = .ok (.lload 6, 2) := by decide +kernel
theorem dX1_add_57 : decode cX1_add 57 = .ok (.ldc2_w 26, 3) := by decide +kernel
theorem dX1_add_60 : decode cX1_add 60 = .ok (.ldiv, 1) := by decide +kernel
theorem dX1_add_61 : decode cX1_add 61 = .ok (.lstore_n 3, 1) := by decide +kernel
theorem dX1_add_62 : decode cX1_add 62 = .ok (.iinc 5 1, 3) := by decide +kernel
theorem dX1_add_65 : decode cX1_add 65 = .ok (.goto (-48), 3) := by decide +kernel
theorem dX1_add_68 : decode cX1_add 68 = .ok (.aload_n 0, 1) := by decide +kernel
theorem dX1_add_69 : decode cX1_add 69 = .ok (.iload_n 2, 1) := by decide +kernel
theorem dX1_add_70 : decode cX1_add 70 = .ok (.lload_n 3, 1) := by decide +kernel
theorem dX1_add_71 : decode cX1_add 71 = .ok (.invokevirtual 47, 3) := by decide +kernel
theorem dX1_add_74 : decode cX1_add 74 = .ok (.return_, 1) := by decide +kernel
set_option maxRecDepth 20000 in
theorem ggX1_subtract_X1_shrink : GoodIn wsX1_subtract wsX1_shrink := goodIn_r _ [8, 1, 2, 9, 10] (by decide +kernel) (by decide +kernel)
set_option maxRecDepth 20000 in
theorem gX1_subtract_X1_shrink : GoodIn wsX1_subtract (wsV RX1 51 RX1 yX1_shrink wsX1_shrink) := goodIn_app (goodIn_of _ (by decide +kernel)) ggX1_subtract_X1_shrink
theorem dX1_subtract_0 : decode cX1_subtract 0 = .ok (.lconst 0, 1) := by decide +kernel
theorem dX1_subtract_1 : decode cX1_subtract 1 = .ok (.lstore_n 2, 1) := by decide +kernel
theorem dX1_subtract_2 : decode cX1_subtract 2 = .ok (.iconst 0, 1) := by decide +kernel
theorem dX1_subtract_3 : decode cX1_subtract 3 = .ok (.istore 4, 2) := by decide +kernel
theorem dX1_subtract_5 : decode cX1_subtract 5 = .ok (.iload 4, 2) := by decide +kernel
theorem dX1_subtract_7 : decode cX1_subtract 7 = .ok (.aload_n 0, 1) := by decide +kernel
theorem dX1_subtract_8 : decode cX1_subtract 8 = .ok (.getfield 13, 3) := by decide +kernel
theorem dX1_subtract_11 : decode cX1_subtract 11 = .ok (.if_icmp .ge 56, 3) := by decide +kernel
theorem dX1_subtract_14 : decode cX1_subtract 14 = .ok (.aload_n 0, 1) := by decide +kernel
theorem dX1_subtract_15 : decode cX1_subtract 15 = .ok (.getfield 9, 3) := by decide +kernel
theorem dX1_subtract_18 : decode cX1_subtract 18 = .ok (.iload 4, 2) := by decide +kernel
theorem dX1_subtract_20 : decode cX1_subtract 20 = .ok (.laload, 1) := by decide +kernel
theorem dX1_subtract_21 : decode cX1_subtract 21 = .ok (.aload_n 1, 1) := by decide +kernel
theorem dX1_subtract_22 : decode cX1_subtract 22 = .ok (.getfield 9, 3) := by decide +kernel
theorem dX1_subtract_25 : decode cX1_subtract 25 = .ok (.iload 4, 2) := by decide +kernel
theorem dX1_subtract_27 : decode cX1_subtract 27 = .ok (.laload, 1) := by decide +kernel
theorem dX1_subtract_28 : decode cX1_subtract 28 = .ok (.lsub, 1) := by decide +kernel
theorem dX1_subtract_29 : decode cX1_subtract 29 = .ok (.lload_n 2, 1) := by decide +kernel
theorem dX1_subtract_30 : decode cX1_subtract 30 = .ok (.lsub, 1) := by decide +kernel
theorem dX1_subtract_31 : decode cX1_subtract 31 = .ok (.lstore 5, 2) := by decide +kernel
theorem dX1_subtract_33 : decode cX1_subtract 33 = .ok (.lload 5, 2) := by decide +kernel
theorem dX1_subtract_35 : decode cX1_subtract 35 = .ok (.lconst 0, 1) := by decide +kernel
theorem dX1_subtract_36 : decode cX1_subtract 36 = .ok (.lcmp, 1) := by decide +kernel
theorem dX1_subtract_37 : decode cX1_subtract 37 = .ok (.ifCond .ge 7, 3) := by decide +kernel
theorem dX1_subtract_40 : decode cX1_subtract 40 = .ok (.lconst 1, 1) := by decide +kernel
theorem dX1_subtract_41 : decode cX1_subtract 41 = .ok (.goto 4, 3) := by decide +kernel
theorem dX1_subtract_44 : decode cX1_subtract 44 = .ok (.lconst 0, 1) := by decide +kernel
theorem dX1_subtract_45 : decode cX1_subtract 45 = .ok (.lstore_n 2, 1) := by decide +kernel
theorem dX1_subtract_46 : decode cX1_subtract 46 = .ok (.aload_n 0, 1) := by decide +kernel
theorem dX1_subtract_47 : decode cX1_subtract 47 = .ok (.getfield 9, 3) := by decide +kernel
theorem dX1_subtract_50 : decode cX1_subtract 50 = .ok (.iload 4, 2) := by decide +kernel
theorem dX1_subtract_52 : decode cX1_subtract 52 = .ok (.lload 5, 2) := by decide +kernel
theorem dX1_subtract_54 : decode cX1_subtract 54 = .ok (.lload_n 2, 1) := by decide +kernel
theorem dX1_subtract_55 : decode cX1_subtract 55 = .ok (.ldc2_w 26, 3) := by decide +kernel
theorem dX1_subtract_58 : decode cX1_subtract 58 = .ok (.lmul, 1) := by decide +kernel
theorem dX1_subtract_59 : decode cX1_subtract 59 = .ok (.ladd, 1) := by decide +kernel
theorem dX1_subtract_60 : decode cX1_subtract 60 = .ok (.lastore, 1) := by decide +kernel
theorem dX1_subtract_61 : decode cX1_subtract 61 = .ok (.iinc 4 1, 3) := by decide +kernel
theorem dX1_subtract_64 : decode cX1_subtract 64 = .ok (.goto (-59), 3) := by decide +kernel
theorem dX1_subtract_67 : decode cX1_subtract 67 = .ok (.aload_n 0, 1) := by decide +kernel
theorem dX1_subtract_68 : decode cX1_subtract 68 = .ok (.invokevirtual 51, 3) := by decide +kernel
theorem dX1_subtract_71 : decode cX1_subtract 71 = .ok (.return_, 1) := by decide +kernel
set_option maxRecDepth 20000 in
theorem ggX1_becomeProduct_X1_clear : GoodIn wsX1_becomeProduct wsX1_clear := goodIn_r _ [8, 1, 2, 13, 14] (by decide +kernel) (by decide +kernel)
set_option maxRecDepth 20000 in
theorem gX1_becomeProduct_X1_clear : GoodIn wsX1_becomeProduct (wsV RX1 23 RX1 yX1_clear wsX1_clear) := goodIn_app (goodIn_of _ (by decide +kernel)) ggX1_becomeProduct_X1_clear
set_option maxRecDepth 20000 in
theorem ggX1_becomeProduct_X1_shrink : GoodIn wsX1_becomeProduct wsX1_shrink := goodIn_r _ [12, 1, 2, 13, 14] (by decide +kernel) (by decide +kernel)
set_option maxRecDepth 20000 in
theorem gX1_becomeProduct_X1_shrink : GoodIn wsX1_becomeProduct (wsV RX1 51 RX1 yX1_shrink wsX1_shrink) := goodIn_app (goodIn_of _ (by decide +kernel)) ggX1_becomeProduct_X1_shrink
theorem dX1_becomeProduct_0 : decode cX1_becomeProduct 0 = .ok (.aload_n 0, 1) := by decide +kernel
theorem dX1_becomeProduct_1 : decode cX1_becomeProduct 1 = .ok (.invokevirtual 23, 3) := by decide +kernel
theorem dX1_becomeProduct_4 : decode cX1_becomeProduct 4 = .ok (.aload_n 1, 1) := by decide +kernel
theorem dX1_becomeProduct_5 : decode cX1_becomeProduct 5 = .ok (.getfield 13, 3) := by decide +kernel
theorem dX1_becomeProduct_8 : decode cX1_becomeProduct 8 = .ok (.aload_n 2, 1) := by decide +kernel
theorem dX1_becomeProduct_9 : decode cX1_becomeProduct 9 = .ok (.getfield 13, 3) := by decide +kernel
theorem dX1_becomeProduct_12 : decode cX1_becomeProduct 12 = .ok (.iadd, 1) := by decide +kernel
theorem dX1_becomeProduct_13 : decode cX1_becomeProduct 13 = .ok (.bipush 64, 2) := by decide +kernel
theorem dX1_becomeProduct_15 : decode cX1_becomeProduct 15 = .ok (.if_icmp .le 4, 3) := by decide +kernel
theorem dX1_becomeProduct_18 : decode cX1_becomeProduct 18 = .ok (.return_, 1) := by decide +kernel
theorem dX1_becomeProduct_19 : decode cX1_becomeProduct 19 = .ok (.iconst 0, 1) := by decide +kernel
theorem dX1_becomeProduct_20 : decode cX1_becomeProduct 20 = .ok (.istore_n 3, 1) := by decide +kernel
theorem dX1_becomeProduct_21 : decode cX1_becomeProduct 21 = .ok (.iload_n 3, 1) := by decide +kernel
theorem dX1_becomeProduct_22 : decode cX1_becomeProduct 22 = .ok (.aload_n 1, 1) := by decide +kernel
theorem dX1_becomeProduct_23 : decode cX1_becomeProduct 23 = .ok (.getfield 13, 3) := by decide +kernel
theorem dX1_becomeProduct_26 : decode cX1_becomeProduct 26 = .ok (.if_icmp .ge 95, 3) := by decide +kernel
theorem dX1_becomeProduct_29 : decode cX1_becomeProduct 29 = .ok (.lconst 0, 1) := by decide +kernel
theorem dX1_becomeProduct_30 : decode cX1_becomeProduct 30 = .ok (.lstore 4, 2) := by decide +kernel
theorem dX1_becomeProduct_32 : decode cX1_becomeProduct 32 = .ok (.iconst 0, 1) := by decide +kernel
theorem dX1_becomeProduct_33 : decode cX1_becomeProduct 33 = .ok (.istore 6, 2) := by decide +kernel
theorem dX1_becomeProduct_35 : decode cX1_becomeProduct 35 = .ok (.iload 6, 2) := by decide +kernel
theorem dX1_becomeProduct_37 : decode cX1_becomeProduct 37 = .ok (.aload_n 2, 1) := by decide +kernel
theorem dX1_becomeProduct_38 : decode cX1_becomeProduct 38 = .ok (.getfield 13, 3) := by decide +kernel
theorem dX1_becomeProduct_41 : decode cX1_becomeProduct 41 = .ok (.if_icmp .ge 61, 3) := by decide +kernel
theorem dX1_becomeProduct_44 : decode cX1_becomeProduct 44 = .ok (.aload_n 0, 1) := by decide +kernel
theorem dX1_becomeProduct_45 : decode cX1_becomeProduct 45 = .ok (.getfield 9, 3) := by decide +kernel
theorem dX1_becomeProduct_48 : decode cX1_becomeProduct 48 = .ok (.iload_n 3, 1) := by decide +kernel
theorem dX1_becomeProduct_49 : decode cX1_becomeProduct 49 = .ok (.iload 6, 2) := by decide +kernel
theorem dX1_becomeProduct_51 : decode cX1_becomeProduct 51 = .ok (.iadd, 1) := by decide +kernel
theorem dX1_becomeProduct_52 : decode cX1_becomeProduct 52 = .ok (.laload, 1) := by decide +kernel
theorem dX1_becomeProduct_53 : decode cX1_becomeProduct 53 = .ok (.aload_n 1, 1) := by decide +kernel
theorem dX1_becomeProduct_54 : decode cX1_becomeProduct 54 = .ok (.getfield 9, 3) := by decide +kernel
theorem dX1_becomeProduct_57 : decode cX1_becomeProduct 57 = .ok (.iload_n 3, 1) := by decide +kernel
theorem dX1_becomeProduct_58 : decode cX1_becomeProduct 58 = .ok (.laload, 1) := by decide +kernel
theorem dX1_becomeProduct_59 : decode cX1_becomeProduct 59 = .ok (.aload_n 2, 1) := by decide +kernel
theorem dX1_becomeProduct_60 : decode cX1_becomeProduct 60 = .ok (.getfield 9, 3) := by decide +kernel
theorem dX1_becomeProduct_63 : decode cX1_becomeProduct 63 = .ok (.iload 6, 2) := by decide +kernel
theorem dX1_becomeProduct_65 : decode cX1_becomeProduct 65 = .ok (.laload, 1) := by decide +kernel
theorem dX1_becomeProduct_66 : decode cX1_becomeProduct 66 = .ok (.lmul, 1) := by decide +kernel
theorem dX1_becomeProduct_67 : decode cX1_becomeProduct 67 = .ok (.ladd, 1) := by decide +kernel
theorem dX1_becomeProduct_68 : decode cX1_becomeProduct 68 = .ok (.lload 4, 2) := by decide +kernel
theorem dX1_becomeProduct_70 : decode cX1_becomeProduct 70 = .ok (.ladd, 1) := by decide +kernel
theorem dX1_becomeProduct_71 : decode cX1_becomeProduct 71 = .ok (.lstore 7, 2) := by decide +kernel
theorem dX1_becomeProduct_73 : decode cX1_becomeProduct 73 = .ok (.aload_n 0, 1) := by decide +kernel
theorem dX1_becomeProduct_74 : decode cX1_becomeProduct 74 = .ok (.getfield 9, 3) := by decide +kernel
theorem dX1_becomeProduct_77 : decode cX1_becomeProduct 77 = .ok (.iload_n 3, 1) := by decide +kernel
theorem dX1_becomeProduct_78 : decode cX1_becomeProduct 78 = .ok (.iload 6, 2) := by decide +kernel
theorem dX1_becomeProduct_80 : decode cX1_becomeProduct 80 = .ok (.iadd, 1) := by decide +kernel
theorem dX1_becomeProduct_81 : decode cX1_becomeProduct 81 = .ok (.lload 7, 2) := by decide +kernel
theorem dX1_becomeProduct_83 : decode cX1_becomeProduct 83 = .ok (.ldc2_w 26, 3) := by decide +kernel
theorem dX1_becomeProduct_86 : decode cX1_becomeProduct 86 = .ok (.lrem, 1) := by decide +kernel
theorem dX1_becomeProduct_87 : decode cX1_becomeProduct 87 = .ok (.lastore, 1) := by decide +kernel
theorem dX1_becomeProduct_88 : decode cX1_becomeProduct 88 = .ok (.lload 7, 2) := by decide +kernel
theorem dX1_becomeProduct_90 : decode cX1_becomeProduct 90 = .ok (.ldc2_w 26, 3) := by decide +kernel
theorem dX1_becomeProduct_93 : decode cX1_becomeProduct 93 = .ok (.ldiv, 1) := by decide +kernel
theorem dX1_becomeProduct_94 : decode cX1_becomeProduct 94 = .ok (.lstore 4, 2) := by decide +kernel
theorem dX1_becomeProduct_96 : decode cX1_becomeProduct 96 = .ok (.iinc 6 1, 3) := by decide +kernel
theorem dX1_becomeProduct_99 : decode cX1_becomeProduct 99 = .ok (.goto (-64), 3) := by decide +kernel
theorem dX1_becomeProduct_102 : decode cX1_becomeProduct 102 = .ok (.aload_n 0, 1) := by decide +kernel
theorem dX1_becomeProduct_103 : decode cX1_becomeProduct 103 = .ok (.getfield 9, 3) := by decide +kernel
theorem dX1_becomeProduct_106 : decode cX1_becomeProduct 106 = .ok (.iload_n 3, 1) := by decide +kernel
theorem dX1_becomeProduct_107 : decode cX1_becomeProduct 107 = .ok (.aload_n 2, 1) := by decide +kernel
theorem dX1_becomeProduct_108 : decode cX1_becomeProduct 108 = .ok (.getfield 13, 3) := by decide +kernel
theorem dX1_becomeProduct_111 : decode cX1_becomeProduct 111 = .ok (.iadd, 1) := by decide +kernel
theorem dX1_becomeProduct_112 : decode cX1_becomeProduct 112 = .ok (.lload 4, 2) := by decide +kernel
theorem dX1_becomeProduct_114 : decode cX1_becomeProduct 114 = .ok (.lastore, 1) := by decide +kernel
theorem dX1_becomeProduct_115 : decode cX1_becomeProduct 115 = .ok (.iinc 3 1, 3) := by decide +kernel
theorem dX1_becomeProduct_118 : decode cX1_becomeProduct 118 = .ok (.goto (-97), 3) := by decide +kernel
theorem dX1_becomeProduct_121 : decode cX1_becomeProduct 121 = .ok (.aload_n 0, 1) := by decide +kernel
theorem dX1_becomeProduct_122 : decode cX1_becomeProduct 122 = .ok (.aload_n 1, 1) := by decide +kernel
theorem dX1_becomeProduct_123 : decode cX1_becomeProduct 123 = .ok (.getfield 13, 3) := by decide +kernel
theorem dX1_becomeProduct_126 : decode cX1_becomeProduct 126 = .ok (.aload_n 2, 1) := by decide +kernel
theorem dX1_becomeProduct_127 : decode cX1_becomeProduct 127 = .ok (.getfield 13, 3) := by decide +kernel
theorem dX1_becomeProduct_130 : decode cX1_becomeProduct 130 = .ok (.iadd, 1) := by decide +kernel
theorem dX1_becomeProduct_131 : decode cX1_becomeProduct 131 = .ok (.putfield 13, 3) := by decide +kernel
theorem dX1_becomeProduct_134 : decode cX1_becomeProduct 134 = .ok (.aload_n 0, 1) := by decide +kernel
theorem dX1_becomeProduct_135 : decode cX1_becomeProduct 135 = .ok (.invokevirtual 51, 3) := by decide +kernel
theorem dX1_becomeProduct_138 : decode cX1_becomeProduct 138 = .ok (.return_, 1) := by decide +kernel
set_option maxRecDepth 20000 in
theorem ggX1_raise_X1_close : GoodIn wsX1_raise wsX1_close := goodIn_r _ [9, 1, 3, 14, 15] (by decide +kernel) (by decide +kernel)
set_option maxRecDepth 20000 in
theorem gX1_raise_X1_close : GoodIn wsX1_raise (wsV RX1 47 RX1 yX1_close wsX1_close) := goodIn_app (goodIn_of _ (by decide +kernel)) ggX1_raise_X1_close
set_option maxRecDepth 20000 in
theorem ggX1_raise_X1_shift : GoodIn wsX1_raise wsX1_shift := goodIn_r _ [13, 1, 3, 14, 15] (by decide +kernel) (by decide +kernel)
set_option maxRecDepth 20000 in
theorem gX1_raise_X1_shift : GoodIn wsX1_raise (wsV RX1 54 RX1 yX1_shift wsX1_shift) := goodIn_app (goodIn_of _ (by decide +kernel)) ggX1_raise_X1_shift
theorem dX1_raise_0 : decode cX1_raise 0 = .ok (.iload_n 1, 1) := by decide +kernel
theorem dX1_raise_1 : decode cX1_raise 1 = .ok (.bipush 6, 2) := by decide +kernel
theorem dX1_raise_3 : decode cX1_raise 3 = .ok (.idiv, 1) := by decide +kernel
theorem dX1_raise_4 : decode cX1_raise 4 = .ok (.istore_n 2, 1) := by decide +kernel
theorem dX1_raise_5 : decode cX1_raise 5 = .ok (.aload_n 0, 1) := by decide +kernel
theorem dX1_raise_6 : decode cX1_raise 6 = .ok (.getfield 13, 3) := by decide +kernel
theorem dX1_raise_9 : decode cX1_raise 9 = .ok (.ifCond .eq 18, 3) := by decide +kernel
theorem dX1_raise_12 : decode cX1_raise 12 = .ok (.iload_n 1, 1) := by decide +kernel
theorem dX1_raise_13 : decode cX1_raise 13 = .ok (.ifCond .le 14, 3) := by decide +kernel
theorem dX1_raise_16 : decode cX1_raise 16 = .ok (.aload_n 0, 1) := by decide +kernel
theorem dX1_raise_17 : decode cX1_raise 17 = .ok (.getfield 13, 3) := by decide +kernel
theorem dX1_raise_20 : decode cX1_raise 20 = .ok (.iload_n 2, 1) := by decide +kernel
theorem dX1_raise_21 : decode cX1_raise 21 = .ok (.iadd, 1) := by decide +kernel
theorem dX1_raise_22 : decode cX1_raise 22 = .ok (.bipush 64, 2) := by decide +kernel
theorem dX1_raise_24 : decode cX1_raise 24 = .ok (.if_icmp .lt 4, 3) := by decide +kernel
theorem dX1_raise_27 : decode cX1_raise 27 = .ok (.return_, 1) := by decide +kernel
theorem dX1_raise_28 : decode cX1_raise 28 = .ok (.getstatic 42, 3) := by decide +kernel
theorem dX1_raise_31 : decode cX1_raise 31 = .ok (.iload_n 1, 1) := by decide +kernel
theorem dX1_raise_32 : decode cX1_raise 32 = .ok (.bipush 6, 2) := by decide +kernel
theorem dX1_raise_34 : decode cX1_raise 34 = .ok (.irem, 1) := by decide +kernel
theorem dX1_raise_35 : decode cX1_raise 35 = .ok (.laload, 1) := by decide +kernel
theorem dX1_raise_36 : decode cX1_raise 36 = .ok (.lstore_n 3, 1) := by decide +kernel
theorem dX1_raise_37 : decode cX1_raise 37 = .ok (.lconst 0, 1) := by decide +kernel
theorem dX1_raise_38 : decode cX1_raise 38 = .ok (.lstore 5, 2) := by decide +kernel
theorem dX1_raise_40 : decode cX1_raise 40 = .ok (.iconst 0, 1) := by decide +kernel
theorem dX1_raise_41 : decode cX1_raise 41 = .ok (.istore 7, 2) := by decide +kernel
theorem dX1_raise_43 : decode cX1_raise 43 = .ok (.iload 7, 2) := by decide +kernel
theorem dX1_raise_45 : decode cX1_raise 45 = .ok (.aload_n 0, 1) := by decide +kernel
theorem dX1_raise_46 : decode cX1_raise 46 = .ok (.getfield 13, 3) := by decide +kernel
theorem dX1_raise_49 : decode cX1_raise 49 = .ok (.if_icmp .ge 44, 3) := by decide +kernel
theorem dX1_raise_52 : decode cX1_raise 52 = .ok (.aload_n 0, 1) := by decide +kernel
theorem dX1_raise_53 : decode cX1_raise 53 = .ok (.getfield 9, 3) := by decide +kernel
theorem dX1_raise_56 : decode cX1_raise 56 = .ok (.iload 7, 2) := by decide +kernel
theorem dX1_raise_58 : decode cX1_raise 58 = .ok (.laload, 1) := by decide +kernel
theorem dX1_raise_59 : decode cX1_raise 59 = .ok (.lload_n 3, 1) := by decide +kernel
theorem dX1_raise_60 : decode cX1_raise 60 = .ok (.lmul, 1) := by decide +kernel
theorem dX1_raise_61 : decode cX1_raise 61 = .ok (.lload 5, 2) := by decide +kernel
theorem dX1_raise_63 : decode cX1_raise 63 = .ok (.ladd, 1) := by decide +kernel
theorem dX1_raise_64 : decode cX1_raise 64 = .ok (.lstore 8, 2) := by decide +kernel
theorem dX1_raise_66 : decode cX1_raise 66 = .ok (.aload_n 0, 1) := by decide +kernel
theorem dX1_raise_67 : decode cX1_raise 67 = .ok (.getfield 9, 3) := by decide +kernel
theorem dX1_raise_70 : decode cX1_raise 70 = .ok (.iload 7, 2) := by decide +kernel
theorem dX1_raise_72 : decode cX1_raise 72 = .ok (.lload 8, 2) := by decide +kernel
theorem dX1_raise_74 : decode cX1_raise 74 = .ok (.ldc2_w 26, 3) := by decide +kernel
theorem dX1_raise_77 : decode cX1_raise 77 = .ok (.lrem, 1) := by decide +kernel
theorem dX1_raise_78 : decode cX1_raise 78 = .ok (.lastore, 1) := by decide +kernel
theorem dX1_raise_79 : decode cX1_raise 79 = .ok (.lload 8, 2) := by decide +kernel
theorem dX1_raise_81 : decode cX1_raise 81 = .ok (.ldc2_w 26, 3) := by decide +kernel
theorem dX1_raise_84 : decode cX1_raise 84 = .ok (.ldiv, 1) := by decide +kernel
theorem dX1_raise_85 : decode cX1_raise 85 = .ok (.lstore 5, 2) := by decide +kernel
theorem dX1_raise_87 : decode cX1_raise 87 = .ok (.iinc 7 1, 3) := by decide +kernel
theorem dX1_raise_90 : decode cX1_raise 90 = .ok (.goto (-47), 3) := by decide +kernel
theorem dX1_raise_93 : decode cX1_raise 93 = .ok (.aload_n 0, 1) := by decide +kernel
theorem dX1_raise_94 : decode cX1_raise 94 = .ok (.aload_n 0, 1) := by decide +kernel
theorem dX1_raise_95 : decode cX1_raise 95 = .ok (.getfield 13, 3) := by decide +kernel
theorem dX1_raise_98 : decode cX1_raise 98 = .ok (.lload 5, 2) := by decide +kernel
theorem dX1_raise_100 : decode cX1_raise 100 = .ok (.invokevirtual 47, 3) := by decide +kernel
theorem dX1_raise_103 : decode cX1_raise 103 = .ok (.aload_n 0, 1) := by decide +kernel
theorem dX1_raise_104 : decode cX1_raise 104 = .ok (.iload_n 2, 1) := by decide +kernel
theorem dX1_raise_105 : decode cX1_raise 105 = .ok (.invokevirtual 54, 3) := by decide +kernel
theorem dX1_raise_108 : decode cX1_raise 108 = .ok (.return_, 1) := by decide +kernel
theorem dX1_shift_0 : decode cX1_shift 0 = .ok (.aload_n 0, 1) := by decide +kernel
theorem dX1_shift_1 : decode cX1_shift 1 = .ok (.getfield 13, 3) := by decide +kernel
theorem dX1_shift_4 : decode cX1_shift 4 = .ok (.iconst 1, 1) := by decide +kernel
theorem dX1_shift_5 : decode cX1_shift 5 = .ok (.isub, 1) := by decide +kernel
theorem dX1_shift_6 : decode cX1_shift 6 = .ok (.istore_n 2, 1) := by decide +kernel
theorem dX1_shift_7 : decode cX1_shift 7 = .ok (.iload_n 2, 1) := by decide +kernel
theorem dX1_shift_8 : decode cX1_shift 8 = .ok (.ifCond .lt 23, 3) := by decide +kernel
theorem dX1_shift_11 : decode cX1_shift 11 = .ok (.aload_n 0, 1) := by decide +kernel
theorem dX1_shift_12 : decode cX1_shift 12 = .ok (.getfield 9, 3) := by decide +kernel
theorem dX1_shift_15 : decode cX1_shift 15 = .ok (.iload_n 2, 1) := by decide +kernel
theorem dX1_shift_16 : decode cX1_shift 16 = .ok (.iload_n 1, 1) := by decide +kernel
theorem dX1_shift_17 : decode cX1_shift 17 = .ok (.iadd, 1) := by decide +kernel
theorem dX1_shift_18 : decode cX1_shift 18 = .ok (.aload_n 0, 1) := by decide +kernel
theorem dX1_shift_19 : decode cX1_shift 19 = .ok (.getfield 9, 3) := by decide +kernel
theorem dX1_shift_22 : decode cX1_shift 22 = .ok (.iload_n 2, 1) := by decide +kernel
theorem dX1_shift_23 : decode cX1_shift 23 = .ok (.laload, 1) := by decide +kernel
theorem dX1_shift_24 : decode cX1_shift 24 = .ok (.lastore, 1) := by decide +kernel
theorem dX1_shift_25 : decode cX1_shift 25 = .ok (.iinc 2 (-1), 3) := by decide +kernel
theorem dX1_shift_28 : decode cX1_shift 28 = .ok (.goto (-21), 3) := by decide +kernel
theorem dX1_shift_31 : decode cX1_shift 31 = .ok (.iconst 0, 1) := by decide +kernel
theorem dX1_shift_32 : decode cX1_shift 32 = .ok (.istore_n 2, 1) := by decide +kernel
theorem dX1_shift_33 : decode cX1_shift 33 = .ok (.iload_n 2, 1) := by decide +kernel
theorem dX1_shift_34 : decode cX1_shift 34 = .ok (.iload_n 1, 1) := by decide +kernel
theorem dX1_shift_35 : decode cX1_shift 35 = .ok (.if_icmp .ge 16, 3) := by decide +kernel
theorem dX1_shift_38 : decode cX1_shift 38 = .ok (.aload_n 0, 1) := by decide +kernel
theorem dX1_shift_39 : decode cX1_shift 39 = .ok (.getfield 9, 3) := by decide +kernel
theorem dX1_shift_42 : decode cX1_shift 42 = .ok (.iload_n 2, 1) := by decide +kernel
theorem dX1_shift_43 : decode cX1_shift 43 = .ok (.lconst 0, 1) := by decide +kernel
theorem dX1_shift_44 : decode cX1_shift 44 = .ok (.lastore, 1) := by decide +kernel
theorem dX1_shift_45 : decode cX1_shift 45 = .ok (.iinc 2 1, 3) := by decide +kernel
theorem dX1_shift_48 : decode cX1_shift 48 = .ok (.goto (-15), 3) := by decide +kernel
theorem dX1_shift_51 : decode cX1_shift 51 = .ok (.aload_n 0, 1) := by decide +kernel
theorem dX1_shift_52 : decode cX1_shift 52 = .ok (.dup, 1) := by decide +kernel
theorem dX1_shift_53 : decode cX1_shift 53 = .ok (.getfield 13, 3) := by decide +kernel
theorem dX1_shift_56 : decode cX1_shift 56 = .ok (.iload_n 1, 1) := by decide +kernel
theorem dX1_shift_57 : decode cX1_shift 57 = .ok (.iadd, 1) := by decide +kernel
theorem dX1_shift_58 : decode cX1_shift 58 = .ok (.putfield 13, 3) := by decide +kernel
theorem dX1_shift_61 : decode cX1_shift 61 = .ok (.return_, 1) := by decide +kernel
set_option maxRecDepth 20000 in
theorem ggX1_takeOut_X1_clear : GoodIn wsX1_takeOut wsX1_clear := goodIn_r _ [8, 1, 2, 26, 27] (by decide +kernel) (by decide +kernel)
set_option maxRecDepth 20000 in
theorem gX1_takeOut_X1_clear : GoodIn wsX1_takeOut (wsV RX1 23 RX1 yX1_clear wsX1_clear) := goodIn_app (goodIn_of _ (by decide +kernel)) ggX1_takeOut_X1_clear
set_option maxRecDepth 20000 in
theorem ggX1_takeOut_X1_guess : GoodIn wsX1_takeOut wsX1_guess := goodIn_r _ [12, 1, 2, 13, 26, 27] (by decide +kernel) (by decide +kernel)
set_option maxRecDepth 20000 in
theorem gX1_takeOut_X1_guess : GoodIn wsX1_takeOut (wsV RX1 58 RX1 yX1_guess wsX1_guess) := goodIn_app (goodIn_of _ (by decide +kernel)) ggX1_takeOut_X1_guess
set_option maxRecDepth 20000 in
theorem ggX1_takeOut_X1_takeAway : GoodIn wsX1_takeOut wsX1_takeAway := goodIn_r _ [17, 1, 2, 13, 18, 19, 20, 21, 26, 27] (by decide +kernel) (by decide +kernel)
set_option maxRecDepth 20000 in
theorem gX1_takeOut_X1_takeAway : GoodIn wsX1_takeOut (wsV RX1 62 RX1 yX1_takeAway wsX1_takeAway) := goodIn_app (goodIn_of _ (by decide +kernel)) ggX1_takeOut_X1_takeAway
set_option maxRecDepth 20000 in
theorem ggX1_takeOut_X1_shrink : GoodIn wsX1_takeOut wsX1_shrink := goodIn_r _ [25, 1, 2, 26, 27] (by decide +kernel) (by decide +kernel)
set_option maxRecDepth 20000 in
theorem gX1_takeOut_X1_shrink : GoodIn wsX1_takeOut (wsV RX1 51 RX1 yX1_shrink wsX1_shrink) := goodIn_app (goodIn_of _ (by decide +kernel)) ggX1_takeOut_X1_shrink
theorem dX1_takeOut_0 : decode cX1_takeOut 0 = .ok (.aload_n 2, 1) := by decide +kernel
theorem dX1_takeOut_1 : decode cX1_takeOut 1 = .ok (.invokevirtual 23, 3) := by decide +kernel
theorem dX1_takeOut_4 : decode cX1_takeOut 4 = .ok (.aload_n 1, 1) := by decide +kernel
theorem dX1_takeOut_5 : decode cX1_takeOut 5 = .ok (.getfield 13, 3) := by decide +kernel
theorem dX1_takeOut_8 : decode cX1_takeOut 8 = .ok (.ifCond .eq 23, 3) := by decide +kernel
theorem dX1_takeOut_11 : decode cX1_takeOut 11 = .ok (.aload_n 0, 1) := by decide +kernel
theorem dX1_takeOut_12 : decode cX1_takeOut 12 = .ok (.getfield 13, 3) := by decide +kernel
theorem dX1_takeOut_15 : decode cX1_takeOut 15 = .ok (.aload_n 1, 1) := by decide +kernel
theorem dX1_takeOut_16 : decode cX1_takeOut 16 = .ok (.getfield 13, 3) := by decide +kernel
theorem dX1_takeOut_19 : decode cX1_takeOut 19 = .ok (.if_icmp .lt 12, 3) := by decide +kernel
theorem dX1_takeOut_22 : decode cX1_takeOut 22 = .ok (.aload_n 0, 1) := by decide +kernel
theorem dX1_takeOut_23 : decode cX1_takeOut 23 = .ok (.getfield 13, 3) := by decide +kernel
theorem dX1_takeOut_26 : decode cX1_takeOut 26 = .ok (.bipush 64, 2) := by decide +kernel
theorem dX1_takeOut_28 : decode cX1_takeOut 28 = .ok (.if_icmp .lt 4, 3) := by decide +kernel
theorem dX1_takeOut_31 : decode cX1_takeOut 31 = .ok (.return_, 1) := by decide +kernel
theorem dX1_takeOut_32 : decode cX1_takeOut 32 = .ok (.aload_n 0, 1) := by decide +kernel
theorem dX1_takeOut_33 : decode cX1_takeOut 33 = .ok (.getfield 13, 3) := by decide +kernel
theorem dX1_takeOut_36 : decode cX1_takeOut 36 = .ok (.aload_n 1, 1) := by decide +kernel
theorem dX1_takeOut_37 : decode cX1_takeOut 37 = .ok (.getfield 13, 3) := by decide +kernel
theorem dX1_takeOut_40 : decode cX1_takeOut 40 = .ok (.isub, 1) := by decide +kernel
theorem dX1_takeOut_41 : decode cX1_takeOut 41 = .ok (.istore_n 3, 1) := by decide +kernel
theorem dX1_takeOut_42 : decode cX1_takeOut 42 = .ok (.iload_n 3, 1) := by decide +kernel
theorem dX1_takeOut_43 : decode cX1_takeOut 43 = .ok (.istore 4, 2) := by decide +kernel
theorem dX1_takeOut_45 : decode cX1_takeOut 45 = .ok (.iload 4, 2) := by decide +kernel
theorem dX1_takeOut_47 : decode cX1_takeOut 47 = .ok (.ifCond .lt 69, 3) := by decide +kernel
theorem dX1_takeOut_50 : decode cX1_takeOut 50 = .ok (.aload_n 0, 1) := by decide +kernel
theorem dX1_takeOut_51 : decode cX1_takeOut 51 = .ok (.aload_n 1, 1) := by decide +kernel
theorem dX1_takeOut_52 : decode cX1_takeOut 52 = .ok (.iload 4, 2) := by decide +kernel
theorem dX1_takeOut_54 : decode cX1_takeOut 54 = .ok (.invokevirtual 58, 3) := by decide +kernel
theorem dX1_takeOut_57 : decode cX1_takeOut 57 = .ok (.lstore 5, 2) := by decide +kernel
theorem dX1_takeOut_59 : decode cX1_takeOut 59 = .ok (.aload_n 0, 1) := by decide +kernel
theorem dX1_takeOut_60 : decode cX1_takeOut 60 = .ok (.aload_n 1, 1) := by decide +kernel
theorem dX1_takeOut_61 : decode cX1_takeOut 61 = .ok (.lload 5, 2) := by decide +kernel
theorem dX1_takeOut_63 : decode cX1_takeOut 63 = .ok (.iload 4, 2) := by decide +kernel
theorem dX1_takeOut_65 : decode cX1_takeOut 65 = .ok (.invokevirtual 62, 3) := by decide +kernel
theorem dX1_takeOut_68 : decode cX1_takeOut 68 = .ok (.aload_n 0, 1) := by decide +kernel
theorem dX1_takeOut_69 : decode cX1_takeOut 69 = .ok (.getfield 9, 3) := by decide +kernel
theorem dX1_takeOut_72 : decode cX1_takeOut 72 = .ok (.iload 4, 2) := by decide +kernel
theorem dX1_takeOut_74 : decode cX1_takeOut 74 = .ok (.aload_n 1, 1) := by decide +kernel
theorem dX1_takeOut_75 : decode cX1_takeOut 75 = .ok (.getfield 13, 3) := by decide +kernel
theorem dX1_takeOut_78 : decode cX1_takeOut 78 = .ok (.iadd, 1) := by decide +kernel
theorem dX1_takeOut_79 : decode cX1_takeOut 79 = .ok (.laload, 1) := by decide +kernel
theorem dX1_takeOut_80 : decode cX1_takeOut 80 = .ok (.lconst 0, 1) := by decide +kernel
theorem dX1_takeOut_81 : decode cX1_takeOut 81 = .ok (.lcmp, 1) := by decide +kernel
theorem dX1_takeOut_82 : decode cX1_takeOut 82 = .ok (.ifCond .ge 19, 3) := by decide +kernel
theorem dX1_takeOut_85 : decode cX1_takeOut 85 = .ok (.aload_n 0, 1) := by decide +kernel
theorem dX1_takeOut_86 : decode cX1_takeOut 86 = .ok (.aload_n 1, 1) := by decide +kernel
theorem dX1_takeOut_87 : decode cX1_takeOut 87 = .ok (.ldc2_w 66, 3) := by decide +kernel
theorem dX1_takeOut_90 : decode cX1_takeOut 90 = .ok (.iload 4, 2) := by decide +kernel
theorem dX1_takeOut_92 : decode cX1_takeOut 92 = .ok (.invokevirtual 62, 3) := by decide +kernel
theorem dX1_takeOut_95 : decode cX1_takeOut 95 = .ok (.lload 5, 2) := by decide +kernel
theorem dX1_takeOut_97 : decode cX1_takeOut 97 = .ok (.lconst 1, 1) := by decide +kernel
theorem dX1_takeOut_98 : decode cX1_takeOut 98 = .ok (.lsub, 1) := by decide +kernel
theorem dX1_takeOut_99 : decode cX1_takeOut 99 = .ok (.lstore 5, 2) := by decide +kernel
theorem dX1_takeOut_101 : decode cX1_takeOut 101 = .ok (.aload_n 2, 1) := by decide +kernel
theorem dX1_takeOut_102 : decode cX1_takeOut 102 = .ok (.getfield 9, 3) := by decide +kernel
theorem dX1_takeOut_105 : decode cX1_takeOut 105 = .ok (.iload 4, 2) := by decide +kernel
theorem dX1_takeOut_107 : decode cX1_takeOut 107 = .ok (.lload 5, 2) := by decide +kernel
theorem dX1_takeOut_109 : decode cX1_takeOut 109 = .ok (.lastore, 1) := by decide +kernel
theorem dX1_takeOut_110 : decode cX1_takeOut 110 = .ok (.iinc 4 (-1), 3) := by decide +kernel
theorem dX1_takeOut_113 : decode cX1_takeOut 113 = .ok (.goto (-68), 3) := by decide +kernel
theorem dX1_takeOut_116 : decode cX1_takeOut 116 = .ok (.aload_n 2, 1) := by decide +kernel
theorem dX1_takeOut_117 : decode cX1_takeOut 117 = .ok (.iload_n 3, 1) := by decide +kernel
theorem dX1_takeOut_118 : decode cX1_takeOut 118 = .ok (.iconst 1, 1) := by decide +kernel
theorem dX1_takeOut_119 : decode cX1_takeOut 119 = .ok (.iadd, 1) := by decide +kernel
theorem dX1_takeOut_120 : decode cX1_takeOut 120 = .ok (.putfield 13, 3) := by decide +kernel
theorem dX1_takeOut_123 : decode cX1_takeOut 123 = .ok (.aload_n 2, 1) := by decide +kernel
theorem dX1_takeOut_124 : decode cX1_takeOut 124 = .ok (.invokevirtual 51, 3) := by decide +kernel
theorem dX1_takeOut_127 : decode cX1_takeOut 127 = .ok (.aload_n 0, 1) := by decide +kernel
theorem dX1_takeOut_128 : decode cX1_takeOut 128 = .ok (.invokevirtual 51, 3) := by decide +kernel
theorem dX1_takeOut_131 : decode cX1_takeOut 131 = .ok (.return_, 1) := by decide +kernel
theorem dX1_guess_0 : decode cX1_guess 0 = .ok (.aload_n 1, 1) := by decide +kernel
theorem dX1_guess_1 : decode cX1_guess 1 = .ok (.getfield 13, 3) := by decide +kernel
theorem dX1_guess_4 : decode cX1_guess 4 = .ok (.iconst 1, 1) := by decide +kernel
theorem dX1_guess_5 : decode cX1_guess 5 = .ok (.isub, 1) := by decide +kernel
theorem dX1_guess_6 : decode cX1_guess 6 = .ok (.istore_n 3, 1) := by decide +kernel
theorem dX1_guess_7 : decode cX1_guess 7 = .ok (.aload_n 0, 1) := by decide +kernel
theorem dX1_guess_8 : decode cX1_guess 8 = .ok (.getfield 9, 3) := by decide +kernel
theorem dX1_guess_11 : decode cX1_guess 11 = .ok (.iload_n 2, 1) := by decide +kernel
theorem dX1_guess_12 : decode cX1_guess 12 = .ok (.iload_n 3, 1) := by decide +kernel
theorem dX1_guess_13 : decode cX1_guess 13 = .ok (.iadd, 1) := by decide +kernel
theorem dX1_guess_14 : decode cX1_guess 14 = .ok (.iconst 1, 1) := by decide +kernel
theorem dX1_guess_15 : decode cX1_guess 15 = .ok (.iadd, 1) := by decide +kernel
theorem dX1_guess_16 : decode cX1_guess 16 = .ok (.laload, 1) := by decide +kernel
theorem dX1_guess_17 : decode cX1_guess 17 = .ok (.ldc2_w 26, 3) := by decide +kernel
theorem dX1_guess_20 : decode cX1_guess 20 = .ok (.lmul, 1) := by decide +kernel
theorem dX1_guess_21 : decode cX1_guess 21 = .ok (.aload_n 0, 1) := by decide +kernel
theorem dX1_guess_22 : decode cX1_guess 22 = .ok (.getfield 9, 3) := by decide +kernel
theorem dX1_guess_25 : decode cX1_guess 25 = .ok (.iload_n 2, 1) := by decide +kernel
theorem dX1_guess_26 : decode cX1_guess 26 = .ok (.iload_n 3, 1) := by decide +kernel
theorem dX1_guess_27 : decode cX1_guess 27 = .ok (.iadd, 1) := by decide +kernel
theorem dX1_guess_28 : decode cX1_guess 28 = .ok (.laload, 1) := by decide +kernel
theorem dX1_guess_29 : decode cX1_guess 29 = .ok (.ladd, 1) := by decide +kernel
theorem dX1_guess_30 : decode cX1_guess 30 = .ok (.ldc2_w 26, 3) := by decide +kernel
theorem dX1_guess_33 : decode cX1_guess 33 = .ok (.lmul, 1) := by decide +kernel
theorem dX1_guess_34 : decode cX1_guess 34 = .ok (.lstore 4, 2) := by decide +kernel
theorem dX1_guess_36 : decode cX1_guess 36 = .ok (.aload_n 1, 1) := by decide +kernel
theorem dX1_guess_37 : decode cX1_guess 37 = .ok (.getfield 9, 3) := by decide +kernel
theorem dX1_guess_40 : decode cX1_guess 40 = .ok (.iload_n 3, 1) := by decide +kernel
theorem dX1_guess_41 : decode cX1_guess 41 = .ok (.laload, 1) := by decide +kernel
theorem dX1_guess_42 : decode cX1_guess 42 = .ok (.ldc2_w 26, 3) := by decide +kernel
theorem dX1_guess_45 : decode cX1_guess 45 = .ok (.lmul, 1) := by decide +kernel
theorem dX1_guess_46 : decode cX1_guess 46 = .ok (.lstore 6, 2) := by decide +kernel
theorem dX1_guess_48 : decode cX1_guess 48 = .ok (.iload_n 3, 1) := by decide +kernel
theorem dX1_guess_49 : decode cX1_guess 49 = .ok (.ifCond .le 31, 3) := by decide +kernel
theorem dX1_guess_52 : decode cX1_guess 52 = .ok (.lload 4, 2) := by decide +kernel
theorem dX1_guess_54 : decode cX1_guess 54 = .ok (.aload_n 0, 1) := by decide +kernel
theorem dX1_guess_55 : decode cX1_guess 55 = .ok (.getfield 9, 3) := by decide +kernel
theorem dX1_guess_58 : decode cX1_guess 58 = .ok (.iload_n 2, 1) := by decide +kernel
theorem dX1_guess_59 : decode cX1_guess 59 = .ok (.iload_n 3, 1) := by decide +kernel
theorem dX1_guess_60 : decode cX1_guess 60 = .ok (.iadd, 1) := by decide +kernel
theorem dX1_guess_61 : decode cX1_guess 61 = .ok (.iconst 1, 1) := by decide +kernel
theorem dX1_guess_62 : decode cX1_guess 62 = .ok (.isub, 1) := by decide +kernel
theorem dX1_guess_63 : decode cX1_guess 63 = .ok (.laload, 1) := by decide +kernel
theorem dX1_guess_64 : decode cX1_guess 64 = .ok (.ladd, 1) := by decide +kernel
theorem dX1_guess_65 : decode cX1_guess 65 = .ok (.lstore 4, 2) := by decide +kernel
theorem dX1_guess_67 : decode cX1_guess 67 = .ok (.lload 6, 2) := by decide +kernel
theorem dX1_guess_69 : decode cX1_guess 69 = .ok (.aload_n 1, 1) := by decide +kernel
theorem dX1_guess_70 : decode cX1_guess 70 = .ok (.getfield 9, 3) := by decide +kernel
theorem dX1_guess_73 : decode cX1_guess 73 = .ok (.iload_n 3, 1) := by decide +kernel
theorem dX1_guess_74 : decode cX1_guess 74 = .ok (.iconst 1, 1) := by decide +kernel
theorem dX1_guess_75 : decode cX1_guess 75 = .ok (.isub, 1) := by decide +kernel
theorem dX1_guess_76 : decode cX1_guess 76 = .ok (.laload, 1) := by decide +kernel
theorem dX1_guess_77 : decode cX1_guess 77 = .ok (.ladd, 1) := by decide +kernel
theorem dX1_guess_78 : decode cX1_guess 78 = .ok (.lstore 6, 2) := by decide +kernel
theorem dX1_guess_80 : decode cX1_guess 80 = .ok (.lload 6, 2) := by decide +kernel
theorem dX1_guess_82 : decode cX1_guess 82 = .ok (.lconst 0, 1) := by decide +kernel
theorem dX1_guess_83 : decode cX1_guess 83 = .ok (.lcmp, 1) := by decide +kernel
theorem dX1_guess_84 : decode cX1_guess 84 = .ok (.ifCond .ne 7, 3) := by decide +kernel
theorem dX1_guess_87 : decode cX1_guess 87 = .ok (.lconst 0, 1) := by decide +kernel
theorem dX1_guess_88 : decode cX1_guess 88 = .ok (.goto 8, 3) := by decide +kernel
theorem dX1_guess_91 : decode cX1_guess 91 = .ok (.lload 4, 2) := by decide +kernel
theorem dX1_guess_93 : decode cX1_guess 93 = .ok (.lload 6, 2) := by decide +kernel
theorem dX1_guess_95 : decode cX1_guess 95 = .ok (.ldiv, 1) := by decide +kernel
theorem dX1_guess_96 : decode cX1_guess 96 = .ok (.lreturn, 1) := by decide +kernel
set_option maxRecDepth 20000 in
theorem ggX1_takeAway_J9_floorDiv_f86c9 : GoodIn wsX1_takeAway wsJ9_floorDiv_f86c9 := goodIn_r _ [7] (by decide +kernel) (by decide +kernel)
set_option maxRecDepth 20000 in
theorem gX1_takeAway_J9_floorDiv_f86c9 : GoodIn wsX1_takeAway (va_wsS RX1 68 yJ9_floorDiv_f86c9 wsJ9_floorDiv_f86c9) := goodIn_app (goodIn_of _ (by decide +kernel)) ggX1_takeAway_J9_floorDiv_f86c9
theorem dX1_takeAway_0 : decode cX1_takeAway 0 = .ok (.lconst 0, 1) := by decide +kernel
theorem dX1_takeAway_1 : decode cX1_takeAway 1 = .ok (.lstore 5, 2) := by decide +kernel
theorem dX1_takeAway_3 : decode cX1_takeAway 3 = .ok (.iconst 0, 1) := by decide +kernel
theorem dX1_takeAway_4 : decode cX1_takeAway 4 = .ok (.istore 7, 2) := by decide +kernel
theorem dX1_takeAway_6 : decode cX1_takeAway 6 = .ok (.iload 7, 2) := by decide +kernel
theorem dX1_takeAway_8 : decode cX1_takeAway 8 = .ok (.aload_n 1, 1) := by decide +kernel
theorem dX1_takeAway_9 : decode cX1_takeAway 9 = .ok (.getfield 13, 3) := by decide +kernel
theorem dX1_takeAway_12 : decode cX1_takeAway 12 = .ok (.if_icmp .ge 63, 3) := by decide +kernel
theorem dX1_takeAway_15 : decode cX1_takeAway 15 = .ok (.aload_n 0, 1) := by decide +kernel
theorem dX1_takeAway_16 : decode cX1_takeAway 16 = .ok (.getfield 9, 3) := by decide +kernel
theorem dX1_takeAway_19 : decode cX1_takeAway 19 = .ok (.iload 4, 2) := by decide +kernel
theorem dX1_takeAway_21 : decode cX1_takeAway 21 = .ok (.iload 7, 2) := by decide +kernel
theorem dX1_takeAway_23 : decode cX1_takeAway 23 = .ok (.iadd, 1) := by decide +kernel
theorem dX1_takeAway_24 : decode cX1_takeAway 24 = .ok (.laload, 1) := by decide +kernel
theorem dX1_takeAway_25 : decode cX1_takeAway 25 = .ok (.lload_n 2, 1) := by decide +kernel
theorem dX1_takeAway_26 : decode cX1_takeAway 26 = .ok (.aload_n 1, 1) := by decide +kernel
theorem dX1_takeAway_27 : decode cX1_takeAway 27 = .ok (.getfield 9, 3) := by decide +kernel
theorem dX1_takeAway_30 : decode cX1_takeAway 30 = .ok (.iload 7, 2) := by decide +kernel
theorem dX1_takeAway_32 : decode cX1_takeAway 32 = .ok (.laload, 1) := by decide +kernel
theorem dX1_takeAway_33 : decode cX1_takeAway 33 = .ok (.lmul, 1) := by decide +kernel
theorem dX1_takeAway_34 : decode cX1_takeAway 34 = .ok (.lsub, 1) := by decide +kernel
theorem dX1_takeAway_35 : decode cX1_takeAway 35 = .ok (.lload 5, 2) := by decide +kernel
theorem dX1_takeAway_37 : decode cX1_takeAway 37 = .ok (.ladd, 1) := by decide +kernel
theorem dX1_takeAway_38 : decode cX1_takeAway 38 = .ok (.lstore 8, 2) := by decide +kernel
theorem dX1_takeAway_40 : decode cX1_takeAway 40 = .ok (.lload 8, 2) := by decide +kernel
theorem dX1_takeAway_42 : decode cX1_takeAway 42 = .ok (.ldc2_w 26, 3) := by decide +kernel
theorem dX1_takeAway_45 : decode cX1_takeAway 45 = .ok (.invokestatic 68, 3) := by decide +kernel
theorem dX1_takeAway_48 : decode cX1_takeAway 48 = .ok (.lstore 5, 2) := by decide +kernel
theorem dX1_takeAway_50 : decode cX1_takeAway 50 = .ok (.aload_n 0, 1) := by decide +kernel
theorem dX1_takeAway_51 : decode cX1_takeAway 51 = .ok (.getfield 9, 3) := by decide +kernel
theorem dX1_takeAway_54 : decode cX1_takeAway 54 = .ok (.iload 4, 2) := by decide +kernel
theorem dX1_takeAway_56 : decode cX1_takeAway 56 = .ok (.iload 7, 2) := by decide +kernel
theorem dX1_takeAway_58 : decode cX1_takeAway 58 = .ok (.iadd, 1) := by decide +kernel
theorem dX1_takeAway_59 : decode cX1_takeAway 59 = .ok (.lload 8, 2) := by decide +kernel
theorem dX1_takeAway_61 : decode cX1_takeAway 61 = .ok (.lload 5, 2) := by decide +kernel
theorem dX1_takeAway_63 : decode cX1_takeAway 63 = .ok (.ldc2_w 26, 3) := by decide +kernel
theorem dX1_takeAway_66 : decode cX1_takeAway 66 = .ok (.lmul, 1) := by decide +kernel
theorem dX1_takeAway_67 : decode cX1_takeAway 67 = .ok (.lsub, 1) := by decide +kernel
theorem dX1_takeAway_68 : decode cX1_takeAway 68 = .ok (.lastore, 1) := by decide +kernel
theorem dX1_takeAway_69 : decode cX1_takeAway 69 = .ok (.iinc 7 1, 3) := by decide +kernel
theorem dX1_takeAway_72 : decode cX1_takeAway 72 = .ok (.goto (-66), 3) := by decide +kernel
theorem dX1_takeAway_75 : decode cX1_takeAway 75 = .ok (.aload_n 0, 1) := by decide +kernel
theorem dX1_takeAway_76 : decode cX1_takeAway 76 = .ok (.getfield 9, 3) := by decide +kernel
theorem dX1_takeAway_79 : decode cX1_takeAway 79 = .ok (.iload 4, 2) := by decide +kernel
theorem dX1_takeAway_81 : decode cX1_takeAway 81 = .ok (.aload_n 1, 1) := by decide +kernel
theorem dX1_takeAway_82 : decode cX1_takeAway 82 = .ok (.getfield 13, 3) := by decide +kernel
theorem dX1_takeAway_85 : decode cX1_takeAway 85 = .ok (.iadd, 1) := by decide +kernel
theorem dX1_takeAway_86 : decode cX1_takeAway 86 = .ok (.dup2, 1) := by decide +kernel
theorem dX1_takeAway_87 : decode cX1_takeAway 87 = .ok (.laload, 1) := by decide +kernel
theorem dX1_takeAway_88 : decode cX1_takeAway 88 = .ok (.lload 5, 2) := by decide +kernel
theorem dX1_takeAway_90 : decode cX1_takeAway 90 = .ok (.ladd, 1) := by decide +kernel
theorem dX1_takeAway_91 : decode cX1_takeAway 91 = .ok (.lastore, 1) := by decide +kernel
theorem dX1_takeAway_92 : decode cX1_takeAway 92 = .ok (.return_, 1) := by decide +kernel
theorem dX1_close_0 : decode cX1_close 0 = .ok (.aload_n 0, 1) := by decide +kernel
theorem dX1_close_1 : decode cX1_close 1 = .ok (.iload_n 1, 1) := by decide +kernel
theorem dX1_close_2 : decode cX1_close 2 = .ok (.putfield 13, 3) := by decide +kernel
theorem dX1_close_5 : decode cX1_close 5 = .ok (.lload_n 2, 1) := by decide +kernel
theorem dX1_close_6 : decode cX1_close 6 = .ok (.lconst 0, 1) := by decide +kernel
theorem dX1_close_7 : decode cX1_close 7 = .ok (.lcmp, 1) := by decide +kernel
theorem dX1_close_8 : decode cX1_close 8 = .ok (.ifCond .eq 23, 3) := by decide +kernel
theorem dX1_close_11 : decode cX1_close 11 = .ok (.iload_n 1, 1) := by decide +kernel
theorem dX1_close_12 : decode cX1_close 12 = .ok (.bipush 64, 2) := by decide +kernel
theorem dX1_close_14 : decode cX1_close 14 = .ok (.if_icmp .ge 17, 3) := by decide +kernel
theorem dX1_close_17 : decode cX1_close 17 = .ok (.aload_n 0, 1) := by decide +kernel
theorem dX1_close_18 : decode cX1_close 18 = .ok (.getfield 9, 3) := by decide +kernel
theorem dX1_close_21 : decode cX1_close 21 = .ok (.iload_n 1, 1) := by decide +kernel
theorem dX1_close_22 : decode cX1_close 22 = .ok (.lload_n 2, 1) := by decide +kernel
theorem dX1_close_23 : decode cX1_close 23 = .ok (.lastore, 1) := by decide +kernel
theorem dX1_close_24 : decode cX1_close 24 = .ok (.aload_n 0, 1) := by decide +kernel
theorem dX1_close_25 : decode cX1_close 25 = .ok (.iload_n 1, 1) := by decide +kernel
theorem dX1_close_26 : decode cX1_close 26 = .ok (.iconst 1, 1) := by decide +kernel
theorem dX1_close_27 : decode cX1_close 27 = .ok (.iadd, 1) := by decide +kernel
theorem dX1_close_28 : decode cX1_close 28 = .ok (.putfield 13, 3) := by decide +kernel
theorem dX1_close_31 : decode cX1_close 31 = .ok (.return_, 1) := by decide +kernel
theorem dX1_shrink_0 : decode cX1_shrink 0 = .ok (.aload_n 0, 1) := by decide +kernel
theorem dX1_shrink_1 : decode cX1_shrink 1 = .ok (.getfield 13, 3) := by decide +kernel
theorem dX1_shrink_4 : decode cX1_shrink 4 = .ok (.ifCond .le 32, 3) := by decide +kernel
theorem dX1_shrink_7 : decode cX1_shrink 7 = .ok (.aload_n 0, 1) := by decide +kernel
theorem dX1_shrink_8 : decode cX1_shrink 8 = .ok (.getfield 9, 3) := by decide +kernel
theorem dX1_shrink_11 : decode cX1_shrink 11 = .ok (.aload_n 0, 1) := by decide +kernel
theorem dX1_shrink_12 : decode cX1_shrink 12 = .ok (.getfield 13, 3) := by decide +kernel
theorem dX1_shrink_15 : decode cX1_shrink 15 = .ok (.iconst 1, 1) := by decide +kernel
theorem dX1_shrink_16 : decode cX1_shrink 16 = .ok (.isub, 1) := by decide +kernel
theorem dX1_shrink_17 : decode cX1_shrink 17 = .ok (.laload, 1) := by decide +kernel
theorem dX1_shrink_18 : decode cX1_shrink 18 = .ok (.lconst 0, 1) := by decide +kernel
theorem dX1_shrink_19 : decode cX1_shrink 19 = .ok (.lcmp, 1) := by decide +kernel
theorem dX1_shrink_20 : decode cX1_shrink 20 = .ok (.ifCond .ne 16, 3) := by decide +kernel
theorem dX1_shrink_23 : decode cX1_shrink 23 = .ok (.aload_n 0, 1) := by decide +kernel
theorem dX1_shrink_24 : decode cX1_shrink 24 = .ok (.dup, 1) := by decide +kernel
theorem dX1_shrink_25 : decode cX1_shrink 25 = .ok (.getfield 13, 3) := by decide +kernel
theorem dX1_shrink_28 : decode cX1_shrink 28 = .ok (.iconst 1, 1) := by decide +kernel
theorem dX1_shrink_29 : decode cX1_shrink 29 = .ok (.isub, 1) := by decide +kernel
theorem dX1_shrink_30 : decode cX1_shrink 30 = .ok (.putfield 13, 3) := by decide +kernel
theorem dX1_shrink_33 : decode cX1_shrink 33 = .ok (.goto (-33), 3) := by decide +kernel
theorem dX1_shrink_36 : decode cX1_shrink 36 = .ok (.return_, 1) := by decide +kernel
set_option maxRecDepth 20000 in
theorem ggX2_init_X0_init : GoodIn wsX2_init wsX0_init := goodIn_r _ [20, 21, 2, 3, 22, 12, 13, 23, 24, 25, 26, 27, 28, 53, 54, 50, 51, 52] (by decide +kernel) (by decide +kernel)
set_option maxRecDepth 20000 in
theorem gX2_init_X0_init_n15 : GoodIn wsX2_init (wsX0_init) := ggX2_init_X0_init
set_option maxRecDepth 20000 in
theorem ggX2_init_X1_becomeSizeOf : GoodIn wsX2_init wsX1_becomeSizeOf := goodIn_r _ [32, 28, 33, 34, 35, 36, 37, 38, 39, 40, 41, 13, 42, 53, 54] (by decide +kernel) (by decide +kernel)
set_option maxRecDepth 20000 in
theorem gX2_init_X1_becomeSizeOf : GoodIn wsX2_init (wsV RX2 27 RX1 yX1_becomeSizeOf wsX1_becomeSizeOf) := goodIn_app (goodIn_of _ (by decide +kernel)) ggX2_init_X1_becomeSizeOf
set_option maxRecDepth 20000 in
theorem ggX2_init_X1_init : GoodIn wsX2_init wsX1_init := goodIn_r _ [25, 26, 2, 3, 27, 28, 53, 54] (by decide +kernel) (by decide +kernel)
set_option maxRecDepth 20000 in
theorem gX2_init_X1_init_n33 : GoodIn wsX2_init (wsX1_init) := ggX2_init_X1_init
theorem dX2_init_0 : decode cX2_init 0 = .ok (.aload_n 0, 1) := by decide +kernel
theorem dX2_init_1 : decode cX2_init 1 = .ok (.invokespecial 1, 3) := by decide +kernel
theorem dX2_init_4 : decode cX2_init 4 = .ok (.aload_n 0, 1) := by decide +kernel
theorem dX2_init_5 : decode cX2_init 5 = .ok (.bipush 6, 2) := by decide +kernel
theorem dX2_init_7 : decode cX2_init 7 = .ok (.anewarray 9, 3) := by decide +kernel
theorem dX2_init_10 : decode cX2_init 10 = .ok (.putfield 11, 3) := by decide +kernel
theorem dX2_init_13 : decode cX2_init 13 = .ok (.iconst 0, 1) := by decide +kernel
theorem dX2_init_14 : decode cX2_init 14 = .ok (.istore_n 1, 1) := by decide +kernel
theorem dX2_init_15 : decode cX2_init 15 = .ok (.iload_n 1, 1) := by decide +kernel
theorem dX2_init_16 : decode cX2_init 16 = .ok (.bipush 6, 2) := by decide +kernel
theorem dX2_init_18 : decode cX2_init 18 = .ok (.if_icmp .ge 22, 3) := by decide +kernel
theorem dX2_init_21 : decode cX2_init 21 = .ok (.aload_n 0, 1) := by decide +kernel
theorem dX2_init_22 : decode cX2_init 22 = .ok (.getfield 11, 3) := by decide +kernel
theorem dX2_init_25 : decode cX2_init 25 = .ok (.iload_n 1, 1) := by decide +kernel
theorem dX2_init_26 : decode cX2_init 26 = .ok (.new 9, 3) := by decide +kernel
theorem dX2_init_29 : decode cX2_init 29 = .ok (.dup, 1) := by decide +kernel
theorem dX2_init_30 : decode cX2_init 30 = .ok (.invokespecial 15, 3) := by decide +kernel
theorem dX2_init_33 : decode cX2_init 33 = .ok (.aastore, 1) := by decide +kernel
theorem dX2_init_34 : decode cX2_init 34 = .ok (.iinc 1 1, 3) := by decide +kernel
theorem dX2_init_37 : decode cX2_init 37 = .ok (.goto (-22), 3) := by decide +kernel
theorem dX2_init_40 : decode cX2_init 40 = .ok (.aload_n 0, 1) := by decide +kernel
theorem dX2_init_41 : decode cX2_init 41 = .ok (.new 9, 3) := by decide +kernel
theorem dX2_init_44 : decode cX2_init 44 = .ok (.dup, 1) := by decide +kernel
theorem dX2_init_45 : decode cX2_init 45 = .ok (.invokespecial 15, 3) := by decide +kernel
theorem dX2_init_48 : decode cX2_init 48 = .ok (.putfield 16, 3) := by decide +kernel
theorem dX2_init_51 : decode cX2_init 51 = .ok (.aload_n 0, 1) := by decide +kernel
theorem dX2_init_52 : decode cX2_init 52 = .ok (.new 9, 3) := by decide +kernel
theorem dX2_init_55 : decode cX2_init 55 = .ok (.dup, 1) := by decide +kernel
theorem dX2_init_56 : decode cX2_init 56 = .ok (.invokespecial 15, 3) := by decide +kernel
theorem dX2_init_59 : decode cX2_init 59 = .ok (.putfield 20, 3) := by decide +kernel
theorem dX2_init_62 : decode cX2_init 62 = .ok (.aload_n 0, 1) := by decide +kernel
theorem dX2_init_63 : decode cX2_init 63 = .ok (.getfield 20, 3) := by decide +kernel
theorem dX2_init_66 : decode cX2_init 66 = .ok (.getfield 23, 3) := by decide +kernel
theorem dX2_init_69 : decode cX2_init 69 = .ok (.lconst 1, 1) := by decide +kernel
theorem dX2_init_70 : decode cX2_init 70 = .ok (.invokevirtual 27, 3) := by decide +kernel
theorem dX2_init_73 : decode cX2_init 73 = .ok (.aload_n 0, 1) := by decide +kernel
theorem dX2_init_74 : decode cX2_init 74 = .ok (.new 28, 3) := by decide +kernel
theorem dX2_init_77 : decode cX2_init 77 = .ok (.dup, 1) := by decide +kernel
theorem dX2_init_78 : decode cX2_init 78 = .ok (.invokespecial 33, 3) := by decide +kernel
theorem dX2_init_81 : decode cX2_init 81 = .ok (.putfield 34, 3) := by decide +kernel
theorem dX2_init_84 : decode cX2_init 84 = .ok (.aload_n 0, 1) := by decide +kernel
theorem dX2_init_85 : decode cX2_init 85 = .ok (.new 28, 3) := by decide +kernel
theorem dX2_init_88 : decode cX2_init 88 = .ok (.dup, 1) := by decide +kernel
theorem dX2_init_89 : decode cX2_init 89 = .ok (.invokespecial 33, 3) := by decide +kernel
theorem dX2_init_92 : decode cX2_init 92 = .ok (.putfield 37, 3) := by decide +kernel
theorem dX2_init_95 : decode cX2_init 95 = .ok (.aload_n 0, 1) := by decide +kernel
theorem dX2_init_96 : decode cX2_init 96 = .ok (.sipush 200, 3) := by decide +kernel
theorem dX2_init_99 : decode cX2_init 99 = .ok (.newarray .char, 2) := by decide +kernel
theorem dX2_init_101 : decode cX2_init 101 = .ok (.putfield 40, 3) := by decide +kernel
theorem dX2_init_104 : decode cX2_init 104 = .ok (.aload_n 0, 1) := by decide +kernel
theorem dX2_init_105 : decode cX2_init 105 = .ok (.iconst 0, 1) := by decide +kernel
theorem dX2_init_106 : decode cX2_init 106 = .ok (.putfield 44, 3) := by decide +kernel
theorem dX2_init_109 : decode cX2_init 109 = .ok (.return_, 1) := by decide +kernel
set_option maxRecDepth 20000 in
theorem ggX2_load_X2_isRegister : GoodIn wsX2_load wsX2_isRegister := goodIn_r _ [8] (by decide +kernel) (by decide +kernel)
set_option maxRecDepth 20000 in
theorem gX2_load_X2_isRegister : GoodIn wsX2_load (va_wsS RX2 48 yX2_isRegister wsX2_isRegister) := goodIn_app (goodIn_of _ (by decide +kernel)) ggX2_load_X2_isRegister
set_option maxRecDepth 20000 in
theorem ggX2_load_X1_becomeSizeOf : GoodIn wsX2_load wsX1_becomeSizeOf := goodIn_r _ [13, 14, 15, 16, 17, 18, 19, 20, 21, 22, 23, 12, 24, 80, 81] (by decide +kernel) (by decide +kernel)
set_option maxRecDepth 20000 in
theorem gX2_load_X1_becomeSizeOf : GoodIn wsX2_load (wsV RX2 27 RX1 yX1_becomeSizeOf wsX1_becomeSizeOf) := goodIn_app (goodIn_of _ (by decide +kernel)) ggX2_load_X1_becomeSizeOf
set_option maxRecDepth 20000 in
theorem ggX2_load_X2_keep : GoodIn wsX2_load wsX2_keep := goodIn_r _ [28, 1, 2, 4, 29, 30, 31, 32, 12, 33, 20, 34, 35, 18, 36, 37, 38, 39, 40, 14, 41, 42, 43, 44, 7, 45, 46, 47, 48, 49, 50, 51, 52, 53, 54, 55, 56, 57, 58, 59, 60, 61, 62, 63, 64, 65, 66, 67, 68, 69, 70, 71, 72, 73, 74, 75, 76, 77, 78, 79, 80, 81] (by decide +kernel) (by decide +kernel)
set_option maxRecDepth 20000 in
theorem gX2_load_X2_keep : GoodIn wsX2_load (wsV RX2 59 RX2 yX2_keep wsX2_keep) := goodIn_app (goodIn_of _ (by decide +kernel)) ggX2_load_X2_keep
theorem dX2_load_0 : decode cX2_load 0 = .ok (.iload_n 1, 1) := by decide +kernel
theorem dX2_load_1 : decode cX2_load 1 = .ok (.invokestatic 48, 3) := by decide +kernel
theorem dX2_load_4 : decode cX2_load 4 = .ok (.ifCond .ne 5, 3) := by decide +kernel
theorem dX2_load_7 : decode cX2_load 7 = .ok (.iconst (-1), 1) := by decide +kernel
theorem dX2_load_8 : decode cX2_load 8 = .ok (.ireturn, 1) := by decide +kernel
theorem dX2_load_9 : decode cX2_load 9 = .ok (.aload_n 0, 1) := by decide +kernel
theorem dX2_load_10 : decode cX2_load 10 = .ok (.getfield 16, 3) := by decide +kernel
theorem dX2_load_13 : decode cX2_load 13 = .ok (.getfield 23, 3) := by decide +kernel
theorem dX2_load_16 : decode cX2_load 16 = .ok (.lload_n 2, 1) := by decide +kernel
theorem dX2_load_17 : decode cX2_load 17 = .ok (.invokevirtual 27, 3) := by decide +kernel
theorem dX2_load_20 : decode cX2_load 20 = .ok (.aload_n 0, 1) := by decide +kernel
theorem dX2_load_21 : decode cX2_load 21 = .ok (.getfield 16, 3) := by decide +kernel
theorem dX2_load_24 : decode cX2_load 24 = .ok (.lload_n 2, 1) := by decide +kernel
theorem dX2_load_25 : decode cX2_load 25 = .ok (.lconst 0, 1) := by decide +kernel
theorem dX2_load_26 : decode cX2_load 26 = .ok (.lcmp, 1) := by decide +kernel
theorem dX2_load_27 : decode cX2_load 27 = .ok (.ifCond .ge 7, 3) := by decide +kernel
theorem dX2_load_30 : decode cX2_load 30 = .ok (.iconst 1, 1) := by decide +kernel
theorem dX2_load_31 : decode cX2_load 31 = .ok (.goto 4, 3) := by decide +kernel
theorem dX2_load_34 : decode cX2_load 34 = .ok (.iconst 0, 1) := by decide +kernel
theorem dX2_load_35 : decode cX2_load 35 = .ok (.putfield 52, 3) := by decide +kernel
theorem dX2_load_38 : decode cX2_load 38 = .ok (.aload_n 0, 1) := by decide +kernel
theorem dX2_load_39 : decode cX2_load 39 = .ok (.getfield 16, 3) := by decide +kernel
theorem dX2_load_42 : decode cX2_load 42 = .ok (.iload 4, 2) := by decide +kernel
theorem dX2_load_44 : decode cX2_load 44 = .ok (.putfield 56, 3) := by decide +kernel
theorem dX2_load_47 : decode cX2_load 47 = .ok (.aload_n 0, 1) := by decide +kernel
theorem dX2_load_48 : decode cX2_load 48 = .ok (.iload_n 1, 1) := by decide +kernel
theorem dX2_load_49 : decode cX2_load 49 = .ok (.invokevirtual 59, 3) := by decide +kernel
theorem dX2_load_52 : decode cX2_load 52 = .ok (.bipush (-3), 2) := by decide +kernel
theorem dX2_load_54 : decode cX2_load 54 = .ok (.if_icmp .ne 8, 3) := by decide +kernel
theorem dX2_load_57 : decode cX2_load 57 = .ok (.bipush (-3), 2) := by decide +kernel
theorem dX2_load_59 : decode cX2_load 59 = .ok (.goto 4, 3) := by decide +kernel
theorem dX2_load_62 : decode cX2_load 62 = .ok (.iconst 0, 1) := by decide +kernel
theorem dX2_load_63 : decode cX2_load 63 = .ok (.ireturn, 1) := by decide +kernel
set_option maxRecDepth 20000 in
theorem ggX2_push_X2_isRegister : GoodIn wsX2_push wsX2_isRegister := goodIn_r _ [9] (by decide +kernel) (by decide +kernel)
set_option maxRecDepth 20000 in
theorem gX2_push_X2_isRegister : GoodIn wsX2_push (va_wsS RX2 48 yX2_isRegister wsX2_isRegister) := goodIn_app (goodIn_of _ (by decide +kernel)) ggX2_push_X2_isRegister
set_option maxRecDepth 20000 in
theorem ggX2_push_X0_become : GoodIn wsX2_push wsX0_become := goodIn_r _ [14, 15, 16, 17, 18, 19, 20, 13, 21, 22, 23, 24, 25, 26, 27, 28, 29, 30, 31, 32, 33, 34, 35, 36, 94, 95, 96, 97, 98] (by decide +kernel) (by decide +kernel)
set_option maxRecDepth 20000 in
theorem gX2_push_X0_become : GoodIn wsX2_push (wsV RX2 63 RX0 yX0_become wsX0_become) := goodIn_app (goodIn_of _ (by decide +kernel)) ggX2_push_X0_become
set_option maxRecDepth 20000 in
theorem ggX2_push_X1_raise : GoodIn wsX2_push wsX1_raise := goodIn_r _ [40, 32, 41, 27, 42, 43, 44, 45, 25, 46, 47, 48, 49, 50, 97, 98] (by decide +kernel) (by decide +kernel)
set_option maxRecDepth 20000 in
theorem gX2_push_X1_raise : GoodIn wsX2_push (wsV RX2 67 RX1 yX1_raise wsX1_raise) := goodIn_app (goodIn_of _ (by decide +kernel)) ggX2_push_X1_raise
set_option maxRecDepth 20000 in
theorem ggX2_push_X1_becomeSizeOf : GoodIn wsX2_push wsX1_becomeSizeOf := goodIn_r _ [54, 27, 42, 55, 56, 57, 58, 32, 59, 60, 61, 25, 62, 97, 98] (by decide +kernel) (by decide +kernel)
set_option maxRecDepth 20000 in
theorem gX2_push_X1_becomeSizeOf : GoodIn wsX2_push (wsV RX2 27 RX1 yX1_becomeSizeOf wsX1_becomeSizeOf) := goodIn_app (goodIn_of _ (by decide +kernel)) ggX2_push_X1_becomeSizeOf
set_option maxRecDepth 20000 in
theorem ggX2_push_X1_add : GoodIn wsX2_push wsX1_add := goodIn_r _ [66, 32, 67, 68, 57, 69, 27, 42, 43, 44, 45, 25, 46, 97, 98] (by decide +kernel) (by decide +kernel)
set_option maxRecDepth 20000 in
theorem gX2_push_X1_add : GoodIn wsX2_push (wsV RX2 73 RX1 yX1_add wsX1_add) := goodIn_app (goodIn_of _ (by decide +kernel)) ggX2_push_X1_add
set_option maxRecDepth 20000 in
theorem ggX2_push_X2_keep : GoodIn wsX2_push wsX2_keep := goodIn_r _ [73, 1, 3, 74, 2, 75, 76, 77, 25, 78, 32, 67, 68, 57, 69, 79, 80, 81, 82, 27, 41, 83, 84, 85, 8, 86, 10, 11, 12, 13, 14, 15, 16, 17, 18, 19, 20, 21, 22, 23, 24, 26, 28, 29, 30, 31, 33, 34, 35, 36, 87, 88, 89, 90, 91, 92, 93, 94, 95, 96, 97, 98] (by decide +kernel) (by decide +kernel)
set_option maxRecDepth 20000 in
theorem gX2_push_X2_keep : GoodIn wsX2_push (wsV RX2 59 RX2 yX2_keep wsX2_keep) := goodIn_app (goodIn_of _ (by decide +kernel)) ggX2_push_X2_keep
theorem dX2_push_0 : decode cX2_push 0 = .ok (.iload_n 1, 1) := by decide +kernel
theorem dX2_push_1 : decode cX2_push 1 = .ok (.invokestatic 48, 3) := by decide +kernel
theorem dX2_push_4 : decode cX2_push 4 = .ok (.ifCond .ne 5, 3) := by decide +kernel
theorem dX2_push_7 : decode cX2_push 7 = .ok (.iconst (-1), 1) := by decide +kernel
theorem dX2_push_8 : decode cX2_push 8 = .ok (.ireturn, 1) := by decide +kernel
theorem dX2_push_9 : decode cX2_push 9 = .ok (.aload_n 0, 1) := by decide +kernel
theorem dX2_push_10 : decode cX2_push 10 = .ok (.getfield 16, 3) := by decide +kernel
theorem dX2_push_13 : decode cX2_push 13 = .ok (.aload_n 0, 1) := by decide +kernel
theorem dX2_push_14 : decode cX2_push 14 = .ok (.getfield 11, 3) := by decide +kernel
theorem dX2_push_17 : decode cX2_push 17 = .ok (.iload_n 1, 1) := by decide +kernel
theorem dX2_push_18 : decode cX2_push 18 = .ok (.aaload, 1) := by decide +kernel
theorem dX2_push_19 : decode cX2_push 19 = .ok (.invokevirtual 63, 3) := by decide +kernel
theorem dX2_push_22 : decode cX2_push 22 = .ok (.aload_n 0, 1) := by decide +kernel
theorem dX2_push_23 : decode cX2_push 23 = .ok (.getfield 16, 3) := by decide +kernel
theorem dX2_push_26 : decode cX2_push 26 = .ok (.getfield 23, 3) := by decide +kernel
theorem dX2_push_29 : decode cX2_push 29 = .ok (.bipush 18, 2) := by decide +kernel
theorem dX2_push_31 : decode cX2_push 31 = .ok (.invokevirtual 67, 3) := by decide +kernel
theorem dX2_push_34 : decode cX2_push 34 = .ok (.aload_n 0, 1) := by decide +kernel
theorem dX2_push_35 : decode cX2_push 35 = .ok (.getfield 34, 3) := by decide +kernel
theorem dX2_push_38 : decode cX2_push 38 = .ok (.lload_n 2, 1) := by decide +kernel
theorem dX2_push_39 : decode cX2_push 39 = .ok (.ldc2_w 71, 3) := by decide +kernel
theorem dX2_push_42 : decode cX2_push 42 = .ok (.lrem, 1) := by decide +kernel
theorem dX2_push_43 : decode cX2_push 43 = .ok (.invokevirtual 27, 3) := by decide +kernel
theorem dX2_push_46 : decode cX2_push 46 = .ok (.aload_n 0, 1) := by decide +kernel
theorem dX2_push_47 : decode cX2_push 47 = .ok (.getfield 16, 3) := by decide +kernel
theorem dX2_push_50 : decode cX2_push 50 = .ok (.getfield 23, 3) := by decide +kernel
theorem dX2_push_53 : decode cX2_push 53 = .ok (.aload_n 0, 1) := by decide +kernel
theorem dX2_push_54 : decode cX2_push 54 = .ok (.getfield 34, 3) := by decide +kernel
theorem dX2_push_57 : decode cX2_push 57 = .ok (.invokevirtual 73, 3) := by decide +kernel
theorem dX2_push_60 : decode cX2_push 60 = .ok (.aload_n 0, 1) := by decide +kernel
theorem dX2_push_61 : decode cX2_push 61 = .ok (.iload_n 1, 1) := by decide +kernel
theorem dX2_push_62 : decode cX2_push 62 = .ok (.invokevirtual 59, 3) := by decide +kernel
theorem dX2_push_65 : decode cX2_push 65 = .ok (.ireturn, 1) := by decide +kernel
set_option maxRecDepth 20000 in
theorem ggX2_reckon_X2_isRegister : GoodIn wsX2_reckon wsX2_isRegister := goodIn_r _ [7] (by decide +kernel) (by decide +kernel)
set_option maxRecDepth 20000 in
theorem gX2_reckon_X2_isRegister : GoodIn wsX2_reckon (va_wsS RX2 48 yX2_isRegister wsX2_isRegister) := goodIn_app (goodIn_of _ (by decide +kernel)) ggX2_reckon_X2_isRegister
set_option maxRecDepth 20000 in
theorem ggX2_reckon_X2_addUp : GoodIn wsX2_reckon wsX2_addUp := goodIn_r _ [11, 12, 13, 14, 15, 16, 2, 17, 18, 3, 19, 20, 21, 6, 22, 23, 24, 25, 26, 27, 28, 29, 30, 31, 32, 33, 34, 35, 36, 37, 38, 39, 40, 41, 42, 43, 44, 45, 46, 47, 48, 49, 50, 51, 52, 53, 54, 55, 56, 57, 58, 59, 60, 61, 62, 63, 64, 65, 66, 67, 68, 69, 70, 71, 72, 73, 74, 75, 76, 77, 78, 127, 128, 129, 120, 121, 122, 123, 124, 125, 126, 130, 131] (by decide +kernel) (by decide +kernel)
set_option maxRecDepth 20000 in
theorem gX2_reckon_X2_addUp : GoodIn wsX2_reckon (wsV RX2 77 RX2 yX2_addUp wsX2_addUp) := goodIn_app (goodIn_of _ (by decide +kernel)) ggX2_reckon_X2_addUp
set_option maxRecDepth 20000 in
theorem ggX2_reckon_X2_multiply : GoodIn wsX2_reckon wsX2_multiply := goodIn_r _ [82, 17, 23, 3, 2, 12, 83, 84, 85, 27, 86, 34, 29, 40, 87, 88, 89, 90, 75, 76, 77, 78, 54, 55, 56, 57, 58, 59, 60, 61, 62, 25, 26, 28, 30, 31, 32, 33, 63, 64, 65, 66, 120, 121, 122, 123, 124, 125, 126, 127, 128, 129, 130, 131] (by decide +kernel) (by decide +kernel)
set_option maxRecDepth 20000 in
theorem gX2_reckon_X2_multiply : GoodIn wsX2_reckon (wsV RX2 81 RX2 yX2_multiply wsX2_multiply) := goodIn_app (goodIn_of _ (by decide +kernel)) ggX2_reckon_X2_multiply
set_option maxRecDepth 20000 in
theorem ggX2_reckon_X2_order : GoodIn wsX2_reckon wsX2_order := goodIn_r _ [94, 2, 18, 17, 95, 96, 97, 57, 98, 59, 60, 63, 64, 65, 27, 66, 34, 19, 20, 21, 6, 22, 12, 23, 24, 25, 26, 28, 29, 30, 31, 32, 33, 35, 36, 37, 38, 39, 40, 41, 42, 43, 44, 45, 46, 47, 48, 67, 68, 69, 70, 127, 128, 129, 120, 121, 122, 123, 124, 125, 126, 130, 131] (by decide +kernel) (by decide +kernel)
set_option maxRecDepth 20000 in
theorem gX2_reckon_X2_order : GoodIn wsX2_reckon (wsV RX2 85 RX2 yX2_order wsX2_order) := goodIn_app (goodIn_of _ (by decide +kernel)) ggX2_reckon_X2_order
set_option maxRecDepth 20000 in
theorem ggX2_reckon_X0_become : GoodIn wsX2_reckon wsX0_become := goodIn_r _ [102, 59, 60, 61, 103, 55, 56, 57, 58, 62, 25, 26, 27, 28, 29, 30, 31, 32, 33, 34, 63, 64, 65, 66, 127, 128, 129, 130, 131] (by decide +kernel) (by decide +kernel)
set_option maxRecDepth 20000 in
theorem gX2_reckon_X0_become : GoodIn wsX2_reckon (wsV RX2 63 RX0 yX0_become wsX0_become) := goodIn_app (goodIn_of _ (by decide +kernel)) ggX2_reckon_X0_become
set_option maxRecDepth 20000 in
theorem ggX2_reckon_X2_keep : GoodIn wsX2_reckon wsX2_keep := goodIn_r _ [107, 3, 23, 12, 1, 108, 109, 110, 27, 111, 34, 53, 14, 15, 16, 112, 113, 114, 115, 29, 39, 116, 117, 118, 6, 119, 99, 100, 101, 57, 102, 59, 60, 61, 103, 55, 56, 58, 62, 25, 26, 28, 30, 31, 32, 33, 63, 64, 65, 66, 120, 121, 122, 123, 124, 125, 126, 127, 128, 129, 130, 131] (by decide +kernel) (by decide +kernel)
set_option maxRecDepth 20000 in
theorem gX2_reckon_X2_keep : GoodIn wsX2_reckon (wsV RX2 59 RX2 yX2_keep wsX2_keep) := goodIn_app (goodIn_of _ (by decide +kernel)) ggX2_reckon_X2_keep
theorem dX2_reckon_0 : decode cX2_reckon 0 = .ok (.iload_n 2, 1) := by decide +kernel
theorem dX2_reckon_1 : decode cX2_reckon 1 = .ok (.invokestatic 48, 3) := by decide +kernel
theorem dX2_reckon_4 : decode cX2_reckon 4 = .ok (.ifCond .eq 18, 3) := by decide +kernel
theorem dX2_reckon_7 : decode cX2_reckon 7 = .ok (.iload_n 3, 1) := by decide +kernel
theorem dX2_reckon_8 : decode cX2_reckon 8 = .ok (.invokestatic 48, 3) := by decide +kernel
theorem dX2_reckon_11 : decode cX2_reckon 11 = .ok (.ifCond .eq 11, 3) := by decide +kernel
theorem dX2_reckon_14 : decode cX2_reckon 14 = .ok (.iload 4, 2) := by decide +kernel
theorem dX2_reckon_16 : decode cX2_reckon 16 = .ok (.invokestatic 48, 3) := by decide +kernel
theorem dX2_reckon_19 : decode cX2_reckon 19 = .ok (.ifCond .ne 5, 3) := by decide +kernel
theorem dX2_reckon_22 : decode cX2_reckon 22 = .ok (.iconst (-1), 1) := by decide +kernel
theorem dX2_reckon_23 : decode cX2_reckon 23 = .ok (.ireturn, 1) := by decide +kernel
theorem dX2_reckon_24 : decode cX2_reckon 24 = .ok (.aload_n 0, 1) := by decide +kernel
theorem dX2_reckon_25 : decode cX2_reckon 25 = .ok (.getfield 11, 3) := by decide +kernel
theorem dX2_reckon_28 : decode cX2_reckon 28 = .ok (.iload_n 3, 1) := by decide +kernel
theorem dX2_reckon_29 : decode cX2_reckon 29 = .ok (.aaload, 1) := by decide +kernel
theorem dX2_reckon_30 : decode cX2_reckon 30 = .ok (.astore 5, 2) := by decide +kernel
theorem dX2_reckon_32 : decode cX2_reckon 32 = .ok (.aload_n 0, 1) := by decide +kernel
theorem dX2_reckon_33 : decode cX2_reckon 33 = .ok (.getfield 11, 3) := by decide +kernel
theorem dX2_reckon_36 : decode cX2_reckon 36 = .ok (.iload 4, 2) := by decide +kernel
theorem dX2_reckon_38 : decode cX2_reckon 38 = .ok (.aaload, 1) := by decide +kernel
theorem dX2_reckon_39 : decode cX2_reckon 39 = .ok (.astore 6, 2) := by decide +kernel
theorem dX2_reckon_41 : decode cX2_reckon 41 = .ok (.iload_n 1, 1) := by decide +kernel
theorem dX2_reckon_42 : decode cX2_reckon 42 = .ok (.tableswitch 141 0 4 #[34, 50, 74, 85, 113], 34) := by decide +kernel
theorem dX2_reckon_76 : decode cX2_reckon 76 = .ok (.aload_n 0, 1) := by decide +kernel
theorem dX2_reckon_77 : decode cX2_reckon 77 = .ok (.aload 5, 2) := by decide +kernel
theorem dX2_reckon_79 : decode cX2_reckon 79 = .ok (.aload 6, 2) := by decide +kernel
theorem dX2_reckon_81 : decode cX2_reckon 81 = .ok (.aload 6, 2) := by decide +kernel
theorem dX2_reckon_83 : decode cX2_reckon 83 = .ok (.getfield 52, 3) := by decide +kernel
theorem dX2_reckon_86 : decode cX2_reckon 86 = .ok (.invokevirtual 77, 3) := by decide +kernel
theorem dX2_reckon_89 : decode cX2_reckon 89 = .ok (.goto 96, 3) := by decide +kernel
theorem dX2_reckon_92 : decode cX2_reckon 92 = .ok (.aload_n 0, 1) := by decide +kernel
theorem dX2_reckon_93 : decode cX2_reckon 93 = .ok (.aload 5, 2) := by decide +kernel
theorem dX2_reckon_95 : decode cX2_reckon 95 = .ok (.aload 6, 2) := by decide +kernel
theorem dX2_reckon_97 : decode cX2_reckon 97 = .ok (.aload 6, 2) := by decide +kernel
theorem dX2_reckon_99 : decode cX2_reckon 99 = .ok (.getfield 52, 3) := by decide +kernel
theorem dX2_reckon_102 : decode cX2_reckon 102 = .ok (.ifCond .ne 7, 3) := by decide +kernel
theorem dX2_reckon_105 : decode cX2_reckon 105 = .ok (.iconst 1, 1) := by decide +kernel
theorem dX2_reckon_106 : decode cX2_reckon 106 = .ok (.goto 4, 3) := by decide +kernel
theorem dX2_reckon_109 : decode cX2_reckon 109 = .ok (.iconst 0, 1) := by decide +kernel
theorem dX2_reckon_110 : decode cX2_reckon 110 = .ok (.invokevirtual 77, 3) := by decide +kernel
theorem dX2_reckon_113 : decode cX2_reckon 113 = .ok (.goto 72, 3) := by decide +kernel
theorem dX2_reckon_116 : decode cX2_reckon 116 = .ok (.aload_n 0, 1) := by decide +kernel
theorem dX2_reckon_117 : decode cX2_reckon 117 = .ok (.aload 5, 2) := by decide +kernel
theorem dX2_reckon_119 : decode cX2_reckon 119 = .ok (.aload 6, 2) := by decide +kernel
theorem dX2_reckon_121 : decode cX2_reckon 121 = .ok (.invokevirtual 81, 3) := by decide +kernel
theorem dX2_reckon_124 : decode cX2_reckon 124 = .ok (.goto 61, 3) := by decide +kernel
theorem dX2_reckon_127 : decode cX2_reckon 127 = .ok (.aload_n 0, 1) := by decide +kernel
theorem dX2_reckon_128 : decode cX2_reckon 128 = .ok (.getfield 16, 3) := by decide +kernel
theorem dX2_reckon_131 : decode cX2_reckon 131 = .ok (.aload_n 0, 1) := by decide +kernel
theorem dX2_reckon_132 : decode cX2_reckon 132 = .ok (.aload 5, 2) := by decide +kernel
theorem dX2_reckon_134 : decode cX2_reckon 134 = .ok (.aload 6, 2) := by decide +kernel
theorem dX2_reckon_136 : decode cX2_reckon 136 = .ok (.invokevirtual 85, 3) := by decide +kernel
theorem dX2_reckon_139 : decode cX2_reckon 139 = .ok (.ifCond .lt 8, 3) := by decide +kernel
theorem dX2_reckon_142 : decode cX2_reckon 142 = .ok (.aload 5, 2) := by decide +kernel
theorem dX2_reckon_144 : decode cX2_reckon 144 = .ok (.goto 5, 3) := by decide +kernel
theorem dX2_reckon_147 : decode cX2_reckon 147 = .ok (.aload 6, 2) := by decide +kernel
theorem dX2_reckon_149 : decode cX2_reckon 149 = .ok (.invokevirtual 63, 3) := by decide +kernel
theorem dX2_reckon_152 : decode cX2_reckon 152 = .ok (.goto 33, 3) := by decide +kernel
theorem dX2_reckon_155 : decode cX2_reckon 155 = .ok (.aload_n 0, 1) := by decide +kernel
theorem dX2_reckon_156 : decode cX2_reckon 156 = .ok (.getfield 16, 3) := by decide +kernel
theorem dX2_reckon_159 : decode cX2_reckon 159 = .ok (.aload_n 0, 1) := by decide +kernel
theorem dX2_reckon_160 : decode cX2_reckon 160 = .ok (.aload 5, 2) := by decide +kernel
theorem dX2_reckon_162 : decode cX2_reckon 162 = .ok (.aload 6, 2) := by decide +kernel
theorem dX2_reckon_164 : decode cX2_reckon 164 = .ok (.invokevirtual 85, 3) := by decide +kernel
theorem dX2_reckon_167 : decode cX2_reckon 167 = .ok (.ifCond .gt 8, 3) := by decide +kernel
theorem dX2_reckon_170 : decode cX2_reckon 170 = .ok (.aload 5, 2) := by decide +kernel
theorem dX2_reckon_172 : decode cX2_reckon 172 = .ok (.goto 5, 3) := by decide +kernel
theorem dX2_reckon_175 : decode cX2_reckon 175 = .ok (.aload 6, 2) := by decide +kernel
theorem dX2_reckon_177 : decode cX2_reckon 177 = .ok (.invokevirtual 63, 3) := by decide +kernel
theorem dX2_reckon_180 : decode cX2_reckon 180 = .ok (.goto 5, 3) := by decide +kernel
theorem dX2_reckon_183 : decode cX2_reckon 183 = .ok (.iconst (-1), 1) := by decide +kernel
theorem dX2_reckon_184 : decode cX2_reckon 184 = .ok (.ireturn, 1) := by decide +kernel
theorem dX2_reckon_185 : decode cX2_reckon 185 = .ok (.aload_n 0, 1) := by decide +kernel
theorem dX2_reckon_186 : decode cX2_reckon 186 = .ok (.iload_n 2, 1) := by decide +kernel
theorem dX2_reckon_187 : decode cX2_reckon 187 = .ok (.invokevirtual 59, 3) := by decide +kernel
theorem dX2_reckon_190 : decode cX2_reckon 190 = .ok (.ireturn, 1) := by decide +kernel
set_option maxRecDepth 20000 in
theorem ggX2_divide_X2_isRegister : GoodIn wsX2_divide wsX2_isRegister := goodIn_r _ [6] (by decide +kernel) (by decide +kernel)
set_option maxRecDepth 20000 in
theorem gX2_divide_X2_isRegister : GoodIn wsX2_divide (va_wsS RX2 48 yX2_isRegister wsX2_isRegister) := goodIn_app (goodIn_of _ (by decide +kernel)) ggX2_divide_X2_isRegister
set_option maxRecDepth 20000 in
theorem ggX2_divide_X2_isWay : GoodIn wsX2_divide wsX2_isWay := goodIn_r _ [9] (by decide +kernel) (by decide +kernel)
set_option maxRecDepth 20000 in
theorem gX2_divide_X2_isWay : GoodIn wsX2_divide (va_wsS RX2 89 yX2_isWay wsX2_isWay) := goodIn_app (goodIn_of _ (by decide +kernel)) ggX2_divide_X2_isWay
set_option maxRecDepth 20000 in
theorem ggX2_divide_X1_isZero : GoodIn wsX2_divide wsX1_isZero := goodIn_r _ [14, 15, 143, 144] (by decide +kernel) (by decide +kernel)
set_option maxRecDepth 20000 in
theorem gX2_divide_X1_isZero : GoodIn wsX2_divide (wsV RX2 92 RX1 yX1_isZero wsX1_isZero) := goodIn_app (goodIn_of _ (by decide +kernel)) ggX2_divide_X1_isZero
set_option maxRecDepth 20000 in
theorem ggX2_divide_X2_keepQuotient : GoodIn wsX2_divide wsX2_keepQuotient := goodIn_r _ [19, 20, 21, 5, 22, 23, 24, 25, 26, 27, 28, 29, 2, 30, 31, 32, 33, 34, 35, 36, 37, 38, 13, 39, 40, 41, 42, 43, 44, 15, 45, 46, 47, 48, 49, 50, 51, 52, 53, 54, 55, 56, 57, 58, 59, 60, 61, 62, 63, 64, 65, 66, 67, 68, 69, 70, 71, 72, 73, 74, 75, 76, 77, 78, 79, 80, 81, 82, 83, 84, 85, 86, 87, 88, 10, 11, 12, 14, 89, 90, 91, 92, 93, 94, 95, 96, 97, 98, 99, 100, 101, 102, 103, 104, 105, 106, 107, 108, 109, 110, 111, 112, 113, 1, 114, 115, 116, 117, 118, 119, 120, 121, 122, 123, 124, 125, 126, 127, 128, 129, 130, 131, 132, 133, 134, 135, 136, 137, 138, 139, 140, 141, 142, 143, 144] (by decide +kernel) (by decide +kernel)
set_option maxRecDepth 20000 in
theorem gX2_divide_X2_keepQuotient : GoodIn wsX2_divide (wsV RX2 96 RX2 yX2_keepQuotient wsX2_keepQuotient) := goodIn_app (goodIn_of _ (by decide +kernel)) ggX2_divide_X2_keepQuotient
theorem dX2_divide_0 : decode cX2_divide 0 = .ok (.iload_n 1, 1) := by decide +kernel
theorem dX2_divide_1 : decode cX2_divide 1 = .ok (.invokestatic 48, 3) := by decide +kernel
theorem dX2_divide_4 : decode cX2_divide 4 = .ok (.ifCond .eq 25, 3) := by decide +kernel
theorem dX2_divide_7 : decode cX2_divide 7 = .ok (.iload_n 2, 1) := by decide +kernel
theorem dX2_divide_8 : decode cX2_divide 8 = .ok (.invokestatic 48, 3) := by decide +kernel
theorem dX2_divide_11 : decode cX2_divide 11 = .ok (.ifCond .eq 18, 3) := by decide +kernel
theorem dX2_divide_14 : decode cX2_divide 14 = .ok (.iload_n 3, 1) := by decide +kernel
theorem dX2_divide_15 : decode cX2_divide 15 = .ok (.invokestatic 48, 3) := by decide +kernel
theorem dX2_divide_18 : decode cX2_divide 18 = .ok (.ifCond .eq 11, 3) := by decide +kernel
theorem dX2_divide_21 : decode cX2_divide 21 = .ok (.iload 5, 2) := by decide +kernel
theorem dX2_divide_23 : decode cX2_divide 23 = .ok (.invokestatic 89, 3) := by decide +kernel
theorem dX2_divide_26 : decode cX2_divide 26 = .ok (.ifCond .ne 5, 3) := by decide +kernel
theorem dX2_divide_29 : decode cX2_divide 29 = .ok (.iconst (-1), 1) := by decide +kernel
theorem dX2_divide_30 : decode cX2_divide 30 = .ok (.ireturn, 1) := by decide +kernel
theorem dX2_divide_31 : decode cX2_divide 31 = .ok (.aload_n 0, 1) := by decide +kernel
theorem dX2_divide_32 : decode cX2_divide 32 = .ok (.getfield 11, 3) := by decide +kernel
theorem dX2_divide_35 : decode cX2_divide 35 = .ok (.iload_n 3, 1) := by decide +kernel
theorem dX2_divide_36 : decode cX2_divide 36 = .ok (.aaload, 1) := by decide +kernel
theorem dX2_divide_37 : decode cX2_divide 37 = .ok (.getfield 23, 3) := by decide +kernel
theorem dX2_divide_40 : decode cX2_divide 40 = .ok (.invokevirtual 92, 3) := by decide +kernel
theorem dX2_divide_43 : decode cX2_divide 43 = .ok (.ifCond .eq 6, 3) := by decide +kernel
theorem dX2_divide_46 : decode cX2_divide 46 = .ok (.bipush (-2), 2) := by decide +kernel
theorem dX2_divide_48 : decode cX2_divide 48 = .ok (.ireturn, 1) := by decide +kernel
theorem dX2_divide_49 : decode cX2_divide 49 = .ok (.aload_n 0, 1) := by decide +kernel
theorem dX2_divide_50 : decode cX2_divide 50 = .ok (.iload_n 1, 1) := by decide +kernel
theorem dX2_divide_51 : decode cX2_divide 51 = .ok (.aload_n 0, 1) := by decide +kernel
theorem dX2_divide_52 : decode cX2_divide 52 = .ok (.getfield 11, 3) := by decide +kernel
theorem dX2_divide_55 : decode cX2_divide 55 = .ok (.iload_n 2, 1) := by decide +kernel
theorem dX2_divide_56 : decode cX2_divide 56 = .ok (.aaload, 1) := by decide +kernel
theorem dX2_divide_57 : decode cX2_divide 57 = .ok (.aload_n 0, 1) := by decide +kernel
theorem dX2_divide_58 : decode cX2_divide 58 = .ok (.getfield 11, 3) := by decide +kernel
theorem dX2_divide_61 : decode cX2_divide 61 = .ok (.iload_n 3, 1) := by decide +kernel
theorem dX2_divide_62 : decode cX2_divide 62 = .ok (.aaload, 1) := by decide +kernel
theorem dX2_divide_63 : decode cX2_divide 63 = .ok (.iload 4, 2) := by decide +kernel
theorem dX2_divide_65 : decode cX2_divide 65 = .ok (.iload 5, 2) := by decide +kernel
theorem dX2_divide_67 : decode cX2_divide 67 = .ok (.invokevirtual 96, 3) := by decide +kernel
theorem dX2_divide_70 : decode cX2_divide 70 = .ok (.ireturn, 1) := by decide +kernel
set_option maxRecDepth 20000 in
theorem ggX2_part_X2_isRegister : GoodIn wsX2_part wsX2_isRegister := goodIn_r _ [13] (by decide +kernel) (by decide +kernel)
set_option maxRecDepth 20000 in
theorem gX2_part_X2_isRegister : GoodIn wsX2_part (va_wsS RX2 48 yX2_isRegister wsX2_isRegister) := goodIn_app (goodIn_of _ (by decide +kernel)) ggX2_part_X2_isRegister
set_option maxRecDepth 20000 in
theorem ggX2_part_X1_isZero : GoodIn wsX2_part wsX1_isZero := goodIn_r _ [18, 19, 120, 121] (by decide +kernel) (by decide +kernel)
set_option maxRecDepth 20000 in
theorem gX2_part_X1_isZero : GoodIn wsX2_part (wsV RX2 92 RX1 yX1_isZero wsX1_isZero) := goodIn_app (goodIn_of _ (by decide +kernel)) ggX2_part_X1_isZero
set_option maxRecDepth 20000 in
theorem ggX2_part_X2_split : GoodIn wsX2_part wsX2_split := goodIn_r _ [23, 9, 24, 25, 2, 3, 4, 26, 27, 28, 12, 29, 30, 31, 32, 17, 33, 34, 35, 36, 37, 38, 19, 39, 40, 41, 42, 43, 44, 45, 46, 47, 48, 49, 50, 51, 52, 53, 54, 55, 56, 57, 58, 59, 60, 61, 62, 63, 64, 65, 66, 67, 68, 69, 70, 71, 72, 73, 74, 75, 76, 77, 110, 111, 112, 113, 114, 115, 116, 117, 118, 119, 120, 121] (by decide +kernel) (by decide +kernel)
set_option maxRecDepth 20000 in
theorem gX2_part_X2_split : GoodIn wsX2_part (wsV RX2 106 RX2 yX2_split wsX2_split) := goodIn_app (goodIn_of _ (by decide +kernel)) ggX2_part_X2_split
set_option maxRecDepth 20000 in
theorem ggX2_part_X2_keep : GoodIn wsX2_part wsX2_keep := goodIn_r _ [81, 25, 2, 4, 1, 82, 83, 84, 17, 85, 19, 86, 6, 7, 8, 87, 88, 89, 90, 34, 43, 91, 92, 93, 12, 94, 95, 96, 97, 98, 99, 100, 101, 102, 103, 104, 105, 106, 107, 31, 32, 33, 35, 36, 37, 38, 108, 15, 16, 18, 110, 111, 112, 113, 114, 115, 116, 117, 118, 119, 120, 121] (by decide +kernel) (by decide +kernel)
set_option maxRecDepth 20000 in
theorem gX2_part_X2_keep : GoodIn wsX2_part (wsV RX2 59 RX2 yX2_keep wsX2_keep) := goodIn_app (goodIn_of _ (by decide +kernel)) ggX2_part_X2_keep
set_option maxRecDepth 20000 in
theorem ggX2_part_X0_take : GoodIn wsX2_part wsX0_take := goodIn_r _ [106, 100, 101, 102, 107, 31, 32, 17, 33, 34, 35, 36, 37, 38, 19, 108, 15, 16, 18, 117, 118, 119, 120, 121] (by decide +kernel) (by decide +kernel)
set_option maxRecDepth 20000 in
theorem gX2_part_X0_take : GoodIn wsX2_part (wsV RX2 110 RX0 yX0_take wsX0_take) := goodIn_app (goodIn_of _ (by decide +kernel)) ggX2_part_X0_take
theorem dX2_part_0 : decode cX2_part 0 = .ok (.iload_n 1, 1) := by decide +kernel
theorem dX2_part_1 : decode cX2_part 1 = .ok (.invokestatic 48, 3) := by decide +kernel
theorem dX2_part_4 : decode cX2_part 4 = .ok (.ifCond .eq 30, 3) := by decide +kernel
theorem dX2_part_7 : decode cX2_part 7 = .ok (.iload_n 2, 1) := by decide +kernel
theorem dX2_part_8 : decode cX2_part 8 = .ok (.invokestatic 48, 3) := by decide +kernel
theorem dX2_part_11 : decode cX2_part 11 = .ok (.ifCond .eq 23, 3) := by decide +kernel
theorem dX2_part_14 : decode cX2_part 14 = .ok (.iload_n 3, 1) := by decide +kernel
theorem dX2_part_15 : decode cX2_part 15 = .ok (.invokestatic 48, 3) := by decide +kernel
theorem dX2_part_18 : decode cX2_part 18 = .ok (.ifCond .eq 16, 3) := by decide +kernel
theorem dX2_part_21 : decode cX2_part 21 = .ok (.iload 4, 2) := by decide +kernel
theorem dX2_part_23 : decode cX2_part 23 = .ok (.invokestatic 48, 3) := by decide +kernel
theorem dX2_part_26 : decode cX2_part 26 = .ok (.ifCond .eq 8, 3) := by decide +kernel
theorem dX2_part_29 : decode cX2_part 29 = .ok (.iload_n 1, 1) := by decide +kernel
theorem dX2_part_30 : decode cX2_part 30 = .ok (.iload_n 2, 1) := by decide +kernel
theorem dX2_part_31 : decode cX2_part 31 = .ok (.if_icmp .ne 5, 3) := by decide +kernel
theorem dX2_part_34 : decode cX2_part 34 = .ok (.iconst (-1), 1) := by decide +kernel
theorem dX2_part_35 : decode cX2_part 35 = .ok (.ireturn, 1) := by decide +kernel
theorem dX2_part_36 : decode cX2_part 36 = .ok (.aload_n 0, 1) := by decide +kernel
theorem dX2_part_37 : decode cX2_part 37 = .ok (.getfield 11, 3) := by decide +kernel
theorem dX2_part_40 : decode cX2_part 40 = .ok (.iload_n 3, 1) := by decide +kernel
theorem dX2_part_41 : decode cX2_part 41 = .ok (.aaload, 1) := by decide +kernel
theorem dX2_part_42 : decode cX2_part 42 = .ok (.astore 5, 2) := by decide +kernel
theorem dX2_part_44 : decode cX2_part 44 = .ok (.aload_n 0, 1) := by decide +kernel
theorem dX2_part_45 : decode cX2_part 45 = .ok (.getfield 11, 3) := by decide +kernel
theorem dX2_part_48 : decode cX2_part 48 = .ok (.iload 4, 2) := by decide +kernel
theorem dX2_part_50 : decode cX2_part 50 = .ok (.aaload, 1) := by decide +kernel
theorem dX2_part_51 : decode cX2_part 51 = .ok (.astore 6, 2) := by decide +kernel
theorem dX2_part_53 : decode cX2_part 53 = .ok (.aload 6, 2) := by decide +kernel
theorem dX2_part_55 : decode cX2_part 55 = .ok (.getfield 23, 3) := by decide +kernel
theorem dX2_part_58 : decode cX2_part 58 = .ok (.invokevirtual 92, 3) := by decide +kernel
theorem dX2_part_61 : decode cX2_part 61 = .ok (.ifCond .eq 6, 3) := by decide +kernel
theorem dX2_part_64 : decode cX2_part 64 = .ok (.bipush (-2), 2) := by decide +kernel
theorem dX2_part_66 : decode cX2_part 66 = .ok (.ireturn, 1) := by decide +kernel
theorem dX2_part_67 : decode cX2_part 67 = .ok (.aload 5, 2) := by decide +kernel
theorem dX2_part_69 : decode cX2_part 69 = .ok (.getfield 52, 3) := by decide +kernel
theorem dX2_part_72 : decode cX2_part 72 = .ok (.istore 7, 2) := by decide +kernel
theorem dX2_part_74 : decode cX2_part 74 = .ok (.aload 5, 2) := by decide +kernel
theorem dX2_part_76 : decode cX2_part 76 = .ok (.getfield 56, 3) := by decide +kernel
theorem dX2_part_79 : decode cX2_part 79 = .ok (.aload 6, 2) := by decide +kernel
theorem dX2_part_81 : decode cX2_part 81 = .ok (.getfield 56, 3) := by decide +kernel
theorem dX2_part_84 : decode cX2_part 84 = .ok (.invokestatic 100, 3) := by decide +kernel
theorem dX2_part_87 : decode cX2_part 87 = .ok (.istore 8, 2) := by decide +kernel
theorem dX2_part_89 : decode cX2_part 89 = .ok (.aload_n 0, 1) := by decide +kernel
theorem dX2_part_90 : decode cX2_part 90 = .ok (.aload 5, 2) := by decide +kernel
theorem dX2_part_92 : decode cX2_part 92 = .ok (.aload 6, 2) := by decide +kernel
theorem dX2_part_94 : decode cX2_part 94 = .ok (.iconst 0, 1) := by decide +kernel
theorem dX2_part_95 : decode cX2_part 95 = .ok (.invokevirtual 106, 3) := by decide +kernel
theorem dX2_part_98 : decode cX2_part 98 = .ok (.aload_n 0, 1) := by decide +kernel
theorem dX2_part_99 : decode cX2_part 99 = .ok (.iload_n 1, 1) := by decide +kernel
theorem dX2_part_100 : decode cX2_part 100 = .ok (.invokevirtual 59, 3) := by decide +kernel
theorem dX2_part_103 : decode cX2_part 103 = .ok (.istore 9, 2) := by decide +kernel
theorem dX2_part_105 : decode cX2_part 105 = .ok (.iload 9, 2) := by decide +kernel
theorem dX2_part_107 : decode cX2_part 107 = .ok (.bipush (-3), 2) := by decide +kernel
theorem dX2_part_109 : decode cX2_part 109 = .ok (.if_icmp .eq 20, 3) := by decide +kernel
theorem dX2_part_112 : decode cX2_part 112 = .ok (.aload_n 0, 1) := by decide +kernel
theorem dX2_part_113 : decode cX2_part 113 = .ok (.getfield 11, 3) := by decide +kernel
theorem dX2_part_116 : decode cX2_part 116 = .ok (.iload_n 2, 1) := by decide +kernel
theorem dX2_part_117 : decode cX2_part 117 = .ok (.aaload, 1) := by decide +kernel
theorem dX2_part_118 : decode cX2_part 118 = .ok (.aload_n 0, 1) := by decide +kernel
theorem dX2_part_119 : decode cX2_part 119 = .ok (.getfield 34, 3) := by decide +kernel
theorem dX2_part_122 : decode cX2_part 122 = .ok (.iload 7, 2) := by decide +kernel
theorem dX2_part_124 : decode cX2_part 124 = .ok (.iload 8, 2) := by decide +kernel
theorem dX2_part_126 : decode cX2_part 126 = .ok (.invokevirtual 110, 3) := by decide +kernel
theorem dX2_part_129 : decode cX2_part 129 = .ok (.iload 9, 2) := by decide +kernel
theorem dX2_part_131 : decode cX2_part 131 = .ok (.ireturn, 1) := by decide +kernel
set_option maxRecDepth 20000 in
theorem ggX2_scale_X2_isRegister : GoodIn wsX2_scale wsX2_isRegister := goodIn_r _ [6] (by decide +kernel) (by decide +kernel)
set_option maxRecDepth 20000 in
theorem gX2_scale_X2_isRegister : GoodIn wsX2_scale (va_wsS RX2 48 yX2_isRegister wsX2_isRegister) := goodIn_app (goodIn_of _ (by decide +kernel)) ggX2_scale_X2_isRegister
set_option maxRecDepth 20000 in
theorem ggX2_scale_X2_isWay : GoodIn wsX2_scale wsX2_isWay := goodIn_r _ [9] (by decide +kernel) (by decide +kernel)
set_option maxRecDepth 20000 in
theorem gX2_scale_X2_isWay : GoodIn wsX2_scale (va_wsS RX2 89 yX2_isWay wsX2_isWay) := goodIn_app (goodIn_of _ (by decide +kernel)) ggX2_scale_X2_isWay
set_option maxRecDepth 20000 in
theorem ggX2_scale_X2_keepQuotient : GoodIn wsX2_scale wsX2_keepQuotient := goodIn_r _ [13, 14, 15, 5, 16, 17, 18, 19, 20, 21, 22, 23, 24, 25, 26, 27, 28, 29, 30, 31, 32, 33, 34, 35, 36, 37, 38, 39, 40, 41, 42, 43, 44, 45, 46, 47, 48, 49, 50, 51, 52, 53, 54, 55, 56, 57, 58, 59, 60, 61, 62, 63, 64, 65, 66, 67, 68, 69, 70, 71, 72, 73, 74, 75, 76, 77, 78, 79, 80, 81, 82, 83, 84, 2, 85, 86, 87, 88, 89, 90, 91, 92, 93, 94, 95, 96, 97, 98, 99, 100, 101, 102, 103, 104, 105, 106, 107, 108, 109, 110, 111, 112, 113, 1, 114, 115, 116, 117, 118, 119, 120, 121, 122, 123, 124, 125, 126, 127, 128, 129, 130, 131, 132, 133, 134, 135, 136, 137, 138, 139, 140, 141, 142, 143, 144] (by decide +kernel) (by decide +kernel)
set_option maxRecDepth 20000 in
theorem gX2_scale_X2_keepQuotient : GoodIn wsX2_scale (wsV RX2 96 RX2 yX2_keepQuotient wsX2_keepQuotient) := goodIn_app (goodIn_of _ (by decide +kernel)) ggX2_scale_X2_keepQuotient
theorem dX2_scale_0 : decode cX2_scale 0 = .ok (.iload_n 1, 1) := by decide +kernel
theorem dX2_scale_1 : decode cX2_scale 1 = .ok (.invokestatic 48, 3) := by decide +kernel
theorem dX2_scale_4 : decode cX2_scale 4 = .ok (.ifCond .eq 18, 3) := by decide +kernel
theorem dX2_scale_7 : decode cX2_scale 7 = .ok (.iload_n 2, 1) := by decide +kernel
theorem dX2_scale_8 : decode cX2_scale 8 = .ok (.invokestatic 48, 3) := by decide +kernel
theorem dX2_scale_11 : decode cX2_scale 11 = .ok (.ifCond .eq 11, 3) := by decide +kernel
theorem dX2_scale_14 : decode cX2_scale 14 = .ok (.iload 4, 2) := by decide +kernel
theorem dX2_scale_16 : decode cX2_scale 16 = .ok (.invokestatic 89, 3) := by decide +kernel
theorem dX2_scale_19 : decode cX2_scale 19 = .ok (.ifCond .ne 5, 3) := by decide +kernel
theorem dX2_scale_22 : decode cX2_scale 22 = .ok (.iconst (-1), 1) := by decide +kernel
theorem dX2_scale_23 : decode cX2_scale 23 = .ok (.ireturn, 1) := by decide +kernel
theorem dX2_scale_24 : decode cX2_scale 24 = .ok (.aload_n 0, 1) := by decide +kernel
theorem dX2_scale_25 : decode cX2_scale 25 = .ok (.iload_n 1, 1) := by decide +kernel
theorem dX2_scale_26 : decode cX2_scale 26 = .ok (.aload_n 0, 1) := by decide +kernel
theorem dX2_scale_27 : decode cX2_scale 27 = .ok (.getfield 11, 3) := by decide +kernel
theorem dX2_scale_30 : decode cX2_scale 30 = .ok (.iload_n 2, 1) := by decide +kernel
theorem dX2_scale_31 : decode cX2_scale 31 = .ok (.aaload, 1) := by decide +kernel
theorem dX2_scale_32 : decode cX2_scale 32 = .ok (.aload_n 0, 1) := by decide +kernel
theorem dX2_scale_33 : decode cX2_scale 33 = .ok (.getfield 20, 3) := by decide +kernel
theorem dX2_scale_36 : decode cX2_scale 36 = .ok (.iload_n 3, 1) := by decide +kernel
theorem dX2_scale_37 : decode cX2_scale 37 = .ok (.iload 4, 2) := by decide +kernel
theorem dX2_scale_39 : decode cX2_scale 39 = .ok (.invokevirtual 96, 3) := by decide +kernel
theorem dX2_scale_42 : decode cX2_scale 42 = .ok (.ireturn, 1) := by decide +kernel
set_option maxRecDepth 20000 in
theorem ggX2_round_X2_isRegister : GoodIn wsX2_round wsX2_isRegister := goodIn_r _ [7] (by decide +kernel) (by decide +kernel)
set_option maxRecDepth 20000 in
theorem gX2_round_X2_isRegister : GoodIn wsX2_round (va_wsS RX2 48 yX2_isRegister wsX2_isRegister) := goodIn_app (goodIn_of _ (by decide +kernel)) ggX2_round_X2_isRegister
set_option maxRecDepth 20000 in
theorem ggX2_round_X2_isWay : GoodIn wsX2_round wsX2_isWay := goodIn_r _ [10] (by decide +kernel) (by decide +kernel)
set_option maxRecDepth 20000 in
theorem gX2_round_X2_isWay : GoodIn wsX2_round (va_wsS RX2 89 yX2_isWay wsX2_isWay) := goodIn_app (goodIn_of _ (by decide +kernel)) ggX2_round_X2_isWay
set_option maxRecDepth 20000 in
theorem ggX2_round_X1_precision : GoodIn wsX2_round wsX1_precision := goodIn_r _ [15, 16, 17, 18, 19, 20, 21, 22, 23, 14, 24, 25, 26, 27, 143, 144] (by decide +kernel) (by decide +kernel)
set_option maxRecDepth 20000 in
theorem gX2_round_X1_precision : GoodIn wsX2_round (wsV RX2 114 RX1 yX1_precision wsX1_precision) := goodIn_app (goodIn_of _ (by decide +kernel)) ggX2_round_X1_precision
set_option maxRecDepth 20000 in
theorem ggX2_round_X0_become : GoodIn wsX2_round wsX0_become := goodIn_r _ [32, 33, 34, 35, 36, 37, 38, 31, 39, 40, 41, 42, 14, 43, 25, 44, 45, 46, 47, 16, 48, 49, 50, 51, 140, 141, 142, 143, 144] (by decide +kernel) (by decide +kernel)
set_option maxRecDepth 20000 in
theorem gX2_round_X0_become : GoodIn wsX2_round (wsV RX2 63 RX0 yX0_become wsX0_become) := goodIn_app (goodIn_of _ (by decide +kernel)) ggX2_round_X0_become
set_option maxRecDepth 20000 in
theorem ggX2_round_X2_cutOff : GoodIn wsX2_round wsX2_cutOff := goodIn_r _ [55, 3, 56, 57, 58, 59, 60, 6, 61, 62, 63, 2, 64, 65, 66, 67, 68, 69, 41, 42, 14, 43, 25, 44, 45, 46, 47, 16, 70, 71, 72, 73, 26, 74, 75, 76, 77, 78, 79, 80, 81, 82, 83, 84, 85, 86, 87, 88, 89, 90, 91, 92, 93, 94, 95, 96, 97, 98, 99, 100, 101, 102, 103, 104, 105, 106, 107, 133, 134, 135, 136, 137, 138, 139, 140, 141, 142, 143, 144] (by decide +kernel) (by decide +kernel)
set_option maxRecDepth 20000 in
theorem gX2_round_X2_cutOff : GoodIn wsX2_round (wsV RX2 118 RX2 yX2_cutOff wsX2_cutOff) := goodIn_app (goodIn_of _ (by decide +kernel)) ggX2_round_X2_cutOff
set_option maxRecDepth 20000 in
theorem ggX2_round_X2_settle : GoodIn wsX2_round wsX2_settle := goodIn_r _ [111, 62, 63, 3, 2, 56, 112, 49, 50, 14, 51, 16, 113, 114, 115, 116, 17, 18, 19, 20, 25, 74, 75, 76, 77, 78, 117, 118, 119, 120, 121, 122, 123, 6, 124, 64, 125, 22, 23, 24, 26, 27, 133, 134, 135, 136, 137, 138, 139, 140, 141, 142, 143, 144] (by decide +kernel) (by decide +kernel)
set_option maxRecDepth 20000 in
theorem gX2_round_X2_settle : GoodIn wsX2_round (wsV RX2 121 RX2 yX2_settle wsX2_settle) := goodIn_app (goodIn_of _ (by decide +kernel)) ggX2_round_X2_settle
set_option maxRecDepth 20000 in
theorem ggX2_round_X2_keep : GoodIn wsX2_round wsX2_keep := goodIn_r _ [129, 3, 2, 57, 1, 11, 12, 13, 14, 15, 16, 17, 18, 19, 20, 21, 22, 23, 24, 25, 26, 27, 130, 131, 6, 132, 28, 29, 30, 31, 32, 33, 34, 35, 36, 37, 38, 39, 40, 41, 42, 43, 44, 45, 46, 47, 48, 49, 50, 51, 133, 134, 135, 136, 137, 138, 139, 140, 141, 142, 143, 144] (by decide +kernel) (by decide +kernel)
set_option maxRecDepth 20000 in
theorem gX2_round_X2_keep : GoodIn wsX2_round (wsV RX2 59 RX2 yX2_keep wsX2_keep) := goodIn_app (goodIn_of _ (by decide +kernel)) ggX2_round_X2_keep
theorem dX2_round_0 : decode cX2_round 0 = .ok (.iload_n 1, 1) := by decide +kernel
theorem dX2_round_1 : decode cX2_round 1 = .ok (.invokestatic 48, 3) := by decide +kernel
theorem dX2_round_4 : decode cX2_round 4 = .ok (.ifCond .eq 23, 3) := by decide +kernel
theorem dX2_round_7 : decode cX2_round 7 = .ok (.iload_n 2, 1) := by decide +kernel
theorem dX2_round_8 : decode cX2_round 8 = .ok (.invokestatic 48, 3) := by decide +kernel
theorem dX2_round_11 : decode cX2_round 11 = .ok (.ifCond .eq 16, 3) := by decide +kernel
theorem dX2_round_14 : decode cX2_round 14 = .ok (.iload 4, 2) := by decide +kernel
theorem dX2_round_16 : decode cX2_round 16 = .ok (.invokestatic 89, 3) := by decide +kernel
theorem dX2_round_19 : decode cX2_round 19 = .ok (.ifCond .eq 8, 3) := by decide +kernel
theorem dX2_round_22 : decode cX2_round 22 = .ok (.iload_n 3, 1) := by decide +kernel
theorem dX2_round_23 : decode cX2_round 23 = .ok (.iconst 1, 1) := by decide +kernel
theorem dX2_round_24 : decode cX2_round 24 = .ok (.if_icmp .ge 5, 3) := by decide +kernel
theorem dX2_round_27 : decode cX2_round 27 = .ok (.iconst (-1), 1) := by decide +kernel
theorem dX2_round_28 : decode cX2_round 28 = .ok (.ireturn, 1) := by decide +kernel
theorem dX2_round_29 : decode cX2_round 29 = .ok (.aload_n 0, 1) := by decide +kernel
theorem dX2_round_30 : decode cX2_round 30 = .ok (.getfield 11, 3) := by decide +kernel
theorem dX2_round_33 : decode cX2_round 33 = .ok (.iload_n 2, 1) := by decide +kernel
theorem dX2_round_34 : decode cX2_round 34 = .ok (.aaload, 1) := by decide +kernel
theorem dX2_round_35 : decode cX2_round 35 = .ok (.astore 5, 2) := by decide +kernel
theorem dX2_round_37 : decode cX2_round 37 = .ok (.aload 5, 2) := by decide +kernel
theorem dX2_round_39 : decode cX2_round 39 = .ok (.getfield 23, 3) := by decide +kernel
theorem dX2_round_42 : decode cX2_round 42 = .ok (.invokevirtual 114, 3) := by decide +kernel
theorem dX2_round_45 : decode cX2_round 45 = .ok (.iload_n 3, 1) := by decide +kernel
theorem dX2_round_46 : decode cX2_round 46 = .ok (.isub, 1) := by decide +kernel
theorem dX2_round_47 : decode cX2_round 47 = .ok (.istore 6, 2) := by decide +kernel
theorem dX2_round_49 : decode cX2_round 49 = .ok (.iload 6, 2) := by decide +kernel
theorem dX2_round_51 : decode cX2_round 51 = .ok (.bipush 18, 2) := by decide +kernel
theorem dX2_round_53 : decode cX2_round 53 = .ok (.if_icmp .le 5, 3) := by decide +kernel
theorem dX2_round_56 : decode cX2_round 56 = .ok (.iconst (-1), 1) := by decide +kernel
theorem dX2_round_57 : decode cX2_round 57 = .ok (.ireturn, 1) := by decide +kernel
theorem dX2_round_58 : decode cX2_round 58 = .ok (.aload_n 0, 1) := by decide +kernel
theorem dX2_round_59 : decode cX2_round 59 = .ok (.getfield 16, 3) := by decide +kernel
theorem dX2_round_62 : decode cX2_round 62 = .ok (.aload 5, 2) := by decide +kernel
theorem dX2_round_64 : decode cX2_round 64 = .ok (.invokevirtual 63, 3) := by decide +kernel
theorem dX2_round_67 : decode cX2_round 67 = .ok (.iload 6, 2) := by decide +kernel
theorem dX2_round_69 : decode cX2_round 69 = .ok (.ifCond .le 40, 3) := by decide +kernel
theorem dX2_round_72 : decode cX2_round 72 = .ok (.aload_n 0, 1) := by decide +kernel
theorem dX2_round_73 : decode cX2_round 73 = .ok (.iload 6, 2) := by decide +kernel
theorem dX2_round_75 : decode cX2_round 75 = .ok (.invokevirtual 118, 3) := by decide +kernel
theorem dX2_round_78 : decode cX2_round 78 = .ok (.aload_n 0, 1) := by decide +kernel
theorem dX2_round_79 : decode cX2_round 79 = .ok (.iload 4, 2) := by decide +kernel
theorem dX2_round_81 : decode cX2_round 81 = .ok (.invokevirtual 121, 3) := by decide +kernel
theorem dX2_round_84 : decode cX2_round 84 = .ok (.ifCond .ne 6, 3) := by decide +kernel
theorem dX2_round_87 : decode cX2_round 87 = .ok (.bipush (-4), 2) := by decide +kernel
theorem dX2_round_89 : decode cX2_round 89 = .ok (.ireturn, 1) := by decide +kernel
theorem dX2_round_90 : decode cX2_round 90 = .ok (.aload_n 0, 1) := by decide +kernel
theorem dX2_round_91 : decode cX2_round 91 = .ok (.getfield 16, 3) := by decide +kernel
theorem dX2_round_94 : decode cX2_round 94 = .ok (.getfield 23, 3) := by decide +kernel
theorem dX2_round_97 : decode cX2_round 97 = .ok (.invokevirtual 114, 3) := by decide +kernel
theorem dX2_round_100 : decode cX2_round 100 = .ok (.iload_n 3, 1) := by decide +kernel
theorem dX2_round_101 : decode cX2_round 101 = .ok (.if_icmp .le 8, 3) := by decide +kernel
theorem dX2_round_104 : decode cX2_round 104 = .ok (.aload_n 0, 1) := by decide +kernel
theorem dX2_round_105 : decode cX2_round 105 = .ok (.iconst 1, 1) := by decide +kernel
theorem dX2_round_106 : decode cX2_round 106 = .ok (.invokevirtual 118, 3) := by decide +kernel
theorem dX2_round_109 : decode cX2_round 109 = .ok (.aload_n 0, 1) := by decide +kernel
theorem dX2_round_110 : decode cX2_round 110 = .ok (.iload_n 1, 1) := by decide +kernel
theorem dX2_round_111 : decode cX2_round 111 = .ok (.invokevirtual 59, 3) := by decide +kernel
theorem dX2_round_114 : decode cX2_round 114 = .ok (.ireturn, 1) := by decide +kernel
set_option maxRecDepth 20000 in
theorem ggX2_turn_X2_isRegister : GoodIn wsX2_turn wsX2_isRegister := goodIn_r _ [7] (by decide +kernel) (by decide +kernel)
set_option maxRecDepth 20000 in
theorem gX2_turn_X2_isRegister : GoodIn wsX2_turn (va_wsS RX2 48 yX2_isRegister wsX2_isRegister) := goodIn_app (goodIn_of _ (by decide +kernel)) ggX2_turn_X2_isRegister
set_option maxRecDepth 20000 in
theorem ggX2_turn_X0_become : GoodIn wsX2_turn wsX0_become := goodIn_r _ [12, 13, 14, 15, 16, 17, 18, 11, 19, 20, 21, 22, 23, 24, 25, 26, 27, 28, 29, 30, 31, 32, 33, 34, 128, 129, 130, 131, 132] (by decide +kernel) (by decide +kernel)
set_option maxRecDepth 20000 in
theorem gX2_turn_X0_become : GoodIn wsX2_turn (wsV RX2 63 RX0 yX0_become wsX0_become) := goodIn_app (goodIn_of _ (by decide +kernel)) ggX2_turn_X0_become
set_option maxRecDepth 20000 in
theorem ggX2_turn_X2_cutOffZeros : GoodIn wsX2_turn wsX2_cutOffZeros := goodIn_r _ [38, 1, 39, 40, 41, 32, 33, 23, 34, 30, 42, 43, 44, 45, 46, 47, 48, 49, 25, 50, 51, 52, 53, 54, 6, 55, 56, 57, 58, 59, 60, 61, 62, 3, 63, 64, 65, 66, 67, 21, 22, 24, 26, 27, 28, 29, 68, 69, 70, 71, 72, 73, 74, 75, 76, 77, 78, 79, 80, 81, 82, 83, 84, 85, 86, 87, 88, 89, 90, 91, 92, 93, 94, 95, 96, 97, 98, 99, 100, 101, 102, 103, 104, 105, 121, 122, 123, 124, 125, 126, 127, 128, 129, 130, 131, 132] (by decide +kernel) (by decide +kernel)
set_option maxRecDepth 20000 in
theorem gX2_turn_X2_cutOffZeros : GoodIn wsX2_turn (wsV RX2 124 RX2 yX2_cutOffZeros wsX2_cutOffZeros) := goodIn_app (goodIn_of _ (by decide +kernel)) ggX2_turn_X2_cutOffZeros
set_option maxRecDepth 20000 in
theorem ggX2_turn_X2_keep : GoodIn wsX2_turn wsX2_keep := goodIn_r _ [109, 1, 39, 40, 2, 110, 111, 112, 23, 113, 30, 114, 115, 116, 117, 46, 47, 48, 49, 25, 50, 51, 118, 119, 6, 120, 8, 9, 10, 11, 12, 13, 14, 15, 16, 17, 18, 19, 20, 21, 22, 24, 26, 27, 28, 29, 31, 32, 33, 34, 121, 122, 123, 124, 125, 126, 127, 128, 129, 130, 131, 132] (by decide +kernel) (by decide +kernel)
set_option maxRecDepth 20000 in
theorem gX2_turn_X2_keep : GoodIn wsX2_turn (wsV RX2 59 RX2 yX2_keep wsX2_keep) := goodIn_app (goodIn_of _ (by decide +kernel)) ggX2_turn_X2_keep
theorem dX2_turn_0 : decode cX2_turn 0 = .ok (.iload_n 2, 1) := by decide +kernel
theorem dX2_turn_1 : decode cX2_turn 1 = .ok (.invokestatic 48, 3) := by decide +kernel
theorem dX2_turn_4 : decode cX2_turn 4 = .ok (.ifCond .eq 10, 3) := by decide +kernel
theorem dX2_turn_7 : decode cX2_turn 7 = .ok (.iload_n 3, 1) := by decide +kernel
theorem dX2_turn_8 : decode cX2_turn 8 = .ok (.invokestatic 48, 3) := by decide +kernel
theorem dX2_turn_11 : decode cX2_turn 11 = .ok (.ifCond .ne 5, 3) := by decide +kernel
theorem dX2_turn_14 : decode cX2_turn 14 = .ok (.iconst (-1), 1) := by decide +kernel
theorem dX2_turn_15 : decode cX2_turn 15 = .ok (.ireturn, 1) := by decide +kernel
theorem dX2_turn_16 : decode cX2_turn 16 = .ok (.aload_n 0, 1) := by decide +kernel
theorem dX2_turn_17 : decode cX2_turn 17 = .ok (.getfield 16, 3) := by decide +kernel
theorem dX2_turn_20 : decode cX2_turn 20 = .ok (.aload_n 0, 1) := by decide +kernel
theorem dX2_turn_21 : decode cX2_turn 21 = .ok (.getfield 11, 3) := by decide +kernel
theorem dX2_turn_24 : decode cX2_turn 24 = .ok (.iload_n 3, 1) := by decide +kernel
theorem dX2_turn_25 : decode cX2_turn 25 = .ok (.aaload, 1) := by decide +kernel
theorem dX2_turn_26 : decode cX2_turn 26 = .ok (.invokevirtual 63, 3) := by decide +kernel
theorem dX2_turn_29 : decode cX2_turn 29 = .ok (.iload_n 1, 1) := by decide +kernel
theorem dX2_turn_30 : decode cX2_turn 30 = .ok (.tableswitch 69 0 2 #[26, 37, 62], 26) := by decide +kernel
theorem dX2_turn_56 : decode cX2_turn 56 = .ok (.aload_n 0, 1) := by decide +kernel
theorem dX2_turn_57 : decode cX2_turn 57 = .ok (.getfield 16, 3) := by decide +kernel
theorem dX2_turn_60 : decode cX2_turn 60 = .ok (.iconst 0, 1) := by decide +kernel
theorem dX2_turn_61 : decode cX2_turn 61 = .ok (.putfield 52, 3) := by decide +kernel
theorem dX2_turn_64 : decode cX2_turn 64 = .ok (.goto 37, 3) := by decide +kernel
theorem dX2_turn_67 : decode cX2_turn 67 = .ok (.aload_n 0, 1) := by decide +kernel
theorem dX2_turn_68 : decode cX2_turn 68 = .ok (.getfield 16, 3) := by decide +kernel
theorem dX2_turn_71 : decode cX2_turn 71 = .ok (.aload_n 0, 1) := by decide +kernel
theorem dX2_turn_72 : decode cX2_turn 72 = .ok (.getfield 16, 3) := by decide +kernel
theorem dX2_turn_75 : decode cX2_turn 75 = .ok (.getfield 52, 3) := by decide +kernel
theorem dX2_turn_78 : decode cX2_turn 78 = .ok (.ifCond .ne 7, 3) := by decide +kernel
theorem dX2_turn_81 : decode cX2_turn 81 = .ok (.iconst 1, 1) := by decide +kernel
theorem dX2_turn_82 : decode cX2_turn 82 = .ok (.goto 4, 3) := by decide +kernel
theorem dX2_turn_85 : decode cX2_turn 85 = .ok (.iconst 0, 1) := by decide +kernel
theorem dX2_turn_86 : decode cX2_turn 86 = .ok (.putfield 52, 3) := by decide +kernel
theorem dX2_turn_89 : decode cX2_turn 89 = .ok (.goto 12, 3) := by decide +kernel
theorem dX2_turn_92 : decode cX2_turn 92 = .ok (.aload_n 0, 1) := by decide +kernel
theorem dX2_turn_93 : decode cX2_turn 93 = .ok (.invokevirtual 124, 3) := by decide +kernel
theorem dX2_turn_96 : decode cX2_turn 96 = .ok (.goto 5, 3) := by decide +kernel
theorem dX2_turn_99 : decode cX2_turn 99 = .ok (.iconst (-1), 1) := by decide +kernel
theorem dX2_turn_100 : decode cX2_turn 100 = .ok (.ireturn, 1) := by decide +kernel
theorem dX2_turn_101 : decode cX2_turn 101 = .ok (.aload_n 0, 1) := by decide +kernel
theorem dX2_turn_102 : decode cX2_turn 102 = .ok (.iload_n 2, 1) := by decide +kernel
theorem dX2_turn_103 : decode cX2_turn 103 = .ok (.invokevirtual 59, 3) := by decide +kernel
theorem dX2_turn_106 : decode cX2_turn 106 = .ok (.ireturn, 1) := by decide +kernel
set_option maxRecDepth 20000 in
theorem ggX2_move_X2_isRegister : GoodIn wsX2_move wsX2_isRegister := goodIn_r _ [8] (by decide +kernel) (by decide +kernel)
set_option maxRecDepth 20000 in
theorem gX2_move_X2_isRegister : GoodIn wsX2_move (va_wsS RX2 48 yX2_isRegister wsX2_isRegister) := goodIn_app (goodIn_of _ (by decide +kernel)) ggX2_move_X2_isRegister
set_option maxRecDepth 20000 in
theorem ggX2_move_X0_become : GoodIn wsX2_move wsX0_become := goodIn_r _ [13, 14, 15, 16, 17, 18, 19, 12, 20, 21, 22, 23, 24, 25, 26, 27, 28, 29, 30, 31, 32, 33, 34, 35, 77, 78, 79, 80, 81] (by decide +kernel) (by decide +kernel)
set_option maxRecDepth 20000 in
theorem gX2_move_X0_become : GoodIn wsX2_move (wsV RX2 63 RX0 yX0_become wsX0_become) := goodIn_app (goodIn_of _ (by decide +kernel)) ggX2_move_X0_become
set_option maxRecDepth 20000 in
theorem ggX2_move_X1_raise : GoodIn wsX2_move wsX1_raise := goodIn_r _ [39, 31, 40, 26, 41, 42, 43, 44, 24, 45, 46, 47, 48, 49, 80, 81] (by decide +kernel) (by decide +kernel)
set_option maxRecDepth 20000 in
theorem gX2_move_X1_raise : GoodIn wsX2_move (wsV RX2 67 RX1 yX1_raise wsX1_raise) := goodIn_app (goodIn_of _ (by decide +kernel)) ggX2_move_X1_raise
set_option maxRecDepth 20000 in
theorem ggX2_move_X2_keep : GoodIn wsX2_move wsX2_keep := goodIn_r _ [53, 1, 4, 3, 2, 54, 55, 56, 24, 57, 31, 58, 59, 60, 61, 62, 63, 64, 65, 26, 40, 66, 67, 68, 7, 69, 9, 10, 11, 12, 13, 14, 15, 16, 17, 18, 19, 20, 21, 22, 23, 25, 27, 28, 29, 30, 32, 33, 34, 35, 70, 71, 72, 73, 74, 75, 76, 77, 78, 79, 80, 81] (by decide +kernel) (by decide +kernel)
set_option maxRecDepth 20000 in
theorem gX2_move_X2_keep : GoodIn wsX2_move (wsV RX2 59 RX2 yX2_keep wsX2_keep) := goodIn_app (goodIn_of _ (by decide +kernel)) ggX2_move_X2_keep
theorem dX2_move_0 : decode cX2_move 0 = .ok (.iload_n 2, 1) := by decide +kernel
theorem dX2_move_1 : decode cX2_move 1 = .ok (.invokestatic 48, 3) := by decide +kernel
theorem dX2_move_4 : decode cX2_move 4 = .ok (.ifCond .eq 19, 3) := by decide +kernel
theorem dX2_move_7 : decode cX2_move 7 = .ok (.iload_n 3, 1) := by decide +kernel
theorem dX2_move_8 : decode cX2_move 8 = .ok (.invokestatic 48, 3) := by decide +kernel
theorem dX2_move_11 : decode cX2_move 11 = .ok (.ifCond .eq 12, 3) := by decide +kernel
theorem dX2_move_14 : decode cX2_move 14 = .ok (.iload_n 1, 1) := by decide +kernel
theorem dX2_move_15 : decode cX2_move 15 = .ok (.ifCond .lt 8, 3) := by decide +kernel
theorem dX2_move_18 : decode cX2_move 18 = .ok (.iload_n 1, 1) := by decide +kernel
theorem dX2_move_19 : decode cX2_move 19 = .ok (.iconst 1, 1) := by decide +kernel
theorem dX2_move_20 : decode cX2_move 20 = .ok (.if_icmp .le 5, 3) := by decide +kernel
theorem dX2_move_23 : decode cX2_move 23 = .ok (.iconst (-1), 1) := by decide +kernel
theorem dX2_move_24 : decode cX2_move 24 = .ok (.ireturn, 1) := by decide +kernel
theorem dX2_move_25 : decode cX2_move 25 = .ok (.iload 4, 2) := by decide +kernel
theorem dX2_move_27 : decode cX2_move 27 = .ok (.bipush (-12), 2) := by decide +kernel
theorem dX2_move_29 : decode cX2_move 29 = .ok (.if_icmp .lt 10, 3) := by decide +kernel
theorem dX2_move_32 : decode cX2_move 32 = .ok (.iload 4, 2) := by decide +kernel
theorem dX2_move_34 : decode cX2_move 34 = .ok (.bipush 12, 2) := by decide +kernel
theorem dX2_move_36 : decode cX2_move 36 = .ok (.if_icmp .le 5, 3) := by decide +kernel
theorem dX2_move_39 : decode cX2_move 39 = .ok (.iconst (-1), 1) := by decide +kernel
theorem dX2_move_40 : decode cX2_move 40 = .ok (.ireturn, 1) := by decide +kernel
theorem dX2_move_41 : decode cX2_move 41 = .ok (.aload_n 0, 1) := by decide +kernel
theorem dX2_move_42 : decode cX2_move 42 = .ok (.getfield 16, 3) := by decide +kernel
theorem dX2_move_45 : decode cX2_move 45 = .ok (.aload_n 0, 1) := by decide +kernel
theorem dX2_move_46 : decode cX2_move 46 = .ok (.getfield 11, 3) := by decide +kernel
theorem dX2_move_49 : decode cX2_move 49 = .ok (.iload_n 3, 1) := by decide +kernel
theorem dX2_move_50 : decode cX2_move 50 = .ok (.aaload, 1) := by decide +kernel
theorem dX2_move_51 : decode cX2_move 51 = .ok (.invokevirtual 63, 3) := by decide +kernel
theorem dX2_move_54 : decode cX2_move 54 = .ok (.aload_n 0, 1) := by decide +kernel
theorem dX2_move_55 : decode cX2_move 55 = .ok (.getfield 16, 3) := by decide +kernel
theorem dX2_move_58 : decode cX2_move 58 = .ok (.dup, 1) := by decide +kernel
theorem dX2_move_59 : decode cX2_move 59 = .ok (.getfield 56, 3) := by decide +kernel
theorem dX2_move_62 : decode cX2_move 62 = .ok (.iload 4, 2) := by decide +kernel
theorem dX2_move_64 : decode cX2_move 64 = .ok (.isub, 1) := by decide +kernel
theorem dX2_move_65 : decode cX2_move 65 = .ok (.putfield 56, 3) := by decide +kernel
theorem dX2_move_68 : decode cX2_move 68 = .ok (.iload_n 1, 1) := by decide +kernel
theorem dX2_move_69 : decode cX2_move 69 = .ok (.iconst 1, 1) := by decide +kernel
theorem dX2_move_70 : decode cX2_move 70 = .ok (.if_icmp .ne 39, 3) := by decide +kernel
theorem dX2_move_73 : decode cX2_move 73 = .ok (.aload_n 0, 1) := by decide +kernel
theorem dX2_move_74 : decode cX2_move 74 = .ok (.getfield 16, 3) := by decide +kernel
theorem dX2_move_77 : decode cX2_move 77 = .ok (.getfield 56, 3) := by decide +kernel
theorem dX2_move_80 : decode cX2_move 80 = .ok (.ifCond .ge 29, 3) := by decide +kernel
theorem dX2_move_83 : decode cX2_move 83 = .ok (.aload_n 0, 1) := by decide +kernel
theorem dX2_move_84 : decode cX2_move 84 = .ok (.getfield 16, 3) := by decide +kernel
theorem dX2_move_87 : decode cX2_move 87 = .ok (.getfield 23, 3) := by decide +kernel
theorem dX2_move_90 : decode cX2_move 90 = .ok (.aload_n 0, 1) := by decide +kernel
theorem dX2_move_91 : decode cX2_move 91 = .ok (.getfield 16, 3) := by decide +kernel
theorem dX2_move_94 : decode cX2_move 94 = .ok (.getfield 56, 3) := by decide +kernel
theorem dX2_move_97 : decode cX2_move 97 = .ok (.ineg, 1) := by decide +kernel
theorem dX2_move_98 : decode cX2_move 98 = .ok (.invokevirtual 67, 3) := by decide +kernel
theorem dX2_move_101 : decode cX2_move 101 = .ok (.aload_n 0, 1) := by decide +kernel
theorem dX2_move_102 : decode cX2_move 102 = .ok (.getfield 16, 3) := by decide +kernel
theorem dX2_move_105 : decode cX2_move 105 = .ok (.iconst 0, 1) := by decide +kernel
theorem dX2_move_106 : decode cX2_move 106 = .ok (.putfield 56, 3) := by decide +kernel
theorem dX2_move_109 : decode cX2_move 109 = .ok (.aload_n 0, 1) := by decide +kernel
theorem dX2_move_110 : decode cX2_move 110 = .ok (.iload_n 2, 1) := by decide +kernel
theorem dX2_move_111 : decode cX2_move 111 = .ok (.invokevirtual 59, 3) := by decide +kernel
theorem dX2_move_114 : decode cX2_move 114 = .ok (.ireturn, 1) := by decide +kernel
set_option maxRecDepth 20000 in
theorem ggX2_power_X2_isRegister : GoodIn wsX2_power wsX2_isRegister := goodIn_r _ [8] (by decide +kernel) (by decide +kernel)
set_option maxRecDepth 20000 in
theorem gX2_power_X2_isRegister : GoodIn wsX2_power (va_wsS RX2 48 yX2_isRegister wsX2_isRegister) := goodIn_app (goodIn_of _ (by decide +kernel)) ggX2_power_X2_isRegister
set_option maxRecDepth 20000 in
theorem ggX2_power_X1_precision : GoodIn wsX2_power wsX1_precision := goodIn_r _ [13, 14, 15, 16, 17, 18, 19, 20, 21, 12, 22, 23, 24, 25, 88, 89] (by decide +kernel) (by decide +kernel)
set_option maxRecDepth 20000 in
theorem gX2_power_X1_precision : GoodIn wsX2_power (wsV RX2 114 RX1 yX1_precision wsX1_precision) := goodIn_app (goodIn_of _ (by decide +kernel)) ggX2_power_X1_precision
set_option maxRecDepth 20000 in
theorem ggX2_power_X0_become : GoodIn wsX2_power wsX0_become := goodIn_r _ [30, 31, 32, 33, 34, 35, 36, 29, 37, 38, 39, 40, 12, 41, 23, 42, 43, 44, 45, 14, 46, 47, 48, 49, 85, 86, 87, 88, 89] (by decide +kernel) (by decide +kernel)
set_option maxRecDepth 20000 in
theorem gX2_power_X0_become : GoodIn wsX2_power (wsV RX2 63 RX0 yX0_become wsX0_become) := goodIn_app (goodIn_of _ (by decide +kernel)) ggX2_power_X0_become
set_option maxRecDepth 20000 in
theorem ggX2_power_X2_multiply : GoodIn wsX2_power wsX2_multiply := goodIn_r _ [53, 54, 2, 3, 55, 56, 57, 58, 59, 12, 60, 14, 23, 61, 62, 63, 64, 65, 66, 67, 68, 69, 70, 35, 36, 29, 37, 31, 32, 33, 38, 39, 40, 41, 42, 43, 44, 45, 46, 47, 48, 49, 78, 79, 80, 81, 82, 83, 84, 85, 86, 87, 88, 89] (by decide +kernel) (by decide +kernel)
set_option maxRecDepth 20000 in
theorem gX2_power_X2_multiply : GoodIn wsX2_power (wsV RX2 81 RX2 yX2_multiply wsX2_multiply) := goodIn_app (goodIn_of _ (by decide +kernel)) ggX2_power_X2_multiply
set_option maxRecDepth 20000 in
theorem ggX2_power_X2_keep : GoodIn wsX2_power wsX2_keep := goodIn_r _ [74, 3, 2, 56, 1, 9, 10, 11, 12, 13, 14, 15, 16, 17, 18, 19, 20, 21, 22, 23, 24, 25, 75, 76, 7, 77, 26, 27, 28, 29, 30, 31, 32, 33, 34, 35, 36, 37, 38, 39, 40, 41, 42, 43, 44, 45, 46, 47, 48, 49, 78, 79, 80, 81, 82, 83, 84, 85, 86, 87, 88, 89] (by decide +kernel) (by decide +kernel)
set_option maxRecDepth 20000 in
theorem gX2_power_X2_keep : GoodIn wsX2_power (wsV RX2 59 RX2 yX2_keep wsX2_keep) := goodIn_app (goodIn_of _ (by decide +kernel)) ggX2_power_X2_keep
theorem dX2_power_0 : decode cX2_power 0 = .ok (.iload_n 1, 1) := by decide +kernel
theorem dX2_power_1 : decode cX2_power 1 = .ok (.invokestatic 48, 3) := by decide +kernel
theorem dX2_power_4 : decode cX2_power 4 = .ok (.ifCond .eq 20, 3) := by decide +kernel
theorem dX2_power_7 : decode cX2_power 7 = .ok (.iload_n 2, 1) := by decide +kernel
theorem dX2_power_8 : decode cX2_power 8 = .ok (.invokestatic 48, 3) := by decide +kernel
theorem dX2_power_11 : decode cX2_power 11 = .ok (.ifCond .eq 13, 3) := by decide +kernel
theorem dX2_power_14 : decode cX2_power 14 = .ok (.iload_n 3, 1) := by decide +kernel
theorem dX2_power_15 : decode cX2_power 15 = .ok (.ifCond .lt 9, 3) := by decide +kernel
theorem dX2_power_18 : decode cX2_power 18 = .ok (.iload_n 3, 1) := by decide +kernel
theorem dX2_power_19 : decode cX2_power 19 = .ok (.bipush 40, 2) := by decide +kernel
theorem dX2_power_21 : decode cX2_power 21 = .ok (.if_icmp .le 5, 3) := by decide +kernel
theorem dX2_power_24 : decode cX2_power 24 = .ok (.iconst (-1), 1) := by decide +kernel
theorem dX2_power_25 : decode cX2_power 25 = .ok (.ireturn, 1) := by decide +kernel
theorem dX2_power_26 : decode cX2_power 26 = .ok (.aload_n 0, 1) := by decide +kernel
theorem dX2_power_27 : decode cX2_power 27 = .ok (.getfield 11, 3) := by decide +kernel
theorem dX2_power_30 : decode cX2_power 30 = .ok (.iload_n 2, 1) := by decide +kernel
theorem dX2_power_31 : decode cX2_power 31 = .ok (.aaload, 1) := by decide +kernel
theorem dX2_power_32 : decode cX2_power 32 = .ok (.astore 4, 2) := by decide +kernel
theorem dX2_power_34 : decode cX2_power 34 = .ok (.iload_n 3, 1) := by decide +kernel
theorem dX2_power_35 : decode cX2_power 35 = .ok (.aload 4, 2) := by decide +kernel
theorem dX2_power_37 : decode cX2_power 37 = .ok (.getfield 23, 3) := by decide +kernel
theorem dX2_power_40 : decode cX2_power 40 = .ok (.invokevirtual 114, 3) := by decide +kernel
theorem dX2_power_43 : decode cX2_power 43 = .ok (.imul, 1) := by decide +kernel
theorem dX2_power_44 : decode cX2_power 44 = .ok (.sipush 190, 3) := by decide +kernel
theorem dX2_power_47 : decode cX2_power 47 = .ok (.if_icmp .le 6, 3) := by decide +kernel
theorem dX2_power_50 : decode cX2_power 50 = .ok (.bipush (-3), 2) := by decide +kernel
theorem dX2_power_52 : decode cX2_power 52 = .ok (.ireturn, 1) := by decide +kernel
theorem dX2_power_53 : decode cX2_power 53 = .ok (.aload_n 0, 1) := by decide +kernel
theorem dX2_power_54 : decode cX2_power 54 = .ok (.getfield 16, 3) := by decide +kernel
theorem dX2_power_57 : decode cX2_power 57 = .ok (.aload_n 0, 1) := by decide +kernel
theorem dX2_power_58 : decode cX2_power 58 = .ok (.getfield 20, 3) := by decide +kernel
theorem dX2_power_61 : decode cX2_power 61 = .ok (.invokevirtual 63, 3) := by decide +kernel
theorem dX2_power_64 : decode cX2_power 64 = .ok (.iconst 0, 1) := by decide +kernel
theorem dX2_power_65 : decode cX2_power 65 = .ok (.istore 5, 2) := by decide +kernel
theorem dX2_power_67 : decode cX2_power 67 = .ok (.iload 5, 2) := by decide +kernel
theorem dX2_power_69 : decode cX2_power 69 = .ok (.iload_n 3, 1) := by decide +kernel
theorem dX2_power_70 : decode cX2_power 70 = .ok (.if_icmp .ge 19, 3) := by decide +kernel
theorem dX2_power_73 : decode cX2_power 73 = .ok (.aload_n 0, 1) := by decide +kernel
theorem dX2_power_74 : decode cX2_power 74 = .ok (.aload_n 0, 1) := by decide +kernel
theorem dX2_power_75 : decode cX2_power 75 = .ok (.getfield 16, 3) := by decide +kernel
theorem dX2_power_78 : decode cX2_power 78 = .ok (.aload 4, 2) := by decide +kernel
theorem dX2_power_80 : decode cX2_power 80 = .ok (.invokevirtual 81, 3) := by decide +kernel
theorem dX2_power_83 : decode cX2_power 83 = .ok (.iinc 5 1, 3) := by decide +kernel
theorem dX2_power_86 : decode cX2_power 86 = .ok (.goto (-19), 3) := by decide +kernel
theorem dX2_power_89 : decode cX2_power 89 = .ok (.aload_n 0, 1) := by decide +kernel
theorem dX2_power_90 : decode cX2_power 90 = .ok (.iload_n 1, 1) := by decide +kernel
theorem dX2_power_91 : decode cX2_power 91 = .ok (.invokevirtual 59, 3) := by decide +kernel
theorem dX2_power_94 : decode cX2_power 94 = .ok (.ireturn, 1) := by decide +kernel
set_option maxRecDepth 20000 in
theorem ggX2_compare_X2_isRegister : GoodIn wsX2_compare wsX2_isRegister := goodIn_r _ [5] (by decide +kernel) (by decide +kernel)
set_option maxRecDepth 20000 in
theorem gX2_compare_X2_isRegister : GoodIn wsX2_compare (va_wsS RX2 48 yX2_isRegister wsX2_isRegister) := goodIn_app (goodIn_of _ (by decide +kernel)) ggX2_compare_X2_isRegister
set_option maxRecDepth 20000 in
theorem ggX2_compare_X2_order : GoodIn wsX2_compare wsX2_order := goodIn_r _ [9, 10, 11, 12, 13, 14, 15, 16, 17, 18, 19, 20, 21, 22, 23, 24, 25, 26, 27, 28, 4, 29, 30, 31, 32, 33, 34, 35, 36, 37, 38, 39, 40, 41, 42, 43, 44, 45, 46, 47, 48, 49, 50, 51, 52, 53, 54, 55, 56, 57, 58, 66, 67, 68, 59, 60, 61, 62, 63, 64, 65, 69, 70] (by decide +kernel) (by decide +kernel)
set_option maxRecDepth 20000 in
theorem gX2_compare_X2_order : GoodIn wsX2_compare (wsV RX2 85 RX2 yX2_order wsX2_order) := goodIn_app (goodIn_of _ (by decide +kernel)) ggX2_compare_X2_order
theorem dX2_compare_0 : decode cX2_compare 0 = .ok (.iload_n 1, 1) := by decide +kernel
theorem dX2_compare_1 : decode cX2_compare 1 = .ok (.invokestatic 48, 3) := by decide +kernel
theorem dX2_compare_4 : decode cX2_compare 4 = .ok (.ifCond .eq 10, 3) := by decide +kernel
theorem dX2_compare_7 : decode cX2_compare 7 = .ok (.iload_n 2, 1) := by decide +kernel
theorem dX2_compare_8 : decode cX2_compare 8 = .ok (.invokestatic 48, 3) := by decide +kernel
theorem dX2_compare_11 : decode cX2_compare 11 = .ok (.ifCond .ne 6, 3) := by decide +kernel
theorem dX2_compare_14 : decode cX2_compare 14 = .ok (.bipush (-2), 2) := by decide +kernel
theorem dX2_compare_16 : decode cX2_compare 16 = .ok (.ireturn, 1) := by decide +kernel
theorem dX2_compare_17 : decode cX2_compare 17 = .ok (.aload_n 0, 1) := by decide +kernel
theorem dX2_compare_18 : decode cX2_compare 18 = .ok (.aload_n 0, 1) := by decide +kernel
theorem dX2_compare_19 : decode cX2_compare 19 = .ok (.getfield 11, 3) := by decide +kernel
theorem dX2_compare_22 : decode cX2_compare 22 = .ok (.iload_n 1, 1) := by decide +kernel
theorem dX2_compare_23 : decode cX2_compare 23 = .ok (.aaload, 1) := by decide +kernel
theorem dX2_compare_24 : decode cX2_compare 24 = .ok (.aload_n 0, 1) := by decide +kernel
theorem dX2_compare_25 : decode cX2_compare 25 = .ok (.getfield 11, 3) := by decide +kernel
theorem dX2_compare_28 : decode cX2_compare 28 = .ok (.iload_n 2, 1) := by decide +kernel
theorem dX2_compare_29 : decode cX2_compare 29 = .ok (.aaload, 1) := by decide +kernel
theorem dX2_compare_30 : decode cX2_compare 30 = .ok (.invokevirtual 85, 3) := by decide +kernel
theorem dX2_compare_33 : decode cX2_compare 33 = .ok (.ireturn, 1) := by decide +kernel
set_option maxRecDepth 20000 in
theorem ggX2_same_X2_isRegister : GoodIn wsX2_same wsX2_isRegister := goodIn_r _ [8] (by decide +kernel) (by decide +kernel)
set_option maxRecDepth 20000 in
theorem gX2_same_X2_isRegister : GoodIn wsX2_same (va_wsS RX2 48 yX2_isRegister wsX2_isRegister) := goodIn_app (goodIn_of _ (by decide +kernel)) ggX2_same_X2_isRegister
set_option maxRecDepth 20000 in
theorem ggX2_same_X1_order : GoodIn wsX2_same wsX1_order := goodIn_r _ [13, 14, 15, 26, 27] (by decide +kernel) (by decide +kernel)
set_option maxRecDepth 20000 in
theorem gX2_same_X1_order : GoodIn wsX2_same (wsV RX2 127 RX1 yX1_order wsX1_order) := goodIn_app (goodIn_of _ (by decide +kernel)) ggX2_same_X1_order
theorem dX2_same_0 : decode cX2_same 0 = .ok (.iload_n 1, 1) := by decide +kernel
theorem dX2_same_1 : decode cX2_same 1 = .ok (.invokestatic 48, 3) := by decide +kernel
theorem dX2_same_4 : decode cX2_same 4 = .ok (.ifCond .eq 10, 3) := by decide +kernel
theorem dX2_same_7 : decode cX2_same 7 = .ok (.iload_n 2, 1) := by decide +kernel
theorem dX2_same_8 : decode cX2_same 8 = .ok (.invokestatic 48, 3) := by decide +kernel
theorem dX2_same_11 : decode cX2_same 11 = .ok (.ifCond .ne 5, 3) := by decide +kernel
theorem dX2_same_14 : decode cX2_same 14 = .ok (.iconst 0, 1) := by decide +kernel
theorem dX2_same_15 : decode cX2_same 15 = .ok (.ireturn, 1) := by decide +kernel
theorem dX2_same_16 : decode cX2_same 16 = .ok (.aload_n 0, 1) := by decide +kernel
theorem dX2_same_17 : decode cX2_same 17 = .ok (.getfield 11, 3) := by decide +kernel
theorem dX2_same_20 : decode cX2_same 20 = .ok (.iload_n 1, 1) := by decide +kernel
theorem dX2_same_21 : decode cX2_same 21 = .ok (.aaload, 1) := by decide +kernel
theorem dX2_same_22 : decode cX2_same 22 = .ok (.astore_n 3, 1) := by decide +kernel
theorem dX2_same_23 : decode cX2_same 23 = .ok (.aload_n 0, 1) := by decide +kernel
theorem dX2_same_24 : decode cX2_same 24 = .ok (.getfield 11, 3) := by decide +kernel
theorem dX2_same_27 : decode cX2_same 27 = .ok (.iload_n 2, 1) := by decide +kernel
theorem dX2_same_28 : decode cX2_same 28 = .ok (.aaload, 1) := by decide +kernel
theorem dX2_same_29 : decode cX2_same 29 = .ok (.astore 4, 2) := by decide +kernel
theorem dX2_same_31 : decode cX2_same 31 = .ok (.aload_n 3, 1) := by decide +kernel
theorem dX2_same_32 : decode cX2_same 32 = .ok (.getfield 56, 3) := by decide +kernel
theorem dX2_same_35 : decode cX2_same 35 = .ok (.aload 4, 2) := by decide +kernel
theorem dX2_same_37 : decode cX2_same 37 = .ok (.getfield 56, 3) := by decide +kernel
theorem dX2_same_40 : decode cX2_same 40 = .ok (.if_icmp .ne 34, 3) := by decide +kernel
theorem dX2_same_43 : decode cX2_same 43 = .ok (.aload_n 3, 1) := by decide +kernel
theorem dX2_same_44 : decode cX2_same 44 = .ok (.getfield 52, 3) := by decide +kernel
theorem dX2_same_47 : decode cX2_same 47 = .ok (.aload 4, 2) := by decide +kernel
theorem dX2_same_49 : decode cX2_same 49 = .ok (.getfield 52, 3) := by decide +kernel
theorem dX2_same_52 : decode cX2_same 52 = .ok (.if_icmp .ne 22, 3) := by decide +kernel
theorem dX2_same_55 : decode cX2_same 55 = .ok (.aload_n 3, 1) := by decide +kernel
theorem dX2_same_56 : decode cX2_same 56 = .ok (.getfield 23, 3) := by decide +kernel
theorem dX2_same_59 : decode cX2_same 59 = .ok (.aload 4, 2) := by decide +kernel
theorem dX2_same_61 : decode cX2_same 61 = .ok (.getfield 23, 3) := by decide +kernel
theorem dX2_same_64 : decode cX2_same 64 = .ok (.invokevirtual 127, 3) := by decide +kernel
theorem dX2_same_67 : decode cX2_same 67 = .ok (.ifCond .ne 7, 3) := by decide +kernel
theorem dX2_same_70 : decode cX2_same 70 = .ok (.iconst 1, 1) := by decide +kernel
theorem dX2_same_71 : decode cX2_same 71 = .ok (.goto 4, 3) := by decide +kernel
theorem dX2_same_74 : decode cX2_same 74 = .ok (.iconst 0, 1) := by decide +kernel
theorem dX2_same_75 : decode cX2_same 75 = .ok (.ireturn, 1) := by decide +kernel
set_option maxRecDepth 20000 in
theorem ggX2_look_X2_isRegister : GoodIn wsX2_look wsX2_isRegister := goodIn_r _ [7] (by decide +kernel) (by decide +kernel)
set_option maxRecDepth 20000 in
theorem gX2_look_X2_isRegister : GoodIn wsX2_look (va_wsS RX2 48 yX2_isRegister wsX2_isRegister) := goodIn_app (goodIn_of _ (by decide +kernel)) ggX2_look_X2_isRegister
set_option maxRecDepth 20000 in
theorem ggX2_look_X0_sign : GoodIn wsX2_look wsX0_sign := goodIn_r _ [12, 13, 14, 15, 16, 17, 18, 19, 20, 43, 44, 45, 46, 47] (by decide +kernel) (by decide +kernel)
set_option maxRecDepth 20000 in
theorem gX2_look_X0_sign : GoodIn wsX2_look (wsV RX2 130 RX0 yX0_sign wsX0_sign) := goodIn_app (goodIn_of _ (by decide +kernel)) ggX2_look_X0_sign
set_option maxRecDepth 20000 in
theorem ggX2_look_X1_precision : GoodIn wsX2_look wsX1_precision := goodIn_r _ [24, 20, 25, 26, 27, 28, 29, 30, 31, 18, 32, 33, 34, 35, 46, 47] (by decide +kernel) (by decide +kernel)
set_option maxRecDepth 20000 in
theorem gX2_look_X1_precision : GoodIn wsX2_look (wsV RX2 114 RX1 yX1_precision wsX1_precision) := goodIn_app (goodIn_of _ (by decide +kernel)) ggX2_look_X1_precision
theorem dX2_look_0 : decode cX2_look 0 = .ok (.iload_n 2, 1) := by decide +kernel
theorem dX2_look_1 : decode cX2_look 1 = .ok (.invokestatic 48, 3) := by decide +kernel
theorem dX2_look_4 : decode cX2_look 4 = .ok (.ifCond .ne 16, 3) := by decide +kernel
theorem dX2_look_7 : decode cX2_look 7 = .ok (.iload_n 1, 1) := by decide +kernel
theorem dX2_look_8 : decode cX2_look 8 = .ok (.iconst 2, 1) := by decide +kernel
theorem dX2_look_9 : decode cX2_look 9 = .ok (.if_icmp .ne 9, 3) := by decide +kernel
theorem dX2_look_12 : decode cX2_look 12 = .ok (.sipush 1000, 3) := by decide +kernel
theorem dX2_look_15 : decode cX2_look 15 = .ok (.goto 4, 3) := by decide +kernel
theorem dX2_look_18 : decode cX2_look 18 = .ok (.iconst (-1), 1) := by decide +kernel
theorem dX2_look_19 : decode cX2_look 19 = .ok (.ireturn, 1) := by decide +kernel
theorem dX2_look_20 : decode cX2_look 20 = .ok (.iload_n 1, 1) := by decide +kernel
theorem dX2_look_21 : decode cX2_look 21 = .ok (.tableswitch 60 0 2 #[27, 37, 50], 27) := by decide +kernel
theorem dX2_look_48 : decode cX2_look 48 = .ok (.aload_n 0, 1) := by decide +kernel
theorem dX2_look_49 : decode cX2_look 49 = .ok (.getfield 11, 3) := by decide +kernel
theorem dX2_look_52 : decode cX2_look 52 = .ok (.iload_n 2, 1) := by decide +kernel
theorem dX2_look_53 : decode cX2_look 53 = .ok (.aaload, 1) := by decide +kernel
theorem dX2_look_54 : decode cX2_look 54 = .ok (.invokevirtual 130, 3) := by decide +kernel
theorem dX2_look_57 : decode cX2_look 57 = .ok (.ireturn, 1) := by decide +kernel
theorem dX2_look_58 : decode cX2_look 58 = .ok (.aload_n 0, 1) := by decide +kernel
theorem dX2_look_59 : decode cX2_look 59 = .ok (.getfield 11, 3) := by decide +kernel
theorem dX2_look_62 : decode cX2_look 62 = .ok (.iload_n 2, 1) := by decide +kernel
theorem dX2_look_63 : decode cX2_look 63 = .ok (.aaload, 1) := by decide +kernel
theorem dX2_look_64 : decode cX2_look 64 = .ok (.getfield 23, 3) := by decide +kernel
theorem dX2_look_67 : decode cX2_look 67 = .ok (.invokevirtual 114, 3) := by decide +kernel
theorem dX2_look_70 : decode cX2_look 70 = .ok (.ireturn, 1) := by decide +kernel
theorem dX2_look_71 : decode cX2_look 71 = .ok (.aload_n 0, 1) := by decide +kernel
theorem dX2_look_72 : decode cX2_look 72 = .ok (.getfield 11, 3) := by decide +kernel
theorem dX2_look_75 : decode cX2_look 75 = .ok (.iload_n 2, 1) := by decide +kernel
theorem dX2_look_76 : decode cX2_look 76 = .ok (.aaload, 1) := by decide +kernel
theorem dX2_look_77 : decode cX2_look 77 = .ok (.getfield 56, 3) := by decide +kernel
theorem dX2_look_80 : decode cX2_look 80 = .ok (.ireturn, 1) := by decide +kernel
theorem dX2_look_81 : decode cX2_look 81 = .ok (.iconst (-1), 1) := by decide +kernel
theorem dX2_look_82 : decode cX2_look 82 = .ok (.ireturn, 1) := by decide +kernel
set_option maxRecDepth 20000 in
theorem ggX2_digit_X2_isRegister : GoodIn wsX2_digit wsX2_isRegister := goodIn_r _ [6] (by decide +kernel) (by decide +kernel)
set_option maxRecDepth 20000 in
theorem gX2_digit_X2_isRegister : GoodIn wsX2_digit (va_wsS RX2 48 yX2_isRegister wsX2_isRegister) := goodIn_app (goodIn_of _ (by decide +kernel)) ggX2_digit_X2_isRegister
set_option maxRecDepth 20000 in
theorem ggX2_digit_X1_precision : GoodIn wsX2_digit wsX1_precision := goodIn_r _ [11, 12, 13, 14, 15, 16, 17, 18, 19, 10, 20, 21, 22, 23, 35, 36] (by decide +kernel) (by decide +kernel)
set_option maxRecDepth 20000 in
theorem gX2_digit_X1_precision : GoodIn wsX2_digit (wsV RX2 114 RX1 yX1_precision wsX1_precision) := goodIn_app (goodIn_of _ (by decide +kernel)) ggX2_digit_X1_precision
set_option maxRecDepth 20000 in
theorem ggX2_digit_X1_figure : GoodIn wsX2_digit wsX1_figure := goodIn_r _ [20, 12, 21, 22, 23, 35, 36] (by decide +kernel) (by decide +kernel)
set_option maxRecDepth 20000 in
theorem gX2_digit_X1_figure : GoodIn wsX2_digit (wsV RX2 133 RX1 yX1_figure wsX1_figure) := goodIn_app (goodIn_of _ (by decide +kernel)) ggX2_digit_X1_figure
theorem dX2_digit_0 : decode cX2_digit 0 = .ok (.iload_n 1, 1) := by decide +kernel
theorem dX2_digit_1 : decode cX2_digit 1 = .ok (.invokestatic 48, 3) := by decide +kernel
theorem dX2_digit_4 : decode cX2_digit 4 = .ok (.ifCond .eq 23, 3) := by decide +kernel
theorem dX2_digit_7 : decode cX2_digit 7 = .ok (.iload_n 2, 1) := by decide +kernel
theorem dX2_digit_8 : decode cX2_digit 8 = .ok (.ifCond .lt 19, 3) := by decide +kernel
theorem dX2_digit_11 : decode cX2_digit 11 = .ok (.iload_n 2, 1) := by decide +kernel
theorem dX2_digit_12 : decode cX2_digit 12 = .ok (.aload_n 0, 1) := by decide +kernel
theorem dX2_digit_13 : decode cX2_digit 13 = .ok (.getfield 11, 3) := by decide +kernel
theorem dX2_digit_16 : decode cX2_digit 16 = .ok (.iload_n 1, 1) := by decide +kernel
theorem dX2_digit_17 : decode cX2_digit 17 = .ok (.aaload, 1) := by decide +kernel
theorem dX2_digit_18 : decode cX2_digit 18 = .ok (.getfield 23, 3) := by decide +kernel
theorem dX2_digit_21 : decode cX2_digit 21 = .ok (.invokevirtual 114, 3) := by decide +kernel
theorem dX2_digit_24 : decode cX2_digit 24 = .ok (.if_icmp .lt 5, 3) := by decide +kernel
theorem dX2_digit_27 : decode cX2_digit 27 = .ok (.iconst (-1), 1) := by decide +kernel
theorem dX2_digit_28 : decode cX2_digit 28 = .ok (.ireturn, 1) := by decide +kernel
theorem dX2_digit_29 : decode cX2_digit 29 = .ok (.aload_n 0, 1) := by decide +kernel
theorem dX2_digit_30 : decode cX2_digit 30 = .ok (.getfield 11, 3) := by decide +kernel
theorem dX2_digit_33 : decode cX2_digit 33 = .ok (.iload_n 1, 1) := by decide +kernel
theorem dX2_digit_34 : decode cX2_digit 34 = .ok (.aaload, 1) := by decide +kernel
theorem dX2_digit_35 : decode cX2_digit 35 = .ok (.getfield 23, 3) := by decide +kernel
theorem dX2_digit_38 : decode cX2_digit 38 = .ok (.iload_n 2, 1) := by decide +kernel
theorem dX2_digit_39 : decode cX2_digit 39 = .ok (.invokevirtual 133, 3) := by decide +kernel
theorem dX2_digit_42 : decode cX2_digit 42 = .ok (.ireturn, 1) := by decide +kernel
set_option maxRecDepth 20000 in
theorem ggX2_whole_X2_isRegister : GoodIn wsX2_whole wsX2_isRegister := goodIn_r _ [9] (by decide +kernel) (by decide +kernel)
set_option maxRecDepth 20000 in
theorem gX2_whole_X2_isRegister : GoodIn wsX2_whole (va_wsS RX2 48 yX2_isRegister wsX2_isRegister) := goodIn_app (goodIn_of _ (by decide +kernel)) ggX2_whole_X2_isRegister
set_option maxRecDepth 20000 in
theorem ggX2_whole_X2_split : GoodIn wsX2_whole wsX2_split := goodIn_r _ [13, 14, 15, 3, 4, 5, 16, 17, 18, 19, 8, 20, 21, 22, 23, 24, 25, 26, 27, 28, 29, 30, 31, 32, 33, 34, 35, 36, 37, 38, 39, 40, 41, 42, 43, 44, 45, 46, 47, 48, 49, 50, 51, 52, 53, 54, 55, 56, 57, 58, 59, 60, 61, 62, 63, 64, 65, 66, 67, 68, 69, 70, 75, 76, 77, 78, 79, 80, 81, 82, 83, 84, 85, 86] (by decide +kernel) (by decide +kernel)
set_option maxRecDepth 20000 in
theorem gX2_whole_X2_split : GoodIn wsX2_whole (wsV RX2 106 RX2 yX2_split wsX2_split) := goodIn_app (goodIn_of _ (by decide +kernel)) ggX2_whole_X2_split
set_option maxRecDepth 20000 in
theorem ggX2_whole_X1_lowestBits : GoodIn wsX2_whole wsX1_lowestBits := goodIn_r _ [74, 31, 37, 26, 85, 86] (by decide +kernel) (by decide +kernel)
set_option maxRecDepth 20000 in
theorem gX2_whole_X1_lowestBits : GoodIn wsX2_whole (wsV RX2 136 RX1 yX1_lowestBits wsX1_lowestBits) := goodIn_app (goodIn_of _ (by decide +kernel)) ggX2_whole_X1_lowestBits
theorem dX2_whole_0 : decode cX2_whole 0 = .ok (.iload_n 1, 1) := by decide +kernel
theorem dX2_whole_1 : decode cX2_whole 1 = .ok (.invokestatic 48, 3) := by decide +kernel
theorem dX2_whole_4 : decode cX2_whole 4 = .ok (.ifCond .ne 5, 3) := by decide +kernel
theorem dX2_whole_7 : decode cX2_whole 7 = .ok (.lconst 0, 1) := by decide +kernel
theorem dX2_whole_8 : decode cX2_whole 8 = .ok (.lreturn, 1) := by decide +kernel
theorem dX2_whole_9 : decode cX2_whole 9 = .ok (.aload_n 0, 1) := by decide +kernel
theorem dX2_whole_10 : decode cX2_whole 10 = .ok (.aload_n 0, 1) := by decide +kernel
theorem dX2_whole_11 : decode cX2_whole 11 = .ok (.getfield 11, 3) := by decide +kernel
theorem dX2_whole_14 : decode cX2_whole 14 = .ok (.iload_n 1, 1) := by decide +kernel
theorem dX2_whole_15 : decode cX2_whole 15 = .ok (.aaload, 1) := by decide +kernel
theorem dX2_whole_16 : decode cX2_whole 16 = .ok (.aload_n 0, 1) := by decide +kernel
theorem dX2_whole_17 : decode cX2_whole 17 = .ok (.getfield 20, 3) := by decide +kernel
theorem dX2_whole_20 : decode cX2_whole 20 = .ok (.iconst 0, 1) := by decide +kernel
theorem dX2_whole_21 : decode cX2_whole 21 = .ok (.invokevirtual 106, 3) := by decide +kernel
theorem dX2_whole_24 : decode cX2_whole 24 = .ok (.aload_n 0, 1) := by decide +kernel
theorem dX2_whole_25 : decode cX2_whole 25 = .ok (.getfield 16, 3) := by decide +kernel
theorem dX2_whole_28 : decode cX2_whole 28 = .ok (.getfield 23, 3) := by decide +kernel
theorem dX2_whole_31 : decode cX2_whole 31 = .ok (.invokevirtual 136, 3) := by decide +kernel
theorem dX2_whole_34 : decode cX2_whole 34 = .ok (.lstore_n 2, 1) := by decide +kernel
theorem dX2_whole_35 : decode cX2_whole 35 = .ok (.aload_n 0, 1) := by decide +kernel
theorem dX2_whole_36 : decode cX2_whole 36 = .ok (.getfield 16, 3) := by decide +kernel
theorem dX2_whole_39 : decode cX2_whole 39 = .ok (.getfield 52, 3) := by decide +kernel
theorem dX2_whole_42 : decode cX2_whole 42 = .ok (.ifCond .eq 8, 3) := by decide +kernel
theorem dX2_whole_45 : decode cX2_whole 45 = .ok (.lload_n 2, 1) := by decide +kernel
theorem dX2_whole_46 : decode cX2_whole 46 = .ok (.lneg, 1) := by decide +kernel
theorem dX2_whole_47 : decode cX2_whole 47 = .ok (.goto 4, 3) := by decide +kernel
theorem dX2_whole_50 : decode cX2_whole 50 = .ok (.lload_n 2, 1) := by decide +kernel
theorem dX2_whole_51 : decode cX2_whole 51 = .ok (.lreturn, 1) := by decide +kernel
set_option maxRecDepth 20000 in
theorem ggX2_write_X2_isRegister : GoodIn wsX2_write wsX2_isRegister := goodIn_r _ [9] (by decide +kernel) (by decide +kernel)
set_option maxRecDepth 20000 in
theorem gX2_write_X2_isRegister : GoodIn wsX2_write (va_wsS RX2 48 yX2_isRegister wsX2_isRegister) := goodIn_app (goodIn_of _ (by decide +kernel)) ggX2_write_X2_isRegister
set_option maxRecDepth 20000 in
theorem ggX2_write_X2_append : GoodIn wsX2_write wsX2_append := goodIn_r _ [13, 2, 14, 46, 47, 48, 49, 50, 51, 52] (by decide +kernel) (by decide +kernel)
set_option maxRecDepth 20000 in
theorem gX2_write_X2_append : GoodIn wsX2_write (wsV RX2 140 RX2 yX2_append wsX2_append) := goodIn_app (goodIn_of _ (by decide +kernel)) ggX2_write_X2_append
set_option maxRecDepth 20000 in
theorem ggX2_write_X2_appendFigures : GoodIn wsX2_write wsX2_appendFigures := goodIn_r _ [18, 4, 5, 19, 20, 21, 22, 23, 24, 25, 26, 27, 28, 29, 30, 31, 32, 33, 34, 35, 36, 37, 10, 11, 12, 8, 13, 2, 14, 53, 54, 55, 56, 57, 46, 47, 48, 49, 50, 51, 52] (by decide +kernel) (by decide +kernel)
set_option maxRecDepth 20000 in
theorem gX2_write_X2_appendFigures : GoodIn wsX2_write (wsV RX2 144 RX2 yX2_appendFigures wsX2_appendFigures) := goodIn_app (goodIn_of _ (by decide +kernel)) ggX2_write_X2_appendFigures
set_option maxRecDepth 20000 in
theorem ggX2_write_X1_isZero : GoodIn wsX2_write wsX1_isZero := goodIn_r _ [41, 28, 56, 57] (by decide +kernel) (by decide +kernel)
set_option maxRecDepth 20000 in
theorem gX2_write_X1_isZero : GoodIn wsX2_write (wsV RX2 92 RX1 yX1_isZero wsX1_isZero) := goodIn_app (goodIn_of _ (by decide +kernel)) ggX2_write_X1_isZero
set_option maxRecDepth 20000 in
theorem ggX2_write_X2_appendZeros : GoodIn wsX2_write wsX2_appendZeros := goodIn_r _ [45, 10, 11, 12, 8, 13, 2, 14, 46, 47, 48, 49, 50, 51, 52] (by decide +kernel) (by decide +kernel)
set_option maxRecDepth 20000 in
theorem gX2_write_X2_appendZeros : GoodIn wsX2_write (wsV RX2 147 RX2 yX2_appendZeros wsX2_appendZeros) := goodIn_app (goodIn_of _ (by decide +kernel)) ggX2_write_X2_appendZeros
theorem dX2_write_0 : decode cX2_write 0 = .ok (.iload_n 1, 1) := by decide +kernel
theorem dX2_write_1 : decode cX2_write 1 = .ok (.invokestatic 48, 3) := by decide +kernel
theorem dX2_write_4 : decode cX2_write 4 = .ok (.ifCond .ne 5, 3) := by decide +kernel
theorem dX2_write_7 : decode cX2_write 7 = .ok (.iconst (-1), 1) := by decide +kernel
theorem dX2_write_8 : decode cX2_write 8 = .ok (.ireturn, 1) := by decide +kernel
theorem dX2_write_9 : decode cX2_write 9 = .ok (.aload_n 0, 1) := by decide +kernel
theorem dX2_write_10 : decode cX2_write 10 = .ok (.getfield 11, 3) := by decide +kernel
theorem dX2_write_13 : decode cX2_write 13 = .ok (.iload_n 1, 1) := by decide +kernel
theorem dX2_write_14 : decode cX2_write 14 = .ok (.aaload, 1) := by decide +kernel
theorem dX2_write_15 : decode cX2_write 15 = .ok (.astore_n 2, 1) := by decide +kernel
theorem dX2_write_16 : decode cX2_write 16 = .ok (.aload_n 0, 1) := by decide +kernel
theorem dX2_write_17 : decode cX2_write 17 = .ok (.iconst 0, 1) := by decide +kernel
theorem dX2_write_18 : decode cX2_write 18 = .ok (.putfield 44, 3) := by decide +kernel
theorem dX2_write_21 : decode cX2_write 21 = .ok (.aload_n 2, 1) := by decide +kernel
theorem dX2_write_22 : decode cX2_write 22 = .ok (.getfield 52, 3) := by decide +kernel
theorem dX2_write_25 : decode cX2_write 25 = .ok (.ifCond .eq 9, 3) := by decide +kernel
theorem dX2_write_28 : decode cX2_write 28 = .ok (.aload_n 0, 1) := by decide +kernel
theorem dX2_write_29 : decode cX2_write 29 = .ok (.bipush 45, 2) := by decide +kernel
theorem dX2_write_31 : decode cX2_write 31 = .ok (.invokevirtual 140, 3) := by decide +kernel
theorem dX2_write_34 : decode cX2_write 34 = .ok (.aload_n 0, 1) := by decide +kernel
theorem dX2_write_35 : decode cX2_write 35 = .ok (.aload_n 2, 1) := by decide +kernel
theorem dX2_write_36 : decode cX2_write 36 = .ok (.invokevirtual 144, 3) := by decide +kernel
theorem dX2_write_39 : decode cX2_write 39 = .ok (.aload_n 2, 1) := by decide +kernel
theorem dX2_write_40 : decode cX2_write 40 = .ok (.getfield 23, 3) := by decide +kernel
theorem dX2_write_43 : decode cX2_write 43 = .ok (.invokevirtual 92, 3) := by decide +kernel
theorem dX2_write_46 : decode cX2_write 46 = .ok (.ifCond .ne 12, 3) := by decide +kernel
theorem dX2_write_49 : decode cX2_write 49 = .ok (.aload_n 0, 1) := by decide +kernel
theorem dX2_write_50 : decode cX2_write 50 = .ok (.aload_n 2, 1) := by decide +kernel
theorem dX2_write_51 : decode cX2_write 51 = .ok (.getfield 56, 3) := by decide +kernel
theorem dX2_write_54 : decode cX2_write 54 = .ok (.ineg, 1) := by decide +kernel
theorem dX2_write_55 : decode cX2_write 55 = .ok (.invokevirtual 147, 3) := by decide +kernel
theorem dX2_write_58 : decode cX2_write 58 = .ok (.aload_n 0, 1) := by decide +kernel
theorem dX2_write_59 : decode cX2_write 59 = .ok (.getfield 44, 3) := by decide +kernel
theorem dX2_write_62 : decode cX2_write 62 = .ok (.ireturn, 1) := by decide +kernel
theorem dX2_octet_0 : decode cX2_octet 0 = .ok (.iload_n 1, 1) := by decide +kernel
theorem dX2_octet_1 : decode cX2_octet 1 = .ok (.ifCond .lt 20, 3) := by decide +kernel
theorem dX2_octet_4 : decode cX2_octet 4 = .ok (.iload_n 1, 1) := by decide +kernel
theorem dX2_octet_5 : decode cX2_octet 5 = .ok (.aload_n 0, 1) := by decide +kernel
theorem dX2_octet_6 : decode cX2_octet 6 = .ok (.getfield 44, 3) := by decide +kernel
theorem dX2_octet_9 : decode cX2_octet 9 = .ok (.if_icmp .ge 12, 3) := by decide +kernel
theorem dX2_octet_12 : decode cX2_octet 12 = .ok (.aload_n 0, 1) := by decide +kernel
theorem dX2_octet_13 : decode cX2_octet 13 = .ok (.getfield 40, 3) := by decide +kernel
theorem dX2_octet_16 : decode cX2_octet 16 = .ok (.iload_n 1, 1) := by decide +kernel
theorem dX2_octet_17 : decode cX2_octet 17 = .ok (.caload, 1) := by decide +kernel
theorem dX2_octet_18 : decode cX2_octet 18 = .ok (.goto 4, 3) := by decide +kernel
theorem dX2_octet_21 : decode cX2_octet 21 = .ok (.iconst (-1), 1) := by decide +kernel
theorem dX2_octet_22 : decode cX2_octet 22 = .ok (.ireturn, 1) := by decide +kernel
theorem dX2_isRegister_0 : decode cX2_isRegister 0 = .ok (.iload_n 0, 1) := by decide +kernel
theorem dX2_isRegister_1 : decode cX2_isRegister 1 = .ok (.ifCond .lt 13, 3) := by decide +kernel
theorem dX2_isRegister_4 : decode cX2_isRegister 4 = .ok (.iload_n 0, 1) := by decide +kernel
theorem dX2_isRegister_5 : decode cX2_isRegister 5 = .ok (.bipush 6, 2) := by decide +kernel
theorem dX2_isRegister_7 : decode cX2_isRegister 7 = .ok (.if_icmp .ge 7, 3) := by decide +kernel
theorem dX2_isRegister_10 : decode cX2_isRegister 10 = .ok (.iconst 1, 1) := by decide +kernel
theorem dX2_isRegister_11 : decode cX2_isRegister 11 = .ok (.goto 4, 3) := by decide +kernel
theorem dX2_isRegister_14 : decode cX2_isRegister 14 = .ok (.iconst 0, 1) := by decide +kernel
theorem dX2_isRegister_15 : decode cX2_isRegister 15 = .ok (.ireturn, 1) := by decide +kernel
theorem dX2_isWay_0 : decode cX2_isWay 0 = .ok (.iload_n 0, 1) := by decide +kernel
theorem dX2_isWay_1 : decode cX2_isWay 1 = .ok (.ifCond .lt 13, 3) := by decide +kernel
theorem dX2_isWay_4 : decode cX2_isWay 4 = .ok (.iload_n 0, 1) := by decide +kernel
theorem dX2_isWay_5 : decode cX2_isWay 5 = .ok (.bipush 7, 2) := by decide +kernel
theorem dX2_isWay_7 : decode cX2_isWay 7 = .ok (.if_icmp .gt 7, 3) := by decide +kernel
theorem dX2_isWay_10 : decode cX2_isWay 10 = .ok (.iconst 1, 1) := by decide +kernel
theorem dX2_isWay_11 : decode cX2_isWay 11 = .ok (.goto 4, 3) := by decide +kernel
theorem dX2_isWay_14 : decode cX2_isWay 14 = .ok (.iconst 0, 1) := by decide +kernel
theorem dX2_isWay_15 : decode cX2_isWay 15 = .ok (.ireturn, 1) := by decide +kernel
theorem dX2_isScale_0 : decode cX2_isScale 0 = .ok (.iload_n 0, 1) := by decide +kernel
theorem dX2_isScale_1 : decode cX2_isScale 1 = .ok (.bipush (-6), 2) := by decide +kernel
theorem dX2_isScale_3 : decode cX2_isScale 3 = .ok (.if_icmp .lt 13, 3) := by decide +kernel
theorem dX2_isScale_6 : decode cX2_isScale 6 = .ok (.iload_n 0, 1) := by decide +kernel
theorem dX2_isScale_7 : decode cX2_isScale 7 = .ok (.bipush 6, 2) := by decide +kernel
theorem dX2_isScale_9 : decode cX2_isScale 9 = .ok (.if_icmp .gt 7, 3) := by decide +kernel
theorem dX2_isScale_12 : decode cX2_isScale 12 = .ok (.iconst 1, 1) := by decide +kernel
theorem dX2_isScale_13 : decode cX2_isScale 13 = .ok (.goto 4, 3) := by decide +kernel
theorem dX2_isScale_16 : decode cX2_isScale 16 = .ok (.iconst 0, 1) := by decide +kernel
theorem dX2_isScale_17 : decode cX2_isScale 17 = .ok (.ireturn, 1) := by decide +kernel
set_option maxRecDepth 20000 in
theorem ggX2_keep_X1_precision : GoodIn wsX2_keep wsX1_precision := goodIn_r _ [9, 10, 11, 12, 13, 14, 15, 16, 17, 8, 18, 19, 20, 21, 60, 61] (by decide +kernel) (by decide +kernel)
set_option maxRecDepth 20000 in
theorem gX2_keep_X1_precision : GoodIn wsX2_keep (wsV RX2 114 RX1 yX1_precision wsX1_precision) := goodIn_app (goodIn_of _ (by decide +kernel)) ggX2_keep_X1_precision
set_option maxRecDepth 20000 in
theorem ggX2_keep_X2_isScale : GoodIn wsX2_keep wsX2_isScale := goodIn_r _ [25] (by decide +kernel) (by decide +kernel)
set_option maxRecDepth 20000 in
theorem gX2_keep_X2_isScale : GoodIn wsX2_keep (va_wsS RX2 150 yX2_isScale wsX2_isScale) := goodIn_app (goodIn_of _ (by decide +kernel)) ggX2_keep_X2_isScale
set_option maxRecDepth 20000 in
theorem ggX2_keep_X0_become : GoodIn wsX2_keep wsX0_become := goodIn_r _ [30, 31, 32, 33, 34, 35, 36, 29, 37, 38, 39, 40, 8, 41, 19, 42, 43, 44, 45, 10, 46, 47, 48, 49, 57, 58, 59, 60, 61] (by decide +kernel) (by decide +kernel)
set_option maxRecDepth 20000 in
theorem gX2_keep_X0_become : GoodIn wsX2_keep (wsV RX2 63 RX0 yX0_become wsX0_become) := goodIn_app (goodIn_of _ (by decide +kernel)) ggX2_keep_X0_become
theorem dX2_keep_0 : decode cX2_keep 0 = .ok (.aload_n 0, 1) := by decide +kernel
theorem dX2_keep_1 : decode cX2_keep 1 = .ok (.getfield 16, 3) := by decide +kernel
theorem dX2_keep_4 : decode cX2_keep 4 = .ok (.getfield 23, 3) := by decide +kernel
theorem dX2_keep_7 : decode cX2_keep 7 = .ok (.invokevirtual 114, 3) := by decide +kernel
theorem dX2_keep_10 : decode cX2_keep 10 = .ok (.istore_n 2, 1) := by decide +kernel
theorem dX2_keep_11 : decode cX2_keep 11 = .ok (.iload_n 2, 1) := by decide +kernel
theorem dX2_keep_12 : decode cX2_keep 12 = .ok (.sipush 190, 3) := by decide +kernel
theorem dX2_keep_15 : decode cX2_keep 15 = .ok (.if_icmp .gt 16, 3) := by decide +kernel
theorem dX2_keep_18 : decode cX2_keep 18 = .ok (.aload_n 0, 1) := by decide +kernel
theorem dX2_keep_19 : decode cX2_keep 19 = .ok (.getfield 16, 3) := by decide +kernel
theorem dX2_keep_22 : decode cX2_keep 22 = .ok (.getfield 56, 3) := by decide +kernel
theorem dX2_keep_25 : decode cX2_keep 25 = .ok (.invokestatic 150, 3) := by decide +kernel
theorem dX2_keep_28 : decode cX2_keep 28 = .ok (.ifCond .ne 6, 3) := by decide +kernel
theorem dX2_keep_31 : decode cX2_keep 31 = .ok (.bipush (-3), 2) := by decide +kernel
theorem dX2_keep_33 : decode cX2_keep 33 = .ok (.ireturn, 1) := by decide +kernel
theorem dX2_keep_34 : decode cX2_keep 34 = .ok (.aload_n 0, 1) := by decide +kernel
theorem dX2_keep_35 : decode cX2_keep 35 = .ok (.getfield 11, 3) := by decide +kernel
theorem dX2_keep_38 : decode cX2_keep 38 = .ok (.iload_n 1, 1) := by decide +kernel
theorem dX2_keep_39 : decode cX2_keep 39 = .ok (.aaload, 1) := by decide +kernel
theorem dX2_keep_40 : decode cX2_keep 40 = .ok (.aload_n 0, 1) := by decide +kernel
theorem dX2_keep_41 : decode cX2_keep 41 = .ok (.getfield 16, 3) := by decide +kernel
theorem dX2_keep_44 : decode cX2_keep 44 = .ok (.invokevirtual 63, 3) := by decide +kernel
theorem dX2_keep_47 : decode cX2_keep 47 = .ok (.iload_n 2, 1) := by decide +kernel
theorem dX2_keep_48 : decode cX2_keep 48 = .ok (.ireturn, 1) := by decide +kernel
set_option maxRecDepth 20000 in
theorem ggX2_keepQuotient_X2_isScale : GoodIn wsX2_keepQuotient wsX2_isScale := goodIn_r _ [4] (by decide +kernel) (by decide +kernel)
set_option maxRecDepth 20000 in
theorem gX2_keepQuotient_X2_isScale : GoodIn wsX2_keepQuotient (va_wsS RX2 150 yX2_isScale wsX2_isScale) := goodIn_app (goodIn_of _ (by decide +kernel)) ggX2_keepQuotient_X2_isScale
set_option maxRecDepth 20000 in
theorem ggX2_keepQuotient_X2_split : GoodIn wsX2_keepQuotient wsX2_split := goodIn_r _ [8, 9, 10, 11, 12, 13, 14, 15, 16, 17, 3, 18, 19, 20, 21, 22, 23, 24, 25, 26, 27, 28, 29, 30, 31, 32, 33, 34, 35, 36, 37, 38, 39, 40, 41, 42, 43, 44, 45, 46, 47, 48, 49, 50, 51, 52, 53, 54, 55, 56, 57, 58, 59, 60, 61, 62, 63, 64, 65, 66, 67, 68, 123, 124, 125, 126, 127, 128, 129, 130, 131, 132, 133, 134] (by decide +kernel) (by decide +kernel)
set_option maxRecDepth 20000 in
theorem gX2_keepQuotient_X2_split : GoodIn wsX2_keepQuotient (wsV RX2 106 RX2 yX2_split wsX2_split) := goodIn_app (goodIn_of _ (by decide +kernel)) ggX2_keepQuotient_X2_split
set_option maxRecDepth 20000 in
theorem ggX2_keepQuotient_X2_settle : GoodIn wsX2_keepQuotient wsX2_settle := goodIn_r _ [72, 9, 10, 11, 12, 73, 74, 75, 76, 22, 77, 29, 78, 79, 80, 81, 82, 83, 84, 85, 24, 35, 36, 37, 38, 39, 86, 87, 88, 89, 90, 91, 92, 3, 93, 13, 94, 95, 96, 97, 34, 98, 123, 124, 125, 126, 127, 128, 129, 130, 131, 132, 133, 134] (by decide +kernel) (by decide +kernel)
set_option maxRecDepth 20000 in
theorem gX2_keepQuotient_X2_settle : GoodIn wsX2_keepQuotient (wsV RX2 121 RX2 yX2_settle wsX2_settle) := goodIn_app (goodIn_of _ (by decide +kernel)) ggX2_keepQuotient_X2_settle
set_option maxRecDepth 20000 in
theorem ggX2_keepQuotient_X2_keep : GoodIn wsX2_keepQuotient wsX2_keep := goodIn_r _ [102, 11, 12, 14, 103, 104, 105, 106, 22, 107, 29, 82, 83, 84, 85, 108, 95, 96, 97, 24, 34, 98, 1, 2, 3, 4, 109, 110, 111, 112, 113, 114, 115, 116, 117, 118, 119, 120, 121, 20, 21, 23, 25, 26, 27, 28, 122, 75, 76, 77, 123, 124, 125, 126, 127, 128, 129, 130, 131, 132, 133, 134] (by decide +kernel) (by decide +kernel)
set_option maxRecDepth 20000 in
theorem gX2_keepQuotient_X2_keep : GoodIn wsX2_keepQuotient (wsV RX2 59 RX2 yX2_keep wsX2_keep) := goodIn_app (goodIn_of _ (by decide +kernel)) ggX2_keepQuotient_X2_keep
theorem dX2_keepQuotient_0 : decode cX2_keepQuotient 0 = .ok (.iload 4, 2) := by decide +kernel
theorem dX2_keepQuotient_2 : decode cX2_keepQuotient 2 = .ok (.invokestatic 150, 3) := by decide +kernel
theorem dX2_keepQuotient_5 : decode cX2_keepQuotient 5 = .ok (.ifCond .ne 6, 3) := by decide +kernel
theorem dX2_keepQuotient_8 : decode cX2_keepQuotient 8 = .ok (.bipush (-3), 2) := by decide +kernel
theorem dX2_keepQuotient_10 : decode cX2_keepQuotient 10 = .ok (.ireturn, 1) := by decide +kernel
theorem dX2_keepQuotient_11 : decode cX2_keepQuotient 11 = .ok (.aload_n 0, 1) := by decide +kernel
theorem dX2_keepQuotient_12 : decode cX2_keepQuotient 12 = .ok (.aload_n 2, 1) := by decide +kernel
theorem dX2_keepQuotient_13 : decode cX2_keepQuotient 13 = .ok (.aload_n 3, 1) := by decide +kernel
theorem dX2_keepQuotient_14 : decode cX2_keepQuotient 14 = .ok (.iload 4, 2) := by decide +kernel
theorem dX2_keepQuotient_16 : decode cX2_keepQuotient 16 = .ok (.invokevirtual 106, 3) := by decide +kernel
theorem dX2_keepQuotient_19 : decode cX2_keepQuotient 19 = .ok (.aload_n 0, 1) := by decide +kernel
theorem dX2_keepQuotient_20 : decode cX2_keepQuotient 20 = .ok (.iload 5, 2) := by decide +kernel
theorem dX2_keepQuotient_22 : decode cX2_keepQuotient 22 = .ok (.invokevirtual 121, 3) := by decide +kernel
theorem dX2_keepQuotient_25 : decode cX2_keepQuotient 25 = .ok (.ifCond .eq 11, 3) := by decide +kernel
theorem dX2_keepQuotient_28 : decode cX2_keepQuotient 28 = .ok (.aload_n 0, 1) := by decide +kernel
theorem dX2_keepQuotient_29 : decode cX2_keepQuotient 29 = .ok (.iload_n 1, 1) := by decide +kernel
theorem dX2_keepQuotient_30 : decode cX2_keepQuotient 30 = .ok (.invokevirtual 59, 3) := by decide +kernel
theorem dX2_keepQuotient_33 : decode cX2_keepQuotient 33 = .ok (.goto 5, 3) := by decide +kernel
theorem dX2_keepQuotient_36 : decode cX2_keepQuotient 36 = .ok (.bipush (-4), 2) := by decide +kernel
theorem dX2_keepQuotient_38 : decode cX2_keepQuotient 38 = .ok (.ireturn, 1) := by decide +kernel
set_option maxRecDepth 20000 in
theorem ggX2_align_X1_become : GoodIn wsX2_align wsX1_become := goodIn_r _ [9, 10, 11, 12, 13, 14, 15, 40, 41] (by decide +kernel) (by decide +kernel)
set_option maxRecDepth 20000 in
theorem gX2_align_X1_become : GoodIn wsX2_align (wsV RX2 153 RX1 yX1_become wsX1_become) := goodIn_app (goodIn_of _ (by decide +kernel)) ggX2_align_X1_become
set_option maxRecDepth 20000 in
theorem ggX2_align_X1_raise : GoodIn wsX2_align wsX1_raise := goodIn_r _ [19, 15, 20, 10, 21, 22, 23, 24, 8, 25, 26, 27, 28, 29, 40, 41] (by decide +kernel) (by decide +kernel)
set_option maxRecDepth 20000 in
theorem gX2_align_X1_raise : GoodIn wsX2_align (wsV RX2 67 RX1 yX1_raise wsX1_raise) := goodIn_app (goodIn_of _ (by decide +kernel)) ggX2_align_X1_raise
theorem dX2_align_0 : decode cX2_align 0 = .ok (.iload_n 3, 1) := by decide +kernel
theorem dX2_align_1 : decode cX2_align 1 = .ok (.aload_n 2, 1) := by decide +kernel
theorem dX2_align_2 : decode cX2_align 2 = .ok (.getfield 56, 3) := by decide +kernel
theorem dX2_align_5 : decode cX2_align 5 = .ok (.iadd, 1) := by decide +kernel
theorem dX2_align_6 : decode cX2_align 6 = .ok (.aload_n 1, 1) := by decide +kernel
theorem dX2_align_7 : decode cX2_align 7 = .ok (.getfield 56, 3) := by decide +kernel
theorem dX2_align_10 : decode cX2_align 10 = .ok (.isub, 1) := by decide +kernel
theorem dX2_align_11 : decode cX2_align 11 = .ok (.istore 4, 2) := by decide +kernel
theorem dX2_align_13 : decode cX2_align 13 = .ok (.aload_n 0, 1) := by decide +kernel
theorem dX2_align_14 : decode cX2_align 14 = .ok (.getfield 34, 3) := by decide +kernel
theorem dX2_align_17 : decode cX2_align 17 = .ok (.aload_n 1, 1) := by decide +kernel
theorem dX2_align_18 : decode cX2_align 18 = .ok (.getfield 23, 3) := by decide +kernel
theorem dX2_align_21 : decode cX2_align 21 = .ok (.invokevirtual 153, 3) := by decide +kernel
theorem dX2_align_24 : decode cX2_align 24 = .ok (.aload_n 0, 1) := by decide +kernel
theorem dX2_align_25 : decode cX2_align 25 = .ok (.getfield 37, 3) := by decide +kernel
theorem dX2_align_28 : decode cX2_align 28 = .ok (.aload_n 2, 1) := by decide +kernel
theorem dX2_align_29 : decode cX2_align 29 = .ok (.getfield 23, 3) := by decide +kernel
theorem dX2_align_32 : decode cX2_align 32 = .ok (.invokevirtual 153, 3) := by decide +kernel
theorem dX2_align_35 : decode cX2_align 35 = .ok (.iload 4, 2) := by decide +kernel
theorem dX2_align_37 : decode cX2_align 37 = .ok (.ifCond .le 15, 3) := by decide +kernel
theorem dX2_align_40 : decode cX2_align 40 = .ok (.aload_n 0, 1) := by decide +kernel
theorem dX2_align_41 : decode cX2_align 41 = .ok (.getfield 34, 3) := by decide +kernel
theorem dX2_align_44 : decode cX2_align 44 = .ok (.iload 4, 2) := by decide +kernel
theorem dX2_align_46 : decode cX2_align 46 = .ok (.invokevirtual 67, 3) := by decide +kernel
theorem dX2_align_49 : decode cX2_align 49 = .ok (.goto 13, 3) := by decide +kernel
theorem dX2_align_52 : decode cX2_align 52 = .ok (.aload_n 0, 1) := by decide +kernel
theorem dX2_align_53 : decode cX2_align 53 = .ok (.getfield 37, 3) := by decide +kernel
theorem dX2_align_56 : decode cX2_align 56 = .ok (.iload 4, 2) := by decide +kernel
theorem dX2_align_58 : decode cX2_align 58 = .ok (.ineg, 1) := by decide +kernel
theorem dX2_align_59 : decode cX2_align 59 = .ok (.invokevirtual 67, 3) := by decide +kernel
theorem dX2_align_62 : decode cX2_align 62 = .ok (.return_, 1) := by decide +kernel
set_option maxRecDepth 20000 in
theorem ggX2_split_X2_align : GoodIn wsX2_split wsX2_align := goodIn_r _ [11, 6, 1, 4, 2, 12, 13, 14, 15, 16, 17, 18, 19, 20, 21, 22, 23, 24, 25, 26, 27, 28, 29, 30, 31, 32, 33, 34, 35, 36, 69, 70, 71, 62, 63, 64, 65, 66, 67, 68, 72, 73] (by decide +kernel) (by decide +kernel)
set_option maxRecDepth 20000 in
theorem gX2_split_X2_align : GoodIn wsX2_split (wsV RX2 155 RX2 yX2_align wsX2_align) := goodIn_app (goodIn_of _ (by decide +kernel)) ggX2_split_X2_align
set_option maxRecDepth 20000 in
theorem ggX2_split_X1_takeOut : GoodIn wsX2_split wsX1_takeOut := goodIn_r _ [40, 22, 17, 41, 42, 43, 44, 15, 45, 46, 47, 48, 49, 28, 50, 51, 52, 53, 54, 55, 56, 57, 58, 59, 60, 61, 72, 73] (by decide +kernel) (by decide +kernel)
set_option maxRecDepth 20000 in
theorem gX2_split_X1_takeOut : GoodIn wsX2_split (wsV RX2 158 RX1 yX1_takeOut wsX1_takeOut) := goodIn_app (goodIn_of _ (by decide +kernel)) ggX2_split_X1_takeOut
theorem dX2_split_0 : decode cX2_split 0 = .ok (.aload_n 0, 1) := by decide +kernel
theorem dX2_split_1 : decode cX2_split 1 = .ok (.aload_n 1, 1) := by decide +kernel
theorem dX2_split_2 : decode cX2_split 2 = .ok (.aload_n 2, 1) := by decide +kernel
theorem dX2_split_3 : decode cX2_split 3 = .ok (.iload_n 3, 1) := by decide +kernel
theorem dX2_split_4 : decode cX2_split 4 = .ok (.invokevirtual 155, 3) := by decide +kernel
theorem dX2_split_7 : decode cX2_split 7 = .ok (.aload_n 0, 1) := by decide +kernel
theorem dX2_split_8 : decode cX2_split 8 = .ok (.getfield 34, 3) := by decide +kernel
theorem dX2_split_11 : decode cX2_split 11 = .ok (.aload_n 0, 1) := by decide +kernel
theorem dX2_split_12 : decode cX2_split 12 = .ok (.getfield 37, 3) := by decide +kernel
theorem dX2_split_15 : decode cX2_split 15 = .ok (.aload_n 0, 1) := by decide +kernel
theorem dX2_split_16 : decode cX2_split 16 = .ok (.getfield 16, 3) := by decide +kernel
theorem dX2_split_19 : decode cX2_split 19 = .ok (.getfield 23, 3) := by decide +kernel
theorem dX2_split_22 : decode cX2_split 22 = .ok (.invokevirtual 158, 3) := by decide +kernel
theorem dX2_split_25 : decode cX2_split 25 = .ok (.aload_n 0, 1) := by decide +kernel
theorem dX2_split_26 : decode cX2_split 26 = .ok (.getfield 16, 3) := by decide +kernel
theorem dX2_split_29 : decode cX2_split 29 = .ok (.aload_n 1, 1) := by decide +kernel
theorem dX2_split_30 : decode cX2_split 30 = .ok (.getfield 52, 3) := by decide +kernel
theorem dX2_split_33 : decode cX2_split 33 = .ok (.aload_n 2, 1) := by decide +kernel
theorem dX2_split_34 : decode cX2_split 34 = .ok (.getfield 52, 3) := by decide +kernel
theorem dX2_split_37 : decode cX2_split 37 = .ok (.if_icmp .eq 7, 3) := by decide +kernel
theorem dX2_split_40 : decode cX2_split 40 = .ok (.iconst 1, 1) := by decide +kernel
theorem dX2_split_41 : decode cX2_split 41 = .ok (.goto 4, 3) := by decide +kernel
theorem dX2_split_44 : decode cX2_split 44 = .ok (.iconst 0, 1) := by decide +kernel
theorem dX2_split_45 : decode cX2_split 45 = .ok (.putfield 52, 3) := by decide +kernel
theorem dX2_split_48 : decode cX2_split 48 = .ok (.aload_n 0, 1) := by decide +kernel
theorem dX2_split_49 : decode cX2_split 49 = .ok (.getfield 16, 3) := by decide +kernel
theorem dX2_split_52 : decode cX2_split 52 = .ok (.iload_n 3, 1) := by decide +kernel
theorem dX2_split_53 : decode cX2_split 53 = .ok (.putfield 56, 3) := by decide +kernel
theorem dX2_split_56 : decode cX2_split 56 = .ok (.return_, 1) := by decide +kernel
set_option maxRecDepth 20000 in
theorem ggX2_settle_X1_isZero : GoodIn wsX2_settle wsX1_isZero := goodIn_r _ [10, 11, 52, 53] (by decide +kernel) (by decide +kernel)
set_option maxRecDepth 20000 in
theorem gX2_settle_X1_isZero : GoodIn wsX2_settle (wsV RX2 92 RX1 yX1_isZero wsX1_isZero) := goodIn_app (goodIn_of _ (by decide +kernel)) ggX2_settle_X1_isZero
set_option maxRecDepth 20000 in
theorem ggX2_settle_X1_add : GoodIn wsX2_settle wsX1_add := goodIn_r _ [15, 11, 16, 17, 18, 19, 20, 21, 22, 23, 24, 9, 25, 52, 53] (by decide +kernel) (by decide +kernel)
set_option maxRecDepth 20000 in
theorem gX2_settle_X1_add : GoodIn wsX2_settle (wsV RX2 73 RX1 yX1_add wsX1_add) := goodIn_app (goodIn_of _ (by decide +kernel)) ggX2_settle_X1_add
set_option maxRecDepth 20000 in
theorem ggX2_settle_X1_order : GoodIn wsX2_settle wsX1_order := goodIn_r _ [29, 11, 20, 52, 53] (by decide +kernel) (by decide +kernel)
set_option maxRecDepth 20000 in
theorem gX2_settle_X1_order : GoodIn wsX2_settle (wsV RX2 127 RX1 yX1_order wsX1_order) := goodIn_app (goodIn_of _ (by decide +kernel)) ggX2_settle_X1_order
set_option maxRecDepth 20000 in
theorem ggX2_settle_X2_isAwayFromZero : GoodIn wsX2_settle wsX2_isAwayFromZero := goodIn_r _ [34, 3, 35, 4, 36, 37, 38, 9, 39, 11, 20, 40, 41, 42, 43, 44, 45, 46, 47, 48, 49, 50, 51, 52, 53] (by decide +kernel) (by decide +kernel)
set_option maxRecDepth 20000 in
theorem gX2_settle_X2_isAwayFromZero : GoodIn wsX2_settle (wsV RX2 162 RX2 yX2_isAwayFromZero wsX2_isAwayFromZero) := goodIn_app (goodIn_of _ (by decide +kernel)) ggX2_settle_X2_isAwayFromZero
theorem dX2_settle_0 : decode cX2_settle 0 = .ok (.aload_n 0, 1) := by decide +kernel
theorem dX2_settle_1 : decode cX2_settle 1 = .ok (.getfield 34, 3) := by decide +kernel
theorem dX2_settle_4 : decode cX2_settle 4 = .ok (.invokevirtual 92, 3) := by decide +kernel
theorem dX2_settle_7 : decode cX2_settle 7 = .ok (.ifCond .eq 5, 3) := by decide +kernel
theorem dX2_settle_10 : decode cX2_settle 10 = .ok (.iconst 1, 1) := by decide +kernel
theorem dX2_settle_11 : decode cX2_settle 11 = .ok (.ireturn, 1) := by decide +kernel
theorem dX2_settle_12 : decode cX2_settle 12 = .ok (.iload_n 1, 1) := by decide +kernel
theorem dX2_settle_13 : decode cX2_settle 13 = .ok (.bipush 7, 2) := by decide +kernel
theorem dX2_settle_15 : decode cX2_settle 15 = .ok (.if_icmp .ne 5, 3) := by decide +kernel
theorem dX2_settle_18 : decode cX2_settle 18 = .ok (.iconst 0, 1) := by decide +kernel
theorem dX2_settle_19 : decode cX2_settle 19 = .ok (.ireturn, 1) := by decide +kernel
theorem dX2_settle_20 : decode cX2_settle 20 = .ok (.aload_n 0, 1) := by decide +kernel
theorem dX2_settle_21 : decode cX2_settle 21 = .ok (.getfield 34, 3) := by decide +kernel
theorem dX2_settle_24 : decode cX2_settle 24 = .ok (.aload_n 0, 1) := by decide +kernel
theorem dX2_settle_25 : decode cX2_settle 25 = .ok (.getfield 34, 3) := by decide +kernel
theorem dX2_settle_28 : decode cX2_settle 28 = .ok (.invokevirtual 73, 3) := by decide +kernel
theorem dX2_settle_31 : decode cX2_settle 31 = .ok (.aload_n 0, 1) := by decide +kernel
theorem dX2_settle_32 : decode cX2_settle 32 = .ok (.iload_n 1, 1) := by decide +kernel
theorem dX2_settle_33 : decode cX2_settle 33 = .ok (.aload_n 0, 1) := by decide +kernel
theorem dX2_settle_34 : decode cX2_settle 34 = .ok (.getfield 34, 3) := by decide +kernel
theorem dX2_settle_37 : decode cX2_settle 37 = .ok (.aload_n 0, 1) := by decide +kernel
theorem dX2_settle_38 : decode cX2_settle 38 = .ok (.getfield 37, 3) := by decide +kernel
theorem dX2_settle_41 : decode cX2_settle 41 = .ok (.invokevirtual 127, 3) := by decide +kernel
theorem dX2_settle_44 : decode cX2_settle 44 = .ok (.invokevirtual 162, 3) := by decide +kernel
theorem dX2_settle_47 : decode cX2_settle 47 = .ok (.ifCond .eq 20, 3) := by decide +kernel
theorem dX2_settle_50 : decode cX2_settle 50 = .ok (.aload_n 0, 1) := by decide +kernel
theorem dX2_settle_51 : decode cX2_settle 51 = .ok (.getfield 16, 3) := by decide +kernel
theorem dX2_settle_54 : decode cX2_settle 54 = .ok (.getfield 23, 3) := by decide +kernel
theorem dX2_settle_57 : decode cX2_settle 57 = .ok (.aload_n 0, 1) := by decide +kernel
theorem dX2_settle_58 : decode cX2_settle 58 = .ok (.getfield 20, 3) := by decide +kernel
theorem dX2_settle_61 : decode cX2_settle 61 = .ok (.getfield 23, 3) := by decide +kernel
theorem dX2_settle_64 : decode cX2_settle 64 = .ok (.invokevirtual 73, 3) := by decide +kernel
theorem dX2_settle_67 : decode cX2_settle 67 = .ok (.iconst 1, 1) := by decide +kernel
theorem dX2_settle_68 : decode cX2_settle 68 = .ok (.ireturn, 1) := by decide +kernel
set_option maxRecDepth 20000 in
theorem ggX2_isAwayFromZero_X1_figure : GoodIn wsX2_isAwayFromZero wsX1_figure := goodIn_r _ [8, 9, 10, 11, 12, 23, 24] (by decide +kernel) (by decide +kernel)
set_option maxRecDepth 20000 in
theorem gX2_isAwayFromZero_X1_figure : GoodIn wsX2_isAwayFromZero (wsV RX2 133 RX1 yX1_figure wsX1_figure) := goodIn_app (goodIn_of _ (by decide +kernel)) ggX2_isAwayFromZero_X1_figure
theorem dX2_isAwayFromZero_0 : decode cX2_isAwayFromZero 0 = .ok (.iload_n 1, 1) := by decide +kernel
theorem dX2_isAwayFromZero_1 : decode cX2_isAwayFromZero 1 = .ok (.tableswitch 122 0 6 #[43, 45, 47, 63, 71, 81, 91], 43) := by decide +kernel
theorem dX2_isAwayFromZero_44 : decode cX2_isAwayFromZero 44 = .ok (.iconst 1, 1) := by decide +kernel
theorem dX2_isAwayFromZero_45 : decode cX2_isAwayFromZero 45 = .ok (.ireturn, 1) := by decide +kernel
theorem dX2_isAwayFromZero_46 : decode cX2_isAwayFromZero 46 = .ok (.iconst 0, 1) := by decide +kernel
theorem dX2_isAwayFromZero_47 : decode cX2_isAwayFromZero 47 = .ok (.ireturn, 1) := by decide +kernel
theorem dX2_isAwayFromZero_48 : decode cX2_isAwayFromZero 48 = .ok (.aload_n 0, 1) := by decide +kernel
theorem dX2_isAwayFromZero_49 : decode cX2_isAwayFromZero 49 = .ok (.getfield 16, 3) := by decide +kernel
theorem dX2_isAwayFromZero_52 : decode cX2_isAwayFromZero 52 = .ok (.getfield 52, 3) := by decide +kernel
theorem dX2_isAwayFromZero_55 : decode cX2_isAwayFromZero 55 = .ok (.ifCond .ne 7, 3) := by decide +kernel
theorem dX2_isAwayFromZero_58 : decode cX2_isAwayFromZero 58 = .ok (.iconst 1, 1) := by decide +kernel
theorem dX2_isAwayFromZero_59 : decode cX2_isAwayFromZero 59 = .ok (.goto 4, 3) := by decide +kernel
theorem dX2_isAwayFromZero_62 : decode cX2_isAwayFromZero 62 = .ok (.iconst 0, 1) := by decide +kernel
theorem dX2_isAwayFromZero_63 : decode cX2_isAwayFromZero 63 = .ok (.ireturn, 1) := by decide +kernel
theorem dX2_isAwayFromZero_64 : decode cX2_isAwayFromZero 64 = .ok (.aload_n 0, 1) := by decide +kernel
theorem dX2_isAwayFromZero_65 : decode cX2_isAwayFromZero 65 = .ok (.getfield 16, 3) := by decide +kernel
theorem dX2_isAwayFromZero_68 : decode cX2_isAwayFromZero 68 = .ok (.getfield 52, 3) := by decide +kernel
theorem dX2_isAwayFromZero_71 : decode cX2_isAwayFromZero 71 = .ok (.ireturn, 1) := by decide +kernel
theorem dX2_isAwayFromZero_72 : decode cX2_isAwayFromZero 72 = .ok (.iload_n 2, 1) := by decide +kernel
theorem dX2_isAwayFromZero_73 : decode cX2_isAwayFromZero 73 = .ok (.ifCond .lt 7, 3) := by decide +kernel
theorem dX2_isAwayFromZero_76 : decode cX2_isAwayFromZero 76 = .ok (.iconst 1, 1) := by decide +kernel
theorem dX2_isAwayFromZero_77 : decode cX2_isAwayFromZero 77 = .ok (.goto 4, 3) := by decide +kernel
theorem dX2_isAwayFromZero_80 : decode cX2_isAwayFromZero 80 = .ok (.iconst 0, 1) := by decide +kernel
theorem dX2_isAwayFromZero_81 : decode cX2_isAwayFromZero 81 = .ok (.ireturn, 1) := by decide +kernel
theorem dX2_isAwayFromZero_82 : decode cX2_isAwayFromZero 82 = .ok (.iload_n 2, 1) := by decide +kernel
theorem dX2_isAwayFromZero_83 : decode cX2_isAwayFromZero 83 = .ok (.ifCond .le 7, 3) := by decide +kernel
theorem dX2_isAwayFromZero_86 : decode cX2_isAwayFromZero 86 = .ok (.iconst 1, 1) := by decide +kernel
theorem dX2_isAwayFromZero_87 : decode cX2_isAwayFromZero 87 = .ok (.goto 4, 3) := by decide +kernel
theorem dX2_isAwayFromZero_90 : decode cX2_isAwayFromZero 90 = .ok (.iconst 0, 1) := by decide +kernel
theorem dX2_isAwayFromZero_91 : decode cX2_isAwayFromZero 91 = .ok (.ireturn, 1) := by decide +kernel
theorem dX2_isAwayFromZero_92 : decode cX2_isAwayFromZero 92 = .ok (.iload_n 2, 1) := by decide +kernel
theorem dX2_isAwayFromZero_93 : decode cX2_isAwayFromZero 93 = .ok (.ifCond .gt 24, 3) := by decide +kernel
theorem dX2_isAwayFromZero_96 : decode cX2_isAwayFromZero 96 = .ok (.iload_n 2, 1) := by decide +kernel
theorem dX2_isAwayFromZero_97 : decode cX2_isAwayFromZero 97 = .ok (.ifCond .ne 24, 3) := by decide +kernel
theorem dX2_isAwayFromZero_100 : decode cX2_isAwayFromZero 100 = .ok (.aload_n 0, 1) := by decide +kernel
theorem dX2_isAwayFromZero_101 : decode cX2_isAwayFromZero 101 = .ok (.getfield 16, 3) := by decide +kernel
theorem dX2_isAwayFromZero_104 : decode cX2_isAwayFromZero 104 = .ok (.getfield 23, 3) := by decide +kernel
theorem dX2_isAwayFromZero_107 : decode cX2_isAwayFromZero 107 = .ok (.iconst 0, 1) := by decide +kernel
theorem dX2_isAwayFromZero_108 : decode cX2_isAwayFromZero 108 = .ok (.invokevirtual 133, 3) := by decide +kernel
theorem dX2_isAwayFromZero_111 : decode cX2_isAwayFromZero 111 = .ok (.iconst 2, 1) := by decide +kernel
theorem dX2_isAwayFromZero_112 : decode cX2_isAwayFromZero 112 = .ok (.irem, 1) := by decide +kernel
theorem dX2_isAwayFromZero_113 : decode cX2_isAwayFromZero 113 = .ok (.iconst 1, 1) := by decide +kernel
theorem dX2_isAwayFromZero_114 : decode cX2_isAwayFromZero 114 = .ok (.if_icmp .ne 7, 3) := by decide +kernel
theorem dX2_isAwayFromZero_117 : decode cX2_isAwayFromZero 117 = .ok (.iconst 1, 1) := by decide +kernel
theorem dX2_isAwayFromZero_118 : decode cX2_isAwayFromZero 118 = .ok (.goto 4, 3) := by decide +kernel
theorem dX2_isAwayFromZero_121 : decode cX2_isAwayFromZero 121 = .ok (.iconst 0, 1) := by decide +kernel
theorem dX2_isAwayFromZero_122 : decode cX2_isAwayFromZero 122 = .ok (.ireturn, 1) := by decide +kernel
theorem dX2_isAwayFromZero_123 : decode cX2_isAwayFromZero 123 = .ok (.iconst 0, 1) := by decide +kernel
theorem dX2_isAwayFromZero_124 : decode cX2_isAwayFromZero 124 = .ok (.ireturn, 1) := by decide +kernel
set_option maxRecDepth 20000 in
theorem ggX2_cutOff_X2_split : GoodIn wsX2_cutOff wsX2_split := goodIn_r _ [8, 9, 10, 1, 11, 12, 3, 13, 14, 15, 7, 16, 17, 18, 19, 20, 21, 22, 23, 24, 25, 26, 27, 28, 29, 30, 31, 32, 33, 34, 35, 36, 37, 38, 39, 40, 41, 42, 43, 44, 45, 46, 47, 48, 49, 50, 51, 52, 53, 54, 55, 56, 57, 58, 59, 60, 61, 62, 63, 64, 65, 66, 67, 68, 69, 70, 71, 72, 73, 74, 75, 76, 77, 78] (by decide +kernel) (by decide +kernel)
set_option maxRecDepth 20000 in
theorem gX2_cutOff_X2_split : GoodIn wsX2_cutOff (wsV RX2 106 RX2 yX2_split wsX2_split) := goodIn_app (goodIn_of _ (by decide +kernel)) ggX2_cutOff_X2_split
theorem dX2_cutOff_0 : decode cX2_cutOff 0 = .ok (.aload_n 0, 1) := by decide +kernel
theorem dX2_cutOff_1 : decode cX2_cutOff 1 = .ok (.aload_n 0, 1) := by decide +kernel
theorem dX2_cutOff_2 : decode cX2_cutOff 2 = .ok (.getfield 16, 3) := by decide +kernel
theorem dX2_cutOff_5 : decode cX2_cutOff 5 = .ok (.aload_n 0, 1) := by decide +kernel
theorem dX2_cutOff_6 : decode cX2_cutOff 6 = .ok (.getfield 20, 3) := by decide +kernel
theorem dX2_cutOff_9 : decode cX2_cutOff 9 = .ok (.aload_n 0, 1) := by decide +kernel
theorem dX2_cutOff_10 : decode cX2_cutOff 10 = .ok (.getfield 16, 3) := by decide +kernel
theorem dX2_cutOff_13 : decode cX2_cutOff 13 = .ok (.getfield 56, 3) := by decide +kernel
theorem dX2_cutOff_16 : decode cX2_cutOff 16 = .ok (.iload_n 1, 1) := by decide +kernel
theorem dX2_cutOff_17 : decode cX2_cutOff 17 = .ok (.isub, 1) := by decide +kernel
theorem dX2_cutOff_18 : decode cX2_cutOff 18 = .ok (.invokevirtual 106, 3) := by decide +kernel
theorem dX2_cutOff_21 : decode cX2_cutOff 21 = .ok (.return_, 1) := by decide +kernel
set_option maxRecDepth 20000 in
theorem ggX2_cutOffZeros_X1_isZero : GoodIn wsX2_cutOffZeros wsX1_isZero := goodIn_r _ [8, 9, 94, 95] (by decide +kernel) (by decide +kernel)
set_option maxRecDepth 20000 in
theorem gX2_cutOffZeros_X1_isZero : GoodIn wsX2_cutOffZeros (wsV RX2 92 RX1 yX1_isZero wsX1_isZero) := goodIn_app (goodIn_of _ (by decide +kernel)) ggX2_cutOffZeros_X1_isZero
set_option maxRecDepth 20000 in
theorem ggX2_cutOffZeros_X1_zerosAtEnd : GoodIn wsX2_cutOffZeros wsX1_zerosAtEnd := goodIn_r _ [13, 9, 14, 15, 16, 7, 17, 18, 19, 20, 94, 95] (by decide +kernel) (by decide +kernel)
set_option maxRecDepth 20000 in
theorem gX2_cutOffZeros_X1_zerosAtEnd : GoodIn wsX2_cutOffZeros (wsV RX2 166 RX1 yX1_zerosAtEnd wsX1_zerosAtEnd) := goodIn_app (goodIn_of _ (by decide +kernel)) ggX2_cutOffZeros_X1_zerosAtEnd
set_option maxRecDepth 20000 in
theorem ggX2_cutOffZeros_X2_cutOff : GoodIn wsX2_cutOffZeros wsX2_cutOff := goodIn_r _ [25, 1, 26, 3, 27, 28, 29, 24, 30, 31, 32, 2, 33, 34, 35, 36, 37, 38, 39, 40, 7, 41, 18, 42, 43, 44, 45, 9, 46, 47, 48, 49, 19, 50, 51, 52, 53, 54, 55, 56, 57, 58, 59, 60, 61, 62, 63, 64, 65, 66, 67, 68, 69, 70, 71, 72, 73, 74, 75, 76, 77, 78, 79, 80, 81, 82, 83, 84, 85, 86, 87, 88, 89, 90, 91, 92, 93, 94, 95] (by decide +kernel) (by decide +kernel)
set_option maxRecDepth 20000 in
theorem gX2_cutOffZeros_X2_cutOff : GoodIn wsX2_cutOffZeros (wsV RX2 118 RX2 yX2_cutOff wsX2_cutOff) := goodIn_app (goodIn_of _ (by decide +kernel)) ggX2_cutOffZeros_X2_cutOff
theorem dX2_cutOffZeros_0 : decode cX2_cutOffZeros 0 = .ok (.aload_n 0, 1) := by decide +kernel
theorem dX2_cutOffZeros_1 : decode cX2_cutOffZeros 1 = .ok (.getfield 16, 3) := by decide +kernel
theorem dX2_cutOffZeros_4 : decode cX2_cutOffZeros 4 = .ok (.getfield 23, 3) := by decide +kernel
theorem dX2_cutOffZeros_7 : decode cX2_cutOffZeros 7 = .ok (.invokevirtual 92, 3) := by decide +kernel
theorem dX2_cutOffZeros_10 : decode cX2_cutOffZeros 10 = .ok (.ifCond .eq 14, 3) := by decide +kernel
theorem dX2_cutOffZeros_13 : decode cX2_cutOffZeros 13 = .ok (.aload_n 0, 1) := by decide +kernel
theorem dX2_cutOffZeros_14 : decode cX2_cutOffZeros 14 = .ok (.getfield 16, 3) := by decide +kernel
theorem dX2_cutOffZeros_17 : decode cX2_cutOffZeros 17 = .ok (.iconst 0, 1) := by decide +kernel
theorem dX2_cutOffZeros_18 : decode cX2_cutOffZeros 18 = .ok (.putfield 56, 3) := by decide +kernel
theorem dX2_cutOffZeros_21 : decode cX2_cutOffZeros 21 = .ok (.goto 17, 3) := by decide +kernel
theorem dX2_cutOffZeros_24 : decode cX2_cutOffZeros 24 = .ok (.aload_n 0, 1) := by decide +kernel
theorem dX2_cutOffZeros_25 : decode cX2_cutOffZeros 25 = .ok (.aload_n 0, 1) := by decide +kernel
theorem dX2_cutOffZeros_26 : decode cX2_cutOffZeros 26 = .ok (.getfield 16, 3) := by decide +kernel
theorem dX2_cutOffZeros_29 : decode cX2_cutOffZeros 29 = .ok (.getfield 23, 3) := by decide +kernel
theorem dX2_cutOffZeros_32 : decode cX2_cutOffZeros 32 = .ok (.invokevirtual 166, 3) := by decide +kernel
theorem dX2_cutOffZeros_35 : decode cX2_cutOffZeros 35 = .ok (.invokevirtual 118, 3) := by decide +kernel
theorem dX2_cutOffZeros_38 : decode cX2_cutOffZeros 38 = .ok (.return_, 1) := by decide +kernel
set_option maxRecDepth 20000 in
theorem ggX2_addUp_X2_align : GoodIn wsX2_addUp wsX2_align := goodIn_r _ [14, 1, 7, 15, 8, 16, 17, 18, 19, 20, 21, 22, 23, 24, 25, 26, 27, 28, 29, 30, 31, 32, 33, 34, 35, 36, 37, 38, 39, 40, 71, 72, 73, 74, 75, 76, 77, 78, 79, 80, 81, 82] (by decide +kernel) (by decide +kernel)
set_option maxRecDepth 20000 in
theorem gX2_addUp_X2_align : GoodIn wsX2_addUp (wsV RX2 155 RX2 yX2_align wsX2_align) := goodIn_app (goodIn_of _ (by decide +kernel)) ggX2_addUp_X2_align
set_option maxRecDepth 20000 in
theorem ggX2_addUp_X1_add : GoodIn wsX2_addUp wsX1_add := goodIn_r _ [44, 26, 45, 3, 4, 5, 21, 32, 33, 34, 35, 19, 36, 81, 82] (by decide +kernel) (by decide +kernel)
set_option maxRecDepth 20000 in
theorem gX2_addUp_X1_add : GoodIn wsX2_addUp (wsV RX2 73 RX1 yX1_add wsX1_add) := goodIn_app (goodIn_of _ (by decide +kernel)) ggX2_addUp_X1_add
set_option maxRecDepth 20000 in
theorem ggX2_addUp_X0_take : GoodIn wsX2_addUp wsX0_take := goodIn_r _ [50, 51, 52, 53, 54, 17, 18, 19, 20, 21, 22, 23, 24, 25, 26, 55, 56, 57, 58, 71, 72, 73, 81, 82] (by decide +kernel) (by decide +kernel)
set_option maxRecDepth 20000 in
theorem gX2_addUp_X0_take : GoodIn wsX2_addUp (wsV RX2 110 RX0 yX0_take wsX0_take) := goodIn_app (goodIn_of _ (by decide +kernel)) ggX2_addUp_X0_take
set_option maxRecDepth 20000 in
theorem ggX2_addUp_X1_order : GoodIn wsX2_addUp wsX1_order := goodIn_r _ [62, 26, 21, 81, 82] (by decide +kernel) (by decide +kernel)
set_option maxRecDepth 20000 in
theorem gX2_addUp_X1_order : GoodIn wsX2_addUp (wsV RX2 127 RX1 yX1_order wsX1_order) := goodIn_app (goodIn_of _ (by decide +kernel)) ggX2_addUp_X1_order
set_option maxRecDepth 20000 in
theorem ggX2_addUp_X1_subtract : GoodIn wsX2_addUp wsX1_subtract := goodIn_r _ [66, 26, 21, 32, 67, 68, 69, 19, 70, 81, 82] (by decide +kernel) (by decide +kernel)
set_option maxRecDepth 20000 in
theorem gX2_addUp_X1_subtract : GoodIn wsX2_addUp (wsV RX2 169 RX1 yX1_subtract wsX1_subtract) := goodIn_app (goodIn_of _ (by decide +kernel)) ggX2_addUp_X1_subtract
theorem dX2_addUp_0 : decode cX2_addUp 0 = .ok (.aload_n 1, 1) := by decide +kernel
theorem dX2_addUp_1 : decode cX2_addUp 1 = .ok (.getfield 56, 3) := by decide +kernel
theorem dX2_addUp_4 : decode cX2_addUp 4 = .ok (.aload_n 2, 1) := by decide +kernel
theorem dX2_addUp_5 : decode cX2_addUp 5 = .ok (.getfield 56, 3) := by decide +kernel
theorem dX2_addUp_8 : decode cX2_addUp 8 = .ok (.invokestatic 100, 3) := by decide +kernel
theorem dX2_addUp_11 : decode cX2_addUp 11 = .ok (.istore 4, 2) := by decide +kernel
theorem dX2_addUp_13 : decode cX2_addUp 13 = .ok (.aload_n 0, 1) := by decide +kernel
theorem dX2_addUp_14 : decode cX2_addUp 14 = .ok (.aload_n 1, 1) := by decide +kernel
theorem dX2_addUp_15 : decode cX2_addUp 15 = .ok (.aload_n 2, 1) := by decide +kernel
theorem dX2_addUp_16 : decode cX2_addUp 16 = .ok (.iconst 0, 1) := by decide +kernel
theorem dX2_addUp_17 : decode cX2_addUp 17 = .ok (.invokevirtual 155, 3) := by decide +kernel
theorem dX2_addUp_20 : decode cX2_addUp 20 = .ok (.aload_n 1, 1) := by decide +kernel
theorem dX2_addUp_21 : decode cX2_addUp 21 = .ok (.getfield 52, 3) := by decide +kernel
theorem dX2_addUp_24 : decode cX2_addUp 24 = .ok (.iload_n 3, 1) := by decide +kernel
theorem dX2_addUp_25 : decode cX2_addUp 25 = .ok (.if_icmp .ne 34, 3) := by decide +kernel
theorem dX2_addUp_28 : decode cX2_addUp 28 = .ok (.aload_n 0, 1) := by decide +kernel
theorem dX2_addUp_29 : decode cX2_addUp 29 = .ok (.getfield 34, 3) := by decide +kernel
theorem dX2_addUp_32 : decode cX2_addUp 32 = .ok (.aload_n 0, 1) := by decide +kernel
theorem dX2_addUp_33 : decode cX2_addUp 33 = .ok (.getfield 37, 3) := by decide +kernel
theorem dX2_addUp_36 : decode cX2_addUp 36 = .ok (.invokevirtual 73, 3) := by decide +kernel
theorem dX2_addUp_39 : decode cX2_addUp 39 = .ok (.aload_n 0, 1) := by decide +kernel
theorem dX2_addUp_40 : decode cX2_addUp 40 = .ok (.getfield 16, 3) := by decide +kernel
theorem dX2_addUp_43 : decode cX2_addUp 43 = .ok (.aload_n 0, 1) := by decide +kernel
theorem dX2_addUp_44 : decode cX2_addUp 44 = .ok (.getfield 34, 3) := by decide +kernel
theorem dX2_addUp_47 : decode cX2_addUp 47 = .ok (.aload_n 1, 1) := by decide +kernel
theorem dX2_addUp_48 : decode cX2_addUp 48 = .ok (.getfield 52, 3) := by decide +kernel
theorem dX2_addUp_51 : decode cX2_addUp 51 = .ok (.iload 4, 2) := by decide +kernel
theorem dX2_addUp_53 : decode cX2_addUp 53 = .ok (.invokevirtual 110, 3) := by decide +kernel
theorem dX2_addUp_56 : decode cX2_addUp 56 = .ok (.goto 73, 3) := by decide +kernel
theorem dX2_addUp_59 : decode cX2_addUp 59 = .ok (.aload_n 0, 1) := by decide +kernel
theorem dX2_addUp_60 : decode cX2_addUp 60 = .ok (.getfield 34, 3) := by decide +kernel
theorem dX2_addUp_63 : decode cX2_addUp 63 = .ok (.aload_n 0, 1) := by decide +kernel
theorem dX2_addUp_64 : decode cX2_addUp 64 = .ok (.getfield 37, 3) := by decide +kernel
theorem dX2_addUp_67 : decode cX2_addUp 67 = .ok (.invokevirtual 127, 3) := by decide +kernel
theorem dX2_addUp_70 : decode cX2_addUp 70 = .ok (.ifCond .lt 34, 3) := by decide +kernel
theorem dX2_addUp_73 : decode cX2_addUp 73 = .ok (.aload_n 0, 1) := by decide +kernel
theorem dX2_addUp_74 : decode cX2_addUp 74 = .ok (.getfield 34, 3) := by decide +kernel
theorem dX2_addUp_77 : decode cX2_addUp 77 = .ok (.aload_n 0, 1) := by decide +kernel
theorem dX2_addUp_78 : decode cX2_addUp 78 = .ok (.getfield 37, 3) := by decide +kernel
theorem dX2_addUp_81 : decode cX2_addUp 81 = .ok (.invokevirtual 169, 3) := by decide +kernel
theorem dX2_addUp_84 : decode cX2_addUp 84 = .ok (.aload_n 0, 1) := by decide +kernel
theorem dX2_addUp_85 : decode cX2_addUp 85 = .ok (.getfield 16, 3) := by decide +kernel
theorem dX2_addUp_88 : decode cX2_addUp 88 = .ok (.aload_n 0, 1) := by decide +kernel
theorem dX2_addUp_89 : decode cX2_addUp 89 = .ok (.getfield 34, 3) := by decide +kernel
theorem dX2_addUp_92 : decode cX2_addUp 92 = .ok (.aload_n 1, 1) := by decide +kernel
theorem dX2_addUp_93 : decode cX2_addUp 93 = .ok (.getfield 52, 3) := by decide +kernel
theorem dX2_addUp_96 : decode cX2_addUp 96 = .ok (.iload 4, 2) := by decide +kernel
theorem dX2_addUp_98 : decode cX2_addUp 98 = .ok (.invokevirtual 110, 3) := by decide +kernel
theorem dX2_addUp_101 : decode cX2_addUp 101 = .ok (.goto 28, 3) := by decide +kernel
theorem dX2_addUp_104 : decode cX2_addUp 104 = .ok (.aload_n 0, 1) := by decide +kernel
theorem dX2_addUp_105 : decode cX2_addUp 105 = .ok (.getfield 37, 3) := by decide +kernel
theorem dX2_addUp_108 : decode cX2_addUp 108 = .ok (.aload_n 0, 1) := by decide +kernel
theorem dX2_addUp_109 : decode cX2_addUp 109 = .ok (.getfield 34, 3) := by decide +kernel
theorem dX2_addUp_112 : decode cX2_addUp 112 = .ok (.invokevirtual 169, 3) := by decide +kernel
theorem dX2_addUp_115 : decode cX2_addUp 115 = .ok (.aload_n 0, 1) := by decide +kernel
theorem dX2_addUp_116 : decode cX2_addUp 116 = .ok (.getfield 16, 3) := by decide +kernel
theorem dX2_addUp_119 : decode cX2_addUp 119 = .ok (.aload_n 0, 1) := by decide +kernel
theorem dX2_addUp_120 : decode cX2_addUp 120 = .ok (.getfield 37, 3) := by decide +kernel
theorem dX2_addUp_123 : decode cX2_addUp 123 = .ok (.iload_n 3, 1) := by decide +kernel
theorem dX2_addUp_124 : decode cX2_addUp 124 = .ok (.iload 4, 2) := by decide +kernel
theorem dX2_addUp_126 : decode cX2_addUp 126 = .ok (.invokevirtual 110, 3) := by decide +kernel
theorem dX2_addUp_129 : decode cX2_addUp 129 = .ok (.return_, 1) := by decide +kernel
set_option maxRecDepth 20000 in
theorem ggX2_multiply_X1_becomeProduct : GoodIn wsX2_multiply wsX1_becomeProduct := goodIn_r _ [10, 11, 12, 13, 14, 15, 16, 9, 17, 18, 19, 20, 21, 52, 53] (by decide +kernel) (by decide +kernel)
set_option maxRecDepth 20000 in
theorem gX2_multiply_X1_becomeProduct : GoodIn wsX2_multiply (wsV RX2 172 RX1 yX1_becomeProduct wsX1_becomeProduct) := goodIn_app (goodIn_of _ (by decide +kernel)) ggX2_multiply_X1_becomeProduct
set_option maxRecDepth 20000 in
theorem ggX2_multiply_X0_take : GoodIn wsX2_multiply wsX0_take := goodIn_r _ [26, 27, 28, 29, 30, 31, 32, 9, 33, 12, 34, 35, 36, 37, 11, 38, 39, 40, 41, 49, 50, 51, 52, 53] (by decide +kernel) (by decide +kernel)
set_option maxRecDepth 20000 in
theorem gX2_multiply_X0_take : GoodIn wsX2_multiply (wsV RX2 110 RX0 yX0_take wsX0_take) := goodIn_app (goodIn_of _ (by decide +kernel)) ggX2_multiply_X0_take
theorem dX2_multiply_0 : decode cX2_multiply 0 = .ok (.aload_n 0, 1) := by decide +kernel
theorem dX2_multiply_1 : decode cX2_multiply 1 = .ok (.getfield 34, 3) := by decide +kernel
theorem dX2_multiply_4 : decode cX2_multiply 4 = .ok (.aload_n 1, 1) := by decide +kernel
theorem dX2_multiply_5 : decode cX2_multiply 5 = .ok (.getfield 23, 3) := by decide +kernel
theorem dX2_multiply_8 : decode cX2_multiply 8 = .ok (.aload_n 2, 1) := by decide +kernel
theorem dX2_multiply_9 : decode cX2_multiply 9 = .ok (.getfield 23, 3) := by decide +kernel
theorem dX2_multiply_12 : decode cX2_multiply 12 = .ok (.invokevirtual 172, 3) := by decide +kernel
theorem dX2_multiply_15 : decode cX2_multiply 15 = .ok (.aload_n 0, 1) := by decide +kernel
theorem dX2_multiply_16 : decode cX2_multiply 16 = .ok (.getfield 16, 3) := by decide +kernel
theorem dX2_multiply_19 : decode cX2_multiply 19 = .ok (.aload_n 0, 1) := by decide +kernel
theorem dX2_multiply_20 : decode cX2_multiply 20 = .ok (.getfield 34, 3) := by decide +kernel
theorem dX2_multiply_23 : decode cX2_multiply 23 = .ok (.aload_n 1, 1) := by decide +kernel
theorem dX2_multiply_24 : decode cX2_multiply 24 = .ok (.getfield 52, 3) := by decide +kernel
theorem dX2_multiply_27 : decode cX2_multiply 27 = .ok (.aload_n 2, 1) := by decide +kernel
theorem dX2_multiply_28 : decode cX2_multiply 28 = .ok (.getfield 52, 3) := by decide +kernel
theorem dX2_multiply_31 : decode cX2_multiply 31 = .ok (.if_icmp .eq 7, 3) := by decide +kernel
theorem dX2_multiply_34 : decode cX2_multiply 34 = .ok (.iconst 1, 1) := by decide +kernel
theorem dX2_multiply_35 : decode cX2_multiply 35 = .ok (.goto 4, 3) := by decide +kernel
theorem dX2_multiply_38 : decode cX2_multiply 38 = .ok (.iconst 0, 1) := by decide +kernel
theorem dX2_multiply_39 : decode cX2_multiply 39 = .ok (.aload_n 1, 1) := by decide +kernel
theorem dX2_multiply_40 : decode cX2_multiply 40 = .ok (.getfield 56, 3) := by decide +kernel
theorem dX2_multiply_43 : decode cX2_multiply 43 = .ok (.aload_n 2, 1) := by decide +kernel
theorem dX2_multiply_44 : decode cX2_multiply 44 = .ok (.getfield 56, 3) := by decide +kernel
theorem dX2_multiply_47 : decode cX2_multiply 47 = .ok (.iadd, 1) := by decide +kernel
theorem dX2_multiply_48 : decode cX2_multiply 48 = .ok (.invokevirtual 110, 3) := by decide +kernel
theorem dX2_multiply_51 : decode cX2_multiply 51 = .ok (.return_, 1) := by decide +kernel
set_option maxRecDepth 20000 in
theorem ggX2_order_X0_sign : GoodIn wsX2_order wsX0_sign := goodIn_r _ [8, 9, 10, 11, 12, 13, 14, 15, 16, 51, 52, 53, 61, 62] (by decide +kernel) (by decide +kernel)
set_option maxRecDepth 20000 in
theorem gX2_order_X0_sign : GoodIn wsX2_order (wsV RX2 130 RX0 yX0_sign wsX0_sign) := goodIn_app (goodIn_of _ (by decide +kernel)) ggX2_order_X0_sign
set_option maxRecDepth 20000 in
theorem ggX2_order_X2_align : GoodIn wsX2_order wsX2_align := goodIn_r _ [21, 22, 3, 23, 2, 24, 25, 26, 14, 27, 28, 29, 30, 31, 32, 16, 33, 34, 35, 36, 37, 38, 39, 40, 41, 42, 43, 44, 45, 46, 51, 52, 53, 54, 55, 56, 57, 58, 59, 60, 61, 62] (by decide +kernel) (by decide +kernel)
set_option maxRecDepth 20000 in
theorem gX2_order_X2_align : GoodIn wsX2_order (wsV RX2 155 RX2 yX2_align wsX2_align) := goodIn_app (goodIn_of _ (by decide +kernel)) ggX2_order_X2_align
set_option maxRecDepth 20000 in
theorem ggX2_order_X1_order : GoodIn wsX2_order wsX1_order := goodIn_r _ [50, 16, 28, 61, 62] (by decide +kernel) (by decide +kernel)
set_option maxRecDepth 20000 in
theorem gX2_order_X1_order : GoodIn wsX2_order (wsV RX2 127 RX1 yX1_order wsX1_order) := goodIn_app (goodIn_of _ (by decide +kernel)) ggX2_order_X1_order
theorem dX2_order_0 : decode cX2_order 0 = .ok (.aload_n 1, 1) := by decide +kernel
theorem dX2_order_1 : decode cX2_order 1 = .ok (.invokevirtual 130, 3) := by decide +kernel
theorem dX2_order_4 : decode cX2_order 4 = .ok (.aload_n 2, 1) := by decide +kernel
theorem dX2_order_5 : decode cX2_order 5 = .ok (.invokevirtual 130, 3) := by decide +kernel
theorem dX2_order_8 : decode cX2_order 8 = .ok (.if_icmp .eq 20, 3) := by decide +kernel
theorem dX2_order_11 : decode cX2_order 11 = .ok (.aload_n 1, 1) := by decide +kernel
theorem dX2_order_12 : decode cX2_order 12 = .ok (.invokevirtual 130, 3) := by decide +kernel
theorem dX2_order_15 : decode cX2_order 15 = .ok (.aload_n 2, 1) := by decide +kernel
theorem dX2_order_16 : decode cX2_order 16 = .ok (.invokevirtual 130, 3) := by decide +kernel
theorem dX2_order_19 : decode cX2_order 19 = .ok (.if_icmp .ge 7, 3) := by decide +kernel
theorem dX2_order_22 : decode cX2_order 22 = .ok (.iconst (-1), 1) := by decide +kernel
theorem dX2_order_23 : decode cX2_order 23 = .ok (.goto 4, 3) := by decide +kernel
theorem dX2_order_26 : decode cX2_order 26 = .ok (.iconst 1, 1) := by decide +kernel
theorem dX2_order_27 : decode cX2_order 27 = .ok (.ireturn, 1) := by decide +kernel
theorem dX2_order_28 : decode cX2_order 28 = .ok (.aload_n 0, 1) := by decide +kernel
theorem dX2_order_29 : decode cX2_order 29 = .ok (.aload_n 1, 1) := by decide +kernel
theorem dX2_order_30 : decode cX2_order 30 = .ok (.aload_n 2, 1) := by decide +kernel
theorem dX2_order_31 : decode cX2_order 31 = .ok (.iconst 0, 1) := by decide +kernel
theorem dX2_order_32 : decode cX2_order 32 = .ok (.invokevirtual 155, 3) := by decide +kernel
theorem dX2_order_35 : decode cX2_order 35 = .ok (.aload_n 1, 1) := by decide +kernel
theorem dX2_order_36 : decode cX2_order 36 = .ok (.getfield 52, 3) := by decide +kernel
theorem dX2_order_39 : decode cX2_order 39 = .ok (.ifCond .eq 17, 3) := by decide +kernel
theorem dX2_order_42 : decode cX2_order 42 = .ok (.aload_n 0, 1) := by decide +kernel
theorem dX2_order_43 : decode cX2_order 43 = .ok (.getfield 37, 3) := by decide +kernel
theorem dX2_order_46 : decode cX2_order 46 = .ok (.aload_n 0, 1) := by decide +kernel
theorem dX2_order_47 : decode cX2_order 47 = .ok (.getfield 34, 3) := by decide +kernel
theorem dX2_order_50 : decode cX2_order 50 = .ok (.invokevirtual 127, 3) := by decide +kernel
theorem dX2_order_53 : decode cX2_order 53 = .ok (.goto 14, 3) := by decide +kernel
theorem dX2_order_56 : decode cX2_order 56 = .ok (.aload_n 0, 1) := by decide +kernel
theorem dX2_order_57 : decode cX2_order 57 = .ok (.getfield 34, 3) := by decide +kernel
theorem dX2_order_60 : decode cX2_order 60 = .ok (.aload_n 0, 1) := by decide +kernel
theorem dX2_order_61 : decode cX2_order 61 = .ok (.getfield 37, 3) := by decide +kernel
theorem dX2_order_64 : decode cX2_order 64 = .ok (.invokevirtual 127, 3) := by decide +kernel
theorem dX2_order_67 : decode cX2_order 67 = .ok (.ireturn, 1) := by decide +kernel
set_option maxRecDepth 20000 in
theorem ggX2_appendFigures_X1_precision : GoodIn wsX2_appendFigures wsX1_precision := goodIn_r _ [11, 12, 13, 4, 5, 6, 14, 15, 16, 10, 17, 18, 19, 20, 32, 33] (by decide +kernel) (by decide +kernel)
set_option maxRecDepth 20000 in
theorem gX2_appendFigures_X1_precision : GoodIn wsX2_appendFigures (wsV RX2 114 RX1 yX1_precision wsX1_precision) := goodIn_app (goodIn_of _ (by decide +kernel)) ggX2_appendFigures_X1_precision
set_option maxRecDepth 20000 in
theorem ggX2_appendFigures_X1_figure : GoodIn wsX2_appendFigures wsX1_figure := goodIn_r _ [17, 12, 18, 19, 20, 32, 33] (by decide +kernel) (by decide +kernel)
set_option maxRecDepth 20000 in
theorem gX2_appendFigures_X1_figure : GoodIn wsX2_appendFigures (wsV RX2 133 RX1 yX1_figure wsX1_figure) := goodIn_app (goodIn_of _ (by decide +kernel)) ggX2_appendFigures_X1_figure
set_option maxRecDepth 20000 in
theorem ggX2_appendFigures_X2_append : GoodIn wsX2_appendFigures wsX2_append := goodIn_r _ [26, 27, 28, 34, 35, 36, 37, 38, 39, 40] (by decide +kernel) (by decide +kernel)
set_option maxRecDepth 20000 in
theorem gX2_appendFigures_X2_append : GoodIn wsX2_appendFigures (wsV RX2 140 RX2 yX2_append wsX2_append) := goodIn_app (goodIn_of _ (by decide +kernel)) ggX2_appendFigures_X2_append
theorem dX2_appendFigures_0 : decode cX2_appendFigures 0 = .ok (.aload_n 1, 1) := by decide +kernel
theorem dX2_appendFigures_1 : decode cX2_appendFigures 1 = .ok (.getfield 23, 3) := by decide +kernel
theorem dX2_appendFigures_4 : decode cX2_appendFigures 4 = .ok (.invokevirtual 114, 3) := by decide +kernel
theorem dX2_appendFigures_7 : decode cX2_appendFigures 7 = .ok (.iconst 1, 1) := by decide +kernel
theorem dX2_appendFigures_8 : decode cX2_appendFigures 8 = .ok (.isub, 1) := by decide +kernel
theorem dX2_appendFigures_9 : decode cX2_appendFigures 9 = .ok (.aload_n 1, 1) := by decide +kernel
theorem dX2_appendFigures_10 : decode cX2_appendFigures 10 = .ok (.getfield 56, 3) := by decide +kernel
theorem dX2_appendFigures_13 : decode cX2_appendFigures 13 = .ok (.invokestatic 100, 3) := by decide +kernel
theorem dX2_appendFigures_16 : decode cX2_appendFigures 16 = .ok (.istore_n 2, 1) := by decide +kernel
theorem dX2_appendFigures_17 : decode cX2_appendFigures 17 = .ok (.iload_n 2, 1) := by decide +kernel
theorem dX2_appendFigures_18 : decode cX2_appendFigures 18 = .ok (.ifCond .lt 43, 3) := by decide +kernel
theorem dX2_appendFigures_21 : decode cX2_appendFigures 21 = .ok (.aload_n 0, 1) := by decide +kernel
theorem dX2_appendFigures_22 : decode cX2_appendFigures 22 = .ok (.bipush 48, 2) := by decide +kernel
theorem dX2_appendFigures_24 : decode cX2_appendFigures 24 = .ok (.aload_n 1, 1) := by decide +kernel
theorem dX2_appendFigures_25 : decode cX2_appendFigures 25 = .ok (.getfield 23, 3) := by decide +kernel
theorem dX2_appendFigures_28 : decode cX2_appendFigures 28 = .ok (.iload_n 2, 1) := by decide +kernel
theorem dX2_appendFigures_29 : decode cX2_appendFigures 29 = .ok (.invokevirtual 133, 3) := by decide +kernel
theorem dX2_appendFigures_32 : decode cX2_appendFigures 32 = .ok (.iadd, 1) := by decide +kernel
theorem dX2_appendFigures_33 : decode cX2_appendFigures 33 = .ok (.i2c, 1) := by decide +kernel
theorem dX2_appendFigures_34 : decode cX2_appendFigures 34 = .ok (.invokevirtual 140, 3) := by decide +kernel
theorem dX2_appendFigures_37 : decode cX2_appendFigures 37 = .ok (.iload_n 2, 1) := by decide +kernel
theorem dX2_appendFigures_38 : decode cX2_appendFigures 38 = .ok (.ifCond .le 17, 3) := by decide +kernel
theorem dX2_appendFigures_41 : decode cX2_appendFigures 41 = .ok (.iload_n 2, 1) := by decide +kernel
theorem dX2_appendFigures_42 : decode cX2_appendFigures 42 = .ok (.aload_n 1, 1) := by decide +kernel
theorem dX2_appendFigures_43 : decode cX2_appendFigures 43 = .ok (.getfield 56, 3) := by decide +kernel
theorem dX2_appendFigures_46 : decode cX2_appendFigures 46 = .ok (.if_icmp .ne 9, 3) := by decide +kernel
theorem dX2_appendFigures_49 : decode cX2_appendFigures 49 = .ok (.aload_n 0, 1) := by decide +kernel
theorem dX2_appendFigures_50 : decode cX2_appendFigures 50 = .ok (.bipush 46, 2) := by decide +kernel
theorem dX2_appendFigures_52 : decode cX2_appendFigures 52 = .ok (.invokevirtual 140, 3) := by decide +kernel
theorem dX2_appendFigures_55 : decode cX2_appendFigures 55 = .ok (.iinc 2 (-1), 3) := by decide +kernel
theorem dX2_appendFigures_58 : decode cX2_appendFigures 58 = .ok (.goto (-41), 3) := by decide +kernel
theorem dX2_appendFigures_61 : decode cX2_appendFigures 61 = .ok (.return_, 1) := by decide +kernel
set_option maxRecDepth 20000 in
theorem ggX2_appendZeros_X2_append : GoodIn wsX2_appendZeros wsX2_append := goodIn_r _ [5, 6, 7, 8, 9, 10, 11, 12, 13, 14] (by decide +kernel) (by decide +kernel)
set_option maxRecDepth 20000 in
theorem gX2_appendZeros_X2_append : GoodIn wsX2_appendZeros (wsV RX2 140 RX2 yX2_append wsX2_append) := goodIn_app (goodIn_of _ (by decide +kernel)) ggX2_appendZeros_X2_append
theorem dX2_appendZeros_0 : decode cX2_appendZeros 0 = .ok (.iconst 0, 1) := by decide +kernel
theorem dX2_appendZeros_1 : decode cX2_appendZeros 1 = .ok (.istore_n 2, 1) := by decide +kernel
theorem dX2_appendZeros_2 : decode cX2_appendZeros 2 = .ok (.iload_n 2, 1) := by decide +kernel
theorem dX2_appendZeros_3 : decode cX2_appendZeros 3 = .ok (.iload_n 1, 1) := by decide +kernel
theorem dX2_appendZeros_4 : decode cX2_appendZeros 4 = .ok (.if_icmp .ge 15, 3) := by decide +kernel
theorem dX2_appendZeros_7 : decode cX2_appendZeros 7 = .ok (.aload_n 0, 1) := by decide +kernel
theorem dX2_appendZeros_8 : decode cX2_appendZeros 8 = .ok (.bipush 48, 2) := by decide +kernel
theorem dX2_appendZeros_10 : decode cX2_appendZeros 10 = .ok (.invokevirtual 140, 3) := by decide +kernel
theorem dX2_appendZeros_13 : decode cX2_appendZeros 13 = .ok (.iinc 2 1, 3) := by decide +kernel
theorem dX2_appendZeros_16 : decode cX2_appendZeros 16 = .ok (.goto (-14), 3) := by decide +kernel
theorem dX2_appendZeros_19 : decode cX2_appendZeros 19 = .ok (.return_, 1) := by decide +kernel
theorem dX2_append_0 : decode cX2_append 0 = .ok (.aload_n 0, 1) := by decide +kernel
theorem dX2_append_1 : decode cX2_append 1 = .ok (.getfield 44, 3) := by decide +kernel
theorem dX2_append_4 : decode cX2_append 4 = .ok (.sipush 200, 3) := by decide +kernel
theorem dX2_append_7 : decode cX2_append 7 = .ok (.if_icmp .ge 23, 3) := by decide +kernel
theorem dX2_append_10 : decode cX2_append 10 = .ok (.aload_n 0, 1) := by decide +kernel
theorem dX2_append_11 : decode cX2_append 11 = .ok (.getfield 40, 3) := by decide +kernel
theorem dX2_append_14 : decode cX2_append 14 = .ok (.aload_n 0, 1) := by decide +kernel
theorem dX2_append_15 : decode cX2_append 15 = .ok (.getfield 44, 3) := by decide +kernel
theorem dX2_append_18 : decode cX2_append 18 = .ok (.iload_n 1, 1) := by decide +kernel
theorem dX2_append_19 : decode cX2_append 19 = .ok (.castore, 1) := by decide +kernel
theorem dX2_append_20 : decode cX2_append 20 = .ok (.aload_n 0, 1) := by decide +kernel
theorem dX2_append_21 : decode cX2_append 21 = .ok (.dup, 1) := by decide +kernel
theorem dX2_append_22 : decode cX2_append 22 = .ok (.getfield 44, 3) := by decide +kernel
theorem dX2_append_25 : decode cX2_append 25 = .ok (.iconst 1, 1) := by decide +kernel
theorem dX2_append_26 : decode cX2_append 26 = .ok (.iadd, 1) := by decide +kernel
theorem dX2_append_27 : decode cX2_append 27 = .ok (.putfield 44, 3) := by decide +kernel
theorem dX2_append_30 : decode cX2_append 30 = .ok (.return_, 1) := by decide +kernel
theorem dX3_init_0 : decode cX3_init 0 = .ok (.aload_n 0, 1) := by decide +kernel
theorem dX3_init_1 : decode cX3_init 1 = .ok (.invokespecial 1, 3) := by decide +kernel
theorem dX3_init_4 : decode cX3_init 4 = .ok (.aload_n 0, 1) := by decide +kernel
theorem dX3_init_5 : decode cX3_init 5 = .ok (.sipush 800, 3) := by decide +kernel
theorem dX3_init_8 : decode cX3_init 8 = .ok (.newarray .int, 2) := by decide +kernel
theorem dX3_init_10 : decode cX3_init 10 = .ok (.putfield 7, 3) := by decide +kernel
theorem dX3_init_13 : decode cX3_init 13 = .ok (.aload_n 0, 1) := by decide +kernel
theorem dX3_init_14 : decode cX3_init 14 = .ok (.iconst 1, 1) := by decide +kernel
theorem dX3_init_15 : decode cX3_init 15 = .ok (.putfield 13, 3) := by decide +kernel
theorem dX3_init_18 : decode cX3_init 18 = .ok (.return_, 1) := by decide +kernel
theorem dX3_isZero_0 : decode cX3_isZero 0 = .ok (.aload_n 0, 1) := by decide +kernel
theorem dX3_isZero_1 : decode cX3_isZero 1 = .ok (.getfield 13, 3) := by decide +kernel
theorem dX3_isZero_4 : decode cX3_isZero 4 = .ok (.iconst 1, 1) := by decide +kernel
theorem dX3_isZero_5 : decode cX3_isZero 5 = .ok (.if_icmp .ne 16, 3) := by decide +kernel
theorem dX3_isZero_8 : decode cX3_isZero 8 = .ok (.aload_n 0, 1) := by decide +kernel
theorem dX3_isZero_9 : decode cX3_isZero 9 = .ok (.getfield 7, 3) := by decide +kernel
theorem dX3_isZero_12 : decode cX3_isZero 12 = .ok (.iconst 0, 1) := by decide +kernel
theorem dX3_isZero_13 : decode cX3_isZero 13 = .ok (.iaload, 1) := by decide +kernel
theorem dX3_isZero_14 : decode cX3_isZero 14 = .ok (.ifCond .ne 7, 3) := by decide +kernel
theorem dX3_isZero_17 : decode cX3_isZero 17 = .ok (.iconst 1, 1) := by decide +kernel
theorem dX3_isZero_18 : decode cX3_isZero 18 = .ok (.goto 4, 3) := by decide +kernel
theorem dX3_isZero_21 : decode cX3_isZero 21 = .ok (.iconst 0, 1) := by decide +kernel
theorem dX3_isZero_22 : decode cX3_isZero 22 = .ok (.ireturn, 1) := by decide +kernel
theorem dX3_zero_0 : decode cX3_zero 0 = .ok (.aload_n 0, 1) := by decide +kernel
theorem dX3_zero_1 : decode cX3_zero 1 = .ok (.iconst 1, 1) := by decide +kernel
theorem dX3_zero_2 : decode cX3_zero 2 = .ok (.putfield 13, 3) := by decide +kernel
theorem dX3_zero_5 : decode cX3_zero 5 = .ok (.aload_n 0, 1) := by decide +kernel
theorem dX3_zero_6 : decode cX3_zero 6 = .ok (.getfield 7, 3) := by decide +kernel
theorem dX3_zero_9 : decode cX3_zero 9 = .ok (.iconst 0, 1) := by decide +kernel
theorem dX3_zero_10 : decode cX3_zero 10 = .ok (.iconst 0, 1) := by decide +kernel
theorem dX3_zero_11 : decode cX3_zero 11 = .ok (.iastore, 1) := by decide +kernel
theorem dX3_zero_12 : decode cX3_zero 12 = .ok (.aload_n 0, 1) := by decide +kernel
theorem dX3_zero_13 : decode cX3_zero 13 = .ok (.iconst 0, 1) := by decide +kernel
theorem dX3_zero_14 : decode cX3_zero 14 = .ok (.putfield 17, 3) := by decide +kernel
theorem dX3_zero_17 : decode cX3_zero 17 = .ok (.return_, 1) := by decide +kernel
set_option maxRecDepth 20000 in
theorem ggX3_trim_X3_isZero : GoodIn wsX3_trim wsX3_isZero := goodIn_r _ [8, 1, 2, 9, 10, 11, 12] (by decide +kernel) (by decide +kernel)
set_option maxRecDepth 20000 in
theorem gX3_trim_X3_isZero : GoodIn wsX3_trim (wsV RX3 21 RX3 yX3_isZero wsX3_isZero) := goodIn_app (goodIn_of _ (by decide +kernel)) ggX3_trim_X3_isZero
theorem dX3_trim_0 : decode cX3_trim 0 = .ok (.aload_n 0, 1) := by decide +kernel
theorem dX3_trim_1 : decode cX3_trim 1 = .ok (.getfield 13, 3) := by decide +kernel
theorem dX3_trim_4 : decode cX3_trim 4 = .ok (.iconst 1, 1) := by decide +kernel
theorem dX3_trim_5 : decode cX3_trim 5 = .ok (.if_icmp .le 30, 3) := by decide +kernel
theorem dX3_trim_8 : decode cX3_trim 8 = .ok (.aload_n 0, 1) := by decide +kernel
theorem dX3_trim_9 : decode cX3_trim 9 = .ok (.getfield 7, 3) := by decide +kernel
theorem dX3_trim_12 : decode cX3_trim 12 = .ok (.aload_n 0, 1) := by decide +kernel
theorem dX3_trim_13 : decode cX3_trim 13 = .ok (.getfield 13, 3) := by decide +kernel
theorem dX3_trim_16 : decode cX3_trim 16 = .ok (.iconst 1, 1) := by decide +kernel
theorem dX3_trim_17 : decode cX3_trim 17 = .ok (.isub, 1) := by decide +kernel
theorem dX3_trim_18 : decode cX3_trim 18 = .ok (.iaload, 1) := by decide +kernel
theorem dX3_trim_19 : decode cX3_trim 19 = .ok (.ifCond .ne 16, 3) := by decide +kernel
theorem dX3_trim_22 : decode cX3_trim 22 = .ok (.aload_n 0, 1) := by decide +kernel
theorem dX3_trim_23 : decode cX3_trim 23 = .ok (.dup, 1) := by decide +kernel
theorem dX3_trim_24 : decode cX3_trim 24 = .ok (.getfield 13, 3) := by decide +kernel
theorem dX3_trim_27 : decode cX3_trim 27 = .ok (.iconst 1, 1) := by decide +kernel
theorem dX3_trim_28 : decode cX3_trim 28 = .ok (.isub, 1) := by decide +kernel
theorem dX3_trim_29 : decode cX3_trim 29 = .ok (.putfield 13, 3) := by decide +kernel
theorem dX3_trim_32 : decode cX3_trim 32 = .ok (.goto (-32), 3) := by decide +kernel
theorem dX3_trim_35 : decode cX3_trim 35 = .ok (.aload_n 0, 1) := by decide +kernel
theorem dX3_trim_36 : decode cX3_trim 36 = .ok (.invokevirtual 21, 3) := by decide +kernel
theorem dX3_trim_39 : decode cX3_trim 39 = .ok (.ifCond .eq 8, 3) := by decide +kernel
theorem dX3_trim_42 : decode cX3_trim 42 = .ok (.aload_n 0, 1) := by decide +kernel
theorem dX3_trim_43 : decode cX3_trim 43 = .ok (.iconst 0, 1) := by decide +kernel
theorem dX3_trim_44 : decode cX3_trim 44 = .ok (.putfield 17, 3) := by decide +kernel
theorem dX3_trim_47 : decode cX3_trim 47 = .ok (.return_, 1) := by decide +kernel
theorem dX3_take_0 : decode cX3_take 0 = .ok (.aload_n 0, 1) := by decide +kernel
theorem dX3_take_1 : decode cX3_take 1 = .ok (.aload_n 1, 1) := by decide +kernel
theorem dX3_take_2 : decode cX3_take 2 = .ok (.getfield 13, 3) := by decide +kernel
theorem dX3_take_5 : decode cX3_take 5 = .ok (.putfield 13, 3) := by decide +kernel
theorem dX3_take_8 : decode cX3_take 8 = .ok (.aload_n 0, 1) := by decide +kernel
theorem dX3_take_9 : decode cX3_take 9 = .ok (.aload_n 1, 1) := by decide +kernel
theorem dX3_take_10 : decode cX3_take 10 = .ok (.getfield 17, 3) := by decide +kernel
theorem dX3_take_13 : decode cX3_take 13 = .ok (.putfield 17, 3) := by decide +kernel
theorem dX3_take_16 : decode cX3_take 16 = .ok (.aload_n 0, 1) := by decide +kernel
theorem dX3_take_17 : decode cX3_take 17 = .ok (.aload_n 1, 1) := by decide +kernel
theorem dX3_take_18 : decode cX3_take 18 = .ok (.getfield 25, 3) := by decide +kernel
theorem dX3_take_21 : decode cX3_take 21 = .ok (.putfield 25, 3) := by decide +kernel
theorem dX3_take_24 : decode cX3_take 24 = .ok (.iconst 0, 1) := by decide +kernel
theorem dX3_take_25 : decode cX3_take 25 = .ok (.istore_n 2, 1) := by decide +kernel
theorem dX3_take_26 : decode cX3_take 26 = .ok (.iload_n 2, 1) := by decide +kernel
theorem dX3_take_27 : decode cX3_take 27 = .ok (.aload_n 0, 1) := by decide +kernel
theorem dX3_take_28 : decode cX3_take 28 = .ok (.getfield 13, 3) := by decide +kernel
theorem dX3_take_31 : decode cX3_take 31 = .ok (.if_icmp .ge 21, 3) := by decide +kernel
theorem dX3_take_34 : decode cX3_take 34 = .ok (.aload_n 0, 1) := by decide +kernel
theorem dX3_take_35 : decode cX3_take 35 = .ok (.getfield 7, 3) := by decide +kernel
theorem dX3_take_38 : decode cX3_take 38 = .ok (.iload_n 2, 1) := by decide +kernel
theorem dX3_take_39 : decode cX3_take 39 = .ok (.aload_n 1, 1) := by decide +kernel
theorem dX3_take_40 : decode cX3_take 40 = .ok (.getfield 7, 3) := by decide +kernel
theorem dX3_take_43 : decode cX3_take 43 = .ok (.iload_n 2, 1) := by decide +kernel
theorem dX3_take_44 : decode cX3_take 44 = .ok (.iaload, 1) := by decide +kernel
theorem dX3_take_45 : decode cX3_take 45 = .ok (.iastore, 1) := by decide +kernel
theorem dX3_take_46 : decode cX3_take 46 = .ok (.iinc 2 1, 3) := by decide +kernel
theorem dX3_take_49 : decode cX3_take 49 = .ok (.goto (-23), 3) := by decide +kernel
theorem dX3_take_52 : decode cX3_take 52 = .ok (.return_, 1) := by decide +kernel
set_option maxRecDepth 20000 in
theorem ggX3_up_X3_isZero : GoodIn wsX3_up wsX3_isZero := goodIn_r _ [7, 1, 2, 8, 9, 10, 11] (by decide +kernel) (by decide +kernel)
set_option maxRecDepth 20000 in
theorem gX3_up_X3_isZero : GoodIn wsX3_up (wsV RX3 21 RX3 yX3_isZero wsX3_isZero) := goodIn_app (goodIn_of _ (by decide +kernel)) ggX3_up_X3_isZero
theorem dX3_up_0 : decode cX3_up 0 = .ok (.aload_n 0, 1) := by decide +kernel
theorem dX3_up_1 : decode cX3_up 1 = .ok (.invokevirtual 21, 3) := by decide +kernel
theorem dX3_up_4 : decode cX3_up 4 = .ok (.ifCond .ne 7, 3) := by decide +kernel
theorem dX3_up_7 : decode cX3_up 7 = .ok (.iload_n 1, 1) := by decide +kernel
theorem dX3_up_8 : decode cX3_up 8 = .ok (.ifCond .ne 4, 3) := by decide +kernel
theorem dX3_up_11 : decode cX3_up 11 = .ok (.return_, 1) := by decide +kernel
theorem dX3_up_12 : decode cX3_up 12 = .ok (.aload_n 0, 1) := by decide +kernel
theorem dX3_up_13 : decode cX3_up 13 = .ok (.getfield 13, 3) := by decide +kernel
theorem dX3_up_16 : decode cX3_up 16 = .ok (.iconst 1, 1) := by decide +kernel
theorem dX3_up_17 : decode cX3_up 17 = .ok (.isub, 1) := by decide +kernel
theorem dX3_up_18 : decode cX3_up 18 = .ok (.istore_n 2, 1) := by decide +kernel
theorem dX3_up_19 : decode cX3_up 19 = .ok (.iload_n 2, 1) := by decide +kernel
theorem dX3_up_20 : decode cX3_up 20 = .ok (.ifCond .lt 23, 3) := by decide +kernel
theorem dX3_up_23 : decode cX3_up 23 = .ok (.aload_n 0, 1) := by decide +kernel
theorem dX3_up_24 : decode cX3_up 24 = .ok (.getfield 7, 3) := by decide +kernel
theorem dX3_up_27 : decode cX3_up 27 = .ok (.iload_n 2, 1) := by decide +kernel
theorem dX3_up_28 : decode cX3_up 28 = .ok (.iload_n 1, 1) := by decide +kernel
theorem dX3_up_29 : decode cX3_up 29 = .ok (.iadd, 1) := by decide +kernel
theorem dX3_up_30 : decode cX3_up 30 = .ok (.aload_n 0, 1) := by decide +kernel
theorem dX3_up_31 : decode cX3_up 31 = .ok (.getfield 7, 3) := by decide +kernel
theorem dX3_up_34 : decode cX3_up 34 = .ok (.iload_n 2, 1) := by decide +kernel
theorem dX3_up_35 : decode cX3_up 35 = .ok (.iaload, 1) := by decide +kernel
theorem dX3_up_36 : decode cX3_up 36 = .ok (.iastore, 1) := by decide +kernel
theorem dX3_up_37 : decode cX3_up 37 = .ok (.iinc 2 (-1), 3) := by decide +kernel
theorem dX3_up_40 : decode cX3_up 40 = .ok (.goto (-21), 3) := by decide +kernel
theorem dX3_up_43 : decode cX3_up 43 = .ok (.iconst 0, 1) := by decide +kernel
theorem dX3_up_44 : decode cX3_up 44 = .ok (.istore_n 2, 1) := by decide +kernel
theorem dX3_up_45 : decode cX3_up 45 = .ok (.iload_n 2, 1) := by decide +kernel
theorem dX3_up_46 : decode cX3_up 46 = .ok (.iload_n 1, 1) := by decide +kernel
theorem dX3_up_47 : decode cX3_up 47 = .ok (.if_icmp .ge 16, 3) := by decide +kernel
theorem dX3_up_50 : decode cX3_up 50 = .ok (.aload_n 0, 1) := by decide +kernel
theorem dX3_up_51 : decode cX3_up 51 = .ok (.getfield 7, 3) := by decide +kernel
theorem dX3_up_54 : decode cX3_up 54 = .ok (.iload_n 2, 1) := by decide +kernel
theorem dX3_up_55 : decode cX3_up 55 = .ok (.iconst 0, 1) := by decide +kernel
theorem dX3_up_56 : decode cX3_up 56 = .ok (.iastore, 1) := by decide +kernel
theorem dX3_up_57 : decode cX3_up 57 = .ok (.iinc 2 1, 3) := by decide +kernel
theorem dX3_up_60 : decode cX3_up 60 = .ok (.goto (-15), 3) := by decide +kernel
theorem dX3_up_63 : decode cX3_up 63 = .ok (.aload_n 0, 1) := by decide +kernel
theorem dX3_up_64 : decode cX3_up 64 = .ok (.dup, 1) := by decide +kernel
theorem dX3_up_65 : decode cX3_up 65 = .ok (.getfield 13, 3) := by decide +kernel
theorem dX3_up_68 : decode cX3_up 68 = .ok (.iload_n 1, 1) := by decide +kernel
theorem dX3_up_69 : decode cX3_up 69 = .ok (.iadd, 1) := by decide +kernel
theorem dX3_up_70 : decode cX3_up 70 = .ok (.putfield 13, 3) := by decide +kernel
theorem dX3_up_73 : decode cX3_up 73 = .ok (.return_, 1) := by decide +kernel
theorem dX3_ends_0 : decode cX3_ends 0 = .ok (.iconst 0, 1) := by decide +kernel
theorem dX3_ends_1 : decode cX3_ends 1 = .ok (.istore_n 2, 1) := by decide +kernel
theorem dX3_ends_2 : decode cX3_ends 2 = .ok (.iload_n 2, 1) := by decide +kernel
theorem dX3_ends_3 : decode cX3_ends 3 = .ok (.iload_n 1, 1) := by decide +kernel
theorem dX3_ends_4 : decode cX3_ends 4 = .ok (.if_icmp .ge 28, 3) := by decide +kernel
theorem dX3_ends_7 : decode cX3_ends 7 = .ok (.iload_n 2, 1) := by decide +kernel
theorem dX3_ends_8 : decode cX3_ends 8 = .ok (.aload_n 0, 1) := by decide +kernel
theorem dX3_ends_9 : decode cX3_ends 9 = .ok (.getfield 13, 3) := by decide +kernel
theorem dX3_ends_12 : decode cX3_ends 12 = .ok (.if_icmp .ge 20, 3) := by decide +kernel
theorem dX3_ends_15 : decode cX3_ends 15 = .ok (.aload_n 0, 1) := by decide +kernel
theorem dX3_ends_16 : decode cX3_ends 16 = .ok (.getfield 7, 3) := by decide +kernel
theorem dX3_ends_19 : decode cX3_ends 19 = .ok (.iload_n 2, 1) := by decide +kernel
theorem dX3_ends_20 : decode cX3_ends 20 = .ok (.iaload, 1) := by decide +kernel
theorem dX3_ends_21 : decode cX3_ends 21 = .ok (.ifCond .eq 5, 3) := by decide +kernel
theorem dX3_ends_24 : decode cX3_ends 24 = .ok (.iconst 0, 1) := by decide +kernel
theorem dX3_ends_25 : decode cX3_ends 25 = .ok (.ireturn, 1) := by decide +kernel
theorem dX3_ends_26 : decode cX3_ends 26 = .ok (.iinc 2 1, 3) := by decide +kernel
theorem dX3_ends_29 : decode cX3_ends 29 = .ok (.goto (-27), 3) := by decide +kernel
theorem dX3_ends_32 : decode cX3_ends 32 = .ok (.iconst 1, 1) := by decide +kernel
theorem dX3_ends_33 : decode cX3_ends 33 = .ok (.ireturn, 1) := by decide +kernel
theorem dX3_more_0 : decode cX3_more 0 = .ok (.iconst 0, 1) := by decide +kernel
theorem dX3_more_1 : decode cX3_more 1 = .ok (.istore_n 1, 1) := by decide +kernel
theorem dX3_more_2 : decode cX3_more 2 = .ok (.iload_n 1, 1) := by decide +kernel
theorem dX3_more_3 : decode cX3_more 3 = .ok (.aload_n 0, 1) := by decide +kernel
theorem dX3_more_4 : decode cX3_more 4 = .ok (.getfield 13, 3) := by decide +kernel
theorem dX3_more_7 : decode cX3_more 7 = .ok (.if_icmp .ge 27, 3) := by decide +kernel
theorem dX3_more_10 : decode cX3_more 10 = .ok (.aload_n 0, 1) := by decide +kernel
theorem dX3_more_11 : decode cX3_more 11 = .ok (.getfield 7, 3) := by decide +kernel
theorem dX3_more_14 : decode cX3_more 14 = .ok (.iload_n 1, 1) := by decide +kernel
theorem dX3_more_15 : decode cX3_more 15 = .ok (.iaload, 1) := by decide +kernel
theorem dX3_more_16 : decode cX3_more 16 = .ok (.bipush 9, 2) := by decide +kernel
theorem dX3_more_18 : decode cX3_more 18 = .ok (.if_icmp .ne 16, 3) := by decide +kernel
theorem dX3_more_21 : decode cX3_more 21 = .ok (.aload_n 0, 1) := by decide +kernel
theorem dX3_more_22 : decode cX3_more 22 = .ok (.getfield 7, 3) := by decide +kernel
theorem dX3_more_25 : decode cX3_more 25 = .ok (.iload_n 1, 1) := by decide +kernel
theorem dX3_more_26 : decode cX3_more 26 = .ok (.iconst 0, 1) := by decide +kernel
theorem dX3_more_27 : decode cX3_more 27 = .ok (.iastore, 1) := by decide +kernel
theorem dX3_more_28 : decode cX3_more 28 = .ok (.iinc 1 1, 3) := by decide +kernel
theorem dX3_more_31 : decode cX3_more 31 = .ok (.goto (-29), 3) := by decide +kernel
theorem dX3_more_34 : decode cX3_more 34 = .ok (.iload_n 1, 1) := by decide +kernel
theorem dX3_more_35 : decode cX3_more 35 = .ok (.aload_n 0, 1) := by decide +kernel
theorem dX3_more_36 : decode cX3_more 36 = .ok (.getfield 13, 3) := by decide +kernel
theorem dX3_more_39 : decode cX3_more 39 = .ok (.if_icmp .ne 23, 3) := by decide +kernel
theorem dX3_more_42 : decode cX3_more 42 = .ok (.aload_n 0, 1) := by decide +kernel
theorem dX3_more_43 : decode cX3_more 43 = .ok (.getfield 7, 3) := by decide +kernel
theorem dX3_more_46 : decode cX3_more 46 = .ok (.aload_n 0, 1) := by decide +kernel
theorem dX3_more_47 : decode cX3_more 47 = .ok (.getfield 13, 3) := by decide +kernel
theorem dX3_more_50 : decode cX3_more 50 = .ok (.iconst 0, 1) := by decide +kernel
theorem dX3_more_51 : decode cX3_more 51 = .ok (.iastore, 1) := by decide +kernel
theorem dX3_more_52 : decode cX3_more 52 = .ok (.aload_n 0, 1) := by decide +kernel
theorem dX3_more_53 : decode cX3_more 53 = .ok (.dup, 1) := by decide +kernel
theorem dX3_more_54 : decode cX3_more 54 = .ok (.getfield 13, 3) := by decide +kernel
theorem dX3_more_57 : decode cX3_more 57 = .ok (.iconst 1, 1) := by decide +kernel
theorem dX3_more_58 : decode cX3_more 58 = .ok (.iadd, 1) := by decide +kernel
theorem dX3_more_59 : decode cX3_more 59 = .ok (.putfield 13, 3) := by decide +kernel
theorem dX3_more_62 : decode cX3_more 62 = .ok (.aload_n 0, 1) := by decide +kernel
theorem dX3_more_63 : decode cX3_more 63 = .ok (.getfield 7, 3) := by decide +kernel
theorem dX3_more_66 : decode cX3_more 66 = .ok (.iload_n 1, 1) := by decide +kernel
theorem dX3_more_67 : decode cX3_more 67 = .ok (.dup2, 1) := by decide +kernel
theorem dX3_more_68 : decode cX3_more 68 = .ok (.iaload, 1) := by decide +kernel
theorem dX3_more_69 : decode cX3_more 69 = .ok (.iconst 1, 1) := by decide +kernel
theorem dX3_more_70 : decode cX3_more 70 = .ok (.iadd, 1) := by decide +kernel
theorem dX3_more_71 : decode cX3_more 71 = .ok (.iastore, 1) := by decide +kernel
theorem dX3_more_72 : decode cX3_more 72 = .ok (.return_, 1) := by decide +kernel
set_option maxRecDepth 20000 in
theorem ggX4_init_X3_init : GoodIn wsX4_init wsX3_init := goodIn_r _ [15, 16, 2, 3, 12, 17, 18, 26, 27, 28, 29] (by decide +kernel) (by decide +kernel)
set_option maxRecDepth 20000 in
theorem gX4_init_X3_init_n15 : GoodIn wsX4_init (wsX3_init) := ggX4_init_X3_init
theorem dX4_init_0 : decode cX4_init 0 = .ok (.aload_n 0, 1) := by decide +kernel
theorem dX4_init_1 : decode cX4_init 1 = .ok (.invokespecial 1, 3) := by decide +kernel
theorem dX4_init_4 : decode cX4_init 4 = .ok (.aload_n 0, 1) := by decide +kernel
theorem dX4_init_5 : decode cX4_init 5 = .ok (.bipush 6, 2) := by decide +kernel
theorem dX4_init_7 : decode cX4_init 7 = .ok (.anewarray 7, 3) := by decide +kernel
theorem dX4_init_10 : decode cX4_init 10 = .ok (.putfield 9, 3) := by decide +kernel
theorem dX4_init_13 : decode cX4_init 13 = .ok (.aload_n 0, 1) := by decide +kernel
theorem dX4_init_14 : decode cX4_init 14 = .ok (.new 7, 3) := by decide +kernel
theorem dX4_init_17 : decode cX4_init 17 = .ok (.dup, 1) := by decide +kernel
theorem dX4_init_18 : decode cX4_init 18 = .ok (.invokespecial 15, 3) := by decide +kernel
theorem dX4_init_21 : decode cX4_init 21 = .ok (.putfield 16, 3) := by decide +kernel
theorem dX4_init_24 : decode cX4_init 24 = .ok (.aload_n 0, 1) := by decide +kernel
theorem dX4_init_25 : decode cX4_init 25 = .ok (.new 7, 3) := by decide +kernel
theorem dX4_init_28 : decode cX4_init 28 = .ok (.dup, 1) := by decide +kernel
theorem dX4_init_29 : decode cX4_init 29 = .ok (.invokespecial 15, 3) := by decide +kernel
theorem dX4_init_32 : decode cX4_init 32 = .ok (.putfield 20, 3) := by decide +kernel
theorem dX4_init_35 : decode cX4_init 35 = .ok (.aload_n 0, 1) := by decide +kernel
theorem dX4_init_36 : decode cX4_init 36 = .ok (.new 7, 3) := by decide +kernel
theorem dX4_init_39 : decode cX4_init 39 = .ok (.dup, 1) := by decide +kernel
theorem dX4_init_40 : decode cX4_init 40 = .ok (.invokespecial 15, 3) := by decide +kernel
theorem dX4_init_43 : decode cX4_init 43 = .ok (.putfield 23, 3) := by decide +kernel
theorem dX4_init_46 : decode cX4_init 46 = .ok (.aload_n 0, 1) := by decide +kernel
theorem dX4_init_47 : decode cX4_init 47 = .ok (.new 7, 3) := by decide +kernel
theorem dX4_init_50 : decode cX4_init 50 = .ok (.dup, 1) := by decide +kernel
theorem dX4_init_51 : decode cX4_init 51 = .ok (.invokespecial 15, 3) := by decide +kernel
theorem dX4_init_54 : decode cX4_init 54 = .ok (.putfield 26, 3) := by decide +kernel
theorem dX4_init_57 : decode cX4_init 57 = .ok (.aload_n 0, 1) := by decide +kernel
theorem dX4_init_58 : decode cX4_init 58 = .ok (.sipush 400, 3) := by decide +kernel
theorem dX4_init_61 : decode cX4_init 61 = .ok (.newarray .int, 2) := by decide +kernel
theorem dX4_init_63 : decode cX4_init 63 = .ok (.putfield 29, 3) := by decide +kernel
theorem dX4_init_66 : decode cX4_init 66 = .ok (.iconst 0, 1) := by decide +kernel
theorem dX4_init_67 : decode cX4_init 67 = .ok (.istore_n 1, 1) := by decide +kernel
theorem dX4_init_68 : decode cX4_init 68 = .ok (.iload_n 1, 1) := by decide +kernel
theorem dX4_init_69 : decode cX4_init 69 = .ok (.bipush 6, 2) := by decide +kernel
theorem dX4_init_71 : decode cX4_init 71 = .ok (.if_icmp .ge 22, 3) := by decide +kernel
theorem dX4_init_74 : decode cX4_init 74 = .ok (.aload_n 0, 1) := by decide +kernel
theorem dX4_init_75 : decode cX4_init 75 = .ok (.getfield 9, 3) := by decide +kernel
theorem dX4_init_78 : decode cX4_init 78 = .ok (.iload_n 1, 1) := by decide +kernel
theorem dX4_init_79 : decode cX4_init 79 = .ok (.new 7, 3) := by decide +kernel
theorem dX4_init_82 : decode cX4_init 82 = .ok (.dup, 1) := by decide +kernel
theorem dX4_init_83 : decode cX4_init 83 = .ok (.invokespecial 15, 3) := by decide +kernel
theorem dX4_init_86 : decode cX4_init 86 = .ok (.aastore, 1) := by decide +kernel
theorem dX4_init_87 : decode cX4_init 87 = .ok (.iinc 1 1, 3) := by decide +kernel
theorem dX4_init_90 : decode cX4_init 90 = .ok (.goto (-22), 3) := by decide +kernel
theorem dX4_init_93 : decode cX4_init 93 = .ok (.return_, 1) := by decide +kernel
theorem dX4_is_0 : decode cX4_is 0 = .ok (.iload_n 0, 1) := by decide +kernel
theorem dX4_is_1 : decode cX4_is 1 = .ok (.ifCond .lt 13, 3) := by decide +kernel
theorem dX4_is_4 : decode cX4_is 4 = .ok (.iload_n 0, 1) := by decide +kernel
theorem dX4_is_5 : decode cX4_is 5 = .ok (.bipush 6, 2) := by decide +kernel
theorem dX4_is_7 : decode cX4_is 7 = .ok (.if_icmp .ge 7, 3) := by decide +kernel
theorem dX4_is_10 : decode cX4_is 10 = .ok (.iconst 1, 1) := by decide +kernel
theorem dX4_is_11 : decode cX4_is 11 = .ok (.goto 4, 3) := by decide +kernel
theorem dX4_is_14 : decode cX4_is 14 = .ok (.iconst 0, 1) := by decide +kernel
theorem dX4_is_15 : decode cX4_is 15 = .ok (.ireturn, 1) := by decide +kernel
theorem dX4_isScale_0 : decode cX4_isScale 0 = .ok (.lload_n 0, 1) := by decide +kernel
theorem dX4_isScale_1 : decode cX4_isScale 1 = .ok (.ldc2_w 33, 3) := by decide +kernel
theorem dX4_isScale_4 : decode cX4_isScale 4 = .ok (.lcmp, 1) := by decide +kernel
theorem dX4_isScale_5 : decode cX4_isScale 5 = .ok (.ifCond .lt 15, 3) := by decide +kernel
theorem dX4_isScale_8 : decode cX4_isScale 8 = .ok (.lload_n 0, 1) := by decide +kernel
theorem dX4_isScale_9 : decode cX4_isScale 9 = .ok (.ldc2_w 35, 3) := by decide +kernel
theorem dX4_isScale_12 : decode cX4_isScale 12 = .ok (.lcmp, 1) := by decide +kernel
theorem dX4_isScale_13 : decode cX4_isScale 13 = .ok (.ifCond .gt 7, 3) := by decide +kernel
theorem dX4_isScale_16 : decode cX4_isScale 16 = .ok (.iconst 1, 1) := by decide +kernel
theorem dX4_isScale_17 : decode cX4_isScale 17 = .ok (.goto 4, 3) := by decide +kernel
theorem dX4_isScale_20 : decode cX4_isScale 20 = .ok (.iconst 0, 1) := by decide +kernel
theorem dX4_isScale_21 : decode cX4_isScale 21 = .ok (.ireturn, 1) := by decide +kernel
set_option maxRecDepth 20000 in
theorem ggX4_keep_X4_isScale : GoodIn wsX4_keep wsX4_isScale := goodIn_r _ [7, 8, 9] (by decide +kernel) (by decide +kernel)
set_option maxRecDepth 20000 in
theorem gX4_keep_X4_isScale : GoodIn wsX4_keep (va_wsS RX4 44 yX4_isScale wsX4_isScale) := goodIn_app (goodIn_of _ (by decide +kernel)) ggX4_keep_X4_isScale
set_option maxRecDepth 20000 in
theorem ggX4_keep_X3_take : GoodIn wsX4_keep wsX3_take := goodIn_r _ [14, 15, 16, 17, 18, 19, 20, 21, 22] (by decide +kernel) (by decide +kernel)
set_option maxRecDepth 20000 in
theorem gX4_keep_X3_take : GoodIn wsX4_keep (wsV RX4 48 RX3 yX3_take wsX3_take) := goodIn_app (goodIn_of _ (by decide +kernel)) ggX4_keep_X3_take
theorem dX4_keep_0 : decode cX4_keep 0 = .ok (.aload_n 2, 1) := by decide +kernel
theorem dX4_keep_1 : decode cX4_keep 1 = .ok (.getfield 37, 3) := by decide +kernel
theorem dX4_keep_4 : decode cX4_keep 4 = .ok (.sipush 190, 3) := by decide +kernel
theorem dX4_keep_7 : decode cX4_keep 7 = .ok (.if_icmp .gt 14, 3) := by decide +kernel
theorem dX4_keep_10 : decode cX4_keep 10 = .ok (.aload_n 2, 1) := by decide +kernel
theorem dX4_keep_11 : decode cX4_keep 11 = .ok (.getfield 41, 3) := by decide +kernel
theorem dX4_keep_14 : decode cX4_keep 14 = .ok (.i2l, 1) := by decide +kernel
theorem dX4_keep_15 : decode cX4_keep 15 = .ok (.invokestatic 44, 3) := by decide +kernel
theorem dX4_keep_18 : decode cX4_keep 18 = .ok (.ifCond .ne 6, 3) := by decide +kernel
theorem dX4_keep_21 : decode cX4_keep 21 = .ok (.bipush (-3), 2) := by decide +kernel
theorem dX4_keep_23 : decode cX4_keep 23 = .ok (.ireturn, 1) := by decide +kernel
theorem dX4_keep_24 : decode cX4_keep 24 = .ok (.aload_n 0, 1) := by decide +kernel
theorem dX4_keep_25 : decode cX4_keep 25 = .ok (.getfield 9, 3) := by decide +kernel
theorem dX4_keep_28 : decode cX4_keep 28 = .ok (.iload_n 1, 1) := by decide +kernel
theorem dX4_keep_29 : decode cX4_keep 29 = .ok (.aaload, 1) := by decide +kernel
theorem dX4_keep_30 : decode cX4_keep 30 = .ok (.aload_n 2, 1) := by decide +kernel
theorem dX4_keep_31 : decode cX4_keep 31 = .ok (.invokevirtual 48, 3) := by decide +kernel
theorem dX4_keep_34 : decode cX4_keep 34 = .ok (.aload_n 2, 1) := by decide +kernel
theorem dX4_keep_35 : decode cX4_keep 35 = .ok (.getfield 37, 3) := by decide +kernel
theorem dX4_keep_38 : decode cX4_keep 38 = .ok (.ireturn, 1) := by decide +kernel
set_option maxRecDepth 20000 in
theorem ggX4_load_X4_is : GoodIn wsX4_load wsX4_is := goodIn_r _ [10] (by decide +kernel) (by decide +kernel)
set_option maxRecDepth 20000 in
theorem gX4_load_X4_is : GoodIn wsX4_load (va_wsS RX4 52 yX4_is wsX4_is) := goodIn_app (goodIn_of _ (by decide +kernel)) ggX4_load_X4_is
set_option maxRecDepth 20000 in
theorem ggX4_load_X4_isScale : GoodIn wsX4_load wsX4_isScale := goodIn_r _ [13, 14, 15] (by decide +kernel) (by decide +kernel)
set_option maxRecDepth 20000 in
theorem gX4_load_X4_isScale : GoodIn wsX4_load (va_wsS RX4 44 yX4_isScale wsX4_isScale) := goodIn_app (goodIn_of _ (by decide +kernel)) ggX4_load_X4_isScale
theorem dX4_load_0 : decode cX4_load 0 = .ok (.iload_n 1, 1) := by decide +kernel
theorem dX4_load_1 : decode cX4_load 1 = .ok (.invokestatic 52, 3) := by decide +kernel
theorem dX4_load_4 : decode cX4_load 4 = .ok (.ifCond .ne 5, 3) := by decide +kernel
theorem dX4_load_7 : decode cX4_load 7 = .ok (.iconst (-1), 1) := by decide +kernel
theorem dX4_load_8 : decode cX4_load 8 = .ok (.ireturn, 1) := by decide +kernel
theorem dX4_load_9 : decode cX4_load 9 = .ok (.iload 4, 2) := by decide +kernel
theorem dX4_load_11 : decode cX4_load 11 = .ok (.i2l, 1) := by decide +kernel
theorem dX4_load_12 : decode cX4_load 12 = .ok (.invokestatic 44, 3) := by decide +kernel
theorem dX4_load_15 : decode cX4_load 15 = .ok (.ifCond .ne 6, 3) := by decide +kernel
theorem dX4_load_18 : decode cX4_load 18 = .ok (.bipush (-3), 2) := by decide +kernel
theorem dX4_load_20 : decode cX4_load 20 = .ok (.ireturn, 1) := by decide +kernel
theorem dX4_load_21 : decode cX4_load 21 = .ok (.aload_n 0, 1) := by decide +kernel
theorem dX4_load_22 : decode cX4_load 22 = .ok (.getfield 9, 3) := by decide +kernel
theorem dX4_load_25 : decode cX4_load 25 = .ok (.iload_n 1, 1) := by decide +kernel
theorem dX4_load_26 : decode cX4_load 26 = .ok (.aaload, 1) := by decide +kernel
theorem dX4_load_27 : decode cX4_load 27 = .ok (.astore 5, 2) := by decide +kernel
theorem dX4_load_29 : decode cX4_load 29 = .ok (.aload 5, 2) := by decide +kernel
theorem dX4_load_31 : decode cX4_load 31 = .ok (.iconst 0, 1) := by decide +kernel
theorem dX4_load_32 : decode cX4_load 32 = .ok (.putfield 37, 3) := by decide +kernel
theorem dX4_load_35 : decode cX4_load 35 = .ok (.lload_n 2, 1) := by decide +kernel
theorem dX4_load_36 : decode cX4_load 36 = .ok (.lstore 6, 2) := by decide +kernel
theorem dX4_load_38 : decode cX4_load 38 = .ok (.lload 6, 2) := by decide +kernel
theorem dX4_load_40 : decode cX4_load 40 = .ok (.ldc2_w 56, 3) := by decide +kernel
theorem dX4_load_43 : decode cX4_load 43 = .ok (.lrem, 1) := by decide +kernel
theorem dX4_load_44 : decode cX4_load 44 = .ok (.lstore 8, 2) := by decide +kernel
theorem dX4_load_46 : decode cX4_load 46 = .ok (.aload 5, 2) := by decide +kernel
theorem dX4_load_48 : decode cX4_load 48 = .ok (.getfield 58, 3) := by decide +kernel
theorem dX4_load_51 : decode cX4_load 51 = .ok (.aload 5, 2) := by decide +kernel
theorem dX4_load_53 : decode cX4_load 53 = .ok (.getfield 37, 3) := by decide +kernel
theorem dX4_load_56 : decode cX4_load 56 = .ok (.lload 8, 2) := by decide +kernel
theorem dX4_load_58 : decode cX4_load 58 = .ok (.lconst 0, 1) := by decide +kernel
theorem dX4_load_59 : decode cX4_load 59 = .ok (.lcmp, 1) := by decide +kernel
theorem dX4_load_60 : decode cX4_load 60 = .ok (.ifCond .ge 9, 3) := by decide +kernel
theorem dX4_load_63 : decode cX4_load 63 = .ok (.lload 8, 2) := by decide +kernel
theorem dX4_load_65 : decode cX4_load 65 = .ok (.lneg, 1) := by decide +kernel
theorem dX4_load_66 : decode cX4_load 66 = .ok (.goto 5, 3) := by decide +kernel
theorem dX4_load_69 : decode cX4_load 69 = .ok (.lload 8, 2) := by decide +kernel
theorem dX4_load_71 : decode cX4_load 71 = .ok (.l2i, 1) := by decide +kernel
theorem dX4_load_72 : decode cX4_load 72 = .ok (.iastore, 1) := by decide +kernel
theorem dX4_load_73 : decode cX4_load 73 = .ok (.aload 5, 2) := by decide +kernel
theorem dX4_load_75 : decode cX4_load 75 = .ok (.dup, 1) := by decide +kernel
theorem dX4_load_76 : decode cX4_load 76 = .ok (.getfield 37, 3) := by decide +kernel
theorem dX4_load_79 : decode cX4_load 79 = .ok (.iconst 1, 1) := by decide +kernel
theorem dX4_load_80 : decode cX4_load 80 = .ok (.iadd, 1) := by decide +kernel
theorem dX4_load_81 : decode cX4_load 81 = .ok (.putfield 37, 3) := by decide +kernel
theorem dX4_load_84 : decode cX4_load 84 = .ok (.lload 6, 2) := by decide +kernel
theorem dX4_load_86 : decode cX4_load 86 = .ok (.ldc2_w 56, 3) := by decide +kernel
theorem dX4_load_89 : decode cX4_load 89 = .ok (.ldiv, 1) := by decide +kernel
theorem dX4_load_90 : decode cX4_load 90 = .ok (.lstore 6, 2) := by decide +kernel
theorem dX4_load_92 : decode cX4_load 92 = .ok (.lload 6, 2) := by decide +kernel
theorem dX4_load_94 : decode cX4_load 94 = .ok (.lconst 0, 1) := by decide +kernel
theorem dX4_load_95 : decode cX4_load 95 = .ok (.lcmp, 1) := by decide +kernel
theorem dX4_load_96 : decode cX4_load 96 = .ok (.ifCond .ne (-58), 3) := by decide +kernel
theorem dX4_load_99 : decode cX4_load 99 = .ok (.aload 5, 2) := by decide +kernel
theorem dX4_load_101 : decode cX4_load 101 = .ok (.lload_n 2, 1) := by decide +kernel
theorem dX4_load_102 : decode cX4_load 102 = .ok (.lconst 0, 1) := by decide +kernel
theorem dX4_load_103 : decode cX4_load 103 = .ok (.lcmp, 1) := by decide +kernel
theorem dX4_load_104 : decode cX4_load 104 = .ok (.ifCond .ge 7, 3) := by decide +kernel
theorem dX4_load_107 : decode cX4_load 107 = .ok (.iconst 1, 1) := by decide +kernel
theorem dX4_load_108 : decode cX4_load 108 = .ok (.goto 4, 3) := by decide +kernel
theorem dX4_load_111 : decode cX4_load 111 = .ok (.iconst 0, 1) := by decide +kernel
theorem dX4_load_112 : decode cX4_load 112 = .ok (.putfield 61, 3) := by decide +kernel
theorem dX4_load_115 : decode cX4_load 115 = .ok (.aload 5, 2) := by decide +kernel
theorem dX4_load_117 : decode cX4_load 117 = .ok (.iload 4, 2) := by decide +kernel
theorem dX4_load_119 : decode cX4_load 119 = .ok (.putfield 41, 3) := by decide +kernel
theorem dX4_load_122 : decode cX4_load 122 = .ok (.iconst 0, 1) := by decide +kernel
theorem dX4_load_123 : decode cX4_load 123 = .ok (.ireturn, 1) := by decide +kernel
set_option maxRecDepth 20000 in
theorem ggX4_push_X4_is : GoodIn wsX4_push wsX4_is := goodIn_r _ [9] (by decide +kernel) (by decide +kernel)
set_option maxRecDepth 20000 in
theorem gX4_push_X4_is : GoodIn wsX4_push (va_wsS RX4 52 yX4_is wsX4_is) := goodIn_app (goodIn_of _ (by decide +kernel)) ggX4_push_X4_is
set_option maxRecDepth 20000 in
theorem ggX4_push_X3_take : GoodIn wsX4_push wsX3_take := goodIn_r _ [14, 15, 16, 17, 18, 44, 45, 46, 47] (by decide +kernel) (by decide +kernel)
set_option maxRecDepth 20000 in
theorem gX4_push_X3_take : GoodIn wsX4_push (wsV RX4 48 RX3 yX3_take wsX3_take) := goodIn_app (goodIn_of _ (by decide +kernel)) ggX4_push_X3_take
set_option maxRecDepth 20000 in
theorem ggX4_push_X3_trim : GoodIn wsX4_push wsX3_trim := goodIn_r _ [22, 15, 18, 16, 23, 24, 25, 13, 26, 44, 45, 46, 47] (by decide +kernel) (by decide +kernel)
set_option maxRecDepth 20000 in
theorem gX4_push_X3_trim : GoodIn wsX4_push (wsV RX4 65 RX3 yX3_trim wsX3_trim) := goodIn_app (goodIn_of _ (by decide +kernel)) ggX4_push_X3_trim
set_option maxRecDepth 20000 in
theorem ggX4_push_X4_keep : GoodIn wsX4_push wsX4_keep := goodIn_r _ [30, 3, 31, 2, 32, 33, 8, 34, 35, 36, 10, 11, 12, 13, 14, 15, 16, 17, 18, 44, 45, 46, 47, 37, 38, 39, 40, 41, 42, 43] (by decide +kernel) (by decide +kernel)
set_option maxRecDepth 20000 in
theorem gX4_push_X4_keep : GoodIn wsX4_push (wsV RX4 68 RX4 yX4_keep wsX4_keep) := goodIn_app (goodIn_of _ (by decide +kernel)) ggX4_push_X4_keep
theorem dX4_push_0 : decode cX4_push 0 = .ok (.iload_n 1, 1) := by decide +kernel
theorem dX4_push_1 : decode cX4_push 1 = .ok (.invokestatic 52, 3) := by decide +kernel
theorem dX4_push_4 : decode cX4_push 4 = .ok (.ifCond .ne 5, 3) := by decide +kernel
theorem dX4_push_7 : decode cX4_push 7 = .ok (.iconst (-1), 1) := by decide +kernel
theorem dX4_push_8 : decode cX4_push 8 = .ok (.ireturn, 1) := by decide +kernel
theorem dX4_push_9 : decode cX4_push 9 = .ok (.aload_n 0, 1) := by decide +kernel
theorem dX4_push_10 : decode cX4_push 10 = .ok (.getfield 16, 3) := by decide +kernel
theorem dX4_push_13 : decode cX4_push 13 = .ok (.aload_n 0, 1) := by decide +kernel
theorem dX4_push_14 : decode cX4_push 14 = .ok (.getfield 9, 3) := by decide +kernel
theorem dX4_push_17 : decode cX4_push 17 = .ok (.iload_n 1, 1) := by decide +kernel
theorem dX4_push_18 : decode cX4_push 18 = .ok (.aaload, 1) := by decide +kernel
theorem dX4_push_19 : decode cX4_push 19 = .ok (.invokevirtual 48, 3) := by decide +kernel
theorem dX4_push_22 : decode cX4_push 22 = .ok (.aload_n 0, 1) := by decide +kernel
theorem dX4_push_23 : decode cX4_push 23 = .ok (.getfield 16, 3) := by decide +kernel
theorem dX4_push_26 : decode cX4_push 26 = .ok (.getfield 37, 3) := by decide +kernel
theorem dX4_push_29 : decode cX4_push 29 = .ok (.iconst 1, 1) := by decide +kernel
theorem dX4_push_30 : decode cX4_push 30 = .ok (.isub, 1) := by decide +kernel
theorem dX4_push_31 : decode cX4_push 31 = .ok (.istore 4, 2) := by decide +kernel
theorem dX4_push_33 : decode cX4_push 33 = .ok (.iload 4, 2) := by decide +kernel
theorem dX4_push_35 : decode cX4_push 35 = .ok (.ifCond .lt 32, 3) := by decide +kernel
theorem dX4_push_38 : decode cX4_push 38 = .ok (.aload_n 0, 1) := by decide +kernel
theorem dX4_push_39 : decode cX4_push 39 = .ok (.getfield 16, 3) := by decide +kernel
theorem dX4_push_42 : decode cX4_push 42 = .ok (.getfield 58, 3) := by decide +kernel
theorem dX4_push_45 : decode cX4_push 45 = .ok (.iload 4, 2) := by decide +kernel
theorem dX4_push_47 : decode cX4_push 47 = .ok (.bipush 18, 2) := by decide +kernel
theorem dX4_push_49 : decode cX4_push 49 = .ok (.iadd, 1) := by decide +kernel
theorem dX4_push_50 : decode cX4_push 50 = .ok (.aload_n 0, 1) := by decide +kernel
theorem dX4_push_51 : decode cX4_push 51 = .ok (.getfield 16, 3) := by decide +kernel
theorem dX4_push_54 : decode cX4_push 54 = .ok (.getfield 58, 3) := by decide +kernel
theorem dX4_push_57 : decode cX4_push 57 = .ok (.iload 4, 2) := by decide +kernel
theorem dX4_push_59 : decode cX4_push 59 = .ok (.iaload, 1) := by decide +kernel
theorem dX4_push_60 : decode cX4_push 60 = .ok (.iastore, 1) := by decide +kernel
theorem dX4_push_61 : decode cX4_push 61 = .ok (.iinc 4 (-1), 3) := by decide +kernel
theorem dX4_push_64 : decode cX4_push 64 = .ok (.goto (-31), 3) := by decide +kernel
theorem dX4_push_67 : decode cX4_push 67 = .ok (.aload_n 0, 1) := by decide +kernel
theorem dX4_push_68 : decode cX4_push 68 = .ok (.getfield 16, 3) := by decide +kernel
theorem dX4_push_71 : decode cX4_push 71 = .ok (.dup, 1) := by decide +kernel
theorem dX4_push_72 : decode cX4_push 72 = .ok (.getfield 37, 3) := by decide +kernel
theorem dX4_push_75 : decode cX4_push 75 = .ok (.bipush 18, 2) := by decide +kernel
theorem dX4_push_77 : decode cX4_push 77 = .ok (.iadd, 1) := by decide +kernel
theorem dX4_push_78 : decode cX4_push 78 = .ok (.putfield 37, 3) := by decide +kernel
theorem dX4_push_81 : decode cX4_push 81 = .ok (.lload_n 2, 1) := by decide +kernel
theorem dX4_push_82 : decode cX4_push 82 = .ok (.lstore 4, 2) := by decide +kernel
theorem dX4_push_84 : decode cX4_push 84 = .ok (.iconst 0, 1) := by decide +kernel
theorem dX4_push_85 : decode cX4_push 85 = .ok (.istore 6, 2) := by decide +kernel
theorem dX4_push_87 : decode cX4_push 87 = .ok (.iload 6, 2) := by decide +kernel
theorem dX4_push_89 : decode cX4_push 89 = .ok (.bipush 18, 2) := by decide +kernel
theorem dX4_push_91 : decode cX4_push 91 = .ok (.if_icmp .ge 51, 3) := by decide +kernel
theorem dX4_push_94 : decode cX4_push 94 = .ok (.lload 4, 2) := by decide +kernel
theorem dX4_push_96 : decode cX4_push 96 = .ok (.ldc2_w 56, 3) := by decide +kernel
theorem dX4_push_99 : decode cX4_push 99 = .ok (.lrem, 1) := by decide +kernel
theorem dX4_push_100 : decode cX4_push 100 = .ok (.lstore 7, 2) := by decide +kernel
theorem dX4_push_102 : decode cX4_push 102 = .ok (.aload_n 0, 1) := by decide +kernel
theorem dX4_push_103 : decode cX4_push 103 = .ok (.getfield 16, 3) := by decide +kernel
theorem dX4_push_106 : decode cX4_push 106 = .ok (.getfield 58, 3) := by decide +kernel
theorem dX4_push_109 : decode cX4_push 109 = .ok (.iload 6, 2) := by decide +kernel
theorem dX4_push_111 : decode cX4_push 111 = .ok (.lload 7, 2) := by decide +kernel
theorem dX4_push_113 : decode cX4_push 113 = .ok (.lconst 0, 1) := by decide +kernel
theorem dX4_push_114 : decode cX4_push 114 = .ok (.lcmp, 1) := by decide +kernel
theorem dX4_push_115 : decode cX4_push 115 = .ok (.ifCond .ge 9, 3) := by decide +kernel
theorem dX4_push_118 : decode cX4_push 118 = .ok (.lload 7, 2) := by decide +kernel
theorem dX4_push_120 : decode cX4_push 120 = .ok (.lneg, 1) := by decide +kernel
theorem dX4_push_121 : decode cX4_push 121 = .ok (.goto 5, 3) := by decide +kernel
theorem dX4_push_124 : decode cX4_push 124 = .ok (.lload 7, 2) := by decide +kernel
theorem dX4_push_126 : decode cX4_push 126 = .ok (.l2i, 1) := by decide +kernel
theorem dX4_push_127 : decode cX4_push 127 = .ok (.iastore, 1) := by decide +kernel
theorem dX4_push_128 : decode cX4_push 128 = .ok (.lload 4, 2) := by decide +kernel
theorem dX4_push_130 : decode cX4_push 130 = .ok (.ldc2_w 56, 3) := by decide +kernel
theorem dX4_push_133 : decode cX4_push 133 = .ok (.ldiv, 1) := by decide +kernel
theorem dX4_push_134 : decode cX4_push 134 = .ok (.lstore 4, 2) := by decide +kernel
theorem dX4_push_136 : decode cX4_push 136 = .ok (.iinc 6 1, 3) := by decide +kernel
theorem dX4_push_139 : decode cX4_push 139 = .ok (.goto (-52), 3) := by decide +kernel
theorem dX4_push_142 : decode cX4_push 142 = .ok (.aload_n 0, 1) := by decide +kernel
theorem dX4_push_143 : decode cX4_push 143 = .ok (.getfield 16, 3) := by decide +kernel
theorem dX4_push_146 : decode cX4_push 146 = .ok (.invokevirtual 65, 3) := by decide +kernel
theorem dX4_push_149 : decode cX4_push 149 = .ok (.aload_n 0, 1) := by decide +kernel
theorem dX4_push_150 : decode cX4_push 150 = .ok (.iload_n 1, 1) := by decide +kernel
theorem dX4_push_151 : decode cX4_push 151 = .ok (.aload_n 0, 1) := by decide +kernel
theorem dX4_push_152 : decode cX4_push 152 = .ok (.getfield 16, 3) := by decide +kernel
theorem dX4_push_155 : decode cX4_push 155 = .ok (.invokevirtual 68, 3) := by decide +kernel
theorem dX4_push_158 : decode cX4_push 158 = .ok (.ireturn, 1) := by decide +kernel
theorem dX4_sizes_0 : decode cX4_sizes 0 = .ok (.aload_n 0, 1) := by decide +kernel
theorem dX4_sizes_1 : decode cX4_sizes 1 = .ok (.getfield 37, 3) := by decide +kernel
theorem dX4_sizes_4 : decode cX4_sizes 4 = .ok (.aload_n 1, 1) := by decide +kernel
theorem dX4_sizes_5 : decode cX4_sizes 5 = .ok (.getfield 37, 3) := by decide +kernel
theorem dX4_sizes_8 : decode cX4_sizes 8 = .ok (.if_icmp .eq 20, 3) := by decide +kernel
theorem dX4_sizes_11 : decode cX4_sizes 11 = .ok (.aload_n 0, 1) := by decide +kernel
theorem dX4_sizes_12 : decode cX4_sizes 12 = .ok (.getfield 37, 3) := by decide +kernel
theorem dX4_sizes_15 : decode cX4_sizes 15 = .ok (.aload_n 1, 1) := by decide +kernel
theorem dX4_sizes_16 : decode cX4_sizes 16 = .ok (.getfield 37, 3) := by decide +kernel
theorem dX4_sizes_19 : decode cX4_sizes 19 = .ok (.if_icmp .ge 7, 3) := by decide +kernel
theorem dX4_sizes_22 : decode cX4_sizes 22 = .ok (.iconst (-1), 1) := by decide +kernel
theorem dX4_sizes_23 : decode cX4_sizes 23 = .ok (.goto 4, 3) := by decide +kernel
theorem dX4_sizes_26 : decode cX4_sizes 26 = .ok (.iconst 1, 1) := by decide +kernel
theorem dX4_sizes_27 : decode cX4_sizes 27 = .ok (.ireturn, 1) := by decide +kernel
theorem dX4_sizes_28 : decode cX4_sizes 28 = .ok (.aload_n 0, 1) := by decide +kernel
theorem dX4_sizes_29 : decode cX4_sizes 29 = .ok (.getfield 37, 3) := by decide +kernel
theorem dX4_sizes_32 : decode cX4_sizes 32 = .ok (.iconst 1, 1) := by decide +kernel
theorem dX4_sizes_33 : decode cX4_sizes 33 = .ok (.isub, 1) := by decide +kernel
theorem dX4_sizes_34 : decode cX4_sizes 34 = .ok (.istore_n 2, 1) := by decide +kernel
theorem dX4_sizes_35 : decode cX4_sizes 35 = .ok (.iload_n 2, 1) := by decide +kernel
theorem dX4_sizes_36 : decode cX4_sizes 36 = .ok (.ifCond .lt 45, 3) := by decide +kernel
theorem dX4_sizes_39 : decode cX4_sizes 39 = .ok (.aload_n 0, 1) := by decide +kernel
theorem dX4_sizes_40 : decode cX4_sizes 40 = .ok (.getfield 58, 3) := by decide +kernel
theorem dX4_sizes_43 : decode cX4_sizes 43 = .ok (.iload_n 2, 1) := by decide +kernel
theorem dX4_sizes_44 : decode cX4_sizes 44 = .ok (.iaload, 1) := by decide +kernel
theorem dX4_sizes_45 : decode cX4_sizes 45 = .ok (.aload_n 1, 1) := by decide +kernel
theorem dX4_sizes_46 : decode cX4_sizes 46 = .ok (.getfield 58, 3) := by decide +kernel
theorem dX4_sizes_49 : decode cX4_sizes 49 = .ok (.iload_n 2, 1) := by decide +kernel
theorem dX4_sizes_50 : decode cX4_sizes 50 = .ok (.iaload, 1) := by decide +kernel
theorem dX4_sizes_51 : decode cX4_sizes 51 = .ok (.if_icmp .eq 24, 3) := by decide +kernel
theorem dX4_sizes_54 : decode cX4_sizes 54 = .ok (.aload_n 0, 1) := by decide +kernel
theorem dX4_sizes_55 : decode cX4_sizes 55 = .ok (.getfield 58, 3) := by decide +kernel
theorem dX4_sizes_58 : decode cX4_sizes 58 = .ok (.iload_n 2, 1) := by decide +kernel
theorem dX4_sizes_59 : decode cX4_sizes 59 = .ok (.iaload, 1) := by decide +kernel
theorem dX4_sizes_60 : decode cX4_sizes 60 = .ok (.aload_n 1, 1) := by decide +kernel
theorem dX4_sizes_61 : decode cX4_sizes 61 = .ok (.getfield 58, 3) := by decide +kernel
theorem dX4_sizes_64 : decode cX4_sizes 64 = .ok (.iload_n 2, 1) := by decide +kernel
theorem dX4_sizes_65 : decode cX4_sizes 65 = .ok (.iaload, 1) := by decide +kernel
theorem dX4_sizes_66 : decode cX4_sizes 66 = .ok (.if_icmp .ge 7, 3) := by decide +kernel
theorem dX4_sizes_69 : decode cX4_sizes 69 = .ok (.iconst (-1), 1) := by decide +kernel
theorem dX4_sizes_70 : decode cX4_sizes 70 = .ok (.goto 4, 3) := by decide +kernel
theorem dX4_sizes_73 : decode cX4_sizes 73 = .ok (.iconst 1, 1) := by decide +kernel
theorem dX4_sizes_74 : decode cX4_sizes 74 = .ok (.ireturn, 1) := by decide +kernel
theorem dX4_sizes_75 : decode cX4_sizes 75 = .ok (.iinc 2 (-1), 3) := by decide +kernel
theorem dX4_sizes_78 : decode cX4_sizes 78 = .ok (.goto (-43), 3) := by decide +kernel
theorem dX4_sizes_81 : decode cX4_sizes 81 = .ok (.iconst 0, 1) := by decide +kernel
theorem dX4_sizes_82 : decode cX4_sizes 82 = .ok (.ireturn, 1) := by decide +kernel
set_option maxRecDepth 20000 in
theorem ggX4_align_X3_take : GoodIn wsX4_align wsX3_take := goodIn_r _ [9, 10, 11, 12, 13, 29, 30, 31, 32] (by decide +kernel) (by decide +kernel)
set_option maxRecDepth 20000 in
theorem gX4_align_X3_take : GoodIn wsX4_align (wsV RX4 48 RX3 yX3_take wsX3_take) := goodIn_app (goodIn_of _ (by decide +kernel)) ggX4_align_X3_take
set_option maxRecDepth 20000 in
theorem ggX4_align_X3_up : GoodIn wsX4_align wsX3_up := goodIn_r _ [17, 10, 13, 18, 19, 20, 8, 21, 29, 30, 31, 32] (by decide +kernel) (by decide +kernel)
set_option maxRecDepth 20000 in
theorem gX4_align_X3_up : GoodIn wsX4_align (wsV RX4 72 RX3 yX3_up wsX3_up) := goodIn_app (goodIn_of _ (by decide +kernel)) ggX4_align_X3_up
theorem dX4_align_0 : decode cX4_align 0 = .ok (.aload_n 0, 1) := by decide +kernel
theorem dX4_align_1 : decode cX4_align 1 = .ok (.getfield 16, 3) := by decide +kernel
theorem dX4_align_4 : decode cX4_align 4 = .ok (.aload_n 0, 1) := by decide +kernel
theorem dX4_align_5 : decode cX4_align 5 = .ok (.getfield 9, 3) := by decide +kernel
theorem dX4_align_8 : decode cX4_align 8 = .ok (.iload_n 1, 1) := by decide +kernel
theorem dX4_align_9 : decode cX4_align 9 = .ok (.aaload, 1) := by decide +kernel
theorem dX4_align_10 : decode cX4_align 10 = .ok (.invokevirtual 48, 3) := by decide +kernel
theorem dX4_align_13 : decode cX4_align 13 = .ok (.aload_n 0, 1) := by decide +kernel
theorem dX4_align_14 : decode cX4_align 14 = .ok (.getfield 20, 3) := by decide +kernel
theorem dX4_align_17 : decode cX4_align 17 = .ok (.aload_n 0, 1) := by decide +kernel
theorem dX4_align_18 : decode cX4_align 18 = .ok (.getfield 9, 3) := by decide +kernel
theorem dX4_align_21 : decode cX4_align 21 = .ok (.iload_n 2, 1) := by decide +kernel
theorem dX4_align_22 : decode cX4_align 22 = .ok (.aaload, 1) := by decide +kernel
theorem dX4_align_23 : decode cX4_align 23 = .ok (.invokevirtual 48, 3) := by decide +kernel
theorem dX4_align_26 : decode cX4_align 26 = .ok (.aload_n 0, 1) := by decide +kernel
theorem dX4_align_27 : decode cX4_align 27 = .ok (.getfield 16, 3) := by decide +kernel
theorem dX4_align_30 : decode cX4_align 30 = .ok (.getfield 41, 3) := by decide +kernel
theorem dX4_align_33 : decode cX4_align 33 = .ok (.aload_n 0, 1) := by decide +kernel
theorem dX4_align_34 : decode cX4_align 34 = .ok (.getfield 20, 3) := by decide +kernel
theorem dX4_align_37 : decode cX4_align 37 = .ok (.getfield 41, 3) := by decide +kernel
theorem dX4_align_40 : decode cX4_align 40 = .ok (.if_icmp .le 13, 3) := by decide +kernel
theorem dX4_align_43 : decode cX4_align 43 = .ok (.aload_n 0, 1) := by decide +kernel
theorem dX4_align_44 : decode cX4_align 44 = .ok (.getfield 16, 3) := by decide +kernel
theorem dX4_align_47 : decode cX4_align 47 = .ok (.getfield 41, 3) := by decide +kernel
theorem dX4_align_50 : decode cX4_align 50 = .ok (.goto 10, 3) := by decide +kernel
theorem dX4_align_53 : decode cX4_align 53 = .ok (.aload_n 0, 1) := by decide +kernel
theorem dX4_align_54 : decode cX4_align 54 = .ok (.getfield 20, 3) := by decide +kernel
theorem dX4_align_57 : decode cX4_align 57 = .ok (.getfield 41, 3) := by decide +kernel
theorem dX4_align_60 : decode cX4_align 60 = .ok (.istore_n 3, 1) := by decide +kernel
theorem dX4_align_61 : decode cX4_align 61 = .ok (.aload_n 0, 1) := by decide +kernel
theorem dX4_align_62 : decode cX4_align 62 = .ok (.getfield 16, 3) := by decide +kernel
theorem dX4_align_65 : decode cX4_align 65 = .ok (.iload_n 3, 1) := by decide +kernel
theorem dX4_align_66 : decode cX4_align 66 = .ok (.aload_n 0, 1) := by decide +kernel
theorem dX4_align_67 : decode cX4_align 67 = .ok (.getfield 16, 3) := by decide +kernel
theorem dX4_align_70 : decode cX4_align 70 = .ok (.getfield 41, 3) := by decide +kernel
theorem dX4_align_73 : decode cX4_align 73 = .ok (.isub, 1) := by decide +kernel
theorem dX4_align_74 : decode cX4_align 74 = .ok (.invokevirtual 72, 3) := by decide +kernel
theorem dX4_align_77 : decode cX4_align 77 = .ok (.aload_n 0, 1) := by decide +kernel
theorem dX4_align_78 : decode cX4_align 78 = .ok (.getfield 20, 3) := by decide +kernel
theorem dX4_align_81 : decode cX4_align 81 = .ok (.iload_n 3, 1) := by decide +kernel
theorem dX4_align_82 : decode cX4_align 82 = .ok (.aload_n 0, 1) := by decide +kernel
theorem dX4_align_83 : decode cX4_align 83 = .ok (.getfield 20, 3) := by decide +kernel
theorem dX4_align_86 : decode cX4_align 86 = .ok (.getfield 41, 3) := by decide +kernel
theorem dX4_align_89 : decode cX4_align 89 = .ok (.isub, 1) := by decide +kernel
theorem dX4_align_90 : decode cX4_align 90 = .ok (.invokevirtual 72, 3) := by decide +kernel
theorem dX4_align_93 : decode cX4_align 93 = .ok (.aload_n 0, 1) := by decide +kernel
theorem dX4_align_94 : decode cX4_align 94 = .ok (.getfield 16, 3) := by decide +kernel
theorem dX4_align_97 : decode cX4_align 97 = .ok (.iload_n 3, 1) := by decide +kernel
theorem dX4_align_98 : decode cX4_align 98 = .ok (.putfield 41, 3) := by decide +kernel
theorem dX4_align_101 : decode cX4_align 101 = .ok (.aload_n 0, 1) := by decide +kernel
theorem dX4_align_102 : decode cX4_align 102 = .ok (.getfield 20, 3) := by decide +kernel
theorem dX4_align_105 : decode cX4_align 105 = .ok (.iload_n 3, 1) := by decide +kernel
theorem dX4_align_106 : decode cX4_align 106 = .ok (.putfield 41, 3) := by decide +kernel
theorem dX4_align_109 : decode cX4_align 109 = .ok (.return_, 1) := by decide +kernel
set_option maxRecDepth 20000 in
theorem ggX4_order_X4_align : GoodIn wsX4_order wsX4_align := goodIn_r _ [8, 1, 9, 3, 10, 11, 12, 13, 14, 15, 16, 17, 18, 19, 20, 21, 22, 23, 24, 25, 26, 27, 33, 34, 35, 36, 37, 38, 39, 40, 41, 42, 43] (by decide +kernel) (by decide +kernel)
set_option maxRecDepth 20000 in
theorem gX4_order_X4_align : GoodIn wsX4_order (wsV RX4 76 RX4 yX4_align wsX4_align) := goodIn_app (goodIn_of _ (by decide +kernel)) ggX4_order_X4_align
set_option maxRecDepth 20000 in
theorem ggX4_order_X4_sizes : GoodIn wsX4_order wsX4_sizes := goodIn_r _ [30, 31, 32, 40, 41, 42, 43] (by decide +kernel) (by decide +kernel)
set_option maxRecDepth 20000 in
theorem gX4_order_X4_sizes : GoodIn wsX4_order (va_wsS RX4 80 yX4_sizes wsX4_sizes) := goodIn_app (goodIn_of _ (by decide +kernel)) ggX4_order_X4_sizes
theorem dX4_order_0 : decode cX4_order 0 = .ok (.aload_n 0, 1) := by decide +kernel
theorem dX4_order_1 : decode cX4_order 1 = .ok (.iload_n 1, 1) := by decide +kernel
theorem dX4_order_2 : decode cX4_order 2 = .ok (.iload_n 2, 1) := by decide +kernel
theorem dX4_order_3 : decode cX4_order 3 = .ok (.invokevirtual 76, 3) := by decide +kernel
theorem dX4_order_6 : decode cX4_order 6 = .ok (.aload_n 0, 1) := by decide +kernel
theorem dX4_order_7 : decode cX4_order 7 = .ok (.getfield 16, 3) := by decide +kernel
theorem dX4_order_10 : decode cX4_order 10 = .ok (.getfield 61, 3) := by decide +kernel
theorem dX4_order_13 : decode cX4_order 13 = .ok (.aload_n 0, 1) := by decide +kernel
theorem dX4_order_14 : decode cX4_order 14 = .ok (.getfield 20, 3) := by decide +kernel
theorem dX4_order_17 : decode cX4_order 17 = .ok (.getfield 61, 3) := by decide +kernel
theorem dX4_order_20 : decode cX4_order 20 = .ok (.if_icmp .eq 19, 3) := by decide +kernel
theorem dX4_order_23 : decode cX4_order 23 = .ok (.aload_n 0, 1) := by decide +kernel
theorem dX4_order_24 : decode cX4_order 24 = .ok (.getfield 16, 3) := by decide +kernel
theorem dX4_order_27 : decode cX4_order 27 = .ok (.getfield 61, 3) := by decide +kernel
theorem dX4_order_30 : decode cX4_order 30 = .ok (.ifCond .eq 7, 3) := by decide +kernel
theorem dX4_order_33 : decode cX4_order 33 = .ok (.iconst (-1), 1) := by decide +kernel
theorem dX4_order_34 : decode cX4_order 34 = .ok (.goto 4, 3) := by decide +kernel
theorem dX4_order_37 : decode cX4_order 37 = .ok (.iconst 1, 1) := by decide +kernel
theorem dX4_order_38 : decode cX4_order 38 = .ok (.ireturn, 1) := by decide +kernel
theorem dX4_order_39 : decode cX4_order 39 = .ok (.aload_n 0, 1) := by decide +kernel
theorem dX4_order_40 : decode cX4_order 40 = .ok (.getfield 16, 3) := by decide +kernel
theorem dX4_order_43 : decode cX4_order 43 = .ok (.aload_n 0, 1) := by decide +kernel
theorem dX4_order_44 : decode cX4_order 44 = .ok (.getfield 20, 3) := by decide +kernel
theorem dX4_order_47 : decode cX4_order 47 = .ok (.invokestatic 80, 3) := by decide +kernel
theorem dX4_order_50 : decode cX4_order 50 = .ok (.istore_n 3, 1) := by decide +kernel
theorem dX4_order_51 : decode cX4_order 51 = .ok (.aload_n 0, 1) := by decide +kernel
theorem dX4_order_52 : decode cX4_order 52 = .ok (.getfield 16, 3) := by decide +kernel
theorem dX4_order_55 : decode cX4_order 55 = .ok (.getfield 61, 3) := by decide +kernel
theorem dX4_order_58 : decode cX4_order 58 = .ok (.ifCond .eq 8, 3) := by decide +kernel
theorem dX4_order_61 : decode cX4_order 61 = .ok (.iload_n 3, 1) := by decide +kernel
theorem dX4_order_62 : decode cX4_order 62 = .ok (.ineg, 1) := by decide +kernel
theorem dX4_order_63 : decode cX4_order 63 = .ok (.goto 4, 3) := by decide +kernel
theorem dX4_order_66 : decode cX4_order 66 = .ok (.iload_n 3, 1) := by decide +kernel
theorem dX4_order_67 : decode cX4_order 67 = .ok (.ireturn, 1) := by decide +kernel
set_option maxRecDepth 20000 in
theorem ggX4_sum_X3_isZero : GoodIn wsX4_sum wsX3_isZero := goodIn_r _ [12, 13, 14, 32, 33, 34, 35] (by decide +kernel) (by decide +kernel)
set_option maxRecDepth 20000 in
theorem gX4_sum_X3_isZero : GoodIn wsX4_sum (wsV RX4 84 RX3 yX3_isZero wsX3_isZero) := goodIn_app (goodIn_of _ (by decide +kernel)) ggX4_sum_X3_isZero
set_option maxRecDepth 20000 in
theorem ggX4_sum_X4_sizes : GoodIn wsX4_sum wsX4_sizes := goodIn_r _ [18, 6, 7, 32, 33, 34, 35] (by decide +kernel) (by decide +kernel)
set_option maxRecDepth 20000 in
theorem gX4_sum_X4_sizes : GoodIn wsX4_sum (va_wsS RX4 80 yX4_sizes wsX4_sizes) := goodIn_app (goodIn_of _ (by decide +kernel)) ggX4_sum_X4_sizes
set_option maxRecDepth 20000 in
theorem ggX4_sum_X3_trim : GoodIn wsX4_sum wsX3_trim := goodIn_r _ [22, 13, 14, 23, 24, 9, 10, 11, 12, 32, 33, 34, 35] (by decide +kernel) (by decide +kernel)
set_option maxRecDepth 20000 in
theorem gX4_sum_X3_trim : GoodIn wsX4_sum (wsV RX4 65 RX3 yX3_trim wsX3_trim) := goodIn_app (goodIn_of _ (by decide +kernel)) ggX4_sum_X3_trim
theorem dX4_sum_0 : decode cX4_sum 0 = .ok (.aload_n 0, 1) := by decide +kernel
theorem dX4_sum_1 : decode cX4_sum 1 = .ok (.getfield 20, 3) := by decide +kernel
theorem dX4_sum_4 : decode cX4_sum 4 = .ok (.getfield 61, 3) := by decide +kernel
theorem dX4_sum_7 : decode cX4_sum 7 = .ok (.iload_n 1, 1) := by decide +kernel
theorem dX4_sum_8 : decode cX4_sum 8 = .ok (.ifCond .eq 17, 3) := by decide +kernel
theorem dX4_sum_11 : decode cX4_sum 11 = .ok (.aload_n 0, 1) := by decide +kernel
theorem dX4_sum_12 : decode cX4_sum 12 = .ok (.getfield 20, 3) := by decide +kernel
theorem dX4_sum_15 : decode cX4_sum 15 = .ok (.invokevirtual 84, 3) := by decide +kernel
theorem dX4_sum_18 : decode cX4_sum 18 = .ok (.ifCond .ne 7, 3) := by decide +kernel
theorem dX4_sum_21 : decode cX4_sum 21 = .ok (.iconst 1, 1) := by decide +kernel
theorem dX4_sum_22 : decode cX4_sum 22 = .ok (.goto 4, 3) := by decide +kernel
theorem dX4_sum_25 : decode cX4_sum 25 = .ok (.iconst 0, 1) := by decide +kernel
theorem dX4_sum_26 : decode cX4_sum 26 = .ok (.if_icmp .eq 7, 3) := by decide +kernel
theorem dX4_sum_29 : decode cX4_sum 29 = .ok (.iconst 1, 1) := by decide +kernel
theorem dX4_sum_30 : decode cX4_sum 30 = .ok (.goto 4, 3) := by decide +kernel
theorem dX4_sum_33 : decode cX4_sum 33 = .ok (.iconst 0, 1) := by decide +kernel
theorem dX4_sum_34 : decode cX4_sum 34 = .ok (.istore_n 2, 1) := by decide +kernel
theorem dX4_sum_35 : decode cX4_sum 35 = .ok (.aload_n 0, 1) := by decide +kernel
theorem dX4_sum_36 : decode cX4_sum 36 = .ok (.getfield 23, 3) := by decide +kernel
theorem dX4_sum_39 : decode cX4_sum 39 = .ok (.aload_n 0, 1) := by decide +kernel
theorem dX4_sum_40 : decode cX4_sum 40 = .ok (.getfield 16, 3) := by decide +kernel
theorem dX4_sum_43 : decode cX4_sum 43 = .ok (.getfield 41, 3) := by decide +kernel
theorem dX4_sum_46 : decode cX4_sum 46 = .ok (.putfield 41, 3) := by decide +kernel
theorem dX4_sum_49 : decode cX4_sum 49 = .ok (.aload_n 0, 1) := by decide +kernel
theorem dX4_sum_50 : decode cX4_sum 50 = .ok (.getfield 16, 3) := by decide +kernel
theorem dX4_sum_53 : decode cX4_sum 53 = .ok (.getfield 37, 3) := by decide +kernel
theorem dX4_sum_56 : decode cX4_sum 56 = .ok (.aload_n 0, 1) := by decide +kernel
theorem dX4_sum_57 : decode cX4_sum 57 = .ok (.getfield 20, 3) := by decide +kernel
theorem dX4_sum_60 : decode cX4_sum 60 = .ok (.getfield 37, 3) := by decide +kernel
theorem dX4_sum_63 : decode cX4_sum 63 = .ok (.if_icmp .le 13, 3) := by decide +kernel
theorem dX4_sum_66 : decode cX4_sum 66 = .ok (.aload_n 0, 1) := by decide +kernel
theorem dX4_sum_67 : decode cX4_sum 67 = .ok (.getfield 16, 3) := by decide +kernel
theorem dX4_sum_70 : decode cX4_sum 70 = .ok (.getfield 37, 3) := by decide +kernel
theorem dX4_sum_73 : decode cX4_sum 73 = .ok (.goto 10, 3) := by decide +kernel
theorem dX4_sum_76 : decode cX4_sum 76 = .ok (.aload_n 0, 1) := by decide +kernel
theorem dX4_sum_77 : decode cX4_sum 77 = .ok (.getfield 20, 3) := by decide +kernel
theorem dX4_sum_80 : decode cX4_sum 80 = .ok (.getfield 37, 3) := by decide +kernel
theorem dX4_sum_83 : decode cX4_sum 83 = .ok (.istore_n 3, 1) := by decide +kernel
theorem dX4_sum_84 : decode cX4_sum 84 = .ok (.aload_n 0, 1) := by decide +kernel
theorem dX4_sum_85 : decode cX4_sum 85 = .ok (.getfield 16, 3) := by decide +kernel
theorem dX4_sum_88 : decode cX4_sum 88 = .ok (.getfield 37, 3) := by decide +kernel
theorem dX4_sum_91 : decode cX4_sum 91 = .ok (.istore 4, 2) := by decide +kernel
theorem dX4_sum_93 : decode cX4_sum 93 = .ok (.iload 4, 2) := by decide +kernel
theorem dX4_sum_95 : decode cX4_sum 95 = .ok (.iload_n 3, 1) := by decide +kernel
theorem dX4_sum_96 : decode cX4_sum 96 = .ok (.if_icmp .ge 20, 3) := by decide +kernel
theorem dX4_sum_99 : decode cX4_sum 99 = .ok (.aload_n 0, 1) := by decide +kernel
theorem dX4_sum_100 : decode cX4_sum 100 = .ok (.getfield 16, 3) := by decide +kernel
theorem dX4_sum_103 : decode cX4_sum 103 = .ok (.getfield 58, 3) := by decide +kernel
theorem dX4_sum_106 : decode cX4_sum 106 = .ok (.iload 4, 2) := by decide +kernel
theorem dX4_sum_108 : decode cX4_sum 108 = .ok (.iconst 0, 1) := by decide +kernel
theorem dX4_sum_109 : decode cX4_sum 109 = .ok (.iastore, 1) := by decide +kernel
theorem dX4_sum_110 : decode cX4_sum 110 = .ok (.iinc 4 1, 3) := by decide +kernel
theorem dX4_sum_113 : decode cX4_sum 113 = .ok (.goto (-20), 3) := by decide +kernel
theorem dX4_sum_116 : decode cX4_sum 116 = .ok (.aload_n 0, 1) := by decide +kernel
theorem dX4_sum_117 : decode cX4_sum 117 = .ok (.getfield 20, 3) := by decide +kernel
theorem dX4_sum_120 : decode cX4_sum 120 = .ok (.getfield 37, 3) := by decide +kernel
theorem dX4_sum_123 : decode cX4_sum 123 = .ok (.istore 4, 2) := by decide +kernel
theorem dX4_sum_125 : decode cX4_sum 125 = .ok (.iload 4, 2) := by decide +kernel
theorem dX4_sum_127 : decode cX4_sum 127 = .ok (.iload_n 3, 1) := by decide +kernel
theorem dX4_sum_128 : decode cX4_sum 128 = .ok (.if_icmp .ge 20, 3) := by decide +kernel
theorem dX4_sum_131 : decode cX4_sum 131 = .ok (.aload_n 0, 1) := by decide +kernel
theorem dX4_sum_132 : decode cX4_sum 132 = .ok (.getfield 20, 3) := by decide +kernel
theorem dX4_sum_135 : decode cX4_sum 135 = .ok (.getfield 58, 3) := by decide +kernel
theorem dX4_sum_138 : decode cX4_sum 138 = .ok (.iload 4, 2) := by decide +kernel
theorem dX4_sum_140 : decode cX4_sum 140 = .ok (.iconst 0, 1) := by decide +kernel
theorem dX4_sum_141 : decode cX4_sum 141 = .ok (.iastore, 1) := by decide +kernel
theorem dX4_sum_142 : decode cX4_sum 142 = .ok (.iinc 4 1, 3) := by decide +kernel
theorem dX4_sum_145 : decode cX4_sum 145 = .ok (.goto (-20), 3) := by decide +kernel
theorem dX4_sum_148 : decode cX4_sum 148 = .ok (.aload_n 0, 1) := by decide +kernel
theorem dX4_sum_149 : decode cX4_sum 149 = .ok (.getfield 16, 3) := by decide +kernel
theorem dX4_sum_152 : decode cX4_sum 152 = .ok (.getfield 61, 3) := by decide +kernel
theorem dX4_sum_155 : decode cX4_sum 155 = .ok (.iload_n 2, 1) := by decide +kernel
theorem dX4_sum_156 : decode cX4_sum 156 = .ok (.if_icmp .eq 23, 3) := by decide +kernel
theorem dX4_sum_159 : decode cX4_sum 159 = .ok (.aload_n 0, 1) := by decide +kernel
theorem dX4_sum_160 : decode cX4_sum 160 = .ok (.getfield 16, 3) := by decide +kernel
theorem dX4_sum_163 : decode cX4_sum 163 = .ok (.invokevirtual 84, 3) := by decide +kernel
theorem dX4_sum_166 : decode cX4_sum 166 = .ok (.ifCond .ne 13, 3) := by decide +kernel
theorem dX4_sum_169 : decode cX4_sum 169 = .ok (.aload_n 0, 1) := by decide +kernel
theorem dX4_sum_170 : decode cX4_sum 170 = .ok (.getfield 20, 3) := by decide +kernel
theorem dX4_sum_173 : decode cX4_sum 173 = .ok (.invokevirtual 84, 3) := by decide +kernel
theorem dX4_sum_176 : decode cX4_sum 176 = .ok (.ifCond .eq 121, 3) := by decide +kernel
theorem dX4_sum_179 : decode cX4_sum 179 = .ok (.iconst 0, 1) := by decide +kernel
theorem dX4_sum_180 : decode cX4_sum 180 = .ok (.istore 4, 2) := by decide +kernel
theorem dX4_sum_182 : decode cX4_sum 182 = .ok (.iconst 0, 1) := by decide +kernel
theorem dX4_sum_183 : decode cX4_sum 183 = .ok (.istore 5, 2) := by decide +kernel
theorem dX4_sum_185 : decode cX4_sum 185 = .ok (.iload 5, 2) := by decide +kernel
theorem dX4_sum_187 : decode cX4_sum 187 = .ok (.iload_n 3, 1) := by decide +kernel
theorem dX4_sum_188 : decode cX4_sum 188 = .ok (.if_icmp .ge 57, 3) := by decide +kernel
theorem dX4_sum_191 : decode cX4_sum 191 = .ok (.aload_n 0, 1) := by decide +kernel
theorem dX4_sum_192 : decode cX4_sum 192 = .ok (.getfield 16, 3) := by decide +kernel
theorem dX4_sum_195 : decode cX4_sum 195 = .ok (.getfield 58, 3) := by decide +kernel
theorem dX4_sum_198 : decode cX4_sum 198 = .ok (.iload 5, 2) := by decide +kernel
theorem dX4_sum_200 : decode cX4_sum 200 = .ok (.iaload, 1) := by decide +kernel
theorem dX4_sum_201 : decode cX4_sum 201 = .ok (.aload_n 0, 1) := by decide +kernel
theorem dX4_sum_202 : decode cX4_sum 202 = .ok (.getfield 20, 3) := by decide +kernel
theorem dX4_sum_205 : decode cX4_sum 205 = .ok (.getfield 58, 3) := by decide +kernel
theorem dX4_sum_208 : decode cX4_sum 208 = .ok (.iload 5, 2) := by decide +kernel
theorem dX4_sum_210 : decode cX4_sum 210 = .ok (.iaload, 1) := by decide +kernel
theorem dX4_sum_211 : decode cX4_sum 211 = .ok (.iadd, 1) := by decide +kernel
theorem dX4_sum_212 : decode cX4_sum 212 = .ok (.iload 4, 2) := by decide +kernel
theorem dX4_sum_214 : decode cX4_sum 214 = .ok (.iadd, 1) := by decide +kernel
theorem dX4_sum_215 : decode cX4_sum 215 = .ok (.istore 6, 2) := by decide +kernel
theorem dX4_sum_217 : decode cX4_sum 217 = .ok (.aload_n 0, 1) := by decide +kernel
theorem dX4_sum_218 : decode cX4_sum 218 = .ok (.getfield 23, 3) := by decide +kernel
theorem dX4_sum_221 : decode cX4_sum 221 = .ok (.getfield 58, 3) := by decide +kernel
theorem dX4_sum_224 : decode cX4_sum 224 = .ok (.iload 5, 2) := by decide +kernel
theorem dX4_sum_226 : decode cX4_sum 226 = .ok (.iload 6, 2) := by decide +kernel
theorem dX4_sum_228 : decode cX4_sum 228 = .ok (.bipush 10, 2) := by decide +kernel
theorem dX4_sum_230 : decode cX4_sum 230 = .ok (.irem, 1) := by decide +kernel
theorem dX4_sum_231 : decode cX4_sum 231 = .ok (.iastore, 1) := by decide +kernel
theorem dX4_sum_232 : decode cX4_sum 232 = .ok (.iload 6, 2) := by decide +kernel
theorem dX4_sum_234 : decode cX4_sum 234 = .ok (.bipush 10, 2) := by decide +kernel
theorem dX4_sum_236 : decode cX4_sum 236 = .ok (.idiv, 1) := by decide +kernel
theorem dX4_sum_237 : decode cX4_sum 237 = .ok (.istore 4, 2) := by decide +kernel
theorem dX4_sum_239 : decode cX4_sum 239 = .ok (.iinc 5 1, 3) := by decide +kernel
theorem dX4_sum_242 : decode cX4_sum 242 = .ok (.goto (-57), 3) := by decide +kernel
theorem dX4_sum_245 : decode cX4_sum 245 = .ok (.aload_n 0, 1) := by decide +kernel
theorem dX4_sum_246 : decode cX4_sum 246 = .ok (.getfield 23, 3) := by decide +kernel
theorem dX4_sum_249 : decode cX4_sum 249 = .ok (.getfield 58, 3) := by decide +kernel
theorem dX4_sum_252 : decode cX4_sum 252 = .ok (.iload_n 3, 1) := by decide +kernel
theorem dX4_sum_253 : decode cX4_sum 253 = .ok (.iload 4, 2) := by decide +kernel
theorem dX4_sum_255 : decode cX4_sum 255 = .ok (.iastore, 1) := by decide +kernel
theorem dX4_sum_256 : decode cX4_sum 256 = .ok (.aload_n 0, 1) := by decide +kernel
theorem dX4_sum_257 : decode cX4_sum 257 = .ok (.getfield 23, 3) := by decide +kernel
theorem dX4_sum_260 : decode cX4_sum 260 = .ok (.iload_n 3, 1) := by decide +kernel
theorem dX4_sum_261 : decode cX4_sum 261 = .ok (.iconst 1, 1) := by decide +kernel
theorem dX4_sum_262 : decode cX4_sum 262 = .ok (.iadd, 1) := by decide +kernel
theorem dX4_sum_263 : decode cX4_sum 263 = .ok (.putfield 37, 3) := by decide +kernel
theorem dX4_sum_266 : decode cX4_sum 266 = .ok (.aload_n 0, 1) := by decide +kernel
theorem dX4_sum_267 : decode cX4_sum 267 = .ok (.getfield 23, 3) := by decide +kernel
theorem dX4_sum_270 : decode cX4_sum 270 = .ok (.aload_n 0, 1) := by decide +kernel
theorem dX4_sum_271 : decode cX4_sum 271 = .ok (.getfield 16, 3) := by decide +kernel
theorem dX4_sum_274 : decode cX4_sum 274 = .ok (.invokevirtual 84, 3) := by decide +kernel
theorem dX4_sum_277 : decode cX4_sum 277 = .ok (.ifCond .eq 7, 3) := by decide +kernel
theorem dX4_sum_280 : decode cX4_sum 280 = .ok (.iload_n 2, 1) := by decide +kernel
theorem dX4_sum_281 : decode cX4_sum 281 = .ok (.goto 10, 3) := by decide +kernel
theorem dX4_sum_284 : decode cX4_sum 284 = .ok (.aload_n 0, 1) := by decide +kernel
theorem dX4_sum_285 : decode cX4_sum 285 = .ok (.getfield 16, 3) := by decide +kernel
theorem dX4_sum_288 : decode cX4_sum 288 = .ok (.getfield 61, 3) := by decide +kernel
theorem dX4_sum_291 : decode cX4_sum 291 = .ok (.putfield 61, 3) := by decide +kernel
theorem dX4_sum_294 : decode cX4_sum 294 = .ok (.goto 165, 3) := by decide +kernel
theorem dX4_sum_297 : decode cX4_sum 297 = .ok (.aload_n 0, 1) := by decide +kernel
theorem dX4_sum_298 : decode cX4_sum 298 = .ok (.getfield 16, 3) := by decide +kernel
theorem dX4_sum_301 : decode cX4_sum 301 = .ok (.aload_n 0, 1) := by decide +kernel
theorem dX4_sum_302 : decode cX4_sum 302 = .ok (.getfield 20, 3) := by decide +kernel
theorem dX4_sum_305 : decode cX4_sum 305 = .ok (.invokestatic 80, 3) := by decide +kernel
theorem dX4_sum_308 : decode cX4_sum 308 = .ok (.ifCond .ge 7, 3) := by decide +kernel
theorem dX4_sum_311 : decode cX4_sum 311 = .ok (.iconst 1, 1) := by decide +kernel
theorem dX4_sum_312 : decode cX4_sum 312 = .ok (.goto 4, 3) := by decide +kernel
theorem dX4_sum_315 : decode cX4_sum 315 = .ok (.iconst 0, 1) := by decide +kernel
theorem dX4_sum_316 : decode cX4_sum 316 = .ok (.istore 4, 2) := by decide +kernel
theorem dX4_sum_318 : decode cX4_sum 318 = .ok (.iconst 0, 1) := by decide +kernel
theorem dX4_sum_319 : decode cX4_sum 319 = .ok (.istore 5, 2) := by decide +kernel
theorem dX4_sum_321 : decode cX4_sum 321 = .ok (.iconst 0, 1) := by decide +kernel
theorem dX4_sum_322 : decode cX4_sum 322 = .ok (.istore 6, 2) := by decide +kernel
theorem dX4_sum_324 : decode cX4_sum 324 = .ok (.iload 6, 2) := by decide +kernel
theorem dX4_sum_326 : decode cX4_sum 326 = .ok (.iload_n 3, 1) := by decide +kernel
theorem dX4_sum_327 : decode cX4_sum 327 = .ok (.if_icmp .ge 101, 3) := by decide +kernel
theorem dX4_sum_330 : decode cX4_sum 330 = .ok (.iload 4, 2) := by decide +kernel
theorem dX4_sum_332 : decode cX4_sum 332 = .ok (.ifCond .eq 27, 3) := by decide +kernel
theorem dX4_sum_335 : decode cX4_sum 335 = .ok (.aload_n 0, 1) := by decide +kernel
theorem dX4_sum_336 : decode cX4_sum 336 = .ok (.getfield 20, 3) := by decide +kernel
theorem dX4_sum_339 : decode cX4_sum 339 = .ok (.getfield 58, 3) := by decide +kernel
theorem dX4_sum_342 : decode cX4_sum 342 = .ok (.iload 6, 2) := by decide +kernel
theorem dX4_sum_344 : decode cX4_sum 344 = .ok (.iaload, 1) := by decide +kernel
theorem dX4_sum_345 : decode cX4_sum 345 = .ok (.aload_n 0, 1) := by decide +kernel
theorem dX4_sum_346 : decode cX4_sum 346 = .ok (.getfield 16, 3) := by decide +kernel
theorem dX4_sum_349 : decode cX4_sum 349 = .ok (.getfield 58, 3) := by decide +kernel
theorem dX4_sum_352 : decode cX4_sum 352 = .ok (.iload 6, 2) := by decide +kernel
theorem dX4_sum_354 : decode cX4_sum 354 = .ok (.iaload, 1) := by decide +kernel
theorem dX4_sum_355 : decode cX4_sum 355 = .ok (.isub, 1) := by decide +kernel
theorem dX4_sum_356 : decode cX4_sum 356 = .ok (.goto 24, 3) := by decide +kernel
theorem dX4_sum_359 : decode cX4_sum 359 = .ok (.aload_n 0, 1) := by decide +kernel
theorem dX4_sum_360 : decode cX4_sum 360 = .ok (.getfield 16, 3) := by decide +kernel
theorem dX4_sum_363 : decode cX4_sum 363 = .ok (.getfield 58, 3) := by decide +kernel
theorem dX4_sum_366 : decode cX4_sum 366 = .ok (.iload 6, 2) := by decide +kernel
theorem dX4_sum_368 : decode cX4_sum 368 = .ok (.iaload, 1) := by decide +kernel
theorem dX4_sum_369 : decode cX4_sum 369 = .ok (.aload_n 0, 1) := by decide +kernel
theorem dX4_sum_370 : decode cX4_sum 370 = .ok (.getfield 20, 3) := by decide +kernel
theorem dX4_sum_373 : decode cX4_sum 373 = .ok (.getfield 58, 3) := by decide +kernel
theorem dX4_sum_376 : decode cX4_sum 376 = .ok (.iload 6, 2) := by decide +kernel
theorem dX4_sum_378 : decode cX4_sum 378 = .ok (.iaload, 1) := by decide +kernel
theorem dX4_sum_379 : decode cX4_sum 379 = .ok (.isub, 1) := by decide +kernel
theorem dX4_sum_380 : decode cX4_sum 380 = .ok (.iload 5, 2) := by decide +kernel
theorem dX4_sum_382 : decode cX4_sum 382 = .ok (.isub, 1) := by decide +kernel
theorem dX4_sum_383 : decode cX4_sum 383 = .ok (.istore 7, 2) := by decide +kernel
theorem dX4_sum_385 : decode cX4_sum 385 = .ok (.iload 7, 2) := by decide +kernel
theorem dX4_sum_387 : decode cX4_sum 387 = .ok (.ifCond .ge 7, 3) := by decide +kernel
theorem dX4_sum_390 : decode cX4_sum 390 = .ok (.iconst 1, 1) := by decide +kernel
theorem dX4_sum_391 : decode cX4_sum 391 = .ok (.goto 4, 3) := by decide +kernel
theorem dX4_sum_394 : decode cX4_sum 394 = .ok (.iconst 0, 1) := by decide +kernel
theorem dX4_sum_395 : decode cX4_sum 395 = .ok (.istore 5, 2) := by decide +kernel
theorem dX4_sum_397 : decode cX4_sum 397 = .ok (.aload_n 0, 1) := by decide +kernel
theorem dX4_sum_398 : decode cX4_sum 398 = .ok (.getfield 23, 3) := by decide +kernel
theorem dX4_sum_401 : decode cX4_sum 401 = .ok (.getfield 58, 3) := by decide +kernel
theorem dX4_sum_404 : decode cX4_sum 404 = .ok (.iload 6, 2) := by decide +kernel
theorem dX4_sum_406 : decode cX4_sum 406 = .ok (.iload 7, 2) := by decide +kernel
theorem dX4_sum_408 : decode cX4_sum 408 = .ok (.ifCond .ge 11, 3) := by decide +kernel
theorem dX4_sum_411 : decode cX4_sum 411 = .ok (.iload 7, 2) := by decide +kernel
theorem dX4_sum_413 : decode cX4_sum 413 = .ok (.bipush 10, 2) := by decide +kernel
theorem dX4_sum_415 : decode cX4_sum 415 = .ok (.iadd, 1) := by decide +kernel
theorem dX4_sum_416 : decode cX4_sum 416 = .ok (.goto 5, 3) := by decide +kernel
theorem dX4_sum_419 : decode cX4_sum 419 = .ok (.iload 7, 2) := by decide +kernel
theorem dX4_sum_421 : decode cX4_sum 421 = .ok (.iastore, 1) := by decide +kernel
theorem dX4_sum_422 : decode cX4_sum 422 = .ok (.iinc 6 1, 3) := by decide +kernel
theorem dX4_sum_425 : decode cX4_sum 425 = .ok (.goto (-101), 3) := by decide +kernel
theorem dX4_sum_428 : decode cX4_sum 428 = .ok (.aload_n 0, 1) := by decide +kernel
theorem dX4_sum_429 : decode cX4_sum 429 = .ok (.getfield 23, 3) := by decide +kernel
theorem dX4_sum_432 : decode cX4_sum 432 = .ok (.iload_n 3, 1) := by decide +kernel
theorem dX4_sum_433 : decode cX4_sum 433 = .ok (.putfield 37, 3) := by decide +kernel
theorem dX4_sum_436 : decode cX4_sum 436 = .ok (.aload_n 0, 1) := by decide +kernel
theorem dX4_sum_437 : decode cX4_sum 437 = .ok (.getfield 23, 3) := by decide +kernel
theorem dX4_sum_440 : decode cX4_sum 440 = .ok (.iload 4, 2) := by decide +kernel
theorem dX4_sum_442 : decode cX4_sum 442 = .ok (.ifCond .eq 7, 3) := by decide +kernel
theorem dX4_sum_445 : decode cX4_sum 445 = .ok (.iload_n 2, 1) := by decide +kernel
theorem dX4_sum_446 : decode cX4_sum 446 = .ok (.goto 10, 3) := by decide +kernel
theorem dX4_sum_449 : decode cX4_sum 449 = .ok (.aload_n 0, 1) := by decide +kernel
theorem dX4_sum_450 : decode cX4_sum 450 = .ok (.getfield 16, 3) := by decide +kernel
theorem dX4_sum_453 : decode cX4_sum 453 = .ok (.getfield 61, 3) := by decide +kernel
theorem dX4_sum_456 : decode cX4_sum 456 = .ok (.putfield 61, 3) := by decide +kernel
theorem dX4_sum_459 : decode cX4_sum 459 = .ok (.aload_n 0, 1) := by decide +kernel
theorem dX4_sum_460 : decode cX4_sum 460 = .ok (.getfield 23, 3) := by decide +kernel
theorem dX4_sum_463 : decode cX4_sum 463 = .ok (.invokevirtual 65, 3) := by decide +kernel
theorem dX4_sum_466 : decode cX4_sum 466 = .ok (.return_, 1) := by decide +kernel
set_option maxRecDepth 20000 in
theorem ggX4_product_X3_trim : GoodIn wsX4_product wsX3_trim := goodIn_r _ [9, 10, 11, 12, 13, 14, 15, 8, 16, 17, 18, 19, 20] (by decide +kernel) (by decide +kernel)
set_option maxRecDepth 20000 in
theorem gX4_product_X3_trim : GoodIn wsX4_product (wsV RX4 65 RX3 yX3_trim wsX3_trim) := goodIn_app (goodIn_of _ (by decide +kernel)) ggX4_product_X3_trim
theorem dX4_product_0 : decode cX4_product 0 = .ok (.iconst 0, 1) := by decide +kernel
theorem dX4_product_1 : decode cX4_product 1 = .ok (.istore_n 3, 1) := by decide +kernel
theorem dX4_product_2 : decode cX4_product 2 = .ok (.iload_n 3, 1) := by decide +kernel
theorem dX4_product_3 : decode cX4_product 3 = .ok (.aload_n 0, 1) := by decide +kernel
theorem dX4_product_4 : decode cX4_product 4 = .ok (.getfield 37, 3) := by decide +kernel
theorem dX4_product_7 : decode cX4_product 7 = .ok (.aload_n 1, 1) := by decide +kernel
theorem dX4_product_8 : decode cX4_product 8 = .ok (.getfield 37, 3) := by decide +kernel
theorem dX4_product_11 : decode cX4_product 11 = .ok (.iadd, 1) := by decide +kernel
theorem dX4_product_12 : decode cX4_product 12 = .ok (.if_icmp .ge 16, 3) := by decide +kernel
theorem dX4_product_15 : decode cX4_product 15 = .ok (.aload_n 2, 1) := by decide +kernel
theorem dX4_product_16 : decode cX4_product 16 = .ok (.getfield 58, 3) := by decide +kernel
theorem dX4_product_19 : decode cX4_product 19 = .ok (.iload_n 3, 1) := by decide +kernel
theorem dX4_product_20 : decode cX4_product 20 = .ok (.iconst 0, 1) := by decide +kernel
theorem dX4_product_21 : decode cX4_product 21 = .ok (.iastore, 1) := by decide +kernel
theorem dX4_product_22 : decode cX4_product 22 = .ok (.iinc 3 1, 3) := by decide +kernel
theorem dX4_product_25 : decode cX4_product 25 = .ok (.goto (-23), 3) := by decide +kernel
theorem dX4_product_28 : decode cX4_product 28 = .ok (.iconst 0, 1) := by decide +kernel
theorem dX4_product_29 : decode cX4_product 29 = .ok (.istore_n 3, 1) := by decide +kernel
theorem dX4_product_30 : decode cX4_product 30 = .ok (.iload_n 3, 1) := by decide +kernel
theorem dX4_product_31 : decode cX4_product 31 = .ok (.aload_n 0, 1) := by decide +kernel
theorem dX4_product_32 : decode cX4_product 32 = .ok (.getfield 37, 3) := by decide +kernel
theorem dX4_product_35 : decode cX4_product 35 = .ok (.if_icmp .ge 93, 3) := by decide +kernel
theorem dX4_product_38 : decode cX4_product 38 = .ok (.iconst 0, 1) := by decide +kernel
theorem dX4_product_39 : decode cX4_product 39 = .ok (.istore 4, 2) := by decide +kernel
theorem dX4_product_41 : decode cX4_product 41 = .ok (.iconst 0, 1) := by decide +kernel
theorem dX4_product_42 : decode cX4_product 42 = .ok (.istore 5, 2) := by decide +kernel
theorem dX4_product_44 : decode cX4_product 44 = .ok (.iload 5, 2) := by decide +kernel
theorem dX4_product_46 : decode cX4_product 46 = .ok (.aload_n 1, 1) := by decide +kernel
theorem dX4_product_47 : decode cX4_product 47 = .ok (.getfield 37, 3) := by decide +kernel
theorem dX4_product_50 : decode cX4_product 50 = .ok (.if_icmp .ge 59, 3) := by decide +kernel
theorem dX4_product_53 : decode cX4_product 53 = .ok (.aload_n 2, 1) := by decide +kernel
theorem dX4_product_54 : decode cX4_product 54 = .ok (.getfield 58, 3) := by decide +kernel
theorem dX4_product_57 : decode cX4_product 57 = .ok (.iload_n 3, 1) := by decide +kernel
theorem dX4_product_58 : decode cX4_product 58 = .ok (.iload 5, 2) := by decide +kernel
theorem dX4_product_60 : decode cX4_product 60 = .ok (.iadd, 1) := by decide +kernel
theorem dX4_product_61 : decode cX4_product 61 = .ok (.iaload, 1) := by decide +kernel
theorem dX4_product_62 : decode cX4_product 62 = .ok (.aload_n 0, 1) := by decide +kernel
theorem dX4_product_63 : decode cX4_product 63 = .ok (.getfield 58, 3) := by decide +kernel
theorem dX4_product_66 : decode cX4_product 66 = .ok (.iload_n 3, 1) := by decide +kernel
theorem dX4_product_67 : decode cX4_product 67 = .ok (.iaload, 1) := by decide +kernel
theorem dX4_product_68 : decode cX4_product 68 = .ok (.aload_n 1, 1) := by decide +kernel
theorem dX4_product_69 : decode cX4_product 69 = .ok (.getfield 58, 3) := by decide +kernel
theorem dX4_product_72 : decode cX4_product 72 = .ok (.iload 5, 2) := by decide +kernel
theorem dX4_product_74 : decode cX4_product 74 = .ok (.iaload, 1) := by decide +kernel
theorem dX4_product_75 : decode cX4_product 75 = .ok (.imul, 1) := by decide +kernel
theorem dX4_product_76 : decode cX4_product 76 = .ok (.iadd, 1) := by decide +kernel
theorem dX4_product_77 : decode cX4_product 77 = .ok (.iload 4, 2) := by decide +kernel
theorem dX4_product_79 : decode cX4_product 79 = .ok (.iadd, 1) := by decide +kernel
theorem dX4_product_80 : decode cX4_product 80 = .ok (.istore 6, 2) := by decide +kernel
theorem dX4_product_82 : decode cX4_product 82 = .ok (.aload_n 2, 1) := by decide +kernel
theorem dX4_product_83 : decode cX4_product 83 = .ok (.getfield 58, 3) := by decide +kernel
theorem dX4_product_86 : decode cX4_product 86 = .ok (.iload_n 3, 1) := by decide +kernel
theorem dX4_product_87 : decode cX4_product 87 = .ok (.iload 5, 2) := by decide +kernel
theorem dX4_product_89 : decode cX4_product 89 = .ok (.iadd, 1) := by decide +kernel
theorem dX4_product_90 : decode cX4_product 90 = .ok (.iload 6, 2) := by decide +kernel
theorem dX4_product_92 : decode cX4_product 92 = .ok (.bipush 10, 2) := by decide +kernel
theorem dX4_product_94 : decode cX4_product 94 = .ok (.irem, 1) := by decide +kernel
theorem dX4_product_95 : decode cX4_product 95 = .ok (.iastore, 1) := by decide +kernel
theorem dX4_product_96 : decode cX4_product 96 = .ok (.iload 6, 2) := by decide +kernel
theorem dX4_product_98 : decode cX4_product 98 = .ok (.bipush 10, 2) := by decide +kernel
theorem dX4_product_100 : decode cX4_product 100 = .ok (.idiv, 1) := by decide +kernel
theorem dX4_product_101 : decode cX4_product 101 = .ok (.istore 4, 2) := by decide +kernel
theorem dX4_product_103 : decode cX4_product 103 = .ok (.iinc 5 1, 3) := by decide +kernel
theorem dX4_product_106 : decode cX4_product 106 = .ok (.goto (-62), 3) := by decide +kernel
theorem dX4_product_109 : decode cX4_product 109 = .ok (.aload_n 2, 1) := by decide +kernel
theorem dX4_product_110 : decode cX4_product 110 = .ok (.getfield 58, 3) := by decide +kernel
theorem dX4_product_113 : decode cX4_product 113 = .ok (.iload_n 3, 1) := by decide +kernel
theorem dX4_product_114 : decode cX4_product 114 = .ok (.aload_n 1, 1) := by decide +kernel
theorem dX4_product_115 : decode cX4_product 115 = .ok (.getfield 37, 3) := by decide +kernel
theorem dX4_product_118 : decode cX4_product 118 = .ok (.iadd, 1) := by decide +kernel
theorem dX4_product_119 : decode cX4_product 119 = .ok (.iload 4, 2) := by decide +kernel
theorem dX4_product_121 : decode cX4_product 121 = .ok (.iastore, 1) := by decide +kernel
theorem dX4_product_122 : decode cX4_product 122 = .ok (.iinc 3 1, 3) := by decide +kernel
theorem dX4_product_125 : decode cX4_product 125 = .ok (.goto (-95), 3) := by decide +kernel
theorem dX4_product_128 : decode cX4_product 128 = .ok (.aload_n 2, 1) := by decide +kernel
theorem dX4_product_129 : decode cX4_product 129 = .ok (.aload_n 0, 1) := by decide +kernel
theorem dX4_product_130 : decode cX4_product 130 = .ok (.getfield 37, 3) := by decide +kernel
theorem dX4_product_133 : decode cX4_product 133 = .ok (.aload_n 1, 1) := by decide +kernel
theorem dX4_product_134 : decode cX4_product 134 = .ok (.getfield 37, 3) := by decide +kernel
theorem dX4_product_137 : decode cX4_product 137 = .ok (.iadd, 1) := by decide +kernel
theorem dX4_product_138 : decode cX4_product 138 = .ok (.putfield 37, 3) := by decide +kernel
theorem dX4_product_141 : decode cX4_product 141 = .ok (.aload_n 2, 1) := by decide +kernel
theorem dX4_product_142 : decode cX4_product 142 = .ok (.aload_n 0, 1) := by decide +kernel
theorem dX4_product_143 : decode cX4_product 143 = .ok (.getfield 61, 3) := by decide +kernel
theorem dX4_product_146 : decode cX4_product 146 = .ok (.aload_n 1, 1) := by decide +kernel
theorem dX4_product_147 : decode cX4_product 147 = .ok (.getfield 61, 3) := by decide +kernel
theorem dX4_product_150 : decode cX4_product 150 = .ok (.if_icmp .eq 7, 3) := by decide +kernel
theorem dX4_product_153 : decode cX4_product 153 = .ok (.iconst 1, 1) := by decide +kernel
theorem dX4_product_154 : decode cX4_product 154 = .ok (.goto 4, 3) := by decide +kernel
theorem dX4_product_157 : decode cX4_product 157 = .ok (.iconst 0, 1) := by decide +kernel
theorem dX4_product_158 : decode cX4_product 158 = .ok (.putfield 61, 3) := by decide +kernel
theorem dX4_product_161 : decode cX4_product 161 = .ok (.aload_n 2, 1) := by decide +kernel
theorem dX4_product_162 : decode cX4_product 162 = .ok (.aload_n 0, 1) := by decide +kernel
theorem dX4_product_163 : decode cX4_product 163 = .ok (.getfield 41, 3) := by decide +kernel
theorem dX4_product_166 : decode cX4_product 166 = .ok (.aload_n 1, 1) := by decide +kernel
theorem dX4_product_167 : decode cX4_product 167 = .ok (.getfield 41, 3) := by decide +kernel
theorem dX4_product_170 : decode cX4_product 170 = .ok (.iadd, 1) := by decide +kernel
theorem dX4_product_171 : decode cX4_product 171 = .ok (.putfield 41, 3) := by decide +kernel
theorem dX4_product_174 : decode cX4_product 174 = .ok (.aload_n 2, 1) := by decide +kernel
theorem dX4_product_175 : decode cX4_product 175 = .ok (.invokevirtual 65, 3) := by decide +kernel
theorem dX4_product_178 : decode cX4_product 178 = .ok (.return_, 1) := by decide +kernel
set_option maxRecDepth 20000 in
theorem ggX4_reckon_X4_is : GoodIn wsX4_reckon wsX4_is := goodIn_r _ [7] (by decide +kernel) (by decide +kernel)
set_option maxRecDepth 20000 in
theorem gX4_reckon_X4_is : GoodIn wsX4_reckon (va_wsS RX4 52 yX4_is wsX4_is) := goodIn_app (goodIn_of _ (by decide +kernel)) ggX4_reckon_X4_is
set_option maxRecDepth 20000 in
theorem ggX4_reckon_X4_order : GoodIn wsX4_reckon wsX4_order := goodIn_r _ [11, 1, 12, 13, 14, 15, 16, 6, 17, 2, 18, 19, 20, 21, 22, 23, 24, 25, 26, 27, 28, 29, 30, 31, 32, 33, 34, 35, 36, 37, 38, 39, 40, 62, 63, 64, 65, 66, 67, 68, 69, 70, 71, 72] (by decide +kernel) (by decide +kernel)
set_option maxRecDepth 20000 in
theorem gX4_reckon_X4_order : GoodIn wsX4_reckon (wsV RX4 88 RX4 yX4_order wsX4_order) := goodIn_app (goodIn_of _ (by decide +kernel)) ggX4_reckon_X4_order
set_option maxRecDepth 20000 in
theorem ggX4_reckon_X3_take : GoodIn wsX4_reckon wsX3_take := goodIn_r _ [23, 24, 25, 26, 27, 69, 70, 71, 72] (by decide +kernel) (by decide +kernel)
set_option maxRecDepth 20000 in
theorem gX4_reckon_X3_take : GoodIn wsX4_reckon (wsV RX4 48 RX3 yX3_take wsX3_take) := goodIn_app (goodIn_of _ (by decide +kernel)) ggX4_reckon_X3_take
set_option maxRecDepth 20000 in
theorem ggX4_reckon_X4_keep : GoodIn wsX4_reckon wsX4_keep := goodIn_r _ [44, 39, 18, 2, 45, 46, 6, 47, 48, 49, 19, 20, 21, 22, 23, 24, 25, 26, 27, 69, 70, 71, 72, 62, 63, 64, 65, 66, 67, 68] (by decide +kernel) (by decide +kernel)
set_option maxRecDepth 20000 in
theorem gX4_reckon_X4_keep : GoodIn wsX4_reckon (wsV RX4 68 RX4 yX4_keep wsX4_keep) := goodIn_app (goodIn_of _ (by decide +kernel)) ggX4_reckon_X4_keep
set_option maxRecDepth 20000 in
theorem ggX4_reckon_X4_product : GoodIn wsX4_reckon wsX4_product := goodIn_r _ [52, 39, 40, 12, 18, 53, 54, 55, 22, 56, 24, 27, 25, 32, 33, 34, 35, 69, 70, 71, 72] (by decide +kernel) (by decide +kernel)
set_option maxRecDepth 20000 in
theorem gX4_reckon_X4_product : GoodIn wsX4_reckon (va_wsS RX4 92 yX4_product wsX4_product) := goodIn_app (goodIn_of _ (by decide +kernel)) ggX4_reckon_X4_product
set_option maxRecDepth 20000 in
theorem ggX4_reckon_X4_align : GoodIn wsX4_reckon wsX4_align := goodIn_r _ [17, 1, 2, 13, 18, 19, 20, 21, 22, 23, 24, 25, 26, 27, 28, 29, 30, 31, 32, 33, 34, 35, 62, 63, 64, 65, 66, 67, 68, 69, 70, 71, 72] (by decide +kernel) (by decide +kernel)
set_option maxRecDepth 20000 in
theorem gX4_reckon_X4_align : GoodIn wsX4_reckon (wsV RX4 76 RX4 yX4_align wsX4_align) := goodIn_app (goodIn_of _ (by decide +kernel)) ggX4_reckon_X4_align
set_option maxRecDepth 20000 in
theorem ggX4_reckon_X4_sum : GoodIn wsX4_reckon wsX4_sum := goodIn_r _ [60, 13, 12, 3, 1, 18, 39, 40, 61, 33, 34, 22, 35, 24, 27, 36, 37, 6, 38, 53, 54, 55, 56, 25, 32, 62, 63, 64, 65, 66, 67, 68, 69, 70, 71, 72] (by decide +kernel) (by decide +kernel)
set_option maxRecDepth 20000 in
theorem gX4_reckon_X4_sum : GoodIn wsX4_reckon (wsV RX4 96 RX4 yX4_sum wsX4_sum) := goodIn_app (goodIn_of _ (by decide +kernel)) ggX4_reckon_X4_sum
theorem dX4_reckon_0 : decode cX4_reckon 0 = .ok (.iload_n 2, 1) := by decide +kernel
theorem dX4_reckon_1 : decode cX4_reckon 1 = .ok (.invokestatic 52, 3) := by decide +kernel
theorem dX4_reckon_4 : decode cX4_reckon 4 = .ok (.ifCond .eq 27, 3) := by decide +kernel
theorem dX4_reckon_7 : decode cX4_reckon 7 = .ok (.iload_n 3, 1) := by decide +kernel
theorem dX4_reckon_8 : decode cX4_reckon 8 = .ok (.invokestatic 52, 3) := by decide +kernel
theorem dX4_reckon_11 : decode cX4_reckon 11 = .ok (.ifCond .eq 20, 3) := by decide +kernel
theorem dX4_reckon_14 : decode cX4_reckon 14 = .ok (.iload 4, 2) := by decide +kernel
theorem dX4_reckon_16 : decode cX4_reckon 16 = .ok (.invokestatic 52, 3) := by decide +kernel
theorem dX4_reckon_19 : decode cX4_reckon 19 = .ok (.ifCond .eq 12, 3) := by decide +kernel
theorem dX4_reckon_22 : decode cX4_reckon 22 = .ok (.iload_n 1, 1) := by decide +kernel
theorem dX4_reckon_23 : decode cX4_reckon 23 = .ok (.ifCond .lt 8, 3) := by decide +kernel
theorem dX4_reckon_26 : decode cX4_reckon 26 = .ok (.iload_n 1, 1) := by decide +kernel
theorem dX4_reckon_27 : decode cX4_reckon 27 = .ok (.iconst 4, 1) := by decide +kernel
theorem dX4_reckon_28 : decode cX4_reckon 28 = .ok (.if_icmp .le 5, 3) := by decide +kernel
theorem dX4_reckon_31 : decode cX4_reckon 31 = .ok (.iconst (-1), 1) := by decide +kernel
theorem dX4_reckon_32 : decode cX4_reckon 32 = .ok (.ireturn, 1) := by decide +kernel
theorem dX4_reckon_33 : decode cX4_reckon 33 = .ok (.iload_n 1, 1) := by decide +kernel
theorem dX4_reckon_34 : decode cX4_reckon 34 = .ok (.iconst 2, 1) := by decide +kernel
theorem dX4_reckon_35 : decode cX4_reckon 35 = .ok (.if_icmp .le 75, 3) := by decide +kernel
theorem dX4_reckon_38 : decode cX4_reckon 38 = .ok (.aload_n 0, 1) := by decide +kernel
theorem dX4_reckon_39 : decode cX4_reckon 39 = .ok (.iload_n 3, 1) := by decide +kernel
theorem dX4_reckon_40 : decode cX4_reckon 40 = .ok (.iload 4, 2) := by decide +kernel
theorem dX4_reckon_42 : decode cX4_reckon 42 = .ok (.invokevirtual 88, 3) := by decide +kernel
theorem dX4_reckon_45 : decode cX4_reckon 45 = .ok (.istore 5, 2) := by decide +kernel
theorem dX4_reckon_47 : decode cX4_reckon 47 = .ok (.iload_n 1, 1) := by decide +kernel
theorem dX4_reckon_48 : decode cX4_reckon 48 = .ok (.iconst 3, 1) := by decide +kernel
theorem dX4_reckon_49 : decode cX4_reckon 49 = .ok (.if_icmp .ne 16, 3) := by decide +kernel
theorem dX4_reckon_52 : decode cX4_reckon 52 = .ok (.iload 5, 2) := by decide +kernel
theorem dX4_reckon_54 : decode cX4_reckon 54 = .ok (.ifCond .ge 7, 3) := by decide +kernel
theorem dX4_reckon_57 : decode cX4_reckon 57 = .ok (.iconst 1, 1) := by decide +kernel
theorem dX4_reckon_58 : decode cX4_reckon 58 = .ok (.goto 17, 3) := by decide +kernel
theorem dX4_reckon_61 : decode cX4_reckon 61 = .ok (.iconst 0, 1) := by decide +kernel
theorem dX4_reckon_62 : decode cX4_reckon 62 = .ok (.goto 13, 3) := by decide +kernel
theorem dX4_reckon_65 : decode cX4_reckon 65 = .ok (.iload 5, 2) := by decide +kernel
theorem dX4_reckon_67 : decode cX4_reckon 67 = .ok (.ifCond .le 7, 3) := by decide +kernel
theorem dX4_reckon_70 : decode cX4_reckon 70 = .ok (.iconst 1, 1) := by decide +kernel
theorem dX4_reckon_71 : decode cX4_reckon 71 = .ok (.goto 4, 3) := by decide +kernel
theorem dX4_reckon_74 : decode cX4_reckon 74 = .ok (.iconst 0, 1) := by decide +kernel
theorem dX4_reckon_75 : decode cX4_reckon 75 = .ok (.istore 6, 2) := by decide +kernel
theorem dX4_reckon_77 : decode cX4_reckon 77 = .ok (.aload_n 0, 1) := by decide +kernel
theorem dX4_reckon_78 : decode cX4_reckon 78 = .ok (.getfield 16, 3) := by decide +kernel
theorem dX4_reckon_81 : decode cX4_reckon 81 = .ok (.aload_n 0, 1) := by decide +kernel
theorem dX4_reckon_82 : decode cX4_reckon 82 = .ok (.getfield 9, 3) := by decide +kernel
theorem dX4_reckon_85 : decode cX4_reckon 85 = .ok (.iload 6, 2) := by decide +kernel
theorem dX4_reckon_87 : decode cX4_reckon 87 = .ok (.ifCond .eq 8, 3) := by decide +kernel
theorem dX4_reckon_90 : decode cX4_reckon 90 = .ok (.iload 4, 2) := by decide +kernel
theorem dX4_reckon_92 : decode cX4_reckon 92 = .ok (.goto 4, 3) := by decide +kernel
theorem dX4_reckon_95 : decode cX4_reckon 95 = .ok (.iload_n 3, 1) := by decide +kernel
theorem dX4_reckon_96 : decode cX4_reckon 96 = .ok (.aaload, 1) := by decide +kernel
theorem dX4_reckon_97 : decode cX4_reckon 97 = .ok (.invokevirtual 48, 3) := by decide +kernel
theorem dX4_reckon_100 : decode cX4_reckon 100 = .ok (.aload_n 0, 1) := by decide +kernel
theorem dX4_reckon_101 : decode cX4_reckon 101 = .ok (.iload_n 2, 1) := by decide +kernel
theorem dX4_reckon_102 : decode cX4_reckon 102 = .ok (.aload_n 0, 1) := by decide +kernel
theorem dX4_reckon_103 : decode cX4_reckon 103 = .ok (.getfield 16, 3) := by decide +kernel
theorem dX4_reckon_106 : decode cX4_reckon 106 = .ok (.invokevirtual 68, 3) := by decide +kernel
theorem dX4_reckon_109 : decode cX4_reckon 109 = .ok (.ireturn, 1) := by decide +kernel
theorem dX4_reckon_110 : decode cX4_reckon 110 = .ok (.iload_n 1, 1) := by decide +kernel
theorem dX4_reckon_111 : decode cX4_reckon 111 = .ok (.iconst 2, 1) := by decide +kernel
theorem dX4_reckon_112 : decode cX4_reckon 112 = .ok (.if_icmp .ne 26, 3) := by decide +kernel
theorem dX4_reckon_115 : decode cX4_reckon 115 = .ok (.aload_n 0, 1) := by decide +kernel
theorem dX4_reckon_116 : decode cX4_reckon 116 = .ok (.getfield 9, 3) := by decide +kernel
theorem dX4_reckon_119 : decode cX4_reckon 119 = .ok (.iload_n 3, 1) := by decide +kernel
theorem dX4_reckon_120 : decode cX4_reckon 120 = .ok (.aaload, 1) := by decide +kernel
theorem dX4_reckon_121 : decode cX4_reckon 121 = .ok (.aload_n 0, 1) := by decide +kernel
theorem dX4_reckon_122 : decode cX4_reckon 122 = .ok (.getfield 9, 3) := by decide +kernel
theorem dX4_reckon_125 : decode cX4_reckon 125 = .ok (.iload 4, 2) := by decide +kernel
theorem dX4_reckon_127 : decode cX4_reckon 127 = .ok (.aaload, 1) := by decide +kernel
theorem dX4_reckon_128 : decode cX4_reckon 128 = .ok (.aload_n 0, 1) := by decide +kernel
theorem dX4_reckon_129 : decode cX4_reckon 129 = .ok (.getfield 23, 3) := by decide +kernel
theorem dX4_reckon_132 : decode cX4_reckon 132 = .ok (.invokestatic 92, 3) := by decide +kernel
theorem dX4_reckon_135 : decode cX4_reckon 135 = .ok (.goto 24, 3) := by decide +kernel
theorem dX4_reckon_138 : decode cX4_reckon 138 = .ok (.aload_n 0, 1) := by decide +kernel
theorem dX4_reckon_139 : decode cX4_reckon 139 = .ok (.iload_n 3, 1) := by decide +kernel
theorem dX4_reckon_140 : decode cX4_reckon 140 = .ok (.iload 4, 2) := by decide +kernel
theorem dX4_reckon_142 : decode cX4_reckon 142 = .ok (.invokevirtual 76, 3) := by decide +kernel
theorem dX4_reckon_145 : decode cX4_reckon 145 = .ok (.aload_n 0, 1) := by decide +kernel
theorem dX4_reckon_146 : decode cX4_reckon 146 = .ok (.iload_n 1, 1) := by decide +kernel
theorem dX4_reckon_147 : decode cX4_reckon 147 = .ok (.iconst 1, 1) := by decide +kernel
theorem dX4_reckon_148 : decode cX4_reckon 148 = .ok (.if_icmp .ne 7, 3) := by decide +kernel
theorem dX4_reckon_151 : decode cX4_reckon 151 = .ok (.iconst 1, 1) := by decide +kernel
theorem dX4_reckon_152 : decode cX4_reckon 152 = .ok (.goto 4, 3) := by decide +kernel
theorem dX4_reckon_155 : decode cX4_reckon 155 = .ok (.iconst 0, 1) := by decide +kernel
theorem dX4_reckon_156 : decode cX4_reckon 156 = .ok (.invokevirtual 96, 3) := by decide +kernel
theorem dX4_reckon_159 : decode cX4_reckon 159 = .ok (.aload_n 0, 1) := by decide +kernel
theorem dX4_reckon_160 : decode cX4_reckon 160 = .ok (.iload_n 2, 1) := by decide +kernel
theorem dX4_reckon_161 : decode cX4_reckon 161 = .ok (.aload_n 0, 1) := by decide +kernel
theorem dX4_reckon_162 : decode cX4_reckon 162 = .ok (.getfield 23, 3) := by decide +kernel
theorem dX4_reckon_165 : decode cX4_reckon 165 = .ok (.invokevirtual 68, 3) := by decide +kernel
theorem dX4_reckon_168 : decode cX4_reckon 168 = .ok (.ireturn, 1) := by decide +kernel
set_option maxRecDepth 20000 in
theorem ggX4_over_X4_sizes : GoodIn wsX4_over wsX4_sizes := goodIn_r _ [10, 3, 5, 18, 19, 20, 21] (by decide +kernel) (by decide +kernel)
set_option maxRecDepth 20000 in
theorem gX4_over_X4_sizes : GoodIn wsX4_over (va_wsS RX4 80 yX4_sizes wsX4_sizes) := goodIn_app (goodIn_of _ (by decide +kernel)) ggX4_over_X4_sizes
theorem dX4_over_0 : decode cX4_over 0 = .ok (.aload_n 0, 1) := by decide +kernel
theorem dX4_over_1 : decode cX4_over 1 = .ok (.getfield 23, 3) := by decide +kernel
theorem dX4_over_4 : decode cX4_over 4 = .ok (.aload_n 0, 1) := by decide +kernel
theorem dX4_over_5 : decode cX4_over 5 = .ok (.getfield 16, 3) := by decide +kernel
theorem dX4_over_8 : decode cX4_over 8 = .ok (.getfield 37, 3) := by decide +kernel
theorem dX4_over_11 : decode cX4_over 11 = .ok (.putfield 37, 3) := by decide +kernel
theorem dX4_over_14 : decode cX4_over 14 = .ok (.aload_n 0, 1) := by decide +kernel
theorem dX4_over_15 : decode cX4_over 15 = .ok (.getfield 26, 3) := by decide +kernel
theorem dX4_over_18 : decode cX4_over 18 = .ok (.iconst 1, 1) := by decide +kernel
theorem dX4_over_19 : decode cX4_over 19 = .ok (.putfield 37, 3) := by decide +kernel
theorem dX4_over_22 : decode cX4_over 22 = .ok (.aload_n 0, 1) := by decide +kernel
theorem dX4_over_23 : decode cX4_over 23 = .ok (.getfield 26, 3) := by decide +kernel
theorem dX4_over_26 : decode cX4_over 26 = .ok (.getfield 58, 3) := by decide +kernel
theorem dX4_over_29 : decode cX4_over 29 = .ok (.iconst 0, 1) := by decide +kernel
theorem dX4_over_30 : decode cX4_over 30 = .ok (.iconst 0, 1) := by decide +kernel
theorem dX4_over_31 : decode cX4_over 31 = .ok (.iastore, 1) := by decide +kernel
theorem dX4_over_32 : decode cX4_over 32 = .ok (.aload_n 0, 1) := by decide +kernel
theorem dX4_over_33 : decode cX4_over 33 = .ok (.getfield 16, 3) := by decide +kernel
theorem dX4_over_36 : decode cX4_over 36 = .ok (.getfield 37, 3) := by decide +kernel
theorem dX4_over_39 : decode cX4_over 39 = .ok (.iconst 1, 1) := by decide +kernel
theorem dX4_over_40 : decode cX4_over 40 = .ok (.isub, 1) := by decide +kernel
theorem dX4_over_41 : decode cX4_over 41 = .ok (.istore_n 1, 1) := by decide +kernel
theorem dX4_over_42 : decode cX4_over 42 = .ok (.iload_n 1, 1) := by decide +kernel
theorem dX4_over_43 : decode cX4_over 43 = .ok (.ifCond .lt 306, 3) := by decide +kernel
theorem dX4_over_46 : decode cX4_over 46 = .ok (.aload_n 0, 1) := by decide +kernel
theorem dX4_over_47 : decode cX4_over 47 = .ok (.getfield 26, 3) := by decide +kernel
theorem dX4_over_50 : decode cX4_over 50 = .ok (.getfield 37, 3) := by decide +kernel
theorem dX4_over_53 : decode cX4_over 53 = .ok (.iconst 1, 1) := by decide +kernel
theorem dX4_over_54 : decode cX4_over 54 = .ok (.isub, 1) := by decide +kernel
theorem dX4_over_55 : decode cX4_over 55 = .ok (.istore_n 2, 1) := by decide +kernel
theorem dX4_over_56 : decode cX4_over 56 = .ok (.iload_n 2, 1) := by decide +kernel
theorem dX4_over_57 : decode cX4_over 57 = .ok (.ifCond .lt 29, 3) := by decide +kernel
theorem dX4_over_60 : decode cX4_over 60 = .ok (.aload_n 0, 1) := by decide +kernel
theorem dX4_over_61 : decode cX4_over 61 = .ok (.getfield 26, 3) := by decide +kernel
theorem dX4_over_64 : decode cX4_over 64 = .ok (.getfield 58, 3) := by decide +kernel
theorem dX4_over_67 : decode cX4_over 67 = .ok (.iload_n 2, 1) := by decide +kernel
theorem dX4_over_68 : decode cX4_over 68 = .ok (.iconst 1, 1) := by decide +kernel
theorem dX4_over_69 : decode cX4_over 69 = .ok (.iadd, 1) := by decide +kernel
theorem dX4_over_70 : decode cX4_over 70 = .ok (.aload_n 0, 1) := by decide +kernel
theorem dX4_over_71 : decode cX4_over 71 = .ok (.getfield 26, 3) := by decide +kernel
theorem dX4_over_74 : decode cX4_over 74 = .ok (.getfield 58, 3) := by decide +kernel
theorem dX4_over_77 : decode cX4_over 77 = .ok (.iload_n 2, 1) := by decide +kernel
theorem dX4_over_78 : decode cX4_over 78 = .ok (.iaload, 1) := by decide +kernel
theorem dX4_over_79 : decode cX4_over 79 = .ok (.iastore, 1) := by decide +kernel
theorem dX4_over_80 : decode cX4_over 80 = .ok (.iinc 2 (-1), 3) := by decide +kernel
theorem dX4_over_83 : decode cX4_over 83 = .ok (.goto (-27), 3) := by decide +kernel
theorem dX4_over_86 : decode cX4_over 86 = .ok (.aload_n 0, 1) := by decide +kernel
theorem dX4_over_87 : decode cX4_over 87 = .ok (.getfield 26, 3) := by decide +kernel
theorem dX4_over_90 : decode cX4_over 90 = .ok (.getfield 58, 3) := by decide +kernel
theorem dX4_over_93 : decode cX4_over 93 = .ok (.iconst 0, 1) := by decide +kernel
theorem dX4_over_94 : decode cX4_over 94 = .ok (.aload_n 0, 1) := by decide +kernel
theorem dX4_over_95 : decode cX4_over 95 = .ok (.getfield 16, 3) := by decide +kernel
theorem dX4_over_98 : decode cX4_over 98 = .ok (.getfield 58, 3) := by decide +kernel
theorem dX4_over_101 : decode cX4_over 101 = .ok (.iload_n 1, 1) := by decide +kernel
theorem dX4_over_102 : decode cX4_over 102 = .ok (.iaload, 1) := by decide +kernel
theorem dX4_over_103 : decode cX4_over 103 = .ok (.iastore, 1) := by decide +kernel
theorem dX4_over_104 : decode cX4_over 104 = .ok (.aload_n 0, 1) := by decide +kernel
theorem dX4_over_105 : decode cX4_over 105 = .ok (.getfield 26, 3) := by decide +kernel
theorem dX4_over_108 : decode cX4_over 108 = .ok (.dup, 1) := by decide +kernel
theorem dX4_over_109 : decode cX4_over 109 = .ok (.getfield 37, 3) := by decide +kernel
theorem dX4_over_112 : decode cX4_over 112 = .ok (.iconst 1, 1) := by decide +kernel
theorem dX4_over_113 : decode cX4_over 113 = .ok (.iadd, 1) := by decide +kernel
theorem dX4_over_114 : decode cX4_over 114 = .ok (.putfield 37, 3) := by decide +kernel
theorem dX4_over_117 : decode cX4_over 117 = .ok (.aload_n 0, 1) := by decide +kernel
theorem dX4_over_118 : decode cX4_over 118 = .ok (.getfield 26, 3) := by decide +kernel
theorem dX4_over_121 : decode cX4_over 121 = .ok (.getfield 37, 3) := by decide +kernel
theorem dX4_over_124 : decode cX4_over 124 = .ok (.iconst 1, 1) := by decide +kernel
theorem dX4_over_125 : decode cX4_over 125 = .ok (.if_icmp .le 39, 3) := by decide +kernel
theorem dX4_over_128 : decode cX4_over 128 = .ok (.aload_n 0, 1) := by decide +kernel
theorem dX4_over_129 : decode cX4_over 129 = .ok (.getfield 26, 3) := by decide +kernel
theorem dX4_over_132 : decode cX4_over 132 = .ok (.getfield 58, 3) := by decide +kernel
theorem dX4_over_135 : decode cX4_over 135 = .ok (.aload_n 0, 1) := by decide +kernel
theorem dX4_over_136 : decode cX4_over 136 = .ok (.getfield 26, 3) := by decide +kernel
theorem dX4_over_139 : decode cX4_over 139 = .ok (.getfield 37, 3) := by decide +kernel
theorem dX4_over_142 : decode cX4_over 142 = .ok (.iconst 1, 1) := by decide +kernel
theorem dX4_over_143 : decode cX4_over 143 = .ok (.isub, 1) := by decide +kernel
theorem dX4_over_144 : decode cX4_over 144 = .ok (.iaload, 1) := by decide +kernel
theorem dX4_over_145 : decode cX4_over 145 = .ok (.ifCond .ne 19, 3) := by decide +kernel
theorem dX4_over_148 : decode cX4_over 148 = .ok (.aload_n 0, 1) := by decide +kernel
theorem dX4_over_149 : decode cX4_over 149 = .ok (.getfield 26, 3) := by decide +kernel
theorem dX4_over_152 : decode cX4_over 152 = .ok (.dup, 1) := by decide +kernel
theorem dX4_over_153 : decode cX4_over 153 = .ok (.getfield 37, 3) := by decide +kernel
theorem dX4_over_156 : decode cX4_over 156 = .ok (.iconst 1, 1) := by decide +kernel
theorem dX4_over_157 : decode cX4_over 157 = .ok (.isub, 1) := by decide +kernel
theorem dX4_over_158 : decode cX4_over 158 = .ok (.putfield 37, 3) := by decide +kernel
theorem dX4_over_161 : decode cX4_over 161 = .ok (.goto (-44), 3) := by decide +kernel
theorem dX4_over_164 : decode cX4_over 164 = .ok (.iconst 0, 1) := by decide +kernel
theorem dX4_over_165 : decode cX4_over 165 = .ok (.istore_n 2, 1) := by decide +kernel
theorem dX4_over_166 : decode cX4_over 166 = .ok (.aload_n 0, 1) := by decide +kernel
theorem dX4_over_167 : decode cX4_over 167 = .ok (.getfield 26, 3) := by decide +kernel
theorem dX4_over_170 : decode cX4_over 170 = .ok (.aload_n 0, 1) := by decide +kernel
theorem dX4_over_171 : decode cX4_over 171 = .ok (.getfield 20, 3) := by decide +kernel
theorem dX4_over_174 : decode cX4_over 174 = .ok (.invokestatic 80, 3) := by decide +kernel
theorem dX4_over_177 : decode cX4_over 177 = .ok (.ifCond .lt 156, 3) := by decide +kernel
theorem dX4_over_180 : decode cX4_over 180 = .ok (.iconst 0, 1) := by decide +kernel
theorem dX4_over_181 : decode cX4_over 181 = .ok (.istore_n 3, 1) := by decide +kernel
theorem dX4_over_182 : decode cX4_over 182 = .ok (.iconst 0, 1) := by decide +kernel
theorem dX4_over_183 : decode cX4_over 183 = .ok (.istore 4, 2) := by decide +kernel
theorem dX4_over_185 : decode cX4_over 185 = .ok (.iload 4, 2) := by decide +kernel
theorem dX4_over_187 : decode cX4_over 187 = .ok (.aload_n 0, 1) := by decide +kernel
theorem dX4_over_188 : decode cX4_over 188 = .ok (.getfield 26, 3) := by decide +kernel
theorem dX4_over_191 : decode cX4_over 191 = .ok (.getfield 37, 3) := by decide +kernel
theorem dX4_over_194 : decode cX4_over 194 = .ok (.if_icmp .ge 86, 3) := by decide +kernel
theorem dX4_over_197 : decode cX4_over 197 = .ok (.aload_n 0, 1) := by decide +kernel
theorem dX4_over_198 : decode cX4_over 198 = .ok (.getfield 26, 3) := by decide +kernel
theorem dX4_over_201 : decode cX4_over 201 = .ok (.getfield 58, 3) := by decide +kernel
theorem dX4_over_204 : decode cX4_over 204 = .ok (.iload 4, 2) := by decide +kernel
theorem dX4_over_206 : decode cX4_over 206 = .ok (.iaload, 1) := by decide +kernel
theorem dX4_over_207 : decode cX4_over 207 = .ok (.iload 4, 2) := by decide +kernel
theorem dX4_over_209 : decode cX4_over 209 = .ok (.aload_n 0, 1) := by decide +kernel
theorem dX4_over_210 : decode cX4_over 210 = .ok (.getfield 20, 3) := by decide +kernel
theorem dX4_over_213 : decode cX4_over 213 = .ok (.getfield 37, 3) := by decide +kernel
theorem dX4_over_216 : decode cX4_over 216 = .ok (.if_icmp .ge 16, 3) := by decide +kernel
theorem dX4_over_219 : decode cX4_over 219 = .ok (.aload_n 0, 1) := by decide +kernel
theorem dX4_over_220 : decode cX4_over 220 = .ok (.getfield 20, 3) := by decide +kernel
theorem dX4_over_223 : decode cX4_over 223 = .ok (.getfield 58, 3) := by decide +kernel
theorem dX4_over_226 : decode cX4_over 226 = .ok (.iload 4, 2) := by decide +kernel
theorem dX4_over_228 : decode cX4_over 228 = .ok (.iaload, 1) := by decide +kernel
theorem dX4_over_229 : decode cX4_over 229 = .ok (.goto 4, 3) := by decide +kernel
theorem dX4_over_232 : decode cX4_over 232 = .ok (.iconst 0, 1) := by decide +kernel
theorem dX4_over_233 : decode cX4_over 233 = .ok (.isub, 1) := by decide +kernel
theorem dX4_over_234 : decode cX4_over 234 = .ok (.iload_n 3, 1) := by decide +kernel
theorem dX4_over_235 : decode cX4_over 235 = .ok (.isub, 1) := by decide +kernel
theorem dX4_over_236 : decode cX4_over 236 = .ok (.istore 5, 2) := by decide +kernel
theorem dX4_over_238 : decode cX4_over 238 = .ok (.iload 5, 2) := by decide +kernel
theorem dX4_over_240 : decode cX4_over 240 = .ok (.ifCond .ge 7, 3) := by decide +kernel
theorem dX4_over_243 : decode cX4_over 243 = .ok (.iconst 1, 1) := by decide +kernel
theorem dX4_over_244 : decode cX4_over 244 = .ok (.goto 4, 3) := by decide +kernel
theorem dX4_over_247 : decode cX4_over 247 = .ok (.iconst 0, 1) := by decide +kernel
theorem dX4_over_248 : decode cX4_over 248 = .ok (.istore_n 3, 1) := by decide +kernel
theorem dX4_over_249 : decode cX4_over 249 = .ok (.aload_n 0, 1) := by decide +kernel
theorem dX4_over_250 : decode cX4_over 250 = .ok (.getfield 26, 3) := by decide +kernel
theorem dX4_over_253 : decode cX4_over 253 = .ok (.getfield 58, 3) := by decide +kernel
theorem dX4_over_256 : decode cX4_over 256 = .ok (.iload 4, 2) := by decide +kernel
theorem dX4_over_258 : decode cX4_over 258 = .ok (.iload 5, 2) := by decide +kernel
theorem dX4_over_260 : decode cX4_over 260 = .ok (.ifCond .ge 11, 3) := by decide +kernel
theorem dX4_over_263 : decode cX4_over 263 = .ok (.iload 5, 2) := by decide +kernel
theorem dX4_over_265 : decode cX4_over 265 = .ok (.bipush 10, 2) := by decide +kernel
theorem dX4_over_267 : decode cX4_over 267 = .ok (.iadd, 1) := by decide +kernel
theorem dX4_over_268 : decode cX4_over 268 = .ok (.goto 5, 3) := by decide +kernel
theorem dX4_over_271 : decode cX4_over 271 = .ok (.iload 5, 2) := by decide +kernel
theorem dX4_over_273 : decode cX4_over 273 = .ok (.iastore, 1) := by decide +kernel
theorem dX4_over_274 : decode cX4_over 274 = .ok (.iinc 4 1, 3) := by decide +kernel
theorem dX4_over_277 : decode cX4_over 277 = .ok (.goto (-92), 3) := by decide +kernel
theorem dX4_over_280 : decode cX4_over 280 = .ok (.aload_n 0, 1) := by decide +kernel
theorem dX4_over_281 : decode cX4_over 281 = .ok (.getfield 26, 3) := by decide +kernel
theorem dX4_over_284 : decode cX4_over 284 = .ok (.getfield 37, 3) := by decide +kernel
theorem dX4_over_287 : decode cX4_over 287 = .ok (.iconst 1, 1) := by decide +kernel
theorem dX4_over_288 : decode cX4_over 288 = .ok (.if_icmp .le 39, 3) := by decide +kernel
theorem dX4_over_291 : decode cX4_over 291 = .ok (.aload_n 0, 1) := by decide +kernel
theorem dX4_over_292 : decode cX4_over 292 = .ok (.getfield 26, 3) := by decide +kernel
theorem dX4_over_295 : decode cX4_over 295 = .ok (.getfield 58, 3) := by decide +kernel
theorem dX4_over_298 : decode cX4_over 298 = .ok (.aload_n 0, 1) := by decide +kernel
theorem dX4_over_299 : decode cX4_over 299 = .ok (.getfield 26, 3) := by decide +kernel
theorem dX4_over_302 : decode cX4_over 302 = .ok (.getfield 37, 3) := by decide +kernel
theorem dX4_over_305 : decode cX4_over 305 = .ok (.iconst 1, 1) := by decide +kernel
theorem dX4_over_306 : decode cX4_over 306 = .ok (.isub, 1) := by decide +kernel
theorem dX4_over_307 : decode cX4_over 307 = .ok (.iaload, 1) := by decide +kernel
theorem dX4_over_308 : decode cX4_over 308 = .ok (.ifCond .ne 19, 3) := by decide +kernel
theorem dX4_over_311 : decode cX4_over 311 = .ok (.aload_n 0, 1) := by decide +kernel
theorem dX4_over_312 : decode cX4_over 312 = .ok (.getfield 26, 3) := by decide +kernel
theorem dX4_over_315 : decode cX4_over 315 = .ok (.dup, 1) := by decide +kernel
theorem dX4_over_316 : decode cX4_over 316 = .ok (.getfield 37, 3) := by decide +kernel
theorem dX4_over_319 : decode cX4_over 319 = .ok (.iconst 1, 1) := by decide +kernel
theorem dX4_over_320 : decode cX4_over 320 = .ok (.isub, 1) := by decide +kernel
theorem dX4_over_321 : decode cX4_over 321 = .ok (.putfield 37, 3) := by decide +kernel
theorem dX4_over_324 : decode cX4_over 324 = .ok (.goto (-44), 3) := by decide +kernel
theorem dX4_over_327 : decode cX4_over 327 = .ok (.iinc 2 1, 3) := by decide +kernel
theorem dX4_over_330 : decode cX4_over 330 = .ok (.goto (-164), 3) := by decide +kernel
theorem dX4_over_333 : decode cX4_over 333 = .ok (.aload_n 0, 1) := by decide +kernel
theorem dX4_over_334 : decode cX4_over 334 = .ok (.getfield 23, 3) := by decide +kernel
theorem dX4_over_337 : decode cX4_over 337 = .ok (.getfield 58, 3) := by decide +kernel
theorem dX4_over_340 : decode cX4_over 340 = .ok (.iload_n 1, 1) := by decide +kernel
theorem dX4_over_341 : decode cX4_over 341 = .ok (.iload_n 2, 1) := by decide +kernel
theorem dX4_over_342 : decode cX4_over 342 = .ok (.iastore, 1) := by decide +kernel
theorem dX4_over_343 : decode cX4_over 343 = .ok (.iinc 1 (-1), 3) := by decide +kernel
theorem dX4_over_346 : decode cX4_over 346 = .ok (.goto (-304), 3) := by decide +kernel
theorem dX4_over_349 : decode cX4_over 349 = .ok (.aload_n 0, 1) := by decide +kernel
theorem dX4_over_350 : decode cX4_over 350 = .ok (.getfield 23, 3) := by decide +kernel
theorem dX4_over_353 : decode cX4_over 353 = .ok (.getfield 37, 3) := by decide +kernel
theorem dX4_over_356 : decode cX4_over 356 = .ok (.iconst 1, 1) := by decide +kernel
theorem dX4_over_357 : decode cX4_over 357 = .ok (.if_icmp .le 39, 3) := by decide +kernel
theorem dX4_over_360 : decode cX4_over 360 = .ok (.aload_n 0, 1) := by decide +kernel
theorem dX4_over_361 : decode cX4_over 361 = .ok (.getfield 23, 3) := by decide +kernel
theorem dX4_over_364 : decode cX4_over 364 = .ok (.getfield 58, 3) := by decide +kernel
theorem dX4_over_367 : decode cX4_over 367 = .ok (.aload_n 0, 1) := by decide +kernel
theorem dX4_over_368 : decode cX4_over 368 = .ok (.getfield 23, 3) := by decide +kernel
theorem dX4_over_371 : decode cX4_over 371 = .ok (.getfield 37, 3) := by decide +kernel
theorem dX4_over_374 : decode cX4_over 374 = .ok (.iconst 1, 1) := by decide +kernel
theorem dX4_over_375 : decode cX4_over 375 = .ok (.isub, 1) := by decide +kernel
theorem dX4_over_376 : decode cX4_over 376 = .ok (.iaload, 1) := by decide +kernel
theorem dX4_over_377 : decode cX4_over 377 = .ok (.ifCond .ne 19, 3) := by decide +kernel
theorem dX4_over_380 : decode cX4_over 380 = .ok (.aload_n 0, 1) := by decide +kernel
theorem dX4_over_381 : decode cX4_over 381 = .ok (.getfield 23, 3) := by decide +kernel
theorem dX4_over_384 : decode cX4_over 384 = .ok (.dup, 1) := by decide +kernel
theorem dX4_over_385 : decode cX4_over 385 = .ok (.getfield 37, 3) := by decide +kernel
theorem dX4_over_388 : decode cX4_over 388 = .ok (.iconst 1, 1) := by decide +kernel
theorem dX4_over_389 : decode cX4_over 389 = .ok (.isub, 1) := by decide +kernel
theorem dX4_over_390 : decode cX4_over 390 = .ok (.putfield 37, 3) := by decide +kernel
theorem dX4_over_393 : decode cX4_over 393 = .ok (.goto (-44), 3) := by decide +kernel
theorem dX4_over_396 : decode cX4_over 396 = .ok (.aload_n 0, 1) := by decide +kernel
theorem dX4_over_397 : decode cX4_over 397 = .ok (.getfield 16, 3) := by decide +kernel
theorem dX4_over_400 : decode cX4_over 400 = .ok (.aload_n 0, 1) := by decide +kernel
theorem dX4_over_401 : decode cX4_over 401 = .ok (.getfield 26, 3) := by decide +kernel
theorem dX4_over_404 : decode cX4_over 404 = .ok (.getfield 37, 3) := by decide +kernel
theorem dX4_over_407 : decode cX4_over 407 = .ok (.putfield 37, 3) := by decide +kernel
theorem dX4_over_410 : decode cX4_over 410 = .ok (.iconst 0, 1) := by decide +kernel
theorem dX4_over_411 : decode cX4_over 411 = .ok (.istore_n 1, 1) := by decide +kernel
theorem dX4_over_412 : decode cX4_over 412 = .ok (.iload_n 1, 1) := by decide +kernel
theorem dX4_over_413 : decode cX4_over 413 = .ok (.aload_n 0, 1) := by decide +kernel
theorem dX4_over_414 : decode cX4_over 414 = .ok (.getfield 26, 3) := by decide +kernel
theorem dX4_over_417 : decode cX4_over 417 = .ok (.getfield 37, 3) := by decide +kernel
theorem dX4_over_420 : decode cX4_over 420 = .ok (.if_icmp .ge 27, 3) := by decide +kernel
theorem dX4_over_423 : decode cX4_over 423 = .ok (.aload_n 0, 1) := by decide +kernel
theorem dX4_over_424 : decode cX4_over 424 = .ok (.getfield 16, 3) := by decide +kernel
theorem dX4_over_427 : decode cX4_over 427 = .ok (.getfield 58, 3) := by decide +kernel
theorem dX4_over_430 : decode cX4_over 430 = .ok (.iload_n 1, 1) := by decide +kernel
theorem dX4_over_431 : decode cX4_over 431 = .ok (.aload_n 0, 1) := by decide +kernel
theorem dX4_over_432 : decode cX4_over 432 = .ok (.getfield 26, 3) := by decide +kernel
theorem dX4_over_435 : decode cX4_over 435 = .ok (.getfield 58, 3) := by decide +kernel
theorem dX4_over_438 : decode cX4_over 438 = .ok (.iload_n 1, 1) := by decide +kernel
theorem dX4_over_439 : decode cX4_over 439 = .ok (.iaload, 1) := by decide +kernel
theorem dX4_over_440 : decode cX4_over 440 = .ok (.iastore, 1) := by decide +kernel
theorem dX4_over_441 : decode cX4_over 441 = .ok (.iinc 1 1, 3) := by decide +kernel
theorem dX4_over_444 : decode cX4_over 444 = .ok (.goto (-32), 3) := by decide +kernel
theorem dX4_over_447 : decode cX4_over 447 = .ok (.return_, 1) := by decide +kernel
theorem dX4_turns_0 : decode cX4_turns 0 = .ok (.iload_n 0, 1) := by decide +kernel
theorem dX4_turns_1 : decode cX4_turns 1 = .ok (.tableswitch 75 0 5 #[39, 41, 43, 53, 55, 65], 39) := by decide +kernel
theorem dX4_turns_40 : decode cX4_turns 40 = .ok (.iconst 1, 1) := by decide +kernel
theorem dX4_turns_41 : decode cX4_turns 41 = .ok (.ireturn, 1) := by decide +kernel
theorem dX4_turns_42 : decode cX4_turns 42 = .ok (.iconst 0, 1) := by decide +kernel
theorem dX4_turns_43 : decode cX4_turns 43 = .ok (.ireturn, 1) := by decide +kernel
theorem dX4_turns_44 : decode cX4_turns 44 = .ok (.iload_n 1, 1) := by decide +kernel
theorem dX4_turns_45 : decode cX4_turns 45 = .ok (.ifCond .ne 7, 3) := by decide +kernel
theorem dX4_turns_48 : decode cX4_turns 48 = .ok (.iconst 1, 1) := by decide +kernel
theorem dX4_turns_49 : decode cX4_turns 49 = .ok (.goto 4, 3) := by decide +kernel
theorem dX4_turns_52 : decode cX4_turns 52 = .ok (.iconst 0, 1) := by decide +kernel
theorem dX4_turns_53 : decode cX4_turns 53 = .ok (.ireturn, 1) := by decide +kernel
theorem dX4_turns_54 : decode cX4_turns 54 = .ok (.iload_n 1, 1) := by decide +kernel
theorem dX4_turns_55 : decode cX4_turns 55 = .ok (.ireturn, 1) := by decide +kernel
theorem dX4_turns_56 : decode cX4_turns 56 = .ok (.iload_n 2, 1) := by decide +kernel
theorem dX4_turns_57 : decode cX4_turns 57 = .ok (.ifCond .lt 7, 3) := by decide +kernel
theorem dX4_turns_60 : decode cX4_turns 60 = .ok (.iconst 1, 1) := by decide +kernel
theorem dX4_turns_61 : decode cX4_turns 61 = .ok (.goto 4, 3) := by decide +kernel
theorem dX4_turns_64 : decode cX4_turns 64 = .ok (.iconst 0, 1) := by decide +kernel
theorem dX4_turns_65 : decode cX4_turns 65 = .ok (.ireturn, 1) := by decide +kernel
theorem dX4_turns_66 : decode cX4_turns 66 = .ok (.iload_n 2, 1) := by decide +kernel
theorem dX4_turns_67 : decode cX4_turns 67 = .ok (.ifCond .le 7, 3) := by decide +kernel
theorem dX4_turns_70 : decode cX4_turns 70 = .ok (.iconst 1, 1) := by decide +kernel
theorem dX4_turns_71 : decode cX4_turns 71 = .ok (.goto 4, 3) := by decide +kernel
theorem dX4_turns_74 : decode cX4_turns 74 = .ok (.iconst 0, 1) := by decide +kernel
theorem dX4_turns_75 : decode cX4_turns 75 = .ok (.ireturn, 1) := by decide +kernel
theorem dX4_turns_76 : decode cX4_turns 76 = .ok (.iload_n 2, 1) := by decide +kernel
theorem dX4_turns_77 : decode cX4_turns 77 = .ok (.ifCond .gt 11, 3) := by decide +kernel
theorem dX4_turns_80 : decode cX4_turns 80 = .ok (.iload_n 2, 1) := by decide +kernel
theorem dX4_turns_81 : decode cX4_turns 81 = .ok (.ifCond .ne 11, 3) := by decide +kernel
theorem dX4_turns_84 : decode cX4_turns 84 = .ok (.iload_n 3, 1) := by decide +kernel
theorem dX4_turns_85 : decode cX4_turns 85 = .ok (.ifCond .eq 7, 3) := by decide +kernel
theorem dX4_turns_88 : decode cX4_turns 88 = .ok (.iconst 1, 1) := by decide +kernel
theorem dX4_turns_89 : decode cX4_turns 89 = .ok (.goto 4, 3) := by decide +kernel
theorem dX4_turns_92 : decode cX4_turns 92 = .ok (.iconst 0, 1) := by decide +kernel
theorem dX4_turns_93 : decode cX4_turns 93 = .ok (.ireturn, 1) := by decide +kernel
set_option maxRecDepth 20000 in
theorem ggX4_divide_X4_is : GoodIn wsX4_divide wsX4_is := goodIn_r _ [12] (by decide +kernel) (by decide +kernel)
set_option maxRecDepth 20000 in
theorem gX4_divide_X4_is : GoodIn wsX4_divide (va_wsS RX4 52 yX4_is wsX4_is) := goodIn_app (goodIn_of _ (by decide +kernel)) ggX4_divide_X4_is
set_option maxRecDepth 20000 in
theorem ggX4_divide_X3_isZero : GoodIn wsX4_divide wsX3_isZero := goodIn_r _ [17, 18, 19, 66, 67, 68, 69] (by decide +kernel) (by decide +kernel)
set_option maxRecDepth 20000 in
theorem gX4_divide_X3_isZero : GoodIn wsX4_divide (wsV RX4 84 RX3 yX3_isZero wsX3_isZero) := goodIn_app (goodIn_of _ (by decide +kernel)) ggX4_divide_X3_isZero
set_option maxRecDepth 20000 in
theorem ggX4_divide_X4_isScale : GoodIn wsX4_divide wsX4_isScale := goodIn_r _ [22, 23, 24] (by decide +kernel) (by decide +kernel)
set_option maxRecDepth 20000 in
theorem gX4_divide_X4_isScale : GoodIn wsX4_divide (va_wsS RX4 44 yX4_isScale wsX4_isScale) := goodIn_app (goodIn_of _ (by decide +kernel)) ggX4_divide_X4_isScale
set_option maxRecDepth 20000 in
theorem ggX4_divide_X3_take : GoodIn wsX4_divide wsX3_take := goodIn_r _ [28, 18, 29, 30, 19, 66, 67, 68, 69] (by decide +kernel) (by decide +kernel)
set_option maxRecDepth 20000 in
theorem gX4_divide_X3_take : GoodIn wsX4_divide (wsV RX4 48 RX3 yX3_take wsX3_take) := goodIn_app (goodIn_of _ (by decide +kernel)) ggX4_divide_X3_take
set_option maxRecDepth 20000 in
theorem ggX4_divide_X3_up : GoodIn wsX4_divide wsX3_up := goodIn_r _ [34, 18, 19, 35, 14, 15, 16, 17, 66, 67, 68, 69] (by decide +kernel) (by decide +kernel)
set_option maxRecDepth 20000 in
theorem gX4_divide_X3_up : GoodIn wsX4_divide (wsV RX4 72 RX3 yX3_up wsX3_up) := goodIn_app (goodIn_of _ (by decide +kernel)) ggX4_divide_X3_up
set_option maxRecDepth 20000 in
theorem ggX4_divide_X4_over : GoodIn wsX4_divide wsX4_over := goodIn_r _ [39, 8, 2, 6, 40, 7, 3, 41, 42, 11, 43, 59, 60, 61, 62, 63, 64, 65, 66, 67, 68, 69] (by decide +kernel) (by decide +kernel)
set_option maxRecDepth 20000 in
theorem gX4_divide_X4_over : GoodIn wsX4_divide (wsV RX4 100 RX4 yX4_over wsX4_over) := goodIn_app (goodIn_of _ (by decide +kernel)) ggX4_divide_X4_over
set_option maxRecDepth 20000 in
theorem ggX4_divide_X4_sizes : GoodIn wsX4_divide wsX4_sizes := goodIn_r _ [43, 6, 7, 66, 67, 68, 69] (by decide +kernel) (by decide +kernel)
set_option maxRecDepth 20000 in
theorem gX4_divide_X4_sizes : GoodIn wsX4_divide (va_wsS RX4 80 yX4_sizes wsX4_sizes) := goodIn_app (goodIn_of _ (by decide +kernel)) ggX4_divide_X4_sizes
set_option maxRecDepth 20000 in
theorem ggX4_divide_X4_turns : GoodIn wsX4_divide wsX4_turns := goodIn_r _ [46] (by decide +kernel) (by decide +kernel)
set_option maxRecDepth 20000 in
theorem gX4_divide_X4_turns : GoodIn wsX4_divide (va_wsS RX4 103 yX4_turns wsX4_turns) := goodIn_app (goodIn_of _ (by decide +kernel)) ggX4_divide_X4_turns
set_option maxRecDepth 20000 in
theorem ggX4_divide_X3_more : GoodIn wsX4_divide wsX3_more := goodIn_r _ [50, 18, 19, 66, 67, 68, 69] (by decide +kernel) (by decide +kernel)
set_option maxRecDepth 20000 in
theorem gX4_divide_X3_more : GoodIn wsX4_divide (wsV RX4 107 RX3 yX3_more wsX3_more) := goodIn_app (goodIn_of _ (by decide +kernel)) ggX4_divide_X3_more
set_option maxRecDepth 20000 in
theorem ggX4_divide_X3_trim : GoodIn wsX4_divide wsX3_trim := goodIn_r _ [54, 18, 19, 29, 35, 14, 15, 16, 17, 66, 67, 68, 69] (by decide +kernel) (by decide +kernel)
set_option maxRecDepth 20000 in
theorem gX4_divide_X3_trim : GoodIn wsX4_divide (wsV RX4 65 RX3 yX3_trim wsX3_trim) := goodIn_app (goodIn_of _ (by decide +kernel)) ggX4_divide_X3_trim
set_option maxRecDepth 20000 in
theorem ggX4_divide_X4_keep : GoodIn wsX4_divide wsX4_keep := goodIn_r _ [58, 6, 5, 1, 20, 21, 11, 22, 23, 24, 25, 26, 27, 16, 28, 18, 29, 30, 19, 66, 67, 68, 69, 59, 60, 61, 62, 63, 64, 65] (by decide +kernel) (by decide +kernel)
set_option maxRecDepth 20000 in
theorem gX4_divide_X4_keep : GoodIn wsX4_divide (wsV RX4 68 RX4 yX4_keep wsX4_keep) := goodIn_app (goodIn_of _ (by decide +kernel)) ggX4_divide_X4_keep
theorem dX4_divide_0 : decode cX4_divide 0 = .ok (.iload_n 1, 1) := by decide +kernel
theorem dX4_divide_1 : decode cX4_divide 1 = .ok (.invokestatic 52, 3) := by decide +kernel
theorem dX4_divide_4 : decode cX4_divide 4 = .ok (.ifCond .eq 29, 3) := by decide +kernel
theorem dX4_divide_7 : decode cX4_divide 7 = .ok (.iload_n 2, 1) := by decide +kernel
theorem dX4_divide_8 : decode cX4_divide 8 = .ok (.invokestatic 52, 3) := by decide +kernel
theorem dX4_divide_11 : decode cX4_divide 11 = .ok (.ifCond .eq 22, 3) := by decide +kernel
theorem dX4_divide_14 : decode cX4_divide 14 = .ok (.iload_n 3, 1) := by decide +kernel
theorem dX4_divide_15 : decode cX4_divide 15 = .ok (.invokestatic 52, 3) := by decide +kernel
theorem dX4_divide_18 : decode cX4_divide 18 = .ok (.ifCond .eq 15, 3) := by decide +kernel
theorem dX4_divide_21 : decode cX4_divide 21 = .ok (.iload 5, 2) := by decide +kernel
theorem dX4_divide_23 : decode cX4_divide 23 = .ok (.ifCond .lt 10, 3) := by decide +kernel
theorem dX4_divide_26 : decode cX4_divide 26 = .ok (.iload 5, 2) := by decide +kernel
theorem dX4_divide_28 : decode cX4_divide 28 = .ok (.bipush 7, 2) := by decide +kernel
theorem dX4_divide_30 : decode cX4_divide 30 = .ok (.if_icmp .le 5, 3) := by decide +kernel
theorem dX4_divide_33 : decode cX4_divide 33 = .ok (.iconst (-1), 1) := by decide +kernel
theorem dX4_divide_34 : decode cX4_divide 34 = .ok (.ireturn, 1) := by decide +kernel
theorem dX4_divide_35 : decode cX4_divide 35 = .ok (.aload_n 0, 1) := by decide +kernel
theorem dX4_divide_36 : decode cX4_divide 36 = .ok (.getfield 9, 3) := by decide +kernel
theorem dX4_divide_39 : decode cX4_divide 39 = .ok (.iload_n 3, 1) := by decide +kernel
theorem dX4_divide_40 : decode cX4_divide 40 = .ok (.aaload, 1) := by decide +kernel
theorem dX4_divide_41 : decode cX4_divide 41 = .ok (.invokevirtual 84, 3) := by decide +kernel
theorem dX4_divide_44 : decode cX4_divide 44 = .ok (.ifCond .eq 6, 3) := by decide +kernel
theorem dX4_divide_47 : decode cX4_divide 47 = .ok (.bipush (-2), 2) := by decide +kernel
theorem dX4_divide_49 : decode cX4_divide 49 = .ok (.ireturn, 1) := by decide +kernel
theorem dX4_divide_50 : decode cX4_divide 50 = .ok (.iload 4, 2) := by decide +kernel
theorem dX4_divide_52 : decode cX4_divide 52 = .ok (.i2l, 1) := by decide +kernel
theorem dX4_divide_53 : decode cX4_divide 53 = .ok (.invokestatic 44, 3) := by decide +kernel
theorem dX4_divide_56 : decode cX4_divide 56 = .ok (.ifCond .ne 6, 3) := by decide +kernel
theorem dX4_divide_59 : decode cX4_divide 59 = .ok (.bipush (-3), 2) := by decide +kernel
theorem dX4_divide_61 : decode cX4_divide 61 = .ok (.ireturn, 1) := by decide +kernel
theorem dX4_divide_62 : decode cX4_divide 62 = .ok (.aload_n 0, 1) := by decide +kernel
theorem dX4_divide_63 : decode cX4_divide 63 = .ok (.getfield 16, 3) := by decide +kernel
theorem dX4_divide_66 : decode cX4_divide 66 = .ok (.aload_n 0, 1) := by decide +kernel
theorem dX4_divide_67 : decode cX4_divide 67 = .ok (.getfield 9, 3) := by decide +kernel
theorem dX4_divide_70 : decode cX4_divide 70 = .ok (.iload_n 2, 1) := by decide +kernel
theorem dX4_divide_71 : decode cX4_divide 71 = .ok (.aaload, 1) := by decide +kernel
theorem dX4_divide_72 : decode cX4_divide 72 = .ok (.invokevirtual 48, 3) := by decide +kernel
theorem dX4_divide_75 : decode cX4_divide 75 = .ok (.aload_n 0, 1) := by decide +kernel
theorem dX4_divide_76 : decode cX4_divide 76 = .ok (.getfield 20, 3) := by decide +kernel
theorem dX4_divide_79 : decode cX4_divide 79 = .ok (.aload_n 0, 1) := by decide +kernel
theorem dX4_divide_80 : decode cX4_divide 80 = .ok (.getfield 9, 3) := by decide +kernel
theorem dX4_divide_83 : decode cX4_divide 83 = .ok (.iload_n 3, 1) := by decide +kernel
theorem dX4_divide_84 : decode cX4_divide 84 = .ok (.aaload, 1) := by decide +kernel
theorem dX4_divide_85 : decode cX4_divide 85 = .ok (.invokevirtual 48, 3) := by decide +kernel
theorem dX4_divide_88 : decode cX4_divide 88 = .ok (.aload_n 0, 1) := by decide +kernel
theorem dX4_divide_89 : decode cX4_divide 89 = .ok (.getfield 16, 3) := by decide +kernel
theorem dX4_divide_92 : decode cX4_divide 92 = .ok (.getfield 61, 3) := by decide +kernel
theorem dX4_divide_95 : decode cX4_divide 95 = .ok (.aload_n 0, 1) := by decide +kernel
theorem dX4_divide_96 : decode cX4_divide 96 = .ok (.getfield 20, 3) := by decide +kernel
theorem dX4_divide_99 : decode cX4_divide 99 = .ok (.getfield 61, 3) := by decide +kernel
theorem dX4_divide_102 : decode cX4_divide 102 = .ok (.if_icmp .eq 7, 3) := by decide +kernel
theorem dX4_divide_105 : decode cX4_divide 105 = .ok (.iconst 1, 1) := by decide +kernel
theorem dX4_divide_106 : decode cX4_divide 106 = .ok (.goto 4, 3) := by decide +kernel
theorem dX4_divide_109 : decode cX4_divide 109 = .ok (.iconst 0, 1) := by decide +kernel
theorem dX4_divide_110 : decode cX4_divide 110 = .ok (.istore 6, 2) := by decide +kernel
theorem dX4_divide_112 : decode cX4_divide 112 = .ok (.iload 4, 2) := by decide +kernel
theorem dX4_divide_114 : decode cX4_divide 114 = .ok (.aload_n 0, 1) := by decide +kernel
theorem dX4_divide_115 : decode cX4_divide 115 = .ok (.getfield 16, 3) := by decide +kernel
theorem dX4_divide_118 : decode cX4_divide 118 = .ok (.getfield 41, 3) := by decide +kernel
theorem dX4_divide_121 : decode cX4_divide 121 = .ok (.isub, 1) := by decide +kernel
theorem dX4_divide_122 : decode cX4_divide 122 = .ok (.aload_n 0, 1) := by decide +kernel
theorem dX4_divide_123 : decode cX4_divide 123 = .ok (.getfield 20, 3) := by decide +kernel
theorem dX4_divide_126 : decode cX4_divide 126 = .ok (.getfield 41, 3) := by decide +kernel
theorem dX4_divide_129 : decode cX4_divide 129 = .ok (.iadd, 1) := by decide +kernel
theorem dX4_divide_130 : decode cX4_divide 130 = .ok (.istore 7, 2) := by decide +kernel
theorem dX4_divide_132 : decode cX4_divide 132 = .ok (.iload 7, 2) := by decide +kernel
theorem dX4_divide_134 : decode cX4_divide 134 = .ok (.ifCond .le 15, 3) := by decide +kernel
theorem dX4_divide_137 : decode cX4_divide 137 = .ok (.aload_n 0, 1) := by decide +kernel
theorem dX4_divide_138 : decode cX4_divide 138 = .ok (.getfield 16, 3) := by decide +kernel
theorem dX4_divide_141 : decode cX4_divide 141 = .ok (.iload 7, 2) := by decide +kernel
theorem dX4_divide_143 : decode cX4_divide 143 = .ok (.invokevirtual 72, 3) := by decide +kernel
theorem dX4_divide_146 : decode cX4_divide 146 = .ok (.goto 13, 3) := by decide +kernel
theorem dX4_divide_149 : decode cX4_divide 149 = .ok (.aload_n 0, 1) := by decide +kernel
theorem dX4_divide_150 : decode cX4_divide 150 = .ok (.getfield 20, 3) := by decide +kernel
theorem dX4_divide_153 : decode cX4_divide 153 = .ok (.iload 7, 2) := by decide +kernel
theorem dX4_divide_155 : decode cX4_divide 155 = .ok (.ineg, 1) := by decide +kernel
theorem dX4_divide_156 : decode cX4_divide 156 = .ok (.invokevirtual 72, 3) := by decide +kernel
theorem dX4_divide_159 : decode cX4_divide 159 = .ok (.aload_n 0, 1) := by decide +kernel
theorem dX4_divide_160 : decode cX4_divide 160 = .ok (.invokevirtual 100, 3) := by decide +kernel
theorem dX4_divide_163 : decode cX4_divide 163 = .ok (.aload_n 0, 1) := by decide +kernel
theorem dX4_divide_164 : decode cX4_divide 164 = .ok (.getfield 16, 3) := by decide +kernel
theorem dX4_divide_167 : decode cX4_divide 167 = .ok (.getfield 37, 3) := by decide +kernel
theorem dX4_divide_170 : decode cX4_divide 170 = .ok (.iconst 1, 1) := by decide +kernel
theorem dX4_divide_171 : decode cX4_divide 171 = .ok (.if_icmp .ne 15, 3) := by decide +kernel
theorem dX4_divide_174 : decode cX4_divide 174 = .ok (.aload_n 0, 1) := by decide +kernel
theorem dX4_divide_175 : decode cX4_divide 175 = .ok (.getfield 16, 3) := by decide +kernel
theorem dX4_divide_178 : decode cX4_divide 178 = .ok (.getfield 58, 3) := by decide +kernel
theorem dX4_divide_181 : decode cX4_divide 181 = .ok (.iconst 0, 1) := by decide +kernel
theorem dX4_divide_182 : decode cX4_divide 182 = .ok (.iaload, 1) := by decide +kernel
theorem dX4_divide_183 : decode cX4_divide 183 = .ok (.ifCond .eq 159, 3) := by decide +kernel
theorem dX4_divide_186 : decode cX4_divide 186 = .ok (.iload 5, 2) := by decide +kernel
theorem dX4_divide_188 : decode cX4_divide 188 = .ok (.bipush 7, 2) := by decide +kernel
theorem dX4_divide_190 : decode cX4_divide 190 = .ok (.if_icmp .ne 6, 3) := by decide +kernel
theorem dX4_divide_193 : decode cX4_divide 193 = .ok (.bipush (-4), 2) := by decide +kernel
theorem dX4_divide_195 : decode cX4_divide 195 = .ok (.ireturn, 1) := by decide +kernel
theorem dX4_divide_196 : decode cX4_divide 196 = .ok (.iconst 0, 1) := by decide +kernel
theorem dX4_divide_197 : decode cX4_divide 197 = .ok (.istore 8, 2) := by decide +kernel
theorem dX4_divide_199 : decode cX4_divide 199 = .ok (.iconst 0, 1) := by decide +kernel
theorem dX4_divide_200 : decode cX4_divide 200 = .ok (.istore 9, 2) := by decide +kernel
theorem dX4_divide_202 : decode cX4_divide 202 = .ok (.iload 9, 2) := by decide +kernel
theorem dX4_divide_204 : decode cX4_divide 204 = .ok (.aload_n 0, 1) := by decide +kernel
theorem dX4_divide_205 : decode cX4_divide 205 = .ok (.getfield 16, 3) := by decide +kernel
theorem dX4_divide_208 : decode cX4_divide 208 = .ok (.getfield 37, 3) := by decide +kernel
theorem dX4_divide_211 : decode cX4_divide 211 = .ok (.if_icmp .ge 48, 3) := by decide +kernel
theorem dX4_divide_214 : decode cX4_divide 214 = .ok (.iconst 2, 1) := by decide +kernel
theorem dX4_divide_215 : decode cX4_divide 215 = .ok (.aload_n 0, 1) := by decide +kernel
theorem dX4_divide_216 : decode cX4_divide 216 = .ok (.getfield 16, 3) := by decide +kernel
theorem dX4_divide_219 : decode cX4_divide 219 = .ok (.getfield 58, 3) := by decide +kernel
theorem dX4_divide_222 : decode cX4_divide 222 = .ok (.iload 9, 2) := by decide +kernel
theorem dX4_divide_224 : decode cX4_divide 224 = .ok (.iaload, 1) := by decide +kernel
theorem dX4_divide_225 : decode cX4_divide 225 = .ok (.imul, 1) := by decide +kernel
theorem dX4_divide_226 : decode cX4_divide 226 = .ok (.iload 8, 2) := by decide +kernel
theorem dX4_divide_228 : decode cX4_divide 228 = .ok (.iadd, 1) := by decide +kernel
theorem dX4_divide_229 : decode cX4_divide 229 = .ok (.istore 10, 2) := by decide +kernel
theorem dX4_divide_231 : decode cX4_divide 231 = .ok (.aload_n 0, 1) := by decide +kernel
theorem dX4_divide_232 : decode cX4_divide 232 = .ok (.getfield 16, 3) := by decide +kernel
theorem dX4_divide_235 : decode cX4_divide 235 = .ok (.getfield 58, 3) := by decide +kernel
theorem dX4_divide_238 : decode cX4_divide 238 = .ok (.iload 9, 2) := by decide +kernel
theorem dX4_divide_240 : decode cX4_divide 240 = .ok (.iload 10, 2) := by decide +kernel
theorem dX4_divide_242 : decode cX4_divide 242 = .ok (.bipush 10, 2) := by decide +kernel
theorem dX4_divide_244 : decode cX4_divide 244 = .ok (.irem, 1) := by decide +kernel
theorem dX4_divide_245 : decode cX4_divide 245 = .ok (.iastore, 1) := by decide +kernel
theorem dX4_divide_246 : decode cX4_divide 246 = .ok (.iload 10, 2) := by decide +kernel
theorem dX4_divide_248 : decode cX4_divide 248 = .ok (.bipush 10, 2) := by decide +kernel
theorem dX4_divide_250 : decode cX4_divide 250 = .ok (.idiv, 1) := by decide +kernel
theorem dX4_divide_251 : decode cX4_divide 251 = .ok (.istore 8, 2) := by decide +kernel
theorem dX4_divide_253 : decode cX4_divide 253 = .ok (.iinc 9 1, 3) := by decide +kernel
theorem dX4_divide_256 : decode cX4_divide 256 = .ok (.goto (-54), 3) := by decide +kernel
theorem dX4_divide_259 : decode cX4_divide 259 = .ok (.iload 8, 2) := by decide +kernel
theorem dX4_divide_261 : decode cX4_divide 261 = .ok (.ifCond .le 33, 3) := by decide +kernel
theorem dX4_divide_264 : decode cX4_divide 264 = .ok (.aload_n 0, 1) := by decide +kernel
theorem dX4_divide_265 : decode cX4_divide 265 = .ok (.getfield 16, 3) := by decide +kernel
theorem dX4_divide_268 : decode cX4_divide 268 = .ok (.getfield 58, 3) := by decide +kernel
theorem dX4_divide_271 : decode cX4_divide 271 = .ok (.aload_n 0, 1) := by decide +kernel
theorem dX4_divide_272 : decode cX4_divide 272 = .ok (.getfield 16, 3) := by decide +kernel
theorem dX4_divide_275 : decode cX4_divide 275 = .ok (.getfield 37, 3) := by decide +kernel
theorem dX4_divide_278 : decode cX4_divide 278 = .ok (.iload 8, 2) := by decide +kernel
theorem dX4_divide_280 : decode cX4_divide 280 = .ok (.iastore, 1) := by decide +kernel
theorem dX4_divide_281 : decode cX4_divide 281 = .ok (.aload_n 0, 1) := by decide +kernel
theorem dX4_divide_282 : decode cX4_divide 282 = .ok (.getfield 16, 3) := by decide +kernel
theorem dX4_divide_285 : decode cX4_divide 285 = .ok (.dup, 1) := by decide +kernel
theorem dX4_divide_286 : decode cX4_divide 286 = .ok (.getfield 37, 3) := by decide +kernel
theorem dX4_divide_289 : decode cX4_divide 289 = .ok (.iconst 1, 1) := by decide +kernel
theorem dX4_divide_290 : decode cX4_divide 290 = .ok (.iadd, 1) := by decide +kernel
theorem dX4_divide_291 : decode cX4_divide 291 = .ok (.putfield 37, 3) := by decide +kernel
theorem dX4_divide_294 : decode cX4_divide 294 = .ok (.iload 5, 2) := by decide +kernel
theorem dX4_divide_296 : decode cX4_divide 296 = .ok (.iload 6, 2) := by decide +kernel
theorem dX4_divide_298 : decode cX4_divide 298 = .ok (.aload_n 0, 1) := by decide +kernel
theorem dX4_divide_299 : decode cX4_divide 299 = .ok (.getfield 16, 3) := by decide +kernel
theorem dX4_divide_302 : decode cX4_divide 302 = .ok (.aload_n 0, 1) := by decide +kernel
theorem dX4_divide_303 : decode cX4_divide 303 = .ok (.getfield 20, 3) := by decide +kernel
theorem dX4_divide_306 : decode cX4_divide 306 = .ok (.invokestatic 80, 3) := by decide +kernel
theorem dX4_divide_309 : decode cX4_divide 309 = .ok (.aload_n 0, 1) := by decide +kernel
theorem dX4_divide_310 : decode cX4_divide 310 = .ok (.getfield 23, 3) := by decide +kernel
theorem dX4_divide_313 : decode cX4_divide 313 = .ok (.getfield 58, 3) := by decide +kernel
theorem dX4_divide_316 : decode cX4_divide 316 = .ok (.iconst 0, 1) := by decide +kernel
theorem dX4_divide_317 : decode cX4_divide 317 = .ok (.iaload, 1) := by decide +kernel
theorem dX4_divide_318 : decode cX4_divide 318 = .ok (.iconst 2, 1) := by decide +kernel
theorem dX4_divide_319 : decode cX4_divide 319 = .ok (.irem, 1) := by decide +kernel
theorem dX4_divide_320 : decode cX4_divide 320 = .ok (.iconst 1, 1) := by decide +kernel
theorem dX4_divide_321 : decode cX4_divide 321 = .ok (.if_icmp .ne 7, 3) := by decide +kernel
theorem dX4_divide_324 : decode cX4_divide 324 = .ok (.iconst 1, 1) := by decide +kernel
theorem dX4_divide_325 : decode cX4_divide 325 = .ok (.goto 4, 3) := by decide +kernel
theorem dX4_divide_328 : decode cX4_divide 328 = .ok (.iconst 0, 1) := by decide +kernel
theorem dX4_divide_329 : decode cX4_divide 329 = .ok (.invokestatic 103, 3) := by decide +kernel
theorem dX4_divide_332 : decode cX4_divide 332 = .ok (.ifCond .eq 10, 3) := by decide +kernel
theorem dX4_divide_335 : decode cX4_divide 335 = .ok (.aload_n 0, 1) := by decide +kernel
theorem dX4_divide_336 : decode cX4_divide 336 = .ok (.getfield 23, 3) := by decide +kernel
theorem dX4_divide_339 : decode cX4_divide 339 = .ok (.invokevirtual 107, 3) := by decide +kernel
theorem dX4_divide_342 : decode cX4_divide 342 = .ok (.aload_n 0, 1) := by decide +kernel
theorem dX4_divide_343 : decode cX4_divide 343 = .ok (.getfield 23, 3) := by decide +kernel
theorem dX4_divide_346 : decode cX4_divide 346 = .ok (.iload 6, 2) := by decide +kernel
theorem dX4_divide_348 : decode cX4_divide 348 = .ok (.putfield 61, 3) := by decide +kernel
theorem dX4_divide_351 : decode cX4_divide 351 = .ok (.aload_n 0, 1) := by decide +kernel
theorem dX4_divide_352 : decode cX4_divide 352 = .ok (.getfield 23, 3) := by decide +kernel
theorem dX4_divide_355 : decode cX4_divide 355 = .ok (.iload 4, 2) := by decide +kernel
theorem dX4_divide_357 : decode cX4_divide 357 = .ok (.putfield 41, 3) := by decide +kernel
theorem dX4_divide_360 : decode cX4_divide 360 = .ok (.aload_n 0, 1) := by decide +kernel
theorem dX4_divide_361 : decode cX4_divide 361 = .ok (.getfield 23, 3) := by decide +kernel
theorem dX4_divide_364 : decode cX4_divide 364 = .ok (.invokevirtual 65, 3) := by decide +kernel
theorem dX4_divide_367 : decode cX4_divide 367 = .ok (.aload_n 0, 1) := by decide +kernel
theorem dX4_divide_368 : decode cX4_divide 368 = .ok (.iload_n 1, 1) := by decide +kernel
theorem dX4_divide_369 : decode cX4_divide 369 = .ok (.aload_n 0, 1) := by decide +kernel
theorem dX4_divide_370 : decode cX4_divide 370 = .ok (.getfield 23, 3) := by decide +kernel
theorem dX4_divide_373 : decode cX4_divide 373 = .ok (.invokevirtual 68, 3) := by decide +kernel
theorem dX4_divide_376 : decode cX4_divide 376 = .ok (.ireturn, 1) := by decide +kernel
set_option maxRecDepth 20000 in
theorem ggX4_part_X4_is : GoodIn wsX4_part wsX4_is := goodIn_r _ [11] (by decide +kernel) (by decide +kernel)
set_option maxRecDepth 20000 in
theorem gX4_part_X4_is : GoodIn wsX4_part (va_wsS RX4 52 yX4_is wsX4_is) := goodIn_app (goodIn_of _ (by decide +kernel)) ggX4_part_X4_is
set_option maxRecDepth 20000 in
theorem ggX4_part_X3_isZero : GoodIn wsX4_part wsX3_isZero := goodIn_r _ [16, 17, 18, 54, 55, 56, 57] (by decide +kernel) (by decide +kernel)
set_option maxRecDepth 20000 in
theorem gX4_part_X3_isZero : GoodIn wsX4_part (wsV RX4 84 RX3 yX3_isZero wsX3_isZero) := goodIn_app (goodIn_of _ (by decide +kernel)) ggX4_part_X3_isZero
set_option maxRecDepth 20000 in
theorem ggX4_part_X4_align : GoodIn wsX4_part wsX4_align := goodIn_r _ [22, 2, 1, 5, 6, 23, 24, 25, 15, 26, 17, 27, 28, 18, 29, 30, 31, 32, 33, 13, 14, 16, 47, 48, 49, 50, 51, 52, 53, 54, 55, 56, 57] (by decide +kernel) (by decide +kernel)
set_option maxRecDepth 20000 in
theorem gX4_part_X4_align : GoodIn wsX4_part (wsV RX4 76 RX4 yX4_align wsX4_align) := goodIn_app (goodIn_of _ (by decide +kernel)) ggX4_part_X4_align
set_option maxRecDepth 20000 in
theorem ggX4_part_X4_over : GoodIn wsX4_part wsX4_over := goodIn_r _ [37, 4, 2, 7, 38, 39, 5, 40, 41, 10, 42, 47, 48, 49, 50, 51, 52, 53, 54, 55, 56, 57] (by decide +kernel) (by decide +kernel)
set_option maxRecDepth 20000 in
theorem gX4_part_X4_over : GoodIn wsX4_part (wsV RX4 100 RX4 yX4_over wsX4_over) := goodIn_app (goodIn_of _ (by decide +kernel)) ggX4_part_X4_over
set_option maxRecDepth 20000 in
theorem ggX4_part_X3_trim : GoodIn wsX4_part wsX3_trim := goodIn_r _ [46, 17, 18, 27, 33, 13, 14, 15, 16, 54, 55, 56, 57] (by decide +kernel) (by decide +kernel)
set_option maxRecDepth 20000 in
theorem gX4_part_X3_trim : GoodIn wsX4_part (wsV RX4 65 RX3 yX3_trim wsX3_trim) := goodIn_app (goodIn_of _ (by decide +kernel)) ggX4_part_X3_trim
set_option maxRecDepth 20000 in
theorem ggX4_part_X3_take : GoodIn wsX4_part wsX3_take := goodIn_r _ [26, 17, 27, 28, 18, 54, 55, 56, 57] (by decide +kernel) (by decide +kernel)
set_option maxRecDepth 20000 in
theorem gX4_part_X3_take : GoodIn wsX4_part (wsV RX4 48 RX3 yX3_take wsX3_take) := goodIn_app (goodIn_of _ (by decide +kernel)) ggX4_part_X3_take
theorem dX4_part_0 : decode cX4_part 0 = .ok (.iload_n 1, 1) := by decide +kernel
theorem dX4_part_1 : decode cX4_part 1 = .ok (.invokestatic 52, 3) := by decide +kernel
theorem dX4_part_4 : decode cX4_part 4 = .ok (.ifCond .eq 30, 3) := by decide +kernel
theorem dX4_part_7 : decode cX4_part 7 = .ok (.iload_n 2, 1) := by decide +kernel
theorem dX4_part_8 : decode cX4_part 8 = .ok (.invokestatic 52, 3) := by decide +kernel
theorem dX4_part_11 : decode cX4_part 11 = .ok (.ifCond .eq 23, 3) := by decide +kernel
theorem dX4_part_14 : decode cX4_part 14 = .ok (.iload_n 3, 1) := by decide +kernel
theorem dX4_part_15 : decode cX4_part 15 = .ok (.invokestatic 52, 3) := by decide +kernel
theorem dX4_part_18 : decode cX4_part 18 = .ok (.ifCond .eq 16, 3) := by decide +kernel
theorem dX4_part_21 : decode cX4_part 21 = .ok (.iload 4, 2) := by decide +kernel
theorem dX4_part_23 : decode cX4_part 23 = .ok (.invokestatic 52, 3) := by decide +kernel
theorem dX4_part_26 : decode cX4_part 26 = .ok (.ifCond .eq 8, 3) := by decide +kernel
theorem dX4_part_29 : decode cX4_part 29 = .ok (.iload_n 1, 1) := by decide +kernel
theorem dX4_part_30 : decode cX4_part 30 = .ok (.iload_n 2, 1) := by decide +kernel
theorem dX4_part_31 : decode cX4_part 31 = .ok (.if_icmp .ne 5, 3) := by decide +kernel
theorem dX4_part_34 : decode cX4_part 34 = .ok (.iconst (-1), 1) := by decide +kernel
theorem dX4_part_35 : decode cX4_part 35 = .ok (.ireturn, 1) := by decide +kernel
theorem dX4_part_36 : decode cX4_part 36 = .ok (.aload_n 0, 1) := by decide +kernel
theorem dX4_part_37 : decode cX4_part 37 = .ok (.getfield 9, 3) := by decide +kernel
theorem dX4_part_40 : decode cX4_part 40 = .ok (.iload 4, 2) := by decide +kernel
theorem dX4_part_42 : decode cX4_part 42 = .ok (.aaload, 1) := by decide +kernel
theorem dX4_part_43 : decode cX4_part 43 = .ok (.invokevirtual 84, 3) := by decide +kernel
theorem dX4_part_46 : decode cX4_part 46 = .ok (.ifCond .eq 6, 3) := by decide +kernel
theorem dX4_part_49 : decode cX4_part 49 = .ok (.bipush (-2), 2) := by decide +kernel
theorem dX4_part_51 : decode cX4_part 51 = .ok (.ireturn, 1) := by decide +kernel
theorem dX4_part_52 : decode cX4_part 52 = .ok (.aload_n 0, 1) := by decide +kernel
theorem dX4_part_53 : decode cX4_part 53 = .ok (.iload_n 3, 1) := by decide +kernel
theorem dX4_part_54 : decode cX4_part 54 = .ok (.iload 4, 2) := by decide +kernel
theorem dX4_part_56 : decode cX4_part 56 = .ok (.invokevirtual 76, 3) := by decide +kernel
theorem dX4_part_59 : decode cX4_part 59 = .ok (.aload_n 0, 1) := by decide +kernel
theorem dX4_part_60 : decode cX4_part 60 = .ok (.getfield 16, 3) := by decide +kernel
theorem dX4_part_63 : decode cX4_part 63 = .ok (.getfield 61, 3) := by decide +kernel
theorem dX4_part_66 : decode cX4_part 66 = .ok (.istore 5, 2) := by decide +kernel
theorem dX4_part_68 : decode cX4_part 68 = .ok (.aload_n 0, 1) := by decide +kernel
theorem dX4_part_69 : decode cX4_part 69 = .ok (.getfield 23, 3) := by decide +kernel
theorem dX4_part_72 : decode cX4_part 72 = .ok (.aload_n 0, 1) := by decide +kernel
theorem dX4_part_73 : decode cX4_part 73 = .ok (.getfield 16, 3) := by decide +kernel
theorem dX4_part_76 : decode cX4_part 76 = .ok (.getfield 61, 3) := by decide +kernel
theorem dX4_part_79 : decode cX4_part 79 = .ok (.aload_n 0, 1) := by decide +kernel
theorem dX4_part_80 : decode cX4_part 80 = .ok (.getfield 20, 3) := by decide +kernel
theorem dX4_part_83 : decode cX4_part 83 = .ok (.getfield 61, 3) := by decide +kernel
theorem dX4_part_86 : decode cX4_part 86 = .ok (.if_icmp .eq 7, 3) := by decide +kernel
theorem dX4_part_89 : decode cX4_part 89 = .ok (.iconst 1, 1) := by decide +kernel
theorem dX4_part_90 : decode cX4_part 90 = .ok (.goto 4, 3) := by decide +kernel
theorem dX4_part_93 : decode cX4_part 93 = .ok (.iconst 0, 1) := by decide +kernel
theorem dX4_part_94 : decode cX4_part 94 = .ok (.putfield 61, 3) := by decide +kernel
theorem dX4_part_97 : decode cX4_part 97 = .ok (.aload_n 0, 1) := by decide +kernel
theorem dX4_part_98 : decode cX4_part 98 = .ok (.getfield 16, 3) := by decide +kernel
theorem dX4_part_101 : decode cX4_part 101 = .ok (.getfield 41, 3) := by decide +kernel
theorem dX4_part_104 : decode cX4_part 104 = .ok (.istore 6, 2) := by decide +kernel
theorem dX4_part_106 : decode cX4_part 106 = .ok (.aload_n 0, 1) := by decide +kernel
theorem dX4_part_107 : decode cX4_part 107 = .ok (.invokevirtual 100, 3) := by decide +kernel
theorem dX4_part_110 : decode cX4_part 110 = .ok (.aload_n 0, 1) := by decide +kernel
theorem dX4_part_111 : decode cX4_part 111 = .ok (.getfield 16, 3) := by decide +kernel
theorem dX4_part_114 : decode cX4_part 114 = .ok (.iload 5, 2) := by decide +kernel
theorem dX4_part_116 : decode cX4_part 116 = .ok (.putfield 61, 3) := by decide +kernel
theorem dX4_part_119 : decode cX4_part 119 = .ok (.aload_n 0, 1) := by decide +kernel
theorem dX4_part_120 : decode cX4_part 120 = .ok (.getfield 16, 3) := by decide +kernel
theorem dX4_part_123 : decode cX4_part 123 = .ok (.iload 6, 2) := by decide +kernel
theorem dX4_part_125 : decode cX4_part 125 = .ok (.putfield 41, 3) := by decide +kernel
theorem dX4_part_128 : decode cX4_part 128 = .ok (.aload_n 0, 1) := by decide +kernel
theorem dX4_part_129 : decode cX4_part 129 = .ok (.getfield 16, 3) := by decide +kernel
theorem dX4_part_132 : decode cX4_part 132 = .ok (.invokevirtual 65, 3) := by decide +kernel
theorem dX4_part_135 : decode cX4_part 135 = .ok (.aload_n 0, 1) := by decide +kernel
theorem dX4_part_136 : decode cX4_part 136 = .ok (.getfield 23, 3) := by decide +kernel
theorem dX4_part_139 : decode cX4_part 139 = .ok (.iconst 0, 1) := by decide +kernel
theorem dX4_part_140 : decode cX4_part 140 = .ok (.putfield 41, 3) := by decide +kernel
theorem dX4_part_143 : decode cX4_part 143 = .ok (.aload_n 0, 1) := by decide +kernel
theorem dX4_part_144 : decode cX4_part 144 = .ok (.getfield 23, 3) := by decide +kernel
theorem dX4_part_147 : decode cX4_part 147 = .ok (.invokevirtual 65, 3) := by decide +kernel
theorem dX4_part_150 : decode cX4_part 150 = .ok (.aload_n 0, 1) := by decide +kernel
theorem dX4_part_151 : decode cX4_part 151 = .ok (.getfield 23, 3) := by decide +kernel
theorem dX4_part_154 : decode cX4_part 154 = .ok (.getfield 37, 3) := by decide +kernel
theorem dX4_part_157 : decode cX4_part 157 = .ok (.sipush 190, 3) := by decide +kernel
theorem dX4_part_160 : decode cX4_part 160 = .ok (.if_icmp .gt 16, 3) := by decide +kernel
theorem dX4_part_163 : decode cX4_part 163 = .ok (.aload_n 0, 1) := by decide +kernel
theorem dX4_part_164 : decode cX4_part 164 = .ok (.getfield 16, 3) := by decide +kernel
theorem dX4_part_167 : decode cX4_part 167 = .ok (.getfield 37, 3) := by decide +kernel
theorem dX4_part_170 : decode cX4_part 170 = .ok (.sipush 190, 3) := by decide +kernel
theorem dX4_part_173 : decode cX4_part 173 = .ok (.if_icmp .le 6, 3) := by decide +kernel
theorem dX4_part_176 : decode cX4_part 176 = .ok (.bipush (-3), 2) := by decide +kernel
theorem dX4_part_178 : decode cX4_part 178 = .ok (.ireturn, 1) := by decide +kernel
theorem dX4_part_179 : decode cX4_part 179 = .ok (.aload_n 0, 1) := by decide +kernel
theorem dX4_part_180 : decode cX4_part 180 = .ok (.getfield 9, 3) := by decide +kernel
theorem dX4_part_183 : decode cX4_part 183 = .ok (.iload_n 1, 1) := by decide +kernel
theorem dX4_part_184 : decode cX4_part 184 = .ok (.aaload, 1) := by decide +kernel
theorem dX4_part_185 : decode cX4_part 185 = .ok (.aload_n 0, 1) := by decide +kernel
theorem dX4_part_186 : decode cX4_part 186 = .ok (.getfield 23, 3) := by decide +kernel
theorem dX4_part_189 : decode cX4_part 189 = .ok (.invokevirtual 48, 3) := by decide +kernel
theorem dX4_part_192 : decode cX4_part 192 = .ok (.aload_n 0, 1) := by decide +kernel
theorem dX4_part_193 : decode cX4_part 193 = .ok (.getfield 9, 3) := by decide +kernel
theorem dX4_part_196 : decode cX4_part 196 = .ok (.iload_n 2, 1) := by decide +kernel
theorem dX4_part_197 : decode cX4_part 197 = .ok (.aaload, 1) := by decide +kernel
theorem dX4_part_198 : decode cX4_part 198 = .ok (.aload_n 0, 1) := by decide +kernel
theorem dX4_part_199 : decode cX4_part 199 = .ok (.getfield 16, 3) := by decide +kernel
theorem dX4_part_202 : decode cX4_part 202 = .ok (.invokevirtual 48, 3) := by decide +kernel
theorem dX4_part_205 : decode cX4_part 205 = .ok (.aload_n 0, 1) := by decide +kernel
theorem dX4_part_206 : decode cX4_part 206 = .ok (.getfield 23, 3) := by decide +kernel
theorem dX4_part_209 : decode cX4_part 209 = .ok (.getfield 37, 3) := by decide +kernel
theorem dX4_part_212 : decode cX4_part 212 = .ok (.ireturn, 1) := by decide +kernel
set_option maxRecDepth 20000 in
theorem ggX4_cut_X3_ends : GoodIn wsX4_cut wsX3_ends := goodIn_r _ [9, 10, 11, 27, 28, 29, 30] (by decide +kernel) (by decide +kernel)
set_option maxRecDepth 20000 in
theorem gX4_cut_X3_ends : GoodIn wsX4_cut (wsV RX4 110 RX3 yX3_ends wsX3_ends) := goodIn_app (goodIn_of _ (by decide +kernel)) ggX4_cut_X3_ends
set_option maxRecDepth 20000 in
theorem ggX4_cut_X4_turns : GoodIn wsX4_cut wsX4_turns := goodIn_r _ [15] (by decide +kernel) (by decide +kernel)
set_option maxRecDepth 20000 in
theorem gX4_cut_X4_turns : GoodIn wsX4_cut (va_wsS RX4 103 yX4_turns wsX4_turns) := goodIn_app (goodIn_of _ (by decide +kernel)) ggX4_cut_X4_turns
set_option maxRecDepth 20000 in
theorem ggX4_cut_X3_more : GoodIn wsX4_cut wsX3_more := goodIn_r _ [19, 10, 11, 27, 28, 29, 30] (by decide +kernel) (by decide +kernel)
set_option maxRecDepth 20000 in
theorem gX4_cut_X3_more : GoodIn wsX4_cut (wsV RX4 107 RX3 yX3_more wsX3_more) := goodIn_app (goodIn_of _ (by decide +kernel)) ggX4_cut_X3_more
theorem dX4_cut_0 : decode cX4_cut 0 = .ok (.iload_n 1, 1) := by decide +kernel
theorem dX4_cut_1 : decode cX4_cut 1 = .ok (.ifCond .gt 5, 3) := by decide +kernel
theorem dX4_cut_4 : decode cX4_cut 4 = .ok (.iconst 1, 1) := by decide +kernel
theorem dX4_cut_5 : decode cX4_cut 5 = .ok (.ireturn, 1) := by decide +kernel
theorem dX4_cut_6 : decode cX4_cut 6 = .ok (.aload_n 0, 1) := by decide +kernel
theorem dX4_cut_7 : decode cX4_cut 7 = .ok (.getfield 16, 3) := by decide +kernel
theorem dX4_cut_10 : decode cX4_cut 10 = .ok (.iload_n 1, 1) := by decide +kernel
theorem dX4_cut_11 : decode cX4_cut 11 = .ok (.invokevirtual 110, 3) := by decide +kernel
theorem dX4_cut_14 : decode cX4_cut 14 = .ok (.istore_n 3, 1) := by decide +kernel
theorem dX4_cut_15 : decode cX4_cut 15 = .ok (.iload_n 1, 1) := by decide +kernel
theorem dX4_cut_16 : decode cX4_cut 16 = .ok (.iconst 1, 1) := by decide +kernel
theorem dX4_cut_17 : decode cX4_cut 17 = .ok (.isub, 1) := by decide +kernel
theorem dX4_cut_18 : decode cX4_cut 18 = .ok (.aload_n 0, 1) := by decide +kernel
theorem dX4_cut_19 : decode cX4_cut 19 = .ok (.getfield 16, 3) := by decide +kernel
theorem dX4_cut_22 : decode cX4_cut 22 = .ok (.getfield 37, 3) := by decide +kernel
theorem dX4_cut_25 : decode cX4_cut 25 = .ok (.if_icmp .ge 17, 3) := by decide +kernel
theorem dX4_cut_28 : decode cX4_cut 28 = .ok (.aload_n 0, 1) := by decide +kernel
theorem dX4_cut_29 : decode cX4_cut 29 = .ok (.getfield 16, 3) := by decide +kernel
theorem dX4_cut_32 : decode cX4_cut 32 = .ok (.getfield 58, 3) := by decide +kernel
theorem dX4_cut_35 : decode cX4_cut 35 = .ok (.iload_n 1, 1) := by decide +kernel
theorem dX4_cut_36 : decode cX4_cut 36 = .ok (.iconst 1, 1) := by decide +kernel
theorem dX4_cut_37 : decode cX4_cut 37 = .ok (.isub, 1) := by decide +kernel
theorem dX4_cut_38 : decode cX4_cut 38 = .ok (.iaload, 1) := by decide +kernel
theorem dX4_cut_39 : decode cX4_cut 39 = .ok (.goto 4, 3) := by decide +kernel
theorem dX4_cut_42 : decode cX4_cut 42 = .ok (.iconst 0, 1) := by decide +kernel
theorem dX4_cut_43 : decode cX4_cut 43 = .ok (.istore 4, 2) := by decide +kernel
theorem dX4_cut_45 : decode cX4_cut 45 = .ok (.iload 4, 2) := by decide +kernel
theorem dX4_cut_47 : decode cX4_cut 47 = .ok (.iconst 5, 1) := by decide +kernel
theorem dX4_cut_48 : decode cX4_cut 48 = .ok (.if_icmp .gt 22, 3) := by decide +kernel
theorem dX4_cut_51 : decode cX4_cut 51 = .ok (.iload 4, 2) := by decide +kernel
theorem dX4_cut_53 : decode cX4_cut 53 = .ok (.iconst 5, 1) := by decide +kernel
theorem dX4_cut_54 : decode cX4_cut 54 = .ok (.if_icmp .ne 20, 3) := by decide +kernel
theorem dX4_cut_57 : decode cX4_cut 57 = .ok (.aload_n 0, 1) := by decide +kernel
theorem dX4_cut_58 : decode cX4_cut 58 = .ok (.getfield 16, 3) := by decide +kernel
theorem dX4_cut_61 : decode cX4_cut 61 = .ok (.iload_n 1, 1) := by decide +kernel
theorem dX4_cut_62 : decode cX4_cut 62 = .ok (.iconst 1, 1) := by decide +kernel
theorem dX4_cut_63 : decode cX4_cut 63 = .ok (.isub, 1) := by decide +kernel
theorem dX4_cut_64 : decode cX4_cut 64 = .ok (.invokevirtual 110, 3) := by decide +kernel
theorem dX4_cut_67 : decode cX4_cut 67 = .ok (.ifCond .ne 7, 3) := by decide +kernel
theorem dX4_cut_70 : decode cX4_cut 70 = .ok (.iconst 1, 1) := by decide +kernel
theorem dX4_cut_71 : decode cX4_cut 71 = .ok (.goto 14, 3) := by decide +kernel
theorem dX4_cut_74 : decode cX4_cut 74 = .ok (.iload 4, 2) := by decide +kernel
theorem dX4_cut_76 : decode cX4_cut 76 = .ok (.iconst 5, 1) := by decide +kernel
theorem dX4_cut_77 : decode cX4_cut 77 = .ok (.if_icmp .ne 7, 3) := by decide +kernel
theorem dX4_cut_80 : decode cX4_cut 80 = .ok (.iconst 0, 1) := by decide +kernel
theorem dX4_cut_81 : decode cX4_cut 81 = .ok (.goto 4, 3) := by decide +kernel
theorem dX4_cut_84 : decode cX4_cut 84 = .ok (.iconst (-1), 1) := by decide +kernel
theorem dX4_cut_85 : decode cX4_cut 85 = .ok (.istore 5, 2) := by decide +kernel
theorem dX4_cut_87 : decode cX4_cut 87 = .ok (.aload_n 0, 1) := by decide +kernel
theorem dX4_cut_88 : decode cX4_cut 88 = .ok (.getfield 16, 3) := by decide +kernel
theorem dX4_cut_91 : decode cX4_cut 91 = .ok (.getfield 37, 3) := by decide +kernel
theorem dX4_cut_94 : decode cX4_cut 94 = .ok (.iload_n 1, 1) := by decide +kernel
theorem dX4_cut_95 : decode cX4_cut 95 = .ok (.isub, 1) := by decide +kernel
theorem dX4_cut_96 : decode cX4_cut 96 = .ok (.istore 6, 2) := by decide +kernel
theorem dX4_cut_98 : decode cX4_cut 98 = .ok (.iconst 0, 1) := by decide +kernel
theorem dX4_cut_99 : decode cX4_cut 99 = .ok (.istore 7, 2) := by decide +kernel
theorem dX4_cut_101 : decode cX4_cut 101 = .ok (.iload 7, 2) := by decide +kernel
theorem dX4_cut_103 : decode cX4_cut 103 = .ok (.iload 6, 2) := by decide +kernel
theorem dX4_cut_105 : decode cX4_cut 105 = .ok (.if_icmp .ge 31, 3) := by decide +kernel
theorem dX4_cut_108 : decode cX4_cut 108 = .ok (.aload_n 0, 1) := by decide +kernel
theorem dX4_cut_109 : decode cX4_cut 109 = .ok (.getfield 16, 3) := by decide +kernel
theorem dX4_cut_112 : decode cX4_cut 112 = .ok (.getfield 58, 3) := by decide +kernel
theorem dX4_cut_115 : decode cX4_cut 115 = .ok (.iload 7, 2) := by decide +kernel
theorem dX4_cut_117 : decode cX4_cut 117 = .ok (.aload_n 0, 1) := by decide +kernel
theorem dX4_cut_118 : decode cX4_cut 118 = .ok (.getfield 16, 3) := by decide +kernel
theorem dX4_cut_121 : decode cX4_cut 121 = .ok (.getfield 58, 3) := by decide +kernel
theorem dX4_cut_124 : decode cX4_cut 124 = .ok (.iload 7, 2) := by decide +kernel
theorem dX4_cut_126 : decode cX4_cut 126 = .ok (.iload_n 1, 1) := by decide +kernel
theorem dX4_cut_127 : decode cX4_cut 127 = .ok (.iadd, 1) := by decide +kernel
theorem dX4_cut_128 : decode cX4_cut 128 = .ok (.iaload, 1) := by decide +kernel
theorem dX4_cut_129 : decode cX4_cut 129 = .ok (.iastore, 1) := by decide +kernel
theorem dX4_cut_130 : decode cX4_cut 130 = .ok (.iinc 7 1, 3) := by decide +kernel
theorem dX4_cut_133 : decode cX4_cut 133 = .ok (.goto (-32), 3) := by decide +kernel
theorem dX4_cut_136 : decode cX4_cut 136 = .ok (.iload 6, 2) := by decide +kernel
theorem dX4_cut_138 : decode cX4_cut 138 = .ok (.iconst 1, 1) := by decide +kernel
theorem dX4_cut_139 : decode cX4_cut 139 = .ok (.if_icmp .ge 13, 3) := by decide +kernel
theorem dX4_cut_142 : decode cX4_cut 142 = .ok (.aload_n 0, 1) := by decide +kernel
theorem dX4_cut_143 : decode cX4_cut 143 = .ok (.getfield 16, 3) := by decide +kernel
theorem dX4_cut_146 : decode cX4_cut 146 = .ok (.getfield 58, 3) := by decide +kernel
theorem dX4_cut_149 : decode cX4_cut 149 = .ok (.iconst 0, 1) := by decide +kernel
theorem dX4_cut_150 : decode cX4_cut 150 = .ok (.iconst 0, 1) := by decide +kernel
theorem dX4_cut_151 : decode cX4_cut 151 = .ok (.iastore, 1) := by decide +kernel
theorem dX4_cut_152 : decode cX4_cut 152 = .ok (.aload_n 0, 1) := by decide +kernel
theorem dX4_cut_153 : decode cX4_cut 153 = .ok (.getfield 16, 3) := by decide +kernel
theorem dX4_cut_156 : decode cX4_cut 156 = .ok (.iload 6, 2) := by decide +kernel
theorem dX4_cut_158 : decode cX4_cut 158 = .ok (.iconst 1, 1) := by decide +kernel
theorem dX4_cut_159 : decode cX4_cut 159 = .ok (.if_icmp .ge 7, 3) := by decide +kernel
theorem dX4_cut_162 : decode cX4_cut 162 = .ok (.iconst 1, 1) := by decide +kernel
theorem dX4_cut_163 : decode cX4_cut 163 = .ok (.goto 5, 3) := by decide +kernel
theorem dX4_cut_166 : decode cX4_cut 166 = .ok (.iload 6, 2) := by decide +kernel
theorem dX4_cut_168 : decode cX4_cut 168 = .ok (.putfield 37, 3) := by decide +kernel
theorem dX4_cut_171 : decode cX4_cut 171 = .ok (.iload_n 3, 1) := by decide +kernel
theorem dX4_cut_172 : decode cX4_cut 172 = .ok (.ifCond .eq 5, 3) := by decide +kernel
theorem dX4_cut_175 : decode cX4_cut 175 = .ok (.iconst 1, 1) := by decide +kernel
theorem dX4_cut_176 : decode cX4_cut 176 = .ok (.ireturn, 1) := by decide +kernel
theorem dX4_cut_177 : decode cX4_cut 177 = .ok (.iload_n 2, 1) := by decide +kernel
theorem dX4_cut_178 : decode cX4_cut 178 = .ok (.bipush 7, 2) := by decide +kernel
theorem dX4_cut_180 : decode cX4_cut 180 = .ok (.if_icmp .ne 5, 3) := by decide +kernel
theorem dX4_cut_183 : decode cX4_cut 183 = .ok (.iconst 0, 1) := by decide +kernel
theorem dX4_cut_184 : decode cX4_cut 184 = .ok (.ireturn, 1) := by decide +kernel
theorem dX4_cut_185 : decode cX4_cut 185 = .ok (.iload_n 2, 1) := by decide +kernel
theorem dX4_cut_186 : decode cX4_cut 186 = .ok (.aload_n 0, 1) := by decide +kernel
theorem dX4_cut_187 : decode cX4_cut 187 = .ok (.getfield 16, 3) := by decide +kernel
theorem dX4_cut_190 : decode cX4_cut 190 = .ok (.getfield 61, 3) := by decide +kernel
theorem dX4_cut_193 : decode cX4_cut 193 = .ok (.iload 5, 2) := by decide +kernel
theorem dX4_cut_195 : decode cX4_cut 195 = .ok (.aload_n 0, 1) := by decide +kernel
theorem dX4_cut_196 : decode cX4_cut 196 = .ok (.getfield 16, 3) := by decide +kernel
theorem dX4_cut_199 : decode cX4_cut 199 = .ok (.getfield 58, 3) := by decide +kernel
theorem dX4_cut_202 : decode cX4_cut 202 = .ok (.iconst 0, 1) := by decide +kernel
theorem dX4_cut_203 : decode cX4_cut 203 = .ok (.iaload, 1) := by decide +kernel
theorem dX4_cut_204 : decode cX4_cut 204 = .ok (.iconst 2, 1) := by decide +kernel
theorem dX4_cut_205 : decode cX4_cut 205 = .ok (.irem, 1) := by decide +kernel
theorem dX4_cut_206 : decode cX4_cut 206 = .ok (.iconst 1, 1) := by decide +kernel
theorem dX4_cut_207 : decode cX4_cut 207 = .ok (.if_icmp .ne 7, 3) := by decide +kernel
theorem dX4_cut_210 : decode cX4_cut 210 = .ok (.iconst 1, 1) := by decide +kernel
theorem dX4_cut_211 : decode cX4_cut 211 = .ok (.goto 4, 3) := by decide +kernel
theorem dX4_cut_214 : decode cX4_cut 214 = .ok (.iconst 0, 1) := by decide +kernel
theorem dX4_cut_215 : decode cX4_cut 215 = .ok (.invokestatic 103, 3) := by decide +kernel
theorem dX4_cut_218 : decode cX4_cut 218 = .ok (.ifCond .eq 10, 3) := by decide +kernel
theorem dX4_cut_221 : decode cX4_cut 221 = .ok (.aload_n 0, 1) := by decide +kernel
theorem dX4_cut_222 : decode cX4_cut 222 = .ok (.getfield 16, 3) := by decide +kernel
theorem dX4_cut_225 : decode cX4_cut 225 = .ok (.invokevirtual 107, 3) := by decide +kernel
theorem dX4_cut_228 : decode cX4_cut 228 = .ok (.iconst 1, 1) := by decide +kernel
theorem dX4_cut_229 : decode cX4_cut 229 = .ok (.ireturn, 1) := by decide +kernel
set_option maxRecDepth 20000 in
theorem ggX4_scale_X4_is : GoodIn wsX4_scale wsX4_is := goodIn_r _ [7] (by decide +kernel) (by decide +kernel)
set_option maxRecDepth 20000 in
theorem gX4_scale_X4_is : GoodIn wsX4_scale (va_wsS RX4 52 yX4_is wsX4_is) := goodIn_app (goodIn_of _ (by decide +kernel)) ggX4_scale_X4_is
set_option maxRecDepth 20000 in
theorem ggX4_scale_X4_isScale : GoodIn wsX4_scale wsX4_isScale := goodIn_r _ [10, 11, 12] (by decide +kernel) (by decide +kernel)
set_option maxRecDepth 20000 in
theorem gX4_scale_X4_isScale : GoodIn wsX4_scale (va_wsS RX4 44 yX4_isScale wsX4_isScale) := goodIn_app (goodIn_of _ (by decide +kernel)) ggX4_scale_X4_isScale
set_option maxRecDepth 20000 in
theorem ggX4_scale_X3_take : GoodIn wsX4_scale wsX3_take := goodIn_r _ [17, 18, 19, 20, 21, 63, 64, 65, 66] (by decide +kernel) (by decide +kernel)
set_option maxRecDepth 20000 in
theorem gX4_scale_X3_take : GoodIn wsX4_scale (wsV RX4 48 RX3 yX3_take wsX3_take) := goodIn_app (goodIn_of _ (by decide +kernel)) ggX4_scale_X3_take
set_option maxRecDepth 20000 in
theorem ggX4_scale_X3_up : GoodIn wsX4_scale wsX3_up := goodIn_r _ [25, 18, 21, 26, 27, 28, 16, 29, 63, 64, 65, 66] (by decide +kernel) (by decide +kernel)
set_option maxRecDepth 20000 in
theorem gX4_scale_X3_up : GoodIn wsX4_scale (wsV RX4 72 RX3 yX3_up wsX3_up) := goodIn_app (goodIn_of _ (by decide +kernel)) ggX4_scale_X3_up
set_option maxRecDepth 20000 in
theorem ggX4_scale_X4_cut : GoodIn wsX4_scale wsX4_cut := goodIn_r _ [33, 1, 34, 35, 36, 37, 38, 39, 16, 40, 18, 21, 41, 42, 6, 43, 44, 45, 46, 47, 56, 57, 58, 59, 60, 61, 62, 63, 64, 65, 66] (by decide +kernel) (by decide +kernel)
set_option maxRecDepth 20000 in
theorem gX4_scale_X4_cut : GoodIn wsX4_scale (wsV RX4 113 RX4 yX4_cut wsX4_cut) := goodIn_app (goodIn_of _ (by decide +kernel)) ggX4_scale_X4_cut
set_option maxRecDepth 20000 in
theorem ggX4_scale_X3_trim : GoodIn wsX4_scale wsX3_trim := goodIn_r _ [51, 18, 21, 19, 26, 27, 28, 16, 29, 63, 64, 65, 66] (by decide +kernel) (by decide +kernel)
set_option maxRecDepth 20000 in
theorem gX4_scale_X3_trim : GoodIn wsX4_scale (wsV RX4 65 RX3 yX3_trim wsX3_trim) := goodIn_app (goodIn_of _ (by decide +kernel)) ggX4_scale_X3_trim
set_option maxRecDepth 20000 in
theorem ggX4_scale_X4_keep : GoodIn wsX4_scale wsX4_keep := goodIn_r _ [55, 34, 3, 2, 8, 9, 6, 10, 11, 12, 13, 14, 15, 16, 17, 18, 19, 20, 21, 63, 64, 65, 66, 56, 57, 58, 59, 60, 61, 62] (by decide +kernel) (by decide +kernel)
set_option maxRecDepth 20000 in
theorem gX4_scale_X4_keep : GoodIn wsX4_scale (wsV RX4 68 RX4 yX4_keep wsX4_keep) := goodIn_app (goodIn_of _ (by decide +kernel)) ggX4_scale_X4_keep
theorem dX4_scale_0 : decode cX4_scale 0 = .ok (.iload_n 1, 1) := by decide +kernel
theorem dX4_scale_1 : decode cX4_scale 1 = .ok (.invokestatic 52, 3) := by decide +kernel
theorem dX4_scale_4 : decode cX4_scale 4 = .ok (.ifCond .eq 22, 3) := by decide +kernel
theorem dX4_scale_7 : decode cX4_scale 7 = .ok (.iload_n 2, 1) := by decide +kernel
theorem dX4_scale_8 : decode cX4_scale 8 = .ok (.invokestatic 52, 3) := by decide +kernel
theorem dX4_scale_11 : decode cX4_scale 11 = .ok (.ifCond .eq 15, 3) := by decide +kernel
theorem dX4_scale_14 : decode cX4_scale 14 = .ok (.iload 4, 2) := by decide +kernel
theorem dX4_scale_16 : decode cX4_scale 16 = .ok (.ifCond .lt 10, 3) := by decide +kernel
theorem dX4_scale_19 : decode cX4_scale 19 = .ok (.iload 4, 2) := by decide +kernel
theorem dX4_scale_21 : decode cX4_scale 21 = .ok (.bipush 7, 2) := by decide +kernel
theorem dX4_scale_23 : decode cX4_scale 23 = .ok (.if_icmp .le 5, 3) := by decide +kernel
theorem dX4_scale_26 : decode cX4_scale 26 = .ok (.iconst (-1), 1) := by decide +kernel
theorem dX4_scale_27 : decode cX4_scale 27 = .ok (.ireturn, 1) := by decide +kernel
theorem dX4_scale_28 : decode cX4_scale 28 = .ok (.iload_n 3, 1) := by decide +kernel
theorem dX4_scale_29 : decode cX4_scale 29 = .ok (.i2l, 1) := by decide +kernel
theorem dX4_scale_30 : decode cX4_scale 30 = .ok (.invokestatic 44, 3) := by decide +kernel
theorem dX4_scale_33 : decode cX4_scale 33 = .ok (.ifCond .ne 6, 3) := by decide +kernel
theorem dX4_scale_36 : decode cX4_scale 36 = .ok (.bipush (-3), 2) := by decide +kernel
theorem dX4_scale_38 : decode cX4_scale 38 = .ok (.ireturn, 1) := by decide +kernel
theorem dX4_scale_39 : decode cX4_scale 39 = .ok (.aload_n 0, 1) := by decide +kernel
theorem dX4_scale_40 : decode cX4_scale 40 = .ok (.getfield 16, 3) := by decide +kernel
theorem dX4_scale_43 : decode cX4_scale 43 = .ok (.aload_n 0, 1) := by decide +kernel
theorem dX4_scale_44 : decode cX4_scale 44 = .ok (.getfield 9, 3) := by decide +kernel
theorem dX4_scale_47 : decode cX4_scale 47 = .ok (.iload_n 2, 1) := by decide +kernel
theorem dX4_scale_48 : decode cX4_scale 48 = .ok (.aaload, 1) := by decide +kernel
theorem dX4_scale_49 : decode cX4_scale 49 = .ok (.invokevirtual 48, 3) := by decide +kernel
theorem dX4_scale_52 : decode cX4_scale 52 = .ok (.iload_n 3, 1) := by decide +kernel
theorem dX4_scale_53 : decode cX4_scale 53 = .ok (.aload_n 0, 1) := by decide +kernel
theorem dX4_scale_54 : decode cX4_scale 54 = .ok (.getfield 16, 3) := by decide +kernel
theorem dX4_scale_57 : decode cX4_scale 57 = .ok (.getfield 41, 3) := by decide +kernel
theorem dX4_scale_60 : decode cX4_scale 60 = .ok (.if_icmp .lt 22, 3) := by decide +kernel
theorem dX4_scale_63 : decode cX4_scale 63 = .ok (.aload_n 0, 1) := by decide +kernel
theorem dX4_scale_64 : decode cX4_scale 64 = .ok (.getfield 16, 3) := by decide +kernel
theorem dX4_scale_67 : decode cX4_scale 67 = .ok (.iload_n 3, 1) := by decide +kernel
theorem dX4_scale_68 : decode cX4_scale 68 = .ok (.aload_n 0, 1) := by decide +kernel
theorem dX4_scale_69 : decode cX4_scale 69 = .ok (.getfield 16, 3) := by decide +kernel
theorem dX4_scale_72 : decode cX4_scale 72 = .ok (.getfield 41, 3) := by decide +kernel
theorem dX4_scale_75 : decode cX4_scale 75 = .ok (.isub, 1) := by decide +kernel
theorem dX4_scale_76 : decode cX4_scale 76 = .ok (.invokevirtual 72, 3) := by decide +kernel
theorem dX4_scale_79 : decode cX4_scale 79 = .ok (.goto 24, 3) := by decide +kernel
theorem dX4_scale_82 : decode cX4_scale 82 = .ok (.aload_n 0, 1) := by decide +kernel
theorem dX4_scale_83 : decode cX4_scale 83 = .ok (.aload_n 0, 1) := by decide +kernel
theorem dX4_scale_84 : decode cX4_scale 84 = .ok (.getfield 16, 3) := by decide +kernel
theorem dX4_scale_87 : decode cX4_scale 87 = .ok (.getfield 41, 3) := by decide +kernel
theorem dX4_scale_90 : decode cX4_scale 90 = .ok (.iload_n 3, 1) := by decide +kernel
theorem dX4_scale_91 : decode cX4_scale 91 = .ok (.isub, 1) := by decide +kernel
theorem dX4_scale_92 : decode cX4_scale 92 = .ok (.iload 4, 2) := by decide +kernel
theorem dX4_scale_94 : decode cX4_scale 94 = .ok (.invokevirtual 113, 3) := by decide +kernel
theorem dX4_scale_97 : decode cX4_scale 97 = .ok (.ifCond .ne 6, 3) := by decide +kernel
theorem dX4_scale_100 : decode cX4_scale 100 = .ok (.bipush (-4), 2) := by decide +kernel
theorem dX4_scale_102 : decode cX4_scale 102 = .ok (.ireturn, 1) := by decide +kernel
theorem dX4_scale_103 : decode cX4_scale 103 = .ok (.aload_n 0, 1) := by decide +kernel
theorem dX4_scale_104 : decode cX4_scale 104 = .ok (.getfield 16, 3) := by decide +kernel
theorem dX4_scale_107 : decode cX4_scale 107 = .ok (.iload_n 3, 1) := by decide +kernel
theorem dX4_scale_108 : decode cX4_scale 108 = .ok (.putfield 41, 3) := by decide +kernel
theorem dX4_scale_111 : decode cX4_scale 111 = .ok (.aload_n 0, 1) := by decide +kernel
theorem dX4_scale_112 : decode cX4_scale 112 = .ok (.getfield 16, 3) := by decide +kernel
theorem dX4_scale_115 : decode cX4_scale 115 = .ok (.invokevirtual 65, 3) := by decide +kernel
theorem dX4_scale_118 : decode cX4_scale 118 = .ok (.aload_n 0, 1) := by decide +kernel
theorem dX4_scale_119 : decode cX4_scale 119 = .ok (.iload_n 1, 1) := by decide +kernel
theorem dX4_scale_120 : decode cX4_scale 120 = .ok (.aload_n 0, 1) := by decide +kernel
theorem dX4_scale_121 : decode cX4_scale 121 = .ok (.getfield 16, 3) := by decide +kernel
theorem dX4_scale_124 : decode cX4_scale 124 = .ok (.invokevirtual 68, 3) := by decide +kernel
theorem dX4_scale_127 : decode cX4_scale 127 = .ok (.ireturn, 1) := by decide +kernel
set_option maxRecDepth 20000 in
theorem ggX4_round_X4_is : GoodIn wsX4_round wsX4_is := goodIn_r _ [8] (by decide +kernel) (by decide +kernel)
set_option maxRecDepth 20000 in
theorem gX4_round_X4_is : GoodIn wsX4_round (va_wsS RX4 52 yX4_is wsX4_is) := goodIn_app (goodIn_of _ (by decide +kernel)) ggX4_round_X4_is
set_option maxRecDepth 20000 in
theorem ggX4_round_X3_take : GoodIn wsX4_round wsX3_take := goodIn_r _ [13, 14, 15, 16, 17, 51, 52, 53, 54] (by decide +kernel) (by decide +kernel)
set_option maxRecDepth 20000 in
theorem gX4_round_X3_take : GoodIn wsX4_round (wsV RX4 48 RX3 yX3_take wsX3_take) := goodIn_app (goodIn_of _ (by decide +kernel)) ggX4_round_X3_take
set_option maxRecDepth 20000 in
theorem ggX4_round_X4_cut : GoodIn wsX4_round wsX4_cut := goodIn_r _ [21, 3, 2, 22, 23, 24, 25, 26, 12, 27, 14, 17, 28, 29, 7, 30, 31, 32, 33, 34, 44, 45, 46, 47, 48, 49, 50, 51, 52, 53, 54] (by decide +kernel) (by decide +kernel)
set_option maxRecDepth 20000 in
theorem gX4_round_X4_cut : GoodIn wsX4_round (wsV RX4 113 RX4 yX4_cut wsX4_cut) := goodIn_app (goodIn_of _ (by decide +kernel)) ggX4_round_X4_cut
set_option maxRecDepth 20000 in
theorem ggX4_round_X4_keep : GoodIn wsX4_round wsX4_keep := goodIn_r _ [38, 2, 4, 1, 39, 40, 7, 41, 42, 43, 9, 10, 11, 12, 13, 14, 15, 16, 17, 51, 52, 53, 54, 44, 45, 46, 47, 48, 49, 50] (by decide +kernel) (by decide +kernel)
set_option maxRecDepth 20000 in
theorem gX4_round_X4_keep : GoodIn wsX4_round (wsV RX4 68 RX4 yX4_keep wsX4_keep) := goodIn_app (goodIn_of _ (by decide +kernel)) ggX4_round_X4_keep
theorem dX4_round_0 : decode cX4_round 0 = .ok (.iload_n 1, 1) := by decide +kernel
theorem dX4_round_1 : decode cX4_round 1 = .ok (.invokestatic 52, 3) := by decide +kernel
theorem dX4_round_4 : decode cX4_round 4 = .ok (.ifCond .eq 43, 3) := by decide +kernel
theorem dX4_round_7 : decode cX4_round 7 = .ok (.iload_n 2, 1) := by decide +kernel
theorem dX4_round_8 : decode cX4_round 8 = .ok (.invokestatic 52, 3) := by decide +kernel
theorem dX4_round_11 : decode cX4_round 11 = .ok (.ifCond .eq 36, 3) := by decide +kernel
theorem dX4_round_14 : decode cX4_round 14 = .ok (.iload 4, 2) := by decide +kernel
theorem dX4_round_16 : decode cX4_round 16 = .ok (.ifCond .lt 31, 3) := by decide +kernel
theorem dX4_round_19 : decode cX4_round 19 = .ok (.iload 4, 2) := by decide +kernel
theorem dX4_round_21 : decode cX4_round 21 = .ok (.bipush 7, 2) := by decide +kernel
theorem dX4_round_23 : decode cX4_round 23 = .ok (.if_icmp .gt 24, 3) := by decide +kernel
theorem dX4_round_26 : decode cX4_round 26 = .ok (.iload_n 3, 1) := by decide +kernel
theorem dX4_round_27 : decode cX4_round 27 = .ok (.iconst 1, 1) := by decide +kernel
theorem dX4_round_28 : decode cX4_round 28 = .ok (.if_icmp .lt 19, 3) := by decide +kernel
theorem dX4_round_31 : decode cX4_round 31 = .ok (.aload_n 0, 1) := by decide +kernel
theorem dX4_round_32 : decode cX4_round 32 = .ok (.getfield 9, 3) := by decide +kernel
theorem dX4_round_35 : decode cX4_round 35 = .ok (.iload_n 2, 1) := by decide +kernel
theorem dX4_round_36 : decode cX4_round 36 = .ok (.aaload, 1) := by decide +kernel
theorem dX4_round_37 : decode cX4_round 37 = .ok (.getfield 37, 3) := by decide +kernel
theorem dX4_round_40 : decode cX4_round 40 = .ok (.iload_n 3, 1) := by decide +kernel
theorem dX4_round_41 : decode cX4_round 41 = .ok (.isub, 1) := by decide +kernel
theorem dX4_round_42 : decode cX4_round 42 = .ok (.bipush 18, 2) := by decide +kernel
theorem dX4_round_44 : decode cX4_round 44 = .ok (.if_icmp .le 5, 3) := by decide +kernel
theorem dX4_round_47 : decode cX4_round 47 = .ok (.iconst (-1), 1) := by decide +kernel
theorem dX4_round_48 : decode cX4_round 48 = .ok (.ireturn, 1) := by decide +kernel
theorem dX4_round_49 : decode cX4_round 49 = .ok (.aload_n 0, 1) := by decide +kernel
theorem dX4_round_50 : decode cX4_round 50 = .ok (.getfield 16, 3) := by decide +kernel
theorem dX4_round_53 : decode cX4_round 53 = .ok (.aload_n 0, 1) := by decide +kernel
theorem dX4_round_54 : decode cX4_round 54 = .ok (.getfield 9, 3) := by decide +kernel
theorem dX4_round_57 : decode cX4_round 57 = .ok (.iload_n 2, 1) := by decide +kernel
theorem dX4_round_58 : decode cX4_round 58 = .ok (.aaload, 1) := by decide +kernel
theorem dX4_round_59 : decode cX4_round 59 = .ok (.invokevirtual 48, 3) := by decide +kernel
theorem dX4_round_62 : decode cX4_round 62 = .ok (.aload_n 0, 1) := by decide +kernel
theorem dX4_round_63 : decode cX4_round 63 = .ok (.getfield 16, 3) := by decide +kernel
theorem dX4_round_66 : decode cX4_round 66 = .ok (.getfield 37, 3) := by decide +kernel
theorem dX4_round_69 : decode cX4_round 69 = .ok (.iload_n 3, 1) := by decide +kernel
theorem dX4_round_70 : decode cX4_round 70 = .ok (.if_icmp .le 45, 3) := by decide +kernel
theorem dX4_round_73 : decode cX4_round 73 = .ok (.aload_n 0, 1) := by decide +kernel
theorem dX4_round_74 : decode cX4_round 74 = .ok (.getfield 16, 3) := by decide +kernel
theorem dX4_round_77 : decode cX4_round 77 = .ok (.getfield 37, 3) := by decide +kernel
theorem dX4_round_80 : decode cX4_round 80 = .ok (.iload_n 3, 1) := by decide +kernel
theorem dX4_round_81 : decode cX4_round 81 = .ok (.isub, 1) := by decide +kernel
theorem dX4_round_82 : decode cX4_round 82 = .ok (.istore 5, 2) := by decide +kernel
theorem dX4_round_84 : decode cX4_round 84 = .ok (.aload_n 0, 1) := by decide +kernel
theorem dX4_round_85 : decode cX4_round 85 = .ok (.iload 5, 2) := by decide +kernel
theorem dX4_round_87 : decode cX4_round 87 = .ok (.iload 4, 2) := by decide +kernel
theorem dX4_round_89 : decode cX4_round 89 = .ok (.invokevirtual 113, 3) := by decide +kernel
theorem dX4_round_92 : decode cX4_round 92 = .ok (.ifCond .ne 6, 3) := by decide +kernel
theorem dX4_round_95 : decode cX4_round 95 = .ok (.bipush (-4), 2) := by decide +kernel
theorem dX4_round_97 : decode cX4_round 97 = .ok (.ireturn, 1) := by decide +kernel
theorem dX4_round_98 : decode cX4_round 98 = .ok (.aload_n 0, 1) := by decide +kernel
theorem dX4_round_99 : decode cX4_round 99 = .ok (.getfield 16, 3) := by decide +kernel
theorem dX4_round_102 : decode cX4_round 102 = .ok (.dup, 1) := by decide +kernel
theorem dX4_round_103 : decode cX4_round 103 = .ok (.getfield 41, 3) := by decide +kernel
theorem dX4_round_106 : decode cX4_round 106 = .ok (.iload 5, 2) := by decide +kernel
theorem dX4_round_108 : decode cX4_round 108 = .ok (.isub, 1) := by decide +kernel
theorem dX4_round_109 : decode cX4_round 109 = .ok (.putfield 41, 3) := by decide +kernel
theorem dX4_round_112 : decode cX4_round 112 = .ok (.goto (-50), 3) := by decide +kernel
theorem dX4_round_115 : decode cX4_round 115 = .ok (.aload_n 0, 1) := by decide +kernel
theorem dX4_round_116 : decode cX4_round 116 = .ok (.iload_n 1, 1) := by decide +kernel
theorem dX4_round_117 : decode cX4_round 117 = .ok (.aload_n 0, 1) := by decide +kernel
theorem dX4_round_118 : decode cX4_round 118 = .ok (.getfield 16, 3) := by decide +kernel
theorem dX4_round_121 : decode cX4_round 121 = .ok (.invokevirtual 68, 3) := by decide +kernel
theorem dX4_round_124 : decode cX4_round 124 = .ok (.ireturn, 1) := by decide +kernel
set_option maxRecDepth 20000 in
theorem ggX4_turn_X4_is : GoodIn wsX4_turn wsX4_is := goodIn_r _ [10] (by decide +kernel) (by decide +kernel)
set_option maxRecDepth 20000 in
theorem gX4_turn_X4_is : GoodIn wsX4_turn (va_wsS RX4 52 yX4_is wsX4_is) := goodIn_app (goodIn_of _ (by decide +kernel)) ggX4_turn_X4_is
set_option maxRecDepth 20000 in
theorem ggX4_turn_X3_take : GoodIn wsX4_turn wsX3_take := goodIn_r _ [15, 16, 17, 18, 19, 55, 56, 57, 58] (by decide +kernel) (by decide +kernel)
set_option maxRecDepth 20000 in
theorem gX4_turn_X3_take : GoodIn wsX4_turn (wsV RX4 48 RX3 yX3_take wsX3_take) := goodIn_app (goodIn_of _ (by decide +kernel)) ggX4_turn_X3_take
set_option maxRecDepth 20000 in
theorem ggX4_turn_X3_isZero : GoodIn wsX4_turn wsX3_isZero := goodIn_r _ [23, 16, 19, 55, 56, 57, 58] (by decide +kernel) (by decide +kernel)
set_option maxRecDepth 20000 in
theorem gX4_turn_X3_isZero : GoodIn wsX4_turn (wsV RX4 84 RX3 yX3_isZero wsX3_isZero) := goodIn_app (goodIn_of _ (by decide +kernel)) ggX4_turn_X3_isZero
set_option maxRecDepth 20000 in
theorem ggX4_turn_X4_cut : GoodIn wsX4_turn wsX4_cut := goodIn_r _ [27, 1, 4, 5, 3, 28, 29, 30, 14, 31, 16, 19, 32, 33, 9, 34, 35, 36, 37, 38, 48, 49, 50, 51, 52, 53, 54, 55, 56, 57, 58] (by decide +kernel) (by decide +kernel)
set_option maxRecDepth 20000 in
theorem gX4_turn_X4_cut : GoodIn wsX4_turn (wsV RX4 113 RX4 yX4_cut wsX4_cut) := goodIn_app (goodIn_of _ (by decide +kernel)) ggX4_turn_X4_cut
set_option maxRecDepth 20000 in
theorem ggX4_turn_X4_keep : GoodIn wsX4_turn wsX4_keep := goodIn_r _ [42, 4, 6, 2, 43, 44, 9, 45, 46, 47, 11, 12, 13, 14, 15, 16, 17, 18, 19, 55, 56, 57, 58, 48, 49, 50, 51, 52, 53, 54] (by decide +kernel) (by decide +kernel)
set_option maxRecDepth 20000 in
theorem gX4_turn_X4_keep : GoodIn wsX4_turn (wsV RX4 68 RX4 yX4_keep wsX4_keep) := goodIn_app (goodIn_of _ (by decide +kernel)) ggX4_turn_X4_keep
theorem dX4_turn_0 : decode cX4_turn 0 = .ok (.iload_n 2, 1) := by decide +kernel
theorem dX4_turn_1 : decode cX4_turn 1 = .ok (.invokestatic 52, 3) := by decide +kernel
theorem dX4_turn_4 : decode cX4_turn 4 = .ok (.ifCond .eq 19, 3) := by decide +kernel
theorem dX4_turn_7 : decode cX4_turn 7 = .ok (.iload_n 3, 1) := by decide +kernel
theorem dX4_turn_8 : decode cX4_turn 8 = .ok (.invokestatic 52, 3) := by decide +kernel
theorem dX4_turn_11 : decode cX4_turn 11 = .ok (.ifCond .eq 12, 3) := by decide +kernel
theorem dX4_turn_14 : decode cX4_turn 14 = .ok (.iload_n 1, 1) := by decide +kernel
theorem dX4_turn_15 : decode cX4_turn 15 = .ok (.ifCond .lt 8, 3) := by decide +kernel
theorem dX4_turn_18 : decode cX4_turn 18 = .ok (.iload_n 1, 1) := by decide +kernel
theorem dX4_turn_19 : decode cX4_turn 19 = .ok (.iconst 2, 1) := by decide +kernel
theorem dX4_turn_20 : decode cX4_turn 20 = .ok (.if_icmp .le 5, 3) := by decide +kernel
theorem dX4_turn_23 : decode cX4_turn 23 = .ok (.iconst (-1), 1) := by decide +kernel
theorem dX4_turn_24 : decode cX4_turn 24 = .ok (.ireturn, 1) := by decide +kernel
theorem dX4_turn_25 : decode cX4_turn 25 = .ok (.aload_n 0, 1) := by decide +kernel
theorem dX4_turn_26 : decode cX4_turn 26 = .ok (.getfield 16, 3) := by decide +kernel
theorem dX4_turn_29 : decode cX4_turn 29 = .ok (.aload_n 0, 1) := by decide +kernel
theorem dX4_turn_30 : decode cX4_turn 30 = .ok (.getfield 9, 3) := by decide +kernel
theorem dX4_turn_33 : decode cX4_turn 33 = .ok (.iload_n 3, 1) := by decide +kernel
theorem dX4_turn_34 : decode cX4_turn 34 = .ok (.aaload, 1) := by decide +kernel
theorem dX4_turn_35 : decode cX4_turn 35 = .ok (.invokevirtual 48, 3) := by decide +kernel
theorem dX4_turn_38 : decode cX4_turn 38 = .ok (.iload_n 1, 1) := by decide +kernel
theorem dX4_turn_39 : decode cX4_turn 39 = .ok (.ifCond .ne 11, 3) := by decide +kernel
theorem dX4_turn_42 : decode cX4_turn 42 = .ok (.aload_n 0, 1) := by decide +kernel
theorem dX4_turn_43 : decode cX4_turn 43 = .ok (.getfield 16, 3) := by decide +kernel
theorem dX4_turn_46 : decode cX4_turn 46 = .ok (.iconst 0, 1) := by decide +kernel
theorem dX4_turn_47 : decode cX4_turn 47 = .ok (.putfield 61, 3) := by decide +kernel
theorem dX4_turn_50 : decode cX4_turn 50 = .ok (.iload_n 1, 1) := by decide +kernel
theorem dX4_turn_51 : decode cX4_turn 51 = .ok (.iconst 1, 1) := by decide +kernel
theorem dX4_turn_52 : decode cX4_turn 52 = .ok (.if_icmp .ne 35, 3) := by decide +kernel
theorem dX4_turn_55 : decode cX4_turn 55 = .ok (.aload_n 0, 1) := by decide +kernel
theorem dX4_turn_56 : decode cX4_turn 56 = .ok (.getfield 16, 3) := by decide +kernel
theorem dX4_turn_59 : decode cX4_turn 59 = .ok (.aload_n 0, 1) := by decide +kernel
theorem dX4_turn_60 : decode cX4_turn 60 = .ok (.getfield 16, 3) := by decide +kernel
theorem dX4_turn_63 : decode cX4_turn 63 = .ok (.getfield 61, 3) := by decide +kernel
theorem dX4_turn_66 : decode cX4_turn 66 = .ok (.ifCond .ne 17, 3) := by decide +kernel
theorem dX4_turn_69 : decode cX4_turn 69 = .ok (.aload_n 0, 1) := by decide +kernel
theorem dX4_turn_70 : decode cX4_turn 70 = .ok (.getfield 16, 3) := by decide +kernel
theorem dX4_turn_73 : decode cX4_turn 73 = .ok (.invokevirtual 84, 3) := by decide +kernel
theorem dX4_turn_76 : decode cX4_turn 76 = .ok (.ifCond .ne 7, 3) := by decide +kernel
theorem dX4_turn_79 : decode cX4_turn 79 = .ok (.iconst 1, 1) := by decide +kernel
theorem dX4_turn_80 : decode cX4_turn 80 = .ok (.goto 4, 3) := by decide +kernel
theorem dX4_turn_83 : decode cX4_turn 83 = .ok (.iconst 0, 1) := by decide +kernel
theorem dX4_turn_84 : decode cX4_turn 84 = .ok (.putfield 61, 3) := by decide +kernel
theorem dX4_turn_87 : decode cX4_turn 87 = .ok (.iload_n 1, 1) := by decide +kernel
theorem dX4_turn_88 : decode cX4_turn 88 = .ok (.iconst 2, 1) := by decide +kernel
theorem dX4_turn_89 : decode cX4_turn 89 = .ok (.if_icmp .ne 78, 3) := by decide +kernel
theorem dX4_turn_92 : decode cX4_turn 92 = .ok (.iconst 0, 1) := by decide +kernel
theorem dX4_turn_93 : decode cX4_turn 93 = .ok (.istore 4, 2) := by decide +kernel
theorem dX4_turn_95 : decode cX4_turn 95 = .ok (.iload 4, 2) := by decide +kernel
theorem dX4_turn_97 : decode cX4_turn 97 = .ok (.aload_n 0, 1) := by decide +kernel
theorem dX4_turn_98 : decode cX4_turn 98 = .ok (.getfield 16, 3) := by decide +kernel
theorem dX4_turn_101 : decode cX4_turn 101 = .ok (.getfield 37, 3) := by decide +kernel
theorem dX4_turn_104 : decode cX4_turn 104 = .ok (.iconst 1, 1) := by decide +kernel
theorem dX4_turn_105 : decode cX4_turn 105 = .ok (.isub, 1) := by decide +kernel
theorem dX4_turn_106 : decode cX4_turn 106 = .ok (.if_icmp .ge 22, 3) := by decide +kernel
theorem dX4_turn_109 : decode cX4_turn 109 = .ok (.aload_n 0, 1) := by decide +kernel
theorem dX4_turn_110 : decode cX4_turn 110 = .ok (.getfield 16, 3) := by decide +kernel
theorem dX4_turn_113 : decode cX4_turn 113 = .ok (.getfield 58, 3) := by decide +kernel
theorem dX4_turn_116 : decode cX4_turn 116 = .ok (.iload 4, 2) := by decide +kernel
theorem dX4_turn_118 : decode cX4_turn 118 = .ok (.iaload, 1) := by decide +kernel
theorem dX4_turn_119 : decode cX4_turn 119 = .ok (.ifCond .ne 9, 3) := by decide +kernel
theorem dX4_turn_122 : decode cX4_turn 122 = .ok (.iinc 4 1, 3) := by decide +kernel
theorem dX4_turn_125 : decode cX4_turn 125 = .ok (.goto (-30), 3) := by decide +kernel
theorem dX4_turn_128 : decode cX4_turn 128 = .ok (.aload_n 0, 1) := by decide +kernel
theorem dX4_turn_129 : decode cX4_turn 129 = .ok (.iload 4, 2) := by decide +kernel
theorem dX4_turn_131 : decode cX4_turn 131 = .ok (.iconst 1, 1) := by decide +kernel
theorem dX4_turn_132 : decode cX4_turn 132 = .ok (.invokevirtual 113, 3) := by decide +kernel
theorem dX4_turn_135 : decode cX4_turn 135 = .ok (.pop, 1) := by decide +kernel
theorem dX4_turn_136 : decode cX4_turn 136 = .ok (.aload_n 0, 1) := by decide +kernel
theorem dX4_turn_137 : decode cX4_turn 137 = .ok (.getfield 16, 3) := by decide +kernel
theorem dX4_turn_140 : decode cX4_turn 140 = .ok (.aload_n 0, 1) := by decide +kernel
theorem dX4_turn_141 : decode cX4_turn 141 = .ok (.getfield 16, 3) := by decide +kernel
theorem dX4_turn_144 : decode cX4_turn 144 = .ok (.invokevirtual 84, 3) := by decide +kernel
theorem dX4_turn_147 : decode cX4_turn 147 = .ok (.ifCond .eq 7, 3) := by decide +kernel
theorem dX4_turn_150 : decode cX4_turn 150 = .ok (.iconst 0, 1) := by decide +kernel
theorem dX4_turn_151 : decode cX4_turn 151 = .ok (.goto 13, 3) := by decide +kernel
theorem dX4_turn_154 : decode cX4_turn 154 = .ok (.aload_n 0, 1) := by decide +kernel
theorem dX4_turn_155 : decode cX4_turn 155 = .ok (.getfield 16, 3) := by decide +kernel
theorem dX4_turn_158 : decode cX4_turn 158 = .ok (.getfield 41, 3) := by decide +kernel
theorem dX4_turn_161 : decode cX4_turn 161 = .ok (.iload 4, 2) := by decide +kernel
theorem dX4_turn_163 : decode cX4_turn 163 = .ok (.isub, 1) := by decide +kernel
theorem dX4_turn_164 : decode cX4_turn 164 = .ok (.putfield 41, 3) := by decide +kernel
theorem dX4_turn_167 : decode cX4_turn 167 = .ok (.aload_n 0, 1) := by decide +kernel
theorem dX4_turn_168 : decode cX4_turn 168 = .ok (.iload_n 2, 1) := by decide +kernel
theorem dX4_turn_169 : decode cX4_turn 169 = .ok (.aload_n 0, 1) := by decide +kernel
theorem dX4_turn_170 : decode cX4_turn 170 = .ok (.getfield 16, 3) := by decide +kernel
theorem dX4_turn_173 : decode cX4_turn 173 = .ok (.invokevirtual 68, 3) := by decide +kernel
theorem dX4_turn_176 : decode cX4_turn 176 = .ok (.ireturn, 1) := by decide +kernel
set_option maxRecDepth 20000 in
theorem ggX4_move_X4_is : GoodIn wsX4_move wsX4_is := goodIn_r _ [7] (by decide +kernel) (by decide +kernel)
set_option maxRecDepth 20000 in
theorem gX4_move_X4_is : GoodIn wsX4_move (va_wsS RX4 52 yX4_is wsX4_is) := goodIn_app (goodIn_of _ (by decide +kernel)) ggX4_move_X4_is
set_option maxRecDepth 20000 in
theorem ggX4_move_X3_take : GoodIn wsX4_move wsX3_take := goodIn_r _ [12, 13, 14, 15, 16, 42, 43, 44, 45] (by decide +kernel) (by decide +kernel)
set_option maxRecDepth 20000 in
theorem gX4_move_X3_take : GoodIn wsX4_move (wsV RX4 48 RX3 yX3_take wsX3_take) := goodIn_app (goodIn_of _ (by decide +kernel)) ggX4_move_X3_take
set_option maxRecDepth 20000 in
theorem ggX4_move_X3_up : GoodIn wsX4_move wsX3_up := goodIn_r _ [20, 13, 16, 21, 22, 23, 11, 24, 42, 43, 44, 45] (by decide +kernel) (by decide +kernel)
set_option maxRecDepth 20000 in
theorem gX4_move_X3_up : GoodIn wsX4_move (wsV RX4 72 RX3 yX3_up wsX3_up) := goodIn_app (goodIn_of _ (by decide +kernel)) ggX4_move_X3_up
set_option maxRecDepth 20000 in
theorem ggX4_move_X4_keep : GoodIn wsX4_move wsX4_keep := goodIn_r _ [28, 29, 3, 2, 30, 31, 6, 32, 33, 34, 8, 9, 10, 11, 12, 13, 14, 15, 16, 42, 43, 44, 45, 35, 36, 37, 38, 39, 40, 41] (by decide +kernel) (by decide +kernel)
set_option maxRecDepth 20000 in
theorem gX4_move_X4_keep : GoodIn wsX4_move (wsV RX4 68 RX4 yX4_keep wsX4_keep) := goodIn_app (goodIn_of _ (by decide +kernel)) ggX4_move_X4_keep
theorem dX4_move_0 : decode cX4_move 0 = .ok (.iload_n 2, 1) := by decide +kernel
theorem dX4_move_1 : decode cX4_move 1 = .ok (.invokestatic 52, 3) := by decide +kernel
theorem dX4_move_4 : decode cX4_move 4 = .ok (.ifCond .eq 33, 3) := by decide +kernel
theorem dX4_move_7 : decode cX4_move 7 = .ok (.iload_n 3, 1) := by decide +kernel
theorem dX4_move_8 : decode cX4_move 8 = .ok (.invokestatic 52, 3) := by decide +kernel
theorem dX4_move_11 : decode cX4_move 11 = .ok (.ifCond .eq 26, 3) := by decide +kernel
theorem dX4_move_14 : decode cX4_move 14 = .ok (.iload_n 1, 1) := by decide +kernel
theorem dX4_move_15 : decode cX4_move 15 = .ok (.ifCond .lt 22, 3) := by decide +kernel
theorem dX4_move_18 : decode cX4_move 18 = .ok (.iload_n 1, 1) := by decide +kernel
theorem dX4_move_19 : decode cX4_move 19 = .ok (.iconst 1, 1) := by decide +kernel
theorem dX4_move_20 : decode cX4_move 20 = .ok (.if_icmp .gt 17, 3) := by decide +kernel
theorem dX4_move_23 : decode cX4_move 23 = .ok (.iload 4, 2) := by decide +kernel
theorem dX4_move_25 : decode cX4_move 25 = .ok (.bipush (-12), 2) := by decide +kernel
theorem dX4_move_27 : decode cX4_move 27 = .ok (.if_icmp .lt 10, 3) := by decide +kernel
theorem dX4_move_30 : decode cX4_move 30 = .ok (.iload 4, 2) := by decide +kernel
theorem dX4_move_32 : decode cX4_move 32 = .ok (.bipush 12, 2) := by decide +kernel
theorem dX4_move_34 : decode cX4_move 34 = .ok (.if_icmp .le 5, 3) := by decide +kernel
theorem dX4_move_37 : decode cX4_move 37 = .ok (.iconst (-1), 1) := by decide +kernel
theorem dX4_move_38 : decode cX4_move 38 = .ok (.ireturn, 1) := by decide +kernel
theorem dX4_move_39 : decode cX4_move 39 = .ok (.aload_n 0, 1) := by decide +kernel
theorem dX4_move_40 : decode cX4_move 40 = .ok (.getfield 16, 3) := by decide +kernel
theorem dX4_move_43 : decode cX4_move 43 = .ok (.aload_n 0, 1) := by decide +kernel
theorem dX4_move_44 : decode cX4_move 44 = .ok (.getfield 9, 3) := by decide +kernel
theorem dX4_move_47 : decode cX4_move 47 = .ok (.iload_n 3, 1) := by decide +kernel
theorem dX4_move_48 : decode cX4_move 48 = .ok (.aaload, 1) := by decide +kernel
theorem dX4_move_49 : decode cX4_move 49 = .ok (.invokevirtual 48, 3) := by decide +kernel
theorem dX4_move_52 : decode cX4_move 52 = .ok (.aload_n 0, 1) := by decide +kernel
theorem dX4_move_53 : decode cX4_move 53 = .ok (.getfield 16, 3) := by decide +kernel
theorem dX4_move_56 : decode cX4_move 56 = .ok (.dup, 1) := by decide +kernel
theorem dX4_move_57 : decode cX4_move 57 = .ok (.getfield 41, 3) := by decide +kernel
theorem dX4_move_60 : decode cX4_move 60 = .ok (.iload 4, 2) := by decide +kernel
theorem dX4_move_62 : decode cX4_move 62 = .ok (.isub, 1) := by decide +kernel
theorem dX4_move_63 : decode cX4_move 63 = .ok (.putfield 41, 3) := by decide +kernel
theorem dX4_move_66 : decode cX4_move 66 = .ok (.iload_n 1, 1) := by decide +kernel
theorem dX4_move_67 : decode cX4_move 67 = .ok (.iconst 1, 1) := by decide +kernel
theorem dX4_move_68 : decode cX4_move 68 = .ok (.if_icmp .ne 36, 3) := by decide +kernel
theorem dX4_move_71 : decode cX4_move 71 = .ok (.aload_n 0, 1) := by decide +kernel
theorem dX4_move_72 : decode cX4_move 72 = .ok (.getfield 16, 3) := by decide +kernel
theorem dX4_move_75 : decode cX4_move 75 = .ok (.getfield 41, 3) := by decide +kernel
theorem dX4_move_78 : decode cX4_move 78 = .ok (.ifCond .ge 26, 3) := by decide +kernel
theorem dX4_move_81 : decode cX4_move 81 = .ok (.aload_n 0, 1) := by decide +kernel
theorem dX4_move_82 : decode cX4_move 82 = .ok (.getfield 16, 3) := by decide +kernel
theorem dX4_move_85 : decode cX4_move 85 = .ok (.aload_n 0, 1) := by decide +kernel
theorem dX4_move_86 : decode cX4_move 86 = .ok (.getfield 16, 3) := by decide +kernel
theorem dX4_move_89 : decode cX4_move 89 = .ok (.getfield 41, 3) := by decide +kernel
theorem dX4_move_92 : decode cX4_move 92 = .ok (.ineg, 1) := by decide +kernel
theorem dX4_move_93 : decode cX4_move 93 = .ok (.invokevirtual 72, 3) := by decide +kernel
theorem dX4_move_96 : decode cX4_move 96 = .ok (.aload_n 0, 1) := by decide +kernel
theorem dX4_move_97 : decode cX4_move 97 = .ok (.getfield 16, 3) := by decide +kernel
theorem dX4_move_100 : decode cX4_move 100 = .ok (.iconst 0, 1) := by decide +kernel
theorem dX4_move_101 : decode cX4_move 101 = .ok (.putfield 41, 3) := by decide +kernel
theorem dX4_move_104 : decode cX4_move 104 = .ok (.aload_n 0, 1) := by decide +kernel
theorem dX4_move_105 : decode cX4_move 105 = .ok (.iload_n 2, 1) := by decide +kernel
theorem dX4_move_106 : decode cX4_move 106 = .ok (.aload_n 0, 1) := by decide +kernel
theorem dX4_move_107 : decode cX4_move 107 = .ok (.getfield 16, 3) := by decide +kernel
theorem dX4_move_110 : decode cX4_move 110 = .ok (.invokevirtual 68, 3) := by decide +kernel
theorem dX4_move_113 : decode cX4_move 113 = .ok (.ireturn, 1) := by decide +kernel
set_option maxRecDepth 20000 in
theorem ggX4_power_X4_is : GoodIn wsX4_power wsX4_is := goodIn_r _ [10] (by decide +kernel) (by decide +kernel)
set_option maxRecDepth 20000 in
theorem gX4_power_X4_is : GoodIn wsX4_power (va_wsS RX4 52 yX4_is wsX4_is) := goodIn_app (goodIn_of _ (by decide +kernel)) ggX4_power_X4_is
set_option maxRecDepth 20000 in
theorem ggX4_power_X3_zero : GoodIn wsX4_power wsX3_zero := goodIn_r _ [15, 16, 17, 18, 52, 53, 54, 55] (by decide +kernel) (by decide +kernel)
set_option maxRecDepth 20000 in
theorem gX4_power_X3_zero : GoodIn wsX4_power (wsV RX4 117 RX3 yX3_zero wsX3_zero) := goodIn_app (goodIn_of _ (by decide +kernel)) ggX4_power_X3_zero
set_option maxRecDepth 20000 in
theorem ggX4_power_X4_product : GoodIn wsX4_power wsX4_product := goodIn_r _ [21, 2, 4, 22, 5, 23, 24, 25, 14, 26, 16, 17, 18, 27, 28, 29, 30, 52, 53, 54, 55] (by decide +kernel) (by decide +kernel)
set_option maxRecDepth 20000 in
theorem gX4_power_X4_product : GoodIn wsX4_power (va_wsS RX4 92 yX4_product wsX4_product) := goodIn_app (goodIn_of _ (by decide +kernel)) ggX4_power_X4_product
set_option maxRecDepth 20000 in
theorem ggX4_power_X3_take : GoodIn wsX4_power wsX3_take := goodIn_r _ [34, 16, 18, 35, 17, 52, 53, 54, 55] (by decide +kernel) (by decide +kernel)
set_option maxRecDepth 20000 in
theorem gX4_power_X3_take : GoodIn wsX4_power (wsV RX4 48 RX3 yX3_take wsX3_take) := goodIn_app (goodIn_of _ (by decide +kernel)) ggX4_power_X3_take
set_option maxRecDepth 20000 in
theorem ggX4_power_X4_keep : GoodIn wsX4_power wsX4_keep := goodIn_r _ [39, 2, 5, 1, 40, 41, 9, 42, 43, 44, 31, 32, 33, 14, 34, 16, 18, 35, 17, 52, 53, 54, 55, 45, 46, 47, 48, 49, 50, 51] (by decide +kernel) (by decide +kernel)
set_option maxRecDepth 20000 in
theorem gX4_power_X4_keep : GoodIn wsX4_power (wsV RX4 68 RX4 yX4_keep wsX4_keep) := goodIn_app (goodIn_of _ (by decide +kernel)) ggX4_power_X4_keep
theorem dX4_power_0 : decode cX4_power 0 = .ok (.iload_n 1, 1) := by decide +kernel
theorem dX4_power_1 : decode cX4_power 1 = .ok (.invokestatic 52, 3) := by decide +kernel
theorem dX4_power_4 : decode cX4_power 4 = .ok (.ifCond .eq 20, 3) := by decide +kernel
theorem dX4_power_7 : decode cX4_power 7 = .ok (.iload_n 2, 1) := by decide +kernel
theorem dX4_power_8 : decode cX4_power 8 = .ok (.invokestatic 52, 3) := by decide +kernel
theorem dX4_power_11 : decode cX4_power 11 = .ok (.ifCond .eq 13, 3) := by decide +kernel
theorem dX4_power_14 : decode cX4_power 14 = .ok (.iload_n 3, 1) := by decide +kernel
theorem dX4_power_15 : decode cX4_power 15 = .ok (.ifCond .lt 9, 3) := by decide +kernel
theorem dX4_power_18 : decode cX4_power 18 = .ok (.iload_n 3, 1) := by decide +kernel
theorem dX4_power_19 : decode cX4_power 19 = .ok (.bipush 40, 2) := by decide +kernel
theorem dX4_power_21 : decode cX4_power 21 = .ok (.if_icmp .le 5, 3) := by decide +kernel
theorem dX4_power_24 : decode cX4_power 24 = .ok (.iconst (-1), 1) := by decide +kernel
theorem dX4_power_25 : decode cX4_power 25 = .ok (.ireturn, 1) := by decide +kernel
theorem dX4_power_26 : decode cX4_power 26 = .ok (.iload_n 3, 1) := by decide +kernel
theorem dX4_power_27 : decode cX4_power 27 = .ok (.aload_n 0, 1) := by decide +kernel
theorem dX4_power_28 : decode cX4_power 28 = .ok (.getfield 9, 3) := by decide +kernel
theorem dX4_power_31 : decode cX4_power 31 = .ok (.iload_n 2, 1) := by decide +kernel
theorem dX4_power_32 : decode cX4_power 32 = .ok (.aaload, 1) := by decide +kernel
theorem dX4_power_33 : decode cX4_power 33 = .ok (.getfield 37, 3) := by decide +kernel
theorem dX4_power_36 : decode cX4_power 36 = .ok (.imul, 1) := by decide +kernel
theorem dX4_power_37 : decode cX4_power 37 = .ok (.sipush 190, 3) := by decide +kernel
theorem dX4_power_40 : decode cX4_power 40 = .ok (.if_icmp .le 6, 3) := by decide +kernel
theorem dX4_power_43 : decode cX4_power 43 = .ok (.bipush (-3), 2) := by decide +kernel
theorem dX4_power_45 : decode cX4_power 45 = .ok (.ireturn, 1) := by decide +kernel
theorem dX4_power_46 : decode cX4_power 46 = .ok (.aload_n 0, 1) := by decide +kernel
theorem dX4_power_47 : decode cX4_power 47 = .ok (.getfield 16, 3) := by decide +kernel
theorem dX4_power_50 : decode cX4_power 50 = .ok (.invokevirtual 117, 3) := by decide +kernel
theorem dX4_power_53 : decode cX4_power 53 = .ok (.aload_n 0, 1) := by decide +kernel
theorem dX4_power_54 : decode cX4_power 54 = .ok (.getfield 16, 3) := by decide +kernel
theorem dX4_power_57 : decode cX4_power 57 = .ok (.getfield 58, 3) := by decide +kernel
theorem dX4_power_60 : decode cX4_power 60 = .ok (.iconst 0, 1) := by decide +kernel
theorem dX4_power_61 : decode cX4_power 61 = .ok (.iconst 1, 1) := by decide +kernel
theorem dX4_power_62 : decode cX4_power 62 = .ok (.iastore, 1) := by decide +kernel
theorem dX4_power_63 : decode cX4_power 63 = .ok (.aload_n 0, 1) := by decide +kernel
theorem dX4_power_64 : decode cX4_power 64 = .ok (.getfield 16, 3) := by decide +kernel
theorem dX4_power_67 : decode cX4_power 67 = .ok (.iconst 0, 1) := by decide +kernel
theorem dX4_power_68 : decode cX4_power 68 = .ok (.putfield 41, 3) := by decide +kernel
theorem dX4_power_71 : decode cX4_power 71 = .ok (.iconst 0, 1) := by decide +kernel
theorem dX4_power_72 : decode cX4_power 72 = .ok (.istore 4, 2) := by decide +kernel
theorem dX4_power_74 : decode cX4_power 74 = .ok (.iload 4, 2) := by decide +kernel
theorem dX4_power_76 : decode cX4_power 76 = .ok (.iload_n 3, 1) := by decide +kernel
theorem dX4_power_77 : decode cX4_power 77 = .ok (.if_icmp .ge 37, 3) := by decide +kernel
theorem dX4_power_80 : decode cX4_power 80 = .ok (.aload_n 0, 1) := by decide +kernel
theorem dX4_power_81 : decode cX4_power 81 = .ok (.getfield 16, 3) := by decide +kernel
theorem dX4_power_84 : decode cX4_power 84 = .ok (.aload_n 0, 1) := by decide +kernel
theorem dX4_power_85 : decode cX4_power 85 = .ok (.getfield 9, 3) := by decide +kernel
theorem dX4_power_88 : decode cX4_power 88 = .ok (.iload_n 2, 1) := by decide +kernel
theorem dX4_power_89 : decode cX4_power 89 = .ok (.aaload, 1) := by decide +kernel
theorem dX4_power_90 : decode cX4_power 90 = .ok (.aload_n 0, 1) := by decide +kernel
theorem dX4_power_91 : decode cX4_power 91 = .ok (.getfield 23, 3) := by decide +kernel
theorem dX4_power_94 : decode cX4_power 94 = .ok (.invokestatic 92, 3) := by decide +kernel
theorem dX4_power_97 : decode cX4_power 97 = .ok (.aload_n 0, 1) := by decide +kernel
theorem dX4_power_98 : decode cX4_power 98 = .ok (.getfield 16, 3) := by decide +kernel
theorem dX4_power_101 : decode cX4_power 101 = .ok (.aload_n 0, 1) := by decide +kernel
theorem dX4_power_102 : decode cX4_power 102 = .ok (.getfield 23, 3) := by decide +kernel
theorem dX4_power_105 : decode cX4_power 105 = .ok (.invokevirtual 48, 3) := by decide +kernel
theorem dX4_power_108 : decode cX4_power 108 = .ok (.iinc 4 1, 3) := by decide +kernel
theorem dX4_power_111 : decode cX4_power 111 = .ok (.goto (-37), 3) := by decide +kernel
theorem dX4_power_114 : decode cX4_power 114 = .ok (.aload_n 0, 1) := by decide +kernel
theorem dX4_power_115 : decode cX4_power 115 = .ok (.getfield 16, 3) := by decide +kernel
theorem dX4_power_118 : decode cX4_power 118 = .ok (.iload_n 3, 1) := by decide +kernel
theorem dX4_power_119 : decode cX4_power 119 = .ok (.aload_n 0, 1) := by decide +kernel
theorem dX4_power_120 : decode cX4_power 120 = .ok (.getfield 9, 3) := by decide +kernel
theorem dX4_power_123 : decode cX4_power 123 = .ok (.iload_n 2, 1) := by decide +kernel
theorem dX4_power_124 : decode cX4_power 124 = .ok (.aaload, 1) := by decide +kernel
theorem dX4_power_125 : decode cX4_power 125 = .ok (.getfield 41, 3) := by decide +kernel
theorem dX4_power_128 : decode cX4_power 128 = .ok (.imul, 1) := by decide +kernel
theorem dX4_power_129 : decode cX4_power 129 = .ok (.putfield 41, 3) := by decide +kernel
theorem dX4_power_132 : decode cX4_power 132 = .ok (.aload_n 0, 1) := by decide +kernel
theorem dX4_power_133 : decode cX4_power 133 = .ok (.iload_n 1, 1) := by decide +kernel
theorem dX4_power_134 : decode cX4_power 134 = .ok (.aload_n 0, 1) := by decide +kernel
theorem dX4_power_135 : decode cX4_power 135 = .ok (.getfield 16, 3) := by decide +kernel
theorem dX4_power_138 : decode cX4_power 138 = .ok (.invokevirtual 68, 3) := by decide +kernel
theorem dX4_power_141 : decode cX4_power 141 = .ok (.ireturn, 1) := by decide +kernel
set_option maxRecDepth 20000 in
theorem ggX4_compare_X4_is : GoodIn wsX4_compare wsX4_is := goodIn_r _ [4] (by decide +kernel) (by decide +kernel)
set_option maxRecDepth 20000 in
theorem gX4_compare_X4_is : GoodIn wsX4_compare (va_wsS RX4 52 yX4_is wsX4_is) := goodIn_app (goodIn_of _ (by decide +kernel)) ggX4_compare_X4_is
set_option maxRecDepth 20000 in
theorem ggX4_compare_X4_order : GoodIn wsX4_compare wsX4_order := goodIn_r _ [8, 9, 10, 11, 12, 13, 14, 3, 15, 16, 17, 18, 19, 20, 21, 22, 23, 24, 25, 26, 27, 28, 29, 30, 31, 32, 33, 34, 35, 36, 37, 38, 39, 40, 41, 42, 43, 44, 45, 46, 47, 48, 49, 50] (by decide +kernel) (by decide +kernel)
set_option maxRecDepth 20000 in
theorem gX4_compare_X4_order : GoodIn wsX4_compare (wsV RX4 88 RX4 yX4_order wsX4_order) := goodIn_app (goodIn_of _ (by decide +kernel)) ggX4_compare_X4_order
theorem dX4_compare_0 : decode cX4_compare 0 = .ok (.iload_n 1, 1) := by decide +kernel
theorem dX4_compare_1 : decode cX4_compare 1 = .ok (.invokestatic 52, 3) := by decide +kernel
theorem dX4_compare_4 : decode cX4_compare 4 = .ok (.ifCond .eq 19, 3) := by decide +kernel
theorem dX4_compare_7 : decode cX4_compare 7 = .ok (.iload_n 2, 1) := by decide +kernel
theorem dX4_compare_8 : decode cX4_compare 8 = .ok (.invokestatic 52, 3) := by decide +kernel
theorem dX4_compare_11 : decode cX4_compare 11 = .ok (.ifCond .eq 12, 3) := by decide +kernel
theorem dX4_compare_14 : decode cX4_compare 14 = .ok (.aload_n 0, 1) := by decide +kernel
theorem dX4_compare_15 : decode cX4_compare 15 = .ok (.iload_n 1, 1) := by decide +kernel
theorem dX4_compare_16 : decode cX4_compare 16 = .ok (.iload_n 2, 1) := by decide +kernel
theorem dX4_compare_17 : decode cX4_compare 17 = .ok (.invokevirtual 88, 3) := by decide +kernel
theorem dX4_compare_20 : decode cX4_compare 20 = .ok (.goto 5, 3) := by decide +kernel
theorem dX4_compare_23 : decode cX4_compare 23 = .ok (.bipush (-2), 2) := by decide +kernel
theorem dX4_compare_25 : decode cX4_compare 25 = .ok (.ireturn, 1) := by decide +kernel
set_option maxRecDepth 20000 in
theorem ggX4_same_X4_is : GoodIn wsX4_same wsX4_is := goodIn_r _ [7] (by decide +kernel) (by decide +kernel)
set_option maxRecDepth 20000 in
theorem gX4_same_X4_is : GoodIn wsX4_same (va_wsS RX4 52 yX4_is wsX4_is) := goodIn_app (goodIn_of _ (by decide +kernel)) ggX4_same_X4_is
set_option maxRecDepth 20000 in
theorem ggX4_same_X4_sizes : GoodIn wsX4_same wsX4_sizes := goodIn_r _ [10, 11, 12, 20, 21, 22, 23] (by decide +kernel) (by decide +kernel)
set_option maxRecDepth 20000 in
theorem gX4_same_X4_sizes : GoodIn wsX4_same (va_wsS RX4 80 yX4_sizes wsX4_sizes) := goodIn_app (goodIn_of _ (by decide +kernel)) ggX4_same_X4_sizes
theorem dX4_same_0 : decode cX4_same 0 = .ok (.iload_n 1, 1) := by decide +kernel
theorem dX4_same_1 : decode cX4_same 1 = .ok (.invokestatic 52, 3) := by decide +kernel
theorem dX4_same_4 : decode cX4_same 4 = .ok (.ifCond .eq 10, 3) := by decide +kernel
theorem dX4_same_7 : decode cX4_same 7 = .ok (.iload_n 2, 1) := by decide +kernel
theorem dX4_same_8 : decode cX4_same 8 = .ok (.invokestatic 52, 3) := by decide +kernel
theorem dX4_same_11 : decode cX4_same 11 = .ok (.ifCond .ne 5, 3) := by decide +kernel
theorem dX4_same_14 : decode cX4_same 14 = .ok (.iconst 0, 1) := by decide +kernel
theorem dX4_same_15 : decode cX4_same 15 = .ok (.ireturn, 1) := by decide +kernel
theorem dX4_same_16 : decode cX4_same 16 = .ok (.aload_n 0, 1) := by decide +kernel
theorem dX4_same_17 : decode cX4_same 17 = .ok (.getfield 9, 3) := by decide +kernel
theorem dX4_same_20 : decode cX4_same 20 = .ok (.iload_n 1, 1) := by decide +kernel
theorem dX4_same_21 : decode cX4_same 21 = .ok (.aaload, 1) := by decide +kernel
theorem dX4_same_22 : decode cX4_same 22 = .ok (.astore_n 3, 1) := by decide +kernel
theorem dX4_same_23 : decode cX4_same 23 = .ok (.aload_n 0, 1) := by decide +kernel
theorem dX4_same_24 : decode cX4_same 24 = .ok (.getfield 9, 3) := by decide +kernel
theorem dX4_same_27 : decode cX4_same 27 = .ok (.iload_n 2, 1) := by decide +kernel
theorem dX4_same_28 : decode cX4_same 28 = .ok (.aaload, 1) := by decide +kernel
theorem dX4_same_29 : decode cX4_same 29 = .ok (.astore 4, 2) := by decide +kernel
theorem dX4_same_31 : decode cX4_same 31 = .ok (.aload_n 3, 1) := by decide +kernel
theorem dX4_same_32 : decode cX4_same 32 = .ok (.getfield 61, 3) := by decide +kernel
theorem dX4_same_35 : decode cX4_same 35 = .ok (.aload 4, 2) := by decide +kernel
theorem dX4_same_37 : decode cX4_same 37 = .ok (.getfield 61, 3) := by decide +kernel
theorem dX4_same_40 : decode cX4_same 40 = .ok (.if_icmp .ne 28, 3) := by decide +kernel
theorem dX4_same_43 : decode cX4_same 43 = .ok (.aload_n 3, 1) := by decide +kernel
theorem dX4_same_44 : decode cX4_same 44 = .ok (.getfield 41, 3) := by decide +kernel
theorem dX4_same_47 : decode cX4_same 47 = .ok (.aload 4, 2) := by decide +kernel
theorem dX4_same_49 : decode cX4_same 49 = .ok (.getfield 41, 3) := by decide +kernel
theorem dX4_same_52 : decode cX4_same 52 = .ok (.if_icmp .ne 16, 3) := by decide +kernel
theorem dX4_same_55 : decode cX4_same 55 = .ok (.aload_n 3, 1) := by decide +kernel
theorem dX4_same_56 : decode cX4_same 56 = .ok (.aload 4, 2) := by decide +kernel
theorem dX4_same_58 : decode cX4_same 58 = .ok (.invokestatic 80, 3) := by decide +kernel
theorem dX4_same_61 : decode cX4_same 61 = .ok (.ifCond .ne 7, 3) := by decide +kernel
theorem dX4_same_64 : decode cX4_same 64 = .ok (.iconst 1, 1) := by decide +kernel
theorem dX4_same_65 : decode cX4_same 65 = .ok (.goto 4, 3) := by decide +kernel
theorem dX4_same_68 : decode cX4_same 68 = .ok (.iconst 0, 1) := by decide +kernel
theorem dX4_same_69 : decode cX4_same 69 = .ok (.ireturn, 1) := by decide +kernel
set_option maxRecDepth 20000 in
theorem ggX4_look_X4_is : GoodIn wsX4_look wsX4_is := goodIn_r _ [8] (by decide +kernel) (by decide +kernel)
set_option maxRecDepth 20000 in
theorem gX4_look_X4_is : GoodIn wsX4_look (va_wsS RX4 52 yX4_is wsX4_is) := goodIn_app (goodIn_of _ (by decide +kernel)) ggX4_look_X4_is
set_option maxRecDepth 20000 in
theorem ggX4_look_X3_isZero : GoodIn wsX4_look wsX3_isZero := goodIn_r _ [13, 14, 15, 23, 24, 25, 26] (by decide +kernel) (by decide +kernel)
set_option maxRecDepth 20000 in
theorem gX4_look_X3_isZero : GoodIn wsX4_look (wsV RX4 84 RX3 yX3_isZero wsX3_isZero) := goodIn_app (goodIn_of _ (by decide +kernel)) ggX4_look_X3_isZero
theorem dX4_look_0 : decode cX4_look 0 = .ok (.iload_n 1, 1) := by decide +kernel
theorem dX4_look_1 : decode cX4_look 1 = .ok (.ifCond .lt 8, 3) := by decide +kernel
theorem dX4_look_4 : decode cX4_look 4 = .ok (.iload_n 1, 1) := by decide +kernel
theorem dX4_look_5 : decode cX4_look 5 = .ok (.iconst 2, 1) := by decide +kernel
theorem dX4_look_6 : decode cX4_look 6 = .ok (.if_icmp .le 5, 3) := by decide +kernel
theorem dX4_look_9 : decode cX4_look 9 = .ok (.iconst (-1), 1) := by decide +kernel
theorem dX4_look_10 : decode cX4_look 10 = .ok (.ireturn, 1) := by decide +kernel
theorem dX4_look_11 : decode cX4_look 11 = .ok (.iload_n 2, 1) := by decide +kernel
theorem dX4_look_12 : decode cX4_look 12 = .ok (.invokestatic 52, 3) := by decide +kernel
theorem dX4_look_15 : decode cX4_look 15 = .ok (.ifCond .ne 16, 3) := by decide +kernel
theorem dX4_look_18 : decode cX4_look 18 = .ok (.iload_n 1, 1) := by decide +kernel
theorem dX4_look_19 : decode cX4_look 19 = .ok (.iconst 2, 1) := by decide +kernel
theorem dX4_look_20 : decode cX4_look 20 = .ok (.if_icmp .ne 9, 3) := by decide +kernel
theorem dX4_look_23 : decode cX4_look 23 = .ok (.sipush 1000, 3) := by decide +kernel
theorem dX4_look_26 : decode cX4_look 26 = .ok (.goto 4, 3) := by decide +kernel
theorem dX4_look_29 : decode cX4_look 29 = .ok (.iconst (-1), 1) := by decide +kernel
theorem dX4_look_30 : decode cX4_look 30 = .ok (.ireturn, 1) := by decide +kernel
theorem dX4_look_31 : decode cX4_look 31 = .ok (.aload_n 0, 1) := by decide +kernel
theorem dX4_look_32 : decode cX4_look 32 = .ok (.getfield 9, 3) := by decide +kernel
theorem dX4_look_35 : decode cX4_look 35 = .ok (.iload_n 2, 1) := by decide +kernel
theorem dX4_look_36 : decode cX4_look 36 = .ok (.aaload, 1) := by decide +kernel
theorem dX4_look_37 : decode cX4_look 37 = .ok (.astore_n 3, 1) := by decide +kernel
theorem dX4_look_38 : decode cX4_look 38 = .ok (.iload_n 1, 1) := by decide +kernel
theorem dX4_look_39 : decode cX4_look 39 = .ok (.ifCond .ne 29, 3) := by decide +kernel
theorem dX4_look_42 : decode cX4_look 42 = .ok (.aload_n 3, 1) := by decide +kernel
theorem dX4_look_43 : decode cX4_look 43 = .ok (.invokevirtual 84, 3) := by decide +kernel
theorem dX4_look_46 : decode cX4_look 46 = .ok (.ifCond .eq 7, 3) := by decide +kernel
theorem dX4_look_49 : decode cX4_look 49 = .ok (.iconst 0, 1) := by decide +kernel
theorem dX4_look_50 : decode cX4_look 50 = .ok (.goto 34, 3) := by decide +kernel
theorem dX4_look_53 : decode cX4_look 53 = .ok (.aload_n 3, 1) := by decide +kernel
theorem dX4_look_54 : decode cX4_look 54 = .ok (.getfield 61, 3) := by decide +kernel
theorem dX4_look_57 : decode cX4_look 57 = .ok (.ifCond .eq 7, 3) := by decide +kernel
theorem dX4_look_60 : decode cX4_look 60 = .ok (.iconst (-1), 1) := by decide +kernel
theorem dX4_look_61 : decode cX4_look 61 = .ok (.goto 23, 3) := by decide +kernel
theorem dX4_look_64 : decode cX4_look 64 = .ok (.iconst 1, 1) := by decide +kernel
theorem dX4_look_65 : decode cX4_look 65 = .ok (.goto 19, 3) := by decide +kernel
theorem dX4_look_68 : decode cX4_look 68 = .ok (.iload_n 1, 1) := by decide +kernel
theorem dX4_look_69 : decode cX4_look 69 = .ok (.iconst 1, 1) := by decide +kernel
theorem dX4_look_70 : decode cX4_look 70 = .ok (.if_icmp .ne 10, 3) := by decide +kernel
theorem dX4_look_73 : decode cX4_look 73 = .ok (.aload_n 3, 1) := by decide +kernel
theorem dX4_look_74 : decode cX4_look 74 = .ok (.getfield 37, 3) := by decide +kernel
theorem dX4_look_77 : decode cX4_look 77 = .ok (.goto 7, 3) := by decide +kernel
theorem dX4_look_80 : decode cX4_look 80 = .ok (.aload_n 3, 1) := by decide +kernel
theorem dX4_look_81 : decode cX4_look 81 = .ok (.getfield 41, 3) := by decide +kernel
theorem dX4_look_84 : decode cX4_look 84 = .ok (.ireturn, 1) := by decide +kernel
set_option maxRecDepth 20000 in
theorem ggX4_digit_X4_is : GoodIn wsX4_digit wsX4_is := goodIn_r _ [7] (by decide +kernel) (by decide +kernel)
set_option maxRecDepth 20000 in
theorem gX4_digit_X4_is : GoodIn wsX4_digit (va_wsS RX4 52 yX4_is wsX4_is) := goodIn_app (goodIn_of _ (by decide +kernel)) ggX4_digit_X4_is
theorem dX4_digit_0 : decode cX4_digit 0 = .ok (.iload_n 1, 1) := by decide +kernel
theorem dX4_digit_1 : decode cX4_digit 1 = .ok (.invokestatic 52, 3) := by decide +kernel
theorem dX4_digit_4 : decode cX4_digit 4 = .ok (.ifCond .eq 34, 3) := by decide +kernel
theorem dX4_digit_7 : decode cX4_digit 7 = .ok (.iload_n 2, 1) := by decide +kernel
theorem dX4_digit_8 : decode cX4_digit 8 = .ok (.ifCond .lt 30, 3) := by decide +kernel
theorem dX4_digit_11 : decode cX4_digit 11 = .ok (.iload_n 2, 1) := by decide +kernel
theorem dX4_digit_12 : decode cX4_digit 12 = .ok (.aload_n 0, 1) := by decide +kernel
theorem dX4_digit_13 : decode cX4_digit 13 = .ok (.getfield 9, 3) := by decide +kernel
theorem dX4_digit_16 : decode cX4_digit 16 = .ok (.iload_n 1, 1) := by decide +kernel
theorem dX4_digit_17 : decode cX4_digit 17 = .ok (.aaload, 1) := by decide +kernel
theorem dX4_digit_18 : decode cX4_digit 18 = .ok (.getfield 37, 3) := by decide +kernel
theorem dX4_digit_21 : decode cX4_digit 21 = .ok (.if_icmp .ge 17, 3) := by decide +kernel
theorem dX4_digit_24 : decode cX4_digit 24 = .ok (.aload_n 0, 1) := by decide +kernel
theorem dX4_digit_25 : decode cX4_digit 25 = .ok (.getfield 9, 3) := by decide +kernel
theorem dX4_digit_28 : decode cX4_digit 28 = .ok (.iload_n 1, 1) := by decide +kernel
theorem dX4_digit_29 : decode cX4_digit 29 = .ok (.aaload, 1) := by decide +kernel
theorem dX4_digit_30 : decode cX4_digit 30 = .ok (.getfield 58, 3) := by decide +kernel
theorem dX4_digit_33 : decode cX4_digit 33 = .ok (.iload_n 2, 1) := by decide +kernel
theorem dX4_digit_34 : decode cX4_digit 34 = .ok (.iaload, 1) := by decide +kernel
theorem dX4_digit_35 : decode cX4_digit 35 = .ok (.goto 4, 3) := by decide +kernel
theorem dX4_digit_38 : decode cX4_digit 38 = .ok (.iconst (-1), 1) := by decide +kernel
theorem dX4_digit_39 : decode cX4_digit 39 = .ok (.ireturn, 1) := by decide +kernel
set_option maxRecDepth 20000 in
theorem ggX4_whole_X4_is : GoodIn wsX4_whole wsX4_is := goodIn_r _ [10] (by decide +kernel) (by decide +kernel)
set_option maxRecDepth 20000 in
theorem gX4_whole_X4_is : GoodIn wsX4_whole (va_wsS RX4 52 yX4_is wsX4_is) := goodIn_app (goodIn_of _ (by decide +kernel)) ggX4_whole_X4_is
theorem dX4_whole_0 : decode cX4_whole 0 = .ok (.iload_n 1, 1) := by decide +kernel
theorem dX4_whole_1 : decode cX4_whole 1 = .ok (.invokestatic 52, 3) := by decide +kernel
theorem dX4_whole_4 : decode cX4_whole 4 = .ok (.ifCond .ne 5, 3) := by decide +kernel
theorem dX4_whole_7 : decode cX4_whole 7 = .ok (.lconst 0, 1) := by decide +kernel
theorem dX4_whole_8 : decode cX4_whole 8 = .ok (.lreturn, 1) := by decide +kernel
theorem dX4_whole_9 : decode cX4_whole 9 = .ok (.aload_n 0, 1) := by decide +kernel
theorem dX4_whole_10 : decode cX4_whole 10 = .ok (.getfield 9, 3) := by decide +kernel
theorem dX4_whole_13 : decode cX4_whole 13 = .ok (.iload_n 1, 1) := by decide +kernel
theorem dX4_whole_14 : decode cX4_whole 14 = .ok (.aaload, 1) := by decide +kernel
theorem dX4_whole_15 : decode cX4_whole 15 = .ok (.astore_n 2, 1) := by decide +kernel
theorem dX4_whole_16 : decode cX4_whole 16 = .ok (.lconst 0, 1) := by decide +kernel
theorem dX4_whole_17 : decode cX4_whole 17 = .ok (.lstore_n 3, 1) := by decide +kernel
theorem dX4_whole_18 : decode cX4_whole 18 = .ok (.aload_n 2, 1) := by decide +kernel
theorem dX4_whole_19 : decode cX4_whole 19 = .ok (.getfield 41, 3) := by decide +kernel
theorem dX4_whole_22 : decode cX4_whole 22 = .ok (.ifCond .le 10, 3) := by decide +kernel
theorem dX4_whole_25 : decode cX4_whole 25 = .ok (.aload_n 2, 1) := by decide +kernel
theorem dX4_whole_26 : decode cX4_whole 26 = .ok (.getfield 41, 3) := by decide +kernel
theorem dX4_whole_29 : decode cX4_whole 29 = .ok (.goto 4, 3) := by decide +kernel
theorem dX4_whole_32 : decode cX4_whole 32 = .ok (.iconst 0, 1) := by decide +kernel
theorem dX4_whole_33 : decode cX4_whole 33 = .ok (.istore 5, 2) := by decide +kernel
theorem dX4_whole_35 : decode cX4_whole 35 = .ok (.aload_n 2, 1) := by decide +kernel
theorem dX4_whole_36 : decode cX4_whole 36 = .ok (.getfield 37, 3) := by decide +kernel
theorem dX4_whole_39 : decode cX4_whole 39 = .ok (.iconst 1, 1) := by decide +kernel
theorem dX4_whole_40 : decode cX4_whole 40 = .ok (.isub, 1) := by decide +kernel
theorem dX4_whole_41 : decode cX4_whole 41 = .ok (.istore 6, 2) := by decide +kernel
theorem dX4_whole_43 : decode cX4_whole 43 = .ok (.iload 6, 2) := by decide +kernel
theorem dX4_whole_45 : decode cX4_whole 45 = .ok (.iload 5, 2) := by decide +kernel
theorem dX4_whole_47 : decode cX4_whole 47 = .ok (.if_icmp .lt 24, 3) := by decide +kernel
theorem dX4_whole_50 : decode cX4_whole 50 = .ok (.ldc2_w 56, 3) := by decide +kernel
theorem dX4_whole_53 : decode cX4_whole 53 = .ok (.lload_n 3, 1) := by decide +kernel
theorem dX4_whole_54 : decode cX4_whole 54 = .ok (.lmul, 1) := by decide +kernel
theorem dX4_whole_55 : decode cX4_whole 55 = .ok (.aload_n 2, 1) := by decide +kernel
theorem dX4_whole_56 : decode cX4_whole 56 = .ok (.getfield 58, 3) := by decide +kernel
theorem dX4_whole_59 : decode cX4_whole 59 = .ok (.iload 6, 2) := by decide +kernel
theorem dX4_whole_61 : decode cX4_whole 61 = .ok (.iaload, 1) := by decide +kernel
theorem dX4_whole_62 : decode cX4_whole 62 = .ok (.i2l, 1) := by decide +kernel
theorem dX4_whole_63 : decode cX4_whole 63 = .ok (.ladd, 1) := by decide +kernel
theorem dX4_whole_64 : decode cX4_whole 64 = .ok (.lstore_n 3, 1) := by decide +kernel
theorem dX4_whole_65 : decode cX4_whole 65 = .ok (.iinc 6 (-1), 3) := by decide +kernel
theorem dX4_whole_68 : decode cX4_whole 68 = .ok (.goto (-25), 3) := by decide +kernel
theorem dX4_whole_71 : decode cX4_whole 71 = .ok (.aload_n 2, 1) := by decide +kernel
theorem dX4_whole_72 : decode cX4_whole 72 = .ok (.getfield 41, 3) := by decide +kernel
theorem dX4_whole_75 : decode cX4_whole 75 = .ok (.istore 6, 2) := by decide +kernel
theorem dX4_whole_77 : decode cX4_whole 77 = .ok (.iload 6, 2) := by decide +kernel
theorem dX4_whole_79 : decode cX4_whole 79 = .ok (.ifCond .ge 15, 3) := by decide +kernel
theorem dX4_whole_82 : decode cX4_whole 82 = .ok (.ldc2_w 56, 3) := by decide +kernel
theorem dX4_whole_85 : decode cX4_whole 85 = .ok (.lload_n 3, 1) := by decide +kernel
theorem dX4_whole_86 : decode cX4_whole 86 = .ok (.lmul, 1) := by decide +kernel
theorem dX4_whole_87 : decode cX4_whole 87 = .ok (.lstore_n 3, 1) := by decide +kernel
theorem dX4_whole_88 : decode cX4_whole 88 = .ok (.iinc 6 1, 3) := by decide +kernel
theorem dX4_whole_91 : decode cX4_whole 91 = .ok (.goto (-14), 3) := by decide +kernel
theorem dX4_whole_94 : decode cX4_whole 94 = .ok (.aload_n 2, 1) := by decide +kernel
theorem dX4_whole_95 : decode cX4_whole 95 = .ok (.getfield 61, 3) := by decide +kernel
theorem dX4_whole_98 : decode cX4_whole 98 = .ok (.ifCond .eq 8, 3) := by decide +kernel
theorem dX4_whole_101 : decode cX4_whole 101 = .ok (.lload_n 3, 1) := by decide +kernel
theorem dX4_whole_102 : decode cX4_whole 102 = .ok (.lneg, 1) := by decide +kernel
theorem dX4_whole_103 : decode cX4_whole 103 = .ok (.goto 4, 3) := by decide +kernel
theorem dX4_whole_106 : decode cX4_whole 106 = .ok (.lload_n 3, 1) := by decide +kernel
theorem dX4_whole_107 : decode cX4_whole 107 = .ok (.lreturn, 1) := by decide +kernel
theorem dX4_sign_0 : decode cX4_sign 0 = .ok (.aload_n 0, 1) := by decide +kernel
theorem dX4_sign_1 : decode cX4_sign 1 = .ok (.getfield 29, 3) := by decide +kernel
theorem dX4_sign_4 : decode cX4_sign 4 = .ok (.aload_n 0, 1) := by decide +kernel
theorem dX4_sign_5 : decode cX4_sign 5 = .ok (.getfield 120, 3) := by decide +kernel
theorem dX4_sign_8 : decode cX4_sign 8 = .ok (.iload_n 1, 1) := by decide +kernel
theorem dX4_sign_9 : decode cX4_sign 9 = .ok (.iastore, 1) := by decide +kernel
theorem dX4_sign_10 : decode cX4_sign 10 = .ok (.aload_n 0, 1) := by decide +kernel
theorem dX4_sign_11 : decode cX4_sign 11 = .ok (.dup, 1) := by decide +kernel
theorem dX4_sign_12 : decode cX4_sign 12 = .ok (.getfield 120, 3) := by decide +kernel
theorem dX4_sign_15 : decode cX4_sign 15 = .ok (.iconst 1, 1) := by decide +kernel
theorem dX4_sign_16 : decode cX4_sign 16 = .ok (.iadd, 1) := by decide +kernel
theorem dX4_sign_17 : decode cX4_sign 17 = .ok (.putfield 120, 3) := by decide +kernel
theorem dX4_sign_20 : decode cX4_sign 20 = .ok (.return_, 1) := by decide +kernel
set_option maxRecDepth 20000 in
theorem ggX4_write_X4_is : GoodIn wsX4_write wsX4_is := goodIn_r _ [10] (by decide +kernel) (by decide +kernel)
set_option maxRecDepth 20000 in
theorem gX4_write_X4_is : GoodIn wsX4_write (va_wsS RX4 52 yX4_is wsX4_is) := goodIn_app (goodIn_of _ (by decide +kernel)) ggX4_write_X4_is
set_option maxRecDepth 20000 in
theorem ggX4_write_X4_sign : GoodIn wsX4_write wsX4_sign := goodIn_r _ [14, 15, 2, 23, 24, 25, 26, 27, 28, 29] (by decide +kernel) (by decide +kernel)
set_option maxRecDepth 20000 in
theorem gX4_write_X4_sign : GoodIn wsX4_write (wsV RX4 123 RX4 yX4_sign wsX4_sign) := goodIn_app (goodIn_of _ (by decide +kernel)) ggX4_write_X4_sign
set_option maxRecDepth 20000 in
theorem ggX4_write_X3_isZero : GoodIn wsX4_write wsX3_isZero := goodIn_r _ [20, 21, 22, 30, 31, 32, 33] (by decide +kernel) (by decide +kernel)
set_option maxRecDepth 20000 in
theorem gX4_write_X3_isZero : GoodIn wsX4_write (wsV RX4 84 RX3 yX3_isZero wsX3_isZero) := goodIn_app (goodIn_of _ (by decide +kernel)) ggX4_write_X3_isZero
theorem dX4_write_0 : decode cX4_write 0 = .ok (.iload_n 1, 1) := by decide +kernel
theorem dX4_write_1 : decode cX4_write 1 = .ok (.invokestatic 52, 3) := by decide +kernel
theorem dX4_write_4 : decode cX4_write 4 = .ok (.ifCond .ne 5, 3) := by decide +kernel
theorem dX4_write_7 : decode cX4_write 7 = .ok (.iconst (-1), 1) := by decide +kernel
theorem dX4_write_8 : decode cX4_write 8 = .ok (.ireturn, 1) := by decide +kernel
theorem dX4_write_9 : decode cX4_write 9 = .ok (.aload_n 0, 1) := by decide +kernel
theorem dX4_write_10 : decode cX4_write 10 = .ok (.getfield 9, 3) := by decide +kernel
theorem dX4_write_13 : decode cX4_write 13 = .ok (.iload_n 1, 1) := by decide +kernel
theorem dX4_write_14 : decode cX4_write 14 = .ok (.aaload, 1) := by decide +kernel
theorem dX4_write_15 : decode cX4_write 15 = .ok (.astore_n 2, 1) := by decide +kernel
theorem dX4_write_16 : decode cX4_write 16 = .ok (.aload_n 0, 1) := by decide +kernel
theorem dX4_write_17 : decode cX4_write 17 = .ok (.iconst 0, 1) := by decide +kernel
theorem dX4_write_18 : decode cX4_write 18 = .ok (.putfield 120, 3) := by decide +kernel
theorem dX4_write_21 : decode cX4_write 21 = .ok (.aload_n 2, 1) := by decide +kernel
theorem dX4_write_22 : decode cX4_write 22 = .ok (.getfield 61, 3) := by decide +kernel
theorem dX4_write_25 : decode cX4_write 25 = .ok (.ifCond .eq 9, 3) := by decide +kernel
theorem dX4_write_28 : decode cX4_write 28 = .ok (.aload_n 0, 1) := by decide +kernel
theorem dX4_write_29 : decode cX4_write 29 = .ok (.bipush 45, 2) := by decide +kernel
theorem dX4_write_31 : decode cX4_write 31 = .ok (.invokevirtual 123, 3) := by decide +kernel
theorem dX4_write_34 : decode cX4_write 34 = .ok (.aload_n 2, 1) := by decide +kernel
theorem dX4_write_35 : decode cX4_write 35 = .ok (.getfield 37, 3) := by decide +kernel
theorem dX4_write_38 : decode cX4_write 38 = .ok (.aload_n 2, 1) := by decide +kernel
theorem dX4_write_39 : decode cX4_write 39 = .ok (.getfield 41, 3) := by decide +kernel
theorem dX4_write_42 : decode cX4_write 42 = .ok (.if_icmp .le 12, 3) := by decide +kernel
theorem dX4_write_45 : decode cX4_write 45 = .ok (.aload_n 2, 1) := by decide +kernel
theorem dX4_write_46 : decode cX4_write 46 = .ok (.getfield 37, 3) := by decide +kernel
theorem dX4_write_49 : decode cX4_write 49 = .ok (.iconst 1, 1) := by decide +kernel
theorem dX4_write_50 : decode cX4_write 50 = .ok (.isub, 1) := by decide +kernel
theorem dX4_write_51 : decode cX4_write 51 = .ok (.goto 7, 3) := by decide +kernel
theorem dX4_write_54 : decode cX4_write 54 = .ok (.aload_n 2, 1) := by decide +kernel
theorem dX4_write_55 : decode cX4_write 55 = .ok (.getfield 41, 3) := by decide +kernel
theorem dX4_write_58 : decode cX4_write 58 = .ok (.istore_n 3, 1) := by decide +kernel
theorem dX4_write_59 : decode cX4_write 59 = .ok (.iload_n 3, 1) := by decide +kernel
theorem dX4_write_60 : decode cX4_write 60 = .ok (.ifCond .lt 52, 3) := by decide +kernel
theorem dX4_write_63 : decode cX4_write 63 = .ok (.aload_n 0, 1) := by decide +kernel
theorem dX4_write_64 : decode cX4_write 64 = .ok (.bipush 48, 2) := by decide +kernel
theorem dX4_write_66 : decode cX4_write 66 = .ok (.iload_n 3, 1) := by decide +kernel
theorem dX4_write_67 : decode cX4_write 67 = .ok (.aload_n 2, 1) := by decide +kernel
theorem dX4_write_68 : decode cX4_write 68 = .ok (.getfield 37, 3) := by decide +kernel
theorem dX4_write_71 : decode cX4_write 71 = .ok (.if_icmp .ge 12, 3) := by decide +kernel
theorem dX4_write_74 : decode cX4_write 74 = .ok (.aload_n 2, 1) := by decide +kernel
theorem dX4_write_75 : decode cX4_write 75 = .ok (.getfield 58, 3) := by decide +kernel
theorem dX4_write_78 : decode cX4_write 78 = .ok (.iload_n 3, 1) := by decide +kernel
theorem dX4_write_79 : decode cX4_write 79 = .ok (.iaload, 1) := by decide +kernel
theorem dX4_write_80 : decode cX4_write 80 = .ok (.goto 4, 3) := by decide +kernel
theorem dX4_write_83 : decode cX4_write 83 = .ok (.iconst 0, 1) := by decide +kernel
theorem dX4_write_84 : decode cX4_write 84 = .ok (.iadd, 1) := by decide +kernel
theorem dX4_write_85 : decode cX4_write 85 = .ok (.invokevirtual 123, 3) := by decide +kernel
theorem dX4_write_88 : decode cX4_write 88 = .ok (.iload_n 3, 1) := by decide +kernel
theorem dX4_write_89 : decode cX4_write 89 = .ok (.aload_n 2, 1) := by decide +kernel
theorem dX4_write_90 : decode cX4_write 90 = .ok (.getfield 41, 3) := by decide +kernel
theorem dX4_write_93 : decode cX4_write 93 = .ok (.if_icmp .ne 13, 3) := by decide +kernel
theorem dX4_write_96 : decode cX4_write 96 = .ok (.iload_n 3, 1) := by decide +kernel
theorem dX4_write_97 : decode cX4_write 97 = .ok (.ifCond .le 9, 3) := by decide +kernel
theorem dX4_write_100 : decode cX4_write 100 = .ok (.aload_n 0, 1) := by decide +kernel
theorem dX4_write_101 : decode cX4_write 101 = .ok (.bipush 46, 2) := by decide +kernel
theorem dX4_write_103 : decode cX4_write 103 = .ok (.invokevirtual 123, 3) := by decide +kernel
theorem dX4_write_106 : decode cX4_write 106 = .ok (.iinc 3 (-1), 3) := by decide +kernel
theorem dX4_write_109 : decode cX4_write 109 = .ok (.goto (-50), 3) := by decide +kernel
theorem dX4_write_112 : decode cX4_write 112 = .ok (.aload_n 2, 1) := by decide +kernel
theorem dX4_write_113 : decode cX4_write 113 = .ok (.getfield 41, 3) := by decide +kernel
theorem dX4_write_116 : decode cX4_write 116 = .ok (.istore_n 3, 1) := by decide +kernel
theorem dX4_write_117 : decode cX4_write 117 = .ok (.iload_n 3, 1) := by decide +kernel
theorem dX4_write_118 : decode cX4_write 118 = .ok (.ifCond .ge 22, 3) := by decide +kernel
theorem dX4_write_121 : decode cX4_write 121 = .ok (.aload_n 2, 1) := by decide +kernel
theorem dX4_write_122 : decode cX4_write 122 = .ok (.invokevirtual 84, 3) := by decide +kernel
theorem dX4_write_125 : decode cX4_write 125 = .ok (.ifCond .ne 15, 3) := by decide +kernel
theorem dX4_write_128 : decode cX4_write 128 = .ok (.aload_n 0, 1) := by decide +kernel
theorem dX4_write_129 : decode cX4_write 129 = .ok (.bipush 48, 2) := by decide +kernel
theorem dX4_write_131 : decode cX4_write 131 = .ok (.invokevirtual 123, 3) := by decide +kernel
theorem dX4_write_134 : decode cX4_write 134 = .ok (.iinc 3 1, 3) := by decide +kernel
theorem dX4_write_137 : decode cX4_write 137 = .ok (.goto (-20), 3) := by decide +kernel
theorem dX4_write_140 : decode cX4_write 140 = .ok (.aload_n 0, 1) := by decide +kernel
theorem dX4_write_141 : decode cX4_write 141 = .ok (.getfield 120, 3) := by decide +kernel
theorem dX4_write_144 : decode cX4_write 144 = .ok (.ireturn, 1) := by decide +kernel
theorem dX4_octet_0 : decode cX4_octet 0 = .ok (.iload_n 1, 1) := by decide +kernel
theorem dX4_octet_1 : decode cX4_octet 1 = .ok (.ifCond .lt 20, 3) := by decide +kernel
theorem dX4_octet_4 : decode cX4_octet 4 = .ok (.iload_n 1, 1) := by decide +kernel
theorem dX4_octet_5 : decode cX4_octet 5 = .ok (.aload_n 0, 1) := by decide +kernel
theorem dX4_octet_6 : decode cX4_octet 6 = .ok (.getfield 120, 3) := by decide +kernel
theorem dX4_octet_9 : decode cX4_octet 9 = .ok (.if_icmp .ge 12, 3) := by decide +kernel
theorem dX4_octet_12 : decode cX4_octet 12 = .ok (.aload_n 0, 1) := by decide +kernel
theorem dX4_octet_13 : decode cX4_octet 13 = .ok (.getfield 29, 3) := by decide +kernel
theorem dX4_octet_16 : decode cX4_octet 16 = .ok (.iload_n 1, 1) := by decide +kernel
theorem dX4_octet_17 : decode cX4_octet 17 = .ok (.iaload, 1) := by decide +kernel
theorem dX4_octet_18 : decode cX4_octet 18 = .ok (.goto 4, 3) := by decide +kernel
theorem dX4_octet_21 : decode cX4_octet 21 = .ok (.iconst (-1), 1) := by decide +kernel
theorem dX4_octet_22 : decode cX4_octet 22 = .ok (.ireturn, 1) := by decide +kernel
theorem dJ9_floorDiv_f86c9_0 : decode cJ9_floorDiv_f86c9 0 = .ok (.lload_n 0, 1) := by decide +kernel
theorem dJ9_floorDiv_f86c9_1 : decode cJ9_floorDiv_f86c9 1 = .ok (.lload_n 2, 1) := by decide +kernel
theorem dJ9_floorDiv_f86c9_2 : decode cJ9_floorDiv_f86c9 2 = .ok (.ldiv, 1) := by decide +kernel
theorem dJ9_floorDiv_f86c9_3 : decode cJ9_floorDiv_f86c9 3 = .ok (.lstore 4, 2) := by decide +kernel
theorem dJ9_floorDiv_f86c9_5 : decode cJ9_floorDiv_f86c9 5 = .ok (.lload_n 0, 1) := by decide +kernel
theorem dJ9_floorDiv_f86c9_6 : decode cJ9_floorDiv_f86c9 6 = .ok (.lload_n 2, 1) := by decide +kernel
theorem dJ9_floorDiv_f86c9_7 : decode cJ9_floorDiv_f86c9 7 = .ok (.lxor, 1) := by decide +kernel
theorem dJ9_floorDiv_f86c9_8 : decode cJ9_floorDiv_f86c9 8 = .ok (.lconst 0, 1) := by decide +kernel
theorem dJ9_floorDiv_f86c9_9 : decode cJ9_floorDiv_f86c9 9 = .ok (.lcmp, 1) := by decide +kernel
theorem dJ9_floorDiv_f86c9_10 : decode cJ9_floorDiv_f86c9 10 = .ok (.ifCond .ge 17, 3) := by decide +kernel
theorem dJ9_floorDiv_f86c9_13 : decode cJ9_floorDiv_f86c9 13 = .ok (.lload 4, 2) := by decide +kernel
theorem dJ9_floorDiv_f86c9_15 : decode cJ9_floorDiv_f86c9 15 = .ok (.lload_n 2, 1) := by decide +kernel
theorem dJ9_floorDiv_f86c9_16 : decode cJ9_floorDiv_f86c9 16 = .ok (.lmul, 1) := by decide +kernel
theorem dJ9_floorDiv_f86c9_17 : decode cJ9_floorDiv_f86c9 17 = .ok (.lload_n 0, 1) := by decide +kernel
theorem dJ9_floorDiv_f86c9_18 : decode cJ9_floorDiv_f86c9 18 = .ok (.lcmp, 1) := by decide +kernel
theorem dJ9_floorDiv_f86c9_19 : decode cJ9_floorDiv_f86c9 19 = .ok (.ifCond .eq 8, 3) := by decide +kernel
theorem dJ9_floorDiv_f86c9_22 : decode cJ9_floorDiv_f86c9 22 = .ok (.lload 4, 2) := by decide +kernel
theorem dJ9_floorDiv_f86c9_24 : decode cJ9_floorDiv_f86c9 24 = .ok (.lconst 1, 1) := by decide +kernel
theorem dJ9_floorDiv_f86c9_25 : decode cJ9_floorDiv_f86c9 25 = .ok (.lsub, 1) := by decide +kernel
theorem dJ9_floorDiv_f86c9_26 : decode cJ9_floorDiv_f86c9 26 = .ok (.lreturn, 1) := by decide +kernel
theorem dJ9_floorDiv_f86c9_27 : decode cJ9_floorDiv_f86c9 27 = .ok (.lload 4, 2) := by decide +kernel
theorem dJ9_floorDiv_f86c9_29 : decode cJ9_floorDiv_f86c9 29 = .ok (.lreturn, 1) := by decide +kernel
theorem dJ9_abs_067f4_0 : decode cJ9_abs_067f4 0 = .ok (.lload_n 0, 1) := by decide +kernel
theorem dJ9_abs_067f4_1 : decode cJ9_abs_067f4 1 = .ok (.lconst 0, 1) := by decide +kernel
theorem dJ9_abs_067f4_2 : decode cJ9_abs_067f4 2 = .ok (.lcmp, 1) := by decide +kernel
theorem dJ9_abs_067f4_3 : decode cJ9_abs_067f4 3 = .ok (.ifCond .ge 8, 3) := by decide +kernel
theorem dJ9_abs_067f4_6 : decode cJ9_abs_067f4 6 = .ok (.lload_n 0, 1) := by decide +kernel
theorem dJ9_abs_067f4_7 : decode cJ9_abs_067f4 7 = .ok (.lneg, 1) := by decide +kernel
theorem dJ9_abs_067f4_8 : decode cJ9_abs_067f4 8 = .ok (.goto 4, 3) := by decide +kernel
theorem dJ9_abs_067f4_11 : decode cJ9_abs_067f4 11 = .ok (.lload_n 0, 1) := by decide +kernel
theorem dJ9_abs_067f4_12 : decode cJ9_abs_067f4 12 = .ok (.lreturn, 1) := by decide +kernel
theorem dJ9_max_7cf53_0 : decode cJ9_max_7cf53 0 = .ok (.iload_n 0, 1) := by decide +kernel
theorem dJ9_max_7cf53_1 : decode cJ9_max_7cf53 1 = .ok (.iload_n 1, 1) := by decide +kernel
theorem dJ9_max_7cf53_2 : decode cJ9_max_7cf53 2 = .ok (.if_icmp .lt 7, 3) := by decide +kernel
theorem dJ9_max_7cf53_5 : decode cJ9_max_7cf53 5 = .ok (.iload_n 0, 1) := by decide +kernel
theorem dJ9_max_7cf53_6 : decode cJ9_max_7cf53 6 = .ok (.goto 4, 3) := by decide +kernel
theorem dJ9_max_7cf53_9 : decode cJ9_max_7cf53 9 = .ok (.iload_n 1, 1) := by decide +kernel
theorem dJ9_max_7cf53_10 : decode cJ9_max_7cf53 10 = .ok (.ireturn, 1) := by decide +kernel
set_option maxRecDepth 20000 in
theorem ggL_law_X2_init : GoodIn wsL_law wsX2_init := goodIn_r _ [9, 10, 11, 12, 13, 14, 15, 16, 17, 18, 19, 20, 21, 22, 23, 24, 25, 26, 27, 28, 29, 30, 31, 32, 33, 34, 35, 36, 37, 38, 39, 40, 41, 42, 43, 44, 45, 46, 47, 48, 49, 50, 51, 458, 459, 460, 461, 462, 463, 464, 472, 473, 474, 475, 476] (by decide +kernel) (by decide +kernel)
set_option maxRecDepth 20000 in
theorem gL_law_X2_init : GoodIn wsL_law (wsX2_init) := ggL_law_X2_init
set_option maxRecDepth 20000 in
theorem ggL_law_X4_init : GoodIn wsL_law wsX4_init := goodIn_r _ [54, 55, 11, 12, 56, 57, 58, 59, 60, 61, 62, 63, 64, 65, 66, 67, 68, 69, 70, 465, 466, 467, 468, 469, 470, 471, 477, 478, 479, 480] (by decide +kernel) (by decide +kernel)
set_option maxRecDepth 20000 in
theorem gL_law_X4_init : GoodIn wsL_law (wsX4_init) := ggL_law_X4_init
set_option maxRecDepth 20000 in
theorem ggL_law_X2_load : GoodIn wsL_law wsX2_load := goodIn_r _ [74, 17, 19, 75, 76, 77, 78, 2, 79, 38, 39, 40, 22, 41, 37, 42, 43, 44, 45, 46, 47, 48, 49, 50, 51, 80, 81, 82, 83, 14, 84, 85, 86, 87, 88, 89, 90, 91, 92, 93, 94, 95, 96, 97, 98, 99, 100, 101, 102, 16, 103, 32, 104, 105, 106, 107, 108, 109, 110, 111, 112, 113, 114, 115, 116, 117, 118, 119, 120, 121, 458, 459, 460, 461, 462, 463, 464, 472, 473, 474, 475, 476] (by decide +kernel) (by decide +kernel)
set_option maxRecDepth 20000 in
theorem gL_law_X2_load : GoodIn wsL_law (wsV RL 15 RX2 yX2_load wsX2_load) := goodIn_app (goodIn_of _ (by decide +kernel)) ggL_law_X2_load
set_option maxRecDepth 20000 in
theorem ggL_law_X4_load : GoodIn wsL_law wsX4_load := goodIn_r _ [125, 57, 126, 127, 128, 129, 130, 131, 132, 5, 133, 134, 135, 136, 137, 138, 465, 466, 467, 468, 469, 470, 471, 477, 478, 479, 480] (by decide +kernel) (by decide +kernel)
set_option maxRecDepth 20000 in
theorem gL_law_X4_load : GoodIn wsL_law (wsV RL 19 RX4 yX4_load wsX4_load) := goodIn_app (goodIn_of _ (by decide +kernel)) ggL_law_X4_load
set_option maxRecDepth 20000 in
theorem ggL_law_X2_push : GoodIn wsL_law wsX2_push := goodIn_r _ [142, 17, 14, 19, 23, 143, 77, 78, 2, 79, 100, 101, 102, 16, 103, 32, 104, 105, 106, 107, 108, 109, 110, 111, 112, 22, 113, 37, 114, 115, 116, 117, 47, 118, 119, 120, 121, 144, 145, 146, 147, 95, 42, 148, 149, 150, 151, 152, 153, 154, 155, 38, 39, 40, 41, 43, 44, 45, 46, 48, 49, 50, 51, 156, 157, 158, 159, 88, 89, 90, 80, 81, 82, 83, 76, 84, 85, 86, 87, 91, 92, 93, 94, 96, 97, 98, 99, 458, 459, 460, 461, 462, 463, 464, 472, 473, 474, 475, 476] (by decide +kernel) (by decide +kernel)
set_option maxRecDepth 20000 in
theorem gL_law_X2_push : GoodIn wsL_law (wsV RL 20 RX2 yX2_push wsX2_push) := goodIn_app (goodIn_of _ (by decide +kernel)) ggL_law_X2_push
set_option maxRecDepth 20000 in
theorem ggL_law_X4_push : GoodIn wsL_law wsX4_push := goodIn_r _ [163, 60, 57, 126, 128, 127, 131, 132, 5, 133, 164, 165, 166, 59, 167, 70, 168, 169, 69, 170, 171, 172, 173, 174, 175, 176, 177, 178, 179, 180, 181, 130, 134, 135, 136, 137, 138, 465, 466, 467, 468, 469, 470, 471, 477, 478, 479, 480] (by decide +kernel) (by decide +kernel)
set_option maxRecDepth 20000 in
theorem gL_law_X4_push : GoodIn wsL_law (wsV RL 24 RX4 yX4_push wsX4_push) := goodIn_app (goodIn_of _ (by decide +kernel)) ggL_law_X4_push
set_option maxRecDepth 20000 in
theorem ggL_law_X2_reckon : GoodIn wsL_law wsX2_reckon := goodIn_r _ [185, 14, 75, 17, 77, 78, 2, 79, 186, 187, 188, 189, 76, 190, 89, 45, 90, 23, 24, 191, 192, 193, 194, 19, 195, 111, 112, 22, 113, 37, 114, 115, 116, 117, 47, 144, 145, 146, 147, 95, 42, 148, 149, 150, 151, 152, 153, 154, 155, 156, 157, 158, 159, 88, 196, 107, 108, 16, 109, 32, 104, 105, 110, 118, 119, 120, 121, 197, 198, 199, 200, 201, 202, 203, 204, 205, 206, 207, 208, 209, 210, 211, 212, 213, 214, 215, 216, 48, 49, 50, 51, 217, 218, 219, 220, 221, 222, 223, 224, 100, 101, 102, 103, 106, 80, 81, 82, 83, 84, 85, 86, 87, 91, 92, 93, 94, 96, 97, 98, 99, 458, 459, 460, 461, 462, 463, 464, 472, 473, 474, 475, 476] (by decide +kernel) (by decide +kernel)
set_option maxRecDepth 20000 in
theorem gL_law_X2_reckon : GoodIn wsL_law (wsV RL 25 RX2 yX2_reckon wsX2_reckon) := goodIn_app (goodIn_of _ (by decide +kernel)) ggL_law_X2_reckon
set_option maxRecDepth 20000 in
theorem ggL_law_X4_reckon : GoodIn wsL_law wsX4_reckon := goodIn_r _ [228, 60, 57, 62, 131, 132, 5, 133, 229, 230, 231, 232, 129, 61, 233, 234, 235, 236, 130, 164, 165, 166, 59, 167, 70, 168, 169, 69, 237, 238, 239, 240, 174, 175, 176, 177, 241, 242, 243, 126, 128, 178, 179, 180, 181, 134, 135, 136, 137, 138, 244, 245, 246, 170, 171, 172, 173, 247, 248, 249, 250, 251, 465, 466, 467, 468, 469, 470, 471, 477, 478, 479, 480] (by decide +kernel) (by decide +kernel)
set_option maxRecDepth 20000 in
theorem gL_law_X4_reckon : GoodIn wsL_law (wsV RL 29 RX4 yX4_reckon wsX4_reckon) := goodIn_app (goodIn_of _ (by decide +kernel)) ggL_law_X4_reckon
set_option maxRecDepth 20000 in
theorem ggL_law_X2_divide : GoodIn wsL_law wsX2_divide := goodIn_r _ [255, 14, 19, 77, 78, 2, 79, 256, 257, 258, 259, 119, 120, 22, 121, 47, 260, 261, 262, 263, 97, 98, 99, 264, 265, 266, 267, 23, 24, 17, 75, 76, 191, 192, 193, 194, 195, 111, 112, 113, 37, 114, 115, 116, 117, 144, 145, 146, 147, 95, 42, 148, 149, 150, 151, 152, 153, 154, 155, 268, 269, 270, 271, 272, 48, 49, 50, 51, 273, 274, 275, 276, 277, 278, 279, 280, 281, 282, 283, 284, 205, 206, 207, 208, 285, 286, 287, 288, 18, 156, 157, 158, 159, 88, 89, 45, 90, 197, 198, 199, 200, 289, 290, 291, 292, 293, 92, 93, 94, 96, 80, 81, 82, 83, 84, 85, 86, 87, 91, 100, 101, 102, 16, 103, 32, 104, 105, 106, 107, 108, 109, 110, 118, 458, 459, 460, 461, 462, 463, 464, 472, 473, 474, 475, 476] (by decide +kernel) (by decide +kernel)
set_option maxRecDepth 20000 in
theorem gL_law_X2_divide : GoodIn wsL_law (wsV RL 30 RX2 yX2_divide wsX2_divide) := goodIn_app (goodIn_of _ (by decide +kernel)) ggL_law_X2_divide
set_option maxRecDepth 20000 in
theorem ggL_law_X4_divide : GoodIn wsL_law wsX4_divide := goodIn_r _ [297, 57, 60, 61, 129, 130, 126, 128, 62, 131, 132, 5, 133, 251, 175, 176, 59, 177, 70, 69, 134, 135, 136, 137, 138, 164, 165, 166, 167, 168, 169, 237, 238, 239, 240, 174, 298, 299, 300, 301, 63, 241, 242, 243, 302, 303, 304, 305, 306, 307, 308, 170, 171, 172, 173, 178, 179, 180, 181, 465, 466, 467, 468, 469, 470, 471, 477, 478, 479, 480] (by decide +kernel) (by decide +kernel)
set_option maxRecDepth 20000 in
theorem gL_law_X4_divide : GoodIn wsL_law (wsV RL 34 RX4 yX4_divide wsX4_divide) := goodIn_app (goodIn_of _ (by decide +kernel)) ggL_law_X4_divide
set_option maxRecDepth 20000 in
theorem ggL_law_X2_part : GoodIn wsL_law wsX2_part := goodIn_r _ [312, 14, 19, 75, 76, 190, 89, 45, 90, 23, 77, 78, 2, 79, 259, 119, 120, 22, 121, 47, 264, 265, 266, 267, 24, 17, 191, 192, 193, 194, 195, 111, 112, 113, 37, 114, 115, 116, 117, 144, 145, 146, 147, 95, 42, 148, 149, 150, 151, 152, 153, 154, 155, 268, 269, 270, 271, 272, 48, 49, 50, 51, 273, 274, 275, 276, 277, 278, 279, 280, 281, 282, 283, 284, 205, 206, 207, 208, 80, 81, 82, 83, 84, 85, 86, 87, 88, 91, 92, 93, 94, 96, 97, 98, 99, 100, 101, 102, 16, 103, 32, 104, 105, 106, 107, 108, 109, 110, 118, 196, 458, 459, 460, 461, 462, 463, 464, 472, 473, 474, 475, 476] (by decide +kernel) (by decide +kernel)
set_option maxRecDepth 20000 in
theorem gL_law_X2_part : GoodIn wsL_law (wsV RL 35 RX2 yX2_part wsX2_part) := goodIn_app (goodIn_of _ (by decide +kernel)) ggL_law_X2_part
set_option maxRecDepth 20000 in
theorem ggL_law_X4_part : GoodIn wsL_law wsX4_part := goodIn_r _ [316, 57, 60, 129, 62, 61, 130, 126, 131, 132, 5, 133, 251, 175, 176, 59, 177, 70, 69, 233, 234, 235, 236, 164, 165, 166, 167, 168, 169, 237, 238, 239, 240, 174, 298, 299, 300, 301, 63, 128, 241, 242, 243, 170, 171, 172, 173, 465, 466, 467, 468, 469, 470, 471, 477, 478, 479, 480] (by decide +kernel) (by decide +kernel)
set_option maxRecDepth 20000 in
theorem gL_law_X4_part : GoodIn wsL_law (wsV RL 38 RX4 yX4_part wsX4_part) := goodIn_app (goodIn_of _ (by decide +kernel)) ggL_law_X4_part
set_option maxRecDepth 20000 in
theorem ggL_law_X2_scale : GoodIn wsL_law wsX2_scale := goodIn_r _ [320, 14, 18, 77, 78, 2, 79, 256, 257, 258, 260, 261, 262, 263, 97, 98, 99, 264, 265, 266, 267, 23, 24, 17, 19, 75, 76, 191, 192, 193, 194, 195, 111, 112, 22, 113, 37, 114, 115, 116, 117, 47, 144, 145, 146, 147, 95, 42, 148, 149, 150, 151, 152, 153, 154, 155, 268, 269, 270, 271, 272, 48, 49, 50, 51, 273, 274, 275, 276, 277, 278, 279, 280, 281, 282, 283, 284, 205, 206, 207, 208, 285, 286, 287, 288, 259, 119, 120, 121, 156, 157, 158, 159, 88, 89, 45, 90, 197, 198, 199, 200, 289, 290, 291, 292, 293, 92, 93, 94, 96, 80, 81, 82, 83, 84, 85, 86, 87, 91, 100, 101, 102, 16, 103, 32, 104, 105, 106, 107, 108, 109, 110, 118, 458, 459, 460, 461, 462, 463, 464, 472, 473, 474, 475, 476] (by decide +kernel) (by decide +kernel)
set_option maxRecDepth 20000 in
theorem gL_law_X2_scale : GoodIn wsL_law (wsV RL 39 RX2 yX2_scale wsX2_scale) := goodIn_app (goodIn_of _ (by decide +kernel)) ggL_law_X2_scale
set_option maxRecDepth 20000 in
theorem ggL_law_X4_scale : GoodIn wsL_law wsX4_scale := goodIn_r _ [324, 60, 57, 130, 131, 132, 5, 133, 134, 135, 136, 137, 138, 164, 165, 166, 59, 167, 70, 168, 169, 69, 237, 238, 239, 240, 174, 175, 176, 177, 325, 326, 327, 328, 126, 128, 129, 329, 330, 331, 332, 302, 303, 304, 305, 306, 307, 308, 170, 171, 172, 173, 178, 179, 180, 181, 465, 466, 467, 468, 469, 470, 471, 477, 478, 479, 480] (by decide +kernel) (by decide +kernel)
set_option maxRecDepth 20000 in
theorem gL_law_X4_scale : GoodIn wsL_law (wsV RL 42 RX4 yX4_scale wsX4_scale) := goodIn_app (goodIn_of _ (by decide +kernel)) ggL_law_X4_scale
set_option maxRecDepth 20000 in
theorem ggL_law_X2_round : GoodIn wsL_law wsX2_round := goodIn_r _ [336, 14, 19, 17, 77, 78, 2, 79, 256, 257, 258, 84, 85, 86, 22, 87, 47, 88, 89, 45, 90, 91, 92, 93, 94, 37, 95, 96, 100, 101, 102, 16, 103, 32, 104, 105, 106, 107, 108, 109, 110, 111, 112, 113, 114, 115, 116, 117, 118, 119, 120, 121, 337, 338, 339, 340, 18, 76, 264, 265, 266, 267, 23, 24, 75, 191, 192, 193, 194, 195, 144, 145, 146, 147, 42, 148, 149, 150, 151, 152, 153, 154, 155, 268, 269, 270, 271, 272, 48, 49, 50, 51, 273, 274, 275, 276, 277, 278, 279, 280, 281, 282, 283, 284, 205, 206, 207, 208, 285, 286, 287, 288, 259, 156, 157, 158, 159, 197, 198, 199, 200, 289, 290, 291, 292, 293, 80, 81, 82, 83, 97, 98, 99, 458, 459, 460, 461, 462, 463, 464, 472, 473, 474, 475, 476] (by decide +kernel) (by decide +kernel)
set_option maxRecDepth 20000 in
theorem gL_law_X2_round : GoodIn wsL_law (wsV RL 43 RX2 yX2_round wsX2_round) := goodIn_app (goodIn_of _ (by decide +kernel)) ggL_law_X2_round
set_option maxRecDepth 20000 in
theorem ggL_law_X4_round : GoodIn wsL_law wsX4_round := goodIn_r _ [344, 57, 126, 60, 130, 131, 132, 5, 133, 164, 165, 166, 59, 167, 70, 168, 169, 69, 325, 326, 327, 328, 128, 129, 329, 330, 331, 332, 302, 303, 304, 305, 306, 307, 308, 178, 179, 180, 181, 134, 135, 136, 137, 138, 465, 466, 467, 468, 469, 470, 471, 477, 478, 479, 480] (by decide +kernel) (by decide +kernel)
set_option maxRecDepth 20000 in
theorem gL_law_X4_round : GoodIn wsL_law (wsV RL 46 RX4 yX4_round wsX4_round) := goodIn_app (goodIn_of _ (by decide +kernel)) ggL_law_X4_round
set_option maxRecDepth 20000 in
theorem ggL_law_X2_turn : GoodIn wsL_law wsX2_turn := goodIn_r _ [348, 17, 14, 75, 77, 78, 2, 79, 100, 101, 102, 16, 103, 32, 104, 105, 106, 107, 108, 109, 110, 111, 112, 22, 113, 37, 114, 115, 116, 117, 47, 118, 119, 120, 121, 349, 350, 351, 352, 19, 76, 259, 353, 354, 355, 356, 91, 92, 93, 94, 95, 96, 337, 338, 339, 340, 18, 264, 265, 266, 267, 23, 24, 191, 192, 193, 194, 195, 144, 145, 146, 147, 42, 148, 149, 150, 151, 152, 153, 154, 155, 268, 269, 270, 271, 272, 48, 49, 50, 51, 273, 274, 275, 276, 277, 278, 279, 280, 281, 282, 283, 284, 205, 206, 207, 208, 80, 81, 82, 83, 84, 85, 86, 87, 88, 89, 45, 90, 97, 98, 99, 458, 459, 460, 461, 462, 463, 464, 472, 473, 474, 475, 476] (by decide +kernel) (by decide +kernel)
set_option maxRecDepth 20000 in
theorem gL_law_X2_turn : GoodIn wsL_law (wsV RL 47 RX2 yX2_turn wsX2_turn) := goodIn_app (goodIn_of _ (by decide +kernel)) ggL_law_X2_turn
set_option maxRecDepth 20000 in
theorem ggL_law_X4_turn : GoodIn wsL_law wsX4_turn := goodIn_r _ [360, 60, 57, 129, 126, 128, 130, 131, 132, 5, 133, 164, 165, 166, 59, 167, 70, 168, 169, 69, 251, 175, 176, 177, 325, 326, 327, 328, 329, 330, 331, 332, 302, 303, 304, 305, 306, 307, 308, 178, 179, 180, 181, 134, 135, 136, 137, 138, 465, 466, 467, 468, 469, 470, 471, 477, 478, 479, 480] (by decide +kernel) (by decide +kernel)
set_option maxRecDepth 20000 in
theorem gL_law_X4_turn : GoodIn wsL_law (wsV RL 51 RX4 yX4_turn wsX4_turn) := goodIn_app (goodIn_of _ (by decide +kernel)) ggL_law_X4_turn
set_option maxRecDepth 20000 in
theorem ggL_law_X2_move : GoodIn wsL_law wsX2_move := goodIn_r _ [364, 17, 14, 76, 19, 77, 78, 2, 79, 100, 101, 102, 16, 103, 32, 104, 105, 106, 107, 108, 109, 110, 111, 112, 22, 113, 37, 114, 115, 116, 117, 47, 118, 119, 120, 121, 144, 145, 146, 147, 95, 42, 148, 149, 150, 151, 152, 153, 154, 155, 80, 81, 82, 83, 84, 85, 86, 87, 88, 89, 45, 90, 91, 92, 93, 94, 96, 97, 98, 99, 458, 459, 460, 461, 462, 463, 464, 472, 473, 474, 475, 476] (by decide +kernel) (by decide +kernel)
set_option maxRecDepth 20000 in
theorem gL_law_X2_move : GoodIn wsL_law (wsV RL 52 RX2 yX2_move wsX2_move) := goodIn_app (goodIn_of _ (by decide +kernel)) ggL_law_X2_move
set_option maxRecDepth 20000 in
theorem ggL_law_X4_move : GoodIn wsL_law wsX4_move := goodIn_r _ [368, 60, 57, 130, 131, 132, 5, 133, 164, 165, 166, 59, 167, 70, 168, 169, 69, 237, 238, 239, 240, 174, 175, 176, 177, 178, 179, 180, 181, 126, 134, 135, 136, 137, 138, 465, 466, 467, 468, 469, 470, 471, 477, 478, 479, 480] (by decide +kernel) (by decide +kernel)
set_option maxRecDepth 20000 in
theorem gL_law_X4_move : GoodIn wsL_law (wsV RL 55 RX4 yX4_move wsX4_move) := goodIn_app (goodIn_of _ (by decide +kernel)) ggL_law_X4_move
set_option maxRecDepth 20000 in
theorem ggL_law_X2_power : GoodIn wsL_law wsX2_power := goodIn_r _ [372, 14, 19, 17, 18, 77, 78, 2, 79, 84, 85, 86, 22, 87, 47, 88, 89, 45, 90, 91, 92, 93, 94, 37, 95, 96, 100, 101, 102, 16, 103, 32, 104, 105, 106, 107, 108, 109, 110, 111, 112, 113, 114, 115, 116, 117, 118, 119, 120, 121, 209, 210, 211, 212, 23, 75, 76, 213, 214, 215, 216, 42, 48, 49, 50, 51, 205, 206, 207, 208, 196, 80, 81, 82, 83, 97, 98, 99, 458, 459, 460, 461, 462, 463, 464, 472, 473, 474, 475, 476] (by decide +kernel) (by decide +kernel)
set_option maxRecDepth 20000 in
theorem gL_law_X2_power : GoodIn wsL_law (wsV RL 56 RX2 yX2_power wsX2_power) := goodIn_app (goodIn_of _ (by decide +kernel)) ggL_law_X2_power
set_option maxRecDepth 20000 in
theorem ggL_law_X4_power : GoodIn wsL_law wsX4_power := goodIn_r _ [376, 57, 126, 60, 128, 130, 62, 131, 132, 5, 133, 377, 378, 379, 59, 380, 70, 69, 168, 244, 245, 246, 129, 170, 171, 172, 173, 174, 175, 176, 177, 164, 165, 166, 167, 169, 178, 179, 180, 181, 134, 135, 136, 137, 138, 465, 466, 467, 468, 469, 470, 471, 477, 478, 479, 480] (by decide +kernel) (by decide +kernel)
set_option maxRecDepth 20000 in
theorem gL_law_X4_power : GoodIn wsL_law (wsV RL 59 RX4 yX4_power wsX4_power) := goodIn_app (goodIn_of _ (by decide +kernel)) ggL_law_X4_power
set_option maxRecDepth 20000 in
theorem ggL_law_X2_compare : GoodIn wsL_law wsX2_compare := goodIn_r _ [384, 14, 77, 78, 2, 79, 217, 218, 219, 220, 75, 24, 23, 221, 222, 223, 16, 224, 32, 104, 118, 119, 120, 22, 121, 47, 191, 192, 193, 194, 76, 19, 195, 111, 112, 113, 37, 114, 115, 116, 117, 144, 145, 146, 147, 95, 42, 148, 149, 150, 151, 152, 153, 154, 155, 197, 198, 199, 200, 458, 459, 460, 461, 462, 463, 464, 472, 473, 474, 475, 476] (by decide +kernel) (by decide +kernel)
set_option maxRecDepth 20000 in
theorem gL_law_X2_compare : GoodIn wsL_law (wsV RL 60 RX2 yX2_compare wsX2_compare) := goodIn_app (goodIn_of _ (by decide +kernel)) ggL_law_X2_compare
set_option maxRecDepth 20000 in
theorem ggL_law_X4_compare : GoodIn wsL_law wsX4_compare := goodIn_r _ [388, 131, 132, 5, 133, 229, 230, 231, 232, 60, 129, 61, 233, 234, 235, 236, 57, 130, 164, 165, 166, 59, 167, 70, 168, 169, 69, 237, 238, 239, 240, 174, 175, 176, 177, 241, 242, 243, 126, 128, 465, 466, 467, 468, 469, 470, 471, 477, 478, 479, 480] (by decide +kernel) (by decide +kernel)
set_option maxRecDepth 20000 in
theorem gL_law_X4_compare : GoodIn wsL_law (wsV RL 64 RX4 yX4_compare wsX4_compare) := goodIn_app (goodIn_of _ (by decide +kernel)) ggL_law_X4_compare
set_option maxRecDepth 20000 in
theorem ggL_law_X2_same : GoodIn wsL_law wsX2_same := goodIn_r _ [392, 14, 76, 75, 19, 77, 78, 2, 79, 197, 198, 199, 22, 200, 47, 37, 458, 459, 460, 461, 462, 463, 464, 472, 473, 474, 475, 476] (by decide +kernel) (by decide +kernel)
set_option maxRecDepth 20000 in
theorem gL_law_X2_same : GoodIn wsL_law (wsV RL 65 RX2 yX2_same wsX2_same) := goodIn_app (goodIn_of _ (by decide +kernel)) ggL_law_X2_same
set_option maxRecDepth 20000 in
theorem ggL_law_X4_same : GoodIn wsL_law wsX4_same := goodIn_r _ [396, 57, 129, 130, 131, 132, 5, 133, 241, 242, 243, 126, 128, 465, 466, 467, 468, 469, 470, 471, 477, 478, 479, 480] (by decide +kernel) (by decide +kernel)
set_option maxRecDepth 20000 in
theorem gL_law_X4_same : GoodIn wsL_law (wsV RL 69 RX4 yX4_same wsX4_same) := goodIn_app (goodIn_of _ (by decide +kernel)) ggL_law_X4_same
set_option maxRecDepth 20000 in
theorem ggL_law_X2_look : GoodIn wsL_law wsX2_look := goodIn_r _ [400, 14, 19, 76, 77, 78, 2, 79, 221, 222, 223, 16, 224, 32, 104, 118, 119, 120, 22, 121, 47, 84, 85, 86, 87, 88, 89, 45, 90, 91, 92, 93, 94, 37, 95, 96, 458, 459, 460, 461, 462, 463, 464, 472, 473, 474, 475, 476] (by decide +kernel) (by decide +kernel)
set_option maxRecDepth 20000 in
theorem gL_law_X2_look : GoodIn wsL_law (wsV RL 70 RX2 yX2_look wsX2_look) := goodIn_app (goodIn_of _ (by decide +kernel)) ggL_law_X2_look
set_option maxRecDepth 20000 in
theorem ggL_law_X4_look : GoodIn wsL_law wsX4_look := goodIn_r _ [404, 57, 129, 126, 130, 131, 132, 5, 133, 251, 175, 176, 59, 177, 70, 69, 465, 466, 467, 468, 469, 470, 471, 477, 478, 479, 480] (by decide +kernel) (by decide +kernel)
set_option maxRecDepth 20000 in
theorem gL_law_X4_look : GoodIn wsL_law (wsV RL 73 RX4 yX4_look wsX4_look) := goodIn_app (goodIn_of _ (by decide +kernel)) ggL_law_X4_look
set_option maxRecDepth 20000 in
theorem ggL_law_X2_digit : GoodIn wsL_law wsX2_digit := goodIn_r _ [408, 14, 19, 77, 78, 2, 79, 84, 85, 86, 22, 87, 47, 88, 89, 45, 90, 91, 92, 93, 94, 37, 95, 96, 293, 458, 459, 460, 461, 462, 463, 464, 472, 473, 474, 475, 476] (by decide +kernel) (by decide +kernel)
set_option maxRecDepth 20000 in
theorem gL_law_X2_digit : GoodIn wsL_law (wsV RL 74 RX2 yX2_digit wsX2_digit) := goodIn_app (goodIn_of _ (by decide +kernel)) ggL_law_X2_digit
set_option maxRecDepth 20000 in
theorem ggL_law_X4_digit : GoodIn wsL_law wsX4_digit := goodIn_r _ [412, 57, 126, 128, 131, 132, 5, 133, 465, 466, 467, 468, 469, 470, 471, 477, 478, 479, 480] (by decide +kernel) (by decide +kernel)
set_option maxRecDepth 20000 in
theorem gL_law_X4_digit : GoodIn wsL_law (wsV RL 77 RX4 yX4_digit wsX4_digit) := goodIn_app (goodIn_of _ (by decide +kernel)) ggL_law_X4_digit
set_option maxRecDepth 20000 in
theorem ggL_law_X2_whole : GoodIn wsL_law wsX2_whole := goodIn_r _ [416, 14, 18, 17, 19, 75, 77, 78, 2, 79, 264, 265, 266, 267, 23, 24, 76, 191, 192, 193, 194, 195, 111, 112, 22, 113, 37, 114, 115, 116, 117, 47, 144, 145, 146, 147, 95, 42, 148, 149, 150, 151, 152, 153, 154, 155, 268, 269, 270, 271, 272, 48, 49, 50, 51, 273, 274, 275, 276, 277, 278, 279, 280, 281, 282, 283, 284, 205, 206, 207, 208, 417, 418, 419, 420, 458, 459, 460, 461, 462, 463, 464, 472, 473, 474, 475, 476] (by decide +kernel) (by decide +kernel)
set_option maxRecDepth 20000 in
theorem gL_law_X2_whole : GoodIn wsL_law (wsV RL 78 RX2 yX2_whole wsX2_whole) := goodIn_app (goodIn_of _ (by decide +kernel)) ggL_law_X2_whole
set_option maxRecDepth 20000 in
theorem ggL_law_X4_whole : GoodIn wsL_law wsX4_whole := goodIn_r _ [424, 57, 130, 126, 127, 128, 129, 131, 132, 5, 133, 465, 466, 467, 468, 469, 470, 471, 477, 478, 479, 480] (by decide +kernel) (by decide +kernel)
set_option maxRecDepth 20000 in
theorem gL_law_X4_whole : GoodIn wsL_law (wsV RL 82 RX4 yX4_whole wsX4_whole) := goodIn_app (goodIn_of _ (by decide +kernel)) ggL_law_X4_whole
set_option maxRecDepth 20000 in
theorem ggL_law_X2_write : GoodIn wsL_law wsX2_write := goodIn_r _ [428, 14, 27, 75, 19, 76, 77, 78, 2, 79, 429, 430, 431, 432, 26, 433, 434, 435, 436, 190, 89, 45, 90, 84, 85, 86, 22, 87, 47, 88, 91, 92, 93, 94, 37, 95, 96, 293, 259, 119, 120, 121, 437, 438, 439, 440, 458, 459, 460, 461, 462, 463, 464, 472, 473, 474, 475, 476] (by decide +kernel) (by decide +kernel)
set_option maxRecDepth 20000 in
theorem gL_law_X2_write : GoodIn wsL_law (wsV RL 83 RX2 yX2_write wsX2_write) := goodIn_app (goodIn_of _ (by decide +kernel)) ggL_law_X2_write
set_option maxRecDepth 20000 in
theorem ggL_law_X4_write : GoodIn wsL_law wsX4_write := goodIn_r _ [444, 57, 445, 129, 126, 130, 128, 131, 132, 5, 133, 446, 447, 448, 449, 65, 251, 175, 176, 59, 177, 70, 69, 465, 466, 467, 468, 469, 470, 471, 477, 478, 479, 480] (by decide +kernel) (by decide +kernel)
set_option maxRecDepth 20000 in
theorem gL_law_X4_write : GoodIn wsL_law (wsV RL 87 RX4 yX4_write wsX4_write) := goodIn_app (goodIn_of _ (by decide +kernel)) ggL_law_X4_write
set_option maxRecDepth 20000 in
theorem ggL_law_X2_octet : GoodIn wsL_law wsX2_octet := goodIn_r _ [453, 27, 26, 458, 459, 460, 461, 462, 463, 464] (by decide +kernel) (by decide +kernel)
set_option maxRecDepth 20000 in
theorem gL_law_X2_octet : GoodIn wsL_law (wsV RL 88 RX2 yX2_octet wsX2_octet) := goodIn_app (goodIn_of _ (by decide +kernel)) ggL_law_X2_octet
set_option maxRecDepth 20000 in
theorem ggL_law_X4_octet : GoodIn wsL_law wsX4_octet := goodIn_r _ [457, 445, 65, 465, 466, 467, 468, 469, 470, 471] (by decide +kernel) (by decide +kernel)
set_option maxRecDepth 20000 in
theorem gL_law_X4_octet : GoodIn wsL_law (wsV RL 91 RX4 yX4_octet wsX4_octet) := goodIn_app (goodIn_of _ (by decide +kernel)) ggL_law_X4_octet
theorem dL_law_0 : decode cL_law 0 = .ok (.new 7, 3) := by decide +kernel
theorem dL_law_3 : decode cL_law 3 = .ok (.dup, 1) := by decide +kernel
theorem dL_law_4 : decode cL_law 4 = .ok (.invokespecial 9, 3) := by decide +kernel
theorem dL_law_7 : decode cL_law 7 = .ok (.astore_n 1, 1) := by decide +kernel
theorem dL_law_8 : decode cL_law 8 = .ok (.new 10, 3) := by decide +kernel
theorem dL_law_11 : decode cL_law 11 = .ok (.dup, 1) := by decide +kernel
theorem dL_law_12 : decode cL_law 12 = .ok (.invokespecial 12, 3) := by decide +kernel
theorem dL_law_15 : decode cL_law 15 = .ok (.astore_n 2, 1) := by decide +kernel
theorem dL_law_16 : decode cL_law 16 = .ok (.iconst 0, 1) := by decide +kernel
theorem dL_law_17 : decode cL_law 17 = .ok (.istore_n 3, 1) := by decide +kernel
theorem dL_law_18 : decode cL_law 18 = .ok (.iload_n 3, 1) := by decide +kernel
theorem dL_law_19 : decode cL_law 19 = .ok (.aload_n 0, 1) := by decide +kernel
theorem dL_law_20 : decode cL_law 20 = .ok (.arraylength, 1) := by decide +kernel
theorem dL_law_21 : decode cL_law 21 = .ok (.bipush 6, 2) := by decide +kernel
theorem dL_law_23 : decode cL_law 23 = .ok (.isub, 1) := by decide +kernel
theorem dL_law_24 : decode cL_law 24 = .ok (.if_icmp .gt 850, 3) := by decide +kernel
theorem dL_law_27 : decode cL_law 27 = .ok (.aload_n 0, 1) := by decide +kernel
theorem dL_law_28 : decode cL_law 28 = .ok (.iload_n 3, 1) := by decide +kernel
theorem dL_law_29 : decode cL_law 29 = .ok (.iaload, 1) := by decide +kernel
theorem dL_law_30 : decode cL_law 30 = .ok (.bipush 31, 2) := by decide +kernel
theorem dL_law_32 : decode cL_law 32 = .ok (.iand, 1) := by decide +kernel
theorem dL_law_33 : decode cL_law 33 = .ok (.tableswitch 835 0 16 #[83, 156, 219, 272, 335, 388, 441, 494, 537, 590, 633, 666, 699, 732, 765, 789, 812], 83) := by decide +kernel
theorem dL_law_116 : decode cL_law 116 = .ok (.aload_n 1, 1) := by decide +kernel
theorem dL_law_117 : decode cL_law 117 = .ok (.aload_n 0, 1) := by decide +kernel
theorem dL_law_118 : decode cL_law 118 = .ok (.iload_n 3, 1) := by decide +kernel
theorem dL_law_119 : decode cL_law 119 = .ok (.iconst 1, 1) := by decide +kernel
theorem dL_law_120 : decode cL_law 120 = .ok (.iadd, 1) := by decide +kernel
theorem dL_law_121 : decode cL_law 121 = .ok (.iaload, 1) := by decide +kernel
theorem dL_law_122 : decode cL_law 122 = .ok (.aload_n 0, 1) := by decide +kernel
theorem dL_law_123 : decode cL_law 123 = .ok (.iload_n 3, 1) := by decide +kernel
theorem dL_law_124 : decode cL_law 124 = .ok (.iconst 2, 1) := by decide +kernel
theorem dL_law_125 : decode cL_law 125 = .ok (.iadd, 1) := by decide +kernel
theorem dL_law_126 : decode cL_law 126 = .ok (.iaload, 1) := by decide +kernel
theorem dL_law_127 : decode cL_law 127 = .ok (.i2l, 1) := by decide +kernel
theorem dL_law_128 : decode cL_law 128 = .ok (.bipush 32, 2) := by decide +kernel
theorem dL_law_130 : decode cL_law 130 = .ok (.lshl, 1) := by decide +kernel
theorem dL_law_131 : decode cL_law 131 = .ok (.aload_n 0, 1) := by decide +kernel
theorem dL_law_132 : decode cL_law 132 = .ok (.iload_n 3, 1) := by decide +kernel
theorem dL_law_133 : decode cL_law 133 = .ok (.iconst 3, 1) := by decide +kernel
theorem dL_law_134 : decode cL_law 134 = .ok (.iadd, 1) := by decide +kernel
theorem dL_law_135 : decode cL_law 135 = .ok (.iaload, 1) := by decide +kernel
theorem dL_law_136 : decode cL_law 136 = .ok (.i2l, 1) := by decide +kernel
theorem dL_law_137 : decode cL_law 137 = .ok (.ldc2_w 13, 3) := by decide +kernel
theorem dL_law_140 : decode cL_law 140 = .ok (.land, 1) := by decide +kernel
theorem dL_law_141 : decode cL_law 141 = .ok (.lor, 1) := by decide +kernel
theorem dL_law_142 : decode cL_law 142 = .ok (.aload_n 0, 1) := by decide +kernel
theorem dL_law_143 : decode cL_law 143 = .ok (.iload_n 3, 1) := by decide +kernel
theorem dL_law_144 : decode cL_law 144 = .ok (.iconst 4, 1) := by decide +kernel
theorem dL_law_145 : decode cL_law 145 = .ok (.iadd, 1) := by decide +kernel
theorem dL_law_146 : decode cL_law 146 = .ok (.iaload, 1) := by decide +kernel
theorem dL_law_147 : decode cL_law 147 = .ok (.invokevirtual 15, 3) := by decide +kernel
theorem dL_law_150 : decode cL_law 150 = .ok (.aload_n 2, 1) := by decide +kernel
theorem dL_law_151 : decode cL_law 151 = .ok (.aload_n 0, 1) := by decide +kernel
theorem dL_law_152 : decode cL_law 152 = .ok (.iload_n 3, 1) := by decide +kernel
theorem dL_law_153 : decode cL_law 153 = .ok (.iconst 1, 1) := by decide +kernel
theorem dL_law_154 : decode cL_law 154 = .ok (.iadd, 1) := by decide +kernel
theorem dL_law_155 : decode cL_law 155 = .ok (.iaload, 1) := by decide +kernel
theorem dL_law_156 : decode cL_law 156 = .ok (.aload_n 0, 1) := by decide +kernel
theorem dL_law_157 : decode cL_law 157 = .ok (.iload_n 3, 1) := by decide +kernel
theorem dL_law_158 : decode cL_law 158 = .ok (.iconst 2, 1) := by decide +kernel
theorem dL_law_159 : decode cL_law 159 = .ok (.iadd, 1) := by decide +kernel
theorem dL_law_160 : decode cL_law 160 = .ok (.iaload, 1) := by decide +kernel
theorem dL_law_161 : decode cL_law 161 = .ok (.i2l, 1) := by decide +kernel
theorem dL_law_162 : decode cL_law 162 = .ok (.bipush 32, 2) := by decide +kernel
theorem dL_law_164 : decode cL_law 164 = .ok (.lshl, 1) := by decide +kernel
theorem dL_law_165 : decode cL_law 165 = .ok (.aload_n 0, 1) := by decide +kernel
theorem dL_law_166 : decode cL_law 166 = .ok (.iload_n 3, 1) := by decide +kernel
theorem dL_law_167 : decode cL_law 167 = .ok (.iconst 3, 1) := by decide +kernel
theorem dL_law_168 : decode cL_law 168 = .ok (.iadd, 1) := by decide +kernel
theorem dL_law_169 : decode cL_law 169 = .ok (.iaload, 1) := by decide +kernel
theorem dL_law_170 : decode cL_law 170 = .ok (.i2l, 1) := by decide +kernel
theorem dL_law_171 : decode cL_law 171 = .ok (.ldc2_w 13, 3) := by decide +kernel
theorem dL_law_174 : decode cL_law 174 = .ok (.land, 1) := by decide +kernel
theorem dL_law_175 : decode cL_law 175 = .ok (.lor, 1) := by decide +kernel
theorem dL_law_176 : decode cL_law 176 = .ok (.aload_n 0, 1) := by decide +kernel
theorem dL_law_177 : decode cL_law 177 = .ok (.iload_n 3, 1) := by decide +kernel
theorem dL_law_178 : decode cL_law 178 = .ok (.iconst 4, 1) := by decide +kernel
theorem dL_law_179 : decode cL_law 179 = .ok (.iadd, 1) := by decide +kernel
theorem dL_law_180 : decode cL_law 180 = .ok (.iaload, 1) := by decide +kernel
theorem dL_law_181 : decode cL_law 181 = .ok (.invokevirtual 19, 3) := by decide +kernel
theorem dL_law_184 : decode cL_law 184 = .ok (.if_icmp .eq 684, 3) := by decide +kernel
theorem dL_law_187 : decode cL_law 187 = .ok (.iconst 0, 1) := by decide +kernel
theorem dL_law_188 : decode cL_law 188 = .ok (.ireturn, 1) := by decide +kernel
theorem dL_law_189 : decode cL_law 189 = .ok (.aload_n 1, 1) := by decide +kernel
theorem dL_law_190 : decode cL_law 190 = .ok (.aload_n 0, 1) := by decide +kernel
theorem dL_law_191 : decode cL_law 191 = .ok (.iload_n 3, 1) := by decide +kernel
theorem dL_law_192 : decode cL_law 192 = .ok (.iconst 1, 1) := by decide +kernel
theorem dL_law_193 : decode cL_law 193 = .ok (.iadd, 1) := by decide +kernel
theorem dL_law_194 : decode cL_law 194 = .ok (.iaload, 1) := by decide +kernel
theorem dL_law_195 : decode cL_law 195 = .ok (.aload_n 0, 1) := by decide +kernel
theorem dL_law_196 : decode cL_law 196 = .ok (.iload_n 3, 1) := by decide +kernel
theorem dL_law_197 : decode cL_law 197 = .ok (.iconst 2, 1) := by decide +kernel
theorem dL_law_198 : decode cL_law 198 = .ok (.iadd, 1) := by decide +kernel
theorem dL_law_199 : decode cL_law 199 = .ok (.iaload, 1) := by decide +kernel
theorem dL_law_200 : decode cL_law 200 = .ok (.i2l, 1) := by decide +kernel
theorem dL_law_201 : decode cL_law 201 = .ok (.bipush 32, 2) := by decide +kernel
theorem dL_law_203 : decode cL_law 203 = .ok (.lshl, 1) := by decide +kernel
theorem dL_law_204 : decode cL_law 204 = .ok (.aload_n 0, 1) := by decide +kernel
theorem dL_law_205 : decode cL_law 205 = .ok (.iload_n 3, 1) := by decide +kernel
theorem dL_law_206 : decode cL_law 206 = .ok (.iconst 3, 1) := by decide +kernel
theorem dL_law_207 : decode cL_law 207 = .ok (.iadd, 1) := by decide +kernel
theorem dL_law_208 : decode cL_law 208 = .ok (.iaload, 1) := by decide +kernel
theorem dL_law_209 : decode cL_law 209 = .ok (.i2l, 1) := by decide +kernel
theorem dL_law_210 : decode cL_law 210 = .ok (.ldc2_w 13, 3) := by decide +kernel
theorem dL_law_213 : decode cL_law 213 = .ok (.land, 1) := by decide +kernel
theorem dL_law_214 : decode cL_law 214 = .ok (.lor, 1) := by decide +kernel
theorem dL_law_215 : decode cL_law 215 = .ok (.invokevirtual 20, 3) := by decide +kernel
theorem dL_law_218 : decode cL_law 218 = .ok (.aload_n 2, 1) := by decide +kernel
theorem dL_law_219 : decode cL_law 219 = .ok (.aload_n 0, 1) := by decide +kernel
theorem dL_law_220 : decode cL_law 220 = .ok (.iload_n 3, 1) := by decide +kernel
theorem dL_law_221 : decode cL_law 221 = .ok (.iconst 1, 1) := by decide +kernel
theorem dL_law_222 : decode cL_law 222 = .ok (.iadd, 1) := by decide +kernel
theorem dL_law_223 : decode cL_law 223 = .ok (.iaload, 1) := by decide +kernel
theorem dL_law_224 : decode cL_law 224 = .ok (.aload_n 0, 1) := by decide +kernel
theorem dL_law_225 : decode cL_law 225 = .ok (.iload_n 3, 1) := by decide +kernel
theorem dL_law_226 : decode cL_law 226 = .ok (.iconst 2, 1) := by decide +kernel
theorem dL_law_227 : decode cL_law 227 = .ok (.iadd, 1) := by decide +kernel
theorem dL_law_228 : decode cL_law 228 = .ok (.iaload, 1) := by decide +kernel
theorem dL_law_229 : decode cL_law 229 = .ok (.i2l, 1) := by decide +kernel
theorem dL_law_230 : decode cL_law 230 = .ok (.bipush 32, 2) := by decide +kernel
theorem dL_law_232 : decode cL_law 232 = .ok (.lshl, 1) := by decide +kernel
theorem dL_law_233 : decode cL_law 233 = .ok (.aload_n 0, 1) := by decide +kernel
theorem dL_law_234 : decode cL_law 234 = .ok (.iload_n 3, 1) := by decide +kernel
theorem dL_law_235 : decode cL_law 235 = .ok (.iconst 3, 1) := by decide +kernel
theorem dL_law_236 : decode cL_law 236 = .ok (.iadd, 1) := by decide +kernel
theorem dL_law_237 : decode cL_law 237 = .ok (.iaload, 1) := by decide +kernel
theorem dL_law_238 : decode cL_law 238 = .ok (.i2l, 1) := by decide +kernel
theorem dL_law_239 : decode cL_law 239 = .ok (.ldc2_w 13, 3) := by decide +kernel
theorem dL_law_242 : decode cL_law 242 = .ok (.land, 1) := by decide +kernel
theorem dL_law_243 : decode cL_law 243 = .ok (.lor, 1) := by decide +kernel
theorem dL_law_244 : decode cL_law 244 = .ok (.invokevirtual 24, 3) := by decide +kernel
theorem dL_law_247 : decode cL_law 247 = .ok (.if_icmp .eq 621, 3) := by decide +kernel
theorem dL_law_250 : decode cL_law 250 = .ok (.iconst 0, 1) := by decide +kernel
theorem dL_law_251 : decode cL_law 251 = .ok (.ireturn, 1) := by decide +kernel
theorem dL_law_252 : decode cL_law 252 = .ok (.aload_n 1, 1) := by decide +kernel
theorem dL_law_253 : decode cL_law 253 = .ok (.aload_n 0, 1) := by decide +kernel
theorem dL_law_254 : decode cL_law 254 = .ok (.iload_n 3, 1) := by decide +kernel
theorem dL_law_255 : decode cL_law 255 = .ok (.iconst 1, 1) := by decide +kernel
theorem dL_law_256 : decode cL_law 256 = .ok (.iadd, 1) := by decide +kernel
theorem dL_law_257 : decode cL_law 257 = .ok (.iaload, 1) := by decide +kernel
theorem dL_law_258 : decode cL_law 258 = .ok (.aload_n 0, 1) := by decide +kernel
theorem dL_law_259 : decode cL_law 259 = .ok (.iload_n 3, 1) := by decide +kernel
theorem dL_law_260 : decode cL_law 260 = .ok (.iconst 2, 1) := by decide +kernel
theorem dL_law_261 : decode cL_law 261 = .ok (.iadd, 1) := by decide +kernel
theorem dL_law_262 : decode cL_law 262 = .ok (.iaload, 1) := by decide +kernel
theorem dL_law_263 : decode cL_law 263 = .ok (.aload_n 0, 1) := by decide +kernel
theorem dL_law_264 : decode cL_law 264 = .ok (.iload_n 3, 1) := by decide +kernel
theorem dL_law_265 : decode cL_law 265 = .ok (.iconst 3, 1) := by decide +kernel
theorem dL_law_266 : decode cL_law 266 = .ok (.iadd, 1) := by decide +kernel
theorem dL_law_267 : decode cL_law 267 = .ok (.iaload, 1) := by decide +kernel
theorem dL_law_268 : decode cL_law 268 = .ok (.aload_n 0, 1) := by decide +kernel
theorem dL_law_269 : decode cL_law 269 = .ok (.iload_n 3, 1) := by decide +kernel
theorem dL_law_270 : decode cL_law 270 = .ok (.iconst 4, 1) := by decide +kernel
theorem dL_law_271 : decode cL_law 271 = .ok (.iadd, 1) := by decide +kernel
theorem dL_law_272 : decode cL_law 272 = .ok (.iaload, 1) := by decide +kernel
theorem dL_law_273 : decode cL_law 273 = .ok (.invokevirtual 25, 3) := by decide +kernel
theorem dL_law_276 : decode cL_law 276 = .ok (.aload_n 2, 1) := by decide +kernel
theorem dL_law_277 : decode cL_law 277 = .ok (.aload_n 0, 1) := by decide +kernel
theorem dL_law_278 : decode cL_law 278 = .ok (.iload_n 3, 1) := by decide +kernel
theorem dL_law_279 : decode cL_law 279 = .ok (.iconst 1, 1) := by decide +kernel
theorem dL_law_280 : decode cL_law 280 = .ok (.iadd, 1) := by decide +kernel
theorem dL_law_281 : decode cL_law 281 = .ok (.iaload, 1) := by decide +kernel
theorem dL_law_282 : decode cL_law 282 = .ok (.aload_n 0, 1) := by decide +kernel
theorem dL_law_283 : decode cL_law 283 = .ok (.iload_n 3, 1) := by decide +kernel
theorem dL_law_284 : decode cL_law 284 = .ok (.iconst 2, 1) := by decide +kernel
theorem dL_law_285 : decode cL_law 285 = .ok (.iadd, 1) := by decide +kernel
theorem dL_law_286 : decode cL_law 286 = .ok (.iaload, 1) := by decide +kernel
theorem dL_law_287 : decode cL_law 287 = .ok (.aload_n 0, 1) := by decide +kernel
theorem dL_law_288 : decode cL_law 288 = .ok (.iload_n 3, 1) := by decide +kernel
theorem dL_law_289 : decode cL_law 289 = .ok (.iconst 3, 1) := by decide +kernel
theorem dL_law_290 : decode cL_law 290 = .ok (.iadd, 1) := by decide +kernel
theorem dL_law_291 : decode cL_law 291 = .ok (.iaload, 1) := by decide +kernel
theorem dL_law_292 : decode cL_law 292 = .ok (.aload_n 0, 1) := by decide +kernel
theorem dL_law_293 : decode cL_law 293 = .ok (.iload_n 3, 1) := by decide +kernel
theorem dL_law_294 : decode cL_law 294 = .ok (.iconst 4, 1) := by decide +kernel
theorem dL_law_295 : decode cL_law 295 = .ok (.iadd, 1) := by decide +kernel
theorem dL_law_296 : decode cL_law 296 = .ok (.iaload, 1) := by decide +kernel
theorem dL_law_297 : decode cL_law 297 = .ok (.invokevirtual 29, 3) := by decide +kernel
theorem dL_law_300 : decode cL_law 300 = .ok (.if_icmp .eq 568, 3) := by decide +kernel
theorem dL_law_303 : decode cL_law 303 = .ok (.iconst 0, 1) := by decide +kernel
theorem dL_law_304 : decode cL_law 304 = .ok (.ireturn, 1) := by decide +kernel
theorem dL_law_305 : decode cL_law 305 = .ok (.aload_n 1, 1) := by decide +kernel
theorem dL_law_306 : decode cL_law 306 = .ok (.aload_n 0, 1) := by decide +kernel
theorem dL_law_307 : decode cL_law 307 = .ok (.iload_n 3, 1) := by decide +kernel
theorem dL_law_308 : decode cL_law 308 = .ok (.iconst 1, 1) := by decide +kernel
theorem dL_law_309 : decode cL_law 309 = .ok (.iadd, 1) := by decide +kernel
theorem dL_law_310 : decode cL_law 310 = .ok (.iaload, 1) := by decide +kernel
theorem dL_law_311 : decode cL_law 311 = .ok (.aload_n 0, 1) := by decide +kernel
theorem dL_law_312 : decode cL_law 312 = .ok (.iload_n 3, 1) := by decide +kernel
theorem dL_law_313 : decode cL_law 313 = .ok (.iconst 2, 1) := by decide +kernel
theorem dL_law_314 : decode cL_law 314 = .ok (.iadd, 1) := by decide +kernel
theorem dL_law_315 : decode cL_law 315 = .ok (.iaload, 1) := by decide +kernel
theorem dL_law_316 : decode cL_law 316 = .ok (.aload_n 0, 1) := by decide +kernel
theorem dL_law_317 : decode cL_law 317 = .ok (.iload_n 3, 1) := by decide +kernel
theorem dL_law_318 : decode cL_law 318 = .ok (.iconst 3, 1) := by decide +kernel
theorem dL_law_319 : decode cL_law 319 = .ok (.iadd, 1) := by decide +kernel
theorem dL_law_320 : decode cL_law 320 = .ok (.iaload, 1) := by decide +kernel
theorem dL_law_321 : decode cL_law 321 = .ok (.aload_n 0, 1) := by decide +kernel
theorem dL_law_322 : decode cL_law 322 = .ok (.iload_n 3, 1) := by decide +kernel
theorem dL_law_323 : decode cL_law 323 = .ok (.iconst 4, 1) := by decide +kernel
theorem dL_law_324 : decode cL_law 324 = .ok (.iadd, 1) := by decide +kernel
theorem dL_law_325 : decode cL_law 325 = .ok (.iaload, 1) := by decide +kernel
theorem dL_law_326 : decode cL_law 326 = .ok (.aload_n 0, 1) := by decide +kernel
theorem dL_law_327 : decode cL_law 327 = .ok (.iload_n 3, 1) := by decide +kernel
theorem dL_law_328 : decode cL_law 328 = .ok (.iconst 5, 1) := by decide +kernel
theorem dL_law_329 : decode cL_law 329 = .ok (.iadd, 1) := by decide +kernel
theorem dL_law_330 : decode cL_law 330 = .ok (.iaload, 1) := by decide +kernel
theorem dL_law_331 : decode cL_law 331 = .ok (.invokevirtual 30, 3) := by decide +kernel
theorem dL_law_334 : decode cL_law 334 = .ok (.aload_n 2, 1) := by decide +kernel
theorem dL_law_335 : decode cL_law 335 = .ok (.aload_n 0, 1) := by decide +kernel
theorem dL_law_336 : decode cL_law 336 = .ok (.iload_n 3, 1) := by decide +kernel
theorem dL_law_337 : decode cL_law 337 = .ok (.iconst 1, 1) := by decide +kernel
theorem dL_law_338 : decode cL_law 338 = .ok (.iadd, 1) := by decide +kernel
theorem dL_law_339 : decode cL_law 339 = .ok (.iaload, 1) := by decide +kernel
theorem dL_law_340 : decode cL_law 340 = .ok (.aload_n 0, 1) := by decide +kernel
theorem dL_law_341 : decode cL_law 341 = .ok (.iload_n 3, 1) := by decide +kernel
theorem dL_law_342 : decode cL_law 342 = .ok (.iconst 2, 1) := by decide +kernel
theorem dL_law_343 : decode cL_law 343 = .ok (.iadd, 1) := by decide +kernel
theorem dL_law_344 : decode cL_law 344 = .ok (.iaload, 1) := by decide +kernel
theorem dL_law_345 : decode cL_law 345 = .ok (.aload_n 0, 1) := by decide +kernel
theorem dL_law_346 : decode cL_law 346 = .ok (.iload_n 3, 1) := by decide +kernel
theorem dL_law_347 : decode cL_law 347 = .ok (.iconst 3, 1) := by decide +kernel
theorem dL_law_348 : decode cL_law 348 = .ok (.iadd, 1) := by decide +kernel
theorem dL_law_349 : decode cL_law 349 = .ok (.iaload, 1) := by decide +kernel
theorem dL_law_350 : decode cL_law 350 = .ok (.aload_n 0, 1) := by decide +kernel
theorem dL_law_351 : decode cL_law 351 = .ok (.iload_n 3, 1) := by decide +kernel
theorem dL_law_352 : decode cL_law 352 = .ok (.iconst 4, 1) := by decide +kernel
theorem dL_law_353 : decode cL_law 353 = .ok (.iadd, 1) := by decide +kernel
theorem dL_law_354 : decode cL_law 354 = .ok (.iaload, 1) := by decide +kernel
theorem dL_law_355 : decode cL_law 355 = .ok (.aload_n 0, 1) := by decide +kernel
theorem dL_law_356 : decode cL_law 356 = .ok (.iload_n 3, 1) := by decide +kernel
theorem dL_law_357 : decode cL_law 357 = .ok (.iconst 5, 1) := by decide +kernel
theorem dL_law_358 : decode cL_law 358 = .ok (.iadd, 1) := by decide +kernel
theorem dL_law_359 : decode cL_law 359 = .ok (.iaload, 1) := by decide +kernel
theorem dL_law_360 : decode cL_law 360 = .ok (.invokevirtual 34, 3) := by decide +kernel
theorem dL_law_363 : decode cL_law 363 = .ok (.if_icmp .eq 505, 3) := by decide +kernel
theorem dL_law_366 : decode cL_law 366 = .ok (.iconst 0, 1) := by decide +kernel
theorem dL_law_367 : decode cL_law 367 = .ok (.ireturn, 1) := by decide +kernel
theorem dL_law_368 : decode cL_law 368 = .ok (.aload_n 1, 1) := by decide +kernel
theorem dL_law_369 : decode cL_law 369 = .ok (.aload_n 0, 1) := by decide +kernel
theorem dL_law_370 : decode cL_law 370 = .ok (.iload_n 3, 1) := by decide +kernel
theorem dL_law_371 : decode cL_law 371 = .ok (.iconst 1, 1) := by decide +kernel
theorem dL_law_372 : decode cL_law 372 = .ok (.iadd, 1) := by decide +kernel
theorem dL_law_373 : decode cL_law 373 = .ok (.iaload, 1) := by decide +kernel
theorem dL_law_374 : decode cL_law 374 = .ok (.aload_n 0, 1) := by decide +kernel
theorem dL_law_375 : decode cL_law 375 = .ok (.iload_n 3, 1) := by decide +kernel
theorem dL_law_376 : decode cL_law 376 = .ok (.iconst 2, 1) := by decide +kernel
theorem dL_law_377 : decode cL_law 377 = .ok (.iadd, 1) := by decide +kernel
theorem dL_law_378 : decode cL_law 378 = .ok (.iaload, 1) := by decide +kernel
theorem dL_law_379 : decode cL_law 379 = .ok (.aload_n 0, 1) := by decide +kernel
theorem dL_law_380 : decode cL_law 380 = .ok (.iload_n 3, 1) := by decide +kernel
theorem dL_law_381 : decode cL_law 381 = .ok (.iconst 3, 1) := by decide +kernel
theorem dL_law_382 : decode cL_law 382 = .ok (.iadd, 1) := by decide +kernel
theorem dL_law_383 : decode cL_law 383 = .ok (.iaload, 1) := by decide +kernel
theorem dL_law_384 : decode cL_law 384 = .ok (.aload_n 0, 1) := by decide +kernel
theorem dL_law_385 : decode cL_law 385 = .ok (.iload_n 3, 1) := by decide +kernel
theorem dL_law_386 : decode cL_law 386 = .ok (.iconst 4, 1) := by decide +kernel
theorem dL_law_387 : decode cL_law 387 = .ok (.iadd, 1) := by decide +kernel
theorem dL_law_388 : decode cL_law 388 = .ok (.iaload, 1) := by decide +kernel
theorem dL_law_389 : decode cL_law 389 = .ok (.invokevirtual 35, 3) := by decide +kernel
theorem dL_law_392 : decode cL_law 392 = .ok (.aload_n 2, 1) := by decide +kernel
theorem dL_law_393 : decode cL_law 393 = .ok (.aload_n 0, 1) := by decide +kernel
theorem dL_law_394 : decode cL_law 394 = .ok (.iload_n 3, 1) := by decide +kernel
theorem dL_law_395 : decode cL_law 395 = .ok (.iconst 1, 1) := by decide +kernel
theorem dL_law_396 : decode cL_law 396 = .ok (.iadd, 1) := by decide +kernel
theorem dL_law_397 : decode cL_law 397 = .ok (.iaload, 1) := by decide +kernel
theorem dL_law_398 : decode cL_law 398 = .ok (.aload_n 0, 1) := by decide +kernel
theorem dL_law_399 : decode cL_law 399 = .ok (.iload_n 3, 1) := by decide +kernel
theorem dL_law_400 : decode cL_law 400 = .ok (.iconst 2, 1) := by decide +kernel
theorem dL_law_401 : decode cL_law 401 = .ok (.iadd, 1) := by decide +kernel
theorem dL_law_402 : decode cL_law 402 = .ok (.iaload, 1) := by decide +kernel
theorem dL_law_403 : decode cL_law 403 = .ok (.aload_n 0, 1) := by decide +kernel
theorem dL_law_404 : decode cL_law 404 = .ok (.iload_n 3, 1) := by decide +kernel
theorem dL_law_405 : decode cL_law 405 = .ok (.iconst 3, 1) := by decide +kernel
theorem dL_law_406 : decode cL_law 406 = .ok (.iadd, 1) := by decide +kernel
theorem dL_law_407 : decode cL_law 407 = .ok (.iaload, 1) := by decide +kernel
theorem dL_law_408 : decode cL_law 408 = .ok (.aload_n 0, 1) := by decide +kernel
theorem dL_law_409 : decode cL_law 409 = .ok (.iload_n 3, 1) := by decide +kernel
theorem dL_law_410 : decode cL_law 410 = .ok (.iconst 4, 1) := by decide +kernel
theorem dL_law_411 : decode cL_law 411 = .ok (.iadd, 1) := by decide +kernel
theorem dL_law_412 : decode cL_law 412 = .ok (.iaload, 1) := by decide +kernel
theorem dL_law_413 : decode cL_law 413 = .ok (.invokevirtual 38, 3) := by decide +kernel
theorem dL_law_416 : decode cL_law 416 = .ok (.if_icmp .eq 452, 3) := by decide +kernel
theorem dL_law_419 : decode cL_law 419 = .ok (.iconst 0, 1) := by decide +kernel
theorem dL_law_420 : decode cL_law 420 = .ok (.ireturn, 1) := by decide +kernel
theorem dL_law_421 : decode cL_law 421 = .ok (.aload_n 1, 1) := by decide +kernel
theorem dL_law_422 : decode cL_law 422 = .ok (.aload_n 0, 1) := by decide +kernel
theorem dL_law_423 : decode cL_law 423 = .ok (.iload_n 3, 1) := by decide +kernel
theorem dL_law_424 : decode cL_law 424 = .ok (.iconst 1, 1) := by decide +kernel
theorem dL_law_425 : decode cL_law 425 = .ok (.iadd, 1) := by decide +kernel
theorem dL_law_426 : decode cL_law 426 = .ok (.iaload, 1) := by decide +kernel
theorem dL_law_427 : decode cL_law 427 = .ok (.aload_n 0, 1) := by decide +kernel
theorem dL_law_428 : decode cL_law 428 = .ok (.iload_n 3, 1) := by decide +kernel
theorem dL_law_429 : decode cL_law 429 = .ok (.iconst 2, 1) := by decide +kernel
theorem dL_law_430 : decode cL_law 430 = .ok (.iadd, 1) := by decide +kernel
theorem dL_law_431 : decode cL_law 431 = .ok (.iaload, 1) := by decide +kernel
theorem dL_law_432 : decode cL_law 432 = .ok (.aload_n 0, 1) := by decide +kernel
theorem dL_law_433 : decode cL_law 433 = .ok (.iload_n 3, 1) := by decide +kernel
theorem dL_law_434 : decode cL_law 434 = .ok (.iconst 3, 1) := by decide +kernel
theorem dL_law_435 : decode cL_law 435 = .ok (.iadd, 1) := by decide +kernel
theorem dL_law_436 : decode cL_law 436 = .ok (.iaload, 1) := by decide +kernel
theorem dL_law_437 : decode cL_law 437 = .ok (.aload_n 0, 1) := by decide +kernel
theorem dL_law_438 : decode cL_law 438 = .ok (.iload_n 3, 1) := by decide +kernel
theorem dL_law_439 : decode cL_law 439 = .ok (.iconst 4, 1) := by decide +kernel
theorem dL_law_440 : decode cL_law 440 = .ok (.iadd, 1) := by decide +kernel
theorem dL_law_441 : decode cL_law 441 = .ok (.iaload, 1) := by decide +kernel
theorem dL_law_442 : decode cL_law 442 = .ok (.invokevirtual 39, 3) := by decide +kernel
theorem dL_law_445 : decode cL_law 445 = .ok (.aload_n 2, 1) := by decide +kernel
theorem dL_law_446 : decode cL_law 446 = .ok (.aload_n 0, 1) := by decide +kernel
theorem dL_law_447 : decode cL_law 447 = .ok (.iload_n 3, 1) := by decide +kernel
theorem dL_law_448 : decode cL_law 448 = .ok (.iconst 1, 1) := by decide +kernel
theorem dL_law_449 : decode cL_law 449 = .ok (.iadd, 1) := by decide +kernel
theorem dL_law_450 : decode cL_law 450 = .ok (.iaload, 1) := by decide +kernel
theorem dL_law_451 : decode cL_law 451 = .ok (.aload_n 0, 1) := by decide +kernel
theorem dL_law_452 : decode cL_law 452 = .ok (.iload_n 3, 1) := by decide +kernel
theorem dL_law_453 : decode cL_law 453 = .ok (.iconst 2, 1) := by decide +kernel
theorem dL_law_454 : decode cL_law 454 = .ok (.iadd, 1) := by decide +kernel
theorem dL_law_455 : decode cL_law 455 = .ok (.iaload, 1) := by decide +kernel
theorem dL_law_456 : decode cL_law 456 = .ok (.aload_n 0, 1) := by decide +kernel
theorem dL_law_457 : decode cL_law 457 = .ok (.iload_n 3, 1) := by decide +kernel
theorem dL_law_458 : decode cL_law 458 = .ok (.iconst 3, 1) := by decide +kernel
theorem dL_law_459 : decode cL_law 459 = .ok (.iadd, 1) := by decide +kernel
theorem dL_law_460 : decode cL_law 460 = .ok (.iaload, 1) := by decide +kernel
theorem dL_law_461 : decode cL_law 461 = .ok (.aload_n 0, 1) := by decide +kernel
theorem dL_law_462 : decode cL_law 462 = .ok (.iload_n 3, 1) := by decide +kernel
theorem dL_law_463 : decode cL_law 463 = .ok (.iconst 4, 1) := by decide +kernel
theorem dL_law_464 : decode cL_law 464 = .ok (.iadd, 1) := by decide +kernel
theorem dL_law_465 : decode cL_law 465 = .ok (.iaload, 1) := by decide +kernel
theorem dL_law_466 : decode cL_law 466 = .ok (.invokevirtual 42, 3) := by decide +kernel
theorem dL_law_469 : decode cL_law 469 = .ok (.if_icmp .eq 399, 3) := by decide +kernel
theorem dL_law_472 : decode cL_law 472 = .ok (.iconst 0, 1) := by decide +kernel
theorem dL_law_473 : decode cL_law 473 = .ok (.ireturn, 1) := by decide +kernel
theorem dL_law_474 : decode cL_law 474 = .ok (.aload_n 1, 1) := by decide +kernel
theorem dL_law_475 : decode cL_law 475 = .ok (.aload_n 0, 1) := by decide +kernel
theorem dL_law_476 : decode cL_law 476 = .ok (.iload_n 3, 1) := by decide +kernel
theorem dL_law_477 : decode cL_law 477 = .ok (.iconst 1, 1) := by decide +kernel
theorem dL_law_478 : decode cL_law 478 = .ok (.iadd, 1) := by decide +kernel
theorem dL_law_479 : decode cL_law 479 = .ok (.iaload, 1) := by decide +kernel
theorem dL_law_480 : decode cL_law 480 = .ok (.aload_n 0, 1) := by decide +kernel
theorem dL_law_481 : decode cL_law 481 = .ok (.iload_n 3, 1) := by decide +kernel
theorem dL_law_482 : decode cL_law 482 = .ok (.iconst 2, 1) := by decide +kernel
theorem dL_law_483 : decode cL_law 483 = .ok (.iadd, 1) := by decide +kernel
theorem dL_law_484 : decode cL_law 484 = .ok (.iaload, 1) := by decide +kernel
theorem dL_law_485 : decode cL_law 485 = .ok (.aload_n 0, 1) := by decide +kernel
theorem dL_law_486 : decode cL_law 486 = .ok (.iload_n 3, 1) := by decide +kernel
theorem dL_law_487 : decode cL_law 487 = .ok (.iconst 3, 1) := by decide +kernel
theorem dL_law_488 : decode cL_law 488 = .ok (.iadd, 1) := by decide +kernel
theorem dL_law_489 : decode cL_law 489 = .ok (.iaload, 1) := by decide +kernel
theorem dL_law_490 : decode cL_law 490 = .ok (.aload_n 0, 1) := by decide +kernel
theorem dL_law_491 : decode cL_law 491 = .ok (.iload_n 3, 1) := by decide +kernel
theorem dL_law_492 : decode cL_law 492 = .ok (.iconst 4, 1) := by decide +kernel
theorem dL_law_493 : decode cL_law 493 = .ok (.iadd, 1) := by decide +kernel
theorem dL_law_494 : decode cL_law 494 = .ok (.iaload, 1) := by decide +kernel
theorem dL_law_495 : decode cL_law 495 = .ok (.invokevirtual 43, 3) := by decide +kernel
theorem dL_law_498 : decode cL_law 498 = .ok (.aload_n 2, 1) := by decide +kernel
theorem dL_law_499 : decode cL_law 499 = .ok (.aload_n 0, 1) := by decide +kernel
theorem dL_law_500 : decode cL_law 500 = .ok (.iload_n 3, 1) := by decide +kernel
theorem dL_law_501 : decode cL_law 501 = .ok (.iconst 1, 1) := by decide +kernel
theorem dL_law_502 : decode cL_law 502 = .ok (.iadd, 1) := by decide +kernel
theorem dL_law_503 : decode cL_law 503 = .ok (.iaload, 1) := by decide +kernel
theorem dL_law_504 : decode cL_law 504 = .ok (.aload_n 0, 1) := by decide +kernel
theorem dL_law_505 : decode cL_law 505 = .ok (.iload_n 3, 1) := by decide +kernel
theorem dL_law_506 : decode cL_law 506 = .ok (.iconst 2, 1) := by decide +kernel
theorem dL_law_507 : decode cL_law 507 = .ok (.iadd, 1) := by decide +kernel
theorem dL_law_508 : decode cL_law 508 = .ok (.iaload, 1) := by decide +kernel
theorem dL_law_509 : decode cL_law 509 = .ok (.aload_n 0, 1) := by decide +kernel
theorem dL_law_510 : decode cL_law 510 = .ok (.iload_n 3, 1) := by decide +kernel
theorem dL_law_511 : decode cL_law 511 = .ok (.iconst 3, 1) := by decide +kernel
theorem dL_law_512 : decode cL_law 512 = .ok (.iadd, 1) := by decide +kernel
theorem dL_law_513 : decode cL_law 513 = .ok (.iaload, 1) := by decide +kernel
theorem dL_law_514 : decode cL_law 514 = .ok (.aload_n 0, 1) := by decide +kernel
theorem dL_law_515 : decode cL_law 515 = .ok (.iload_n 3, 1) := by decide +kernel
theorem dL_law_516 : decode cL_law 516 = .ok (.iconst 4, 1) := by decide +kernel
theorem dL_law_517 : decode cL_law 517 = .ok (.iadd, 1) := by decide +kernel
theorem dL_law_518 : decode cL_law 518 = .ok (.iaload, 1) := by decide +kernel
theorem dL_law_519 : decode cL_law 519 = .ok (.invokevirtual 46, 3) := by decide +kernel
theorem dL_law_522 : decode cL_law 522 = .ok (.if_icmp .eq 346, 3) := by decide +kernel
theorem dL_law_525 : decode cL_law 525 = .ok (.iconst 0, 1) := by decide +kernel
theorem dL_law_526 : decode cL_law 526 = .ok (.ireturn, 1) := by decide +kernel
theorem dL_law_527 : decode cL_law 527 = .ok (.aload_n 1, 1) := by decide +kernel
theorem dL_law_528 : decode cL_law 528 = .ok (.aload_n 0, 1) := by decide +kernel
theorem dL_law_529 : decode cL_law 529 = .ok (.iload_n 3, 1) := by decide +kernel
theorem dL_law_530 : decode cL_law 530 = .ok (.iconst 1, 1) := by decide +kernel
theorem dL_law_531 : decode cL_law 531 = .ok (.iadd, 1) := by decide +kernel
theorem dL_law_532 : decode cL_law 532 = .ok (.iaload, 1) := by decide +kernel
theorem dL_law_533 : decode cL_law 533 = .ok (.aload_n 0, 1) := by decide +kernel
theorem dL_law_534 : decode cL_law 534 = .ok (.iload_n 3, 1) := by decide +kernel
theorem dL_law_535 : decode cL_law 535 = .ok (.iconst 2, 1) := by decide +kernel
theorem dL_law_536 : decode cL_law 536 = .ok (.iadd, 1) := by decide +kernel
theorem dL_law_537 : decode cL_law 537 = .ok (.iaload, 1) := by decide +kernel
theorem dL_law_538 : decode cL_law 538 = .ok (.aload_n 0, 1) := by decide +kernel
theorem dL_law_539 : decode cL_law 539 = .ok (.iload_n 3, 1) := by decide +kernel
theorem dL_law_540 : decode cL_law 540 = .ok (.iconst 3, 1) := by decide +kernel
theorem dL_law_541 : decode cL_law 541 = .ok (.iadd, 1) := by decide +kernel
theorem dL_law_542 : decode cL_law 542 = .ok (.iaload, 1) := by decide +kernel
theorem dL_law_543 : decode cL_law 543 = .ok (.invokevirtual 47, 3) := by decide +kernel
theorem dL_law_546 : decode cL_law 546 = .ok (.aload_n 2, 1) := by decide +kernel
theorem dL_law_547 : decode cL_law 547 = .ok (.aload_n 0, 1) := by decide +kernel
theorem dL_law_548 : decode cL_law 548 = .ok (.iload_n 3, 1) := by decide +kernel
theorem dL_law_549 : decode cL_law 549 = .ok (.iconst 1, 1) := by decide +kernel
theorem dL_law_550 : decode cL_law 550 = .ok (.iadd, 1) := by decide +kernel
theorem dL_law_551 : decode cL_law 551 = .ok (.iaload, 1) := by decide +kernel
theorem dL_law_552 : decode cL_law 552 = .ok (.aload_n 0, 1) := by decide +kernel
theorem dL_law_553 : decode cL_law 553 = .ok (.iload_n 3, 1) := by decide +kernel
theorem dL_law_554 : decode cL_law 554 = .ok (.iconst 2, 1) := by decide +kernel
theorem dL_law_555 : decode cL_law 555 = .ok (.iadd, 1) := by decide +kernel
theorem dL_law_556 : decode cL_law 556 = .ok (.iaload, 1) := by decide +kernel
theorem dL_law_557 : decode cL_law 557 = .ok (.aload_n 0, 1) := by decide +kernel
theorem dL_law_558 : decode cL_law 558 = .ok (.iload_n 3, 1) := by decide +kernel
theorem dL_law_559 : decode cL_law 559 = .ok (.iconst 3, 1) := by decide +kernel
theorem dL_law_560 : decode cL_law 560 = .ok (.iadd, 1) := by decide +kernel
theorem dL_law_561 : decode cL_law 561 = .ok (.iaload, 1) := by decide +kernel
theorem dL_law_562 : decode cL_law 562 = .ok (.invokevirtual 51, 3) := by decide +kernel
theorem dL_law_565 : decode cL_law 565 = .ok (.if_icmp .eq 303, 3) := by decide +kernel
theorem dL_law_568 : decode cL_law 568 = .ok (.iconst 0, 1) := by decide +kernel
theorem dL_law_569 : decode cL_law 569 = .ok (.ireturn, 1) := by decide +kernel
theorem dL_law_570 : decode cL_law 570 = .ok (.aload_n 1, 1) := by decide +kernel
theorem dL_law_571 : decode cL_law 571 = .ok (.aload_n 0, 1) := by decide +kernel
theorem dL_law_572 : decode cL_law 572 = .ok (.iload_n 3, 1) := by decide +kernel
theorem dL_law_573 : decode cL_law 573 = .ok (.iconst 1, 1) := by decide +kernel
theorem dL_law_574 : decode cL_law 574 = .ok (.iadd, 1) := by decide +kernel
theorem dL_law_575 : decode cL_law 575 = .ok (.iaload, 1) := by decide +kernel
theorem dL_law_576 : decode cL_law 576 = .ok (.aload_n 0, 1) := by decide +kernel
theorem dL_law_577 : decode cL_law 577 = .ok (.iload_n 3, 1) := by decide +kernel
theorem dL_law_578 : decode cL_law 578 = .ok (.iconst 2, 1) := by decide +kernel
theorem dL_law_579 : decode cL_law 579 = .ok (.iadd, 1) := by decide +kernel
theorem dL_law_580 : decode cL_law 580 = .ok (.iaload, 1) := by decide +kernel
theorem dL_law_581 : decode cL_law 581 = .ok (.aload_n 0, 1) := by decide +kernel
theorem dL_law_582 : decode cL_law 582 = .ok (.iload_n 3, 1) := by decide +kernel
theorem dL_law_583 : decode cL_law 583 = .ok (.iconst 3, 1) := by decide +kernel
theorem dL_law_584 : decode cL_law 584 = .ok (.iadd, 1) := by decide +kernel
theorem dL_law_585 : decode cL_law 585 = .ok (.iaload, 1) := by decide +kernel
theorem dL_law_586 : decode cL_law 586 = .ok (.aload_n 0, 1) := by decide +kernel
theorem dL_law_587 : decode cL_law 587 = .ok (.iload_n 3, 1) := by decide +kernel
theorem dL_law_588 : decode cL_law 588 = .ok (.iconst 4, 1) := by decide +kernel
theorem dL_law_589 : decode cL_law 589 = .ok (.iadd, 1) := by decide +kernel
theorem dL_law_590 : decode cL_law 590 = .ok (.iaload, 1) := by decide +kernel
theorem dL_law_591 : decode cL_law 591 = .ok (.invokevirtual 52, 3) := by decide +kernel
theorem dL_law_594 : decode cL_law 594 = .ok (.aload_n 2, 1) := by decide +kernel
theorem dL_law_595 : decode cL_law 595 = .ok (.aload_n 0, 1) := by decide +kernel
theorem dL_law_596 : decode cL_law 596 = .ok (.iload_n 3, 1) := by decide +kernel
theorem dL_law_597 : decode cL_law 597 = .ok (.iconst 1, 1) := by decide +kernel
theorem dL_law_598 : decode cL_law 598 = .ok (.iadd, 1) := by decide +kernel
theorem dL_law_599 : decode cL_law 599 = .ok (.iaload, 1) := by decide +kernel
theorem dL_law_600 : decode cL_law 600 = .ok (.aload_n 0, 1) := by decide +kernel
theorem dL_law_601 : decode cL_law 601 = .ok (.iload_n 3, 1) := by decide +kernel
theorem dL_law_602 : decode cL_law 602 = .ok (.iconst 2, 1) := by decide +kernel
theorem dL_law_603 : decode cL_law 603 = .ok (.iadd, 1) := by decide +kernel
theorem dL_law_604 : decode cL_law 604 = .ok (.iaload, 1) := by decide +kernel
theorem dL_law_605 : decode cL_law 605 = .ok (.aload_n 0, 1) := by decide +kernel
theorem dL_law_606 : decode cL_law 606 = .ok (.iload_n 3, 1) := by decide +kernel
theorem dL_law_607 : decode cL_law 607 = .ok (.iconst 3, 1) := by decide +kernel
theorem dL_law_608 : decode cL_law 608 = .ok (.iadd, 1) := by decide +kernel
theorem dL_law_609 : decode cL_law 609 = .ok (.iaload, 1) := by decide +kernel
theorem dL_law_610 : decode cL_law 610 = .ok (.aload_n 0, 1) := by decide +kernel
theorem dL_law_611 : decode cL_law 611 = .ok (.iload_n 3, 1) := by decide +kernel
theorem dL_law_612 : decode cL_law 612 = .ok (.iconst 4, 1) := by decide +kernel
theorem dL_law_613 : decode cL_law 613 = .ok (.iadd, 1) := by decide +kernel
theorem dL_law_614 : decode cL_law 614 = .ok (.iaload, 1) := by decide +kernel
theorem dL_law_615 : decode cL_law 615 = .ok (.invokevirtual 55, 3) := by decide +kernel
theorem dL_law_618 : decode cL_law 618 = .ok (.if_icmp .eq 250, 3) := by decide +kernel
theorem dL_law_621 : decode cL_law 621 = .ok (.iconst 0, 1) := by decide +kernel
theorem dL_law_622 : decode cL_law 622 = .ok (.ireturn, 1) := by decide +kernel
theorem dL_law_623 : decode cL_law 623 = .ok (.aload_n 1, 1) := by decide +kernel
theorem dL_law_624 : decode cL_law 624 = .ok (.aload_n 0, 1) := by decide +kernel
theorem dL_law_625 : decode cL_law 625 = .ok (.iload_n 3, 1) := by decide +kernel
theorem dL_law_626 : decode cL_law 626 = .ok (.iconst 1, 1) := by decide +kernel
theorem dL_law_627 : decode cL_law 627 = .ok (.iadd, 1) := by decide +kernel
theorem dL_law_628 : decode cL_law 628 = .ok (.iaload, 1) := by decide +kernel
theorem dL_law_629 : decode cL_law 629 = .ok (.aload_n 0, 1) := by decide +kernel
theorem dL_law_630 : decode cL_law 630 = .ok (.iload_n 3, 1) := by decide +kernel
theorem dL_law_631 : decode cL_law 631 = .ok (.iconst 2, 1) := by decide +kernel
theorem dL_law_632 : decode cL_law 632 = .ok (.iadd, 1) := by decide +kernel
theorem dL_law_633 : decode cL_law 633 = .ok (.iaload, 1) := by decide +kernel
theorem dL_law_634 : decode cL_law 634 = .ok (.aload_n 0, 1) := by decide +kernel
theorem dL_law_635 : decode cL_law 635 = .ok (.iload_n 3, 1) := by decide +kernel
theorem dL_law_636 : decode cL_law 636 = .ok (.iconst 3, 1) := by decide +kernel
theorem dL_law_637 : decode cL_law 637 = .ok (.iadd, 1) := by decide +kernel
theorem dL_law_638 : decode cL_law 638 = .ok (.iaload, 1) := by decide +kernel
theorem dL_law_639 : decode cL_law 639 = .ok (.invokevirtual 56, 3) := by decide +kernel
theorem dL_law_642 : decode cL_law 642 = .ok (.aload_n 2, 1) := by decide +kernel
theorem dL_law_643 : decode cL_law 643 = .ok (.aload_n 0, 1) := by decide +kernel
theorem dL_law_644 : decode cL_law 644 = .ok (.iload_n 3, 1) := by decide +kernel
theorem dL_law_645 : decode cL_law 645 = .ok (.iconst 1, 1) := by decide +kernel
theorem dL_law_646 : decode cL_law 646 = .ok (.iadd, 1) := by decide +kernel
theorem dL_law_647 : decode cL_law 647 = .ok (.iaload, 1) := by decide +kernel
theorem dL_law_648 : decode cL_law 648 = .ok (.aload_n 0, 1) := by decide +kernel
theorem dL_law_649 : decode cL_law 649 = .ok (.iload_n 3, 1) := by decide +kernel
theorem dL_law_650 : decode cL_law 650 = .ok (.iconst 2, 1) := by decide +kernel
theorem dL_law_651 : decode cL_law 651 = .ok (.iadd, 1) := by decide +kernel
theorem dL_law_652 : decode cL_law 652 = .ok (.iaload, 1) := by decide +kernel
theorem dL_law_653 : decode cL_law 653 = .ok (.aload_n 0, 1) := by decide +kernel
theorem dL_law_654 : decode cL_law 654 = .ok (.iload_n 3, 1) := by decide +kernel
theorem dL_law_655 : decode cL_law 655 = .ok (.iconst 3, 1) := by decide +kernel
theorem dL_law_656 : decode cL_law 656 = .ok (.iadd, 1) := by decide +kernel
theorem dL_law_657 : decode cL_law 657 = .ok (.iaload, 1) := by decide +kernel
theorem dL_law_658 : decode cL_law 658 = .ok (.invokevirtual 59, 3) := by decide +kernel
theorem dL_law_661 : decode cL_law 661 = .ok (.if_icmp .eq 207, 3) := by decide +kernel
theorem dL_law_664 : decode cL_law 664 = .ok (.iconst 0, 1) := by decide +kernel
theorem dL_law_665 : decode cL_law 665 = .ok (.ireturn, 1) := by decide +kernel
theorem dL_law_666 : decode cL_law 666 = .ok (.aload_n 1, 1) := by decide +kernel
theorem dL_law_667 : decode cL_law 667 = .ok (.aload_n 0, 1) := by decide +kernel
theorem dL_law_668 : decode cL_law 668 = .ok (.iload_n 3, 1) := by decide +kernel
theorem dL_law_669 : decode cL_law 669 = .ok (.iconst 1, 1) := by decide +kernel
theorem dL_law_670 : decode cL_law 670 = .ok (.iadd, 1) := by decide +kernel
theorem dL_law_671 : decode cL_law 671 = .ok (.iaload, 1) := by decide +kernel
theorem dL_law_672 : decode cL_law 672 = .ok (.aload_n 0, 1) := by decide +kernel
theorem dL_law_673 : decode cL_law 673 = .ok (.iload_n 3, 1) := by decide +kernel
theorem dL_law_674 : decode cL_law 674 = .ok (.iconst 2, 1) := by decide +kernel
theorem dL_law_675 : decode cL_law 675 = .ok (.iadd, 1) := by decide +kernel
theorem dL_law_676 : decode cL_law 676 = .ok (.iaload, 1) := by decide +kernel
theorem dL_law_677 : decode cL_law 677 = .ok (.invokevirtual 60, 3) := by decide +kernel
theorem dL_law_680 : decode cL_law 680 = .ok (.aload_n 2, 1) := by decide +kernel
theorem dL_law_681 : decode cL_law 681 = .ok (.aload_n 0, 1) := by decide +kernel
theorem dL_law_682 : decode cL_law 682 = .ok (.iload_n 3, 1) := by decide +kernel
theorem dL_law_683 : decode cL_law 683 = .ok (.iconst 1, 1) := by decide +kernel
theorem dL_law_684 : decode cL_law 684 = .ok (.iadd, 1) := by decide +kernel
theorem dL_law_685 : decode cL_law 685 = .ok (.iaload, 1) := by decide +kernel
theorem dL_law_686 : decode cL_law 686 = .ok (.aload_n 0, 1) := by decide +kernel
theorem dL_law_687 : decode cL_law 687 = .ok (.iload_n 3, 1) := by decide +kernel
theorem dL_law_688 : decode cL_law 688 = .ok (.iconst 2, 1) := by decide +kernel
theorem dL_law_689 : decode cL_law 689 = .ok (.iadd, 1) := by decide +kernel
theorem dL_law_690 : decode cL_law 690 = .ok (.iaload, 1) := by decide +kernel
theorem dL_law_691 : decode cL_law 691 = .ok (.invokevirtual 64, 3) := by decide +kernel
theorem dL_law_694 : decode cL_law 694 = .ok (.if_icmp .eq 174, 3) := by decide +kernel
theorem dL_law_697 : decode cL_law 697 = .ok (.iconst 0, 1) := by decide +kernel
theorem dL_law_698 : decode cL_law 698 = .ok (.ireturn, 1) := by decide +kernel
theorem dL_law_699 : decode cL_law 699 = .ok (.aload_n 1, 1) := by decide +kernel
theorem dL_law_700 : decode cL_law 700 = .ok (.aload_n 0, 1) := by decide +kernel
theorem dL_law_701 : decode cL_law 701 = .ok (.iload_n 3, 1) := by decide +kernel
theorem dL_law_702 : decode cL_law 702 = .ok (.iconst 1, 1) := by decide +kernel
theorem dL_law_703 : decode cL_law 703 = .ok (.iadd, 1) := by decide +kernel
theorem dL_law_704 : decode cL_law 704 = .ok (.iaload, 1) := by decide +kernel
theorem dL_law_705 : decode cL_law 705 = .ok (.aload_n 0, 1) := by decide +kernel
theorem dL_law_706 : decode cL_law 706 = .ok (.iload_n 3, 1) := by decide +kernel
theorem dL_law_707 : decode cL_law 707 = .ok (.iconst 2, 1) := by decide +kernel
theorem dL_law_708 : decode cL_law 708 = .ok (.iadd, 1) := by decide +kernel
theorem dL_law_709 : decode cL_law 709 = .ok (.iaload, 1) := by decide +kernel
theorem dL_law_710 : decode cL_law 710 = .ok (.invokevirtual 65, 3) := by decide +kernel
theorem dL_law_713 : decode cL_law 713 = .ok (.aload_n 2, 1) := by decide +kernel
theorem dL_law_714 : decode cL_law 714 = .ok (.aload_n 0, 1) := by decide +kernel
theorem dL_law_715 : decode cL_law 715 = .ok (.iload_n 3, 1) := by decide +kernel
theorem dL_law_716 : decode cL_law 716 = .ok (.iconst 1, 1) := by decide +kernel
theorem dL_law_717 : decode cL_law 717 = .ok (.iadd, 1) := by decide +kernel
theorem dL_law_718 : decode cL_law 718 = .ok (.iaload, 1) := by decide +kernel
theorem dL_law_719 : decode cL_law 719 = .ok (.aload_n 0, 1) := by decide +kernel
theorem dL_law_720 : decode cL_law 720 = .ok (.iload_n 3, 1) := by decide +kernel
theorem dL_law_721 : decode cL_law 721 = .ok (.iconst 2, 1) := by decide +kernel
theorem dL_law_722 : decode cL_law 722 = .ok (.iadd, 1) := by decide +kernel
theorem dL_law_723 : decode cL_law 723 = .ok (.iaload, 1) := by decide +kernel
theorem dL_law_724 : decode cL_law 724 = .ok (.invokevirtual 69, 3) := by decide +kernel
theorem dL_law_727 : decode cL_law 727 = .ok (.if_icmp .eq 141, 3) := by decide +kernel
theorem dL_law_730 : decode cL_law 730 = .ok (.iconst 0, 1) := by decide +kernel
theorem dL_law_731 : decode cL_law 731 = .ok (.ireturn, 1) := by decide +kernel
theorem dL_law_732 : decode cL_law 732 = .ok (.aload_n 1, 1) := by decide +kernel
theorem dL_law_733 : decode cL_law 733 = .ok (.aload_n 0, 1) := by decide +kernel
theorem dL_law_734 : decode cL_law 734 = .ok (.iload_n 3, 1) := by decide +kernel
theorem dL_law_735 : decode cL_law 735 = .ok (.iconst 1, 1) := by decide +kernel
theorem dL_law_736 : decode cL_law 736 = .ok (.iadd, 1) := by decide +kernel
theorem dL_law_737 : decode cL_law 737 = .ok (.iaload, 1) := by decide +kernel
theorem dL_law_738 : decode cL_law 738 = .ok (.aload_n 0, 1) := by decide +kernel
theorem dL_law_739 : decode cL_law 739 = .ok (.iload_n 3, 1) := by decide +kernel
theorem dL_law_740 : decode cL_law 740 = .ok (.iconst 2, 1) := by decide +kernel
theorem dL_law_741 : decode cL_law 741 = .ok (.iadd, 1) := by decide +kernel
theorem dL_law_742 : decode cL_law 742 = .ok (.iaload, 1) := by decide +kernel
theorem dL_law_743 : decode cL_law 743 = .ok (.invokevirtual 70, 3) := by decide +kernel
theorem dL_law_746 : decode cL_law 746 = .ok (.aload_n 2, 1) := by decide +kernel
theorem dL_law_747 : decode cL_law 747 = .ok (.aload_n 0, 1) := by decide +kernel
theorem dL_law_748 : decode cL_law 748 = .ok (.iload_n 3, 1) := by decide +kernel
theorem dL_law_749 : decode cL_law 749 = .ok (.iconst 1, 1) := by decide +kernel
theorem dL_law_750 : decode cL_law 750 = .ok (.iadd, 1) := by decide +kernel
theorem dL_law_751 : decode cL_law 751 = .ok (.iaload, 1) := by decide +kernel
theorem dL_law_752 : decode cL_law 752 = .ok (.aload_n 0, 1) := by decide +kernel
theorem dL_law_753 : decode cL_law 753 = .ok (.iload_n 3, 1) := by decide +kernel
theorem dL_law_754 : decode cL_law 754 = .ok (.iconst 2, 1) := by decide +kernel
theorem dL_law_755 : decode cL_law 755 = .ok (.iadd, 1) := by decide +kernel
theorem dL_law_756 : decode cL_law 756 = .ok (.iaload, 1) := by decide +kernel
theorem dL_law_757 : decode cL_law 757 = .ok (.invokevirtual 73, 3) := by decide +kernel
theorem dL_law_760 : decode cL_law 760 = .ok (.if_icmp .eq 108, 3) := by decide +kernel
theorem dL_law_763 : decode cL_law 763 = .ok (.iconst 0, 1) := by decide +kernel
theorem dL_law_764 : decode cL_law 764 = .ok (.ireturn, 1) := by decide +kernel
theorem dL_law_765 : decode cL_law 765 = .ok (.aload_n 1, 1) := by decide +kernel
theorem dL_law_766 : decode cL_law 766 = .ok (.aload_n 0, 1) := by decide +kernel
theorem dL_law_767 : decode cL_law 767 = .ok (.iload_n 3, 1) := by decide +kernel
theorem dL_law_768 : decode cL_law 768 = .ok (.iconst 1, 1) := by decide +kernel
theorem dL_law_769 : decode cL_law 769 = .ok (.iadd, 1) := by decide +kernel
theorem dL_law_770 : decode cL_law 770 = .ok (.iaload, 1) := by decide +kernel
theorem dL_law_771 : decode cL_law 771 = .ok (.aload_n 0, 1) := by decide +kernel
theorem dL_law_772 : decode cL_law 772 = .ok (.iload_n 3, 1) := by decide +kernel
theorem dL_law_773 : decode cL_law 773 = .ok (.iconst 2, 1) := by decide +kernel
theorem dL_law_774 : decode cL_law 774 = .ok (.iadd, 1) := by decide +kernel
theorem dL_law_775 : decode cL_law 775 = .ok (.iaload, 1) := by decide +kernel
theorem dL_law_776 : decode cL_law 776 = .ok (.invokevirtual 74, 3) := by decide +kernel
theorem dL_law_779 : decode cL_law 779 = .ok (.aload_n 2, 1) := by decide +kernel
theorem dL_law_780 : decode cL_law 780 = .ok (.aload_n 0, 1) := by decide +kernel
theorem dL_law_781 : decode cL_law 781 = .ok (.iload_n 3, 1) := by decide +kernel
theorem dL_law_782 : decode cL_law 782 = .ok (.iconst 1, 1) := by decide +kernel
theorem dL_law_783 : decode cL_law 783 = .ok (.iadd, 1) := by decide +kernel
theorem dL_law_784 : decode cL_law 784 = .ok (.iaload, 1) := by decide +kernel
theorem dL_law_785 : decode cL_law 785 = .ok (.aload_n 0, 1) := by decide +kernel
theorem dL_law_786 : decode cL_law 786 = .ok (.iload_n 3, 1) := by decide +kernel
theorem dL_law_787 : decode cL_law 787 = .ok (.iconst 2, 1) := by decide +kernel
theorem dL_law_788 : decode cL_law 788 = .ok (.iadd, 1) := by decide +kernel
theorem dL_law_789 : decode cL_law 789 = .ok (.iaload, 1) := by decide +kernel
theorem dL_law_790 : decode cL_law 790 = .ok (.invokevirtual 77, 3) := by decide +kernel
theorem dL_law_793 : decode cL_law 793 = .ok (.if_icmp .eq 75, 3) := by decide +kernel
theorem dL_law_796 : decode cL_law 796 = .ok (.iconst 0, 1) := by decide +kernel
theorem dL_law_797 : decode cL_law 797 = .ok (.ireturn, 1) := by decide +kernel
theorem dL_law_798 : decode cL_law 798 = .ok (.aload_n 1, 1) := by decide +kernel
theorem dL_law_799 : decode cL_law 799 = .ok (.aload_n 0, 1) := by decide +kernel
theorem dL_law_800 : decode cL_law 800 = .ok (.iload_n 3, 1) := by decide +kernel
theorem dL_law_801 : decode cL_law 801 = .ok (.iconst 1, 1) := by decide +kernel
theorem dL_law_802 : decode cL_law 802 = .ok (.iadd, 1) := by decide +kernel
theorem dL_law_803 : decode cL_law 803 = .ok (.iaload, 1) := by decide +kernel
theorem dL_law_804 : decode cL_law 804 = .ok (.invokevirtual 78, 3) := by decide +kernel
theorem dL_law_807 : decode cL_law 807 = .ok (.aload_n 2, 1) := by decide +kernel
theorem dL_law_808 : decode cL_law 808 = .ok (.aload_n 0, 1) := by decide +kernel
theorem dL_law_809 : decode cL_law 809 = .ok (.iload_n 3, 1) := by decide +kernel
theorem dL_law_810 : decode cL_law 810 = .ok (.iconst 1, 1) := by decide +kernel
theorem dL_law_811 : decode cL_law 811 = .ok (.iadd, 1) := by decide +kernel
theorem dL_law_812 : decode cL_law 812 = .ok (.iaload, 1) := by decide +kernel
theorem dL_law_813 : decode cL_law 813 = .ok (.invokevirtual 82, 3) := by decide +kernel
theorem dL_law_816 : decode cL_law 816 = .ok (.lcmp, 1) := by decide +kernel
theorem dL_law_817 : decode cL_law 817 = .ok (.ifCond .eq 51, 3) := by decide +kernel
theorem dL_law_820 : decode cL_law 820 = .ok (.iconst 0, 1) := by decide +kernel
theorem dL_law_821 : decode cL_law 821 = .ok (.ireturn, 1) := by decide +kernel
theorem dL_law_822 : decode cL_law 822 = .ok (.aload_n 1, 1) := by decide +kernel
theorem dL_law_823 : decode cL_law 823 = .ok (.aload_n 0, 1) := by decide +kernel
theorem dL_law_824 : decode cL_law 824 = .ok (.iload_n 3, 1) := by decide +kernel
theorem dL_law_825 : decode cL_law 825 = .ok (.iconst 1, 1) := by decide +kernel
theorem dL_law_826 : decode cL_law 826 = .ok (.iadd, 1) := by decide +kernel
theorem dL_law_827 : decode cL_law 827 = .ok (.iaload, 1) := by decide +kernel
theorem dL_law_828 : decode cL_law 828 = .ok (.invokevirtual 83, 3) := by decide +kernel
theorem dL_law_831 : decode cL_law 831 = .ok (.aload_n 2, 1) := by decide +kernel
theorem dL_law_832 : decode cL_law 832 = .ok (.aload_n 0, 1) := by decide +kernel
theorem dL_law_833 : decode cL_law 833 = .ok (.iload_n 3, 1) := by decide +kernel
theorem dL_law_834 : decode cL_law 834 = .ok (.iconst 1, 1) := by decide +kernel
theorem dL_law_835 : decode cL_law 835 = .ok (.iadd, 1) := by decide +kernel
theorem dL_law_836 : decode cL_law 836 = .ok (.iaload, 1) := by decide +kernel
theorem dL_law_837 : decode cL_law 837 = .ok (.invokevirtual 87, 3) := by decide +kernel
theorem dL_law_840 : decode cL_law 840 = .ok (.if_icmp .eq 28, 3) := by decide +kernel
theorem dL_law_843 : decode cL_law 843 = .ok (.iconst 0, 1) := by decide +kernel
theorem dL_law_844 : decode cL_law 844 = .ok (.ireturn, 1) := by decide +kernel
theorem dL_law_845 : decode cL_law 845 = .ok (.aload_n 1, 1) := by decide +kernel
theorem dL_law_846 : decode cL_law 846 = .ok (.aload_n 0, 1) := by decide +kernel
theorem dL_law_847 : decode cL_law 847 = .ok (.iload_n 3, 1) := by decide +kernel
theorem dL_law_848 : decode cL_law 848 = .ok (.iconst 1, 1) := by decide +kernel
theorem dL_law_849 : decode cL_law 849 = .ok (.iadd, 1) := by decide +kernel
theorem dL_law_850 : decode cL_law 850 = .ok (.iaload, 1) := by decide +kernel
theorem dL_law_851 : decode cL_law 851 = .ok (.invokevirtual 88, 3) := by decide +kernel
theorem dL_law_854 : decode cL_law 854 = .ok (.aload_n 2, 1) := by decide +kernel
theorem dL_law_855 : decode cL_law 855 = .ok (.aload_n 0, 1) := by decide +kernel
theorem dL_law_856 : decode cL_law 856 = .ok (.iload_n 3, 1) := by decide +kernel
theorem dL_law_857 : decode cL_law 857 = .ok (.iconst 1, 1) := by decide +kernel
theorem dL_law_858 : decode cL_law 858 = .ok (.iadd, 1) := by decide +kernel
theorem dL_law_859 : decode cL_law 859 = .ok (.iaload, 1) := by decide +kernel
theorem dL_law_860 : decode cL_law 860 = .ok (.invokevirtual 91, 3) := by decide +kernel
theorem dL_law_863 : decode cL_law 863 = .ok (.if_icmp .eq 5, 3) := by decide +kernel
theorem dL_law_866 : decode cL_law 866 = .ok (.iconst 0, 1) := by decide +kernel
theorem dL_law_867 : decode cL_law 867 = .ok (.ireturn, 1) := by decide +kernel
theorem dL_law_868 : decode cL_law 868 = .ok (.iinc 3 6, 3) := by decide +kernel
theorem dL_law_871 : decode cL_law 871 = .ok (.goto (-853), 3) := by decide +kernel
theorem dL_law_874 : decode cL_law 874 = .ok (.iconst 1, 1) := by decide +kernel
theorem dL_law_875 : decode cL_law 875 = .ok (.ireturn, 1) := by decide +kernel
abbrev vwCl : List vw_C := [(RX0, TX0, 3), (RX1, TX1, 2), (RX2, TX2, 7), (RX3, TX3, 4), (RX4, TX4, 7)]
